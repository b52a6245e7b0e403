section
-- ===== PART A: goes FIRST, ahead of the names: the tables' words, and 'selects' of the private methods out of them =====
/-- a private method of a class that the tables say can be made, by its rows of tables_1 -/
def lw_okq (q : MethodName × Nat) : Prop := (q.1.cls ≠ "java/lang/invoke/MethodHandle" ∧ q.1.cls ≠ "java/lang/invoke/VarHandle") ∧ Cond.instantiable q.1.cls q.2 ∈ tables_1 ∧ Cond.privateMethod q.1 ∈ tables_1 ∧ Cond.instanceMethod q.1 ∈ tables_1
theorem lw_p0 : lw_okq (⟨"IntentVats$Tape", "readWord", "()V"⟩, 6) := ⟨⟨by decide +kernel, by decide +kernel⟩, List.mem_of_getElem? (i := 115) (by decide +kernel), List.mem_of_getElem? (i := 255) (by decide +kernel), List.mem_of_getElem? (i := 256) (by decide +kernel)⟩
theorem lw_p1 : lw_okq (⟨"IntentVats$Tape", "readDigits", "()V"⟩, 6) := ⟨⟨by decide +kernel, by decide +kernel⟩, List.mem_of_getElem? (i := 115) (by decide +kernel), List.mem_of_getElem? (i := 260) (by decide +kernel), List.mem_of_getElem? (i := 261) (by decide +kernel)⟩
theorem lw_p2 : lw_okq (⟨"IntentVats$Tape", "readStatement", "(LIntentVats$Mill;)Z"⟩, 6) := ⟨⟨by decide +kernel, by decide +kernel⟩, List.mem_of_getElem? (i := 115) (by decide +kernel), List.mem_of_getElem? (i := 264) (by decide +kernel), List.mem_of_getElem? (i := 265) (by decide +kernel)⟩
theorem lw_p3 : lw_okq (⟨"IntentVats$Tape", "kindNamed", "()I"⟩, 6) := ⟨⟨by decide +kernel, by decide +kernel⟩, List.mem_of_getElem? (i := 115) (by decide +kernel), List.mem_of_getElem? (i := 268) (by decide +kernel), List.mem_of_getElem? (i := 269) (by decide +kernel)⟩
theorem lw_p4 : lw_okq (⟨"IntentVats$Tape", "isName", "(Ljava/lang/String;)Z"⟩, 6) := ⟨⟨by decide +kernel, by decide +kernel⟩, List.mem_of_getElem? (i := 115) (by decide +kernel), List.mem_of_getElem? (i := 273) (by decide +kernel), List.mem_of_getElem? (i := 274) (by decide +kernel)⟩
theorem lw_p5 : lw_okq (⟨"IntentVats$Tape", "readCloth", "(LIntentVats$Mill;I)Z"⟩, 6) := ⟨⟨by decide +kernel, by decide +kernel⟩, List.mem_of_getElem? (i := 115) (by decide +kernel), List.mem_of_getElem? (i := 330) (by decide +kernel), List.mem_of_getElem? (i := 331) (by decide +kernel)⟩
theorem lw_p6 : lw_okq (⟨"IntentVats$Tape", "readNumber", "(II)Z"⟩, 6) := ⟨⟨by decide +kernel, by decide +kernel⟩, List.mem_of_getElem? (i := 115) (by decide +kernel), List.mem_of_getElem? (i := 339) (by decide +kernel), List.mem_of_getElem? (i := 340) (by decide +kernel)⟩
theorem lw_p7 : lw_okq (⟨"IntentVats$Tape", "isStop", "()Z"⟩, 6) := ⟨⟨by decide +kernel, by decide +kernel⟩, List.mem_of_getElem? (i := 115) (by decide +kernel), List.mem_of_getElem? (i := 345) (by decide +kernel), List.mem_of_getElem? (i := 346) (by decide +kernel)⟩
theorem lw_p8 : lw_okq (⟨"IntentVats$Tape", "readVat", "(LIntentVats$Mill;)Z"⟩, 6) := ⟨⟨by decide +kernel, by decide +kernel⟩, List.mem_of_getElem? (i := 115) (by decide +kernel), List.mem_of_getElem? (i := 350) (by decide +kernel), List.mem_of_getElem? (i := 351) (by decide +kernel)⟩
theorem lw_p9 : lw_okq (⟨"IntentVats$Tape", "readName", "(Ljava/lang/String;)Z"⟩, 6) := ⟨⟨by decide +kernel, by decide +kernel⟩, List.mem_of_getElem? (i := 115) (by decide +kernel), List.mem_of_getElem? (i := 355) (by decide +kernel), List.mem_of_getElem? (i := 356) (by decide +kernel)⟩
theorem lw_p10 : lw_okq (⟨"IntentVats$Tape", "readStop", "()Z"⟩, 6) := ⟨⟨by decide +kernel, by decide +kernel⟩, List.mem_of_getElem? (i := 115) (by decide +kernel), List.mem_of_getElem? (i := 359) (by decide +kernel), List.mem_of_getElem? (i := 360) (by decide +kernel)⟩
theorem lw_p11 : lw_okq (⟨"IntentVats$Tape", "readStrong", "(LIntentVats$Mill;)Z"⟩, 6) := ⟨⟨by decide +kernel, by decide +kernel⟩, List.mem_of_getElem? (i := 115) (by decide +kernel), List.mem_of_getElem? (i := 364) (by decide +kernel), List.mem_of_getElem? (i := 365) (by decide +kernel)⟩
theorem lw_p12 : lw_okq (⟨"IntentVats$Tape", "readDay", "(LIntentVats$Mill;)Z"⟩, 6) := ⟨⟨by decide +kernel, by decide +kernel⟩, List.mem_of_getElem? (i := 115) (by decide +kernel), List.mem_of_getElem? (i := 369) (by decide +kernel), List.mem_of_getElem? (i := 370) (by decide +kernel)⟩
theorem lw_p13 : lw_okq (⟨"IntentVats$Tape", "lawNamed", "()I"⟩, 6) := ⟨⟨by decide +kernel, by decide +kernel⟩, List.mem_of_getElem? (i := 115) (by decide +kernel), List.mem_of_getElem? (i := 373) (by decide +kernel), List.mem_of_getElem? (i := 374) (by decide +kernel)⟩
theorem lw_p14 : lw_okq (⟨"IntentVats$Tape", "readLaw", "(LIntentVats$Mill;I)Z"⟩, 6) := ⟨⟨by decide +kernel, by decide +kernel⟩, List.mem_of_getElem? (i := 115) (by decide +kernel), List.mem_of_getElem? (i := 381) (by decide +kernel), List.mem_of_getElem? (i := 382) (by decide +kernel)⟩
theorem lw_p15 : lw_okq (⟨"IntentVats$Mill", "isForOdds", "(I)Z"⟩, 12) := ⟨⟨by decide +kernel, by decide +kernel⟩, List.mem_of_getElem? (i := 27) (by decide +kernel), List.mem_of_getElem? (i := 569) (by decide +kernel), List.mem_of_getElem? (i := 570) (by decide +kernel)⟩
def lw_privs_1 : List (MethodName × Nat) := [(⟨"IntentVats$Tape", "readWord", "()V"⟩, 6), (⟨"IntentVats$Tape", "readDigits", "()V"⟩, 6), (⟨"IntentVats$Tape", "readStatement", "(LIntentVats$Mill;)Z"⟩, 6), (⟨"IntentVats$Tape", "kindNamed", "()I"⟩, 6), (⟨"IntentVats$Tape", "isName", "(Ljava/lang/String;)Z"⟩, 6), (⟨"IntentVats$Tape", "readCloth", "(LIntentVats$Mill;I)Z"⟩, 6), (⟨"IntentVats$Tape", "readNumber", "(II)Z"⟩, 6), (⟨"IntentVats$Tape", "isStop", "()Z"⟩, 6), (⟨"IntentVats$Tape", "readVat", "(LIntentVats$Mill;)Z"⟩, 6), (⟨"IntentVats$Tape", "readName", "(Ljava/lang/String;)Z"⟩, 6), (⟨"IntentVats$Tape", "readStop", "()Z"⟩, 6), (⟨"IntentVats$Tape", "readStrong", "(LIntentVats$Mill;)Z"⟩, 6), (⟨"IntentVats$Tape", "readDay", "(LIntentVats$Mill;)Z"⟩, 6), (⟨"IntentVats$Tape", "lawNamed", "()I"⟩, 6), (⟨"IntentVats$Tape", "readLaw", "(LIntentVats$Mill;I)Z"⟩, 6), (⟨"IntentVats$Mill", "isForOdds", "(I)Z"⟩, 12)]
theorem lw_r1 : ∀ q ∈ lw_privs_1, lw_okq q := List.forall_mem_cons.mpr ⟨lw_p0, List.forall_mem_cons.mpr ⟨lw_p1, List.forall_mem_cons.mpr ⟨lw_p2, List.forall_mem_cons.mpr ⟨lw_p3, List.forall_mem_cons.mpr ⟨lw_p4, List.forall_mem_cons.mpr ⟨lw_p5, List.forall_mem_cons.mpr ⟨lw_p6, List.forall_mem_cons.mpr ⟨lw_p7, List.forall_mem_cons.mpr ⟨lw_p8, List.forall_mem_cons.mpr ⟨lw_p9, List.forall_mem_cons.mpr ⟨lw_p10, List.forall_mem_cons.mpr ⟨lw_p11, List.forall_mem_cons.mpr ⟨lw_p12, List.forall_mem_cons.mpr ⟨lw_p13, List.forall_mem_cons.mpr ⟨lw_p14, List.forall_mem_cons.mpr ⟨lw_p15, fun _ h => absurd h List.not_mem_nil⟩⟩⟩⟩⟩⟩⟩⟩⟩⟩⟩⟩⟩⟩⟩⟩
theorem lw_p16 : lw_okq (⟨"IntentVats$Forecast", "spoiltFromHere", "(LIntentVats$Mill;I)I"⟩, 1) := ⟨⟨by decide +kernel, by decide +kernel⟩, List.mem_of_getElem? (i := 103) (by decide +kernel), List.mem_of_getElem? (i := 606) (by decide +kernel), List.mem_of_getElem? (i := 607) (by decide +kernel)⟩
theorem lw_p17 : lw_okq (⟨"IntentVats$Forecast", "leadsTo", "(LIntentVats$Mill;IIII)Z"⟩, 1) := ⟨⟨by decide +kernel, by decide +kernel⟩, List.mem_of_getElem? (i := 103) (by decide +kernel), List.mem_of_getElem? (i := 618) (by decide +kernel), List.mem_of_getElem? (i := 619) (by decide +kernel)⟩
theorem lw_p18 : lw_okq (⟨"IntentVats$Forecast", "hangJust", "(LIntentVats$Mill;I)V"⟩, 1) := ⟨⟨by decide +kernel, by decide +kernel⟩, List.mem_of_getElem? (i := 103) (by decide +kernel), List.mem_of_getElem? (i := 662) (by decide +kernel), List.mem_of_getElem? (i := 663) (by decide +kernel)⟩
theorem lw_p19 : lw_okq (⟨"IntentVats$Forecast", "fitsAs", "(LIntentVats$Mill;IILIntentVats$SheetRow;)Z"⟩, 1) := ⟨⟨by decide +kernel, by decide +kernel⟩, List.mem_of_getElem? (i := 103) (by decide +kernel), List.mem_of_getElem? (i := 677) (by decide +kernel), List.mem_of_getElem? (i := 678) (by decide +kernel)⟩
theorem lw_p20 : lw_okq (⟨"IntentVats$Forecast", "rowPart", "(II)I"⟩, 1) := ⟨⟨by decide +kernel, by decide +kernel⟩, List.mem_of_getElem? (i := 103) (by decide +kernel), List.mem_of_getElem? (i := 725) (by decide +kernel), List.mem_of_getElem? (i := 726) (by decide +kernel)⟩
theorem lw_p21 : lw_okq (⟨"IntentVats$Acts", "own", "(III)I"⟩, 6) := ⟨⟨by decide +kernel, by decide +kernel⟩, List.mem_of_getElem? (i := 172) (by decide +kernel), List.mem_of_getElem? (i := 850) (by decide +kernel), List.mem_of_getElem? (i := 851) (by decide +kernel)⟩
theorem lw_p22 : lw_okq (⟨"IntentVats$Acts", "body", "(III)I"⟩, 6) := ⟨⟨by decide +kernel, by decide +kernel⟩, List.mem_of_getElem? (i := 172) (by decide +kernel), List.mem_of_getElem? (i := 856) (by decide +kernel), List.mem_of_getElem? (i := 857) (by decide +kernel)⟩
theorem lw_p23 : lw_okq (⟨"IntentVats$Acts", "note", "(I)V"⟩, 6) := ⟨⟨by decide +kernel, by decide +kernel⟩, List.mem_of_getElem? (i := 172) (by decide +kernel), List.mem_of_getElem? (i := 860) (by decide +kernel), List.mem_of_getElem? (i := 861) (by decide +kernel)⟩
theorem lw_p24 : lw_okq (⟨"IntentVats$Acts", "parted", "(II)I"⟩, 6) := ⟨⟨by decide +kernel, by decide +kernel⟩, List.mem_of_getElem? (i := 172) (by decide +kernel), List.mem_of_getElem? (i := 864) (by decide +kernel), List.mem_of_getElem? (i := 865) (by decide +kernel)⟩
theorem lw_p25 : lw_okq (⟨"IntentVatsModel", "anew", "()V"⟩, 25) := ⟨⟨by decide +kernel, by decide +kernel⟩, List.mem_of_getElem? (i := 889) (by decide +kernel), List.mem_of_getElem? (i := 895) (by decide +kernel), List.mem_of_getElem? (i := 896) (by decide +kernel)⟩
theorem lw_p26 : lw_okq (⟨"IntentVatsModel", "becomes", "(II)I"⟩, 25) := ⟨⟨by decide +kernel, by decide +kernel⟩, List.mem_of_getElem? (i := 889) (by decide +kernel), List.mem_of_getElem? (i := 983) (by decide +kernel), List.mem_of_getElem? (i := 984) (by decide +kernel)⟩
theorem lw_p27 : lw_okq (⟨"IntentVatsModel", "adds", "(I)V"⟩, 25) := ⟨⟨by decide +kernel, by decide +kernel⟩, List.mem_of_getElem? (i := 889) (by decide +kernel), List.mem_of_getElem? (i := 1023) (by decide +kernel), List.mem_of_getElem? (i := 1024) (by decide +kernel)⟩
theorem lw_p28 : lw_okq (⟨"IntentVatsModel", "sets", "(III)V"⟩, 25) := ⟨⟨by decide +kernel, by decide +kernel⟩, List.mem_of_getElem? (i := 889) (by decide +kernel), List.mem_of_getElem? (i := 1027) (by decide +kernel), List.mem_of_getElem? (i := 1028) (by decide +kernel)⟩
theorem lw_p29 : lw_okq (⟨"IntentVatsModel", "isCloth", "(I)Z"⟩, 25) := ⟨⟨by decide +kernel, by decide +kernel⟩, List.mem_of_getElem? (i := 889) (by decide +kernel), List.mem_of_getElem? (i := 1035) (by decide +kernel), List.mem_of_getElem? (i := 1036) (by decide +kernel)⟩
theorem lw_p30 : lw_okq (⟨"IntentVatsModel", "its", "(II)I"⟩, 25) := ⟨⟨by decide +kernel, by decide +kernel⟩, List.mem_of_getElem? (i := 889) (by decide +kernel), List.mem_of_getElem? (i := 1040) (by decide +kernel), List.mem_of_getElem? (i := 1041) (by decide +kernel)⟩
theorem lw_p31 : lw_okq (⟨"IntentVatsModel", "takesOf", "(II)I"⟩, 25) := ⟨⟨by decide +kernel, by decide +kernel⟩, List.mem_of_getElem? (i := 889) (by decide +kernel), List.mem_of_getElem? (i := 1049) (by decide +kernel), List.mem_of_getElem? (i := 1050) (by decide +kernel)⟩
def lw_privs_2 : List (MethodName × Nat) := [(⟨"IntentVats$Forecast", "spoiltFromHere", "(LIntentVats$Mill;I)I"⟩, 1), (⟨"IntentVats$Forecast", "leadsTo", "(LIntentVats$Mill;IIII)Z"⟩, 1), (⟨"IntentVats$Forecast", "hangJust", "(LIntentVats$Mill;I)V"⟩, 1), (⟨"IntentVats$Forecast", "fitsAs", "(LIntentVats$Mill;IILIntentVats$SheetRow;)Z"⟩, 1), (⟨"IntentVats$Forecast", "rowPart", "(II)I"⟩, 1), (⟨"IntentVats$Acts", "own", "(III)I"⟩, 6), (⟨"IntentVats$Acts", "body", "(III)I"⟩, 6), (⟨"IntentVats$Acts", "note", "(I)V"⟩, 6), (⟨"IntentVats$Acts", "parted", "(II)I"⟩, 6), (⟨"IntentVatsModel", "anew", "()V"⟩, 25), (⟨"IntentVatsModel", "becomes", "(II)I"⟩, 25), (⟨"IntentVatsModel", "adds", "(I)V"⟩, 25), (⟨"IntentVatsModel", "sets", "(III)V"⟩, 25), (⟨"IntentVatsModel", "isCloth", "(I)Z"⟩, 25), (⟨"IntentVatsModel", "its", "(II)I"⟩, 25), (⟨"IntentVatsModel", "takesOf", "(II)I"⟩, 25)]
theorem lw_r2 : ∀ q ∈ lw_privs_2, lw_okq q := List.forall_mem_cons.mpr ⟨lw_p16, List.forall_mem_cons.mpr ⟨lw_p17, List.forall_mem_cons.mpr ⟨lw_p18, List.forall_mem_cons.mpr ⟨lw_p19, List.forall_mem_cons.mpr ⟨lw_p20, List.forall_mem_cons.mpr ⟨lw_p21, List.forall_mem_cons.mpr ⟨lw_p22, List.forall_mem_cons.mpr ⟨lw_p23, List.forall_mem_cons.mpr ⟨lw_p24, List.forall_mem_cons.mpr ⟨lw_p25, List.forall_mem_cons.mpr ⟨lw_p26, List.forall_mem_cons.mpr ⟨lw_p27, List.forall_mem_cons.mpr ⟨lw_p28, List.forall_mem_cons.mpr ⟨lw_p29, List.forall_mem_cons.mpr ⟨lw_p30, List.forall_mem_cons.mpr ⟨lw_p31, fun _ h => absurd h List.not_mem_nil⟩⟩⟩⟩⟩⟩⟩⟩⟩⟩⟩⟩⟩⟩⟩⟩
theorem lw_p32 : lw_okq (⟨"IntentVatsModel", "fightsOf", "(II)I"⟩, 25) := ⟨⟨by decide +kernel, by decide +kernel⟩, List.mem_of_getElem? (i := 889) (by decide +kernel), List.mem_of_getElem? (i := 1053) (by decide +kernel), List.mem_of_getElem? (i := 1054) (by decide +kernel)⟩
theorem lw_p33 : lw_okq (⟨"IntentVatsModel", "fadesOf", "(I)I"⟩, 25) := ⟨⟨by decide +kernel, by decide +kernel⟩, List.mem_of_getElem? (i := 889) (by decide +kernel), List.mem_of_getElem? (i := 1057) (by decide +kernel), List.mem_of_getElem? (i := 1058) (by decide +kernel)⟩
theorem lw_p34 : lw_okq (⟨"IntentVatsModel", "changed", "(III)I"⟩, 25) := ⟨⟨by decide +kernel, by decide +kernel⟩, List.mem_of_getElem? (i := 889) (by decide +kernel), List.mem_of_getElem? (i := 1065) (by decide +kernel), List.mem_of_getElem? (i := 1066) (by decide +kernel)⟩
theorem lw_p35 : lw_okq (⟨"IntentVatsModel", "dips", "(II)V"⟩, 25) := ⟨⟨by decide +kernel, by decide +kernel⟩, List.mem_of_getElem? (i := 889) (by decide +kernel), List.mem_of_getElem? (i := 1085) (by decide +kernel), List.mem_of_getElem? (i := 1086) (by decide +kernel)⟩
theorem lw_p36 : lw_okq (⟨"IntentVatsModel", "isDeep", "(II)V"⟩, 25) := ⟨⟨by decide +kernel, by decide +kernel⟩, List.mem_of_getElem? (i := 889) (by decide +kernel), List.mem_of_getElem? (i := 1089) (by decide +kernel), List.mem_of_getElem? (i := 1090) (by decide +kernel)⟩
theorem lw_p37 : lw_okq (⟨"IntentVatsModel", "goes", "(I)V"⟩, 25) := ⟨⟨by decide +kernel, by decide +kernel⟩, List.mem_of_getElem? (i := 889) (by decide +kernel), List.mem_of_getElem? (i := 1107) (by decide +kernel), List.mem_of_getElem? (i := 1108) (by decide +kernel)⟩
theorem lw_p38 : lw_okq (⟨"IntentVatsModel", "aDay", "()V"⟩, 25) := ⟨⟨by decide +kernel, by decide +kernel⟩, List.mem_of_getElem? (i := 889) (by decide +kernel), List.mem_of_getElem? (i := 1111) (by decide +kernel), List.mem_of_getElem? (i := 1112) (by decide +kernel)⟩
theorem lw_p39 : lw_okq (⟨"IntentVatsModel", "depths", "()I"⟩, 25) := ⟨⟨by decide +kernel, by decide +kernel⟩, List.mem_of_getElem? (i := 889) (by decide +kernel), List.mem_of_getElem? (i := 1115) (by decide +kernel), List.mem_of_getElem? (i := 1116) (by decide +kernel)⟩
theorem lw_p40 : lw_okq (⟨"IntentVatsModel", "byDraws", "()V"⟩, 25) := ⟨⟨by decide +kernel, by decide +kernel⟩, List.mem_of_getElem? (i := 889) (by decide +kernel), List.mem_of_getElem? (i := 1127) (by decide +kernel), List.mem_of_getElem? (i := 1128) (by decide +kernel)⟩
theorem lw_p41 : lw_okq (⟨"IntentVatsModel", "draw", "()I"⟩, 25) := ⟨⟨by decide +kernel, by decide +kernel⟩, List.mem_of_getElem? (i := 889) (by decide +kernel), List.mem_of_getElem? (i := 1131) (by decide +kernel), List.mem_of_getElem? (i := 1132) (by decide +kernel)⟩
theorem lw_p42 : lw_okq (⟨"IntentVatsModel", "lends", "()V"⟩, 25) := ⟨⟨by decide +kernel, by decide +kernel⟩, List.mem_of_getElem? (i := 889) (by decide +kernel), List.mem_of_getElem? (i := 1141) (by decide +kernel), List.mem_of_getElem? (i := 1142) (by decide +kernel)⟩
theorem lw_p43 : lw_okq (⟨"IntentVatsModel", "laysBack", "()V"⟩, 25) := ⟨⟨by decide +kernel, by decide +kernel⟩, List.mem_of_getElem? (i := 889) (by decide +kernel), List.mem_of_getElem? (i := 1148) (by decide +kernel), List.mem_of_getElem? (i := 1149) (by decide +kernel)⟩
theorem lw_p44 : lw_okq (⟨"IntentVatsModel", "hungSet", "()I"⟩, 25) := ⟨⟨by decide +kernel, by decide +kernel⟩, List.mem_of_getElem? (i := 889) (by decide +kernel), List.mem_of_getElem? (i := 1156) (by decide +kernel), List.mem_of_getElem? (i := 1157) (by decide +kernel)⟩
theorem lw_p45 : lw_okq (⟨"IntentVatsModel", "aboutSet", "()I"⟩, 25) := ⟨⟨by decide +kernel, by decide +kernel⟩, List.mem_of_getElem? (i := 889) (by decide +kernel), List.mem_of_getElem? (i := 1160) (by decide +kernel), List.mem_of_getElem? (i := 1161) (by decide +kernel)⟩
theorem lw_p46 : lw_okq (⟨"IntentVatsModel", "oddsAmong", "()I"⟩, 25) := ⟨⟨by decide +kernel, by decide +kernel⟩, List.mem_of_getElem? (i := 889) (by decide +kernel), List.mem_of_getElem? (i := 1164) (by decide +kernel), List.mem_of_getElem? (i := 1165) (by decide +kernel)⟩
theorem lw_p47 : lw_okq (⟨"IntentVatsModel", "isAtOdds", "(II)Z"⟩, 25) := ⟨⟨by decide +kernel, by decide +kernel⟩, List.mem_of_getElem? (i := 889) (by decide +kernel), List.mem_of_getElem? (i := 1168) (by decide +kernel), List.mem_of_getElem? (i := 1169) (by decide +kernel)⟩
def lw_privs_3 : List (MethodName × Nat) := [(⟨"IntentVatsModel", "fightsOf", "(II)I"⟩, 25), (⟨"IntentVatsModel", "fadesOf", "(I)I"⟩, 25), (⟨"IntentVatsModel", "changed", "(III)I"⟩, 25), (⟨"IntentVatsModel", "dips", "(II)V"⟩, 25), (⟨"IntentVatsModel", "isDeep", "(II)V"⟩, 25), (⟨"IntentVatsModel", "goes", "(I)V"⟩, 25), (⟨"IntentVatsModel", "aDay", "()V"⟩, 25), (⟨"IntentVatsModel", "depths", "()I"⟩, 25), (⟨"IntentVatsModel", "byDraws", "()V"⟩, 25), (⟨"IntentVatsModel", "draw", "()I"⟩, 25), (⟨"IntentVatsModel", "lends", "()V"⟩, 25), (⟨"IntentVatsModel", "laysBack", "()V"⟩, 25), (⟨"IntentVatsModel", "hungSet", "()I"⟩, 25), (⟨"IntentVatsModel", "aboutSet", "()I"⟩, 25), (⟨"IntentVatsModel", "oddsAmong", "()I"⟩, 25), (⟨"IntentVatsModel", "isAtOdds", "(II)Z"⟩, 25)]
theorem lw_r3 : ∀ q ∈ lw_privs_3, lw_okq q := List.forall_mem_cons.mpr ⟨lw_p32, List.forall_mem_cons.mpr ⟨lw_p33, List.forall_mem_cons.mpr ⟨lw_p34, List.forall_mem_cons.mpr ⟨lw_p35, List.forall_mem_cons.mpr ⟨lw_p36, List.forall_mem_cons.mpr ⟨lw_p37, List.forall_mem_cons.mpr ⟨lw_p38, List.forall_mem_cons.mpr ⟨lw_p39, List.forall_mem_cons.mpr ⟨lw_p40, List.forall_mem_cons.mpr ⟨lw_p41, List.forall_mem_cons.mpr ⟨lw_p42, List.forall_mem_cons.mpr ⟨lw_p43, List.forall_mem_cons.mpr ⟨lw_p44, List.forall_mem_cons.mpr ⟨lw_p45, List.forall_mem_cons.mpr ⟨lw_p46, List.forall_mem_cons.mpr ⟨lw_p47, fun _ h => absurd h List.not_mem_nil⟩⟩⟩⟩⟩⟩⟩⟩⟩⟩⟩⟩⟩⟩⟩⟩
theorem lw_p48 : lw_okq (⟨"IntentVatsModel", "behind", "(III)I"⟩, 25) := ⟨⟨by decide +kernel, by decide +kernel⟩, List.mem_of_getElem? (i := 889) (by decide +kernel), List.mem_of_getElem? (i := 1179) (by decide +kernel), List.mem_of_getElem? (i := 1180) (by decide +kernel)⟩
theorem lw_p49 : lw_okq (⟨"IntentVatsModel", "firstAbout", "(II)I"⟩, 25) := ⟨⟨by decide +kernel, by decide +kernel⟩, List.mem_of_getElem? (i := 889) (by decide +kernel), List.mem_of_getElem? (i := 1191) (by decide +kernel), List.mem_of_getElem? (i := 1192) (by decide +kernel)⟩
theorem lw_p50 : lw_okq (⟨"IntentVatsModel", "spoiltIn", "(I)I"⟩, 25) := ⟨⟨by decide +kernel, by decide +kernel⟩, List.mem_of_getElem? (i := 889) (by decide +kernel), List.mem_of_getElem? (i := 1203) (by decide +kernel), List.mem_of_getElem? (i := 1204) (by decide +kernel)⟩
theorem lw_p51 : lw_okq (⟨"IntentVatsModel", "isThrough", "(IIII)Z"⟩, 25) := ⟨⟨by decide +kernel, by decide +kernel⟩, List.mem_of_getElem? (i := 889) (by decide +kernel), List.mem_of_getElem? (i := 1211) (by decide +kernel), List.mem_of_getElem? (i := 1212) (by decide +kernel)⟩
theorem lw_p52 : lw_okq (⟨"IntentVatsModel", "hangs", "(I)V"⟩, 25) := ⟨⟨by decide +kernel, by decide +kernel⟩, List.mem_of_getElem? (i := 889) (by decide +kernel), List.mem_of_getElem? (i := 1239) (by decide +kernel), List.mem_of_getElem? (i := 1240) (by decide +kernel)⟩
theorem lw_p53 : lw_okq (⟨"IntentVatsModel", "isSo", "(III)Z"⟩, 25) := ⟨⟨by decide +kernel, by decide +kernel⟩, List.mem_of_getElem? (i := 889) (by decide +kernel), List.mem_of_getElem? (i := 1250) (by decide +kernel), List.mem_of_getElem? (i := 1251) (by decide +kernel)⟩
theorem lw_p54 : lw_okq (⟨"IntentVatsModel", "next", "()V"⟩, 25) := ⟨⟨by decide +kernel, by decide +kernel⟩, List.mem_of_getElem? (i := 889) (by decide +kernel), List.mem_of_getElem? (i := 1276) (by decide +kernel), List.mem_of_getElem? (i := 1277) (by decide +kernel)⟩
theorem lw_p55 : lw_okq (⟨"IntentVatsModel", "isByte", "(III)Z"⟩, 25) := ⟨⟨by decide +kernel, by decide +kernel⟩, List.mem_of_getElem? (i := 889) (by decide +kernel), List.mem_of_getElem? (i := 1280) (by decide +kernel), List.mem_of_getElem? (i := 1281) (by decide +kernel)⟩
theorem lw_p56 : lw_okq (⟨"IntentVatsModel", "item", "()V"⟩, 25) := ⟨⟨by decide +kernel, by decide +kernel⟩, List.mem_of_getElem? (i := 889) (by decide +kernel), List.mem_of_getElem? (i := 1284) (by decide +kernel), List.mem_of_getElem? (i := 1285) (by decide +kernel)⟩
theorem lw_p57 : lw_okq (⟨"IntentVatsModel", "kindHere", "()I"⟩, 25) := ⟨⟨by decide +kernel, by decide +kernel⟩, List.mem_of_getElem? (i := 889) (by decide +kernel), List.mem_of_getElem? (i := 1288) (by decide +kernel), List.mem_of_getElem? (i := 1289) (by decide +kernel)⟩
theorem lw_p58 : lw_okq (⟨"IntentVatsModel", "isWord", "(Ljava/lang/String;)Z"⟩, 25) := ⟨⟨by decide +kernel, by decide +kernel⟩, List.mem_of_getElem? (i := 889) (by decide +kernel), List.mem_of_getElem? (i := 1293) (by decide +kernel), List.mem_of_getElem? (i := 1294) (by decide +kernel)⟩
theorem lw_p59 : lw_okq (⟨"IntentVatsModel", "lawHere", "()I"⟩, 25) := ⟨⟨by decide +kernel, by decide +kernel⟩, List.mem_of_getElem? (i := 889) (by decide +kernel), List.mem_of_getElem? (i := 1304) (by decide +kernel), List.mem_of_getElem? (i := 1305) (by decide +kernel)⟩
theorem lw_p60 : lw_okq (⟨"IntentVatsModel", "clothTold", "(I)V"⟩, 25) := ⟨⟨by decide +kernel, by decide +kernel⟩, List.mem_of_getElem? (i := 889) (by decide +kernel), List.mem_of_getElem? (i := 1312) (by decide +kernel), List.mem_of_getElem? (i := 1313) (by decide +kernel)⟩
theorem lw_p61 : lw_okq (⟨"IntentVatsModel", "must", "(Z)V"⟩, 25) := ⟨⟨by decide +kernel, by decide +kernel⟩, List.mem_of_getElem? (i := 889) (by decide +kernel), List.mem_of_getElem? (i := 1316) (by decide +kernel), List.mem_of_getElem? (i := 1317) (by decide +kernel)⟩
theorem lw_p62 : lw_okq (⟨"IntentVatsModel", "takes", "(Ljava/lang/String;)Z"⟩, 25) := ⟨⟨by decide +kernel, by decide +kernel⟩, List.mem_of_getElem? (i := 889) (by decide +kernel), List.mem_of_getElem? (i := 1321) (by decide +kernel), List.mem_of_getElem? (i := 1322) (by decide +kernel)⟩
theorem lw_p63 : lw_okq (⟨"IntentVatsModel", "number", "(II)I"⟩, 25) := ⟨⟨by decide +kernel, by decide +kernel⟩, List.mem_of_getElem? (i := 889) (by decide +kernel), List.mem_of_getElem? (i := 1325) (by decide +kernel), List.mem_of_getElem? (i := 1326) (by decide +kernel)⟩
def lw_privs_4 : List (MethodName × Nat) := [(⟨"IntentVatsModel", "behind", "(III)I"⟩, 25), (⟨"IntentVatsModel", "firstAbout", "(II)I"⟩, 25), (⟨"IntentVatsModel", "spoiltIn", "(I)I"⟩, 25), (⟨"IntentVatsModel", "isThrough", "(IIII)Z"⟩, 25), (⟨"IntentVatsModel", "hangs", "(I)V"⟩, 25), (⟨"IntentVatsModel", "isSo", "(III)Z"⟩, 25), (⟨"IntentVatsModel", "next", "()V"⟩, 25), (⟨"IntentVatsModel", "isByte", "(III)Z"⟩, 25), (⟨"IntentVatsModel", "item", "()V"⟩, 25), (⟨"IntentVatsModel", "kindHere", "()I"⟩, 25), (⟨"IntentVatsModel", "isWord", "(Ljava/lang/String;)Z"⟩, 25), (⟨"IntentVatsModel", "lawHere", "()I"⟩, 25), (⟨"IntentVatsModel", "clothTold", "(I)V"⟩, 25), (⟨"IntentVatsModel", "must", "(Z)V"⟩, 25), (⟨"IntentVatsModel", "takes", "(Ljava/lang/String;)Z"⟩, 25), (⟨"IntentVatsModel", "number", "(II)I"⟩, 25)]
theorem lw_r4 : ∀ q ∈ lw_privs_4, lw_okq q := List.forall_mem_cons.mpr ⟨lw_p48, List.forall_mem_cons.mpr ⟨lw_p49, List.forall_mem_cons.mpr ⟨lw_p50, List.forall_mem_cons.mpr ⟨lw_p51, List.forall_mem_cons.mpr ⟨lw_p52, List.forall_mem_cons.mpr ⟨lw_p53, List.forall_mem_cons.mpr ⟨lw_p54, List.forall_mem_cons.mpr ⟨lw_p55, List.forall_mem_cons.mpr ⟨lw_p56, List.forall_mem_cons.mpr ⟨lw_p57, List.forall_mem_cons.mpr ⟨lw_p58, List.forall_mem_cons.mpr ⟨lw_p59, List.forall_mem_cons.mpr ⟨lw_p60, List.forall_mem_cons.mpr ⟨lw_p61, List.forall_mem_cons.mpr ⟨lw_p62, List.forall_mem_cons.mpr ⟨lw_p63, fun _ h => absurd h List.not_mem_nil⟩⟩⟩⟩⟩⟩⟩⟩⟩⟩⟩⟩⟩⟩⟩⟩
theorem lw_p64 : lw_okq (⟨"IntentVatsModel", "figures", "()I"⟩, 25) := ⟨⟨by decide +kernel, by decide +kernel⟩, List.mem_of_getElem? (i := 889) (by decide +kernel), List.mem_of_getElem? (i := 1329) (by decide +kernel), List.mem_of_getElem? (i := 1330) (by decide +kernel)⟩
theorem lw_p65 : lw_okq (⟨"IntentVatsModel", "twoTold", "(IILjava/lang/String;I)V"⟩, 25) := ⟨⟨by decide +kernel, by decide +kernel⟩, List.mem_of_getElem? (i := 889) (by decide +kernel), List.mem_of_getElem? (i := 1337) (by decide +kernel), List.mem_of_getElem? (i := 1338) (by decide +kernel)⟩
theorem lw_p66 : lw_okq (⟨"IntentVatsModel", "lawTold", "(I)V"⟩, 25) := ⟨⟨by decide +kernel, by decide +kernel⟩, List.mem_of_getElem? (i := 889) (by decide +kernel), List.mem_of_getElem? (i := 1344) (by decide +kernel), List.mem_of_getElem? (i := 1345) (by decide +kernel)⟩
theorem lw_p67 : lw_okq (⟨"IntentVatsModel", "isCell", "(II)Z"⟩, 25) := ⟨⟨by decide +kernel, by decide +kernel⟩, List.mem_of_getElem? (i := 889) (by decide +kernel), List.mem_of_getElem? (i := 1358) (by decide +kernel), List.mem_of_getElem? (i := 1359) (by decide +kernel)⟩
theorem lw_p68 : lw_okq (⟨"IntentVatsModel", "isRight", "(II)Z"⟩, 25) := ⟨⟨by decide +kernel, by decide +kernel⟩, List.mem_of_getElem? (i := 889) (by decide +kernel), List.mem_of_getElem? (i := 1370) (by decide +kernel), List.mem_of_getElem? (i := 1371) (by decide +kernel)⟩
theorem lw_p69 : lw_okq (⟨"IntentVatsModel", "isHeld", "(I)Z"⟩, 25) := ⟨⟨by decide +kernel, by decide +kernel⟩, List.mem_of_getElem? (i := 889) (by decide +kernel), List.mem_of_getElem? (i := 1402) (by decide +kernel), List.mem_of_getElem? (i := 1403) (by decide +kernel)⟩
theorem lw_p70 : lw_okq (⟨"IntentVatsModel", "rubs", "(I)I"⟩, 25) := ⟨⟨by decide +kernel, by decide +kernel⟩, List.mem_of_getElem? (i := 889) (by decide +kernel), List.mem_of_getElem? (i := 1413) (by decide +kernel), List.mem_of_getElem? (i := 1414) (by decide +kernel)⟩
theorem lw_p71 : lw_okq (⟨"IntentVatsModel", "linenRubs", "(I)I"⟩, 25) := ⟨⟨by decide +kernel, by decide +kernel⟩, List.mem_of_getElem? (i := 889) (by decide +kernel), List.mem_of_getElem? (i := 1417) (by decide +kernel), List.mem_of_getElem? (i := 1418) (by decide +kernel)⟩
theorem lw_p72 : lw_okq (⟨"IntentVatsModel", "runs", "(I)V"⟩, 25) := ⟨⟨by decide +kernel, by decide +kernel⟩, List.mem_of_getElem? (i := 889) (by decide +kernel), List.mem_of_getElem? (i := 1421) (by decide +kernel), List.mem_of_getElem? (i := 1422) (by decide +kernel)⟩
theorem lw_p73 : lw_okq (⟨"IntentVatsModel", "plainRubs", "(I)I"⟩, 25) := ⟨⟨by decide +kernel, by decide +kernel⟩, List.mem_of_getElem? (i := 889) (by decide +kernel), List.mem_of_getElem? (i := 1425) (by decide +kernel), List.mem_of_getElem? (i := 1426) (by decide +kernel)⟩
theorem lw_p74 : lw_okq (⟨"IntentVatsModel", "steepsAct", "(I)I"⟩, 25) := ⟨⟨by decide +kernel, by decide +kernel⟩, List.mem_of_getElem? (i := 889) (by decide +kernel), List.mem_of_getElem? (i := 1429) (by decide +kernel), List.mem_of_getElem? (i := 1430) (by decide +kernel)⟩
theorem lw_p75 : lw_okq (⟨"IntentVatsModel", "plainSteeps", "(I)I"⟩, 25) := ⟨⟨by decide +kernel, by decide +kernel⟩, List.mem_of_getElem? (i := 889) (by decide +kernel), List.mem_of_getElem? (i := 1433) (by decide +kernel), List.mem_of_getElem? (i := 1434) (by decide +kernel)⟩
theorem lw_p76 : lw_okq (⟨"IntentVatsModel", "parts", "(I)I"⟩, 25) := ⟨⟨by decide +kernel, by decide +kernel⟩, List.mem_of_getElem? (i := 889) (by decide +kernel), List.mem_of_getElem? (i := 1437) (by decide +kernel), List.mem_of_getElem? (i := 1438) (by decide +kernel)⟩
theorem lw_p77 : lw_okq (⟨"IntentVatsModel", "plainParts", "(I)I"⟩, 25) := ⟨⟨by decide +kernel, by decide +kernel⟩, List.mem_of_getElem? (i := 889) (by decide +kernel), List.mem_of_getElem? (i := 1441) (by decide +kernel), List.mem_of_getElem? (i := 1442) (by decide +kernel)⟩
theorem lw_p78 : lw_okq (⟨"IntentVatsModel", "driesAct", "(I)I"⟩, 25) := ⟨⟨by decide +kernel, by decide +kernel⟩, List.mem_of_getElem? (i := 889) (by decide +kernel), List.mem_of_getElem? (i := 1445) (by decide +kernel), List.mem_of_getElem? (i := 1446) (by decide +kernel)⟩
theorem lw_p79 : lw_okq (⟨"IntentVatsModel", "plainDries", "(I)I"⟩, 25) := ⟨⟨by decide +kernel, by decide +kernel⟩, List.mem_of_getElem? (i := 889) (by decide +kernel), List.mem_of_getElem? (i := 1449) (by decide +kernel), List.mem_of_getElem? (i := 1450) (by decide +kernel)⟩
def lw_privs_5 : List (MethodName × Nat) := [(⟨"IntentVatsModel", "figures", "()I"⟩, 25), (⟨"IntentVatsModel", "twoTold", "(IILjava/lang/String;I)V"⟩, 25), (⟨"IntentVatsModel", "lawTold", "(I)V"⟩, 25), (⟨"IntentVatsModel", "isCell", "(II)Z"⟩, 25), (⟨"IntentVatsModel", "isRight", "(II)Z"⟩, 25), (⟨"IntentVatsModel", "isHeld", "(I)Z"⟩, 25), (⟨"IntentVatsModel", "rubs", "(I)I"⟩, 25), (⟨"IntentVatsModel", "linenRubs", "(I)I"⟩, 25), (⟨"IntentVatsModel", "runs", "(I)V"⟩, 25), (⟨"IntentVatsModel", "plainRubs", "(I)I"⟩, 25), (⟨"IntentVatsModel", "steepsAct", "(I)I"⟩, 25), (⟨"IntentVatsModel", "plainSteeps", "(I)I"⟩, 25), (⟨"IntentVatsModel", "parts", "(I)I"⟩, 25), (⟨"IntentVatsModel", "plainParts", "(I)I"⟩, 25), (⟨"IntentVatsModel", "driesAct", "(I)I"⟩, 25), (⟨"IntentVatsModel", "plainDries", "(I)I"⟩, 25)]
theorem lw_r5 : ∀ q ∈ lw_privs_5, lw_okq q := List.forall_mem_cons.mpr ⟨lw_p64, List.forall_mem_cons.mpr ⟨lw_p65, List.forall_mem_cons.mpr ⟨lw_p66, List.forall_mem_cons.mpr ⟨lw_p67, List.forall_mem_cons.mpr ⟨lw_p68, List.forall_mem_cons.mpr ⟨lw_p69, List.forall_mem_cons.mpr ⟨lw_p70, List.forall_mem_cons.mpr ⟨lw_p71, List.forall_mem_cons.mpr ⟨lw_p72, List.forall_mem_cons.mpr ⟨lw_p73, List.forall_mem_cons.mpr ⟨lw_p74, List.forall_mem_cons.mpr ⟨lw_p75, List.forall_mem_cons.mpr ⟨lw_p76, List.forall_mem_cons.mpr ⟨lw_p77, List.forall_mem_cons.mpr ⟨lw_p78, List.forall_mem_cons.mpr ⟨lw_p79, fun _ h => absurd h List.not_mem_nil⟩⟩⟩⟩⟩⟩⟩⟩⟩⟩⟩⟩⟩⟩⟩⟩
theorem lw_p80 : lw_okq (⟨"IntentVatsModel", "purposesAbout", "()I"⟩, 25) := ⟨⟨by decide +kernel, by decide +kernel⟩, List.mem_of_getElem? (i := 889) (by decide +kernel), List.mem_of_getElem? (i := 1461) (by decide +kernel), List.mem_of_getElem? (i := 1462) (by decide +kernel)⟩
def lw_privs_6 : List (MethodName × Nat) := [(⟨"IntentVatsModel", "purposesAbout", "()I"⟩, 25)]
theorem lw_r6 : ∀ q ∈ lw_privs_6, lw_okq q := List.forall_mem_cons.mpr ⟨lw_p80, fun _ h => absurd h List.not_mem_nil⟩
def lw_privs : List (MethodName × Nat) := lw_privs_1 ++ (lw_privs_2 ++ (lw_privs_3 ++ (lw_privs_4 ++ (lw_privs_5 ++ (lw_privs_6)))))
def lw_tbl : List Cond := k2_sels lw_privs ++ tables_1
theorem lw_privs_ok : ∀ q ∈ lw_privs, lw_okq q := by
  show ∀ q ∈ lw_privs_1 ++ (lw_privs_2 ++ (lw_privs_3 ++ (lw_privs_4 ++ (lw_privs_5 ++ (lw_privs_6))))), lw_okq q
  exact List.forall_mem_append.mpr ⟨lw_r1, List.forall_mem_append.mpr ⟨lw_r2, List.forall_mem_append.mpr ⟨lw_r3, List.forall_mem_append.mpr ⟨lw_r4, List.forall_mem_append.mpr ⟨lw_r5, lw_r6⟩⟩⟩⟩⟩
theorem goodIn_r {big : List Cond} (ws : List Cond) (ps : List Nat) (hp : ws = ps.filterMap (fun i => big[i]?)) (h : ws.all goodWord = true) : GoodIn big ws := by
  intro w hw
  have h1 := List.all_eq_true.mp h w hw
  rw [hp] at hw
  obtain ⟨i, -, hi⟩ := List.mem_filterMap.mp hw
  have hm : w ∈ big := by first | exact List.mem_of_getElem? hi | exact List.getElem?_mem hi
  exact ⟨hm, good_of_word h1⟩
theorem goodIn_app {big a b : List Cond} (ha : GoodIn big a) (hb : GoodIn big b) : GoodIn big (a ++ b) := fun w h => (List.mem_append.mp h).elim (ha w) (hb w)
theorem goodIn_ca {big a b : List Cond} {c : Cond} (ha : GoodIn big (c :: a)) (hb : GoodIn big b) : GoodIn big (c :: (a ++ b)) := fun w h => (List.mem_cons.mp h).elim (fun e => ha w (List.mem_cons.mpr (Or.inl e))) (fun h => (List.mem_append.mp h).elim (fun h => ha w (List.mem_cons.mpr (Or.inr h))) (hb w))
theorem goodIn_sub {big ws : List Cond} (hm : ∀ w ∈ ws, w ∈ big) (h : ws.all goodWord = true) : GoodIn big ws := fun w hw => ⟨hm w hw, good_of_word (List.all_eq_true.mp h w hw)⟩

def RX0 : String := "IntentVats$Acts"
def TX0 : u_T := fun k => match k with
  | 0 => ("IntentVats$Acts", "bodies", "[I", true)
  | 1 => ("IntentVats$Acts", "traced", "I", false)
  | 2 => ("IntentVats$Acts", "kind", "I", false)
  | 3 => ("IntentVats$Acts", "n", "I", false)
  | 4 => ("IntentVats$Acts", "a", "I", false)
  | _ => ("IntentVats$Acts", "broken", "Z", false)
def tyX0 : Nat → FieldType := fun k => match k with
  | 0 => .array .int
  | 1 => .int
  | 2 => .int
  | 3 => .int
  | 4 => .int
  | _ => .boolean
abbrev wsX00 : List Cond := u_ws RX0 TX0 6
theorem nmX0 : ∀ a, a < 6 → ∀ b, b < 6 → a ≠ b → (TX0 a).2.1 ≠ (TX0 b).2.1 := by decide +kernel
theorem tyX0_ok : ∀ k, k < 6 → parseFieldDescriptor (TX0 k).2.2.1 = some (tyX0 k) := by decide +kernel
abbrev cX0_init : ByteArray := prog_2_method_1_code
def yX0_init : MethodName := ⟨RX0, "<init>", "()V"⟩
abbrev cX0_forget : ByteArray := prog_2_method_2_code
def yX0_forget : MethodName := ⟨RX0, "forget", "()V"⟩
abbrev cX0_hold : ByteArray := prog_2_method_3_code
def yX0_hold : MethodName := ⟨RX0, "hold", "(III)V"⟩
abbrev cX0_perform : ByteArray := prog_2_method_4_code
def yX0_perform : MethodName := ⟨RX0, "perform", "(II)I"⟩
abbrev cX0_own : ByteArray := prog_2_method_5_code
def yX0_own : MethodName := ⟨RX0, "own", "(III)I"⟩
abbrev cX0_body : ByteArray := prog_2_method_6_code
def yX0_body : MethodName := ⟨RX0, "body", "(III)I"⟩
abbrev cX0_parted : ByteArray := prog_2_method_7_code
def yX0_parted : MethodName := ⟨RX0, "parted", "(II)I"⟩
abbrev cX0_note : ByteArray := prog_2_method_8_code
def yX0_note : MethodName := ⟨RX0, "note", "(I)V"⟩
def RX1 : String := "IntentVats$Chances"
def TX1 : u_T := fun k => match k with
  | _ => ("", "", "", false)
def tyX1 : Nat → FieldType := fun k => match k with
  | _ => .int
abbrev wsX10 : List Cond := u_ws RX1 TX1 0
theorem nmX1 : ∀ a, a < 0 → ∀ b, b < 0 → a ≠ b → (TX1 a).2.1 ≠ (TX1 b).2.1 := by decide +kernel
theorem tyX1_ok : ∀ k, k < 0 → parseFieldDescriptor (TX1 k).2.2.1 = some (tyX1 k) := by decide +kernel
abbrev cX1_justSlip : ByteArray := prog_3_method_2_code
def yX1_justSlip : MethodName := ⟨RX1, "justSlip", "(IIII)J"⟩
abbrev cX1_choices : ByteArray := prog_3_method_3_code
def yX1_choices : MethodName := ⟨RX1, "choices", "(II)J"⟩
abbrev cX1_partOf : ByteArray := prog_3_method_4_code
def yX1_partOf : MethodName := ⟨RX1, "partOf", "(JJI)J"⟩
abbrev cX1_commonDivisor : ByteArray := prog_3_method_5_code
def yX1_commonDivisor : MethodName := ⟨RX1, "commonDivisor", "(JJ)J"⟩
def RX2 : String := "IntentVats$Forecast"
def TX2 : u_T := fun k => match k with
  | _ => ("IntentVats$Forecast", "tried", "LIntentVats$Mill;", true)
def tyX2 : Nat → FieldType := fun k => match k with
  | _ => .object "IntentVats$Mill"
abbrev wsX20 : List Cond := u_ws RX2 TX2 1
theorem nmX2 : ∀ a, a < 1 → ∀ b, b < 1 → a ≠ b → (TX2 a).2.1 ≠ (TX2 b).2.1 := by decide +kernel
theorem tyX2_ok : ∀ k, k < 1 → parseFieldDescriptor (TX2 k).2.2.1 = some (tyX2 k) := by decide +kernel
abbrev cX2_init : ByteArray := prog_4_method_1_code
def yX2_init : MethodName := ⟨RX2, "<init>", "()V"⟩
abbrev cX2_behind : ByteArray := prog_4_method_2_code
def yX2_behind : MethodName := ⟨RX2, "behind", "(LIntentVats$Mill;I)LIntentVats$Mill;"⟩
abbrev cX2_luckyDays : ByteArray := prog_4_method_3_code
def yX2_luckyDays : MethodName := ⟨RX2, "luckyDays", "(LIntentVats$Mill;I)I"⟩
abbrev cX2_daysUntilAbout : ByteArray := prog_4_method_4_code
def yX2_daysUntilAbout : MethodName := ⟨RX2, "daysUntilAbout", "(LIntentVats$Mill;II)I"⟩
abbrev cX2_spoiltBehind : ByteArray := prog_4_method_5_code
def yX2_spoiltBehind : MethodName := ⟨RX2, "spoiltBehind", "(LIntentVats$Mill;I)I"⟩
abbrev cX2_spoiltFromHere : ByteArray := prog_4_method_6_code
def yX2_spoiltFromHere : MethodName := ⟨RX2, "spoiltFromHere", "(LIntentVats$Mill;I)I"⟩
abbrev cX2_vatsThrough : ByteArray := prog_4_method_7_code
def yX2_vatsThrough : MethodName := ⟨RX2, "vatsThrough", "(LIntentVats$Mill;II)I"⟩
abbrev cX2_leadsTo : ByteArray := prog_4_method_8_code
def yX2_leadsTo : MethodName := ⟨RX2, "leadsTo", "(LIntentVats$Mill;IIII)Z"⟩
abbrev cX2_deepestVat : ByteArray := prog_4_method_9_code
def yX2_deepestVat : MethodName := ⟨RX2, "deepestVat", "(LIntentVats$Mill;II)I"⟩
abbrev cX2_deepestKind : ByteArray := prog_4_method_10_code
def yX2_deepestKind : MethodName := ⟨RX2, "deepestKind", "(LIntentVats$Mill;II)I"⟩
abbrev cX2_leastStrength : ByteArray := prog_4_method_11_code
def yX2_leastStrength : MethodName := ⟨RX2, "leastStrength", "(LIntentVats$Mill;IIII)I"⟩
abbrev cX2_fewestHung : ByteArray := prog_4_method_12_code
def yX2_fewestHung : MethodName := ⟨RX2, "fewestHung", "(LIntentVats$Mill;II)I"⟩
abbrev cX2_hangJust : ByteArray := prog_4_method_13_code
def yX2_hangJust : MethodName := ⟨RX2, "hangJust", "(LIntentVats$Mill;I)V"⟩
abbrev cX2_manyFitting : ByteArray := prog_4_method_14_code
def yX2_manyFitting : MethodName := ⟨RX2, "manyFitting", "(LIntentVats$Mill;ILIntentVats$SheetRow;)I"⟩
abbrev cX2_leastFitting : ByteArray := prog_4_method_15_code
def yX2_leastFitting : MethodName := ⟨RX2, "leastFitting", "(LIntentVats$Mill;ILIntentVats$SheetRow;)I"⟩
abbrev cX2_fitsAs : ByteArray := prog_4_method_16_code
def yX2_fitsAs : MethodName := ⟨RX2, "fitsAs", "(LIntentVats$Mill;IILIntentVats$SheetRow;)Z"⟩
abbrev cX2_writeRows : ByteArray := prog_4_method_17_code
def yX2_writeRows : MethodName := ⟨RX2, "writeRows", "(LIntentVats$Mill;IILIntentVats$Rows;)V"⟩
abbrev cX2_firstWrongRow : ByteArray := prog_4_method_18_code
def yX2_firstWrongRow : MethodName := ⟨RX2, "firstWrongRow", "(LIntentVats$Mill;ILIntentVats$Rows;)I"⟩
abbrev cX2_rowPart : ByteArray := prog_4_method_19_code
def yX2_rowPart : MethodName := ⟨RX2, "rowPart", "(II)I"⟩
def RX3 : String := "IntentVats$Mill"
def TX3 : u_T := fun k => match k with
  | 0 => ("IntentVats$Mill", "laws", "[I", true)
  | 1 => ("IntentVats$Mill", "purposes", "[I", true)
  | 2 => ("IntentVats$Mill", "strengths", "[I", true)
  | 3 => ("IntentVats$Mill", "roster", "[I", true)
  | 4 => ("IntentVats$Mill", "kinds", "[I", true)
  | 5 => ("IntentVats$Mill", "abouts", "[I", true)
  | 6 => ("IntentVats$Mill", "deeps", "[I", true)
  | 7 => ("IntentVats$Mill", "hungs", "[I", true)
  | 8 => ("IntentVats$Mill", "dips", "[I", true)
  | 9 => ("IntentVats$Mill", "count", "I", false)
  | 10 => ("IntentVats$Mill", "day", "I", false)
  | _ => ("IntentVats$Mill", "z", "I", false)
def tyX3 : Nat → FieldType := fun k => match k with
  | 0 => .array .int
  | 1 => .array .int
  | 2 => .array .int
  | 3 => .array .int
  | 4 => .array .int
  | 5 => .array .int
  | 6 => .array .int
  | 7 => .array .int
  | 8 => .array .int
  | 9 => .int
  | 10 => .int
  | _ => .int
abbrev wsX30 : List Cond := u_ws RX3 TX3 12
theorem nmX3 : ∀ a, a < 12 → ∀ b, b < 12 → a ≠ b → (TX3 a).2.1 ≠ (TX3 b).2.1 := by decide +kernel
theorem tyX3_ok : ∀ k, k < 12 → parseFieldDescriptor (TX3 k).2.2.1 = some (tyX3 k) := by decide +kernel
abbrev cX3_init : ByteArray := prog_5_method_1_code
def yX3_init : MethodName := ⟨RX3, "<init>", "()V"⟩
abbrev cX3_becomeFirst : ByteArray := prog_5_method_2_code
def yX3_becomeFirst : MethodName := ⟨RX3, "becomeFirst", "()V"⟩
abbrev cX3_copyFrom : ByteArray := prog_5_method_3_code
def yX3_copyFrom : MethodName := ⟨RX3, "copyFrom", "(LIntentVats$Mill;)V"⟩
abbrev cX3_has : ByteArray := prog_5_method_4_code
def yX3_has : MethodName := ⟨RX3, "has", "(I)Z"⟩
abbrev cX3_addCloth : ByteArray := prog_5_method_5_code
def yX3_addCloth : MethodName := ⟨RX3, "addCloth", "(I)I"⟩
abbrev cX3_takes : ByteArray := prog_5_method_6_code
def yX3_takes : MethodName := ⟨RX3, "takes", "(II)I"⟩
abbrev cX3_fights : ByteArray := prog_5_method_7_code
def yX3_fights : MethodName := ⟨RX3, "fights", "(II)I"⟩
abbrev cX3_fades : ByteArray := prog_5_method_8_code
def yX3_fades : MethodName := ⟨RX3, "fades", "(I)I"⟩
abbrev cX3_dipInto : ByteArray := prog_5_method_9_code
def yX3_dipInto : MethodName := ⟨RX3, "dipInto", "(II)V"⟩
abbrev cX3_settle : ByteArray := prog_5_method_10_code
def yX3_settle : MethodName := ⟨RX3, "settle", "(II)V"⟩
abbrev cX3_deepen : ByteArray := prog_5_method_11_code
def yX3_deepen : MethodName := ⟨RX3, "deepen", "(II)V"⟩
abbrev cX3_vatOfToday : ByteArray := prog_5_method_12_code
def yX3_vatOfToday : MethodName := ⟨RX3, "vatOfToday", "()I"⟩
abbrev cX3_passDays : ByteArray := prog_5_method_13_code
def yX3_passDays : MethodName := ⟨RX3, "passDays", "(I)V"⟩
abbrev cX3_passDay : ByteArray := prog_5_method_14_code
def yX3_passDay : MethodName := ⟨RX3, "passDay", "()V"⟩
abbrev cX3_draw : ByteArray := prog_5_method_15_code
def yX3_draw : MethodName := ⟨RX3, "draw", "()I"⟩
abbrev cX3_passDrawnDay : ByteArray := prog_5_method_16_code
def yX3_passDrawnDay : MethodName := ⟨RX3, "passDrawnDay", "()V"⟩
abbrev cX3_allDepths : ByteArray := prog_5_method_17_code
def yX3_allDepths : MethodName := ⟨RX3, "allDepths", "()I"⟩
abbrev cX3_hungSet : ByteArray := prog_5_method_18_code
def yX3_hungSet : MethodName := ⟨RX3, "hungSet", "()I"⟩
abbrev cX3_aboutSet : ByteArray := prog_5_method_19_code
def yX3_aboutSet : MethodName := ⟨RX3, "aboutSet", "()I"⟩
abbrev cX3_purposeSet : ByteArray := prog_5_method_20_code
def yX3_purposeSet : MethodName := ⟨RX3, "purposeSet", "()I"⟩
abbrev cX3_oddPairs : ByteArray := prog_5_method_21_code
def yX3_oddPairs : MethodName := ⟨RX3, "oddPairs", "()I"⟩
abbrev cX3_isForOdds : ByteArray := prog_5_method_22_code
def yX3_isForOdds : MethodName := ⟨RX3, "isForOdds", "(I)Z"⟩
def RX4 : String := "IntentVats$Rows"
def TX4 : u_T := fun k => match k with
  | 0 => ("IntentVats$Rows", "parts", "[I", true)
  | _ => ("IntentVats$Rows", "count", "I", false)
def tyX4 : Nat → FieldType := fun k => match k with
  | 0 => .array .int
  | _ => .int
abbrev wsX40 : List Cond := u_ws RX4 TX4 2
theorem nmX4 : ∀ a, a < 2 → ∀ b, b < 2 → a ≠ b → (TX4 a).2.1 ≠ (TX4 b).2.1 := by decide +kernel
theorem tyX4_ok : ∀ k, k < 2 → parseFieldDescriptor (TX4 k).2.2.1 = some (tyX4 k) := by decide +kernel
abbrev cX4_init : ByteArray := prog_6_method_1_code
def yX4_init : MethodName := ⟨RX4, "<init>", "()V"⟩
abbrev cX4_has : ByteArray := prog_6_method_2_code
def yX4_has : MethodName := ⟨RX4, "has", "(II)Z"⟩
abbrev cX4_read : ByteArray := prog_6_method_3_code
def yX4_read : MethodName := ⟨RX4, "read", "(II)I"⟩
abbrev cX4_write : ByteArray := prog_6_method_4_code
def yX4_write : MethodName := ⟨RX4, "write", "(III)V"⟩
def RX5 : String := "IntentVats$SheetRow"
def TX5 : u_T := fun k => match k with
  | 0 => ("IntentVats$SheetRow", "sort", "I", true)
  | _ => ("IntentVats$SheetRow", "items", "[I", true)
def tyX5 : Nat → FieldType := fun k => match k with
  | 0 => .int
  | _ => .array .int
abbrev wsX50 : List Cond := u_ws RX5 TX5 2
theorem nmX5 : ∀ a, a < 2 → ∀ b, b < 2 → a ≠ b → (TX5 a).2.1 ≠ (TX5 b).2.1 := by decide +kernel
theorem tyX5_ok : ∀ k, k < 2 → parseFieldDescriptor (TX5 k).2.2.1 = some (tyX5 k) := by decide +kernel
abbrev cX5_init : ByteArray := prog_7_method_1_code
def yX5_init : MethodName := ⟨RX5, "<init>", "(II)V"⟩
abbrev cX5_size : ByteArray := prog_7_method_2_code
def yX5_size : MethodName := ⟨RX5, "size", "()I"⟩
abbrev cX5_has : ByteArray := prog_7_method_3_code
def yX5_has : MethodName := ⟨RX5, "has", "(I)Z"⟩
abbrev cX5_read : ByteArray := prog_7_method_4_code
def yX5_read : MethodName := ⟨RX5, "read", "(I)I"⟩
abbrev cX5_write : ByteArray := prog_7_method_5_code
def yX5_write : MethodName := ⟨RX5, "write", "(II)V"⟩
def RX6 : String := "IntentVats$Shelves"
def TX6 : u_T := fun k => match k with
  | 0 => ("IntentVats$Shelves", "cloths", "[I", true)
  | _ => ("IntentVats$Shelves", "held", "[LIntentVats$SheetRow;", true)
def tyX6 : Nat → FieldType := fun k => match k with
  | 0 => .array .int
  | _ => .array (.object "IntentVats$SheetRow")
abbrev wsX60 : List Cond := u_ws RX6 TX6 2
theorem nmX6 : ∀ a, a < 2 → ∀ b, b < 2 → a ≠ b → (TX6 a).2.1 ≠ (TX6 b).2.1 := by decide +kernel
theorem tyX6_ok : ∀ k, k < 2 → parseFieldDescriptor (TX6 k).2.2.1 = some (tyX6 k) := by decide +kernel
abbrev cX6_init : ByteArray := prog_8_method_1_code
def yX6_init : MethodName := ⟨RX6, "<init>", "()V"⟩
abbrev cX6_holdCloth : ByteArray := prog_8_method_2_code
def yX6_holdCloth : MethodName := ⟨RX6, "holdCloth", "(II)V"⟩
abbrev cX6_holdRow : ByteArray := prog_8_method_3_code
def yX6_holdRow : MethodName := ⟨RX6, "holdRow", "(ILIntentVats$SheetRow;)V"⟩
abbrev cX6_clothOn : ByteArray := prog_8_method_4_code
def yX6_clothOn : MethodName := ⟨RX6, "clothOn", "(I)I"⟩
abbrev cX6_rowOn : ByteArray := prog_8_method_5_code
def yX6_rowOn : MethodName := ⟨RX6, "rowOn", "(I)LIntentVats$SheetRow;"⟩
def RX7 : String := "IntentVats$Tape"
def TX7 : u_T := fun k => match k with
  | 0 => ("IntentVats$Tape", "bytes", "[I", true)
  | 1 => ("IntentVats$Tape", "length", "I", false)
  | 2 => ("IntentVats$Tape", "at", "I", false)
  | 3 => ("IntentVats$Tape", "start", "I", false)
  | 4 => ("IntentVats$Tape", "sort", "I", false)
  | _ => ("IntentVats$Tape", "number", "I", false)
def tyX7 : Nat → FieldType := fun k => match k with
  | 0 => .array .int
  | 1 => .int
  | 2 => .int
  | 3 => .int
  | 4 => .int
  | _ => .int
abbrev wsX70 : List Cond := u_ws RX7 TX7 6
theorem nmX7 : ∀ a, a < 6 → ∀ b, b < 6 → a ≠ b → (TX7 a).2.1 ≠ (TX7 b).2.1 := by decide +kernel
theorem tyX7_ok : ∀ k, k < 6 → parseFieldDescriptor (TX7 k).2.2.1 = some (tyX7 k) := by decide +kernel
abbrev cX7_init : ByteArray := prog_9_method_1_code
def yX7_init : MethodName := ⟨RX7, "<init>", "()V"⟩
abbrev cX7_room : ByteArray := prog_9_method_2_code
def yX7_room : MethodName := ⟨RX7, "room", "()I"⟩
abbrev cX7_take : ByteArray := prog_9_method_3_code
def yX7_take : MethodName := ⟨RX7, "take", "(JI)V"⟩
abbrev cX7_useUp : ByteArray := prog_9_method_4_code
def yX7_useUp : MethodName := ⟨RX7, "useUp", "()V"⟩
abbrev cX7_readInto : ByteArray := prog_9_method_5_code
def yX7_readInto : MethodName := ⟨RX7, "readInto", "(LIntentVats$Mill;)I"⟩
abbrev cX7_readStatement : ByteArray := prog_9_method_6_code
def yX7_readStatement : MethodName := ⟨RX7, "readStatement", "(LIntentVats$Mill;)Z"⟩
abbrev cX7_readCloth : ByteArray := prog_9_method_7_code
def yX7_readCloth : MethodName := ⟨RX7, "readCloth", "(LIntentVats$Mill;I)Z"⟩
abbrev cX7_readVat : ByteArray := prog_9_method_8_code
def yX7_readVat : MethodName := ⟨RX7, "readVat", "(LIntentVats$Mill;)Z"⟩
abbrev cX7_readStrong : ByteArray := prog_9_method_9_code
def yX7_readStrong : MethodName := ⟨RX7, "readStrong", "(LIntentVats$Mill;)Z"⟩
abbrev cX7_readDay : ByteArray := prog_9_method_10_code
def yX7_readDay : MethodName := ⟨RX7, "readDay", "(LIntentVats$Mill;)Z"⟩
abbrev cX7_readLaw : ByteArray := prog_9_method_11_code
def yX7_readLaw : MethodName := ⟨RX7, "readLaw", "(LIntentVats$Mill;I)Z"⟩
abbrev cX7_readNumber : ByteArray := prog_9_method_12_code
def yX7_readNumber : MethodName := ⟨RX7, "readNumber", "(II)Z"⟩
abbrev cX7_readName : ByteArray := prog_9_method_13_code
def yX7_readName : MethodName := ⟨RX7, "readName", "(Ljava/lang/String;)Z"⟩
abbrev cX7_readStop : ByteArray := prog_9_method_14_code
def yX7_readStop : MethodName := ⟨RX7, "readStop", "()Z"⟩
abbrev cX7_isStop : ByteArray := prog_9_method_15_code
def yX7_isStop : MethodName := ⟨RX7, "isStop", "()Z"⟩
abbrev cX7_kindNamed : ByteArray := prog_9_method_16_code
def yX7_kindNamed : MethodName := ⟨RX7, "kindNamed", "()I"⟩
abbrev cX7_lawNamed : ByteArray := prog_9_method_17_code
def yX7_lawNamed : MethodName := ⟨RX7, "lawNamed", "()I"⟩
abbrev cX7_isName : ByteArray := prog_9_method_18_code
def yX7_isName : MethodName := ⟨RX7, "isName", "(Ljava/lang/String;)Z"⟩
abbrev cX7_readWord : ByteArray := prog_9_method_19_code
def yX7_readWord : MethodName := ⟨RX7, "readWord", "()V"⟩
abbrev cX7_readDigits : ByteArray := prog_9_method_20_code
def yX7_readDigits : MethodName := ⟨RX7, "readDigits", "()V"⟩
def RX8 : String := "IntentVats"
def TX8 : u_T := fun k => match k with
  | 0 => ("IntentVats", "now", "LIntentVats$Mill;", true)
  | 1 => ("IntentVats", "told", "LIntentVats$Mill;", true)
  | 2 => ("IntentVats", "kept", "LIntentVats$Mill;", true)
  | 3 => ("IntentVats", "isKept", "Z", false)
  | 4 => ("IntentVats", "forecast", "LIntentVats$Forecast;", true)
  | 5 => ("IntentVats", "tape", "LIntentVats$Tape;", true)
  | 6 => ("IntentVats", "rows", "LIntentVats$Rows;", true)
  | 7 => ("IntentVats", "sheets", "[LIntentVats$SheetRow;", true)
  | 8 => ("IntentVats", "shelves", "LIntentVats$Shelves;", true)
  | _ => ("IntentVats", "acts", "LIntentVats$Acts;", true)
def tyX8 : Nat → FieldType := fun k => match k with
  | 0 => .object "IntentVats$Mill"
  | 1 => .object "IntentVats$Mill"
  | 2 => .object "IntentVats$Mill"
  | 3 => .boolean
  | 4 => .object "IntentVats$Forecast"
  | 5 => .object "IntentVats$Tape"
  | 6 => .object "IntentVats$Rows"
  | 7 => .array (.object "IntentVats$SheetRow")
  | 8 => .object "IntentVats$Shelves"
  | _ => .object "IntentVats$Acts"
abbrev wsX80 : List Cond := u_ws RX8 TX8 10
theorem nmX8 : ∀ a, a < 10 → ∀ b, b < 10 → a ≠ b → (TX8 a).2.1 ≠ (TX8 b).2.1 := by decide +kernel
theorem tyX8_ok : ∀ k, k < 10 → parseFieldDescriptor (TX8 k).2.2.1 = some (tyX8 k) := by decide +kernel
abbrev cX8_init : ByteArray := prog_1_method_1_code
def yX8_init : MethodName := ⟨RX8, "<init>", "()V"⟩
abbrev cX8_feed : ByteArray := prog_1_method_2_code
def yX8_feed : MethodName := ⟨RX8, "feed", "(JI)I"⟩
abbrev cX8_mill : ByteArray := prog_1_method_3_code
def yX8_mill : MethodName := ⟨RX8, "mill", "()I"⟩
abbrev cX8_set : ByteArray := prog_1_method_4_code
def yX8_set : MethodName := ⟨RX8, "set", "(II)I"⟩
abbrev cX8_lawOf : ByteArray := prog_1_method_5_code
def yX8_lawOf : MethodName := ⟨RX8, "lawOf", "(I)I"⟩
abbrev cX8_fill : ByteArray := prog_1_method_6_code
def yX8_fill : MethodName := ⟨RX8, "fill", "(III)I"⟩
abbrev cX8_vatOf : ByteArray := prog_1_method_7_code
def yX8_vatOf : MethodName := ⟨RX8, "vatOf", "(II)I"⟩
abbrev cX8_roster : ByteArray := prog_1_method_8_code
def yX8_roster : MethodName := ⟨RX8, "roster", "(II)I"⟩
abbrev cX8_rosterOf : ByteArray := prog_1_method_9_code
def yX8_rosterOf : MethodName := ⟨RX8, "rosterOf", "(I)I"⟩
abbrev cX8_cloth : ByteArray := prog_1_method_10_code
def yX8_cloth : MethodName := ⟨RX8, "cloth", "(I)I"⟩
abbrev cX8_of : ByteArray := prog_1_method_11_code
def yX8_of : MethodName := ⟨RX8, "of", "(II)I"⟩
abbrev cX8_does : ByteArray := prog_1_method_12_code
def yX8_does : MethodName := ⟨RX8, "does", "(III)I"⟩
abbrev cX8_mind : ByteArray := prog_1_method_13_code
def yX8_mind : MethodName := ⟨RX8, "mind", "(II)I"⟩
abbrev cX8_steep : ByteArray := prog_1_method_14_code
def yX8_steep : MethodName := ⟨RX8, "steep", "(III)I"⟩
abbrev cX8_hang : ByteArray := prog_1_method_15_code
def yX8_hang : MethodName := ⟨RX8, "hang", "(II)I"⟩
abbrev cX8_dip : ByteArray := prog_1_method_16_code
def yX8_dip : MethodName := ⟨RX8, "dip", "(II)I"⟩
abbrev cX8_days : ByteArray := prog_1_method_17_code
def yX8_days : MethodName := ⟨RX8, "days", "(I)I"⟩
abbrev cX8_seed : ByteArray := prog_1_method_18_code
def yX8_seed : MethodName := ⟨RX8, "seed", "(I)I"⟩
abbrev cX8_day : ByteArray := prog_1_method_19_code
def yX8_day : MethodName := ⟨RX8, "day", "()I"⟩
abbrev cX8_luck : ByteArray := prog_1_method_20_code
def yX8_luck : MethodName := ⟨RX8, "luck", "(I)I"⟩
abbrev cX8_state : ByteArray := prog_1_method_21_code
def yX8_state : MethodName := ⟨RX8, "state", "(I)I"⟩
abbrev cX8_gone : ByteArray := prog_1_method_22_code
def yX8_gone : MethodName := ⟨RX8, "gone", "(II)I"⟩
abbrev cX8_depth : ByteArray := prog_1_method_23_code
def yX8_depth : MethodName := ⟨RX8, "depth", "(II)I"⟩
abbrev cX8_comes : ByteArray := prog_1_method_24_code
def yX8_comes : MethodName := ⟨RX8, "comes", "(II)I"⟩
abbrev cX8_bare : ByteArray := prog_1_method_25_code
def yX8_bare : MethodName := ⟨RX8, "bare", "(I)I"⟩
abbrev cX8_spoilt : ByteArray := prog_1_method_26_code
def yX8_spoilt : MethodName := ⟨RX8, "spoilt", "(I)I"⟩
abbrev cX8_through : ByteArray := prog_1_method_27_code
def yX8_through : MethodName := ⟨RX8, "through", "(II)I"⟩
abbrev cX8_vatFor : ByteArray := prog_1_method_28_code
def yX8_vatFor : MethodName := ⟨RX8, "vatFor", "(II)I"⟩
abbrev cX8_kindFor : ByteArray := prog_1_method_29_code
def yX8_kindFor : MethodName := ⟨RX8, "kindFor", "(II)I"⟩
abbrev cX8_strengthFor : ByteArray := prog_1_method_30_code
def yX8_strengthFor : MethodName := ⟨RX8, "strengthFor", "(IIII)I"⟩
abbrev cX8_hangFor : ByteArray := prog_1_method_31_code
def yX8_hangFor : MethodName := ⟨RX8, "hangFor", "(II)I"⟩
abbrev cX8_fits : ByteArray := prog_1_method_32_code
def yX8_fits : MethodName := ⟨RX8, "fits", "(III)I"⟩
abbrev cX8_odds : ByteArray := prog_1_method_33_code
def yX8_odds : MethodName := ⟨RX8, "odds", "(III)J"⟩
abbrev cX8_hope : ByteArray := prog_1_method_34_code
def yX8_hope : MethodName := ⟨RX8, "hope", "(II)J"⟩
abbrev cX8_prove : ByteArray := prog_1_method_35_code
def yX8_prove : MethodName := ⟨RX8, "prove", "(II)I"⟩
abbrev cX8_row : ByteArray := prog_1_method_36_code
def yX8_row : MethodName := ⟨RX8, "row", "(II)I"⟩
abbrev cX8_alterRow : ByteArray := prog_1_method_37_code
def yX8_alterRow : MethodName := ⟨RX8, "alterRow", "(III)I"⟩
abbrev cX8_judge : ByteArray := prog_1_method_38_code
def yX8_judge : MethodName := ⟨RX8, "judge", "(I)I"⟩
abbrev cX8_minds : ByteArray := prog_1_method_39_code
def yX8_minds : MethodName := ⟨RX8, "minds", "(IIII)I"⟩
abbrev cX8_sheet : ByteArray := prog_1_method_40_code
def yX8_sheet : MethodName := ⟨RX8, "sheet", "(III)I"⟩
abbrev cX8_put : ByteArray := prog_1_method_41_code
def yX8_put : MethodName := ⟨RX8, "put", "(III)I"⟩
abbrev cX8_item : ByteArray := prog_1_method_42_code
def yX8_item : MethodName := ⟨RX8, "item", "(III)I"⟩
abbrev cX8_shelf : ByteArray := prog_1_method_43_code
def yX8_shelf : MethodName := ⟨RX8, "shelf", "(III)I"⟩
abbrev cX8_taken : ByteArray := prog_1_method_44_code
def yX8_taken : MethodName := ⟨RX8, "taken", "(II)I"⟩
abbrev cX8_act : ByteArray := prog_1_method_45_code
def yX8_act : MethodName := ⟨RX8, "act", "(III)I"⟩
abbrev cX8_trace : ByteArray := prog_1_method_46_code
def yX8_trace : MethodName := ⟨RX8, "trace", "(I)I"⟩
abbrev cX8_many : ByteArray := prog_1_method_47_code
def yX8_many : MethodName := ⟨RX8, "many", "(I)I"⟩
abbrev cX8_keep : ByteArray := prog_1_method_48_code
def yX8_keep : MethodName := ⟨RX8, "keep", "()I"⟩
abbrev cX8_again : ByteArray := prog_1_method_49_code
def yX8_again : MethodName := ⟨RX8, "again", "()I"⟩
abbrev cX8_isIn : ByteArray := prog_1_method_50_code
def yX8_isIn : MethodName := ⟨RX8, "isIn", "(III)Z"⟩
abbrev cX8_isVat : ByteArray := prog_1_method_51_code
def yX8_isVat : MethodName := ⟨RX8, "isVat", "(I)Z"⟩
abbrev cX8_isRest : ByteArray := prog_1_method_52_code
def yX8_isRest : MethodName := ⟨RX8, "isRest", "(I)Z"⟩
abbrev cX8_isKind : ByteArray := prog_1_method_53_code
def yX8_isKind : MethodName := ⟨RX8, "isKind", "(I)Z"⟩
abbrev cX8_isPurpose : ByteArray := prog_1_method_54_code
def yX8_isPurpose : MethodName := ⟨RX8, "isPurpose", "(I)Z"⟩
abbrev cX8_isDays : ByteArray := prog_1_method_55_code
def yX8_isDays : MethodName := ⟨RX8, "isDays", "(I)Z"⟩
abbrev cX8_isSheet : ByteArray := prog_1_method_56_code
def yX8_isSheet : MethodName := ⟨RX8, "isSheet", "(I)Z"⟩
abbrev cX8_isShelf : ByteArray := prog_1_method_57_code
def yX8_isShelf : MethodName := ⟨RX8, "isShelf", "(I)Z"⟩
abbrev cX8_mostOfLaw : ByteArray := prog_1_method_58_code
def yX8_mostOfLaw : MethodName := ⟨RX8, "mostOfLaw", "(I)I"⟩
abbrev cX8_parentKind : ByteArray := prog_1_method_59_code
def yX8_parentKind : MethodName := ⟨RX8, "parentKind", "(I)I"⟩
abbrev cX8_isUnder : ByteArray := prog_1_method_60_code
def yX8_isUnder : MethodName := ⟨RX8, "isUnder", "(II)Z"⟩
def RX9 : String := "IntentVatsModel"
def TX9 : u_T := fun k => match k with
  | 0 => ("IntentVatsModel", "most", "[I", true)
  | 1 => ("IntentVatsModel", "atFirst", "[I", true)
  | 2 => ("IntentVatsModel", "s", "[I", true)
  | 3 => ("IntentVatsModel", "kept", "[I", true)
  | 4 => ("IntentVatsModel", "aside", "[I", true)
  | 5 => ("IntentVatsModel", "isKept", "Z", false)
  | 6 => ("IntentVatsModel", "tape", "[I", true)
  | 7 => ("IntentVatsModel", "taped", "I", false)
  | 8 => ("IntentVatsModel", "from", "I", false)
  | 9 => ("IntentVatsModel", "to", "I", false)
  | 10 => ("IntentVatsModel", "isWrong", "Z", false)
  | 11 => ("IntentVatsModel", "rows", "[I", true)
  | 12 => ("IntentVatsModel", "rowMany", "I", false)
  | 13 => ("IntentVatsModel", "sortOf", "[I", true)
  | 14 => ("IntentVatsModel", "sizeOf", "[I", true)
  | 15 => ("IntentVatsModel", "items", "[I", true)
  | 16 => ("IntentVatsModel", "laid", "[I", true)
  | 17 => ("IntentVatsModel", "heldNumber", "[I", true)
  | 18 => ("IntentVatsModel", "heldSize", "[I", true)
  | 19 => ("IntentVatsModel", "ran", "[I", true)
  | 20 => ("IntentVatsModel", "bodies", "I", false)
  | 21 => ("IntentVatsModel", "kind", "I", false)
  | 22 => ("IntentVatsModel", "n", "I", false)
  | 23 => ("IntentVatsModel", "a", "I", false)
  | _ => ("IntentVatsModel", "isParted", "Z", false)
def tyX9 : Nat → FieldType := fun k => match k with
  | 0 => .array .int
  | 1 => .array .int
  | 2 => .array .int
  | 3 => .array .int
  | 4 => .array .int
  | 5 => .boolean
  | 6 => .array .int
  | 7 => .int
  | 8 => .int
  | 9 => .int
  | 10 => .boolean
  | 11 => .array .int
  | 12 => .int
  | 13 => .array .int
  | 14 => .array .int
  | 15 => .array .int
  | 16 => .array .int
  | 17 => .array .int
  | 18 => .array .int
  | 19 => .array .int
  | 20 => .int
  | 21 => .int
  | 22 => .int
  | 23 => .int
  | _ => .boolean
abbrev wsX90 : List Cond := u_ws RX9 TX9 25
theorem nmX9 : ∀ a, a < 25 → ∀ b, b < 25 → a ≠ b → (TX9 a).2.1 ≠ (TX9 b).2.1 := by decide +kernel
theorem tyX9_ok : ∀ k, k < 25 → parseFieldDescriptor (TX9 k).2.2.1 = some (tyX9 k) := by decide +kernel
abbrev cX9_init : ByteArray := prog_11_method_1_code
def yX9_init : MethodName := ⟨RX9, "<init>", "()V"⟩
abbrev cX9_anew : ByteArray := prog_11_method_2_code
def yX9_anew : MethodName := ⟨RX9, "anew", "()V"⟩
abbrev cX9_in : ByteArray := prog_11_method_3_code
def yX9_in : MethodName := ⟨RX9, "in", "(JJJ)Z"⟩
abbrev cX9_become : ByteArray := prog_11_method_4_code
def yX9_become : MethodName := ⟨RX9, "become", "([I[I)V"⟩
abbrev cX9_lends : ByteArray := prog_11_method_5_code
def yX9_lends : MethodName := ⟨RX9, "lends", "()V"⟩
abbrev cX9_laysBack : ByteArray := prog_11_method_6_code
def yX9_laysBack : MethodName := ⟨RX9, "laysBack", "()V"⟩
abbrev cX9_isCloth : ByteArray := prog_11_method_7_code
def yX9_isCloth : MethodName := ⟨RX9, "isCloth", "(I)Z"⟩
abbrev cX9_isVat : ByteArray := prog_11_method_8_code
def yX9_isVat : MethodName := ⟨RX9, "isVat", "(I)Z"⟩
abbrev cX9_isPurpose : ByteArray := prog_11_method_9_code
def yX9_isPurpose : MethodName := ⟨RX9, "isPurpose", "(I)Z"⟩
abbrev cX9_isRest : ByteArray := prog_11_method_10_code
def yX9_isRest : MethodName := ⟨RX9, "isRest", "(I)Z"⟩
abbrev cX9_its : ByteArray := prog_11_method_11_code
def yX9_its : MethodName := ⟨RX9, "its", "(II)I"⟩
abbrev cX9_sets : ByteArray := prog_11_method_12_code
def yX9_sets : MethodName := ⟨RX9, "sets", "(III)V"⟩
abbrev cX9_becomes : ByteArray := prog_11_method_13_code
def yX9_becomes : MethodName := ⟨RX9, "becomes", "(II)I"⟩
abbrev cX9_set : ByteArray := prog_11_method_14_code
def yX9_set : MethodName := ⟨RX9, "set", "(II)I"⟩
abbrev cX9_lawOf : ByteArray := prog_11_method_15_code
def yX9_lawOf : MethodName := ⟨RX9, "lawOf", "(I)I"⟩
abbrev cX9_fill : ByteArray := prog_11_method_16_code
def yX9_fill : MethodName := ⟨RX9, "fill", "(III)I"⟩
abbrev cX9_vatOf : ByteArray := prog_11_method_17_code
def yX9_vatOf : MethodName := ⟨RX9, "vatOf", "(II)I"⟩
abbrev cX9_roster : ByteArray := prog_11_method_18_code
def yX9_roster : MethodName := ⟨RX9, "roster", "(II)I"⟩
abbrev cX9_rosterOf : ByteArray := prog_11_method_19_code
def yX9_rosterOf : MethodName := ⟨RX9, "rosterOf", "(I)I"⟩
abbrev cX9_isKind : ByteArray := prog_11_method_20_code
def yX9_isKind : MethodName := ⟨RX9, "isKind", "(I)Z"⟩
abbrev cX9_isUnder : ByteArray := prog_11_method_21_code
def yX9_isUnder : MethodName := ⟨RX9, "isUnder", "(II)Z"⟩
abbrev cX9_takesOf : ByteArray := prog_11_method_22_code
def yX9_takesOf : MethodName := ⟨RX9, "takesOf", "(II)I"⟩
abbrev cX9_fightsOf : ByteArray := prog_11_method_23_code
def yX9_fightsOf : MethodName := ⟨RX9, "fightsOf", "(II)I"⟩
abbrev cX9_fadesOf : ByteArray := prog_11_method_24_code
def yX9_fadesOf : MethodName := ⟨RX9, "fadesOf", "(I)I"⟩
abbrev cX9_adds : ByteArray := prog_11_method_25_code
def yX9_adds : MethodName := ⟨RX9, "adds", "(I)V"⟩
abbrev cX9_cloth : ByteArray := prog_11_method_26_code
def yX9_cloth : MethodName := ⟨RX9, "cloth", "(I)I"⟩
abbrev cX9_of : ByteArray := prog_11_method_27_code
def yX9_of : MethodName := ⟨RX9, "of", "(II)I"⟩
abbrev cX9_does : ByteArray := prog_11_method_28_code
def yX9_does : MethodName := ⟨RX9, "does", "(III)I"⟩
abbrev cX9_changed : ByteArray := prog_11_method_29_code
def yX9_changed : MethodName := ⟨RX9, "changed", "(III)I"⟩
abbrev cX9_mind : ByteArray := prog_11_method_30_code
def yX9_mind : MethodName := ⟨RX9, "mind", "(II)I"⟩
abbrev cX9_isDeep : ByteArray := prog_11_method_31_code
def yX9_isDeep : MethodName := ⟨RX9, "isDeep", "(II)V"⟩
abbrev cX9_steep : ByteArray := prog_11_method_32_code
def yX9_steep : MethodName := ⟨RX9, "steep", "(III)I"⟩
abbrev cX9_hang : ByteArray := prog_11_method_33_code
def yX9_hang : MethodName := ⟨RX9, "hang", "(II)I"⟩
abbrev cX9_dips : ByteArray := prog_11_method_34_code
def yX9_dips : MethodName := ⟨RX9, "dips", "(II)V"⟩
abbrev cX9_dip : ByteArray := prog_11_method_35_code
def yX9_dip : MethodName := ⟨RX9, "dip", "(II)I"⟩
abbrev cX9_aDay : ByteArray := prog_11_method_36_code
def yX9_aDay : MethodName := ⟨RX9, "aDay", "()V"⟩
abbrev cX9_goes : ByteArray := prog_11_method_37_code
def yX9_goes : MethodName := ⟨RX9, "goes", "(I)V"⟩
abbrev cX9_depths : ByteArray := prog_11_method_38_code
def yX9_depths : MethodName := ⟨RX9, "depths", "()I"⟩
abbrev cX9_days : ByteArray := prog_11_method_39_code
def yX9_days : MethodName := ⟨RX9, "days", "(I)I"⟩
abbrev cX9_seed : ByteArray := prog_11_method_40_code
def yX9_seed : MethodName := ⟨RX9, "seed", "(I)I"⟩
abbrev cX9_draw : ByteArray := prog_11_method_41_code
def yX9_draw : MethodName := ⟨RX9, "draw", "()I"⟩
abbrev cX9_byDraws : ByteArray := prog_11_method_42_code
def yX9_byDraws : MethodName := ⟨RX9, "byDraws", "()V"⟩
abbrev cX9_day : ByteArray := prog_11_method_43_code
def yX9_day : MethodName := ⟨RX9, "day", "()I"⟩
abbrev cX9_luck : ByteArray := prog_11_method_44_code
def yX9_luck : MethodName := ⟨RX9, "luck", "(I)I"⟩
abbrev cX9_hungSet : ByteArray := prog_11_method_45_code
def yX9_hungSet : MethodName := ⟨RX9, "hungSet", "()I"⟩
abbrev cX9_aboutSet : ByteArray := prog_11_method_46_code
def yX9_aboutSet : MethodName := ⟨RX9, "aboutSet", "()I"⟩
abbrev cX9_isAtOdds : ByteArray := prog_11_method_47_code
def yX9_isAtOdds : MethodName := ⟨RX9, "isAtOdds", "(II)Z"⟩
abbrev cX9_oddsAmong : ByteArray := prog_11_method_48_code
def yX9_oddsAmong : MethodName := ⟨RX9, "oddsAmong", "()I"⟩
abbrev cX9_state : ByteArray := prog_11_method_49_code
def yX9_state : MethodName := ⟨RX9, "state", "(I)I"⟩
abbrev cX9_isAhead : ByteArray := prog_11_method_50_code
def yX9_isAhead : MethodName := ⟨RX9, "isAhead", "(I)Z"⟩
abbrev cX9_isSoon : ByteArray := prog_11_method_51_code
def yX9_isSoon : MethodName := ⟨RX9, "isSoon", "(I)Z"⟩
abbrev cX9_behind : ByteArray := prog_11_method_52_code
def yX9_behind : MethodName := ⟨RX9, "behind", "(III)I"⟩
abbrev cX9_gone : ByteArray := prog_11_method_53_code
def yX9_gone : MethodName := ⟨RX9, "gone", "(II)I"⟩
abbrev cX9_depth : ByteArray := prog_11_method_54_code
def yX9_depth : MethodName := ⟨RX9, "depth", "(II)I"⟩
abbrev cX9_firstAbout : ByteArray := prog_11_method_55_code
def yX9_firstAbout : MethodName := ⟨RX9, "firstAbout", "(II)I"⟩
abbrev cX9_comes : ByteArray := prog_11_method_56_code
def yX9_comes : MethodName := ⟨RX9, "comes", "(II)I"⟩
abbrev cX9_bare : ByteArray := prog_11_method_57_code
def yX9_bare : MethodName := ⟨RX9, "bare", "(I)I"⟩
abbrev cX9_spoiltIn : ByteArray := prog_11_method_58_code
def yX9_spoiltIn : MethodName := ⟨RX9, "spoiltIn", "(I)I"⟩
abbrev cX9_spoilt : ByteArray := prog_11_method_59_code
def yX9_spoilt : MethodName := ⟨RX9, "spoilt", "(I)I"⟩
abbrev cX9_isThrough : ByteArray := prog_11_method_60_code
def yX9_isThrough : MethodName := ⟨RX9, "isThrough", "(IIII)Z"⟩
abbrev cX9_through : ByteArray := prog_11_method_61_code
def yX9_through : MethodName := ⟨RX9, "through", "(II)I"⟩
abbrev cX9_vatFor : ByteArray := prog_11_method_62_code
def yX9_vatFor : MethodName := ⟨RX9, "vatFor", "(II)I"⟩
abbrev cX9_kindFor : ByteArray := prog_11_method_63_code
def yX9_kindFor : MethodName := ⟨RX9, "kindFor", "(II)I"⟩
abbrev cX9_strengthFor : ByteArray := prog_11_method_64_code
def yX9_strengthFor : MethodName := ⟨RX9, "strengthFor", "(IIII)I"⟩
abbrev cX9_ones : ByteArray := prog_11_method_65_code
def yX9_ones : MethodName := ⟨RX9, "ones", "(I)I"⟩
abbrev cX9_hangs : ByteArray := prog_11_method_66_code
def yX9_hangs : MethodName := ⟨RX9, "hangs", "(I)V"⟩
abbrev cX9_hangFor : ByteArray := prog_11_method_67_code
def yX9_hangFor : MethodName := ⟨RX9, "hangFor", "(II)I"⟩
abbrev cX9_isSo : ByteArray := prog_11_method_68_code
def yX9_isSo : MethodName := ⟨RX9, "isSo", "(III)Z"⟩
abbrev cX9_fits : ByteArray := prog_11_method_69_code
def yX9_fits : MethodName := ⟨RX9, "fits", "(III)I"⟩
abbrev cX9_lowest : ByteArray := prog_11_method_70_code
def yX9_lowest : MethodName := ⟨RX9, "lowest", "(JJI)J"⟩
abbrev cX9_odds : ByteArray := prog_11_method_71_code
def yX9_odds : MethodName := ⟨RX9, "odds", "(III)J"⟩
abbrev cX9_hope : ByteArray := prog_11_method_72_code
def yX9_hope : MethodName := ⟨RX9, "hope", "(II)J"⟩
abbrev cX9_feed : ByteArray := prog_11_method_73_code
def yX9_feed : MethodName := ⟨RX9, "feed", "(JI)I"⟩
abbrev cX9_isByte : ByteArray := prog_11_method_74_code
def yX9_isByte : MethodName := ⟨RX9, "isByte", "(III)Z"⟩
abbrev cX9_next : ByteArray := prog_11_method_75_code
def yX9_next : MethodName := ⟨RX9, "next", "()V"⟩
abbrev cX9_isWord : ByteArray := prog_11_method_76_code
def yX9_isWord : MethodName := ⟨RX9, "isWord", "(Ljava/lang/String;)Z"⟩
abbrev cX9_must : ByteArray := prog_11_method_77_code
def yX9_must : MethodName := ⟨RX9, "must", "(Z)V"⟩
abbrev cX9_figures : ByteArray := prog_11_method_78_code
def yX9_figures : MethodName := ⟨RX9, "figures", "()I"⟩
abbrev cX9_number : ByteArray := prog_11_method_79_code
def yX9_number : MethodName := ⟨RX9, "number", "(II)I"⟩
abbrev cX9_kindHere : ByteArray := prog_11_method_80_code
def yX9_kindHere : MethodName := ⟨RX9, "kindHere", "()I"⟩
abbrev cX9_takes : ByteArray := prog_11_method_81_code
def yX9_takes : MethodName := ⟨RX9, "takes", "(Ljava/lang/String;)Z"⟩
abbrev cX9_clothTold : ByteArray := prog_11_method_82_code
def yX9_clothTold : MethodName := ⟨RX9, "clothTold", "(I)V"⟩
abbrev cX9_twoTold : ByteArray := prog_11_method_83_code
def yX9_twoTold : MethodName := ⟨RX9, "twoTold", "(IILjava/lang/String;I)V"⟩
abbrev cX9_lawTold : ByteArray := prog_11_method_84_code
def yX9_lawTold : MethodName := ⟨RX9, "lawTold", "(I)V"⟩
abbrev cX9_lawHere : ByteArray := prog_11_method_85_code
def yX9_lawHere : MethodName := ⟨RX9, "lawHere", "()I"⟩
abbrev cX9_item : ByteArray := prog_11_method_86_code
def yX9_item : MethodName := ⟨RX9, "item", "()V"⟩
abbrev cX9_mill : ByteArray := prog_11_method_87_code
def yX9_mill : MethodName := ⟨RX9, "mill", "()I"⟩
abbrev cX9_prove : ByteArray := prog_11_method_88_code
def yX9_prove : MethodName := ⟨RX9, "prove", "(II)I"⟩
abbrev cX9_isCell : ByteArray := prog_11_method_89_code
def yX9_isCell : MethodName := ⟨RX9, "isCell", "(II)Z"⟩
abbrev cX9_row : ByteArray := prog_11_method_90_code
def yX9_row : MethodName := ⟨RX9, "row", "(II)I"⟩
abbrev cX9_alterRow : ByteArray := prog_11_method_91_code
def yX9_alterRow : MethodName := ⟨RX9, "alterRow", "(III)I"⟩
abbrev cX9_isRight : ByteArray := prog_11_method_92_code
def yX9_isRight : MethodName := ⟨RX9, "isRight", "(II)Z"⟩
abbrev cX9_judge : ByteArray := prog_11_method_93_code
def yX9_judge : MethodName := ⟨RX9, "judge", "(I)I"⟩
abbrev cX9_isFour : ByteArray := prog_11_method_94_code
def yX9_isFour : MethodName := ⟨RX9, "isFour", "(I)Z"⟩
abbrev cX9_minds : ByteArray := prog_11_method_95_code
def yX9_minds : MethodName := ⟨RX9, "minds", "(IIII)I"⟩
abbrev cX9_sheet : ByteArray := prog_11_method_96_code
def yX9_sheet : MethodName := ⟨RX9, "sheet", "(III)I"⟩
abbrev cX9_narrowed : ByteArray := prog_11_method_97_code
def yX9_narrowed : MethodName := ⟨RX9, "narrowed", "(II)I"⟩
abbrev cX9_put : ByteArray := prog_11_method_98_code
def yX9_put : MethodName := ⟨RX9, "put", "(III)I"⟩
abbrev cX9_item_ : ByteArray := prog_11_method_99_code
def yX9_item_ : MethodName := ⟨RX9, "item", "(III)I"⟩
abbrev cX9_shelf : ByteArray := prog_11_method_100_code
def yX9_shelf : MethodName := ⟨RX9, "shelf", "(III)I"⟩
abbrev cX9_isHeld : ByteArray := prog_11_method_101_code
def yX9_isHeld : MethodName := ⟨RX9, "isHeld", "(I)Z"⟩
abbrev cX9_taken : ByteArray := prog_11_method_102_code
def yX9_taken : MethodName := ⟨RX9, "taken", "(II)I"⟩
abbrev cX9_runs : ByteArray := prog_11_method_103_code
def yX9_runs : MethodName := ⟨RX9, "runs", "(I)V"⟩
abbrev cX9_plainRubs : ByteArray := prog_11_method_104_code
def yX9_plainRubs : MethodName := ⟨RX9, "plainRubs", "(I)I"⟩
abbrev cX9_linenRubs : ByteArray := prog_11_method_105_code
def yX9_linenRubs : MethodName := ⟨RX9, "linenRubs", "(I)I"⟩
abbrev cX9_rubs : ByteArray := prog_11_method_106_code
def yX9_rubs : MethodName := ⟨RX9, "rubs", "(I)I"⟩
abbrev cX9_plainSteeps : ByteArray := prog_11_method_107_code
def yX9_plainSteeps : MethodName := ⟨RX9, "plainSteeps", "(I)I"⟩
abbrev cX9_steepsAct : ByteArray := prog_11_method_108_code
def yX9_steepsAct : MethodName := ⟨RX9, "steepsAct", "(I)I"⟩
abbrev cX9_plainParts : ByteArray := prog_11_method_109_code
def yX9_plainParts : MethodName := ⟨RX9, "plainParts", "(I)I"⟩
abbrev cX9_parts : ByteArray := prog_11_method_110_code
def yX9_parts : MethodName := ⟨RX9, "parts", "(I)I"⟩
abbrev cX9_plainDries : ByteArray := prog_11_method_111_code
def yX9_plainDries : MethodName := ⟨RX9, "plainDries", "(I)I"⟩
abbrev cX9_driesAct : ByteArray := prog_11_method_112_code
def yX9_driesAct : MethodName := ⟨RX9, "driesAct", "(I)I"⟩
abbrev cX9_act : ByteArray := prog_11_method_113_code
def yX9_act : MethodName := ⟨RX9, "act", "(III)I"⟩
abbrev cX9_trace : ByteArray := prog_11_method_114_code
def yX9_trace : MethodName := ⟨RX9, "trace", "(I)I"⟩
abbrev cX9_purposesAbout : ByteArray := prog_11_method_115_code
def yX9_purposesAbout : MethodName := ⟨RX9, "purposesAbout", "()I"⟩
abbrev cX9_many : ByteArray := prog_11_method_116_code
def yX9_many : MethodName := ⟨RX9, "many", "(I)I"⟩
abbrev cX9_keep : ByteArray := prog_11_method_117_code
def yX9_keep : MethodName := ⟨RX9, "keep", "()I"⟩
abbrev cX9_again : ByteArray := prog_11_method_118_code
def yX9_again : MethodName := ⟨RX9, "again", "()I"⟩
def RJ6 : String := "java/lang/Integer"
def TJ6 : u_T := fun k => match k with
  | _ => ("", "", "", false)
def tyJ6 : Nat → FieldType := fun k => match k with
  | _ => .int
abbrev wsJ60 : List Cond := u_ws RJ6 TJ6 0
theorem nmJ6 : ∀ a, a < 0 → ∀ b, b < 0 → a ≠ b → (TJ6 a).2.1 ≠ (TJ6 b).2.1 := by decide +kernel
theorem tyJ6_ok : ∀ k, k < 0 → parseFieldDescriptor (TJ6 k).2.2.1 = some (tyJ6 k) := by decide +kernel
abbrev cJ6_bitCount_0f7a4 : ByteArray := prog_12_method_49_code
def yJ6_bitCount_0f7a4 : MethodName := ⟨RJ6, "bitCount", "(I)I"⟩
def RJ9 : String := "java/lang/Math"
def TJ9 : u_T := fun k => match k with
  | _ => ("", "", "", false)
def tyJ9 : Nat → FieldType := fun k => match k with
  | _ => .int
abbrev wsJ90 : List Cond := u_ws RJ9 TJ9 0
theorem nmJ9 : ∀ a, a < 0 → ∀ b, b < 0 → a ≠ b → (TJ9 a).2.1 ≠ (TJ9 b).2.1 := by decide +kernel
theorem tyJ9_ok : ∀ k, k < 0 → parseFieldDescriptor (TJ9 k).2.2.1 = some (tyJ9 k) := by decide +kernel
abbrev cJ9_abs_0f7a4 : ByteArray := prog_13_method_59_code
def yJ9_abs_0f7a4 : MethodName := ⟨RJ9, "abs", "(I)I"⟩
abbrev cJ9_max_7cf53 : ByteArray := prog_13_method_65_code
def yJ9_max_7cf53 : MethodName := ⟨RJ9, "max", "(II)I"⟩
abbrev cJ9_min_7cf53 : ByteArray := prog_13_method_69_code
def yJ9_min_7cf53 : MethodName := ⟨RJ9, "min", "(II)I"⟩
def RJ0 : String := "java/lang/String"
def TJ0 : u_T := fun k => match k with
  | _ => ("", "", "", false)
def tyJ0 : Nat → FieldType := fun k => match k with
  | _ => .int
abbrev wsJ00 : List Cond := u_ws RJ0 TJ0 0
theorem nmJ0 : ∀ a, a < 0 → ∀ b, b < 0 → a ≠ b → (TJ0 a).2.1 ≠ (TJ0 b).2.1 := by decide +kernel
theorem tyJ0_ok : ∀ k, k < 0 → parseFieldDescriptor (TJ0 k).2.2.1 = some (tyJ0 k) := by decide +kernel
abbrev cJ0_length_8abf5 : ByteArray := prog_14_method_54_code
def yJ0_length_8abf5 : MethodName := ⟨RJ0, "length", "()I"⟩
abbrev cJ0_charAt_5068e : ByteArray := prog_14_method_56_code
def yJ0_charAt_5068e : MethodName := ⟨RJ0, "charAt", "(I)C"⟩
abbrev cJ0_coder_7d493 : ByteArray := prog_14_method_152_code
def yJ0_coder_7d493 : MethodName := ⟨RJ0, "coder", "()B"⟩
abbrev cJ0_isLatin1_aae02 : ByteArray := prog_14_method_154_code
def yJ0_isLatin1_aae02 : MethodName := ⟨RJ0, "isLatin1", "()Z"⟩
abbrev cJ0_checkIndex_df160 : ByteArray := prog_14_method_155_code
def yJ0_checkIndex_df160 : MethodName := ⟨RJ0, "checkIndex", "(II)V"⟩
def RJ1 : String := "java/lang/StringLatin1"
def TJ1 : u_T := fun k => match k with
  | _ => ("", "", "", false)
def tyJ1 : Nat → FieldType := fun k => match k with
  | _ => .int
abbrev wsJ10 : List Cond := u_ws RJ1 TJ1 0
theorem nmJ1 : ∀ a, a < 0 → ∀ b, b < 0 → a ≠ b → (TJ1 a).2.1 ≠ (TJ1 b).2.1 := by decide +kernel
theorem tyJ1_ok : ∀ k, k < 0 → parseFieldDescriptor (TJ1 k).2.2.1 = some (tyJ1 k) := by decide +kernel
abbrev cJ1_charAt_3b067 : ByteArray := prog_15_method_2_code
def yJ1_charAt_3b067 : MethodName := ⟨RJ1, "charAt", "([BI)C"⟩
def RJ2 : String := "java/lang/StringUTF16"
def TJ2 : u_T := fun k => match k with
  | _ => ("", "", "", false)
def tyJ2 : Nat → FieldType := fun k => match k with
  | _ => .int
abbrev wsJ20 : List Cond := u_ws RJ2 TJ2 0
theorem nmJ2 : ∀ a, a < 0 → ∀ b, b < 0 → a ≠ b → (TJ2 a).2.1 ≠ (TJ2 b).2.1 := by decide +kernel
theorem tyJ2_ok : ∀ k, k < 0 → parseFieldDescriptor (TJ2 k).2.2.1 = some (tyJ2 k) := by decide +kernel
abbrev cJ2_getChar_3b067 : ByteArray := prog_16_method_5_code
def yJ2_getChar_3b067 : MethodName := ⟨RJ2, "getChar", "([BI)C"⟩
abbrev cJ2_length_9d52b : ByteArray := prog_16_method_6_code
def yJ2_length_9d52b : MethodName := ⟨RJ2, "length", "([B)I"⟩
abbrev cJ2_charAt_3b067 : ByteArray := prog_16_method_83_code
def yJ2_charAt_3b067 : MethodName := ⟨RJ2, "charAt", "([BI)C"⟩
abbrev cJ2_checkIndex_2214a : ByteArray := prog_16_method_91_code
def yJ2_checkIndex_2214a : MethodName := ⟨RJ2, "checkIndex", "(I[B)V"⟩
def RJ10 : String := "java/lang/System"
def TJ10 : u_T := fun k => match k with
  | _ => ("", "", "", false)
def tyJ10 : Nat → FieldType := fun k => match k with
  | _ => .int
abbrev wsJ100 : List Cond := u_ws RJ10 TJ10 0
theorem nmJ10 : ∀ a, a < 0 → ∀ b, b < 0 → a ≠ b → (TJ10 a).2.1 ≠ (TJ10 b).2.1 := by decide +kernel
theorem tyJ10_ok : ∀ k, k < 0 → parseFieldDescriptor (TJ10 k).2.2.1 = some (tyJ10 k) := by decide +kernel
def RJ3 : String := "jdk/internal/util/Preconditions"
def TJ3 : u_T := fun k => match k with
  | _ => ("", "", "", false)
def tyJ3 : Nat → FieldType := fun k => match k with
  | _ => .int
abbrev wsJ30 : List Cond := u_ws RJ3 TJ3 0
theorem nmJ3 : ∀ a, a < 0 → ∀ b, b < 0 → a ≠ b → (TJ3 a).2.1 ≠ (TJ3 b).2.1 := by decide +kernel
theorem tyJ3_ok : ∀ k, k < 0 → parseFieldDescriptor (TJ3 k).2.2.1 = some (tyJ3 k) := by decide +kernel
abbrev cJ3_checkIndex_8e157 : ByteArray := prog_18_method_11_code
def yJ3_checkIndex_8e157 : MethodName := ⟨RJ3, "checkIndex", "(IILjava/util/function/BiFunction;)I"⟩
def RL : String := "IntentVatsLaw"
abbrev cL_law : ByteArray := code
def yL_law : MethodName := ⟨RL, "law", "([I)Z"⟩
set_option maxRecDepth 20000 in
set_option maxRecDepth 20000 in
abbrev vwCl : List vw_C := [(RX0, TX0, 6), (RX2, TX2, 1), (RX3, TX3, 12), (RX4, TX4, 2), (RX5, TX5, 2), (RX6, TX6, 2), (RX7, TX7, 6), (RX8, TX8, 10), (RX9, TX9, 25)]
end
section
/-! THE EVALUATOR: an executable picture of the bytecode over cells that are named by a tag and a number; what it answers holds of the machine (part 03) -/
abbrev mv_V : Type := Value ⊕ (Nat × Nat)
abbrev mv_L : Type := List (Nat × mv_V)
abbrev mv_E : Type := Nat × Instr × Nat × List Nat
/-- the heap's picture: ints by tag, number, place; refs likewise; lengths of arrays; how many of a tag there are -/
abbrev mv_G : Type := (Nat → Nat → Nat → Int32) × (Nat → Nat → Nat → Option (Nat × Nat)) × (Nat → Nat → Nat) × (Nat → Nat)
def stx : Nat → List Int32
  | 0 => [118, 97, 116]
  | 1 => [115, 116, 114, 111, 110, 103]
  | 2 => [100, 97, 121]
  | 3 => [97, 98, 111, 117, 116]
  | 4 => [100, 101, 101, 112]
  | 5 => [104, 117, 110, 103]
  | 6 => [111, 102]
  | 7 => [99, 108, 111, 116, 104]
  | 8 => [119, 111, 111, 108]
  | 9 => [108, 105, 110, 101, 110]
  | 10 => [102, 101, 108, 116]
  | 11 => [115, 104, 114, 111, 117, 100]
  | 12 => [109, 117, 115, 108, 105, 110]
  | 13 => [109, 111, 114, 100, 97, 110, 116]
  | 14 => [108, 105, 103, 104, 116]
  | 15 => [113, 117, 97, 114, 114, 101, 108]
  | 16 => [115, 108, 105, 112]
  | 17 => [99, 108, 111, 116, 104]
  | 18 => [119, 111, 111, 108]
  | 19 => [108, 105, 110, 101, 110]
  | 20 => [102, 101, 108, 116]
  | 21 => [115, 104, 114, 111, 117, 100]
  | 22 => [109, 117, 115, 108, 105, 110]
  | 23 => [97, 98, 111, 117, 116]
  | 24 => [100, 101, 101, 112]
  | 25 => [104, 117, 110, 103]
  | 26 => [109, 111, 114, 100, 97, 110, 116]
  | 27 => [108, 105, 103, 104, 116]
  | 28 => [113, 117, 97, 114, 114, 101, 108]
  | 29 => [115, 108, 105, 112]
  | 30 => [118, 97, 116]
  | 31 => [111, 102]
  | 32 => [115, 116, 114, 111, 110, 103]
  | 33 => []
  | 34 => [100, 97, 121]
  | 35 => [59]
  | _ => []
def stl (q : Nat) : Nat := (stx q).length
def stc (q k : Nat) : Int32 := (stx q).getD k 0
def mv_sw : Nat → Option (String × Nat × String)
  | 0 => some ("IntentVats$Tape", 50, "vat")
  | 1 => some ("IntentVats$Tape", 59, "strong")
  | 2 => some ("IntentVats$Tape", 64, "day")
  | 3 => some ("IntentVats$Tape", 82, "about")
  | 4 => some ("IntentVats$Tape", 97, "deep")
  | 5 => some ("IntentVats$Tape", 99, "hung")
  | 6 => some ("IntentVats$Tape", 108, "of")
  | 7 => some ("IntentVats$Tape", 135, "cloth")
  | 8 => some ("IntentVats$Tape", 137, "wool")
  | 9 => some ("IntentVats$Tape", 139, "linen")
  | 10 => some ("IntentVats$Tape", 141, "felt")
  | 11 => some ("IntentVats$Tape", 143, "shroud")
  | 12 => some ("IntentVats$Tape", 145, "muslin")
  | 13 => some ("IntentVats$Tape", 147, "mordant")
  | 14 => some ("IntentVats$Tape", 149, "light")
  | 15 => some ("IntentVats$Tape", 151, "quarrel")
  | 16 => some ("IntentVats$Tape", 153, "slip")
  | 17 => some ("IntentVatsModel", 262, "cloth")
  | 18 => some ("IntentVatsModel", 268, "wool")
  | 19 => some ("IntentVatsModel", 270, "linen")
  | 20 => some ("IntentVatsModel", 272, "felt")
  | 21 => some ("IntentVatsModel", 274, "shroud")
  | 22 => some ("IntentVatsModel", 276, "muslin")
  | 23 => some ("IntentVatsModel", 278, "about")
  | 24 => some ("IntentVatsModel", 286, "deep")
  | 25 => some ("IntentVatsModel", 288, "hung")
  | 26 => some ("IntentVatsModel", 290, "mordant")
  | 27 => some ("IntentVatsModel", 292, "light")
  | 28 => some ("IntentVatsModel", 294, "quarrel")
  | 29 => some ("IntentVatsModel", 296, "slip")
  | 30 => some ("IntentVatsModel", 307, "vat")
  | 31 => some ("IntentVatsModel", 309, "of")
  | 32 => some ("IntentVatsModel", 315, "strong")
  | 33 => some ("IntentVatsModel", 317, "")
  | 34 => some ("IntentVatsModel", 319, "day")
  | 35 => some ("IntentVatsModel", 324, ";")
  | _ => none
def mv_bod : List Int32 := [10, 11, 12, 13, 10, 20, 12, 13, 30, 11, 12, 31, 51, 20, 50, 13, 40, 41, 12, 31, 10, 11, 61, 60]
def bod (k : Nat) : Int32 := mv_bod.getD k 0
def mv_mem (n : Nat) : List Nat → Bool
  | [] => false
  | a :: l => cond (Nat.beq a n) true (mv_mem n l)
def mv_seek (pc : Nat) : List mv_E → List mv_E
  | [] => []
  | e :: l => cond (Nat.beq e.1 pc) (e :: l) (mv_seek pc l)
def mv_get (k : Nat) : mv_L → Option mv_V
  | [] => none
  | q :: l => cond (Nat.beq q.1 k) (some q.2) (mv_get k l)
def mv_two : mv_V → Bool
  | .inl (.long _) => true
  | .inl (.double _) => true
  | _ => false
def mv_f1 (i : Nat) : mv_L → mv_L
  | [] => []
  | q :: l => cond (Nat.beq q.1 i || (Nat.beq (q.1 + 1) i && mv_two q.2)) (mv_f1 i l) (q :: mv_f1 i l)
def mv_f2 (i : Nat) : mv_L → mv_L
  | [] => []
  | q :: l => cond (Nat.beq q.1 i || (Nat.beq q.1 (i + 1) || (Nat.beq (q.1 + 1) i && mv_two q.2))) (mv_f2 i l) (q :: mv_f2 i l)
def mv_f1K {α : Type} (i : Nat) (l : mv_L) (k : mv_L → α) : α := match l with
  | [] => k []
  | q :: l => mv_f1K i l fun l' => match Nat.beq q.1 i || (Nat.beq (q.1 + 1) i && mv_two q.2) with
    | true => k l'
    | false => k (q :: l')
def mv_f2K {α : Type} (i : Nat) (l : mv_L) (k : mv_L → α) : α := match l with
  | [] => k []
  | q :: l => mv_f2K i l fun l' => match Nat.beq q.1 i || (Nat.beq q.1 (i + 1) || (Nat.beq (q.1 + 1) i && mv_two q.2)) with
    | true => k l'
    | false => k (q :: l')
/-- the arguments of a call off the stack, and what is left -/
def mv_tk {α : Type} (n : Nat) (as st : List mv_V) (k : List mv_V → List mv_V → Option α) : Option α := match n with
  | 0 => k as st
  | n + 1 => match st with
    | [] => none
    | v :: st => mv_tk n (v :: as) st k
def mv_ap {α : Type} (vs st : List mv_V) (k : List mv_V → α) : α := match vs with
  | [] => k st
  | v :: vs => mv_ap vs st fun l => k (v :: l)
def mv_nth {α : Type} (j : Nat) (l : List α) : Option α := match l with
  | [] => none
  | a :: l => match j with
    | 0 => some a
    | j + 1 => mv_nth j l
def mv_cats : List mv_V → Nat
  | [] => 0
  | v :: l => (match mv_two v with
    | true => 2
    | false => 1) + mv_cats l
/-- an int constant, by its sign and size -/
def mv_c (sg n : Nat) : Int32 := cond (Nat.beq sg 0) (nI n) (-(nI n))
def mv_cl (sg n : Nat) : Int64 := cond (Nat.beq sg 0) (lN n) (-(lN n))
def mv_inb (i : Int32) (n : Nat) : Bool := !(decide (i < 0) || Nat.ble n i.toNatClampNeg)
def mv_gd {α : Type} (b : Bool) (k : Option α) : Option α := match b with
  | true => k
  | false => none
def mv_bh {β α : Type} (h : β) (k : β → α) : α := k h
def mv_bi {α : Type} (x : Int32) (k : Int32 → α) : α := k x
def mv_bl {α : Type} (x : Int64) (k : Int64 → α) : α := k x
def mv_el {α β : Type} (o : Option β) (a : α) (f : β → α) : α := match o with
  | none => a
  | some b => f b
def mv_q : Option (Nat × Nat) → mv_V
  | none => .inl .null
  | some q => .inr q
def mv_vi (x : Int32) : mv_V := .inl (.int x)
def mv_vl (x : Int64) : mv_V := .inl (.long x)
/-- what works on the stack alone -/
def mv_op {α : Type} (i : Instr) (st : List mv_V) (k : List mv_V → Option α) : Option α := match i with
  | .iadd => match st with
    | .inl (.int y) :: .inl (.int x) :: st => k (.inl (.int (x + y)) :: st)
    | _ => none
  | .isub => match st with
    | .inl (.int y) :: .inl (.int x) :: st => k (.inl (.int (x - y)) :: st)
    | _ => none
  | .imul => match st with
    | .inl (.int y) :: .inl (.int x) :: st => k (.inl (.int (x * y)) :: st)
    | _ => none
  | .iand => match st with
    | .inl (.int y) :: .inl (.int x) :: st => k (.inl (.int (x &&& y)) :: st)
    | _ => none
  | .ior => match st with
    | .inl (.int y) :: .inl (.int x) :: st => k (.inl (.int (x ||| y)) :: st)
    | _ => none
  | .ixor => match st with
    | .inl (.int y) :: .inl (.int x) :: st => k (.inl (.int (x ^^^ y)) :: st)
    | _ => none
  | .idiv => match st with
    | .inl (.int y) :: .inl (.int x) :: st => mv_gd (!decide (y = 0)) (k (.inl (.int (x / y)) :: st))
    | _ => none
  | .irem => match st with
    | .inl (.int y) :: .inl (.int x) :: st => mv_gd (!decide (y = 0)) (k (.inl (.int (x - x / y * y)) :: st))
    | _ => none
  | .ineg => match st with
    | .inl (.int x) :: st => k (.inl (.int (-x)) :: st)
    | _ => none
  | .ishl => match st with
    | .inl (.int y) :: .inl (.int x) :: st => k (.inl (.int (x <<< (y &&& 31))) :: st)
    | _ => none
  | .ishr => match st with
    | .inl (.int y) :: .inl (.int x) :: st => k (.inl (.int (x >>> (y &&& 31))) :: st)
    | _ => none
  | .iushr => match st with
    | .inl (.int y) :: .inl (.int x) :: st => k (.inl (.int ((x.toUInt32 >>> (y.toUInt32 &&& Int32.toUInt32 31)).toInt32)) :: st)
    | _ => none
  | .ladd => match st with
    | .inl (.long y) :: .inl (.long x) :: st => k (.inl (.long (x + y)) :: st)
    | _ => none
  | .lmul => match st with
    | .inl (.long y) :: .inl (.long x) :: st => k (.inl (.long (x * y)) :: st)
    | _ => none
  | .land => match st with
    | .inl (.long y) :: .inl (.long x) :: st => k (.inl (.long (x &&& y)) :: st)
    | _ => none
  | .lor => match st with
    | .inl (.long y) :: .inl (.long x) :: st => k (.inl (.long (x ||| y)) :: st)
    | _ => none
  | .ldiv => match st with
    | .inl (.long y) :: .inl (.long x) :: st => mv_gd (!decide (y = 0)) (k (.inl (.long (x / y)) :: st))
    | _ => none
  | .lrem => match st with
    | .inl (.long y) :: .inl (.long x) :: st => mv_gd (!decide (y = 0)) (k (.inl (.long (x - x / y * y)) :: st))
    | _ => none
  | .lshl => match st with
    | .inl (.int y) :: .inl (.long x) :: st => k (.inl (.long (x <<< (y.toInt64 &&& 63))) :: st)
    | _ => none
  | .lshr => match st with
    | .inl (.int y) :: .inl (.long x) :: st => k (.inl (.long (x >>> (y.toInt64 &&& 63))) :: st)
    | _ => none
  | .lcmp => match st with
    | .inl (.long y) :: .inl (.long x) :: st => k (.inl (.int (lg_cmp x y)) :: st)
    | _ => none
  | .i2l => match st with
    | .inl (.int x) :: st => k (.inl (.long x.toInt64) :: st)
    | _ => none
  | .l2i => match st with
    | .inl (.long x) :: st => k (.inl (.int x.toInt32) :: st)
    | _ => none
  | .i2b => match st with
    | .inl (.int x) :: st => k (.inl (.int x.toInt8.toInt32) :: st)
    | _ => none
  | .i2c => match st with
    | .inl (.int x) :: st => k (.inl (.int x.toUInt32.toUInt16.toUInt32.toInt32) :: st)
    | _ => none
  | .i2s => match st with
    | .inl (.int x) :: st => k (.inl (.int x.toInt16.toInt32) :: st)
    | _ => none
  | .dup => match st with
    | v :: st => match mv_two v with
      | false => k (v :: v :: st)
      | true => none
    | _ => none
  | .dup_x1 => match st with
    | v :: w :: st => match mv_two v || mv_two w with
      | false => k (v :: w :: v :: st)
      | true => none
    | _ => none
  | .dup2 => match st with
    | v :: w :: st => match mv_two v || mv_two w with
      | false => k (v :: w :: v :: w :: st)
      | true => none
    | _ => none
  | .pop => match st with
    | v :: st => match mv_two v with
      | false => k st
      | true => none
    | _ => none
  | .aconst_null => k (.inl .null :: st)
  | _ => none
def mv_cmp (c : ClassFile.Cond) (x y : Int32) {α : Type} (a b : α) : α := match c with
  | .eq => if x = y then a else b
  | .ne => if x = y then b else a
  | .lt => if x < y then a else b
  | .ge => if y ≤ x then a else b
  | .gt => if y < x then a else b
  | .le => if x ≤ y then a else b
def mv_ts {α : Type} (x : Int32) (lo : Nat) (d : α) (f : Nat → α) : List Nat → α
  | [] => d
  | t :: l => if x = nI lo then f t else mv_ts x (lo + 1) d f l
def mv_ls {α : Type} (x : Int32) (d : α) (f : Nat → α) : List Nat → α
  | k :: t :: l => if x = nI k then f t else mv_ls x d f l
  | _ => d
def mv_cpy (f : Nat → Int32) (g : Nat → Int32) (n : Nat) : Nat → Int32 := fun k => if k < n then f k else g k
/-- tags of int arrays, of arrays of rows -/
def mv_ra (t : Nat) : Bool := Nat.beq t 601 || Nat.beq t 807
def mv_ia (t : Nat) : Bool := Nat.ble 100 t && !(mv_ra t)
section
variable {Hp : Type} (rI : Hp → Nat → Nat → Nat → Int32) (rR : Hp → Nat → Nat → Nat → (Option (Nat × Nat) → Option (List mv_V × Hp)) → Option (List mv_V × Hp)) (ln : Hp → Nat → Nat → Nat) (wI : Hp → Nat → Nat → Nat → Int32 → Hp) (wR : Hp → Nat → Nat → Nat → Option (Nat × Nat) → (Hp → Option (List mv_V × Hp)) → Option (List mv_V × Hp)) (nw : Hp → Nat → Nat → (Nat → Hp → Option (List mv_V × Hp)) → Option (List mv_V × Hp)) (cp : Hp → Nat → Nat → Nat → Nat → Nat → Hp)
/-- reads and writes of the heap; lk: what the table says of the instruction's operands -/
def mv_hop (bod : Nat → Int32) (sc : Option (Nat × (Nat → Int32))) (i : Instr) (lk : List Nat) (st : List mv_V) (h : Hp) (k : List mv_V → Hp → Option (List mv_V × Hp)) : Option (List mv_V × Hp) := match i with
  | .getfield _ => match lk with
    | ci :: f :: kd :: _ => match st with
      | .inr (t, o) :: st => match Nat.beq t ci with
        | true => match Nat.beq kd 1 with
          | true => rR h t o f fun q => match q with
            | none => k (.inl .null :: st) h
            | some q => k (.inr q :: st) h
          | false => match Nat.beq t 11 with
            | true => match Nat.beq kd 3 with
              | true => k (.inr (12, o) :: st) h
              | false => k (.inl (.int (nI 0)) :: st) h
            | false => k (.inl (.int (rI h t o f)) :: st) h
        | false => none
      | _ => none
    | _ => none
  | .putfield _ => match lk with
    | ci :: f :: kd :: _ => match Nat.beq kd 1 with
      | true => match st with
        | .inr q :: .inr (t, o) :: st => match Nat.beq t ci with
          | true => wR h t o f (some q) fun h => k st h
          | false => none
        | .inl .null :: .inr (t, o) :: st => match Nat.beq t ci with
          | true => wR h t o f none fun h => k st h
          | false => none
        | _ => none
      | false => match st with
        | .inl (.int x) :: .inr (t, o) :: st => match Nat.beq t ci with
          | true => match Nat.beq kd 2 with
            | true => mv_gd (decide (x = nI 0) || decide (x = nI 1)) (mv_bh (wI h t o f x) fun h => k st h)
            | false => mv_bh (wI h t o f x) fun h => k st h
          | false => none
        | _ => none
    | _ => none
  | .iaload => match st with
    | .inl (.int i) :: .inr (t, o) :: st => match Nat.beq t 10 && Nat.beq o 0 with
      | true => match sc with
        | some q => mv_gd (mv_inb i q.1) (k (.inl (.int (q.2 i.toNatClampNeg)) :: st) h)
        | none => none
      | false => match Nat.beq t 13 && Nat.beq o 0 with
        | true => mv_gd (mv_inb i 24) (k (.inl (.int (bod i.toNatClampNeg)) :: st) h)
        | false => match mv_ia t with
          | true => mv_gd (mv_inb i (ln h t o)) (k (.inl (.int (rI h t o i.toNatClampNeg)) :: st) h)
          | false => none
    | _ => none
  | .iastore => match st with
    | .inl (.int x) :: .inl (.int i) :: .inr (t, o) :: st => match mv_ia t with
      | true => mv_gd (mv_inb i (ln h t o)) (mv_bh (wI h t o i.toNatClampNeg x) fun h => k st h)
      | false => none
    | _ => none
  | .aaload => match st with
    | .inl (.int i) :: .inr (t, o) :: st => match mv_ra t with
      | true => mv_gd (mv_inb i (ln h t o)) (rR h t o i.toNatClampNeg fun q => match q with
        | none => k (.inl .null :: st) h
        | some q => k (.inr q :: st) h)
      | false => none
    | _ => none
  | .aastore => match st with
    | .inr (u, n) :: .inl (.int i) :: .inr (t, o) :: st => match mv_ra t && Nat.beq u 4 with
      | true => mv_gd (mv_inb i (ln h t o)) (wR h t o i.toNatClampNeg (some (u, n)) fun h => k st h)
      | false => none
    | .inl .null :: .inl (.int i) :: .inr (t, o) :: st => match mv_ra t with
      | true => mv_gd (mv_inb i (ln h t o)) (wR h t o i.toNatClampNeg none fun h => k st h)
      | false => none
    | _ => none
  | .arraylength => match st with
    | .inr (t, o) :: st => match Nat.beq t 10 && Nat.beq o 0 with
      | true => match sc with
        | some q => k (.inl (.int (nI q.1)) :: st) h
        | none => none
      | false => match Nat.beq t 12 with
        | true => k (.inl (.int (nI (stl o))) :: st) h
        | false => match Nat.ble 100 t with
          | true => k (.inl (.int (nI (ln h t o))) :: st) h
          | false => none
    | _ => none
  | .baload => match st with
    | .inl (.int i) :: .inr (t, o) :: st => match Nat.beq t 12 with
      | true => mv_gd (mv_inb i (stl o)) (k (.inl (.int (stc o i.toNatClampNeg)) :: st) h)
      | false => none
    | _ => none
  | .getstatic _ => match lk with
    | t :: _ => match Nat.beq t 13 with
      | true => k (.inr (13, 0) :: st) h
      | false => match Nat.beq t 14 with
        | true => k (.inr (14, 0) :: st) h
        | false => k (.inl (.int (nI 1)) :: st) h
    | _ => none
  | _ => none
/-- locals, constants, stack -/
def mv_lop (i : Instr) (lk : List Nat) (lv : mv_L) (st : List mv_V) (k : mv_L → List mv_V → Option (List mv_V × Hp)) : Option (List mv_V × Hp) := match i with
  | .iload_n _ | .iload _ => match lk with
    | n :: _ => match mv_get n lv with
      | some (.inl (.int x)) => k lv (.inl (.int x) :: st)
      | _ => none
    | _ => none
  | .lload_n _ | .lload _ => match lk with
    | n :: _ => match mv_get n lv with
      | some (.inl (.long x)) => k lv (.inl (.long x) :: st)
      | _ => none
    | _ => none
  | .aload_n _ | .aload _ => match lk with
    | n :: _ => match mv_get n lv with
      | some (.inr q) => k lv (.inr q :: st)
      | some (.inl .null) => k lv (.inl .null :: st)
      | _ => none
    | _ => none
  | .istore_n _ | .istore _ => match lk with
    | n :: _ => match st with
      | .inl (.int x) :: st => mv_f1K n lv fun lv => mv_bi x fun x => k ((n, .inl (.int x)) :: lv) st
      | _ => none
    | _ => none
  | .lstore_n _ | .lstore _ => match lk with
    | n :: _ => match st with
      | .inl (.long x) :: st => mv_f2K n lv fun lv => mv_bl x fun x => k ((n, .inl (.long x)) :: lv) st
      | _ => none
    | _ => none
  | .astore_n _ | .astore _ => match lk with
    | n :: _ => match st with
      | .inr q :: st => mv_f1K n lv fun lv => k ((n, .inr q) :: lv) st
      | .inl .null :: st => mv_f1K n lv fun lv => k ((n, .inl .null) :: lv) st
      | _ => none
    | _ => none
  | .iinc _ _ => match lk with
    | n :: sg :: c :: _ => match mv_get n lv with
      | some (.inl (.int x)) => mv_f1K n lv fun lv => mv_bi (x + mv_c sg c) fun x => k ((n, .inl (.int x)) :: lv) st
      | _ => none
    | _ => none
  | .iconst _ | .bipush _ | .sipush _ => match lk with
    | sg :: c :: _ => k lv (.inl (.int (mv_c sg c)) :: st)
    | _ => none
  | .ldc _ | .ldc_w _ => match lk with
    | 0 :: sg :: c :: _ => k lv (.inl (.int (mv_c sg c)) :: st)
    | 1 :: n :: _ => k lv (.inr (11, n) :: st)
    | _ => none
  | .lconst _ | .ldc2_w _ => match lk with
    | sg :: c :: _ => k lv (.inl (.long (mv_cl sg c)) :: st)
    | _ => none
  | i => mv_op i st (k lv)
abbrev mv_C (Hp : Type) : Type := (Nat × Nat) × (List mv_V → Hp → (List mv_V → Hp → Option (List mv_V × Hp)) → Option (List mv_V × Hp))
/-- calls and makings: cells and slots made so far go along -/
def mv_cop (G : List (mv_C Hp)) (MC MS : Nat) (i : Instr) (lk : List Nat) (lv : mv_L) (st : List mv_V) (h : Hp) (ce sl : Nat) (k : List mv_V → Hp → Nat → Nat → Option (List mv_V × Hp)) : Option (List mv_V × Hp) :=
  match i with
  | .new _ => match lk with
    | ci :: n :: _ => match Nat.ble (ce + 1) MC && Nat.ble (sl + n) MS with
      | true => nw h ci 0 fun o h => k (.inr (ci, o) :: st) h (ce + 1) (sl + n)
      | false => none
    | _ => none
  | .newarray _ | .anewarray _ => match lk with
    | t :: _ => match st with
      | .inl (.int n) :: st => match Nat.ble (ce + 1) MC with
        | true => mv_gd (!decide (n < 0) && (Nat.ble n.toNatClampNeg 1000 && Nat.ble (sl + n.toNatClampNeg) MS)) (nw h t n.toNatClampNeg fun o h => k (.inr (t, o) :: st) h (ce + 1) (sl + n.toNatClampNeg))
        | false => none
      | _ => none
    | _ => none
  | .invokestatic _ => match lk with
    | 0 :: j :: n :: _ => match mv_nth j G with
      | some (c, f) => mv_tk n [] st fun as st => match Nat.ble (ce + c.1) MC && (Nat.ble (sl + c.2) MS && Nat.ble (mv_cats st) 8) with
        | true => f as h fun vs h => mv_ap vs st fun st => k st h (ce + c.1) (sl + c.2)
        | false => none
      | none => none
    | 1 :: _ => match st with
      | .inl (.int y) :: .inl (.int x) :: st => match Nat.ble (mv_cats st) 8 with
        | true => k (.inl (.int (if x < y then y else x)) :: st) h ce sl
        | false => none
      | _ => none
    | 2 :: _ => match st with
      | .inl (.int y) :: .inl (.int x) :: st => match Nat.ble (mv_cats st) 8 with
        | true => k (.inl (.int (if y < x then y else x)) :: st) h ce sl
        | false => none
      | _ => none
    | 3 :: _ => match st with
      | .inl (.int x) :: st => match Nat.ble (mv_cats st) 8 with
        | true => k (.inl (.int (if 0 ≤ x then x else 0 - x)) :: st) h ce sl
        | false => none
      | _ => none
    | 4 :: _ => match st with
      | .inl (.int n) :: .inl (.int dp) :: .inr (t', o') :: .inl (.int sp) :: .inr (t, o) :: st => match Nat.beq t t' && (mv_ia t && Nat.ble (mv_cats st) 8) with
        | true => mv_gd (decide (sp = nI 0) && (decide (dp = nI 0) && (!decide (n < 0) && (Nat.ble n.toNatClampNeg (ln h t o) && Nat.ble n.toNatClampNeg (ln h t o'))))) (mv_bh (cp h t o o' n.toNatClampNeg 0) fun h => k st h ce sl)
        | false => none
      | _ => none
    | _ => none
  | .invokevirtual _ | .invokespecial _ => match lk with
    | 0 :: j :: n :: _ => match mv_nth j G with
      | some (c, f) => mv_tk n [] st fun as st => match Nat.ble (ce + c.1) MC && (Nat.ble (sl + c.2) MS && Nat.ble (mv_cats st) 8) with
        | true => f as h fun vs h => mv_ap vs st fun st => k st h (ce + c.1) (sl + c.2)
        | false => none
      | none => none
    | 5 :: _ => match st with
      | .inr _ :: st => match Nat.ble (mv_cats st) 8 with
        | true => k st h ce sl
        | false => none
      | _ => none
    | _ => none
  | _ => none
/-- one instruction: 'nx' goes on behind it, 'jp' at a place -/
def mv_step (bod : Nat → Int32) (sc : Option (Nat × (Nat → Int32))) (G : List (mv_C Hp)) (MC MS : Nat) (nx : mv_L → List mv_V → Hp → Nat → Nat → Option (List mv_V × Hp)) (jp : Nat → mv_L → List mv_V → Hp → Nat → Nat → Option (List mv_V × Hp)) (i : Instr) (lk : List Nat) (lv : mv_L) (st : List mv_V) (h : Hp) (ce sl : Nat) : Option (List mv_V × Hp) :=
  match i with
  | .getfield _ | .putfield _ | .iaload | .iastore | .aaload | .aastore | .arraylength | .baload | .getstatic _ => mv_hop rI rR ln wI wR bod sc i lk st h fun st h => nx lv st h ce sl
  | .invokestatic _ | .invokevirtual _ | .invokespecial _ | .new _ | .newarray _ | .anewarray _ => mv_cop ln nw cp G MC MS i lk lv st h ce sl fun st h ce sl => nx lv st h ce sl
  | .goto _ => match lk with
    | t :: _ => jp t lv st h ce sl
    | _ => none
  | .ifCond c _ => match lk with
    | t :: _ => match st with
      | .inl (.int x) :: st => mv_cmp c x 0 (jp t lv st h ce sl) (nx lv st h ce sl)
      | _ => none
    | _ => none
  | .if_icmp c _ => match lk with
    | t :: _ => match st with
      | .inl (.int y) :: .inl (.int x) :: st => mv_cmp c x y (jp t lv st h ce sl) (nx lv st h ce sl)
      | _ => none
    | _ => none
  | .ifnull _ => match lk with
    | t :: _ => match st with
      | .inr _ :: st => nx lv st h ce sl
      | .inl .null :: st => jp t lv st h ce sl
      | _ => none
    | _ => none
  | .ifnonnull _ => match lk with
    | t :: _ => match st with
      | .inr _ :: st => jp t lv st h ce sl
      | .inl .null :: st => nx lv st h ce sl
      | _ => none
    | _ => none
  | .tableswitch _ _ _ _ => match lk with
    | lo :: d :: l => match st with
      | .inl (.int x) :: st => mv_ts x lo (jp d lv st h ce sl) (fun t => jp t lv st h ce sl) l
      | _ => none
    | _ => none
  | .lookupswitch _ _ => match lk with
    | d :: l => match st with
      | .inl (.int x) :: st => mv_ls x (jp d lv st h ce sl) (fun t => jp t lv st h ce sl) l
      | _ => none
    | _ => none
  | .ireturn => match lk with
    | 1 :: _ => match st with
      | [.inl (.int x)] => mv_gd (decide (x = nI 0) || decide (x = nI 1)) (some ([.inl (.int x)], h))
      | _ => none
    | 2 :: _ => match st with
      | [.inl (.int x)] => mv_gd (decide (0 ≤ x) && decide (x ≤ 127)) (some ([.inl (.int x)], h))
      | _ => none
    | _ => match st with
      | [.inl (.int x)] => some ([.inl (.int x)], h)
      | _ => none
  | .lreturn => match st with
    | [.inl (.long x)] => some ([.inl (.long x)], h)
    | _ => none
  | .areturn => match st with
    | [.inr q] => some ([.inr q], h)
    | [.inl .null] => some ([.inl .null], h)
    | _ => none
  | .return_ => match st with
    | [] => some ([], h)
    | _ => none
  | i => mv_lop i lk lv st fun lv st => nx lv st h ce sl
def mv_nx (stops : List Nat) (ka : Nat → mv_L → List mv_V → Hp → Nat → Nat → Option (List mv_V × Hp)) (go : List mv_E → mv_L → List mv_V → Hp → Nat → Nat → Option (List mv_V × Hp)) (cs : List mv_E) (lv : mv_L) (st : List mv_V) (h : Hp) (ce sl : Nat) : Option (List mv_V × Hp) := match cs with
  | [] => none
  | e :: cs => match mv_mem e.1 stops with
    | true => ka e.1 lv st h ce sl
    | false => go (e :: cs) lv st h ce sl
/-- a stretch of code, up to returns and to the places 'stops', where 'ka' goes on -/
def mv_blk (bod : Nat → Int32) (sc : Option (Nat × (Nat → Int32))) (tab : List mv_E) (G : List (mv_C Hp)) (MC MS : Nat) (stops : List Nat) (ka : Nat → mv_L → List mv_V → Hp → Nat → Nat → Option (List mv_V × Hp)) : Nat → List mv_E → mv_L → List mv_V → Hp → Nat → Nat → Option (List mv_V × Hp)
  | 0 => fun _ _ _ _ _ _ => none
  | n + 1 => fun cs lv st h ce sl => match cs with
    | [] => none
    | e :: cs => mv_step rI rR ln wI wR nw cp bod sc G MC MS (mv_nx stops ka (mv_blk bod sc tab G MC MS stops ka n) cs) (fun t => mv_nx stops ka (mv_blk bod sc tab G MC MS stops ka n) (mv_seek t tab)) e.2.1 e.2.2.2 lv st h ce sl
end
end
section
/-! WHAT THE EVALUATOR'S ANSWERS MEAN, over the machine -/
def tch : Nat → List Cond
  | 0 => k2_sels lw_privs
  | 1 => tables_1_1
  | 2 => tables_1_2
  | 3 => tables_1_3
  | 4 => tables_1_4
  | 5 => tables_1_5
  | 6 => tables_1_6
  | 7 => tables_1_7
  | _ => []
theorem tch_in : ∀ (j : Nat) (w : Cond), w ∈ tch j → w ∈ lw_tbl
  | 0, w, h => List.mem_append.mpr (Or.inl h)
  | 1, w, h => List.mem_append.mpr (Or.inr (List.mem_append.mpr (Or.inl h)))
  | 2, w, h => List.mem_append.mpr (Or.inr (List.mem_append.mpr (Or.inr (List.mem_append.mpr (Or.inl h)))))
  | 3, w, h => List.mem_append.mpr (Or.inr (List.mem_append.mpr (Or.inr (List.mem_append.mpr (Or.inr (List.mem_append.mpr (Or.inl h)))))))
  | 4, w, h => List.mem_append.mpr (Or.inr (List.mem_append.mpr (Or.inr (List.mem_append.mpr (Or.inr (List.mem_append.mpr (Or.inr (List.mem_append.mpr (Or.inl h)))))))))
  | 5, w, h => List.mem_append.mpr (Or.inr (List.mem_append.mpr (Or.inr (List.mem_append.mpr (Or.inr (List.mem_append.mpr (Or.inr (List.mem_append.mpr (Or.inr (List.mem_append.mpr (Or.inl h)))))))))))
  | 6, w, h => List.mem_append.mpr (Or.inr (List.mem_append.mpr (Or.inr (List.mem_append.mpr (Or.inr (List.mem_append.mpr (Or.inr (List.mem_append.mpr (Or.inr (List.mem_append.mpr (Or.inr (List.mem_append.mpr (Or.inl h)))))))))))))
  | 7, w, h => List.mem_append.mpr (Or.inr (List.mem_append.mpr (Or.inr (List.mem_append.mpr (Or.inr (List.mem_append.mpr (Or.inr (List.mem_append.mpr (Or.inr (List.mem_append.mpr (Or.inr (List.mem_append.mpr (Or.inr h)))))))))))))
  | _ + 8, _, h => absurd h List.not_mem_nil
/-- the words that every contract asks: all of the tables' that hold wherever they held -/
def WS : List Cond := lw_tbl.filter goodWord
def wAt (j i : Nat) (w : Cond) : Bool := decide ((tch j)[i]? = some w) && goodWord w
theorem wAt_in {j i : Nat} {w : Cond} (h : wAt j i w = true) : w ∈ WS := by
  simp only [wAt, Bool.and_eq_true, decide_eq_true_eq] at h
  exact List.mem_filter.mpr ⟨tch_in j w (List.mem_of_getElem? h.1), h.2⟩
theorem WS_good {w : Cond} (h : w ∈ WS) : (w.onTables && w.keeps) = true ∨ ∃ ty, w = .arrayClass ty := good_of_word (List.mem_filter.mp h).2
-- the classes by their tags
def mv_T : Nat → u_T
  | 0 => TX0
  | 1 => TX2
  | 2 => TX3
  | 3 => TX4
  | 4 => TX5
  | 5 => TX6
  | 6 => TX7
  | 7 => TX8
  | _ => TX9
def mv_R : Nat → String
  | 0 => RX0
  | 1 => RX2
  | 2 => RX3
  | 3 => RX4
  | 4 => RX5
  | 5 => RX6
  | 6 => RX7
  | 7 => RX8
  | _ => RX9
def mv_nf : Nat → Nat
  | 0 => 6
  | 1 => 1
  | 2 => 12
  | 3 => 2
  | 4 => 2
  | 5 => 2
  | 6 => 6
  | 7 => 10
  | _ => 25
def mv_ty : Nat → Nat → FieldType
  | 0 => tyX0
  | 1 => tyX2
  | 2 => tyX3
  | 3 => tyX4
  | 4 => tyX5
  | 5 => tyX6
  | 6 => tyX7
  | 7 => tyX8
  | _ => tyX9
def mv_isR (t k : Nat) : Bool := match mv_ty t k with
  | .int => false
  | .boolean => false
  | _ => true
theorem mv_clOf (t : Nat) (h : t < 9) : vwCl[t]? = some (mv_R t, mv_T t, mv_nf t) := by
  match t, h with
  | 0, _ | 1, _ | 2, _ | 3, _ | 4, _ | 5, _ | 6, _ | 7, _ | 8, _ => rfl
  | _ + 9, h => omega
theorem mv_nm (t : Nat) (h : t < 9) : ∀ a, a < mv_nf t → ∀ b, b < mv_nf t → a ≠ b → (mv_T t a).2.1 ≠ (mv_T t b).2.1 := by
  match t, h with
  | 0, _ => exact nmX0
  | 1, _ => exact nmX2
  | 2, _ => exact nmX3
  | 3, _ => exact nmX4
  | 4, _ => exact nmX5
  | 5, _ => exact nmX6
  | 6, _ => exact nmX7
  | 7, _ => exact nmX8
  | 8, _ => exact nmX9
  | _ + 9, h => omega
theorem mv_tyok (t : Nat) (h : t < 9) : ∀ k, k < mv_nf t → parseFieldDescriptor (mv_T t k).2.2.1 = some (mv_ty t k) := by
  match t, h with
  | 0, _ => exact tyX0_ok
  | 1, _ => exact tyX2_ok
  | 2, _ => exact tyX3_ok
  | 3, _ => exact tyX4_ok
  | 4, _ => exact tyX5_ok
  | 5, _ => exact tyX6_ok
  | 6, _ => exact tyX7_ok
  | 7, _ => exact tyX8_ok
  | 8, _ => exact tyX9_ok
  | _ + 9, h => omega
-- where the words of a class's fields stand
def mv_lay : Nat → List (Nat × Nat)
  | 0 => [(1, 185), (1, 187), (1, 189), (1, 191), (1, 193), (1, 195)]
  | 1 => [(1, 111)]
  | 2 => [(1, 76), (1, 78), (1, 80), (1, 82), (1, 84), (1, 86), (1, 88), (1, 90), (1, 92), (1, 94), (1, 96), (1, 98)]
  | 3 => [(1, 150), (1, 152)]
  | 4 => [(4, 58), (4, 60)]
  | 5 => [(1, 166), (1, 168)]
  | 6 => [(1, 127), (1, 129), (1, 131), (1, 133), (1, 135), (1, 137)]
  | 7 => [(1, 208), (1, 210), (1, 212), (1, 214), (1, 216), (1, 218), (1, 220), (1, 222), (1, 224), (1, 226)]
  | _ => [(4, 203), (4, 205), (4, 207), (4, 209), (4, 211), (4, 213), (4, 215), (4, 217), (4, 219), (4, 221), (4, 223), (4, 225), (4, 227), (4, 229), (4, 231), (4, 233), (4, 235), (4, 237), (4, 239), (5, 1), (5, 3), (5, 5), (5, 7), (5, 9), (5, 11)]
theorem mv_layok : ∀ t, t < 9 → ((List.range (mv_nf t)).all fun k => wAt ((mv_lay t).getD k (0, 0)).1 ((mv_lay t).getD k (0, 0)).2 (u_lay (mv_R t) (mv_T t) k)) = true := by decide +kernel
theorem mv_wsin (t : Nat) (h : t < 9) : ∀ w ∈ u_ws (mv_R t) (mv_T t) (mv_nf t), w ∈ WS := by
  intro w hw
  obtain ⟨k, hk, rfl⟩ := List.mem_map.mp hw
  exact wAt_in (List.all_eq_true.mp (mv_layok t h) k hk)
-- values, cells, the world
def mv_v (φ : Nat → Nat → Nat) : mv_V → Value
  | .inl v => v
  | .inr q => .ref (φ q.1 q.2)
def mv_fv (φ : Nat → Nat → Nat) (g : mv_G) (t o k : Nat) : Value := match mv_isR t k with
  | true => va_rf ((g.2.1 t o k).map fun q => φ q.1 q.2)
  | false => .int (g.1 t o k)
def mv_cell (cI cQ : ClassId) (φ : Nat → Nat → Nat) (g : mv_G) (t o : Nat) : va_E :=
  if t < 9 then .inr (t, (List.range (mv_nf t)).map (mv_fv φ g t o))
  else if mv_ra t = true then .inl (cQ, g.2.2.1 t o, .inr (.inr (.inr (.inr fun k => (g.2.1 t o k).map fun q => φ q.1 q.2))))
  else .inl (cI, g.2.2.1 t o, .inl (g.1 t o))
def mv_W (D : va_G) (cI cQ : ClassId) (q0 : Nat) (φ : Nat → Nat → Nat) (g : mv_G) (H : Heap) : Prop :=
  (∀ t o, o < g.2.2.2 t → va_at D vwCl (φ t o, mv_cell cI cQ φ g t o) H) ∧ (∀ t o, o < g.2.2.2 t → q0 ≤ φ t o) ∧
  (∀ t o t' o', o < g.2.2.2 t → o' < g.2.2.2 t' → φ t o = φ t' o' → t = t' ∧ o = o') ∧
  (∀ t o k q, o < g.2.2.2 t → g.2.1 t o k = some q → q.2 < g.2.2.2 q.1) ∧ (∃ ts : List Nat, ts.Nodup ∧ ∀ t, 0 < g.2.2.2 t → t ∈ ts) ∧ ∀ t, 10 ≤ t → t < 100 → g.2.2.2 t = 0
def mv_live (g : mv_G) : mv_V → Prop
  | .inl _ => True
  | .inr q => q.2 < g.2.2.2 q.1 ∨ (10 ≤ q.1 ∧ q.1 < 100 ∧ (q.1 = 11 ∨ q.1 = 12 → q.2 < 36))
/-- a later picture: more cells, those that were there where they were -/
def mv_ge (g0 : mv_G) (φ0 : Nat → Nat → Nat) (g : mv_G) (φ : Nat → Nat → Nat) : Prop :=
  (∀ t o, o < g0.2.2.2 t → φ t o = φ0 t o) ∧ (∀ t o, 10 ≤ t → t < 100 → φ t o = φ0 t o) ∧ ∀ t, g0.2.2.2 t ≤ g.2.2.2 t
theorem mv_ge.rf {g : mv_G} {φ : Nat → Nat → Nat} : mv_ge g φ g φ := ⟨fun _ _ _ => rfl, fun _ _ _ _ => rfl, fun _ => Nat.le_refl _⟩
theorem mv_ge.trans {g0 g1 g2 : mv_G} {φ0 φ1 φ2 : Nat → Nat → Nat} (h1 : mv_ge g0 φ0 g1 φ1) (h2 : mv_ge g1 φ1 g2 φ2) : mv_ge g0 φ0 g2 φ2 :=
  ⟨fun t o h => (h2.1 t o (Nat.lt_of_lt_of_le h (h1.2.2 t))).trans (h1.1 t o h), fun t o a b => (h2.2.1 t o a b).trans (h1.2.1 t o a b), fun t => Nat.le_trans (h1.2.2 t) (h2.2.2 t)⟩
theorem mv_live.up {g0 g : mv_G} {φ0 φ : Nat → Nat → Nat} (hg : mv_ge g0 φ0 g φ) {v : mv_V} (h : mv_live g0 v) : mv_live g v := by
  cases v with
  | inl _ => trivial
  | inr q => exact h.imp (fun h => Nat.lt_of_lt_of_le h (hg.2.2 q.1)) id
theorem mv_live.same {g0 g : mv_G} {φ0 φ : Nat → Nat → Nat} (hg : mv_ge g0 φ0 g φ) {v : mv_V} (h : mv_live g0 v) : mv_v φ v = mv_v φ0 v := by
  cases v with
  | inl _ => rfl
  | inr q =>
    show Value.ref _ = Value.ref _
    rcases h with h | h
    · rw [hg.1 _ _ h]
    · rw [hg.2.1 _ _ h.1 h.2.1]
theorem mv_live.sames {g0 g : mv_G} {φ0 φ : Nat → Nat → Nat} (hg : mv_ge g0 φ0 g φ) {l : List mv_V} (h : ∀ v ∈ l, mv_live g0 v) : l.map (mv_v φ) = l.map (mv_v φ0) :=
  List.map_congr_left fun v hv => (h v hv).same hg
theorem mv_live.samel {g0 g : mv_G} {φ0 φ : Nat → Nat → Nat} (hg : mv_ge g0 φ0 g φ) {l : mv_L} (h : ∀ q ∈ l, mv_live g0 q.2) : (l.map fun q => (q.1, mv_v φ q.2)) = l.map fun q => (q.1, mv_v φ0 q.2) :=
  List.map_congr_left fun q hq => by rw [(h q hq).same hg]
-- texts

def mv_nl : List (String × Nat × MethodName) := [("IntentVats", 28, ⟨"IntentVats$Forecast", "<init>", "()V"⟩), ("IntentVats", 35, ⟨"IntentVats$Tape", "<init>", "()V"⟩), ("IntentVats", 42, ⟨"IntentVats$Rows", "<init>", "()V"⟩), ("IntentVats", 62, ⟨"IntentVats$Acts", "<init>", "()V"⟩), ("IntentVats$Tape", 131, ⟨"IntentVats", "isIn", "(III)Z"⟩), ("IntentVats$Tape", 125, ⟨"IntentVats", "mostOfLaw", "(I)I"⟩), ("IntentVats$Mill", 58, ⟨"IntentVats", "isIn", "(III)Z"⟩), ("IntentVats$Rows", 19, ⟨"IntentVats", "isIn", "(III)Z"⟩), ("IntentVats$SheetRow", 17, ⟨"IntentVats", "isIn", "(III)Z"⟩)]
-- what lies outside: the literals, the acts' table, the two statics
def mv_Ext (q0 : Nat) (φ : Nat → Nat → Nat) (s : State) : Prop :=
  (∀ k own idx tx, mv_sw k = some (own, idx, tx) → vk_R own idx tx (φ 11 k) s) ∧
  (∀ k, k < 36 → va_O "java/lang/String" (φ 11 k) (fun q => q0 ≤ q) s s.heap ∧ va_OF "java/lang/String" "coder" "B" (.int 0) (φ 11 k) (fun q => q0 ≤ q) s s.heap ∧ va_OF "java/lang/String" "value" "[B" (.ref (φ 12 k)) (φ 11 k) (fun q => q0 ≤ q) s s.heap ∧ va_T .byte (φ 12 k) (stl k) (fun j => .int (stc k j)) (fun q => q0 ≤ q) s s.heap) ∧
  va_Z "IntentVats$Acts" "BODIES" "[I" (.ref (φ 13 0)) (fun q => q0 ≤ q) s s.heap ∧ va_T .int (φ 13 0) 24 (fun j => .int (bod j)) (fun q => q0 ≤ q) s s.heap ∧
  va_Z "java/lang/String" "COMPACT_STRINGS" "Z" (.int 1) (fun q => q0 ≤ q) s s.heap ∧ va_Z "jdk/internal/util/Preconditions" "SIOOBE_FORMATTER" "Ljava/util/function/BiFunction;" (.ref (φ 14 0)) (fun q => q0 ≤ q) s s.heap ∧
  (∀ q ∈ mv_nl, va_Nw (.methodLinkNest q.1 q.2.1 q.2.2 "IntentVats") s) ∧ va_Nw (.fieldLinkNest "IntentVats" 79 "IntentVats$Tape" "length" "I" "IntentVats") s
theorem mv_Ext.next {q0 : Nat} {φ φ' : Nat → Nat → Nat} {s U : State} (h : mv_Ext q0 φ s) (hW : s.WarmedH U.vm) (hq : ∀ a : Nat, a < s.heap.size → ¬ q0 ≤ a → U.heap[a]? = s.heap[a]?) (hφ : ∀ t o, 10 ≤ t → t < 100 → φ' t o = φ t o) : mv_Ext q0 φ' U := by
  obtain ⟨h1, h2, h3, h4, h5, h6, h7, h8⟩ := h
  have hv : s.vm.Alike U.vm := hW.alike
  have e : ∀ o, φ' 11 o = φ 11 o ∧ φ' 12 o = φ 12 o ∧ φ' 13 o = φ 13 o ∧ φ' 14 o = φ 14 o := fun o => ⟨hφ _ _ (by decide) (by decide), hφ _ _ (by decide) (by decide), hφ _ _ (by decide) (by decide), hφ _ _ (by decide) (by decide)⟩
  refine ⟨fun k own idx tx hk => by rw [(e k).1]; exact (h1 k own idx tx hk).warm hW, fun k hk => ?_, ?_, ?_, (h5.moved hv).kept hq, ?_⟩
  · obtain ⟨a, b, c, d⟩ := h2 k hk
    rw [(e k).1, (e k).2.1]
    exact ⟨(a.moved hv).kept hq, (b.moved hv).kept hq, (c.moved hv).kept hq, (d.moved hv).kept hq⟩
  · rw [(e 0).2.2.1]; exact (h3.moved hv).kept hq
  · rw [(e 0).2.2.1]; exact (h4.moved hv).kept hq
  · rw [(e 0).2.2.2]; exact ⟨(h6.moved hv).kept hq, fun q hq => va_Nw.warmM hW (h7 q hq), va_Nw.warmF hW h8⟩
theorem mv_Ext.same {q0 : Nat} {φ : Nat → Nat → Nat} {u U : State} (hv : U.vm = u.vm) (hh : U.heap = u.heap) (h : mv_Ext q0 φ u) : mv_Ext q0 φ U := by
  obtain ⟨h1, h2, h3, h4, h5, h6, h7, h8⟩ := h
  have hA : u.vm.Alike U.vm := by rw [hv]; exact Vm.Alike.refl _
  refine ⟨fun k own idx tx hk => (h1 k own idx tx hk).same hv, fun k hk => ?_, ?_, ?_, ?_, ?_⟩
  · obtain ⟨a, b, c, d⟩ := h2 k hk
    rw [hh]
    exact ⟨a.moved hA, b.moved hA, c.moved hA, d.moved hA⟩
  · rw [hh]; exact h3.moved hA
  · rw [hh]; exact h4.moved hA
  · rw [hh]; exact h5.moved hA
  · rw [hh]; exact ⟨h6.moved hA, fun q hq => va_Nw.same rfl hv.symm (h7 q hq), va_Nw.same rfl hv.symm h8⟩
theorem mv_sw_lt {n : Nat} {q : String × Nat × String} (h : mv_sw n = some q) : n < 36 := by
  unfold mv_sw at h
  split at h <;> first | decide | cases h
/-- the script of the law -/
def mv_Scr (sc : Option (Nat × (Nat → Int32))) (q0 : Nat) (φ : Nat → Nat → Nat) (s : State) : Prop := ∀ q, sc = some q → va_X (φ 10 0) q.1 q.2 s s.heap ∧ φ 10 0 < s.heap.size ∧ ¬ q0 ≤ φ 10 0
-- a method: its name, code, locals, what it returns
abbrev mv_MD : Type := MethodName × ByteArray × Nat × Option FieldType
def mv_rm (n MC MS : Nat) : Room := { frames := n, cells := MC, slots := MS, locals := 40 * (n + 1) }
def mv_B (md : mv_MD) (n MC MS : Nat) (sc : Option (Nat × (Nat → Int32))) (p : Program) (R : Room) (s : State) (m : MethodId) (args : Array Value) (meth : Method) (c : Code) (D : va_G) (cI cQ : ClassId) (q0 : Nat) (φ0 : Nat → Nat → Nat) : Prop :=
  p.tables.exec = Jvm.exec ∧ c.code = md.2.1 ∧ c.maxLocals = md.2.2.1 ∧ s.vm.findClass md.1.cls = some m.cls ∧ meth.name = md.1.name ∧ (∀ w ∈ WS, w.before args s = true) ∧
  va_K D vwCl [(cI, .int), (cQ, .object RX5)] s ∧ q0 ≤ s.heap.size ∧ (n ≤ R.frames ∧ MC ≤ R.cells ∧ MS ≤ R.slots ∧ 40 * (n + 1) ≤ R.locals) ∧ mv_Ext q0 φ0 s ∧ mv_Scr sc q0 φ0 s
section
variable {Hp : Type} (vw : Hp → mv_G)
def mv_Ret (md : mv_MD) (MC MS : Nat) (g0 : mv_G) (res : List mv_V × Hp) (p : Program) (l : Launch) (e : Env) (R : Room) (s : State) (m : MethodId) (args : Array Value) (below : List Frame) (meth : Method) (c : Code) (D : va_G) (cI cQ : ClassId) (q0 : Nat) (φ0 : Nat → Nat → Nat) (Qf : State → Prop) : Prop :=
  ∀ φ H locs ls pc, mv_ge g0 φ0 (vw res.2) φ → mv_W D cI cQ q0 φ (vw res.2) H → va_S (fun q => q0 ≤ q) s.heap H locs → (∀ v ∈ res.1, mv_live (vw res.2) v) →
    (∀ x, res.1 = [.inl (.int x)] → decode md.2.1 pc = .ok (.ireturn, 1) → (∃ ty, md.2.2.2 = some ty ∧ narrow ty (.int x) = .int x) → W p l e R s m args below meth c H locs MC MS Qf (F0 m pc ls [.int x])) ∧
    (∀ x, res.1 = [.inl (.long x)] → decode md.2.1 pc = .ok (.lreturn, 1) → md.2.2.2 = some .long → W p l e R s m args below meth c H locs MC MS Qf (F0 m pc ls [.long x])) ∧
    (∀ v, res.1 = [v] → decode md.2.1 pc = .ok (.areturn, 1) → (∃ n, md.2.2.2 = some (.object n)) → (v = .inl .null ∨ ∃ q, v = .inr q) → W p l e R s m args below meth c H locs MC MS Qf (F0 m pc ls [mv_v φ v])) ∧
    (res.1 = [] → decode md.2.1 pc = .ok (.return_, 1) → md.2.2.2 = none → W p l e R s m args below meth c H locs MC MS Qf (F0 m pc ls []))
/-- the machine, at this place with this picture, comes to the end 'Qf' -/
def mv_Y (md : mv_MD) (MC MS : Nat) (g0 : mv_G) (p : Program) (l : Launch) (e : Env) (R : Room) (s : State) (m : MethodId) (args : Array Value) (below : List Frame) (meth : Method) (c : Code) (D : va_G) (cI cQ : ClassId) (q0 : Nat) (φ0 : Nat → Nat → Nat) (Qf : State → Prop) (pc : Nat) (lv : mv_L) (st : List mv_V) (h : Hp) (ce sl : Nat) : Prop :=
  ce ≤ MC → sl ≤ MS → (∀ v ∈ st, mv_live (vw h) v) → (∀ q ∈ lv, mv_live (vw h) q.2) → ∀ φ H locs ls, mv_ge g0 φ0 (vw h) φ → mv_W D cI cQ q0 φ (vw h) H → va_S (fun q => q0 ≤ q) s.heap H locs → lv_has ls md.2.2.1 (lv.map fun q => (q.1, mv_v φ q.2)) → W p l e R s m args below meth c H locs ce sl Qf (F0 m pc ls (st.map (mv_v φ)))
def mv_X (md : mv_MD) (n MC MS : Nat) (sc : Option (Nat × (Nat → Int32))) (g0 : mv_G) (res : List mv_V × Hp) (pc : Nat) (lv : mv_L) (st : List mv_V) (h : Hp) (ce sl : Nat) : Prop :=
  ∀ (p : Program) (l : Launch) (e : Env) (R : Room) (s : State) (m : MethodId) (args : Array Value) (below : List Frame) (meth : Method) (c : Code) (D : va_G) (cI cQ : ClassId) (q0 : Nat) (φ0 : Nat → Nat → Nat) (Qf : State → Prop), mv_B md n MC MS sc p R s m args meth c D cI cQ q0 φ0 → mv_Ret vw md MC MS g0 res p l e R s m args below meth c D cI cQ q0 φ0 Qf → mv_Y vw md MC MS g0 p l e R s m args below meth c D cI cQ q0 φ0 Qf pc lv st h ce sl
/-- a method's contract, at given arguments and heap -/
def mv_Met (n MC MS : Nat) (md : mv_MD) (as : List mv_V) (h : Hp) (vs : List mv_V) (h' : Hp) : Prop :=
  ∀ (l : Launch) (D : va_G) (cI cQ : ClassId) (q0 : Nat) (φ : Nat → Nat → Nat), Met l md.1 (.code md.1 md.2.1 md.2.2.1 md.2.2.2 :: WS) (mv_rm n MC MS) (va_Pc (as.map (mv_v φ)) fun U => q0 ≤ U.heap.size ∧ va_K D vwCl [(cI, .int), (cQ, .object RX5)] U ∧ mv_Ext q0 φ U ∧ (∀ v ∈ as, mv_live (vw h) v) ∧ mv_W D cI cQ q0 φ (vw h) U.heap)
    (fun _ st oc t => ∃ φ', mv_ge (vw h) φ (vw h') φ' ∧ (∀ v ∈ vs, mv_live (vw h') v) ∧ oc = .returned (vs.map (mv_v φ')).head? ∧ mv_W D cI cQ q0 φ' (vw h') t.heap ∧ va_F (fun q => q0 ≤ q) st t) MC MS (fun q => q0 ≤ q)
/-- a call-form holds: where it answers, the callee's contract gives the answer -/
def mv_rcv (md : mv_MD) (as : List mv_V) : Prop := ∃ t o rest, as = .inr (t, o) :: rest ∧ ((t < 9 ∧ md.1.cls = mv_R t) ∨ (t = 11 ∧ md.1.cls = "java/lang/String"))
def mv_Cal (n : Nat) (md : mv_MD × Bool) (C : mv_C Hp) : Prop := ∀ as h k res, C.2 as h k = some res → ∃ vs h', k vs h' = some res ∧ vs.length ≤ 1 ∧ (md.2 = true → mv_rcv md.1 as) ∧ mv_Met vw n C.1.1 C.1.2 md.1 as h vs h'
end
end
section
theorem mv_gd_some {α : Type} {b : Bool} {k : Option α} {r : α} (h : mv_gd b k = some r) : b = true ∧ k = some r := by
  cases b with
  | true => exact ⟨rfl, h⟩
  | false => cases h
section
variable {p : Program} {l : Launch} {e : Env} {R : Room} {s : State} {m : MethodId} {args : Array Value} {below : List Frame} {meth : Method} {c : Code} {H : Heap} {locs : List Loc} {cells slots : Nat} {Q : State → Prop} {cc : ByteArray} {pc : Nat} {ls : Array Slot} {φ : Nat → Nat → Nat} {g : mv_G}
theorem mv_two_cat {v : mv_V} (h : mv_two v = false) : (mv_v φ v).category = 1 := by
  cases v with
  | inr q => rfl
  | inl v => cases v <;> first | rfl | cases h
set_option maxHeartbeats 4000000 in
/-- what works on the stack alone -/
theorem mv_op_sound {α : Type} (hx : p.tables.exec = Jvm.exec) (hb : c.code = cc) {i : Instr} (hd : decode cc pc = .ok (i, 1)) {st : List mv_V} {k : List mv_V → Option α} {res : α} (h : mv_op i st k = some res) (hv : ∀ v ∈ st, mv_live g v)
    (kk : ∀ st', k st' = some res → (∀ v ∈ st', mv_live g v) → W p l e R s m args below meth c H locs cells slots Q (F0 m (pc + 1) ls (st'.map (mv_v φ)))) : W p l e R s m args below meth c H locs cells slots Q (F0 m pc ls (st.map (mv_v φ))) := by
  unfold mv_op at h
  split at h
  · split at h
    · exact lv_iadd hx hb hd (kk _ h (List.forall_mem_cons.mpr ⟨trivial, (List.forall_mem_cons.mp (List.forall_mem_cons.mp hv).2).2⟩))
    · cases h
  · split at h
    · exact lv_isub hx hb hd (kk _ h (List.forall_mem_cons.mpr ⟨trivial, (List.forall_mem_cons.mp (List.forall_mem_cons.mp hv).2).2⟩))
    · cases h
  · split at h
    · exact lv_imul hx hb hd (kk _ h (List.forall_mem_cons.mpr ⟨trivial, (List.forall_mem_cons.mp (List.forall_mem_cons.mp hv).2).2⟩))
    · cases h
  · split at h
    · exact lv_iand hx hb hd (kk _ h (List.forall_mem_cons.mpr ⟨trivial, (List.forall_mem_cons.mp (List.forall_mem_cons.mp hv).2).2⟩))
    · cases h
  · split at h
    · exact lv_ior hx hb hd (kk _ h (List.forall_mem_cons.mpr ⟨trivial, (List.forall_mem_cons.mp (List.forall_mem_cons.mp hv).2).2⟩))
    · cases h
  · split at h
    · exact lv_ixor hx hb hd (kk _ h (List.forall_mem_cons.mpr ⟨trivial, (List.forall_mem_cons.mp (List.forall_mem_cons.mp hv).2).2⟩))
    · cases h
  · split at h
    · obtain ⟨hg, h⟩ := mv_gd_some h
      exact lv_idiv hx hb hd (by simpa using hg) (kk _ h (List.forall_mem_cons.mpr ⟨trivial, (List.forall_mem_cons.mp (List.forall_mem_cons.mp hv).2).2⟩))
    · cases h
  · split at h
    · obtain ⟨hg, h⟩ := mv_gd_some h
      exact lv_irem hx hb hd (by simpa using hg) (kk _ h (List.forall_mem_cons.mpr ⟨trivial, (List.forall_mem_cons.mp (List.forall_mem_cons.mp hv).2).2⟩))
    · cases h
  · split at h
    · exact lv_ineg hx hb hd (kk _ h (List.forall_mem_cons.mpr ⟨trivial, (List.forall_mem_cons.mp hv).2⟩))
    · cases h
  · split at h
    · exact lv_ishl hx hb hd (kk _ h (List.forall_mem_cons.mpr ⟨trivial, (List.forall_mem_cons.mp (List.forall_mem_cons.mp hv).2).2⟩))
    · cases h
  · split at h
    · exact lv_ishr hx hb hd (kk _ h (List.forall_mem_cons.mpr ⟨trivial, (List.forall_mem_cons.mp (List.forall_mem_cons.mp hv).2).2⟩))
    · cases h
  · split at h
    · exact lv_iushr hx hb hd rfl (kk _ h (List.forall_mem_cons.mpr ⟨trivial, (List.forall_mem_cons.mp (List.forall_mem_cons.mp hv).2).2⟩))
    · cases h
  · split at h
    · exact lv_ladd hx hb hd (kk _ h (List.forall_mem_cons.mpr ⟨trivial, (List.forall_mem_cons.mp (List.forall_mem_cons.mp hv).2).2⟩))
    · cases h
  · split at h
    · exact lv_lmul hx hb hd (kk _ h (List.forall_mem_cons.mpr ⟨trivial, (List.forall_mem_cons.mp (List.forall_mem_cons.mp hv).2).2⟩))
    · cases h
  · split at h
    · exact lv_land hx hb hd (kk _ h (List.forall_mem_cons.mpr ⟨trivial, (List.forall_mem_cons.mp (List.forall_mem_cons.mp hv).2).2⟩))
    · cases h
  · split at h
    · exact lv_lor hx hb hd (kk _ h (List.forall_mem_cons.mpr ⟨trivial, (List.forall_mem_cons.mp (List.forall_mem_cons.mp hv).2).2⟩))
    · cases h
  · split at h
    · obtain ⟨hg, h⟩ := mv_gd_some h
      exact lv_ldiv hx hb hd (by simpa using hg) (kk _ h (List.forall_mem_cons.mpr ⟨trivial, (List.forall_mem_cons.mp (List.forall_mem_cons.mp hv).2).2⟩))
    · cases h
  · split at h
    · obtain ⟨hg, h⟩ := mv_gd_some h
      exact lv_lrem hx hb hd (by simpa using hg) (kk _ h (List.forall_mem_cons.mpr ⟨trivial, (List.forall_mem_cons.mp (List.forall_mem_cons.mp hv).2).2⟩))
    · cases h
  · split at h
    · exact lv_lshl hx hb hd rfl (kk _ h (List.forall_mem_cons.mpr ⟨trivial, (List.forall_mem_cons.mp (List.forall_mem_cons.mp hv).2).2⟩))
    · cases h
  · split at h
    · exact lv_lshr hx hb hd rfl (kk _ h (List.forall_mem_cons.mpr ⟨trivial, (List.forall_mem_cons.mp (List.forall_mem_cons.mp hv).2).2⟩))
    · cases h
  · split at h
    · exact W.lcmp hx hb hd (kk _ h (List.forall_mem_cons.mpr ⟨trivial, (List.forall_mem_cons.mp (List.forall_mem_cons.mp hv).2).2⟩))
    · cases h
  · split at h
    · exact lv_i2l hx hb hd rfl (kk _ h (List.forall_mem_cons.mpr ⟨trivial, (List.forall_mem_cons.mp hv).2⟩))
    · cases h
  · split at h
    · exact lv_l2i hx hb hd rfl (kk _ h (List.forall_mem_cons.mpr ⟨trivial, (List.forall_mem_cons.mp hv).2⟩))
    · cases h
  · split at h
    · exact lv_i2b hx hb hd rfl (kk _ h (List.forall_mem_cons.mpr ⟨trivial, (List.forall_mem_cons.mp hv).2⟩))
    · cases h
  · split at h
    · exact lv_i2c hx hb hd rfl (kk _ h (List.forall_mem_cons.mpr ⟨trivial, (List.forall_mem_cons.mp hv).2⟩))
    · cases h
  · split at h
    · exact lv_i2s hx hb hd rfl (kk _ h (List.forall_mem_cons.mpr ⟨trivial, (List.forall_mem_cons.mp hv).2⟩))
    · cases h
  · split at h
    · split at h
      · next h2 => exact lv_dup hx hb hd (mv_two_cat h2) (kk _ h (List.forall_mem_cons.mpr ⟨(List.forall_mem_cons.mp hv).1, hv⟩))
      · cases h
    · cases h
  · split at h
    · split at h
      · next h2 =>
        simp only [Bool.or_eq_false_iff] at h2
        exact lv_dup_x1 hx hb hd (mv_two_cat h2.1) (mv_two_cat h2.2) (kk _ h (List.forall_mem_cons.mpr ⟨(List.forall_mem_cons.mp hv).1, List.forall_mem_cons.mpr ⟨(List.forall_mem_cons.mp (List.forall_mem_cons.mp hv).2).1, List.forall_mem_cons.mpr ⟨(List.forall_mem_cons.mp hv).1, (List.forall_mem_cons.mp (List.forall_mem_cons.mp hv).2).2⟩⟩⟩))
      · cases h
    · cases h
  · split at h
    · split at h
      · next h2 =>
        simp only [Bool.or_eq_false_iff] at h2
        exact lv_dup2_11 hx hb hd (mv_two_cat h2.1) (mv_two_cat h2.2) (kk _ h (List.forall_mem_cons.mpr ⟨(List.forall_mem_cons.mp hv).1, List.forall_mem_cons.mpr ⟨(List.forall_mem_cons.mp (List.forall_mem_cons.mp hv).2).1, hv⟩⟩))
      · cases h
    · cases h
  · split at h
    · split at h
      · next h2 => exact lv_pop hx hb hd (mv_two_cat h2) (kk _ h (List.forall_mem_cons.mp hv).2)
      · cases h
    · cases h
  · exact lv_null hx hb hd (kk _ h (List.forall_mem_cons.mpr ⟨trivial, hv⟩))
  · cases h
end
-- ===== locals and constants =====
theorem mv_f1K_eq {α : Type} (i : Nat) : ∀ (l : mv_L) (k : mv_L → α), mv_f1K i l k = k (mv_f1 i l)
  | [], _ => rfl
  | q :: l, k => by
    unfold mv_f1K mv_f1
    rw [mv_f1K_eq i l]
    cases Nat.beq q.1 i || (Nat.beq (q.1 + 1) i && mv_two q.2) <;> rfl
theorem mv_f2K_eq {α : Type} (i : Nat) : ∀ (l : mv_L) (k : mv_L → α), mv_f2K i l k = k (mv_f2 i l)
  | [], _ => rfl
  | q :: l, k => by
    unfold mv_f2K mv_f2
    rw [mv_f2K_eq i l]
    cases Nat.beq q.1 i || (Nat.beq q.1 (i + 1) || (Nat.beq (q.1 + 1) i && mv_two q.2)) <;> rfl
theorem mv_two_beq (φ : Nat → Nat → Nat) (v : mv_V) : ((mv_v φ v).category == 2) = mv_two v := by
  cases v with
  | inr q => rfl
  | inl v => cases v <;> rfl
theorem mv_beqN (a b : Nat) : (a == b) = Nat.beq a b := by
  rw [Bool.eq_iff_iff]
  constructor
  · intro h
    have := eq_of_beq h
    subst this
    exact Nat.beq_refl a
  · intro h
    have := Nat.eq_of_beq_eq_true h
    subst this
    exact beq_self_eq_true a
theorem mv_f1_map (φ : Nat → Nat → Nat) (i : Nat) : ∀ l : mv_L, (mv_f1 i l).map (fun q => (q.1, mv_v φ q.2)) = (l.map fun q => (q.1, mv_v φ q.2)).filter (fun q => !(q.1 == i) && !(q.1 + 1 == i && q.2.category == 2))
  | [] => rfl
  | q :: l => by
    have ih := mv_f1_map φ i l
    simp only [List.map_cons, List.filter_cons, mv_two_beq]
    unfold mv_f1
    rw [mv_beqN, mv_beqN]
    cases h1 : Nat.beq q.1 i <;> cases h2 : (Nat.beq (q.1 + 1) i && mv_two q.2) <;> simp [h1, h2, ih]
theorem mv_f2_map (φ : Nat → Nat → Nat) (i : Nat) : ∀ l : mv_L, (mv_f2 i l).map (fun q => (q.1, mv_v φ q.2)) = (l.map fun q => (q.1, mv_v φ q.2)).filter (fun q => !(q.1 == i) && (!(q.1 == i + 1) && !(q.1 + 1 == i && q.2.category == 2)))
  | [] => rfl
  | q :: l => by
    have ih := mv_f2_map φ i l
    simp only [List.map_cons, List.filter_cons, mv_two_beq]
    unfold mv_f2
    rw [mv_beqN, mv_beqN, mv_beqN]
    cases h1 : Nat.beq q.1 i <;> cases h3 : Nat.beq q.1 (i + 1) <;> cases h2 : (Nat.beq (q.1 + 1) i && mv_two q.2) <;> simp [h1, h2, h3, ih]
theorem mv_f1_mem {i : Nat} {q : Nat × mv_V} : ∀ {l : mv_L}, q ∈ mv_f1 i l → q ∈ l
  | [], h => h
  | a :: l, h => by
    unfold mv_f1 at h
    cases hc : (Nat.beq a.1 i || (Nat.beq (a.1 + 1) i && mv_two a.2)) with
    | true => rw [hc] at h; exact List.mem_cons_of_mem _ (mv_f1_mem h)
    | false =>
      rw [hc] at h
      rcases List.mem_cons.mp h with h | h
      · exact List.mem_cons.mpr (Or.inl h)
      · exact List.mem_cons_of_mem _ (mv_f1_mem h)
theorem mv_f2_mem {i : Nat} {q : Nat × mv_V} : ∀ {l : mv_L}, q ∈ mv_f2 i l → q ∈ l
  | [], h => h
  | a :: l, h => by
    unfold mv_f2 at h
    cases hc : (Nat.beq a.1 i || (Nat.beq a.1 (i + 1) || (Nat.beq (a.1 + 1) i && mv_two a.2))) with
    | true => rw [hc] at h; exact List.mem_cons_of_mem _ (mv_f2_mem h)
    | false =>
      rw [hc] at h
      rcases List.mem_cons.mp h with h | h
      · exact List.mem_cons.mpr (Or.inl h)
      · exact List.mem_cons_of_mem _ (mv_f2_mem h)
theorem mv_get_mem {k : Nat} {v : mv_V} : ∀ {l : mv_L}, mv_get k l = some v → (k, v) ∈ l
  | [], h => by cases h
  | q :: l, h => by
    unfold mv_get at h
    cases hc : Nat.beq q.1 k with
    | true =>
      rw [hc] at h
      have h1 : q.1 = k := Nat.eq_of_beq_eq_true hc
      have h2 : q.2 = v := Option.some.inj h
      exact List.mem_cons.mpr (Or.inl (by rw [← h1, ← h2]))
    | false => rw [hc] at h; exact List.mem_cons_of_mem _ (mv_get_mem h)
theorem mv_get_at {φ : Nat → Nat → Nat} {k nL : Nat} {v : mv_V} {lv : mv_L} {ls : Array Slot} (h : mv_get k lv = some v) (hl : lv_has ls nL (lv.map fun q => (q.1, mv_v φ q.2))) : ls[k]? = some (.val (mv_v φ v)) :=
  hl.2.2 (k, mv_v φ v) (List.mem_map.mpr ⟨(k, v), mv_get_mem h, rfl⟩)
/-- what the table's operands must be -/
def mv_chkL (nL : Nat) (own : String) (i : Instr) (len : Nat) (lk : List Nat) : Bool := match i with
  | .iload_n k => (match lk with
    | n :: _ => decide (len = 1) && decide ((k : Nat) = n)
    | _ => false)
  | .lload_n k => (match lk with
    | n :: _ => decide (len = 1) && decide ((k : Nat) = n)
    | _ => false)
  | .aload_n k => (match lk with
    | n :: _ => decide (len = 1) && decide ((k : Nat) = n)
    | _ => false)
  | .iload k => (match lk with
    | n :: _ => decide (len = 2) && decide (k = n)
    | _ => false)
  | .lload k => (match lk with
    | n :: _ => decide (len = 2) && decide (k = n)
    | _ => false)
  | .aload k => (match lk with
    | n :: _ => decide (len = 2) && decide (k = n)
    | _ => false)
  | .istore_n k => (match lk with
    | n :: _ => decide (len = 1) && (decide ((k : Nat) = n) && decide (n < nL))
    | _ => false)
  | .lstore_n k => (match lk with
    | n :: _ => decide (len = 1) && (decide ((k : Nat) = n) && decide (n + 1 < nL))
    | _ => false)
  | .astore_n k => (match lk with
    | n :: _ => decide (len = 1) && (decide ((k : Nat) = n) && decide (n < nL))
    | _ => false)
  | .istore k => (match lk with
    | n :: _ => decide (len = 2) && (decide (k = n) && decide (n < nL))
    | _ => false)
  | .lstore k => (match lk with
    | n :: _ => decide (len = 2) && (decide (k = n) && decide (n + 1 < nL))
    | _ => false)
  | .astore k => (match lk with
    | n :: _ => decide (len = 2) && (decide (k = n) && decide (n < nL))
    | _ => false)
  | .iinc k z => (match lk with
    | n :: sg :: cn :: _ => decide (len = 3) && (decide (k = n) && (decide (n < nL) && decide (Int32.ofInt z = mv_c sg cn)))
    | _ => false)
  | .iconst z => (match lk with
    | sg :: cn :: _ => decide (len = 1) && decide (Int32.ofInt z = mv_c sg cn)
    | _ => false)
  | .bipush z => (match lk with
    | sg :: cn :: _ => decide (len = 2) && decide ((Int8.ofInt z).toInt32 = mv_c sg cn)
    | _ => false)
  | .sipush z => (match lk with
    | sg :: cn :: _ => decide (len = 3) && decide ((Int16.ofInt z).toInt32 = mv_c sg cn)
    | _ => false)
  | .ldc x => (match lk with
    | 0 :: sg :: cn :: a :: b :: _ => decide (len = 2) && wAt a b (.constant own x (mv_c sg cn))
    | 1 :: n :: _ => (match mv_sw n with
      | some q => decide (len = 2) && (decide (q.1 = own) && decide (q.2.1 = x))
      | none => false)
    | _ => false)
  | .ldc_w x => (match lk with
    | 0 :: sg :: cn :: a :: b :: _ => decide (len = 3) && wAt a b (.constant own x (mv_c sg cn))
    | 1 :: n :: _ => (match mv_sw n with
      | some q => decide (len = 3) && (decide (q.1 = own) && decide (q.2.1 = x))
      | none => false)
    | _ => false)
  | .lconst z => (match lk with
    | sg :: cn :: _ => decide (len = 1) && decide (Int64.ofNat (z : Nat) = mv_cl sg cn)
    | _ => false)
  | .ldc2_w x => (match lk with
    | sg :: cn :: a :: b :: _ => decide (len = 3) && wAt a b (.constantLong own x (mv_cl sg cn))
    | _ => false)
  | _ => decide (len = 1)
section
variable {p : Program} {l : Launch} {e : Env} {R : Room} {s : State} {m : MethodId} {args : Array Value} {below : List Frame} {meth : Method} {c : Code} {H : Heap} {locs : List Loc} {cells slots : Nat} {Q : State → Prop} {cc : ByteArray} {pc : Nat} {ls : Array Slot} {φ : Nat → Nat → Nat} {g : mv_G}
theorem mv_ldcwS {T : State} (X : Stand p l e R s m args below meth c T locs cells slots) (hexec : p.tables.exec = Jvm.exec) {own text : String} {index : Nat} {a : Addr} (hown : s.vm.findClass own = some m.cls)
    (hconst : (Cond.stringRef own index text).before args s = true) (hev : (Term.string own index).eval args s none [] s = some (.ref a)) {g : JFrame} (hg : g.method = m) (hdg : decode c.code g.pc = .ok (.ldc_w index, 3)) :
    ∀ target, Steps p.tables e below (T.setTop { g with pc := g.pc + 3, stack := .ref a :: g.stack }) target → Steps p.tables e below (T.setTop g) target := by
  obtain ⟨k, cf, i, a', hk, hcf, hcp, -, hr, hev'⟩ := Cond.stringRef_spec hown hconst
  cases hev.symm.trans hev'
  obtain ⟨k', hk', he⟩ := X.warmed.alike.2.2 _ _ hk
  have hr' : k'.resolved[index]? = some (some (.string a)) := by
    rcases X.warmed.entry hk hk' index with h | ⟨h, -⟩
    · rw [h]; exact hr
    · rw [hr] at h; cases h
  intro target hrest
  subst hg
  jvm_step X.here [hexec, hdg, ldc_w.wp_string (e := e) (s := T) (f := g) X.here.top hk' (by rw [he]; exact hcf) hcp hr']
  exact hrest
theorem mv_ldcwSW (hexec : p.tables.exec = Jvm.exec) (hb : c.code = cc) {own tx : String} {index q : Nat} {rest : List Value} (hown : s.vm.findClass own = some m.cls) (hZ : vk_R own index tx q s) (hdg : decode cc pc = .ok (.ldc_w index, 3))
    (k : W p l e R s m args below meth c H locs cells slots Q (F0 m (pc + 3) ls (.ref q :: rest))) : W p l e R s m args below meth c H locs cells slots Q (F0 m pc ls rest) := by
  intro T hT X
  obtain ⟨t, a1, b1⟩ := k T hT X
  exact ⟨t, mv_ldcwS X hexec hown (text := tx) (a := q) hZ.1 hZ.2 (g := F0 m pc ls rest) rfl (by rw [hb]; exact hdg) t a1, b1⟩
end
theorem mv_op_len {α : Type} {nL : Nat} {own : String} {i : Instr} {len : Nat} {lk : List Nat} {st : List mv_V} {k : List mv_V → Option α} {res : α} (h : mv_op i st k = some res) (hc : mv_chkL nL own i len lk = true) : len = 1 := by
  unfold mv_op at h
  split at h <;> first | exact of_decide_eq_true hc | cases h
section
variable {Hp : Type} {p : Program} {l : Launch} {e : Env} {R : Room} {s : State} {m : MethodId} {args : Array Value} {below : List Frame} {meth : Method} {c : Code} {H : Heap} {locs : List Loc} {cells slots : Nat} {Q : State → Prop} {cc : ByteArray} {pc : Nat} {ls : Array Slot} {φ : Nat → Nat → Nat} {g : mv_G}
set_option maxHeartbeats 8000000 in
theorem mv_lop_sound (hx : p.tables.exec = Jvm.exec) (hb : c.code = cc) {own : String} {nL : Nat} (hown : s.vm.findClass own = some m.cls) (hts : ∀ w ∈ WS, w.before args s = true) (hst : ∀ k o idx tx, mv_sw k = some (o, idx, tx) → vk_R o idx tx (φ 11 k) s)
    {i : Instr} {len : Nat} {lk : List Nat} (hd : decode cc pc = .ok (i, len)) (hc : mv_chkL nL own i len lk = true) {lv : mv_L} {st : List mv_V} {k : mv_L → List mv_V → Option (List mv_V × Hp)} {res : List mv_V × Hp} (h : mv_lop i lk lv st k = some res) (hl : lv_has ls nL (lv.map fun q => (q.1, mv_v φ q.2)))
    (hv : ∀ v ∈ st, mv_live g v) (hvl : ∀ q ∈ lv, mv_live g q.2)
    (kk : ∀ lv' st' ls', k lv' st' = some res → (∀ v ∈ st', mv_live g v) → (∀ q ∈ lv', mv_live g q.2) → lv_has ls' nL (lv'.map fun q => (q.1, mv_v φ q.2)) → W p l e R s m args below meth c H locs cells slots Q (F0 m (pc + len) ls' (st'.map (mv_v φ)))) : W p l e R s m args below meth c H locs cells slots Q (F0 m pc ls (st.map (mv_v φ))) := by
  unfold mv_lop at h
  split at h
  · split at h
    · simp only [mv_chkL, Bool.and_eq_true, decide_eq_true_eq] at hc
      obtain ⟨rfl, rfl⟩ := hc
      split at h
      · next h2 => exact lv_iload_n hx hb hd rfl (mv_get_at h2 hl) (kk _ _ _ h (List.forall_mem_cons.mpr ⟨trivial, hv⟩) hvl hl)
      · cases h
    · cases h
  · split at h
    · simp only [mv_chkL, Bool.and_eq_true, decide_eq_true_eq] at hc
      obtain ⟨rfl, rfl⟩ := hc
      split at h
      · next h2 => exact lv_iload hx hb hd (mv_get_at h2 hl) (kk _ _ _ h (List.forall_mem_cons.mpr ⟨trivial, hv⟩) hvl hl)
      · cases h
    · cases h
  · split at h
    · simp only [mv_chkL, Bool.and_eq_true, decide_eq_true_eq] at hc
      obtain ⟨rfl, rfl⟩ := hc
      split at h
      · next h2 => exact lv_lload_n hx hb hd rfl (mv_get_at h2 hl) (kk _ _ _ h (List.forall_mem_cons.mpr ⟨trivial, hv⟩) hvl hl)
      · cases h
    · cases h
  · split at h
    · simp only [mv_chkL, Bool.and_eq_true, decide_eq_true_eq] at hc
      obtain ⟨rfl, rfl⟩ := hc
      split at h
      · next h2 => exact lv_lload hx hb hd (mv_get_at h2 hl) (kk _ _ _ h (List.forall_mem_cons.mpr ⟨trivial, hv⟩) hvl hl)
      · cases h
    · cases h
  · split at h
    · simp only [mv_chkL, Bool.and_eq_true, decide_eq_true_eq] at hc
      obtain ⟨rfl, rfl⟩ := hc
      split at h
      · next h2 => exact lv_aload_n hx hb hd rfl (mv_get_at h2 hl) (kk _ _ _ h (List.forall_mem_cons.mpr ⟨hvl _ (mv_get_mem h2), hv⟩) hvl hl)
      · next h2 => exact lv_aload_nN hx hb hd rfl (mv_get_at h2 hl) (kk _ _ _ h (List.forall_mem_cons.mpr ⟨trivial, hv⟩) hvl hl)
      · cases h
    · cases h
  · split at h
    · simp only [mv_chkL, Bool.and_eq_true, decide_eq_true_eq] at hc
      obtain ⟨rfl, rfl⟩ := hc
      split at h
      · next h2 => exact lv_aload hx hb hd (mv_get_at h2 hl) (kk _ _ _ h (List.forall_mem_cons.mpr ⟨hvl _ (mv_get_mem h2), hv⟩) hvl hl)
      · next h2 => exact lv_aloadN hx hb hd (mv_get_at h2 hl) (kk _ _ _ h (List.forall_mem_cons.mpr ⟨trivial, hv⟩) hvl hl)
      · cases h
    · cases h
  · split at h
    · simp only [mv_chkL, Bool.and_eq_true, decide_eq_true_eq] at hc
      obtain ⟨rfl, rfl, hn⟩ := hc
      split at h
      · rw [mv_f1K_eq] at h
        exact lv_istore_n hx hb hd rfl hl hn rfl fun ls' hl' => kk _ _ ls' h (List.forall_mem_cons.mp hv).2 (List.forall_mem_cons.mpr ⟨trivial, fun q hq => hvl q (mv_f1_mem hq)⟩) (by rw [List.map_cons, mv_f1_map]; exact hl')
      · cases h
    · cases h
  · split at h
    · simp only [mv_chkL, Bool.and_eq_true, decide_eq_true_eq] at hc
      obtain ⟨rfl, rfl, hn⟩ := hc
      split at h
      · rw [mv_f1K_eq] at h
        exact lv_istore hx hb hd hl hn rfl fun ls' hl' => kk _ _ ls' h (List.forall_mem_cons.mp hv).2 (List.forall_mem_cons.mpr ⟨trivial, fun q hq => hvl q (mv_f1_mem hq)⟩) (by rw [List.map_cons, mv_f1_map]; exact hl')
      · cases h
    · cases h
  · split at h
    · simp only [mv_chkL, Bool.and_eq_true, decide_eq_true_eq] at hc
      obtain ⟨rfl, rfl, hn⟩ := hc
      split at h
      · rw [mv_f2K_eq] at h
        exact lv_lstore_n hx hb hd rfl hl hn rfl fun ls' hl' => kk _ _ ls' h (List.forall_mem_cons.mp hv).2 (List.forall_mem_cons.mpr ⟨trivial, fun q hq => hvl q (mv_f2_mem hq)⟩) (by rw [List.map_cons, mv_f2_map]; exact hl')
      · cases h
    · cases h
  · split at h
    · simp only [mv_chkL, Bool.and_eq_true, decide_eq_true_eq] at hc
      obtain ⟨rfl, rfl, hn⟩ := hc
      split at h
      · rw [mv_f2K_eq] at h
        exact lv_lstore hx hb hd hl hn rfl fun ls' hl' => kk _ _ ls' h (List.forall_mem_cons.mp hv).2 (List.forall_mem_cons.mpr ⟨trivial, fun q hq => hvl q (mv_f2_mem hq)⟩) (by rw [List.map_cons, mv_f2_map]; exact hl')
      · cases h
    · cases h
  · split at h
    · simp only [mv_chkL, Bool.and_eq_true, decide_eq_true_eq] at hc
      obtain ⟨rfl, rfl, hn⟩ := hc
      split at h
      · rw [mv_f1K_eq] at h
        exact lv_astore_n hx hb hd rfl hl hn rfl fun ls' hl' => kk _ _ ls' h (List.forall_mem_cons.mp hv).2 (List.forall_mem_cons.mpr ⟨(List.forall_mem_cons.mp hv).1, fun q hq => hvl q (mv_f1_mem hq)⟩) (by rw [List.map_cons, mv_f1_map]; exact hl')
      · rw [mv_f1K_eq] at h
        exact lv_astore_nN hx hb hd rfl hl hn rfl fun ls' hl' => kk _ _ ls' h (List.forall_mem_cons.mp hv).2 (List.forall_mem_cons.mpr ⟨trivial, fun q hq => hvl q (mv_f1_mem hq)⟩) (by rw [List.map_cons, mv_f1_map]; exact hl')
      · cases h
    · cases h
  · split at h
    · simp only [mv_chkL, Bool.and_eq_true, decide_eq_true_eq] at hc
      obtain ⟨rfl, rfl, hn⟩ := hc
      split at h
      · rw [mv_f1K_eq] at h
        exact lv_astore hx hb hd hl hn rfl fun ls' hl' => kk _ _ ls' h (List.forall_mem_cons.mp hv).2 (List.forall_mem_cons.mpr ⟨(List.forall_mem_cons.mp hv).1, fun q hq => hvl q (mv_f1_mem hq)⟩) (by rw [List.map_cons, mv_f1_map]; exact hl')
      · rw [mv_f1K_eq] at h
        exact lv_astoreN hx hb hd hl hn rfl fun ls' hl' => kk _ _ ls' h (List.forall_mem_cons.mp hv).2 (List.forall_mem_cons.mpr ⟨trivial, fun q hq => hvl q (mv_f1_mem hq)⟩) (by rw [List.map_cons, mv_f1_map]; exact hl')
      · cases h
    · cases h
  · split at h
    · simp only [mv_chkL, Bool.and_eq_true, decide_eq_true_eq] at hc
      obtain ⟨rfl, rfl, hn, hz⟩ := hc
      split at h
      · next h2 =>
        rw [mv_f1K_eq] at h
        obtain ⟨j, hj⟩ := List.getElem?_of_mem (List.mem_map.mpr ⟨_, mv_get_mem h2, rfl⟩ : ((_, mv_v φ _) : Nat × Value) ∈ lv.map fun q => (q.1, mv_v φ q.2))
        exact lv_iinc hx hb hd hl hj (by rw [hz]) hn rfl fun ls' hl' => kk _ _ ls' h hv (List.forall_mem_cons.mpr ⟨trivial, fun q hq => hvl q (mv_f1_mem hq)⟩) (by rw [List.map_cons, mv_f1_map]; exact hl')
      · cases h
    · cases h
  · split at h
    · simp only [mv_chkL, Bool.and_eq_true, decide_eq_true_eq] at hc
      obtain ⟨rfl, hz⟩ := hc
      exact lv_iconst hx hb hd hz (kk _ _ _ h (List.forall_mem_cons.mpr ⟨trivial, hv⟩) hvl hl)
    · cases h
  · split at h
    · simp only [mv_chkL, Bool.and_eq_true, decide_eq_true_eq] at hc
      obtain ⟨rfl, hz⟩ := hc
      exact lv_bipush hx hb hd hz (kk _ _ _ h (List.forall_mem_cons.mpr ⟨trivial, hv⟩) hvl hl)
    · cases h
  · split at h
    · simp only [mv_chkL, Bool.and_eq_true, decide_eq_true_eq] at hc
      obtain ⟨rfl, hz⟩ := hc
      exact lv_sipush hx hb hd hz (kk _ _ _ h (List.forall_mem_cons.mpr ⟨trivial, hv⟩) hvl hl)
    · cases h
  · split at h
    · simp only [mv_chkL] at hc
      split at hc
      · next heq =>
        cases heq
        simp only [Bool.and_eq_true, decide_eq_true_eq] at hc
        obtain ⟨rfl, hz⟩ := hc
        exact lv_ldc hx hb hown (hts _ (wAt_in hz)) hd (kk _ _ _ h (List.forall_mem_cons.mpr ⟨trivial, hv⟩) hvl hl)
      · next heq => cases heq
      · cases hc
    · simp only [mv_chkL] at hc
      split at hc
      · next q hq =>
        simp only [Bool.and_eq_true, decide_eq_true_eq] at hc
        obtain ⟨rfl, h1, h2⟩ := hc
        obtain ⟨q1, q2, q3⟩ := q
        have h3 := hst _ _ _ _ hq
        rw [show q1 = own from h1, show q2 = _ from h2] at h3
        exact va_ldcS hx hb hown h3 hd (kk _ _ _ h (List.forall_mem_cons.mpr ⟨Or.inr ⟨show 10 ≤ 11 by decide, show 11 < 100 by decide, fun _ => mv_sw_lt hq⟩, hv⟩) hvl hl)
      · cases hc
    · cases h
  · split at h
    · simp only [mv_chkL] at hc
      split at hc
      · next heq =>
        cases heq
        simp only [Bool.and_eq_true, decide_eq_true_eq] at hc
        obtain ⟨rfl, hz⟩ := hc
        exact lv_ldcw hx hb hown (hts _ (wAt_in hz)) hd (kk _ _ _ h (List.forall_mem_cons.mpr ⟨trivial, hv⟩) hvl hl)
      · next heq => cases heq
      · cases hc
    · simp only [mv_chkL] at hc
      split at hc
      · next q hq =>
        simp only [Bool.and_eq_true, decide_eq_true_eq] at hc
        obtain ⟨rfl, h1, h2⟩ := hc
        obtain ⟨q1, q2, q3⟩ := q
        have h3 := hst _ _ _ _ hq
        rw [show q1 = own from h1, show q2 = _ from h2] at h3
        exact mv_ldcwSW hx hb hown h3 hd (kk _ _ _ h (List.forall_mem_cons.mpr ⟨Or.inr ⟨show 10 ≤ 11 by decide, show 11 < 100 by decide, fun _ => mv_sw_lt hq⟩, hv⟩) hvl hl)
      · cases hc
    · cases h
  · split at h
    · simp only [mv_chkL, Bool.and_eq_true, decide_eq_true_eq] at hc
      obtain ⟨rfl, hz⟩ := hc
      exact lv_lconst hx hb hd hz (kk _ _ _ h (List.forall_mem_cons.mpr ⟨trivial, hv⟩) hvl hl)
    · cases h
  · split at h
    · simp only [mv_chkL] at hc
      split at hc
      · next heq =>
        cases heq
        simp only [Bool.and_eq_true, decide_eq_true_eq] at hc
        obtain ⟨rfl, hz⟩ := hc
        exact lv_ldc2 hx hb hown (hts _ (wAt_in hz)) hd (kk _ _ _ h (List.forall_mem_cons.mpr ⟨trivial, hv⟩) hvl hl)
      · cases hc
    · cases h
  · have hl1 := mv_op_len h hc
    subst hl1
    exact mv_op_sound hx hb hd h hv fun st' h' hv' => kk _ _ _ h' hv' hvl hl
end
end
section
-- ===== the world as a list, a cell changed, a cell made =====
theorem mv_cover {D : va_G} {cI cQ : ClassId} {q0 : Nat} {φ : Nat → Nat → Nat} {g : mv_G} {H : Heap} (hW : mv_W D cI cQ q0 φ g H) : ∃ ws : va_W, va_P D vwCl ws H ∧ va_D (fun q => q0 ≤ q) ws ∧ (∀ t o, o < g.2.2.2 t → ∃ k : Nat, ws[k]? = some (φ t o, mv_cell cI cQ φ g t o)) := by
  obtain ⟨h1, h2, h3, h4, ⟨ts, hn, hts⟩, -⟩ := hW
  have hmem : ∀ q : Nat × Nat, q ∈ ts.flatMap (fun t => (List.range (g.2.2.2 t)).map fun o => (t, o)) ↔ q.2 < g.2.2.2 q.1 := by
    intro q
    simp only [List.mem_flatMap, List.mem_map, List.mem_range]
    constructor
    · rintro ⟨t, -, o, ho, rfl⟩
      exact ho
    · intro h
      exact ⟨q.1, hts _ (Nat.lt_of_le_of_lt (Nat.zero_le _) h), q.2, h, rfl⟩
  have hnd : (ts.flatMap (fun t => (List.range (g.2.2.2 t)).map fun o => (t, o))).Nodup := by
    rw [List.nodup_iff_pairwise_ne] at hn ⊢
    rw [List.pairwise_flatMap]
    refine ⟨fun t _ => ?_, hn.imp fun {a b} hab => ?_⟩
    · rw [List.pairwise_map]
      exact (List.nodup_iff_pairwise_ne.mp List.nodup_range).imp fun {a b} hab e => hab (Prod.mk.inj e).2
    · intro x hx y hy
      obtain ⟨_, -, rfl⟩ := List.mem_map.mp hx
      obtain ⟨_, -, rfl⟩ := List.mem_map.mp hy
      exact fun e => hab (Prod.mk.inj e).1
  generalize ts.flatMap (fun t => (List.range (g.2.2.2 t)).map fun o => (t, o)) = L at hmem hnd
  refine ⟨L.map fun q => (φ q.1 q.2, mv_cell cI cQ φ g q.1 q.2), fun k q hk => ?_, ⟨fun i j x y hi hj e => ?_, fun k q hk => ?_⟩, fun t o ho => ?_⟩
  · rw [List.getElem?_map, Option.map_eq_some_iff] at hk
    obtain ⟨a, ha, rfl⟩ := hk
    exact h1 _ _ ((hmem a).mp (List.mem_of_getElem? ha))
  · rw [List.getElem?_map, Option.map_eq_some_iff] at hi hj
    obtain ⟨a, ha, rfl⟩ := hi
    obtain ⟨b, hb, rfl⟩ := hj
    have hab := h3 _ _ _ _ ((hmem a).mp (List.mem_of_getElem? ha)) ((hmem b).mp (List.mem_of_getElem? hb)) e
    have : a = b := Prod.ext hab.1 hab.2
    subst this
    obtain ⟨hi', ei⟩ := List.getElem?_eq_some_iff.mp ha
    obtain ⟨hj', ej⟩ := List.getElem?_eq_some_iff.mp hb
    have hpw := List.pairwise_iff_getElem.mp (List.nodup_iff_pairwise_ne.mp hnd)
    rcases Nat.lt_trichotomy i j with hij | hij | hij
    · exact absurd (ei.trans ej.symm) (hpw i j hi' hj' hij)
    · exact hij
    · exact absurd (ej.trans ei.symm) (hpw j i hj' hi' hij)
  · rw [List.getElem?_map, Option.map_eq_some_iff] at hk
    obtain ⟨a, ha, rfl⟩ := hk
    exact h2 _ _ ((hmem a).mp (List.mem_of_getElem? ha))
  · obtain ⟨k, hk⟩ := List.getElem?_of_mem ((hmem (t, o)).mpr ho)
    exact ⟨k, by rw [List.getElem?_map, hk]; rfl⟩
theorem mv_W.set {D : va_G} {cI cQ : ClassId} {q0 : Nat} {φ : Nat → Nat → Nat} {g g' : mv_G} {H H1 : Heap} (hW : mv_W D cI cQ q0 φ g H) {ws : va_W} (hcov : ∀ t o, o < g.2.2.2 t → ∃ k : Nat, ws[k]? = some (φ t o, mv_cell cI cQ φ g t o)) {p t o : Nat} {e0 e1 : va_E} (hp : ws[p]? = some (φ t o, e0)) (ho : o < g.2.2.2 t)
    (hP1 : va_P D vwCl (ws.set p (φ t o, e1)) H1) (he : mv_cell cI cQ φ g' t o = e1) (hoth : ∀ t' o', o' < g.2.2.2 t' → ¬ (t' = t ∧ o' = o) → mv_cell cI cQ φ g' t' o' = mv_cell cI cQ φ g t' o') (hcnt : g'.2.2.2 = g.2.2.2) (hcl : ∀ t o k q, o < g.2.2.2 t → g'.2.1 t o k = some q → q.2 < g.2.2.2 q.1) : mv_W D cI cQ q0 φ g' H1 := by
  obtain ⟨h1, h2, h3, h4, h5⟩ := hW
  have hl := (List.getElem?_eq_some_iff.mp hp).1
  refine ⟨fun t' o' h' => ?_, by rw [hcnt]; exact h2, by rw [hcnt]; exact h3, by rw [hcnt]; exact hcl, by rw [hcnt]; exact h5⟩
  rw [hcnt] at h'
  by_cases hto : t' = t ∧ o' = o
  · obtain ⟨rfl, rfl⟩ := hto
    rw [he]
    exact hP1 p _ (List.getElem?_set_self hl)
  · rw [hoth t' o' h' hto]
    obtain ⟨k, hk⟩ := hcov t' o' h'
    refine hP1 k _ ?_
    rw [List.getElem?_set_ne (fun e => ?_)]
    · exact hk
    · subst e
      have h6 := Option.some.inj (hp.symm.trans hk)
      exact hto (h3 t' o' t o h' ho (Prod.mk.inj h6).1.symm)
/-- the picture with one more cell of a tag: nothing in it -/
def mv_mk (g : mv_G) (t n : Nat) : mv_G :=
  (fun t' o' k => if t' = t ∧ o' = g.2.2.2 t then 0 else g.1 t' o' k, fun t' o' k => if t' = t ∧ o' = g.2.2.2 t then none else g.2.1 t' o' k, fun t' o' => if t' = t ∧ o' = g.2.2.2 t then n else g.2.2.1 t' o', fun t' => if t' = t then g.2.2.2 t + 1 else g.2.2.2 t')
def mv_phi (φ : Nat → Nat → Nat) (t c q : Nat) : Nat → Nat → Nat := fun t' o' => if t' = t ∧ o' = c then q else φ t' o'
theorem mv_cell_congr {cI cQ : ClassId} {φ φ' : Nat → Nat → Nat} {g g' : mv_G} {t o : Nat} (h1 : ∀ k, g'.1 t o k = g.1 t o k) (h2 : ∀ k, (g'.2.1 t o k).map (fun q => φ' q.1 q.2) = (g.2.1 t o k).map fun q => φ q.1 q.2) (h3 : g'.2.2.1 t o = g.2.2.1 t o) : mv_cell cI cQ φ' g' t o = mv_cell cI cQ φ g t o := by
  have hf : mv_fv φ' g' t o = mv_fv φ g t o := by
    funext k
    unfold mv_fv
    rw [h1, h2]
  have h4 : (fun k => (g'.2.1 t o k).map fun q => φ' q.1 q.2) = fun k => (g.2.1 t o k).map fun q => φ q.1 q.2 := funext h2
  have h5 : g'.1 t o = g.1 t o := funext h1
  unfold mv_cell
  rw [hf, h4, h3, h5]
theorem mv_W.new {D : va_G} {cI cQ : ClassId} {q0 : Nat} {φ : Nat → Nat → Nat} {g : mv_G} {H H1 : Heap} (hW : mv_W D cI cQ q0 φ g H) {ws : va_W} (hcov : ∀ t o, o < g.2.2.2 t → ∃ k : Nat, ws[k]? = some (φ t o, mv_cell cI cQ φ g t o)) {t n q : Nat} {e1 : va_E} (ht : t < 10 ∨ 100 ≤ t)
    (hP1 : va_P D vwCl (ws ++ [(q, e1)]) H1) (hD1 : va_D (fun q => q0 ≤ q) (ws ++ [(q, e1)])) (he : mv_cell cI cQ (mv_phi φ t (g.2.2.2 t) q) (mv_mk g t n) t (g.2.2.2 t) = e1) :
    mv_W D cI cQ q0 (mv_phi φ t (g.2.2.2 t) q) (mv_mk g t n) H1 ∧ mv_ge g φ (mv_mk g t n) (mv_phi φ t (g.2.2.2 t) q) := by
  obtain ⟨h1, h2, h3, h4, ⟨ts, hn, hts⟩, hx⟩ := hW
  have hge : mv_ge g φ (mv_mk g t n) (mv_phi φ t (g.2.2.2 t) q) := by
    refine ⟨fun t' o' h' => ?_, fun t' o' ha hb => ?_, fun t' => ?_⟩
    · show (if t' = t ∧ o' = g.2.2.2 t then q else φ t' o') = φ t' o'
      rw [if_neg (fun e => by obtain ⟨rfl, rfl⟩ := e; omega)]
    · show (if t' = t ∧ o' = g.2.2.2 t then q else φ t' o') = φ t' o'
      rw [if_neg (fun e => by obtain ⟨rfl, rfl⟩ := e; omega)]
    · show g.2.2.2 t' ≤ if t' = t then g.2.2.2 t + 1 else g.2.2.2 t'
      split
      · next e => subst e; omega
      · exact Nat.le_refl _
  have hold : ∀ t' o', o' < (mv_mk g t n).2.2.2 t' → (t' = t ∧ o' = g.2.2.2 t) ∨ (¬ (t' = t ∧ o' = g.2.2.2 t) ∧ o' < g.2.2.2 t') := by
    intro t' o' h'
    change o' < (if t' = t then g.2.2.2 t + 1 else g.2.2.2 t') at h'
    by_cases e : t' = t
    · subst e
      rw [if_pos rfl] at h'
      by_cases e2 : o' = g.2.2.2 t'
      · exact Or.inl ⟨rfl, e2⟩
      · exact Or.inr ⟨fun z => e2 z.2, by omega⟩
    · rw [if_neg e] at h'
      exact Or.inr ⟨fun z => e z.1, h'⟩
  have hnew : mv_phi φ t (g.2.2.2 t) q t (g.2.2.2 t) = q := if_pos ⟨rfl, rfl⟩
  have hlast : (ws ++ [(q, e1)])[ws.length]? = some (q, e1) := by
    rw [List.getElem?_append_right (Nat.le_refl _), Nat.sub_self]; rfl
  have hin : ∀ t' o', o' < g.2.2.2 t' → ∃ k : Nat, k < ws.length ∧ (ws ++ [(q, e1)])[k]? = some (φ t' o', mv_cell cI cQ φ g t' o') := by
    intro t' o' h'
    obtain ⟨k, hk⟩ := hcov t' o' h'
    have hl := (List.getElem?_eq_some_iff.mp hk).1
    exact ⟨k, hl, by rw [List.getElem?_append_left hl]; exact hk⟩
  refine ⟨⟨fun t' o' h' => ?_, fun t' o' h' => ?_, fun t' o' t2 o2 ha hb e => ?_, fun t' o' k z h' hz => ?_, ?_, ?_⟩, hge⟩
  · rcases hold t' o' h' with ⟨rfl, rfl⟩ | ⟨hne, hlt⟩
    · rw [he, hnew]
      exact hP1 _ _ hlast
    · obtain ⟨k, -, hk⟩ := hin t' o' hlt
      have hc : mv_cell cI cQ (mv_phi φ t (g.2.2.2 t) q) (mv_mk g t n) t' o' = mv_cell cI cQ φ g t' o' := by
        refine mv_cell_congr (fun k => if_neg hne) (fun k => ?_) (if_neg hne)
        show (if t' = t ∧ o' = g.2.2.2 t then none else g.2.1 t' o' k).map _ = _
        rw [if_neg hne]
        cases hr : g.2.1 t' o' k with
        | none => rfl
        | some z => exact congrArg some (hge.1 _ _ (h4 _ _ _ _ hlt hr))
      rw [hc, hge.1 _ _ hlt]
      exact hP1 k _ hk
  · rcases hold t' o' h' with ⟨rfl, rfl⟩ | ⟨hne, hlt⟩
    · rw [hnew]; exact hD1.2 _ _ hlast
    · rw [hge.1 _ _ hlt]; exact h2 _ _ hlt
  · rcases hold t' o' ha with ⟨rfl, rfl⟩ | ⟨hne, hlt⟩ <;> rcases hold t2 o2 hb with ⟨rfl, rfl⟩ | ⟨hne2, hlt2⟩
    · exact ⟨rfl, rfl⟩
    · obtain ⟨k, hk1, hk⟩ := hin t2 o2 hlt2
      rw [hnew, hge.1 _ _ hlt2] at e
      have := hD1.1 _ _ _ _ hlast hk e
      omega
    · obtain ⟨k, hk1, hk⟩ := hin t' o' hlt
      rw [hnew, hge.1 _ _ hlt] at e
      have := hD1.1 _ _ _ _ hk hlast e
      omega
    · rw [hge.1 _ _ hlt, hge.1 _ _ hlt2] at e
      exact h3 _ _ _ _ hlt hlt2 e
  · rcases hold t' o' h' with ⟨rfl, rfl⟩ | ⟨hne, hlt⟩
    · have hz' : (if t' = t' ∧ g.2.2.2 t' = g.2.2.2 t' then none else g.2.1 t' (g.2.2.2 t') k) = some z := hz
      rw [if_pos ⟨rfl, rfl⟩] at hz'
      cases hz'
    · have hz' : (if t' = t ∧ o' = g.2.2.2 t then none else g.2.1 t' o' k) = some z := hz
      rw [if_neg hne] at hz'
      exact Nat.lt_of_lt_of_le (h4 _ _ _ _ hlt hz') (hge.2.2 _)
  · by_cases hm : t ∈ ts
    · refine ⟨ts, hn, fun t' h' => ?_⟩
      change 0 < (if t' = t then g.2.2.2 t + 1 else g.2.2.2 t') at h'
      by_cases e : t' = t
      · rw [e]; exact hm
      · rw [if_neg e] at h'; exact hts _ h'
    · refine ⟨t :: ts, List.nodup_cons.mpr ⟨hm, hn⟩, fun t' h' => ?_⟩
      change 0 < (if t' = t then g.2.2.2 t + 1 else g.2.2.2 t') at h'
      by_cases e : t' = t
      · rw [e]; exact List.mem_cons_self
      · rw [if_neg e] at h'; exact List.mem_cons_of_mem _ (hts _ h')
  · intro t' ha hb
    show (if t' = t then g.2.2.2 t + 1 else g.2.2.2 t') = 0
    rw [if_neg (by omega)]
    exact hx t' ha hb
theorem mv_single {D : va_G} {cl : List vw_C} {q : Nat × va_E} {H : Heap} (h : va_at D cl q H) : va_P D cl [q] H := by
  intro k x hk
  match k, hk with
  | 0, hk => cases hk; exact h
  | k + 1, hk => cases hk
-- ===== reads and writes of the heap =====
def mv_setI (g : mv_G) (t o k : Nat) (v : Int32) : mv_G := (fun t' o' k' => if t' = t ∧ o' = o ∧ k' = k then v else g.1 t' o' k', g.2)
def mv_setR (g : mv_G) (t o k : Nat) (q : Option (Nat × Nat)) : mv_G := (g.1, fun t' o' k' => if t' = t ∧ o' = o ∧ k' = k then q else g.2.1 t' o' k', g.2.2)
def mv_setC (g : mv_G) (t o o' n : Nat) : mv_G := (fun t' q k => if t' = t ∧ q = o' ∧ k < n then g.1 t o k else g.1 t' q k, g.2)
/-- the heap's operations are what they should be -/
def mv_Ax {Hp : Type} (rI : Hp → Nat → Nat → Nat → Int32) (rR : Hp → Nat → Nat → Nat → (Option (Nat × Nat) → Option (List mv_V × Hp)) → Option (List mv_V × Hp)) (ln : Hp → Nat → Nat → Nat) (wI : Hp → Nat → Nat → Nat → Int32 → Hp) (wR : Hp → Nat → Nat → Nat → Option (Nat × Nat) → (Hp → Option (List mv_V × Hp)) → Option (List mv_V × Hp)) (nw : Hp → Nat → Nat → (Nat → Hp → Option (List mv_V × Hp)) → Option (List mv_V × Hp)) (cp : Hp → Nat → Nat → Nat → Nat → Nat → Hp) (vw : Hp → mv_G) : Prop :=
  (∀ h t o k, rI h t o k = (vw h).1 t o k) ∧ (∀ h t o k ka res, rR h t o k ka = some res → ka ((vw h).2.1 t o k) = some res) ∧ (∀ h t o, ln h t o = (vw h).2.2.1 t o) ∧ (∀ h t o k v, vw (wI h t o k v) = mv_setI (vw h) t o k v) ∧
  (∀ h t o k q ka res, wR h t o k q ka = some res → ∃ h', ka h' = some res ∧ vw h' = mv_setR (vw h) t o k q ∧ ∀ z, q = some z → z.2 < (vw h).2.2.2 z.1) ∧
  (∀ h t n ka res, nw h t n ka = some res → ∃ h', ka ((vw h).2.2.2 t) h' = some res ∧ vw h' = mv_mk (vw h) t n) ∧ (∀ h t o o' n z, vw (cp h t o o' n z) = mv_setC (vw h) t o o' n)
def mv_chkH (own name : String) (i : Instr) (len : Nat) (lk : List Nat) : Bool := match i with
  | .getfield x => (match lk with
    | 11 :: _ :: 3 :: _ :: a :: b :: _ => decide (len = 3) && wAt a b (.fieldLink own x "java/lang/String" "value" "[B")
    | 11 :: _ :: 4 :: _ :: a :: b :: _ => decide (len = 3) && wAt a b (.fieldLink own x "java/lang/String" "coder" "B")
    | ci :: f :: kd :: ne :: a :: b :: _ => decide (len = 3) && (decide (ci < 9) && (decide (f < mv_nf ci) && (decide (Nat.beq kd 1 = mv_isR ci f) && (match ne with
      | 0 => wAt a b (.fieldLink own x (mv_T ci f).1 (mv_T ci f).2.1 (mv_T ci f).2.2.1)
      | _ => decide ((own, x, (mv_T ci f).1, (mv_T ci f).2.1, (mv_T ci f).2.2.1) = ("IntentVats", 79, "IntentVats$Tape", "length", "I"))))))
    | _ => false)
  | .putfield x => (match lk with
    | ci :: f :: kd :: _ :: a :: b :: _ => decide (len = 3) && (decide (ci < 9) && (decide (f < mv_nf ci) && (decide (Nat.beq kd 1 = mv_isR ci f) && (decide (Nat.beq kd 2 = decide (mv_ty ci f = .boolean)) && (wAt a b (.fieldLink own x (mv_T ci f).1 (mv_T ci f).2.1 (mv_T ci f).2.2.1) && (!(mv_T ci f).2.2.2 || (decide (name = "<init>") && decide ((mv_T ci f).1 = own))))))))
    | _ => false)
  | .getstatic x => (match lk with
    | 13 :: a :: b :: _ => decide (len = 3) && wAt a b (.fieldLink own x "IntentVats$Acts" "BODIES" "[I")
    | 14 :: a :: b :: _ => decide (len = 3) && wAt a b (.fieldLink own x "jdk/internal/util/Preconditions" "SIOOBE_FORMATTER" "Ljava/util/function/BiFunction;")
    | 15 :: a :: b :: _ => decide (len = 3) && wAt a b (.fieldLink own x "java/lang/String" "COMPACT_STRINGS" "Z")
    | _ => false)
  | _ => decide (len = 1)
theorem mv_inb_in {i : Int32} {n : Nat} (h : mv_inb i n = true) : vp_in i n := by
  intro hn
  simp only [mv_inb, Bool.not_eq_true', Bool.or_eq_false_iff, decide_eq_false_iff_not] at h
  rcases hn with h1 | h1
  · exact h.1 h1
  · exact absurd (Nat.ble_eq.mpr h1) (by rw [h.2]; decide)
theorem mv_obj {cI cQ : ClassId} {φ : Nat → Nat → Nat} {g : mv_G} {t o : Nat} (h : t < 9) : mv_cell cI cQ φ g t o = .inr (t, (List.range (mv_nf t)).map (mv_fv φ g t o)) := if_pos h
theorem mv_ia_cell {cI cQ : ClassId} {φ : Nat → Nat → Nat} {g : mv_G} {t o : Nat} (h : mv_ia t = true) : mv_cell cI cQ φ g t o = .inl (cI, g.2.2.1 t o, .inl (g.1 t o)) := by
  simp only [mv_ia, Bool.and_eq_true, Bool.not_eq_true'] at h
  have h1 : 100 ≤ t := Nat.ble_eq.mp h.1
  unfold mv_cell
  rw [if_neg (by omega), if_neg (by rw [h.2]; decide)]
theorem mv_ra_cell {cI cQ : ClassId} {φ : Nat → Nat → Nat} {g : mv_G} {t o : Nat} (h : mv_ra t = true) : mv_cell cI cQ φ g t o = .inl (cQ, g.2.2.1 t o, .inr (.inr (.inr (.inr fun k => (g.2.1 t o k).map fun q => φ q.1 q.2)))) := by
  have h1 : ¬ t < 9 := by
    intro h2
    simp only [mv_ra, Bool.or_eq_true] at h
    rcases h with h | h
    · have := Nat.eq_of_beq_eq_true h; omega
    · have := Nat.eq_of_beq_eq_true h; omega
  unfold mv_cell
  rw [if_neg h1, if_pos h]
theorem mv_live.int {g : mv_G} {t o : Nat} (h : mv_live g (.inr (t, o))) (ht : t < 10 ∨ 100 ≤ t) : o < g.2.2.2 t := by
  rcases h with h | h
  · exact h
  · obtain ⟨a, b, -⟩ := h
    change 10 ≤ t at a
    change t < 100 at b
    omega
theorem mv_live.str {D : va_G} {cI cQ : ClassId} {q0 : Nat} {φ : Nat → Nat → Nat} {g : mv_G} {H : Heap} {t o : Nat} (hW : mv_W D cI cQ q0 φ g H) (h : mv_live g (.inr (t, o))) (ht : t = 11 ∨ t = 12) : o < 36 := by
  rcases h with h | h
  · have hz := hW.2.2.2.2.2 t (by omega) (by omega)
    change o < g.2.2.2 t at h
    omega
  · exact h.2.2 ht
theorem mv_ia_big {t : Nat} (h : mv_ia t = true) : 100 ≤ t := by
  simp only [mv_ia, Bool.and_eq_true] at h
  exact Nat.ble_eq.mp h.1
theorem mv_ra_big {t : Nat} (h : mv_ra t = true) : 100 ≤ t := by
  simp only [mv_ra, Bool.or_eq_true] at h
  rcases h with h | h
  · have := Nat.eq_of_beq_eq_true h; omega
  · have := Nat.eq_of_beq_eq_true h; omega
theorem mv_live.cnt {g g' : mv_G} (hc : g'.2.2.2 = g.2.2.2) {v : mv_V} (h : mv_live g v) : mv_live g' v := by
  cases v with
  | inl _ => trivial
  | inr q =>
    show q.2 < g'.2.2.2 q.1 ∨ _
    rw [hc]; exact h
theorem mv_set_range {α : Type} (f f' : Nat → α) (k N : Nat) (v : α) (h1 : f' k = v) (h2 : ∀ j, j ≠ k → f' j = f j) : ((List.range N).map f).set k v = (List.range N).map f' := by
  apply List.ext_getElem?
  intro j
  rw [List.getElem?_set]
  by_cases e : k = j
  · subst e
    rw [if_pos rfl, List.getElem?_map, List.length_map, List.length_range]
    by_cases hk : k < N
    · rw [if_pos hk, List.getElem?_range hk]
      exact congrArg some h1.symm
    · rw [if_neg hk, List.getElem?_eq_none (by rw [List.length_range]; omega)]
      rfl
  · rw [if_neg e, List.getElem?_map, List.getElem?_map]
    by_cases hj : j < N
    · rw [List.getElem?_range hj]
      exact congrArg some (h2 j (Ne.symm e)).symm
    · rw [List.getElem?_eq_none (by rw [List.length_range]; omega)]
      rfl
theorem mv_isR_ref : ∀ t, t < 9 → ∀ f, f < mv_nf t → mv_isR t f = true → (mv_ty t f).isReference = true := by decide +kernel
theorem mv_isR_int {t f : Nat} (h : mv_isR t f = false) (h2 : ¬ mv_ty t f = .boolean) : mv_ty t f = .int := by
  unfold mv_isR at h
  split at h
  · next e => exact e
  · next e => exact absurd e h2
  · cases h
theorem mv_nar_ref (ty : FieldType) (a : Nat) : narrow ty (.ref a) = .ref a := by cases ty <;> rfl
theorem mv_nar_null (ty : FieldType) : narrow ty .null = .null := by cases ty <;> rfl
theorem mv_fit_ref (ty : FieldType) (a : Nat) (h : ty.isReference = true) : fits ty (.ref a) = true := by cases ty <;> first | rfl | cases h
theorem mv_fit_null (ty : FieldType) (h : ty.isReference = true) : fits ty .null = true := by cases ty <;> first | rfl | cases h
section
variable {Hp : Type} {rI : Hp → Nat → Nat → Nat → Int32} {rR : Hp → Nat → Nat → Nat → (Option (Nat × Nat) → Option (List mv_V × Hp)) → Option (List mv_V × Hp)} {ln : Hp → Nat → Nat → Nat} {wI : Hp → Nat → Nat → Nat → Int32 → Hp} {wR : Hp → Nat → Nat → Nat → Option (Nat × Nat) → (Hp → Option (List mv_V × Hp)) → Option (List mv_V × Hp)} {nw : Hp → Nat → Nat → (Nat → Hp → Option (List mv_V × Hp)) → Option (List mv_V × Hp)} {cp : Hp → Nat → Nat → Nat → Nat → Nat → Hp} {vw : Hp → mv_G}
variable {p : Program} {l : Launch} {e : Env} {R : Room} {s : State} {m : MethodId} {args : Array Value} {below : List Frame} {meth : Method} {c : Code} {H : Heap} {locs : List Loc} {cells slots : Nat} {Q : State → Prop} {pc : Nat} {ls : Array Slot} {φ φ0 : Nat → Nat → Nat} {md : mv_MD} {n MC MS : Nat} {sc : Option (Nat × (Nat → Int32))} {D : va_G} {cI cQ : ClassId} {q0 : Nat}
set_option maxHeartbeats 8000000 in
theorem mv_hop_sound (hA : mv_Ax rI rR ln wI wR nw cp vw) (hB : mv_B md n MC MS sc p R s m args meth c D cI cQ q0 φ0) (hφ : ∀ t o, 10 ≤ t → t < 100 → φ t o = φ0 t o) {i : Instr} {len : Nat} {lk : List Nat} (hd : decode md.2.1 pc = .ok (i, len)) (hc : mv_chkH md.1.cls md.1.name i len lk = true)
    {st : List mv_V} {h : Hp} {k : List mv_V → Hp → Option (List mv_V × Hp)} {res : List mv_V × Hp} (hh : mv_hop rI rR ln wI wR bod sc i lk st h k = some res) (hv : ∀ v ∈ st, mv_live (vw h) v) (hW : mv_W D cI cQ q0 φ (vw h) H) (hS : va_S (fun q => q0 ≤ q) s.heap H locs)
    (kk : ∀ st' h' H' locs', k st' h' = some res → (∀ v ∈ st', mv_live (vw h') v) → (vw h').2.2.2 = (vw h).2.2.2 → mv_W D cI cQ q0 φ (vw h') H' → va_S (fun q => q0 ≤ q) s.heap H' locs' → W p l e R s m args below meth c H' locs' cells slots Q (F0 m (pc + len) ls (st'.map (mv_v φ)))) : W p l e R s m args below meth c H locs cells slots Q (F0 m pc ls (st.map (mv_v φ))) := by
  obtain ⟨hx, hb, hml, hown, hnm, hts, hK, hq0, hR, hE, hScr⟩ := hB
  obtain ⟨aI, aR, aL, aW, aV, aN, aC⟩ := hA
  obtain ⟨ws, hP, hDw, hcov⟩ := mv_cover hW
  unfold mv_hop at hh
  split at hh
  · -- getfield
    split at hh
    · next ci f kd rest =>
      split at hh
      · next t o st =>
        split at hh
        · next hteq =>
          have hteq := Nat.eq_of_beq_eq_true hteq
          subst hteq
          simp only [mv_chkH] at hc
          split at hc
          · next heq =>
            cases heq
            simp only [Bool.and_eq_true, decide_eq_true_eq] at hc
            obtain ⟨rfl, hl⟩ := hc
            obtain ⟨hv0, hv1⟩ := List.forall_mem_cons.mp hv
            have ho := mv_live.str hW hv0 (Or.inl rfl)
            have hOF := (hE.2.1 o ho).2.2.1
            have h5 := kk _ _ _ _ hh (List.forall_mem_cons.mpr ⟨Or.inr ⟨show 10 ≤ 12 by decide, show 12 < 100 by decide, fun _ => ho⟩, hv1⟩) rfl hW hS
            have h6 := va_getX (p := p) (l := l) (e := e) (R := R) (m := m) (args := args) (below := below) (meth := meth) (cells := cells) (slots := slots) (Q := Q) (ls := ls) (rest := st.map (mv_v φ)) (N := 1) (v := fun _ => .ref (φ0 12 o)) (ad := fun _ => φ0 11 o) (i := 0) hx hb (fun _ _ => hOF) (by decide) hS hown (hts _ (wAt_in hl)) (fun _ h9 => h9) hd (by rw [← hφ 12 o (by decide) (by decide)]; exact h5)
            rw [← hφ 11 o (by decide) (by decide)] at h6
            exact h6
          · next heq =>
            cases heq
            simp only [Bool.and_eq_true, decide_eq_true_eq] at hc
            obtain ⟨rfl, hl⟩ := hc
            obtain ⟨hv0, hv1⟩ := List.forall_mem_cons.mp hv
            have ho := mv_live.str hW hv0 (Or.inl rfl)
            have hOF := (hE.2.1 o ho).2.1
            have h5 := kk _ _ _ _ hh (List.forall_mem_cons.mpr ⟨trivial, hv1⟩) rfl hW hS
            have h6 := va_getX (p := p) (l := l) (e := e) (R := R) (m := m) (args := args) (below := below) (meth := meth) (cells := cells) (slots := slots) (Q := Q) (ls := ls) (rest := st.map (mv_v φ)) (N := 1) (v := fun _ => .int 0) (ad := fun _ => φ0 11 o) (i := 0) hx hb (fun _ _ => hOF) (by decide) hS hown (hts _ (wAt_in hl)) (fun _ h9 => h9) hd h5
            rw [← hφ 11 o (by decide) (by decide)] at h6
            exact h6
          · next heq =>
            cases heq
            simp only [Bool.and_eq_true, decide_eq_true_eq] at hc
            obtain ⟨rfl, hci, hf, hkd, hl⟩ := hc
            obtain ⟨hv0, hv1⟩ := List.forall_mem_cons.mp hv
            have hlo := hv0.int (Or.inl (by omega))
            obtain ⟨p0, hp0⟩ := hcov t o hlo
            rw [mv_obj hci] at hp0
            have hfs : ((List.range (mv_nf t)).map (mv_fv φ (vw h) t o))[f]? = some (mv_fv φ (vw h) t o f) := by
              rw [List.getElem?_map, List.getElem?_range hf]; rfl
            have hgo : ∀ (kk2 : W p l e R s m args below meth c H locs cells slots Q (F0 m (pc + 3) ls (mv_fv φ (vw h) t o f :: st.map (mv_v φ)))), W p l e R s m args below meth c H locs cells slots Q (F0 m pc ls (.ref (φ t o) :: st.map (mv_v φ))) := by
              intro kk2
              split at hl
              · exact va_get hx hb hts (mv_wsin t hci) hown hK hP p0 hp0 (mv_clOf t hci) f hf (hts _ (wAt_in hl)) (fun _ h9 => h9) hfs hd kk2
              · have hl := of_decide_eq_true hl
                simp only [Prod.mk.injEq] at hl
                obtain ⟨e1, e2, e3, e4, e5⟩ := hl
                have hnw := va_Nw.use (A := args) rfl hE.2.2.2.2.2.2.2
                rw [← e1, ← e2, ← e3, ← e4, ← e5] at hnw
                exact va_getN hx hb hts (mv_wsin t hci) hown hK hP p0 hp0 (mv_clOf t hci) f hf hnw (fun _ h9 => h9) hfs hd kk2
            refine hgo ?_
            split at hh
            · next hk1 =>
              rw [hk1] at hkd
              have h3 := aR _ _ _ _ _ _ hh
              unfold mv_fv
              rw [← hkd]
              cases hr : (vw h).2.1 t o f with
              | none => rw [hr] at h3; exact kk _ _ _ _ h3 (List.forall_mem_cons.mpr ⟨trivial, hv1⟩) rfl hW hS
              | some z => rw [hr] at h3; exact kk _ _ _ _ h3 (List.forall_mem_cons.mpr ⟨Or.inl (hW.2.2.2.1 _ _ _ _ hlo hr), hv1⟩) rfl hW hS
            · next hk1 =>
              rw [hk1] at hkd
              unfold mv_fv
              rw [← hkd, ← aI]
              split at hh
              · next h11 =>
                have := Nat.eq_of_beq_eq_true h11
                omega
              · exact kk _ _ _ _ hh (List.forall_mem_cons.mpr ⟨trivial, hv1⟩) rfl hW hS
          · cases hc
        · cases hh
      · cases hh
    · cases hh
  · -- putfield
    split at hh
    · next ci f kd rest =>
      simp only [mv_chkH] at hc
      split at hc
      · next heq =>
        cases heq
        simp only [Bool.and_eq_true, decide_eq_true_eq] at hc
        obtain ⟨rfl, hci, hf, hkd, hkb, hl, hfin⟩ := hc
        -- the row, for any value of the field's type
        have hput : ∀ (o : Nat) (h' : Hp) (v : Value) (rst : List Value), o < (vw h).2.2.2 ci → narrow (mv_ty ci f) v = v → fits (mv_ty ci f) v = true → mv_fv φ (vw h') ci o f = v → (∀ j, j ≠ f → mv_fv φ (vw h') ci o j = mv_fv φ (vw h) ci o j) → (∀ t' o', ¬ (t' = ci ∧ o' = o) → mv_cell cI cQ φ (vw h') t' o' = mv_cell cI cQ φ (vw h) t' o') → (vw h').2.2.2 = (vw h).2.2.2 → (∀ t o k q, o < (vw h).2.2.2 t → (vw h').2.1 t o k = some q → q.2 < (vw h).2.2.2 q.1) →
            (∀ H1 locs1, mv_W D cI cQ q0 φ (vw h') H1 → va_S (fun q => q0 ≤ q) s.heap H1 locs1 → W p l e R s m args below meth c H1 locs1 cells slots Q (F0 m (pc + 3) ls rst)) → W p l e R s m args below meth c H locs cells slots Q (F0 m pc ls (v :: .ref (φ ci o) :: rst)) := by
          intro o h' v rst hlo hn hfit h1 h2 h3 h4 h5 k2
          obtain ⟨p0, hp0⟩ := hcov ci o hlo
          rw [mv_obj hci] at hp0
          have hlen : f < ((List.range (mv_nf ci)).map (mv_fv φ (vw h) ci o)).length := by rw [List.length_map, List.length_range]; exact hf
          have hgo : ∀ (H1 : Heap) (locs1 : List Loc), va_P D vwCl (ws.set p0 (φ ci o, .inr (ci, ((List.range (mv_nf ci)).map (mv_fv φ (vw h) ci o)).set f v))) H1 → va_D (fun q => q0 ≤ q) (ws.set p0 (φ ci o, .inr (ci, ((List.range (mv_nf ci)).map (mv_fv φ (vw h) ci o)).set f v))) → va_S (fun q => q0 ≤ q) s.heap H1 locs1 → W p l e R s m args below meth c H1 locs1 cells slots Q (F0 m (pc + 3) ls rst) := by
            intro H1 locs1 hP1 _ hS1
            refine k2 H1 locs1 (hW.set hcov hp0 hlo hP1 ?_ (fun t' o' _ hne => h3 t' o' hne) h4 h5) hS1
            rw [mv_obj hci, mv_set_range _ _ _ _ _ h1 h2]
          cases hf2 : (mv_T ci f).2.2.2 with
          | false => exact va_put hx hb hts (mv_wsin ci hci) (mv_ty ci) (mv_tyok ci hci) (mv_nm ci hci) hown hK hP hDw hS p0 hp0 (mv_clOf ci hci) f hf (hts _ (wAt_in hl)) (fun _ h9 => h9) hf2 (mv_tyok ci hci f hf) hn hfit hlen hd hgo
          | true =>
            rw [hf2] at hfin
            simp only [Bool.not_true, Bool.false_or, Bool.and_eq_true, decide_eq_true_eq] at hfin
            exact va_putF hx hb hts (mv_wsin ci hci) (mv_ty ci) (mv_tyok ci hci) (mv_nm ci hci) hown hK hP hDw hS p0 hp0 (mv_clOf ci hci) f hf (hts _ (wAt_in hl)) (fun _ h9 => h9) hf2 (hnm.trans hfin.1) hfin.2 (mv_tyok ci hci f hf) hn hfit hlen hd hgo
        split at hh
        · next hk1 =>
          rw [hk1] at hkd
          have hrf := mv_isR_ref ci hci f hf hkd.symm
          split at hh
          · next q t o st =>
            split at hh
            · next hteq =>
              have hteq := Nat.eq_of_beq_eq_true hteq
              subst hteq
              obtain ⟨hq1, hv1⟩ := List.forall_mem_cons.mp hv
              obtain ⟨hv0, hv2⟩ := List.forall_mem_cons.mp hv1
              have hlo := hv0.int (Or.inl (by omega))
              obtain ⟨h', h3, h4, h5⟩ := aV _ _ _ _ _ _ _ hh
              refine hput o h' (.ref (φ q.1 q.2)) _ hlo (mv_nar_ref _ _) (mv_fit_ref _ _ hrf) ?_ ?_ ?_ (by rw [h4]; rfl) ?_ fun H1 locs1 hW1 hS1 => kk _ _ _ _ h3 (fun v hv => (hv2 v hv).cnt (by rw [h4]; rfl)) (by rw [h4]; rfl) hW1 hS1
              · rw [h4]
                unfold mv_fv
                rw [← hkd]
                show va_rf ((if t = t ∧ o = o ∧ f = f then some q else _).map _) = _
                rw [if_pos ⟨rfl, rfl, rfl⟩]
                rfl
              · intro j hj
                rw [h4]
                unfold mv_fv
                show (match mv_isR t j with | true => va_rf ((if t = t ∧ o = o ∧ j = f then some q else (vw h).2.1 t o j).map _) | false => _) = _
                rw [if_neg (fun z => hj z.2.2)]
                rfl
              · intro t' o' hne
                rw [h4]
                refine mv_cell_congr (fun _ => rfl) (fun k => ?_) rfl
                show (if t' = t ∧ o' = o ∧ k = f then some q else (vw h).2.1 t' o' k).map _ = _
                rw [if_neg (fun z => hne ⟨z.1, z.2.1⟩)]
              · intro t1 o1 k1 z hlt hz
                rw [h4] at hz
                change (if t1 = t ∧ o1 = o ∧ k1 = f then some q else (vw h).2.1 t1 o1 k1) = some z at hz
                split at hz
                · cases hz; exact h5 _ rfl
                · exact hW.2.2.2.1 _ _ _ _ hlt hz
            · cases hh
          · next t o st =>
            split at hh
            · next hteq =>
              have hteq := Nat.eq_of_beq_eq_true hteq
              subst hteq
              obtain ⟨-, hv1⟩ := List.forall_mem_cons.mp hv
              obtain ⟨hv0, hv2⟩ := List.forall_mem_cons.mp hv1
              have hlo := hv0.int (Or.inl (by omega))
              obtain ⟨h', h3, h4, h5⟩ := aV _ _ _ _ _ _ _ hh
              refine hput o h' .null _ hlo (mv_nar_null _) (mv_fit_null _ hrf) ?_ ?_ ?_ (by rw [h4]; rfl) ?_ fun H1 locs1 hW1 hS1 => kk _ _ _ _ h3 (fun v hv => (hv2 v hv).cnt (by rw [h4]; rfl)) (by rw [h4]; rfl) hW1 hS1
              · rw [h4]
                unfold mv_fv
                rw [← hkd]
                show va_rf ((if t = t ∧ o = o ∧ f = f then none else _).map _) = _
                rw [if_pos ⟨rfl, rfl, rfl⟩]
                rfl
              · intro j hj
                rw [h4]
                unfold mv_fv
                show (match mv_isR t j with | true => va_rf ((if t = t ∧ o = o ∧ j = f then none else (vw h).2.1 t o j).map _) | false => _) = _
                rw [if_neg (fun z => hj z.2.2)]
                rfl
              · intro t' o' hne
                rw [h4]
                refine mv_cell_congr (fun _ => rfl) (fun k => ?_) rfl
                show (if t' = t ∧ o' = o ∧ k = f then none else (vw h).2.1 t' o' k).map _ = _
                rw [if_neg (fun z => hne ⟨z.1, z.2.1⟩)]
              · intro t1 o1 k1 z hlt hz
                rw [h4] at hz
                change (if t1 = t ∧ o1 = o ∧ k1 = f then none else (vw h).2.1 t1 o1 k1) = some z at hz
                split at hz
                · cases hz
                · exact hW.2.2.2.1 _ _ _ _ hlt hz
            · cases hh
          · cases hh
        · next hk1 =>
          rw [hk1] at hkd
          split at hh
          · next x t o st =>
            split at hh
            · next hteq =>
              have hteq := Nat.eq_of_beq_eq_true hteq
              subst hteq
              obtain ⟨-, hv1⟩ := List.forall_mem_cons.mp hv
              obtain ⟨hv0, hv2⟩ := List.forall_mem_cons.mp hv1
              have hlo := hv0.int (Or.inl (by omega))
              have hall : mv_bh (wI h t o f x) (fun h => k st h) = some res → narrow (mv_ty t f) (.int x) = .int x → fits (mv_ty t f) (.int x) = true → W p l e R s m args below meth c H locs cells slots Q (F0 m pc ls (List.map (mv_v φ) (.inl (.int x) :: .inr (t, o) :: st))) := by
                intro h3 hn hfit
                have h4 := aW h t o f x
                refine hput o (wI h t o f x) (.int x) _ hlo hn hfit ?_ ?_ ?_ (by rw [h4]; rfl) ?_ fun H1 locs1 hW1 hS1 => kk _ _ _ _ h3 (fun v hv => (hv2 v hv).cnt (by rw [h4]; rfl)) (by rw [h4]; rfl) hW1 hS1
                · rw [h4]
                  unfold mv_fv
                  rw [← hkd]
                  show Value.int (if t = t ∧ o = o ∧ f = f then x else _) = _
                  rw [if_pos ⟨rfl, rfl, rfl⟩]
                · intro j hj
                  rw [h4]
                  unfold mv_fv
                  show (match mv_isR t j with | true => _ | false => Value.int (if t = t ∧ o = o ∧ j = f then x else (vw h).1 t o j)) = _
                  rw [if_neg (fun z => hj z.2.2)]
                  rfl
                · intro t' o' hne
                  rw [h4]
                  refine mv_cell_congr (fun k => ?_) (fun _ => rfl) rfl
                  show (if t' = t ∧ o' = o ∧ k = f then x else (vw h).1 t' o' k) = _
                  rw [if_neg (fun z => hne ⟨z.1, z.2.1⟩)]
                · intro t1 o1 k1 z hlt hz
                  rw [h4] at hz
                  exact hW.2.2.2.1 _ _ _ _ hlt hz
              split at hh
              · next hk2 =>
                rw [hk2] at hkb
                obtain ⟨hg, hh⟩ := mv_gd_some hh
                have hty : mv_ty t f = .boolean := of_decide_eq_true hkb.symm
                simp only [Bool.or_eq_true, decide_eq_true_eq] at hg
                rcases hg with rfl | rfl
                · exact hall hh (by rw [hty]; rfl) (by rw [hty]; rfl)
                · exact hall hh (by rw [hty]; rfl) (by rw [hty]; rfl)
              · next hk2 =>
                rw [hk2] at hkb
                have hty : mv_ty t f = .int := mv_isR_int hkd.symm (of_decide_eq_false hkb.symm)
                exact hall hh (by rw [hty]; rfl) (by rw [hty]; rfl)
            · cases hh
          · cases hh
      · cases hc
    · cases hh
  · -- iaload
    simp only [mv_chkH, decide_eq_true_eq] at hc
    subst hc
    split at hh
    · next x t o st =>
      obtain ⟨-, hv1⟩ := List.forall_mem_cons.mp hv
      obtain ⟨hv0, hv2⟩ := List.forall_mem_cons.mp hv1
      split at hh
      · next ht =>
        simp only [Bool.and_eq_true] at ht
        have h1 := Nat.eq_of_beq_eq_true ht.1
        have h2 := Nat.eq_of_beq_eq_true ht.2
        subst h1; subst h2
        split at hh
        · next q =>
          obtain ⟨hg, hh⟩ := mv_gd_some hh
          obtain ⟨s1, s2, s3⟩ := hScr q rfl
          have h3 := va_sld (p := p) (l := l) (e := e) (R := R) (m := m) (args := args) (below := below) (meth := meth) (cells := cells) (slots := slots) (Q := Q) (ls := ls) (rest := st.map (mv_v φ)) hx hb s1 s2 s3 hS (mv_inb_in hg) hd (kk _ _ _ _ hh (List.forall_mem_cons.mpr ⟨trivial, hv2⟩) rfl hW hS)
          rw [← hφ 10 0 (by decide) (by decide)] at h3
          exact h3
        · cases hh
      · split at hh
        · next ht =>
          simp only [Bool.and_eq_true] at ht
          have h1 := Nat.eq_of_beq_eq_true ht.1
          have h2 := Nat.eq_of_beq_eq_true ht.2
          subst h1; subst h2
          obtain ⟨hg, hh⟩ := mv_gd_some hh
          have h3 := va_ti (p := p) (l := l) (e := e) (R := R) (m := m) (args := args) (below := below) (meth := meth) (cells := cells) (slots := slots) (Q := Q) (ls := ls) (rest := st.map (mv_v φ)) hx hb hE.2.2.2.1 hS (mv_inb_in hg) rfl hd (kk _ _ _ _ hh (List.forall_mem_cons.mpr ⟨trivial, hv2⟩) rfl hW hS)
          rw [← hφ 13 0 (by decide) (by decide)] at h3
          exact h3
        · split at hh
          · next hia =>
            obtain ⟨hg, hh⟩ := mv_gd_some hh
            have hlo := hv0.int (Or.inr (mv_ia_big hia))
            have hat := hW.1 t o hlo
            rw [mv_ia_cell hia] at hat
            rw [aL] at hg
            rw [aI] at hh
            exact va_iald hx hb hK (mv_single hat) 0 0 rfl rfl (mv_inb_in hg) hd (kk _ _ _ _ hh (List.forall_mem_cons.mpr ⟨trivial, hv2⟩) rfl hW hS)
          · cases hh
    · cases hh
  · -- iastore
    simp only [mv_chkH, decide_eq_true_eq] at hc
    subst hc
    split at hh
    · next v x t o st =>
      obtain ⟨-, hv1⟩ := List.forall_mem_cons.mp hv
      obtain ⟨-, hv2⟩ := List.forall_mem_cons.mp hv1
      obtain ⟨hv0, hv3⟩ := List.forall_mem_cons.mp hv2
      split at hh
      · next hia =>
        obtain ⟨hg, hh⟩ := mv_gd_some hh
        have hlo := hv0.int (Or.inr (mv_ia_big hia))
        obtain ⟨p0, hp0⟩ := hcov t o hlo
        rw [mv_ia_cell hia] at hp0
        rw [aL] at hg
        have h4 := aW h t o x.toNatClampNeg v
        refine va_iast hx hb hK hP hDw hS p0 0 hp0 rfl (mv_inb_in hg) hd fun H1 locs1 hP1 _ hS1 => ?_
        refine kk _ _ _ _ hh (fun v hv => (hv3 v hv).cnt (by rw [h4]; rfl)) (by rw [h4]; rfl) (hW.set hcov hp0 hlo hP1 ?_ (fun t' o' _ hne => ?_) (by rw [h4]; rfl) ?_) hS1
        · rw [mv_ia_cell hia, h4]
          have : (mv_setI (vw h) t o x.toNatClampNeg v).1 t o = upd ((vw h).1 t o) x.toNatClampNeg v := by
            funext j
            show (if t = t ∧ o = o ∧ j = x.toNatClampNeg then v else (vw h).1 t o j) = _
            by_cases hj : j = x.toNatClampNeg
            · rw [if_pos ⟨rfl, rfl, hj⟩]; simp [upd, hj]
            · rw [if_neg (fun z => hj z.2.2)]; simp [upd, hj]
          rw [this]
          rfl
        · rw [h4]
          refine mv_cell_congr (fun k => ?_) (fun _ => rfl) rfl
          show (if t' = t ∧ o' = o ∧ k = x.toNatClampNeg then v else (vw h).1 t' o' k) = _
          rw [if_neg (fun z => hne ⟨z.1, z.2.1⟩)]
        · intro t1 o1 k1 z hlt hz
          rw [h4] at hz
          exact hW.2.2.2.1 _ _ _ _ hlt hz
      · cases hh
    · cases hh
  · -- aaload
    simp only [mv_chkH, decide_eq_true_eq] at hc
    subst hc
    split at hh
    · next x t o st =>
      obtain ⟨-, hv1⟩ := List.forall_mem_cons.mp hv
      obtain ⟨hv0, hv2⟩ := List.forall_mem_cons.mp hv1
      split at hh
      · next hra =>
        obtain ⟨hg, hh⟩ := mv_gd_some hh
        have hlo := hv0.int (Or.inr (mv_ra_big hra))
        have hat := hW.1 t o hlo
        rw [mv_ra_cell hra] at hat
        rw [aL] at hg
        have h3 := aR _ _ _ _ _ _ hh
        refine va_aldq hx hb hK (mv_single hat) 0 1 rfl rfl (mv_inb_in hg) hd ?_
        cases hr : (vw h).2.1 t o x.toNatClampNeg with
        | none => rw [hr] at h3; exact kk _ _ _ _ h3 (List.forall_mem_cons.mpr ⟨trivial, hv2⟩) rfl hW hS
        | some z => rw [hr] at h3; exact kk _ _ _ _ h3 (List.forall_mem_cons.mpr ⟨Or.inl (hW.2.2.2.1 _ _ _ _ hlo hr), hv2⟩) rfl hW hS
      · cases hh
    · cases hh
  · -- aastore
    simp only [mv_chkH, decide_eq_true_eq] at hc
    subst hc
    have hset : ∀ (t o j : Nat) (q : Option (Nat × Nat)) (h' : Hp), mv_ra t = true → vw h' = mv_setR (vw h) t o j q → mv_cell cI cQ φ (vw h') t o = .inl (cQ, (vw h).2.2.1 t o, .inr (.inr (.inr (.inr (va_up (fun k => ((vw h).2.1 t o k).map fun q => φ q.1 q.2) j (q.map fun q => φ q.1 q.2)))))) := by
      intro t o j q h' hra h4
      rw [mv_ra_cell hra, h4]
      have : (fun k => ((mv_setR (vw h) t o j q).2.1 t o k).map fun q => φ q.1 q.2) = va_up (fun k => ((vw h).2.1 t o k).map fun q => φ q.1 q.2) j (q.map fun q => φ q.1 q.2) := by
        funext k
        show (if t = t ∧ o = o ∧ k = j then q else (vw h).2.1 t o k).map _ = _
        by_cases hj : k = j
        · rw [if_pos ⟨rfl, rfl, hj⟩]; simp [va_up, hj]
        · rw [if_neg (fun z => hj z.2.2)]; simp [va_up, hj]
      rw [this]
      rfl
    have hoth : ∀ (t o j : Nat) (q : Option (Nat × Nat)) (h' : Hp), vw h' = mv_setR (vw h) t o j q → ∀ t' o', ¬ (t' = t ∧ o' = o) → mv_cell cI cQ φ (vw h') t' o' = mv_cell cI cQ φ (vw h) t' o' := by
      intro t o j q h' h4 t' o' hne
      rw [h4]
      refine mv_cell_congr (fun _ => rfl) (fun k => ?_) rfl
      show (if t' = t ∧ o' = o ∧ k = j then q else (vw h).2.1 t' o' k).map _ = _
      rw [if_neg (fun z => hne ⟨z.1, z.2.1⟩)]
    have hcls : ∀ (t o j : Nat) (q : Option (Nat × Nat)) (h' : Hp), vw h' = mv_setR (vw h) t o j q → (∀ z, q = some z → z.2 < (vw h).2.2.2 z.1) → ∀ t o k q, o < (vw h).2.2.2 t → (vw h').2.1 t o k = some q → q.2 < (vw h).2.2.2 q.1 := by
      intro t o j q h' h4 h5 t1 o1 k1 z hlt hz
      rw [h4] at hz
      change (if t1 = t ∧ o1 = o ∧ k1 = j then q else (vw h).2.1 t1 o1 k1) = some z at hz
      split at hz
      · exact h5 _ hz
      · exact hW.2.2.2.1 _ _ _ _ hlt hz
    split at hh
    · next u z x t o st =>
      obtain ⟨hvu, hv1⟩ := List.forall_mem_cons.mp hv
      obtain ⟨-, hv2⟩ := List.forall_mem_cons.mp hv1
      obtain ⟨hv0, hv3⟩ := List.forall_mem_cons.mp hv2
      split at hh
      · next hra =>
        simp only [Bool.and_eq_true] at hra
        obtain ⟨hra, hu⟩ := hra
        have hu := Nat.eq_of_beq_eq_true hu
        subst hu
        obtain ⟨hg, hh⟩ := mv_gd_some hh
        have hlo := hv0.int (Or.inr (mv_ra_big hra))
        have hlu := hvu.int (Or.inl (by decide))
        obtain ⟨p0, hp0⟩ := hcov t o hlo
        rw [mv_ra_cell hra] at hp0
        obtain ⟨p1, hp1⟩ := hcov 4 z hlu
        rw [mv_obj (by decide)] at hp1
        rw [aL] at hg
        obtain ⟨h', h3, h4, h5⟩ := aV _ _ _ _ _ _ _ hh
        refine va_astq (r := (mv_R 4, mv_T 4, mv_nf 4)) hx hb hK hP hDw hS p0 1 p1 4 hp0 rfl hp1 (mv_clOf 4 (by decide)) (mv_inb_in hg) hd fun H1 locs1 hP1 _ hS1 => ?_
        exact kk _ _ _ _ h3 (fun v hv => (hv3 v hv).cnt (by rw [h4]; rfl)) (by rw [h4]; rfl) (hW.set hcov hp0 hlo hP1 (hset _ _ _ _ _ hra h4) (fun t' o' _ hne => hoth _ _ _ _ _ h4 t' o' hne) (by rw [h4]; rfl) (hcls _ _ _ _ _ h4 h5)) hS1
      · cases hh
    · next x t o st =>
      obtain ⟨-, hv1⟩ := List.forall_mem_cons.mp hv
      obtain ⟨-, hv2⟩ := List.forall_mem_cons.mp hv1
      obtain ⟨hv0, hv3⟩ := List.forall_mem_cons.mp hv2
      split at hh
      · next hra =>
        obtain ⟨hg, hh⟩ := mv_gd_some hh
        have hlo := hv0.int (Or.inr (mv_ra_big hra))
        obtain ⟨p0, hp0⟩ := hcov t o hlo
        rw [mv_ra_cell hra] at hp0
        rw [aL] at hg
        obtain ⟨h', h3, h4, h5⟩ := aV _ _ _ _ _ _ _ hh
        refine va_astqN hx hb hK hP hDw hS p0 1 hp0 rfl (mv_inb_in hg) hd fun H1 locs1 hP1 _ hS1 => ?_
        exact kk _ _ _ _ h3 (fun v hv => (hv3 v hv).cnt (by rw [h4]; rfl)) (by rw [h4]; rfl) (hW.set hcov hp0 hlo hP1 (hset _ _ _ _ _ hra h4) (fun t' o' _ hne => hoth _ _ _ _ _ h4 t' o' hne) (by rw [h4]; rfl) (hcls _ _ _ _ _ h4 h5)) hS1
      · cases hh
    · cases hh
  · -- arraylength
    simp only [mv_chkH, decide_eq_true_eq] at hc
    subst hc
    split at hh
    · next t o st =>
      obtain ⟨hv0, hv1⟩ := List.forall_mem_cons.mp hv
      split at hh
      · next ht =>
        simp only [Bool.and_eq_true] at ht
        have h1 := Nat.eq_of_beq_eq_true ht.1
        have h2 := Nat.eq_of_beq_eq_true ht.2
        subst h1; subst h2
        split at hh
        · next q =>
          obtain ⟨s1, s2, s3⟩ := hScr q rfl
          have h3 := va_slen (p := p) (l := l) (e := e) (R := R) (m := m) (args := args) (below := below) (meth := meth) (cells := cells) (slots := slots) (Q := Q) (ls := ls) (rest := st.map (mv_v φ)) hx hb s1 s2 s3 hS hd (kk _ _ _ _ hh (List.forall_mem_cons.mpr ⟨trivial, hv1⟩) rfl hW hS)
          rw [← hφ 10 0 (by decide) (by decide)] at h3
          exact h3
        · cases hh
      · split at hh
        · next h12 =>
          have h1 := Nat.eq_of_beq_eq_true h12
          subst h1
          have ho := mv_live.str hW hv0 (Or.inr rfl)
          have h3 := va_tlen (p := p) (l := l) (e := e) (R := R) (m := m) (args := args) (below := below) (meth := meth) (cells := cells) (slots := slots) (Q := Q) (ls := ls) (rest := st.map (mv_v φ)) hx hb (hE.2.1 o ho).2.2.2 hS rfl hd (kk _ _ _ _ hh (List.forall_mem_cons.mpr ⟨trivial, hv1⟩) rfl hW hS)
          rw [← hφ 12 o (by decide) (by decide)] at h3
          exact h3
        split at hh
        · next h100 =>
          have h100 := Nat.ble_eq.mp h100
          have hlo := hv0.int (Or.inr h100)
          have hat := hW.1 t o hlo
          rw [aL] at hh
          cases hra : mv_ra t with
          | true =>
            rw [mv_ra_cell hra] at hat
            exact va_alen hx hb hK (mv_single hat) 0 1 rfl rfl rfl hd (kk _ _ _ _ hh (List.forall_mem_cons.mpr ⟨trivial, hv1⟩) rfl hW hS)
          | false =>
            have hia : mv_ia t = true := by unfold mv_ia; rw [hra, Nat.ble_eq.mpr h100]; rfl
            rw [mv_ia_cell hia] at hat
            exact va_alen hx hb hK (mv_single hat) 0 0 rfl rfl rfl hd (kk _ _ _ _ hh (List.forall_mem_cons.mpr ⟨trivial, hv1⟩) rfl hW hS)
        · cases hh
    · cases hh
  · -- baload
    simp only [mv_chkH, decide_eq_true_eq] at hc
    subst hc
    split at hh
    · next x t o st =>
      obtain ⟨-, hv1⟩ := List.forall_mem_cons.mp hv
      obtain ⟨hv0, hv2⟩ := List.forall_mem_cons.mp hv1
      split at hh
      · next h12 =>
        have h1 := Nat.eq_of_beq_eq_true h12
        subst h1
        have ho := mv_live.str hW hv0 (Or.inr rfl)
        obtain ⟨hg, hh2⟩ := mv_gd_some hh
        have h3 := va_tb (p := p) (l := l) (e := e) (R := R) (m := m) (args := args) (below := below) (meth := meth) (cells := cells) (slots := slots) (Q := Q) (ls := ls) (rest := st.map (mv_v φ)) hx hb (hE.2.1 o ho).2.2.2 hS (mv_inb_in hg) rfl hd (kk _ _ _ _ hh2 (List.forall_mem_cons.mpr ⟨trivial, hv2⟩) rfl hW hS)
        rw [← hφ 12 o (by decide) (by decide)] at h3
        exact h3
      · cases hh
    · cases hh
  · -- getstatic
    split at hh
    · next t rest =>
      split at hh
      · next ht =>
        have ht2 := Nat.eq_of_beq_eq_true ht
        subst ht2
        simp only [mv_chkH] at hc
        split at hc
        · next heq =>
          cases heq
          simp only [Bool.and_eq_true, decide_eq_true_eq] at hc
          obtain ⟨rfl, hl⟩ := hc
          have h3 := va_gets (p := p) (l := l) (e := e) (R := R) (m := m) (args := args) (below := below) (meth := meth) (cells := cells) (slots := slots) (Q := Q) (ls := ls) (rest := st.map (mv_v φ)) hx hb hE.2.2.1 hS hown (hts _ (wAt_in hl)) (fun _ h9 => h9) hd (by
            rw [← hφ 13 0 (by decide) (by decide)]
            exact kk _ _ _ _ hh (List.forall_mem_cons.mpr ⟨Or.inr ⟨by decide, by decide, fun h => absurd h (by decide)⟩, hv⟩) rfl hW hS)
          exact h3
        all_goals first | (next heq => cases heq) | cases hc
      · split at hh
        · next ht =>
          have ht2 := Nat.eq_of_beq_eq_true ht
          subst ht2
          simp only [mv_chkH] at hc
          split at hc
          · next heq => cases heq
          · next heq =>
            cases heq
            simp only [Bool.and_eq_true, decide_eq_true_eq] at hc
            obtain ⟨rfl, hl⟩ := hc
            have h3 := va_gets (p := p) (l := l) (e := e) (R := R) (m := m) (args := args) (below := below) (meth := meth) (cells := cells) (slots := slots) (Q := Q) (ls := ls) (rest := st.map (mv_v φ)) hx hb hE.2.2.2.2.2.1 hS hown (hts _ (wAt_in hl)) (fun _ h9 => h9) hd (by
              rw [← hφ 14 0 (by decide) (by decide)]
              exact kk _ _ _ _ hh (List.forall_mem_cons.mpr ⟨Or.inr ⟨by decide, by decide, fun h => absurd h (by decide)⟩, hv⟩) rfl hW hS)
            exact h3
          all_goals first | (next heq => cases heq) | cases hc
        · next h13 _ h14 =>
          simp only [mv_chkH] at hc
          split at hc
          · next heq => cases heq; exact absurd h13 (by decide)
          · next heq => cases heq; exact absurd h14 (by decide)
          · next heq =>
            cases heq
            simp only [Bool.and_eq_true, decide_eq_true_eq] at hc
            obtain ⟨rfl, hl⟩ := hc
            exact va_gets (p := p) (l := l) (e := e) (R := R) (m := m) (args := args) (below := below) (meth := meth) (cells := cells) (slots := slots) (Q := Q) (ls := ls) (rest := st.map (mv_v φ)) hx hb hE.2.2.2.2.1 hS hown (hts _ (wAt_in hl)) (fun _ h9 => h9) hd (kk _ _ _ _ hh (List.forall_mem_cons.mpr ⟨trivial, hv⟩) rfl hW hS)
          · cases hc
    · cases hh
  · cases hh
end
end
section
-- ===== calls and makings =====
def mv_chkC (own : String) (Ms : List (mv_MD × Bool)) (i : Instr) (len : Nat) (lk : List Nat) : Bool := match i with
  | .new x => (match lk with
    | ci :: n :: a :: b :: a2 :: b2 :: a3 :: b3 :: _ => decide (len = 3) && (decide (ci < 9) && (decide (n = mv_nf ci) && (wAt a b (.classLink own x (mv_R ci)) && (wAt a2 b2 (.instantiable (mv_R ci) n) && wAt a3 b3 (.initialized (mv_R ci))))))
    | _ => false)
  | .newarray ty => (match lk with
    | t :: a :: b :: _ => decide (len = 2) && (decide (ty = .int) && (mv_ia t && wAt a b (.arrayClass .int)))
    | _ => false)
  | .anewarray x => (match lk with
    | t :: a :: b :: a2 :: b2 :: _ => decide (len = 3) && (mv_ra t && (wAt a b (.classLink own x RX5) && wAt a2 b2 (.arrayOver (.object RX5))))
    | _ => false)
  | .invokestatic x => (match lk with
    | 0 :: j :: n :: kd :: a :: b :: a2 :: b2 :: a3 :: b3 :: a4 :: b4 :: _ => (match mv_nth j Ms with
      | some ((y, bytes, maxL, ret), _) => decide (len = 3) && (decide (maxL ≤ 20) && (decide (y.cls ≠ "java/lang/invoke/MethodHandle" ∧ y.cls ≠ "java/lang/invoke/VarHandle" ∧ (parseMethodDescriptor y.desc).map (fun d => d.parameters.length) = some n) && (wAt a2 b2 (.static y) && (wAt a3 b3 (.initialized y.cls) && (wAt a4 b4 (.code y bytes maxL ret) && (match kd with
        | 1 => wAt a b (.methodLink own x y)
        | _ => decide ((own, x, y) ∈ mv_nl)))))))
      | none => false)
    | 1 :: a :: b :: a2 :: b2 :: a3 :: b3 :: a4 :: b4 :: _ => decide (len = 3) && (wAt a b (.methodLink own x Lib.Math.max.name) && (wAt a2 b2 (.static Lib.Math.max.name) && (wAt a3 b3 (.initialized "java/lang/Math") && wAt a4 b4 (.code Lib.Math.max.name Lib.Math.max.code 2 (some .int)))))
    | 2 :: a :: b :: a2 :: b2 :: a3 :: b3 :: a4 :: b4 :: _ => decide (len = 3) && (wAt a b (.methodLink own x Lib.Math.min.name) && (wAt a2 b2 (.static Lib.Math.min.name) && (wAt a3 b3 (.initialized "java/lang/Math") && wAt a4 b4 (.code Lib.Math.min.name Lib.Math.min.code 2 (some .int)))))
    | 3 :: a :: b :: a2 :: b2 :: a3 :: b3 :: a4 :: b4 :: _ => decide (len = 3) && (wAt a b (.methodLink own x Lib.Math.abs.name) && (wAt a2 b2 (.static Lib.Math.abs.name) && (wAt a3 b3 (.initialized "java/lang/Math") && wAt a4 b4 (.code Lib.Math.abs.name Lib.Math.abs.code 1 (some .int)))))
    | 4 :: a :: b :: a2 :: b2 :: a3 :: b3 :: a4 :: b4 :: _ => decide (len = 3) && (wAt a b (.methodLink own x arraycopyName) && (wAt a2 b2 (.native arraycopyName) && (wAt a3 b3 (.static arraycopyName) && wAt a4 b4 (.initialized "java/lang/System"))))
    | 9 :: _ => true
    | _ => false)
  | .invokevirtual x => (match lk with
    | 0 :: j :: n :: kd :: a :: b :: a2 :: b2 :: a3 :: b3 :: a4 :: b4 :: a5 :: b5 :: _ => (match mv_nth j Ms with
      | some ((y, bytes, maxL, ret), ins) => decide (len = 3) && (ins && (decide (maxL ≤ 20) && (decide (y.cls ≠ "java/lang/invoke/MethodHandle" ∧ y.cls ≠ "java/lang/invoke/VarHandle" ∧ (parseMethodDescriptor y.desc).map (fun d => d.parameters.length + 1) = some n) && (wAt a2 b2 (.instanceMethod y) && (wAt a3 b3 (.initialized y.cls) && (wAt a4 b4 (.code y bytes maxL ret) && (wAt a5 b5 (.selects y.cls y y) && (wAt a b (.methodLink own x y)))))))))
      | none => false)
    | _ => false)
  | .invokespecial x => (match lk with
    | 0 :: j :: n :: kd :: a :: b :: a2 :: b2 :: a3 :: b3 :: a4 :: b4 :: _ => (match mv_nth j Ms with
      | some ((y, bytes, maxL, ret), ins) => decide (len = 3) && (ins && (decide (ret = none) && (decide (y.name = "<init>") && (decide (maxL ≤ 20) && (decide (y.cls ≠ "java/lang/invoke/MethodHandle" ∧ y.cls ≠ "java/lang/invoke/VarHandle" ∧ (parseMethodDescriptor y.desc).map (fun d => d.parameters.length + 1) = some n) && (wAt a2 b2 (.instanceMethod y) && (wAt a3 b3 (.initialized y.cls) && (wAt a4 b4 (.code y bytes maxL ret) && (match kd with
        | 2 => wAt a b (.methodLink own x y)
        | _ => decide ((own, x, y) ∈ mv_nl))))))))))
      | none => false)
    | 5 :: a :: b :: a2 :: b2 :: a3 :: b3 :: _ => decide (len = 3) && (wAt a b (.methodLink own x Lib.objectInit) && (wAt a2 b2 (.instanceMethod Lib.objectInit) && wAt a3 b3 (.code Lib.objectInit ⟨#[0xb1]⟩ 1 none)))
    | _ => false)
  | _ => false
theorem mv_tk_some {α : Type} : ∀ (n : Nat) (as st : List mv_V) (k : List mv_V → List mv_V → Option α) (r : α), mv_tk n as st k = some r → ∃ a b, st = a ++ b ∧ a.length = n ∧ k (a.reverse ++ as) b = some r
  | 0, as, st, k, r, h => ⟨[], st, rfl, rfl, h⟩
  | n + 1, as, [], k, r, h => by cases h
  | n + 1, as, v :: st, k, r, h => by
    obtain ⟨a, b, h1, h2, h3⟩ := mv_tk_some n (v :: as) st k r h
    exact ⟨v :: a, b, by rw [h1]; rfl, by rw [List.length_cons, h2], by rw [List.reverse_cons, List.append_assoc]; exact h3⟩
theorem mv_ap_eq {α : Type} : ∀ (vs st : List mv_V) (k : List mv_V → α), mv_ap vs st k = k (vs ++ st)
  | [], _, _ => rfl
  | v :: vs, st, k => by
    show mv_ap vs st (fun l => k (v :: l)) = _
    rw [mv_ap_eq vs st]
    rfl
theorem mv_cats_eq (φ : Nat → Nat → Nat) : ∀ st : List mv_V, ((st.map (mv_v φ)).map fun v => v.category).sum = mv_cats st
  | [] => rfl
  | v :: st => by
    rw [List.map_cons, List.map_cons, List.sum_cons, mv_cats_eq φ st]
    show _ = (match mv_two v with
      | true => 2
      | false => 1) + mv_cats st
    congr 1
    cases h : mv_two v with
    | true => have := mv_two_beq φ v; rw [h] at this; exact eq_of_beq this
    | false => exact mv_two_cat h
theorem mv_dflt : ∀ t, t < 9 → ∀ j, j < mv_nf t → defaultValue (mv_ty t j) = (match mv_isR t j with
    | true => Value.null
    | false => Value.int 0) := by decide +kernel
theorem mv_WSgood (md : mv_MD) (h : Cond.code md.1 md.2.1 md.2.2.1 md.2.2.2 ∈ WS) : GoodIn WS (.code md.1 md.2.1 md.2.2.1 md.2.2.2 :: WS) := fun w hw => by
  rcases List.mem_cons.mp hw with rfl | hw
  · exact ⟨h, WS_good h⟩
  · exact ⟨hw, WS_good hw⟩
section
variable {Hp : Type} {vw : Hp → mv_G}
variable {p : Program} {l : Launch} {e : Env} {R : Room} {s : State} {m : MethodId} {args : Array Value} {below : List Frame} {meth : Method} {c : Code} {H : Heap} {locs : List Loc} {cells slots : Nat} {Q : State → Prop} {pc : Nat} {ls : Array Slot} {φ φ0 : Nat → Nat → Nat} {md : mv_MD} {n MC MS : Nat} {sc : Option (Nat × (Nat → Int32))} {D : va_G} {cI cQ : ClassId} {q0 : Nat}
/-- behind a call -/
theorem mv_back {g g' : mv_G} {vs : List mv_V} {mc ms : Nat} {st0 rest : List Value} (hr : va_Run p l e R s m args below meth c H locs cells slots mc ms (F0 m pc ls st0) rest (fun st oc t => ∃ φ', mv_ge g φ g' φ' ∧ (∀ v ∈ vs, mv_live g' v) ∧ oc = .returned (vs.map (mv_v φ')).head? ∧ mv_W D cI cQ q0 φ' g' t.heap ∧ va_F (fun q => q0 ≤ q) st t) (fun q => q0 ≤ q))
    (hS : va_S (fun q => q0 ≤ q) s.heap H locs) (kk : ∀ φ' H1 locs1, mv_ge g φ g' φ' → (∀ v ∈ vs, mv_live g' v) → mv_W D cI cQ q0 φ' g' H1 → va_S (fun q => q0 ≤ q) s.heap H1 locs1 → W p l e R s m args below meth c H1 locs1 (cells + mc) (slots + ms) Q (F0 m (pc + 3) ls ((vs.map (mv_v φ')).head?.toList ++ rest))) : W p l e R s m args below meth c H locs cells slots Q (F0 m pc ls st0) := by
  intro T hT X
  obtain ⟨v, st₀, t, T', L, h0, X', hL, e1, e2, ⟨φ', h1, h2, h3, h4, h5, h6⟩, st⟩ := hr T hT X
  cases h3
  rw [h0] at h5 h6
  obtain ⟨t2, a1, b1⟩ := kk φ' T'.heap (locs ++ L) h1 h2 (by rw [e1]; exact h4)
    ⟨Nat.le_trans hS.1 (by rw [e1]; exact h5), fun q ha hb => by rw [e1, h6 q (Nat.lt_of_lt_of_le ha hS.1) hb]; exact hS.2.1 q ha hb, fun q hq => by
      rcases List.mem_append.mp hq with h | h
      · exact hS.2.2 q h
      · exact hL q h⟩ T' rfl X'
  exact ⟨t2, st t2 a1, b1⟩
theorem mv_blind {as : List mv_V} {g : mv_G} : FrameBlind (va_Pc (as.map (mv_v φ)) fun U => q0 ≤ U.heap.size ∧ va_K D vwCl [(cI, .int), (cQ, .object RX5)] U ∧ mv_Ext q0 φ U ∧ (∀ v ∈ as, mv_live g v) ∧ mv_W D cI cQ q0 φ g U.heap) := by
  intro a U g mk q
  obtain ⟨h0, h1, h2, h3, h4, h5⟩ := q
  exact ⟨h0, h1, va_K.moved (u := U) (U := U.calling g mk a) (Vm.Alike.refl U.vm) h2, mv_Ext.same (u := U) (U := U.calling g mk a) rfl rfl h3, h4, h5⟩
theorem mv_pre (hB : mv_B md n MC MS sc p R s m args meth c D cI cQ q0 φ0) (hφ : ∀ t o, 10 ≤ t → t < 100 → φ t o = φ0 t o) {as : List mv_V} {g : mv_G} (hv : ∀ v ∈ as, mv_live g v) (hW : mv_W D cI cQ q0 φ g H) (hS : va_S (fun q => q0 ≤ q) s.heap H locs) :
    ∀ U : State, U.heap = H → s.WarmedH U.vm → (va_Pc (as.map (mv_v φ)) fun U => q0 ≤ U.heap.size ∧ va_K D vwCl [(cI, .int), (cQ, .object RX5)] U ∧ mv_Ext q0 φ U ∧ (∀ v ∈ as, mv_live g v) ∧ mv_W D cI cQ q0 φ g U.heap) (as.map (mv_v φ)).toArray U := by
  obtain ⟨hx, hb, hml, hown, hnm, hts, hK, hq0, hR, hE, hScr⟩ := hB
  intro U hU hWm
  refine ⟨rfl, by rw [hU]; exact Nat.le_trans hq0 hS.1, va_K.moved hWm.alike hK, hE.next hWm (fun a h1 h2 => by rw [hU]; exact hS.2.1 a h1 h2) hφ, hv, by rw [hU]; exact hW⟩
end
section
variable {Hp : Type} {rI : Hp → Nat → Nat → Nat → Int32} {rR : Hp → Nat → Nat → Nat → (Option (Nat × Nat) → Option (List mv_V × Hp)) → Option (List mv_V × Hp)} {ln : Hp → Nat → Nat → Nat} {wI : Hp → Nat → Nat → Nat → Int32 → Hp} {wR : Hp → Nat → Nat → Nat → Option (Nat × Nat) → (Hp → Option (List mv_V × Hp)) → Option (List mv_V × Hp)} {nw : Hp → Nat → Nat → (Nat → Hp → Option (List mv_V × Hp)) → Option (List mv_V × Hp)} {cp : Hp → Nat → Nat → Nat → Nat → Nat → Hp} {vw : Hp → mv_G}
variable {p : Program} {l : Launch} {e : Env} {R : Room} {s : State} {m : MethodId} {args : Array Value} {below : List Frame} {meth : Method} {c : Code} {H : Heap} {locs : List Loc} {Q : State → Prop} {pc : Nat} {ls : Array Slot} {φ φ0 : Nat → Nat → Nat} {md : mv_MD} {n MC MS : Nat} {sc : Option (Nat × (Nat → Int32))} {D : va_G} {cI cQ : ClassId} {q0 : Nat}
/-- what a call-form's answer gives, for any of the three kinds of call -/
theorem mv_call (hB : mv_B md n MC MS sc p R s m args meth c D cI cQ q0 φ0) (hφ : ∀ t o, 10 ≤ t → t < 100 → φ t o = φ0 t o) {x j nn len : Nat} {G : List (mv_C Hp)} {C : mv_C Hp} {i : Instr} {n' : Nat} {y : MethodName} {bytes : ByteArray} {maxL : Nat} {ret : Option FieldType} {ins : Bool} (hn : n' + 1 ≤ n) (hCal : mv_Cal vw n' ((y, bytes, maxL, ret), ins) C)
    {lv : mv_L} {a b : List mv_V} {h : Hp} {ce sl : Nat} {k : List mv_V → Hp → Nat → Nat → Option (List mv_V × Hp)} {res : List mv_V × Hp} (hh : C.2 a.reverse h (fun vs h => mv_ap vs b fun st => k st h (ce + C.1.1) (sl + C.1.2)) = some res) (hca : ce + C.1.1 ≤ MC) (hcb : sl + C.1.2 ≤ MS) (hcat : mv_cats b ≤ 8)
    (hv : ∀ v ∈ a ++ b, mv_live (vw h) v) (hls : ls.size = md.2.2.1) (hW : mv_W D cI cQ q0 φ (vw h) H) (hS : va_S (fun q => q0 ≤ q) s.heap H locs)
    (hgo : ∀ vs h', vs.length ≤ 1 → (ins = true → mv_rcv (y, bytes, maxL, ret) a.reverse) → mv_Met vw n' C.1.1 C.1.2 (y, bytes, maxL, ret) a.reverse h vs h' → (∀ U : State, U.heap = H → s.WarmedH U.vm → (va_Pc (a.reverse.map (mv_v φ)) fun U => q0 ≤ U.heap.size ∧ va_K D vwCl [(cI, .int), (cQ, .object RX5)] U ∧ mv_Ext q0 φ U ∧ (∀ v ∈ a.reverse, mv_live (vw h) v) ∧ mv_W D cI cQ q0 φ (vw h) U.heap) (a.reverse.map (mv_v φ)).toArray U) →
      va_Run p l e R s m args below meth c H locs ce sl C.1.1 C.1.2 (F0 m pc ls ((a ++ b).map (mv_v φ))) (b.map (mv_v φ)) (fun st oc t => ∃ φ', mv_ge (vw h) φ (vw h') φ' ∧ (∀ v ∈ vs, mv_live (vw h') v) ∧ oc = .returned (vs.map (mv_v φ')).head? ∧ mv_W D cI cQ q0 φ' (vw h') t.heap ∧ va_F (fun q => q0 ≤ q) st t) (fun q => q0 ≤ q))
    (kk : ∀ st' h' ce' sl' φ' H' locs', k st' h' ce' sl' = some res → ce' ≤ MC → sl' ≤ MS → (∀ v ∈ st', mv_live (vw h') v) → mv_ge (vw h) φ (vw h') φ' → mv_W D cI cQ q0 φ' (vw h') H' → va_S (fun q => q0 ≤ q) s.heap H' locs' → W p l e R s m args below meth c H' locs' ce' sl' Q (F0 m (pc + 3) ls (st'.map (mv_v φ')))) : W p l e R s m args below meth c H locs ce sl Q (F0 m pc ls ((a ++ b).map (mv_v φ))) := by
  obtain ⟨vs, h', h1, h2, h3, h4⟩ := hCal _ _ _ _ hh
  rw [mv_ap_eq] at h1
  have hva : ∀ v ∈ a.reverse, mv_live (vw h) v := fun v hv' => hv v (List.mem_append_left _ (List.mem_reverse.mp hv'))
  have hvb : ∀ v ∈ b, mv_live (vw h) v := fun v hv' => hv v (List.mem_append_right _ hv')
  refine mv_back (hgo vs h' h2 h3 h4 (mv_pre hB hφ hva hW hS)) hS fun φ' H1 locs1 g1 g2 g3 g4 => ?_
  have hst : (vs.map (mv_v φ')).head?.toList ++ b.map (mv_v φ) = (vs ++ b).map (mv_v φ') := by
    rw [List.map_append, mv_live.sames g1 hvb]
    congr 1
    match vs, h2 with
    | [], _ => rfl
    | [v], _ => rfl
  rw [hst]
  refine kk _ _ _ _ φ' H1 locs1 h1 hca hcb (fun v hv' => ?_) g1 g3 g4
  rcases List.mem_append.mp hv' with hv' | hv'
  · exact g2 v hv'
  · exact (hvb v hv').up g1
set_option maxHeartbeats 8000000 in
theorem mv_cop_sound (hA : mv_Ax rI rR ln wI wR nw cp vw) (hB : mv_B md n MC MS sc p R s m args meth c D cI cQ q0 φ0) (hφ : ∀ t o, 10 ≤ t → t < 100 → φ t o = φ0 t o) {G : List (mv_C Hp)} {Ms : List (mv_MD × Bool)} (hG : ∀ j C md', mv_nth j G = some C → mv_nth j Ms = some md' → ∃ n', n' + 1 ≤ n ∧ mv_Cal vw n' md' C) (hn1 : 1 ≤ n)
    {i : Instr} {len : Nat} {lk : List Nat} (hd : decode md.2.1 pc = .ok (i, len)) (hc : mv_chkC md.1.cls Ms i len lk = true)
    {lv : mv_L} {st : List mv_V} {h : Hp} {ce sl : Nat} {k : List mv_V → Hp → Nat → Nat → Option (List mv_V × Hp)} {res : List mv_V × Hp} (hh : mv_cop ln nw cp G MC MS i lk lv st h ce sl k = some res) (hce : ce ≤ MC) (hsl : sl ≤ MS) (hv : ∀ v ∈ st, mv_live (vw h) v) (hls : ls.size = md.2.2.1) (hW : mv_W D cI cQ q0 φ (vw h) H) (hS : va_S (fun q => q0 ≤ q) s.heap H locs)
    (kk : ∀ st' h' ce' sl' φ' H' locs', k st' h' ce' sl' = some res → ce' ≤ MC → sl' ≤ MS → (∀ v ∈ st', mv_live (vw h') v) → mv_ge (vw h) φ (vw h') φ' → mv_W D cI cQ q0 φ' (vw h') H' → va_S (fun q => q0 ≤ q) s.heap H' locs' → W p l e R s m args below meth c H' locs' ce' sl' Q (F0 m (pc + len) ls (st'.map (mv_v φ')))) : W p l e R s m args below meth c H locs ce sl Q (F0 m pc ls (st.map (mv_v φ))) := by
  have hB' := hB
  obtain ⟨hx, hb, hml, hown, hnm, hts, hK, hq0, ⟨hR1, hR2, hR3, hR4⟩, hE, hScr⟩ := hB
  obtain ⟨aI, aR, aL, aW, aV, aN, aC⟩ := hA
  obtain ⟨ws, hP, hDw, hcov⟩ := mv_cover hW
  have hA0 : ∀ q : Nat, s.heap.size ≤ q → q0 ≤ q := fun q hq => Nat.le_trans hq0 hq
  unfold mv_cop at hh
  split at hh
  · -- new
    split at hh
    · next ci nn rest =>
      simp only [mv_chkC] at hc
      split at hc
      · next heq =>
        cases heq
        simp only [Bool.and_eq_true, decide_eq_true_eq] at hc
        obtain ⟨rfl, hci, rfl, hl1, hl2, hl3⟩ := hc
        split at hh
        · next hg =>
          simp only [Bool.and_eq_true, Nat.ble_eq] at hg
          obtain ⟨h', h3, h4⟩ := aN _ _ _ _ _ hh
          have hfs : ∀ j, j < mv_nf ci → defaultValue (mv_ty ci j) = vp_V ((List.range (mv_nf ci)).map (mv_fv φ (mv_mk (vw h) ci 0) ci ((vw h).2.2.2 ci))) j := by
            intro j hj
            rw [mv_dflt ci hci j hj]
            unfold vp_V
            rw [List.getD_eq_getElem?_getD, List.getElem?_map, List.getElem?_range hj]
            show _ = mv_fv φ (mv_mk (vw h) ci 0) ci ((vw h).2.2.2 ci) j
            unfold mv_fv
            show _ = (match mv_isR ci j with
              | true => va_rf ((if ci = ci ∧ (vw h).2.2.2 ci = (vw h).2.2.2 ci then none else _).map _)
              | false => Value.int (if ci = ci ∧ (vw h).2.2.2 ci = (vw h).2.2.2 ci then 0 else _))
            rw [if_pos ⟨rfl, rfl⟩, if_pos ⟨rfl, rfl⟩]
            cases mv_isR ci j <;> rfl
          refine va_new hx hb hts (mv_wsin ci hci) (mv_ty ci) (mv_tyok ci hci) hown (hts _ (wAt_in hl1)) (hts _ (wAt_in hl2)) (hts _ (wAt_in hl3)) hK hP hDw hS hA0 (mv_clOf ci hci) hfs (Nat.le_trans hg.1 hR2) (Nat.le_trans hg.2 hR3) hd fun q H1 hP1 hD1 hS1 => ?_
          have he : mv_cell cI cQ (mv_phi φ ci ((vw h).2.2.2 ci) q) (mv_mk (vw h) ci 0) ci ((vw h).2.2.2 ci) = .inr (ci, (List.range (mv_nf ci)).map (mv_fv φ (mv_mk (vw h) ci 0) ci ((vw h).2.2.2 ci))) := by
            rw [mv_obj hci]
            have : mv_fv (mv_phi φ ci ((vw h).2.2.2 ci) q) (mv_mk (vw h) ci 0) ci ((vw h).2.2.2 ci) = mv_fv φ (mv_mk (vw h) ci 0) ci ((vw h).2.2.2 ci) := by
              funext j
              unfold mv_fv
              show (match mv_isR ci j with
                | true => va_rf ((if ci = ci ∧ (vw h).2.2.2 ci = (vw h).2.2.2 ci then none else _).map _)
                | false => _) = (match mv_isR ci j with
                | true => va_rf ((if ci = ci ∧ (vw h).2.2.2 ci = (vw h).2.2.2 ci then none else _).map _)
                | false => _)
              rw [if_pos ⟨rfl, rfl⟩]
              rfl
            rw [this]
          obtain ⟨hW1, hge⟩ := hW.new hcov (Or.inl (by omega)) hP1 hD1 he
          rw [← h4] at hW1 hge
          have h5 := kk _ _ _ _ _ H1 locs h3 hg.1 hg.2 (List.forall_mem_cons.mpr ⟨Or.inl (by rw [h4]; show (vw h).2.2.2 ci < if ci = ci then _ else _; rw [if_pos rfl]; omega), fun v hv' => (hv v hv').up hge⟩) hge hW1 hS1
          rw [List.map_cons, mv_live.sames hge hv] at h5
          have h6 : mv_v (mv_phi φ ci ((vw h).2.2.2 ci) q) (.inr (ci, (vw h).2.2.2 ci)) = .ref q := congrArg Value.ref (if_pos ⟨rfl, rfl⟩)
          rw [h6] at h5
          exact h5
        · cases hh
      · cases hc
    · cases hh
  · -- newarray
    split at hh
    · next t rest =>
      split at hh
      · next x st =>
        obtain ⟨-, hv1⟩ := List.forall_mem_cons.mp hv
        simp only [mv_chkC] at hc
        split at hc
        · next heq =>
          cases heq
          simp only [Bool.and_eq_true, decide_eq_true_eq] at hc
          obtain ⟨rfl, rfl, hia, hl1⟩ := hc
          split at hh
          · next hg1 =>
            have hg1 := Nat.ble_eq.mp hg1
            obtain ⟨hg, hh⟩ := mv_gd_some hh
            simp only [Bool.and_eq_true, Nat.ble_eq, Bool.not_eq_true', decide_eq_false_iff_not] at hg
            obtain ⟨h', h3, h4⟩ := aN _ _ _ _ _ hh
            refine va_newa hx hb (hts _ (wAt_in hl1)) rfl hK hP hDw hS hA0 (a0 := (x.toNatClampNeg, .inl (fun _ => 0))) (fun cA => rfl) hg.1 rfl (by show x.toNatClampNeg * componentBytes .int ≤ _; have : componentBytes .int = 4 := rfl; rw [this]; omega) (Nat.le_trans hg1 hR2) (Nat.le_trans hg.2.2 hR3) hd fun q cA H1 hK1 hP1 hD1 hS1 => ?_
            have hcA : cA = cI := by
              have e1 := (hK1.2 2 _ rfl).2
              have e2 := (hK.2 0 _ rfl).2
              exact Option.some.inj ((show s.vm.findClass _ = some cA from e1).symm.trans (show s.vm.findClass _ = some cI from e2))
            subst hcA
            have he : mv_cell cA cQ (mv_phi φ t ((vw h).2.2.2 t) q) (mv_mk (vw h) t x.toNatClampNeg) t ((vw h).2.2.2 t) = .inl (cA, x.toNatClampNeg, .inl (fun _ => 0)) := by
              rw [mv_ia_cell hia]
              have e1 : (mv_mk (vw h) t x.toNatClampNeg).2.2.1 t ((vw h).2.2.2 t) = x.toNatClampNeg := if_pos ⟨rfl, rfl⟩
              have e2 : (mv_mk (vw h) t x.toNatClampNeg).1 t ((vw h).2.2.2 t) = fun _ => 0 := funext fun _ => if_pos ⟨rfl, rfl⟩
              rw [e1, e2]
            obtain ⟨hW1, hge⟩ := hW.new hcov (Or.inr (mv_ia_big hia)) hP1 hD1 he
            rw [← h4] at hW1 hge
            have h5 := kk _ _ _ _ _ H1 locs h3 hg1 hg.2.2 (List.forall_mem_cons.mpr ⟨Or.inl (by rw [h4]; show (vw h).2.2.2 t < if t = t then _ else _; rw [if_pos rfl]; omega), fun v hv' => (hv1 v hv').up hge⟩) hge hW1 hS1
            rw [List.map_cons, mv_live.sames hge hv1] at h5
            have h6 : mv_v (mv_phi φ t ((vw h).2.2.2 t) q) (.inr (t, (vw h).2.2.2 t)) = .ref q := congrArg Value.ref (if_pos ⟨rfl, rfl⟩)
            rw [h6] at h5
            exact h5
          · cases hh
        · cases hc
      · cases hh
    · cases hh
  · -- anewarray
    split at hh
    · next t rest =>
      split at hh
      · next x st =>
        obtain ⟨-, hv1⟩ := List.forall_mem_cons.mp hv
        simp only [mv_chkC] at hc
        split at hc
        · next heq =>
          cases heq
          simp only [Bool.and_eq_true, decide_eq_true_eq] at hc
          obtain ⟨rfl, hra, hl1, hl2⟩ := hc
          split at hh
          · next hg1 =>
            have hg1 := Nat.ble_eq.mp hg1
            obtain ⟨hg, hh⟩ := mv_gd_some hh
            simp only [Bool.and_eq_true, Nat.ble_eq, Bool.not_eq_true', decide_eq_false_iff_not] at hg
            obtain ⟨h', h3, h4⟩ := aN _ _ _ _ _ hh
            refine va_newq hx hb hown (hts _ (wAt_in hl1)) (va_AO.of (hts _ (wAt_in hl2))) hK hP hDw hS hA0 hg.1 rfl (by omega) (Nat.le_trans hg1 hR2) (Nat.le_trans hg.2.2 hR3) hd fun q cA H1 hK1 hP1 hD1 hS1 => ?_
            have hcA : cA = cQ := by
              obtain ⟨_, _, -, -, -, e1⟩ := (hK1.2 2 _ rfl).2
              obtain ⟨_, _, -, -, -, e2⟩ := (hK.2 1 _ rfl).2
              exact Option.some.inj (e1.symm.trans e2)
            subst hcA
            have he : mv_cell cI cA (mv_phi φ t ((vw h).2.2.2 t) q) (mv_mk (vw h) t x.toNatClampNeg) t ((vw h).2.2.2 t) = .inl (cA, x.toNatClampNeg, .inr (.inr (.inr (.inr (fun _ => none))))) := by
              rw [mv_ra_cell hra]
              have e1 : (mv_mk (vw h) t x.toNatClampNeg).2.2.1 t ((vw h).2.2.2 t) = x.toNatClampNeg := if_pos ⟨rfl, rfl⟩
              have e2 : (fun k => ((mv_mk (vw h) t x.toNatClampNeg).2.1 t ((vw h).2.2.2 t) k).map fun z => mv_phi φ t ((vw h).2.2.2 t) q z.1 z.2) = fun _ => none := funext fun k => by
                show (if t = t ∧ (vw h).2.2.2 t = (vw h).2.2.2 t then none else _).map _ = _
                rw [if_pos ⟨rfl, rfl⟩]
                rfl
              rw [e1, e2]
            obtain ⟨hW1, hge⟩ := hW.new hcov (Or.inr (mv_ra_big hra)) hP1 hD1 he
            rw [← h4] at hW1 hge
            have h5 := kk _ _ _ _ _ H1 locs h3 hg1 hg.2.2 (List.forall_mem_cons.mpr ⟨Or.inl (by rw [h4]; show (vw h).2.2.2 t < if t = t then _ else _; rw [if_pos rfl]; omega), fun v hv' => (hv1 v hv').up hge⟩) hge hW1 hS1
            rw [List.map_cons, mv_live.sames hge hv1] at h5
            have h6 : mv_v (mv_phi φ t ((vw h).2.2.2 t) q) (.inr (t, (vw h).2.2.2 t)) = .ref q := congrArg Value.ref (if_pos ⟨rfl, rfl⟩)
            rw [h6] at h5
            exact h5
          · cases hh
        · cases hc
      · cases hh
    · cases hh
  · -- invokestatic
    split at hh
    · next j nn rest =>
      simp only [mv_chkC] at hc
      split at hh
      · next C1 f hC =>
        split at hc
        · next heq =>
          cases heq
          split at hc
          · next y bytes maxL ret ins hM =>
            simp only [Bool.and_eq_true, decide_eq_true_eq] at hc
            obtain ⟨rfl, hmax, hd1, hw2, hw3, hw4, hw1⟩ := hc
            obtain ⟨n', hn', hCal⟩ := hG _ _ _ hC hM
            obtain ⟨a, b, rfl, hlen, hh⟩ := mv_tk_some _ _ _ _ _ hh
            rw [List.append_nil] at hh
            split at hh
            · next hg =>
              simp only [Bool.and_eq_true, Nat.ble_eq] at hg
              refine mv_call (C := (C1, f)) (G := G) (i := .nop) (x := 0) (j := 0) (nn := 0) (len := 0) (lv := lv) hB' hφ hn' hCal hh hg.1 hg.2.1 hg.2.2 hv hls hW hS (fun vs h' q1 q2 q3 q4 => ?_) kk
              have hroom : (mv_rm n' C1.1 C1.2).frames + 1 ≤ R.frames ∧ 8 + (maxL + 11) + (mv_rm n' C1.1 C1.2).locals ≤ R.locals := ⟨Nat.le_trans hn' hR1, by show 8 + (maxL + 11) + 40 * (n' + 1) ≤ R.locals; omega⟩
              have hG2 := mv_WSgood (y, bytes, maxL, ret) (wAt_in hw4)
              have hstk : (F0 m pc ls ((a ++ b).map (mv_v φ))).stack = (a.reverse.map (mv_v φ)).reverse ++ b.map (mv_v φ) := by
                show (a ++ b).map (mv_v φ) = _
                rw [List.map_append, List.map_reverse, List.reverse_reverse]
              have hrest : 2 * (F0 m pc ls ((a ++ b).map (mv_v φ))).monitorRoom + ((b.map (mv_v φ)).map fun v => v.category).sum ≤ 8 := lv_room (by rw [mv_cats_eq]; exact hg.2.2)
              have hal : (a.reverse.map (mv_v φ)).length = nn := by rw [List.length_map, List.length_reverse]; exact hlen
              split at hw1
              · exact va_runS ⟨hx, hb, hml, hown, hts⟩ (q3 l D cI cQ q0 φ) (va_cwS nn hts (fun w hw => by
                  unfold va_wsS at hw
                  rcases List.mem_append.mp hw with hw | hw
                  · simp only [List.mem_cons, List.not_mem_nil, or_false] at hw
                    rcases hw with rfl | rfl | rfl
                    · exact ⟨wAt_in hw1, WS_good (wAt_in hw1)⟩
                    · exact ⟨wAt_in hw2, WS_good (wAt_in hw2)⟩
                    · exact ⟨wAt_in hw3, WS_good (wAt_in hw3)⟩
                  · exact hG2 w hw) rfl rfl rfl hd1 hroom) ⟨mv_blind, q4⟩ rfl hal hls hstk hrest hd ⟨Nat.le_trans hg.1 hR2, Nat.le_trans hg.2.1 hR3⟩
              · exact va_runSN (host := "IntentVats") ⟨hx, hb, hml, hown, hts⟩ (q3 l D cI cQ q0 φ) ⟨va_cnB nn hts hG2 rfl rfl rfl (hE.2.2.2.2.2.2.1 _ (of_decide_eq_true hw1)) (hts _ (wAt_in hw3)) hd1 hroom, hts _ (wAt_in hw2), trivial⟩ ⟨mv_blind, q4⟩ rfl hal hls hstk hrest hd ⟨Nat.le_trans hg.1 hR2, Nat.le_trans hg.2.1 hR3⟩
            · cases hh
          · cases hc
        all_goals first | (next heq => cases heq) | cases hc
      · cases hh
    · -- max
      simp only [mv_chkC] at hc
      split at hh
      · next y x st =>
        obtain ⟨-, hv1⟩ := List.forall_mem_cons.mp hv
        obtain ⟨-, hv2⟩ := List.forall_mem_cons.mp hv1
        split at hc
        · next heq => cases heq
        · next heq =>
          cases heq
          simp only [Bool.and_eq_true, decide_eq_true_eq] at hc
          obtain ⟨rfl, hw1, hw2, hw3, hw4⟩ := hc
          split at hh
          · next hg =>
            have hg := Nat.ble_eq.mp hg
            exact va_mmax hx hb (hml.trans hls.symm) hown (hts _ (wAt_in hw1)) (hts _ (wAt_in hw2)) (hts _ (wAt_in hw3)) (hts _ (wAt_in hw4)) (Nat.le_trans hn1 hR1) (by rw [mv_cats_eq]; omega) (Nat.le_trans hce hR2) (Nat.le_trans hsl hR3) hd (kk _ _ _ _ φ H locs hh hce hsl (List.forall_mem_cons.mpr ⟨trivial, hv2⟩) mv_ge.rf hW hS)
          · cases hh
        all_goals first | (next heq => cases heq) | cases hc
      · cases hh
    · -- min
      simp only [mv_chkC] at hc
      split at hh
      · next y x st =>
        obtain ⟨-, hv1⟩ := List.forall_mem_cons.mp hv
        obtain ⟨-, hv2⟩ := List.forall_mem_cons.mp hv1
        split at hc
        · next heq => cases heq
        · next heq => cases heq
        · next heq =>
          cases heq
          simp only [Bool.and_eq_true, decide_eq_true_eq] at hc
          obtain ⟨rfl, hw1, hw2, hw3, hw4⟩ := hc
          split at hh
          · next hg =>
            have hg := Nat.ble_eq.mp hg
            exact va_mmin hx hb (hml.trans hls.symm) hown (hts _ (wAt_in hw1)) (hts _ (wAt_in hw2)) (hts _ (wAt_in hw3)) (hts _ (wAt_in hw4)) (Nat.le_trans hn1 hR1) (by rw [mv_cats_eq]; omega) (Nat.le_trans hce hR2) (Nat.le_trans hsl hR3) hd (kk _ _ _ _ φ H locs hh hce hsl (List.forall_mem_cons.mpr ⟨trivial, hv2⟩) mv_ge.rf hW hS)
          · cases hh
        all_goals first | (next heq => cases heq) | cases hc
      · cases hh
    · -- abs
      simp only [mv_chkC] at hc
      split at hh
      · next x st =>
        obtain ⟨-, hv1⟩ := List.forall_mem_cons.mp hv
        split at hc
        · next heq => cases heq
        · next heq => cases heq
        · next heq => cases heq
        · next heq =>
          cases heq
          simp only [Bool.and_eq_true, decide_eq_true_eq] at hc
          obtain ⟨rfl, hw1, hw2, hw3, hw4⟩ := hc
          split at hh
          · next hg =>
            have hg := Nat.ble_eq.mp hg
            exact va_mabs hx hb (hml.trans hls.symm) hown (hts _ (wAt_in hw1)) (hts _ (wAt_in hw2)) (hts _ (wAt_in hw3)) (hts _ (wAt_in hw4)) (Nat.le_trans hn1 hR1) (by rw [mv_cats_eq]; omega) (Nat.le_trans hce hR2) (Nat.le_trans hsl hR3) hd (kk _ _ _ _ φ H locs hh hce hsl (List.forall_mem_cons.mpr ⟨trivial, hv1⟩) mv_ge.rf hW hS)
          · cases hh
        all_goals first | (next heq => cases heq) | cases hc
      · cases hh
    · -- arraycopy
      simp only [mv_chkC] at hc
      split at hh
      · next x dp t' o' sp t o st =>
        obtain ⟨-, hv1⟩ := List.forall_mem_cons.mp hv
        obtain ⟨-, hv2⟩ := List.forall_mem_cons.mp hv1
        obtain ⟨hvd, hv3⟩ := List.forall_mem_cons.mp hv2
        obtain ⟨-, hv4⟩ := List.forall_mem_cons.mp hv3
        obtain ⟨hvs, hv5⟩ := List.forall_mem_cons.mp hv4
        split at hc
        · next heq => cases heq
        · next heq => cases heq
        · next heq => cases heq
        · next heq => cases heq
        · next heq =>
          cases heq
          simp only [Bool.and_eq_true, decide_eq_true_eq] at hc
          obtain ⟨rfl, hw1, hw2, hw3, hw4⟩ := hc
          split at hh
          · next hg1 =>
            simp only [Bool.and_eq_true, Nat.ble_eq] at hg1
            obtain ⟨htt, hia, hcat⟩ := hg1
            have htt := Nat.eq_of_beq_eq_true htt
            subst htt
            obtain ⟨hg, hh2⟩ := mv_gd_some hh
            simp only [Bool.and_eq_true, Nat.ble_eq, Bool.not_eq_true', decide_eq_false_iff_not, decide_eq_true_eq] at hg
            obtain ⟨rfl, rfl, hn0, hle1, hle2⟩ := hg
            rw [aL] at hle1 hle2
            have hlo := hvs.int (Or.inr (mv_ia_big hia))
            have hld := hvd.int (Or.inr (mv_ia_big hia))
            obtain ⟨p0, hp0⟩ := hcov t o hlo
            obtain ⟨p1, hp1⟩ := hcov t o' hld
            rw [mv_ia_cell hia] at hp0 hp1
            have h4 := aC h t o o' x.toNatClampNeg 0
            have e0 : (nI 0).toNatClampNeg = 0 := nI_clamp (by decide)
            have hnat : nativeFrameWords "java/lang/System" "arraycopy" 5 + 11 ≤ 32 := by decide
            refine va_copyi hx hb (hml.trans hls.symm) hown (hts _ (wAt_in hw1)) (hts _ (wAt_in hw2)) (hts _ (wAt_in hw3)) (hts _ (wAt_in hw4)) hK hP hDw hS p0 p1 0 0 hp0 hp1 rfl rfl rfl (nI_pos (by decide)) (nI_pos (by decide)) hn0 (by rw [e0]; omega) (by rw [e0]; omega) (fun _ _ => rfl) (Nat.le_trans hn1 hR1) (by rw [mv_cats_eq]; omega) hd fun H1 locs1 hP1 _ hS1 => ?_
            refine kk _ _ _ _ φ H1 locs1 hh2 hce hsl (fun v hv' => (hv5 v hv').cnt (by rw [h4]; rfl)) ⟨fun _ _ _ => rfl, fun _ _ _ _ => rfl, fun _ => by rw [h4]; exact Nat.le_refl _⟩ (hW.set hcov hp1 hld hP1 ?_ (fun t2 o2 _ hne => ?_) (by rw [h4]; rfl) ?_) hS1
            · rw [mv_ia_cell hia, h4, e0]
              have : (mv_setC (vw h) t o o' x.toNatClampNeg).1 t o' = va_cpy ((vw h).1 t o) ((vw h).1 t o') 0 0 x.toNatClampNeg := by
                funext j
                show (if t = t ∧ o' = o' ∧ j < x.toNatClampNeg then (vw h).1 t o j else (vw h).1 t o' j) = _
                unfold va_cpy
                by_cases hj : j < x.toNatClampNeg
                · rw [if_pos ⟨rfl, rfl, hj⟩, if_pos ⟨Nat.zero_le _, by omega⟩, Nat.zero_add, Nat.sub_zero]
                · rw [if_neg (fun z => hj z.2.2), if_neg (fun z => hj (by omega))]
              rw [this]
              rfl
            · rw [h4]
              refine mv_cell_congr (fun k => ?_) (fun _ => rfl) rfl
              show (if t2 = t ∧ o2 = o' ∧ k < x.toNatClampNeg then (vw h).1 t o k else (vw h).1 t2 o2 k) = _
              rw [if_neg (fun z => hne ⟨z.1, z.2.1⟩)]
            · intro t1 o1 k1 z hlt hz
              rw [h4] at hz
              exact hW.2.2.2.1 _ _ _ _ hlt hz
          · cases hh
        all_goals first | (next heq => cases heq) | cases hc
      · cases hh
    · cases hh
  · -- invokevirtual
    split at hh
    · next j nn rest =>
      simp only [mv_chkC] at hc
      split at hh
      · next C1 f hC =>
        split at hc
        · next heq =>
          cases heq
          split at hc
          · next y bytes maxL ret ins hM =>
            simp only [Bool.and_eq_true, decide_eq_true_eq] at hc
            obtain ⟨rfl, hins, hmax, ⟨hd1, hd2, hd3⟩, hw2, hw3, hw4, hw5, hw1⟩ := hc
            obtain ⟨n', hn', hCal⟩ := hG _ _ _ hC hM
            obtain ⟨a, b, rfl, hlen, hh⟩ := mv_tk_some _ _ _ _ _ hh
            rw [List.append_nil] at hh
            split at hh
            · next hg =>
              simp only [Bool.and_eq_true, Nat.ble_eq] at hg
              refine mv_call (C := (C1, f)) (G := G) (i := .nop) (x := 0) (j := 0) (nn := 0) (len := 0) (lv := lv) hB' hφ hn' hCal hh hg.1 hg.2.1 hg.2.2 hv hls hW hS (fun vs h' q1 q2 q3 q4 => ?_) kk
              obtain ⟨t, o, As, hAs, hcls⟩ := q2 hins
              have ha : a = As.reverse ++ [.inr (t, o)] := by rw [← List.reverse_reverse a, hAs, List.reverse_cons]
              have hro : mv_live (vw h) (.inr (t, o)) := hv _ (List.mem_append_left _ (by rw [ha]; simp))
              have hroom : (mv_rm n' C1.1 C1.2).frames + 1 ≤ R.frames ∧ 8 + (maxL + 11) + (mv_rm n' C1.1 C1.2).locals ≤ R.locals := ⟨Nat.le_trans hn' hR1, by show 8 + (maxL + 11) + 40 * (n' + 1) ≤ R.locals; omega⟩
              have hG2 := mv_WSgood (y, bytes, maxL, ret) (wAt_in hw4)
              have hstk : (F0 m pc ls ((a ++ b).map (mv_v φ))).stack = (As.map (mv_v φ)).reverse ++ .ref (φ t o) :: b.map (mv_v φ) := by
                show (a ++ b).map (mv_v φ) = _
                rw [ha, List.map_append, List.map_append, List.map_reverse, List.append_assoc]
                rfl
              have hrest : 2 * (F0 m pc ls ((a ++ b).map (mv_v φ))).monitorRoom + ((b.map (mv_v φ)).map fun v => v.category).sum ≤ 8 := lv_room (by rw [mv_cats_eq]; exact hg.2.2)
              have hal : As.length + 1 = nn := by
                have e3 := congrArg List.length hAs
                rw [List.length_reverse, List.length_cons] at e3
                omega
              have hd4 : (parseMethodDescriptor y.desc).map (fun d => d.parameters.length) = some (As.length) := by
                obtain ⟨sig, e1, e2⟩ := Option.map_eq_some_iff.mp hd3
                rw [e1]
                exact congrArg some (show sig.parameters.length = As.length by have e3 : sig.parameters.length + 1 = nn := e2; omega)
              have hrcv : ∃ cellB : Cell, H[φ t o]? = some cellB ∧ cellB.vm.isStatics = false ∧ s.vm.findClass y.cls = some cellB.cls := by
                rcases hcls with ⟨ht, hc9⟩ | ⟨rfl, hc9⟩
                · have hlo := hro.int (Or.inl (by omega))
                  have hat := hW.1 t o hlo
                  rw [mv_obj ht] at hat
                  rw [show y.cls = mv_R t from hc9]
                  exact va_recv hK (mv_single hat) (mv_clOf t ht) (q0 := 0) rfl
                · have ho : o < 36 := by
                    rcases hro with hro | hro
                    · have hz := hW.2.2.2.2.2 11 (by decide) (by decide)
                      change o < (vw h).2.2.2 11 at hro
                      omega
                    · exact hro.2.2 (Or.inl rfl)
                  obtain ⟨cell, h1, h2, h3, h4⟩ := (hE.2.1 o ho).1
                  rw [hφ 11 o (by decide) (by decide), show y.cls = "java/lang/String" from hc9]
                  exact ⟨cell, by rw [hS.2.1 _ (Array.getElem?_eq_some_iff.mp h1).1 h4]; exact h1, h2, h3⟩
              rw [hAs, List.map_cons] at q4
              have q3' := q3 l D cI cQ q0 φ
              rw [hAs, List.map_cons] at q3'
              exact va_runV (C := y.cls) ⟨hx, hb, hml, hown, hts⟩ q3' (cwV As.length hts (fun w hw => by
                  unfold wsV at hw
                  rcases List.mem_append.mp hw with hw | hw
                  · simp only [List.mem_cons, List.not_mem_nil, or_false] at hw
                    rcases hw with rfl | rfl | rfl | rfl
                    · exact ⟨wAt_in hw1, WS_good (wAt_in hw1)⟩
                    · exact ⟨wAt_in hw2, WS_good (wAt_in hw2)⟩
                    · exact ⟨wAt_in hw5, WS_good (wAt_in hw5)⟩
                    · exact ⟨wAt_in hw3, WS_good (wAt_in hw3)⟩
                  · exact hG2 w hw) rfl rfl rfl ⟨rfl, hd1, hd2, hd4⟩ hroom) ⟨by have hbl := mv_blind (φ := φ) (q0 := q0) (D := D) (cI := cI) (cQ := cQ) (as := a.reverse) (g := vw h); rw [hAs, List.map_cons] at hbl; exact hbl, hrcv, q4⟩ rfl (List.length_map _) hls hstk hrest hd ⟨Nat.le_trans hg.1 hR2, Nat.le_trans hg.2.1 hR3⟩
            · cases hh
          · cases hc
        all_goals first | (next heq => cases heq) | cases hc
      · cases hh
    · simp only [mv_chkC] at hc
      cases hc
    · cases hh
  · -- invokespecial
    split at hh
    · next j nn rest =>
      simp only [mv_chkC] at hc
      split at hh
      · next C1 f hC =>
        split at hc
        · next heq =>
          cases heq
          split at hc
          · next y bytes maxL ret ins hM =>
            simp only [Bool.and_eq_true, decide_eq_true_eq] at hc
            obtain ⟨rfl, hins, rfl, hnm2, hmax, ⟨hd1, hd2, hd3⟩, hw2, hw3, hw4, hw1⟩ := hc
            obtain ⟨n', hn', hCal⟩ := hG _ _ _ hC hM
            obtain ⟨a, b, rfl, hlen, hh⟩ := mv_tk_some _ _ _ _ _ hh
            rw [List.append_nil] at hh
            split at hh
            · next hg =>
              simp only [Bool.and_eq_true, Nat.ble_eq] at hg
              refine mv_call (C := (C1, f)) (G := G) (i := .nop) (x := 0) (j := 0) (nn := 0) (len := 0) (lv := lv) hB' hφ hn' hCal hh hg.1 hg.2.1 hg.2.2 hv hls hW hS (fun vs h' q1 q2 q3 q4 => ?_) kk
              obtain ⟨t, o, As, hAs, hcls⟩ := q2 hins
              have ha : a = As.reverse ++ [.inr (t, o)] := by rw [← List.reverse_reverse a, hAs, List.reverse_cons]
              have hroom : (mv_rm n' C1.1 C1.2).frames + 1 ≤ R.frames ∧ 8 + (maxL + 11) + (mv_rm n' C1.1 C1.2).locals ≤ R.locals := ⟨Nat.le_trans hn' hR1, by show 8 + (maxL + 11) + 40 * (n' + 1) ≤ R.locals; omega⟩
              have hG2 := mv_WSgood (y, bytes, maxL, none) (wAt_in hw4)
              have hstk : (F0 m pc ls ((a ++ b).map (mv_v φ))).stack = (As.map (mv_v φ)).reverse ++ .ref (φ t o) :: b.map (mv_v φ) := by
                show (a ++ b).map (mv_v φ) = _
                rw [ha, List.map_append, List.map_append, List.map_reverse, List.append_assoc]
                rfl
              have hrest : 2 * (F0 m pc ls ((a ++ b).map (mv_v φ))).monitorRoom + ((b.map (mv_v φ)).map fun v => v.category).sum ≤ 8 := lv_room (by rw [mv_cats_eq]; exact hg.2.2)
              have hal : As.length + 1 = nn := by
                have e3 := congrArg List.length hAs
                rw [List.length_reverse, List.length_cons] at e3
                omega
              have hd4 : (parseMethodDescriptor y.desc).map (fun d => d.parameters.length) = some (As.length) := by
                obtain ⟨sig, e1, e2⟩ := Option.map_eq_some_iff.mp hd3
                rw [e1]
                exact congrArg some (show sig.parameters.length = As.length by have e3 : sig.parameters.length + 1 = nn := e2; omega)
              rw [hAs, List.map_cons] at q4
              have q3' := q3 l D cI cQ q0 φ
              rw [hAs, List.map_cons] at q3'
              have hbl := mv_blind (φ := φ) (q0 := q0) (D := D) (cI := cI) (cQ := cQ) (as := a.reverse) (g := vw h)
              rw [hAs, List.map_cons] at hbl
              split at hw1
              · have hcb : CallB R s args md.1.cls _ y bytes maxL none (.code y bytes maxL none :: WS) (mv_rm n' C1.1 C1.2) C1.1 C1.2 As.length := callB_of As.length hts hG2 rfl rfl rfl (hts _ (wAt_in hw3)) (hts _ (wAt_in hw1)) ⟨hd1, hd2, hd4⟩ hroom
                exact va_runI ⟨hx, hb, hml, hown, hts⟩ q3' ⟨hcb, hnm2, hts _ (wAt_in hw2)⟩ ⟨hbl, q4⟩ rfl (List.length_map _) hls hstk hrest hd ⟨Nat.le_trans hg.1 hR2, Nat.le_trans hg.2.1 hR3⟩
              · exact va_runIN (host := "IntentVats") ⟨hx, hb, hml, hown, hts⟩ q3' ⟨va_cnB As.length hts hG2 rfl rfl rfl (hE.2.2.2.2.2.2.1 _ (of_decide_eq_true hw1)) (hts _ (wAt_in hw3)) ⟨hd1, hd2, hd4⟩ hroom, hnm2, hts _ (wAt_in hw2)⟩ ⟨hbl, q4⟩ rfl (List.length_map _) hls hstk hrest hd ⟨Nat.le_trans hg.1 hR2, Nat.le_trans hg.2.1 hR3⟩
            · cases hh
          · cases hc
        all_goals first | (next heq => cases heq) | cases hc
      · cases hh
    · -- Object()
      split at hh
      · next q st =>
        obtain ⟨-, hv1⟩ := List.forall_mem_cons.mp hv
        simp only [mv_chkC] at hc
        split at hc
        · next heq => cases heq
        · next heq =>
          cases heq
          simp only [Bool.and_eq_true, decide_eq_true_eq] at hc
          obtain ⟨rfl, hw1, hw2, hw3⟩ := hc
          split at hh
          · next hg =>
            have hg := Nat.ble_eq.mp hg
            exact W.objInit hx hb hown (hts _ (wAt_in hw1)) (hts _ (wAt_in hw2)) (hts _ (wAt_in hw3)) (g := F0 m pc ls _) rfl (hls.trans hml.symm) rfl hd (Nat.le_trans hn1 hR1) (by rw [mv_cats_eq]; show 2 * 0 + _ + 12 ≤ _; omega) (kk _ _ _ _ φ H locs hh hce hsl hv1 mv_ge.rf hW hS)
          · cases hh
        · cases hc
      · cases hh
    · cases hh
  · cases hh
end
end
section
-- ===== one instruction, a stretch of code, a method =====
theorem mv_nar0 : narrow .boolean (.int (nI 0)) = .int (nI 0) := by decide +kernel
theorem mv_nar1 : narrow .boolean (.int (nI 1)) = .int (nI 1) := by decide +kernel
theorem mv_narN : ∀ n, n < 128 → narrow .byte (.int (nI n)) = .int (nI n) ∧ narrow .char (.int (nI n)) = .int (nI n) := by decide +kernel
theorem mv_nar127 {x : Int32} (h1 : 0 ≤ x) (h2 : x ≤ 127) : narrow .byte (.int x) = .int x ∧ narrow .char (.int x) = .int x := by
  have e1 : (0 : Int) ≤ x.toInt := Int32.le_iff_toInt_le.mp h1
  have e2 : x.toInt ≤ 127 := Int32.le_iff_toInt_le.mp h2
  have e3 : x = nI x.toInt.toNat := Int32.toInt_inj.mp (by rw [nI_toInt (by omega)]; omega)
  rw [e3]
  exact mv_narN _ (by omega)
def mv_tgts (pc : Nat) : List Int → List Nat → Bool
  | [], [] => true
  | o :: os, t :: ts => decide ((pc : Int) + o = (t : Int)) && mv_tgts pc os ts
  | _, _ => false
def mv_prs (pc : Nat) : List (Int × Int) → List Nat → Bool
  | [], [] => true
  | q :: ps, k :: t :: l => decide (q.1 = (k : Int)) && (decide (k < 2 ^ 31) && (decide ((pc : Int) + q.2 = (t : Int)) && mv_prs pc ps l))
  | _, _ => false
def mv_chk (md : mv_MD) (Ms : List (mv_MD × Bool)) (pc : Nat) (i : Instr) (len : Nat) (lk : List Nat) : Bool := match i with
  | .getfield _ | .putfield _ | .iaload | .iastore | .aaload | .aastore | .arraylength | .baload | .getstatic _ => mv_chkH md.1.cls md.1.name i len lk
  | .invokestatic _ | .invokevirtual _ | .invokespecial _ | .new _ | .newarray _ | .anewarray _ => mv_chkC md.1.cls Ms i len lk
  | .goto off => (match lk with
    | t :: _ => decide (len = 3) && decide ((pc : Int) + off = (t : Int))
    | _ => false)
  | .ifCond _ off => (match lk with
    | t :: _ => decide (len = 3) && decide ((pc : Int) + off = (t : Int))
    | _ => false)
  | .if_icmp _ off => (match lk with
    | t :: _ => decide (len = 3) && decide ((pc : Int) + off = (t : Int))
    | _ => false)
  | .ifnull off => (match lk with
    | t :: _ => decide (len = 3) && decide ((pc : Int) + off = (t : Int))
    | _ => false)
  | .ifnonnull off => (match lk with
    | t :: _ => decide (len = 3) && decide ((pc : Int) + off = (t : Int))
    | _ => false)
  | .tableswitch d lo hi offs => (match lk with
    | lo' :: d' :: l => decide (lo = (lo' : Int)) && (decide (hi + 1 = (lo' + l.length : Nat)) && (decide (lo' + l.length < 2 ^ 31) && (decide ((pc : Int) + d = (d' : Int)) && mv_tgts pc offs.toList l)))
    | _ => false)
  | .lookupswitch d ps => (match lk with
    | d' :: l => decide ((pc : Int) + d = (d' : Int)) && ((ps.toList.zip (ps.toList.drop 1)).all (fun (a, next) => a.1 < next.1) && mv_prs pc ps.toList l)
    | _ => false)
  | .ireturn => (match lk with
    | 1 :: _ => decide (len = 1) && decide (md.2.2.2 = some .boolean)
    | 2 :: _ => decide (len = 1) && (decide (md.2.2.2 = some .byte) || decide (md.2.2.2 = some .char))
    | _ => decide (len = 1) && decide (md.2.2.2 = some .int))
  | .lreturn => decide (len = 1) && decide (md.2.2.2 = some .long)
  | .areturn => decide (len = 1) && (match md.2.2.2 with
    | some (.object _) => true
    | _ => false)
  | .return_ => decide (len = 1) && decide (md.2.2.2 = none)
  | i => mv_chkL md.2.2.1 md.1.cls i len lk
theorem mv_tgts_get {pc : Nat} : ∀ {os : List Int} {ts : List Nat}, mv_tgts pc os ts = true → ∀ (k : Nat) (t : Nat), ts[k]? = some t → ∃ o, os[k]? = some o ∧ (pc : Int) + o = (t : Int)
  | [], [], _, k, t, h => by simp at h
  | [], _ :: _, h, _, _, _ => by cases h
  | _ :: _, [], h, _, _, _ => by cases h
  | o :: os, t :: ts, h, k, t', hk => by
    simp only [mv_tgts, Bool.and_eq_true, decide_eq_true_eq] at h
    cases k with
    | zero =>
      rw [List.getElem?_cons_zero] at hk
      cases hk
      exact ⟨o, rfl, h.1⟩
    | succ k =>
      rw [List.getElem?_cons_succ] at hk
      obtain ⟨o', h1, h2⟩ := mv_tgts_get h.2 k t' hk
      exact ⟨o', by rw [List.getElem?_cons_succ]; exact h1, h2⟩
theorem mv_ts_some {α : Type} {x : Int32} {d : α} {f : Nat → α} : ∀ {l : List Nat} {lo : Nat} {r : α}, mv_ts x lo d f l = r → (∃ (k t : Nat), l[k]? = some t ∧ x = nI (lo + k) ∧ f t = r) ∨ ((∀ k, k < l.length → ¬ x = nI (lo + k)) ∧ d = r)
  | [], lo, r, h => Or.inr ⟨fun k hk => by simp at hk, h⟩
  | t :: l, lo, r, h => by
    unfold mv_ts at h
    split at h
    · next e => exact Or.inl ⟨0, t, rfl, e, h⟩
    · next e =>
      rcases mv_ts_some h with ⟨k, t', h1, h2, h3⟩ | ⟨h1, h2⟩
      · exact Or.inl ⟨k + 1, t', by rw [List.getElem?_cons_succ]; exact h1, by rw [h2]; congr 1; omega, h3⟩
      · refine Or.inr ⟨fun k hk => ?_, h2⟩
        cases k with
        | zero => exact e
        | succ k =>
          have := h1 k (by simpa using hk)
          rw [show lo + (k + 1) = lo + 1 + k by omega]
          exact this
theorem mv_of_toInt {x : Int32} {n : Nat} (hn : n < 2 ^ 31) (h : x.toInt = (n : Int)) : x = nI n := Int32.toInt_inj.mp (h.trans (nI_toInt hn).symm)
theorem mv_ls_some {α : Type} {pc : Nat} {x : Int32} {d : α} {f : Nat → α} : ∀ {ps : List (Int × Int)} {l : List Nat} {r : α} {dd : Int}, mv_prs pc ps l = true → mv_ls x d f l = r → (∃ (o : Int) (t : Nat), Op.lookupswitch.offset ps dd x.toInt = o ∧ (pc : Int) + o = (t : Int) ∧ f t = r) ∨ (Op.lookupswitch.offset ps dd x.toInt = dd ∧ d = r)
  | [], [], r, dd, _, h => Or.inr ⟨rfl, h⟩
  | [], _ :: _, _, _, h, _ => by cases h
  | _ :: _, [], _, _, h, _ => by cases h
  | _ :: _, [_], _, _, h, _ => by cases h
  | (a, o) :: ps, k :: t :: l, r, dd, h, hh => by
    simp only [mv_prs, Bool.and_eq_true, decide_eq_true_eq] at h
    obtain ⟨h1, h2, h3, h4⟩ := h
    unfold mv_ls at hh
    rw [Op.lookupswitch.offset_cons]
    split at hh
    · next e =>
      subst e
      exact Or.inl ⟨o, t, by rw [if_pos (h1.trans (nI_toInt h2).symm)], h3, hh⟩
    · next e =>
      have hne : ¬ a = x.toInt := fun z => e (mv_of_toInt h2 (z.symm.trans h1))
      rw [if_neg hne]
      exact mv_ls_some h4 hh
section
variable {Hp : Type} {rI : Hp → Nat → Nat → Nat → Int32} {rR : Hp → Nat → Nat → Nat → (Option (Nat × Nat) → Option (List mv_V × Hp)) → Option (List mv_V × Hp)} {ln : Hp → Nat → Nat → Nat} {wI : Hp → Nat → Nat → Nat → Int32 → Hp} {wR : Hp → Nat → Nat → Nat → Option (Nat × Nat) → (Hp → Option (List mv_V × Hp)) → Option (List mv_V × Hp)} {nw : Hp → Nat → Nat → (Nat → Hp → Option (List mv_V × Hp)) → Option (List mv_V × Hp)} {cp : Hp → Nat → Nat → Nat → Nat → Nat → Hp} {vw : Hp → mv_G}
variable {p : Program} {l : Launch} {e : Env} {R : Room} {s : State} {m : MethodId} {args : Array Value} {below : List Frame} {meth : Method} {c : Code} {φ0 : Nat → Nat → Nat} {md : mv_MD} {n MC MS : Nat} {sc : Option (Nat × (Nat → Int32))} {D : va_G} {cI cQ : ClassId} {q0 : Nat} {g0 : mv_G} {res : List mv_V × Hp} {Qf : State → Prop}
theorem mv_chk_lop {Ms : List (mv_MD × Bool)} {i : Instr} {pc len : Nat} {lk : List Nat} {lv : mv_L} {st : List mv_V} {k : mv_L → List mv_V → Option (List mv_V × Hp)} (h : mv_lop i lk lv st k = some res) (hc : mv_chk md Ms pc i len lk = true) : mv_chkL md.2.2.1 md.1.cls i len lk = true := by
  unfold mv_lop at h
  split at h <;> first | exact hc | (unfold mv_op at h; split at h <;> first | exact hc | cases h)
theorem mv_fv1 {α : Type} {P : α → Prop} {a : α} {l : List α} (h : ∀ v ∈ a :: l, P v) : ∀ v ∈ l, P v := (List.forall_mem_cons.mp h).2
set_option maxHeartbeats 8000000 in
theorem mv_step_sound (hA : mv_Ax rI rR ln wI wR nw cp vw) (hB : mv_B md n MC MS sc p R s m args meth c D cI cQ q0 φ0) (hRet : mv_Ret vw md MC MS g0 res p l e R s m args below meth c D cI cQ q0 φ0 Qf) {G : List (mv_C Hp)} {Ms : List (mv_MD × Bool)} (hG : ∀ j C md', mv_nth j G = some C → mv_nth j Ms = some md' → ∃ n', n' + 1 ≤ n ∧ mv_Cal vw n' md' C) (hn1 : 1 ≤ n)
    {i : Instr} {pc len : Nat} {lk : List Nat} (hd : decode md.2.1 pc = .ok (i, len)) (hc : mv_chk md Ms pc i len lk = true)
    {nx : mv_L → List mv_V → Hp → Nat → Nat → Option (List mv_V × Hp)} {jp : Nat → mv_L → List mv_V → Hp → Nat → Nat → Option (List mv_V × Hp)}
    (hnx : ∀ lv st h ce sl, nx lv st h ce sl = some res → mv_Y vw md MC MS g0 p l e R s m args below meth c D cI cQ q0 φ0 Qf (pc + len) lv st h ce sl)
    (hjp : ∀ t lv st h ce sl, jp t lv st h ce sl = some res → mv_Y vw md MC MS g0 p l e R s m args below meth c D cI cQ q0 φ0 Qf t lv st h ce sl)
    {lv : mv_L} {st : List mv_V} {h : Hp} {ce sl : Nat} (hh : mv_step rI rR ln wI wR nw cp bod sc G MC MS nx jp i lk lv st h ce sl = some res) : mv_Y vw md MC MS g0 p l e R s m args below meth c D cI cQ q0 φ0 Qf pc lv st h ce sl := by
  intro hce hsl hv hvl φ H locs ls hge hW hS hl
  have hB' := hB
  obtain ⟨hx, hb, hml, hown, hnm, hts, hK, hq0, hR, hE, hScr⟩ := hB'
  have hφ := hge.2.1
  have hH : mv_chkH md.1.cls md.1.name i len lk = true → mv_hop rI rR ln wI wR bod sc i lk st h (fun st h => nx lv st h ce sl) = some res → W p l e R s m args below meth c H locs ce sl Qf (F0 m pc ls (st.map (mv_v φ))) := by
    intro hc hh
    refine mv_hop_sound hA hB hφ hd hc hh hv hW hS fun st' h' H' locs' k1 k2 k3 k4 k5 => ?_
    refine hnx _ _ _ _ _ k1 hce hsl k2 (fun q hq => (hvl q hq).cnt k3) φ H' locs' ls ⟨hge.1, hge.2.1, fun t => ?_⟩ k4 k5 hl
    rw [k3]; exact hge.2.2 t
  have hC : mv_chkC md.1.cls Ms i len lk = true → mv_cop ln nw cp G MC MS i lk lv st h ce sl (fun st h ce sl => nx lv st h ce sl) = some res → W p l e R s m args below meth c H locs ce sl Qf (F0 m pc ls (st.map (mv_v φ))) := by
    intro hc hh
    refine mv_cop_sound hA hB hφ hG hn1 hd hc hh hce hsl hv hl.1 hW hS fun st' h' ce' sl' φ' H' locs' k1 k2 k3 k4 k5 k6 k7 => ?_
    exact hnx _ _ _ _ _ k1 k2 k3 k4 (fun q hq => (hvl q hq).up k5) φ' H' locs' ls (hge.trans k5) k6 k7 (by rw [mv_live.samel k5 hvl]; exact hl)
  have hLo : mv_chkL md.2.2.1 md.1.cls i len lk = true → mv_lop i lk lv st (fun lv st => nx lv st h ce sl) = some res → W p l e R s m args below meth c H locs ce sl Qf (F0 m pc ls (st.map (mv_v φ))) := by
    intro hc hh
    refine mv_lop_sound hx hb hown hts (fun k o idx tx hk => ?_) hd hc hh hl hv hvl fun lv' st' ls' k1 k2 k3 k4 => ?_
    · rw [hφ 11 k (by decide) (by decide)]; exact hE.1 k o idx tx hk
    · exact hnx _ _ _ _ _ k1 hce hsl k2 k3 φ H locs ls' hge hW hS k4
  unfold mv_step at hh
  split at hh
  · exact hH hc hh
  · exact hH hc hh
  · exact hH hc hh
  · exact hH hc hh
  · exact hH hc hh
  · exact hH hc hh
  · exact hH hc hh
  · exact hH hc hh
  · exact hH hc hh
  · exact hC hc hh
  · exact hC hc hh
  · exact hC hc hh
  · exact hC hc hh
  · exact hC hc hh
  · exact hC hc hh
  · -- goto
    split at hh
    · simp only [mv_chk, Bool.and_eq_true, decide_eq_true_eq] at hc
      obtain ⟨rfl, ht⟩ := hc
      exact lv_goto hx hb hd ht (hjp _ _ _ _ _ _ hh hce hsl hv hvl φ H locs ls hge hW hS hl)
    · cases hh
  · -- ifCond
    split at hh
    · next t tl =>
      simp only [mv_chk, Bool.and_eq_true, decide_eq_true_eq] at hc
      obtain ⟨rfl, ht⟩ := hc
      split at hh
      · next x st =>
        have hJ := fun (z : jp t lv st h ce sl = some res) => hjp _ _ _ _ _ _ z hce hsl (mv_fv1 hv) hvl φ H locs ls hge hW hS hl
        have hN := fun (z : nx lv st h ce sl = some res) => hnx _ _ _ _ _ z hce hsl (mv_fv1 hv) hvl φ H locs ls hge hW hS hl
        unfold mv_cmp at hh
        split at hh
        · exact lv_if_eq hx hb hd ht (fun z => hJ (by rw [if_pos z] at hh; exact hh)) (fun z => hN (by rw [if_neg z] at hh; exact hh))
        · exact lv_if_ne hx hb hd ht (fun z => hJ (by rw [if_neg z] at hh; exact hh)) (fun z => hN (by rw [if_pos z] at hh; exact hh))
        · exact lv_if_lt hx hb hd ht (fun z => hJ (by rw [if_pos z] at hh; exact hh)) (fun z => hN (by rw [if_neg z] at hh; exact hh))
        · exact lv_if_ge hx hb hd ht (fun z => hJ (by rw [if_pos z] at hh; exact hh)) (fun z => hN (by rw [if_neg z] at hh; exact hh))
        · exact lv_if_gt hx hb hd ht (fun z => hJ (by rw [if_pos z] at hh; exact hh)) (fun z => hN (by rw [if_neg z] at hh; exact hh))
        · exact lv_if_le hx hb hd ht (fun z => hJ (by rw [if_pos z] at hh; exact hh)) (fun z => hN (by rw [if_neg z] at hh; exact hh))
      · cases hh
    · cases hh
  · -- if_icmp
    split at hh
    · next t tl =>
      simp only [mv_chk, Bool.and_eq_true, decide_eq_true_eq] at hc
      obtain ⟨rfl, ht⟩ := hc
      split at hh
      · next y x st =>
        have hJ := fun (z : jp t lv st h ce sl = some res) => hjp _ _ _ _ _ _ z hce hsl (mv_fv1 (mv_fv1 hv)) hvl φ H locs ls hge hW hS hl
        have hN := fun (z : nx lv st h ce sl = some res) => hnx _ _ _ _ _ z hce hsl (mv_fv1 (mv_fv1 hv)) hvl φ H locs ls hge hW hS hl
        unfold mv_cmp at hh
        split at hh
        · exact lv_icmp_eq hx hb hd ht (fun z => hJ (by rw [if_pos z] at hh; exact hh)) (fun z => hN (by rw [if_neg z] at hh; exact hh))
        · exact lv_icmp_ne hx hb hd ht (fun z => hJ (by rw [if_neg z] at hh; exact hh)) (fun z => hN (by rw [if_pos z] at hh; exact hh))
        · exact lv_icmp_lt hx hb hd ht (fun z => hJ (by rw [if_pos z] at hh; exact hh)) (fun z => hN (by rw [if_neg z] at hh; exact hh))
        · exact lv_icmp_ge hx hb hd ht (fun z => hJ (by rw [if_pos z] at hh; exact hh)) (fun z => hN (by rw [if_neg z] at hh; exact hh))
        · exact lv_icmp_gt hx hb hd ht (fun z => hJ (by rw [if_pos z] at hh; exact hh)) (fun z => hN (by rw [if_neg z] at hh; exact hh))
        · exact lv_icmp_le hx hb hd ht (fun z => hJ (by rw [if_pos z] at hh; exact hh)) (fun z => hN (by rw [if_neg z] at hh; exact hh))
      · cases hh
    · cases hh
  · -- ifnull
    split at hh
    · simp only [mv_chk, Bool.and_eq_true, decide_eq_true_eq] at hc
      obtain ⟨rfl, ht⟩ := hc
      split at hh
      · exact lv_ifnull hx hb hd (hnx _ _ _ _ _ hh hce hsl (mv_fv1 hv) hvl φ H locs ls hge hW hS hl)
      · exact lv_ifnullN hx hb hd ht (hjp _ _ _ _ _ _ hh hce hsl (mv_fv1 hv) hvl φ H locs ls hge hW hS hl)
      · cases hh
    · cases hh
  · -- ifnonnull
    split at hh
    · simp only [mv_chk, Bool.and_eq_true, decide_eq_true_eq] at hc
      obtain ⟨rfl, ht⟩ := hc
      split at hh
      · exact lv_ifnonnull hx hb hd ht (hjp _ _ _ _ _ _ hh hce hsl (mv_fv1 hv) hvl φ H locs ls hge hW hS hl)
      · exact lv_ifnonnullN hx hb hd (hnx _ _ _ _ _ hh hce hsl (mv_fv1 hv) hvl φ H locs ls hge hW hS hl)
      · cases hh
    · cases hh
  · -- tableswitch
    split at hh
    · next lo' d' tl =>
      simp only [mv_chk, Bool.and_eq_true, decide_eq_true_eq] at hc
      obtain ⟨hlo, hhi, hbig, hdt, htg⟩ := hc
      split at hh
      · next x st =>
        rcases mv_ts_some hh with ⟨k, t, h1, h2, h3⟩ | ⟨h1, h2⟩
        · have hk : k < tl.length := (List.getElem?_eq_some_iff.mp h1).1
          obtain ⟨o, h4, h5⟩ := mv_tgts_get htg k t h1
          have hxi : x.toInt = ((lo' + k : Nat) : Int) := by rw [h2]; exact nI_toInt (by omega)
          refine lv_tableIn hx hb hd (by omega) (by omega) ?_ h5 (hjp _ _ _ _ _ _ h3 hce hsl (mv_fv1 hv) hvl φ H locs ls hge hW hS hl)
          rw [hxi, hlo, show (((lo' + k : Nat) : Int) - (lo' : Int)).toNat = k by omega]
          rw [← Array.getElem?_toList]
          exact h4
        · refine lv_tableOut hx hb hd ?_ hdt (hjp _ _ _ _ _ _ h2 hce hsl (mv_fv1 hv) hvl φ H locs ls hge hW hS hl)
          apply Classical.byContradiction
          intro hn
          obtain ⟨k, hk⟩ : ∃ k : Nat, x.toInt = ((lo' + k : Nat) : Int) := ⟨(x.toInt - lo').toNat, by omega⟩
          exact h1 k (by omega) (mv_of_toInt (by omega) hk)
      · cases hh
    · cases hh
  · -- lookupswitch
    split at hh
    · next d' tl =>
      simp only [mv_chk, Bool.and_eq_true, decide_eq_true_eq] at hc
      obtain ⟨hdt, hso, hps⟩ := hc
      split at hh
      · next x st =>
        rcases mv_ls_some hps hh with ⟨o, t, h1, h2, h3⟩ | ⟨h1, h2⟩
        · exact lv_lookup hx hb hd hso h1 h2 (hjp _ _ _ _ _ _ h3 hce hsl (mv_fv1 hv) hvl φ H locs ls hge hW hS hl)
        · exact lv_lookup hx hb hd hso h1 hdt (hjp _ _ _ _ _ _ h2 hce hsl (mv_fv1 hv) hvl φ H locs ls hge hW hS hl)
      · cases hh
    · cases hh
  · -- ireturn
    split at hh
    · split at hh
      · next x =>
        obtain ⟨hg, hh⟩ := mv_gd_some hh
        cases hh
        simp only [mv_chk, Bool.and_eq_true, decide_eq_true_eq] at hc
        simp only [Bool.or_eq_true, decide_eq_true_eq] at hg
        obtain ⟨rfl, hr⟩ := hc
        refine W.widen hce hsl ((hRet φ H locs ls pc hge hW hS hv).1 _ rfl hd ⟨_, hr, ?_⟩)
        rcases hg with rfl | rfl
        · exact mv_nar0
        · exact mv_nar1
      · cases hh
    · split at hh
      · next x =>
        obtain ⟨hg, hh⟩ := mv_gd_some hh
        cases hh
        simp only [mv_chk, Bool.and_eq_true, Bool.or_eq_true, decide_eq_true_eq] at hc
        simp only [Bool.and_eq_true, decide_eq_true_eq] at hg
        obtain ⟨rfl, hr⟩ := hc
        rcases hr with hr | hr
        · exact W.widen hce hsl ((hRet φ H locs ls pc hge hW hS hv).1 _ rfl hd ⟨_, hr, (mv_nar127 hg.1 hg.2).1⟩)
        · exact W.widen hce hsl ((hRet φ H locs ls pc hge hW hS hv).1 _ rfl hd ⟨_, hr, (mv_nar127 hg.1 hg.2).2⟩)
      · cases hh
    · next hlk =>
      split at hh
      · next x =>
        cases hh
        have hc2 : (decide (len = 1) && decide (md.2.2.2 = some .int)) = true := by
          simp only [mv_chk] at hc
          exact hc
        simp only [Bool.and_eq_true, decide_eq_true_eq] at hc2
        obtain ⟨rfl, hr⟩ := hc2
        exact W.widen hce hsl ((hRet φ H locs ls pc hge hW hS hv).1 _ rfl hd ⟨_, hr, rfl⟩)
      · cases hh
  · -- lreturn
    split at hh
    · cases hh
      simp only [mv_chk, Bool.and_eq_true, decide_eq_true_eq] at hc
      obtain ⟨rfl, hr⟩ := hc
      exact W.widen hce hsl ((hRet φ H locs ls pc hge hW hS hv).2.1 _ rfl hd hr)
    · cases hh
  · -- areturn
    have hc2 : len = 1 ∧ ∃ n, md.2.2.2 = some (.object n) := by
      simp only [mv_chk, Bool.and_eq_true, decide_eq_true_eq] at hc
      refine ⟨hc.1, ?_⟩
      have := hc.2
      split at this
      · next n hn => exact ⟨n, hn⟩
      · cases this
    obtain ⟨rfl, hr⟩ := hc2
    split at hh
    · cases hh
      exact W.widen hce hsl ((hRet φ H locs ls pc hge hW hS hv).2.2.1 _ rfl hd hr (Or.inr ⟨_, rfl⟩))
    · cases hh
      exact W.widen hce hsl ((hRet φ H locs ls pc hge hW hS hv).2.2.1 _ rfl hd hr (Or.inl rfl))
    · cases hh
  · -- return
    split at hh
    · cases hh
      simp only [mv_chk, Bool.and_eq_true, decide_eq_true_eq] at hc
      obtain ⟨rfl, hr⟩ := hc
      exact W.widen hce hsl ((hRet φ H locs ls pc hge hW hS hv).2.2.2 rfl hd hr)
    · cases hh
  · exact hLo (mv_chk_lop hh hc) hh
end
/-- a table is the method's code, and its operands are right -/
def mv_tok (md : mv_MD) (Ms : List (mv_MD × Bool)) : List mv_E → Bool
  | [] => true
  | e :: l => decide (decode md.2.1 e.1 = .ok (e.2.1, e.2.2.1)) && (mv_chk md Ms e.1 e.2.1 e.2.2.1 e.2.2.2 && ((match l with
    | [] => true
    | e2 :: _ => decide (e2.1 = e.1 + e.2.2.1)) && mv_tok md Ms l))
theorem mv_seek_ok {md : mv_MD} {Ms : List (mv_MD × Bool)} {t : Nat} : ∀ {tab : List mv_E}, mv_tok md Ms tab = true → mv_tok md Ms (mv_seek t tab) = true ∧ ∀ e l, mv_seek t tab = e :: l → e.1 = t
  | [], _ => ⟨rfl, fun e l h => by cases h⟩
  | a :: l, h => by
    unfold mv_seek
    cases hc : Nat.beq a.1 t with
    | true =>
      refine ⟨h, fun e l' he => ?_⟩
      have he2 : a :: l = e :: l' := he
      cases he2
      exact Nat.eq_of_beq_eq_true hc
    | false =>
      have h2 : mv_tok md Ms l = true := by
        unfold mv_tok at h
        simp only [Bool.and_eq_true] at h
        exact h.2.2.2
      exact mv_seek_ok h2
section
variable {Hp : Type} {rI : Hp → Nat → Nat → Nat → Int32} {rR : Hp → Nat → Nat → Nat → (Option (Nat × Nat) → Option (List mv_V × Hp)) → Option (List mv_V × Hp)} {ln : Hp → Nat → Nat → Nat} {wI : Hp → Nat → Nat → Nat → Int32 → Hp} {wR : Hp → Nat → Nat → Nat → Option (Nat × Nat) → (Hp → Option (List mv_V × Hp)) → Option (List mv_V × Hp)} {nw : Hp → Nat → Nat → (Nat → Hp → Option (List mv_V × Hp)) → Option (List mv_V × Hp)} {cp : Hp → Nat → Nat → Nat → Nat → Nat → Hp} {vw : Hp → mv_G}
variable {md : mv_MD} {n MC MS : Nat} {sc : Option (Nat × (Nat → Int32))} {g0 : mv_G} {res : List mv_V × Hp}
theorem mv_blk_sound {p : Program} {l : Launch} {e : Env} {R : Room} {s : State} {m : MethodId} {args : Array Value} {below : List Frame} {meth : Method} {c : Code} {φ0 : Nat → Nat → Nat} {D : va_G} {cI cQ : ClassId} {q0 : Nat} {Qf : State → Prop} (hA : mv_Ax rI rR ln wI wR nw cp vw) (hB : mv_B md n MC MS sc p R s m args meth c D cI cQ q0 φ0) (hRet : mv_Ret vw md MC MS g0 res p l e R s m args below meth c D cI cQ q0 φ0 Qf) {G : List (mv_C Hp)} {Ms : List (mv_MD × Bool)} (hG : ∀ j C md', mv_nth j G = some C → mv_nth j Ms = some md' → ∃ n', n' + 1 ≤ n ∧ mv_Cal vw n' md' C) (hn1 : 1 ≤ n)
    {tab : List mv_E} (htab : mv_tok md Ms tab = true) {stops : List Nat} {ka : Nat → mv_L → List mv_V → Hp → Nat → Nat → Option (List mv_V × Hp)} (hka : ∀ pc lv st h ce sl, ka pc lv st h ce sl = some res → mv_Y vw md MC MS g0 p l e R s m args below meth c D cI cQ q0 φ0 Qf pc lv st h ce sl) :
    ∀ (k : Nat) (cs : List mv_E), mv_tok md Ms cs = true → ∀ lv st h ce sl, mv_blk rI rR ln wI wR nw cp bod sc tab G MC MS stops ka k cs lv st h ce sl = some res → ∀ a l', cs = a :: l' → mv_Y vw md MC MS g0 p l e R s m args below meth c D cI cQ q0 φ0 Qf a.1 lv st h ce sl := by
  intro k
  induction k with
  | zero =>
    intro cs _ lv st h ce sl hh
    cases hh
  | succ k ih =>
    intro cs hcs lv st h ce sl hh a l' he
    subst he
    unfold mv_tok at hcs
    simp only [Bool.and_eq_true, decide_eq_true_eq] at hcs
    obtain ⟨hd, hc, hnext, hrest⟩ := hcs
    have hgo : ∀ (cs' : List mv_E), mv_tok md Ms cs' = true → ∀ lv st h ce sl, mv_nx stops ka (mv_blk rI rR ln wI wR nw cp bod sc tab G MC MS stops ka k) cs' lv st h ce sl = some res → ∀ a2 l2, cs' = a2 :: l2 → mv_Y vw md MC MS g0 p l e R s m args below meth c D cI cQ q0 φ0 Qf a2.1 lv st h ce sl := by
      intro cs' hok lv st h ce sl hh a2 l2 he
      subst he
      unfold mv_nx at hh
      split at hh
      · next heq => cases heq
      · next heq =>
        cases heq
        split at hh
        · exact hka _ _ _ _ _ _ hh
        · exact ih _ hok _ _ _ _ _ hh _ _ rfl
    refine mv_step_sound hA hB hRet hG hn1 hd hc (fun lv st h ce sl hh => ?_) (fun t lv st h ce sl hh => ?_) hh
    · cases hl : l' with
      | nil => rw [hl] at hh; cases hh
      | cons a2 l2 =>
        rw [hl] at hnext hrest hh
        have h1 : a2.1 = a.1 + a.2.2.1 := of_decide_eq_true hnext
        rw [← h1]
        exact hgo _ hrest _ _ _ _ _ hh _ _ rfl
    · obtain ⟨s1, s2⟩ := mv_seek_ok (t := t) htab
      cases hl : mv_seek t tab with
      | nil => rw [hl] at hh; cases hh
      | cons a2 l2 =>
        have h1 := s2 _ _ hl
        rw [hl] at s1 hh
        rw [← h1]
        exact hgo _ s1 _ _ _ _ _ hh _ _ rfl
theorem mv_blkX (hA : mv_Ax rI rR ln wI wR nw cp vw) {G : List (mv_C Hp)} {Ms : List (mv_MD × Bool)} (hG : ∀ j C md', mv_nth j G = some C → mv_nth j Ms = some md' → ∃ n', n' + 1 ≤ n ∧ mv_Cal vw n' md' C) (hn1 : 1 ≤ n)
    {tab : List mv_E} (htab : mv_tok md Ms tab = true) {stops : List Nat} {ka : Nat → mv_L → List mv_V → Hp → Nat → Nat → Option (List mv_V × Hp)} (hka : ∀ pc lv st h ce sl, ka pc lv st h ce sl = some res → mv_X vw md n MC MS sc g0 res pc lv st h ce sl)
    {k : Nat} {t : Nat} {lv : mv_L} {st : List mv_V} {h : Hp} {ce sl : Nat} (hh : mv_blk rI rR ln wI wR nw cp bod sc tab G MC MS stops ka k (mv_seek t tab) lv st h ce sl = some res) : mv_X vw md n MC MS sc g0 res t lv st h ce sl := by
  intro p l e R s m args below meth c D cI cQ q0 φ0 Qf hB hRet
  obtain ⟨s1, s2⟩ := mv_seek_ok (t := t) htab
  cases hl : mv_seek t tab with
  | nil =>
    rw [hl] at hh
    cases k with
    | zero => cases hh
    | succ k => cases hh
  | cons a2 l2 =>
    have h1 := s2 _ _ hl
    rw [hl] at s1 hh
    rw [← h1]
    exact mv_blk_sound hA hB hRet hG hn1 htab (fun pc lv st h ce sl h2 => hka pc lv st h ce sl h2 p l e R s m args below meth c D cI cQ q0 φ0 Qf hB hRet) k _ s1 _ _ _ _ _ hh _ _ rfl
/-- the locals at a method's entry -/
def mv_ent : Nat → List mv_V → mv_L
  | _, [] => []
  | i, v :: vs => (i, v) :: mv_ent (match mv_two v with
    | true => i + 2
    | false => i + 1) vs
theorem mv_ent_map (φ : Nat → Nat → Nat) : ∀ (vs : List mv_V) (i : Nat), (mv_ent i vs).map (fun q => (q.1, mv_v φ q.2)) = lv_args i (vs.map (mv_v φ))
  | [], _ => rfl
  | v :: vs, i => by
    have ih := mv_ent_map φ vs
    show (i, mv_v φ v) :: (mv_ent (match mv_two v with
      | true => i + 2
      | false => i + 1) vs).map _ = (i, mv_v φ v) :: lv_args (if (mv_v φ v).category = 2 then i + 2 else i + 1) (vs.map (mv_v φ))
    rw [ih]
    cases h : mv_two v with
    | true =>
      have h2 : (mv_v φ v).category = 2 := by have := mv_two_beq φ v; rw [h] at this; exact eq_of_beq this
      rw [if_pos h2]
    | false =>
      have h2 : ¬ (mv_v φ v).category = 2 := by rw [mv_two_cat h]; decide
      rw [if_neg h2]
theorem mv_ent_mem {P : mv_V → Prop} : ∀ {vs : List mv_V} {i : Nat}, (∀ v ∈ vs, P v) → ∀ q ∈ mv_ent i vs, P q.2
  | [], _, _, q, h => by cases h
  | v :: vs, i, h, q, hq => by
    unfold mv_ent at hq
    rcases List.mem_cons.mp hq with rfl | hq
    · exact (List.forall_mem_cons.mp h).1
    · exact mv_ent_mem (List.forall_mem_cons.mp h).2 q hq
theorem mv_slen (φ : Nat → Nat → Nat) : ∀ vs : List mv_V, (lg_sl (vs.map (mv_v φ))).length = mv_cats vs
  | [] => rfl
  | v :: vs => by
    have ih := mv_slen φ vs
    unfold lg_sl at ih ⊢
    rw [List.map_cons, List.flatMap_cons, List.length_append, ih]
    show _ = (match mv_two v with
      | true => 2
      | false => 1) + mv_cats vs
    congr 1
    cases h : mv_two v with
    | true =>
      have h2 : (mv_v φ v).category = 2 := by have := mv_two_beq φ v; rw [h] at this; exact eq_of_beq this
      rw [if_pos h2]; rfl
    | false =>
      have h2 : ¬ (mv_v φ v).category = 2 := by rw [mv_two_cat h]; decide
      rw [if_neg h2]; rfl
theorem mv_Met_of (hplain : plainName md.1.cls = true) {as : List mv_V} {h : Hp} {vs : List mv_V} {h' : Hp} (hfit : mv_cats as ≤ md.2.2.1) (hX : mv_X vw md n MC MS none (vw h) (vs, h') 0 (mv_ent 0 as) [] h 0 0) : mv_Met vw n MC MS md as h vs h' := by
  intro l D cI cQ q0 φ
  refine Met.ofW (cc := md.2.1) (maxL := md.2.2.1) (ret := md.2.2.2) hplain rfl ?_
  intro p e s m args below meth c s₁ B hml hv
  obtain ⟨rfl, hq0, hK, hE, hlv, hW⟩ := hv
  have hts := atoms_spec (ws := .code md.1 md.2.1 md.2.2.1 md.2.2.2 :: WS) B.pre
  have hr := B.returns
  have hlocks := B.notSynchronized
  have hB : mv_B md n MC MS none p (mv_rm n MC MS) s m (as.map (mv_v φ)).toArray meth c D cI cQ q0 φ :=
    ⟨B.exec, B.bytes, hml, findClass_of_methodNamed B.named, (name_of_methodNamed B.named B.method).1, fun w hw => hts w (List.mem_cons_of_mem _ hw), hK, hq0, ⟨Nat.le_refl _, Nat.le_refl _, Nat.le_refl _, Nat.le_refl _⟩, hE, fun q hq => by cases hq⟩
  have hl := lv_entry (as.map (mv_v φ)) (n := md.2.2.1) (by rw [mv_slen]; exact hfit)
  rw [lg_entry_eq]
  generalize (lg_sl (as.map (mv_v φ)) ++ List.replicate (md.2.2.1 - (lg_sl (as.map (mv_v φ))).length) Slot.unset).toArray = ls at hl ⊢
  rw [← mv_ent_map] at hl
  refine hX p l e (mv_rm n MC MS) s m _ below meth c D cI cQ q0 φ _ hB ?_ (Nat.zero_le _) (Nat.zero_le _) (fun v hv => by cases hv) (mv_ent_mem hlv) φ s.heap [] ls mv_ge.rf hW va_S.rf hl
  intro φ' H locs ls' pc hge hW' hS' hvs
  refine ⟨fun x hx hd hty => ?_, fun x hx hd hty => ?_, fun v hx hd hty hv => ?_, fun hx hd hty => ?_⟩
  · have hq : ∀ t : State, t.heap = H → s.WarmedH t.vm → ∃ φ', mv_ge (vw h) φ (vw h') φ' ∧ (∀ v ∈ vs, mv_live (vw h') v) ∧ Outcome.returned (some (.int x)) = .returned (vs.map (mv_v φ')).head? ∧ mv_W D cI cQ q0 φ' (vw h') t.heap ∧ va_F (fun q => q0 ≤ q) s t := fun t ht _ => ⟨φ', hge, hvs, by rw [show vs = _ from hx]; rfl, by rw [ht]; exact hW', hS'.F ht⟩
    obtain ⟨ty, hty, hnr⟩ := hty
    exact W.zret B.exec B.bytes (hr.trans hty) hnr hq hS'.2.2 hd
  · exact W.lret B.exec B.bytes (hr.trans hty) (fun t ht _ => ⟨φ', hge, hvs, by rw [show vs = _ from hx]; rfl, by rw [ht]; exact hW', hS'.F ht⟩) hS'.2.2 hd
  · obtain ⟨nm, hty⟩ := hty
    refine W.aret B.exec B.bytes (hr.trans hty) (Or.inl ⟨nm, rfl⟩) ?_ (fun t ht _ => ⟨φ', hge, hvs, by rw [show vs = _ from hx]; rfl, by rw [ht]; exact hW', hS'.F ht⟩) hS'.2.2 hd
    rcases hv with rfl | ⟨q, rfl⟩
    · exact Or.inl rfl
    · exact Or.inr ⟨_, rfl⟩
  · exact W.vret B.exec B.bytes (hr.trans hty) (fun t ht _ => ⟨φ', hge, hvs, by rw [show vs = _ from hx]; rfl, by rw [ht]; exact hW', hS'.F ht⟩) hS'.2.2 hd
end
end
section
/-! THE HEAP of a run once both systems stand: ints by tag, number, place; what the sheets and shelves hold (numbers of rows), a row's items, its length, how many rows and items there are -/
abbrev SH2 : Type := ((Nat → Option Nat) × (Nat → Option Nat)) × ((Nat → Option Nat) × ((Nat → Nat) × (Nat × Nat)))
abbrev H2 : Type := (Nat → Nat → Nat → Int32) × SH2
abbrev O2 : Type := Option (List mv_V × H2)
def mv_up3 (I : Nat → Nat → Nat → Int32) (t o k : Nat) (v : Int32) : Nat → Nat → Nat → Int32 := fun t' o' k' => cond (Nat.beq t' t && (Nat.beq o' o && Nat.beq k' k)) v (I t' o' k')
def mv_up1 {α : Type} (f : Nat → α) (k : Nat) (v : α) : Nat → α := fun k' => cond (Nat.beq k' k) v (f k')
def rI2 (h : H2) (t o k : Nat) : Int32 := h.1 t o k
def sht2 (h : H2) (k : Nat) : Option Nat := h.2.1.1 k
def hld2 (h : H2) (k : Nat) : Option Nat := h.2.1.2 k
def itm2 (h : H2) (r : Nat) : Option Nat := h.2.2.1 r
def len2 (h : H2) (r : Nat) : Nat := h.2.2.2.1 r
def nr2 (h : H2) : Nat := h.2.2.2.2.1
def ni2 (h : H2) : Nat := h.2.2.2.2.2
def mv_lens : List (Nat × Nat) := [(300, 4), (301, 8), (302, 8), (303, 6), (304, 8), (305, 8), (306, 8), (307, 8), (308, 8), (100, 30), (400, 30), (600, 4), (601, 4), (700, 200), (807, 4), (900, 4), (901, 4), (902, 69), (903, 69), (904, 69), (906, 200), (911, 30), (913, 4), (914, 4), (915, 160), (916, 4), (917, 4), (918, 4), (919, 30)]
def mv_lk (t : Nat) : List (Nat × Nat) → Nat
  | [] => 0
  | q :: l => cond (Nat.beq q.1 t) q.2 (mv_lk t l)
def ln2 (h : H2) (t o : Nat) : Nat := cond (Nat.beq t 501) (len2 h o) (mv_lk t mv_lens)
def wI2 (h : H2) (t o k : Nat) (v : Int32) : H2 := (mv_up3 h.1 t o k v, h.2)
def rR2 (h : H2) (t o k : Nat) (ka : Option (Nat × Nat) → O2) : O2 :=
  cond (Nat.beq t 2) (ka (some (300 + k, o))) (cond (Nat.beq t 8) (ka (some (900 + k, o))) (cond (Nat.beq t 7) (match k with
    | 0 => ka (some (2, 0))
    | 1 => ka (some (2, 1))
    | 2 => ka (some (2, 2))
    | 4 => ka (some (1, 0))
    | 5 => ka (some (6, 0))
    | 6 => ka (some (3, 0))
    | 7 => ka (some (807, 0))
    | 8 => ka (some (5, 0))
    | 9 => ka (some (0, 0))
    | _ => none) (cond (Nat.beq t 1) (ka (some (2, 3))) (cond (Nat.beq t 0) (ka (some (100, o))) (cond (Nat.beq t 3) (ka (some (400, o))) (cond (Nat.beq t 5) (ka (some (600 + k, 0))) (cond (Nat.beq t 6) (ka (some (700, o))) (cond (Nat.beq t 4 && Nat.beq k 1) (mv_el (itm2 h o) (ka none) fun r => ka (some (501, r))) (cond (Nat.beq t 807 && Nat.beq o 0) (mv_el (sht2 h k) (ka none) fun r => ka (some (4, r))) (cond (Nat.beq t 601 && Nat.beq o 0) (mv_el (hld2 h k) (ka none) fun r => ka (some (4, r))) none))))))))))
def wR2 (h : H2) (t o k : Nat) (q : Option (Nat × Nat)) (ka : H2 → O2) : O2 := match q with
  | none => cond (Nat.beq t 807 && Nat.beq o 0) (ka (h.1, (mv_up1 h.2.1.1 k none, h.2.1.2), h.2.2)) (cond (Nat.beq t 601 && Nat.beq o 0) (ka (h.1, (h.2.1.1, mv_up1 h.2.1.2 k none), h.2.2)) none)
  | some (u, r) => cond (Nat.beq t 807 && (Nat.beq o 0 && Nat.beq u 4)) (mv_gd (Nat.ble (r + 1) (nr2 h)) (ka (h.1, (mv_up1 h.2.1.1 k (some r), h.2.1.2), h.2.2))) (cond (Nat.beq t 601 && (Nat.beq o 0 && Nat.beq u 4)) (mv_gd (Nat.ble (r + 1) (nr2 h)) (ka (h.1, (h.2.1.1, mv_up1 h.2.1.2 k (some r)), h.2.2))) (cond (Nat.beq t 4 && (Nat.beq u 501 && Nat.beq k 1)) (mv_gd (Nat.ble (r + 1) (ni2 h)) (ka (h.1, h.2.1, mv_up1 h.2.2.1 o (some r), h.2.2.2))) none))
def nw2 (h : H2) (t n : Nat) (ka : Nat → H2 → O2) : O2 :=
  cond (Nat.beq t 4 && Nat.beq n 0) (ka (nr2 h) (fun t' o' k' => cond (Nat.beq t' 4 && Nat.beq o' (nr2 h)) 0 (h.1 t' o' k'), h.2.1, mv_up1 h.2.2.1 (nr2 h) none, h.2.2.2.1, nr2 h + 1, ni2 h)) (cond (Nat.beq t 501) (ka (ni2 h) (fun t' o' k' => cond (Nat.beq t' 501 && Nat.beq o' (ni2 h)) 0 (h.1 t' o' k'), h.2.1, h.2.2.1, mv_up1 h.2.2.2.1 (ni2 h) n, nr2 h, ni2 h + 1)) none)
def cp2 (h : H2) (t o o' n _z : Nat) : H2 := (fun t' q k => cond (Nat.beq t' t && (Nat.beq q o' && decide (k < n))) (h.1 t o k) (h.1 t' q k), h.2)
def mv_rV (r : O2) (k : H2 → O2) : O2 := match r with
  | some ([], h) => k h
  | _ => none
def mv_rI (r : O2) (k : Int32 → H2 → O2) : O2 := match r with
  | some ([.inl (.int x)], h) => k x h
  | _ => none
def mv_rL (r : O2) (k : Int64 → H2 → O2) : O2 := match r with
  | some ([.inl (.long x)], h) => k x h
  | _ => none
def mv_rR (t : Nat) (r : O2) (k : Nat → H2 → O2) : O2 := match r with
  | some ([.inr (u, n)], h) => mv_gd (Nat.beq u t) (k n h)
  | _ => none
def mv_rQ (r : O2) (a : H2 → O2) (k : Nat → H2 → O2) : O2 := match r with
  | some ([.inl .null], h) => a h
  | some ([.inr (u, n)], h) => mv_gd (Nat.beq u 4) (k n h)
  | _ => none
def mv_gI (k : Nat) (lv : mv_L) (f : Int32 → O2) : O2 := match mv_get k lv with
  | some (.inl (.int x)) => f x
  | _ => none
def mv_gL (k : Nat) (lv : mv_L) (f : Int64 → O2) : O2 := match mv_get k lv with
  | some (.inl (.long x)) => f x
  | _ => none
def mv_gR (k t : Nat) (lv : mv_L) (f : Nat → O2) : O2 := match mv_get k lv with
  | some (.inr (u, o)) => mv_gd (Nat.beq u t) (f o)
  | _ => none
def mv_sI (st : List mv_V) (f : Int32 → List mv_V → O2) : O2 := match st with
  | .inl (.int x) :: st => f x st
  | _ => none
def mv_sL (st : List mv_V) (f : Int64 → List mv_V → O2) : O2 := match st with
  | .inl (.long x) :: st => f x st
  | _ => none
def mv_sR (t : Nat) (st : List mv_V) (f : Nat → List mv_V → O2) : O2 := match st with
  | .inr (u, o) :: st => mv_gd (Nat.beq u t) (f o st)
  | _ => none
def mv_sE (st : List mv_V) (r : O2) : O2 := match st with
  | [] => r
  | _ => none
theorem mv_cond_some {α : Type} {b : Bool} {x y : Option α} {r : α} (h : cond b x y = some r) : (b = true ∧ x = some r) ∨ (b = false ∧ y = some r) := by
  cases b with
  | true => exact Or.inl ⟨rfl, h⟩
  | false => exact Or.inr ⟨rfl, h⟩
theorem mv_z2 {a b : Nat} (h : (Nat.beq a 0 && Nat.beq b 0) = true) : a = 0 ∧ b = 0 := by
  simp only [Bool.and_eq_true] at h
  exact ⟨Nat.eq_of_beq_eq_true h.1, Nat.eq_of_beq_eq_true h.2⟩
theorem mv_rV_some {r : O2} {k : H2 → O2} {z : List mv_V × H2} (h : mv_rV r k = some z) : ∃ h', r = some ([], h') ∧ k h' = some z := by
  unfold mv_rV at h
  split at h
  · exact ⟨_, rfl, h⟩
  · cases h
theorem mv_rI_some {r : O2} {k : Int32 → H2 → O2} {z : List mv_V × H2} (h : mv_rI r k = some z) : ∃ x h', r = some ([.inl (.int x)], h') ∧ k x h' = some z := by
  unfold mv_rI at h
  split at h
  · exact ⟨_, _, rfl, h⟩
  · cases h
theorem mv_rL_some {r : O2} {k : Int64 → H2 → O2} {z : List mv_V × H2} (h : mv_rL r k = some z) : ∃ x h', r = some ([.inl (.long x)], h') ∧ k x h' = some z := by
  unfold mv_rL at h
  split at h
  · exact ⟨_, _, rfl, h⟩
  · cases h
theorem mv_rR_some {t : Nat} {r : O2} {k : Nat → H2 → O2} {z : List mv_V × H2} (h : mv_rR t r k = some z) : ∃ x h', r = some ([.inr (t, x)], h') ∧ k x h' = some z := by
  unfold mv_rR at h
  split at h
  · obtain ⟨hg, h2⟩ := mv_gd_some h
    obtain rfl := Nat.eq_of_beq_eq_true hg
    exact ⟨_, _, rfl, h2⟩
  · cases h
theorem mv_rQ_some {r : O2} {a : H2 → O2} {k : Nat → H2 → O2} {z : List mv_V × H2} (h : mv_rQ r a k = some z) : (∃ h', r = some ([.inl .null], h') ∧ a h' = some z) ∨ ∃ x h', r = some ([.inr (4, x)], h') ∧ k x h' = some z := by
  unfold mv_rQ at h
  split at h
  · exact Or.inl ⟨_, rfl, h⟩
  · obtain ⟨hg, h2⟩ := mv_gd_some h
    obtain rfl := Nat.eq_of_beq_eq_true hg
    exact Or.inr ⟨_, _, rfl, h2⟩
  · cases h
theorem mv_gI_some {k : Nat} {lv : mv_L} {f : Int32 → O2} {z : List mv_V × H2} (h : mv_gI k lv f = some z) : ∃ x, (k, .inl (.int x)) ∈ lv ∧ f x = some z := by
  unfold mv_gI at h
  split at h
  · next x e => exact ⟨x, mv_get_mem e, h⟩
  · cases h
theorem mv_gL_some {k : Nat} {lv : mv_L} {f : Int64 → O2} {z : List mv_V × H2} (h : mv_gL k lv f = some z) : ∃ x, (k, .inl (.long x)) ∈ lv ∧ f x = some z := by
  unfold mv_gL at h
  split at h
  · next x e => exact ⟨x, mv_get_mem e, h⟩
  · cases h
theorem mv_gR_some {k t : Nat} {lv : mv_L} {f : Nat → O2} {z : List mv_V × H2} (h : mv_gR k t lv f = some z) : ∃ x, (k, .inr (t, x)) ∈ lv ∧ f x = some z := by
  unfold mv_gR at h
  split at h
  · next u o e =>
    obtain ⟨hg, h2⟩ := mv_gd_some h
    obtain rfl := Nat.eq_of_beq_eq_true hg
    exact ⟨o, mv_get_mem e, h2⟩
  · cases h
theorem mv_sI_some {st : List mv_V} {f : Int32 → List mv_V → O2} {z : List mv_V × H2} (h : mv_sI st f = some z) : ∃ x st', st = .inl (.int x) :: st' ∧ f x st' = some z := by
  unfold mv_sI at h
  split at h
  · exact ⟨_, _, rfl, h⟩
  · cases h
theorem mv_sL_some {st : List mv_V} {f : Int64 → List mv_V → O2} {z : List mv_V × H2} (h : mv_sL st f = some z) : ∃ x st', st = .inl (.long x) :: st' ∧ f x st' = some z := by
  unfold mv_sL at h
  split at h
  · exact ⟨_, _, rfl, h⟩
  · cases h
theorem mv_sR_some {t : Nat} {st : List mv_V} {f : Nat → List mv_V → O2} {z : List mv_V × H2} (h : mv_sR t st f = some z) : ∃ x st', st = .inr (t, x) :: st' ∧ f x st' = some z := by
  unfold mv_sR at h
  split at h
  · obtain ⟨hg, h2⟩ := mv_gd_some h
    obtain rfl := Nat.eq_of_beq_eq_true hg
    exact ⟨_, _, rfl, h2⟩
  · cases h
theorem mv_sE_some {st : List mv_V} {r : O2} {z : List mv_V × H2} (h : mv_sE st r = some z) : st = [] ∧ r = some z := by
  unfold mv_sE at h
  split at h
  · exact ⟨rfl, h⟩
  · cases h
theorem mv_X.sub {Hp : Type} {vw : Hp → mv_G} {md : mv_MD} {n MC MS : Nat} {sc : Option (Nat × (Nat → Int32))} {g0 : mv_G} {res : List mv_V × Hp} {pc : Nat} {lv lv' : mv_L} {st : List mv_V} {h : Hp} {ce sl : Nat} (hX : mv_X vw md n MC MS sc g0 res pc lv' st h ce sl) (hs : ∀ q ∈ lv', q ∈ lv) : mv_X vw md n MC MS sc g0 res pc lv st h ce sl := by
  intro p l e R s m args below meth c D cI cQ q0 φ0 Qf hB hRet hce hsl hv hvl φ H locs ls hge hW hS hl
  refine hX p l e R s m args below meth c D cI cQ q0 φ0 Qf hB hRet hce hsl hv (fun q hq => hvl q (hs q hq)) φ H locs ls hge hW hS ⟨hl.1, hl.2.1, fun q hq => ?_⟩
  obtain ⟨a, ha, rfl⟩ := List.mem_map.mp hq
  exact hl.2.2 _ (List.mem_map.mpr ⟨a, hs a ha, rfl⟩)
-- the picture of such a heap
def rrs2 (h : H2) (t o k : Nat) : Option (Nat × Nat) :=
  cond (Nat.beq t 2) (some (300 + k, o)) (cond (Nat.beq t 8) (some (900 + k, o)) (cond (Nat.beq t 7) (match k with
    | 0 => some (2, 0)
    | 1 => some (2, 1)
    | 2 => some (2, 2)
    | 4 => some (1, 0)
    | 5 => some (6, 0)
    | 6 => some (3, 0)
    | 7 => some (807, 0)
    | 8 => some (5, 0)
    | 9 => some (0, 0)
    | _ => none) (cond (Nat.beq t 1) (some (2, 3)) (cond (Nat.beq t 0) (some (100, o)) (cond (Nat.beq t 3) (some (400, o)) (cond (Nat.beq t 5) (some (600 + k, 0)) (cond (Nat.beq t 6) (some (700, o)) (cond (Nat.beq t 4 && Nat.beq k 1) ((itm2 h o).map fun r => (501, r)) (cond (Nat.beq t 807 && Nat.beq o 0) ((sht2 h k).map fun r => (4, r)) (cond (Nat.beq t 601 && Nat.beq o 0) ((hld2 h k).map fun r => (4, r)) none))))))))))
def mv_cnts : List (Nat × Nat) := [(0, 1), (1, 1), (2, 4), (3, 1), (5, 1), (6, 1), (7, 1), (8, 1), (300, 4), (301, 4), (302, 4), (303, 4), (304, 4), (305, 4), (306, 4), (307, 4), (308, 4), (100, 1), (400, 1), (600, 1), (601, 1), (700, 1), (807, 1), (900, 1), (901, 1), (902, 1), (903, 1), (904, 1), (906, 1), (911, 1), (913, 1), (914, 1), (915, 1), (916, 1), (917, 1), (918, 1), (919, 1)]
def cnt2 (h : H2) (t : Nat) : Nat := cond (Nat.beq t 4) (nr2 h) (cond (Nat.beq t 501) (ni2 h) (mv_lk t mv_cnts))
def vw2 (h : H2) : mv_G := (h.1, rrs2 h, ln2 h, cnt2 h)
theorem mv_beq_if (a b : Nat) : Nat.beq a b = decide (a = b) := by
  rw [Bool.eq_iff_iff, decide_eq_true_eq]
  exact ⟨Nat.eq_of_beq_eq_true, fun h => by subst h; exact Nat.beq_refl a⟩
theorem mv_up3_if (I : Nat → Nat → Nat → Int32) (t o k : Nat) (v : Int32) : mv_up3 I t o k v = fun t' o' k' => if t' = t ∧ o' = o ∧ k' = k then v else I t' o' k' := by
  funext t' o' k'
  simp only [mv_up3, mv_beq_if]
  by_cases h1 : t' = t <;> by_cases h2 : o' = o <;> by_cases h3 : k' = k <;> simp [h1, h2, h3]
theorem mv_up1_if {α : Type} (f : Nat → α) (k : Nat) (v : α) : mv_up1 f k v = fun k' => if k' = k then v else f k' := by
  funext k'
  simp only [mv_up1, mv_beq_if]
  by_cases h3 : k' = k <;> simp [h3]
theorem rR2_some (h : H2) (t o k : Nat) (ka : Option (Nat × Nat) → O2) (res : List mv_V × H2) (hh : rR2 h t o k ka = some res) : ka (rrs2 h t o k) = some res := by
  have key : ∀ (b : Bool) (x y : O2) (u v : Option (Nat × Nat)), cond b x y = some res → (x = some res → ka u = some res) → (y = some res → ka v = some res) → ka (cond b u v) = some res := by
    intro b x y u v h1 h2 h3
    cases b with
    | true => exact h2 h1
    | false => exact h3 h1
  have kel : ∀ (t : Nat) (z : Option Nat), mv_el z (ka none) (fun r => ka (some (t, r))) = some res → ka (z.map fun r => (t, r)) = some res := by
    intro t z h1
    cases z with
    | none => exact h1
    | some r => exact h1
  unfold rR2 at hh
  unfold rrs2
  refine key _ _ _ _ _ hh id fun hh => key _ _ _ _ _ hh id fun hh => key _ _ _ _ _ hh (fun hh => ?_) fun hh => key _ _ _ _ _ hh id fun hh => key _ _ _ _ _ hh id fun hh => key _ _ _ _ _ hh id fun hh => key _ _ _ _ _ hh id fun hh => key _ _ _ _ _ hh id fun hh => key _ _ _ _ _ hh (kel _ _) fun hh => key _ _ _ _ _ hh (kel _ _) fun hh => key _ _ _ _ _ hh (kel _ _) fun hh => by cases hh
  split at hh <;> first | exact hh | cases hh
theorem ax2 : mv_Ax rI2 rR2 ln2 wI2 wR2 nw2 cp2 vw2 := by
  refine ⟨fun _ _ _ _ => rfl, rR2_some, fun _ _ _ => rfl, fun h t o k v => ?_, fun h t o k q ka res hh => ?_, fun h t n ka res hh => ?_, fun h t o o' n z => ?_⟩
  · show (mv_up3 h.1 t o k v, rrs2 (wI2 h t o k v), ln2 (wI2 h t o k v), cnt2 (wI2 h t o k v)) = mv_setI (vw2 h) t o k v
    rw [mv_up3_if]
    rfl
  · have h807 : ∀ (z : Option Nat), vw2 (h.1, (mv_up1 h.2.1.1 k z, h.2.1.2), h.2.2) = mv_setR (vw2 h) 807 0 k (z.map fun r => (4, r)) := by
      intro z
      refine Prod.ext rfl (Prod.ext ?_ rfl)
      funext t' o' k'
      show rrs2 (h.1, (mv_up1 h.2.1.1 k z, h.2.1.2), h.2.2) t' o' k' = if t' = 807 ∧ o' = 0 ∧ k' = k then z.map (fun r => (4, r)) else rrs2 h t' o' k'
      simp only [rrs2, mv_beq_if, sht2, hld2, itm2, mv_up1_if]
      by_cases h1 : t' = 807
      · subst h1
        by_cases h2 : o' = 0
        · subst h2
          by_cases h3 : k' = k <;> simp [h3]
        · simp [h2]
      · simp [h1]
    have h601 : ∀ (z : Option Nat), vw2 (h.1, (h.2.1.1, mv_up1 h.2.1.2 k z), h.2.2) = mv_setR (vw2 h) 601 0 k (z.map fun r => (4, r)) := by
      intro z
      refine Prod.ext rfl (Prod.ext ?_ rfl)
      funext t' o' k'
      show rrs2 (h.1, (h.2.1.1, mv_up1 h.2.1.2 k z), h.2.2) t' o' k' = if t' = 601 ∧ o' = 0 ∧ k' = k then z.map (fun r => (4, r)) else rrs2 h t' o' k'
      simp only [rrs2, mv_beq_if, sht2, hld2, itm2, mv_up1_if]
      by_cases h1 : t' = 601
      · subst h1
        by_cases h2 : o' = 0
        · subst h2
          by_cases h3 : k' = k <;> simp [h3]
        · simp [h2]
      · simp [h1]
    have h4 : ∀ (z : Nat), vw2 (h.1, h.2.1, mv_up1 h.2.2.1 o (some z), h.2.2.2) = mv_setR (vw2 h) 4 o 1 (some (501, z)) := by
      intro z
      refine Prod.ext rfl (Prod.ext ?_ rfl)
      funext t' o' k'
      show rrs2 (h.1, h.2.1, mv_up1 h.2.2.1 o (some z), h.2.2.2) t' o' k' = if t' = 4 ∧ o' = o ∧ k' = 1 then some (501, z) else rrs2 h t' o' k'
      simp only [rrs2, mv_beq_if, sht2, hld2, itm2, mv_up1_if]
      by_cases h1 : t' = 4
      · subst h1
        by_cases h3 : k' = 1
        · subst h3
          by_cases h2 : o' = o <;> simp [h2]
        · simp [h3]
      · simp [h1]
    unfold wR2 at hh
    split at hh
    · rcases mv_cond_some hh with ⟨hb, h2⟩ | ⟨hb, h2⟩
      · simp only [Bool.and_eq_true] at hb
        obtain ⟨e1, e2⟩ := hb
        obtain rfl := Nat.eq_of_beq_eq_true e1
        obtain rfl := Nat.eq_of_beq_eq_true e2
        exact ⟨_, h2, h807 none, fun z hz => by cases hz⟩
      · rcases mv_cond_some h2 with ⟨hb, h3⟩ | ⟨hb, h3⟩
        · simp only [Bool.and_eq_true] at hb
          obtain ⟨e1, e2⟩ := hb
          obtain rfl := Nat.eq_of_beq_eq_true e1
          obtain rfl := Nat.eq_of_beq_eq_true e2
          exact ⟨_, h3, h601 none, fun z hz => by cases hz⟩
        · cases h3
    · rcases mv_cond_some hh with ⟨hb, h2⟩ | ⟨hb, h2⟩
      · simp only [Bool.and_eq_true] at hb
        obtain ⟨e1, e2, e3⟩ := hb
        obtain rfl := Nat.eq_of_beq_eq_true e1
        obtain rfl := Nat.eq_of_beq_eq_true e2
        obtain rfl := Nat.eq_of_beq_eq_true e3
        obtain ⟨hg, h3⟩ := mv_gd_some h2
        exact ⟨_, h3, h807 (some _), fun z hz => by cases hz; exact Nat.ble_eq.mp hg⟩
      · rcases mv_cond_some h2 with ⟨hb, h3⟩ | ⟨hb, h3⟩
        · simp only [Bool.and_eq_true] at hb
          obtain ⟨e1, e2, e3⟩ := hb
          obtain rfl := Nat.eq_of_beq_eq_true e1
          obtain rfl := Nat.eq_of_beq_eq_true e2
          obtain rfl := Nat.eq_of_beq_eq_true e3
          obtain ⟨hg, h5⟩ := mv_gd_some h3
          exact ⟨_, h5, h601 (some _), fun z hz => by cases hz; exact Nat.ble_eq.mp hg⟩
        · rcases mv_cond_some h3 with ⟨hb, h5⟩ | ⟨hb, h5⟩
          · simp only [Bool.and_eq_true] at hb
            obtain ⟨e1, e2, e3⟩ := hb
            obtain rfl := Nat.eq_of_beq_eq_true e1
            obtain rfl := Nat.eq_of_beq_eq_true e2
            obtain rfl := Nat.eq_of_beq_eq_true e3
            obtain ⟨hg, h6⟩ := mv_gd_some h5
            exact ⟨_, h6, h4 _, fun z hz => by cases hz; exact Nat.ble_eq.mp hg⟩
          · cases h5
  · unfold nw2 at hh
    rcases mv_cond_some hh with ⟨hb, h2⟩ | ⟨hb, h2⟩
    · simp only [Bool.and_eq_true] at hb
      obtain ⟨e1, e2⟩ := hb
      obtain rfl := Nat.eq_of_beq_eq_true e1
      obtain rfl := Nat.eq_of_beq_eq_true e2
      refine ⟨_, h2, Prod.ext ?_ (Prod.ext ?_ (Prod.ext ?_ ?_))⟩
      · funext t' o' k'
        show cond (Nat.beq t' 4 && Nat.beq o' (nr2 h)) 0 (h.1 t' o' k') = if t' = 4 ∧ o' = nr2 h then 0 else h.1 t' o' k'
        simp only [mv_beq_if]
        by_cases h1 : t' = 4 <;> by_cases h3 : o' = nr2 h <;> simp [h1, h3]
      · funext t' o' k'
        show rrs2 _ t' o' k' = if t' = 4 ∧ o' = nr2 h then none else rrs2 h t' o' k'
        simp only [rrs2, mv_beq_if, sht2, hld2, itm2, mv_up1_if]
        by_cases h1 : t' = 4
        · subst h1
          by_cases h3 : o' = nr2 h <;> simp [h3]
        · simp [h1]
      · funext t' o'
        show ln2 h t' o' = if t' = 4 ∧ o' = nr2 h then 0 else ln2 h t' o'
        split
        · next z => rw [z.1]; rfl
        · rfl
      · funext t'
        show cnt2 _ t' = if t' = 4 then nr2 h + 1 else cnt2 h t'
        simp only [cnt2, mv_beq_if, nr2, ni2]
        by_cases h1 : t' = 4 <;> simp [h1]
    · rcases mv_cond_some h2 with ⟨hb2, h3⟩ | ⟨hb2, h3⟩
      · obtain rfl := Nat.eq_of_beq_eq_true hb2
        refine ⟨_, h3, Prod.ext ?_ (Prod.ext ?_ (Prod.ext ?_ ?_))⟩
        · funext t' o' k'
          show cond (Nat.beq t' 501 && Nat.beq o' (ni2 h)) 0 (h.1 t' o' k') = if t' = 501 ∧ o' = ni2 h then 0 else h.1 t' o' k'
          simp only [mv_beq_if]
          by_cases h1 : t' = 501 <;> by_cases h4 : o' = ni2 h <;> simp [h1, h4]
        · funext t' o' k'
          show rrs2 _ t' o' k' = if t' = 501 ∧ o' = ni2 h then none else rrs2 h t' o' k'
          by_cases h1 : t' = 501
          · subst h1
            have : ∀ h, rrs2 h 501 o' k' = none := fun _ => rfl
            rw [this, this]
            split <;> rfl
          · rw [if_neg (fun z => h1 z.1)]
            rfl
        · funext t' o'
          show ln2 _ t' o' = if t' = 501 ∧ o' = ni2 h then n else ln2 h t' o'
          simp only [ln2, mv_beq_if, len2, mv_up1_if]
          by_cases h1 : t' = 501
          · subst h1
            by_cases h4 : o' = ni2 h <;> simp [h4]
          · simp [h1]
        · funext t'
          show cnt2 _ t' = if t' = 501 then ni2 h + 1 else cnt2 h t'
          simp only [cnt2, mv_beq_if, nr2, ni2]
          by_cases h1 : t' = 501
          · subst h1; simp
          · simp [h1]
      · cases h3
  · show (_, rrs2 (cp2 h t o o' n z), ln2 (cp2 h t o o' n z), cnt2 (cp2 h t o o' n z)) = mv_setC (vw2 h) t o o' n
    refine Prod.ext ?_ rfl
    funext t' q k
    show cond (Nat.beq t' t && (Nat.beq q o' && decide (k < n))) (h.1 t o k) (h.1 t' q k) = if t' = t ∧ q = o' ∧ k < n then h.1 t o k else h.1 t' q k
    simp only [mv_beq_if]
    by_cases h1 : t' = t <;> by_cases h2 : q = o' <;> by_cases h3 : k < n <;> simp [h1, h2, h3]
end
section
def fA_forget (o0 : Nat) (h : H2) : O2 :=
  mv_bh (wI2 h 0 o0 1 (nI 0)) fun h1 =>
  some ([], h1)
def cA_forget : List mv_V → H2 → (List mv_V → H2 → O2) → O2 := fun as h k => match as with
  | [.inr (t0, o0)] => mv_gd (Nat.beq t0 0) <| mv_rV (fA_forget o0 h) fun h => k [] h
  | _ => none
def fA_hold (o0 : Nat) (v1 : Int32) (v2 : Int32) (v3 : Int32) (h : H2) : O2 :=
  mv_bh (wI2 h 0 o0 2 v1) fun h1 =>
  mv_bh (wI2 h1 0 o0 3 v2) fun h2 =>
  mv_bh (wI2 h2 0 o0 4 v3) fun h3 =>
  some ([], h3)
def cA_hold : List mv_V → H2 → (List mv_V → H2 → O2) → O2 := fun as h k => match as with
  | [.inr (t0, o0), .inl (.int v1), .inl (.int v2), .inl (.int v3)] => mv_gd (Nat.beq t0 0) <| mv_rV (fA_hold o0 v1 v2 v3 h) fun h => k [] h
  | _ => none
def fA_note (o0 : Nat) (v1 : Int32) (h : H2) : O2 :=
  if (nI 30) ≤ (rI2 h 0 o0 1) then (
    some ([], h))
  else
  mv_bh (wI2 h 0 o0 1 ((rI2 h 0 o0 1) + (nI 1))) fun h1 =>
  mv_gd (mv_inb (rI2 h 0 o0 1) 30) <|
  mv_bh (wI2 h1 100 o0 (rI2 h 0 o0 1).toNatClampNeg v1) fun h2 =>
  some ([], h2)
def cA_note : List mv_V → H2 → (List mv_V → H2 → O2) → O2 := fun as h k => match as with
  | [.inr (t0, o0), .inl (.int v1)] => mv_gd (Nat.beq t0 0) <| mv_rV (fA_note o0 v1 h) fun h => k [] h
  | _ => none
def fA_parted (o0 : Nat) (v1 : Int32) (v2 : Int32) (h : H2) : O2 :=
  if v2 = 0 then (
    mv_gd (decide (nI 1 = nI 0) || decide (nI 1 = nI 1)) <|
    mv_bh (wI2 h 0 o0 5 (nI 1)) fun h1 =>
    some ([Sum.inl (Value.int (nI 0))], h1))
  else
  mv_gd (!decide (v2 = 0)) <|
  some ([Sum.inl (Value.int (v1 / v2))], h)
def cA_parted : List mv_V → H2 → (List mv_V → H2 → O2) → O2 := fun as h k => match as with
  | [.inr (t0, o0), .inl (.int v1), .inl (.int v2)] => mv_gd (Nat.beq t0 0) <| mv_rI (fA_parted o0 v1 v2 h) fun x h => k [.inl (.int x)] h
  | _ => none
def fA_own (bd : Nat → Int32 → Int32 → Int32 → H2 → O2) (o0 : Nat) (v1 : Int32) (v2 : Int32) (v3 : Int32) (h : H2) : O2 :=
  mv_gd (mv_inb (((rI2 h 0 o0 2) * (nI 4)) + v1) 24) <|
  mv_rI (bd o0 (bod (((rI2 h 0 o0 2) * (nI 4)) + v1).toNatClampNeg) v2 (v3 + (nI 1)) h) fun r2 h1 =>
  some ([Sum.inl (Value.int r2)], h1)
def cA_own (bd : Nat → Int32 → Int32 → Int32 → H2 → O2) : List mv_V → H2 → (List mv_V → H2 → O2) → O2 := fun as h k => match as with
  | [.inr (t0, o0), .inl (.int v1), .inl (.int v2), .inl (.int v3)] => mv_gd (Nat.beq t0 0) <| mv_rI (fA_own bd o0 v1 v2 v3 h) fun x h => k [.inl (.int x)] h
  | _ => none
def cA_body (bd : Nat → Int32 → Int32 → Int32 → H2 → O2) : List mv_V → H2 → (List mv_V → H2 → O2) → O2 := fun as h k => match as with
  | [.inr (t0, o0), .inl (.int v1), .inl (.int v2), .inl (.int v3)] => mv_gd (Nat.beq t0 0) <| mv_rI (bd o0 v1 v2 v3 h) fun x h => k [.inl (.int x)] h
  | _ => none
def fA_bodyF_b244 (bd : Nat → Int32 → Int32 → Int32 → H2 → O2) (o0 : Nat) (v2 : Int32) (h : H2) : O2 :=
  some ([Sum.inl (Value.int ((v2 * (nI 5)) + (rI2 h 0 o0 3)))], h)
def fA_bodyF_b253 (bd : Nat → Int32 → Int32 → Int32 → H2 → O2) (o0 : Nat) (v2 : Int32) (v3 : Int32) (h : H2) : O2 :=
  mv_rI (fA_own bd o0 (nI 0) v2 v3 h) fun r2 h1 =>
  some ([Sum.inl (Value.int (r2 + ((rI2 h1 0 o0 4) * (nI 9))))], h1)
def fA_bodyF_b269 (bd : Nat → Int32 → Int32 → Int32 → H2 → O2) (o0 : Nat) (v2 : Int32) (h : H2) : O2 :=
  mv_rI (fA_parted o0 v2 ((rI2 h 0 o0 4) - (rI2 h 0 o0 3)) h) fun r2 h1 =>
  some ([Sum.inl (Value.int r2)], h1)
def fA_bodyF_b284 (bd : Nat → Int32 → Int32 → Int32 → H2 → O2) (o0 : Nat) (v2 : Int32) (v3 : Int32) (h : H2) : O2 :=
  mv_rI (fA_own bd o0 (nI 1) v2 v3 h) fun r2 h1 =>
  some ([Sum.inl (Value.int (r2 ^^^ (nI 240)))], h1)
def fA_bodyF_b296 (bd : Nat → Int32 → Int32 → Int32 → H2 → O2) (o0 : Nat) (v2 : Int32) (v3 : Int32) (h : H2) : O2 :=
  mv_rI (bd o0 (nI 11) v2 (v3 + (nI 1)) h) fun r2 h1 =>
  some ([Sum.inl (Value.int (r2 - (nI 6)))], h1)
def fA_bodyF_b310 (bd : Nat → Int32 → Int32 → Int32 → H2 → O2) (o0 : Nat) (v2 : Int32) (v3 : Int32) (h : H2) : O2 :=
  mv_rI (bd o0 (nI 10) v2 (v3 + (nI 1)) h) fun r2 h1 =>
  some ([Sum.inl (Value.int (r2 * (nI 2)))], h1)
def fA_bodyF_b323 (bd : Nat → Int32 → Int32 → Int32 → H2 → O2) (o0 : Nat) (v2 : Int32) (v3 : Int32) (h : H2) : O2 :=
  mv_rI (bd o0 (nI 13) v2 (v3 + (nI 1)) h) fun r2 h1 =>
  mv_rI (fA_own bd o0 (nI 2) (rI2 h1 0 o0 3) v3 h1) fun r4 h3 =>
  some ([Sum.inl (Value.int (r2 + r4))], h3)
def fA_bodyF_b345 (bd : Nat → Int32 → Int32 → Int32 → H2 → O2) (o0 : Nat) (v2 : Int32) (v3 : Int32) (h : H2) : O2 :=
  mv_rI (bd o0 (nI 30) v2 (v3 + (nI 1)) h) fun r2 h1 =>
  some ([Sum.inl (Value.int ((nI 0) - r2))], h1)
def fA_bodyF_b358 (bd : Nat → Int32 → Int32 → Int32 → H2 → O2) (o0 : Nat) (v2 : Int32) (v3 : Int32) (h : H2) : O2 :=
  mv_rI (bd o0 (nI 11) v2 (v3 + (nI 1)) h) fun r2 h1 =>
  mv_rI (fA_own bd o0 (nI 0) (rI2 h1 0 o0 4) v3 h1) fun r4 h3 =>
  some ([Sum.inl (Value.int (r2 ^^^ r4))], h3)
def fA_bodyF_b380 (bd : Nat → Int32 → Int32 → Int32 → H2 → O2) (o0 : Nat) (v2 : Int32) (v3 : Int32) (h : H2) : O2 :=
  mv_rI (bd o0 (nI 12) (v2 + (nI 3)) (v3 + (nI 1)) h) fun r2 h1 =>
  some ([Sum.inl (Value.int (r2 + (rI2 h1 0 o0 4)))], h1)
def fA_bodyF_b398 (bd : Nat → Int32 → Int32 → Int32 → H2 → O2) (o0 : Nat) (v2 : Int32) (v3 : Int32) (h : H2) : O2 :=
  mv_rI (bd o0 (nI 10) v2 (v3 + (nI 1)) h) fun r2 h1 =>
  some ([Sum.inl (Value.int (r2 - (nI 2)))], h1)
def fA_bodyF_b411 (bd : Nat → Int32 → Int32 → Int32 → H2 → O2) (o0 : Nat) (v2 : Int32) (v3 : Int32) (h : H2) : O2 :=
  mv_rI (bd o0 (nI 13) v2 (v3 + (nI 1)) h) fun r2 h1 =>
  some ([Sum.inl (Value.int (r2 * (nI 3)))], h1)
def fA_bodyF_b424 (bd : Nat → Int32 → Int32 → Int32 → H2 → O2) (o0 : Nat) (v2 : Int32) (v3 : Int32) (h : H2) : O2 :=
  mv_rI (bd o0 (nI 12) v2 (v3 + (nI 1)) h) fun r2 h1 =>
  mv_rI (fA_own bd o0 (nI 0) (rI2 h1 0 o0 3) v3 h1) fun r4 h3 =>
  some ([Sum.inl (Value.int (r2 - r4))], h3)
def fA_bodyF_b446 (bd : Nat → Int32 → Int32 → Int32 → H2 → O2) (h : H2) : O2 :=
  some ([Sum.inl (Value.int (nI 0))], h)
def fA_bodyF (bd : Nat → Int32 → Int32 → Int32 → H2 → O2) (o0 : Nat) (v1 : Int32) (v2 : Int32) (v3 : Int32) (h : H2) : O2 :=
  if (rI2 h 0 o0 5) = 0 then (
    if v3 ≤ (nI 20) then (
      mv_rV (fA_note o0 v1 h) fun h1 =>
      if v1 = nI 10 then (
        fA_bodyF_b244 bd o0 v2 h1)
      else
      if v1 = nI 11 then (
        fA_bodyF_b253 bd o0 v2 v3 h1)
      else
      if v1 = nI 12 then (
        fA_bodyF_b269 bd o0 v2 h1)
      else
      if v1 = nI 13 then (
        fA_bodyF_b284 bd o0 v2 v3 h1)
      else
      if v1 = nI 14 then (
        fA_bodyF_b446 bd h1)
      else
      if v1 = nI 15 then (
        fA_bodyF_b446 bd h1)
      else
      if v1 = nI 16 then (
        fA_bodyF_b446 bd h1)
      else
      if v1 = nI 17 then (
        fA_bodyF_b446 bd h1)
      else
      if v1 = nI 18 then (
        fA_bodyF_b446 bd h1)
      else
      if v1 = nI 19 then (
        fA_bodyF_b446 bd h1)
      else
      if v1 = nI 20 then (
        fA_bodyF_b296 bd o0 v2 v3 h1)
      else
      if v1 = nI 21 then (
        fA_bodyF_b446 bd h1)
      else
      if v1 = nI 22 then (
        fA_bodyF_b446 bd h1)
      else
      if v1 = nI 23 then (
        fA_bodyF_b446 bd h1)
      else
      if v1 = nI 24 then (
        fA_bodyF_b446 bd h1)
      else
      if v1 = nI 25 then (
        fA_bodyF_b446 bd h1)
      else
      if v1 = nI 26 then (
        fA_bodyF_b446 bd h1)
      else
      if v1 = nI 27 then (
        fA_bodyF_b446 bd h1)
      else
      if v1 = nI 28 then (
        fA_bodyF_b446 bd h1)
      else
      if v1 = nI 29 then (
        fA_bodyF_b446 bd h1)
      else
      if v1 = nI 30 then (
        fA_bodyF_b310 bd o0 v2 v3 h1)
      else
      if v1 = nI 31 then (
        fA_bodyF_b323 bd o0 v2 v3 h1)
      else
      if v1 = nI 32 then (
        fA_bodyF_b446 bd h1)
      else
      if v1 = nI 33 then (
        fA_bodyF_b446 bd h1)
      else
      if v1 = nI 34 then (
        fA_bodyF_b446 bd h1)
      else
      if v1 = nI 35 then (
        fA_bodyF_b446 bd h1)
      else
      if v1 = nI 36 then (
        fA_bodyF_b446 bd h1)
      else
      if v1 = nI 37 then (
        fA_bodyF_b446 bd h1)
      else
      if v1 = nI 38 then (
        fA_bodyF_b446 bd h1)
      else
      if v1 = nI 39 then (
        fA_bodyF_b446 bd h1)
      else
      if v1 = nI 40 then (
        fA_bodyF_b345 bd o0 v2 v3 h1)
      else
      if v1 = nI 41 then (
        fA_bodyF_b358 bd o0 v2 v3 h1)
      else
      if v1 = nI 42 then (
        fA_bodyF_b446 bd h1)
      else
      if v1 = nI 43 then (
        fA_bodyF_b446 bd h1)
      else
      if v1 = nI 44 then (
        fA_bodyF_b446 bd h1)
      else
      if v1 = nI 45 then (
        fA_bodyF_b446 bd h1)
      else
      if v1 = nI 46 then (
        fA_bodyF_b446 bd h1)
      else
      if v1 = nI 47 then (
        fA_bodyF_b446 bd h1)
      else
      if v1 = nI 48 then (
        fA_bodyF_b446 bd h1)
      else
      if v1 = nI 49 then (
        fA_bodyF_b446 bd h1)
      else
      if v1 = nI 50 then (
        fA_bodyF_b380 bd o0 v2 v3 h1)
      else
      if v1 = nI 51 then (
        fA_bodyF_b398 bd o0 v2 v3 h1)
      else
      if v1 = nI 52 then (
        fA_bodyF_b446 bd h1)
      else
      if v1 = nI 53 then (
        fA_bodyF_b446 bd h1)
      else
      if v1 = nI 54 then (
        fA_bodyF_b446 bd h1)
      else
      if v1 = nI 55 then (
        fA_bodyF_b446 bd h1)
      else
      if v1 = nI 56 then (
        fA_bodyF_b446 bd h1)
      else
      if v1 = nI 57 then (
        fA_bodyF_b446 bd h1)
      else
      if v1 = nI 58 then (
        fA_bodyF_b446 bd h1)
      else
      if v1 = nI 59 then (
        fA_bodyF_b446 bd h1)
      else
      if v1 = nI 60 then (
        fA_bodyF_b411 bd o0 v2 v3 h1)
      else
      if v1 = nI 61 then (
        fA_bodyF_b424 bd o0 v2 v3 h1)
      else
      fA_bodyF_b446 bd h1)
    else
    some ([Sum.inl (Value.int (nI 0))], h))
  else
  some ([Sum.inl (Value.int (nI 0))], h)
def fA_body : Nat → Nat → Int32 → Int32 → Int32 → H2 → O2
  | 0 => fun _ _ _ _ _ => none
  | n + 1 => fA_bodyF (fA_body n)
def fA_perform (o0 : Nat) (v1 : Int32) (v2 : Int32) (h : H2) : O2 :=
  mv_gd (decide (nI 0 = nI 0) || decide (nI 0 = nI 1)) <|
  mv_bh (wI2 h 0 o0 5 (nI 0)) fun h1 =>
  mv_rI (fA_own (fA_body 50) o0 v1 v2 (nI 0) h1) fun r3 h2 =>
  mv_bi r3 fun x4 =>
  if (rI2 h2 0 o0 5) = 0 then (
    some ([Sum.inl (Value.int x4)], h2))
  else
  some ([Sum.inl (Value.int (-(nI 15)))], h2)
def cA_perform : List mv_V → H2 → (List mv_V → H2 → O2) → O2 := fun as h k => match as with
  | [.inr (t0, o0), .inl (.int v1), .inl (.int v2)] => mv_gd (Nat.beq t0 0) <| mv_rI (fA_perform o0 v1 v2 h) fun x h => k [.inl (.int x)] h
  | _ => none
def fC_choices_b5 : Nat → Int32 → Int32 → Int64 → Int32 → H2 → O2
  | 0 => fun _ _ _ _ _ => none
  | n + 1 => fun v0 v1 w2 v4 h =>
    if v1 < v4 then (
      some ([Sum.inl (Value.long w2)], h))
    else
    mv_gd (!decide (v4.toInt64 = 0)) <|
    mv_bl ((w2 * (((v0 - v1) + v4).toInt64)) / v4.toInt64) fun y1 =>
    mv_bi (v4 + (nI 1)) fun x2 =>
    fC_choices_b5 n v0 v1 y1 x2 h
def fC_choices (v0 : Int32) (v1 : Int32) (h : H2) : O2 :=
  mv_bl (lN 1) fun y1 =>
  mv_bi (nI 1) fun x2 =>
  fC_choices_b5 1000 v0 v1 y1 x2 h
def cC_choices : List mv_V → H2 → (List mv_V → H2 → O2) → O2 := fun as h k => match as with
  | [.inl (.int v0), .inl (.int v1)] => mv_rL (fC_choices v0 v1 h) fun x h => k [.inl (.long x)] h
  | _ => none
def fC_commonDivisor_b9 : Nat → Int64 → Int64 → Int32 → H2 → O2
  | 0 => fun _ _ _ _ => none
  | n + 1 => fun w4 w6 v8 h =>
    if (nI 200) ≤ v8 then (
      some ([Sum.inl (Value.long w4)], h))
    else
    if (lg_cmp w6 (lN 0)) = 0 then (
      some ([Sum.inl (Value.long w4)], h))
    else
    mv_gd (!decide (w6 = 0)) <|
    mv_bl (w4 - w4 / w6 * w6) fun y1 =>
    mv_bl w6 fun y2 =>
    mv_bl y1 fun y3 =>
    mv_bi (v8 + (nI 1)) fun x4 =>
    fC_commonDivisor_b9 n y2 y3 x4 h
def fC_commonDivisor (w0 : Int64) (w2 : Int64) (h : H2) : O2 :=
  mv_bl w0 fun y1 =>
  mv_bl w2 fun y2 =>
  mv_bi (nI 0) fun x3 =>
  fC_commonDivisor_b9 1000 y1 y2 x3 h
def cC_commonDivisor : List mv_V → H2 → (List mv_V → H2 → O2) → O2 := fun as h k => match as with
  | [.inl (.long w0), .inl (.long w2)] => mv_rL (fC_commonDivisor w0 w2 h) fun x h => k [.inl (.long x)] h
  | _ => none
def fC_partOf (w0 : Int64) (w2 : Int64) (v4 : Int32) (h : H2) : O2 :=
  mv_rL (fC_commonDivisor w0 w2 h) fun r2 h1 =>
  mv_bl r2 fun y3 =>
  if (lg_cmp y3 (lN 0)) = 0 then (
    some ([Sum.inl (Value.long v4.toInt64)], h1))
  else
  if v4 = 0 then (
    mv_gd (!decide (y3 = 0)) <|
    some ([Sum.inl (Value.long (w0 / y3))], h1))
  else
  mv_gd (!decide (y3 = 0)) <|
  some ([Sum.inl (Value.long (w2 / y3))], h1)
def cC_partOf : List mv_V → H2 → (List mv_V → H2 → O2) → O2 := fun as h k => match as with
  | [.inl (.long w0), .inl (.long w2), .inl (.int v4)] => mv_rL (fC_partOf w0 w2 v4 h) fun x h => k [.inl (.long x)] h
  | _ => none
def fC_justSlip_b13 : Nat → Int32 → Int32 → Int32 → Int32 → Int64 → Int64 → Int32 → H2 → O2
  | 0 => fun _ _ _ _ _ _ _ _ => none
  | n + 1 => fun v0 v1 v2 v3 w4 w6 v8 h =>
    if v0 ≤ v8 then (
      mv_rL (fC_partOf w4 w6 v3 h) fun r2 h1 =>
      some ([Sum.inl (Value.long r2)], h1))
    else
    if v1 ≤ v8 then (
      mv_bl (w4 * (((nI 100) - v2).toInt64)) fun y3 =>
      mv_bl (w6 * (lN 100)) fun y4 =>
      mv_bi (v8 + (nI 1)) fun x5 =>
      fC_justSlip_b13 n v0 v1 v2 v3 y3 y4 x5 h)
    else
    mv_bl (w4 * v2.toInt64) fun y6 =>
    mv_bl (w6 * (lN 100)) fun y7 =>
    mv_bi (v8 + (nI 1)) fun x8 =>
    fC_justSlip_b13 n v0 v1 v2 v3 y6 y7 x8 h
def fC_justSlip (v0 : Int32) (v1 : Int32) (v2 : Int32) (v3 : Int32) (h : H2) : O2 :=
  mv_rL (fC_choices v0 v1 h) fun r2 h1 =>
  mv_bl r2 fun y3 =>
  mv_bl (lN 1) fun y4 =>
  mv_bi (nI 0) fun x5 =>
  fC_justSlip_b13 1000 v0 v1 v2 v3 y3 y4 x5 h1
def cC_justSlip : List mv_V → H2 → (List mv_V → H2 → O2) → O2 := fun as h k => match as with
  | [.inl (.int v0), .inl (.int v1), .inl (.int v2), .inl (.int v3)] => mv_rL (fC_justSlip v0 v1 v2 v3 h) fun x h => k [.inl (.long x)] h
  | _ => none
def fM_copyFrom (o0 : Nat) (o1 : Nat) (h : H2) : O2 :=
  mv_gd (decide (nI 0 = nI 0) && (decide (nI 0 = nI 0) && (!decide ((nI 4) < 0) && (Nat.ble (nI 4).toNatClampNeg 4 && Nat.ble (nI 4).toNatClampNeg 4)))) <|
  mv_bh (cp2 h 300 o1 o0 (nI 4).toNatClampNeg 0) fun h1 =>
  mv_gd (decide (nI 0 = nI 0) && (decide (nI 0 = nI 0) && (!decide ((nI 8) < 0) && (Nat.ble (nI 8).toNatClampNeg 8 && Nat.ble (nI 8).toNatClampNeg 8)))) <|
  mv_bh (cp2 h1 301 o1 o0 (nI 8).toNatClampNeg 0) fun h2 =>
  mv_gd (decide (nI 0 = nI 0) && (decide (nI 0 = nI 0) && (!decide ((nI 8) < 0) && (Nat.ble (nI 8).toNatClampNeg 8 && Nat.ble (nI 8).toNatClampNeg 8)))) <|
  mv_bh (cp2 h2 302 o1 o0 (nI 8).toNatClampNeg 0) fun h3 =>
  mv_gd (decide (nI 0 = nI 0) && (decide (nI 0 = nI 0) && (!decide ((nI 6) < 0) && (Nat.ble (nI 6).toNatClampNeg 6 && Nat.ble (nI 6).toNatClampNeg 6)))) <|
  mv_bh (cp2 h3 303 o1 o0 (nI 6).toNatClampNeg 0) fun h4 =>
  mv_gd (decide (nI 0 = nI 0) && (decide (nI 0 = nI 0) && (!decide ((nI 8) < 0) && (Nat.ble (nI 8).toNatClampNeg 8 && Nat.ble (nI 8).toNatClampNeg 8)))) <|
  mv_bh (cp2 h4 304 o1 o0 (nI 8).toNatClampNeg 0) fun h5 =>
  mv_gd (decide (nI 0 = nI 0) && (decide (nI 0 = nI 0) && (!decide ((nI 8) < 0) && (Nat.ble (nI 8).toNatClampNeg 8 && Nat.ble (nI 8).toNatClampNeg 8)))) <|
  mv_bh (cp2 h5 305 o1 o0 (nI 8).toNatClampNeg 0) fun h6 =>
  mv_gd (decide (nI 0 = nI 0) && (decide (nI 0 = nI 0) && (!decide ((nI 8) < 0) && (Nat.ble (nI 8).toNatClampNeg 8 && Nat.ble (nI 8).toNatClampNeg 8)))) <|
  mv_bh (cp2 h6 306 o1 o0 (nI 8).toNatClampNeg 0) fun h7 =>
  mv_gd (decide (nI 0 = nI 0) && (decide (nI 0 = nI 0) && (!decide ((nI 8) < 0) && (Nat.ble (nI 8).toNatClampNeg 8 && Nat.ble (nI 8).toNatClampNeg 8)))) <|
  mv_bh (cp2 h7 307 o1 o0 (nI 8).toNatClampNeg 0) fun h8 =>
  mv_gd (decide (nI 0 = nI 0) && (decide (nI 0 = nI 0) && (!decide ((nI 8) < 0) && (Nat.ble (nI 8).toNatClampNeg 8 && Nat.ble (nI 8).toNatClampNeg 8)))) <|
  mv_bh (cp2 h8 308 o1 o0 (nI 8).toNatClampNeg 0) fun h9 =>
  mv_bh (wI2 h9 2 o0 9 (rI2 h9 2 o1 9)) fun h10 =>
  mv_bh (wI2 h10 2 o0 10 (rI2 h10 2 o1 10)) fun h11 =>
  mv_bh (wI2 h11 2 o0 11 (rI2 h11 2 o1 11)) fun h12 =>
  some ([], h12)
def cM_copyFrom : List mv_V → H2 → (List mv_V → H2 → O2) → O2 := fun as h k => match as with
  | [.inr (t0, o0), .inr (t1, o1)] => mv_gd (Nat.beq t0 2) <| mv_gd (Nat.beq t1 2) <| mv_rV (fM_copyFrom o0 o1 h) fun h => k [] h
  | _ => none
def fM_vatOfToday (o0 : Nat) (h : H2) : O2 :=
  mv_gd (!decide ((nI 6) = 0)) <|
  mv_gd (mv_inb ((rI2 h 2 o0 10) - (rI2 h 2 o0 10) / (nI 6) * (nI 6)) 6) <|
  some ([Sum.inl (Value.int (rI2 h 303 o0 ((rI2 h 2 o0 10) - (rI2 h 2 o0 10) / (nI 6) * (nI 6)).toNatClampNeg))], h)
def cM_vatOfToday : List mv_V → H2 → (List mv_V → H2 → O2) → O2 := fun as h k => match as with
  | [.inr (t0, o0)] => mv_gd (Nat.beq t0 2) <| mv_rI (fM_vatOfToday o0 h) fun x h => k [.inl (.int x)] h
  | _ => none
def fM_takes (o0 : Nat) (v1 : Int32) (v2 : Int32) (h : H2) : O2 :=
  mv_gd (mv_inb v2 8) <|
  mv_gd (mv_inb (nI 0) 4) <|
  mv_bi ((rI2 h 302 o0 v2.toNatClampNeg) + (rI2 h 300 o0 (nI 0).toNatClampNeg)) fun x1 =>
  mv_gd (mv_inb v1 8) <|
  if (rI2 h 304 o0 v1.toNatClampNeg) = nI 1 then (
    some ([Sum.inl (Value.int (x1 + (nI 3)))], h))
  else
  if (rI2 h 304 o0 v1.toNatClampNeg) = nI 2 then (
    mv_gd (mv_inb (nI 1) 4) <|
    some ([Sum.inl (Value.int (x1 - (rI2 h 300 o0 (nI 1).toNatClampNeg)))], h))
  else
  if (rI2 h 304 o0 v1.toNatClampNeg) = nI 3 then (
    some ([Sum.inl (Value.int ((x1 + (nI 3)) * (nI 2)))], h))
  else
  if (rI2 h 304 o0 v1.toNatClampNeg) = nI 4 then (
    mv_gd (mv_inb (nI 1) 4) <|
    mv_gd (mv_inb (nI 2) 4) <|
    some ([Sum.inl (Value.int ((x1 - (rI2 h 300 o0 (nI 1).toNatClampNeg)) + (rI2 h 300 o0 (nI 2).toNatClampNeg)))], h))
  else
  if (rI2 h 304 o0 v1.toNatClampNeg) = nI 5 then (
    mv_gd (!decide ((nI 2) = 0)) <|
    some ([Sum.inl (Value.int (x1 / (nI 2)))], h))
  else
  some ([Sum.inl (Value.int x1)], h)
def cM_takes : List mv_V → H2 → (List mv_V → H2 → O2) → O2 := fun as h k => match as with
  | [.inr (t0, o0), .inl (.int v1), .inl (.int v2)] => mv_gd (Nat.beq t0 2) <| mv_rI (fM_takes o0 v1 v2 h) fun x h => k [.inl (.int x)] h
  | _ => none
def fM_fights (o0 : Nat) (v1 : Int32) (v2 : Int32) (h : H2) : O2 :=
  mv_gd (mv_inb v2 8) <|
  mv_bi (rI2 h 302 o0 v2.toNatClampNeg) fun x1 =>
  mv_gd (mv_inb v1 8) <|
  if (rI2 h 304 o0 v1.toNatClampNeg) = nI 1 then (
    mv_gd (mv_inb (nI 2) 4) <|
    some ([Sum.inl (Value.int (x1 - (rI2 h 300 o0 (nI 2).toNatClampNeg)))], h))
  else
  if (rI2 h 304 o0 v1.toNatClampNeg) = nI 2 then (
    mv_gd (mv_inb (nI 2) 4) <|
    some ([Sum.inl (Value.int (x1 + (rI2 h 300 o0 (nI 2).toNatClampNeg)))], h))
  else
  if (rI2 h 304 o0 v1.toNatClampNeg) = nI 3 then (
    mv_gd (mv_inb (nI 2) 4) <|
    mv_gd (mv_inb (nI 0) 4) <|
    some ([Sum.inl (Value.int ((x1 - (rI2 h 300 o0 (nI 2).toNatClampNeg)) + (rI2 h 300 o0 (nI 0).toNatClampNeg)))], h))
  else
  if (rI2 h 304 o0 v1.toNatClampNeg) = nI 4 then (
    mv_gd (mv_inb (nI 2) 4) <|
    some ([Sum.inl (Value.int ((x1 + (rI2 h 300 o0 (nI 2).toNatClampNeg)) * (nI 2)))], h))
  else
  if (rI2 h 304 o0 v1.toNatClampNeg) = nI 5 then (
    some ([Sum.inl (Value.int (x1 + (nI 1)))], h))
  else
  some ([Sum.inl (Value.int x1)], h)
def cM_fights : List mv_V → H2 → (List mv_V → H2 → O2) → O2 := fun as h k => match as with
  | [.inr (t0, o0), .inl (.int v1), .inl (.int v2)] => mv_gd (Nat.beq t0 2) <| mv_rI (fM_fights o0 v1 v2 h) fun x h => k [.inl (.int x)] h
  | _ => none
def fM_settle (o0 : Nat) (v1 : Int32) (v2 : Int32) (h : H2) : O2 :=
  if 0 < v2 then (
    if (nI 99) ≤ v2 then (
      mv_gd (mv_inb v1 8) <|
      mv_bh (wI2 h 306 o0 v1.toNatClampNeg (nI 99)) fun h1 =>
      some ([], h1))
    else
    mv_gd (mv_inb v1 8) <|
    mv_bh (wI2 h 306 o0 v1.toNatClampNeg v2) fun h2 =>
    some ([], h2))
  else
  mv_gd (mv_inb v1 8) <|
  mv_bh (wI2 h 306 o0 v1.toNatClampNeg (nI 0)) fun h3 =>
  mv_gd (mv_inb v1 8) <|
  mv_bh (wI2 h3 305 o0 v1.toNatClampNeg (-(nI 1))) fun h4 =>
  some ([], h4)
def cM_settle : List mv_V → H2 → (List mv_V → H2 → O2) → O2 := fun as h k => match as with
  | [.inr (t0, o0), .inl (.int v1), .inl (.int v2)] => mv_gd (Nat.beq t0 2) <| mv_rV (fM_settle o0 v1 v2 h) fun h => k [] h
  | _ => none
def fM_dipInto_b84 (o0 : Nat) (v1 : Int32) (v2 : Int32) (v4 : Int32) (h : H2) : O2 :=
  mv_rV (fM_settle o0 v1 v4 h) fun h1 =>
  mv_gd (mv_inb v1 8) <|
  if (nI 9999) ≤ (rI2 h1 308 o0 v1.toNatClampNeg) then (
    mv_gd (mv_inb v2 8) <|
    if (rI2 h1 302 o0 v2.toNatClampNeg) ≤ 0 then (
      some ([], h1))
    else
    mv_gd (mv_inb v2 8) <|
    mv_gd (mv_inb v2 8) <|
    mv_bh (wI2 h1 302 o0 v2.toNatClampNeg ((rI2 h1 302 o0 v2.toNatClampNeg) - (nI 1))) fun h2 =>
    some ([], h2))
  else
  mv_gd (mv_inb v1 8) <|
  mv_gd (mv_inb v1 8) <|
  mv_bh (wI2 h1 308 o0 v1.toNatClampNeg ((rI2 h1 308 o0 v1.toNatClampNeg) + (nI 1))) fun h3 =>
  mv_gd (mv_inb v2 8) <|
  if (rI2 h3 302 o0 v2.toNatClampNeg) ≤ 0 then (
    some ([], h3))
  else
  mv_gd (mv_inb v2 8) <|
  mv_gd (mv_inb v2 8) <|
  mv_bh (wI2 h3 302 o0 v2.toNatClampNeg ((rI2 h3 302 o0 v2.toNatClampNeg) - (nI 1))) fun h4 =>
  some ([], h4)
def fM_dipInto_b27 (o0 : Nat) (v1 : Int32) (v2 : Int32) (v3 : Int32) (h : H2) : O2 :=
  mv_gd (mv_inb v1 8) <|
  mv_bh (wI2 h 305 o0 v1.toNatClampNeg v3) fun h1 =>
  mv_gd (mv_inb v1 8) <|
  mv_rI (fM_takes o0 v1 v2 h1) fun r3 h2 =>
  mv_bi ((rI2 h1 306 o0 v1.toNatClampNeg) + r3) fun x4 =>
  fM_dipInto_b84 o0 v1 v2 x4 h2
def fM_dipInto (o0 : Nat) (v1 : Int32) (v2 : Int32) (h : H2) : O2 :=
  mv_gd (mv_inb v2 8) <|
  mv_bi (rI2 h 301 o0 v2.toNatClampNeg) fun x1 =>
  mv_gd (mv_inb v1 8) <|
  if (rI2 h 305 o0 v1.toNatClampNeg) = (-(nI 1)) then (
    fM_dipInto_b27 o0 v1 v2 x1 h)
  else
  mv_gd (mv_inb v1 8) <|
  if (rI2 h 305 o0 v1.toNatClampNeg) = x1 then (
    fM_dipInto_b27 o0 v1 v2 x1 h)
  else
  mv_gd (mv_inb v1 8) <|
  mv_rI (fM_fights o0 v1 v2 h) fun r3 h2 =>
  mv_bi ((rI2 h 306 o0 v1.toNatClampNeg) - r3) fun x4 =>
  if 0 ≤ x4 then (
    fM_dipInto_b84 o0 v1 v2 x4 h2)
  else
  mv_gd (mv_inb v1 8) <|
  mv_bh (wI2 h2 305 o0 v1.toNatClampNeg x1) fun h5 =>
  mv_bi (-x4) fun x6 =>
  fM_dipInto_b84 o0 v1 v2 x6 h5
def cM_dipInto : List mv_V → H2 → (List mv_V → H2 → O2) → O2 := fun as h k => match as with
  | [.inr (t0, o0), .inl (.int v1), .inl (.int v2)] => mv_gd (Nat.beq t0 2) <| mv_rV (fM_dipInto o0 v1 v2 h) fun h => k [] h
  | _ => none
def fM_fades (o0 : Nat) (v1 : Int32) (h : H2) : O2 :=
  mv_gd (mv_inb (nI 1) 4) <|
  mv_bi (rI2 h 300 o0 (nI 1).toNatClampNeg) fun x1 =>
  mv_gd (mv_inb v1 8) <|
  if (rI2 h 304 o0 v1.toNatClampNeg) = nI 1 then (
    some ([Sum.inl (Value.int (x1 - (nI 1)))], h))
  else
  if (rI2 h 304 o0 v1.toNatClampNeg) = nI 2 then (
    some ([Sum.inl (Value.int (x1 + (nI 1)))], h))
  else
  if (rI2 h 304 o0 v1.toNatClampNeg) = nI 3 then (
    some ([Sum.inl (Value.int (nI 0))], h))
  else
  if (rI2 h 304 o0 v1.toNatClampNeg) = nI 4 then (
    some ([Sum.inl (Value.int ((x1 + (nI 1)) * (nI 2)))], h))
  else
  if (rI2 h 304 o0 v1.toNatClampNeg) = nI 5 then (
    some ([Sum.inl (Value.int (x1 + (nI 3)))], h))
  else
  some ([Sum.inl (Value.int x1)], h)
def cM_fades : List mv_V → H2 → (List mv_V → H2 → O2) → O2 := fun as h k => match as with
  | [.inr (t0, o0), .inl (.int v1)] => mv_gd (Nat.beq t0 2) <| mv_rI (fM_fades o0 v1 h) fun x h => k [.inl (.int x)] h
  | _ => none
def fM_deepen (o0 : Nat) (v1 : Int32) (v2 : Int32) (h : H2) : O2 :=
  mv_gd (mv_inb v1 8) <|
  if (rI2 h 305 o0 v1.toNatClampNeg) = (-(nI 1)) then (
    some ([], h))
  else
  mv_rV (fM_settle o0 v1 v2 h) fun h1 =>
  some ([], h1)
def cM_deepen : List mv_V → H2 → (List mv_V → H2 → O2) → O2 := fun as h k => match as with
  | [.inr (t0, o0), .inl (.int v1), .inl (.int v2)] => mv_gd (Nat.beq t0 2) <| mv_rV (fM_deepen o0 v1 v2 h) fun h => k [] h
  | _ => none
def fM_passDay_b86 : Nat → Nat → Int32 → H2 → O2
  | 0 => fun _ _ _ => none
  | n + 1 => fun o0 v2 h =>
    if (nI 8) ≤ v2 then (
      mv_bh (wI2 h 2 o0 10 ((rI2 h 2 o0 10) + (nI 1))) fun h1 =>
      some ([], h1))
    else
    mv_gd (mv_inb v2 8) <|
    if (nI 9) ≤ (rI2 h 302 o0 v2.toNatClampNeg) then (
      mv_bi (v2 + (nI 1)) fun x2 =>
      fM_passDay_b86 n o0 x2 h)
    else
    mv_gd (mv_inb v2 8) <|
    mv_gd (mv_inb v2 8) <|
    mv_bh (wI2 h 302 o0 v2.toNatClampNeg ((rI2 h 302 o0 v2.toNatClampNeg) + (nI 1))) fun h3 =>
    mv_bi (v2 + (nI 1)) fun x4 =>
    fM_passDay_b86 n o0 x4 h3
def fM_passDay_b43 : Nat → Nat → Int32 → H2 → O2
  | 0 => fun _ _ _ => none
  | n + 1 => fun o0 v2 h =>
    if (rI2 h 2 o0 9) ≤ v2 then (
      mv_bi (nI 0) fun x1 =>
      fM_passDay_b86 1000 o0 x1 h)
    else
    mv_gd (mv_inb v2 8) <|
    if (rI2 h 307 o0 v2.toNatClampNeg) = (nI 1) then (
      mv_gd (mv_inb v2 8) <|
      mv_rI (fM_fades o0 v2 h) fun r3 h2 =>
      mv_rV (fM_deepen o0 v2 ((rI2 h 306 o0 v2.toNatClampNeg) - r3) h2) fun h4 =>
      mv_bi (v2 + (nI 1)) fun x5 =>
      fM_passDay_b43 n o0 x5 h4)
    else
    mv_bi (v2 + (nI 1)) fun x6 =>
    fM_passDay_b43 n o0 x6 h
def fM_passDay_b7 : Nat → Nat → Int32 → Int32 → H2 → O2
  | 0 => fun _ _ _ _ => none
  | n + 1 => fun o0 v1 v2 h =>
    if (rI2 h 2 o0 9) ≤ v2 then (
      mv_bi (nI 0) fun x1 =>
      fM_passDay_b43 1000 o0 x1 h)
    else
    if v1 = (-(nI 1)) then (
      mv_bi (nI 0) fun x2 =>
      fM_passDay_b43 1000 o0 x2 h)
    else
    mv_gd (mv_inb v2 8) <|
    if (rI2 h 307 o0 v2.toNatClampNeg) = 0 then (
      mv_rV (fM_dipInto o0 v2 v1 h) fun h3 =>
      mv_bi (v2 + (nI 1)) fun x4 =>
      fM_passDay_b7 n o0 v1 x4 h3)
    else
    mv_bi (v2 + (nI 1)) fun x5 =>
    fM_passDay_b7 n o0 v1 x5 h
def fM_passDay (o0 : Nat) (h : H2) : O2 :=
  mv_rI (fM_vatOfToday o0 h) fun r2 h1 =>
  mv_bi r2 fun x3 =>
  mv_bi (nI 0) fun x4 =>
  fM_passDay_b7 1000 o0 x3 x4 h1
def cM_passDay : List mv_V → H2 → (List mv_V → H2 → O2) → O2 := fun as h k => match as with
  | [.inr (t0, o0)] => mv_gd (Nat.beq t0 2) <| mv_rV (fM_passDay o0 h) fun h => k [] h
  | _ => none
def fM_passDays_b2 : Nat → Nat → Int32 → Int32 → H2 → O2
  | 0 => fun _ _ _ _ => none
  | n + 1 => fun o0 v1 v2 h =>
    if v1 ≤ v2 then (
      some ([], h))
    else
    mv_rV (fM_passDay o0 h) fun h1 =>
    mv_bi (v2 + (nI 1)) fun x2 =>
    fM_passDays_b2 n o0 v1 x2 h1
def fM_passDays (o0 : Nat) (v1 : Int32) (h : H2) : O2 :=
  mv_bi (nI 0) fun x1 =>
  fM_passDays_b2 1000 o0 v1 x1 h
def cM_passDays : List mv_V → H2 → (List mv_V → H2 → O2) → O2 := fun as h k => match as with
  | [.inr (t0, o0), .inl (.int v1)] => mv_gd (Nat.beq t0 2) <| mv_rV (fM_passDays o0 v1 h) fun h => k [] h
  | _ => none
def fF_behind (o0 : Nat) (o1 : Nat) (v2 : Int32) (h : H2) : O2 :=
  mv_rV (fM_copyFrom 3 o1 h) fun h1 =>
  mv_rV (fM_passDays 3 v2 h1) fun h2 =>
  some ([Sum.inr (2, 3)], h2)
def cF_behind : List mv_V → H2 → (List mv_V → H2 → O2) → O2 := fun as h k => match as with
  | [.inr (t0, o0), .inr (t1, o1), .inl (.int v2)] => mv_gd (Nat.beq t0 1) <| mv_gd (Nat.beq t1 2) <| mv_rR 2 (fF_behind o0 o1 v2 h) fun x h => k [.inr (2, x)] h
  | _ => none
def fM_allDepths_b4 : Nat → Nat → Int32 → Int32 → H2 → O2
  | 0 => fun _ _ _ _ => none
  | n + 1 => fun o0 v1 v2 h =>
    if (rI2 h 2 o0 9) ≤ v2 then (
      some ([Sum.inl (Value.int v1)], h))
    else
    mv_gd (mv_inb v2 8) <|
    mv_bi (v1 + (rI2 h 306 o0 v2.toNatClampNeg)) fun x1 =>
    mv_bi (v2 + (nI 1)) fun x2 =>
    fM_allDepths_b4 n o0 x1 x2 h
def fM_allDepths (o0 : Nat) (h : H2) : O2 :=
  mv_bi (nI 0) fun x1 =>
  mv_bi (nI 0) fun x2 =>
  fM_allDepths_b4 1000 o0 x1 x2 h
def cM_allDepths : List mv_V → H2 → (List mv_V → H2 → O2) → O2 := fun as h k => match as with
  | [.inr (t0, o0)] => mv_gd (Nat.beq t0 2) <| mv_rI (fM_allDepths o0 h) fun x h => k [.inl (.int x)] h
  | _ => none
def fM_draw (o0 : Nat) (h : H2) : O2 :=
  mv_bh (wI2 h 2 o0 11 (((rI2 h 2 o0 11) * (nI 1103515245)) + (nI 12345))) fun h1 =>
  some ([Sum.inl (Value.int (((rI2 h1 2 o0 11).toUInt32 >>> ((nI 16).toUInt32 &&& Int32.toUInt32 31)).toInt32))], h1)
def cM_draw : List mv_V → H2 → (List mv_V → H2 → O2) → O2 := fun as h k => match as with
  | [.inr (t0, o0)] => mv_gd (Nat.beq t0 2) <| mv_rI (fM_draw o0 h) fun x h => k [.inl (.int x)] h
  | _ => none
def fM_passDrawnDay (o0 : Nat) (h : H2) : O2 :=
  if (rI2 h 2 o0 9) ≤ 0 then (
    mv_rV (fM_passDay o0 h) fun h1 =>
    some ([], h1))
  else
  mv_rI (fM_draw o0 h) fun r3 h2 =>
  mv_gd (!decide ((rI2 h2 2 o0 9) = 0)) <|
  mv_bi (r3 - r3 / (rI2 h2 2 o0 9) * (rI2 h2 2 o0 9)) fun x4 =>
  mv_rI (fM_draw o0 h2) fun r6 h5 =>
  mv_gd (!decide ((nI 100) = 0)) <|
  mv_gd (mv_inb (nI 3) 4) <|
  if (rI2 h5 300 o0 (nI 3).toNatClampNeg) ≤ (r6 - r6 / (nI 100) * (nI 100)) then (
    mv_rV (fM_passDay o0 h5) fun h7 =>
    some ([], h7))
  else
  mv_rI (fM_draw o0 h5) fun r9 h8 =>
  mv_gd (!decide ((nI 8) = 0)) <|
  mv_rV (fM_dipInto o0 x4 (r9 - r9 / (nI 8) * (nI 8)) h8) fun h10 =>
  mv_rV (fM_passDay o0 h10) fun h11 =>
  some ([], h11)
def cM_passDrawnDay : List mv_V → H2 → (List mv_V → H2 → O2) → O2 := fun as h k => match as with
  | [.inr (t0, o0)] => mv_gd (Nat.beq t0 2) <| mv_rV (fM_passDrawnDay o0 h) fun h => k [] h
  | _ => none
def fF_luckyDays_b22 : Nat → Nat → Nat → Int32 → Int32 → Int32 → Int32 → Int32 → H2 → O2
  | 0 => fun _ _ _ _ _ _ _ _ => none
  | n + 1 => fun o0 o1 v2 v3 v4 v5 v6 h =>
    if v2 ≤ v6 then (
      some ([Sum.inl (Value.int v5)], h))
    else
    mv_rV (fM_copyFrom 3 o1 h) fun h1 =>
    mv_bh (wI2 h1 2 3 11 v4) fun h2 =>
    mv_rV (fM_passDrawnDay 3 h2) fun h3 =>
    mv_bi (rI2 h3 2 3 11) fun x4 =>
    mv_rI (fM_allDepths 3 h3) fun r6 h5 =>
    if r6 ≤ v3 then (
      mv_bi (v6 + (nI 1)) fun x7 =>
      fF_luckyDays_b22 n o0 o1 v2 v3 x4 v5 x7 h5)
    else
    mv_bi (v5 + (nI 1)) fun x8 =>
    mv_bi (v6 + (nI 1)) fun x9 =>
    fF_luckyDays_b22 n o0 o1 v2 v3 x4 x8 x9 h5
def fF_luckyDays (o0 : Nat) (o1 : Nat) (v2 : Int32) (h : H2) : O2 :=
  mv_rR 2 (fF_behind o0 o1 (nI 1) h) fun r2 h1 =>
  mv_rI (fM_allDepths r2 h1) fun r4 h3 =>
  mv_bi r4 fun x5 =>
  mv_bi (rI2 h3 2 o1 11) fun x6 =>
  mv_bi (nI 0) fun x7 =>
  mv_bi (nI 0) fun x8 =>
  fF_luckyDays_b22 1000 o0 o1 v2 x5 x6 x7 x8 h3
def cF_luckyDays : List mv_V → H2 → (List mv_V → H2 → O2) → O2 := fun as h k => match as with
  | [.inr (t0, o0), .inr (t1, o1), .inl (.int v2)] => mv_gd (Nat.beq t0 1) <| mv_gd (Nat.beq t1 2) <| mv_rI (fF_luckyDays o0 o1 v2 h) fun x h => k [.inl (.int x)] h
  | _ => none
def fF_daysUntilAbout_b11 : Nat → Nat → Int32 → Int32 → Int32 → H2 → O2
  | 0 => fun _ _ _ _ _ => none
  | n + 1 => fun o0 v2 v3 v4 h =>
    if (nI 60) < v4 then (
      some ([Sum.inl (Value.int (-(nI 3)))], h))
    else
    mv_gd (mv_inb v2 8) <|
    if (rI2 h 305 3 v2.toNatClampNeg) = v3 then (
      some ([Sum.inl (Value.int v4)], h))
    else
    mv_rV (fM_passDay 3 h) fun h1 =>
    mv_bi (v4 + (nI 1)) fun x2 =>
    fF_daysUntilAbout_b11 n o0 v2 v3 x2 h1
def fF_daysUntilAbout (o0 : Nat) (o1 : Nat) (v2 : Int32) (v3 : Int32) (h : H2) : O2 :=
  mv_rV (fM_copyFrom 3 o1 h) fun h1 =>
  mv_bi (nI 0) fun x2 =>
  fF_daysUntilAbout_b11 1000 o0 v2 v3 x2 h1
def cF_daysUntilAbout : List mv_V → H2 → (List mv_V → H2 → O2) → O2 := fun as h k => match as with
  | [.inr (t0, o0), .inr (t1, o1), .inl (.int v2), .inl (.int v3)] => mv_gd (Nat.beq t0 1) <| mv_gd (Nat.beq t1 2) <| mv_rI (fF_daysUntilAbout o0 o1 v2 v3 h) fun x h => k [.inl (.int x)] h
  | _ => none
def fF_spoiltFromHere_b13 : Nat → Nat → Nat → Int32 → Int32 → H2 → O2
  | 0 => fun _ _ _ _ _ => none
  | n + 1 => fun o0 o1 v3 v4 h =>
    if (rI2 h 2 o1 9) ≤ v4 then (
      some ([Sum.inl (Value.int v3)], h))
    else
    mv_gd (mv_inb v4 8) <|
    mv_gd (mv_inb v4 8) <|
    if (rI2 h 305 3 v4.toNatClampNeg) = (rI2 h 305 o1 v4.toNatClampNeg) then (
      mv_bi (v4 + (nI 1)) fun x1 =>
      fF_spoiltFromHere_b13 n o0 o1 v3 x1 h)
    else
    mv_bi (v3 + (nI 1)) fun x2 =>
    mv_bi (v4 + (nI 1)) fun x3 =>
    fF_spoiltFromHere_b13 n o0 o1 x2 x3 h
def fF_spoiltFromHere (o0 : Nat) (o1 : Nat) (v2 : Int32) (h : H2) : O2 :=
  mv_rV (fM_passDays 3 v2 h) fun h1 =>
  mv_bi (nI 0) fun x2 =>
  mv_bi (nI 0) fun x3 =>
  fF_spoiltFromHere_b13 1000 o0 o1 x2 x3 h1
def cF_spoiltFromHere : List mv_V → H2 → (List mv_V → H2 → O2) → O2 := fun as h k => match as with
  | [.inr (t0, o0), .inr (t1, o1), .inl (.int v2)] => mv_gd (Nat.beq t0 1) <| mv_gd (Nat.beq t1 2) <| mv_rI (fF_spoiltFromHere o0 o1 v2 h) fun x h => k [.inl (.int x)] h
  | _ => none
def fF_spoiltBehind (o0 : Nat) (o1 : Nat) (v2 : Int32) (h : H2) : O2 :=
  mv_rV (fM_copyFrom 3 o1 h) fun h1 =>
  mv_rI (fF_spoiltFromHere o0 o1 v2 h1) fun r3 h2 =>
  some ([Sum.inl (Value.int r3)], h2)
def cF_spoiltBehind : List mv_V → H2 → (List mv_V → H2 → O2) → O2 := fun as h k => match as with
  | [.inr (t0, o0), .inr (t1, o1), .inl (.int v2)] => mv_gd (Nat.beq t0 1) <| mv_gd (Nat.beq t1 2) <| mv_rI (fF_spoiltBehind o0 o1 v2 h) fun x h => k [.inl (.int x)] h
  | _ => none
def fF_leadsTo_b54 : Nat → Nat → Int32 → Int32 → Int32 → Int32 → H2 → O2
  | 0 => fun _ _ _ _ _ _ => none
  | n + 1 => fun o0 v2 v3 v5 v6 h =>
    if v6 < 0 then (
      mv_gd (mv_inb v2 8) <|
      if (rI2 h 305 3 v2.toNatClampNeg) = v3 then (
        mv_gd (decide (nI 1 = nI 0) || decide (nI 1 = nI 1)) <| some ([Sum.inl (Value.int (nI 1))], h))
      else
      mv_gd (decide (nI 0 = nI 0) || decide (nI 0 = nI 1)) <| some ([Sum.inl (Value.int (nI 0))], h))
    else
    mv_rV (fM_dipInto 3 v2 ((v5 >>> (((nI 3) * v6) &&& 31)) &&& (nI 7)) h) fun h1 =>
    mv_bi (v6 + (-(nI 1))) fun x2 =>
    fF_leadsTo_b54 n o0 v2 v3 v5 x2 h1
def fF_leadsTo (o0 : Nat) (o1 : Nat) (v2 : Int32) (v3 : Int32) (v4 : Int32) (v5 : Int32) (h : H2) : O2 :=
  mv_gd (decide (nI 0 = nI 0) && (decide (nI 0 = nI 0) && (!decide ((nI 8) < 0) && (Nat.ble (nI 8).toNatClampNeg 8 && Nat.ble (nI 8).toNatClampNeg 8)))) <|
  mv_bh (cp2 h 302 o1 3 (nI 8).toNatClampNeg 0) fun h1 =>
  mv_gd (mv_inb v2 8) <|
  mv_gd (mv_inb v2 8) <|
  mv_bh (wI2 h1 305 3 v2.toNatClampNeg (rI2 h1 305 o1 v2.toNatClampNeg)) fun h2 =>
  mv_gd (mv_inb v2 8) <|
  mv_gd (mv_inb v2 8) <|
  mv_bh (wI2 h2 306 3 v2.toNatClampNeg (rI2 h2 306 o1 v2.toNatClampNeg)) fun h3 =>
  mv_bi (v4 - (nI 1)) fun x4 =>
  fF_leadsTo_b54 1000 o0 v2 v3 v5 x4 h3
def cF_leadsTo : List mv_V → H2 → (List mv_V → H2 → O2) → O2 := fun as h k => match as with
  | [.inr (t0, o0), .inr (t1, o1), .inl (.int v2), .inl (.int v3), .inl (.int v4), .inl (.int v5)] => mv_gd (Nat.beq t0 1) <| mv_gd (Nat.beq t1 2) <| mv_rI (fF_leadsTo o0 o1 v2 v3 v4 v5 h) fun x h => k [.inl (.int x)] h
  | _ => none
def fF_vatsThrough_b23 (k14 : Nat → Nat → Int32 → Int32 → Int32 → Int32 → H2 → O2) : Nat → Nat → Nat → Int32 → Int32 → Int32 → Int32 → Int32 → H2 → O2
  | 0 => fun _ _ _ _ _ _ _ _ => none
  | n + 1 => fun o0 o1 v2 v3 v4 v5 v6 h =>
    if v4 ≤ v6 then (
      mv_bi (v4 * (nI 8)) fun x1 =>
      mv_bi (v5 + (nI 1)) fun x2 =>
      k14 o0 o1 v2 v3 x1 x2 h)
    else
    mv_rI (fF_leadsTo o0 o1 v2 v3 v5 v6 h) fun r4 h3 =>
    if r4 = 0 then (
      mv_bi (v6 + (nI 1)) fun x5 =>
      fF_vatsThrough_b23 k14 n o0 o1 v2 v3 v4 v5 x5 h3)
    else
    some ([Sum.inl (Value.int (v4 + v6))], h3)
def fF_vatsThrough_b14 : Nat → Nat → Nat → Int32 → Int32 → Int32 → Int32 → H2 → O2
  | 0 => fun _ _ _ _ _ _ _ => none
  | n + 1 => fun o0 o1 v2 v3 v4 v5 h =>
    if (nI 3) < v5 then (
      some ([Sum.inl (Value.int (-(nI 3)))], h))
    else
    mv_bi (nI 0) fun x1 =>
    fF_vatsThrough_b23 (fF_vatsThrough_b14 n) 1000 o0 o1 v2 v3 v4 v5 x1 h
def fF_vatsThrough (o0 : Nat) (o1 : Nat) (v2 : Int32) (v3 : Int32) (h : H2) : O2 :=
  mv_rV (fM_copyFrom 3 o1 h) fun h1 =>
  mv_bi (nI 1) fun x2 =>
  mv_bi (nI 0) fun x3 =>
  fF_vatsThrough_b14 1000 o0 o1 v2 v3 x2 x3 h1
def cF_vatsThrough : List mv_V → H2 → (List mv_V → H2 → O2) → O2 := fun as h k => match as with
  | [.inr (t0, o0), .inr (t1, o1), .inl (.int v2), .inl (.int v3)] => mv_gd (Nat.beq t0 1) <| mv_gd (Nat.beq t1 2) <| mv_rI (fF_vatsThrough o0 o1 v2 v3 h) fun x h => k [.inl (.int x)] h
  | _ => none
def fF_deepestVat_b9 : Nat → Nat → Nat → Int32 → Int32 → Int32 → Int32 → Int32 → H2 → O2
  | 0 => fun _ _ _ _ _ _ _ _ => none
  | n + 1 => fun o0 o1 v2 v3 v4 v5 v6 h =>
    if (nI 8) ≤ v6 then (
      some ([Sum.inl (Value.int v4)], h))
    else
    mv_rV (fM_copyFrom 3 o1 h) fun h1 =>
    mv_gd (mv_inb v2 6) <|
    mv_bh (wI2 h1 303 3 v2.toNatClampNeg v6) fun h2 =>
    mv_rV (fM_passDays 3 v3 h2) fun h3 =>
    mv_rI (fM_allDepths 3 h3) fun r5 h4 =>
    mv_bi r5 fun x6 =>
    if x6 ≤ v5 then (
      mv_bi (v6 + (nI 1)) fun x7 =>
      fF_deepestVat_b9 n o0 o1 v2 v3 v4 v5 x7 h4)
    else
    mv_bi x6 fun x8 =>
    mv_bi v6 fun x9 =>
    mv_bi (v6 + (nI 1)) fun x10 =>
    fF_deepestVat_b9 n o0 o1 v2 v3 x9 x8 x10 h4
def fF_deepestVat (o0 : Nat) (o1 : Nat) (v2 : Int32) (v3 : Int32) (h : H2) : O2 :=
  mv_bi (nI 0) fun x1 =>
  mv_bi (-(nI 1)) fun x2 =>
  mv_bi (nI 0) fun x3 =>
  fF_deepestVat_b9 1000 o0 o1 v2 v3 x1 x2 x3 h
def cF_deepestVat : List mv_V → H2 → (List mv_V → H2 → O2) → O2 := fun as h k => match as with
  | [.inr (t0, o0), .inr (t1, o1), .inl (.int v2), .inl (.int v3)] => mv_gd (Nat.beq t0 1) <| mv_gd (Nat.beq t1 2) <| mv_rI (fF_deepestVat o0 o1 v2 v3 h) fun x h => k [.inl (.int x)] h
  | _ => none
def fF_deepestKind_b9 : Nat → Nat → Nat → Int32 → Int32 → Int32 → Int32 → Int32 → H2 → O2
  | 0 => fun _ _ _ _ _ _ _ _ => none
  | n + 1 => fun o0 o1 v2 v3 v4 v5 v6 h =>
    if (nI 6) ≤ v6 then (
      some ([Sum.inl (Value.int v4)], h))
    else
    mv_rV (fM_copyFrom 3 o1 h) fun h1 =>
    mv_gd (mv_inb v2 8) <|
    mv_bh (wI2 h1 304 3 v2.toNatClampNeg v6) fun h2 =>
    mv_rV (fM_passDays 3 v3 h2) fun h3 =>
    mv_gd (mv_inb v2 8) <|
    if (rI2 h3 306 3 v2.toNatClampNeg) ≤ v5 then (
      mv_bi (v6 + (nI 1)) fun x4 =>
      fF_deepestKind_b9 n o0 o1 v2 v3 v4 v5 x4 h3)
    else
    mv_gd (mv_inb v2 8) <|
    mv_bi (rI2 h3 306 3 v2.toNatClampNeg) fun x5 =>
    mv_bi v6 fun x6 =>
    mv_bi (v6 + (nI 1)) fun x7 =>
    fF_deepestKind_b9 n o0 o1 v2 v3 x6 x5 x7 h3
def fF_deepestKind (o0 : Nat) (o1 : Nat) (v2 : Int32) (v3 : Int32) (h : H2) : O2 :=
  mv_bi (nI 0) fun x1 =>
  mv_bi (-(nI 1)) fun x2 =>
  mv_bi (nI 0) fun x3 =>
  fF_deepestKind_b9 1000 o0 o1 v2 v3 x1 x2 x3 h
def cF_deepestKind : List mv_V → H2 → (List mv_V → H2 → O2) → O2 := fun as h k => match as with
  | [.inr (t0, o0), .inr (t1, o1), .inl (.int v2), .inl (.int v3)] => mv_gd (Nat.beq t0 1) <| mv_gd (Nat.beq t1 2) <| mv_rI (fF_deepestKind o0 o1 v2 v3 h) fun x h => k [.inl (.int x)] h
  | _ => none
def fF_leastStrength_b3 : Nat → Nat → Nat → Int32 → Int32 → Int32 → Int32 → Int32 → H2 → O2
  | 0 => fun _ _ _ _ _ _ _ _ => none
  | n + 1 => fun o0 o1 v2 v3 v4 v5 v6 h =>
    if (nI 9) < v6 then (
      some ([Sum.inl (Value.int (-(nI 3)))], h))
    else
    mv_rV (fM_copyFrom 3 o1 h) fun h1 =>
    mv_gd (mv_inb v2 8) <|
    mv_bh (wI2 h1 302 3 v2.toNatClampNeg v6) fun h2 =>
    mv_rV (fM_passDays 3 v5 h2) fun h3 =>
    mv_gd (mv_inb v3 8) <|
    if (rI2 h3 305 3 v3.toNatClampNeg) = v4 then (
      some ([Sum.inl (Value.int v6)], h3))
    else
    mv_bi (v6 + (nI 1)) fun x4 =>
    fF_leastStrength_b3 n o0 o1 v2 v3 v4 v5 x4 h3
def fF_leastStrength (o0 : Nat) (o1 : Nat) (v2 : Int32) (v3 : Int32) (v4 : Int32) (v5 : Int32) (h : H2) : O2 :=
  mv_bi (nI 0) fun x1 =>
  fF_leastStrength_b3 1000 o0 o1 v2 v3 v4 v5 x1 h
def cF_leastStrength : List mv_V → H2 → (List mv_V → H2 → O2) → O2 := fun as h k => match as with
  | [.inr (t0, o0), .inr (t1, o1), .inl (.int v2), .inl (.int v3), .inl (.int v4), .inl (.int v5)] => mv_gd (Nat.beq t0 1) <| mv_gd (Nat.beq t1 2) <| mv_rI (fF_leastStrength o0 o1 v2 v3 v4 v5 h) fun x h => k [.inl (.int x)] h
  | _ => none
def fJ_bitCount_0f7a4 (v0 : Int32) (h : H2) : O2 :=
  mv_bi (v0 - (((v0.toUInt32 >>> ((nI 1).toUInt32 &&& Int32.toUInt32 31)).toInt32) &&& (nI 1431655765))) fun x1 =>
  mv_bi ((x1 &&& (nI 858993459)) + (((x1.toUInt32 >>> ((nI 2).toUInt32 &&& Int32.toUInt32 31)).toInt32) &&& (nI 858993459))) fun x2 =>
  mv_bi ((x2 + ((x2.toUInt32 >>> ((nI 4).toUInt32 &&& Int32.toUInt32 31)).toInt32)) &&& (nI 252645135)) fun x3 =>
  mv_bi (x3 + ((x3.toUInt32 >>> ((nI 8).toUInt32 &&& Int32.toUInt32 31)).toInt32)) fun x4 =>
  mv_bi (x4 + ((x4.toUInt32 >>> ((nI 16).toUInt32 &&& Int32.toUInt32 31)).toInt32)) fun x5 =>
  some ([Sum.inl (Value.int (x5 &&& (nI 63)))], h)
def cJ_bitCount_0f7a4 : List mv_V → H2 → (List mv_V → H2 → O2) → O2 := fun as h k => match as with
  | [.inl (.int v0)] => mv_rI (fJ_bitCount_0f7a4 v0 h) fun x h => k [.inl (.int x)] h
  | _ => none
def fF_hangJust_b10 : Nat → Nat → Nat → Int32 → Int32 → H2 → O2
  | 0 => fun _ _ _ _ _ => none
  | n + 1 => fun o0 o1 v2 v3 h =>
    if (rI2 h 2 o1 9) ≤ v3 then (
      some ([], h))
    else
    mv_gd (mv_inb v3 8) <|
    mv_bh (wI2 h 307 3 v3.toNatClampNeg ((v2 >>> (v3 &&& 31)) &&& (nI 1))) fun h1 =>
    mv_bi (v3 + (nI 1)) fun x2 =>
    fF_hangJust_b10 n o0 o1 v2 x2 h1
def fF_hangJust (o0 : Nat) (o1 : Nat) (v2 : Int32) (h : H2) : O2 :=
  mv_rV (fM_copyFrom 3 o1 h) fun h1 =>
  mv_bi (nI 0) fun x2 =>
  fF_hangJust_b10 1000 o0 o1 v2 x2 h1
def cF_hangJust : List mv_V → H2 → (List mv_V → H2 → O2) → O2 := fun as h k => match as with
  | [.inr (t0, o0), .inr (t1, o1), .inl (.int v2)] => mv_gd (Nat.beq t0 1) <| mv_gd (Nat.beq t1 2) <| mv_rV (fF_hangJust o0 o1 v2 h) fun h => k [] h
  | _ => none
def fF_fewestHung_b23 (k11 : Nat → Nat → Int32 → Int32 → Int32 → Int32 → H2 → O2) : Nat → Nat → Nat → Int32 → Int32 → Int32 → Int32 → Int32 → H2 → O2
  | 0 => fun _ _ _ _ _ _ _ _ => none
  | n + 1 => fun o0 o1 v2 v3 v4 v5 v6 h =>
    if v4 ≤ v6 then (
      mv_bi (v5 + (nI 1)) fun x1 =>
      k11 o0 o1 v2 v3 v4 x1 h)
    else
    mv_rI (fJ_bitCount_0f7a4 v6 h) fun r3 h2 =>
    if r3 = v5 then (
      mv_rV (fF_hangJust o0 o1 v6 h2) fun h4 =>
      mv_rI (fF_spoiltFromHere o0 o1 v2 h4) fun r6 h5 =>
      if v3 < r6 then (
        mv_bi (v6 + (nI 1)) fun x7 =>
        fF_fewestHung_b23 k11 n o0 o1 v2 v3 v4 v5 x7 h5)
      else
      some ([Sum.inl (Value.int v6)], h5))
    else
    mv_bi (v6 + (nI 1)) fun x8 =>
    fF_fewestHung_b23 k11 n o0 o1 v2 v3 v4 v5 x8 h2
def fF_fewestHung_b11 : Nat → Nat → Nat → Int32 → Int32 → Int32 → Int32 → H2 → O2
  | 0 => fun _ _ _ _ _ _ _ => none
  | n + 1 => fun o0 o1 v2 v3 v4 v5 h =>
    if (rI2 h 2 o1 9) < v5 then (
      some ([Sum.inl (Value.int (-(nI 3)))], h))
    else
    mv_bi (nI 0) fun x1 =>
    fF_fewestHung_b23 (fF_fewestHung_b11 n) 1000 o0 o1 v2 v3 v4 v5 x1 h
def fF_fewestHung (o0 : Nat) (o1 : Nat) (v2 : Int32) (v3 : Int32) (h : H2) : O2 :=
  mv_bi ((nI 1) <<< ((rI2 h 2 o1 9) &&& 31)) fun x1 =>
  mv_bi (nI 0) fun x2 =>
  fF_fewestHung_b11 1000 o0 o1 v2 v3 x1 x2 h
def cF_fewestHung : List mv_V → H2 → (List mv_V → H2 → O2) → O2 := fun as h k => match as with
  | [.inr (t0, o0), .inr (t1, o1), .inl (.int v2), .inl (.int v3)] => mv_gd (Nat.beq t0 1) <| mv_gd (Nat.beq t1 2) <| mv_rI (fF_fewestHung o0 o1 v2 v3 h) fun x h => k [.inl (.int x)] h
  | _ => none
def fS_size (o0 : Nat) (h : H2) : O2 :=
  mv_el (itm2 h o0) (
    none) fun r1 =>
  some ([Sum.inl (Value.int (nI (ln2 h 501 r1)))], h)
def cS_size : List mv_V → H2 → (List mv_V → H2 → O2) → O2 := fun as h k => match as with
  | [.inr (t0, o0)] => mv_gd (Nat.beq t0 4) <| mv_rI (fS_size o0 h) fun x h => k [.inl (.int x)] h
  | _ => none
def fS_read (o0 : Nat) (v1 : Int32) (h : H2) : O2 :=
  mv_el (itm2 h o0) (
    none) fun r1 =>
  mv_gd (mv_inb v1 (ln2 h 501 r1)) <|
  some ([Sum.inl (Value.int (rI2 h 501 r1 v1.toNatClampNeg))], h)
def cS_read : List mv_V → H2 → (List mv_V → H2 → O2) → O2 := fun as h k => match as with
  | [.inr (t0, o0), .inl (.int v1)] => mv_gd (Nat.beq t0 4) <| mv_rI (fS_read o0 v1 h) fun x h => k [.inl (.int x)] h
  | _ => none
def fF_fitsAs_b28 : Nat → Nat → Int32 → Nat → Int32 → Int32 → H2 → O2
  | 0 => fun _ _ _ _ _ _ => none
  | n + 1 => fun o0 v2 o4 v5 v6 h =>
    if v5 ≤ v6 then (
      mv_gd (decide (nI 1 = nI 0) || decide (nI 1 = nI 1)) <| some ([Sum.inl (Value.int (nI 1))], h))
    else
    mv_rV (fM_passDay 3 h) fun h1 =>
    mv_rI (fS_read o4 v6 h1) fun r3 h2 =>
    mv_bi r3 fun x4 =>
    if x4 = (-(nI 1)) then (
      mv_bi (v6 + (nI 1)) fun x5 =>
      fF_fitsAs_b28 n o0 v2 o4 v5 x5 h2)
    else
    mv_gd (mv_inb v2 8) <|
    if x4 = (rI2 h2 306 3 v2.toNatClampNeg) then (
      mv_bi (v6 + (nI 1)) fun x6 =>
      fF_fitsAs_b28 n o0 v2 o4 v5 x6 h2)
    else
    mv_gd (decide (nI 0 = nI 0) || decide (nI 0 = nI 1)) <| some ([Sum.inl (Value.int (nI 0))], h2)
def fF_fitsAs (o0 : Nat) (o1 : Nat) (v2 : Int32) (v3 : Int32) (o4 : Nat) (h : H2) : O2 :=
  mv_rV (fM_copyFrom 3 o1 h) fun h1 =>
  mv_gd (mv_inb v2 8) <|
  mv_bh (wI2 h1 305 3 v2.toNatClampNeg v3) fun h2 =>
  mv_rI (fS_size o4 h2) fun r4 h3 =>
  mv_bi r4 fun x5 =>
  mv_bi (nI 0) fun x6 =>
  fF_fitsAs_b28 1000 o0 v2 o4 x5 x6 h3
def cF_fitsAs : List mv_V → H2 → (List mv_V → H2 → O2) → O2 := fun as h k => match as with
  | [.inr (t0, o0), .inr (t1, o1), .inl (.int v2), .inl (.int v3), .inr (t4, o4)] => mv_gd (Nat.beq t0 1) <| mv_gd (Nat.beq t1 2) <| mv_gd (Nat.beq t4 4) <| mv_rI (fF_fitsAs o0 o1 v2 v3 o4 h) fun x h => k [.inl (.int x)] h
  | _ => none
def fF_manyFitting_b32 : Nat → Nat → Nat → Int32 → Nat → Int32 → Int32 → H2 → O2
  | 0 => fun _ _ _ _ _ _ _ => none
  | n + 1 => fun o0 o1 v2 o3 v4 v5 h =>
    if (nI 9) < v5 then (
      some ([Sum.inl (Value.int v4)], h))
    else
    mv_rI (fF_fitsAs o0 o1 v2 v5 o3 h) fun r2 h1 =>
    if r2 = 0 then (
      mv_bi (v5 + (nI 1)) fun x3 =>
      fF_manyFitting_b32 n o0 o1 v2 o3 v4 x3 h1)
    else
    mv_bi (v4 + (nI 1)) fun x4 =>
    mv_bi (v5 + (nI 1)) fun x5 =>
    fF_manyFitting_b32 n o0 o1 v2 o3 x4 x5 h1
def fF_manyFitting (o0 : Nat) (o1 : Nat) (v2 : Int32) (o3 : Nat) (h : H2) : O2 :=
  mv_gd (mv_inb v2 8) <|
  if (rI2 h 306 o1 v2.toNatClampNeg) = 0 then (
    mv_rI (fF_fitsAs o0 o1 v2 (-(nI 1)) o3 h) fun r2 h1 =>
    if r2 = 0 then (
      some ([Sum.inl (Value.int (nI 0))], h1))
    else
    some ([Sum.inl (Value.int (nI 1))], h1))
  else
  mv_bi (nI 0) fun x3 =>
  mv_bi (nI 0) fun x4 =>
  fF_manyFitting_b32 1000 o0 o1 v2 o3 x3 x4 h
def cF_manyFitting : List mv_V → H2 → (List mv_V → H2 → O2) → O2 := fun as h k => match as with
  | [.inr (t0, o0), .inr (t1, o1), .inl (.int v2), .inr (t3, o3)] => mv_gd (Nat.beq t0 1) <| mv_gd (Nat.beq t1 2) <| mv_gd (Nat.beq t3 4) <| mv_rI (fF_manyFitting o0 o1 v2 o3 h) fun x h => k [.inl (.int x)] h
  | _ => none
def fF_leastFitting_b30 : Nat → Nat → Nat → Int32 → Nat → Int32 → H2 → O2
  | 0 => fun _ _ _ _ _ _ => none
  | n + 1 => fun o0 o1 v2 o3 v4 h =>
    if (nI 9) < v4 then (
      some ([Sum.inl (Value.int (-(nI 3)))], h))
    else
    mv_rI (fF_fitsAs o0 o1 v2 v4 o3 h) fun r2 h1 =>
    if r2 = 0 then (
      mv_bi (v4 + (nI 1)) fun x3 =>
      fF_leastFitting_b30 n o0 o1 v2 o3 x3 h1)
    else
    some ([Sum.inl (Value.int ((nI 1) + v4))], h1)
def fF_leastFitting (o0 : Nat) (o1 : Nat) (v2 : Int32) (o3 : Nat) (h : H2) : O2 :=
  mv_gd (mv_inb v2 8) <|
  if (rI2 h 306 o1 v2.toNatClampNeg) = 0 then (
    mv_rI (fF_fitsAs o0 o1 v2 (-(nI 1)) o3 h) fun r2 h1 =>
    if r2 = 0 then (
      some ([Sum.inl (Value.int (-(nI 3)))], h1))
    else
    some ([Sum.inl (Value.int (nI 0))], h1))
  else
  mv_bi (nI 0) fun x3 =>
  fF_leastFitting_b30 1000 o0 o1 v2 o3 x3 h
def cF_leastFitting : List mv_V → H2 → (List mv_V → H2 → O2) → O2 := fun as h k => match as with
  | [.inr (t0, o0), .inr (t1, o1), .inl (.int v2), .inr (t3, o3)] => mv_gd (Nat.beq t0 1) <| mv_gd (Nat.beq t1 2) <| mv_gd (Nat.beq t3 4) <| mv_rI (fF_leastFitting o0 o1 v2 o3 h) fun x h => k [.inl (.int x)] h
  | _ => none
def fF_rowPart (o0 : Nat) (v1 : Int32) (v2 : Int32) (h : H2) : O2 :=
  if v2 = nI 0 then (
    mv_gd (mv_inb v1 8) <|
    some ([Sum.inl (Value.int ((nI 1) + (rI2 h 305 3 v1.toNatClampNeg)))], h))
  else
  if v2 = nI 1 then (
    mv_gd (mv_inb v1 8) <|
    some ([Sum.inl (Value.int (rI2 h 306 3 v1.toNatClampNeg))], h))
  else
  mv_rI (fM_allDepths 3 h) fun r2 h1 =>
  some ([Sum.inl (Value.int r2)], h1)
def cF_rowPart : List mv_V → H2 → (List mv_V → H2 → O2) → O2 := fun as h k => match as with
  | [.inr (t0, o0), .inl (.int v1), .inl (.int v2)] => mv_gd (Nat.beq t0 1) <| mv_rI (fF_rowPart o0 v1 v2 h) fun x h => k [.inl (.int x)] h
  | _ => none
def fR_write (o0 : Nat) (v1 : Int32) (v2 : Int32) (v3 : Int32) (h : H2) : O2 :=
  mv_gd (mv_inb ((v1 * (nI 3)) + v2) 30) <|
  mv_bh (wI2 h 400 o0 ((v1 * (nI 3)) + v2).toNatClampNeg v3) fun h1 =>
  some ([], h1)
def cR_write : List mv_V → H2 → (List mv_V → H2 → O2) → O2 := fun as h k => match as with
  | [.inr (t0, o0), .inl (.int v1), .inl (.int v2), .inl (.int v3)] => mv_gd (Nat.beq t0 3) <| mv_rV (fR_write o0 v1 v2 v3 h) fun h => k [] h
  | _ => none
def fF_writeRows_b33 (k17 : Nat → Int32 → Int32 → Nat → Int32 → H2 → O2) : Nat → Nat → Int32 → Int32 → Nat → Int32 → Int32 → H2 → O2
  | 0 => fun _ _ _ _ _ _ _ => none
  | n + 1 => fun o0 v2 v3 o4 v5 v6 h =>
    if (nI 3) ≤ v6 then (
      mv_bi (v5 + (nI 1)) fun x1 =>
      k17 o0 v2 v3 o4 x1 h)
    else
    mv_rI (fF_rowPart o0 v2 v6 h) fun r3 h2 =>
    mv_rV (fR_write o4 v5 v6 r3 h2) fun h4 =>
    mv_bi (v6 + (nI 1)) fun x5 =>
    fF_writeRows_b33 k17 n o0 v2 v3 o4 v5 x5 h4
def fF_writeRows_b17 : Nat → Nat → Int32 → Int32 → Nat → Int32 → H2 → O2
  | 0 => fun _ _ _ _ _ _ => none
  | n + 1 => fun o0 v2 v3 o4 v5 h =>
    if v3 ≤ v5 then (
      some ([], h))
    else
    mv_rV (fM_passDay 3 h) fun h1 =>
    mv_bi (nI 0) fun x2 =>
    fF_writeRows_b33 (fF_writeRows_b17 n) 1000 o0 v2 v3 o4 v5 x2 h1
def fF_writeRows (o0 : Nat) (o1 : Nat) (v2 : Int32) (v3 : Int32) (o4 : Nat) (h : H2) : O2 :=
  mv_rV (fM_copyFrom 3 o1 h) fun h1 =>
  mv_bh (wI2 h1 3 o4 1 v3) fun h2 =>
  mv_bi (nI 0) fun x3 =>
  fF_writeRows_b17 1000 o0 v2 v3 o4 x3 h2
def cF_writeRows : List mv_V → H2 → (List mv_V → H2 → O2) → O2 := fun as h k => match as with
  | [.inr (t0, o0), .inr (t1, o1), .inl (.int v2), .inl (.int v3), .inr (t4, o4)] => mv_gd (Nat.beq t0 1) <| mv_gd (Nat.beq t1 2) <| mv_gd (Nat.beq t4 3) <| mv_rV (fF_writeRows o0 o1 v2 v3 o4 h) fun h => k [] h
  | _ => none
def fR_read (o0 : Nat) (v1 : Int32) (v2 : Int32) (h : H2) : O2 :=
  mv_gd (mv_inb ((v1 * (nI 3)) + v2) 30) <|
  some ([Sum.inl (Value.int (rI2 h 400 o0 ((v1 * (nI 3)) + v2).toNatClampNeg))], h)
def cR_read : List mv_V → H2 → (List mv_V → H2 → O2) → O2 := fun as h k => match as with
  | [.inr (t0, o0), .inl (.int v1), .inl (.int v2)] => mv_gd (Nat.beq t0 3) <| mv_rI (fR_read o0 v1 v2 h) fun x h => k [.inl (.int x)] h
  | _ => none
def fF_firstWrongRow_b30 (k11 : Nat → Int32 → Nat → Int32 → H2 → O2) : Nat → Nat → Int32 → Nat → Int32 → Int32 → H2 → O2
  | 0 => fun _ _ _ _ _ _ => none
  | n + 1 => fun o0 v2 o3 v4 v5 h =>
    if (nI 3) ≤ v5 then (
      mv_bi (v4 + (nI 1)) fun x1 =>
      k11 o0 v2 o3 x1 h)
    else
    mv_rI (fR_read o3 v4 v5 h) fun r3 h2 =>
    mv_rI (fF_rowPart o0 v2 v5 h2) fun r5 h4 =>
    if r3 = r5 then (
      mv_bi (v5 + (nI 1)) fun x6 =>
      fF_firstWrongRow_b30 k11 n o0 v2 o3 v4 x6 h4)
    else
    some ([Sum.inl (Value.int (v4 + (nI 1)))], h4)
def fF_firstWrongRow_b11 : Nat → Nat → Int32 → Nat → Int32 → H2 → O2
  | 0 => fun _ _ _ _ _ => none
  | n + 1 => fun o0 v2 o3 v4 h =>
    if (rI2 h 3 o3 1) ≤ v4 then (
      some ([Sum.inl (Value.int (nI 0))], h))
    else
    mv_rV (fM_passDay 3 h) fun h1 =>
    mv_bi (nI 0) fun x2 =>
    fF_firstWrongRow_b30 (fF_firstWrongRow_b11 n) 1000 o0 v2 o3 v4 x2 h1
def fF_firstWrongRow (o0 : Nat) (o1 : Nat) (v2 : Int32) (o3 : Nat) (h : H2) : O2 :=
  mv_rV (fM_copyFrom 3 o1 h) fun h1 =>
  mv_bi (nI 0) fun x2 =>
  fF_firstWrongRow_b11 1000 o0 v2 o3 x2 h1
def cF_firstWrongRow : List mv_V → H2 → (List mv_V → H2 → O2) → O2 := fun as h k => match as with
  | [.inr (t0, o0), .inr (t1, o1), .inl (.int v2), .inr (t3, o3)] => mv_gd (Nat.beq t0 1) <| mv_gd (Nat.beq t1 2) <| mv_gd (Nat.beq t3 3) <| mv_rI (fF_firstWrongRow o0 o1 v2 o3 h) fun x h => k [.inl (.int x)] h
  | _ => none
def fM_becomeFirst_b59 : Nat → Nat → Int32 → H2 → O2
  | 0 => fun _ _ _ => none
  | n + 1 => fun o0 v1 h =>
    if (nI 6) ≤ v1 then (
      mv_bh (wI2 h 2 o0 9 (nI 0)) fun h1 =>
      mv_bh (wI2 h1 2 o0 10 (nI 0)) fun h2 =>
      some ([], h2))
    else
    mv_gd (mv_inb v1 6) <|
    mv_bh (wI2 h 303 o0 v1.toNatClampNeg v1) fun h3 =>
    mv_bi (v1 + (nI 1)) fun x4 =>
    fM_becomeFirst_b59 n o0 x4 h3
def fM_becomeFirst_b31 : Nat → Nat → Int32 → H2 → O2
  | 0 => fun _ _ _ => none
  | n + 1 => fun o0 v1 h =>
    if (nI 8) ≤ v1 then (
      mv_bi (nI 0) fun x1 =>
      fM_becomeFirst_b59 1000 o0 x1 h)
    else
    mv_gd (mv_inb v1 8) <|
    mv_bh (wI2 h 301 o0 v1.toNatClampNeg v1) fun h2 =>
    mv_gd (mv_inb v1 8) <|
    mv_bh (wI2 h2 302 o0 v1.toNatClampNeg (nI 5)) fun h3 =>
    mv_bi (v1 + (nI 1)) fun x4 =>
    fM_becomeFirst_b31 n o0 x4 h3
def fM_becomeFirst (o0 : Nat) (h : H2) : O2 :=
  mv_gd (mv_inb (nI 0) 4) <|
  mv_bh (wI2 h 300 o0 (nI 0).toNatClampNeg (nI 3)) fun h1 =>
  mv_gd (mv_inb (nI 1) 4) <|
  mv_bh (wI2 h1 300 o0 (nI 1).toNatClampNeg (nI 2)) fun h2 =>
  mv_gd (mv_inb (nI 2) 4) <|
  mv_bh (wI2 h2 300 o0 (nI 2).toNatClampNeg (nI 4)) fun h3 =>
  mv_gd (mv_inb (nI 3) 4) <|
  mv_bh (wI2 h3 300 o0 (nI 3).toNatClampNeg (nI 20)) fun h4 =>
  mv_bi (nI 0) fun x5 =>
  fM_becomeFirst_b31 1000 o0 x5 h4
def cM_becomeFirst : List mv_V → H2 → (List mv_V → H2 → O2) → O2 := fun as h k => match as with
  | [.inr (t0, o0)] => mv_gd (Nat.beq t0 2) <| mv_rV (fM_becomeFirst o0 h) fun h => k [] h
  | _ => none
def fV_isIn (v0 : Int32) (v1 : Int32) (v2 : Int32) (h : H2) : O2 :=
  if v0 < v1 then (
    mv_gd (decide (nI 0 = nI 0) || decide (nI 0 = nI 1)) <| some ([Sum.inl (Value.int (nI 0))], h))
  else
  if v2 < v0 then (
    mv_gd (decide (nI 0 = nI 0) || decide (nI 0 = nI 1)) <| some ([Sum.inl (Value.int (nI 0))], h))
  else
  mv_gd (decide (nI 1 = nI 0) || decide (nI 1 = nI 1)) <| some ([Sum.inl (Value.int (nI 1))], h)
def cV_isIn : List mv_V → H2 → (List mv_V → H2 → O2) → O2 := fun as h k => match as with
  | [.inl (.int v0), .inl (.int v1), .inl (.int v2)] => mv_rI (fV_isIn v0 v1 v2 h) fun x h => k [.inl (.int x)] h
  | _ => none
def fM_has (o0 : Nat) (v1 : Int32) (h : H2) : O2 :=
  mv_rI (fV_isIn v1 (nI 0) ((rI2 h 2 o0 9) - (nI 1)) h) fun r2 h1 =>
  mv_gd (decide (r2 = nI 0) || decide (r2 = nI 1)) <| some ([Sum.inl (Value.int r2)], h1)
def cM_has : List mv_V → H2 → (List mv_V → H2 → O2) → O2 := fun as h k => match as with
  | [.inr (t0, o0), .inl (.int v1)] => mv_gd (Nat.beq t0 2) <| mv_rI (fM_has o0 v1 h) fun x h => k [.inl (.int x)] h
  | _ => none
def fM_addCloth (o0 : Nat) (v1 : Int32) (h : H2) : O2 :=
  mv_bi (rI2 h 2 o0 9) fun x1 =>
  mv_gd (mv_inb x1 8) <|
  mv_bh (wI2 h 304 o0 x1.toNatClampNeg v1) fun h2 =>
  mv_gd (mv_inb x1 8) <|
  mv_bh (wI2 h2 305 o0 x1.toNatClampNeg (-(nI 1))) fun h3 =>
  mv_gd (mv_inb x1 8) <|
  mv_bh (wI2 h3 306 o0 x1.toNatClampNeg (nI 0)) fun h4 =>
  mv_gd (mv_inb x1 8) <|
  mv_bh (wI2 h4 307 o0 x1.toNatClampNeg (nI 0)) fun h5 =>
  mv_gd (mv_inb x1 8) <|
  mv_bh (wI2 h5 308 o0 x1.toNatClampNeg (nI 0)) fun h6 =>
  mv_bh (wI2 h6 2 o0 9 ((rI2 h6 2 o0 9) + (nI 1))) fun h7 =>
  some ([Sum.inl (Value.int x1)], h7)
def cM_addCloth : List mv_V → H2 → (List mv_V → H2 → O2) → O2 := fun as h k => match as with
  | [.inr (t0, o0), .inl (.int v1)] => mv_gd (Nat.beq t0 2) <| mv_rI (fM_addCloth o0 v1 h) fun x h => k [.inl (.int x)] h
  | _ => none
def fM_hungSet_b4 : Nat → Nat → Int32 → Int32 → H2 → O2
  | 0 => fun _ _ _ _ => none
  | n + 1 => fun o0 v1 v2 h =>
    if (rI2 h 2 o0 9) ≤ v2 then (
      some ([Sum.inl (Value.int v1)], h))
    else
    mv_gd (mv_inb v2 8) <|
    if (rI2 h 307 o0 v2.toNatClampNeg) = (nI 1) then (
      mv_bi (v1 ||| ((nI 1) <<< (v2 &&& 31))) fun x1 =>
      mv_bi (v2 + (nI 1)) fun x2 =>
      fM_hungSet_b4 n o0 x1 x2 h)
    else
    mv_bi (v2 + (nI 1)) fun x3 =>
    fM_hungSet_b4 n o0 v1 x3 h
def fM_hungSet (o0 : Nat) (h : H2) : O2 :=
  mv_bi (nI 0) fun x1 =>
  mv_bi (nI 0) fun x2 =>
  fM_hungSet_b4 1000 o0 x1 x2 h
def cM_hungSet : List mv_V → H2 → (List mv_V → H2 → O2) → O2 := fun as h k => match as with
  | [.inr (t0, o0)] => mv_gd (Nat.beq t0 2) <| mv_rI (fM_hungSet o0 h) fun x h => k [.inl (.int x)] h
  | _ => none
def fM_aboutSet_b4 : Nat → Nat → Int32 → Int32 → H2 → O2
  | 0 => fun _ _ _ _ => none
  | n + 1 => fun o0 v1 v2 h =>
    if (rI2 h 2 o0 9) ≤ v2 then (
      some ([Sum.inl (Value.int v1)], h))
    else
    mv_gd (mv_inb v2 8) <|
    if (rI2 h 305 o0 v2.toNatClampNeg) = (-(nI 1)) then (
      mv_bi (v2 + (nI 1)) fun x1 =>
      fM_aboutSet_b4 n o0 v1 x1 h)
    else
    mv_bi (v1 ||| ((nI 1) <<< (v2 &&& 31))) fun x2 =>
    mv_bi (v2 + (nI 1)) fun x3 =>
    fM_aboutSet_b4 n o0 x2 x3 h
def fM_aboutSet (o0 : Nat) (h : H2) : O2 :=
  mv_bi (nI 0) fun x1 =>
  mv_bi (nI 0) fun x2 =>
  fM_aboutSet_b4 1000 o0 x1 x2 h
def cM_aboutSet : List mv_V → H2 → (List mv_V → H2 → O2) → O2 := fun as h k => match as with
  | [.inr (t0, o0)] => mv_gd (Nat.beq t0 2) <| mv_rI (fM_aboutSet o0 h) fun x h => k [.inl (.int x)] h
  | _ => none
def fM_purposeSet_b4 : Nat → Nat → Int32 → Int32 → H2 → O2
  | 0 => fun _ _ _ _ => none
  | n + 1 => fun o0 v1 v2 h =>
    if (rI2 h 2 o0 9) ≤ v2 then (
      some ([Sum.inl (Value.int v1)], h))
    else
    mv_gd (mv_inb v2 8) <|
    if (rI2 h 305 o0 v2.toNatClampNeg) = (-(nI 1)) then (
      mv_bi (v2 + (nI 1)) fun x1 =>
      fM_purposeSet_b4 n o0 v1 x1 h)
    else
    mv_gd (mv_inb v2 8) <|
    mv_bi (v1 ||| ((nI 1) <<< ((rI2 h 305 o0 v2.toNatClampNeg) &&& 31))) fun x2 =>
    mv_bi (v2 + (nI 1)) fun x3 =>
    fM_purposeSet_b4 n o0 x2 x3 h
def fM_purposeSet (o0 : Nat) (h : H2) : O2 :=
  mv_bi (nI 0) fun x1 =>
  mv_bi (nI 0) fun x2 =>
  fM_purposeSet_b4 1000 o0 x1 x2 h
def cM_purposeSet : List mv_V → H2 → (List mv_V → H2 → O2) → O2 := fun as h k => match as with
  | [.inr (t0, o0)] => mv_gd (Nat.beq t0 2) <| mv_rI (fM_purposeSet o0 h) fun x h => k [.inl (.int x)] h
  | _ => none
def fM_isForOdds (o0 : Nat) (v1 : Int32) (h : H2) : O2 :=
  mv_gd (mv_inb v1 8) <|
  if (rI2 h 307 o0 v1.toNatClampNeg) = 0 then (
    mv_gd (mv_inb v1 8) <|
    if (rI2 h 305 o0 v1.toNatClampNeg) = (-(nI 1)) then (
      mv_gd (decide (nI 0 = nI 0) || decide (nI 0 = nI 1)) <| some ([Sum.inl (Value.int (nI 0))], h))
    else
    mv_gd (decide (nI 1 = nI 0) || decide (nI 1 = nI 1)) <| some ([Sum.inl (Value.int (nI 1))], h))
  else
  mv_gd (decide (nI 0 = nI 0) || decide (nI 0 = nI 1)) <| some ([Sum.inl (Value.int (nI 0))], h)
def cM_isForOdds : List mv_V → H2 → (List mv_V → H2 → O2) → O2 := fun as h k => match as with
  | [.inr (t0, o0), .inl (.int v1)] => mv_gd (Nat.beq t0 2) <| mv_rI (fM_isForOdds o0 v1 h) fun x h => k [.inl (.int x)] h
  | _ => none
def fM_oddPairs_b16 (k4 : Nat → Int32 → Int32 → H2 → O2) : Nat → Nat → Int32 → Int32 → Int32 → H2 → O2
  | 0 => fun _ _ _ _ _ => none
  | n + 1 => fun o0 v1 v2 v3 h =>
    if (rI2 h 2 o0 9) ≤ v3 then (
      mv_bi (v2 + (nI 1)) fun x1 =>
      k4 o0 v1 x1 h)
    else
    mv_gd (mv_inb v2 8) <|
    mv_gd (mv_inb v3 8) <|
    if (rI2 h 305 o0 v2.toNatClampNeg) = (rI2 h 305 o0 v3.toNatClampNeg) then (
      mv_bi (v3 + (nI 1)) fun x2 =>
      fM_oddPairs_b16 k4 n o0 v1 v2 x2 h)
    else
    mv_rI (fM_isForOdds o0 v2 h) fun r4 h3 =>
    if r4 = 0 then (
      mv_bi (v3 + (nI 1)) fun x5 =>
      fM_oddPairs_b16 k4 n o0 v1 v2 x5 h3)
    else
    mv_rI (fM_isForOdds o0 v3 h3) fun r7 h6 =>
    if r7 = 0 then (
      mv_bi (v3 + (nI 1)) fun x8 =>
      fM_oddPairs_b16 k4 n o0 v1 v2 x8 h6)
    else
    mv_bi (v1 + (nI 1)) fun x9 =>
    mv_bi (v3 + (nI 1)) fun x10 =>
    fM_oddPairs_b16 k4 n o0 x9 v2 x10 h6
def fM_oddPairs_b4 : Nat → Nat → Int32 → Int32 → H2 → O2
  | 0 => fun _ _ _ _ => none
  | n + 1 => fun o0 v1 v2 h =>
    if (rI2 h 2 o0 9) ≤ v2 then (
      some ([Sum.inl (Value.int v1)], h))
    else
    mv_bi (v2 + (nI 1)) fun x1 =>
    fM_oddPairs_b16 (fM_oddPairs_b4 n) 1000 o0 v1 v2 x1 h
def fM_oddPairs (o0 : Nat) (h : H2) : O2 :=
  mv_bi (nI 0) fun x1 =>
  mv_bi (nI 0) fun x2 =>
  fM_oddPairs_b4 1000 o0 x1 x2 h
def cM_oddPairs : List mv_V → H2 → (List mv_V → H2 → O2) → O2 := fun as h k => match as with
  | [.inr (t0, o0)] => mv_gd (Nat.beq t0 2) <| mv_rI (fM_oddPairs o0 h) fun x h => k [.inl (.int x)] h
  | _ => none
def fR_has (o0 : Nat) (v1 : Int32) (v2 : Int32) (h : H2) : O2 :=
  mv_rI (fV_isIn v1 (nI 0) ((rI2 h 3 o0 1) - (nI 1)) h) fun r2 h1 =>
  if r2 = 0 then (
    mv_gd (decide (nI 0 = nI 0) || decide (nI 0 = nI 1)) <| some ([Sum.inl (Value.int (nI 0))], h1))
  else
  mv_rI (fV_isIn v2 (nI 0) (nI 2) h1) fun r4 h3 =>
  if r4 = 0 then (
    mv_gd (decide (nI 0 = nI 0) || decide (nI 0 = nI 1)) <| some ([Sum.inl (Value.int (nI 0))], h3))
  else
  mv_gd (decide (nI 1 = nI 0) || decide (nI 1 = nI 1)) <| some ([Sum.inl (Value.int (nI 1))], h3)
def cR_has : List mv_V → H2 → (List mv_V → H2 → O2) → O2 := fun as h k => match as with
  | [.inr (t0, o0), .inl (.int v1), .inl (.int v2)] => mv_gd (Nat.beq t0 3) <| mv_rI (fR_has o0 v1 v2 h) fun x h => k [.inl (.int x)] h
  | _ => none
def fS_init (o0 : Nat) (v1 : Int32) (v2 : Int32) (h : H2) : O2 :=
  mv_bh (wI2 h 4 o0 0 v1) fun h1 =>
  mv_gd (!decide (v2 < 0) && (Nat.ble v2.toNatClampNeg 1000 && Nat.ble (0 + v2.toNatClampNeg) 40)) <|
  nw2 h1 501 v2.toNatClampNeg fun r2 h3 =>
  wR2 h3 4 o0 1 (some (501, r2)) fun h4 =>
  some ([], h4)
def cS_init : List mv_V → H2 → (List mv_V → H2 → O2) → O2 := fun as h k => match as with
  | [.inr (t0, o0), .inl (.int v1), .inl (.int v2)] => mv_gd (Nat.beq t0 4) <| mv_rV (fS_init o0 v1 v2 h) fun h => k [] h
  | _ => none
def fS_has (o0 : Nat) (v1 : Int32) (h : H2) : O2 :=
  mv_el (itm2 h o0) (
    none) fun r1 =>
  mv_rI (fV_isIn v1 (nI 0) ((nI (ln2 h 501 r1)) - (nI 1)) h) fun r3 h2 =>
  mv_gd (decide (r3 = nI 0) || decide (r3 = nI 1)) <| some ([Sum.inl (Value.int r3)], h2)
def cS_has : List mv_V → H2 → (List mv_V → H2 → O2) → O2 := fun as h k => match as with
  | [.inr (t0, o0), .inl (.int v1)] => mv_gd (Nat.beq t0 4) <| mv_rI (fS_has o0 v1 h) fun x h => k [.inl (.int x)] h
  | _ => none
def fS_write (o0 : Nat) (v1 : Int32) (v2 : Int32) (h : H2) : O2 :=
  if (rI2 h 4 o0 0) = 0 then (
    mv_el (itm2 h o0) (
      none) fun r1 =>
    mv_gd (mv_inb v1 (ln2 h 501 r1)) <|
    mv_bh (wI2 h 501 r1 v1.toNatClampNeg v2.toInt8.toInt32) fun h2 =>
    some ([], h2))
  else
  if (rI2 h 4 o0 0) = (nI 1) then (
    mv_el (itm2 h o0) (
      none) fun r3 =>
    mv_gd (mv_inb v1 (ln2 h 501 r3)) <|
    mv_bh (wI2 h 501 r3 v1.toNatClampNeg v2.toInt16.toInt32) fun h4 =>
    some ([], h4))
  else
  mv_el (itm2 h o0) (
    none) fun r5 =>
  mv_gd (mv_inb v1 (ln2 h 501 r5)) <|
  mv_bh (wI2 h 501 r5 v1.toNatClampNeg v2) fun h6 =>
  some ([], h6)
def cS_write : List mv_V → H2 → (List mv_V → H2 → O2) → O2 := fun as h k => match as with
  | [.inr (t0, o0), .inl (.int v1), .inl (.int v2)] => mv_gd (Nat.beq t0 4) <| mv_rV (fS_write o0 v1 v2 h) fun h => k [] h
  | _ => none
def fH_holdCloth (o0 : Nat) (v1 : Int32) (v2 : Int32) (h : H2) : O2 :=
  mv_gd (mv_inb v1 4) <|
  mv_bh (wI2 h 600 0 v1.toNatClampNeg v2) fun h1 =>
  mv_gd (mv_inb v1 4) <|
  wR2 h1 601 0 v1.toNatClampNeg none fun h2 =>
  some ([], h2)
def cH_holdCloth : List mv_V → H2 → (List mv_V → H2 → O2) → O2 := fun as h k => match as with
  | [.inr (t0, o0), .inl (.int v1), .inl (.int v2)] => mv_gd (Nat.beq t0 5) <| mv_rV (fH_holdCloth o0 v1 v2 h) fun h => k [] h
  | _ => none
def fH_holdRow_n (o0 : Nat) (v1 : Int32) (h : H2) : O2 :=
  mv_gd (mv_inb v1 4) <|
  mv_bh (wI2 h 600 0 v1.toNatClampNeg (-(nI 1))) fun h1 =>
  mv_gd (mv_inb v1 4) <|
  wR2 h1 601 0 v1.toNatClampNeg none fun h2 =>
  some ([], h2)
def fH_holdRow_r (o0 : Nat) (v1 : Int32) (o2 : Nat) (h : H2) : O2 :=
  mv_gd (mv_inb v1 4) <|
  mv_bh (wI2 h 600 0 v1.toNatClampNeg (-(nI 1))) fun h1 =>
  mv_gd (mv_inb v1 4) <|
  wR2 h1 601 0 v1.toNatClampNeg (some (4, o2)) fun h2 =>
  some ([], h2)
def cH_holdRow : List mv_V → H2 → (List mv_V → H2 → O2) → O2 := fun as h k => match as with
  | [.inr (t0, o0), .inl (.int v1), .inl .null] => mv_gd (Nat.beq t0 5) <| mv_rV (fH_holdRow_n o0 v1 h) fun h => k [] h
  | [.inr (t0, o0), .inl (.int v1), .inr (t2, o2)] => mv_gd (Nat.beq t0 5) <| mv_gd (Nat.beq t2 4) <| mv_rV (fH_holdRow_r o0 v1 o2 h) fun h => k [] h
  | _ => none
def fH_clothOn (o0 : Nat) (v1 : Int32) (h : H2) : O2 :=
  mv_gd (mv_inb v1 4) <|
  some ([Sum.inl (Value.int (rI2 h 600 0 v1.toNatClampNeg))], h)
def cH_clothOn : List mv_V → H2 → (List mv_V → H2 → O2) → O2 := fun as h k => match as with
  | [.inr (t0, o0), .inl (.int v1)] => mv_gd (Nat.beq t0 5) <| mv_rI (fH_clothOn o0 v1 h) fun x h => k [.inl (.int x)] h
  | _ => none
def fH_rowOn (o0 : Nat) (v1 : Int32) (h : H2) : O2 :=
  mv_gd (mv_inb v1 4) <|
  mv_el (hld2 h v1.toNatClampNeg) (
    some ([Sum.inl Value.null], h)) fun r1 =>
  some ([Sum.inr (4, r1)], h)
def cH_rowOn : List mv_V → H2 → (List mv_V → H2 → O2) → O2 := fun as h k => match as with
  | [.inr (t0, o0), .inl (.int v1)] => mv_gd (Nat.beq t0 5) <| mv_rQ (fH_rowOn o0 v1 h) (fun h => k [.inl .null] h) fun x h => k [.inr (4, x)] h
  | _ => none
def fT_room (o0 : Nat) (h : H2) : O2 :=
  some ([Sum.inl (Value.int ((nI 200) - (rI2 h 6 o0 1)))], h)
def cT_room : List mv_V → H2 → (List mv_V → H2 → O2) → O2 := fun as h k => match as with
  | [.inr (t0, o0)] => mv_gd (Nat.beq t0 6) <| mv_rI (fT_room o0 h) fun x h => k [.inl (.int x)] h
  | _ => none
def fT_take_b3 : Nat → Nat → Int64 → Int32 → Int32 → H2 → O2
  | 0 => fun _ _ _ _ _ => none
  | n + 1 => fun o0 w1 v3 v4 h =>
    if v3 ≤ v4 then (
      mv_bh (wI2 h 6 o0 1 ((rI2 h 6 o0 1) + v3)) fun h1 =>
      some ([], h1))
    else
    mv_gd (mv_inb ((rI2 h 6 o0 1) + v4) 200) <|
    mv_bh (wI2 h 700 o0 ((rI2 h 6 o0 1) + v4).toNatClampNeg (((w1 >>> (((nI 8) * v4).toInt64 &&& 63)) &&& (lN 255)).toInt32)) fun h2 =>
    mv_bi (v4 + (nI 1)) fun x3 =>
    fT_take_b3 n o0 w1 v3 x3 h2
def fT_take (o0 : Nat) (w1 : Int64) (v3 : Int32) (h : H2) : O2 :=
  mv_bi (nI 0) fun x1 =>
  fT_take_b3 1000 o0 w1 v3 x1 h
def cT_take : List mv_V → H2 → (List mv_V → H2 → O2) → O2 := fun as h k => match as with
  | [.inr (t0, o0), .inl (.long w1), .inl (.int v3)] => mv_gd (Nat.beq t0 6) <| mv_rV (fT_take o0 w1 v3 h) fun h => k [] h
  | _ => none
def fT_useUp (o0 : Nat) (h : H2) : O2 :=
  mv_bh (wI2 h 6 o0 1 (nI 0)) fun h1 =>
  some ([], h1)
def cT_useUp : List mv_V → H2 → (List mv_V → H2 → O2) → O2 := fun as h k => match as with
  | [.inr (t0, o0)] => mv_gd (Nat.beq t0 6) <| mv_rV (fT_useUp o0 h) fun h => k [] h
  | _ => none
def fT_readDigits_b5 : Nat → Nat → H2 → O2
  | 0 => fun _ _ => none
  | n + 1 => fun o0 h =>
    if (rI2 h 6 o0 1) ≤ (rI2 h 6 o0 2) then (
      if ((rI2 h 6 o0 2) - (rI2 h 6 o0 3)) ≤ (nI 3) then (
        some ([], h))
      else
      mv_bh (wI2 h 6 o0 5 (nI 1000)) fun h1 =>
      some ([], h1))
    else
    mv_gd (mv_inb (rI2 h 6 o0 2) 200) <|
    if (rI2 h 700 o0 (rI2 h 6 o0 2).toNatClampNeg) < (nI 48) then (
      if ((rI2 h 6 o0 2) - (rI2 h 6 o0 3)) ≤ (nI 3) then (
        some ([], h))
      else
      mv_bh (wI2 h 6 o0 5 (nI 1000)) fun h2 =>
      some ([], h2))
    else
    mv_gd (mv_inb (rI2 h 6 o0 2) 200) <|
    if (nI 57) < (rI2 h 700 o0 (rI2 h 6 o0 2).toNatClampNeg) then (
      if ((rI2 h 6 o0 2) - (rI2 h 6 o0 3)) ≤ (nI 3) then (
        some ([], h))
      else
      mv_bh (wI2 h 6 o0 5 (nI 1000)) fun h3 =>
      some ([], h3))
    else
    if (nI 3) ≤ ((rI2 h 6 o0 2) - (rI2 h 6 o0 3)) then (
      mv_bh (wI2 h 6 o0 2 ((rI2 h 6 o0 2) + (nI 1))) fun h4 =>
      fT_readDigits_b5 n o0 h4)
    else
    mv_gd (mv_inb (rI2 h 6 o0 2) 200) <|
    mv_bh (wI2 h 6 o0 5 ((((rI2 h 6 o0 5) * (nI 10)) + (rI2 h 700 o0 (rI2 h 6 o0 2).toNatClampNeg)) - (nI 48))) fun h5 =>
    mv_bh (wI2 h5 6 o0 2 ((rI2 h5 6 o0 2) + (nI 1))) fun h6 =>
    fT_readDigits_b5 n o0 h6
def fT_readDigits (o0 : Nat) (h : H2) : O2 :=
  mv_bh (wI2 h 6 o0 5 (nI 0)) fun h1 =>
  fT_readDigits_b5 1000 o0 h1
def cT_readDigits : List mv_V → H2 → (List mv_V → H2 → O2) → O2 := fun as h k => match as with
  | [.inr (t0, o0)] => mv_gd (Nat.beq t0 6) <| mv_rV (fT_readDigits o0 h) fun h => k [] h
  | _ => none
def fT_readWord_b89 : Nat → Nat → H2 → O2
  | 0 => fun _ _ => none
  | n + 1 => fun o0 h =>
    if (rI2 h 6 o0 1) ≤ (rI2 h 6 o0 2) then (
      some ([], h))
    else
    mv_gd (mv_inb (rI2 h 6 o0 2) 200) <|
    mv_rI (fV_isIn (rI2 h 700 o0 (rI2 h 6 o0 2).toNatClampNeg) (nI 97) (nI 122) h) fun r2 h1 =>
    if r2 = 0 then (
      some ([], h1))
    else
    mv_bh (wI2 h1 6 o0 2 ((rI2 h1 6 o0 2) + (nI 1))) fun h3 =>
    fT_readWord_b89 n o0 h3
def fT_readWord_b38 (o0 : Nat) (h : H2) : O2 :=
  mv_bh (wI2 h 6 o0 3 (rI2 h 6 o0 2)) fun h1 =>
  if (rI2 h1 6 o0 2) < (rI2 h1 6 o0 1) then (
    mv_gd (mv_inb (rI2 h1 6 o0 2) 200) <|
    mv_rI (fV_isIn (rI2 h1 700 o0 (rI2 h1 6 o0 2).toNatClampNeg) (nI 97) (nI 122) h1) fun r3 h2 =>
    if r3 = 0 then (
      mv_gd (mv_inb (rI2 h2 6 o0 2) 200) <|
      mv_rI (fV_isIn (rI2 h2 700 o0 (rI2 h2 6 o0 2).toNatClampNeg) (nI 48) (nI 57) h2) fun r5 h4 =>
      if r5 = 0 then (
        mv_bh (wI2 h4 6 o0 4 (nI 3)) fun h6 =>
        mv_bh (wI2 h6 6 o0 2 ((rI2 h6 6 o0 2) + (nI 1))) fun h7 =>
        some ([], h7))
      else
      mv_bh (wI2 h4 6 o0 4 (nI 2)) fun h8 =>
      mv_rV (fT_readDigits o0 h8) fun h9 =>
      some ([], h9))
    else
    mv_bh (wI2 h2 6 o0 4 (nI 1)) fun h10 =>
    fT_readWord_b89 1000 o0 h10)
  else
  mv_bh (wI2 h1 6 o0 4 (nI 0)) fun h11 =>
  some ([], h11)
def fT_readWord_b0 : Nat → Nat → H2 → O2
  | 0 => fun _ _ => none
  | n + 1 => fun o0 h =>
    if (rI2 h 6 o0 1) ≤ (rI2 h 6 o0 2) then (
      fT_readWord_b38 o0 h)
    else
    mv_gd (mv_inb (rI2 h 6 o0 2) 200) <|
    if (rI2 h 700 o0 (rI2 h 6 o0 2).toNatClampNeg) = (nI 32) then (
      mv_bh (wI2 h 6 o0 2 ((rI2 h 6 o0 2) + (nI 1))) fun h1 =>
      fT_readWord_b0 n o0 h1)
    else
    fT_readWord_b38 o0 h
def fT_readWord (o0 : Nat) (h : H2) : O2 :=
  fT_readWord_b0 1000 o0 h
def cT_readWord : List mv_V → H2 → (List mv_V → H2 → O2) → O2 := fun as h k => match as with
  | [.inr (t0, o0)] => mv_gd (Nat.beq t0 6) <| mv_rV (fT_readWord o0 h) fun h => k [] h
  | _ => none
def fK0_coder_7d493 (o0 : Nat) (h : H2) : O2 :=
  if (nI 1) = 0 then (
    mv_gd (decide (0 ≤ (nI 1)) && decide ((nI 1) ≤ 127)) <| some ([Sum.inl (Value.int (nI 1))], h))
  else
  mv_gd (decide (0 ≤ (nI 0)) && decide ((nI 0) ≤ 127)) <| some ([Sum.inl (Value.int (nI 0))], h)
def cK0_coder_7d493 : List mv_V → H2 → (List mv_V → H2 → O2) → O2 := fun as h k => match as with
  | [.inr (t0, o0)] => mv_gd (Nat.beq t0 11) <| mv_rI (fK0_coder_7d493 o0 h) fun x h => k [.inl (.int x)] h
  | _ => none
def fK0_length_8abf5 (o0 : Nat) (h : H2) : O2 :=
  mv_rI (fK0_coder_7d493 o0 h) fun r2 h1 =>
  some ([Sum.inl (Value.int ((nI (stl o0)) >>> (r2 &&& 31)))], h1)
def cK0_length_8abf5 : List mv_V → H2 → (List mv_V → H2 → O2) → O2 := fun as h k => match as with
  | [.inr (t0, o0)] => mv_gd (Nat.beq t0 11) <| mv_rI (fK0_length_8abf5 o0 h) fun x h => k [.inl (.int x)] h
  | _ => none
def fK0_isLatin1_aae02 (o0 : Nat) (h : H2) : O2 :=
  if (nI 1) = 0 then (
    mv_gd (decide (nI 0 = nI 0) || decide (nI 0 = nI 1)) <| some ([Sum.inl (Value.int (nI 0))], h))
  else
  if (nI 0) = 0 then (
    mv_gd (decide (nI 1 = nI 0) || decide (nI 1 = nI 1)) <| some ([Sum.inl (Value.int (nI 1))], h))
  else
  mv_gd (decide (nI 0 = nI 0) || decide (nI 0 = nI 1)) <| some ([Sum.inl (Value.int (nI 0))], h)
def cK0_isLatin1_aae02 : List mv_V → H2 → (List mv_V → H2 → O2) → O2 := fun as h k => match as with
  | [.inr (t0, o0)] => mv_gd (Nat.beq t0 11) <| mv_rI (fK0_isLatin1_aae02 o0 h) fun x h => k [.inl (.int x)] h
  | _ => none
def fK3_checkIndex_8e157 (v0 : Int32) (v1 : Int32) (o2 : Nat) (h : H2) : O2 :=
  if v0 < 0 then (
    none)
  else
  if v0 < v1 then (
    some ([Sum.inl (Value.int v0)], h))
  else
  none
def cK3_checkIndex_8e157 : List mv_V → H2 → (List mv_V → H2 → O2) → O2 := fun as h k => match as with
  | [.inl (.int v0), .inl (.int v1), .inr (t2, o2)] => mv_gd (Nat.beq t2 14) <| mv_rI (fK3_checkIndex_8e157 v0 v1 o2 h) fun x h => k [.inl (.int x)] h
  | _ => none
def fK0_checkIndex_df160 (v0 : Int32) (v1 : Int32) (h : H2) : O2 :=
  mv_rI (fK3_checkIndex_8e157 v0 v1 0 h) fun r2 h1 =>
  some ([], h1)
def cK0_checkIndex_df160 : List mv_V → H2 → (List mv_V → H2 → O2) → O2 := fun as h k => match as with
  | [.inl (.int v0), .inl (.int v1)] => mv_rV (fK0_checkIndex_df160 v0 v1 h) fun h => k [] h
  | _ => none
def fK1_charAt_3b067 (o0 : Nat) (v1 : Int32) (h : H2) : O2 :=
  mv_rV (fK0_checkIndex_df160 v1 (nI (stl o0)) h) fun h1 =>
  mv_gd (mv_inb v1 (stl o0)) <|
  mv_gd (decide (0 ≤ (((stc o0 v1.toNatClampNeg) &&& (nI 255)).toUInt32.toUInt16.toUInt32.toInt32)) && decide ((((stc o0 v1.toNatClampNeg) &&& (nI 255)).toUInt32.toUInt16.toUInt32.toInt32) ≤ 127)) <| some ([Sum.inl (Value.int (((stc o0 v1.toNatClampNeg) &&& (nI 255)).toUInt32.toUInt16.toUInt32.toInt32))], h1)
def cK1_charAt_3b067 : List mv_V → H2 → (List mv_V → H2 → O2) → O2 := fun as h k => match as with
  | [.inr (t0, o0), .inl (.int v1)] => mv_gd (Nat.beq t0 12) <| mv_rI (fK1_charAt_3b067 o0 v1 h) fun x h => k [.inl (.int x)] h
  | _ => none
def fK0_charAt_5068e (o0 : Nat) (v1 : Int32) (h : H2) : O2 :=
  mv_rI (fK0_isLatin1_aae02 o0 h) fun r2 h1 =>
  if r2 = 0 then (
    none)
  else
  mv_rI (fK1_charAt_3b067 o0 v1 h1) fun r4 h3 =>
  mv_gd (decide (0 ≤ r4) && decide (r4 ≤ 127)) <| some ([Sum.inl (Value.int r4)], h3)
def cK0_charAt_5068e : List mv_V → H2 → (List mv_V → H2 → O2) → O2 := fun as h k => match as with
  | [.inr (t0, o0), .inl (.int v1)] => mv_gd (Nat.beq t0 11) <| mv_rI (fK0_charAt_5068e o0 v1 h) fun x h => k [.inl (.int x)] h
  | _ => none
def fT_isName_b28 : Nat → Nat → Nat → Int32 → H2 → O2
  | 0 => fun _ _ _ _ => none
  | n + 1 => fun o0 o1 v2 h =>
    mv_rI (fK0_length_8abf5 o1 h) fun r2 h1 =>
    if r2 ≤ v2 then (
      mv_gd (decide (nI 1 = nI 0) || decide (nI 1 = nI 1)) <| some ([Sum.inl (Value.int (nI 1))], h1))
    else
    mv_gd (mv_inb ((rI2 h1 6 o0 3) + v2) 200) <|
    mv_rI (fK0_charAt_5068e o1 v2 h1) fun r4 h3 =>
    if (rI2 h1 700 o0 ((rI2 h1 6 o0 3) + v2).toNatClampNeg) = r4 then (
      mv_bi (v2 + (nI 1)) fun x5 =>
      fT_isName_b28 n o0 o1 x5 h3)
    else
    mv_gd (decide (nI 0 = nI 0) || decide (nI 0 = nI 1)) <| some ([Sum.inl (Value.int (nI 0))], h3)
def fT_isName (o0 : Nat) (o1 : Nat) (h : H2) : O2 :=
  if (rI2 h 6 o0 4) = (nI 1) then (
    mv_rI (fK0_length_8abf5 o1 h) fun r2 h1 =>
    if ((rI2 h 6 o0 2) - (rI2 h 6 o0 3)) = r2 then (
      mv_bi (nI 0) fun x3 =>
      fT_isName_b28 1000 o0 o1 x3 h1)
    else
    mv_gd (decide (nI 0 = nI 0) || decide (nI 0 = nI 1)) <| some ([Sum.inl (Value.int (nI 0))], h1))
  else
  mv_gd (decide (nI 0 = nI 0) || decide (nI 0 = nI 1)) <| some ([Sum.inl (Value.int (nI 0))], h)
def cT_isName : List mv_V → H2 → (List mv_V → H2 → O2) → O2 := fun as h k => match as with
  | [.inr (t0, o0), .inr (t1, o1)] => mv_gd (Nat.beq t0 6) <| mv_gd (Nat.beq t1 11) <| mv_rI (fT_isName o0 o1 h) fun x h => k [.inl (.int x)] h
  | _ => none
def fT_kindNamed (o0 : Nat) (h : H2) : O2 :=
  mv_rI (fT_isName o0 7 h) fun r2 h1 =>
  if r2 = 0 then (
    mv_rI (fT_isName o0 8 h1) fun r4 h3 =>
    if r4 = 0 then (
      mv_rI (fT_isName o0 9 h3) fun r6 h5 =>
      if r6 = 0 then (
        mv_rI (fT_isName o0 10 h5) fun r8 h7 =>
        if r8 = 0 then (
          mv_rI (fT_isName o0 11 h7) fun r10 h9 =>
          if r10 = 0 then (
            mv_rI (fT_isName o0 12 h9) fun r12 h11 =>
            if r12 = 0 then (
              some ([Sum.inl (Value.int (-(nI 1)))], h11))
            else
            some ([Sum.inl (Value.int (nI 5))], h11))
          else
          some ([Sum.inl (Value.int (nI 4))], h9))
        else
        some ([Sum.inl (Value.int (nI 3))], h7))
      else
      some ([Sum.inl (Value.int (nI 2))], h5))
    else
    some ([Sum.inl (Value.int (nI 1))], h3))
  else
  some ([Sum.inl (Value.int (nI 0))], h1)
def cT_kindNamed : List mv_V → H2 → (List mv_V → H2 → O2) → O2 := fun as h k => match as with
  | [.inr (t0, o0)] => mv_gd (Nat.beq t0 6) <| mv_rI (fT_kindNamed o0 h) fun x h => k [.inl (.int x)] h
  | _ => none
def fT_readNumber (o0 : Nat) (v1 : Int32) (v2 : Int32) (h : H2) : O2 :=
  mv_rV (fT_readWord o0 h) fun h1 =>
  if (rI2 h1 6 o0 4) = (nI 2) then (
    mv_rI (fV_isIn (rI2 h1 6 o0 5) v1 v2 h1) fun r3 h2 =>
    if r3 = 0 then (
      mv_gd (decide (nI 0 = nI 0) || decide (nI 0 = nI 1)) <| some ([Sum.inl (Value.int (nI 0))], h2))
    else
    mv_gd (decide (nI 1 = nI 0) || decide (nI 1 = nI 1)) <| some ([Sum.inl (Value.int (nI 1))], h2))
  else
  mv_gd (decide (nI 0 = nI 0) || decide (nI 0 = nI 1)) <| some ([Sum.inl (Value.int (nI 0))], h1)
def cT_readNumber : List mv_V → H2 → (List mv_V → H2 → O2) → O2 := fun as h k => match as with
  | [.inr (t0, o0), .inl (.int v1), .inl (.int v2)] => mv_gd (Nat.beq t0 6) <| mv_rI (fT_readNumber o0 v1 v2 h) fun x h => k [.inl (.int x)] h
  | _ => none
def fT_isStop (o0 : Nat) (h : H2) : O2 :=
  if (rI2 h 6 o0 4) = (nI 3) then (
    mv_gd (mv_inb (rI2 h 6 o0 3) 200) <|
    if (rI2 h 700 o0 (rI2 h 6 o0 3).toNatClampNeg) = (nI 59) then (
      mv_gd (decide (nI 1 = nI 0) || decide (nI 1 = nI 1)) <| some ([Sum.inl (Value.int (nI 1))], h))
    else
    mv_gd (decide (nI 0 = nI 0) || decide (nI 0 = nI 1)) <| some ([Sum.inl (Value.int (nI 0))], h))
  else
  mv_gd (decide (nI 0 = nI 0) || decide (nI 0 = nI 1)) <| some ([Sum.inl (Value.int (nI 0))], h)
def cT_isStop : List mv_V → H2 → (List mv_V → H2 → O2) → O2 := fun as h k => match as with
  | [.inr (t0, o0)] => mv_gd (Nat.beq t0 6) <| mv_rI (fT_isStop o0 h) fun x h => k [.inl (.int x)] h
  | _ => none
def fT_readCloth_b99 (o0 : Nat) (o1 : Nat) (v3 : Int32) (h : H2) : O2 :=
  mv_rI (fT_isName o0 5 h) fun r2 h1 =>
  if r2 = 0 then (
    mv_rI (fT_isStop o0 h1) fun r4 h3 =>
    mv_gd (decide (r4 = nI 0) || decide (r4 = nI 1)) <| some ([Sum.inl (Value.int r4)], h3))
  else
  mv_gd (mv_inb v3 8) <|
  mv_bh (wI2 h1 307 o1 v3.toNatClampNeg (nI 1)) fun h5 =>
  mv_rV (fT_readWord o0 h5) fun h6 =>
  mv_rI (fT_isStop o0 h6) fun r8 h7 =>
  mv_gd (decide (r8 = nI 0) || decide (r8 = nI 1)) <| some ([Sum.inl (Value.int r8)], h7)
def fT_readCloth (o0 : Nat) (o1 : Nat) (v2 : Int32) (h : H2) : O2 :=
  if (rI2 h 2 o1 9) < (nI 8) then (
    mv_rI (fM_addCloth o1 v2 h) fun r2 h1 =>
    mv_bi r2 fun x3 =>
    mv_rV (fT_readWord o0 h1) fun h4 =>
    mv_rI (fT_isName o0 3 h4) fun r6 h5 =>
    if r6 = 0 then (
      fT_readCloth_b99 o0 o1 x3 h5)
    else
    mv_rI (fT_readNumber o0 (nI 0) (nI 9) h5) fun r8 h7 =>
    if r8 = 0 then (
      mv_gd (decide (nI 0 = nI 0) || decide (nI 0 = nI 1)) <| some ([Sum.inl (Value.int (nI 0))], h7))
    else
    mv_gd (mv_inb x3 8) <|
    mv_bh (wI2 h7 305 o1 x3.toNatClampNeg (rI2 h7 6 o0 5)) fun h9 =>
    mv_gd (mv_inb x3 8) <|
    mv_bh (wI2 h9 306 o1 x3.toNatClampNeg (nI 20)) fun h10 =>
    mv_rV (fT_readWord o0 h10) fun h11 =>
    mv_rI (fT_isName o0 4 h11) fun r13 h12 =>
    if r13 = 0 then (
      fT_readCloth_b99 o0 o1 x3 h12)
    else
    mv_rI (fT_readNumber o0 (nI 1) (nI 99) h12) fun r15 h14 =>
    if r15 = 0 then (
      mv_gd (decide (nI 0 = nI 0) || decide (nI 0 = nI 1)) <| some ([Sum.inl (Value.int (nI 0))], h14))
    else
    mv_gd (mv_inb x3 8) <|
    mv_bh (wI2 h14 306 o1 x3.toNatClampNeg (rI2 h14 6 o0 5)) fun h16 =>
    mv_rV (fT_readWord o0 h16) fun h17 =>
    fT_readCloth_b99 o0 o1 x3 h17)
  else
  mv_gd (decide (nI 0 = nI 0) || decide (nI 0 = nI 1)) <| some ([Sum.inl (Value.int (nI 0))], h)
def cT_readCloth : List mv_V → H2 → (List mv_V → H2 → O2) → O2 := fun as h k => match as with
  | [.inr (t0, o0), .inr (t1, o1), .inl (.int v2)] => mv_gd (Nat.beq t0 6) <| mv_gd (Nat.beq t1 2) <| mv_rI (fT_readCloth o0 o1 v2 h) fun x h => k [.inl (.int x)] h
  | _ => none
def fT_readName (o0 : Nat) (o1 : Nat) (h : H2) : O2 :=
  mv_rV (fT_readWord o0 h) fun h1 =>
  mv_rI (fT_isName o0 o1 h1) fun r3 h2 =>
  mv_gd (decide (r3 = nI 0) || decide (r3 = nI 1)) <| some ([Sum.inl (Value.int r3)], h2)
def cT_readName : List mv_V → H2 → (List mv_V → H2 → O2) → O2 := fun as h k => match as with
  | [.inr (t0, o0), .inr (t1, o1)] => mv_gd (Nat.beq t0 6) <| mv_gd (Nat.beq t1 11) <| mv_rI (fT_readName o0 o1 h) fun x h => k [.inl (.int x)] h
  | _ => none
def fT_readStop (o0 : Nat) (h : H2) : O2 :=
  mv_rV (fT_readWord o0 h) fun h1 =>
  mv_rI (fT_isStop o0 h1) fun r3 h2 =>
  mv_gd (decide (r3 = nI 0) || decide (r3 = nI 1)) <| some ([Sum.inl (Value.int r3)], h2)
def cT_readStop : List mv_V → H2 → (List mv_V → H2 → O2) → O2 := fun as h k => match as with
  | [.inr (t0, o0)] => mv_gd (Nat.beq t0 6) <| mv_rI (fT_readStop o0 h) fun x h => k [.inl (.int x)] h
  | _ => none
def fT_readVat (o0 : Nat) (o1 : Nat) (h : H2) : O2 :=
  mv_rI (fT_readNumber o0 (nI 0) (nI 7) h) fun r2 h1 =>
  if r2 = 0 then (
    mv_gd (decide (nI 0 = nI 0) || decide (nI 0 = nI 1)) <| some ([Sum.inl (Value.int (nI 0))], h1))
  else
  mv_bi (rI2 h1 6 o0 5) fun x3 =>
  mv_rI (fT_readName o0 6 h1) fun r5 h4 =>
  if r5 = 0 then (
    mv_gd (decide (nI 0 = nI 0) || decide (nI 0 = nI 1)) <| some ([Sum.inl (Value.int (nI 0))], h4))
  else
  mv_rI (fT_readNumber o0 (nI 0) (nI 9) h4) fun r7 h6 =>
  if r7 = 0 then (
    mv_gd (decide (nI 0 = nI 0) || decide (nI 0 = nI 1)) <| some ([Sum.inl (Value.int (nI 0))], h6))
  else
  mv_gd (mv_inb x3 8) <|
  mv_bh (wI2 h6 301 o1 x3.toNatClampNeg (rI2 h6 6 o0 5)) fun h8 =>
  mv_rI (fT_readStop o0 h8) fun r10 h9 =>
  mv_gd (decide (r10 = nI 0) || decide (r10 = nI 1)) <| some ([Sum.inl (Value.int r10)], h9)
def cT_readVat : List mv_V → H2 → (List mv_V → H2 → O2) → O2 := fun as h k => match as with
  | [.inr (t0, o0), .inr (t1, o1)] => mv_gd (Nat.beq t0 6) <| mv_gd (Nat.beq t1 2) <| mv_rI (fT_readVat o0 o1 h) fun x h => k [.inl (.int x)] h
  | _ => none
def fT_readStrong (o0 : Nat) (o1 : Nat) (h : H2) : O2 :=
  mv_rI (fT_readNumber o0 (nI 0) (nI 7) h) fun r2 h1 =>
  if r2 = 0 then (
    mv_gd (decide (nI 0 = nI 0) || decide (nI 0 = nI 1)) <| some ([Sum.inl (Value.int (nI 0))], h1))
  else
  mv_bi (rI2 h1 6 o0 5) fun x3 =>
  mv_rI (fT_readNumber o0 (nI 0) (nI 9) h1) fun r5 h4 =>
  if r5 = 0 then (
    mv_gd (decide (nI 0 = nI 0) || decide (nI 0 = nI 1)) <| some ([Sum.inl (Value.int (nI 0))], h4))
  else
  mv_gd (mv_inb x3 8) <|
  mv_bh (wI2 h4 302 o1 x3.toNatClampNeg (rI2 h4 6 o0 5)) fun h6 =>
  mv_rI (fT_readStop o0 h6) fun r8 h7 =>
  mv_gd (decide (r8 = nI 0) || decide (r8 = nI 1)) <| some ([Sum.inl (Value.int r8)], h7)
def cT_readStrong : List mv_V → H2 → (List mv_V → H2 → O2) → O2 := fun as h k => match as with
  | [.inr (t0, o0), .inr (t1, o1)] => mv_gd (Nat.beq t0 6) <| mv_gd (Nat.beq t1 2) <| mv_rI (fT_readStrong o0 o1 h) fun x h => k [.inl (.int x)] h
  | _ => none
def fT_readDay (o0 : Nat) (o1 : Nat) (h : H2) : O2 :=
  mv_rI (fT_readNumber o0 (nI 0) (nI 5) h) fun r2 h1 =>
  if r2 = 0 then (
    mv_gd (decide (nI 0 = nI 0) || decide (nI 0 = nI 1)) <| some ([Sum.inl (Value.int (nI 0))], h1))
  else
  mv_bi (rI2 h1 6 o0 5) fun x3 =>
  mv_rI (fT_readName o0 0 h1) fun r5 h4 =>
  if r5 = 0 then (
    mv_gd (decide (nI 0 = nI 0) || decide (nI 0 = nI 1)) <| some ([Sum.inl (Value.int (nI 0))], h4))
  else
  mv_rI (fT_readNumber o0 (nI 0) (nI 7) h4) fun r7 h6 =>
  if r7 = 0 then (
    mv_gd (decide (nI 0 = nI 0) || decide (nI 0 = nI 1)) <| some ([Sum.inl (Value.int (nI 0))], h6))
  else
  mv_gd (mv_inb x3 6) <|
  mv_bh (wI2 h6 303 o1 x3.toNatClampNeg (rI2 h6 6 o0 5)) fun h8 =>
  mv_rI (fT_readStop o0 h8) fun r10 h9 =>
  mv_gd (decide (r10 = nI 0) || decide (r10 = nI 1)) <| some ([Sum.inl (Value.int r10)], h9)
def cT_readDay : List mv_V → H2 → (List mv_V → H2 → O2) → O2 := fun as h k => match as with
  | [.inr (t0, o0), .inr (t1, o1)] => mv_gd (Nat.beq t0 6) <| mv_gd (Nat.beq t1 2) <| mv_rI (fT_readDay o0 o1 h) fun x h => k [.inl (.int x)] h
  | _ => none
def fT_lawNamed (o0 : Nat) (h : H2) : O2 :=
  mv_rI (fT_isName o0 13 h) fun r2 h1 =>
  if r2 = 0 then (
    mv_rI (fT_isName o0 14 h1) fun r4 h3 =>
    if r4 = 0 then (
      mv_rI (fT_isName o0 15 h3) fun r6 h5 =>
      if r6 = 0 then (
        mv_rI (fT_isName o0 16 h5) fun r8 h7 =>
        if r8 = 0 then (
          some ([Sum.inl (Value.int (-(nI 1)))], h7))
        else
        some ([Sum.inl (Value.int (nI 3))], h7))
      else
      some ([Sum.inl (Value.int (nI 2))], h5))
    else
    some ([Sum.inl (Value.int (nI 1))], h3))
  else
  some ([Sum.inl (Value.int (nI 0))], h1)
def cT_lawNamed : List mv_V → H2 → (List mv_V → H2 → O2) → O2 := fun as h k => match as with
  | [.inr (t0, o0)] => mv_gd (Nat.beq t0 6) <| mv_rI (fT_lawNamed o0 h) fun x h => k [.inl (.int x)] h
  | _ => none
def fV_mostOfLaw (v0 : Int32) (h : H2) : O2 :=
  if v0 = (nI 3) then (
    some ([Sum.inl (Value.int (nI 99))], h))
  else
  some ([Sum.inl (Value.int (nI 9))], h)
def cV_mostOfLaw : List mv_V → H2 → (List mv_V → H2 → O2) → O2 := fun as h k => match as with
  | [.inl (.int v0)] => mv_rI (fV_mostOfLaw v0 h) fun x h => k [.inl (.int x)] h
  | _ => none
def fT_readLaw (o0 : Nat) (o1 : Nat) (v2 : Int32) (h : H2) : O2 :=
  mv_rI (fV_mostOfLaw v2 h) fun r2 h1 =>
  mv_rI (fT_readNumber o0 (nI 0) r2 h1) fun r4 h3 =>
  if r4 = 0 then (
    mv_gd (decide (nI 0 = nI 0) || decide (nI 0 = nI 1)) <| some ([Sum.inl (Value.int (nI 0))], h3))
  else
  mv_gd (mv_inb v2 4) <|
  mv_bh (wI2 h3 300 o1 v2.toNatClampNeg (rI2 h3 6 o0 5)) fun h5 =>
  mv_rI (fT_readStop o0 h5) fun r7 h6 =>
  mv_gd (decide (r7 = nI 0) || decide (r7 = nI 1)) <| some ([Sum.inl (Value.int r7)], h6)
def cT_readLaw : List mv_V → H2 → (List mv_V → H2 → O2) → O2 := fun as h k => match as with
  | [.inr (t0, o0), .inr (t1, o1), .inl (.int v2)] => mv_gd (Nat.beq t0 6) <| mv_gd (Nat.beq t1 2) <| mv_rI (fT_readLaw o0 o1 v2 h) fun x h => k [.inl (.int x)] h
  | _ => none
def fT_readStatement (o0 : Nat) (o1 : Nat) (h : H2) : O2 :=
  mv_rI (fT_kindNamed o0 h) fun r2 h1 =>
  mv_bi r2 fun x3 =>
  if x3 < 0 then (
    mv_rI (fT_isName o0 0 h1) fun r5 h4 =>
    if r5 = 0 then (
      mv_rI (fT_isName o0 1 h4) fun r7 h6 =>
      if r7 = 0 then (
        mv_rI (fT_isName o0 2 h6) fun r9 h8 =>
        if r9 = 0 then (
          mv_rI (fT_lawNamed o0 h8) fun r11 h10 =>
          mv_bi r11 fun x12 =>
          if x12 < 0 then (
            mv_gd (decide (nI 0 = nI 0) || decide (nI 0 = nI 1)) <| some ([Sum.inl (Value.int (nI 0))], h10))
          else
          mv_rI (fT_readLaw o0 o1 x12 h10) fun r14 h13 =>
          if r14 = 0 then (
            mv_gd (decide (nI 0 = nI 0) || decide (nI 0 = nI 1)) <| some ([Sum.inl (Value.int (nI 0))], h13))
          else
          mv_gd (decide (nI 1 = nI 0) || decide (nI 1 = nI 1)) <| some ([Sum.inl (Value.int (nI 1))], h13))
        else
        mv_rI (fT_readDay o0 o1 h8) fun r16 h15 =>
        mv_gd (decide (r16 = nI 0) || decide (r16 = nI 1)) <| some ([Sum.inl (Value.int r16)], h15))
      else
      mv_rI (fT_readStrong o0 o1 h6) fun r18 h17 =>
      mv_gd (decide (r18 = nI 0) || decide (r18 = nI 1)) <| some ([Sum.inl (Value.int r18)], h17))
    else
    mv_rI (fT_readVat o0 o1 h4) fun r20 h19 =>
    mv_gd (decide (r20 = nI 0) || decide (r20 = nI 1)) <| some ([Sum.inl (Value.int r20)], h19))
  else
  mv_rI (fT_readCloth o0 o1 x3 h1) fun r22 h21 =>
  mv_gd (decide (r22 = nI 0) || decide (r22 = nI 1)) <| some ([Sum.inl (Value.int r22)], h21)
def cT_readStatement : List mv_V → H2 → (List mv_V → H2 → O2) → O2 := fun as h k => match as with
  | [.inr (t0, o0), .inr (t1, o1)] => mv_gd (Nat.beq t0 6) <| mv_gd (Nat.beq t1 2) <| mv_rI (fT_readStatement o0 o1 h) fun x h => k [.inl (.int x)] h
  | _ => none
def fT_readInto_b11 : Nat → Nat → Nat → Int32 → H2 → O2
  | 0 => fun _ _ _ _ => none
  | n + 1 => fun o0 o1 v2 h =>
    if (rI2 h 6 o0 1) < v2 then (
      some ([Sum.inl (Value.int (-(nI 1)))], h))
    else
    mv_rV (fT_readWord o0 h) fun h1 =>
    if (rI2 h1 6 o0 4) = 0 then (
      some ([Sum.inl (Value.int (-(nI 1)))], h1))
    else
    mv_rI (fT_readStatement o0 o1 h1) fun r3 h2 =>
    if r3 = 0 then (
      some ([Sum.inl (Value.int (rI2 h2 6 o0 3))], h2))
    else
    mv_bi (v2 + (nI 1)) fun x4 =>
    fT_readInto_b11 n o0 o1 x4 h2
def fT_readInto (o0 : Nat) (o1 : Nat) (h : H2) : O2 :=
  mv_rV (fM_becomeFirst o1 h) fun h1 =>
  mv_bh (wI2 h1 6 o0 2 (nI 0)) fun h2 =>
  mv_bi (nI 0) fun x3 =>
  fT_readInto_b11 1000 o0 o1 x3 h2
def cT_readInto : List mv_V → H2 → (List mv_V → H2 → O2) → O2 := fun as h k => match as with
  | [.inr (t0, o0), .inr (t1, o1)] => mv_gd (Nat.beq t0 6) <| mv_gd (Nat.beq t1 2) <| mv_rI (fT_readInto o0 o1 h) fun x h => k [.inl (.int x)] h
  | _ => none
def fV_feed (o0 : Nat) (w1 : Int64) (v3 : Int32) (h : H2) : O2 :=
  mv_rI (fV_isIn v3 (nI 1) (nI 8) h) fun r2 h1 =>
  if r2 = 0 then (
    some ([Sum.inl (Value.int (-(nI 1)))], h1))
  else
  mv_rI (fT_room 0 h1) fun r4 h3 =>
  if v3 ≤ r4 then (
    mv_rV (fT_take 0 w1 v3 h3) fun h5 =>
    some ([Sum.inl (Value.int (rI2 h5 6 0 1))], h5))
  else
  some ([Sum.inl (Value.int (-(nI 2)))], h3)
def fV_mill (o0 : Nat) (h : H2) : O2 :=
  mv_rI (fT_readInto 0 1 h) fun r2 h1 =>
  mv_bi r2 fun x3 =>
  mv_rV (fT_useUp 0 h1) fun h4 =>
  if x3 < 0 then (
    mv_bh (wI2 h4 2 1 11 (rI2 h4 2 0 11)) fun h5 =>
    mv_rV (fM_copyFrom 0 1 h5) fun h6 =>
    mv_bh (wI2 h6 3 0 1 (nI 0)) fun h7 =>
    some ([Sum.inl (Value.int (rI2 h7 2 0 9))], h7))
  else
  some ([Sum.inl (Value.int ((-(nI 100)) - x3))], h4)
def fV_set (o0 : Nat) (v1 : Int32) (v2 : Int32) (h : H2) : O2 :=
  mv_rI (fV_isIn v1 (nI 0) (nI 3) h) fun r2 h1 =>
  if r2 = 0 then (
    some ([Sum.inl (Value.int (-(nI 1)))], h1))
  else
  mv_rI (fV_mostOfLaw v1 h1) fun r4 h3 =>
  mv_rI (fV_isIn v2 (nI 0) r4 h3) fun r6 h5 =>
  if r6 = 0 then (
    some ([Sum.inl (Value.int (-(nI 1)))], h5))
  else
  mv_gd (mv_inb v1 4) <|
  mv_bi (rI2 h5 300 0 v1.toNatClampNeg) fun x7 =>
  mv_gd (mv_inb v1 4) <|
  mv_bh (wI2 h5 300 0 v1.toNatClampNeg v2) fun h8 =>
  some ([Sum.inl (Value.int x7)], h8)
def fV_lawOf (o0 : Nat) (v1 : Int32) (h : H2) : O2 :=
  mv_rI (fV_isIn v1 (nI 0) (nI 3) h) fun r2 h1 =>
  if r2 = 0 then (
    some ([Sum.inl (Value.int (-(nI 1)))], h1))
  else
  mv_gd (mv_inb v1 4) <|
  some ([Sum.inl (Value.int (rI2 h1 300 0 v1.toNatClampNeg))], h1)
def fV_isVat (v0 : Int32) (h : H2) : O2 :=
  mv_rI (fV_isIn v0 (nI 0) (nI 7) h) fun r2 h1 =>
  mv_gd (decide (r2 = nI 0) || decide (r2 = nI 1)) <| some ([Sum.inl (Value.int r2)], h1)
def cV_isVat : List mv_V → H2 → (List mv_V → H2 → O2) → O2 := fun as h k => match as with
  | [.inl (.int v0)] => mv_rI (fV_isVat v0 h) fun x h => k [.inl (.int x)] h
  | _ => none
def fV_fill_b31 (o0 : Nat) (v1 : Int32) (v2 : Int32) (v3 : Int32) (vs0 : Int32) (vs1 : Int32) (vs2 : Int32) (h : H2) : O2 :=
  mv_rI (fV_isIn vs0 vs1 vs2 h) fun r2 h1 =>
  if r2 = 0 then (
    some ([Sum.inl (Value.int (-(nI 1)))], h1))
  else
  if v2 = 0 then (
    mv_gd (mv_inb v1 8) <|
    mv_bi (rI2 h1 301 0 v1.toNatClampNeg) fun x3 =>
    mv_gd (mv_inb v1 8) <|
    mv_bh (wI2 h1 301 0 v1.toNatClampNeg v3) fun h4 =>
    some ([Sum.inl (Value.int x3)], h4))
  else
  mv_gd (mv_inb v1 8) <|
  mv_bi (rI2 h1 302 0 v1.toNatClampNeg) fun x5 =>
  mv_gd (mv_inb v1 8) <|
  mv_bh (wI2 h1 302 0 v1.toNatClampNeg v3) fun h6 =>
  some ([Sum.inl (Value.int x5)], h6)
def fV_fill (o0 : Nat) (v1 : Int32) (v2 : Int32) (v3 : Int32) (h : H2) : O2 :=
  mv_rI (fV_isVat v1 h) fun r2 h1 =>
  if r2 = 0 then (
    some ([Sum.inl (Value.int (-(nI 1)))], h1))
  else
  mv_rI (fV_isIn v2 (nI 0) (nI 1) h1) fun r4 h3 =>
  if r4 = 0 then (
    some ([Sum.inl (Value.int (-(nI 1)))], h3))
  else
  if v2 = 0 then (
    fV_fill_b31 o0 v1 v2 v3 v3 (nI 0) (nI 9) h3)
  else
  fV_fill_b31 o0 v1 v2 v3 v3 (nI 0) (nI 9) h3
def fV_vatOf (o0 : Nat) (v1 : Int32) (v2 : Int32) (h : H2) : O2 :=
  mv_rI (fV_isVat v1 h) fun r2 h1 =>
  if r2 = 0 then (
    some ([Sum.inl (Value.int (-(nI 1)))], h1))
  else
  mv_rI (fV_isIn v2 (nI 0) (nI 1) h1) fun r4 h3 =>
  if r4 = 0 then (
    some ([Sum.inl (Value.int (-(nI 1)))], h3))
  else
  if v2 = 0 then (
    mv_gd (mv_inb v1 8) <|
    some ([Sum.inl (Value.int (rI2 h3 301 0 v1.toNatClampNeg))], h3))
  else
  mv_gd (mv_inb v1 8) <|
  some ([Sum.inl (Value.int (rI2 h3 302 0 v1.toNatClampNeg))], h3)
def fV_isRest (v0 : Int32) (h : H2) : O2 :=
  mv_rI (fV_isIn v0 (nI 0) (nI 5) h) fun r2 h1 =>
  mv_gd (decide (r2 = nI 0) || decide (r2 = nI 1)) <| some ([Sum.inl (Value.int r2)], h1)
def cV_isRest : List mv_V → H2 → (List mv_V → H2 → O2) → O2 := fun as h k => match as with
  | [.inl (.int v0)] => mv_rI (fV_isRest v0 h) fun x h => k [.inl (.int x)] h
  | _ => none
def fV_roster_b23 (o0 : Nat) (v1 : Int32) (v2 : Int32) (h : H2) : O2 :=
  mv_gd (mv_inb v1 6) <|
  mv_bi (rI2 h 303 0 v1.toNatClampNeg) fun x1 =>
  mv_gd (mv_inb v1 6) <|
  mv_bh (wI2 h 303 0 v1.toNatClampNeg v2) fun h2 =>
  some ([Sum.inl (Value.int ((nI 1) + x1))], h2)
def fV_roster (o0 : Nat) (v1 : Int32) (v2 : Int32) (h : H2) : O2 :=
  mv_rI (fV_isRest v1 h) fun r2 h1 =>
  if r2 = 0 then (
    some ([Sum.inl (Value.int (-(nI 1)))], h1))
  else
  if v2 = (-(nI 1)) then (
    fV_roster_b23 o0 v1 v2 h1)
  else
  mv_rI (fV_isVat v2 h1) fun r4 h3 =>
  if r4 = 0 then (
    some ([Sum.inl (Value.int (-(nI 1)))], h3))
  else
  fV_roster_b23 o0 v1 v2 h3
def fV_rosterOf (o0 : Nat) (v1 : Int32) (h : H2) : O2 :=
  mv_rI (fV_isRest v1 h) fun r2 h1 =>
  if r2 = 0 then (
    some ([Sum.inl (Value.int (-(nI 1)))], h1))
  else
  mv_gd (mv_inb v1 6) <|
  some ([Sum.inl (Value.int ((nI 1) + (rI2 h1 303 0 v1.toNatClampNeg)))], h1)
def fV_isKind (v0 : Int32) (h : H2) : O2 :=
  mv_rI (fV_isIn v0 (nI 0) (nI 5) h) fun r2 h1 =>
  mv_gd (decide (r2 = nI 0) || decide (r2 = nI 1)) <| some ([Sum.inl (Value.int r2)], h1)
def cV_isKind : List mv_V → H2 → (List mv_V → H2 → O2) → O2 := fun as h k => match as with
  | [.inl (.int v0)] => mv_rI (fV_isKind v0 h) fun x h => k [.inl (.int x)] h
  | _ => none
def fV_cloth (o0 : Nat) (v1 : Int32) (h : H2) : O2 :=
  mv_rI (fV_isKind v1 h) fun r2 h1 =>
  if r2 = 0 then (
    some ([Sum.inl (Value.int (-(nI 1)))], h1))
  else
  if (rI2 h1 2 0 9) < (nI 8) then (
    mv_rI (fM_addCloth 0 v1 h1) fun r4 h3 =>
    some ([Sum.inl (Value.int r4)], h3))
  else
  some ([Sum.inl (Value.int (-(nI 2)))], h1)
def fV_of (o0 : Nat) (v1 : Int32) (v2 : Int32) (h : H2) : O2 :=
  mv_rI (fM_has 0 v1 h) fun r2 h1 =>
  if r2 = 0 then (
    some ([Sum.inl (Value.int (-(nI 1)))], h1))
  else
  if v2 = nI 0 then (
    mv_gd (mv_inb v1 8) <|
    some ([Sum.inl (Value.int (rI2 h1 304 0 v1.toNatClampNeg))], h1))
  else
  if v2 = nI 1 then (
    mv_gd (mv_inb v1 8) <|
    some ([Sum.inl (Value.int ((nI 1) + (rI2 h1 305 0 v1.toNatClampNeg)))], h1))
  else
  if v2 = nI 2 then (
    mv_gd (mv_inb v1 8) <|
    some ([Sum.inl (Value.int (rI2 h1 306 0 v1.toNatClampNeg))], h1))
  else
  if v2 = nI 3 then (
    mv_gd (mv_inb v1 8) <|
    some ([Sum.inl (Value.int (rI2 h1 307 0 v1.toNatClampNeg))], h1))
  else
  if v2 = nI 4 then (
    mv_gd (mv_inb v1 8) <|
    some ([Sum.inl (Value.int (rI2 h1 308 0 v1.toNatClampNeg))], h1))
  else
  some ([Sum.inl (Value.int (-(nI 1)))], h1)
def fV_does (o0 : Nat) (v1 : Int32) (v2 : Int32) (v3 : Int32) (h : H2) : O2 :=
  mv_rI (fM_has 0 v1 h) fun r2 h1 =>
  if r2 = 0 then (
    some ([Sum.inl (Value.int (-(nI 1)))], h1))
  else
  mv_rI (fV_isVat v2 h1) fun r4 h3 =>
  if r4 = 0 then (
    some ([Sum.inl (Value.int (-(nI 1)))], h3))
  else
  if v3 = nI 0 then (
    mv_rI (fM_takes 0 v1 v2 h3) fun r6 h5 =>
    some ([Sum.inl (Value.int ((nI 1000) + r6))], h5))
  else
  if v3 = nI 1 then (
    mv_rI (fM_fights 0 v1 v2 h3) fun r8 h7 =>
    some ([Sum.inl (Value.int ((nI 1000) + r8))], h7))
  else
  if v3 = nI 2 then (
    mv_rI (fM_fades 0 v1 h3) fun r10 h9 =>
    some ([Sum.inl (Value.int ((nI 1000) + r10))], h9))
  else
  some ([Sum.inl (Value.int (-(nI 1)))], h3)
def fV_mind (o0 : Nat) (v1 : Int32) (v2 : Int32) (h : H2) : O2 :=
  mv_rI (fM_has 0 v1 h) fun r2 h1 =>
  if r2 = 0 then (
    some ([Sum.inl (Value.int (-(nI 1)))], h1))
  else
  mv_rI (fV_isKind v2 h1) fun r4 h3 =>
  if r4 = 0 then (
    some ([Sum.inl (Value.int (-(nI 1)))], h3))
  else
  mv_gd (mv_inb v1 8) <|
  mv_bi (rI2 h3 304 0 v1.toNatClampNeg) fun x5 =>
  mv_gd (mv_inb v1 8) <|
  mv_bh (wI2 h3 304 0 v1.toNatClampNeg v2) fun h6 =>
  some ([Sum.inl (Value.int x5)], h6)
def fV_isPurpose (v0 : Int32) (h : H2) : O2 :=
  mv_rI (fV_isIn v0 (nI 0) (nI 9) h) fun r2 h1 =>
  mv_gd (decide (r2 = nI 0) || decide (r2 = nI 1)) <| some ([Sum.inl (Value.int r2)], h1)
def cV_isPurpose : List mv_V → H2 → (List mv_V → H2 → O2) → O2 := fun as h k => match as with
  | [.inl (.int v0)] => mv_rI (fV_isPurpose v0 h) fun x h => k [.inl (.int x)] h
  | _ => none
def fV_steep_b53 (o0 : Nat) (v1 : Int32) (v2 : Int32) (v3 : Int32) (h : H2) : O2 :=
  mv_gd (mv_inb v1 8) <|
  mv_bi (rI2 h 305 0 v1.toNatClampNeg) fun x1 =>
  mv_gd (mv_inb v1 8) <|
  mv_bh (wI2 h 305 0 v1.toNatClampNeg v2) fun h2 =>
  mv_gd (mv_inb v1 8) <|
  mv_bh (wI2 h2 306 0 v1.toNatClampNeg v3) fun h3 =>
  some ([Sum.inl (Value.int ((nI 1) + x1))], h3)
def fV_steep_b27 (o0 : Nat) (v1 : Int32) (v2 : Int32) (v3 : Int32) (vs0 : Int32) (h : H2) : O2 :=
  mv_bi vs0 fun x1 =>
  if x1 = 0 then (
    mv_rI (fV_isPurpose v2 h) fun r3 h2 =>
    if r3 = 0 then (
      some ([Sum.inl (Value.int (-(nI 1)))], h2))
    else
    mv_rI (fV_isIn v3 (nI 1) (nI 99) h2) fun r5 h4 =>
    if r5 = 0 then (
      some ([Sum.inl (Value.int (-(nI 1)))], h4))
    else
    fV_steep_b53 o0 v1 v2 v3 h4)
  else
  fV_steep_b53 o0 v1 v2 v3 h
def fV_steep (o0 : Nat) (v1 : Int32) (v2 : Int32) (v3 : Int32) (h : H2) : O2 :=
  mv_rI (fM_has 0 v1 h) fun r2 h1 =>
  if r2 = 0 then (
    some ([Sum.inl (Value.int (-(nI 1)))], h1))
  else
  if v2 = (-(nI 1)) then (
    if v3 = 0 then (
      fV_steep_b27 o0 v1 v2 v3 (nI 1) h1)
    else
    fV_steep_b27 o0 v1 v2 v3 (nI 0) h1)
  else
  fV_steep_b27 o0 v1 v2 v3 (nI 0) h1
def fV_hang (o0 : Nat) (v1 : Int32) (v2 : Int32) (h : H2) : O2 :=
  mv_rI (fM_has 0 v1 h) fun r2 h1 =>
  if r2 = 0 then (
    some ([Sum.inl (Value.int (-(nI 1)))], h1))
  else
  mv_rI (fV_isIn v2 (nI 0) (nI 1) h1) fun r4 h3 =>
  if r4 = 0 then (
    some ([Sum.inl (Value.int (-(nI 1)))], h3))
  else
  mv_gd (mv_inb v1 8) <|
  mv_bi (rI2 h3 307 0 v1.toNatClampNeg) fun x5 =>
  mv_gd (mv_inb v1 8) <|
  mv_bh (wI2 h3 307 0 v1.toNatClampNeg v2) fun h6 =>
  some ([Sum.inl (Value.int x5)], h6)
def fV_dip (o0 : Nat) (v1 : Int32) (v2 : Int32) (h : H2) : O2 :=
  mv_rI (fM_has 0 v1 h) fun r2 h1 =>
  if r2 = 0 then (
    some ([Sum.inl (Value.int (-(nI 1)))], h1))
  else
  mv_rI (fV_isVat v2 h1) fun r4 h3 =>
  if r4 = 0 then (
    some ([Sum.inl (Value.int (-(nI 1)))], h3))
  else
  mv_rV (fM_dipInto 0 v1 v2 h3) fun h5 =>
  mv_gd (mv_inb v1 8) <|
  some ([Sum.inl (Value.int ((nI 1) + (rI2 h5 305 0 v1.toNatClampNeg)))], h5)
def fV_days (o0 : Nat) (v1 : Int32) (h : H2) : O2 :=
  mv_rI (fV_isIn v1 (nI 1) (nI 60) h) fun r2 h1 =>
  if r2 = 0 then (
    some ([Sum.inl (Value.int (-(nI 1)))], h1))
  else
  mv_rV (fM_passDays 0 v1 h1) fun h3 =>
  mv_rI (fM_allDepths 0 h3) fun r5 h4 =>
  some ([Sum.inl (Value.int r5)], h4)
def fV_seed (o0 : Nat) (v1 : Int32) (h : H2) : O2 :=
  mv_bi (rI2 h 2 0 11) fun x1 =>
  mv_bh (wI2 h 2 0 11 v1) fun h2 =>
  some ([Sum.inl (Value.int x1)], h2)
def fV_day (o0 : Nat) (h : H2) : O2 :=
  mv_rV (fM_passDrawnDay 0 h) fun h1 =>
  mv_rI (fM_allDepths 0 h1) fun r3 h2 =>
  some ([Sum.inl (Value.int r3)], h2)
def fV_luck (o0 : Nat) (v1 : Int32) (h : H2) : O2 :=
  mv_rI (fV_isIn v1 (nI 1) (nI 30) h) fun r2 h1 =>
  if r2 = 0 then (
    some ([Sum.inl (Value.int (-(nI 1)))], h1))
  else
  mv_rI (fF_luckyDays 0 0 v1 h1) fun r4 h3 =>
  some ([Sum.inl (Value.int r4)], h3)
def fV_state (o0 : Nat) (v1 : Int32) (h : H2) : O2 :=
  if v1 = nI 0 then (
    some ([Sum.inl (Value.int (rI2 h 2 0 10))], h))
  else
  if v1 = nI 1 then (
    mv_rI (fM_vatOfToday 0 h) fun r2 h1 =>
    some ([Sum.inl (Value.int ((nI 1) + r2))], h1))
  else
  if v1 = nI 2 then (
    mv_rI (fM_hungSet 0 h) fun r4 h3 =>
    some ([Sum.inl (Value.int r4)], h3))
  else
  if v1 = nI 3 then (
    mv_rI (fM_aboutSet 0 h) fun r6 h5 =>
    some ([Sum.inl (Value.int r6)], h5))
  else
  if v1 = nI 4 then (
    mv_rI (fM_allDepths 0 h) fun r8 h7 =>
    some ([Sum.inl (Value.int r8)], h7))
  else
  if v1 = nI 5 then (
    mv_rI (fM_oddPairs 0 h) fun r10 h9 =>
    some ([Sum.inl (Value.int r10)], h9))
  else
  some ([Sum.inl (Value.int (-(nI 1)))], h)
def fV_isDays (v0 : Int32) (h : H2) : O2 :=
  mv_rI (fV_isIn v0 (nI 0) (nI 60) h) fun r2 h1 =>
  mv_gd (decide (r2 = nI 0) || decide (r2 = nI 1)) <| some ([Sum.inl (Value.int r2)], h1)
def cV_isDays : List mv_V → H2 → (List mv_V → H2 → O2) → O2 := fun as h k => match as with
  | [.inl (.int v0)] => mv_rI (fV_isDays v0 h) fun x h => k [.inl (.int x)] h
  | _ => none
def fV_gone (o0 : Nat) (v1 : Int32) (v2 : Int32) (h : H2) : O2 :=
  mv_rI (fM_has 0 v1 h) fun r2 h1 =>
  if r2 = 0 then (
    some ([Sum.inl (Value.int (-(nI 1)))], h1))
  else
  mv_rI (fV_isDays v2 h1) fun r4 h3 =>
  if r4 = 0 then (
    some ([Sum.inl (Value.int (-(nI 1)))], h3))
  else
  mv_rR 2 (fF_behind 0 0 v2 h3) fun r6 h5 =>
  mv_gd (mv_inb v1 8) <|
  some ([Sum.inl (Value.int ((nI 1) + (rI2 h5 305 r6 v1.toNatClampNeg)))], h5)
def fV_depth (o0 : Nat) (v1 : Int32) (v2 : Int32) (h : H2) : O2 :=
  mv_rI (fM_has 0 v1 h) fun r2 h1 =>
  if r2 = 0 then (
    some ([Sum.inl (Value.int (-(nI 1)))], h1))
  else
  mv_rI (fV_isDays v2 h1) fun r4 h3 =>
  if r4 = 0 then (
    some ([Sum.inl (Value.int (-(nI 1)))], h3))
  else
  mv_rR 2 (fF_behind 0 0 v2 h3) fun r6 h5 =>
  mv_gd (mv_inb v1 8) <|
  some ([Sum.inl (Value.int (rI2 h5 306 r6 v1.toNatClampNeg))], h5)
def fV_comes (o0 : Nat) (v1 : Int32) (v2 : Int32) (h : H2) : O2 :=
  mv_rI (fM_has 0 v1 h) fun r2 h1 =>
  if r2 = 0 then (
    some ([Sum.inl (Value.int (-(nI 1)))], h1))
  else
  mv_rI (fV_isPurpose v2 h1) fun r4 h3 =>
  if r4 = 0 then (
    some ([Sum.inl (Value.int (-(nI 1)))], h3))
  else
  mv_rI (fF_daysUntilAbout 0 0 v1 v2 h3) fun r6 h5 =>
  some ([Sum.inl (Value.int r6)], h5)
def fV_bare (o0 : Nat) (v1 : Int32) (h : H2) : O2 :=
  mv_rI (fM_has 0 v1 h) fun r2 h1 =>
  if r2 = 0 then (
    some ([Sum.inl (Value.int (-(nI 1)))], h1))
  else
  mv_rI (fF_daysUntilAbout 0 0 v1 (-(nI 1)) h1) fun r4 h3 =>
  some ([Sum.inl (Value.int r4)], h3)
def fV_spoilt (o0 : Nat) (v1 : Int32) (h : H2) : O2 :=
  mv_rI (fV_isDays v1 h) fun r2 h1 =>
  if r2 = 0 then (
    some ([Sum.inl (Value.int (-(nI 1)))], h1))
  else
  mv_rI (fF_spoiltBehind 0 0 v1 h1) fun r4 h3 =>
  some ([Sum.inl (Value.int r4)], h3)
def fV_through (o0 : Nat) (v1 : Int32) (v2 : Int32) (h : H2) : O2 :=
  mv_rI (fM_has 0 v1 h) fun r2 h1 =>
  if r2 = 0 then (
    some ([Sum.inl (Value.int (-(nI 1)))], h1))
  else
  mv_rI (fV_isPurpose v2 h1) fun r4 h3 =>
  if r4 = 0 then (
    some ([Sum.inl (Value.int (-(nI 1)))], h3))
  else
  mv_rI (fF_vatsThrough 0 0 v1 v2 h3) fun r6 h5 =>
  some ([Sum.inl (Value.int r6)], h5)
def fV_vatFor (o0 : Nat) (v1 : Int32) (v2 : Int32) (h : H2) : O2 :=
  mv_rI (fV_isRest v1 h) fun r2 h1 =>
  if r2 = 0 then (
    some ([Sum.inl (Value.int (-(nI 1)))], h1))
  else
  mv_rI (fV_isIn v2 (nI 1) (nI 40) h1) fun r4 h3 =>
  if r4 = 0 then (
    some ([Sum.inl (Value.int (-(nI 1)))], h3))
  else
  mv_rI (fF_deepestVat 0 0 v1 v2 h3) fun r6 h5 =>
  some ([Sum.inl (Value.int r6)], h5)
def fV_kindFor (o0 : Nat) (v1 : Int32) (v2 : Int32) (h : H2) : O2 :=
  mv_rI (fM_has 0 v1 h) fun r2 h1 =>
  if r2 = 0 then (
    some ([Sum.inl (Value.int (-(nI 1)))], h1))
  else
  mv_rI (fV_isIn v2 (nI 1) (nI 40) h1) fun r4 h3 =>
  if r4 = 0 then (
    some ([Sum.inl (Value.int (-(nI 1)))], h3))
  else
  mv_rI (fF_deepestKind 0 0 v1 v2 h3) fun r6 h5 =>
  some ([Sum.inl (Value.int r6)], h5)
def fV_strengthFor (o0 : Nat) (v1 : Int32) (v2 : Int32) (v3 : Int32) (v4 : Int32) (h : H2) : O2 :=
  mv_rI (fV_isVat v1 h) fun r2 h1 =>
  if r2 = 0 then (
    some ([Sum.inl (Value.int (-(nI 1)))], h1))
  else
  mv_rI (fM_has 0 v2 h1) fun r4 h3 =>
  if r4 = 0 then (
    some ([Sum.inl (Value.int (-(nI 1)))], h3))
  else
  mv_rI (fV_isPurpose v3 h3) fun r6 h5 =>
  if r6 = 0 then (
    some ([Sum.inl (Value.int (-(nI 1)))], h5))
  else
  mv_rI (fV_isIn v4 (nI 1) (nI 40) h5) fun r8 h7 =>
  if r8 = 0 then (
    some ([Sum.inl (Value.int (-(nI 1)))], h7))
  else
  mv_rI (fF_leastStrength 0 0 v1 v2 v3 v4 h7) fun r10 h9 =>
  some ([Sum.inl (Value.int r10)], h9)
def fV_hangFor (o0 : Nat) (v1 : Int32) (v2 : Int32) (h : H2) : O2 :=
  mv_rI (fV_isIn v1 (nI 1) (nI 30) h) fun r2 h1 =>
  if r2 = 0 then (
    some ([Sum.inl (Value.int (-(nI 1)))], h1))
  else
  mv_rI (fV_isIn v2 (nI 0) (nI 8) h1) fun r4 h3 =>
  if r4 = 0 then (
    some ([Sum.inl (Value.int (-(nI 1)))], h3))
  else
  mv_rI (fF_fewestHung 0 0 v1 v2 h3) fun r6 h5 =>
  some ([Sum.inl (Value.int r6)], h5)
def fV_isSheet (v0 : Int32) (h : H2) : O2 :=
  mv_rI (fV_isIn v0 (nI 0) (nI 3) h) fun r2 h1 =>
  mv_gd (decide (r2 = nI 0) || decide (r2 = nI 1)) <| some ([Sum.inl (Value.int r2)], h1)
def cV_isSheet : List mv_V → H2 → (List mv_V → H2 → O2) → O2 := fun as h k => match as with
  | [.inl (.int v0)] => mv_rI (fV_isSheet v0 h) fun x h => k [.inl (.int x)] h
  | _ => none
def fV_fits (o0 : Nat) (v1 : Int32) (v2 : Int32) (v3 : Int32) (h : H2) : O2 :=
  mv_rI (fV_isSheet v1 h) fun r2 h1 =>
  if r2 = 0 then (
    some ([Sum.inl (Value.int (-(nI 1)))], h1))
  else
  mv_rI (fM_has 0 v2 h1) fun r4 h3 =>
  if r4 = 0 then (
    some ([Sum.inl (Value.int (-(nI 1)))], h3))
  else
  mv_rI (fV_isIn v3 (nI 0) (nI 1) h3) fun r6 h5 =>
  if r6 = 0 then (
    some ([Sum.inl (Value.int (-(nI 1)))], h5))
  else
  mv_gd (mv_inb v1 4) <|
  mv_el (sht2 h5 v1.toNatClampNeg) (
    some ([Sum.inl (Value.int (-(nI 11)))], h5)) fun r7 =>
  if v3 = 0 then (
    mv_rI (fF_manyFitting 0 0 v2 r7 h5) fun r9 h8 =>
    some ([Sum.inl (Value.int r9)], h8))
  else
  mv_rI (fF_leastFitting 0 0 v2 r7 h5) fun r11 h10 =>
  some ([Sum.inl (Value.int r11)], h10)
def fV_odds (o0 : Nat) (v1 : Int32) (v2 : Int32) (v3 : Int32) (h : H2) : O2 :=
  mv_rI (fV_isIn v1 (nI 0) (nI 8) h) fun r2 h1 =>
  if r2 = 0 then (
    some ([Sum.inl (Value.long (-(lN 1)))], h1))
  else
  mv_rI (fV_isIn v2 (nI 0) v1 h1) fun r4 h3 =>
  if r4 = 0 then (
    some ([Sum.inl (Value.long (-(lN 1)))], h3))
  else
  mv_rI (fV_isIn v3 (nI 0) (nI 1) h3) fun r6 h5 =>
  if r6 = 0 then (
    some ([Sum.inl (Value.long (-(lN 1)))], h5))
  else
  mv_gd (mv_inb (nI 3) 4) <|
  mv_rL (fC_justSlip v1 v2 (rI2 h5 300 0 (nI 3).toNatClampNeg) v3 h5) fun r8 h7 =>
  some ([Sum.inl (Value.long r8)], h7)
def fV_hope (o0 : Nat) (v1 : Int32) (v2 : Int32) (h : H2) : O2 :=
  mv_rI (fV_isIn v1 (nI 0) (nI 99) h) fun r2 h1 =>
  if r2 = 0 then (
    some ([Sum.inl (Value.long (-(lN 1)))], h1))
  else
  mv_rI (fV_isIn v2 (nI 0) (nI 1) h1) fun r4 h3 =>
  if r4 = 0 then (
    some ([Sum.inl (Value.long (-(lN 1)))], h3))
  else
  mv_gd (mv_inb (nI 3) 4) <|
  mv_rL (fC_partOf (v1.toInt64 * ((rI2 h3 300 0 (nI 3).toNatClampNeg).toInt64)) (lN 100) v2 h3) fun r6 h5 =>
  some ([Sum.inl (Value.long r6)], h5)
def fV_prove (o0 : Nat) (v1 : Int32) (v2 : Int32) (h : H2) : O2 :=
  mv_rI (fM_has 0 v1 h) fun r2 h1 =>
  if r2 = 0 then (
    some ([Sum.inl (Value.int (-(nI 1)))], h1))
  else
  mv_rI (fV_isIn v2 (nI 1) (nI 10) h1) fun r4 h3 =>
  if r4 = 0 then (
    some ([Sum.inl (Value.int (-(nI 1)))], h3))
  else
  mv_rV (fF_writeRows 0 0 v1 v2 0 h3) fun h5 =>
  some ([Sum.inl (Value.int v2)], h5)
def fV_row (o0 : Nat) (v1 : Int32) (v2 : Int32) (h : H2) : O2 :=
  mv_rI (fR_has 0 v1 v2 h) fun r2 h1 =>
  if r2 = 0 then (
    some ([Sum.inl (Value.int (-(nI 9)))], h1))
  else
  mv_rI (fR_read 0 v1 v2 h1) fun r4 h3 =>
  some ([Sum.inl (Value.int r4)], h3)
def fV_alterRow (o0 : Nat) (v1 : Int32) (v2 : Int32) (v3 : Int32) (h : H2) : O2 :=
  mv_rI (fR_has 0 v1 v2 h) fun r2 h1 =>
  if r2 = 0 then (
    some ([Sum.inl (Value.int (-(nI 9)))], h1))
  else
  mv_rI (fR_read 0 v1 v2 h1) fun r4 h3 =>
  mv_bi r4 fun x5 =>
  mv_rV (fR_write 0 v1 v2 v3 h3) fun h6 =>
  some ([Sum.inl (Value.int x5)], h6)
def fV_judge (o0 : Nat) (v1 : Int32) (h : H2) : O2 :=
  mv_rI (fM_has 0 v1 h) fun r2 h1 =>
  if r2 = 0 then (
    some ([Sum.inl (Value.int (-(nI 1)))], h1))
  else
  mv_rI (fF_firstWrongRow 0 0 v1 0 h1) fun r4 h3 =>
  some ([Sum.inl (Value.int r4)], h3)
def fV_minds_b105 : Nat → Nat → Int32 → Int32 → Int32 → Nat → Int32 → H2 → O2
  | 0 => fun _ _ _ _ _ _ _ => none
  | n + 1 => fun o0 v2 v3 v4 o5 v6 h =>
    if v4 ≤ v6 then (
      some ([Sum.inl (Value.int v4)], h))
    else
    mv_rI (fS_read o5 (v2 + v6) h) fun r2 h1 =>
    mv_rV (fM_deepen 0 (v3 + v6) r2 h1) fun h3 =>
    mv_bi (v6 + (nI 1)) fun x4 =>
    fV_minds_b105 n o0 v2 v3 v4 o5 x4 h3
def fV_minds (o0 : Nat) (v1 : Int32) (v2 : Int32) (v3 : Int32) (v4 : Int32) (h : H2) : O2 :=
  mv_rI (fV_isSheet v1 h) fun r2 h1 =>
  if r2 = 0 then (
    some ([Sum.inl (Value.int (-(nI 1)))], h1))
  else
  mv_rI (fM_has 0 v3 h1) fun r4 h3 =>
  if r4 = 0 then (
    some ([Sum.inl (Value.int (-(nI 1)))], h3))
  else
  mv_rI (fV_isIn v4 (nI 0) (nI 8) h3) fun r6 h5 =>
  if r6 = 0 then (
    some ([Sum.inl (Value.int (-(nI 1)))], h5))
  else
  if v4 ≤ ((rI2 h5 2 0 9) - v3) then (
    mv_gd (mv_inb v1 4) <|
    mv_el (sht2 h5 v1.toNatClampNeg) (
      some ([Sum.inl (Value.int (-(nI 11)))], h5)) fun r7 =>
    if (rI2 h5 4 r7 0) = 0 then (
      mv_rI (fS_size r7 h5) fun r9 h8 =>
      mv_rI (fV_isIn v2 (nI 0) r9 h8) fun r11 h10 =>
      if r11 = 0 then (
        some ([Sum.inl (Value.int (-(nI 12)))], h10))
      else
      mv_rI (fS_size r7 h10) fun r13 h12 =>
      if v4 ≤ (r13 - v2) then (
        mv_bi (nI 0) fun x14 =>
        fV_minds_b105 1000 o0 v2 v3 v4 r7 x14 h12)
      else
      some ([Sum.inl (Value.int (-(nI 12)))], h12))
    else
    some ([Sum.inl (Value.int (-(nI 13)))], h5))
  else
  some ([Sum.inl (Value.int (-(nI 1)))], h5)
def fV_sheet (o0 : Nat) (v1 : Int32) (v2 : Int32) (v3 : Int32) (h : H2) : O2 :=
  mv_rI (fV_isSheet v1 h) fun r2 h1 =>
  if r2 = 0 then (
    some ([Sum.inl (Value.int (-(nI 1)))], h1))
  else
  mv_rI (fV_isIn v2 (-(nI 1)) (nI 3) h1) fun r4 h3 =>
  if r4 = 0 then (
    some ([Sum.inl (Value.int (-(nI 1)))], h3))
  else
  if v2 = (-(nI 1)) then (
    mv_gd (mv_inb v1 4) <|
    wR2 h3 807 0 v1.toNatClampNeg none fun h5 =>
    some ([Sum.inl (Value.int (nI 1))], h5))
  else
  if v3 ≤ (nI 40) then (
    if 0 ≤ v3 then (
      nw2 h3 4 0 fun r6 h7 =>
      mv_rV (fS_init r6 v2 v3 h7) fun h8 =>
      mv_gd (mv_inb v1 4) <|
      wR2 h8 807 0 v1.toNatClampNeg (some (4, r6)) fun h9 =>
      some ([Sum.inl (Value.int (nI 1))], h9))
    else
    some ([Sum.inl (Value.int (-(nI 14)))], h3))
  else
  some ([Sum.inl (Value.int (-(nI 1)))], h3)
def fV_put (o0 : Nat) (v1 : Int32) (v2 : Int32) (v3 : Int32) (h : H2) : O2 :=
  mv_rI (fV_isSheet v1 h) fun r2 h1 =>
  if r2 = 0 then (
    some ([Sum.inl (Value.int (-(nI 1)))], h1))
  else
  mv_gd (mv_inb v1 4) <|
  mv_el (sht2 h1 v1.toNatClampNeg) (
    some ([Sum.inl (Value.int (-(nI 11)))], h1)) fun r3 =>
  mv_rI (fS_has r3 v2 h1) fun r5 h4 =>
  if r5 = 0 then (
    some ([Sum.inl (Value.int (-(nI 12)))], h4))
  else
  mv_rV (fS_write r3 v2 v3 h4) fun h6 =>
  some ([Sum.inl (Value.int (nI 1))], h6)
def fV_item (o0 : Nat) (v1 : Int32) (v2 : Int32) (v3 : Int32) (h : H2) : O2 :=
  mv_rI (fV_isSheet v1 h) fun r2 h1 =>
  if r2 = 0 then (
    some ([Sum.inl (Value.int (-(nI 1)))], h1))
  else
  mv_rI (fV_isIn v2 (nI 0) (nI 3) h1) fun r4 h3 =>
  if r4 = 0 then (
    some ([Sum.inl (Value.int (-(nI 1)))], h3))
  else
  mv_gd (mv_inb v1 4) <|
  mv_el (sht2 h3 v1.toNatClampNeg) (
    some ([Sum.inl (Value.int (-(nI 11)))], h3)) fun r5 =>
  if (rI2 h3 4 r5 0) = v2 then (
    mv_rI (fS_has r5 v3 h3) fun r7 h6 =>
    if r7 = 0 then (
      some ([Sum.inl (Value.int (-(nI 12)))], h6))
    else
    mv_rI (fS_read r5 v3 h6) fun r9 h8 =>
    some ([Sum.inl (Value.int r9)], h8))
  else
  some ([Sum.inl (Value.int (-(nI 13)))], h3)
def fV_isShelf (v0 : Int32) (h : H2) : O2 :=
  mv_rI (fV_isIn v0 (nI 0) (nI 3) h) fun r2 h1 =>
  mv_gd (decide (r2 = nI 0) || decide (r2 = nI 1)) <| some ([Sum.inl (Value.int r2)], h1)
def cV_isShelf : List mv_V → H2 → (List mv_V → H2 → O2) → O2 := fun as h k => match as with
  | [.inl (.int v0)] => mv_rI (fV_isShelf v0 h) fun x h => k [.inl (.int x)] h
  | _ => none
def fV_shelf (o0 : Nat) (v1 : Int32) (v2 : Int32) (v3 : Int32) (h : H2) : O2 :=
  mv_rI (fV_isShelf v1 h) fun r2 h1 =>
  if r2 = 0 then (
    some ([Sum.inl (Value.int (-(nI 1)))], h1))
  else
  if v2 = nI 0 then (
    mv_rI (fM_has 0 v3 h1) fun r4 h3 =>
    if r4 = 0 then (
      some ([Sum.inl (Value.int (-(nI 1)))], h3))
    else
    mv_rV (fH_holdCloth 0 v1 v3 h3) fun h5 =>
    some ([Sum.inl (Value.int (nI 1))], h5))
  else
  if v2 = nI 1 then (
    mv_rI (fV_isSheet v3 h1) fun r7 h6 =>
    if r7 = 0 then (
      some ([Sum.inl (Value.int (-(nI 1)))], h6))
    else
    mv_gd (mv_inb v3 4) <|
    mv_el (sht2 h6 v3.toNatClampNeg) (
      mv_rV (fH_holdRow_n 0 v1 h6) fun h9 =>
      some ([Sum.inl (Value.int (nI 1))], h9)) fun r8 =>
    mv_rV (fH_holdRow_r 0 v1 r8 h6) fun h10 =>
    some ([Sum.inl (Value.int (nI 1))], h10))
  else
  if v2 = nI 2 then (
    mv_rV (fH_holdRow_n 0 v1 h1) fun h11 =>
    some ([Sum.inl (Value.int (nI 1))], h11))
  else
  some ([Sum.inl (Value.int (-(nI 1)))], h1)
def fV_parentKind (v0 : Int32) (h : H2) : O2 :=
  if v0 = nI 1 then (
    some ([Sum.inl (Value.int (nI 0))], h))
  else
  if v0 = nI 2 then (
    some ([Sum.inl (Value.int (nI 0))], h))
  else
  if v0 = nI 3 then (
    some ([Sum.inl (Value.int (nI 1))], h))
  else
  if v0 = nI 4 then (
    some ([Sum.inl (Value.int (nI 2))], h))
  else
  if v0 = nI 5 then (
    some ([Sum.inl (Value.int (nI 0))], h))
  else
  some ([Sum.inl (Value.int (-(nI 1)))], h)
def cV_parentKind : List mv_V → H2 → (List mv_V → H2 → O2) → O2 := fun as h k => match as with
  | [.inl (.int v0)] => mv_rI (fV_parentKind v0 h) fun x h => k [.inl (.int x)] h
  | _ => none
def fV_isUnder_b4 : Nat → Int32 → Int32 → Int32 → H2 → O2
  | 0 => fun _ _ _ _ => none
  | n + 1 => fun v1 v2 v3 h =>
    if (nI 6) ≤ v3 then (
      mv_gd (decide (nI 0 = nI 0) || decide (nI 0 = nI 1)) <| some ([Sum.inl (Value.int (nI 0))], h))
    else
    if v2 = (-(nI 1)) then (
      mv_gd (decide (nI 0 = nI 0) || decide (nI 0 = nI 1)) <| some ([Sum.inl (Value.int (nI 0))], h))
    else
    if v2 = v1 then (
      mv_gd (decide (nI 1 = nI 0) || decide (nI 1 = nI 1)) <| some ([Sum.inl (Value.int (nI 1))], h))
    else
    mv_rI (fV_parentKind v2 h) fun r2 h1 =>
    mv_bi r2 fun x3 =>
    mv_bi (v3 + (nI 1)) fun x4 =>
    fV_isUnder_b4 n v1 x3 x4 h1
def fV_isUnder (v0 : Int32) (v1 : Int32) (h : H2) : O2 :=
  mv_bi v0 fun x1 =>
  mv_bi (nI 0) fun x2 =>
  fV_isUnder_b4 1000 v1 x1 x2 h
def cV_isUnder : List mv_V → H2 → (List mv_V → H2 → O2) → O2 := fun as h k => match as with
  | [.inl (.int v0), .inl (.int v1)] => mv_rI (fV_isUnder v0 v1 h) fun x h => k [.inl (.int x)] h
  | _ => none
def fV_taken_b29 (o0 : Nat) (v1 : Int32) (v2 : Int32) (h : H2) : O2 :=
  mv_rQ (fH_rowOn 0 v1 h) (fun h1 =>
    mv_rI (fH_clothOn 0 v1 h1) fun r4 h3 =>
    mv_bi r4 fun x5 =>
    mv_rI (fM_has 0 x5 h3) fun r7 h6 =>
    if r7 = 0 then (
      some ([Sum.inl (Value.int (-(nI 11)))], h6))
    else
    mv_gd (mv_inb x5 8) <|
    mv_rI (fV_isUnder (rI2 h6 304 0 x5.toNatClampNeg) v2 h6) fun r9 h8 =>
    if r9 = 0 then (
      some ([Sum.inl (Value.int (-(nI 13)))], h8))
    else
    some ([Sum.inl (Value.int x5)], h8)) fun r2 h1 =>
  if (rI2 h1 4 r2 0) = (v2 - (nI 10)) then (
    mv_rI (fS_size r2 h1) fun r11 h10 =>
    some ([Sum.inl (Value.int r11)], h10))
  else
  some ([Sum.inl (Value.int (-(nI 13)))], h1)
def fV_taken (o0 : Nat) (v1 : Int32) (v2 : Int32) (h : H2) : O2 :=
  mv_rI (fV_isShelf v1 h) fun r2 h1 =>
  if r2 = 0 then (
    some ([Sum.inl (Value.int (-(nI 1)))], h1))
  else
  mv_rI (fV_isKind v2 h1) fun r4 h3 =>
  if r4 = 0 then (
    mv_rI (fV_isIn v2 (nI 10) (nI 13) h3) fun r6 h5 =>
    if r6 = 0 then (
      some ([Sum.inl (Value.int (-(nI 1)))], h5))
    else
    fV_taken_b29 o0 v1 v2 h5)
  else
  fV_taken_b29 o0 v1 v2 h3
def fV_act (o0 : Nat) (v1 : Int32) (v2 : Int32) (v3 : Int32) (h : H2) : O2 :=
  mv_rV (fA_forget 0 h) fun h1 =>
  mv_rI (fV_isShelf v1 h1) fun r3 h2 =>
  if r3 = 0 then (
    some ([Sum.inl (Value.int (nI 0))], h2))
  else
  mv_rI (fV_isIn v2 (nI 0) (nI 3) h2) fun r5 h4 =>
  if r5 = 0 then (
    some ([Sum.inl (Value.int (nI 0))], h4))
  else
  mv_rI (fH_clothOn 0 v1 h4) fun r7 h6 =>
  mv_bi r7 fun x8 =>
  mv_rI (fM_has 0 x8 h6) fun r10 h9 =>
  if r10 = 0 then (
    some ([Sum.inl (Value.int (nI 0))], h9))
  else
  mv_gd (mv_inb x8 8) <|
  mv_gd (mv_inb x8 8) <|
  mv_rV (fA_hold 0 (rI2 h9 304 0 x8.toNatClampNeg) x8 ((nI 1) + (rI2 h9 305 0 x8.toNatClampNeg)) h9) fun h11 =>
  mv_rI (fA_perform 0 v2 v3 h11) fun r13 h12 =>
  some ([Sum.inl (Value.int r13)], h12)
def fV_trace (o0 : Nat) (v1 : Int32) (h : H2) : O2 :=
  mv_rI (fV_isIn v1 (nI 0) ((rI2 h 0 0 1) - (nI 1)) h) fun r2 h1 =>
  if r2 = 0 then (
    some ([Sum.inl (Value.int (-(nI 3)))], h1))
  else
  mv_gd (mv_inb v1 30) <|
  some ([Sum.inl (Value.int (rI2 h1 100 0 v1.toNatClampNeg))], h1)
def fV_many (o0 : Nat) (v1 : Int32) (h : H2) : O2 :=
  if v1 = nI 0 then (
    some ([Sum.inl (Value.int (rI2 h 2 0 9))], h))
  else
  if v1 = nI 1 then (
    mv_rI (fM_hungSet 0 h) fun r2 h1 =>
    mv_rI (fJ_bitCount_0f7a4 r2 h1) fun r4 h3 =>
    some ([Sum.inl (Value.int r4)], h3))
  else
  if v1 = nI 2 then (
    mv_rI (fM_aboutSet 0 h) fun r6 h5 =>
    mv_rI (fJ_bitCount_0f7a4 r6 h5) fun r8 h7 =>
    some ([Sum.inl (Value.int r8)], h7))
  else
  if v1 = nI 3 then (
    mv_rI (fM_purposeSet 0 h) fun r10 h9 =>
    mv_rI (fJ_bitCount_0f7a4 r10 h9) fun r12 h11 =>
    some ([Sum.inl (Value.int r12)], h11))
  else
  if v1 = nI 4 then (
    some ([Sum.inl (Value.int (rI2 h 3 0 1))], h))
  else
  if v1 = nI 5 then (
    some ([Sum.inl (Value.int (rI2 h 6 0 1))], h))
  else
  if v1 = nI 6 then (
    some ([Sum.inl (Value.int (rI2 h 0 0 1))], h))
  else
  some ([Sum.inl (Value.int (-(nI 1)))], h)
def fV_keep (o0 : Nat) (h : H2) : O2 :=
  mv_rV (fM_copyFrom 2 0 h) fun h1 =>
  mv_gd (decide (nI 1 = nI 0) || decide (nI 1 = nI 1)) <|
  mv_bh (wI2 h1 7 o0 3 (nI 1)) fun h2 =>
  some ([Sum.inl (Value.int (nI 1))], h2)
def fV_again (o0 : Nat) (h : H2) : O2 :=
  if (rI2 h 7 o0 3) = 0 then (
    some ([Sum.inl (Value.int (-(nI 3)))], h))
  else
  mv_rV (fM_copyFrom 0 2 h) fun h1 =>
  some ([Sum.inl (Value.int (rI2 h1 2 0 9))], h1)
def fN_anew_b89 : Nat → Nat → Int32 → Int32 → H2 → O2
  | 0 => fun _ _ _ _ => none
  | n + 1 => fun o0 v1 v2 h =>
    if (nI 6) ≤ v2 then (
      mv_gd (mv_inb (nI 5) 69) <|
      mv_bh (wI2 h 902 o0 (nI 5).toNatClampNeg v1) fun h1 =>
      some ([], h1))
    else
    mv_gd (mv_inb ((nI 23) + v2) 69) <|
    mv_bh (wI2 h 902 o0 ((nI 23) + v2).toNatClampNeg v2) fun h2 =>
    mv_bi (v2 + (nI 1)) fun x3 =>
    fN_anew_b89 n o0 v1 x3 h2
def fN_anew_b55 : Nat → Nat → Int32 → Int32 → H2 → O2
  | 0 => fun _ _ _ _ => none
  | n + 1 => fun o0 v1 v2 h =>
    if (nI 8) ≤ v2 then (
      mv_bi (nI 0) fun x1 =>
      fN_anew_b89 1000 o0 v1 x1 h)
    else
    mv_gd (mv_inb ((nI 7) + v2) 69) <|
    mv_bh (wI2 h 902 o0 ((nI 7) + v2).toNatClampNeg v2) fun h2 =>
    mv_gd (mv_inb ((nI 15) + v2) 69) <|
    mv_bh (wI2 h2 902 o0 ((nI 15) + v2).toNatClampNeg (nI 5)) fun h3 =>
    mv_bi (v2 + (nI 1)) fun x4 =>
    fN_anew_b55 n o0 v1 x4 h3
def fN_anew_b30 : Nat → Nat → Int32 → Int32 → H2 → O2
  | 0 => fun _ _ _ _ => none
  | n + 1 => fun o0 v1 v2 h =>
    if (nI 4) ≤ v2 then (
      mv_bi (nI 0) fun x1 =>
      fN_anew_b55 1000 o0 v1 x1 h)
    else
    mv_gd (mv_inb v2 4) <|
    mv_gd (mv_inb v2 69) <|
    mv_bh (wI2 h 902 o0 v2.toNatClampNeg (rI2 h 901 o0 v2.toNatClampNeg)) fun h2 =>
    mv_bi (v2 + (nI 1)) fun x3 =>
    fN_anew_b30 n o0 v1 x3 h2
def fN_anew_b9 : Nat → Nat → Int32 → Int32 → H2 → O2
  | 0 => fun _ _ _ _ => none
  | n + 1 => fun o0 v1 v2 h =>
    if (nI 69) ≤ v2 then (
      mv_bi (nI 0) fun x1 =>
      fN_anew_b30 1000 o0 v1 x1 h)
    else
    mv_gd (mv_inb v2 69) <|
    mv_bh (wI2 h 902 o0 v2.toNatClampNeg (nI 0)) fun h2 =>
    mv_bi (v2 + (nI 1)) fun x3 =>
    fN_anew_b9 n o0 v1 x3 h2
def fN_anew (o0 : Nat) (h : H2) : O2 :=
  mv_gd (mv_inb (nI 5) 69) <|
  mv_bi (rI2 h 902 o0 (nI 5).toNatClampNeg) fun x1 =>
  mv_bi (nI 0) fun x2 =>
  fN_anew_b9 1000 o0 x1 x2 h
def cN_anew : List mv_V → H2 → (List mv_V → H2 → O2) → O2 := fun as h k => match as with
  | [.inr (t0, o0)] => mv_gd (Nat.beq t0 8) <| mv_rV (fN_anew o0 h) fun h => k [] h
  | _ => none
def fN_in (w0 : Int64) (w2 : Int64) (w4 : Int64) (h : H2) : O2 :=
  if (lg_cmp w0 w2) < 0 then (
    mv_gd (decide (nI 0 = nI 0) || decide (nI 0 = nI 1)) <| some ([Sum.inl (Value.int (nI 0))], h))
  else
  if 0 < (lg_cmp w0 w4) then (
    mv_gd (decide (nI 0 = nI 0) || decide (nI 0 = nI 1)) <| some ([Sum.inl (Value.int (nI 0))], h))
  else
  mv_gd (decide (nI 1 = nI 0) || decide (nI 1 = nI 1)) <| some ([Sum.inl (Value.int (nI 1))], h)
def cN_in : List mv_V → H2 → (List mv_V → H2 → O2) → O2 := fun as h k => match as with
  | [.inl (.long w0), .inl (.long w2), .inl (.long w4)] => mv_rI (fN_in w0 w2 w4 h) fun x h => k [.inl (.int x)] h
  | _ => none
def fN_become_902_904_b2 : Nat → Nat → Nat → Int32 → H2 → O2
  | 0 => fun _ _ _ _ => none
  | n + 1 => fun o0 o1 v2 h =>
    if (nI 69) ≤ v2 then (
      some ([], h))
    else
    mv_gd (mv_inb v2 69) <|
    mv_gd (mv_inb v2 69) <|
    mv_bh (wI2 h 904 o1 v2.toNatClampNeg (rI2 h 902 o0 v2.toNatClampNeg)) fun h1 =>
    mv_bi (v2 + (nI 1)) fun x2 =>
    fN_become_902_904_b2 n o0 o1 x2 h1
def fN_become_902_904 (o0 : Nat) (o1 : Nat) (h : H2) : O2 :=
  mv_bi (nI 0) fun x1 =>
  fN_become_902_904_b2 1000 o0 o1 x1 h
def fN_become_904_902_b2 : Nat → Nat → Nat → Int32 → H2 → O2
  | 0 => fun _ _ _ _ => none
  | n + 1 => fun o0 o1 v2 h =>
    if (nI 69) ≤ v2 then (
      some ([], h))
    else
    mv_gd (mv_inb v2 69) <|
    mv_gd (mv_inb v2 69) <|
    mv_bh (wI2 h 902 o1 v2.toNatClampNeg (rI2 h 904 o0 v2.toNatClampNeg)) fun h1 =>
    mv_bi (v2 + (nI 1)) fun x2 =>
    fN_become_904_902_b2 n o0 o1 x2 h1
def fN_become_904_902 (o0 : Nat) (o1 : Nat) (h : H2) : O2 :=
  mv_bi (nI 0) fun x1 =>
  fN_become_904_902_b2 1000 o0 o1 x1 h
def fN_become_902_903_b2 : Nat → Nat → Nat → Int32 → H2 → O2
  | 0 => fun _ _ _ _ => none
  | n + 1 => fun o0 o1 v2 h =>
    if (nI 69) ≤ v2 then (
      some ([], h))
    else
    mv_gd (mv_inb v2 69) <|
    mv_gd (mv_inb v2 69) <|
    mv_bh (wI2 h 903 o1 v2.toNatClampNeg (rI2 h 902 o0 v2.toNatClampNeg)) fun h1 =>
    mv_bi (v2 + (nI 1)) fun x2 =>
    fN_become_902_903_b2 n o0 o1 x2 h1
def fN_become_902_903 (o0 : Nat) (o1 : Nat) (h : H2) : O2 :=
  mv_bi (nI 0) fun x1 =>
  fN_become_902_903_b2 1000 o0 o1 x1 h
def fN_become_903_902_b2 : Nat → Nat → Nat → Int32 → H2 → O2
  | 0 => fun _ _ _ _ => none
  | n + 1 => fun o0 o1 v2 h =>
    if (nI 69) ≤ v2 then (
      some ([], h))
    else
    mv_gd (mv_inb v2 69) <|
    mv_gd (mv_inb v2 69) <|
    mv_bh (wI2 h 902 o1 v2.toNatClampNeg (rI2 h 903 o0 v2.toNatClampNeg)) fun h1 =>
    mv_bi (v2 + (nI 1)) fun x2 =>
    fN_become_903_902_b2 n o0 o1 x2 h1
def fN_become_903_902 (o0 : Nat) (o1 : Nat) (h : H2) : O2 :=
  mv_bi (nI 0) fun x1 =>
  fN_become_903_902_b2 1000 o0 o1 x1 h
def cN_become : List mv_V → H2 → (List mv_V → H2 → O2) → O2 := fun as h k => match as with
  | [.inr (t0, o0), .inr (t1, o1)] => cond (Nat.beq t0 902 && Nat.beq t1 904) (mv_rV (fN_become_902_904 o0 o1 h) fun h => k [] h) (cond (Nat.beq t0 904 && Nat.beq t1 902) (mv_rV (fN_become_904_902 o0 o1 h) fun h => k [] h) (cond (Nat.beq t0 902 && Nat.beq t1 903) (mv_rV (fN_become_902_903 o0 o1 h) fun h => k [] h) (cond (Nat.beq t0 903 && Nat.beq t1 902) (mv_rV (fN_become_903_902 o0 o1 h) fun h => k [] h) (none))))
  | _ => none
def fN_lends (o0 : Nat) (h : H2) : O2 :=
  mv_rV (fN_become_902_904 o0 o0 h) fun h1 =>
  some ([], h1)
def cN_lends : List mv_V → H2 → (List mv_V → H2 → O2) → O2 := fun as h k => match as with
  | [.inr (t0, o0)] => mv_gd (Nat.beq t0 8) <| mv_rV (fN_lends o0 h) fun h => k [] h
  | _ => none
def fN_laysBack (o0 : Nat) (h : H2) : O2 :=
  mv_rV (fN_become_904_902 o0 o0 h) fun h1 =>
  some ([], h1)
def cN_laysBack : List mv_V → H2 → (List mv_V → H2 → O2) → O2 := fun as h k => match as with
  | [.inr (t0, o0)] => mv_gd (Nat.beq t0 8) <| mv_rV (fN_laysBack o0 h) fun h => k [] h
  | _ => none
def fN_isCloth (o0 : Nat) (v1 : Int32) (h : H2) : O2 :=
  mv_gd (mv_inb (nI 6) 69) <|
  mv_rI (fN_in v1.toInt64 (lN 0) (((rI2 h 902 o0 (nI 6).toNatClampNeg) - (nI 1)).toInt64) h) fun r2 h1 =>
  mv_gd (decide (r2 = nI 0) || decide (r2 = nI 1)) <| some ([Sum.inl (Value.int r2)], h1)
def cN_isCloth : List mv_V → H2 → (List mv_V → H2 → O2) → O2 := fun as h k => match as with
  | [.inr (t0, o0), .inl (.int v1)] => mv_gd (Nat.beq t0 8) <| mv_rI (fN_isCloth o0 v1 h) fun x h => k [.inl (.int x)] h
  | _ => none
def fN_isVat (v0 : Int32) (h : H2) : O2 :=
  mv_rI (fN_in v0.toInt64 (lN 0) (lN 7) h) fun r2 h1 =>
  mv_gd (decide (r2 = nI 0) || decide (r2 = nI 1)) <| some ([Sum.inl (Value.int r2)], h1)
def cN_isVat : List mv_V → H2 → (List mv_V → H2 → O2) → O2 := fun as h k => match as with
  | [.inl (.int v0)] => mv_rI (fN_isVat v0 h) fun x h => k [.inl (.int x)] h
  | _ => none
def fN_isPurpose (v0 : Int32) (h : H2) : O2 :=
  mv_rI (fN_in v0.toInt64 (lN 0) (lN 9) h) fun r2 h1 =>
  mv_gd (decide (r2 = nI 0) || decide (r2 = nI 1)) <| some ([Sum.inl (Value.int r2)], h1)
def cN_isPurpose : List mv_V → H2 → (List mv_V → H2 → O2) → O2 := fun as h k => match as with
  | [.inl (.int v0)] => mv_rI (fN_isPurpose v0 h) fun x h => k [.inl (.int x)] h
  | _ => none
def fN_isRest (v0 : Int32) (h : H2) : O2 :=
  mv_rI (fN_in v0.toInt64 (lN 0) (lN 5) h) fun r2 h1 =>
  mv_gd (decide (r2 = nI 0) || decide (r2 = nI 1)) <| some ([Sum.inl (Value.int r2)], h1)
def cN_isRest : List mv_V → H2 → (List mv_V → H2 → O2) → O2 := fun as h k => match as with
  | [.inl (.int v0)] => mv_rI (fN_isRest v0 h) fun x h => k [.inl (.int x)] h
  | _ => none
def fN_its (o0 : Nat) (v1 : Int32) (v2 : Int32) (h : H2) : O2 :=
  mv_gd (mv_inb (((nI 29) + ((nI 5) * v1)) + v2) 69) <|
  some ([Sum.inl (Value.int (rI2 h 902 o0 (((nI 29) + ((nI 5) * v1)) + v2).toNatClampNeg))], h)
def cN_its : List mv_V → H2 → (List mv_V → H2 → O2) → O2 := fun as h k => match as with
  | [.inr (t0, o0), .inl (.int v1), .inl (.int v2)] => mv_gd (Nat.beq t0 8) <| mv_rI (fN_its o0 v1 v2 h) fun x h => k [.inl (.int x)] h
  | _ => none
def fN_sets (o0 : Nat) (v1 : Int32) (v2 : Int32) (v3 : Int32) (h : H2) : O2 :=
  mv_gd (mv_inb (((nI 29) + ((nI 5) * v1)) + v2) 69) <|
  mv_bh (wI2 h 902 o0 (((nI 29) + ((nI 5) * v1)) + v2).toNatClampNeg v3) fun h1 =>
  some ([], h1)
def cN_sets : List mv_V → H2 → (List mv_V → H2 → O2) → O2 := fun as h k => match as with
  | [.inr (t0, o0), .inl (.int v1), .inl (.int v2), .inl (.int v3)] => mv_gd (Nat.beq t0 8) <| mv_rV (fN_sets o0 v1 v2 v3 h) fun h => k [] h
  | _ => none
def fN_becomes (o0 : Nat) (v1 : Int32) (v2 : Int32) (h : H2) : O2 :=
  mv_gd (mv_inb v1 69) <|
  mv_bi (rI2 h 902 o0 v1.toNatClampNeg) fun x1 =>
  mv_gd (mv_inb v1 69) <|
  mv_bh (wI2 h 902 o0 v1.toNatClampNeg v2) fun h2 =>
  some ([Sum.inl (Value.int x1)], h2)
def cN_becomes : List mv_V → H2 → (List mv_V → H2 → O2) → O2 := fun as h k => match as with
  | [.inr (t0, o0), .inl (.int v1), .inl (.int v2)] => mv_gd (Nat.beq t0 8) <| mv_rI (fN_becomes o0 v1 v2 h) fun x h => k [.inl (.int x)] h
  | _ => none
def fN_set (o0 : Nat) (v1 : Int32) (v2 : Int32) (h : H2) : O2 :=
  mv_rI (fN_in v1.toInt64 (lN 0) (lN 3) h) fun r2 h1 =>
  if r2 = 0 then (
    some ([Sum.inl (Value.int (-(nI 1)))], h1))
  else
  mv_gd (mv_inb v1 4) <|
  mv_rI (fN_in v2.toInt64 (lN 0) ((rI2 h1 900 o0 v1.toNatClampNeg).toInt64) h1) fun r4 h3 =>
  if r4 = 0 then (
    some ([Sum.inl (Value.int (-(nI 1)))], h3))
  else
  mv_rI (fN_becomes o0 v1 v2 h3) fun r6 h5 =>
  some ([Sum.inl (Value.int r6)], h5)
def fN_lawOf (o0 : Nat) (v1 : Int32) (h : H2) : O2 :=
  mv_rI (fN_in v1.toInt64 (lN 0) (lN 3) h) fun r2 h1 =>
  if r2 = 0 then (
    some ([Sum.inl (Value.int (-(nI 1)))], h1))
  else
  mv_gd (mv_inb v1 69) <|
  some ([Sum.inl (Value.int (rI2 h1 902 o0 v1.toNatClampNeg))], h1)
def fN_fill (o0 : Nat) (v1 : Int32) (v2 : Int32) (v3 : Int32) (h : H2) : O2 :=
  mv_rI (fN_isVat v1 h) fun r2 h1 =>
  if r2 = 0 then (
    some ([Sum.inl (Value.int (-(nI 1)))], h1))
  else
  mv_rI (fN_in v2.toInt64 (lN 0) (lN 1) h1) fun r4 h3 =>
  if r4 = 0 then (
    some ([Sum.inl (Value.int (-(nI 1)))], h3))
  else
  mv_rI (fN_in v3.toInt64 (lN 0) (lN 9) h3) fun r6 h5 =>
  if r6 = 0 then (
    some ([Sum.inl (Value.int (-(nI 1)))], h5))
  else
  mv_rI (fN_becomes o0 (((nI 7) + ((nI 8) * v2)) + v1) v3 h5) fun r8 h7 =>
  some ([Sum.inl (Value.int r8)], h7)
def fN_vatOf (o0 : Nat) (v1 : Int32) (v2 : Int32) (h : H2) : O2 :=
  mv_rI (fN_isVat v1 h) fun r2 h1 =>
  if r2 = 0 then (
    some ([Sum.inl (Value.int (-(nI 1)))], h1))
  else
  mv_rI (fN_in v2.toInt64 (lN 0) (lN 1) h1) fun r4 h3 =>
  if r4 = 0 then (
    some ([Sum.inl (Value.int (-(nI 1)))], h3))
  else
  mv_gd (mv_inb (((nI 7) + ((nI 8) * v2)) + v1) 69) <|
  some ([Sum.inl (Value.int (rI2 h3 902 o0 (((nI 7) + ((nI 8) * v2)) + v1).toNatClampNeg))], h3)
def fN_roster (o0 : Nat) (v1 : Int32) (v2 : Int32) (h : H2) : O2 :=
  mv_rI (fN_isRest v1 h) fun r2 h1 =>
  if r2 = 0 then (
    some ([Sum.inl (Value.int (-(nI 1)))], h1))
  else
  if v2 = (-(nI 1)) then (
    mv_rI (fN_becomes o0 ((nI 23) + v1) v2 h1) fun r4 h3 =>
    some ([Sum.inl (Value.int ((nI 1) + r4))], h3))
  else
  mv_rI (fN_isVat v2 h1) fun r6 h5 =>
  if r6 = 0 then (
    some ([Sum.inl (Value.int (-(nI 1)))], h5))
  else
  mv_rI (fN_becomes o0 ((nI 23) + v1) v2 h5) fun r8 h7 =>
  some ([Sum.inl (Value.int ((nI 1) + r8))], h7)
def fN_rosterOf (o0 : Nat) (v1 : Int32) (h : H2) : O2 :=
  mv_rI (fN_isRest v1 h) fun r2 h1 =>
  if r2 = 0 then (
    some ([Sum.inl (Value.int (-(nI 1)))], h1))
  else
  mv_gd (mv_inb ((nI 23) + v1) 69) <|
  some ([Sum.inl (Value.int ((nI 1) + (rI2 h1 902 o0 ((nI 23) + v1).toNatClampNeg)))], h1)
def fN_isKind (v0 : Int32) (h : H2) : O2 :=
  mv_rI (fN_in v0.toInt64 (lN 0) (lN 5) h) fun r2 h1 =>
  mv_gd (decide (r2 = nI 0) || decide (r2 = nI 1)) <| some ([Sum.inl (Value.int r2)], h1)
def cN_isKind : List mv_V → H2 → (List mv_V → H2 → O2) → O2 := fun as h k => match as with
  | [.inl (.int v0)] => mv_rI (fN_isKind v0 h) fun x h => k [.inl (.int x)] h
  | _ => none
def fN_isUnder (v0 : Int32) (v1 : Int32) (h : H2) : O2 :=
  if v1 = 0 then (
    mv_gd (decide (nI 1 = nI 0) || decide (nI 1 = nI 1)) <| some ([Sum.inl (Value.int (nI 1))], h))
  else
  if v0 = v1 then (
    mv_gd (decide (nI 1 = nI 0) || decide (nI 1 = nI 1)) <| some ([Sum.inl (Value.int (nI 1))], h))
  else
  if v0 = (nI 3) then (
    if v1 = (nI 1) then (
      mv_gd (decide (nI 1 = nI 0) || decide (nI 1 = nI 1)) <| some ([Sum.inl (Value.int (nI 1))], h))
    else
    if v0 = (nI 4) then (
      if v1 = (nI 2) then (
        mv_gd (decide (nI 1 = nI 0) || decide (nI 1 = nI 1)) <| some ([Sum.inl (Value.int (nI 1))], h))
      else
      mv_gd (decide (nI 0 = nI 0) || decide (nI 0 = nI 1)) <| some ([Sum.inl (Value.int (nI 0))], h))
    else
    mv_gd (decide (nI 0 = nI 0) || decide (nI 0 = nI 1)) <| some ([Sum.inl (Value.int (nI 0))], h))
  else
  if v0 = (nI 4) then (
    if v1 = (nI 2) then (
      mv_gd (decide (nI 1 = nI 0) || decide (nI 1 = nI 1)) <| some ([Sum.inl (Value.int (nI 1))], h))
    else
    mv_gd (decide (nI 0 = nI 0) || decide (nI 0 = nI 1)) <| some ([Sum.inl (Value.int (nI 0))], h))
  else
  mv_gd (decide (nI 0 = nI 0) || decide (nI 0 = nI 1)) <| some ([Sum.inl (Value.int (nI 0))], h)
def cN_isUnder : List mv_V → H2 → (List mv_V → H2 → O2) → O2 := fun as h k => match as with
  | [.inl (.int v0), .inl (.int v1)] => mv_rI (fN_isUnder v0 v1 h) fun x h => k [.inl (.int x)] h
  | _ => none
def fN_takesOf (o0 : Nat) (v1 : Int32) (v2 : Int32) (h : H2) : O2 :=
  mv_gd (mv_inb (nI 0) 69) <|
  mv_bi (v2 + (rI2 h 902 o0 (nI 0).toNatClampNeg)) fun x1 =>
  mv_rI (fN_its o0 v1 (nI 0) h) fun r3 h2 =>
  if r3 = nI 1 then (
    some ([Sum.inl (Value.int (x1 + (nI 3)))], h2))
  else
  if r3 = nI 2 then (
    mv_gd (mv_inb (nI 1) 69) <|
    some ([Sum.inl (Value.int (x1 - (rI2 h2 902 o0 (nI 1).toNatClampNeg)))], h2))
  else
  if r3 = nI 3 then (
    some ([Sum.inl (Value.int ((nI 2) * (x1 + (nI 3))))], h2))
  else
  if r3 = nI 4 then (
    mv_gd (mv_inb (nI 1) 69) <|
    mv_gd (mv_inb (nI 2) 69) <|
    some ([Sum.inl (Value.int ((x1 - (rI2 h2 902 o0 (nI 1).toNatClampNeg)) + (rI2 h2 902 o0 (nI 2).toNatClampNeg)))], h2))
  else
  if r3 = nI 5 then (
    mv_gd (!decide ((nI 2) = 0)) <|
    some ([Sum.inl (Value.int (x1 / (nI 2)))], h2))
  else
  some ([Sum.inl (Value.int x1)], h2)
def cN_takesOf : List mv_V → H2 → (List mv_V → H2 → O2) → O2 := fun as h k => match as with
  | [.inr (t0, o0), .inl (.int v1), .inl (.int v2)] => mv_gd (Nat.beq t0 8) <| mv_rI (fN_takesOf o0 v1 v2 h) fun x h => k [.inl (.int x)] h
  | _ => none
def fN_fightsOf (o0 : Nat) (v1 : Int32) (v2 : Int32) (h : H2) : O2 :=
  mv_rI (fN_its o0 v1 (nI 0) h) fun r2 h1 =>
  if r2 = nI 1 then (
    mv_gd (mv_inb (nI 2) 69) <|
    some ([Sum.inl (Value.int (v2 - (rI2 h1 902 o0 (nI 2).toNatClampNeg)))], h1))
  else
  if r2 = nI 2 then (
    mv_gd (mv_inb (nI 2) 69) <|
    some ([Sum.inl (Value.int (v2 + (rI2 h1 902 o0 (nI 2).toNatClampNeg)))], h1))
  else
  if r2 = nI 3 then (
    mv_gd (mv_inb (nI 2) 69) <|
    mv_gd (mv_inb (nI 0) 69) <|
    some ([Sum.inl (Value.int ((v2 - (rI2 h1 902 o0 (nI 2).toNatClampNeg)) + (rI2 h1 902 o0 (nI 0).toNatClampNeg)))], h1))
  else
  if r2 = nI 4 then (
    mv_gd (mv_inb (nI 2) 69) <|
    some ([Sum.inl (Value.int ((nI 2) * (v2 + (rI2 h1 902 o0 (nI 2).toNatClampNeg))))], h1))
  else
  if r2 = nI 5 then (
    some ([Sum.inl (Value.int (v2 + (nI 1)))], h1))
  else
  some ([Sum.inl (Value.int v2)], h1)
def cN_fightsOf : List mv_V → H2 → (List mv_V → H2 → O2) → O2 := fun as h k => match as with
  | [.inr (t0, o0), .inl (.int v1), .inl (.int v2)] => mv_gd (Nat.beq t0 8) <| mv_rI (fN_fightsOf o0 v1 v2 h) fun x h => k [.inl (.int x)] h
  | _ => none
def fN_fadesOf (o0 : Nat) (v1 : Int32) (h : H2) : O2 :=
  mv_gd (mv_inb (nI 1) 69) <|
  mv_bi (rI2 h 902 o0 (nI 1).toNatClampNeg) fun x1 =>
  mv_rI (fN_its o0 v1 (nI 0) h) fun r3 h2 =>
  if r3 = nI 1 then (
    some ([Sum.inl (Value.int (x1 - (nI 1)))], h2))
  else
  if r3 = nI 2 then (
    some ([Sum.inl (Value.int (x1 + (nI 1)))], h2))
  else
  if r3 = nI 3 then (
    some ([Sum.inl (Value.int (nI 0))], h2))
  else
  if r3 = nI 4 then (
    some ([Sum.inl (Value.int ((nI 2) * (x1 + (nI 1))))], h2))
  else
  if r3 = nI 5 then (
    some ([Sum.inl (Value.int (x1 + (nI 3)))], h2))
  else
  some ([Sum.inl (Value.int x1)], h2)
def cN_fadesOf : List mv_V → H2 → (List mv_V → H2 → O2) → O2 := fun as h k => match as with
  | [.inr (t0, o0), .inl (.int v1)] => mv_gd (Nat.beq t0 8) <| mv_rI (fN_fadesOf o0 v1 h) fun x h => k [.inl (.int x)] h
  | _ => none
def fN_adds (o0 : Nat) (v1 : Int32) (h : H2) : O2 :=
  mv_gd (mv_inb (nI 6) 69) <|
  mv_bi (rI2 h 902 o0 (nI 6).toNatClampNeg) fun x1 =>
  mv_gd (mv_inb (nI 6) 69) <|
  mv_gd (mv_inb (nI 6) 69) <|
  mv_bh (wI2 h 902 o0 (nI 6).toNatClampNeg ((rI2 h 902 o0 (nI 6).toNatClampNeg) + (nI 1))) fun h2 =>
  mv_rV (fN_sets o0 x1 (nI 0) v1 h2) fun h3 =>
  mv_rV (fN_sets o0 x1 (nI 1) (-(nI 1)) h3) fun h4 =>
  mv_rV (fN_sets o0 x1 (nI 2) (nI 0) h4) fun h5 =>
  mv_rV (fN_sets o0 x1 (nI 3) (nI 0) h5) fun h6 =>
  mv_rV (fN_sets o0 x1 (nI 4) (nI 0) h6) fun h7 =>
  some ([], h7)
def cN_adds : List mv_V → H2 → (List mv_V → H2 → O2) → O2 := fun as h k => match as with
  | [.inr (t0, o0), .inl (.int v1)] => mv_gd (Nat.beq t0 8) <| mv_rV (fN_adds o0 v1 h) fun h => k [] h
  | _ => none
def fN_cloth (o0 : Nat) (v1 : Int32) (h : H2) : O2 :=
  mv_rI (fN_isKind v1 h) fun r2 h1 =>
  if r2 = 0 then (
    some ([Sum.inl (Value.int (-(nI 1)))], h1))
  else
  mv_gd (mv_inb (nI 6) 69) <|
  if (rI2 h1 902 o0 (nI 6).toNatClampNeg) = (nI 8) then (
    some ([Sum.inl (Value.int (-(nI 2)))], h1))
  else
  mv_rV (fN_adds o0 v1 h1) fun h3 =>
  mv_gd (mv_inb (nI 6) 69) <|
  some ([Sum.inl (Value.int ((rI2 h3 902 o0 (nI 6).toNatClampNeg) - (nI 1)))], h3)
def fN_of (o0 : Nat) (v1 : Int32) (v2 : Int32) (h : H2) : O2 :=
  mv_rI (fN_isCloth o0 v1 h) fun r2 h1 =>
  if r2 = 0 then (
    some ([Sum.inl (Value.int (-(nI 1)))], h1))
  else
  mv_rI (fN_in v2.toInt64 (lN 0) (lN 4) h1) fun r4 h3 =>
  if r4 = 0 then (
    some ([Sum.inl (Value.int (-(nI 1)))], h3))
  else
  if v2 = (nI 1) then (
    mv_rI (fN_its o0 v1 (nI 1) h3) fun r6 h5 =>
    some ([Sum.inl (Value.int ((nI 1) + r6))], h5))
  else
  mv_rI (fN_its o0 v1 v2 h3) fun r8 h7 =>
  some ([Sum.inl (Value.int r8)], h7)
def fN_does (o0 : Nat) (v1 : Int32) (v2 : Int32) (v3 : Int32) (h : H2) : O2 :=
  mv_rI (fN_isCloth o0 v1 h) fun r2 h1 =>
  if r2 = 0 then (
    some ([Sum.inl (Value.int (-(nI 1)))], h1))
  else
  mv_rI (fN_isVat v2 h1) fun r4 h3 =>
  if r4 = 0 then (
    some ([Sum.inl (Value.int (-(nI 1)))], h3))
  else
  mv_rI (fN_in v3.toInt64 (lN 0) (lN 2) h3) fun r6 h5 =>
  if r6 = 0 then (
    some ([Sum.inl (Value.int (-(nI 1)))], h5))
  else
  mv_gd (mv_inb ((nI 15) + v2) 69) <|
  mv_bi (rI2 h5 902 o0 ((nI 15) + v2).toNatClampNeg) fun x7 =>
  if v3 = 0 then (
    mv_rI (fN_takesOf o0 v1 x7 h5) fun r9 h8 =>
    some ([Sum.inl (Value.int ((nI 1000) + r9))], h8))
  else
  if v3 = (nI 1) then (
    mv_rI (fN_fightsOf o0 v1 x7 h5) fun r11 h10 =>
    some ([Sum.inl (Value.int ((nI 1000) + r11))], h10))
  else
  mv_rI (fN_fadesOf o0 v1 h5) fun r13 h12 =>
  some ([Sum.inl (Value.int ((nI 1000) + r13))], h12)
def fN_changed (o0 : Nat) (v1 : Int32) (v2 : Int32) (v3 : Int32) (h : H2) : O2 :=
  mv_rI (fN_becomes o0 (((nI 29) + ((nI 5) * v1)) + v2) v3 h) fun r2 h1 =>
  some ([Sum.inl (Value.int r2)], h1)
def cN_changed : List mv_V → H2 → (List mv_V → H2 → O2) → O2 := fun as h k => match as with
  | [.inr (t0, o0), .inl (.int v1), .inl (.int v2), .inl (.int v3)] => mv_gd (Nat.beq t0 8) <| mv_rI (fN_changed o0 v1 v2 v3 h) fun x h => k [.inl (.int x)] h
  | _ => none
def fN_mind (o0 : Nat) (v1 : Int32) (v2 : Int32) (h : H2) : O2 :=
  mv_rI (fN_isCloth o0 v1 h) fun r2 h1 =>
  if r2 = 0 then (
    some ([Sum.inl (Value.int (-(nI 1)))], h1))
  else
  mv_rI (fN_isKind v2 h1) fun r4 h3 =>
  if r4 = 0 then (
    some ([Sum.inl (Value.int (-(nI 1)))], h3))
  else
  mv_rI (fN_changed o0 v1 (nI 0) v2 h3) fun r6 h5 =>
  some ([Sum.inl (Value.int r6)], h5)
def fN_isDeep (o0 : Nat) (v1 : Int32) (v2 : Int32) (h : H2) : O2 :=
  mv_rV (fN_sets o0 v1 (nI 2) (if (nI 0) < (if v2 < (nI 99) then v2 else (nI 99)) then (if v2 < (nI 99) then v2 else (nI 99)) else (nI 0)) h) fun h1 =>
  if 0 < v2 then (
    some ([], h1))
  else
  mv_rV (fN_sets o0 v1 (nI 1) (-(nI 1)) h1) fun h2 =>
  some ([], h2)
def cN_isDeep : List mv_V → H2 → (List mv_V → H2 → O2) → O2 := fun as h k => match as with
  | [.inr (t0, o0), .inl (.int v1), .inl (.int v2)] => mv_gd (Nat.beq t0 8) <| mv_rV (fN_isDeep o0 v1 v2 h) fun h => k [] h
  | _ => none
def fN_steep_b41 (o0 : Nat) (v1 : Int32) (v2 : Int32) (v3 : Int32) (vs0 : Int32) (h : H2) : O2 :=
  mv_bi vs0 fun x1 =>
  mv_rI (fN_isCloth o0 v1 h) fun r3 h2 =>
  if r3 = 0 then (
    some ([Sum.inl (Value.int (-(nI 1)))], h2))
  else
  if x1 = 0 then (
    some ([Sum.inl (Value.int (-(nI 1)))], h2))
  else
  mv_rV (fN_sets o0 v1 (nI 2) v3 h2) fun h4 =>
  mv_rI (fN_changed o0 v1 (nI 1) v2 h4) fun r6 h5 =>
  some ([Sum.inl (Value.int ((nI 1) + r6))], h5)
def fN_steep (o0 : Nat) (v1 : Int32) (v2 : Int32) (v3 : Int32) (h : H2) : O2 :=
  if v2 = (-(nI 1)) then (
    if v3 = 0 then (
      fN_steep_b41 o0 v1 v2 v3 (nI 1) h)
    else
    fN_steep_b41 o0 v1 v2 v3 (nI 0) h)
  else
  mv_rI (fN_isPurpose v2 h) fun r2 h1 =>
  if r2 = 0 then (
    fN_steep_b41 o0 v1 v2 v3 (nI 0) h1)
  else
  mv_rI (fN_in v3.toInt64 (lN 1) (lN 99) h1) fun r4 h3 =>
  if r4 = 0 then (
    fN_steep_b41 o0 v1 v2 v3 (nI 0) h3)
  else
  fN_steep_b41 o0 v1 v2 v3 (nI 1) h3
def fN_hang (o0 : Nat) (v1 : Int32) (v2 : Int32) (h : H2) : O2 :=
  mv_rI (fN_isCloth o0 v1 h) fun r2 h1 =>
  if r2 = 0 then (
    some ([Sum.inl (Value.int (-(nI 1)))], h1))
  else
  mv_rI (fN_in v2.toInt64 (lN 0) (lN 1) h1) fun r4 h3 =>
  if r4 = 0 then (
    some ([Sum.inl (Value.int (-(nI 1)))], h3))
  else
  mv_rI (fN_changed o0 v1 (nI 3) v2 h3) fun r6 h5 =>
  some ([Sum.inl (Value.int r6)], h5)
def fN_dips_b108 (o0 : Nat) (v1 : Int32) (v2 : Int32) (v4 : Int32) (h : H2) : O2 :=
  mv_rI (fN_its o0 v1 (nI 4) h) fun r2 h1 =>
  mv_rV (fN_sets o0 v1 (nI 4) (if (r2 + (nI 1)) < (nI 9999) then (r2 + (nI 1)) else (nI 9999)) h1) fun h3 =>
  mv_gd (mv_inb ((nI 15) + v2) 69) <|
  mv_bh (wI2 h3 902 o0 ((nI 15) + v2).toNatClampNeg (if (nI 0) < (v4 - (nI 1)) then (v4 - (nI 1)) else (nI 0))) fun h4 =>
  some ([], h4)
def fN_dips_b49 (o0 : Nat) (v1 : Int32) (v2 : Int32) (v3 : Int32) (v4 : Int32) (v5 : Int32) (h : H2) : O2 :=
  mv_rV (fN_sets o0 v1 (nI 1) v3 h) fun h1 =>
  mv_rI (fN_takesOf o0 v1 v4 h1) fun r3 h2 =>
  mv_rV (fN_isDeep o0 v1 (v5 + r3) h2) fun h4 =>
  fN_dips_b108 o0 v1 v2 v4 h4
def fN_dips (o0 : Nat) (v1 : Int32) (v2 : Int32) (h : H2) : O2 :=
  mv_gd (mv_inb ((nI 7) + v2) 69) <|
  mv_bi (rI2 h 902 o0 ((nI 7) + v2).toNatClampNeg) fun x1 =>
  mv_gd (mv_inb ((nI 15) + v2) 69) <|
  mv_bi (rI2 h 902 o0 ((nI 15) + v2).toNatClampNeg) fun x2 =>
  mv_rI (fN_its o0 v1 (nI 2) h) fun r4 h3 =>
  mv_bi r4 fun x5 =>
  mv_rI (fN_its o0 v1 (nI 1) h3) fun r7 h6 =>
  if r7 = (-(nI 1)) then (
    fN_dips_b49 o0 v1 v2 x1 x2 x5 h6)
  else
  mv_rI (fN_its o0 v1 (nI 1) h6) fun r9 h8 =>
  if r9 = x1 then (
    fN_dips_b49 o0 v1 v2 x1 x2 x5 h8)
  else
  mv_rI (fN_fightsOf o0 v1 x2 h8) fun r11 h10 =>
  mv_bi (x5 - r11) fun x12 =>
  if 0 ≤ x12 then (
    mv_rV (fN_isDeep o0 v1 (if 0 ≤ x12 then x12 else 0 - x12) h10) fun h13 =>
    fN_dips_b108 o0 v1 v2 x2 h13)
  else
  mv_rV (fN_sets o0 v1 (nI 1) x1 h10) fun h14 =>
  mv_rV (fN_isDeep o0 v1 (if 0 ≤ x12 then x12 else 0 - x12) h14) fun h15 =>
  fN_dips_b108 o0 v1 v2 x2 h15
def cN_dips : List mv_V → H2 → (List mv_V → H2 → O2) → O2 := fun as h k => match as with
  | [.inr (t0, o0), .inl (.int v1), .inl (.int v2)] => mv_gd (Nat.beq t0 8) <| mv_rV (fN_dips o0 v1 v2 h) fun h => k [] h
  | _ => none
def fN_dip (o0 : Nat) (v1 : Int32) (v2 : Int32) (h : H2) : O2 :=
  mv_rI (fN_isCloth o0 v1 h) fun r2 h1 =>
  if r2 = 0 then (
    some ([Sum.inl (Value.int (-(nI 1)))], h1))
  else
  mv_rI (fN_isVat v2 h1) fun r4 h3 =>
  if r4 = 0 then (
    some ([Sum.inl (Value.int (-(nI 1)))], h3))
  else
  mv_rV (fN_dips o0 v1 v2 h3) fun h5 =>
  mv_rI (fN_its o0 v1 (nI 1) h5) fun r7 h6 =>
  some ([Sum.inl (Value.int ((nI 1) + r7))], h6)
def fN_aDay_b113 : Nat → Nat → Int32 → H2 → O2
  | 0 => fun _ _ _ => none
  | n + 1 => fun o0 v2 h =>
    if (nI 8) ≤ v2 then (
      mv_gd (mv_inb (nI 4) 69) <|
      mv_gd (mv_inb (nI 4) 69) <|
      mv_bh (wI2 h 902 o0 (nI 4).toNatClampNeg ((rI2 h 902 o0 (nI 4).toNatClampNeg) + (nI 1))) fun h1 =>
      some ([], h1))
    else
    mv_gd (mv_inb ((nI 15) + v2) 69) <|
    mv_gd (mv_inb ((nI 15) + v2) 69) <|
    mv_bh (wI2 h 902 o0 ((nI 15) + v2).toNatClampNeg (if ((rI2 h 902 o0 ((nI 15) + v2).toNatClampNeg) + (nI 1)) < (nI 9) then ((rI2 h 902 o0 ((nI 15) + v2).toNatClampNeg) + (nI 1)) else (nI 9))) fun h2 =>
    mv_bi (v2 + (nI 1)) fun x3 =>
    fN_aDay_b113 n o0 x3 h2
def fN_aDay_b58 : Nat → Nat → Int32 → H2 → O2
  | 0 => fun _ _ _ => none
  | n + 1 => fun o0 v2 h =>
    mv_gd (mv_inb (nI 6) 69) <|
    if (rI2 h 902 o0 (nI 6).toNatClampNeg) ≤ v2 then (
      mv_bi (nI 0) fun x1 =>
      fN_aDay_b113 1000 o0 x1 h)
    else
    mv_rI (fN_its o0 v2 (nI 3) h) fun r3 h2 =>
    if r3 = (nI 1) then (
      mv_rI (fN_its o0 v2 (nI 1) h2) fun r5 h4 =>
      if r5 < 0 then (
        mv_bi (v2 + (nI 1)) fun x6 =>
        fN_aDay_b58 n o0 x6 h4)
      else
      mv_rI (fN_its o0 v2 (nI 2) h4) fun r8 h7 =>
      mv_rI (fN_fadesOf o0 v2 h7) fun r10 h9 =>
      mv_rV (fN_isDeep o0 v2 (r8 - r10) h9) fun h11 =>
      mv_bi (v2 + (nI 1)) fun x12 =>
      fN_aDay_b58 n o0 x12 h11)
    else
    mv_bi (v2 + (nI 1)) fun x13 =>
    fN_aDay_b58 n o0 x13 h2
def fN_aDay_b20 : Nat → Nat → Int32 → Int32 → H2 → O2
  | 0 => fun _ _ _ _ => none
  | n + 1 => fun o0 v1 v2 h =>
    if v1 < 0 then (
      mv_bi (nI 0) fun x1 =>
      fN_aDay_b58 1000 o0 x1 h)
    else
    mv_gd (mv_inb (nI 6) 69) <|
    if (rI2 h 902 o0 (nI 6).toNatClampNeg) ≤ v2 then (
      mv_bi (nI 0) fun x2 =>
      fN_aDay_b58 1000 o0 x2 h)
    else
    mv_rI (fN_its o0 v2 (nI 3) h) fun r4 h3 =>
    if r4 = 0 then (
      mv_rV (fN_dips o0 v2 v1 h3) fun h5 =>
      mv_bi (v2 + (nI 1)) fun x6 =>
      fN_aDay_b20 n o0 v1 x6 h5)
    else
    mv_bi (v2 + (nI 1)) fun x7 =>
    fN_aDay_b20 n o0 v1 x7 h3
def fN_aDay (o0 : Nat) (h : H2) : O2 :=
  mv_gd (mv_inb (nI 4) 69) <|
  mv_gd (!decide ((nI 6) = 0)) <|
  mv_gd (mv_inb ((nI 23) + ((rI2 h 902 o0 (nI 4).toNatClampNeg) - (rI2 h 902 o0 (nI 4).toNatClampNeg) / (nI 6) * (nI 6))) 69) <|
  mv_bi (rI2 h 902 o0 ((nI 23) + ((rI2 h 902 o0 (nI 4).toNatClampNeg) - (rI2 h 902 o0 (nI 4).toNatClampNeg) / (nI 6) * (nI 6))).toNatClampNeg) fun x1 =>
  mv_bi (nI 0) fun x2 =>
  fN_aDay_b20 1000 o0 x1 x2 h
def cN_aDay : List mv_V → H2 → (List mv_V → H2 → O2) → O2 := fun as h k => match as with
  | [.inr (t0, o0)] => mv_gd (Nat.beq t0 8) <| mv_rV (fN_aDay o0 h) fun h => k [] h
  | _ => none
def fN_goes_b2 : Nat → Nat → Int32 → Int32 → H2 → O2
  | 0 => fun _ _ _ _ => none
  | n + 1 => fun o0 v1 v2 h =>
    if v1 ≤ v2 then (
      some ([], h))
    else
    mv_rV (fN_aDay o0 h) fun h1 =>
    mv_bi (v2 + (nI 1)) fun x2 =>
    fN_goes_b2 n o0 v1 x2 h1
def fN_goes (o0 : Nat) (v1 : Int32) (h : H2) : O2 :=
  mv_bi (nI 0) fun x1 =>
  fN_goes_b2 1000 o0 v1 x1 h
def cN_goes : List mv_V → H2 → (List mv_V → H2 → O2) → O2 := fun as h k => match as with
  | [.inr (t0, o0), .inl (.int v1)] => mv_gd (Nat.beq t0 8) <| mv_rV (fN_goes o0 v1 h) fun h => k [] h
  | _ => none
def fN_depths_b4 : Nat → Nat → Int32 → Int32 → H2 → O2
  | 0 => fun _ _ _ _ => none
  | n + 1 => fun o0 v1 v2 h =>
    mv_gd (mv_inb (nI 6) 69) <|
    if (rI2 h 902 o0 (nI 6).toNatClampNeg) ≤ v2 then (
      some ([Sum.inl (Value.int v1)], h))
    else
    mv_rI (fN_its o0 v2 (nI 2) h) fun r2 h1 =>
    mv_bi (v1 + r2) fun x3 =>
    mv_bi (v2 + (nI 1)) fun x4 =>
    fN_depths_b4 n o0 x3 x4 h1
def fN_depths (o0 : Nat) (h : H2) : O2 :=
  mv_bi (nI 0) fun x1 =>
  mv_bi (nI 0) fun x2 =>
  fN_depths_b4 1000 o0 x1 x2 h
def cN_depths : List mv_V → H2 → (List mv_V → H2 → O2) → O2 := fun as h k => match as with
  | [.inr (t0, o0)] => mv_gd (Nat.beq t0 8) <| mv_rI (fN_depths o0 h) fun x h => k [.inl (.int x)] h
  | _ => none
def fN_days (o0 : Nat) (v1 : Int32) (h : H2) : O2 :=
  mv_rI (fN_in v1.toInt64 (lN 1) (lN 60) h) fun r2 h1 =>
  if r2 = 0 then (
    some ([Sum.inl (Value.int (-(nI 1)))], h1))
  else
  mv_rV (fN_goes o0 v1 h1) fun h3 =>
  mv_rI (fN_depths o0 h3) fun r5 h4 =>
  some ([Sum.inl (Value.int r5)], h4)
def fN_seed (o0 : Nat) (v1 : Int32) (h : H2) : O2 :=
  mv_rI (fN_becomes o0 (nI 5) v1 h) fun r2 h1 =>
  some ([Sum.inl (Value.int r2)], h1)
def fN_draw (o0 : Nat) (h : H2) : O2 :=
  mv_gd (mv_inb (nI 5) 69) <|
  mv_gd (mv_inb (nI 5) 69) <|
  mv_bh (wI2 h 902 o0 (nI 5).toNatClampNeg (((rI2 h 902 o0 (nI 5).toNatClampNeg) * (nI 1103515245)) + (nI 12345))) fun h1 =>
  mv_gd (mv_inb (nI 5) 69) <|
  some ([Sum.inl (Value.int (((rI2 h1 902 o0 (nI 5).toNatClampNeg).toUInt32 >>> ((nI 16).toUInt32 &&& Int32.toUInt32 31)).toInt32))], h1)
def cN_draw : List mv_V → H2 → (List mv_V → H2 → O2) → O2 := fun as h k => match as with
  | [.inr (t0, o0)] => mv_gd (Nat.beq t0 8) <| mv_rI (fN_draw o0 h) fun x h => k [.inl (.int x)] h
  | _ => none
def fN_byDraws (o0 : Nat) (h : H2) : O2 :=
  mv_gd (mv_inb (nI 6) 69) <|
  if (rI2 h 902 o0 (nI 6).toNatClampNeg) ≤ 0 then (
    mv_rV (fN_aDay o0 h) fun h1 =>
    some ([], h1))
  else
  mv_rI (fN_draw o0 h) fun r3 h2 =>
  mv_gd (mv_inb (nI 6) 69) <|
  mv_gd (!decide ((rI2 h2 902 o0 (nI 6).toNatClampNeg) = 0)) <|
  mv_bi (r3 - r3 / (rI2 h2 902 o0 (nI 6).toNatClampNeg) * (rI2 h2 902 o0 (nI 6).toNatClampNeg)) fun x4 =>
  mv_rI (fN_draw o0 h2) fun r6 h5 =>
  mv_gd (!decide ((nI 100) = 0)) <|
  mv_gd (mv_inb (nI 3) 69) <|
  if (rI2 h5 902 o0 (nI 3).toNatClampNeg) ≤ (r6 - r6 / (nI 100) * (nI 100)) then (
    mv_rV (fN_aDay o0 h5) fun h7 =>
    some ([], h7))
  else
  mv_rI (fN_draw o0 h5) fun r9 h8 =>
  mv_gd (!decide ((nI 8) = 0)) <|
  mv_rV (fN_dips o0 x4 (r9 - r9 / (nI 8) * (nI 8)) h8) fun h10 =>
  mv_rV (fN_aDay o0 h10) fun h11 =>
  some ([], h11)
def cN_byDraws : List mv_V → H2 → (List mv_V → H2 → O2) → O2 := fun as h k => match as with
  | [.inr (t0, o0)] => mv_gd (Nat.beq t0 8) <| mv_rV (fN_byDraws o0 h) fun h => k [] h
  | _ => none
def fN_day (o0 : Nat) (h : H2) : O2 :=
  mv_rV (fN_byDraws o0 h) fun h1 =>
  mv_rI (fN_depths o0 h1) fun r3 h2 =>
  some ([Sum.inl (Value.int r3)], h2)
def fN_luck_b44 : Nat → Nat → Int32 → Int32 → Int32 → Int32 → Int32 → H2 → O2
  | 0 => fun _ _ _ _ _ _ _ => none
  | n + 1 => fun o0 v1 v2 v3 v4 v5 h =>
    if v1 ≤ v5 then (
      some ([Sum.inl (Value.int v4)], h))
    else
    mv_gd (mv_inb (nI 5) 69) <|
    mv_bh (wI2 h 902 o0 (nI 5).toNatClampNeg v3) fun h1 =>
    mv_rV (fN_byDraws o0 h1) fun h2 =>
    mv_gd (mv_inb (nI 5) 69) <|
    mv_bi (rI2 h2 902 o0 (nI 5).toNatClampNeg) fun x3 =>
    mv_rI (fN_depths o0 h2) fun r5 h4 =>
    if r5 ≤ v2 then (
      mv_bi (v4 + (nI 0)) fun x6 =>
      mv_rV (fN_laysBack o0 h4) fun h7 =>
      mv_bi (v5 + (nI 1)) fun x8 =>
      fN_luck_b44 n o0 v1 v2 x3 x6 x8 h7)
    else
    mv_bi (v4 + (nI 1)) fun x9 =>
    mv_rV (fN_laysBack o0 h4) fun h10 =>
    mv_bi (v5 + (nI 1)) fun x11 =>
    fN_luck_b44 n o0 v1 v2 x3 x9 x11 h10
def fN_luck (o0 : Nat) (v1 : Int32) (h : H2) : O2 :=
  mv_rI (fN_in v1.toInt64 (lN 1) (lN 30) h) fun r2 h1 =>
  if r2 = 0 then (
    some ([Sum.inl (Value.int (-(nI 1)))], h1))
  else
  mv_rV (fN_lends o0 h1) fun h3 =>
  mv_rV (fN_aDay o0 h3) fun h4 =>
  mv_rI (fN_depths o0 h4) fun r6 h5 =>
  mv_bi r6 fun x7 =>
  mv_rV (fN_laysBack o0 h5) fun h8 =>
  mv_gd (mv_inb (nI 5) 69) <|
  mv_bi (rI2 h8 902 o0 (nI 5).toNatClampNeg) fun x9 =>
  mv_bi (nI 0) fun x10 =>
  mv_bi (nI 0) fun x11 =>
  fN_luck_b44 1000 o0 v1 x7 x9 x10 x11 h8
def fN_hungSet_b4 : Nat → Nat → Int32 → Int32 → H2 → O2
  | 0 => fun _ _ _ _ => none
  | n + 1 => fun o0 v1 v2 h =>
    mv_gd (mv_inb (nI 6) 69) <|
    if (rI2 h 902 o0 (nI 6).toNatClampNeg) ≤ v2 then (
      some ([Sum.inl (Value.int v1)], h))
    else
    mv_rI (fN_its o0 v2 (nI 3) h) fun r2 h1 =>
    mv_bi (v1 ||| (r2 <<< (v2 &&& 31))) fun x3 =>
    mv_bi (v2 + (nI 1)) fun x4 =>
    fN_hungSet_b4 n o0 x3 x4 h1
def fN_hungSet (o0 : Nat) (h : H2) : O2 :=
  mv_bi (nI 0) fun x1 =>
  mv_bi (nI 0) fun x2 =>
  fN_hungSet_b4 1000 o0 x1 x2 h
def cN_hungSet : List mv_V → H2 → (List mv_V → H2 → O2) → O2 := fun as h k => match as with
  | [.inr (t0, o0)] => mv_gd (Nat.beq t0 8) <| mv_rI (fN_hungSet o0 h) fun x h => k [.inl (.int x)] h
  | _ => none
def fN_aboutSet_b4 : Nat → Nat → Int32 → Int32 → H2 → O2
  | 0 => fun _ _ _ _ => none
  | n + 1 => fun o0 v1 v2 h =>
    mv_gd (mv_inb (nI 6) 69) <|
    if (rI2 h 902 o0 (nI 6).toNatClampNeg) ≤ v2 then (
      some ([Sum.inl (Value.int v1)], h))
    else
    mv_rI (fN_its o0 v2 (nI 1) h) fun r2 h1 =>
    if r2 < 0 then (
      mv_bi (v1 ||| (nI 0)) fun x3 =>
      mv_bi (v2 + (nI 1)) fun x4 =>
      fN_aboutSet_b4 n o0 x3 x4 h1)
    else
    mv_bi (v1 ||| ((nI 1) <<< (v2 &&& 31))) fun x5 =>
    mv_bi (v2 + (nI 1)) fun x6 =>
    fN_aboutSet_b4 n o0 x5 x6 h1
def fN_aboutSet (o0 : Nat) (h : H2) : O2 :=
  mv_bi (nI 0) fun x1 =>
  mv_bi (nI 0) fun x2 =>
  fN_aboutSet_b4 1000 o0 x1 x2 h
def cN_aboutSet : List mv_V → H2 → (List mv_V → H2 → O2) → O2 := fun as h k => match as with
  | [.inr (t0, o0)] => mv_gd (Nat.beq t0 8) <| mv_rI (fN_aboutSet o0 h) fun x h => k [.inl (.int x)] h
  | _ => none
def fN_isAtOdds_b23 (o0 : Nat) (v1 : Int32) (v2 : Int32) (vs0 : Int32) (h : H2) : O2 :=
  mv_bi vs0 fun x1 =>
  if x1 = 0 then (
    mv_gd (decide (nI 0 = nI 0) || decide (nI 0 = nI 1)) <| some ([Sum.inl (Value.int (nI 0))], h))
  else
  mv_rI (fN_its o0 v1 (nI 1) h) fun r3 h2 =>
  if r3 < 0 then (
    mv_gd (decide (nI 0 = nI 0) || decide (nI 0 = nI 1)) <| some ([Sum.inl (Value.int (nI 0))], h2))
  else
  mv_rI (fN_its o0 v2 (nI 1) h2) fun r5 h4 =>
  if r5 < 0 then (
    mv_gd (decide (nI 0 = nI 0) || decide (nI 0 = nI 1)) <| some ([Sum.inl (Value.int (nI 0))], h4))
  else
  mv_rI (fN_its o0 v1 (nI 1) h4) fun r7 h6 =>
  mv_rI (fN_its o0 v2 (nI 1) h6) fun r9 h8 =>
  if r7 = r9 then (
    mv_gd (decide (nI 0 = nI 0) || decide (nI 0 = nI 1)) <| some ([Sum.inl (Value.int (nI 0))], h8))
  else
  mv_gd (decide (nI 1 = nI 0) || decide (nI 1 = nI 1)) <| some ([Sum.inl (Value.int (nI 1))], h8)
def fN_isAtOdds (o0 : Nat) (v1 : Int32) (v2 : Int32) (h : H2) : O2 :=
  mv_rI (fN_its o0 v1 (nI 3) h) fun r2 h1 =>
  if r2 = 0 then (
    mv_rI (fN_its o0 v2 (nI 3) h1) fun r4 h3 =>
    if r4 = 0 then (
      fN_isAtOdds_b23 o0 v1 v2 (nI 1) h3)
    else
    fN_isAtOdds_b23 o0 v1 v2 (nI 0) h3)
  else
  fN_isAtOdds_b23 o0 v1 v2 (nI 0) h1
def cN_isAtOdds : List mv_V → H2 → (List mv_V → H2 → O2) → O2 := fun as h k => match as with
  | [.inr (t0, o0), .inl (.int v1), .inl (.int v2)] => mv_gd (Nat.beq t0 8) <| mv_rI (fN_isAtOdds o0 v1 v2 h) fun x h => k [.inl (.int x)] h
  | _ => none
def fN_oddsAmong_b17 (k4 : Nat → Int32 → Int32 → H2 → O2) : Nat → Nat → Int32 → Int32 → Int32 → H2 → O2
  | 0 => fun _ _ _ _ _ => none
  | n + 1 => fun o0 v1 v2 v3 h =>
    if v2 ≤ v3 then (
      mv_bi (v2 + (nI 1)) fun x1 =>
      k4 o0 v1 x1 h)
    else
    mv_rI (fN_isAtOdds o0 v2 v3 h) fun r3 h2 =>
    if r3 = 0 then (
      mv_bi (v1 + (nI 0)) fun x4 =>
      mv_bi (v3 + (nI 1)) fun x5 =>
      fN_oddsAmong_b17 k4 n o0 x4 v2 x5 h2)
    else
    mv_bi (v1 + (nI 1)) fun x6 =>
    mv_bi (v3 + (nI 1)) fun x7 =>
    fN_oddsAmong_b17 k4 n o0 x6 v2 x7 h2
def fN_oddsAmong_b4 : Nat → Nat → Int32 → Int32 → H2 → O2
  | 0 => fun _ _ _ _ => none
  | n + 1 => fun o0 v1 v2 h =>
    mv_gd (mv_inb (nI 6) 69) <|
    if (rI2 h 902 o0 (nI 6).toNatClampNeg) ≤ v2 then (
      some ([Sum.inl (Value.int v1)], h))
    else
    mv_bi (nI 0) fun x1 =>
    fN_oddsAmong_b17 (fN_oddsAmong_b4 n) 1000 o0 v1 v2 x1 h
def fN_oddsAmong (o0 : Nat) (h : H2) : O2 :=
  mv_bi (nI 0) fun x1 =>
  mv_bi (nI 0) fun x2 =>
  fN_oddsAmong_b4 1000 o0 x1 x2 h
def cN_oddsAmong : List mv_V → H2 → (List mv_V → H2 → O2) → O2 := fun as h k => match as with
  | [.inr (t0, o0)] => mv_gd (Nat.beq t0 8) <| mv_rI (fN_oddsAmong o0 h) fun x h => k [.inl (.int x)] h
  | _ => none
def fN_state (o0 : Nat) (v1 : Int32) (h : H2) : O2 :=
  if v1 = nI 0 then (
    mv_gd (mv_inb (nI 4) 69) <|
    some ([Sum.inl (Value.int (rI2 h 902 o0 (nI 4).toNatClampNeg))], h))
  else
  if v1 = nI 1 then (
    mv_gd (mv_inb (nI 4) 69) <|
    mv_gd (!decide ((nI 6) = 0)) <|
    mv_gd (mv_inb ((nI 23) + ((rI2 h 902 o0 (nI 4).toNatClampNeg) - (rI2 h 902 o0 (nI 4).toNatClampNeg) / (nI 6) * (nI 6))) 69) <|
    some ([Sum.inl (Value.int ((nI 1) + (rI2 h 902 o0 ((nI 23) + ((rI2 h 902 o0 (nI 4).toNatClampNeg) - (rI2 h 902 o0 (nI 4).toNatClampNeg) / (nI 6) * (nI 6))).toNatClampNeg)))], h))
  else
  if v1 = nI 2 then (
    mv_rI (fN_hungSet o0 h) fun r2 h1 =>
    some ([Sum.inl (Value.int r2)], h1))
  else
  if v1 = nI 3 then (
    mv_rI (fN_aboutSet o0 h) fun r4 h3 =>
    some ([Sum.inl (Value.int r4)], h3))
  else
  if v1 = nI 4 then (
    mv_rI (fN_depths o0 h) fun r6 h5 =>
    some ([Sum.inl (Value.int r6)], h5))
  else
  if v1 = nI 5 then (
    mv_rI (fN_oddsAmong o0 h) fun r8 h7 =>
    some ([Sum.inl (Value.int r8)], h7))
  else
  some ([Sum.inl (Value.int (-(nI 1)))], h)
def fN_isAhead (v0 : Int32) (h : H2) : O2 :=
  mv_rI (fN_in v0.toInt64 (lN 0) (lN 60) h) fun r2 h1 =>
  mv_gd (decide (r2 = nI 0) || decide (r2 = nI 1)) <| some ([Sum.inl (Value.int r2)], h1)
def cN_isAhead : List mv_V → H2 → (List mv_V → H2 → O2) → O2 := fun as h k => match as with
  | [.inl (.int v0)] => mv_rI (fN_isAhead v0 h) fun x h => k [.inl (.int x)] h
  | _ => none
def fN_isSoon (v0 : Int32) (h : H2) : O2 :=
  mv_rI (fN_in v0.toInt64 (lN 1) (lN 40) h) fun r2 h1 =>
  mv_gd (decide (r2 = nI 0) || decide (r2 = nI 1)) <| some ([Sum.inl (Value.int r2)], h1)
def cN_isSoon : List mv_V → H2 → (List mv_V → H2 → O2) → O2 := fun as h k => match as with
  | [.inl (.int v0)] => mv_rI (fN_isSoon v0 h) fun x h => k [.inl (.int x)] h
  | _ => none
def fN_behind (o0 : Nat) (v1 : Int32) (v2 : Int32) (v3 : Int32) (h : H2) : O2 :=
  mv_rV (fN_goes o0 v3 h) fun h1 =>
  mv_rI (fN_its o0 v1 v2 h1) fun r3 h2 =>
  mv_bi r3 fun x4 =>
  mv_rV (fN_laysBack o0 h2) fun h5 =>
  some ([Sum.inl (Value.int x4)], h5)
def cN_behind : List mv_V → H2 → (List mv_V → H2 → O2) → O2 := fun as h k => match as with
  | [.inr (t0, o0), .inl (.int v1), .inl (.int v2), .inl (.int v3)] => mv_gd (Nat.beq t0 8) <| mv_rI (fN_behind o0 v1 v2 v3 h) fun x h => k [.inl (.int x)] h
  | _ => none
def fN_gone (o0 : Nat) (v1 : Int32) (v2 : Int32) (h : H2) : O2 :=
  mv_rI (fN_isCloth o0 v1 h) fun r2 h1 =>
  if r2 = 0 then (
    some ([Sum.inl (Value.int (-(nI 1)))], h1))
  else
  mv_rI (fN_isAhead v2 h1) fun r4 h3 =>
  if r4 = 0 then (
    some ([Sum.inl (Value.int (-(nI 1)))], h3))
  else
  mv_rV (fN_lends o0 h3) fun h5 =>
  mv_rI (fN_behind o0 v1 (nI 1) v2 h5) fun r7 h6 =>
  some ([Sum.inl (Value.int ((nI 1) + r7))], h6)
def fN_depth (o0 : Nat) (v1 : Int32) (v2 : Int32) (h : H2) : O2 :=
  mv_rI (fN_isCloth o0 v1 h) fun r2 h1 =>
  if r2 = 0 then (
    some ([Sum.inl (Value.int (-(nI 1)))], h1))
  else
  mv_rI (fN_isAhead v2 h1) fun r4 h3 =>
  if r4 = 0 then (
    some ([Sum.inl (Value.int (-(nI 1)))], h3))
  else
  mv_rV (fN_lends o0 h3) fun h5 =>
  mv_rI (fN_behind o0 v1 (nI 2) v2 h5) fun r7 h6 =>
  some ([Sum.inl (Value.int r7)], h6)
def fN_firstAbout_b6 : Nat → Nat → Int32 → Int32 → Int32 → H2 → O2
  | 0 => fun _ _ _ _ _ => none
  | n + 1 => fun o0 v1 v2 v3 h =>
    if (nI 60) < v3 then (
      mv_rV (fN_laysBack o0 h) fun h1 =>
      if (nI 60) < v3 then (
        some ([Sum.inl (Value.int (-(nI 3)))], h1))
      else
      some ([Sum.inl (Value.int v3)], h1))
    else
    mv_rI (fN_its o0 v1 (nI 1) h) fun r3 h2 =>
    if r3 = v2 then (
      mv_rV (fN_laysBack o0 h2) fun h4 =>
      if (nI 60) < v3 then (
        some ([Sum.inl (Value.int (-(nI 3)))], h4))
      else
      some ([Sum.inl (Value.int v3)], h4))
    else
    mv_rV (fN_aDay o0 h2) fun h5 =>
    mv_bi (v3 + (nI 1)) fun x6 =>
    fN_firstAbout_b6 n o0 v1 v2 x6 h5
def fN_firstAbout (o0 : Nat) (v1 : Int32) (v2 : Int32) (h : H2) : O2 :=
  mv_rV (fN_lends o0 h) fun h1 =>
  mv_bi (nI 0) fun x2 =>
  fN_firstAbout_b6 1000 o0 v1 v2 x2 h1
def cN_firstAbout : List mv_V → H2 → (List mv_V → H2 → O2) → O2 := fun as h k => match as with
  | [.inr (t0, o0), .inl (.int v1), .inl (.int v2)] => mv_gd (Nat.beq t0 8) <| mv_rI (fN_firstAbout o0 v1 v2 h) fun x h => k [.inl (.int x)] h
  | _ => none
def fN_comes (o0 : Nat) (v1 : Int32) (v2 : Int32) (h : H2) : O2 :=
  mv_rI (fN_isCloth o0 v1 h) fun r2 h1 =>
  if r2 = 0 then (
    some ([Sum.inl (Value.int (-(nI 1)))], h1))
  else
  mv_rI (fN_isPurpose v2 h1) fun r4 h3 =>
  if r4 = 0 then (
    some ([Sum.inl (Value.int (-(nI 1)))], h3))
  else
  mv_rI (fN_firstAbout o0 v1 v2 h3) fun r6 h5 =>
  some ([Sum.inl (Value.int r6)], h5)
def fN_bare (o0 : Nat) (v1 : Int32) (h : H2) : O2 :=
  mv_rI (fN_isCloth o0 v1 h) fun r2 h1 =>
  if r2 = 0 then (
    some ([Sum.inl (Value.int (-(nI 1)))], h1))
  else
  mv_rI (fN_firstAbout o0 v1 (-(nI 1)) h1) fun r4 h3 =>
  some ([Sum.inl (Value.int r4)], h3)
def fN_spoiltIn_b9 : Nat → Nat → Int32 → Int32 → H2 → O2
  | 0 => fun _ _ _ _ => none
  | n + 1 => fun o0 v2 v3 h =>
    mv_gd (mv_inb (nI 6) 69) <|
    if (rI2 h 902 o0 (nI 6).toNatClampNeg) ≤ v3 then (
      mv_rV (fN_laysBack o0 h) fun h1 =>
      some ([Sum.inl (Value.int v2)], h1))
    else
    mv_rI (fN_its o0 v3 (nI 1) h) fun r3 h2 =>
    mv_gd (mv_inb (((nI 29) + ((nI 5) * v3)) + (nI 1)) 69) <|
    if r3 = (rI2 h2 904 o0 (((nI 29) + ((nI 5) * v3)) + (nI 1)).toNatClampNeg) then (
      mv_bi (v2 + (nI 0)) fun x4 =>
      mv_bi (v3 + (nI 1)) fun x5 =>
      fN_spoiltIn_b9 n o0 x4 x5 h2)
    else
    mv_bi (v2 + (nI 1)) fun x6 =>
    mv_bi (v3 + (nI 1)) fun x7 =>
    fN_spoiltIn_b9 n o0 x6 x7 h2
def fN_spoiltIn (o0 : Nat) (v1 : Int32) (h : H2) : O2 :=
  mv_rV (fN_goes o0 v1 h) fun h1 =>
  mv_bi (nI 0) fun x2 =>
  mv_bi (nI 0) fun x3 =>
  fN_spoiltIn_b9 1000 o0 x2 x3 h1
def cN_spoiltIn : List mv_V → H2 → (List mv_V → H2 → O2) → O2 := fun as h k => match as with
  | [.inr (t0, o0), .inl (.int v1)] => mv_gd (Nat.beq t0 8) <| mv_rI (fN_spoiltIn o0 v1 h) fun x h => k [.inl (.int x)] h
  | _ => none
def fN_spoilt (o0 : Nat) (v1 : Int32) (h : H2) : O2 :=
  mv_rI (fN_isAhead v1 h) fun r2 h1 =>
  if r2 = 0 then (
    some ([Sum.inl (Value.int (-(nI 1)))], h1))
  else
  mv_rV (fN_lends o0 h1) fun h3 =>
  mv_rI (fN_spoiltIn o0 v1 h3) fun r5 h4 =>
  some ([Sum.inl (Value.int r5)], h4)
def fN_isThrough_b5 : Nat → Nat → Int32 → Int32 → Int32 → Int32 → H2 → O2
  | 0 => fun _ _ _ _ _ _ => none
  | n + 1 => fun o0 v1 v2 v4 v5 h =>
    if v5 < 0 then (
      mv_rI (fN_its o0 v1 (nI 1) h) fun r2 h1 =>
      if r2 = v2 then (
        mv_bi (nI 1) fun x3 =>
        mv_rV (fN_laysBack o0 h1) fun h4 =>
        mv_gd (decide (x3 = nI 0) || decide (x3 = nI 1)) <| some ([Sum.inl (Value.int x3)], h4))
      else
      mv_bi (nI 0) fun x5 =>
      mv_rV (fN_laysBack o0 h1) fun h6 =>
      mv_gd (decide (x5 = nI 0) || decide (x5 = nI 1)) <| some ([Sum.inl (Value.int x5)], h6))
    else
    mv_rV (fN_dips o0 v1 ((v4 >>> (((nI 3) * v5) &&& 31)) &&& (nI 7)) h) fun h7 =>
    mv_bi (v5 + (-(nI 1))) fun x8 =>
    fN_isThrough_b5 n o0 v1 v2 v4 x8 h7
def fN_isThrough (o0 : Nat) (v1 : Int32) (v2 : Int32) (v3 : Int32) (v4 : Int32) (h : H2) : O2 :=
  mv_bi (v3 - (nI 1)) fun x1 =>
  fN_isThrough_b5 1000 o0 v1 v2 v4 x1 h
def cN_isThrough : List mv_V → H2 → (List mv_V → H2 → O2) → O2 := fun as h k => match as with
  | [.inr (t0, o0), .inl (.int v1), .inl (.int v2), .inl (.int v3), .inl (.int v4)] => mv_gd (Nat.beq t0 8) <| mv_rI (fN_isThrough o0 v1 v2 v3 v4 h) fun x h => k [.inl (.int x)] h
  | _ => none
def fN_through_b31 (k23 : Nat → Int32 → Int32 → Int32 → H2 → O2) : Nat → Nat → Int32 → Int32 → Int32 → Int32 → H2 → O2
  | 0 => fun _ _ _ _ _ _ => none
  | n + 1 => fun o0 v1 v2 v3 v4 h =>
    if ((nI 1) <<< (((nI 3) * v3) &&& 31)) ≤ v4 then (
      mv_bi (v3 + (nI 1)) fun x1 =>
      k23 o0 v1 v2 x1 h)
    else
    mv_rI (fN_isThrough o0 v1 v2 v3 v4 h) fun r3 h2 =>
    if r3 = 0 then (
      mv_bi (v4 + (nI 1)) fun x4 =>
      fN_through_b31 k23 n o0 v1 v2 v3 x4 h2)
    else
    some ([Sum.inl (Value.int (((nI 1) <<< (((nI 3) * v3) &&& 31)) + v4))], h2)
def fN_through_b23 : Nat → Nat → Int32 → Int32 → Int32 → H2 → O2
  | 0 => fun _ _ _ _ _ => none
  | n + 1 => fun o0 v1 v2 v3 h =>
    if (nI 3) < v3 then (
      some ([Sum.inl (Value.int (-(nI 3)))], h))
    else
    mv_bi (nI 0) fun x1 =>
    fN_through_b31 (fN_through_b23 n) 1000 o0 v1 v2 v3 x1 h
def fN_through (o0 : Nat) (v1 : Int32) (v2 : Int32) (h : H2) : O2 :=
  mv_rI (fN_isCloth o0 v1 h) fun r2 h1 =>
  if r2 = 0 then (
    some ([Sum.inl (Value.int (-(nI 1)))], h1))
  else
  mv_rI (fN_isPurpose v2 h1) fun r4 h3 =>
  if r4 = 0 then (
    some ([Sum.inl (Value.int (-(nI 1)))], h3))
  else
  mv_rV (fN_lends o0 h3) fun h5 =>
  mv_bi (nI 0) fun x6 =>
  fN_through_b23 1000 o0 v1 v2 x6 h5
def fN_vatFor_b24 : Nat → Nat → Int32 → Int32 → Int32 → Int32 → Int32 → H2 → O2
  | 0 => fun _ _ _ _ _ _ _ => none
  | n + 1 => fun o0 v1 v2 v3 v4 v5 h =>
    if (nI 8) ≤ v5 then (
      some ([Sum.inl (Value.int v3)], h))
    else
    mv_rV (fN_lends o0 h) fun h1 =>
    mv_gd (mv_inb ((nI 23) + v1) 69) <|
    mv_bh (wI2 h1 902 o0 ((nI 23) + v1).toNatClampNeg v5) fun h2 =>
    mv_rV (fN_goes o0 v2 h2) fun h3 =>
    mv_rI (fN_depths o0 h3) fun r5 h4 =>
    mv_bi r5 fun x6 =>
    mv_rV (fN_laysBack o0 h4) fun h7 =>
    if x6 ≤ v4 then (
      mv_bi v3 fun x8 =>
      mv_bi (if v4 < x6 then x6 else v4) fun x9 =>
      mv_bi (v5 + (nI 1)) fun x10 =>
      fN_vatFor_b24 n o0 v1 v2 x8 x9 x10 h7)
    else
    mv_bi v5 fun x11 =>
    mv_bi (if v4 < x6 then x6 else v4) fun x12 =>
    mv_bi (v5 + (nI 1)) fun x13 =>
    fN_vatFor_b24 n o0 v1 v2 x11 x12 x13 h7
def fN_vatFor (o0 : Nat) (v1 : Int32) (v2 : Int32) (h : H2) : O2 :=
  mv_rI (fN_isRest v1 h) fun r2 h1 =>
  if r2 = 0 then (
    some ([Sum.inl (Value.int (-(nI 1)))], h1))
  else
  mv_rI (fN_isSoon v2 h1) fun r4 h3 =>
  if r4 = 0 then (
    some ([Sum.inl (Value.int (-(nI 1)))], h3))
  else
  mv_bi (-(nI 1)) fun x5 =>
  mv_bi (-(nI 1)) fun x6 =>
  mv_bi (nI 0) fun x7 =>
  fN_vatFor_b24 1000 o0 v1 v2 x5 x6 x7 h3
def fN_kindFor_b25 : Nat → Nat → Int32 → Int32 → Int32 → Int32 → Int32 → H2 → O2
  | 0 => fun _ _ _ _ _ _ _ => none
  | n + 1 => fun o0 v1 v2 v3 v4 v5 h =>
    if (nI 5) < v5 then (
      some ([Sum.inl (Value.int v3)], h))
    else
    mv_rV (fN_lends o0 h) fun h1 =>
    mv_rV (fN_sets o0 v1 (nI 0) v5 h1) fun h2 =>
    mv_rI (fN_behind o0 v1 (nI 2) v2 h2) fun r4 h3 =>
    mv_bi r4 fun x5 =>
    if x5 ≤ v4 then (
      mv_bi v3 fun x6 =>
      mv_bi (if v4 < x5 then x5 else v4) fun x7 =>
      mv_bi (v5 + (nI 1)) fun x8 =>
      fN_kindFor_b25 n o0 v1 v2 x6 x7 x8 h3)
    else
    mv_bi v5 fun x9 =>
    mv_bi (if v4 < x5 then x5 else v4) fun x10 =>
    mv_bi (v5 + (nI 1)) fun x11 =>
    fN_kindFor_b25 n o0 v1 v2 x9 x10 x11 h3
def fN_kindFor (o0 : Nat) (v1 : Int32) (v2 : Int32) (h : H2) : O2 :=
  mv_rI (fN_isCloth o0 v1 h) fun r2 h1 =>
  if r2 = 0 then (
    some ([Sum.inl (Value.int (-(nI 1)))], h1))
  else
  mv_rI (fN_isSoon v2 h1) fun r4 h3 =>
  if r4 = 0 then (
    some ([Sum.inl (Value.int (-(nI 1)))], h3))
  else
  mv_bi (-(nI 1)) fun x5 =>
  mv_bi (-(nI 1)) fun x6 =>
  mv_bi (nI 0) fun x7 =>
  fN_kindFor_b25 1000 o0 v1 v2 x5 x6 x7 h3
def fN_strengthFor_b40 : Nat → Nat → Int32 → Int32 → Int32 → Int32 → Int32 → Int32 → H2 → O2
  | 0 => fun _ _ _ _ _ _ _ _ => none
  | n + 1 => fun o0 v1 v2 v3 v4 v5 v6 h =>
    if v6 < 0 then (
      some ([Sum.inl (Value.int v5)], h))
    else
    mv_rV (fN_lends o0 h) fun h1 =>
    mv_gd (mv_inb ((nI 15) + v1) 69) <|
    mv_bh (wI2 h1 902 o0 ((nI 15) + v1).toNatClampNeg v6) fun h2 =>
    mv_rI (fN_behind o0 v2 (nI 1) v4 h2) fun r4 h3 =>
    if r4 = v3 then (
      mv_bi v6 fun x5 =>
      mv_bi (v6 + (-(nI 1))) fun x6 =>
      fN_strengthFor_b40 n o0 v1 v2 v3 v4 x5 x6 h3)
    else
    mv_bi v5 fun x7 =>
    mv_bi (v6 + (-(nI 1))) fun x8 =>
    fN_strengthFor_b40 n o0 v1 v2 v3 v4 x7 x8 h3
def fN_strengthFor (o0 : Nat) (v1 : Int32) (v2 : Int32) (v3 : Int32) (v4 : Int32) (h : H2) : O2 :=
  mv_rI (fN_isVat v1 h) fun r2 h1 =>
  if r2 = 0 then (
    some ([Sum.inl (Value.int (-(nI 1)))], h1))
  else
  mv_rI (fN_isCloth o0 v2 h1) fun r4 h3 =>
  if r4 = 0 then (
    some ([Sum.inl (Value.int (-(nI 1)))], h3))
  else
  mv_rI (fN_isPurpose v3 h3) fun r6 h5 =>
  if r6 = 0 then (
    some ([Sum.inl (Value.int (-(nI 1)))], h5))
  else
  mv_rI (fN_isSoon v4 h5) fun r8 h7 =>
  if r8 = 0 then (
    some ([Sum.inl (Value.int (-(nI 1)))], h7))
  else
  mv_bi (-(nI 3)) fun x9 =>
  mv_bi (nI 9) fun x10 =>
  fN_strengthFor_b40 1000 o0 v1 v2 v3 v4 x9 x10 h7
def fN_ones_b4 : Nat → Int32 → Int32 → Int32 → H2 → O2
  | 0 => fun _ _ _ _ => none
  | n + 1 => fun v0 v1 v2 h =>
    if (nI 8) ≤ v2 then (
      some ([Sum.inl (Value.int v1)], h))
    else
    mv_bi (v1 + ((v0 >>> (v2 &&& 31)) &&& (nI 1))) fun x1 =>
    mv_bi (v2 + (nI 1)) fun x2 =>
    fN_ones_b4 n v0 x1 x2 h
def fN_ones (v0 : Int32) (h : H2) : O2 :=
  mv_bi (nI 0) fun x1 =>
  mv_bi (nI 0) fun x2 =>
  fN_ones_b4 1000 v0 x1 x2 h
def cN_ones : List mv_V → H2 → (List mv_V → H2 → O2) → O2 := fun as h k => match as with
  | [.inl (.int v0)] => mv_rI (fN_ones v0 h) fun x h => k [.inl (.int x)] h
  | _ => none
def fN_hangs_b2 : Nat → Nat → Int32 → Int32 → H2 → O2
  | 0 => fun _ _ _ _ => none
  | n + 1 => fun o0 v1 v2 h =>
    mv_gd (mv_inb (nI 6) 69) <|
    if (rI2 h 902 o0 (nI 6).toNatClampNeg) ≤ v2 then (
      some ([], h))
    else
    mv_rV (fN_sets o0 v2 (nI 3) ((v1 >>> (v2 &&& 31)) &&& (nI 1)) h) fun h1 =>
    mv_bi (v2 + (nI 1)) fun x2 =>
    fN_hangs_b2 n o0 v1 x2 h1
def fN_hangs (o0 : Nat) (v1 : Int32) (h : H2) : O2 :=
  mv_bi (nI 0) fun x1 =>
  fN_hangs_b2 1000 o0 v1 x1 h
def cN_hangs : List mv_V → H2 → (List mv_V → H2 → O2) → O2 := fun as h k => match as with
  | [.inr (t0, o0), .inl (.int v1)] => mv_gd (Nat.beq t0 8) <| mv_rV (fN_hangs o0 v1 h) fun h => k [] h
  | _ => none
def fN_hangFor_b62 (k32 : Nat → Int32 → Int32 → Int32 → Int32 → H2 → O2) (o0 : Nat) (v1 : Int32) (v2 : Int32) (v3 : Int32) (v4 : Int32) (h : H2) : O2 :=
  mv_rV (fN_lends o0 h) fun h1 =>
  mv_rV (fN_hangs o0 v4 h1) fun h2 =>
  mv_rI (fN_spoiltIn o0 v1 h2) fun r4 h3 =>
  if v2 < r4 then (
    mv_bi v3 fun x5 =>
    mv_bi (v4 + (nI 1)) fun x6 =>
    k32 o0 v1 v2 x5 x6 h3)
  else
  mv_bi v4 fun x7 =>
  mv_bi (v4 + (nI 1)) fun x8 =>
  k32 o0 v1 v2 x7 x8 h3
def fN_hangFor_b32 : Nat → Nat → Int32 → Int32 → Int32 → Int32 → H2 → O2
  | 0 => fun _ _ _ _ _ _ => none
  | n + 1 => fun o0 v1 v2 v3 v4 h =>
    mv_gd (mv_inb (nI 6) 69) <|
    if ((nI 1) <<< ((rI2 h 902 o0 (nI 6).toNatClampNeg) &&& 31)) ≤ v4 then (
      some ([Sum.inl (Value.int v3)], h))
    else
    if v3 < 0 then (
      fN_hangFor_b62 (fN_hangFor_b32 n) o0 v1 v2 v3 v4 h)
    else
    mv_rI (fN_ones v4 h) fun r2 h1 =>
    mv_rI (fN_ones v3 h1) fun r4 h3 =>
    if r4 ≤ r2 then (
      mv_bi (v4 + (nI 1)) fun x5 =>
      fN_hangFor_b32 n o0 v1 v2 v3 x5 h3)
    else
    fN_hangFor_b62 (fN_hangFor_b32 n) o0 v1 v2 v3 v4 h3
def fN_hangFor (o0 : Nat) (v1 : Int32) (v2 : Int32) (h : H2) : O2 :=
  mv_rI (fN_in v1.toInt64 (lN 1) (lN 30) h) fun r2 h1 =>
  if r2 = 0 then (
    some ([Sum.inl (Value.int (-(nI 1)))], h1))
  else
  mv_rI (fN_in v2.toInt64 (lN 0) (lN 8) h1) fun r4 h3 =>
  if r4 = 0 then (
    some ([Sum.inl (Value.int (-(nI 1)))], h3))
  else
  mv_bi (-(nI 3)) fun x5 =>
  mv_bi (nI 0) fun x6 =>
  fN_hangFor_b32 1000 o0 v1 v2 x5 x6 h3
def fN_isSo_b17 : Nat → Nat → Int32 → Int32 → Int32 → Int32 → H2 → O2
  | 0 => fun _ _ _ _ _ _ => none
  | n + 1 => fun o0 v1 v2 v4 v5 h =>
    mv_gd (mv_inb v1 4) <|
    if (rI2 h 914 o0 v1.toNatClampNeg) ≤ v5 then (
      mv_rV (fN_laysBack o0 h) fun h1 =>
      mv_gd (decide (v4 = nI 0) || decide (v4 = nI 1)) <| some ([Sum.inl (Value.int v4)], h1))
    else
    if v4 = 0 then (
      mv_rV (fN_laysBack o0 h) fun h2 =>
      mv_gd (decide (v4 = nI 0) || decide (v4 = nI 1)) <| some ([Sum.inl (Value.int v4)], h2))
    else
    mv_rV (fN_aDay o0 h) fun h3 =>
    mv_gd (mv_inb (((nI 40) * v1) + v5) 160) <|
    mv_bi (rI2 h3 915 o0 (((nI 40) * v1) + v5).toNatClampNeg) fun x4 =>
    if x4 = (-(nI 1)) then (
      mv_bi (nI 1) fun x5 =>
      mv_bi (v5 + (nI 1)) fun x6 =>
      fN_isSo_b17 n o0 v1 v2 x5 x6 h3)
    else
    mv_rI (fN_its o0 v2 (nI 2) h3) fun r8 h7 =>
    if x4 = r8 then (
      mv_bi (nI 1) fun x9 =>
      mv_bi (v5 + (nI 1)) fun x10 =>
      fN_isSo_b17 n o0 v1 v2 x9 x10 h7)
    else
    mv_bi (nI 0) fun x11 =>
    mv_bi (v5 + (nI 1)) fun x12 =>
    fN_isSo_b17 n o0 v1 v2 x11 x12 h7
def fN_isSo (o0 : Nat) (v1 : Int32) (v2 : Int32) (v3 : Int32) (h : H2) : O2 :=
  mv_rV (fN_lends o0 h) fun h1 =>
  mv_rV (fN_sets o0 v2 (nI 1) v3 h1) fun h2 =>
  mv_bi (nI 1) fun x3 =>
  mv_bi (nI 0) fun x4 =>
  fN_isSo_b17 1000 o0 v1 v2 x3 x4 h2
def cN_isSo : List mv_V → H2 → (List mv_V → H2 → O2) → O2 := fun as h k => match as with
  | [.inr (t0, o0), .inl (.int v1), .inl (.int v2), .inl (.int v3)] => mv_gd (Nat.beq t0 8) <| mv_rI (fN_isSo o0 v1 v2 v3 h) fun x h => k [.inl (.int x)] h
  | _ => none
def fN_isFour (v0 : Int32) (h : H2) : O2 :=
  mv_rI (fN_in v0.toInt64 (lN 0) (lN 3) h) fun r2 h1 =>
  mv_gd (decide (r2 = nI 0) || decide (r2 = nI 1)) <| some ([Sum.inl (Value.int r2)], h1)
def cN_isFour : List mv_V → H2 → (List mv_V → H2 → O2) → O2 := fun as h k => match as with
  | [.inl (.int v0)] => mv_rI (fN_isFour v0 h) fun x h => k [.inl (.int x)] h
  | _ => none
def fN_fits_b87 (k75 : Nat → Int32 → Int32 → Int32 → Int32 → Int32 → Int32 → Int32 → H2 → O2) (o0 : Nat) (v1 : Int32) (v2 : Int32) (v3 : Int32) (v4 : Int32) (v5 : Int32) (v6 : Int32) (v7 : Int32) (vs0 : Int32) (vs1 : Int32) (h : H2) : O2 :=
  if vs0 < vs1 then (
    if v3 = 0 then (
      some ([Sum.inl (Value.int v5)], h))
    else
    some ([Sum.inl (Value.int v6)], h))
  else
  mv_rI (fN_isSo o0 v1 v2 v7 h) fun r2 h1 =>
  mv_bi r2 fun x3 =>
  if x3 = 0 then (
    mv_bi (v5 + (nI 0)) fun x4 =>
    if x3 = 0 then (
      mv_bi v6 fun x5 =>
      mv_bi (v7 + (-(nI 1))) fun x6 =>
      k75 o0 v1 v2 v3 v4 x4 x5 x6 h1)
    else
    mv_bi ((nI 1) + v7) fun x7 =>
    mv_bi (v7 + (-(nI 1))) fun x8 =>
    k75 o0 v1 v2 v3 v4 x4 x7 x8 h1)
  else
  mv_bi (v5 + (nI 1)) fun x9 =>
  if x3 = 0 then (
    mv_bi v6 fun x10 =>
    mv_bi (v7 + (-(nI 1))) fun x11 =>
    k75 o0 v1 v2 v3 v4 x9 x10 x11 h1)
  else
  mv_bi ((nI 1) + v7) fun x12 =>
  mv_bi (v7 + (-(nI 1))) fun x13 =>
  k75 o0 v1 v2 v3 v4 x9 x12 x13 h1
def fN_fits_b75 : Nat → Nat → Int32 → Int32 → Int32 → Int32 → Int32 → Int32 → Int32 → H2 → O2
  | 0 => fun _ _ _ _ _ _ _ _ _ => none
  | n + 1 => fun o0 v1 v2 v3 v4 v5 v6 v7 h =>
    if v4 = 0 then (
      fN_fits_b87 (fN_fits_b75 n) o0 v1 v2 v3 v4 v5 v6 v7 v7 (nI 0) h)
    else
    fN_fits_b87 (fN_fits_b75 n) o0 v1 v2 v3 v4 v5 v6 v7 v7 (-(nI 1)) h
def fN_fits (o0 : Nat) (v1 : Int32) (v2 : Int32) (v3 : Int32) (h : H2) : O2 :=
  mv_rI (fN_isFour v1 h) fun r2 h1 =>
  if r2 = 0 then (
    some ([Sum.inl (Value.int (-(nI 1)))], h1))
  else
  mv_rI (fN_isCloth o0 v2 h1) fun r4 h3 =>
  if r4 = 0 then (
    some ([Sum.inl (Value.int (-(nI 1)))], h3))
  else
  mv_rI (fN_in v3.toInt64 (lN 0) (lN 1) h3) fun r6 h5 =>
  if r6 = 0 then (
    some ([Sum.inl (Value.int (-(nI 1)))], h5))
  else
  mv_gd (mv_inb v1 4) <|
  if 0 ≤ (rI2 h5 913 o0 v1.toNatClampNeg) then (
    mv_rI (fN_its o0 v2 (nI 2) h5) fun r8 h7 =>
    if r8 = 0 then (
      mv_bi (nI 1) fun x9 =>
      mv_bi (nI 0) fun x10 =>
      mv_bi (-(nI 3)) fun x11 =>
      if x9 = 0 then (
        mv_bi (nI 9) fun x12 =>
        fN_fits_b75 1000 o0 v1 v2 v3 x9 x10 x11 x12 h7)
      else
      mv_bi (-(nI 1)) fun x13 =>
      fN_fits_b75 1000 o0 v1 v2 v3 x9 x10 x11 x13 h7)
    else
    mv_bi (nI 0) fun x14 =>
    mv_bi (nI 0) fun x15 =>
    mv_bi (-(nI 3)) fun x16 =>
    if x14 = 0 then (
      mv_bi (nI 9) fun x17 =>
      fN_fits_b75 1000 o0 v1 v2 v3 x14 x15 x16 x17 h7)
    else
    mv_bi (-(nI 1)) fun x18 =>
    fN_fits_b75 1000 o0 v1 v2 v3 x14 x15 x16 x18 h7)
  else
  some ([Sum.inl (Value.int (-(nI 11)))], h5)
def fN_lowest_b6 : Nat → Int64 → Int64 → Int32 → Int64 → Int64 → H2 → O2
  | 0 => fun _ _ _ _ _ _ => none
  | n + 1 => fun w0 w2 v4 w5 w7 h =>
    if (lg_cmp w7 (lN 0)) = 0 then (
      if v4 = 0 then (
        mv_gd (!decide (w5 = 0)) <|
        some ([Sum.inl (Value.long (w0 / w5))], h))
      else
      mv_gd (!decide (w5 = 0)) <|
      some ([Sum.inl (Value.long (w2 / w5))], h))
    else
    mv_gd (!decide (w7 = 0)) <|
    mv_bl (w5 - w5 / w7 * w7) fun y1 =>
    mv_bl w7 fun y2 =>
    mv_bl y1 fun y3 =>
    fN_lowest_b6 n w0 w2 v4 y2 y3 h
def fN_lowest (w0 : Int64) (w2 : Int64) (v4 : Int32) (h : H2) : O2 :=
  mv_bl w0 fun y1 =>
  mv_bl w2 fun y2 =>
  fN_lowest_b6 1000 w0 w2 v4 y1 y2 h
def cN_lowest : List mv_V → H2 → (List mv_V → H2 → O2) → O2 := fun as h k => match as with
  | [.inl (.long w0), .inl (.long w2), .inl (.int v4)] => mv_rL (fN_lowest w0 w2 v4 h) fun x h => k [.inl (.long x)] h
  | _ => none
def fN_odds_b103 : Nat → Int32 → Int32 → Int32 → Int64 → Int64 → Int64 → Int32 → H2 → O2
  | 0 => fun _ _ _ _ _ _ _ _ => none
  | n + 1 => fun v1 v2 v3 w4 w6 w8 v10 h =>
    if v2 ≤ v10 then (
      mv_rL (fN_lowest (w4 * w8) w6 v3 h) fun r2 h1 =>
      some ([Sum.inl (Value.long r2)], h1))
    else
    mv_gd (!decide (((v10 + (nI 1)).toInt64) = 0)) <|
    mv_bl ((w8 * ((v1 - v10).toInt64)) / ((v10 + (nI 1)).toInt64)) fun y3 =>
    mv_bi (v10 + (nI 1)) fun x4 =>
    fN_odds_b103 n v1 v2 v3 w4 w6 y3 x4 h
def fN_odds_b46 : Nat → Nat → Int32 → Int32 → Int32 → Int64 → Int64 → Int32 → H2 → O2
  | 0 => fun _ _ _ _ _ _ _ _ => none
  | n + 1 => fun o0 v1 v2 v3 w4 w6 v8 h =>
    if v1 ≤ v8 then (
      mv_bl (lN 1) fun y1 =>
      mv_bi (nI 0) fun x2 =>
      fN_odds_b103 1000 v1 v2 v3 w4 w6 y1 x2 h)
    else
    if v2 ≤ v8 then (
      mv_gd (mv_inb (nI 3) 69) <|
      mv_bl (w4 * (((nI 100) - (rI2 h 902 o0 (nI 3).toNatClampNeg)).toInt64)) fun y3 =>
      mv_bl (w6 * (lN 100)) fun y4 =>
      mv_bi (v8 + (nI 1)) fun x5 =>
      fN_odds_b46 n o0 v1 v2 v3 y3 y4 x5 h)
    else
    mv_gd (mv_inb (nI 3) 69) <|
    mv_bl (w4 * ((rI2 h 902 o0 (nI 3).toNatClampNeg).toInt64)) fun y6 =>
    mv_bl (w6 * (lN 100)) fun y7 =>
    mv_bi (v8 + (nI 1)) fun x8 =>
    fN_odds_b46 n o0 v1 v2 v3 y6 y7 x8 h
def fN_odds (o0 : Nat) (v1 : Int32) (v2 : Int32) (v3 : Int32) (h : H2) : O2 :=
  mv_rI (fN_in v1.toInt64 (lN 0) (lN 8) h) fun r2 h1 =>
  if r2 = 0 then (
    some ([Sum.inl (Value.long (-(lN 1)))], h1))
  else
  mv_rI (fN_in v2.toInt64 (lN 0) v1.toInt64 h1) fun r4 h3 =>
  if r4 = 0 then (
    some ([Sum.inl (Value.long (-(lN 1)))], h3))
  else
  mv_rI (fN_in v3.toInt64 (lN 0) (lN 1) h3) fun r6 h5 =>
  if r6 = 0 then (
    some ([Sum.inl (Value.long (-(lN 1)))], h5))
  else
  mv_bl (lN 1) fun y7 =>
  mv_bl (lN 1) fun y8 =>
  mv_bi (nI 0) fun x9 =>
  fN_odds_b46 1000 o0 v1 v2 v3 y7 y8 x9 h5
def fN_hope (o0 : Nat) (v1 : Int32) (v2 : Int32) (h : H2) : O2 :=
  mv_rI (fN_in v1.toInt64 (lN 0) (lN 99) h) fun r2 h1 =>
  if r2 = 0 then (
    some ([Sum.inl (Value.long (-(lN 1)))], h1))
  else
  mv_rI (fN_in v2.toInt64 (lN 0) (lN 1) h1) fun r4 h3 =>
  if r4 = 0 then (
    some ([Sum.inl (Value.long (-(lN 1)))], h3))
  else
  mv_gd (mv_inb (nI 3) 69) <|
  mv_rL (fN_lowest (v1.toInt64 * ((rI2 h3 902 o0 (nI 3).toNatClampNeg).toInt64)) (lN 100) v2 h3) fun r6 h5 =>
  some ([Sum.inl (Value.long r6)], h5)
def fN_feed_b32 : Nat → Nat → Int64 → Int32 → Int32 → H2 → O2
  | 0 => fun _ _ _ _ _ => none
  | n + 1 => fun o0 w1 v3 v4 h =>
    if v3 ≤ v4 then (
      some ([Sum.inl (Value.int (rI2 h 8 o0 7))], h))
    else
    mv_gd (mv_inb (rI2 h 8 o0 7) 200) <|
    mv_bh (wI2 h 906 o0 (rI2 h 8 o0 7).toNatClampNeg (((w1 >>> (((nI 8) * v4).toInt64 &&& 63)) &&& (lN 255)).toInt32)) fun h1 =>
    mv_bh (wI2 h1 8 o0 7 ((rI2 h1 8 o0 7) + (nI 1))) fun h2 =>
    mv_bi (v4 + (nI 1)) fun x3 =>
    fN_feed_b32 n o0 w1 v3 x3 h2
def fN_feed (o0 : Nat) (w1 : Int64) (v3 : Int32) (h : H2) : O2 :=
  mv_rI (fN_in v3.toInt64 (lN 1) (lN 8) h) fun r2 h1 =>
  if r2 = 0 then (
    some ([Sum.inl (Value.int (-(nI 1)))], h1))
  else
  if ((rI2 h1 8 o0 7) + v3) ≤ (nI 200) then (
    mv_bi (nI 0) fun x3 =>
    fN_feed_b32 1000 o0 w1 v3 x3 h1)
  else
  some ([Sum.inl (Value.int (-(nI 2)))], h1)
def fN_isByte (o0 : Nat) (v1 : Int32) (v2 : Int32) (v3 : Int32) (h : H2) : O2 :=
  if (rI2 h 8 o0 7) ≤ v1 then (
    mv_gd (decide (nI 0 = nI 0) || decide (nI 0 = nI 1)) <| some ([Sum.inl (Value.int (nI 0))], h))
  else
  mv_gd (mv_inb v1 200) <|
  mv_rI (fN_in ((rI2 h 906 o0 v1.toNatClampNeg).toInt64) v2.toInt64 v3.toInt64 h) fun r2 h1 =>
  if r2 = 0 then (
    mv_gd (decide (nI 0 = nI 0) || decide (nI 0 = nI 1)) <| some ([Sum.inl (Value.int (nI 0))], h1))
  else
  mv_gd (decide (nI 1 = nI 0) || decide (nI 1 = nI 1)) <| some ([Sum.inl (Value.int (nI 1))], h1)
def cN_isByte : List mv_V → H2 → (List mv_V → H2 → O2) → O2 := fun as h k => match as with
  | [.inr (t0, o0), .inl (.int v1), .inl (.int v2), .inl (.int v3)] => mv_gd (Nat.beq t0 8) <| mv_rI (fN_isByte o0 v1 v2 v3 h) fun x h => k [.inl (.int x)] h
  | _ => none
def fN_next_b121 (o0 : Nat) (v1 : Int32) (v2 : Int32) (h : H2) : O2 :=
  if v1 = 0 then (
    if v2 = 0 then (
      if (rI2 h 8 o0 7) ≤ (rI2 h 8 o0 8) then (
        mv_bh (wI2 h 8 o0 9 ((rI2 h 8 o0 9) + (nI 0))) fun h1 =>
        some ([], h1))
      else
      mv_bh (wI2 h 8 o0 9 ((rI2 h 8 o0 9) + (nI 1))) fun h2 =>
      some ([], h2))
    else
    mv_bh (wI2 h 8 o0 9 ((rI2 h 8 o0 9) + (nI 0))) fun h3 =>
    some ([], h3))
  else
  mv_bh (wI2 h 8 o0 9 ((rI2 h 8 o0 9) + (nI 0))) fun h4 =>
  some ([], h4)
def fN_next_b89 (k70 : Nat → Int32 → Int32 → H2 → O2) (o0 : Nat) (v1 : Int32) (v2 : Int32) (h : H2) : O2 :=
  if v2 = 0 then (
    fN_next_b121 o0 v1 v2 h)
  else
  mv_rI (fN_isByte o0 (rI2 h 8 o0 9) (nI 48) (nI 57) h) fun r2 h1 =>
  if r2 = 0 then (
    fN_next_b121 o0 v1 v2 h1)
  else
  mv_bh (wI2 h1 8 o0 9 ((rI2 h1 8 o0 9) + (nI 1))) fun h3 =>
  k70 o0 v1 v2 h3
def fN_next_b70 : Nat → Nat → Int32 → Int32 → H2 → O2
  | 0 => fun _ _ _ _ => none
  | n + 1 => fun o0 v1 v2 h =>
    if v1 = 0 then (
      fN_next_b89 (fN_next_b70 n) o0 v1 v2 h)
    else
    mv_rI (fN_isByte o0 (rI2 h 8 o0 9) (nI 97) (nI 122) h) fun r2 h1 =>
    if r2 = 0 then (
      fN_next_b89 (fN_next_b70 n) o0 v1 v2 h1)
    else
    mv_bh (wI2 h1 8 o0 9 ((rI2 h1 8 o0 9) + (nI 1))) fun h3 =>
    fN_next_b70 n o0 v1 v2 h3
def fN_next_b8 : Nat → Nat → H2 → O2
  | 0 => fun _ _ => none
  | n + 1 => fun o0 h =>
    mv_rI (fN_isByte o0 (rI2 h 8 o0 8) (nI 32) (nI 32) h) fun r2 h1 =>
    if r2 = 0 then (
      mv_bh (wI2 h1 8 o0 9 (rI2 h1 8 o0 8)) fun h3 =>
      mv_rI (fN_isByte o0 (rI2 h3 8 o0 8) (nI 97) (nI 122) h3) fun r5 h4 =>
      mv_bi r5 fun x6 =>
      mv_rI (fN_isByte o0 (rI2 h4 8 o0 8) (nI 48) (nI 57) h4) fun r8 h7 =>
      mv_bi r8 fun x9 =>
      fN_next_b70 1000 o0 x6 x9 h7)
    else
    mv_bh (wI2 h1 8 o0 8 ((rI2 h1 8 o0 8) + (nI 1))) fun h10 =>
    fN_next_b8 n o0 h10
def fN_next (o0 : Nat) (h : H2) : O2 :=
  mv_bh (wI2 h 8 o0 8 (rI2 h 8 o0 9)) fun h1 =>
  fN_next_b8 1000 o0 h1
def cN_next : List mv_V → H2 → (List mv_V → H2 → O2) → O2 := fun as h k => match as with
  | [.inr (t0, o0)] => mv_gd (Nat.beq t0 8) <| mv_rV (fN_next o0 h) fun h => k [] h
  | _ => none
def fN_isWord_b31 : Nat → Nat → Nat → Int32 → Int32 → H2 → O2
  | 0 => fun _ _ _ _ _ => none
  | n + 1 => fun o0 o1 v2 v3 h =>
    if v2 = 0 then (
      mv_gd (decide (v2 = nI 0) || decide (v2 = nI 1)) <| some ([Sum.inl (Value.int v2)], h))
    else
    mv_rI (fK0_length_8abf5 o1 h) fun r2 h1 =>
    if r2 ≤ v3 then (
      mv_gd (decide (v2 = nI 0) || decide (v2 = nI 1)) <| some ([Sum.inl (Value.int v2)], h1))
    else
    mv_gd (mv_inb ((rI2 h1 8 o0 8) + v3) 200) <|
    mv_rI (fK0_charAt_5068e o1 v3 h1) fun r4 h3 =>
    if (rI2 h1 906 o0 ((rI2 h1 8 o0 8) + v3).toNatClampNeg) = r4 then (
      mv_bi (nI 1) fun x5 =>
      mv_bi (v3 + (nI 1)) fun x6 =>
      fN_isWord_b31 n o0 o1 x5 x6 h3)
    else
    mv_bi (nI 0) fun x7 =>
    mv_bi (v3 + (nI 1)) fun x8 =>
    fN_isWord_b31 n o0 o1 x7 x8 h3
def fN_isWord (o0 : Nat) (o1 : Nat) (h : H2) : O2 :=
  if (rI2 h 8 o0 10) = 0 then (
    mv_rI (fK0_length_8abf5 o1 h) fun r2 h1 =>
    if ((rI2 h 8 o0 9) - (rI2 h 8 o0 8)) = r2 then (
      mv_bi (nI 1) fun x3 =>
      mv_bi (nI 0) fun x4 =>
      fN_isWord_b31 1000 o0 o1 x3 x4 h1)
    else
    mv_bi (nI 0) fun x5 =>
    mv_bi (nI 0) fun x6 =>
    fN_isWord_b31 1000 o0 o1 x5 x6 h1)
  else
  mv_bi (nI 0) fun x7 =>
  mv_bi (nI 0) fun x8 =>
  fN_isWord_b31 1000 o0 o1 x7 x8 h
def cN_isWord : List mv_V → H2 → (List mv_V → H2 → O2) → O2 := fun as h k => match as with
  | [.inr (t0, o0), .inr (t1, o1)] => mv_gd (Nat.beq t0 8) <| mv_gd (Nat.beq t1 11) <| mv_rI (fN_isWord o0 o1 h) fun x h => k [.inl (.int x)] h
  | _ => none
def fN_must (o0 : Nat) (v1 : Int32) (h : H2) : O2 :=
  if (rI2 h 8 o0 10) = 0 then (
    if v1 = 0 then (
      mv_gd (decide (nI 1 = nI 0) || decide (nI 1 = nI 1)) <|
      mv_bh (wI2 h 8 o0 10 (nI 1)) fun h1 =>
      if (rI2 h1 8 o0 10) = 0 then (
        mv_rV (fN_next o0 h1) fun h2 =>
        some ([], h2))
      else
      some ([], h1))
    else
    mv_gd (decide (nI 0 = nI 0) || decide (nI 0 = nI 1)) <|
    mv_bh (wI2 h 8 o0 10 (nI 0)) fun h3 =>
    if (rI2 h3 8 o0 10) = 0 then (
      mv_rV (fN_next o0 h3) fun h4 =>
      some ([], h4))
    else
    some ([], h3))
  else
  mv_gd (decide (nI 1 = nI 0) || decide (nI 1 = nI 1)) <|
  mv_bh (wI2 h 8 o0 10 (nI 1)) fun h5 =>
  if (rI2 h5 8 o0 10) = 0 then (
    mv_rV (fN_next o0 h5) fun h6 =>
    some ([], h6))
  else
  some ([], h5)
def cN_must : List mv_V → H2 → (List mv_V → H2 → O2) → O2 := fun as h k => match as with
  | [.inr (t0, o0), .inl (.int v1)] => mv_gd (Nat.beq t0 8) <| mv_rV (fN_must o0 v1 h) fun h => k [] h
  | _ => none
def fN_figures_b39 : Nat → Nat → Int32 → Int32 → H2 → O2
  | 0 => fun _ _ _ _ => none
  | n + 1 => fun o0 v1 v2 h =>
    if (rI2 h 8 o0 9) ≤ v2 then (
      some ([Sum.inl (Value.int v1)], h))
    else
    if v1 < 0 then (
      some ([Sum.inl (Value.int v1)], h))
    else
    mv_gd (mv_inb v2 200) <|
    mv_bi ((((nI 10) * v1) + (rI2 h 906 o0 v2.toNatClampNeg)) - (nI 48)) fun x1 =>
    mv_bi (v2 + (nI 1)) fun x2 =>
    fN_figures_b39 n o0 x1 x2 h
def fN_figures (o0 : Nat) (h : H2) : O2 :=
  mv_rI (fN_isByte o0 (rI2 h 8 o0 8) (nI 48) (nI 57) h) fun r2 h1 =>
  if r2 = 0 then (
    mv_bi (-(nI 1)) fun x3 =>
    mv_bi (rI2 h1 8 o0 8) fun x4 =>
    fN_figures_b39 1000 o0 x3 x4 h1)
  else
  if (nI 3) < ((rI2 h1 8 o0 9) - (rI2 h1 8 o0 8)) then (
    mv_bi (-(nI 1)) fun x5 =>
    mv_bi (rI2 h1 8 o0 8) fun x6 =>
    fN_figures_b39 1000 o0 x5 x6 h1)
  else
  mv_bi (nI 0) fun x7 =>
  mv_bi (rI2 h1 8 o0 8) fun x8 =>
  fN_figures_b39 1000 o0 x7 x8 h1
def cN_figures : List mv_V → H2 → (List mv_V → H2 → O2) → O2 := fun as h k => match as with
  | [.inr (t0, o0)] => mv_gd (Nat.beq t0 8) <| mv_rI (fN_figures o0 h) fun x h => k [.inl (.int x)] h
  | _ => none
def fN_number (o0 : Nat) (v1 : Int32) (v2 : Int32) (h : H2) : O2 :=
  mv_rI (fN_figures o0 h) fun r2 h1 =>
  mv_bi r2 fun x3 =>
  mv_rI (fN_in x3.toInt64 v1.toInt64 v2.toInt64 h1) fun r5 h4 =>
  mv_rV (fN_must o0 r5 h4) fun h6 =>
  some ([Sum.inl (Value.int x3)], h6)
def cN_number : List mv_V → H2 → (List mv_V → H2 → O2) → O2 := fun as h k => match as with
  | [.inr (t0, o0), .inl (.int v1), .inl (.int v2)] => mv_gd (Nat.beq t0 8) <| mv_rI (fN_number o0 v1 v2 h) fun x h => k [.inl (.int x)] h
  | _ => none
def fN_kindHere_b43 (o0 : Nat) (vs0 : Int32) (h : H2) : O2 :=
  mv_bi vs0 fun x1 =>
  if x1 < 0 then (
    mv_rI (fN_isWord o0 20 h) fun r3 h2 =>
    if r3 = 0 then (
      mv_rI (fN_isWord o0 21 h2) fun r5 h4 =>
      if r5 = 0 then (
        mv_rI (fN_isWord o0 22 h4) fun r7 h6 =>
        if r7 = 0 then (
          some ([Sum.inl (Value.int (-(nI 1)))], h6))
        else
        some ([Sum.inl (Value.int (nI 5))], h6))
      else
      some ([Sum.inl (Value.int (nI 4))], h4))
    else
    some ([Sum.inl (Value.int (nI 3))], h2))
  else
  some ([Sum.inl (Value.int x1)], h)
def fN_kindHere (o0 : Nat) (h : H2) : O2 :=
  mv_rI (fN_isWord o0 17 h) fun r2 h1 =>
  if r2 = 0 then (
    mv_rI (fN_isWord o0 18 h1) fun r4 h3 =>
    if r4 = 0 then (
      mv_rI (fN_isWord o0 19 h3) fun r6 h5 =>
      if r6 = 0 then (
        fN_kindHere_b43 o0 (-(nI 1)) h5)
      else
      fN_kindHere_b43 o0 (nI 2) h5)
    else
    fN_kindHere_b43 o0 (nI 1) h3)
  else
  fN_kindHere_b43 o0 (nI 0) h1
def cN_kindHere : List mv_V → H2 → (List mv_V → H2 → O2) → O2 := fun as h k => match as with
  | [.inr (t0, o0)] => mv_gd (Nat.beq t0 8) <| mv_rI (fN_kindHere o0 h) fun x h => k [.inl (.int x)] h
  | _ => none
def fN_takes (o0 : Nat) (o1 : Nat) (h : H2) : O2 :=
  mv_rI (fN_isWord o0 o1 h) fun r2 h1 =>
  mv_bi r2 fun x3 =>
  if x3 = 0 then (
    mv_gd (decide (x3 = nI 0) || decide (x3 = nI 1)) <| some ([Sum.inl (Value.int x3)], h1))
  else
  mv_rV (fN_must o0 (nI 1) h1) fun h4 =>
  mv_gd (decide (x3 = nI 0) || decide (x3 = nI 1)) <| some ([Sum.inl (Value.int x3)], h4)
def cN_takes : List mv_V → H2 → (List mv_V → H2 → O2) → O2 := fun as h k => match as with
  | [.inr (t0, o0), .inr (t1, o1)] => mv_gd (Nat.beq t0 8) <| mv_gd (Nat.beq t1 11) <| mv_rI (fN_takes o0 o1 h) fun x h => k [.inl (.int x)] h
  | _ => none
def fN_clothTold_b81 (o0 : Nat) (v1 : Int32) (v2 : Int32) (v3 : Int32) (vs0 : Int32) (h : H2) : O2 :=
  mv_bi vs0 fun x1 =>
  if (rI2 h 8 o0 10) = 0 then (
    mv_rV (fN_adds o0 v1 h) fun h2 =>
    mv_gd (mv_inb (nI 6) 69) <|
    mv_rV (fN_sets o0 ((rI2 h2 902 o0 (nI 6).toNatClampNeg) - (nI 1)) (nI 1) v2 h2) fun h3 =>
    mv_gd (mv_inb (nI 6) 69) <|
    mv_rV (fN_sets o0 ((rI2 h3 902 o0 (nI 6).toNatClampNeg) - (nI 1)) (nI 2) v3 h3) fun h4 =>
    mv_gd (mv_inb (nI 6) 69) <|
    mv_rV (fN_sets o0 ((rI2 h4 902 o0 (nI 6).toNatClampNeg) - (nI 1)) (nI 3) x1 h4) fun h5 =>
    some ([], h5))
  else
  some ([], h)
def fN_clothTold_b18 (o0 : Nat) (v1 : Int32) (os0 : Nat) (vs1 : Int32) (h : H2) : O2 :=
  mv_rV (fN_must os0 vs1 h) fun h1 =>
  mv_bi (-(nI 1)) fun x2 =>
  mv_bi (nI 0) fun x3 =>
  mv_rI (fN_takes o0 23 h1) fun r5 h4 =>
  if r5 = 0 then (
    mv_rI (fN_takes o0 25 h4) fun r7 h6 =>
    if r7 = 0 then (
      fN_clothTold_b81 o0 v1 x2 x3 (nI 0) h6)
    else
    fN_clothTold_b81 o0 v1 x2 x3 (nI 1) h6)
  else
  mv_rI (fN_number o0 (nI 0) (nI 9) h4) fun r9 h8 =>
  mv_bi r9 fun x10 =>
  mv_rI (fN_takes o0 24 h8) fun r12 h11 =>
  if r12 = 0 then (
    mv_bi (nI 20) fun x13 =>
    mv_rI (fN_takes o0 25 h11) fun r15 h14 =>
    if r15 = 0 then (
      fN_clothTold_b81 o0 v1 x10 x13 (nI 0) h14)
    else
    fN_clothTold_b81 o0 v1 x10 x13 (nI 1) h14)
  else
  mv_rI (fN_number o0 (nI 1) (nI 99) h11) fun r17 h16 =>
  mv_bi r17 fun x18 =>
  mv_rI (fN_takes o0 25 h16) fun r20 h19 =>
  if r20 = 0 then (
    fN_clothTold_b81 o0 v1 x10 x18 (nI 0) h19)
  else
  fN_clothTold_b81 o0 v1 x10 x18 (nI 1) h19
def fN_clothTold (o0 : Nat) (v1 : Int32) (h : H2) : O2 :=
  mv_gd (mv_inb (nI 6) 69) <|
  if (nI 8) ≤ (rI2 h 902 o0 (nI 6).toNatClampNeg) then (
    fN_clothTold_b18 o0 v1 o0 (nI 0) h)
  else
  fN_clothTold_b18 o0 v1 o0 (nI 1) h
def cN_clothTold : List mv_V → H2 → (List mv_V → H2 → O2) → O2 := fun as h k => match as with
  | [.inr (t0, o0), .inl (.int v1)] => mv_gd (Nat.beq t0 8) <| mv_rV (fN_clothTold o0 v1 h) fun h => k [] h
  | _ => none
def fN_twoTold_b29 (o0 : Nat) (v1 : Int32) (v4 : Int32) (v5 : Int32) (h : H2) : O2 :=
  mv_rI (fN_number o0 (nI 0) v4 h) fun r2 h1 =>
  mv_bi r2 fun x3 =>
  if (rI2 h1 8 o0 10) = 0 then (
    mv_gd (mv_inb (v1 + v5) 69) <|
    mv_bh (wI2 h1 902 o0 (v1 + v5).toNatClampNeg x3) fun h4 =>
    some ([], h4))
  else
  some ([], h1)
def fN_twoTold (o0 : Nat) (v1 : Int32) (v2 : Int32) (o3 : Nat) (v4 : Int32) (h : H2) : O2 :=
  mv_rV (fN_must o0 (nI 1) h) fun h1 =>
  mv_rI (fN_number o0 (nI 0) v2 h1) fun r3 h2 =>
  mv_bi r3 fun x4 =>
  mv_rI (fK0_length_8abf5 o3 h2) fun r6 h5 =>
  if r6 ≤ 0 then (
    fN_twoTold_b29 o0 v1 v4 x4 h5)
  else
  mv_rI (fN_isWord o0 o3 h5) fun r8 h7 =>
  mv_rV (fN_must o0 r8 h7) fun h9 =>
  fN_twoTold_b29 o0 v1 v4 x4 h9
def cN_twoTold : List mv_V → H2 → (List mv_V → H2 → O2) → O2 := fun as h k => match as with
  | [.inr (t0, o0), .inl (.int v1), .inl (.int v2), .inr (t3, o3), .inl (.int v4)] => mv_gd (Nat.beq t0 8) <| mv_gd (Nat.beq t3 11) <| mv_rV (fN_twoTold o0 v1 v2 o3 v4 h) fun h => k [] h
  | _ => none
def fN_lawTold (o0 : Nat) (v1 : Int32) (h : H2) : O2 :=
  mv_gd (mv_inb v1 4) <|
  mv_rI (fN_number o0 (nI 0) (rI2 h 900 o0 v1.toNatClampNeg) h) fun r2 h1 =>
  mv_bi r2 fun x3 =>
  if (rI2 h1 8 o0 10) = 0 then (
    mv_gd (mv_inb v1 69) <|
    mv_bh (wI2 h1 902 o0 v1.toNatClampNeg x3) fun h4 =>
    some ([], h4))
  else
  some ([], h1)
def cN_lawTold : List mv_V → H2 → (List mv_V → H2 → O2) → O2 := fun as h k => match as with
  | [.inr (t0, o0), .inl (.int v1)] => mv_gd (Nat.beq t0 8) <| mv_rV (fN_lawTold o0 v1 h) fun h => k [] h
  | _ => none
def fN_lawHere (o0 : Nat) (h : H2) : O2 :=
  mv_rI (fN_isWord o0 26 h) fun r2 h1 =>
  if r2 = 0 then (
    mv_rI (fN_isWord o0 27 h1) fun r4 h3 =>
    if r4 = 0 then (
      mv_rI (fN_isWord o0 28 h3) fun r6 h5 =>
      if r6 = 0 then (
        mv_rI (fN_isWord o0 29 h5) fun r8 h7 =>
        if r8 = 0 then (
          some ([Sum.inl (Value.int (-(nI 1)))], h7))
        else
        some ([Sum.inl (Value.int (nI 3))], h7))
      else
      some ([Sum.inl (Value.int (nI 2))], h5))
    else
    some ([Sum.inl (Value.int (nI 1))], h3))
  else
  some ([Sum.inl (Value.int (nI 0))], h1)
def cN_lawHere : List mv_V → H2 → (List mv_V → H2 → O2) → O2 := fun as h k => match as with
  | [.inr (t0, o0)] => mv_gd (Nat.beq t0 8) <| mv_rI (fN_lawHere o0 h) fun x h => k [.inl (.int x)] h
  | _ => none
def fN_item_b109 (o0 : Nat) (v2 : Int32) (os0 : Nat) (vs1 : Int32) (h : H2) : O2 :=
  mv_rV (fN_must os0 vs1 h) fun h1 =>
  mv_rV (fN_lawTold o0 (if (nI 0) < v2 then v2 else (nI 0)) h1) fun h2 =>
  mv_rI (fN_isWord o0 35 h2) fun r4 h3 =>
  mv_rV (fN_must o0 r4 h3) fun h5 =>
  some ([], h5)
def fN_item (o0 : Nat) (h : H2) : O2 :=
  mv_rI (fN_kindHere o0 h) fun r2 h1 =>
  mv_bi r2 fun x3 =>
  mv_rI (fN_lawHere o0 h1) fun r5 h4 =>
  mv_bi r5 fun x6 =>
  if x3 < 0 then (
    mv_rI (fN_isWord o0 30 h4) fun r8 h7 =>
    if r8 = 0 then (
      mv_rI (fN_isWord o0 32 h7) fun r10 h9 =>
      if r10 = 0 then (
        mv_rI (fN_isWord o0 34 h9) fun r12 h11 =>
        if r12 = 0 then (
          if x6 < 0 then (
            fN_item_b109 o0 x6 o0 (nI 0) h11)
          else
          fN_item_b109 o0 x6 o0 (nI 1) h11)
        else
        mv_rV (fN_twoTold o0 (nI 23) (nI 5) 30 (nI 7) h11) fun h13 =>
        mv_rI (fN_isWord o0 35 h13) fun r15 h14 =>
        mv_rV (fN_must o0 r15 h14) fun h16 =>
        some ([], h16))
      else
      mv_rV (fN_twoTold o0 (nI 15) (nI 7) 33 (nI 9) h9) fun h17 =>
      mv_rI (fN_isWord o0 35 h17) fun r19 h18 =>
      mv_rV (fN_must o0 r19 h18) fun h20 =>
      some ([], h20))
    else
    mv_rV (fN_twoTold o0 (nI 7) (nI 7) 31 (nI 9) h7) fun h21 =>
    mv_rI (fN_isWord o0 35 h21) fun r23 h22 =>
    mv_rV (fN_must o0 r23 h22) fun h24 =>
    some ([], h24))
  else
  mv_rV (fN_clothTold o0 x3 h4) fun h25 =>
  mv_rI (fN_isWord o0 35 h25) fun r27 h26 =>
  mv_rV (fN_must o0 r27 h26) fun h28 =>
  some ([], h28)
def cN_item : List mv_V → H2 → (List mv_V → H2 → O2) → O2 := fun as h k => match as with
  | [.inr (t0, o0)] => mv_gd (Nat.beq t0 8) <| mv_rV (fN_item o0 h) fun h => k [] h
  | _ => none
def fN_mill_b47 (o0 : Nat) (h : H2) : O2 :=
  mv_bh (wI2 h 8 o0 7 (nI 0)) fun h1 =>
  if (rI2 h1 8 o0 10) = 0 then (
    mv_bh (wI2 h1 8 o0 12 (nI 0)) fun h2 =>
    mv_gd (mv_inb (nI 6) 69) <|
    some ([Sum.inl (Value.int (rI2 h2 902 o0 (nI 6).toNatClampNeg))], h2))
  else
  mv_rV (fN_laysBack o0 h1) fun h3 =>
  some ([Sum.inl (Value.int ((-(nI 100)) - (rI2 h3 8 o0 8)))], h3)
def fN_mill_b22 : Nat → Nat → H2 → O2
  | 0 => fun _ _ => none
  | n + 1 => fun o0 h =>
    if (rI2 h 8 o0 10) = 0 then (
      if (rI2 h 8 o0 7) ≤ (rI2 h 8 o0 8) then (
        fN_mill_b47 o0 h)
      else
      mv_rV (fN_item o0 h) fun h1 =>
      fN_mill_b22 n o0 h1)
    else
    fN_mill_b47 o0 h
def fN_mill (o0 : Nat) (h : H2) : O2 :=
  mv_rV (fN_lends o0 h) fun h1 =>
  mv_rV (fN_anew o0 h1) fun h2 =>
  mv_gd (decide (nI 0 = nI 0) || decide (nI 0 = nI 1)) <|
  mv_bh (wI2 h2 8 o0 10 (nI 0)) fun h3 =>
  mv_bh (wI2 h3 8 o0 9 (nI 0)) fun h4 =>
  mv_rV (fN_next o0 h4) fun h5 =>
  fN_mill_b22 1000 o0 h5
def fN_prove_b28 : Nat → Nat → Int32 → Int32 → Int32 → H2 → O2
  | 0 => fun _ _ _ _ _ => none
  | n + 1 => fun o0 v1 v2 v3 h =>
    if v2 ≤ v3 then (
      mv_rV (fN_laysBack o0 h) fun h1 =>
      mv_bh (wI2 h1 8 o0 12 v2) fun h2 =>
      some ([Sum.inl (Value.int v2)], h2))
    else
    mv_rV (fN_goes o0 (nI 1) h) fun h3 =>
    mv_rI (fN_its o0 v1 (nI 1) h3) fun r5 h4 =>
    mv_gd (mv_inb ((nI 3) * v3) 30) <|
    mv_bh (wI2 h4 911 o0 ((nI 3) * v3).toNatClampNeg ((nI 1) + r5)) fun h6 =>
    mv_rI (fN_its o0 v1 (nI 2) h6) fun r8 h7 =>
    mv_gd (mv_inb (((nI 3) * v3) + (nI 1)) 30) <|
    mv_bh (wI2 h7 911 o0 (((nI 3) * v3) + (nI 1)).toNatClampNeg r8) fun h9 =>
    mv_rI (fN_depths o0 h9) fun r11 h10 =>
    mv_gd (mv_inb (((nI 3) * v3) + (nI 2)) 30) <|
    mv_bh (wI2 h10 911 o0 (((nI 3) * v3) + (nI 2)).toNatClampNeg r11) fun h12 =>
    mv_bi (v3 + (nI 1)) fun x13 =>
    fN_prove_b28 n o0 v1 v2 x13 h12
def fN_prove (o0 : Nat) (v1 : Int32) (v2 : Int32) (h : H2) : O2 :=
  mv_rI (fN_isCloth o0 v1 h) fun r2 h1 =>
  if r2 = 0 then (
    some ([Sum.inl (Value.int (-(nI 1)))], h1))
  else
  mv_rI (fN_in v2.toInt64 (lN 1) (lN 10) h1) fun r4 h3 =>
  if r4 = 0 then (
    some ([Sum.inl (Value.int (-(nI 1)))], h3))
  else
  mv_rV (fN_lends o0 h3) fun h5 =>
  mv_bi (nI 0) fun x6 =>
  fN_prove_b28 1000 o0 v1 v2 x6 h5
def fN_isCell (o0 : Nat) (v1 : Int32) (v2 : Int32) (h : H2) : O2 :=
  mv_rI (fN_in v1.toInt64 (lN 0) (((rI2 h 8 o0 12) - (nI 1)).toInt64) h) fun r2 h1 =>
  if r2 = 0 then (
    mv_gd (decide (nI 0 = nI 0) || decide (nI 0 = nI 1)) <| some ([Sum.inl (Value.int (nI 0))], h1))
  else
  mv_rI (fN_in v2.toInt64 (lN 0) (lN 2) h1) fun r4 h3 =>
  if r4 = 0 then (
    mv_gd (decide (nI 0 = nI 0) || decide (nI 0 = nI 1)) <| some ([Sum.inl (Value.int (nI 0))], h3))
  else
  mv_gd (decide (nI 1 = nI 0) || decide (nI 1 = nI 1)) <| some ([Sum.inl (Value.int (nI 1))], h3)
def cN_isCell : List mv_V → H2 → (List mv_V → H2 → O2) → O2 := fun as h k => match as with
  | [.inr (t0, o0), .inl (.int v1), .inl (.int v2)] => mv_gd (Nat.beq t0 8) <| mv_rI (fN_isCell o0 v1 v2 h) fun x h => k [.inl (.int x)] h
  | _ => none
def fN_row (o0 : Nat) (v1 : Int32) (v2 : Int32) (h : H2) : O2 :=
  mv_rI (fN_isCell o0 v1 v2 h) fun r2 h1 =>
  if r2 = 0 then (
    some ([Sum.inl (Value.int (-(nI 9)))], h1))
  else
  mv_gd (mv_inb (((nI 3) * v1) + v2) 30) <|
  some ([Sum.inl (Value.int (rI2 h1 911 o0 (((nI 3) * v1) + v2).toNatClampNeg))], h1)
def fN_alterRow (o0 : Nat) (v1 : Int32) (v2 : Int32) (v3 : Int32) (h : H2) : O2 :=
  mv_rI (fN_isCell o0 v1 v2 h) fun r2 h1 =>
  if r2 = 0 then (
    some ([Sum.inl (Value.int (-(nI 9)))], h1))
  else
  mv_gd (mv_inb (((nI 3) * v1) + v2) 30) <|
  mv_bi (rI2 h1 911 o0 (((nI 3) * v1) + v2).toNatClampNeg) fun x3 =>
  mv_gd (mv_inb (((nI 3) * v1) + v2) 30) <|
  mv_bh (wI2 h1 911 o0 (((nI 3) * v1) + v2).toNatClampNeg v3) fun h4 =>
  some ([Sum.inl (Value.int x3)], h4)
def fN_isRight (o0 : Nat) (v1 : Int32) (v2 : Int32) (h : H2) : O2 :=
  mv_rV (fN_goes o0 (nI 1) h) fun h1 =>
  mv_gd (mv_inb ((nI 3) * v2) 30) <|
  mv_rI (fN_its o0 v1 (nI 1) h1) fun r3 h2 =>
  if (rI2 h1 911 o0 ((nI 3) * v2).toNatClampNeg) = ((nI 1) + r3) then (
    mv_gd (mv_inb (((nI 3) * v2) + (nI 1)) 30) <|
    mv_rI (fN_its o0 v1 (nI 2) h2) fun r5 h4 =>
    if (rI2 h2 911 o0 (((nI 3) * v2) + (nI 1)).toNatClampNeg) = r5 then (
      mv_gd (mv_inb (((nI 3) * v2) + (nI 2)) 30) <|
      mv_rI (fN_depths o0 h4) fun r7 h6 =>
      if (rI2 h4 911 o0 (((nI 3) * v2) + (nI 2)).toNatClampNeg) = r7 then (
        mv_gd (decide (nI 1 = nI 0) || decide (nI 1 = nI 1)) <| some ([Sum.inl (Value.int (nI 1))], h6))
      else
      mv_gd (decide (nI 0 = nI 0) || decide (nI 0 = nI 1)) <| some ([Sum.inl (Value.int (nI 0))], h6))
    else
    mv_gd (decide (nI 0 = nI 0) || decide (nI 0 = nI 1)) <| some ([Sum.inl (Value.int (nI 0))], h4))
  else
  mv_gd (decide (nI 0 = nI 0) || decide (nI 0 = nI 1)) <| some ([Sum.inl (Value.int (nI 0))], h2)
def cN_isRight : List mv_V → H2 → (List mv_V → H2 → O2) → O2 := fun as h k => match as with
  | [.inr (t0, o0), .inl (.int v1), .inl (.int v2)] => mv_gd (Nat.beq t0 8) <| mv_rI (fN_isRight o0 v1 v2 h) fun x h => k [.inl (.int x)] h
  | _ => none
def fN_judge_b39 (o0 : Nat) (v2 : Int32) (h : H2) : O2 :=
  mv_rV (fN_laysBack o0 h) fun h1 =>
  if (rI2 h1 8 o0 12) ≤ v2 then (
    some ([Sum.inl (Value.int (nI 0))], h1))
  else
  some ([Sum.inl (Value.int (v2 + (nI 1)))], h1)
def fN_judge_b16 : Nat → Nat → Int32 → Int32 → H2 → O2
  | 0 => fun _ _ _ _ => none
  | n + 1 => fun o0 v1 v2 h =>
    if (rI2 h 8 o0 12) ≤ v2 then (
      fN_judge_b39 o0 v2 h)
    else
    mv_rI (fN_isRight o0 v1 v2 h) fun r2 h1 =>
    if r2 = 0 then (
      fN_judge_b39 o0 v2 h1)
    else
    mv_bi (v2 + (nI 1)) fun x3 =>
    fN_judge_b16 n o0 v1 x3 h1
def fN_judge (o0 : Nat) (v1 : Int32) (h : H2) : O2 :=
  mv_rI (fN_isCloth o0 v1 h) fun r2 h1 =>
  if r2 = 0 then (
    some ([Sum.inl (Value.int (-(nI 1)))], h1))
  else
  mv_rV (fN_lends o0 h1) fun h3 =>
  mv_bi (nI 0) fun x4 =>
  fN_judge_b16 1000 o0 v1 x4 h3
def fN_minds_b105 : Nat → Nat → Int32 → Int32 → Int32 → Int32 → Int32 → H2 → O2
  | 0 => fun _ _ _ _ _ _ _ => none
  | n + 1 => fun o0 v1 v2 v3 v4 v5 h =>
    if v4 ≤ v5 then (
      some ([Sum.inl (Value.int v4)], h))
    else
    mv_rI (fN_its o0 (v3 + v5) (nI 1) h) fun r2 h1 =>
    if r2 < 0 then (
      mv_bi (v5 + (nI 1)) fun x3 =>
      fN_minds_b105 n o0 v1 v2 v3 v4 x3 h1)
    else
    mv_gd (mv_inb ((((nI 40) * v1) + v2) + v5) 160) <|
    mv_rV (fN_isDeep o0 (v3 + v5) (rI2 h1 915 o0 ((((nI 40) * v1) + v2) + v5).toNatClampNeg) h1) fun h4 =>
    mv_bi (v5 + (nI 1)) fun x5 =>
    fN_minds_b105 n o0 v1 v2 v3 v4 x5 h4
def fN_minds (o0 : Nat) (v1 : Int32) (v2 : Int32) (v3 : Int32) (v4 : Int32) (h : H2) : O2 :=
  mv_rI (fN_isFour v1 h) fun r2 h1 =>
  if r2 = 0 then (
    some ([Sum.inl (Value.int (-(nI 1)))], h1))
  else
  mv_rI (fN_isCloth o0 v3 h1) fun r4 h3 =>
  if r4 = 0 then (
    some ([Sum.inl (Value.int (-(nI 1)))], h3))
  else
  mv_rI (fN_in v4.toInt64 (lN 0) (lN 8) h3) fun r6 h5 =>
  if r6 = 0 then (
    some ([Sum.inl (Value.int (-(nI 1)))], h5))
  else
  mv_gd (mv_inb (nI 6) 69) <|
  if (v3 + v4) ≤ (rI2 h5 902 o0 (nI 6).toNatClampNeg) then (
    mv_gd (mv_inb v1 4) <|
    if (rI2 h5 913 o0 v1.toNatClampNeg) = 0 then (
      mv_gd (mv_inb v1 4) <|
      mv_rI (fN_in v2.toInt64 (lN 0) ((rI2 h5 914 o0 v1.toNatClampNeg).toInt64) h5) fun r8 h7 =>
      if r8 = 0 then (
        some ([Sum.inl (Value.int (-(nI 12)))], h7))
      else
      mv_gd (mv_inb v1 4) <|
      if v4 ≤ ((rI2 h7 914 o0 v1.toNatClampNeg) - v2) then (
        mv_bi (nI 0) fun x9 =>
        fN_minds_b105 1000 o0 v1 v2 v3 v4 x9 h7)
      else
      some ([Sum.inl (Value.int (-(nI 12)))], h7))
    else
    mv_gd (mv_inb v1 4) <|
    if 0 ≤ (rI2 h5 913 o0 v1.toNatClampNeg) then (
      some ([Sum.inl (Value.int (-(nI 13)))], h5))
    else
    some ([Sum.inl (Value.int (-(nI 11)))], h5))
  else
  some ([Sum.inl (Value.int (-(nI 1)))], h5)
def fN_sheet_b69 : Nat → Nat → Int32 → Int32 → H2 → O2
  | 0 => fun _ _ _ _ => none
  | n + 1 => fun o0 v1 v4 h =>
    if (nI 40) ≤ v4 then (
      some ([Sum.inl (Value.int (nI 1))], h))
    else
    mv_gd (mv_inb (((nI 40) * v1) + v4) 160) <|
    mv_bh (wI2 h 915 o0 (((nI 40) * v1) + v4).toNatClampNeg (nI 0)) fun h1 =>
    mv_bi (v4 + (nI 1)) fun x2 =>
    fN_sheet_b69 n o0 v1 x2 h1
def fN_sheet_b44 (o0 : Nat) (v1 : Int32) (v2 : Int32) (v3 : Int32) (h : H2) : O2 :=
  mv_gd (mv_inb v1 4) <|
  mv_bh (wI2 h 913 o0 v1.toNatClampNeg v2) fun h1 =>
  if 0 ≤ v2 then (
    mv_gd (mv_inb v1 4) <|
    mv_bh (wI2 h1 914 o0 v1.toNatClampNeg v3) fun h2 =>
    mv_bi (nI 0) fun x3 =>
    fN_sheet_b69 1000 o0 v1 x3 h2)
  else
  mv_gd (mv_inb v1 4) <|
  mv_bh (wI2 h1 914 o0 v1.toNatClampNeg (nI 0)) fun h4 =>
  mv_bi (nI 0) fun x5 =>
  fN_sheet_b69 1000 o0 v1 x5 h4
def fN_sheet (o0 : Nat) (v1 : Int32) (v2 : Int32) (v3 : Int32) (h : H2) : O2 :=
  mv_rI (fN_isFour v1 h) fun r2 h1 =>
  if r2 = 0 then (
    some ([Sum.inl (Value.int (-(nI 1)))], h1))
  else
  mv_rI (fN_in v2.toInt64 (-(lN 1)) (lN 3) h1) fun r4 h3 =>
  if r4 = 0 then (
    some ([Sum.inl (Value.int (-(nI 1)))], h3))
  else
  if v2 < 0 then (
    if v2 < 0 then (
      fN_sheet_b44 o0 v1 v2 v3 h3)
    else
    if 0 ≤ v3 then (
      fN_sheet_b44 o0 v1 v2 v3 h3)
    else
    some ([Sum.inl (Value.int (-(nI 14)))], h3))
  else
  if v3 ≤ (nI 40) then (
    if v2 < 0 then (
      fN_sheet_b44 o0 v1 v2 v3 h3)
    else
    if 0 ≤ v3 then (
      fN_sheet_b44 o0 v1 v2 v3 h3)
    else
    some ([Sum.inl (Value.int (-(nI 14)))], h3))
  else
  some ([Sum.inl (Value.int (-(nI 1)))], h3)
def fN_narrowed (v0 : Int32) (v1 : Int32) (h : H2) : O2 :=
  if v0 = 0 then (
    some ([Sum.inl (Value.int v1.toInt8.toInt32)], h))
  else
  if v0 = (nI 1) then (
    some ([Sum.inl (Value.int v1.toInt16.toInt32)], h))
  else
  some ([Sum.inl (Value.int v1)], h)
def cN_narrowed : List mv_V → H2 → (List mv_V → H2 → O2) → O2 := fun as h k => match as with
  | [.inl (.int v0), .inl (.int v1)] => mv_rI (fN_narrowed v0 v1 h) fun x h => k [.inl (.int x)] h
  | _ => none
def fN_put (o0 : Nat) (v1 : Int32) (v2 : Int32) (v3 : Int32) (h : H2) : O2 :=
  mv_rI (fN_isFour v1 h) fun r2 h1 =>
  if r2 = 0 then (
    some ([Sum.inl (Value.int (-(nI 1)))], h1))
  else
  mv_gd (mv_inb v1 4) <|
  if 0 ≤ (rI2 h1 913 o0 v1.toNatClampNeg) then (
    mv_gd (mv_inb v1 4) <|
    mv_rI (fN_in v2.toInt64 (lN 0) (((rI2 h1 914 o0 v1.toNatClampNeg) - (nI 1)).toInt64) h1) fun r4 h3 =>
    if r4 = 0 then (
      some ([Sum.inl (Value.int (-(nI 12)))], h3))
    else
    mv_gd (mv_inb v1 4) <|
    mv_rI (fN_narrowed (rI2 h3 913 o0 v1.toNatClampNeg) v3 h3) fun r6 h5 =>
    mv_gd (mv_inb (((nI 40) * v1) + v2) 160) <|
    mv_bh (wI2 h5 915 o0 (((nI 40) * v1) + v2).toNatClampNeg r6) fun h7 =>
    some ([Sum.inl (Value.int (nI 1))], h7))
  else
  some ([Sum.inl (Value.int (-(nI 11)))], h1)
def fN_item_ (o0 : Nat) (v1 : Int32) (v2 : Int32) (v3 : Int32) (h : H2) : O2 :=
  mv_rI (fN_isFour v1 h) fun r2 h1 =>
  if r2 = 0 then (
    some ([Sum.inl (Value.int (-(nI 1)))], h1))
  else
  mv_rI (fN_in v2.toInt64 (lN 0) (lN 3) h1) fun r4 h3 =>
  if r4 = 0 then (
    some ([Sum.inl (Value.int (-(nI 1)))], h3))
  else
  mv_gd (mv_inb v1 4) <|
  if 0 ≤ (rI2 h3 913 o0 v1.toNatClampNeg) then (
    mv_gd (mv_inb v1 4) <|
    if (rI2 h3 913 o0 v1.toNatClampNeg) = v2 then (
      mv_gd (mv_inb v1 4) <|
      mv_rI (fN_in v3.toInt64 (lN 0) (((rI2 h3 914 o0 v1.toNatClampNeg) - (nI 1)).toInt64) h3) fun r6 h5 =>
      if r6 = 0 then (
        some ([Sum.inl (Value.int (-(nI 12)))], h5))
      else
      mv_gd (mv_inb (((nI 40) * v1) + v3) 160) <|
      some ([Sum.inl (Value.int (rI2 h5 915 o0 (((nI 40) * v1) + v3).toNatClampNeg))], h5))
    else
    some ([Sum.inl (Value.int (-(nI 13)))], h3))
  else
  some ([Sum.inl (Value.int (-(nI 11)))], h3)
def fN_shelf_b107 (o0 : Nat) (v1 : Int32) (v3 : Int32) (v5 : Int32) (os0 : Nat) (vs1 : Int32) (vs2 : Int32) (h : H2) : O2 :=
  mv_gd (mv_inb vs1 4) <|
  mv_bh (wI2 h 917 os0 vs1.toNatClampNeg vs2) fun h1 =>
  if v5 = 0 then (
    mv_gd (mv_inb v1 4) <|
    mv_bh (wI2 h1 918 o0 v1.toNatClampNeg (nI 0)) fun h2 =>
    some ([Sum.inl (Value.int (nI 1))], h2))
  else
  mv_gd (mv_inb v3 4) <|
  mv_gd (mv_inb v1 4) <|
  mv_bh (wI2 h1 918 o0 v1.toNatClampNeg (rI2 h1 914 o0 v3.toNatClampNeg)) fun h3 =>
  some ([Sum.inl (Value.int (nI 1))], h3)
def fN_shelf_b60 (o0 : Nat) (v1 : Int32) (v2 : Int32) (v3 : Int32) (vs0 : Int32) (h : H2) : O2 :=
  mv_bi vs0 fun x1 =>
  if x1 = 0 then (
    mv_gd (mv_inb v1 4) <|
    mv_bh (wI2 h 916 o0 v1.toNatClampNeg v2) fun h2 =>
    if x1 = 0 then (
      fN_shelf_b107 o0 v1 v3 x1 o0 v1 v3 h2)
    else
    mv_gd (mv_inb v3 4) <|
    fN_shelf_b107 o0 v1 v3 x1 o0 v1 (rI2 h2 913 o0 v3.toNatClampNeg) h2)
  else
  mv_gd (mv_inb v3 4) <|
  if 0 ≤ (rI2 h 913 o0 v3.toNatClampNeg) then (
    mv_gd (mv_inb v1 4) <|
    mv_bh (wI2 h 916 o0 v1.toNatClampNeg v2) fun h3 =>
    if x1 = 0 then (
      fN_shelf_b107 o0 v1 v3 x1 o0 v1 v3 h3)
    else
    mv_gd (mv_inb v3 4) <|
    fN_shelf_b107 o0 v1 v3 x1 o0 v1 (rI2 h3 913 o0 v3.toNatClampNeg) h3)
  else
  mv_gd (mv_inb v1 4) <|
  mv_bh (wI2 h 916 o0 v1.toNatClampNeg (nI 2)) fun h4 =>
  if x1 = 0 then (
    fN_shelf_b107 o0 v1 v3 x1 o0 v1 v3 h4)
  else
  mv_gd (mv_inb v3 4) <|
  fN_shelf_b107 o0 v1 v3 x1 o0 v1 (rI2 h4 913 o0 v3.toNatClampNeg) h4
def fN_shelf_b34 (o0 : Nat) (v1 : Int32) (v2 : Int32) (v3 : Int32) (vs0 : Int32) (h : H2) : O2 :=
  mv_bi vs0 fun x1 =>
  mv_rI (fN_isFour v1 h) fun r3 h2 =>
  if r3 = 0 then (
    some ([Sum.inl (Value.int (-(nI 1)))], h2))
  else
  if x1 = 0 then (
    some ([Sum.inl (Value.int (-(nI 1)))], h2))
  else
  if v2 = (nI 1) then (
    fN_shelf_b60 o0 v1 v2 v3 (nI 1) h2)
  else
  fN_shelf_b60 o0 v1 v2 v3 (nI 0) h2
def fN_shelf (o0 : Nat) (v1 : Int32) (v2 : Int32) (v3 : Int32) (h : H2) : O2 :=
  if v2 = 0 then (
    mv_rI (fN_isCloth o0 v3 h) fun r2 h1 =>
    fN_shelf_b34 o0 v1 v2 v3 r2 h1)
  else
  if v2 = (nI 1) then (
    mv_rI (fN_isFour v3 h) fun r4 h3 =>
    fN_shelf_b34 o0 v1 v2 v3 r4 h3)
  else
  if v2 = (nI 2) then (
    fN_shelf_b34 o0 v1 v2 v3 (nI 1) h)
  else
  fN_shelf_b34 o0 v1 v2 v3 (nI 0) h
def fN_isHeld (o0 : Nat) (v1 : Int32) (h : H2) : O2 :=
  mv_gd (mv_inb v1 4) <|
  if (rI2 h 916 o0 v1.toNatClampNeg) = 0 then (
    mv_gd (mv_inb v1 4) <|
    mv_rI (fN_isCloth o0 (rI2 h 917 o0 v1.toNatClampNeg) h) fun r2 h1 =>
    if r2 = 0 then (
      mv_gd (decide (nI 0 = nI 0) || decide (nI 0 = nI 1)) <| some ([Sum.inl (Value.int (nI 0))], h1))
    else
    mv_gd (decide (nI 1 = nI 0) || decide (nI 1 = nI 1)) <| some ([Sum.inl (Value.int (nI 1))], h1))
  else
  mv_gd (decide (nI 0 = nI 0) || decide (nI 0 = nI 1)) <| some ([Sum.inl (Value.int (nI 0))], h)
def cN_isHeld : List mv_V → H2 → (List mv_V → H2 → O2) → O2 := fun as h k => match as with
  | [.inr (t0, o0), .inl (.int v1)] => mv_gd (Nat.beq t0 8) <| mv_rI (fN_isHeld o0 v1 h) fun x h => k [.inl (.int x)] h
  | _ => none
def fN_taken_b30 (o0 : Nat) (v1 : Int32) (v2 : Int32) (h : H2) : O2 :=
  mv_gd (mv_inb v1 4) <|
  if (rI2 h 916 o0 v1.toNatClampNeg) = (nI 1) then (
    mv_gd (mv_inb v1 4) <|
    if (v2 - (nI 10)) = (rI2 h 917 o0 v1.toNatClampNeg) then (
      mv_gd (mv_inb v1 4) <|
      some ([Sum.inl (Value.int (rI2 h 918 o0 v1.toNatClampNeg))], h))
    else
    some ([Sum.inl (Value.int (-(nI 13)))], h))
  else
  mv_rI (fN_isHeld o0 v1 h) fun r2 h1 =>
  if r2 = 0 then (
    some ([Sum.inl (Value.int (-(nI 11)))], h1))
  else
  if (nI 10) ≤ v2 then (
    some ([Sum.inl (Value.int (-(nI 13)))], h1))
  else
  mv_gd (mv_inb v1 4) <|
  mv_rI (fN_its o0 (rI2 h1 917 o0 v1.toNatClampNeg) (nI 0) h1) fun r4 h3 =>
  mv_rI (fN_isUnder r4 v2 h3) fun r6 h5 =>
  if r6 = 0 then (
    some ([Sum.inl (Value.int (-(nI 13)))], h5))
  else
  mv_gd (mv_inb v1 4) <|
  some ([Sum.inl (Value.int (rI2 h5 917 o0 v1.toNatClampNeg))], h5)
def fN_taken (o0 : Nat) (v1 : Int32) (v2 : Int32) (h : H2) : O2 :=
  mv_rI (fN_isFour v1 h) fun r2 h1 =>
  if r2 = 0 then (
    some ([Sum.inl (Value.int (-(nI 1)))], h1))
  else
  mv_rI (fN_isKind v2 h1) fun r4 h3 =>
  if r4 = 0 then (
    mv_rI (fN_in v2.toInt64 (lN 10) (lN 13) h3) fun r6 h5 =>
    if r6 = 0 then (
      some ([Sum.inl (Value.int (-(nI 1)))], h5))
    else
    fN_taken_b30 o0 v1 v2 h5)
  else
  fN_taken_b30 o0 v1 v2 h3
def fN_runs (o0 : Nat) (v1 : Int32) (h : H2) : O2 :=
  if (nI 30) ≤ (rI2 h 8 o0 20) then (
    some ([], h))
  else
  mv_gd (mv_inb (rI2 h 8 o0 20) 30) <|
  mv_bh (wI2 h 919 o0 (rI2 h 8 o0 20).toNatClampNeg v1) fun h1 =>
  mv_bh (wI2 h1 8 o0 20 ((rI2 h1 8 o0 20) + (nI 1))) fun h2 =>
  some ([], h2)
def cN_runs : List mv_V → H2 → (List mv_V → H2 → O2) → O2 := fun as h k => match as with
  | [.inr (t0, o0), .inl (.int v1)] => mv_gd (Nat.beq t0 8) <| mv_rV (fN_runs o0 v1 h) fun h => k [] h
  | _ => none
def fN_plainRubs (o0 : Nat) (v1 : Int32) (h : H2) : O2 :=
  mv_rV (fN_runs o0 (nI 10) h) fun h1 =>
  some ([Sum.inl (Value.int ((v1 * (nI 5)) + (rI2 h1 8 o0 22)))], h1)
def cN_plainRubs : List mv_V → H2 → (List mv_V → H2 → O2) → O2 := fun as h k => match as with
  | [.inr (t0, o0), .inl (.int v1)] => mv_gd (Nat.beq t0 8) <| mv_rI (fN_plainRubs o0 v1 h) fun x h => k [.inl (.int x)] h
  | _ => none
def fN_linenRubs (o0 : Nat) (v1 : Int32) (h : H2) : O2 :=
  mv_rV (fN_runs o0 (nI 30) h) fun h1 =>
  mv_rI (fN_plainRubs o0 v1 h1) fun r3 h2 =>
  some ([Sum.inl (Value.int (r3 * (nI 2)))], h2)
def cN_linenRubs : List mv_V → H2 → (List mv_V → H2 → O2) → O2 := fun as h k => match as with
  | [.inr (t0, o0), .inl (.int v1)] => mv_gd (Nat.beq t0 8) <| mv_rI (fN_linenRubs o0 v1 h) fun x h => k [.inl (.int x)] h
  | _ => none
def fN_rubs (o0 : Nat) (v1 : Int32) (h : H2) : O2 :=
  if (rI2 h 8 o0 21) = nI 2 then (
    mv_rI (fN_linenRubs o0 v1 h) fun r2 h1 =>
    some ([Sum.inl (Value.int r2)], h1))
  else
  if (rI2 h 8 o0 21) = nI 3 then (
    mv_rV (fN_runs o0 (nI 51) h) fun h3 =>
    mv_rI (fN_plainRubs o0 v1 h3) fun r5 h4 =>
    some ([Sum.inl (Value.int (r5 - (nI 2)))], h4))
  else
  if (rI2 h 8 o0 21) = nI 4 then (
    mv_rV (fN_runs o0 (nI 40) h) fun h6 =>
    mv_rI (fN_linenRubs o0 v1 h6) fun r8 h7 =>
    some ([Sum.inl (Value.int ((nI 0) - r8))], h7))
  else
  mv_rI (fN_plainRubs o0 v1 h) fun r10 h9 =>
  some ([Sum.inl (Value.int r10)], h9)
def cN_rubs : List mv_V → H2 → (List mv_V → H2 → O2) → O2 := fun as h k => match as with
  | [.inr (t0, o0), .inl (.int v1)] => mv_gd (Nat.beq t0 8) <| mv_rI (fN_rubs o0 v1 h) fun x h => k [.inl (.int x)] h
  | _ => none
def fN_plainSteeps (o0 : Nat) (v1 : Int32) (h : H2) : O2 :=
  mv_rV (fN_runs o0 (nI 11) h) fun h1 =>
  mv_rI (fN_rubs o0 v1 h1) fun r3 h2 =>
  some ([Sum.inl (Value.int (r3 + ((rI2 h2 8 o0 23) * (nI 9))))], h2)
def cN_plainSteeps : List mv_V → H2 → (List mv_V → H2 → O2) → O2 := fun as h k => match as with
  | [.inr (t0, o0), .inl (.int v1)] => mv_gd (Nat.beq t0 8) <| mv_rI (fN_plainSteeps o0 v1 h) fun x h => k [.inl (.int x)] h
  | _ => none
def fN_steepsAct_b16 (o0 : Nat) (v1 : Int32) (h : H2) : O2 :=
  mv_rV (fN_runs o0 (nI 20) h) fun h1 =>
  mv_rI (fN_plainSteeps o0 v1 h1) fun r3 h2 =>
  some ([Sum.inl (Value.int (r3 - (nI 6)))], h2)
def fN_steepsAct (o0 : Nat) (v1 : Int32) (h : H2) : O2 :=
  if (rI2 h 8 o0 21) = (nI 1) then (
    fN_steepsAct_b16 o0 v1 h)
  else
  if (rI2 h 8 o0 21) = (nI 3) then (
    fN_steepsAct_b16 o0 v1 h)
  else
  if (rI2 h 8 o0 21) = (nI 4) then (
    mv_rV (fN_runs o0 (nI 41) h) fun h1 =>
    mv_rI (fN_plainSteeps o0 v1 h1) fun r3 h2 =>
    mv_bi r3 fun x4 =>
    mv_rI (fN_rubs o0 (rI2 h2 8 o0 23) h2) fun r6 h5 =>
    some ([Sum.inl (Value.int (x4 ^^^ r6))], h5))
  else
  mv_rI (fN_plainSteeps o0 v1 h) fun r8 h7 =>
  some ([Sum.inl (Value.int r8)], h7)
def cN_steepsAct : List mv_V → H2 → (List mv_V → H2 → O2) → O2 := fun as h k => match as with
  | [.inr (t0, o0), .inl (.int v1)] => mv_gd (Nat.beq t0 8) <| mv_rI (fN_steepsAct o0 v1 h) fun x h => k [.inl (.int x)] h
  | _ => none
def fN_plainParts_b30 (o0 : Nat) (v1 : Int32) (os0 : Nat) (vs1 : Int32) (h : H2) : O2 :=
  mv_gd (decide (vs1 = nI 0) || decide (vs1 = nI 1)) <|
  mv_bh (wI2 h 8 os0 24 vs1) fun h1 =>
  if (rI2 h1 8 o0 23) = (rI2 h1 8 o0 22) then (
    some ([Sum.inl (Value.int (nI 0))], h1))
  else
  if ((rI2 h1 8 o0 23) - (rI2 h1 8 o0 22)) = (-(nI 1)) then (
    some ([Sum.inl (Value.int (-v1))], h1))
  else
  mv_gd (!decide (((rI2 h1 8 o0 23) - (rI2 h1 8 o0 22)) = 0)) <|
  some ([Sum.inl (Value.int (v1 / ((rI2 h1 8 o0 23) - (rI2 h1 8 o0 22))))], h1)
def fN_plainParts (o0 : Nat) (v1 : Int32) (h : H2) : O2 :=
  mv_rV (fN_runs o0 (nI 12) h) fun h1 =>
  if (rI2 h1 8 o0 24) = 0 then (
    if (rI2 h1 8 o0 23) = (rI2 h1 8 o0 22) then (
      fN_plainParts_b30 o0 v1 o0 (nI 1) h1)
    else
    fN_plainParts_b30 o0 v1 o0 (nI 0) h1)
  else
  fN_plainParts_b30 o0 v1 o0 (nI 1) h1
def cN_plainParts : List mv_V → H2 → (List mv_V → H2 → O2) → O2 := fun as h k => match as with
  | [.inr (t0, o0), .inl (.int v1)] => mv_gd (Nat.beq t0 8) <| mv_rI (fN_plainParts o0 v1 h) fun x h => k [.inl (.int x)] h
  | _ => none
def fN_parts (o0 : Nat) (v1 : Int32) (h : H2) : O2 :=
  if (rI2 h 8 o0 21) = (nI 3) then (
    mv_rV (fN_runs o0 (nI 50) h) fun h1 =>
    mv_rI (fN_plainParts o0 (v1 + (nI 3)) h1) fun r3 h2 =>
    some ([Sum.inl (Value.int (r3 + (rI2 h2 8 o0 23)))], h2))
  else
  if (rI2 h 8 o0 21) = (nI 5) then (
    mv_rV (fN_runs o0 (nI 61) h) fun h4 =>
    mv_rI (fN_plainParts o0 v1 h4) fun r6 h5 =>
    mv_bi r6 fun x7 =>
    if (rI2 h5 8 o0 24) = 0 then (
      mv_rI (fN_rubs o0 (rI2 h5 8 o0 22) h5) fun r9 h8 =>
      some ([Sum.inl (Value.int (x7 - r9))], h8))
    else
    some ([Sum.inl (Value.int (nI 0))], h5))
  else
  mv_rI (fN_plainParts o0 v1 h) fun r11 h10 =>
  some ([Sum.inl (Value.int r11)], h10)
def cN_parts : List mv_V → H2 → (List mv_V → H2 → O2) → O2 := fun as h k => match as with
  | [.inr (t0, o0), .inl (.int v1)] => mv_gd (Nat.beq t0 8) <| mv_rI (fN_parts o0 v1 h) fun x h => k [.inl (.int x)] h
  | _ => none
def fN_plainDries (o0 : Nat) (v1 : Int32) (h : H2) : O2 :=
  mv_rV (fN_runs o0 (nI 13) h) fun h1 =>
  mv_rI (fN_steepsAct o0 v1 h1) fun r3 h2 =>
  some ([Sum.inl (Value.int (r3 ^^^ (nI 240)))], h2)
def cN_plainDries : List mv_V → H2 → (List mv_V → H2 → O2) → O2 := fun as h k => match as with
  | [.inr (t0, o0), .inl (.int v1)] => mv_gd (Nat.beq t0 8) <| mv_rI (fN_plainDries o0 v1 h) fun x h => k [.inl (.int x)] h
  | _ => none
def fN_driesAct_b16 (o0 : Nat) (v1 : Int32) (h : H2) : O2 :=
  mv_rV (fN_runs o0 (nI 31) h) fun h1 =>
  mv_rI (fN_plainDries o0 v1 h1) fun r3 h2 =>
  mv_bi r3 fun x4 =>
  mv_rI (fN_parts o0 (rI2 h2 8 o0 22) h2) fun r6 h5 =>
  some ([Sum.inl (Value.int (x4 + r6))], h5)
def fN_driesAct (o0 : Nat) (v1 : Int32) (h : H2) : O2 :=
  if (rI2 h 8 o0 21) = (nI 2) then (
    fN_driesAct_b16 o0 v1 h)
  else
  if (rI2 h 8 o0 21) = (nI 4) then (
    fN_driesAct_b16 o0 v1 h)
  else
  if (rI2 h 8 o0 21) = (nI 5) then (
    mv_rV (fN_runs o0 (nI 60) h) fun h1 =>
    mv_rI (fN_plainDries o0 v1 h1) fun r3 h2 =>
    some ([Sum.inl (Value.int (r3 * (nI 3)))], h2))
  else
  mv_rI (fN_plainDries o0 v1 h) fun r5 h4 =>
  some ([Sum.inl (Value.int r5)], h4)
def cN_driesAct : List mv_V → H2 → (List mv_V → H2 → O2) → O2 := fun as h k => match as with
  | [.inr (t0, o0), .inl (.int v1)] => mv_gd (Nat.beq t0 8) <| mv_rI (fN_driesAct o0 v1 h) fun x h => k [.inl (.int x)] h
  | _ => none
def fN_act (o0 : Nat) (v1 : Int32) (v2 : Int32) (v3 : Int32) (h : H2) : O2 :=
  mv_bh (wI2 h 8 o0 20 (nI 0)) fun h1 =>
  mv_rI (fN_isFour v1 h1) fun r3 h2 =>
  if r3 = 0 then (
    some ([Sum.inl (Value.int (nI 0))], h2))
  else
  mv_rI (fN_isFour v2 h2) fun r5 h4 =>
  if r5 = 0 then (
    some ([Sum.inl (Value.int (nI 0))], h4))
  else
  mv_rI (fN_isHeld o0 v1 h4) fun r7 h6 =>
  if r7 = 0 then (
    some ([Sum.inl (Value.int (nI 0))], h6))
  else
  mv_gd (mv_inb v1 4) <|
  mv_bh (wI2 h6 8 o0 22 (rI2 h6 917 o0 v1.toNatClampNeg)) fun h8 =>
  mv_rI (fN_its o0 (rI2 h8 8 o0 22) (nI 0) h8) fun r10 h9 =>
  mv_bh (wI2 h9 8 o0 21 r10) fun h11 =>
  mv_rI (fN_its o0 (rI2 h11 8 o0 22) (nI 1) h11) fun r13 h12 =>
  mv_bh (wI2 h12 8 o0 23 ((nI 1) + r13)) fun h14 =>
  mv_gd (decide (nI 0 = nI 0) || decide (nI 0 = nI 1)) <|
  mv_bh (wI2 h14 8 o0 24 (nI 0)) fun h15 =>
  if v2 = 0 then (
    mv_rI (fN_rubs o0 v3 h15) fun r17 h16 =>
    mv_bi r17 fun x18 =>
    if (rI2 h16 8 o0 24) = 0 then (
      some ([Sum.inl (Value.int x18)], h16))
    else
    some ([Sum.inl (Value.int (-(nI 15)))], h16))
  else
  if v2 = (nI 1) then (
    mv_rI (fN_steepsAct o0 v3 h15) fun r20 h19 =>
    mv_bi r20 fun x21 =>
    if (rI2 h19 8 o0 24) = 0 then (
      some ([Sum.inl (Value.int x21)], h19))
    else
    some ([Sum.inl (Value.int (-(nI 15)))], h19))
  else
  if v2 = (nI 2) then (
    mv_rI (fN_parts o0 v3 h15) fun r23 h22 =>
    mv_bi r23 fun x24 =>
    if (rI2 h22 8 o0 24) = 0 then (
      some ([Sum.inl (Value.int x24)], h22))
    else
    some ([Sum.inl (Value.int (-(nI 15)))], h22))
  else
  mv_rI (fN_driesAct o0 v3 h15) fun r26 h25 =>
  mv_bi r26 fun x27 =>
  if (rI2 h25 8 o0 24) = 0 then (
    some ([Sum.inl (Value.int x27)], h25))
  else
  some ([Sum.inl (Value.int (-(nI 15)))], h25)
def fN_trace (o0 : Nat) (v1 : Int32) (h : H2) : O2 :=
  mv_rI (fN_in v1.toInt64 (lN 0) (((rI2 h 8 o0 20) - (nI 1)).toInt64) h) fun r2 h1 =>
  if r2 = 0 then (
    some ([Sum.inl (Value.int (-(nI 3)))], h1))
  else
  mv_gd (mv_inb v1 30) <|
  some ([Sum.inl (Value.int (rI2 h1 919 o0 v1.toNatClampNeg))], h1)
def fN_purposesAbout_b15 (k4 : Nat → Int32 → Int32 → H2 → O2) : Nat → Nat → Int32 → Int32 → Int32 → Int32 → H2 → O2
  | 0 => fun _ _ _ _ _ _ => none
  | n + 1 => fun o0 v1 v2 v3 v4 h =>
    mv_gd (mv_inb (nI 6) 69) <|
    if (rI2 h 902 o0 (nI 6).toNatClampNeg) ≤ v4 then (
      if v3 = 0 then (
        mv_bi (v1 + (nI 0)) fun x1 =>
        mv_bi (v2 + (nI 1)) fun x2 =>
        k4 o0 x1 x2 h)
      else
      mv_bi (v1 + (nI 1)) fun x3 =>
      mv_bi (v2 + (nI 1)) fun x4 =>
      k4 o0 x3 x4 h)
    else
    if v3 = 0 then (
      mv_rI (fN_its o0 v4 (nI 1) h) fun r6 h5 =>
      if r6 = v2 then (
        mv_bi (nI 1) fun x7 =>
        mv_bi (v4 + (nI 1)) fun x8 =>
        fN_purposesAbout_b15 k4 n o0 v1 v2 x7 x8 h5)
      else
      mv_bi (nI 0) fun x9 =>
      mv_bi (v4 + (nI 1)) fun x10 =>
      fN_purposesAbout_b15 k4 n o0 v1 v2 x9 x10 h5)
    else
    mv_bi (nI 1) fun x11 =>
    mv_bi (v4 + (nI 1)) fun x12 =>
    fN_purposesAbout_b15 k4 n o0 v1 v2 x11 x12 h
def fN_purposesAbout_b4 : Nat → Nat → Int32 → Int32 → H2 → O2
  | 0 => fun _ _ _ _ => none
  | n + 1 => fun o0 v1 v2 h =>
    if (nI 10) ≤ v2 then (
      some ([Sum.inl (Value.int v1)], h))
    else
    mv_bi (nI 0) fun x1 =>
    mv_bi (nI 0) fun x2 =>
    fN_purposesAbout_b15 (fN_purposesAbout_b4 n) 1000 o0 v1 v2 x1 x2 h
def fN_purposesAbout (o0 : Nat) (h : H2) : O2 :=
  mv_bi (nI 0) fun x1 =>
  mv_bi (nI 0) fun x2 =>
  fN_purposesAbout_b4 1000 o0 x1 x2 h
def cN_purposesAbout : List mv_V → H2 → (List mv_V → H2 → O2) → O2 := fun as h k => match as with
  | [.inr (t0, o0)] => mv_gd (Nat.beq t0 8) <| mv_rI (fN_purposesAbout o0 h) fun x h => k [.inl (.int x)] h
  | _ => none
def fN_many (o0 : Nat) (v1 : Int32) (h : H2) : O2 :=
  if v1 = nI 0 then (
    mv_gd (mv_inb (nI 6) 69) <|
    some ([Sum.inl (Value.int (rI2 h 902 o0 (nI 6).toNatClampNeg))], h))
  else
  if v1 = nI 1 then (
    mv_rI (fN_hungSet o0 h) fun r2 h1 =>
    mv_rI (fN_ones r2 h1) fun r4 h3 =>
    some ([Sum.inl (Value.int r4)], h3))
  else
  if v1 = nI 2 then (
    mv_rI (fN_aboutSet o0 h) fun r6 h5 =>
    mv_rI (fN_ones r6 h5) fun r8 h7 =>
    some ([Sum.inl (Value.int r8)], h7))
  else
  if v1 = nI 3 then (
    mv_rI (fN_purposesAbout o0 h) fun r10 h9 =>
    some ([Sum.inl (Value.int r10)], h9))
  else
  if v1 = nI 4 then (
    some ([Sum.inl (Value.int (rI2 h 8 o0 12))], h))
  else
  if v1 = nI 5 then (
    some ([Sum.inl (Value.int (rI2 h 8 o0 7))], h))
  else
  if v1 = nI 6 then (
    some ([Sum.inl (Value.int (rI2 h 8 o0 20))], h))
  else
  some ([Sum.inl (Value.int (-(nI 1)))], h)
def fN_keep (o0 : Nat) (h : H2) : O2 :=
  mv_rV (fN_become_902_903 o0 o0 h) fun h1 =>
  mv_gd (decide (nI 1 = nI 0) || decide (nI 1 = nI 1)) <|
  mv_bh (wI2 h1 8 o0 5 (nI 1)) fun h2 =>
  some ([Sum.inl (Value.int (nI 1))], h2)
def fN_again (o0 : Nat) (h : H2) : O2 :=
  if (rI2 h 8 o0 5) = 0 then (
    some ([Sum.inl (Value.int (-(nI 3)))], h))
  else
  mv_rV (fN_become_903_902 o0 o0 h) fun h1 =>
  mv_gd (mv_inb (nI 6) 69) <|
  some ([Sum.inl (Value.int (rI2 h1 902 o0 (nI 6).toNatClampNeg))], h1)
end
section
abbrev mdA_forget : mv_MD := (yX0_forget, cX0_forget, 1, none)
abbrev mdA_hold : mv_MD := (yX0_hold, cX0_hold, 4, none)
abbrev mdA_note : mv_MD := (yX0_note, cX0_note, 2, none)
abbrev mdA_parted : mv_MD := (yX0_parted, cX0_parted, 3, (some .int))
abbrev mdA_own : mv_MD := (yX0_own, cX0_own, 4, (some .int))
abbrev mdA_body : mv_MD := (yX0_body, cX0_body, 4, (some .int))
abbrev mdA_perform : mv_MD := (yX0_perform, cX0_perform, 4, (some .int))
abbrev mdC_choices : mv_MD := (yX1_choices, cX1_choices, 5, (some .long))
abbrev mdC_commonDivisor : mv_MD := (yX1_commonDivisor, cX1_commonDivisor, 11, (some .long))
abbrev mdC_partOf : mv_MD := (yX1_partOf, cX1_partOf, 7, (some .long))
abbrev mdC_justSlip : mv_MD := (yX1_justSlip, cX1_justSlip, 9, (some .long))
abbrev mdM_copyFrom : mv_MD := (yX3_copyFrom, cX3_copyFrom, 2, none)
abbrev mdM_vatOfToday : mv_MD := (yX3_vatOfToday, cX3_vatOfToday, 1, (some .int))
abbrev mdM_takes : mv_MD := (yX3_takes, cX3_takes, 4, (some .int))
abbrev mdM_fights : mv_MD := (yX3_fights, cX3_fights, 4, (some .int))
abbrev mdM_settle : mv_MD := (yX3_settle, cX3_settle, 3, none)
abbrev mdM_dipInto : mv_MD := (yX3_dipInto, cX3_dipInto, 5, none)
abbrev mdM_fades : mv_MD := (yX3_fades, cX3_fades, 3, (some .int))
abbrev mdM_deepen : mv_MD := (yX3_deepen, cX3_deepen, 3, none)
abbrev mdM_passDay : mv_MD := (yX3_passDay, cX3_passDay, 3, none)
abbrev mdM_passDays : mv_MD := (yX3_passDays, cX3_passDays, 3, none)
abbrev mdF_behind : mv_MD := (yX2_behind, cX2_behind, 3, (some (.object "IntentVats$Mill")))
abbrev mdM_allDepths : mv_MD := (yX3_allDepths, cX3_allDepths, 3, (some .int))
abbrev mdM_draw : mv_MD := (yX3_draw, cX3_draw, 1, (some .int))
abbrev mdM_passDrawnDay : mv_MD := (yX3_passDrawnDay, cX3_passDrawnDay, 2, none)
abbrev mdF_luckyDays : mv_MD := (yX2_luckyDays, cX2_luckyDays, 7, (some .int))
abbrev mdF_daysUntilAbout : mv_MD := (yX2_daysUntilAbout, cX2_daysUntilAbout, 5, (some .int))
abbrev mdF_spoiltFromHere : mv_MD := (yX2_spoiltFromHere, cX2_spoiltFromHere, 5, (some .int))
abbrev mdF_spoiltBehind : mv_MD := (yX2_spoiltBehind, cX2_spoiltBehind, 3, (some .int))
abbrev mdF_leadsTo : mv_MD := (yX2_leadsTo, cX2_leadsTo, 7, (some .boolean))
abbrev mdF_vatsThrough : mv_MD := (yX2_vatsThrough, cX2_vatsThrough, 7, (some .int))
abbrev mdF_deepestVat : mv_MD := (yX2_deepestVat, cX2_deepestVat, 8, (some .int))
abbrev mdF_deepestKind : mv_MD := (yX2_deepestKind, cX2_deepestKind, 7, (some .int))
abbrev mdF_leastStrength : mv_MD := (yX2_leastStrength, cX2_leastStrength, 7, (some .int))
abbrev mdJ_bitCount_0f7a4 : mv_MD := (yJ6_bitCount_0f7a4, cJ6_bitCount_0f7a4, 1, (some .int))
abbrev mdF_hangJust : mv_MD := (yX2_hangJust, cX2_hangJust, 4, none)
abbrev mdF_fewestHung : mv_MD := (yX2_fewestHung, cX2_fewestHung, 7, (some .int))
abbrev mdS_size : mv_MD := (yX5_size, cX5_size, 1, (some .int))
abbrev mdS_read : mv_MD := (yX5_read, cX5_read, 2, (some .int))
abbrev mdF_fitsAs : mv_MD := (yX2_fitsAs, cX2_fitsAs, 8, (some .boolean))
abbrev mdF_manyFitting : mv_MD := (yX2_manyFitting, cX2_manyFitting, 6, (some .int))
abbrev mdF_leastFitting : mv_MD := (yX2_leastFitting, cX2_leastFitting, 5, (some .int))
abbrev mdF_rowPart : mv_MD := (yX2_rowPart, cX2_rowPart, 3, (some .int))
abbrev mdR_write : mv_MD := (yX4_write, cX4_write, 4, none)
abbrev mdF_writeRows : mv_MD := (yX2_writeRows, cX2_writeRows, 7, none)
abbrev mdR_read : mv_MD := (yX4_read, cX4_read, 3, (some .int))
abbrev mdF_firstWrongRow : mv_MD := (yX2_firstWrongRow, cX2_firstWrongRow, 6, (some .int))
abbrev mdM_becomeFirst : mv_MD := (yX3_becomeFirst, cX3_becomeFirst, 2, none)
abbrev mdV_isIn : mv_MD := (yX8_isIn, cX8_isIn, 3, (some .boolean))
abbrev mdM_has : mv_MD := (yX3_has, cX3_has, 2, (some .boolean))
abbrev mdM_addCloth : mv_MD := (yX3_addCloth, cX3_addCloth, 3, (some .int))
abbrev mdM_hungSet : mv_MD := (yX3_hungSet, cX3_hungSet, 3, (some .int))
abbrev mdM_aboutSet : mv_MD := (yX3_aboutSet, cX3_aboutSet, 3, (some .int))
abbrev mdM_purposeSet : mv_MD := (yX3_purposeSet, cX3_purposeSet, 3, (some .int))
abbrev mdM_isForOdds : mv_MD := (yX3_isForOdds, cX3_isForOdds, 2, (some .boolean))
abbrev mdM_oddPairs : mv_MD := (yX3_oddPairs, cX3_oddPairs, 4, (some .int))
abbrev mdR_has : mv_MD := (yX4_has, cX4_has, 3, (some .boolean))
abbrev mdS_init : mv_MD := (yX5_init, cX5_init, 3, none)
abbrev mdS_has : mv_MD := (yX5_has, cX5_has, 2, (some .boolean))
abbrev mdS_write : mv_MD := (yX5_write, cX5_write, 3, none)
abbrev mdH_holdCloth : mv_MD := (yX6_holdCloth, cX6_holdCloth, 3, none)
abbrev mdH_holdRow : mv_MD := (yX6_holdRow, cX6_holdRow, 3, none)
abbrev mdH_clothOn : mv_MD := (yX6_clothOn, cX6_clothOn, 2, (some .int))
abbrev mdH_rowOn : mv_MD := (yX6_rowOn, cX6_rowOn, 2, (some (.object "IntentVats$SheetRow")))
abbrev mdT_room : mv_MD := (yX7_room, cX7_room, 1, (some .int))
abbrev mdT_take : mv_MD := (yX7_take, cX7_take, 5, none)
abbrev mdT_useUp : mv_MD := (yX7_useUp, cX7_useUp, 1, none)
abbrev mdT_readDigits : mv_MD := (yX7_readDigits, cX7_readDigits, 1, none)
abbrev mdT_readWord : mv_MD := (yX7_readWord, cX7_readWord, 1, none)
abbrev mdK0_coder_7d493 : mv_MD := (yJ0_coder_7d493, cJ0_coder_7d493, 1, (some .byte))
abbrev mdK0_length_8abf5 : mv_MD := (yJ0_length_8abf5, cJ0_length_8abf5, 1, (some .int))
abbrev mdK0_isLatin1_aae02 : mv_MD := (yJ0_isLatin1_aae02, cJ0_isLatin1_aae02, 1, (some .boolean))
abbrev mdK3_checkIndex_8e157 : mv_MD := (yJ3_checkIndex_8e157, cJ3_checkIndex_8e157, 3, (some .int))
abbrev mdK0_checkIndex_df160 : mv_MD := (yJ0_checkIndex_df160, cJ0_checkIndex_df160, 2, none)
abbrev mdK1_charAt_3b067 : mv_MD := (yJ1_charAt_3b067, cJ1_charAt_3b067, 2, (some .char))
abbrev mdK0_charAt_5068e : mv_MD := (yJ0_charAt_5068e, cJ0_charAt_5068e, 2, (some .char))
abbrev mdT_isName : mv_MD := (yX7_isName, cX7_isName, 3, (some .boolean))
abbrev mdT_kindNamed : mv_MD := (yX7_kindNamed, cX7_kindNamed, 1, (some .int))
abbrev mdT_readNumber : mv_MD := (yX7_readNumber, cX7_readNumber, 3, (some .boolean))
abbrev mdT_isStop : mv_MD := (yX7_isStop, cX7_isStop, 1, (some .boolean))
abbrev mdT_readCloth : mv_MD := (yX7_readCloth, cX7_readCloth, 4, (some .boolean))
abbrev mdT_readName : mv_MD := (yX7_readName, cX7_readName, 2, (some .boolean))
abbrev mdT_readStop : mv_MD := (yX7_readStop, cX7_readStop, 1, (some .boolean))
abbrev mdT_readVat : mv_MD := (yX7_readVat, cX7_readVat, 3, (some .boolean))
abbrev mdT_readStrong : mv_MD := (yX7_readStrong, cX7_readStrong, 3, (some .boolean))
abbrev mdT_readDay : mv_MD := (yX7_readDay, cX7_readDay, 3, (some .boolean))
abbrev mdT_lawNamed : mv_MD := (yX7_lawNamed, cX7_lawNamed, 1, (some .int))
abbrev mdV_mostOfLaw : mv_MD := (yX8_mostOfLaw, cX8_mostOfLaw, 1, (some .int))
abbrev mdT_readLaw : mv_MD := (yX7_readLaw, cX7_readLaw, 3, (some .boolean))
abbrev mdT_readStatement : mv_MD := (yX7_readStatement, cX7_readStatement, 4, (some .boolean))
abbrev mdT_readInto : mv_MD := (yX7_readInto, cX7_readInto, 3, (some .int))
abbrev mdV_feed : mv_MD := (yX8_feed, cX8_feed, 4, (some .int))
abbrev mdV_mill : mv_MD := (yX8_mill, cX8_mill, 2, (some .int))
abbrev mdV_set : mv_MD := (yX8_set, cX8_set, 4, (some .int))
abbrev mdV_lawOf : mv_MD := (yX8_lawOf, cX8_lawOf, 2, (some .int))
abbrev mdV_isVat : mv_MD := (yX8_isVat, cX8_isVat, 1, (some .boolean))
abbrev mdV_fill : mv_MD := (yX8_fill, cX8_fill, 6, (some .int))
abbrev mdV_vatOf : mv_MD := (yX8_vatOf, cX8_vatOf, 3, (some .int))
abbrev mdV_isRest : mv_MD := (yX8_isRest, cX8_isRest, 1, (some .boolean))
abbrev mdV_roster : mv_MD := (yX8_roster, cX8_roster, 4, (some .int))
abbrev mdV_rosterOf : mv_MD := (yX8_rosterOf, cX8_rosterOf, 2, (some .int))
abbrev mdV_isKind : mv_MD := (yX8_isKind, cX8_isKind, 1, (some .boolean))
abbrev mdV_cloth : mv_MD := (yX8_cloth, cX8_cloth, 2, (some .int))
abbrev mdV_of : mv_MD := (yX8_of, cX8_of, 3, (some .int))
abbrev mdV_does : mv_MD := (yX8_does, cX8_does, 4, (some .int))
abbrev mdV_mind : mv_MD := (yX8_mind, cX8_mind, 4, (some .int))
abbrev mdV_isPurpose : mv_MD := (yX8_isPurpose, cX8_isPurpose, 1, (some .boolean))
abbrev mdV_steep : mv_MD := (yX8_steep, cX8_steep, 6, (some .int))
abbrev mdV_hang : mv_MD := (yX8_hang, cX8_hang, 4, (some .int))
abbrev mdV_dip : mv_MD := (yX8_dip, cX8_dip, 3, (some .int))
abbrev mdV_days : mv_MD := (yX8_days, cX8_days, 2, (some .int))
abbrev mdV_seed : mv_MD := (yX8_seed, cX8_seed, 3, (some .int))
abbrev mdV_day : mv_MD := (yX8_day, cX8_day, 1, (some .int))
abbrev mdV_luck : mv_MD := (yX8_luck, cX8_luck, 2, (some .int))
abbrev mdV_state : mv_MD := (yX8_state, cX8_state, 2, (some .int))
abbrev mdV_isDays : mv_MD := (yX8_isDays, cX8_isDays, 1, (some .boolean))
abbrev mdV_gone : mv_MD := (yX8_gone, cX8_gone, 3, (some .int))
abbrev mdV_depth : mv_MD := (yX8_depth, cX8_depth, 3, (some .int))
abbrev mdV_comes : mv_MD := (yX8_comes, cX8_comes, 3, (some .int))
abbrev mdV_bare : mv_MD := (yX8_bare, cX8_bare, 2, (some .int))
abbrev mdV_spoilt : mv_MD := (yX8_spoilt, cX8_spoilt, 2, (some .int))
abbrev mdV_through : mv_MD := (yX8_through, cX8_through, 3, (some .int))
abbrev mdV_vatFor : mv_MD := (yX8_vatFor, cX8_vatFor, 3, (some .int))
abbrev mdV_kindFor : mv_MD := (yX8_kindFor, cX8_kindFor, 3, (some .int))
abbrev mdV_strengthFor : mv_MD := (yX8_strengthFor, cX8_strengthFor, 5, (some .int))
abbrev mdV_hangFor : mv_MD := (yX8_hangFor, cX8_hangFor, 3, (some .int))
abbrev mdV_isSheet : mv_MD := (yX8_isSheet, cX8_isSheet, 1, (some .boolean))
abbrev mdV_fits : mv_MD := (yX8_fits, cX8_fits, 5, (some .int))
abbrev mdV_odds : mv_MD := (yX8_odds, cX8_odds, 4, (some .long))
abbrev mdV_hope : mv_MD := (yX8_hope, cX8_hope, 3, (some .long))
abbrev mdV_prove : mv_MD := (yX8_prove, cX8_prove, 3, (some .int))
abbrev mdV_row : mv_MD := (yX8_row, cX8_row, 3, (some .int))
abbrev mdV_alterRow : mv_MD := (yX8_alterRow, cX8_alterRow, 5, (some .int))
abbrev mdV_judge : mv_MD := (yX8_judge, cX8_judge, 2, (some .int))
abbrev mdV_minds : mv_MD := (yX8_minds, cX8_minds, 7, (some .int))
abbrev mdV_sheet : mv_MD := (yX8_sheet, cX8_sheet, 4, (some .int))
abbrev mdV_put : mv_MD := (yX8_put, cX8_put, 5, (some .int))
abbrev mdV_item : mv_MD := (yX8_item, cX8_item, 5, (some .int))
abbrev mdV_isShelf : mv_MD := (yX8_isShelf, cX8_isShelf, 1, (some .boolean))
abbrev mdV_shelf : mv_MD := (yX8_shelf, cX8_shelf, 4, (some .int))
abbrev mdV_parentKind : mv_MD := (yX8_parentKind, cX8_parentKind, 1, (some .int))
abbrev mdV_isUnder : mv_MD := (yX8_isUnder, cX8_isUnder, 4, (some .boolean))
abbrev mdV_taken : mv_MD := (yX8_taken, cX8_taken, 5, (some .int))
abbrev mdV_act : mv_MD := (yX8_act, cX8_act, 5, (some .int))
abbrev mdV_trace : mv_MD := (yX8_trace, cX8_trace, 2, (some .int))
abbrev mdV_many : mv_MD := (yX8_many, cX8_many, 2, (some .int))
abbrev mdV_keep : mv_MD := (yX8_keep, cX8_keep, 1, (some .int))
abbrev mdV_again : mv_MD := (yX8_again, cX8_again, 1, (some .int))
abbrev mdN_anew : mv_MD := (yX9_anew, cX9_anew, 3, none)
abbrev mdN_in : mv_MD := (yX9_in, cX9_in, 6, (some .boolean))
abbrev mdN_become : mv_MD := (yX9_become, cX9_become, 3, none)
abbrev mdN_lends : mv_MD := (yX9_lends, cX9_lends, 1, none)
abbrev mdN_laysBack : mv_MD := (yX9_laysBack, cX9_laysBack, 1, none)
abbrev mdN_isCloth : mv_MD := (yX9_isCloth, cX9_isCloth, 2, (some .boolean))
abbrev mdN_isVat : mv_MD := (yX9_isVat, cX9_isVat, 1, (some .boolean))
abbrev mdN_isPurpose : mv_MD := (yX9_isPurpose, cX9_isPurpose, 1, (some .boolean))
abbrev mdN_isRest : mv_MD := (yX9_isRest, cX9_isRest, 1, (some .boolean))
abbrev mdN_its : mv_MD := (yX9_its, cX9_its, 3, (some .int))
abbrev mdN_sets : mv_MD := (yX9_sets, cX9_sets, 4, none)
abbrev mdN_becomes : mv_MD := (yX9_becomes, cX9_becomes, 4, (some .int))
abbrev mdN_set : mv_MD := (yX9_set, cX9_set, 3, (some .int))
abbrev mdN_lawOf : mv_MD := (yX9_lawOf, cX9_lawOf, 2, (some .int))
abbrev mdN_fill : mv_MD := (yX9_fill, cX9_fill, 4, (some .int))
abbrev mdN_vatOf : mv_MD := (yX9_vatOf, cX9_vatOf, 3, (some .int))
abbrev mdN_roster : mv_MD := (yX9_roster, cX9_roster, 3, (some .int))
abbrev mdN_rosterOf : mv_MD := (yX9_rosterOf, cX9_rosterOf, 2, (some .int))
abbrev mdN_isKind : mv_MD := (yX9_isKind, cX9_isKind, 1, (some .boolean))
abbrev mdN_isUnder : mv_MD := (yX9_isUnder, cX9_isUnder, 2, (some .boolean))
abbrev mdN_takesOf : mv_MD := (yX9_takesOf, cX9_takesOf, 4, (some .int))
abbrev mdN_fightsOf : mv_MD := (yX9_fightsOf, cX9_fightsOf, 3, (some .int))
abbrev mdN_fadesOf : mv_MD := (yX9_fadesOf, cX9_fadesOf, 3, (some .int))
abbrev mdN_adds : mv_MD := (yX9_adds, cX9_adds, 3, none)
abbrev mdN_cloth : mv_MD := (yX9_cloth, cX9_cloth, 2, (some .int))
abbrev mdN_of : mv_MD := (yX9_of, cX9_of, 3, (some .int))
abbrev mdN_does : mv_MD := (yX9_does, cX9_does, 5, (some .int))
abbrev mdN_changed : mv_MD := (yX9_changed, cX9_changed, 4, (some .int))
abbrev mdN_mind : mv_MD := (yX9_mind, cX9_mind, 3, (some .int))
abbrev mdN_isDeep : mv_MD := (yX9_isDeep, cX9_isDeep, 3, none)
abbrev mdN_steep : mv_MD := (yX9_steep, cX9_steep, 5, (some .int))
abbrev mdN_hang : mv_MD := (yX9_hang, cX9_hang, 3, (some .int))
abbrev mdN_dips : mv_MD := (yX9_dips, cX9_dips, 7, none)
abbrev mdN_dip : mv_MD := (yX9_dip, cX9_dip, 3, (some .int))
abbrev mdN_aDay : mv_MD := (yX9_aDay, cX9_aDay, 3, none)
abbrev mdN_goes : mv_MD := (yX9_goes, cX9_goes, 3, none)
abbrev mdN_depths : mv_MD := (yX9_depths, cX9_depths, 3, (some .int))
abbrev mdN_days : mv_MD := (yX9_days, cX9_days, 2, (some .int))
abbrev mdN_seed : mv_MD := (yX9_seed, cX9_seed, 2, (some .int))
abbrev mdN_draw : mv_MD := (yX9_draw, cX9_draw, 1, (some .int))
abbrev mdN_byDraws : mv_MD := (yX9_byDraws, cX9_byDraws, 2, none)
abbrev mdN_day : mv_MD := (yX9_day, cX9_day, 1, (some .int))
abbrev mdN_luck : mv_MD := (yX9_luck, cX9_luck, 6, (some .int))
abbrev mdN_hungSet : mv_MD := (yX9_hungSet, cX9_hungSet, 3, (some .int))
abbrev mdN_aboutSet : mv_MD := (yX9_aboutSet, cX9_aboutSet, 3, (some .int))
abbrev mdN_isAtOdds : mv_MD := (yX9_isAtOdds, cX9_isAtOdds, 4, (some .boolean))
abbrev mdN_oddsAmong : mv_MD := (yX9_oddsAmong, cX9_oddsAmong, 4, (some .int))
abbrev mdN_state : mv_MD := (yX9_state, cX9_state, 2, (some .int))
abbrev mdN_isAhead : mv_MD := (yX9_isAhead, cX9_isAhead, 1, (some .boolean))
abbrev mdN_isSoon : mv_MD := (yX9_isSoon, cX9_isSoon, 1, (some .boolean))
abbrev mdN_behind : mv_MD := (yX9_behind, cX9_behind, 5, (some .int))
abbrev mdN_gone : mv_MD := (yX9_gone, cX9_gone, 3, (some .int))
abbrev mdN_depth : mv_MD := (yX9_depth, cX9_depth, 3, (some .int))
abbrev mdN_firstAbout : mv_MD := (yX9_firstAbout, cX9_firstAbout, 4, (some .int))
abbrev mdN_comes : mv_MD := (yX9_comes, cX9_comes, 3, (some .int))
abbrev mdN_bare : mv_MD := (yX9_bare, cX9_bare, 2, (some .int))
abbrev mdN_spoiltIn : mv_MD := (yX9_spoiltIn, cX9_spoiltIn, 4, (some .int))
abbrev mdN_spoilt : mv_MD := (yX9_spoilt, cX9_spoilt, 2, (some .int))
abbrev mdN_isThrough : mv_MD := (yX9_isThrough, cX9_isThrough, 6, (some .boolean))
abbrev mdN_through : mv_MD := (yX9_through, cX9_through, 5, (some .int))
abbrev mdN_vatFor : mv_MD := (yX9_vatFor, cX9_vatFor, 7, (some .int))
abbrev mdN_kindFor : mv_MD := (yX9_kindFor, cX9_kindFor, 7, (some .int))
abbrev mdN_strengthFor : mv_MD := (yX9_strengthFor, cX9_strengthFor, 7, (some .int))
abbrev mdN_ones : mv_MD := (yX9_ones, cX9_ones, 3, (some .int))
abbrev mdN_hangs : mv_MD := (yX9_hangs, cX9_hangs, 3, none)
abbrev mdN_hangFor : mv_MD := (yX9_hangFor, cX9_hangFor, 5, (some .int))
abbrev mdN_isSo : mv_MD := (yX9_isSo, cX9_isSo, 7, (some .boolean))
abbrev mdN_isFour : mv_MD := (yX9_isFour, cX9_isFour, 1, (some .boolean))
abbrev mdN_fits : mv_MD := (yX9_fits, cX9_fits, 9, (some .int))
abbrev mdN_lowest : mv_MD := (yX9_lowest, cX9_lowest, 11, (some .long))
abbrev mdN_odds : mv_MD := (yX9_odds, cX9_odds, 11, (some .long))
abbrev mdN_hope : mv_MD := (yX9_hope, cX9_hope, 3, (some .long))
abbrev mdN_feed : mv_MD := (yX9_feed, cX9_feed, 5, (some .int))
abbrev mdN_isByte : mv_MD := (yX9_isByte, cX9_isByte, 4, (some .boolean))
abbrev mdN_next : mv_MD := (yX9_next, cX9_next, 3, none)
abbrev mdN_isWord : mv_MD := (yX9_isWord, cX9_isWord, 4, (some .boolean))
abbrev mdN_must : mv_MD := (yX9_must, cX9_must, 2, none)
abbrev mdN_figures : mv_MD := (yX9_figures, cX9_figures, 3, (some .int))
abbrev mdN_number : mv_MD := (yX9_number, cX9_number, 4, (some .int))
abbrev mdN_kindHere : mv_MD := (yX9_kindHere, cX9_kindHere, 2, (some .int))
abbrev mdN_takes : mv_MD := (yX9_takes, cX9_takes, 3, (some .boolean))
abbrev mdN_clothTold : mv_MD := (yX9_clothTold, cX9_clothTold, 5, none)
abbrev mdN_twoTold : mv_MD := (yX9_twoTold, cX9_twoTold, 7, none)
abbrev mdN_lawTold : mv_MD := (yX9_lawTold, cX9_lawTold, 3, none)
abbrev mdN_lawHere : mv_MD := (yX9_lawHere, cX9_lawHere, 1, (some .int))
abbrev mdN_item : mv_MD := (yX9_item, cX9_item, 3, none)
abbrev mdN_mill : mv_MD := (yX9_mill, cX9_mill, 1, (some .int))
abbrev mdN_prove : mv_MD := (yX9_prove, cX9_prove, 4, (some .int))
abbrev mdN_isCell : mv_MD := (yX9_isCell, cX9_isCell, 3, (some .boolean))
abbrev mdN_row : mv_MD := (yX9_row, cX9_row, 3, (some .int))
abbrev mdN_alterRow : mv_MD := (yX9_alterRow, cX9_alterRow, 5, (some .int))
abbrev mdN_isRight : mv_MD := (yX9_isRight, cX9_isRight, 3, (some .boolean))
abbrev mdN_judge : mv_MD := (yX9_judge, cX9_judge, 3, (some .int))
abbrev mdN_minds : mv_MD := (yX9_minds, cX9_minds, 6, (some .int))
abbrev mdN_sheet : mv_MD := (yX9_sheet, cX9_sheet, 5, (some .int))
abbrev mdN_narrowed : mv_MD := (yX9_narrowed, cX9_narrowed, 2, (some .int))
abbrev mdN_put : mv_MD := (yX9_put, cX9_put, 4, (some .int))
abbrev mdN_item_ : mv_MD := (yX9_item_, cX9_item_, 4, (some .int))
abbrev mdN_shelf : mv_MD := (yX9_shelf, cX9_shelf, 6, (some .int))
abbrev mdN_isHeld : mv_MD := (yX9_isHeld, cX9_isHeld, 2, (some .boolean))
abbrev mdN_taken : mv_MD := (yX9_taken, cX9_taken, 3, (some .int))
abbrev mdN_runs : mv_MD := (yX9_runs, cX9_runs, 2, none)
abbrev mdN_plainRubs : mv_MD := (yX9_plainRubs, cX9_plainRubs, 2, (some .int))
abbrev mdN_linenRubs : mv_MD := (yX9_linenRubs, cX9_linenRubs, 2, (some .int))
abbrev mdN_rubs : mv_MD := (yX9_rubs, cX9_rubs, 2, (some .int))
abbrev mdN_plainSteeps : mv_MD := (yX9_plainSteeps, cX9_plainSteeps, 2, (some .int))
abbrev mdN_steepsAct : mv_MD := (yX9_steepsAct, cX9_steepsAct, 3, (some .int))
abbrev mdN_plainParts : mv_MD := (yX9_plainParts, cX9_plainParts, 2, (some .int))
abbrev mdN_parts : mv_MD := (yX9_parts, cX9_parts, 3, (some .int))
abbrev mdN_plainDries : mv_MD := (yX9_plainDries, cX9_plainDries, 2, (some .int))
abbrev mdN_driesAct : mv_MD := (yX9_driesAct, cX9_driesAct, 3, (some .int))
abbrev mdN_act : mv_MD := (yX9_act, cX9_act, 5, (some .int))
abbrev mdN_trace : mv_MD := (yX9_trace, cX9_trace, 2, (some .int))
abbrev mdN_purposesAbout : mv_MD := (yX9_purposesAbout, cX9_purposesAbout, 5, (some .int))
abbrev mdN_many : mv_MD := (yX9_many, cX9_many, 2, (some .int))
abbrev mdN_keep : mv_MD := (yX9_keep, cX9_keep, 1, (some .int))
abbrev mdN_again : mv_MD := (yX9_again, cX9_again, 1, (some .int))
def tA_forget : List mv_E := [(0, .aload_n 0, 1, [0]), (1, .iconst 0, 1, [0, 0]), (2, .putfield 15, 3, [0, 1, 0, 0, 1, 179]), (5, .return_, 1, [])]
def gA_forget : List (mv_C H2) := []
def nA_forget : List (mv_MD × Bool) := []
def tA_hold : List mv_E := [(0, .aload_n 0, 1, [0]), (1, .iload_n 1, 1, [1]), (2, .putfield 19, 3, [0, 2, 0, 0, 1, 181]), (5, .aload_n 0, 1, [0]), (6, .iload_n 2, 1, [2]), (7, .putfield 22, 3, [0, 3, 0, 0, 1, 182]), (10, .aload_n 0, 1, [0]), (11, .iload_n 3, 1, [3]), (12, .putfield 25, 3, [0, 4, 0, 0, 1, 183]), (15, .return_, 1, [])]
def gA_hold : List (mv_C H2) := []
def nA_hold : List (mv_MD × Bool) := []
def tA_note : List mv_E := [(0, .aload_n 0, 1, [0]), (1, .getfield 15, 3, [0, 1, 0, 0, 1, 179]), (4, .bipush 30, 2, [0, 30]), (6, .if_icmp .ge 20, 3, [26]), (9, .aload_n 0, 1, [0]), (10, .getfield 9, 3, [0, 0, 1, 0, 1, 177]), (13, .aload_n 0, 1, [0]), (14, .dup, 1, []), (15, .getfield 15, 3, [0, 1, 0, 0, 1, 179]), (18, .dup_x1, 1, []), (19, .iconst 1, 1, [0, 1]), (20, .iadd, 1, []), (21, .putfield 15, 3, [0, 1, 0, 0, 1, 179]), (24, .iload_n 1, 1, [1]), (25, .iastore, 1, []), (26, .return_, 1, [])]
def gA_note : List (mv_C H2) := []
def nA_note : List (mv_MD × Bool) := []
def tA_parted : List mv_E := [(0, .iload_n 2, 1, [2]), (1, .ifCond .ne 10, 3, [11]), (4, .aload_n 0, 1, [0]), (5, .iconst 1, 1, [0, 1]), (6, .putfield 28, 3, [0, 5, 2, 0, 1, 184]), (9, .iconst 0, 1, [0, 0]), (10, .ireturn, 1, [0]), (11, .iload_n 1, 1, [1]), (12, .iload_n 2, 1, [2]), (13, .idiv, 1, []), (14, .ireturn, 1, [0])]
def gA_parted : List (mv_C H2) := []
def nA_parted : List (mv_MD × Bool) := []
def tA_own : List mv_E := [(0, .aload_n 0, 1, [0]), (1, .getstatic 36, 3, [13, 4, 133]), (4, .aload_n 0, 1, [0]), (5, .getfield 19, 3, [0, 2, 0, 0, 1, 181]), (8, .iconst 4, 1, [0, 4]), (9, .imul, 1, []), (10, .iload_n 1, 1, [1]), (11, .iadd, 1, []), (12, .iaload, 1, []), (13, .iload_n 2, 1, [2]), (14, .iload_n 3, 1, [3]), (15, .iconst 1, 1, [0, 1]), (16, .iadd, 1, []), (17, .invokevirtual 39, 3, [0, 0, 4, 0, 4, 135, 4, 137, 1, 7, 4, 138, 0, 22]), (20, .ireturn, 1, [0])]
def gA_own (bd : Nat → Int32 → Int32 → Int32 → H2 → O2) : List (mv_C H2) := [((0, 0), (cA_body bd))]
def nA_own : List (mv_MD × Bool) := [(mdA_body, true)]
def tA_body : List mv_E := [(0, .aload_n 0, 1, [0]), (1, .getfield 28, 3, [0, 5, 2, 0, 1, 184]), (4, .ifCond .ne 9, 3, [13]), (7, .iload_n 3, 1, [3]), (8, .bipush 20, 2, [0, 20]), (10, .if_icmp .le 5, 3, [15]), (13, .iconst 0, 1, [0, 0]), (14, .ireturn, 1, [0]), (15, .aload_n 0, 1, [0]), (16, .iload_n 1, 1, [1]), (17, .invokevirtual 42, 3, [0, 0, 2, 0, 4, 139, 4, 141, 1, 7, 4, 142, 0, 23]), (20, .iload_n 1, 1, [1]), (21, .tableswitch 425 10 61 #[223, 232, 248, 263, 425, 425, 425, 425, 425, 425, 275, 425, 425, 425, 425, 425, 425, 425, 425, 425, 289, 302, 425, 425, 425, 425, 425, 425, 425, 425, 324, 337, 425, 425, 425, 425, 425, 425, 425, 425, 359, 377, 425, 425, 425, 425, 425, 425, 425, 425, 390, 403], 223, [10, 446, 244, 253, 269, 284, 446, 446, 446, 446, 446, 446, 296, 446, 446, 446, 446, 446, 446, 446, 446, 446, 310, 323, 446, 446, 446, 446, 446, 446, 446, 446, 345, 358, 446, 446, 446, 446, 446, 446, 446, 446, 380, 398, 446, 446, 446, 446, 446, 446, 446, 446, 411, 424]), (244, .iload_n 2, 1, [2]), (245, .iconst 5, 1, [0, 5]), (246, .imul, 1, []), (247, .aload_n 0, 1, [0]), (248, .getfield 22, 3, [0, 3, 0, 0, 1, 182]), (251, .iadd, 1, []), (252, .ireturn, 1, [0]), (253, .aload_n 0, 1, [0]), (254, .iconst 0, 1, [0, 0]), (255, .iload_n 2, 1, [2]), (256, .iload_n 3, 1, [3]), (257, .invokevirtual 32, 3, [0, 1, 4, 0, 4, 129, 4, 131, 1, 7, 4, 132, 0, 21]), (260, .aload_n 0, 1, [0]), (261, .getfield 25, 3, [0, 4, 0, 0, 1, 183]), (264, .bipush 9, 2, [0, 9]), (266, .imul, 1, []), (267, .iadd, 1, []), (268, .ireturn, 1, [0]), (269, .aload_n 0, 1, [0]), (270, .iload_n 2, 1, [2]), (271, .aload_n 0, 1, [0]), (272, .getfield 25, 3, [0, 4, 0, 0, 1, 183]), (275, .aload_n 0, 1, [0]), (276, .getfield 22, 3, [0, 3, 0, 0, 1, 182]), (279, .isub, 1, []), (280, .invokevirtual 46, 3, [0, 2, 3, 0, 4, 143, 4, 145, 1, 7, 4, 146, 0, 24]), (283, .ireturn, 1, [0]), (284, .aload_n 0, 1, [0]), (285, .iconst 1, 1, [0, 1]), (286, .iload_n 2, 1, [2]), (287, .iload_n 3, 1, [3]), (288, .invokevirtual 32, 3, [0, 1, 4, 0, 4, 129, 4, 131, 1, 7, 4, 132, 0, 21]), (291, .sipush 240, 3, [0, 240]), (294, .ixor, 1, []), (295, .ireturn, 1, [0]), (296, .aload_n 0, 1, [0]), (297, .bipush 11, 2, [0, 11]), (299, .iload_n 2, 1, [2]), (300, .iload_n 3, 1, [3]), (301, .iconst 1, 1, [0, 1]), (302, .iadd, 1, []), (303, .invokevirtual 39, 3, [0, 3, 4, 0, 4, 135, 4, 137, 1, 7, 4, 138, 0, 22]), (306, .bipush 6, 2, [0, 6]), (308, .isub, 1, []), (309, .ireturn, 1, [0]), (310, .aload_n 0, 1, [0]), (311, .bipush 10, 2, [0, 10]), (313, .iload_n 2, 1, [2]), (314, .iload_n 3, 1, [3]), (315, .iconst 1, 1, [0, 1]), (316, .iadd, 1, []), (317, .invokevirtual 39, 3, [0, 3, 4, 0, 4, 135, 4, 137, 1, 7, 4, 138, 0, 22]), (320, .iconst 2, 1, [0, 2]), (321, .imul, 1, []), (322, .ireturn, 1, [0]), (323, .aload_n 0, 1, [0]), (324, .bipush 13, 2, [0, 13]), (326, .iload_n 2, 1, [2]), (327, .iload_n 3, 1, [3]), (328, .iconst 1, 1, [0, 1]), (329, .iadd, 1, []), (330, .invokevirtual 39, 3, [0, 3, 4, 0, 4, 135, 4, 137, 1, 7, 4, 138, 0, 22]), (333, .aload_n 0, 1, [0]), (334, .iconst 2, 1, [0, 2]), (335, .aload_n 0, 1, [0]), (336, .getfield 22, 3, [0, 3, 0, 0, 1, 182]), (339, .iload_n 3, 1, [3]), (340, .invokevirtual 32, 3, [0, 1, 4, 0, 4, 129, 4, 131, 1, 7, 4, 132, 0, 21]), (343, .iadd, 1, []), (344, .ireturn, 1, [0]), (345, .iconst 0, 1, [0, 0]), (346, .aload_n 0, 1, [0]), (347, .bipush 30, 2, [0, 30]), (349, .iload_n 2, 1, [2]), (350, .iload_n 3, 1, [3]), (351, .iconst 1, 1, [0, 1]), (352, .iadd, 1, []), (353, .invokevirtual 39, 3, [0, 3, 4, 0, 4, 135, 4, 137, 1, 7, 4, 138, 0, 22]), (356, .isub, 1, []), (357, .ireturn, 1, [0]), (358, .aload_n 0, 1, [0]), (359, .bipush 11, 2, [0, 11]), (361, .iload_n 2, 1, [2]), (362, .iload_n 3, 1, [3]), (363, .iconst 1, 1, [0, 1]), (364, .iadd, 1, []), (365, .invokevirtual 39, 3, [0, 3, 4, 0, 4, 135, 4, 137, 1, 7, 4, 138, 0, 22]), (368, .aload_n 0, 1, [0]), (369, .iconst 0, 1, [0, 0]), (370, .aload_n 0, 1, [0]), (371, .getfield 25, 3, [0, 4, 0, 0, 1, 183]), (374, .iload_n 3, 1, [3]), (375, .invokevirtual 32, 3, [0, 1, 4, 0, 4, 129, 4, 131, 1, 7, 4, 132, 0, 21]), (378, .ixor, 1, []), (379, .ireturn, 1, [0]), (380, .aload_n 0, 1, [0]), (381, .bipush 12, 2, [0, 12]), (383, .iload_n 2, 1, [2]), (384, .iconst 3, 1, [0, 3]), (385, .iadd, 1, []), (386, .iload_n 3, 1, [3]), (387, .iconst 1, 1, [0, 1]), (388, .iadd, 1, []), (389, .invokevirtual 39, 3, [0, 3, 4, 0, 4, 135, 4, 137, 1, 7, 4, 138, 0, 22]), (392, .aload_n 0, 1, [0]), (393, .getfield 25, 3, [0, 4, 0, 0, 1, 183]), (396, .iadd, 1, []), (397, .ireturn, 1, [0]), (398, .aload_n 0, 1, [0]), (399, .bipush 10, 2, [0, 10]), (401, .iload_n 2, 1, [2]), (402, .iload_n 3, 1, [3]), (403, .iconst 1, 1, [0, 1]), (404, .iadd, 1, []), (405, .invokevirtual 39, 3, [0, 3, 4, 0, 4, 135, 4, 137, 1, 7, 4, 138, 0, 22]), (408, .iconst 2, 1, [0, 2]), (409, .isub, 1, []), (410, .ireturn, 1, [0]), (411, .aload_n 0, 1, [0]), (412, .bipush 13, 2, [0, 13]), (414, .iload_n 2, 1, [2]), (415, .iload_n 3, 1, [3]), (416, .iconst 1, 1, [0, 1]), (417, .iadd, 1, []), (418, .invokevirtual 39, 3, [0, 3, 4, 0, 4, 135, 4, 137, 1, 7, 4, 138, 0, 22]), (421, .iconst 3, 1, [0, 3]), (422, .imul, 1, []), (423, .ireturn, 1, [0]), (424, .aload_n 0, 1, [0]), (425, .bipush 12, 2, [0, 12]), (427, .iload_n 2, 1, [2]), (428, .iload_n 3, 1, [3]), (429, .iconst 1, 1, [0, 1]), (430, .iadd, 1, []), (431, .invokevirtual 39, 3, [0, 3, 4, 0, 4, 135, 4, 137, 1, 7, 4, 138, 0, 22]), (434, .aload_n 0, 1, [0]), (435, .iconst 0, 1, [0, 0]), (436, .aload_n 0, 1, [0]), (437, .getfield 22, 3, [0, 3, 0, 0, 1, 182]), (440, .iload_n 3, 1, [3]), (441, .invokevirtual 32, 3, [0, 1, 4, 0, 4, 129, 4, 131, 1, 7, 4, 132, 0, 21]), (444, .isub, 1, []), (445, .ireturn, 1, [0]), (446, .iconst 0, 1, [0, 0]), (447, .ireturn, 1, [0])]
def gA_body (bd : Nat → Int32 → Int32 → Int32 → H2 → O2) : List (mv_C H2) := [((0, 0), cA_note), ((0, 0), (cA_own bd)), ((0, 0), cA_parted), ((0, 0), (cA_body bd))]
def nA_body : List (mv_MD × Bool) := [(mdA_note, true), (mdA_own, true), (mdA_parted, true), (mdA_body, true)]
def tA_perform : List mv_E := [(0, .aload_n 0, 1, [0]), (1, .iconst 0, 1, [0, 0]), (2, .putfield 28, 3, [0, 5, 2, 0, 1, 184]), (5, .aload_n 0, 1, [0]), (6, .iload_n 1, 1, [1]), (7, .iload_n 2, 1, [2]), (8, .iconst 0, 1, [0, 0]), (9, .invokevirtual 32, 3, [0, 0, 4, 0, 4, 129, 4, 131, 1, 7, 4, 132, 0, 21]), (12, .istore_n 3, 1, [3]), (13, .aload_n 0, 1, [0]), (14, .getfield 28, 3, [0, 5, 2, 0, 1, 184]), (17, .ifCond .eq 8, 3, [25]), (20, .bipush (-15), 2, [1, 15]), (22, .goto 4, 3, [26]), (25, .iload_n 3, 1, [3]), (26, .ireturn, 1, [0])]
def gA_perform : List (mv_C H2) := [((0, 0), (cA_own (fA_body 50)))]
def nA_perform : List (mv_MD × Bool) := [(mdA_own, true)]
def tC_choices : List mv_E := [(0, .lconst 1, 1, [0, 1]), (1, .lstore_n 2, 1, [2]), (2, .iconst 1, 1, [0, 1]), (3, .istore 4, 2, [4]), (5, .iload 4, 2, [4]), (7, .iload_n 1, 1, [1]), (8, .if_icmp .gt 23, 3, [31]), (11, .lload_n 2, 1, [2]), (12, .iload_n 0, 1, [0]), (13, .iload_n 1, 1, [1]), (14, .isub, 1, []), (15, .iload 4, 2, [4]), (17, .iadd, 1, []), (18, .i2l, 1, []), (19, .lmul, 1, []), (20, .iload 4, 2, [4]), (22, .i2l, 1, []), (23, .ldiv, 1, []), (24, .lstore_n 2, 1, [2]), (25, .iinc 4 1, 3, [4, 0, 1]), (28, .goto (-23), 3, [5]), (31, .lload_n 2, 1, [2]), (32, .lreturn, 1, [])]
def gC_choices : List (mv_C H2) := []
def nC_choices : List (mv_MD × Bool) := []
def tC_commonDivisor : List mv_E := [(0, .lload_n 0, 1, [0]), (1, .lstore 4, 2, [4]), (3, .lload_n 2, 1, [2]), (4, .lstore 6, 2, [6]), (6, .iconst 0, 1, [0, 0]), (7, .istore 8, 2, [8]), (9, .iload 8, 2, [8]), (11, .sipush 200, 3, [0, 200]), (14, .if_icmp .ge 31, 3, [45]), (17, .lload 6, 2, [6]), (19, .lconst 0, 1, [0, 0]), (20, .lcmp, 1, []), (21, .ifCond .eq 24, 3, [45]), (24, .lload 4, 2, [4]), (26, .lload 6, 2, [6]), (28, .lrem, 1, []), (29, .lstore 9, 2, [9]), (31, .lload 6, 2, [6]), (33, .lstore 4, 2, [4]), (35, .lload 9, 2, [9]), (37, .lstore 6, 2, [6]), (39, .iinc 8 1, 3, [8, 0, 1]), (42, .goto (-33), 3, [9]), (45, .lload 4, 2, [4]), (47, .lreturn, 1, [])]
def gC_commonDivisor : List (mv_C H2) := []
def nC_commonDivisor : List (mv_MD × Bool) := []
def tC_partOf : List mv_E := [(0, .lload_n 0, 1, [0]), (1, .lload_n 2, 1, [2]), (2, .invokestatic 19, 3, [0, 0, 2, 1, 3, 227, 3, 228, 1, 16, 3, 229]), (5, .lstore 5, 2, [5]), (7, .lload 5, 2, [5]), (9, .lconst 0, 1, [0, 0]), (10, .lcmp, 1, []), (11, .ifCond .ne 7, 3, [18]), (14, .iload 4, 2, [4]), (16, .i2l, 1, []), (17, .lreturn, 1, []), (18, .iload 4, 2, [4]), (20, .ifCond .ne 7, 3, [27]), (23, .lload_n 0, 1, [0]), (24, .goto 4, 3, [28]), (27, .lload_n 2, 1, [2]), (28, .lload 5, 2, [5]), (30, .ldiv, 1, []), (31, .lreturn, 1, [])]
def gC_partOf : List (mv_C H2) := [((0, 0), cC_commonDivisor)]
def nC_partOf : List (mv_MD × Bool) := [(mdC_commonDivisor, false)]
def tC_justSlip : List mv_E := [(0, .iload_n 0, 1, [0]), (1, .iload_n 1, 1, [1]), (2, .invokestatic 7, 3, [0, 0, 2, 1, 3, 220, 3, 221, 1, 16, 3, 222]), (5, .lstore 4, 2, [4]), (7, .lconst 1, 1, [0, 1]), (8, .lstore 6, 2, [6]), (10, .iconst 0, 1, [0, 0]), (11, .istore 8, 2, [8]), (13, .iload 8, 2, [8]), (15, .iload_n 0, 1, [0]), (16, .if_icmp .ge 38, 3, [54]), (19, .lload 4, 2, [4]), (21, .iload 8, 2, [8]), (23, .iload_n 1, 1, [1]), (24, .if_icmp .ge 8, 3, [32]), (27, .iload_n 2, 1, [2]), (28, .i2l, 1, []), (29, .goto 8, 3, [37]), (32, .bipush 100, 2, [0, 100]), (34, .iload_n 2, 1, [2]), (35, .isub, 1, []), (36, .i2l, 1, []), (37, .lmul, 1, []), (38, .lstore 4, 2, [4]), (40, .lload 6, 2, [6]), (42, .ldc2_w 13, 3, [0, 100, 3, 223]), (45, .lmul, 1, []), (46, .lstore 6, 2, [6]), (48, .iinc 8 1, 3, [8, 0, 1]), (51, .goto (-38), 3, [13]), (54, .lload 4, 2, [4]), (56, .lload 6, 2, [6]), (58, .iload_n 3, 1, [3]), (59, .invokestatic 15, 3, [0, 1, 3, 1, 3, 224, 3, 225, 1, 16, 3, 226]), (62, .lreturn, 1, [])]
def gC_justSlip : List (mv_C H2) := [((0, 0), cC_choices), ((0, 0), cC_partOf)]
def nC_justSlip : List (mv_MD × Bool) := [(mdC_choices, false), (mdC_partOf, false)]
def tM_copyFrom : List mv_E := [(0, .aload_n 1, 1, [1]), (1, .getfield 9, 3, [2, 0, 1, 0, 1, 36]), (4, .iconst 0, 1, [0, 0]), (5, .aload_n 0, 1, [0]), (6, .getfield 9, 3, [2, 0, 1, 0, 1, 36]), (9, .iconst 0, 1, [0, 0]), (10, .iconst 4, 1, [0, 4]), (11, .invokestatic 52, 3, [4, 2, 155, 2, 157, 2, 156, 1, 13]), (14, .aload_n 1, 1, [1]), (15, .getfield 15, 3, [2, 1, 1, 0, 1, 39]), (18, .iconst 0, 1, [0, 0]), (19, .aload_n 0, 1, [0]), (20, .getfield 15, 3, [2, 1, 1, 0, 1, 39]), (23, .iconst 0, 1, [0, 0]), (24, .bipush 8, 2, [0, 8]), (26, .invokestatic 52, 3, [4, 2, 155, 2, 157, 2, 156, 1, 13]), (29, .aload_n 1, 1, [1]), (30, .getfield 18, 3, [2, 2, 1, 0, 1, 42]), (33, .iconst 0, 1, [0, 0]), (34, .aload_n 0, 1, [0]), (35, .getfield 18, 3, [2, 2, 1, 0, 1, 42]), (38, .iconst 0, 1, [0, 0]), (39, .bipush 8, 2, [0, 8]), (41, .invokestatic 52, 3, [4, 2, 155, 2, 157, 2, 156, 1, 13]), (44, .aload_n 1, 1, [1]), (45, .getfield 21, 3, [2, 3, 1, 0, 1, 46]), (48, .iconst 0, 1, [0, 0]), (49, .aload_n 0, 1, [0]), (50, .getfield 21, 3, [2, 3, 1, 0, 1, 46]), (53, .iconst 0, 1, [0, 0]), (54, .bipush 6, 2, [0, 6]), (56, .invokestatic 52, 3, [4, 2, 155, 2, 157, 2, 156, 1, 13]), (59, .aload_n 1, 1, [1]), (60, .getfield 24, 3, [2, 4, 1, 0, 1, 50]), (63, .iconst 0, 1, [0, 0]), (64, .aload_n 0, 1, [0]), (65, .getfield 24, 3, [2, 4, 1, 0, 1, 50]), (68, .iconst 0, 1, [0, 0]), (69, .bipush 8, 2, [0, 8]), (71, .invokestatic 52, 3, [4, 2, 155, 2, 157, 2, 156, 1, 13]), (74, .aload_n 1, 1, [1]), (75, .getfield 27, 3, [2, 5, 1, 0, 1, 53]), (78, .iconst 0, 1, [0, 0]), (79, .aload_n 0, 1, [0]), (80, .getfield 27, 3, [2, 5, 1, 0, 1, 53]), (83, .iconst 0, 1, [0, 0]), (84, .bipush 8, 2, [0, 8]), (86, .invokestatic 52, 3, [4, 2, 155, 2, 157, 2, 156, 1, 13]), (89, .aload_n 1, 1, [1]), (90, .getfield 30, 3, [2, 6, 1, 0, 1, 57]), (93, .iconst 0, 1, [0, 0]), (94, .aload_n 0, 1, [0]), (95, .getfield 30, 3, [2, 6, 1, 0, 1, 57]), (98, .iconst 0, 1, [0, 0]), (99, .bipush 8, 2, [0, 8]), (101, .invokestatic 52, 3, [4, 2, 155, 2, 157, 2, 156, 1, 13]), (104, .aload_n 1, 1, [1]), (105, .getfield 33, 3, [2, 7, 1, 0, 1, 61]), (108, .iconst 0, 1, [0, 0]), (109, .aload_n 0, 1, [0]), (110, .getfield 33, 3, [2, 7, 1, 0, 1, 61]), (113, .iconst 0, 1, [0, 0]), (114, .bipush 8, 2, [0, 8]), (116, .invokestatic 52, 3, [4, 2, 155, 2, 157, 2, 156, 1, 13]), (119, .aload_n 1, 1, [1]), (120, .getfield 36, 3, [2, 8, 1, 0, 1, 65]), (123, .iconst 0, 1, [0, 0]), (124, .aload_n 0, 1, [0]), (125, .getfield 36, 3, [2, 8, 1, 0, 1, 65]), (128, .iconst 0, 1, [0, 0]), (129, .bipush 8, 2, [0, 8]), (131, .invokestatic 52, 3, [4, 2, 155, 2, 157, 2, 156, 1, 13]), (134, .aload_n 0, 1, [0]), (135, .aload_n 1, 1, [1]), (136, .getfield 46, 3, [2, 9, 0, 0, 1, 67]), (139, .putfield 46, 3, [2, 9, 0, 0, 1, 67]), (142, .aload_n 0, 1, [0]), (143, .aload_n 1, 1, [1]), (144, .getfield 49, 3, [2, 10, 0, 0, 1, 71]), (147, .putfield 49, 3, [2, 10, 0, 0, 1, 71]), (150, .aload_n 0, 1, [0]), (151, .aload_n 1, 1, [1]), (152, .getfield 39, 3, [2, 11, 0, 0, 1, 73]), (155, .putfield 39, 3, [2, 11, 0, 0, 1, 73]), (158, .return_, 1, [])]
def gM_copyFrom : List (mv_C H2) := []
def nM_copyFrom : List (mv_MD × Bool) := []
def tM_vatOfToday : List mv_E := [(0, .aload_n 0, 1, [0]), (1, .getfield 21, 3, [2, 3, 1, 0, 1, 46]), (4, .aload_n 0, 1, [0]), (5, .getfield 49, 3, [2, 10, 0, 0, 1, 71]), (8, .bipush 6, 2, [0, 6]), (10, .irem, 1, []), (11, .iaload, 1, []), (12, .ireturn, 1, [0])]
def gM_vatOfToday : List (mv_C H2) := []
def nM_vatOfToday : List (mv_MD × Bool) := []
def tM_takes : List mv_E := [(0, .aload_n 0, 1, [0]), (1, .getfield 18, 3, [2, 2, 1, 0, 1, 42]), (4, .iload_n 2, 1, [2]), (5, .iaload, 1, []), (6, .aload_n 0, 1, [0]), (7, .getfield 9, 3, [2, 0, 1, 0, 1, 36]), (10, .iconst 0, 1, [0, 0]), (11, .iaload, 1, []), (12, .iadd, 1, []), (13, .istore_n 3, 1, [3]), (14, .aload_n 0, 1, [0]), (15, .getfield 24, 3, [2, 4, 1, 0, 1, 50]), (18, .iload_n 1, 1, [1]), (19, .iaload, 1, []), (20, .tableswitch 75 1 5 #[36, 40, 49, 55, 71], 36, [1, 95, 56, 60, 69, 75, 91]), (56, .iload_n 3, 1, [3]), (57, .iconst 3, 1, [0, 3]), (58, .iadd, 1, []), (59, .ireturn, 1, [0]), (60, .iload_n 3, 1, [3]), (61, .aload_n 0, 1, [0]), (62, .getfield 9, 3, [2, 0, 1, 0, 1, 36]), (65, .iconst 1, 1, [0, 1]), (66, .iaload, 1, []), (67, .isub, 1, []), (68, .ireturn, 1, [0]), (69, .iload_n 3, 1, [3]), (70, .iconst 3, 1, [0, 3]), (71, .iadd, 1, []), (72, .iconst 2, 1, [0, 2]), (73, .imul, 1, []), (74, .ireturn, 1, [0]), (75, .iload_n 3, 1, [3]), (76, .aload_n 0, 1, [0]), (77, .getfield 9, 3, [2, 0, 1, 0, 1, 36]), (80, .iconst 1, 1, [0, 1]), (81, .iaload, 1, []), (82, .isub, 1, []), (83, .aload_n 0, 1, [0]), (84, .getfield 9, 3, [2, 0, 1, 0, 1, 36]), (87, .iconst 2, 1, [0, 2]), (88, .iaload, 1, []), (89, .iadd, 1, []), (90, .ireturn, 1, [0]), (91, .iload_n 3, 1, [3]), (92, .iconst 2, 1, [0, 2]), (93, .idiv, 1, []), (94, .ireturn, 1, [0]), (95, .iload_n 3, 1, [3]), (96, .ireturn, 1, [0])]
def gM_takes : List (mv_C H2) := []
def nM_takes : List (mv_MD × Bool) := []
def tM_fights : List mv_E := [(0, .aload_n 0, 1, [0]), (1, .getfield 18, 3, [2, 2, 1, 0, 1, 42]), (4, .iload_n 2, 1, [2]), (5, .iaload, 1, []), (6, .istore_n 3, 1, [3]), (7, .aload_n 0, 1, [0]), (8, .getfield 24, 3, [2, 4, 1, 0, 1, 50]), (11, .iload_n 1, 1, [1]), (12, .iaload, 1, []), (13, .tableswitch 84 1 5 #[35, 44, 53, 69, 80], 35, [1, 97, 48, 57, 66, 82, 93]), (48, .iload_n 3, 1, [3]), (49, .aload_n 0, 1, [0]), (50, .getfield 9, 3, [2, 0, 1, 0, 1, 36]), (53, .iconst 2, 1, [0, 2]), (54, .iaload, 1, []), (55, .isub, 1, []), (56, .ireturn, 1, [0]), (57, .iload_n 3, 1, [3]), (58, .aload_n 0, 1, [0]), (59, .getfield 9, 3, [2, 0, 1, 0, 1, 36]), (62, .iconst 2, 1, [0, 2]), (63, .iaload, 1, []), (64, .iadd, 1, []), (65, .ireturn, 1, [0]), (66, .iload_n 3, 1, [3]), (67, .aload_n 0, 1, [0]), (68, .getfield 9, 3, [2, 0, 1, 0, 1, 36]), (71, .iconst 2, 1, [0, 2]), (72, .iaload, 1, []), (73, .isub, 1, []), (74, .aload_n 0, 1, [0]), (75, .getfield 9, 3, [2, 0, 1, 0, 1, 36]), (78, .iconst 0, 1, [0, 0]), (79, .iaload, 1, []), (80, .iadd, 1, []), (81, .ireturn, 1, [0]), (82, .iload_n 3, 1, [3]), (83, .aload_n 0, 1, [0]), (84, .getfield 9, 3, [2, 0, 1, 0, 1, 36]), (87, .iconst 2, 1, [0, 2]), (88, .iaload, 1, []), (89, .iadd, 1, []), (90, .iconst 2, 1, [0, 2]), (91, .imul, 1, []), (92, .ireturn, 1, [0]), (93, .iload_n 3, 1, [3]), (94, .iconst 1, 1, [0, 1]), (95, .iadd, 1, []), (96, .ireturn, 1, [0]), (97, .iload_n 3, 1, [3]), (98, .ireturn, 1, [0])]
def gM_fights : List (mv_C H2) := []
def nM_fights : List (mv_MD × Bool) := []
def tM_settle : List mv_E := [(0, .iload_n 2, 1, [2]), (1, .ifCond .gt 20, 3, [21]), (4, .aload_n 0, 1, [0]), (5, .getfield 30, 3, [2, 6, 1, 0, 1, 57]), (8, .iload_n 1, 1, [1]), (9, .iconst 0, 1, [0, 0]), (10, .iastore, 1, []), (11, .aload_n 0, 1, [0]), (12, .getfield 27, 3, [2, 5, 1, 0, 1, 53]), (15, .iload_n 1, 1, [1]), (16, .iconst (-1), 1, [1, 1]), (17, .iastore, 1, []), (18, .goto 21, 3, [39]), (21, .aload_n 0, 1, [0]), (22, .getfield 30, 3, [2, 6, 1, 0, 1, 57]), (25, .iload_n 1, 1, [1]), (26, .iload_n 2, 1, [2]), (27, .bipush 99, 2, [0, 99]), (29, .if_icmp .ge 7, 3, [36]), (32, .iload_n 2, 1, [2]), (33, .goto 5, 3, [38]), (36, .bipush 99, 2, [0, 99]), (38, .iastore, 1, []), (39, .return_, 1, [])]
def gM_settle : List (mv_C H2) := []
def nM_settle : List (mv_MD × Bool) := []
def tM_dipInto : List mv_E := [(0, .aload_n 0, 1, [0]), (1, .getfield 15, 3, [2, 1, 1, 0, 1, 39]), (4, .iload_n 2, 1, [2]), (5, .iaload, 1, []), (6, .istore_n 3, 1, [3]), (7, .aload_n 0, 1, [0]), (8, .getfield 27, 3, [2, 5, 1, 0, 1, 53]), (11, .iload_n 1, 1, [1]), (12, .iaload, 1, []), (13, .iconst (-1), 1, [1, 1]), (14, .if_icmp .eq 13, 3, [27]), (17, .aload_n 0, 1, [0]), (18, .getfield 27, 3, [2, 5, 1, 0, 1, 53]), (21, .iload_n 1, 1, [1]), (22, .iaload, 1, []), (23, .iload_n 3, 1, [3]), (24, .if_icmp .ne 28, 3, [52]), (27, .aload_n 0, 1, [0]), (28, .getfield 27, 3, [2, 5, 1, 0, 1, 53]), (31, .iload_n 1, 1, [1]), (32, .iload_n 3, 1, [3]), (33, .iastore, 1, []), (34, .aload_n 0, 1, [0]), (35, .getfield 30, 3, [2, 6, 1, 0, 1, 57]), (38, .iload_n 1, 1, [1]), (39, .iaload, 1, []), (40, .aload_n 0, 1, [0]), (41, .iload_n 1, 1, [1]), (42, .iload_n 2, 1, [2]), (43, .invokevirtual 62, 3, [0, 0, 3, 0, 3, 6, 2, 212, 1, 2, 2, 214, 2, 213]), (46, .iadd, 1, []), (47, .istore 4, 2, [4]), (49, .goto 35, 3, [84]), (52, .aload_n 0, 1, [0]), (53, .getfield 30, 3, [2, 6, 1, 0, 1, 57]), (56, .iload_n 1, 1, [1]), (57, .iaload, 1, []), (58, .aload_n 0, 1, [0]), (59, .iload_n 1, 1, [1]), (60, .iload_n 2, 1, [2]), (61, .invokevirtual 66, 3, [0, 1, 3, 0, 3, 7, 2, 216, 1, 2, 2, 218, 2, 217]), (64, .isub, 1, []), (65, .istore 4, 2, [4]), (67, .iload 4, 2, [4]), (69, .ifCond .ge 15, 3, [84]), (72, .aload_n 0, 1, [0]), (73, .getfield 27, 3, [2, 5, 1, 0, 1, 53]), (76, .iload_n 1, 1, [1]), (77, .iload_n 3, 1, [3]), (78, .iastore, 1, []), (79, .iload 4, 2, [4]), (81, .ineg, 1, []), (82, .istore 4, 2, [4]), (84, .aload_n 0, 1, [0]), (85, .iload_n 1, 1, [1]), (86, .iload 4, 2, [4]), (88, .invokevirtual 69, 3, [0, 2, 3, 0, 3, 8, 3, 9, 1, 2, 3, 11, 3, 10]), (91, .aload_n 0, 1, [0]), (92, .getfield 36, 3, [2, 8, 1, 0, 1, 65]), (95, .iload_n 1, 1, [1]), (96, .iaload, 1, []), (97, .sipush 9999, 3, [0, 9999]), (100, .if_icmp .ge 13, 3, [113]), (103, .aload_n 0, 1, [0]), (104, .getfield 36, 3, [2, 8, 1, 0, 1, 65]), (107, .iload_n 1, 1, [1]), (108, .dup2, 1, []), (109, .iaload, 1, []), (110, .iconst 1, 1, [0, 1]), (111, .iadd, 1, []), (112, .iastore, 1, []), (113, .aload_n 0, 1, [0]), (114, .getfield 18, 3, [2, 2, 1, 0, 1, 42]), (117, .iload_n 2, 1, [2]), (118, .iaload, 1, []), (119, .ifCond .le 13, 3, [132]), (122, .aload_n 0, 1, [0]), (123, .getfield 18, 3, [2, 2, 1, 0, 1, 42]), (126, .iload_n 2, 1, [2]), (127, .dup2, 1, []), (128, .iaload, 1, []), (129, .iconst 1, 1, [0, 1]), (130, .isub, 1, []), (131, .iastore, 1, []), (132, .return_, 1, [])]
def gM_dipInto : List (mv_C H2) := [((0, 0), cM_takes), ((0, 0), cM_fights), ((0, 0), cM_settle)]
def nM_dipInto : List (mv_MD × Bool) := [(mdM_takes, true), (mdM_fights, true), (mdM_settle, true)]
def tM_fades : List mv_E := [(0, .aload_n 0, 1, [0]), (1, .getfield 9, 3, [2, 0, 1, 0, 1, 36]), (4, .iconst 1, 1, [0, 1]), (5, .iaload, 1, []), (6, .istore_n 2, 1, [2]), (7, .aload_n 0, 1, [0]), (8, .getfield 24, 3, [2, 4, 1, 0, 1, 50]), (11, .iload_n 1, 1, [1]), (12, .iaload, 1, []), (13, .tableswitch 55 1 5 #[35, 39, 43, 45, 51], 35, [1, 68, 48, 52, 56, 58, 64]), (48, .iload_n 2, 1, [2]), (49, .iconst 1, 1, [0, 1]), (50, .isub, 1, []), (51, .ireturn, 1, [0]), (52, .iload_n 2, 1, [2]), (53, .iconst 1, 1, [0, 1]), (54, .iadd, 1, []), (55, .ireturn, 1, [0]), (56, .iconst 0, 1, [0, 0]), (57, .ireturn, 1, [0]), (58, .iload_n 2, 1, [2]), (59, .iconst 1, 1, [0, 1]), (60, .iadd, 1, []), (61, .iconst 2, 1, [0, 2]), (62, .imul, 1, []), (63, .ireturn, 1, [0]), (64, .iload_n 2, 1, [2]), (65, .iconst 3, 1, [0, 3]), (66, .iadd, 1, []), (67, .ireturn, 1, [0]), (68, .iload_n 2, 1, [2]), (69, .ireturn, 1, [0])]
def gM_fades : List (mv_C H2) := []
def nM_fades : List (mv_MD × Bool) := []
def tM_deepen : List mv_E := [(0, .aload_n 0, 1, [0]), (1, .getfield 27, 3, [2, 5, 1, 0, 1, 53]), (4, .iload_n 1, 1, [1]), (5, .iaload, 1, []), (6, .iconst (-1), 1, [1, 1]), (7, .if_icmp .eq 9, 3, [16]), (10, .aload_n 0, 1, [0]), (11, .iload_n 1, 1, [1]), (12, .iload_n 2, 1, [2]), (13, .invokevirtual 69, 3, [0, 0, 3, 0, 3, 8, 3, 9, 1, 2, 3, 11, 3, 10]), (16, .return_, 1, [])]
def gM_deepen : List (mv_C H2) := [((0, 0), cM_settle)]
def nM_deepen : List (mv_MD × Bool) := [(mdM_settle, true)]
def tM_passDay : List mv_E := [(0, .aload_n 0, 1, [0]), (1, .invokevirtual 76, 3, [0, 0, 1, 0, 3, 24, 3, 25, 1, 2, 3, 27, 3, 26]), (4, .istore_n 1, 1, [1]), (5, .iconst 0, 1, [0, 0]), (6, .istore_n 2, 1, [2]), (7, .iload_n 2, 1, [2]), (8, .aload_n 0, 1, [0]), (9, .getfield 46, 3, [2, 9, 0, 0, 1, 67]), (12, .if_icmp .ge 29, 3, [41]), (15, .iload_n 1, 1, [1]), (16, .iconst (-1), 1, [1, 1]), (17, .if_icmp .eq 24, 3, [41]), (20, .aload_n 0, 1, [0]), (21, .getfield 33, 3, [2, 7, 1, 0, 1, 61]), (24, .iload_n 2, 1, [2]), (25, .iaload, 1, []), (26, .ifCond .ne 9, 3, [35]), (29, .aload_n 0, 1, [0]), (30, .iload_n 2, 1, [2]), (31, .iload_n 1, 1, [1]), (32, .invokevirtual 80, 3, [0, 1, 3, 0, 3, 28, 3, 3, 1, 2, 3, 5, 3, 4]), (35, .iinc 2 1, 3, [2, 0, 1]), (38, .goto (-31), 3, [7]), (41, .iconst 0, 1, [0, 0]), (42, .istore_n 2, 1, [2]), (43, .iload_n 2, 1, [2]), (44, .aload_n 0, 1, [0]), (45, .getfield 46, 3, [2, 9, 0, 0, 1, 67]), (48, .if_icmp .ge 36, 3, [84]), (51, .aload_n 0, 1, [0]), (52, .getfield 33, 3, [2, 7, 1, 0, 1, 61]), (55, .iload_n 2, 1, [2]), (56, .iaload, 1, []), (57, .iconst 1, 1, [0, 1]), (58, .if_icmp .ne 20, 3, [78]), (61, .aload_n 0, 1, [0]), (62, .iload_n 2, 1, [2]), (63, .aload_n 0, 1, [0]), (64, .getfield 30, 3, [2, 6, 1, 0, 1, 57]), (67, .iload_n 2, 1, [2]), (68, .iaload, 1, []), (69, .aload_n 0, 1, [0]), (70, .iload_n 2, 1, [2]), (71, .invokevirtual 83, 3, [0, 2, 2, 0, 3, 29, 2, 220, 1, 2, 2, 222, 2, 221]), (74, .isub, 1, []), (75, .invokevirtual 87, 3, [0, 3, 3, 0, 3, 30, 3, 31, 1, 2, 3, 33, 3, 32]), (78, .iinc 2 1, 3, [2, 0, 1]), (81, .goto (-38), 3, [43]), (84, .iconst 0, 1, [0, 0]), (85, .istore_n 2, 1, [2]), (86, .iload_n 2, 1, [2]), (87, .bipush 8, 2, [0, 8]), (89, .if_icmp .ge 30, 3, [119]), (92, .aload_n 0, 1, [0]), (93, .getfield 18, 3, [2, 2, 1, 0, 1, 42]), (96, .iload_n 2, 1, [2]), (97, .iaload, 1, []), (98, .bipush 9, 2, [0, 9]), (100, .if_icmp .ge 13, 3, [113]), (103, .aload_n 0, 1, [0]), (104, .getfield 18, 3, [2, 2, 1, 0, 1, 42]), (107, .iload_n 2, 1, [2]), (108, .dup2, 1, []), (109, .iaload, 1, []), (110, .iconst 1, 1, [0, 1]), (111, .iadd, 1, []), (112, .iastore, 1, []), (113, .iinc 2 1, 3, [2, 0, 1]), (116, .goto (-30), 3, [86]), (119, .aload_n 0, 1, [0]), (120, .dup, 1, []), (121, .getfield 49, 3, [2, 10, 0, 0, 1, 71]), (124, .iconst 1, 1, [0, 1]), (125, .iadd, 1, []), (126, .putfield 49, 3, [2, 10, 0, 0, 1, 71]), (129, .return_, 1, [])]
def gM_passDay : List (mv_C H2) := [((0, 0), cM_vatOfToday), ((0, 0), cM_dipInto), ((0, 0), cM_fades), ((0, 0), cM_deepen)]
def nM_passDay : List (mv_MD × Bool) := [(mdM_vatOfToday, true), (mdM_dipInto, true), (mdM_fades, true), (mdM_deepen, true)]
def tM_passDays : List mv_E := [(0, .iconst 0, 1, [0, 0]), (1, .istore_n 2, 1, [2]), (2, .iload_n 2, 1, [2]), (3, .iload_n 1, 1, [1]), (4, .if_icmp .ge 13, 3, [17]), (7, .aload_n 0, 1, [0]), (8, .invokevirtual 73, 3, [0, 0, 1, 0, 3, 20, 3, 21, 1, 2, 3, 23, 3, 22]), (11, .iinc 2 1, 3, [2, 0, 1]), (14, .goto (-12), 3, [2]), (17, .return_, 1, [])]
def gM_passDays : List (mv_C H2) := [((0, 0), cM_passDay)]
def nM_passDays : List (mv_MD × Bool) := [(mdM_passDay, true)]
def tF_behind : List mv_E := [(0, .aload_n 0, 1, [0]), (1, .getfield 12, 3, [1, 0, 1, 0, 1, 110]), (4, .aload_n 1, 1, [1]), (5, .invokevirtual 18, 3, [0, 0, 2, 0, 3, 67, 2, 152, 1, 2, 2, 154, 2, 153]), (8, .aload_n 0, 1, [0]), (9, .getfield 12, 3, [1, 0, 1, 0, 1, 110]), (12, .iload_n 2, 1, [2]), (13, .invokevirtual 22, 3, [0, 1, 2, 0, 3, 68, 3, 17, 1, 2, 3, 19, 3, 18]), (16, .aload_n 0, 1, [0]), (17, .getfield 12, 3, [1, 0, 1, 0, 1, 110]), (20, .areturn, 1, [])]
def gF_behind : List (mv_C H2) := [((0, 0), cM_copyFrom), ((0, 0), cM_passDays)]
def nF_behind : List (mv_MD × Bool) := [(mdM_copyFrom, true), (mdM_passDays, true)]
def tM_allDepths : List mv_E := [(0, .iconst 0, 1, [0, 0]), (1, .istore_n 1, 1, [1]), (2, .iconst 0, 1, [0, 0]), (3, .istore_n 2, 1, [2]), (4, .iload_n 2, 1, [2]), (5, .aload_n 0, 1, [0]), (6, .getfield 46, 3, [2, 9, 0, 0, 1, 67]), (9, .if_icmp .ge 18, 3, [27]), (12, .iload_n 1, 1, [1]), (13, .aload_n 0, 1, [0]), (14, .getfield 30, 3, [2, 6, 1, 0, 1, 57]), (17, .iload_n 2, 1, [2]), (18, .iaload, 1, []), (19, .iadd, 1, []), (20, .istore_n 1, 1, [1]), (21, .iinc 2 1, 3, [2, 0, 1]), (24, .goto (-20), 3, [4]), (27, .iload_n 1, 1, [1]), (28, .ireturn, 1, [0])]
def gM_allDepths : List (mv_C H2) := []
def nM_allDepths : List (mv_MD × Bool) := []
def tM_draw : List mv_E := [(0, .aload_n 0, 1, [0]), (1, .aload_n 0, 1, [0]), (2, .getfield 39, 3, [2, 11, 0, 0, 1, 73]), (5, .ldc 90, 2, [0, 0, 1103515245, 3, 54]), (7, .imul, 1, []), (8, .sipush 12345, 3, [0, 12345]), (11, .iadd, 1, []), (12, .putfield 39, 3, [2, 11, 0, 0, 1, 73]), (15, .aload_n 0, 1, [0]), (16, .getfield 39, 3, [2, 11, 0, 0, 1, 73]), (19, .bipush 16, 2, [0, 16]), (21, .iushr, 1, []), (22, .ireturn, 1, [0])]
def gM_draw : List (mv_C H2) := []
def nM_draw : List (mv_MD × Bool) := []
def tM_passDrawnDay : List mv_E := [(0, .aload_n 0, 1, [0]), (1, .getfield 46, 3, [2, 9, 0, 0, 1, 67]), (4, .ifCond .le 41, 3, [45]), (7, .aload_n 0, 1, [0]), (8, .invokevirtual 91, 3, [0, 0, 1, 0, 3, 50, 3, 51, 1, 2, 3, 53, 3, 52]), (11, .aload_n 0, 1, [0]), (12, .getfield 46, 3, [2, 9, 0, 0, 1, 67]), (15, .irem, 1, []), (16, .istore_n 1, 1, [1]), (17, .aload_n 0, 1, [0]), (18, .invokevirtual 91, 3, [0, 0, 1, 0, 3, 50, 3, 51, 1, 2, 3, 53, 3, 52]), (21, .bipush 100, 2, [0, 100]), (23, .irem, 1, []), (24, .aload_n 0, 1, [0]), (25, .getfield 9, 3, [2, 0, 1, 0, 1, 36]), (28, .iconst 3, 1, [0, 3]), (29, .iaload, 1, []), (30, .if_icmp .ge 15, 3, [45]), (33, .aload_n 0, 1, [0]), (34, .iload_n 1, 1, [1]), (35, .aload_n 0, 1, [0]), (36, .invokevirtual 91, 3, [0, 0, 1, 0, 3, 50, 3, 51, 1, 2, 3, 53, 3, 52]), (39, .bipush 8, 2, [0, 8]), (41, .irem, 1, []), (42, .invokevirtual 80, 3, [0, 1, 3, 0, 3, 28, 3, 3, 1, 2, 3, 5, 3, 4]), (45, .aload_n 0, 1, [0]), (46, .invokevirtual 73, 3, [0, 2, 1, 0, 3, 20, 3, 21, 1, 2, 3, 23, 3, 22]), (49, .return_, 1, [])]
def gM_passDrawnDay : List (mv_C H2) := [((0, 0), cM_draw), ((0, 0), cM_dipInto), ((0, 0), cM_passDay)]
def nM_passDrawnDay : List (mv_MD × Bool) := [(mdM_draw, true), (mdM_dipInto, true), (mdM_passDay, true)]
def tF_luckyDays : List mv_E := [(0, .aload_n 0, 1, [0]), (1, .aload_n 1, 1, [1]), (2, .iconst 1, 1, [0, 1]), (3, .invokevirtual 26, 3, [0, 0, 3, 0, 3, 63, 3, 64, 1, 3, 3, 66, 3, 65]), (6, .invokevirtual 30, 3, [0, 1, 1, 0, 3, 69, 3, 35, 1, 2, 3, 37, 3, 36]), (9, .istore_n 3, 1, [3]), (10, .aload_n 1, 1, [1]), (11, .getfield 34, 3, [2, 11, 0, 0, 1, 74]), (14, .istore 4, 2, [4]), (16, .iconst 0, 1, [0, 0]), (17, .istore 5, 2, [5]), (19, .iconst 0, 1, [0, 0]), (20, .istore 6, 2, [6]), (22, .iload 6, 2, [6]), (24, .iload_n 2, 1, [2]), (25, .if_icmp .ge 56, 3, [81]), (28, .aload_n 0, 1, [0]), (29, .getfield 12, 3, [1, 0, 1, 0, 1, 110]), (32, .aload_n 1, 1, [1]), (33, .invokevirtual 18, 3, [0, 2, 2, 0, 3, 67, 2, 152, 1, 2, 2, 154, 2, 153]), (36, .aload_n 0, 1, [0]), (37, .getfield 12, 3, [1, 0, 1, 0, 1, 110]), (40, .iload 4, 2, [4]), (42, .putfield 34, 3, [2, 11, 0, 0, 1, 74]), (45, .aload_n 0, 1, [0]), (46, .getfield 12, 3, [1, 0, 1, 0, 1, 110]), (49, .invokevirtual 38, 3, [0, 3, 1, 0, 3, 70, 3, 47, 1, 2, 3, 49, 3, 48]), (52, .aload_n 0, 1, [0]), (53, .getfield 12, 3, [1, 0, 1, 0, 1, 110]), (56, .getfield 34, 3, [2, 11, 0, 0, 1, 74]), (59, .istore 4, 2, [4]), (61, .aload_n 0, 1, [0]), (62, .getfield 12, 3, [1, 0, 1, 0, 1, 110]), (65, .invokevirtual 30, 3, [0, 1, 1, 0, 3, 69, 3, 35, 1, 2, 3, 37, 3, 36]), (68, .iload_n 3, 1, [3]), (69, .if_icmp .le 6, 3, [75]), (72, .iinc 5 1, 3, [5, 0, 1]), (75, .iinc 6 1, 3, [6, 0, 1]), (78, .goto (-56), 3, [22]), (81, .iload 5, 2, [5]), (83, .ireturn, 1, [0])]
def gF_luckyDays : List (mv_C H2) := [((0, 0), cF_behind), ((0, 0), cM_allDepths), ((0, 0), cM_copyFrom), ((0, 0), cM_passDrawnDay)]
def nF_luckyDays : List (mv_MD × Bool) := [(mdF_behind, true), (mdM_allDepths, true), (mdM_copyFrom, true), (mdM_passDrawnDay, true)]
def tF_daysUntilAbout : List mv_E := [(0, .aload_n 0, 1, [0]), (1, .getfield 12, 3, [1, 0, 1, 0, 1, 110]), (4, .aload_n 1, 1, [1]), (5, .invokevirtual 18, 3, [0, 0, 2, 0, 3, 67, 2, 152, 1, 2, 2, 154, 2, 153]), (8, .iconst 0, 1, [0, 0]), (9, .istore 4, 2, [4]), (11, .iload 4, 2, [4]), (13, .bipush 60, 2, [0, 60]), (15, .if_icmp .gt 32, 3, [47]), (18, .aload_n 0, 1, [0]), (19, .getfield 12, 3, [1, 0, 1, 0, 1, 110]), (22, .getfield 41, 3, [2, 5, 1, 0, 1, 54]), (25, .iload_n 2, 1, [2]), (26, .iaload, 1, []), (27, .iload_n 3, 1, [3]), (28, .if_icmp .ne 6, 3, [34]), (31, .iload 4, 2, [4]), (33, .ireturn, 1, [0]), (34, .aload_n 0, 1, [0]), (35, .getfield 12, 3, [1, 0, 1, 0, 1, 110]), (38, .invokevirtual 45, 3, [0, 1, 1, 0, 3, 112, 3, 21, 1, 2, 3, 23, 3, 22]), (41, .iinc 4 1, 3, [4, 0, 1]), (44, .goto (-33), 3, [11]), (47, .bipush (-3), 2, [1, 3]), (49, .ireturn, 1, [0])]
def gF_daysUntilAbout : List (mv_C H2) := [((0, 0), cM_copyFrom), ((0, 0), cM_passDay)]
def nF_daysUntilAbout : List (mv_MD × Bool) := [(mdM_copyFrom, true), (mdM_passDay, true)]
def tF_spoiltFromHere : List mv_E := [(0, .aload_n 0, 1, [0]), (1, .getfield 12, 3, [1, 0, 1, 0, 1, 110]), (4, .iload_n 2, 1, [2]), (5, .invokevirtual 22, 3, [0, 0, 2, 0, 3, 68, 3, 17, 1, 2, 3, 19, 3, 18]), (8, .iconst 0, 1, [0, 0]), (9, .istore_n 3, 1, [3]), (10, .iconst 0, 1, [0, 0]), (11, .istore 4, 2, [4]), (13, .iload 4, 2, [4]), (15, .aload_n 1, 1, [1]), (16, .getfield 52, 3, [2, 9, 0, 0, 1, 69]), (19, .if_icmp .ge 32, 3, [51]), (22, .aload_n 0, 1, [0]), (23, .getfield 12, 3, [1, 0, 1, 0, 1, 110]), (26, .getfield 41, 3, [2, 5, 1, 0, 1, 54]), (29, .iload 4, 2, [4]), (31, .iaload, 1, []), (32, .aload_n 1, 1, [1]), (33, .getfield 41, 3, [2, 5, 1, 0, 1, 54]), (36, .iload 4, 2, [4]), (38, .iaload, 1, []), (39, .if_icmp .eq 6, 3, [45]), (42, .iinc 3 1, 3, [3, 0, 1]), (45, .iinc 4 1, 3, [4, 0, 1]), (48, .goto (-35), 3, [13]), (51, .iload_n 3, 1, [3]), (52, .ireturn, 1, [0])]
def gF_spoiltFromHere : List (mv_C H2) := [((0, 0), cM_passDays)]
def nF_spoiltFromHere : List (mv_MD × Bool) := [(mdM_passDays, true)]
def tF_spoiltBehind : List mv_E := [(0, .aload_n 0, 1, [0]), (1, .getfield 12, 3, [1, 0, 1, 0, 1, 110]), (4, .aload_n 1, 1, [1]), (5, .invokevirtual 18, 3, [0, 0, 2, 0, 3, 67, 2, 152, 1, 2, 2, 154, 2, 153]), (8, .aload_n 0, 1, [0]), (9, .aload_n 1, 1, [1]), (10, .iload_n 2, 1, [2]), (11, .invokevirtual 48, 3, [0, 1, 3, 0, 3, 125, 3, 127, 1, 3, 3, 128, 0, 16]), (14, .ireturn, 1, [0])]
def gF_spoiltBehind : List (mv_C H2) := [((0, 0), cM_copyFrom), ((0, 0), cF_spoiltFromHere)]
def nF_spoiltBehind : List (mv_MD × Bool) := [(mdM_copyFrom, true), (mdF_spoiltFromHere, true)]
def tF_leadsTo : List mv_E := [(0, .aload_n 1, 1, [1]), (1, .getfield 59, 3, [2, 2, 1, 0, 1, 44]), (4, .iconst 0, 1, [0, 0]), (5, .aload_n 0, 1, [0]), (6, .getfield 12, 3, [1, 0, 1, 0, 1, 110]), (9, .getfield 59, 3, [2, 2, 1, 0, 1, 44]), (12, .iconst 0, 1, [0, 0]), (13, .bipush 8, 2, [0, 8]), (15, .invokestatic 62, 3, [4, 3, 141, 2, 157, 2, 156, 1, 13]), (18, .aload_n 0, 1, [0]), (19, .getfield 12, 3, [1, 0, 1, 0, 1, 110]), (22, .getfield 41, 3, [2, 5, 1, 0, 1, 54]), (25, .iload_n 2, 1, [2]), (26, .aload_n 1, 1, [1]), (27, .getfield 41, 3, [2, 5, 1, 0, 1, 54]), (30, .iload_n 2, 1, [2]), (31, .iaload, 1, []), (32, .iastore, 1, []), (33, .aload_n 0, 1, [0]), (34, .getfield 12, 3, [1, 0, 1, 0, 1, 110]), (37, .getfield 68, 3, [2, 6, 1, 0, 1, 59]), (40, .iload_n 2, 1, [2]), (41, .aload_n 1, 1, [1]), (42, .getfield 68, 3, [2, 6, 1, 0, 1, 59]), (45, .iload_n 2, 1, [2]), (46, .iaload, 1, []), (47, .iastore, 1, []), (48, .iload 4, 2, [4]), (50, .iconst 1, 1, [0, 1]), (51, .isub, 1, []), (52, .istore 6, 2, [6]), (54, .iload 6, 2, [6]), (56, .ifCond .lt 27, 3, [83]), (59, .aload_n 0, 1, [0]), (60, .getfield 12, 3, [1, 0, 1, 0, 1, 110]), (63, .iload_n 2, 1, [2]), (64, .iload 5, 2, [5]), (66, .iconst 3, 1, [0, 3]), (67, .iload 6, 2, [6]), (69, .imul, 1, []), (70, .ishr, 1, []), (71, .bipush 7, 2, [0, 7]), (73, .iand, 1, []), (74, .invokevirtual 71, 3, [0, 0, 3, 0, 3, 142, 3, 3, 1, 2, 3, 5, 3, 4]), (77, .iinc 6 (-1), 3, [6, 1, 1]), (80, .goto (-26), 3, [54]), (83, .aload_n 0, 1, [0]), (84, .getfield 12, 3, [1, 0, 1, 0, 1, 110]), (87, .getfield 41, 3, [2, 5, 1, 0, 1, 54]), (90, .iload_n 2, 1, [2]), (91, .iaload, 1, []), (92, .iload_n 3, 1, [3]), (93, .if_icmp .ne 7, 3, [100]), (96, .iconst 1, 1, [0, 1]), (97, .goto 4, 3, [101]), (100, .iconst 0, 1, [0, 0]), (101, .ireturn, 1, [1])]
def gF_leadsTo : List (mv_C H2) := [((0, 0), cM_dipInto)]
def nF_leadsTo : List (mv_MD × Bool) := [(mdM_dipInto, true)]
def tF_vatsThrough : List mv_E := [(0, .aload_n 0, 1, [0]), (1, .getfield 12, 3, [1, 0, 1, 0, 1, 110]), (4, .aload_n 1, 1, [1]), (5, .invokevirtual 18, 3, [0, 0, 2, 0, 3, 67, 2, 152, 1, 2, 2, 154, 2, 153]), (8, .iconst 1, 1, [0, 1]), (9, .istore 4, 2, [4]), (11, .iconst 0, 1, [0, 0]), (12, .istore 5, 2, [5]), (14, .iload 5, 2, [5]), (16, .iconst 3, 1, [0, 3]), (17, .if_icmp .gt 52, 3, [69]), (20, .iconst 0, 1, [0, 0]), (21, .istore 6, 2, [6]), (23, .iload 6, 2, [6]), (25, .iload 4, 2, [4]), (27, .if_icmp .ge 29, 3, [56]), (30, .aload_n 0, 1, [0]), (31, .aload_n 1, 1, [1]), (32, .iload_n 2, 1, [2]), (33, .iload_n 3, 1, [3]), (34, .iload 5, 2, [5]), (36, .iload 6, 2, [6]), (38, .invokevirtual 55, 3, [0, 1, 6, 0, 3, 137, 3, 139, 1, 3, 3, 140, 0, 17]), (41, .ifCond .eq 9, 3, [50]), (44, .iload 4, 2, [4]), (46, .iload 6, 2, [6]), (48, .iadd, 1, []), (49, .ireturn, 1, [0]), (50, .iinc 6 1, 3, [6, 0, 1]), (53, .goto (-30), 3, [23]), (56, .iload 4, 2, [4]), (58, .bipush 8, 2, [0, 8]), (60, .imul, 1, []), (61, .istore 4, 2, [4]), (63, .iinc 5 1, 3, [5, 0, 1]), (66, .goto (-52), 3, [14]), (69, .bipush (-3), 2, [1, 3]), (71, .ireturn, 1, [0])]
def gF_vatsThrough : List (mv_C H2) := [((0, 0), cM_copyFrom), ((0, 0), cF_leadsTo)]
def nF_vatsThrough : List (mv_MD × Bool) := [(mdM_copyFrom, true), (mdF_leadsTo, true)]
def tF_deepestVat : List mv_E := [(0, .iconst 0, 1, [0, 0]), (1, .istore 4, 2, [4]), (3, .iconst (-1), 1, [1, 1]), (4, .istore 5, 2, [5]), (6, .iconst 0, 1, [0, 0]), (7, .istore 6, 2, [6]), (9, .iload 6, 2, [6]), (11, .bipush 8, 2, [0, 8]), (13, .if_icmp .ge 60, 3, [73]), (16, .aload_n 0, 1, [0]), (17, .getfield 12, 3, [1, 0, 1, 0, 1, 110]), (20, .aload_n 1, 1, [1]), (21, .invokevirtual 18, 3, [0, 0, 2, 0, 3, 67, 2, 152, 1, 2, 2, 154, 2, 153]), (24, .aload_n 0, 1, [0]), (25, .getfield 12, 3, [1, 0, 1, 0, 1, 110]), (28, .getfield 75, 3, [2, 3, 1, 0, 1, 48]), (31, .iload_n 2, 1, [2]), (32, .iload 6, 2, [6]), (34, .iastore, 1, []), (35, .aload_n 0, 1, [0]), (36, .getfield 12, 3, [1, 0, 1, 0, 1, 110]), (39, .iload_n 3, 1, [3]), (40, .invokevirtual 22, 3, [0, 1, 2, 0, 3, 68, 3, 17, 1, 2, 3, 19, 3, 18]), (43, .aload_n 0, 1, [0]), (44, .getfield 12, 3, [1, 0, 1, 0, 1, 110]), (47, .invokevirtual 30, 3, [0, 2, 1, 0, 3, 69, 3, 35, 1, 2, 3, 37, 3, 36]), (50, .istore 7, 2, [7]), (52, .iload 7, 2, [7]), (54, .iload 5, 2, [5]), (56, .if_icmp .le 11, 3, [67]), (59, .iload 7, 2, [7]), (61, .istore 5, 2, [5]), (63, .iload 6, 2, [6]), (65, .istore 4, 2, [4]), (67, .iinc 6 1, 3, [6, 0, 1]), (70, .goto (-61), 3, [9]), (73, .iload 4, 2, [4]), (75, .ireturn, 1, [0])]
def gF_deepestVat : List (mv_C H2) := [((0, 0), cM_copyFrom), ((0, 0), cM_passDays), ((0, 0), cM_allDepths)]
def nF_deepestVat : List (mv_MD × Bool) := [(mdM_copyFrom, true), (mdM_passDays, true), (mdM_allDepths, true)]
def tF_deepestKind : List mv_E := [(0, .iconst 0, 1, [0, 0]), (1, .istore 4, 2, [4]), (3, .iconst (-1), 1, [1, 1]), (4, .istore 5, 2, [5]), (6, .iconst 0, 1, [0, 0]), (7, .istore 6, 2, [6]), (9, .iload 6, 2, [6]), (11, .bipush 6, 2, [0, 6]), (13, .if_icmp .ge 65, 3, [78]), (16, .aload_n 0, 1, [0]), (17, .getfield 12, 3, [1, 0, 1, 0, 1, 110]), (20, .aload_n 1, 1, [1]), (21, .invokevirtual 18, 3, [0, 0, 2, 0, 3, 67, 2, 152, 1, 2, 2, 154, 2, 153]), (24, .aload_n 0, 1, [0]), (25, .getfield 12, 3, [1, 0, 1, 0, 1, 110]), (28, .getfield 78, 3, [2, 4, 1, 0, 1, 51]), (31, .iload_n 2, 1, [2]), (32, .iload 6, 2, [6]), (34, .iastore, 1, []), (35, .aload_n 0, 1, [0]), (36, .getfield 12, 3, [1, 0, 1, 0, 1, 110]), (39, .iload_n 3, 1, [3]), (40, .invokevirtual 22, 3, [0, 1, 2, 0, 3, 68, 3, 17, 1, 2, 3, 19, 3, 18]), (43, .aload_n 0, 1, [0]), (44, .getfield 12, 3, [1, 0, 1, 0, 1, 110]), (47, .getfield 68, 3, [2, 6, 1, 0, 1, 59]), (50, .iload_n 2, 1, [2]), (51, .iaload, 1, []), (52, .iload 5, 2, [5]), (54, .if_icmp .le 18, 3, [72]), (57, .aload_n 0, 1, [0]), (58, .getfield 12, 3, [1, 0, 1, 0, 1, 110]), (61, .getfield 68, 3, [2, 6, 1, 0, 1, 59]), (64, .iload_n 2, 1, [2]), (65, .iaload, 1, []), (66, .istore 5, 2, [5]), (68, .iload 6, 2, [6]), (70, .istore 4, 2, [4]), (72, .iinc 6 1, 3, [6, 0, 1]), (75, .goto (-66), 3, [9]), (78, .iload 4, 2, [4]), (80, .ireturn, 1, [0])]
def gF_deepestKind : List (mv_C H2) := [((0, 0), cM_copyFrom), ((0, 0), cM_passDays)]
def nF_deepestKind : List (mv_MD × Bool) := [(mdM_copyFrom, true), (mdM_passDays, true)]
def tF_leastStrength : List mv_E := [(0, .iconst 0, 1, [0, 0]), (1, .istore 6, 2, [6]), (3, .iload 6, 2, [6]), (5, .bipush 9, 2, [0, 9]), (7, .if_icmp .gt 54, 3, [61]), (10, .aload_n 0, 1, [0]), (11, .getfield 12, 3, [1, 0, 1, 0, 1, 110]), (14, .aload_n 1, 1, [1]), (15, .invokevirtual 18, 3, [0, 0, 2, 0, 3, 67, 2, 152, 1, 2, 2, 154, 2, 153]), (18, .aload_n 0, 1, [0]), (19, .getfield 12, 3, [1, 0, 1, 0, 1, 110]), (22, .getfield 59, 3, [2, 2, 1, 0, 1, 44]), (25, .iload_n 2, 1, [2]), (26, .iload 6, 2, [6]), (28, .iastore, 1, []), (29, .aload_n 0, 1, [0]), (30, .getfield 12, 3, [1, 0, 1, 0, 1, 110]), (33, .iload 5, 2, [5]), (35, .invokevirtual 22, 3, [0, 1, 2, 0, 3, 68, 3, 17, 1, 2, 3, 19, 3, 18]), (38, .aload_n 0, 1, [0]), (39, .getfield 12, 3, [1, 0, 1, 0, 1, 110]), (42, .getfield 41, 3, [2, 5, 1, 0, 1, 54]), (45, .iload_n 3, 1, [3]), (46, .iaload, 1, []), (47, .iload 4, 2, [4]), (49, .if_icmp .ne 6, 3, [55]), (52, .iload 6, 2, [6]), (54, .ireturn, 1, [0]), (55, .iinc 6 1, 3, [6, 0, 1]), (58, .goto (-55), 3, [3]), (61, .bipush (-3), 2, [1, 3]), (63, .ireturn, 1, [0])]
def gF_leastStrength : List (mv_C H2) := [((0, 0), cM_copyFrom), ((0, 0), cM_passDays)]
def nF_leastStrength : List (mv_MD × Bool) := [(mdM_copyFrom, true), (mdM_passDays, true)]
def tJ_bitCount_0f7a4 : List mv_E := [(0, .iload_n 0, 1, [0]), (1, .iload_n 0, 1, [0]), (2, .iconst 1, 1, [0, 1]), (3, .iushr, 1, []), (4, .ldc_w 265, 3, [0, 0, 1431655765, 3, 178]), (7, .iand, 1, []), (8, .isub, 1, []), (9, .istore_n 0, 1, [0]), (10, .iload_n 0, 1, [0]), (11, .ldc_w 266, 3, [0, 0, 858993459, 3, 179]), (14, .iand, 1, []), (15, .iload_n 0, 1, [0]), (16, .iconst 2, 1, [0, 2]), (17, .iushr, 1, []), (18, .ldc_w 266, 3, [0, 0, 858993459, 3, 179]), (21, .iand, 1, []), (22, .iadd, 1, []), (23, .istore_n 0, 1, [0]), (24, .iload_n 0, 1, [0]), (25, .iload_n 0, 1, [0]), (26, .iconst 4, 1, [0, 4]), (27, .iushr, 1, []), (28, .iadd, 1, []), (29, .ldc_w 267, 3, [0, 0, 252645135, 3, 180]), (32, .iand, 1, []), (33, .istore_n 0, 1, [0]), (34, .iload_n 0, 1, [0]), (35, .iload_n 0, 1, [0]), (36, .bipush 8, 2, [0, 8]), (38, .iushr, 1, []), (39, .iadd, 1, []), (40, .istore_n 0, 1, [0]), (41, .iload_n 0, 1, [0]), (42, .iload_n 0, 1, [0]), (43, .bipush 16, 2, [0, 16]), (45, .iushr, 1, []), (46, .iadd, 1, []), (47, .istore_n 0, 1, [0]), (48, .iload_n 0, 1, [0]), (49, .bipush 63, 2, [0, 63]), (51, .iand, 1, []), (52, .ireturn, 1, [0])]
def gJ_bitCount_0f7a4 : List (mv_C H2) := []
def nJ_bitCount_0f7a4 : List (mv_MD × Bool) := []
def tF_hangJust : List mv_E := [(0, .aload_n 0, 1, [0]), (1, .getfield 12, 3, [1, 0, 1, 0, 1, 110]), (4, .aload_n 1, 1, [1]), (5, .invokevirtual 18, 3, [0, 0, 2, 0, 3, 67, 2, 152, 1, 2, 2, 154, 2, 153]), (8, .iconst 0, 1, [0, 0]), (9, .istore_n 3, 1, [3]), (10, .iload_n 3, 1, [3]), (11, .aload_n 1, 1, [1]), (12, .getfield 52, 3, [2, 9, 0, 0, 1, 69]), (15, .if_icmp .ge 23, 3, [38]), (18, .aload_n 0, 1, [0]), (19, .getfield 12, 3, [1, 0, 1, 0, 1, 110]), (22, .getfield 91, 3, [2, 7, 1, 0, 1, 64]), (25, .iload_n 3, 1, [3]), (26, .iload_n 2, 1, [2]), (27, .iload_n 3, 1, [3]), (28, .ishr, 1, []), (29, .iconst 1, 1, [0, 1]), (30, .iand, 1, []), (31, .iastore, 1, []), (32, .iinc 3 1, 3, [3, 0, 1]), (35, .goto (-25), 3, [10]), (38, .return_, 1, [])]
def gF_hangJust : List (mv_C H2) := [((0, 0), cM_copyFrom)]
def nF_hangJust : List (mv_MD × Bool) := [(mdM_copyFrom, true)]
def tF_fewestHung : List mv_E := [(0, .iconst 1, 1, [0, 1]), (1, .aload_n 1, 1, [1]), (2, .getfield 52, 3, [2, 9, 0, 0, 1, 69]), (5, .ishl, 1, []), (6, .istore 4, 2, [4]), (8, .iconst 0, 1, [0, 0]), (9, .istore 5, 2, [5]), (11, .iload 5, 2, [5]), (13, .aload_n 1, 1, [1]), (14, .getfield 52, 3, [2, 9, 0, 0, 1, 69]), (17, .if_icmp .gt 58, 3, [75]), (20, .iconst 0, 1, [0, 0]), (21, .istore 6, 2, [6]), (23, .iload 6, 2, [6]), (25, .iload 4, 2, [4]), (27, .if_icmp .ge 42, 3, [69]), (30, .iload 6, 2, [6]), (32, .invokestatic 81, 3, [0, 0, 1, 1, 3, 175, 3, 176, 1, 15, 3, 177]), (35, .iload 5, 2, [5]), (37, .if_icmp .eq 6, 3, [43]), (40, .goto 23, 3, [63]), (43, .aload_n 0, 1, [0]), (44, .aload_n 1, 1, [1]), (45, .iload 6, 2, [6]), (47, .invokevirtual 87, 3, [0, 1, 3, 0, 3, 181, 3, 183, 1, 3, 3, 184, 0, 18]), (50, .aload_n 0, 1, [0]), (51, .aload_n 1, 1, [1]), (52, .iload_n 2, 1, [2]), (53, .invokevirtual 48, 3, [0, 2, 3, 0, 3, 125, 3, 127, 1, 3, 3, 128, 0, 16]), (56, .iload_n 3, 1, [3]), (57, .if_icmp .gt 6, 3, [63]), (60, .iload 6, 2, [6]), (62, .ireturn, 1, [0]), (63, .iinc 6 1, 3, [6, 0, 1]), (66, .goto (-43), 3, [23]), (69, .iinc 5 1, 3, [5, 0, 1]), (72, .goto (-61), 3, [11]), (75, .bipush (-3), 2, [1, 3]), (77, .ireturn, 1, [0])]
def gF_fewestHung : List (mv_C H2) := [((0, 0), cJ_bitCount_0f7a4), ((0, 0), cF_hangJust), ((0, 0), cF_spoiltFromHere)]
def nF_fewestHung : List (mv_MD × Bool) := [(mdJ_bitCount_0f7a4, false), (mdF_hangJust, true), (mdF_spoiltFromHere, true)]
def tS_size : List mv_E := [(0, .aload_n 0, 1, [0]), (1, .getfield 13, 3, [4, 1, 1, 0, 4, 57]), (4, .arraylength, 1, []), (5, .ireturn, 1, [0])]
def gS_size : List (mv_C H2) := []
def nS_size : List (mv_MD × Bool) := []
def tS_read : List mv_E := [(0, .aload_n 0, 1, [0]), (1, .getfield 13, 3, [4, 1, 1, 0, 4, 57]), (4, .iload_n 1, 1, [1]), (5, .iaload, 1, []), (6, .ireturn, 1, [0])]
def gS_read : List (mv_C H2) := []
def nS_read : List (mv_MD × Bool) := []
def tF_fitsAs : List mv_E := [(0, .aload_n 0, 1, [0]), (1, .getfield 12, 3, [1, 0, 1, 0, 1, 110]), (4, .aload_n 1, 1, [1]), (5, .invokevirtual 18, 3, [0, 0, 2, 0, 3, 67, 2, 152, 1, 2, 2, 154, 2, 153]), (8, .aload_n 0, 1, [0]), (9, .getfield 12, 3, [1, 0, 1, 0, 1, 110]), (12, .getfield 41, 3, [2, 5, 1, 0, 1, 54]), (15, .iload_n 2, 1, [2]), (16, .iload_n 3, 1, [3]), (17, .iastore, 1, []), (18, .aload 4, 2, [4]), (20, .invokevirtual 98, 3, [0, 1, 1, 0, 3, 200, 3, 201, 1, 17, 3, 203, 3, 202]), (23, .istore 5, 2, [5]), (25, .iconst 0, 1, [0, 0]), (26, .istore 6, 2, [6]), (28, .iload 6, 2, [6]), (30, .iload 5, 2, [5]), (32, .if_icmp .ge 47, 3, [79]), (35, .aload_n 0, 1, [0]), (36, .getfield 12, 3, [1, 0, 1, 0, 1, 110]), (39, .invokevirtual 45, 3, [0, 2, 1, 0, 3, 112, 3, 21, 1, 2, 3, 23, 3, 22]), (42, .aload 4, 2, [4]), (44, .iload 6, 2, [6]), (46, .invokevirtual 103, 3, [0, 3, 2, 0, 3, 204, 3, 205, 1, 17, 3, 207, 3, 206]), (49, .istore 7, 2, [7]), (51, .iload 7, 2, [7]), (53, .iconst (-1), 1, [1, 1]), (54, .if_icmp .eq 19, 3, [73]), (57, .iload 7, 2, [7]), (59, .aload_n 0, 1, [0]), (60, .getfield 12, 3, [1, 0, 1, 0, 1, 110]), (63, .getfield 68, 3, [2, 6, 1, 0, 1, 59]), (66, .iload_n 2, 1, [2]), (67, .iaload, 1, []), (68, .if_icmp .eq 5, 3, [73]), (71, .iconst 0, 1, [0, 0]), (72, .ireturn, 1, [1]), (73, .iinc 6 1, 3, [6, 0, 1]), (76, .goto (-48), 3, [28]), (79, .iconst 1, 1, [0, 1]), (80, .ireturn, 1, [1])]
def gF_fitsAs : List (mv_C H2) := [((0, 0), cM_copyFrom), ((0, 0), cS_size), ((0, 0), cM_passDay), ((0, 0), cS_read)]
def nF_fitsAs : List (mv_MD × Bool) := [(mdM_copyFrom, true), (mdS_size, true), (mdM_passDay, true), (mdS_read, true)]
def tF_manyFitting : List mv_E := [(0, .aload_n 1, 1, [1]), (1, .getfield 68, 3, [2, 6, 1, 0, 1, 59]), (4, .iload_n 2, 1, [2]), (5, .iaload, 1, []), (6, .ifCond .ne 20, 3, [26]), (9, .aload_n 0, 1, [0]), (10, .aload_n 1, 1, [1]), (11, .iload_n 2, 1, [2]), (12, .iconst (-1), 1, [1, 1]), (13, .aload_n 3, 1, [3]), (14, .invokevirtual 94, 3, [0, 0, 5, 0, 3, 196, 3, 198, 1, 3, 3, 199, 0, 19]), (17, .ifCond .eq 7, 3, [24]), (20, .iconst 1, 1, [0, 1]), (21, .goto 4, 3, [25]), (24, .iconst 0, 1, [0, 0]), (25, .ireturn, 1, [0]), (26, .iconst 0, 1, [0, 0]), (27, .istore 4, 2, [4]), (29, .iconst 0, 1, [0, 0]), (30, .istore 5, 2, [5]), (32, .iload 5, 2, [5]), (34, .bipush 9, 2, [0, 9]), (36, .if_icmp .gt 24, 3, [60]), (39, .aload_n 0, 1, [0]), (40, .aload_n 1, 1, [1]), (41, .iload_n 2, 1, [2]), (42, .iload 5, 2, [5]), (44, .aload_n 3, 1, [3]), (45, .invokevirtual 94, 3, [0, 0, 5, 0, 3, 196, 3, 198, 1, 3, 3, 199, 0, 19]), (48, .ifCond .eq 6, 3, [54]), (51, .iinc 4 1, 3, [4, 0, 1]), (54, .iinc 5 1, 3, [5, 0, 1]), (57, .goto (-25), 3, [32]), (60, .iload 4, 2, [4]), (62, .ireturn, 1, [0])]
def gF_manyFitting : List (mv_C H2) := [((0, 0), cF_fitsAs)]
def nF_manyFitting : List (mv_MD × Bool) := [(mdF_fitsAs, true)]
def tF_leastFitting : List mv_E := [(0, .aload_n 1, 1, [1]), (1, .getfield 68, 3, [2, 6, 1, 0, 1, 59]), (4, .iload_n 2, 1, [2]), (5, .iaload, 1, []), (6, .ifCond .ne 21, 3, [27]), (9, .aload_n 0, 1, [0]), (10, .aload_n 1, 1, [1]), (11, .iload_n 2, 1, [2]), (12, .iconst (-1), 1, [1, 1]), (13, .aload_n 3, 1, [3]), (14, .invokevirtual 94, 3, [0, 0, 5, 0, 3, 196, 3, 198, 1, 3, 3, 199, 0, 19]), (17, .ifCond .eq 7, 3, [24]), (20, .iconst 0, 1, [0, 0]), (21, .goto 5, 3, [26]), (24, .bipush (-3), 2, [1, 3]), (26, .ireturn, 1, [0]), (27, .iconst 0, 1, [0, 0]), (28, .istore 4, 2, [4]), (30, .iload 4, 2, [4]), (32, .bipush 9, 2, [0, 9]), (34, .if_icmp .gt 26, 3, [60]), (37, .aload_n 0, 1, [0]), (38, .aload_n 1, 1, [1]), (39, .iload_n 2, 1, [2]), (40, .iload 4, 2, [4]), (42, .aload_n 3, 1, [3]), (43, .invokevirtual 94, 3, [0, 0, 5, 0, 3, 196, 3, 198, 1, 3, 3, 199, 0, 19]), (46, .ifCond .eq 8, 3, [54]), (49, .iconst 1, 1, [0, 1]), (50, .iload 4, 2, [4]), (52, .iadd, 1, []), (53, .ireturn, 1, [0]), (54, .iinc 4 1, 3, [4, 0, 1]), (57, .goto (-27), 3, [30]), (60, .bipush (-3), 2, [1, 3]), (62, .ireturn, 1, [0])]
def gF_leastFitting : List (mv_C H2) := [((0, 0), cF_fitsAs)]
def nF_leastFitting : List (mv_MD × Bool) := [(mdF_fitsAs, true)]
def tF_rowPart : List mv_E := [(0, .iload_n 2, 1, [2]), (1, .lookupswitch 49 #[(0, 27), (1, 39)], 27, [50, 0, 28, 1, 40]), (28, .iconst 1, 1, [0, 1]), (29, .aload_n 0, 1, [0]), (30, .getfield 12, 3, [1, 0, 1, 0, 1, 110]), (33, .getfield 41, 3, [2, 5, 1, 0, 1, 54]), (36, .iload_n 1, 1, [1]), (37, .iaload, 1, []), (38, .iadd, 1, []), (39, .ireturn, 1, [0]), (40, .aload_n 0, 1, [0]), (41, .getfield 12, 3, [1, 0, 1, 0, 1, 110]), (44, .getfield 68, 3, [2, 6, 1, 0, 1, 59]), (47, .iload_n 1, 1, [1]), (48, .iaload, 1, []), (49, .ireturn, 1, [0]), (50, .aload_n 0, 1, [0]), (51, .getfield 12, 3, [1, 0, 1, 0, 1, 110]), (54, .invokevirtual 30, 3, [0, 0, 1, 0, 3, 69, 3, 35, 1, 2, 3, 37, 3, 36]), (57, .ireturn, 1, [0])]
def gF_rowPart : List (mv_C H2) := [((0, 0), cM_allDepths)]
def nF_rowPart : List (mv_MD × Bool) := [(mdM_allDepths, true)]
def tR_write : List mv_E := [(0, .aload_n 0, 1, [0]), (1, .getfield 11, 3, [3, 0, 1, 0, 1, 146]), (4, .iload_n 1, 1, [1]), (5, .iconst 3, 1, [0, 3]), (6, .imul, 1, []), (7, .iload_n 2, 1, [2]), (8, .iadd, 1, []), (9, .iload_n 3, 1, [3]), (10, .iastore, 1, []), (11, .return_, 1, [])]
def gR_write : List (mv_C H2) := []
def nR_write : List (mv_MD × Bool) := []
def tF_writeRows : List mv_E := [(0, .aload_n 0, 1, [0]), (1, .getfield 12, 3, [1, 0, 1, 0, 1, 110]), (4, .aload_n 1, 1, [1]), (5, .invokevirtual 18, 3, [0, 0, 2, 0, 3, 67, 2, 152, 1, 2, 2, 154, 2, 153]), (8, .aload 4, 2, [4]), (10, .iload_n 3, 1, [3]), (11, .putfield 106, 3, [3, 1, 0, 0, 1, 149]), (14, .iconst 0, 1, [0, 0]), (15, .istore 5, 2, [5]), (17, .iload 5, 2, [5]), (19, .iload_n 3, 1, [3]), (20, .if_icmp .ge 47, 3, [67]), (23, .aload_n 0, 1, [0]), (24, .getfield 12, 3, [1, 0, 1, 0, 1, 110]), (27, .invokevirtual 45, 3, [0, 1, 1, 0, 3, 112, 3, 21, 1, 2, 3, 23, 3, 22]), (30, .iconst 0, 1, [0, 0]), (31, .istore 6, 2, [6]), (33, .iload 6, 2, [6]), (35, .iconst 3, 1, [0, 3]), (36, .if_icmp .ge 25, 3, [61]), (39, .aload 4, 2, [4]), (41, .iload 5, 2, [5]), (43, .iload 6, 2, [6]), (45, .aload_n 0, 1, [0]), (46, .iload_n 2, 1, [2]), (47, .iload 6, 2, [6]), (49, .invokevirtual 109, 3, [0, 2, 3, 0, 4, 4, 4, 6, 1, 3, 4, 7, 0, 20]), (52, .invokevirtual 113, 3, [0, 3, 4, 0, 4, 8, 4, 9, 1, 5, 4, 11, 4, 10]), (55, .iinc 6 1, 3, [6, 0, 1]), (58, .goto (-25), 3, [33]), (61, .iinc 5 1, 3, [5, 0, 1]), (64, .goto (-47), 3, [17]), (67, .return_, 1, [])]
def gF_writeRows : List (mv_C H2) := [((0, 0), cM_copyFrom), ((0, 0), cM_passDay), ((0, 0), cF_rowPart), ((0, 0), cR_write)]
def nF_writeRows : List (mv_MD × Bool) := [(mdM_copyFrom, true), (mdM_passDay, true), (mdF_rowPart, true), (mdR_write, true)]
def tR_read : List mv_E := [(0, .aload_n 0, 1, [0]), (1, .getfield 11, 3, [3, 0, 1, 0, 1, 146]), (4, .iload_n 1, 1, [1]), (5, .iconst 3, 1, [0, 3]), (6, .imul, 1, []), (7, .iload_n 2, 1, [2]), (8, .iadd, 1, []), (9, .iaload, 1, []), (10, .ireturn, 1, [0])]
def gR_read : List (mv_C H2) := []
def nR_read : List (mv_MD × Bool) := []
def tF_firstWrongRow : List mv_E := [(0, .aload_n 0, 1, [0]), (1, .getfield 12, 3, [1, 0, 1, 0, 1, 110]), (4, .aload_n 1, 1, [1]), (5, .invokevirtual 18, 3, [0, 0, 2, 0, 3, 67, 2, 152, 1, 2, 2, 154, 2, 153]), (8, .iconst 0, 1, [0, 0]), (9, .istore 4, 2, [4]), (11, .iload 4, 2, [4]), (13, .aload_n 3, 1, [3]), (14, .getfield 106, 3, [3, 1, 0, 0, 1, 149]), (17, .if_icmp .ge 54, 3, [71]), (20, .aload_n 0, 1, [0]), (21, .getfield 12, 3, [1, 0, 1, 0, 1, 110]), (24, .invokevirtual 45, 3, [0, 1, 1, 0, 3, 112, 3, 21, 1, 2, 3, 23, 3, 22]), (27, .iconst 0, 1, [0, 0]), (28, .istore 5, 2, [5]), (30, .iload 5, 2, [5]), (32, .iconst 3, 1, [0, 3]), (33, .if_icmp .ge 32, 3, [65]), (36, .aload_n 3, 1, [3]), (37, .iload 4, 2, [4]), (39, .iload 5, 2, [5]), (41, .invokevirtual 117, 3, [0, 2, 3, 0, 4, 38, 4, 22, 1, 5, 4, 24, 4, 23]), (44, .aload_n 0, 1, [0]), (45, .iload_n 2, 1, [2]), (46, .iload 5, 2, [5]), (48, .invokevirtual 109, 3, [0, 3, 3, 0, 4, 4, 4, 6, 1, 3, 4, 7, 0, 20]), (51, .if_icmp .eq 8, 3, [59]), (54, .iload 4, 2, [4]), (56, .iconst 1, 1, [0, 1]), (57, .iadd, 1, []), (58, .ireturn, 1, [0]), (59, .iinc 5 1, 3, [5, 0, 1]), (62, .goto (-32), 3, [30]), (65, .iinc 4 1, 3, [4, 0, 1]), (68, .goto (-57), 3, [11]), (71, .iconst 0, 1, [0, 0]), (72, .ireturn, 1, [0])]
def gF_firstWrongRow : List (mv_C H2) := [((0, 0), cM_copyFrom), ((0, 0), cM_passDay), ((0, 0), cR_read), ((0, 0), cF_rowPart)]
def nF_firstWrongRow : List (mv_MD × Bool) := [(mdM_copyFrom, true), (mdM_passDay, true), (mdR_read, true), (mdF_rowPart, true)]
def tM_becomeFirst : List mv_E := [(0, .aload_n 0, 1, [0]), (1, .getfield 9, 3, [2, 0, 1, 0, 1, 36]), (4, .iconst 0, 1, [0, 0]), (5, .iconst 3, 1, [0, 3]), (6, .iastore, 1, []), (7, .aload_n 0, 1, [0]), (8, .getfield 9, 3, [2, 0, 1, 0, 1, 36]), (11, .iconst 1, 1, [0, 1]), (12, .iconst 2, 1, [0, 2]), (13, .iastore, 1, []), (14, .aload_n 0, 1, [0]), (15, .getfield 9, 3, [2, 0, 1, 0, 1, 36]), (18, .iconst 2, 1, [0, 2]), (19, .iconst 4, 1, [0, 4]), (20, .iastore, 1, []), (21, .aload_n 0, 1, [0]), (22, .getfield 9, 3, [2, 0, 1, 0, 1, 36]), (25, .iconst 3, 1, [0, 3]), (26, .bipush 20, 2, [0, 20]), (28, .iastore, 1, []), (29, .iconst 0, 1, [0, 0]), (30, .istore_n 1, 1, [1]), (31, .iload_n 1, 1, [1]), (32, .bipush 8, 2, [0, 8]), (34, .if_icmp .ge 23, 3, [57]), (37, .aload_n 0, 1, [0]), (38, .getfield 15, 3, [2, 1, 1, 0, 1, 39]), (41, .iload_n 1, 1, [1]), (42, .iload_n 1, 1, [1]), (43, .iastore, 1, []), (44, .aload_n 0, 1, [0]), (45, .getfield 18, 3, [2, 2, 1, 0, 1, 42]), (48, .iload_n 1, 1, [1]), (49, .iconst 5, 1, [0, 5]), (50, .iastore, 1, []), (51, .iinc 1 1, 3, [1, 0, 1]), (54, .goto (-23), 3, [31]), (57, .iconst 0, 1, [0, 0]), (58, .istore_n 1, 1, [1]), (59, .iload_n 1, 1, [1]), (60, .bipush 6, 2, [0, 6]), (62, .if_icmp .ge 16, 3, [78]), (65, .aload_n 0, 1, [0]), (66, .getfield 21, 3, [2, 3, 1, 0, 1, 46]), (69, .iload_n 1, 1, [1]), (70, .iload_n 1, 1, [1]), (71, .iastore, 1, []), (72, .iinc 1 1, 3, [1, 0, 1]), (75, .goto (-16), 3, [59]), (78, .aload_n 0, 1, [0]), (79, .iconst 0, 1, [0, 0]), (80, .putfield 46, 3, [2, 9, 0, 0, 1, 67]), (83, .aload_n 0, 1, [0]), (84, .iconst 0, 1, [0, 0]), (85, .putfield 49, 3, [2, 10, 0, 0, 1, 71]), (88, .return_, 1, [])]
def gM_becomeFirst : List (mv_C H2) := []
def nM_becomeFirst : List (mv_MD × Bool) := []
def tV_isIn : List mv_E := [(0, .iload_n 1, 1, [1]), (1, .iload_n 0, 1, [0]), (2, .if_icmp .gt 12, 3, [14]), (5, .iload_n 0, 1, [0]), (6, .iload_n 2, 1, [2]), (7, .if_icmp .gt 7, 3, [14]), (10, .iconst 1, 1, [0, 1]), (11, .goto 4, 3, [15]), (14, .iconst 0, 1, [0, 0]), (15, .ireturn, 1, [1])]
def gV_isIn : List (mv_C H2) := []
def nV_isIn : List (mv_MD × Bool) := []
def tM_has : List mv_E := [(0, .iload_n 1, 1, [1]), (1, .iconst 0, 1, [0, 0]), (2, .aload_n 0, 1, [0]), (3, .getfield 46, 3, [2, 9, 0, 0, 1, 67]), (6, .iconst 1, 1, [0, 1]), (7, .isub, 1, []), (8, .invokestatic 58, 3, [0, 0, 3, 11, 2, 206, 1, 234, 1, 1, 1, 235]), (11, .ireturn, 1, [1])]
def gM_has : List (mv_C H2) := [((0, 0), cV_isIn)]
def nM_has : List (mv_MD × Bool) := [(mdV_isIn, false)]
def tM_addCloth : List mv_E := [(0, .aload_n 0, 1, [0]), (1, .getfield 46, 3, [2, 9, 0, 0, 1, 67]), (4, .istore_n 2, 1, [2]), (5, .aload_n 0, 1, [0]), (6, .getfield 24, 3, [2, 4, 1, 0, 1, 50]), (9, .iload_n 2, 1, [2]), (10, .iload_n 1, 1, [1]), (11, .iastore, 1, []), (12, .aload_n 0, 1, [0]), (13, .getfield 27, 3, [2, 5, 1, 0, 1, 53]), (16, .iload_n 2, 1, [2]), (17, .iconst (-1), 1, [1, 1]), (18, .iastore, 1, []), (19, .aload_n 0, 1, [0]), (20, .getfield 30, 3, [2, 6, 1, 0, 1, 57]), (23, .iload_n 2, 1, [2]), (24, .iconst 0, 1, [0, 0]), (25, .iastore, 1, []), (26, .aload_n 0, 1, [0]), (27, .getfield 33, 3, [2, 7, 1, 0, 1, 61]), (30, .iload_n 2, 1, [2]), (31, .iconst 0, 1, [0, 0]), (32, .iastore, 1, []), (33, .aload_n 0, 1, [0]), (34, .getfield 36, 3, [2, 8, 1, 0, 1, 65]), (37, .iload_n 2, 1, [2]), (38, .iconst 0, 1, [0, 0]), (39, .iastore, 1, []), (40, .aload_n 0, 1, [0]), (41, .dup, 1, []), (42, .getfield 46, 3, [2, 9, 0, 0, 1, 67]), (45, .iconst 1, 1, [0, 1]), (46, .iadd, 1, []), (47, .putfield 46, 3, [2, 9, 0, 0, 1, 67]), (50, .iload_n 2, 1, [2]), (51, .ireturn, 1, [0])]
def gM_addCloth : List (mv_C H2) := []
def nM_addCloth : List (mv_MD × Bool) := []
def tM_hungSet : List mv_E := [(0, .iconst 0, 1, [0, 0]), (1, .istore_n 1, 1, [1]), (2, .iconst 0, 1, [0, 0]), (3, .istore_n 2, 1, [2]), (4, .iload_n 2, 1, [2]), (5, .aload_n 0, 1, [0]), (6, .getfield 46, 3, [2, 9, 0, 0, 1, 67]), (9, .if_icmp .ge 25, 3, [34]), (12, .aload_n 0, 1, [0]), (13, .getfield 33, 3, [2, 7, 1, 0, 1, 61]), (16, .iload_n 2, 1, [2]), (17, .iaload, 1, []), (18, .iconst 1, 1, [0, 1]), (19, .if_icmp .ne 9, 3, [28]), (22, .iload_n 1, 1, [1]), (23, .iconst 1, 1, [0, 1]), (24, .iload_n 2, 1, [2]), (25, .ishl, 1, []), (26, .ior, 1, []), (27, .istore_n 1, 1, [1]), (28, .iinc 2 1, 3, [2, 0, 1]), (31, .goto (-27), 3, [4]), (34, .iload_n 1, 1, [1]), (35, .ireturn, 1, [0])]
def gM_hungSet : List (mv_C H2) := []
def nM_hungSet : List (mv_MD × Bool) := []
def tM_aboutSet : List mv_E := [(0, .iconst 0, 1, [0, 0]), (1, .istore_n 1, 1, [1]), (2, .iconst 0, 1, [0, 0]), (3, .istore_n 2, 1, [2]), (4, .iload_n 2, 1, [2]), (5, .aload_n 0, 1, [0]), (6, .getfield 46, 3, [2, 9, 0, 0, 1, 67]), (9, .if_icmp .ge 25, 3, [34]), (12, .aload_n 0, 1, [0]), (13, .getfield 27, 3, [2, 5, 1, 0, 1, 53]), (16, .iload_n 2, 1, [2]), (17, .iaload, 1, []), (18, .iconst (-1), 1, [1, 1]), (19, .if_icmp .eq 9, 3, [28]), (22, .iload_n 1, 1, [1]), (23, .iconst 1, 1, [0, 1]), (24, .iload_n 2, 1, [2]), (25, .ishl, 1, []), (26, .ior, 1, []), (27, .istore_n 1, 1, [1]), (28, .iinc 2 1, 3, [2, 0, 1]), (31, .goto (-27), 3, [4]), (34, .iload_n 1, 1, [1]), (35, .ireturn, 1, [0])]
def gM_aboutSet : List (mv_C H2) := []
def nM_aboutSet : List (mv_MD × Bool) := []
def tM_purposeSet : List mv_E := [(0, .iconst 0, 1, [0, 0]), (1, .istore_n 1, 1, [1]), (2, .iconst 0, 1, [0, 0]), (3, .istore_n 2, 1, [2]), (4, .iload_n 2, 1, [2]), (5, .aload_n 0, 1, [0]), (6, .getfield 46, 3, [2, 9, 0, 0, 1, 67]), (9, .if_icmp .ge 30, 3, [39]), (12, .aload_n 0, 1, [0]), (13, .getfield 27, 3, [2, 5, 1, 0, 1, 53]), (16, .iload_n 2, 1, [2]), (17, .iaload, 1, []), (18, .iconst (-1), 1, [1, 1]), (19, .if_icmp .eq 14, 3, [33]), (22, .iload_n 1, 1, [1]), (23, .iconst 1, 1, [0, 1]), (24, .aload_n 0, 1, [0]), (25, .getfield 27, 3, [2, 5, 1, 0, 1, 53]), (28, .iload_n 2, 1, [2]), (29, .iaload, 1, []), (30, .ishl, 1, []), (31, .ior, 1, []), (32, .istore_n 1, 1, [1]), (33, .iinc 2 1, 3, [2, 0, 1]), (36, .goto (-32), 3, [4]), (39, .iload_n 1, 1, [1]), (40, .ireturn, 1, [0])]
def gM_purposeSet : List (mv_C H2) := []
def nM_purposeSet : List (mv_MD × Bool) := []
def tM_isForOdds : List mv_E := [(0, .aload_n 0, 1, [0]), (1, .getfield 33, 3, [2, 7, 1, 0, 1, 61]), (4, .iload_n 1, 1, [1]), (5, .iaload, 1, []), (6, .ifCond .ne 17, 3, [23]), (9, .aload_n 0, 1, [0]), (10, .getfield 27, 3, [2, 5, 1, 0, 1, 53]), (13, .iload_n 1, 1, [1]), (14, .iaload, 1, []), (15, .iconst (-1), 1, [1, 1]), (16, .if_icmp .eq 7, 3, [23]), (19, .iconst 1, 1, [0, 1]), (20, .goto 4, 3, [24]), (23, .iconst 0, 1, [0, 0]), (24, .ireturn, 1, [1])]
def gM_isForOdds : List (mv_C H2) := []
def nM_isForOdds : List (mv_MD × Bool) := []
def tM_oddPairs : List mv_E := [(0, .iconst 0, 1, [0, 0]), (1, .istore_n 1, 1, [1]), (2, .iconst 0, 1, [0, 0]), (3, .istore_n 2, 1, [2]), (4, .iload_n 2, 1, [2]), (5, .aload_n 0, 1, [0]), (6, .getfield 46, 3, [2, 9, 0, 0, 1, 67]), (9, .if_icmp .ge 61, 3, [70]), (12, .iload_n 2, 1, [2]), (13, .iconst 1, 1, [0, 1]), (14, .iadd, 1, []), (15, .istore_n 3, 1, [3]), (16, .iload_n 3, 1, [3]), (17, .aload_n 0, 1, [0]), (18, .getfield 46, 3, [2, 9, 0, 0, 1, 67]), (21, .if_icmp .ge 43, 3, [64]), (24, .aload_n 0, 1, [0]), (25, .getfield 27, 3, [2, 5, 1, 0, 1, 53]), (28, .iload_n 2, 1, [2]), (29, .iaload, 1, []), (30, .aload_n 0, 1, [0]), (31, .getfield 27, 3, [2, 5, 1, 0, 1, 53]), (34, .iload_n 3, 1, [3]), (35, .iaload, 1, []), (36, .if_icmp .eq 22, 3, [58]), (39, .aload_n 0, 1, [0]), (40, .iload_n 2, 1, [2]), (41, .invokevirtual 94, 3, [0, 0, 2, 0, 3, 88, 3, 90, 1, 2, 3, 91, 0, 15]), (44, .ifCond .eq 14, 3, [58]), (47, .aload_n 0, 1, [0]), (48, .iload_n 3, 1, [3]), (49, .invokevirtual 94, 3, [0, 0, 2, 0, 3, 88, 3, 90, 1, 2, 3, 91, 0, 15]), (52, .ifCond .eq 6, 3, [58]), (55, .iinc 1 1, 3, [1, 0, 1]), (58, .iinc 3 1, 3, [3, 0, 1]), (61, .goto (-45), 3, [16]), (64, .iinc 2 1, 3, [2, 0, 1]), (67, .goto (-63), 3, [4]), (70, .iload_n 1, 1, [1]), (71, .ireturn, 1, [0])]
def gM_oddPairs : List (mv_C H2) := [((0, 0), cM_isForOdds)]
def nM_oddPairs : List (mv_MD × Bool) := [(mdM_isForOdds, true)]
def tR_has : List mv_E := [(0, .iload_n 1, 1, [1]), (1, .iconst 0, 1, [0, 0]), (2, .aload_n 0, 1, [0]), (3, .getfield 15, 3, [3, 1, 0, 0, 1, 147]), (6, .iconst 1, 1, [0, 1]), (7, .isub, 1, []), (8, .invokestatic 19, 3, [0, 0, 3, 11, 4, 20, 1, 234, 1, 1, 1, 235]), (11, .ifCond .eq 16, 3, [27]), (14, .iload_n 2, 1, [2]), (15, .iconst 0, 1, [0, 0]), (16, .iconst 2, 1, [0, 2]), (17, .invokestatic 19, 3, [0, 0, 3, 11, 4, 20, 1, 234, 1, 1, 1, 235]), (20, .ifCond .eq 7, 3, [27]), (23, .iconst 1, 1, [0, 1]), (24, .goto 4, 3, [28]), (27, .iconst 0, 1, [0, 0]), (28, .ireturn, 1, [1])]
def gR_has : List (mv_C H2) := [((0, 0), cV_isIn)]
def nR_has : List (mv_MD × Bool) := [(mdV_isIn, false)]
def tS_init : List mv_E := [(0, .aload_n 0, 1, [0]), (1, .invokespecial 1, 3, [5, 4, 54, 1, 24, 1, 25]), (4, .aload_n 0, 1, [0]), (5, .iload_n 1, 1, [1]), (6, .putfield 7, 3, [4, 0, 0, 0, 4, 55]), (9, .aload_n 0, 1, [0]), (10, .iload_n 2, 1, [2]), (11, .newarray .int, 2, [501, 1, 101]), (13, .putfield 13, 3, [4, 1, 1, 0, 4, 57]), (16, .return_, 1, [])]
def gS_init : List (mv_C H2) := []
def nS_init : List (mv_MD × Bool) := []
def tS_has : List mv_E := [(0, .iload_n 1, 1, [1]), (1, .iconst 0, 1, [0, 0]), (2, .aload_n 0, 1, [0]), (3, .getfield 13, 3, [4, 1, 1, 0, 4, 57]), (6, .arraylength, 1, []), (7, .iconst 1, 1, [0, 1]), (8, .isub, 1, []), (9, .invokestatic 17, 3, [0, 0, 3, 11, 4, 71, 1, 234, 1, 1, 1, 235]), (12, .ireturn, 1, [1])]
def gS_has : List (mv_C H2) := [((0, 0), cV_isIn)]
def nS_has : List (mv_MD × Bool) := [(mdV_isIn, false)]
def tS_write : List mv_E := [(0, .aload_n 0, 1, [0]), (1, .getfield 7, 3, [4, 0, 0, 0, 4, 55]), (4, .ifCond .ne 14, 3, [18]), (7, .aload_n 0, 1, [0]), (8, .getfield 13, 3, [4, 1, 1, 0, 4, 57]), (11, .iload_n 1, 1, [1]), (12, .iload_n 2, 1, [2]), (13, .i2b, 1, []), (14, .iastore, 1, []), (15, .goto 29, 3, [44]), (18, .aload_n 0, 1, [0]), (19, .getfield 7, 3, [4, 0, 0, 0, 4, 55]), (22, .iconst 1, 1, [0, 1]), (23, .if_icmp .ne 14, 3, [37]), (26, .aload_n 0, 1, [0]), (27, .getfield 13, 3, [4, 1, 1, 0, 4, 57]), (30, .iload_n 1, 1, [1]), (31, .iload_n 2, 1, [2]), (32, .i2s, 1, []), (33, .iastore, 1, []), (34, .goto 10, 3, [44]), (37, .aload_n 0, 1, [0]), (38, .getfield 13, 3, [4, 1, 1, 0, 4, 57]), (41, .iload_n 1, 1, [1]), (42, .iload_n 2, 1, [2]), (43, .iastore, 1, []), (44, .return_, 1, [])]
def gS_write : List (mv_C H2) := []
def nS_write : List (mv_MD × Bool) := []
def tH_holdCloth : List mv_E := [(0, .aload_n 0, 1, [0]), (1, .getfield 9, 3, [5, 0, 1, 0, 1, 164]), (4, .iload_n 1, 1, [1]), (5, .iload_n 2, 1, [2]), (6, .iastore, 1, []), (7, .aload_n 0, 1, [0]), (8, .getfield 17, 3, [5, 1, 1, 0, 1, 165]), (11, .iload_n 1, 1, [1]), (12, .aconst_null, 1, []), (13, .aastore, 1, []), (14, .return_, 1, [])]
def gH_holdCloth : List (mv_C H2) := []
def nH_holdCloth : List (mv_MD × Bool) := []
def tH_holdRow_n : List mv_E := [(0, .aload_n 0, 1, [0]), (1, .getfield 9, 3, [5, 0, 1, 0, 1, 164]), (4, .iload_n 1, 1, [1]), (5, .iconst (-1), 1, [1, 1]), (6, .iastore, 1, []), (7, .aload_n 0, 1, [0]), (8, .getfield 17, 3, [5, 1, 1, 0, 1, 165]), (11, .iload_n 1, 1, [1]), (12, .aload_n 2, 1, [2]), (13, .aastore, 1, []), (14, .return_, 1, [])]
def gH_holdRow_n : List (mv_C H2) := []
def nH_holdRow_n : List (mv_MD × Bool) := []
def tH_holdRow_r : List mv_E := [(0, .aload_n 0, 1, [0]), (1, .getfield 9, 3, [5, 0, 1, 0, 1, 164]), (4, .iload_n 1, 1, [1]), (5, .iconst (-1), 1, [1, 1]), (6, .iastore, 1, []), (7, .aload_n 0, 1, [0]), (8, .getfield 17, 3, [5, 1, 1, 0, 1, 165]), (11, .iload_n 1, 1, [1]), (12, .aload_n 2, 1, [2]), (13, .aastore, 1, []), (14, .return_, 1, [])]
def gH_holdRow_r : List (mv_C H2) := []
def nH_holdRow_r : List (mv_MD × Bool) := []
def tH_clothOn : List mv_E := [(0, .aload_n 0, 1, [0]), (1, .getfield 9, 3, [5, 0, 1, 0, 1, 164]), (4, .iload_n 1, 1, [1]), (5, .iaload, 1, []), (6, .ireturn, 1, [0])]
def gH_clothOn : List (mv_C H2) := []
def nH_clothOn : List (mv_MD × Bool) := []
def tH_rowOn : List mv_E := [(0, .aload_n 0, 1, [0]), (1, .getfield 17, 3, [5, 1, 1, 0, 1, 165]), (4, .iload_n 1, 1, [1]), (5, .aaload, 1, []), (6, .areturn, 1, [])]
def gH_rowOn : List (mv_C H2) := []
def nH_rowOn : List (mv_MD × Bool) := []
def tT_room : List mv_E := [(0, .sipush 200, 3, [0, 200]), (3, .aload_n 0, 1, [0]), (4, .getfield 15, 3, [6, 1, 0, 0, 1, 121]), (7, .isub, 1, []), (8, .ireturn, 1, [0])]
def gT_room : List (mv_C H2) := []
def nT_room : List (mv_MD × Bool) := []
def tT_take : List mv_E := [(0, .iconst 0, 1, [0, 0]), (1, .istore 4, 2, [4]), (3, .iload 4, 2, [4]), (5, .iload_n 3, 1, [3]), (6, .if_icmp .ge 33, 3, [39]), (9, .aload_n 0, 1, [0]), (10, .getfield 9, 3, [6, 0, 1, 0, 1, 120]), (13, .aload_n 0, 1, [0]), (14, .getfield 15, 3, [6, 1, 0, 0, 1, 121]), (17, .iload 4, 2, [4]), (19, .iadd, 1, []), (20, .lload_n 1, 1, [1]), (21, .bipush 8, 2, [0, 8]), (23, .iload 4, 2, [4]), (25, .imul, 1, []), (26, .lshr, 1, []), (27, .ldc2_w 19, 3, [0, 255, 2, 4]), (30, .land, 1, []), (31, .l2i, 1, []), (32, .iastore, 1, []), (33, .iinc 4 1, 3, [4, 0, 1]), (36, .goto (-33), 3, [3]), (39, .aload_n 0, 1, [0]), (40, .dup, 1, []), (41, .getfield 15, 3, [6, 1, 0, 0, 1, 121]), (44, .iload_n 3, 1, [3]), (45, .iadd, 1, []), (46, .putfield 15, 3, [6, 1, 0, 0, 1, 121]), (49, .return_, 1, [])]
def gT_take : List (mv_C H2) := []
def nT_take : List (mv_MD × Bool) := []
def tT_useUp : List mv_E := [(0, .aload_n 0, 1, [0]), (1, .iconst 0, 1, [0, 0]), (2, .putfield 15, 3, [6, 1, 0, 0, 1, 121]), (5, .return_, 1, [])]
def gT_useUp : List (mv_C H2) := []
def nT_useUp : List (mv_MD × Bool) := []
def tT_readDigits : List mv_E := [(0, .aload_n 0, 1, [0]), (1, .iconst 0, 1, [0, 0]), (2, .putfield 91, 3, [6, 5, 0, 0, 1, 126]), (5, .aload_n 0, 1, [0]), (6, .getfield 26, 3, [6, 2, 0, 0, 1, 123]), (9, .aload_n 0, 1, [0]), (10, .getfield 15, 3, [6, 1, 0, 0, 1, 121]), (13, .if_icmp .ge 81, 3, [94]), (16, .aload_n 0, 1, [0]), (17, .getfield 9, 3, [6, 0, 1, 0, 1, 120]), (20, .aload_n 0, 1, [0]), (21, .getfield 26, 3, [6, 2, 0, 0, 1, 123]), (24, .iaload, 1, []), (25, .bipush 48, 2, [0, 48]), (27, .if_icmp .lt 67, 3, [94]), (30, .aload_n 0, 1, [0]), (31, .getfield 9, 3, [6, 0, 1, 0, 1, 120]), (34, .aload_n 0, 1, [0]), (35, .getfield 26, 3, [6, 2, 0, 0, 1, 123]), (38, .iaload, 1, []), (39, .bipush 57, 2, [0, 57]), (41, .if_icmp .gt 53, 3, [94]), (44, .aload_n 0, 1, [0]), (45, .getfield 26, 3, [6, 2, 0, 0, 1, 123]), (48, .aload_n 0, 1, [0]), (49, .getfield 39, 3, [6, 3, 0, 0, 1, 124]), (52, .isub, 1, []), (53, .iconst 3, 1, [0, 3]), (54, .if_icmp .ge 27, 3, [81]), (57, .aload_n 0, 1, [0]), (58, .aload_n 0, 1, [0]), (59, .getfield 91, 3, [6, 5, 0, 0, 1, 126]), (62, .bipush 10, 2, [0, 10]), (64, .imul, 1, []), (65, .aload_n 0, 1, [0]), (66, .getfield 9, 3, [6, 0, 1, 0, 1, 120]), (69, .aload_n 0, 1, [0]), (70, .getfield 26, 3, [6, 2, 0, 0, 1, 123]), (73, .iaload, 1, []), (74, .iadd, 1, []), (75, .bipush 48, 2, [0, 48]), (77, .isub, 1, []), (78, .putfield 91, 3, [6, 5, 0, 0, 1, 126]), (81, .aload_n 0, 1, [0]), (82, .dup, 1, []), (83, .getfield 26, 3, [6, 2, 0, 0, 1, 123]), (86, .iconst 1, 1, [0, 1]), (87, .iadd, 1, []), (88, .putfield 26, 3, [6, 2, 0, 0, 1, 123]), (91, .goto (-86), 3, [5]), (94, .aload_n 0, 1, [0]), (95, .getfield 26, 3, [6, 2, 0, 0, 1, 123]), (98, .aload_n 0, 1, [0]), (99, .getfield 39, 3, [6, 3, 0, 0, 1, 124]), (102, .isub, 1, []), (103, .iconst 3, 1, [0, 3]), (104, .if_icmp .le 10, 3, [114]), (107, .aload_n 0, 1, [0]), (108, .sipush 1000, 3, [0, 1000]), (111, .putfield 91, 3, [6, 5, 0, 0, 1, 126]), (114, .return_, 1, [])]
def gT_readDigits : List (mv_C H2) := []
def nT_readDigits : List (mv_MD × Bool) := []
def tT_readWord : List mv_E := [(0, .aload_n 0, 1, [0]), (1, .getfield 26, 3, [6, 2, 0, 0, 1, 123]), (4, .aload_n 0, 1, [0]), (5, .getfield 15, 3, [6, 1, 0, 0, 1, 121]), (8, .if_icmp .ge 30, 3, [38]), (11, .aload_n 0, 1, [0]), (12, .getfield 9, 3, [6, 0, 1, 0, 1, 120]), (15, .aload_n 0, 1, [0]), (16, .getfield 26, 3, [6, 2, 0, 0, 1, 123]), (19, .iaload, 1, []), (20, .bipush 32, 2, [0, 32]), (22, .if_icmp .ne 16, 3, [38]), (25, .aload_n 0, 1, [0]), (26, .dup, 1, []), (27, .getfield 26, 3, [6, 2, 0, 0, 1, 123]), (30, .iconst 1, 1, [0, 1]), (31, .iadd, 1, []), (32, .putfield 26, 3, [6, 2, 0, 0, 1, 123]), (35, .goto (-35), 3, [0]), (38, .aload_n 0, 1, [0]), (39, .aload_n 0, 1, [0]), (40, .getfield 26, 3, [6, 2, 0, 0, 1, 123]), (43, .putfield 39, 3, [6, 3, 0, 0, 1, 124]), (46, .aload_n 0, 1, [0]), (47, .getfield 26, 3, [6, 2, 0, 0, 1, 123]), (50, .aload_n 0, 1, [0]), (51, .getfield 15, 3, [6, 1, 0, 0, 1, 121]), (54, .if_icmp .lt 11, 3, [65]), (57, .aload_n 0, 1, [0]), (58, .iconst 0, 1, [0, 0]), (59, .putfield 32, 3, [6, 4, 0, 0, 1, 125]), (62, .goto 116, 3, [178]), (65, .aload_n 0, 1, [0]), (66, .getfield 9, 3, [6, 0, 1, 0, 1, 120]), (69, .aload_n 0, 1, [0]), (70, .getfield 26, 3, [6, 2, 0, 0, 1, 123]), (73, .iaload, 1, []), (74, .bipush 97, 2, [0, 97]), (76, .bipush 122, 2, [0, 122]), (78, .invokestatic 131, 3, [0, 0, 3, 11, 2, 18, 1, 234, 1, 1, 1, 235]), (81, .ifCond .eq 51, 3, [132]), (84, .aload_n 0, 1, [0]), (85, .iconst 1, 1, [0, 1]), (86, .putfield 32, 3, [6, 4, 0, 0, 1, 125]), (89, .aload_n 0, 1, [0]), (90, .getfield 26, 3, [6, 2, 0, 0, 1, 123]), (93, .aload_n 0, 1, [0]), (94, .getfield 15, 3, [6, 1, 0, 0, 1, 121]), (97, .if_icmp .ge 81, 3, [178]), (100, .aload_n 0, 1, [0]), (101, .getfield 9, 3, [6, 0, 1, 0, 1, 120]), (104, .aload_n 0, 1, [0]), (105, .getfield 26, 3, [6, 2, 0, 0, 1, 123]), (108, .iaload, 1, []), (109, .bipush 97, 2, [0, 97]), (111, .bipush 122, 2, [0, 122]), (113, .invokestatic 131, 3, [0, 0, 3, 11, 2, 18, 1, 234, 1, 1, 1, 235]), (116, .ifCond .eq 62, 3, [178]), (119, .aload_n 0, 1, [0]), (120, .dup, 1, []), (121, .getfield 26, 3, [6, 2, 0, 0, 1, 123]), (124, .iconst 1, 1, [0, 1]), (125, .iadd, 1, []), (126, .putfield 26, 3, [6, 2, 0, 0, 1, 123]), (129, .goto (-40), 3, [89]), (132, .aload_n 0, 1, [0]), (133, .getfield 9, 3, [6, 0, 1, 0, 1, 120]), (136, .aload_n 0, 1, [0]), (137, .getfield 26, 3, [6, 2, 0, 0, 1, 123]), (140, .iaload, 1, []), (141, .bipush 48, 2, [0, 48]), (143, .bipush 57, 2, [0, 57]), (145, .invokestatic 131, 3, [0, 0, 3, 11, 2, 18, 1, 234, 1, 1, 1, 235]), (148, .ifCond .eq 15, 3, [163]), (151, .aload_n 0, 1, [0]), (152, .iconst 2, 1, [0, 2]), (153, .putfield 32, 3, [6, 4, 0, 0, 1, 125]), (156, .aload_n 0, 1, [0]), (157, .invokevirtual 163, 3, [0, 1, 1, 0, 2, 19, 2, 21, 1, 4, 2, 22, 0, 1]), (160, .goto 18, 3, [178]), (163, .aload_n 0, 1, [0]), (164, .iconst 3, 1, [0, 3]), (165, .putfield 32, 3, [6, 4, 0, 0, 1, 125]), (168, .aload_n 0, 1, [0]), (169, .dup, 1, []), (170, .getfield 26, 3, [6, 2, 0, 0, 1, 123]), (173, .iconst 1, 1, [0, 1]), (174, .iadd, 1, []), (175, .putfield 26, 3, [6, 2, 0, 0, 1, 123]), (178, .return_, 1, [])]
def gT_readWord : List (mv_C H2) := [((0, 0), cV_isIn), ((0, 0), cT_readDigits)]
def nT_readWord : List (mv_MD × Bool) := [(mdV_isIn, false), (mdT_readDigits, true)]
def tK0_coder_7d493 : List mv_E := [(0, .getstatic 38, 3, [15, 2, 44]), (3, .ifCond .eq 10, 3, [13]), (6, .aload_n 0, 1, [0]), (7, .getfield 15, 3, [11, 1, 4, 0, 7, 34]), (10, .goto 4, 3, [14]), (13, .iconst 1, 1, [0, 1]), (14, .ireturn, 1, [2])]
def gK0_coder_7d493 : List (mv_C H2) := []
def nK0_coder_7d493 : List (mv_MD × Bool) := []
def tK0_length_8abf5 : List mv_E := [(0, .aload_n 0, 1, [0]), (1, .getfield 9, 3, [11, 0, 3, 0, 7, 33]), (4, .arraylength, 1, []), (5, .aload_n 0, 1, [0]), (6, .invokevirtual 335, 3, [0, 0, 1, 0, 2, 40, 2, 41, 1, 9, 2, 43, 2, 42]), (9, .ishr, 1, []), (10, .ireturn, 1, [0])]
def gK0_length_8abf5 : List (mv_C H2) := [((0, 0), cK0_coder_7d493)]
def nK0_length_8abf5 : List (mv_MD × Bool) := [(mdK0_coder_7d493, true)]
def tK0_isLatin1_aae02 : List mv_E := [(0, .getstatic 38, 3, [15, 2, 44]), (3, .ifCond .eq 14, 3, [17]), (6, .aload_n 0, 1, [0]), (7, .getfield 15, 3, [11, 1, 4, 0, 7, 34]), (10, .ifCond .ne 7, 3, [17]), (13, .iconst 1, 1, [0, 1]), (14, .goto 4, 3, [18]), (17, .iconst 0, 1, [0, 0]), (18, .ireturn, 1, [1])]
def gK0_isLatin1_aae02 : List (mv_C H2) := []
def nK0_isLatin1_aae02 : List (mv_MD × Bool) := []
def tK3_checkIndex_8e157 : List mv_E := [(0, .iload_n 0, 1, [0]), (1, .ifCond .lt 8, 3, [9]), (4, .iload_n 0, 1, [0]), (5, .iload_n 1, 1, [1]), (6, .if_icmp .lt 10, 3, [16]), (9, .aload_n 2, 1, [2]), (10, .iload_n 0, 1, [0]), (11, .iload_n 1, 1, [1]), (12, .invokestatic 95, 3, [9]), (15, .athrow, 1, []), (16, .iload_n 0, 1, [0]), (17, .ireturn, 1, [0])]
def gK3_checkIndex_8e157 : List (mv_C H2) := []
def nK3_checkIndex_8e157 : List (mv_MD × Bool) := []
def tK0_checkIndex_df160 : List mv_E := [(0, .iload_n 0, 1, [0]), (1, .iload_n 1, 1, [1]), (2, .getstatic 1053, 3, [14, 2, 60]), (5, .invokestatic 1059, 3, [0, 0, 3, 1, 2, 62, 2, 63, 1, 11, 2, 64]), (8, .pop, 1, []), (9, .return_, 1, [])]
def gK0_checkIndex_df160 : List (mv_C H2) := [((0, 0), cK3_checkIndex_8e157)]
def nK0_checkIndex_df160 : List (mv_MD × Bool) := [(mdK3_checkIndex_8e157, false)]
def tK1_charAt_3b067 : List mv_E := [(0, .iload_n 1, 1, [1]), (1, .aload_n 0, 1, [0]), (2, .arraylength, 1, []), (3, .invokestatic 9, 3, [0, 0, 2, 1, 2, 57, 2, 58, 1, 9, 2, 59]), (6, .aload_n 0, 1, [0]), (7, .iload_n 1, 1, [1]), (8, .baload, 1, []), (9, .sipush 255, 3, [0, 255]), (12, .iand, 1, []), (13, .i2c, 1, []), (14, .ireturn, 1, [2])]
def gK1_charAt_3b067 : List (mv_C H2) := [((0, 0), cK0_checkIndex_df160)]
def nK1_charAt_3b067 : List (mv_MD × Bool) := [(mdK0_checkIndex_df160, false)]
def tK0_charAt_5068e : List mv_E := [(0, .aload_n 0, 1, [0]), (1, .invokevirtual 492, 3, [0, 0, 1, 0, 2, 50, 2, 51, 1, 9, 2, 53, 2, 52]), (4, .ifCond .eq 12, 3, [16]), (7, .aload_n 0, 1, [0]), (8, .getfield 9, 3, [11, 0, 3, 0, 7, 33]), (11, .iload_n 1, 1, [1]), (12, .invokestatic 495, 3, [0, 1, 2, 1, 2, 54, 2, 55, 1, 10, 2, 56]), (15, .ireturn, 1, [2]), (16, .aload_n 0, 1, [0]), (17, .getfield 9, 3, [11, 0, 3, 0, 7, 33]), (20, .iload_n 1, 1, [1]), (21, .invokestatic 498, 3, [9]), (24, .ireturn, 1, [2])]
def gK0_charAt_5068e : List (mv_C H2) := [((0, 0), cK0_isLatin1_aae02), ((0, 0), cK1_charAt_3b067)]
def nK0_charAt_5068e : List (mv_MD × Bool) := [(mdK0_isLatin1_aae02, true), (mdK1_charAt_3b067, false)]
def tT_isName : List mv_E := [(0, .aload_n 0, 1, [0]), (1, .getfield 32, 3, [6, 4, 0, 0, 1, 125]), (4, .iconst 1, 1, [0, 1]), (5, .if_icmp .ne 19, 3, [24]), (8, .aload_n 0, 1, [0]), (9, .getfield 26, 3, [6, 2, 0, 0, 1, 123]), (12, .aload_n 0, 1, [0]), (13, .getfield 39, 3, [6, 3, 0, 0, 1, 124]), (16, .isub, 1, []), (17, .aload_n 1, 1, [1]), (18, .invokevirtual 155, 3, [0, 0, 1, 0, 2, 36, 2, 37, 1, 9, 2, 39, 2, 38]), (21, .if_icmp .eq 5, 3, [26]), (24, .iconst 0, 1, [0, 0]), (25, .ireturn, 1, [1]), (26, .iconst 0, 1, [0, 0]), (27, .istore_n 2, 1, [2]), (28, .iload_n 2, 1, [2]), (29, .aload_n 1, 1, [1]), (30, .invokevirtual 155, 3, [0, 0, 1, 0, 2, 36, 2, 37, 1, 9, 2, 39, 2, 38]), (33, .if_icmp .ge 30, 3, [63]), (36, .aload_n 0, 1, [0]), (37, .getfield 9, 3, [6, 0, 1, 0, 1, 120]), (40, .aload_n 0, 1, [0]), (41, .getfield 39, 3, [6, 3, 0, 0, 1, 124]), (44, .iload_n 2, 1, [2]), (45, .iadd, 1, []), (46, .iaload, 1, []), (47, .aload_n 1, 1, [1]), (48, .iload_n 2, 1, [2]), (49, .invokevirtual 159, 3, [0, 1, 2, 0, 2, 46, 2, 47, 1, 9, 2, 49, 2, 48]), (52, .if_icmp .eq 5, 3, [57]), (55, .iconst 0, 1, [0, 0]), (56, .ireturn, 1, [1]), (57, .iinc 2 1, 3, [2, 0, 1]), (60, .goto (-32), 3, [28]), (63, .iconst 1, 1, [0, 1]), (64, .ireturn, 1, [1])]
def gT_isName : List (mv_C H2) := [((0, 0), cK0_length_8abf5), ((0, 0), cK0_charAt_5068e)]
def nT_isName : List (mv_MD × Bool) := [(mdK0_length_8abf5, true), (mdK0_charAt_5068e, true)]
def tT_kindNamed : List mv_E := [(0, .aload_n 0, 1, [0]), (1, .ldc 135, 2, [1, 7]), (3, .invokevirtual 52, 3, [0, 0, 2, 0, 2, 32, 2, 34, 1, 4, 2, 35, 0, 4]), (6, .ifCond .eq 5, 3, [11]), (9, .iconst 0, 1, [0, 0]), (10, .ireturn, 1, [0]), (11, .aload_n 0, 1, [0]), (12, .ldc 137, 2, [1, 8]), (14, .invokevirtual 52, 3, [0, 0, 2, 0, 2, 32, 2, 34, 1, 4, 2, 35, 0, 4]), (17, .ifCond .eq 5, 3, [22]), (20, .iconst 1, 1, [0, 1]), (21, .ireturn, 1, [0]), (22, .aload_n 0, 1, [0]), (23, .ldc 139, 2, [1, 9]), (25, .invokevirtual 52, 3, [0, 0, 2, 0, 2, 32, 2, 34, 1, 4, 2, 35, 0, 4]), (28, .ifCond .eq 5, 3, [33]), (31, .iconst 2, 1, [0, 2]), (32, .ireturn, 1, [0]), (33, .aload_n 0, 1, [0]), (34, .ldc 141, 2, [1, 10]), (36, .invokevirtual 52, 3, [0, 0, 2, 0, 2, 32, 2, 34, 1, 4, 2, 35, 0, 4]), (39, .ifCond .eq 5, 3, [44]), (42, .iconst 3, 1, [0, 3]), (43, .ireturn, 1, [0]), (44, .aload_n 0, 1, [0]), (45, .ldc 143, 2, [1, 11]), (47, .invokevirtual 52, 3, [0, 0, 2, 0, 2, 32, 2, 34, 1, 4, 2, 35, 0, 4]), (50, .ifCond .eq 5, 3, [55]), (53, .iconst 4, 1, [0, 4]), (54, .ireturn, 1, [0]), (55, .aload_n 0, 1, [0]), (56, .ldc 145, 2, [1, 12]), (58, .invokevirtual 52, 3, [0, 0, 2, 0, 2, 32, 2, 34, 1, 4, 2, 35, 0, 4]), (61, .ifCond .eq 7, 3, [68]), (64, .iconst 5, 1, [0, 5]), (65, .goto 4, 3, [69]), (68, .iconst (-1), 1, [1, 1]), (69, .ireturn, 1, [0])]
def gT_kindNamed : List (mv_C H2) := [((0, 0), cT_isName)]
def nT_kindNamed : List (mv_MD × Bool) := [(mdT_isName, true)]
def tT_readNumber : List mv_E := [(0, .aload_n 0, 1, [0]), (1, .invokevirtual 29, 3, [0, 0, 1, 0, 2, 14, 2, 16, 1, 4, 2, 17, 0, 0]), (4, .aload_n 0, 1, [0]), (5, .getfield 32, 3, [6, 4, 0, 0, 1, 125]), (8, .iconst 2, 1, [0, 2]), (9, .if_icmp .ne 19, 3, [28]), (12, .aload_n 0, 1, [0]), (13, .getfield 91, 3, [6, 5, 0, 0, 1, 126]), (16, .iload_n 1, 1, [1]), (17, .iload_n 2, 1, [2]), (18, .invokestatic 131, 3, [0, 1, 3, 11, 2, 18, 1, 234, 1, 1, 1, 235]), (21, .ifCond .eq 7, 3, [28]), (24, .iconst 1, 1, [0, 1]), (25, .goto 4, 3, [29]), (28, .iconst 0, 1, [0, 0]), (29, .ireturn, 1, [1])]
def gT_readNumber : List (mv_C H2) := [((0, 0), cT_readWord), ((0, 0), cV_isIn)]
def nT_readNumber : List (mv_MD × Bool) := [(mdT_readWord, true), (mdV_isIn, false)]
def tT_isStop : List mv_E := [(0, .aload_n 0, 1, [0]), (1, .getfield 32, 3, [6, 4, 0, 0, 1, 125]), (4, .iconst 3, 1, [0, 3]), (5, .if_icmp .ne 21, 3, [26]), (8, .aload_n 0, 1, [0]), (9, .getfield 9, 3, [6, 0, 1, 0, 1, 120]), (12, .aload_n 0, 1, [0]), (13, .getfield 39, 3, [6, 3, 0, 0, 1, 124]), (16, .iaload, 1, []), (17, .bipush 59, 2, [0, 59]), (19, .if_icmp .ne 7, 3, [26]), (22, .iconst 1, 1, [0, 1]), (23, .goto 4, 3, [27]), (26, .iconst 0, 1, [0, 0]), (27, .ireturn, 1, [1])]
def gT_isStop : List (mv_C H2) := []
def nT_isStop : List (mv_MD × Bool) := []
def tT_readCloth : List mv_E := [(0, .aload_n 1, 1, [1]), (1, .getfield 75, 3, [2, 9, 0, 0, 1, 70]), (4, .bipush 8, 2, [0, 8]), (6, .if_icmp .lt 5, 3, [11]), (9, .iconst 0, 1, [0, 0]), (10, .ireturn, 1, [1]), (11, .aload_n 1, 1, [1]), (12, .iload_n 2, 1, [2]), (13, .invokevirtual 78, 3, [0, 0, 2, 0, 2, 93, 2, 94, 1, 2, 2, 96, 2, 95]), (16, .istore_n 3, 1, [3]), (17, .aload_n 0, 1, [0]), (18, .invokevirtual 29, 3, [0, 1, 1, 0, 2, 14, 2, 16, 1, 4, 2, 17, 0, 0]), (21, .aload_n 0, 1, [0]), (22, .ldc 82, 2, [1, 3]), (24, .invokevirtual 52, 3, [0, 2, 2, 0, 2, 32, 2, 34, 1, 4, 2, 35, 0, 4]), (27, .ifCond .eq 72, 3, [99]), (30, .aload_n 0, 1, [0]), (31, .iconst 0, 1, [0, 0]), (32, .bipush 9, 2, [0, 9]), (34, .invokevirtual 84, 3, [0, 3, 3, 0, 2, 98, 2, 100, 1, 4, 2, 101, 0, 6]), (37, .ifCond .ne 5, 3, [42]), (40, .iconst 0, 1, [0, 0]), (41, .ireturn, 1, [1]), (42, .aload_n 1, 1, [1]), (43, .getfield 88, 3, [2, 5, 1, 0, 1, 55]), (46, .iload_n 3, 1, [3]), (47, .aload_n 0, 1, [0]), (48, .getfield 91, 3, [6, 5, 0, 0, 1, 126]), (51, .iastore, 1, []), (52, .aload_n 1, 1, [1]), (53, .getfield 94, 3, [2, 6, 1, 0, 1, 58]), (56, .iload_n 3, 1, [3]), (57, .bipush 20, 2, [0, 20]), (59, .iastore, 1, []), (60, .aload_n 0, 1, [0]), (61, .invokevirtual 29, 3, [0, 1, 1, 0, 2, 14, 2, 16, 1, 4, 2, 17, 0, 0]), (64, .aload_n 0, 1, [0]), (65, .ldc 97, 2, [1, 4]), (67, .invokevirtual 52, 3, [0, 2, 2, 0, 2, 32, 2, 34, 1, 4, 2, 35, 0, 4]), (70, .ifCond .eq 29, 3, [99]), (73, .aload_n 0, 1, [0]), (74, .iconst 1, 1, [0, 1]), (75, .bipush 99, 2, [0, 99]), (77, .invokevirtual 84, 3, [0, 3, 3, 0, 2, 98, 2, 100, 1, 4, 2, 101, 0, 6]), (80, .ifCond .ne 5, 3, [85]), (83, .iconst 0, 1, [0, 0]), (84, .ireturn, 1, [1]), (85, .aload_n 1, 1, [1]), (86, .getfield 94, 3, [2, 6, 1, 0, 1, 58]), (89, .iload_n 3, 1, [3]), (90, .aload_n 0, 1, [0]), (91, .getfield 91, 3, [6, 5, 0, 0, 1, 126]), (94, .iastore, 1, []), (95, .aload_n 0, 1, [0]), (96, .invokevirtual 29, 3, [0, 1, 1, 0, 2, 14, 2, 16, 1, 4, 2, 17, 0, 0]), (99, .aload_n 0, 1, [0]), (100, .ldc 99, 2, [1, 5]), (102, .invokevirtual 52, 3, [0, 2, 2, 0, 2, 32, 2, 34, 1, 4, 2, 35, 0, 4]), (105, .ifCond .eq 14, 3, [119]), (108, .aload_n 1, 1, [1]), (109, .getfield 101, 3, [2, 7, 1, 0, 1, 62]), (112, .iload_n 3, 1, [3]), (113, .iconst 1, 1, [0, 1]), (114, .iastore, 1, []), (115, .aload_n 0, 1, [0]), (116, .invokevirtual 29, 3, [0, 1, 1, 0, 2, 14, 2, 16, 1, 4, 2, 17, 0, 0]), (119, .aload_n 0, 1, [0]), (120, .invokevirtual 104, 3, [0, 4, 1, 0, 2, 104, 2, 106, 1, 4, 2, 107, 0, 7]), (123, .ireturn, 1, [1])]
def gT_readCloth : List (mv_C H2) := [((0, 0), cM_addCloth), ((0, 0), cT_readWord), ((0, 0), cT_isName), ((0, 0), cT_readNumber), ((0, 0), cT_isStop)]
def nT_readCloth : List (mv_MD × Bool) := [(mdM_addCloth, true), (mdT_readWord, true), (mdT_isName, true), (mdT_readNumber, true), (mdT_isStop, true)]
def tT_readName : List mv_E := [(0, .aload_n 0, 1, [0]), (1, .invokevirtual 29, 3, [0, 0, 1, 0, 2, 14, 2, 16, 1, 4, 2, 17, 0, 0]), (4, .aload_n 0, 1, [0]), (5, .aload_n 1, 1, [1]), (6, .invokevirtual 52, 3, [0, 1, 2, 0, 2, 32, 2, 34, 1, 4, 2, 35, 0, 4]), (9, .ireturn, 1, [1])]
def gT_readName : List (mv_C H2) := [((0, 0), cT_readWord), ((0, 0), cT_isName)]
def nT_readName : List (mv_MD × Bool) := [(mdT_readWord, true), (mdT_isName, true)]
def tT_readStop : List mv_E := [(0, .aload_n 0, 1, [0]), (1, .invokevirtual 29, 3, [0, 0, 1, 0, 2, 14, 2, 16, 1, 4, 2, 17, 0, 0]), (4, .aload_n 0, 1, [0]), (5, .invokevirtual 104, 3, [0, 1, 1, 0, 2, 104, 2, 106, 1, 4, 2, 107, 0, 7]), (8, .ireturn, 1, [1])]
def gT_readStop : List (mv_C H2) := [((0, 0), cT_readWord), ((0, 0), cT_isStop)]
def nT_readStop : List (mv_MD × Bool) := [(mdT_readWord, true), (mdT_isStop, true)]
def tT_readVat : List mv_E := [(0, .aload_n 0, 1, [0]), (1, .iconst 0, 1, [0, 0]), (2, .bipush 7, 2, [0, 7]), (4, .invokevirtual 84, 3, [0, 0, 3, 0, 2, 98, 2, 100, 1, 4, 2, 101, 0, 6]), (7, .ifCond .ne 5, 3, [12]), (10, .iconst 0, 1, [0, 0]), (11, .ireturn, 1, [1]), (12, .aload_n 0, 1, [0]), (13, .getfield 91, 3, [6, 5, 0, 0, 1, 126]), (16, .istore_n 2, 1, [2]), (17, .aload_n 0, 1, [0]), (18, .ldc 108, 2, [1, 6]), (20, .invokevirtual 110, 3, [0, 1, 2, 0, 2, 114, 2, 116, 1, 4, 2, 117, 0, 9]), (23, .ifCond .eq 13, 3, [36]), (26, .aload_n 0, 1, [0]), (27, .iconst 0, 1, [0, 0]), (28, .bipush 9, 2, [0, 9]), (30, .invokevirtual 84, 3, [0, 0, 3, 0, 2, 98, 2, 100, 1, 4, 2, 101, 0, 6]), (33, .ifCond .ne 5, 3, [38]), (36, .iconst 0, 1, [0, 0]), (37, .ireturn, 1, [1]), (38, .aload_n 1, 1, [1]), (39, .getfield 113, 3, [2, 1, 1, 0, 1, 41]), (42, .iload_n 2, 1, [2]), (43, .aload_n 0, 1, [0]), (44, .getfield 91, 3, [6, 5, 0, 0, 1, 126]), (47, .iastore, 1, []), (48, .aload_n 0, 1, [0]), (49, .invokevirtual 116, 3, [0, 2, 1, 0, 2, 118, 2, 120, 1, 4, 2, 121, 0, 10]), (52, .ireturn, 1, [1])]
def gT_readVat : List (mv_C H2) := [((0, 0), cT_readNumber), ((0, 0), cT_readName), ((0, 0), cT_readStop)]
def nT_readVat : List (mv_MD × Bool) := [(mdT_readNumber, true), (mdT_readName, true), (mdT_readStop, true)]
def tT_readStrong : List mv_E := [(0, .aload_n 0, 1, [0]), (1, .iconst 0, 1, [0, 0]), (2, .bipush 7, 2, [0, 7]), (4, .invokevirtual 84, 3, [0, 0, 3, 0, 2, 98, 2, 100, 1, 4, 2, 101, 0, 6]), (7, .ifCond .ne 5, 3, [12]), (10, .iconst 0, 1, [0, 0]), (11, .ireturn, 1, [1]), (12, .aload_n 0, 1, [0]), (13, .getfield 91, 3, [6, 5, 0, 0, 1, 126]), (16, .istore_n 2, 1, [2]), (17, .aload_n 0, 1, [0]), (18, .iconst 0, 1, [0, 0]), (19, .bipush 9, 2, [0, 9]), (21, .invokevirtual 84, 3, [0, 0, 3, 0, 2, 98, 2, 100, 1, 4, 2, 101, 0, 6]), (24, .ifCond .ne 5, 3, [29]), (27, .iconst 0, 1, [0, 0]), (28, .ireturn, 1, [1]), (29, .aload_n 1, 1, [1]), (30, .getfield 119, 3, [2, 2, 1, 0, 1, 45]), (33, .iload_n 2, 1, [2]), (34, .aload_n 0, 1, [0]), (35, .getfield 91, 3, [6, 5, 0, 0, 1, 126]), (38, .iastore, 1, []), (39, .aload_n 0, 1, [0]), (40, .invokevirtual 116, 3, [0, 1, 1, 0, 2, 118, 2, 120, 1, 4, 2, 121, 0, 10]), (43, .ireturn, 1, [1])]
def gT_readStrong : List (mv_C H2) := [((0, 0), cT_readNumber), ((0, 0), cT_readStop)]
def nT_readStrong : List (mv_MD × Bool) := [(mdT_readNumber, true), (mdT_readStop, true)]
def tT_readDay : List mv_E := [(0, .aload_n 0, 1, [0]), (1, .iconst 0, 1, [0, 0]), (2, .iconst 5, 1, [0, 5]), (3, .invokevirtual 84, 3, [0, 0, 3, 0, 2, 98, 2, 100, 1, 4, 2, 101, 0, 6]), (6, .ifCond .ne 5, 3, [11]), (9, .iconst 0, 1, [0, 0]), (10, .ireturn, 1, [1]), (11, .aload_n 0, 1, [0]), (12, .getfield 91, 3, [6, 5, 0, 0, 1, 126]), (15, .istore_n 2, 1, [2]), (16, .aload_n 0, 1, [0]), (17, .ldc 50, 2, [1, 0]), (19, .invokevirtual 110, 3, [0, 1, 2, 0, 2, 114, 2, 116, 1, 4, 2, 117, 0, 9]), (22, .ifCond .eq 13, 3, [35]), (25, .aload_n 0, 1, [0]), (26, .iconst 0, 1, [0, 0]), (27, .bipush 7, 2, [0, 7]), (29, .invokevirtual 84, 3, [0, 0, 3, 0, 2, 98, 2, 100, 1, 4, 2, 101, 0, 6]), (32, .ifCond .ne 5, 3, [37]), (35, .iconst 0, 1, [0, 0]), (36, .ireturn, 1, [1]), (37, .aload_n 1, 1, [1]), (38, .getfield 122, 3, [2, 3, 1, 0, 1, 49]), (41, .iload_n 2, 1, [2]), (42, .aload_n 0, 1, [0]), (43, .getfield 91, 3, [6, 5, 0, 0, 1, 126]), (46, .iastore, 1, []), (47, .aload_n 0, 1, [0]), (48, .invokevirtual 116, 3, [0, 2, 1, 0, 2, 118, 2, 120, 1, 4, 2, 121, 0, 10]), (51, .ireturn, 1, [1])]
def gT_readDay : List (mv_C H2) := [((0, 0), cT_readNumber), ((0, 0), cT_readName), ((0, 0), cT_readStop)]
def nT_readDay : List (mv_MD × Bool) := [(mdT_readNumber, true), (mdT_readName, true), (mdT_readStop, true)]
def tT_lawNamed : List mv_E := [(0, .aload_n 0, 1, [0]), (1, .ldc 147, 2, [1, 13]), (3, .invokevirtual 52, 3, [0, 0, 2, 0, 2, 32, 2, 34, 1, 4, 2, 35, 0, 4]), (6, .ifCond .eq 5, 3, [11]), (9, .iconst 0, 1, [0, 0]), (10, .ireturn, 1, [0]), (11, .aload_n 0, 1, [0]), (12, .ldc 149, 2, [1, 14]), (14, .invokevirtual 52, 3, [0, 0, 2, 0, 2, 32, 2, 34, 1, 4, 2, 35, 0, 4]), (17, .ifCond .eq 5, 3, [22]), (20, .iconst 1, 1, [0, 1]), (21, .ireturn, 1, [0]), (22, .aload_n 0, 1, [0]), (23, .ldc 151, 2, [1, 15]), (25, .invokevirtual 52, 3, [0, 0, 2, 0, 2, 32, 2, 34, 1, 4, 2, 35, 0, 4]), (28, .ifCond .eq 5, 3, [33]), (31, .iconst 2, 1, [0, 2]), (32, .ireturn, 1, [0]), (33, .aload_n 0, 1, [0]), (34, .ldc 153, 2, [1, 16]), (36, .invokevirtual 52, 3, [0, 0, 2, 0, 2, 32, 2, 34, 1, 4, 2, 35, 0, 4]), (39, .ifCond .eq 7, 3, [46]), (42, .iconst 3, 1, [0, 3]), (43, .goto 4, 3, [47]), (46, .iconst (-1), 1, [1, 1]), (47, .ireturn, 1, [0])]
def gT_lawNamed : List (mv_C H2) := [((0, 0), cT_isName)]
def nT_lawNamed : List (mv_MD × Bool) := [(mdT_isName, true)]
def tV_mostOfLaw : List mv_E := [(0, .iload_n 0, 1, [0]), (1, .iconst 3, 1, [0, 3]), (2, .if_icmp .ne 8, 3, [10]), (5, .bipush 99, 2, [0, 99]), (7, .goto 5, 3, [12]), (10, .bipush 9, 2, [0, 9]), (12, .ireturn, 1, [0])]
def gV_mostOfLaw : List (mv_C H2) := []
def nV_mostOfLaw : List (mv_MD × Bool) := []
def tT_readLaw : List mv_E := [(0, .aload_n 0, 1, [0]), (1, .iconst 0, 1, [0, 0]), (2, .iload_n 2, 1, [2]), (3, .invokestatic 125, 3, [0, 0, 1, 11, 2, 144, 2, 145, 1, 1, 2, 146]), (6, .invokevirtual 84, 3, [0, 1, 3, 0, 2, 98, 2, 100, 1, 4, 2, 101, 0, 6]), (9, .ifCond .ne 5, 3, [14]), (12, .iconst 0, 1, [0, 0]), (13, .ireturn, 1, [1]), (14, .aload_n 1, 1, [1]), (15, .getfield 128, 3, [2, 0, 1, 0, 1, 38]), (18, .iload_n 2, 1, [2]), (19, .aload_n 0, 1, [0]), (20, .getfield 91, 3, [6, 5, 0, 0, 1, 126]), (23, .iastore, 1, []), (24, .aload_n 0, 1, [0]), (25, .invokevirtual 116, 3, [0, 2, 1, 0, 2, 118, 2, 120, 1, 4, 2, 121, 0, 10]), (28, .ireturn, 1, [1])]
def gT_readLaw : List (mv_C H2) := [((0, 0), cV_mostOfLaw), ((0, 0), cT_readNumber), ((0, 0), cT_readStop)]
def nT_readLaw : List (mv_MD × Bool) := [(mdV_mostOfLaw, false), (mdT_readNumber, true), (mdT_readStop, true)]
def tT_readStatement : List mv_E := [(0, .aload_n 0, 1, [0]), (1, .invokevirtual 42, 3, [0, 0, 1, 0, 2, 27, 2, 29, 1, 4, 2, 30, 0, 3]), (4, .istore_n 2, 1, [2]), (5, .iload_n 2, 1, [2]), (6, .ifCond .lt 10, 3, [16]), (9, .aload_n 0, 1, [0]), (10, .aload_n 1, 1, [1]), (11, .iload_n 2, 1, [2]), (12, .invokevirtual 46, 3, [0, 1, 3, 0, 2, 89, 2, 91, 1, 4, 2, 92, 0, 5]), (15, .ireturn, 1, [1]), (16, .aload_n 0, 1, [0]), (17, .ldc 50, 2, [1, 0]), (19, .invokevirtual 52, 3, [0, 2, 2, 0, 2, 32, 2, 34, 1, 4, 2, 35, 0, 4]), (22, .ifCond .eq 9, 3, [31]), (25, .aload_n 0, 1, [0]), (26, .aload_n 1, 1, [1]), (27, .invokevirtual 56, 3, [0, 3, 2, 0, 2, 109, 2, 111, 1, 4, 2, 112, 0, 8]), (30, .ireturn, 1, [1]), (31, .aload_n 0, 1, [0]), (32, .ldc 59, 2, [1, 1]), (34, .invokevirtual 52, 3, [0, 2, 2, 0, 2, 32, 2, 34, 1, 4, 2, 35, 0, 4]), (37, .ifCond .eq 9, 3, [46]), (40, .aload_n 0, 1, [0]), (41, .aload_n 1, 1, [1]), (42, .invokevirtual 61, 3, [0, 4, 2, 0, 2, 123, 2, 125, 1, 4, 2, 126, 0, 11]), (45, .ireturn, 1, [1]), (46, .aload_n 0, 1, [0]), (47, .ldc 64, 2, [1, 2]), (49, .invokevirtual 52, 3, [0, 2, 2, 0, 2, 32, 2, 34, 1, 4, 2, 35, 0, 4]), (52, .ifCond .eq 9, 3, [61]), (55, .aload_n 0, 1, [0]), (56, .aload_n 1, 1, [1]), (57, .invokevirtual 66, 3, [0, 5, 2, 0, 2, 128, 2, 130, 1, 4, 2, 131, 0, 12]), (60, .ireturn, 1, [1]), (61, .aload_n 0, 1, [0]), (62, .invokevirtual 69, 3, [0, 6, 1, 0, 2, 132, 2, 134, 1, 4, 2, 135, 0, 13]), (65, .istore_n 3, 1, [3]), (66, .iload_n 3, 1, [3]), (67, .ifCond .lt 16, 3, [83]), (70, .aload_n 0, 1, [0]), (71, .aload_n 1, 1, [1]), (72, .iload_n 3, 1, [3]), (73, .invokevirtual 72, 3, [0, 7, 3, 0, 2, 140, 2, 142, 1, 4, 2, 143, 0, 14]), (76, .ifCond .eq 7, 3, [83]), (79, .iconst 1, 1, [0, 1]), (80, .goto 4, 3, [84]), (83, .iconst 0, 1, [0, 0]), (84, .ireturn, 1, [1])]
def gT_readStatement : List (mv_C H2) := [((0, 0), cT_kindNamed), ((0, 0), cT_readCloth), ((0, 0), cT_isName), ((0, 0), cT_readVat), ((0, 0), cT_readStrong), ((0, 0), cT_readDay), ((0, 0), cT_lawNamed), ((0, 0), cT_readLaw)]
def nT_readStatement : List (mv_MD × Bool) := [(mdT_kindNamed, true), (mdT_readCloth, true), (mdT_isName, true), (mdT_readVat, true), (mdT_readStrong, true), (mdT_readDay, true), (mdT_lawNamed, true), (mdT_readLaw, true)]
def tT_readInto : List mv_E := [(0, .aload_n 1, 1, [1]), (1, .invokevirtual 21, 3, [0, 0, 1, 0, 2, 13, 1, 33, 1, 2, 1, 35, 1, 34]), (4, .aload_n 0, 1, [0]), (5, .iconst 0, 1, [0, 0]), (6, .putfield 26, 3, [6, 2, 0, 0, 1, 123]), (9, .iconst 0, 1, [0, 0]), (10, .istore_n 2, 1, [2]), (11, .iload_n 2, 1, [2]), (12, .aload_n 0, 1, [0]), (13, .getfield 15, 3, [6, 1, 0, 0, 1, 121]), (16, .if_icmp .gt 35, 3, [51]), (19, .aload_n 0, 1, [0]), (20, .invokevirtual 29, 3, [0, 1, 1, 0, 2, 14, 2, 16, 1, 4, 2, 17, 0, 0]), (23, .aload_n 0, 1, [0]), (24, .getfield 32, 3, [6, 4, 0, 0, 1, 125]), (27, .ifCond .ne 5, 3, [32]), (30, .iconst (-1), 1, [1, 1]), (31, .ireturn, 1, [0]), (32, .aload_n 0, 1, [0]), (33, .aload_n 1, 1, [1]), (34, .invokevirtual 35, 3, [0, 2, 2, 0, 2, 23, 2, 25, 1, 4, 2, 26, 0, 2]), (37, .ifCond .ne 8, 3, [45]), (40, .aload_n 0, 1, [0]), (41, .getfield 39, 3, [6, 3, 0, 0, 1, 124]), (44, .ireturn, 1, [0]), (45, .iinc 2 1, 3, [2, 0, 1]), (48, .goto (-37), 3, [11]), (51, .iconst (-1), 1, [1, 1]), (52, .ireturn, 1, [0])]
def gT_readInto : List (mv_C H2) := [((0, 0), cM_becomeFirst), ((0, 0), cT_readWord), ((0, 0), cT_readStatement)]
def nT_readInto : List (mv_MD × Bool) := [(mdM_becomeFirst, true), (mdT_readWord, true), (mdT_readStatement, true)]
def tV_feed : List mv_E := [(0, .iload_n 3, 1, [3]), (1, .iconst 1, 1, [0, 1]), (2, .bipush 8, 2, [0, 8]), (4, .invokestatic 67, 3, [0, 0, 3, 1, 1, 233, 1, 234, 1, 1, 1, 235]), (7, .ifCond .ne 5, 3, [12]), (10, .iconst (-1), 1, [1, 1]), (11, .ireturn, 1, [0]), (12, .iload_n 3, 1, [3]), (13, .aload_n 0, 1, [0]), (14, .getfield 36, 3, [7, 5, 1, 0, 1, 203]), (17, .invokevirtual 71, 3, [0, 1, 1, 0, 1, 236, 1, 237, 1, 4, 1, 239, 1, 238]), (20, .if_icmp .le 6, 3, [26]), (23, .bipush (-2), 2, [1, 2]), (25, .ireturn, 1, [0]), (26, .aload_n 0, 1, [0]), (27, .getfield 36, 3, [7, 5, 1, 0, 1, 203]), (30, .lload_n 1, 1, [1]), (31, .iload_n 3, 1, [3]), (32, .invokevirtual 75, 3, [0, 2, 3, 0, 2, 0, 2, 1, 1, 4, 2, 3, 2, 2]), (35, .aload_n 0, 1, [0]), (36, .getfield 36, 3, [7, 5, 1, 0, 1, 203]), (39, .getfield 79, 3, [6, 1, 0, 1, 1, 122]), (42, .ireturn, 1, [0])]
def gV_feed : List (mv_C H2) := [((0, 0), cV_isIn), ((0, 0), cT_room), ((0, 0), cT_take)]
def nV_feed : List (mv_MD × Bool) := [(mdV_isIn, false), (mdT_room, true), (mdT_take, true)]
def tV_mill : List mv_E := [(0, .aload_n 0, 1, [0]), (1, .getfield 36, 3, [7, 5, 1, 0, 1, 203]), (4, .aload_n 0, 1, [0]), (5, .getfield 16, 3, [7, 1, 1, 0, 1, 199]), (8, .invokevirtual 83, 3, [0, 0, 2, 0, 2, 9, 2, 10, 1, 4, 2, 12, 2, 11]), (11, .istore_n 1, 1, [1]), (12, .aload_n 0, 1, [0]), (13, .getfield 36, 3, [7, 5, 1, 0, 1, 203]), (16, .invokevirtual 87, 3, [0, 1, 1, 0, 2, 147, 2, 148, 1, 4, 2, 150, 2, 149]), (19, .iload_n 1, 1, [1]), (20, .ifCond .lt 8, 3, [28]), (23, .bipush (-100), 2, [1, 100]), (25, .iload_n 1, 1, [1]), (26, .isub, 1, []), (27, .ireturn, 1, [0]), (28, .aload_n 0, 1, [0]), (29, .getfield 16, 3, [7, 1, 1, 0, 1, 199]), (32, .aload_n 0, 1, [0]), (33, .getfield 10, 3, [7, 0, 1, 0, 1, 198]), (36, .getfield 90, 3, [2, 11, 0, 0, 1, 75]), (39, .putfield 90, 3, [2, 11, 0, 0, 1, 75]), (42, .aload_n 0, 1, [0]), (43, .getfield 10, 3, [7, 0, 1, 0, 1, 198]), (46, .aload_n 0, 1, [0]), (47, .getfield 16, 3, [7, 1, 1, 0, 1, 199]), (50, .invokevirtual 93, 3, [0, 2, 2, 0, 2, 151, 2, 152, 1, 2, 2, 154, 2, 153]), (53, .aload_n 0, 1, [0]), (54, .getfield 43, 3, [7, 6, 1, 0, 1, 204]), (57, .iconst 0, 1, [0, 0]), (58, .putfield 97, 3, [3, 1, 0, 0, 1, 148]), (61, .aload_n 0, 1, [0]), (62, .getfield 10, 3, [7, 0, 1, 0, 1, 198]), (65, .getfield 100, 3, [2, 9, 0, 0, 1, 68]), (68, .ireturn, 1, [0])]
def gV_mill : List (mv_C H2) := [((0, 0), cT_readInto), ((0, 0), cT_useUp), ((0, 0), cM_copyFrom)]
def nV_mill : List (mv_MD × Bool) := [(mdT_readInto, true), (mdT_useUp, true), (mdM_copyFrom, true)]
def tV_set : List mv_E := [(0, .iload_n 1, 1, [1]), (1, .iconst 0, 1, [0, 0]), (2, .iconst 3, 1, [0, 3]), (3, .invokestatic 67, 3, [0, 0, 3, 1, 1, 233, 1, 234, 1, 1, 1, 235]), (6, .ifCond .eq 15, 3, [21]), (9, .iload_n 2, 1, [2]), (10, .iconst 0, 1, [0, 0]), (11, .iload_n 1, 1, [1]), (12, .invokestatic 101, 3, [0, 1, 1, 1, 2, 163, 2, 145, 1, 1, 2, 146]), (15, .invokestatic 67, 3, [0, 0, 3, 1, 1, 233, 1, 234, 1, 1, 1, 235]), (18, .ifCond .ne 5, 3, [23]), (21, .iconst (-1), 1, [1, 1]), (22, .ireturn, 1, [0]), (23, .aload_n 0, 1, [0]), (24, .getfield 10, 3, [7, 0, 1, 0, 1, 198]), (27, .getfield 105, 3, [2, 0, 1, 0, 1, 37]), (30, .iload_n 1, 1, [1]), (31, .iaload, 1, []), (32, .istore_n 3, 1, [3]), (33, .aload_n 0, 1, [0]), (34, .getfield 10, 3, [7, 0, 1, 0, 1, 198]), (37, .getfield 105, 3, [2, 0, 1, 0, 1, 37]), (40, .iload_n 1, 1, [1]), (41, .iload_n 2, 1, [2]), (42, .iastore, 1, []), (43, .iload_n 3, 1, [3]), (44, .ireturn, 1, [0])]
def gV_set : List (mv_C H2) := [((0, 0), cV_isIn), ((0, 0), cV_mostOfLaw)]
def nV_set : List (mv_MD × Bool) := [(mdV_isIn, false), (mdV_mostOfLaw, false)]
def tV_lawOf : List mv_E := [(0, .iload_n 1, 1, [1]), (1, .iconst 0, 1, [0, 0]), (2, .iconst 3, 1, [0, 3]), (3, .invokestatic 67, 3, [0, 0, 3, 1, 1, 233, 1, 234, 1, 1, 1, 235]), (6, .ifCond .eq 15, 3, [21]), (9, .aload_n 0, 1, [0]), (10, .getfield 10, 3, [7, 0, 1, 0, 1, 198]), (13, .getfield 105, 3, [2, 0, 1, 0, 1, 37]), (16, .iload_n 1, 1, [1]), (17, .iaload, 1, []), (18, .goto 4, 3, [22]), (21, .iconst (-1), 1, [1, 1]), (22, .ireturn, 1, [0])]
def gV_lawOf : List (mv_C H2) := [((0, 0), cV_isIn)]
def nV_lawOf : List (mv_MD × Bool) := [(mdV_isIn, false)]
def tV_isVat : List mv_E := [(0, .iload_n 0, 1, [0]), (1, .iconst 0, 1, [0, 0]), (2, .bipush 7, 2, [0, 7]), (4, .invokestatic 67, 3, [0, 0, 3, 1, 1, 233, 1, 234, 1, 1, 1, 235]), (7, .ireturn, 1, [1])]
def gV_isVat : List (mv_C H2) := [((0, 0), cV_isIn)]
def nV_isVat : List (mv_MD × Bool) := [(mdV_isIn, false)]
def tV_fill : List mv_E := [(0, .iload_n 1, 1, [1]), (1, .invokestatic 109, 3, [0, 0, 1, 1, 2, 172, 2, 173, 1, 1, 2, 174]), (4, .ifCond .eq 12, 3, [16]), (7, .iload_n 2, 1, [2]), (8, .iconst 0, 1, [0, 0]), (9, .iconst 1, 1, [0, 1]), (10, .invokestatic 67, 3, [0, 1, 3, 1, 1, 233, 1, 234, 1, 1, 1, 235]), (13, .ifCond .ne 5, 3, [18]), (16, .iconst (-1), 1, [1, 1]), (17, .ireturn, 1, [0]), (18, .iload_n 3, 1, [3]), (19, .iconst 0, 1, [0, 0]), (20, .iload_n 2, 1, [2]), (21, .ifCond .ne 8, 3, [29]), (24, .bipush 9, 2, [0, 9]), (26, .goto 5, 3, [31]), (29, .bipush 9, 2, [0, 9]), (31, .invokestatic 67, 3, [0, 1, 3, 1, 1, 233, 1, 234, 1, 1, 1, 235]), (34, .ifCond .ne 5, 3, [39]), (37, .iconst (-1), 1, [1, 1]), (38, .ireturn, 1, [0]), (39, .iload_n 2, 1, [2]), (40, .ifCond .ne 13, 3, [53]), (43, .aload_n 0, 1, [0]), (44, .getfield 10, 3, [7, 0, 1, 0, 1, 198]), (47, .getfield 113, 3, [2, 1, 1, 0, 1, 40]), (50, .goto 10, 3, [60]), (53, .aload_n 0, 1, [0]), (54, .getfield 10, 3, [7, 0, 1, 0, 1, 198]), (57, .getfield 116, 3, [2, 2, 1, 0, 1, 43]), (60, .astore 4, 2, [4]), (62, .aload 4, 2, [4]), (64, .iload_n 1, 1, [1]), (65, .iaload, 1, []), (66, .istore 5, 2, [5]), (68, .aload 4, 2, [4]), (70, .iload_n 1, 1, [1]), (71, .iload_n 3, 1, [3]), (72, .iastore, 1, []), (73, .iload 5, 2, [5]), (75, .ireturn, 1, [0])]
def gV_fill : List (mv_C H2) := [((0, 0), cV_isVat), ((0, 0), cV_isIn)]
def nV_fill : List (mv_MD × Bool) := [(mdV_isVat, false), (mdV_isIn, false)]
def tV_vatOf : List mv_E := [(0, .iload_n 1, 1, [1]), (1, .invokestatic 109, 3, [0, 0, 1, 1, 2, 172, 2, 173, 1, 1, 2, 174]), (4, .ifCond .eq 12, 3, [16]), (7, .iload_n 2, 1, [2]), (8, .iconst 0, 1, [0, 0]), (9, .iconst 1, 1, [0, 1]), (10, .invokestatic 67, 3, [0, 1, 3, 1, 1, 233, 1, 234, 1, 1, 1, 235]), (13, .ifCond .ne 5, 3, [18]), (16, .iconst (-1), 1, [1, 1]), (17, .ireturn, 1, [0]), (18, .iload_n 2, 1, [2]), (19, .ifCond .ne 15, 3, [34]), (22, .aload_n 0, 1, [0]), (23, .getfield 10, 3, [7, 0, 1, 0, 1, 198]), (26, .getfield 113, 3, [2, 1, 1, 0, 1, 40]), (29, .iload_n 1, 1, [1]), (30, .iaload, 1, []), (31, .goto 12, 3, [43]), (34, .aload_n 0, 1, [0]), (35, .getfield 10, 3, [7, 0, 1, 0, 1, 198]), (38, .getfield 116, 3, [2, 2, 1, 0, 1, 43]), (41, .iload_n 1, 1, [1]), (42, .iaload, 1, []), (43, .ireturn, 1, [0])]
def gV_vatOf : List (mv_C H2) := [((0, 0), cV_isVat), ((0, 0), cV_isIn)]
def nV_vatOf : List (mv_MD × Bool) := [(mdV_isVat, false), (mdV_isIn, false)]
def tV_isRest : List mv_E := [(0, .iload_n 0, 1, [0]), (1, .iconst 0, 1, [0, 0]), (2, .iconst 5, 1, [0, 5]), (3, .invokestatic 67, 3, [0, 0, 3, 1, 1, 233, 1, 234, 1, 1, 1, 235]), (6, .ireturn, 1, [1])]
def gV_isRest : List (mv_C H2) := [((0, 0), cV_isIn)]
def nV_isRest : List (mv_MD × Bool) := [(mdV_isIn, false)]
def tV_roster : List mv_E := [(0, .iload_n 1, 1, [1]), (1, .invokestatic 119, 3, [0, 0, 1, 1, 2, 183, 2, 184, 1, 1, 2, 185]), (4, .ifCond .ne 5, 3, [9]), (7, .iconst (-1), 1, [1, 1]), (8, .ireturn, 1, [0]), (9, .iload_n 2, 1, [2]), (10, .iconst (-1), 1, [1, 1]), (11, .if_icmp .eq 12, 3, [23]), (14, .iload_n 2, 1, [2]), (15, .invokestatic 109, 3, [0, 1, 1, 1, 2, 172, 2, 173, 1, 1, 2, 174]), (18, .ifCond .ne 5, 3, [23]), (21, .iconst (-1), 1, [1, 1]), (22, .ireturn, 1, [0]), (23, .aload_n 0, 1, [0]), (24, .getfield 10, 3, [7, 0, 1, 0, 1, 198]), (27, .getfield 122, 3, [2, 3, 1, 0, 1, 47]), (30, .iload_n 1, 1, [1]), (31, .iaload, 1, []), (32, .istore_n 3, 1, [3]), (33, .aload_n 0, 1, [0]), (34, .getfield 10, 3, [7, 0, 1, 0, 1, 198]), (37, .getfield 122, 3, [2, 3, 1, 0, 1, 47]), (40, .iload_n 1, 1, [1]), (41, .iload_n 2, 1, [2]), (42, .iastore, 1, []), (43, .iconst 1, 1, [0, 1]), (44, .iload_n 3, 1, [3]), (45, .iadd, 1, []), (46, .ireturn, 1, [0])]
def gV_roster : List (mv_C H2) := [((0, 0), cV_isRest), ((0, 0), cV_isVat)]
def nV_roster : List (mv_MD × Bool) := [(mdV_isRest, false), (mdV_isVat, false)]
def tV_rosterOf : List mv_E := [(0, .iload_n 1, 1, [1]), (1, .invokestatic 119, 3, [0, 0, 1, 1, 2, 183, 2, 184, 1, 1, 2, 185]), (4, .ifCond .eq 17, 3, [21]), (7, .iconst 1, 1, [0, 1]), (8, .aload_n 0, 1, [0]), (9, .getfield 10, 3, [7, 0, 1, 0, 1, 198]), (12, .getfield 122, 3, [2, 3, 1, 0, 1, 47]), (15, .iload_n 1, 1, [1]), (16, .iaload, 1, []), (17, .iadd, 1, []), (18, .goto 4, 3, [22]), (21, .iconst (-1), 1, [1, 1]), (22, .ireturn, 1, [0])]
def gV_rosterOf : List (mv_C H2) := [((0, 0), cV_isRest)]
def nV_rosterOf : List (mv_MD × Bool) := [(mdV_isRest, false)]
def tV_isKind : List mv_E := [(0, .iload_n 0, 1, [0]), (1, .iconst 0, 1, [0, 0]), (2, .iconst 5, 1, [0, 5]), (3, .invokestatic 67, 3, [0, 0, 3, 1, 1, 233, 1, 234, 1, 1, 1, 235]), (6, .ireturn, 1, [1])]
def gV_isKind : List (mv_C H2) := [((0, 0), cV_isIn)]
def nV_isKind : List (mv_MD × Bool) := [(mdV_isIn, false)]
def tV_cloth : List mv_E := [(0, .iload_n 1, 1, [1]), (1, .invokestatic 125, 3, [0, 0, 1, 1, 2, 194, 2, 195, 1, 1, 2, 196]), (4, .ifCond .ne 5, 3, [9]), (7, .iconst (-1), 1, [1, 1]), (8, .ireturn, 1, [0]), (9, .aload_n 0, 1, [0]), (10, .getfield 10, 3, [7, 0, 1, 0, 1, 198]), (13, .getfield 100, 3, [2, 9, 0, 0, 1, 68]), (16, .bipush 8, 2, [0, 8]), (18, .if_icmp .lt 6, 3, [24]), (21, .bipush (-2), 2, [1, 2]), (23, .ireturn, 1, [0]), (24, .aload_n 0, 1, [0]), (25, .getfield 10, 3, [7, 0, 1, 0, 1, 198]), (28, .iload_n 1, 1, [1]), (29, .invokevirtual 128, 3, [0, 1, 2, 0, 2, 197, 2, 94, 1, 2, 2, 96, 2, 95]), (32, .ireturn, 1, [0])]
def gV_cloth : List (mv_C H2) := [((0, 0), cV_isKind), ((0, 0), cM_addCloth)]
def nV_cloth : List (mv_MD × Bool) := [(mdV_isKind, false), (mdM_addCloth, true)]
def tV_of : List mv_E := [(0, .aload_n 0, 1, [0]), (1, .getfield 10, 3, [7, 0, 1, 0, 1, 198]), (4, .iload_n 1, 1, [1]), (5, .invokevirtual 131, 3, [0, 0, 2, 0, 2, 202, 2, 203, 1, 2, 2, 205, 2, 204]), (8, .ifCond .ne 5, 3, [13]), (11, .iconst (-1), 1, [1, 1]), (12, .ireturn, 1, [0]), (13, .iload_n 2, 1, [2]), (14, .tableswitch 86 0 4 #[34, 44, 56, 66, 76], 34, [0, 100, 48, 58, 70, 80, 90]), (48, .aload_n 0, 1, [0]), (49, .getfield 10, 3, [7, 0, 1, 0, 1, 198]), (52, .getfield 134, 3, [2, 4, 1, 0, 1, 52]), (55, .iload_n 1, 1, [1]), (56, .iaload, 1, []), (57, .ireturn, 1, [0]), (58, .iconst 1, 1, [0, 1]), (59, .aload_n 0, 1, [0]), (60, .getfield 10, 3, [7, 0, 1, 0, 1, 198]), (63, .getfield 137, 3, [2, 5, 1, 0, 1, 56]), (66, .iload_n 1, 1, [1]), (67, .iaload, 1, []), (68, .iadd, 1, []), (69, .ireturn, 1, [0]), (70, .aload_n 0, 1, [0]), (71, .getfield 10, 3, [7, 0, 1, 0, 1, 198]), (74, .getfield 140, 3, [2, 6, 1, 0, 1, 60]), (77, .iload_n 1, 1, [1]), (78, .iaload, 1, []), (79, .ireturn, 1, [0]), (80, .aload_n 0, 1, [0]), (81, .getfield 10, 3, [7, 0, 1, 0, 1, 198]), (84, .getfield 143, 3, [2, 7, 1, 0, 1, 63]), (87, .iload_n 1, 1, [1]), (88, .iaload, 1, []), (89, .ireturn, 1, [0]), (90, .aload_n 0, 1, [0]), (91, .getfield 10, 3, [7, 0, 1, 0, 1, 198]), (94, .getfield 146, 3, [2, 8, 1, 0, 1, 66]), (97, .iload_n 1, 1, [1]), (98, .iaload, 1, []), (99, .ireturn, 1, [0]), (100, .iconst (-1), 1, [1, 1]), (101, .ireturn, 1, [0])]
def gV_of : List (mv_C H2) := [((0, 0), cM_has)]
def nV_of : List (mv_MD × Bool) := [(mdM_has, true)]
def tV_does : List mv_E := [(0, .aload_n 0, 1, [0]), (1, .getfield 10, 3, [7, 0, 1, 0, 1, 198]), (4, .iload_n 1, 1, [1]), (5, .invokevirtual 131, 3, [0, 0, 2, 0, 2, 202, 2, 203, 1, 2, 2, 205, 2, 204]), (8, .ifCond .eq 10, 3, [18]), (11, .iload_n 2, 1, [2]), (12, .invokestatic 109, 3, [0, 1, 1, 1, 2, 172, 2, 173, 1, 1, 2, 174]), (15, .ifCond .ne 5, 3, [20]), (18, .iconst (-1), 1, [1, 1]), (19, .ireturn, 1, [0]), (20, .iload_n 3, 1, [3]), (21, .tableswitch 68 0 2 #[27, 41, 55], 27, [0, 89, 48, 62, 76]), (48, .sipush 1000, 3, [0, 1000]), (51, .aload_n 0, 1, [0]), (52, .getfield 10, 3, [7, 0, 1, 0, 1, 198]), (55, .iload_n 1, 1, [1]), (56, .iload_n 2, 1, [2]), (57, .invokevirtual 149, 3, [0, 2, 3, 0, 2, 211, 2, 212, 1, 2, 2, 214, 2, 213]), (60, .iadd, 1, []), (61, .ireturn, 1, [0]), (62, .sipush 1000, 3, [0, 1000]), (65, .aload_n 0, 1, [0]), (66, .getfield 10, 3, [7, 0, 1, 0, 1, 198]), (69, .iload_n 1, 1, [1]), (70, .iload_n 2, 1, [2]), (71, .invokevirtual 153, 3, [0, 3, 3, 0, 2, 215, 2, 216, 1, 2, 2, 218, 2, 217]), (74, .iadd, 1, []), (75, .ireturn, 1, [0]), (76, .sipush 1000, 3, [0, 1000]), (79, .aload_n 0, 1, [0]), (80, .getfield 10, 3, [7, 0, 1, 0, 1, 198]), (83, .iload_n 1, 1, [1]), (84, .invokevirtual 156, 3, [0, 4, 2, 0, 2, 219, 2, 220, 1, 2, 2, 222, 2, 221]), (87, .iadd, 1, []), (88, .ireturn, 1, [0]), (89, .iconst (-1), 1, [1, 1]), (90, .ireturn, 1, [0])]
def gV_does : List (mv_C H2) := [((0, 0), cM_has), ((0, 0), cV_isVat), ((0, 0), cM_takes), ((0, 0), cM_fights), ((0, 0), cM_fades)]
def nV_does : List (mv_MD × Bool) := [(mdM_has, true), (mdV_isVat, false), (mdM_takes, true), (mdM_fights, true), (mdM_fades, true)]
def tV_mind : List mv_E := [(0, .aload_n 0, 1, [0]), (1, .getfield 10, 3, [7, 0, 1, 0, 1, 198]), (4, .iload_n 1, 1, [1]), (5, .invokevirtual 131, 3, [0, 0, 2, 0, 2, 202, 2, 203, 1, 2, 2, 205, 2, 204]), (8, .ifCond .eq 10, 3, [18]), (11, .iload_n 2, 1, [2]), (12, .invokestatic 125, 3, [0, 1, 1, 1, 2, 194, 2, 195, 1, 1, 2, 196]), (15, .ifCond .ne 5, 3, [20]), (18, .iconst (-1), 1, [1, 1]), (19, .ireturn, 1, [0]), (20, .aload_n 0, 1, [0]), (21, .getfield 10, 3, [7, 0, 1, 0, 1, 198]), (24, .getfield 134, 3, [2, 4, 1, 0, 1, 52]), (27, .iload_n 1, 1, [1]), (28, .iaload, 1, []), (29, .istore_n 3, 1, [3]), (30, .aload_n 0, 1, [0]), (31, .getfield 10, 3, [7, 0, 1, 0, 1, 198]), (34, .getfield 134, 3, [2, 4, 1, 0, 1, 52]), (37, .iload_n 1, 1, [1]), (38, .iload_n 2, 1, [2]), (39, .iastore, 1, []), (40, .iload_n 3, 1, [3]), (41, .ireturn, 1, [0])]
def gV_mind : List (mv_C H2) := [((0, 0), cM_has), ((0, 0), cV_isKind)]
def nV_mind : List (mv_MD × Bool) := [(mdM_has, true), (mdV_isKind, false)]
def tV_isPurpose : List mv_E := [(0, .iload_n 0, 1, [0]), (1, .iconst 0, 1, [0, 0]), (2, .bipush 9, 2, [0, 9]), (4, .invokestatic 67, 3, [0, 0, 3, 1, 1, 233, 1, 234, 1, 1, 1, 235]), (7, .ireturn, 1, [1])]
def gV_isPurpose : List (mv_C H2) := [((0, 0), cV_isIn)]
def nV_isPurpose : List (mv_MD × Bool) := [(mdV_isIn, false)]
def tV_steep : List mv_E := [(0, .aload_n 0, 1, [0]), (1, .getfield 10, 3, [7, 0, 1, 0, 1, 198]), (4, .iload_n 1, 1, [1]), (5, .invokevirtual 131, 3, [0, 0, 2, 0, 2, 202, 2, 203, 1, 2, 2, 205, 2, 204]), (8, .ifCond .ne 5, 3, [13]), (11, .iconst (-1), 1, [1, 1]), (12, .ireturn, 1, [0]), (13, .iload_n 2, 1, [2]), (14, .iconst (-1), 1, [1, 1]), (15, .if_icmp .ne 11, 3, [26]), (18, .iload_n 3, 1, [3]), (19, .ifCond .ne 7, 3, [26]), (22, .iconst 1, 1, [0, 1]), (23, .goto 4, 3, [27]), (26, .iconst 0, 1, [0, 0]), (27, .istore 4, 2, [4]), (29, .iload 4, 2, [4]), (31, .ifCond .ne 22, 3, [53]), (34, .iload_n 2, 1, [2]), (35, .invokestatic 159, 3, [0, 1, 1, 1, 2, 231, 2, 232, 1, 1, 2, 233]), (38, .ifCond .eq 13, 3, [51]), (41, .iload_n 3, 1, [3]), (42, .iconst 1, 1, [0, 1]), (43, .bipush 99, 2, [0, 99]), (45, .invokestatic 67, 3, [0, 2, 3, 1, 1, 233, 1, 234, 1, 1, 1, 235]), (48, .ifCond .ne 5, 3, [53]), (51, .iconst (-1), 1, [1, 1]), (52, .ireturn, 1, [0]), (53, .aload_n 0, 1, [0]), (54, .getfield 10, 3, [7, 0, 1, 0, 1, 198]), (57, .getfield 137, 3, [2, 5, 1, 0, 1, 56]), (60, .iload_n 1, 1, [1]), (61, .iaload, 1, []), (62, .istore 5, 2, [5]), (64, .aload_n 0, 1, [0]), (65, .getfield 10, 3, [7, 0, 1, 0, 1, 198]), (68, .getfield 137, 3, [2, 5, 1, 0, 1, 56]), (71, .iload_n 1, 1, [1]), (72, .iload_n 2, 1, [2]), (73, .iastore, 1, []), (74, .aload_n 0, 1, [0]), (75, .getfield 10, 3, [7, 0, 1, 0, 1, 198]), (78, .getfield 140, 3, [2, 6, 1, 0, 1, 60]), (81, .iload_n 1, 1, [1]), (82, .iload_n 3, 1, [3]), (83, .iastore, 1, []), (84, .iconst 1, 1, [0, 1]), (85, .iload 5, 2, [5]), (87, .iadd, 1, []), (88, .ireturn, 1, [0])]
def gV_steep : List (mv_C H2) := [((0, 0), cM_has), ((0, 0), cV_isPurpose), ((0, 0), cV_isIn)]
def nV_steep : List (mv_MD × Bool) := [(mdM_has, true), (mdV_isPurpose, false), (mdV_isIn, false)]
def tV_hang : List mv_E := [(0, .aload_n 0, 1, [0]), (1, .getfield 10, 3, [7, 0, 1, 0, 1, 198]), (4, .iload_n 1, 1, [1]), (5, .invokevirtual 131, 3, [0, 0, 2, 0, 2, 202, 2, 203, 1, 2, 2, 205, 2, 204]), (8, .ifCond .eq 12, 3, [20]), (11, .iload_n 2, 1, [2]), (12, .iconst 0, 1, [0, 0]), (13, .iconst 1, 1, [0, 1]), (14, .invokestatic 67, 3, [0, 1, 3, 1, 1, 233, 1, 234, 1, 1, 1, 235]), (17, .ifCond .ne 5, 3, [22]), (20, .iconst (-1), 1, [1, 1]), (21, .ireturn, 1, [0]), (22, .aload_n 0, 1, [0]), (23, .getfield 10, 3, [7, 0, 1, 0, 1, 198]), (26, .getfield 143, 3, [2, 7, 1, 0, 1, 63]), (29, .iload_n 1, 1, [1]), (30, .iaload, 1, []), (31, .istore_n 3, 1, [3]), (32, .aload_n 0, 1, [0]), (33, .getfield 10, 3, [7, 0, 1, 0, 1, 198]), (36, .getfield 143, 3, [2, 7, 1, 0, 1, 63]), (39, .iload_n 1, 1, [1]), (40, .iload_n 2, 1, [2]), (41, .iastore, 1, []), (42, .iload_n 3, 1, [3]), (43, .ireturn, 1, [0])]
def gV_hang : List (mv_C H2) := [((0, 0), cM_has), ((0, 0), cV_isIn)]
def nV_hang : List (mv_MD × Bool) := [(mdM_has, true), (mdV_isIn, false)]
def tV_dip : List mv_E := [(0, .aload_n 0, 1, [0]), (1, .getfield 10, 3, [7, 0, 1, 0, 1, 198]), (4, .iload_n 1, 1, [1]), (5, .invokevirtual 131, 3, [0, 0, 2, 0, 2, 202, 2, 203, 1, 2, 2, 205, 2, 204]), (8, .ifCond .eq 10, 3, [18]), (11, .iload_n 2, 1, [2]), (12, .invokestatic 109, 3, [0, 1, 1, 1, 2, 172, 2, 173, 1, 1, 2, 174]), (15, .ifCond .ne 5, 3, [20]), (18, .iconst (-1), 1, [1, 1]), (19, .ireturn, 1, [0]), (20, .aload_n 0, 1, [0]), (21, .getfield 10, 3, [7, 0, 1, 0, 1, 198]), (24, .iload_n 1, 1, [1]), (25, .iload_n 2, 1, [2]), (26, .invokevirtual 162, 3, [0, 2, 3, 0, 3, 2, 3, 3, 1, 2, 3, 5, 3, 4]), (29, .iconst 1, 1, [0, 1]), (30, .aload_n 0, 1, [0]), (31, .getfield 10, 3, [7, 0, 1, 0, 1, 198]), (34, .getfield 137, 3, [2, 5, 1, 0, 1, 56]), (37, .iload_n 1, 1, [1]), (38, .iaload, 1, []), (39, .iadd, 1, []), (40, .ireturn, 1, [0])]
def gV_dip : List (mv_C H2) := [((0, 0), cM_has), ((0, 0), cV_isVat), ((0, 0), cM_dipInto)]
def nV_dip : List (mv_MD × Bool) := [(mdM_has, true), (mdV_isVat, false), (mdM_dipInto, true)]
def tV_days : List mv_E := [(0, .iload_n 1, 1, [1]), (1, .iconst 1, 1, [0, 1]), (2, .bipush 60, 2, [0, 60]), (4, .invokestatic 67, 3, [0, 0, 3, 1, 1, 233, 1, 234, 1, 1, 1, 235]), (7, .ifCond .ne 5, 3, [12]), (10, .iconst (-1), 1, [1, 1]), (11, .ireturn, 1, [0]), (12, .aload_n 0, 1, [0]), (13, .getfield 10, 3, [7, 0, 1, 0, 1, 198]), (16, .iload_n 1, 1, [1]), (17, .invokevirtual 166, 3, [0, 1, 2, 0, 3, 16, 3, 17, 1, 2, 3, 19, 3, 18]), (20, .aload_n 0, 1, [0]), (21, .getfield 10, 3, [7, 0, 1, 0, 1, 198]), (24, .invokevirtual 170, 3, [0, 2, 1, 0, 3, 34, 3, 35, 1, 2, 3, 37, 3, 36]), (27, .ireturn, 1, [0])]
def gV_days : List (mv_C H2) := [((0, 0), cV_isIn), ((0, 0), cM_passDays), ((0, 0), cM_allDepths)]
def nV_days : List (mv_MD × Bool) := [(mdV_isIn, false), (mdM_passDays, true), (mdM_allDepths, true)]
def tV_seed : List mv_E := [(0, .aload_n 0, 1, [0]), (1, .getfield 10, 3, [7, 0, 1, 0, 1, 198]), (4, .getfield 90, 3, [2, 11, 0, 0, 1, 75]), (7, .istore_n 2, 1, [2]), (8, .aload_n 0, 1, [0]), (9, .getfield 10, 3, [7, 0, 1, 0, 1, 198]), (12, .iload_n 1, 1, [1]), (13, .putfield 90, 3, [2, 11, 0, 0, 1, 75]), (16, .iload_n 2, 1, [2]), (17, .ireturn, 1, [0])]
def gV_seed : List (mv_C H2) := []
def nV_seed : List (mv_MD × Bool) := []
def tV_day : List mv_E := [(0, .aload_n 0, 1, [0]), (1, .getfield 10, 3, [7, 0, 1, 0, 1, 198]), (4, .invokevirtual 173, 3, [0, 0, 1, 0, 3, 46, 3, 47, 1, 2, 3, 49, 3, 48]), (7, .aload_n 0, 1, [0]), (8, .getfield 10, 3, [7, 0, 1, 0, 1, 198]), (11, .invokevirtual 170, 3, [0, 1, 1, 0, 3, 34, 3, 35, 1, 2, 3, 37, 3, 36]), (14, .ireturn, 1, [0])]
def gV_day : List (mv_C H2) := [((0, 0), cM_passDrawnDay), ((0, 0), cM_allDepths)]
def nV_day : List (mv_MD × Bool) := [(mdM_passDrawnDay, true), (mdM_allDepths, true)]
def tV_luck : List mv_E := [(0, .iload_n 1, 1, [1]), (1, .iconst 1, 1, [0, 1]), (2, .bipush 30, 2, [0, 30]), (4, .invokestatic 67, 3, [0, 0, 3, 1, 1, 233, 1, 234, 1, 1, 1, 235]), (7, .ifCond .eq 18, 3, [25]), (10, .aload_n 0, 1, [0]), (11, .getfield 29, 3, [7, 4, 1, 0, 1, 202]), (14, .aload_n 0, 1, [0]), (15, .getfield 10, 3, [7, 0, 1, 0, 1, 198]), (18, .iload_n 1, 1, [1]), (19, .invokevirtual 176, 3, [0, 1, 3, 0, 3, 59, 3, 60, 1, 3, 3, 62, 3, 61]), (22, .goto 4, 3, [26]), (25, .iconst (-1), 1, [1, 1]), (26, .ireturn, 1, [0])]
def gV_luck : List (mv_C H2) := [((0, 0), cV_isIn), ((0, 0), cF_luckyDays)]
def nV_luck : List (mv_MD × Bool) := [(mdV_isIn, false), (mdF_luckyDays, true)]
def tV_state : List mv_E := [(0, .iload_n 1, 1, [1]), (1, .tableswitch 89 0 5 #[39, 47, 57, 65, 73, 81], 39, [0, 90, 40, 48, 58, 66, 74, 82]), (40, .aload_n 0, 1, [0]), (41, .getfield 10, 3, [7, 0, 1, 0, 1, 198]), (44, .getfield 180, 3, [2, 10, 0, 0, 1, 72]), (47, .ireturn, 1, [0]), (48, .iconst 1, 1, [0, 1]), (49, .aload_n 0, 1, [0]), (50, .getfield 10, 3, [7, 0, 1, 0, 1, 198]), (53, .invokevirtual 183, 3, [0, 0, 1, 0, 3, 75, 3, 25, 1, 2, 3, 27, 3, 26]), (56, .iadd, 1, []), (57, .ireturn, 1, [0]), (58, .aload_n 0, 1, [0]), (59, .getfield 10, 3, [7, 0, 1, 0, 1, 198]), (62, .invokevirtual 186, 3, [0, 1, 1, 0, 3, 76, 3, 77, 1, 2, 3, 79, 3, 78]), (65, .ireturn, 1, [0]), (66, .aload_n 0, 1, [0]), (67, .getfield 10, 3, [7, 0, 1, 0, 1, 198]), (70, .invokevirtual 189, 3, [0, 2, 1, 0, 3, 80, 3, 81, 1, 2, 3, 83, 3, 82]), (73, .ireturn, 1, [0]), (74, .aload_n 0, 1, [0]), (75, .getfield 10, 3, [7, 0, 1, 0, 1, 198]), (78, .invokevirtual 170, 3, [0, 3, 1, 0, 3, 34, 3, 35, 1, 2, 3, 37, 3, 36]), (81, .ireturn, 1, [0]), (82, .aload_n 0, 1, [0]), (83, .getfield 10, 3, [7, 0, 1, 0, 1, 198]), (86, .invokevirtual 192, 3, [0, 4, 1, 0, 3, 84, 3, 85, 1, 2, 3, 87, 3, 86]), (89, .ireturn, 1, [0]), (90, .iconst (-1), 1, [1, 1]), (91, .ireturn, 1, [0])]
def gV_state : List (mv_C H2) := [((0, 0), cM_vatOfToday), ((0, 0), cM_hungSet), ((0, 0), cM_aboutSet), ((0, 0), cM_allDepths), ((0, 0), cM_oddPairs)]
def nV_state : List (mv_MD × Bool) := [(mdM_vatOfToday, true), (mdM_hungSet, true), (mdM_aboutSet, true), (mdM_allDepths, true), (mdM_oddPairs, true)]
def tV_isDays : List mv_E := [(0, .iload_n 0, 1, [0]), (1, .iconst 0, 1, [0, 0]), (2, .bipush 60, 2, [0, 60]), (4, .invokestatic 67, 3, [0, 0, 3, 1, 1, 233, 1, 234, 1, 1, 1, 235]), (7, .ireturn, 1, [1])]
def gV_isDays : List (mv_C H2) := [((0, 0), cV_isIn)]
def nV_isDays : List (mv_MD × Bool) := [(mdV_isIn, false)]
def tV_gone : List mv_E := [(0, .aload_n 0, 1, [0]), (1, .getfield 10, 3, [7, 0, 1, 0, 1, 198]), (4, .iload_n 1, 1, [1]), (5, .invokevirtual 131, 3, [0, 0, 2, 0, 2, 202, 2, 203, 1, 2, 2, 205, 2, 204]), (8, .ifCond .eq 10, 3, [18]), (11, .iload_n 2, 1, [2]), (12, .invokestatic 195, 3, [0, 1, 1, 1, 3, 96, 3, 97, 1, 1, 3, 98]), (15, .ifCond .ne 5, 3, [20]), (18, .iconst (-1), 1, [1, 1]), (19, .ireturn, 1, [0]), (20, .iconst 1, 1, [0, 1]), (21, .aload_n 0, 1, [0]), (22, .getfield 29, 3, [7, 4, 1, 0, 1, 202]), (25, .aload_n 0, 1, [0]), (26, .getfield 10, 3, [7, 0, 1, 0, 1, 198]), (29, .iload_n 2, 1, [2]), (30, .invokevirtual 198, 3, [0, 2, 3, 0, 3, 99, 3, 64, 1, 3, 3, 66, 3, 65]), (33, .getfield 137, 3, [2, 5, 1, 0, 1, 56]), (36, .iload_n 1, 1, [1]), (37, .iaload, 1, []), (38, .iadd, 1, []), (39, .ireturn, 1, [0])]
def gV_gone : List (mv_C H2) := [((0, 0), cM_has), ((0, 0), cV_isDays), ((0, 0), cF_behind)]
def nV_gone : List (mv_MD × Bool) := [(mdM_has, true), (mdV_isDays, false), (mdF_behind, true)]
def tV_depth : List mv_E := [(0, .aload_n 0, 1, [0]), (1, .getfield 10, 3, [7, 0, 1, 0, 1, 198]), (4, .iload_n 1, 1, [1]), (5, .invokevirtual 131, 3, [0, 0, 2, 0, 2, 202, 2, 203, 1, 2, 2, 205, 2, 204]), (8, .ifCond .eq 10, 3, [18]), (11, .iload_n 2, 1, [2]), (12, .invokestatic 195, 3, [0, 1, 1, 1, 3, 96, 3, 97, 1, 1, 3, 98]), (15, .ifCond .ne 5, 3, [20]), (18, .iconst (-1), 1, [1, 1]), (19, .ireturn, 1, [0]), (20, .aload_n 0, 1, [0]), (21, .getfield 29, 3, [7, 4, 1, 0, 1, 202]), (24, .aload_n 0, 1, [0]), (25, .getfield 10, 3, [7, 0, 1, 0, 1, 198]), (28, .iload_n 2, 1, [2]), (29, .invokevirtual 198, 3, [0, 2, 3, 0, 3, 99, 3, 64, 1, 3, 3, 66, 3, 65]), (32, .getfield 140, 3, [2, 6, 1, 0, 1, 60]), (35, .iload_n 1, 1, [1]), (36, .iaload, 1, []), (37, .ireturn, 1, [0])]
def gV_depth : List (mv_C H2) := [((0, 0), cM_has), ((0, 0), cV_isDays), ((0, 0), cF_behind)]
def nV_depth : List (mv_MD × Bool) := [(mdM_has, true), (mdV_isDays, false), (mdF_behind, true)]
def tV_comes : List mv_E := [(0, .aload_n 0, 1, [0]), (1, .getfield 10, 3, [7, 0, 1, 0, 1, 198]), (4, .iload_n 1, 1, [1]), (5, .invokevirtual 131, 3, [0, 0, 2, 0, 2, 202, 2, 203, 1, 2, 2, 205, 2, 204]), (8, .ifCond .eq 10, 3, [18]), (11, .iload_n 2, 1, [2]), (12, .invokestatic 159, 3, [0, 1, 1, 1, 2, 231, 2, 232, 1, 1, 2, 233]), (15, .ifCond .ne 5, 3, [20]), (18, .iconst (-1), 1, [1, 1]), (19, .ireturn, 1, [0]), (20, .aload_n 0, 1, [0]), (21, .getfield 29, 3, [7, 4, 1, 0, 1, 202]), (24, .aload_n 0, 1, [0]), (25, .getfield 10, 3, [7, 0, 1, 0, 1, 198]), (28, .iload_n 1, 1, [1]), (29, .iload_n 2, 1, [2]), (30, .invokevirtual 202, 3, [0, 2, 4, 0, 3, 108, 3, 109, 1, 3, 3, 111, 3, 110]), (33, .ireturn, 1, [0])]
def gV_comes : List (mv_C H2) := [((0, 0), cM_has), ((0, 0), cV_isPurpose), ((0, 0), cF_daysUntilAbout)]
def nV_comes : List (mv_MD × Bool) := [(mdM_has, true), (mdV_isPurpose, false), (mdF_daysUntilAbout, true)]
def tV_bare : List mv_E := [(0, .aload_n 0, 1, [0]), (1, .getfield 10, 3, [7, 0, 1, 0, 1, 198]), (4, .iload_n 1, 1, [1]), (5, .invokevirtual 131, 3, [0, 0, 2, 0, 2, 202, 2, 203, 1, 2, 2, 205, 2, 204]), (8, .ifCond .eq 19, 3, [27]), (11, .aload_n 0, 1, [0]), (12, .getfield 29, 3, [7, 4, 1, 0, 1, 202]), (15, .aload_n 0, 1, [0]), (16, .getfield 10, 3, [7, 0, 1, 0, 1, 198]), (19, .iload_n 1, 1, [1]), (20, .iconst (-1), 1, [1, 1]), (21, .invokevirtual 202, 3, [0, 1, 4, 0, 3, 108, 3, 109, 1, 3, 3, 111, 3, 110]), (24, .goto 4, 3, [28]), (27, .iconst (-1), 1, [1, 1]), (28, .ireturn, 1, [0])]
def gV_bare : List (mv_C H2) := [((0, 0), cM_has), ((0, 0), cF_daysUntilAbout)]
def nV_bare : List (mv_MD × Bool) := [(mdM_has, true), (mdF_daysUntilAbout, true)]
def tV_spoilt : List mv_E := [(0, .iload_n 1, 1, [1]), (1, .invokestatic 195, 3, [0, 0, 1, 1, 3, 96, 3, 97, 1, 1, 3, 98]), (4, .ifCond .eq 18, 3, [22]), (7, .aload_n 0, 1, [0]), (8, .getfield 29, 3, [7, 4, 1, 0, 1, 202]), (11, .aload_n 0, 1, [0]), (12, .getfield 10, 3, [7, 0, 1, 0, 1, 198]), (15, .iload_n 1, 1, [1]), (16, .invokevirtual 206, 3, [0, 1, 3, 0, 3, 121, 3, 122, 1, 3, 3, 124, 3, 123]), (19, .goto 4, 3, [23]), (22, .iconst (-1), 1, [1, 1]), (23, .ireturn, 1, [0])]
def gV_spoilt : List (mv_C H2) := [((0, 0), cV_isDays), ((0, 0), cF_spoiltBehind)]
def nV_spoilt : List (mv_MD × Bool) := [(mdV_isDays, false), (mdF_spoiltBehind, true)]
def tV_through : List mv_E := [(0, .aload_n 0, 1, [0]), (1, .getfield 10, 3, [7, 0, 1, 0, 1, 198]), (4, .iload_n 1, 1, [1]), (5, .invokevirtual 131, 3, [0, 0, 2, 0, 2, 202, 2, 203, 1, 2, 2, 205, 2, 204]), (8, .ifCond .eq 10, 3, [18]), (11, .iload_n 2, 1, [2]), (12, .invokestatic 159, 3, [0, 1, 1, 1, 2, 231, 2, 232, 1, 1, 2, 233]), (15, .ifCond .ne 5, 3, [20]), (18, .iconst (-1), 1, [1, 1]), (19, .ireturn, 1, [0]), (20, .aload_n 0, 1, [0]), (21, .getfield 29, 3, [7, 4, 1, 0, 1, 202]), (24, .aload_n 0, 1, [0]), (25, .getfield 10, 3, [7, 0, 1, 0, 1, 198]), (28, .iload_n 1, 1, [1]), (29, .iload_n 2, 1, [2]), (30, .invokevirtual 209, 3, [0, 2, 4, 0, 3, 133, 3, 134, 1, 3, 3, 136, 3, 135]), (33, .ireturn, 1, [0])]
def gV_through : List (mv_C H2) := [((0, 0), cM_has), ((0, 0), cV_isPurpose), ((0, 0), cF_vatsThrough)]
def nV_through : List (mv_MD × Bool) := [(mdM_has, true), (mdV_isPurpose, false), (mdF_vatsThrough, true)]
def tV_vatFor : List mv_E := [(0, .iload_n 1, 1, [1]), (1, .invokestatic 119, 3, [0, 0, 1, 1, 2, 183, 2, 184, 1, 1, 2, 185]), (4, .ifCond .eq 13, 3, [17]), (7, .iload_n 2, 1, [2]), (8, .iconst 1, 1, [0, 1]), (9, .bipush 40, 2, [0, 40]), (11, .invokestatic 67, 3, [0, 1, 3, 1, 1, 233, 1, 234, 1, 1, 1, 235]), (14, .ifCond .ne 5, 3, [19]), (17, .iconst (-1), 1, [1, 1]), (18, .ireturn, 1, [0]), (19, .aload_n 0, 1, [0]), (20, .getfield 29, 3, [7, 4, 1, 0, 1, 202]), (23, .aload_n 0, 1, [0]), (24, .getfield 10, 3, [7, 0, 1, 0, 1, 198]), (27, .iload_n 1, 1, [1]), (28, .iload_n 2, 1, [2]), (29, .invokevirtual 212, 3, [0, 2, 4, 0, 3, 147, 3, 148, 1, 3, 3, 150, 3, 149]), (32, .ireturn, 1, [0])]
def gV_vatFor : List (mv_C H2) := [((0, 0), cV_isRest), ((0, 0), cV_isIn), ((0, 0), cF_deepestVat)]
def nV_vatFor : List (mv_MD × Bool) := [(mdV_isRest, false), (mdV_isIn, false), (mdF_deepestVat, true)]
def tV_kindFor : List mv_E := [(0, .aload_n 0, 1, [0]), (1, .getfield 10, 3, [7, 0, 1, 0, 1, 198]), (4, .iload_n 1, 1, [1]), (5, .invokevirtual 131, 3, [0, 0, 2, 0, 2, 202, 2, 203, 1, 2, 2, 205, 2, 204]), (8, .ifCond .eq 13, 3, [21]), (11, .iload_n 2, 1, [2]), (12, .iconst 1, 1, [0, 1]), (13, .bipush 40, 2, [0, 40]), (15, .invokestatic 67, 3, [0, 1, 3, 1, 1, 233, 1, 234, 1, 1, 1, 235]), (18, .ifCond .ne 5, 3, [23]), (21, .iconst (-1), 1, [1, 1]), (22, .ireturn, 1, [0]), (23, .aload_n 0, 1, [0]), (24, .getfield 29, 3, [7, 4, 1, 0, 1, 202]), (27, .aload_n 0, 1, [0]), (28, .getfield 10, 3, [7, 0, 1, 0, 1, 198]), (31, .iload_n 1, 1, [1]), (32, .iload_n 2, 1, [2]), (33, .invokevirtual 215, 3, [0, 2, 4, 0, 3, 155, 3, 156, 1, 3, 3, 158, 3, 157]), (36, .ireturn, 1, [0])]
def gV_kindFor : List (mv_C H2) := [((0, 0), cM_has), ((0, 0), cV_isIn), ((0, 0), cF_deepestKind)]
def nV_kindFor : List (mv_MD × Bool) := [(mdM_has, true), (mdV_isIn, false), (mdF_deepestKind, true)]
def tV_strengthFor : List mv_E := [(0, .iload_n 1, 1, [1]), (1, .invokestatic 109, 3, [0, 0, 1, 1, 2, 172, 2, 173, 1, 1, 2, 174]), (4, .ifCond .eq 14, 3, [18]), (7, .aload_n 0, 1, [0]), (8, .getfield 10, 3, [7, 0, 1, 0, 1, 198]), (11, .iload_n 2, 1, [2]), (12, .invokevirtual 131, 3, [0, 1, 2, 0, 2, 202, 2, 203, 1, 2, 2, 205, 2, 204]), (15, .ifCond .ne 5, 3, [20]), (18, .iconst (-1), 1, [1, 1]), (19, .ireturn, 1, [0]), (20, .iload_n 3, 1, [3]), (21, .invokestatic 159, 3, [0, 2, 1, 1, 2, 231, 2, 232, 1, 1, 2, 233]), (24, .ifCond .eq 14, 3, [38]), (27, .iload 4, 2, [4]), (29, .iconst 1, 1, [0, 1]), (30, .bipush 40, 2, [0, 40]), (32, .invokestatic 67, 3, [0, 3, 3, 1, 1, 233, 1, 234, 1, 1, 1, 235]), (35, .ifCond .ne 5, 3, [40]), (38, .iconst (-1), 1, [1, 1]), (39, .ireturn, 1, [0]), (40, .aload_n 0, 1, [0]), (41, .getfield 29, 3, [7, 4, 1, 0, 1, 202]), (44, .aload_n 0, 1, [0]), (45, .getfield 10, 3, [7, 0, 1, 0, 1, 198]), (48, .iload_n 1, 1, [1]), (49, .iload_n 2, 1, [2]), (50, .iload_n 3, 1, [3]), (51, .iload 4, 2, [4]), (53, .invokevirtual 218, 3, [0, 4, 6, 0, 3, 163, 3, 164, 1, 3, 3, 166, 3, 165]), (56, .ireturn, 1, [0])]
def gV_strengthFor : List (mv_C H2) := [((0, 0), cV_isVat), ((0, 0), cM_has), ((0, 0), cV_isPurpose), ((0, 0), cV_isIn), ((0, 0), cF_leastStrength)]
def nV_strengthFor : List (mv_MD × Bool) := [(mdV_isVat, false), (mdM_has, true), (mdV_isPurpose, false), (mdV_isIn, false), (mdF_leastStrength, true)]
def tV_hangFor : List mv_E := [(0, .iload_n 1, 1, [1]), (1, .iconst 1, 1, [0, 1]), (2, .bipush 30, 2, [0, 30]), (4, .invokestatic 67, 3, [0, 0, 3, 1, 1, 233, 1, 234, 1, 1, 1, 235]), (7, .ifCond .eq 13, 3, [20]), (10, .iload_n 2, 1, [2]), (11, .iconst 0, 1, [0, 0]), (12, .bipush 8, 2, [0, 8]), (14, .invokestatic 67, 3, [0, 0, 3, 1, 1, 233, 1, 234, 1, 1, 1, 235]), (17, .ifCond .ne 5, 3, [22]), (20, .iconst (-1), 1, [1, 1]), (21, .ireturn, 1, [0]), (22, .aload_n 0, 1, [0]), (23, .getfield 29, 3, [7, 4, 1, 0, 1, 202]), (26, .aload_n 0, 1, [0]), (27, .getfield 10, 3, [7, 0, 1, 0, 1, 198]), (30, .iload_n 1, 1, [1]), (31, .iload_n 2, 1, [2]), (32, .invokevirtual 222, 3, [0, 1, 4, 0, 3, 171, 3, 172, 1, 3, 3, 174, 3, 173]), (35, .ireturn, 1, [0])]
def gV_hangFor : List (mv_C H2) := [((0, 0), cV_isIn), ((0, 0), cF_fewestHung)]
def nV_hangFor : List (mv_MD × Bool) := [(mdV_isIn, false), (mdF_fewestHung, true)]
def tV_isSheet : List mv_E := [(0, .iload_n 0, 1, [0]), (1, .iconst 0, 1, [0, 0]), (2, .iconst 3, 1, [0, 3]), (3, .invokestatic 67, 3, [0, 0, 3, 1, 1, 233, 1, 234, 1, 1, 1, 235]), (6, .ireturn, 1, [1])]
def gV_isSheet : List (mv_C H2) := [((0, 0), cV_isIn)]
def nV_isSheet : List (mv_MD × Bool) := [(mdV_isIn, false)]
def tV_fits : List mv_E := [(0, .iload_n 1, 1, [1]), (1, .invokestatic 225, 3, [0, 0, 1, 1, 3, 189, 3, 190, 1, 1, 3, 191]), (4, .ifCond .eq 23, 3, [27]), (7, .aload_n 0, 1, [0]), (8, .getfield 10, 3, [7, 0, 1, 0, 1, 198]), (11, .iload_n 2, 1, [2]), (12, .invokevirtual 131, 3, [0, 1, 2, 0, 2, 202, 2, 203, 1, 2, 2, 205, 2, 204]), (15, .ifCond .eq 12, 3, [27]), (18, .iload_n 3, 1, [3]), (19, .iconst 0, 1, [0, 0]), (20, .iconst 1, 1, [0, 1]), (21, .invokestatic 67, 3, [0, 2, 3, 1, 1, 233, 1, 234, 1, 1, 1, 235]), (24, .ifCond .ne 5, 3, [29]), (27, .iconst (-1), 1, [1, 1]), (28, .ireturn, 1, [0]), (29, .aload_n 0, 1, [0]), (30, .getfield 49, 3, [7, 7, 1, 0, 1, 205]), (33, .iload_n 1, 1, [1]), (34, .aaload, 1, []), (35, .astore 4, 2, [4]), (37, .aload 4, 2, [4]), (39, .ifnonnull 6, 3, [45]), (42, .bipush (-11), 2, [1, 11]), (44, .ireturn, 1, [0]), (45, .iload_n 3, 1, [3]), (46, .ifCond .ne 18, 3, [64]), (49, .aload_n 0, 1, [0]), (50, .getfield 29, 3, [7, 4, 1, 0, 1, 202]), (53, .aload_n 0, 1, [0]), (54, .getfield 10, 3, [7, 0, 1, 0, 1, 198]), (57, .iload_n 2, 1, [2]), (58, .aload 4, 2, [4]), (60, .invokevirtual 228, 3, [0, 3, 4, 0, 3, 192, 3, 193, 1, 3, 3, 195, 3, 194]), (63, .ireturn, 1, [0]), (64, .aload_n 0, 1, [0]), (65, .getfield 29, 3, [7, 4, 1, 0, 1, 202]), (68, .aload_n 0, 1, [0]), (69, .getfield 10, 3, [7, 0, 1, 0, 1, 198]), (72, .iload_n 2, 1, [2]), (73, .aload 4, 2, [4]), (75, .invokevirtual 232, 3, [0, 4, 4, 0, 3, 208, 3, 209, 1, 3, 3, 211, 3, 210]), (78, .ireturn, 1, [0])]
def gV_fits : List (mv_C H2) := [((0, 0), cV_isSheet), ((0, 0), cM_has), ((0, 0), cV_isIn), ((0, 0), cF_manyFitting), ((0, 0), cF_leastFitting)]
def nV_fits : List (mv_MD × Bool) := [(mdV_isSheet, false), (mdM_has, true), (mdV_isIn, false), (mdF_manyFitting, true), (mdF_leastFitting, true)]
def tV_odds : List mv_E := [(0, .iload_n 1, 1, [1]), (1, .iconst 0, 1, [0, 0]), (2, .bipush 8, 2, [0, 8]), (4, .invokestatic 67, 3, [0, 0, 3, 1, 1, 233, 1, 234, 1, 1, 1, 235]), (7, .ifCond .eq 21, 3, [28]), (10, .iload_n 2, 1, [2]), (11, .iconst 0, 1, [0, 0]), (12, .iload_n 1, 1, [1]), (13, .invokestatic 67, 3, [0, 0, 3, 1, 1, 233, 1, 234, 1, 1, 1, 235]), (16, .ifCond .eq 12, 3, [28]), (19, .iload_n 3, 1, [3]), (20, .iconst 0, 1, [0, 0]), (21, .iconst 1, 1, [0, 1]), (22, .invokestatic 67, 3, [0, 0, 3, 1, 1, 233, 1, 234, 1, 1, 1, 235]), (25, .ifCond .ne 7, 3, [32]), (28, .ldc2_w 235, 3, [1, 1, 3, 216]), (31, .lreturn, 1, []), (32, .iload_n 1, 1, [1]), (33, .iload_n 2, 1, [2]), (34, .aload_n 0, 1, [0]), (35, .getfield 10, 3, [7, 0, 1, 0, 1, 198]), (38, .getfield 105, 3, [2, 0, 1, 0, 1, 37]), (41, .iconst 3, 1, [0, 3]), (42, .iaload, 1, []), (43, .iload_n 3, 1, [3]), (44, .invokestatic 237, 3, [0, 1, 4, 1, 3, 217, 3, 218, 1, 16, 3, 219]), (47, .lreturn, 1, [])]
def gV_odds : List (mv_C H2) := [((0, 0), cV_isIn), ((0, 0), cC_justSlip)]
def nV_odds : List (mv_MD × Bool) := [(mdV_isIn, false), (mdC_justSlip, false)]
def tV_hope : List mv_E := [(0, .iload_n 1, 1, [1]), (1, .iconst 0, 1, [0, 0]), (2, .bipush 99, 2, [0, 99]), (4, .invokestatic 67, 3, [0, 0, 3, 1, 1, 233, 1, 234, 1, 1, 1, 235]), (7, .ifCond .eq 12, 3, [19]), (10, .iload_n 2, 1, [2]), (11, .iconst 0, 1, [0, 0]), (12, .iconst 1, 1, [0, 1]), (13, .invokestatic 67, 3, [0, 0, 3, 1, 1, 233, 1, 234, 1, 1, 1, 235]), (16, .ifCond .ne 7, 3, [23]), (19, .ldc2_w 235, 3, [1, 1, 3, 216]), (22, .lreturn, 1, []), (23, .iload_n 1, 1, [1]), (24, .i2l, 1, []), (25, .aload_n 0, 1, [0]), (26, .getfield 10, 3, [7, 0, 1, 0, 1, 198]), (29, .getfield 105, 3, [2, 0, 1, 0, 1, 37]), (32, .iconst 3, 1, [0, 3]), (33, .iaload, 1, []), (34, .i2l, 1, []), (35, .lmul, 1, []), (36, .ldc2_w 243, 3, [0, 100, 3, 234]), (39, .iload_n 2, 1, [2]), (40, .invokestatic 245, 3, [0, 1, 3, 1, 3, 235, 3, 225, 1, 16, 3, 226]), (43, .lreturn, 1, [])]
def gV_hope : List (mv_C H2) := [((0, 0), cV_isIn), ((0, 0), cC_partOf)]
def nV_hope : List (mv_MD × Bool) := [(mdV_isIn, false), (mdC_partOf, false)]
def tV_prove : List mv_E := [(0, .aload_n 0, 1, [0]), (1, .getfield 10, 3, [7, 0, 1, 0, 1, 198]), (4, .iload_n 1, 1, [1]), (5, .invokevirtual 131, 3, [0, 0, 2, 0, 2, 202, 2, 203, 1, 2, 2, 205, 2, 204]), (8, .ifCond .eq 13, 3, [21]), (11, .iload_n 2, 1, [2]), (12, .iconst 1, 1, [0, 1]), (13, .bipush 10, 2, [0, 10]), (15, .invokestatic 67, 3, [0, 1, 3, 1, 1, 233, 1, 234, 1, 1, 1, 235]), (18, .ifCond .ne 5, 3, [23]), (21, .iconst (-1), 1, [1, 1]), (22, .ireturn, 1, [0]), (23, .aload_n 0, 1, [0]), (24, .getfield 29, 3, [7, 4, 1, 0, 1, 202]), (27, .aload_n 0, 1, [0]), (28, .getfield 10, 3, [7, 0, 1, 0, 1, 198]), (31, .iload_n 1, 1, [1]), (32, .iload_n 2, 1, [2]), (33, .aload_n 0, 1, [0]), (34, .getfield 43, 3, [7, 6, 1, 0, 1, 204]), (37, .invokevirtual 249, 3, [0, 2, 5, 0, 4, 0, 4, 1, 1, 3, 4, 3, 4, 2]), (40, .iload_n 2, 1, [2]), (41, .ireturn, 1, [0])]
def gV_prove : List (mv_C H2) := [((0, 0), cM_has), ((0, 0), cV_isIn), ((0, 0), cF_writeRows)]
def nV_prove : List (mv_MD × Bool) := [(mdM_has, true), (mdV_isIn, false), (mdF_writeRows, true)]
def tV_row : List mv_E := [(0, .aload_n 0, 1, [0]), (1, .getfield 43, 3, [7, 6, 1, 0, 1, 204]), (4, .iload_n 1, 1, [1]), (5, .iload_n 2, 1, [2]), (6, .invokevirtual 253, 3, [0, 0, 3, 0, 4, 16, 4, 17, 1, 5, 4, 19, 4, 18]), (9, .ifCond .eq 15, 3, [24]), (12, .aload_n 0, 1, [0]), (13, .getfield 43, 3, [7, 6, 1, 0, 1, 204]), (16, .iload_n 1, 1, [1]), (17, .iload_n 2, 1, [2]), (18, .invokevirtual 256, 3, [0, 1, 3, 0, 4, 21, 4, 22, 1, 5, 4, 24, 4, 23]), (21, .goto 5, 3, [26]), (24, .bipush (-9), 2, [1, 9]), (26, .ireturn, 1, [0])]
def gV_row : List (mv_C H2) := [((0, 0), cR_has), ((0, 0), cR_read)]
def nV_row : List (mv_MD × Bool) := [(mdR_has, true), (mdR_read, true)]
def tV_alterRow : List mv_E := [(0, .aload_n 0, 1, [0]), (1, .getfield 43, 3, [7, 6, 1, 0, 1, 204]), (4, .iload_n 1, 1, [1]), (5, .iload_n 2, 1, [2]), (6, .invokevirtual 253, 3, [0, 0, 3, 0, 4, 16, 4, 17, 1, 5, 4, 19, 4, 18]), (9, .ifCond .ne 6, 3, [15]), (12, .bipush (-9), 2, [1, 9]), (14, .ireturn, 1, [0]), (15, .aload_n 0, 1, [0]), (16, .getfield 43, 3, [7, 6, 1, 0, 1, 204]), (19, .iload_n 1, 1, [1]), (20, .iload_n 2, 1, [2]), (21, .invokevirtual 256, 3, [0, 1, 3, 0, 4, 21, 4, 22, 1, 5, 4, 24, 4, 23]), (24, .istore 4, 2, [4]), (26, .aload_n 0, 1, [0]), (27, .getfield 43, 3, [7, 6, 1, 0, 1, 204]), (30, .iload_n 1, 1, [1]), (31, .iload_n 2, 1, [2]), (32, .iload_n 3, 1, [3]), (33, .invokevirtual 259, 3, [0, 2, 4, 0, 4, 29, 4, 9, 1, 5, 4, 11, 4, 10]), (36, .iload 4, 2, [4]), (38, .ireturn, 1, [0])]
def gV_alterRow : List (mv_C H2) := [((0, 0), cR_has), ((0, 0), cR_read), ((0, 0), cR_write)]
def nV_alterRow : List (mv_MD × Bool) := [(mdR_has, true), (mdR_read, true), (mdR_write, true)]
def tV_judge : List mv_E := [(0, .aload_n 0, 1, [0]), (1, .getfield 10, 3, [7, 0, 1, 0, 1, 198]), (4, .iload_n 1, 1, [1]), (5, .invokevirtual 131, 3, [0, 0, 2, 0, 2, 202, 2, 203, 1, 2, 2, 205, 2, 204]), (8, .ifCond .eq 22, 3, [30]), (11, .aload_n 0, 1, [0]), (12, .getfield 29, 3, [7, 4, 1, 0, 1, 202]), (15, .aload_n 0, 1, [0]), (16, .getfield 10, 3, [7, 0, 1, 0, 1, 198]), (19, .iload_n 1, 1, [1]), (20, .aload_n 0, 1, [0]), (21, .getfield 43, 3, [7, 6, 1, 0, 1, 204]), (24, .invokevirtual 263, 3, [0, 1, 4, 0, 4, 34, 4, 35, 1, 3, 4, 37, 4, 36]), (27, .goto 4, 3, [31]), (30, .iconst (-1), 1, [1, 1]), (31, .ireturn, 1, [0])]
def gV_judge : List (mv_C H2) := [((0, 0), cM_has), ((0, 0), cF_firstWrongRow)]
def nV_judge : List (mv_MD × Bool) := [(mdM_has, true), (mdF_firstWrongRow, true)]
def tV_minds : List mv_E := [(0, .iload_n 1, 1, [1]), (1, .invokestatic 225, 3, [0, 0, 1, 1, 3, 189, 3, 190, 1, 1, 3, 191]), (4, .ifCond .eq 14, 3, [18]), (7, .aload_n 0, 1, [0]), (8, .getfield 10, 3, [7, 0, 1, 0, 1, 198]), (11, .iload_n 3, 1, [3]), (12, .invokevirtual 131, 3, [0, 1, 2, 0, 2, 202, 2, 203, 1, 2, 2, 205, 2, 204]), (15, .ifCond .ne 5, 3, [20]), (18, .iconst (-1), 1, [1, 1]), (19, .ireturn, 1, [0]), (20, .iload 4, 2, [4]), (22, .iconst 0, 1, [0, 0]), (23, .bipush 8, 2, [0, 8]), (25, .invokestatic 67, 3, [0, 2, 3, 1, 1, 233, 1, 234, 1, 1, 1, 235]), (28, .ifCond .eq 17, 3, [45]), (31, .iload 4, 2, [4]), (33, .aload_n 0, 1, [0]), (34, .getfield 10, 3, [7, 0, 1, 0, 1, 198]), (37, .getfield 100, 3, [2, 9, 0, 0, 1, 68]), (40, .iload_n 3, 1, [3]), (41, .isub, 1, []), (42, .if_icmp .le 5, 3, [47]), (45, .iconst (-1), 1, [1, 1]), (46, .ireturn, 1, [0]), (47, .aload_n 0, 1, [0]), (48, .getfield 49, 3, [7, 7, 1, 0, 1, 205]), (51, .iload_n 1, 1, [1]), (52, .aaload, 1, []), (53, .astore 5, 2, [5]), (55, .aload 5, 2, [5]), (57, .ifnonnull 6, 3, [63]), (60, .bipush (-11), 2, [1, 11]), (62, .ireturn, 1, [0]), (63, .aload 5, 2, [5]), (65, .getfield 267, 3, [4, 0, 0, 0, 4, 56]), (68, .ifCond .eq 6, 3, [74]), (71, .bipush (-13), 2, [1, 13]), (73, .ireturn, 1, [0]), (74, .iload_n 2, 1, [2]), (75, .iconst 0, 1, [0, 0]), (76, .aload 5, 2, [5]), (78, .invokevirtual 270, 3, [0, 3, 1, 0, 4, 43, 3, 201, 1, 17, 3, 203, 3, 202]), (81, .invokestatic 67, 3, [0, 2, 3, 1, 1, 233, 1, 234, 1, 1, 1, 235]), (84, .ifCond .eq 15, 3, [99]), (87, .iload 4, 2, [4]), (89, .aload 5, 2, [5]), (91, .invokevirtual 270, 3, [0, 3, 1, 0, 4, 43, 3, 201, 1, 17, 3, 203, 3, 202]), (94, .iload_n 2, 1, [2]), (95, .isub, 1, []), (96, .if_icmp .le 6, 3, [102]), (99, .bipush (-12), 2, [1, 12]), (101, .ireturn, 1, [0]), (102, .iconst 0, 1, [0, 0]), (103, .istore 6, 2, [6]), (105, .iload 6, 2, [6]), (107, .iload 4, 2, [4]), (109, .if_icmp .ge 29, 3, [138]), (112, .aload_n 0, 1, [0]), (113, .getfield 10, 3, [7, 0, 1, 0, 1, 198]), (116, .iload_n 3, 1, [3]), (117, .iload 6, 2, [6]), (119, .iadd, 1, []), (120, .aload 5, 2, [5]), (122, .iload_n 2, 1, [2]), (123, .iload 6, 2, [6]), (125, .iadd, 1, []), (126, .invokevirtual 273, 3, [0, 4, 2, 0, 4, 44, 3, 205, 1, 17, 3, 207, 3, 206]), (129, .invokevirtual 275, 3, [0, 5, 3, 0, 4, 45, 3, 31, 1, 2, 3, 33, 3, 32]), (132, .iinc 6 1, 3, [6, 0, 1]), (135, .goto (-30), 3, [105]), (138, .iload 4, 2, [4]), (140, .ireturn, 1, [0])]
def gV_minds : List (mv_C H2) := [((0, 0), cV_isSheet), ((0, 0), cM_has), ((0, 0), cV_isIn), ((0, 0), cS_size), ((0, 0), cS_read), ((0, 0), cM_deepen)]
def nV_minds : List (mv_MD × Bool) := [(mdV_isSheet, false), (mdM_has, true), (mdV_isIn, false), (mdS_size, true), (mdS_read, true), (mdM_deepen, true)]
def tV_sheet : List mv_E := [(0, .iload_n 1, 1, [1]), (1, .invokestatic 225, 3, [0, 0, 1, 1, 3, 189, 3, 190, 1, 1, 3, 191]), (4, .ifCond .eq 12, 3, [16]), (7, .iload_n 2, 1, [2]), (8, .iconst (-1), 1, [1, 1]), (9, .iconst 3, 1, [0, 3]), (10, .invokestatic 67, 3, [0, 1, 3, 1, 1, 233, 1, 234, 1, 1, 1, 235]), (13, .ifCond .ne 5, 3, [18]), (16, .iconst (-1), 1, [1, 1]), (17, .ireturn, 1, [0]), (18, .iload_n 2, 1, [2]), (19, .iconst (-1), 1, [1, 1]), (20, .if_icmp .ne 12, 3, [32]), (23, .aload_n 0, 1, [0]), (24, .getfield 49, 3, [7, 7, 1, 0, 1, 205]), (27, .iload_n 1, 1, [1]), (28, .aconst_null, 1, []), (29, .aastore, 1, []), (30, .iconst 1, 1, [0, 1]), (31, .ireturn, 1, [0]), (32, .iload_n 3, 1, [3]), (33, .bipush 40, 2, [0, 40]), (35, .if_icmp .le 5, 3, [40]), (38, .iconst (-1), 1, [1, 1]), (39, .ireturn, 1, [0]), (40, .iload_n 3, 1, [3]), (41, .ifCond .ge 6, 3, [47]), (44, .bipush (-14), 2, [1, 14]), (46, .ireturn, 1, [0]), (47, .aload_n 0, 1, [0]), (48, .getfield 49, 3, [7, 7, 1, 0, 1, 205]), (51, .iload_n 1, 1, [1]), (52, .new 47, 3, [4, 2, 1, 155, 4, 50, 1, 17]), (55, .dup, 1, []), (56, .iload_n 2, 1, [2]), (57, .iload_n 3, 1, [3]), (58, .invokespecial 278, 3, [0, 2, 3, 2, 4, 51, 4, 52, 1, 17, 4, 53]), (61, .aastore, 1, []), (62, .iconst 1, 1, [0, 1]), (63, .ireturn, 1, [0])]
def gV_sheet : List (mv_C H2) := [((0, 0), cV_isSheet), ((0, 0), cV_isIn), ((1, 40), cS_init)]
def nV_sheet : List (mv_MD × Bool) := [(mdV_isSheet, false), (mdV_isIn, false), (mdS_init, true)]
def tV_put : List mv_E := [(0, .iload_n 1, 1, [1]), (1, .invokestatic 225, 3, [0, 0, 1, 1, 3, 189, 3, 190, 1, 1, 3, 191]), (4, .ifCond .ne 5, 3, [9]), (7, .iconst (-1), 1, [1, 1]), (8, .ireturn, 1, [0]), (9, .aload_n 0, 1, [0]), (10, .getfield 49, 3, [7, 7, 1, 0, 1, 205]), (13, .iload_n 1, 1, [1]), (14, .aaload, 1, []), (15, .astore 4, 2, [4]), (17, .aload 4, 2, [4]), (19, .ifnonnull 6, 3, [25]), (22, .bipush (-11), 2, [1, 11]), (24, .ireturn, 1, [0]), (25, .aload 4, 2, [4]), (27, .iload_n 2, 1, [2]), (28, .invokevirtual 280, 3, [0, 1, 2, 0, 4, 67, 4, 68, 1, 17, 4, 70, 4, 69]), (31, .ifCond .ne 6, 3, [37]), (34, .bipush (-12), 2, [1, 12]), (36, .ireturn, 1, [0]), (37, .aload 4, 2, [4]), (39, .iload_n 2, 1, [2]), (40, .iload_n 3, 1, [3]), (41, .invokevirtual 281, 3, [0, 2, 3, 0, 4, 72, 4, 73, 1, 17, 4, 75, 4, 74]), (44, .iconst 1, 1, [0, 1]), (45, .ireturn, 1, [0])]
def gV_put : List (mv_C H2) := [((0, 0), cV_isSheet), ((0, 0), cS_has), ((0, 0), cS_write)]
def nV_put : List (mv_MD × Bool) := [(mdV_isSheet, false), (mdS_has, true), (mdS_write, true)]
def tV_item : List mv_E := [(0, .iload_n 1, 1, [1]), (1, .invokestatic 225, 3, [0, 0, 1, 1, 3, 189, 3, 190, 1, 1, 3, 191]), (4, .ifCond .eq 12, 3, [16]), (7, .iload_n 2, 1, [2]), (8, .iconst 0, 1, [0, 0]), (9, .iconst 3, 1, [0, 3]), (10, .invokestatic 67, 3, [0, 1, 3, 1, 1, 233, 1, 234, 1, 1, 1, 235]), (13, .ifCond .ne 5, 3, [18]), (16, .iconst (-1), 1, [1, 1]), (17, .ireturn, 1, [0]), (18, .aload_n 0, 1, [0]), (19, .getfield 49, 3, [7, 7, 1, 0, 1, 205]), (22, .iload_n 1, 1, [1]), (23, .aaload, 1, []), (24, .astore 4, 2, [4]), (26, .aload 4, 2, [4]), (28, .ifnonnull 6, 3, [34]), (31, .bipush (-11), 2, [1, 11]), (33, .ireturn, 1, [0]), (34, .aload 4, 2, [4]), (36, .getfield 267, 3, [4, 0, 0, 0, 4, 56]), (39, .iload_n 2, 1, [2]), (40, .if_icmp .eq 6, 3, [46]), (43, .bipush (-13), 2, [1, 13]), (45, .ireturn, 1, [0]), (46, .aload 4, 2, [4]), (48, .iload_n 3, 1, [3]), (49, .invokevirtual 280, 3, [0, 2, 2, 0, 4, 67, 4, 68, 1, 17, 4, 70, 4, 69]), (52, .ifCond .eq 12, 3, [64]), (55, .aload 4, 2, [4]), (57, .iload_n 3, 1, [3]), (58, .invokevirtual 273, 3, [0, 3, 2, 0, 4, 44, 3, 205, 1, 17, 3, 207, 3, 206]), (61, .goto 5, 3, [66]), (64, .bipush (-12), 2, [1, 12]), (66, .ireturn, 1, [0])]
def gV_item : List (mv_C H2) := [((0, 0), cV_isSheet), ((0, 0), cV_isIn), ((0, 0), cS_has), ((0, 0), cS_read)]
def nV_item : List (mv_MD × Bool) := [(mdV_isSheet, false), (mdV_isIn, false), (mdS_has, true), (mdS_read, true)]
def tV_isShelf : List mv_E := [(0, .iload_n 0, 1, [0]), (1, .iconst 0, 1, [0, 0]), (2, .iconst 3, 1, [0, 3]), (3, .invokestatic 67, 3, [0, 0, 3, 1, 1, 233, 1, 234, 1, 1, 1, 235]), (6, .ireturn, 1, [1])]
def gV_isShelf : List (mv_C H2) := [((0, 0), cV_isIn)]
def nV_isShelf : List (mv_MD × Bool) := [(mdV_isIn, false)]
def tV_shelf : List mv_E := [(0, .iload_n 1, 1, [1]), (1, .invokestatic 283, 3, [0, 0, 1, 1, 4, 84, 4, 85, 1, 1, 4, 86]), (4, .ifCond .ne 5, 3, [9]), (7, .iconst (-1), 1, [1, 1]), (8, .ireturn, 1, [0]), (9, .iload_n 2, 1, [2]), (10, .tableswitch 86 0 2 #[26, 50, 75], 26, [0, 96, 36, 60, 85]), (36, .aload_n 0, 1, [0]), (37, .getfield 10, 3, [7, 0, 1, 0, 1, 198]), (40, .iload_n 3, 1, [3]), (41, .invokevirtual 131, 3, [0, 1, 2, 0, 2, 202, 2, 203, 1, 2, 2, 205, 2, 204]), (44, .ifCond .ne 5, 3, [49]), (47, .iconst (-1), 1, [1, 1]), (48, .ireturn, 1, [0]), (49, .aload_n 0, 1, [0]), (50, .getfield 56, 3, [7, 8, 1, 0, 1, 206]), (53, .iload_n 1, 1, [1]), (54, .iload_n 3, 1, [3]), (55, .invokevirtual 286, 3, [0, 2, 3, 0, 4, 87, 4, 88, 1, 6, 4, 90, 4, 89]), (58, .iconst 1, 1, [0, 1]), (59, .ireturn, 1, [0]), (60, .iload_n 3, 1, [3]), (61, .invokestatic 225, 3, [0, 3, 1, 1, 3, 189, 3, 190, 1, 1, 3, 191]), (64, .ifCond .ne 5, 3, [69]), (67, .iconst (-1), 1, [1, 1]), (68, .ireturn, 1, [0]), (69, .aload_n 0, 1, [0]), (70, .getfield 56, 3, [7, 8, 1, 0, 1, 206]), (73, .iload_n 1, 1, [1]), (74, .aload_n 0, 1, [0]), (75, .getfield 49, 3, [7, 7, 1, 0, 1, 205]), (78, .iload_n 3, 1, [3]), (79, .aaload, 1, []), (80, .invokevirtual 289, 3, [0, 4, 3, 0, 4, 91, 4, 92, 1, 6, 4, 94, 4, 93]), (83, .iconst 1, 1, [0, 1]), (84, .ireturn, 1, [0]), (85, .aload_n 0, 1, [0]), (86, .getfield 56, 3, [7, 8, 1, 0, 1, 206]), (89, .iload_n 1, 1, [1]), (90, .aconst_null, 1, []), (91, .invokevirtual 289, 3, [0, 4, 3, 0, 4, 91, 4, 92, 1, 6, 4, 94, 4, 93]), (94, .iconst 1, 1, [0, 1]), (95, .ireturn, 1, [0]), (96, .iconst (-1), 1, [1, 1]), (97, .ireturn, 1, [0])]
def gV_shelf : List (mv_C H2) := [((0, 0), cV_isShelf), ((0, 0), cM_has), ((0, 0), cH_holdCloth), ((0, 0), cV_isSheet), ((0, 0), cH_holdRow)]
def nV_shelf : List (mv_MD × Bool) := [(mdV_isShelf, false), (mdM_has, true), (mdH_holdCloth, true), (mdV_isSheet, false), (mdH_holdRow, true)]
def tV_parentKind : List mv_E := [(0, .iload_n 0, 1, [0]), (1, .tableswitch 41 1 5 #[35, 35, 37, 39, 35], 35, [1, 42, 36, 36, 38, 40, 36]), (36, .iconst 0, 1, [0, 0]), (37, .ireturn, 1, [0]), (38, .iconst 1, 1, [0, 1]), (39, .ireturn, 1, [0]), (40, .iconst 2, 1, [0, 2]), (41, .ireturn, 1, [0]), (42, .iconst (-1), 1, [1, 1]), (43, .ireturn, 1, [0])]
def gV_parentKind : List (mv_C H2) := []
def nV_parentKind : List (mv_MD × Bool) := []
def tV_isUnder : List mv_E := [(0, .iload_n 0, 1, [0]), (1, .istore_n 2, 1, [2]), (2, .iconst 0, 1, [0, 0]), (3, .istore_n 3, 1, [3]), (4, .iload_n 3, 1, [3]), (5, .bipush 6, 2, [0, 6]), (7, .if_icmp .ge 26, 3, [33]), (10, .iload_n 2, 1, [2]), (11, .iconst (-1), 1, [1, 1]), (12, .if_icmp .eq 21, 3, [33]), (15, .iload_n 2, 1, [2]), (16, .iload_n 1, 1, [1]), (17, .if_icmp .ne 5, 3, [22]), (20, .iconst 1, 1, [0, 1]), (21, .ireturn, 1, [1]), (22, .iload_n 2, 1, [2]), (23, .invokestatic 326, 3, [0, 0, 1, 1, 4, 110, 4, 111, 1, 1, 4, 112]), (26, .istore_n 2, 1, [2]), (27, .iinc 3 1, 3, [3, 0, 1]), (30, .goto (-26), 3, [4]), (33, .iconst 0, 1, [0, 0]), (34, .ireturn, 1, [1])]
def gV_isUnder : List (mv_C H2) := [((0, 0), cV_parentKind)]
def nV_isUnder : List (mv_MD × Bool) := [(mdV_parentKind, false)]
def tV_taken : List mv_E := [(0, .iload_n 1, 1, [1]), (1, .invokestatic 283, 3, [0, 0, 1, 1, 4, 84, 4, 85, 1, 1, 4, 86]), (4, .ifCond .ne 5, 3, [9]), (7, .iconst (-1), 1, [1, 1]), (8, .ireturn, 1, [0]), (9, .iload_n 2, 1, [2]), (10, .invokestatic 125, 3, [0, 1, 1, 1, 2, 194, 2, 195, 1, 1, 2, 196]), (13, .ifCond .ne 16, 3, [29]), (16, .iload_n 2, 1, [2]), (17, .bipush 10, 2, [0, 10]), (19, .bipush 13, 2, [0, 13]), (21, .invokestatic 67, 3, [0, 2, 3, 1, 1, 233, 1, 234, 1, 1, 1, 235]), (24, .ifCond .ne 5, 3, [29]), (27, .iconst (-1), 1, [1, 1]), (28, .ireturn, 1, [0]), (29, .aload_n 0, 1, [0]), (30, .getfield 56, 3, [7, 8, 1, 0, 1, 206]), (33, .iload_n 1, 1, [1]), (34, .invokevirtual 293, 3, [0, 3, 2, 0, 4, 99, 4, 100, 1, 6, 4, 102, 4, 101]), (37, .astore_n 3, 1, [3]), (38, .aload_n 3, 1, [3]), (39, .ifnull 24, 3, [63]), (42, .aload_n 3, 1, [3]), (43, .getfield 267, 3, [4, 0, 0, 0, 4, 56]), (46, .iload_n 2, 1, [2]), (47, .bipush 10, 2, [0, 10]), (49, .isub, 1, []), (50, .if_icmp .ne 10, 3, [60]), (53, .aload_n 3, 1, [3]), (54, .invokevirtual 270, 3, [0, 4, 1, 0, 4, 43, 3, 201, 1, 17, 3, 203, 3, 202]), (57, .goto 5, 3, [62]), (60, .bipush (-13), 2, [1, 13]), (62, .ireturn, 1, [0]), (63, .aload_n 0, 1, [0]), (64, .getfield 56, 3, [7, 8, 1, 0, 1, 206]), (67, .iload_n 1, 1, [1]), (68, .invokevirtual 297, 3, [0, 5, 2, 0, 4, 103, 4, 104, 1, 6, 4, 106, 4, 105]), (71, .istore 4, 2, [4]), (73, .aload_n 0, 1, [0]), (74, .getfield 10, 3, [7, 0, 1, 0, 1, 198]), (77, .iload 4, 2, [4]), (79, .invokevirtual 131, 3, [0, 6, 2, 0, 2, 202, 2, 203, 1, 2, 2, 205, 2, 204]), (82, .ifCond .ne 6, 3, [88]), (85, .bipush (-11), 2, [1, 11]), (87, .ireturn, 1, [0]), (88, .aload_n 0, 1, [0]), (89, .getfield 10, 3, [7, 0, 1, 0, 1, 198]), (92, .getfield 134, 3, [2, 4, 1, 0, 1, 52]), (95, .iload 4, 2, [4]), (97, .iaload, 1, []), (98, .iload_n 2, 1, [2]), (99, .invokestatic 300, 3, [0, 7, 2, 1, 4, 107, 4, 108, 1, 1, 4, 109]), (102, .ifCond .eq 8, 3, [110]), (105, .iload 4, 2, [4]), (107, .goto 5, 3, [112]), (110, .bipush (-13), 2, [1, 13]), (112, .ireturn, 1, [0])]
def gV_taken : List (mv_C H2) := [((0, 0), cV_isShelf), ((0, 0), cV_isKind), ((0, 0), cV_isIn), ((0, 0), cH_rowOn), ((0, 0), cS_size), ((0, 0), cH_clothOn), ((0, 0), cM_has), ((0, 0), cV_isUnder)]
def nV_taken : List (mv_MD × Bool) := [(mdV_isShelf, false), (mdV_isKind, false), (mdV_isIn, false), (mdH_rowOn, true), (mdS_size, true), (mdH_clothOn, true), (mdM_has, true), (mdV_isUnder, false)]
def tV_act : List mv_E := [(0, .aload_n 0, 1, [0]), (1, .getfield 63, 3, [7, 9, 1, 0, 1, 207]), (4, .invokevirtual 303, 3, [0, 0, 1, 0, 4, 117, 4, 118, 1, 7, 4, 120, 4, 119]), (7, .iload_n 1, 1, [1]), (8, .invokestatic 283, 3, [0, 1, 1, 1, 4, 84, 4, 85, 1, 1, 4, 86]), (11, .ifCond .eq 12, 3, [23]), (14, .iload_n 2, 1, [2]), (15, .iconst 0, 1, [0, 0]), (16, .iconst 3, 1, [0, 3]), (17, .invokestatic 67, 3, [0, 2, 3, 1, 1, 233, 1, 234, 1, 1, 1, 235]), (20, .ifCond .ne 5, 3, [25]), (23, .iconst 0, 1, [0, 0]), (24, .ireturn, 1, [0]), (25, .aload_n 0, 1, [0]), (26, .getfield 56, 3, [7, 8, 1, 0, 1, 206]), (29, .iload_n 1, 1, [1]), (30, .invokevirtual 297, 3, [0, 3, 2, 0, 4, 103, 4, 104, 1, 6, 4, 106, 4, 105]), (33, .istore 4, 2, [4]), (35, .aload_n 0, 1, [0]), (36, .getfield 10, 3, [7, 0, 1, 0, 1, 198]), (39, .iload 4, 2, [4]), (41, .invokevirtual 131, 3, [0, 4, 2, 0, 2, 202, 2, 203, 1, 2, 2, 205, 2, 204]), (44, .ifCond .ne 5, 3, [49]), (47, .iconst 0, 1, [0, 0]), (48, .ireturn, 1, [0]), (49, .aload_n 0, 1, [0]), (50, .getfield 63, 3, [7, 9, 1, 0, 1, 207]), (53, .aload_n 0, 1, [0]), (54, .getfield 10, 3, [7, 0, 1, 0, 1, 198]), (57, .getfield 134, 3, [2, 4, 1, 0, 1, 52]), (60, .iload 4, 2, [4]), (62, .iaload, 1, []), (63, .iload 4, 2, [4]), (65, .iconst 1, 1, [0, 1]), (66, .aload_n 0, 1, [0]), (67, .getfield 10, 3, [7, 0, 1, 0, 1, 198]), (70, .getfield 137, 3, [2, 5, 1, 0, 1, 56]), (73, .iload 4, 2, [4]), (75, .iaload, 1, []), (76, .iadd, 1, []), (77, .invokevirtual 306, 3, [0, 5, 4, 0, 4, 121, 4, 122, 1, 7, 4, 124, 4, 123]), (80, .aload_n 0, 1, [0]), (81, .getfield 63, 3, [7, 9, 1, 0, 1, 207]), (84, .iload_n 2, 1, [2]), (85, .iload_n 3, 1, [3]), (86, .invokevirtual 309, 3, [0, 6, 3, 0, 4, 125, 4, 126, 1, 7, 4, 128, 4, 127]), (89, .ireturn, 1, [0])]
def gV_act : List (mv_C H2) := [((0, 0), cA_forget), ((0, 0), cV_isShelf), ((0, 0), cV_isIn), ((0, 0), cH_clothOn), ((0, 0), cM_has), ((0, 0), cA_hold), ((0, 0), cA_perform)]
def nV_act : List (mv_MD × Bool) := [(mdA_forget, true), (mdV_isShelf, false), (mdV_isIn, false), (mdH_clothOn, true), (mdM_has, true), (mdA_hold, true), (mdA_perform, true)]
def tV_trace : List mv_E := [(0, .iload_n 1, 1, [1]), (1, .iconst 0, 1, [0, 0]), (2, .aload_n 0, 1, [0]), (3, .getfield 63, 3, [7, 9, 1, 0, 1, 207]), (6, .getfield 312, 3, [0, 1, 0, 0, 1, 180]), (9, .iconst 1, 1, [0, 1]), (10, .isub, 1, []), (11, .invokestatic 67, 3, [0, 0, 3, 1, 1, 233, 1, 234, 1, 1, 1, 235]), (14, .ifCond .eq 15, 3, [29]), (17, .aload_n 0, 1, [0]), (18, .getfield 63, 3, [7, 9, 1, 0, 1, 207]), (21, .getfield 315, 3, [0, 0, 1, 0, 1, 178]), (24, .iload_n 1, 1, [1]), (25, .iaload, 1, []), (26, .goto 5, 3, [31]), (29, .bipush (-3), 2, [1, 3]), (31, .ireturn, 1, [0])]
def gV_trace : List (mv_C H2) := [((0, 0), cV_isIn)]
def nV_trace : List (mv_MD × Bool) := [(mdV_isIn, false)]
def tV_many : List mv_E := [(0, .iload_n 1, 1, [1]), (1, .tableswitch 108 0 6 #[43, 51, 62, 73, 84, 92, 100], 43, [0, 109, 44, 52, 63, 74, 85, 93, 101]), (44, .aload_n 0, 1, [0]), (45, .getfield 10, 3, [7, 0, 1, 0, 1, 198]), (48, .getfield 100, 3, [2, 9, 0, 0, 1, 68]), (51, .ireturn, 1, [0]), (52, .aload_n 0, 1, [0]), (53, .getfield 10, 3, [7, 0, 1, 0, 1, 198]), (56, .invokevirtual 186, 3, [0, 0, 1, 0, 3, 76, 3, 77, 1, 2, 3, 79, 3, 78]), (59, .invokestatic 318, 3, [0, 1, 1, 1, 4, 155, 3, 176, 1, 15, 3, 177]), (62, .ireturn, 1, [0]), (63, .aload_n 0, 1, [0]), (64, .getfield 10, 3, [7, 0, 1, 0, 1, 198]), (67, .invokevirtual 189, 3, [0, 2, 1, 0, 3, 80, 3, 81, 1, 2, 3, 83, 3, 82]), (70, .invokestatic 318, 3, [0, 1, 1, 1, 4, 155, 3, 176, 1, 15, 3, 177]), (73, .ireturn, 1, [0]), (74, .aload_n 0, 1, [0]), (75, .getfield 10, 3, [7, 0, 1, 0, 1, 198]), (78, .invokevirtual 323, 3, [0, 3, 1, 0, 4, 156, 4, 157, 1, 2, 4, 159, 4, 158]), (81, .invokestatic 318, 3, [0, 1, 1, 1, 4, 155, 3, 176, 1, 15, 3, 177]), (84, .ireturn, 1, [0]), (85, .aload_n 0, 1, [0]), (86, .getfield 43, 3, [7, 6, 1, 0, 1, 204]), (89, .getfield 97, 3, [3, 1, 0, 0, 1, 148]), (92, .ireturn, 1, [0]), (93, .aload_n 0, 1, [0]), (94, .getfield 36, 3, [7, 5, 1, 0, 1, 203]), (97, .getfield 79, 3, [6, 1, 0, 1, 1, 122]), (100, .ireturn, 1, [0]), (101, .aload_n 0, 1, [0]), (102, .getfield 63, 3, [7, 9, 1, 0, 1, 207]), (105, .getfield 312, 3, [0, 1, 0, 0, 1, 180]), (108, .ireturn, 1, [0]), (109, .iconst (-1), 1, [1, 1]), (110, .ireturn, 1, [0])]
def gV_many : List (mv_C H2) := [((0, 0), cM_hungSet), ((0, 0), cJ_bitCount_0f7a4), ((0, 0), cM_aboutSet), ((0, 0), cM_purposeSet)]
def nV_many : List (mv_MD × Bool) := [(mdM_hungSet, true), (mdJ_bitCount_0f7a4, false), (mdM_aboutSet, true), (mdM_purposeSet, true)]
def tV_keep : List mv_E := [(0, .aload_n 0, 1, [0]), (1, .getfield 19, 3, [7, 2, 1, 0, 1, 200]), (4, .aload_n 0, 1, [0]), (5, .getfield 10, 3, [7, 0, 1, 0, 1, 198]), (8, .invokevirtual 93, 3, [0, 0, 2, 0, 2, 151, 2, 152, 1, 2, 2, 154, 2, 153]), (11, .aload_n 0, 1, [0]), (12, .iconst 1, 1, [0, 1]), (13, .putfield 22, 3, [7, 3, 2, 0, 1, 201]), (16, .iconst 1, 1, [0, 1]), (17, .ireturn, 1, [0])]
def gV_keep : List (mv_C H2) := [((0, 0), cM_copyFrom)]
def nV_keep : List (mv_MD × Bool) := [(mdM_copyFrom, true)]
def tV_again : List mv_E := [(0, .aload_n 0, 1, [0]), (1, .getfield 22, 3, [7, 3, 2, 0, 1, 201]), (4, .ifCond .ne 6, 3, [10]), (7, .bipush (-3), 2, [1, 3]), (9, .ireturn, 1, [0]), (10, .aload_n 0, 1, [0]), (11, .getfield 10, 3, [7, 0, 1, 0, 1, 198]), (14, .aload_n 0, 1, [0]), (15, .getfield 19, 3, [7, 2, 1, 0, 1, 200]), (18, .invokevirtual 93, 3, [0, 0, 2, 0, 2, 151, 2, 152, 1, 2, 2, 154, 2, 153]), (21, .aload_n 0, 1, [0]), (22, .getfield 10, 3, [7, 0, 1, 0, 1, 198]), (25, .getfield 100, 3, [2, 9, 0, 0, 1, 68]), (28, .ireturn, 1, [0])]
def gV_again : List (mv_C H2) := [((0, 0), cM_copyFrom)]
def nV_again : List (mv_MD × Bool) := [(mdM_copyFrom, true)]
def tN_anew : List mv_E := [(0, .aload_n 0, 1, [0]), (1, .getfield 16, 3, [8, 2, 1, 0, 4, 180]), (4, .iconst 5, 1, [0, 5]), (5, .iaload, 1, []), (6, .istore_n 1, 1, [1]), (7, .iconst 0, 1, [0, 0]), (8, .istore_n 2, 1, [2]), (9, .iload_n 2, 1, [2]), (10, .bipush 69, 2, [0, 69]), (12, .if_icmp .ge 16, 3, [28]), (15, .aload_n 0, 1, [0]), (16, .getfield 16, 3, [8, 2, 1, 0, 4, 180]), (19, .iload_n 2, 1, [2]), (20, .iconst 0, 1, [0, 0]), (21, .iastore, 1, []), (22, .iinc 2 1, 3, [2, 0, 1]), (25, .goto (-16), 3, [9]), (28, .iconst 0, 1, [0, 0]), (29, .istore_n 2, 1, [2]), (30, .iload_n 2, 1, [2]), (31, .iconst 4, 1, [0, 4]), (32, .if_icmp .ge 21, 3, [53]), (35, .aload_n 0, 1, [0]), (36, .getfield 16, 3, [8, 2, 1, 0, 4, 180]), (39, .iload_n 2, 1, [2]), (40, .aload_n 0, 1, [0]), (41, .getfield 13, 3, [8, 1, 1, 0, 4, 179]), (44, .iload_n 2, 1, [2]), (45, .iaload, 1, []), (46, .iastore, 1, []), (47, .iinc 2 1, 3, [2, 0, 1]), (50, .goto (-20), 3, [30]), (53, .iconst 0, 1, [0, 0]), (54, .istore_n 2, 1, [2]), (55, .iload_n 2, 1, [2]), (56, .bipush 8, 2, [0, 8]), (58, .if_icmp .ge 29, 3, [87]), (61, .aload_n 0, 1, [0]), (62, .getfield 16, 3, [8, 2, 1, 0, 4, 180]), (65, .bipush 7, 2, [0, 7]), (67, .iload_n 2, 1, [2]), (68, .iadd, 1, []), (69, .iload_n 2, 1, [2]), (70, .iastore, 1, []), (71, .aload_n 0, 1, [0]), (72, .getfield 16, 3, [8, 2, 1, 0, 4, 180]), (75, .bipush 15, 2, [0, 15]), (77, .iload_n 2, 1, [2]), (78, .iadd, 1, []), (79, .iconst 5, 1, [0, 5]), (80, .iastore, 1, []), (81, .iinc 2 1, 3, [2, 0, 1]), (84, .goto (-29), 3, [55]), (87, .iconst 0, 1, [0, 0]), (88, .istore_n 2, 1, [2]), (89, .iload_n 2, 1, [2]), (90, .bipush 6, 2, [0, 6]), (92, .if_icmp .ge 19, 3, [111]), (95, .aload_n 0, 1, [0]), (96, .getfield 16, 3, [8, 2, 1, 0, 4, 180]), (99, .bipush 23, 2, [0, 23]), (101, .iload_n 2, 1, [2]), (102, .iadd, 1, []), (103, .iload_n 2, 1, [2]), (104, .iastore, 1, []), (105, .iinc 2 1, 3, [2, 0, 1]), (108, .goto (-19), 3, [89]), (111, .aload_n 0, 1, [0]), (112, .getfield 16, 3, [8, 2, 1, 0, 4, 180]), (115, .iconst 5, 1, [0, 5]), (116, .iload_n 1, 1, [1]), (117, .iastore, 1, []), (118, .return_, 1, [])]
def gN_anew : List (mv_C H2) := []
def nN_anew : List (mv_MD × Bool) := []
def tN_in : List mv_E := [(0, .lload_n 0, 1, [0]), (1, .lload_n 2, 1, [2]), (2, .lcmp, 1, []), (3, .ifCond .lt 14, 3, [17]), (6, .lload_n 0, 1, [0]), (7, .lload 4, 2, [4]), (9, .lcmp, 1, []), (10, .ifCond .gt 7, 3, [17]), (13, .iconst 1, 1, [0, 1]), (14, .goto 4, 3, [18]), (17, .iconst 0, 1, [0, 0]), (18, .ireturn, 1, [1])]
def gN_in : List (mv_C H2) := []
def nN_in : List (mv_MD × Bool) := []
def tN_become_902_904 : List mv_E := [(0, .iconst 0, 1, [0, 0]), (1, .istore_n 2, 1, [2]), (2, .iload_n 2, 1, [2]), (3, .bipush 69, 2, [0, 69]), (5, .if_icmp .ge 15, 3, [20]), (8, .aload_n 1, 1, [1]), (9, .iload_n 2, 1, [2]), (10, .aload_n 0, 1, [0]), (11, .iload_n 2, 1, [2]), (12, .iaload, 1, []), (13, .iastore, 1, []), (14, .iinc 2 1, 3, [2, 0, 1]), (17, .goto (-15), 3, [2]), (20, .return_, 1, [])]
def gN_become_902_904 : List (mv_C H2) := []
def nN_become_902_904 : List (mv_MD × Bool) := []
def tN_become_904_902 : List mv_E := [(0, .iconst 0, 1, [0, 0]), (1, .istore_n 2, 1, [2]), (2, .iload_n 2, 1, [2]), (3, .bipush 69, 2, [0, 69]), (5, .if_icmp .ge 15, 3, [20]), (8, .aload_n 1, 1, [1]), (9, .iload_n 2, 1, [2]), (10, .aload_n 0, 1, [0]), (11, .iload_n 2, 1, [2]), (12, .iaload, 1, []), (13, .iastore, 1, []), (14, .iinc 2 1, 3, [2, 0, 1]), (17, .goto (-15), 3, [2]), (20, .return_, 1, [])]
def gN_become_904_902 : List (mv_C H2) := []
def nN_become_904_902 : List (mv_MD × Bool) := []
def tN_become_902_903 : List mv_E := [(0, .iconst 0, 1, [0, 0]), (1, .istore_n 2, 1, [2]), (2, .iload_n 2, 1, [2]), (3, .bipush 69, 2, [0, 69]), (5, .if_icmp .ge 15, 3, [20]), (8, .aload_n 1, 1, [1]), (9, .iload_n 2, 1, [2]), (10, .aload_n 0, 1, [0]), (11, .iload_n 2, 1, [2]), (12, .iaload, 1, []), (13, .iastore, 1, []), (14, .iinc 2 1, 3, [2, 0, 1]), (17, .goto (-15), 3, [2]), (20, .return_, 1, [])]
def gN_become_902_903 : List (mv_C H2) := []
def nN_become_902_903 : List (mv_MD × Bool) := []
def tN_become_903_902 : List mv_E := [(0, .iconst 0, 1, [0, 0]), (1, .istore_n 2, 1, [2]), (2, .iload_n 2, 1, [2]), (3, .bipush 69, 2, [0, 69]), (5, .if_icmp .ge 15, 3, [20]), (8, .aload_n 1, 1, [1]), (9, .iload_n 2, 1, [2]), (10, .aload_n 0, 1, [0]), (11, .iload_n 2, 1, [2]), (12, .iaload, 1, []), (13, .iastore, 1, []), (14, .iinc 2 1, 3, [2, 0, 1]), (17, .goto (-15), 3, [2]), (20, .return_, 1, [])]
def gN_become_903_902 : List (mv_C H2) := []
def nN_become_903_902 : List (mv_MD × Bool) := []
def tN_lends : List mv_E := [(0, .aload_n 0, 1, [0]), (1, .getfield 16, 3, [8, 2, 1, 0, 4, 180]), (4, .aload_n 0, 1, [0]), (5, .getfield 22, 3, [8, 4, 1, 0, 4, 182]), (8, .invokestatic 55, 3, [0, 0, 2, 1, 5, 184, 5, 185, 1, 8, 5, 186]), (11, .return_, 1, [])]
def gN_lends : List (mv_C H2) := [((0, 0), cN_become)]
def nN_lends : List (mv_MD × Bool) := [(mdN_become, false)]
def tN_laysBack : List mv_E := [(0, .aload_n 0, 1, [0]), (1, .getfield 22, 3, [8, 4, 1, 0, 4, 182]), (4, .aload_n 0, 1, [0]), (5, .getfield 16, 3, [8, 2, 1, 0, 4, 180]), (8, .invokestatic 55, 3, [0, 0, 2, 1, 5, 184, 5, 185, 1, 8, 5, 186]), (11, .return_, 1, [])]
def gN_laysBack : List (mv_C H2) := [((0, 0), cN_become)]
def nN_laysBack : List (mv_MD × Bool) := [(mdN_become, false)]
def tN_isCloth : List mv_E := [(0, .iload_n 1, 1, [1]), (1, .i2l, 1, []), (2, .lconst 0, 1, [0, 0]), (3, .aload_n 0, 1, [0]), (4, .getfield 16, 3, [8, 2, 1, 0, 4, 180]), (7, .bipush 6, 2, [0, 6]), (9, .iaload, 1, []), (10, .iconst 1, 1, [0, 1]), (11, .isub, 1, []), (12, .i2l, 1, []), (13, .invokestatic 59, 3, [0, 0, 3, 1, 5, 19, 5, 20, 1, 8, 5, 21]), (16, .ireturn, 1, [1])]
def gN_isCloth : List (mv_C H2) := [((0, 0), cN_in)]
def nN_isCloth : List (mv_MD × Bool) := [(mdN_in, false)]
def tN_isVat : List mv_E := [(0, .iload_n 0, 1, [0]), (1, .i2l, 1, []), (2, .lconst 0, 1, [0, 0]), (3, .ldc2_w 63, 3, [0, 7, 5, 37]), (6, .invokestatic 59, 3, [0, 0, 3, 1, 5, 19, 5, 20, 1, 8, 5, 21]), (9, .ireturn, 1, [1])]
def gN_isVat : List (mv_C H2) := [((0, 0), cN_in)]
def nN_isVat : List (mv_MD × Bool) := [(mdN_in, false)]
def tN_isPurpose : List mv_E := [(0, .iload_n 0, 1, [0]), (1, .i2l, 1, []), (2, .lconst 0, 1, [0, 0]), (3, .ldc2_w 65, 3, [0, 9, 5, 38]), (6, .invokestatic 59, 3, [0, 0, 3, 1, 5, 19, 5, 20, 1, 8, 5, 21]), (9, .ireturn, 1, [1])]
def gN_isPurpose : List (mv_C H2) := [((0, 0), cN_in)]
def nN_isPurpose : List (mv_MD × Bool) := [(mdN_in, false)]
def tN_isRest : List mv_E := [(0, .iload_n 0, 1, [0]), (1, .i2l, 1, []), (2, .lconst 0, 1, [0, 0]), (3, .ldc2_w 67, 3, [0, 5, 5, 50]), (6, .invokestatic 59, 3, [0, 0, 3, 1, 5, 19, 5, 20, 1, 8, 5, 21]), (9, .ireturn, 1, [1])]
def gN_isRest : List (mv_C H2) := [((0, 0), cN_in)]
def nN_isRest : List (mv_MD × Bool) := [(mdN_in, false)]
def tN_its : List mv_E := [(0, .aload_n 0, 1, [0]), (1, .getfield 16, 3, [8, 2, 1, 0, 4, 180]), (4, .bipush 29, 2, [0, 29]), (6, .iconst 5, 1, [0, 5]), (7, .iload_n 1, 1, [1]), (8, .imul, 1, []), (9, .iadd, 1, []), (10, .iload_n 2, 1, [2]), (11, .iadd, 1, []), (12, .iaload, 1, []), (13, .ireturn, 1, [0])]
def gN_its : List (mv_C H2) := []
def nN_its : List (mv_MD × Bool) := []
def tN_sets : List mv_E := [(0, .aload_n 0, 1, [0]), (1, .getfield 16, 3, [8, 2, 1, 0, 4, 180]), (4, .bipush 29, 2, [0, 29]), (6, .iconst 5, 1, [0, 5]), (7, .iload_n 1, 1, [1]), (8, .imul, 1, []), (9, .iadd, 1, []), (10, .iload_n 2, 1, [2]), (11, .iadd, 1, []), (12, .iload_n 3, 1, [3]), (13, .iastore, 1, []), (14, .return_, 1, [])]
def gN_sets : List (mv_C H2) := []
def nN_sets : List (mv_MD × Bool) := []
def tN_becomes : List mv_E := [(0, .aload_n 0, 1, [0]), (1, .getfield 16, 3, [8, 2, 1, 0, 4, 180]), (4, .iload_n 1, 1, [1]), (5, .iaload, 1, []), (6, .istore_n 3, 1, [3]), (7, .aload_n 0, 1, [0]), (8, .getfield 16, 3, [8, 2, 1, 0, 4, 180]), (11, .iload_n 1, 1, [1]), (12, .iload_n 2, 1, [2]), (13, .iastore, 1, []), (14, .iload_n 3, 1, [3]), (15, .ireturn, 1, [0])]
def gN_becomes : List (mv_C H2) := []
def nN_becomes : List (mv_MD × Bool) := []
def tN_set : List mv_E := [(0, .iload_n 1, 1, [1]), (1, .i2l, 1, []), (2, .lconst 0, 1, [0, 0]), (3, .ldc2_w 69, 3, [0, 3, 5, 18]), (6, .invokestatic 59, 3, [0, 0, 3, 1, 5, 19, 5, 20, 1, 8, 5, 21]), (9, .ifCond .ne 5, 3, [14]), (12, .iconst (-1), 1, [1, 1]), (13, .ireturn, 1, [0]), (14, .iload_n 2, 1, [2]), (15, .i2l, 1, []), (16, .lconst 0, 1, [0, 0]), (17, .aload_n 0, 1, [0]), (18, .getfield 9, 3, [8, 0, 1, 0, 4, 178]), (21, .iload_n 1, 1, [1]), (22, .iaload, 1, []), (23, .i2l, 1, []), (24, .invokestatic 59, 3, [0, 0, 3, 1, 5, 19, 5, 20, 1, 8, 5, 21]), (27, .ifCond .eq 12, 3, [39]), (30, .aload_n 0, 1, [0]), (31, .iload_n 1, 1, [1]), (32, .iload_n 2, 1, [2]), (33, .invokevirtual 71, 3, [0, 1, 3, 0, 5, 22, 5, 24, 1, 8, 5, 25, 0, 26]), (36, .goto 4, 3, [40]), (39, .iconst (-1), 1, [1, 1]), (40, .ireturn, 1, [0])]
def gN_set : List (mv_C H2) := [((0, 0), cN_in), ((0, 0), cN_becomes)]
def nN_set : List (mv_MD × Bool) := [(mdN_in, false), (mdN_becomes, true)]
def tN_lawOf : List mv_E := [(0, .iload_n 1, 1, [1]), (1, .i2l, 1, []), (2, .lconst 0, 1, [0, 0]), (3, .ldc2_w 69, 3, [0, 3, 5, 18]), (6, .invokestatic 59, 3, [0, 0, 3, 1, 5, 19, 5, 20, 1, 8, 5, 21]), (9, .ifCond .eq 12, 3, [21]), (12, .aload_n 0, 1, [0]), (13, .getfield 16, 3, [8, 2, 1, 0, 4, 180]), (16, .iload_n 1, 1, [1]), (17, .iaload, 1, []), (18, .goto 4, 3, [22]), (21, .iconst (-1), 1, [1, 1]), (22, .ireturn, 1, [0])]
def gN_lawOf : List (mv_C H2) := [((0, 0), cN_in)]
def nN_lawOf : List (mv_MD × Bool) := [(mdN_in, false)]
def tN_fill : List mv_E := [(0, .iload_n 1, 1, [1]), (1, .invokestatic 75, 3, [0, 0, 1, 1, 5, 34, 5, 35, 1, 8, 5, 36]), (4, .ifCond .eq 42, 3, [46]), (7, .iload_n 2, 1, [2]), (8, .i2l, 1, []), (9, .lconst 0, 1, [0, 0]), (10, .lconst 1, 1, [0, 1]), (11, .invokestatic 59, 3, [0, 1, 3, 1, 5, 19, 5, 20, 1, 8, 5, 21]), (14, .ifCond .eq 32, 3, [46]), (17, .iload_n 3, 1, [3]), (18, .i2l, 1, []), (19, .lconst 0, 1, [0, 0]), (20, .ldc2_w 65, 3, [0, 9, 5, 38]), (23, .invokestatic 59, 3, [0, 1, 3, 1, 5, 19, 5, 20, 1, 8, 5, 21]), (26, .ifCond .eq 20, 3, [46]), (29, .aload_n 0, 1, [0]), (30, .bipush 7, 2, [0, 7]), (32, .bipush 8, 2, [0, 8]), (34, .iload_n 2, 1, [2]), (35, .imul, 1, []), (36, .iadd, 1, []), (37, .iload_n 1, 1, [1]), (38, .iadd, 1, []), (39, .iload_n 3, 1, [3]), (40, .invokevirtual 71, 3, [0, 2, 3, 0, 5, 22, 5, 24, 1, 8, 5, 25, 0, 26]), (43, .goto 4, 3, [47]), (46, .iconst (-1), 1, [1, 1]), (47, .ireturn, 1, [0])]
def gN_fill : List (mv_C H2) := [((0, 0), cN_isVat), ((0, 0), cN_in), ((0, 0), cN_becomes)]
def nN_fill : List (mv_MD × Bool) := [(mdN_isVat, false), (mdN_in, false), (mdN_becomes, true)]
def tN_vatOf : List mv_E := [(0, .iload_n 1, 1, [1]), (1, .invokestatic 75, 3, [0, 0, 1, 1, 5, 34, 5, 35, 1, 8, 5, 36]), (4, .ifCond .eq 30, 3, [34]), (7, .iload_n 2, 1, [2]), (8, .i2l, 1, []), (9, .lconst 0, 1, [0, 0]), (10, .lconst 1, 1, [0, 1]), (11, .invokestatic 59, 3, [0, 1, 3, 1, 5, 19, 5, 20, 1, 8, 5, 21]), (14, .ifCond .eq 20, 3, [34]), (17, .aload_n 0, 1, [0]), (18, .getfield 16, 3, [8, 2, 1, 0, 4, 180]), (21, .bipush 7, 2, [0, 7]), (23, .bipush 8, 2, [0, 8]), (25, .iload_n 2, 1, [2]), (26, .imul, 1, []), (27, .iadd, 1, []), (28, .iload_n 1, 1, [1]), (29, .iadd, 1, []), (30, .iaload, 1, []), (31, .goto 4, 3, [35]), (34, .iconst (-1), 1, [1, 1]), (35, .ireturn, 1, [0])]
def gN_vatOf : List (mv_C H2) := [((0, 0), cN_isVat), ((0, 0), cN_in)]
def nN_vatOf : List (mv_MD × Bool) := [(mdN_isVat, false), (mdN_in, false)]
def tN_roster : List mv_E := [(0, .iload_n 1, 1, [1]), (1, .invokestatic 79, 3, [0, 0, 1, 1, 5, 47, 5, 48, 1, 8, 5, 49]), (4, .ifCond .eq 29, 3, [33]), (7, .iload_n 2, 1, [2]), (8, .iconst (-1), 1, [1, 1]), (9, .if_icmp .eq 10, 3, [19]), (12, .iload_n 2, 1, [2]), (13, .invokestatic 75, 3, [0, 1, 1, 1, 5, 34, 5, 35, 1, 8, 5, 36]), (16, .ifCond .eq 17, 3, [33]), (19, .iconst 1, 1, [0, 1]), (20, .aload_n 0, 1, [0]), (21, .bipush 23, 2, [0, 23]), (23, .iload_n 1, 1, [1]), (24, .iadd, 1, []), (25, .iload_n 2, 1, [2]), (26, .invokevirtual 71, 3, [0, 2, 3, 0, 5, 22, 5, 24, 1, 8, 5, 25, 0, 26]), (29, .iadd, 1, []), (30, .goto 4, 3, [34]), (33, .iconst (-1), 1, [1, 1]), (34, .ireturn, 1, [0])]
def gN_roster : List (mv_C H2) := [((0, 0), cN_isRest), ((0, 0), cN_isVat), ((0, 0), cN_becomes)]
def nN_roster : List (mv_MD × Bool) := [(mdN_isRest, false), (mdN_isVat, false), (mdN_becomes, true)]
def tN_rosterOf : List mv_E := [(0, .iload_n 1, 1, [1]), (1, .invokestatic 79, 3, [0, 0, 1, 1, 5, 47, 5, 48, 1, 8, 5, 49]), (4, .ifCond .eq 17, 3, [21]), (7, .iconst 1, 1, [0, 1]), (8, .aload_n 0, 1, [0]), (9, .getfield 16, 3, [8, 2, 1, 0, 4, 180]), (12, .bipush 23, 2, [0, 23]), (14, .iload_n 1, 1, [1]), (15, .iadd, 1, []), (16, .iaload, 1, []), (17, .iadd, 1, []), (18, .goto 4, 3, [22]), (21, .iconst (-1), 1, [1, 1]), (22, .ireturn, 1, [0])]
def gN_rosterOf : List (mv_C H2) := [((0, 0), cN_isRest)]
def nN_rosterOf : List (mv_MD × Bool) := [(mdN_isRest, false)]
def tN_isKind : List mv_E := [(0, .iload_n 0, 1, [0]), (1, .i2l, 1, []), (2, .lconst 0, 1, [0, 0]), (3, .ldc2_w 67, 3, [0, 5, 5, 50]), (6, .invokestatic 59, 3, [0, 0, 3, 1, 5, 19, 5, 20, 1, 8, 5, 21]), (9, .ireturn, 1, [1])]
def gN_isKind : List (mv_C H2) := [((0, 0), cN_in)]
def nN_isKind : List (mv_MD × Bool) := [(mdN_in, false)]
def tN_isUnder : List mv_E := [(0, .iload_n 1, 1, [1]), (1, .ifCond .eq 28, 3, [29]), (4, .iload_n 0, 1, [0]), (5, .iload_n 1, 1, [1]), (6, .if_icmp .eq 23, 3, [29]), (9, .iload_n 0, 1, [0]), (10, .iconst 3, 1, [0, 3]), (11, .if_icmp .ne 8, 3, [19]), (14, .iload_n 1, 1, [1]), (15, .iconst 1, 1, [0, 1]), (16, .if_icmp .eq 13, 3, [29]), (19, .iload_n 0, 1, [0]), (20, .iconst 4, 1, [0, 4]), (21, .if_icmp .ne 12, 3, [33]), (24, .iload_n 1, 1, [1]), (25, .iconst 2, 1, [0, 2]), (26, .if_icmp .ne 7, 3, [33]), (29, .iconst 1, 1, [0, 1]), (30, .goto 4, 3, [34]), (33, .iconst 0, 1, [0, 0]), (34, .ireturn, 1, [1])]
def gN_isUnder : List (mv_C H2) := []
def nN_isUnder : List (mv_MD × Bool) := []
def tN_takesOf : List mv_E := [(0, .iload_n 2, 1, [2]), (1, .aload_n 0, 1, [0]), (2, .getfield 16, 3, [8, 2, 1, 0, 4, 180]), (5, .iconst 0, 1, [0, 0]), (6, .iaload, 1, []), (7, .iadd, 1, []), (8, .istore_n 3, 1, [3]), (9, .aload_n 0, 1, [0]), (10, .iload_n 1, 1, [1]), (11, .iconst 0, 1, [0, 0]), (12, .invokevirtual 82, 3, [0, 0, 3, 0, 5, 79, 5, 81, 1, 8, 5, 82, 0, 30]), (15, .tableswitch 72 1 5 #[33, 43, 37, 52, 68], 33, [1, 87, 48, 58, 52, 67, 83]), (48, .iload_n 3, 1, [3]), (49, .iconst 3, 1, [0, 3]), (50, .iadd, 1, []), (51, .ireturn, 1, [0]), (52, .iconst 2, 1, [0, 2]), (53, .iload_n 3, 1, [3]), (54, .iconst 3, 1, [0, 3]), (55, .iadd, 1, []), (56, .imul, 1, []), (57, .ireturn, 1, [0]), (58, .iload_n 3, 1, [3]), (59, .aload_n 0, 1, [0]), (60, .getfield 16, 3, [8, 2, 1, 0, 4, 180]), (63, .iconst 1, 1, [0, 1]), (64, .iaload, 1, []), (65, .isub, 1, []), (66, .ireturn, 1, [0]), (67, .iload_n 3, 1, [3]), (68, .aload_n 0, 1, [0]), (69, .getfield 16, 3, [8, 2, 1, 0, 4, 180]), (72, .iconst 1, 1, [0, 1]), (73, .iaload, 1, []), (74, .isub, 1, []), (75, .aload_n 0, 1, [0]), (76, .getfield 16, 3, [8, 2, 1, 0, 4, 180]), (79, .iconst 2, 1, [0, 2]), (80, .iaload, 1, []), (81, .iadd, 1, []), (82, .ireturn, 1, [0]), (83, .iload_n 3, 1, [3]), (84, .iconst 2, 1, [0, 2]), (85, .idiv, 1, []), (86, .ireturn, 1, [0]), (87, .iload_n 3, 1, [3]), (88, .ireturn, 1, [0])]
def gN_takesOf : List (mv_C H2) := [((0, 0), cN_its)]
def nN_takesOf : List (mv_MD × Bool) := [(mdN_its, true)]
def tN_fightsOf : List mv_E := [(0, .aload_n 0, 1, [0]), (1, .iload_n 1, 1, [1]), (2, .iconst 0, 1, [0, 0]), (3, .invokevirtual 82, 3, [0, 0, 3, 0, 5, 79, 5, 81, 1, 8, 5, 82, 0, 30]), (6, .tableswitch 83 1 5 #[34, 59, 43, 68, 79], 34, [1, 89, 40, 65, 49, 74, 85]), (40, .iload_n 2, 1, [2]), (41, .aload_n 0, 1, [0]), (42, .getfield 16, 3, [8, 2, 1, 0, 4, 180]), (45, .iconst 2, 1, [0, 2]), (46, .iaload, 1, []), (47, .isub, 1, []), (48, .ireturn, 1, [0]), (49, .iload_n 2, 1, [2]), (50, .aload_n 0, 1, [0]), (51, .getfield 16, 3, [8, 2, 1, 0, 4, 180]), (54, .iconst 2, 1, [0, 2]), (55, .iaload, 1, []), (56, .isub, 1, []), (57, .aload_n 0, 1, [0]), (58, .getfield 16, 3, [8, 2, 1, 0, 4, 180]), (61, .iconst 0, 1, [0, 0]), (62, .iaload, 1, []), (63, .iadd, 1, []), (64, .ireturn, 1, [0]), (65, .iload_n 2, 1, [2]), (66, .aload_n 0, 1, [0]), (67, .getfield 16, 3, [8, 2, 1, 0, 4, 180]), (70, .iconst 2, 1, [0, 2]), (71, .iaload, 1, []), (72, .iadd, 1, []), (73, .ireturn, 1, [0]), (74, .iconst 2, 1, [0, 2]), (75, .iload_n 2, 1, [2]), (76, .aload_n 0, 1, [0]), (77, .getfield 16, 3, [8, 2, 1, 0, 4, 180]), (80, .iconst 2, 1, [0, 2]), (81, .iaload, 1, []), (82, .iadd, 1, []), (83, .imul, 1, []), (84, .ireturn, 1, [0]), (85, .iload_n 2, 1, [2]), (86, .iconst 1, 1, [0, 1]), (87, .iadd, 1, []), (88, .ireturn, 1, [0]), (89, .iload_n 2, 1, [2]), (90, .ireturn, 1, [0])]
def gN_fightsOf : List (mv_C H2) := [((0, 0), cN_its)]
def nN_fightsOf : List (mv_MD × Bool) := [(mdN_its, true)]
def tN_fadesOf : List mv_E := [(0, .aload_n 0, 1, [0]), (1, .getfield 16, 3, [8, 2, 1, 0, 4, 180]), (4, .iconst 1, 1, [0, 1]), (5, .iaload, 1, []), (6, .istore_n 2, 1, [2]), (7, .aload_n 0, 1, [0]), (8, .iload_n 1, 1, [1]), (9, .iconst 0, 1, [0, 0]), (10, .invokevirtual 82, 3, [0, 0, 3, 0, 5, 79, 5, 81, 1, 8, 5, 82, 0, 30]), (13, .tableswitch 55 1 5 #[35, 41, 39, 45, 51], 35, [1, 68, 48, 54, 52, 58, 64]), (48, .iload_n 2, 1, [2]), (49, .iconst 1, 1, [0, 1]), (50, .isub, 1, []), (51, .ireturn, 1, [0]), (52, .iconst 0, 1, [0, 0]), (53, .ireturn, 1, [0]), (54, .iload_n 2, 1, [2]), (55, .iconst 1, 1, [0, 1]), (56, .iadd, 1, []), (57, .ireturn, 1, [0]), (58, .iconst 2, 1, [0, 2]), (59, .iload_n 2, 1, [2]), (60, .iconst 1, 1, [0, 1]), (61, .iadd, 1, []), (62, .imul, 1, []), (63, .ireturn, 1, [0]), (64, .iload_n 2, 1, [2]), (65, .iconst 3, 1, [0, 3]), (66, .iadd, 1, []), (67, .ireturn, 1, [0]), (68, .iload_n 2, 1, [2]), (69, .ireturn, 1, [0])]
def gN_fadesOf : List (mv_C H2) := [((0, 0), cN_its)]
def nN_fadesOf : List (mv_MD × Bool) := [(mdN_its, true)]
def tN_adds : List mv_E := [(0, .aload_n 0, 1, [0]), (1, .getfield 16, 3, [8, 2, 1, 0, 4, 180]), (4, .bipush 6, 2, [0, 6]), (6, .iaload, 1, []), (7, .istore_n 2, 1, [2]), (8, .aload_n 0, 1, [0]), (9, .getfield 16, 3, [8, 2, 1, 0, 4, 180]), (12, .bipush 6, 2, [0, 6]), (14, .dup2, 1, []), (15, .iaload, 1, []), (16, .iconst 1, 1, [0, 1]), (17, .iadd, 1, []), (18, .iastore, 1, []), (19, .aload_n 0, 1, [0]), (20, .iload_n 2, 1, [2]), (21, .iconst 0, 1, [0, 0]), (22, .iload_n 1, 1, [1]), (23, .invokevirtual 85, 3, [0, 0, 4, 0, 5, 66, 5, 68, 1, 8, 5, 69, 0, 28]), (26, .aload_n 0, 1, [0]), (27, .iload_n 2, 1, [2]), (28, .iconst 1, 1, [0, 1]), (29, .iconst (-1), 1, [1, 1]), (30, .invokevirtual 85, 3, [0, 0, 4, 0, 5, 66, 5, 68, 1, 8, 5, 69, 0, 28]), (33, .aload_n 0, 1, [0]), (34, .iload_n 2, 1, [2]), (35, .iconst 2, 1, [0, 2]), (36, .iconst 0, 1, [0, 0]), (37, .invokevirtual 85, 3, [0, 0, 4, 0, 5, 66, 5, 68, 1, 8, 5, 69, 0, 28]), (40, .aload_n 0, 1, [0]), (41, .iload_n 2, 1, [2]), (42, .iconst 3, 1, [0, 3]), (43, .iconst 0, 1, [0, 0]), (44, .invokevirtual 85, 3, [0, 0, 4, 0, 5, 66, 5, 68, 1, 8, 5, 69, 0, 28]), (47, .aload_n 0, 1, [0]), (48, .iload_n 2, 1, [2]), (49, .iconst 4, 1, [0, 4]), (50, .iconst 0, 1, [0, 0]), (51, .invokevirtual 85, 3, [0, 0, 4, 0, 5, 66, 5, 68, 1, 8, 5, 69, 0, 28]), (54, .return_, 1, [])]
def gN_adds : List (mv_C H2) := [((0, 0), cN_sets)]
def nN_adds : List (mv_MD × Bool) := [(mdN_sets, true)]
def tN_cloth : List mv_E := [(0, .iload_n 1, 1, [1]), (1, .invokestatic 89, 3, [0, 0, 1, 1, 5, 59, 5, 60, 1, 8, 5, 61]), (4, .ifCond .ne 5, 3, [9]), (7, .iconst (-1), 1, [1, 1]), (8, .ireturn, 1, [0]), (9, .aload_n 0, 1, [0]), (10, .getfield 16, 3, [8, 2, 1, 0, 4, 180]), (13, .bipush 6, 2, [0, 6]), (15, .iaload, 1, []), (16, .bipush 8, 2, [0, 8]), (18, .if_icmp .ne 6, 3, [24]), (21, .bipush (-2), 2, [1, 2]), (23, .ireturn, 1, [0]), (24, .aload_n 0, 1, [0]), (25, .iload_n 1, 1, [1]), (26, .invokevirtual 92, 3, [0, 1, 2, 0, 5, 62, 5, 64, 1, 8, 5, 65, 0, 27]), (29, .aload_n 0, 1, [0]), (30, .getfield 16, 3, [8, 2, 1, 0, 4, 180]), (33, .bipush 6, 2, [0, 6]), (35, .iaload, 1, []), (36, .iconst 1, 1, [0, 1]), (37, .isub, 1, []), (38, .ireturn, 1, [0])]
def gN_cloth : List (mv_C H2) := [((0, 0), cN_isKind), ((0, 0), cN_adds)]
def nN_cloth : List (mv_MD × Bool) := [(mdN_isKind, false), (mdN_adds, true)]
def tN_of : List mv_E := [(0, .aload_n 0, 1, [0]), (1, .iload_n 1, 1, [1]), (2, .invokevirtual 96, 3, [0, 0, 2, 0, 5, 74, 5, 76, 1, 8, 5, 77, 0, 29]), (5, .ifCond .eq 15, 3, [20]), (8, .iload_n 2, 1, [2]), (9, .i2l, 1, []), (10, .lconst 0, 1, [0, 0]), (11, .ldc2_w 99, 3, [0, 4, 5, 78]), (14, .invokestatic 59, 3, [0, 1, 3, 1, 5, 19, 5, 20, 1, 8, 5, 21]), (17, .ifCond .ne 5, 3, [22]), (20, .iconst (-1), 1, [1, 1]), (21, .ireturn, 1, [0]), (22, .iload_n 2, 1, [2]), (23, .iconst 1, 1, [0, 1]), (24, .if_icmp .ne 14, 3, [38]), (27, .iconst 1, 1, [0, 1]), (28, .aload_n 0, 1, [0]), (29, .iload_n 1, 1, [1]), (30, .iconst 1, 1, [0, 1]), (31, .invokevirtual 82, 3, [0, 2, 3, 0, 5, 79, 5, 81, 1, 8, 5, 82, 0, 30]), (34, .iadd, 1, []), (35, .goto 9, 3, [44]), (38, .aload_n 0, 1, [0]), (39, .iload_n 1, 1, [1]), (40, .iload_n 2, 1, [2]), (41, .invokevirtual 82, 3, [0, 2, 3, 0, 5, 79, 5, 81, 1, 8, 5, 82, 0, 30]), (44, .ireturn, 1, [0])]
def gN_of : List (mv_C H2) := [((0, 0), cN_isCloth), ((0, 0), cN_in), ((0, 0), cN_its)]
def nN_of : List (mv_MD × Bool) := [(mdN_isCloth, true), (mdN_in, false), (mdN_its, true)]
def tN_does : List mv_E := [(0, .aload_n 0, 1, [0]), (1, .iload_n 1, 1, [1]), (2, .invokevirtual 96, 3, [0, 0, 2, 0, 5, 74, 5, 76, 1, 8, 5, 77, 0, 29]), (5, .ifCond .eq 22, 3, [27]), (8, .iload_n 2, 1, [2]), (9, .invokestatic 75, 3, [0, 1, 1, 1, 5, 34, 5, 35, 1, 8, 5, 36]), (12, .ifCond .eq 15, 3, [27]), (15, .iload_n 3, 1, [3]), (16, .i2l, 1, []), (17, .lconst 0, 1, [0, 0]), (18, .ldc2_w 101, 3, [0, 2, 5, 87]), (21, .invokestatic 59, 3, [0, 2, 3, 1, 5, 19, 5, 20, 1, 8, 5, 21]), (24, .ifCond .ne 5, 3, [29]), (27, .iconst (-1), 1, [1, 1]), (28, .ireturn, 1, [0]), (29, .aload_n 0, 1, [0]), (30, .getfield 16, 3, [8, 2, 1, 0, 4, 180]), (33, .bipush 15, 2, [0, 15]), (35, .iload_n 2, 1, [2]), (36, .iadd, 1, []), (37, .iaload, 1, []), (38, .istore 4, 2, [4]), (40, .sipush 1000, 3, [0, 1000]), (43, .iload_n 3, 1, [3]), (44, .ifCond .ne 13, 3, [57]), (47, .aload_n 0, 1, [0]), (48, .iload_n 1, 1, [1]), (49, .iload 4, 2, [4]), (51, .invokevirtual 103, 3, [0, 3, 3, 0, 5, 88, 5, 90, 1, 8, 5, 91, 0, 31]), (54, .goto 23, 3, [77]), (57, .iload_n 3, 1, [3]), (58, .iconst 1, 1, [0, 1]), (59, .if_icmp .ne 13, 3, [72]), (62, .aload_n 0, 1, [0]), (63, .iload_n 1, 1, [1]), (64, .iload 4, 2, [4]), (66, .invokevirtual 106, 3, [0, 4, 3, 0, 5, 92, 5, 94, 1, 8, 5, 95, 0, 32]), (69, .goto 8, 3, [77]), (72, .aload_n 0, 1, [0]), (73, .iload_n 1, 1, [1]), (74, .invokevirtual 109, 3, [0, 5, 2, 0, 5, 96, 5, 98, 1, 8, 5, 99, 0, 33]), (77, .iadd, 1, []), (78, .ireturn, 1, [0])]
def gN_does : List (mv_C H2) := [((0, 0), cN_isCloth), ((0, 0), cN_isVat), ((0, 0), cN_in), ((0, 0), cN_takesOf), ((0, 0), cN_fightsOf), ((0, 0), cN_fadesOf)]
def nN_does : List (mv_MD × Bool) := [(mdN_isCloth, true), (mdN_isVat, false), (mdN_in, false), (mdN_takesOf, true), (mdN_fightsOf, true), (mdN_fadesOf, true)]
def tN_changed : List mv_E := [(0, .aload_n 0, 1, [0]), (1, .bipush 29, 2, [0, 29]), (3, .iconst 5, 1, [0, 5]), (4, .iload_n 1, 1, [1]), (5, .imul, 1, []), (6, .iadd, 1, []), (7, .iload_n 2, 1, [2]), (8, .iadd, 1, []), (9, .iload_n 3, 1, [3]), (10, .invokevirtual 71, 3, [0, 0, 3, 0, 5, 22, 5, 24, 1, 8, 5, 25, 0, 26]), (13, .ireturn, 1, [0])]
def gN_changed : List (mv_C H2) := [((0, 0), cN_becomes)]
def nN_changed : List (mv_MD × Bool) := [(mdN_becomes, true)]
def tN_mind : List mv_E := [(0, .aload_n 0, 1, [0]), (1, .iload_n 1, 1, [1]), (2, .invokevirtual 96, 3, [0, 0, 2, 0, 5, 74, 5, 76, 1, 8, 5, 77, 0, 29]), (5, .ifCond .eq 20, 3, [25]), (8, .iload_n 2, 1, [2]), (9, .invokestatic 89, 3, [0, 1, 1, 1, 5, 59, 5, 60, 1, 8, 5, 61]), (12, .ifCond .eq 13, 3, [25]), (15, .aload_n 0, 1, [0]), (16, .iload_n 1, 1, [1]), (17, .iconst 0, 1, [0, 0]), (18, .iload_n 2, 1, [2]), (19, .invokevirtual 113, 3, [0, 2, 4, 0, 5, 104, 5, 106, 1, 8, 5, 107, 0, 34]), (22, .goto 4, 3, [26]), (25, .iconst (-1), 1, [1, 1]), (26, .ireturn, 1, [0])]
def gN_mind : List (mv_C H2) := [((0, 0), cN_isCloth), ((0, 0), cN_isKind), ((0, 0), cN_changed)]
def nN_mind : List (mv_MD × Bool) := [(mdN_isCloth, true), (mdN_isKind, false), (mdN_changed, true)]
def tN_isDeep : List mv_E := [(0, .aload_n 0, 1, [0]), (1, .iload_n 1, 1, [1]), (2, .iconst 2, 1, [0, 2]), (3, .iconst 0, 1, [0, 0]), (4, .bipush 99, 2, [0, 99]), (6, .iload_n 2, 1, [2]), (7, .invokestatic 117, 3, [2, 5, 132, 5, 133, 1, 14, 5, 134]), (10, .invokestatic 122, 3, [1, 5, 135, 5, 136, 1, 14, 5, 137]), (13, .invokevirtual 85, 3, [0, 0, 4, 0, 5, 66, 5, 68, 1, 8, 5, 69, 0, 28]), (16, .iload_n 2, 1, [2]), (17, .ifCond .gt 10, 3, [27]), (20, .aload_n 0, 1, [0]), (21, .iload_n 1, 1, [1]), (22, .iconst 1, 1, [0, 1]), (23, .iconst (-1), 1, [1, 1]), (24, .invokevirtual 85, 3, [0, 0, 4, 0, 5, 66, 5, 68, 1, 8, 5, 69, 0, 28]), (27, .return_, 1, [])]
def gN_isDeep : List (mv_C H2) := [((0, 0), cN_sets)]
def nN_isDeep : List (mv_MD × Bool) := [(mdN_sets, true)]
def tN_steep : List mv_E := [(0, .iload_n 2, 1, [2]), (1, .iconst (-1), 1, [1, 1]), (2, .if_icmp .ne 15, 3, [17]), (5, .iload_n 3, 1, [3]), (6, .ifCond .ne 7, 3, [13]), (9, .iconst 1, 1, [0, 1]), (10, .goto 31, 3, [41]), (13, .iconst 0, 1, [0, 0]), (14, .goto 27, 3, [41]), (17, .iload_n 2, 1, [2]), (18, .invokestatic 125, 3, [0, 0, 1, 1, 5, 112, 5, 113, 1, 8, 5, 114]), (21, .ifCond .eq 19, 3, [40]), (24, .iload_n 3, 1, [3]), (25, .i2l, 1, []), (26, .lconst 1, 1, [0, 1]), (27, .ldc2_w 128, 3, [0, 99, 5, 115]), (30, .invokestatic 59, 3, [0, 1, 3, 1, 5, 19, 5, 20, 1, 8, 5, 21]), (33, .ifCond .eq 7, 3, [40]), (36, .iconst 1, 1, [0, 1]), (37, .goto 4, 3, [41]), (40, .iconst 0, 1, [0, 0]), (41, .istore 4, 2, [4]), (43, .aload_n 0, 1, [0]), (44, .iload_n 1, 1, [1]), (45, .invokevirtual 96, 3, [0, 2, 2, 0, 5, 74, 5, 76, 1, 8, 5, 77, 0, 29]), (48, .ifCond .eq 8, 3, [56]), (51, .iload 4, 2, [4]), (53, .ifCond .ne 5, 3, [58]), (56, .iconst (-1), 1, [1, 1]), (57, .ireturn, 1, [0]), (58, .aload_n 0, 1, [0]), (59, .iload_n 1, 1, [1]), (60, .iconst 2, 1, [0, 2]), (61, .iload_n 3, 1, [3]), (62, .invokevirtual 85, 3, [0, 3, 4, 0, 5, 66, 5, 68, 1, 8, 5, 69, 0, 28]), (65, .iconst 1, 1, [0, 1]), (66, .aload_n 0, 1, [0]), (67, .iload_n 1, 1, [1]), (68, .iconst 1, 1, [0, 1]), (69, .iload_n 2, 1, [2]), (70, .invokevirtual 113, 3, [0, 4, 4, 0, 5, 104, 5, 106, 1, 8, 5, 107, 0, 34]), (73, .iadd, 1, []), (74, .ireturn, 1, [0])]
def gN_steep : List (mv_C H2) := [((0, 0), cN_isPurpose), ((0, 0), cN_in), ((0, 0), cN_isCloth), ((0, 0), cN_sets), ((0, 0), cN_changed)]
def nN_steep : List (mv_MD × Bool) := [(mdN_isPurpose, false), (mdN_in, false), (mdN_isCloth, true), (mdN_sets, true), (mdN_changed, true)]
def tN_hang : List mv_E := [(0, .aload_n 0, 1, [0]), (1, .iload_n 1, 1, [1]), (2, .invokevirtual 96, 3, [0, 0, 2, 0, 5, 74, 5, 76, 1, 8, 5, 77, 0, 29]), (5, .ifCond .eq 23, 3, [28]), (8, .iload_n 2, 1, [2]), (9, .i2l, 1, []), (10, .lconst 0, 1, [0, 0]), (11, .lconst 1, 1, [0, 1]), (12, .invokestatic 59, 3, [0, 1, 3, 1, 5, 19, 5, 20, 1, 8, 5, 21]), (15, .ifCond .eq 13, 3, [28]), (18, .aload_n 0, 1, [0]), (19, .iload_n 1, 1, [1]), (20, .iconst 3, 1, [0, 3]), (21, .iload_n 2, 1, [2]), (22, .invokevirtual 113, 3, [0, 2, 4, 0, 5, 104, 5, 106, 1, 8, 5, 107, 0, 34]), (25, .goto 4, 3, [29]), (28, .iconst (-1), 1, [1, 1]), (29, .ireturn, 1, [0])]
def gN_hang : List (mv_C H2) := [((0, 0), cN_isCloth), ((0, 0), cN_in), ((0, 0), cN_changed)]
def nN_hang : List (mv_MD × Bool) := [(mdN_isCloth, true), (mdN_in, false), (mdN_changed, true)]
def tN_dips : List mv_E := [(0, .aload_n 0, 1, [0]), (1, .getfield 16, 3, [8, 2, 1, 0, 4, 180]), (4, .bipush 7, 2, [0, 7]), (6, .iload_n 2, 1, [2]), (7, .iadd, 1, []), (8, .iaload, 1, []), (9, .istore_n 3, 1, [3]), (10, .aload_n 0, 1, [0]), (11, .getfield 16, 3, [8, 2, 1, 0, 4, 180]), (14, .bipush 15, 2, [0, 15]), (16, .iload_n 2, 1, [2]), (17, .iadd, 1, []), (18, .iaload, 1, []), (19, .istore 4, 2, [4]), (21, .aload_n 0, 1, [0]), (22, .iload_n 1, 1, [1]), (23, .iconst 2, 1, [0, 2]), (24, .invokevirtual 82, 3, [0, 0, 3, 0, 5, 79, 5, 81, 1, 8, 5, 82, 0, 30]), (27, .istore 5, 2, [5]), (29, .aload_n 0, 1, [0]), (30, .iload_n 1, 1, [1]), (31, .iconst 1, 1, [0, 1]), (32, .invokevirtual 82, 3, [0, 0, 3, 0, 5, 79, 5, 81, 1, 8, 5, 82, 0, 30]), (35, .iconst (-1), 1, [1, 1]), (36, .if_icmp .eq 13, 3, [49]), (39, .aload_n 0, 1, [0]), (40, .iload_n 1, 1, [1]), (41, .iconst 1, 1, [0, 1]), (42, .invokevirtual 82, 3, [0, 0, 3, 0, 5, 79, 5, 81, 1, 8, 5, 82, 0, 30]), (45, .iload_n 3, 1, [3]), (46, .if_icmp .ne 28, 3, [74]), (49, .aload_n 0, 1, [0]), (50, .iload_n 1, 1, [1]), (51, .iconst 1, 1, [0, 1]), (52, .iload_n 3, 1, [3]), (53, .invokevirtual 85, 3, [0, 1, 4, 0, 5, 66, 5, 68, 1, 8, 5, 69, 0, 28]), (56, .aload_n 0, 1, [0]), (57, .iload_n 1, 1, [1]), (58, .iload 5, 2, [5]), (60, .aload_n 0, 1, [0]), (61, .iload_n 1, 1, [1]), (62, .iload 4, 2, [4]), (64, .invokevirtual 103, 3, [0, 2, 3, 0, 5, 88, 5, 90, 1, 8, 5, 91, 0, 31]), (67, .iadd, 1, []), (68, .invokevirtual 130, 3, [0, 3, 3, 0, 5, 128, 5, 130, 1, 8, 5, 131, 0, 36]), (71, .goto 37, 3, [108]), (74, .iload 5, 2, [5]), (76, .aload_n 0, 1, [0]), (77, .iload_n 1, 1, [1]), (78, .iload 4, 2, [4]), (80, .invokevirtual 106, 3, [0, 4, 3, 0, 5, 92, 5, 94, 1, 8, 5, 95, 0, 32]), (83, .isub, 1, []), (84, .istore 6, 2, [6]), (86, .iload 6, 2, [6]), (88, .ifCond .ge 10, 3, [98]), (91, .aload_n 0, 1, [0]), (92, .iload_n 1, 1, [1]), (93, .iconst 1, 1, [0, 1]), (94, .iload_n 3, 1, [3]), (95, .invokevirtual 85, 3, [0, 1, 4, 0, 5, 66, 5, 68, 1, 8, 5, 69, 0, 28]), (98, .aload_n 0, 1, [0]), (99, .iload_n 1, 1, [1]), (100, .iload 6, 2, [6]), (102, .invokestatic 134, 3, [3, 5, 138, 5, 139, 1, 14, 5, 140]), (105, .invokevirtual 130, 3, [0, 3, 3, 0, 5, 128, 5, 130, 1, 8, 5, 131, 0, 36]), (108, .aload_n 0, 1, [0]), (109, .iload_n 1, 1, [1]), (110, .iconst 4, 1, [0, 4]), (111, .sipush 9999, 3, [0, 9999]), (114, .aload_n 0, 1, [0]), (115, .iload_n 1, 1, [1]), (116, .iconst 4, 1, [0, 4]), (117, .invokevirtual 82, 3, [0, 0, 3, 0, 5, 79, 5, 81, 1, 8, 5, 82, 0, 30]), (120, .iconst 1, 1, [0, 1]), (121, .iadd, 1, []), (122, .invokestatic 117, 3, [2, 5, 132, 5, 133, 1, 14, 5, 134]), (125, .invokevirtual 85, 3, [0, 1, 4, 0, 5, 66, 5, 68, 1, 8, 5, 69, 0, 28]), (128, .aload_n 0, 1, [0]), (129, .getfield 16, 3, [8, 2, 1, 0, 4, 180]), (132, .bipush 15, 2, [0, 15]), (134, .iload_n 2, 1, [2]), (135, .iadd, 1, []), (136, .iconst 0, 1, [0, 0]), (137, .iload 4, 2, [4]), (139, .iconst 1, 1, [0, 1]), (140, .isub, 1, []), (141, .invokestatic 122, 3, [1, 5, 135, 5, 136, 1, 14, 5, 137]), (144, .iastore, 1, []), (145, .return_, 1, [])]
def gN_dips : List (mv_C H2) := [((0, 0), cN_its), ((0, 0), cN_sets), ((0, 0), cN_takesOf), ((0, 0), cN_isDeep), ((0, 0), cN_fightsOf)]
def nN_dips : List (mv_MD × Bool) := [(mdN_its, true), (mdN_sets, true), (mdN_takesOf, true), (mdN_isDeep, true), (mdN_fightsOf, true)]
def tN_dip : List mv_E := [(0, .aload_n 0, 1, [0]), (1, .iload_n 1, 1, [1]), (2, .invokevirtual 96, 3, [0, 0, 2, 0, 5, 74, 5, 76, 1, 8, 5, 77, 0, 29]), (5, .ifCond .eq 10, 3, [15]), (8, .iload_n 2, 1, [2]), (9, .invokestatic 75, 3, [0, 1, 1, 1, 5, 34, 5, 35, 1, 8, 5, 36]), (12, .ifCond .ne 5, 3, [17]), (15, .iconst (-1), 1, [1, 1]), (16, .ireturn, 1, [0]), (17, .aload_n 0, 1, [0]), (18, .iload_n 1, 1, [1]), (19, .iload_n 2, 1, [2]), (20, .invokevirtual 137, 3, [0, 2, 3, 0, 5, 124, 5, 126, 1, 8, 5, 127, 0, 35]), (23, .iconst 1, 1, [0, 1]), (24, .aload_n 0, 1, [0]), (25, .iload_n 1, 1, [1]), (26, .iconst 1, 1, [0, 1]), (27, .invokevirtual 82, 3, [0, 3, 3, 0, 5, 79, 5, 81, 1, 8, 5, 82, 0, 30]), (30, .iadd, 1, []), (31, .ireturn, 1, [0])]
def gN_dip : List (mv_C H2) := [((0, 0), cN_isCloth), ((0, 0), cN_isVat), ((0, 0), cN_dips), ((0, 0), cN_its)]
def nN_dip : List (mv_MD × Bool) := [(mdN_isCloth, true), (mdN_isVat, false), (mdN_dips, true), (mdN_its, true)]
def tN_aDay : List mv_E := [(0, .aload_n 0, 1, [0]), (1, .getfield 16, 3, [8, 2, 1, 0, 4, 180]), (4, .bipush 23, 2, [0, 23]), (6, .aload_n 0, 1, [0]), (7, .getfield 16, 3, [8, 2, 1, 0, 4, 180]), (10, .iconst 4, 1, [0, 4]), (11, .iaload, 1, []), (12, .bipush 6, 2, [0, 6]), (14, .irem, 1, []), (15, .iadd, 1, []), (16, .iaload, 1, []), (17, .istore_n 1, 1, [1]), (18, .iconst 0, 1, [0, 0]), (19, .istore_n 2, 1, [2]), (20, .iload_n 1, 1, [1]), (21, .ifCond .lt 35, 3, [56]), (24, .iload_n 2, 1, [2]), (25, .aload_n 0, 1, [0]), (26, .getfield 16, 3, [8, 2, 1, 0, 4, 180]), (29, .bipush 6, 2, [0, 6]), (31, .iaload, 1, []), (32, .if_icmp .ge 24, 3, [56]), (35, .aload_n 0, 1, [0]), (36, .iload_n 2, 1, [2]), (37, .iconst 3, 1, [0, 3]), (38, .invokevirtual 82, 3, [0, 0, 3, 0, 5, 79, 5, 81, 1, 8, 5, 82, 0, 30]), (41, .ifCond .ne 9, 3, [50]), (44, .aload_n 0, 1, [0]), (45, .iload_n 2, 1, [2]), (46, .iload_n 1, 1, [1]), (47, .invokevirtual 137, 3, [0, 1, 3, 0, 5, 124, 5, 126, 1, 8, 5, 127, 0, 35]), (50, .iinc 2 1, 3, [2, 0, 1]), (53, .goto (-33), 3, [20]), (56, .iconst 0, 1, [0, 0]), (57, .istore_n 2, 1, [2]), (58, .iload_n 2, 1, [2]), (59, .aload_n 0, 1, [0]), (60, .getfield 16, 3, [8, 2, 1, 0, 4, 180]), (63, .bipush 6, 2, [0, 6]), (65, .iaload, 1, []), (66, .if_icmp .ge 45, 3, [111]), (69, .aload_n 0, 1, [0]), (70, .iload_n 2, 1, [2]), (71, .iconst 3, 1, [0, 3]), (72, .invokevirtual 82, 3, [0, 0, 3, 0, 5, 79, 5, 81, 1, 8, 5, 82, 0, 30]), (75, .iconst 1, 1, [0, 1]), (76, .if_icmp .ne 29, 3, [105]), (79, .aload_n 0, 1, [0]), (80, .iload_n 2, 1, [2]), (81, .iconst 1, 1, [0, 1]), (82, .invokevirtual 82, 3, [0, 0, 3, 0, 5, 79, 5, 81, 1, 8, 5, 82, 0, 30]), (85, .ifCond .lt 20, 3, [105]), (88, .aload_n 0, 1, [0]), (89, .iload_n 2, 1, [2]), (90, .aload_n 0, 1, [0]), (91, .iload_n 2, 1, [2]), (92, .iconst 2, 1, [0, 2]), (93, .invokevirtual 82, 3, [0, 0, 3, 0, 5, 79, 5, 81, 1, 8, 5, 82, 0, 30]), (96, .aload_n 0, 1, [0]), (97, .iload_n 2, 1, [2]), (98, .invokevirtual 109, 3, [0, 2, 2, 0, 5, 96, 5, 98, 1, 8, 5, 99, 0, 33]), (101, .isub, 1, []), (102, .invokevirtual 130, 3, [0, 3, 3, 0, 5, 128, 5, 130, 1, 8, 5, 131, 0, 36]), (105, .iinc 2 1, 3, [2, 0, 1]), (108, .goto (-50), 3, [58]), (111, .iconst 0, 1, [0, 0]), (112, .istore_n 2, 1, [2]), (113, .iload_n 2, 1, [2]), (114, .bipush 8, 2, [0, 8]), (116, .if_icmp .ge 34, 3, [150]), (119, .aload_n 0, 1, [0]), (120, .getfield 16, 3, [8, 2, 1, 0, 4, 180]), (123, .bipush 15, 2, [0, 15]), (125, .iload_n 2, 1, [2]), (126, .iadd, 1, []), (127, .bipush 9, 2, [0, 9]), (129, .aload_n 0, 1, [0]), (130, .getfield 16, 3, [8, 2, 1, 0, 4, 180]), (133, .bipush 15, 2, [0, 15]), (135, .iload_n 2, 1, [2]), (136, .iadd, 1, []), (137, .iaload, 1, []), (138, .iconst 1, 1, [0, 1]), (139, .iadd, 1, []), (140, .invokestatic 117, 3, [2, 5, 132, 5, 133, 1, 14, 5, 134]), (143, .iastore, 1, []), (144, .iinc 2 1, 3, [2, 0, 1]), (147, .goto (-34), 3, [113]), (150, .aload_n 0, 1, [0]), (151, .getfield 16, 3, [8, 2, 1, 0, 4, 180]), (154, .iconst 4, 1, [0, 4]), (155, .dup2, 1, []), (156, .iaload, 1, []), (157, .iconst 1, 1, [0, 1]), (158, .iadd, 1, []), (159, .iastore, 1, []), (160, .return_, 1, [])]
def gN_aDay : List (mv_C H2) := [((0, 0), cN_its), ((0, 0), cN_dips), ((0, 0), cN_fadesOf), ((0, 0), cN_isDeep)]
def nN_aDay : List (mv_MD × Bool) := [(mdN_its, true), (mdN_dips, true), (mdN_fadesOf, true), (mdN_isDeep, true)]
def tN_goes : List mv_E := [(0, .iconst 0, 1, [0, 0]), (1, .istore_n 2, 1, [2]), (2, .iload_n 2, 1, [2]), (3, .iload_n 1, 1, [1]), (4, .if_icmp .ge 13, 3, [17]), (7, .aload_n 0, 1, [0]), (8, .invokevirtual 140, 3, [0, 0, 1, 0, 5, 150, 5, 152, 1, 8, 5, 153, 0, 38]), (11, .iinc 2 1, 3, [2, 0, 1]), (14, .goto (-12), 3, [2]), (17, .return_, 1, [])]
def gN_goes : List (mv_C H2) := [((0, 0), cN_aDay)]
def nN_goes : List (mv_MD × Bool) := [(mdN_aDay, true)]
def tN_depths : List mv_E := [(0, .iconst 0, 1, [0, 0]), (1, .istore_n 1, 1, [1]), (2, .iconst 0, 1, [0, 0]), (3, .istore_n 2, 1, [2]), (4, .iload_n 2, 1, [2]), (5, .aload_n 0, 1, [0]), (6, .getfield 16, 3, [8, 2, 1, 0, 4, 180]), (9, .bipush 6, 2, [0, 6]), (11, .iaload, 1, []), (12, .if_icmp .ge 18, 3, [30]), (15, .iload_n 1, 1, [1]), (16, .aload_n 0, 1, [0]), (17, .iload_n 2, 1, [2]), (18, .iconst 2, 1, [0, 2]), (19, .invokevirtual 82, 3, [0, 0, 3, 0, 5, 79, 5, 81, 1, 8, 5, 82, 0, 30]), (22, .iadd, 1, []), (23, .istore_n 1, 1, [1]), (24, .iinc 2 1, 3, [2, 0, 1]), (27, .goto (-23), 3, [4]), (30, .iload_n 1, 1, [1]), (31, .ireturn, 1, [0])]
def gN_depths : List (mv_C H2) := [((0, 0), cN_its)]
def nN_depths : List (mv_MD × Bool) := [(mdN_its, true)]
def tN_days : List mv_E := [(0, .iload_n 1, 1, [1]), (1, .i2l, 1, []), (2, .lconst 1, 1, [0, 1]), (3, .ldc2_w 143, 3, [0, 60, 5, 145]), (6, .invokestatic 59, 3, [0, 0, 3, 1, 5, 19, 5, 20, 1, 8, 5, 21]), (9, .ifCond .ne 5, 3, [14]), (12, .iconst (-1), 1, [1, 1]), (13, .ireturn, 1, [0]), (14, .aload_n 0, 1, [0]), (15, .iload_n 1, 1, [1]), (16, .invokevirtual 145, 3, [0, 1, 2, 0, 5, 146, 5, 148, 1, 8, 5, 149, 0, 37]), (19, .aload_n 0, 1, [0]), (20, .invokevirtual 148, 3, [0, 2, 1, 0, 5, 154, 5, 156, 1, 8, 5, 157, 0, 39]), (23, .ireturn, 1, [0])]
def gN_days : List (mv_C H2) := [((0, 0), cN_in), ((0, 0), cN_goes), ((0, 0), cN_depths)]
def nN_days : List (mv_MD × Bool) := [(mdN_in, false), (mdN_goes, true), (mdN_depths, true)]
def tN_seed : List mv_E := [(0, .aload_n 0, 1, [0]), (1, .iconst 5, 1, [0, 5]), (2, .iload_n 1, 1, [1]), (3, .invokevirtual 71, 3, [0, 0, 3, 0, 5, 22, 5, 24, 1, 8, 5, 25, 0, 26]), (6, .ireturn, 1, [0])]
def gN_seed : List (mv_C H2) := [((0, 0), cN_becomes)]
def nN_seed : List (mv_MD × Bool) := [(mdN_becomes, true)]
def tN_draw : List mv_E := [(0, .aload_n 0, 1, [0]), (1, .getfield 16, 3, [8, 2, 1, 0, 4, 180]), (4, .iconst 5, 1, [0, 5]), (5, .aload_n 0, 1, [0]), (6, .getfield 16, 3, [8, 2, 1, 0, 4, 180]), (9, .iconst 5, 1, [0, 5]), (10, .iaload, 1, []), (11, .ldc 152, 2, [0, 0, 1103515245, 5, 174]), (13, .imul, 1, []), (14, .sipush 12345, 3, [0, 12345]), (17, .iadd, 1, []), (18, .iastore, 1, []), (19, .aload_n 0, 1, [0]), (20, .getfield 16, 3, [8, 2, 1, 0, 4, 180]), (23, .iconst 5, 1, [0, 5]), (24, .iaload, 1, []), (25, .bipush 16, 2, [0, 16]), (27, .iushr, 1, []), (28, .ireturn, 1, [0])]
def gN_draw : List (mv_C H2) := []
def nN_draw : List (mv_MD × Bool) := []
def tN_byDraws : List mv_E := [(0, .aload_n 0, 1, [0]), (1, .getfield 16, 3, [8, 2, 1, 0, 4, 180]), (4, .bipush 6, 2, [0, 6]), (6, .iaload, 1, []), (7, .ifCond .le 44, 3, [51]), (10, .aload_n 0, 1, [0]), (11, .invokevirtual 153, 3, [0, 0, 1, 0, 5, 170, 5, 172, 1, 8, 5, 173, 0, 41]), (14, .aload_n 0, 1, [0]), (15, .getfield 16, 3, [8, 2, 1, 0, 4, 180]), (18, .bipush 6, 2, [0, 6]), (20, .iaload, 1, []), (21, .irem, 1, []), (22, .istore_n 1, 1, [1]), (23, .aload_n 0, 1, [0]), (24, .invokevirtual 153, 3, [0, 0, 1, 0, 5, 170, 5, 172, 1, 8, 5, 173, 0, 41]), (27, .bipush 100, 2, [0, 100]), (29, .irem, 1, []), (30, .aload_n 0, 1, [0]), (31, .getfield 16, 3, [8, 2, 1, 0, 4, 180]), (34, .iconst 3, 1, [0, 3]), (35, .iaload, 1, []), (36, .if_icmp .ge 15, 3, [51]), (39, .aload_n 0, 1, [0]), (40, .iload_n 1, 1, [1]), (41, .aload_n 0, 1, [0]), (42, .invokevirtual 153, 3, [0, 0, 1, 0, 5, 170, 5, 172, 1, 8, 5, 173, 0, 41]), (45, .bipush 8, 2, [0, 8]), (47, .irem, 1, []), (48, .invokevirtual 137, 3, [0, 1, 3, 0, 5, 124, 5, 126, 1, 8, 5, 127, 0, 35]), (51, .aload_n 0, 1, [0]), (52, .invokevirtual 140, 3, [0, 2, 1, 0, 5, 150, 5, 152, 1, 8, 5, 153, 0, 38]), (55, .return_, 1, [])]
def gN_byDraws : List (mv_C H2) := [((0, 0), cN_draw), ((0, 0), cN_dips), ((0, 0), cN_aDay)]
def nN_byDraws : List (mv_MD × Bool) := [(mdN_draw, true), (mdN_dips, true), (mdN_aDay, true)]
def tN_day : List mv_E := [(0, .aload_n 0, 1, [0]), (1, .invokevirtual 156, 3, [0, 0, 1, 0, 5, 166, 5, 168, 1, 8, 5, 169, 0, 40]), (4, .aload_n 0, 1, [0]), (5, .invokevirtual 148, 3, [0, 1, 1, 0, 5, 154, 5, 156, 1, 8, 5, 157, 0, 39]), (8, .ireturn, 1, [0])]
def gN_day : List (mv_C H2) := [((0, 0), cN_byDraws), ((0, 0), cN_depths)]
def nN_day : List (mv_MD × Bool) := [(mdN_byDraws, true), (mdN_depths, true)]
def tN_luck : List mv_E := [(0, .iload_n 1, 1, [1]), (1, .i2l, 1, []), (2, .lconst 1, 1, [0, 1]), (3, .ldc2_w 159, 3, [0, 30, 5, 179]), (6, .invokestatic 59, 3, [0, 0, 3, 1, 5, 19, 5, 20, 1, 8, 5, 21]), (9, .ifCond .ne 5, 3, [14]), (12, .iconst (-1), 1, [1, 1]), (13, .ireturn, 1, [0]), (14, .aload_n 0, 1, [0]), (15, .invokevirtual 161, 3, [0, 1, 1, 0, 5, 180, 5, 182, 1, 8, 5, 183, 0, 42]), (18, .aload_n 0, 1, [0]), (19, .invokevirtual 140, 3, [0, 2, 1, 0, 5, 150, 5, 152, 1, 8, 5, 153, 0, 38]), (22, .aload_n 0, 1, [0]), (23, .invokevirtual 148, 3, [0, 3, 1, 0, 5, 154, 5, 156, 1, 8, 5, 157, 0, 39]), (26, .istore_n 2, 1, [2]), (27, .aload_n 0, 1, [0]), (28, .invokevirtual 164, 3, [0, 4, 1, 0, 5, 187, 5, 189, 1, 8, 5, 190, 0, 43]), (31, .aload_n 0, 1, [0]), (32, .getfield 16, 3, [8, 2, 1, 0, 4, 180]), (35, .iconst 5, 1, [0, 5]), (36, .iaload, 1, []), (37, .istore_n 3, 1, [3]), (38, .iconst 0, 1, [0, 0]), (39, .istore 4, 2, [4]), (41, .iconst 0, 1, [0, 0]), (42, .istore 5, 2, [5]), (44, .iload 5, 2, [5]), (46, .iload_n 1, 1, [1]), (47, .if_icmp .ge 49, 3, [96]), (50, .aload_n 0, 1, [0]), (51, .getfield 16, 3, [8, 2, 1, 0, 4, 180]), (54, .iconst 5, 1, [0, 5]), (55, .iload_n 3, 1, [3]), (56, .iastore, 1, []), (57, .aload_n 0, 1, [0]), (58, .invokevirtual 156, 3, [0, 5, 1, 0, 5, 166, 5, 168, 1, 8, 5, 169, 0, 40]), (61, .aload_n 0, 1, [0]), (62, .getfield 16, 3, [8, 2, 1, 0, 4, 180]), (65, .iconst 5, 1, [0, 5]), (66, .iaload, 1, []), (67, .istore_n 3, 1, [3]), (68, .iload 4, 2, [4]), (70, .aload_n 0, 1, [0]), (71, .invokevirtual 148, 3, [0, 3, 1, 0, 5, 154, 5, 156, 1, 8, 5, 157, 0, 39]), (74, .iload_n 2, 1, [2]), (75, .if_icmp .le 7, 3, [82]), (78, .iconst 1, 1, [0, 1]), (79, .goto 4, 3, [83]), (82, .iconst 0, 1, [0, 0]), (83, .iadd, 1, []), (84, .istore 4, 2, [4]), (86, .aload_n 0, 1, [0]), (87, .invokevirtual 164, 3, [0, 4, 1, 0, 5, 187, 5, 189, 1, 8, 5, 190, 0, 43]), (90, .iinc 5 1, 3, [5, 0, 1]), (93, .goto (-49), 3, [44]), (96, .iload 4, 2, [4]), (98, .ireturn, 1, [0])]
def gN_luck : List (mv_C H2) := [((0, 0), cN_in), ((0, 0), cN_lends), ((0, 0), cN_aDay), ((0, 0), cN_depths), ((0, 0), cN_laysBack), ((0, 0), cN_byDraws)]
def nN_luck : List (mv_MD × Bool) := [(mdN_in, false), (mdN_lends, true), (mdN_aDay, true), (mdN_depths, true), (mdN_laysBack, true), (mdN_byDraws, true)]
def tN_hungSet : List mv_E := [(0, .iconst 0, 1, [0, 0]), (1, .istore_n 1, 1, [1]), (2, .iconst 0, 1, [0, 0]), (3, .istore_n 2, 1, [2]), (4, .iload_n 2, 1, [2]), (5, .aload_n 0, 1, [0]), (6, .getfield 16, 3, [8, 2, 1, 0, 4, 180]), (9, .bipush 6, 2, [0, 6]), (11, .iaload, 1, []), (12, .if_icmp .ge 20, 3, [32]), (15, .iload_n 1, 1, [1]), (16, .aload_n 0, 1, [0]), (17, .iload_n 2, 1, [2]), (18, .iconst 3, 1, [0, 3]), (19, .invokevirtual 82, 3, [0, 0, 3, 0, 5, 79, 5, 81, 1, 8, 5, 82, 0, 30]), (22, .iload_n 2, 1, [2]), (23, .ishl, 1, []), (24, .ior, 1, []), (25, .istore_n 1, 1, [1]), (26, .iinc 2 1, 3, [2, 0, 1]), (29, .goto (-25), 3, [4]), (32, .iload_n 1, 1, [1]), (33, .ireturn, 1, [0])]
def gN_hungSet : List (mv_C H2) := [((0, 0), cN_its)]
def nN_hungSet : List (mv_MD × Bool) := [(mdN_its, true)]
def tN_aboutSet : List mv_E := [(0, .iconst 0, 1, [0, 0]), (1, .istore_n 1, 1, [1]), (2, .iconst 0, 1, [0, 0]), (3, .istore_n 2, 1, [2]), (4, .iload_n 2, 1, [2]), (5, .aload_n 0, 1, [0]), (6, .getfield 16, 3, [8, 2, 1, 0, 4, 180]), (9, .bipush 6, 2, [0, 6]), (11, .iaload, 1, []), (12, .if_icmp .ge 28, 3, [40]), (15, .iload_n 1, 1, [1]), (16, .aload_n 0, 1, [0]), (17, .iload_n 2, 1, [2]), (18, .iconst 1, 1, [0, 1]), (19, .invokevirtual 82, 3, [0, 0, 3, 0, 5, 79, 5, 81, 1, 8, 5, 82, 0, 30]), (22, .ifCond .lt 9, 3, [31]), (25, .iconst 1, 1, [0, 1]), (26, .iload_n 2, 1, [2]), (27, .ishl, 1, []), (28, .goto 4, 3, [32]), (31, .iconst 0, 1, [0, 0]), (32, .ior, 1, []), (33, .istore_n 1, 1, [1]), (34, .iinc 2 1, 3, [2, 0, 1]), (37, .goto (-33), 3, [4]), (40, .iload_n 1, 1, [1]), (41, .ireturn, 1, [0])]
def gN_aboutSet : List (mv_C H2) := [((0, 0), cN_its)]
def nN_aboutSet : List (mv_MD × Bool) := [(mdN_its, true)]
def tN_isAtOdds : List mv_E := [(0, .aload_n 0, 1, [0]), (1, .iload_n 1, 1, [1]), (2, .iconst 3, 1, [0, 3]), (3, .invokevirtual 82, 3, [0, 0, 3, 0, 5, 79, 5, 81, 1, 8, 5, 82, 0, 30]), (6, .ifCond .ne 16, 3, [22]), (9, .aload_n 0, 1, [0]), (10, .iload_n 2, 1, [2]), (11, .iconst 3, 1, [0, 3]), (12, .invokevirtual 82, 3, [0, 0, 3, 0, 5, 79, 5, 81, 1, 8, 5, 82, 0, 30]), (15, .ifCond .ne 7, 3, [22]), (18, .iconst 1, 1, [0, 1]), (19, .goto 4, 3, [23]), (22, .iconst 0, 1, [0, 0]), (23, .istore_n 3, 1, [3]), (24, .iload_n 3, 1, [3]), (25, .ifCond .eq 40, 3, [65]), (28, .aload_n 0, 1, [0]), (29, .iload_n 1, 1, [1]), (30, .iconst 1, 1, [0, 1]), (31, .invokevirtual 82, 3, [0, 0, 3, 0, 5, 79, 5, 81, 1, 8, 5, 82, 0, 30]), (34, .ifCond .lt 31, 3, [65]), (37, .aload_n 0, 1, [0]), (38, .iload_n 2, 1, [2]), (39, .iconst 1, 1, [0, 1]), (40, .invokevirtual 82, 3, [0, 0, 3, 0, 5, 79, 5, 81, 1, 8, 5, 82, 0, 30]), (43, .ifCond .lt 22, 3, [65]), (46, .aload_n 0, 1, [0]), (47, .iload_n 1, 1, [1]), (48, .iconst 1, 1, [0, 1]), (49, .invokevirtual 82, 3, [0, 0, 3, 0, 5, 79, 5, 81, 1, 8, 5, 82, 0, 30]), (52, .aload_n 0, 1, [0]), (53, .iload_n 2, 1, [2]), (54, .iconst 1, 1, [0, 1]), (55, .invokevirtual 82, 3, [0, 0, 3, 0, 5, 79, 5, 81, 1, 8, 5, 82, 0, 30]), (58, .if_icmp .eq 7, 3, [65]), (61, .iconst 1, 1, [0, 1]), (62, .goto 4, 3, [66]), (65, .iconst 0, 1, [0, 0]), (66, .ireturn, 1, [1])]
def gN_isAtOdds : List (mv_C H2) := [((0, 0), cN_its)]
def nN_isAtOdds : List (mv_MD × Bool) := [(mdN_its, true)]
def tN_oddsAmong : List mv_E := [(0, .iconst 0, 1, [0, 0]), (1, .istore_n 1, 1, [1]), (2, .iconst 0, 1, [0, 0]), (3, .istore_n 2, 1, [2]), (4, .iload_n 2, 1, [2]), (5, .aload_n 0, 1, [0]), (6, .getfield 16, 3, [8, 2, 1, 0, 4, 180]), (9, .bipush 6, 2, [0, 6]), (11, .iaload, 1, []), (12, .if_icmp .ge 39, 3, [51]), (15, .iconst 0, 1, [0, 0]), (16, .istore_n 3, 1, [3]), (17, .iload_n 3, 1, [3]), (18, .iload_n 2, 1, [2]), (19, .if_icmp .ge 26, 3, [45]), (22, .iload_n 1, 1, [1]), (23, .aload_n 0, 1, [0]), (24, .iload_n 2, 1, [2]), (25, .iload_n 3, 1, [3]), (26, .invokevirtual 167, 3, [0, 0, 3, 0, 5, 207, 5, 209, 1, 8, 5, 210, 0, 47]), (29, .ifCond .eq 7, 3, [36]), (32, .iconst 1, 1, [0, 1]), (33, .goto 4, 3, [37]), (36, .iconst 0, 1, [0, 0]), (37, .iadd, 1, []), (38, .istore_n 1, 1, [1]), (39, .iinc 3 1, 3, [3, 0, 1]), (42, .goto (-25), 3, [17]), (45, .iinc 2 1, 3, [2, 0, 1]), (48, .goto (-44), 3, [4]), (51, .iload_n 1, 1, [1]), (52, .ireturn, 1, [0])]
def gN_oddsAmong : List (mv_C H2) := [((0, 0), cN_isAtOdds)]
def nN_oddsAmong : List (mv_MD × Bool) := [(mdN_isAtOdds, true)]
def tN_state : List mv_E := [(0, .iload_n 1, 1, [1]), (1, .tableswitch 86 0 5 #[39, 46, 66, 71, 76, 81], 39, [0, 87, 40, 47, 67, 72, 77, 82]), (40, .aload_n 0, 1, [0]), (41, .getfield 16, 3, [8, 2, 1, 0, 4, 180]), (44, .iconst 4, 1, [0, 4]), (45, .iaload, 1, []), (46, .ireturn, 1, [0]), (47, .iconst 1, 1, [0, 1]), (48, .aload_n 0, 1, [0]), (49, .getfield 16, 3, [8, 2, 1, 0, 4, 180]), (52, .bipush 23, 2, [0, 23]), (54, .aload_n 0, 1, [0]), (55, .getfield 16, 3, [8, 2, 1, 0, 4, 180]), (58, .iconst 4, 1, [0, 4]), (59, .iaload, 1, []), (60, .bipush 6, 2, [0, 6]), (62, .irem, 1, []), (63, .iadd, 1, []), (64, .iaload, 1, []), (65, .iadd, 1, []), (66, .ireturn, 1, [0]), (67, .aload_n 0, 1, [0]), (68, .invokevirtual 171, 3, [0, 0, 1, 0, 5, 195, 5, 197, 1, 8, 5, 198, 0, 44]), (71, .ireturn, 1, [0]), (72, .aload_n 0, 1, [0]), (73, .invokevirtual 174, 3, [0, 1, 1, 0, 5, 199, 5, 201, 1, 8, 5, 202, 0, 45]), (76, .ireturn, 1, [0]), (77, .aload_n 0, 1, [0]), (78, .invokevirtual 148, 3, [0, 2, 1, 0, 5, 154, 5, 156, 1, 8, 5, 157, 0, 39]), (81, .ireturn, 1, [0]), (82, .aload_n 0, 1, [0]), (83, .invokevirtual 177, 3, [0, 3, 1, 0, 5, 203, 5, 205, 1, 8, 5, 206, 0, 46]), (86, .ireturn, 1, [0]), (87, .iconst (-1), 1, [1, 1]), (88, .ireturn, 1, [0])]
def gN_state : List (mv_C H2) := [((0, 0), cN_hungSet), ((0, 0), cN_aboutSet), ((0, 0), cN_depths), ((0, 0), cN_oddsAmong)]
def nN_state : List (mv_MD × Bool) := [(mdN_hungSet, true), (mdN_aboutSet, true), (mdN_depths, true), (mdN_oddsAmong, true)]
def tN_isAhead : List mv_E := [(0, .iload_n 0, 1, [0]), (1, .i2l, 1, []), (2, .lconst 0, 1, [0, 0]), (3, .ldc2_w 143, 3, [0, 60, 5, 145]), (6, .invokestatic 59, 3, [0, 0, 3, 1, 5, 19, 5, 20, 1, 8, 5, 21]), (9, .ireturn, 1, [1])]
def gN_isAhead : List (mv_C H2) := [((0, 0), cN_in)]
def nN_isAhead : List (mv_MD × Bool) := [(mdN_in, false)]
def tN_isSoon : List mv_E := [(0, .iload_n 0, 1, [0]), (1, .i2l, 1, []), (2, .lconst 1, 1, [0, 1]), (3, .ldc2_w 180, 3, [0, 40, 6, 21]), (6, .invokestatic 59, 3, [0, 0, 3, 1, 5, 19, 5, 20, 1, 8, 5, 21]), (9, .ireturn, 1, [1])]
def gN_isSoon : List (mv_C H2) := [((0, 0), cN_in)]
def nN_isSoon : List (mv_MD × Bool) := [(mdN_in, false)]
def tN_behind : List mv_E := [(0, .aload_n 0, 1, [0]), (1, .iload_n 3, 1, [3]), (2, .invokevirtual 145, 3, [0, 0, 2, 0, 5, 146, 5, 148, 1, 8, 5, 149, 0, 37]), (5, .aload_n 0, 1, [0]), (6, .iload_n 1, 1, [1]), (7, .iload_n 2, 1, [2]), (8, .invokevirtual 82, 3, [0, 1, 3, 0, 5, 79, 5, 81, 1, 8, 5, 82, 0, 30]), (11, .istore 4, 2, [4]), (13, .aload_n 0, 1, [0]), (14, .invokevirtual 164, 3, [0, 2, 1, 0, 5, 187, 5, 189, 1, 8, 5, 190, 0, 43]), (17, .iload 4, 2, [4]), (19, .ireturn, 1, [0])]
def gN_behind : List (mv_C H2) := [((0, 0), cN_goes), ((0, 0), cN_its), ((0, 0), cN_laysBack)]
def nN_behind : List (mv_MD × Bool) := [(mdN_goes, true), (mdN_its, true), (mdN_laysBack, true)]
def tN_gone : List mv_E := [(0, .aload_n 0, 1, [0]), (1, .iload_n 1, 1, [1]), (2, .invokevirtual 96, 3, [0, 0, 2, 0, 5, 74, 5, 76, 1, 8, 5, 77, 0, 29]), (5, .ifCond .eq 10, 3, [15]), (8, .iload_n 2, 1, [2]), (9, .invokestatic 182, 3, [0, 1, 1, 1, 5, 215, 5, 216, 1, 8, 5, 217]), (12, .ifCond .ne 5, 3, [17]), (15, .iconst (-1), 1, [1, 1]), (16, .ireturn, 1, [0]), (17, .aload_n 0, 1, [0]), (18, .invokevirtual 161, 3, [0, 2, 1, 0, 5, 180, 5, 182, 1, 8, 5, 183, 0, 42]), (21, .iconst 1, 1, [0, 1]), (22, .aload_n 0, 1, [0]), (23, .iload_n 1, 1, [1]), (24, .iconst 1, 1, [0, 1]), (25, .iload_n 2, 1, [2]), (26, .invokevirtual 185, 3, [0, 3, 4, 0, 5, 218, 5, 220, 1, 8, 5, 221, 0, 48]), (29, .iadd, 1, []), (30, .ireturn, 1, [0])]
def gN_gone : List (mv_C H2) := [((0, 0), cN_isCloth), ((0, 0), cN_isAhead), ((0, 0), cN_lends), ((0, 0), cN_behind)]
def nN_gone : List (mv_MD × Bool) := [(mdN_isCloth, true), (mdN_isAhead, false), (mdN_lends, true), (mdN_behind, true)]
def tN_depth : List mv_E := [(0, .aload_n 0, 1, [0]), (1, .iload_n 1, 1, [1]), (2, .invokevirtual 96, 3, [0, 0, 2, 0, 5, 74, 5, 76, 1, 8, 5, 77, 0, 29]), (5, .ifCond .eq 10, 3, [15]), (8, .iload_n 2, 1, [2]), (9, .invokestatic 182, 3, [0, 1, 1, 1, 5, 215, 5, 216, 1, 8, 5, 217]), (12, .ifCond .ne 5, 3, [17]), (15, .iconst (-1), 1, [1, 1]), (16, .ireturn, 1, [0]), (17, .aload_n 0, 1, [0]), (18, .invokevirtual 161, 3, [0, 2, 1, 0, 5, 180, 5, 182, 1, 8, 5, 183, 0, 42]), (21, .aload_n 0, 1, [0]), (22, .iload_n 1, 1, [1]), (23, .iconst 2, 1, [0, 2]), (24, .iload_n 2, 1, [2]), (25, .invokevirtual 185, 3, [0, 3, 4, 0, 5, 218, 5, 220, 1, 8, 5, 221, 0, 48]), (28, .ireturn, 1, [0])]
def gN_depth : List (mv_C H2) := [((0, 0), cN_isCloth), ((0, 0), cN_isAhead), ((0, 0), cN_lends), ((0, 0), cN_behind)]
def nN_depth : List (mv_MD × Bool) := [(mdN_isCloth, true), (mdN_isAhead, false), (mdN_lends, true), (mdN_behind, true)]
def tN_firstAbout : List mv_E := [(0, .aload_n 0, 1, [0]), (1, .invokevirtual 161, 3, [0, 0, 1, 0, 5, 180, 5, 182, 1, 8, 5, 183, 0, 42]), (4, .iconst 0, 1, [0, 0]), (5, .istore_n 3, 1, [3]), (6, .iload_n 3, 1, [3]), (7, .bipush 60, 2, [0, 60]), (9, .if_icmp .gt 23, 3, [32]), (12, .aload_n 0, 1, [0]), (13, .iload_n 1, 1, [1]), (14, .iconst 1, 1, [0, 1]), (15, .invokevirtual 82, 3, [0, 1, 3, 0, 5, 79, 5, 81, 1, 8, 5, 82, 0, 30]), (18, .iload_n 2, 1, [2]), (19, .if_icmp .eq 13, 3, [32]), (22, .aload_n 0, 1, [0]), (23, .invokevirtual 140, 3, [0, 2, 1, 0, 5, 150, 5, 152, 1, 8, 5, 153, 0, 38]), (26, .iinc 3 1, 3, [3, 0, 1]), (29, .goto (-23), 3, [6]), (32, .aload_n 0, 1, [0]), (33, .invokevirtual 164, 3, [0, 3, 1, 0, 5, 187, 5, 189, 1, 8, 5, 190, 0, 43]), (36, .iload_n 3, 1, [3]), (37, .bipush 60, 2, [0, 60]), (39, .if_icmp .gt 7, 3, [46]), (42, .iload_n 3, 1, [3]), (43, .goto 5, 3, [48]), (46, .bipush (-3), 2, [1, 3]), (48, .ireturn, 1, [0])]
def gN_firstAbout : List (mv_C H2) := [((0, 0), cN_lends), ((0, 0), cN_its), ((0, 0), cN_aDay), ((0, 0), cN_laysBack)]
def nN_firstAbout : List (mv_MD × Bool) := [(mdN_lends, true), (mdN_its, true), (mdN_aDay, true), (mdN_laysBack, true)]
def tN_comes : List mv_E := [(0, .aload_n 0, 1, [0]), (1, .iload_n 1, 1, [1]), (2, .invokevirtual 96, 3, [0, 0, 2, 0, 5, 74, 5, 76, 1, 8, 5, 77, 0, 29]), (5, .ifCond .eq 19, 3, [24]), (8, .iload_n 2, 1, [2]), (9, .invokestatic 125, 3, [0, 1, 1, 1, 5, 112, 5, 113, 1, 8, 5, 114]), (12, .ifCond .eq 12, 3, [24]), (15, .aload_n 0, 1, [0]), (16, .iload_n 1, 1, [1]), (17, .iload_n 2, 1, [2]), (18, .invokevirtual 188, 3, [0, 2, 3, 0, 5, 230, 5, 232, 1, 8, 5, 233, 0, 49]), (21, .goto 4, 3, [25]), (24, .iconst (-1), 1, [1, 1]), (25, .ireturn, 1, [0])]
def gN_comes : List (mv_C H2) := [((0, 0), cN_isCloth), ((0, 0), cN_isPurpose), ((0, 0), cN_firstAbout)]
def nN_comes : List (mv_MD × Bool) := [(mdN_isCloth, true), (mdN_isPurpose, false), (mdN_firstAbout, true)]
def tN_bare : List mv_E := [(0, .aload_n 0, 1, [0]), (1, .iload_n 1, 1, [1]), (2, .invokevirtual 96, 3, [0, 0, 2, 0, 5, 74, 5, 76, 1, 8, 5, 77, 0, 29]), (5, .ifCond .eq 12, 3, [17]), (8, .aload_n 0, 1, [0]), (9, .iload_n 1, 1, [1]), (10, .iconst (-1), 1, [1, 1]), (11, .invokevirtual 188, 3, [0, 1, 3, 0, 5, 230, 5, 232, 1, 8, 5, 233, 0, 49]), (14, .goto 4, 3, [18]), (17, .iconst (-1), 1, [1, 1]), (18, .ireturn, 1, [0])]
def gN_bare : List (mv_C H2) := [((0, 0), cN_isCloth), ((0, 0), cN_firstAbout)]
def nN_bare : List (mv_MD × Bool) := [(mdN_isCloth, true), (mdN_firstAbout, true)]
def tN_spoiltIn : List mv_E := [(0, .aload_n 0, 1, [0]), (1, .iload_n 1, 1, [1]), (2, .invokevirtual 145, 3, [0, 0, 2, 0, 5, 146, 5, 148, 1, 8, 5, 149, 0, 37]), (5, .iconst 0, 1, [0, 0]), (6, .istore_n 2, 1, [2]), (7, .iconst 0, 1, [0, 0]), (8, .istore_n 3, 1, [3]), (9, .iload_n 3, 1, [3]), (10, .aload_n 0, 1, [0]), (11, .getfield 16, 3, [8, 2, 1, 0, 4, 180]), (14, .bipush 6, 2, [0, 6]), (16, .iaload, 1, []), (17, .if_icmp .ge 39, 3, [56]), (20, .iload_n 2, 1, [2]), (21, .aload_n 0, 1, [0]), (22, .iload_n 3, 1, [3]), (23, .iconst 1, 1, [0, 1]), (24, .invokevirtual 82, 3, [0, 1, 3, 0, 5, 79, 5, 81, 1, 8, 5, 82, 0, 30]), (27, .aload_n 0, 1, [0]), (28, .getfield 22, 3, [8, 4, 1, 0, 4, 182]), (31, .bipush 29, 2, [0, 29]), (33, .iconst 5, 1, [0, 5]), (34, .iload_n 3, 1, [3]), (35, .imul, 1, []), (36, .iadd, 1, []), (37, .iconst 1, 1, [0, 1]), (38, .iadd, 1, []), (39, .iaload, 1, []), (40, .if_icmp .ne 7, 3, [47]), (43, .iconst 0, 1, [0, 0]), (44, .goto 4, 3, [48]), (47, .iconst 1, 1, [0, 1]), (48, .iadd, 1, []), (49, .istore_n 2, 1, [2]), (50, .iinc 3 1, 3, [3, 0, 1]), (53, .goto (-44), 3, [9]), (56, .aload_n 0, 1, [0]), (57, .invokevirtual 164, 3, [0, 2, 1, 0, 5, 187, 5, 189, 1, 8, 5, 190, 0, 43]), (60, .iload_n 2, 1, [2]), (61, .ireturn, 1, [0])]
def gN_spoiltIn : List (mv_C H2) := [((0, 0), cN_goes), ((0, 0), cN_its), ((0, 0), cN_laysBack)]
def nN_spoiltIn : List (mv_MD × Bool) := [(mdN_goes, true), (mdN_its, true), (mdN_laysBack, true)]
def tN_spoilt : List mv_E := [(0, .iload_n 1, 1, [1]), (1, .invokestatic 182, 3, [0, 0, 1, 1, 5, 215, 5, 216, 1, 8, 5, 217]), (4, .ifCond .ne 5, 3, [9]), (7, .iconst (-1), 1, [1, 1]), (8, .ireturn, 1, [0]), (9, .aload_n 0, 1, [0]), (10, .invokevirtual 161, 3, [0, 1, 1, 0, 5, 180, 5, 182, 1, 8, 5, 183, 0, 42]), (13, .aload_n 0, 1, [0]), (14, .iload_n 1, 1, [1]), (15, .invokevirtual 191, 3, [0, 2, 2, 0, 6, 2, 6, 4, 1, 8, 6, 5, 0, 50]), (18, .ireturn, 1, [0])]
def gN_spoilt : List (mv_C H2) := [((0, 0), cN_isAhead), ((0, 0), cN_lends), ((0, 0), cN_spoiltIn)]
def nN_spoilt : List (mv_MD × Bool) := [(mdN_isAhead, false), (mdN_lends, true), (mdN_spoiltIn, true)]
def tN_isThrough : List mv_E := [(0, .iload_n 3, 1, [3]), (1, .iconst 1, 1, [0, 1]), (2, .isub, 1, []), (3, .istore 5, 2, [5]), (5, .iload 5, 2, [5]), (7, .ifCond .lt 24, 3, [31]), (10, .aload_n 0, 1, [0]), (11, .iload_n 1, 1, [1]), (12, .iload 4, 2, [4]), (14, .iconst 3, 1, [0, 3]), (15, .iload 5, 2, [5]), (17, .imul, 1, []), (18, .ishr, 1, []), (19, .bipush 7, 2, [0, 7]), (21, .iand, 1, []), (22, .invokevirtual 137, 3, [0, 0, 3, 0, 5, 124, 5, 126, 1, 8, 5, 127, 0, 35]), (25, .iinc 5 (-1), 3, [5, 1, 1]), (28, .goto (-23), 3, [5]), (31, .aload_n 0, 1, [0]), (32, .iload_n 1, 1, [1]), (33, .iconst 1, 1, [0, 1]), (34, .invokevirtual 82, 3, [0, 1, 3, 0, 5, 79, 5, 81, 1, 8, 5, 82, 0, 30]), (37, .iload_n 2, 1, [2]), (38, .if_icmp .ne 7, 3, [45]), (41, .iconst 1, 1, [0, 1]), (42, .goto 4, 3, [46]), (45, .iconst 0, 1, [0, 0]), (46, .istore 5, 2, [5]), (48, .aload_n 0, 1, [0]), (49, .invokevirtual 164, 3, [0, 2, 1, 0, 5, 187, 5, 189, 1, 8, 5, 190, 0, 43]), (52, .iload 5, 2, [5]), (54, .ireturn, 1, [1])]
def gN_isThrough : List (mv_C H2) := [((0, 0), cN_dips), ((0, 0), cN_its), ((0, 0), cN_laysBack)]
def nN_isThrough : List (mv_MD × Bool) := [(mdN_dips, true), (mdN_its, true), (mdN_laysBack, true)]
def tN_through : List mv_E := [(0, .aload_n 0, 1, [0]), (1, .iload_n 1, 1, [1]), (2, .invokevirtual 96, 3, [0, 0, 2, 0, 5, 74, 5, 76, 1, 8, 5, 77, 0, 29]), (5, .ifCond .eq 10, 3, [15]), (8, .iload_n 2, 1, [2]), (9, .invokestatic 125, 3, [0, 1, 1, 1, 5, 112, 5, 113, 1, 8, 5, 114]), (12, .ifCond .ne 5, 3, [17]), (15, .iconst (-1), 1, [1, 1]), (16, .ireturn, 1, [0]), (17, .aload_n 0, 1, [0]), (18, .invokevirtual 161, 3, [0, 2, 1, 0, 5, 180, 5, 182, 1, 8, 5, 183, 0, 42]), (21, .iconst 0, 1, [0, 0]), (22, .istore_n 3, 1, [3]), (23, .iload_n 3, 1, [3]), (24, .iconst 3, 1, [0, 3]), (25, .if_icmp .gt 49, 3, [74]), (28, .iconst 0, 1, [0, 0]), (29, .istore 4, 2, [4]), (31, .iload 4, 2, [4]), (33, .iconst 1, 1, [0, 1]), (34, .iconst 3, 1, [0, 3]), (35, .iload_n 3, 1, [3]), (36, .imul, 1, []), (37, .ishl, 1, []), (38, .if_icmp .ge 30, 3, [68]), (41, .aload_n 0, 1, [0]), (42, .iload_n 1, 1, [1]), (43, .iload_n 2, 1, [2]), (44, .iload_n 3, 1, [3]), (45, .iload 4, 2, [4]), (47, .invokevirtual 194, 3, [0, 3, 5, 0, 6, 10, 6, 12, 1, 8, 6, 13, 0, 51]), (50, .ifCond .eq 12, 3, [62]), (53, .iconst 1, 1, [0, 1]), (54, .iconst 3, 1, [0, 3]), (55, .iload_n 3, 1, [3]), (56, .imul, 1, []), (57, .ishl, 1, []), (58, .iload 4, 2, [4]), (60, .iadd, 1, []), (61, .ireturn, 1, [0]), (62, .iinc 4 1, 3, [4, 0, 1]), (65, .goto (-34), 3, [31]), (68, .iinc 3 1, 3, [3, 0, 1]), (71, .goto (-48), 3, [23]), (74, .bipush (-3), 2, [1, 3]), (76, .ireturn, 1, [0])]
def gN_through : List (mv_C H2) := [((0, 0), cN_isCloth), ((0, 0), cN_isPurpose), ((0, 0), cN_lends), ((0, 0), cN_isThrough)]
def nN_through : List (mv_MD × Bool) := [(mdN_isCloth, true), (mdN_isPurpose, false), (mdN_lends, true), (mdN_isThrough, true)]
def tN_vatFor : List mv_E := [(0, .iload_n 1, 1, [1]), (1, .invokestatic 79, 3, [0, 0, 1, 1, 5, 47, 5, 48, 1, 8, 5, 49]), (4, .ifCond .eq 10, 3, [14]), (7, .iload_n 2, 1, [2]), (8, .invokestatic 198, 3, [0, 1, 1, 1, 6, 18, 6, 19, 1, 8, 6, 20]), (11, .ifCond .ne 5, 3, [16]), (14, .iconst (-1), 1, [1, 1]), (15, .ireturn, 1, [0]), (16, .iconst (-1), 1, [1, 1]), (17, .istore_n 3, 1, [3]), (18, .iconst (-1), 1, [1, 1]), (19, .istore 4, 2, [4]), (21, .iconst 0, 1, [0, 0]), (22, .istore 5, 2, [5]), (24, .iload 5, 2, [5]), (26, .bipush 8, 2, [0, 8]), (28, .if_icmp .ge 62, 3, [90]), (31, .aload_n 0, 1, [0]), (32, .invokevirtual 161, 3, [0, 2, 1, 0, 5, 180, 5, 182, 1, 8, 5, 183, 0, 42]), (35, .aload_n 0, 1, [0]), (36, .getfield 16, 3, [8, 2, 1, 0, 4, 180]), (39, .bipush 23, 2, [0, 23]), (41, .iload_n 1, 1, [1]), (42, .iadd, 1, []), (43, .iload 5, 2, [5]), (45, .iastore, 1, []), (46, .aload_n 0, 1, [0]), (47, .iload_n 2, 1, [2]), (48, .invokevirtual 145, 3, [0, 3, 2, 0, 5, 146, 5, 148, 1, 8, 5, 149, 0, 37]), (51, .aload_n 0, 1, [0]), (52, .invokevirtual 148, 3, [0, 4, 1, 0, 5, 154, 5, 156, 1, 8, 5, 157, 0, 39]), (55, .istore 6, 2, [6]), (57, .aload_n 0, 1, [0]), (58, .invokevirtual 164, 3, [0, 5, 1, 0, 5, 187, 5, 189, 1, 8, 5, 190, 0, 43]), (61, .iload 6, 2, [6]), (63, .iload 4, 2, [4]), (65, .if_icmp .le 8, 3, [73]), (68, .iload 5, 2, [5]), (70, .goto 4, 3, [74]), (73, .iload_n 3, 1, [3]), (74, .istore_n 3, 1, [3]), (75, .iload 4, 2, [4]), (77, .iload 6, 2, [6]), (79, .invokestatic 122, 3, [1, 5, 135, 5, 136, 1, 14, 5, 137]), (82, .istore 4, 2, [4]), (84, .iinc 5 1, 3, [5, 0, 1]), (87, .goto (-63), 3, [24]), (90, .iload_n 3, 1, [3]), (91, .ireturn, 1, [0])]
def gN_vatFor : List (mv_C H2) := [((0, 0), cN_isRest), ((0, 0), cN_isSoon), ((0, 0), cN_lends), ((0, 0), cN_goes), ((0, 0), cN_depths), ((0, 0), cN_laysBack)]
def nN_vatFor : List (mv_MD × Bool) := [(mdN_isRest, false), (mdN_isSoon, false), (mdN_lends, true), (mdN_goes, true), (mdN_depths, true), (mdN_laysBack, true)]
def tN_kindFor : List mv_E := [(0, .aload_n 0, 1, [0]), (1, .iload_n 1, 1, [1]), (2, .invokevirtual 96, 3, [0, 0, 2, 0, 5, 74, 5, 76, 1, 8, 5, 77, 0, 29]), (5, .ifCond .eq 10, 3, [15]), (8, .iload_n 2, 1, [2]), (9, .invokestatic 198, 3, [0, 1, 1, 1, 6, 18, 6, 19, 1, 8, 6, 20]), (12, .ifCond .ne 5, 3, [17]), (15, .iconst (-1), 1, [1, 1]), (16, .ireturn, 1, [0]), (17, .iconst (-1), 1, [1, 1]), (18, .istore_n 3, 1, [3]), (19, .iconst (-1), 1, [1, 1]), (20, .istore 4, 2, [4]), (22, .iconst 0, 1, [0, 0]), (23, .istore 5, 2, [5]), (25, .iload 5, 2, [5]), (27, .iconst 5, 1, [0, 5]), (28, .if_icmp .gt 53, 3, [81]), (31, .aload_n 0, 1, [0]), (32, .invokevirtual 161, 3, [0, 2, 1, 0, 5, 180, 5, 182, 1, 8, 5, 183, 0, 42]), (35, .aload_n 0, 1, [0]), (36, .iload_n 1, 1, [1]), (37, .iconst 0, 1, [0, 0]), (38, .iload 5, 2, [5]), (40, .invokevirtual 85, 3, [0, 3, 4, 0, 5, 66, 5, 68, 1, 8, 5, 69, 0, 28]), (43, .aload_n 0, 1, [0]), (44, .iload_n 1, 1, [1]), (45, .iconst 2, 1, [0, 2]), (46, .iload_n 2, 1, [2]), (47, .invokevirtual 185, 3, [0, 4, 4, 0, 5, 218, 5, 220, 1, 8, 5, 221, 0, 48]), (50, .istore 6, 2, [6]), (52, .iload 6, 2, [6]), (54, .iload 4, 2, [4]), (56, .if_icmp .le 8, 3, [64]), (59, .iload 5, 2, [5]), (61, .goto 4, 3, [65]), (64, .iload_n 3, 1, [3]), (65, .istore_n 3, 1, [3]), (66, .iload 4, 2, [4]), (68, .iload 6, 2, [6]), (70, .invokestatic 122, 3, [1, 5, 135, 5, 136, 1, 14, 5, 137]), (73, .istore 4, 2, [4]), (75, .iinc 5 1, 3, [5, 0, 1]), (78, .goto (-53), 3, [25]), (81, .iload_n 3, 1, [3]), (82, .ireturn, 1, [0])]
def gN_kindFor : List (mv_C H2) := [((0, 0), cN_isCloth), ((0, 0), cN_isSoon), ((0, 0), cN_lends), ((0, 0), cN_sets), ((0, 0), cN_behind)]
def nN_kindFor : List (mv_MD × Bool) := [(mdN_isCloth, true), (mdN_isSoon, false), (mdN_lends, true), (mdN_sets, true), (mdN_behind, true)]
def tN_strengthFor : List mv_E := [(0, .iload_n 1, 1, [1]), (1, .invokestatic 75, 3, [0, 0, 1, 1, 5, 34, 5, 35, 1, 8, 5, 36]), (4, .ifCond .eq 26, 3, [30]), (7, .aload_n 0, 1, [0]), (8, .iload_n 2, 1, [2]), (9, .invokevirtual 96, 3, [0, 1, 2, 0, 5, 74, 5, 76, 1, 8, 5, 77, 0, 29]), (12, .ifCond .eq 18, 3, [30]), (15, .iload_n 3, 1, [3]), (16, .invokestatic 125, 3, [0, 2, 1, 1, 5, 112, 5, 113, 1, 8, 5, 114]), (19, .ifCond .eq 11, 3, [30]), (22, .iload 4, 2, [4]), (24, .invokestatic 198, 3, [0, 3, 1, 1, 6, 18, 6, 19, 1, 8, 6, 20]), (27, .ifCond .ne 5, 3, [32]), (30, .iconst (-1), 1, [1, 1]), (31, .ireturn, 1, [0]), (32, .bipush (-3), 2, [1, 3]), (34, .istore 5, 2, [5]), (36, .bipush 9, 2, [0, 9]), (38, .istore 6, 2, [6]), (40, .iload 6, 2, [6]), (42, .ifCond .lt 45, 3, [87]), (45, .aload_n 0, 1, [0]), (46, .invokevirtual 161, 3, [0, 4, 1, 0, 5, 180, 5, 182, 1, 8, 5, 183, 0, 42]), (49, .aload_n 0, 1, [0]), (50, .getfield 16, 3, [8, 2, 1, 0, 4, 180]), (53, .bipush 15, 2, [0, 15]), (55, .iload_n 1, 1, [1]), (56, .iadd, 1, []), (57, .iload 6, 2, [6]), (59, .iastore, 1, []), (60, .aload_n 0, 1, [0]), (61, .iload_n 2, 1, [2]), (62, .iconst 1, 1, [0, 1]), (63, .iload 4, 2, [4]), (65, .invokevirtual 185, 3, [0, 5, 4, 0, 5, 218, 5, 220, 1, 8, 5, 221, 0, 48]), (68, .iload_n 3, 1, [3]), (69, .if_icmp .ne 8, 3, [77]), (72, .iload 6, 2, [6]), (74, .goto 5, 3, [79]), (77, .iload 5, 2, [5]), (79, .istore 5, 2, [5]), (81, .iinc 6 (-1), 3, [6, 1, 1]), (84, .goto (-44), 3, [40]), (87, .iload 5, 2, [5]), (89, .ireturn, 1, [0])]
def gN_strengthFor : List (mv_C H2) := [((0, 0), cN_isVat), ((0, 0), cN_isCloth), ((0, 0), cN_isPurpose), ((0, 0), cN_isSoon), ((0, 0), cN_lends), ((0, 0), cN_behind)]
def nN_strengthFor : List (mv_MD × Bool) := [(mdN_isVat, false), (mdN_isCloth, true), (mdN_isPurpose, false), (mdN_isSoon, false), (mdN_lends, true), (mdN_behind, true)]
def tN_ones : List mv_E := [(0, .iconst 0, 1, [0, 0]), (1, .istore_n 1, 1, [1]), (2, .iconst 0, 1, [0, 0]), (3, .istore_n 2, 1, [2]), (4, .iload_n 2, 1, [2]), (5, .bipush 8, 2, [0, 8]), (7, .if_icmp .ge 17, 3, [24]), (10, .iload_n 1, 1, [1]), (11, .iload_n 0, 1, [0]), (12, .iload_n 2, 1, [2]), (13, .ishr, 1, []), (14, .iconst 1, 1, [0, 1]), (15, .iand, 1, []), (16, .iadd, 1, []), (17, .istore_n 1, 1, [1]), (18, .iinc 2 1, 3, [2, 0, 1]), (21, .goto (-17), 3, [4]), (24, .iload_n 1, 1, [1]), (25, .ireturn, 1, [0])]
def gN_ones : List (mv_C H2) := []
def nN_ones : List (mv_MD × Bool) := []
def tN_hangs : List mv_E := [(0, .iconst 0, 1, [0, 0]), (1, .istore_n 2, 1, [2]), (2, .iload_n 2, 1, [2]), (3, .aload_n 0, 1, [0]), (4, .getfield 16, 3, [8, 2, 1, 0, 4, 180]), (7, .bipush 6, 2, [0, 6]), (9, .iaload, 1, []), (10, .if_icmp .ge 20, 3, [30]), (13, .aload_n 0, 1, [0]), (14, .iload_n 2, 1, [2]), (15, .iconst 3, 1, [0, 3]), (16, .iload_n 1, 1, [1]), (17, .iload_n 2, 1, [2]), (18, .ishr, 1, []), (19, .iconst 1, 1, [0, 1]), (20, .iand, 1, []), (21, .invokevirtual 85, 3, [0, 0, 4, 0, 5, 66, 5, 68, 1, 8, 5, 69, 0, 28]), (24, .iinc 2 1, 3, [2, 0, 1]), (27, .goto (-25), 3, [2]), (30, .return_, 1, [])]
def gN_hangs : List (mv_C H2) := [((0, 0), cN_sets)]
def nN_hangs : List (mv_MD × Bool) := [(mdN_sets, true)]
def tN_hangFor : List mv_E := [(0, .iload_n 1, 1, [1]), (1, .i2l, 1, []), (2, .lconst 1, 1, [0, 1]), (3, .ldc2_w 159, 3, [0, 30, 5, 179]), (6, .invokestatic 59, 3, [0, 0, 3, 1, 5, 19, 5, 20, 1, 8, 5, 21]), (9, .ifCond .eq 15, 3, [24]), (12, .iload_n 2, 1, [2]), (13, .i2l, 1, []), (14, .lconst 0, 1, [0, 0]), (15, .ldc2_w 201, 3, [0, 8, 6, 34]), (18, .invokestatic 59, 3, [0, 0, 3, 1, 5, 19, 5, 20, 1, 8, 5, 21]), (21, .ifCond .ne 5, 3, [26]), (24, .iconst (-1), 1, [1, 1]), (25, .ireturn, 1, [0]), (26, .bipush (-3), 2, [1, 3]), (28, .istore_n 3, 1, [3]), (29, .iconst 0, 1, [0, 0]), (30, .istore 4, 2, [4]), (32, .iload 4, 2, [4]), (34, .iconst 1, 1, [0, 1]), (35, .aload_n 0, 1, [0]), (36, .getfield 16, 3, [8, 2, 1, 0, 4, 180]), (39, .bipush 6, 2, [0, 6]), (41, .iaload, 1, []), (42, .ishl, 1, []), (43, .if_icmp .ge 51, 3, [94]), (46, .iload_n 3, 1, [3]), (47, .ifCond .lt 15, 3, [62]), (50, .iload 4, 2, [4]), (52, .invokestatic 203, 3, [0, 1, 1, 1, 6, 35, 6, 36, 1, 8, 6, 37]), (55, .iload_n 3, 1, [3]), (56, .invokestatic 203, 3, [0, 1, 1, 1, 6, 35, 6, 36, 1, 8, 6, 37]), (59, .if_icmp .ge 29, 3, [88]), (62, .aload_n 0, 1, [0]), (63, .invokevirtual 161, 3, [0, 2, 1, 0, 5, 180, 5, 182, 1, 8, 5, 183, 0, 42]), (66, .aload_n 0, 1, [0]), (67, .iload 4, 2, [4]), (69, .invokevirtual 206, 3, [0, 3, 2, 0, 6, 38, 6, 40, 1, 8, 6, 41, 0, 52]), (72, .aload_n 0, 1, [0]), (73, .iload_n 1, 1, [1]), (74, .invokevirtual 191, 3, [0, 4, 2, 0, 6, 2, 6, 4, 1, 8, 6, 5, 0, 50]), (77, .iload_n 2, 1, [2]), (78, .if_icmp .gt 8, 3, [86]), (81, .iload 4, 2, [4]), (83, .goto 4, 3, [87]), (86, .iload_n 3, 1, [3]), (87, .istore_n 3, 1, [3]), (88, .iinc 4 1, 3, [4, 0, 1]), (91, .goto (-59), 3, [32]), (94, .iload_n 3, 1, [3]), (95, .ireturn, 1, [0])]
def gN_hangFor : List (mv_C H2) := [((0, 0), cN_in), ((0, 0), cN_ones), ((0, 0), cN_lends), ((0, 0), cN_hangs), ((0, 0), cN_spoiltIn)]
def nN_hangFor : List (mv_MD × Bool) := [(mdN_in, false), (mdN_ones, false), (mdN_lends, true), (mdN_hangs, true), (mdN_spoiltIn, true)]
def tN_isSo : List mv_E := [(0, .aload_n 0, 1, [0]), (1, .invokevirtual 161, 3, [0, 0, 1, 0, 5, 180, 5, 182, 1, 8, 5, 183, 0, 42]), (4, .aload_n 0, 1, [0]), (5, .iload_n 2, 1, [2]), (6, .iconst 1, 1, [0, 1]), (7, .iload_n 3, 1, [3]), (8, .invokevirtual 85, 3, [0, 1, 4, 0, 5, 66, 5, 68, 1, 8, 5, 69, 0, 28]), (11, .iconst 1, 1, [0, 1]), (12, .istore 4, 2, [4]), (14, .iconst 0, 1, [0, 0]), (15, .istore 5, 2, [5]), (17, .iload 5, 2, [5]), (19, .aload_n 0, 1, [0]), (20, .getfield 34, 3, [8, 14, 1, 0, 4, 192]), (23, .iload_n 1, 1, [1]), (24, .iaload, 1, []), (25, .if_icmp .ge 56, 3, [81]), (28, .iload 4, 2, [4]), (30, .ifCond .eq 51, 3, [81]), (33, .aload_n 0, 1, [0]), (34, .invokevirtual 140, 3, [0, 2, 1, 0, 5, 150, 5, 152, 1, 8, 5, 153, 0, 38]), (37, .aload_n 0, 1, [0]), (38, .getfield 37, 3, [8, 15, 1, 0, 4, 193]), (41, .bipush 40, 2, [0, 40]), (43, .iload_n 1, 1, [1]), (44, .imul, 1, []), (45, .iload 5, 2, [5]), (47, .iadd, 1, []), (48, .iaload, 1, []), (49, .istore 6, 2, [6]), (51, .iload 6, 2, [6]), (53, .iconst (-1), 1, [1, 1]), (54, .if_icmp .eq 14, 3, [68]), (57, .iload 6, 2, [6]), (59, .aload_n 0, 1, [0]), (60, .iload_n 2, 1, [2]), (61, .iconst 2, 1, [0, 2]), (62, .invokevirtual 82, 3, [0, 3, 3, 0, 5, 79, 5, 81, 1, 8, 5, 82, 0, 30]), (65, .if_icmp .ne 7, 3, [72]), (68, .iconst 1, 1, [0, 1]), (69, .goto 4, 3, [73]), (72, .iconst 0, 1, [0, 0]), (73, .istore 4, 2, [4]), (75, .iinc 5 1, 3, [5, 0, 1]), (78, .goto (-61), 3, [17]), (81, .aload_n 0, 1, [0]), (82, .invokevirtual 164, 3, [0, 4, 1, 0, 5, 187, 5, 189, 1, 8, 5, 190, 0, 43]), (85, .iload 4, 2, [4]), (87, .ireturn, 1, [1])]
def gN_isSo : List (mv_C H2) := [((0, 0), cN_lends), ((0, 0), cN_sets), ((0, 0), cN_aDay), ((0, 0), cN_its), ((0, 0), cN_laysBack)]
def nN_isSo : List (mv_MD × Bool) := [(mdN_lends, true), (mdN_sets, true), (mdN_aDay, true), (mdN_its, true), (mdN_laysBack, true)]
def tN_isFour : List mv_E := [(0, .iload_n 0, 1, [0]), (1, .i2l, 1, []), (2, .lconst 0, 1, [0, 0]), (3, .ldc2_w 69, 3, [0, 3, 5, 18]), (6, .invokestatic 59, 3, [0, 0, 3, 1, 5, 19, 5, 20, 1, 8, 5, 21]), (9, .ireturn, 1, [1])]
def gN_isFour : List (mv_C H2) := [((0, 0), cN_in)]
def nN_isFour : List (mv_MD × Bool) := [(mdN_in, false)]
def tN_fits : List mv_E := [(0, .iload_n 1, 1, [1]), (1, .invokestatic 209, 3, [0, 0, 1, 1, 6, 46, 6, 47, 1, 8, 6, 48]), (4, .ifCond .eq 21, 3, [25]), (7, .aload_n 0, 1, [0]), (8, .iload_n 2, 1, [2]), (9, .invokevirtual 96, 3, [0, 1, 2, 0, 5, 74, 5, 76, 1, 8, 5, 77, 0, 29]), (12, .ifCond .eq 13, 3, [25]), (15, .iload_n 3, 1, [3]), (16, .i2l, 1, []), (17, .lconst 0, 1, [0, 0]), (18, .lconst 1, 1, [0, 1]), (19, .invokestatic 59, 3, [0, 2, 3, 1, 5, 19, 5, 20, 1, 8, 5, 21]), (22, .ifCond .ne 5, 3, [27]), (25, .iconst (-1), 1, [1, 1]), (26, .ireturn, 1, [0]), (27, .aload_n 0, 1, [0]), (28, .getfield 31, 3, [8, 13, 1, 0, 4, 191]), (31, .iload_n 1, 1, [1]), (32, .iaload, 1, []), (33, .ifCond .ge 6, 3, [39]), (36, .bipush (-11), 2, [1, 11]), (38, .ireturn, 1, [0]), (39, .aload_n 0, 1, [0]), (40, .iload_n 2, 1, [2]), (41, .iconst 2, 1, [0, 2]), (42, .invokevirtual 82, 3, [0, 3, 3, 0, 5, 79, 5, 81, 1, 8, 5, 82, 0, 30]), (45, .ifCond .ne 7, 3, [52]), (48, .iconst 1, 1, [0, 1]), (49, .goto 4, 3, [53]), (52, .iconst 0, 1, [0, 0]), (53, .istore 4, 2, [4]), (55, .iconst 0, 1, [0, 0]), (56, .istore 5, 2, [5]), (58, .bipush (-3), 2, [1, 3]), (60, .istore 6, 2, [6]), (62, .iload 4, 2, [4]), (64, .ifCond .eq 7, 3, [71]), (67, .iconst (-1), 1, [1, 1]), (68, .goto 5, 3, [73]), (71, .bipush 9, 2, [0, 9]), (73, .istore 7, 2, [7]), (75, .iload 7, 2, [7]), (77, .iload 4, 2, [4]), (79, .ifCond .eq 7, 3, [86]), (82, .iconst (-1), 1, [1, 1]), (83, .goto 4, 3, [87]), (86, .iconst 0, 1, [0, 0]), (87, .if_icmp .lt 50, 3, [137]), (90, .aload_n 0, 1, [0]), (91, .iload_n 1, 1, [1]), (92, .iload_n 2, 1, [2]), (93, .iload 7, 2, [7]), (95, .invokevirtual 212, 3, [0, 4, 4, 0, 6, 49, 6, 51, 1, 8, 6, 52, 0, 53]), (98, .istore 8, 2, [8]), (100, .iload 5, 2, [5]), (102, .iload 8, 2, [8]), (104, .ifCond .eq 7, 3, [111]), (107, .iconst 1, 1, [0, 1]), (108, .goto 4, 3, [112]), (111, .iconst 0, 1, [0, 0]), (112, .iadd, 1, []), (113, .istore 5, 2, [5]), (115, .iload 8, 2, [8]), (117, .ifCond .eq 10, 3, [127]), (120, .iconst 1, 1, [0, 1]), (121, .iload 7, 2, [7]), (123, .iadd, 1, []), (124, .goto 5, 3, [129]), (127, .iload 6, 2, [6]), (129, .istore 6, 2, [6]), (131, .iinc 7 (-1), 3, [7, 1, 1]), (134, .goto (-59), 3, [75]), (137, .iload_n 3, 1, [3]), (138, .ifCond .ne 8, 3, [146]), (141, .iload 5, 2, [5]), (143, .goto 5, 3, [148]), (146, .iload 6, 2, [6]), (148, .ireturn, 1, [0])]
def gN_fits : List (mv_C H2) := [((0, 0), cN_isFour), ((0, 0), cN_isCloth), ((0, 0), cN_in), ((0, 0), cN_its), ((0, 0), cN_isSo)]
def nN_fits : List (mv_MD × Bool) := [(mdN_isFour, false), (mdN_isCloth, true), (mdN_in, false), (mdN_its, true), (mdN_isSo, true)]
def tN_lowest : List mv_E := [(0, .lload_n 0, 1, [0]), (1, .lstore 5, 2, [5]), (3, .lload_n 2, 1, [2]), (4, .lstore 7, 2, [7]), (6, .lload 7, 2, [7]), (8, .lconst 0, 1, [0, 0]), (9, .lcmp, 1, []), (10, .ifCond .eq 21, 3, [31]), (13, .lload 5, 2, [5]), (15, .lload 7, 2, [7]), (17, .lrem, 1, []), (18, .lstore 9, 2, [9]), (20, .lload 7, 2, [7]), (22, .lstore 5, 2, [5]), (24, .lload 9, 2, [9]), (26, .lstore 7, 2, [7]), (28, .goto (-22), 3, [6]), (31, .iload 4, 2, [4]), (33, .ifCond .ne 7, 3, [40]), (36, .lload_n 0, 1, [0]), (37, .goto 4, 3, [41]), (40, .lload_n 2, 1, [2]), (41, .lload 5, 2, [5]), (43, .ldiv, 1, []), (44, .lreturn, 1, [])]
def gN_lowest : List (mv_C H2) := []
def nN_lowest : List (mv_MD × Bool) := []
def tN_odds : List mv_E := [(0, .iload_n 1, 1, [1]), (1, .i2l, 1, []), (2, .lconst 0, 1, [0, 0]), (3, .ldc2_w 201, 3, [0, 8, 6, 34]), (6, .invokestatic 59, 3, [0, 0, 3, 1, 5, 19, 5, 20, 1, 8, 5, 21]), (9, .ifCond .eq 24, 3, [33]), (12, .iload_n 2, 1, [2]), (13, .i2l, 1, []), (14, .lconst 0, 1, [0, 0]), (15, .iload_n 1, 1, [1]), (16, .i2l, 1, []), (17, .invokestatic 59, 3, [0, 0, 3, 1, 5, 19, 5, 20, 1, 8, 5, 21]), (20, .ifCond .eq 13, 3, [33]), (23, .iload_n 3, 1, [3]), (24, .i2l, 1, []), (25, .lconst 0, 1, [0, 0]), (26, .lconst 1, 1, [0, 1]), (27, .invokestatic 59, 3, [0, 0, 3, 1, 5, 19, 5, 20, 1, 8, 5, 21]), (30, .ifCond .ne 7, 3, [37]), (33, .ldc2_w 216, 3, [1, 1, 6, 57]), (36, .lreturn, 1, []), (37, .lconst 1, 1, [0, 1]), (38, .lstore 4, 2, [4]), (40, .lconst 1, 1, [0, 1]), (41, .lstore 6, 2, [6]), (43, .iconst 0, 1, [0, 0]), (44, .istore 8, 2, [8]), (46, .iload 8, 2, [8]), (48, .iload_n 1, 1, [1]), (49, .if_icmp .ge 48, 3, [97]), (52, .lload 4, 2, [4]), (54, .iload 8, 2, [8]), (56, .iload_n 2, 1, [2]), (57, .if_icmp .ge 13, 3, [70]), (60, .aload_n 0, 1, [0]), (61, .getfield 16, 3, [8, 2, 1, 0, 4, 180]), (64, .iconst 3, 1, [0, 3]), (65, .iaload, 1, []), (66, .i2l, 1, []), (67, .goto 13, 3, [80]), (70, .bipush 100, 2, [0, 100]), (72, .aload_n 0, 1, [0]), (73, .getfield 16, 3, [8, 2, 1, 0, 4, 180]), (76, .iconst 3, 1, [0, 3]), (77, .iaload, 1, []), (78, .isub, 1, []), (79, .i2l, 1, []), (80, .lmul, 1, []), (81, .lstore 4, 2, [4]), (83, .lload 6, 2, [6]), (85, .ldc2_w 218, 3, [0, 100, 6, 58]), (88, .lmul, 1, []), (89, .lstore 6, 2, [6]), (91, .iinc 8 1, 3, [8, 0, 1]), (94, .goto (-48), 3, [46]), (97, .lconst 1, 1, [0, 1]), (98, .lstore 8, 2, [8]), (100, .iconst 0, 1, [0, 0]), (101, .istore 10, 2, [10]), (103, .iload 10, 2, [10]), (105, .iload_n 2, 1, [2]), (106, .if_icmp .ge 25, 3, [131]), (109, .lload 8, 2, [8]), (111, .iload_n 1, 1, [1]), (112, .iload 10, 2, [10]), (114, .isub, 1, []), (115, .i2l, 1, []), (116, .lmul, 1, []), (117, .iload 10, 2, [10]), (119, .iconst 1, 1, [0, 1]), (120, .iadd, 1, []), (121, .i2l, 1, []), (122, .ldiv, 1, []), (123, .lstore 8, 2, [8]), (125, .iinc 10 1, 3, [10, 0, 1]), (128, .goto (-25), 3, [103]), (131, .lload 4, 2, [4]), (133, .lload 8, 2, [8]), (135, .lmul, 1, []), (136, .lload 6, 2, [6]), (138, .iload_n 3, 1, [3]), (139, .invokestatic 220, 3, [0, 1, 3, 1, 6, 59, 6, 60, 1, 8, 6, 61]), (142, .lreturn, 1, [])]
def gN_odds : List (mv_C H2) := [((0, 0), cN_in), ((0, 0), cN_lowest)]
def nN_odds : List (mv_MD × Bool) := [(mdN_in, false), (mdN_lowest, false)]
def tN_hope : List mv_E := [(0, .iload_n 1, 1, [1]), (1, .i2l, 1, []), (2, .lconst 0, 1, [0, 0]), (3, .ldc2_w 128, 3, [0, 99, 5, 115]), (6, .invokestatic 59, 3, [0, 0, 3, 1, 5, 19, 5, 20, 1, 8, 5, 21]), (9, .ifCond .eq 33, 3, [42]), (12, .iload_n 2, 1, [2]), (13, .i2l, 1, []), (14, .lconst 0, 1, [0, 0]), (15, .lconst 1, 1, [0, 1]), (16, .invokestatic 59, 3, [0, 0, 3, 1, 5, 19, 5, 20, 1, 8, 5, 21]), (19, .ifCond .eq 23, 3, [42]), (22, .iload_n 1, 1, [1]), (23, .i2l, 1, []), (24, .aload_n 0, 1, [0]), (25, .getfield 16, 3, [8, 2, 1, 0, 4, 180]), (28, .iconst 3, 1, [0, 3]), (29, .iaload, 1, []), (30, .i2l, 1, []), (31, .lmul, 1, []), (32, .ldc2_w 218, 3, [0, 100, 6, 58]), (35, .iload_n 2, 1, [2]), (36, .invokestatic 220, 3, [0, 1, 3, 1, 6, 59, 6, 60, 1, 8, 6, 61]), (39, .goto 6, 3, [45]), (42, .ldc2_w 216, 3, [1, 1, 6, 57]), (45, .lreturn, 1, [])]
def gN_hope : List (mv_C H2) := [((0, 0), cN_in), ((0, 0), cN_lowest)]
def nN_hope : List (mv_MD × Bool) := [(mdN_in, false), (mdN_lowest, false)]
def tN_feed : List mv_E := [(0, .iload_n 3, 1, [3]), (1, .i2l, 1, []), (2, .lconst 1, 1, [0, 1]), (3, .ldc2_w 201, 3, [0, 8, 6, 34]), (6, .invokestatic 59, 3, [0, 0, 3, 1, 5, 19, 5, 20, 1, 8, 5, 21]), (9, .ifCond .ne 5, 3, [14]), (12, .iconst (-1), 1, [1, 1]), (13, .ireturn, 1, [0]), (14, .aload_n 0, 1, [0]), (15, .getfield 224, 3, [8, 7, 0, 0, 4, 185]), (18, .iload_n 3, 1, [3]), (19, .iadd, 1, []), (20, .sipush 200, 3, [0, 200]), (23, .if_icmp .le 6, 3, [29]), (26, .bipush (-2), 2, [1, 2]), (28, .ireturn, 1, [0]), (29, .iconst 0, 1, [0, 0]), (30, .istore 4, 2, [4]), (32, .iload 4, 2, [4]), (34, .iload_n 3, 1, [3]), (35, .if_icmp .ge 40, 3, [75]), (38, .aload_n 0, 1, [0]), (39, .getfield 25, 3, [8, 6, 1, 0, 4, 184]), (42, .aload_n 0, 1, [0]), (43, .getfield 224, 3, [8, 7, 0, 0, 4, 185]), (46, .lload_n 1, 1, [1]), (47, .bipush 8, 2, [0, 8]), (49, .iload 4, 2, [4]), (51, .imul, 1, []), (52, .lshr, 1, []), (53, .ldc2_w 228, 3, [0, 255, 6, 70]), (56, .land, 1, []), (57, .l2i, 1, []), (58, .iastore, 1, []), (59, .aload_n 0, 1, [0]), (60, .dup, 1, []), (61, .getfield 224, 3, [8, 7, 0, 0, 4, 185]), (64, .iconst 1, 1, [0, 1]), (65, .iadd, 1, []), (66, .putfield 224, 3, [8, 7, 0, 0, 4, 185]), (69, .iinc 4 1, 3, [4, 0, 1]), (72, .goto (-40), 3, [32]), (75, .aload_n 0, 1, [0]), (76, .getfield 224, 3, [8, 7, 0, 0, 4, 185]), (79, .ireturn, 1, [0])]
def gN_feed : List (mv_C H2) := [((0, 0), cN_in)]
def nN_feed : List (mv_MD × Bool) := [(mdN_in, false)]
def tN_isByte : List mv_E := [(0, .iload_n 1, 1, [1]), (1, .aload_n 0, 1, [0]), (2, .getfield 224, 3, [8, 7, 0, 0, 4, 185]), (5, .if_icmp .ge 24, 3, [29]), (8, .aload_n 0, 1, [0]), (9, .getfield 25, 3, [8, 6, 1, 0, 4, 184]), (12, .iload_n 1, 1, [1]), (13, .iaload, 1, []), (14, .i2l, 1, []), (15, .iload_n 2, 1, [2]), (16, .i2l, 1, []), (17, .iload_n 3, 1, [3]), (18, .i2l, 1, []), (19, .invokestatic 59, 3, [0, 0, 3, 1, 5, 19, 5, 20, 1, 8, 5, 21]), (22, .ifCond .eq 7, 3, [29]), (25, .iconst 1, 1, [0, 1]), (26, .goto 4, 3, [30]), (29, .iconst 0, 1, [0, 0]), (30, .ireturn, 1, [1])]
def gN_isByte : List (mv_C H2) := [((0, 0), cN_in)]
def nN_isByte : List (mv_MD × Bool) := [(mdN_in, false)]
def tN_next : List mv_E := [(0, .aload_n 0, 1, [0]), (1, .aload_n 0, 1, [0]), (2, .getfield 230, 3, [8, 9, 0, 0, 4, 187]), (5, .putfield 233, 3, [8, 8, 0, 0, 4, 186]), (8, .aload_n 0, 1, [0]), (9, .aload_n 0, 1, [0]), (10, .getfield 233, 3, [8, 8, 0, 0, 4, 186]), (13, .bipush 32, 2, [0, 32]), (15, .bipush 32, 2, [0, 32]), (17, .invokevirtual 236, 3, [0, 0, 4, 0, 6, 79, 6, 81, 1, 8, 6, 82, 0, 55]), (20, .ifCond .eq 16, 3, [36]), (23, .aload_n 0, 1, [0]), (24, .dup, 1, []), (25, .getfield 233, 3, [8, 8, 0, 0, 4, 186]), (28, .iconst 1, 1, [0, 1]), (29, .iadd, 1, []), (30, .putfield 233, 3, [8, 8, 0, 0, 4, 186]), (33, .goto (-25), 3, [8]), (36, .aload_n 0, 1, [0]), (37, .aload_n 0, 1, [0]), (38, .getfield 233, 3, [8, 8, 0, 0, 4, 186]), (41, .putfield 230, 3, [8, 9, 0, 0, 4, 187]), (44, .aload_n 0, 1, [0]), (45, .aload_n 0, 1, [0]), (46, .getfield 233, 3, [8, 8, 0, 0, 4, 186]), (49, .bipush 97, 2, [0, 97]), (51, .bipush 122, 2, [0, 122]), (53, .invokevirtual 236, 3, [0, 0, 4, 0, 6, 79, 6, 81, 1, 8, 6, 82, 0, 55]), (56, .istore_n 1, 1, [1]), (57, .aload_n 0, 1, [0]), (58, .aload_n 0, 1, [0]), (59, .getfield 233, 3, [8, 8, 0, 0, 4, 186]), (62, .bipush 48, 2, [0, 48]), (64, .bipush 57, 2, [0, 57]), (66, .invokevirtual 236, 3, [0, 0, 4, 0, 6, 79, 6, 81, 1, 8, 6, 82, 0, 55]), (69, .istore_n 2, 1, [2]), (70, .iload_n 1, 1, [1]), (71, .ifCond .eq 18, 3, [89]), (74, .aload_n 0, 1, [0]), (75, .aload_n 0, 1, [0]), (76, .getfield 230, 3, [8, 9, 0, 0, 4, 187]), (79, .bipush 97, 2, [0, 97]), (81, .bipush 122, 2, [0, 122]), (83, .invokevirtual 236, 3, [0, 0, 4, 0, 6, 79, 6, 81, 1, 8, 6, 82, 0, 55]), (86, .ifCond .ne 22, 3, [108]), (89, .iload_n 2, 1, [2]), (90, .ifCond .eq 31, 3, [121]), (93, .aload_n 0, 1, [0]), (94, .aload_n 0, 1, [0]), (95, .getfield 230, 3, [8, 9, 0, 0, 4, 187]), (98, .bipush 48, 2, [0, 48]), (100, .bipush 57, 2, [0, 57]), (102, .invokevirtual 236, 3, [0, 0, 4, 0, 6, 79, 6, 81, 1, 8, 6, 82, 0, 55]), (105, .ifCond .eq 16, 3, [121]), (108, .aload_n 0, 1, [0]), (109, .dup, 1, []), (110, .getfield 230, 3, [8, 9, 0, 0, 4, 187]), (113, .iconst 1, 1, [0, 1]), (114, .iadd, 1, []), (115, .putfield 230, 3, [8, 9, 0, 0, 4, 187]), (118, .goto (-48), 3, [70]), (121, .aload_n 0, 1, [0]), (122, .dup, 1, []), (123, .getfield 230, 3, [8, 9, 0, 0, 4, 187]), (126, .iload_n 1, 1, [1]), (127, .ifCond .ne 22, 3, [149]), (130, .iload_n 2, 1, [2]), (131, .ifCond .ne 18, 3, [149]), (134, .aload_n 0, 1, [0]), (135, .getfield 233, 3, [8, 8, 0, 0, 4, 186]), (138, .aload_n 0, 1, [0]), (139, .getfield 224, 3, [8, 7, 0, 0, 4, 185]), (142, .if_icmp .ge 7, 3, [149]), (145, .iconst 1, 1, [0, 1]), (146, .goto 4, 3, [150]), (149, .iconst 0, 1, [0, 0]), (150, .iadd, 1, []), (151, .putfield 230, 3, [8, 9, 0, 0, 4, 187]), (154, .return_, 1, [])]
def gN_next : List (mv_C H2) := [((0, 0), cN_isByte)]
def nN_next : List (mv_MD × Bool) := [(mdN_isByte, true)]
def tN_isWord : List mv_E := [(0, .aload_n 0, 1, [0]), (1, .getfield 239, 3, [8, 10, 2, 0, 4, 188]), (4, .ifCond .ne 23, 3, [27]), (7, .aload_n 0, 1, [0]), (8, .getfield 230, 3, [8, 9, 0, 0, 4, 187]), (11, .aload_n 0, 1, [0]), (12, .getfield 233, 3, [8, 8, 0, 0, 4, 186]), (15, .isub, 1, []), (16, .aload_n 1, 1, [1]), (17, .invokevirtual 243, 3, [0, 0, 1, 0, 6, 96, 2, 37, 1, 9, 2, 39, 2, 38]), (20, .if_icmp .ne 7, 3, [27]), (23, .iconst 1, 1, [0, 1]), (24, .goto 4, 3, [28]), (27, .iconst 0, 1, [0, 0]), (28, .istore_n 2, 1, [2]), (29, .iconst 0, 1, [0, 0]), (30, .istore_n 3, 1, [3]), (31, .iload_n 2, 1, [2]), (32, .ifCond .eq 42, 3, [74]), (35, .iload_n 3, 1, [3]), (36, .aload_n 1, 1, [1]), (37, .invokevirtual 243, 3, [0, 0, 1, 0, 6, 96, 2, 37, 1, 9, 2, 39, 2, 38]), (40, .if_icmp .ge 34, 3, [74]), (43, .aload_n 0, 1, [0]), (44, .getfield 25, 3, [8, 6, 1, 0, 4, 184]), (47, .aload_n 0, 1, [0]), (48, .getfield 233, 3, [8, 8, 0, 0, 4, 186]), (51, .iload_n 3, 1, [3]), (52, .iadd, 1, []), (53, .iaload, 1, []), (54, .aload_n 1, 1, [1]), (55, .iload_n 3, 1, [3]), (56, .invokevirtual 248, 3, [0, 1, 2, 0, 6, 97, 2, 47, 1, 9, 2, 49, 2, 48]), (59, .if_icmp .ne 7, 3, [66]), (62, .iconst 1, 1, [0, 1]), (63, .goto 4, 3, [67]), (66, .iconst 0, 1, [0, 0]), (67, .istore_n 2, 1, [2]), (68, .iinc 3 1, 3, [3, 0, 1]), (71, .goto (-40), 3, [31]), (74, .iload_n 2, 1, [2]), (75, .ireturn, 1, [1])]
def gN_isWord : List (mv_C H2) := [((0, 0), cK0_length_8abf5), ((0, 0), cK0_charAt_5068e)]
def nN_isWord : List (mv_MD × Bool) := [(mdK0_length_8abf5, true), (mdK0_charAt_5068e, true)]
def tN_must : List mv_E := [(0, .aload_n 0, 1, [0]), (1, .aload_n 0, 1, [0]), (2, .getfield 239, 3, [8, 10, 2, 0, 4, 188]), (5, .ifCond .ne 7, 3, [12]), (8, .iload_n 1, 1, [1]), (9, .ifCond .ne 7, 3, [16]), (12, .iconst 1, 1, [0, 1]), (13, .goto 4, 3, [17]), (16, .iconst 0, 1, [0, 0]), (17, .putfield 239, 3, [8, 10, 2, 0, 4, 188]), (20, .aload_n 0, 1, [0]), (21, .getfield 239, 3, [8, 10, 2, 0, 4, 188]), (24, .ifCond .ne 7, 3, [31]), (27, .aload_n 0, 1, [0]), (28, .invokevirtual 252, 3, [0, 0, 1, 0, 6, 75, 6, 77, 1, 8, 6, 78, 0, 54]), (31, .return_, 1, [])]
def gN_must : List (mv_C H2) := [((0, 0), cN_next)]
def nN_must : List (mv_MD × Bool) := [(mdN_next, true)]
def tN_figures : List mv_E := [(0, .aload_n 0, 1, [0]), (1, .aload_n 0, 1, [0]), (2, .getfield 233, 3, [8, 8, 0, 0, 4, 186]), (5, .bipush 48, 2, [0, 48]), (7, .bipush 57, 2, [0, 57]), (9, .invokevirtual 236, 3, [0, 0, 4, 0, 6, 79, 6, 81, 1, 8, 6, 82, 0, 55]), (12, .ifCond .eq 20, 3, [32]), (15, .aload_n 0, 1, [0]), (16, .getfield 230, 3, [8, 9, 0, 0, 4, 187]), (19, .aload_n 0, 1, [0]), (20, .getfield 233, 3, [8, 8, 0, 0, 4, 186]), (23, .isub, 1, []), (24, .iconst 3, 1, [0, 3]), (25, .if_icmp .gt 7, 3, [32]), (28, .iconst 0, 1, [0, 0]), (29, .goto 4, 3, [33]), (32, .iconst (-1), 1, [1, 1]), (33, .istore_n 1, 1, [1]), (34, .aload_n 0, 1, [0]), (35, .getfield 233, 3, [8, 8, 0, 0, 4, 186]), (38, .istore_n 2, 1, [2]), (39, .iload_n 2, 1, [2]), (40, .aload_n 0, 1, [0]), (41, .getfield 230, 3, [8, 9, 0, 0, 4, 187]), (44, .if_icmp .ge 28, 3, [72]), (47, .iload_n 1, 1, [1]), (48, .ifCond .lt 24, 3, [72]), (51, .bipush 10, 2, [0, 10]), (53, .iload_n 1, 1, [1]), (54, .imul, 1, []), (55, .aload_n 0, 1, [0]), (56, .getfield 25, 3, [8, 6, 1, 0, 4, 184]), (59, .iload_n 2, 1, [2]), (60, .iaload, 1, []), (61, .iadd, 1, []), (62, .bipush 48, 2, [0, 48]), (64, .isub, 1, []), (65, .istore_n 1, 1, [1]), (66, .iinc 2 1, 3, [2, 0, 1]), (69, .goto (-30), 3, [39]), (72, .iload_n 1, 1, [1]), (73, .ireturn, 1, [0])]
def gN_figures : List (mv_C H2) := [((0, 0), cN_isByte)]
def nN_figures : List (mv_MD × Bool) := [(mdN_isByte, true)]
def tN_number : List mv_E := [(0, .aload_n 0, 1, [0]), (1, .invokevirtual 255, 3, [0, 0, 1, 0, 6, 128, 6, 130, 1, 8, 6, 131, 0, 64]), (4, .istore_n 3, 1, [3]), (5, .aload_n 0, 1, [0]), (6, .iload_n 3, 1, [3]), (7, .i2l, 1, []), (8, .iload_n 1, 1, [1]), (9, .i2l, 1, []), (10, .iload_n 2, 1, [2]), (11, .i2l, 1, []), (12, .invokestatic 59, 3, [0, 1, 3, 1, 5, 19, 5, 20, 1, 8, 5, 21]), (15, .invokevirtual 258, 3, [0, 2, 2, 0, 6, 115, 6, 117, 1, 8, 6, 118, 0, 61]), (18, .iload_n 3, 1, [3]), (19, .ireturn, 1, [0])]
def gN_number : List (mv_C H2) := [((0, 0), cN_figures), ((0, 0), cN_in), ((0, 0), cN_must)]
def nN_number : List (mv_MD × Bool) := [(mdN_figures, true), (mdN_in, false), (mdN_must, true)]
def tN_kindHere : List mv_E := [(0, .aload_n 0, 1, [0]), (1, .ldc_w 262, 3, [1, 17]), (4, .invokevirtual 264, 3, [0, 0, 2, 0, 6, 92, 6, 94, 1, 8, 6, 95, 0, 58]), (7, .ifCond .eq 7, 3, [14]), (10, .iconst 0, 1, [0, 0]), (11, .goto 32, 3, [43]), (14, .aload_n 0, 1, [0]), (15, .ldc_w 268, 3, [1, 18]), (18, .invokevirtual 264, 3, [0, 0, 2, 0, 6, 92, 6, 94, 1, 8, 6, 95, 0, 58]), (21, .ifCond .eq 7, 3, [28]), (24, .iconst 1, 1, [0, 1]), (25, .goto 18, 3, [43]), (28, .aload_n 0, 1, [0]), (29, .ldc_w 270, 3, [1, 19]), (32, .invokevirtual 264, 3, [0, 0, 2, 0, 6, 92, 6, 94, 1, 8, 6, 95, 0, 58]), (35, .ifCond .eq 7, 3, [42]), (38, .iconst 2, 1, [0, 2]), (39, .goto 4, 3, [43]), (42, .iconst (-1), 1, [1, 1]), (43, .istore_n 1, 1, [1]), (44, .iload_n 1, 1, [1]), (45, .ifCond .lt 7, 3, [52]), (48, .iload_n 1, 1, [1]), (49, .goto 46, 3, [95]), (52, .aload_n 0, 1, [0]), (53, .ldc_w 272, 3, [1, 20]), (56, .invokevirtual 264, 3, [0, 0, 2, 0, 6, 92, 6, 94, 1, 8, 6, 95, 0, 58]), (59, .ifCond .eq 7, 3, [66]), (62, .iconst 3, 1, [0, 3]), (63, .goto 32, 3, [95]), (66, .aload_n 0, 1, [0]), (67, .ldc_w 274, 3, [1, 21]), (70, .invokevirtual 264, 3, [0, 0, 2, 0, 6, 92, 6, 94, 1, 8, 6, 95, 0, 58]), (73, .ifCond .eq 7, 3, [80]), (76, .iconst 4, 1, [0, 4]), (77, .goto 18, 3, [95]), (80, .aload_n 0, 1, [0]), (81, .ldc_w 276, 3, [1, 22]), (84, .invokevirtual 264, 3, [0, 0, 2, 0, 6, 92, 6, 94, 1, 8, 6, 95, 0, 58]), (87, .ifCond .eq 7, 3, [94]), (90, .iconst 5, 1, [0, 5]), (91, .goto 4, 3, [95]), (94, .iconst (-1), 1, [1, 1]), (95, .ireturn, 1, [0])]
def gN_kindHere : List (mv_C H2) := [((0, 0), cN_isWord)]
def nN_kindHere : List (mv_MD × Bool) := [(mdN_isWord, true)]
def tN_takes : List mv_E := [(0, .aload_n 0, 1, [0]), (1, .aload_n 1, 1, [1]), (2, .invokevirtual 264, 3, [0, 0, 2, 0, 6, 92, 6, 94, 1, 8, 6, 95, 0, 58]), (5, .istore_n 2, 1, [2]), (6, .iload_n 2, 1, [2]), (7, .ifCond .eq 8, 3, [15]), (10, .aload_n 0, 1, [0]), (11, .iconst 1, 1, [0, 1]), (12, .invokevirtual 258, 3, [0, 1, 2, 0, 6, 115, 6, 117, 1, 8, 6, 118, 0, 61]), (15, .iload_n 2, 1, [2]), (16, .ireturn, 1, [1])]
def gN_takes : List (mv_C H2) := [((0, 0), cN_isWord), ((0, 0), cN_must)]
def nN_takes : List (mv_MD × Bool) := [(mdN_isWord, true), (mdN_must, true)]
def tN_clothTold : List mv_E := [(0, .aload_n 0, 1, [0]), (1, .aload_n 0, 1, [0]), (2, .getfield 16, 3, [8, 2, 1, 0, 4, 180]), (5, .bipush 6, 2, [0, 6]), (7, .iaload, 1, []), (8, .bipush 8, 2, [0, 8]), (10, .if_icmp .ge 7, 3, [17]), (13, .iconst 1, 1, [0, 1]), (14, .goto 4, 3, [18]), (17, .iconst 0, 1, [0, 0]), (18, .invokevirtual 258, 3, [0, 0, 2, 0, 6, 115, 6, 117, 1, 8, 6, 118, 0, 61]), (21, .iconst (-1), 1, [1, 1]), (22, .istore_n 2, 1, [2]), (23, .iconst 0, 1, [0, 0]), (24, .istore_n 3, 1, [3]), (25, .aload_n 0, 1, [0]), (26, .ldc_w 278, 3, [1, 23]), (29, .invokevirtual 280, 3, [0, 1, 2, 0, 6, 120, 6, 122, 1, 8, 6, 123, 0, 62]), (32, .ifCond .eq 34, 3, [66]), (35, .aload_n 0, 1, [0]), (36, .iconst 0, 1, [0, 0]), (37, .bipush 9, 2, [0, 9]), (39, .invokevirtual 283, 3, [0, 2, 3, 0, 6, 124, 6, 126, 1, 8, 6, 127, 0, 63]), (42, .istore_n 2, 1, [2]), (43, .aload_n 0, 1, [0]), (44, .ldc_w 286, 3, [1, 24]), (47, .invokevirtual 280, 3, [0, 1, 2, 0, 6, 120, 6, 122, 1, 8, 6, 123, 0, 62]), (50, .ifCond .eq 13, 3, [63]), (53, .aload_n 0, 1, [0]), (54, .iconst 1, 1, [0, 1]), (55, .bipush 99, 2, [0, 99]), (57, .invokevirtual 283, 3, [0, 2, 3, 0, 6, 124, 6, 126, 1, 8, 6, 127, 0, 63]), (60, .goto 5, 3, [65]), (63, .bipush 20, 2, [0, 20]), (65, .istore_n 3, 1, [3]), (66, .aload_n 0, 1, [0]), (67, .ldc_w 288, 3, [1, 25]), (70, .invokevirtual 280, 3, [0, 1, 2, 0, 6, 120, 6, 122, 1, 8, 6, 123, 0, 62]), (73, .ifCond .eq 7, 3, [80]), (76, .iconst 1, 1, [0, 1]), (77, .goto 4, 3, [81]), (80, .iconst 0, 1, [0, 0]), (81, .istore 4, 2, [4]), (83, .aload_n 0, 1, [0]), (84, .getfield 239, 3, [8, 10, 2, 0, 4, 188]), (87, .ifCond .ne 54, 3, [141]), (90, .aload_n 0, 1, [0]), (91, .iload_n 1, 1, [1]), (92, .invokevirtual 92, 3, [0, 3, 2, 0, 5, 62, 5, 64, 1, 8, 5, 65, 0, 27]), (95, .aload_n 0, 1, [0]), (96, .aload_n 0, 1, [0]), (97, .getfield 16, 3, [8, 2, 1, 0, 4, 180]), (100, .bipush 6, 2, [0, 6]), (102, .iaload, 1, []), (103, .iconst 1, 1, [0, 1]), (104, .isub, 1, []), (105, .iconst 1, 1, [0, 1]), (106, .iload_n 2, 1, [2]), (107, .invokevirtual 85, 3, [0, 4, 4, 0, 5, 66, 5, 68, 1, 8, 5, 69, 0, 28]), (110, .aload_n 0, 1, [0]), (111, .aload_n 0, 1, [0]), (112, .getfield 16, 3, [8, 2, 1, 0, 4, 180]), (115, .bipush 6, 2, [0, 6]), (117, .iaload, 1, []), (118, .iconst 1, 1, [0, 1]), (119, .isub, 1, []), (120, .iconst 2, 1, [0, 2]), (121, .iload_n 3, 1, [3]), (122, .invokevirtual 85, 3, [0, 4, 4, 0, 5, 66, 5, 68, 1, 8, 5, 69, 0, 28]), (125, .aload_n 0, 1, [0]), (126, .aload_n 0, 1, [0]), (127, .getfield 16, 3, [8, 2, 1, 0, 4, 180]), (130, .bipush 6, 2, [0, 6]), (132, .iaload, 1, []), (133, .iconst 1, 1, [0, 1]), (134, .isub, 1, []), (135, .iconst 3, 1, [0, 3]), (136, .iload 4, 2, [4]), (138, .invokevirtual 85, 3, [0, 4, 4, 0, 5, 66, 5, 68, 1, 8, 5, 69, 0, 28]), (141, .return_, 1, [])]
def gN_clothTold : List (mv_C H2) := [((0, 0), cN_must), ((0, 0), cN_takes), ((0, 0), cN_number), ((0, 0), cN_adds), ((0, 0), cN_sets)]
def nN_clothTold : List (mv_MD × Bool) := [(mdN_must, true), (mdN_takes, true), (mdN_number, true), (mdN_adds, true), (mdN_sets, true)]
def tN_twoTold : List mv_E := [(0, .aload_n 0, 1, [0]), (1, .iconst 1, 1, [0, 1]), (2, .invokevirtual 258, 3, [0, 0, 2, 0, 6, 115, 6, 117, 1, 8, 6, 118, 0, 61]), (5, .aload_n 0, 1, [0]), (6, .iconst 0, 1, [0, 0]), (7, .iload_n 2, 1, [2]), (8, .invokevirtual 283, 3, [0, 1, 3, 0, 6, 124, 6, 126, 1, 8, 6, 127, 0, 63]), (11, .istore 5, 2, [5]), (13, .aload_n 3, 1, [3]), (14, .invokevirtual 243, 3, [0, 2, 1, 0, 6, 96, 2, 37, 1, 9, 2, 39, 2, 38]), (17, .ifCond .le 12, 3, [29]), (20, .aload_n 0, 1, [0]), (21, .aload_n 0, 1, [0]), (22, .aload_n 3, 1, [3]), (23, .invokevirtual 264, 3, [0, 3, 2, 0, 6, 92, 6, 94, 1, 8, 6, 95, 0, 58]), (26, .invokevirtual 258, 3, [0, 0, 2, 0, 6, 115, 6, 117, 1, 8, 6, 118, 0, 61]), (29, .aload_n 0, 1, [0]), (30, .iconst 0, 1, [0, 0]), (31, .iload 4, 2, [4]), (33, .invokevirtual 283, 3, [0, 1, 3, 0, 6, 124, 6, 126, 1, 8, 6, 127, 0, 63]), (36, .istore 6, 2, [6]), (38, .aload_n 0, 1, [0]), (39, .getfield 239, 3, [8, 10, 2, 0, 4, 188]), (42, .ifCond .ne 14, 3, [56]), (45, .aload_n 0, 1, [0]), (46, .getfield 16, 3, [8, 2, 1, 0, 4, 180]), (49, .iload_n 1, 1, [1]), (50, .iload 5, 2, [5]), (52, .iadd, 1, []), (53, .iload 6, 2, [6]), (55, .iastore, 1, []), (56, .return_, 1, [])]
def gN_twoTold : List (mv_C H2) := [((0, 0), cN_must), ((0, 0), cN_number), ((0, 0), cK0_length_8abf5), ((0, 0), cN_isWord)]
def nN_twoTold : List (mv_MD × Bool) := [(mdN_must, true), (mdN_number, true), (mdK0_length_8abf5, true), (mdN_isWord, true)]
def tN_lawTold : List mv_E := [(0, .aload_n 0, 1, [0]), (1, .iconst 0, 1, [0, 0]), (2, .aload_n 0, 1, [0]), (3, .getfield 9, 3, [8, 0, 1, 0, 4, 178]), (6, .iload_n 1, 1, [1]), (7, .iaload, 1, []), (8, .invokevirtual 283, 3, [0, 0, 3, 0, 6, 124, 6, 126, 1, 8, 6, 127, 0, 63]), (11, .istore_n 2, 1, [2]), (12, .aload_n 0, 1, [0]), (13, .getfield 239, 3, [8, 10, 2, 0, 4, 188]), (16, .ifCond .ne 10, 3, [26]), (19, .aload_n 0, 1, [0]), (20, .getfield 16, 3, [8, 2, 1, 0, 4, 180]), (23, .iload_n 1, 1, [1]), (24, .iload_n 2, 1, [2]), (25, .iastore, 1, []), (26, .return_, 1, [])]
def gN_lawTold : List (mv_C H2) := [((0, 0), cN_number)]
def nN_lawTold : List (mv_MD × Bool) := [(mdN_number, true)]
def tN_lawHere : List mv_E := [(0, .aload_n 0, 1, [0]), (1, .ldc_w 290, 3, [1, 26]), (4, .invokevirtual 264, 3, [0, 0, 2, 0, 6, 92, 6, 94, 1, 8, 6, 95, 0, 58]), (7, .ifCond .eq 7, 3, [14]), (10, .iconst 0, 1, [0, 0]), (11, .goto 46, 3, [57]), (14, .aload_n 0, 1, [0]), (15, .ldc_w 292, 3, [1, 27]), (18, .invokevirtual 264, 3, [0, 0, 2, 0, 6, 92, 6, 94, 1, 8, 6, 95, 0, 58]), (21, .ifCond .eq 7, 3, [28]), (24, .iconst 1, 1, [0, 1]), (25, .goto 32, 3, [57]), (28, .aload_n 0, 1, [0]), (29, .ldc_w 294, 3, [1, 28]), (32, .invokevirtual 264, 3, [0, 0, 2, 0, 6, 92, 6, 94, 1, 8, 6, 95, 0, 58]), (35, .ifCond .eq 7, 3, [42]), (38, .iconst 2, 1, [0, 2]), (39, .goto 18, 3, [57]), (42, .aload_n 0, 1, [0]), (43, .ldc_w 296, 3, [1, 29]), (46, .invokevirtual 264, 3, [0, 0, 2, 0, 6, 92, 6, 94, 1, 8, 6, 95, 0, 58]), (49, .ifCond .eq 7, 3, [56]), (52, .iconst 3, 1, [0, 3]), (53, .goto 4, 3, [57]), (56, .iconst (-1), 1, [1, 1]), (57, .ireturn, 1, [0])]
def gN_lawHere : List (mv_C H2) := [((0, 0), cN_isWord)]
def nN_lawHere : List (mv_MD × Bool) := [(mdN_isWord, true)]
def tN_item : List mv_E := [(0, .aload_n 0, 1, [0]), (1, .invokevirtual 298, 3, [0, 0, 1, 0, 6, 87, 6, 89, 1, 8, 6, 90, 0, 57]), (4, .istore_n 1, 1, [1]), (5, .aload_n 0, 1, [0]), (6, .invokevirtual 301, 3, [0, 1, 1, 0, 6, 103, 6, 105, 1, 8, 6, 106, 0, 59]), (9, .istore_n 2, 1, [2]), (10, .iload_n 1, 1, [1]), (11, .ifCond .lt 11, 3, [22]), (14, .aload_n 0, 1, [0]), (15, .iload_n 1, 1, [1]), (16, .invokevirtual 304, 3, [0, 2, 2, 0, 6, 111, 6, 113, 1, 8, 6, 114, 0, 60]), (19, .goto 102, 3, [121]), (22, .aload_n 0, 1, [0]), (23, .ldc_w 307, 3, [1, 30]), (26, .invokevirtual 264, 3, [0, 3, 2, 0, 6, 92, 6, 94, 1, 8, 6, 95, 0, 58]), (29, .ifCond .eq 19, 3, [48]), (32, .aload_n 0, 1, [0]), (33, .bipush 7, 2, [0, 7]), (35, .bipush 7, 2, [0, 7]), (37, .ldc_w 309, 3, [1, 31]), (40, .bipush 9, 2, [0, 9]), (42, .invokevirtual 311, 3, [0, 4, 5, 0, 6, 136, 6, 138, 1, 8, 6, 139, 0, 65]), (45, .goto 76, 3, [121]), (48, .aload_n 0, 1, [0]), (49, .ldc_w 315, 3, [1, 32]), (52, .invokevirtual 264, 3, [0, 3, 2, 0, 6, 92, 6, 94, 1, 8, 6, 95, 0, 58]), (55, .ifCond .eq 19, 3, [74]), (58, .aload_n 0, 1, [0]), (59, .bipush 15, 2, [0, 15]), (61, .bipush 7, 2, [0, 7]), (63, .ldc_w 317, 3, [1, 33]), (66, .bipush 9, 2, [0, 9]), (68, .invokevirtual 311, 3, [0, 4, 5, 0, 6, 136, 6, 138, 1, 8, 6, 139, 0, 65]), (71, .goto 50, 3, [121]), (74, .aload_n 0, 1, [0]), (75, .ldc_w 319, 3, [1, 34]), (78, .invokevirtual 264, 3, [0, 3, 2, 0, 6, 92, 6, 94, 1, 8, 6, 95, 0, 58]), (81, .ifCond .eq 18, 3, [99]), (84, .aload_n 0, 1, [0]), (85, .bipush 23, 2, [0, 23]), (87, .iconst 5, 1, [0, 5]), (88, .ldc_w 307, 3, [1, 30]), (91, .bipush 7, 2, [0, 7]), (93, .invokevirtual 311, 3, [0, 4, 5, 0, 6, 136, 6, 138, 1, 8, 6, 139, 0, 65]), (96, .goto 25, 3, [121]), (99, .aload_n 0, 1, [0]), (100, .iload_n 2, 1, [2]), (101, .ifCond .lt 7, 3, [108]), (104, .iconst 1, 1, [0, 1]), (105, .goto 4, 3, [109]), (108, .iconst 0, 1, [0, 0]), (109, .invokevirtual 258, 3, [0, 5, 2, 0, 6, 115, 6, 117, 1, 8, 6, 118, 0, 61]), (112, .aload_n 0, 1, [0]), (113, .iconst 0, 1, [0, 0]), (114, .iload_n 2, 1, [2]), (115, .invokestatic 122, 3, [1, 5, 135, 5, 136, 1, 14, 5, 137]), (118, .invokevirtual 321, 3, [0, 6, 2, 0, 6, 143, 6, 145, 1, 8, 6, 146, 0, 66]), (121, .aload_n 0, 1, [0]), (122, .aload_n 0, 1, [0]), (123, .ldc_w 324, 3, [1, 35]), (126, .invokevirtual 264, 3, [0, 3, 2, 0, 6, 92, 6, 94, 1, 8, 6, 95, 0, 58]), (129, .invokevirtual 258, 3, [0, 5, 2, 0, 6, 115, 6, 117, 1, 8, 6, 118, 0, 61]), (132, .return_, 1, [])]
def gN_item : List (mv_C H2) := [((0, 0), cN_kindHere), ((0, 0), cN_lawHere), ((0, 0), cN_clothTold), ((0, 0), cN_isWord), ((0, 0), cN_twoTold), ((0, 0), cN_must), ((0, 0), cN_lawTold)]
def nN_item : List (mv_MD × Bool) := [(mdN_kindHere, true), (mdN_lawHere, true), (mdN_clothTold, true), (mdN_isWord, true), (mdN_twoTold, true), (mdN_must, true), (mdN_lawTold, true)]
def tN_mill : List mv_E := [(0, .aload_n 0, 1, [0]), (1, .invokevirtual 161, 3, [0, 0, 1, 0, 5, 180, 5, 182, 1, 8, 5, 183, 0, 42]), (4, .aload_n 0, 1, [0]), (5, .invokevirtual 52, 3, [0, 1, 1, 0, 4, 174, 4, 176, 1, 8, 4, 177, 0, 25]), (8, .aload_n 0, 1, [0]), (9, .iconst 0, 1, [0, 0]), (10, .putfield 239, 3, [8, 10, 2, 0, 4, 188]), (13, .aload_n 0, 1, [0]), (14, .iconst 0, 1, [0, 0]), (15, .putfield 230, 3, [8, 9, 0, 0, 4, 187]), (18, .aload_n 0, 1, [0]), (19, .invokevirtual 252, 3, [0, 2, 1, 0, 6, 75, 6, 77, 1, 8, 6, 78, 0, 54]), (22, .aload_n 0, 1, [0]), (23, .getfield 239, 3, [8, 10, 2, 0, 4, 188]), (26, .ifCond .ne 21, 3, [47]), (29, .aload_n 0, 1, [0]), (30, .getfield 233, 3, [8, 8, 0, 0, 4, 186]), (33, .aload_n 0, 1, [0]), (34, .getfield 224, 3, [8, 7, 0, 0, 4, 185]), (37, .if_icmp .ge 10, 3, [47]), (40, .aload_n 0, 1, [0]), (41, .invokevirtual 326, 3, [0, 3, 1, 0, 6, 83, 6, 85, 1, 8, 6, 86, 0, 56]), (44, .goto (-22), 3, [22]), (47, .aload_n 0, 1, [0]), (48, .iconst 0, 1, [0, 0]), (49, .putfield 224, 3, [8, 7, 0, 0, 4, 185]), (52, .aload_n 0, 1, [0]), (53, .getfield 239, 3, [8, 10, 2, 0, 4, 188]), (56, .ifCond .eq 15, 3, [71]), (59, .aload_n 0, 1, [0]), (60, .invokevirtual 164, 3, [0, 4, 1, 0, 5, 187, 5, 189, 1, 8, 5, 190, 0, 43]), (63, .bipush (-100), 2, [1, 100]), (65, .aload_n 0, 1, [0]), (66, .getfield 233, 3, [8, 8, 0, 0, 4, 186]), (69, .isub, 1, []), (70, .ireturn, 1, [0]), (71, .aload_n 0, 1, [0]), (72, .iconst 0, 1, [0, 0]), (73, .putfield 329, 3, [8, 12, 0, 0, 4, 190]), (76, .aload_n 0, 1, [0]), (77, .getfield 16, 3, [8, 2, 1, 0, 4, 180]), (80, .bipush 6, 2, [0, 6]), (82, .iaload, 1, []), (83, .ireturn, 1, [0])]
def gN_mill : List (mv_C H2) := [((0, 0), cN_lends), ((0, 0), cN_anew), ((0, 0), cN_next), ((0, 0), cN_item), ((0, 0), cN_laysBack)]
def nN_mill : List (mv_MD × Bool) := [(mdN_lends, true), (mdN_anew, true), (mdN_next, true), (mdN_item, true), (mdN_laysBack, true)]
def tN_prove : List mv_E := [(0, .aload_n 0, 1, [0]), (1, .iload_n 1, 1, [1]), (2, .invokevirtual 96, 3, [0, 0, 2, 0, 5, 74, 5, 76, 1, 8, 5, 77, 0, 29]), (5, .ifCond .eq 15, 3, [20]), (8, .iload_n 2, 1, [2]), (9, .i2l, 1, []), (10, .lconst 1, 1, [0, 1]), (11, .ldc2_w 332, 3, [0, 10, 6, 152]), (14, .invokestatic 59, 3, [0, 1, 3, 1, 5, 19, 5, 20, 1, 8, 5, 21]), (17, .ifCond .ne 5, 3, [22]), (20, .iconst (-1), 1, [1, 1]), (21, .ireturn, 1, [0]), (22, .aload_n 0, 1, [0]), (23, .invokevirtual 161, 3, [0, 2, 1, 0, 5, 180, 5, 182, 1, 8, 5, 183, 0, 42]), (26, .iconst 0, 1, [0, 0]), (27, .istore_n 3, 1, [3]), (28, .iload_n 3, 1, [3]), (29, .iload_n 2, 1, [2]), (30, .if_icmp .ge 60, 3, [90]), (33, .aload_n 0, 1, [0]), (34, .iconst 1, 1, [0, 1]), (35, .invokevirtual 145, 3, [0, 3, 2, 0, 5, 146, 5, 148, 1, 8, 5, 149, 0, 37]), (38, .aload_n 0, 1, [0]), (39, .getfield 28, 3, [8, 11, 1, 0, 4, 189]), (42, .iconst 3, 1, [0, 3]), (43, .iload_n 3, 1, [3]), (44, .imul, 1, []), (45, .iconst 1, 1, [0, 1]), (46, .aload_n 0, 1, [0]), (47, .iload_n 1, 1, [1]), (48, .iconst 1, 1, [0, 1]), (49, .invokevirtual 82, 3, [0, 4, 3, 0, 5, 79, 5, 81, 1, 8, 5, 82, 0, 30]), (52, .iadd, 1, []), (53, .iastore, 1, []), (54, .aload_n 0, 1, [0]), (55, .getfield 28, 3, [8, 11, 1, 0, 4, 189]), (58, .iconst 3, 1, [0, 3]), (59, .iload_n 3, 1, [3]), (60, .imul, 1, []), (61, .iconst 1, 1, [0, 1]), (62, .iadd, 1, []), (63, .aload_n 0, 1, [0]), (64, .iload_n 1, 1, [1]), (65, .iconst 2, 1, [0, 2]), (66, .invokevirtual 82, 3, [0, 4, 3, 0, 5, 79, 5, 81, 1, 8, 5, 82, 0, 30]), (69, .iastore, 1, []), (70, .aload_n 0, 1, [0]), (71, .getfield 28, 3, [8, 11, 1, 0, 4, 189]), (74, .iconst 3, 1, [0, 3]), (75, .iload_n 3, 1, [3]), (76, .imul, 1, []), (77, .iconst 2, 1, [0, 2]), (78, .iadd, 1, []), (79, .aload_n 0, 1, [0]), (80, .invokevirtual 148, 3, [0, 5, 1, 0, 5, 154, 5, 156, 1, 8, 5, 157, 0, 39]), (83, .iastore, 1, []), (84, .iinc 3 1, 3, [3, 0, 1]), (87, .goto (-59), 3, [28]), (90, .aload_n 0, 1, [0]), (91, .invokevirtual 164, 3, [0, 6, 1, 0, 5, 187, 5, 189, 1, 8, 5, 190, 0, 43]), (94, .aload_n 0, 1, [0]), (95, .iload_n 2, 1, [2]), (96, .putfield 329, 3, [8, 12, 0, 0, 4, 190]), (99, .iload_n 2, 1, [2]), (100, .ireturn, 1, [0])]
def gN_prove : List (mv_C H2) := [((0, 0), cN_isCloth), ((0, 0), cN_in), ((0, 0), cN_lends), ((0, 0), cN_goes), ((0, 0), cN_its), ((0, 0), cN_depths), ((0, 0), cN_laysBack)]
def nN_prove : List (mv_MD × Bool) := [(mdN_isCloth, true), (mdN_in, false), (mdN_lends, true), (mdN_goes, true), (mdN_its, true), (mdN_depths, true), (mdN_laysBack, true)]
def tN_isCell : List mv_E := [(0, .iload_n 1, 1, [1]), (1, .i2l, 1, []), (2, .lconst 0, 1, [0, 0]), (3, .aload_n 0, 1, [0]), (4, .getfield 329, 3, [8, 12, 0, 0, 4, 190]), (7, .iconst 1, 1, [0, 1]), (8, .isub, 1, []), (9, .i2l, 1, []), (10, .invokestatic 59, 3, [0, 0, 3, 1, 5, 19, 5, 20, 1, 8, 5, 21]), (13, .ifCond .eq 19, 3, [32]), (16, .iload_n 2, 1, [2]), (17, .i2l, 1, []), (18, .lconst 0, 1, [0, 0]), (19, .ldc2_w 101, 3, [0, 2, 5, 87]), (22, .invokestatic 59, 3, [0, 0, 3, 1, 5, 19, 5, 20, 1, 8, 5, 21]), (25, .ifCond .eq 7, 3, [32]), (28, .iconst 1, 1, [0, 1]), (29, .goto 4, 3, [33]), (32, .iconst 0, 1, [0, 0]), (33, .ireturn, 1, [1])]
def gN_isCell : List (mv_C H2) := [((0, 0), cN_in)]
def nN_isCell : List (mv_MD × Bool) := [(mdN_in, false)]
def tN_row : List mv_E := [(0, .aload_n 0, 1, [0]), (1, .iload_n 1, 1, [1]), (2, .iload_n 2, 1, [2]), (3, .invokevirtual 334, 3, [0, 0, 3, 0, 6, 157, 6, 159, 1, 8, 6, 160, 0, 67]), (6, .ifCond .eq 16, 3, [22]), (9, .aload_n 0, 1, [0]), (10, .getfield 28, 3, [8, 11, 1, 0, 4, 189]), (13, .iconst 3, 1, [0, 3]), (14, .iload_n 1, 1, [1]), (15, .imul, 1, []), (16, .iload_n 2, 1, [2]), (17, .iadd, 1, []), (18, .iaload, 1, []), (19, .goto 5, 3, [24]), (22, .bipush (-9), 2, [1, 9]), (24, .ireturn, 1, [0])]
def gN_row : List (mv_C H2) := [((0, 0), cN_isCell)]
def nN_row : List (mv_MD × Bool) := [(mdN_isCell, true)]
def tN_alterRow : List mv_E := [(0, .aload_n 0, 1, [0]), (1, .iload_n 1, 1, [1]), (2, .iload_n 2, 1, [2]), (3, .invokevirtual 334, 3, [0, 0, 3, 0, 6, 157, 6, 159, 1, 8, 6, 160, 0, 67]), (6, .ifCond .ne 6, 3, [12]), (9, .bipush (-9), 2, [1, 9]), (11, .ireturn, 1, [0]), (12, .aload_n 0, 1, [0]), (13, .getfield 28, 3, [8, 11, 1, 0, 4, 189]), (16, .iconst 3, 1, [0, 3]), (17, .iload_n 1, 1, [1]), (18, .imul, 1, []), (19, .iload_n 2, 1, [2]), (20, .iadd, 1, []), (21, .iaload, 1, []), (22, .istore 4, 2, [4]), (24, .aload_n 0, 1, [0]), (25, .getfield 28, 3, [8, 11, 1, 0, 4, 189]), (28, .iconst 3, 1, [0, 3]), (29, .iload_n 1, 1, [1]), (30, .imul, 1, []), (31, .iload_n 2, 1, [2]), (32, .iadd, 1, []), (33, .iload_n 3, 1, [3]), (34, .iastore, 1, []), (35, .iload 4, 2, [4]), (37, .ireturn, 1, [0])]
def gN_alterRow : List (mv_C H2) := [((0, 0), cN_isCell)]
def nN_alterRow : List (mv_MD × Bool) := [(mdN_isCell, true)]
def tN_isRight : List mv_E := [(0, .aload_n 0, 1, [0]), (1, .iconst 1, 1, [0, 1]), (2, .invokevirtual 145, 3, [0, 0, 2, 0, 5, 146, 5, 148, 1, 8, 5, 149, 0, 37]), (5, .aload_n 0, 1, [0]), (6, .getfield 28, 3, [8, 11, 1, 0, 4, 189]), (9, .iconst 3, 1, [0, 3]), (10, .iload_n 2, 1, [2]), (11, .imul, 1, []), (12, .iaload, 1, []), (13, .iconst 1, 1, [0, 1]), (14, .aload_n 0, 1, [0]), (15, .iload_n 1, 1, [1]), (16, .iconst 1, 1, [0, 1]), (17, .invokevirtual 82, 3, [0, 1, 3, 0, 5, 79, 5, 81, 1, 8, 5, 82, 0, 30]), (20, .iadd, 1, []), (21, .if_icmp .ne 43, 3, [64]), (24, .aload_n 0, 1, [0]), (25, .getfield 28, 3, [8, 11, 1, 0, 4, 189]), (28, .iconst 3, 1, [0, 3]), (29, .iload_n 2, 1, [2]), (30, .imul, 1, []), (31, .iconst 1, 1, [0, 1]), (32, .iadd, 1, []), (33, .iaload, 1, []), (34, .aload_n 0, 1, [0]), (35, .iload_n 1, 1, [1]), (36, .iconst 2, 1, [0, 2]), (37, .invokevirtual 82, 3, [0, 1, 3, 0, 5, 79, 5, 81, 1, 8, 5, 82, 0, 30]), (40, .if_icmp .ne 24, 3, [64]), (43, .aload_n 0, 1, [0]), (44, .getfield 28, 3, [8, 11, 1, 0, 4, 189]), (47, .iconst 3, 1, [0, 3]), (48, .iload_n 2, 1, [2]), (49, .imul, 1, []), (50, .iconst 2, 1, [0, 2]), (51, .iadd, 1, []), (52, .iaload, 1, []), (53, .aload_n 0, 1, [0]), (54, .invokevirtual 148, 3, [0, 2, 1, 0, 5, 154, 5, 156, 1, 8, 5, 157, 0, 39]), (57, .if_icmp .ne 7, 3, [64]), (60, .iconst 1, 1, [0, 1]), (61, .goto 4, 3, [65]), (64, .iconst 0, 1, [0, 0]), (65, .ireturn, 1, [1])]
def gN_isRight : List (mv_C H2) := [((0, 0), cN_goes), ((0, 0), cN_its), ((0, 0), cN_depths)]
def nN_isRight : List (mv_MD × Bool) := [(mdN_goes, true), (mdN_its, true), (mdN_depths, true)]
def tN_judge : List mv_E := [(0, .aload_n 0, 1, [0]), (1, .iload_n 1, 1, [1]), (2, .invokevirtual 96, 3, [0, 0, 2, 0, 5, 74, 5, 76, 1, 8, 5, 77, 0, 29]), (5, .ifCond .ne 5, 3, [10]), (8, .iconst (-1), 1, [1, 1]), (9, .ireturn, 1, [0]), (10, .aload_n 0, 1, [0]), (11, .invokevirtual 161, 3, [0, 1, 1, 0, 5, 180, 5, 182, 1, 8, 5, 183, 0, 42]), (14, .iconst 0, 1, [0, 0]), (15, .istore_n 2, 1, [2]), (16, .iload_n 2, 1, [2]), (17, .aload_n 0, 1, [0]), (18, .getfield 329, 3, [8, 12, 0, 0, 4, 190]), (21, .if_icmp .ge 18, 3, [39]), (24, .aload_n 0, 1, [0]), (25, .iload_n 1, 1, [1]), (26, .iload_n 2, 1, [2]), (27, .invokevirtual 337, 3, [0, 2, 3, 0, 6, 169, 6, 171, 1, 8, 6, 172, 0, 68]), (30, .ifCond .eq 9, 3, [39]), (33, .iinc 2 1, 3, [2, 0, 1]), (36, .goto (-20), 3, [16]), (39, .aload_n 0, 1, [0]), (40, .invokevirtual 164, 3, [0, 3, 1, 0, 5, 187, 5, 189, 1, 8, 5, 190, 0, 43]), (43, .iload_n 2, 1, [2]), (44, .aload_n 0, 1, [0]), (45, .getfield 329, 3, [8, 12, 0, 0, 4, 190]), (48, .if_icmp .ge 9, 3, [57]), (51, .iload_n 2, 1, [2]), (52, .iconst 1, 1, [0, 1]), (53, .iadd, 1, []), (54, .goto 4, 3, [58]), (57, .iconst 0, 1, [0, 0]), (58, .ireturn, 1, [0])]
def gN_judge : List (mv_C H2) := [((0, 0), cN_isCloth), ((0, 0), cN_lends), ((0, 0), cN_isRight), ((0, 0), cN_laysBack)]
def nN_judge : List (mv_MD × Bool) := [(mdN_isCloth, true), (mdN_lends, true), (mdN_isRight, true), (mdN_laysBack, true)]
def tN_minds : List mv_E := [(0, .iload_n 1, 1, [1]), (1, .invokestatic 209, 3, [0, 0, 1, 1, 6, 46, 6, 47, 1, 8, 6, 48]), (4, .ifCond .eq 38, 3, [42]), (7, .aload_n 0, 1, [0]), (8, .iload_n 3, 1, [3]), (9, .invokevirtual 96, 3, [0, 1, 2, 0, 5, 74, 5, 76, 1, 8, 5, 77, 0, 29]), (12, .ifCond .eq 30, 3, [42]), (15, .iload 4, 2, [4]), (17, .i2l, 1, []), (18, .lconst 0, 1, [0, 0]), (19, .ldc2_w 201, 3, [0, 8, 6, 34]), (22, .invokestatic 59, 3, [0, 2, 3, 1, 5, 19, 5, 20, 1, 8, 5, 21]), (25, .ifCond .eq 17, 3, [42]), (28, .iload_n 3, 1, [3]), (29, .iload 4, 2, [4]), (31, .iadd, 1, []), (32, .aload_n 0, 1, [0]), (33, .getfield 16, 3, [8, 2, 1, 0, 4, 180]), (36, .bipush 6, 2, [0, 6]), (38, .iaload, 1, []), (39, .if_icmp .le 5, 3, [44]), (42, .iconst (-1), 1, [1, 1]), (43, .ireturn, 1, [0]), (44, .aload_n 0, 1, [0]), (45, .getfield 31, 3, [8, 13, 1, 0, 4, 191]), (48, .iload_n 1, 1, [1]), (49, .iaload, 1, []), (50, .ifCond .eq 20, 3, [70]), (53, .aload_n 0, 1, [0]), (54, .getfield 31, 3, [8, 13, 1, 0, 4, 191]), (57, .iload_n 1, 1, [1]), (58, .iaload, 1, []), (59, .ifCond .ge 8, 3, [67]), (62, .bipush (-11), 2, [1, 11]), (64, .goto 5, 3, [69]), (67, .bipush (-13), 2, [1, 13]), (69, .ireturn, 1, [0]), (70, .iload_n 2, 1, [2]), (71, .i2l, 1, []), (72, .lconst 0, 1, [0, 0]), (73, .aload_n 0, 1, [0]), (74, .getfield 34, 3, [8, 14, 1, 0, 4, 192]), (77, .iload_n 1, 1, [1]), (78, .iaload, 1, []), (79, .i2l, 1, []), (80, .invokestatic 59, 3, [0, 2, 3, 1, 5, 19, 5, 20, 1, 8, 5, 21]), (83, .ifCond .eq 16, 3, [99]), (86, .iload 4, 2, [4]), (88, .aload_n 0, 1, [0]), (89, .getfield 34, 3, [8, 14, 1, 0, 4, 192]), (92, .iload_n 1, 1, [1]), (93, .iaload, 1, []), (94, .iload_n 2, 1, [2]), (95, .isub, 1, []), (96, .if_icmp .le 6, 3, [102]), (99, .bipush (-12), 2, [1, 12]), (101, .ireturn, 1, [0]), (102, .iconst 0, 1, [0, 0]), (103, .istore 5, 2, [5]), (105, .iload 5, 2, [5]), (107, .iload 4, 2, [4]), (109, .if_icmp .ge 43, 3, [152]), (112, .aload_n 0, 1, [0]), (113, .iload_n 3, 1, [3]), (114, .iload 5, 2, [5]), (116, .iadd, 1, []), (117, .iconst 1, 1, [0, 1]), (118, .invokevirtual 82, 3, [0, 3, 3, 0, 5, 79, 5, 81, 1, 8, 5, 82, 0, 30]), (121, .ifCond .lt 25, 3, [146]), (124, .aload_n 0, 1, [0]), (125, .iload_n 3, 1, [3]), (126, .iload 5, 2, [5]), (128, .iadd, 1, []), (129, .aload_n 0, 1, [0]), (130, .getfield 37, 3, [8, 15, 1, 0, 4, 193]), (133, .bipush 40, 2, [0, 40]), (135, .iload_n 1, 1, [1]), (136, .imul, 1, []), (137, .iload_n 2, 1, [2]), (138, .iadd, 1, []), (139, .iload 5, 2, [5]), (141, .iadd, 1, []), (142, .iaload, 1, []), (143, .invokevirtual 130, 3, [0, 4, 3, 0, 5, 128, 5, 130, 1, 8, 5, 131, 0, 36]), (146, .iinc 5 1, 3, [5, 0, 1]), (149, .goto (-44), 3, [105]), (152, .iload 4, 2, [4]), (154, .ireturn, 1, [0])]
def gN_minds : List (mv_C H2) := [((0, 0), cN_isFour), ((0, 0), cN_isCloth), ((0, 0), cN_in), ((0, 0), cN_its), ((0, 0), cN_isDeep)]
def nN_minds : List (mv_MD × Bool) := [(mdN_isFour, false), (mdN_isCloth, true), (mdN_in, false), (mdN_its, true), (mdN_isDeep, true)]
def tN_sheet : List mv_E := [(0, .iload_n 1, 1, [1]), (1, .invokestatic 209, 3, [0, 0, 1, 1, 6, 46, 6, 47, 1, 8, 6, 48]), (4, .ifCond .eq 27, 3, [31]), (7, .iload_n 2, 1, [2]), (8, .i2l, 1, []), (9, .ldc2_w 216, 3, [1, 1, 6, 57]), (12, .ldc2_w 69, 3, [0, 3, 5, 18]), (15, .invokestatic 59, 3, [0, 1, 3, 1, 5, 19, 5, 20, 1, 8, 5, 21]), (18, .ifCond .eq 13, 3, [31]), (21, .iload_n 2, 1, [2]), (22, .ifCond .lt 11, 3, [33]), (25, .iload_n 3, 1, [3]), (26, .bipush 40, 2, [0, 40]), (28, .if_icmp .le 5, 3, [33]), (31, .iconst (-1), 1, [1, 1]), (32, .ireturn, 1, [0]), (33, .iload_n 2, 1, [2]), (34, .ifCond .lt 10, 3, [44]), (37, .iload_n 3, 1, [3]), (38, .ifCond .ge 6, 3, [44]), (41, .bipush (-14), 2, [1, 14]), (43, .ireturn, 1, [0]), (44, .aload_n 0, 1, [0]), (45, .getfield 31, 3, [8, 13, 1, 0, 4, 191]), (48, .iload_n 1, 1, [1]), (49, .iload_n 2, 1, [2]), (50, .iastore, 1, []), (51, .aload_n 0, 1, [0]), (52, .getfield 34, 3, [8, 14, 1, 0, 4, 192]), (55, .iload_n 1, 1, [1]), (56, .iload_n 2, 1, [2]), (57, .ifCond .ge 7, 3, [64]), (60, .iconst 0, 1, [0, 0]), (61, .goto 4, 3, [65]), (64, .iload_n 3, 1, [3]), (65, .iastore, 1, []), (66, .iconst 0, 1, [0, 0]), (67, .istore 4, 2, [4]), (69, .iload 4, 2, [4]), (71, .bipush 40, 2, [0, 40]), (73, .if_icmp .ge 22, 3, [95]), (76, .aload_n 0, 1, [0]), (77, .getfield 37, 3, [8, 15, 1, 0, 4, 193]), (80, .bipush 40, 2, [0, 40]), (82, .iload_n 1, 1, [1]), (83, .imul, 1, []), (84, .iload 4, 2, [4]), (86, .iadd, 1, []), (87, .iconst 0, 1, [0, 0]), (88, .iastore, 1, []), (89, .iinc 4 1, 3, [4, 0, 1]), (92, .goto (-23), 3, [69]), (95, .iconst 1, 1, [0, 1]), (96, .ireturn, 1, [0])]
def gN_sheet : List (mv_C H2) := [((0, 0), cN_isFour), ((0, 0), cN_in)]
def nN_sheet : List (mv_MD × Bool) := [(mdN_isFour, false), (mdN_in, false)]
def tN_narrowed : List mv_E := [(0, .iload_n 0, 1, [0]), (1, .ifCond .ne 8, 3, [9]), (4, .iload_n 1, 1, [1]), (5, .i2b, 1, []), (6, .goto 14, 3, [20]), (9, .iload_n 0, 1, [0]), (10, .iconst 1, 1, [0, 1]), (11, .if_icmp .ne 8, 3, [19]), (14, .iload_n 1, 1, [1]), (15, .i2s, 1, []), (16, .goto 4, 3, [20]), (19, .iload_n 1, 1, [1]), (20, .ireturn, 1, [0])]
def gN_narrowed : List (mv_C H2) := []
def nN_narrowed : List (mv_MD × Bool) := []
def tN_put : List mv_E := [(0, .iload_n 1, 1, [1]), (1, .invokestatic 209, 3, [0, 0, 1, 1, 6, 46, 6, 47, 1, 8, 6, 48]), (4, .ifCond .ne 5, 3, [9]), (7, .iconst (-1), 1, [1, 1]), (8, .ireturn, 1, [0]), (9, .aload_n 0, 1, [0]), (10, .getfield 31, 3, [8, 13, 1, 0, 4, 191]), (13, .iload_n 1, 1, [1]), (14, .iaload, 1, []), (15, .ifCond .ge 6, 3, [21]), (18, .bipush (-11), 2, [1, 11]), (20, .ireturn, 1, [0]), (21, .iload_n 2, 1, [2]), (22, .i2l, 1, []), (23, .lconst 0, 1, [0, 0]), (24, .aload_n 0, 1, [0]), (25, .getfield 34, 3, [8, 14, 1, 0, 4, 192]), (28, .iload_n 1, 1, [1]), (29, .iaload, 1, []), (30, .iconst 1, 1, [0, 1]), (31, .isub, 1, []), (32, .i2l, 1, []), (33, .invokestatic 59, 3, [0, 1, 3, 1, 5, 19, 5, 20, 1, 8, 5, 21]), (36, .ifCond .ne 6, 3, [42]), (39, .bipush (-12), 2, [1, 12]), (41, .ireturn, 1, [0]), (42, .aload_n 0, 1, [0]), (43, .getfield 37, 3, [8, 15, 1, 0, 4, 193]), (46, .bipush 40, 2, [0, 40]), (48, .iload_n 1, 1, [1]), (49, .imul, 1, []), (50, .iload_n 2, 1, [2]), (51, .iadd, 1, []), (52, .aload_n 0, 1, [0]), (53, .getfield 31, 3, [8, 13, 1, 0, 4, 191]), (56, .iload_n 1, 1, [1]), (57, .iaload, 1, []), (58, .iload_n 3, 1, [3]), (59, .invokestatic 340, 3, [0, 2, 2, 1, 6, 185, 6, 186, 1, 8, 6, 187]), (62, .iastore, 1, []), (63, .iconst 1, 1, [0, 1]), (64, .ireturn, 1, [0])]
def gN_put : List (mv_C H2) := [((0, 0), cN_isFour), ((0, 0), cN_in), ((0, 0), cN_narrowed)]
def nN_put : List (mv_MD × Bool) := [(mdN_isFour, false), (mdN_in, false), (mdN_narrowed, false)]
def tN_item_ : List mv_E := [(0, .iload_n 1, 1, [1]), (1, .invokestatic 209, 3, [0, 0, 1, 1, 6, 46, 6, 47, 1, 8, 6, 48]), (4, .ifCond .eq 15, 3, [19]), (7, .iload_n 2, 1, [2]), (8, .i2l, 1, []), (9, .lconst 0, 1, [0, 0]), (10, .ldc2_w 69, 3, [0, 3, 5, 18]), (13, .invokestatic 59, 3, [0, 1, 3, 1, 5, 19, 5, 20, 1, 8, 5, 21]), (16, .ifCond .ne 5, 3, [21]), (19, .iconst (-1), 1, [1, 1]), (20, .ireturn, 1, [0]), (21, .aload_n 0, 1, [0]), (22, .getfield 31, 3, [8, 13, 1, 0, 4, 191]), (25, .iload_n 1, 1, [1]), (26, .iaload, 1, []), (27, .ifCond .ge 6, 3, [33]), (30, .bipush (-11), 2, [1, 11]), (32, .ireturn, 1, [0]), (33, .aload_n 0, 1, [0]), (34, .getfield 31, 3, [8, 13, 1, 0, 4, 191]), (37, .iload_n 1, 1, [1]), (38, .iaload, 1, []), (39, .iload_n 2, 1, [2]), (40, .if_icmp .eq 6, 3, [46]), (43, .bipush (-13), 2, [1, 13]), (45, .ireturn, 1, [0]), (46, .iload_n 3, 1, [3]), (47, .i2l, 1, []), (48, .lconst 0, 1, [0, 0]), (49, .aload_n 0, 1, [0]), (50, .getfield 34, 3, [8, 14, 1, 0, 4, 192]), (53, .iload_n 1, 1, [1]), (54, .iaload, 1, []), (55, .iconst 1, 1, [0, 1]), (56, .isub, 1, []), (57, .i2l, 1, []), (58, .invokestatic 59, 3, [0, 1, 3, 1, 5, 19, 5, 20, 1, 8, 5, 21]), (61, .ifCond .eq 17, 3, [78]), (64, .aload_n 0, 1, [0]), (65, .getfield 37, 3, [8, 15, 1, 0, 4, 193]), (68, .bipush 40, 2, [0, 40]), (70, .iload_n 1, 1, [1]), (71, .imul, 1, []), (72, .iload_n 3, 1, [3]), (73, .iadd, 1, []), (74, .iaload, 1, []), (75, .goto 5, 3, [80]), (78, .bipush (-12), 2, [1, 12]), (80, .ireturn, 1, [0])]
def gN_item_ : List (mv_C H2) := [((0, 0), cN_isFour), ((0, 0), cN_in)]
def nN_item_ : List (mv_MD × Bool) := [(mdN_isFour, false), (mdN_in, false)]
def tN_shelf : List mv_E := [(0, .iload_n 2, 1, [2]), (1, .ifCond .ne 11, 3, [12]), (4, .aload_n 0, 1, [0]), (5, .iload_n 3, 1, [3]), (6, .invokevirtual 96, 3, [0, 0, 2, 0, 5, 74, 5, 76, 1, 8, 5, 77, 0, 29]), (9, .goto 25, 3, [34]), (12, .iload_n 2, 1, [2]), (13, .iconst 1, 1, [0, 1]), (14, .if_icmp .ne 10, 3, [24]), (17, .iload_n 3, 1, [3]), (18, .invokestatic 209, 3, [0, 1, 1, 1, 6, 46, 6, 47, 1, 8, 6, 48]), (21, .goto 13, 3, [34]), (24, .iload_n 2, 1, [2]), (25, .iconst 2, 1, [0, 2]), (26, .if_icmp .ne 7, 3, [33]), (29, .iconst 1, 1, [0, 1]), (30, .goto 4, 3, [34]), (33, .iconst 0, 1, [0, 0]), (34, .istore 4, 2, [4]), (36, .iload_n 1, 1, [1]), (37, .invokestatic 209, 3, [0, 1, 1, 1, 6, 46, 6, 47, 1, 8, 6, 48]), (40, .ifCond .eq 8, 3, [48]), (43, .iload 4, 2, [4]), (45, .ifCond .ne 5, 3, [50]), (48, .iconst (-1), 1, [1, 1]), (49, .ireturn, 1, [0]), (50, .iload_n 2, 1, [2]), (51, .iconst 1, 1, [0, 1]), (52, .if_icmp .ne 7, 3, [59]), (55, .iconst 1, 1, [0, 1]), (56, .goto 4, 3, [60]), (59, .iconst 0, 1, [0, 0]), (60, .istore 5, 2, [5]), (62, .aload_n 0, 1, [0]), (63, .getfield 40, 3, [8, 16, 1, 0, 4, 194]), (66, .iload_n 1, 1, [1]), (67, .iload 5, 2, [5]), (69, .ifCond .eq 16, 3, [85]), (72, .aload_n 0, 1, [0]), (73, .getfield 31, 3, [8, 13, 1, 0, 4, 191]), (76, .iload_n 3, 1, [3]), (77, .iaload, 1, []), (78, .ifCond .ge 7, 3, [85]), (81, .iconst 2, 1, [0, 2]), (82, .goto 4, 3, [86]), (85, .iload_n 2, 1, [2]), (86, .iastore, 1, []), (87, .aload_n 0, 1, [0]), (88, .getfield 43, 3, [8, 17, 1, 0, 4, 195]), (91, .iload_n 1, 1, [1]), (92, .iload 5, 2, [5]), (94, .ifCond .eq 12, 3, [106]), (97, .aload_n 0, 1, [0]), (98, .getfield 31, 3, [8, 13, 1, 0, 4, 191]), (101, .iload_n 3, 1, [3]), (102, .iaload, 1, []), (103, .goto 4, 3, [107]), (106, .iload_n 3, 1, [3]), (107, .iastore, 1, []), (108, .aload_n 0, 1, [0]), (109, .getfield 46, 3, [8, 18, 1, 0, 4, 196]), (112, .iload_n 1, 1, [1]), (113, .iload 5, 2, [5]), (115, .ifCond .eq 12, 3, [127]), (118, .aload_n 0, 1, [0]), (119, .getfield 34, 3, [8, 14, 1, 0, 4, 192]), (122, .iload_n 3, 1, [3]), (123, .iaload, 1, []), (124, .goto 4, 3, [128]), (127, .iconst 0, 1, [0, 0]), (128, .iastore, 1, []), (129, .iconst 1, 1, [0, 1]), (130, .ireturn, 1, [0])]
def gN_shelf : List (mv_C H2) := [((0, 0), cN_isCloth), ((0, 0), cN_isFour)]
def nN_shelf : List (mv_MD × Bool) := [(mdN_isCloth, true), (mdN_isFour, false)]
def tN_isHeld : List mv_E := [(0, .aload_n 0, 1, [0]), (1, .getfield 40, 3, [8, 16, 1, 0, 4, 194]), (4, .iload_n 1, 1, [1]), (5, .iaload, 1, []), (6, .ifCond .ne 20, 3, [26]), (9, .aload_n 0, 1, [0]), (10, .aload_n 0, 1, [0]), (11, .getfield 43, 3, [8, 17, 1, 0, 4, 195]), (14, .iload_n 1, 1, [1]), (15, .iaload, 1, []), (16, .invokevirtual 96, 3, [0, 0, 2, 0, 5, 74, 5, 76, 1, 8, 5, 77, 0, 29]), (19, .ifCond .eq 7, 3, [26]), (22, .iconst 1, 1, [0, 1]), (23, .goto 4, 3, [27]), (26, .iconst 0, 1, [0, 0]), (27, .ireturn, 1, [1])]
def gN_isHeld : List (mv_C H2) := [((0, 0), cN_isCloth)]
def nN_isHeld : List (mv_MD × Bool) := [(mdN_isCloth, true)]
def tN_taken : List mv_E := [(0, .iload_n 1, 1, [1]), (1, .invokestatic 209, 3, [0, 0, 1, 1, 6, 46, 6, 47, 1, 8, 6, 48]), (4, .ifCond .eq 24, 3, [28]), (7, .iload_n 2, 1, [2]), (8, .invokestatic 89, 3, [0, 1, 1, 1, 5, 59, 5, 60, 1, 8, 5, 61]), (11, .ifCond .ne 19, 3, [30]), (14, .iload_n 2, 1, [2]), (15, .i2l, 1, []), (16, .ldc2_w 332, 3, [0, 10, 6, 152]), (19, .ldc2_w 343, 3, [0, 13, 6, 200]), (22, .invokestatic 59, 3, [0, 2, 3, 1, 5, 19, 5, 20, 1, 8, 5, 21]), (25, .ifCond .ne 5, 3, [30]), (28, .iconst (-1), 1, [1, 1]), (29, .ireturn, 1, [0]), (30, .aload_n 0, 1, [0]), (31, .getfield 40, 3, [8, 16, 1, 0, 4, 194]), (34, .iload_n 1, 1, [1]), (35, .iaload, 1, []), (36, .iconst 1, 1, [0, 1]), (37, .if_icmp .ne 28, 3, [65]), (40, .iload_n 2, 1, [2]), (41, .bipush 10, 2, [0, 10]), (43, .isub, 1, []), (44, .aload_n 0, 1, [0]), (45, .getfield 43, 3, [8, 17, 1, 0, 4, 195]), (48, .iload_n 1, 1, [1]), (49, .iaload, 1, []), (50, .if_icmp .ne 12, 3, [62]), (53, .aload_n 0, 1, [0]), (54, .getfield 46, 3, [8, 18, 1, 0, 4, 196]), (57, .iload_n 1, 1, [1]), (58, .iaload, 1, []), (59, .goto 5, 3, [64]), (62, .bipush (-13), 2, [1, 13]), (64, .ireturn, 1, [0]), (65, .aload_n 0, 1, [0]), (66, .iload_n 1, 1, [1]), (67, .invokevirtual 345, 3, [0, 3, 2, 0, 6, 201, 6, 203, 1, 8, 6, 204, 0, 69]), (70, .ifCond .ne 6, 3, [76]), (73, .bipush (-11), 2, [1, 11]), (75, .ireturn, 1, [0]), (76, .iload_n 2, 1, [2]), (77, .bipush 10, 2, [0, 10]), (79, .if_icmp .ge 30, 3, [109]), (82, .aload_n 0, 1, [0]), (83, .aload_n 0, 1, [0]), (84, .getfield 43, 3, [8, 17, 1, 0, 4, 195]), (87, .iload_n 1, 1, [1]), (88, .iaload, 1, []), (89, .iconst 0, 1, [0, 0]), (90, .invokevirtual 82, 3, [0, 4, 3, 0, 5, 79, 5, 81, 1, 8, 5, 82, 0, 30]), (93, .iload_n 2, 1, [2]), (94, .invokestatic 348, 3, [0, 5, 2, 1, 6, 205, 6, 206, 1, 8, 6, 207]), (97, .ifCond .eq 12, 3, [109]), (100, .aload_n 0, 1, [0]), (101, .getfield 43, 3, [8, 17, 1, 0, 4, 195]), (104, .iload_n 1, 1, [1]), (105, .iaload, 1, []), (106, .goto 5, 3, [111]), (109, .bipush (-13), 2, [1, 13]), (111, .ireturn, 1, [0])]
def gN_taken : List (mv_C H2) := [((0, 0), cN_isFour), ((0, 0), cN_isKind), ((0, 0), cN_in), ((0, 0), cN_isHeld), ((0, 0), cN_its), ((0, 0), cN_isUnder)]
def nN_taken : List (mv_MD × Bool) := [(mdN_isFour, false), (mdN_isKind, false), (mdN_in, false), (mdN_isHeld, true), (mdN_its, true), (mdN_isUnder, false)]
def tN_runs : List mv_E := [(0, .aload_n 0, 1, [0]), (1, .getfield 351, 3, [8, 20, 0, 0, 4, 198]), (4, .bipush 30, 2, [0, 30]), (6, .if_icmp .ge 23, 3, [29]), (9, .aload_n 0, 1, [0]), (10, .getfield 49, 3, [8, 19, 1, 0, 4, 197]), (13, .aload_n 0, 1, [0]), (14, .getfield 351, 3, [8, 20, 0, 0, 4, 198]), (17, .iload_n 1, 1, [1]), (18, .iastore, 1, []), (19, .aload_n 0, 1, [0]), (20, .dup, 1, []), (21, .getfield 351, 3, [8, 20, 0, 0, 4, 198]), (24, .iconst 1, 1, [0, 1]), (25, .iadd, 1, []), (26, .putfield 351, 3, [8, 20, 0, 0, 4, 198]), (29, .return_, 1, [])]
def gN_runs : List (mv_C H2) := []
def nN_runs : List (mv_MD × Bool) := []
def tN_plainRubs : List mv_E := [(0, .aload_n 0, 1, [0]), (1, .bipush 10, 2, [0, 10]), (3, .invokevirtual 354, 3, [0, 0, 2, 0, 6, 220, 6, 222, 1, 8, 6, 223, 0, 72]), (6, .iload_n 1, 1, [1]), (7, .iconst 5, 1, [0, 5]), (8, .imul, 1, []), (9, .aload_n 0, 1, [0]), (10, .getfield 357, 3, [8, 22, 0, 0, 4, 200]), (13, .iadd, 1, []), (14, .ireturn, 1, [0])]
def gN_plainRubs : List (mv_C H2) := [((0, 0), cN_runs)]
def nN_plainRubs : List (mv_MD × Bool) := [(mdN_runs, true)]
def tN_linenRubs : List mv_E := [(0, .aload_n 0, 1, [0]), (1, .bipush 30, 2, [0, 30]), (3, .invokevirtual 354, 3, [0, 0, 2, 0, 6, 220, 6, 222, 1, 8, 6, 223, 0, 72]), (6, .aload_n 0, 1, [0]), (7, .iload_n 1, 1, [1]), (8, .invokevirtual 360, 3, [0, 1, 2, 0, 6, 224, 6, 226, 1, 8, 6, 227, 0, 73]), (11, .iconst 2, 1, [0, 2]), (12, .imul, 1, []), (13, .ireturn, 1, [0])]
def gN_linenRubs : List (mv_C H2) := [((0, 0), cN_runs), ((0, 0), cN_plainRubs)]
def nN_linenRubs : List (mv_MD × Bool) := [(mdN_runs, true), (mdN_plainRubs, true)]
def tN_rubs : List mv_E := [(0, .aload_n 0, 1, [0]), (1, .getfield 363, 3, [8, 21, 0, 0, 4, 199]), (4, .tableswitch 62 2 4 #[28, 48, 34], 28, [2, 66, 32, 52, 38]), (32, .aload_n 0, 1, [0]), (33, .iload_n 1, 1, [1]), (34, .invokevirtual 366, 3, [0, 0, 2, 0, 6, 216, 6, 218, 1, 8, 6, 219, 0, 71]), (37, .ireturn, 1, [0]), (38, .aload_n 0, 1, [0]), (39, .bipush 40, 2, [0, 40]), (41, .invokevirtual 354, 3, [0, 1, 2, 0, 6, 220, 6, 222, 1, 8, 6, 223, 0, 72]), (44, .iconst 0, 1, [0, 0]), (45, .aload_n 0, 1, [0]), (46, .iload_n 1, 1, [1]), (47, .invokevirtual 366, 3, [0, 0, 2, 0, 6, 216, 6, 218, 1, 8, 6, 219, 0, 71]), (50, .isub, 1, []), (51, .ireturn, 1, [0]), (52, .aload_n 0, 1, [0]), (53, .bipush 51, 2, [0, 51]), (55, .invokevirtual 354, 3, [0, 1, 2, 0, 6, 220, 6, 222, 1, 8, 6, 223, 0, 72]), (58, .aload_n 0, 1, [0]), (59, .iload_n 1, 1, [1]), (60, .invokevirtual 360, 3, [0, 2, 2, 0, 6, 224, 6, 226, 1, 8, 6, 227, 0, 73]), (63, .iconst 2, 1, [0, 2]), (64, .isub, 1, []), (65, .ireturn, 1, [0]), (66, .aload_n 0, 1, [0]), (67, .iload_n 1, 1, [1]), (68, .invokevirtual 360, 3, [0, 2, 2, 0, 6, 224, 6, 226, 1, 8, 6, 227, 0, 73]), (71, .ireturn, 1, [0])]
def gN_rubs : List (mv_C H2) := [((0, 0), cN_linenRubs), ((0, 0), cN_runs), ((0, 0), cN_plainRubs)]
def nN_rubs : List (mv_MD × Bool) := [(mdN_linenRubs, true), (mdN_runs, true), (mdN_plainRubs, true)]
def tN_plainSteeps : List mv_E := [(0, .aload_n 0, 1, [0]), (1, .bipush 11, 2, [0, 11]), (3, .invokevirtual 354, 3, [0, 0, 2, 0, 6, 220, 6, 222, 1, 8, 6, 223, 0, 72]), (6, .aload_n 0, 1, [0]), (7, .iload_n 1, 1, [1]), (8, .invokevirtual 369, 3, [0, 1, 2, 0, 6, 212, 6, 214, 1, 8, 6, 215, 0, 70]), (11, .aload_n 0, 1, [0]), (12, .getfield 372, 3, [8, 23, 0, 0, 4, 201]), (15, .bipush 9, 2, [0, 9]), (17, .imul, 1, []), (18, .iadd, 1, []), (19, .ireturn, 1, [0])]
def gN_plainSteeps : List (mv_C H2) := [((0, 0), cN_runs), ((0, 0), cN_rubs)]
def nN_plainSteeps : List (mv_MD × Bool) := [(mdN_runs, true), (mdN_rubs, true)]
def tN_steepsAct : List mv_E := [(0, .aload_n 0, 1, [0]), (1, .getfield 363, 3, [8, 21, 0, 0, 4, 199]), (4, .iconst 1, 1, [0, 1]), (5, .if_icmp .eq 11, 3, [16]), (8, .aload_n 0, 1, [0]), (9, .getfield 363, 3, [8, 21, 0, 0, 4, 199]), (12, .iconst 3, 1, [0, 3]), (13, .if_icmp .ne 18, 3, [31]), (16, .aload_n 0, 1, [0]), (17, .bipush 20, 2, [0, 20]), (19, .invokevirtual 354, 3, [0, 0, 2, 0, 6, 220, 6, 222, 1, 8, 6, 223, 0, 72]), (22, .aload_n 0, 1, [0]), (23, .iload_n 1, 1, [1]), (24, .invokevirtual 375, 3, [0, 1, 2, 0, 6, 232, 6, 234, 1, 8, 6, 235, 0, 75]), (27, .bipush 6, 2, [0, 6]), (29, .isub, 1, []), (30, .ireturn, 1, [0]), (31, .aload_n 0, 1, [0]), (32, .getfield 363, 3, [8, 21, 0, 0, 4, 199]), (35, .iconst 4, 1, [0, 4]), (36, .if_icmp .ne 26, 3, [62]), (39, .aload_n 0, 1, [0]), (40, .bipush 41, 2, [0, 41]), (42, .invokevirtual 354, 3, [0, 0, 2, 0, 6, 220, 6, 222, 1, 8, 6, 223, 0, 72]), (45, .aload_n 0, 1, [0]), (46, .iload_n 1, 1, [1]), (47, .invokevirtual 375, 3, [0, 1, 2, 0, 6, 232, 6, 234, 1, 8, 6, 235, 0, 75]), (50, .istore_n 2, 1, [2]), (51, .iload_n 2, 1, [2]), (52, .aload_n 0, 1, [0]), (53, .aload_n 0, 1, [0]), (54, .getfield 372, 3, [8, 23, 0, 0, 4, 201]), (57, .invokevirtual 369, 3, [0, 2, 2, 0, 6, 212, 6, 214, 1, 8, 6, 215, 0, 70]), (60, .ixor, 1, []), (61, .ireturn, 1, [0]), (62, .aload_n 0, 1, [0]), (63, .iload_n 1, 1, [1]), (64, .invokevirtual 375, 3, [0, 1, 2, 0, 6, 232, 6, 234, 1, 8, 6, 235, 0, 75]), (67, .ireturn, 1, [0])]
def gN_steepsAct : List (mv_C H2) := [((0, 0), cN_runs), ((0, 0), cN_plainSteeps), ((0, 0), cN_rubs)]
def nN_steepsAct : List (mv_MD × Bool) := [(mdN_runs, true), (mdN_plainSteeps, true), (mdN_rubs, true)]
def tN_plainParts : List mv_E := [(0, .aload_n 0, 1, [0]), (1, .bipush 12, 2, [0, 12]), (3, .invokevirtual 354, 3, [0, 0, 2, 0, 6, 220, 6, 222, 1, 8, 6, 223, 0, 72]), (6, .aload_n 0, 1, [0]), (7, .aload_n 0, 1, [0]), (8, .getfield 378, 3, [8, 24, 2, 0, 4, 202]), (11, .ifCond .ne 14, 3, [25]), (14, .aload_n 0, 1, [0]), (15, .getfield 372, 3, [8, 23, 0, 0, 4, 201]), (18, .aload_n 0, 1, [0]), (19, .getfield 357, 3, [8, 22, 0, 0, 4, 200]), (22, .if_icmp .ne 7, 3, [29]), (25, .iconst 1, 1, [0, 1]), (26, .goto 4, 3, [30]), (29, .iconst 0, 1, [0, 0]), (30, .putfield 378, 3, [8, 24, 2, 0, 4, 202]), (33, .aload_n 0, 1, [0]), (34, .getfield 372, 3, [8, 23, 0, 0, 4, 201]), (37, .aload_n 0, 1, [0]), (38, .getfield 357, 3, [8, 22, 0, 0, 4, 200]), (41, .if_icmp .ne 7, 3, [48]), (44, .iconst 0, 1, [0, 0]), (45, .goto 32, 3, [77]), (48, .aload_n 0, 1, [0]), (49, .getfield 372, 3, [8, 23, 0, 0, 4, 201]), (52, .aload_n 0, 1, [0]), (53, .getfield 357, 3, [8, 22, 0, 0, 4, 200]), (56, .isub, 1, []), (57, .iconst (-1), 1, [1, 1]), (58, .if_icmp .ne 8, 3, [66]), (61, .iload_n 1, 1, [1]), (62, .ineg, 1, []), (63, .goto 14, 3, [77]), (66, .iload_n 1, 1, [1]), (67, .aload_n 0, 1, [0]), (68, .getfield 372, 3, [8, 23, 0, 0, 4, 201]), (71, .aload_n 0, 1, [0]), (72, .getfield 357, 3, [8, 22, 0, 0, 4, 200]), (75, .isub, 1, []), (76, .idiv, 1, []), (77, .ireturn, 1, [0])]
def gN_plainParts : List (mv_C H2) := [((0, 0), cN_runs)]
def nN_plainParts : List (mv_MD × Bool) := [(mdN_runs, true)]
def tN_parts : List mv_E := [(0, .aload_n 0, 1, [0]), (1, .getfield 363, 3, [8, 21, 0, 0, 4, 199]), (4, .iconst 3, 1, [0, 3]), (5, .if_icmp .ne 22, 3, [27]), (8, .aload_n 0, 1, [0]), (9, .bipush 50, 2, [0, 50]), (11, .invokevirtual 354, 3, [0, 0, 2, 0, 6, 220, 6, 222, 1, 8, 6, 223, 0, 72]), (14, .aload_n 0, 1, [0]), (15, .iload_n 1, 1, [1]), (16, .iconst 3, 1, [0, 3]), (17, .iadd, 1, []), (18, .invokevirtual 381, 3, [0, 1, 2, 0, 7, 0, 7, 2, 1, 8, 7, 3, 0, 77]), (21, .aload_n 0, 1, [0]), (22, .getfield 372, 3, [8, 23, 0, 0, 4, 201]), (25, .iadd, 1, []), (26, .ireturn, 1, [0]), (27, .aload_n 0, 1, [0]), (28, .getfield 363, 3, [8, 21, 0, 0, 4, 199]), (31, .iconst 5, 1, [0, 5]), (32, .if_icmp .ne 37, 3, [69]), (35, .aload_n 0, 1, [0]), (36, .bipush 61, 2, [0, 61]), (38, .invokevirtual 354, 3, [0, 0, 2, 0, 6, 220, 6, 222, 1, 8, 6, 223, 0, 72]), (41, .aload_n 0, 1, [0]), (42, .iload_n 1, 1, [1]), (43, .invokevirtual 381, 3, [0, 1, 2, 0, 7, 0, 7, 2, 1, 8, 7, 3, 0, 77]), (46, .istore_n 2, 1, [2]), (47, .aload_n 0, 1, [0]), (48, .getfield 378, 3, [8, 24, 2, 0, 4, 202]), (51, .ifCond .eq 7, 3, [58]), (54, .iconst 0, 1, [0, 0]), (55, .goto 13, 3, [68]), (58, .iload_n 2, 1, [2]), (59, .aload_n 0, 1, [0]), (60, .aload_n 0, 1, [0]), (61, .getfield 357, 3, [8, 22, 0, 0, 4, 200]), (64, .invokevirtual 369, 3, [0, 2, 2, 0, 6, 212, 6, 214, 1, 8, 6, 215, 0, 70]), (67, .isub, 1, []), (68, .ireturn, 1, [0]), (69, .aload_n 0, 1, [0]), (70, .iload_n 1, 1, [1]), (71, .invokevirtual 381, 3, [0, 1, 2, 0, 7, 0, 7, 2, 1, 8, 7, 3, 0, 77]), (74, .ireturn, 1, [0])]
def gN_parts : List (mv_C H2) := [((0, 0), cN_runs), ((0, 0), cN_plainParts), ((0, 0), cN_rubs)]
def nN_parts : List (mv_MD × Bool) := [(mdN_runs, true), (mdN_plainParts, true), (mdN_rubs, true)]
def tN_plainDries : List mv_E := [(0, .aload_n 0, 1, [0]), (1, .bipush 13, 2, [0, 13]), (3, .invokevirtual 354, 3, [0, 0, 2, 0, 6, 220, 6, 222, 1, 8, 6, 223, 0, 72]), (6, .aload_n 0, 1, [0]), (7, .iload_n 1, 1, [1]), (8, .invokevirtual 384, 3, [0, 1, 2, 0, 6, 228, 6, 230, 1, 8, 6, 231, 0, 74]), (11, .sipush 240, 3, [0, 240]), (14, .ixor, 1, []), (15, .ireturn, 1, [0])]
def gN_plainDries : List (mv_C H2) := [((0, 0), cN_runs), ((0, 0), cN_steepsAct)]
def nN_plainDries : List (mv_MD × Bool) := [(mdN_runs, true), (mdN_steepsAct, true)]
def tN_driesAct : List mv_E := [(0, .aload_n 0, 1, [0]), (1, .getfield 363, 3, [8, 21, 0, 0, 4, 199]), (4, .iconst 2, 1, [0, 2]), (5, .if_icmp .eq 11, 3, [16]), (8, .aload_n 0, 1, [0]), (9, .getfield 363, 3, [8, 21, 0, 0, 4, 199]), (12, .iconst 4, 1, [0, 4]), (13, .if_icmp .ne 26, 3, [39]), (16, .aload_n 0, 1, [0]), (17, .bipush 31, 2, [0, 31]), (19, .invokevirtual 354, 3, [0, 0, 2, 0, 6, 220, 6, 222, 1, 8, 6, 223, 0, 72]), (22, .aload_n 0, 1, [0]), (23, .iload_n 1, 1, [1]), (24, .invokevirtual 387, 3, [0, 1, 2, 0, 7, 8, 7, 10, 1, 8, 7, 11, 0, 79]), (27, .istore_n 2, 1, [2]), (28, .iload_n 2, 1, [2]), (29, .aload_n 0, 1, [0]), (30, .aload_n 0, 1, [0]), (31, .getfield 357, 3, [8, 22, 0, 0, 4, 200]), (34, .invokevirtual 390, 3, [0, 2, 2, 0, 6, 236, 6, 238, 1, 8, 6, 239, 0, 76]), (37, .iadd, 1, []), (38, .ireturn, 1, [0]), (39, .aload_n 0, 1, [0]), (40, .getfield 363, 3, [8, 21, 0, 0, 4, 199]), (43, .iconst 5, 1, [0, 5]), (44, .if_icmp .ne 17, 3, [61]), (47, .aload_n 0, 1, [0]), (48, .bipush 60, 2, [0, 60]), (50, .invokevirtual 354, 3, [0, 0, 2, 0, 6, 220, 6, 222, 1, 8, 6, 223, 0, 72]), (53, .aload_n 0, 1, [0]), (54, .iload_n 1, 1, [1]), (55, .invokevirtual 387, 3, [0, 1, 2, 0, 7, 8, 7, 10, 1, 8, 7, 11, 0, 79]), (58, .iconst 3, 1, [0, 3]), (59, .imul, 1, []), (60, .ireturn, 1, [0]), (61, .aload_n 0, 1, [0]), (62, .iload_n 1, 1, [1]), (63, .invokevirtual 387, 3, [0, 1, 2, 0, 7, 8, 7, 10, 1, 8, 7, 11, 0, 79]), (66, .ireturn, 1, [0])]
def gN_driesAct : List (mv_C H2) := [((0, 0), cN_runs), ((0, 0), cN_plainDries), ((0, 0), cN_parts)]
def nN_driesAct : List (mv_MD × Bool) := [(mdN_runs, true), (mdN_plainDries, true), (mdN_parts, true)]
def tN_act : List mv_E := [(0, .aload_n 0, 1, [0]), (1, .iconst 0, 1, [0, 0]), (2, .putfield 351, 3, [8, 20, 0, 0, 4, 198]), (5, .iload_n 1, 1, [1]), (6, .invokestatic 209, 3, [0, 0, 1, 1, 6, 46, 6, 47, 1, 8, 6, 48]), (9, .ifCond .eq 18, 3, [27]), (12, .iload_n 2, 1, [2]), (13, .invokestatic 209, 3, [0, 0, 1, 1, 6, 46, 6, 47, 1, 8, 6, 48]), (16, .ifCond .eq 11, 3, [27]), (19, .aload_n 0, 1, [0]), (20, .iload_n 1, 1, [1]), (21, .invokevirtual 345, 3, [0, 1, 2, 0, 6, 201, 6, 203, 1, 8, 6, 204, 0, 69]), (24, .ifCond .ne 5, 3, [29]), (27, .iconst 0, 1, [0, 0]), (28, .ireturn, 1, [0]), (29, .aload_n 0, 1, [0]), (30, .aload_n 0, 1, [0]), (31, .getfield 43, 3, [8, 17, 1, 0, 4, 195]), (34, .iload_n 1, 1, [1]), (35, .iaload, 1, []), (36, .putfield 357, 3, [8, 22, 0, 0, 4, 200]), (39, .aload_n 0, 1, [0]), (40, .aload_n 0, 1, [0]), (41, .aload_n 0, 1, [0]), (42, .getfield 357, 3, [8, 22, 0, 0, 4, 200]), (45, .iconst 0, 1, [0, 0]), (46, .invokevirtual 82, 3, [0, 2, 3, 0, 5, 79, 5, 81, 1, 8, 5, 82, 0, 30]), (49, .putfield 363, 3, [8, 21, 0, 0, 4, 199]), (52, .aload_n 0, 1, [0]), (53, .iconst 1, 1, [0, 1]), (54, .aload_n 0, 1, [0]), (55, .aload_n 0, 1, [0]), (56, .getfield 357, 3, [8, 22, 0, 0, 4, 200]), (59, .iconst 1, 1, [0, 1]), (60, .invokevirtual 82, 3, [0, 2, 3, 0, 5, 79, 5, 81, 1, 8, 5, 82, 0, 30]), (63, .iadd, 1, []), (64, .putfield 372, 3, [8, 23, 0, 0, 4, 201]), (67, .aload_n 0, 1, [0]), (68, .iconst 0, 1, [0, 0]), (69, .putfield 378, 3, [8, 24, 2, 0, 4, 202]), (72, .iload_n 2, 1, [2]), (73, .ifCond .ne 11, 3, [84]), (76, .aload_n 0, 1, [0]), (77, .iload_n 3, 1, [3]), (78, .invokevirtual 369, 3, [0, 3, 2, 0, 6, 212, 6, 214, 1, 8, 6, 215, 0, 70]), (81, .goto 34, 3, [115]), (84, .iload_n 2, 1, [2]), (85, .iconst 1, 1, [0, 1]), (86, .if_icmp .ne 11, 3, [97]), (89, .aload_n 0, 1, [0]), (90, .iload_n 3, 1, [3]), (91, .invokevirtual 384, 3, [0, 4, 2, 0, 6, 228, 6, 230, 1, 8, 6, 231, 0, 74]), (94, .goto 21, 3, [115]), (97, .iload_n 2, 1, [2]), (98, .iconst 2, 1, [0, 2]), (99, .if_icmp .ne 11, 3, [110]), (102, .aload_n 0, 1, [0]), (103, .iload_n 3, 1, [3]), (104, .invokevirtual 390, 3, [0, 5, 2, 0, 6, 236, 6, 238, 1, 8, 6, 239, 0, 76]), (107, .goto 8, 3, [115]), (110, .aload_n 0, 1, [0]), (111, .iload_n 3, 1, [3]), (112, .invokevirtual 393, 3, [0, 6, 2, 0, 7, 4, 7, 6, 1, 8, 7, 7, 0, 78]), (115, .istore 4, 2, [4]), (117, .aload_n 0, 1, [0]), (118, .getfield 378, 3, [8, 24, 2, 0, 4, 202]), (121, .ifCond .eq 8, 3, [129]), (124, .bipush (-15), 2, [1, 15]), (126, .goto 5, 3, [131]), (129, .iload 4, 2, [4]), (131, .ireturn, 1, [0])]
def gN_act : List (mv_C H2) := [((0, 0), cN_isFour), ((0, 0), cN_isHeld), ((0, 0), cN_its), ((0, 0), cN_rubs), ((0, 0), cN_steepsAct), ((0, 0), cN_parts), ((0, 0), cN_driesAct)]
def nN_act : List (mv_MD × Bool) := [(mdN_isFour, false), (mdN_isHeld, true), (mdN_its, true), (mdN_rubs, true), (mdN_steepsAct, true), (mdN_parts, true), (mdN_driesAct, true)]
def tN_trace : List mv_E := [(0, .iload_n 1, 1, [1]), (1, .i2l, 1, []), (2, .lconst 0, 1, [0, 0]), (3, .aload_n 0, 1, [0]), (4, .getfield 351, 3, [8, 20, 0, 0, 4, 198]), (7, .iconst 1, 1, [0, 1]), (8, .isub, 1, []), (9, .i2l, 1, []), (10, .invokestatic 59, 3, [0, 0, 3, 1, 5, 19, 5, 20, 1, 8, 5, 21]), (13, .ifCond .eq 12, 3, [25]), (16, .aload_n 0, 1, [0]), (17, .getfield 49, 3, [8, 19, 1, 0, 4, 197]), (20, .iload_n 1, 1, [1]), (21, .iaload, 1, []), (22, .goto 5, 3, [27]), (25, .bipush (-3), 2, [1, 3]), (27, .ireturn, 1, [0])]
def gN_trace : List (mv_C H2) := [((0, 0), cN_in)]
def nN_trace : List (mv_MD × Bool) := [(mdN_in, false)]
def tN_purposesAbout : List mv_E := [(0, .iconst 0, 1, [0, 0]), (1, .istore_n 1, 1, [1]), (2, .iconst 0, 1, [0, 0]), (3, .istore_n 2, 1, [2]), (4, .iload_n 2, 1, [2]), (5, .bipush 10, 2, [0, 10]), (7, .if_icmp .ge 65, 3, [72]), (10, .iconst 0, 1, [0, 0]), (11, .istore_n 3, 1, [3]), (12, .iconst 0, 1, [0, 0]), (13, .istore 4, 2, [4]), (15, .iload 4, 2, [4]), (17, .aload_n 0, 1, [0]), (18, .getfield 16, 3, [8, 2, 1, 0, 4, 180]), (21, .bipush 6, 2, [0, 6]), (23, .iaload, 1, []), (24, .if_icmp .ge 30, 3, [54]), (27, .iload_n 3, 1, [3]), (28, .ifCond .ne 14, 3, [42]), (31, .aload_n 0, 1, [0]), (32, .iload 4, 2, [4]), (34, .iconst 1, 1, [0, 1]), (35, .invokevirtual 82, 3, [0, 0, 3, 0, 5, 79, 5, 81, 1, 8, 5, 82, 0, 30]), (38, .iload_n 2, 1, [2]), (39, .if_icmp .ne 7, 3, [46]), (42, .iconst 1, 1, [0, 1]), (43, .goto 4, 3, [47]), (46, .iconst 0, 1, [0, 0]), (47, .istore_n 3, 1, [3]), (48, .iinc 4 1, 3, [4, 0, 1]), (51, .goto (-36), 3, [15]), (54, .iload_n 1, 1, [1]), (55, .iload_n 3, 1, [3]), (56, .ifCond .eq 7, 3, [63]), (59, .iconst 1, 1, [0, 1]), (60, .goto 4, 3, [64]), (63, .iconst 0, 1, [0, 0]), (64, .iadd, 1, []), (65, .istore_n 1, 1, [1]), (66, .iinc 2 1, 3, [2, 0, 1]), (69, .goto (-65), 3, [4]), (72, .iload_n 1, 1, [1]), (73, .ireturn, 1, [0])]
def gN_purposesAbout : List (mv_C H2) := [((0, 0), cN_its)]
def nN_purposesAbout : List (mv_MD × Bool) := [(mdN_its, true)]
def tN_many : List mv_E := [(0, .iload_n 1, 1, [1]), (1, .tableswitch 87 0 6 #[43, 51, 59, 67, 72, 77, 82], 43, [0, 88, 44, 52, 60, 68, 73, 78, 83]), (44, .aload_n 0, 1, [0]), (45, .getfield 16, 3, [8, 2, 1, 0, 4, 180]), (48, .bipush 6, 2, [0, 6]), (50, .iaload, 1, []), (51, .ireturn, 1, [0]), (52, .aload_n 0, 1, [0]), (53, .invokevirtual 171, 3, [0, 0, 1, 0, 5, 195, 5, 197, 1, 8, 5, 198, 0, 44]), (56, .invokestatic 203, 3, [0, 1, 1, 1, 6, 35, 6, 36, 1, 8, 6, 37]), (59, .ireturn, 1, [0]), (60, .aload_n 0, 1, [0]), (61, .invokevirtual 174, 3, [0, 2, 1, 0, 5, 199, 5, 201, 1, 8, 5, 202, 0, 45]), (64, .invokestatic 203, 3, [0, 1, 1, 1, 6, 35, 6, 36, 1, 8, 6, 37]), (67, .ireturn, 1, [0]), (68, .aload_n 0, 1, [0]), (69, .invokevirtual 396, 3, [0, 3, 1, 0, 7, 20, 7, 22, 1, 8, 7, 23, 0, 80]), (72, .ireturn, 1, [0]), (73, .aload_n 0, 1, [0]), (74, .getfield 329, 3, [8, 12, 0, 0, 4, 190]), (77, .ireturn, 1, [0]), (78, .aload_n 0, 1, [0]), (79, .getfield 224, 3, [8, 7, 0, 0, 4, 185]), (82, .ireturn, 1, [0]), (83, .aload_n 0, 1, [0]), (84, .getfield 351, 3, [8, 20, 0, 0, 4, 198]), (87, .ireturn, 1, [0]), (88, .iconst (-1), 1, [1, 1]), (89, .ireturn, 1, [0])]
def gN_many : List (mv_C H2) := [((0, 0), cN_hungSet), ((0, 0), cN_ones), ((0, 0), cN_aboutSet), ((0, 0), cN_purposesAbout)]
def nN_many : List (mv_MD × Bool) := [(mdN_hungSet, true), (mdN_ones, false), (mdN_aboutSet, true), (mdN_purposesAbout, true)]
def tN_keep : List mv_E := [(0, .aload_n 0, 1, [0]), (1, .getfield 16, 3, [8, 2, 1, 0, 4, 180]), (4, .aload_n 0, 1, [0]), (5, .getfield 19, 3, [8, 3, 1, 0, 4, 181]), (8, .invokestatic 55, 3, [0, 0, 2, 1, 5, 184, 5, 185, 1, 8, 5, 186]), (11, .aload_n 0, 1, [0]), (12, .iconst 1, 1, [0, 1]), (13, .putfield 399, 3, [8, 5, 2, 0, 4, 183]), (16, .iconst 1, 1, [0, 1]), (17, .ireturn, 1, [0])]
def gN_keep : List (mv_C H2) := [((0, 0), cN_become)]
def nN_keep : List (mv_MD × Bool) := [(mdN_become, false)]
def tN_again : List mv_E := [(0, .aload_n 0, 1, [0]), (1, .getfield 399, 3, [8, 5, 2, 0, 4, 183]), (4, .ifCond .ne 6, 3, [10]), (7, .bipush (-3), 2, [1, 3]), (9, .ireturn, 1, [0]), (10, .aload_n 0, 1, [0]), (11, .getfield 19, 3, [8, 3, 1, 0, 4, 181]), (14, .aload_n 0, 1, [0]), (15, .getfield 16, 3, [8, 2, 1, 0, 4, 180]), (18, .invokestatic 55, 3, [0, 0, 2, 1, 5, 184, 5, 185, 1, 8, 5, 186]), (21, .aload_n 0, 1, [0]), (22, .getfield 16, 3, [8, 2, 1, 0, 4, 180]), (25, .bipush 6, 2, [0, 6]), (27, .iaload, 1, []), (28, .ireturn, 1, [0])]
def gN_again : List (mv_C H2) := [((0, 0), cN_become)]
def nN_again : List (mv_MD × Bool) := [(mdN_become, false)]
end
section
set_option maxRecDepth 100000 in
theorem kA_forget : mv_tok mdA_forget nA_forget tA_forget = true := by decide +kernel
set_option maxRecDepth 100000 in
set_option maxHeartbeats 8000000 in
theorem eA_forget (o0 : Nat) (h : H2) : mv_blk rI2 rR2 ln2 wI2 wR2 nw2 cp2 bod none tA_forget gA_forget 0 0 [] (fun _ _ _ _ _ _ => none) 400 (mv_seek 0 tA_forget) [(0, Sum.inr (0, o0))] [] h 0 0 = (
  mv_bh (wI2 h 0 o0 1 (nI 0)) fun h1 =>
  some ([], h1)) := rfl
theorem GA_forget : ∀ (j : Nat) (C : mv_C H2) (md' : mv_MD × Bool), mv_nth j gA_forget = some C → mv_nth j nA_forget = some md' → ∃ n', n' + 1 ≤ 1 ∧ mv_Cal vw2 n' md' C := fun j C md' h1 _ => by cases j <;> cases h1

set_option maxRecDepth 20000 in
theorem xA_forget {g0 : mv_G} {res : List mv_V × H2} (o0 : Nat) (h : H2) (hh : fA_forget o0 h = some res) : mv_X vw2 mdA_forget 1 0 0 none g0 res 0 [(0, Sum.inr (0, o0))] [] h 0 0 := by
  refine mv_blkX ax2 (GA_forget) (by decide) kA_forget (fun pc lv st h ce sl hh => ?_) ((eA_forget  o0 h).trans hh)
  cases hh

theorem mA_forget (o0 : Nat) (h : H2) (vs : List mv_V) (h' : H2) (hh : fA_forget o0 h = some (vs, h')) : mv_Met vw2 1 0 0 mdA_forget [Sum.inr (0, o0)] h vs h' :=
  mv_Met_of (by decide +kernel) (Nat.le_of_ble_eq_true rfl) (xA_forget o0 h hh)
theorem cA_forget_ok : mv_Cal vw2 1 (mdA_forget, true) ((0, 0), cA_forget) := by
  intro as h k res hh
  change cA_forget as h k = some res at hh
  unfold cA_forget at hh
  split at hh
  · obtain ⟨hg0, ha0⟩ := mv_gd_some hh
    obtain rfl := Nat.eq_of_beq_eq_true hg0
    obtain ⟨h', h1, h9⟩ := mv_rV_some ha0
    exact ⟨_, _, h9, (by first | decide | exact Nat.le_refl _ | exact Nat.zero_le _), fun _ => ⟨_, _, _, rfl, Or.inl ⟨by decide, rfl⟩⟩, (mA_forget _ h _ _ h1)⟩
  · cases hh

set_option maxRecDepth 100000 in
theorem kA_hold : mv_tok mdA_hold nA_hold tA_hold = true := by decide +kernel
set_option maxRecDepth 100000 in
set_option maxHeartbeats 8000000 in
theorem eA_hold (o0 : Nat) (v1 : Int32) (v2 : Int32) (v3 : Int32) (h : H2) : mv_blk rI2 rR2 ln2 wI2 wR2 nw2 cp2 bod none tA_hold gA_hold 0 0 [] (fun _ _ _ _ _ _ => none) 400 (mv_seek 0 tA_hold) [(0, Sum.inr (0, o0)), (1, Sum.inl (Value.int v1)), (2, Sum.inl (Value.int v2)), (3, Sum.inl (Value.int v3))] [] h 0 0 = (
  mv_bh (wI2 h 0 o0 2 v1) fun h1 =>
  mv_bh (wI2 h1 0 o0 3 v2) fun h2 =>
  mv_bh (wI2 h2 0 o0 4 v3) fun h3 =>
  some ([], h3)) := rfl
theorem GA_hold : ∀ (j : Nat) (C : mv_C H2) (md' : mv_MD × Bool), mv_nth j gA_hold = some C → mv_nth j nA_hold = some md' → ∃ n', n' + 1 ≤ 1 ∧ mv_Cal vw2 n' md' C := fun j C md' h1 _ => by cases j <;> cases h1

set_option maxRecDepth 20000 in
theorem xA_hold {g0 : mv_G} {res : List mv_V × H2} (o0 : Nat) (v1 : Int32) (v2 : Int32) (v3 : Int32) (h : H2) (hh : fA_hold o0 v1 v2 v3 h = some res) : mv_X vw2 mdA_hold 1 0 0 none g0 res 0 [(0, Sum.inr (0, o0)), (1, Sum.inl (Value.int v1)), (2, Sum.inl (Value.int v2)), (3, Sum.inl (Value.int v3))] [] h 0 0 := by
  refine mv_blkX ax2 (GA_hold) (by decide) kA_hold (fun pc lv st h ce sl hh => ?_) ((eA_hold  o0 v1 v2 v3 h).trans hh)
  cases hh

theorem mA_hold (o0 : Nat) (v1 : Int32) (v2 : Int32) (v3 : Int32) (h : H2) (vs : List mv_V) (h' : H2) (hh : fA_hold o0 v1 v2 v3 h = some (vs, h')) : mv_Met vw2 1 0 0 mdA_hold [Sum.inr (0, o0), Sum.inl (Value.int v1), Sum.inl (Value.int v2), Sum.inl (Value.int v3)] h vs h' :=
  mv_Met_of (by decide +kernel) (Nat.le_of_ble_eq_true rfl) (xA_hold o0 v1 v2 v3 h hh)
theorem cA_hold_ok : mv_Cal vw2 1 (mdA_hold, true) ((0, 0), cA_hold) := by
  intro as h k res hh
  change cA_hold as h k = some res at hh
  unfold cA_hold at hh
  split at hh
  · obtain ⟨hg0, ha0⟩ := mv_gd_some hh
    obtain rfl := Nat.eq_of_beq_eq_true hg0
    obtain ⟨h', h1, h9⟩ := mv_rV_some ha0
    exact ⟨_, _, h9, (by first | decide | exact Nat.le_refl _ | exact Nat.zero_le _), fun _ => ⟨_, _, _, rfl, Or.inl ⟨by decide, rfl⟩⟩, (mA_hold _ _ _ _ h _ _ h1)⟩
  · cases hh

set_option maxRecDepth 100000 in
theorem kA_note : mv_tok mdA_note nA_note tA_note = true := by decide +kernel
set_option maxRecDepth 100000 in
set_option maxHeartbeats 8000000 in
theorem eA_note (o0 : Nat) (v1 : Int32) (h : H2) : mv_blk rI2 rR2 ln2 wI2 wR2 nw2 cp2 bod none tA_note gA_note 0 0 [] (fun _ _ _ _ _ _ => none) 400 (mv_seek 0 tA_note) [(0, Sum.inr (0, o0)), (1, Sum.inl (Value.int v1))] [] h 0 0 = (
  if (nI 30) ≤ (rI2 h 0 o0 1) then (
    some ([], h))
  else
  mv_bh (wI2 h 0 o0 1 ((rI2 h 0 o0 1) + (nI 1))) fun h1 =>
  mv_gd (mv_inb (rI2 h 0 o0 1) 30) <|
  mv_bh (wI2 h1 100 o0 (rI2 h 0 o0 1).toNatClampNeg v1) fun h2 =>
  some ([], h2)) := rfl
theorem GA_note : ∀ (j : Nat) (C : mv_C H2) (md' : mv_MD × Bool), mv_nth j gA_note = some C → mv_nth j nA_note = some md' → ∃ n', n' + 1 ≤ 1 ∧ mv_Cal vw2 n' md' C := fun j C md' h1 _ => by cases j <;> cases h1

set_option maxRecDepth 20000 in
theorem xA_note {g0 : mv_G} {res : List mv_V × H2} (o0 : Nat) (v1 : Int32) (h : H2) (hh : fA_note o0 v1 h = some res) : mv_X vw2 mdA_note 1 0 0 none g0 res 0 [(0, Sum.inr (0, o0)), (1, Sum.inl (Value.int v1))] [] h 0 0 := by
  refine mv_blkX ax2 (GA_note) (by decide) kA_note (fun pc lv st h ce sl hh => ?_) ((eA_note  o0 v1 h).trans hh)
  cases hh

theorem mA_note (o0 : Nat) (v1 : Int32) (h : H2) (vs : List mv_V) (h' : H2) (hh : fA_note o0 v1 h = some (vs, h')) : mv_Met vw2 1 0 0 mdA_note [Sum.inr (0, o0), Sum.inl (Value.int v1)] h vs h' :=
  mv_Met_of (by decide +kernel) (Nat.le_of_ble_eq_true rfl) (xA_note o0 v1 h hh)
theorem cA_note_ok : mv_Cal vw2 1 (mdA_note, true) ((0, 0), cA_note) := by
  intro as h k res hh
  change cA_note as h k = some res at hh
  unfold cA_note at hh
  split at hh
  · obtain ⟨hg0, ha0⟩ := mv_gd_some hh
    obtain rfl := Nat.eq_of_beq_eq_true hg0
    obtain ⟨h', h1, h9⟩ := mv_rV_some ha0
    exact ⟨_, _, h9, (by first | decide | exact Nat.le_refl _ | exact Nat.zero_le _), fun _ => ⟨_, _, _, rfl, Or.inl ⟨by decide, rfl⟩⟩, (mA_note _ _ h _ _ h1)⟩
  · cases hh

set_option maxRecDepth 100000 in
theorem kA_parted : mv_tok mdA_parted nA_parted tA_parted = true := by decide +kernel
set_option maxRecDepth 100000 in
set_option maxHeartbeats 8000000 in
theorem eA_parted (o0 : Nat) (v1 : Int32) (v2 : Int32) (h : H2) : mv_blk rI2 rR2 ln2 wI2 wR2 nw2 cp2 bod none tA_parted gA_parted 0 0 [] (fun _ _ _ _ _ _ => none) 400 (mv_seek 0 tA_parted) [(0, Sum.inr (0, o0)), (1, Sum.inl (Value.int v1)), (2, Sum.inl (Value.int v2))] [] h 0 0 = (
  if v2 = 0 then (
    mv_gd (decide (nI 1 = nI 0) || decide (nI 1 = nI 1)) <|
    mv_bh (wI2 h 0 o0 5 (nI 1)) fun h1 =>
    some ([Sum.inl (Value.int (nI 0))], h1))
  else
  mv_gd (!decide (v2 = 0)) <|
  some ([Sum.inl (Value.int (v1 / v2))], h)) := rfl
theorem GA_parted : ∀ (j : Nat) (C : mv_C H2) (md' : mv_MD × Bool), mv_nth j gA_parted = some C → mv_nth j nA_parted = some md' → ∃ n', n' + 1 ≤ 1 ∧ mv_Cal vw2 n' md' C := fun j C md' h1 _ => by cases j <;> cases h1

set_option maxRecDepth 20000 in
theorem xA_parted {g0 : mv_G} {res : List mv_V × H2} (o0 : Nat) (v1 : Int32) (v2 : Int32) (h : H2) (hh : fA_parted o0 v1 v2 h = some res) : mv_X vw2 mdA_parted 1 0 0 none g0 res 0 [(0, Sum.inr (0, o0)), (1, Sum.inl (Value.int v1)), (2, Sum.inl (Value.int v2))] [] h 0 0 := by
  refine mv_blkX ax2 (GA_parted) (by decide) kA_parted (fun pc lv st h ce sl hh => ?_) ((eA_parted  o0 v1 v2 h).trans hh)
  cases hh

theorem mA_parted (o0 : Nat) (v1 : Int32) (v2 : Int32) (h : H2) (vs : List mv_V) (h' : H2) (hh : fA_parted o0 v1 v2 h = some (vs, h')) : mv_Met vw2 1 0 0 mdA_parted [Sum.inr (0, o0), Sum.inl (Value.int v1), Sum.inl (Value.int v2)] h vs h' :=
  mv_Met_of (by decide +kernel) (Nat.le_of_ble_eq_true rfl) (xA_parted o0 v1 v2 h hh)
theorem cA_parted_ok : mv_Cal vw2 1 (mdA_parted, true) ((0, 0), cA_parted) := by
  intro as h k res hh
  change cA_parted as h k = some res at hh
  unfold cA_parted at hh
  split at hh
  · obtain ⟨hg0, ha0⟩ := mv_gd_some hh
    obtain rfl := Nat.eq_of_beq_eq_true hg0
    obtain ⟨x, h', h1, h9⟩ := mv_rI_some ha0
    exact ⟨_, _, h9, (by first | decide | exact Nat.le_refl _ | exact Nat.zero_le _), fun _ => ⟨_, _, _, rfl, Or.inl ⟨by decide, rfl⟩⟩, (mA_parted _ _ _ h _ _ h1)⟩
  · cases hh

set_option maxRecDepth 100000 in
theorem kA_own : mv_tok mdA_own nA_own tA_own = true := by decide +kernel
set_option maxRecDepth 100000 in
set_option maxHeartbeats 8000000 in
theorem eA_own (bd : Nat → Int32 → Int32 → Int32 → H2 → O2) (o0 : Nat) (v1 : Int32) (v2 : Int32) (v3 : Int32) (h : H2) : mv_blk rI2 rR2 ln2 wI2 wR2 nw2 cp2 bod none tA_own (gA_own bd) 0 0 [] (fun _ _ _ _ _ _ => none) 400 (mv_seek 0 tA_own) [(0, Sum.inr (0, o0)), (1, Sum.inl (Value.int v1)), (2, Sum.inl (Value.int v2)), (3, Sum.inl (Value.int v3))] [] h 0 0 = (
  mv_gd (mv_inb (((rI2 h 0 o0 2) * (nI 4)) + v1) 24) <|
  mv_rI (bd o0 (bod (((rI2 h 0 o0 2) * (nI 4)) + v1).toNatClampNeg) v2 (v3 + (nI 1)) h) fun r2 h1 =>
  some ([Sum.inl (Value.int r2)], h1)) := rfl
set_option maxRecDepth 100000 in
theorem kA_body : mv_tok mdA_body nA_body tA_body = true := by decide +kernel
set_option maxRecDepth 100000 in
set_option maxHeartbeats 8000000 in
theorem eA_body_b244 (bd : Nat → Int32 → Int32 → Int32 → H2 → O2) (o0 : Nat) (v2 : Int32) (h : H2) : mv_blk rI2 rR2 ln2 wI2 wR2 nw2 cp2 bod none tA_body (gA_body bd) 0 0 [] (fun _ _ _ _ _ _ => none) 400 (mv_seek 244 tA_body) [(0, Sum.inr (0, o0)), (2, Sum.inl (Value.int v2))] [] h 0 0 = (
  some ([Sum.inl (Value.int ((v2 * (nI 5)) + (rI2 h 0 o0 3)))], h)) := rfl
set_option maxRecDepth 100000 in
set_option maxHeartbeats 8000000 in
theorem eA_body_b253 (bd : Nat → Int32 → Int32 → Int32 → H2 → O2) (o0 : Nat) (v2 : Int32) (v3 : Int32) (h : H2) : mv_blk rI2 rR2 ln2 wI2 wR2 nw2 cp2 bod none tA_body (gA_body bd) 0 0 [] (fun _ _ _ _ _ _ => none) 400 (mv_seek 253 tA_body) [(0, Sum.inr (0, o0)), (2, Sum.inl (Value.int v2)), (3, Sum.inl (Value.int v3))] [] h 0 0 = (
  mv_rI (fA_own bd o0 (nI 0) v2 v3 h) fun r2 h1 =>
  some ([Sum.inl (Value.int (r2 + ((rI2 h1 0 o0 4) * (nI 9))))], h1)) := rfl
set_option maxRecDepth 100000 in
set_option maxHeartbeats 8000000 in
theorem eA_body_b269 (bd : Nat → Int32 → Int32 → Int32 → H2 → O2) (o0 : Nat) (v2 : Int32) (h : H2) : mv_blk rI2 rR2 ln2 wI2 wR2 nw2 cp2 bod none tA_body (gA_body bd) 0 0 [] (fun _ _ _ _ _ _ => none) 400 (mv_seek 269 tA_body) [(0, Sum.inr (0, o0)), (2, Sum.inl (Value.int v2))] [] h 0 0 = (
  mv_rI (fA_parted o0 v2 ((rI2 h 0 o0 4) - (rI2 h 0 o0 3)) h) fun r2 h1 =>
  some ([Sum.inl (Value.int r2)], h1)) := rfl
set_option maxRecDepth 100000 in
set_option maxHeartbeats 8000000 in
theorem eA_body_b284 (bd : Nat → Int32 → Int32 → Int32 → H2 → O2) (o0 : Nat) (v2 : Int32) (v3 : Int32) (h : H2) : mv_blk rI2 rR2 ln2 wI2 wR2 nw2 cp2 bod none tA_body (gA_body bd) 0 0 [] (fun _ _ _ _ _ _ => none) 400 (mv_seek 284 tA_body) [(0, Sum.inr (0, o0)), (2, Sum.inl (Value.int v2)), (3, Sum.inl (Value.int v3))] [] h 0 0 = (
  mv_rI (fA_own bd o0 (nI 1) v2 v3 h) fun r2 h1 =>
  some ([Sum.inl (Value.int (r2 ^^^ (nI 240)))], h1)) := rfl
set_option maxRecDepth 100000 in
set_option maxHeartbeats 8000000 in
theorem eA_body_b296 (bd : Nat → Int32 → Int32 → Int32 → H2 → O2) (o0 : Nat) (v2 : Int32) (v3 : Int32) (h : H2) : mv_blk rI2 rR2 ln2 wI2 wR2 nw2 cp2 bod none tA_body (gA_body bd) 0 0 [] (fun _ _ _ _ _ _ => none) 400 (mv_seek 296 tA_body) [(0, Sum.inr (0, o0)), (2, Sum.inl (Value.int v2)), (3, Sum.inl (Value.int v3))] [] h 0 0 = (
  mv_rI (bd o0 (nI 11) v2 (v3 + (nI 1)) h) fun r2 h1 =>
  some ([Sum.inl (Value.int (r2 - (nI 6)))], h1)) := rfl
set_option maxRecDepth 100000 in
set_option maxHeartbeats 8000000 in
theorem eA_body_b310 (bd : Nat → Int32 → Int32 → Int32 → H2 → O2) (o0 : Nat) (v2 : Int32) (v3 : Int32) (h : H2) : mv_blk rI2 rR2 ln2 wI2 wR2 nw2 cp2 bod none tA_body (gA_body bd) 0 0 [] (fun _ _ _ _ _ _ => none) 400 (mv_seek 310 tA_body) [(0, Sum.inr (0, o0)), (2, Sum.inl (Value.int v2)), (3, Sum.inl (Value.int v3))] [] h 0 0 = (
  mv_rI (bd o0 (nI 10) v2 (v3 + (nI 1)) h) fun r2 h1 =>
  some ([Sum.inl (Value.int (r2 * (nI 2)))], h1)) := rfl
set_option maxRecDepth 100000 in
set_option maxHeartbeats 8000000 in
theorem eA_body_b323 (bd : Nat → Int32 → Int32 → Int32 → H2 → O2) (o0 : Nat) (v2 : Int32) (v3 : Int32) (h : H2) : mv_blk rI2 rR2 ln2 wI2 wR2 nw2 cp2 bod none tA_body (gA_body bd) 0 0 [] (fun _ _ _ _ _ _ => none) 400 (mv_seek 323 tA_body) [(0, Sum.inr (0, o0)), (2, Sum.inl (Value.int v2)), (3, Sum.inl (Value.int v3))] [] h 0 0 = (
  mv_rI (bd o0 (nI 13) v2 (v3 + (nI 1)) h) fun r2 h1 =>
  mv_rI (fA_own bd o0 (nI 2) (rI2 h1 0 o0 3) v3 h1) fun r4 h3 =>
  some ([Sum.inl (Value.int (r2 + r4))], h3)) := rfl
set_option maxRecDepth 100000 in
set_option maxHeartbeats 8000000 in
theorem eA_body_b345 (bd : Nat → Int32 → Int32 → Int32 → H2 → O2) (o0 : Nat) (v2 : Int32) (v3 : Int32) (h : H2) : mv_blk rI2 rR2 ln2 wI2 wR2 nw2 cp2 bod none tA_body (gA_body bd) 0 0 [] (fun _ _ _ _ _ _ => none) 400 (mv_seek 345 tA_body) [(0, Sum.inr (0, o0)), (2, Sum.inl (Value.int v2)), (3, Sum.inl (Value.int v3))] [] h 0 0 = (
  mv_rI (bd o0 (nI 30) v2 (v3 + (nI 1)) h) fun r2 h1 =>
  some ([Sum.inl (Value.int ((nI 0) - r2))], h1)) := rfl
set_option maxRecDepth 100000 in
set_option maxHeartbeats 8000000 in
theorem eA_body_b358 (bd : Nat → Int32 → Int32 → Int32 → H2 → O2) (o0 : Nat) (v2 : Int32) (v3 : Int32) (h : H2) : mv_blk rI2 rR2 ln2 wI2 wR2 nw2 cp2 bod none tA_body (gA_body bd) 0 0 [] (fun _ _ _ _ _ _ => none) 400 (mv_seek 358 tA_body) [(0, Sum.inr (0, o0)), (2, Sum.inl (Value.int v2)), (3, Sum.inl (Value.int v3))] [] h 0 0 = (
  mv_rI (bd o0 (nI 11) v2 (v3 + (nI 1)) h) fun r2 h1 =>
  mv_rI (fA_own bd o0 (nI 0) (rI2 h1 0 o0 4) v3 h1) fun r4 h3 =>
  some ([Sum.inl (Value.int (r2 ^^^ r4))], h3)) := rfl
set_option maxRecDepth 100000 in
set_option maxHeartbeats 8000000 in
theorem eA_body_b380 (bd : Nat → Int32 → Int32 → Int32 → H2 → O2) (o0 : Nat) (v2 : Int32) (v3 : Int32) (h : H2) : mv_blk rI2 rR2 ln2 wI2 wR2 nw2 cp2 bod none tA_body (gA_body bd) 0 0 [] (fun _ _ _ _ _ _ => none) 400 (mv_seek 380 tA_body) [(0, Sum.inr (0, o0)), (2, Sum.inl (Value.int v2)), (3, Sum.inl (Value.int v3))] [] h 0 0 = (
  mv_rI (bd o0 (nI 12) (v2 + (nI 3)) (v3 + (nI 1)) h) fun r2 h1 =>
  some ([Sum.inl (Value.int (r2 + (rI2 h1 0 o0 4)))], h1)) := rfl
set_option maxRecDepth 100000 in
set_option maxHeartbeats 8000000 in
theorem eA_body_b398 (bd : Nat → Int32 → Int32 → Int32 → H2 → O2) (o0 : Nat) (v2 : Int32) (v3 : Int32) (h : H2) : mv_blk rI2 rR2 ln2 wI2 wR2 nw2 cp2 bod none tA_body (gA_body bd) 0 0 [] (fun _ _ _ _ _ _ => none) 400 (mv_seek 398 tA_body) [(0, Sum.inr (0, o0)), (2, Sum.inl (Value.int v2)), (3, Sum.inl (Value.int v3))] [] h 0 0 = (
  mv_rI (bd o0 (nI 10) v2 (v3 + (nI 1)) h) fun r2 h1 =>
  some ([Sum.inl (Value.int (r2 - (nI 2)))], h1)) := rfl
set_option maxRecDepth 100000 in
set_option maxHeartbeats 8000000 in
theorem eA_body_b411 (bd : Nat → Int32 → Int32 → Int32 → H2 → O2) (o0 : Nat) (v2 : Int32) (v3 : Int32) (h : H2) : mv_blk rI2 rR2 ln2 wI2 wR2 nw2 cp2 bod none tA_body (gA_body bd) 0 0 [] (fun _ _ _ _ _ _ => none) 400 (mv_seek 411 tA_body) [(0, Sum.inr (0, o0)), (2, Sum.inl (Value.int v2)), (3, Sum.inl (Value.int v3))] [] h 0 0 = (
  mv_rI (bd o0 (nI 13) v2 (v3 + (nI 1)) h) fun r2 h1 =>
  some ([Sum.inl (Value.int (r2 * (nI 3)))], h1)) := rfl
set_option maxRecDepth 100000 in
set_option maxHeartbeats 8000000 in
theorem eA_body_b424 (bd : Nat → Int32 → Int32 → Int32 → H2 → O2) (o0 : Nat) (v2 : Int32) (v3 : Int32) (h : H2) : mv_blk rI2 rR2 ln2 wI2 wR2 nw2 cp2 bod none tA_body (gA_body bd) 0 0 [] (fun _ _ _ _ _ _ => none) 400 (mv_seek 424 tA_body) [(0, Sum.inr (0, o0)), (2, Sum.inl (Value.int v2)), (3, Sum.inl (Value.int v3))] [] h 0 0 = (
  mv_rI (bd o0 (nI 12) v2 (v3 + (nI 1)) h) fun r2 h1 =>
  mv_rI (fA_own bd o0 (nI 0) (rI2 h1 0 o0 3) v3 h1) fun r4 h3 =>
  some ([Sum.inl (Value.int (r2 - r4))], h3)) := rfl
set_option maxRecDepth 100000 in
set_option maxHeartbeats 8000000 in
theorem eA_body_b446 (bd : Nat → Int32 → Int32 → Int32 → H2 → O2) (h : H2) : mv_blk rI2 rR2 ln2 wI2 wR2 nw2 cp2 bod none tA_body (gA_body bd) 0 0 [] (fun _ _ _ _ _ _ => none) 400 (mv_seek 446 tA_body) [] [] h 0 0 = (
  some ([Sum.inl (Value.int (nI 0))], h)) := rfl
set_option maxRecDepth 100000 in
set_option maxHeartbeats 8000000 in
theorem eA_body (bd : Nat → Int32 → Int32 → Int32 → H2 → O2) (q244 : Nat → Int32 → H2 → O2) (q253 : Nat → Int32 → Int32 → H2 → O2) (q269 : Nat → Int32 → H2 → O2) (q284 : Nat → Int32 → Int32 → H2 → O2) (q296 : Nat → Int32 → Int32 → H2 → O2) (q310 : Nat → Int32 → Int32 → H2 → O2) (q323 : Nat → Int32 → Int32 → H2 → O2) (q345 : Nat → Int32 → Int32 → H2 → O2) (q358 : Nat → Int32 → Int32 → H2 → O2) (q380 : Nat → Int32 → Int32 → H2 → O2) (q398 : Nat → Int32 → Int32 → H2 → O2) (q411 : Nat → Int32 → Int32 → H2 → O2) (q424 : Nat → Int32 → Int32 → H2 → O2) (q446 : H2 → O2) (o0 : Nat) (v1 : Int32) (v2 : Int32) (v3 : Int32) (h : H2) : mv_blk rI2 rR2 ln2 wI2 wR2 nw2 cp2 bod none tA_body (gA_body bd) 0 0 [244, 253, 269, 284, 296, 310, 323, 345, 358, 380, 398, 411, 424, 446] (fun pc lv st h ce sl => mv_gd (Nat.beq ce 0 && Nat.beq sl 0) (cond (Nat.beq pc 244) (mv_gR 0 0 lv fun o0 => mv_gI 2 lv fun v2 => mv_sE st (q244 o0 v2 h)) (cond (Nat.beq pc 253) (mv_gR 0 0 lv fun o0 => mv_gI 2 lv fun v2 => mv_gI 3 lv fun v3 => mv_sE st (q253 o0 v2 v3 h)) (cond (Nat.beq pc 269) (mv_gR 0 0 lv fun o0 => mv_gI 2 lv fun v2 => mv_sE st (q269 o0 v2 h)) (cond (Nat.beq pc 284) (mv_gR 0 0 lv fun o0 => mv_gI 2 lv fun v2 => mv_gI 3 lv fun v3 => mv_sE st (q284 o0 v2 v3 h)) (cond (Nat.beq pc 296) (mv_gR 0 0 lv fun o0 => mv_gI 2 lv fun v2 => mv_gI 3 lv fun v3 => mv_sE st (q296 o0 v2 v3 h)) (cond (Nat.beq pc 310) (mv_gR 0 0 lv fun o0 => mv_gI 2 lv fun v2 => mv_gI 3 lv fun v3 => mv_sE st (q310 o0 v2 v3 h)) (cond (Nat.beq pc 323) (mv_gR 0 0 lv fun o0 => mv_gI 2 lv fun v2 => mv_gI 3 lv fun v3 => mv_sE st (q323 o0 v2 v3 h)) (cond (Nat.beq pc 345) (mv_gR 0 0 lv fun o0 => mv_gI 2 lv fun v2 => mv_gI 3 lv fun v3 => mv_sE st (q345 o0 v2 v3 h)) (cond (Nat.beq pc 358) (mv_gR 0 0 lv fun o0 => mv_gI 2 lv fun v2 => mv_gI 3 lv fun v3 => mv_sE st (q358 o0 v2 v3 h)) (cond (Nat.beq pc 380) (mv_gR 0 0 lv fun o0 => mv_gI 2 lv fun v2 => mv_gI 3 lv fun v3 => mv_sE st (q380 o0 v2 v3 h)) (cond (Nat.beq pc 398) (mv_gR 0 0 lv fun o0 => mv_gI 2 lv fun v2 => mv_gI 3 lv fun v3 => mv_sE st (q398 o0 v2 v3 h)) (cond (Nat.beq pc 411) (mv_gR 0 0 lv fun o0 => mv_gI 2 lv fun v2 => mv_gI 3 lv fun v3 => mv_sE st (q411 o0 v2 v3 h)) (cond (Nat.beq pc 424) (mv_gR 0 0 lv fun o0 => mv_gI 2 lv fun v2 => mv_gI 3 lv fun v3 => mv_sE st (q424 o0 v2 v3 h)) (cond (Nat.beq pc 446) (mv_sE st (q446 h)) (none)))))))))))))))) 400 (mv_seek 0 tA_body) [(0, Sum.inr (0, o0)), (1, Sum.inl (Value.int v1)), (2, Sum.inl (Value.int v2)), (3, Sum.inl (Value.int v3))] [] h 0 0 = (
  if (rI2 h 0 o0 5) = 0 then (
    if v3 ≤ (nI 20) then (
      mv_rV (fA_note o0 v1 h) fun h1 =>
      if v1 = nI 10 then (
        q244 o0 v2 h1)
      else
      if v1 = nI 11 then (
        q253 o0 v2 v3 h1)
      else
      if v1 = nI 12 then (
        q269 o0 v2 h1)
      else
      if v1 = nI 13 then (
        q284 o0 v2 v3 h1)
      else
      if v1 = nI 14 then (
        q446 h1)
      else
      if v1 = nI 15 then (
        q446 h1)
      else
      if v1 = nI 16 then (
        q446 h1)
      else
      if v1 = nI 17 then (
        q446 h1)
      else
      if v1 = nI 18 then (
        q446 h1)
      else
      if v1 = nI 19 then (
        q446 h1)
      else
      if v1 = nI 20 then (
        q296 o0 v2 v3 h1)
      else
      if v1 = nI 21 then (
        q446 h1)
      else
      if v1 = nI 22 then (
        q446 h1)
      else
      if v1 = nI 23 then (
        q446 h1)
      else
      if v1 = nI 24 then (
        q446 h1)
      else
      if v1 = nI 25 then (
        q446 h1)
      else
      if v1 = nI 26 then (
        q446 h1)
      else
      if v1 = nI 27 then (
        q446 h1)
      else
      if v1 = nI 28 then (
        q446 h1)
      else
      if v1 = nI 29 then (
        q446 h1)
      else
      if v1 = nI 30 then (
        q310 o0 v2 v3 h1)
      else
      if v1 = nI 31 then (
        q323 o0 v2 v3 h1)
      else
      if v1 = nI 32 then (
        q446 h1)
      else
      if v1 = nI 33 then (
        q446 h1)
      else
      if v1 = nI 34 then (
        q446 h1)
      else
      if v1 = nI 35 then (
        q446 h1)
      else
      if v1 = nI 36 then (
        q446 h1)
      else
      if v1 = nI 37 then (
        q446 h1)
      else
      if v1 = nI 38 then (
        q446 h1)
      else
      if v1 = nI 39 then (
        q446 h1)
      else
      if v1 = nI 40 then (
        q345 o0 v2 v3 h1)
      else
      if v1 = nI 41 then (
        q358 o0 v2 v3 h1)
      else
      if v1 = nI 42 then (
        q446 h1)
      else
      if v1 = nI 43 then (
        q446 h1)
      else
      if v1 = nI 44 then (
        q446 h1)
      else
      if v1 = nI 45 then (
        q446 h1)
      else
      if v1 = nI 46 then (
        q446 h1)
      else
      if v1 = nI 47 then (
        q446 h1)
      else
      if v1 = nI 48 then (
        q446 h1)
      else
      if v1 = nI 49 then (
        q446 h1)
      else
      if v1 = nI 50 then (
        q380 o0 v2 v3 h1)
      else
      if v1 = nI 51 then (
        q398 o0 v2 v3 h1)
      else
      if v1 = nI 52 then (
        q446 h1)
      else
      if v1 = nI 53 then (
        q446 h1)
      else
      if v1 = nI 54 then (
        q446 h1)
      else
      if v1 = nI 55 then (
        q446 h1)
      else
      if v1 = nI 56 then (
        q446 h1)
      else
      if v1 = nI 57 then (
        q446 h1)
      else
      if v1 = nI 58 then (
        q446 h1)
      else
      if v1 = nI 59 then (
        q446 h1)
      else
      if v1 = nI 60 then (
        q411 o0 v2 v3 h1)
      else
      if v1 = nI 61 then (
        q424 o0 v2 v3 h1)
      else
      q446 h1)
    else
    some ([Sum.inl (Value.int (nI 0))], h))
  else
  some ([Sum.inl (Value.int (nI 0))], h)) := rfl
end
section
theorem cA_body_ok {lv : Nat} {bd : Nat → Int32 → Int32 → Int32 → H2 → O2} (hbd : ∀ o0 v1 v2 v3 h vs h', bd o0 v1 v2 v3 h = some (vs, h') → mv_Met vw2 lv 0 0 mdA_body [.inr (0, o0), .inl (.int v1), .inl (.int v2), .inl (.int v3)] h vs h') : mv_Cal vw2 lv (mdA_body, true) ((0, 0), cA_body bd) := by
  intro as h k res hh
  change cA_body bd as h k = some res at hh
  unfold cA_body at hh
  split at hh
  · obtain ⟨hg0, ha0⟩ := mv_gd_some hh
    obtain rfl := Nat.eq_of_beq_eq_true hg0
    obtain ⟨x, h', h1, h9⟩ := mv_rI_some ha0
    exact ⟨_, _, h9, (by first | decide | exact Nat.le_refl _ | exact Nat.zero_le _), fun _ => ⟨_, _, _, rfl, Or.inl ⟨by decide, rfl⟩⟩, (hbd _ _ _ _ h _ _ h1)⟩
  · cases hh

theorem GA_own {lv : Nat} {bd : Nat → Int32 → Int32 → Int32 → H2 → O2} (hbd : ∀ o0 v1 v2 v3 h vs h', bd o0 v1 v2 v3 h = some (vs, h') → mv_Met vw2 lv 0 0 mdA_body [.inr (0, o0), .inl (.int v1), .inl (.int v2), .inl (.int v3)] h vs h') : ∀ (j : Nat) (C : mv_C H2) (md' : mv_MD × Bool), mv_nth j (gA_own bd) = some C → mv_nth j nA_own = some md' → ∃ n', n' + 1 ≤ (lv + 1) ∧ mv_Cal vw2 n' md' C := fun j C md' => match j with
  | 0 => fun h1 h2 => by
    obtain rfl := Option.some.inj h1
    obtain rfl := Option.some.inj h2
    exact ⟨lv, by omega, (cA_body_ok hbd)⟩
  | jj + 1 => fun h1 _ => by cases jj <;> cases h1

set_option maxRecDepth 20000 in
theorem xA_own {g0 : mv_G} {res : List mv_V × H2} {lv : Nat} {bd : Nat → Int32 → Int32 → Int32 → H2 → O2} (hbd : ∀ o0 v1 v2 v3 h vs h', bd o0 v1 v2 v3 h = some (vs, h') → mv_Met vw2 lv 0 0 mdA_body [.inr (0, o0), .inl (.int v1), .inl (.int v2), .inl (.int v3)] h vs h') (o0 : Nat) (v1 : Int32) (v2 : Int32) (v3 : Int32) (h : H2) (hh : fA_own bd o0 v1 v2 v3 h = some res) : mv_X vw2 mdA_own (lv + 1) 0 0 none g0 res 0 [(0, Sum.inr (0, o0)), (1, Sum.inl (Value.int v1)), (2, Sum.inl (Value.int v2)), (3, Sum.inl (Value.int v3))] [] h 0 0 := by
  refine mv_blkX ax2 (GA_own hbd) (by omega) kA_own (fun pc lv st h ce sl hh => ?_) ((eA_own bd  o0 v1 v2 v3 h).trans hh)
  cases hh

theorem mA_own {lv : Nat} {bd : Nat → Int32 → Int32 → Int32 → H2 → O2} (hbd : ∀ o0 v1 v2 v3 h vs h', bd o0 v1 v2 v3 h = some (vs, h') → mv_Met vw2 lv 0 0 mdA_body [.inr (0, o0), .inl (.int v1), .inl (.int v2), .inl (.int v3)] h vs h') (o0 : Nat) (v1 : Int32) (v2 : Int32) (v3 : Int32) (h : H2) (vs : List mv_V) (h' : H2) (hh : fA_own bd o0 v1 v2 v3 h = some (vs, h')) : mv_Met vw2 (lv + 1) 0 0 mdA_own [Sum.inr (0, o0), Sum.inl (Value.int v1), Sum.inl (Value.int v2), Sum.inl (Value.int v3)] h vs h' :=
  mv_Met_of (by decide +kernel) (Nat.le_of_ble_eq_true rfl) (xA_own hbd o0 v1 v2 v3 h hh)
theorem cA_own_ok {lv : Nat} {bd : Nat → Int32 → Int32 → Int32 → H2 → O2} (hbd : ∀ o0 v1 v2 v3 h vs h', bd o0 v1 v2 v3 h = some (vs, h') → mv_Met vw2 lv 0 0 mdA_body [.inr (0, o0), .inl (.int v1), .inl (.int v2), .inl (.int v3)] h vs h') : mv_Cal vw2 (lv + 1) (mdA_own, true) ((0, 0), cA_own bd) := by
  intro as h k res hh
  change cA_own bd as h k = some res at hh
  unfold cA_own at hh
  split at hh
  · obtain ⟨hg0, ha0⟩ := mv_gd_some hh
    obtain rfl := Nat.eq_of_beq_eq_true hg0
    obtain ⟨x, h', h1, h9⟩ := mv_rI_some ha0
    exact ⟨_, _, h9, (by first | decide | exact Nat.le_refl _ | exact Nat.zero_le _), fun _ => ⟨_, _, _, rfl, Or.inl ⟨by decide, rfl⟩⟩, (mA_own hbd _ _ _ _ h _ _ h1)⟩
  · cases hh

theorem GA_body {lv : Nat} {bd : Nat → Int32 → Int32 → Int32 → H2 → O2} (hbd : ∀ o0 v1 v2 v3 h vs h', bd o0 v1 v2 v3 h = some (vs, h') → mv_Met vw2 lv 0 0 mdA_body [.inr (0, o0), .inl (.int v1), .inl (.int v2), .inl (.int v3)] h vs h') : ∀ (j : Nat) (C : mv_C H2) (md' : mv_MD × Bool), mv_nth j (gA_body bd) = some C → mv_nth j nA_body = some md' → ∃ n', n' + 1 ≤ (lv + 2) ∧ mv_Cal vw2 n' md' C := fun j C md' => match j with
  | 0 => fun h1 h2 => by
    obtain rfl := Option.some.inj h1
    obtain rfl := Option.some.inj h2
    exact ⟨1, by omega, cA_note_ok⟩
  | 1 => fun h1 h2 => by
    obtain rfl := Option.some.inj h1
    obtain rfl := Option.some.inj h2
    exact ⟨(lv + 1), by omega, (cA_own_ok hbd)⟩
  | 2 => fun h1 h2 => by
    obtain rfl := Option.some.inj h1
    obtain rfl := Option.some.inj h2
    exact ⟨1, by omega, cA_parted_ok⟩
  | 3 => fun h1 h2 => by
    obtain rfl := Option.some.inj h1
    obtain rfl := Option.some.inj h2
    exact ⟨lv, by omega, (cA_body_ok hbd)⟩
  | jj + 4 => fun h1 _ => by cases jj <;> cases h1

set_option maxRecDepth 20000 in
theorem xA_body_b244 {g0 : mv_G} {res : List mv_V × H2} {lv : Nat} {bd : Nat → Int32 → Int32 → Int32 → H2 → O2} (hbd : ∀ o0 v1 v2 v3 h vs h', bd o0 v1 v2 v3 h = some (vs, h') → mv_Met vw2 lv 0 0 mdA_body [.inr (0, o0), .inl (.int v1), .inl (.int v2), .inl (.int v3)] h vs h') (o0 : Nat) (v2 : Int32) (h : H2) (hh : fA_bodyF_b244 bd o0 v2 h = some res) : mv_X vw2 mdA_body (lv + 2) 0 0 none g0 res 244 [(0, Sum.inr (0, o0)), (2, Sum.inl (Value.int v2))] [] h 0 0 := by
  refine mv_blkX ax2 (GA_body hbd) (by omega) kA_body (fun pc lv st h ce sl hh => ?_) ((eA_body_b244 bd  o0 v2 h).trans hh)
  cases hh

set_option maxRecDepth 20000 in
theorem xA_body_b253 {g0 : mv_G} {res : List mv_V × H2} {lv : Nat} {bd : Nat → Int32 → Int32 → Int32 → H2 → O2} (hbd : ∀ o0 v1 v2 v3 h vs h', bd o0 v1 v2 v3 h = some (vs, h') → mv_Met vw2 lv 0 0 mdA_body [.inr (0, o0), .inl (.int v1), .inl (.int v2), .inl (.int v3)] h vs h') (o0 : Nat) (v2 : Int32) (v3 : Int32) (h : H2) (hh : fA_bodyF_b253 bd o0 v2 v3 h = some res) : mv_X vw2 mdA_body (lv + 2) 0 0 none g0 res 253 [(0, Sum.inr (0, o0)), (2, Sum.inl (Value.int v2)), (3, Sum.inl (Value.int v3))] [] h 0 0 := by
  refine mv_blkX ax2 (GA_body hbd) (by omega) kA_body (fun pc lv st h ce sl hh => ?_) ((eA_body_b253 bd  o0 v2 v3 h).trans hh)
  cases hh

set_option maxRecDepth 20000 in
theorem xA_body_b269 {g0 : mv_G} {res : List mv_V × H2} {lv : Nat} {bd : Nat → Int32 → Int32 → Int32 → H2 → O2} (hbd : ∀ o0 v1 v2 v3 h vs h', bd o0 v1 v2 v3 h = some (vs, h') → mv_Met vw2 lv 0 0 mdA_body [.inr (0, o0), .inl (.int v1), .inl (.int v2), .inl (.int v3)] h vs h') (o0 : Nat) (v2 : Int32) (h : H2) (hh : fA_bodyF_b269 bd o0 v2 h = some res) : mv_X vw2 mdA_body (lv + 2) 0 0 none g0 res 269 [(0, Sum.inr (0, o0)), (2, Sum.inl (Value.int v2))] [] h 0 0 := by
  refine mv_blkX ax2 (GA_body hbd) (by omega) kA_body (fun pc lv st h ce sl hh => ?_) ((eA_body_b269 bd  o0 v2 h).trans hh)
  cases hh

set_option maxRecDepth 20000 in
theorem xA_body_b284 {g0 : mv_G} {res : List mv_V × H2} {lv : Nat} {bd : Nat → Int32 → Int32 → Int32 → H2 → O2} (hbd : ∀ o0 v1 v2 v3 h vs h', bd o0 v1 v2 v3 h = some (vs, h') → mv_Met vw2 lv 0 0 mdA_body [.inr (0, o0), .inl (.int v1), .inl (.int v2), .inl (.int v3)] h vs h') (o0 : Nat) (v2 : Int32) (v3 : Int32) (h : H2) (hh : fA_bodyF_b284 bd o0 v2 v3 h = some res) : mv_X vw2 mdA_body (lv + 2) 0 0 none g0 res 284 [(0, Sum.inr (0, o0)), (2, Sum.inl (Value.int v2)), (3, Sum.inl (Value.int v3))] [] h 0 0 := by
  refine mv_blkX ax2 (GA_body hbd) (by omega) kA_body (fun pc lv st h ce sl hh => ?_) ((eA_body_b284 bd  o0 v2 v3 h).trans hh)
  cases hh

set_option maxRecDepth 20000 in
theorem xA_body_b296 {g0 : mv_G} {res : List mv_V × H2} {lv : Nat} {bd : Nat → Int32 → Int32 → Int32 → H2 → O2} (hbd : ∀ o0 v1 v2 v3 h vs h', bd o0 v1 v2 v3 h = some (vs, h') → mv_Met vw2 lv 0 0 mdA_body [.inr (0, o0), .inl (.int v1), .inl (.int v2), .inl (.int v3)] h vs h') (o0 : Nat) (v2 : Int32) (v3 : Int32) (h : H2) (hh : fA_bodyF_b296 bd o0 v2 v3 h = some res) : mv_X vw2 mdA_body (lv + 2) 0 0 none g0 res 296 [(0, Sum.inr (0, o0)), (2, Sum.inl (Value.int v2)), (3, Sum.inl (Value.int v3))] [] h 0 0 := by
  refine mv_blkX ax2 (GA_body hbd) (by omega) kA_body (fun pc lv st h ce sl hh => ?_) ((eA_body_b296 bd  o0 v2 v3 h).trans hh)
  cases hh

set_option maxRecDepth 20000 in
theorem xA_body_b310 {g0 : mv_G} {res : List mv_V × H2} {lv : Nat} {bd : Nat → Int32 → Int32 → Int32 → H2 → O2} (hbd : ∀ o0 v1 v2 v3 h vs h', bd o0 v1 v2 v3 h = some (vs, h') → mv_Met vw2 lv 0 0 mdA_body [.inr (0, o0), .inl (.int v1), .inl (.int v2), .inl (.int v3)] h vs h') (o0 : Nat) (v2 : Int32) (v3 : Int32) (h : H2) (hh : fA_bodyF_b310 bd o0 v2 v3 h = some res) : mv_X vw2 mdA_body (lv + 2) 0 0 none g0 res 310 [(0, Sum.inr (0, o0)), (2, Sum.inl (Value.int v2)), (3, Sum.inl (Value.int v3))] [] h 0 0 := by
  refine mv_blkX ax2 (GA_body hbd) (by omega) kA_body (fun pc lv st h ce sl hh => ?_) ((eA_body_b310 bd  o0 v2 v3 h).trans hh)
  cases hh

set_option maxRecDepth 20000 in
theorem xA_body_b323 {g0 : mv_G} {res : List mv_V × H2} {lv : Nat} {bd : Nat → Int32 → Int32 → Int32 → H2 → O2} (hbd : ∀ o0 v1 v2 v3 h vs h', bd o0 v1 v2 v3 h = some (vs, h') → mv_Met vw2 lv 0 0 mdA_body [.inr (0, o0), .inl (.int v1), .inl (.int v2), .inl (.int v3)] h vs h') (o0 : Nat) (v2 : Int32) (v3 : Int32) (h : H2) (hh : fA_bodyF_b323 bd o0 v2 v3 h = some res) : mv_X vw2 mdA_body (lv + 2) 0 0 none g0 res 323 [(0, Sum.inr (0, o0)), (2, Sum.inl (Value.int v2)), (3, Sum.inl (Value.int v3))] [] h 0 0 := by
  refine mv_blkX ax2 (GA_body hbd) (by omega) kA_body (fun pc lv st h ce sl hh => ?_) ((eA_body_b323 bd  o0 v2 v3 h).trans hh)
  cases hh

set_option maxRecDepth 20000 in
theorem xA_body_b345 {g0 : mv_G} {res : List mv_V × H2} {lv : Nat} {bd : Nat → Int32 → Int32 → Int32 → H2 → O2} (hbd : ∀ o0 v1 v2 v3 h vs h', bd o0 v1 v2 v3 h = some (vs, h') → mv_Met vw2 lv 0 0 mdA_body [.inr (0, o0), .inl (.int v1), .inl (.int v2), .inl (.int v3)] h vs h') (o0 : Nat) (v2 : Int32) (v3 : Int32) (h : H2) (hh : fA_bodyF_b345 bd o0 v2 v3 h = some res) : mv_X vw2 mdA_body (lv + 2) 0 0 none g0 res 345 [(0, Sum.inr (0, o0)), (2, Sum.inl (Value.int v2)), (3, Sum.inl (Value.int v3))] [] h 0 0 := by
  refine mv_blkX ax2 (GA_body hbd) (by omega) kA_body (fun pc lv st h ce sl hh => ?_) ((eA_body_b345 bd  o0 v2 v3 h).trans hh)
  cases hh

set_option maxRecDepth 20000 in
theorem xA_body_b358 {g0 : mv_G} {res : List mv_V × H2} {lv : Nat} {bd : Nat → Int32 → Int32 → Int32 → H2 → O2} (hbd : ∀ o0 v1 v2 v3 h vs h', bd o0 v1 v2 v3 h = some (vs, h') → mv_Met vw2 lv 0 0 mdA_body [.inr (0, o0), .inl (.int v1), .inl (.int v2), .inl (.int v3)] h vs h') (o0 : Nat) (v2 : Int32) (v3 : Int32) (h : H2) (hh : fA_bodyF_b358 bd o0 v2 v3 h = some res) : mv_X vw2 mdA_body (lv + 2) 0 0 none g0 res 358 [(0, Sum.inr (0, o0)), (2, Sum.inl (Value.int v2)), (3, Sum.inl (Value.int v3))] [] h 0 0 := by
  refine mv_blkX ax2 (GA_body hbd) (by omega) kA_body (fun pc lv st h ce sl hh => ?_) ((eA_body_b358 bd  o0 v2 v3 h).trans hh)
  cases hh

set_option maxRecDepth 20000 in
theorem xA_body_b380 {g0 : mv_G} {res : List mv_V × H2} {lv : Nat} {bd : Nat → Int32 → Int32 → Int32 → H2 → O2} (hbd : ∀ o0 v1 v2 v3 h vs h', bd o0 v1 v2 v3 h = some (vs, h') → mv_Met vw2 lv 0 0 mdA_body [.inr (0, o0), .inl (.int v1), .inl (.int v2), .inl (.int v3)] h vs h') (o0 : Nat) (v2 : Int32) (v3 : Int32) (h : H2) (hh : fA_bodyF_b380 bd o0 v2 v3 h = some res) : mv_X vw2 mdA_body (lv + 2) 0 0 none g0 res 380 [(0, Sum.inr (0, o0)), (2, Sum.inl (Value.int v2)), (3, Sum.inl (Value.int v3))] [] h 0 0 := by
  refine mv_blkX ax2 (GA_body hbd) (by omega) kA_body (fun pc lv st h ce sl hh => ?_) ((eA_body_b380 bd  o0 v2 v3 h).trans hh)
  cases hh

set_option maxRecDepth 20000 in
theorem xA_body_b398 {g0 : mv_G} {res : List mv_V × H2} {lv : Nat} {bd : Nat → Int32 → Int32 → Int32 → H2 → O2} (hbd : ∀ o0 v1 v2 v3 h vs h', bd o0 v1 v2 v3 h = some (vs, h') → mv_Met vw2 lv 0 0 mdA_body [.inr (0, o0), .inl (.int v1), .inl (.int v2), .inl (.int v3)] h vs h') (o0 : Nat) (v2 : Int32) (v3 : Int32) (h : H2) (hh : fA_bodyF_b398 bd o0 v2 v3 h = some res) : mv_X vw2 mdA_body (lv + 2) 0 0 none g0 res 398 [(0, Sum.inr (0, o0)), (2, Sum.inl (Value.int v2)), (3, Sum.inl (Value.int v3))] [] h 0 0 := by
  refine mv_blkX ax2 (GA_body hbd) (by omega) kA_body (fun pc lv st h ce sl hh => ?_) ((eA_body_b398 bd  o0 v2 v3 h).trans hh)
  cases hh

set_option maxRecDepth 20000 in
theorem xA_body_b411 {g0 : mv_G} {res : List mv_V × H2} {lv : Nat} {bd : Nat → Int32 → Int32 → Int32 → H2 → O2} (hbd : ∀ o0 v1 v2 v3 h vs h', bd o0 v1 v2 v3 h = some (vs, h') → mv_Met vw2 lv 0 0 mdA_body [.inr (0, o0), .inl (.int v1), .inl (.int v2), .inl (.int v3)] h vs h') (o0 : Nat) (v2 : Int32) (v3 : Int32) (h : H2) (hh : fA_bodyF_b411 bd o0 v2 v3 h = some res) : mv_X vw2 mdA_body (lv + 2) 0 0 none g0 res 411 [(0, Sum.inr (0, o0)), (2, Sum.inl (Value.int v2)), (3, Sum.inl (Value.int v3))] [] h 0 0 := by
  refine mv_blkX ax2 (GA_body hbd) (by omega) kA_body (fun pc lv st h ce sl hh => ?_) ((eA_body_b411 bd  o0 v2 v3 h).trans hh)
  cases hh

set_option maxRecDepth 20000 in
theorem xA_body_b424 {g0 : mv_G} {res : List mv_V × H2} {lv : Nat} {bd : Nat → Int32 → Int32 → Int32 → H2 → O2} (hbd : ∀ o0 v1 v2 v3 h vs h', bd o0 v1 v2 v3 h = some (vs, h') → mv_Met vw2 lv 0 0 mdA_body [.inr (0, o0), .inl (.int v1), .inl (.int v2), .inl (.int v3)] h vs h') (o0 : Nat) (v2 : Int32) (v3 : Int32) (h : H2) (hh : fA_bodyF_b424 bd o0 v2 v3 h = some res) : mv_X vw2 mdA_body (lv + 2) 0 0 none g0 res 424 [(0, Sum.inr (0, o0)), (2, Sum.inl (Value.int v2)), (3, Sum.inl (Value.int v3))] [] h 0 0 := by
  refine mv_blkX ax2 (GA_body hbd) (by omega) kA_body (fun pc lv st h ce sl hh => ?_) ((eA_body_b424 bd  o0 v2 v3 h).trans hh)
  cases hh

set_option maxRecDepth 20000 in
theorem xA_body_b446 {g0 : mv_G} {res : List mv_V × H2} {lv : Nat} {bd : Nat → Int32 → Int32 → Int32 → H2 → O2} (hbd : ∀ o0 v1 v2 v3 h vs h', bd o0 v1 v2 v3 h = some (vs, h') → mv_Met vw2 lv 0 0 mdA_body [.inr (0, o0), .inl (.int v1), .inl (.int v2), .inl (.int v3)] h vs h') (h : H2) (hh : fA_bodyF_b446 bd  h = some res) : mv_X vw2 mdA_body (lv + 2) 0 0 none g0 res 446 [] [] h 0 0 := by
  refine mv_blkX ax2 (GA_body hbd) (by omega) kA_body (fun pc lv st h ce sl hh => ?_) ((eA_body_b446 bd   h).trans hh)
  cases hh

set_option maxRecDepth 20000 in
theorem xA_body {g0 : mv_G} {res : List mv_V × H2} {lv : Nat} {bd : Nat → Int32 → Int32 → Int32 → H2 → O2} (hbd : ∀ o0 v1 v2 v3 h vs h', bd o0 v1 v2 v3 h = some (vs, h') → mv_Met vw2 lv 0 0 mdA_body [.inr (0, o0), .inl (.int v1), .inl (.int v2), .inl (.int v3)] h vs h') (o0 : Nat) (v1 : Int32) (v2 : Int32) (v3 : Int32) (h : H2) (hh : fA_bodyF bd o0 v1 v2 v3 h = some res) : mv_X vw2 mdA_body (lv + 2) 0 0 none g0 res 0 [(0, Sum.inr (0, o0)), (1, Sum.inl (Value.int v1)), (2, Sum.inl (Value.int v2)), (3, Sum.inl (Value.int v3))] [] h 0 0 := by
  refine mv_blkX ax2 (GA_body hbd) (by omega) kA_body (fun pc lv st h ce sl hh => ?_) ((eA_body bd (fA_bodyF_b244 bd) (fA_bodyF_b253 bd) (fA_bodyF_b269 bd) (fA_bodyF_b284 bd) (fA_bodyF_b296 bd) (fA_bodyF_b310 bd) (fA_bodyF_b323 bd) (fA_bodyF_b345 bd) (fA_bodyF_b358 bd) (fA_bodyF_b380 bd) (fA_bodyF_b398 bd) (fA_bodyF_b411 bd) (fA_bodyF_b424 bd) (fA_bodyF_b446 bd) o0 v1 v2 v3 h).trans hh)
  obtain ⟨hg, hh1⟩ := mv_gd_some hh
  obtain ⟨rfl, rfl⟩ := mv_z2 hg
  rcases mv_cond_some hh1 with ⟨hb, hh2⟩ | ⟨hb, hh3⟩
  · obtain rfl := Nat.eq_of_beq_eq_true hb
    obtain ⟨o0, m0, hh4⟩ := mv_gR_some hh2
    obtain ⟨v2, m1, hh5⟩ := mv_gI_some hh4
    obtain ⟨rfl, hh6⟩ := mv_sE_some hh5
    exact (xA_body_b244 hbd  o0 v2 h hh6).sub (List.forall_mem_cons.mpr ⟨m0, (List.forall_mem_cons.mpr ⟨m1, (fun q hq => by cases hq)⟩)⟩)
  rcases mv_cond_some hh3 with ⟨hb, hh7⟩ | ⟨hb, hh8⟩
  · obtain rfl := Nat.eq_of_beq_eq_true hb
    obtain ⟨o0, m0, hh9⟩ := mv_gR_some hh7
    obtain ⟨v2, m1, hh10⟩ := mv_gI_some hh9
    obtain ⟨v3, m2, hh11⟩ := mv_gI_some hh10
    obtain ⟨rfl, hh12⟩ := mv_sE_some hh11
    exact (xA_body_b253 hbd  o0 v2 v3 h hh12).sub (List.forall_mem_cons.mpr ⟨m0, (List.forall_mem_cons.mpr ⟨m1, (List.forall_mem_cons.mpr ⟨m2, (fun q hq => by cases hq)⟩)⟩)⟩)
  rcases mv_cond_some hh8 with ⟨hb, hh13⟩ | ⟨hb, hh14⟩
  · obtain rfl := Nat.eq_of_beq_eq_true hb
    obtain ⟨o0, m0, hh15⟩ := mv_gR_some hh13
    obtain ⟨v2, m1, hh16⟩ := mv_gI_some hh15
    obtain ⟨rfl, hh17⟩ := mv_sE_some hh16
    exact (xA_body_b269 hbd  o0 v2 h hh17).sub (List.forall_mem_cons.mpr ⟨m0, (List.forall_mem_cons.mpr ⟨m1, (fun q hq => by cases hq)⟩)⟩)
  rcases mv_cond_some hh14 with ⟨hb, hh18⟩ | ⟨hb, hh19⟩
  · obtain rfl := Nat.eq_of_beq_eq_true hb
    obtain ⟨o0, m0, hh20⟩ := mv_gR_some hh18
    obtain ⟨v2, m1, hh21⟩ := mv_gI_some hh20
    obtain ⟨v3, m2, hh22⟩ := mv_gI_some hh21
    obtain ⟨rfl, hh23⟩ := mv_sE_some hh22
    exact (xA_body_b284 hbd  o0 v2 v3 h hh23).sub (List.forall_mem_cons.mpr ⟨m0, (List.forall_mem_cons.mpr ⟨m1, (List.forall_mem_cons.mpr ⟨m2, (fun q hq => by cases hq)⟩)⟩)⟩)
  rcases mv_cond_some hh19 with ⟨hb, hh24⟩ | ⟨hb, hh25⟩
  · obtain rfl := Nat.eq_of_beq_eq_true hb
    obtain ⟨o0, m0, hh26⟩ := mv_gR_some hh24
    obtain ⟨v2, m1, hh27⟩ := mv_gI_some hh26
    obtain ⟨v3, m2, hh28⟩ := mv_gI_some hh27
    obtain ⟨rfl, hh29⟩ := mv_sE_some hh28
    exact (xA_body_b296 hbd  o0 v2 v3 h hh29).sub (List.forall_mem_cons.mpr ⟨m0, (List.forall_mem_cons.mpr ⟨m1, (List.forall_mem_cons.mpr ⟨m2, (fun q hq => by cases hq)⟩)⟩)⟩)
  rcases mv_cond_some hh25 with ⟨hb, hh30⟩ | ⟨hb, hh31⟩
  · obtain rfl := Nat.eq_of_beq_eq_true hb
    obtain ⟨o0, m0, hh32⟩ := mv_gR_some hh30
    obtain ⟨v2, m1, hh33⟩ := mv_gI_some hh32
    obtain ⟨v3, m2, hh34⟩ := mv_gI_some hh33
    obtain ⟨rfl, hh35⟩ := mv_sE_some hh34
    exact (xA_body_b310 hbd  o0 v2 v3 h hh35).sub (List.forall_mem_cons.mpr ⟨m0, (List.forall_mem_cons.mpr ⟨m1, (List.forall_mem_cons.mpr ⟨m2, (fun q hq => by cases hq)⟩)⟩)⟩)
  rcases mv_cond_some hh31 with ⟨hb, hh36⟩ | ⟨hb, hh37⟩
  · obtain rfl := Nat.eq_of_beq_eq_true hb
    obtain ⟨o0, m0, hh38⟩ := mv_gR_some hh36
    obtain ⟨v2, m1, hh39⟩ := mv_gI_some hh38
    obtain ⟨v3, m2, hh40⟩ := mv_gI_some hh39
    obtain ⟨rfl, hh41⟩ := mv_sE_some hh40
    exact (xA_body_b323 hbd  o0 v2 v3 h hh41).sub (List.forall_mem_cons.mpr ⟨m0, (List.forall_mem_cons.mpr ⟨m1, (List.forall_mem_cons.mpr ⟨m2, (fun q hq => by cases hq)⟩)⟩)⟩)
  rcases mv_cond_some hh37 with ⟨hb, hh42⟩ | ⟨hb, hh43⟩
  · obtain rfl := Nat.eq_of_beq_eq_true hb
    obtain ⟨o0, m0, hh44⟩ := mv_gR_some hh42
    obtain ⟨v2, m1, hh45⟩ := mv_gI_some hh44
    obtain ⟨v3, m2, hh46⟩ := mv_gI_some hh45
    obtain ⟨rfl, hh47⟩ := mv_sE_some hh46
    exact (xA_body_b345 hbd  o0 v2 v3 h hh47).sub (List.forall_mem_cons.mpr ⟨m0, (List.forall_mem_cons.mpr ⟨m1, (List.forall_mem_cons.mpr ⟨m2, (fun q hq => by cases hq)⟩)⟩)⟩)
  rcases mv_cond_some hh43 with ⟨hb, hh48⟩ | ⟨hb, hh49⟩
  · obtain rfl := Nat.eq_of_beq_eq_true hb
    obtain ⟨o0, m0, hh50⟩ := mv_gR_some hh48
    obtain ⟨v2, m1, hh51⟩ := mv_gI_some hh50
    obtain ⟨v3, m2, hh52⟩ := mv_gI_some hh51
    obtain ⟨rfl, hh53⟩ := mv_sE_some hh52
    exact (xA_body_b358 hbd  o0 v2 v3 h hh53).sub (List.forall_mem_cons.mpr ⟨m0, (List.forall_mem_cons.mpr ⟨m1, (List.forall_mem_cons.mpr ⟨m2, (fun q hq => by cases hq)⟩)⟩)⟩)
  rcases mv_cond_some hh49 with ⟨hb, hh54⟩ | ⟨hb, hh55⟩
  · obtain rfl := Nat.eq_of_beq_eq_true hb
    obtain ⟨o0, m0, hh56⟩ := mv_gR_some hh54
    obtain ⟨v2, m1, hh57⟩ := mv_gI_some hh56
    obtain ⟨v3, m2, hh58⟩ := mv_gI_some hh57
    obtain ⟨rfl, hh59⟩ := mv_sE_some hh58
    exact (xA_body_b380 hbd  o0 v2 v3 h hh59).sub (List.forall_mem_cons.mpr ⟨m0, (List.forall_mem_cons.mpr ⟨m1, (List.forall_mem_cons.mpr ⟨m2, (fun q hq => by cases hq)⟩)⟩)⟩)
  rcases mv_cond_some hh55 with ⟨hb, hh60⟩ | ⟨hb, hh61⟩
  · obtain rfl := Nat.eq_of_beq_eq_true hb
    obtain ⟨o0, m0, hh62⟩ := mv_gR_some hh60
    obtain ⟨v2, m1, hh63⟩ := mv_gI_some hh62
    obtain ⟨v3, m2, hh64⟩ := mv_gI_some hh63
    obtain ⟨rfl, hh65⟩ := mv_sE_some hh64
    exact (xA_body_b398 hbd  o0 v2 v3 h hh65).sub (List.forall_mem_cons.mpr ⟨m0, (List.forall_mem_cons.mpr ⟨m1, (List.forall_mem_cons.mpr ⟨m2, (fun q hq => by cases hq)⟩)⟩)⟩)
  rcases mv_cond_some hh61 with ⟨hb, hh66⟩ | ⟨hb, hh67⟩
  · obtain rfl := Nat.eq_of_beq_eq_true hb
    obtain ⟨o0, m0, hh68⟩ := mv_gR_some hh66
    obtain ⟨v2, m1, hh69⟩ := mv_gI_some hh68
    obtain ⟨v3, m2, hh70⟩ := mv_gI_some hh69
    obtain ⟨rfl, hh71⟩ := mv_sE_some hh70
    exact (xA_body_b411 hbd  o0 v2 v3 h hh71).sub (List.forall_mem_cons.mpr ⟨m0, (List.forall_mem_cons.mpr ⟨m1, (List.forall_mem_cons.mpr ⟨m2, (fun q hq => by cases hq)⟩)⟩)⟩)
  rcases mv_cond_some hh67 with ⟨hb, hh72⟩ | ⟨hb, hh73⟩
  · obtain rfl := Nat.eq_of_beq_eq_true hb
    obtain ⟨o0, m0, hh74⟩ := mv_gR_some hh72
    obtain ⟨v2, m1, hh75⟩ := mv_gI_some hh74
    obtain ⟨v3, m2, hh76⟩ := mv_gI_some hh75
    obtain ⟨rfl, hh77⟩ := mv_sE_some hh76
    exact (xA_body_b424 hbd  o0 v2 v3 h hh77).sub (List.forall_mem_cons.mpr ⟨m0, (List.forall_mem_cons.mpr ⟨m1, (List.forall_mem_cons.mpr ⟨m2, (fun q hq => by cases hq)⟩)⟩)⟩)
  rcases mv_cond_some hh73 with ⟨hb, hh78⟩ | ⟨hb, hh79⟩
  · obtain rfl := Nat.eq_of_beq_eq_true hb
    obtain ⟨rfl, hh80⟩ := mv_sE_some hh78
    exact (xA_body_b446 hbd   h hh80).sub (fun q hq => by cases hq)
  cases hh79

theorem mA_body {lv : Nat} {bd : Nat → Int32 → Int32 → Int32 → H2 → O2} (hbd : ∀ o0 v1 v2 v3 h vs h', bd o0 v1 v2 v3 h = some (vs, h') → mv_Met vw2 lv 0 0 mdA_body [.inr (0, o0), .inl (.int v1), .inl (.int v2), .inl (.int v3)] h vs h') (o0 : Nat) (v1 : Int32) (v2 : Int32) (v3 : Int32) (h : H2) (vs : List mv_V) (h' : H2) (hh : fA_bodyF bd o0 v1 v2 v3 h = some (vs, h')) : mv_Met vw2 (lv + 2) 0 0 mdA_body [Sum.inr (0, o0), Sum.inl (Value.int v1), Sum.inl (Value.int v2), Sum.inl (Value.int v3)] h vs h' :=
  mv_Met_of (by decide +kernel) (Nat.le_of_ble_eq_true rfl) (xA_body hbd o0 v1 v2 v3 h hh)
theorem fA_body_met : ∀ (n : Nat) (o0 : Nat) (v1 v2 v3 : Int32) (h : H2) (vs : List mv_V) (h' : H2), fA_body n o0 v1 v2 v3 h = some (vs, h') → mv_Met vw2 (2 * n + 2) 0 0 mdA_body [.inr (0, o0), .inl (.int v1), .inl (.int v2), .inl (.int v3)] h vs h' := by
  intro n
  induction n with
  | zero => intro o0 v1 v2 v3 h vs h' hh; cases hh
  | succ n ih => intro o0 v1 v2 v3 h vs h' hh; exact mA_body ih o0 v1 v2 v3 h vs h' hh
theorem fA_body50_met (o0 : Nat) (v1 v2 v3 : Int32) (h : H2) (vs : List mv_V) (h' : H2) (hh : fA_body 50 o0 v1 v2 v3 h = some (vs, h')) : mv_Met vw2 102 0 0 mdA_body [.inr (0, o0), .inl (.int v1), .inl (.int v2), .inl (.int v3)] h vs h' := fA_body_met 50 o0 v1 v2 v3 h vs h' hh
set_option maxRecDepth 100000 in
theorem kA_perform : mv_tok mdA_perform nA_perform tA_perform = true := by decide +kernel
set_option maxRecDepth 100000 in
set_option maxHeartbeats 8000000 in
theorem eA_perform (o0 : Nat) (v1 : Int32) (v2 : Int32) (h : H2) : mv_blk rI2 rR2 ln2 wI2 wR2 nw2 cp2 bod none tA_perform gA_perform 0 0 [] (fun _ _ _ _ _ _ => none) 400 (mv_seek 0 tA_perform) [(0, Sum.inr (0, o0)), (1, Sum.inl (Value.int v1)), (2, Sum.inl (Value.int v2))] [] h 0 0 = (
  mv_gd (decide (nI 0 = nI 0) || decide (nI 0 = nI 1)) <|
  mv_bh (wI2 h 0 o0 5 (nI 0)) fun h1 =>
  mv_rI (fA_own (fA_body 50) o0 v1 v2 (nI 0) h1) fun r3 h2 =>
  mv_bi r3 fun x4 =>
  if (rI2 h2 0 o0 5) = 0 then (
    some ([Sum.inl (Value.int x4)], h2))
  else
  some ([Sum.inl (Value.int (-(nI 15)))], h2)) := rfl
theorem GA_perform : ∀ (j : Nat) (C : mv_C H2) (md' : mv_MD × Bool), mv_nth j gA_perform = some C → mv_nth j nA_perform = some md' → ∃ n', n' + 1 ≤ 104 ∧ mv_Cal vw2 n' md' C := fun j C md' => match j with
  | 0 => fun h1 h2 => by
    obtain rfl := Option.some.inj h1
    obtain rfl := Option.some.inj h2
    exact ⟨103, by decide, (cA_own_ok fA_body50_met)⟩
  | jj + 1 => fun h1 _ => by cases jj <;> cases h1

set_option maxRecDepth 20000 in
theorem xA_perform {g0 : mv_G} {res : List mv_V × H2} (o0 : Nat) (v1 : Int32) (v2 : Int32) (h : H2) (hh : fA_perform o0 v1 v2 h = some res) : mv_X vw2 mdA_perform 104 0 0 none g0 res 0 [(0, Sum.inr (0, o0)), (1, Sum.inl (Value.int v1)), (2, Sum.inl (Value.int v2))] [] h 0 0 := by
  refine mv_blkX ax2 (GA_perform) (by decide) kA_perform (fun pc lv st h ce sl hh => ?_) ((eA_perform  o0 v1 v2 h).trans hh)
  cases hh

theorem mA_perform (o0 : Nat) (v1 : Int32) (v2 : Int32) (h : H2) (vs : List mv_V) (h' : H2) (hh : fA_perform o0 v1 v2 h = some (vs, h')) : mv_Met vw2 104 0 0 mdA_perform [Sum.inr (0, o0), Sum.inl (Value.int v1), Sum.inl (Value.int v2)] h vs h' :=
  mv_Met_of (by decide +kernel) (Nat.le_of_ble_eq_true rfl) (xA_perform o0 v1 v2 h hh)
theorem cA_perform_ok : mv_Cal vw2 104 (mdA_perform, true) ((0, 0), cA_perform) := by
  intro as h k res hh
  change cA_perform as h k = some res at hh
  unfold cA_perform at hh
  split at hh
  · obtain ⟨hg0, ha0⟩ := mv_gd_some hh
    obtain rfl := Nat.eq_of_beq_eq_true hg0
    obtain ⟨x, h', h1, h9⟩ := mv_rI_some ha0
    exact ⟨_, _, h9, (by first | decide | exact Nat.le_refl _ | exact Nat.zero_le _), fun _ => ⟨_, _, _, rfl, Or.inl ⟨by decide, rfl⟩⟩, (mA_perform _ _ _ h _ _ h1)⟩
  · cases hh

set_option maxRecDepth 100000 in
theorem kC_choices : mv_tok mdC_choices nC_choices tC_choices = true := by decide +kernel
set_option maxRecDepth 100000 in
set_option maxHeartbeats 8000000 in
theorem eC_choices_b5 (q5 : Int32 → Int32 → Int64 → Int32 → H2 → O2) (v0 : Int32) (v1 : Int32) (w2 : Int64) (v4 : Int32) (h : H2) : mv_blk rI2 rR2 ln2 wI2 wR2 nw2 cp2 bod none tC_choices gC_choices 0 0 [5] (fun pc lv st h ce sl => mv_gd (Nat.beq ce 0 && Nat.beq sl 0) (cond (Nat.beq pc 5) (mv_gI 0 lv fun v0 => mv_gI 1 lv fun v1 => mv_gL 2 lv fun w2 => mv_gI 4 lv fun v4 => mv_sE st (q5 v0 v1 w2 v4 h)) (none))) 400 (mv_seek 5 tC_choices) [(0, Sum.inl (Value.int v0)), (1, Sum.inl (Value.int v1)), (2, Sum.inl (Value.long w2)), (4, Sum.inl (Value.int v4))] [] h 0 0 = (
  if v1 < v4 then (
    some ([Sum.inl (Value.long w2)], h))
  else
  mv_gd (!decide (v4.toInt64 = 0)) <|
  mv_bl ((w2 * (((v0 - v1) + v4).toInt64)) / v4.toInt64) fun y1 =>
  mv_bi (v4 + (nI 1)) fun x2 =>
  q5 v0 v1 y1 x2 h) := rfl
set_option maxRecDepth 100000 in
set_option maxHeartbeats 8000000 in
theorem eC_choices (q5 : Int32 → Int32 → Int64 → Int32 → H2 → O2) (v0 : Int32) (v1 : Int32) (h : H2) : mv_blk rI2 rR2 ln2 wI2 wR2 nw2 cp2 bod none tC_choices gC_choices 0 0 [5] (fun pc lv st h ce sl => mv_gd (Nat.beq ce 0 && Nat.beq sl 0) (cond (Nat.beq pc 5) (mv_gI 0 lv fun v0 => mv_gI 1 lv fun v1 => mv_gL 2 lv fun w2 => mv_gI 4 lv fun v4 => mv_sE st (q5 v0 v1 w2 v4 h)) (none))) 400 (mv_seek 0 tC_choices) [(0, Sum.inl (Value.int v0)), (1, Sum.inl (Value.int v1))] [] h 0 0 = (
  mv_bl (lN 1) fun y1 =>
  mv_bi (nI 1) fun x2 =>
  q5 v0 v1 y1 x2 h) := rfl
theorem GC_choices : ∀ (j : Nat) (C : mv_C H2) (md' : mv_MD × Bool), mv_nth j gC_choices = some C → mv_nth j nC_choices = some md' → ∃ n', n' + 1 ≤ 1 ∧ mv_Cal vw2 n' md' C := fun j C md' h1 _ => by cases j <;> cases h1

set_option maxRecDepth 20000 in
theorem xC_choices_b5 {g0 : mv_G} {res : List mv_V × H2} : ∀ (n : Nat) (v0 : Int32) (v1 : Int32) (w2 : Int64) (v4 : Int32) (h : H2), fC_choices_b5 n v0 v1 w2 v4 h = some res → mv_X vw2 mdC_choices 1 0 0 none g0 res 5 [(0, Sum.inl (Value.int v0)), (1, Sum.inl (Value.int v1)), (2, Sum.inl (Value.long w2)), (4, Sum.inl (Value.int v4))] [] h 0 0 := by
  intro n
  induction n with
  | zero => intro v0 v1 w2 v4 h hh; cases hh
  | succ n ih =>
    intro v0 v1 w2 v4 h hh
    refine mv_blkX ax2 (GC_choices) (by decide) kC_choices (fun pc lv st h ce sl hh => ?_) ((eC_choices_b5 (fC_choices_b5 n) v0 v1 w2 v4 h).trans hh)
    obtain ⟨hg, hh1⟩ := mv_gd_some hh
    obtain ⟨rfl, rfl⟩ := mv_z2 hg
    rcases mv_cond_some hh1 with ⟨hb, hh2⟩ | ⟨hb, hh3⟩
    · obtain rfl := Nat.eq_of_beq_eq_true hb
      obtain ⟨v0, m0, hh4⟩ := mv_gI_some hh2
      obtain ⟨v1, m1, hh5⟩ := mv_gI_some hh4
      obtain ⟨w2, m2, hh6⟩ := mv_gL_some hh5
      obtain ⟨v4, m3, hh7⟩ := mv_gI_some hh6
      obtain ⟨rfl, hh8⟩ := mv_sE_some hh7
      exact (ih v0 v1 w2 v4 h hh8).sub (List.forall_mem_cons.mpr ⟨m0, (List.forall_mem_cons.mpr ⟨m1, (List.forall_mem_cons.mpr ⟨m2, (List.forall_mem_cons.mpr ⟨m3, (fun q hq => by cases hq)⟩)⟩)⟩)⟩)
    cases hh3

set_option maxRecDepth 20000 in
theorem xC_choices {g0 : mv_G} {res : List mv_V × H2} (v0 : Int32) (v1 : Int32) (h : H2) (hh : fC_choices v0 v1 h = some res) : mv_X vw2 mdC_choices 1 0 0 none g0 res 0 [(0, Sum.inl (Value.int v0)), (1, Sum.inl (Value.int v1))] [] h 0 0 := by
  refine mv_blkX ax2 (GC_choices) (by decide) kC_choices (fun pc lv st h ce sl hh => ?_) ((eC_choices (fC_choices_b5 1000) v0 v1 h).trans hh)
  obtain ⟨hg, hh1⟩ := mv_gd_some hh
  obtain ⟨rfl, rfl⟩ := mv_z2 hg
  rcases mv_cond_some hh1 with ⟨hb, hh2⟩ | ⟨hb, hh3⟩
  · obtain rfl := Nat.eq_of_beq_eq_true hb
    obtain ⟨v0, m0, hh4⟩ := mv_gI_some hh2
    obtain ⟨v1, m1, hh5⟩ := mv_gI_some hh4
    obtain ⟨w2, m2, hh6⟩ := mv_gL_some hh5
    obtain ⟨v4, m3, hh7⟩ := mv_gI_some hh6
    obtain ⟨rfl, hh8⟩ := mv_sE_some hh7
    exact (xC_choices_b5 1000 v0 v1 w2 v4 h hh8).sub (List.forall_mem_cons.mpr ⟨m0, (List.forall_mem_cons.mpr ⟨m1, (List.forall_mem_cons.mpr ⟨m2, (List.forall_mem_cons.mpr ⟨m3, (fun q hq => by cases hq)⟩)⟩)⟩)⟩)
  cases hh3

theorem mC_choices (v0 : Int32) (v1 : Int32) (h : H2) (vs : List mv_V) (h' : H2) (hh : fC_choices v0 v1 h = some (vs, h')) : mv_Met vw2 1 0 0 mdC_choices [Sum.inl (Value.int v0), Sum.inl (Value.int v1)] h vs h' :=
  mv_Met_of (by decide +kernel) (Nat.le_of_ble_eq_true rfl) (xC_choices v0 v1 h hh)
theorem cC_choices_ok : mv_Cal vw2 1 (mdC_choices, false) ((0, 0), cC_choices) := by
  intro as h k res hh
  change cC_choices as h k = some res at hh
  unfold cC_choices at hh
  split at hh
  · obtain ⟨x, h', h1, h9⟩ := mv_rL_some hh
    exact ⟨_, _, h9, (by first | decide | exact Nat.le_refl _ | exact Nat.zero_le _), (fun h => by cases h), (mC_choices _ _ h _ _ h1)⟩
  · cases hh

set_option maxRecDepth 100000 in
theorem kC_commonDivisor : mv_tok mdC_commonDivisor nC_commonDivisor tC_commonDivisor = true := by decide +kernel
set_option maxRecDepth 100000 in
set_option maxHeartbeats 8000000 in
theorem eC_commonDivisor_b9 (q9 : Int64 → Int64 → Int32 → H2 → O2) (w4 : Int64) (w6 : Int64) (v8 : Int32) (h : H2) : mv_blk rI2 rR2 ln2 wI2 wR2 nw2 cp2 bod none tC_commonDivisor gC_commonDivisor 0 0 [9] (fun pc lv st h ce sl => mv_gd (Nat.beq ce 0 && Nat.beq sl 0) (cond (Nat.beq pc 9) (mv_gL 4 lv fun w4 => mv_gL 6 lv fun w6 => mv_gI 8 lv fun v8 => mv_sE st (q9 w4 w6 v8 h)) (none))) 400 (mv_seek 9 tC_commonDivisor) [(4, Sum.inl (Value.long w4)), (6, Sum.inl (Value.long w6)), (8, Sum.inl (Value.int v8))] [] h 0 0 = (
  if (nI 200) ≤ v8 then (
    some ([Sum.inl (Value.long w4)], h))
  else
  if (lg_cmp w6 (lN 0)) = 0 then (
    some ([Sum.inl (Value.long w4)], h))
  else
  mv_gd (!decide (w6 = 0)) <|
  mv_bl (w4 - w4 / w6 * w6) fun y1 =>
  mv_bl w6 fun y2 =>
  mv_bl y1 fun y3 =>
  mv_bi (v8 + (nI 1)) fun x4 =>
  q9 y2 y3 x4 h) := rfl
set_option maxRecDepth 100000 in
set_option maxHeartbeats 8000000 in
theorem eC_commonDivisor (q9 : Int64 → Int64 → Int32 → H2 → O2) (w0 : Int64) (w2 : Int64) (h : H2) : mv_blk rI2 rR2 ln2 wI2 wR2 nw2 cp2 bod none tC_commonDivisor gC_commonDivisor 0 0 [9] (fun pc lv st h ce sl => mv_gd (Nat.beq ce 0 && Nat.beq sl 0) (cond (Nat.beq pc 9) (mv_gL 4 lv fun w4 => mv_gL 6 lv fun w6 => mv_gI 8 lv fun v8 => mv_sE st (q9 w4 w6 v8 h)) (none))) 400 (mv_seek 0 tC_commonDivisor) [(0, Sum.inl (Value.long w0)), (2, Sum.inl (Value.long w2))] [] h 0 0 = (
  mv_bl w0 fun y1 =>
  mv_bl w2 fun y2 =>
  mv_bi (nI 0) fun x3 =>
  q9 y1 y2 x3 h) := rfl
theorem GC_commonDivisor : ∀ (j : Nat) (C : mv_C H2) (md' : mv_MD × Bool), mv_nth j gC_commonDivisor = some C → mv_nth j nC_commonDivisor = some md' → ∃ n', n' + 1 ≤ 1 ∧ mv_Cal vw2 n' md' C := fun j C md' h1 _ => by cases j <;> cases h1

set_option maxRecDepth 20000 in
theorem xC_commonDivisor_b9 {g0 : mv_G} {res : List mv_V × H2} : ∀ (n : Nat) (w4 : Int64) (w6 : Int64) (v8 : Int32) (h : H2), fC_commonDivisor_b9 n w4 w6 v8 h = some res → mv_X vw2 mdC_commonDivisor 1 0 0 none g0 res 9 [(4, Sum.inl (Value.long w4)), (6, Sum.inl (Value.long w6)), (8, Sum.inl (Value.int v8))] [] h 0 0 := by
  intro n
  induction n with
  | zero => intro w4 w6 v8 h hh; cases hh
  | succ n ih =>
    intro w4 w6 v8 h hh
    refine mv_blkX ax2 (GC_commonDivisor) (by decide) kC_commonDivisor (fun pc lv st h ce sl hh => ?_) ((eC_commonDivisor_b9 (fC_commonDivisor_b9 n) w4 w6 v8 h).trans hh)
    obtain ⟨hg, hh1⟩ := mv_gd_some hh
    obtain ⟨rfl, rfl⟩ := mv_z2 hg
    rcases mv_cond_some hh1 with ⟨hb, hh2⟩ | ⟨hb, hh3⟩
    · obtain rfl := Nat.eq_of_beq_eq_true hb
      obtain ⟨w4, m0, hh4⟩ := mv_gL_some hh2
      obtain ⟨w6, m1, hh5⟩ := mv_gL_some hh4
      obtain ⟨v8, m2, hh6⟩ := mv_gI_some hh5
      obtain ⟨rfl, hh7⟩ := mv_sE_some hh6
      exact (ih w4 w6 v8 h hh7).sub (List.forall_mem_cons.mpr ⟨m0, (List.forall_mem_cons.mpr ⟨m1, (List.forall_mem_cons.mpr ⟨m2, (fun q hq => by cases hq)⟩)⟩)⟩)
    cases hh3

set_option maxRecDepth 20000 in
theorem xC_commonDivisor {g0 : mv_G} {res : List mv_V × H2} (w0 : Int64) (w2 : Int64) (h : H2) (hh : fC_commonDivisor w0 w2 h = some res) : mv_X vw2 mdC_commonDivisor 1 0 0 none g0 res 0 [(0, Sum.inl (Value.long w0)), (2, Sum.inl (Value.long w2))] [] h 0 0 := by
  refine mv_blkX ax2 (GC_commonDivisor) (by decide) kC_commonDivisor (fun pc lv st h ce sl hh => ?_) ((eC_commonDivisor (fC_commonDivisor_b9 1000) w0 w2 h).trans hh)
  obtain ⟨hg, hh1⟩ := mv_gd_some hh
  obtain ⟨rfl, rfl⟩ := mv_z2 hg
  rcases mv_cond_some hh1 with ⟨hb, hh2⟩ | ⟨hb, hh3⟩
  · obtain rfl := Nat.eq_of_beq_eq_true hb
    obtain ⟨w4, m0, hh4⟩ := mv_gL_some hh2
    obtain ⟨w6, m1, hh5⟩ := mv_gL_some hh4
    obtain ⟨v8, m2, hh6⟩ := mv_gI_some hh5
    obtain ⟨rfl, hh7⟩ := mv_sE_some hh6
    exact (xC_commonDivisor_b9 1000 w4 w6 v8 h hh7).sub (List.forall_mem_cons.mpr ⟨m0, (List.forall_mem_cons.mpr ⟨m1, (List.forall_mem_cons.mpr ⟨m2, (fun q hq => by cases hq)⟩)⟩)⟩)
  cases hh3

theorem mC_commonDivisor (w0 : Int64) (w2 : Int64) (h : H2) (vs : List mv_V) (h' : H2) (hh : fC_commonDivisor w0 w2 h = some (vs, h')) : mv_Met vw2 1 0 0 mdC_commonDivisor [Sum.inl (Value.long w0), Sum.inl (Value.long w2)] h vs h' :=
  mv_Met_of (by decide +kernel) (Nat.le_of_ble_eq_true rfl) (xC_commonDivisor w0 w2 h hh)
theorem cC_commonDivisor_ok : mv_Cal vw2 1 (mdC_commonDivisor, false) ((0, 0), cC_commonDivisor) := by
  intro as h k res hh
  change cC_commonDivisor as h k = some res at hh
  unfold cC_commonDivisor at hh
  split at hh
  · obtain ⟨x, h', h1, h9⟩ := mv_rL_some hh
    exact ⟨_, _, h9, (by first | decide | exact Nat.le_refl _ | exact Nat.zero_le _), (fun h => by cases h), (mC_commonDivisor _ _ h _ _ h1)⟩
  · cases hh

set_option maxRecDepth 100000 in
theorem kC_partOf : mv_tok mdC_partOf nC_partOf tC_partOf = true := by decide +kernel
set_option maxRecDepth 100000 in
set_option maxHeartbeats 8000000 in
theorem eC_partOf (w0 : Int64) (w2 : Int64) (v4 : Int32) (h : H2) : mv_blk rI2 rR2 ln2 wI2 wR2 nw2 cp2 bod none tC_partOf gC_partOf 0 0 [] (fun _ _ _ _ _ _ => none) 400 (mv_seek 0 tC_partOf) [(0, Sum.inl (Value.long w0)), (2, Sum.inl (Value.long w2)), (4, Sum.inl (Value.int v4))] [] h 0 0 = (
  mv_rL (fC_commonDivisor w0 w2 h) fun r2 h1 =>
  mv_bl r2 fun y3 =>
  if (lg_cmp y3 (lN 0)) = 0 then (
    some ([Sum.inl (Value.long v4.toInt64)], h1))
  else
  if v4 = 0 then (
    mv_gd (!decide (y3 = 0)) <|
    some ([Sum.inl (Value.long (w0 / y3))], h1))
  else
  mv_gd (!decide (y3 = 0)) <|
  some ([Sum.inl (Value.long (w2 / y3))], h1)) := rfl
theorem GC_partOf : ∀ (j : Nat) (C : mv_C H2) (md' : mv_MD × Bool), mv_nth j gC_partOf = some C → mv_nth j nC_partOf = some md' → ∃ n', n' + 1 ≤ 2 ∧ mv_Cal vw2 n' md' C := fun j C md' => match j with
  | 0 => fun h1 h2 => by
    obtain rfl := Option.some.inj h1
    obtain rfl := Option.some.inj h2
    exact ⟨1, by decide, cC_commonDivisor_ok⟩
  | jj + 1 => fun h1 _ => by cases jj <;> cases h1

set_option maxRecDepth 20000 in
theorem xC_partOf {g0 : mv_G} {res : List mv_V × H2} (w0 : Int64) (w2 : Int64) (v4 : Int32) (h : H2) (hh : fC_partOf w0 w2 v4 h = some res) : mv_X vw2 mdC_partOf 2 0 0 none g0 res 0 [(0, Sum.inl (Value.long w0)), (2, Sum.inl (Value.long w2)), (4, Sum.inl (Value.int v4))] [] h 0 0 := by
  refine mv_blkX ax2 (GC_partOf) (by decide) kC_partOf (fun pc lv st h ce sl hh => ?_) ((eC_partOf  w0 w2 v4 h).trans hh)
  cases hh

theorem mC_partOf (w0 : Int64) (w2 : Int64) (v4 : Int32) (h : H2) (vs : List mv_V) (h' : H2) (hh : fC_partOf w0 w2 v4 h = some (vs, h')) : mv_Met vw2 2 0 0 mdC_partOf [Sum.inl (Value.long w0), Sum.inl (Value.long w2), Sum.inl (Value.int v4)] h vs h' :=
  mv_Met_of (by decide +kernel) (Nat.le_of_ble_eq_true rfl) (xC_partOf w0 w2 v4 h hh)
theorem cC_partOf_ok : mv_Cal vw2 2 (mdC_partOf, false) ((0, 0), cC_partOf) := by
  intro as h k res hh
  change cC_partOf as h k = some res at hh
  unfold cC_partOf at hh
  split at hh
  · obtain ⟨x, h', h1, h9⟩ := mv_rL_some hh
    exact ⟨_, _, h9, (by first | decide | exact Nat.le_refl _ | exact Nat.zero_le _), (fun h => by cases h), (mC_partOf _ _ _ h _ _ h1)⟩
  · cases hh

set_option maxRecDepth 100000 in
theorem kC_justSlip : mv_tok mdC_justSlip nC_justSlip tC_justSlip = true := by decide +kernel
set_option maxRecDepth 100000 in
set_option maxHeartbeats 8000000 in
theorem eC_justSlip_b13 (q13 : Int32 → Int32 → Int32 → Int32 → Int64 → Int64 → Int32 → H2 → O2) (v0 : Int32) (v1 : Int32) (v2 : Int32) (v3 : Int32) (w4 : Int64) (w6 : Int64) (v8 : Int32) (h : H2) : mv_blk rI2 rR2 ln2 wI2 wR2 nw2 cp2 bod none tC_justSlip gC_justSlip 0 0 [13] (fun pc lv st h ce sl => mv_gd (Nat.beq ce 0 && Nat.beq sl 0) (cond (Nat.beq pc 13) (mv_gI 0 lv fun v0 => mv_gI 1 lv fun v1 => mv_gI 2 lv fun v2 => mv_gI 3 lv fun v3 => mv_gL 4 lv fun w4 => mv_gL 6 lv fun w6 => mv_gI 8 lv fun v8 => mv_sE st (q13 v0 v1 v2 v3 w4 w6 v8 h)) (none))) 400 (mv_seek 13 tC_justSlip) [(0, Sum.inl (Value.int v0)), (1, Sum.inl (Value.int v1)), (2, Sum.inl (Value.int v2)), (3, Sum.inl (Value.int v3)), (4, Sum.inl (Value.long w4)), (6, Sum.inl (Value.long w6)), (8, Sum.inl (Value.int v8))] [] h 0 0 = (
  if v0 ≤ v8 then (
    mv_rL (fC_partOf w4 w6 v3 h) fun r2 h1 =>
    some ([Sum.inl (Value.long r2)], h1))
  else
  if v1 ≤ v8 then (
    mv_bl (w4 * (((nI 100) - v2).toInt64)) fun y3 =>
    mv_bl (w6 * (lN 100)) fun y4 =>
    mv_bi (v8 + (nI 1)) fun x5 =>
    q13 v0 v1 v2 v3 y3 y4 x5 h)
  else
  mv_bl (w4 * v2.toInt64) fun y6 =>
  mv_bl (w6 * (lN 100)) fun y7 =>
  mv_bi (v8 + (nI 1)) fun x8 =>
  q13 v0 v1 v2 v3 y6 y7 x8 h) := rfl
set_option maxRecDepth 100000 in
set_option maxHeartbeats 8000000 in
theorem eC_justSlip (q13 : Int32 → Int32 → Int32 → Int32 → Int64 → Int64 → Int32 → H2 → O2) (v0 : Int32) (v1 : Int32) (v2 : Int32) (v3 : Int32) (h : H2) : mv_blk rI2 rR2 ln2 wI2 wR2 nw2 cp2 bod none tC_justSlip gC_justSlip 0 0 [13] (fun pc lv st h ce sl => mv_gd (Nat.beq ce 0 && Nat.beq sl 0) (cond (Nat.beq pc 13) (mv_gI 0 lv fun v0 => mv_gI 1 lv fun v1 => mv_gI 2 lv fun v2 => mv_gI 3 lv fun v3 => mv_gL 4 lv fun w4 => mv_gL 6 lv fun w6 => mv_gI 8 lv fun v8 => mv_sE st (q13 v0 v1 v2 v3 w4 w6 v8 h)) (none))) 400 (mv_seek 0 tC_justSlip) [(0, Sum.inl (Value.int v0)), (1, Sum.inl (Value.int v1)), (2, Sum.inl (Value.int v2)), (3, Sum.inl (Value.int v3))] [] h 0 0 = (
  mv_rL (fC_choices v0 v1 h) fun r2 h1 =>
  mv_bl r2 fun y3 =>
  mv_bl (lN 1) fun y4 =>
  mv_bi (nI 0) fun x5 =>
  q13 v0 v1 v2 v3 y3 y4 x5 h1) := rfl
theorem GC_justSlip : ∀ (j : Nat) (C : mv_C H2) (md' : mv_MD × Bool), mv_nth j gC_justSlip = some C → mv_nth j nC_justSlip = some md' → ∃ n', n' + 1 ≤ 3 ∧ mv_Cal vw2 n' md' C := fun j C md' => match j with
  | 0 => fun h1 h2 => by
    obtain rfl := Option.some.inj h1
    obtain rfl := Option.some.inj h2
    exact ⟨1, by decide, cC_choices_ok⟩
  | 1 => fun h1 h2 => by
    obtain rfl := Option.some.inj h1
    obtain rfl := Option.some.inj h2
    exact ⟨2, by decide, cC_partOf_ok⟩
  | jj + 2 => fun h1 _ => by cases jj <;> cases h1

set_option maxRecDepth 20000 in
theorem xC_justSlip_b13 {g0 : mv_G} {res : List mv_V × H2} : ∀ (n : Nat) (v0 : Int32) (v1 : Int32) (v2 : Int32) (v3 : Int32) (w4 : Int64) (w6 : Int64) (v8 : Int32) (h : H2), fC_justSlip_b13 n v0 v1 v2 v3 w4 w6 v8 h = some res → mv_X vw2 mdC_justSlip 3 0 0 none g0 res 13 [(0, Sum.inl (Value.int v0)), (1, Sum.inl (Value.int v1)), (2, Sum.inl (Value.int v2)), (3, Sum.inl (Value.int v3)), (4, Sum.inl (Value.long w4)), (6, Sum.inl (Value.long w6)), (8, Sum.inl (Value.int v8))] [] h 0 0 := by
  intro n
  induction n with
  | zero => intro v0 v1 v2 v3 w4 w6 v8 h hh; cases hh
  | succ n ih =>
    intro v0 v1 v2 v3 w4 w6 v8 h hh
    refine mv_blkX ax2 (GC_justSlip) (by decide) kC_justSlip (fun pc lv st h ce sl hh => ?_) ((eC_justSlip_b13 (fC_justSlip_b13 n) v0 v1 v2 v3 w4 w6 v8 h).trans hh)
    obtain ⟨hg, hh1⟩ := mv_gd_some hh
    obtain ⟨rfl, rfl⟩ := mv_z2 hg
    rcases mv_cond_some hh1 with ⟨hb, hh2⟩ | ⟨hb, hh3⟩
    · obtain rfl := Nat.eq_of_beq_eq_true hb
      obtain ⟨v0, m0, hh4⟩ := mv_gI_some hh2
      obtain ⟨v1, m1, hh5⟩ := mv_gI_some hh4
      obtain ⟨v2, m2, hh6⟩ := mv_gI_some hh5
      obtain ⟨v3, m3, hh7⟩ := mv_gI_some hh6
      obtain ⟨w4, m4, hh8⟩ := mv_gL_some hh7
      obtain ⟨w6, m5, hh9⟩ := mv_gL_some hh8
      obtain ⟨v8, m6, hh10⟩ := mv_gI_some hh9
      obtain ⟨rfl, hh11⟩ := mv_sE_some hh10
      exact (ih v0 v1 v2 v3 w4 w6 v8 h hh11).sub (List.forall_mem_cons.mpr ⟨m0, (List.forall_mem_cons.mpr ⟨m1, (List.forall_mem_cons.mpr ⟨m2, (List.forall_mem_cons.mpr ⟨m3, (List.forall_mem_cons.mpr ⟨m4, (List.forall_mem_cons.mpr ⟨m5, (List.forall_mem_cons.mpr ⟨m6, (fun q hq => by cases hq)⟩)⟩)⟩)⟩)⟩)⟩)⟩)
    cases hh3

set_option maxRecDepth 20000 in
theorem xC_justSlip {g0 : mv_G} {res : List mv_V × H2} (v0 : Int32) (v1 : Int32) (v2 : Int32) (v3 : Int32) (h : H2) (hh : fC_justSlip v0 v1 v2 v3 h = some res) : mv_X vw2 mdC_justSlip 3 0 0 none g0 res 0 [(0, Sum.inl (Value.int v0)), (1, Sum.inl (Value.int v1)), (2, Sum.inl (Value.int v2)), (3, Sum.inl (Value.int v3))] [] h 0 0 := by
  refine mv_blkX ax2 (GC_justSlip) (by decide) kC_justSlip (fun pc lv st h ce sl hh => ?_) ((eC_justSlip (fC_justSlip_b13 1000) v0 v1 v2 v3 h).trans hh)
  obtain ⟨hg, hh1⟩ := mv_gd_some hh
  obtain ⟨rfl, rfl⟩ := mv_z2 hg
  rcases mv_cond_some hh1 with ⟨hb, hh2⟩ | ⟨hb, hh3⟩
  · obtain rfl := Nat.eq_of_beq_eq_true hb
    obtain ⟨v0, m0, hh4⟩ := mv_gI_some hh2
    obtain ⟨v1, m1, hh5⟩ := mv_gI_some hh4
    obtain ⟨v2, m2, hh6⟩ := mv_gI_some hh5
    obtain ⟨v3, m3, hh7⟩ := mv_gI_some hh6
    obtain ⟨w4, m4, hh8⟩ := mv_gL_some hh7
    obtain ⟨w6, m5, hh9⟩ := mv_gL_some hh8
    obtain ⟨v8, m6, hh10⟩ := mv_gI_some hh9
    obtain ⟨rfl, hh11⟩ := mv_sE_some hh10
    exact (xC_justSlip_b13 1000 v0 v1 v2 v3 w4 w6 v8 h hh11).sub (List.forall_mem_cons.mpr ⟨m0, (List.forall_mem_cons.mpr ⟨m1, (List.forall_mem_cons.mpr ⟨m2, (List.forall_mem_cons.mpr ⟨m3, (List.forall_mem_cons.mpr ⟨m4, (List.forall_mem_cons.mpr ⟨m5, (List.forall_mem_cons.mpr ⟨m6, (fun q hq => by cases hq)⟩)⟩)⟩)⟩)⟩)⟩)⟩)
  cases hh3

theorem mC_justSlip (v0 : Int32) (v1 : Int32) (v2 : Int32) (v3 : Int32) (h : H2) (vs : List mv_V) (h' : H2) (hh : fC_justSlip v0 v1 v2 v3 h = some (vs, h')) : mv_Met vw2 3 0 0 mdC_justSlip [Sum.inl (Value.int v0), Sum.inl (Value.int v1), Sum.inl (Value.int v2), Sum.inl (Value.int v3)] h vs h' :=
  mv_Met_of (by decide +kernel) (Nat.le_of_ble_eq_true rfl) (xC_justSlip v0 v1 v2 v3 h hh)
theorem cC_justSlip_ok : mv_Cal vw2 3 (mdC_justSlip, false) ((0, 0), cC_justSlip) := by
  intro as h k res hh
  change cC_justSlip as h k = some res at hh
  unfold cC_justSlip at hh
  split at hh
  · obtain ⟨x, h', h1, h9⟩ := mv_rL_some hh
    exact ⟨_, _, h9, (by first | decide | exact Nat.le_refl _ | exact Nat.zero_le _), (fun h => by cases h), (mC_justSlip _ _ _ _ h _ _ h1)⟩
  · cases hh

set_option maxRecDepth 100000 in
theorem kM_copyFrom : mv_tok mdM_copyFrom nM_copyFrom tM_copyFrom = true := by decide +kernel
set_option maxRecDepth 100000 in
set_option maxHeartbeats 8000000 in
theorem eM_copyFrom (o0 : Nat) (o1 : Nat) (h : H2) : mv_blk rI2 rR2 ln2 wI2 wR2 nw2 cp2 bod none tM_copyFrom gM_copyFrom 0 0 [] (fun _ _ _ _ _ _ => none) 400 (mv_seek 0 tM_copyFrom) [(0, Sum.inr (2, o0)), (1, Sum.inr (2, o1))] [] h 0 0 = (
  mv_gd (decide (nI 0 = nI 0) && (decide (nI 0 = nI 0) && (!decide ((nI 4) < 0) && (Nat.ble (nI 4).toNatClampNeg 4 && Nat.ble (nI 4).toNatClampNeg 4)))) <|
  mv_bh (cp2 h 300 o1 o0 (nI 4).toNatClampNeg 0) fun h1 =>
  mv_gd (decide (nI 0 = nI 0) && (decide (nI 0 = nI 0) && (!decide ((nI 8) < 0) && (Nat.ble (nI 8).toNatClampNeg 8 && Nat.ble (nI 8).toNatClampNeg 8)))) <|
  mv_bh (cp2 h1 301 o1 o0 (nI 8).toNatClampNeg 0) fun h2 =>
  mv_gd (decide (nI 0 = nI 0) && (decide (nI 0 = nI 0) && (!decide ((nI 8) < 0) && (Nat.ble (nI 8).toNatClampNeg 8 && Nat.ble (nI 8).toNatClampNeg 8)))) <|
  mv_bh (cp2 h2 302 o1 o0 (nI 8).toNatClampNeg 0) fun h3 =>
  mv_gd (decide (nI 0 = nI 0) && (decide (nI 0 = nI 0) && (!decide ((nI 6) < 0) && (Nat.ble (nI 6).toNatClampNeg 6 && Nat.ble (nI 6).toNatClampNeg 6)))) <|
  mv_bh (cp2 h3 303 o1 o0 (nI 6).toNatClampNeg 0) fun h4 =>
  mv_gd (decide (nI 0 = nI 0) && (decide (nI 0 = nI 0) && (!decide ((nI 8) < 0) && (Nat.ble (nI 8).toNatClampNeg 8 && Nat.ble (nI 8).toNatClampNeg 8)))) <|
  mv_bh (cp2 h4 304 o1 o0 (nI 8).toNatClampNeg 0) fun h5 =>
  mv_gd (decide (nI 0 = nI 0) && (decide (nI 0 = nI 0) && (!decide ((nI 8) < 0) && (Nat.ble (nI 8).toNatClampNeg 8 && Nat.ble (nI 8).toNatClampNeg 8)))) <|
  mv_bh (cp2 h5 305 o1 o0 (nI 8).toNatClampNeg 0) fun h6 =>
  mv_gd (decide (nI 0 = nI 0) && (decide (nI 0 = nI 0) && (!decide ((nI 8) < 0) && (Nat.ble (nI 8).toNatClampNeg 8 && Nat.ble (nI 8).toNatClampNeg 8)))) <|
  mv_bh (cp2 h6 306 o1 o0 (nI 8).toNatClampNeg 0) fun h7 =>
  mv_gd (decide (nI 0 = nI 0) && (decide (nI 0 = nI 0) && (!decide ((nI 8) < 0) && (Nat.ble (nI 8).toNatClampNeg 8 && Nat.ble (nI 8).toNatClampNeg 8)))) <|
  mv_bh (cp2 h7 307 o1 o0 (nI 8).toNatClampNeg 0) fun h8 =>
  mv_gd (decide (nI 0 = nI 0) && (decide (nI 0 = nI 0) && (!decide ((nI 8) < 0) && (Nat.ble (nI 8).toNatClampNeg 8 && Nat.ble (nI 8).toNatClampNeg 8)))) <|
  mv_bh (cp2 h8 308 o1 o0 (nI 8).toNatClampNeg 0) fun h9 =>
  mv_bh (wI2 h9 2 o0 9 (rI2 h9 2 o1 9)) fun h10 =>
  mv_bh (wI2 h10 2 o0 10 (rI2 h10 2 o1 10)) fun h11 =>
  mv_bh (wI2 h11 2 o0 11 (rI2 h11 2 o1 11)) fun h12 =>
  some ([], h12)) := rfl
theorem GM_copyFrom : ∀ (j : Nat) (C : mv_C H2) (md' : mv_MD × Bool), mv_nth j gM_copyFrom = some C → mv_nth j nM_copyFrom = some md' → ∃ n', n' + 1 ≤ 1 ∧ mv_Cal vw2 n' md' C := fun j C md' h1 _ => by cases j <;> cases h1

set_option maxRecDepth 20000 in
theorem xM_copyFrom {g0 : mv_G} {res : List mv_V × H2} (o0 : Nat) (o1 : Nat) (h : H2) (hh : fM_copyFrom o0 o1 h = some res) : mv_X vw2 mdM_copyFrom 1 0 0 none g0 res 0 [(0, Sum.inr (2, o0)), (1, Sum.inr (2, o1))] [] h 0 0 := by
  refine mv_blkX ax2 (GM_copyFrom) (by decide) kM_copyFrom (fun pc lv st h ce sl hh => ?_) ((eM_copyFrom  o0 o1 h).trans hh)
  cases hh

theorem mM_copyFrom (o0 : Nat) (o1 : Nat) (h : H2) (vs : List mv_V) (h' : H2) (hh : fM_copyFrom o0 o1 h = some (vs, h')) : mv_Met vw2 1 0 0 mdM_copyFrom [Sum.inr (2, o0), Sum.inr (2, o1)] h vs h' :=
  mv_Met_of (by decide +kernel) (Nat.le_of_ble_eq_true rfl) (xM_copyFrom o0 o1 h hh)
theorem cM_copyFrom_ok : mv_Cal vw2 1 (mdM_copyFrom, true) ((0, 0), cM_copyFrom) := by
  intro as h k res hh
  change cM_copyFrom as h k = some res at hh
  unfold cM_copyFrom at hh
  split at hh
  · obtain ⟨hg0, ha0⟩ := mv_gd_some hh
    obtain rfl := Nat.eq_of_beq_eq_true hg0
    obtain ⟨hg1, ha1⟩ := mv_gd_some ha0
    obtain rfl := Nat.eq_of_beq_eq_true hg1
    obtain ⟨h', h1, h9⟩ := mv_rV_some ha1
    exact ⟨_, _, h9, (by first | decide | exact Nat.le_refl _ | exact Nat.zero_le _), fun _ => ⟨_, _, _, rfl, Or.inl ⟨by decide, rfl⟩⟩, (mM_copyFrom _ _ h _ _ h1)⟩
  · cases hh
end
section
set_option maxRecDepth 100000 in
theorem kM_vatOfToday : mv_tok mdM_vatOfToday nM_vatOfToday tM_vatOfToday = true := by decide +kernel
set_option maxRecDepth 100000 in
set_option maxHeartbeats 8000000 in
theorem eM_vatOfToday (o0 : Nat) (h : H2) : mv_blk rI2 rR2 ln2 wI2 wR2 nw2 cp2 bod none tM_vatOfToday gM_vatOfToday 0 0 [] (fun _ _ _ _ _ _ => none) 400 (mv_seek 0 tM_vatOfToday) [(0, Sum.inr (2, o0))] [] h 0 0 = (
  mv_gd (!decide ((nI 6) = 0)) <|
  mv_gd (mv_inb ((rI2 h 2 o0 10) - (rI2 h 2 o0 10) / (nI 6) * (nI 6)) 6) <|
  some ([Sum.inl (Value.int (rI2 h 303 o0 ((rI2 h 2 o0 10) - (rI2 h 2 o0 10) / (nI 6) * (nI 6)).toNatClampNeg))], h)) := rfl
theorem GM_vatOfToday : ∀ (j : Nat) (C : mv_C H2) (md' : mv_MD × Bool), mv_nth j gM_vatOfToday = some C → mv_nth j nM_vatOfToday = some md' → ∃ n', n' + 1 ≤ 1 ∧ mv_Cal vw2 n' md' C := fun j C md' h1 _ => by cases j <;> cases h1

set_option maxRecDepth 20000 in
theorem xM_vatOfToday {g0 : mv_G} {res : List mv_V × H2} (o0 : Nat) (h : H2) (hh : fM_vatOfToday o0 h = some res) : mv_X vw2 mdM_vatOfToday 1 0 0 none g0 res 0 [(0, Sum.inr (2, o0))] [] h 0 0 := by
  refine mv_blkX ax2 (GM_vatOfToday) (by decide) kM_vatOfToday (fun pc lv st h ce sl hh => ?_) ((eM_vatOfToday  o0 h).trans hh)
  cases hh

theorem mM_vatOfToday (o0 : Nat) (h : H2) (vs : List mv_V) (h' : H2) (hh : fM_vatOfToday o0 h = some (vs, h')) : mv_Met vw2 1 0 0 mdM_vatOfToday [Sum.inr (2, o0)] h vs h' :=
  mv_Met_of (by decide +kernel) (Nat.le_of_ble_eq_true rfl) (xM_vatOfToday o0 h hh)
theorem cM_vatOfToday_ok : mv_Cal vw2 1 (mdM_vatOfToday, true) ((0, 0), cM_vatOfToday) := by
  intro as h k res hh
  change cM_vatOfToday as h k = some res at hh
  unfold cM_vatOfToday at hh
  split at hh
  · obtain ⟨hg0, ha0⟩ := mv_gd_some hh
    obtain rfl := Nat.eq_of_beq_eq_true hg0
    obtain ⟨x, h', h1, h9⟩ := mv_rI_some ha0
    exact ⟨_, _, h9, (by first | decide | exact Nat.le_refl _ | exact Nat.zero_le _), fun _ => ⟨_, _, _, rfl, Or.inl ⟨by decide, rfl⟩⟩, (mM_vatOfToday _ h _ _ h1)⟩
  · cases hh

set_option maxRecDepth 100000 in
theorem kM_takes : mv_tok mdM_takes nM_takes tM_takes = true := by decide +kernel
set_option maxRecDepth 100000 in
set_option maxHeartbeats 8000000 in
theorem eM_takes (o0 : Nat) (v1 : Int32) (v2 : Int32) (h : H2) : mv_blk rI2 rR2 ln2 wI2 wR2 nw2 cp2 bod none tM_takes gM_takes 0 0 [] (fun _ _ _ _ _ _ => none) 400 (mv_seek 0 tM_takes) [(0, Sum.inr (2, o0)), (1, Sum.inl (Value.int v1)), (2, Sum.inl (Value.int v2))] [] h 0 0 = (
  mv_gd (mv_inb v2 8) <|
  mv_gd (mv_inb (nI 0) 4) <|
  mv_bi ((rI2 h 302 o0 v2.toNatClampNeg) + (rI2 h 300 o0 (nI 0).toNatClampNeg)) fun x1 =>
  mv_gd (mv_inb v1 8) <|
  if (rI2 h 304 o0 v1.toNatClampNeg) = nI 1 then (
    some ([Sum.inl (Value.int (x1 + (nI 3)))], h))
  else
  if (rI2 h 304 o0 v1.toNatClampNeg) = nI 2 then (
    mv_gd (mv_inb (nI 1) 4) <|
    some ([Sum.inl (Value.int (x1 - (rI2 h 300 o0 (nI 1).toNatClampNeg)))], h))
  else
  if (rI2 h 304 o0 v1.toNatClampNeg) = nI 3 then (
    some ([Sum.inl (Value.int ((x1 + (nI 3)) * (nI 2)))], h))
  else
  if (rI2 h 304 o0 v1.toNatClampNeg) = nI 4 then (
    mv_gd (mv_inb (nI 1) 4) <|
    mv_gd (mv_inb (nI 2) 4) <|
    some ([Sum.inl (Value.int ((x1 - (rI2 h 300 o0 (nI 1).toNatClampNeg)) + (rI2 h 300 o0 (nI 2).toNatClampNeg)))], h))
  else
  if (rI2 h 304 o0 v1.toNatClampNeg) = nI 5 then (
    mv_gd (!decide ((nI 2) = 0)) <|
    some ([Sum.inl (Value.int (x1 / (nI 2)))], h))
  else
  some ([Sum.inl (Value.int x1)], h)) := rfl
theorem GM_takes : ∀ (j : Nat) (C : mv_C H2) (md' : mv_MD × Bool), mv_nth j gM_takes = some C → mv_nth j nM_takes = some md' → ∃ n', n' + 1 ≤ 1 ∧ mv_Cal vw2 n' md' C := fun j C md' h1 _ => by cases j <;> cases h1

set_option maxRecDepth 20000 in
theorem xM_takes {g0 : mv_G} {res : List mv_V × H2} (o0 : Nat) (v1 : Int32) (v2 : Int32) (h : H2) (hh : fM_takes o0 v1 v2 h = some res) : mv_X vw2 mdM_takes 1 0 0 none g0 res 0 [(0, Sum.inr (2, o0)), (1, Sum.inl (Value.int v1)), (2, Sum.inl (Value.int v2))] [] h 0 0 := by
  refine mv_blkX ax2 (GM_takes) (by decide) kM_takes (fun pc lv st h ce sl hh => ?_) ((eM_takes  o0 v1 v2 h).trans hh)
  cases hh

theorem mM_takes (o0 : Nat) (v1 : Int32) (v2 : Int32) (h : H2) (vs : List mv_V) (h' : H2) (hh : fM_takes o0 v1 v2 h = some (vs, h')) : mv_Met vw2 1 0 0 mdM_takes [Sum.inr (2, o0), Sum.inl (Value.int v1), Sum.inl (Value.int v2)] h vs h' :=
  mv_Met_of (by decide +kernel) (Nat.le_of_ble_eq_true rfl) (xM_takes o0 v1 v2 h hh)
theorem cM_takes_ok : mv_Cal vw2 1 (mdM_takes, true) ((0, 0), cM_takes) := by
  intro as h k res hh
  change cM_takes as h k = some res at hh
  unfold cM_takes at hh
  split at hh
  · obtain ⟨hg0, ha0⟩ := mv_gd_some hh
    obtain rfl := Nat.eq_of_beq_eq_true hg0
    obtain ⟨x, h', h1, h9⟩ := mv_rI_some ha0
    exact ⟨_, _, h9, (by first | decide | exact Nat.le_refl _ | exact Nat.zero_le _), fun _ => ⟨_, _, _, rfl, Or.inl ⟨by decide, rfl⟩⟩, (mM_takes _ _ _ h _ _ h1)⟩
  · cases hh

set_option maxRecDepth 100000 in
theorem kM_fights : mv_tok mdM_fights nM_fights tM_fights = true := by decide +kernel
set_option maxRecDepth 100000 in
set_option maxHeartbeats 8000000 in
theorem eM_fights (o0 : Nat) (v1 : Int32) (v2 : Int32) (h : H2) : mv_blk rI2 rR2 ln2 wI2 wR2 nw2 cp2 bod none tM_fights gM_fights 0 0 [] (fun _ _ _ _ _ _ => none) 400 (mv_seek 0 tM_fights) [(0, Sum.inr (2, o0)), (1, Sum.inl (Value.int v1)), (2, Sum.inl (Value.int v2))] [] h 0 0 = (
  mv_gd (mv_inb v2 8) <|
  mv_bi (rI2 h 302 o0 v2.toNatClampNeg) fun x1 =>
  mv_gd (mv_inb v1 8) <|
  if (rI2 h 304 o0 v1.toNatClampNeg) = nI 1 then (
    mv_gd (mv_inb (nI 2) 4) <|
    some ([Sum.inl (Value.int (x1 - (rI2 h 300 o0 (nI 2).toNatClampNeg)))], h))
  else
  if (rI2 h 304 o0 v1.toNatClampNeg) = nI 2 then (
    mv_gd (mv_inb (nI 2) 4) <|
    some ([Sum.inl (Value.int (x1 + (rI2 h 300 o0 (nI 2).toNatClampNeg)))], h))
  else
  if (rI2 h 304 o0 v1.toNatClampNeg) = nI 3 then (
    mv_gd (mv_inb (nI 2) 4) <|
    mv_gd (mv_inb (nI 0) 4) <|
    some ([Sum.inl (Value.int ((x1 - (rI2 h 300 o0 (nI 2).toNatClampNeg)) + (rI2 h 300 o0 (nI 0).toNatClampNeg)))], h))
  else
  if (rI2 h 304 o0 v1.toNatClampNeg) = nI 4 then (
    mv_gd (mv_inb (nI 2) 4) <|
    some ([Sum.inl (Value.int ((x1 + (rI2 h 300 o0 (nI 2).toNatClampNeg)) * (nI 2)))], h))
  else
  if (rI2 h 304 o0 v1.toNatClampNeg) = nI 5 then (
    some ([Sum.inl (Value.int (x1 + (nI 1)))], h))
  else
  some ([Sum.inl (Value.int x1)], h)) := rfl
theorem GM_fights : ∀ (j : Nat) (C : mv_C H2) (md' : mv_MD × Bool), mv_nth j gM_fights = some C → mv_nth j nM_fights = some md' → ∃ n', n' + 1 ≤ 1 ∧ mv_Cal vw2 n' md' C := fun j C md' h1 _ => by cases j <;> cases h1

set_option maxRecDepth 20000 in
theorem xM_fights {g0 : mv_G} {res : List mv_V × H2} (o0 : Nat) (v1 : Int32) (v2 : Int32) (h : H2) (hh : fM_fights o0 v1 v2 h = some res) : mv_X vw2 mdM_fights 1 0 0 none g0 res 0 [(0, Sum.inr (2, o0)), (1, Sum.inl (Value.int v1)), (2, Sum.inl (Value.int v2))] [] h 0 0 := by
  refine mv_blkX ax2 (GM_fights) (by decide) kM_fights (fun pc lv st h ce sl hh => ?_) ((eM_fights  o0 v1 v2 h).trans hh)
  cases hh

theorem mM_fights (o0 : Nat) (v1 : Int32) (v2 : Int32) (h : H2) (vs : List mv_V) (h' : H2) (hh : fM_fights o0 v1 v2 h = some (vs, h')) : mv_Met vw2 1 0 0 mdM_fights [Sum.inr (2, o0), Sum.inl (Value.int v1), Sum.inl (Value.int v2)] h vs h' :=
  mv_Met_of (by decide +kernel) (Nat.le_of_ble_eq_true rfl) (xM_fights o0 v1 v2 h hh)
theorem cM_fights_ok : mv_Cal vw2 1 (mdM_fights, true) ((0, 0), cM_fights) := by
  intro as h k res hh
  change cM_fights as h k = some res at hh
  unfold cM_fights at hh
  split at hh
  · obtain ⟨hg0, ha0⟩ := mv_gd_some hh
    obtain rfl := Nat.eq_of_beq_eq_true hg0
    obtain ⟨x, h', h1, h9⟩ := mv_rI_some ha0
    exact ⟨_, _, h9, (by first | decide | exact Nat.le_refl _ | exact Nat.zero_le _), fun _ => ⟨_, _, _, rfl, Or.inl ⟨by decide, rfl⟩⟩, (mM_fights _ _ _ h _ _ h1)⟩
  · cases hh

set_option maxRecDepth 100000 in
theorem kM_settle : mv_tok mdM_settle nM_settle tM_settle = true := by decide +kernel
set_option maxRecDepth 100000 in
set_option maxHeartbeats 8000000 in
theorem eM_settle (o0 : Nat) (v1 : Int32) (v2 : Int32) (h : H2) : mv_blk rI2 rR2 ln2 wI2 wR2 nw2 cp2 bod none tM_settle gM_settle 0 0 [] (fun _ _ _ _ _ _ => none) 400 (mv_seek 0 tM_settle) [(0, Sum.inr (2, o0)), (1, Sum.inl (Value.int v1)), (2, Sum.inl (Value.int v2))] [] h 0 0 = (
  if 0 < v2 then (
    if (nI 99) ≤ v2 then (
      mv_gd (mv_inb v1 8) <|
      mv_bh (wI2 h 306 o0 v1.toNatClampNeg (nI 99)) fun h1 =>
      some ([], h1))
    else
    mv_gd (mv_inb v1 8) <|
    mv_bh (wI2 h 306 o0 v1.toNatClampNeg v2) fun h2 =>
    some ([], h2))
  else
  mv_gd (mv_inb v1 8) <|
  mv_bh (wI2 h 306 o0 v1.toNatClampNeg (nI 0)) fun h3 =>
  mv_gd (mv_inb v1 8) <|
  mv_bh (wI2 h3 305 o0 v1.toNatClampNeg (-(nI 1))) fun h4 =>
  some ([], h4)) := rfl
theorem GM_settle : ∀ (j : Nat) (C : mv_C H2) (md' : mv_MD × Bool), mv_nth j gM_settle = some C → mv_nth j nM_settle = some md' → ∃ n', n' + 1 ≤ 1 ∧ mv_Cal vw2 n' md' C := fun j C md' h1 _ => by cases j <;> cases h1

set_option maxRecDepth 20000 in
theorem xM_settle {g0 : mv_G} {res : List mv_V × H2} (o0 : Nat) (v1 : Int32) (v2 : Int32) (h : H2) (hh : fM_settle o0 v1 v2 h = some res) : mv_X vw2 mdM_settle 1 0 0 none g0 res 0 [(0, Sum.inr (2, o0)), (1, Sum.inl (Value.int v1)), (2, Sum.inl (Value.int v2))] [] h 0 0 := by
  refine mv_blkX ax2 (GM_settle) (by decide) kM_settle (fun pc lv st h ce sl hh => ?_) ((eM_settle  o0 v1 v2 h).trans hh)
  cases hh

theorem mM_settle (o0 : Nat) (v1 : Int32) (v2 : Int32) (h : H2) (vs : List mv_V) (h' : H2) (hh : fM_settle o0 v1 v2 h = some (vs, h')) : mv_Met vw2 1 0 0 mdM_settle [Sum.inr (2, o0), Sum.inl (Value.int v1), Sum.inl (Value.int v2)] h vs h' :=
  mv_Met_of (by decide +kernel) (Nat.le_of_ble_eq_true rfl) (xM_settle o0 v1 v2 h hh)
theorem cM_settle_ok : mv_Cal vw2 1 (mdM_settle, true) ((0, 0), cM_settle) := by
  intro as h k res hh
  change cM_settle as h k = some res at hh
  unfold cM_settle at hh
  split at hh
  · obtain ⟨hg0, ha0⟩ := mv_gd_some hh
    obtain rfl := Nat.eq_of_beq_eq_true hg0
    obtain ⟨h', h1, h9⟩ := mv_rV_some ha0
    exact ⟨_, _, h9, (by first | decide | exact Nat.le_refl _ | exact Nat.zero_le _), fun _ => ⟨_, _, _, rfl, Or.inl ⟨by decide, rfl⟩⟩, (mM_settle _ _ _ h _ _ h1)⟩
  · cases hh

set_option maxRecDepth 100000 in
theorem kM_dipInto : mv_tok mdM_dipInto nM_dipInto tM_dipInto = true := by decide +kernel
set_option maxRecDepth 100000 in
set_option maxHeartbeats 8000000 in
theorem eM_dipInto_b84 (o0 : Nat) (v1 : Int32) (v2 : Int32) (v4 : Int32) (h : H2) : mv_blk rI2 rR2 ln2 wI2 wR2 nw2 cp2 bod none tM_dipInto gM_dipInto 0 0 [] (fun _ _ _ _ _ _ => none) 400 (mv_seek 84 tM_dipInto) [(0, Sum.inr (2, o0)), (1, Sum.inl (Value.int v1)), (2, Sum.inl (Value.int v2)), (4, Sum.inl (Value.int v4))] [] h 0 0 = (
  mv_rV (fM_settle o0 v1 v4 h) fun h1 =>
  mv_gd (mv_inb v1 8) <|
  if (nI 9999) ≤ (rI2 h1 308 o0 v1.toNatClampNeg) then (
    mv_gd (mv_inb v2 8) <|
    if (rI2 h1 302 o0 v2.toNatClampNeg) ≤ 0 then (
      some ([], h1))
    else
    mv_gd (mv_inb v2 8) <|
    mv_gd (mv_inb v2 8) <|
    mv_bh (wI2 h1 302 o0 v2.toNatClampNeg ((rI2 h1 302 o0 v2.toNatClampNeg) - (nI 1))) fun h2 =>
    some ([], h2))
  else
  mv_gd (mv_inb v1 8) <|
  mv_gd (mv_inb v1 8) <|
  mv_bh (wI2 h1 308 o0 v1.toNatClampNeg ((rI2 h1 308 o0 v1.toNatClampNeg) + (nI 1))) fun h3 =>
  mv_gd (mv_inb v2 8) <|
  if (rI2 h3 302 o0 v2.toNatClampNeg) ≤ 0 then (
    some ([], h3))
  else
  mv_gd (mv_inb v2 8) <|
  mv_gd (mv_inb v2 8) <|
  mv_bh (wI2 h3 302 o0 v2.toNatClampNeg ((rI2 h3 302 o0 v2.toNatClampNeg) - (nI 1))) fun h4 =>
  some ([], h4)) := rfl
set_option maxRecDepth 100000 in
set_option maxHeartbeats 8000000 in
theorem eM_dipInto_b27 (q84 : Nat → Int32 → Int32 → Int32 → H2 → O2) (o0 : Nat) (v1 : Int32) (v2 : Int32) (v3 : Int32) (h : H2) : mv_blk rI2 rR2 ln2 wI2 wR2 nw2 cp2 bod none tM_dipInto gM_dipInto 0 0 [84] (fun pc lv st h ce sl => mv_gd (Nat.beq ce 0 && Nat.beq sl 0) (cond (Nat.beq pc 84) (mv_gR 0 2 lv fun o0 => mv_gI 1 lv fun v1 => mv_gI 2 lv fun v2 => mv_gI 4 lv fun v4 => mv_sE st (q84 o0 v1 v2 v4 h)) (none))) 400 (mv_seek 27 tM_dipInto) [(0, Sum.inr (2, o0)), (1, Sum.inl (Value.int v1)), (2, Sum.inl (Value.int v2)), (3, Sum.inl (Value.int v3))] [] h 0 0 = (
  mv_gd (mv_inb v1 8) <|
  mv_bh (wI2 h 305 o0 v1.toNatClampNeg v3) fun h1 =>
  mv_gd (mv_inb v1 8) <|
  mv_rI (fM_takes o0 v1 v2 h1) fun r3 h2 =>
  mv_bi ((rI2 h1 306 o0 v1.toNatClampNeg) + r3) fun x4 =>
  q84 o0 v1 v2 x4 h2) := rfl
set_option maxRecDepth 100000 in
set_option maxHeartbeats 8000000 in
theorem eM_dipInto (q27 : Nat → Int32 → Int32 → Int32 → H2 → O2) (q84 : Nat → Int32 → Int32 → Int32 → H2 → O2) (o0 : Nat) (v1 : Int32) (v2 : Int32) (h : H2) : mv_blk rI2 rR2 ln2 wI2 wR2 nw2 cp2 bod none tM_dipInto gM_dipInto 0 0 [27, 84] (fun pc lv st h ce sl => mv_gd (Nat.beq ce 0 && Nat.beq sl 0) (cond (Nat.beq pc 27) (mv_gR 0 2 lv fun o0 => mv_gI 1 lv fun v1 => mv_gI 2 lv fun v2 => mv_gI 3 lv fun v3 => mv_sE st (q27 o0 v1 v2 v3 h)) (cond (Nat.beq pc 84) (mv_gR 0 2 lv fun o0 => mv_gI 1 lv fun v1 => mv_gI 2 lv fun v2 => mv_gI 4 lv fun v4 => mv_sE st (q84 o0 v1 v2 v4 h)) (none)))) 400 (mv_seek 0 tM_dipInto) [(0, Sum.inr (2, o0)), (1, Sum.inl (Value.int v1)), (2, Sum.inl (Value.int v2))] [] h 0 0 = (
  mv_gd (mv_inb v2 8) <|
  mv_bi (rI2 h 301 o0 v2.toNatClampNeg) fun x1 =>
  mv_gd (mv_inb v1 8) <|
  if (rI2 h 305 o0 v1.toNatClampNeg) = (-(nI 1)) then (
    q27 o0 v1 v2 x1 h)
  else
  mv_gd (mv_inb v1 8) <|
  if (rI2 h 305 o0 v1.toNatClampNeg) = x1 then (
    q27 o0 v1 v2 x1 h)
  else
  mv_gd (mv_inb v1 8) <|
  mv_rI (fM_fights o0 v1 v2 h) fun r3 h2 =>
  mv_bi ((rI2 h 306 o0 v1.toNatClampNeg) - r3) fun x4 =>
  if 0 ≤ x4 then (
    q84 o0 v1 v2 x4 h2)
  else
  mv_gd (mv_inb v1 8) <|
  mv_bh (wI2 h2 305 o0 v1.toNatClampNeg x1) fun h5 =>
  mv_bi (-x4) fun x6 =>
  q84 o0 v1 v2 x6 h5) := rfl
theorem GM_dipInto : ∀ (j : Nat) (C : mv_C H2) (md' : mv_MD × Bool), mv_nth j gM_dipInto = some C → mv_nth j nM_dipInto = some md' → ∃ n', n' + 1 ≤ 2 ∧ mv_Cal vw2 n' md' C := fun j C md' => match j with
  | 0 => fun h1 h2 => by
    obtain rfl := Option.some.inj h1
    obtain rfl := Option.some.inj h2
    exact ⟨1, by decide, cM_takes_ok⟩
  | 1 => fun h1 h2 => by
    obtain rfl := Option.some.inj h1
    obtain rfl := Option.some.inj h2
    exact ⟨1, by decide, cM_fights_ok⟩
  | 2 => fun h1 h2 => by
    obtain rfl := Option.some.inj h1
    obtain rfl := Option.some.inj h2
    exact ⟨1, by decide, cM_settle_ok⟩
  | jj + 3 => fun h1 _ => by cases jj <;> cases h1

set_option maxRecDepth 20000 in
theorem xM_dipInto_b84 {g0 : mv_G} {res : List mv_V × H2} (o0 : Nat) (v1 : Int32) (v2 : Int32) (v4 : Int32) (h : H2) (hh : fM_dipInto_b84 o0 v1 v2 v4 h = some res) : mv_X vw2 mdM_dipInto 2 0 0 none g0 res 84 [(0, Sum.inr (2, o0)), (1, Sum.inl (Value.int v1)), (2, Sum.inl (Value.int v2)), (4, Sum.inl (Value.int v4))] [] h 0 0 := by
  refine mv_blkX ax2 (GM_dipInto) (by decide) kM_dipInto (fun pc lv st h ce sl hh => ?_) ((eM_dipInto_b84  o0 v1 v2 v4 h).trans hh)
  cases hh

set_option maxRecDepth 20000 in
theorem xM_dipInto_b27 {g0 : mv_G} {res : List mv_V × H2} (o0 : Nat) (v1 : Int32) (v2 : Int32) (v3 : Int32) (h : H2) (hh : fM_dipInto_b27 o0 v1 v2 v3 h = some res) : mv_X vw2 mdM_dipInto 2 0 0 none g0 res 27 [(0, Sum.inr (2, o0)), (1, Sum.inl (Value.int v1)), (2, Sum.inl (Value.int v2)), (3, Sum.inl (Value.int v3))] [] h 0 0 := by
  refine mv_blkX ax2 (GM_dipInto) (by decide) kM_dipInto (fun pc lv st h ce sl hh => ?_) ((eM_dipInto_b27 (fM_dipInto_b84) o0 v1 v2 v3 h).trans hh)
  obtain ⟨hg, hh1⟩ := mv_gd_some hh
  obtain ⟨rfl, rfl⟩ := mv_z2 hg
  rcases mv_cond_some hh1 with ⟨hb, hh2⟩ | ⟨hb, hh3⟩
  · obtain rfl := Nat.eq_of_beq_eq_true hb
    obtain ⟨o0, m0, hh4⟩ := mv_gR_some hh2
    obtain ⟨v1, m1, hh5⟩ := mv_gI_some hh4
    obtain ⟨v2, m2, hh6⟩ := mv_gI_some hh5
    obtain ⟨v4, m3, hh7⟩ := mv_gI_some hh6
    obtain ⟨rfl, hh8⟩ := mv_sE_some hh7
    exact (xM_dipInto_b84  o0 v1 v2 v4 h hh8).sub (List.forall_mem_cons.mpr ⟨m0, (List.forall_mem_cons.mpr ⟨m1, (List.forall_mem_cons.mpr ⟨m2, (List.forall_mem_cons.mpr ⟨m3, (fun q hq => by cases hq)⟩)⟩)⟩)⟩)
  cases hh3

set_option maxRecDepth 20000 in
theorem xM_dipInto {g0 : mv_G} {res : List mv_V × H2} (o0 : Nat) (v1 : Int32) (v2 : Int32) (h : H2) (hh : fM_dipInto o0 v1 v2 h = some res) : mv_X vw2 mdM_dipInto 2 0 0 none g0 res 0 [(0, Sum.inr (2, o0)), (1, Sum.inl (Value.int v1)), (2, Sum.inl (Value.int v2))] [] h 0 0 := by
  refine mv_blkX ax2 (GM_dipInto) (by decide) kM_dipInto (fun pc lv st h ce sl hh => ?_) ((eM_dipInto (fM_dipInto_b27) (fM_dipInto_b84) o0 v1 v2 h).trans hh)
  obtain ⟨hg, hh1⟩ := mv_gd_some hh
  obtain ⟨rfl, rfl⟩ := mv_z2 hg
  rcases mv_cond_some hh1 with ⟨hb, hh2⟩ | ⟨hb, hh3⟩
  · obtain rfl := Nat.eq_of_beq_eq_true hb
    obtain ⟨o0, m0, hh4⟩ := mv_gR_some hh2
    obtain ⟨v1, m1, hh5⟩ := mv_gI_some hh4
    obtain ⟨v2, m2, hh6⟩ := mv_gI_some hh5
    obtain ⟨v3, m3, hh7⟩ := mv_gI_some hh6
    obtain ⟨rfl, hh8⟩ := mv_sE_some hh7
    exact (xM_dipInto_b27  o0 v1 v2 v3 h hh8).sub (List.forall_mem_cons.mpr ⟨m0, (List.forall_mem_cons.mpr ⟨m1, (List.forall_mem_cons.mpr ⟨m2, (List.forall_mem_cons.mpr ⟨m3, (fun q hq => by cases hq)⟩)⟩)⟩)⟩)
  rcases mv_cond_some hh3 with ⟨hb, hh9⟩ | ⟨hb, hh10⟩
  · obtain rfl := Nat.eq_of_beq_eq_true hb
    obtain ⟨o0, m0, hh11⟩ := mv_gR_some hh9
    obtain ⟨v1, m1, hh12⟩ := mv_gI_some hh11
    obtain ⟨v2, m2, hh13⟩ := mv_gI_some hh12
    obtain ⟨v4, m3, hh14⟩ := mv_gI_some hh13
    obtain ⟨rfl, hh15⟩ := mv_sE_some hh14
    exact (xM_dipInto_b84  o0 v1 v2 v4 h hh15).sub (List.forall_mem_cons.mpr ⟨m0, (List.forall_mem_cons.mpr ⟨m1, (List.forall_mem_cons.mpr ⟨m2, (List.forall_mem_cons.mpr ⟨m3, (fun q hq => by cases hq)⟩)⟩)⟩)⟩)
  cases hh10

theorem mM_dipInto (o0 : Nat) (v1 : Int32) (v2 : Int32) (h : H2) (vs : List mv_V) (h' : H2) (hh : fM_dipInto o0 v1 v2 h = some (vs, h')) : mv_Met vw2 2 0 0 mdM_dipInto [Sum.inr (2, o0), Sum.inl (Value.int v1), Sum.inl (Value.int v2)] h vs h' :=
  mv_Met_of (by decide +kernel) (Nat.le_of_ble_eq_true rfl) (xM_dipInto o0 v1 v2 h hh)
theorem cM_dipInto_ok : mv_Cal vw2 2 (mdM_dipInto, true) ((0, 0), cM_dipInto) := by
  intro as h k res hh
  change cM_dipInto as h k = some res at hh
  unfold cM_dipInto at hh
  split at hh
  · obtain ⟨hg0, ha0⟩ := mv_gd_some hh
    obtain rfl := Nat.eq_of_beq_eq_true hg0
    obtain ⟨h', h1, h9⟩ := mv_rV_some ha0
    exact ⟨_, _, h9, (by first | decide | exact Nat.le_refl _ | exact Nat.zero_le _), fun _ => ⟨_, _, _, rfl, Or.inl ⟨by decide, rfl⟩⟩, (mM_dipInto _ _ _ h _ _ h1)⟩
  · cases hh

set_option maxRecDepth 100000 in
theorem kM_fades : mv_tok mdM_fades nM_fades tM_fades = true := by decide +kernel
set_option maxRecDepth 100000 in
set_option maxHeartbeats 8000000 in
theorem eM_fades (o0 : Nat) (v1 : Int32) (h : H2) : mv_blk rI2 rR2 ln2 wI2 wR2 nw2 cp2 bod none tM_fades gM_fades 0 0 [] (fun _ _ _ _ _ _ => none) 400 (mv_seek 0 tM_fades) [(0, Sum.inr (2, o0)), (1, Sum.inl (Value.int v1))] [] h 0 0 = (
  mv_gd (mv_inb (nI 1) 4) <|
  mv_bi (rI2 h 300 o0 (nI 1).toNatClampNeg) fun x1 =>
  mv_gd (mv_inb v1 8) <|
  if (rI2 h 304 o0 v1.toNatClampNeg) = nI 1 then (
    some ([Sum.inl (Value.int (x1 - (nI 1)))], h))
  else
  if (rI2 h 304 o0 v1.toNatClampNeg) = nI 2 then (
    some ([Sum.inl (Value.int (x1 + (nI 1)))], h))
  else
  if (rI2 h 304 o0 v1.toNatClampNeg) = nI 3 then (
    some ([Sum.inl (Value.int (nI 0))], h))
  else
  if (rI2 h 304 o0 v1.toNatClampNeg) = nI 4 then (
    some ([Sum.inl (Value.int ((x1 + (nI 1)) * (nI 2)))], h))
  else
  if (rI2 h 304 o0 v1.toNatClampNeg) = nI 5 then (
    some ([Sum.inl (Value.int (x1 + (nI 3)))], h))
  else
  some ([Sum.inl (Value.int x1)], h)) := rfl
theorem GM_fades : ∀ (j : Nat) (C : mv_C H2) (md' : mv_MD × Bool), mv_nth j gM_fades = some C → mv_nth j nM_fades = some md' → ∃ n', n' + 1 ≤ 1 ∧ mv_Cal vw2 n' md' C := fun j C md' h1 _ => by cases j <;> cases h1

set_option maxRecDepth 20000 in
theorem xM_fades {g0 : mv_G} {res : List mv_V × H2} (o0 : Nat) (v1 : Int32) (h : H2) (hh : fM_fades o0 v1 h = some res) : mv_X vw2 mdM_fades 1 0 0 none g0 res 0 [(0, Sum.inr (2, o0)), (1, Sum.inl (Value.int v1))] [] h 0 0 := by
  refine mv_blkX ax2 (GM_fades) (by decide) kM_fades (fun pc lv st h ce sl hh => ?_) ((eM_fades  o0 v1 h).trans hh)
  cases hh

theorem mM_fades (o0 : Nat) (v1 : Int32) (h : H2) (vs : List mv_V) (h' : H2) (hh : fM_fades o0 v1 h = some (vs, h')) : mv_Met vw2 1 0 0 mdM_fades [Sum.inr (2, o0), Sum.inl (Value.int v1)] h vs h' :=
  mv_Met_of (by decide +kernel) (Nat.le_of_ble_eq_true rfl) (xM_fades o0 v1 h hh)
theorem cM_fades_ok : mv_Cal vw2 1 (mdM_fades, true) ((0, 0), cM_fades) := by
  intro as h k res hh
  change cM_fades as h k = some res at hh
  unfold cM_fades at hh
  split at hh
  · obtain ⟨hg0, ha0⟩ := mv_gd_some hh
    obtain rfl := Nat.eq_of_beq_eq_true hg0
    obtain ⟨x, h', h1, h9⟩ := mv_rI_some ha0
    exact ⟨_, _, h9, (by first | decide | exact Nat.le_refl _ | exact Nat.zero_le _), fun _ => ⟨_, _, _, rfl, Or.inl ⟨by decide, rfl⟩⟩, (mM_fades _ _ h _ _ h1)⟩
  · cases hh
end
section
set_option maxRecDepth 100000 in
theorem kM_deepen : mv_tok mdM_deepen nM_deepen tM_deepen = true := by decide +kernel
set_option maxRecDepth 100000 in
set_option maxHeartbeats 8000000 in
theorem eM_deepen (o0 : Nat) (v1 : Int32) (v2 : Int32) (h : H2) : mv_blk rI2 rR2 ln2 wI2 wR2 nw2 cp2 bod none tM_deepen gM_deepen 0 0 [] (fun _ _ _ _ _ _ => none) 400 (mv_seek 0 tM_deepen) [(0, Sum.inr (2, o0)), (1, Sum.inl (Value.int v1)), (2, Sum.inl (Value.int v2))] [] h 0 0 = (
  mv_gd (mv_inb v1 8) <|
  if (rI2 h 305 o0 v1.toNatClampNeg) = (-(nI 1)) then (
    some ([], h))
  else
  mv_rV (fM_settle o0 v1 v2 h) fun h1 =>
  some ([], h1)) := rfl
theorem GM_deepen : ∀ (j : Nat) (C : mv_C H2) (md' : mv_MD × Bool), mv_nth j gM_deepen = some C → mv_nth j nM_deepen = some md' → ∃ n', n' + 1 ≤ 2 ∧ mv_Cal vw2 n' md' C := fun j C md' => match j with
  | 0 => fun h1 h2 => by
    obtain rfl := Option.some.inj h1
    obtain rfl := Option.some.inj h2
    exact ⟨1, by decide, cM_settle_ok⟩
  | jj + 1 => fun h1 _ => by cases jj <;> cases h1

set_option maxRecDepth 20000 in
theorem xM_deepen {g0 : mv_G} {res : List mv_V × H2} (o0 : Nat) (v1 : Int32) (v2 : Int32) (h : H2) (hh : fM_deepen o0 v1 v2 h = some res) : mv_X vw2 mdM_deepen 2 0 0 none g0 res 0 [(0, Sum.inr (2, o0)), (1, Sum.inl (Value.int v1)), (2, Sum.inl (Value.int v2))] [] h 0 0 := by
  refine mv_blkX ax2 (GM_deepen) (by decide) kM_deepen (fun pc lv st h ce sl hh => ?_) ((eM_deepen  o0 v1 v2 h).trans hh)
  cases hh

theorem mM_deepen (o0 : Nat) (v1 : Int32) (v2 : Int32) (h : H2) (vs : List mv_V) (h' : H2) (hh : fM_deepen o0 v1 v2 h = some (vs, h')) : mv_Met vw2 2 0 0 mdM_deepen [Sum.inr (2, o0), Sum.inl (Value.int v1), Sum.inl (Value.int v2)] h vs h' :=
  mv_Met_of (by decide +kernel) (Nat.le_of_ble_eq_true rfl) (xM_deepen o0 v1 v2 h hh)
theorem cM_deepen_ok : mv_Cal vw2 2 (mdM_deepen, true) ((0, 0), cM_deepen) := by
  intro as h k res hh
  change cM_deepen as h k = some res at hh
  unfold cM_deepen at hh
  split at hh
  · obtain ⟨hg0, ha0⟩ := mv_gd_some hh
    obtain rfl := Nat.eq_of_beq_eq_true hg0
    obtain ⟨h', h1, h9⟩ := mv_rV_some ha0
    exact ⟨_, _, h9, (by first | decide | exact Nat.le_refl _ | exact Nat.zero_le _), fun _ => ⟨_, _, _, rfl, Or.inl ⟨by decide, rfl⟩⟩, (mM_deepen _ _ _ h _ _ h1)⟩
  · cases hh

set_option maxRecDepth 100000 in
theorem kM_passDay : mv_tok mdM_passDay nM_passDay tM_passDay = true := by decide +kernel
set_option maxRecDepth 100000 in
set_option maxHeartbeats 8000000 in
theorem eM_passDay_b86 (q86 : Nat → Int32 → H2 → O2) (o0 : Nat) (v2 : Int32) (h : H2) : mv_blk rI2 rR2 ln2 wI2 wR2 nw2 cp2 bod none tM_passDay gM_passDay 0 0 [86] (fun pc lv st h ce sl => mv_gd (Nat.beq ce 0 && Nat.beq sl 0) (cond (Nat.beq pc 86) (mv_gR 0 2 lv fun o0 => mv_gI 2 lv fun v2 => mv_sE st (q86 o0 v2 h)) (none))) 400 (mv_seek 86 tM_passDay) [(0, Sum.inr (2, o0)), (2, Sum.inl (Value.int v2))] [] h 0 0 = (
  if (nI 8) ≤ v2 then (
    mv_bh (wI2 h 2 o0 10 ((rI2 h 2 o0 10) + (nI 1))) fun h1 =>
    some ([], h1))
  else
  mv_gd (mv_inb v2 8) <|
  if (nI 9) ≤ (rI2 h 302 o0 v2.toNatClampNeg) then (
    mv_bi (v2 + (nI 1)) fun x2 =>
    q86 o0 x2 h)
  else
  mv_gd (mv_inb v2 8) <|
  mv_gd (mv_inb v2 8) <|
  mv_bh (wI2 h 302 o0 v2.toNatClampNeg ((rI2 h 302 o0 v2.toNatClampNeg) + (nI 1))) fun h3 =>
  mv_bi (v2 + (nI 1)) fun x4 =>
  q86 o0 x4 h3) := rfl
set_option maxRecDepth 100000 in
set_option maxHeartbeats 8000000 in
theorem eM_passDay_b43 (q43 : Nat → Int32 → H2 → O2) (q86 : Nat → Int32 → H2 → O2) (o0 : Nat) (v2 : Int32) (h : H2) : mv_blk rI2 rR2 ln2 wI2 wR2 nw2 cp2 bod none tM_passDay gM_passDay 0 0 [43, 86] (fun pc lv st h ce sl => mv_gd (Nat.beq ce 0 && Nat.beq sl 0) (cond (Nat.beq pc 43) (mv_gR 0 2 lv fun o0 => mv_gI 2 lv fun v2 => mv_sE st (q43 o0 v2 h)) (cond (Nat.beq pc 86) (mv_gR 0 2 lv fun o0 => mv_gI 2 lv fun v2 => mv_sE st (q86 o0 v2 h)) (none)))) 400 (mv_seek 43 tM_passDay) [(0, Sum.inr (2, o0)), (2, Sum.inl (Value.int v2))] [] h 0 0 = (
  if (rI2 h 2 o0 9) ≤ v2 then (
    mv_bi (nI 0) fun x1 =>
    q86 o0 x1 h)
  else
  mv_gd (mv_inb v2 8) <|
  if (rI2 h 307 o0 v2.toNatClampNeg) = (nI 1) then (
    mv_gd (mv_inb v2 8) <|
    mv_rI (fM_fades o0 v2 h) fun r3 h2 =>
    mv_rV (fM_deepen o0 v2 ((rI2 h 306 o0 v2.toNatClampNeg) - r3) h2) fun h4 =>
    mv_bi (v2 + (nI 1)) fun x5 =>
    q43 o0 x5 h4)
  else
  mv_bi (v2 + (nI 1)) fun x6 =>
  q43 o0 x6 h) := rfl
set_option maxRecDepth 100000 in
set_option maxHeartbeats 8000000 in
theorem eM_passDay_b7 (q7 : Nat → Int32 → Int32 → H2 → O2) (q43 : Nat → Int32 → H2 → O2) (o0 : Nat) (v1 : Int32) (v2 : Int32) (h : H2) : mv_blk rI2 rR2 ln2 wI2 wR2 nw2 cp2 bod none tM_passDay gM_passDay 0 0 [7, 43] (fun pc lv st h ce sl => mv_gd (Nat.beq ce 0 && Nat.beq sl 0) (cond (Nat.beq pc 7) (mv_gR 0 2 lv fun o0 => mv_gI 1 lv fun v1 => mv_gI 2 lv fun v2 => mv_sE st (q7 o0 v1 v2 h)) (cond (Nat.beq pc 43) (mv_gR 0 2 lv fun o0 => mv_gI 2 lv fun v2 => mv_sE st (q43 o0 v2 h)) (none)))) 400 (mv_seek 7 tM_passDay) [(0, Sum.inr (2, o0)), (1, Sum.inl (Value.int v1)), (2, Sum.inl (Value.int v2))] [] h 0 0 = (
  if (rI2 h 2 o0 9) ≤ v2 then (
    mv_bi (nI 0) fun x1 =>
    q43 o0 x1 h)
  else
  if v1 = (-(nI 1)) then (
    mv_bi (nI 0) fun x2 =>
    q43 o0 x2 h)
  else
  mv_gd (mv_inb v2 8) <|
  if (rI2 h 307 o0 v2.toNatClampNeg) = 0 then (
    mv_rV (fM_dipInto o0 v2 v1 h) fun h3 =>
    mv_bi (v2 + (nI 1)) fun x4 =>
    q7 o0 v1 x4 h3)
  else
  mv_bi (v2 + (nI 1)) fun x5 =>
  q7 o0 v1 x5 h) := rfl
set_option maxRecDepth 100000 in
set_option maxHeartbeats 8000000 in
theorem eM_passDay (q7 : Nat → Int32 → Int32 → H2 → O2) (o0 : Nat) (h : H2) : mv_blk rI2 rR2 ln2 wI2 wR2 nw2 cp2 bod none tM_passDay gM_passDay 0 0 [7] (fun pc lv st h ce sl => mv_gd (Nat.beq ce 0 && Nat.beq sl 0) (cond (Nat.beq pc 7) (mv_gR 0 2 lv fun o0 => mv_gI 1 lv fun v1 => mv_gI 2 lv fun v2 => mv_sE st (q7 o0 v1 v2 h)) (none))) 400 (mv_seek 0 tM_passDay) [(0, Sum.inr (2, o0))] [] h 0 0 = (
  mv_rI (fM_vatOfToday o0 h) fun r2 h1 =>
  mv_bi r2 fun x3 =>
  mv_bi (nI 0) fun x4 =>
  q7 o0 x3 x4 h1) := rfl
theorem GM_passDay : ∀ (j : Nat) (C : mv_C H2) (md' : mv_MD × Bool), mv_nth j gM_passDay = some C → mv_nth j nM_passDay = some md' → ∃ n', n' + 1 ≤ 3 ∧ mv_Cal vw2 n' md' C := fun j C md' => match j with
  | 0 => fun h1 h2 => by
    obtain rfl := Option.some.inj h1
    obtain rfl := Option.some.inj h2
    exact ⟨1, by decide, cM_vatOfToday_ok⟩
  | 1 => fun h1 h2 => by
    obtain rfl := Option.some.inj h1
    obtain rfl := Option.some.inj h2
    exact ⟨2, by decide, cM_dipInto_ok⟩
  | 2 => fun h1 h2 => by
    obtain rfl := Option.some.inj h1
    obtain rfl := Option.some.inj h2
    exact ⟨1, by decide, cM_fades_ok⟩
  | 3 => fun h1 h2 => by
    obtain rfl := Option.some.inj h1
    obtain rfl := Option.some.inj h2
    exact ⟨2, by decide, cM_deepen_ok⟩
  | jj + 4 => fun h1 _ => by cases jj <;> cases h1

set_option maxRecDepth 20000 in
theorem xM_passDay_b86 {g0 : mv_G} {res : List mv_V × H2} : ∀ (n : Nat) (o0 : Nat) (v2 : Int32) (h : H2), fM_passDay_b86 n o0 v2 h = some res → mv_X vw2 mdM_passDay 3 0 0 none g0 res 86 [(0, Sum.inr (2, o0)), (2, Sum.inl (Value.int v2))] [] h 0 0 := by
  intro n
  induction n with
  | zero => intro o0 v2 h hh; cases hh
  | succ n ih =>
    intro o0 v2 h hh
    refine mv_blkX ax2 (GM_passDay) (by decide) kM_passDay (fun pc lv st h ce sl hh => ?_) ((eM_passDay_b86 (fM_passDay_b86 n) o0 v2 h).trans hh)
    obtain ⟨hg, hh1⟩ := mv_gd_some hh
    obtain ⟨rfl, rfl⟩ := mv_z2 hg
    rcases mv_cond_some hh1 with ⟨hb, hh2⟩ | ⟨hb, hh3⟩
    · obtain rfl := Nat.eq_of_beq_eq_true hb
      obtain ⟨o0, m0, hh4⟩ := mv_gR_some hh2
      obtain ⟨v2, m1, hh5⟩ := mv_gI_some hh4
      obtain ⟨rfl, hh6⟩ := mv_sE_some hh5
      exact (ih o0 v2 h hh6).sub (List.forall_mem_cons.mpr ⟨m0, (List.forall_mem_cons.mpr ⟨m1, (fun q hq => by cases hq)⟩)⟩)
    cases hh3

set_option maxRecDepth 20000 in
theorem xM_passDay_b43 {g0 : mv_G} {res : List mv_V × H2} : ∀ (n : Nat) (o0 : Nat) (v2 : Int32) (h : H2), fM_passDay_b43 n o0 v2 h = some res → mv_X vw2 mdM_passDay 3 0 0 none g0 res 43 [(0, Sum.inr (2, o0)), (2, Sum.inl (Value.int v2))] [] h 0 0 := by
  intro n
  induction n with
  | zero => intro o0 v2 h hh; cases hh
  | succ n ih =>
    intro o0 v2 h hh
    refine mv_blkX ax2 (GM_passDay) (by decide) kM_passDay (fun pc lv st h ce sl hh => ?_) ((eM_passDay_b43 (fM_passDay_b43 n) (fM_passDay_b86 1000) o0 v2 h).trans hh)
    obtain ⟨hg, hh1⟩ := mv_gd_some hh
    obtain ⟨rfl, rfl⟩ := mv_z2 hg
    rcases mv_cond_some hh1 with ⟨hb, hh2⟩ | ⟨hb, hh3⟩
    · obtain rfl := Nat.eq_of_beq_eq_true hb
      obtain ⟨o0, m0, hh4⟩ := mv_gR_some hh2
      obtain ⟨v2, m1, hh5⟩ := mv_gI_some hh4
      obtain ⟨rfl, hh6⟩ := mv_sE_some hh5
      exact (ih o0 v2 h hh6).sub (List.forall_mem_cons.mpr ⟨m0, (List.forall_mem_cons.mpr ⟨m1, (fun q hq => by cases hq)⟩)⟩)
    rcases mv_cond_some hh3 with ⟨hb, hh7⟩ | ⟨hb, hh8⟩
    · obtain rfl := Nat.eq_of_beq_eq_true hb
      obtain ⟨o0, m0, hh9⟩ := mv_gR_some hh7
      obtain ⟨v2, m1, hh10⟩ := mv_gI_some hh9
      obtain ⟨rfl, hh11⟩ := mv_sE_some hh10
      exact (xM_passDay_b86 1000 o0 v2 h hh11).sub (List.forall_mem_cons.mpr ⟨m0, (List.forall_mem_cons.mpr ⟨m1, (fun q hq => by cases hq)⟩)⟩)
    cases hh8

set_option maxRecDepth 20000 in
theorem xM_passDay_b7 {g0 : mv_G} {res : List mv_V × H2} : ∀ (n : Nat) (o0 : Nat) (v1 : Int32) (v2 : Int32) (h : H2), fM_passDay_b7 n o0 v1 v2 h = some res → mv_X vw2 mdM_passDay 3 0 0 none g0 res 7 [(0, Sum.inr (2, o0)), (1, Sum.inl (Value.int v1)), (2, Sum.inl (Value.int v2))] [] h 0 0 := by
  intro n
  induction n with
  | zero => intro o0 v1 v2 h hh; cases hh
  | succ n ih =>
    intro o0 v1 v2 h hh
    refine mv_blkX ax2 (GM_passDay) (by decide) kM_passDay (fun pc lv st h ce sl hh => ?_) ((eM_passDay_b7 (fM_passDay_b7 n) (fM_passDay_b43 1000) o0 v1 v2 h).trans hh)
    obtain ⟨hg, hh1⟩ := mv_gd_some hh
    obtain ⟨rfl, rfl⟩ := mv_z2 hg
    rcases mv_cond_some hh1 with ⟨hb, hh2⟩ | ⟨hb, hh3⟩
    · obtain rfl := Nat.eq_of_beq_eq_true hb
      obtain ⟨o0, m0, hh4⟩ := mv_gR_some hh2
      obtain ⟨v1, m1, hh5⟩ := mv_gI_some hh4
      obtain ⟨v2, m2, hh6⟩ := mv_gI_some hh5
      obtain ⟨rfl, hh7⟩ := mv_sE_some hh6
      exact (ih o0 v1 v2 h hh7).sub (List.forall_mem_cons.mpr ⟨m0, (List.forall_mem_cons.mpr ⟨m1, (List.forall_mem_cons.mpr ⟨m2, (fun q hq => by cases hq)⟩)⟩)⟩)
    rcases mv_cond_some hh3 with ⟨hb, hh8⟩ | ⟨hb, hh9⟩
    · obtain rfl := Nat.eq_of_beq_eq_true hb
      obtain ⟨o0, m0, hh10⟩ := mv_gR_some hh8
      obtain ⟨v2, m1, hh11⟩ := mv_gI_some hh10
      obtain ⟨rfl, hh12⟩ := mv_sE_some hh11
      exact (xM_passDay_b43 1000 o0 v2 h hh12).sub (List.forall_mem_cons.mpr ⟨m0, (List.forall_mem_cons.mpr ⟨m1, (fun q hq => by cases hq)⟩)⟩)
    cases hh9

set_option maxRecDepth 20000 in
theorem xM_passDay {g0 : mv_G} {res : List mv_V × H2} (o0 : Nat) (h : H2) (hh : fM_passDay o0 h = some res) : mv_X vw2 mdM_passDay 3 0 0 none g0 res 0 [(0, Sum.inr (2, o0))] [] h 0 0 := by
  refine mv_blkX ax2 (GM_passDay) (by decide) kM_passDay (fun pc lv st h ce sl hh => ?_) ((eM_passDay (fM_passDay_b7 1000) o0 h).trans hh)
  obtain ⟨hg, hh1⟩ := mv_gd_some hh
  obtain ⟨rfl, rfl⟩ := mv_z2 hg
  rcases mv_cond_some hh1 with ⟨hb, hh2⟩ | ⟨hb, hh3⟩
  · obtain rfl := Nat.eq_of_beq_eq_true hb
    obtain ⟨o0, m0, hh4⟩ := mv_gR_some hh2
    obtain ⟨v1, m1, hh5⟩ := mv_gI_some hh4
    obtain ⟨v2, m2, hh6⟩ := mv_gI_some hh5
    obtain ⟨rfl, hh7⟩ := mv_sE_some hh6
    exact (xM_passDay_b7 1000 o0 v1 v2 h hh7).sub (List.forall_mem_cons.mpr ⟨m0, (List.forall_mem_cons.mpr ⟨m1, (List.forall_mem_cons.mpr ⟨m2, (fun q hq => by cases hq)⟩)⟩)⟩)
  cases hh3

theorem mM_passDay (o0 : Nat) (h : H2) (vs : List mv_V) (h' : H2) (hh : fM_passDay o0 h = some (vs, h')) : mv_Met vw2 3 0 0 mdM_passDay [Sum.inr (2, o0)] h vs h' :=
  mv_Met_of (by decide +kernel) (Nat.le_of_ble_eq_true rfl) (xM_passDay o0 h hh)
theorem cM_passDay_ok : mv_Cal vw2 3 (mdM_passDay, true) ((0, 0), cM_passDay) := by
  intro as h k res hh
  change cM_passDay as h k = some res at hh
  unfold cM_passDay at hh
  split at hh
  · obtain ⟨hg0, ha0⟩ := mv_gd_some hh
    obtain rfl := Nat.eq_of_beq_eq_true hg0
    obtain ⟨h', h1, h9⟩ := mv_rV_some ha0
    exact ⟨_, _, h9, (by first | decide | exact Nat.le_refl _ | exact Nat.zero_le _), fun _ => ⟨_, _, _, rfl, Or.inl ⟨by decide, rfl⟩⟩, (mM_passDay _ h _ _ h1)⟩
  · cases hh

set_option maxRecDepth 100000 in
theorem kM_passDays : mv_tok mdM_passDays nM_passDays tM_passDays = true := by decide +kernel
set_option maxRecDepth 100000 in
set_option maxHeartbeats 8000000 in
theorem eM_passDays_b2 (q2 : Nat → Int32 → Int32 → H2 → O2) (o0 : Nat) (v1 : Int32) (v2 : Int32) (h : H2) : mv_blk rI2 rR2 ln2 wI2 wR2 nw2 cp2 bod none tM_passDays gM_passDays 0 0 [2] (fun pc lv st h ce sl => mv_gd (Nat.beq ce 0 && Nat.beq sl 0) (cond (Nat.beq pc 2) (mv_gR 0 2 lv fun o0 => mv_gI 1 lv fun v1 => mv_gI 2 lv fun v2 => mv_sE st (q2 o0 v1 v2 h)) (none))) 400 (mv_seek 2 tM_passDays) [(0, Sum.inr (2, o0)), (1, Sum.inl (Value.int v1)), (2, Sum.inl (Value.int v2))] [] h 0 0 = (
  if v1 ≤ v2 then (
    some ([], h))
  else
  mv_rV (fM_passDay o0 h) fun h1 =>
  mv_bi (v2 + (nI 1)) fun x2 =>
  q2 o0 v1 x2 h1) := rfl
set_option maxRecDepth 100000 in
set_option maxHeartbeats 8000000 in
theorem eM_passDays (q2 : Nat → Int32 → Int32 → H2 → O2) (o0 : Nat) (v1 : Int32) (h : H2) : mv_blk rI2 rR2 ln2 wI2 wR2 nw2 cp2 bod none tM_passDays gM_passDays 0 0 [2] (fun pc lv st h ce sl => mv_gd (Nat.beq ce 0 && Nat.beq sl 0) (cond (Nat.beq pc 2) (mv_gR 0 2 lv fun o0 => mv_gI 1 lv fun v1 => mv_gI 2 lv fun v2 => mv_sE st (q2 o0 v1 v2 h)) (none))) 400 (mv_seek 0 tM_passDays) [(0, Sum.inr (2, o0)), (1, Sum.inl (Value.int v1))] [] h 0 0 = (
  mv_bi (nI 0) fun x1 =>
  q2 o0 v1 x1 h) := rfl
theorem GM_passDays : ∀ (j : Nat) (C : mv_C H2) (md' : mv_MD × Bool), mv_nth j gM_passDays = some C → mv_nth j nM_passDays = some md' → ∃ n', n' + 1 ≤ 4 ∧ mv_Cal vw2 n' md' C := fun j C md' => match j with
  | 0 => fun h1 h2 => by
    obtain rfl := Option.some.inj h1
    obtain rfl := Option.some.inj h2
    exact ⟨3, by decide, cM_passDay_ok⟩
  | jj + 1 => fun h1 _ => by cases jj <;> cases h1

set_option maxRecDepth 20000 in
theorem xM_passDays_b2 {g0 : mv_G} {res : List mv_V × H2} : ∀ (n : Nat) (o0 : Nat) (v1 : Int32) (v2 : Int32) (h : H2), fM_passDays_b2 n o0 v1 v2 h = some res → mv_X vw2 mdM_passDays 4 0 0 none g0 res 2 [(0, Sum.inr (2, o0)), (1, Sum.inl (Value.int v1)), (2, Sum.inl (Value.int v2))] [] h 0 0 := by
  intro n
  induction n with
  | zero => intro o0 v1 v2 h hh; cases hh
  | succ n ih =>
    intro o0 v1 v2 h hh
    refine mv_blkX ax2 (GM_passDays) (by decide) kM_passDays (fun pc lv st h ce sl hh => ?_) ((eM_passDays_b2 (fM_passDays_b2 n) o0 v1 v2 h).trans hh)
    obtain ⟨hg, hh1⟩ := mv_gd_some hh
    obtain ⟨rfl, rfl⟩ := mv_z2 hg
    rcases mv_cond_some hh1 with ⟨hb, hh2⟩ | ⟨hb, hh3⟩
    · obtain rfl := Nat.eq_of_beq_eq_true hb
      obtain ⟨o0, m0, hh4⟩ := mv_gR_some hh2
      obtain ⟨v1, m1, hh5⟩ := mv_gI_some hh4
      obtain ⟨v2, m2, hh6⟩ := mv_gI_some hh5
      obtain ⟨rfl, hh7⟩ := mv_sE_some hh6
      exact (ih o0 v1 v2 h hh7).sub (List.forall_mem_cons.mpr ⟨m0, (List.forall_mem_cons.mpr ⟨m1, (List.forall_mem_cons.mpr ⟨m2, (fun q hq => by cases hq)⟩)⟩)⟩)
    cases hh3

set_option maxRecDepth 20000 in
theorem xM_passDays {g0 : mv_G} {res : List mv_V × H2} (o0 : Nat) (v1 : Int32) (h : H2) (hh : fM_passDays o0 v1 h = some res) : mv_X vw2 mdM_passDays 4 0 0 none g0 res 0 [(0, Sum.inr (2, o0)), (1, Sum.inl (Value.int v1))] [] h 0 0 := by
  refine mv_blkX ax2 (GM_passDays) (by decide) kM_passDays (fun pc lv st h ce sl hh => ?_) ((eM_passDays (fM_passDays_b2 1000) o0 v1 h).trans hh)
  obtain ⟨hg, hh1⟩ := mv_gd_some hh
  obtain ⟨rfl, rfl⟩ := mv_z2 hg
  rcases mv_cond_some hh1 with ⟨hb, hh2⟩ | ⟨hb, hh3⟩
  · obtain rfl := Nat.eq_of_beq_eq_true hb
    obtain ⟨o0, m0, hh4⟩ := mv_gR_some hh2
    obtain ⟨v1, m1, hh5⟩ := mv_gI_some hh4
    obtain ⟨v2, m2, hh6⟩ := mv_gI_some hh5
    obtain ⟨rfl, hh7⟩ := mv_sE_some hh6
    exact (xM_passDays_b2 1000 o0 v1 v2 h hh7).sub (List.forall_mem_cons.mpr ⟨m0, (List.forall_mem_cons.mpr ⟨m1, (List.forall_mem_cons.mpr ⟨m2, (fun q hq => by cases hq)⟩)⟩)⟩)
  cases hh3

theorem mM_passDays (o0 : Nat) (v1 : Int32) (h : H2) (vs : List mv_V) (h' : H2) (hh : fM_passDays o0 v1 h = some (vs, h')) : mv_Met vw2 4 0 0 mdM_passDays [Sum.inr (2, o0), Sum.inl (Value.int v1)] h vs h' :=
  mv_Met_of (by decide +kernel) (Nat.le_of_ble_eq_true rfl) (xM_passDays o0 v1 h hh)
theorem cM_passDays_ok : mv_Cal vw2 4 (mdM_passDays, true) ((0, 0), cM_passDays) := by
  intro as h k res hh
  change cM_passDays as h k = some res at hh
  unfold cM_passDays at hh
  split at hh
  · obtain ⟨hg0, ha0⟩ := mv_gd_some hh
    obtain rfl := Nat.eq_of_beq_eq_true hg0
    obtain ⟨h', h1, h9⟩ := mv_rV_some ha0
    exact ⟨_, _, h9, (by first | decide | exact Nat.le_refl _ | exact Nat.zero_le _), fun _ => ⟨_, _, _, rfl, Or.inl ⟨by decide, rfl⟩⟩, (mM_passDays _ _ h _ _ h1)⟩
  · cases hh

set_option maxRecDepth 100000 in
theorem kF_behind : mv_tok mdF_behind nF_behind tF_behind = true := by decide +kernel
set_option maxRecDepth 100000 in
set_option maxHeartbeats 8000000 in
theorem eF_behind (o0 : Nat) (o1 : Nat) (v2 : Int32) (h : H2) : mv_blk rI2 rR2 ln2 wI2 wR2 nw2 cp2 bod none tF_behind gF_behind 0 0 [] (fun _ _ _ _ _ _ => none) 400 (mv_seek 0 tF_behind) [(0, Sum.inr (1, o0)), (1, Sum.inr (2, o1)), (2, Sum.inl (Value.int v2))] [] h 0 0 = (
  mv_rV (fM_copyFrom 3 o1 h) fun h1 =>
  mv_rV (fM_passDays 3 v2 h1) fun h2 =>
  some ([Sum.inr (2, 3)], h2)) := rfl
theorem GF_behind : ∀ (j : Nat) (C : mv_C H2) (md' : mv_MD × Bool), mv_nth j gF_behind = some C → mv_nth j nF_behind = some md' → ∃ n', n' + 1 ≤ 5 ∧ mv_Cal vw2 n' md' C := fun j C md' => match j with
  | 0 => fun h1 h2 => by
    obtain rfl := Option.some.inj h1
    obtain rfl := Option.some.inj h2
    exact ⟨1, by decide, cM_copyFrom_ok⟩
  | 1 => fun h1 h2 => by
    obtain rfl := Option.some.inj h1
    obtain rfl := Option.some.inj h2
    exact ⟨4, by decide, cM_passDays_ok⟩
  | jj + 2 => fun h1 _ => by cases jj <;> cases h1

set_option maxRecDepth 20000 in
theorem xF_behind {g0 : mv_G} {res : List mv_V × H2} (o0 : Nat) (o1 : Nat) (v2 : Int32) (h : H2) (hh : fF_behind o0 o1 v2 h = some res) : mv_X vw2 mdF_behind 5 0 0 none g0 res 0 [(0, Sum.inr (1, o0)), (1, Sum.inr (2, o1)), (2, Sum.inl (Value.int v2))] [] h 0 0 := by
  refine mv_blkX ax2 (GF_behind) (by decide) kF_behind (fun pc lv st h ce sl hh => ?_) ((eF_behind  o0 o1 v2 h).trans hh)
  cases hh

theorem mF_behind (o0 : Nat) (o1 : Nat) (v2 : Int32) (h : H2) (vs : List mv_V) (h' : H2) (hh : fF_behind o0 o1 v2 h = some (vs, h')) : mv_Met vw2 5 0 0 mdF_behind [Sum.inr (1, o0), Sum.inr (2, o1), Sum.inl (Value.int v2)] h vs h' :=
  mv_Met_of (by decide +kernel) (Nat.le_of_ble_eq_true rfl) (xF_behind o0 o1 v2 h hh)
theorem cF_behind_ok : mv_Cal vw2 5 (mdF_behind, true) ((0, 0), cF_behind) := by
  intro as h k res hh
  change cF_behind as h k = some res at hh
  unfold cF_behind at hh
  split at hh
  · obtain ⟨hg0, ha0⟩ := mv_gd_some hh
    obtain rfl := Nat.eq_of_beq_eq_true hg0
    obtain ⟨hg1, ha1⟩ := mv_gd_some ha0
    obtain rfl := Nat.eq_of_beq_eq_true hg1
    obtain ⟨x, h', h1, h9⟩ := mv_rR_some ha1
    exact ⟨_, _, h9, (by first | decide | exact Nat.le_refl _ | exact Nat.zero_le _), fun _ => ⟨_, _, _, rfl, Or.inl ⟨by decide, rfl⟩⟩, (mF_behind _ _ _ h _ _ h1)⟩
  · cases hh

set_option maxRecDepth 100000 in
theorem kM_allDepths : mv_tok mdM_allDepths nM_allDepths tM_allDepths = true := by decide +kernel
set_option maxRecDepth 100000 in
set_option maxHeartbeats 8000000 in
theorem eM_allDepths_b4 (q4 : Nat → Int32 → Int32 → H2 → O2) (o0 : Nat) (v1 : Int32) (v2 : Int32) (h : H2) : mv_blk rI2 rR2 ln2 wI2 wR2 nw2 cp2 bod none tM_allDepths gM_allDepths 0 0 [4] (fun pc lv st h ce sl => mv_gd (Nat.beq ce 0 && Nat.beq sl 0) (cond (Nat.beq pc 4) (mv_gR 0 2 lv fun o0 => mv_gI 1 lv fun v1 => mv_gI 2 lv fun v2 => mv_sE st (q4 o0 v1 v2 h)) (none))) 400 (mv_seek 4 tM_allDepths) [(0, Sum.inr (2, o0)), (1, Sum.inl (Value.int v1)), (2, Sum.inl (Value.int v2))] [] h 0 0 = (
  if (rI2 h 2 o0 9) ≤ v2 then (
    some ([Sum.inl (Value.int v1)], h))
  else
  mv_gd (mv_inb v2 8) <|
  mv_bi (v1 + (rI2 h 306 o0 v2.toNatClampNeg)) fun x1 =>
  mv_bi (v2 + (nI 1)) fun x2 =>
  q4 o0 x1 x2 h) := rfl
set_option maxRecDepth 100000 in
set_option maxHeartbeats 8000000 in
theorem eM_allDepths (q4 : Nat → Int32 → Int32 → H2 → O2) (o0 : Nat) (h : H2) : mv_blk rI2 rR2 ln2 wI2 wR2 nw2 cp2 bod none tM_allDepths gM_allDepths 0 0 [4] (fun pc lv st h ce sl => mv_gd (Nat.beq ce 0 && Nat.beq sl 0) (cond (Nat.beq pc 4) (mv_gR 0 2 lv fun o0 => mv_gI 1 lv fun v1 => mv_gI 2 lv fun v2 => mv_sE st (q4 o0 v1 v2 h)) (none))) 400 (mv_seek 0 tM_allDepths) [(0, Sum.inr (2, o0))] [] h 0 0 = (
  mv_bi (nI 0) fun x1 =>
  mv_bi (nI 0) fun x2 =>
  q4 o0 x1 x2 h) := rfl
theorem GM_allDepths : ∀ (j : Nat) (C : mv_C H2) (md' : mv_MD × Bool), mv_nth j gM_allDepths = some C → mv_nth j nM_allDepths = some md' → ∃ n', n' + 1 ≤ 1 ∧ mv_Cal vw2 n' md' C := fun j C md' h1 _ => by cases j <;> cases h1

set_option maxRecDepth 20000 in
theorem xM_allDepths_b4 {g0 : mv_G} {res : List mv_V × H2} : ∀ (n : Nat) (o0 : Nat) (v1 : Int32) (v2 : Int32) (h : H2), fM_allDepths_b4 n o0 v1 v2 h = some res → mv_X vw2 mdM_allDepths 1 0 0 none g0 res 4 [(0, Sum.inr (2, o0)), (1, Sum.inl (Value.int v1)), (2, Sum.inl (Value.int v2))] [] h 0 0 := by
  intro n
  induction n with
  | zero => intro o0 v1 v2 h hh; cases hh
  | succ n ih =>
    intro o0 v1 v2 h hh
    refine mv_blkX ax2 (GM_allDepths) (by decide) kM_allDepths (fun pc lv st h ce sl hh => ?_) ((eM_allDepths_b4 (fM_allDepths_b4 n) o0 v1 v2 h).trans hh)
    obtain ⟨hg, hh1⟩ := mv_gd_some hh
    obtain ⟨rfl, rfl⟩ := mv_z2 hg
    rcases mv_cond_some hh1 with ⟨hb, hh2⟩ | ⟨hb, hh3⟩
    · obtain rfl := Nat.eq_of_beq_eq_true hb
      obtain ⟨o0, m0, hh4⟩ := mv_gR_some hh2
      obtain ⟨v1, m1, hh5⟩ := mv_gI_some hh4
      obtain ⟨v2, m2, hh6⟩ := mv_gI_some hh5
      obtain ⟨rfl, hh7⟩ := mv_sE_some hh6
      exact (ih o0 v1 v2 h hh7).sub (List.forall_mem_cons.mpr ⟨m0, (List.forall_mem_cons.mpr ⟨m1, (List.forall_mem_cons.mpr ⟨m2, (fun q hq => by cases hq)⟩)⟩)⟩)
    cases hh3

set_option maxRecDepth 20000 in
theorem xM_allDepths {g0 : mv_G} {res : List mv_V × H2} (o0 : Nat) (h : H2) (hh : fM_allDepths o0 h = some res) : mv_X vw2 mdM_allDepths 1 0 0 none g0 res 0 [(0, Sum.inr (2, o0))] [] h 0 0 := by
  refine mv_blkX ax2 (GM_allDepths) (by decide) kM_allDepths (fun pc lv st h ce sl hh => ?_) ((eM_allDepths (fM_allDepths_b4 1000) o0 h).trans hh)
  obtain ⟨hg, hh1⟩ := mv_gd_some hh
  obtain ⟨rfl, rfl⟩ := mv_z2 hg
  rcases mv_cond_some hh1 with ⟨hb, hh2⟩ | ⟨hb, hh3⟩
  · obtain rfl := Nat.eq_of_beq_eq_true hb
    obtain ⟨o0, m0, hh4⟩ := mv_gR_some hh2
    obtain ⟨v1, m1, hh5⟩ := mv_gI_some hh4
    obtain ⟨v2, m2, hh6⟩ := mv_gI_some hh5
    obtain ⟨rfl, hh7⟩ := mv_sE_some hh6
    exact (xM_allDepths_b4 1000 o0 v1 v2 h hh7).sub (List.forall_mem_cons.mpr ⟨m0, (List.forall_mem_cons.mpr ⟨m1, (List.forall_mem_cons.mpr ⟨m2, (fun q hq => by cases hq)⟩)⟩)⟩)
  cases hh3

theorem mM_allDepths (o0 : Nat) (h : H2) (vs : List mv_V) (h' : H2) (hh : fM_allDepths o0 h = some (vs, h')) : mv_Met vw2 1 0 0 mdM_allDepths [Sum.inr (2, o0)] h vs h' :=
  mv_Met_of (by decide +kernel) (Nat.le_of_ble_eq_true rfl) (xM_allDepths o0 h hh)
theorem cM_allDepths_ok : mv_Cal vw2 1 (mdM_allDepths, true) ((0, 0), cM_allDepths) := by
  intro as h k res hh
  change cM_allDepths as h k = some res at hh
  unfold cM_allDepths at hh
  split at hh
  · obtain ⟨hg0, ha0⟩ := mv_gd_some hh
    obtain rfl := Nat.eq_of_beq_eq_true hg0
    obtain ⟨x, h', h1, h9⟩ := mv_rI_some ha0
    exact ⟨_, _, h9, (by first | decide | exact Nat.le_refl _ | exact Nat.zero_le _), fun _ => ⟨_, _, _, rfl, Or.inl ⟨by decide, rfl⟩⟩, (mM_allDepths _ h _ _ h1)⟩
  · cases hh

set_option maxRecDepth 100000 in
theorem kM_draw : mv_tok mdM_draw nM_draw tM_draw = true := by decide +kernel
set_option maxRecDepth 100000 in
set_option maxHeartbeats 8000000 in
theorem eM_draw (o0 : Nat) (h : H2) : mv_blk rI2 rR2 ln2 wI2 wR2 nw2 cp2 bod none tM_draw gM_draw 0 0 [] (fun _ _ _ _ _ _ => none) 400 (mv_seek 0 tM_draw) [(0, Sum.inr (2, o0))] [] h 0 0 = (
  mv_bh (wI2 h 2 o0 11 (((rI2 h 2 o0 11) * (nI 1103515245)) + (nI 12345))) fun h1 =>
  some ([Sum.inl (Value.int (((rI2 h1 2 o0 11).toUInt32 >>> ((nI 16).toUInt32 &&& Int32.toUInt32 31)).toInt32))], h1)) := rfl
theorem GM_draw : ∀ (j : Nat) (C : mv_C H2) (md' : mv_MD × Bool), mv_nth j gM_draw = some C → mv_nth j nM_draw = some md' → ∃ n', n' + 1 ≤ 1 ∧ mv_Cal vw2 n' md' C := fun j C md' h1 _ => by cases j <;> cases h1

set_option maxRecDepth 20000 in
theorem xM_draw {g0 : mv_G} {res : List mv_V × H2} (o0 : Nat) (h : H2) (hh : fM_draw o0 h = some res) : mv_X vw2 mdM_draw 1 0 0 none g0 res 0 [(0, Sum.inr (2, o0))] [] h 0 0 := by
  refine mv_blkX ax2 (GM_draw) (by decide) kM_draw (fun pc lv st h ce sl hh => ?_) ((eM_draw  o0 h).trans hh)
  cases hh

theorem mM_draw (o0 : Nat) (h : H2) (vs : List mv_V) (h' : H2) (hh : fM_draw o0 h = some (vs, h')) : mv_Met vw2 1 0 0 mdM_draw [Sum.inr (2, o0)] h vs h' :=
  mv_Met_of (by decide +kernel) (Nat.le_of_ble_eq_true rfl) (xM_draw o0 h hh)
theorem cM_draw_ok : mv_Cal vw2 1 (mdM_draw, true) ((0, 0), cM_draw) := by
  intro as h k res hh
  change cM_draw as h k = some res at hh
  unfold cM_draw at hh
  split at hh
  · obtain ⟨hg0, ha0⟩ := mv_gd_some hh
    obtain rfl := Nat.eq_of_beq_eq_true hg0
    obtain ⟨x, h', h1, h9⟩ := mv_rI_some ha0
    exact ⟨_, _, h9, (by first | decide | exact Nat.le_refl _ | exact Nat.zero_le _), fun _ => ⟨_, _, _, rfl, Or.inl ⟨by decide, rfl⟩⟩, (mM_draw _ h _ _ h1)⟩
  · cases hh

set_option maxRecDepth 100000 in
theorem kM_passDrawnDay : mv_tok mdM_passDrawnDay nM_passDrawnDay tM_passDrawnDay = true := by decide +kernel
set_option maxRecDepth 100000 in
set_option maxHeartbeats 8000000 in
theorem eM_passDrawnDay (o0 : Nat) (h : H2) : mv_blk rI2 rR2 ln2 wI2 wR2 nw2 cp2 bod none tM_passDrawnDay gM_passDrawnDay 0 0 [] (fun _ _ _ _ _ _ => none) 400 (mv_seek 0 tM_passDrawnDay) [(0, Sum.inr (2, o0))] [] h 0 0 = (
  if (rI2 h 2 o0 9) ≤ 0 then (
    mv_rV (fM_passDay o0 h) fun h1 =>
    some ([], h1))
  else
  mv_rI (fM_draw o0 h) fun r3 h2 =>
  mv_gd (!decide ((rI2 h2 2 o0 9) = 0)) <|
  mv_bi (r3 - r3 / (rI2 h2 2 o0 9) * (rI2 h2 2 o0 9)) fun x4 =>
  mv_rI (fM_draw o0 h2) fun r6 h5 =>
  mv_gd (!decide ((nI 100) = 0)) <|
  mv_gd (mv_inb (nI 3) 4) <|
  if (rI2 h5 300 o0 (nI 3).toNatClampNeg) ≤ (r6 - r6 / (nI 100) * (nI 100)) then (
    mv_rV (fM_passDay o0 h5) fun h7 =>
    some ([], h7))
  else
  mv_rI (fM_draw o0 h5) fun r9 h8 =>
  mv_gd (!decide ((nI 8) = 0)) <|
  mv_rV (fM_dipInto o0 x4 (r9 - r9 / (nI 8) * (nI 8)) h8) fun h10 =>
  mv_rV (fM_passDay o0 h10) fun h11 =>
  some ([], h11)) := rfl
theorem GM_passDrawnDay : ∀ (j : Nat) (C : mv_C H2) (md' : mv_MD × Bool), mv_nth j gM_passDrawnDay = some C → mv_nth j nM_passDrawnDay = some md' → ∃ n', n' + 1 ≤ 4 ∧ mv_Cal vw2 n' md' C := fun j C md' => match j with
  | 0 => fun h1 h2 => by
    obtain rfl := Option.some.inj h1
    obtain rfl := Option.some.inj h2
    exact ⟨1, by decide, cM_draw_ok⟩
  | 1 => fun h1 h2 => by
    obtain rfl := Option.some.inj h1
    obtain rfl := Option.some.inj h2
    exact ⟨2, by decide, cM_dipInto_ok⟩
  | 2 => fun h1 h2 => by
    obtain rfl := Option.some.inj h1
    obtain rfl := Option.some.inj h2
    exact ⟨3, by decide, cM_passDay_ok⟩
  | jj + 3 => fun h1 _ => by cases jj <;> cases h1

set_option maxRecDepth 20000 in
theorem xM_passDrawnDay {g0 : mv_G} {res : List mv_V × H2} (o0 : Nat) (h : H2) (hh : fM_passDrawnDay o0 h = some res) : mv_X vw2 mdM_passDrawnDay 4 0 0 none g0 res 0 [(0, Sum.inr (2, o0))] [] h 0 0 := by
  refine mv_blkX ax2 (GM_passDrawnDay) (by decide) kM_passDrawnDay (fun pc lv st h ce sl hh => ?_) ((eM_passDrawnDay  o0 h).trans hh)
  cases hh

theorem mM_passDrawnDay (o0 : Nat) (h : H2) (vs : List mv_V) (h' : H2) (hh : fM_passDrawnDay o0 h = some (vs, h')) : mv_Met vw2 4 0 0 mdM_passDrawnDay [Sum.inr (2, o0)] h vs h' :=
  mv_Met_of (by decide +kernel) (Nat.le_of_ble_eq_true rfl) (xM_passDrawnDay o0 h hh)
theorem cM_passDrawnDay_ok : mv_Cal vw2 4 (mdM_passDrawnDay, true) ((0, 0), cM_passDrawnDay) := by
  intro as h k res hh
  change cM_passDrawnDay as h k = some res at hh
  unfold cM_passDrawnDay at hh
  split at hh
  · obtain ⟨hg0, ha0⟩ := mv_gd_some hh
    obtain rfl := Nat.eq_of_beq_eq_true hg0
    obtain ⟨h', h1, h9⟩ := mv_rV_some ha0
    exact ⟨_, _, h9, (by first | decide | exact Nat.le_refl _ | exact Nat.zero_le _), fun _ => ⟨_, _, _, rfl, Or.inl ⟨by decide, rfl⟩⟩, (mM_passDrawnDay _ h _ _ h1)⟩
  · cases hh

set_option maxRecDepth 100000 in
theorem kF_luckyDays : mv_tok mdF_luckyDays nF_luckyDays tF_luckyDays = true := by decide +kernel
set_option maxRecDepth 100000 in
set_option maxHeartbeats 8000000 in
theorem eF_luckyDays_b22 (q22 : Nat → Nat → Int32 → Int32 → Int32 → Int32 → Int32 → H2 → O2) (o0 : Nat) (o1 : Nat) (v2 : Int32) (v3 : Int32) (v4 : Int32) (v5 : Int32) (v6 : Int32) (h : H2) : mv_blk rI2 rR2 ln2 wI2 wR2 nw2 cp2 bod none tF_luckyDays gF_luckyDays 0 0 [22] (fun pc lv st h ce sl => mv_gd (Nat.beq ce 0 && Nat.beq sl 0) (cond (Nat.beq pc 22) (mv_gR 0 1 lv fun o0 => mv_gR 1 2 lv fun o1 => mv_gI 2 lv fun v2 => mv_gI 3 lv fun v3 => mv_gI 4 lv fun v4 => mv_gI 5 lv fun v5 => mv_gI 6 lv fun v6 => mv_sE st (q22 o0 o1 v2 v3 v4 v5 v6 h)) (none))) 400 (mv_seek 22 tF_luckyDays) [(0, Sum.inr (1, o0)), (1, Sum.inr (2, o1)), (2, Sum.inl (Value.int v2)), (3, Sum.inl (Value.int v3)), (4, Sum.inl (Value.int v4)), (5, Sum.inl (Value.int v5)), (6, Sum.inl (Value.int v6))] [] h 0 0 = (
  if v2 ≤ v6 then (
    some ([Sum.inl (Value.int v5)], h))
  else
  mv_rV (fM_copyFrom 3 o1 h) fun h1 =>
  mv_bh (wI2 h1 2 3 11 v4) fun h2 =>
  mv_rV (fM_passDrawnDay 3 h2) fun h3 =>
  mv_bi (rI2 h3 2 3 11) fun x4 =>
  mv_rI (fM_allDepths 3 h3) fun r6 h5 =>
  if r6 ≤ v3 then (
    mv_bi (v6 + (nI 1)) fun x7 =>
    q22 o0 o1 v2 v3 x4 v5 x7 h5)
  else
  mv_bi (v5 + (nI 1)) fun x8 =>
  mv_bi (v6 + (nI 1)) fun x9 =>
  q22 o0 o1 v2 v3 x4 x8 x9 h5) := rfl
set_option maxRecDepth 100000 in
set_option maxHeartbeats 8000000 in
theorem eF_luckyDays (q22 : Nat → Nat → Int32 → Int32 → Int32 → Int32 → Int32 → H2 → O2) (o0 : Nat) (o1 : Nat) (v2 : Int32) (h : H2) : mv_blk rI2 rR2 ln2 wI2 wR2 nw2 cp2 bod none tF_luckyDays gF_luckyDays 0 0 [22] (fun pc lv st h ce sl => mv_gd (Nat.beq ce 0 && Nat.beq sl 0) (cond (Nat.beq pc 22) (mv_gR 0 1 lv fun o0 => mv_gR 1 2 lv fun o1 => mv_gI 2 lv fun v2 => mv_gI 3 lv fun v3 => mv_gI 4 lv fun v4 => mv_gI 5 lv fun v5 => mv_gI 6 lv fun v6 => mv_sE st (q22 o0 o1 v2 v3 v4 v5 v6 h)) (none))) 400 (mv_seek 0 tF_luckyDays) [(0, Sum.inr (1, o0)), (1, Sum.inr (2, o1)), (2, Sum.inl (Value.int v2))] [] h 0 0 = (
  mv_rR 2 (fF_behind o0 o1 (nI 1) h) fun r2 h1 =>
  mv_rI (fM_allDepths r2 h1) fun r4 h3 =>
  mv_bi r4 fun x5 =>
  mv_bi (rI2 h3 2 o1 11) fun x6 =>
  mv_bi (nI 0) fun x7 =>
  mv_bi (nI 0) fun x8 =>
  q22 o0 o1 v2 x5 x6 x7 x8 h3) := rfl
theorem GF_luckyDays : ∀ (j : Nat) (C : mv_C H2) (md' : mv_MD × Bool), mv_nth j gF_luckyDays = some C → mv_nth j nF_luckyDays = some md' → ∃ n', n' + 1 ≤ 6 ∧ mv_Cal vw2 n' md' C := fun j C md' => match j with
  | 0 => fun h1 h2 => by
    obtain rfl := Option.some.inj h1
    obtain rfl := Option.some.inj h2
    exact ⟨5, by decide, cF_behind_ok⟩
  | 1 => fun h1 h2 => by
    obtain rfl := Option.some.inj h1
    obtain rfl := Option.some.inj h2
    exact ⟨1, by decide, cM_allDepths_ok⟩
  | 2 => fun h1 h2 => by
    obtain rfl := Option.some.inj h1
    obtain rfl := Option.some.inj h2
    exact ⟨1, by decide, cM_copyFrom_ok⟩
  | 3 => fun h1 h2 => by
    obtain rfl := Option.some.inj h1
    obtain rfl := Option.some.inj h2
    exact ⟨4, by decide, cM_passDrawnDay_ok⟩
  | jj + 4 => fun h1 _ => by cases jj <;> cases h1

set_option maxRecDepth 20000 in
theorem xF_luckyDays_b22 {g0 : mv_G} {res : List mv_V × H2} : ∀ (n : Nat) (o0 : Nat) (o1 : Nat) (v2 : Int32) (v3 : Int32) (v4 : Int32) (v5 : Int32) (v6 : Int32) (h : H2), fF_luckyDays_b22 n o0 o1 v2 v3 v4 v5 v6 h = some res → mv_X vw2 mdF_luckyDays 6 0 0 none g0 res 22 [(0, Sum.inr (1, o0)), (1, Sum.inr (2, o1)), (2, Sum.inl (Value.int v2)), (3, Sum.inl (Value.int v3)), (4, Sum.inl (Value.int v4)), (5, Sum.inl (Value.int v5)), (6, Sum.inl (Value.int v6))] [] h 0 0 := by
  intro n
  induction n with
  | zero => intro o0 o1 v2 v3 v4 v5 v6 h hh; cases hh
  | succ n ih =>
    intro o0 o1 v2 v3 v4 v5 v6 h hh
    refine mv_blkX ax2 (GF_luckyDays) (by decide) kF_luckyDays (fun pc lv st h ce sl hh => ?_) ((eF_luckyDays_b22 (fF_luckyDays_b22 n) o0 o1 v2 v3 v4 v5 v6 h).trans hh)
    obtain ⟨hg, hh1⟩ := mv_gd_some hh
    obtain ⟨rfl, rfl⟩ := mv_z2 hg
    rcases mv_cond_some hh1 with ⟨hb, hh2⟩ | ⟨hb, hh3⟩
    · obtain rfl := Nat.eq_of_beq_eq_true hb
      obtain ⟨o0, m0, hh4⟩ := mv_gR_some hh2
      obtain ⟨o1, m1, hh5⟩ := mv_gR_some hh4
      obtain ⟨v2, m2, hh6⟩ := mv_gI_some hh5
      obtain ⟨v3, m3, hh7⟩ := mv_gI_some hh6
      obtain ⟨v4, m4, hh8⟩ := mv_gI_some hh7
      obtain ⟨v5, m5, hh9⟩ := mv_gI_some hh8
      obtain ⟨v6, m6, hh10⟩ := mv_gI_some hh9
      obtain ⟨rfl, hh11⟩ := mv_sE_some hh10
      exact (ih o0 o1 v2 v3 v4 v5 v6 h hh11).sub (List.forall_mem_cons.mpr ⟨m0, (List.forall_mem_cons.mpr ⟨m1, (List.forall_mem_cons.mpr ⟨m2, (List.forall_mem_cons.mpr ⟨m3, (List.forall_mem_cons.mpr ⟨m4, (List.forall_mem_cons.mpr ⟨m5, (List.forall_mem_cons.mpr ⟨m6, (fun q hq => by cases hq)⟩)⟩)⟩)⟩)⟩)⟩)⟩)
    cases hh3

set_option maxRecDepth 20000 in
theorem xF_luckyDays {g0 : mv_G} {res : List mv_V × H2} (o0 : Nat) (o1 : Nat) (v2 : Int32) (h : H2) (hh : fF_luckyDays o0 o1 v2 h = some res) : mv_X vw2 mdF_luckyDays 6 0 0 none g0 res 0 [(0, Sum.inr (1, o0)), (1, Sum.inr (2, o1)), (2, Sum.inl (Value.int v2))] [] h 0 0 := by
  refine mv_blkX ax2 (GF_luckyDays) (by decide) kF_luckyDays (fun pc lv st h ce sl hh => ?_) ((eF_luckyDays (fF_luckyDays_b22 1000) o0 o1 v2 h).trans hh)
  obtain ⟨hg, hh1⟩ := mv_gd_some hh
  obtain ⟨rfl, rfl⟩ := mv_z2 hg
  rcases mv_cond_some hh1 with ⟨hb, hh2⟩ | ⟨hb, hh3⟩
  · obtain rfl := Nat.eq_of_beq_eq_true hb
    obtain ⟨o0, m0, hh4⟩ := mv_gR_some hh2
    obtain ⟨o1, m1, hh5⟩ := mv_gR_some hh4
    obtain ⟨v2, m2, hh6⟩ := mv_gI_some hh5
    obtain ⟨v3, m3, hh7⟩ := mv_gI_some hh6
    obtain ⟨v4, m4, hh8⟩ := mv_gI_some hh7
    obtain ⟨v5, m5, hh9⟩ := mv_gI_some hh8
    obtain ⟨v6, m6, hh10⟩ := mv_gI_some hh9
    obtain ⟨rfl, hh11⟩ := mv_sE_some hh10
    exact (xF_luckyDays_b22 1000 o0 o1 v2 v3 v4 v5 v6 h hh11).sub (List.forall_mem_cons.mpr ⟨m0, (List.forall_mem_cons.mpr ⟨m1, (List.forall_mem_cons.mpr ⟨m2, (List.forall_mem_cons.mpr ⟨m3, (List.forall_mem_cons.mpr ⟨m4, (List.forall_mem_cons.mpr ⟨m5, (List.forall_mem_cons.mpr ⟨m6, (fun q hq => by cases hq)⟩)⟩)⟩)⟩)⟩)⟩)⟩)
  cases hh3

theorem mF_luckyDays (o0 : Nat) (o1 : Nat) (v2 : Int32) (h : H2) (vs : List mv_V) (h' : H2) (hh : fF_luckyDays o0 o1 v2 h = some (vs, h')) : mv_Met vw2 6 0 0 mdF_luckyDays [Sum.inr (1, o0), Sum.inr (2, o1), Sum.inl (Value.int v2)] h vs h' :=
  mv_Met_of (by decide +kernel) (Nat.le_of_ble_eq_true rfl) (xF_luckyDays o0 o1 v2 h hh)
theorem cF_luckyDays_ok : mv_Cal vw2 6 (mdF_luckyDays, true) ((0, 0), cF_luckyDays) := by
  intro as h k res hh
  change cF_luckyDays as h k = some res at hh
  unfold cF_luckyDays at hh
  split at hh
  · obtain ⟨hg0, ha0⟩ := mv_gd_some hh
    obtain rfl := Nat.eq_of_beq_eq_true hg0
    obtain ⟨hg1, ha1⟩ := mv_gd_some ha0
    obtain rfl := Nat.eq_of_beq_eq_true hg1
    obtain ⟨x, h', h1, h9⟩ := mv_rI_some ha1
    exact ⟨_, _, h9, (by first | decide | exact Nat.le_refl _ | exact Nat.zero_le _), fun _ => ⟨_, _, _, rfl, Or.inl ⟨by decide, rfl⟩⟩, (mF_luckyDays _ _ _ h _ _ h1)⟩
  · cases hh

set_option maxRecDepth 100000 in
theorem kF_daysUntilAbout : mv_tok mdF_daysUntilAbout nF_daysUntilAbout tF_daysUntilAbout = true := by decide +kernel
set_option maxRecDepth 100000 in
set_option maxHeartbeats 8000000 in
theorem eF_daysUntilAbout_b11 (q11 : Nat → Int32 → Int32 → Int32 → H2 → O2) (o0 : Nat) (v2 : Int32) (v3 : Int32) (v4 : Int32) (h : H2) : mv_blk rI2 rR2 ln2 wI2 wR2 nw2 cp2 bod none tF_daysUntilAbout gF_daysUntilAbout 0 0 [11] (fun pc lv st h ce sl => mv_gd (Nat.beq ce 0 && Nat.beq sl 0) (cond (Nat.beq pc 11) (mv_gR 0 1 lv fun o0 => mv_gI 2 lv fun v2 => mv_gI 3 lv fun v3 => mv_gI 4 lv fun v4 => mv_sE st (q11 o0 v2 v3 v4 h)) (none))) 400 (mv_seek 11 tF_daysUntilAbout) [(0, Sum.inr (1, o0)), (2, Sum.inl (Value.int v2)), (3, Sum.inl (Value.int v3)), (4, Sum.inl (Value.int v4))] [] h 0 0 = (
  if (nI 60) < v4 then (
    some ([Sum.inl (Value.int (-(nI 3)))], h))
  else
  mv_gd (mv_inb v2 8) <|
  if (rI2 h 305 3 v2.toNatClampNeg) = v3 then (
    some ([Sum.inl (Value.int v4)], h))
  else
  mv_rV (fM_passDay 3 h) fun h1 =>
  mv_bi (v4 + (nI 1)) fun x2 =>
  q11 o0 v2 v3 x2 h1) := rfl
set_option maxRecDepth 100000 in
set_option maxHeartbeats 8000000 in
theorem eF_daysUntilAbout (q11 : Nat → Int32 → Int32 → Int32 → H2 → O2) (o0 : Nat) (o1 : Nat) (v2 : Int32) (v3 : Int32) (h : H2) : mv_blk rI2 rR2 ln2 wI2 wR2 nw2 cp2 bod none tF_daysUntilAbout gF_daysUntilAbout 0 0 [11] (fun pc lv st h ce sl => mv_gd (Nat.beq ce 0 && Nat.beq sl 0) (cond (Nat.beq pc 11) (mv_gR 0 1 lv fun o0 => mv_gI 2 lv fun v2 => mv_gI 3 lv fun v3 => mv_gI 4 lv fun v4 => mv_sE st (q11 o0 v2 v3 v4 h)) (none))) 400 (mv_seek 0 tF_daysUntilAbout) [(0, Sum.inr (1, o0)), (1, Sum.inr (2, o1)), (2, Sum.inl (Value.int v2)), (3, Sum.inl (Value.int v3))] [] h 0 0 = (
  mv_rV (fM_copyFrom 3 o1 h) fun h1 =>
  mv_bi (nI 0) fun x2 =>
  q11 o0 v2 v3 x2 h1) := rfl
theorem GF_daysUntilAbout : ∀ (j : Nat) (C : mv_C H2) (md' : mv_MD × Bool), mv_nth j gF_daysUntilAbout = some C → mv_nth j nF_daysUntilAbout = some md' → ∃ n', n' + 1 ≤ 4 ∧ mv_Cal vw2 n' md' C := fun j C md' => match j with
  | 0 => fun h1 h2 => by
    obtain rfl := Option.some.inj h1
    obtain rfl := Option.some.inj h2
    exact ⟨1, by decide, cM_copyFrom_ok⟩
  | 1 => fun h1 h2 => by
    obtain rfl := Option.some.inj h1
    obtain rfl := Option.some.inj h2
    exact ⟨3, by decide, cM_passDay_ok⟩
  | jj + 2 => fun h1 _ => by cases jj <;> cases h1

set_option maxRecDepth 20000 in
theorem xF_daysUntilAbout_b11 {g0 : mv_G} {res : List mv_V × H2} : ∀ (n : Nat) (o0 : Nat) (v2 : Int32) (v3 : Int32) (v4 : Int32) (h : H2), fF_daysUntilAbout_b11 n o0 v2 v3 v4 h = some res → mv_X vw2 mdF_daysUntilAbout 4 0 0 none g0 res 11 [(0, Sum.inr (1, o0)), (2, Sum.inl (Value.int v2)), (3, Sum.inl (Value.int v3)), (4, Sum.inl (Value.int v4))] [] h 0 0 := by
  intro n
  induction n with
  | zero => intro o0 v2 v3 v4 h hh; cases hh
  | succ n ih =>
    intro o0 v2 v3 v4 h hh
    refine mv_blkX ax2 (GF_daysUntilAbout) (by decide) kF_daysUntilAbout (fun pc lv st h ce sl hh => ?_) ((eF_daysUntilAbout_b11 (fF_daysUntilAbout_b11 n) o0 v2 v3 v4 h).trans hh)
    obtain ⟨hg, hh1⟩ := mv_gd_some hh
    obtain ⟨rfl, rfl⟩ := mv_z2 hg
    rcases mv_cond_some hh1 with ⟨hb, hh2⟩ | ⟨hb, hh3⟩
    · obtain rfl := Nat.eq_of_beq_eq_true hb
      obtain ⟨o0, m0, hh4⟩ := mv_gR_some hh2
      obtain ⟨v2, m1, hh5⟩ := mv_gI_some hh4
      obtain ⟨v3, m2, hh6⟩ := mv_gI_some hh5
      obtain ⟨v4, m3, hh7⟩ := mv_gI_some hh6
      obtain ⟨rfl, hh8⟩ := mv_sE_some hh7
      exact (ih o0 v2 v3 v4 h hh8).sub (List.forall_mem_cons.mpr ⟨m0, (List.forall_mem_cons.mpr ⟨m1, (List.forall_mem_cons.mpr ⟨m2, (List.forall_mem_cons.mpr ⟨m3, (fun q hq => by cases hq)⟩)⟩)⟩)⟩)
    cases hh3

set_option maxRecDepth 20000 in
theorem xF_daysUntilAbout {g0 : mv_G} {res : List mv_V × H2} (o0 : Nat) (o1 : Nat) (v2 : Int32) (v3 : Int32) (h : H2) (hh : fF_daysUntilAbout o0 o1 v2 v3 h = some res) : mv_X vw2 mdF_daysUntilAbout 4 0 0 none g0 res 0 [(0, Sum.inr (1, o0)), (1, Sum.inr (2, o1)), (2, Sum.inl (Value.int v2)), (3, Sum.inl (Value.int v3))] [] h 0 0 := by
  refine mv_blkX ax2 (GF_daysUntilAbout) (by decide) kF_daysUntilAbout (fun pc lv st h ce sl hh => ?_) ((eF_daysUntilAbout (fF_daysUntilAbout_b11 1000) o0 o1 v2 v3 h).trans hh)
  obtain ⟨hg, hh1⟩ := mv_gd_some hh
  obtain ⟨rfl, rfl⟩ := mv_z2 hg
  rcases mv_cond_some hh1 with ⟨hb, hh2⟩ | ⟨hb, hh3⟩
  · obtain rfl := Nat.eq_of_beq_eq_true hb
    obtain ⟨o0, m0, hh4⟩ := mv_gR_some hh2
    obtain ⟨v2, m1, hh5⟩ := mv_gI_some hh4
    obtain ⟨v3, m2, hh6⟩ := mv_gI_some hh5
    obtain ⟨v4, m3, hh7⟩ := mv_gI_some hh6
    obtain ⟨rfl, hh8⟩ := mv_sE_some hh7
    exact (xF_daysUntilAbout_b11 1000 o0 v2 v3 v4 h hh8).sub (List.forall_mem_cons.mpr ⟨m0, (List.forall_mem_cons.mpr ⟨m1, (List.forall_mem_cons.mpr ⟨m2, (List.forall_mem_cons.mpr ⟨m3, (fun q hq => by cases hq)⟩)⟩)⟩)⟩)
  cases hh3

theorem mF_daysUntilAbout (o0 : Nat) (o1 : Nat) (v2 : Int32) (v3 : Int32) (h : H2) (vs : List mv_V) (h' : H2) (hh : fF_daysUntilAbout o0 o1 v2 v3 h = some (vs, h')) : mv_Met vw2 4 0 0 mdF_daysUntilAbout [Sum.inr (1, o0), Sum.inr (2, o1), Sum.inl (Value.int v2), Sum.inl (Value.int v3)] h vs h' :=
  mv_Met_of (by decide +kernel) (Nat.le_of_ble_eq_true rfl) (xF_daysUntilAbout o0 o1 v2 v3 h hh)
theorem cF_daysUntilAbout_ok : mv_Cal vw2 4 (mdF_daysUntilAbout, true) ((0, 0), cF_daysUntilAbout) := by
  intro as h k res hh
  change cF_daysUntilAbout as h k = some res at hh
  unfold cF_daysUntilAbout at hh
  split at hh
  · obtain ⟨hg0, ha0⟩ := mv_gd_some hh
    obtain rfl := Nat.eq_of_beq_eq_true hg0
    obtain ⟨hg1, ha1⟩ := mv_gd_some ha0
    obtain rfl := Nat.eq_of_beq_eq_true hg1
    obtain ⟨x, h', h1, h9⟩ := mv_rI_some ha1
    exact ⟨_, _, h9, (by first | decide | exact Nat.le_refl _ | exact Nat.zero_le _), fun _ => ⟨_, _, _, rfl, Or.inl ⟨by decide, rfl⟩⟩, (mF_daysUntilAbout _ _ _ _ h _ _ h1)⟩
  · cases hh

set_option maxRecDepth 100000 in
theorem kF_spoiltFromHere : mv_tok mdF_spoiltFromHere nF_spoiltFromHere tF_spoiltFromHere = true := by decide +kernel
set_option maxRecDepth 100000 in
set_option maxHeartbeats 8000000 in
theorem eF_spoiltFromHere_b13 (q13 : Nat → Nat → Int32 → Int32 → H2 → O2) (o0 : Nat) (o1 : Nat) (v3 : Int32) (v4 : Int32) (h : H2) : mv_blk rI2 rR2 ln2 wI2 wR2 nw2 cp2 bod none tF_spoiltFromHere gF_spoiltFromHere 0 0 [13] (fun pc lv st h ce sl => mv_gd (Nat.beq ce 0 && Nat.beq sl 0) (cond (Nat.beq pc 13) (mv_gR 0 1 lv fun o0 => mv_gR 1 2 lv fun o1 => mv_gI 3 lv fun v3 => mv_gI 4 lv fun v4 => mv_sE st (q13 o0 o1 v3 v4 h)) (none))) 400 (mv_seek 13 tF_spoiltFromHere) [(0, Sum.inr (1, o0)), (1, Sum.inr (2, o1)), (3, Sum.inl (Value.int v3)), (4, Sum.inl (Value.int v4))] [] h 0 0 = (
  if (rI2 h 2 o1 9) ≤ v4 then (
    some ([Sum.inl (Value.int v3)], h))
  else
  mv_gd (mv_inb v4 8) <|
  mv_gd (mv_inb v4 8) <|
  if (rI2 h 305 3 v4.toNatClampNeg) = (rI2 h 305 o1 v4.toNatClampNeg) then (
    mv_bi (v4 + (nI 1)) fun x1 =>
    q13 o0 o1 v3 x1 h)
  else
  mv_bi (v3 + (nI 1)) fun x2 =>
  mv_bi (v4 + (nI 1)) fun x3 =>
  q13 o0 o1 x2 x3 h) := rfl
set_option maxRecDepth 100000 in
set_option maxHeartbeats 8000000 in
theorem eF_spoiltFromHere (q13 : Nat → Nat → Int32 → Int32 → H2 → O2) (o0 : Nat) (o1 : Nat) (v2 : Int32) (h : H2) : mv_blk rI2 rR2 ln2 wI2 wR2 nw2 cp2 bod none tF_spoiltFromHere gF_spoiltFromHere 0 0 [13] (fun pc lv st h ce sl => mv_gd (Nat.beq ce 0 && Nat.beq sl 0) (cond (Nat.beq pc 13) (mv_gR 0 1 lv fun o0 => mv_gR 1 2 lv fun o1 => mv_gI 3 lv fun v3 => mv_gI 4 lv fun v4 => mv_sE st (q13 o0 o1 v3 v4 h)) (none))) 400 (mv_seek 0 tF_spoiltFromHere) [(0, Sum.inr (1, o0)), (1, Sum.inr (2, o1)), (2, Sum.inl (Value.int v2))] [] h 0 0 = (
  mv_rV (fM_passDays 3 v2 h) fun h1 =>
  mv_bi (nI 0) fun x2 =>
  mv_bi (nI 0) fun x3 =>
  q13 o0 o1 x2 x3 h1) := rfl
theorem GF_spoiltFromHere : ∀ (j : Nat) (C : mv_C H2) (md' : mv_MD × Bool), mv_nth j gF_spoiltFromHere = some C → mv_nth j nF_spoiltFromHere = some md' → ∃ n', n' + 1 ≤ 5 ∧ mv_Cal vw2 n' md' C := fun j C md' => match j with
  | 0 => fun h1 h2 => by
    obtain rfl := Option.some.inj h1
    obtain rfl := Option.some.inj h2
    exact ⟨4, by decide, cM_passDays_ok⟩
  | jj + 1 => fun h1 _ => by cases jj <;> cases h1

set_option maxRecDepth 20000 in
theorem xF_spoiltFromHere_b13 {g0 : mv_G} {res : List mv_V × H2} : ∀ (n : Nat) (o0 : Nat) (o1 : Nat) (v3 : Int32) (v4 : Int32) (h : H2), fF_spoiltFromHere_b13 n o0 o1 v3 v4 h = some res → mv_X vw2 mdF_spoiltFromHere 5 0 0 none g0 res 13 [(0, Sum.inr (1, o0)), (1, Sum.inr (2, o1)), (3, Sum.inl (Value.int v3)), (4, Sum.inl (Value.int v4))] [] h 0 0 := by
  intro n
  induction n with
  | zero => intro o0 o1 v3 v4 h hh; cases hh
  | succ n ih =>
    intro o0 o1 v3 v4 h hh
    refine mv_blkX ax2 (GF_spoiltFromHere) (by decide) kF_spoiltFromHere (fun pc lv st h ce sl hh => ?_) ((eF_spoiltFromHere_b13 (fF_spoiltFromHere_b13 n) o0 o1 v3 v4 h).trans hh)
    obtain ⟨hg, hh1⟩ := mv_gd_some hh
    obtain ⟨rfl, rfl⟩ := mv_z2 hg
    rcases mv_cond_some hh1 with ⟨hb, hh2⟩ | ⟨hb, hh3⟩
    · obtain rfl := Nat.eq_of_beq_eq_true hb
      obtain ⟨o0, m0, hh4⟩ := mv_gR_some hh2
      obtain ⟨o1, m1, hh5⟩ := mv_gR_some hh4
      obtain ⟨v3, m2, hh6⟩ := mv_gI_some hh5
      obtain ⟨v4, m3, hh7⟩ := mv_gI_some hh6
      obtain ⟨rfl, hh8⟩ := mv_sE_some hh7
      exact (ih o0 o1 v3 v4 h hh8).sub (List.forall_mem_cons.mpr ⟨m0, (List.forall_mem_cons.mpr ⟨m1, (List.forall_mem_cons.mpr ⟨m2, (List.forall_mem_cons.mpr ⟨m3, (fun q hq => by cases hq)⟩)⟩)⟩)⟩)
    cases hh3

set_option maxRecDepth 20000 in
theorem xF_spoiltFromHere {g0 : mv_G} {res : List mv_V × H2} (o0 : Nat) (o1 : Nat) (v2 : Int32) (h : H2) (hh : fF_spoiltFromHere o0 o1 v2 h = some res) : mv_X vw2 mdF_spoiltFromHere 5 0 0 none g0 res 0 [(0, Sum.inr (1, o0)), (1, Sum.inr (2, o1)), (2, Sum.inl (Value.int v2))] [] h 0 0 := by
  refine mv_blkX ax2 (GF_spoiltFromHere) (by decide) kF_spoiltFromHere (fun pc lv st h ce sl hh => ?_) ((eF_spoiltFromHere (fF_spoiltFromHere_b13 1000) o0 o1 v2 h).trans hh)
  obtain ⟨hg, hh1⟩ := mv_gd_some hh
  obtain ⟨rfl, rfl⟩ := mv_z2 hg
  rcases mv_cond_some hh1 with ⟨hb, hh2⟩ | ⟨hb, hh3⟩
  · obtain rfl := Nat.eq_of_beq_eq_true hb
    obtain ⟨o0, m0, hh4⟩ := mv_gR_some hh2
    obtain ⟨o1, m1, hh5⟩ := mv_gR_some hh4
    obtain ⟨v3, m2, hh6⟩ := mv_gI_some hh5
    obtain ⟨v4, m3, hh7⟩ := mv_gI_some hh6
    obtain ⟨rfl, hh8⟩ := mv_sE_some hh7
    exact (xF_spoiltFromHere_b13 1000 o0 o1 v3 v4 h hh8).sub (List.forall_mem_cons.mpr ⟨m0, (List.forall_mem_cons.mpr ⟨m1, (List.forall_mem_cons.mpr ⟨m2, (List.forall_mem_cons.mpr ⟨m3, (fun q hq => by cases hq)⟩)⟩)⟩)⟩)
  cases hh3

theorem mF_spoiltFromHere (o0 : Nat) (o1 : Nat) (v2 : Int32) (h : H2) (vs : List mv_V) (h' : H2) (hh : fF_spoiltFromHere o0 o1 v2 h = some (vs, h')) : mv_Met vw2 5 0 0 mdF_spoiltFromHere [Sum.inr (1, o0), Sum.inr (2, o1), Sum.inl (Value.int v2)] h vs h' :=
  mv_Met_of (by decide +kernel) (Nat.le_of_ble_eq_true rfl) (xF_spoiltFromHere o0 o1 v2 h hh)
theorem cF_spoiltFromHere_ok : mv_Cal vw2 5 (mdF_spoiltFromHere, true) ((0, 0), cF_spoiltFromHere) := by
  intro as h k res hh
  change cF_spoiltFromHere as h k = some res at hh
  unfold cF_spoiltFromHere at hh
  split at hh
  · obtain ⟨hg0, ha0⟩ := mv_gd_some hh
    obtain rfl := Nat.eq_of_beq_eq_true hg0
    obtain ⟨hg1, ha1⟩ := mv_gd_some ha0
    obtain rfl := Nat.eq_of_beq_eq_true hg1
    obtain ⟨x, h', h1, h9⟩ := mv_rI_some ha1
    exact ⟨_, _, h9, (by first | decide | exact Nat.le_refl _ | exact Nat.zero_le _), fun _ => ⟨_, _, _, rfl, Or.inl ⟨by decide, rfl⟩⟩, (mF_spoiltFromHere _ _ _ h _ _ h1)⟩
  · cases hh
end
