section
-- ===== PART A: goes FIRST, ahead of the names: the tables' words, and 'selects' of the private methods out of them =====
/-- a private method of a class that the tables say can be made, by its rows of tables_1 -/
def lw_okq (q : MethodName × Nat) : Prop := (q.1.cls ≠ "java/lang/invoke/MethodHandle" ∧ q.1.cls ≠ "java/lang/invoke/VarHandle") ∧ Cond.instantiable q.1.cls q.2 ∈ tables_1 ∧ Cond.privateMethod q.1 ∈ tables_1 ∧ Cond.instanceMethod q.1 ∈ tables_1
theorem lw_p0 : lw_okq (⟨"IntentVats$Tape", "readWord", "()V"⟩, 6) := ⟨⟨by decide +kernel, by decide +kernel⟩, List.mem_of_getElem? (i := 115) (by decide +kernel), List.mem_of_getElem? (i := 255) (by decide +kernel), List.mem_of_getElem? (i := 256) (by decide +kernel)⟩
theorem lw_p1 : lw_okq (⟨"IntentVats$Tape", "readDigits", "()V"⟩, 6) := ⟨⟨by decide +kernel, by decide +kernel⟩, List.mem_of_getElem? (i := 115) (by decide +kernel), List.mem_of_getElem? (i := 260) (by decide +kernel), List.mem_of_getElem? (i := 261) (by decide +kernel)⟩
theorem lw_p2 : lw_okq (⟨"IntentVats$Tape", "readStatement", "(LIntentVats$Mill;)Z"⟩, 6) := ⟨⟨by decide +kernel, by decide +kernel⟩, List.mem_of_getElem? (i := 115) (by decide +kernel), List.mem_of_getElem? (i := 264) (by decide +kernel), List.mem_of_getElem? (i := 265) (by decide +kernel)⟩
theorem lw_p3 : lw_okq (⟨"IntentVats$Tape", "kindNamed", "()I"⟩, 6) := ⟨⟨by decide +kernel, by decide +kernel⟩, List.mem_of_getElem? (i := 115) (by decide +kernel), List.mem_of_getElem? (i := 268) (by decide +kernel), List.mem_of_getElem? (i := 269) (by decide +kernel)⟩
theorem lw_p4 : lw_okq (⟨"IntentVats$Tape", "isName", "(Ljava/lang/String;)Z"⟩, 6) := ⟨⟨by decide +kernel, by decide +kernel⟩, List.mem_of_getElem? (i := 115) (by decide +kernel), List.mem_of_getElem? (i := 273) (by decide +kernel), List.mem_of_getElem? (i := 274) (by decide +kernel)⟩
theorem lw_p5 : lw_okq (⟨"IntentVats$Tape", "readCloth", "(LIntentVats$Mill;I)Z"⟩, 6) := ⟨⟨by decide +kernel, by decide +kernel⟩, List.mem_of_getElem? (i := 115) (by decide +kernel), List.mem_of_getElem? (i := 330) (by decide +kernel), List.mem_of_getElem? (i := 331) (by decide +kernel)⟩
theorem lw_p6 : lw_okq (⟨"IntentVats$Tape", "readNumber", "(II)Z"⟩, 6) := ⟨⟨by decide +kernel, by decide +kernel⟩, List.mem_of_getElem? (i := 115) (by decide +kernel), List.mem_of_getElem? (i := 339) (by decide +kernel), List.mem_of_getElem? (i := 340) (by decide +kernel)⟩
theorem lw_p7 : lw_okq (⟨"IntentVats$Tape", "isStop", "()Z"⟩, 6) := ⟨⟨by decide +kernel, by decide +kernel⟩, List.mem_of_getElem? (i := 115) (by decide +kernel), List.mem_of_getElem? (i := 345) (by decide +kernel), List.mem_of_getElem? (i := 346) (by decide +kernel)⟩
theorem lw_p8 : lw_okq (⟨"IntentVats$Tape", "readVat", "(LIntentVats$Mill;)Z"⟩, 6) := ⟨⟨by decide +kernel, by decide +kernel⟩, List.mem_of_getElem? (i := 115) (by decide +kernel), List.mem_of_getElem? (i := 350) (by decide +kernel), List.mem_of_getElem? (i := 351) (by decide +kernel)⟩
theorem lw_p9 : lw_okq (⟨"IntentVats$Tape", "readName", "(Ljava/lang/String;)Z"⟩, 6) := ⟨⟨by decide +kernel, by decide +kernel⟩, List.mem_of_getElem? (i := 115) (by decide +kernel), List.mem_of_getElem? (i := 355) (by decide +kernel), List.mem_of_getElem? (i := 356) (by decide +kernel)⟩
theorem lw_p10 : lw_okq (⟨"IntentVats$Tape", "readStop", "()Z"⟩, 6) := ⟨⟨by decide +kernel, by decide +kernel⟩, List.mem_of_getElem? (i := 115) (by decide +kernel), List.mem_of_getElem? (i := 359) (by decide +kernel), List.mem_of_getElem? (i := 360) (by decide +kernel)⟩
theorem lw_p11 : lw_okq (⟨"IntentVats$Tape", "readStrong", "(LIntentVats$Mill;)Z"⟩, 6) := ⟨⟨by decide +kernel, by decide +kernel⟩, List.mem_of_getElem? (i := 115) (by decide +kernel), List.mem_of_getElem? (i := 364) (by decide +kernel), List.mem_of_getElem? (i := 365) (by decide +kernel)⟩
theorem lw_p12 : lw_okq (⟨"IntentVats$Tape", "readDay", "(LIntentVats$Mill;)Z"⟩, 6) := ⟨⟨by decide +kernel, by decide +kernel⟩, List.mem_of_getElem? (i := 115) (by decide +kernel), List.mem_of_getElem? (i := 369) (by decide +kernel), List.mem_of_getElem? (i := 370) (by decide +kernel)⟩
theorem lw_p13 : lw_okq (⟨"IntentVats$Tape", "lawNamed", "()I"⟩, 6) := ⟨⟨by decide +kernel, by decide +kernel⟩, List.mem_of_getElem? (i := 115) (by decide +kernel), List.mem_of_getElem? (i := 373) (by decide +kernel), List.mem_of_getElem? (i := 374) (by decide +kernel)⟩
theorem lw_p14 : lw_okq (⟨"IntentVats$Tape", "readLaw", "(LIntentVats$Mill;I)Z"⟩, 6) := ⟨⟨by decide +kernel, by decide +kernel⟩, List.mem_of_getElem? (i := 115) (by decide +kernel), List.mem_of_getElem? (i := 381) (by decide +kernel), List.mem_of_getElem? (i := 382) (by decide +kernel)⟩
theorem lw_p15 : lw_okq (⟨"IntentVats$Mill", "isForOdds", "(I)Z"⟩, 12) := ⟨⟨by decide +kernel, by decide +kernel⟩, List.mem_of_getElem? (i := 27) (by decide +kernel), List.mem_of_getElem? (i := 569) (by decide +kernel), List.mem_of_getElem? (i := 570) (by decide +kernel)⟩
def lw_privs_1 : List (MethodName × Nat) := [(⟨"IntentVats$Tape", "readWord", "()V"⟩, 6), (⟨"IntentVats$Tape", "readDigits", "()V"⟩, 6), (⟨"IntentVats$Tape", "readStatement", "(LIntentVats$Mill;)Z"⟩, 6), (⟨"IntentVats$Tape", "kindNamed", "()I"⟩, 6), (⟨"IntentVats$Tape", "isName", "(Ljava/lang/String;)Z"⟩, 6), (⟨"IntentVats$Tape", "readCloth", "(LIntentVats$Mill;I)Z"⟩, 6), (⟨"IntentVats$Tape", "readNumber", "(II)Z"⟩, 6), (⟨"IntentVats$Tape", "isStop", "()Z"⟩, 6), (⟨"IntentVats$Tape", "readVat", "(LIntentVats$Mill;)Z"⟩, 6), (⟨"IntentVats$Tape", "readName", "(Ljava/lang/String;)Z"⟩, 6), (⟨"IntentVats$Tape", "readStop", "()Z"⟩, 6), (⟨"IntentVats$Tape", "readStrong", "(LIntentVats$Mill;)Z"⟩, 6), (⟨"IntentVats$Tape", "readDay", "(LIntentVats$Mill;)Z"⟩, 6), (⟨"IntentVats$Tape", "lawNamed", "()I"⟩, 6), (⟨"IntentVats$Tape", "readLaw", "(LIntentVats$Mill;I)Z"⟩, 6), (⟨"IntentVats$Mill", "isForOdds", "(I)Z"⟩, 12)]
theorem lw_r1 : ∀ q ∈ lw_privs_1, lw_okq q := List.forall_mem_cons.mpr ⟨lw_p0, List.forall_mem_cons.mpr ⟨lw_p1, List.forall_mem_cons.mpr ⟨lw_p2, List.forall_mem_cons.mpr ⟨lw_p3, List.forall_mem_cons.mpr ⟨lw_p4, List.forall_mem_cons.mpr ⟨lw_p5, List.forall_mem_cons.mpr ⟨lw_p6, List.forall_mem_cons.mpr ⟨lw_p7, List.forall_mem_cons.mpr ⟨lw_p8, List.forall_mem_cons.mpr ⟨lw_p9, List.forall_mem_cons.mpr ⟨lw_p10, List.forall_mem_cons.mpr ⟨lw_p11, List.forall_mem_cons.mpr ⟨lw_p12, List.forall_mem_cons.mpr ⟨lw_p13, List.forall_mem_cons.mpr ⟨lw_p14, List.forall_mem_cons.mpr ⟨lw_p15, fun _ h => absurd h List.not_mem_nil⟩⟩⟩⟩⟩⟩⟩⟩⟩⟩⟩⟩⟩⟩⟩⟩
theorem lw_p16 : lw_okq (⟨"IntentVats$Forecast", "spoiltFromHere", "(LIntentVats$Mill;I)I"⟩, 1) := ⟨⟨by decide +kernel, by decide +kernel⟩, List.mem_of_getElem? (i := 103) (by decide +kernel), List.mem_of_getElem? (i := 606) (by decide +kernel), List.mem_of_getElem? (i := 607) (by decide +kernel)⟩
theorem lw_p17 : lw_okq (⟨"IntentVats$Forecast", "leadsTo", "(LIntentVats$Mill;IIII)Z"⟩, 1) := ⟨⟨by decide +kernel, by decide +kernel⟩, List.mem_of_getElem? (i := 103) (by decide +kernel), List.mem_of_getElem? (i := 618) (by decide +kernel), List.mem_of_getElem? (i := 619) (by decide +kernel)⟩
theorem lw_p18 : lw_okq (⟨"IntentVats$Forecast", "hangJust", "(LIntentVats$Mill;I)V"⟩, 1) := ⟨⟨by decide +kernel, by decide +kernel⟩, List.mem_of_getElem? (i := 103) (by decide +kernel), List.mem_of_getElem? (i := 662) (by decide +kernel), List.mem_of_getElem? (i := 663) (by decide +kernel)⟩
theorem lw_p19 : lw_okq (⟨"IntentVats$Forecast", "fitsAs", "(LIntentVats$Mill;IILIntentVats$SheetRow;)Z"⟩, 1) := ⟨⟨by decide +kernel, by decide +kernel⟩, List.mem_of_getElem? (i := 103) (by decide +kernel), List.mem_of_getElem? (i := 677) (by decide +kernel), List.mem_of_getElem? (i := 678) (by decide +kernel)⟩
theorem lw_p20 : lw_okq (⟨"IntentVats$Forecast", "rowPart", "(II)I"⟩, 1) := ⟨⟨by decide +kernel, by decide +kernel⟩, List.mem_of_getElem? (i := 103) (by decide +kernel), List.mem_of_getElem? (i := 725) (by decide +kernel), List.mem_of_getElem? (i := 726) (by decide +kernel)⟩
theorem lw_p21 : lw_okq (⟨"IntentVats$Acts", "own", "(III)I"⟩, 6) := ⟨⟨by decide +kernel, by decide +kernel⟩, List.mem_of_getElem? (i := 172) (by decide +kernel), List.mem_of_getElem? (i := 850) (by decide +kernel), List.mem_of_getElem? (i := 851) (by decide +kernel)⟩
theorem lw_p22 : lw_okq (⟨"IntentVats$Acts", "body", "(III)I"⟩, 6) := ⟨⟨by decide +kernel, by decide +kernel⟩, List.mem_of_getElem? (i := 172) (by decide +kernel), List.mem_of_getElem? (i := 856) (by decide +kernel), List.mem_of_getElem? (i := 857) (by decide +kernel)⟩
theorem lw_p23 : lw_okq (⟨"IntentVats$Acts", "note", "(I)V"⟩, 6) := ⟨⟨by decide +kernel, by decide +kernel⟩, List.mem_of_getElem? (i := 172) (by decide +kernel), List.mem_of_getElem? (i := 860) (by decide +kernel), List.mem_of_getElem? (i := 861) (by decide +kernel)⟩
theorem lw_p24 : lw_okq (⟨"IntentVats$Acts", "parted", "(II)I"⟩, 6) := ⟨⟨by decide +kernel, by decide +kernel⟩, List.mem_of_getElem? (i := 172) (by decide +kernel), List.mem_of_getElem? (i := 864) (by decide +kernel), List.mem_of_getElem? (i := 865) (by decide +kernel)⟩
theorem lw_p25 : lw_okq (⟨"IntentVatsModel", "anew", "()V"⟩, 25) := ⟨⟨by decide +kernel, by decide +kernel⟩, List.mem_of_getElem? (i := 889) (by decide +kernel), List.mem_of_getElem? (i := 895) (by decide +kernel), List.mem_of_getElem? (i := 896) (by decide +kernel)⟩
theorem lw_p26 : lw_okq (⟨"IntentVatsModel", "becomes", "(II)I"⟩, 25) := ⟨⟨by decide +kernel, by decide +kernel⟩, List.mem_of_getElem? (i := 889) (by decide +kernel), List.mem_of_getElem? (i := 983) (by decide +kernel), List.mem_of_getElem? (i := 984) (by decide +kernel)⟩
theorem lw_p27 : lw_okq (⟨"IntentVatsModel", "adds", "(I)V"⟩, 25) := ⟨⟨by decide +kernel, by decide +kernel⟩, List.mem_of_getElem? (i := 889) (by decide +kernel), List.mem_of_getElem? (i := 1023) (by decide +kernel), List.mem_of_getElem? (i := 1024) (by decide +kernel)⟩
theorem lw_p28 : lw_okq (⟨"IntentVatsModel", "sets", "(III)V"⟩, 25) := ⟨⟨by decide +kernel, by decide +kernel⟩, List.mem_of_getElem? (i := 889) (by decide +kernel), List.mem_of_getElem? (i := 1027) (by decide +kernel), List.mem_of_getElem? (i := 1028) (by decide +kernel)⟩
theorem lw_p29 : lw_okq (⟨"IntentVatsModel", "isCloth", "(I)Z"⟩, 25) := ⟨⟨by decide +kernel, by decide +kernel⟩, List.mem_of_getElem? (i := 889) (by decide +kernel), List.mem_of_getElem? (i := 1035) (by decide +kernel), List.mem_of_getElem? (i := 1036) (by decide +kernel)⟩
theorem lw_p30 : lw_okq (⟨"IntentVatsModel", "its", "(II)I"⟩, 25) := ⟨⟨by decide +kernel, by decide +kernel⟩, List.mem_of_getElem? (i := 889) (by decide +kernel), List.mem_of_getElem? (i := 1040) (by decide +kernel), List.mem_of_getElem? (i := 1041) (by decide +kernel)⟩
theorem lw_p31 : lw_okq (⟨"IntentVatsModel", "takesOf", "(II)I"⟩, 25) := ⟨⟨by decide +kernel, by decide +kernel⟩, List.mem_of_getElem? (i := 889) (by decide +kernel), List.mem_of_getElem? (i := 1049) (by decide +kernel), List.mem_of_getElem? (i := 1050) (by decide +kernel)⟩
def lw_privs_2 : List (MethodName × Nat) := [(⟨"IntentVats$Forecast", "spoiltFromHere", "(LIntentVats$Mill;I)I"⟩, 1), (⟨"IntentVats$Forecast", "leadsTo", "(LIntentVats$Mill;IIII)Z"⟩, 1), (⟨"IntentVats$Forecast", "hangJust", "(LIntentVats$Mill;I)V"⟩, 1), (⟨"IntentVats$Forecast", "fitsAs", "(LIntentVats$Mill;IILIntentVats$SheetRow;)Z"⟩, 1), (⟨"IntentVats$Forecast", "rowPart", "(II)I"⟩, 1), (⟨"IntentVats$Acts", "own", "(III)I"⟩, 6), (⟨"IntentVats$Acts", "body", "(III)I"⟩, 6), (⟨"IntentVats$Acts", "note", "(I)V"⟩, 6), (⟨"IntentVats$Acts", "parted", "(II)I"⟩, 6), (⟨"IntentVatsModel", "anew", "()V"⟩, 25), (⟨"IntentVatsModel", "becomes", "(II)I"⟩, 25), (⟨"IntentVatsModel", "adds", "(I)V"⟩, 25), (⟨"IntentVatsModel", "sets", "(III)V"⟩, 25), (⟨"IntentVatsModel", "isCloth", "(I)Z"⟩, 25), (⟨"IntentVatsModel", "its", "(II)I"⟩, 25), (⟨"IntentVatsModel", "takesOf", "(II)I"⟩, 25)]
theorem lw_r2 : ∀ q ∈ lw_privs_2, lw_okq q := List.forall_mem_cons.mpr ⟨lw_p16, List.forall_mem_cons.mpr ⟨lw_p17, List.forall_mem_cons.mpr ⟨lw_p18, List.forall_mem_cons.mpr ⟨lw_p19, List.forall_mem_cons.mpr ⟨lw_p20, List.forall_mem_cons.mpr ⟨lw_p21, List.forall_mem_cons.mpr ⟨lw_p22, List.forall_mem_cons.mpr ⟨lw_p23, List.forall_mem_cons.mpr ⟨lw_p24, List.forall_mem_cons.mpr ⟨lw_p25, List.forall_mem_cons.mpr ⟨lw_p26, List.forall_mem_cons.mpr ⟨lw_p27, List.forall_mem_cons.mpr ⟨lw_p28, List.forall_mem_cons.mpr ⟨lw_p29, List.forall_mem_cons.mpr ⟨lw_p30, List.forall_mem_cons.mpr ⟨lw_p31, fun _ h => absurd h List.not_mem_nil⟩⟩⟩⟩⟩⟩⟩⟩⟩⟩⟩⟩⟩⟩⟩⟩
theorem lw_p32 : lw_okq (⟨"IntentVatsModel", "fightsOf", "(II)I"⟩, 25) := ⟨⟨by decide +kernel, by decide +kernel⟩, List.mem_of_getElem? (i := 889) (by decide +kernel), List.mem_of_getElem? (i := 1053) (by decide +kernel), List.mem_of_getElem? (i := 1054) (by decide +kernel)⟩
theorem lw_p33 : lw_okq (⟨"IntentVatsModel", "fadesOf", "(I)I"⟩, 25) := ⟨⟨by decide +kernel, by decide +kernel⟩, List.mem_of_getElem? (i := 889) (by decide +kernel), List.mem_of_getElem? (i := 1057) (by decide +kernel), List.mem_of_getElem? (i := 1058) (by decide +kernel)⟩
theorem lw_p34 : lw_okq (⟨"IntentVatsModel", "changed", "(III)I"⟩, 25) := ⟨⟨by decide +kernel, by decide +kernel⟩, List.mem_of_getElem? (i := 889) (by decide +kernel), List.mem_of_getElem? (i := 1065) (by decide +kernel), List.mem_of_getElem? (i := 1066) (by decide +kernel)⟩
theorem lw_p35 : lw_okq (⟨"IntentVatsModel", "dips", "(II)V"⟩, 25) := ⟨⟨by decide +kernel, by decide +kernel⟩, List.mem_of_getElem? (i := 889) (by decide +kernel), List.mem_of_getElem? (i := 1085) (by decide +kernel), List.mem_of_getElem? (i := 1086) (by decide +kernel)⟩
theorem lw_p36 : lw_okq (⟨"IntentVatsModel", "isDeep", "(II)V"⟩, 25) := ⟨⟨by decide +kernel, by decide +kernel⟩, List.mem_of_getElem? (i := 889) (by decide +kernel), List.mem_of_getElem? (i := 1089) (by decide +kernel), List.mem_of_getElem? (i := 1090) (by decide +kernel)⟩
theorem lw_p37 : lw_okq (⟨"IntentVatsModel", "goes", "(I)V"⟩, 25) := ⟨⟨by decide +kernel, by decide +kernel⟩, List.mem_of_getElem? (i := 889) (by decide +kernel), List.mem_of_getElem? (i := 1107) (by decide +kernel), List.mem_of_getElem? (i := 1108) (by decide +kernel)⟩
theorem lw_p38 : lw_okq (⟨"IntentVatsModel", "aDay", "()V"⟩, 25) := ⟨⟨by decide +kernel, by decide +kernel⟩, List.mem_of_getElem? (i := 889) (by decide +kernel), List.mem_of_getElem? (i := 1111) (by decide +kernel), List.mem_of_getElem? (i := 1112) (by decide +kernel)⟩
theorem lw_p39 : lw_okq (⟨"IntentVatsModel", "depths", "()I"⟩, 25) := ⟨⟨by decide +kernel, by decide +kernel⟩, List.mem_of_getElem? (i := 889) (by decide +kernel), List.mem_of_getElem? (i := 1115) (by decide +kernel), List.mem_of_getElem? (i := 1116) (by decide +kernel)⟩
theorem lw_p40 : lw_okq (⟨"IntentVatsModel", "byDraws", "()V"⟩, 25) := ⟨⟨by decide +kernel, by decide +kernel⟩, List.mem_of_getElem? (i := 889) (by decide +kernel), List.mem_of_getElem? (i := 1127) (by decide +kernel), List.mem_of_getElem? (i := 1128) (by decide +kernel)⟩
theorem lw_p41 : lw_okq (⟨"IntentVatsModel", "draw", "()I"⟩, 25) := ⟨⟨by decide +kernel, by decide +kernel⟩, List.mem_of_getElem? (i := 889) (by decide +kernel), List.mem_of_getElem? (i := 1131) (by decide +kernel), List.mem_of_getElem? (i := 1132) (by decide +kernel)⟩
theorem lw_p42 : lw_okq (⟨"IntentVatsModel", "lends", "()V"⟩, 25) := ⟨⟨by decide +kernel, by decide +kernel⟩, List.mem_of_getElem? (i := 889) (by decide +kernel), List.mem_of_getElem? (i := 1141) (by decide +kernel), List.mem_of_getElem? (i := 1142) (by decide +kernel)⟩
theorem lw_p43 : lw_okq (⟨"IntentVatsModel", "laysBack", "()V"⟩, 25) := ⟨⟨by decide +kernel, by decide +kernel⟩, List.mem_of_getElem? (i := 889) (by decide +kernel), List.mem_of_getElem? (i := 1148) (by decide +kernel), List.mem_of_getElem? (i := 1149) (by decide +kernel)⟩
theorem lw_p44 : lw_okq (⟨"IntentVatsModel", "hungSet", "()I"⟩, 25) := ⟨⟨by decide +kernel, by decide +kernel⟩, List.mem_of_getElem? (i := 889) (by decide +kernel), List.mem_of_getElem? (i := 1156) (by decide +kernel), List.mem_of_getElem? (i := 1157) (by decide +kernel)⟩
theorem lw_p45 : lw_okq (⟨"IntentVatsModel", "aboutSet", "()I"⟩, 25) := ⟨⟨by decide +kernel, by decide +kernel⟩, List.mem_of_getElem? (i := 889) (by decide +kernel), List.mem_of_getElem? (i := 1160) (by decide +kernel), List.mem_of_getElem? (i := 1161) (by decide +kernel)⟩
theorem lw_p46 : lw_okq (⟨"IntentVatsModel", "oddsAmong", "()I"⟩, 25) := ⟨⟨by decide +kernel, by decide +kernel⟩, List.mem_of_getElem? (i := 889) (by decide +kernel), List.mem_of_getElem? (i := 1164) (by decide +kernel), List.mem_of_getElem? (i := 1165) (by decide +kernel)⟩
theorem lw_p47 : lw_okq (⟨"IntentVatsModel", "isAtOdds", "(II)Z"⟩, 25) := ⟨⟨by decide +kernel, by decide +kernel⟩, List.mem_of_getElem? (i := 889) (by decide +kernel), List.mem_of_getElem? (i := 1168) (by decide +kernel), List.mem_of_getElem? (i := 1169) (by decide +kernel)⟩
def lw_privs_3 : List (MethodName × Nat) := [(⟨"IntentVatsModel", "fightsOf", "(II)I"⟩, 25), (⟨"IntentVatsModel", "fadesOf", "(I)I"⟩, 25), (⟨"IntentVatsModel", "changed", "(III)I"⟩, 25), (⟨"IntentVatsModel", "dips", "(II)V"⟩, 25), (⟨"IntentVatsModel", "isDeep", "(II)V"⟩, 25), (⟨"IntentVatsModel", "goes", "(I)V"⟩, 25), (⟨"IntentVatsModel", "aDay", "()V"⟩, 25), (⟨"IntentVatsModel", "depths", "()I"⟩, 25), (⟨"IntentVatsModel", "byDraws", "()V"⟩, 25), (⟨"IntentVatsModel", "draw", "()I"⟩, 25), (⟨"IntentVatsModel", "lends", "()V"⟩, 25), (⟨"IntentVatsModel", "laysBack", "()V"⟩, 25), (⟨"IntentVatsModel", "hungSet", "()I"⟩, 25), (⟨"IntentVatsModel", "aboutSet", "()I"⟩, 25), (⟨"IntentVatsModel", "oddsAmong", "()I"⟩, 25), (⟨"IntentVatsModel", "isAtOdds", "(II)Z"⟩, 25)]
theorem lw_r3 : ∀ q ∈ lw_privs_3, lw_okq q := List.forall_mem_cons.mpr ⟨lw_p32, List.forall_mem_cons.mpr ⟨lw_p33, List.forall_mem_cons.mpr ⟨lw_p34, List.forall_mem_cons.mpr ⟨lw_p35, List.forall_mem_cons.mpr ⟨lw_p36, List.forall_mem_cons.mpr ⟨lw_p37, List.forall_mem_cons.mpr ⟨lw_p38, List.forall_mem_cons.mpr ⟨lw_p39, List.forall_mem_cons.mpr ⟨lw_p40, List.forall_mem_cons.mpr ⟨lw_p41, List.forall_mem_cons.mpr ⟨lw_p42, List.forall_mem_cons.mpr ⟨lw_p43, List.forall_mem_cons.mpr ⟨lw_p44, List.forall_mem_cons.mpr ⟨lw_p45, List.forall_mem_cons.mpr ⟨lw_p46, List.forall_mem_cons.mpr ⟨lw_p47, fun _ h => absurd h List.not_mem_nil⟩⟩⟩⟩⟩⟩⟩⟩⟩⟩⟩⟩⟩⟩⟩⟩
theorem lw_p48 : lw_okq (⟨"IntentVatsModel", "behind", "(III)I"⟩, 25) := ⟨⟨by decide +kernel, by decide +kernel⟩, List.mem_of_getElem? (i := 889) (by decide +kernel), List.mem_of_getElem? (i := 1179) (by decide +kernel), List.mem_of_getElem? (i := 1180) (by decide +kernel)⟩
theorem lw_p49 : lw_okq (⟨"IntentVatsModel", "firstAbout", "(II)I"⟩, 25) := ⟨⟨by decide +kernel, by decide +kernel⟩, List.mem_of_getElem? (i := 889) (by decide +kernel), List.mem_of_getElem? (i := 1191) (by decide +kernel), List.mem_of_getElem? (i := 1192) (by decide +kernel)⟩
theorem lw_p50 : lw_okq (⟨"IntentVatsModel", "spoiltIn", "(I)I"⟩, 25) := ⟨⟨by decide +kernel, by decide +kernel⟩, List.mem_of_getElem? (i := 889) (by decide +kernel), List.mem_of_getElem? (i := 1203) (by decide +kernel), List.mem_of_getElem? (i := 1204) (by decide +kernel)⟩
theorem lw_p51 : lw_okq (⟨"IntentVatsModel", "isThrough", "(IIII)Z"⟩, 25) := ⟨⟨by decide +kernel, by decide +kernel⟩, List.mem_of_getElem? (i := 889) (by decide +kernel), List.mem_of_getElem? (i := 1211) (by decide +kernel), List.mem_of_getElem? (i := 1212) (by decide +kernel)⟩
theorem lw_p52 : lw_okq (⟨"IntentVatsModel", "hangs", "(I)V"⟩, 25) := ⟨⟨by decide +kernel, by decide +kernel⟩, List.mem_of_getElem? (i := 889) (by decide +kernel), List.mem_of_getElem? (i := 1239) (by decide +kernel), List.mem_of_getElem? (i := 1240) (by decide +kernel)⟩
theorem lw_p53 : lw_okq (⟨"IntentVatsModel", "isSo", "(III)Z"⟩, 25) := ⟨⟨by decide +kernel, by decide +kernel⟩, List.mem_of_getElem? (i := 889) (by decide +kernel), List.mem_of_getElem? (i := 1250) (by decide +kernel), List.mem_of_getElem? (i := 1251) (by decide +kernel)⟩
theorem lw_p54 : lw_okq (⟨"IntentVatsModel", "next", "()V"⟩, 25) := ⟨⟨by decide +kernel, by decide +kernel⟩, List.mem_of_getElem? (i := 889) (by decide +kernel), List.mem_of_getElem? (i := 1276) (by decide +kernel), List.mem_of_getElem? (i := 1277) (by decide +kernel)⟩
theorem lw_p55 : lw_okq (⟨"IntentVatsModel", "isByte", "(III)Z"⟩, 25) := ⟨⟨by decide +kernel, by decide +kernel⟩, List.mem_of_getElem? (i := 889) (by decide +kernel), List.mem_of_getElem? (i := 1280) (by decide +kernel), List.mem_of_getElem? (i := 1281) (by decide +kernel)⟩
theorem lw_p56 : lw_okq (⟨"IntentVatsModel", "item", "()V"⟩, 25) := ⟨⟨by decide +kernel, by decide +kernel⟩, List.mem_of_getElem? (i := 889) (by decide +kernel), List.mem_of_getElem? (i := 1284) (by decide +kernel), List.mem_of_getElem? (i := 1285) (by decide +kernel)⟩
theorem lw_p57 : lw_okq (⟨"IntentVatsModel", "kindHere", "()I"⟩, 25) := ⟨⟨by decide +kernel, by decide +kernel⟩, List.mem_of_getElem? (i := 889) (by decide +kernel), List.mem_of_getElem? (i := 1288) (by decide +kernel), List.mem_of_getElem? (i := 1289) (by decide +kernel)⟩
theorem lw_p58 : lw_okq (⟨"IntentVatsModel", "isWord", "(Ljava/lang/String;)Z"⟩, 25) := ⟨⟨by decide +kernel, by decide +kernel⟩, List.mem_of_getElem? (i := 889) (by decide +kernel), List.mem_of_getElem? (i := 1293) (by decide +kernel), List.mem_of_getElem? (i := 1294) (by decide +kernel)⟩
theorem lw_p59 : lw_okq (⟨"IntentVatsModel", "lawHere", "()I"⟩, 25) := ⟨⟨by decide +kernel, by decide +kernel⟩, List.mem_of_getElem? (i := 889) (by decide +kernel), List.mem_of_getElem? (i := 1304) (by decide +kernel), List.mem_of_getElem? (i := 1305) (by decide +kernel)⟩
theorem lw_p60 : lw_okq (⟨"IntentVatsModel", "clothTold", "(I)V"⟩, 25) := ⟨⟨by decide +kernel, by decide +kernel⟩, List.mem_of_getElem? (i := 889) (by decide +kernel), List.mem_of_getElem? (i := 1312) (by decide +kernel), List.mem_of_getElem? (i := 1313) (by decide +kernel)⟩
theorem lw_p61 : lw_okq (⟨"IntentVatsModel", "must", "(Z)V"⟩, 25) := ⟨⟨by decide +kernel, by decide +kernel⟩, List.mem_of_getElem? (i := 889) (by decide +kernel), List.mem_of_getElem? (i := 1316) (by decide +kernel), List.mem_of_getElem? (i := 1317) (by decide +kernel)⟩
theorem lw_p62 : lw_okq (⟨"IntentVatsModel", "takes", "(Ljava/lang/String;)Z"⟩, 25) := ⟨⟨by decide +kernel, by decide +kernel⟩, List.mem_of_getElem? (i := 889) (by decide +kernel), List.mem_of_getElem? (i := 1321) (by decide +kernel), List.mem_of_getElem? (i := 1322) (by decide +kernel)⟩
theorem lw_p63 : lw_okq (⟨"IntentVatsModel", "number", "(II)I"⟩, 25) := ⟨⟨by decide +kernel, by decide +kernel⟩, List.mem_of_getElem? (i := 889) (by decide +kernel), List.mem_of_getElem? (i := 1325) (by decide +kernel), List.mem_of_getElem? (i := 1326) (by decide +kernel)⟩
def lw_privs_4 : List (MethodName × Nat) := [(⟨"IntentVatsModel", "behind", "(III)I"⟩, 25), (⟨"IntentVatsModel", "firstAbout", "(II)I"⟩, 25), (⟨"IntentVatsModel", "spoiltIn", "(I)I"⟩, 25), (⟨"IntentVatsModel", "isThrough", "(IIII)Z"⟩, 25), (⟨"IntentVatsModel", "hangs", "(I)V"⟩, 25), (⟨"IntentVatsModel", "isSo", "(III)Z"⟩, 25), (⟨"IntentVatsModel", "next", "()V"⟩, 25), (⟨"IntentVatsModel", "isByte", "(III)Z"⟩, 25), (⟨"IntentVatsModel", "item", "()V"⟩, 25), (⟨"IntentVatsModel", "kindHere", "()I"⟩, 25), (⟨"IntentVatsModel", "isWord", "(Ljava/lang/String;)Z"⟩, 25), (⟨"IntentVatsModel", "lawHere", "()I"⟩, 25), (⟨"IntentVatsModel", "clothTold", "(I)V"⟩, 25), (⟨"IntentVatsModel", "must", "(Z)V"⟩, 25), (⟨"IntentVatsModel", "takes", "(Ljava/lang/String;)Z"⟩, 25), (⟨"IntentVatsModel", "number", "(II)I"⟩, 25)]
theorem lw_r4 : ∀ q ∈ lw_privs_4, lw_okq q := List.forall_mem_cons.mpr ⟨lw_p48, List.forall_mem_cons.mpr ⟨lw_p49, List.forall_mem_cons.mpr ⟨lw_p50, List.forall_mem_cons.mpr ⟨lw_p51, List.forall_mem_cons.mpr ⟨lw_p52, List.forall_mem_cons.mpr ⟨lw_p53, List.forall_mem_cons.mpr ⟨lw_p54, List.forall_mem_cons.mpr ⟨lw_p55, List.forall_mem_cons.mpr ⟨lw_p56, List.forall_mem_cons.mpr ⟨lw_p57, List.forall_mem_cons.mpr ⟨lw_p58, List.forall_mem_cons.mpr ⟨lw_p59, List.forall_mem_cons.mpr ⟨lw_p60, List.forall_mem_cons.mpr ⟨lw_p61, List.forall_mem_cons.mpr ⟨lw_p62, List.forall_mem_cons.mpr ⟨lw_p63, fun _ h => absurd h List.not_mem_nil⟩⟩⟩⟩⟩⟩⟩⟩⟩⟩⟩⟩⟩⟩⟩⟩
theorem lw_p64 : lw_okq (⟨"IntentVatsModel", "figures", "()I"⟩, 25) := ⟨⟨by decide +kernel, by decide +kernel⟩, List.mem_of_getElem? (i := 889) (by decide +kernel), List.mem_of_getElem? (i := 1329) (by decide +kernel), List.mem_of_getElem? (i := 1330) (by decide +kernel)⟩
theorem lw_p65 : lw_okq (⟨"IntentVatsModel", "twoTold", "(IILjava/lang/String;I)V"⟩, 25) := ⟨⟨by decide +kernel, by decide +kernel⟩, List.mem_of_getElem? (i := 889) (by decide +kernel), List.mem_of_getElem? (i := 1337) (by decide +kernel), List.mem_of_getElem? (i := 1338) (by decide +kernel)⟩
theorem lw_p66 : lw_okq (⟨"IntentVatsModel", "lawTold", "(I)V"⟩, 25) := ⟨⟨by decide +kernel, by decide +kernel⟩, List.mem_of_getElem? (i := 889) (by decide +kernel), List.mem_of_getElem? (i := 1344) (by decide +kernel), List.mem_of_getElem? (i := 1345) (by decide +kernel)⟩
theorem lw_p67 : lw_okq (⟨"IntentVatsModel", "isCell", "(II)Z"⟩, 25) := ⟨⟨by decide +kernel, by decide +kernel⟩, List.mem_of_getElem? (i := 889) (by decide +kernel), List.mem_of_getElem? (i := 1358) (by decide +kernel), List.mem_of_getElem? (i := 1359) (by decide +kernel)⟩
theorem lw_p68 : lw_okq (⟨"IntentVatsModel", "isRight", "(II)Z"⟩, 25) := ⟨⟨by decide +kernel, by decide +kernel⟩, List.mem_of_getElem? (i := 889) (by decide +kernel), List.mem_of_getElem? (i := 1370) (by decide +kernel), List.mem_of_getElem? (i := 1371) (by decide +kernel)⟩
theorem lw_p69 : lw_okq (⟨"IntentVatsModel", "isHeld", "(I)Z"⟩, 25) := ⟨⟨by decide +kernel, by decide +kernel⟩, List.mem_of_getElem? (i := 889) (by decide +kernel), List.mem_of_getElem? (i := 1402) (by decide +kernel), List.mem_of_getElem? (i := 1403) (by decide +kernel)⟩
theorem lw_p70 : lw_okq (⟨"IntentVatsModel", "rubs", "(I)I"⟩, 25) := ⟨⟨by decide +kernel, by decide +kernel⟩, List.mem_of_getElem? (i := 889) (by decide +kernel), List.mem_of_getElem? (i := 1413) (by decide +kernel), List.mem_of_getElem? (i := 1414) (by decide +kernel)⟩
theorem lw_p71 : lw_okq (⟨"IntentVatsModel", "linenRubs", "(I)I"⟩, 25) := ⟨⟨by decide +kernel, by decide +kernel⟩, List.mem_of_getElem? (i := 889) (by decide +kernel), List.mem_of_getElem? (i := 1417) (by decide +kernel), List.mem_of_getElem? (i := 1418) (by decide +kernel)⟩
theorem lw_p72 : lw_okq (⟨"IntentVatsModel", "runs", "(I)V"⟩, 25) := ⟨⟨by decide +kernel, by decide +kernel⟩, List.mem_of_getElem? (i := 889) (by decide +kernel), List.mem_of_getElem? (i := 1421) (by decide +kernel), List.mem_of_getElem? (i := 1422) (by decide +kernel)⟩
theorem lw_p73 : lw_okq (⟨"IntentVatsModel", "plainRubs", "(I)I"⟩, 25) := ⟨⟨by decide +kernel, by decide +kernel⟩, List.mem_of_getElem? (i := 889) (by decide +kernel), List.mem_of_getElem? (i := 1425) (by decide +kernel), List.mem_of_getElem? (i := 1426) (by decide +kernel)⟩
theorem lw_p74 : lw_okq (⟨"IntentVatsModel", "steepsAct", "(I)I"⟩, 25) := ⟨⟨by decide +kernel, by decide +kernel⟩, List.mem_of_getElem? (i := 889) (by decide +kernel), List.mem_of_getElem? (i := 1429) (by decide +kernel), List.mem_of_getElem? (i := 1430) (by decide +kernel)⟩
theorem lw_p75 : lw_okq (⟨"IntentVatsModel", "plainSteeps", "(I)I"⟩, 25) := ⟨⟨by decide +kernel, by decide +kernel⟩, List.mem_of_getElem? (i := 889) (by decide +kernel), List.mem_of_getElem? (i := 1433) (by decide +kernel), List.mem_of_getElem? (i := 1434) (by decide +kernel)⟩
theorem lw_p76 : lw_okq (⟨"IntentVatsModel", "parts", "(I)I"⟩, 25) := ⟨⟨by decide +kernel, by decide +kernel⟩, List.mem_of_getElem? (i := 889) (by decide +kernel), List.mem_of_getElem? (i := 1437) (by decide +kernel), List.mem_of_getElem? (i := 1438) (by decide +kernel)⟩
theorem lw_p77 : lw_okq (⟨"IntentVatsModel", "plainParts", "(I)I"⟩, 25) := ⟨⟨by decide +kernel, by decide +kernel⟩, List.mem_of_getElem? (i := 889) (by decide +kernel), List.mem_of_getElem? (i := 1441) (by decide +kernel), List.mem_of_getElem? (i := 1442) (by decide +kernel)⟩
theorem lw_p78 : lw_okq (⟨"IntentVatsModel", "driesAct", "(I)I"⟩, 25) := ⟨⟨by decide +kernel, by decide +kernel⟩, List.mem_of_getElem? (i := 889) (by decide +kernel), List.mem_of_getElem? (i := 1445) (by decide +kernel), List.mem_of_getElem? (i := 1446) (by decide +kernel)⟩
theorem lw_p79 : lw_okq (⟨"IntentVatsModel", "plainDries", "(I)I"⟩, 25) := ⟨⟨by decide +kernel, by decide +kernel⟩, List.mem_of_getElem? (i := 889) (by decide +kernel), List.mem_of_getElem? (i := 1449) (by decide +kernel), List.mem_of_getElem? (i := 1450) (by decide +kernel)⟩
def lw_privs_5 : List (MethodName × Nat) := [(⟨"IntentVatsModel", "figures", "()I"⟩, 25), (⟨"IntentVatsModel", "twoTold", "(IILjava/lang/String;I)V"⟩, 25), (⟨"IntentVatsModel", "lawTold", "(I)V"⟩, 25), (⟨"IntentVatsModel", "isCell", "(II)Z"⟩, 25), (⟨"IntentVatsModel", "isRight", "(II)Z"⟩, 25), (⟨"IntentVatsModel", "isHeld", "(I)Z"⟩, 25), (⟨"IntentVatsModel", "rubs", "(I)I"⟩, 25), (⟨"IntentVatsModel", "linenRubs", "(I)I"⟩, 25), (⟨"IntentVatsModel", "runs", "(I)V"⟩, 25), (⟨"IntentVatsModel", "plainRubs", "(I)I"⟩, 25), (⟨"IntentVatsModel", "steepsAct", "(I)I"⟩, 25), (⟨"IntentVatsModel", "plainSteeps", "(I)I"⟩, 25), (⟨"IntentVatsModel", "parts", "(I)I"⟩, 25), (⟨"IntentVatsModel", "plainParts", "(I)I"⟩, 25), (⟨"IntentVatsModel", "driesAct", "(I)I"⟩, 25), (⟨"IntentVatsModel", "plainDries", "(I)I"⟩, 25)]
theorem lw_r5 : ∀ q ∈ lw_privs_5, lw_okq q := List.forall_mem_cons.mpr ⟨lw_p64, List.forall_mem_cons.mpr ⟨lw_p65, List.forall_mem_cons.mpr ⟨lw_p66, List.forall_mem_cons.mpr ⟨lw_p67, List.forall_mem_cons.mpr ⟨lw_p68, List.forall_mem_cons.mpr ⟨lw_p69, List.forall_mem_cons.mpr ⟨lw_p70, List.forall_mem_cons.mpr ⟨lw_p71, List.forall_mem_cons.mpr ⟨lw_p72, List.forall_mem_cons.mpr ⟨lw_p73, List.forall_mem_cons.mpr ⟨lw_p74, List.forall_mem_cons.mpr ⟨lw_p75, List.forall_mem_cons.mpr ⟨lw_p76, List.forall_mem_cons.mpr ⟨lw_p77, List.forall_mem_cons.mpr ⟨lw_p78, List.forall_mem_cons.mpr ⟨lw_p79, fun _ h => absurd h List.not_mem_nil⟩⟩⟩⟩⟩⟩⟩⟩⟩⟩⟩⟩⟩⟩⟩⟩
theorem lw_p80 : lw_okq (⟨"IntentVatsModel", "purposesAbout", "()I"⟩, 25) := ⟨⟨by decide +kernel, by decide +kernel⟩, List.mem_of_getElem? (i := 889) (by decide +kernel), List.mem_of_getElem? (i := 1461) (by decide +kernel), List.mem_of_getElem? (i := 1462) (by decide +kernel)⟩
def lw_privs_6 : List (MethodName × Nat) := [(⟨"IntentVatsModel", "purposesAbout", "()I"⟩, 25)]
theorem lw_r6 : ∀ q ∈ lw_privs_6, lw_okq q := List.forall_mem_cons.mpr ⟨lw_p80, fun _ h => absurd h List.not_mem_nil⟩
def lw_privs : List (MethodName × Nat) := lw_privs_1 ++ (lw_privs_2 ++ (lw_privs_3 ++ (lw_privs_4 ++ (lw_privs_5 ++ (lw_privs_6)))))
def lw_tbl : List Cond := k2_sels lw_privs ++ tables_1
theorem lw_privs_ok : ∀ q ∈ lw_privs, lw_okq q := by
  show ∀ q ∈ lw_privs_1 ++ (lw_privs_2 ++ (lw_privs_3 ++ (lw_privs_4 ++ (lw_privs_5 ++ (lw_privs_6))))), lw_okq q
  exact List.forall_mem_append.mpr ⟨lw_r1, List.forall_mem_append.mpr ⟨lw_r2, List.forall_mem_append.mpr ⟨lw_r3, List.forall_mem_append.mpr ⟨lw_r4, List.forall_mem_append.mpr ⟨lw_r5, lw_r6⟩⟩⟩⟩⟩
theorem goodIn_r {big : List Cond} (ws : List Cond) (ps : List Nat) (hp : ws = ps.filterMap (fun i => big[i]?)) (h : ws.all goodWord = true) : GoodIn big ws := by
  intro w hw
  have h1 := List.all_eq_true.mp h w hw
  rw [hp] at hw
  obtain ⟨i, -, hi⟩ := List.mem_filterMap.mp hw
  have hm : w ∈ big := by first | exact List.mem_of_getElem? hi | exact List.getElem?_mem hi
  exact ⟨hm, good_of_word h1⟩
theorem goodIn_app {big a b : List Cond} (ha : GoodIn big a) (hb : GoodIn big b) : GoodIn big (a ++ b) := fun w h => (List.mem_append.mp h).elim (ha w) (hb w)
theorem goodIn_ca {big a b : List Cond} {c : Cond} (ha : GoodIn big (c :: a)) (hb : GoodIn big b) : GoodIn big (c :: (a ++ b)) := fun w h => (List.mem_cons.mp h).elim (fun e => ha w (List.mem_cons.mpr (Or.inl e))) (fun h => (List.mem_append.mp h).elim (fun h => ha w (List.mem_cons.mpr (Or.inr h))) (hb w))
theorem goodIn_sub {big ws : List Cond} (hm : ∀ w ∈ ws, w ∈ big) (h : ws.all goodWord = true) : GoodIn big ws := fun w hw => ⟨hm w hw, good_of_word (List.all_eq_true.mp h w hw)⟩

def RX0 : String := "IntentVats$Acts"
def TX0 : u_T := fun k => match k with
  | 0 => ("IntentVats$Acts", "bodies", "[I", true)
  | 1 => ("IntentVats$Acts", "traced", "I", false)
  | 2 => ("IntentVats$Acts", "kind", "I", false)
  | 3 => ("IntentVats$Acts", "n", "I", false)
  | 4 => ("IntentVats$Acts", "a", "I", false)
  | _ => ("IntentVats$Acts", "broken", "Z", false)
def tyX0 : Nat → FieldType := fun k => match k with
  | 0 => .array .int
  | 1 => .int
  | 2 => .int
  | 3 => .int
  | 4 => .int
  | _ => .boolean
abbrev wsX00 : List Cond := u_ws RX0 TX0 6
theorem nmX0 : ∀ a, a < 6 → ∀ b, b < 6 → a ≠ b → (TX0 a).2.1 ≠ (TX0 b).2.1 := by decide +kernel
theorem tyX0_ok : ∀ k, k < 6 → parseFieldDescriptor (TX0 k).2.2.1 = some (tyX0 k) := by decide +kernel
abbrev cX0_init : ByteArray := prog_2_method_1_code
def yX0_init : MethodName := ⟨RX0, "<init>", "()V"⟩
abbrev cX0_forget : ByteArray := prog_2_method_2_code
def yX0_forget : MethodName := ⟨RX0, "forget", "()V"⟩
abbrev cX0_hold : ByteArray := prog_2_method_3_code
def yX0_hold : MethodName := ⟨RX0, "hold", "(III)V"⟩
abbrev cX0_perform : ByteArray := prog_2_method_4_code
def yX0_perform : MethodName := ⟨RX0, "perform", "(II)I"⟩
abbrev cX0_own : ByteArray := prog_2_method_5_code
def yX0_own : MethodName := ⟨RX0, "own", "(III)I"⟩
abbrev cX0_body : ByteArray := prog_2_method_6_code
def yX0_body : MethodName := ⟨RX0, "body", "(III)I"⟩
abbrev cX0_parted : ByteArray := prog_2_method_7_code
def yX0_parted : MethodName := ⟨RX0, "parted", "(II)I"⟩
abbrev cX0_note : ByteArray := prog_2_method_8_code
def yX0_note : MethodName := ⟨RX0, "note", "(I)V"⟩
def RX1 : String := "IntentVats$Chances"
def TX1 : u_T := fun k => match k with
  | _ => ("", "", "", false)
def tyX1 : Nat → FieldType := fun k => match k with
  | _ => .int
abbrev wsX10 : List Cond := u_ws RX1 TX1 0
theorem nmX1 : ∀ a, a < 0 → ∀ b, b < 0 → a ≠ b → (TX1 a).2.1 ≠ (TX1 b).2.1 := by decide +kernel
theorem tyX1_ok : ∀ k, k < 0 → parseFieldDescriptor (TX1 k).2.2.1 = some (tyX1 k) := by decide +kernel
abbrev cX1_justSlip : ByteArray := prog_3_method_2_code
def yX1_justSlip : MethodName := ⟨RX1, "justSlip", "(IIII)J"⟩
abbrev cX1_choices : ByteArray := prog_3_method_3_code
def yX1_choices : MethodName := ⟨RX1, "choices", "(II)J"⟩
abbrev cX1_partOf : ByteArray := prog_3_method_4_code
def yX1_partOf : MethodName := ⟨RX1, "partOf", "(JJI)J"⟩
abbrev cX1_commonDivisor : ByteArray := prog_3_method_5_code
def yX1_commonDivisor : MethodName := ⟨RX1, "commonDivisor", "(JJ)J"⟩
def RX2 : String := "IntentVats$Forecast"
def TX2 : u_T := fun k => match k with
  | _ => ("IntentVats$Forecast", "tried", "LIntentVats$Mill;", true)
def tyX2 : Nat → FieldType := fun k => match k with
  | _ => .object "IntentVats$Mill"
abbrev wsX20 : List Cond := u_ws RX2 TX2 1
theorem nmX2 : ∀ a, a < 1 → ∀ b, b < 1 → a ≠ b → (TX2 a).2.1 ≠ (TX2 b).2.1 := by decide +kernel
theorem tyX2_ok : ∀ k, k < 1 → parseFieldDescriptor (TX2 k).2.2.1 = some (tyX2 k) := by decide +kernel
abbrev cX2_init : ByteArray := prog_4_method_1_code
def yX2_init : MethodName := ⟨RX2, "<init>", "()V"⟩
abbrev cX2_behind : ByteArray := prog_4_method_2_code
def yX2_behind : MethodName := ⟨RX2, "behind", "(LIntentVats$Mill;I)LIntentVats$Mill;"⟩
abbrev cX2_luckyDays : ByteArray := prog_4_method_3_code
def yX2_luckyDays : MethodName := ⟨RX2, "luckyDays", "(LIntentVats$Mill;I)I"⟩
abbrev cX2_daysUntilAbout : ByteArray := prog_4_method_4_code
def yX2_daysUntilAbout : MethodName := ⟨RX2, "daysUntilAbout", "(LIntentVats$Mill;II)I"⟩
abbrev cX2_spoiltBehind : ByteArray := prog_4_method_5_code
def yX2_spoiltBehind : MethodName := ⟨RX2, "spoiltBehind", "(LIntentVats$Mill;I)I"⟩
abbrev cX2_spoiltFromHere : ByteArray := prog_4_method_6_code
def yX2_spoiltFromHere : MethodName := ⟨RX2, "spoiltFromHere", "(LIntentVats$Mill;I)I"⟩
abbrev cX2_vatsThrough : ByteArray := prog_4_method_7_code
def yX2_vatsThrough : MethodName := ⟨RX2, "vatsThrough", "(LIntentVats$Mill;II)I"⟩
abbrev cX2_leadsTo : ByteArray := prog_4_method_8_code
def yX2_leadsTo : MethodName := ⟨RX2, "leadsTo", "(LIntentVats$Mill;IIII)Z"⟩
abbrev cX2_deepestVat : ByteArray := prog_4_method_9_code
def yX2_deepestVat : MethodName := ⟨RX2, "deepestVat", "(LIntentVats$Mill;II)I"⟩
abbrev cX2_deepestKind : ByteArray := prog_4_method_10_code
def yX2_deepestKind : MethodName := ⟨RX2, "deepestKind", "(LIntentVats$Mill;II)I"⟩
abbrev cX2_leastStrength : ByteArray := prog_4_method_11_code
def yX2_leastStrength : MethodName := ⟨RX2, "leastStrength", "(LIntentVats$Mill;IIII)I"⟩
abbrev cX2_fewestHung : ByteArray := prog_4_method_12_code
def yX2_fewestHung : MethodName := ⟨RX2, "fewestHung", "(LIntentVats$Mill;II)I"⟩
abbrev cX2_hangJust : ByteArray := prog_4_method_13_code
def yX2_hangJust : MethodName := ⟨RX2, "hangJust", "(LIntentVats$Mill;I)V"⟩
abbrev cX2_manyFitting : ByteArray := prog_4_method_14_code
def yX2_manyFitting : MethodName := ⟨RX2, "manyFitting", "(LIntentVats$Mill;ILIntentVats$SheetRow;)I"⟩
abbrev cX2_leastFitting : ByteArray := prog_4_method_15_code
def yX2_leastFitting : MethodName := ⟨RX2, "leastFitting", "(LIntentVats$Mill;ILIntentVats$SheetRow;)I"⟩
abbrev cX2_fitsAs : ByteArray := prog_4_method_16_code
def yX2_fitsAs : MethodName := ⟨RX2, "fitsAs", "(LIntentVats$Mill;IILIntentVats$SheetRow;)Z"⟩
abbrev cX2_writeRows : ByteArray := prog_4_method_17_code
def yX2_writeRows : MethodName := ⟨RX2, "writeRows", "(LIntentVats$Mill;IILIntentVats$Rows;)V"⟩
abbrev cX2_firstWrongRow : ByteArray := prog_4_method_18_code
def yX2_firstWrongRow : MethodName := ⟨RX2, "firstWrongRow", "(LIntentVats$Mill;ILIntentVats$Rows;)I"⟩
abbrev cX2_rowPart : ByteArray := prog_4_method_19_code
def yX2_rowPart : MethodName := ⟨RX2, "rowPart", "(II)I"⟩
def RX3 : String := "IntentVats$Mill"
def TX3 : u_T := fun k => match k with
  | 0 => ("IntentVats$Mill", "laws", "[I", true)
  | 1 => ("IntentVats$Mill", "purposes", "[I", true)
  | 2 => ("IntentVats$Mill", "strengths", "[I", true)
  | 3 => ("IntentVats$Mill", "roster", "[I", true)
  | 4 => ("IntentVats$Mill", "kinds", "[I", true)
  | 5 => ("IntentVats$Mill", "abouts", "[I", true)
  | 6 => ("IntentVats$Mill", "deeps", "[I", true)
  | 7 => ("IntentVats$Mill", "hungs", "[I", true)
  | 8 => ("IntentVats$Mill", "dips", "[I", true)
  | 9 => ("IntentVats$Mill", "count", "I", false)
  | 10 => ("IntentVats$Mill", "day", "I", false)
  | _ => ("IntentVats$Mill", "z", "I", false)
def tyX3 : Nat → FieldType := fun k => match k with
  | 0 => .array .int
  | 1 => .array .int
  | 2 => .array .int
  | 3 => .array .int
  | 4 => .array .int
  | 5 => .array .int
  | 6 => .array .int
  | 7 => .array .int
  | 8 => .array .int
  | 9 => .int
  | 10 => .int
  | _ => .int
abbrev wsX30 : List Cond := u_ws RX3 TX3 12
theorem nmX3 : ∀ a, a < 12 → ∀ b, b < 12 → a ≠ b → (TX3 a).2.1 ≠ (TX3 b).2.1 := by decide +kernel
theorem tyX3_ok : ∀ k, k < 12 → parseFieldDescriptor (TX3 k).2.2.1 = some (tyX3 k) := by decide +kernel
abbrev cX3_init : ByteArray := prog_5_method_1_code
def yX3_init : MethodName := ⟨RX3, "<init>", "()V"⟩
abbrev cX3_becomeFirst : ByteArray := prog_5_method_2_code
def yX3_becomeFirst : MethodName := ⟨RX3, "becomeFirst", "()V"⟩
abbrev cX3_copyFrom : ByteArray := prog_5_method_3_code
def yX3_copyFrom : MethodName := ⟨RX3, "copyFrom", "(LIntentVats$Mill;)V"⟩
abbrev cX3_has : ByteArray := prog_5_method_4_code
def yX3_has : MethodName := ⟨RX3, "has", "(I)Z"⟩
abbrev cX3_addCloth : ByteArray := prog_5_method_5_code
def yX3_addCloth : MethodName := ⟨RX3, "addCloth", "(I)I"⟩
abbrev cX3_takes : ByteArray := prog_5_method_6_code
def yX3_takes : MethodName := ⟨RX3, "takes", "(II)I"⟩
abbrev cX3_fights : ByteArray := prog_5_method_7_code
def yX3_fights : MethodName := ⟨RX3, "fights", "(II)I"⟩
abbrev cX3_fades : ByteArray := prog_5_method_8_code
def yX3_fades : MethodName := ⟨RX3, "fades", "(I)I"⟩
abbrev cX3_dipInto : ByteArray := prog_5_method_9_code
def yX3_dipInto : MethodName := ⟨RX3, "dipInto", "(II)V"⟩
abbrev cX3_settle : ByteArray := prog_5_method_10_code
def yX3_settle : MethodName := ⟨RX3, "settle", "(II)V"⟩
abbrev cX3_deepen : ByteArray := prog_5_method_11_code
def yX3_deepen : MethodName := ⟨RX3, "deepen", "(II)V"⟩
abbrev cX3_vatOfToday : ByteArray := prog_5_method_12_code
def yX3_vatOfToday : MethodName := ⟨RX3, "vatOfToday", "()I"⟩
abbrev cX3_passDays : ByteArray := prog_5_method_13_code
def yX3_passDays : MethodName := ⟨RX3, "passDays", "(I)V"⟩
abbrev cX3_passDay : ByteArray := prog_5_method_14_code
def yX3_passDay : MethodName := ⟨RX3, "passDay", "()V"⟩
abbrev cX3_draw : ByteArray := prog_5_method_15_code
def yX3_draw : MethodName := ⟨RX3, "draw", "()I"⟩
abbrev cX3_passDrawnDay : ByteArray := prog_5_method_16_code
def yX3_passDrawnDay : MethodName := ⟨RX3, "passDrawnDay", "()V"⟩
abbrev cX3_allDepths : ByteArray := prog_5_method_17_code
def yX3_allDepths : MethodName := ⟨RX3, "allDepths", "()I"⟩
abbrev cX3_hungSet : ByteArray := prog_5_method_18_code
def yX3_hungSet : MethodName := ⟨RX3, "hungSet", "()I"⟩
abbrev cX3_aboutSet : ByteArray := prog_5_method_19_code
def yX3_aboutSet : MethodName := ⟨RX3, "aboutSet", "()I"⟩
abbrev cX3_purposeSet : ByteArray := prog_5_method_20_code
def yX3_purposeSet : MethodName := ⟨RX3, "purposeSet", "()I"⟩
abbrev cX3_oddPairs : ByteArray := prog_5_method_21_code
def yX3_oddPairs : MethodName := ⟨RX3, "oddPairs", "()I"⟩
abbrev cX3_isForOdds : ByteArray := prog_5_method_22_code
def yX3_isForOdds : MethodName := ⟨RX3, "isForOdds", "(I)Z"⟩
def RX4 : String := "IntentVats$Rows"
def TX4 : u_T := fun k => match k with
  | 0 => ("IntentVats$Rows", "parts", "[I", true)
  | _ => ("IntentVats$Rows", "count", "I", false)
def tyX4 : Nat → FieldType := fun k => match k with
  | 0 => .array .int
  | _ => .int
abbrev wsX40 : List Cond := u_ws RX4 TX4 2
theorem nmX4 : ∀ a, a < 2 → ∀ b, b < 2 → a ≠ b → (TX4 a).2.1 ≠ (TX4 b).2.1 := by decide +kernel
theorem tyX4_ok : ∀ k, k < 2 → parseFieldDescriptor (TX4 k).2.2.1 = some (tyX4 k) := by decide +kernel
abbrev cX4_init : ByteArray := prog_6_method_1_code
def yX4_init : MethodName := ⟨RX4, "<init>", "()V"⟩
abbrev cX4_has : ByteArray := prog_6_method_2_code
def yX4_has : MethodName := ⟨RX4, "has", "(II)Z"⟩
abbrev cX4_read : ByteArray := prog_6_method_3_code
def yX4_read : MethodName := ⟨RX4, "read", "(II)I"⟩
abbrev cX4_write : ByteArray := prog_6_method_4_code
def yX4_write : MethodName := ⟨RX4, "write", "(III)V"⟩
def RX5 : String := "IntentVats$SheetRow"
def TX5 : u_T := fun k => match k with
  | 0 => ("IntentVats$SheetRow", "sort", "I", true)
  | _ => ("IntentVats$SheetRow", "items", "[I", true)
def tyX5 : Nat → FieldType := fun k => match k with
  | 0 => .int
  | _ => .array .int
abbrev wsX50 : List Cond := u_ws RX5 TX5 2
theorem nmX5 : ∀ a, a < 2 → ∀ b, b < 2 → a ≠ b → (TX5 a).2.1 ≠ (TX5 b).2.1 := by decide +kernel
theorem tyX5_ok : ∀ k, k < 2 → parseFieldDescriptor (TX5 k).2.2.1 = some (tyX5 k) := by decide +kernel
abbrev cX5_init : ByteArray := prog_7_method_1_code
def yX5_init : MethodName := ⟨RX5, "<init>", "(II)V"⟩
abbrev cX5_size : ByteArray := prog_7_method_2_code
def yX5_size : MethodName := ⟨RX5, "size", "()I"⟩
abbrev cX5_has : ByteArray := prog_7_method_3_code
def yX5_has : MethodName := ⟨RX5, "has", "(I)Z"⟩
abbrev cX5_read : ByteArray := prog_7_method_4_code
def yX5_read : MethodName := ⟨RX5, "read", "(I)I"⟩
abbrev cX5_write : ByteArray := prog_7_method_5_code
def yX5_write : MethodName := ⟨RX5, "write", "(II)V"⟩
def RX6 : String := "IntentVats$Shelves"
def TX6 : u_T := fun k => match k with
  | 0 => ("IntentVats$Shelves", "cloths", "[I", true)
  | _ => ("IntentVats$Shelves", "held", "[LIntentVats$SheetRow;", true)
def tyX6 : Nat → FieldType := fun k => match k with
  | 0 => .array .int
  | _ => .array (.object "IntentVats$SheetRow")
abbrev wsX60 : List Cond := u_ws RX6 TX6 2
theorem nmX6 : ∀ a, a < 2 → ∀ b, b < 2 → a ≠ b → (TX6 a).2.1 ≠ (TX6 b).2.1 := by decide +kernel
theorem tyX6_ok : ∀ k, k < 2 → parseFieldDescriptor (TX6 k).2.2.1 = some (tyX6 k) := by decide +kernel
abbrev cX6_init : ByteArray := prog_8_method_1_code
def yX6_init : MethodName := ⟨RX6, "<init>", "()V"⟩
abbrev cX6_holdCloth : ByteArray := prog_8_method_2_code
def yX6_holdCloth : MethodName := ⟨RX6, "holdCloth", "(II)V"⟩
abbrev cX6_holdRow : ByteArray := prog_8_method_3_code
def yX6_holdRow : MethodName := ⟨RX6, "holdRow", "(ILIntentVats$SheetRow;)V"⟩
abbrev cX6_clothOn : ByteArray := prog_8_method_4_code
def yX6_clothOn : MethodName := ⟨RX6, "clothOn", "(I)I"⟩
abbrev cX6_rowOn : ByteArray := prog_8_method_5_code
def yX6_rowOn : MethodName := ⟨RX6, "rowOn", "(I)LIntentVats$SheetRow;"⟩
def RX7 : String := "IntentVats$Tape"
def TX7 : u_T := fun k => match k with
  | 0 => ("IntentVats$Tape", "bytes", "[I", true)
  | 1 => ("IntentVats$Tape", "length", "I", false)
  | 2 => ("IntentVats$Tape", "at", "I", false)
  | 3 => ("IntentVats$Tape", "start", "I", false)
  | 4 => ("IntentVats$Tape", "sort", "I", false)
  | _ => ("IntentVats$Tape", "number", "I", false)
def tyX7 : Nat → FieldType := fun k => match k with
  | 0 => .array .int
  | 1 => .int
  | 2 => .int
  | 3 => .int
  | 4 => .int
  | _ => .int
abbrev wsX70 : List Cond := u_ws RX7 TX7 6
theorem nmX7 : ∀ a, a < 6 → ∀ b, b < 6 → a ≠ b → (TX7 a).2.1 ≠ (TX7 b).2.1 := by decide +kernel
theorem tyX7_ok : ∀ k, k < 6 → parseFieldDescriptor (TX7 k).2.2.1 = some (tyX7 k) := by decide +kernel
abbrev cX7_init : ByteArray := prog_9_method_1_code
def yX7_init : MethodName := ⟨RX7, "<init>", "()V"⟩
abbrev cX7_room : ByteArray := prog_9_method_2_code
def yX7_room : MethodName := ⟨RX7, "room", "()I"⟩
abbrev cX7_take : ByteArray := prog_9_method_3_code
def yX7_take : MethodName := ⟨RX7, "take", "(JI)V"⟩
abbrev cX7_useUp : ByteArray := prog_9_method_4_code
def yX7_useUp : MethodName := ⟨RX7, "useUp", "()V"⟩
abbrev cX7_readInto : ByteArray := prog_9_method_5_code
def yX7_readInto : MethodName := ⟨RX7, "readInto", "(LIntentVats$Mill;)I"⟩
abbrev cX7_readStatement : ByteArray := prog_9_method_6_code
def yX7_readStatement : MethodName := ⟨RX7, "readStatement", "(LIntentVats$Mill;)Z"⟩
abbrev cX7_readCloth : ByteArray := prog_9_method_7_code
def yX7_readCloth : MethodName := ⟨RX7, "readCloth", "(LIntentVats$Mill;I)Z"⟩
abbrev cX7_readVat : ByteArray := prog_9_method_8_code
def yX7_readVat : MethodName := ⟨RX7, "readVat", "(LIntentVats$Mill;)Z"⟩
abbrev cX7_readStrong : ByteArray := prog_9_method_9_code
def yX7_readStrong : MethodName := ⟨RX7, "readStrong", "(LIntentVats$Mill;)Z"⟩
abbrev cX7_readDay : ByteArray := prog_9_method_10_code
def yX7_readDay : MethodName := ⟨RX7, "readDay", "(LIntentVats$Mill;)Z"⟩
abbrev cX7_readLaw : ByteArray := prog_9_method_11_code
def yX7_readLaw : MethodName := ⟨RX7, "readLaw", "(LIntentVats$Mill;I)Z"⟩
abbrev cX7_readNumber : ByteArray := prog_9_method_12_code
def yX7_readNumber : MethodName := ⟨RX7, "readNumber", "(II)Z"⟩
abbrev cX7_readName : ByteArray := prog_9_method_13_code
def yX7_readName : MethodName := ⟨RX7, "readName", "(Ljava/lang/String;)Z"⟩
abbrev cX7_readStop : ByteArray := prog_9_method_14_code
def yX7_readStop : MethodName := ⟨RX7, "readStop", "()Z"⟩
abbrev cX7_isStop : ByteArray := prog_9_method_15_code
def yX7_isStop : MethodName := ⟨RX7, "isStop", "()Z"⟩
abbrev cX7_kindNamed : ByteArray := prog_9_method_16_code
def yX7_kindNamed : MethodName := ⟨RX7, "kindNamed", "()I"⟩
abbrev cX7_lawNamed : ByteArray := prog_9_method_17_code
def yX7_lawNamed : MethodName := ⟨RX7, "lawNamed", "()I"⟩
abbrev cX7_isName : ByteArray := prog_9_method_18_code
def yX7_isName : MethodName := ⟨RX7, "isName", "(Ljava/lang/String;)Z"⟩
abbrev cX7_readWord : ByteArray := prog_9_method_19_code
def yX7_readWord : MethodName := ⟨RX7, "readWord", "()V"⟩
abbrev cX7_readDigits : ByteArray := prog_9_method_20_code
def yX7_readDigits : MethodName := ⟨RX7, "readDigits", "()V"⟩
def RX8 : String := "IntentVats"
def TX8 : u_T := fun k => match k with
  | 0 => ("IntentVats", "now", "LIntentVats$Mill;", true)
  | 1 => ("IntentVats", "told", "LIntentVats$Mill;", true)
  | 2 => ("IntentVats", "kept", "LIntentVats$Mill;", true)
  | 3 => ("IntentVats", "isKept", "Z", false)
  | 4 => ("IntentVats", "forecast", "LIntentVats$Forecast;", true)
  | 5 => ("IntentVats", "tape", "LIntentVats$Tape;", true)
  | 6 => ("IntentVats", "rows", "LIntentVats$Rows;", true)
  | 7 => ("IntentVats", "sheets", "[LIntentVats$SheetRow;", true)
  | 8 => ("IntentVats", "shelves", "LIntentVats$Shelves;", true)
  | _ => ("IntentVats", "acts", "LIntentVats$Acts;", true)
def tyX8 : Nat → FieldType := fun k => match k with
  | 0 => .object "IntentVats$Mill"
  | 1 => .object "IntentVats$Mill"
  | 2 => .object "IntentVats$Mill"
  | 3 => .boolean
  | 4 => .object "IntentVats$Forecast"
  | 5 => .object "IntentVats$Tape"
  | 6 => .object "IntentVats$Rows"
  | 7 => .array (.object "IntentVats$SheetRow")
  | 8 => .object "IntentVats$Shelves"
  | _ => .object "IntentVats$Acts"
abbrev wsX80 : List Cond := u_ws RX8 TX8 10
theorem nmX8 : ∀ a, a < 10 → ∀ b, b < 10 → a ≠ b → (TX8 a).2.1 ≠ (TX8 b).2.1 := by decide +kernel
theorem tyX8_ok : ∀ k, k < 10 → parseFieldDescriptor (TX8 k).2.2.1 = some (tyX8 k) := by decide +kernel
abbrev cX8_init : ByteArray := prog_1_method_1_code
def yX8_init : MethodName := ⟨RX8, "<init>", "()V"⟩
abbrev cX8_feed : ByteArray := prog_1_method_2_code
def yX8_feed : MethodName := ⟨RX8, "feed", "(JI)I"⟩
abbrev cX8_mill : ByteArray := prog_1_method_3_code
def yX8_mill : MethodName := ⟨RX8, "mill", "()I"⟩
abbrev cX8_set : ByteArray := prog_1_method_4_code
def yX8_set : MethodName := ⟨RX8, "set", "(II)I"⟩
abbrev cX8_lawOf : ByteArray := prog_1_method_5_code
def yX8_lawOf : MethodName := ⟨RX8, "lawOf", "(I)I"⟩
abbrev cX8_fill : ByteArray := prog_1_method_6_code
def yX8_fill : MethodName := ⟨RX8, "fill", "(III)I"⟩
abbrev cX8_vatOf : ByteArray := prog_1_method_7_code
def yX8_vatOf : MethodName := ⟨RX8, "vatOf", "(II)I"⟩
abbrev cX8_roster : ByteArray := prog_1_method_8_code
def yX8_roster : MethodName := ⟨RX8, "roster", "(II)I"⟩
abbrev cX8_rosterOf : ByteArray := prog_1_method_9_code
def yX8_rosterOf : MethodName := ⟨RX8, "rosterOf", "(I)I"⟩
abbrev cX8_cloth : ByteArray := prog_1_method_10_code
def yX8_cloth : MethodName := ⟨RX8, "cloth", "(I)I"⟩
abbrev cX8_of : ByteArray := prog_1_method_11_code
def yX8_of : MethodName := ⟨RX8, "of", "(II)I"⟩
abbrev cX8_does : ByteArray := prog_1_method_12_code
def yX8_does : MethodName := ⟨RX8, "does", "(III)I"⟩
abbrev cX8_mind : ByteArray := prog_1_method_13_code
def yX8_mind : MethodName := ⟨RX8, "mind", "(II)I"⟩
abbrev cX8_steep : ByteArray := prog_1_method_14_code
def yX8_steep : MethodName := ⟨RX8, "steep", "(III)I"⟩
abbrev cX8_hang : ByteArray := prog_1_method_15_code
def yX8_hang : MethodName := ⟨RX8, "hang", "(II)I"⟩
abbrev cX8_dip : ByteArray := prog_1_method_16_code
def yX8_dip : MethodName := ⟨RX8, "dip", "(II)I"⟩
abbrev cX8_days : ByteArray := prog_1_method_17_code
def yX8_days : MethodName := ⟨RX8, "days", "(I)I"⟩
abbrev cX8_seed : ByteArray := prog_1_method_18_code
def yX8_seed : MethodName := ⟨RX8, "seed", "(I)I"⟩
abbrev cX8_day : ByteArray := prog_1_method_19_code
def yX8_day : MethodName := ⟨RX8, "day", "()I"⟩
abbrev cX8_luck : ByteArray := prog_1_method_20_code
def yX8_luck : MethodName := ⟨RX8, "luck", "(I)I"⟩
abbrev cX8_state : ByteArray := prog_1_method_21_code
def yX8_state : MethodName := ⟨RX8, "state", "(I)I"⟩
abbrev cX8_gone : ByteArray := prog_1_method_22_code
def yX8_gone : MethodName := ⟨RX8, "gone", "(II)I"⟩
abbrev cX8_depth : ByteArray := prog_1_method_23_code
def yX8_depth : MethodName := ⟨RX8, "depth", "(II)I"⟩
abbrev cX8_comes : ByteArray := prog_1_method_24_code
def yX8_comes : MethodName := ⟨RX8, "comes", "(II)I"⟩
abbrev cX8_bare : ByteArray := prog_1_method_25_code
def yX8_bare : MethodName := ⟨RX8, "bare", "(I)I"⟩
abbrev cX8_spoilt : ByteArray := prog_1_method_26_code
def yX8_spoilt : MethodName := ⟨RX8, "spoilt", "(I)I"⟩
abbrev cX8_through : ByteArray := prog_1_method_27_code
def yX8_through : MethodName := ⟨RX8, "through", "(II)I"⟩
abbrev cX8_vatFor : ByteArray := prog_1_method_28_code
def yX8_vatFor : MethodName := ⟨RX8, "vatFor", "(II)I"⟩
abbrev cX8_kindFor : ByteArray := prog_1_method_29_code
def yX8_kindFor : MethodName := ⟨RX8, "kindFor", "(II)I"⟩
abbrev cX8_strengthFor : ByteArray := prog_1_method_30_code
def yX8_strengthFor : MethodName := ⟨RX8, "strengthFor", "(IIII)I"⟩
abbrev cX8_hangFor : ByteArray := prog_1_method_31_code
def yX8_hangFor : MethodName := ⟨RX8, "hangFor", "(II)I"⟩
abbrev cX8_fits : ByteArray := prog_1_method_32_code
def yX8_fits : MethodName := ⟨RX8, "fits", "(III)I"⟩
abbrev cX8_odds : ByteArray := prog_1_method_33_code
def yX8_odds : MethodName := ⟨RX8, "odds", "(III)J"⟩
abbrev cX8_hope : ByteArray := prog_1_method_34_code
def yX8_hope : MethodName := ⟨RX8, "hope", "(II)J"⟩
abbrev cX8_prove : ByteArray := prog_1_method_35_code
def yX8_prove : MethodName := ⟨RX8, "prove", "(II)I"⟩
abbrev cX8_row : ByteArray := prog_1_method_36_code
def yX8_row : MethodName := ⟨RX8, "row", "(II)I"⟩
abbrev cX8_alterRow : ByteArray := prog_1_method_37_code
def yX8_alterRow : MethodName := ⟨RX8, "alterRow", "(III)I"⟩
abbrev cX8_judge : ByteArray := prog_1_method_38_code
def yX8_judge : MethodName := ⟨RX8, "judge", "(I)I"⟩
abbrev cX8_minds : ByteArray := prog_1_method_39_code
def yX8_minds : MethodName := ⟨RX8, "minds", "(IIII)I"⟩
abbrev cX8_sheet : ByteArray := prog_1_method_40_code
def yX8_sheet : MethodName := ⟨RX8, "sheet", "(III)I"⟩
abbrev cX8_put : ByteArray := prog_1_method_41_code
def yX8_put : MethodName := ⟨RX8, "put", "(III)I"⟩
abbrev cX8_item : ByteArray := prog_1_method_42_code
def yX8_item : MethodName := ⟨RX8, "item", "(III)I"⟩
abbrev cX8_shelf : ByteArray := prog_1_method_43_code
def yX8_shelf : MethodName := ⟨RX8, "shelf", "(III)I"⟩
abbrev cX8_taken : ByteArray := prog_1_method_44_code
def yX8_taken : MethodName := ⟨RX8, "taken", "(II)I"⟩
abbrev cX8_act : ByteArray := prog_1_method_45_code
def yX8_act : MethodName := ⟨RX8, "act", "(III)I"⟩
abbrev cX8_trace : ByteArray := prog_1_method_46_code
def yX8_trace : MethodName := ⟨RX8, "trace", "(I)I"⟩
abbrev cX8_many : ByteArray := prog_1_method_47_code
def yX8_many : MethodName := ⟨RX8, "many", "(I)I"⟩
abbrev cX8_keep : ByteArray := prog_1_method_48_code
def yX8_keep : MethodName := ⟨RX8, "keep", "()I"⟩
abbrev cX8_again : ByteArray := prog_1_method_49_code
def yX8_again : MethodName := ⟨RX8, "again", "()I"⟩
abbrev cX8_isIn : ByteArray := prog_1_method_50_code
def yX8_isIn : MethodName := ⟨RX8, "isIn", "(III)Z"⟩
abbrev cX8_isVat : ByteArray := prog_1_method_51_code
def yX8_isVat : MethodName := ⟨RX8, "isVat", "(I)Z"⟩
abbrev cX8_isRest : ByteArray := prog_1_method_52_code
def yX8_isRest : MethodName := ⟨RX8, "isRest", "(I)Z"⟩
abbrev cX8_isKind : ByteArray := prog_1_method_53_code
def yX8_isKind : MethodName := ⟨RX8, "isKind", "(I)Z"⟩
abbrev cX8_isPurpose : ByteArray := prog_1_method_54_code
def yX8_isPurpose : MethodName := ⟨RX8, "isPurpose", "(I)Z"⟩
abbrev cX8_isDays : ByteArray := prog_1_method_55_code
def yX8_isDays : MethodName := ⟨RX8, "isDays", "(I)Z"⟩
abbrev cX8_isSheet : ByteArray := prog_1_method_56_code
def yX8_isSheet : MethodName := ⟨RX8, "isSheet", "(I)Z"⟩
abbrev cX8_isShelf : ByteArray := prog_1_method_57_code
def yX8_isShelf : MethodName := ⟨RX8, "isShelf", "(I)Z"⟩
abbrev cX8_mostOfLaw : ByteArray := prog_1_method_58_code
def yX8_mostOfLaw : MethodName := ⟨RX8, "mostOfLaw", "(I)I"⟩
abbrev cX8_parentKind : ByteArray := prog_1_method_59_code
def yX8_parentKind : MethodName := ⟨RX8, "parentKind", "(I)I"⟩
abbrev cX8_isUnder : ByteArray := prog_1_method_60_code
def yX8_isUnder : MethodName := ⟨RX8, "isUnder", "(II)Z"⟩
def RX9 : String := "IntentVatsModel"
def TX9 : u_T := fun k => match k with
  | 0 => ("IntentVatsModel", "most", "[I", true)
  | 1 => ("IntentVatsModel", "atFirst", "[I", true)
  | 2 => ("IntentVatsModel", "s", "[I", true)
  | 3 => ("IntentVatsModel", "kept", "[I", true)
  | 4 => ("IntentVatsModel", "aside", "[I", true)
  | 5 => ("IntentVatsModel", "isKept", "Z", false)
  | 6 => ("IntentVatsModel", "tape", "[I", true)
  | 7 => ("IntentVatsModel", "taped", "I", false)
  | 8 => ("IntentVatsModel", "from", "I", false)
  | 9 => ("IntentVatsModel", "to", "I", false)
  | 10 => ("IntentVatsModel", "isWrong", "Z", false)
  | 11 => ("IntentVatsModel", "rows", "[I", true)
  | 12 => ("IntentVatsModel", "rowMany", "I", false)
  | 13 => ("IntentVatsModel", "sortOf", "[I", true)
  | 14 => ("IntentVatsModel", "sizeOf", "[I", true)
  | 15 => ("IntentVatsModel", "items", "[I", true)
  | 16 => ("IntentVatsModel", "laid", "[I", true)
  | 17 => ("IntentVatsModel", "heldNumber", "[I", true)
  | 18 => ("IntentVatsModel", "heldSize", "[I", true)
  | 19 => ("IntentVatsModel", "ran", "[I", true)
  | 20 => ("IntentVatsModel", "bodies", "I", false)
  | 21 => ("IntentVatsModel", "kind", "I", false)
  | 22 => ("IntentVatsModel", "n", "I", false)
  | 23 => ("IntentVatsModel", "a", "I", false)
  | _ => ("IntentVatsModel", "isParted", "Z", false)
def tyX9 : Nat → FieldType := fun k => match k with
  | 0 => .array .int
  | 1 => .array .int
  | 2 => .array .int
  | 3 => .array .int
  | 4 => .array .int
  | 5 => .boolean
  | 6 => .array .int
  | 7 => .int
  | 8 => .int
  | 9 => .int
  | 10 => .boolean
  | 11 => .array .int
  | 12 => .int
  | 13 => .array .int
  | 14 => .array .int
  | 15 => .array .int
  | 16 => .array .int
  | 17 => .array .int
  | 18 => .array .int
  | 19 => .array .int
  | 20 => .int
  | 21 => .int
  | 22 => .int
  | 23 => .int
  | _ => .boolean
abbrev wsX90 : List Cond := u_ws RX9 TX9 25
theorem nmX9 : ∀ a, a < 25 → ∀ b, b < 25 → a ≠ b → (TX9 a).2.1 ≠ (TX9 b).2.1 := by decide +kernel
theorem tyX9_ok : ∀ k, k < 25 → parseFieldDescriptor (TX9 k).2.2.1 = some (tyX9 k) := by decide +kernel
abbrev cX9_init : ByteArray := prog_11_method_1_code
def yX9_init : MethodName := ⟨RX9, "<init>", "()V"⟩
abbrev cX9_anew : ByteArray := prog_11_method_2_code
def yX9_anew : MethodName := ⟨RX9, "anew", "()V"⟩
abbrev cX9_in : ByteArray := prog_11_method_3_code
def yX9_in : MethodName := ⟨RX9, "in", "(JJJ)Z"⟩
abbrev cX9_become : ByteArray := prog_11_method_4_code
def yX9_become : MethodName := ⟨RX9, "become", "([I[I)V"⟩
abbrev cX9_lends : ByteArray := prog_11_method_5_code
def yX9_lends : MethodName := ⟨RX9, "lends", "()V"⟩
abbrev cX9_laysBack : ByteArray := prog_11_method_6_code
def yX9_laysBack : MethodName := ⟨RX9, "laysBack", "()V"⟩
abbrev cX9_isCloth : ByteArray := prog_11_method_7_code
def yX9_isCloth : MethodName := ⟨RX9, "isCloth", "(I)Z"⟩
abbrev cX9_isVat : ByteArray := prog_11_method_8_code
def yX9_isVat : MethodName := ⟨RX9, "isVat", "(I)Z"⟩
abbrev cX9_isPurpose : ByteArray := prog_11_method_9_code
def yX9_isPurpose : MethodName := ⟨RX9, "isPurpose", "(I)Z"⟩
abbrev cX9_isRest : ByteArray := prog_11_method_10_code
def yX9_isRest : MethodName := ⟨RX9, "isRest", "(I)Z"⟩
abbrev cX9_its : ByteArray := prog_11_method_11_code
def yX9_its : MethodName := ⟨RX9, "its", "(II)I"⟩
abbrev cX9_sets : ByteArray := prog_11_method_12_code
def yX9_sets : MethodName := ⟨RX9, "sets", "(III)V"⟩
abbrev cX9_becomes : ByteArray := prog_11_method_13_code
def yX9_becomes : MethodName := ⟨RX9, "becomes", "(II)I"⟩
abbrev cX9_set : ByteArray := prog_11_method_14_code
def yX9_set : MethodName := ⟨RX9, "set", "(II)I"⟩
abbrev cX9_lawOf : ByteArray := prog_11_method_15_code
def yX9_lawOf : MethodName := ⟨RX9, "lawOf", "(I)I"⟩
abbrev cX9_fill : ByteArray := prog_11_method_16_code
def yX9_fill : MethodName := ⟨RX9, "fill", "(III)I"⟩
abbrev cX9_vatOf : ByteArray := prog_11_method_17_code
def yX9_vatOf : MethodName := ⟨RX9, "vatOf", "(II)I"⟩
abbrev cX9_roster : ByteArray := prog_11_method_18_code
def yX9_roster : MethodName := ⟨RX9, "roster", "(II)I"⟩
abbrev cX9_rosterOf : ByteArray := prog_11_method_19_code
def yX9_rosterOf : MethodName := ⟨RX9, "rosterOf", "(I)I"⟩
abbrev cX9_isKind : ByteArray := prog_11_method_20_code
def yX9_isKind : MethodName := ⟨RX9, "isKind", "(I)Z"⟩
abbrev cX9_isUnder : ByteArray := prog_11_method_21_code
def yX9_isUnder : MethodName := ⟨RX9, "isUnder", "(II)Z"⟩
abbrev cX9_takesOf : ByteArray := prog_11_method_22_code
def yX9_takesOf : MethodName := ⟨RX9, "takesOf", "(II)I"⟩
abbrev cX9_fightsOf : ByteArray := prog_11_method_23_code
def yX9_fightsOf : MethodName := ⟨RX9, "fightsOf", "(II)I"⟩
abbrev cX9_fadesOf : ByteArray := prog_11_method_24_code
def yX9_fadesOf : MethodName := ⟨RX9, "fadesOf", "(I)I"⟩
abbrev cX9_adds : ByteArray := prog_11_method_25_code
def yX9_adds : MethodName := ⟨RX9, "adds", "(I)V"⟩
abbrev cX9_cloth : ByteArray := prog_11_method_26_code
def yX9_cloth : MethodName := ⟨RX9, "cloth", "(I)I"⟩
abbrev cX9_of : ByteArray := prog_11_method_27_code
def yX9_of : MethodName := ⟨RX9, "of", "(II)I"⟩
abbrev cX9_does : ByteArray := prog_11_method_28_code
def yX9_does : MethodName := ⟨RX9, "does", "(III)I"⟩
abbrev cX9_changed : ByteArray := prog_11_method_29_code
def yX9_changed : MethodName := ⟨RX9, "changed", "(III)I"⟩
abbrev cX9_mind : ByteArray := prog_11_method_30_code
def yX9_mind : MethodName := ⟨RX9, "mind", "(II)I"⟩
abbrev cX9_isDeep : ByteArray := prog_11_method_31_code
def yX9_isDeep : MethodName := ⟨RX9, "isDeep", "(II)V"⟩
abbrev cX9_steep : ByteArray := prog_11_method_32_code
def yX9_steep : MethodName := ⟨RX9, "steep", "(III)I"⟩
abbrev cX9_hang : ByteArray := prog_11_method_33_code
def yX9_hang : MethodName := ⟨RX9, "hang", "(II)I"⟩
abbrev cX9_dips : ByteArray := prog_11_method_34_code
def yX9_dips : MethodName := ⟨RX9, "dips", "(II)V"⟩
abbrev cX9_dip : ByteArray := prog_11_method_35_code
def yX9_dip : MethodName := ⟨RX9, "dip", "(II)I"⟩
abbrev cX9_aDay : ByteArray := prog_11_method_36_code
def yX9_aDay : MethodName := ⟨RX9, "aDay", "()V"⟩
abbrev cX9_goes : ByteArray := prog_11_method_37_code
def yX9_goes : MethodName := ⟨RX9, "goes", "(I)V"⟩
abbrev cX9_depths : ByteArray := prog_11_method_38_code
def yX9_depths : MethodName := ⟨RX9, "depths", "()I"⟩
abbrev cX9_days : ByteArray := prog_11_method_39_code
def yX9_days : MethodName := ⟨RX9, "days", "(I)I"⟩
abbrev cX9_seed : ByteArray := prog_11_method_40_code
def yX9_seed : MethodName := ⟨RX9, "seed", "(I)I"⟩
abbrev cX9_draw : ByteArray := prog_11_method_41_code
def yX9_draw : MethodName := ⟨RX9, "draw", "()I"⟩
abbrev cX9_byDraws : ByteArray := prog_11_method_42_code
def yX9_byDraws : MethodName := ⟨RX9, "byDraws", "()V"⟩
abbrev cX9_day : ByteArray := prog_11_method_43_code
def yX9_day : MethodName := ⟨RX9, "day", "()I"⟩
abbrev cX9_luck : ByteArray := prog_11_method_44_code
def yX9_luck : MethodName := ⟨RX9, "luck", "(I)I"⟩
abbrev cX9_hungSet : ByteArray := prog_11_method_45_code
def yX9_hungSet : MethodName := ⟨RX9, "hungSet", "()I"⟩
abbrev cX9_aboutSet : ByteArray := prog_11_method_46_code
def yX9_aboutSet : MethodName := ⟨RX9, "aboutSet", "()I"⟩
abbrev cX9_isAtOdds : ByteArray := prog_11_method_47_code
def yX9_isAtOdds : MethodName := ⟨RX9, "isAtOdds", "(II)Z"⟩
abbrev cX9_oddsAmong : ByteArray := prog_11_method_48_code
def yX9_oddsAmong : MethodName := ⟨RX9, "oddsAmong", "()I"⟩
abbrev cX9_state : ByteArray := prog_11_method_49_code
def yX9_state : MethodName := ⟨RX9, "state", "(I)I"⟩
abbrev cX9_isAhead : ByteArray := prog_11_method_50_code
def yX9_isAhead : MethodName := ⟨RX9, "isAhead", "(I)Z"⟩
abbrev cX9_isSoon : ByteArray := prog_11_method_51_code
def yX9_isSoon : MethodName := ⟨RX9, "isSoon", "(I)Z"⟩
abbrev cX9_behind : ByteArray := prog_11_method_52_code
def yX9_behind : MethodName := ⟨RX9, "behind", "(III)I"⟩
abbrev cX9_gone : ByteArray := prog_11_method_53_code
def yX9_gone : MethodName := ⟨RX9, "gone", "(II)I"⟩
abbrev cX9_depth : ByteArray := prog_11_method_54_code
def yX9_depth : MethodName := ⟨RX9, "depth", "(II)I"⟩
abbrev cX9_firstAbout : ByteArray := prog_11_method_55_code
def yX9_firstAbout : MethodName := ⟨RX9, "firstAbout", "(II)I"⟩
abbrev cX9_comes : ByteArray := prog_11_method_56_code
def yX9_comes : MethodName := ⟨RX9, "comes", "(II)I"⟩
abbrev cX9_bare : ByteArray := prog_11_method_57_code
def yX9_bare : MethodName := ⟨RX9, "bare", "(I)I"⟩
abbrev cX9_spoiltIn : ByteArray := prog_11_method_58_code
def yX9_spoiltIn : MethodName := ⟨RX9, "spoiltIn", "(I)I"⟩
abbrev cX9_spoilt : ByteArray := prog_11_method_59_code
def yX9_spoilt : MethodName := ⟨RX9, "spoilt", "(I)I"⟩
abbrev cX9_isThrough : ByteArray := prog_11_method_60_code
def yX9_isThrough : MethodName := ⟨RX9, "isThrough", "(IIII)Z"⟩
abbrev cX9_through : ByteArray := prog_11_method_61_code
def yX9_through : MethodName := ⟨RX9, "through", "(II)I"⟩
abbrev cX9_vatFor : ByteArray := prog_11_method_62_code
def yX9_vatFor : MethodName := ⟨RX9, "vatFor", "(II)I"⟩
abbrev cX9_kindFor : ByteArray := prog_11_method_63_code
def yX9_kindFor : MethodName := ⟨RX9, "kindFor", "(II)I"⟩
abbrev cX9_strengthFor : ByteArray := prog_11_method_64_code
def yX9_strengthFor : MethodName := ⟨RX9, "strengthFor", "(IIII)I"⟩
abbrev cX9_ones : ByteArray := prog_11_method_65_code
def yX9_ones : MethodName := ⟨RX9, "ones", "(I)I"⟩
abbrev cX9_hangs : ByteArray := prog_11_method_66_code
def yX9_hangs : MethodName := ⟨RX9, "hangs", "(I)V"⟩
abbrev cX9_hangFor : ByteArray := prog_11_method_67_code
def yX9_hangFor : MethodName := ⟨RX9, "hangFor", "(II)I"⟩
abbrev cX9_isSo : ByteArray := prog_11_method_68_code
def yX9_isSo : MethodName := ⟨RX9, "isSo", "(III)Z"⟩
abbrev cX9_fits : ByteArray := prog_11_method_69_code
def yX9_fits : MethodName := ⟨RX9, "fits", "(III)I"⟩
abbrev cX9_lowest : ByteArray := prog_11_method_70_code
def yX9_lowest : MethodName := ⟨RX9, "lowest", "(JJI)J"⟩
abbrev cX9_odds : ByteArray := prog_11_method_71_code
def yX9_odds : MethodName := ⟨RX9, "odds", "(III)J"⟩
abbrev cX9_hope : ByteArray := prog_11_method_72_code
def yX9_hope : MethodName := ⟨RX9, "hope", "(II)J"⟩
abbrev cX9_feed : ByteArray := prog_11_method_73_code
def yX9_feed : MethodName := ⟨RX9, "feed", "(JI)I"⟩
abbrev cX9_isByte : ByteArray := prog_11_method_74_code
def yX9_isByte : MethodName := ⟨RX9, "isByte", "(III)Z"⟩
abbrev cX9_next : ByteArray := prog_11_method_75_code
def yX9_next : MethodName := ⟨RX9, "next", "()V"⟩
abbrev cX9_isWord : ByteArray := prog_11_method_76_code
def yX9_isWord : MethodName := ⟨RX9, "isWord", "(Ljava/lang/String;)Z"⟩
abbrev cX9_must : ByteArray := prog_11_method_77_code
def yX9_must : MethodName := ⟨RX9, "must", "(Z)V"⟩
abbrev cX9_figures : ByteArray := prog_11_method_78_code
def yX9_figures : MethodName := ⟨RX9, "figures", "()I"⟩
abbrev cX9_number : ByteArray := prog_11_method_79_code
def yX9_number : MethodName := ⟨RX9, "number", "(II)I"⟩
abbrev cX9_kindHere : ByteArray := prog_11_method_80_code
def yX9_kindHere : MethodName := ⟨RX9, "kindHere", "()I"⟩
abbrev cX9_takes : ByteArray := prog_11_method_81_code
def yX9_takes : MethodName := ⟨RX9, "takes", "(Ljava/lang/String;)Z"⟩
abbrev cX9_clothTold : ByteArray := prog_11_method_82_code
def yX9_clothTold : MethodName := ⟨RX9, "clothTold", "(I)V"⟩
abbrev cX9_twoTold : ByteArray := prog_11_method_83_code
def yX9_twoTold : MethodName := ⟨RX9, "twoTold", "(IILjava/lang/String;I)V"⟩
abbrev cX9_lawTold : ByteArray := prog_11_method_84_code
def yX9_lawTold : MethodName := ⟨RX9, "lawTold", "(I)V"⟩
abbrev cX9_lawHere : ByteArray := prog_11_method_85_code
def yX9_lawHere : MethodName := ⟨RX9, "lawHere", "()I"⟩
abbrev cX9_item : ByteArray := prog_11_method_86_code
def yX9_item : MethodName := ⟨RX9, "item", "()V"⟩
abbrev cX9_mill : ByteArray := prog_11_method_87_code
def yX9_mill : MethodName := ⟨RX9, "mill", "()I"⟩
abbrev cX9_prove : ByteArray := prog_11_method_88_code
def yX9_prove : MethodName := ⟨RX9, "prove", "(II)I"⟩
abbrev cX9_isCell : ByteArray := prog_11_method_89_code
def yX9_isCell : MethodName := ⟨RX9, "isCell", "(II)Z"⟩
abbrev cX9_row : ByteArray := prog_11_method_90_code
def yX9_row : MethodName := ⟨RX9, "row", "(II)I"⟩
abbrev cX9_alterRow : ByteArray := prog_11_method_91_code
def yX9_alterRow : MethodName := ⟨RX9, "alterRow", "(III)I"⟩
abbrev cX9_isRight : ByteArray := prog_11_method_92_code
def yX9_isRight : MethodName := ⟨RX9, "isRight", "(II)Z"⟩
abbrev cX9_judge : ByteArray := prog_11_method_93_code
def yX9_judge : MethodName := ⟨RX9, "judge", "(I)I"⟩
abbrev cX9_isFour : ByteArray := prog_11_method_94_code
def yX9_isFour : MethodName := ⟨RX9, "isFour", "(I)Z"⟩
abbrev cX9_minds : ByteArray := prog_11_method_95_code
def yX9_minds : MethodName := ⟨RX9, "minds", "(IIII)I"⟩
abbrev cX9_sheet : ByteArray := prog_11_method_96_code
def yX9_sheet : MethodName := ⟨RX9, "sheet", "(III)I"⟩
abbrev cX9_narrowed : ByteArray := prog_11_method_97_code
def yX9_narrowed : MethodName := ⟨RX9, "narrowed", "(II)I"⟩
abbrev cX9_put : ByteArray := prog_11_method_98_code
def yX9_put : MethodName := ⟨RX9, "put", "(III)I"⟩
abbrev cX9_item_ : ByteArray := prog_11_method_99_code
def yX9_item_ : MethodName := ⟨RX9, "item", "(III)I"⟩
abbrev cX9_shelf : ByteArray := prog_11_method_100_code
def yX9_shelf : MethodName := ⟨RX9, "shelf", "(III)I"⟩
abbrev cX9_isHeld : ByteArray := prog_11_method_101_code
def yX9_isHeld : MethodName := ⟨RX9, "isHeld", "(I)Z"⟩
abbrev cX9_taken : ByteArray := prog_11_method_102_code
def yX9_taken : MethodName := ⟨RX9, "taken", "(II)I"⟩
abbrev cX9_runs : ByteArray := prog_11_method_103_code
def yX9_runs : MethodName := ⟨RX9, "runs", "(I)V"⟩
abbrev cX9_plainRubs : ByteArray := prog_11_method_104_code
def yX9_plainRubs : MethodName := ⟨RX9, "plainRubs", "(I)I"⟩
abbrev cX9_linenRubs : ByteArray := prog_11_method_105_code
def yX9_linenRubs : MethodName := ⟨RX9, "linenRubs", "(I)I"⟩
abbrev cX9_rubs : ByteArray := prog_11_method_106_code
def yX9_rubs : MethodName := ⟨RX9, "rubs", "(I)I"⟩
abbrev cX9_plainSteeps : ByteArray := prog_11_method_107_code
def yX9_plainSteeps : MethodName := ⟨RX9, "plainSteeps", "(I)I"⟩
abbrev cX9_steepsAct : ByteArray := prog_11_method_108_code
def yX9_steepsAct : MethodName := ⟨RX9, "steepsAct", "(I)I"⟩
abbrev cX9_plainParts : ByteArray := prog_11_method_109_code
def yX9_plainParts : MethodName := ⟨RX9, "plainParts", "(I)I"⟩
abbrev cX9_parts : ByteArray := prog_11_method_110_code
def yX9_parts : MethodName := ⟨RX9, "parts", "(I)I"⟩
abbrev cX9_plainDries : ByteArray := prog_11_method_111_code
def yX9_plainDries : MethodName := ⟨RX9, "plainDries", "(I)I"⟩
abbrev cX9_driesAct : ByteArray := prog_11_method_112_code
def yX9_driesAct : MethodName := ⟨RX9, "driesAct", "(I)I"⟩
abbrev cX9_act : ByteArray := prog_11_method_113_code
def yX9_act : MethodName := ⟨RX9, "act", "(III)I"⟩
abbrev cX9_trace : ByteArray := prog_11_method_114_code
def yX9_trace : MethodName := ⟨RX9, "trace", "(I)I"⟩
abbrev cX9_purposesAbout : ByteArray := prog_11_method_115_code
def yX9_purposesAbout : MethodName := ⟨RX9, "purposesAbout", "()I"⟩
abbrev cX9_many : ByteArray := prog_11_method_116_code
def yX9_many : MethodName := ⟨RX9, "many", "(I)I"⟩
abbrev cX9_keep : ByteArray := prog_11_method_117_code
def yX9_keep : MethodName := ⟨RX9, "keep", "()I"⟩
abbrev cX9_again : ByteArray := prog_11_method_118_code
def yX9_again : MethodName := ⟨RX9, "again", "()I"⟩
def RJ6 : String := "java/lang/Integer"
def TJ6 : u_T := fun k => match k with
  | _ => ("", "", "", false)
def tyJ6 : Nat → FieldType := fun k => match k with
  | _ => .int
abbrev wsJ60 : List Cond := u_ws RJ6 TJ6 0
theorem nmJ6 : ∀ a, a < 0 → ∀ b, b < 0 → a ≠ b → (TJ6 a).2.1 ≠ (TJ6 b).2.1 := by decide +kernel
theorem tyJ6_ok : ∀ k, k < 0 → parseFieldDescriptor (TJ6 k).2.2.1 = some (tyJ6 k) := by decide +kernel
abbrev cJ6_bitCount_0f7a4 : ByteArray := prog_12_method_49_code
def yJ6_bitCount_0f7a4 : MethodName := ⟨RJ6, "bitCount", "(I)I"⟩
def RJ9 : String := "java/lang/Math"
def TJ9 : u_T := fun k => match k with
  | _ => ("", "", "", false)
def tyJ9 : Nat → FieldType := fun k => match k with
  | _ => .int
abbrev wsJ90 : List Cond := u_ws RJ9 TJ9 0
theorem nmJ9 : ∀ a, a < 0 → ∀ b, b < 0 → a ≠ b → (TJ9 a).2.1 ≠ (TJ9 b).2.1 := by decide +kernel
theorem tyJ9_ok : ∀ k, k < 0 → parseFieldDescriptor (TJ9 k).2.2.1 = some (tyJ9 k) := by decide +kernel
abbrev cJ9_abs_0f7a4 : ByteArray := prog_13_method_59_code
def yJ9_abs_0f7a4 : MethodName := ⟨RJ9, "abs", "(I)I"⟩
abbrev cJ9_max_7cf53 : ByteArray := prog_13_method_65_code
def yJ9_max_7cf53 : MethodName := ⟨RJ9, "max", "(II)I"⟩
abbrev cJ9_min_7cf53 : ByteArray := prog_13_method_69_code
def yJ9_min_7cf53 : MethodName := ⟨RJ9, "min", "(II)I"⟩
def RJ0 : String := "java/lang/String"
def TJ0 : u_T := fun k => match k with
  | _ => ("", "", "", false)
def tyJ0 : Nat → FieldType := fun k => match k with
  | _ => .int
abbrev wsJ00 : List Cond := u_ws RJ0 TJ0 0
theorem nmJ0 : ∀ a, a < 0 → ∀ b, b < 0 → a ≠ b → (TJ0 a).2.1 ≠ (TJ0 b).2.1 := by decide +kernel
theorem tyJ0_ok : ∀ k, k < 0 → parseFieldDescriptor (TJ0 k).2.2.1 = some (tyJ0 k) := by decide +kernel
abbrev cJ0_length_8abf5 : ByteArray := prog_14_method_54_code
def yJ0_length_8abf5 : MethodName := ⟨RJ0, "length", "()I"⟩
abbrev cJ0_charAt_5068e : ByteArray := prog_14_method_56_code
def yJ0_charAt_5068e : MethodName := ⟨RJ0, "charAt", "(I)C"⟩
abbrev cJ0_coder_7d493 : ByteArray := prog_14_method_152_code
def yJ0_coder_7d493 : MethodName := ⟨RJ0, "coder", "()B"⟩
abbrev cJ0_isLatin1_aae02 : ByteArray := prog_14_method_154_code
def yJ0_isLatin1_aae02 : MethodName := ⟨RJ0, "isLatin1", "()Z"⟩
abbrev cJ0_checkIndex_df160 : ByteArray := prog_14_method_155_code
def yJ0_checkIndex_df160 : MethodName := ⟨RJ0, "checkIndex", "(II)V"⟩
def RJ1 : String := "java/lang/StringLatin1"
def TJ1 : u_T := fun k => match k with
  | _ => ("", "", "", false)
def tyJ1 : Nat → FieldType := fun k => match k with
  | _ => .int
abbrev wsJ10 : List Cond := u_ws RJ1 TJ1 0
theorem nmJ1 : ∀ a, a < 0 → ∀ b, b < 0 → a ≠ b → (TJ1 a).2.1 ≠ (TJ1 b).2.1 := by decide +kernel
theorem tyJ1_ok : ∀ k, k < 0 → parseFieldDescriptor (TJ1 k).2.2.1 = some (tyJ1 k) := by decide +kernel
abbrev cJ1_charAt_3b067 : ByteArray := prog_15_method_2_code
def yJ1_charAt_3b067 : MethodName := ⟨RJ1, "charAt", "([BI)C"⟩
def RJ2 : String := "java/lang/StringUTF16"
def TJ2 : u_T := fun k => match k with
  | _ => ("", "", "", false)
def tyJ2 : Nat → FieldType := fun k => match k with
  | _ => .int
abbrev wsJ20 : List Cond := u_ws RJ2 TJ2 0
theorem nmJ2 : ∀ a, a < 0 → ∀ b, b < 0 → a ≠ b → (TJ2 a).2.1 ≠ (TJ2 b).2.1 := by decide +kernel
theorem tyJ2_ok : ∀ k, k < 0 → parseFieldDescriptor (TJ2 k).2.2.1 = some (tyJ2 k) := by decide +kernel
abbrev cJ2_getChar_3b067 : ByteArray := prog_16_method_5_code
def yJ2_getChar_3b067 : MethodName := ⟨RJ2, "getChar", "([BI)C"⟩
abbrev cJ2_length_9d52b : ByteArray := prog_16_method_6_code
def yJ2_length_9d52b : MethodName := ⟨RJ2, "length", "([B)I"⟩
abbrev cJ2_charAt_3b067 : ByteArray := prog_16_method_83_code
def yJ2_charAt_3b067 : MethodName := ⟨RJ2, "charAt", "([BI)C"⟩
abbrev cJ2_checkIndex_2214a : ByteArray := prog_16_method_91_code
def yJ2_checkIndex_2214a : MethodName := ⟨RJ2, "checkIndex", "(I[B)V"⟩
def RJ10 : String := "java/lang/System"
def TJ10 : u_T := fun k => match k with
  | _ => ("", "", "", false)
def tyJ10 : Nat → FieldType := fun k => match k with
  | _ => .int
abbrev wsJ100 : List Cond := u_ws RJ10 TJ10 0
theorem nmJ10 : ∀ a, a < 0 → ∀ b, b < 0 → a ≠ b → (TJ10 a).2.1 ≠ (TJ10 b).2.1 := by decide +kernel
theorem tyJ10_ok : ∀ k, k < 0 → parseFieldDescriptor (TJ10 k).2.2.1 = some (tyJ10 k) := by decide +kernel
def RJ3 : String := "jdk/internal/util/Preconditions"
def TJ3 : u_T := fun k => match k with
  | _ => ("", "", "", false)
def tyJ3 : Nat → FieldType := fun k => match k with
  | _ => .int
abbrev wsJ30 : List Cond := u_ws RJ3 TJ3 0
theorem nmJ3 : ∀ a, a < 0 → ∀ b, b < 0 → a ≠ b → (TJ3 a).2.1 ≠ (TJ3 b).2.1 := by decide +kernel
theorem tyJ3_ok : ∀ k, k < 0 → parseFieldDescriptor (TJ3 k).2.2.1 = some (tyJ3 k) := by decide +kernel
abbrev cJ3_checkIndex_8e157 : ByteArray := prog_18_method_11_code
def yJ3_checkIndex_8e157 : MethodName := ⟨RJ3, "checkIndex", "(IILjava/util/function/BiFunction;)I"⟩
def RL : String := "IntentVatsLaw"
abbrev cL_law : ByteArray := code
def yL_law : MethodName := ⟨RL, "law", "([I)Z"⟩
set_option maxRecDepth 20000 in
set_option maxRecDepth 20000 in
abbrev vwCl : List vw_C := [(RX0, TX0, 6), (RX2, TX2, 1), (RX3, TX3, 12), (RX4, TX4, 2), (RX5, TX5, 2), (RX6, TX6, 2), (RX7, TX7, 6), (RX8, TX8, 10), (RX9, TX9, 25)]
end
section
/-! THE EVALUATOR: an executable picture of the bytecode over cells that are named by a tag and a number; what it answers holds of the machine (part 03) -/
abbrev mv_V : Type := Value ⊕ (Nat × Nat)
abbrev mv_L : Type := List (Nat × mv_V)
abbrev mv_E : Type := Nat × Instr × Nat × List Nat
/-- the heap's picture: ints by tag, number, place; refs likewise; lengths of arrays; how many of a tag there are -/
abbrev mv_G : Type := (Nat → Nat → Nat → Int32) × (Nat → Nat → Nat → Option (Nat × Nat)) × (Nat → Nat → Nat) × (Nat → Nat)
def mv_mem (n : Nat) : List Nat → Bool
  | [] => false
  | a :: l => cond (Nat.beq a n) true (mv_mem n l)
def mv_seek (pc : Nat) : List mv_E → List mv_E
  | [] => []
  | e :: l => cond (Nat.beq e.1 pc) (e :: l) (mv_seek pc l)
def mv_get (k : Nat) : mv_L → Option mv_V
  | [] => none
  | q :: l => cond (Nat.beq q.1 k) (some q.2) (mv_get k l)
def mv_two : mv_V → Bool
  | .inl (.long _) => true
  | .inl (.double _) => true
  | _ => false
def mv_f1 (i : Nat) : mv_L → mv_L
  | [] => []
  | q :: l => cond (Nat.beq q.1 i || (Nat.beq (q.1 + 1) i && mv_two q.2)) (mv_f1 i l) (q :: mv_f1 i l)
def mv_f2 (i : Nat) : mv_L → mv_L
  | [] => []
  | q :: l => cond (Nat.beq q.1 i || (Nat.beq q.1 (i + 1) || (Nat.beq (q.1 + 1) i && mv_two q.2))) (mv_f2 i l) (q :: mv_f2 i l)
def mv_f1K {α : Type} (i : Nat) (l : mv_L) (k : mv_L → α) : α := match l with
  | [] => k []
  | q :: l => mv_f1K i l fun l' => match Nat.beq q.1 i || (Nat.beq (q.1 + 1) i && mv_two q.2) with
    | true => k l'
    | false => k (q :: l')
def mv_f2K {α : Type} (i : Nat) (l : mv_L) (k : mv_L → α) : α := match l with
  | [] => k []
  | q :: l => mv_f2K i l fun l' => match Nat.beq q.1 i || (Nat.beq q.1 (i + 1) || (Nat.beq (q.1 + 1) i && mv_two q.2)) with
    | true => k l'
    | false => k (q :: l')
/-- the arguments of a call off the stack, and what is left -/
def mv_tk {α : Type} (n : Nat) (as st : List mv_V) (k : List mv_V → List mv_V → Option α) : Option α := match n with
  | 0 => k as st
  | n + 1 => match st with
    | [] => none
    | v :: st => mv_tk n (v :: as) st k
def mv_ap {α : Type} (vs st : List mv_V) (k : List mv_V → α) : α := match vs with
  | [] => k st
  | v :: vs => mv_ap vs st fun l => k (v :: l)
def mv_nth {α : Type} (j : Nat) (l : List α) : Option α := match l with
  | [] => none
  | a :: l => match j with
    | 0 => some a
    | j + 1 => mv_nth j l
def mv_cats : List mv_V → Nat
  | [] => 0
  | v :: l => (match mv_two v with
    | true => 2
    | false => 1) + mv_cats l
/-- an int constant, by its sign and size -/
def mv_c (sg n : Nat) : Int32 := cond (Nat.beq sg 0) (nI n) (-(nI n))
def mv_cl (sg n : Nat) : Int64 := cond (Nat.beq sg 0) (lN n) (-(lN n))
def mv_inb (i : Int32) (n : Nat) : Bool := !(decide (i < 0) || Nat.ble n i.toNatClampNeg)
def mv_gd {α : Type} (b : Bool) (k : Option α) : Option α := match b with
  | true => k
  | false => none
def mv_bh {β α : Type} (h : β) (k : β → α) : α := k h
def mv_bi {α : Type} (x : Int32) (k : Int32 → α) : α := k x
def mv_bl {α : Type} (x : Int64) (k : Int64 → α) : α := k x
def mv_el {α β : Type} (o : Option β) (a : α) (f : β → α) : α := match o with
  | none => a
  | some b => f b
def mv_q : Option (Nat × Nat) → mv_V
  | none => .inl .null
  | some q => .inr q
def mv_noT (ts : List Nat) : List mv_V → Bool
  | [] => true
  | .inr q :: l => !(mv_mem q.1 ts) && mv_noT ts l
  | .inl _ :: l => mv_noT ts l
def mv_noL (ts : List Nat) : mv_L → Bool
  | [] => true
  | (_, .inr q) :: l => !(mv_mem q.1 ts) && mv_noL ts l
  | (_, .inl _) :: l => mv_noL ts l
def mv_sub (a b : List Nat) : Bool := match a with
  | [] => true
  | t :: l => mv_mem t b && mv_sub l b
def mv_vi (x : Int32) : mv_V := .inl (.int x)
def mv_vl (x : Int64) : mv_V := .inl (.long x)
/-- what works on the stack alone -/
def mv_op {α : Type} (i : Instr) (st : List mv_V) (k : List mv_V → Option α) : Option α := match i with
  | .iadd => match st with
    | .inl (.int y) :: .inl (.int x) :: st => k (.inl (.int (x + y)) :: st)
    | _ => none
  | .isub => match st with
    | .inl (.int y) :: .inl (.int x) :: st => k (.inl (.int (x - y)) :: st)
    | _ => none
  | .imul => match st with
    | .inl (.int y) :: .inl (.int x) :: st => k (.inl (.int (x * y)) :: st)
    | _ => none
  | .iand => match st with
    | .inl (.int y) :: .inl (.int x) :: st => k (.inl (.int (x &&& y)) :: st)
    | _ => none
  | .ior => match st with
    | .inl (.int y) :: .inl (.int x) :: st => k (.inl (.int (x ||| y)) :: st)
    | _ => none
  | .ixor => match st with
    | .inl (.int y) :: .inl (.int x) :: st => k (.inl (.int (x ^^^ y)) :: st)
    | _ => none
  | .idiv => match st with
    | .inl (.int y) :: .inl (.int x) :: st => mv_gd (!decide (y = 0)) (k (.inl (.int (x / y)) :: st))
    | _ => none
  | .irem => match st with
    | .inl (.int y) :: .inl (.int x) :: st => mv_gd (!decide (y = 0)) (k (.inl (.int (x - x / y * y)) :: st))
    | _ => none
  | .ineg => match st with
    | .inl (.int x) :: st => k (.inl (.int (-x)) :: st)
    | _ => none
  | .ishl => match st with
    | .inl (.int y) :: .inl (.int x) :: st => k (.inl (.int (x <<< (y &&& 31))) :: st)
    | _ => none
  | .ishr => match st with
    | .inl (.int y) :: .inl (.int x) :: st => k (.inl (.int (x >>> (y &&& 31))) :: st)
    | _ => none
  | .iushr => match st with
    | .inl (.int y) :: .inl (.int x) :: st => k (.inl (.int ((x.toUInt32 >>> (y.toUInt32 &&& Int32.toUInt32 31)).toInt32)) :: st)
    | _ => none
  | .ladd => match st with
    | .inl (.long y) :: .inl (.long x) :: st => k (.inl (.long (x + y)) :: st)
    | _ => none
  | .lmul => match st with
    | .inl (.long y) :: .inl (.long x) :: st => k (.inl (.long (x * y)) :: st)
    | _ => none
  | .land => match st with
    | .inl (.long y) :: .inl (.long x) :: st => k (.inl (.long (x &&& y)) :: st)
    | _ => none
  | .lor => match st with
    | .inl (.long y) :: .inl (.long x) :: st => k (.inl (.long (x ||| y)) :: st)
    | _ => none
  | .ldiv => match st with
    | .inl (.long y) :: .inl (.long x) :: st => mv_gd (!decide (y = 0)) (k (.inl (.long (x / y)) :: st))
    | _ => none
  | .lrem => match st with
    | .inl (.long y) :: .inl (.long x) :: st => mv_gd (!decide (y = 0)) (k (.inl (.long (x - x / y * y)) :: st))
    | _ => none
  | .lshl => match st with
    | .inl (.int y) :: .inl (.long x) :: st => k (.inl (.long (x <<< (y.toInt64 &&& 63))) :: st)
    | _ => none
  | .lshr => match st with
    | .inl (.int y) :: .inl (.long x) :: st => k (.inl (.long (x >>> (y.toInt64 &&& 63))) :: st)
    | _ => none
  | .lcmp => match st with
    | .inl (.long y) :: .inl (.long x) :: st => k (.inl (.int (lg_cmp x y)) :: st)
    | _ => none
  | .i2l => match st with
    | .inl (.int x) :: st => k (.inl (.long x.toInt64) :: st)
    | _ => none
  | .l2i => match st with
    | .inl (.long x) :: st => k (.inl (.int x.toInt32) :: st)
    | _ => none
  | .i2b => match st with
    | .inl (.int x) :: st => k (.inl (.int x.toInt8.toInt32) :: st)
    | _ => none
  | .i2s => match st with
    | .inl (.int x) :: st => k (.inl (.int x.toInt16.toInt32) :: st)
    | _ => none
  | .dup => match st with
    | v :: st => match mv_two v with
      | false => k (v :: v :: st)
      | true => none
    | _ => none
  | .dup_x1 => match st with
    | v :: w :: st => match mv_two v || mv_two w with
      | false => k (v :: w :: v :: st)
      | true => none
    | _ => none
  | .dup2 => match st with
    | v :: w :: st => match mv_two v || mv_two w with
      | false => k (v :: w :: v :: w :: st)
      | true => none
    | _ => none
  | .pop => match st with
    | v :: st => match mv_two v with
      | false => k st
      | true => none
    | _ => none
  | .aconst_null => k (.inl .null :: st)
  | _ => none
def mv_cmp (c : ClassFile.Cond) (x y : Int32) {α : Type} (a b : α) : α := match c with
  | .eq => if x = y then a else b
  | .ne => if x = y then b else a
  | .lt => if x < y then a else b
  | .ge => if y ≤ x then a else b
  | .gt => if y < x then a else b
  | .le => if x ≤ y then a else b
def mv_ts {α : Type} (x : Int32) (lo : Nat) (d : α) (f : Nat → α) : List Nat → α
  | [] => d
  | t :: l => if x = nI lo then f t else mv_ts x (lo + 1) d f l
def mv_ls {α : Type} (x : Int32) (d : α) (f : Nat → α) : List Nat → α
  | k :: t :: l => if x = nI k then f t else mv_ls x d f l
  | _ => d
def mv_cpy (f : Nat → Int32) (g : Nat → Int32) (n : Nat) : Nat → Int32 := fun k => if k < n then f k else g k
/-- tags of int arrays, of arrays of rows -/
def mv_ra (t : Nat) : Bool := Nat.beq t 601 || Nat.beq t 807
def mv_ia (t : Nat) : Bool := Nat.ble 100 t && !(mv_ra t)
section
variable {Hp : Type} (rI : Hp → Nat → Nat → Nat → Int32) (rR : Hp → Nat → Nat → Nat → (Option (Nat × Nat) → Option (List mv_V × Hp)) → Option (List mv_V × Hp)) (ln : Hp → Nat → Nat → Nat) (wI : Hp → Nat → Nat → Nat → Int32 → Hp) (wR : Hp → Nat → Nat → Nat → Option (Nat × Nat) → (Hp → Option (List mv_V × Hp)) → Option (List mv_V × Hp)) (nw : Hp → Nat → Nat → (Nat → Hp → Option (List mv_V × Hp)) → Option (List mv_V × Hp)) (cp : Hp → Nat → Nat → Nat → Nat → Nat → Hp)
/-- reads and writes of the heap; lk: what the table says of the instruction's operands -/
def mv_hop (bod : Nat → Int32) (sc : Option (Nat × (Nat → Int32))) (i : Instr) (lk : List Nat) (st : List mv_V) (h : Hp) (k : List mv_V → Hp → Option (List mv_V × Hp)) : Option (List mv_V × Hp) := match i with
  | .getfield _ => match lk with
    | ci :: f :: kd :: _ => match st with
      | .inr (t, o) :: st => match Nat.beq t ci with
        | true => match Nat.beq kd 1 with
          | true => rR h t o f fun q => match q with
            | none => k (.inl .null :: st) h
            | some q => k (.inr q :: st) h
          | false => k (.inl (.int (rI h t o f)) :: st) h
        | false => none
      | _ => none
    | _ => none
  | .putfield _ => match lk with
    | ci :: f :: kd :: _ => match Nat.beq kd 1 with
      | true => match st with
        | .inr q :: .inr (t, o) :: st => match Nat.beq t ci with
          | true => wR h t o f (some q) fun h => k st h
          | false => none
        | .inl .null :: .inr (t, o) :: st => match Nat.beq t ci with
          | true => wR h t o f none fun h => k st h
          | false => none
        | _ => none
      | false => match st with
        | .inl (.int x) :: .inr (t, o) :: st => match Nat.beq t ci with
          | true => match Nat.beq kd 2 with
            | true => mv_gd (decide (x = nI 0) || decide (x = nI 1)) (mv_bh (wI h t o f x) fun h => k st h)
            | false => mv_bh (wI h t o f x) fun h => k st h
          | false => none
        | _ => none
    | _ => none
  | .iaload => match st with
    | .inl (.int i) :: .inr (t, o) :: st => match Nat.beq t 10 with
      | true => match sc with
        | some q => mv_gd (mv_inb i q.1) (k (.inl (.int (q.2 i.toNatClampNeg)) :: st) h)
        | none => none
      | false => match Nat.beq t 13 with
        | true => mv_gd (mv_inb i 24) (k (.inl (.int (bod i.toNatClampNeg)) :: st) h)
        | false => match mv_ia t with
          | true => mv_gd (mv_inb i (ln h t o)) (k (.inl (.int (rI h t o i.toNatClampNeg)) :: st) h)
          | false => none
    | _ => none
  | .iastore => match st with
    | .inl (.int x) :: .inl (.int i) :: .inr (t, o) :: st => match mv_ia t with
      | true => mv_gd (mv_inb i (ln h t o)) (mv_bh (wI h t o i.toNatClampNeg x) fun h => k st h)
      | false => none
    | _ => none
  | .aaload => match st with
    | .inl (.int i) :: .inr (t, o) :: st => match mv_ra t with
      | true => mv_gd (mv_inb i (ln h t o)) (rR h t o i.toNatClampNeg fun q => match q with
        | none => k (.inl .null :: st) h
        | some q => k (.inr q :: st) h)
      | false => none
    | _ => none
  | .aastore => match st with
    | .inr (u, n) :: .inl (.int i) :: .inr (t, o) :: st => match mv_ra t && Nat.beq u 4 with
      | true => mv_gd (mv_inb i (ln h t o)) (wR h t o i.toNatClampNeg (some (u, n)) fun h => k st h)
      | false => none
    | .inl .null :: .inl (.int i) :: .inr (t, o) :: st => match mv_ra t with
      | true => mv_gd (mv_inb i (ln h t o)) (wR h t o i.toNatClampNeg none fun h => k st h)
      | false => none
    | _ => none
  | .arraylength => match st with
    | .inr (t, o) :: st => match Nat.beq t 10 with
      | true => match sc with
        | some q => k (.inl (.int (nI q.1)) :: st) h
        | none => none
      | false => match Nat.ble 100 t with
        | true => k (.inl (.int (nI (ln h t o))) :: st) h
        | false => none
    | _ => none
  | .getstatic _ => match lk with
    | t :: _ => match Nat.beq t 13 with
      | true => k (.inr (13, 0) :: st) h
      | false => none
    | _ => none
  | _ => none
/-- locals, constants, stack -/
def mv_lop (i : Instr) (lk : List Nat) (lv : mv_L) (st : List mv_V) (k : mv_L → List mv_V → Option (List mv_V × Hp)) : Option (List mv_V × Hp) := match i with
  | .iload_n _ | .iload _ => match lk with
    | n :: _ => match mv_get n lv with
      | some (.inl (.int x)) => k lv (.inl (.int x) :: st)
      | _ => none
    | _ => none
  | .lload_n _ | .lload _ => match lk with
    | n :: _ => match mv_get n lv with
      | some (.inl (.long x)) => k lv (.inl (.long x) :: st)
      | _ => none
    | _ => none
  | .aload_n _ | .aload _ => match lk with
    | n :: _ => match mv_get n lv with
      | some (.inr q) => k lv (.inr q :: st)
      | some (.inl .null) => k lv (.inl .null :: st)
      | _ => none
    | _ => none
  | .istore_n _ | .istore _ => match lk with
    | n :: _ => match st with
      | .inl (.int x) :: st => mv_f1K n lv fun lv => mv_bi x fun x => k ((n, .inl (.int x)) :: lv) st
      | _ => none
    | _ => none
  | .lstore_n _ | .lstore _ => match lk with
    | n :: _ => match st with
      | .inl (.long x) :: st => mv_f2K n lv fun lv => mv_bl x fun x => k ((n, .inl (.long x)) :: lv) st
      | _ => none
    | _ => none
  | .astore_n _ | .astore _ => match lk with
    | n :: _ => match st with
      | .inr q :: st => mv_f1K n lv fun lv => k ((n, .inr q) :: lv) st
      | .inl .null :: st => mv_f1K n lv fun lv => k ((n, .inl .null) :: lv) st
      | _ => none
    | _ => none
  | .iinc _ _ => match lk with
    | n :: sg :: c :: _ => match mv_get n lv with
      | some (.inl (.int x)) => mv_f1K n lv fun lv => mv_bi (x + mv_c sg c) fun x => k ((n, .inl (.int x)) :: lv) st
      | _ => none
    | _ => none
  | .iconst _ | .bipush _ | .sipush _ => match lk with
    | sg :: c :: _ => k lv (.inl (.int (mv_c sg c)) :: st)
    | _ => none
  | .ldc _ | .ldc_w _ => match lk with
    | 0 :: sg :: c :: _ => k lv (.inl (.int (mv_c sg c)) :: st)
    | 1 :: n :: _ => k lv (.inr (11, n) :: st)
    | _ => none
  | .lconst _ | .ldc2_w _ => match lk with
    | sg :: c :: _ => k lv (.inl (.long (mv_cl sg c)) :: st)
    | _ => none
  | i => mv_op i st (k lv)
abbrev mv_C (Hp : Type) : Type := (Nat × Nat) × List Nat × (List mv_V → Hp → (List mv_V → Hp → Option (List mv_V × Hp)) → Option (List mv_V × Hp))
/-- calls and makings: cells and slots made so far go along -/
def mv_cop (G : List (mv_C Hp)) (MC MS : Nat) (ts : List Nat) (i : Instr) (lk : List Nat) (lv : mv_L) (st : List mv_V) (h : Hp) (ce sl : Nat) (k : List mv_V → Hp → Nat → Nat → Option (List mv_V × Hp)) : Option (List mv_V × Hp) :=
  match i with
  | .new _ => match lk with
    | ci :: n :: _ => match Nat.ble (ce + 1) MC && (Nat.ble (sl + n) MS && (mv_mem ci ts && (mv_noT [ci] st && mv_noL [ci] lv))) with
      | true => nw h ci 0 fun o h => k (.inr (ci, o) :: st) h (ce + 1) (sl + n)
      | false => none
    | _ => none
  | .newarray _ | .anewarray _ => match lk with
    | t :: _ => match st with
      | .inl (.int n) :: st => match Nat.ble (ce + 1) MC && (mv_mem t ts && (mv_noT [t] st && mv_noL [t] lv)) with
        | true => mv_gd (!decide (n < 0) && (Nat.ble n.toNatClampNeg 1000 && Nat.ble (sl + n.toNatClampNeg) MS)) (nw h t n.toNatClampNeg fun o h => k (.inr (t, o) :: st) h (ce + 1) (sl + n.toNatClampNeg))
        | false => none
      | _ => none
    | _ => none
  | .invokestatic _ => match lk with
    | 0 :: j :: n :: _ => match mv_nth j G with
      | some (c, ts', f) => mv_tk n [] st fun as st => match Nat.ble (ce + c.1) MC && (Nat.ble (sl + c.2) MS && (mv_sub ts' ts && (mv_noT ts' st && (mv_noL ts' lv && Nat.ble (mv_cats st) 8)))) with
        | true => f as h fun vs h => mv_ap vs st fun st => k st h (ce + c.1) (sl + c.2)
        | false => none
      | none => none
    | 1 :: _ => match st with
      | .inl (.int y) :: .inl (.int x) :: st => k (.inl (.int (if x < y then y else x)) :: st) h ce sl
      | _ => none
    | 2 :: _ => match st with
      | .inl (.int y) :: .inl (.int x) :: st => k (.inl (.int (if y < x then y else x)) :: st) h ce sl
      | _ => none
    | 3 :: _ => match st with
      | .inl (.int x) :: st => k (.inl (.int (if x < 0 then -x else x)) :: st) h ce sl
      | _ => none
    | 4 :: _ => match st with
      | .inl (.int n) :: .inl (.int dp) :: .inr (t', o') :: .inl (.int sp) :: .inr (t, o) :: st => match Nat.beq t t' && (mv_ia t && Nat.ble (mv_cats st) 8) with
        | true => mv_gd (decide (sp = nI 0) && (decide (dp = nI 0) && (!decide (n < 0) && (Nat.ble n.toNatClampNeg (ln h t o) && Nat.ble n.toNatClampNeg (ln h t o'))))) (mv_bh (cp h t o o' n.toNatClampNeg 0) fun h => k st h ce sl)
        | false => none
      | _ => none
    | _ => none
  | .invokevirtual _ | .invokespecial _ => match lk with
    | 0 :: j :: n :: _ => match mv_nth j G with
      | some (c, ts', f) => mv_tk n [] st fun as st => match Nat.ble (ce + c.1) MC && (Nat.ble (sl + c.2) MS && (mv_sub ts' ts && (mv_noT ts' st && (mv_noL ts' lv && Nat.ble (mv_cats st) 8)))) with
        | true => f as h fun vs h => mv_ap vs st fun st => k st h (ce + c.1) (sl + c.2)
        | false => none
      | none => none
    | 5 :: _ => match st with
      | .inr _ :: st => k st h ce sl
      | _ => none
    | _ => none
  | _ => none
/-- one instruction: 'nx' goes on behind it, 'jp' at a place -/
def mv_step (bod : Nat → Int32) (sc : Option (Nat × (Nat → Int32))) (G : List (mv_C Hp)) (MC MS : Nat) (ts : List Nat) (nx : mv_L → List mv_V → Hp → Nat → Nat → Option (List mv_V × Hp)) (jp : Nat → mv_L → List mv_V → Hp → Nat → Nat → Option (List mv_V × Hp)) (i : Instr) (lk : List Nat) (lv : mv_L) (st : List mv_V) (h : Hp) (ce sl : Nat) : Option (List mv_V × Hp) :=
  match i with
  | .getfield _ | .putfield _ | .iaload | .iastore | .aaload | .aastore | .arraylength | .getstatic _ => mv_hop rI rR ln wI wR bod sc i lk st h fun st h => nx lv st h ce sl
  | .invokestatic _ | .invokevirtual _ | .invokespecial _ | .new _ | .newarray _ | .anewarray _ => mv_cop ln nw cp G MC MS ts i lk lv st h ce sl fun st h ce sl => nx lv st h ce sl
  | .goto _ => match lk with
    | t :: _ => jp t lv st h ce sl
    | _ => none
  | .ifCond c _ => match lk with
    | t :: _ => match st with
      | .inl (.int x) :: st => mv_cmp c x 0 (jp t lv st h ce sl) (nx lv st h ce sl)
      | _ => none
    | _ => none
  | .if_icmp c _ => match lk with
    | t :: _ => match st with
      | .inl (.int y) :: .inl (.int x) :: st => mv_cmp c x y (jp t lv st h ce sl) (nx lv st h ce sl)
      | _ => none
    | _ => none
  | .ifnull _ => match lk with
    | t :: _ => match st with
      | .inr _ :: st => nx lv st h ce sl
      | .inl .null :: st => jp t lv st h ce sl
      | _ => none
    | _ => none
  | .ifnonnull _ => match lk with
    | t :: _ => match st with
      | .inr _ :: st => jp t lv st h ce sl
      | .inl .null :: st => nx lv st h ce sl
      | _ => none
    | _ => none
  | .tableswitch _ _ _ _ => match lk with
    | lo :: d :: l => match st with
      | .inl (.int x) :: st => mv_ts x lo (jp d lv st h ce sl) (fun t => jp t lv st h ce sl) l
      | _ => none
    | _ => none
  | .lookupswitch _ _ => match lk with
    | d :: l => match st with
      | .inl (.int x) :: st => mv_ls x (jp d lv st h ce sl) (fun t => jp t lv st h ce sl) l
      | _ => none
    | _ => none
  | .ireturn => match lk with
    | 1 :: _ => match st with
      | [.inl (.int x)] => mv_gd (decide (x = nI 0) || decide (x = nI 1)) (some ([.inl (.int x)], h))
      | _ => none
    | _ => match st with
      | [.inl (.int x)] => some ([.inl (.int x)], h)
      | _ => none
  | .lreturn => match st with
    | [.inl (.long x)] => some ([.inl (.long x)], h)
    | _ => none
  | .areturn => match st with
    | [.inr q] => some ([.inr q], h)
    | [.inl .null] => some ([.inl .null], h)
    | _ => none
  | .return_ => match st with
    | [] => some ([], h)
    | _ => none
  | i => mv_lop i lk lv st fun lv st => nx lv st h ce sl
def mv_nx (stops : List Nat) (ka : Nat → mv_L → List mv_V → Hp → Nat → Nat → Option (List mv_V × Hp)) (go : List mv_E → mv_L → List mv_V → Hp → Nat → Nat → Option (List mv_V × Hp)) (cs : List mv_E) (lv : mv_L) (st : List mv_V) (h : Hp) (ce sl : Nat) : Option (List mv_V × Hp) := match cs with
  | [] => none
  | e :: cs => match mv_mem e.1 stops with
    | true => ka e.1 lv st h ce sl
    | false => go (e :: cs) lv st h ce sl
/-- a stretch of code, up to returns and to the places 'stops', where 'ka' goes on -/
def mv_blk (bod : Nat → Int32) (sc : Option (Nat × (Nat → Int32))) (tab : List mv_E) (G : List (mv_C Hp)) (MC MS : Nat) (ts : List Nat) (stops : List Nat) (ka : Nat → mv_L → List mv_V → Hp → Nat → Nat → Option (List mv_V × Hp)) : Nat → List mv_E → mv_L → List mv_V → Hp → Nat → Nat → Option (List mv_V × Hp)
  | 0 => fun _ _ _ _ _ _ => none
  | n + 1 => fun cs lv st h ce sl => match cs with
    | [] => none
    | e :: cs => mv_step rI rR ln wI wR nw cp bod sc G MC MS ts (mv_nx stops ka (mv_blk bod sc tab G MC MS ts stops ka n) cs) (fun t => mv_nx stops ka (mv_blk bod sc tab G MC MS ts stops ka n) (mv_seek t tab)) e.2.1 e.2.2.2 lv st h ce sl
end
end
section
/-! THE HEAP of a run once both systems stand: ints by tag, number, place; what the sheets and shelves hold (numbers of rows), a row's items, its length, how many rows and items there are -/
abbrev SH2 : Type := ((Nat → Option Nat) × (Nat → Option Nat)) × ((Nat → Option Nat) × ((Nat → Nat) × (Nat × Nat)))
abbrev H2 : Type := (Nat → Nat → Nat → Int32) × SH2
abbrev O2 : Type := Option (List mv_V × H2)
def mv_up3 (I : Nat → Nat → Nat → Int32) (t o k : Nat) (v : Int32) : Nat → Nat → Nat → Int32 := fun t' o' k' => cond (Nat.beq t' t && (Nat.beq o' o && Nat.beq k' k)) v (I t' o' k')
def mv_up1 {α : Type} (f : Nat → α) (k : Nat) (v : α) : Nat → α := fun k' => cond (Nat.beq k' k) v (f k')
def rI2 (h : H2) (t o k : Nat) : Int32 := h.1 t o k
def sht2 (h : H2) (k : Nat) : Option Nat := h.2.1.1 k
def hld2 (h : H2) (k : Nat) : Option Nat := h.2.1.2 k
def itm2 (h : H2) (r : Nat) : Option Nat := h.2.2.1 r
def len2 (h : H2) (r : Nat) : Nat := h.2.2.2.1 r
def nr2 (h : H2) : Nat := h.2.2.2.2.1
def ni2 (h : H2) : Nat := h.2.2.2.2.2
def mv_lens : List (Nat × Nat) := [(300, 4), (301, 8), (302, 8), (303, 6), (304, 8), (305, 8), (306, 8), (307, 8), (308, 8), (100, 30), (400, 30), (600, 4), (601, 4), (700, 200), (807, 4), (900, 4), (901, 4), (902, 69), (903, 69), (904, 69), (906, 200), (911, 30), (913, 4), (914, 4), (915, 160), (916, 4), (917, 4), (918, 4), (919, 30)]
def mv_lk (t : Nat) : List (Nat × Nat) → Nat
  | [] => 0
  | q :: l => cond (Nat.beq q.1 t) q.2 (mv_lk t l)
def ln2 (h : H2) (t o : Nat) : Nat := cond (Nat.beq t 501) (len2 h o) (mv_lk t mv_lens)
def wI2 (h : H2) (t o k : Nat) (v : Int32) : H2 := (mv_up3 h.1 t o k v, h.2)
def rR2 (h : H2) (t o k : Nat) (ka : Option (Nat × Nat) → O2) : O2 :=
  cond (Nat.beq t 2) (ka (some (300 + k, o))) (cond (Nat.beq t 8) (ka (some (900 + k, o))) (cond (Nat.beq t 7) (match k with
    | 0 => ka (some (2, 0))
    | 1 => ka (some (2, 1))
    | 2 => ka (some (2, 2))
    | 4 => ka (some (1, 0))
    | 5 => ka (some (6, 0))
    | 6 => ka (some (3, 0))
    | 7 => ka (some (807, o))
    | 8 => ka (some (5, 0))
    | 9 => ka (some (0, 0))
    | _ => none) (cond (Nat.beq t 1) (ka (some (2, 3))) (cond (Nat.beq t 0) (ka (some (100, o))) (cond (Nat.beq t 3) (ka (some (400, o))) (cond (Nat.beq t 5) (ka (some (600 + k, o))) (cond (Nat.beq t 6) (ka (some (700, o))) (cond (Nat.beq t 4 && Nat.beq k 1) (mv_el (itm2 h o) (ka none) fun r => ka (some (501, r))) (cond (Nat.beq t 807) (mv_el (sht2 h k) (ka none) fun r => ka (some (4, r))) (cond (Nat.beq t 601) (mv_el (hld2 h k) (ka none) fun r => ka (some (4, r))) none))))))))))
def wR2 (h : H2) (t o k : Nat) (q : Option (Nat × Nat)) (ka : H2 → O2) : O2 := match q with
  | none => cond (Nat.beq t 807) (ka (h.1, (mv_up1 h.2.1.1 k none, h.2.1.2), h.2.2)) (cond (Nat.beq t 601) (ka (h.1, (h.2.1.1, mv_up1 h.2.1.2 k none), h.2.2)) none)
  | some (u, r) => cond (Nat.beq t 807 && Nat.beq u 4) (mv_gd (Nat.ble (r + 1) (nr2 h)) (ka (h.1, (mv_up1 h.2.1.1 k (some r), h.2.1.2), h.2.2))) (cond (Nat.beq t 601 && Nat.beq u 4) (mv_gd (Nat.ble (r + 1) (nr2 h)) (ka (h.1, (h.2.1.1, mv_up1 h.2.1.2 k (some r)), h.2.2))) (cond (Nat.beq t 4 && (Nat.beq u 501 && Nat.beq k 1)) (mv_gd (Nat.ble (r + 1) (ni2 h)) (ka (h.1, h.2.1, mv_up1 h.2.2.1 o (some r), h.2.2.2))) none))
def nw2 (h : H2) (t n : Nat) (ka : Nat → H2 → O2) : O2 :=
  cond (Nat.beq t 4) (ka (nr2 h) (fun t' o' k' => cond (Nat.beq t' 4 && Nat.beq o' (nr2 h)) 0 (h.1 t' o' k'), h.2.1, mv_up1 h.2.2.1 (nr2 h) none, h.2.2.2.1, nr2 h + 1, ni2 h)) (cond (Nat.beq t 501) (ka (ni2 h) (fun t' o' k' => cond (Nat.beq t' 501 && Nat.beq o' (ni2 h)) 0 (h.1 t' o' k'), h.2.1, h.2.2.1, mv_up1 h.2.2.2.1 (ni2 h) n, nr2 h, ni2 h + 1)) none)
def cp2 (h : H2) (t o o' n _z : Nat) : H2 := (fun t' q k => cond (Nat.beq t' t && (Nat.beq q o' && decide (k < n))) (h.1 t o k) (h.1 t' q k), h.2)
def mv_rV (r : O2) (k : H2 → O2) : O2 := match r with
  | some ([], h) => k h
  | _ => none
def mv_rI (r : O2) (k : Int32 → H2 → O2) : O2 := match r with
  | some ([.inl (.int x)], h) => k x h
  | _ => none
def mv_rL (r : O2) (k : Int64 → H2 → O2) : O2 := match r with
  | some ([.inl (.long x)], h) => k x h
  | _ => none
def mv_rR (t : Nat) (r : O2) (k : Nat → H2 → O2) : O2 := match r with
  | some ([.inr (u, n)], h) => mv_gd (Nat.beq u t) (k n h)
  | _ => none
def mv_rQ (r : O2) (a : H2 → O2) (k : Nat → H2 → O2) : O2 := match r with
  | some ([.inl .null], h) => a h
  | some ([.inr (u, n)], h) => mv_gd (Nat.beq u 4) (k n h)
  | _ => none
def mv_gI (k : Nat) (lv : mv_L) (f : Int32 → O2) : O2 := match mv_get k lv with
  | some (.inl (.int x)) => f x
  | _ => none
def mv_gL (k : Nat) (lv : mv_L) (f : Int64 → O2) : O2 := match mv_get k lv with
  | some (.inl (.long x)) => f x
  | _ => none
def mv_gR (k t : Nat) (lv : mv_L) (f : Nat → O2) : O2 := match mv_get k lv with
  | some (.inr (u, o)) => mv_gd (Nat.beq u t) (f o)
  | _ => none
def mv_sI (st : List mv_V) (f : Int32 → List mv_V → O2) : O2 := match st with
  | .inl (.int x) :: st => f x st
  | _ => none
def mv_sL (st : List mv_V) (f : Int64 → List mv_V → O2) : O2 := match st with
  | .inl (.long x) :: st => f x st
  | _ => none
def mv_sR (t : Nat) (st : List mv_V) (f : Nat → List mv_V → O2) : O2 := match st with
  | .inr (u, o) :: st => mv_gd (Nat.beq u t) (f o st)
  | _ => none
def mv_sE (st : List mv_V) (r : O2) : O2 := match st with
  | [] => r
  | _ => none
def mv_bod : List Int32 := [10, 11, 12, 13, 10, 20, 12, 13, 30, 11, 12, 31, 51, 20, 50, 13, 40, 41, 12, 31, 10, 11, 61, 60]
def bod (k : Nat) : Int32 := mv_bod.getD k 0
end
section
def stx : Nat → List Int32
  | 0 => [118, 97, 116]
  | 1 => [115, 116, 114, 111, 110, 103]
  | 2 => [100, 97, 121]
  | 3 => [97, 98, 111, 117, 116]
  | 4 => [100, 101, 101, 112]
  | 5 => [104, 117, 110, 103]
  | 6 => [111, 102]
  | 7 => [99, 108, 111, 116, 104]
  | 8 => [119, 111, 111, 108]
  | 9 => [108, 105, 110, 101, 110]
  | 10 => [102, 101, 108, 116]
  | 11 => [115, 104, 114, 111, 117, 100]
  | 12 => [109, 117, 115, 108, 105, 110]
  | 13 => [109, 111, 114, 100, 97, 110, 116]
  | 14 => [108, 105, 103, 104, 116]
  | 15 => [113, 117, 97, 114, 114, 101, 108]
  | 16 => [115, 108, 105, 112]
  | 17 => [99, 108, 111, 116, 104]
  | 18 => [119, 111, 111, 108]
  | 19 => [108, 105, 110, 101, 110]
  | 20 => [102, 101, 108, 116]
  | 21 => [115, 104, 114, 111, 117, 100]
  | 22 => [109, 117, 115, 108, 105, 110]
  | 23 => [97, 98, 111, 117, 116]
  | 24 => [100, 101, 101, 112]
  | 25 => [104, 117, 110, 103]
  | 26 => [109, 111, 114, 100, 97, 110, 116]
  | 27 => [108, 105, 103, 104, 116]
  | 28 => [113, 117, 97, 114, 114, 101, 108]
  | 29 => [115, 108, 105, 112]
  | 30 => [118, 97, 116]
  | 31 => [111, 102]
  | 32 => [115, 116, 114, 111, 110, 103]
  | 33 => []
  | 34 => [100, 97, 121]
  | 35 => [59]
  | _ => []
def stl (q : Nat) : Nat := (stx q).length
def stc (q k : Nat) : Int32 := (stx q).getD k 0
def cJ0_len : List mv_V → H2 → (List mv_V → H2 → O2) → O2 := fun as h k => match as with
  | [.inr (t, q)] => mv_gd (Nat.beq t 11) (k [.inl (.int (nI (stl q)))] h)
  | _ => none
def cJ0_chr : List mv_V → H2 → (List mv_V → H2 → O2) → O2 := fun as h k => match as with
  | [.inr (t, q), .inl (.int i)] => mv_gd (Nat.beq t 11) (mv_gd (mv_inb i (stl q)) (k [.inl (.int (stc q i.toNatClampNeg))] h))
  | _ => none
def fA_forget (o0 : Nat) (h : H2) : O2 :=
  mv_bh (wI2 h 0 o0 1 (nI 0)) fun h1 =>
  some ([], h1)
def cA_forget : List mv_V → H2 → (List mv_V → H2 → O2) → O2 := fun as h k => match as with
  | [.inr (t0, o0)] => mv_gd (Nat.beq t0 0) <| mv_rV (fA_forget o0 h) fun h => k [] h
  | _ => none
def fA_hold (o0 : Nat) (v1 : Int32) (v2 : Int32) (v3 : Int32) (h : H2) : O2 :=
  mv_bh (wI2 h 0 o0 2 v1) fun h1 =>
  mv_bh (wI2 h1 0 o0 3 v2) fun h2 =>
  mv_bh (wI2 h2 0 o0 4 v3) fun h3 =>
  some ([], h3)
def cA_hold : List mv_V → H2 → (List mv_V → H2 → O2) → O2 := fun as h k => match as with
  | [.inr (t0, o0), .inl (.int v1), .inl (.int v2), .inl (.int v3)] => mv_gd (Nat.beq t0 0) <| mv_rV (fA_hold o0 v1 v2 v3 h) fun h => k [] h
  | _ => none
def fA_note (o0 : Nat) (v1 : Int32) (h : H2) : O2 :=
  if (nI 30) ≤ (rI2 h 0 o0 1) then (
    some ([], h))
  else
  mv_bh (wI2 h 0 o0 1 ((rI2 h 0 o0 1) + (nI 1))) fun h1 =>
  mv_gd (mv_inb (rI2 h 0 o0 1) 30) <|
  mv_bh (wI2 h1 100 o0 (rI2 h 0 o0 1).toNatClampNeg v1) fun h2 =>
  some ([], h2)
def cA_note : List mv_V → H2 → (List mv_V → H2 → O2) → O2 := fun as h k => match as with
  | [.inr (t0, o0), .inl (.int v1)] => mv_gd (Nat.beq t0 0) <| mv_rV (fA_note o0 v1 h) fun h => k [] h
  | _ => none
def fA_parted (o0 : Nat) (v1 : Int32) (v2 : Int32) (h : H2) : O2 :=
  if v2 = 0 then (
    mv_gd (decide (nI 1 = nI 0) || decide (nI 1 = nI 1)) <|
    mv_bh (wI2 h 0 o0 5 (nI 1)) fun h1 =>
    some ([Sum.inl (Value.int (nI 0))], h1))
  else
  mv_gd (!decide (v2 = 0)) <|
  some ([Sum.inl (Value.int (v1 / v2))], h)
def cA_parted : List mv_V → H2 → (List mv_V → H2 → O2) → O2 := fun as h k => match as with
  | [.inr (t0, o0), .inl (.int v1), .inl (.int v2)] => mv_gd (Nat.beq t0 0) <| mv_rI (fA_parted o0 v1 v2 h) fun x h => k [.inl (.int x)] h
  | _ => none
def fA_own (bd : Nat → Int32 → Int32 → Int32 → H2 → O2) (o0 : Nat) (v1 : Int32) (v2 : Int32) (v3 : Int32) (h : H2) : O2 :=
  mv_gd (mv_inb (((rI2 h 0 o0 2) * (nI 4)) + v1) 24) <|
  mv_rI (bd o0 (bod (((rI2 h 0 o0 2) * (nI 4)) + v1).toNatClampNeg) v2 (v3 + (nI 1)) h) fun r2 h1 =>
  some ([Sum.inl (Value.int r2)], h1)
def cA_own (bd : Nat → Int32 → Int32 → Int32 → H2 → O2) : List mv_V → H2 → (List mv_V → H2 → O2) → O2 := fun as h k => match as with
  | [.inr (t0, o0), .inl (.int v1), .inl (.int v2), .inl (.int v3)] => mv_gd (Nat.beq t0 0) <| mv_rI (fA_own bd o0 v1 v2 v3 h) fun x h => k [.inl (.int x)] h
  | _ => none
def cA_body (bd : Nat → Int32 → Int32 → Int32 → H2 → O2) : List mv_V → H2 → (List mv_V → H2 → O2) → O2 := fun as h k => match as with
  | [.inr (t0, o0), .inl (.int v1), .inl (.int v2), .inl (.int v3)] => mv_gd (Nat.beq t0 0) <| mv_rI (bd o0 v1 v2 v3 h) fun x h => k [.inl (.int x)] h
  | _ => none
def fA_bodyF (bd : Nat → Int32 → Int32 → Int32 → H2 → O2) (o0 : Nat) (v1 : Int32) (v2 : Int32) (v3 : Int32) (h : H2) : O2 :=
  if (rI2 h 0 o0 5) = 0 then (
    if v3 ≤ (nI 20) then (
      mv_rV (fA_note o0 v1 h) fun h1 =>
      if v1 = nI 10 then (
        some ([Sum.inl (Value.int ((v2 * (nI 5)) + (rI2 h1 0 o0 3)))], h1))
      else
      if v1 = nI 11 then (
        mv_rI (fA_own bd o0 (nI 0) v2 v3 h1) fun r3 h2 =>
        some ([Sum.inl (Value.int (r3 + ((rI2 h2 0 o0 4) * (nI 9))))], h2))
      else
      if v1 = nI 12 then (
        mv_rI (fA_parted o0 v2 ((rI2 h1 0 o0 4) - (rI2 h1 0 o0 3)) h1) fun r5 h4 =>
        some ([Sum.inl (Value.int r5)], h4))
      else
      if v1 = nI 13 then (
        mv_rI (fA_own bd o0 (nI 1) v2 v3 h1) fun r7 h6 =>
        some ([Sum.inl (Value.int (r7 ^^^ (nI 240)))], h6))
      else
      if v1 = nI 14 then (
        some ([Sum.inl (Value.int (nI 0))], h1))
      else
      if v1 = nI 15 then (
        some ([Sum.inl (Value.int (nI 0))], h1))
      else
      if v1 = nI 16 then (
        some ([Sum.inl (Value.int (nI 0))], h1))
      else
      if v1 = nI 17 then (
        some ([Sum.inl (Value.int (nI 0))], h1))
      else
      if v1 = nI 18 then (
        some ([Sum.inl (Value.int (nI 0))], h1))
      else
      if v1 = nI 19 then (
        some ([Sum.inl (Value.int (nI 0))], h1))
      else
      if v1 = nI 20 then (
        mv_rI (bd o0 (nI 11) v2 (v3 + (nI 1)) h1) fun r9 h8 =>
        some ([Sum.inl (Value.int (r9 - (nI 6)))], h8))
      else
      if v1 = nI 21 then (
        some ([Sum.inl (Value.int (nI 0))], h1))
      else
      if v1 = nI 22 then (
        some ([Sum.inl (Value.int (nI 0))], h1))
      else
      if v1 = nI 23 then (
        some ([Sum.inl (Value.int (nI 0))], h1))
      else
      if v1 = nI 24 then (
        some ([Sum.inl (Value.int (nI 0))], h1))
      else
      if v1 = nI 25 then (
        some ([Sum.inl (Value.int (nI 0))], h1))
      else
      if v1 = nI 26 then (
        some ([Sum.inl (Value.int (nI 0))], h1))
      else
      if v1 = nI 27 then (
        some ([Sum.inl (Value.int (nI 0))], h1))
      else
      if v1 = nI 28 then (
        some ([Sum.inl (Value.int (nI 0))], h1))
      else
      if v1 = nI 29 then (
        some ([Sum.inl (Value.int (nI 0))], h1))
      else
      if v1 = nI 30 then (
        mv_rI (bd o0 (nI 10) v2 (v3 + (nI 1)) h1) fun r11 h10 =>
        some ([Sum.inl (Value.int (r11 * (nI 2)))], h10))
      else
      if v1 = nI 31 then (
        mv_rI (bd o0 (nI 13) v2 (v3 + (nI 1)) h1) fun r13 h12 =>
        mv_rI (fA_own bd o0 (nI 2) (rI2 h12 0 o0 3) v3 h12) fun r15 h14 =>
        some ([Sum.inl (Value.int (r13 + r15))], h14))
      else
      if v1 = nI 32 then (
        some ([Sum.inl (Value.int (nI 0))], h1))
      else
      if v1 = nI 33 then (
        some ([Sum.inl (Value.int (nI 0))], h1))
      else
      if v1 = nI 34 then (
        some ([Sum.inl (Value.int (nI 0))], h1))
      else
      if v1 = nI 35 then (
        some ([Sum.inl (Value.int (nI 0))], h1))
      else
      if v1 = nI 36 then (
        some ([Sum.inl (Value.int (nI 0))], h1))
      else
      if v1 = nI 37 then (
        some ([Sum.inl (Value.int (nI 0))], h1))
      else
      if v1 = nI 38 then (
        some ([Sum.inl (Value.int (nI 0))], h1))
      else
      if v1 = nI 39 then (
        some ([Sum.inl (Value.int (nI 0))], h1))
      else
      if v1 = nI 40 then (
        mv_rI (bd o0 (nI 30) v2 (v3 + (nI 1)) h1) fun r17 h16 =>
        some ([Sum.inl (Value.int ((nI 0) - r17))], h16))
      else
      if v1 = nI 41 then (
        mv_rI (bd o0 (nI 11) v2 (v3 + (nI 1)) h1) fun r19 h18 =>
        mv_rI (fA_own bd o0 (nI 0) (rI2 h18 0 o0 4) v3 h18) fun r21 h20 =>
        some ([Sum.inl (Value.int (r19 ^^^ r21))], h20))
      else
      if v1 = nI 42 then (
        some ([Sum.inl (Value.int (nI 0))], h1))
      else
      if v1 = nI 43 then (
        some ([Sum.inl (Value.int (nI 0))], h1))
      else
      if v1 = nI 44 then (
        some ([Sum.inl (Value.int (nI 0))], h1))
      else
      if v1 = nI 45 then (
        some ([Sum.inl (Value.int (nI 0))], h1))
      else
      if v1 = nI 46 then (
        some ([Sum.inl (Value.int (nI 0))], h1))
      else
      if v1 = nI 47 then (
        some ([Sum.inl (Value.int (nI 0))], h1))
      else
      if v1 = nI 48 then (
        some ([Sum.inl (Value.int (nI 0))], h1))
      else
      if v1 = nI 49 then (
        some ([Sum.inl (Value.int (nI 0))], h1))
      else
      if v1 = nI 50 then (
        mv_rI (bd o0 (nI 12) (v2 + (nI 3)) (v3 + (nI 1)) h1) fun r23 h22 =>
        some ([Sum.inl (Value.int (r23 + (rI2 h22 0 o0 4)))], h22))
      else
      if v1 = nI 51 then (
        mv_rI (bd o0 (nI 10) v2 (v3 + (nI 1)) h1) fun r25 h24 =>
        some ([Sum.inl (Value.int (r25 - (nI 2)))], h24))
      else
      if v1 = nI 52 then (
        some ([Sum.inl (Value.int (nI 0))], h1))
      else
      if v1 = nI 53 then (
        some ([Sum.inl (Value.int (nI 0))], h1))
      else
      if v1 = nI 54 then (
        some ([Sum.inl (Value.int (nI 0))], h1))
      else
      if v1 = nI 55 then (
        some ([Sum.inl (Value.int (nI 0))], h1))
      else
      if v1 = nI 56 then (
        some ([Sum.inl (Value.int (nI 0))], h1))
      else
      if v1 = nI 57 then (
        some ([Sum.inl (Value.int (nI 0))], h1))
      else
      if v1 = nI 58 then (
        some ([Sum.inl (Value.int (nI 0))], h1))
      else
      if v1 = nI 59 then (
        some ([Sum.inl (Value.int (nI 0))], h1))
      else
      if v1 = nI 60 then (
        mv_rI (bd o0 (nI 13) v2 (v3 + (nI 1)) h1) fun r27 h26 =>
        some ([Sum.inl (Value.int (r27 * (nI 3)))], h26))
      else
      if v1 = nI 61 then (
        mv_rI (bd o0 (nI 12) v2 (v3 + (nI 1)) h1) fun r29 h28 =>
        mv_rI (fA_own bd o0 (nI 0) (rI2 h28 0 o0 3) v3 h28) fun r31 h30 =>
        some ([Sum.inl (Value.int (r29 - r31))], h30))
      else
      some ([Sum.inl (Value.int (nI 0))], h1))
    else
    some ([Sum.inl (Value.int (nI 0))], h))
  else
  some ([Sum.inl (Value.int (nI 0))], h)
def fA_body : Nat → Nat → Int32 → Int32 → Int32 → H2 → O2
  | 0 => fun _ _ _ _ _ => none
  | n + 1 => fA_bodyF (fA_body n)
def fA_perform (o0 : Nat) (v1 : Int32) (v2 : Int32) (h : H2) : O2 :=
  mv_gd (decide (nI 0 = nI 0) || decide (nI 0 = nI 1)) <|
  mv_bh (wI2 h 0 o0 5 (nI 0)) fun h1 =>
  mv_rI (fA_own (fA_body 50) o0 v1 v2 (nI 0) h1) fun r3 h2 =>
  mv_bi r3 fun x4 =>
  if (rI2 h2 0 o0 5) = 0 then (
    some ([Sum.inl (Value.int x4)], h2))
  else
  some ([Sum.inl (Value.int (-(nI 15)))], h2)
def cA_perform : List mv_V → H2 → (List mv_V → H2 → O2) → O2 := fun as h k => match as with
  | [.inr (t0, o0), .inl (.int v1), .inl (.int v2)] => mv_gd (Nat.beq t0 0) <| mv_rI (fA_perform o0 v1 v2 h) fun x h => k [.inl (.int x)] h
  | _ => none
def fC_choices_b5 : Nat → Int32 → Int32 → Int64 → Int32 → H2 → O2
  | 0 => fun _ _ _ _ _ => none
  | n + 1 => fun v0 v1 w2 v4 h =>
    if v1 < v4 then (
      some ([Sum.inl (Value.long w2)], h))
    else
    mv_gd (!decide (v4.toInt64 = 0)) <|
    mv_bl ((w2 * (((v0 - v1) + v4).toInt64)) / v4.toInt64) fun y1 =>
    mv_bi (v4 + (nI 1)) fun x2 =>
    fC_choices_b5 n v0 v1 y1 x2 h
def fC_choices (v0 : Int32) (v1 : Int32) (h : H2) : O2 :=
  mv_bl (lN 1) fun y1 =>
  mv_bi (nI 1) fun x2 =>
  fC_choices_b5 1000 v0 v1 y1 x2 h
def cC_choices : List mv_V → H2 → (List mv_V → H2 → O2) → O2 := fun as h k => match as with
  | [.inl (.int v0), .inl (.int v1)] => mv_rL (fC_choices v0 v1 h) fun x h => k [.inl (.long x)] h
  | _ => none
def fC_commonDivisor_b9 : Nat → Int64 → Int64 → Int32 → H2 → O2
  | 0 => fun _ _ _ _ => none
  | n + 1 => fun w4 w6 v8 h =>
    if (nI 200) ≤ v8 then (
      some ([Sum.inl (Value.long w4)], h))
    else
    if (lg_cmp w6 (lN 0)) = 0 then (
      some ([Sum.inl (Value.long w4)], h))
    else
    mv_gd (!decide (w6 = 0)) <|
    mv_bl (w4 - w4 / w6 * w6) fun y1 =>
    mv_bl w6 fun y2 =>
    mv_bl y1 fun y3 =>
    mv_bi (v8 + (nI 1)) fun x4 =>
    fC_commonDivisor_b9 n y2 y3 x4 h
def fC_commonDivisor (w0 : Int64) (w2 : Int64) (h : H2) : O2 :=
  mv_bl w0 fun y1 =>
  mv_bl w2 fun y2 =>
  mv_bi (nI 0) fun x3 =>
  fC_commonDivisor_b9 1000 y1 y2 x3 h
def cC_commonDivisor : List mv_V → H2 → (List mv_V → H2 → O2) → O2 := fun as h k => match as with
  | [.inl (.long w0), .inl (.long w2)] => mv_rL (fC_commonDivisor w0 w2 h) fun x h => k [.inl (.long x)] h
  | _ => none
def fC_partOf (w0 : Int64) (w2 : Int64) (v4 : Int32) (h : H2) : O2 :=
  mv_rL (fC_commonDivisor w0 w2 h) fun r2 h1 =>
  mv_bl r2 fun y3 =>
  if (lg_cmp y3 (lN 0)) = 0 then (
    some ([Sum.inl (Value.long v4.toInt64)], h1))
  else
  if v4 = 0 then (
    mv_gd (!decide (y3 = 0)) <|
    some ([Sum.inl (Value.long (w0 / y3))], h1))
  else
  mv_gd (!decide (y3 = 0)) <|
  some ([Sum.inl (Value.long (w2 / y3))], h1)
def cC_partOf : List mv_V → H2 → (List mv_V → H2 → O2) → O2 := fun as h k => match as with
  | [.inl (.long w0), .inl (.long w2), .inl (.int v4)] => mv_rL (fC_partOf w0 w2 v4 h) fun x h => k [.inl (.long x)] h
  | _ => none
def fC_justSlip_b13 : Nat → Int32 → Int32 → Int32 → Int32 → Int64 → Int64 → Int32 → H2 → O2
  | 0 => fun _ _ _ _ _ _ _ _ => none
  | n + 1 => fun v0 v1 v2 v3 w4 w6 v8 h =>
    if v0 ≤ v8 then (
      mv_rL (fC_partOf w4 w6 v3 h) fun r2 h1 =>
      some ([Sum.inl (Value.long r2)], h1))
    else
    if v1 ≤ v8 then (
      mv_bl (w4 * (((nI 100) - v2).toInt64)) fun y3 =>
      mv_bl (w6 * (lN 100)) fun y4 =>
      mv_bi (v8 + (nI 1)) fun x5 =>
      fC_justSlip_b13 n v0 v1 v2 v3 y3 y4 x5 h)
    else
    mv_bl (w4 * v2.toInt64) fun y6 =>
    mv_bl (w6 * (lN 100)) fun y7 =>
    mv_bi (v8 + (nI 1)) fun x8 =>
    fC_justSlip_b13 n v0 v1 v2 v3 y6 y7 x8 h
def fC_justSlip (v0 : Int32) (v1 : Int32) (v2 : Int32) (v3 : Int32) (h : H2) : O2 :=
  mv_rL (fC_choices v0 v1 h) fun r2 h1 =>
  mv_bl r2 fun y3 =>
  mv_bl (lN 1) fun y4 =>
  mv_bi (nI 0) fun x5 =>
  fC_justSlip_b13 1000 v0 v1 v2 v3 y3 y4 x5 h1
def cC_justSlip : List mv_V → H2 → (List mv_V → H2 → O2) → O2 := fun as h k => match as with
  | [.inl (.int v0), .inl (.int v1), .inl (.int v2), .inl (.int v3)] => mv_rL (fC_justSlip v0 v1 v2 v3 h) fun x h => k [.inl (.long x)] h
  | _ => none
def fM_copyFrom (o0 : Nat) (o1 : Nat) (h : H2) : O2 :=
  mv_gd (decide (nI 0 = nI 0) && (decide (nI 0 = nI 0) && (!decide ((nI 4) < 0) && (Nat.ble (nI 4).toNatClampNeg 4 && Nat.ble (nI 4).toNatClampNeg 4)))) <|
  mv_bh (cp2 h 300 o1 o0 (nI 4).toNatClampNeg 0) fun h1 =>
  mv_gd (decide (nI 0 = nI 0) && (decide (nI 0 = nI 0) && (!decide ((nI 8) < 0) && (Nat.ble (nI 8).toNatClampNeg 8 && Nat.ble (nI 8).toNatClampNeg 8)))) <|
  mv_bh (cp2 h1 301 o1 o0 (nI 8).toNatClampNeg 0) fun h2 =>
  mv_gd (decide (nI 0 = nI 0) && (decide (nI 0 = nI 0) && (!decide ((nI 8) < 0) && (Nat.ble (nI 8).toNatClampNeg 8 && Nat.ble (nI 8).toNatClampNeg 8)))) <|
  mv_bh (cp2 h2 302 o1 o0 (nI 8).toNatClampNeg 0) fun h3 =>
  mv_gd (decide (nI 0 = nI 0) && (decide (nI 0 = nI 0) && (!decide ((nI 6) < 0) && (Nat.ble (nI 6).toNatClampNeg 6 && Nat.ble (nI 6).toNatClampNeg 6)))) <|
  mv_bh (cp2 h3 303 o1 o0 (nI 6).toNatClampNeg 0) fun h4 =>
  mv_gd (decide (nI 0 = nI 0) && (decide (nI 0 = nI 0) && (!decide ((nI 8) < 0) && (Nat.ble (nI 8).toNatClampNeg 8 && Nat.ble (nI 8).toNatClampNeg 8)))) <|
  mv_bh (cp2 h4 304 o1 o0 (nI 8).toNatClampNeg 0) fun h5 =>
  mv_gd (decide (nI 0 = nI 0) && (decide (nI 0 = nI 0) && (!decide ((nI 8) < 0) && (Nat.ble (nI 8).toNatClampNeg 8 && Nat.ble (nI 8).toNatClampNeg 8)))) <|
  mv_bh (cp2 h5 305 o1 o0 (nI 8).toNatClampNeg 0) fun h6 =>
  mv_gd (decide (nI 0 = nI 0) && (decide (nI 0 = nI 0) && (!decide ((nI 8) < 0) && (Nat.ble (nI 8).toNatClampNeg 8 && Nat.ble (nI 8).toNatClampNeg 8)))) <|
  mv_bh (cp2 h6 306 o1 o0 (nI 8).toNatClampNeg 0) fun h7 =>
  mv_gd (decide (nI 0 = nI 0) && (decide (nI 0 = nI 0) && (!decide ((nI 8) < 0) && (Nat.ble (nI 8).toNatClampNeg 8 && Nat.ble (nI 8).toNatClampNeg 8)))) <|
  mv_bh (cp2 h7 307 o1 o0 (nI 8).toNatClampNeg 0) fun h8 =>
  mv_gd (decide (nI 0 = nI 0) && (decide (nI 0 = nI 0) && (!decide ((nI 8) < 0) && (Nat.ble (nI 8).toNatClampNeg 8 && Nat.ble (nI 8).toNatClampNeg 8)))) <|
  mv_bh (cp2 h8 308 o1 o0 (nI 8).toNatClampNeg 0) fun h9 =>
  mv_bh (wI2 h9 2 o0 9 (rI2 h9 2 o1 9)) fun h10 =>
  mv_bh (wI2 h10 2 o0 10 (rI2 h10 2 o1 10)) fun h11 =>
  mv_bh (wI2 h11 2 o0 11 (rI2 h11 2 o1 11)) fun h12 =>
  some ([], h12)
def cM_copyFrom : List mv_V → H2 → (List mv_V → H2 → O2) → O2 := fun as h k => match as with
  | [.inr (t0, o0), .inr (t1, o1)] => mv_gd (Nat.beq t0 2) <| mv_gd (Nat.beq t1 2) <| mv_rV (fM_copyFrom o0 o1 h) fun h => k [] h
  | _ => none
def fM_vatOfToday (o0 : Nat) (h : H2) : O2 :=
  mv_gd (!decide ((nI 6) = 0)) <|
  mv_gd (mv_inb ((rI2 h 2 o0 10) - (rI2 h 2 o0 10) / (nI 6) * (nI 6)) 6) <|
  some ([Sum.inl (Value.int (rI2 h 303 o0 ((rI2 h 2 o0 10) - (rI2 h 2 o0 10) / (nI 6) * (nI 6)).toNatClampNeg))], h)
def cM_vatOfToday : List mv_V → H2 → (List mv_V → H2 → O2) → O2 := fun as h k => match as with
  | [.inr (t0, o0)] => mv_gd (Nat.beq t0 2) <| mv_rI (fM_vatOfToday o0 h) fun x h => k [.inl (.int x)] h
  | _ => none
def fM_takes (o0 : Nat) (v1 : Int32) (v2 : Int32) (h : H2) : O2 :=
  mv_gd (mv_inb v2 8) <|
  mv_gd (mv_inb (nI 0) 4) <|
  mv_bi ((rI2 h 302 o0 v2.toNatClampNeg) + (rI2 h 300 o0 (nI 0).toNatClampNeg)) fun x1 =>
  mv_gd (mv_inb v1 8) <|
  if (rI2 h 304 o0 v1.toNatClampNeg) = nI 1 then (
    some ([Sum.inl (Value.int (x1 + (nI 3)))], h))
  else
  if (rI2 h 304 o0 v1.toNatClampNeg) = nI 2 then (
    mv_gd (mv_inb (nI 1) 4) <|
    some ([Sum.inl (Value.int (x1 - (rI2 h 300 o0 (nI 1).toNatClampNeg)))], h))
  else
  if (rI2 h 304 o0 v1.toNatClampNeg) = nI 3 then (
    some ([Sum.inl (Value.int ((x1 + (nI 3)) * (nI 2)))], h))
  else
  if (rI2 h 304 o0 v1.toNatClampNeg) = nI 4 then (
    mv_gd (mv_inb (nI 1) 4) <|
    mv_gd (mv_inb (nI 2) 4) <|
    some ([Sum.inl (Value.int ((x1 - (rI2 h 300 o0 (nI 1).toNatClampNeg)) + (rI2 h 300 o0 (nI 2).toNatClampNeg)))], h))
  else
  if (rI2 h 304 o0 v1.toNatClampNeg) = nI 5 then (
    mv_gd (!decide ((nI 2) = 0)) <|
    some ([Sum.inl (Value.int (x1 / (nI 2)))], h))
  else
  some ([Sum.inl (Value.int x1)], h)
def cM_takes : List mv_V → H2 → (List mv_V → H2 → O2) → O2 := fun as h k => match as with
  | [.inr (t0, o0), .inl (.int v1), .inl (.int v2)] => mv_gd (Nat.beq t0 2) <| mv_rI (fM_takes o0 v1 v2 h) fun x h => k [.inl (.int x)] h
  | _ => none
def fM_fights (o0 : Nat) (v1 : Int32) (v2 : Int32) (h : H2) : O2 :=
  mv_gd (mv_inb v2 8) <|
  mv_bi (rI2 h 302 o0 v2.toNatClampNeg) fun x1 =>
  mv_gd (mv_inb v1 8) <|
  if (rI2 h 304 o0 v1.toNatClampNeg) = nI 1 then (
    mv_gd (mv_inb (nI 2) 4) <|
    some ([Sum.inl (Value.int (x1 - (rI2 h 300 o0 (nI 2).toNatClampNeg)))], h))
  else
  if (rI2 h 304 o0 v1.toNatClampNeg) = nI 2 then (
    mv_gd (mv_inb (nI 2) 4) <|
    some ([Sum.inl (Value.int (x1 + (rI2 h 300 o0 (nI 2).toNatClampNeg)))], h))
  else
  if (rI2 h 304 o0 v1.toNatClampNeg) = nI 3 then (
    mv_gd (mv_inb (nI 2) 4) <|
    mv_gd (mv_inb (nI 0) 4) <|
    some ([Sum.inl (Value.int ((x1 - (rI2 h 300 o0 (nI 2).toNatClampNeg)) + (rI2 h 300 o0 (nI 0).toNatClampNeg)))], h))
  else
  if (rI2 h 304 o0 v1.toNatClampNeg) = nI 4 then (
    mv_gd (mv_inb (nI 2) 4) <|
    some ([Sum.inl (Value.int ((x1 + (rI2 h 300 o0 (nI 2).toNatClampNeg)) * (nI 2)))], h))
  else
  if (rI2 h 304 o0 v1.toNatClampNeg) = nI 5 then (
    some ([Sum.inl (Value.int (x1 + (nI 1)))], h))
  else
  some ([Sum.inl (Value.int x1)], h)
def cM_fights : List mv_V → H2 → (List mv_V → H2 → O2) → O2 := fun as h k => match as with
  | [.inr (t0, o0), .inl (.int v1), .inl (.int v2)] => mv_gd (Nat.beq t0 2) <| mv_rI (fM_fights o0 v1 v2 h) fun x h => k [.inl (.int x)] h
  | _ => none
def fM_settle (o0 : Nat) (v1 : Int32) (v2 : Int32) (h : H2) : O2 :=
  if 0 < v2 then (
    if (nI 99) ≤ v2 then (
      mv_gd (mv_inb v1 8) <|
      mv_bh (wI2 h 306 o0 v1.toNatClampNeg (nI 99)) fun h1 =>
      some ([], h1))
    else
    mv_gd (mv_inb v1 8) <|
    mv_bh (wI2 h 306 o0 v1.toNatClampNeg v2) fun h2 =>
    some ([], h2))
  else
  mv_gd (mv_inb v1 8) <|
  mv_bh (wI2 h 306 o0 v1.toNatClampNeg (nI 0)) fun h3 =>
  mv_gd (mv_inb v1 8) <|
  mv_bh (wI2 h3 305 o0 v1.toNatClampNeg (-(nI 1))) fun h4 =>
  some ([], h4)
def cM_settle : List mv_V → H2 → (List mv_V → H2 → O2) → O2 := fun as h k => match as with
  | [.inr (t0, o0), .inl (.int v1), .inl (.int v2)] => mv_gd (Nat.beq t0 2) <| mv_rV (fM_settle o0 v1 v2 h) fun h => k [] h
  | _ => none
def fM_dipInto_b84 (o0 : Nat) (v1 : Int32) (v2 : Int32) (v4 : Int32) (h : H2) : O2 :=
  mv_rV (fM_settle o0 v1 v4 h) fun h1 =>
  mv_gd (mv_inb v1 8) <|
  if (nI 9999) ≤ (rI2 h1 308 o0 v1.toNatClampNeg) then (
    mv_gd (mv_inb v2 8) <|
    if (rI2 h1 302 o0 v2.toNatClampNeg) ≤ 0 then (
      some ([], h1))
    else
    mv_gd (mv_inb v2 8) <|
    mv_gd (mv_inb v2 8) <|
    mv_bh (wI2 h1 302 o0 v2.toNatClampNeg ((rI2 h1 302 o0 v2.toNatClampNeg) - (nI 1))) fun h2 =>
    some ([], h2))
  else
  mv_gd (mv_inb v1 8) <|
  mv_gd (mv_inb v1 8) <|
  mv_bh (wI2 h1 308 o0 v1.toNatClampNeg ((rI2 h1 308 o0 v1.toNatClampNeg) + (nI 1))) fun h3 =>
  mv_gd (mv_inb v2 8) <|
  if (rI2 h3 302 o0 v2.toNatClampNeg) ≤ 0 then (
    some ([], h3))
  else
  mv_gd (mv_inb v2 8) <|
  mv_gd (mv_inb v2 8) <|
  mv_bh (wI2 h3 302 o0 v2.toNatClampNeg ((rI2 h3 302 o0 v2.toNatClampNeg) - (nI 1))) fun h4 =>
  some ([], h4)
def fM_dipInto_b27 (o0 : Nat) (v1 : Int32) (v2 : Int32) (v3 : Int32) (h : H2) : O2 :=
  mv_gd (mv_inb v1 8) <|
  mv_bh (wI2 h 305 o0 v1.toNatClampNeg v3) fun h1 =>
  mv_gd (mv_inb v1 8) <|
  mv_rI (fM_takes o0 v1 v2 h1) fun r3 h2 =>
  mv_bi ((rI2 h1 306 o0 v1.toNatClampNeg) + r3) fun x4 =>
  fM_dipInto_b84 o0 v1 v2 x4 h2
def fM_dipInto (o0 : Nat) (v1 : Int32) (v2 : Int32) (h : H2) : O2 :=
  mv_gd (mv_inb v2 8) <|
  mv_bi (rI2 h 301 o0 v2.toNatClampNeg) fun x1 =>
  mv_gd (mv_inb v1 8) <|
  if (rI2 h 305 o0 v1.toNatClampNeg) = (-(nI 1)) then (
    fM_dipInto_b27 o0 v1 v2 x1 h)
  else
  mv_gd (mv_inb v1 8) <|
  if (rI2 h 305 o0 v1.toNatClampNeg) = x1 then (
    fM_dipInto_b27 o0 v1 v2 x1 h)
  else
  mv_gd (mv_inb v1 8) <|
  mv_rI (fM_fights o0 v1 v2 h) fun r3 h2 =>
  mv_bi ((rI2 h 306 o0 v1.toNatClampNeg) - r3) fun x4 =>
  if 0 ≤ x4 then (
    fM_dipInto_b84 o0 v1 v2 x4 h2)
  else
  mv_gd (mv_inb v1 8) <|
  mv_bh (wI2 h2 305 o0 v1.toNatClampNeg x1) fun h5 =>
  mv_bi (-x4) fun x6 =>
  fM_dipInto_b84 o0 v1 v2 x6 h5
def cM_dipInto : List mv_V → H2 → (List mv_V → H2 → O2) → O2 := fun as h k => match as with
  | [.inr (t0, o0), .inl (.int v1), .inl (.int v2)] => mv_gd (Nat.beq t0 2) <| mv_rV (fM_dipInto o0 v1 v2 h) fun h => k [] h
  | _ => none
def fM_fades (o0 : Nat) (v1 : Int32) (h : H2) : O2 :=
  mv_gd (mv_inb (nI 1) 4) <|
  mv_bi (rI2 h 300 o0 (nI 1).toNatClampNeg) fun x1 =>
  mv_gd (mv_inb v1 8) <|
  if (rI2 h 304 o0 v1.toNatClampNeg) = nI 1 then (
    some ([Sum.inl (Value.int (x1 - (nI 1)))], h))
  else
  if (rI2 h 304 o0 v1.toNatClampNeg) = nI 2 then (
    some ([Sum.inl (Value.int (x1 + (nI 1)))], h))
  else
  if (rI2 h 304 o0 v1.toNatClampNeg) = nI 3 then (
    some ([Sum.inl (Value.int (nI 0))], h))
  else
  if (rI2 h 304 o0 v1.toNatClampNeg) = nI 4 then (
    some ([Sum.inl (Value.int ((x1 + (nI 1)) * (nI 2)))], h))
  else
  if (rI2 h 304 o0 v1.toNatClampNeg) = nI 5 then (
    some ([Sum.inl (Value.int (x1 + (nI 3)))], h))
  else
  some ([Sum.inl (Value.int x1)], h)
def cM_fades : List mv_V → H2 → (List mv_V → H2 → O2) → O2 := fun as h k => match as with
  | [.inr (t0, o0), .inl (.int v1)] => mv_gd (Nat.beq t0 2) <| mv_rI (fM_fades o0 v1 h) fun x h => k [.inl (.int x)] h
  | _ => none
def fM_deepen (o0 : Nat) (v1 : Int32) (v2 : Int32) (h : H2) : O2 :=
  mv_gd (mv_inb v1 8) <|
  if (rI2 h 305 o0 v1.toNatClampNeg) = (-(nI 1)) then (
    some ([], h))
  else
  mv_rV (fM_settle o0 v1 v2 h) fun h1 =>
  some ([], h1)
def cM_deepen : List mv_V → H2 → (List mv_V → H2 → O2) → O2 := fun as h k => match as with
  | [.inr (t0, o0), .inl (.int v1), .inl (.int v2)] => mv_gd (Nat.beq t0 2) <| mv_rV (fM_deepen o0 v1 v2 h) fun h => k [] h
  | _ => none
def fM_passDay_b86 : Nat → Nat → Int32 → H2 → O2
  | 0 => fun _ _ _ => none
  | n + 1 => fun o0 v2 h =>
    if (nI 8) ≤ v2 then (
      mv_bh (wI2 h 2 o0 10 ((rI2 h 2 o0 10) + (nI 1))) fun h1 =>
      some ([], h1))
    else
    mv_gd (mv_inb v2 8) <|
    if (nI 9) ≤ (rI2 h 302 o0 v2.toNatClampNeg) then (
      mv_bi (v2 + (nI 1)) fun x2 =>
      fM_passDay_b86 n o0 x2 h)
    else
    mv_gd (mv_inb v2 8) <|
    mv_gd (mv_inb v2 8) <|
    mv_bh (wI2 h 302 o0 v2.toNatClampNeg ((rI2 h 302 o0 v2.toNatClampNeg) + (nI 1))) fun h3 =>
    mv_bi (v2 + (nI 1)) fun x4 =>
    fM_passDay_b86 n o0 x4 h3
def fM_passDay_b43 : Nat → Nat → Int32 → H2 → O2
  | 0 => fun _ _ _ => none
  | n + 1 => fun o0 v2 h =>
    if (rI2 h 2 o0 9) ≤ v2 then (
      mv_bi (nI 0) fun x1 =>
      fM_passDay_b86 1000 o0 x1 h)
    else
    mv_gd (mv_inb v2 8) <|
    if (rI2 h 307 o0 v2.toNatClampNeg) = (nI 1) then (
      mv_gd (mv_inb v2 8) <|
      mv_rI (fM_fades o0 v2 h) fun r3 h2 =>
      mv_rV (fM_deepen o0 v2 ((rI2 h 306 o0 v2.toNatClampNeg) - r3) h2) fun h4 =>
      mv_bi (v2 + (nI 1)) fun x5 =>
      fM_passDay_b43 n o0 x5 h4)
    else
    mv_bi (v2 + (nI 1)) fun x6 =>
    fM_passDay_b43 n o0 x6 h
def fM_passDay_b7 : Nat → Nat → Int32 → Int32 → H2 → O2
  | 0 => fun _ _ _ _ => none
  | n + 1 => fun o0 v1 v2 h =>
    if (rI2 h 2 o0 9) ≤ v2 then (
      mv_bi (nI 0) fun x1 =>
      fM_passDay_b43 1000 o0 x1 h)
    else
    if v1 = (-(nI 1)) then (
      mv_bi (nI 0) fun x2 =>
      fM_passDay_b43 1000 o0 x2 h)
    else
    mv_gd (mv_inb v2 8) <|
    if (rI2 h 307 o0 v2.toNatClampNeg) = 0 then (
      mv_rV (fM_dipInto o0 v2 v1 h) fun h3 =>
      mv_bi (v2 + (nI 1)) fun x4 =>
      fM_passDay_b7 n o0 v1 x4 h3)
    else
    mv_bi (v2 + (nI 1)) fun x5 =>
    fM_passDay_b7 n o0 v1 x5 h
def fM_passDay (o0 : Nat) (h : H2) : O2 :=
  mv_rI (fM_vatOfToday o0 h) fun r2 h1 =>
  mv_bi r2 fun x3 =>
  mv_bi (nI 0) fun x4 =>
  fM_passDay_b7 1000 o0 x3 x4 h1
def cM_passDay : List mv_V → H2 → (List mv_V → H2 → O2) → O2 := fun as h k => match as with
  | [.inr (t0, o0)] => mv_gd (Nat.beq t0 2) <| mv_rV (fM_passDay o0 h) fun h => k [] h
  | _ => none
def fM_passDays_b2 : Nat → Nat → Int32 → Int32 → H2 → O2
  | 0 => fun _ _ _ _ => none
  | n + 1 => fun o0 v1 v2 h =>
    if v1 ≤ v2 then (
      some ([], h))
    else
    mv_rV (fM_passDay o0 h) fun h1 =>
    mv_bi (v2 + (nI 1)) fun x2 =>
    fM_passDays_b2 n o0 v1 x2 h1
def fM_passDays (o0 : Nat) (v1 : Int32) (h : H2) : O2 :=
  mv_bi (nI 0) fun x1 =>
  fM_passDays_b2 1000 o0 v1 x1 h
def cM_passDays : List mv_V → H2 → (List mv_V → H2 → O2) → O2 := fun as h k => match as with
  | [.inr (t0, o0), .inl (.int v1)] => mv_gd (Nat.beq t0 2) <| mv_rV (fM_passDays o0 v1 h) fun h => k [] h
  | _ => none
def fF_behind (o0 : Nat) (o1 : Nat) (v2 : Int32) (h : H2) : O2 :=
  mv_rV (fM_copyFrom 3 o1 h) fun h1 =>
  mv_rV (fM_passDays 3 v2 h1) fun h2 =>
  some ([Sum.inr (2, 3)], h2)
def cF_behind : List mv_V → H2 → (List mv_V → H2 → O2) → O2 := fun as h k => match as with
  | [.inr (t0, o0), .inr (t1, o1), .inl (.int v2)] => mv_gd (Nat.beq t0 1) <| mv_gd (Nat.beq t1 2) <| mv_rR 2 (fF_behind o0 o1 v2 h) fun x h => k [.inr (2, x)] h
  | _ => none
def fM_allDepths_b4 : Nat → Nat → Int32 → Int32 → H2 → O2
  | 0 => fun _ _ _ _ => none
  | n + 1 => fun o0 v1 v2 h =>
    if (rI2 h 2 o0 9) ≤ v2 then (
      some ([Sum.inl (Value.int v1)], h))
    else
    mv_gd (mv_inb v2 8) <|
    mv_bi (v1 + (rI2 h 306 o0 v2.toNatClampNeg)) fun x1 =>
    mv_bi (v2 + (nI 1)) fun x2 =>
    fM_allDepths_b4 n o0 x1 x2 h
def fM_allDepths (o0 : Nat) (h : H2) : O2 :=
  mv_bi (nI 0) fun x1 =>
  mv_bi (nI 0) fun x2 =>
  fM_allDepths_b4 1000 o0 x1 x2 h
def cM_allDepths : List mv_V → H2 → (List mv_V → H2 → O2) → O2 := fun as h k => match as with
  | [.inr (t0, o0)] => mv_gd (Nat.beq t0 2) <| mv_rI (fM_allDepths o0 h) fun x h => k [.inl (.int x)] h
  | _ => none
def fM_draw (o0 : Nat) (h : H2) : O2 :=
  mv_bh (wI2 h 2 o0 11 (((rI2 h 2 o0 11) * (nI 1103515245)) + (nI 12345))) fun h1 =>
  some ([Sum.inl (Value.int (((rI2 h1 2 o0 11).toUInt32 >>> ((nI 16).toUInt32 &&& Int32.toUInt32 31)).toInt32))], h1)
def cM_draw : List mv_V → H2 → (List mv_V → H2 → O2) → O2 := fun as h k => match as with
  | [.inr (t0, o0)] => mv_gd (Nat.beq t0 2) <| mv_rI (fM_draw o0 h) fun x h => k [.inl (.int x)] h
  | _ => none
def fM_passDrawnDay (o0 : Nat) (h : H2) : O2 :=
  if (rI2 h 2 o0 9) ≤ 0 then (
    mv_rV (fM_passDay o0 h) fun h1 =>
    some ([], h1))
  else
  mv_rI (fM_draw o0 h) fun r3 h2 =>
  mv_gd (!decide ((rI2 h2 2 o0 9) = 0)) <|
  mv_bi (r3 - r3 / (rI2 h2 2 o0 9) * (rI2 h2 2 o0 9)) fun x4 =>
  mv_rI (fM_draw o0 h2) fun r6 h5 =>
  mv_gd (!decide ((nI 100) = 0)) <|
  mv_gd (mv_inb (nI 3) 4) <|
  if (rI2 h5 300 o0 (nI 3).toNatClampNeg) ≤ (r6 - r6 / (nI 100) * (nI 100)) then (
    mv_rV (fM_passDay o0 h5) fun h7 =>
    some ([], h7))
  else
  mv_rI (fM_draw o0 h5) fun r9 h8 =>
  mv_gd (!decide ((nI 8) = 0)) <|
  mv_rV (fM_dipInto o0 x4 (r9 - r9 / (nI 8) * (nI 8)) h8) fun h10 =>
  mv_rV (fM_passDay o0 h10) fun h11 =>
  some ([], h11)
def cM_passDrawnDay : List mv_V → H2 → (List mv_V → H2 → O2) → O2 := fun as h k => match as with
  | [.inr (t0, o0)] => mv_gd (Nat.beq t0 2) <| mv_rV (fM_passDrawnDay o0 h) fun h => k [] h
  | _ => none
def fF_luckyDays_b22 : Nat → Nat → Nat → Int32 → Int32 → Int32 → Int32 → Int32 → H2 → O2
  | 0 => fun _ _ _ _ _ _ _ _ => none
  | n + 1 => fun o0 o1 v2 v3 v4 v5 v6 h =>
    if v2 ≤ v6 then (
      some ([Sum.inl (Value.int v5)], h))
    else
    mv_rV (fM_copyFrom 3 o1 h) fun h1 =>
    mv_bh (wI2 h1 2 3 11 v4) fun h2 =>
    mv_rV (fM_passDrawnDay 3 h2) fun h3 =>
    mv_bi (rI2 h3 2 3 11) fun x4 =>
    mv_rI (fM_allDepths 3 h3) fun r6 h5 =>
    if r6 ≤ v3 then (
      mv_bi (v6 + (nI 1)) fun x7 =>
      fF_luckyDays_b22 n o0 o1 v2 v3 x4 v5 x7 h5)
    else
    mv_bi (v5 + (nI 1)) fun x8 =>
    mv_bi (v6 + (nI 1)) fun x9 =>
    fF_luckyDays_b22 n o0 o1 v2 v3 x4 x8 x9 h5
def fF_luckyDays (o0 : Nat) (o1 : Nat) (v2 : Int32) (h : H2) : O2 :=
  mv_rR 2 (fF_behind o0 o1 (nI 1) h) fun r2 h1 =>
  mv_rI (fM_allDepths r2 h1) fun r4 h3 =>
  mv_bi r4 fun x5 =>
  mv_bi (rI2 h3 2 o1 11) fun x6 =>
  mv_bi (nI 0) fun x7 =>
  mv_bi (nI 0) fun x8 =>
  fF_luckyDays_b22 1000 o0 o1 v2 x5 x6 x7 x8 h3
def cF_luckyDays : List mv_V → H2 → (List mv_V → H2 → O2) → O2 := fun as h k => match as with
  | [.inr (t0, o0), .inr (t1, o1), .inl (.int v2)] => mv_gd (Nat.beq t0 1) <| mv_gd (Nat.beq t1 2) <| mv_rI (fF_luckyDays o0 o1 v2 h) fun x h => k [.inl (.int x)] h
  | _ => none
def fF_daysUntilAbout_b11 : Nat → Nat → Int32 → Int32 → Int32 → H2 → O2
  | 0 => fun _ _ _ _ _ => none
  | n + 1 => fun o0 v2 v3 v4 h =>
    if (nI 60) < v4 then (
      some ([Sum.inl (Value.int (-(nI 3)))], h))
    else
    mv_gd (mv_inb v2 8) <|
    if (rI2 h 305 3 v2.toNatClampNeg) = v3 then (
      some ([Sum.inl (Value.int v4)], h))
    else
    mv_rV (fM_passDay 3 h) fun h1 =>
    mv_bi (v4 + (nI 1)) fun x2 =>
    fF_daysUntilAbout_b11 n o0 v2 v3 x2 h1
def fF_daysUntilAbout (o0 : Nat) (o1 : Nat) (v2 : Int32) (v3 : Int32) (h : H2) : O2 :=
  mv_rV (fM_copyFrom 3 o1 h) fun h1 =>
  mv_bi (nI 0) fun x2 =>
  fF_daysUntilAbout_b11 1000 o0 v2 v3 x2 h1
def cF_daysUntilAbout : List mv_V → H2 → (List mv_V → H2 → O2) → O2 := fun as h k => match as with
  | [.inr (t0, o0), .inr (t1, o1), .inl (.int v2), .inl (.int v3)] => mv_gd (Nat.beq t0 1) <| mv_gd (Nat.beq t1 2) <| mv_rI (fF_daysUntilAbout o0 o1 v2 v3 h) fun x h => k [.inl (.int x)] h
  | _ => none
def fF_spoiltFromHere_b13 : Nat → Nat → Nat → Int32 → Int32 → H2 → O2
  | 0 => fun _ _ _ _ _ => none
  | n + 1 => fun o0 o1 v3 v4 h =>
    if (rI2 h 2 o1 9) ≤ v4 then (
      some ([Sum.inl (Value.int v3)], h))
    else
    mv_gd (mv_inb v4 8) <|
    mv_gd (mv_inb v4 8) <|
    if (rI2 h 305 3 v4.toNatClampNeg) = (rI2 h 305 o1 v4.toNatClampNeg) then (
      mv_bi (v4 + (nI 1)) fun x1 =>
      fF_spoiltFromHere_b13 n o0 o1 v3 x1 h)
    else
    mv_bi (v3 + (nI 1)) fun x2 =>
    mv_bi (v4 + (nI 1)) fun x3 =>
    fF_spoiltFromHere_b13 n o0 o1 x2 x3 h
def fF_spoiltFromHere (o0 : Nat) (o1 : Nat) (v2 : Int32) (h : H2) : O2 :=
  mv_rV (fM_passDays 3 v2 h) fun h1 =>
  mv_bi (nI 0) fun x2 =>
  mv_bi (nI 0) fun x3 =>
  fF_spoiltFromHere_b13 1000 o0 o1 x2 x3 h1
def cF_spoiltFromHere : List mv_V → H2 → (List mv_V → H2 → O2) → O2 := fun as h k => match as with
  | [.inr (t0, o0), .inr (t1, o1), .inl (.int v2)] => mv_gd (Nat.beq t0 1) <| mv_gd (Nat.beq t1 2) <| mv_rI (fF_spoiltFromHere o0 o1 v2 h) fun x h => k [.inl (.int x)] h
  | _ => none
def fF_spoiltBehind (o0 : Nat) (o1 : Nat) (v2 : Int32) (h : H2) : O2 :=
  mv_rV (fM_copyFrom 3 o1 h) fun h1 =>
  mv_rI (fF_spoiltFromHere o0 o1 v2 h1) fun r3 h2 =>
  some ([Sum.inl (Value.int r3)], h2)
def cF_spoiltBehind : List mv_V → H2 → (List mv_V → H2 → O2) → O2 := fun as h k => match as with
  | [.inr (t0, o0), .inr (t1, o1), .inl (.int v2)] => mv_gd (Nat.beq t0 1) <| mv_gd (Nat.beq t1 2) <| mv_rI (fF_spoiltBehind o0 o1 v2 h) fun x h => k [.inl (.int x)] h
  | _ => none
def fF_leadsTo_b54 : Nat → Nat → Int32 → Int32 → Int32 → Int32 → H2 → O2
  | 0 => fun _ _ _ _ _ _ => none
  | n + 1 => fun o0 v2 v3 v5 v6 h =>
    if v6 < 0 then (
      mv_gd (mv_inb v2 8) <|
      if (rI2 h 305 3 v2.toNatClampNeg) = v3 then (
        mv_gd (decide (nI 1 = nI 0) || decide (nI 1 = nI 1)) <| some ([Sum.inl (Value.int (nI 1))], h))
      else
      mv_gd (decide (nI 0 = nI 0) || decide (nI 0 = nI 1)) <| some ([Sum.inl (Value.int (nI 0))], h))
    else
    mv_rV (fM_dipInto 3 v2 ((v5 >>> (((nI 3) * v6) &&& 31)) &&& (nI 7)) h) fun h1 =>
    mv_bi (v6 + (-(nI 1))) fun x2 =>
    fF_leadsTo_b54 n o0 v2 v3 v5 x2 h1
def fF_leadsTo (o0 : Nat) (o1 : Nat) (v2 : Int32) (v3 : Int32) (v4 : Int32) (v5 : Int32) (h : H2) : O2 :=
  mv_gd (decide (nI 0 = nI 0) && (decide (nI 0 = nI 0) && (!decide ((nI 8) < 0) && (Nat.ble (nI 8).toNatClampNeg 8 && Nat.ble (nI 8).toNatClampNeg 8)))) <|
  mv_bh (cp2 h 302 o1 3 (nI 8).toNatClampNeg 0) fun h1 =>
  mv_gd (mv_inb v2 8) <|
  mv_gd (mv_inb v2 8) <|
  mv_bh (wI2 h1 305 3 v2.toNatClampNeg (rI2 h1 305 o1 v2.toNatClampNeg)) fun h2 =>
  mv_gd (mv_inb v2 8) <|
  mv_gd (mv_inb v2 8) <|
  mv_bh (wI2 h2 306 3 v2.toNatClampNeg (rI2 h2 306 o1 v2.toNatClampNeg)) fun h3 =>
  mv_bi (v4 - (nI 1)) fun x4 =>
  fF_leadsTo_b54 1000 o0 v2 v3 v5 x4 h3
def cF_leadsTo : List mv_V → H2 → (List mv_V → H2 → O2) → O2 := fun as h k => match as with
  | [.inr (t0, o0), .inr (t1, o1), .inl (.int v2), .inl (.int v3), .inl (.int v4), .inl (.int v5)] => mv_gd (Nat.beq t0 1) <| mv_gd (Nat.beq t1 2) <| mv_rI (fF_leadsTo o0 o1 v2 v3 v4 v5 h) fun x h => k [.inl (.int x)] h
  | _ => none
def fF_vatsThrough_b23 (k14 : Nat → Nat → Int32 → Int32 → Int32 → Int32 → H2 → O2) : Nat → Nat → Nat → Int32 → Int32 → Int32 → Int32 → Int32 → H2 → O2
  | 0 => fun _ _ _ _ _ _ _ _ => none
  | n + 1 => fun o0 o1 v2 v3 v4 v5 v6 h =>
    if v4 ≤ v6 then (
      mv_bi (v4 * (nI 8)) fun x1 =>
      mv_bi (v5 + (nI 1)) fun x2 =>
      k14 o0 o1 v2 v3 x1 x2 h)
    else
    mv_rI (fF_leadsTo o0 o1 v2 v3 v5 v6 h) fun r4 h3 =>
    if r4 = 0 then (
      mv_bi (v6 + (nI 1)) fun x5 =>
      fF_vatsThrough_b23 k14 n o0 o1 v2 v3 v4 v5 x5 h3)
    else
    some ([Sum.inl (Value.int (v4 + v6))], h3)
def fF_vatsThrough_b14 : Nat → Nat → Nat → Int32 → Int32 → Int32 → Int32 → H2 → O2
  | 0 => fun _ _ _ _ _ _ _ => none
  | n + 1 => fun o0 o1 v2 v3 v4 v5 h =>
    if (nI 3) < v5 then (
      some ([Sum.inl (Value.int (-(nI 3)))], h))
    else
    mv_bi (nI 0) fun x1 =>
    fF_vatsThrough_b23 (fF_vatsThrough_b14 n) 1000 o0 o1 v2 v3 v4 v5 x1 h
def fF_vatsThrough (o0 : Nat) (o1 : Nat) (v2 : Int32) (v3 : Int32) (h : H2) : O2 :=
  mv_rV (fM_copyFrom 3 o1 h) fun h1 =>
  mv_bi (nI 1) fun x2 =>
  mv_bi (nI 0) fun x3 =>
  fF_vatsThrough_b14 1000 o0 o1 v2 v3 x2 x3 h1
def cF_vatsThrough : List mv_V → H2 → (List mv_V → H2 → O2) → O2 := fun as h k => match as with
  | [.inr (t0, o0), .inr (t1, o1), .inl (.int v2), .inl (.int v3)] => mv_gd (Nat.beq t0 1) <| mv_gd (Nat.beq t1 2) <| mv_rI (fF_vatsThrough o0 o1 v2 v3 h) fun x h => k [.inl (.int x)] h
  | _ => none
def fF_deepestVat_b9 : Nat → Nat → Nat → Int32 → Int32 → Int32 → Int32 → Int32 → H2 → O2
  | 0 => fun _ _ _ _ _ _ _ _ => none
  | n + 1 => fun o0 o1 v2 v3 v4 v5 v6 h =>
    if (nI 8) ≤ v6 then (
      some ([Sum.inl (Value.int v4)], h))
    else
    mv_rV (fM_copyFrom 3 o1 h) fun h1 =>
    mv_gd (mv_inb v2 6) <|
    mv_bh (wI2 h1 303 3 v2.toNatClampNeg v6) fun h2 =>
    mv_rV (fM_passDays 3 v3 h2) fun h3 =>
    mv_rI (fM_allDepths 3 h3) fun r5 h4 =>
    mv_bi r5 fun x6 =>
    if x6 ≤ v5 then (
      mv_bi (v6 + (nI 1)) fun x7 =>
      fF_deepestVat_b9 n o0 o1 v2 v3 v4 v5 x7 h4)
    else
    mv_bi x6 fun x8 =>
    mv_bi v6 fun x9 =>
    mv_bi (v6 + (nI 1)) fun x10 =>
    fF_deepestVat_b9 n o0 o1 v2 v3 x9 x8 x10 h4
def fF_deepestVat (o0 : Nat) (o1 : Nat) (v2 : Int32) (v3 : Int32) (h : H2) : O2 :=
  mv_bi (nI 0) fun x1 =>
  mv_bi (-(nI 1)) fun x2 =>
  mv_bi (nI 0) fun x3 =>
  fF_deepestVat_b9 1000 o0 o1 v2 v3 x1 x2 x3 h
def cF_deepestVat : List mv_V → H2 → (List mv_V → H2 → O2) → O2 := fun as h k => match as with
  | [.inr (t0, o0), .inr (t1, o1), .inl (.int v2), .inl (.int v3)] => mv_gd (Nat.beq t0 1) <| mv_gd (Nat.beq t1 2) <| mv_rI (fF_deepestVat o0 o1 v2 v3 h) fun x h => k [.inl (.int x)] h
  | _ => none
def fF_deepestKind_b9 : Nat → Nat → Nat → Int32 → Int32 → Int32 → Int32 → Int32 → H2 → O2
  | 0 => fun _ _ _ _ _ _ _ _ => none
  | n + 1 => fun o0 o1 v2 v3 v4 v5 v6 h =>
    if (nI 6) ≤ v6 then (
      some ([Sum.inl (Value.int v4)], h))
    else
    mv_rV (fM_copyFrom 3 o1 h) fun h1 =>
    mv_gd (mv_inb v2 8) <|
    mv_bh (wI2 h1 304 3 v2.toNatClampNeg v6) fun h2 =>
    mv_rV (fM_passDays 3 v3 h2) fun h3 =>
    mv_gd (mv_inb v2 8) <|
    if (rI2 h3 306 3 v2.toNatClampNeg) ≤ v5 then (
      mv_bi (v6 + (nI 1)) fun x4 =>
      fF_deepestKind_b9 n o0 o1 v2 v3 v4 v5 x4 h3)
    else
    mv_gd (mv_inb v2 8) <|
    mv_bi (rI2 h3 306 3 v2.toNatClampNeg) fun x5 =>
    mv_bi v6 fun x6 =>
    mv_bi (v6 + (nI 1)) fun x7 =>
    fF_deepestKind_b9 n o0 o1 v2 v3 x6 x5 x7 h3
def fF_deepestKind (o0 : Nat) (o1 : Nat) (v2 : Int32) (v3 : Int32) (h : H2) : O2 :=
  mv_bi (nI 0) fun x1 =>
  mv_bi (-(nI 1)) fun x2 =>
  mv_bi (nI 0) fun x3 =>
  fF_deepestKind_b9 1000 o0 o1 v2 v3 x1 x2 x3 h
def cF_deepestKind : List mv_V → H2 → (List mv_V → H2 → O2) → O2 := fun as h k => match as with
  | [.inr (t0, o0), .inr (t1, o1), .inl (.int v2), .inl (.int v3)] => mv_gd (Nat.beq t0 1) <| mv_gd (Nat.beq t1 2) <| mv_rI (fF_deepestKind o0 o1 v2 v3 h) fun x h => k [.inl (.int x)] h
  | _ => none
def fF_leastStrength_b3 : Nat → Nat → Nat → Int32 → Int32 → Int32 → Int32 → Int32 → H2 → O2
  | 0 => fun _ _ _ _ _ _ _ _ => none
  | n + 1 => fun o0 o1 v2 v3 v4 v5 v6 h =>
    if (nI 9) < v6 then (
      some ([Sum.inl (Value.int (-(nI 3)))], h))
    else
    mv_rV (fM_copyFrom 3 o1 h) fun h1 =>
    mv_gd (mv_inb v2 8) <|
    mv_bh (wI2 h1 302 3 v2.toNatClampNeg v6) fun h2 =>
    mv_rV (fM_passDays 3 v5 h2) fun h3 =>
    mv_gd (mv_inb v3 8) <|
    if (rI2 h3 305 3 v3.toNatClampNeg) = v4 then (
      some ([Sum.inl (Value.int v6)], h3))
    else
    mv_bi (v6 + (nI 1)) fun x4 =>
    fF_leastStrength_b3 n o0 o1 v2 v3 v4 v5 x4 h3
def fF_leastStrength (o0 : Nat) (o1 : Nat) (v2 : Int32) (v3 : Int32) (v4 : Int32) (v5 : Int32) (h : H2) : O2 :=
  mv_bi (nI 0) fun x1 =>
  fF_leastStrength_b3 1000 o0 o1 v2 v3 v4 v5 x1 h
def cF_leastStrength : List mv_V → H2 → (List mv_V → H2 → O2) → O2 := fun as h k => match as with
  | [.inr (t0, o0), .inr (t1, o1), .inl (.int v2), .inl (.int v3), .inl (.int v4), .inl (.int v5)] => mv_gd (Nat.beq t0 1) <| mv_gd (Nat.beq t1 2) <| mv_rI (fF_leastStrength o0 o1 v2 v3 v4 v5 h) fun x h => k [.inl (.int x)] h
  | _ => none
def fJ_bitCount_0f7a4 (v0 : Int32) (h : H2) : O2 :=
  mv_bi (v0 - (((v0.toUInt32 >>> ((nI 1).toUInt32 &&& Int32.toUInt32 31)).toInt32) &&& (nI 1431655765))) fun x1 =>
  mv_bi ((x1 &&& (nI 858993459)) + (((x1.toUInt32 >>> ((nI 2).toUInt32 &&& Int32.toUInt32 31)).toInt32) &&& (nI 858993459))) fun x2 =>
  mv_bi ((x2 + ((x2.toUInt32 >>> ((nI 4).toUInt32 &&& Int32.toUInt32 31)).toInt32)) &&& (nI 252645135)) fun x3 =>
  mv_bi (x3 + ((x3.toUInt32 >>> ((nI 8).toUInt32 &&& Int32.toUInt32 31)).toInt32)) fun x4 =>
  mv_bi (x4 + ((x4.toUInt32 >>> ((nI 16).toUInt32 &&& Int32.toUInt32 31)).toInt32)) fun x5 =>
  some ([Sum.inl (Value.int (x5 &&& (nI 63)))], h)
def cJ_bitCount_0f7a4 : List mv_V → H2 → (List mv_V → H2 → O2) → O2 := fun as h k => match as with
  | [.inl (.int v0)] => mv_rI (fJ_bitCount_0f7a4 v0 h) fun x h => k [.inl (.int x)] h
  | _ => none
def fF_hangJust_b10 : Nat → Nat → Nat → Int32 → Int32 → H2 → O2
  | 0 => fun _ _ _ _ _ => none
  | n + 1 => fun o0 o1 v2 v3 h =>
    if (rI2 h 2 o1 9) ≤ v3 then (
      some ([], h))
    else
    mv_gd (mv_inb v3 8) <|
    mv_bh (wI2 h 307 3 v3.toNatClampNeg ((v2 >>> (v3 &&& 31)) &&& (nI 1))) fun h1 =>
    mv_bi (v3 + (nI 1)) fun x2 =>
    fF_hangJust_b10 n o0 o1 v2 x2 h1
def fF_hangJust (o0 : Nat) (o1 : Nat) (v2 : Int32) (h : H2) : O2 :=
  mv_rV (fM_copyFrom 3 o1 h) fun h1 =>
  mv_bi (nI 0) fun x2 =>
  fF_hangJust_b10 1000 o0 o1 v2 x2 h1
def cF_hangJust : List mv_V → H2 → (List mv_V → H2 → O2) → O2 := fun as h k => match as with
  | [.inr (t0, o0), .inr (t1, o1), .inl (.int v2)] => mv_gd (Nat.beq t0 1) <| mv_gd (Nat.beq t1 2) <| mv_rV (fF_hangJust o0 o1 v2 h) fun h => k [] h
  | _ => none
def fF_fewestHung_b23 (k11 : Nat → Nat → Int32 → Int32 → Int32 → Int32 → H2 → O2) : Nat → Nat → Nat → Int32 → Int32 → Int32 → Int32 → Int32 → H2 → O2
  | 0 => fun _ _ _ _ _ _ _ _ => none
  | n + 1 => fun o0 o1 v2 v3 v4 v5 v6 h =>
    if v4 ≤ v6 then (
      mv_bi (v5 + (nI 1)) fun x1 =>
      k11 o0 o1 v2 v3 v4 x1 h)
    else
    mv_rI (fJ_bitCount_0f7a4 v6 h) fun r3 h2 =>
    if r3 = v5 then (
      mv_rV (fF_hangJust o0 o1 v6 h2) fun h4 =>
      mv_rI (fF_spoiltFromHere o0 o1 v2 h4) fun r6 h5 =>
      if v3 < r6 then (
        mv_bi (v6 + (nI 1)) fun x7 =>
        fF_fewestHung_b23 k11 n o0 o1 v2 v3 v4 v5 x7 h5)
      else
      some ([Sum.inl (Value.int v6)], h5))
    else
    mv_bi (v6 + (nI 1)) fun x8 =>
    fF_fewestHung_b23 k11 n o0 o1 v2 v3 v4 v5 x8 h2
def fF_fewestHung_b11 : Nat → Nat → Nat → Int32 → Int32 → Int32 → Int32 → H2 → O2
  | 0 => fun _ _ _ _ _ _ _ => none
  | n + 1 => fun o0 o1 v2 v3 v4 v5 h =>
    if (rI2 h 2 o1 9) < v5 then (
      some ([Sum.inl (Value.int (-(nI 3)))], h))
    else
    mv_bi (nI 0) fun x1 =>
    fF_fewestHung_b23 (fF_fewestHung_b11 n) 1000 o0 o1 v2 v3 v4 v5 x1 h
def fF_fewestHung (o0 : Nat) (o1 : Nat) (v2 : Int32) (v3 : Int32) (h : H2) : O2 :=
  mv_bi ((nI 1) <<< ((rI2 h 2 o1 9) &&& 31)) fun x1 =>
  mv_bi (nI 0) fun x2 =>
  fF_fewestHung_b11 1000 o0 o1 v2 v3 x1 x2 h
def cF_fewestHung : List mv_V → H2 → (List mv_V → H2 → O2) → O2 := fun as h k => match as with
  | [.inr (t0, o0), .inr (t1, o1), .inl (.int v2), .inl (.int v3)] => mv_gd (Nat.beq t0 1) <| mv_gd (Nat.beq t1 2) <| mv_rI (fF_fewestHung o0 o1 v2 v3 h) fun x h => k [.inl (.int x)] h
  | _ => none
def fS_size (o0 : Nat) (h : H2) : O2 :=
  mv_el (itm2 h o0) (
    none) fun r1 =>
  some ([Sum.inl (Value.int (nI (ln2 h 501 r1)))], h)
def cS_size : List mv_V → H2 → (List mv_V → H2 → O2) → O2 := fun as h k => match as with
  | [.inr (t0, o0)] => mv_gd (Nat.beq t0 4) <| mv_rI (fS_size o0 h) fun x h => k [.inl (.int x)] h
  | _ => none
def fS_read (o0 : Nat) (v1 : Int32) (h : H2) : O2 :=
  mv_el (itm2 h o0) (
    none) fun r1 =>
  mv_gd (mv_inb v1 (ln2 h 501 r1)) <|
  some ([Sum.inl (Value.int (rI2 h 501 r1 v1.toNatClampNeg))], h)
def cS_read : List mv_V → H2 → (List mv_V → H2 → O2) → O2 := fun as h k => match as with
  | [.inr (t0, o0), .inl (.int v1)] => mv_gd (Nat.beq t0 4) <| mv_rI (fS_read o0 v1 h) fun x h => k [.inl (.int x)] h
  | _ => none
def fF_fitsAs_b28 : Nat → Nat → Int32 → Nat → Int32 → Int32 → H2 → O2
  | 0 => fun _ _ _ _ _ _ => none
  | n + 1 => fun o0 v2 o4 v5 v6 h =>
    if v5 ≤ v6 then (
      mv_gd (decide (nI 1 = nI 0) || decide (nI 1 = nI 1)) <| some ([Sum.inl (Value.int (nI 1))], h))
    else
    mv_rV (fM_passDay 3 h) fun h1 =>
    mv_rI (fS_read o4 v6 h1) fun r3 h2 =>
    mv_bi r3 fun x4 =>
    if x4 = (-(nI 1)) then (
      mv_bi (v6 + (nI 1)) fun x5 =>
      fF_fitsAs_b28 n o0 v2 o4 v5 x5 h2)
    else
    mv_gd (mv_inb v2 8) <|
    if x4 = (rI2 h2 306 3 v2.toNatClampNeg) then (
      mv_bi (v6 + (nI 1)) fun x6 =>
      fF_fitsAs_b28 n o0 v2 o4 v5 x6 h2)
    else
    mv_gd (decide (nI 0 = nI 0) || decide (nI 0 = nI 1)) <| some ([Sum.inl (Value.int (nI 0))], h2)
def fF_fitsAs (o0 : Nat) (o1 : Nat) (v2 : Int32) (v3 : Int32) (o4 : Nat) (h : H2) : O2 :=
  mv_rV (fM_copyFrom 3 o1 h) fun h1 =>
  mv_gd (mv_inb v2 8) <|
  mv_bh (wI2 h1 305 3 v2.toNatClampNeg v3) fun h2 =>
  mv_rI (fS_size o4 h2) fun r4 h3 =>
  mv_bi r4 fun x5 =>
  mv_bi (nI 0) fun x6 =>
  fF_fitsAs_b28 1000 o0 v2 o4 x5 x6 h3
def cF_fitsAs : List mv_V → H2 → (List mv_V → H2 → O2) → O2 := fun as h k => match as with
  | [.inr (t0, o0), .inr (t1, o1), .inl (.int v2), .inl (.int v3), .inr (t4, o4)] => mv_gd (Nat.beq t0 1) <| mv_gd (Nat.beq t1 2) <| mv_gd (Nat.beq t4 4) <| mv_rI (fF_fitsAs o0 o1 v2 v3 o4 h) fun x h => k [.inl (.int x)] h
  | _ => none
def fF_manyFitting_b32 : Nat → Nat → Nat → Int32 → Nat → Int32 → Int32 → H2 → O2
  | 0 => fun _ _ _ _ _ _ _ => none
  | n + 1 => fun o0 o1 v2 o3 v4 v5 h =>
    if (nI 9) < v5 then (
      some ([Sum.inl (Value.int v4)], h))
    else
    mv_rI (fF_fitsAs o0 o1 v2 v5 o3 h) fun r2 h1 =>
    if r2 = 0 then (
      mv_bi (v5 + (nI 1)) fun x3 =>
      fF_manyFitting_b32 n o0 o1 v2 o3 v4 x3 h1)
    else
    mv_bi (v4 + (nI 1)) fun x4 =>
    mv_bi (v5 + (nI 1)) fun x5 =>
    fF_manyFitting_b32 n o0 o1 v2 o3 x4 x5 h1
def fF_manyFitting (o0 : Nat) (o1 : Nat) (v2 : Int32) (o3 : Nat) (h : H2) : O2 :=
  mv_gd (mv_inb v2 8) <|
  if (rI2 h 306 o1 v2.toNatClampNeg) = 0 then (
    mv_rI (fF_fitsAs o0 o1 v2 (-(nI 1)) o3 h) fun r2 h1 =>
    if r2 = 0 then (
      some ([Sum.inl (Value.int (nI 0))], h1))
    else
    some ([Sum.inl (Value.int (nI 1))], h1))
  else
  mv_bi (nI 0) fun x3 =>
  mv_bi (nI 0) fun x4 =>
  fF_manyFitting_b32 1000 o0 o1 v2 o3 x3 x4 h
def cF_manyFitting : List mv_V → H2 → (List mv_V → H2 → O2) → O2 := fun as h k => match as with
  | [.inr (t0, o0), .inr (t1, o1), .inl (.int v2), .inr (t3, o3)] => mv_gd (Nat.beq t0 1) <| mv_gd (Nat.beq t1 2) <| mv_gd (Nat.beq t3 4) <| mv_rI (fF_manyFitting o0 o1 v2 o3 h) fun x h => k [.inl (.int x)] h
  | _ => none
def fF_leastFitting_b30 : Nat → Nat → Nat → Int32 → Nat → Int32 → H2 → O2
  | 0 => fun _ _ _ _ _ _ => none
  | n + 1 => fun o0 o1 v2 o3 v4 h =>
    if (nI 9) < v4 then (
      some ([Sum.inl (Value.int (-(nI 3)))], h))
    else
    mv_rI (fF_fitsAs o0 o1 v2 v4 o3 h) fun r2 h1 =>
    if r2 = 0 then (
      mv_bi (v4 + (nI 1)) fun x3 =>
      fF_leastFitting_b30 n o0 o1 v2 o3 x3 h1)
    else
    some ([Sum.inl (Value.int ((nI 1) + v4))], h1)
def fF_leastFitting (o0 : Nat) (o1 : Nat) (v2 : Int32) (o3 : Nat) (h : H2) : O2 :=
  mv_gd (mv_inb v2 8) <|
  if (rI2 h 306 o1 v2.toNatClampNeg) = 0 then (
    mv_rI (fF_fitsAs o0 o1 v2 (-(nI 1)) o3 h) fun r2 h1 =>
    if r2 = 0 then (
      some ([Sum.inl (Value.int (-(nI 3)))], h1))
    else
    some ([Sum.inl (Value.int (nI 0))], h1))
  else
  mv_bi (nI 0) fun x3 =>
  fF_leastFitting_b30 1000 o0 o1 v2 o3 x3 h
def cF_leastFitting : List mv_V → H2 → (List mv_V → H2 → O2) → O2 := fun as h k => match as with
  | [.inr (t0, o0), .inr (t1, o1), .inl (.int v2), .inr (t3, o3)] => mv_gd (Nat.beq t0 1) <| mv_gd (Nat.beq t1 2) <| mv_gd (Nat.beq t3 4) <| mv_rI (fF_leastFitting o0 o1 v2 o3 h) fun x h => k [.inl (.int x)] h
  | _ => none
def fF_rowPart (o0 : Nat) (v1 : Int32) (v2 : Int32) (h : H2) : O2 :=
  if v2 = nI 0 then (
    mv_gd (mv_inb v1 8) <|
    some ([Sum.inl (Value.int ((nI 1) + (rI2 h 305 3 v1.toNatClampNeg)))], h))
  else
  if v2 = nI 1 then (
    mv_gd (mv_inb v1 8) <|
    some ([Sum.inl (Value.int (rI2 h 306 3 v1.toNatClampNeg))], h))
  else
  mv_rI (fM_allDepths 3 h) fun r2 h1 =>
  some ([Sum.inl (Value.int r2)], h1)
def cF_rowPart : List mv_V → H2 → (List mv_V → H2 → O2) → O2 := fun as h k => match as with
  | [.inr (t0, o0), .inl (.int v1), .inl (.int v2)] => mv_gd (Nat.beq t0 1) <| mv_rI (fF_rowPart o0 v1 v2 h) fun x h => k [.inl (.int x)] h
  | _ => none
def fR_write (o0 : Nat) (v1 : Int32) (v2 : Int32) (v3 : Int32) (h : H2) : O2 :=
  mv_gd (mv_inb ((v1 * (nI 3)) + v2) 30) <|
  mv_bh (wI2 h 400 o0 ((v1 * (nI 3)) + v2).toNatClampNeg v3) fun h1 =>
  some ([], h1)
def cR_write : List mv_V → H2 → (List mv_V → H2 → O2) → O2 := fun as h k => match as with
  | [.inr (t0, o0), .inl (.int v1), .inl (.int v2), .inl (.int v3)] => mv_gd (Nat.beq t0 3) <| mv_rV (fR_write o0 v1 v2 v3 h) fun h => k [] h
  | _ => none
def fF_writeRows_b33 (k17 : Nat → Int32 → Int32 → Nat → Int32 → H2 → O2) : Nat → Nat → Int32 → Int32 → Nat → Int32 → Int32 → H2 → O2
  | 0 => fun _ _ _ _ _ _ _ => none
  | n + 1 => fun o0 v2 v3 o4 v5 v6 h =>
    if (nI 3) ≤ v6 then (
      mv_bi (v5 + (nI 1)) fun x1 =>
      k17 o0 v2 v3 o4 x1 h)
    else
    mv_rI (fF_rowPart o0 v2 v6 h) fun r3 h2 =>
    mv_rV (fR_write o4 v5 v6 r3 h2) fun h4 =>
    mv_bi (v6 + (nI 1)) fun x5 =>
    fF_writeRows_b33 k17 n o0 v2 v3 o4 v5 x5 h4
def fF_writeRows_b17 : Nat → Nat → Int32 → Int32 → Nat → Int32 → H2 → O2
  | 0 => fun _ _ _ _ _ _ => none
  | n + 1 => fun o0 v2 v3 o4 v5 h =>
    if v3 ≤ v5 then (
      some ([], h))
    else
    mv_rV (fM_passDay 3 h) fun h1 =>
    mv_bi (nI 0) fun x2 =>
    fF_writeRows_b33 (fF_writeRows_b17 n) 1000 o0 v2 v3 o4 v5 x2 h1
def fF_writeRows (o0 : Nat) (o1 : Nat) (v2 : Int32) (v3 : Int32) (o4 : Nat) (h : H2) : O2 :=
  mv_rV (fM_copyFrom 3 o1 h) fun h1 =>
  mv_bh (wI2 h1 3 o4 1 v3) fun h2 =>
  mv_bi (nI 0) fun x3 =>
  fF_writeRows_b17 1000 o0 v2 v3 o4 x3 h2
def cF_writeRows : List mv_V → H2 → (List mv_V → H2 → O2) → O2 := fun as h k => match as with
  | [.inr (t0, o0), .inr (t1, o1), .inl (.int v2), .inl (.int v3), .inr (t4, o4)] => mv_gd (Nat.beq t0 1) <| mv_gd (Nat.beq t1 2) <| mv_gd (Nat.beq t4 3) <| mv_rV (fF_writeRows o0 o1 v2 v3 o4 h) fun h => k [] h
  | _ => none
def fR_read (o0 : Nat) (v1 : Int32) (v2 : Int32) (h : H2) : O2 :=
  mv_gd (mv_inb ((v1 * (nI 3)) + v2) 30) <|
  some ([Sum.inl (Value.int (rI2 h 400 o0 ((v1 * (nI 3)) + v2).toNatClampNeg))], h)
def cR_read : List mv_V → H2 → (List mv_V → H2 → O2) → O2 := fun as h k => match as with
  | [.inr (t0, o0), .inl (.int v1), .inl (.int v2)] => mv_gd (Nat.beq t0 3) <| mv_rI (fR_read o0 v1 v2 h) fun x h => k [.inl (.int x)] h
  | _ => none
def fF_firstWrongRow_b30 (k11 : Nat → Int32 → Nat → Int32 → H2 → O2) : Nat → Nat → Int32 → Nat → Int32 → Int32 → H2 → O2
  | 0 => fun _ _ _ _ _ _ => none
  | n + 1 => fun o0 v2 o3 v4 v5 h =>
    if (nI 3) ≤ v5 then (
      mv_bi (v4 + (nI 1)) fun x1 =>
      k11 o0 v2 o3 x1 h)
    else
    mv_rI (fR_read o3 v4 v5 h) fun r3 h2 =>
    mv_rI (fF_rowPart o0 v2 v5 h2) fun r5 h4 =>
    if r3 = r5 then (
      mv_bi (v5 + (nI 1)) fun x6 =>
      fF_firstWrongRow_b30 k11 n o0 v2 o3 v4 x6 h4)
    else
    some ([Sum.inl (Value.int (v4 + (nI 1)))], h4)
def fF_firstWrongRow_b11 : Nat → Nat → Int32 → Nat → Int32 → H2 → O2
  | 0 => fun _ _ _ _ _ => none
  | n + 1 => fun o0 v2 o3 v4 h =>
    if (rI2 h 3 o3 1) ≤ v4 then (
      some ([Sum.inl (Value.int (nI 0))], h))
    else
    mv_rV (fM_passDay 3 h) fun h1 =>
    mv_bi (nI 0) fun x2 =>
    fF_firstWrongRow_b30 (fF_firstWrongRow_b11 n) 1000 o0 v2 o3 v4 x2 h1
def fF_firstWrongRow (o0 : Nat) (o1 : Nat) (v2 : Int32) (o3 : Nat) (h : H2) : O2 :=
  mv_rV (fM_copyFrom 3 o1 h) fun h1 =>
  mv_bi (nI 0) fun x2 =>
  fF_firstWrongRow_b11 1000 o0 v2 o3 x2 h1
def cF_firstWrongRow : List mv_V → H2 → (List mv_V → H2 → O2) → O2 := fun as h k => match as with
  | [.inr (t0, o0), .inr (t1, o1), .inl (.int v2), .inr (t3, o3)] => mv_gd (Nat.beq t0 1) <| mv_gd (Nat.beq t1 2) <| mv_gd (Nat.beq t3 3) <| mv_rI (fF_firstWrongRow o0 o1 v2 o3 h) fun x h => k [.inl (.int x)] h
  | _ => none
def fM_becomeFirst_b59 : Nat → Nat → Int32 → H2 → O2
  | 0 => fun _ _ _ => none
  | n + 1 => fun o0 v1 h =>
    if (nI 6) ≤ v1 then (
      mv_bh (wI2 h 2 o0 9 (nI 0)) fun h1 =>
      mv_bh (wI2 h1 2 o0 10 (nI 0)) fun h2 =>
      some ([], h2))
    else
    mv_gd (mv_inb v1 6) <|
    mv_bh (wI2 h 303 o0 v1.toNatClampNeg v1) fun h3 =>
    mv_bi (v1 + (nI 1)) fun x4 =>
    fM_becomeFirst_b59 n o0 x4 h3
def fM_becomeFirst_b31 : Nat → Nat → Int32 → H2 → O2
  | 0 => fun _ _ _ => none
  | n + 1 => fun o0 v1 h =>
    if (nI 8) ≤ v1 then (
      mv_bi (nI 0) fun x1 =>
      fM_becomeFirst_b59 1000 o0 x1 h)
    else
    mv_gd (mv_inb v1 8) <|
    mv_bh (wI2 h 301 o0 v1.toNatClampNeg v1) fun h2 =>
    mv_gd (mv_inb v1 8) <|
    mv_bh (wI2 h2 302 o0 v1.toNatClampNeg (nI 5)) fun h3 =>
    mv_bi (v1 + (nI 1)) fun x4 =>
    fM_becomeFirst_b31 n o0 x4 h3
def fM_becomeFirst (o0 : Nat) (h : H2) : O2 :=
  mv_gd (mv_inb (nI 0) 4) <|
  mv_bh (wI2 h 300 o0 (nI 0).toNatClampNeg (nI 3)) fun h1 =>
  mv_gd (mv_inb (nI 1) 4) <|
  mv_bh (wI2 h1 300 o0 (nI 1).toNatClampNeg (nI 2)) fun h2 =>
  mv_gd (mv_inb (nI 2) 4) <|
  mv_bh (wI2 h2 300 o0 (nI 2).toNatClampNeg (nI 4)) fun h3 =>
  mv_gd (mv_inb (nI 3) 4) <|
  mv_bh (wI2 h3 300 o0 (nI 3).toNatClampNeg (nI 20)) fun h4 =>
  mv_bi (nI 0) fun x5 =>
  fM_becomeFirst_b31 1000 o0 x5 h4
def cM_becomeFirst : List mv_V → H2 → (List mv_V → H2 → O2) → O2 := fun as h k => match as with
  | [.inr (t0, o0)] => mv_gd (Nat.beq t0 2) <| mv_rV (fM_becomeFirst o0 h) fun h => k [] h
  | _ => none
def fV_isIn (v0 : Int32) (v1 : Int32) (v2 : Int32) (h : H2) : O2 :=
  if v0 < v1 then (
    mv_gd (decide (nI 0 = nI 0) || decide (nI 0 = nI 1)) <| some ([Sum.inl (Value.int (nI 0))], h))
  else
  if v2 < v0 then (
    mv_gd (decide (nI 0 = nI 0) || decide (nI 0 = nI 1)) <| some ([Sum.inl (Value.int (nI 0))], h))
  else
  mv_gd (decide (nI 1 = nI 0) || decide (nI 1 = nI 1)) <| some ([Sum.inl (Value.int (nI 1))], h)
def cV_isIn : List mv_V → H2 → (List mv_V → H2 → O2) → O2 := fun as h k => match as with
  | [.inl (.int v0), .inl (.int v1), .inl (.int v2)] => mv_rI (fV_isIn v0 v1 v2 h) fun x h => k [.inl (.int x)] h
  | _ => none
def fM_has (o0 : Nat) (v1 : Int32) (h : H2) : O2 :=
  mv_rI (fV_isIn v1 (nI 0) ((rI2 h 2 o0 9) - (nI 1)) h) fun r2 h1 =>
  mv_gd (decide (r2 = nI 0) || decide (r2 = nI 1)) <| some ([Sum.inl (Value.int r2)], h1)
def cM_has : List mv_V → H2 → (List mv_V → H2 → O2) → O2 := fun as h k => match as with
  | [.inr (t0, o0), .inl (.int v1)] => mv_gd (Nat.beq t0 2) <| mv_rI (fM_has o0 v1 h) fun x h => k [.inl (.int x)] h
  | _ => none
def fM_addCloth (o0 : Nat) (v1 : Int32) (h : H2) : O2 :=
  mv_bi (rI2 h 2 o0 9) fun x1 =>
  mv_gd (mv_inb x1 8) <|
  mv_bh (wI2 h 304 o0 x1.toNatClampNeg v1) fun h2 =>
  mv_gd (mv_inb x1 8) <|
  mv_bh (wI2 h2 305 o0 x1.toNatClampNeg (-(nI 1))) fun h3 =>
  mv_gd (mv_inb x1 8) <|
  mv_bh (wI2 h3 306 o0 x1.toNatClampNeg (nI 0)) fun h4 =>
  mv_gd (mv_inb x1 8) <|
  mv_bh (wI2 h4 307 o0 x1.toNatClampNeg (nI 0)) fun h5 =>
  mv_gd (mv_inb x1 8) <|
  mv_bh (wI2 h5 308 o0 x1.toNatClampNeg (nI 0)) fun h6 =>
  mv_bh (wI2 h6 2 o0 9 ((rI2 h6 2 o0 9) + (nI 1))) fun h7 =>
  some ([Sum.inl (Value.int x1)], h7)
def cM_addCloth : List mv_V → H2 → (List mv_V → H2 → O2) → O2 := fun as h k => match as with
  | [.inr (t0, o0), .inl (.int v1)] => mv_gd (Nat.beq t0 2) <| mv_rI (fM_addCloth o0 v1 h) fun x h => k [.inl (.int x)] h
  | _ => none
def fM_hungSet_b4 : Nat → Nat → Int32 → Int32 → H2 → O2
  | 0 => fun _ _ _ _ => none
  | n + 1 => fun o0 v1 v2 h =>
    if (rI2 h 2 o0 9) ≤ v2 then (
      some ([Sum.inl (Value.int v1)], h))
    else
    mv_gd (mv_inb v2 8) <|
    if (rI2 h 307 o0 v2.toNatClampNeg) = (nI 1) then (
      mv_bi (v1 ||| ((nI 1) <<< (v2 &&& 31))) fun x1 =>
      mv_bi (v2 + (nI 1)) fun x2 =>
      fM_hungSet_b4 n o0 x1 x2 h)
    else
    mv_bi (v2 + (nI 1)) fun x3 =>
    fM_hungSet_b4 n o0 v1 x3 h
def fM_hungSet (o0 : Nat) (h : H2) : O2 :=
  mv_bi (nI 0) fun x1 =>
  mv_bi (nI 0) fun x2 =>
  fM_hungSet_b4 1000 o0 x1 x2 h
def cM_hungSet : List mv_V → H2 → (List mv_V → H2 → O2) → O2 := fun as h k => match as with
  | [.inr (t0, o0)] => mv_gd (Nat.beq t0 2) <| mv_rI (fM_hungSet o0 h) fun x h => k [.inl (.int x)] h
  | _ => none
def fM_aboutSet_b4 : Nat → Nat → Int32 → Int32 → H2 → O2
  | 0 => fun _ _ _ _ => none
  | n + 1 => fun o0 v1 v2 h =>
    if (rI2 h 2 o0 9) ≤ v2 then (
      some ([Sum.inl (Value.int v1)], h))
    else
    mv_gd (mv_inb v2 8) <|
    if (rI2 h 305 o0 v2.toNatClampNeg) = (-(nI 1)) then (
      mv_bi (v2 + (nI 1)) fun x1 =>
      fM_aboutSet_b4 n o0 v1 x1 h)
    else
    mv_bi (v1 ||| ((nI 1) <<< (v2 &&& 31))) fun x2 =>
    mv_bi (v2 + (nI 1)) fun x3 =>
    fM_aboutSet_b4 n o0 x2 x3 h
def fM_aboutSet (o0 : Nat) (h : H2) : O2 :=
  mv_bi (nI 0) fun x1 =>
  mv_bi (nI 0) fun x2 =>
  fM_aboutSet_b4 1000 o0 x1 x2 h
def cM_aboutSet : List mv_V → H2 → (List mv_V → H2 → O2) → O2 := fun as h k => match as with
  | [.inr (t0, o0)] => mv_gd (Nat.beq t0 2) <| mv_rI (fM_aboutSet o0 h) fun x h => k [.inl (.int x)] h
  | _ => none
def fM_purposeSet_b4 : Nat → Nat → Int32 → Int32 → H2 → O2
  | 0 => fun _ _ _ _ => none
  | n + 1 => fun o0 v1 v2 h =>
    if (rI2 h 2 o0 9) ≤ v2 then (
      some ([Sum.inl (Value.int v1)], h))
    else
    mv_gd (mv_inb v2 8) <|
    if (rI2 h 305 o0 v2.toNatClampNeg) = (-(nI 1)) then (
      mv_bi (v2 + (nI 1)) fun x1 =>
      fM_purposeSet_b4 n o0 v1 x1 h)
    else
    mv_gd (mv_inb v2 8) <|
    mv_bi (v1 ||| ((nI 1) <<< ((rI2 h 305 o0 v2.toNatClampNeg) &&& 31))) fun x2 =>
    mv_bi (v2 + (nI 1)) fun x3 =>
    fM_purposeSet_b4 n o0 x2 x3 h
def fM_purposeSet (o0 : Nat) (h : H2) : O2 :=
  mv_bi (nI 0) fun x1 =>
  mv_bi (nI 0) fun x2 =>
  fM_purposeSet_b4 1000 o0 x1 x2 h
def cM_purposeSet : List mv_V → H2 → (List mv_V → H2 → O2) → O2 := fun as h k => match as with
  | [.inr (t0, o0)] => mv_gd (Nat.beq t0 2) <| mv_rI (fM_purposeSet o0 h) fun x h => k [.inl (.int x)] h
  | _ => none
def fM_isForOdds (o0 : Nat) (v1 : Int32) (h : H2) : O2 :=
  mv_gd (mv_inb v1 8) <|
  if (rI2 h 307 o0 v1.toNatClampNeg) = 0 then (
    mv_gd (mv_inb v1 8) <|
    if (rI2 h 305 o0 v1.toNatClampNeg) = (-(nI 1)) then (
      mv_gd (decide (nI 0 = nI 0) || decide (nI 0 = nI 1)) <| some ([Sum.inl (Value.int (nI 0))], h))
    else
    mv_gd (decide (nI 1 = nI 0) || decide (nI 1 = nI 1)) <| some ([Sum.inl (Value.int (nI 1))], h))
  else
  mv_gd (decide (nI 0 = nI 0) || decide (nI 0 = nI 1)) <| some ([Sum.inl (Value.int (nI 0))], h)
def cM_isForOdds : List mv_V → H2 → (List mv_V → H2 → O2) → O2 := fun as h k => match as with
  | [.inr (t0, o0), .inl (.int v1)] => mv_gd (Nat.beq t0 2) <| mv_rI (fM_isForOdds o0 v1 h) fun x h => k [.inl (.int x)] h
  | _ => none
def fM_oddPairs_b16 (k4 : Nat → Int32 → Int32 → H2 → O2) : Nat → Nat → Int32 → Int32 → Int32 → H2 → O2
  | 0 => fun _ _ _ _ _ => none
  | n + 1 => fun o0 v1 v2 v3 h =>
    if (rI2 h 2 o0 9) ≤ v3 then (
      mv_bi (v2 + (nI 1)) fun x1 =>
      k4 o0 v1 x1 h)
    else
    mv_gd (mv_inb v2 8) <|
    mv_gd (mv_inb v3 8) <|
    if (rI2 h 305 o0 v2.toNatClampNeg) = (rI2 h 305 o0 v3.toNatClampNeg) then (
      mv_bi (v3 + (nI 1)) fun x2 =>
      fM_oddPairs_b16 k4 n o0 v1 v2 x2 h)
    else
    mv_rI (fM_isForOdds o0 v2 h) fun r4 h3 =>
    if r4 = 0 then (
      mv_bi (v3 + (nI 1)) fun x5 =>
      fM_oddPairs_b16 k4 n o0 v1 v2 x5 h3)
    else
    mv_rI (fM_isForOdds o0 v3 h3) fun r7 h6 =>
    if r7 = 0 then (
      mv_bi (v3 + (nI 1)) fun x8 =>
      fM_oddPairs_b16 k4 n o0 v1 v2 x8 h6)
    else
    mv_bi (v1 + (nI 1)) fun x9 =>
    mv_bi (v3 + (nI 1)) fun x10 =>
    fM_oddPairs_b16 k4 n o0 x9 v2 x10 h6
def fM_oddPairs_b4 : Nat → Nat → Int32 → Int32 → H2 → O2
  | 0 => fun _ _ _ _ => none
  | n + 1 => fun o0 v1 v2 h =>
    if (rI2 h 2 o0 9) ≤ v2 then (
      some ([Sum.inl (Value.int v1)], h))
    else
    mv_bi (v2 + (nI 1)) fun x1 =>
    fM_oddPairs_b16 (fM_oddPairs_b4 n) 1000 o0 v1 v2 x1 h
def fM_oddPairs (o0 : Nat) (h : H2) : O2 :=
  mv_bi (nI 0) fun x1 =>
  mv_bi (nI 0) fun x2 =>
  fM_oddPairs_b4 1000 o0 x1 x2 h
def cM_oddPairs : List mv_V → H2 → (List mv_V → H2 → O2) → O2 := fun as h k => match as with
  | [.inr (t0, o0)] => mv_gd (Nat.beq t0 2) <| mv_rI (fM_oddPairs o0 h) fun x h => k [.inl (.int x)] h
  | _ => none
def fR_has (o0 : Nat) (v1 : Int32) (v2 : Int32) (h : H2) : O2 :=
  mv_rI (fV_isIn v1 (nI 0) ((rI2 h 3 o0 1) - (nI 1)) h) fun r2 h1 =>
  if r2 = 0 then (
    mv_gd (decide (nI 0 = nI 0) || decide (nI 0 = nI 1)) <| some ([Sum.inl (Value.int (nI 0))], h1))
  else
  mv_rI (fV_isIn v2 (nI 0) (nI 2) h1) fun r4 h3 =>
  if r4 = 0 then (
    mv_gd (decide (nI 0 = nI 0) || decide (nI 0 = nI 1)) <| some ([Sum.inl (Value.int (nI 0))], h3))
  else
  mv_gd (decide (nI 1 = nI 0) || decide (nI 1 = nI 1)) <| some ([Sum.inl (Value.int (nI 1))], h3)
def cR_has : List mv_V → H2 → (List mv_V → H2 → O2) → O2 := fun as h k => match as with
  | [.inr (t0, o0), .inl (.int v1), .inl (.int v2)] => mv_gd (Nat.beq t0 3) <| mv_rI (fR_has o0 v1 v2 h) fun x h => k [.inl (.int x)] h
  | _ => none
def fS_init (o0 : Nat) (v1 : Int32) (v2 : Int32) (h : H2) : O2 :=
  mv_bh (wI2 h 4 o0 0 v1) fun h1 =>
  mv_gd (!decide (v2 < 0) && (Nat.ble v2.toNatClampNeg 1000 && Nat.ble (0 + v2.toNatClampNeg) 40)) <|
  nw2 h1 501 v2.toNatClampNeg fun r2 h3 =>
  wR2 h3 4 o0 1 (some (501, r2)) fun h4 =>
  some ([], h4)
def cS_init : List mv_V → H2 → (List mv_V → H2 → O2) → O2 := fun as h k => match as with
  | [.inr (t0, o0), .inl (.int v1), .inl (.int v2)] => mv_gd (Nat.beq t0 4) <| mv_rV (fS_init o0 v1 v2 h) fun h => k [] h
  | _ => none
def fS_has (o0 : Nat) (v1 : Int32) (h : H2) : O2 :=
  mv_el (itm2 h o0) (
    none) fun r1 =>
  mv_rI (fV_isIn v1 (nI 0) ((nI (ln2 h 501 r1)) - (nI 1)) h) fun r3 h2 =>
  mv_gd (decide (r3 = nI 0) || decide (r3 = nI 1)) <| some ([Sum.inl (Value.int r3)], h2)
def cS_has : List mv_V → H2 → (List mv_V → H2 → O2) → O2 := fun as h k => match as with
  | [.inr (t0, o0), .inl (.int v1)] => mv_gd (Nat.beq t0 4) <| mv_rI (fS_has o0 v1 h) fun x h => k [.inl (.int x)] h
  | _ => none
def fS_write (o0 : Nat) (v1 : Int32) (v2 : Int32) (h : H2) : O2 :=
  if (rI2 h 4 o0 0) = 0 then (
    mv_el (itm2 h o0) (
      none) fun r1 =>
    mv_gd (mv_inb v1 (ln2 h 501 r1)) <|
    mv_bh (wI2 h 501 r1 v1.toNatClampNeg v2.toInt8.toInt32) fun h2 =>
    some ([], h2))
  else
  if (rI2 h 4 o0 0) = (nI 1) then (
    mv_el (itm2 h o0) (
      none) fun r3 =>
    mv_gd (mv_inb v1 (ln2 h 501 r3)) <|
    mv_bh (wI2 h 501 r3 v1.toNatClampNeg v2.toInt16.toInt32) fun h4 =>
    some ([], h4))
  else
  mv_el (itm2 h o0) (
    none) fun r5 =>
  mv_gd (mv_inb v1 (ln2 h 501 r5)) <|
  mv_bh (wI2 h 501 r5 v1.toNatClampNeg v2) fun h6 =>
  some ([], h6)
def cS_write : List mv_V → H2 → (List mv_V → H2 → O2) → O2 := fun as h k => match as with
  | [.inr (t0, o0), .inl (.int v1), .inl (.int v2)] => mv_gd (Nat.beq t0 4) <| mv_rV (fS_write o0 v1 v2 h) fun h => k [] h
  | _ => none
def fH_holdCloth (o0 : Nat) (v1 : Int32) (v2 : Int32) (h : H2) : O2 :=
  mv_gd (mv_inb v1 4) <|
  mv_bh (wI2 h 600 o0 v1.toNatClampNeg v2) fun h1 =>
  mv_gd (mv_inb v1 4) <|
  wR2 h1 601 o0 v1.toNatClampNeg none fun h2 =>
  some ([], h2)
def cH_holdCloth : List mv_V → H2 → (List mv_V → H2 → O2) → O2 := fun as h k => match as with
  | [.inr (t0, o0), .inl (.int v1), .inl (.int v2)] => mv_gd (Nat.beq t0 5) <| mv_rV (fH_holdCloth o0 v1 v2 h) fun h => k [] h
  | _ => none
def fH_holdRow_n (o0 : Nat) (v1 : Int32) (h : H2) : O2 :=
  mv_gd (mv_inb v1 4) <|
  mv_bh (wI2 h 600 o0 v1.toNatClampNeg (-(nI 1))) fun h1 =>
  mv_gd (mv_inb v1 4) <|
  wR2 h1 601 o0 v1.toNatClampNeg none fun h2 =>
  some ([], h2)
def fH_holdRow_r (o0 : Nat) (v1 : Int32) (o2 : Nat) (h : H2) : O2 :=
  mv_gd (mv_inb v1 4) <|
  mv_bh (wI2 h 600 o0 v1.toNatClampNeg (-(nI 1))) fun h1 =>
  mv_gd (mv_inb v1 4) <|
  wR2 h1 601 o0 v1.toNatClampNeg (some (4, o2)) fun h2 =>
  some ([], h2)
def cH_holdRow : List mv_V → H2 → (List mv_V → H2 → O2) → O2 := fun as h k => match as with
  | [.inr (t0, o0), .inl (.int v1), .inl .null] => mv_gd (Nat.beq t0 5) <| mv_rV (fH_holdRow_n o0 v1 h) fun h => k [] h
  | [.inr (t0, o0), .inl (.int v1), .inr (t2, o2)] => mv_gd (Nat.beq t0 5) <| mv_gd (Nat.beq t2 4) <| mv_rV (fH_holdRow_r o0 v1 o2 h) fun h => k [] h
  | _ => none
def fH_clothOn (o0 : Nat) (v1 : Int32) (h : H2) : O2 :=
  mv_gd (mv_inb v1 4) <|
  some ([Sum.inl (Value.int (rI2 h 600 o0 v1.toNatClampNeg))], h)
def cH_clothOn : List mv_V → H2 → (List mv_V → H2 → O2) → O2 := fun as h k => match as with
  | [.inr (t0, o0), .inl (.int v1)] => mv_gd (Nat.beq t0 5) <| mv_rI (fH_clothOn o0 v1 h) fun x h => k [.inl (.int x)] h
  | _ => none
def fH_rowOn (o0 : Nat) (v1 : Int32) (h : H2) : O2 :=
  mv_gd (mv_inb v1 4) <|
  mv_el (hld2 h v1.toNatClampNeg) (
    some ([Sum.inl Value.null], h)) fun r1 =>
  some ([Sum.inr (4, r1)], h)
def cH_rowOn : List mv_V → H2 → (List mv_V → H2 → O2) → O2 := fun as h k => match as with
  | [.inr (t0, o0), .inl (.int v1)] => mv_gd (Nat.beq t0 5) <| mv_rQ (fH_rowOn o0 v1 h) (fun h => k [.inl .null] h) fun x h => k [.inr (4, x)] h
  | _ => none
def fT_room (o0 : Nat) (h : H2) : O2 :=
  some ([Sum.inl (Value.int ((nI 200) - (rI2 h 6 o0 1)))], h)
def cT_room : List mv_V → H2 → (List mv_V → H2 → O2) → O2 := fun as h k => match as with
  | [.inr (t0, o0)] => mv_gd (Nat.beq t0 6) <| mv_rI (fT_room o0 h) fun x h => k [.inl (.int x)] h
  | _ => none
def fT_take_b3 : Nat → Nat → Int64 → Int32 → Int32 → H2 → O2
  | 0 => fun _ _ _ _ _ => none
  | n + 1 => fun o0 w1 v3 v4 h =>
    if v3 ≤ v4 then (
      mv_bh (wI2 h 6 o0 1 ((rI2 h 6 o0 1) + v3)) fun h1 =>
      some ([], h1))
    else
    mv_gd (mv_inb ((rI2 h 6 o0 1) + v4) 200) <|
    mv_bh (wI2 h 700 o0 ((rI2 h 6 o0 1) + v4).toNatClampNeg (((w1 >>> (((nI 8) * v4).toInt64 &&& 63)) &&& (lN 255)).toInt32)) fun h2 =>
    mv_bi (v4 + (nI 1)) fun x3 =>
    fT_take_b3 n o0 w1 v3 x3 h2
def fT_take (o0 : Nat) (w1 : Int64) (v3 : Int32) (h : H2) : O2 :=
  mv_bi (nI 0) fun x1 =>
  fT_take_b3 1000 o0 w1 v3 x1 h
def cT_take : List mv_V → H2 → (List mv_V → H2 → O2) → O2 := fun as h k => match as with
  | [.inr (t0, o0), .inl (.long w1), .inl (.int v3)] => mv_gd (Nat.beq t0 6) <| mv_rV (fT_take o0 w1 v3 h) fun h => k [] h
  | _ => none
def fT_useUp (o0 : Nat) (h : H2) : O2 :=
  mv_bh (wI2 h 6 o0 1 (nI 0)) fun h1 =>
  some ([], h1)
def cT_useUp : List mv_V → H2 → (List mv_V → H2 → O2) → O2 := fun as h k => match as with
  | [.inr (t0, o0)] => mv_gd (Nat.beq t0 6) <| mv_rV (fT_useUp o0 h) fun h => k [] h
  | _ => none
def fT_readDigits_b5 : Nat → Nat → H2 → O2
  | 0 => fun _ _ => none
  | n + 1 => fun o0 h =>
    if (rI2 h 6 o0 1) ≤ (rI2 h 6 o0 2) then (
      if ((rI2 h 6 o0 2) - (rI2 h 6 o0 3)) ≤ (nI 3) then (
        some ([], h))
      else
      mv_bh (wI2 h 6 o0 5 (nI 1000)) fun h1 =>
      some ([], h1))
    else
    mv_gd (mv_inb (rI2 h 6 o0 2) 200) <|
    if (rI2 h 700 o0 (rI2 h 6 o0 2).toNatClampNeg) < (nI 48) then (
      if ((rI2 h 6 o0 2) - (rI2 h 6 o0 3)) ≤ (nI 3) then (
        some ([], h))
      else
      mv_bh (wI2 h 6 o0 5 (nI 1000)) fun h2 =>
      some ([], h2))
    else
    mv_gd (mv_inb (rI2 h 6 o0 2) 200) <|
    if (nI 57) < (rI2 h 700 o0 (rI2 h 6 o0 2).toNatClampNeg) then (
      if ((rI2 h 6 o0 2) - (rI2 h 6 o0 3)) ≤ (nI 3) then (
        some ([], h))
      else
      mv_bh (wI2 h 6 o0 5 (nI 1000)) fun h3 =>
      some ([], h3))
    else
    if (nI 3) ≤ ((rI2 h 6 o0 2) - (rI2 h 6 o0 3)) then (
      mv_bh (wI2 h 6 o0 2 ((rI2 h 6 o0 2) + (nI 1))) fun h4 =>
      fT_readDigits_b5 n o0 h4)
    else
    mv_gd (mv_inb (rI2 h 6 o0 2) 200) <|
    mv_bh (wI2 h 6 o0 5 ((((rI2 h 6 o0 5) * (nI 10)) + (rI2 h 700 o0 (rI2 h 6 o0 2).toNatClampNeg)) - (nI 48))) fun h5 =>
    mv_bh (wI2 h5 6 o0 2 ((rI2 h5 6 o0 2) + (nI 1))) fun h6 =>
    fT_readDigits_b5 n o0 h6
def fT_readDigits (o0 : Nat) (h : H2) : O2 :=
  mv_bh (wI2 h 6 o0 5 (nI 0)) fun h1 =>
  fT_readDigits_b5 1000 o0 h1
def cT_readDigits : List mv_V → H2 → (List mv_V → H2 → O2) → O2 := fun as h k => match as with
  | [.inr (t0, o0)] => mv_gd (Nat.beq t0 6) <| mv_rV (fT_readDigits o0 h) fun h => k [] h
  | _ => none
def fT_readWord_b89 : Nat → Nat → H2 → O2
  | 0 => fun _ _ => none
  | n + 1 => fun o0 h =>
    if (rI2 h 6 o0 1) ≤ (rI2 h 6 o0 2) then (
      some ([], h))
    else
    mv_gd (mv_inb (rI2 h 6 o0 2) 200) <|
    mv_rI (fV_isIn (rI2 h 700 o0 (rI2 h 6 o0 2).toNatClampNeg) (nI 97) (nI 122) h) fun r2 h1 =>
    if r2 = 0 then (
      some ([], h1))
    else
    mv_bh (wI2 h1 6 o0 2 ((rI2 h1 6 o0 2) + (nI 1))) fun h3 =>
    fT_readWord_b89 n o0 h3
def fT_readWord_b38 (o0 : Nat) (h : H2) : O2 :=
  mv_bh (wI2 h 6 o0 3 (rI2 h 6 o0 2)) fun h1 =>
  if (rI2 h1 6 o0 2) < (rI2 h1 6 o0 1) then (
    mv_gd (mv_inb (rI2 h1 6 o0 2) 200) <|
    mv_rI (fV_isIn (rI2 h1 700 o0 (rI2 h1 6 o0 2).toNatClampNeg) (nI 97) (nI 122) h1) fun r3 h2 =>
    if r3 = 0 then (
      mv_gd (mv_inb (rI2 h2 6 o0 2) 200) <|
      mv_rI (fV_isIn (rI2 h2 700 o0 (rI2 h2 6 o0 2).toNatClampNeg) (nI 48) (nI 57) h2) fun r5 h4 =>
      if r5 = 0 then (
        mv_bh (wI2 h4 6 o0 4 (nI 3)) fun h6 =>
        mv_bh (wI2 h6 6 o0 2 ((rI2 h6 6 o0 2) + (nI 1))) fun h7 =>
        some ([], h7))
      else
      mv_bh (wI2 h4 6 o0 4 (nI 2)) fun h8 =>
      mv_rV (fT_readDigits o0 h8) fun h9 =>
      some ([], h9))
    else
    mv_bh (wI2 h2 6 o0 4 (nI 1)) fun h10 =>
    fT_readWord_b89 1000 o0 h10)
  else
  mv_bh (wI2 h1 6 o0 4 (nI 0)) fun h11 =>
  some ([], h11)
def fT_readWord_b0 : Nat → Nat → H2 → O2
  | 0 => fun _ _ => none
  | n + 1 => fun o0 h =>
    if (rI2 h 6 o0 1) ≤ (rI2 h 6 o0 2) then (
      fT_readWord_b38 o0 h)
    else
    mv_gd (mv_inb (rI2 h 6 o0 2) 200) <|
    if (rI2 h 700 o0 (rI2 h 6 o0 2).toNatClampNeg) = (nI 32) then (
      mv_bh (wI2 h 6 o0 2 ((rI2 h 6 o0 2) + (nI 1))) fun h1 =>
      fT_readWord_b0 n o0 h1)
    else
    fT_readWord_b38 o0 h
def fT_readWord (o0 : Nat) (h : H2) : O2 :=
  fT_readWord_b0 1000 o0 h
def cT_readWord : List mv_V → H2 → (List mv_V → H2 → O2) → O2 := fun as h k => match as with
  | [.inr (t0, o0)] => mv_gd (Nat.beq t0 6) <| mv_rV (fT_readWord o0 h) fun h => k [] h
  | _ => none
def fT_isName_b28 : Nat → Nat → Nat → Int32 → H2 → O2
  | 0 => fun _ _ _ _ => none
  | n + 1 => fun o0 o1 v2 h =>
    if (nI (stl o1)) ≤ v2 then (
      mv_gd (decide (nI 1 = nI 0) || decide (nI 1 = nI 1)) <| some ([Sum.inl (Value.int (nI 1))], h))
    else
    mv_gd (mv_inb ((rI2 h 6 o0 3) + v2) 200) <|
    mv_gd (mv_inb v2 (stl o1)) <|
    if (rI2 h 700 o0 ((rI2 h 6 o0 3) + v2).toNatClampNeg) = (stc o1 v2.toNatClampNeg) then (
      mv_bi (v2 + (nI 1)) fun x1 =>
      fT_isName_b28 n o0 o1 x1 h)
    else
    mv_gd (decide (nI 0 = nI 0) || decide (nI 0 = nI 1)) <| some ([Sum.inl (Value.int (nI 0))], h)
def fT_isName (o0 : Nat) (o1 : Nat) (h : H2) : O2 :=
  if (rI2 h 6 o0 4) = (nI 1) then (
    if ((rI2 h 6 o0 2) - (rI2 h 6 o0 3)) = (nI (stl o1)) then (
      mv_bi (nI 0) fun x1 =>
      fT_isName_b28 1000 o0 o1 x1 h)
    else
    mv_gd (decide (nI 0 = nI 0) || decide (nI 0 = nI 1)) <| some ([Sum.inl (Value.int (nI 0))], h))
  else
  mv_gd (decide (nI 0 = nI 0) || decide (nI 0 = nI 1)) <| some ([Sum.inl (Value.int (nI 0))], h)
def cT_isName : List mv_V → H2 → (List mv_V → H2 → O2) → O2 := fun as h k => match as with
  | [.inr (t0, o0), .inr (t1, o1)] => mv_gd (Nat.beq t0 6) <| mv_gd (Nat.beq t1 11) <| mv_rI (fT_isName o0 o1 h) fun x h => k [.inl (.int x)] h
  | _ => none
def fT_kindNamed (o0 : Nat) (h : H2) : O2 :=
  mv_rI (fT_isName o0 7 h) fun r2 h1 =>
  if r2 = 0 then (
    mv_rI (fT_isName o0 8 h1) fun r4 h3 =>
    if r4 = 0 then (
      mv_rI (fT_isName o0 9 h3) fun r6 h5 =>
      if r6 = 0 then (
        mv_rI (fT_isName o0 10 h5) fun r8 h7 =>
        if r8 = 0 then (
          mv_rI (fT_isName o0 11 h7) fun r10 h9 =>
          if r10 = 0 then (
            mv_rI (fT_isName o0 12 h9) fun r12 h11 =>
            if r12 = 0 then (
              some ([Sum.inl (Value.int (-(nI 1)))], h11))
            else
            some ([Sum.inl (Value.int (nI 5))], h11))
          else
          some ([Sum.inl (Value.int (nI 4))], h9))
        else
        some ([Sum.inl (Value.int (nI 3))], h7))
      else
      some ([Sum.inl (Value.int (nI 2))], h5))
    else
    some ([Sum.inl (Value.int (nI 1))], h3))
  else
  some ([Sum.inl (Value.int (nI 0))], h1)
def cT_kindNamed : List mv_V → H2 → (List mv_V → H2 → O2) → O2 := fun as h k => match as with
  | [.inr (t0, o0)] => mv_gd (Nat.beq t0 6) <| mv_rI (fT_kindNamed o0 h) fun x h => k [.inl (.int x)] h
  | _ => none
def fT_readNumber (o0 : Nat) (v1 : Int32) (v2 : Int32) (h : H2) : O2 :=
  mv_rV (fT_readWord o0 h) fun h1 =>
  if (rI2 h1 6 o0 4) = (nI 2) then (
    mv_rI (fV_isIn (rI2 h1 6 o0 5) v1 v2 h1) fun r3 h2 =>
    if r3 = 0 then (
      mv_gd (decide (nI 0 = nI 0) || decide (nI 0 = nI 1)) <| some ([Sum.inl (Value.int (nI 0))], h2))
    else
    mv_gd (decide (nI 1 = nI 0) || decide (nI 1 = nI 1)) <| some ([Sum.inl (Value.int (nI 1))], h2))
  else
  mv_gd (decide (nI 0 = nI 0) || decide (nI 0 = nI 1)) <| some ([Sum.inl (Value.int (nI 0))], h1)
def cT_readNumber : List mv_V → H2 → (List mv_V → H2 → O2) → O2 := fun as h k => match as with
  | [.inr (t0, o0), .inl (.int v1), .inl (.int v2)] => mv_gd (Nat.beq t0 6) <| mv_rI (fT_readNumber o0 v1 v2 h) fun x h => k [.inl (.int x)] h
  | _ => none
def fT_isStop (o0 : Nat) (h : H2) : O2 :=
  if (rI2 h 6 o0 4) = (nI 3) then (
    mv_gd (mv_inb (rI2 h 6 o0 3) 200) <|
    if (rI2 h 700 o0 (rI2 h 6 o0 3).toNatClampNeg) = (nI 59) then (
      mv_gd (decide (nI 1 = nI 0) || decide (nI 1 = nI 1)) <| some ([Sum.inl (Value.int (nI 1))], h))
    else
    mv_gd (decide (nI 0 = nI 0) || decide (nI 0 = nI 1)) <| some ([Sum.inl (Value.int (nI 0))], h))
  else
  mv_gd (decide (nI 0 = nI 0) || decide (nI 0 = nI 1)) <| some ([Sum.inl (Value.int (nI 0))], h)
def cT_isStop : List mv_V → H2 → (List mv_V → H2 → O2) → O2 := fun as h k => match as with
  | [.inr (t0, o0)] => mv_gd (Nat.beq t0 6) <| mv_rI (fT_isStop o0 h) fun x h => k [.inl (.int x)] h
  | _ => none
def fT_readCloth_b99 (o0 : Nat) (o1 : Nat) (v3 : Int32) (h : H2) : O2 :=
  mv_rI (fT_isName o0 5 h) fun r2 h1 =>
  if r2 = 0 then (
    mv_rI (fT_isStop o0 h1) fun r4 h3 =>
    mv_gd (decide (r4 = nI 0) || decide (r4 = nI 1)) <| some ([Sum.inl (Value.int r4)], h3))
  else
  mv_gd (mv_inb v3 8) <|
  mv_bh (wI2 h1 307 o1 v3.toNatClampNeg (nI 1)) fun h5 =>
  mv_rV (fT_readWord o0 h5) fun h6 =>
  mv_rI (fT_isStop o0 h6) fun r8 h7 =>
  mv_gd (decide (r8 = nI 0) || decide (r8 = nI 1)) <| some ([Sum.inl (Value.int r8)], h7)
def fT_readCloth (o0 : Nat) (o1 : Nat) (v2 : Int32) (h : H2) : O2 :=
  if (rI2 h 2 o1 9) < (nI 8) then (
    mv_rI (fM_addCloth o1 v2 h) fun r2 h1 =>
    mv_bi r2 fun x3 =>
    mv_rV (fT_readWord o0 h1) fun h4 =>
    mv_rI (fT_isName o0 3 h4) fun r6 h5 =>
    if r6 = 0 then (
      fT_readCloth_b99 o0 o1 x3 h5)
    else
    mv_rI (fT_readNumber o0 (nI 0) (nI 9) h5) fun r8 h7 =>
    if r8 = 0 then (
      mv_gd (decide (nI 0 = nI 0) || decide (nI 0 = nI 1)) <| some ([Sum.inl (Value.int (nI 0))], h7))
    else
    mv_gd (mv_inb x3 8) <|
    mv_bh (wI2 h7 305 o1 x3.toNatClampNeg (rI2 h7 6 o0 5)) fun h9 =>
    mv_gd (mv_inb x3 8) <|
    mv_bh (wI2 h9 306 o1 x3.toNatClampNeg (nI 20)) fun h10 =>
    mv_rV (fT_readWord o0 h10) fun h11 =>
    mv_rI (fT_isName o0 4 h11) fun r13 h12 =>
    if r13 = 0 then (
      fT_readCloth_b99 o0 o1 x3 h12)
    else
    mv_rI (fT_readNumber o0 (nI 1) (nI 99) h12) fun r15 h14 =>
    if r15 = 0 then (
      mv_gd (decide (nI 0 = nI 0) || decide (nI 0 = nI 1)) <| some ([Sum.inl (Value.int (nI 0))], h14))
    else
    mv_gd (mv_inb x3 8) <|
    mv_bh (wI2 h14 306 o1 x3.toNatClampNeg (rI2 h14 6 o0 5)) fun h16 =>
    mv_rV (fT_readWord o0 h16) fun h17 =>
    fT_readCloth_b99 o0 o1 x3 h17)
  else
  mv_gd (decide (nI 0 = nI 0) || decide (nI 0 = nI 1)) <| some ([Sum.inl (Value.int (nI 0))], h)
def cT_readCloth : List mv_V → H2 → (List mv_V → H2 → O2) → O2 := fun as h k => match as with
  | [.inr (t0, o0), .inr (t1, o1), .inl (.int v2)] => mv_gd (Nat.beq t0 6) <| mv_gd (Nat.beq t1 2) <| mv_rI (fT_readCloth o0 o1 v2 h) fun x h => k [.inl (.int x)] h
  | _ => none
def fT_readName (o0 : Nat) (o1 : Nat) (h : H2) : O2 :=
  mv_rV (fT_readWord o0 h) fun h1 =>
  mv_rI (fT_isName o0 o1 h1) fun r3 h2 =>
  mv_gd (decide (r3 = nI 0) || decide (r3 = nI 1)) <| some ([Sum.inl (Value.int r3)], h2)
def cT_readName : List mv_V → H2 → (List mv_V → H2 → O2) → O2 := fun as h k => match as with
  | [.inr (t0, o0), .inr (t1, o1)] => mv_gd (Nat.beq t0 6) <| mv_gd (Nat.beq t1 11) <| mv_rI (fT_readName o0 o1 h) fun x h => k [.inl (.int x)] h
  | _ => none
def fT_readStop (o0 : Nat) (h : H2) : O2 :=
  mv_rV (fT_readWord o0 h) fun h1 =>
  mv_rI (fT_isStop o0 h1) fun r3 h2 =>
  mv_gd (decide (r3 = nI 0) || decide (r3 = nI 1)) <| some ([Sum.inl (Value.int r3)], h2)
def cT_readStop : List mv_V → H2 → (List mv_V → H2 → O2) → O2 := fun as h k => match as with
  | [.inr (t0, o0)] => mv_gd (Nat.beq t0 6) <| mv_rI (fT_readStop o0 h) fun x h => k [.inl (.int x)] h
  | _ => none
def fT_readVat (o0 : Nat) (o1 : Nat) (h : H2) : O2 :=
  mv_rI (fT_readNumber o0 (nI 0) (nI 7) h) fun r2 h1 =>
  if r2 = 0 then (
    mv_gd (decide (nI 0 = nI 0) || decide (nI 0 = nI 1)) <| some ([Sum.inl (Value.int (nI 0))], h1))
  else
  mv_bi (rI2 h1 6 o0 5) fun x3 =>
  mv_rI (fT_readName o0 6 h1) fun r5 h4 =>
  if r5 = 0 then (
    mv_gd (decide (nI 0 = nI 0) || decide (nI 0 = nI 1)) <| some ([Sum.inl (Value.int (nI 0))], h4))
  else
  mv_rI (fT_readNumber o0 (nI 0) (nI 9) h4) fun r7 h6 =>
  if r7 = 0 then (
    mv_gd (decide (nI 0 = nI 0) || decide (nI 0 = nI 1)) <| some ([Sum.inl (Value.int (nI 0))], h6))
  else
  mv_gd (mv_inb x3 8) <|
  mv_bh (wI2 h6 301 o1 x3.toNatClampNeg (rI2 h6 6 o0 5)) fun h8 =>
  mv_rI (fT_readStop o0 h8) fun r10 h9 =>
  mv_gd (decide (r10 = nI 0) || decide (r10 = nI 1)) <| some ([Sum.inl (Value.int r10)], h9)
def cT_readVat : List mv_V → H2 → (List mv_V → H2 → O2) → O2 := fun as h k => match as with
  | [.inr (t0, o0), .inr (t1, o1)] => mv_gd (Nat.beq t0 6) <| mv_gd (Nat.beq t1 2) <| mv_rI (fT_readVat o0 o1 h) fun x h => k [.inl (.int x)] h
  | _ => none
def fT_readStrong (o0 : Nat) (o1 : Nat) (h : H2) : O2 :=
  mv_rI (fT_readNumber o0 (nI 0) (nI 7) h) fun r2 h1 =>
  if r2 = 0 then (
    mv_gd (decide (nI 0 = nI 0) || decide (nI 0 = nI 1)) <| some ([Sum.inl (Value.int (nI 0))], h1))
  else
  mv_bi (rI2 h1 6 o0 5) fun x3 =>
  mv_rI (fT_readNumber o0 (nI 0) (nI 9) h1) fun r5 h4 =>
  if r5 = 0 then (
    mv_gd (decide (nI 0 = nI 0) || decide (nI 0 = nI 1)) <| some ([Sum.inl (Value.int (nI 0))], h4))
  else
  mv_gd (mv_inb x3 8) <|
  mv_bh (wI2 h4 302 o1 x3.toNatClampNeg (rI2 h4 6 o0 5)) fun h6 =>
  mv_rI (fT_readStop o0 h6) fun r8 h7 =>
  mv_gd (decide (r8 = nI 0) || decide (r8 = nI 1)) <| some ([Sum.inl (Value.int r8)], h7)
def cT_readStrong : List mv_V → H2 → (List mv_V → H2 → O2) → O2 := fun as h k => match as with
  | [.inr (t0, o0), .inr (t1, o1)] => mv_gd (Nat.beq t0 6) <| mv_gd (Nat.beq t1 2) <| mv_rI (fT_readStrong o0 o1 h) fun x h => k [.inl (.int x)] h
  | _ => none
def fT_readDay (o0 : Nat) (o1 : Nat) (h : H2) : O2 :=
  mv_rI (fT_readNumber o0 (nI 0) (nI 5) h) fun r2 h1 =>
  if r2 = 0 then (
    mv_gd (decide (nI 0 = nI 0) || decide (nI 0 = nI 1)) <| some ([Sum.inl (Value.int (nI 0))], h1))
  else
  mv_bi (rI2 h1 6 o0 5) fun x3 =>
  mv_rI (fT_readName o0 0 h1) fun r5 h4 =>
  if r5 = 0 then (
    mv_gd (decide (nI 0 = nI 0) || decide (nI 0 = nI 1)) <| some ([Sum.inl (Value.int (nI 0))], h4))
  else
  mv_rI (fT_readNumber o0 (nI 0) (nI 7) h4) fun r7 h6 =>
  if r7 = 0 then (
    mv_gd (decide (nI 0 = nI 0) || decide (nI 0 = nI 1)) <| some ([Sum.inl (Value.int (nI 0))], h6))
  else
  mv_gd (mv_inb x3 6) <|
  mv_bh (wI2 h6 303 o1 x3.toNatClampNeg (rI2 h6 6 o0 5)) fun h8 =>
  mv_rI (fT_readStop o0 h8) fun r10 h9 =>
  mv_gd (decide (r10 = nI 0) || decide (r10 = nI 1)) <| some ([Sum.inl (Value.int r10)], h9)
def cT_readDay : List mv_V → H2 → (List mv_V → H2 → O2) → O2 := fun as h k => match as with
  | [.inr (t0, o0), .inr (t1, o1)] => mv_gd (Nat.beq t0 6) <| mv_gd (Nat.beq t1 2) <| mv_rI (fT_readDay o0 o1 h) fun x h => k [.inl (.int x)] h
  | _ => none
def fT_lawNamed (o0 : Nat) (h : H2) : O2 :=
  mv_rI (fT_isName o0 13 h) fun r2 h1 =>
  if r2 = 0 then (
    mv_rI (fT_isName o0 14 h1) fun r4 h3 =>
    if r4 = 0 then (
      mv_rI (fT_isName o0 15 h3) fun r6 h5 =>
      if r6 = 0 then (
        mv_rI (fT_isName o0 16 h5) fun r8 h7 =>
        if r8 = 0 then (
          some ([Sum.inl (Value.int (-(nI 1)))], h7))
        else
        some ([Sum.inl (Value.int (nI 3))], h7))
      else
      some ([Sum.inl (Value.int (nI 2))], h5))
    else
    some ([Sum.inl (Value.int (nI 1))], h3))
  else
  some ([Sum.inl (Value.int (nI 0))], h1)
def cT_lawNamed : List mv_V → H2 → (List mv_V → H2 → O2) → O2 := fun as h k => match as with
  | [.inr (t0, o0)] => mv_gd (Nat.beq t0 6) <| mv_rI (fT_lawNamed o0 h) fun x h => k [.inl (.int x)] h
  | _ => none
def fV_mostOfLaw (v0 : Int32) (h : H2) : O2 :=
  if v0 = (nI 3) then (
    some ([Sum.inl (Value.int (nI 99))], h))
  else
  some ([Sum.inl (Value.int (nI 9))], h)
def cV_mostOfLaw : List mv_V → H2 → (List mv_V → H2 → O2) → O2 := fun as h k => match as with
  | [.inl (.int v0)] => mv_rI (fV_mostOfLaw v0 h) fun x h => k [.inl (.int x)] h
  | _ => none
def fT_readLaw (o0 : Nat) (o1 : Nat) (v2 : Int32) (h : H2) : O2 :=
  mv_rI (fV_mostOfLaw v2 h) fun r2 h1 =>
  mv_rI (fT_readNumber o0 (nI 0) r2 h1) fun r4 h3 =>
  if r4 = 0 then (
    mv_gd (decide (nI 0 = nI 0) || decide (nI 0 = nI 1)) <| some ([Sum.inl (Value.int (nI 0))], h3))
  else
  mv_gd (mv_inb v2 4) <|
  mv_bh (wI2 h3 300 o1 v2.toNatClampNeg (rI2 h3 6 o0 5)) fun h5 =>
  mv_rI (fT_readStop o0 h5) fun r7 h6 =>
  mv_gd (decide (r7 = nI 0) || decide (r7 = nI 1)) <| some ([Sum.inl (Value.int r7)], h6)
def cT_readLaw : List mv_V → H2 → (List mv_V → H2 → O2) → O2 := fun as h k => match as with
  | [.inr (t0, o0), .inr (t1, o1), .inl (.int v2)] => mv_gd (Nat.beq t0 6) <| mv_gd (Nat.beq t1 2) <| mv_rI (fT_readLaw o0 o1 v2 h) fun x h => k [.inl (.int x)] h
  | _ => none
def fT_readStatement (o0 : Nat) (o1 : Nat) (h : H2) : O2 :=
  mv_rI (fT_kindNamed o0 h) fun r2 h1 =>
  mv_bi r2 fun x3 =>
  if x3 < 0 then (
    mv_rI (fT_isName o0 0 h1) fun r5 h4 =>
    if r5 = 0 then (
      mv_rI (fT_isName o0 1 h4) fun r7 h6 =>
      if r7 = 0 then (
        mv_rI (fT_isName o0 2 h6) fun r9 h8 =>
        if r9 = 0 then (
          mv_rI (fT_lawNamed o0 h8) fun r11 h10 =>
          mv_bi r11 fun x12 =>
          if x12 < 0 then (
            mv_gd (decide (nI 0 = nI 0) || decide (nI 0 = nI 1)) <| some ([Sum.inl (Value.int (nI 0))], h10))
          else
          mv_rI (fT_readLaw o0 o1 x12 h10) fun r14 h13 =>
          if r14 = 0 then (
            mv_gd (decide (nI 0 = nI 0) || decide (nI 0 = nI 1)) <| some ([Sum.inl (Value.int (nI 0))], h13))
          else
          mv_gd (decide (nI 1 = nI 0) || decide (nI 1 = nI 1)) <| some ([Sum.inl (Value.int (nI 1))], h13))
        else
        mv_rI (fT_readDay o0 o1 h8) fun r16 h15 =>
        mv_gd (decide (r16 = nI 0) || decide (r16 = nI 1)) <| some ([Sum.inl (Value.int r16)], h15))
      else
      mv_rI (fT_readStrong o0 o1 h6) fun r18 h17 =>
      mv_gd (decide (r18 = nI 0) || decide (r18 = nI 1)) <| some ([Sum.inl (Value.int r18)], h17))
    else
    mv_rI (fT_readVat o0 o1 h4) fun r20 h19 =>
    mv_gd (decide (r20 = nI 0) || decide (r20 = nI 1)) <| some ([Sum.inl (Value.int r20)], h19))
  else
  mv_rI (fT_readCloth o0 o1 x3 h1) fun r22 h21 =>
  mv_gd (decide (r22 = nI 0) || decide (r22 = nI 1)) <| some ([Sum.inl (Value.int r22)], h21)
def cT_readStatement : List mv_V → H2 → (List mv_V → H2 → O2) → O2 := fun as h k => match as with
  | [.inr (t0, o0), .inr (t1, o1)] => mv_gd (Nat.beq t0 6) <| mv_gd (Nat.beq t1 2) <| mv_rI (fT_readStatement o0 o1 h) fun x h => k [.inl (.int x)] h
  | _ => none
def fT_readInto_b11 : Nat → Nat → Nat → Int32 → H2 → O2
  | 0 => fun _ _ _ _ => none
  | n + 1 => fun o0 o1 v2 h =>
    if (rI2 h 6 o0 1) < v2 then (
      some ([Sum.inl (Value.int (-(nI 1)))], h))
    else
    mv_rV (fT_readWord o0 h) fun h1 =>
    if (rI2 h1 6 o0 4) = 0 then (
      some ([Sum.inl (Value.int (-(nI 1)))], h1))
    else
    mv_rI (fT_readStatement o0 o1 h1) fun r3 h2 =>
    if r3 = 0 then (
      some ([Sum.inl (Value.int (rI2 h2 6 o0 3))], h2))
    else
    mv_bi (v2 + (nI 1)) fun x4 =>
    fT_readInto_b11 n o0 o1 x4 h2
def fT_readInto (o0 : Nat) (o1 : Nat) (h : H2) : O2 :=
  mv_rV (fM_becomeFirst o1 h) fun h1 =>
  mv_bh (wI2 h1 6 o0 2 (nI 0)) fun h2 =>
  mv_bi (nI 0) fun x3 =>
  fT_readInto_b11 1000 o0 o1 x3 h2
def cT_readInto : List mv_V → H2 → (List mv_V → H2 → O2) → O2 := fun as h k => match as with
  | [.inr (t0, o0), .inr (t1, o1)] => mv_gd (Nat.beq t0 6) <| mv_gd (Nat.beq t1 2) <| mv_rI (fT_readInto o0 o1 h) fun x h => k [.inl (.int x)] h
  | _ => none
def fV_feed (o0 : Nat) (w1 : Int64) (v3 : Int32) (h : H2) : O2 :=
  mv_rI (fV_isIn v3 (nI 1) (nI 8) h) fun r2 h1 =>
  if r2 = 0 then (
    some ([Sum.inl (Value.int (-(nI 1)))], h1))
  else
  mv_rI (fT_room 0 h1) fun r4 h3 =>
  if v3 ≤ r4 then (
    mv_rV (fT_take 0 w1 v3 h3) fun h5 =>
    some ([Sum.inl (Value.int (rI2 h5 6 0 1))], h5))
  else
  some ([Sum.inl (Value.int (-(nI 2)))], h3)
def fV_mill (o0 : Nat) (h : H2) : O2 :=
  mv_rI (fT_readInto 0 1 h) fun r2 h1 =>
  mv_bi r2 fun x3 =>
  mv_rV (fT_useUp 0 h1) fun h4 =>
  if x3 < 0 then (
    mv_bh (wI2 h4 2 1 11 (rI2 h4 2 0 11)) fun h5 =>
    mv_rV (fM_copyFrom 0 1 h5) fun h6 =>
    mv_bh (wI2 h6 3 0 1 (nI 0)) fun h7 =>
    some ([Sum.inl (Value.int (rI2 h7 2 0 9))], h7))
  else
  some ([Sum.inl (Value.int ((-(nI 100)) - x3))], h4)
def fV_set (o0 : Nat) (v1 : Int32) (v2 : Int32) (h : H2) : O2 :=
  mv_rI (fV_isIn v1 (nI 0) (nI 3) h) fun r2 h1 =>
  if r2 = 0 then (
    some ([Sum.inl (Value.int (-(nI 1)))], h1))
  else
  mv_rI (fV_mostOfLaw v1 h1) fun r4 h3 =>
  mv_rI (fV_isIn v2 (nI 0) r4 h3) fun r6 h5 =>
  if r6 = 0 then (
    some ([Sum.inl (Value.int (-(nI 1)))], h5))
  else
  mv_gd (mv_inb v1 4) <|
  mv_bi (rI2 h5 300 0 v1.toNatClampNeg) fun x7 =>
  mv_gd (mv_inb v1 4) <|
  mv_bh (wI2 h5 300 0 v1.toNatClampNeg v2) fun h8 =>
  some ([Sum.inl (Value.int x7)], h8)
def fV_lawOf (o0 : Nat) (v1 : Int32) (h : H2) : O2 :=
  mv_rI (fV_isIn v1 (nI 0) (nI 3) h) fun r2 h1 =>
  if r2 = 0 then (
    some ([Sum.inl (Value.int (-(nI 1)))], h1))
  else
  mv_gd (mv_inb v1 4) <|
  some ([Sum.inl (Value.int (rI2 h1 300 0 v1.toNatClampNeg))], h1)
def fV_isVat (v0 : Int32) (h : H2) : O2 :=
  mv_rI (fV_isIn v0 (nI 0) (nI 7) h) fun r2 h1 =>
  mv_gd (decide (r2 = nI 0) || decide (r2 = nI 1)) <| some ([Sum.inl (Value.int r2)], h1)
def cV_isVat : List mv_V → H2 → (List mv_V → H2 → O2) → O2 := fun as h k => match as with
  | [.inl (.int v0)] => mv_rI (fV_isVat v0 h) fun x h => k [.inl (.int x)] h
  | _ => none
def fV_fill_b31 (o0 : Nat) (v1 : Int32) (v2 : Int32) (v3 : Int32) (vs0 : Int32) (vs1 : Int32) (vs2 : Int32) (h : H2) : O2 :=
  mv_rI (fV_isIn vs0 vs1 vs2 h) fun r2 h1 =>
  if r2 = 0 then (
    some ([Sum.inl (Value.int (-(nI 1)))], h1))
  else
  if v2 = 0 then (
    mv_gd (mv_inb v1 8) <|
    mv_bi (rI2 h1 301 0 v1.toNatClampNeg) fun x3 =>
    mv_gd (mv_inb v1 8) <|
    mv_bh (wI2 h1 301 0 v1.toNatClampNeg v3) fun h4 =>
    some ([Sum.inl (Value.int x3)], h4))
  else
  mv_gd (mv_inb v1 8) <|
  mv_bi (rI2 h1 302 0 v1.toNatClampNeg) fun x5 =>
  mv_gd (mv_inb v1 8) <|
  mv_bh (wI2 h1 302 0 v1.toNatClampNeg v3) fun h6 =>
  some ([Sum.inl (Value.int x5)], h6)
def fV_fill (o0 : Nat) (v1 : Int32) (v2 : Int32) (v3 : Int32) (h : H2) : O2 :=
  mv_rI (fV_isVat v1 h) fun r2 h1 =>
  if r2 = 0 then (
    some ([Sum.inl (Value.int (-(nI 1)))], h1))
  else
  mv_rI (fV_isIn v2 (nI 0) (nI 1) h1) fun r4 h3 =>
  if r4 = 0 then (
    some ([Sum.inl (Value.int (-(nI 1)))], h3))
  else
  if v2 = 0 then (
    fV_fill_b31 o0 v1 v2 v3 v3 (nI 0) (nI 9) h3)
  else
  fV_fill_b31 o0 v1 v2 v3 v3 (nI 0) (nI 9) h3
def fV_vatOf (o0 : Nat) (v1 : Int32) (v2 : Int32) (h : H2) : O2 :=
  mv_rI (fV_isVat v1 h) fun r2 h1 =>
  if r2 = 0 then (
    some ([Sum.inl (Value.int (-(nI 1)))], h1))
  else
  mv_rI (fV_isIn v2 (nI 0) (nI 1) h1) fun r4 h3 =>
  if r4 = 0 then (
    some ([Sum.inl (Value.int (-(nI 1)))], h3))
  else
  if v2 = 0 then (
    mv_gd (mv_inb v1 8) <|
    some ([Sum.inl (Value.int (rI2 h3 301 0 v1.toNatClampNeg))], h3))
  else
  mv_gd (mv_inb v1 8) <|
  some ([Sum.inl (Value.int (rI2 h3 302 0 v1.toNatClampNeg))], h3)
def fV_isRest (v0 : Int32) (h : H2) : O2 :=
  mv_rI (fV_isIn v0 (nI 0) (nI 5) h) fun r2 h1 =>
  mv_gd (decide (r2 = nI 0) || decide (r2 = nI 1)) <| some ([Sum.inl (Value.int r2)], h1)
def cV_isRest : List mv_V → H2 → (List mv_V → H2 → O2) → O2 := fun as h k => match as with
  | [.inl (.int v0)] => mv_rI (fV_isRest v0 h) fun x h => k [.inl (.int x)] h
  | _ => none
def fV_roster_b23 (o0 : Nat) (v1 : Int32) (v2 : Int32) (h : H2) : O2 :=
  mv_gd (mv_inb v1 6) <|
  mv_bi (rI2 h 303 0 v1.toNatClampNeg) fun x1 =>
  mv_gd (mv_inb v1 6) <|
  mv_bh (wI2 h 303 0 v1.toNatClampNeg v2) fun h2 =>
  some ([Sum.inl (Value.int ((nI 1) + x1))], h2)
def fV_roster (o0 : Nat) (v1 : Int32) (v2 : Int32) (h : H2) : O2 :=
  mv_rI (fV_isRest v1 h) fun r2 h1 =>
  if r2 = 0 then (
    some ([Sum.inl (Value.int (-(nI 1)))], h1))
  else
  if v2 = (-(nI 1)) then (
    fV_roster_b23 o0 v1 v2 h1)
  else
  mv_rI (fV_isVat v2 h1) fun r4 h3 =>
  if r4 = 0 then (
    some ([Sum.inl (Value.int (-(nI 1)))], h3))
  else
  fV_roster_b23 o0 v1 v2 h3
def fV_rosterOf (o0 : Nat) (v1 : Int32) (h : H2) : O2 :=
  mv_rI (fV_isRest v1 h) fun r2 h1 =>
  if r2 = 0 then (
    some ([Sum.inl (Value.int (-(nI 1)))], h1))
  else
  mv_gd (mv_inb v1 6) <|
  some ([Sum.inl (Value.int ((nI 1) + (rI2 h1 303 0 v1.toNatClampNeg)))], h1)
def fV_isKind (v0 : Int32) (h : H2) : O2 :=
  mv_rI (fV_isIn v0 (nI 0) (nI 5) h) fun r2 h1 =>
  mv_gd (decide (r2 = nI 0) || decide (r2 = nI 1)) <| some ([Sum.inl (Value.int r2)], h1)
def cV_isKind : List mv_V → H2 → (List mv_V → H2 → O2) → O2 := fun as h k => match as with
  | [.inl (.int v0)] => mv_rI (fV_isKind v0 h) fun x h => k [.inl (.int x)] h
  | _ => none
def fV_cloth (o0 : Nat) (v1 : Int32) (h : H2) : O2 :=
  mv_rI (fV_isKind v1 h) fun r2 h1 =>
  if r2 = 0 then (
    some ([Sum.inl (Value.int (-(nI 1)))], h1))
  else
  if (rI2 h1 2 0 9) < (nI 8) then (
    mv_rI (fM_addCloth 0 v1 h1) fun r4 h3 =>
    some ([Sum.inl (Value.int r4)], h3))
  else
  some ([Sum.inl (Value.int (-(nI 2)))], h1)
def fV_of (o0 : Nat) (v1 : Int32) (v2 : Int32) (h : H2) : O2 :=
  mv_rI (fM_has 0 v1 h) fun r2 h1 =>
  if r2 = 0 then (
    some ([Sum.inl (Value.int (-(nI 1)))], h1))
  else
  if v2 = nI 0 then (
    mv_gd (mv_inb v1 8) <|
    some ([Sum.inl (Value.int (rI2 h1 304 0 v1.toNatClampNeg))], h1))
  else
  if v2 = nI 1 then (
    mv_gd (mv_inb v1 8) <|
    some ([Sum.inl (Value.int ((nI 1) + (rI2 h1 305 0 v1.toNatClampNeg)))], h1))
  else
  if v2 = nI 2 then (
    mv_gd (mv_inb v1 8) <|
    some ([Sum.inl (Value.int (rI2 h1 306 0 v1.toNatClampNeg))], h1))
  else
  if v2 = nI 3 then (
    mv_gd (mv_inb v1 8) <|
    some ([Sum.inl (Value.int (rI2 h1 307 0 v1.toNatClampNeg))], h1))
  else
  if v2 = nI 4 then (
    mv_gd (mv_inb v1 8) <|
    some ([Sum.inl (Value.int (rI2 h1 308 0 v1.toNatClampNeg))], h1))
  else
  some ([Sum.inl (Value.int (-(nI 1)))], h1)
def fV_does (o0 : Nat) (v1 : Int32) (v2 : Int32) (v3 : Int32) (h : H2) : O2 :=
  mv_rI (fM_has 0 v1 h) fun r2 h1 =>
  if r2 = 0 then (
    some ([Sum.inl (Value.int (-(nI 1)))], h1))
  else
  mv_rI (fV_isVat v2 h1) fun r4 h3 =>
  if r4 = 0 then (
    some ([Sum.inl (Value.int (-(nI 1)))], h3))
  else
  if v3 = nI 0 then (
    mv_rI (fM_takes 0 v1 v2 h3) fun r6 h5 =>
    some ([Sum.inl (Value.int ((nI 1000) + r6))], h5))
  else
  if v3 = nI 1 then (
    mv_rI (fM_fights 0 v1 v2 h3) fun r8 h7 =>
    some ([Sum.inl (Value.int ((nI 1000) + r8))], h7))
  else
  if v3 = nI 2 then (
    mv_rI (fM_fades 0 v1 h3) fun r10 h9 =>
    some ([Sum.inl (Value.int ((nI 1000) + r10))], h9))
  else
  some ([Sum.inl (Value.int (-(nI 1)))], h3)
def fV_mind (o0 : Nat) (v1 : Int32) (v2 : Int32) (h : H2) : O2 :=
  mv_rI (fM_has 0 v1 h) fun r2 h1 =>
  if r2 = 0 then (
    some ([Sum.inl (Value.int (-(nI 1)))], h1))
  else
  mv_rI (fV_isKind v2 h1) fun r4 h3 =>
  if r4 = 0 then (
    some ([Sum.inl (Value.int (-(nI 1)))], h3))
  else
  mv_gd (mv_inb v1 8) <|
  mv_bi (rI2 h3 304 0 v1.toNatClampNeg) fun x5 =>
  mv_gd (mv_inb v1 8) <|
  mv_bh (wI2 h3 304 0 v1.toNatClampNeg v2) fun h6 =>
  some ([Sum.inl (Value.int x5)], h6)
def fV_isPurpose (v0 : Int32) (h : H2) : O2 :=
  mv_rI (fV_isIn v0 (nI 0) (nI 9) h) fun r2 h1 =>
  mv_gd (decide (r2 = nI 0) || decide (r2 = nI 1)) <| some ([Sum.inl (Value.int r2)], h1)
def cV_isPurpose : List mv_V → H2 → (List mv_V → H2 → O2) → O2 := fun as h k => match as with
  | [.inl (.int v0)] => mv_rI (fV_isPurpose v0 h) fun x h => k [.inl (.int x)] h
  | _ => none
def fV_steep_b53 (o0 : Nat) (v1 : Int32) (v2 : Int32) (v3 : Int32) (h : H2) : O2 :=
  mv_gd (mv_inb v1 8) <|
  mv_bi (rI2 h 305 0 v1.toNatClampNeg) fun x1 =>
  mv_gd (mv_inb v1 8) <|
  mv_bh (wI2 h 305 0 v1.toNatClampNeg v2) fun h2 =>
  mv_gd (mv_inb v1 8) <|
  mv_bh (wI2 h2 306 0 v1.toNatClampNeg v3) fun h3 =>
  some ([Sum.inl (Value.int ((nI 1) + x1))], h3)
def fV_steep_b27 (o0 : Nat) (v1 : Int32) (v2 : Int32) (v3 : Int32) (vs0 : Int32) (h : H2) : O2 :=
  mv_bi vs0 fun x1 =>
  if x1 = 0 then (
    mv_rI (fV_isPurpose v2 h) fun r3 h2 =>
    if r3 = 0 then (
      some ([Sum.inl (Value.int (-(nI 1)))], h2))
    else
    mv_rI (fV_isIn v3 (nI 1) (nI 99) h2) fun r5 h4 =>
    if r5 = 0 then (
      some ([Sum.inl (Value.int (-(nI 1)))], h4))
    else
    fV_steep_b53 o0 v1 v2 v3 h4)
  else
  fV_steep_b53 o0 v1 v2 v3 h
def fV_steep (o0 : Nat) (v1 : Int32) (v2 : Int32) (v3 : Int32) (h : H2) : O2 :=
  mv_rI (fM_has 0 v1 h) fun r2 h1 =>
  if r2 = 0 then (
    some ([Sum.inl (Value.int (-(nI 1)))], h1))
  else
  if v2 = (-(nI 1)) then (
    if v3 = 0 then (
      fV_steep_b27 o0 v1 v2 v3 (nI 1) h1)
    else
    fV_steep_b27 o0 v1 v2 v3 (nI 0) h1)
  else
  fV_steep_b27 o0 v1 v2 v3 (nI 0) h1
def fV_hang (o0 : Nat) (v1 : Int32) (v2 : Int32) (h : H2) : O2 :=
  mv_rI (fM_has 0 v1 h) fun r2 h1 =>
  if r2 = 0 then (
    some ([Sum.inl (Value.int (-(nI 1)))], h1))
  else
  mv_rI (fV_isIn v2 (nI 0) (nI 1) h1) fun r4 h3 =>
  if r4 = 0 then (
    some ([Sum.inl (Value.int (-(nI 1)))], h3))
  else
  mv_gd (mv_inb v1 8) <|
  mv_bi (rI2 h3 307 0 v1.toNatClampNeg) fun x5 =>
  mv_gd (mv_inb v1 8) <|
  mv_bh (wI2 h3 307 0 v1.toNatClampNeg v2) fun h6 =>
  some ([Sum.inl (Value.int x5)], h6)
def fV_dip (o0 : Nat) (v1 : Int32) (v2 : Int32) (h : H2) : O2 :=
  mv_rI (fM_has 0 v1 h) fun r2 h1 =>
  if r2 = 0 then (
    some ([Sum.inl (Value.int (-(nI 1)))], h1))
  else
  mv_rI (fV_isVat v2 h1) fun r4 h3 =>
  if r4 = 0 then (
    some ([Sum.inl (Value.int (-(nI 1)))], h3))
  else
  mv_rV (fM_dipInto 0 v1 v2 h3) fun h5 =>
  mv_gd (mv_inb v1 8) <|
  some ([Sum.inl (Value.int ((nI 1) + (rI2 h5 305 0 v1.toNatClampNeg)))], h5)
def fV_days (o0 : Nat) (v1 : Int32) (h : H2) : O2 :=
  mv_rI (fV_isIn v1 (nI 1) (nI 60) h) fun r2 h1 =>
  if r2 = 0 then (
    some ([Sum.inl (Value.int (-(nI 1)))], h1))
  else
  mv_rV (fM_passDays 0 v1 h1) fun h3 =>
  mv_rI (fM_allDepths 0 h3) fun r5 h4 =>
  some ([Sum.inl (Value.int r5)], h4)
def fV_seed (o0 : Nat) (v1 : Int32) (h : H2) : O2 :=
  mv_bi (rI2 h 2 0 11) fun x1 =>
  mv_bh (wI2 h 2 0 11 v1) fun h2 =>
  some ([Sum.inl (Value.int x1)], h2)
def fV_day (o0 : Nat) (h : H2) : O2 :=
  mv_rV (fM_passDrawnDay 0 h) fun h1 =>
  mv_rI (fM_allDepths 0 h1) fun r3 h2 =>
  some ([Sum.inl (Value.int r3)], h2)
def fV_luck (o0 : Nat) (v1 : Int32) (h : H2) : O2 :=
  mv_rI (fV_isIn v1 (nI 1) (nI 30) h) fun r2 h1 =>
  if r2 = 0 then (
    some ([Sum.inl (Value.int (-(nI 1)))], h1))
  else
  mv_rI (fF_luckyDays 0 0 v1 h1) fun r4 h3 =>
  some ([Sum.inl (Value.int r4)], h3)
def fV_state (o0 : Nat) (v1 : Int32) (h : H2) : O2 :=
  if v1 = nI 0 then (
    some ([Sum.inl (Value.int (rI2 h 2 0 10))], h))
  else
  if v1 = nI 1 then (
    mv_rI (fM_vatOfToday 0 h) fun r2 h1 =>
    some ([Sum.inl (Value.int ((nI 1) + r2))], h1))
  else
  if v1 = nI 2 then (
    mv_rI (fM_hungSet 0 h) fun r4 h3 =>
    some ([Sum.inl (Value.int r4)], h3))
  else
  if v1 = nI 3 then (
    mv_rI (fM_aboutSet 0 h) fun r6 h5 =>
    some ([Sum.inl (Value.int r6)], h5))
  else
  if v1 = nI 4 then (
    mv_rI (fM_allDepths 0 h) fun r8 h7 =>
    some ([Sum.inl (Value.int r8)], h7))
  else
  if v1 = nI 5 then (
    mv_rI (fM_oddPairs 0 h) fun r10 h9 =>
    some ([Sum.inl (Value.int r10)], h9))
  else
  some ([Sum.inl (Value.int (-(nI 1)))], h)
def fV_isDays (v0 : Int32) (h : H2) : O2 :=
  mv_rI (fV_isIn v0 (nI 0) (nI 60) h) fun r2 h1 =>
  mv_gd (decide (r2 = nI 0) || decide (r2 = nI 1)) <| some ([Sum.inl (Value.int r2)], h1)
def cV_isDays : List mv_V → H2 → (List mv_V → H2 → O2) → O2 := fun as h k => match as with
  | [.inl (.int v0)] => mv_rI (fV_isDays v0 h) fun x h => k [.inl (.int x)] h
  | _ => none
def fV_gone (o0 : Nat) (v1 : Int32) (v2 : Int32) (h : H2) : O2 :=
  mv_rI (fM_has 0 v1 h) fun r2 h1 =>
  if r2 = 0 then (
    some ([Sum.inl (Value.int (-(nI 1)))], h1))
  else
  mv_rI (fV_isDays v2 h1) fun r4 h3 =>
  if r4 = 0 then (
    some ([Sum.inl (Value.int (-(nI 1)))], h3))
  else
  mv_rR 2 (fF_behind 0 0 v2 h3) fun r6 h5 =>
  mv_gd (mv_inb v1 8) <|
  some ([Sum.inl (Value.int ((nI 1) + (rI2 h5 305 r6 v1.toNatClampNeg)))], h5)
def fV_depth (o0 : Nat) (v1 : Int32) (v2 : Int32) (h : H2) : O2 :=
  mv_rI (fM_has 0 v1 h) fun r2 h1 =>
  if r2 = 0 then (
    some ([Sum.inl (Value.int (-(nI 1)))], h1))
  else
  mv_rI (fV_isDays v2 h1) fun r4 h3 =>
  if r4 = 0 then (
    some ([Sum.inl (Value.int (-(nI 1)))], h3))
  else
  mv_rR 2 (fF_behind 0 0 v2 h3) fun r6 h5 =>
  mv_gd (mv_inb v1 8) <|
  some ([Sum.inl (Value.int (rI2 h5 306 r6 v1.toNatClampNeg))], h5)
def fV_comes (o0 : Nat) (v1 : Int32) (v2 : Int32) (h : H2) : O2 :=
  mv_rI (fM_has 0 v1 h) fun r2 h1 =>
  if r2 = 0 then (
    some ([Sum.inl (Value.int (-(nI 1)))], h1))
  else
  mv_rI (fV_isPurpose v2 h1) fun r4 h3 =>
  if r4 = 0 then (
    some ([Sum.inl (Value.int (-(nI 1)))], h3))
  else
  mv_rI (fF_daysUntilAbout 0 0 v1 v2 h3) fun r6 h5 =>
  some ([Sum.inl (Value.int r6)], h5)
def fV_bare (o0 : Nat) (v1 : Int32) (h : H2) : O2 :=
  mv_rI (fM_has 0 v1 h) fun r2 h1 =>
  if r2 = 0 then (
    some ([Sum.inl (Value.int (-(nI 1)))], h1))
  else
  mv_rI (fF_daysUntilAbout 0 0 v1 (-(nI 1)) h1) fun r4 h3 =>
  some ([Sum.inl (Value.int r4)], h3)
def fV_spoilt (o0 : Nat) (v1 : Int32) (h : H2) : O2 :=
  mv_rI (fV_isDays v1 h) fun r2 h1 =>
  if r2 = 0 then (
    some ([Sum.inl (Value.int (-(nI 1)))], h1))
  else
  mv_rI (fF_spoiltBehind 0 0 v1 h1) fun r4 h3 =>
  some ([Sum.inl (Value.int r4)], h3)
def fV_through (o0 : Nat) (v1 : Int32) (v2 : Int32) (h : H2) : O2 :=
  mv_rI (fM_has 0 v1 h) fun r2 h1 =>
  if r2 = 0 then (
    some ([Sum.inl (Value.int (-(nI 1)))], h1))
  else
  mv_rI (fV_isPurpose v2 h1) fun r4 h3 =>
  if r4 = 0 then (
    some ([Sum.inl (Value.int (-(nI 1)))], h3))
  else
  mv_rI (fF_vatsThrough 0 0 v1 v2 h3) fun r6 h5 =>
  some ([Sum.inl (Value.int r6)], h5)
def fV_vatFor (o0 : Nat) (v1 : Int32) (v2 : Int32) (h : H2) : O2 :=
  mv_rI (fV_isRest v1 h) fun r2 h1 =>
  if r2 = 0 then (
    some ([Sum.inl (Value.int (-(nI 1)))], h1))
  else
  mv_rI (fV_isIn v2 (nI 1) (nI 40) h1) fun r4 h3 =>
  if r4 = 0 then (
    some ([Sum.inl (Value.int (-(nI 1)))], h3))
  else
  mv_rI (fF_deepestVat 0 0 v1 v2 h3) fun r6 h5 =>
  some ([Sum.inl (Value.int r6)], h5)
def fV_kindFor (o0 : Nat) (v1 : Int32) (v2 : Int32) (h : H2) : O2 :=
  mv_rI (fM_has 0 v1 h) fun r2 h1 =>
  if r2 = 0 then (
    some ([Sum.inl (Value.int (-(nI 1)))], h1))
  else
  mv_rI (fV_isIn v2 (nI 1) (nI 40) h1) fun r4 h3 =>
  if r4 = 0 then (
    some ([Sum.inl (Value.int (-(nI 1)))], h3))
  else
  mv_rI (fF_deepestKind 0 0 v1 v2 h3) fun r6 h5 =>
  some ([Sum.inl (Value.int r6)], h5)
def fV_strengthFor (o0 : Nat) (v1 : Int32) (v2 : Int32) (v3 : Int32) (v4 : Int32) (h : H2) : O2 :=
  mv_rI (fV_isVat v1 h) fun r2 h1 =>
  if r2 = 0 then (
    some ([Sum.inl (Value.int (-(nI 1)))], h1))
  else
  mv_rI (fM_has 0 v2 h1) fun r4 h3 =>
  if r4 = 0 then (
    some ([Sum.inl (Value.int (-(nI 1)))], h3))
  else
  mv_rI (fV_isPurpose v3 h3) fun r6 h5 =>
  if r6 = 0 then (
    some ([Sum.inl (Value.int (-(nI 1)))], h5))
  else
  mv_rI (fV_isIn v4 (nI 1) (nI 40) h5) fun r8 h7 =>
  if r8 = 0 then (
    some ([Sum.inl (Value.int (-(nI 1)))], h7))
  else
  mv_rI (fF_leastStrength 0 0 v1 v2 v3 v4 h7) fun r10 h9 =>
  some ([Sum.inl (Value.int r10)], h9)
def fV_hangFor (o0 : Nat) (v1 : Int32) (v2 : Int32) (h : H2) : O2 :=
  mv_rI (fV_isIn v1 (nI 1) (nI 30) h) fun r2 h1 =>
  if r2 = 0 then (
    some ([Sum.inl (Value.int (-(nI 1)))], h1))
  else
  mv_rI (fV_isIn v2 (nI 0) (nI 8) h1) fun r4 h3 =>
  if r4 = 0 then (
    some ([Sum.inl (Value.int (-(nI 1)))], h3))
  else
  mv_rI (fF_fewestHung 0 0 v1 v2 h3) fun r6 h5 =>
  some ([Sum.inl (Value.int r6)], h5)
def fV_isSheet (v0 : Int32) (h : H2) : O2 :=
  mv_rI (fV_isIn v0 (nI 0) (nI 3) h) fun r2 h1 =>
  mv_gd (decide (r2 = nI 0) || decide (r2 = nI 1)) <| some ([Sum.inl (Value.int r2)], h1)
def cV_isSheet : List mv_V → H2 → (List mv_V → H2 → O2) → O2 := fun as h k => match as with
  | [.inl (.int v0)] => mv_rI (fV_isSheet v0 h) fun x h => k [.inl (.int x)] h
  | _ => none
def fV_fits (o0 : Nat) (v1 : Int32) (v2 : Int32) (v3 : Int32) (h : H2) : O2 :=
  mv_rI (fV_isSheet v1 h) fun r2 h1 =>
  if r2 = 0 then (
    some ([Sum.inl (Value.int (-(nI 1)))], h1))
  else
  mv_rI (fM_has 0 v2 h1) fun r4 h3 =>
  if r4 = 0 then (
    some ([Sum.inl (Value.int (-(nI 1)))], h3))
  else
  mv_rI (fV_isIn v3 (nI 0) (nI 1) h3) fun r6 h5 =>
  if r6 = 0 then (
    some ([Sum.inl (Value.int (-(nI 1)))], h5))
  else
  mv_gd (mv_inb v1 4) <|
  mv_el (sht2 h5 v1.toNatClampNeg) (
    some ([Sum.inl (Value.int (-(nI 11)))], h5)) fun r7 =>
  if v3 = 0 then (
    mv_rI (fF_manyFitting 0 0 v2 r7 h5) fun r9 h8 =>
    some ([Sum.inl (Value.int r9)], h8))
  else
  mv_rI (fF_leastFitting 0 0 v2 r7 h5) fun r11 h10 =>
  some ([Sum.inl (Value.int r11)], h10)
def fV_odds (o0 : Nat) (v1 : Int32) (v2 : Int32) (v3 : Int32) (h : H2) : O2 :=
  mv_rI (fV_isIn v1 (nI 0) (nI 8) h) fun r2 h1 =>
  if r2 = 0 then (
    some ([Sum.inl (Value.long (-(lN 1)))], h1))
  else
  mv_rI (fV_isIn v2 (nI 0) v1 h1) fun r4 h3 =>
  if r4 = 0 then (
    some ([Sum.inl (Value.long (-(lN 1)))], h3))
  else
  mv_rI (fV_isIn v3 (nI 0) (nI 1) h3) fun r6 h5 =>
  if r6 = 0 then (
    some ([Sum.inl (Value.long (-(lN 1)))], h5))
  else
  mv_gd (mv_inb (nI 3) 4) <|
  mv_rL (fC_justSlip v1 v2 (rI2 h5 300 0 (nI 3).toNatClampNeg) v3 h5) fun r8 h7 =>
  some ([Sum.inl (Value.long r8)], h7)
def fV_hope (o0 : Nat) (v1 : Int32) (v2 : Int32) (h : H2) : O2 :=
  mv_rI (fV_isIn v1 (nI 0) (nI 99) h) fun r2 h1 =>
  if r2 = 0 then (
    some ([Sum.inl (Value.long (-(lN 1)))], h1))
  else
  mv_rI (fV_isIn v2 (nI 0) (nI 1) h1) fun r4 h3 =>
  if r4 = 0 then (
    some ([Sum.inl (Value.long (-(lN 1)))], h3))
  else
  mv_gd (mv_inb (nI 3) 4) <|
  mv_rL (fC_partOf (v1.toInt64 * ((rI2 h3 300 0 (nI 3).toNatClampNeg).toInt64)) (lN 100) v2 h3) fun r6 h5 =>
  some ([Sum.inl (Value.long r6)], h5)
def fV_prove (o0 : Nat) (v1 : Int32) (v2 : Int32) (h : H2) : O2 :=
  mv_rI (fM_has 0 v1 h) fun r2 h1 =>
  if r2 = 0 then (
    some ([Sum.inl (Value.int (-(nI 1)))], h1))
  else
  mv_rI (fV_isIn v2 (nI 1) (nI 10) h1) fun r4 h3 =>
  if r4 = 0 then (
    some ([Sum.inl (Value.int (-(nI 1)))], h3))
  else
  mv_rV (fF_writeRows 0 0 v1 v2 0 h3) fun h5 =>
  some ([Sum.inl (Value.int v2)], h5)
def fV_row (o0 : Nat) (v1 : Int32) (v2 : Int32) (h : H2) : O2 :=
  mv_rI (fR_has 0 v1 v2 h) fun r2 h1 =>
  if r2 = 0 then (
    some ([Sum.inl (Value.int (-(nI 9)))], h1))
  else
  mv_rI (fR_read 0 v1 v2 h1) fun r4 h3 =>
  some ([Sum.inl (Value.int r4)], h3)
def fV_alterRow (o0 : Nat) (v1 : Int32) (v2 : Int32) (v3 : Int32) (h : H2) : O2 :=
  mv_rI (fR_has 0 v1 v2 h) fun r2 h1 =>
  if r2 = 0 then (
    some ([Sum.inl (Value.int (-(nI 9)))], h1))
  else
  mv_rI (fR_read 0 v1 v2 h1) fun r4 h3 =>
  mv_bi r4 fun x5 =>
  mv_rV (fR_write 0 v1 v2 v3 h3) fun h6 =>
  some ([Sum.inl (Value.int x5)], h6)
def fV_judge (o0 : Nat) (v1 : Int32) (h : H2) : O2 :=
  mv_rI (fM_has 0 v1 h) fun r2 h1 =>
  if r2 = 0 then (
    some ([Sum.inl (Value.int (-(nI 1)))], h1))
  else
  mv_rI (fF_firstWrongRow 0 0 v1 0 h1) fun r4 h3 =>
  some ([Sum.inl (Value.int r4)], h3)
def fV_minds_b105 : Nat → Nat → Int32 → Int32 → Int32 → Nat → Int32 → H2 → O2
  | 0 => fun _ _ _ _ _ _ _ => none
  | n + 1 => fun o0 v2 v3 v4 o5 v6 h =>
    if v4 ≤ v6 then (
      some ([Sum.inl (Value.int v4)], h))
    else
    mv_rI (fS_read o5 (v2 + v6) h) fun r2 h1 =>
    mv_rV (fM_deepen 0 (v3 + v6) r2 h1) fun h3 =>
    mv_bi (v6 + (nI 1)) fun x4 =>
    fV_minds_b105 n o0 v2 v3 v4 o5 x4 h3
def fV_minds (o0 : Nat) (v1 : Int32) (v2 : Int32) (v3 : Int32) (v4 : Int32) (h : H2) : O2 :=
  mv_rI (fV_isSheet v1 h) fun r2 h1 =>
  if r2 = 0 then (
    some ([Sum.inl (Value.int (-(nI 1)))], h1))
  else
  mv_rI (fM_has 0 v3 h1) fun r4 h3 =>
  if r4 = 0 then (
    some ([Sum.inl (Value.int (-(nI 1)))], h3))
  else
  mv_rI (fV_isIn v4 (nI 0) (nI 8) h3) fun r6 h5 =>
  if r6 = 0 then (
    some ([Sum.inl (Value.int (-(nI 1)))], h5))
  else
  if v4 ≤ ((rI2 h5 2 0 9) - v3) then (
    mv_gd (mv_inb v1 4) <|
    mv_el (sht2 h5 v1.toNatClampNeg) (
      some ([Sum.inl (Value.int (-(nI 11)))], h5)) fun r7 =>
    if (rI2 h5 4 r7 0) = 0 then (
      mv_rI (fS_size r7 h5) fun r9 h8 =>
      mv_rI (fV_isIn v2 (nI 0) r9 h8) fun r11 h10 =>
      if r11 = 0 then (
        some ([Sum.inl (Value.int (-(nI 12)))], h10))
      else
      mv_rI (fS_size r7 h10) fun r13 h12 =>
      if v4 ≤ (r13 - v2) then (
        mv_bi (nI 0) fun x14 =>
        fV_minds_b105 1000 o0 v2 v3 v4 r7 x14 h12)
      else
      some ([Sum.inl (Value.int (-(nI 12)))], h12))
    else
    some ([Sum.inl (Value.int (-(nI 13)))], h5))
  else
  some ([Sum.inl (Value.int (-(nI 1)))], h5)
def fV_sheet (o0 : Nat) (v1 : Int32) (v2 : Int32) (v3 : Int32) (h : H2) : O2 :=
  mv_rI (fV_isSheet v1 h) fun r2 h1 =>
  if r2 = 0 then (
    some ([Sum.inl (Value.int (-(nI 1)))], h1))
  else
  mv_rI (fV_isIn v2 (-(nI 1)) (nI 3) h1) fun r4 h3 =>
  if r4 = 0 then (
    some ([Sum.inl (Value.int (-(nI 1)))], h3))
  else
  if v2 = (-(nI 1)) then (
    mv_gd (mv_inb v1 4) <|
    wR2 h3 807 o0 v1.toNatClampNeg none fun h5 =>
    some ([Sum.inl (Value.int (nI 1))], h5))
  else
  if v3 ≤ (nI 40) then (
    if 0 ≤ v3 then (
      nw2 h3 4 0 fun r6 h7 =>
      mv_rV (fS_init r6 v2 v3 h7) fun h8 =>
      mv_gd (mv_inb v1 4) <|
      wR2 h8 807 o0 v1.toNatClampNeg (some (4, r6)) fun h9 =>
      some ([Sum.inl (Value.int (nI 1))], h9))
    else
    some ([Sum.inl (Value.int (-(nI 14)))], h3))
  else
  some ([Sum.inl (Value.int (-(nI 1)))], h3)
def fV_put (o0 : Nat) (v1 : Int32) (v2 : Int32) (v3 : Int32) (h : H2) : O2 :=
  mv_rI (fV_isSheet v1 h) fun r2 h1 =>
  if r2 = 0 then (
    some ([Sum.inl (Value.int (-(nI 1)))], h1))
  else
  mv_gd (mv_inb v1 4) <|
  mv_el (sht2 h1 v1.toNatClampNeg) (
    some ([Sum.inl (Value.int (-(nI 11)))], h1)) fun r3 =>
  mv_rI (fS_has r3 v2 h1) fun r5 h4 =>
  if r5 = 0 then (
    some ([Sum.inl (Value.int (-(nI 12)))], h4))
  else
  mv_rV (fS_write r3 v2 v3 h4) fun h6 =>
  some ([Sum.inl (Value.int (nI 1))], h6)
def fV_item (o0 : Nat) (v1 : Int32) (v2 : Int32) (v3 : Int32) (h : H2) : O2 :=
  mv_rI (fV_isSheet v1 h) fun r2 h1 =>
  if r2 = 0 then (
    some ([Sum.inl (Value.int (-(nI 1)))], h1))
  else
  mv_rI (fV_isIn v2 (nI 0) (nI 3) h1) fun r4 h3 =>
  if r4 = 0 then (
    some ([Sum.inl (Value.int (-(nI 1)))], h3))
  else
  mv_gd (mv_inb v1 4) <|
  mv_el (sht2 h3 v1.toNatClampNeg) (
    some ([Sum.inl (Value.int (-(nI 11)))], h3)) fun r5 =>
  if (rI2 h3 4 r5 0) = v2 then (
    mv_rI (fS_has r5 v3 h3) fun r7 h6 =>
    if r7 = 0 then (
      some ([Sum.inl (Value.int (-(nI 12)))], h6))
    else
    mv_rI (fS_read r5 v3 h6) fun r9 h8 =>
    some ([Sum.inl (Value.int r9)], h8))
  else
  some ([Sum.inl (Value.int (-(nI 13)))], h3)
def fV_isShelf (v0 : Int32) (h : H2) : O2 :=
  mv_rI (fV_isIn v0 (nI 0) (nI 3) h) fun r2 h1 =>
  mv_gd (decide (r2 = nI 0) || decide (r2 = nI 1)) <| some ([Sum.inl (Value.int r2)], h1)
def cV_isShelf : List mv_V → H2 → (List mv_V → H2 → O2) → O2 := fun as h k => match as with
  | [.inl (.int v0)] => mv_rI (fV_isShelf v0 h) fun x h => k [.inl (.int x)] h
  | _ => none
def fV_shelf (o0 : Nat) (v1 : Int32) (v2 : Int32) (v3 : Int32) (h : H2) : O2 :=
  mv_rI (fV_isShelf v1 h) fun r2 h1 =>
  if r2 = 0 then (
    some ([Sum.inl (Value.int (-(nI 1)))], h1))
  else
  if v2 = nI 0 then (
    mv_rI (fM_has 0 v3 h1) fun r4 h3 =>
    if r4 = 0 then (
      some ([Sum.inl (Value.int (-(nI 1)))], h3))
    else
    mv_rV (fH_holdCloth 0 v1 v3 h3) fun h5 =>
    some ([Sum.inl (Value.int (nI 1))], h5))
  else
  if v2 = nI 1 then (
    mv_rI (fV_isSheet v3 h1) fun r7 h6 =>
    if r7 = 0 then (
      some ([Sum.inl (Value.int (-(nI 1)))], h6))
    else
    mv_gd (mv_inb v3 4) <|
    mv_el (sht2 h6 v3.toNatClampNeg) (
      mv_rV (fH_holdRow_n 0 v1 h6) fun h9 =>
      some ([Sum.inl (Value.int (nI 1))], h9)) fun r8 =>
    mv_rV (fH_holdRow_r 0 v1 r8 h6) fun h10 =>
    some ([Sum.inl (Value.int (nI 1))], h10))
  else
  if v2 = nI 2 then (
    mv_rV (fH_holdRow_n 0 v1 h1) fun h11 =>
    some ([Sum.inl (Value.int (nI 1))], h11))
  else
  some ([Sum.inl (Value.int (-(nI 1)))], h1)
def fV_parentKind (v0 : Int32) (h : H2) : O2 :=
  if v0 = nI 1 then (
    some ([Sum.inl (Value.int (nI 0))], h))
  else
  if v0 = nI 2 then (
    some ([Sum.inl (Value.int (nI 0))], h))
  else
  if v0 = nI 3 then (
    some ([Sum.inl (Value.int (nI 1))], h))
  else
  if v0 = nI 4 then (
    some ([Sum.inl (Value.int (nI 2))], h))
  else
  if v0 = nI 5 then (
    some ([Sum.inl (Value.int (nI 0))], h))
  else
  some ([Sum.inl (Value.int (-(nI 1)))], h)
def cV_parentKind : List mv_V → H2 → (List mv_V → H2 → O2) → O2 := fun as h k => match as with
  | [.inl (.int v0)] => mv_rI (fV_parentKind v0 h) fun x h => k [.inl (.int x)] h
  | _ => none
def fV_isUnder_b4 : Nat → Int32 → Int32 → Int32 → H2 → O2
  | 0 => fun _ _ _ _ => none
  | n + 1 => fun v1 v2 v3 h =>
    if (nI 6) ≤ v3 then (
      mv_gd (decide (nI 0 = nI 0) || decide (nI 0 = nI 1)) <| some ([Sum.inl (Value.int (nI 0))], h))
    else
    if v2 = (-(nI 1)) then (
      mv_gd (decide (nI 0 = nI 0) || decide (nI 0 = nI 1)) <| some ([Sum.inl (Value.int (nI 0))], h))
    else
    if v2 = v1 then (
      mv_gd (decide (nI 1 = nI 0) || decide (nI 1 = nI 1)) <| some ([Sum.inl (Value.int (nI 1))], h))
    else
    mv_rI (fV_parentKind v2 h) fun r2 h1 =>
    mv_bi r2 fun x3 =>
    mv_bi (v3 + (nI 1)) fun x4 =>
    fV_isUnder_b4 n v1 x3 x4 h1
def fV_isUnder (v0 : Int32) (v1 : Int32) (h : H2) : O2 :=
  mv_bi v0 fun x1 =>
  mv_bi (nI 0) fun x2 =>
  fV_isUnder_b4 1000 v1 x1 x2 h
def cV_isUnder : List mv_V → H2 → (List mv_V → H2 → O2) → O2 := fun as h k => match as with
  | [.inl (.int v0), .inl (.int v1)] => mv_rI (fV_isUnder v0 v1 h) fun x h => k [.inl (.int x)] h
  | _ => none
def fV_taken_b29 (o0 : Nat) (v1 : Int32) (v2 : Int32) (h : H2) : O2 :=
  mv_rQ (fH_rowOn 0 v1 h) (fun h1 =>
    mv_rI (fH_clothOn 0 v1 h1) fun r4 h3 =>
    mv_bi r4 fun x5 =>
    mv_rI (fM_has 0 x5 h3) fun r7 h6 =>
    if r7 = 0 then (
      some ([Sum.inl (Value.int (-(nI 11)))], h6))
    else
    mv_gd (mv_inb x5 8) <|
    mv_rI (fV_isUnder (rI2 h6 304 0 x5.toNatClampNeg) v2 h6) fun r9 h8 =>
    if r9 = 0 then (
      some ([Sum.inl (Value.int (-(nI 13)))], h8))
    else
    some ([Sum.inl (Value.int x5)], h8)) fun r2 h1 =>
  if (rI2 h1 4 r2 0) = (v2 - (nI 10)) then (
    mv_rI (fS_size r2 h1) fun r11 h10 =>
    some ([Sum.inl (Value.int r11)], h10))
  else
  some ([Sum.inl (Value.int (-(nI 13)))], h1)
def fV_taken (o0 : Nat) (v1 : Int32) (v2 : Int32) (h : H2) : O2 :=
  mv_rI (fV_isShelf v1 h) fun r2 h1 =>
  if r2 = 0 then (
    some ([Sum.inl (Value.int (-(nI 1)))], h1))
  else
  mv_rI (fV_isKind v2 h1) fun r4 h3 =>
  if r4 = 0 then (
    mv_rI (fV_isIn v2 (nI 10) (nI 13) h3) fun r6 h5 =>
    if r6 = 0 then (
      some ([Sum.inl (Value.int (-(nI 1)))], h5))
    else
    fV_taken_b29 o0 v1 v2 h5)
  else
  fV_taken_b29 o0 v1 v2 h3
def fV_act (o0 : Nat) (v1 : Int32) (v2 : Int32) (v3 : Int32) (h : H2) : O2 :=
  mv_rV (fA_forget 0 h) fun h1 =>
  mv_rI (fV_isShelf v1 h1) fun r3 h2 =>
  if r3 = 0 then (
    some ([Sum.inl (Value.int (nI 0))], h2))
  else
  mv_rI (fV_isIn v2 (nI 0) (nI 3) h2) fun r5 h4 =>
  if r5 = 0 then (
    some ([Sum.inl (Value.int (nI 0))], h4))
  else
  mv_rI (fH_clothOn 0 v1 h4) fun r7 h6 =>
  mv_bi r7 fun x8 =>
  mv_rI (fM_has 0 x8 h6) fun r10 h9 =>
  if r10 = 0 then (
    some ([Sum.inl (Value.int (nI 0))], h9))
  else
  mv_gd (mv_inb x8 8) <|
  mv_gd (mv_inb x8 8) <|
  mv_rV (fA_hold 0 (rI2 h9 304 0 x8.toNatClampNeg) x8 ((nI 1) + (rI2 h9 305 0 x8.toNatClampNeg)) h9) fun h11 =>
  mv_rI (fA_perform 0 v2 v3 h11) fun r13 h12 =>
  some ([Sum.inl (Value.int r13)], h12)
def fV_trace (o0 : Nat) (v1 : Int32) (h : H2) : O2 :=
  mv_rI (fV_isIn v1 (nI 0) ((rI2 h 0 0 1) - (nI 1)) h) fun r2 h1 =>
  if r2 = 0 then (
    some ([Sum.inl (Value.int (-(nI 3)))], h1))
  else
  mv_gd (mv_inb v1 30) <|
  some ([Sum.inl (Value.int (rI2 h1 100 0 v1.toNatClampNeg))], h1)
def fV_many (o0 : Nat) (v1 : Int32) (h : H2) : O2 :=
  if v1 = nI 0 then (
    some ([Sum.inl (Value.int (rI2 h 2 0 9))], h))
  else
  if v1 = nI 1 then (
    mv_rI (fM_hungSet 0 h) fun r2 h1 =>
    mv_rI (fJ_bitCount_0f7a4 r2 h1) fun r4 h3 =>
    some ([Sum.inl (Value.int r4)], h3))
  else
  if v1 = nI 2 then (
    mv_rI (fM_aboutSet 0 h) fun r6 h5 =>
    mv_rI (fJ_bitCount_0f7a4 r6 h5) fun r8 h7 =>
    some ([Sum.inl (Value.int r8)], h7))
  else
  if v1 = nI 3 then (
    mv_rI (fM_purposeSet 0 h) fun r10 h9 =>
    mv_rI (fJ_bitCount_0f7a4 r10 h9) fun r12 h11 =>
    some ([Sum.inl (Value.int r12)], h11))
  else
  if v1 = nI 4 then (
    some ([Sum.inl (Value.int (rI2 h 3 0 1))], h))
  else
  if v1 = nI 5 then (
    some ([Sum.inl (Value.int (rI2 h 6 0 1))], h))
  else
  if v1 = nI 6 then (
    some ([Sum.inl (Value.int (rI2 h 0 0 1))], h))
  else
  some ([Sum.inl (Value.int (-(nI 1)))], h)
def fV_keep (o0 : Nat) (h : H2) : O2 :=
  mv_rV (fM_copyFrom 2 0 h) fun h1 =>
  mv_gd (decide (nI 1 = nI 0) || decide (nI 1 = nI 1)) <|
  mv_bh (wI2 h1 7 o0 3 (nI 1)) fun h2 =>
  some ([Sum.inl (Value.int (nI 1))], h2)
def fV_again (o0 : Nat) (h : H2) : O2 :=
  if (rI2 h 7 o0 3) = 0 then (
    some ([Sum.inl (Value.int (-(nI 3)))], h))
  else
  mv_rV (fM_copyFrom 0 2 h) fun h1 =>
  some ([Sum.inl (Value.int (rI2 h1 2 0 9))], h1)
def fN_anew_b89 : Nat → Nat → Int32 → Int32 → H2 → O2
  | 0 => fun _ _ _ _ => none
  | n + 1 => fun o0 v1 v2 h =>
    if (nI 6) ≤ v2 then (
      mv_gd (mv_inb (nI 5) 69) <|
      mv_bh (wI2 h 902 o0 (nI 5).toNatClampNeg v1) fun h1 =>
      some ([], h1))
    else
    mv_gd (mv_inb ((nI 23) + v2) 69) <|
    mv_bh (wI2 h 902 o0 ((nI 23) + v2).toNatClampNeg v2) fun h2 =>
    mv_bi (v2 + (nI 1)) fun x3 =>
    fN_anew_b89 n o0 v1 x3 h2
def fN_anew_b55 : Nat → Nat → Int32 → Int32 → H2 → O2
  | 0 => fun _ _ _ _ => none
  | n + 1 => fun o0 v1 v2 h =>
    if (nI 8) ≤ v2 then (
      mv_bi (nI 0) fun x1 =>
      fN_anew_b89 1000 o0 v1 x1 h)
    else
    mv_gd (mv_inb ((nI 7) + v2) 69) <|
    mv_bh (wI2 h 902 o0 ((nI 7) + v2).toNatClampNeg v2) fun h2 =>
    mv_gd (mv_inb ((nI 15) + v2) 69) <|
    mv_bh (wI2 h2 902 o0 ((nI 15) + v2).toNatClampNeg (nI 5)) fun h3 =>
    mv_bi (v2 + (nI 1)) fun x4 =>
    fN_anew_b55 n o0 v1 x4 h3
def fN_anew_b30 : Nat → Nat → Int32 → Int32 → H2 → O2
  | 0 => fun _ _ _ _ => none
  | n + 1 => fun o0 v1 v2 h =>
    if (nI 4) ≤ v2 then (
      mv_bi (nI 0) fun x1 =>
      fN_anew_b55 1000 o0 v1 x1 h)
    else
    mv_gd (mv_inb v2 4) <|
    mv_gd (mv_inb v2 69) <|
    mv_bh (wI2 h 902 o0 v2.toNatClampNeg (rI2 h 901 o0 v2.toNatClampNeg)) fun h2 =>
    mv_bi (v2 + (nI 1)) fun x3 =>
    fN_anew_b30 n o0 v1 x3 h2
def fN_anew_b9 : Nat → Nat → Int32 → Int32 → H2 → O2
  | 0 => fun _ _ _ _ => none
  | n + 1 => fun o0 v1 v2 h =>
    if (nI 69) ≤ v2 then (
      mv_bi (nI 0) fun x1 =>
      fN_anew_b30 1000 o0 v1 x1 h)
    else
    mv_gd (mv_inb v2 69) <|
    mv_bh (wI2 h 902 o0 v2.toNatClampNeg (nI 0)) fun h2 =>
    mv_bi (v2 + (nI 1)) fun x3 =>
    fN_anew_b9 n o0 v1 x3 h2
def fN_anew (o0 : Nat) (h : H2) : O2 :=
  mv_gd (mv_inb (nI 5) 69) <|
  mv_bi (rI2 h 902 o0 (nI 5).toNatClampNeg) fun x1 =>
  mv_bi (nI 0) fun x2 =>
  fN_anew_b9 1000 o0 x1 x2 h
def cN_anew : List mv_V → H2 → (List mv_V → H2 → O2) → O2 := fun as h k => match as with
  | [.inr (t0, o0)] => mv_gd (Nat.beq t0 8) <| mv_rV (fN_anew o0 h) fun h => k [] h
  | _ => none
def fN_in (w0 : Int64) (w2 : Int64) (w4 : Int64) (h : H2) : O2 :=
  if (lg_cmp w0 w2) < 0 then (
    mv_gd (decide (nI 0 = nI 0) || decide (nI 0 = nI 1)) <| some ([Sum.inl (Value.int (nI 0))], h))
  else
  if 0 < (lg_cmp w0 w4) then (
    mv_gd (decide (nI 0 = nI 0) || decide (nI 0 = nI 1)) <| some ([Sum.inl (Value.int (nI 0))], h))
  else
  mv_gd (decide (nI 1 = nI 0) || decide (nI 1 = nI 1)) <| some ([Sum.inl (Value.int (nI 1))], h)
def cN_in : List mv_V → H2 → (List mv_V → H2 → O2) → O2 := fun as h k => match as with
  | [.inl (.long w0), .inl (.long w2), .inl (.long w4)] => mv_rI (fN_in w0 w2 w4 h) fun x h => k [.inl (.int x)] h
  | _ => none
def fN_become_902_904_b2 : Nat → Nat → Nat → Int32 → H2 → O2
  | 0 => fun _ _ _ _ => none
  | n + 1 => fun o0 o1 v2 h =>
    if (nI 69) ≤ v2 then (
      some ([], h))
    else
    mv_gd (mv_inb v2 69) <|
    mv_gd (mv_inb v2 69) <|
    mv_bh (wI2 h 904 o1 v2.toNatClampNeg (rI2 h 902 o0 v2.toNatClampNeg)) fun h1 =>
    mv_bi (v2 + (nI 1)) fun x2 =>
    fN_become_902_904_b2 n o0 o1 x2 h1
def fN_become_902_904 (o0 : Nat) (o1 : Nat) (h : H2) : O2 :=
  mv_bi (nI 0) fun x1 =>
  fN_become_902_904_b2 1000 o0 o1 x1 h
def fN_become_904_902_b2 : Nat → Nat → Nat → Int32 → H2 → O2
  | 0 => fun _ _ _ _ => none
  | n + 1 => fun o0 o1 v2 h =>
    if (nI 69) ≤ v2 then (
      some ([], h))
    else
    mv_gd (mv_inb v2 69) <|
    mv_gd (mv_inb v2 69) <|
    mv_bh (wI2 h 902 o1 v2.toNatClampNeg (rI2 h 904 o0 v2.toNatClampNeg)) fun h1 =>
    mv_bi (v2 + (nI 1)) fun x2 =>
    fN_become_904_902_b2 n o0 o1 x2 h1
def fN_become_904_902 (o0 : Nat) (o1 : Nat) (h : H2) : O2 :=
  mv_bi (nI 0) fun x1 =>
  fN_become_904_902_b2 1000 o0 o1 x1 h
def fN_become_902_903_b2 : Nat → Nat → Nat → Int32 → H2 → O2
  | 0 => fun _ _ _ _ => none
  | n + 1 => fun o0 o1 v2 h =>
    if (nI 69) ≤ v2 then (
      some ([], h))
    else
    mv_gd (mv_inb v2 69) <|
    mv_gd (mv_inb v2 69) <|
    mv_bh (wI2 h 903 o1 v2.toNatClampNeg (rI2 h 902 o0 v2.toNatClampNeg)) fun h1 =>
    mv_bi (v2 + (nI 1)) fun x2 =>
    fN_become_902_903_b2 n o0 o1 x2 h1
def fN_become_902_903 (o0 : Nat) (o1 : Nat) (h : H2) : O2 :=
  mv_bi (nI 0) fun x1 =>
  fN_become_902_903_b2 1000 o0 o1 x1 h
def fN_become_903_902_b2 : Nat → Nat → Nat → Int32 → H2 → O2
  | 0 => fun _ _ _ _ => none
  | n + 1 => fun o0 o1 v2 h =>
    if (nI 69) ≤ v2 then (
      some ([], h))
    else
    mv_gd (mv_inb v2 69) <|
    mv_gd (mv_inb v2 69) <|
    mv_bh (wI2 h 902 o1 v2.toNatClampNeg (rI2 h 903 o0 v2.toNatClampNeg)) fun h1 =>
    mv_bi (v2 + (nI 1)) fun x2 =>
    fN_become_903_902_b2 n o0 o1 x2 h1
def fN_become_903_902 (o0 : Nat) (o1 : Nat) (h : H2) : O2 :=
  mv_bi (nI 0) fun x1 =>
  fN_become_903_902_b2 1000 o0 o1 x1 h
def cN_become : List mv_V → H2 → (List mv_V → H2 → O2) → O2 := fun as h k => match as with
  | [.inr (t0, o0), .inr (t1, o1)] => cond (Nat.beq t0 902 && Nat.beq t1 904) (mv_rV (fN_become_902_904 o0 o1 h) fun h => k [] h) (cond (Nat.beq t0 904 && Nat.beq t1 902) (mv_rV (fN_become_904_902 o0 o1 h) fun h => k [] h) (cond (Nat.beq t0 902 && Nat.beq t1 903) (mv_rV (fN_become_902_903 o0 o1 h) fun h => k [] h) (cond (Nat.beq t0 903 && Nat.beq t1 902) (mv_rV (fN_become_903_902 o0 o1 h) fun h => k [] h) (none))))
  | _ => none
def fN_lends (o0 : Nat) (h : H2) : O2 :=
  mv_rV (fN_become_902_904 o0 o0 h) fun h1 =>
  some ([], h1)
def cN_lends : List mv_V → H2 → (List mv_V → H2 → O2) → O2 := fun as h k => match as with
  | [.inr (t0, o0)] => mv_gd (Nat.beq t0 8) <| mv_rV (fN_lends o0 h) fun h => k [] h
  | _ => none
def fN_laysBack (o0 : Nat) (h : H2) : O2 :=
  mv_rV (fN_become_904_902 o0 o0 h) fun h1 =>
  some ([], h1)
def cN_laysBack : List mv_V → H2 → (List mv_V → H2 → O2) → O2 := fun as h k => match as with
  | [.inr (t0, o0)] => mv_gd (Nat.beq t0 8) <| mv_rV (fN_laysBack o0 h) fun h => k [] h
  | _ => none
def fN_isCloth (o0 : Nat) (v1 : Int32) (h : H2) : O2 :=
  mv_gd (mv_inb (nI 6) 69) <|
  mv_rI (fN_in v1.toInt64 (lN 0) (((rI2 h 902 o0 (nI 6).toNatClampNeg) - (nI 1)).toInt64) h) fun r2 h1 =>
  mv_gd (decide (r2 = nI 0) || decide (r2 = nI 1)) <| some ([Sum.inl (Value.int r2)], h1)
def cN_isCloth : List mv_V → H2 → (List mv_V → H2 → O2) → O2 := fun as h k => match as with
  | [.inr (t0, o0), .inl (.int v1)] => mv_gd (Nat.beq t0 8) <| mv_rI (fN_isCloth o0 v1 h) fun x h => k [.inl (.int x)] h
  | _ => none
def fN_isVat (v0 : Int32) (h : H2) : O2 :=
  mv_rI (fN_in v0.toInt64 (lN 0) (lN 7) h) fun r2 h1 =>
  mv_gd (decide (r2 = nI 0) || decide (r2 = nI 1)) <| some ([Sum.inl (Value.int r2)], h1)
def cN_isVat : List mv_V → H2 → (List mv_V → H2 → O2) → O2 := fun as h k => match as with
  | [.inl (.int v0)] => mv_rI (fN_isVat v0 h) fun x h => k [.inl (.int x)] h
  | _ => none
def fN_isPurpose (v0 : Int32) (h : H2) : O2 :=
  mv_rI (fN_in v0.toInt64 (lN 0) (lN 9) h) fun r2 h1 =>
  mv_gd (decide (r2 = nI 0) || decide (r2 = nI 1)) <| some ([Sum.inl (Value.int r2)], h1)
def cN_isPurpose : List mv_V → H2 → (List mv_V → H2 → O2) → O2 := fun as h k => match as with
  | [.inl (.int v0)] => mv_rI (fN_isPurpose v0 h) fun x h => k [.inl (.int x)] h
  | _ => none
def fN_isRest (v0 : Int32) (h : H2) : O2 :=
  mv_rI (fN_in v0.toInt64 (lN 0) (lN 5) h) fun r2 h1 =>
  mv_gd (decide (r2 = nI 0) || decide (r2 = nI 1)) <| some ([Sum.inl (Value.int r2)], h1)
def cN_isRest : List mv_V → H2 → (List mv_V → H2 → O2) → O2 := fun as h k => match as with
  | [.inl (.int v0)] => mv_rI (fN_isRest v0 h) fun x h => k [.inl (.int x)] h
  | _ => none
def fN_its (o0 : Nat) (v1 : Int32) (v2 : Int32) (h : H2) : O2 :=
  mv_gd (mv_inb (((nI 29) + ((nI 5) * v1)) + v2) 69) <|
  some ([Sum.inl (Value.int (rI2 h 902 o0 (((nI 29) + ((nI 5) * v1)) + v2).toNatClampNeg))], h)
def cN_its : List mv_V → H2 → (List mv_V → H2 → O2) → O2 := fun as h k => match as with
  | [.inr (t0, o0), .inl (.int v1), .inl (.int v2)] => mv_gd (Nat.beq t0 8) <| mv_rI (fN_its o0 v1 v2 h) fun x h => k [.inl (.int x)] h
  | _ => none
def fN_sets (o0 : Nat) (v1 : Int32) (v2 : Int32) (v3 : Int32) (h : H2) : O2 :=
  mv_gd (mv_inb (((nI 29) + ((nI 5) * v1)) + v2) 69) <|
  mv_bh (wI2 h 902 o0 (((nI 29) + ((nI 5) * v1)) + v2).toNatClampNeg v3) fun h1 =>
  some ([], h1)
def cN_sets : List mv_V → H2 → (List mv_V → H2 → O2) → O2 := fun as h k => match as with
  | [.inr (t0, o0), .inl (.int v1), .inl (.int v2), .inl (.int v3)] => mv_gd (Nat.beq t0 8) <| mv_rV (fN_sets o0 v1 v2 v3 h) fun h => k [] h
  | _ => none
def fN_becomes (o0 : Nat) (v1 : Int32) (v2 : Int32) (h : H2) : O2 :=
  mv_gd (mv_inb v1 69) <|
  mv_bi (rI2 h 902 o0 v1.toNatClampNeg) fun x1 =>
  mv_gd (mv_inb v1 69) <|
  mv_bh (wI2 h 902 o0 v1.toNatClampNeg v2) fun h2 =>
  some ([Sum.inl (Value.int x1)], h2)
def cN_becomes : List mv_V → H2 → (List mv_V → H2 → O2) → O2 := fun as h k => match as with
  | [.inr (t0, o0), .inl (.int v1), .inl (.int v2)] => mv_gd (Nat.beq t0 8) <| mv_rI (fN_becomes o0 v1 v2 h) fun x h => k [.inl (.int x)] h
  | _ => none
def fN_set (o0 : Nat) (v1 : Int32) (v2 : Int32) (h : H2) : O2 :=
  mv_rI (fN_in v1.toInt64 (lN 0) (lN 3) h) fun r2 h1 =>
  if r2 = 0 then (
    some ([Sum.inl (Value.int (-(nI 1)))], h1))
  else
  mv_gd (mv_inb v1 4) <|
  mv_rI (fN_in v2.toInt64 (lN 0) ((rI2 h1 900 o0 v1.toNatClampNeg).toInt64) h1) fun r4 h3 =>
  if r4 = 0 then (
    some ([Sum.inl (Value.int (-(nI 1)))], h3))
  else
  mv_rI (fN_becomes o0 v1 v2 h3) fun r6 h5 =>
  some ([Sum.inl (Value.int r6)], h5)
def fN_lawOf (o0 : Nat) (v1 : Int32) (h : H2) : O2 :=
  mv_rI (fN_in v1.toInt64 (lN 0) (lN 3) h) fun r2 h1 =>
  if r2 = 0 then (
    some ([Sum.inl (Value.int (-(nI 1)))], h1))
  else
  mv_gd (mv_inb v1 69) <|
  some ([Sum.inl (Value.int (rI2 h1 902 o0 v1.toNatClampNeg))], h1)
def fN_fill (o0 : Nat) (v1 : Int32) (v2 : Int32) (v3 : Int32) (h : H2) : O2 :=
  mv_rI (fN_isVat v1 h) fun r2 h1 =>
  if r2 = 0 then (
    some ([Sum.inl (Value.int (-(nI 1)))], h1))
  else
  mv_rI (fN_in v2.toInt64 (lN 0) (lN 1) h1) fun r4 h3 =>
  if r4 = 0 then (
    some ([Sum.inl (Value.int (-(nI 1)))], h3))
  else
  mv_rI (fN_in v3.toInt64 (lN 0) (lN 9) h3) fun r6 h5 =>
  if r6 = 0 then (
    some ([Sum.inl (Value.int (-(nI 1)))], h5))
  else
  mv_rI (fN_becomes o0 (((nI 7) + ((nI 8) * v2)) + v1) v3 h5) fun r8 h7 =>
  some ([Sum.inl (Value.int r8)], h7)
def fN_vatOf (o0 : Nat) (v1 : Int32) (v2 : Int32) (h : H2) : O2 :=
  mv_rI (fN_isVat v1 h) fun r2 h1 =>
  if r2 = 0 then (
    some ([Sum.inl (Value.int (-(nI 1)))], h1))
  else
  mv_rI (fN_in v2.toInt64 (lN 0) (lN 1) h1) fun r4 h3 =>
  if r4 = 0 then (
    some ([Sum.inl (Value.int (-(nI 1)))], h3))
  else
  mv_gd (mv_inb (((nI 7) + ((nI 8) * v2)) + v1) 69) <|
  some ([Sum.inl (Value.int (rI2 h3 902 o0 (((nI 7) + ((nI 8) * v2)) + v1).toNatClampNeg))], h3)
def fN_roster (o0 : Nat) (v1 : Int32) (v2 : Int32) (h : H2) : O2 :=
  mv_rI (fN_isRest v1 h) fun r2 h1 =>
  if r2 = 0 then (
    some ([Sum.inl (Value.int (-(nI 1)))], h1))
  else
  if v2 = (-(nI 1)) then (
    mv_rI (fN_becomes o0 ((nI 23) + v1) v2 h1) fun r4 h3 =>
    some ([Sum.inl (Value.int ((nI 1) + r4))], h3))
  else
  mv_rI (fN_isVat v2 h1) fun r6 h5 =>
  if r6 = 0 then (
    some ([Sum.inl (Value.int (-(nI 1)))], h5))
  else
  mv_rI (fN_becomes o0 ((nI 23) + v1) v2 h5) fun r8 h7 =>
  some ([Sum.inl (Value.int ((nI 1) + r8))], h7)
def fN_rosterOf (o0 : Nat) (v1 : Int32) (h : H2) : O2 :=
  mv_rI (fN_isRest v1 h) fun r2 h1 =>
  if r2 = 0 then (
    some ([Sum.inl (Value.int (-(nI 1)))], h1))
  else
  mv_gd (mv_inb ((nI 23) + v1) 69) <|
  some ([Sum.inl (Value.int ((nI 1) + (rI2 h1 902 o0 ((nI 23) + v1).toNatClampNeg)))], h1)
def fN_isKind (v0 : Int32) (h : H2) : O2 :=
  mv_rI (fN_in v0.toInt64 (lN 0) (lN 5) h) fun r2 h1 =>
  mv_gd (decide (r2 = nI 0) || decide (r2 = nI 1)) <| some ([Sum.inl (Value.int r2)], h1)
def cN_isKind : List mv_V → H2 → (List mv_V → H2 → O2) → O2 := fun as h k => match as with
  | [.inl (.int v0)] => mv_rI (fN_isKind v0 h) fun x h => k [.inl (.int x)] h
  | _ => none
def fN_isUnder (v0 : Int32) (v1 : Int32) (h : H2) : O2 :=
  if v1 = 0 then (
    mv_gd (decide (nI 1 = nI 0) || decide (nI 1 = nI 1)) <| some ([Sum.inl (Value.int (nI 1))], h))
  else
  if v0 = v1 then (
    mv_gd (decide (nI 1 = nI 0) || decide (nI 1 = nI 1)) <| some ([Sum.inl (Value.int (nI 1))], h))
  else
  if v0 = (nI 3) then (
    if v1 = (nI 1) then (
      mv_gd (decide (nI 1 = nI 0) || decide (nI 1 = nI 1)) <| some ([Sum.inl (Value.int (nI 1))], h))
    else
    if v0 = (nI 4) then (
      if v1 = (nI 2) then (
        mv_gd (decide (nI 1 = nI 0) || decide (nI 1 = nI 1)) <| some ([Sum.inl (Value.int (nI 1))], h))
      else
      mv_gd (decide (nI 0 = nI 0) || decide (nI 0 = nI 1)) <| some ([Sum.inl (Value.int (nI 0))], h))
    else
    mv_gd (decide (nI 0 = nI 0) || decide (nI 0 = nI 1)) <| some ([Sum.inl (Value.int (nI 0))], h))
  else
  if v0 = (nI 4) then (
    if v1 = (nI 2) then (
      mv_gd (decide (nI 1 = nI 0) || decide (nI 1 = nI 1)) <| some ([Sum.inl (Value.int (nI 1))], h))
    else
    mv_gd (decide (nI 0 = nI 0) || decide (nI 0 = nI 1)) <| some ([Sum.inl (Value.int (nI 0))], h))
  else
  mv_gd (decide (nI 0 = nI 0) || decide (nI 0 = nI 1)) <| some ([Sum.inl (Value.int (nI 0))], h)
def cN_isUnder : List mv_V → H2 → (List mv_V → H2 → O2) → O2 := fun as h k => match as with
  | [.inl (.int v0), .inl (.int v1)] => mv_rI (fN_isUnder v0 v1 h) fun x h => k [.inl (.int x)] h
  | _ => none
def fN_takesOf (o0 : Nat) (v1 : Int32) (v2 : Int32) (h : H2) : O2 :=
  mv_gd (mv_inb (nI 0) 69) <|
  mv_bi (v2 + (rI2 h 902 o0 (nI 0).toNatClampNeg)) fun x1 =>
  mv_rI (fN_its o0 v1 (nI 0) h) fun r3 h2 =>
  if r3 = nI 1 then (
    some ([Sum.inl (Value.int (x1 + (nI 3)))], h2))
  else
  if r3 = nI 2 then (
    mv_gd (mv_inb (nI 1) 69) <|
    some ([Sum.inl (Value.int (x1 - (rI2 h2 902 o0 (nI 1).toNatClampNeg)))], h2))
  else
  if r3 = nI 3 then (
    some ([Sum.inl (Value.int ((nI 2) * (x1 + (nI 3))))], h2))
  else
  if r3 = nI 4 then (
    mv_gd (mv_inb (nI 1) 69) <|
    mv_gd (mv_inb (nI 2) 69) <|
    some ([Sum.inl (Value.int ((x1 - (rI2 h2 902 o0 (nI 1).toNatClampNeg)) + (rI2 h2 902 o0 (nI 2).toNatClampNeg)))], h2))
  else
  if r3 = nI 5 then (
    mv_gd (!decide ((nI 2) = 0)) <|
    some ([Sum.inl (Value.int (x1 / (nI 2)))], h2))
  else
  some ([Sum.inl (Value.int x1)], h2)
def cN_takesOf : List mv_V → H2 → (List mv_V → H2 → O2) → O2 := fun as h k => match as with
  | [.inr (t0, o0), .inl (.int v1), .inl (.int v2)] => mv_gd (Nat.beq t0 8) <| mv_rI (fN_takesOf o0 v1 v2 h) fun x h => k [.inl (.int x)] h
  | _ => none
def fN_fightsOf (o0 : Nat) (v1 : Int32) (v2 : Int32) (h : H2) : O2 :=
  mv_rI (fN_its o0 v1 (nI 0) h) fun r2 h1 =>
  if r2 = nI 1 then (
    mv_gd (mv_inb (nI 2) 69) <|
    some ([Sum.inl (Value.int (v2 - (rI2 h1 902 o0 (nI 2).toNatClampNeg)))], h1))
  else
  if r2 = nI 2 then (
    mv_gd (mv_inb (nI 2) 69) <|
    some ([Sum.inl (Value.int (v2 + (rI2 h1 902 o0 (nI 2).toNatClampNeg)))], h1))
  else
  if r2 = nI 3 then (
    mv_gd (mv_inb (nI 2) 69) <|
    mv_gd (mv_inb (nI 0) 69) <|
    some ([Sum.inl (Value.int ((v2 - (rI2 h1 902 o0 (nI 2).toNatClampNeg)) + (rI2 h1 902 o0 (nI 0).toNatClampNeg)))], h1))
  else
  if r2 = nI 4 then (
    mv_gd (mv_inb (nI 2) 69) <|
    some ([Sum.inl (Value.int ((nI 2) * (v2 + (rI2 h1 902 o0 (nI 2).toNatClampNeg))))], h1))
  else
  if r2 = nI 5 then (
    some ([Sum.inl (Value.int (v2 + (nI 1)))], h1))
  else
  some ([Sum.inl (Value.int v2)], h1)
def cN_fightsOf : List mv_V → H2 → (List mv_V → H2 → O2) → O2 := fun as h k => match as with
  | [.inr (t0, o0), .inl (.int v1), .inl (.int v2)] => mv_gd (Nat.beq t0 8) <| mv_rI (fN_fightsOf o0 v1 v2 h) fun x h => k [.inl (.int x)] h
  | _ => none
def fN_fadesOf (o0 : Nat) (v1 : Int32) (h : H2) : O2 :=
  mv_gd (mv_inb (nI 1) 69) <|
  mv_bi (rI2 h 902 o0 (nI 1).toNatClampNeg) fun x1 =>
  mv_rI (fN_its o0 v1 (nI 0) h) fun r3 h2 =>
  if r3 = nI 1 then (
    some ([Sum.inl (Value.int (x1 - (nI 1)))], h2))
  else
  if r3 = nI 2 then (
    some ([Sum.inl (Value.int (x1 + (nI 1)))], h2))
  else
  if r3 = nI 3 then (
    some ([Sum.inl (Value.int (nI 0))], h2))
  else
  if r3 = nI 4 then (
    some ([Sum.inl (Value.int ((nI 2) * (x1 + (nI 1))))], h2))
  else
  if r3 = nI 5 then (
    some ([Sum.inl (Value.int (x1 + (nI 3)))], h2))
  else
  some ([Sum.inl (Value.int x1)], h2)
def cN_fadesOf : List mv_V → H2 → (List mv_V → H2 → O2) → O2 := fun as h k => match as with
  | [.inr (t0, o0), .inl (.int v1)] => mv_gd (Nat.beq t0 8) <| mv_rI (fN_fadesOf o0 v1 h) fun x h => k [.inl (.int x)] h
  | _ => none
def fN_adds (o0 : Nat) (v1 : Int32) (h : H2) : O2 :=
  mv_gd (mv_inb (nI 6) 69) <|
  mv_bi (rI2 h 902 o0 (nI 6).toNatClampNeg) fun x1 =>
  mv_gd (mv_inb (nI 6) 69) <|
  mv_gd (mv_inb (nI 6) 69) <|
  mv_bh (wI2 h 902 o0 (nI 6).toNatClampNeg ((rI2 h 902 o0 (nI 6).toNatClampNeg) + (nI 1))) fun h2 =>
  mv_rV (fN_sets o0 x1 (nI 0) v1 h2) fun h3 =>
  mv_rV (fN_sets o0 x1 (nI 1) (-(nI 1)) h3) fun h4 =>
  mv_rV (fN_sets o0 x1 (nI 2) (nI 0) h4) fun h5 =>
  mv_rV (fN_sets o0 x1 (nI 3) (nI 0) h5) fun h6 =>
  mv_rV (fN_sets o0 x1 (nI 4) (nI 0) h6) fun h7 =>
  some ([], h7)
def cN_adds : List mv_V → H2 → (List mv_V → H2 → O2) → O2 := fun as h k => match as with
  | [.inr (t0, o0), .inl (.int v1)] => mv_gd (Nat.beq t0 8) <| mv_rV (fN_adds o0 v1 h) fun h => k [] h
  | _ => none
def fN_cloth (o0 : Nat) (v1 : Int32) (h : H2) : O2 :=
  mv_rI (fN_isKind v1 h) fun r2 h1 =>
  if r2 = 0 then (
    some ([Sum.inl (Value.int (-(nI 1)))], h1))
  else
  mv_gd (mv_inb (nI 6) 69) <|
  if (rI2 h1 902 o0 (nI 6).toNatClampNeg) = (nI 8) then (
    some ([Sum.inl (Value.int (-(nI 2)))], h1))
  else
  mv_rV (fN_adds o0 v1 h1) fun h3 =>
  mv_gd (mv_inb (nI 6) 69) <|
  some ([Sum.inl (Value.int ((rI2 h3 902 o0 (nI 6).toNatClampNeg) - (nI 1)))], h3)
def fN_of (o0 : Nat) (v1 : Int32) (v2 : Int32) (h : H2) : O2 :=
  mv_rI (fN_isCloth o0 v1 h) fun r2 h1 =>
  if r2 = 0 then (
    some ([Sum.inl (Value.int (-(nI 1)))], h1))
  else
  mv_rI (fN_in v2.toInt64 (lN 0) (lN 4) h1) fun r4 h3 =>
  if r4 = 0 then (
    some ([Sum.inl (Value.int (-(nI 1)))], h3))
  else
  if v2 = (nI 1) then (
    mv_rI (fN_its o0 v1 (nI 1) h3) fun r6 h5 =>
    some ([Sum.inl (Value.int ((nI 1) + r6))], h5))
  else
  mv_rI (fN_its o0 v1 v2 h3) fun r8 h7 =>
  some ([Sum.inl (Value.int r8)], h7)
def fN_does (o0 : Nat) (v1 : Int32) (v2 : Int32) (v3 : Int32) (h : H2) : O2 :=
  mv_rI (fN_isCloth o0 v1 h) fun r2 h1 =>
  if r2 = 0 then (
    some ([Sum.inl (Value.int (-(nI 1)))], h1))
  else
  mv_rI (fN_isVat v2 h1) fun r4 h3 =>
  if r4 = 0 then (
    some ([Sum.inl (Value.int (-(nI 1)))], h3))
  else
  mv_rI (fN_in v3.toInt64 (lN 0) (lN 2) h3) fun r6 h5 =>
  if r6 = 0 then (
    some ([Sum.inl (Value.int (-(nI 1)))], h5))
  else
  mv_gd (mv_inb ((nI 15) + v2) 69) <|
  mv_bi (rI2 h5 902 o0 ((nI 15) + v2).toNatClampNeg) fun x7 =>
  if v3 = 0 then (
    mv_rI (fN_takesOf o0 v1 x7 h5) fun r9 h8 =>
    some ([Sum.inl (Value.int ((nI 1000) + r9))], h8))
  else
  if v3 = (nI 1) then (
    mv_rI (fN_fightsOf o0 v1 x7 h5) fun r11 h10 =>
    some ([Sum.inl (Value.int ((nI 1000) + r11))], h10))
  else
  mv_rI (fN_fadesOf o0 v1 h5) fun r13 h12 =>
  some ([Sum.inl (Value.int ((nI 1000) + r13))], h12)
def fN_changed (o0 : Nat) (v1 : Int32) (v2 : Int32) (v3 : Int32) (h : H2) : O2 :=
  mv_rI (fN_becomes o0 (((nI 29) + ((nI 5) * v1)) + v2) v3 h) fun r2 h1 =>
  some ([Sum.inl (Value.int r2)], h1)
def cN_changed : List mv_V → H2 → (List mv_V → H2 → O2) → O2 := fun as h k => match as with
  | [.inr (t0, o0), .inl (.int v1), .inl (.int v2), .inl (.int v3)] => mv_gd (Nat.beq t0 8) <| mv_rI (fN_changed o0 v1 v2 v3 h) fun x h => k [.inl (.int x)] h
  | _ => none
def fN_mind (o0 : Nat) (v1 : Int32) (v2 : Int32) (h : H2) : O2 :=
  mv_rI (fN_isCloth o0 v1 h) fun r2 h1 =>
  if r2 = 0 then (
    some ([Sum.inl (Value.int (-(nI 1)))], h1))
  else
  mv_rI (fN_isKind v2 h1) fun r4 h3 =>
  if r4 = 0 then (
    some ([Sum.inl (Value.int (-(nI 1)))], h3))
  else
  mv_rI (fN_changed o0 v1 (nI 0) v2 h3) fun r6 h5 =>
  some ([Sum.inl (Value.int r6)], h5)
def fN_isDeep (o0 : Nat) (v1 : Int32) (v2 : Int32) (h : H2) : O2 :=
  mv_rV (fN_sets o0 v1 (nI 2) (if (nI 0) < (if v2 < (nI 99) then v2 else (nI 99)) then (if v2 < (nI 99) then v2 else (nI 99)) else (nI 0)) h) fun h1 =>
  if 0 < v2 then (
    some ([], h1))
  else
  mv_rV (fN_sets o0 v1 (nI 1) (-(nI 1)) h1) fun h2 =>
  some ([], h2)
def cN_isDeep : List mv_V → H2 → (List mv_V → H2 → O2) → O2 := fun as h k => match as with
  | [.inr (t0, o0), .inl (.int v1), .inl (.int v2)] => mv_gd (Nat.beq t0 8) <| mv_rV (fN_isDeep o0 v1 v2 h) fun h => k [] h
  | _ => none
def fN_steep_b41 (o0 : Nat) (v1 : Int32) (v2 : Int32) (v3 : Int32) (vs0 : Int32) (h : H2) : O2 :=
  mv_bi vs0 fun x1 =>
  mv_rI (fN_isCloth o0 v1 h) fun r3 h2 =>
  if r3 = 0 then (
    some ([Sum.inl (Value.int (-(nI 1)))], h2))
  else
  if x1 = 0 then (
    some ([Sum.inl (Value.int (-(nI 1)))], h2))
  else
  mv_rV (fN_sets o0 v1 (nI 2) v3 h2) fun h4 =>
  mv_rI (fN_changed o0 v1 (nI 1) v2 h4) fun r6 h5 =>
  some ([Sum.inl (Value.int ((nI 1) + r6))], h5)
def fN_steep (o0 : Nat) (v1 : Int32) (v2 : Int32) (v3 : Int32) (h : H2) : O2 :=
  if v2 = (-(nI 1)) then (
    if v3 = 0 then (
      fN_steep_b41 o0 v1 v2 v3 (nI 1) h)
    else
    fN_steep_b41 o0 v1 v2 v3 (nI 0) h)
  else
  mv_rI (fN_isPurpose v2 h) fun r2 h1 =>
  if r2 = 0 then (
    fN_steep_b41 o0 v1 v2 v3 (nI 0) h1)
  else
  mv_rI (fN_in v3.toInt64 (lN 1) (lN 99) h1) fun r4 h3 =>
  if r4 = 0 then (
    fN_steep_b41 o0 v1 v2 v3 (nI 0) h3)
  else
  fN_steep_b41 o0 v1 v2 v3 (nI 1) h3
def fN_hang (o0 : Nat) (v1 : Int32) (v2 : Int32) (h : H2) : O2 :=
  mv_rI (fN_isCloth o0 v1 h) fun r2 h1 =>
  if r2 = 0 then (
    some ([Sum.inl (Value.int (-(nI 1)))], h1))
  else
  mv_rI (fN_in v2.toInt64 (lN 0) (lN 1) h1) fun r4 h3 =>
  if r4 = 0 then (
    some ([Sum.inl (Value.int (-(nI 1)))], h3))
  else
  mv_rI (fN_changed o0 v1 (nI 3) v2 h3) fun r6 h5 =>
  some ([Sum.inl (Value.int r6)], h5)
def fN_dips_b108 (o0 : Nat) (v1 : Int32) (v2 : Int32) (v4 : Int32) (h : H2) : O2 :=
  mv_rI (fN_its o0 v1 (nI 4) h) fun r2 h1 =>
  mv_rV (fN_sets o0 v1 (nI 4) (if (r2 + (nI 1)) < (nI 9999) then (r2 + (nI 1)) else (nI 9999)) h1) fun h3 =>
  mv_gd (mv_inb ((nI 15) + v2) 69) <|
  mv_bh (wI2 h3 902 o0 ((nI 15) + v2).toNatClampNeg (if (nI 0) < (v4 - (nI 1)) then (v4 - (nI 1)) else (nI 0))) fun h4 =>
  some ([], h4)
def fN_dips_b49 (o0 : Nat) (v1 : Int32) (v2 : Int32) (v3 : Int32) (v4 : Int32) (v5 : Int32) (h : H2) : O2 :=
  mv_rV (fN_sets o0 v1 (nI 1) v3 h) fun h1 =>
  mv_rI (fN_takesOf o0 v1 v4 h1) fun r3 h2 =>
  mv_rV (fN_isDeep o0 v1 (v5 + r3) h2) fun h4 =>
  fN_dips_b108 o0 v1 v2 v4 h4
def fN_dips (o0 : Nat) (v1 : Int32) (v2 : Int32) (h : H2) : O2 :=
  mv_gd (mv_inb ((nI 7) + v2) 69) <|
  mv_bi (rI2 h 902 o0 ((nI 7) + v2).toNatClampNeg) fun x1 =>
  mv_gd (mv_inb ((nI 15) + v2) 69) <|
  mv_bi (rI2 h 902 o0 ((nI 15) + v2).toNatClampNeg) fun x2 =>
  mv_rI (fN_its o0 v1 (nI 2) h) fun r4 h3 =>
  mv_bi r4 fun x5 =>
  mv_rI (fN_its o0 v1 (nI 1) h3) fun r7 h6 =>
  if r7 = (-(nI 1)) then (
    fN_dips_b49 o0 v1 v2 x1 x2 x5 h6)
  else
  mv_rI (fN_its o0 v1 (nI 1) h6) fun r9 h8 =>
  if r9 = x1 then (
    fN_dips_b49 o0 v1 v2 x1 x2 x5 h8)
  else
  mv_rI (fN_fightsOf o0 v1 x2 h8) fun r11 h10 =>
  mv_bi (x5 - r11) fun x12 =>
  if 0 ≤ x12 then (
    mv_rV (fN_isDeep o0 v1 (if x12 < 0 then -x12 else x12) h10) fun h13 =>
    fN_dips_b108 o0 v1 v2 x2 h13)
  else
  mv_rV (fN_sets o0 v1 (nI 1) x1 h10) fun h14 =>
  mv_rV (fN_isDeep o0 v1 (if x12 < 0 then -x12 else x12) h14) fun h15 =>
  fN_dips_b108 o0 v1 v2 x2 h15
def cN_dips : List mv_V → H2 → (List mv_V → H2 → O2) → O2 := fun as h k => match as with
  | [.inr (t0, o0), .inl (.int v1), .inl (.int v2)] => mv_gd (Nat.beq t0 8) <| mv_rV (fN_dips o0 v1 v2 h) fun h => k [] h
  | _ => none
def fN_dip (o0 : Nat) (v1 : Int32) (v2 : Int32) (h : H2) : O2 :=
  mv_rI (fN_isCloth o0 v1 h) fun r2 h1 =>
  if r2 = 0 then (
    some ([Sum.inl (Value.int (-(nI 1)))], h1))
  else
  mv_rI (fN_isVat v2 h1) fun r4 h3 =>
  if r4 = 0 then (
    some ([Sum.inl (Value.int (-(nI 1)))], h3))
  else
  mv_rV (fN_dips o0 v1 v2 h3) fun h5 =>
  mv_rI (fN_its o0 v1 (nI 1) h5) fun r7 h6 =>
  some ([Sum.inl (Value.int ((nI 1) + r7))], h6)
def fN_aDay_b113 : Nat → Nat → Int32 → H2 → O2
  | 0 => fun _ _ _ => none
  | n + 1 => fun o0 v2 h =>
    if (nI 8) ≤ v2 then (
      mv_gd (mv_inb (nI 4) 69) <|
      mv_gd (mv_inb (nI 4) 69) <|
      mv_bh (wI2 h 902 o0 (nI 4).toNatClampNeg ((rI2 h 902 o0 (nI 4).toNatClampNeg) + (nI 1))) fun h1 =>
      some ([], h1))
    else
    mv_gd (mv_inb ((nI 15) + v2) 69) <|
    mv_gd (mv_inb ((nI 15) + v2) 69) <|
    mv_bh (wI2 h 902 o0 ((nI 15) + v2).toNatClampNeg (if ((rI2 h 902 o0 ((nI 15) + v2).toNatClampNeg) + (nI 1)) < (nI 9) then ((rI2 h 902 o0 ((nI 15) + v2).toNatClampNeg) + (nI 1)) else (nI 9))) fun h2 =>
    mv_bi (v2 + (nI 1)) fun x3 =>
    fN_aDay_b113 n o0 x3 h2
def fN_aDay_b58 : Nat → Nat → Int32 → H2 → O2
  | 0 => fun _ _ _ => none
  | n + 1 => fun o0 v2 h =>
    mv_gd (mv_inb (nI 6) 69) <|
    if (rI2 h 902 o0 (nI 6).toNatClampNeg) ≤ v2 then (
      mv_bi (nI 0) fun x1 =>
      fN_aDay_b113 1000 o0 x1 h)
    else
    mv_rI (fN_its o0 v2 (nI 3) h) fun r3 h2 =>
    if r3 = (nI 1) then (
      mv_rI (fN_its o0 v2 (nI 1) h2) fun r5 h4 =>
      if r5 < 0 then (
        mv_bi (v2 + (nI 1)) fun x6 =>
        fN_aDay_b58 n o0 x6 h4)
      else
      mv_rI (fN_its o0 v2 (nI 2) h4) fun r8 h7 =>
      mv_rI (fN_fadesOf o0 v2 h7) fun r10 h9 =>
      mv_rV (fN_isDeep o0 v2 (r8 - r10) h9) fun h11 =>
      mv_bi (v2 + (nI 1)) fun x12 =>
      fN_aDay_b58 n o0 x12 h11)
    else
    mv_bi (v2 + (nI 1)) fun x13 =>
    fN_aDay_b58 n o0 x13 h2
def fN_aDay_b20 : Nat → Nat → Int32 → Int32 → H2 → O2
  | 0 => fun _ _ _ _ => none
  | n + 1 => fun o0 v1 v2 h =>
    if v1 < 0 then (
      mv_bi (nI 0) fun x1 =>
      fN_aDay_b58 1000 o0 x1 h)
    else
    mv_gd (mv_inb (nI 6) 69) <|
    if (rI2 h 902 o0 (nI 6).toNatClampNeg) ≤ v2 then (
      mv_bi (nI 0) fun x2 =>
      fN_aDay_b58 1000 o0 x2 h)
    else
    mv_rI (fN_its o0 v2 (nI 3) h) fun r4 h3 =>
    if r4 = 0 then (
      mv_rV (fN_dips o0 v2 v1 h3) fun h5 =>
      mv_bi (v2 + (nI 1)) fun x6 =>
      fN_aDay_b20 n o0 v1 x6 h5)
    else
    mv_bi (v2 + (nI 1)) fun x7 =>
    fN_aDay_b20 n o0 v1 x7 h3
def fN_aDay (o0 : Nat) (h : H2) : O2 :=
  mv_gd (mv_inb (nI 4) 69) <|
  mv_gd (!decide ((nI 6) = 0)) <|
  mv_gd (mv_inb ((nI 23) + ((rI2 h 902 o0 (nI 4).toNatClampNeg) - (rI2 h 902 o0 (nI 4).toNatClampNeg) / (nI 6) * (nI 6))) 69) <|
  mv_bi (rI2 h 902 o0 ((nI 23) + ((rI2 h 902 o0 (nI 4).toNatClampNeg) - (rI2 h 902 o0 (nI 4).toNatClampNeg) / (nI 6) * (nI 6))).toNatClampNeg) fun x1 =>
  mv_bi (nI 0) fun x2 =>
  fN_aDay_b20 1000 o0 x1 x2 h
def cN_aDay : List mv_V → H2 → (List mv_V → H2 → O2) → O2 := fun as h k => match as with
  | [.inr (t0, o0)] => mv_gd (Nat.beq t0 8) <| mv_rV (fN_aDay o0 h) fun h => k [] h
  | _ => none
def fN_goes_b2 : Nat → Nat → Int32 → Int32 → H2 → O2
  | 0 => fun _ _ _ _ => none
  | n + 1 => fun o0 v1 v2 h =>
    if v1 ≤ v2 then (
      some ([], h))
    else
    mv_rV (fN_aDay o0 h) fun h1 =>
    mv_bi (v2 + (nI 1)) fun x2 =>
    fN_goes_b2 n o0 v1 x2 h1
def fN_goes (o0 : Nat) (v1 : Int32) (h : H2) : O2 :=
  mv_bi (nI 0) fun x1 =>
  fN_goes_b2 1000 o0 v1 x1 h
def cN_goes : List mv_V → H2 → (List mv_V → H2 → O2) → O2 := fun as h k => match as with
  | [.inr (t0, o0), .inl (.int v1)] => mv_gd (Nat.beq t0 8) <| mv_rV (fN_goes o0 v1 h) fun h => k [] h
  | _ => none
def fN_depths_b4 : Nat → Nat → Int32 → Int32 → H2 → O2
  | 0 => fun _ _ _ _ => none
  | n + 1 => fun o0 v1 v2 h =>
    mv_gd (mv_inb (nI 6) 69) <|
    if (rI2 h 902 o0 (nI 6).toNatClampNeg) ≤ v2 then (
      some ([Sum.inl (Value.int v1)], h))
    else
    mv_rI (fN_its o0 v2 (nI 2) h) fun r2 h1 =>
    mv_bi (v1 + r2) fun x3 =>
    mv_bi (v2 + (nI 1)) fun x4 =>
    fN_depths_b4 n o0 x3 x4 h1
def fN_depths (o0 : Nat) (h : H2) : O2 :=
  mv_bi (nI 0) fun x1 =>
  mv_bi (nI 0) fun x2 =>
  fN_depths_b4 1000 o0 x1 x2 h
def cN_depths : List mv_V → H2 → (List mv_V → H2 → O2) → O2 := fun as h k => match as with
  | [.inr (t0, o0)] => mv_gd (Nat.beq t0 8) <| mv_rI (fN_depths o0 h) fun x h => k [.inl (.int x)] h
  | _ => none
def fN_days (o0 : Nat) (v1 : Int32) (h : H2) : O2 :=
  mv_rI (fN_in v1.toInt64 (lN 1) (lN 60) h) fun r2 h1 =>
  if r2 = 0 then (
    some ([Sum.inl (Value.int (-(nI 1)))], h1))
  else
  mv_rV (fN_goes o0 v1 h1) fun h3 =>
  mv_rI (fN_depths o0 h3) fun r5 h4 =>
  some ([Sum.inl (Value.int r5)], h4)
def fN_seed (o0 : Nat) (v1 : Int32) (h : H2) : O2 :=
  mv_rI (fN_becomes o0 (nI 5) v1 h) fun r2 h1 =>
  some ([Sum.inl (Value.int r2)], h1)
def fN_draw (o0 : Nat) (h : H2) : O2 :=
  mv_gd (mv_inb (nI 5) 69) <|
  mv_gd (mv_inb (nI 5) 69) <|
  mv_bh (wI2 h 902 o0 (nI 5).toNatClampNeg (((rI2 h 902 o0 (nI 5).toNatClampNeg) * (nI 1103515245)) + (nI 12345))) fun h1 =>
  mv_gd (mv_inb (nI 5) 69) <|
  some ([Sum.inl (Value.int (((rI2 h1 902 o0 (nI 5).toNatClampNeg).toUInt32 >>> ((nI 16).toUInt32 &&& Int32.toUInt32 31)).toInt32))], h1)
def cN_draw : List mv_V → H2 → (List mv_V → H2 → O2) → O2 := fun as h k => match as with
  | [.inr (t0, o0)] => mv_gd (Nat.beq t0 8) <| mv_rI (fN_draw o0 h) fun x h => k [.inl (.int x)] h
  | _ => none
def fN_byDraws (o0 : Nat) (h : H2) : O2 :=
  mv_gd (mv_inb (nI 6) 69) <|
  if (rI2 h 902 o0 (nI 6).toNatClampNeg) ≤ 0 then (
    mv_rV (fN_aDay o0 h) fun h1 =>
    some ([], h1))
  else
  mv_rI (fN_draw o0 h) fun r3 h2 =>
  mv_gd (mv_inb (nI 6) 69) <|
  mv_gd (!decide ((rI2 h2 902 o0 (nI 6).toNatClampNeg) = 0)) <|
  mv_bi (r3 - r3 / (rI2 h2 902 o0 (nI 6).toNatClampNeg) * (rI2 h2 902 o0 (nI 6).toNatClampNeg)) fun x4 =>
  mv_rI (fN_draw o0 h2) fun r6 h5 =>
  mv_gd (!decide ((nI 100) = 0)) <|
  mv_gd (mv_inb (nI 3) 69) <|
  if (rI2 h5 902 o0 (nI 3).toNatClampNeg) ≤ (r6 - r6 / (nI 100) * (nI 100)) then (
    mv_rV (fN_aDay o0 h5) fun h7 =>
    some ([], h7))
  else
  mv_rI (fN_draw o0 h5) fun r9 h8 =>
  mv_gd (!decide ((nI 8) = 0)) <|
  mv_rV (fN_dips o0 x4 (r9 - r9 / (nI 8) * (nI 8)) h8) fun h10 =>
  mv_rV (fN_aDay o0 h10) fun h11 =>
  some ([], h11)
def cN_byDraws : List mv_V → H2 → (List mv_V → H2 → O2) → O2 := fun as h k => match as with
  | [.inr (t0, o0)] => mv_gd (Nat.beq t0 8) <| mv_rV (fN_byDraws o0 h) fun h => k [] h
  | _ => none
def fN_day (o0 : Nat) (h : H2) : O2 :=
  mv_rV (fN_byDraws o0 h) fun h1 =>
  mv_rI (fN_depths o0 h1) fun r3 h2 =>
  some ([Sum.inl (Value.int r3)], h2)
def fN_luck_b44 : Nat → Nat → Int32 → Int32 → Int32 → Int32 → Int32 → H2 → O2
  | 0 => fun _ _ _ _ _ _ _ => none
  | n + 1 => fun o0 v1 v2 v3 v4 v5 h =>
    if v1 ≤ v5 then (
      some ([Sum.inl (Value.int v4)], h))
    else
    mv_gd (mv_inb (nI 5) 69) <|
    mv_bh (wI2 h 902 o0 (nI 5).toNatClampNeg v3) fun h1 =>
    mv_rV (fN_byDraws o0 h1) fun h2 =>
    mv_gd (mv_inb (nI 5) 69) <|
    mv_bi (rI2 h2 902 o0 (nI 5).toNatClampNeg) fun x3 =>
    mv_rI (fN_depths o0 h2) fun r5 h4 =>
    if r5 ≤ v2 then (
      mv_bi (v4 + (nI 0)) fun x6 =>
      mv_rV (fN_laysBack o0 h4) fun h7 =>
      mv_bi (v5 + (nI 1)) fun x8 =>
      fN_luck_b44 n o0 v1 v2 x3 x6 x8 h7)
    else
    mv_bi (v4 + (nI 1)) fun x9 =>
    mv_rV (fN_laysBack o0 h4) fun h10 =>
    mv_bi (v5 + (nI 1)) fun x11 =>
    fN_luck_b44 n o0 v1 v2 x3 x9 x11 h10
def fN_luck (o0 : Nat) (v1 : Int32) (h : H2) : O2 :=
  mv_rI (fN_in v1.toInt64 (lN 1) (lN 30) h) fun r2 h1 =>
  if r2 = 0 then (
    some ([Sum.inl (Value.int (-(nI 1)))], h1))
  else
  mv_rV (fN_lends o0 h1) fun h3 =>
  mv_rV (fN_aDay o0 h3) fun h4 =>
  mv_rI (fN_depths o0 h4) fun r6 h5 =>
  mv_bi r6 fun x7 =>
  mv_rV (fN_laysBack o0 h5) fun h8 =>
  mv_gd (mv_inb (nI 5) 69) <|
  mv_bi (rI2 h8 902 o0 (nI 5).toNatClampNeg) fun x9 =>
  mv_bi (nI 0) fun x10 =>
  mv_bi (nI 0) fun x11 =>
  fN_luck_b44 1000 o0 v1 x7 x9 x10 x11 h8
def fN_hungSet_b4 : Nat → Nat → Int32 → Int32 → H2 → O2
  | 0 => fun _ _ _ _ => none
  | n + 1 => fun o0 v1 v2 h =>
    mv_gd (mv_inb (nI 6) 69) <|
    if (rI2 h 902 o0 (nI 6).toNatClampNeg) ≤ v2 then (
      some ([Sum.inl (Value.int v1)], h))
    else
    mv_rI (fN_its o0 v2 (nI 3) h) fun r2 h1 =>
    mv_bi (v1 ||| (r2 <<< (v2 &&& 31))) fun x3 =>
    mv_bi (v2 + (nI 1)) fun x4 =>
    fN_hungSet_b4 n o0 x3 x4 h1
def fN_hungSet (o0 : Nat) (h : H2) : O2 :=
  mv_bi (nI 0) fun x1 =>
  mv_bi (nI 0) fun x2 =>
  fN_hungSet_b4 1000 o0 x1 x2 h
def cN_hungSet : List mv_V → H2 → (List mv_V → H2 → O2) → O2 := fun as h k => match as with
  | [.inr (t0, o0)] => mv_gd (Nat.beq t0 8) <| mv_rI (fN_hungSet o0 h) fun x h => k [.inl (.int x)] h
  | _ => none
def fN_aboutSet_b4 : Nat → Nat → Int32 → Int32 → H2 → O2
  | 0 => fun _ _ _ _ => none
  | n + 1 => fun o0 v1 v2 h =>
    mv_gd (mv_inb (nI 6) 69) <|
    if (rI2 h 902 o0 (nI 6).toNatClampNeg) ≤ v2 then (
      some ([Sum.inl (Value.int v1)], h))
    else
    mv_rI (fN_its o0 v2 (nI 1) h) fun r2 h1 =>
    if r2 < 0 then (
      mv_bi (v1 ||| (nI 0)) fun x3 =>
      mv_bi (v2 + (nI 1)) fun x4 =>
      fN_aboutSet_b4 n o0 x3 x4 h1)
    else
    mv_bi (v1 ||| ((nI 1) <<< (v2 &&& 31))) fun x5 =>
    mv_bi (v2 + (nI 1)) fun x6 =>
    fN_aboutSet_b4 n o0 x5 x6 h1
def fN_aboutSet (o0 : Nat) (h : H2) : O2 :=
  mv_bi (nI 0) fun x1 =>
  mv_bi (nI 0) fun x2 =>
  fN_aboutSet_b4 1000 o0 x1 x2 h
def cN_aboutSet : List mv_V → H2 → (List mv_V → H2 → O2) → O2 := fun as h k => match as with
  | [.inr (t0, o0)] => mv_gd (Nat.beq t0 8) <| mv_rI (fN_aboutSet o0 h) fun x h => k [.inl (.int x)] h
  | _ => none
def fN_isAtOdds_b23 (o0 : Nat) (v1 : Int32) (v2 : Int32) (vs0 : Int32) (h : H2) : O2 :=
  mv_bi vs0 fun x1 =>
  if x1 = 0 then (
    mv_gd (decide (nI 0 = nI 0) || decide (nI 0 = nI 1)) <| some ([Sum.inl (Value.int (nI 0))], h))
  else
  mv_rI (fN_its o0 v1 (nI 1) h) fun r3 h2 =>
  if r3 < 0 then (
    mv_gd (decide (nI 0 = nI 0) || decide (nI 0 = nI 1)) <| some ([Sum.inl (Value.int (nI 0))], h2))
  else
  mv_rI (fN_its o0 v2 (nI 1) h2) fun r5 h4 =>
  if r5 < 0 then (
    mv_gd (decide (nI 0 = nI 0) || decide (nI 0 = nI 1)) <| some ([Sum.inl (Value.int (nI 0))], h4))
  else
  mv_rI (fN_its o0 v1 (nI 1) h4) fun r7 h6 =>
  mv_rI (fN_its o0 v2 (nI 1) h6) fun r9 h8 =>
  if r7 = r9 then (
    mv_gd (decide (nI 0 = nI 0) || decide (nI 0 = nI 1)) <| some ([Sum.inl (Value.int (nI 0))], h8))
  else
  mv_gd (decide (nI 1 = nI 0) || decide (nI 1 = nI 1)) <| some ([Sum.inl (Value.int (nI 1))], h8)
def fN_isAtOdds (o0 : Nat) (v1 : Int32) (v2 : Int32) (h : H2) : O2 :=
  mv_rI (fN_its o0 v1 (nI 3) h) fun r2 h1 =>
  if r2 = 0 then (
    mv_rI (fN_its o0 v2 (nI 3) h1) fun r4 h3 =>
    if r4 = 0 then (
      fN_isAtOdds_b23 o0 v1 v2 (nI 1) h3)
    else
    fN_isAtOdds_b23 o0 v1 v2 (nI 0) h3)
  else
  fN_isAtOdds_b23 o0 v1 v2 (nI 0) h1
def cN_isAtOdds : List mv_V → H2 → (List mv_V → H2 → O2) → O2 := fun as h k => match as with
  | [.inr (t0, o0), .inl (.int v1), .inl (.int v2)] => mv_gd (Nat.beq t0 8) <| mv_rI (fN_isAtOdds o0 v1 v2 h) fun x h => k [.inl (.int x)] h
  | _ => none
def fN_oddsAmong_b17 (k4 : Nat → Int32 → Int32 → H2 → O2) : Nat → Nat → Int32 → Int32 → Int32 → H2 → O2
  | 0 => fun _ _ _ _ _ => none
  | n + 1 => fun o0 v1 v2 v3 h =>
    if v2 ≤ v3 then (
      mv_bi (v2 + (nI 1)) fun x1 =>
      k4 o0 v1 x1 h)
    else
    mv_rI (fN_isAtOdds o0 v2 v3 h) fun r3 h2 =>
    if r3 = 0 then (
      mv_bi (v1 + (nI 0)) fun x4 =>
      mv_bi (v3 + (nI 1)) fun x5 =>
      fN_oddsAmong_b17 k4 n o0 x4 v2 x5 h2)
    else
    mv_bi (v1 + (nI 1)) fun x6 =>
    mv_bi (v3 + (nI 1)) fun x7 =>
    fN_oddsAmong_b17 k4 n o0 x6 v2 x7 h2
def fN_oddsAmong_b4 : Nat → Nat → Int32 → Int32 → H2 → O2
  | 0 => fun _ _ _ _ => none
  | n + 1 => fun o0 v1 v2 h =>
    mv_gd (mv_inb (nI 6) 69) <|
    if (rI2 h 902 o0 (nI 6).toNatClampNeg) ≤ v2 then (
      some ([Sum.inl (Value.int v1)], h))
    else
    mv_bi (nI 0) fun x1 =>
    fN_oddsAmong_b17 (fN_oddsAmong_b4 n) 1000 o0 v1 v2 x1 h
def fN_oddsAmong (o0 : Nat) (h : H2) : O2 :=
  mv_bi (nI 0) fun x1 =>
  mv_bi (nI 0) fun x2 =>
  fN_oddsAmong_b4 1000 o0 x1 x2 h
def cN_oddsAmong : List mv_V → H2 → (List mv_V → H2 → O2) → O2 := fun as h k => match as with
  | [.inr (t0, o0)] => mv_gd (Nat.beq t0 8) <| mv_rI (fN_oddsAmong o0 h) fun x h => k [.inl (.int x)] h
  | _ => none
def fN_state (o0 : Nat) (v1 : Int32) (h : H2) : O2 :=
  if v1 = nI 0 then (
    mv_gd (mv_inb (nI 4) 69) <|
    some ([Sum.inl (Value.int (rI2 h 902 o0 (nI 4).toNatClampNeg))], h))
  else
  if v1 = nI 1 then (
    mv_gd (mv_inb (nI 4) 69) <|
    mv_gd (!decide ((nI 6) = 0)) <|
    mv_gd (mv_inb ((nI 23) + ((rI2 h 902 o0 (nI 4).toNatClampNeg) - (rI2 h 902 o0 (nI 4).toNatClampNeg) / (nI 6) * (nI 6))) 69) <|
    some ([Sum.inl (Value.int ((nI 1) + (rI2 h 902 o0 ((nI 23) + ((rI2 h 902 o0 (nI 4).toNatClampNeg) - (rI2 h 902 o0 (nI 4).toNatClampNeg) / (nI 6) * (nI 6))).toNatClampNeg)))], h))
  else
  if v1 = nI 2 then (
    mv_rI (fN_hungSet o0 h) fun r2 h1 =>
    some ([Sum.inl (Value.int r2)], h1))
  else
  if v1 = nI 3 then (
    mv_rI (fN_aboutSet o0 h) fun r4 h3 =>
    some ([Sum.inl (Value.int r4)], h3))
  else
  if v1 = nI 4 then (
    mv_rI (fN_depths o0 h) fun r6 h5 =>
    some ([Sum.inl (Value.int r6)], h5))
  else
  if v1 = nI 5 then (
    mv_rI (fN_oddsAmong o0 h) fun r8 h7 =>
    some ([Sum.inl (Value.int r8)], h7))
  else
  some ([Sum.inl (Value.int (-(nI 1)))], h)
def fN_isAhead (v0 : Int32) (h : H2) : O2 :=
  mv_rI (fN_in v0.toInt64 (lN 0) (lN 60) h) fun r2 h1 =>
  mv_gd (decide (r2 = nI 0) || decide (r2 = nI 1)) <| some ([Sum.inl (Value.int r2)], h1)
def cN_isAhead : List mv_V → H2 → (List mv_V → H2 → O2) → O2 := fun as h k => match as with
  | [.inl (.int v0)] => mv_rI (fN_isAhead v0 h) fun x h => k [.inl (.int x)] h
  | _ => none
def fN_isSoon (v0 : Int32) (h : H2) : O2 :=
  mv_rI (fN_in v0.toInt64 (lN 1) (lN 40) h) fun r2 h1 =>
  mv_gd (decide (r2 = nI 0) || decide (r2 = nI 1)) <| some ([Sum.inl (Value.int r2)], h1)
def cN_isSoon : List mv_V → H2 → (List mv_V → H2 → O2) → O2 := fun as h k => match as with
  | [.inl (.int v0)] => mv_rI (fN_isSoon v0 h) fun x h => k [.inl (.int x)] h
  | _ => none
def fN_behind (o0 : Nat) (v1 : Int32) (v2 : Int32) (v3 : Int32) (h : H2) : O2 :=
  mv_rV (fN_goes o0 v3 h) fun h1 =>
  mv_rI (fN_its o0 v1 v2 h1) fun r3 h2 =>
  mv_bi r3 fun x4 =>
  mv_rV (fN_laysBack o0 h2) fun h5 =>
  some ([Sum.inl (Value.int x4)], h5)
def cN_behind : List mv_V → H2 → (List mv_V → H2 → O2) → O2 := fun as h k => match as with
  | [.inr (t0, o0), .inl (.int v1), .inl (.int v2), .inl (.int v3)] => mv_gd (Nat.beq t0 8) <| mv_rI (fN_behind o0 v1 v2 v3 h) fun x h => k [.inl (.int x)] h
  | _ => none
def fN_gone (o0 : Nat) (v1 : Int32) (v2 : Int32) (h : H2) : O2 :=
  mv_rI (fN_isCloth o0 v1 h) fun r2 h1 =>
  if r2 = 0 then (
    some ([Sum.inl (Value.int (-(nI 1)))], h1))
  else
  mv_rI (fN_isAhead v2 h1) fun r4 h3 =>
  if r4 = 0 then (
    some ([Sum.inl (Value.int (-(nI 1)))], h3))
  else
  mv_rV (fN_lends o0 h3) fun h5 =>
  mv_rI (fN_behind o0 v1 (nI 1) v2 h5) fun r7 h6 =>
  some ([Sum.inl (Value.int ((nI 1) + r7))], h6)
def fN_depth (o0 : Nat) (v1 : Int32) (v2 : Int32) (h : H2) : O2 :=
  mv_rI (fN_isCloth o0 v1 h) fun r2 h1 =>
  if r2 = 0 then (
    some ([Sum.inl (Value.int (-(nI 1)))], h1))
  else
  mv_rI (fN_isAhead v2 h1) fun r4 h3 =>
  if r4 = 0 then (
    some ([Sum.inl (Value.int (-(nI 1)))], h3))
  else
  mv_rV (fN_lends o0 h3) fun h5 =>
  mv_rI (fN_behind o0 v1 (nI 2) v2 h5) fun r7 h6 =>
  some ([Sum.inl (Value.int r7)], h6)
def fN_firstAbout_b6 : Nat → Nat → Int32 → Int32 → Int32 → H2 → O2
  | 0 => fun _ _ _ _ _ => none
  | n + 1 => fun o0 v1 v2 v3 h =>
    if (nI 60) < v3 then (
      mv_rV (fN_laysBack o0 h) fun h1 =>
      if (nI 60) < v3 then (
        some ([Sum.inl (Value.int (-(nI 3)))], h1))
      else
      some ([Sum.inl (Value.int v3)], h1))
    else
    mv_rI (fN_its o0 v1 (nI 1) h) fun r3 h2 =>
    if r3 = v2 then (
      mv_rV (fN_laysBack o0 h2) fun h4 =>
      if (nI 60) < v3 then (
        some ([Sum.inl (Value.int (-(nI 3)))], h4))
      else
      some ([Sum.inl (Value.int v3)], h4))
    else
    mv_rV (fN_aDay o0 h2) fun h5 =>
    mv_bi (v3 + (nI 1)) fun x6 =>
    fN_firstAbout_b6 n o0 v1 v2 x6 h5
def fN_firstAbout (o0 : Nat) (v1 : Int32) (v2 : Int32) (h : H2) : O2 :=
  mv_rV (fN_lends o0 h) fun h1 =>
  mv_bi (nI 0) fun x2 =>
  fN_firstAbout_b6 1000 o0 v1 v2 x2 h1
def cN_firstAbout : List mv_V → H2 → (List mv_V → H2 → O2) → O2 := fun as h k => match as with
  | [.inr (t0, o0), .inl (.int v1), .inl (.int v2)] => mv_gd (Nat.beq t0 8) <| mv_rI (fN_firstAbout o0 v1 v2 h) fun x h => k [.inl (.int x)] h
  | _ => none
def fN_comes (o0 : Nat) (v1 : Int32) (v2 : Int32) (h : H2) : O2 :=
  mv_rI (fN_isCloth o0 v1 h) fun r2 h1 =>
  if r2 = 0 then (
    some ([Sum.inl (Value.int (-(nI 1)))], h1))
  else
  mv_rI (fN_isPurpose v2 h1) fun r4 h3 =>
  if r4 = 0 then (
    some ([Sum.inl (Value.int (-(nI 1)))], h3))
  else
  mv_rI (fN_firstAbout o0 v1 v2 h3) fun r6 h5 =>
  some ([Sum.inl (Value.int r6)], h5)
def fN_bare (o0 : Nat) (v1 : Int32) (h : H2) : O2 :=
  mv_rI (fN_isCloth o0 v1 h) fun r2 h1 =>
  if r2 = 0 then (
    some ([Sum.inl (Value.int (-(nI 1)))], h1))
  else
  mv_rI (fN_firstAbout o0 v1 (-(nI 1)) h1) fun r4 h3 =>
  some ([Sum.inl (Value.int r4)], h3)
def fN_spoiltIn_b9 : Nat → Nat → Int32 → Int32 → H2 → O2
  | 0 => fun _ _ _ _ => none
  | n + 1 => fun o0 v2 v3 h =>
    mv_gd (mv_inb (nI 6) 69) <|
    if (rI2 h 902 o0 (nI 6).toNatClampNeg) ≤ v3 then (
      mv_rV (fN_laysBack o0 h) fun h1 =>
      some ([Sum.inl (Value.int v2)], h1))
    else
    mv_rI (fN_its o0 v3 (nI 1) h) fun r3 h2 =>
    mv_gd (mv_inb (((nI 29) + ((nI 5) * v3)) + (nI 1)) 69) <|
    if r3 = (rI2 h2 904 o0 (((nI 29) + ((nI 5) * v3)) + (nI 1)).toNatClampNeg) then (
      mv_bi (v2 + (nI 0)) fun x4 =>
      mv_bi (v3 + (nI 1)) fun x5 =>
      fN_spoiltIn_b9 n o0 x4 x5 h2)
    else
    mv_bi (v2 + (nI 1)) fun x6 =>
    mv_bi (v3 + (nI 1)) fun x7 =>
    fN_spoiltIn_b9 n o0 x6 x7 h2
def fN_spoiltIn (o0 : Nat) (v1 : Int32) (h : H2) : O2 :=
  mv_rV (fN_goes o0 v1 h) fun h1 =>
  mv_bi (nI 0) fun x2 =>
  mv_bi (nI 0) fun x3 =>
  fN_spoiltIn_b9 1000 o0 x2 x3 h1
def cN_spoiltIn : List mv_V → H2 → (List mv_V → H2 → O2) → O2 := fun as h k => match as with
  | [.inr (t0, o0), .inl (.int v1)] => mv_gd (Nat.beq t0 8) <| mv_rI (fN_spoiltIn o0 v1 h) fun x h => k [.inl (.int x)] h
  | _ => none
def fN_spoilt (o0 : Nat) (v1 : Int32) (h : H2) : O2 :=
  mv_rI (fN_isAhead v1 h) fun r2 h1 =>
  if r2 = 0 then (
    some ([Sum.inl (Value.int (-(nI 1)))], h1))
  else
  mv_rV (fN_lends o0 h1) fun h3 =>
  mv_rI (fN_spoiltIn o0 v1 h3) fun r5 h4 =>
  some ([Sum.inl (Value.int r5)], h4)
def fN_isThrough_b5 : Nat → Nat → Int32 → Int32 → Int32 → Int32 → H2 → O2
  | 0 => fun _ _ _ _ _ _ => none
  | n + 1 => fun o0 v1 v2 v4 v5 h =>
    if v5 < 0 then (
      mv_rI (fN_its o0 v1 (nI 1) h) fun r2 h1 =>
      if r2 = v2 then (
        mv_bi (nI 1) fun x3 =>
        mv_rV (fN_laysBack o0 h1) fun h4 =>
        mv_gd (decide (x3 = nI 0) || decide (x3 = nI 1)) <| some ([Sum.inl (Value.int x3)], h4))
      else
      mv_bi (nI 0) fun x5 =>
      mv_rV (fN_laysBack o0 h1) fun h6 =>
      mv_gd (decide (x5 = nI 0) || decide (x5 = nI 1)) <| some ([Sum.inl (Value.int x5)], h6))
    else
    mv_rV (fN_dips o0 v1 ((v4 >>> (((nI 3) * v5) &&& 31)) &&& (nI 7)) h) fun h7 =>
    mv_bi (v5 + (-(nI 1))) fun x8 =>
    fN_isThrough_b5 n o0 v1 v2 v4 x8 h7
def fN_isThrough (o0 : Nat) (v1 : Int32) (v2 : Int32) (v3 : Int32) (v4 : Int32) (h : H2) : O2 :=
  mv_bi (v3 - (nI 1)) fun x1 =>
  fN_isThrough_b5 1000 o0 v1 v2 v4 x1 h
def cN_isThrough : List mv_V → H2 → (List mv_V → H2 → O2) → O2 := fun as h k => match as with
  | [.inr (t0, o0), .inl (.int v1), .inl (.int v2), .inl (.int v3), .inl (.int v4)] => mv_gd (Nat.beq t0 8) <| mv_rI (fN_isThrough o0 v1 v2 v3 v4 h) fun x h => k [.inl (.int x)] h
  | _ => none
def fN_through_b31 (k23 : Nat → Int32 → Int32 → Int32 → H2 → O2) : Nat → Nat → Int32 → Int32 → Int32 → Int32 → H2 → O2
  | 0 => fun _ _ _ _ _ _ => none
  | n + 1 => fun o0 v1 v2 v3 v4 h =>
    if ((nI 1) <<< (((nI 3) * v3) &&& 31)) ≤ v4 then (
      mv_bi (v3 + (nI 1)) fun x1 =>
      k23 o0 v1 v2 x1 h)
    else
    mv_rI (fN_isThrough o0 v1 v2 v3 v4 h) fun r3 h2 =>
    if r3 = 0 then (
      mv_bi (v4 + (nI 1)) fun x4 =>
      fN_through_b31 k23 n o0 v1 v2 v3 x4 h2)
    else
    some ([Sum.inl (Value.int (((nI 1) <<< (((nI 3) * v3) &&& 31)) + v4))], h2)
def fN_through_b23 : Nat → Nat → Int32 → Int32 → Int32 → H2 → O2
  | 0 => fun _ _ _ _ _ => none
  | n + 1 => fun o0 v1 v2 v3 h =>
    if (nI 3) < v3 then (
      some ([Sum.inl (Value.int (-(nI 3)))], h))
    else
    mv_bi (nI 0) fun x1 =>
    fN_through_b31 (fN_through_b23 n) 1000 o0 v1 v2 v3 x1 h
def fN_through (o0 : Nat) (v1 : Int32) (v2 : Int32) (h : H2) : O2 :=
  mv_rI (fN_isCloth o0 v1 h) fun r2 h1 =>
  if r2 = 0 then (
    some ([Sum.inl (Value.int (-(nI 1)))], h1))
  else
  mv_rI (fN_isPurpose v2 h1) fun r4 h3 =>
  if r4 = 0 then (
    some ([Sum.inl (Value.int (-(nI 1)))], h3))
  else
  mv_rV (fN_lends o0 h3) fun h5 =>
  mv_bi (nI 0) fun x6 =>
  fN_through_b23 1000 o0 v1 v2 x6 h5
def fN_vatFor_b24 : Nat → Nat → Int32 → Int32 → Int32 → Int32 → Int32 → H2 → O2
  | 0 => fun _ _ _ _ _ _ _ => none
  | n + 1 => fun o0 v1 v2 v3 v4 v5 h =>
    if (nI 8) ≤ v5 then (
      some ([Sum.inl (Value.int v3)], h))
    else
    mv_rV (fN_lends o0 h) fun h1 =>
    mv_gd (mv_inb ((nI 23) + v1) 69) <|
    mv_bh (wI2 h1 902 o0 ((nI 23) + v1).toNatClampNeg v5) fun h2 =>
    mv_rV (fN_goes o0 v2 h2) fun h3 =>
    mv_rI (fN_depths o0 h3) fun r5 h4 =>
    mv_bi r5 fun x6 =>
    mv_rV (fN_laysBack o0 h4) fun h7 =>
    if x6 ≤ v4 then (
      mv_bi v3 fun x8 =>
      mv_bi (if v4 < x6 then x6 else v4) fun x9 =>
      mv_bi (v5 + (nI 1)) fun x10 =>
      fN_vatFor_b24 n o0 v1 v2 x8 x9 x10 h7)
    else
    mv_bi v5 fun x11 =>
    mv_bi (if v4 < x6 then x6 else v4) fun x12 =>
    mv_bi (v5 + (nI 1)) fun x13 =>
    fN_vatFor_b24 n o0 v1 v2 x11 x12 x13 h7
def fN_vatFor (o0 : Nat) (v1 : Int32) (v2 : Int32) (h : H2) : O2 :=
  mv_rI (fN_isRest v1 h) fun r2 h1 =>
  if r2 = 0 then (
    some ([Sum.inl (Value.int (-(nI 1)))], h1))
  else
  mv_rI (fN_isSoon v2 h1) fun r4 h3 =>
  if r4 = 0 then (
    some ([Sum.inl (Value.int (-(nI 1)))], h3))
  else
  mv_bi (-(nI 1)) fun x5 =>
  mv_bi (-(nI 1)) fun x6 =>
  mv_bi (nI 0) fun x7 =>
  fN_vatFor_b24 1000 o0 v1 v2 x5 x6 x7 h3
def fN_kindFor_b25 : Nat → Nat → Int32 → Int32 → Int32 → Int32 → Int32 → H2 → O2
  | 0 => fun _ _ _ _ _ _ _ => none
  | n + 1 => fun o0 v1 v2 v3 v4 v5 h =>
    if (nI 5) < v5 then (
      some ([Sum.inl (Value.int v3)], h))
    else
    mv_rV (fN_lends o0 h) fun h1 =>
    mv_rV (fN_sets o0 v1 (nI 0) v5 h1) fun h2 =>
    mv_rI (fN_behind o0 v1 (nI 2) v2 h2) fun r4 h3 =>
    mv_bi r4 fun x5 =>
    if x5 ≤ v4 then (
      mv_bi v3 fun x6 =>
      mv_bi (if v4 < x5 then x5 else v4) fun x7 =>
      mv_bi (v5 + (nI 1)) fun x8 =>
      fN_kindFor_b25 n o0 v1 v2 x6 x7 x8 h3)
    else
    mv_bi v5 fun x9 =>
    mv_bi (if v4 < x5 then x5 else v4) fun x10 =>
    mv_bi (v5 + (nI 1)) fun x11 =>
    fN_kindFor_b25 n o0 v1 v2 x9 x10 x11 h3
def fN_kindFor (o0 : Nat) (v1 : Int32) (v2 : Int32) (h : H2) : O2 :=
  mv_rI (fN_isCloth o0 v1 h) fun r2 h1 =>
  if r2 = 0 then (
    some ([Sum.inl (Value.int (-(nI 1)))], h1))
  else
  mv_rI (fN_isSoon v2 h1) fun r4 h3 =>
  if r4 = 0 then (
    some ([Sum.inl (Value.int (-(nI 1)))], h3))
  else
  mv_bi (-(nI 1)) fun x5 =>
  mv_bi (-(nI 1)) fun x6 =>
  mv_bi (nI 0) fun x7 =>
  fN_kindFor_b25 1000 o0 v1 v2 x5 x6 x7 h3
def fN_strengthFor_b40 : Nat → Nat → Int32 → Int32 → Int32 → Int32 → Int32 → Int32 → H2 → O2
  | 0 => fun _ _ _ _ _ _ _ _ => none
  | n + 1 => fun o0 v1 v2 v3 v4 v5 v6 h =>
    if v6 < 0 then (
      some ([Sum.inl (Value.int v5)], h))
    else
    mv_rV (fN_lends o0 h) fun h1 =>
    mv_gd (mv_inb ((nI 15) + v1) 69) <|
    mv_bh (wI2 h1 902 o0 ((nI 15) + v1).toNatClampNeg v6) fun h2 =>
    mv_rI (fN_behind o0 v2 (nI 1) v4 h2) fun r4 h3 =>
    if r4 = v3 then (
      mv_bi v6 fun x5 =>
      mv_bi (v6 + (-(nI 1))) fun x6 =>
      fN_strengthFor_b40 n o0 v1 v2 v3 v4 x5 x6 h3)
    else
    mv_bi v5 fun x7 =>
    mv_bi (v6 + (-(nI 1))) fun x8 =>
    fN_strengthFor_b40 n o0 v1 v2 v3 v4 x7 x8 h3
def fN_strengthFor (o0 : Nat) (v1 : Int32) (v2 : Int32) (v3 : Int32) (v4 : Int32) (h : H2) : O2 :=
  mv_rI (fN_isVat v1 h) fun r2 h1 =>
  if r2 = 0 then (
    some ([Sum.inl (Value.int (-(nI 1)))], h1))
  else
  mv_rI (fN_isCloth o0 v2 h1) fun r4 h3 =>
  if r4 = 0 then (
    some ([Sum.inl (Value.int (-(nI 1)))], h3))
  else
  mv_rI (fN_isPurpose v3 h3) fun r6 h5 =>
  if r6 = 0 then (
    some ([Sum.inl (Value.int (-(nI 1)))], h5))
  else
  mv_rI (fN_isSoon v4 h5) fun r8 h7 =>
  if r8 = 0 then (
    some ([Sum.inl (Value.int (-(nI 1)))], h7))
  else
  mv_bi (-(nI 3)) fun x9 =>
  mv_bi (nI 9) fun x10 =>
  fN_strengthFor_b40 1000 o0 v1 v2 v3 v4 x9 x10 h7
def fN_ones_b4 : Nat → Int32 → Int32 → Int32 → H2 → O2
  | 0 => fun _ _ _ _ => none
  | n + 1 => fun v0 v1 v2 h =>
    if (nI 8) ≤ v2 then (
      some ([Sum.inl (Value.int v1)], h))
    else
    mv_bi (v1 + ((v0 >>> (v2 &&& 31)) &&& (nI 1))) fun x1 =>
    mv_bi (v2 + (nI 1)) fun x2 =>
    fN_ones_b4 n v0 x1 x2 h
def fN_ones (v0 : Int32) (h : H2) : O2 :=
  mv_bi (nI 0) fun x1 =>
  mv_bi (nI 0) fun x2 =>
  fN_ones_b4 1000 v0 x1 x2 h
def cN_ones : List mv_V → H2 → (List mv_V → H2 → O2) → O2 := fun as h k => match as with
  | [.inl (.int v0)] => mv_rI (fN_ones v0 h) fun x h => k [.inl (.int x)] h
  | _ => none
def fN_hangs_b2 : Nat → Nat → Int32 → Int32 → H2 → O2
  | 0 => fun _ _ _ _ => none
  | n + 1 => fun o0 v1 v2 h =>
    mv_gd (mv_inb (nI 6) 69) <|
    if (rI2 h 902 o0 (nI 6).toNatClampNeg) ≤ v2 then (
      some ([], h))
    else
    mv_rV (fN_sets o0 v2 (nI 3) ((v1 >>> (v2 &&& 31)) &&& (nI 1)) h) fun h1 =>
    mv_bi (v2 + (nI 1)) fun x2 =>
    fN_hangs_b2 n o0 v1 x2 h1
def fN_hangs (o0 : Nat) (v1 : Int32) (h : H2) : O2 :=
  mv_bi (nI 0) fun x1 =>
  fN_hangs_b2 1000 o0 v1 x1 h
def cN_hangs : List mv_V → H2 → (List mv_V → H2 → O2) → O2 := fun as h k => match as with
  | [.inr (t0, o0), .inl (.int v1)] => mv_gd (Nat.beq t0 8) <| mv_rV (fN_hangs o0 v1 h) fun h => k [] h
  | _ => none
def fN_hangFor_b62 (k32 : Nat → Int32 → Int32 → Int32 → Int32 → H2 → O2) (o0 : Nat) (v1 : Int32) (v2 : Int32) (v3 : Int32) (v4 : Int32) (h : H2) : O2 :=
  mv_rV (fN_lends o0 h) fun h1 =>
  mv_rV (fN_hangs o0 v4 h1) fun h2 =>
  mv_rI (fN_spoiltIn o0 v1 h2) fun r4 h3 =>
  if v2 < r4 then (
    mv_bi v3 fun x5 =>
    mv_bi (v4 + (nI 1)) fun x6 =>
    k32 o0 v1 v2 x5 x6 h3)
  else
  mv_bi v4 fun x7 =>
  mv_bi (v4 + (nI 1)) fun x8 =>
  k32 o0 v1 v2 x7 x8 h3
def fN_hangFor_b32 : Nat → Nat → Int32 → Int32 → Int32 → Int32 → H2 → O2
  | 0 => fun _ _ _ _ _ _ => none
  | n + 1 => fun o0 v1 v2 v3 v4 h =>
    mv_gd (mv_inb (nI 6) 69) <|
    if ((nI 1) <<< ((rI2 h 902 o0 (nI 6).toNatClampNeg) &&& 31)) ≤ v4 then (
      some ([Sum.inl (Value.int v3)], h))
    else
    if v3 < 0 then (
      fN_hangFor_b62 (fN_hangFor_b32 n) o0 v1 v2 v3 v4 h)
    else
    mv_rI (fN_ones v4 h) fun r2 h1 =>
    mv_rI (fN_ones v3 h1) fun r4 h3 =>
    if r4 ≤ r2 then (
      mv_bi (v4 + (nI 1)) fun x5 =>
      fN_hangFor_b32 n o0 v1 v2 v3 x5 h3)
    else
    fN_hangFor_b62 (fN_hangFor_b32 n) o0 v1 v2 v3 v4 h3
def fN_hangFor (o0 : Nat) (v1 : Int32) (v2 : Int32) (h : H2) : O2 :=
  mv_rI (fN_in v1.toInt64 (lN 1) (lN 30) h) fun r2 h1 =>
  if r2 = 0 then (
    some ([Sum.inl (Value.int (-(nI 1)))], h1))
  else
  mv_rI (fN_in v2.toInt64 (lN 0) (lN 8) h1) fun r4 h3 =>
  if r4 = 0 then (
    some ([Sum.inl (Value.int (-(nI 1)))], h3))
  else
  mv_bi (-(nI 3)) fun x5 =>
  mv_bi (nI 0) fun x6 =>
  fN_hangFor_b32 1000 o0 v1 v2 x5 x6 h3
def fN_isSo_b17 : Nat → Nat → Int32 → Int32 → Int32 → Int32 → H2 → O2
  | 0 => fun _ _ _ _ _ _ => none
  | n + 1 => fun o0 v1 v2 v4 v5 h =>
    mv_gd (mv_inb v1 4) <|
    if (rI2 h 914 o0 v1.toNatClampNeg) ≤ v5 then (
      mv_rV (fN_laysBack o0 h) fun h1 =>
      mv_gd (decide (v4 = nI 0) || decide (v4 = nI 1)) <| some ([Sum.inl (Value.int v4)], h1))
    else
    if v4 = 0 then (
      mv_rV (fN_laysBack o0 h) fun h2 =>
      mv_gd (decide (v4 = nI 0) || decide (v4 = nI 1)) <| some ([Sum.inl (Value.int v4)], h2))
    else
    mv_rV (fN_aDay o0 h) fun h3 =>
    mv_gd (mv_inb (((nI 40) * v1) + v5) 160) <|
    mv_bi (rI2 h3 915 o0 (((nI 40) * v1) + v5).toNatClampNeg) fun x4 =>
    if x4 = (-(nI 1)) then (
      mv_bi (nI 1) fun x5 =>
      mv_bi (v5 + (nI 1)) fun x6 =>
      fN_isSo_b17 n o0 v1 v2 x5 x6 h3)
    else
    mv_rI (fN_its o0 v2 (nI 2) h3) fun r8 h7 =>
    if x4 = r8 then (
      mv_bi (nI 1) fun x9 =>
      mv_bi (v5 + (nI 1)) fun x10 =>
      fN_isSo_b17 n o0 v1 v2 x9 x10 h7)
    else
    mv_bi (nI 0) fun x11 =>
    mv_bi (v5 + (nI 1)) fun x12 =>
    fN_isSo_b17 n o0 v1 v2 x11 x12 h7
def fN_isSo (o0 : Nat) (v1 : Int32) (v2 : Int32) (v3 : Int32) (h : H2) : O2 :=
  mv_rV (fN_lends o0 h) fun h1 =>
  mv_rV (fN_sets o0 v2 (nI 1) v3 h1) fun h2 =>
  mv_bi (nI 1) fun x3 =>
  mv_bi (nI 0) fun x4 =>
  fN_isSo_b17 1000 o0 v1 v2 x3 x4 h2
def cN_isSo : List mv_V → H2 → (List mv_V → H2 → O2) → O2 := fun as h k => match as with
  | [.inr (t0, o0), .inl (.int v1), .inl (.int v2), .inl (.int v3)] => mv_gd (Nat.beq t0 8) <| mv_rI (fN_isSo o0 v1 v2 v3 h) fun x h => k [.inl (.int x)] h
  | _ => none
def fN_isFour (v0 : Int32) (h : H2) : O2 :=
  mv_rI (fN_in v0.toInt64 (lN 0) (lN 3) h) fun r2 h1 =>
  mv_gd (decide (r2 = nI 0) || decide (r2 = nI 1)) <| some ([Sum.inl (Value.int r2)], h1)
def cN_isFour : List mv_V → H2 → (List mv_V → H2 → O2) → O2 := fun as h k => match as with
  | [.inl (.int v0)] => mv_rI (fN_isFour v0 h) fun x h => k [.inl (.int x)] h
  | _ => none
def fN_fits_b87 (k75 : Nat → Int32 → Int32 → Int32 → Int32 → Int32 → Int32 → Int32 → H2 → O2) (o0 : Nat) (v1 : Int32) (v2 : Int32) (v3 : Int32) (v4 : Int32) (v5 : Int32) (v6 : Int32) (v7 : Int32) (vs0 : Int32) (vs1 : Int32) (h : H2) : O2 :=
  if vs0 < vs1 then (
    if v3 = 0 then (
      some ([Sum.inl (Value.int v5)], h))
    else
    some ([Sum.inl (Value.int v6)], h))
  else
  mv_rI (fN_isSo o0 v1 v2 v7 h) fun r2 h1 =>
  mv_bi r2 fun x3 =>
  if x3 = 0 then (
    mv_bi (v5 + (nI 0)) fun x4 =>
    if x3 = 0 then (
      mv_bi v6 fun x5 =>
      mv_bi (v7 + (-(nI 1))) fun x6 =>
      k75 o0 v1 v2 v3 v4 x4 x5 x6 h1)
    else
    mv_bi ((nI 1) + v7) fun x7 =>
    mv_bi (v7 + (-(nI 1))) fun x8 =>
    k75 o0 v1 v2 v3 v4 x4 x7 x8 h1)
  else
  mv_bi (v5 + (nI 1)) fun x9 =>
  if x3 = 0 then (
    mv_bi v6 fun x10 =>
    mv_bi (v7 + (-(nI 1))) fun x11 =>
    k75 o0 v1 v2 v3 v4 x9 x10 x11 h1)
  else
  mv_bi ((nI 1) + v7) fun x12 =>
  mv_bi (v7 + (-(nI 1))) fun x13 =>
  k75 o0 v1 v2 v3 v4 x9 x12 x13 h1
def fN_fits_b75 : Nat → Nat → Int32 → Int32 → Int32 → Int32 → Int32 → Int32 → Int32 → H2 → O2
  | 0 => fun _ _ _ _ _ _ _ _ _ => none
  | n + 1 => fun o0 v1 v2 v3 v4 v5 v6 v7 h =>
    if v4 = 0 then (
      fN_fits_b87 (fN_fits_b75 n) o0 v1 v2 v3 v4 v5 v6 v7 v7 (nI 0) h)
    else
    fN_fits_b87 (fN_fits_b75 n) o0 v1 v2 v3 v4 v5 v6 v7 v7 (-(nI 1)) h
def fN_fits (o0 : Nat) (v1 : Int32) (v2 : Int32) (v3 : Int32) (h : H2) : O2 :=
  mv_rI (fN_isFour v1 h) fun r2 h1 =>
  if r2 = 0 then (
    some ([Sum.inl (Value.int (-(nI 1)))], h1))
  else
  mv_rI (fN_isCloth o0 v2 h1) fun r4 h3 =>
  if r4 = 0 then (
    some ([Sum.inl (Value.int (-(nI 1)))], h3))
  else
  mv_rI (fN_in v3.toInt64 (lN 0) (lN 1) h3) fun r6 h5 =>
  if r6 = 0 then (
    some ([Sum.inl (Value.int (-(nI 1)))], h5))
  else
  mv_gd (mv_inb v1 4) <|
  if 0 ≤ (rI2 h5 913 o0 v1.toNatClampNeg) then (
    mv_rI (fN_its o0 v2 (nI 2) h5) fun r8 h7 =>
    if r8 = 0 then (
      mv_bi (nI 1) fun x9 =>
      mv_bi (nI 0) fun x10 =>
      mv_bi (-(nI 3)) fun x11 =>
      if x9 = 0 then (
        mv_bi (nI 9) fun x12 =>
        fN_fits_b75 1000 o0 v1 v2 v3 x9 x10 x11 x12 h7)
      else
      mv_bi (-(nI 1)) fun x13 =>
      fN_fits_b75 1000 o0 v1 v2 v3 x9 x10 x11 x13 h7)
    else
    mv_bi (nI 0) fun x14 =>
    mv_bi (nI 0) fun x15 =>
    mv_bi (-(nI 3)) fun x16 =>
    if x14 = 0 then (
      mv_bi (nI 9) fun x17 =>
      fN_fits_b75 1000 o0 v1 v2 v3 x14 x15 x16 x17 h7)
    else
    mv_bi (-(nI 1)) fun x18 =>
    fN_fits_b75 1000 o0 v1 v2 v3 x14 x15 x16 x18 h7)
  else
  some ([Sum.inl (Value.int (-(nI 11)))], h5)
def fN_lowest_b6 : Nat → Int64 → Int64 → Int32 → Int64 → Int64 → H2 → O2
  | 0 => fun _ _ _ _ _ _ => none
  | n + 1 => fun w0 w2 v4 w5 w7 h =>
    if (lg_cmp w7 (lN 0)) = 0 then (
      if v4 = 0 then (
        mv_gd (!decide (w5 = 0)) <|
        some ([Sum.inl (Value.long (w0 / w5))], h))
      else
      mv_gd (!decide (w5 = 0)) <|
      some ([Sum.inl (Value.long (w2 / w5))], h))
    else
    mv_gd (!decide (w7 = 0)) <|
    mv_bl (w5 - w5 / w7 * w7) fun y1 =>
    mv_bl w7 fun y2 =>
    mv_bl y1 fun y3 =>
    fN_lowest_b6 n w0 w2 v4 y2 y3 h
def fN_lowest (w0 : Int64) (w2 : Int64) (v4 : Int32) (h : H2) : O2 :=
  mv_bl w0 fun y1 =>
  mv_bl w2 fun y2 =>
  fN_lowest_b6 1000 w0 w2 v4 y1 y2 h
def cN_lowest : List mv_V → H2 → (List mv_V → H2 → O2) → O2 := fun as h k => match as with
  | [.inl (.long w0), .inl (.long w2), .inl (.int v4)] => mv_rL (fN_lowest w0 w2 v4 h) fun x h => k [.inl (.long x)] h
  | _ => none
def fN_odds_b103 : Nat → Int32 → Int32 → Int32 → Int64 → Int64 → Int64 → Int32 → H2 → O2
  | 0 => fun _ _ _ _ _ _ _ _ => none
  | n + 1 => fun v1 v2 v3 w4 w6 w8 v10 h =>
    if v2 ≤ v10 then (
      mv_rL (fN_lowest (w4 * w8) w6 v3 h) fun r2 h1 =>
      some ([Sum.inl (Value.long r2)], h1))
    else
    mv_gd (!decide (((v10 + (nI 1)).toInt64) = 0)) <|
    mv_bl ((w8 * ((v1 - v10).toInt64)) / ((v10 + (nI 1)).toInt64)) fun y3 =>
    mv_bi (v10 + (nI 1)) fun x4 =>
    fN_odds_b103 n v1 v2 v3 w4 w6 y3 x4 h
def fN_odds_b46 : Nat → Nat → Int32 → Int32 → Int32 → Int64 → Int64 → Int32 → H2 → O2
  | 0 => fun _ _ _ _ _ _ _ _ => none
  | n + 1 => fun o0 v1 v2 v3 w4 w6 v8 h =>
    if v1 ≤ v8 then (
      mv_bl (lN 1) fun y1 =>
      mv_bi (nI 0) fun x2 =>
      fN_odds_b103 1000 v1 v2 v3 w4 w6 y1 x2 h)
    else
    if v2 ≤ v8 then (
      mv_gd (mv_inb (nI 3) 69) <|
      mv_bl (w4 * (((nI 100) - (rI2 h 902 o0 (nI 3).toNatClampNeg)).toInt64)) fun y3 =>
      mv_bl (w6 * (lN 100)) fun y4 =>
      mv_bi (v8 + (nI 1)) fun x5 =>
      fN_odds_b46 n o0 v1 v2 v3 y3 y4 x5 h)
    else
    mv_gd (mv_inb (nI 3) 69) <|
    mv_bl (w4 * ((rI2 h 902 o0 (nI 3).toNatClampNeg).toInt64)) fun y6 =>
    mv_bl (w6 * (lN 100)) fun y7 =>
    mv_bi (v8 + (nI 1)) fun x8 =>
    fN_odds_b46 n o0 v1 v2 v3 y6 y7 x8 h
def fN_odds (o0 : Nat) (v1 : Int32) (v2 : Int32) (v3 : Int32) (h : H2) : O2 :=
  mv_rI (fN_in v1.toInt64 (lN 0) (lN 8) h) fun r2 h1 =>
  if r2 = 0 then (
    some ([Sum.inl (Value.long (-(lN 1)))], h1))
  else
  mv_rI (fN_in v2.toInt64 (lN 0) v1.toInt64 h1) fun r4 h3 =>
  if r4 = 0 then (
    some ([Sum.inl (Value.long (-(lN 1)))], h3))
  else
  mv_rI (fN_in v3.toInt64 (lN 0) (lN 1) h3) fun r6 h5 =>
  if r6 = 0 then (
    some ([Sum.inl (Value.long (-(lN 1)))], h5))
  else
  mv_bl (lN 1) fun y7 =>
  mv_bl (lN 1) fun y8 =>
  mv_bi (nI 0) fun x9 =>
  fN_odds_b46 1000 o0 v1 v2 v3 y7 y8 x9 h5
def fN_hope (o0 : Nat) (v1 : Int32) (v2 : Int32) (h : H2) : O2 :=
  mv_rI (fN_in v1.toInt64 (lN 0) (lN 99) h) fun r2 h1 =>
  if r2 = 0 then (
    some ([Sum.inl (Value.long (-(lN 1)))], h1))
  else
  mv_rI (fN_in v2.toInt64 (lN 0) (lN 1) h1) fun r4 h3 =>
  if r4 = 0 then (
    some ([Sum.inl (Value.long (-(lN 1)))], h3))
  else
  mv_gd (mv_inb (nI 3) 69) <|
  mv_rL (fN_lowest (v1.toInt64 * ((rI2 h3 902 o0 (nI 3).toNatClampNeg).toInt64)) (lN 100) v2 h3) fun r6 h5 =>
  some ([Sum.inl (Value.long r6)], h5)
def fN_feed_b32 : Nat → Nat → Int64 → Int32 → Int32 → H2 → O2
  | 0 => fun _ _ _ _ _ => none
  | n + 1 => fun o0 w1 v3 v4 h =>
    if v3 ≤ v4 then (
      some ([Sum.inl (Value.int (rI2 h 8 o0 7))], h))
    else
    mv_gd (mv_inb (rI2 h 8 o0 7) 200) <|
    mv_bh (wI2 h 906 o0 (rI2 h 8 o0 7).toNatClampNeg (((w1 >>> (((nI 8) * v4).toInt64 &&& 63)) &&& (lN 255)).toInt32)) fun h1 =>
    mv_bh (wI2 h1 8 o0 7 ((rI2 h1 8 o0 7) + (nI 1))) fun h2 =>
    mv_bi (v4 + (nI 1)) fun x3 =>
    fN_feed_b32 n o0 w1 v3 x3 h2
def fN_feed (o0 : Nat) (w1 : Int64) (v3 : Int32) (h : H2) : O2 :=
  mv_rI (fN_in v3.toInt64 (lN 1) (lN 8) h) fun r2 h1 =>
  if r2 = 0 then (
    some ([Sum.inl (Value.int (-(nI 1)))], h1))
  else
  if ((rI2 h1 8 o0 7) + v3) ≤ (nI 200) then (
    mv_bi (nI 0) fun x3 =>
    fN_feed_b32 1000 o0 w1 v3 x3 h1)
  else
  some ([Sum.inl (Value.int (-(nI 2)))], h1)
def fN_isByte (o0 : Nat) (v1 : Int32) (v2 : Int32) (v3 : Int32) (h : H2) : O2 :=
  if (rI2 h 8 o0 7) ≤ v1 then (
    mv_gd (decide (nI 0 = nI 0) || decide (nI 0 = nI 1)) <| some ([Sum.inl (Value.int (nI 0))], h))
  else
  mv_gd (mv_inb v1 200) <|
  mv_rI (fN_in ((rI2 h 906 o0 v1.toNatClampNeg).toInt64) v2.toInt64 v3.toInt64 h) fun r2 h1 =>
  if r2 = 0 then (
    mv_gd (decide (nI 0 = nI 0) || decide (nI 0 = nI 1)) <| some ([Sum.inl (Value.int (nI 0))], h1))
  else
  mv_gd (decide (nI 1 = nI 0) || decide (nI 1 = nI 1)) <| some ([Sum.inl (Value.int (nI 1))], h1)
def cN_isByte : List mv_V → H2 → (List mv_V → H2 → O2) → O2 := fun as h k => match as with
  | [.inr (t0, o0), .inl (.int v1), .inl (.int v2), .inl (.int v3)] => mv_gd (Nat.beq t0 8) <| mv_rI (fN_isByte o0 v1 v2 v3 h) fun x h => k [.inl (.int x)] h
  | _ => none
def fN_next_b121 (o0 : Nat) (v1 : Int32) (v2 : Int32) (h : H2) : O2 :=
  if v1 = 0 then (
    if v2 = 0 then (
      if (rI2 h 8 o0 7) ≤ (rI2 h 8 o0 8) then (
        mv_bh (wI2 h 8 o0 9 ((rI2 h 8 o0 9) + (nI 0))) fun h1 =>
        some ([], h1))
      else
      mv_bh (wI2 h 8 o0 9 ((rI2 h 8 o0 9) + (nI 1))) fun h2 =>
      some ([], h2))
    else
    mv_bh (wI2 h 8 o0 9 ((rI2 h 8 o0 9) + (nI 0))) fun h3 =>
    some ([], h3))
  else
  mv_bh (wI2 h 8 o0 9 ((rI2 h 8 o0 9) + (nI 0))) fun h4 =>
  some ([], h4)
def fN_next_b89 (k70 : Nat → Int32 → Int32 → H2 → O2) (o0 : Nat) (v1 : Int32) (v2 : Int32) (h : H2) : O2 :=
  if v2 = 0 then (
    fN_next_b121 o0 v1 v2 h)
  else
  mv_rI (fN_isByte o0 (rI2 h 8 o0 9) (nI 48) (nI 57) h) fun r2 h1 =>
  if r2 = 0 then (
    fN_next_b121 o0 v1 v2 h1)
  else
  mv_bh (wI2 h1 8 o0 9 ((rI2 h1 8 o0 9) + (nI 1))) fun h3 =>
  k70 o0 v1 v2 h3
def fN_next_b70 : Nat → Nat → Int32 → Int32 → H2 → O2
  | 0 => fun _ _ _ _ => none
  | n + 1 => fun o0 v1 v2 h =>
    if v1 = 0 then (
      fN_next_b89 (fN_next_b70 n) o0 v1 v2 h)
    else
    mv_rI (fN_isByte o0 (rI2 h 8 o0 9) (nI 97) (nI 122) h) fun r2 h1 =>
    if r2 = 0 then (
      fN_next_b89 (fN_next_b70 n) o0 v1 v2 h1)
    else
    mv_bh (wI2 h1 8 o0 9 ((rI2 h1 8 o0 9) + (nI 1))) fun h3 =>
    fN_next_b70 n o0 v1 v2 h3
def fN_next_b8 : Nat → Nat → H2 → O2
  | 0 => fun _ _ => none
  | n + 1 => fun o0 h =>
    mv_rI (fN_isByte o0 (rI2 h 8 o0 8) (nI 32) (nI 32) h) fun r2 h1 =>
    if r2 = 0 then (
      mv_bh (wI2 h1 8 o0 9 (rI2 h1 8 o0 8)) fun h3 =>
      mv_rI (fN_isByte o0 (rI2 h3 8 o0 8) (nI 97) (nI 122) h3) fun r5 h4 =>
      mv_bi r5 fun x6 =>
      mv_rI (fN_isByte o0 (rI2 h4 8 o0 8) (nI 48) (nI 57) h4) fun r8 h7 =>
      mv_bi r8 fun x9 =>
      fN_next_b70 1000 o0 x6 x9 h7)
    else
    mv_bh (wI2 h1 8 o0 8 ((rI2 h1 8 o0 8) + (nI 1))) fun h10 =>
    fN_next_b8 n o0 h10
def fN_next (o0 : Nat) (h : H2) : O2 :=
  mv_bh (wI2 h 8 o0 8 (rI2 h 8 o0 9)) fun h1 =>
  fN_next_b8 1000 o0 h1
def cN_next : List mv_V → H2 → (List mv_V → H2 → O2) → O2 := fun as h k => match as with
  | [.inr (t0, o0)] => mv_gd (Nat.beq t0 8) <| mv_rV (fN_next o0 h) fun h => k [] h
  | _ => none
def fN_isWord_b31 : Nat → Nat → Nat → Int32 → Int32 → H2 → O2
  | 0 => fun _ _ _ _ _ => none
  | n + 1 => fun o0 o1 v2 v3 h =>
    if v2 = 0 then (
      mv_gd (decide (v2 = nI 0) || decide (v2 = nI 1)) <| some ([Sum.inl (Value.int v2)], h))
    else
    if (nI (stl o1)) ≤ v3 then (
      mv_gd (decide (v2 = nI 0) || decide (v2 = nI 1)) <| some ([Sum.inl (Value.int v2)], h))
    else
    mv_gd (mv_inb ((rI2 h 8 o0 8) + v3) 200) <|
    mv_gd (mv_inb v3 (stl o1)) <|
    if (rI2 h 906 o0 ((rI2 h 8 o0 8) + v3).toNatClampNeg) = (stc o1 v3.toNatClampNeg) then (
      mv_bi (nI 1) fun x1 =>
      mv_bi (v3 + (nI 1)) fun x2 =>
      fN_isWord_b31 n o0 o1 x1 x2 h)
    else
    mv_bi (nI 0) fun x3 =>
    mv_bi (v3 + (nI 1)) fun x4 =>
    fN_isWord_b31 n o0 o1 x3 x4 h
def fN_isWord (o0 : Nat) (o1 : Nat) (h : H2) : O2 :=
  if (rI2 h 8 o0 10) = 0 then (
    if ((rI2 h 8 o0 9) - (rI2 h 8 o0 8)) = (nI (stl o1)) then (
      mv_bi (nI 1) fun x1 =>
      mv_bi (nI 0) fun x2 =>
      fN_isWord_b31 1000 o0 o1 x1 x2 h)
    else
    mv_bi (nI 0) fun x3 =>
    mv_bi (nI 0) fun x4 =>
    fN_isWord_b31 1000 o0 o1 x3 x4 h)
  else
  mv_bi (nI 0) fun x5 =>
  mv_bi (nI 0) fun x6 =>
  fN_isWord_b31 1000 o0 o1 x5 x6 h
def cN_isWord : List mv_V → H2 → (List mv_V → H2 → O2) → O2 := fun as h k => match as with
  | [.inr (t0, o0), .inr (t1, o1)] => mv_gd (Nat.beq t0 8) <| mv_gd (Nat.beq t1 11) <| mv_rI (fN_isWord o0 o1 h) fun x h => k [.inl (.int x)] h
  | _ => none
def fN_must (o0 : Nat) (v1 : Int32) (h : H2) : O2 :=
  if (rI2 h 8 o0 10) = 0 then (
    if v1 = 0 then (
      mv_gd (decide (nI 1 = nI 0) || decide (nI 1 = nI 1)) <|
      mv_bh (wI2 h 8 o0 10 (nI 1)) fun h1 =>
      if (rI2 h1 8 o0 10) = 0 then (
        mv_rV (fN_next o0 h1) fun h2 =>
        some ([], h2))
      else
      some ([], h1))
    else
    mv_gd (decide (nI 0 = nI 0) || decide (nI 0 = nI 1)) <|
    mv_bh (wI2 h 8 o0 10 (nI 0)) fun h3 =>
    if (rI2 h3 8 o0 10) = 0 then (
      mv_rV (fN_next o0 h3) fun h4 =>
      some ([], h4))
    else
    some ([], h3))
  else
  mv_gd (decide (nI 1 = nI 0) || decide (nI 1 = nI 1)) <|
  mv_bh (wI2 h 8 o0 10 (nI 1)) fun h5 =>
  if (rI2 h5 8 o0 10) = 0 then (
    mv_rV (fN_next o0 h5) fun h6 =>
    some ([], h6))
  else
  some ([], h5)
def cN_must : List mv_V → H2 → (List mv_V → H2 → O2) → O2 := fun as h k => match as with
  | [.inr (t0, o0), .inl (.int v1)] => mv_gd (Nat.beq t0 8) <| mv_rV (fN_must o0 v1 h) fun h => k [] h
  | _ => none
def fN_figures_b39 : Nat → Nat → Int32 → Int32 → H2 → O2
  | 0 => fun _ _ _ _ => none
  | n + 1 => fun o0 v1 v2 h =>
    if (rI2 h 8 o0 9) ≤ v2 then (
      some ([Sum.inl (Value.int v1)], h))
    else
    if v1 < 0 then (
      some ([Sum.inl (Value.int v1)], h))
    else
    mv_gd (mv_inb v2 200) <|
    mv_bi ((((nI 10) * v1) + (rI2 h 906 o0 v2.toNatClampNeg)) - (nI 48)) fun x1 =>
    mv_bi (v2 + (nI 1)) fun x2 =>
    fN_figures_b39 n o0 x1 x2 h
def fN_figures (o0 : Nat) (h : H2) : O2 :=
  mv_rI (fN_isByte o0 (rI2 h 8 o0 8) (nI 48) (nI 57) h) fun r2 h1 =>
  if r2 = 0 then (
    mv_bi (-(nI 1)) fun x3 =>
    mv_bi (rI2 h1 8 o0 8) fun x4 =>
    fN_figures_b39 1000 o0 x3 x4 h1)
  else
  if (nI 3) < ((rI2 h1 8 o0 9) - (rI2 h1 8 o0 8)) then (
    mv_bi (-(nI 1)) fun x5 =>
    mv_bi (rI2 h1 8 o0 8) fun x6 =>
    fN_figures_b39 1000 o0 x5 x6 h1)
  else
  mv_bi (nI 0) fun x7 =>
  mv_bi (rI2 h1 8 o0 8) fun x8 =>
  fN_figures_b39 1000 o0 x7 x8 h1
def cN_figures : List mv_V → H2 → (List mv_V → H2 → O2) → O2 := fun as h k => match as with
  | [.inr (t0, o0)] => mv_gd (Nat.beq t0 8) <| mv_rI (fN_figures o0 h) fun x h => k [.inl (.int x)] h
  | _ => none
def fN_number (o0 : Nat) (v1 : Int32) (v2 : Int32) (h : H2) : O2 :=
  mv_rI (fN_figures o0 h) fun r2 h1 =>
  mv_bi r2 fun x3 =>
  mv_rI (fN_in x3.toInt64 v1.toInt64 v2.toInt64 h1) fun r5 h4 =>
  mv_rV (fN_must o0 r5 h4) fun h6 =>
  some ([Sum.inl (Value.int x3)], h6)
def cN_number : List mv_V → H2 → (List mv_V → H2 → O2) → O2 := fun as h k => match as with
  | [.inr (t0, o0), .inl (.int v1), .inl (.int v2)] => mv_gd (Nat.beq t0 8) <| mv_rI (fN_number o0 v1 v2 h) fun x h => k [.inl (.int x)] h
  | _ => none
def fN_kindHere_b43 (o0 : Nat) (vs0 : Int32) (h : H2) : O2 :=
  mv_bi vs0 fun x1 =>
  if x1 < 0 then (
    mv_rI (fN_isWord o0 20 h) fun r3 h2 =>
    if r3 = 0 then (
      mv_rI (fN_isWord o0 21 h2) fun r5 h4 =>
      if r5 = 0 then (
        mv_rI (fN_isWord o0 22 h4) fun r7 h6 =>
        if r7 = 0 then (
          some ([Sum.inl (Value.int (-(nI 1)))], h6))
        else
        some ([Sum.inl (Value.int (nI 5))], h6))
      else
      some ([Sum.inl (Value.int (nI 4))], h4))
    else
    some ([Sum.inl (Value.int (nI 3))], h2))
  else
  some ([Sum.inl (Value.int x1)], h)
def fN_kindHere (o0 : Nat) (h : H2) : O2 :=
  mv_rI (fN_isWord o0 17 h) fun r2 h1 =>
  if r2 = 0 then (
    mv_rI (fN_isWord o0 18 h1) fun r4 h3 =>
    if r4 = 0 then (
      mv_rI (fN_isWord o0 19 h3) fun r6 h5 =>
      if r6 = 0 then (
        fN_kindHere_b43 o0 (-(nI 1)) h5)
      else
      fN_kindHere_b43 o0 (nI 2) h5)
    else
    fN_kindHere_b43 o0 (nI 1) h3)
  else
  fN_kindHere_b43 o0 (nI 0) h1
def cN_kindHere : List mv_V → H2 → (List mv_V → H2 → O2) → O2 := fun as h k => match as with
  | [.inr (t0, o0)] => mv_gd (Nat.beq t0 8) <| mv_rI (fN_kindHere o0 h) fun x h => k [.inl (.int x)] h
  | _ => none
def fN_takes (o0 : Nat) (o1 : Nat) (h : H2) : O2 :=
  mv_rI (fN_isWord o0 o1 h) fun r2 h1 =>
  mv_bi r2 fun x3 =>
  if x3 = 0 then (
    mv_gd (decide (x3 = nI 0) || decide (x3 = nI 1)) <| some ([Sum.inl (Value.int x3)], h1))
  else
  mv_rV (fN_must o0 (nI 1) h1) fun h4 =>
  mv_gd (decide (x3 = nI 0) || decide (x3 = nI 1)) <| some ([Sum.inl (Value.int x3)], h4)
def cN_takes : List mv_V → H2 → (List mv_V → H2 → O2) → O2 := fun as h k => match as with
  | [.inr (t0, o0), .inr (t1, o1)] => mv_gd (Nat.beq t0 8) <| mv_gd (Nat.beq t1 11) <| mv_rI (fN_takes o0 o1 h) fun x h => k [.inl (.int x)] h
  | _ => none
def fN_clothTold_b81 (o0 : Nat) (v1 : Int32) (v2 : Int32) (v3 : Int32) (vs0 : Int32) (h : H2) : O2 :=
  mv_bi vs0 fun x1 =>
  if (rI2 h 8 o0 10) = 0 then (
    mv_rV (fN_adds o0 v1 h) fun h2 =>
    mv_gd (mv_inb (nI 6) 69) <|
    mv_rV (fN_sets o0 ((rI2 h2 902 o0 (nI 6).toNatClampNeg) - (nI 1)) (nI 1) v2 h2) fun h3 =>
    mv_gd (mv_inb (nI 6) 69) <|
    mv_rV (fN_sets o0 ((rI2 h3 902 o0 (nI 6).toNatClampNeg) - (nI 1)) (nI 2) v3 h3) fun h4 =>
    mv_gd (mv_inb (nI 6) 69) <|
    mv_rV (fN_sets o0 ((rI2 h4 902 o0 (nI 6).toNatClampNeg) - (nI 1)) (nI 3) x1 h4) fun h5 =>
    some ([], h5))
  else
  some ([], h)
def fN_clothTold_b18 (o0 : Nat) (v1 : Int32) (os0 : Nat) (vs1 : Int32) (h : H2) : O2 :=
  mv_rV (fN_must os0 vs1 h) fun h1 =>
  mv_bi (-(nI 1)) fun x2 =>
  mv_bi (nI 0) fun x3 =>
  mv_rI (fN_takes o0 23 h1) fun r5 h4 =>
  if r5 = 0 then (
    mv_rI (fN_takes o0 25 h4) fun r7 h6 =>
    if r7 = 0 then (
      fN_clothTold_b81 o0 v1 x2 x3 (nI 0) h6)
    else
    fN_clothTold_b81 o0 v1 x2 x3 (nI 1) h6)
  else
  mv_rI (fN_number o0 (nI 0) (nI 9) h4) fun r9 h8 =>
  mv_bi r9 fun x10 =>
  mv_rI (fN_takes o0 24 h8) fun r12 h11 =>
  if r12 = 0 then (
    mv_bi (nI 20) fun x13 =>
    mv_rI (fN_takes o0 25 h11) fun r15 h14 =>
    if r15 = 0 then (
      fN_clothTold_b81 o0 v1 x10 x13 (nI 0) h14)
    else
    fN_clothTold_b81 o0 v1 x10 x13 (nI 1) h14)
  else
  mv_rI (fN_number o0 (nI 1) (nI 99) h11) fun r17 h16 =>
  mv_bi r17 fun x18 =>
  mv_rI (fN_takes o0 25 h16) fun r20 h19 =>
  if r20 = 0 then (
    fN_clothTold_b81 o0 v1 x10 x18 (nI 0) h19)
  else
  fN_clothTold_b81 o0 v1 x10 x18 (nI 1) h19
def fN_clothTold (o0 : Nat) (v1 : Int32) (h : H2) : O2 :=
  mv_gd (mv_inb (nI 6) 69) <|
  if (nI 8) ≤ (rI2 h 902 o0 (nI 6).toNatClampNeg) then (
    fN_clothTold_b18 o0 v1 o0 (nI 0) h)
  else
  fN_clothTold_b18 o0 v1 o0 (nI 1) h
def cN_clothTold : List mv_V → H2 → (List mv_V → H2 → O2) → O2 := fun as h k => match as with
  | [.inr (t0, o0), .inl (.int v1)] => mv_gd (Nat.beq t0 8) <| mv_rV (fN_clothTold o0 v1 h) fun h => k [] h
  | _ => none
def fN_twoTold_b29 (o0 : Nat) (v1 : Int32) (v4 : Int32) (v5 : Int32) (h : H2) : O2 :=
  mv_rI (fN_number o0 (nI 0) v4 h) fun r2 h1 =>
  mv_bi r2 fun x3 =>
  if (rI2 h1 8 o0 10) = 0 then (
    mv_gd (mv_inb (v1 + v5) 69) <|
    mv_bh (wI2 h1 902 o0 (v1 + v5).toNatClampNeg x3) fun h4 =>
    some ([], h4))
  else
  some ([], h1)
def fN_twoTold (o0 : Nat) (v1 : Int32) (v2 : Int32) (o3 : Nat) (v4 : Int32) (h : H2) : O2 :=
  mv_rV (fN_must o0 (nI 1) h) fun h1 =>
  mv_rI (fN_number o0 (nI 0) v2 h1) fun r3 h2 =>
  mv_bi r3 fun x4 =>
  if (nI (stl o3)) ≤ 0 then (
    fN_twoTold_b29 o0 v1 v4 x4 h2)
  else
  mv_rI (fN_isWord o0 o3 h2) fun r6 h5 =>
  mv_rV (fN_must o0 r6 h5) fun h7 =>
  fN_twoTold_b29 o0 v1 v4 x4 h7
def cN_twoTold : List mv_V → H2 → (List mv_V → H2 → O2) → O2 := fun as h k => match as with
  | [.inr (t0, o0), .inl (.int v1), .inl (.int v2), .inr (t3, o3), .inl (.int v4)] => mv_gd (Nat.beq t0 8) <| mv_gd (Nat.beq t3 11) <| mv_rV (fN_twoTold o0 v1 v2 o3 v4 h) fun h => k [] h
  | _ => none
def fN_lawTold (o0 : Nat) (v1 : Int32) (h : H2) : O2 :=
  mv_gd (mv_inb v1 4) <|
  mv_rI (fN_number o0 (nI 0) (rI2 h 900 o0 v1.toNatClampNeg) h) fun r2 h1 =>
  mv_bi r2 fun x3 =>
  if (rI2 h1 8 o0 10) = 0 then (
    mv_gd (mv_inb v1 69) <|
    mv_bh (wI2 h1 902 o0 v1.toNatClampNeg x3) fun h4 =>
    some ([], h4))
  else
  some ([], h1)
def cN_lawTold : List mv_V → H2 → (List mv_V → H2 → O2) → O2 := fun as h k => match as with
  | [.inr (t0, o0), .inl (.int v1)] => mv_gd (Nat.beq t0 8) <| mv_rV (fN_lawTold o0 v1 h) fun h => k [] h
  | _ => none
def fN_lawHere (o0 : Nat) (h : H2) : O2 :=
  mv_rI (fN_isWord o0 26 h) fun r2 h1 =>
  if r2 = 0 then (
    mv_rI (fN_isWord o0 27 h1) fun r4 h3 =>
    if r4 = 0 then (
      mv_rI (fN_isWord o0 28 h3) fun r6 h5 =>
      if r6 = 0 then (
        mv_rI (fN_isWord o0 29 h5) fun r8 h7 =>
        if r8 = 0 then (
          some ([Sum.inl (Value.int (-(nI 1)))], h7))
        else
        some ([Sum.inl (Value.int (nI 3))], h7))
      else
      some ([Sum.inl (Value.int (nI 2))], h5))
    else
    some ([Sum.inl (Value.int (nI 1))], h3))
  else
  some ([Sum.inl (Value.int (nI 0))], h1)
def cN_lawHere : List mv_V → H2 → (List mv_V → H2 → O2) → O2 := fun as h k => match as with
  | [.inr (t0, o0)] => mv_gd (Nat.beq t0 8) <| mv_rI (fN_lawHere o0 h) fun x h => k [.inl (.int x)] h
  | _ => none
def fN_item_b109 (o0 : Nat) (v2 : Int32) (os0 : Nat) (vs1 : Int32) (h : H2) : O2 :=
  mv_rV (fN_must os0 vs1 h) fun h1 =>
  mv_rV (fN_lawTold o0 (if (nI 0) < v2 then v2 else (nI 0)) h1) fun h2 =>
  mv_rI (fN_isWord o0 35 h2) fun r4 h3 =>
  mv_rV (fN_must o0 r4 h3) fun h5 =>
  some ([], h5)
def fN_item (o0 : Nat) (h : H2) : O2 :=
  mv_rI (fN_kindHere o0 h) fun r2 h1 =>
  mv_bi r2 fun x3 =>
  mv_rI (fN_lawHere o0 h1) fun r5 h4 =>
  mv_bi r5 fun x6 =>
  if x3 < 0 then (
    mv_rI (fN_isWord o0 30 h4) fun r8 h7 =>
    if r8 = 0 then (
      mv_rI (fN_isWord o0 32 h7) fun r10 h9 =>
      if r10 = 0 then (
        mv_rI (fN_isWord o0 34 h9) fun r12 h11 =>
        if r12 = 0 then (
          if x6 < 0 then (
            fN_item_b109 o0 x6 o0 (nI 0) h11)
          else
          fN_item_b109 o0 x6 o0 (nI 1) h11)
        else
        mv_rV (fN_twoTold o0 (nI 23) (nI 5) 30 (nI 7) h11) fun h13 =>
        mv_rI (fN_isWord o0 35 h13) fun r15 h14 =>
        mv_rV (fN_must o0 r15 h14) fun h16 =>
        some ([], h16))
      else
      mv_rV (fN_twoTold o0 (nI 15) (nI 7) 33 (nI 9) h9) fun h17 =>
      mv_rI (fN_isWord o0 35 h17) fun r19 h18 =>
      mv_rV (fN_must o0 r19 h18) fun h20 =>
      some ([], h20))
    else
    mv_rV (fN_twoTold o0 (nI 7) (nI 7) 31 (nI 9) h7) fun h21 =>
    mv_rI (fN_isWord o0 35 h21) fun r23 h22 =>
    mv_rV (fN_must o0 r23 h22) fun h24 =>
    some ([], h24))
  else
  mv_rV (fN_clothTold o0 x3 h4) fun h25 =>
  mv_rI (fN_isWord o0 35 h25) fun r27 h26 =>
  mv_rV (fN_must o0 r27 h26) fun h28 =>
  some ([], h28)
def cN_item : List mv_V → H2 → (List mv_V → H2 → O2) → O2 := fun as h k => match as with
  | [.inr (t0, o0)] => mv_gd (Nat.beq t0 8) <| mv_rV (fN_item o0 h) fun h => k [] h
  | _ => none
def fN_mill_b47 (o0 : Nat) (h : H2) : O2 :=
  mv_bh (wI2 h 8 o0 7 (nI 0)) fun h1 =>
  if (rI2 h1 8 o0 10) = 0 then (
    mv_bh (wI2 h1 8 o0 12 (nI 0)) fun h2 =>
    mv_gd (mv_inb (nI 6) 69) <|
    some ([Sum.inl (Value.int (rI2 h2 902 o0 (nI 6).toNatClampNeg))], h2))
  else
  mv_rV (fN_laysBack o0 h1) fun h3 =>
  some ([Sum.inl (Value.int ((-(nI 100)) - (rI2 h3 8 o0 8)))], h3)
def fN_mill_b22 : Nat → Nat → H2 → O2
  | 0 => fun _ _ => none
  | n + 1 => fun o0 h =>
    if (rI2 h 8 o0 10) = 0 then (
      if (rI2 h 8 o0 7) ≤ (rI2 h 8 o0 8) then (
        fN_mill_b47 o0 h)
      else
      mv_rV (fN_item o0 h) fun h1 =>
      fN_mill_b22 n o0 h1)
    else
    fN_mill_b47 o0 h
def fN_mill (o0 : Nat) (h : H2) : O2 :=
  mv_rV (fN_lends o0 h) fun h1 =>
  mv_rV (fN_anew o0 h1) fun h2 =>
  mv_gd (decide (nI 0 = nI 0) || decide (nI 0 = nI 1)) <|
  mv_bh (wI2 h2 8 o0 10 (nI 0)) fun h3 =>
  mv_bh (wI2 h3 8 o0 9 (nI 0)) fun h4 =>
  mv_rV (fN_next o0 h4) fun h5 =>
  fN_mill_b22 1000 o0 h5
def fN_prove_b28 : Nat → Nat → Int32 → Int32 → Int32 → H2 → O2
  | 0 => fun _ _ _ _ _ => none
  | n + 1 => fun o0 v1 v2 v3 h =>
    if v2 ≤ v3 then (
      mv_rV (fN_laysBack o0 h) fun h1 =>
      mv_bh (wI2 h1 8 o0 12 v2) fun h2 =>
      some ([Sum.inl (Value.int v2)], h2))
    else
    mv_rV (fN_goes o0 (nI 1) h) fun h3 =>
    mv_rI (fN_its o0 v1 (nI 1) h3) fun r5 h4 =>
    mv_gd (mv_inb ((nI 3) * v3) 30) <|
    mv_bh (wI2 h4 911 o0 ((nI 3) * v3).toNatClampNeg ((nI 1) + r5)) fun h6 =>
    mv_rI (fN_its o0 v1 (nI 2) h6) fun r8 h7 =>
    mv_gd (mv_inb (((nI 3) * v3) + (nI 1)) 30) <|
    mv_bh (wI2 h7 911 o0 (((nI 3) * v3) + (nI 1)).toNatClampNeg r8) fun h9 =>
    mv_rI (fN_depths o0 h9) fun r11 h10 =>
    mv_gd (mv_inb (((nI 3) * v3) + (nI 2)) 30) <|
    mv_bh (wI2 h10 911 o0 (((nI 3) * v3) + (nI 2)).toNatClampNeg r11) fun h12 =>
    mv_bi (v3 + (nI 1)) fun x13 =>
    fN_prove_b28 n o0 v1 v2 x13 h12
def fN_prove (o0 : Nat) (v1 : Int32) (v2 : Int32) (h : H2) : O2 :=
  mv_rI (fN_isCloth o0 v1 h) fun r2 h1 =>
  if r2 = 0 then (
    some ([Sum.inl (Value.int (-(nI 1)))], h1))
  else
  mv_rI (fN_in v2.toInt64 (lN 1) (lN 10) h1) fun r4 h3 =>
  if r4 = 0 then (
    some ([Sum.inl (Value.int (-(nI 1)))], h3))
  else
  mv_rV (fN_lends o0 h3) fun h5 =>
  mv_bi (nI 0) fun x6 =>
  fN_prove_b28 1000 o0 v1 v2 x6 h5
def fN_isCell (o0 : Nat) (v1 : Int32) (v2 : Int32) (h : H2) : O2 :=
  mv_rI (fN_in v1.toInt64 (lN 0) (((rI2 h 8 o0 12) - (nI 1)).toInt64) h) fun r2 h1 =>
  if r2 = 0 then (
    mv_gd (decide (nI 0 = nI 0) || decide (nI 0 = nI 1)) <| some ([Sum.inl (Value.int (nI 0))], h1))
  else
  mv_rI (fN_in v2.toInt64 (lN 0) (lN 2) h1) fun r4 h3 =>
  if r4 = 0 then (
    mv_gd (decide (nI 0 = nI 0) || decide (nI 0 = nI 1)) <| some ([Sum.inl (Value.int (nI 0))], h3))
  else
  mv_gd (decide (nI 1 = nI 0) || decide (nI 1 = nI 1)) <| some ([Sum.inl (Value.int (nI 1))], h3)
def cN_isCell : List mv_V → H2 → (List mv_V → H2 → O2) → O2 := fun as h k => match as with
  | [.inr (t0, o0), .inl (.int v1), .inl (.int v2)] => mv_gd (Nat.beq t0 8) <| mv_rI (fN_isCell o0 v1 v2 h) fun x h => k [.inl (.int x)] h
  | _ => none
def fN_row (o0 : Nat) (v1 : Int32) (v2 : Int32) (h : H2) : O2 :=
  mv_rI (fN_isCell o0 v1 v2 h) fun r2 h1 =>
  if r2 = 0 then (
    some ([Sum.inl (Value.int (-(nI 9)))], h1))
  else
  mv_gd (mv_inb (((nI 3) * v1) + v2) 30) <|
  some ([Sum.inl (Value.int (rI2 h1 911 o0 (((nI 3) * v1) + v2).toNatClampNeg))], h1)
def fN_alterRow (o0 : Nat) (v1 : Int32) (v2 : Int32) (v3 : Int32) (h : H2) : O2 :=
  mv_rI (fN_isCell o0 v1 v2 h) fun r2 h1 =>
  if r2 = 0 then (
    some ([Sum.inl (Value.int (-(nI 9)))], h1))
  else
  mv_gd (mv_inb (((nI 3) * v1) + v2) 30) <|
  mv_bi (rI2 h1 911 o0 (((nI 3) * v1) + v2).toNatClampNeg) fun x3 =>
  mv_gd (mv_inb (((nI 3) * v1) + v2) 30) <|
  mv_bh (wI2 h1 911 o0 (((nI 3) * v1) + v2).toNatClampNeg v3) fun h4 =>
  some ([Sum.inl (Value.int x3)], h4)
def fN_isRight (o0 : Nat) (v1 : Int32) (v2 : Int32) (h : H2) : O2 :=
  mv_rV (fN_goes o0 (nI 1) h) fun h1 =>
  mv_gd (mv_inb ((nI 3) * v2) 30) <|
  mv_rI (fN_its o0 v1 (nI 1) h1) fun r3 h2 =>
  if (rI2 h1 911 o0 ((nI 3) * v2).toNatClampNeg) = ((nI 1) + r3) then (
    mv_gd (mv_inb (((nI 3) * v2) + (nI 1)) 30) <|
    mv_rI (fN_its o0 v1 (nI 2) h2) fun r5 h4 =>
    if (rI2 h2 911 o0 (((nI 3) * v2) + (nI 1)).toNatClampNeg) = r5 then (
      mv_gd (mv_inb (((nI 3) * v2) + (nI 2)) 30) <|
      mv_rI (fN_depths o0 h4) fun r7 h6 =>
      if (rI2 h4 911 o0 (((nI 3) * v2) + (nI 2)).toNatClampNeg) = r7 then (
        mv_gd (decide (nI 1 = nI 0) || decide (nI 1 = nI 1)) <| some ([Sum.inl (Value.int (nI 1))], h6))
      else
      mv_gd (decide (nI 0 = nI 0) || decide (nI 0 = nI 1)) <| some ([Sum.inl (Value.int (nI 0))], h6))
    else
    mv_gd (decide (nI 0 = nI 0) || decide (nI 0 = nI 1)) <| some ([Sum.inl (Value.int (nI 0))], h4))
  else
  mv_gd (decide (nI 0 = nI 0) || decide (nI 0 = nI 1)) <| some ([Sum.inl (Value.int (nI 0))], h2)
def cN_isRight : List mv_V → H2 → (List mv_V → H2 → O2) → O2 := fun as h k => match as with
  | [.inr (t0, o0), .inl (.int v1), .inl (.int v2)] => mv_gd (Nat.beq t0 8) <| mv_rI (fN_isRight o0 v1 v2 h) fun x h => k [.inl (.int x)] h
  | _ => none
def fN_judge_b39 (o0 : Nat) (v2 : Int32) (h : H2) : O2 :=
  mv_rV (fN_laysBack o0 h) fun h1 =>
  if (rI2 h1 8 o0 12) ≤ v2 then (
    some ([Sum.inl (Value.int (nI 0))], h1))
  else
  some ([Sum.inl (Value.int (v2 + (nI 1)))], h1)
def fN_judge_b16 : Nat → Nat → Int32 → Int32 → H2 → O2
  | 0 => fun _ _ _ _ => none
  | n + 1 => fun o0 v1 v2 h =>
    if (rI2 h 8 o0 12) ≤ v2 then (
      fN_judge_b39 o0 v2 h)
    else
    mv_rI (fN_isRight o0 v1 v2 h) fun r2 h1 =>
    if r2 = 0 then (
      fN_judge_b39 o0 v2 h1)
    else
    mv_bi (v2 + (nI 1)) fun x3 =>
    fN_judge_b16 n o0 v1 x3 h1
def fN_judge (o0 : Nat) (v1 : Int32) (h : H2) : O2 :=
  mv_rI (fN_isCloth o0 v1 h) fun r2 h1 =>
  if r2 = 0 then (
    some ([Sum.inl (Value.int (-(nI 1)))], h1))
  else
  mv_rV (fN_lends o0 h1) fun h3 =>
  mv_bi (nI 0) fun x4 =>
  fN_judge_b16 1000 o0 v1 x4 h3
def fN_minds_b105 : Nat → Nat → Int32 → Int32 → Int32 → Int32 → Int32 → H2 → O2
  | 0 => fun _ _ _ _ _ _ _ => none
  | n + 1 => fun o0 v1 v2 v3 v4 v5 h =>
    if v4 ≤ v5 then (
      some ([Sum.inl (Value.int v4)], h))
    else
    mv_rI (fN_its o0 (v3 + v5) (nI 1) h) fun r2 h1 =>
    if r2 < 0 then (
      mv_bi (v5 + (nI 1)) fun x3 =>
      fN_minds_b105 n o0 v1 v2 v3 v4 x3 h1)
    else
    mv_gd (mv_inb ((((nI 40) * v1) + v2) + v5) 160) <|
    mv_rV (fN_isDeep o0 (v3 + v5) (rI2 h1 915 o0 ((((nI 40) * v1) + v2) + v5).toNatClampNeg) h1) fun h4 =>
    mv_bi (v5 + (nI 1)) fun x5 =>
    fN_minds_b105 n o0 v1 v2 v3 v4 x5 h4
def fN_minds (o0 : Nat) (v1 : Int32) (v2 : Int32) (v3 : Int32) (v4 : Int32) (h : H2) : O2 :=
  mv_rI (fN_isFour v1 h) fun r2 h1 =>
  if r2 = 0 then (
    some ([Sum.inl (Value.int (-(nI 1)))], h1))
  else
  mv_rI (fN_isCloth o0 v3 h1) fun r4 h3 =>
  if r4 = 0 then (
    some ([Sum.inl (Value.int (-(nI 1)))], h3))
  else
  mv_rI (fN_in v4.toInt64 (lN 0) (lN 8) h3) fun r6 h5 =>
  if r6 = 0 then (
    some ([Sum.inl (Value.int (-(nI 1)))], h5))
  else
  mv_gd (mv_inb (nI 6) 69) <|
  if (v3 + v4) ≤ (rI2 h5 902 o0 (nI 6).toNatClampNeg) then (
    mv_gd (mv_inb v1 4) <|
    if (rI2 h5 913 o0 v1.toNatClampNeg) = 0 then (
      mv_gd (mv_inb v1 4) <|
      mv_rI (fN_in v2.toInt64 (lN 0) ((rI2 h5 914 o0 v1.toNatClampNeg).toInt64) h5) fun r8 h7 =>
      if r8 = 0 then (
        some ([Sum.inl (Value.int (-(nI 12)))], h7))
      else
      mv_gd (mv_inb v1 4) <|
      if v4 ≤ ((rI2 h7 914 o0 v1.toNatClampNeg) - v2) then (
        mv_bi (nI 0) fun x9 =>
        fN_minds_b105 1000 o0 v1 v2 v3 v4 x9 h7)
      else
      some ([Sum.inl (Value.int (-(nI 12)))], h7))
    else
    mv_gd (mv_inb v1 4) <|
    if 0 ≤ (rI2 h5 913 o0 v1.toNatClampNeg) then (
      some ([Sum.inl (Value.int (-(nI 13)))], h5))
    else
    some ([Sum.inl (Value.int (-(nI 11)))], h5))
  else
  some ([Sum.inl (Value.int (-(nI 1)))], h5)
def fN_sheet_b69 : Nat → Nat → Int32 → Int32 → H2 → O2
  | 0 => fun _ _ _ _ => none
  | n + 1 => fun o0 v1 v4 h =>
    if (nI 40) ≤ v4 then (
      some ([Sum.inl (Value.int (nI 1))], h))
    else
    mv_gd (mv_inb (((nI 40) * v1) + v4) 160) <|
    mv_bh (wI2 h 915 o0 (((nI 40) * v1) + v4).toNatClampNeg (nI 0)) fun h1 =>
    mv_bi (v4 + (nI 1)) fun x2 =>
    fN_sheet_b69 n o0 v1 x2 h1
def fN_sheet_b44 (o0 : Nat) (v1 : Int32) (v2 : Int32) (v3 : Int32) (h : H2) : O2 :=
  mv_gd (mv_inb v1 4) <|
  mv_bh (wI2 h 913 o0 v1.toNatClampNeg v2) fun h1 =>
  if 0 ≤ v2 then (
    mv_gd (mv_inb v1 4) <|
    mv_bh (wI2 h1 914 o0 v1.toNatClampNeg v3) fun h2 =>
    mv_bi (nI 0) fun x3 =>
    fN_sheet_b69 1000 o0 v1 x3 h2)
  else
  mv_gd (mv_inb v1 4) <|
  mv_bh (wI2 h1 914 o0 v1.toNatClampNeg (nI 0)) fun h4 =>
  mv_bi (nI 0) fun x5 =>
  fN_sheet_b69 1000 o0 v1 x5 h4
def fN_sheet (o0 : Nat) (v1 : Int32) (v2 : Int32) (v3 : Int32) (h : H2) : O2 :=
  mv_rI (fN_isFour v1 h) fun r2 h1 =>
  if r2 = 0 then (
    some ([Sum.inl (Value.int (-(nI 1)))], h1))
  else
  mv_rI (fN_in v2.toInt64 (-(lN 1)) (lN 3) h1) fun r4 h3 =>
  if r4 = 0 then (
    some ([Sum.inl (Value.int (-(nI 1)))], h3))
  else
  if v2 < 0 then (
    if v2 < 0 then (
      fN_sheet_b44 o0 v1 v2 v3 h3)
    else
    if 0 ≤ v3 then (
      fN_sheet_b44 o0 v1 v2 v3 h3)
    else
    some ([Sum.inl (Value.int (-(nI 14)))], h3))
  else
  if v3 ≤ (nI 40) then (
    if v2 < 0 then (
      fN_sheet_b44 o0 v1 v2 v3 h3)
    else
    if 0 ≤ v3 then (
      fN_sheet_b44 o0 v1 v2 v3 h3)
    else
    some ([Sum.inl (Value.int (-(nI 14)))], h3))
  else
  some ([Sum.inl (Value.int (-(nI 1)))], h3)
def fN_narrowed (v0 : Int32) (v1 : Int32) (h : H2) : O2 :=
  if v0 = 0 then (
    some ([Sum.inl (Value.int v1.toInt8.toInt32)], h))
  else
  if v0 = (nI 1) then (
    some ([Sum.inl (Value.int v1.toInt16.toInt32)], h))
  else
  some ([Sum.inl (Value.int v1)], h)
def cN_narrowed : List mv_V → H2 → (List mv_V → H2 → O2) → O2 := fun as h k => match as with
  | [.inl (.int v0), .inl (.int v1)] => mv_rI (fN_narrowed v0 v1 h) fun x h => k [.inl (.int x)] h
  | _ => none
def fN_put (o0 : Nat) (v1 : Int32) (v2 : Int32) (v3 : Int32) (h : H2) : O2 :=
  mv_rI (fN_isFour v1 h) fun r2 h1 =>
  if r2 = 0 then (
    some ([Sum.inl (Value.int (-(nI 1)))], h1))
  else
  mv_gd (mv_inb v1 4) <|
  if 0 ≤ (rI2 h1 913 o0 v1.toNatClampNeg) then (
    mv_gd (mv_inb v1 4) <|
    mv_rI (fN_in v2.toInt64 (lN 0) (((rI2 h1 914 o0 v1.toNatClampNeg) - (nI 1)).toInt64) h1) fun r4 h3 =>
    if r4 = 0 then (
      some ([Sum.inl (Value.int (-(nI 12)))], h3))
    else
    mv_gd (mv_inb v1 4) <|
    mv_rI (fN_narrowed (rI2 h3 913 o0 v1.toNatClampNeg) v3 h3) fun r6 h5 =>
    mv_gd (mv_inb (((nI 40) * v1) + v2) 160) <|
    mv_bh (wI2 h5 915 o0 (((nI 40) * v1) + v2).toNatClampNeg r6) fun h7 =>
    some ([Sum.inl (Value.int (nI 1))], h7))
  else
  some ([Sum.inl (Value.int (-(nI 11)))], h1)
def fN_item_ (o0 : Nat) (v1 : Int32) (v2 : Int32) (v3 : Int32) (h : H2) : O2 :=
  mv_rI (fN_isFour v1 h) fun r2 h1 =>
  if r2 = 0 then (
    some ([Sum.inl (Value.int (-(nI 1)))], h1))
  else
  mv_rI (fN_in v2.toInt64 (lN 0) (lN 3) h1) fun r4 h3 =>
  if r4 = 0 then (
    some ([Sum.inl (Value.int (-(nI 1)))], h3))
  else
  mv_gd (mv_inb v1 4) <|
  if 0 ≤ (rI2 h3 913 o0 v1.toNatClampNeg) then (
    mv_gd (mv_inb v1 4) <|
    if (rI2 h3 913 o0 v1.toNatClampNeg) = v2 then (
      mv_gd (mv_inb v1 4) <|
      mv_rI (fN_in v3.toInt64 (lN 0) (((rI2 h3 914 o0 v1.toNatClampNeg) - (nI 1)).toInt64) h3) fun r6 h5 =>
      if r6 = 0 then (
        some ([Sum.inl (Value.int (-(nI 12)))], h5))
      else
      mv_gd (mv_inb (((nI 40) * v1) + v3) 160) <|
      some ([Sum.inl (Value.int (rI2 h5 915 o0 (((nI 40) * v1) + v3).toNatClampNeg))], h5))
    else
    some ([Sum.inl (Value.int (-(nI 13)))], h3))
  else
  some ([Sum.inl (Value.int (-(nI 11)))], h3)
def fN_shelf_b107 (o0 : Nat) (v1 : Int32) (v3 : Int32) (v5 : Int32) (os0 : Nat) (vs1 : Int32) (vs2 : Int32) (h : H2) : O2 :=
  mv_gd (mv_inb vs1 4) <|
  mv_bh (wI2 h 917 os0 vs1.toNatClampNeg vs2) fun h1 =>
  if v5 = 0 then (
    mv_gd (mv_inb v1 4) <|
    mv_bh (wI2 h1 918 o0 v1.toNatClampNeg (nI 0)) fun h2 =>
    some ([Sum.inl (Value.int (nI 1))], h2))
  else
  mv_gd (mv_inb v3 4) <|
  mv_gd (mv_inb v1 4) <|
  mv_bh (wI2 h1 918 o0 v1.toNatClampNeg (rI2 h1 914 o0 v3.toNatClampNeg)) fun h3 =>
  some ([Sum.inl (Value.int (nI 1))], h3)
def fN_shelf_b60 (o0 : Nat) (v1 : Int32) (v2 : Int32) (v3 : Int32) (vs0 : Int32) (h : H2) : O2 :=
  mv_bi vs0 fun x1 =>
  if x1 = 0 then (
    mv_gd (mv_inb v1 4) <|
    mv_bh (wI2 h 916 o0 v1.toNatClampNeg v2) fun h2 =>
    if x1 = 0 then (
      fN_shelf_b107 o0 v1 v3 x1 o0 v1 v3 h2)
    else
    mv_gd (mv_inb v3 4) <|
    fN_shelf_b107 o0 v1 v3 x1 o0 v1 (rI2 h2 913 o0 v3.toNatClampNeg) h2)
  else
  mv_gd (mv_inb v3 4) <|
  if 0 ≤ (rI2 h 913 o0 v3.toNatClampNeg) then (
    mv_gd (mv_inb v1 4) <|
    mv_bh (wI2 h 916 o0 v1.toNatClampNeg v2) fun h3 =>
    if x1 = 0 then (
      fN_shelf_b107 o0 v1 v3 x1 o0 v1 v3 h3)
    else
    mv_gd (mv_inb v3 4) <|
    fN_shelf_b107 o0 v1 v3 x1 o0 v1 (rI2 h3 913 o0 v3.toNatClampNeg) h3)
  else
  mv_gd (mv_inb v1 4) <|
  mv_bh (wI2 h 916 o0 v1.toNatClampNeg (nI 2)) fun h4 =>
  if x1 = 0 then (
    fN_shelf_b107 o0 v1 v3 x1 o0 v1 v3 h4)
  else
  mv_gd (mv_inb v3 4) <|
  fN_shelf_b107 o0 v1 v3 x1 o0 v1 (rI2 h4 913 o0 v3.toNatClampNeg) h4
def fN_shelf_b34 (o0 : Nat) (v1 : Int32) (v2 : Int32) (v3 : Int32) (vs0 : Int32) (h : H2) : O2 :=
  mv_bi vs0 fun x1 =>
  mv_rI (fN_isFour v1 h) fun r3 h2 =>
  if r3 = 0 then (
    some ([Sum.inl (Value.int (-(nI 1)))], h2))
  else
  if x1 = 0 then (
    some ([Sum.inl (Value.int (-(nI 1)))], h2))
  else
  if v2 = (nI 1) then (
    fN_shelf_b60 o0 v1 v2 v3 (nI 1) h2)
  else
  fN_shelf_b60 o0 v1 v2 v3 (nI 0) h2
def fN_shelf (o0 : Nat) (v1 : Int32) (v2 : Int32) (v3 : Int32) (h : H2) : O2 :=
  if v2 = 0 then (
    mv_rI (fN_isCloth o0 v3 h) fun r2 h1 =>
    fN_shelf_b34 o0 v1 v2 v3 r2 h1)
  else
  if v2 = (nI 1) then (
    mv_rI (fN_isFour v3 h) fun r4 h3 =>
    fN_shelf_b34 o0 v1 v2 v3 r4 h3)
  else
  if v2 = (nI 2) then (
    fN_shelf_b34 o0 v1 v2 v3 (nI 1) h)
  else
  fN_shelf_b34 o0 v1 v2 v3 (nI 0) h
def fN_isHeld (o0 : Nat) (v1 : Int32) (h : H2) : O2 :=
  mv_gd (mv_inb v1 4) <|
  if (rI2 h 916 o0 v1.toNatClampNeg) = 0 then (
    mv_gd (mv_inb v1 4) <|
    mv_rI (fN_isCloth o0 (rI2 h 917 o0 v1.toNatClampNeg) h) fun r2 h1 =>
    if r2 = 0 then (
      mv_gd (decide (nI 0 = nI 0) || decide (nI 0 = nI 1)) <| some ([Sum.inl (Value.int (nI 0))], h1))
    else
    mv_gd (decide (nI 1 = nI 0) || decide (nI 1 = nI 1)) <| some ([Sum.inl (Value.int (nI 1))], h1))
  else
  mv_gd (decide (nI 0 = nI 0) || decide (nI 0 = nI 1)) <| some ([Sum.inl (Value.int (nI 0))], h)
def cN_isHeld : List mv_V → H2 → (List mv_V → H2 → O2) → O2 := fun as h k => match as with
  | [.inr (t0, o0), .inl (.int v1)] => mv_gd (Nat.beq t0 8) <| mv_rI (fN_isHeld o0 v1 h) fun x h => k [.inl (.int x)] h
  | _ => none
def fN_taken_b30 (o0 : Nat) (v1 : Int32) (v2 : Int32) (h : H2) : O2 :=
  mv_gd (mv_inb v1 4) <|
  if (rI2 h 916 o0 v1.toNatClampNeg) = (nI 1) then (
    mv_gd (mv_inb v1 4) <|
    if (v2 - (nI 10)) = (rI2 h 917 o0 v1.toNatClampNeg) then (
      mv_gd (mv_inb v1 4) <|
      some ([Sum.inl (Value.int (rI2 h 918 o0 v1.toNatClampNeg))], h))
    else
    some ([Sum.inl (Value.int (-(nI 13)))], h))
  else
  mv_rI (fN_isHeld o0 v1 h) fun r2 h1 =>
  if r2 = 0 then (
    some ([Sum.inl (Value.int (-(nI 11)))], h1))
  else
  if (nI 10) ≤ v2 then (
    some ([Sum.inl (Value.int (-(nI 13)))], h1))
  else
  mv_gd (mv_inb v1 4) <|
  mv_rI (fN_its o0 (rI2 h1 917 o0 v1.toNatClampNeg) (nI 0) h1) fun r4 h3 =>
  mv_rI (fN_isUnder r4 v2 h3) fun r6 h5 =>
  if r6 = 0 then (
    some ([Sum.inl (Value.int (-(nI 13)))], h5))
  else
  mv_gd (mv_inb v1 4) <|
  some ([Sum.inl (Value.int (rI2 h5 917 o0 v1.toNatClampNeg))], h5)
def fN_taken (o0 : Nat) (v1 : Int32) (v2 : Int32) (h : H2) : O2 :=
  mv_rI (fN_isFour v1 h) fun r2 h1 =>
  if r2 = 0 then (
    some ([Sum.inl (Value.int (-(nI 1)))], h1))
  else
  mv_rI (fN_isKind v2 h1) fun r4 h3 =>
  if r4 = 0 then (
    mv_rI (fN_in v2.toInt64 (lN 10) (lN 13) h3) fun r6 h5 =>
    if r6 = 0 then (
      some ([Sum.inl (Value.int (-(nI 1)))], h5))
    else
    fN_taken_b30 o0 v1 v2 h5)
  else
  fN_taken_b30 o0 v1 v2 h3
def fN_runs (o0 : Nat) (v1 : Int32) (h : H2) : O2 :=
  if (nI 30) ≤ (rI2 h 8 o0 20) then (
    some ([], h))
  else
  mv_gd (mv_inb (rI2 h 8 o0 20) 30) <|
  mv_bh (wI2 h 919 o0 (rI2 h 8 o0 20).toNatClampNeg v1) fun h1 =>
  mv_bh (wI2 h1 8 o0 20 ((rI2 h1 8 o0 20) + (nI 1))) fun h2 =>
  some ([], h2)
def cN_runs : List mv_V → H2 → (List mv_V → H2 → O2) → O2 := fun as h k => match as with
  | [.inr (t0, o0), .inl (.int v1)] => mv_gd (Nat.beq t0 8) <| mv_rV (fN_runs o0 v1 h) fun h => k [] h
  | _ => none
def fN_plainRubs (o0 : Nat) (v1 : Int32) (h : H2) : O2 :=
  mv_rV (fN_runs o0 (nI 10) h) fun h1 =>
  some ([Sum.inl (Value.int ((v1 * (nI 5)) + (rI2 h1 8 o0 22)))], h1)
def cN_plainRubs : List mv_V → H2 → (List mv_V → H2 → O2) → O2 := fun as h k => match as with
  | [.inr (t0, o0), .inl (.int v1)] => mv_gd (Nat.beq t0 8) <| mv_rI (fN_plainRubs o0 v1 h) fun x h => k [.inl (.int x)] h
  | _ => none
def fN_linenRubs (o0 : Nat) (v1 : Int32) (h : H2) : O2 :=
  mv_rV (fN_runs o0 (nI 30) h) fun h1 =>
  mv_rI (fN_plainRubs o0 v1 h1) fun r3 h2 =>
  some ([Sum.inl (Value.int (r3 * (nI 2)))], h2)
def cN_linenRubs : List mv_V → H2 → (List mv_V → H2 → O2) → O2 := fun as h k => match as with
  | [.inr (t0, o0), .inl (.int v1)] => mv_gd (Nat.beq t0 8) <| mv_rI (fN_linenRubs o0 v1 h) fun x h => k [.inl (.int x)] h
  | _ => none
def fN_rubs (o0 : Nat) (v1 : Int32) (h : H2) : O2 :=
  if (rI2 h 8 o0 21) = nI 2 then (
    mv_rI (fN_linenRubs o0 v1 h) fun r2 h1 =>
    some ([Sum.inl (Value.int r2)], h1))
  else
  if (rI2 h 8 o0 21) = nI 3 then (
    mv_rV (fN_runs o0 (nI 51) h) fun h3 =>
    mv_rI (fN_plainRubs o0 v1 h3) fun r5 h4 =>
    some ([Sum.inl (Value.int (r5 - (nI 2)))], h4))
  else
  if (rI2 h 8 o0 21) = nI 4 then (
    mv_rV (fN_runs o0 (nI 40) h) fun h6 =>
    mv_rI (fN_linenRubs o0 v1 h6) fun r8 h7 =>
    some ([Sum.inl (Value.int ((nI 0) - r8))], h7))
  else
  mv_rI (fN_plainRubs o0 v1 h) fun r10 h9 =>
  some ([Sum.inl (Value.int r10)], h9)
def cN_rubs : List mv_V → H2 → (List mv_V → H2 → O2) → O2 := fun as h k => match as with
  | [.inr (t0, o0), .inl (.int v1)] => mv_gd (Nat.beq t0 8) <| mv_rI (fN_rubs o0 v1 h) fun x h => k [.inl (.int x)] h
  | _ => none
def fN_plainSteeps (o0 : Nat) (v1 : Int32) (h : H2) : O2 :=
  mv_rV (fN_runs o0 (nI 11) h) fun h1 =>
  mv_rI (fN_rubs o0 v1 h1) fun r3 h2 =>
  some ([Sum.inl (Value.int (r3 + ((rI2 h2 8 o0 23) * (nI 9))))], h2)
def cN_plainSteeps : List mv_V → H2 → (List mv_V → H2 → O2) → O2 := fun as h k => match as with
  | [.inr (t0, o0), .inl (.int v1)] => mv_gd (Nat.beq t0 8) <| mv_rI (fN_plainSteeps o0 v1 h) fun x h => k [.inl (.int x)] h
  | _ => none
def fN_steepsAct_b16 (o0 : Nat) (v1 : Int32) (h : H2) : O2 :=
  mv_rV (fN_runs o0 (nI 20) h) fun h1 =>
  mv_rI (fN_plainSteeps o0 v1 h1) fun r3 h2 =>
  some ([Sum.inl (Value.int (r3 - (nI 6)))], h2)
def fN_steepsAct (o0 : Nat) (v1 : Int32) (h : H2) : O2 :=
  if (rI2 h 8 o0 21) = (nI 1) then (
    fN_steepsAct_b16 o0 v1 h)
  else
  if (rI2 h 8 o0 21) = (nI 3) then (
    fN_steepsAct_b16 o0 v1 h)
  else
  if (rI2 h 8 o0 21) = (nI 4) then (
    mv_rV (fN_runs o0 (nI 41) h) fun h1 =>
    mv_rI (fN_plainSteeps o0 v1 h1) fun r3 h2 =>
    mv_bi r3 fun x4 =>
    mv_rI (fN_rubs o0 (rI2 h2 8 o0 23) h2) fun r6 h5 =>
    some ([Sum.inl (Value.int (x4 ^^^ r6))], h5))
  else
  mv_rI (fN_plainSteeps o0 v1 h) fun r8 h7 =>
  some ([Sum.inl (Value.int r8)], h7)
def cN_steepsAct : List mv_V → H2 → (List mv_V → H2 → O2) → O2 := fun as h k => match as with
  | [.inr (t0, o0), .inl (.int v1)] => mv_gd (Nat.beq t0 8) <| mv_rI (fN_steepsAct o0 v1 h) fun x h => k [.inl (.int x)] h
  | _ => none
def fN_plainParts_b30 (o0 : Nat) (v1 : Int32) (os0 : Nat) (vs1 : Int32) (h : H2) : O2 :=
  mv_gd (decide (vs1 = nI 0) || decide (vs1 = nI 1)) <|
  mv_bh (wI2 h 8 os0 24 vs1) fun h1 =>
  if (rI2 h1 8 o0 23) = (rI2 h1 8 o0 22) then (
    some ([Sum.inl (Value.int (nI 0))], h1))
  else
  if ((rI2 h1 8 o0 23) - (rI2 h1 8 o0 22)) = (-(nI 1)) then (
    some ([Sum.inl (Value.int (-v1))], h1))
  else
  mv_gd (!decide (((rI2 h1 8 o0 23) - (rI2 h1 8 o0 22)) = 0)) <|
  some ([Sum.inl (Value.int (v1 / ((rI2 h1 8 o0 23) - (rI2 h1 8 o0 22))))], h1)
def fN_plainParts (o0 : Nat) (v1 : Int32) (h : H2) : O2 :=
  mv_rV (fN_runs o0 (nI 12) h) fun h1 =>
  if (rI2 h1 8 o0 24) = 0 then (
    if (rI2 h1 8 o0 23) = (rI2 h1 8 o0 22) then (
      fN_plainParts_b30 o0 v1 o0 (nI 1) h1)
    else
    fN_plainParts_b30 o0 v1 o0 (nI 0) h1)
  else
  fN_plainParts_b30 o0 v1 o0 (nI 1) h1
def cN_plainParts : List mv_V → H2 → (List mv_V → H2 → O2) → O2 := fun as h k => match as with
  | [.inr (t0, o0), .inl (.int v1)] => mv_gd (Nat.beq t0 8) <| mv_rI (fN_plainParts o0 v1 h) fun x h => k [.inl (.int x)] h
  | _ => none
def fN_parts (o0 : Nat) (v1 : Int32) (h : H2) : O2 :=
  if (rI2 h 8 o0 21) = (nI 3) then (
    mv_rV (fN_runs o0 (nI 50) h) fun h1 =>
    mv_rI (fN_plainParts o0 (v1 + (nI 3)) h1) fun r3 h2 =>
    some ([Sum.inl (Value.int (r3 + (rI2 h2 8 o0 23)))], h2))
  else
  if (rI2 h 8 o0 21) = (nI 5) then (
    mv_rV (fN_runs o0 (nI 61) h) fun h4 =>
    mv_rI (fN_plainParts o0 v1 h4) fun r6 h5 =>
    mv_bi r6 fun x7 =>
    if (rI2 h5 8 o0 24) = 0 then (
      mv_rI (fN_rubs o0 (rI2 h5 8 o0 22) h5) fun r9 h8 =>
      some ([Sum.inl (Value.int (x7 - r9))], h8))
    else
    some ([Sum.inl (Value.int (nI 0))], h5))
  else
  mv_rI (fN_plainParts o0 v1 h) fun r11 h10 =>
  some ([Sum.inl (Value.int r11)], h10)
def cN_parts : List mv_V → H2 → (List mv_V → H2 → O2) → O2 := fun as h k => match as with
  | [.inr (t0, o0), .inl (.int v1)] => mv_gd (Nat.beq t0 8) <| mv_rI (fN_parts o0 v1 h) fun x h => k [.inl (.int x)] h
  | _ => none
def fN_plainDries (o0 : Nat) (v1 : Int32) (h : H2) : O2 :=
  mv_rV (fN_runs o0 (nI 13) h) fun h1 =>
  mv_rI (fN_steepsAct o0 v1 h1) fun r3 h2 =>
  some ([Sum.inl (Value.int (r3 ^^^ (nI 240)))], h2)
def cN_plainDries : List mv_V → H2 → (List mv_V → H2 → O2) → O2 := fun as h k => match as with
  | [.inr (t0, o0), .inl (.int v1)] => mv_gd (Nat.beq t0 8) <| mv_rI (fN_plainDries o0 v1 h) fun x h => k [.inl (.int x)] h
  | _ => none
def fN_driesAct_b16 (o0 : Nat) (v1 : Int32) (h : H2) : O2 :=
  mv_rV (fN_runs o0 (nI 31) h) fun h1 =>
  mv_rI (fN_plainDries o0 v1 h1) fun r3 h2 =>
  mv_bi r3 fun x4 =>
  mv_rI (fN_parts o0 (rI2 h2 8 o0 22) h2) fun r6 h5 =>
  some ([Sum.inl (Value.int (x4 + r6))], h5)
def fN_driesAct (o0 : Nat) (v1 : Int32) (h : H2) : O2 :=
  if (rI2 h 8 o0 21) = (nI 2) then (
    fN_driesAct_b16 o0 v1 h)
  else
  if (rI2 h 8 o0 21) = (nI 4) then (
    fN_driesAct_b16 o0 v1 h)
  else
  if (rI2 h 8 o0 21) = (nI 5) then (
    mv_rV (fN_runs o0 (nI 60) h) fun h1 =>
    mv_rI (fN_plainDries o0 v1 h1) fun r3 h2 =>
    some ([Sum.inl (Value.int (r3 * (nI 3)))], h2))
  else
  mv_rI (fN_plainDries o0 v1 h) fun r5 h4 =>
  some ([Sum.inl (Value.int r5)], h4)
def cN_driesAct : List mv_V → H2 → (List mv_V → H2 → O2) → O2 := fun as h k => match as with
  | [.inr (t0, o0), .inl (.int v1)] => mv_gd (Nat.beq t0 8) <| mv_rI (fN_driesAct o0 v1 h) fun x h => k [.inl (.int x)] h
  | _ => none
def fN_act (o0 : Nat) (v1 : Int32) (v2 : Int32) (v3 : Int32) (h : H2) : O2 :=
  mv_bh (wI2 h 8 o0 20 (nI 0)) fun h1 =>
  mv_rI (fN_isFour v1 h1) fun r3 h2 =>
  if r3 = 0 then (
    some ([Sum.inl (Value.int (nI 0))], h2))
  else
  mv_rI (fN_isFour v2 h2) fun r5 h4 =>
  if r5 = 0 then (
    some ([Sum.inl (Value.int (nI 0))], h4))
  else
  mv_rI (fN_isHeld o0 v1 h4) fun r7 h6 =>
  if r7 = 0 then (
    some ([Sum.inl (Value.int (nI 0))], h6))
  else
  mv_gd (mv_inb v1 4) <|
  mv_bh (wI2 h6 8 o0 22 (rI2 h6 917 o0 v1.toNatClampNeg)) fun h8 =>
  mv_rI (fN_its o0 (rI2 h8 8 o0 22) (nI 0) h8) fun r10 h9 =>
  mv_bh (wI2 h9 8 o0 21 r10) fun h11 =>
  mv_rI (fN_its o0 (rI2 h11 8 o0 22) (nI 1) h11) fun r13 h12 =>
  mv_bh (wI2 h12 8 o0 23 ((nI 1) + r13)) fun h14 =>
  mv_gd (decide (nI 0 = nI 0) || decide (nI 0 = nI 1)) <|
  mv_bh (wI2 h14 8 o0 24 (nI 0)) fun h15 =>
  if v2 = 0 then (
    mv_rI (fN_rubs o0 v3 h15) fun r17 h16 =>
    mv_bi r17 fun x18 =>
    if (rI2 h16 8 o0 24) = 0 then (
      some ([Sum.inl (Value.int x18)], h16))
    else
    some ([Sum.inl (Value.int (-(nI 15)))], h16))
  else
  if v2 = (nI 1) then (
    mv_rI (fN_steepsAct o0 v3 h15) fun r20 h19 =>
    mv_bi r20 fun x21 =>
    if (rI2 h19 8 o0 24) = 0 then (
      some ([Sum.inl (Value.int x21)], h19))
    else
    some ([Sum.inl (Value.int (-(nI 15)))], h19))
  else
  if v2 = (nI 2) then (
    mv_rI (fN_parts o0 v3 h15) fun r23 h22 =>
    mv_bi r23 fun x24 =>
    if (rI2 h22 8 o0 24) = 0 then (
      some ([Sum.inl (Value.int x24)], h22))
    else
    some ([Sum.inl (Value.int (-(nI 15)))], h22))
  else
  mv_rI (fN_driesAct o0 v3 h15) fun r26 h25 =>
  mv_bi r26 fun x27 =>
  if (rI2 h25 8 o0 24) = 0 then (
    some ([Sum.inl (Value.int x27)], h25))
  else
  some ([Sum.inl (Value.int (-(nI 15)))], h25)
def fN_trace (o0 : Nat) (v1 : Int32) (h : H2) : O2 :=
  mv_rI (fN_in v1.toInt64 (lN 0) (((rI2 h 8 o0 20) - (nI 1)).toInt64) h) fun r2 h1 =>
  if r2 = 0 then (
    some ([Sum.inl (Value.int (-(nI 3)))], h1))
  else
  mv_gd (mv_inb v1 30) <|
  some ([Sum.inl (Value.int (rI2 h1 919 o0 v1.toNatClampNeg))], h1)
def fN_purposesAbout_b15 (k4 : Nat → Int32 → Int32 → H2 → O2) : Nat → Nat → Int32 → Int32 → Int32 → Int32 → H2 → O2
  | 0 => fun _ _ _ _ _ _ => none
  | n + 1 => fun o0 v1 v2 v3 v4 h =>
    mv_gd (mv_inb (nI 6) 69) <|
    if (rI2 h 902 o0 (nI 6).toNatClampNeg) ≤ v4 then (
      if v3 = 0 then (
        mv_bi (v1 + (nI 0)) fun x1 =>
        mv_bi (v2 + (nI 1)) fun x2 =>
        k4 o0 x1 x2 h)
      else
      mv_bi (v1 + (nI 1)) fun x3 =>
      mv_bi (v2 + (nI 1)) fun x4 =>
      k4 o0 x3 x4 h)
    else
    if v3 = 0 then (
      mv_rI (fN_its o0 v4 (nI 1) h) fun r6 h5 =>
      if r6 = v2 then (
        mv_bi (nI 1) fun x7 =>
        mv_bi (v4 + (nI 1)) fun x8 =>
        fN_purposesAbout_b15 k4 n o0 v1 v2 x7 x8 h5)
      else
      mv_bi (nI 0) fun x9 =>
      mv_bi (v4 + (nI 1)) fun x10 =>
      fN_purposesAbout_b15 k4 n o0 v1 v2 x9 x10 h5)
    else
    mv_bi (nI 1) fun x11 =>
    mv_bi (v4 + (nI 1)) fun x12 =>
    fN_purposesAbout_b15 k4 n o0 v1 v2 x11 x12 h
def fN_purposesAbout_b4 : Nat → Nat → Int32 → Int32 → H2 → O2
  | 0 => fun _ _ _ _ => none
  | n + 1 => fun o0 v1 v2 h =>
    if (nI 10) ≤ v2 then (
      some ([Sum.inl (Value.int v1)], h))
    else
    mv_bi (nI 0) fun x1 =>
    mv_bi (nI 0) fun x2 =>
    fN_purposesAbout_b15 (fN_purposesAbout_b4 n) 1000 o0 v1 v2 x1 x2 h
def fN_purposesAbout (o0 : Nat) (h : H2) : O2 :=
  mv_bi (nI 0) fun x1 =>
  mv_bi (nI 0) fun x2 =>
  fN_purposesAbout_b4 1000 o0 x1 x2 h
def cN_purposesAbout : List mv_V → H2 → (List mv_V → H2 → O2) → O2 := fun as h k => match as with
  | [.inr (t0, o0)] => mv_gd (Nat.beq t0 8) <| mv_rI (fN_purposesAbout o0 h) fun x h => k [.inl (.int x)] h
  | _ => none
def fN_many (o0 : Nat) (v1 : Int32) (h : H2) : O2 :=
  if v1 = nI 0 then (
    mv_gd (mv_inb (nI 6) 69) <|
    some ([Sum.inl (Value.int (rI2 h 902 o0 (nI 6).toNatClampNeg))], h))
  else
  if v1 = nI 1 then (
    mv_rI (fN_hungSet o0 h) fun r2 h1 =>
    mv_rI (fN_ones r2 h1) fun r4 h3 =>
    some ([Sum.inl (Value.int r4)], h3))
  else
  if v1 = nI 2 then (
    mv_rI (fN_aboutSet o0 h) fun r6 h5 =>
    mv_rI (fN_ones r6 h5) fun r8 h7 =>
    some ([Sum.inl (Value.int r8)], h7))
  else
  if v1 = nI 3 then (
    mv_rI (fN_purposesAbout o0 h) fun r10 h9 =>
    some ([Sum.inl (Value.int r10)], h9))
  else
  if v1 = nI 4 then (
    some ([Sum.inl (Value.int (rI2 h 8 o0 12))], h))
  else
  if v1 = nI 5 then (
    some ([Sum.inl (Value.int (rI2 h 8 o0 7))], h))
  else
  if v1 = nI 6 then (
    some ([Sum.inl (Value.int (rI2 h 8 o0 20))], h))
  else
  some ([Sum.inl (Value.int (-(nI 1)))], h)
def fN_keep (o0 : Nat) (h : H2) : O2 :=
  mv_rV (fN_become_902_903 o0 o0 h) fun h1 =>
  mv_gd (decide (nI 1 = nI 0) || decide (nI 1 = nI 1)) <|
  mv_bh (wI2 h1 8 o0 5 (nI 1)) fun h2 =>
  some ([Sum.inl (Value.int (nI 1))], h2)
def fN_again (o0 : Nat) (h : H2) : O2 :=
  if (rI2 h 8 o0 5) = 0 then (
    some ([Sum.inl (Value.int (-(nI 3)))], h))
  else
  mv_rV (fN_become_903_902 o0 o0 h) fun h1 =>
  mv_gd (mv_inb (nI 6) 69) <|
  some ([Sum.inl (Value.int (rI2 h1 902 o0 (nI 6).toNatClampNeg))], h1)
end
section
def tA_forget : List mv_E := [(0, .aload_n 0, 1, [0]), (1, .iconst 0, 1, [0, 0]), (2, .putfield 15, 3, [0, 1, 0, 0, 1, 179]), (5, .return_, 1, [])]
def gA_forget : List (mv_C H2) := []
def tA_hold : List mv_E := [(0, .aload_n 0, 1, [0]), (1, .iload_n 1, 1, [1]), (2, .putfield 19, 3, [0, 2, 0, 0, 1, 181]), (5, .aload_n 0, 1, [0]), (6, .iload_n 2, 1, [2]), (7, .putfield 22, 3, [0, 3, 0, 0, 1, 182]), (10, .aload_n 0, 1, [0]), (11, .iload_n 3, 1, [3]), (12, .putfield 25, 3, [0, 4, 0, 0, 1, 183]), (15, .return_, 1, [])]
def gA_hold : List (mv_C H2) := []
def tA_note : List mv_E := [(0, .aload_n 0, 1, [0]), (1, .getfield 15, 3, [0, 1, 0, 0, 1, 179]), (4, .bipush 30, 2, [0, 30]), (6, .if_icmp .ge 20, 3, [26]), (9, .aload_n 0, 1, [0]), (10, .getfield 9, 3, [0, 0, 1, 0, 1, 177]), (13, .aload_n 0, 1, [0]), (14, .dup, 1, []), (15, .getfield 15, 3, [0, 1, 0, 0, 1, 179]), (18, .dup_x1, 1, []), (19, .iconst 1, 1, [0, 1]), (20, .iadd, 1, []), (21, .putfield 15, 3, [0, 1, 0, 0, 1, 179]), (24, .iload_n 1, 1, [1]), (25, .iastore, 1, []), (26, .return_, 1, [])]
def gA_note : List (mv_C H2) := []
def tA_parted : List mv_E := [(0, .iload_n 2, 1, [2]), (1, .ifCond .ne 10, 3, [11]), (4, .aload_n 0, 1, [0]), (5, .iconst 1, 1, [0, 1]), (6, .putfield 28, 3, [0, 5, 2, 0, 1, 184]), (9, .iconst 0, 1, [0, 0]), (10, .ireturn, 1, [0]), (11, .iload_n 1, 1, [1]), (12, .iload_n 2, 1, [2]), (13, .idiv, 1, []), (14, .ireturn, 1, [0])]
def gA_parted : List (mv_C H2) := []
def tA_own : List mv_E := [(0, .aload_n 0, 1, [0]), (1, .getstatic 36, 3, [13, 4, 133]), (4, .aload_n 0, 1, [0]), (5, .getfield 19, 3, [0, 2, 0, 0, 1, 181]), (8, .iconst 4, 1, [0, 4]), (9, .imul, 1, []), (10, .iload_n 1, 1, [1]), (11, .iadd, 1, []), (12, .iaload, 1, []), (13, .iload_n 2, 1, [2]), (14, .iload_n 3, 1, [3]), (15, .iconst 1, 1, [0, 1]), (16, .iadd, 1, []), (17, .invokevirtual 39, 3, [0, 0, 4, 0, 4, 135, 4, 137, 1, 7, 0, 22]), (20, .ireturn, 1, [0])]
def gA_own (bd : Nat → Int32 → Int32 → Int32 → H2 → O2) : List (mv_C H2) := [((0, 0), [], (cA_body bd))]
def tA_body : List mv_E := [(0, .aload_n 0, 1, [0]), (1, .getfield 28, 3, [0, 5, 2, 0, 1, 184]), (4, .ifCond .ne 9, 3, [13]), (7, .iload_n 3, 1, [3]), (8, .bipush 20, 2, [0, 20]), (10, .if_icmp .le 5, 3, [15]), (13, .iconst 0, 1, [0, 0]), (14, .ireturn, 1, [0]), (15, .aload_n 0, 1, [0]), (16, .iload_n 1, 1, [1]), (17, .invokevirtual 42, 3, [0, 0, 2, 0, 4, 139, 4, 141, 1, 7, 0, 23]), (20, .iload_n 1, 1, [1]), (21, .tableswitch 425 10 61 #[223, 232, 248, 263, 425, 425, 425, 425, 425, 425, 275, 425, 425, 425, 425, 425, 425, 425, 425, 425, 289, 302, 425, 425, 425, 425, 425, 425, 425, 425, 324, 337, 425, 425, 425, 425, 425, 425, 425, 425, 359, 377, 425, 425, 425, 425, 425, 425, 425, 425, 390, 403], 223, [10, 446, 244, 253, 269, 284, 446, 446, 446, 446, 446, 446, 296, 446, 446, 446, 446, 446, 446, 446, 446, 446, 310, 323, 446, 446, 446, 446, 446, 446, 446, 446, 345, 358, 446, 446, 446, 446, 446, 446, 446, 446, 380, 398, 446, 446, 446, 446, 446, 446, 446, 446, 411, 424]), (244, .iload_n 2, 1, [2]), (245, .iconst 5, 1, [0, 5]), (246, .imul, 1, []), (247, .aload_n 0, 1, [0]), (248, .getfield 22, 3, [0, 3, 0, 0, 1, 182]), (251, .iadd, 1, []), (252, .ireturn, 1, [0]), (253, .aload_n 0, 1, [0]), (254, .iconst 0, 1, [0, 0]), (255, .iload_n 2, 1, [2]), (256, .iload_n 3, 1, [3]), (257, .invokevirtual 32, 3, [0, 1, 4, 0, 4, 129, 4, 131, 1, 7, 0, 21]), (260, .aload_n 0, 1, [0]), (261, .getfield 25, 3, [0, 4, 0, 0, 1, 183]), (264, .bipush 9, 2, [0, 9]), (266, .imul, 1, []), (267, .iadd, 1, []), (268, .ireturn, 1, [0]), (269, .aload_n 0, 1, [0]), (270, .iload_n 2, 1, [2]), (271, .aload_n 0, 1, [0]), (272, .getfield 25, 3, [0, 4, 0, 0, 1, 183]), (275, .aload_n 0, 1, [0]), (276, .getfield 22, 3, [0, 3, 0, 0, 1, 182]), (279, .isub, 1, []), (280, .invokevirtual 46, 3, [0, 2, 3, 0, 4, 143, 4, 145, 1, 7, 0, 24]), (283, .ireturn, 1, [0]), (284, .aload_n 0, 1, [0]), (285, .iconst 1, 1, [0, 1]), (286, .iload_n 2, 1, [2]), (287, .iload_n 3, 1, [3]), (288, .invokevirtual 32, 3, [0, 1, 4, 0, 4, 129, 4, 131, 1, 7, 0, 21]), (291, .sipush 240, 3, [0, 240]), (294, .ixor, 1, []), (295, .ireturn, 1, [0]), (296, .aload_n 0, 1, [0]), (297, .bipush 11, 2, [0, 11]), (299, .iload_n 2, 1, [2]), (300, .iload_n 3, 1, [3]), (301, .iconst 1, 1, [0, 1]), (302, .iadd, 1, []), (303, .invokevirtual 39, 3, [0, 3, 4, 0, 4, 135, 4, 137, 1, 7, 0, 22]), (306, .bipush 6, 2, [0, 6]), (308, .isub, 1, []), (309, .ireturn, 1, [0]), (310, .aload_n 0, 1, [0]), (311, .bipush 10, 2, [0, 10]), (313, .iload_n 2, 1, [2]), (314, .iload_n 3, 1, [3]), (315, .iconst 1, 1, [0, 1]), (316, .iadd, 1, []), (317, .invokevirtual 39, 3, [0, 3, 4, 0, 4, 135, 4, 137, 1, 7, 0, 22]), (320, .iconst 2, 1, [0, 2]), (321, .imul, 1, []), (322, .ireturn, 1, [0]), (323, .aload_n 0, 1, [0]), (324, .bipush 13, 2, [0, 13]), (326, .iload_n 2, 1, [2]), (327, .iload_n 3, 1, [3]), (328, .iconst 1, 1, [0, 1]), (329, .iadd, 1, []), (330, .invokevirtual 39, 3, [0, 3, 4, 0, 4, 135, 4, 137, 1, 7, 0, 22]), (333, .aload_n 0, 1, [0]), (334, .iconst 2, 1, [0, 2]), (335, .aload_n 0, 1, [0]), (336, .getfield 22, 3, [0, 3, 0, 0, 1, 182]), (339, .iload_n 3, 1, [3]), (340, .invokevirtual 32, 3, [0, 1, 4, 0, 4, 129, 4, 131, 1, 7, 0, 21]), (343, .iadd, 1, []), (344, .ireturn, 1, [0]), (345, .iconst 0, 1, [0, 0]), (346, .aload_n 0, 1, [0]), (347, .bipush 30, 2, [0, 30]), (349, .iload_n 2, 1, [2]), (350, .iload_n 3, 1, [3]), (351, .iconst 1, 1, [0, 1]), (352, .iadd, 1, []), (353, .invokevirtual 39, 3, [0, 3, 4, 0, 4, 135, 4, 137, 1, 7, 0, 22]), (356, .isub, 1, []), (357, .ireturn, 1, [0]), (358, .aload_n 0, 1, [0]), (359, .bipush 11, 2, [0, 11]), (361, .iload_n 2, 1, [2]), (362, .iload_n 3, 1, [3]), (363, .iconst 1, 1, [0, 1]), (364, .iadd, 1, []), (365, .invokevirtual 39, 3, [0, 3, 4, 0, 4, 135, 4, 137, 1, 7, 0, 22]), (368, .aload_n 0, 1, [0]), (369, .iconst 0, 1, [0, 0]), (370, .aload_n 0, 1, [0]), (371, .getfield 25, 3, [0, 4, 0, 0, 1, 183]), (374, .iload_n 3, 1, [3]), (375, .invokevirtual 32, 3, [0, 1, 4, 0, 4, 129, 4, 131, 1, 7, 0, 21]), (378, .ixor, 1, []), (379, .ireturn, 1, [0]), (380, .aload_n 0, 1, [0]), (381, .bipush 12, 2, [0, 12]), (383, .iload_n 2, 1, [2]), (384, .iconst 3, 1, [0, 3]), (385, .iadd, 1, []), (386, .iload_n 3, 1, [3]), (387, .iconst 1, 1, [0, 1]), (388, .iadd, 1, []), (389, .invokevirtual 39, 3, [0, 3, 4, 0, 4, 135, 4, 137, 1, 7, 0, 22]), (392, .aload_n 0, 1, [0]), (393, .getfield 25, 3, [0, 4, 0, 0, 1, 183]), (396, .iadd, 1, []), (397, .ireturn, 1, [0]), (398, .aload_n 0, 1, [0]), (399, .bipush 10, 2, [0, 10]), (401, .iload_n 2, 1, [2]), (402, .iload_n 3, 1, [3]), (403, .iconst 1, 1, [0, 1]), (404, .iadd, 1, []), (405, .invokevirtual 39, 3, [0, 3, 4, 0, 4, 135, 4, 137, 1, 7, 0, 22]), (408, .iconst 2, 1, [0, 2]), (409, .isub, 1, []), (410, .ireturn, 1, [0]), (411, .aload_n 0, 1, [0]), (412, .bipush 13, 2, [0, 13]), (414, .iload_n 2, 1, [2]), (415, .iload_n 3, 1, [3]), (416, .iconst 1, 1, [0, 1]), (417, .iadd, 1, []), (418, .invokevirtual 39, 3, [0, 3, 4, 0, 4, 135, 4, 137, 1, 7, 0, 22]), (421, .iconst 3, 1, [0, 3]), (422, .imul, 1, []), (423, .ireturn, 1, [0]), (424, .aload_n 0, 1, [0]), (425, .bipush 12, 2, [0, 12]), (427, .iload_n 2, 1, [2]), (428, .iload_n 3, 1, [3]), (429, .iconst 1, 1, [0, 1]), (430, .iadd, 1, []), (431, .invokevirtual 39, 3, [0, 3, 4, 0, 4, 135, 4, 137, 1, 7, 0, 22]), (434, .aload_n 0, 1, [0]), (435, .iconst 0, 1, [0, 0]), (436, .aload_n 0, 1, [0]), (437, .getfield 22, 3, [0, 3, 0, 0, 1, 182]), (440, .iload_n 3, 1, [3]), (441, .invokevirtual 32, 3, [0, 1, 4, 0, 4, 129, 4, 131, 1, 7, 0, 21]), (444, .isub, 1, []), (445, .ireturn, 1, [0]), (446, .iconst 0, 1, [0, 0]), (447, .ireturn, 1, [0])]
def gA_body (bd : Nat → Int32 → Int32 → Int32 → H2 → O2) : List (mv_C H2) := [((0, 0), [], cA_note), ((0, 0), [], (cA_own bd)), ((0, 0), [], cA_parted), ((0, 0), [], (cA_body bd))]
def tA_perform : List mv_E := [(0, .aload_n 0, 1, [0]), (1, .iconst 0, 1, [0, 0]), (2, .putfield 28, 3, [0, 5, 2, 0, 1, 184]), (5, .aload_n 0, 1, [0]), (6, .iload_n 1, 1, [1]), (7, .iload_n 2, 1, [2]), (8, .iconst 0, 1, [0, 0]), (9, .invokevirtual 32, 3, [0, 0, 4, 0, 4, 129, 4, 131, 1, 7, 0, 21]), (12, .istore_n 3, 1, [3]), (13, .aload_n 0, 1, [0]), (14, .getfield 28, 3, [0, 5, 2, 0, 1, 184]), (17, .ifCond .eq 8, 3, [25]), (20, .bipush (-15), 2, [1, 15]), (22, .goto 4, 3, [26]), (25, .iload_n 3, 1, [3]), (26, .ireturn, 1, [0])]
def gA_perform : List (mv_C H2) := [((0, 0), [], (cA_own (fA_body 50)))]
def tC_choices : List mv_E := [(0, .lconst 1, 1, [0, 1]), (1, .lstore_n 2, 1, [2]), (2, .iconst 1, 1, [0, 1]), (3, .istore 4, 2, [4]), (5, .iload 4, 2, [4]), (7, .iload_n 1, 1, [1]), (8, .if_icmp .gt 23, 3, [31]), (11, .lload_n 2, 1, [2]), (12, .iload_n 0, 1, [0]), (13, .iload_n 1, 1, [1]), (14, .isub, 1, []), (15, .iload 4, 2, [4]), (17, .iadd, 1, []), (18, .i2l, 1, []), (19, .lmul, 1, []), (20, .iload 4, 2, [4]), (22, .i2l, 1, []), (23, .ldiv, 1, []), (24, .lstore_n 2, 1, [2]), (25, .iinc 4 1, 3, [4, 0, 1]), (28, .goto (-23), 3, [5]), (31, .lload_n 2, 1, [2]), (32, .lreturn, 1, [])]
def gC_choices : List (mv_C H2) := []
def tC_commonDivisor : List mv_E := [(0, .lload_n 0, 1, [0]), (1, .lstore 4, 2, [4]), (3, .lload_n 2, 1, [2]), (4, .lstore 6, 2, [6]), (6, .iconst 0, 1, [0, 0]), (7, .istore 8, 2, [8]), (9, .iload 8, 2, [8]), (11, .sipush 200, 3, [0, 200]), (14, .if_icmp .ge 31, 3, [45]), (17, .lload 6, 2, [6]), (19, .lconst 0, 1, [0, 0]), (20, .lcmp, 1, []), (21, .ifCond .eq 24, 3, [45]), (24, .lload 4, 2, [4]), (26, .lload 6, 2, [6]), (28, .lrem, 1, []), (29, .lstore 9, 2, [9]), (31, .lload 6, 2, [6]), (33, .lstore 4, 2, [4]), (35, .lload 9, 2, [9]), (37, .lstore 6, 2, [6]), (39, .iinc 8 1, 3, [8, 0, 1]), (42, .goto (-33), 3, [9]), (45, .lload 4, 2, [4]), (47, .lreturn, 1, [])]
def gC_commonDivisor : List (mv_C H2) := []
def tC_partOf : List mv_E := [(0, .lload_n 0, 1, [0]), (1, .lload_n 2, 1, [2]), (2, .invokestatic 19, 3, [0, 0, 2, 1, 3, 227, 3, 228, 1, 16]), (5, .lstore 5, 2, [5]), (7, .lload 5, 2, [5]), (9, .lconst 0, 1, [0, 0]), (10, .lcmp, 1, []), (11, .ifCond .ne 7, 3, [18]), (14, .iload 4, 2, [4]), (16, .i2l, 1, []), (17, .lreturn, 1, []), (18, .iload 4, 2, [4]), (20, .ifCond .ne 7, 3, [27]), (23, .lload_n 0, 1, [0]), (24, .goto 4, 3, [28]), (27, .lload_n 2, 1, [2]), (28, .lload 5, 2, [5]), (30, .ldiv, 1, []), (31, .lreturn, 1, [])]
def gC_partOf : List (mv_C H2) := [((0, 0), [], cC_commonDivisor)]
def tC_justSlip : List mv_E := [(0, .iload_n 0, 1, [0]), (1, .iload_n 1, 1, [1]), (2, .invokestatic 7, 3, [0, 0, 2, 1, 3, 220, 3, 221, 1, 16]), (5, .lstore 4, 2, [4]), (7, .lconst 1, 1, [0, 1]), (8, .lstore 6, 2, [6]), (10, .iconst 0, 1, [0, 0]), (11, .istore 8, 2, [8]), (13, .iload 8, 2, [8]), (15, .iload_n 0, 1, [0]), (16, .if_icmp .ge 38, 3, [54]), (19, .lload 4, 2, [4]), (21, .iload 8, 2, [8]), (23, .iload_n 1, 1, [1]), (24, .if_icmp .ge 8, 3, [32]), (27, .iload_n 2, 1, [2]), (28, .i2l, 1, []), (29, .goto 8, 3, [37]), (32, .bipush 100, 2, [0, 100]), (34, .iload_n 2, 1, [2]), (35, .isub, 1, []), (36, .i2l, 1, []), (37, .lmul, 1, []), (38, .lstore 4, 2, [4]), (40, .lload 6, 2, [6]), (42, .ldc2_w 13, 3, [0, 100, 3, 223]), (45, .lmul, 1, []), (46, .lstore 6, 2, [6]), (48, .iinc 8 1, 3, [8, 0, 1]), (51, .goto (-38), 3, [13]), (54, .lload 4, 2, [4]), (56, .lload 6, 2, [6]), (58, .iload_n 3, 1, [3]), (59, .invokestatic 15, 3, [0, 1, 3, 1, 3, 224, 3, 225, 1, 16]), (62, .lreturn, 1, [])]
def gC_justSlip : List (mv_C H2) := [((0, 0), [], cC_choices), ((0, 0), [], cC_partOf)]
def tM_copyFrom : List mv_E := [(0, .aload_n 1, 1, [1]), (1, .getfield 9, 3, [2, 0, 1, 0, 1, 36]), (4, .iconst 0, 1, [0, 0]), (5, .aload_n 0, 1, [0]), (6, .getfield 9, 3, [2, 0, 1, 0, 1, 36]), (9, .iconst 0, 1, [0, 0]), (10, .iconst 4, 1, [0, 4]), (11, .invokestatic 52, 3, [4, 2, 155, 2, 157, 2, 156, 1, 13]), (14, .aload_n 1, 1, [1]), (15, .getfield 15, 3, [2, 1, 1, 0, 1, 39]), (18, .iconst 0, 1, [0, 0]), (19, .aload_n 0, 1, [0]), (20, .getfield 15, 3, [2, 1, 1, 0, 1, 39]), (23, .iconst 0, 1, [0, 0]), (24, .bipush 8, 2, [0, 8]), (26, .invokestatic 52, 3, [4, 2, 155, 2, 157, 2, 156, 1, 13]), (29, .aload_n 1, 1, [1]), (30, .getfield 18, 3, [2, 2, 1, 0, 1, 42]), (33, .iconst 0, 1, [0, 0]), (34, .aload_n 0, 1, [0]), (35, .getfield 18, 3, [2, 2, 1, 0, 1, 42]), (38, .iconst 0, 1, [0, 0]), (39, .bipush 8, 2, [0, 8]), (41, .invokestatic 52, 3, [4, 2, 155, 2, 157, 2, 156, 1, 13]), (44, .aload_n 1, 1, [1]), (45, .getfield 21, 3, [2, 3, 1, 0, 1, 46]), (48, .iconst 0, 1, [0, 0]), (49, .aload_n 0, 1, [0]), (50, .getfield 21, 3, [2, 3, 1, 0, 1, 46]), (53, .iconst 0, 1, [0, 0]), (54, .bipush 6, 2, [0, 6]), (56, .invokestatic 52, 3, [4, 2, 155, 2, 157, 2, 156, 1, 13]), (59, .aload_n 1, 1, [1]), (60, .getfield 24, 3, [2, 4, 1, 0, 1, 50]), (63, .iconst 0, 1, [0, 0]), (64, .aload_n 0, 1, [0]), (65, .getfield 24, 3, [2, 4, 1, 0, 1, 50]), (68, .iconst 0, 1, [0, 0]), (69, .bipush 8, 2, [0, 8]), (71, .invokestatic 52, 3, [4, 2, 155, 2, 157, 2, 156, 1, 13]), (74, .aload_n 1, 1, [1]), (75, .getfield 27, 3, [2, 5, 1, 0, 1, 53]), (78, .iconst 0, 1, [0, 0]), (79, .aload_n 0, 1, [0]), (80, .getfield 27, 3, [2, 5, 1, 0, 1, 53]), (83, .iconst 0, 1, [0, 0]), (84, .bipush 8, 2, [0, 8]), (86, .invokestatic 52, 3, [4, 2, 155, 2, 157, 2, 156, 1, 13]), (89, .aload_n 1, 1, [1]), (90, .getfield 30, 3, [2, 6, 1, 0, 1, 57]), (93, .iconst 0, 1, [0, 0]), (94, .aload_n 0, 1, [0]), (95, .getfield 30, 3, [2, 6, 1, 0, 1, 57]), (98, .iconst 0, 1, [0, 0]), (99, .bipush 8, 2, [0, 8]), (101, .invokestatic 52, 3, [4, 2, 155, 2, 157, 2, 156, 1, 13]), (104, .aload_n 1, 1, [1]), (105, .getfield 33, 3, [2, 7, 1, 0, 1, 61]), (108, .iconst 0, 1, [0, 0]), (109, .aload_n 0, 1, [0]), (110, .getfield 33, 3, [2, 7, 1, 0, 1, 61]), (113, .iconst 0, 1, [0, 0]), (114, .bipush 8, 2, [0, 8]), (116, .invokestatic 52, 3, [4, 2, 155, 2, 157, 2, 156, 1, 13]), (119, .aload_n 1, 1, [1]), (120, .getfield 36, 3, [2, 8, 1, 0, 1, 65]), (123, .iconst 0, 1, [0, 0]), (124, .aload_n 0, 1, [0]), (125, .getfield 36, 3, [2, 8, 1, 0, 1, 65]), (128, .iconst 0, 1, [0, 0]), (129, .bipush 8, 2, [0, 8]), (131, .invokestatic 52, 3, [4, 2, 155, 2, 157, 2, 156, 1, 13]), (134, .aload_n 0, 1, [0]), (135, .aload_n 1, 1, [1]), (136, .getfield 46, 3, [2, 9, 0, 0, 1, 67]), (139, .putfield 46, 3, [2, 9, 0, 0, 1, 67]), (142, .aload_n 0, 1, [0]), (143, .aload_n 1, 1, [1]), (144, .getfield 49, 3, [2, 10, 0, 0, 1, 71]), (147, .putfield 49, 3, [2, 10, 0, 0, 1, 71]), (150, .aload_n 0, 1, [0]), (151, .aload_n 1, 1, [1]), (152, .getfield 39, 3, [2, 11, 0, 0, 1, 73]), (155, .putfield 39, 3, [2, 11, 0, 0, 1, 73]), (158, .return_, 1, [])]
def gM_copyFrom : List (mv_C H2) := []
def tM_vatOfToday : List mv_E := [(0, .aload_n 0, 1, [0]), (1, .getfield 21, 3, [2, 3, 1, 0, 1, 46]), (4, .aload_n 0, 1, [0]), (5, .getfield 49, 3, [2, 10, 0, 0, 1, 71]), (8, .bipush 6, 2, [0, 6]), (10, .irem, 1, []), (11, .iaload, 1, []), (12, .ireturn, 1, [0])]
def gM_vatOfToday : List (mv_C H2) := []
def tM_takes : List mv_E := [(0, .aload_n 0, 1, [0]), (1, .getfield 18, 3, [2, 2, 1, 0, 1, 42]), (4, .iload_n 2, 1, [2]), (5, .iaload, 1, []), (6, .aload_n 0, 1, [0]), (7, .getfield 9, 3, [2, 0, 1, 0, 1, 36]), (10, .iconst 0, 1, [0, 0]), (11, .iaload, 1, []), (12, .iadd, 1, []), (13, .istore_n 3, 1, [3]), (14, .aload_n 0, 1, [0]), (15, .getfield 24, 3, [2, 4, 1, 0, 1, 50]), (18, .iload_n 1, 1, [1]), (19, .iaload, 1, []), (20, .tableswitch 75 1 5 #[36, 40, 49, 55, 71], 36, [1, 95, 56, 60, 69, 75, 91]), (56, .iload_n 3, 1, [3]), (57, .iconst 3, 1, [0, 3]), (58, .iadd, 1, []), (59, .ireturn, 1, [0]), (60, .iload_n 3, 1, [3]), (61, .aload_n 0, 1, [0]), (62, .getfield 9, 3, [2, 0, 1, 0, 1, 36]), (65, .iconst 1, 1, [0, 1]), (66, .iaload, 1, []), (67, .isub, 1, []), (68, .ireturn, 1, [0]), (69, .iload_n 3, 1, [3]), (70, .iconst 3, 1, [0, 3]), (71, .iadd, 1, []), (72, .iconst 2, 1, [0, 2]), (73, .imul, 1, []), (74, .ireturn, 1, [0]), (75, .iload_n 3, 1, [3]), (76, .aload_n 0, 1, [0]), (77, .getfield 9, 3, [2, 0, 1, 0, 1, 36]), (80, .iconst 1, 1, [0, 1]), (81, .iaload, 1, []), (82, .isub, 1, []), (83, .aload_n 0, 1, [0]), (84, .getfield 9, 3, [2, 0, 1, 0, 1, 36]), (87, .iconst 2, 1, [0, 2]), (88, .iaload, 1, []), (89, .iadd, 1, []), (90, .ireturn, 1, [0]), (91, .iload_n 3, 1, [3]), (92, .iconst 2, 1, [0, 2]), (93, .idiv, 1, []), (94, .ireturn, 1, [0]), (95, .iload_n 3, 1, [3]), (96, .ireturn, 1, [0])]
def gM_takes : List (mv_C H2) := []
def tM_fights : List mv_E := [(0, .aload_n 0, 1, [0]), (1, .getfield 18, 3, [2, 2, 1, 0, 1, 42]), (4, .iload_n 2, 1, [2]), (5, .iaload, 1, []), (6, .istore_n 3, 1, [3]), (7, .aload_n 0, 1, [0]), (8, .getfield 24, 3, [2, 4, 1, 0, 1, 50]), (11, .iload_n 1, 1, [1]), (12, .iaload, 1, []), (13, .tableswitch 84 1 5 #[35, 44, 53, 69, 80], 35, [1, 97, 48, 57, 66, 82, 93]), (48, .iload_n 3, 1, [3]), (49, .aload_n 0, 1, [0]), (50, .getfield 9, 3, [2, 0, 1, 0, 1, 36]), (53, .iconst 2, 1, [0, 2]), (54, .iaload, 1, []), (55, .isub, 1, []), (56, .ireturn, 1, [0]), (57, .iload_n 3, 1, [3]), (58, .aload_n 0, 1, [0]), (59, .getfield 9, 3, [2, 0, 1, 0, 1, 36]), (62, .iconst 2, 1, [0, 2]), (63, .iaload, 1, []), (64, .iadd, 1, []), (65, .ireturn, 1, [0]), (66, .iload_n 3, 1, [3]), (67, .aload_n 0, 1, [0]), (68, .getfield 9, 3, [2, 0, 1, 0, 1, 36]), (71, .iconst 2, 1, [0, 2]), (72, .iaload, 1, []), (73, .isub, 1, []), (74, .aload_n 0, 1, [0]), (75, .getfield 9, 3, [2, 0, 1, 0, 1, 36]), (78, .iconst 0, 1, [0, 0]), (79, .iaload, 1, []), (80, .iadd, 1, []), (81, .ireturn, 1, [0]), (82, .iload_n 3, 1, [3]), (83, .aload_n 0, 1, [0]), (84, .getfield 9, 3, [2, 0, 1, 0, 1, 36]), (87, .iconst 2, 1, [0, 2]), (88, .iaload, 1, []), (89, .iadd, 1, []), (90, .iconst 2, 1, [0, 2]), (91, .imul, 1, []), (92, .ireturn, 1, [0]), (93, .iload_n 3, 1, [3]), (94, .iconst 1, 1, [0, 1]), (95, .iadd, 1, []), (96, .ireturn, 1, [0]), (97, .iload_n 3, 1, [3]), (98, .ireturn, 1, [0])]
def gM_fights : List (mv_C H2) := []
def tM_settle : List mv_E := [(0, .iload_n 2, 1, [2]), (1, .ifCond .gt 20, 3, [21]), (4, .aload_n 0, 1, [0]), (5, .getfield 30, 3, [2, 6, 1, 0, 1, 57]), (8, .iload_n 1, 1, [1]), (9, .iconst 0, 1, [0, 0]), (10, .iastore, 1, []), (11, .aload_n 0, 1, [0]), (12, .getfield 27, 3, [2, 5, 1, 0, 1, 53]), (15, .iload_n 1, 1, [1]), (16, .iconst (-1), 1, [1, 1]), (17, .iastore, 1, []), (18, .goto 21, 3, [39]), (21, .aload_n 0, 1, [0]), (22, .getfield 30, 3, [2, 6, 1, 0, 1, 57]), (25, .iload_n 1, 1, [1]), (26, .iload_n 2, 1, [2]), (27, .bipush 99, 2, [0, 99]), (29, .if_icmp .ge 7, 3, [36]), (32, .iload_n 2, 1, [2]), (33, .goto 5, 3, [38]), (36, .bipush 99, 2, [0, 99]), (38, .iastore, 1, []), (39, .return_, 1, [])]
def gM_settle : List (mv_C H2) := []
def tM_dipInto : List mv_E := [(0, .aload_n 0, 1, [0]), (1, .getfield 15, 3, [2, 1, 1, 0, 1, 39]), (4, .iload_n 2, 1, [2]), (5, .iaload, 1, []), (6, .istore_n 3, 1, [3]), (7, .aload_n 0, 1, [0]), (8, .getfield 27, 3, [2, 5, 1, 0, 1, 53]), (11, .iload_n 1, 1, [1]), (12, .iaload, 1, []), (13, .iconst (-1), 1, [1, 1]), (14, .if_icmp .eq 13, 3, [27]), (17, .aload_n 0, 1, [0]), (18, .getfield 27, 3, [2, 5, 1, 0, 1, 53]), (21, .iload_n 1, 1, [1]), (22, .iaload, 1, []), (23, .iload_n 3, 1, [3]), (24, .if_icmp .ne 28, 3, [52]), (27, .aload_n 0, 1, [0]), (28, .getfield 27, 3, [2, 5, 1, 0, 1, 53]), (31, .iload_n 1, 1, [1]), (32, .iload_n 3, 1, [3]), (33, .iastore, 1, []), (34, .aload_n 0, 1, [0]), (35, .getfield 30, 3, [2, 6, 1, 0, 1, 57]), (38, .iload_n 1, 1, [1]), (39, .iaload, 1, []), (40, .aload_n 0, 1, [0]), (41, .iload_n 1, 1, [1]), (42, .iload_n 2, 1, [2]), (43, .invokevirtual 62, 3, [0, 0, 3, 0, 3, 6, 2, 212, 1, 2, 2, 213]), (46, .iadd, 1, []), (47, .istore 4, 2, [4]), (49, .goto 35, 3, [84]), (52, .aload_n 0, 1, [0]), (53, .getfield 30, 3, [2, 6, 1, 0, 1, 57]), (56, .iload_n 1, 1, [1]), (57, .iaload, 1, []), (58, .aload_n 0, 1, [0]), (59, .iload_n 1, 1, [1]), (60, .iload_n 2, 1, [2]), (61, .invokevirtual 66, 3, [0, 1, 3, 0, 3, 7, 2, 216, 1, 2, 2, 217]), (64, .isub, 1, []), (65, .istore 4, 2, [4]), (67, .iload 4, 2, [4]), (69, .ifCond .ge 15, 3, [84]), (72, .aload_n 0, 1, [0]), (73, .getfield 27, 3, [2, 5, 1, 0, 1, 53]), (76, .iload_n 1, 1, [1]), (77, .iload_n 3, 1, [3]), (78, .iastore, 1, []), (79, .iload 4, 2, [4]), (81, .ineg, 1, []), (82, .istore 4, 2, [4]), (84, .aload_n 0, 1, [0]), (85, .iload_n 1, 1, [1]), (86, .iload 4, 2, [4]), (88, .invokevirtual 69, 3, [0, 2, 3, 0, 3, 8, 3, 9, 1, 2, 3, 10]), (91, .aload_n 0, 1, [0]), (92, .getfield 36, 3, [2, 8, 1, 0, 1, 65]), (95, .iload_n 1, 1, [1]), (96, .iaload, 1, []), (97, .sipush 9999, 3, [0, 9999]), (100, .if_icmp .ge 13, 3, [113]), (103, .aload_n 0, 1, [0]), (104, .getfield 36, 3, [2, 8, 1, 0, 1, 65]), (107, .iload_n 1, 1, [1]), (108, .dup2, 1, []), (109, .iaload, 1, []), (110, .iconst 1, 1, [0, 1]), (111, .iadd, 1, []), (112, .iastore, 1, []), (113, .aload_n 0, 1, [0]), (114, .getfield 18, 3, [2, 2, 1, 0, 1, 42]), (117, .iload_n 2, 1, [2]), (118, .iaload, 1, []), (119, .ifCond .le 13, 3, [132]), (122, .aload_n 0, 1, [0]), (123, .getfield 18, 3, [2, 2, 1, 0, 1, 42]), (126, .iload_n 2, 1, [2]), (127, .dup2, 1, []), (128, .iaload, 1, []), (129, .iconst 1, 1, [0, 1]), (130, .isub, 1, []), (131, .iastore, 1, []), (132, .return_, 1, [])]
def gM_dipInto : List (mv_C H2) := [((0, 0), [], cM_takes), ((0, 0), [], cM_fights), ((0, 0), [], cM_settle)]
def tM_fades : List mv_E := [(0, .aload_n 0, 1, [0]), (1, .getfield 9, 3, [2, 0, 1, 0, 1, 36]), (4, .iconst 1, 1, [0, 1]), (5, .iaload, 1, []), (6, .istore_n 2, 1, [2]), (7, .aload_n 0, 1, [0]), (8, .getfield 24, 3, [2, 4, 1, 0, 1, 50]), (11, .iload_n 1, 1, [1]), (12, .iaload, 1, []), (13, .tableswitch 55 1 5 #[35, 39, 43, 45, 51], 35, [1, 68, 48, 52, 56, 58, 64]), (48, .iload_n 2, 1, [2]), (49, .iconst 1, 1, [0, 1]), (50, .isub, 1, []), (51, .ireturn, 1, [0]), (52, .iload_n 2, 1, [2]), (53, .iconst 1, 1, [0, 1]), (54, .iadd, 1, []), (55, .ireturn, 1, [0]), (56, .iconst 0, 1, [0, 0]), (57, .ireturn, 1, [0]), (58, .iload_n 2, 1, [2]), (59, .iconst 1, 1, [0, 1]), (60, .iadd, 1, []), (61, .iconst 2, 1, [0, 2]), (62, .imul, 1, []), (63, .ireturn, 1, [0]), (64, .iload_n 2, 1, [2]), (65, .iconst 3, 1, [0, 3]), (66, .iadd, 1, []), (67, .ireturn, 1, [0]), (68, .iload_n 2, 1, [2]), (69, .ireturn, 1, [0])]
def gM_fades : List (mv_C H2) := []
def tM_deepen : List mv_E := [(0, .aload_n 0, 1, [0]), (1, .getfield 27, 3, [2, 5, 1, 0, 1, 53]), (4, .iload_n 1, 1, [1]), (5, .iaload, 1, []), (6, .iconst (-1), 1, [1, 1]), (7, .if_icmp .eq 9, 3, [16]), (10, .aload_n 0, 1, [0]), (11, .iload_n 1, 1, [1]), (12, .iload_n 2, 1, [2]), (13, .invokevirtual 69, 3, [0, 0, 3, 0, 3, 8, 3, 9, 1, 2, 3, 10]), (16, .return_, 1, [])]
def gM_deepen : List (mv_C H2) := [((0, 0), [], cM_settle)]
def tM_passDay : List mv_E := [(0, .aload_n 0, 1, [0]), (1, .invokevirtual 76, 3, [0, 0, 1, 0, 3, 24, 3, 25, 1, 2, 3, 26]), (4, .istore_n 1, 1, [1]), (5, .iconst 0, 1, [0, 0]), (6, .istore_n 2, 1, [2]), (7, .iload_n 2, 1, [2]), (8, .aload_n 0, 1, [0]), (9, .getfield 46, 3, [2, 9, 0, 0, 1, 67]), (12, .if_icmp .ge 29, 3, [41]), (15, .iload_n 1, 1, [1]), (16, .iconst (-1), 1, [1, 1]), (17, .if_icmp .eq 24, 3, [41]), (20, .aload_n 0, 1, [0]), (21, .getfield 33, 3, [2, 7, 1, 0, 1, 61]), (24, .iload_n 2, 1, [2]), (25, .iaload, 1, []), (26, .ifCond .ne 9, 3, [35]), (29, .aload_n 0, 1, [0]), (30, .iload_n 2, 1, [2]), (31, .iload_n 1, 1, [1]), (32, .invokevirtual 80, 3, [0, 1, 3, 0, 3, 28, 3, 3, 1, 2, 3, 4]), (35, .iinc 2 1, 3, [2, 0, 1]), (38, .goto (-31), 3, [7]), (41, .iconst 0, 1, [0, 0]), (42, .istore_n 2, 1, [2]), (43, .iload_n 2, 1, [2]), (44, .aload_n 0, 1, [0]), (45, .getfield 46, 3, [2, 9, 0, 0, 1, 67]), (48, .if_icmp .ge 36, 3, [84]), (51, .aload_n 0, 1, [0]), (52, .getfield 33, 3, [2, 7, 1, 0, 1, 61]), (55, .iload_n 2, 1, [2]), (56, .iaload, 1, []), (57, .iconst 1, 1, [0, 1]), (58, .if_icmp .ne 20, 3, [78]), (61, .aload_n 0, 1, [0]), (62, .iload_n 2, 1, [2]), (63, .aload_n 0, 1, [0]), (64, .getfield 30, 3, [2, 6, 1, 0, 1, 57]), (67, .iload_n 2, 1, [2]), (68, .iaload, 1, []), (69, .aload_n 0, 1, [0]), (70, .iload_n 2, 1, [2]), (71, .invokevirtual 83, 3, [0, 2, 2, 0, 3, 29, 2, 220, 1, 2, 2, 221]), (74, .isub, 1, []), (75, .invokevirtual 87, 3, [0, 3, 3, 0, 3, 30, 3, 31, 1, 2, 3, 32]), (78, .iinc 2 1, 3, [2, 0, 1]), (81, .goto (-38), 3, [43]), (84, .iconst 0, 1, [0, 0]), (85, .istore_n 2, 1, [2]), (86, .iload_n 2, 1, [2]), (87, .bipush 8, 2, [0, 8]), (89, .if_icmp .ge 30, 3, [119]), (92, .aload_n 0, 1, [0]), (93, .getfield 18, 3, [2, 2, 1, 0, 1, 42]), (96, .iload_n 2, 1, [2]), (97, .iaload, 1, []), (98, .bipush 9, 2, [0, 9]), (100, .if_icmp .ge 13, 3, [113]), (103, .aload_n 0, 1, [0]), (104, .getfield 18, 3, [2, 2, 1, 0, 1, 42]), (107, .iload_n 2, 1, [2]), (108, .dup2, 1, []), (109, .iaload, 1, []), (110, .iconst 1, 1, [0, 1]), (111, .iadd, 1, []), (112, .iastore, 1, []), (113, .iinc 2 1, 3, [2, 0, 1]), (116, .goto (-30), 3, [86]), (119, .aload_n 0, 1, [0]), (120, .dup, 1, []), (121, .getfield 49, 3, [2, 10, 0, 0, 1, 71]), (124, .iconst 1, 1, [0, 1]), (125, .iadd, 1, []), (126, .putfield 49, 3, [2, 10, 0, 0, 1, 71]), (129, .return_, 1, [])]
def gM_passDay : List (mv_C H2) := [((0, 0), [], cM_vatOfToday), ((0, 0), [], cM_dipInto), ((0, 0), [], cM_fades), ((0, 0), [], cM_deepen)]
def tM_passDays : List mv_E := [(0, .iconst 0, 1, [0, 0]), (1, .istore_n 2, 1, [2]), (2, .iload_n 2, 1, [2]), (3, .iload_n 1, 1, [1]), (4, .if_icmp .ge 13, 3, [17]), (7, .aload_n 0, 1, [0]), (8, .invokevirtual 73, 3, [0, 0, 1, 0, 3, 20, 3, 21, 1, 2, 3, 22]), (11, .iinc 2 1, 3, [2, 0, 1]), (14, .goto (-12), 3, [2]), (17, .return_, 1, [])]
def gM_passDays : List (mv_C H2) := [((0, 0), [], cM_passDay)]
def tF_behind : List mv_E := [(0, .aload_n 0, 1, [0]), (1, .getfield 12, 3, [1, 0, 1, 0, 1, 110]), (4, .aload_n 1, 1, [1]), (5, .invokevirtual 18, 3, [0, 0, 2, 0, 3, 67, 2, 152, 1, 2, 2, 153]), (8, .aload_n 0, 1, [0]), (9, .getfield 12, 3, [1, 0, 1, 0, 1, 110]), (12, .iload_n 2, 1, [2]), (13, .invokevirtual 22, 3, [0, 1, 2, 0, 3, 68, 3, 17, 1, 2, 3, 18]), (16, .aload_n 0, 1, [0]), (17, .getfield 12, 3, [1, 0, 1, 0, 1, 110]), (20, .areturn, 1, [])]
def gF_behind : List (mv_C H2) := [((0, 0), [], cM_copyFrom), ((0, 0), [], cM_passDays)]
def tM_allDepths : List mv_E := [(0, .iconst 0, 1, [0, 0]), (1, .istore_n 1, 1, [1]), (2, .iconst 0, 1, [0, 0]), (3, .istore_n 2, 1, [2]), (4, .iload_n 2, 1, [2]), (5, .aload_n 0, 1, [0]), (6, .getfield 46, 3, [2, 9, 0, 0, 1, 67]), (9, .if_icmp .ge 18, 3, [27]), (12, .iload_n 1, 1, [1]), (13, .aload_n 0, 1, [0]), (14, .getfield 30, 3, [2, 6, 1, 0, 1, 57]), (17, .iload_n 2, 1, [2]), (18, .iaload, 1, []), (19, .iadd, 1, []), (20, .istore_n 1, 1, [1]), (21, .iinc 2 1, 3, [2, 0, 1]), (24, .goto (-20), 3, [4]), (27, .iload_n 1, 1, [1]), (28, .ireturn, 1, [0])]
def gM_allDepths : List (mv_C H2) := []
def tM_draw : List mv_E := [(0, .aload_n 0, 1, [0]), (1, .aload_n 0, 1, [0]), (2, .getfield 39, 3, [2, 11, 0, 0, 1, 73]), (5, .ldc 90, 2, [0, 0, 1103515245, 3, 54]), (7, .imul, 1, []), (8, .sipush 12345, 3, [0, 12345]), (11, .iadd, 1, []), (12, .putfield 39, 3, [2, 11, 0, 0, 1, 73]), (15, .aload_n 0, 1, [0]), (16, .getfield 39, 3, [2, 11, 0, 0, 1, 73]), (19, .bipush 16, 2, [0, 16]), (21, .iushr, 1, []), (22, .ireturn, 1, [0])]
def gM_draw : List (mv_C H2) := []
def tM_passDrawnDay : List mv_E := [(0, .aload_n 0, 1, [0]), (1, .getfield 46, 3, [2, 9, 0, 0, 1, 67]), (4, .ifCond .le 41, 3, [45]), (7, .aload_n 0, 1, [0]), (8, .invokevirtual 91, 3, [0, 0, 1, 0, 3, 50, 3, 51, 1, 2, 3, 52]), (11, .aload_n 0, 1, [0]), (12, .getfield 46, 3, [2, 9, 0, 0, 1, 67]), (15, .irem, 1, []), (16, .istore_n 1, 1, [1]), (17, .aload_n 0, 1, [0]), (18, .invokevirtual 91, 3, [0, 0, 1, 0, 3, 50, 3, 51, 1, 2, 3, 52]), (21, .bipush 100, 2, [0, 100]), (23, .irem, 1, []), (24, .aload_n 0, 1, [0]), (25, .getfield 9, 3, [2, 0, 1, 0, 1, 36]), (28, .iconst 3, 1, [0, 3]), (29, .iaload, 1, []), (30, .if_icmp .ge 15, 3, [45]), (33, .aload_n 0, 1, [0]), (34, .iload_n 1, 1, [1]), (35, .aload_n 0, 1, [0]), (36, .invokevirtual 91, 3, [0, 0, 1, 0, 3, 50, 3, 51, 1, 2, 3, 52]), (39, .bipush 8, 2, [0, 8]), (41, .irem, 1, []), (42, .invokevirtual 80, 3, [0, 1, 3, 0, 3, 28, 3, 3, 1, 2, 3, 4]), (45, .aload_n 0, 1, [0]), (46, .invokevirtual 73, 3, [0, 2, 1, 0, 3, 20, 3, 21, 1, 2, 3, 22]), (49, .return_, 1, [])]
def gM_passDrawnDay : List (mv_C H2) := [((0, 0), [], cM_draw), ((0, 0), [], cM_dipInto), ((0, 0), [], cM_passDay)]
def tF_luckyDays : List mv_E := [(0, .aload_n 0, 1, [0]), (1, .aload_n 1, 1, [1]), (2, .iconst 1, 1, [0, 1]), (3, .invokevirtual 26, 3, [0, 0, 3, 0, 3, 63, 3, 64, 1, 3, 3, 65]), (6, .invokevirtual 30, 3, [0, 1, 1, 0, 3, 69, 3, 35, 1, 2, 3, 36]), (9, .istore_n 3, 1, [3]), (10, .aload_n 1, 1, [1]), (11, .getfield 34, 3, [2, 11, 0, 0, 1, 74]), (14, .istore 4, 2, [4]), (16, .iconst 0, 1, [0, 0]), (17, .istore 5, 2, [5]), (19, .iconst 0, 1, [0, 0]), (20, .istore 6, 2, [6]), (22, .iload 6, 2, [6]), (24, .iload_n 2, 1, [2]), (25, .if_icmp .ge 56, 3, [81]), (28, .aload_n 0, 1, [0]), (29, .getfield 12, 3, [1, 0, 1, 0, 1, 110]), (32, .aload_n 1, 1, [1]), (33, .invokevirtual 18, 3, [0, 2, 2, 0, 3, 67, 2, 152, 1, 2, 2, 153]), (36, .aload_n 0, 1, [0]), (37, .getfield 12, 3, [1, 0, 1, 0, 1, 110]), (40, .iload 4, 2, [4]), (42, .putfield 34, 3, [2, 11, 0, 0, 1, 74]), (45, .aload_n 0, 1, [0]), (46, .getfield 12, 3, [1, 0, 1, 0, 1, 110]), (49, .invokevirtual 38, 3, [0, 3, 1, 0, 3, 70, 3, 47, 1, 2, 3, 48]), (52, .aload_n 0, 1, [0]), (53, .getfield 12, 3, [1, 0, 1, 0, 1, 110]), (56, .getfield 34, 3, [2, 11, 0, 0, 1, 74]), (59, .istore 4, 2, [4]), (61, .aload_n 0, 1, [0]), (62, .getfield 12, 3, [1, 0, 1, 0, 1, 110]), (65, .invokevirtual 30, 3, [0, 1, 1, 0, 3, 69, 3, 35, 1, 2, 3, 36]), (68, .iload_n 3, 1, [3]), (69, .if_icmp .le 6, 3, [75]), (72, .iinc 5 1, 3, [5, 0, 1]), (75, .iinc 6 1, 3, [6, 0, 1]), (78, .goto (-56), 3, [22]), (81, .iload 5, 2, [5]), (83, .ireturn, 1, [0])]
def gF_luckyDays : List (mv_C H2) := [((0, 0), [], cF_behind), ((0, 0), [], cM_allDepths), ((0, 0), [], cM_copyFrom), ((0, 0), [], cM_passDrawnDay)]
def tF_daysUntilAbout : List mv_E := [(0, .aload_n 0, 1, [0]), (1, .getfield 12, 3, [1, 0, 1, 0, 1, 110]), (4, .aload_n 1, 1, [1]), (5, .invokevirtual 18, 3, [0, 0, 2, 0, 3, 67, 2, 152, 1, 2, 2, 153]), (8, .iconst 0, 1, [0, 0]), (9, .istore 4, 2, [4]), (11, .iload 4, 2, [4]), (13, .bipush 60, 2, [0, 60]), (15, .if_icmp .gt 32, 3, [47]), (18, .aload_n 0, 1, [0]), (19, .getfield 12, 3, [1, 0, 1, 0, 1, 110]), (22, .getfield 41, 3, [2, 5, 1, 0, 1, 54]), (25, .iload_n 2, 1, [2]), (26, .iaload, 1, []), (27, .iload_n 3, 1, [3]), (28, .if_icmp .ne 6, 3, [34]), (31, .iload 4, 2, [4]), (33, .ireturn, 1, [0]), (34, .aload_n 0, 1, [0]), (35, .getfield 12, 3, [1, 0, 1, 0, 1, 110]), (38, .invokevirtual 45, 3, [0, 1, 1, 0, 3, 112, 3, 21, 1, 2, 3, 22]), (41, .iinc 4 1, 3, [4, 0, 1]), (44, .goto (-33), 3, [11]), (47, .bipush (-3), 2, [1, 3]), (49, .ireturn, 1, [0])]
def gF_daysUntilAbout : List (mv_C H2) := [((0, 0), [], cM_copyFrom), ((0, 0), [], cM_passDay)]
def tF_spoiltFromHere : List mv_E := [(0, .aload_n 0, 1, [0]), (1, .getfield 12, 3, [1, 0, 1, 0, 1, 110]), (4, .iload_n 2, 1, [2]), (5, .invokevirtual 22, 3, [0, 0, 2, 0, 3, 68, 3, 17, 1, 2, 3, 18]), (8, .iconst 0, 1, [0, 0]), (9, .istore_n 3, 1, [3]), (10, .iconst 0, 1, [0, 0]), (11, .istore 4, 2, [4]), (13, .iload 4, 2, [4]), (15, .aload_n 1, 1, [1]), (16, .getfield 52, 3, [2, 9, 0, 0, 1, 69]), (19, .if_icmp .ge 32, 3, [51]), (22, .aload_n 0, 1, [0]), (23, .getfield 12, 3, [1, 0, 1, 0, 1, 110]), (26, .getfield 41, 3, [2, 5, 1, 0, 1, 54]), (29, .iload 4, 2, [4]), (31, .iaload, 1, []), (32, .aload_n 1, 1, [1]), (33, .getfield 41, 3, [2, 5, 1, 0, 1, 54]), (36, .iload 4, 2, [4]), (38, .iaload, 1, []), (39, .if_icmp .eq 6, 3, [45]), (42, .iinc 3 1, 3, [3, 0, 1]), (45, .iinc 4 1, 3, [4, 0, 1]), (48, .goto (-35), 3, [13]), (51, .iload_n 3, 1, [3]), (52, .ireturn, 1, [0])]
def gF_spoiltFromHere : List (mv_C H2) := [((0, 0), [], cM_passDays)]
def tF_spoiltBehind : List mv_E := [(0, .aload_n 0, 1, [0]), (1, .getfield 12, 3, [1, 0, 1, 0, 1, 110]), (4, .aload_n 1, 1, [1]), (5, .invokevirtual 18, 3, [0, 0, 2, 0, 3, 67, 2, 152, 1, 2, 2, 153]), (8, .aload_n 0, 1, [0]), (9, .aload_n 1, 1, [1]), (10, .iload_n 2, 1, [2]), (11, .invokevirtual 48, 3, [0, 1, 3, 0, 3, 125, 3, 127, 1, 3, 0, 16]), (14, .ireturn, 1, [0])]
def gF_spoiltBehind : List (mv_C H2) := [((0, 0), [], cM_copyFrom), ((0, 0), [], cF_spoiltFromHere)]
def tF_leadsTo : List mv_E := [(0, .aload_n 1, 1, [1]), (1, .getfield 59, 3, [2, 2, 1, 0, 1, 44]), (4, .iconst 0, 1, [0, 0]), (5, .aload_n 0, 1, [0]), (6, .getfield 12, 3, [1, 0, 1, 0, 1, 110]), (9, .getfield 59, 3, [2, 2, 1, 0, 1, 44]), (12, .iconst 0, 1, [0, 0]), (13, .bipush 8, 2, [0, 8]), (15, .invokestatic 62, 3, [4, 3, 141, 2, 157, 2, 156, 1, 13]), (18, .aload_n 0, 1, [0]), (19, .getfield 12, 3, [1, 0, 1, 0, 1, 110]), (22, .getfield 41, 3, [2, 5, 1, 0, 1, 54]), (25, .iload_n 2, 1, [2]), (26, .aload_n 1, 1, [1]), (27, .getfield 41, 3, [2, 5, 1, 0, 1, 54]), (30, .iload_n 2, 1, [2]), (31, .iaload, 1, []), (32, .iastore, 1, []), (33, .aload_n 0, 1, [0]), (34, .getfield 12, 3, [1, 0, 1, 0, 1, 110]), (37, .getfield 68, 3, [2, 6, 1, 0, 1, 59]), (40, .iload_n 2, 1, [2]), (41, .aload_n 1, 1, [1]), (42, .getfield 68, 3, [2, 6, 1, 0, 1, 59]), (45, .iload_n 2, 1, [2]), (46, .iaload, 1, []), (47, .iastore, 1, []), (48, .iload 4, 2, [4]), (50, .iconst 1, 1, [0, 1]), (51, .isub, 1, []), (52, .istore 6, 2, [6]), (54, .iload 6, 2, [6]), (56, .ifCond .lt 27, 3, [83]), (59, .aload_n 0, 1, [0]), (60, .getfield 12, 3, [1, 0, 1, 0, 1, 110]), (63, .iload_n 2, 1, [2]), (64, .iload 5, 2, [5]), (66, .iconst 3, 1, [0, 3]), (67, .iload 6, 2, [6]), (69, .imul, 1, []), (70, .ishr, 1, []), (71, .bipush 7, 2, [0, 7]), (73, .iand, 1, []), (74, .invokevirtual 71, 3, [0, 0, 3, 0, 3, 142, 3, 3, 1, 2, 3, 4]), (77, .iinc 6 (-1), 3, [6, 1, 1]), (80, .goto (-26), 3, [54]), (83, .aload_n 0, 1, [0]), (84, .getfield 12, 3, [1, 0, 1, 0, 1, 110]), (87, .getfield 41, 3, [2, 5, 1, 0, 1, 54]), (90, .iload_n 2, 1, [2]), (91, .iaload, 1, []), (92, .iload_n 3, 1, [3]), (93, .if_icmp .ne 7, 3, [100]), (96, .iconst 1, 1, [0, 1]), (97, .goto 4, 3, [101]), (100, .iconst 0, 1, [0, 0]), (101, .ireturn, 1, [1])]
def gF_leadsTo : List (mv_C H2) := [((0, 0), [], cM_dipInto)]
def tF_vatsThrough : List mv_E := [(0, .aload_n 0, 1, [0]), (1, .getfield 12, 3, [1, 0, 1, 0, 1, 110]), (4, .aload_n 1, 1, [1]), (5, .invokevirtual 18, 3, [0, 0, 2, 0, 3, 67, 2, 152, 1, 2, 2, 153]), (8, .iconst 1, 1, [0, 1]), (9, .istore 4, 2, [4]), (11, .iconst 0, 1, [0, 0]), (12, .istore 5, 2, [5]), (14, .iload 5, 2, [5]), (16, .iconst 3, 1, [0, 3]), (17, .if_icmp .gt 52, 3, [69]), (20, .iconst 0, 1, [0, 0]), (21, .istore 6, 2, [6]), (23, .iload 6, 2, [6]), (25, .iload 4, 2, [4]), (27, .if_icmp .ge 29, 3, [56]), (30, .aload_n 0, 1, [0]), (31, .aload_n 1, 1, [1]), (32, .iload_n 2, 1, [2]), (33, .iload_n 3, 1, [3]), (34, .iload 5, 2, [5]), (36, .iload 6, 2, [6]), (38, .invokevirtual 55, 3, [0, 1, 6, 0, 3, 137, 3, 139, 1, 3, 0, 17]), (41, .ifCond .eq 9, 3, [50]), (44, .iload 4, 2, [4]), (46, .iload 6, 2, [6]), (48, .iadd, 1, []), (49, .ireturn, 1, [0]), (50, .iinc 6 1, 3, [6, 0, 1]), (53, .goto (-30), 3, [23]), (56, .iload 4, 2, [4]), (58, .bipush 8, 2, [0, 8]), (60, .imul, 1, []), (61, .istore 4, 2, [4]), (63, .iinc 5 1, 3, [5, 0, 1]), (66, .goto (-52), 3, [14]), (69, .bipush (-3), 2, [1, 3]), (71, .ireturn, 1, [0])]
def gF_vatsThrough : List (mv_C H2) := [((0, 0), [], cM_copyFrom), ((0, 0), [], cF_leadsTo)]
def tF_deepestVat : List mv_E := [(0, .iconst 0, 1, [0, 0]), (1, .istore 4, 2, [4]), (3, .iconst (-1), 1, [1, 1]), (4, .istore 5, 2, [5]), (6, .iconst 0, 1, [0, 0]), (7, .istore 6, 2, [6]), (9, .iload 6, 2, [6]), (11, .bipush 8, 2, [0, 8]), (13, .if_icmp .ge 60, 3, [73]), (16, .aload_n 0, 1, [0]), (17, .getfield 12, 3, [1, 0, 1, 0, 1, 110]), (20, .aload_n 1, 1, [1]), (21, .invokevirtual 18, 3, [0, 0, 2, 0, 3, 67, 2, 152, 1, 2, 2, 153]), (24, .aload_n 0, 1, [0]), (25, .getfield 12, 3, [1, 0, 1, 0, 1, 110]), (28, .getfield 75, 3, [2, 3, 1, 0, 1, 48]), (31, .iload_n 2, 1, [2]), (32, .iload 6, 2, [6]), (34, .iastore, 1, []), (35, .aload_n 0, 1, [0]), (36, .getfield 12, 3, [1, 0, 1, 0, 1, 110]), (39, .iload_n 3, 1, [3]), (40, .invokevirtual 22, 3, [0, 1, 2, 0, 3, 68, 3, 17, 1, 2, 3, 18]), (43, .aload_n 0, 1, [0]), (44, .getfield 12, 3, [1, 0, 1, 0, 1, 110]), (47, .invokevirtual 30, 3, [0, 2, 1, 0, 3, 69, 3, 35, 1, 2, 3, 36]), (50, .istore 7, 2, [7]), (52, .iload 7, 2, [7]), (54, .iload 5, 2, [5]), (56, .if_icmp .le 11, 3, [67]), (59, .iload 7, 2, [7]), (61, .istore 5, 2, [5]), (63, .iload 6, 2, [6]), (65, .istore 4, 2, [4]), (67, .iinc 6 1, 3, [6, 0, 1]), (70, .goto (-61), 3, [9]), (73, .iload 4, 2, [4]), (75, .ireturn, 1, [0])]
def gF_deepestVat : List (mv_C H2) := [((0, 0), [], cM_copyFrom), ((0, 0), [], cM_passDays), ((0, 0), [], cM_allDepths)]
def tF_deepestKind : List mv_E := [(0, .iconst 0, 1, [0, 0]), (1, .istore 4, 2, [4]), (3, .iconst (-1), 1, [1, 1]), (4, .istore 5, 2, [5]), (6, .iconst 0, 1, [0, 0]), (7, .istore 6, 2, [6]), (9, .iload 6, 2, [6]), (11, .bipush 6, 2, [0, 6]), (13, .if_icmp .ge 65, 3, [78]), (16, .aload_n 0, 1, [0]), (17, .getfield 12, 3, [1, 0, 1, 0, 1, 110]), (20, .aload_n 1, 1, [1]), (21, .invokevirtual 18, 3, [0, 0, 2, 0, 3, 67, 2, 152, 1, 2, 2, 153]), (24, .aload_n 0, 1, [0]), (25, .getfield 12, 3, [1, 0, 1, 0, 1, 110]), (28, .getfield 78, 3, [2, 4, 1, 0, 1, 51]), (31, .iload_n 2, 1, [2]), (32, .iload 6, 2, [6]), (34, .iastore, 1, []), (35, .aload_n 0, 1, [0]), (36, .getfield 12, 3, [1, 0, 1, 0, 1, 110]), (39, .iload_n 3, 1, [3]), (40, .invokevirtual 22, 3, [0, 1, 2, 0, 3, 68, 3, 17, 1, 2, 3, 18]), (43, .aload_n 0, 1, [0]), (44, .getfield 12, 3, [1, 0, 1, 0, 1, 110]), (47, .getfield 68, 3, [2, 6, 1, 0, 1, 59]), (50, .iload_n 2, 1, [2]), (51, .iaload, 1, []), (52, .iload 5, 2, [5]), (54, .if_icmp .le 18, 3, [72]), (57, .aload_n 0, 1, [0]), (58, .getfield 12, 3, [1, 0, 1, 0, 1, 110]), (61, .getfield 68, 3, [2, 6, 1, 0, 1, 59]), (64, .iload_n 2, 1, [2]), (65, .iaload, 1, []), (66, .istore 5, 2, [5]), (68, .iload 6, 2, [6]), (70, .istore 4, 2, [4]), (72, .iinc 6 1, 3, [6, 0, 1]), (75, .goto (-66), 3, [9]), (78, .iload 4, 2, [4]), (80, .ireturn, 1, [0])]
def gF_deepestKind : List (mv_C H2) := [((0, 0), [], cM_copyFrom), ((0, 0), [], cM_passDays)]
def tF_leastStrength : List mv_E := [(0, .iconst 0, 1, [0, 0]), (1, .istore 6, 2, [6]), (3, .iload 6, 2, [6]), (5, .bipush 9, 2, [0, 9]), (7, .if_icmp .gt 54, 3, [61]), (10, .aload_n 0, 1, [0]), (11, .getfield 12, 3, [1, 0, 1, 0, 1, 110]), (14, .aload_n 1, 1, [1]), (15, .invokevirtual 18, 3, [0, 0, 2, 0, 3, 67, 2, 152, 1, 2, 2, 153]), (18, .aload_n 0, 1, [0]), (19, .getfield 12, 3, [1, 0, 1, 0, 1, 110]), (22, .getfield 59, 3, [2, 2, 1, 0, 1, 44]), (25, .iload_n 2, 1, [2]), (26, .iload 6, 2, [6]), (28, .iastore, 1, []), (29, .aload_n 0, 1, [0]), (30, .getfield 12, 3, [1, 0, 1, 0, 1, 110]), (33, .iload 5, 2, [5]), (35, .invokevirtual 22, 3, [0, 1, 2, 0, 3, 68, 3, 17, 1, 2, 3, 18]), (38, .aload_n 0, 1, [0]), (39, .getfield 12, 3, [1, 0, 1, 0, 1, 110]), (42, .getfield 41, 3, [2, 5, 1, 0, 1, 54]), (45, .iload_n 3, 1, [3]), (46, .iaload, 1, []), (47, .iload 4, 2, [4]), (49, .if_icmp .ne 6, 3, [55]), (52, .iload 6, 2, [6]), (54, .ireturn, 1, [0]), (55, .iinc 6 1, 3, [6, 0, 1]), (58, .goto (-55), 3, [3]), (61, .bipush (-3), 2, [1, 3]), (63, .ireturn, 1, [0])]
def gF_leastStrength : List (mv_C H2) := [((0, 0), [], cM_copyFrom), ((0, 0), [], cM_passDays)]
def tJ_bitCount_0f7a4 : List mv_E := [(0, .iload_n 0, 1, [0]), (1, .iload_n 0, 1, [0]), (2, .iconst 1, 1, [0, 1]), (3, .iushr, 1, []), (4, .ldc_w 265, 3, [0, 0, 1431655765, 3, 178]), (7, .iand, 1, []), (8, .isub, 1, []), (9, .istore_n 0, 1, [0]), (10, .iload_n 0, 1, [0]), (11, .ldc_w 266, 3, [0, 0, 858993459, 3, 179]), (14, .iand, 1, []), (15, .iload_n 0, 1, [0]), (16, .iconst 2, 1, [0, 2]), (17, .iushr, 1, []), (18, .ldc_w 266, 3, [0, 0, 858993459, 3, 179]), (21, .iand, 1, []), (22, .iadd, 1, []), (23, .istore_n 0, 1, [0]), (24, .iload_n 0, 1, [0]), (25, .iload_n 0, 1, [0]), (26, .iconst 4, 1, [0, 4]), (27, .iushr, 1, []), (28, .iadd, 1, []), (29, .ldc_w 267, 3, [0, 0, 252645135, 3, 180]), (32, .iand, 1, []), (33, .istore_n 0, 1, [0]), (34, .iload_n 0, 1, [0]), (35, .iload_n 0, 1, [0]), (36, .bipush 8, 2, [0, 8]), (38, .iushr, 1, []), (39, .iadd, 1, []), (40, .istore_n 0, 1, [0]), (41, .iload_n 0, 1, [0]), (42, .iload_n 0, 1, [0]), (43, .bipush 16, 2, [0, 16]), (45, .iushr, 1, []), (46, .iadd, 1, []), (47, .istore_n 0, 1, [0]), (48, .iload_n 0, 1, [0]), (49, .bipush 63, 2, [0, 63]), (51, .iand, 1, []), (52, .ireturn, 1, [0])]
def gJ_bitCount_0f7a4 : List (mv_C H2) := []
def tF_hangJust : List mv_E := [(0, .aload_n 0, 1, [0]), (1, .getfield 12, 3, [1, 0, 1, 0, 1, 110]), (4, .aload_n 1, 1, [1]), (5, .invokevirtual 18, 3, [0, 0, 2, 0, 3, 67, 2, 152, 1, 2, 2, 153]), (8, .iconst 0, 1, [0, 0]), (9, .istore_n 3, 1, [3]), (10, .iload_n 3, 1, [3]), (11, .aload_n 1, 1, [1]), (12, .getfield 52, 3, [2, 9, 0, 0, 1, 69]), (15, .if_icmp .ge 23, 3, [38]), (18, .aload_n 0, 1, [0]), (19, .getfield 12, 3, [1, 0, 1, 0, 1, 110]), (22, .getfield 91, 3, [2, 7, 1, 0, 1, 64]), (25, .iload_n 3, 1, [3]), (26, .iload_n 2, 1, [2]), (27, .iload_n 3, 1, [3]), (28, .ishr, 1, []), (29, .iconst 1, 1, [0, 1]), (30, .iand, 1, []), (31, .iastore, 1, []), (32, .iinc 3 1, 3, [3, 0, 1]), (35, .goto (-25), 3, [10]), (38, .return_, 1, [])]
def gF_hangJust : List (mv_C H2) := [((0, 0), [], cM_copyFrom)]
def tF_fewestHung : List mv_E := [(0, .iconst 1, 1, [0, 1]), (1, .aload_n 1, 1, [1]), (2, .getfield 52, 3, [2, 9, 0, 0, 1, 69]), (5, .ishl, 1, []), (6, .istore 4, 2, [4]), (8, .iconst 0, 1, [0, 0]), (9, .istore 5, 2, [5]), (11, .iload 5, 2, [5]), (13, .aload_n 1, 1, [1]), (14, .getfield 52, 3, [2, 9, 0, 0, 1, 69]), (17, .if_icmp .gt 58, 3, [75]), (20, .iconst 0, 1, [0, 0]), (21, .istore 6, 2, [6]), (23, .iload 6, 2, [6]), (25, .iload 4, 2, [4]), (27, .if_icmp .ge 42, 3, [69]), (30, .iload 6, 2, [6]), (32, .invokestatic 81, 3, [0, 0, 1, 1, 3, 175, 3, 176, 1, 15]), (35, .iload 5, 2, [5]), (37, .if_icmp .eq 6, 3, [43]), (40, .goto 23, 3, [63]), (43, .aload_n 0, 1, [0]), (44, .aload_n 1, 1, [1]), (45, .iload 6, 2, [6]), (47, .invokevirtual 87, 3, [0, 1, 3, 0, 3, 181, 3, 183, 1, 3, 0, 18]), (50, .aload_n 0, 1, [0]), (51, .aload_n 1, 1, [1]), (52, .iload_n 2, 1, [2]), (53, .invokevirtual 48, 3, [0, 2, 3, 0, 3, 125, 3, 127, 1, 3, 0, 16]), (56, .iload_n 3, 1, [3]), (57, .if_icmp .gt 6, 3, [63]), (60, .iload 6, 2, [6]), (62, .ireturn, 1, [0]), (63, .iinc 6 1, 3, [6, 0, 1]), (66, .goto (-43), 3, [23]), (69, .iinc 5 1, 3, [5, 0, 1]), (72, .goto (-61), 3, [11]), (75, .bipush (-3), 2, [1, 3]), (77, .ireturn, 1, [0])]
def gF_fewestHung : List (mv_C H2) := [((0, 0), [], cJ_bitCount_0f7a4), ((0, 0), [], cF_hangJust), ((0, 0), [], cF_spoiltFromHere)]
def tS_size : List mv_E := [(0, .aload_n 0, 1, [0]), (1, .getfield 13, 3, [4, 1, 1, 0, 4, 57]), (4, .arraylength, 1, []), (5, .ireturn, 1, [0])]
def gS_size : List (mv_C H2) := []
def tS_read : List mv_E := [(0, .aload_n 0, 1, [0]), (1, .getfield 13, 3, [4, 1, 1, 0, 4, 57]), (4, .iload_n 1, 1, [1]), (5, .iaload, 1, []), (6, .ireturn, 1, [0])]
def gS_read : List (mv_C H2) := []
def tF_fitsAs : List mv_E := [(0, .aload_n 0, 1, [0]), (1, .getfield 12, 3, [1, 0, 1, 0, 1, 110]), (4, .aload_n 1, 1, [1]), (5, .invokevirtual 18, 3, [0, 0, 2, 0, 3, 67, 2, 152, 1, 2, 2, 153]), (8, .aload_n 0, 1, [0]), (9, .getfield 12, 3, [1, 0, 1, 0, 1, 110]), (12, .getfield 41, 3, [2, 5, 1, 0, 1, 54]), (15, .iload_n 2, 1, [2]), (16, .iload_n 3, 1, [3]), (17, .iastore, 1, []), (18, .aload 4, 2, [4]), (20, .invokevirtual 98, 3, [0, 1, 1, 0, 3, 200, 3, 201, 1, 17, 3, 202]), (23, .istore 5, 2, [5]), (25, .iconst 0, 1, [0, 0]), (26, .istore 6, 2, [6]), (28, .iload 6, 2, [6]), (30, .iload 5, 2, [5]), (32, .if_icmp .ge 47, 3, [79]), (35, .aload_n 0, 1, [0]), (36, .getfield 12, 3, [1, 0, 1, 0, 1, 110]), (39, .invokevirtual 45, 3, [0, 2, 1, 0, 3, 112, 3, 21, 1, 2, 3, 22]), (42, .aload 4, 2, [4]), (44, .iload 6, 2, [6]), (46, .invokevirtual 103, 3, [0, 3, 2, 0, 3, 204, 3, 205, 1, 17, 3, 206]), (49, .istore 7, 2, [7]), (51, .iload 7, 2, [7]), (53, .iconst (-1), 1, [1, 1]), (54, .if_icmp .eq 19, 3, [73]), (57, .iload 7, 2, [7]), (59, .aload_n 0, 1, [0]), (60, .getfield 12, 3, [1, 0, 1, 0, 1, 110]), (63, .getfield 68, 3, [2, 6, 1, 0, 1, 59]), (66, .iload_n 2, 1, [2]), (67, .iaload, 1, []), (68, .if_icmp .eq 5, 3, [73]), (71, .iconst 0, 1, [0, 0]), (72, .ireturn, 1, [1]), (73, .iinc 6 1, 3, [6, 0, 1]), (76, .goto (-48), 3, [28]), (79, .iconst 1, 1, [0, 1]), (80, .ireturn, 1, [1])]
def gF_fitsAs : List (mv_C H2) := [((0, 0), [], cM_copyFrom), ((0, 0), [], cS_size), ((0, 0), [], cM_passDay), ((0, 0), [], cS_read)]
def tF_manyFitting : List mv_E := [(0, .aload_n 1, 1, [1]), (1, .getfield 68, 3, [2, 6, 1, 0, 1, 59]), (4, .iload_n 2, 1, [2]), (5, .iaload, 1, []), (6, .ifCond .ne 20, 3, [26]), (9, .aload_n 0, 1, [0]), (10, .aload_n 1, 1, [1]), (11, .iload_n 2, 1, [2]), (12, .iconst (-1), 1, [1, 1]), (13, .aload_n 3, 1, [3]), (14, .invokevirtual 94, 3, [0, 0, 5, 0, 3, 196, 3, 198, 1, 3, 0, 19]), (17, .ifCond .eq 7, 3, [24]), (20, .iconst 1, 1, [0, 1]), (21, .goto 4, 3, [25]), (24, .iconst 0, 1, [0, 0]), (25, .ireturn, 1, [0]), (26, .iconst 0, 1, [0, 0]), (27, .istore 4, 2, [4]), (29, .iconst 0, 1, [0, 0]), (30, .istore 5, 2, [5]), (32, .iload 5, 2, [5]), (34, .bipush 9, 2, [0, 9]), (36, .if_icmp .gt 24, 3, [60]), (39, .aload_n 0, 1, [0]), (40, .aload_n 1, 1, [1]), (41, .iload_n 2, 1, [2]), (42, .iload 5, 2, [5]), (44, .aload_n 3, 1, [3]), (45, .invokevirtual 94, 3, [0, 0, 5, 0, 3, 196, 3, 198, 1, 3, 0, 19]), (48, .ifCond .eq 6, 3, [54]), (51, .iinc 4 1, 3, [4, 0, 1]), (54, .iinc 5 1, 3, [5, 0, 1]), (57, .goto (-25), 3, [32]), (60, .iload 4, 2, [4]), (62, .ireturn, 1, [0])]
def gF_manyFitting : List (mv_C H2) := [((0, 0), [], cF_fitsAs)]
def tF_leastFitting : List mv_E := [(0, .aload_n 1, 1, [1]), (1, .getfield 68, 3, [2, 6, 1, 0, 1, 59]), (4, .iload_n 2, 1, [2]), (5, .iaload, 1, []), (6, .ifCond .ne 21, 3, [27]), (9, .aload_n 0, 1, [0]), (10, .aload_n 1, 1, [1]), (11, .iload_n 2, 1, [2]), (12, .iconst (-1), 1, [1, 1]), (13, .aload_n 3, 1, [3]), (14, .invokevirtual 94, 3, [0, 0, 5, 0, 3, 196, 3, 198, 1, 3, 0, 19]), (17, .ifCond .eq 7, 3, [24]), (20, .iconst 0, 1, [0, 0]), (21, .goto 5, 3, [26]), (24, .bipush (-3), 2, [1, 3]), (26, .ireturn, 1, [0]), (27, .iconst 0, 1, [0, 0]), (28, .istore 4, 2, [4]), (30, .iload 4, 2, [4]), (32, .bipush 9, 2, [0, 9]), (34, .if_icmp .gt 26, 3, [60]), (37, .aload_n 0, 1, [0]), (38, .aload_n 1, 1, [1]), (39, .iload_n 2, 1, [2]), (40, .iload 4, 2, [4]), (42, .aload_n 3, 1, [3]), (43, .invokevirtual 94, 3, [0, 0, 5, 0, 3, 196, 3, 198, 1, 3, 0, 19]), (46, .ifCond .eq 8, 3, [54]), (49, .iconst 1, 1, [0, 1]), (50, .iload 4, 2, [4]), (52, .iadd, 1, []), (53, .ireturn, 1, [0]), (54, .iinc 4 1, 3, [4, 0, 1]), (57, .goto (-27), 3, [30]), (60, .bipush (-3), 2, [1, 3]), (62, .ireturn, 1, [0])]
def gF_leastFitting : List (mv_C H2) := [((0, 0), [], cF_fitsAs)]
def tF_rowPart : List mv_E := [(0, .iload_n 2, 1, [2]), (1, .lookupswitch 49 #[(0, 27), (1, 39)], 27, [50, 0, 28, 1, 40]), (28, .iconst 1, 1, [0, 1]), (29, .aload_n 0, 1, [0]), (30, .getfield 12, 3, [1, 0, 1, 0, 1, 110]), (33, .getfield 41, 3, [2, 5, 1, 0, 1, 54]), (36, .iload_n 1, 1, [1]), (37, .iaload, 1, []), (38, .iadd, 1, []), (39, .ireturn, 1, [0]), (40, .aload_n 0, 1, [0]), (41, .getfield 12, 3, [1, 0, 1, 0, 1, 110]), (44, .getfield 68, 3, [2, 6, 1, 0, 1, 59]), (47, .iload_n 1, 1, [1]), (48, .iaload, 1, []), (49, .ireturn, 1, [0]), (50, .aload_n 0, 1, [0]), (51, .getfield 12, 3, [1, 0, 1, 0, 1, 110]), (54, .invokevirtual 30, 3, [0, 0, 1, 0, 3, 69, 3, 35, 1, 2, 3, 36]), (57, .ireturn, 1, [0])]
def gF_rowPart : List (mv_C H2) := [((0, 0), [], cM_allDepths)]
def tR_write : List mv_E := [(0, .aload_n 0, 1, [0]), (1, .getfield 11, 3, [3, 0, 1, 0, 1, 146]), (4, .iload_n 1, 1, [1]), (5, .iconst 3, 1, [0, 3]), (6, .imul, 1, []), (7, .iload_n 2, 1, [2]), (8, .iadd, 1, []), (9, .iload_n 3, 1, [3]), (10, .iastore, 1, []), (11, .return_, 1, [])]
def gR_write : List (mv_C H2) := []
def tF_writeRows : List mv_E := [(0, .aload_n 0, 1, [0]), (1, .getfield 12, 3, [1, 0, 1, 0, 1, 110]), (4, .aload_n 1, 1, [1]), (5, .invokevirtual 18, 3, [0, 0, 2, 0, 3, 67, 2, 152, 1, 2, 2, 153]), (8, .aload 4, 2, [4]), (10, .iload_n 3, 1, [3]), (11, .putfield 106, 3, [3, 1, 0, 0, 1, 149]), (14, .iconst 0, 1, [0, 0]), (15, .istore 5, 2, [5]), (17, .iload 5, 2, [5]), (19, .iload_n 3, 1, [3]), (20, .if_icmp .ge 47, 3, [67]), (23, .aload_n 0, 1, [0]), (24, .getfield 12, 3, [1, 0, 1, 0, 1, 110]), (27, .invokevirtual 45, 3, [0, 1, 1, 0, 3, 112, 3, 21, 1, 2, 3, 22]), (30, .iconst 0, 1, [0, 0]), (31, .istore 6, 2, [6]), (33, .iload 6, 2, [6]), (35, .iconst 3, 1, [0, 3]), (36, .if_icmp .ge 25, 3, [61]), (39, .aload 4, 2, [4]), (41, .iload 5, 2, [5]), (43, .iload 6, 2, [6]), (45, .aload_n 0, 1, [0]), (46, .iload_n 2, 1, [2]), (47, .iload 6, 2, [6]), (49, .invokevirtual 109, 3, [0, 2, 3, 0, 4, 4, 4, 6, 1, 3, 0, 20]), (52, .invokevirtual 113, 3, [0, 3, 4, 0, 4, 8, 4, 9, 1, 5, 4, 10]), (55, .iinc 6 1, 3, [6, 0, 1]), (58, .goto (-25), 3, [33]), (61, .iinc 5 1, 3, [5, 0, 1]), (64, .goto (-47), 3, [17]), (67, .return_, 1, [])]
def gF_writeRows : List (mv_C H2) := [((0, 0), [], cM_copyFrom), ((0, 0), [], cM_passDay), ((0, 0), [], cF_rowPart), ((0, 0), [], cR_write)]
def tR_read : List mv_E := [(0, .aload_n 0, 1, [0]), (1, .getfield 11, 3, [3, 0, 1, 0, 1, 146]), (4, .iload_n 1, 1, [1]), (5, .iconst 3, 1, [0, 3]), (6, .imul, 1, []), (7, .iload_n 2, 1, [2]), (8, .iadd, 1, []), (9, .iaload, 1, []), (10, .ireturn, 1, [0])]
def gR_read : List (mv_C H2) := []
def tF_firstWrongRow : List mv_E := [(0, .aload_n 0, 1, [0]), (1, .getfield 12, 3, [1, 0, 1, 0, 1, 110]), (4, .aload_n 1, 1, [1]), (5, .invokevirtual 18, 3, [0, 0, 2, 0, 3, 67, 2, 152, 1, 2, 2, 153]), (8, .iconst 0, 1, [0, 0]), (9, .istore 4, 2, [4]), (11, .iload 4, 2, [4]), (13, .aload_n 3, 1, [3]), (14, .getfield 106, 3, [3, 1, 0, 0, 1, 149]), (17, .if_icmp .ge 54, 3, [71]), (20, .aload_n 0, 1, [0]), (21, .getfield 12, 3, [1, 0, 1, 0, 1, 110]), (24, .invokevirtual 45, 3, [0, 1, 1, 0, 3, 112, 3, 21, 1, 2, 3, 22]), (27, .iconst 0, 1, [0, 0]), (28, .istore 5, 2, [5]), (30, .iload 5, 2, [5]), (32, .iconst 3, 1, [0, 3]), (33, .if_icmp .ge 32, 3, [65]), (36, .aload_n 3, 1, [3]), (37, .iload 4, 2, [4]), (39, .iload 5, 2, [5]), (41, .invokevirtual 117, 3, [0, 2, 3, 0, 4, 38, 4, 22, 1, 5, 4, 23]), (44, .aload_n 0, 1, [0]), (45, .iload_n 2, 1, [2]), (46, .iload 5, 2, [5]), (48, .invokevirtual 109, 3, [0, 3, 3, 0, 4, 4, 4, 6, 1, 3, 0, 20]), (51, .if_icmp .eq 8, 3, [59]), (54, .iload 4, 2, [4]), (56, .iconst 1, 1, [0, 1]), (57, .iadd, 1, []), (58, .ireturn, 1, [0]), (59, .iinc 5 1, 3, [5, 0, 1]), (62, .goto (-32), 3, [30]), (65, .iinc 4 1, 3, [4, 0, 1]), (68, .goto (-57), 3, [11]), (71, .iconst 0, 1, [0, 0]), (72, .ireturn, 1, [0])]
def gF_firstWrongRow : List (mv_C H2) := [((0, 0), [], cM_copyFrom), ((0, 0), [], cM_passDay), ((0, 0), [], cR_read), ((0, 0), [], cF_rowPart)]
def tM_becomeFirst : List mv_E := [(0, .aload_n 0, 1, [0]), (1, .getfield 9, 3, [2, 0, 1, 0, 1, 36]), (4, .iconst 0, 1, [0, 0]), (5, .iconst 3, 1, [0, 3]), (6, .iastore, 1, []), (7, .aload_n 0, 1, [0]), (8, .getfield 9, 3, [2, 0, 1, 0, 1, 36]), (11, .iconst 1, 1, [0, 1]), (12, .iconst 2, 1, [0, 2]), (13, .iastore, 1, []), (14, .aload_n 0, 1, [0]), (15, .getfield 9, 3, [2, 0, 1, 0, 1, 36]), (18, .iconst 2, 1, [0, 2]), (19, .iconst 4, 1, [0, 4]), (20, .iastore, 1, []), (21, .aload_n 0, 1, [0]), (22, .getfield 9, 3, [2, 0, 1, 0, 1, 36]), (25, .iconst 3, 1, [0, 3]), (26, .bipush 20, 2, [0, 20]), (28, .iastore, 1, []), (29, .iconst 0, 1, [0, 0]), (30, .istore_n 1, 1, [1]), (31, .iload_n 1, 1, [1]), (32, .bipush 8, 2, [0, 8]), (34, .if_icmp .ge 23, 3, [57]), (37, .aload_n 0, 1, [0]), (38, .getfield 15, 3, [2, 1, 1, 0, 1, 39]), (41, .iload_n 1, 1, [1]), (42, .iload_n 1, 1, [1]), (43, .iastore, 1, []), (44, .aload_n 0, 1, [0]), (45, .getfield 18, 3, [2, 2, 1, 0, 1, 42]), (48, .iload_n 1, 1, [1]), (49, .iconst 5, 1, [0, 5]), (50, .iastore, 1, []), (51, .iinc 1 1, 3, [1, 0, 1]), (54, .goto (-23), 3, [31]), (57, .iconst 0, 1, [0, 0]), (58, .istore_n 1, 1, [1]), (59, .iload_n 1, 1, [1]), (60, .bipush 6, 2, [0, 6]), (62, .if_icmp .ge 16, 3, [78]), (65, .aload_n 0, 1, [0]), (66, .getfield 21, 3, [2, 3, 1, 0, 1, 46]), (69, .iload_n 1, 1, [1]), (70, .iload_n 1, 1, [1]), (71, .iastore, 1, []), (72, .iinc 1 1, 3, [1, 0, 1]), (75, .goto (-16), 3, [59]), (78, .aload_n 0, 1, [0]), (79, .iconst 0, 1, [0, 0]), (80, .putfield 46, 3, [2, 9, 0, 0, 1, 67]), (83, .aload_n 0, 1, [0]), (84, .iconst 0, 1, [0, 0]), (85, .putfield 49, 3, [2, 10, 0, 0, 1, 71]), (88, .return_, 1, [])]
def gM_becomeFirst : List (mv_C H2) := []
def tV_isIn : List mv_E := [(0, .iload_n 1, 1, [1]), (1, .iload_n 0, 1, [0]), (2, .if_icmp .gt 12, 3, [14]), (5, .iload_n 0, 1, [0]), (6, .iload_n 2, 1, [2]), (7, .if_icmp .gt 7, 3, [14]), (10, .iconst 1, 1, [0, 1]), (11, .goto 4, 3, [15]), (14, .iconst 0, 1, [0, 0]), (15, .ireturn, 1, [1])]
def gV_isIn : List (mv_C H2) := []
def tM_has : List mv_E := [(0, .iload_n 1, 1, [1]), (1, .iconst 0, 1, [0, 0]), (2, .aload_n 0, 1, [0]), (3, .getfield 46, 3, [2, 9, 0, 0, 1, 67]), (6, .iconst 1, 1, [0, 1]), (7, .isub, 1, []), (8, .invokestatic 58, 3, [0, 0, 3, 11, 2, 206, 1, 234, 1, 1]), (11, .ireturn, 1, [1])]
def gM_has : List (mv_C H2) := [((0, 0), [], cV_isIn)]
def tM_addCloth : List mv_E := [(0, .aload_n 0, 1, [0]), (1, .getfield 46, 3, [2, 9, 0, 0, 1, 67]), (4, .istore_n 2, 1, [2]), (5, .aload_n 0, 1, [0]), (6, .getfield 24, 3, [2, 4, 1, 0, 1, 50]), (9, .iload_n 2, 1, [2]), (10, .iload_n 1, 1, [1]), (11, .iastore, 1, []), (12, .aload_n 0, 1, [0]), (13, .getfield 27, 3, [2, 5, 1, 0, 1, 53]), (16, .iload_n 2, 1, [2]), (17, .iconst (-1), 1, [1, 1]), (18, .iastore, 1, []), (19, .aload_n 0, 1, [0]), (20, .getfield 30, 3, [2, 6, 1, 0, 1, 57]), (23, .iload_n 2, 1, [2]), (24, .iconst 0, 1, [0, 0]), (25, .iastore, 1, []), (26, .aload_n 0, 1, [0]), (27, .getfield 33, 3, [2, 7, 1, 0, 1, 61]), (30, .iload_n 2, 1, [2]), (31, .iconst 0, 1, [0, 0]), (32, .iastore, 1, []), (33, .aload_n 0, 1, [0]), (34, .getfield 36, 3, [2, 8, 1, 0, 1, 65]), (37, .iload_n 2, 1, [2]), (38, .iconst 0, 1, [0, 0]), (39, .iastore, 1, []), (40, .aload_n 0, 1, [0]), (41, .dup, 1, []), (42, .getfield 46, 3, [2, 9, 0, 0, 1, 67]), (45, .iconst 1, 1, [0, 1]), (46, .iadd, 1, []), (47, .putfield 46, 3, [2, 9, 0, 0, 1, 67]), (50, .iload_n 2, 1, [2]), (51, .ireturn, 1, [0])]
def gM_addCloth : List (mv_C H2) := []
def tM_hungSet : List mv_E := [(0, .iconst 0, 1, [0, 0]), (1, .istore_n 1, 1, [1]), (2, .iconst 0, 1, [0, 0]), (3, .istore_n 2, 1, [2]), (4, .iload_n 2, 1, [2]), (5, .aload_n 0, 1, [0]), (6, .getfield 46, 3, [2, 9, 0, 0, 1, 67]), (9, .if_icmp .ge 25, 3, [34]), (12, .aload_n 0, 1, [0]), (13, .getfield 33, 3, [2, 7, 1, 0, 1, 61]), (16, .iload_n 2, 1, [2]), (17, .iaload, 1, []), (18, .iconst 1, 1, [0, 1]), (19, .if_icmp .ne 9, 3, [28]), (22, .iload_n 1, 1, [1]), (23, .iconst 1, 1, [0, 1]), (24, .iload_n 2, 1, [2]), (25, .ishl, 1, []), (26, .ior, 1, []), (27, .istore_n 1, 1, [1]), (28, .iinc 2 1, 3, [2, 0, 1]), (31, .goto (-27), 3, [4]), (34, .iload_n 1, 1, [1]), (35, .ireturn, 1, [0])]
def gM_hungSet : List (mv_C H2) := []
def tM_aboutSet : List mv_E := [(0, .iconst 0, 1, [0, 0]), (1, .istore_n 1, 1, [1]), (2, .iconst 0, 1, [0, 0]), (3, .istore_n 2, 1, [2]), (4, .iload_n 2, 1, [2]), (5, .aload_n 0, 1, [0]), (6, .getfield 46, 3, [2, 9, 0, 0, 1, 67]), (9, .if_icmp .ge 25, 3, [34]), (12, .aload_n 0, 1, [0]), (13, .getfield 27, 3, [2, 5, 1, 0, 1, 53]), (16, .iload_n 2, 1, [2]), (17, .iaload, 1, []), (18, .iconst (-1), 1, [1, 1]), (19, .if_icmp .eq 9, 3, [28]), (22, .iload_n 1, 1, [1]), (23, .iconst 1, 1, [0, 1]), (24, .iload_n 2, 1, [2]), (25, .ishl, 1, []), (26, .ior, 1, []), (27, .istore_n 1, 1, [1]), (28, .iinc 2 1, 3, [2, 0, 1]), (31, .goto (-27), 3, [4]), (34, .iload_n 1, 1, [1]), (35, .ireturn, 1, [0])]
def gM_aboutSet : List (mv_C H2) := []
def tM_purposeSet : List mv_E := [(0, .iconst 0, 1, [0, 0]), (1, .istore_n 1, 1, [1]), (2, .iconst 0, 1, [0, 0]), (3, .istore_n 2, 1, [2]), (4, .iload_n 2, 1, [2]), (5, .aload_n 0, 1, [0]), (6, .getfield 46, 3, [2, 9, 0, 0, 1, 67]), (9, .if_icmp .ge 30, 3, [39]), (12, .aload_n 0, 1, [0]), (13, .getfield 27, 3, [2, 5, 1, 0, 1, 53]), (16, .iload_n 2, 1, [2]), (17, .iaload, 1, []), (18, .iconst (-1), 1, [1, 1]), (19, .if_icmp .eq 14, 3, [33]), (22, .iload_n 1, 1, [1]), (23, .iconst 1, 1, [0, 1]), (24, .aload_n 0, 1, [0]), (25, .getfield 27, 3, [2, 5, 1, 0, 1, 53]), (28, .iload_n 2, 1, [2]), (29, .iaload, 1, []), (30, .ishl, 1, []), (31, .ior, 1, []), (32, .istore_n 1, 1, [1]), (33, .iinc 2 1, 3, [2, 0, 1]), (36, .goto (-32), 3, [4]), (39, .iload_n 1, 1, [1]), (40, .ireturn, 1, [0])]
def gM_purposeSet : List (mv_C H2) := []
def tM_isForOdds : List mv_E := [(0, .aload_n 0, 1, [0]), (1, .getfield 33, 3, [2, 7, 1, 0, 1, 61]), (4, .iload_n 1, 1, [1]), (5, .iaload, 1, []), (6, .ifCond .ne 17, 3, [23]), (9, .aload_n 0, 1, [0]), (10, .getfield 27, 3, [2, 5, 1, 0, 1, 53]), (13, .iload_n 1, 1, [1]), (14, .iaload, 1, []), (15, .iconst (-1), 1, [1, 1]), (16, .if_icmp .eq 7, 3, [23]), (19, .iconst 1, 1, [0, 1]), (20, .goto 4, 3, [24]), (23, .iconst 0, 1, [0, 0]), (24, .ireturn, 1, [1])]
def gM_isForOdds : List (mv_C H2) := []
def tM_oddPairs : List mv_E := [(0, .iconst 0, 1, [0, 0]), (1, .istore_n 1, 1, [1]), (2, .iconst 0, 1, [0, 0]), (3, .istore_n 2, 1, [2]), (4, .iload_n 2, 1, [2]), (5, .aload_n 0, 1, [0]), (6, .getfield 46, 3, [2, 9, 0, 0, 1, 67]), (9, .if_icmp .ge 61, 3, [70]), (12, .iload_n 2, 1, [2]), (13, .iconst 1, 1, [0, 1]), (14, .iadd, 1, []), (15, .istore_n 3, 1, [3]), (16, .iload_n 3, 1, [3]), (17, .aload_n 0, 1, [0]), (18, .getfield 46, 3, [2, 9, 0, 0, 1, 67]), (21, .if_icmp .ge 43, 3, [64]), (24, .aload_n 0, 1, [0]), (25, .getfield 27, 3, [2, 5, 1, 0, 1, 53]), (28, .iload_n 2, 1, [2]), (29, .iaload, 1, []), (30, .aload_n 0, 1, [0]), (31, .getfield 27, 3, [2, 5, 1, 0, 1, 53]), (34, .iload_n 3, 1, [3]), (35, .iaload, 1, []), (36, .if_icmp .eq 22, 3, [58]), (39, .aload_n 0, 1, [0]), (40, .iload_n 2, 1, [2]), (41, .invokevirtual 94, 3, [0, 0, 2, 0, 3, 88, 3, 90, 1, 2, 0, 15]), (44, .ifCond .eq 14, 3, [58]), (47, .aload_n 0, 1, [0]), (48, .iload_n 3, 1, [3]), (49, .invokevirtual 94, 3, [0, 0, 2, 0, 3, 88, 3, 90, 1, 2, 0, 15]), (52, .ifCond .eq 6, 3, [58]), (55, .iinc 1 1, 3, [1, 0, 1]), (58, .iinc 3 1, 3, [3, 0, 1]), (61, .goto (-45), 3, [16]), (64, .iinc 2 1, 3, [2, 0, 1]), (67, .goto (-63), 3, [4]), (70, .iload_n 1, 1, [1]), (71, .ireturn, 1, [0])]
def gM_oddPairs : List (mv_C H2) := [((0, 0), [], cM_isForOdds)]
def tR_has : List mv_E := [(0, .iload_n 1, 1, [1]), (1, .iconst 0, 1, [0, 0]), (2, .aload_n 0, 1, [0]), (3, .getfield 15, 3, [3, 1, 0, 0, 1, 147]), (6, .iconst 1, 1, [0, 1]), (7, .isub, 1, []), (8, .invokestatic 19, 3, [0, 0, 3, 11, 4, 20, 1, 234, 1, 1]), (11, .ifCond .eq 16, 3, [27]), (14, .iload_n 2, 1, [2]), (15, .iconst 0, 1, [0, 0]), (16, .iconst 2, 1, [0, 2]), (17, .invokestatic 19, 3, [0, 0, 3, 11, 4, 20, 1, 234, 1, 1]), (20, .ifCond .eq 7, 3, [27]), (23, .iconst 1, 1, [0, 1]), (24, .goto 4, 3, [28]), (27, .iconst 0, 1, [0, 0]), (28, .ireturn, 1, [1])]
def gR_has : List (mv_C H2) := [((0, 0), [], cV_isIn)]
def tS_init : List mv_E := [(0, .aload_n 0, 1, [0]), (1, .invokespecial 1, 3, [5, 4, 54]), (4, .aload_n 0, 1, [0]), (5, .iload_n 1, 1, [1]), (6, .putfield 7, 3, [4, 0, 0, 0, 4, 55]), (9, .aload_n 0, 1, [0]), (10, .iload_n 2, 1, [2]), (11, .newarray .int, 2, [501, 1, 101]), (13, .putfield 13, 3, [4, 1, 1, 0, 4, 57]), (16, .return_, 1, [])]
def gS_init : List (mv_C H2) := []
def tS_has : List mv_E := [(0, .iload_n 1, 1, [1]), (1, .iconst 0, 1, [0, 0]), (2, .aload_n 0, 1, [0]), (3, .getfield 13, 3, [4, 1, 1, 0, 4, 57]), (6, .arraylength, 1, []), (7, .iconst 1, 1, [0, 1]), (8, .isub, 1, []), (9, .invokestatic 17, 3, [0, 0, 3, 11, 4, 71, 1, 234, 1, 1]), (12, .ireturn, 1, [1])]
def gS_has : List (mv_C H2) := [((0, 0), [], cV_isIn)]
def tS_write : List mv_E := [(0, .aload_n 0, 1, [0]), (1, .getfield 7, 3, [4, 0, 0, 0, 4, 55]), (4, .ifCond .ne 14, 3, [18]), (7, .aload_n 0, 1, [0]), (8, .getfield 13, 3, [4, 1, 1, 0, 4, 57]), (11, .iload_n 1, 1, [1]), (12, .iload_n 2, 1, [2]), (13, .i2b, 1, []), (14, .iastore, 1, []), (15, .goto 29, 3, [44]), (18, .aload_n 0, 1, [0]), (19, .getfield 7, 3, [4, 0, 0, 0, 4, 55]), (22, .iconst 1, 1, [0, 1]), (23, .if_icmp .ne 14, 3, [37]), (26, .aload_n 0, 1, [0]), (27, .getfield 13, 3, [4, 1, 1, 0, 4, 57]), (30, .iload_n 1, 1, [1]), (31, .iload_n 2, 1, [2]), (32, .i2s, 1, []), (33, .iastore, 1, []), (34, .goto 10, 3, [44]), (37, .aload_n 0, 1, [0]), (38, .getfield 13, 3, [4, 1, 1, 0, 4, 57]), (41, .iload_n 1, 1, [1]), (42, .iload_n 2, 1, [2]), (43, .iastore, 1, []), (44, .return_, 1, [])]
def gS_write : List (mv_C H2) := []
def tH_holdCloth : List mv_E := [(0, .aload_n 0, 1, [0]), (1, .getfield 9, 3, [5, 0, 1, 0, 1, 164]), (4, .iload_n 1, 1, [1]), (5, .iload_n 2, 1, [2]), (6, .iastore, 1, []), (7, .aload_n 0, 1, [0]), (8, .getfield 17, 3, [5, 1, 1, 0, 1, 165]), (11, .iload_n 1, 1, [1]), (12, .aconst_null, 1, []), (13, .aastore, 1, []), (14, .return_, 1, [])]
def gH_holdCloth : List (mv_C H2) := []
def tH_holdRow_n : List mv_E := [(0, .aload_n 0, 1, [0]), (1, .getfield 9, 3, [5, 0, 1, 0, 1, 164]), (4, .iload_n 1, 1, [1]), (5, .iconst (-1), 1, [1, 1]), (6, .iastore, 1, []), (7, .aload_n 0, 1, [0]), (8, .getfield 17, 3, [5, 1, 1, 0, 1, 165]), (11, .iload_n 1, 1, [1]), (12, .aload_n 2, 1, [2]), (13, .aastore, 1, []), (14, .return_, 1, [])]
def gH_holdRow_n : List (mv_C H2) := []
def tH_holdRow_r : List mv_E := [(0, .aload_n 0, 1, [0]), (1, .getfield 9, 3, [5, 0, 1, 0, 1, 164]), (4, .iload_n 1, 1, [1]), (5, .iconst (-1), 1, [1, 1]), (6, .iastore, 1, []), (7, .aload_n 0, 1, [0]), (8, .getfield 17, 3, [5, 1, 1, 0, 1, 165]), (11, .iload_n 1, 1, [1]), (12, .aload_n 2, 1, [2]), (13, .aastore, 1, []), (14, .return_, 1, [])]
def gH_holdRow_r : List (mv_C H2) := []
def tH_clothOn : List mv_E := [(0, .aload_n 0, 1, [0]), (1, .getfield 9, 3, [5, 0, 1, 0, 1, 164]), (4, .iload_n 1, 1, [1]), (5, .iaload, 1, []), (6, .ireturn, 1, [0])]
def gH_clothOn : List (mv_C H2) := []
def tH_rowOn : List mv_E := [(0, .aload_n 0, 1, [0]), (1, .getfield 17, 3, [5, 1, 1, 0, 1, 165]), (4, .iload_n 1, 1, [1]), (5, .aaload, 1, []), (6, .areturn, 1, [])]
def gH_rowOn : List (mv_C H2) := []
def tT_room : List mv_E := [(0, .sipush 200, 3, [0, 200]), (3, .aload_n 0, 1, [0]), (4, .getfield 15, 3, [6, 1, 0, 0, 1, 121]), (7, .isub, 1, []), (8, .ireturn, 1, [0])]
def gT_room : List (mv_C H2) := []
def tT_take : List mv_E := [(0, .iconst 0, 1, [0, 0]), (1, .istore 4, 2, [4]), (3, .iload 4, 2, [4]), (5, .iload_n 3, 1, [3]), (6, .if_icmp .ge 33, 3, [39]), (9, .aload_n 0, 1, [0]), (10, .getfield 9, 3, [6, 0, 1, 0, 1, 120]), (13, .aload_n 0, 1, [0]), (14, .getfield 15, 3, [6, 1, 0, 0, 1, 121]), (17, .iload 4, 2, [4]), (19, .iadd, 1, []), (20, .lload_n 1, 1, [1]), (21, .bipush 8, 2, [0, 8]), (23, .iload 4, 2, [4]), (25, .imul, 1, []), (26, .lshr, 1, []), (27, .ldc2_w 19, 3, [0, 255, 2, 4]), (30, .land, 1, []), (31, .l2i, 1, []), (32, .iastore, 1, []), (33, .iinc 4 1, 3, [4, 0, 1]), (36, .goto (-33), 3, [3]), (39, .aload_n 0, 1, [0]), (40, .dup, 1, []), (41, .getfield 15, 3, [6, 1, 0, 0, 1, 121]), (44, .iload_n 3, 1, [3]), (45, .iadd, 1, []), (46, .putfield 15, 3, [6, 1, 0, 0, 1, 121]), (49, .return_, 1, [])]
def gT_take : List (mv_C H2) := []
def tT_useUp : List mv_E := [(0, .aload_n 0, 1, [0]), (1, .iconst 0, 1, [0, 0]), (2, .putfield 15, 3, [6, 1, 0, 0, 1, 121]), (5, .return_, 1, [])]
def gT_useUp : List (mv_C H2) := []
def tT_readDigits : List mv_E := [(0, .aload_n 0, 1, [0]), (1, .iconst 0, 1, [0, 0]), (2, .putfield 91, 3, [6, 5, 0, 0, 1, 126]), (5, .aload_n 0, 1, [0]), (6, .getfield 26, 3, [6, 2, 0, 0, 1, 123]), (9, .aload_n 0, 1, [0]), (10, .getfield 15, 3, [6, 1, 0, 0, 1, 121]), (13, .if_icmp .ge 81, 3, [94]), (16, .aload_n 0, 1, [0]), (17, .getfield 9, 3, [6, 0, 1, 0, 1, 120]), (20, .aload_n 0, 1, [0]), (21, .getfield 26, 3, [6, 2, 0, 0, 1, 123]), (24, .iaload, 1, []), (25, .bipush 48, 2, [0, 48]), (27, .if_icmp .lt 67, 3, [94]), (30, .aload_n 0, 1, [0]), (31, .getfield 9, 3, [6, 0, 1, 0, 1, 120]), (34, .aload_n 0, 1, [0]), (35, .getfield 26, 3, [6, 2, 0, 0, 1, 123]), (38, .iaload, 1, []), (39, .bipush 57, 2, [0, 57]), (41, .if_icmp .gt 53, 3, [94]), (44, .aload_n 0, 1, [0]), (45, .getfield 26, 3, [6, 2, 0, 0, 1, 123]), (48, .aload_n 0, 1, [0]), (49, .getfield 39, 3, [6, 3, 0, 0, 1, 124]), (52, .isub, 1, []), (53, .iconst 3, 1, [0, 3]), (54, .if_icmp .ge 27, 3, [81]), (57, .aload_n 0, 1, [0]), (58, .aload_n 0, 1, [0]), (59, .getfield 91, 3, [6, 5, 0, 0, 1, 126]), (62, .bipush 10, 2, [0, 10]), (64, .imul, 1, []), (65, .aload_n 0, 1, [0]), (66, .getfield 9, 3, [6, 0, 1, 0, 1, 120]), (69, .aload_n 0, 1, [0]), (70, .getfield 26, 3, [6, 2, 0, 0, 1, 123]), (73, .iaload, 1, []), (74, .iadd, 1, []), (75, .bipush 48, 2, [0, 48]), (77, .isub, 1, []), (78, .putfield 91, 3, [6, 5, 0, 0, 1, 126]), (81, .aload_n 0, 1, [0]), (82, .dup, 1, []), (83, .getfield 26, 3, [6, 2, 0, 0, 1, 123]), (86, .iconst 1, 1, [0, 1]), (87, .iadd, 1, []), (88, .putfield 26, 3, [6, 2, 0, 0, 1, 123]), (91, .goto (-86), 3, [5]), (94, .aload_n 0, 1, [0]), (95, .getfield 26, 3, [6, 2, 0, 0, 1, 123]), (98, .aload_n 0, 1, [0]), (99, .getfield 39, 3, [6, 3, 0, 0, 1, 124]), (102, .isub, 1, []), (103, .iconst 3, 1, [0, 3]), (104, .if_icmp .le 10, 3, [114]), (107, .aload_n 0, 1, [0]), (108, .sipush 1000, 3, [0, 1000]), (111, .putfield 91, 3, [6, 5, 0, 0, 1, 126]), (114, .return_, 1, [])]
def gT_readDigits : List (mv_C H2) := []
def tT_readWord : List mv_E := [(0, .aload_n 0, 1, [0]), (1, .getfield 26, 3, [6, 2, 0, 0, 1, 123]), (4, .aload_n 0, 1, [0]), (5, .getfield 15, 3, [6, 1, 0, 0, 1, 121]), (8, .if_icmp .ge 30, 3, [38]), (11, .aload_n 0, 1, [0]), (12, .getfield 9, 3, [6, 0, 1, 0, 1, 120]), (15, .aload_n 0, 1, [0]), (16, .getfield 26, 3, [6, 2, 0, 0, 1, 123]), (19, .iaload, 1, []), (20, .bipush 32, 2, [0, 32]), (22, .if_icmp .ne 16, 3, [38]), (25, .aload_n 0, 1, [0]), (26, .dup, 1, []), (27, .getfield 26, 3, [6, 2, 0, 0, 1, 123]), (30, .iconst 1, 1, [0, 1]), (31, .iadd, 1, []), (32, .putfield 26, 3, [6, 2, 0, 0, 1, 123]), (35, .goto (-35), 3, [0]), (38, .aload_n 0, 1, [0]), (39, .aload_n 0, 1, [0]), (40, .getfield 26, 3, [6, 2, 0, 0, 1, 123]), (43, .putfield 39, 3, [6, 3, 0, 0, 1, 124]), (46, .aload_n 0, 1, [0]), (47, .getfield 26, 3, [6, 2, 0, 0, 1, 123]), (50, .aload_n 0, 1, [0]), (51, .getfield 15, 3, [6, 1, 0, 0, 1, 121]), (54, .if_icmp .lt 11, 3, [65]), (57, .aload_n 0, 1, [0]), (58, .iconst 0, 1, [0, 0]), (59, .putfield 32, 3, [6, 4, 0, 0, 1, 125]), (62, .goto 116, 3, [178]), (65, .aload_n 0, 1, [0]), (66, .getfield 9, 3, [6, 0, 1, 0, 1, 120]), (69, .aload_n 0, 1, [0]), (70, .getfield 26, 3, [6, 2, 0, 0, 1, 123]), (73, .iaload, 1, []), (74, .bipush 97, 2, [0, 97]), (76, .bipush 122, 2, [0, 122]), (78, .invokestatic 131, 3, [0, 0, 3, 11, 2, 18, 1, 234, 1, 1]), (81, .ifCond .eq 51, 3, [132]), (84, .aload_n 0, 1, [0]), (85, .iconst 1, 1, [0, 1]), (86, .putfield 32, 3, [6, 4, 0, 0, 1, 125]), (89, .aload_n 0, 1, [0]), (90, .getfield 26, 3, [6, 2, 0, 0, 1, 123]), (93, .aload_n 0, 1, [0]), (94, .getfield 15, 3, [6, 1, 0, 0, 1, 121]), (97, .if_icmp .ge 81, 3, [178]), (100, .aload_n 0, 1, [0]), (101, .getfield 9, 3, [6, 0, 1, 0, 1, 120]), (104, .aload_n 0, 1, [0]), (105, .getfield 26, 3, [6, 2, 0, 0, 1, 123]), (108, .iaload, 1, []), (109, .bipush 97, 2, [0, 97]), (111, .bipush 122, 2, [0, 122]), (113, .invokestatic 131, 3, [0, 0, 3, 11, 2, 18, 1, 234, 1, 1]), (116, .ifCond .eq 62, 3, [178]), (119, .aload_n 0, 1, [0]), (120, .dup, 1, []), (121, .getfield 26, 3, [6, 2, 0, 0, 1, 123]), (124, .iconst 1, 1, [0, 1]), (125, .iadd, 1, []), (126, .putfield 26, 3, [6, 2, 0, 0, 1, 123]), (129, .goto (-40), 3, [89]), (132, .aload_n 0, 1, [0]), (133, .getfield 9, 3, [6, 0, 1, 0, 1, 120]), (136, .aload_n 0, 1, [0]), (137, .getfield 26, 3, [6, 2, 0, 0, 1, 123]), (140, .iaload, 1, []), (141, .bipush 48, 2, [0, 48]), (143, .bipush 57, 2, [0, 57]), (145, .invokestatic 131, 3, [0, 0, 3, 11, 2, 18, 1, 234, 1, 1]), (148, .ifCond .eq 15, 3, [163]), (151, .aload_n 0, 1, [0]), (152, .iconst 2, 1, [0, 2]), (153, .putfield 32, 3, [6, 4, 0, 0, 1, 125]), (156, .aload_n 0, 1, [0]), (157, .invokevirtual 163, 3, [0, 1, 1, 0, 2, 19, 2, 21, 1, 4, 0, 1]), (160, .goto 18, 3, [178]), (163, .aload_n 0, 1, [0]), (164, .iconst 3, 1, [0, 3]), (165, .putfield 32, 3, [6, 4, 0, 0, 1, 125]), (168, .aload_n 0, 1, [0]), (169, .dup, 1, []), (170, .getfield 26, 3, [6, 2, 0, 0, 1, 123]), (173, .iconst 1, 1, [0, 1]), (174, .iadd, 1, []), (175, .putfield 26, 3, [6, 2, 0, 0, 1, 123]), (178, .return_, 1, [])]
def gT_readWord : List (mv_C H2) := [((0, 0), [], cV_isIn), ((0, 0), [], cT_readDigits)]
def tT_isName : List mv_E := [(0, .aload_n 0, 1, [0]), (1, .getfield 32, 3, [6, 4, 0, 0, 1, 125]), (4, .iconst 1, 1, [0, 1]), (5, .if_icmp .ne 19, 3, [24]), (8, .aload_n 0, 1, [0]), (9, .getfield 26, 3, [6, 2, 0, 0, 1, 123]), (12, .aload_n 0, 1, [0]), (13, .getfield 39, 3, [6, 3, 0, 0, 1, 124]), (16, .isub, 1, []), (17, .aload_n 1, 1, [1]), (18, .invokevirtual 155, 3, [0, 0, 1, 0, 2, 36, 2, 37, 1, 9, 2, 38]), (21, .if_icmp .eq 5, 3, [26]), (24, .iconst 0, 1, [0, 0]), (25, .ireturn, 1, [1]), (26, .iconst 0, 1, [0, 0]), (27, .istore_n 2, 1, [2]), (28, .iload_n 2, 1, [2]), (29, .aload_n 1, 1, [1]), (30, .invokevirtual 155, 3, [0, 0, 1, 0, 2, 36, 2, 37, 1, 9, 2, 38]), (33, .if_icmp .ge 30, 3, [63]), (36, .aload_n 0, 1, [0]), (37, .getfield 9, 3, [6, 0, 1, 0, 1, 120]), (40, .aload_n 0, 1, [0]), (41, .getfield 39, 3, [6, 3, 0, 0, 1, 124]), (44, .iload_n 2, 1, [2]), (45, .iadd, 1, []), (46, .iaload, 1, []), (47, .aload_n 1, 1, [1]), (48, .iload_n 2, 1, [2]), (49, .invokevirtual 159, 3, [0, 1, 2, 0, 2, 46, 2, 47, 1, 9, 2, 48]), (52, .if_icmp .eq 5, 3, [57]), (55, .iconst 0, 1, [0, 0]), (56, .ireturn, 1, [1]), (57, .iinc 2 1, 3, [2, 0, 1]), (60, .goto (-32), 3, [28]), (63, .iconst 1, 1, [0, 1]), (64, .ireturn, 1, [1])]
def gT_isName : List (mv_C H2) := [((0, 0), [], cJ0_len), ((0, 0), [], cJ0_chr)]
def tT_kindNamed : List mv_E := [(0, .aload_n 0, 1, [0]), (1, .ldc 135, 2, [1, 7]), (3, .invokevirtual 52, 3, [0, 0, 2, 0, 2, 32, 2, 34, 1, 4, 0, 4]), (6, .ifCond .eq 5, 3, [11]), (9, .iconst 0, 1, [0, 0]), (10, .ireturn, 1, [0]), (11, .aload_n 0, 1, [0]), (12, .ldc 137, 2, [1, 8]), (14, .invokevirtual 52, 3, [0, 0, 2, 0, 2, 32, 2, 34, 1, 4, 0, 4]), (17, .ifCond .eq 5, 3, [22]), (20, .iconst 1, 1, [0, 1]), (21, .ireturn, 1, [0]), (22, .aload_n 0, 1, [0]), (23, .ldc 139, 2, [1, 9]), (25, .invokevirtual 52, 3, [0, 0, 2, 0, 2, 32, 2, 34, 1, 4, 0, 4]), (28, .ifCond .eq 5, 3, [33]), (31, .iconst 2, 1, [0, 2]), (32, .ireturn, 1, [0]), (33, .aload_n 0, 1, [0]), (34, .ldc 141, 2, [1, 10]), (36, .invokevirtual 52, 3, [0, 0, 2, 0, 2, 32, 2, 34, 1, 4, 0, 4]), (39, .ifCond .eq 5, 3, [44]), (42, .iconst 3, 1, [0, 3]), (43, .ireturn, 1, [0]), (44, .aload_n 0, 1, [0]), (45, .ldc 143, 2, [1, 11]), (47, .invokevirtual 52, 3, [0, 0, 2, 0, 2, 32, 2, 34, 1, 4, 0, 4]), (50, .ifCond .eq 5, 3, [55]), (53, .iconst 4, 1, [0, 4]), (54, .ireturn, 1, [0]), (55, .aload_n 0, 1, [0]), (56, .ldc 145, 2, [1, 12]), (58, .invokevirtual 52, 3, [0, 0, 2, 0, 2, 32, 2, 34, 1, 4, 0, 4]), (61, .ifCond .eq 7, 3, [68]), (64, .iconst 5, 1, [0, 5]), (65, .goto 4, 3, [69]), (68, .iconst (-1), 1, [1, 1]), (69, .ireturn, 1, [0])]
def gT_kindNamed : List (mv_C H2) := [((0, 0), [], cT_isName)]
def tT_readNumber : List mv_E := [(0, .aload_n 0, 1, [0]), (1, .invokevirtual 29, 3, [0, 0, 1, 0, 2, 14, 2, 16, 1, 4, 0, 0]), (4, .aload_n 0, 1, [0]), (5, .getfield 32, 3, [6, 4, 0, 0, 1, 125]), (8, .iconst 2, 1, [0, 2]), (9, .if_icmp .ne 19, 3, [28]), (12, .aload_n 0, 1, [0]), (13, .getfield 91, 3, [6, 5, 0, 0, 1, 126]), (16, .iload_n 1, 1, [1]), (17, .iload_n 2, 1, [2]), (18, .invokestatic 131, 3, [0, 1, 3, 11, 2, 18, 1, 234, 1, 1]), (21, .ifCond .eq 7, 3, [28]), (24, .iconst 1, 1, [0, 1]), (25, .goto 4, 3, [29]), (28, .iconst 0, 1, [0, 0]), (29, .ireturn, 1, [1])]
def gT_readNumber : List (mv_C H2) := [((0, 0), [], cT_readWord), ((0, 0), [], cV_isIn)]
def tT_isStop : List mv_E := [(0, .aload_n 0, 1, [0]), (1, .getfield 32, 3, [6, 4, 0, 0, 1, 125]), (4, .iconst 3, 1, [0, 3]), (5, .if_icmp .ne 21, 3, [26]), (8, .aload_n 0, 1, [0]), (9, .getfield 9, 3, [6, 0, 1, 0, 1, 120]), (12, .aload_n 0, 1, [0]), (13, .getfield 39, 3, [6, 3, 0, 0, 1, 124]), (16, .iaload, 1, []), (17, .bipush 59, 2, [0, 59]), (19, .if_icmp .ne 7, 3, [26]), (22, .iconst 1, 1, [0, 1]), (23, .goto 4, 3, [27]), (26, .iconst 0, 1, [0, 0]), (27, .ireturn, 1, [1])]
def gT_isStop : List (mv_C H2) := []
def tT_readCloth : List mv_E := [(0, .aload_n 1, 1, [1]), (1, .getfield 75, 3, [2, 9, 0, 0, 1, 70]), (4, .bipush 8, 2, [0, 8]), (6, .if_icmp .lt 5, 3, [11]), (9, .iconst 0, 1, [0, 0]), (10, .ireturn, 1, [1]), (11, .aload_n 1, 1, [1]), (12, .iload_n 2, 1, [2]), (13, .invokevirtual 78, 3, [0, 0, 2, 0, 2, 93, 2, 94, 1, 2, 2, 95]), (16, .istore_n 3, 1, [3]), (17, .aload_n 0, 1, [0]), (18, .invokevirtual 29, 3, [0, 1, 1, 0, 2, 14, 2, 16, 1, 4, 0, 0]), (21, .aload_n 0, 1, [0]), (22, .ldc 82, 2, [1, 3]), (24, .invokevirtual 52, 3, [0, 2, 2, 0, 2, 32, 2, 34, 1, 4, 0, 4]), (27, .ifCond .eq 72, 3, [99]), (30, .aload_n 0, 1, [0]), (31, .iconst 0, 1, [0, 0]), (32, .bipush 9, 2, [0, 9]), (34, .invokevirtual 84, 3, [0, 3, 3, 0, 2, 98, 2, 100, 1, 4, 0, 6]), (37, .ifCond .ne 5, 3, [42]), (40, .iconst 0, 1, [0, 0]), (41, .ireturn, 1, [1]), (42, .aload_n 1, 1, [1]), (43, .getfield 88, 3, [2, 5, 1, 0, 1, 55]), (46, .iload_n 3, 1, [3]), (47, .aload_n 0, 1, [0]), (48, .getfield 91, 3, [6, 5, 0, 0, 1, 126]), (51, .iastore, 1, []), (52, .aload_n 1, 1, [1]), (53, .getfield 94, 3, [2, 6, 1, 0, 1, 58]), (56, .iload_n 3, 1, [3]), (57, .bipush 20, 2, [0, 20]), (59, .iastore, 1, []), (60, .aload_n 0, 1, [0]), (61, .invokevirtual 29, 3, [0, 1, 1, 0, 2, 14, 2, 16, 1, 4, 0, 0]), (64, .aload_n 0, 1, [0]), (65, .ldc 97, 2, [1, 4]), (67, .invokevirtual 52, 3, [0, 2, 2, 0, 2, 32, 2, 34, 1, 4, 0, 4]), (70, .ifCond .eq 29, 3, [99]), (73, .aload_n 0, 1, [0]), (74, .iconst 1, 1, [0, 1]), (75, .bipush 99, 2, [0, 99]), (77, .invokevirtual 84, 3, [0, 3, 3, 0, 2, 98, 2, 100, 1, 4, 0, 6]), (80, .ifCond .ne 5, 3, [85]), (83, .iconst 0, 1, [0, 0]), (84, .ireturn, 1, [1]), (85, .aload_n 1, 1, [1]), (86, .getfield 94, 3, [2, 6, 1, 0, 1, 58]), (89, .iload_n 3, 1, [3]), (90, .aload_n 0, 1, [0]), (91, .getfield 91, 3, [6, 5, 0, 0, 1, 126]), (94, .iastore, 1, []), (95, .aload_n 0, 1, [0]), (96, .invokevirtual 29, 3, [0, 1, 1, 0, 2, 14, 2, 16, 1, 4, 0, 0]), (99, .aload_n 0, 1, [0]), (100, .ldc 99, 2, [1, 5]), (102, .invokevirtual 52, 3, [0, 2, 2, 0, 2, 32, 2, 34, 1, 4, 0, 4]), (105, .ifCond .eq 14, 3, [119]), (108, .aload_n 1, 1, [1]), (109, .getfield 101, 3, [2, 7, 1, 0, 1, 62]), (112, .iload_n 3, 1, [3]), (113, .iconst 1, 1, [0, 1]), (114, .iastore, 1, []), (115, .aload_n 0, 1, [0]), (116, .invokevirtual 29, 3, [0, 1, 1, 0, 2, 14, 2, 16, 1, 4, 0, 0]), (119, .aload_n 0, 1, [0]), (120, .invokevirtual 104, 3, [0, 4, 1, 0, 2, 104, 2, 106, 1, 4, 0, 7]), (123, .ireturn, 1, [1])]
def gT_readCloth : List (mv_C H2) := [((0, 0), [], cM_addCloth), ((0, 0), [], cT_readWord), ((0, 0), [], cT_isName), ((0, 0), [], cT_readNumber), ((0, 0), [], cT_isStop)]
def tT_readName : List mv_E := [(0, .aload_n 0, 1, [0]), (1, .invokevirtual 29, 3, [0, 0, 1, 0, 2, 14, 2, 16, 1, 4, 0, 0]), (4, .aload_n 0, 1, [0]), (5, .aload_n 1, 1, [1]), (6, .invokevirtual 52, 3, [0, 1, 2, 0, 2, 32, 2, 34, 1, 4, 0, 4]), (9, .ireturn, 1, [1])]
def gT_readName : List (mv_C H2) := [((0, 0), [], cT_readWord), ((0, 0), [], cT_isName)]
def tT_readStop : List mv_E := [(0, .aload_n 0, 1, [0]), (1, .invokevirtual 29, 3, [0, 0, 1, 0, 2, 14, 2, 16, 1, 4, 0, 0]), (4, .aload_n 0, 1, [0]), (5, .invokevirtual 104, 3, [0, 1, 1, 0, 2, 104, 2, 106, 1, 4, 0, 7]), (8, .ireturn, 1, [1])]
def gT_readStop : List (mv_C H2) := [((0, 0), [], cT_readWord), ((0, 0), [], cT_isStop)]
def tT_readVat : List mv_E := [(0, .aload_n 0, 1, [0]), (1, .iconst 0, 1, [0, 0]), (2, .bipush 7, 2, [0, 7]), (4, .invokevirtual 84, 3, [0, 0, 3, 0, 2, 98, 2, 100, 1, 4, 0, 6]), (7, .ifCond .ne 5, 3, [12]), (10, .iconst 0, 1, [0, 0]), (11, .ireturn, 1, [1]), (12, .aload_n 0, 1, [0]), (13, .getfield 91, 3, [6, 5, 0, 0, 1, 126]), (16, .istore_n 2, 1, [2]), (17, .aload_n 0, 1, [0]), (18, .ldc 108, 2, [1, 6]), (20, .invokevirtual 110, 3, [0, 1, 2, 0, 2, 114, 2, 116, 1, 4, 0, 9]), (23, .ifCond .eq 13, 3, [36]), (26, .aload_n 0, 1, [0]), (27, .iconst 0, 1, [0, 0]), (28, .bipush 9, 2, [0, 9]), (30, .invokevirtual 84, 3, [0, 0, 3, 0, 2, 98, 2, 100, 1, 4, 0, 6]), (33, .ifCond .ne 5, 3, [38]), (36, .iconst 0, 1, [0, 0]), (37, .ireturn, 1, [1]), (38, .aload_n 1, 1, [1]), (39, .getfield 113, 3, [2, 1, 1, 0, 1, 41]), (42, .iload_n 2, 1, [2]), (43, .aload_n 0, 1, [0]), (44, .getfield 91, 3, [6, 5, 0, 0, 1, 126]), (47, .iastore, 1, []), (48, .aload_n 0, 1, [0]), (49, .invokevirtual 116, 3, [0, 2, 1, 0, 2, 118, 2, 120, 1, 4, 0, 10]), (52, .ireturn, 1, [1])]
def gT_readVat : List (mv_C H2) := [((0, 0), [], cT_readNumber), ((0, 0), [], cT_readName), ((0, 0), [], cT_readStop)]
def tT_readStrong : List mv_E := [(0, .aload_n 0, 1, [0]), (1, .iconst 0, 1, [0, 0]), (2, .bipush 7, 2, [0, 7]), (4, .invokevirtual 84, 3, [0, 0, 3, 0, 2, 98, 2, 100, 1, 4, 0, 6]), (7, .ifCond .ne 5, 3, [12]), (10, .iconst 0, 1, [0, 0]), (11, .ireturn, 1, [1]), (12, .aload_n 0, 1, [0]), (13, .getfield 91, 3, [6, 5, 0, 0, 1, 126]), (16, .istore_n 2, 1, [2]), (17, .aload_n 0, 1, [0]), (18, .iconst 0, 1, [0, 0]), (19, .bipush 9, 2, [0, 9]), (21, .invokevirtual 84, 3, [0, 0, 3, 0, 2, 98, 2, 100, 1, 4, 0, 6]), (24, .ifCond .ne 5, 3, [29]), (27, .iconst 0, 1, [0, 0]), (28, .ireturn, 1, [1]), (29, .aload_n 1, 1, [1]), (30, .getfield 119, 3, [2, 2, 1, 0, 1, 45]), (33, .iload_n 2, 1, [2]), (34, .aload_n 0, 1, [0]), (35, .getfield 91, 3, [6, 5, 0, 0, 1, 126]), (38, .iastore, 1, []), (39, .aload_n 0, 1, [0]), (40, .invokevirtual 116, 3, [0, 1, 1, 0, 2, 118, 2, 120, 1, 4, 0, 10]), (43, .ireturn, 1, [1])]
def gT_readStrong : List (mv_C H2) := [((0, 0), [], cT_readNumber), ((0, 0), [], cT_readStop)]
def tT_readDay : List mv_E := [(0, .aload_n 0, 1, [0]), (1, .iconst 0, 1, [0, 0]), (2, .iconst 5, 1, [0, 5]), (3, .invokevirtual 84, 3, [0, 0, 3, 0, 2, 98, 2, 100, 1, 4, 0, 6]), (6, .ifCond .ne 5, 3, [11]), (9, .iconst 0, 1, [0, 0]), (10, .ireturn, 1, [1]), (11, .aload_n 0, 1, [0]), (12, .getfield 91, 3, [6, 5, 0, 0, 1, 126]), (15, .istore_n 2, 1, [2]), (16, .aload_n 0, 1, [0]), (17, .ldc 50, 2, [1, 0]), (19, .invokevirtual 110, 3, [0, 1, 2, 0, 2, 114, 2, 116, 1, 4, 0, 9]), (22, .ifCond .eq 13, 3, [35]), (25, .aload_n 0, 1, [0]), (26, .iconst 0, 1, [0, 0]), (27, .bipush 7, 2, [0, 7]), (29, .invokevirtual 84, 3, [0, 0, 3, 0, 2, 98, 2, 100, 1, 4, 0, 6]), (32, .ifCond .ne 5, 3, [37]), (35, .iconst 0, 1, [0, 0]), (36, .ireturn, 1, [1]), (37, .aload_n 1, 1, [1]), (38, .getfield 122, 3, [2, 3, 1, 0, 1, 49]), (41, .iload_n 2, 1, [2]), (42, .aload_n 0, 1, [0]), (43, .getfield 91, 3, [6, 5, 0, 0, 1, 126]), (46, .iastore, 1, []), (47, .aload_n 0, 1, [0]), (48, .invokevirtual 116, 3, [0, 2, 1, 0, 2, 118, 2, 120, 1, 4, 0, 10]), (51, .ireturn, 1, [1])]
def gT_readDay : List (mv_C H2) := [((0, 0), [], cT_readNumber), ((0, 0), [], cT_readName), ((0, 0), [], cT_readStop)]
def tT_lawNamed : List mv_E := [(0, .aload_n 0, 1, [0]), (1, .ldc 147, 2, [1, 13]), (3, .invokevirtual 52, 3, [0, 0, 2, 0, 2, 32, 2, 34, 1, 4, 0, 4]), (6, .ifCond .eq 5, 3, [11]), (9, .iconst 0, 1, [0, 0]), (10, .ireturn, 1, [0]), (11, .aload_n 0, 1, [0]), (12, .ldc 149, 2, [1, 14]), (14, .invokevirtual 52, 3, [0, 0, 2, 0, 2, 32, 2, 34, 1, 4, 0, 4]), (17, .ifCond .eq 5, 3, [22]), (20, .iconst 1, 1, [0, 1]), (21, .ireturn, 1, [0]), (22, .aload_n 0, 1, [0]), (23, .ldc 151, 2, [1, 15]), (25, .invokevirtual 52, 3, [0, 0, 2, 0, 2, 32, 2, 34, 1, 4, 0, 4]), (28, .ifCond .eq 5, 3, [33]), (31, .iconst 2, 1, [0, 2]), (32, .ireturn, 1, [0]), (33, .aload_n 0, 1, [0]), (34, .ldc 153, 2, [1, 16]), (36, .invokevirtual 52, 3, [0, 0, 2, 0, 2, 32, 2, 34, 1, 4, 0, 4]), (39, .ifCond .eq 7, 3, [46]), (42, .iconst 3, 1, [0, 3]), (43, .goto 4, 3, [47]), (46, .iconst (-1), 1, [1, 1]), (47, .ireturn, 1, [0])]
def gT_lawNamed : List (mv_C H2) := [((0, 0), [], cT_isName)]
def tV_mostOfLaw : List mv_E := [(0, .iload_n 0, 1, [0]), (1, .iconst 3, 1, [0, 3]), (2, .if_icmp .ne 8, 3, [10]), (5, .bipush 99, 2, [0, 99]), (7, .goto 5, 3, [12]), (10, .bipush 9, 2, [0, 9]), (12, .ireturn, 1, [0])]
def gV_mostOfLaw : List (mv_C H2) := []
def tT_readLaw : List mv_E := [(0, .aload_n 0, 1, [0]), (1, .iconst 0, 1, [0, 0]), (2, .iload_n 2, 1, [2]), (3, .invokestatic 125, 3, [0, 0, 1, 11, 2, 144, 2, 145, 1, 1]), (6, .invokevirtual 84, 3, [0, 1, 3, 0, 2, 98, 2, 100, 1, 4, 0, 6]), (9, .ifCond .ne 5, 3, [14]), (12, .iconst 0, 1, [0, 0]), (13, .ireturn, 1, [1]), (14, .aload_n 1, 1, [1]), (15, .getfield 128, 3, [2, 0, 1, 0, 1, 38]), (18, .iload_n 2, 1, [2]), (19, .aload_n 0, 1, [0]), (20, .getfield 91, 3, [6, 5, 0, 0, 1, 126]), (23, .iastore, 1, []), (24, .aload_n 0, 1, [0]), (25, .invokevirtual 116, 3, [0, 2, 1, 0, 2, 118, 2, 120, 1, 4, 0, 10]), (28, .ireturn, 1, [1])]
def gT_readLaw : List (mv_C H2) := [((0, 0), [], cV_mostOfLaw), ((0, 0), [], cT_readNumber), ((0, 0), [], cT_readStop)]
def tT_readStatement : List mv_E := [(0, .aload_n 0, 1, [0]), (1, .invokevirtual 42, 3, [0, 0, 1, 0, 2, 27, 2, 29, 1, 4, 0, 3]), (4, .istore_n 2, 1, [2]), (5, .iload_n 2, 1, [2]), (6, .ifCond .lt 10, 3, [16]), (9, .aload_n 0, 1, [0]), (10, .aload_n 1, 1, [1]), (11, .iload_n 2, 1, [2]), (12, .invokevirtual 46, 3, [0, 1, 3, 0, 2, 89, 2, 91, 1, 4, 0, 5]), (15, .ireturn, 1, [1]), (16, .aload_n 0, 1, [0]), (17, .ldc 50, 2, [1, 0]), (19, .invokevirtual 52, 3, [0, 2, 2, 0, 2, 32, 2, 34, 1, 4, 0, 4]), (22, .ifCond .eq 9, 3, [31]), (25, .aload_n 0, 1, [0]), (26, .aload_n 1, 1, [1]), (27, .invokevirtual 56, 3, [0, 3, 2, 0, 2, 109, 2, 111, 1, 4, 0, 8]), (30, .ireturn, 1, [1]), (31, .aload_n 0, 1, [0]), (32, .ldc 59, 2, [1, 1]), (34, .invokevirtual 52, 3, [0, 2, 2, 0, 2, 32, 2, 34, 1, 4, 0, 4]), (37, .ifCond .eq 9, 3, [46]), (40, .aload_n 0, 1, [0]), (41, .aload_n 1, 1, [1]), (42, .invokevirtual 61, 3, [0, 4, 2, 0, 2, 123, 2, 125, 1, 4, 0, 11]), (45, .ireturn, 1, [1]), (46, .aload_n 0, 1, [0]), (47, .ldc 64, 2, [1, 2]), (49, .invokevirtual 52, 3, [0, 2, 2, 0, 2, 32, 2, 34, 1, 4, 0, 4]), (52, .ifCond .eq 9, 3, [61]), (55, .aload_n 0, 1, [0]), (56, .aload_n 1, 1, [1]), (57, .invokevirtual 66, 3, [0, 5, 2, 0, 2, 128, 2, 130, 1, 4, 0, 12]), (60, .ireturn, 1, [1]), (61, .aload_n 0, 1, [0]), (62, .invokevirtual 69, 3, [0, 6, 1, 0, 2, 132, 2, 134, 1, 4, 0, 13]), (65, .istore_n 3, 1, [3]), (66, .iload_n 3, 1, [3]), (67, .ifCond .lt 16, 3, [83]), (70, .aload_n 0, 1, [0]), (71, .aload_n 1, 1, [1]), (72, .iload_n 3, 1, [3]), (73, .invokevirtual 72, 3, [0, 7, 3, 0, 2, 140, 2, 142, 1, 4, 0, 14]), (76, .ifCond .eq 7, 3, [83]), (79, .iconst 1, 1, [0, 1]), (80, .goto 4, 3, [84]), (83, .iconst 0, 1, [0, 0]), (84, .ireturn, 1, [1])]
def gT_readStatement : List (mv_C H2) := [((0, 0), [], cT_kindNamed), ((0, 0), [], cT_readCloth), ((0, 0), [], cT_isName), ((0, 0), [], cT_readVat), ((0, 0), [], cT_readStrong), ((0, 0), [], cT_readDay), ((0, 0), [], cT_lawNamed), ((0, 0), [], cT_readLaw)]
def tT_readInto : List mv_E := [(0, .aload_n 1, 1, [1]), (1, .invokevirtual 21, 3, [0, 0, 1, 0, 2, 13, 1, 33, 1, 2, 1, 34]), (4, .aload_n 0, 1, [0]), (5, .iconst 0, 1, [0, 0]), (6, .putfield 26, 3, [6, 2, 0, 0, 1, 123]), (9, .iconst 0, 1, [0, 0]), (10, .istore_n 2, 1, [2]), (11, .iload_n 2, 1, [2]), (12, .aload_n 0, 1, [0]), (13, .getfield 15, 3, [6, 1, 0, 0, 1, 121]), (16, .if_icmp .gt 35, 3, [51]), (19, .aload_n 0, 1, [0]), (20, .invokevirtual 29, 3, [0, 1, 1, 0, 2, 14, 2, 16, 1, 4, 0, 0]), (23, .aload_n 0, 1, [0]), (24, .getfield 32, 3, [6, 4, 0, 0, 1, 125]), (27, .ifCond .ne 5, 3, [32]), (30, .iconst (-1), 1, [1, 1]), (31, .ireturn, 1, [0]), (32, .aload_n 0, 1, [0]), (33, .aload_n 1, 1, [1]), (34, .invokevirtual 35, 3, [0, 2, 2, 0, 2, 23, 2, 25, 1, 4, 0, 2]), (37, .ifCond .ne 8, 3, [45]), (40, .aload_n 0, 1, [0]), (41, .getfield 39, 3, [6, 3, 0, 0, 1, 124]), (44, .ireturn, 1, [0]), (45, .iinc 2 1, 3, [2, 0, 1]), (48, .goto (-37), 3, [11]), (51, .iconst (-1), 1, [1, 1]), (52, .ireturn, 1, [0])]
def gT_readInto : List (mv_C H2) := [((0, 0), [], cM_becomeFirst), ((0, 0), [], cT_readWord), ((0, 0), [], cT_readStatement)]
def tV_feed : List mv_E := [(0, .iload_n 3, 1, [3]), (1, .iconst 1, 1, [0, 1]), (2, .bipush 8, 2, [0, 8]), (4, .invokestatic 67, 3, [0, 0, 3, 1, 1, 233, 1, 234, 1, 1]), (7, .ifCond .ne 5, 3, [12]), (10, .iconst (-1), 1, [1, 1]), (11, .ireturn, 1, [0]), (12, .iload_n 3, 1, [3]), (13, .aload_n 0, 1, [0]), (14, .getfield 36, 3, [7, 5, 1, 0, 1, 203]), (17, .invokevirtual 71, 3, [0, 1, 1, 0, 1, 236, 1, 237, 1, 4, 1, 238]), (20, .if_icmp .le 6, 3, [26]), (23, .bipush (-2), 2, [1, 2]), (25, .ireturn, 1, [0]), (26, .aload_n 0, 1, [0]), (27, .getfield 36, 3, [7, 5, 1, 0, 1, 203]), (30, .lload_n 1, 1, [1]), (31, .iload_n 3, 1, [3]), (32, .invokevirtual 75, 3, [0, 2, 3, 0, 2, 0, 2, 1, 1, 4, 2, 2]), (35, .aload_n 0, 1, [0]), (36, .getfield 36, 3, [7, 5, 1, 0, 1, 203]), (39, .getfield 79, 3, [6, 1, 0, 1, 1, 122]), (42, .ireturn, 1, [0])]
def gV_feed : List (mv_C H2) := [((0, 0), [], cV_isIn), ((0, 0), [], cT_room), ((0, 0), [], cT_take)]
def tV_mill : List mv_E := [(0, .aload_n 0, 1, [0]), (1, .getfield 36, 3, [7, 5, 1, 0, 1, 203]), (4, .aload_n 0, 1, [0]), (5, .getfield 16, 3, [7, 1, 1, 0, 1, 199]), (8, .invokevirtual 83, 3, [0, 0, 2, 0, 2, 9, 2, 10, 1, 4, 2, 11]), (11, .istore_n 1, 1, [1]), (12, .aload_n 0, 1, [0]), (13, .getfield 36, 3, [7, 5, 1, 0, 1, 203]), (16, .invokevirtual 87, 3, [0, 1, 1, 0, 2, 147, 2, 148, 1, 4, 2, 149]), (19, .iload_n 1, 1, [1]), (20, .ifCond .lt 8, 3, [28]), (23, .bipush (-100), 2, [1, 100]), (25, .iload_n 1, 1, [1]), (26, .isub, 1, []), (27, .ireturn, 1, [0]), (28, .aload_n 0, 1, [0]), (29, .getfield 16, 3, [7, 1, 1, 0, 1, 199]), (32, .aload_n 0, 1, [0]), (33, .getfield 10, 3, [7, 0, 1, 0, 1, 198]), (36, .getfield 90, 3, [2, 11, 0, 0, 1, 75]), (39, .putfield 90, 3, [2, 11, 0, 0, 1, 75]), (42, .aload_n 0, 1, [0]), (43, .getfield 10, 3, [7, 0, 1, 0, 1, 198]), (46, .aload_n 0, 1, [0]), (47, .getfield 16, 3, [7, 1, 1, 0, 1, 199]), (50, .invokevirtual 93, 3, [0, 2, 2, 0, 2, 151, 2, 152, 1, 2, 2, 153]), (53, .aload_n 0, 1, [0]), (54, .getfield 43, 3, [7, 6, 1, 0, 1, 204]), (57, .iconst 0, 1, [0, 0]), (58, .putfield 97, 3, [3, 1, 0, 0, 1, 148]), (61, .aload_n 0, 1, [0]), (62, .getfield 10, 3, [7, 0, 1, 0, 1, 198]), (65, .getfield 100, 3, [2, 9, 0, 0, 1, 68]), (68, .ireturn, 1, [0])]
def gV_mill : List (mv_C H2) := [((0, 0), [], cT_readInto), ((0, 0), [], cT_useUp), ((0, 0), [], cM_copyFrom)]
def tV_set : List mv_E := [(0, .iload_n 1, 1, [1]), (1, .iconst 0, 1, [0, 0]), (2, .iconst 3, 1, [0, 3]), (3, .invokestatic 67, 3, [0, 0, 3, 1, 1, 233, 1, 234, 1, 1]), (6, .ifCond .eq 15, 3, [21]), (9, .iload_n 2, 1, [2]), (10, .iconst 0, 1, [0, 0]), (11, .iload_n 1, 1, [1]), (12, .invokestatic 101, 3, [0, 1, 1, 1, 2, 163, 2, 145, 1, 1]), (15, .invokestatic 67, 3, [0, 0, 3, 1, 1, 233, 1, 234, 1, 1]), (18, .ifCond .ne 5, 3, [23]), (21, .iconst (-1), 1, [1, 1]), (22, .ireturn, 1, [0]), (23, .aload_n 0, 1, [0]), (24, .getfield 10, 3, [7, 0, 1, 0, 1, 198]), (27, .getfield 105, 3, [2, 0, 1, 0, 1, 37]), (30, .iload_n 1, 1, [1]), (31, .iaload, 1, []), (32, .istore_n 3, 1, [3]), (33, .aload_n 0, 1, [0]), (34, .getfield 10, 3, [7, 0, 1, 0, 1, 198]), (37, .getfield 105, 3, [2, 0, 1, 0, 1, 37]), (40, .iload_n 1, 1, [1]), (41, .iload_n 2, 1, [2]), (42, .iastore, 1, []), (43, .iload_n 3, 1, [3]), (44, .ireturn, 1, [0])]
def gV_set : List (mv_C H2) := [((0, 0), [], cV_isIn), ((0, 0), [], cV_mostOfLaw)]
def tV_lawOf : List mv_E := [(0, .iload_n 1, 1, [1]), (1, .iconst 0, 1, [0, 0]), (2, .iconst 3, 1, [0, 3]), (3, .invokestatic 67, 3, [0, 0, 3, 1, 1, 233, 1, 234, 1, 1]), (6, .ifCond .eq 15, 3, [21]), (9, .aload_n 0, 1, [0]), (10, .getfield 10, 3, [7, 0, 1, 0, 1, 198]), (13, .getfield 105, 3, [2, 0, 1, 0, 1, 37]), (16, .iload_n 1, 1, [1]), (17, .iaload, 1, []), (18, .goto 4, 3, [22]), (21, .iconst (-1), 1, [1, 1]), (22, .ireturn, 1, [0])]
def gV_lawOf : List (mv_C H2) := [((0, 0), [], cV_isIn)]
def tV_isVat : List mv_E := [(0, .iload_n 0, 1, [0]), (1, .iconst 0, 1, [0, 0]), (2, .bipush 7, 2, [0, 7]), (4, .invokestatic 67, 3, [0, 0, 3, 1, 1, 233, 1, 234, 1, 1]), (7, .ireturn, 1, [1])]
def gV_isVat : List (mv_C H2) := [((0, 0), [], cV_isIn)]
def tV_fill : List mv_E := [(0, .iload_n 1, 1, [1]), (1, .invokestatic 109, 3, [0, 0, 1, 1, 2, 172, 2, 173, 1, 1]), (4, .ifCond .eq 12, 3, [16]), (7, .iload_n 2, 1, [2]), (8, .iconst 0, 1, [0, 0]), (9, .iconst 1, 1, [0, 1]), (10, .invokestatic 67, 3, [0, 1, 3, 1, 1, 233, 1, 234, 1, 1]), (13, .ifCond .ne 5, 3, [18]), (16, .iconst (-1), 1, [1, 1]), (17, .ireturn, 1, [0]), (18, .iload_n 3, 1, [3]), (19, .iconst 0, 1, [0, 0]), (20, .iload_n 2, 1, [2]), (21, .ifCond .ne 8, 3, [29]), (24, .bipush 9, 2, [0, 9]), (26, .goto 5, 3, [31]), (29, .bipush 9, 2, [0, 9]), (31, .invokestatic 67, 3, [0, 1, 3, 1, 1, 233, 1, 234, 1, 1]), (34, .ifCond .ne 5, 3, [39]), (37, .iconst (-1), 1, [1, 1]), (38, .ireturn, 1, [0]), (39, .iload_n 2, 1, [2]), (40, .ifCond .ne 13, 3, [53]), (43, .aload_n 0, 1, [0]), (44, .getfield 10, 3, [7, 0, 1, 0, 1, 198]), (47, .getfield 113, 3, [2, 1, 1, 0, 1, 40]), (50, .goto 10, 3, [60]), (53, .aload_n 0, 1, [0]), (54, .getfield 10, 3, [7, 0, 1, 0, 1, 198]), (57, .getfield 116, 3, [2, 2, 1, 0, 1, 43]), (60, .astore 4, 2, [4]), (62, .aload 4, 2, [4]), (64, .iload_n 1, 1, [1]), (65, .iaload, 1, []), (66, .istore 5, 2, [5]), (68, .aload 4, 2, [4]), (70, .iload_n 1, 1, [1]), (71, .iload_n 3, 1, [3]), (72, .iastore, 1, []), (73, .iload 5, 2, [5]), (75, .ireturn, 1, [0])]
def gV_fill : List (mv_C H2) := [((0, 0), [], cV_isVat), ((0, 0), [], cV_isIn)]
def tV_vatOf : List mv_E := [(0, .iload_n 1, 1, [1]), (1, .invokestatic 109, 3, [0, 0, 1, 1, 2, 172, 2, 173, 1, 1]), (4, .ifCond .eq 12, 3, [16]), (7, .iload_n 2, 1, [2]), (8, .iconst 0, 1, [0, 0]), (9, .iconst 1, 1, [0, 1]), (10, .invokestatic 67, 3, [0, 1, 3, 1, 1, 233, 1, 234, 1, 1]), (13, .ifCond .ne 5, 3, [18]), (16, .iconst (-1), 1, [1, 1]), (17, .ireturn, 1, [0]), (18, .iload_n 2, 1, [2]), (19, .ifCond .ne 15, 3, [34]), (22, .aload_n 0, 1, [0]), (23, .getfield 10, 3, [7, 0, 1, 0, 1, 198]), (26, .getfield 113, 3, [2, 1, 1, 0, 1, 40]), (29, .iload_n 1, 1, [1]), (30, .iaload, 1, []), (31, .goto 12, 3, [43]), (34, .aload_n 0, 1, [0]), (35, .getfield 10, 3, [7, 0, 1, 0, 1, 198]), (38, .getfield 116, 3, [2, 2, 1, 0, 1, 43]), (41, .iload_n 1, 1, [1]), (42, .iaload, 1, []), (43, .ireturn, 1, [0])]
def gV_vatOf : List (mv_C H2) := [((0, 0), [], cV_isVat), ((0, 0), [], cV_isIn)]
def tV_isRest : List mv_E := [(0, .iload_n 0, 1, [0]), (1, .iconst 0, 1, [0, 0]), (2, .iconst 5, 1, [0, 5]), (3, .invokestatic 67, 3, [0, 0, 3, 1, 1, 233, 1, 234, 1, 1]), (6, .ireturn, 1, [1])]
def gV_isRest : List (mv_C H2) := [((0, 0), [], cV_isIn)]
def tV_roster : List mv_E := [(0, .iload_n 1, 1, [1]), (1, .invokestatic 119, 3, [0, 0, 1, 1, 2, 183, 2, 184, 1, 1]), (4, .ifCond .ne 5, 3, [9]), (7, .iconst (-1), 1, [1, 1]), (8, .ireturn, 1, [0]), (9, .iload_n 2, 1, [2]), (10, .iconst (-1), 1, [1, 1]), (11, .if_icmp .eq 12, 3, [23]), (14, .iload_n 2, 1, [2]), (15, .invokestatic 109, 3, [0, 1, 1, 1, 2, 172, 2, 173, 1, 1]), (18, .ifCond .ne 5, 3, [23]), (21, .iconst (-1), 1, [1, 1]), (22, .ireturn, 1, [0]), (23, .aload_n 0, 1, [0]), (24, .getfield 10, 3, [7, 0, 1, 0, 1, 198]), (27, .getfield 122, 3, [2, 3, 1, 0, 1, 47]), (30, .iload_n 1, 1, [1]), (31, .iaload, 1, []), (32, .istore_n 3, 1, [3]), (33, .aload_n 0, 1, [0]), (34, .getfield 10, 3, [7, 0, 1, 0, 1, 198]), (37, .getfield 122, 3, [2, 3, 1, 0, 1, 47]), (40, .iload_n 1, 1, [1]), (41, .iload_n 2, 1, [2]), (42, .iastore, 1, []), (43, .iconst 1, 1, [0, 1]), (44, .iload_n 3, 1, [3]), (45, .iadd, 1, []), (46, .ireturn, 1, [0])]
def gV_roster : List (mv_C H2) := [((0, 0), [], cV_isRest), ((0, 0), [], cV_isVat)]
def tV_rosterOf : List mv_E := [(0, .iload_n 1, 1, [1]), (1, .invokestatic 119, 3, [0, 0, 1, 1, 2, 183, 2, 184, 1, 1]), (4, .ifCond .eq 17, 3, [21]), (7, .iconst 1, 1, [0, 1]), (8, .aload_n 0, 1, [0]), (9, .getfield 10, 3, [7, 0, 1, 0, 1, 198]), (12, .getfield 122, 3, [2, 3, 1, 0, 1, 47]), (15, .iload_n 1, 1, [1]), (16, .iaload, 1, []), (17, .iadd, 1, []), (18, .goto 4, 3, [22]), (21, .iconst (-1), 1, [1, 1]), (22, .ireturn, 1, [0])]
def gV_rosterOf : List (mv_C H2) := [((0, 0), [], cV_isRest)]
def tV_isKind : List mv_E := [(0, .iload_n 0, 1, [0]), (1, .iconst 0, 1, [0, 0]), (2, .iconst 5, 1, [0, 5]), (3, .invokestatic 67, 3, [0, 0, 3, 1, 1, 233, 1, 234, 1, 1]), (6, .ireturn, 1, [1])]
def gV_isKind : List (mv_C H2) := [((0, 0), [], cV_isIn)]
def tV_cloth : List mv_E := [(0, .iload_n 1, 1, [1]), (1, .invokestatic 125, 3, [0, 0, 1, 1, 2, 194, 2, 195, 1, 1]), (4, .ifCond .ne 5, 3, [9]), (7, .iconst (-1), 1, [1, 1]), (8, .ireturn, 1, [0]), (9, .aload_n 0, 1, [0]), (10, .getfield 10, 3, [7, 0, 1, 0, 1, 198]), (13, .getfield 100, 3, [2, 9, 0, 0, 1, 68]), (16, .bipush 8, 2, [0, 8]), (18, .if_icmp .lt 6, 3, [24]), (21, .bipush (-2), 2, [1, 2]), (23, .ireturn, 1, [0]), (24, .aload_n 0, 1, [0]), (25, .getfield 10, 3, [7, 0, 1, 0, 1, 198]), (28, .iload_n 1, 1, [1]), (29, .invokevirtual 128, 3, [0, 1, 2, 0, 2, 197, 2, 94, 1, 2, 2, 95]), (32, .ireturn, 1, [0])]
def gV_cloth : List (mv_C H2) := [((0, 0), [], cV_isKind), ((0, 0), [], cM_addCloth)]
def tV_of : List mv_E := [(0, .aload_n 0, 1, [0]), (1, .getfield 10, 3, [7, 0, 1, 0, 1, 198]), (4, .iload_n 1, 1, [1]), (5, .invokevirtual 131, 3, [0, 0, 2, 0, 2, 202, 2, 203, 1, 2, 2, 204]), (8, .ifCond .ne 5, 3, [13]), (11, .iconst (-1), 1, [1, 1]), (12, .ireturn, 1, [0]), (13, .iload_n 2, 1, [2]), (14, .tableswitch 86 0 4 #[34, 44, 56, 66, 76], 34, [0, 100, 48, 58, 70, 80, 90]), (48, .aload_n 0, 1, [0]), (49, .getfield 10, 3, [7, 0, 1, 0, 1, 198]), (52, .getfield 134, 3, [2, 4, 1, 0, 1, 52]), (55, .iload_n 1, 1, [1]), (56, .iaload, 1, []), (57, .ireturn, 1, [0]), (58, .iconst 1, 1, [0, 1]), (59, .aload_n 0, 1, [0]), (60, .getfield 10, 3, [7, 0, 1, 0, 1, 198]), (63, .getfield 137, 3, [2, 5, 1, 0, 1, 56]), (66, .iload_n 1, 1, [1]), (67, .iaload, 1, []), (68, .iadd, 1, []), (69, .ireturn, 1, [0]), (70, .aload_n 0, 1, [0]), (71, .getfield 10, 3, [7, 0, 1, 0, 1, 198]), (74, .getfield 140, 3, [2, 6, 1, 0, 1, 60]), (77, .iload_n 1, 1, [1]), (78, .iaload, 1, []), (79, .ireturn, 1, [0]), (80, .aload_n 0, 1, [0]), (81, .getfield 10, 3, [7, 0, 1, 0, 1, 198]), (84, .getfield 143, 3, [2, 7, 1, 0, 1, 63]), (87, .iload_n 1, 1, [1]), (88, .iaload, 1, []), (89, .ireturn, 1, [0]), (90, .aload_n 0, 1, [0]), (91, .getfield 10, 3, [7, 0, 1, 0, 1, 198]), (94, .getfield 146, 3, [2, 8, 1, 0, 1, 66]), (97, .iload_n 1, 1, [1]), (98, .iaload, 1, []), (99, .ireturn, 1, [0]), (100, .iconst (-1), 1, [1, 1]), (101, .ireturn, 1, [0])]
def gV_of : List (mv_C H2) := [((0, 0), [], cM_has)]
def tV_does : List mv_E := [(0, .aload_n 0, 1, [0]), (1, .getfield 10, 3, [7, 0, 1, 0, 1, 198]), (4, .iload_n 1, 1, [1]), (5, .invokevirtual 131, 3, [0, 0, 2, 0, 2, 202, 2, 203, 1, 2, 2, 204]), (8, .ifCond .eq 10, 3, [18]), (11, .iload_n 2, 1, [2]), (12, .invokestatic 109, 3, [0, 1, 1, 1, 2, 172, 2, 173, 1, 1]), (15, .ifCond .ne 5, 3, [20]), (18, .iconst (-1), 1, [1, 1]), (19, .ireturn, 1, [0]), (20, .iload_n 3, 1, [3]), (21, .tableswitch 68 0 2 #[27, 41, 55], 27, [0, 89, 48, 62, 76]), (48, .sipush 1000, 3, [0, 1000]), (51, .aload_n 0, 1, [0]), (52, .getfield 10, 3, [7, 0, 1, 0, 1, 198]), (55, .iload_n 1, 1, [1]), (56, .iload_n 2, 1, [2]), (57, .invokevirtual 149, 3, [0, 2, 3, 0, 2, 211, 2, 212, 1, 2, 2, 213]), (60, .iadd, 1, []), (61, .ireturn, 1, [0]), (62, .sipush 1000, 3, [0, 1000]), (65, .aload_n 0, 1, [0]), (66, .getfield 10, 3, [7, 0, 1, 0, 1, 198]), (69, .iload_n 1, 1, [1]), (70, .iload_n 2, 1, [2]), (71, .invokevirtual 153, 3, [0, 3, 3, 0, 2, 215, 2, 216, 1, 2, 2, 217]), (74, .iadd, 1, []), (75, .ireturn, 1, [0]), (76, .sipush 1000, 3, [0, 1000]), (79, .aload_n 0, 1, [0]), (80, .getfield 10, 3, [7, 0, 1, 0, 1, 198]), (83, .iload_n 1, 1, [1]), (84, .invokevirtual 156, 3, [0, 4, 2, 0, 2, 219, 2, 220, 1, 2, 2, 221]), (87, .iadd, 1, []), (88, .ireturn, 1, [0]), (89, .iconst (-1), 1, [1, 1]), (90, .ireturn, 1, [0])]
def gV_does : List (mv_C H2) := [((0, 0), [], cM_has), ((0, 0), [], cV_isVat), ((0, 0), [], cM_takes), ((0, 0), [], cM_fights), ((0, 0), [], cM_fades)]
def tV_mind : List mv_E := [(0, .aload_n 0, 1, [0]), (1, .getfield 10, 3, [7, 0, 1, 0, 1, 198]), (4, .iload_n 1, 1, [1]), (5, .invokevirtual 131, 3, [0, 0, 2, 0, 2, 202, 2, 203, 1, 2, 2, 204]), (8, .ifCond .eq 10, 3, [18]), (11, .iload_n 2, 1, [2]), (12, .invokestatic 125, 3, [0, 1, 1, 1, 2, 194, 2, 195, 1, 1]), (15, .ifCond .ne 5, 3, [20]), (18, .iconst (-1), 1, [1, 1]), (19, .ireturn, 1, [0]), (20, .aload_n 0, 1, [0]), (21, .getfield 10, 3, [7, 0, 1, 0, 1, 198]), (24, .getfield 134, 3, [2, 4, 1, 0, 1, 52]), (27, .iload_n 1, 1, [1]), (28, .iaload, 1, []), (29, .istore_n 3, 1, [3]), (30, .aload_n 0, 1, [0]), (31, .getfield 10, 3, [7, 0, 1, 0, 1, 198]), (34, .getfield 134, 3, [2, 4, 1, 0, 1, 52]), (37, .iload_n 1, 1, [1]), (38, .iload_n 2, 1, [2]), (39, .iastore, 1, []), (40, .iload_n 3, 1, [3]), (41, .ireturn, 1, [0])]
def gV_mind : List (mv_C H2) := [((0, 0), [], cM_has), ((0, 0), [], cV_isKind)]
def tV_isPurpose : List mv_E := [(0, .iload_n 0, 1, [0]), (1, .iconst 0, 1, [0, 0]), (2, .bipush 9, 2, [0, 9]), (4, .invokestatic 67, 3, [0, 0, 3, 1, 1, 233, 1, 234, 1, 1]), (7, .ireturn, 1, [1])]
def gV_isPurpose : List (mv_C H2) := [((0, 0), [], cV_isIn)]
def tV_steep : List mv_E := [(0, .aload_n 0, 1, [0]), (1, .getfield 10, 3, [7, 0, 1, 0, 1, 198]), (4, .iload_n 1, 1, [1]), (5, .invokevirtual 131, 3, [0, 0, 2, 0, 2, 202, 2, 203, 1, 2, 2, 204]), (8, .ifCond .ne 5, 3, [13]), (11, .iconst (-1), 1, [1, 1]), (12, .ireturn, 1, [0]), (13, .iload_n 2, 1, [2]), (14, .iconst (-1), 1, [1, 1]), (15, .if_icmp .ne 11, 3, [26]), (18, .iload_n 3, 1, [3]), (19, .ifCond .ne 7, 3, [26]), (22, .iconst 1, 1, [0, 1]), (23, .goto 4, 3, [27]), (26, .iconst 0, 1, [0, 0]), (27, .istore 4, 2, [4]), (29, .iload 4, 2, [4]), (31, .ifCond .ne 22, 3, [53]), (34, .iload_n 2, 1, [2]), (35, .invokestatic 159, 3, [0, 1, 1, 1, 2, 231, 2, 232, 1, 1]), (38, .ifCond .eq 13, 3, [51]), (41, .iload_n 3, 1, [3]), (42, .iconst 1, 1, [0, 1]), (43, .bipush 99, 2, [0, 99]), (45, .invokestatic 67, 3, [0, 2, 3, 1, 1, 233, 1, 234, 1, 1]), (48, .ifCond .ne 5, 3, [53]), (51, .iconst (-1), 1, [1, 1]), (52, .ireturn, 1, [0]), (53, .aload_n 0, 1, [0]), (54, .getfield 10, 3, [7, 0, 1, 0, 1, 198]), (57, .getfield 137, 3, [2, 5, 1, 0, 1, 56]), (60, .iload_n 1, 1, [1]), (61, .iaload, 1, []), (62, .istore 5, 2, [5]), (64, .aload_n 0, 1, [0]), (65, .getfield 10, 3, [7, 0, 1, 0, 1, 198]), (68, .getfield 137, 3, [2, 5, 1, 0, 1, 56]), (71, .iload_n 1, 1, [1]), (72, .iload_n 2, 1, [2]), (73, .iastore, 1, []), (74, .aload_n 0, 1, [0]), (75, .getfield 10, 3, [7, 0, 1, 0, 1, 198]), (78, .getfield 140, 3, [2, 6, 1, 0, 1, 60]), (81, .iload_n 1, 1, [1]), (82, .iload_n 3, 1, [3]), (83, .iastore, 1, []), (84, .iconst 1, 1, [0, 1]), (85, .iload 5, 2, [5]), (87, .iadd, 1, []), (88, .ireturn, 1, [0])]
def gV_steep : List (mv_C H2) := [((0, 0), [], cM_has), ((0, 0), [], cV_isPurpose), ((0, 0), [], cV_isIn)]
def tV_hang : List mv_E := [(0, .aload_n 0, 1, [0]), (1, .getfield 10, 3, [7, 0, 1, 0, 1, 198]), (4, .iload_n 1, 1, [1]), (5, .invokevirtual 131, 3, [0, 0, 2, 0, 2, 202, 2, 203, 1, 2, 2, 204]), (8, .ifCond .eq 12, 3, [20]), (11, .iload_n 2, 1, [2]), (12, .iconst 0, 1, [0, 0]), (13, .iconst 1, 1, [0, 1]), (14, .invokestatic 67, 3, [0, 1, 3, 1, 1, 233, 1, 234, 1, 1]), (17, .ifCond .ne 5, 3, [22]), (20, .iconst (-1), 1, [1, 1]), (21, .ireturn, 1, [0]), (22, .aload_n 0, 1, [0]), (23, .getfield 10, 3, [7, 0, 1, 0, 1, 198]), (26, .getfield 143, 3, [2, 7, 1, 0, 1, 63]), (29, .iload_n 1, 1, [1]), (30, .iaload, 1, []), (31, .istore_n 3, 1, [3]), (32, .aload_n 0, 1, [0]), (33, .getfield 10, 3, [7, 0, 1, 0, 1, 198]), (36, .getfield 143, 3, [2, 7, 1, 0, 1, 63]), (39, .iload_n 1, 1, [1]), (40, .iload_n 2, 1, [2]), (41, .iastore, 1, []), (42, .iload_n 3, 1, [3]), (43, .ireturn, 1, [0])]
def gV_hang : List (mv_C H2) := [((0, 0), [], cM_has), ((0, 0), [], cV_isIn)]
def tV_dip : List mv_E := [(0, .aload_n 0, 1, [0]), (1, .getfield 10, 3, [7, 0, 1, 0, 1, 198]), (4, .iload_n 1, 1, [1]), (5, .invokevirtual 131, 3, [0, 0, 2, 0, 2, 202, 2, 203, 1, 2, 2, 204]), (8, .ifCond .eq 10, 3, [18]), (11, .iload_n 2, 1, [2]), (12, .invokestatic 109, 3, [0, 1, 1, 1, 2, 172, 2, 173, 1, 1]), (15, .ifCond .ne 5, 3, [20]), (18, .iconst (-1), 1, [1, 1]), (19, .ireturn, 1, [0]), (20, .aload_n 0, 1, [0]), (21, .getfield 10, 3, [7, 0, 1, 0, 1, 198]), (24, .iload_n 1, 1, [1]), (25, .iload_n 2, 1, [2]), (26, .invokevirtual 162, 3, [0, 2, 3, 0, 3, 2, 3, 3, 1, 2, 3, 4]), (29, .iconst 1, 1, [0, 1]), (30, .aload_n 0, 1, [0]), (31, .getfield 10, 3, [7, 0, 1, 0, 1, 198]), (34, .getfield 137, 3, [2, 5, 1, 0, 1, 56]), (37, .iload_n 1, 1, [1]), (38, .iaload, 1, []), (39, .iadd, 1, []), (40, .ireturn, 1, [0])]
def gV_dip : List (mv_C H2) := [((0, 0), [], cM_has), ((0, 0), [], cV_isVat), ((0, 0), [], cM_dipInto)]
def tV_days : List mv_E := [(0, .iload_n 1, 1, [1]), (1, .iconst 1, 1, [0, 1]), (2, .bipush 60, 2, [0, 60]), (4, .invokestatic 67, 3, [0, 0, 3, 1, 1, 233, 1, 234, 1, 1]), (7, .ifCond .ne 5, 3, [12]), (10, .iconst (-1), 1, [1, 1]), (11, .ireturn, 1, [0]), (12, .aload_n 0, 1, [0]), (13, .getfield 10, 3, [7, 0, 1, 0, 1, 198]), (16, .iload_n 1, 1, [1]), (17, .invokevirtual 166, 3, [0, 1, 2, 0, 3, 16, 3, 17, 1, 2, 3, 18]), (20, .aload_n 0, 1, [0]), (21, .getfield 10, 3, [7, 0, 1, 0, 1, 198]), (24, .invokevirtual 170, 3, [0, 2, 1, 0, 3, 34, 3, 35, 1, 2, 3, 36]), (27, .ireturn, 1, [0])]
def gV_days : List (mv_C H2) := [((0, 0), [], cV_isIn), ((0, 0), [], cM_passDays), ((0, 0), [], cM_allDepths)]
def tV_seed : List mv_E := [(0, .aload_n 0, 1, [0]), (1, .getfield 10, 3, [7, 0, 1, 0, 1, 198]), (4, .getfield 90, 3, [2, 11, 0, 0, 1, 75]), (7, .istore_n 2, 1, [2]), (8, .aload_n 0, 1, [0]), (9, .getfield 10, 3, [7, 0, 1, 0, 1, 198]), (12, .iload_n 1, 1, [1]), (13, .putfield 90, 3, [2, 11, 0, 0, 1, 75]), (16, .iload_n 2, 1, [2]), (17, .ireturn, 1, [0])]
def gV_seed : List (mv_C H2) := []
def tV_day : List mv_E := [(0, .aload_n 0, 1, [0]), (1, .getfield 10, 3, [7, 0, 1, 0, 1, 198]), (4, .invokevirtual 173, 3, [0, 0, 1, 0, 3, 46, 3, 47, 1, 2, 3, 48]), (7, .aload_n 0, 1, [0]), (8, .getfield 10, 3, [7, 0, 1, 0, 1, 198]), (11, .invokevirtual 170, 3, [0, 1, 1, 0, 3, 34, 3, 35, 1, 2, 3, 36]), (14, .ireturn, 1, [0])]
def gV_day : List (mv_C H2) := [((0, 0), [], cM_passDrawnDay), ((0, 0), [], cM_allDepths)]
def tV_luck : List mv_E := [(0, .iload_n 1, 1, [1]), (1, .iconst 1, 1, [0, 1]), (2, .bipush 30, 2, [0, 30]), (4, .invokestatic 67, 3, [0, 0, 3, 1, 1, 233, 1, 234, 1, 1]), (7, .ifCond .eq 18, 3, [25]), (10, .aload_n 0, 1, [0]), (11, .getfield 29, 3, [7, 4, 1, 0, 1, 202]), (14, .aload_n 0, 1, [0]), (15, .getfield 10, 3, [7, 0, 1, 0, 1, 198]), (18, .iload_n 1, 1, [1]), (19, .invokevirtual 176, 3, [0, 1, 3, 0, 3, 59, 3, 60, 1, 3, 3, 61]), (22, .goto 4, 3, [26]), (25, .iconst (-1), 1, [1, 1]), (26, .ireturn, 1, [0])]
def gV_luck : List (mv_C H2) := [((0, 0), [], cV_isIn), ((0, 0), [], cF_luckyDays)]
def tV_state : List mv_E := [(0, .iload_n 1, 1, [1]), (1, .tableswitch 89 0 5 #[39, 47, 57, 65, 73, 81], 39, [0, 90, 40, 48, 58, 66, 74, 82]), (40, .aload_n 0, 1, [0]), (41, .getfield 10, 3, [7, 0, 1, 0, 1, 198]), (44, .getfield 180, 3, [2, 10, 0, 0, 1, 72]), (47, .ireturn, 1, [0]), (48, .iconst 1, 1, [0, 1]), (49, .aload_n 0, 1, [0]), (50, .getfield 10, 3, [7, 0, 1, 0, 1, 198]), (53, .invokevirtual 183, 3, [0, 0, 1, 0, 3, 75, 3, 25, 1, 2, 3, 26]), (56, .iadd, 1, []), (57, .ireturn, 1, [0]), (58, .aload_n 0, 1, [0]), (59, .getfield 10, 3, [7, 0, 1, 0, 1, 198]), (62, .invokevirtual 186, 3, [0, 1, 1, 0, 3, 76, 3, 77, 1, 2, 3, 78]), (65, .ireturn, 1, [0]), (66, .aload_n 0, 1, [0]), (67, .getfield 10, 3, [7, 0, 1, 0, 1, 198]), (70, .invokevirtual 189, 3, [0, 2, 1, 0, 3, 80, 3, 81, 1, 2, 3, 82]), (73, .ireturn, 1, [0]), (74, .aload_n 0, 1, [0]), (75, .getfield 10, 3, [7, 0, 1, 0, 1, 198]), (78, .invokevirtual 170, 3, [0, 3, 1, 0, 3, 34, 3, 35, 1, 2, 3, 36]), (81, .ireturn, 1, [0]), (82, .aload_n 0, 1, [0]), (83, .getfield 10, 3, [7, 0, 1, 0, 1, 198]), (86, .invokevirtual 192, 3, [0, 4, 1, 0, 3, 84, 3, 85, 1, 2, 3, 86]), (89, .ireturn, 1, [0]), (90, .iconst (-1), 1, [1, 1]), (91, .ireturn, 1, [0])]
def gV_state : List (mv_C H2) := [((0, 0), [], cM_vatOfToday), ((0, 0), [], cM_hungSet), ((0, 0), [], cM_aboutSet), ((0, 0), [], cM_allDepths), ((0, 0), [], cM_oddPairs)]
def tV_isDays : List mv_E := [(0, .iload_n 0, 1, [0]), (1, .iconst 0, 1, [0, 0]), (2, .bipush 60, 2, [0, 60]), (4, .invokestatic 67, 3, [0, 0, 3, 1, 1, 233, 1, 234, 1, 1]), (7, .ireturn, 1, [1])]
def gV_isDays : List (mv_C H2) := [((0, 0), [], cV_isIn)]
def tV_gone : List mv_E := [(0, .aload_n 0, 1, [0]), (1, .getfield 10, 3, [7, 0, 1, 0, 1, 198]), (4, .iload_n 1, 1, [1]), (5, .invokevirtual 131, 3, [0, 0, 2, 0, 2, 202, 2, 203, 1, 2, 2, 204]), (8, .ifCond .eq 10, 3, [18]), (11, .iload_n 2, 1, [2]), (12, .invokestatic 195, 3, [0, 1, 1, 1, 3, 96, 3, 97, 1, 1]), (15, .ifCond .ne 5, 3, [20]), (18, .iconst (-1), 1, [1, 1]), (19, .ireturn, 1, [0]), (20, .iconst 1, 1, [0, 1]), (21, .aload_n 0, 1, [0]), (22, .getfield 29, 3, [7, 4, 1, 0, 1, 202]), (25, .aload_n 0, 1, [0]), (26, .getfield 10, 3, [7, 0, 1, 0, 1, 198]), (29, .iload_n 2, 1, [2]), (30, .invokevirtual 198, 3, [0, 2, 3, 0, 3, 99, 3, 64, 1, 3, 3, 65]), (33, .getfield 137, 3, [2, 5, 1, 0, 1, 56]), (36, .iload_n 1, 1, [1]), (37, .iaload, 1, []), (38, .iadd, 1, []), (39, .ireturn, 1, [0])]
def gV_gone : List (mv_C H2) := [((0, 0), [], cM_has), ((0, 0), [], cV_isDays), ((0, 0), [], cF_behind)]
def tV_depth : List mv_E := [(0, .aload_n 0, 1, [0]), (1, .getfield 10, 3, [7, 0, 1, 0, 1, 198]), (4, .iload_n 1, 1, [1]), (5, .invokevirtual 131, 3, [0, 0, 2, 0, 2, 202, 2, 203, 1, 2, 2, 204]), (8, .ifCond .eq 10, 3, [18]), (11, .iload_n 2, 1, [2]), (12, .invokestatic 195, 3, [0, 1, 1, 1, 3, 96, 3, 97, 1, 1]), (15, .ifCond .ne 5, 3, [20]), (18, .iconst (-1), 1, [1, 1]), (19, .ireturn, 1, [0]), (20, .aload_n 0, 1, [0]), (21, .getfield 29, 3, [7, 4, 1, 0, 1, 202]), (24, .aload_n 0, 1, [0]), (25, .getfield 10, 3, [7, 0, 1, 0, 1, 198]), (28, .iload_n 2, 1, [2]), (29, .invokevirtual 198, 3, [0, 2, 3, 0, 3, 99, 3, 64, 1, 3, 3, 65]), (32, .getfield 140, 3, [2, 6, 1, 0, 1, 60]), (35, .iload_n 1, 1, [1]), (36, .iaload, 1, []), (37, .ireturn, 1, [0])]
def gV_depth : List (mv_C H2) := [((0, 0), [], cM_has), ((0, 0), [], cV_isDays), ((0, 0), [], cF_behind)]
def tV_comes : List mv_E := [(0, .aload_n 0, 1, [0]), (1, .getfield 10, 3, [7, 0, 1, 0, 1, 198]), (4, .iload_n 1, 1, [1]), (5, .invokevirtual 131, 3, [0, 0, 2, 0, 2, 202, 2, 203, 1, 2, 2, 204]), (8, .ifCond .eq 10, 3, [18]), (11, .iload_n 2, 1, [2]), (12, .invokestatic 159, 3, [0, 1, 1, 1, 2, 231, 2, 232, 1, 1]), (15, .ifCond .ne 5, 3, [20]), (18, .iconst (-1), 1, [1, 1]), (19, .ireturn, 1, [0]), (20, .aload_n 0, 1, [0]), (21, .getfield 29, 3, [7, 4, 1, 0, 1, 202]), (24, .aload_n 0, 1, [0]), (25, .getfield 10, 3, [7, 0, 1, 0, 1, 198]), (28, .iload_n 1, 1, [1]), (29, .iload_n 2, 1, [2]), (30, .invokevirtual 202, 3, [0, 2, 4, 0, 3, 108, 3, 109, 1, 3, 3, 110]), (33, .ireturn, 1, [0])]
def gV_comes : List (mv_C H2) := [((0, 0), [], cM_has), ((0, 0), [], cV_isPurpose), ((0, 0), [], cF_daysUntilAbout)]
def tV_bare : List mv_E := [(0, .aload_n 0, 1, [0]), (1, .getfield 10, 3, [7, 0, 1, 0, 1, 198]), (4, .iload_n 1, 1, [1]), (5, .invokevirtual 131, 3, [0, 0, 2, 0, 2, 202, 2, 203, 1, 2, 2, 204]), (8, .ifCond .eq 19, 3, [27]), (11, .aload_n 0, 1, [0]), (12, .getfield 29, 3, [7, 4, 1, 0, 1, 202]), (15, .aload_n 0, 1, [0]), (16, .getfield 10, 3, [7, 0, 1, 0, 1, 198]), (19, .iload_n 1, 1, [1]), (20, .iconst (-1), 1, [1, 1]), (21, .invokevirtual 202, 3, [0, 1, 4, 0, 3, 108, 3, 109, 1, 3, 3, 110]), (24, .goto 4, 3, [28]), (27, .iconst (-1), 1, [1, 1]), (28, .ireturn, 1, [0])]
def gV_bare : List (mv_C H2) := [((0, 0), [], cM_has), ((0, 0), [], cF_daysUntilAbout)]
def tV_spoilt : List mv_E := [(0, .iload_n 1, 1, [1]), (1, .invokestatic 195, 3, [0, 0, 1, 1, 3, 96, 3, 97, 1, 1]), (4, .ifCond .eq 18, 3, [22]), (7, .aload_n 0, 1, [0]), (8, .getfield 29, 3, [7, 4, 1, 0, 1, 202]), (11, .aload_n 0, 1, [0]), (12, .getfield 10, 3, [7, 0, 1, 0, 1, 198]), (15, .iload_n 1, 1, [1]), (16, .invokevirtual 206, 3, [0, 1, 3, 0, 3, 121, 3, 122, 1, 3, 3, 123]), (19, .goto 4, 3, [23]), (22, .iconst (-1), 1, [1, 1]), (23, .ireturn, 1, [0])]
def gV_spoilt : List (mv_C H2) := [((0, 0), [], cV_isDays), ((0, 0), [], cF_spoiltBehind)]
def tV_through : List mv_E := [(0, .aload_n 0, 1, [0]), (1, .getfield 10, 3, [7, 0, 1, 0, 1, 198]), (4, .iload_n 1, 1, [1]), (5, .invokevirtual 131, 3, [0, 0, 2, 0, 2, 202, 2, 203, 1, 2, 2, 204]), (8, .ifCond .eq 10, 3, [18]), (11, .iload_n 2, 1, [2]), (12, .invokestatic 159, 3, [0, 1, 1, 1, 2, 231, 2, 232, 1, 1]), (15, .ifCond .ne 5, 3, [20]), (18, .iconst (-1), 1, [1, 1]), (19, .ireturn, 1, [0]), (20, .aload_n 0, 1, [0]), (21, .getfield 29, 3, [7, 4, 1, 0, 1, 202]), (24, .aload_n 0, 1, [0]), (25, .getfield 10, 3, [7, 0, 1, 0, 1, 198]), (28, .iload_n 1, 1, [1]), (29, .iload_n 2, 1, [2]), (30, .invokevirtual 209, 3, [0, 2, 4, 0, 3, 133, 3, 134, 1, 3, 3, 135]), (33, .ireturn, 1, [0])]
def gV_through : List (mv_C H2) := [((0, 0), [], cM_has), ((0, 0), [], cV_isPurpose), ((0, 0), [], cF_vatsThrough)]
def tV_vatFor : List mv_E := [(0, .iload_n 1, 1, [1]), (1, .invokestatic 119, 3, [0, 0, 1, 1, 2, 183, 2, 184, 1, 1]), (4, .ifCond .eq 13, 3, [17]), (7, .iload_n 2, 1, [2]), (8, .iconst 1, 1, [0, 1]), (9, .bipush 40, 2, [0, 40]), (11, .invokestatic 67, 3, [0, 1, 3, 1, 1, 233, 1, 234, 1, 1]), (14, .ifCond .ne 5, 3, [19]), (17, .iconst (-1), 1, [1, 1]), (18, .ireturn, 1, [0]), (19, .aload_n 0, 1, [0]), (20, .getfield 29, 3, [7, 4, 1, 0, 1, 202]), (23, .aload_n 0, 1, [0]), (24, .getfield 10, 3, [7, 0, 1, 0, 1, 198]), (27, .iload_n 1, 1, [1]), (28, .iload_n 2, 1, [2]), (29, .invokevirtual 212, 3, [0, 2, 4, 0, 3, 147, 3, 148, 1, 3, 3, 149]), (32, .ireturn, 1, [0])]
def gV_vatFor : List (mv_C H2) := [((0, 0), [], cV_isRest), ((0, 0), [], cV_isIn), ((0, 0), [], cF_deepestVat)]
def tV_kindFor : List mv_E := [(0, .aload_n 0, 1, [0]), (1, .getfield 10, 3, [7, 0, 1, 0, 1, 198]), (4, .iload_n 1, 1, [1]), (5, .invokevirtual 131, 3, [0, 0, 2, 0, 2, 202, 2, 203, 1, 2, 2, 204]), (8, .ifCond .eq 13, 3, [21]), (11, .iload_n 2, 1, [2]), (12, .iconst 1, 1, [0, 1]), (13, .bipush 40, 2, [0, 40]), (15, .invokestatic 67, 3, [0, 1, 3, 1, 1, 233, 1, 234, 1, 1]), (18, .ifCond .ne 5, 3, [23]), (21, .iconst (-1), 1, [1, 1]), (22, .ireturn, 1, [0]), (23, .aload_n 0, 1, [0]), (24, .getfield 29, 3, [7, 4, 1, 0, 1, 202]), (27, .aload_n 0, 1, [0]), (28, .getfield 10, 3, [7, 0, 1, 0, 1, 198]), (31, .iload_n 1, 1, [1]), (32, .iload_n 2, 1, [2]), (33, .invokevirtual 215, 3, [0, 2, 4, 0, 3, 155, 3, 156, 1, 3, 3, 157]), (36, .ireturn, 1, [0])]
def gV_kindFor : List (mv_C H2) := [((0, 0), [], cM_has), ((0, 0), [], cV_isIn), ((0, 0), [], cF_deepestKind)]
def tV_strengthFor : List mv_E := [(0, .iload_n 1, 1, [1]), (1, .invokestatic 109, 3, [0, 0, 1, 1, 2, 172, 2, 173, 1, 1]), (4, .ifCond .eq 14, 3, [18]), (7, .aload_n 0, 1, [0]), (8, .getfield 10, 3, [7, 0, 1, 0, 1, 198]), (11, .iload_n 2, 1, [2]), (12, .invokevirtual 131, 3, [0, 1, 2, 0, 2, 202, 2, 203, 1, 2, 2, 204]), (15, .ifCond .ne 5, 3, [20]), (18, .iconst (-1), 1, [1, 1]), (19, .ireturn, 1, [0]), (20, .iload_n 3, 1, [3]), (21, .invokestatic 159, 3, [0, 2, 1, 1, 2, 231, 2, 232, 1, 1]), (24, .ifCond .eq 14, 3, [38]), (27, .iload 4, 2, [4]), (29, .iconst 1, 1, [0, 1]), (30, .bipush 40, 2, [0, 40]), (32, .invokestatic 67, 3, [0, 3, 3, 1, 1, 233, 1, 234, 1, 1]), (35, .ifCond .ne 5, 3, [40]), (38, .iconst (-1), 1, [1, 1]), (39, .ireturn, 1, [0]), (40, .aload_n 0, 1, [0]), (41, .getfield 29, 3, [7, 4, 1, 0, 1, 202]), (44, .aload_n 0, 1, [0]), (45, .getfield 10, 3, [7, 0, 1, 0, 1, 198]), (48, .iload_n 1, 1, [1]), (49, .iload_n 2, 1, [2]), (50, .iload_n 3, 1, [3]), (51, .iload 4, 2, [4]), (53, .invokevirtual 218, 3, [0, 4, 6, 0, 3, 163, 3, 164, 1, 3, 3, 165]), (56, .ireturn, 1, [0])]
def gV_strengthFor : List (mv_C H2) := [((0, 0), [], cV_isVat), ((0, 0), [], cM_has), ((0, 0), [], cV_isPurpose), ((0, 0), [], cV_isIn), ((0, 0), [], cF_leastStrength)]
def tV_hangFor : List mv_E := [(0, .iload_n 1, 1, [1]), (1, .iconst 1, 1, [0, 1]), (2, .bipush 30, 2, [0, 30]), (4, .invokestatic 67, 3, [0, 0, 3, 1, 1, 233, 1, 234, 1, 1]), (7, .ifCond .eq 13, 3, [20]), (10, .iload_n 2, 1, [2]), (11, .iconst 0, 1, [0, 0]), (12, .bipush 8, 2, [0, 8]), (14, .invokestatic 67, 3, [0, 0, 3, 1, 1, 233, 1, 234, 1, 1]), (17, .ifCond .ne 5, 3, [22]), (20, .iconst (-1), 1, [1, 1]), (21, .ireturn, 1, [0]), (22, .aload_n 0, 1, [0]), (23, .getfield 29, 3, [7, 4, 1, 0, 1, 202]), (26, .aload_n 0, 1, [0]), (27, .getfield 10, 3, [7, 0, 1, 0, 1, 198]), (30, .iload_n 1, 1, [1]), (31, .iload_n 2, 1, [2]), (32, .invokevirtual 222, 3, [0, 1, 4, 0, 3, 171, 3, 172, 1, 3, 3, 173]), (35, .ireturn, 1, [0])]
def gV_hangFor : List (mv_C H2) := [((0, 0), [], cV_isIn), ((0, 0), [], cF_fewestHung)]
def tV_isSheet : List mv_E := [(0, .iload_n 0, 1, [0]), (1, .iconst 0, 1, [0, 0]), (2, .iconst 3, 1, [0, 3]), (3, .invokestatic 67, 3, [0, 0, 3, 1, 1, 233, 1, 234, 1, 1]), (6, .ireturn, 1, [1])]
def gV_isSheet : List (mv_C H2) := [((0, 0), [], cV_isIn)]
def tV_fits : List mv_E := [(0, .iload_n 1, 1, [1]), (1, .invokestatic 225, 3, [0, 0, 1, 1, 3, 189, 3, 190, 1, 1]), (4, .ifCond .eq 23, 3, [27]), (7, .aload_n 0, 1, [0]), (8, .getfield 10, 3, [7, 0, 1, 0, 1, 198]), (11, .iload_n 2, 1, [2]), (12, .invokevirtual 131, 3, [0, 1, 2, 0, 2, 202, 2, 203, 1, 2, 2, 204]), (15, .ifCond .eq 12, 3, [27]), (18, .iload_n 3, 1, [3]), (19, .iconst 0, 1, [0, 0]), (20, .iconst 1, 1, [0, 1]), (21, .invokestatic 67, 3, [0, 2, 3, 1, 1, 233, 1, 234, 1, 1]), (24, .ifCond .ne 5, 3, [29]), (27, .iconst (-1), 1, [1, 1]), (28, .ireturn, 1, [0]), (29, .aload_n 0, 1, [0]), (30, .getfield 49, 3, [7, 7, 1, 0, 1, 205]), (33, .iload_n 1, 1, [1]), (34, .aaload, 1, []), (35, .astore 4, 2, [4]), (37, .aload 4, 2, [4]), (39, .ifnonnull 6, 3, [45]), (42, .bipush (-11), 2, [1, 11]), (44, .ireturn, 1, [0]), (45, .iload_n 3, 1, [3]), (46, .ifCond .ne 18, 3, [64]), (49, .aload_n 0, 1, [0]), (50, .getfield 29, 3, [7, 4, 1, 0, 1, 202]), (53, .aload_n 0, 1, [0]), (54, .getfield 10, 3, [7, 0, 1, 0, 1, 198]), (57, .iload_n 2, 1, [2]), (58, .aload 4, 2, [4]), (60, .invokevirtual 228, 3, [0, 3, 4, 0, 3, 192, 3, 193, 1, 3, 3, 194]), (63, .ireturn, 1, [0]), (64, .aload_n 0, 1, [0]), (65, .getfield 29, 3, [7, 4, 1, 0, 1, 202]), (68, .aload_n 0, 1, [0]), (69, .getfield 10, 3, [7, 0, 1, 0, 1, 198]), (72, .iload_n 2, 1, [2]), (73, .aload 4, 2, [4]), (75, .invokevirtual 232, 3, [0, 4, 4, 0, 3, 208, 3, 209, 1, 3, 3, 210]), (78, .ireturn, 1, [0])]
def gV_fits : List (mv_C H2) := [((0, 0), [], cV_isSheet), ((0, 0), [], cM_has), ((0, 0), [], cV_isIn), ((0, 0), [], cF_manyFitting), ((0, 0), [], cF_leastFitting)]
def tV_odds : List mv_E := [(0, .iload_n 1, 1, [1]), (1, .iconst 0, 1, [0, 0]), (2, .bipush 8, 2, [0, 8]), (4, .invokestatic 67, 3, [0, 0, 3, 1, 1, 233, 1, 234, 1, 1]), (7, .ifCond .eq 21, 3, [28]), (10, .iload_n 2, 1, [2]), (11, .iconst 0, 1, [0, 0]), (12, .iload_n 1, 1, [1]), (13, .invokestatic 67, 3, [0, 0, 3, 1, 1, 233, 1, 234, 1, 1]), (16, .ifCond .eq 12, 3, [28]), (19, .iload_n 3, 1, [3]), (20, .iconst 0, 1, [0, 0]), (21, .iconst 1, 1, [0, 1]), (22, .invokestatic 67, 3, [0, 0, 3, 1, 1, 233, 1, 234, 1, 1]), (25, .ifCond .ne 7, 3, [32]), (28, .ldc2_w 235, 3, [1, 1, 3, 216]), (31, .lreturn, 1, []), (32, .iload_n 1, 1, [1]), (33, .iload_n 2, 1, [2]), (34, .aload_n 0, 1, [0]), (35, .getfield 10, 3, [7, 0, 1, 0, 1, 198]), (38, .getfield 105, 3, [2, 0, 1, 0, 1, 37]), (41, .iconst 3, 1, [0, 3]), (42, .iaload, 1, []), (43, .iload_n 3, 1, [3]), (44, .invokestatic 237, 3, [0, 1, 4, 1, 3, 217, 3, 218, 1, 16]), (47, .lreturn, 1, [])]
def gV_odds : List (mv_C H2) := [((0, 0), [], cV_isIn), ((0, 0), [], cC_justSlip)]
def tV_hope : List mv_E := [(0, .iload_n 1, 1, [1]), (1, .iconst 0, 1, [0, 0]), (2, .bipush 99, 2, [0, 99]), (4, .invokestatic 67, 3, [0, 0, 3, 1, 1, 233, 1, 234, 1, 1]), (7, .ifCond .eq 12, 3, [19]), (10, .iload_n 2, 1, [2]), (11, .iconst 0, 1, [0, 0]), (12, .iconst 1, 1, [0, 1]), (13, .invokestatic 67, 3, [0, 0, 3, 1, 1, 233, 1, 234, 1, 1]), (16, .ifCond .ne 7, 3, [23]), (19, .ldc2_w 235, 3, [1, 1, 3, 216]), (22, .lreturn, 1, []), (23, .iload_n 1, 1, [1]), (24, .i2l, 1, []), (25, .aload_n 0, 1, [0]), (26, .getfield 10, 3, [7, 0, 1, 0, 1, 198]), (29, .getfield 105, 3, [2, 0, 1, 0, 1, 37]), (32, .iconst 3, 1, [0, 3]), (33, .iaload, 1, []), (34, .i2l, 1, []), (35, .lmul, 1, []), (36, .ldc2_w 243, 3, [0, 100, 3, 234]), (39, .iload_n 2, 1, [2]), (40, .invokestatic 245, 3, [0, 1, 3, 1, 3, 235, 3, 225, 1, 16]), (43, .lreturn, 1, [])]
def gV_hope : List (mv_C H2) := [((0, 0), [], cV_isIn), ((0, 0), [], cC_partOf)]
def tV_prove : List mv_E := [(0, .aload_n 0, 1, [0]), (1, .getfield 10, 3, [7, 0, 1, 0, 1, 198]), (4, .iload_n 1, 1, [1]), (5, .invokevirtual 131, 3, [0, 0, 2, 0, 2, 202, 2, 203, 1, 2, 2, 204]), (8, .ifCond .eq 13, 3, [21]), (11, .iload_n 2, 1, [2]), (12, .iconst 1, 1, [0, 1]), (13, .bipush 10, 2, [0, 10]), (15, .invokestatic 67, 3, [0, 1, 3, 1, 1, 233, 1, 234, 1, 1]), (18, .ifCond .ne 5, 3, [23]), (21, .iconst (-1), 1, [1, 1]), (22, .ireturn, 1, [0]), (23, .aload_n 0, 1, [0]), (24, .getfield 29, 3, [7, 4, 1, 0, 1, 202]), (27, .aload_n 0, 1, [0]), (28, .getfield 10, 3, [7, 0, 1, 0, 1, 198]), (31, .iload_n 1, 1, [1]), (32, .iload_n 2, 1, [2]), (33, .aload_n 0, 1, [0]), (34, .getfield 43, 3, [7, 6, 1, 0, 1, 204]), (37, .invokevirtual 249, 3, [0, 2, 5, 0, 4, 0, 4, 1, 1, 3, 4, 2]), (40, .iload_n 2, 1, [2]), (41, .ireturn, 1, [0])]
def gV_prove : List (mv_C H2) := [((0, 0), [], cM_has), ((0, 0), [], cV_isIn), ((0, 0), [], cF_writeRows)]
def tV_row : List mv_E := [(0, .aload_n 0, 1, [0]), (1, .getfield 43, 3, [7, 6, 1, 0, 1, 204]), (4, .iload_n 1, 1, [1]), (5, .iload_n 2, 1, [2]), (6, .invokevirtual 253, 3, [0, 0, 3, 0, 4, 16, 4, 17, 1, 5, 4, 18]), (9, .ifCond .eq 15, 3, [24]), (12, .aload_n 0, 1, [0]), (13, .getfield 43, 3, [7, 6, 1, 0, 1, 204]), (16, .iload_n 1, 1, [1]), (17, .iload_n 2, 1, [2]), (18, .invokevirtual 256, 3, [0, 1, 3, 0, 4, 21, 4, 22, 1, 5, 4, 23]), (21, .goto 5, 3, [26]), (24, .bipush (-9), 2, [1, 9]), (26, .ireturn, 1, [0])]
def gV_row : List (mv_C H2) := [((0, 0), [], cR_has), ((0, 0), [], cR_read)]
def tV_alterRow : List mv_E := [(0, .aload_n 0, 1, [0]), (1, .getfield 43, 3, [7, 6, 1, 0, 1, 204]), (4, .iload_n 1, 1, [1]), (5, .iload_n 2, 1, [2]), (6, .invokevirtual 253, 3, [0, 0, 3, 0, 4, 16, 4, 17, 1, 5, 4, 18]), (9, .ifCond .ne 6, 3, [15]), (12, .bipush (-9), 2, [1, 9]), (14, .ireturn, 1, [0]), (15, .aload_n 0, 1, [0]), (16, .getfield 43, 3, [7, 6, 1, 0, 1, 204]), (19, .iload_n 1, 1, [1]), (20, .iload_n 2, 1, [2]), (21, .invokevirtual 256, 3, [0, 1, 3, 0, 4, 21, 4, 22, 1, 5, 4, 23]), (24, .istore 4, 2, [4]), (26, .aload_n 0, 1, [0]), (27, .getfield 43, 3, [7, 6, 1, 0, 1, 204]), (30, .iload_n 1, 1, [1]), (31, .iload_n 2, 1, [2]), (32, .iload_n 3, 1, [3]), (33, .invokevirtual 259, 3, [0, 2, 4, 0, 4, 29, 4, 9, 1, 5, 4, 10]), (36, .iload 4, 2, [4]), (38, .ireturn, 1, [0])]
def gV_alterRow : List (mv_C H2) := [((0, 0), [], cR_has), ((0, 0), [], cR_read), ((0, 0), [], cR_write)]
def tV_judge : List mv_E := [(0, .aload_n 0, 1, [0]), (1, .getfield 10, 3, [7, 0, 1, 0, 1, 198]), (4, .iload_n 1, 1, [1]), (5, .invokevirtual 131, 3, [0, 0, 2, 0, 2, 202, 2, 203, 1, 2, 2, 204]), (8, .ifCond .eq 22, 3, [30]), (11, .aload_n 0, 1, [0]), (12, .getfield 29, 3, [7, 4, 1, 0, 1, 202]), (15, .aload_n 0, 1, [0]), (16, .getfield 10, 3, [7, 0, 1, 0, 1, 198]), (19, .iload_n 1, 1, [1]), (20, .aload_n 0, 1, [0]), (21, .getfield 43, 3, [7, 6, 1, 0, 1, 204]), (24, .invokevirtual 263, 3, [0, 1, 4, 0, 4, 34, 4, 35, 1, 3, 4, 36]), (27, .goto 4, 3, [31]), (30, .iconst (-1), 1, [1, 1]), (31, .ireturn, 1, [0])]
def gV_judge : List (mv_C H2) := [((0, 0), [], cM_has), ((0, 0), [], cF_firstWrongRow)]
def tV_minds : List mv_E := [(0, .iload_n 1, 1, [1]), (1, .invokestatic 225, 3, [0, 0, 1, 1, 3, 189, 3, 190, 1, 1]), (4, .ifCond .eq 14, 3, [18]), (7, .aload_n 0, 1, [0]), (8, .getfield 10, 3, [7, 0, 1, 0, 1, 198]), (11, .iload_n 3, 1, [3]), (12, .invokevirtual 131, 3, [0, 1, 2, 0, 2, 202, 2, 203, 1, 2, 2, 204]), (15, .ifCond .ne 5, 3, [20]), (18, .iconst (-1), 1, [1, 1]), (19, .ireturn, 1, [0]), (20, .iload 4, 2, [4]), (22, .iconst 0, 1, [0, 0]), (23, .bipush 8, 2, [0, 8]), (25, .invokestatic 67, 3, [0, 2, 3, 1, 1, 233, 1, 234, 1, 1]), (28, .ifCond .eq 17, 3, [45]), (31, .iload 4, 2, [4]), (33, .aload_n 0, 1, [0]), (34, .getfield 10, 3, [7, 0, 1, 0, 1, 198]), (37, .getfield 100, 3, [2, 9, 0, 0, 1, 68]), (40, .iload_n 3, 1, [3]), (41, .isub, 1, []), (42, .if_icmp .le 5, 3, [47]), (45, .iconst (-1), 1, [1, 1]), (46, .ireturn, 1, [0]), (47, .aload_n 0, 1, [0]), (48, .getfield 49, 3, [7, 7, 1, 0, 1, 205]), (51, .iload_n 1, 1, [1]), (52, .aaload, 1, []), (53, .astore 5, 2, [5]), (55, .aload 5, 2, [5]), (57, .ifnonnull 6, 3, [63]), (60, .bipush (-11), 2, [1, 11]), (62, .ireturn, 1, [0]), (63, .aload 5, 2, [5]), (65, .getfield 267, 3, [4, 0, 0, 0, 4, 56]), (68, .ifCond .eq 6, 3, [74]), (71, .bipush (-13), 2, [1, 13]), (73, .ireturn, 1, [0]), (74, .iload_n 2, 1, [2]), (75, .iconst 0, 1, [0, 0]), (76, .aload 5, 2, [5]), (78, .invokevirtual 270, 3, [0, 3, 1, 0, 4, 43, 3, 201, 1, 17, 3, 202]), (81, .invokestatic 67, 3, [0, 2, 3, 1, 1, 233, 1, 234, 1, 1]), (84, .ifCond .eq 15, 3, [99]), (87, .iload 4, 2, [4]), (89, .aload 5, 2, [5]), (91, .invokevirtual 270, 3, [0, 3, 1, 0, 4, 43, 3, 201, 1, 17, 3, 202]), (94, .iload_n 2, 1, [2]), (95, .isub, 1, []), (96, .if_icmp .le 6, 3, [102]), (99, .bipush (-12), 2, [1, 12]), (101, .ireturn, 1, [0]), (102, .iconst 0, 1, [0, 0]), (103, .istore 6, 2, [6]), (105, .iload 6, 2, [6]), (107, .iload 4, 2, [4]), (109, .if_icmp .ge 29, 3, [138]), (112, .aload_n 0, 1, [0]), (113, .getfield 10, 3, [7, 0, 1, 0, 1, 198]), (116, .iload_n 3, 1, [3]), (117, .iload 6, 2, [6]), (119, .iadd, 1, []), (120, .aload 5, 2, [5]), (122, .iload_n 2, 1, [2]), (123, .iload 6, 2, [6]), (125, .iadd, 1, []), (126, .invokevirtual 273, 3, [0, 4, 2, 0, 4, 44, 3, 205, 1, 17, 3, 206]), (129, .invokevirtual 275, 3, [0, 5, 3, 0, 4, 45, 3, 31, 1, 2, 3, 32]), (132, .iinc 6 1, 3, [6, 0, 1]), (135, .goto (-30), 3, [105]), (138, .iload 4, 2, [4]), (140, .ireturn, 1, [0])]
def gV_minds : List (mv_C H2) := [((0, 0), [], cV_isSheet), ((0, 0), [], cM_has), ((0, 0), [], cV_isIn), ((0, 0), [], cS_size), ((0, 0), [], cS_read), ((0, 0), [], cM_deepen)]
def tV_sheet : List mv_E := [(0, .iload_n 1, 1, [1]), (1, .invokestatic 225, 3, [0, 0, 1, 1, 3, 189, 3, 190, 1, 1]), (4, .ifCond .eq 12, 3, [16]), (7, .iload_n 2, 1, [2]), (8, .iconst (-1), 1, [1, 1]), (9, .iconst 3, 1, [0, 3]), (10, .invokestatic 67, 3, [0, 1, 3, 1, 1, 233, 1, 234, 1, 1]), (13, .ifCond .ne 5, 3, [18]), (16, .iconst (-1), 1, [1, 1]), (17, .ireturn, 1, [0]), (18, .iload_n 2, 1, [2]), (19, .iconst (-1), 1, [1, 1]), (20, .if_icmp .ne 12, 3, [32]), (23, .aload_n 0, 1, [0]), (24, .getfield 49, 3, [7, 7, 1, 0, 1, 205]), (27, .iload_n 1, 1, [1]), (28, .aconst_null, 1, []), (29, .aastore, 1, []), (30, .iconst 1, 1, [0, 1]), (31, .ireturn, 1, [0]), (32, .iload_n 3, 1, [3]), (33, .bipush 40, 2, [0, 40]), (35, .if_icmp .le 5, 3, [40]), (38, .iconst (-1), 1, [1, 1]), (39, .ireturn, 1, [0]), (40, .iload_n 3, 1, [3]), (41, .ifCond .ge 6, 3, [47]), (44, .bipush (-14), 2, [1, 14]), (46, .ireturn, 1, [0]), (47, .aload_n 0, 1, [0]), (48, .getfield 49, 3, [7, 7, 1, 0, 1, 205]), (51, .iload_n 1, 1, [1]), (52, .new 47, 3, [4, 2, 1, 155, 4, 50, 1, 17]), (55, .dup, 1, []), (56, .iload_n 2, 1, [2]), (57, .iload_n 3, 1, [3]), (58, .invokespecial 278, 3, [0, 2, 3, 2, 4, 51, 4, 52, 1, 17]), (61, .aastore, 1, []), (62, .iconst 1, 1, [0, 1]), (63, .ireturn, 1, [0])]
def gV_sheet : List (mv_C H2) := [((0, 0), [], cV_isSheet), ((0, 0), [], cV_isIn), ((1, 40), [501], cS_init)]
def tV_put : List mv_E := [(0, .iload_n 1, 1, [1]), (1, .invokestatic 225, 3, [0, 0, 1, 1, 3, 189, 3, 190, 1, 1]), (4, .ifCond .ne 5, 3, [9]), (7, .iconst (-1), 1, [1, 1]), (8, .ireturn, 1, [0]), (9, .aload_n 0, 1, [0]), (10, .getfield 49, 3, [7, 7, 1, 0, 1, 205]), (13, .iload_n 1, 1, [1]), (14, .aaload, 1, []), (15, .astore 4, 2, [4]), (17, .aload 4, 2, [4]), (19, .ifnonnull 6, 3, [25]), (22, .bipush (-11), 2, [1, 11]), (24, .ireturn, 1, [0]), (25, .aload 4, 2, [4]), (27, .iload_n 2, 1, [2]), (28, .invokevirtual 280, 3, [0, 1, 2, 0, 4, 67, 4, 68, 1, 17, 4, 69]), (31, .ifCond .ne 6, 3, [37]), (34, .bipush (-12), 2, [1, 12]), (36, .ireturn, 1, [0]), (37, .aload 4, 2, [4]), (39, .iload_n 2, 1, [2]), (40, .iload_n 3, 1, [3]), (41, .invokevirtual 281, 3, [0, 2, 3, 0, 4, 72, 4, 73, 1, 17, 4, 74]), (44, .iconst 1, 1, [0, 1]), (45, .ireturn, 1, [0])]
def gV_put : List (mv_C H2) := [((0, 0), [], cV_isSheet), ((0, 0), [], cS_has), ((0, 0), [], cS_write)]
def tV_item : List mv_E := [(0, .iload_n 1, 1, [1]), (1, .invokestatic 225, 3, [0, 0, 1, 1, 3, 189, 3, 190, 1, 1]), (4, .ifCond .eq 12, 3, [16]), (7, .iload_n 2, 1, [2]), (8, .iconst 0, 1, [0, 0]), (9, .iconst 3, 1, [0, 3]), (10, .invokestatic 67, 3, [0, 1, 3, 1, 1, 233, 1, 234, 1, 1]), (13, .ifCond .ne 5, 3, [18]), (16, .iconst (-1), 1, [1, 1]), (17, .ireturn, 1, [0]), (18, .aload_n 0, 1, [0]), (19, .getfield 49, 3, [7, 7, 1, 0, 1, 205]), (22, .iload_n 1, 1, [1]), (23, .aaload, 1, []), (24, .astore 4, 2, [4]), (26, .aload 4, 2, [4]), (28, .ifnonnull 6, 3, [34]), (31, .bipush (-11), 2, [1, 11]), (33, .ireturn, 1, [0]), (34, .aload 4, 2, [4]), (36, .getfield 267, 3, [4, 0, 0, 0, 4, 56]), (39, .iload_n 2, 1, [2]), (40, .if_icmp .eq 6, 3, [46]), (43, .bipush (-13), 2, [1, 13]), (45, .ireturn, 1, [0]), (46, .aload 4, 2, [4]), (48, .iload_n 3, 1, [3]), (49, .invokevirtual 280, 3, [0, 2, 2, 0, 4, 67, 4, 68, 1, 17, 4, 69]), (52, .ifCond .eq 12, 3, [64]), (55, .aload 4, 2, [4]), (57, .iload_n 3, 1, [3]), (58, .invokevirtual 273, 3, [0, 3, 2, 0, 4, 44, 3, 205, 1, 17, 3, 206]), (61, .goto 5, 3, [66]), (64, .bipush (-12), 2, [1, 12]), (66, .ireturn, 1, [0])]
def gV_item : List (mv_C H2) := [((0, 0), [], cV_isSheet), ((0, 0), [], cV_isIn), ((0, 0), [], cS_has), ((0, 0), [], cS_read)]
def tV_isShelf : List mv_E := [(0, .iload_n 0, 1, [0]), (1, .iconst 0, 1, [0, 0]), (2, .iconst 3, 1, [0, 3]), (3, .invokestatic 67, 3, [0, 0, 3, 1, 1, 233, 1, 234, 1, 1]), (6, .ireturn, 1, [1])]
def gV_isShelf : List (mv_C H2) := [((0, 0), [], cV_isIn)]
def tV_shelf : List mv_E := [(0, .iload_n 1, 1, [1]), (1, .invokestatic 283, 3, [0, 0, 1, 1, 4, 84, 4, 85, 1, 1]), (4, .ifCond .ne 5, 3, [9]), (7, .iconst (-1), 1, [1, 1]), (8, .ireturn, 1, [0]), (9, .iload_n 2, 1, [2]), (10, .tableswitch 86 0 2 #[26, 50, 75], 26, [0, 96, 36, 60, 85]), (36, .aload_n 0, 1, [0]), (37, .getfield 10, 3, [7, 0, 1, 0, 1, 198]), (40, .iload_n 3, 1, [3]), (41, .invokevirtual 131, 3, [0, 1, 2, 0, 2, 202, 2, 203, 1, 2, 2, 204]), (44, .ifCond .ne 5, 3, [49]), (47, .iconst (-1), 1, [1, 1]), (48, .ireturn, 1, [0]), (49, .aload_n 0, 1, [0]), (50, .getfield 56, 3, [7, 8, 1, 0, 1, 206]), (53, .iload_n 1, 1, [1]), (54, .iload_n 3, 1, [3]), (55, .invokevirtual 286, 3, [0, 2, 3, 0, 4, 87, 4, 88, 1, 6, 4, 89]), (58, .iconst 1, 1, [0, 1]), (59, .ireturn, 1, [0]), (60, .iload_n 3, 1, [3]), (61, .invokestatic 225, 3, [0, 3, 1, 1, 3, 189, 3, 190, 1, 1]), (64, .ifCond .ne 5, 3, [69]), (67, .iconst (-1), 1, [1, 1]), (68, .ireturn, 1, [0]), (69, .aload_n 0, 1, [0]), (70, .getfield 56, 3, [7, 8, 1, 0, 1, 206]), (73, .iload_n 1, 1, [1]), (74, .aload_n 0, 1, [0]), (75, .getfield 49, 3, [7, 7, 1, 0, 1, 205]), (78, .iload_n 3, 1, [3]), (79, .aaload, 1, []), (80, .invokevirtual 289, 3, [0, 4, 3, 0, 4, 91, 4, 92, 1, 6, 4, 93]), (83, .iconst 1, 1, [0, 1]), (84, .ireturn, 1, [0]), (85, .aload_n 0, 1, [0]), (86, .getfield 56, 3, [7, 8, 1, 0, 1, 206]), (89, .iload_n 1, 1, [1]), (90, .aconst_null, 1, []), (91, .invokevirtual 289, 3, [0, 4, 3, 0, 4, 91, 4, 92, 1, 6, 4, 93]), (94, .iconst 1, 1, [0, 1]), (95, .ireturn, 1, [0]), (96, .iconst (-1), 1, [1, 1]), (97, .ireturn, 1, [0])]
def gV_shelf : List (mv_C H2) := [((0, 0), [], cV_isShelf), ((0, 0), [], cM_has), ((0, 0), [], cH_holdCloth), ((0, 0), [], cV_isSheet), ((0, 0), [], cH_holdRow)]
def tV_parentKind : List mv_E := [(0, .iload_n 0, 1, [0]), (1, .tableswitch 41 1 5 #[35, 35, 37, 39, 35], 35, [1, 42, 36, 36, 38, 40, 36]), (36, .iconst 0, 1, [0, 0]), (37, .ireturn, 1, [0]), (38, .iconst 1, 1, [0, 1]), (39, .ireturn, 1, [0]), (40, .iconst 2, 1, [0, 2]), (41, .ireturn, 1, [0]), (42, .iconst (-1), 1, [1, 1]), (43, .ireturn, 1, [0])]
def gV_parentKind : List (mv_C H2) := []
def tV_isUnder : List mv_E := [(0, .iload_n 0, 1, [0]), (1, .istore_n 2, 1, [2]), (2, .iconst 0, 1, [0, 0]), (3, .istore_n 3, 1, [3]), (4, .iload_n 3, 1, [3]), (5, .bipush 6, 2, [0, 6]), (7, .if_icmp .ge 26, 3, [33]), (10, .iload_n 2, 1, [2]), (11, .iconst (-1), 1, [1, 1]), (12, .if_icmp .eq 21, 3, [33]), (15, .iload_n 2, 1, [2]), (16, .iload_n 1, 1, [1]), (17, .if_icmp .ne 5, 3, [22]), (20, .iconst 1, 1, [0, 1]), (21, .ireturn, 1, [1]), (22, .iload_n 2, 1, [2]), (23, .invokestatic 326, 3, [0, 0, 1, 1, 4, 110, 4, 111, 1, 1]), (26, .istore_n 2, 1, [2]), (27, .iinc 3 1, 3, [3, 0, 1]), (30, .goto (-26), 3, [4]), (33, .iconst 0, 1, [0, 0]), (34, .ireturn, 1, [1])]
def gV_isUnder : List (mv_C H2) := [((0, 0), [], cV_parentKind)]
def tV_taken : List mv_E := [(0, .iload_n 1, 1, [1]), (1, .invokestatic 283, 3, [0, 0, 1, 1, 4, 84, 4, 85, 1, 1]), (4, .ifCond .ne 5, 3, [9]), (7, .iconst (-1), 1, [1, 1]), (8, .ireturn, 1, [0]), (9, .iload_n 2, 1, [2]), (10, .invokestatic 125, 3, [0, 1, 1, 1, 2, 194, 2, 195, 1, 1]), (13, .ifCond .ne 16, 3, [29]), (16, .iload_n 2, 1, [2]), (17, .bipush 10, 2, [0, 10]), (19, .bipush 13, 2, [0, 13]), (21, .invokestatic 67, 3, [0, 2, 3, 1, 1, 233, 1, 234, 1, 1]), (24, .ifCond .ne 5, 3, [29]), (27, .iconst (-1), 1, [1, 1]), (28, .ireturn, 1, [0]), (29, .aload_n 0, 1, [0]), (30, .getfield 56, 3, [7, 8, 1, 0, 1, 206]), (33, .iload_n 1, 1, [1]), (34, .invokevirtual 293, 3, [0, 3, 2, 0, 4, 99, 4, 100, 1, 6, 4, 101]), (37, .astore_n 3, 1, [3]), (38, .aload_n 3, 1, [3]), (39, .ifnull 24, 3, [63]), (42, .aload_n 3, 1, [3]), (43, .getfield 267, 3, [4, 0, 0, 0, 4, 56]), (46, .iload_n 2, 1, [2]), (47, .bipush 10, 2, [0, 10]), (49, .isub, 1, []), (50, .if_icmp .ne 10, 3, [60]), (53, .aload_n 3, 1, [3]), (54, .invokevirtual 270, 3, [0, 4, 1, 0, 4, 43, 3, 201, 1, 17, 3, 202]), (57, .goto 5, 3, [62]), (60, .bipush (-13), 2, [1, 13]), (62, .ireturn, 1, [0]), (63, .aload_n 0, 1, [0]), (64, .getfield 56, 3, [7, 8, 1, 0, 1, 206]), (67, .iload_n 1, 1, [1]), (68, .invokevirtual 297, 3, [0, 5, 2, 0, 4, 103, 4, 104, 1, 6, 4, 105]), (71, .istore 4, 2, [4]), (73, .aload_n 0, 1, [0]), (74, .getfield 10, 3, [7, 0, 1, 0, 1, 198]), (77, .iload 4, 2, [4]), (79, .invokevirtual 131, 3, [0, 6, 2, 0, 2, 202, 2, 203, 1, 2, 2, 204]), (82, .ifCond .ne 6, 3, [88]), (85, .bipush (-11), 2, [1, 11]), (87, .ireturn, 1, [0]), (88, .aload_n 0, 1, [0]), (89, .getfield 10, 3, [7, 0, 1, 0, 1, 198]), (92, .getfield 134, 3, [2, 4, 1, 0, 1, 52]), (95, .iload 4, 2, [4]), (97, .iaload, 1, []), (98, .iload_n 2, 1, [2]), (99, .invokestatic 300, 3, [0, 7, 2, 1, 4, 107, 4, 108, 1, 1]), (102, .ifCond .eq 8, 3, [110]), (105, .iload 4, 2, [4]), (107, .goto 5, 3, [112]), (110, .bipush (-13), 2, [1, 13]), (112, .ireturn, 1, [0])]
def gV_taken : List (mv_C H2) := [((0, 0), [], cV_isShelf), ((0, 0), [], cV_isKind), ((0, 0), [], cV_isIn), ((0, 0), [], cH_rowOn), ((0, 0), [], cS_size), ((0, 0), [], cH_clothOn), ((0, 0), [], cM_has), ((0, 0), [], cV_isUnder)]
def tV_act : List mv_E := [(0, .aload_n 0, 1, [0]), (1, .getfield 63, 3, [7, 9, 1, 0, 1, 207]), (4, .invokevirtual 303, 3, [0, 0, 1, 0, 4, 117, 4, 118, 1, 7, 4, 119]), (7, .iload_n 1, 1, [1]), (8, .invokestatic 283, 3, [0, 1, 1, 1, 4, 84, 4, 85, 1, 1]), (11, .ifCond .eq 12, 3, [23]), (14, .iload_n 2, 1, [2]), (15, .iconst 0, 1, [0, 0]), (16, .iconst 3, 1, [0, 3]), (17, .invokestatic 67, 3, [0, 2, 3, 1, 1, 233, 1, 234, 1, 1]), (20, .ifCond .ne 5, 3, [25]), (23, .iconst 0, 1, [0, 0]), (24, .ireturn, 1, [0]), (25, .aload_n 0, 1, [0]), (26, .getfield 56, 3, [7, 8, 1, 0, 1, 206]), (29, .iload_n 1, 1, [1]), (30, .invokevirtual 297, 3, [0, 3, 2, 0, 4, 103, 4, 104, 1, 6, 4, 105]), (33, .istore 4, 2, [4]), (35, .aload_n 0, 1, [0]), (36, .getfield 10, 3, [7, 0, 1, 0, 1, 198]), (39, .iload 4, 2, [4]), (41, .invokevirtual 131, 3, [0, 4, 2, 0, 2, 202, 2, 203, 1, 2, 2, 204]), (44, .ifCond .ne 5, 3, [49]), (47, .iconst 0, 1, [0, 0]), (48, .ireturn, 1, [0]), (49, .aload_n 0, 1, [0]), (50, .getfield 63, 3, [7, 9, 1, 0, 1, 207]), (53, .aload_n 0, 1, [0]), (54, .getfield 10, 3, [7, 0, 1, 0, 1, 198]), (57, .getfield 134, 3, [2, 4, 1, 0, 1, 52]), (60, .iload 4, 2, [4]), (62, .iaload, 1, []), (63, .iload 4, 2, [4]), (65, .iconst 1, 1, [0, 1]), (66, .aload_n 0, 1, [0]), (67, .getfield 10, 3, [7, 0, 1, 0, 1, 198]), (70, .getfield 137, 3, [2, 5, 1, 0, 1, 56]), (73, .iload 4, 2, [4]), (75, .iaload, 1, []), (76, .iadd, 1, []), (77, .invokevirtual 306, 3, [0, 5, 4, 0, 4, 121, 4, 122, 1, 7, 4, 123]), (80, .aload_n 0, 1, [0]), (81, .getfield 63, 3, [7, 9, 1, 0, 1, 207]), (84, .iload_n 2, 1, [2]), (85, .iload_n 3, 1, [3]), (86, .invokevirtual 309, 3, [0, 6, 3, 0, 4, 125, 4, 126, 1, 7, 4, 127]), (89, .ireturn, 1, [0])]
def gV_act : List (mv_C H2) := [((0, 0), [], cA_forget), ((0, 0), [], cV_isShelf), ((0, 0), [], cV_isIn), ((0, 0), [], cH_clothOn), ((0, 0), [], cM_has), ((0, 0), [], cA_hold), ((0, 0), [], cA_perform)]
def tV_trace : List mv_E := [(0, .iload_n 1, 1, [1]), (1, .iconst 0, 1, [0, 0]), (2, .aload_n 0, 1, [0]), (3, .getfield 63, 3, [7, 9, 1, 0, 1, 207]), (6, .getfield 312, 3, [0, 1, 0, 0, 1, 180]), (9, .iconst 1, 1, [0, 1]), (10, .isub, 1, []), (11, .invokestatic 67, 3, [0, 0, 3, 1, 1, 233, 1, 234, 1, 1]), (14, .ifCond .eq 15, 3, [29]), (17, .aload_n 0, 1, [0]), (18, .getfield 63, 3, [7, 9, 1, 0, 1, 207]), (21, .getfield 315, 3, [0, 0, 1, 0, 1, 178]), (24, .iload_n 1, 1, [1]), (25, .iaload, 1, []), (26, .goto 5, 3, [31]), (29, .bipush (-3), 2, [1, 3]), (31, .ireturn, 1, [0])]
def gV_trace : List (mv_C H2) := [((0, 0), [], cV_isIn)]
def tV_many : List mv_E := [(0, .iload_n 1, 1, [1]), (1, .tableswitch 108 0 6 #[43, 51, 62, 73, 84, 92, 100], 43, [0, 109, 44, 52, 63, 74, 85, 93, 101]), (44, .aload_n 0, 1, [0]), (45, .getfield 10, 3, [7, 0, 1, 0, 1, 198]), (48, .getfield 100, 3, [2, 9, 0, 0, 1, 68]), (51, .ireturn, 1, [0]), (52, .aload_n 0, 1, [0]), (53, .getfield 10, 3, [7, 0, 1, 0, 1, 198]), (56, .invokevirtual 186, 3, [0, 0, 1, 0, 3, 76, 3, 77, 1, 2, 3, 78]), (59, .invokestatic 318, 3, [0, 1, 1, 1, 4, 155, 3, 176, 1, 15]), (62, .ireturn, 1, [0]), (63, .aload_n 0, 1, [0]), (64, .getfield 10, 3, [7, 0, 1, 0, 1, 198]), (67, .invokevirtual 189, 3, [0, 2, 1, 0, 3, 80, 3, 81, 1, 2, 3, 82]), (70, .invokestatic 318, 3, [0, 1, 1, 1, 4, 155, 3, 176, 1, 15]), (73, .ireturn, 1, [0]), (74, .aload_n 0, 1, [0]), (75, .getfield 10, 3, [7, 0, 1, 0, 1, 198]), (78, .invokevirtual 323, 3, [0, 3, 1, 0, 4, 156, 4, 157, 1, 2, 4, 158]), (81, .invokestatic 318, 3, [0, 1, 1, 1, 4, 155, 3, 176, 1, 15]), (84, .ireturn, 1, [0]), (85, .aload_n 0, 1, [0]), (86, .getfield 43, 3, [7, 6, 1, 0, 1, 204]), (89, .getfield 97, 3, [3, 1, 0, 0, 1, 148]), (92, .ireturn, 1, [0]), (93, .aload_n 0, 1, [0]), (94, .getfield 36, 3, [7, 5, 1, 0, 1, 203]), (97, .getfield 79, 3, [6, 1, 0, 1, 1, 122]), (100, .ireturn, 1, [0]), (101, .aload_n 0, 1, [0]), (102, .getfield 63, 3, [7, 9, 1, 0, 1, 207]), (105, .getfield 312, 3, [0, 1, 0, 0, 1, 180]), (108, .ireturn, 1, [0]), (109, .iconst (-1), 1, [1, 1]), (110, .ireturn, 1, [0])]
def gV_many : List (mv_C H2) := [((0, 0), [], cM_hungSet), ((0, 0), [], cJ_bitCount_0f7a4), ((0, 0), [], cM_aboutSet), ((0, 0), [], cM_purposeSet)]
def tV_keep : List mv_E := [(0, .aload_n 0, 1, [0]), (1, .getfield 19, 3, [7, 2, 1, 0, 1, 200]), (4, .aload_n 0, 1, [0]), (5, .getfield 10, 3, [7, 0, 1, 0, 1, 198]), (8, .invokevirtual 93, 3, [0, 0, 2, 0, 2, 151, 2, 152, 1, 2, 2, 153]), (11, .aload_n 0, 1, [0]), (12, .iconst 1, 1, [0, 1]), (13, .putfield 22, 3, [7, 3, 2, 0, 1, 201]), (16, .iconst 1, 1, [0, 1]), (17, .ireturn, 1, [0])]
def gV_keep : List (mv_C H2) := [((0, 0), [], cM_copyFrom)]
def tV_again : List mv_E := [(0, .aload_n 0, 1, [0]), (1, .getfield 22, 3, [7, 3, 2, 0, 1, 201]), (4, .ifCond .ne 6, 3, [10]), (7, .bipush (-3), 2, [1, 3]), (9, .ireturn, 1, [0]), (10, .aload_n 0, 1, [0]), (11, .getfield 10, 3, [7, 0, 1, 0, 1, 198]), (14, .aload_n 0, 1, [0]), (15, .getfield 19, 3, [7, 2, 1, 0, 1, 200]), (18, .invokevirtual 93, 3, [0, 0, 2, 0, 2, 151, 2, 152, 1, 2, 2, 153]), (21, .aload_n 0, 1, [0]), (22, .getfield 10, 3, [7, 0, 1, 0, 1, 198]), (25, .getfield 100, 3, [2, 9, 0, 0, 1, 68]), (28, .ireturn, 1, [0])]
def gV_again : List (mv_C H2) := [((0, 0), [], cM_copyFrom)]
def tN_anew : List mv_E := [(0, .aload_n 0, 1, [0]), (1, .getfield 16, 3, [8, 2, 1, 0, 4, 180]), (4, .iconst 5, 1, [0, 5]), (5, .iaload, 1, []), (6, .istore_n 1, 1, [1]), (7, .iconst 0, 1, [0, 0]), (8, .istore_n 2, 1, [2]), (9, .iload_n 2, 1, [2]), (10, .bipush 69, 2, [0, 69]), (12, .if_icmp .ge 16, 3, [28]), (15, .aload_n 0, 1, [0]), (16, .getfield 16, 3, [8, 2, 1, 0, 4, 180]), (19, .iload_n 2, 1, [2]), (20, .iconst 0, 1, [0, 0]), (21, .iastore, 1, []), (22, .iinc 2 1, 3, [2, 0, 1]), (25, .goto (-16), 3, [9]), (28, .iconst 0, 1, [0, 0]), (29, .istore_n 2, 1, [2]), (30, .iload_n 2, 1, [2]), (31, .iconst 4, 1, [0, 4]), (32, .if_icmp .ge 21, 3, [53]), (35, .aload_n 0, 1, [0]), (36, .getfield 16, 3, [8, 2, 1, 0, 4, 180]), (39, .iload_n 2, 1, [2]), (40, .aload_n 0, 1, [0]), (41, .getfield 13, 3, [8, 1, 1, 0, 4, 179]), (44, .iload_n 2, 1, [2]), (45, .iaload, 1, []), (46, .iastore, 1, []), (47, .iinc 2 1, 3, [2, 0, 1]), (50, .goto (-20), 3, [30]), (53, .iconst 0, 1, [0, 0]), (54, .istore_n 2, 1, [2]), (55, .iload_n 2, 1, [2]), (56, .bipush 8, 2, [0, 8]), (58, .if_icmp .ge 29, 3, [87]), (61, .aload_n 0, 1, [0]), (62, .getfield 16, 3, [8, 2, 1, 0, 4, 180]), (65, .bipush 7, 2, [0, 7]), (67, .iload_n 2, 1, [2]), (68, .iadd, 1, []), (69, .iload_n 2, 1, [2]), (70, .iastore, 1, []), (71, .aload_n 0, 1, [0]), (72, .getfield 16, 3, [8, 2, 1, 0, 4, 180]), (75, .bipush 15, 2, [0, 15]), (77, .iload_n 2, 1, [2]), (78, .iadd, 1, []), (79, .iconst 5, 1, [0, 5]), (80, .iastore, 1, []), (81, .iinc 2 1, 3, [2, 0, 1]), (84, .goto (-29), 3, [55]), (87, .iconst 0, 1, [0, 0]), (88, .istore_n 2, 1, [2]), (89, .iload_n 2, 1, [2]), (90, .bipush 6, 2, [0, 6]), (92, .if_icmp .ge 19, 3, [111]), (95, .aload_n 0, 1, [0]), (96, .getfield 16, 3, [8, 2, 1, 0, 4, 180]), (99, .bipush 23, 2, [0, 23]), (101, .iload_n 2, 1, [2]), (102, .iadd, 1, []), (103, .iload_n 2, 1, [2]), (104, .iastore, 1, []), (105, .iinc 2 1, 3, [2, 0, 1]), (108, .goto (-19), 3, [89]), (111, .aload_n 0, 1, [0]), (112, .getfield 16, 3, [8, 2, 1, 0, 4, 180]), (115, .iconst 5, 1, [0, 5]), (116, .iload_n 1, 1, [1]), (117, .iastore, 1, []), (118, .return_, 1, [])]
def gN_anew : List (mv_C H2) := []
def tN_in : List mv_E := [(0, .lload_n 0, 1, [0]), (1, .lload_n 2, 1, [2]), (2, .lcmp, 1, []), (3, .ifCond .lt 14, 3, [17]), (6, .lload_n 0, 1, [0]), (7, .lload 4, 2, [4]), (9, .lcmp, 1, []), (10, .ifCond .gt 7, 3, [17]), (13, .iconst 1, 1, [0, 1]), (14, .goto 4, 3, [18]), (17, .iconst 0, 1, [0, 0]), (18, .ireturn, 1, [1])]
def gN_in : List (mv_C H2) := []
def tN_become_902_904 : List mv_E := [(0, .iconst 0, 1, [0, 0]), (1, .istore_n 2, 1, [2]), (2, .iload_n 2, 1, [2]), (3, .bipush 69, 2, [0, 69]), (5, .if_icmp .ge 15, 3, [20]), (8, .aload_n 1, 1, [1]), (9, .iload_n 2, 1, [2]), (10, .aload_n 0, 1, [0]), (11, .iload_n 2, 1, [2]), (12, .iaload, 1, []), (13, .iastore, 1, []), (14, .iinc 2 1, 3, [2, 0, 1]), (17, .goto (-15), 3, [2]), (20, .return_, 1, [])]
def gN_become_902_904 : List (mv_C H2) := []
def tN_become_904_902 : List mv_E := [(0, .iconst 0, 1, [0, 0]), (1, .istore_n 2, 1, [2]), (2, .iload_n 2, 1, [2]), (3, .bipush 69, 2, [0, 69]), (5, .if_icmp .ge 15, 3, [20]), (8, .aload_n 1, 1, [1]), (9, .iload_n 2, 1, [2]), (10, .aload_n 0, 1, [0]), (11, .iload_n 2, 1, [2]), (12, .iaload, 1, []), (13, .iastore, 1, []), (14, .iinc 2 1, 3, [2, 0, 1]), (17, .goto (-15), 3, [2]), (20, .return_, 1, [])]
def gN_become_904_902 : List (mv_C H2) := []
def tN_become_902_903 : List mv_E := [(0, .iconst 0, 1, [0, 0]), (1, .istore_n 2, 1, [2]), (2, .iload_n 2, 1, [2]), (3, .bipush 69, 2, [0, 69]), (5, .if_icmp .ge 15, 3, [20]), (8, .aload_n 1, 1, [1]), (9, .iload_n 2, 1, [2]), (10, .aload_n 0, 1, [0]), (11, .iload_n 2, 1, [2]), (12, .iaload, 1, []), (13, .iastore, 1, []), (14, .iinc 2 1, 3, [2, 0, 1]), (17, .goto (-15), 3, [2]), (20, .return_, 1, [])]
def gN_become_902_903 : List (mv_C H2) := []
def tN_become_903_902 : List mv_E := [(0, .iconst 0, 1, [0, 0]), (1, .istore_n 2, 1, [2]), (2, .iload_n 2, 1, [2]), (3, .bipush 69, 2, [0, 69]), (5, .if_icmp .ge 15, 3, [20]), (8, .aload_n 1, 1, [1]), (9, .iload_n 2, 1, [2]), (10, .aload_n 0, 1, [0]), (11, .iload_n 2, 1, [2]), (12, .iaload, 1, []), (13, .iastore, 1, []), (14, .iinc 2 1, 3, [2, 0, 1]), (17, .goto (-15), 3, [2]), (20, .return_, 1, [])]
def gN_become_903_902 : List (mv_C H2) := []
def tN_lends : List mv_E := [(0, .aload_n 0, 1, [0]), (1, .getfield 16, 3, [8, 2, 1, 0, 4, 180]), (4, .aload_n 0, 1, [0]), (5, .getfield 22, 3, [8, 4, 1, 0, 4, 182]), (8, .invokestatic 55, 3, [0, 0, 2, 1, 5, 184, 5, 185, 1, 8]), (11, .return_, 1, [])]
def gN_lends : List (mv_C H2) := [((0, 0), [], cN_become)]
def tN_laysBack : List mv_E := [(0, .aload_n 0, 1, [0]), (1, .getfield 22, 3, [8, 4, 1, 0, 4, 182]), (4, .aload_n 0, 1, [0]), (5, .getfield 16, 3, [8, 2, 1, 0, 4, 180]), (8, .invokestatic 55, 3, [0, 0, 2, 1, 5, 184, 5, 185, 1, 8]), (11, .return_, 1, [])]
def gN_laysBack : List (mv_C H2) := [((0, 0), [], cN_become)]
def tN_isCloth : List mv_E := [(0, .iload_n 1, 1, [1]), (1, .i2l, 1, []), (2, .lconst 0, 1, [0, 0]), (3, .aload_n 0, 1, [0]), (4, .getfield 16, 3, [8, 2, 1, 0, 4, 180]), (7, .bipush 6, 2, [0, 6]), (9, .iaload, 1, []), (10, .iconst 1, 1, [0, 1]), (11, .isub, 1, []), (12, .i2l, 1, []), (13, .invokestatic 59, 3, [0, 0, 3, 1, 5, 19, 5, 20, 1, 8]), (16, .ireturn, 1, [1])]
def gN_isCloth : List (mv_C H2) := [((0, 0), [], cN_in)]
def tN_isVat : List mv_E := [(0, .iload_n 0, 1, [0]), (1, .i2l, 1, []), (2, .lconst 0, 1, [0, 0]), (3, .ldc2_w 63, 3, [0, 7, 5, 37]), (6, .invokestatic 59, 3, [0, 0, 3, 1, 5, 19, 5, 20, 1, 8]), (9, .ireturn, 1, [1])]
def gN_isVat : List (mv_C H2) := [((0, 0), [], cN_in)]
def tN_isPurpose : List mv_E := [(0, .iload_n 0, 1, [0]), (1, .i2l, 1, []), (2, .lconst 0, 1, [0, 0]), (3, .ldc2_w 65, 3, [0, 9, 5, 38]), (6, .invokestatic 59, 3, [0, 0, 3, 1, 5, 19, 5, 20, 1, 8]), (9, .ireturn, 1, [1])]
def gN_isPurpose : List (mv_C H2) := [((0, 0), [], cN_in)]
def tN_isRest : List mv_E := [(0, .iload_n 0, 1, [0]), (1, .i2l, 1, []), (2, .lconst 0, 1, [0, 0]), (3, .ldc2_w 67, 3, [0, 5, 5, 50]), (6, .invokestatic 59, 3, [0, 0, 3, 1, 5, 19, 5, 20, 1, 8]), (9, .ireturn, 1, [1])]
def gN_isRest : List (mv_C H2) := [((0, 0), [], cN_in)]
def tN_its : List mv_E := [(0, .aload_n 0, 1, [0]), (1, .getfield 16, 3, [8, 2, 1, 0, 4, 180]), (4, .bipush 29, 2, [0, 29]), (6, .iconst 5, 1, [0, 5]), (7, .iload_n 1, 1, [1]), (8, .imul, 1, []), (9, .iadd, 1, []), (10, .iload_n 2, 1, [2]), (11, .iadd, 1, []), (12, .iaload, 1, []), (13, .ireturn, 1, [0])]
def gN_its : List (mv_C H2) := []
def tN_sets : List mv_E := [(0, .aload_n 0, 1, [0]), (1, .getfield 16, 3, [8, 2, 1, 0, 4, 180]), (4, .bipush 29, 2, [0, 29]), (6, .iconst 5, 1, [0, 5]), (7, .iload_n 1, 1, [1]), (8, .imul, 1, []), (9, .iadd, 1, []), (10, .iload_n 2, 1, [2]), (11, .iadd, 1, []), (12, .iload_n 3, 1, [3]), (13, .iastore, 1, []), (14, .return_, 1, [])]
def gN_sets : List (mv_C H2) := []
def tN_becomes : List mv_E := [(0, .aload_n 0, 1, [0]), (1, .getfield 16, 3, [8, 2, 1, 0, 4, 180]), (4, .iload_n 1, 1, [1]), (5, .iaload, 1, []), (6, .istore_n 3, 1, [3]), (7, .aload_n 0, 1, [0]), (8, .getfield 16, 3, [8, 2, 1, 0, 4, 180]), (11, .iload_n 1, 1, [1]), (12, .iload_n 2, 1, [2]), (13, .iastore, 1, []), (14, .iload_n 3, 1, [3]), (15, .ireturn, 1, [0])]
def gN_becomes : List (mv_C H2) := []
def tN_set : List mv_E := [(0, .iload_n 1, 1, [1]), (1, .i2l, 1, []), (2, .lconst 0, 1, [0, 0]), (3, .ldc2_w 69, 3, [0, 3, 5, 18]), (6, .invokestatic 59, 3, [0, 0, 3, 1, 5, 19, 5, 20, 1, 8]), (9, .ifCond .ne 5, 3, [14]), (12, .iconst (-1), 1, [1, 1]), (13, .ireturn, 1, [0]), (14, .iload_n 2, 1, [2]), (15, .i2l, 1, []), (16, .lconst 0, 1, [0, 0]), (17, .aload_n 0, 1, [0]), (18, .getfield 9, 3, [8, 0, 1, 0, 4, 178]), (21, .iload_n 1, 1, [1]), (22, .iaload, 1, []), (23, .i2l, 1, []), (24, .invokestatic 59, 3, [0, 0, 3, 1, 5, 19, 5, 20, 1, 8]), (27, .ifCond .eq 12, 3, [39]), (30, .aload_n 0, 1, [0]), (31, .iload_n 1, 1, [1]), (32, .iload_n 2, 1, [2]), (33, .invokevirtual 71, 3, [0, 1, 3, 0, 5, 22, 5, 24, 1, 8, 0, 26]), (36, .goto 4, 3, [40]), (39, .iconst (-1), 1, [1, 1]), (40, .ireturn, 1, [0])]
def gN_set : List (mv_C H2) := [((0, 0), [], cN_in), ((0, 0), [], cN_becomes)]
def tN_lawOf : List mv_E := [(0, .iload_n 1, 1, [1]), (1, .i2l, 1, []), (2, .lconst 0, 1, [0, 0]), (3, .ldc2_w 69, 3, [0, 3, 5, 18]), (6, .invokestatic 59, 3, [0, 0, 3, 1, 5, 19, 5, 20, 1, 8]), (9, .ifCond .eq 12, 3, [21]), (12, .aload_n 0, 1, [0]), (13, .getfield 16, 3, [8, 2, 1, 0, 4, 180]), (16, .iload_n 1, 1, [1]), (17, .iaload, 1, []), (18, .goto 4, 3, [22]), (21, .iconst (-1), 1, [1, 1]), (22, .ireturn, 1, [0])]
def gN_lawOf : List (mv_C H2) := [((0, 0), [], cN_in)]
def tN_fill : List mv_E := [(0, .iload_n 1, 1, [1]), (1, .invokestatic 75, 3, [0, 0, 1, 1, 5, 34, 5, 35, 1, 8]), (4, .ifCond .eq 42, 3, [46]), (7, .iload_n 2, 1, [2]), (8, .i2l, 1, []), (9, .lconst 0, 1, [0, 0]), (10, .lconst 1, 1, [0, 1]), (11, .invokestatic 59, 3, [0, 1, 3, 1, 5, 19, 5, 20, 1, 8]), (14, .ifCond .eq 32, 3, [46]), (17, .iload_n 3, 1, [3]), (18, .i2l, 1, []), (19, .lconst 0, 1, [0, 0]), (20, .ldc2_w 65, 3, [0, 9, 5, 38]), (23, .invokestatic 59, 3, [0, 1, 3, 1, 5, 19, 5, 20, 1, 8]), (26, .ifCond .eq 20, 3, [46]), (29, .aload_n 0, 1, [0]), (30, .bipush 7, 2, [0, 7]), (32, .bipush 8, 2, [0, 8]), (34, .iload_n 2, 1, [2]), (35, .imul, 1, []), (36, .iadd, 1, []), (37, .iload_n 1, 1, [1]), (38, .iadd, 1, []), (39, .iload_n 3, 1, [3]), (40, .invokevirtual 71, 3, [0, 2, 3, 0, 5, 22, 5, 24, 1, 8, 0, 26]), (43, .goto 4, 3, [47]), (46, .iconst (-1), 1, [1, 1]), (47, .ireturn, 1, [0])]
def gN_fill : List (mv_C H2) := [((0, 0), [], cN_isVat), ((0, 0), [], cN_in), ((0, 0), [], cN_becomes)]
def tN_vatOf : List mv_E := [(0, .iload_n 1, 1, [1]), (1, .invokestatic 75, 3, [0, 0, 1, 1, 5, 34, 5, 35, 1, 8]), (4, .ifCond .eq 30, 3, [34]), (7, .iload_n 2, 1, [2]), (8, .i2l, 1, []), (9, .lconst 0, 1, [0, 0]), (10, .lconst 1, 1, [0, 1]), (11, .invokestatic 59, 3, [0, 1, 3, 1, 5, 19, 5, 20, 1, 8]), (14, .ifCond .eq 20, 3, [34]), (17, .aload_n 0, 1, [0]), (18, .getfield 16, 3, [8, 2, 1, 0, 4, 180]), (21, .bipush 7, 2, [0, 7]), (23, .bipush 8, 2, [0, 8]), (25, .iload_n 2, 1, [2]), (26, .imul, 1, []), (27, .iadd, 1, []), (28, .iload_n 1, 1, [1]), (29, .iadd, 1, []), (30, .iaload, 1, []), (31, .goto 4, 3, [35]), (34, .iconst (-1), 1, [1, 1]), (35, .ireturn, 1, [0])]
def gN_vatOf : List (mv_C H2) := [((0, 0), [], cN_isVat), ((0, 0), [], cN_in)]
def tN_roster : List mv_E := [(0, .iload_n 1, 1, [1]), (1, .invokestatic 79, 3, [0, 0, 1, 1, 5, 47, 5, 48, 1, 8]), (4, .ifCond .eq 29, 3, [33]), (7, .iload_n 2, 1, [2]), (8, .iconst (-1), 1, [1, 1]), (9, .if_icmp .eq 10, 3, [19]), (12, .iload_n 2, 1, [2]), (13, .invokestatic 75, 3, [0, 1, 1, 1, 5, 34, 5, 35, 1, 8]), (16, .ifCond .eq 17, 3, [33]), (19, .iconst 1, 1, [0, 1]), (20, .aload_n 0, 1, [0]), (21, .bipush 23, 2, [0, 23]), (23, .iload_n 1, 1, [1]), (24, .iadd, 1, []), (25, .iload_n 2, 1, [2]), (26, .invokevirtual 71, 3, [0, 2, 3, 0, 5, 22, 5, 24, 1, 8, 0, 26]), (29, .iadd, 1, []), (30, .goto 4, 3, [34]), (33, .iconst (-1), 1, [1, 1]), (34, .ireturn, 1, [0])]
def gN_roster : List (mv_C H2) := [((0, 0), [], cN_isRest), ((0, 0), [], cN_isVat), ((0, 0), [], cN_becomes)]
def tN_rosterOf : List mv_E := [(0, .iload_n 1, 1, [1]), (1, .invokestatic 79, 3, [0, 0, 1, 1, 5, 47, 5, 48, 1, 8]), (4, .ifCond .eq 17, 3, [21]), (7, .iconst 1, 1, [0, 1]), (8, .aload_n 0, 1, [0]), (9, .getfield 16, 3, [8, 2, 1, 0, 4, 180]), (12, .bipush 23, 2, [0, 23]), (14, .iload_n 1, 1, [1]), (15, .iadd, 1, []), (16, .iaload, 1, []), (17, .iadd, 1, []), (18, .goto 4, 3, [22]), (21, .iconst (-1), 1, [1, 1]), (22, .ireturn, 1, [0])]
def gN_rosterOf : List (mv_C H2) := [((0, 0), [], cN_isRest)]
def tN_isKind : List mv_E := [(0, .iload_n 0, 1, [0]), (1, .i2l, 1, []), (2, .lconst 0, 1, [0, 0]), (3, .ldc2_w 67, 3, [0, 5, 5, 50]), (6, .invokestatic 59, 3, [0, 0, 3, 1, 5, 19, 5, 20, 1, 8]), (9, .ireturn, 1, [1])]
def gN_isKind : List (mv_C H2) := [((0, 0), [], cN_in)]
def tN_isUnder : List mv_E := [(0, .iload_n 1, 1, [1]), (1, .ifCond .eq 28, 3, [29]), (4, .iload_n 0, 1, [0]), (5, .iload_n 1, 1, [1]), (6, .if_icmp .eq 23, 3, [29]), (9, .iload_n 0, 1, [0]), (10, .iconst 3, 1, [0, 3]), (11, .if_icmp .ne 8, 3, [19]), (14, .iload_n 1, 1, [1]), (15, .iconst 1, 1, [0, 1]), (16, .if_icmp .eq 13, 3, [29]), (19, .iload_n 0, 1, [0]), (20, .iconst 4, 1, [0, 4]), (21, .if_icmp .ne 12, 3, [33]), (24, .iload_n 1, 1, [1]), (25, .iconst 2, 1, [0, 2]), (26, .if_icmp .ne 7, 3, [33]), (29, .iconst 1, 1, [0, 1]), (30, .goto 4, 3, [34]), (33, .iconst 0, 1, [0, 0]), (34, .ireturn, 1, [1])]
def gN_isUnder : List (mv_C H2) := []
def tN_takesOf : List mv_E := [(0, .iload_n 2, 1, [2]), (1, .aload_n 0, 1, [0]), (2, .getfield 16, 3, [8, 2, 1, 0, 4, 180]), (5, .iconst 0, 1, [0, 0]), (6, .iaload, 1, []), (7, .iadd, 1, []), (8, .istore_n 3, 1, [3]), (9, .aload_n 0, 1, [0]), (10, .iload_n 1, 1, [1]), (11, .iconst 0, 1, [0, 0]), (12, .invokevirtual 82, 3, [0, 0, 3, 0, 5, 79, 5, 81, 1, 8, 0, 30]), (15, .tableswitch 72 1 5 #[33, 43, 37, 52, 68], 33, [1, 87, 48, 58, 52, 67, 83]), (48, .iload_n 3, 1, [3]), (49, .iconst 3, 1, [0, 3]), (50, .iadd, 1, []), (51, .ireturn, 1, [0]), (52, .iconst 2, 1, [0, 2]), (53, .iload_n 3, 1, [3]), (54, .iconst 3, 1, [0, 3]), (55, .iadd, 1, []), (56, .imul, 1, []), (57, .ireturn, 1, [0]), (58, .iload_n 3, 1, [3]), (59, .aload_n 0, 1, [0]), (60, .getfield 16, 3, [8, 2, 1, 0, 4, 180]), (63, .iconst 1, 1, [0, 1]), (64, .iaload, 1, []), (65, .isub, 1, []), (66, .ireturn, 1, [0]), (67, .iload_n 3, 1, [3]), (68, .aload_n 0, 1, [0]), (69, .getfield 16, 3, [8, 2, 1, 0, 4, 180]), (72, .iconst 1, 1, [0, 1]), (73, .iaload, 1, []), (74, .isub, 1, []), (75, .aload_n 0, 1, [0]), (76, .getfield 16, 3, [8, 2, 1, 0, 4, 180]), (79, .iconst 2, 1, [0, 2]), (80, .iaload, 1, []), (81, .iadd, 1, []), (82, .ireturn, 1, [0]), (83, .iload_n 3, 1, [3]), (84, .iconst 2, 1, [0, 2]), (85, .idiv, 1, []), (86, .ireturn, 1, [0]), (87, .iload_n 3, 1, [3]), (88, .ireturn, 1, [0])]
def gN_takesOf : List (mv_C H2) := [((0, 0), [], cN_its)]
def tN_fightsOf : List mv_E := [(0, .aload_n 0, 1, [0]), (1, .iload_n 1, 1, [1]), (2, .iconst 0, 1, [0, 0]), (3, .invokevirtual 82, 3, [0, 0, 3, 0, 5, 79, 5, 81, 1, 8, 0, 30]), (6, .tableswitch 83 1 5 #[34, 59, 43, 68, 79], 34, [1, 89, 40, 65, 49, 74, 85]), (40, .iload_n 2, 1, [2]), (41, .aload_n 0, 1, [0]), (42, .getfield 16, 3, [8, 2, 1, 0, 4, 180]), (45, .iconst 2, 1, [0, 2]), (46, .iaload, 1, []), (47, .isub, 1, []), (48, .ireturn, 1, [0]), (49, .iload_n 2, 1, [2]), (50, .aload_n 0, 1, [0]), (51, .getfield 16, 3, [8, 2, 1, 0, 4, 180]), (54, .iconst 2, 1, [0, 2]), (55, .iaload, 1, []), (56, .isub, 1, []), (57, .aload_n 0, 1, [0]), (58, .getfield 16, 3, [8, 2, 1, 0, 4, 180]), (61, .iconst 0, 1, [0, 0]), (62, .iaload, 1, []), (63, .iadd, 1, []), (64, .ireturn, 1, [0]), (65, .iload_n 2, 1, [2]), (66, .aload_n 0, 1, [0]), (67, .getfield 16, 3, [8, 2, 1, 0, 4, 180]), (70, .iconst 2, 1, [0, 2]), (71, .iaload, 1, []), (72, .iadd, 1, []), (73, .ireturn, 1, [0]), (74, .iconst 2, 1, [0, 2]), (75, .iload_n 2, 1, [2]), (76, .aload_n 0, 1, [0]), (77, .getfield 16, 3, [8, 2, 1, 0, 4, 180]), (80, .iconst 2, 1, [0, 2]), (81, .iaload, 1, []), (82, .iadd, 1, []), (83, .imul, 1, []), (84, .ireturn, 1, [0]), (85, .iload_n 2, 1, [2]), (86, .iconst 1, 1, [0, 1]), (87, .iadd, 1, []), (88, .ireturn, 1, [0]), (89, .iload_n 2, 1, [2]), (90, .ireturn, 1, [0])]
def gN_fightsOf : List (mv_C H2) := [((0, 0), [], cN_its)]
def tN_fadesOf : List mv_E := [(0, .aload_n 0, 1, [0]), (1, .getfield 16, 3, [8, 2, 1, 0, 4, 180]), (4, .iconst 1, 1, [0, 1]), (5, .iaload, 1, []), (6, .istore_n 2, 1, [2]), (7, .aload_n 0, 1, [0]), (8, .iload_n 1, 1, [1]), (9, .iconst 0, 1, [0, 0]), (10, .invokevirtual 82, 3, [0, 0, 3, 0, 5, 79, 5, 81, 1, 8, 0, 30]), (13, .tableswitch 55 1 5 #[35, 41, 39, 45, 51], 35, [1, 68, 48, 54, 52, 58, 64]), (48, .iload_n 2, 1, [2]), (49, .iconst 1, 1, [0, 1]), (50, .isub, 1, []), (51, .ireturn, 1, [0]), (52, .iconst 0, 1, [0, 0]), (53, .ireturn, 1, [0]), (54, .iload_n 2, 1, [2]), (55, .iconst 1, 1, [0, 1]), (56, .iadd, 1, []), (57, .ireturn, 1, [0]), (58, .iconst 2, 1, [0, 2]), (59, .iload_n 2, 1, [2]), (60, .iconst 1, 1, [0, 1]), (61, .iadd, 1, []), (62, .imul, 1, []), (63, .ireturn, 1, [0]), (64, .iload_n 2, 1, [2]), (65, .iconst 3, 1, [0, 3]), (66, .iadd, 1, []), (67, .ireturn, 1, [0]), (68, .iload_n 2, 1, [2]), (69, .ireturn, 1, [0])]
def gN_fadesOf : List (mv_C H2) := [((0, 0), [], cN_its)]
def tN_adds : List mv_E := [(0, .aload_n 0, 1, [0]), (1, .getfield 16, 3, [8, 2, 1, 0, 4, 180]), (4, .bipush 6, 2, [0, 6]), (6, .iaload, 1, []), (7, .istore_n 2, 1, [2]), (8, .aload_n 0, 1, [0]), (9, .getfield 16, 3, [8, 2, 1, 0, 4, 180]), (12, .bipush 6, 2, [0, 6]), (14, .dup2, 1, []), (15, .iaload, 1, []), (16, .iconst 1, 1, [0, 1]), (17, .iadd, 1, []), (18, .iastore, 1, []), (19, .aload_n 0, 1, [0]), (20, .iload_n 2, 1, [2]), (21, .iconst 0, 1, [0, 0]), (22, .iload_n 1, 1, [1]), (23, .invokevirtual 85, 3, [0, 0, 4, 0, 5, 66, 5, 68, 1, 8, 0, 28]), (26, .aload_n 0, 1, [0]), (27, .iload_n 2, 1, [2]), (28, .iconst 1, 1, [0, 1]), (29, .iconst (-1), 1, [1, 1]), (30, .invokevirtual 85, 3, [0, 0, 4, 0, 5, 66, 5, 68, 1, 8, 0, 28]), (33, .aload_n 0, 1, [0]), (34, .iload_n 2, 1, [2]), (35, .iconst 2, 1, [0, 2]), (36, .iconst 0, 1, [0, 0]), (37, .invokevirtual 85, 3, [0, 0, 4, 0, 5, 66, 5, 68, 1, 8, 0, 28]), (40, .aload_n 0, 1, [0]), (41, .iload_n 2, 1, [2]), (42, .iconst 3, 1, [0, 3]), (43, .iconst 0, 1, [0, 0]), (44, .invokevirtual 85, 3, [0, 0, 4, 0, 5, 66, 5, 68, 1, 8, 0, 28]), (47, .aload_n 0, 1, [0]), (48, .iload_n 2, 1, [2]), (49, .iconst 4, 1, [0, 4]), (50, .iconst 0, 1, [0, 0]), (51, .invokevirtual 85, 3, [0, 0, 4, 0, 5, 66, 5, 68, 1, 8, 0, 28]), (54, .return_, 1, [])]
def gN_adds : List (mv_C H2) := [((0, 0), [], cN_sets)]
def tN_cloth : List mv_E := [(0, .iload_n 1, 1, [1]), (1, .invokestatic 89, 3, [0, 0, 1, 1, 5, 59, 5, 60, 1, 8]), (4, .ifCond .ne 5, 3, [9]), (7, .iconst (-1), 1, [1, 1]), (8, .ireturn, 1, [0]), (9, .aload_n 0, 1, [0]), (10, .getfield 16, 3, [8, 2, 1, 0, 4, 180]), (13, .bipush 6, 2, [0, 6]), (15, .iaload, 1, []), (16, .bipush 8, 2, [0, 8]), (18, .if_icmp .ne 6, 3, [24]), (21, .bipush (-2), 2, [1, 2]), (23, .ireturn, 1, [0]), (24, .aload_n 0, 1, [0]), (25, .iload_n 1, 1, [1]), (26, .invokevirtual 92, 3, [0, 1, 2, 0, 5, 62, 5, 64, 1, 8, 0, 27]), (29, .aload_n 0, 1, [0]), (30, .getfield 16, 3, [8, 2, 1, 0, 4, 180]), (33, .bipush 6, 2, [0, 6]), (35, .iaload, 1, []), (36, .iconst 1, 1, [0, 1]), (37, .isub, 1, []), (38, .ireturn, 1, [0])]
def gN_cloth : List (mv_C H2) := [((0, 0), [], cN_isKind), ((0, 0), [], cN_adds)]
def tN_of : List mv_E := [(0, .aload_n 0, 1, [0]), (1, .iload_n 1, 1, [1]), (2, .invokevirtual 96, 3, [0, 0, 2, 0, 5, 74, 5, 76, 1, 8, 0, 29]), (5, .ifCond .eq 15, 3, [20]), (8, .iload_n 2, 1, [2]), (9, .i2l, 1, []), (10, .lconst 0, 1, [0, 0]), (11, .ldc2_w 99, 3, [0, 4, 5, 78]), (14, .invokestatic 59, 3, [0, 1, 3, 1, 5, 19, 5, 20, 1, 8]), (17, .ifCond .ne 5, 3, [22]), (20, .iconst (-1), 1, [1, 1]), (21, .ireturn, 1, [0]), (22, .iload_n 2, 1, [2]), (23, .iconst 1, 1, [0, 1]), (24, .if_icmp .ne 14, 3, [38]), (27, .iconst 1, 1, [0, 1]), (28, .aload_n 0, 1, [0]), (29, .iload_n 1, 1, [1]), (30, .iconst 1, 1, [0, 1]), (31, .invokevirtual 82, 3, [0, 2, 3, 0, 5, 79, 5, 81, 1, 8, 0, 30]), (34, .iadd, 1, []), (35, .goto 9, 3, [44]), (38, .aload_n 0, 1, [0]), (39, .iload_n 1, 1, [1]), (40, .iload_n 2, 1, [2]), (41, .invokevirtual 82, 3, [0, 2, 3, 0, 5, 79, 5, 81, 1, 8, 0, 30]), (44, .ireturn, 1, [0])]
def gN_of : List (mv_C H2) := [((0, 0), [], cN_isCloth), ((0, 0), [], cN_in), ((0, 0), [], cN_its)]
def tN_does : List mv_E := [(0, .aload_n 0, 1, [0]), (1, .iload_n 1, 1, [1]), (2, .invokevirtual 96, 3, [0, 0, 2, 0, 5, 74, 5, 76, 1, 8, 0, 29]), (5, .ifCond .eq 22, 3, [27]), (8, .iload_n 2, 1, [2]), (9, .invokestatic 75, 3, [0, 1, 1, 1, 5, 34, 5, 35, 1, 8]), (12, .ifCond .eq 15, 3, [27]), (15, .iload_n 3, 1, [3]), (16, .i2l, 1, []), (17, .lconst 0, 1, [0, 0]), (18, .ldc2_w 101, 3, [0, 2, 5, 87]), (21, .invokestatic 59, 3, [0, 2, 3, 1, 5, 19, 5, 20, 1, 8]), (24, .ifCond .ne 5, 3, [29]), (27, .iconst (-1), 1, [1, 1]), (28, .ireturn, 1, [0]), (29, .aload_n 0, 1, [0]), (30, .getfield 16, 3, [8, 2, 1, 0, 4, 180]), (33, .bipush 15, 2, [0, 15]), (35, .iload_n 2, 1, [2]), (36, .iadd, 1, []), (37, .iaload, 1, []), (38, .istore 4, 2, [4]), (40, .sipush 1000, 3, [0, 1000]), (43, .iload_n 3, 1, [3]), (44, .ifCond .ne 13, 3, [57]), (47, .aload_n 0, 1, [0]), (48, .iload_n 1, 1, [1]), (49, .iload 4, 2, [4]), (51, .invokevirtual 103, 3, [0, 3, 3, 0, 5, 88, 5, 90, 1, 8, 0, 31]), (54, .goto 23, 3, [77]), (57, .iload_n 3, 1, [3]), (58, .iconst 1, 1, [0, 1]), (59, .if_icmp .ne 13, 3, [72]), (62, .aload_n 0, 1, [0]), (63, .iload_n 1, 1, [1]), (64, .iload 4, 2, [4]), (66, .invokevirtual 106, 3, [0, 4, 3, 0, 5, 92, 5, 94, 1, 8, 0, 32]), (69, .goto 8, 3, [77]), (72, .aload_n 0, 1, [0]), (73, .iload_n 1, 1, [1]), (74, .invokevirtual 109, 3, [0, 5, 2, 0, 5, 96, 5, 98, 1, 8, 0, 33]), (77, .iadd, 1, []), (78, .ireturn, 1, [0])]
def gN_does : List (mv_C H2) := [((0, 0), [], cN_isCloth), ((0, 0), [], cN_isVat), ((0, 0), [], cN_in), ((0, 0), [], cN_takesOf), ((0, 0), [], cN_fightsOf), ((0, 0), [], cN_fadesOf)]
def tN_changed : List mv_E := [(0, .aload_n 0, 1, [0]), (1, .bipush 29, 2, [0, 29]), (3, .iconst 5, 1, [0, 5]), (4, .iload_n 1, 1, [1]), (5, .imul, 1, []), (6, .iadd, 1, []), (7, .iload_n 2, 1, [2]), (8, .iadd, 1, []), (9, .iload_n 3, 1, [3]), (10, .invokevirtual 71, 3, [0, 0, 3, 0, 5, 22, 5, 24, 1, 8, 0, 26]), (13, .ireturn, 1, [0])]
def gN_changed : List (mv_C H2) := [((0, 0), [], cN_becomes)]
def tN_mind : List mv_E := [(0, .aload_n 0, 1, [0]), (1, .iload_n 1, 1, [1]), (2, .invokevirtual 96, 3, [0, 0, 2, 0, 5, 74, 5, 76, 1, 8, 0, 29]), (5, .ifCond .eq 20, 3, [25]), (8, .iload_n 2, 1, [2]), (9, .invokestatic 89, 3, [0, 1, 1, 1, 5, 59, 5, 60, 1, 8]), (12, .ifCond .eq 13, 3, [25]), (15, .aload_n 0, 1, [0]), (16, .iload_n 1, 1, [1]), (17, .iconst 0, 1, [0, 0]), (18, .iload_n 2, 1, [2]), (19, .invokevirtual 113, 3, [0, 2, 4, 0, 5, 104, 5, 106, 1, 8, 0, 34]), (22, .goto 4, 3, [26]), (25, .iconst (-1), 1, [1, 1]), (26, .ireturn, 1, [0])]
def gN_mind : List (mv_C H2) := [((0, 0), [], cN_isCloth), ((0, 0), [], cN_isKind), ((0, 0), [], cN_changed)]
def tN_isDeep : List mv_E := [(0, .aload_n 0, 1, [0]), (1, .iload_n 1, 1, [1]), (2, .iconst 2, 1, [0, 2]), (3, .iconst 0, 1, [0, 0]), (4, .bipush 99, 2, [0, 99]), (6, .iload_n 2, 1, [2]), (7, .invokestatic 117, 3, [2, 5, 132, 5, 133, 1, 14]), (10, .invokestatic 122, 3, [1, 5, 135, 5, 136, 1, 14]), (13, .invokevirtual 85, 3, [0, 0, 4, 0, 5, 66, 5, 68, 1, 8, 0, 28]), (16, .iload_n 2, 1, [2]), (17, .ifCond .gt 10, 3, [27]), (20, .aload_n 0, 1, [0]), (21, .iload_n 1, 1, [1]), (22, .iconst 1, 1, [0, 1]), (23, .iconst (-1), 1, [1, 1]), (24, .invokevirtual 85, 3, [0, 0, 4, 0, 5, 66, 5, 68, 1, 8, 0, 28]), (27, .return_, 1, [])]
def gN_isDeep : List (mv_C H2) := [((0, 0), [], cN_sets)]
def tN_steep : List mv_E := [(0, .iload_n 2, 1, [2]), (1, .iconst (-1), 1, [1, 1]), (2, .if_icmp .ne 15, 3, [17]), (5, .iload_n 3, 1, [3]), (6, .ifCond .ne 7, 3, [13]), (9, .iconst 1, 1, [0, 1]), (10, .goto 31, 3, [41]), (13, .iconst 0, 1, [0, 0]), (14, .goto 27, 3, [41]), (17, .iload_n 2, 1, [2]), (18, .invokestatic 125, 3, [0, 0, 1, 1, 5, 112, 5, 113, 1, 8]), (21, .ifCond .eq 19, 3, [40]), (24, .iload_n 3, 1, [3]), (25, .i2l, 1, []), (26, .lconst 1, 1, [0, 1]), (27, .ldc2_w 128, 3, [0, 99, 5, 115]), (30, .invokestatic 59, 3, [0, 1, 3, 1, 5, 19, 5, 20, 1, 8]), (33, .ifCond .eq 7, 3, [40]), (36, .iconst 1, 1, [0, 1]), (37, .goto 4, 3, [41]), (40, .iconst 0, 1, [0, 0]), (41, .istore 4, 2, [4]), (43, .aload_n 0, 1, [0]), (44, .iload_n 1, 1, [1]), (45, .invokevirtual 96, 3, [0, 2, 2, 0, 5, 74, 5, 76, 1, 8, 0, 29]), (48, .ifCond .eq 8, 3, [56]), (51, .iload 4, 2, [4]), (53, .ifCond .ne 5, 3, [58]), (56, .iconst (-1), 1, [1, 1]), (57, .ireturn, 1, [0]), (58, .aload_n 0, 1, [0]), (59, .iload_n 1, 1, [1]), (60, .iconst 2, 1, [0, 2]), (61, .iload_n 3, 1, [3]), (62, .invokevirtual 85, 3, [0, 3, 4, 0, 5, 66, 5, 68, 1, 8, 0, 28]), (65, .iconst 1, 1, [0, 1]), (66, .aload_n 0, 1, [0]), (67, .iload_n 1, 1, [1]), (68, .iconst 1, 1, [0, 1]), (69, .iload_n 2, 1, [2]), (70, .invokevirtual 113, 3, [0, 4, 4, 0, 5, 104, 5, 106, 1, 8, 0, 34]), (73, .iadd, 1, []), (74, .ireturn, 1, [0])]
def gN_steep : List (mv_C H2) := [((0, 0), [], cN_isPurpose), ((0, 0), [], cN_in), ((0, 0), [], cN_isCloth), ((0, 0), [], cN_sets), ((0, 0), [], cN_changed)]
def tN_hang : List mv_E := [(0, .aload_n 0, 1, [0]), (1, .iload_n 1, 1, [1]), (2, .invokevirtual 96, 3, [0, 0, 2, 0, 5, 74, 5, 76, 1, 8, 0, 29]), (5, .ifCond .eq 23, 3, [28]), (8, .iload_n 2, 1, [2]), (9, .i2l, 1, []), (10, .lconst 0, 1, [0, 0]), (11, .lconst 1, 1, [0, 1]), (12, .invokestatic 59, 3, [0, 1, 3, 1, 5, 19, 5, 20, 1, 8]), (15, .ifCond .eq 13, 3, [28]), (18, .aload_n 0, 1, [0]), (19, .iload_n 1, 1, [1]), (20, .iconst 3, 1, [0, 3]), (21, .iload_n 2, 1, [2]), (22, .invokevirtual 113, 3, [0, 2, 4, 0, 5, 104, 5, 106, 1, 8, 0, 34]), (25, .goto 4, 3, [29]), (28, .iconst (-1), 1, [1, 1]), (29, .ireturn, 1, [0])]
def gN_hang : List (mv_C H2) := [((0, 0), [], cN_isCloth), ((0, 0), [], cN_in), ((0, 0), [], cN_changed)]
def tN_dips : List mv_E := [(0, .aload_n 0, 1, [0]), (1, .getfield 16, 3, [8, 2, 1, 0, 4, 180]), (4, .bipush 7, 2, [0, 7]), (6, .iload_n 2, 1, [2]), (7, .iadd, 1, []), (8, .iaload, 1, []), (9, .istore_n 3, 1, [3]), (10, .aload_n 0, 1, [0]), (11, .getfield 16, 3, [8, 2, 1, 0, 4, 180]), (14, .bipush 15, 2, [0, 15]), (16, .iload_n 2, 1, [2]), (17, .iadd, 1, []), (18, .iaload, 1, []), (19, .istore 4, 2, [4]), (21, .aload_n 0, 1, [0]), (22, .iload_n 1, 1, [1]), (23, .iconst 2, 1, [0, 2]), (24, .invokevirtual 82, 3, [0, 0, 3, 0, 5, 79, 5, 81, 1, 8, 0, 30]), (27, .istore 5, 2, [5]), (29, .aload_n 0, 1, [0]), (30, .iload_n 1, 1, [1]), (31, .iconst 1, 1, [0, 1]), (32, .invokevirtual 82, 3, [0, 0, 3, 0, 5, 79, 5, 81, 1, 8, 0, 30]), (35, .iconst (-1), 1, [1, 1]), (36, .if_icmp .eq 13, 3, [49]), (39, .aload_n 0, 1, [0]), (40, .iload_n 1, 1, [1]), (41, .iconst 1, 1, [0, 1]), (42, .invokevirtual 82, 3, [0, 0, 3, 0, 5, 79, 5, 81, 1, 8, 0, 30]), (45, .iload_n 3, 1, [3]), (46, .if_icmp .ne 28, 3, [74]), (49, .aload_n 0, 1, [0]), (50, .iload_n 1, 1, [1]), (51, .iconst 1, 1, [0, 1]), (52, .iload_n 3, 1, [3]), (53, .invokevirtual 85, 3, [0, 1, 4, 0, 5, 66, 5, 68, 1, 8, 0, 28]), (56, .aload_n 0, 1, [0]), (57, .iload_n 1, 1, [1]), (58, .iload 5, 2, [5]), (60, .aload_n 0, 1, [0]), (61, .iload_n 1, 1, [1]), (62, .iload 4, 2, [4]), (64, .invokevirtual 103, 3, [0, 2, 3, 0, 5, 88, 5, 90, 1, 8, 0, 31]), (67, .iadd, 1, []), (68, .invokevirtual 130, 3, [0, 3, 3, 0, 5, 128, 5, 130, 1, 8, 0, 36]), (71, .goto 37, 3, [108]), (74, .iload 5, 2, [5]), (76, .aload_n 0, 1, [0]), (77, .iload_n 1, 1, [1]), (78, .iload 4, 2, [4]), (80, .invokevirtual 106, 3, [0, 4, 3, 0, 5, 92, 5, 94, 1, 8, 0, 32]), (83, .isub, 1, []), (84, .istore 6, 2, [6]), (86, .iload 6, 2, [6]), (88, .ifCond .ge 10, 3, [98]), (91, .aload_n 0, 1, [0]), (92, .iload_n 1, 1, [1]), (93, .iconst 1, 1, [0, 1]), (94, .iload_n 3, 1, [3]), (95, .invokevirtual 85, 3, [0, 1, 4, 0, 5, 66, 5, 68, 1, 8, 0, 28]), (98, .aload_n 0, 1, [0]), (99, .iload_n 1, 1, [1]), (100, .iload 6, 2, [6]), (102, .invokestatic 134, 3, [3, 5, 138, 5, 139, 1, 14]), (105, .invokevirtual 130, 3, [0, 3, 3, 0, 5, 128, 5, 130, 1, 8, 0, 36]), (108, .aload_n 0, 1, [0]), (109, .iload_n 1, 1, [1]), (110, .iconst 4, 1, [0, 4]), (111, .sipush 9999, 3, [0, 9999]), (114, .aload_n 0, 1, [0]), (115, .iload_n 1, 1, [1]), (116, .iconst 4, 1, [0, 4]), (117, .invokevirtual 82, 3, [0, 0, 3, 0, 5, 79, 5, 81, 1, 8, 0, 30]), (120, .iconst 1, 1, [0, 1]), (121, .iadd, 1, []), (122, .invokestatic 117, 3, [2, 5, 132, 5, 133, 1, 14]), (125, .invokevirtual 85, 3, [0, 1, 4, 0, 5, 66, 5, 68, 1, 8, 0, 28]), (128, .aload_n 0, 1, [0]), (129, .getfield 16, 3, [8, 2, 1, 0, 4, 180]), (132, .bipush 15, 2, [0, 15]), (134, .iload_n 2, 1, [2]), (135, .iadd, 1, []), (136, .iconst 0, 1, [0, 0]), (137, .iload 4, 2, [4]), (139, .iconst 1, 1, [0, 1]), (140, .isub, 1, []), (141, .invokestatic 122, 3, [1, 5, 135, 5, 136, 1, 14]), (144, .iastore, 1, []), (145, .return_, 1, [])]
def gN_dips : List (mv_C H2) := [((0, 0), [], cN_its), ((0, 0), [], cN_sets), ((0, 0), [], cN_takesOf), ((0, 0), [], cN_isDeep), ((0, 0), [], cN_fightsOf)]
def tN_dip : List mv_E := [(0, .aload_n 0, 1, [0]), (1, .iload_n 1, 1, [1]), (2, .invokevirtual 96, 3, [0, 0, 2, 0, 5, 74, 5, 76, 1, 8, 0, 29]), (5, .ifCond .eq 10, 3, [15]), (8, .iload_n 2, 1, [2]), (9, .invokestatic 75, 3, [0, 1, 1, 1, 5, 34, 5, 35, 1, 8]), (12, .ifCond .ne 5, 3, [17]), (15, .iconst (-1), 1, [1, 1]), (16, .ireturn, 1, [0]), (17, .aload_n 0, 1, [0]), (18, .iload_n 1, 1, [1]), (19, .iload_n 2, 1, [2]), (20, .invokevirtual 137, 3, [0, 2, 3, 0, 5, 124, 5, 126, 1, 8, 0, 35]), (23, .iconst 1, 1, [0, 1]), (24, .aload_n 0, 1, [0]), (25, .iload_n 1, 1, [1]), (26, .iconst 1, 1, [0, 1]), (27, .invokevirtual 82, 3, [0, 3, 3, 0, 5, 79, 5, 81, 1, 8, 0, 30]), (30, .iadd, 1, []), (31, .ireturn, 1, [0])]
def gN_dip : List (mv_C H2) := [((0, 0), [], cN_isCloth), ((0, 0), [], cN_isVat), ((0, 0), [], cN_dips), ((0, 0), [], cN_its)]
def tN_aDay : List mv_E := [(0, .aload_n 0, 1, [0]), (1, .getfield 16, 3, [8, 2, 1, 0, 4, 180]), (4, .bipush 23, 2, [0, 23]), (6, .aload_n 0, 1, [0]), (7, .getfield 16, 3, [8, 2, 1, 0, 4, 180]), (10, .iconst 4, 1, [0, 4]), (11, .iaload, 1, []), (12, .bipush 6, 2, [0, 6]), (14, .irem, 1, []), (15, .iadd, 1, []), (16, .iaload, 1, []), (17, .istore_n 1, 1, [1]), (18, .iconst 0, 1, [0, 0]), (19, .istore_n 2, 1, [2]), (20, .iload_n 1, 1, [1]), (21, .ifCond .lt 35, 3, [56]), (24, .iload_n 2, 1, [2]), (25, .aload_n 0, 1, [0]), (26, .getfield 16, 3, [8, 2, 1, 0, 4, 180]), (29, .bipush 6, 2, [0, 6]), (31, .iaload, 1, []), (32, .if_icmp .ge 24, 3, [56]), (35, .aload_n 0, 1, [0]), (36, .iload_n 2, 1, [2]), (37, .iconst 3, 1, [0, 3]), (38, .invokevirtual 82, 3, [0, 0, 3, 0, 5, 79, 5, 81, 1, 8, 0, 30]), (41, .ifCond .ne 9, 3, [50]), (44, .aload_n 0, 1, [0]), (45, .iload_n 2, 1, [2]), (46, .iload_n 1, 1, [1]), (47, .invokevirtual 137, 3, [0, 1, 3, 0, 5, 124, 5, 126, 1, 8, 0, 35]), (50, .iinc 2 1, 3, [2, 0, 1]), (53, .goto (-33), 3, [20]), (56, .iconst 0, 1, [0, 0]), (57, .istore_n 2, 1, [2]), (58, .iload_n 2, 1, [2]), (59, .aload_n 0, 1, [0]), (60, .getfield 16, 3, [8, 2, 1, 0, 4, 180]), (63, .bipush 6, 2, [0, 6]), (65, .iaload, 1, []), (66, .if_icmp .ge 45, 3, [111]), (69, .aload_n 0, 1, [0]), (70, .iload_n 2, 1, [2]), (71, .iconst 3, 1, [0, 3]), (72, .invokevirtual 82, 3, [0, 0, 3, 0, 5, 79, 5, 81, 1, 8, 0, 30]), (75, .iconst 1, 1, [0, 1]), (76, .if_icmp .ne 29, 3, [105]), (79, .aload_n 0, 1, [0]), (80, .iload_n 2, 1, [2]), (81, .iconst 1, 1, [0, 1]), (82, .invokevirtual 82, 3, [0, 0, 3, 0, 5, 79, 5, 81, 1, 8, 0, 30]), (85, .ifCond .lt 20, 3, [105]), (88, .aload_n 0, 1, [0]), (89, .iload_n 2, 1, [2]), (90, .aload_n 0, 1, [0]), (91, .iload_n 2, 1, [2]), (92, .iconst 2, 1, [0, 2]), (93, .invokevirtual 82, 3, [0, 0, 3, 0, 5, 79, 5, 81, 1, 8, 0, 30]), (96, .aload_n 0, 1, [0]), (97, .iload_n 2, 1, [2]), (98, .invokevirtual 109, 3, [0, 2, 2, 0, 5, 96, 5, 98, 1, 8, 0, 33]), (101, .isub, 1, []), (102, .invokevirtual 130, 3, [0, 3, 3, 0, 5, 128, 5, 130, 1, 8, 0, 36]), (105, .iinc 2 1, 3, [2, 0, 1]), (108, .goto (-50), 3, [58]), (111, .iconst 0, 1, [0, 0]), (112, .istore_n 2, 1, [2]), (113, .iload_n 2, 1, [2]), (114, .bipush 8, 2, [0, 8]), (116, .if_icmp .ge 34, 3, [150]), (119, .aload_n 0, 1, [0]), (120, .getfield 16, 3, [8, 2, 1, 0, 4, 180]), (123, .bipush 15, 2, [0, 15]), (125, .iload_n 2, 1, [2]), (126, .iadd, 1, []), (127, .bipush 9, 2, [0, 9]), (129, .aload_n 0, 1, [0]), (130, .getfield 16, 3, [8, 2, 1, 0, 4, 180]), (133, .bipush 15, 2, [0, 15]), (135, .iload_n 2, 1, [2]), (136, .iadd, 1, []), (137, .iaload, 1, []), (138, .iconst 1, 1, [0, 1]), (139, .iadd, 1, []), (140, .invokestatic 117, 3, [2, 5, 132, 5, 133, 1, 14]), (143, .iastore, 1, []), (144, .iinc 2 1, 3, [2, 0, 1]), (147, .goto (-34), 3, [113]), (150, .aload_n 0, 1, [0]), (151, .getfield 16, 3, [8, 2, 1, 0, 4, 180]), (154, .iconst 4, 1, [0, 4]), (155, .dup2, 1, []), (156, .iaload, 1, []), (157, .iconst 1, 1, [0, 1]), (158, .iadd, 1, []), (159, .iastore, 1, []), (160, .return_, 1, [])]
def gN_aDay : List (mv_C H2) := [((0, 0), [], cN_its), ((0, 0), [], cN_dips), ((0, 0), [], cN_fadesOf), ((0, 0), [], cN_isDeep)]
def tN_goes : List mv_E := [(0, .iconst 0, 1, [0, 0]), (1, .istore_n 2, 1, [2]), (2, .iload_n 2, 1, [2]), (3, .iload_n 1, 1, [1]), (4, .if_icmp .ge 13, 3, [17]), (7, .aload_n 0, 1, [0]), (8, .invokevirtual 140, 3, [0, 0, 1, 0, 5, 150, 5, 152, 1, 8, 0, 38]), (11, .iinc 2 1, 3, [2, 0, 1]), (14, .goto (-12), 3, [2]), (17, .return_, 1, [])]
def gN_goes : List (mv_C H2) := [((0, 0), [], cN_aDay)]
def tN_depths : List mv_E := [(0, .iconst 0, 1, [0, 0]), (1, .istore_n 1, 1, [1]), (2, .iconst 0, 1, [0, 0]), (3, .istore_n 2, 1, [2]), (4, .iload_n 2, 1, [2]), (5, .aload_n 0, 1, [0]), (6, .getfield 16, 3, [8, 2, 1, 0, 4, 180]), (9, .bipush 6, 2, [0, 6]), (11, .iaload, 1, []), (12, .if_icmp .ge 18, 3, [30]), (15, .iload_n 1, 1, [1]), (16, .aload_n 0, 1, [0]), (17, .iload_n 2, 1, [2]), (18, .iconst 2, 1, [0, 2]), (19, .invokevirtual 82, 3, [0, 0, 3, 0, 5, 79, 5, 81, 1, 8, 0, 30]), (22, .iadd, 1, []), (23, .istore_n 1, 1, [1]), (24, .iinc 2 1, 3, [2, 0, 1]), (27, .goto (-23), 3, [4]), (30, .iload_n 1, 1, [1]), (31, .ireturn, 1, [0])]
def gN_depths : List (mv_C H2) := [((0, 0), [], cN_its)]
def tN_days : List mv_E := [(0, .iload_n 1, 1, [1]), (1, .i2l, 1, []), (2, .lconst 1, 1, [0, 1]), (3, .ldc2_w 143, 3, [0, 60, 5, 145]), (6, .invokestatic 59, 3, [0, 0, 3, 1, 5, 19, 5, 20, 1, 8]), (9, .ifCond .ne 5, 3, [14]), (12, .iconst (-1), 1, [1, 1]), (13, .ireturn, 1, [0]), (14, .aload_n 0, 1, [0]), (15, .iload_n 1, 1, [1]), (16, .invokevirtual 145, 3, [0, 1, 2, 0, 5, 146, 5, 148, 1, 8, 0, 37]), (19, .aload_n 0, 1, [0]), (20, .invokevirtual 148, 3, [0, 2, 1, 0, 5, 154, 5, 156, 1, 8, 0, 39]), (23, .ireturn, 1, [0])]
def gN_days : List (mv_C H2) := [((0, 0), [], cN_in), ((0, 0), [], cN_goes), ((0, 0), [], cN_depths)]
def tN_seed : List mv_E := [(0, .aload_n 0, 1, [0]), (1, .iconst 5, 1, [0, 5]), (2, .iload_n 1, 1, [1]), (3, .invokevirtual 71, 3, [0, 0, 3, 0, 5, 22, 5, 24, 1, 8, 0, 26]), (6, .ireturn, 1, [0])]
def gN_seed : List (mv_C H2) := [((0, 0), [], cN_becomes)]
def tN_draw : List mv_E := [(0, .aload_n 0, 1, [0]), (1, .getfield 16, 3, [8, 2, 1, 0, 4, 180]), (4, .iconst 5, 1, [0, 5]), (5, .aload_n 0, 1, [0]), (6, .getfield 16, 3, [8, 2, 1, 0, 4, 180]), (9, .iconst 5, 1, [0, 5]), (10, .iaload, 1, []), (11, .ldc 152, 2, [0, 0, 1103515245, 5, 174]), (13, .imul, 1, []), (14, .sipush 12345, 3, [0, 12345]), (17, .iadd, 1, []), (18, .iastore, 1, []), (19, .aload_n 0, 1, [0]), (20, .getfield 16, 3, [8, 2, 1, 0, 4, 180]), (23, .iconst 5, 1, [0, 5]), (24, .iaload, 1, []), (25, .bipush 16, 2, [0, 16]), (27, .iushr, 1, []), (28, .ireturn, 1, [0])]
def gN_draw : List (mv_C H2) := []
def tN_byDraws : List mv_E := [(0, .aload_n 0, 1, [0]), (1, .getfield 16, 3, [8, 2, 1, 0, 4, 180]), (4, .bipush 6, 2, [0, 6]), (6, .iaload, 1, []), (7, .ifCond .le 44, 3, [51]), (10, .aload_n 0, 1, [0]), (11, .invokevirtual 153, 3, [0, 0, 1, 0, 5, 170, 5, 172, 1, 8, 0, 41]), (14, .aload_n 0, 1, [0]), (15, .getfield 16, 3, [8, 2, 1, 0, 4, 180]), (18, .bipush 6, 2, [0, 6]), (20, .iaload, 1, []), (21, .irem, 1, []), (22, .istore_n 1, 1, [1]), (23, .aload_n 0, 1, [0]), (24, .invokevirtual 153, 3, [0, 0, 1, 0, 5, 170, 5, 172, 1, 8, 0, 41]), (27, .bipush 100, 2, [0, 100]), (29, .irem, 1, []), (30, .aload_n 0, 1, [0]), (31, .getfield 16, 3, [8, 2, 1, 0, 4, 180]), (34, .iconst 3, 1, [0, 3]), (35, .iaload, 1, []), (36, .if_icmp .ge 15, 3, [51]), (39, .aload_n 0, 1, [0]), (40, .iload_n 1, 1, [1]), (41, .aload_n 0, 1, [0]), (42, .invokevirtual 153, 3, [0, 0, 1, 0, 5, 170, 5, 172, 1, 8, 0, 41]), (45, .bipush 8, 2, [0, 8]), (47, .irem, 1, []), (48, .invokevirtual 137, 3, [0, 1, 3, 0, 5, 124, 5, 126, 1, 8, 0, 35]), (51, .aload_n 0, 1, [0]), (52, .invokevirtual 140, 3, [0, 2, 1, 0, 5, 150, 5, 152, 1, 8, 0, 38]), (55, .return_, 1, [])]
def gN_byDraws : List (mv_C H2) := [((0, 0), [], cN_draw), ((0, 0), [], cN_dips), ((0, 0), [], cN_aDay)]
def tN_day : List mv_E := [(0, .aload_n 0, 1, [0]), (1, .invokevirtual 156, 3, [0, 0, 1, 0, 5, 166, 5, 168, 1, 8, 0, 40]), (4, .aload_n 0, 1, [0]), (5, .invokevirtual 148, 3, [0, 1, 1, 0, 5, 154, 5, 156, 1, 8, 0, 39]), (8, .ireturn, 1, [0])]
def gN_day : List (mv_C H2) := [((0, 0), [], cN_byDraws), ((0, 0), [], cN_depths)]
def tN_luck : List mv_E := [(0, .iload_n 1, 1, [1]), (1, .i2l, 1, []), (2, .lconst 1, 1, [0, 1]), (3, .ldc2_w 159, 3, [0, 30, 5, 179]), (6, .invokestatic 59, 3, [0, 0, 3, 1, 5, 19, 5, 20, 1, 8]), (9, .ifCond .ne 5, 3, [14]), (12, .iconst (-1), 1, [1, 1]), (13, .ireturn, 1, [0]), (14, .aload_n 0, 1, [0]), (15, .invokevirtual 161, 3, [0, 1, 1, 0, 5, 180, 5, 182, 1, 8, 0, 42]), (18, .aload_n 0, 1, [0]), (19, .invokevirtual 140, 3, [0, 2, 1, 0, 5, 150, 5, 152, 1, 8, 0, 38]), (22, .aload_n 0, 1, [0]), (23, .invokevirtual 148, 3, [0, 3, 1, 0, 5, 154, 5, 156, 1, 8, 0, 39]), (26, .istore_n 2, 1, [2]), (27, .aload_n 0, 1, [0]), (28, .invokevirtual 164, 3, [0, 4, 1, 0, 5, 187, 5, 189, 1, 8, 0, 43]), (31, .aload_n 0, 1, [0]), (32, .getfield 16, 3, [8, 2, 1, 0, 4, 180]), (35, .iconst 5, 1, [0, 5]), (36, .iaload, 1, []), (37, .istore_n 3, 1, [3]), (38, .iconst 0, 1, [0, 0]), (39, .istore 4, 2, [4]), (41, .iconst 0, 1, [0, 0]), (42, .istore 5, 2, [5]), (44, .iload 5, 2, [5]), (46, .iload_n 1, 1, [1]), (47, .if_icmp .ge 49, 3, [96]), (50, .aload_n 0, 1, [0]), (51, .getfield 16, 3, [8, 2, 1, 0, 4, 180]), (54, .iconst 5, 1, [0, 5]), (55, .iload_n 3, 1, [3]), (56, .iastore, 1, []), (57, .aload_n 0, 1, [0]), (58, .invokevirtual 156, 3, [0, 5, 1, 0, 5, 166, 5, 168, 1, 8, 0, 40]), (61, .aload_n 0, 1, [0]), (62, .getfield 16, 3, [8, 2, 1, 0, 4, 180]), (65, .iconst 5, 1, [0, 5]), (66, .iaload, 1, []), (67, .istore_n 3, 1, [3]), (68, .iload 4, 2, [4]), (70, .aload_n 0, 1, [0]), (71, .invokevirtual 148, 3, [0, 3, 1, 0, 5, 154, 5, 156, 1, 8, 0, 39]), (74, .iload_n 2, 1, [2]), (75, .if_icmp .le 7, 3, [82]), (78, .iconst 1, 1, [0, 1]), (79, .goto 4, 3, [83]), (82, .iconst 0, 1, [0, 0]), (83, .iadd, 1, []), (84, .istore 4, 2, [4]), (86, .aload_n 0, 1, [0]), (87, .invokevirtual 164, 3, [0, 4, 1, 0, 5, 187, 5, 189, 1, 8, 0, 43]), (90, .iinc 5 1, 3, [5, 0, 1]), (93, .goto (-49), 3, [44]), (96, .iload 4, 2, [4]), (98, .ireturn, 1, [0])]
def gN_luck : List (mv_C H2) := [((0, 0), [], cN_in), ((0, 0), [], cN_lends), ((0, 0), [], cN_aDay), ((0, 0), [], cN_depths), ((0, 0), [], cN_laysBack), ((0, 0), [], cN_byDraws)]
def tN_hungSet : List mv_E := [(0, .iconst 0, 1, [0, 0]), (1, .istore_n 1, 1, [1]), (2, .iconst 0, 1, [0, 0]), (3, .istore_n 2, 1, [2]), (4, .iload_n 2, 1, [2]), (5, .aload_n 0, 1, [0]), (6, .getfield 16, 3, [8, 2, 1, 0, 4, 180]), (9, .bipush 6, 2, [0, 6]), (11, .iaload, 1, []), (12, .if_icmp .ge 20, 3, [32]), (15, .iload_n 1, 1, [1]), (16, .aload_n 0, 1, [0]), (17, .iload_n 2, 1, [2]), (18, .iconst 3, 1, [0, 3]), (19, .invokevirtual 82, 3, [0, 0, 3, 0, 5, 79, 5, 81, 1, 8, 0, 30]), (22, .iload_n 2, 1, [2]), (23, .ishl, 1, []), (24, .ior, 1, []), (25, .istore_n 1, 1, [1]), (26, .iinc 2 1, 3, [2, 0, 1]), (29, .goto (-25), 3, [4]), (32, .iload_n 1, 1, [1]), (33, .ireturn, 1, [0])]
def gN_hungSet : List (mv_C H2) := [((0, 0), [], cN_its)]
def tN_aboutSet : List mv_E := [(0, .iconst 0, 1, [0, 0]), (1, .istore_n 1, 1, [1]), (2, .iconst 0, 1, [0, 0]), (3, .istore_n 2, 1, [2]), (4, .iload_n 2, 1, [2]), (5, .aload_n 0, 1, [0]), (6, .getfield 16, 3, [8, 2, 1, 0, 4, 180]), (9, .bipush 6, 2, [0, 6]), (11, .iaload, 1, []), (12, .if_icmp .ge 28, 3, [40]), (15, .iload_n 1, 1, [1]), (16, .aload_n 0, 1, [0]), (17, .iload_n 2, 1, [2]), (18, .iconst 1, 1, [0, 1]), (19, .invokevirtual 82, 3, [0, 0, 3, 0, 5, 79, 5, 81, 1, 8, 0, 30]), (22, .ifCond .lt 9, 3, [31]), (25, .iconst 1, 1, [0, 1]), (26, .iload_n 2, 1, [2]), (27, .ishl, 1, []), (28, .goto 4, 3, [32]), (31, .iconst 0, 1, [0, 0]), (32, .ior, 1, []), (33, .istore_n 1, 1, [1]), (34, .iinc 2 1, 3, [2, 0, 1]), (37, .goto (-33), 3, [4]), (40, .iload_n 1, 1, [1]), (41, .ireturn, 1, [0])]
def gN_aboutSet : List (mv_C H2) := [((0, 0), [], cN_its)]
def tN_isAtOdds : List mv_E := [(0, .aload_n 0, 1, [0]), (1, .iload_n 1, 1, [1]), (2, .iconst 3, 1, [0, 3]), (3, .invokevirtual 82, 3, [0, 0, 3, 0, 5, 79, 5, 81, 1, 8, 0, 30]), (6, .ifCond .ne 16, 3, [22]), (9, .aload_n 0, 1, [0]), (10, .iload_n 2, 1, [2]), (11, .iconst 3, 1, [0, 3]), (12, .invokevirtual 82, 3, [0, 0, 3, 0, 5, 79, 5, 81, 1, 8, 0, 30]), (15, .ifCond .ne 7, 3, [22]), (18, .iconst 1, 1, [0, 1]), (19, .goto 4, 3, [23]), (22, .iconst 0, 1, [0, 0]), (23, .istore_n 3, 1, [3]), (24, .iload_n 3, 1, [3]), (25, .ifCond .eq 40, 3, [65]), (28, .aload_n 0, 1, [0]), (29, .iload_n 1, 1, [1]), (30, .iconst 1, 1, [0, 1]), (31, .invokevirtual 82, 3, [0, 0, 3, 0, 5, 79, 5, 81, 1, 8, 0, 30]), (34, .ifCond .lt 31, 3, [65]), (37, .aload_n 0, 1, [0]), (38, .iload_n 2, 1, [2]), (39, .iconst 1, 1, [0, 1]), (40, .invokevirtual 82, 3, [0, 0, 3, 0, 5, 79, 5, 81, 1, 8, 0, 30]), (43, .ifCond .lt 22, 3, [65]), (46, .aload_n 0, 1, [0]), (47, .iload_n 1, 1, [1]), (48, .iconst 1, 1, [0, 1]), (49, .invokevirtual 82, 3, [0, 0, 3, 0, 5, 79, 5, 81, 1, 8, 0, 30]), (52, .aload_n 0, 1, [0]), (53, .iload_n 2, 1, [2]), (54, .iconst 1, 1, [0, 1]), (55, .invokevirtual 82, 3, [0, 0, 3, 0, 5, 79, 5, 81, 1, 8, 0, 30]), (58, .if_icmp .eq 7, 3, [65]), (61, .iconst 1, 1, [0, 1]), (62, .goto 4, 3, [66]), (65, .iconst 0, 1, [0, 0]), (66, .ireturn, 1, [1])]
def gN_isAtOdds : List (mv_C H2) := [((0, 0), [], cN_its)]
def tN_oddsAmong : List mv_E := [(0, .iconst 0, 1, [0, 0]), (1, .istore_n 1, 1, [1]), (2, .iconst 0, 1, [0, 0]), (3, .istore_n 2, 1, [2]), (4, .iload_n 2, 1, [2]), (5, .aload_n 0, 1, [0]), (6, .getfield 16, 3, [8, 2, 1, 0, 4, 180]), (9, .bipush 6, 2, [0, 6]), (11, .iaload, 1, []), (12, .if_icmp .ge 39, 3, [51]), (15, .iconst 0, 1, [0, 0]), (16, .istore_n 3, 1, [3]), (17, .iload_n 3, 1, [3]), (18, .iload_n 2, 1, [2]), (19, .if_icmp .ge 26, 3, [45]), (22, .iload_n 1, 1, [1]), (23, .aload_n 0, 1, [0]), (24, .iload_n 2, 1, [2]), (25, .iload_n 3, 1, [3]), (26, .invokevirtual 167, 3, [0, 0, 3, 0, 5, 207, 5, 209, 1, 8, 0, 47]), (29, .ifCond .eq 7, 3, [36]), (32, .iconst 1, 1, [0, 1]), (33, .goto 4, 3, [37]), (36, .iconst 0, 1, [0, 0]), (37, .iadd, 1, []), (38, .istore_n 1, 1, [1]), (39, .iinc 3 1, 3, [3, 0, 1]), (42, .goto (-25), 3, [17]), (45, .iinc 2 1, 3, [2, 0, 1]), (48, .goto (-44), 3, [4]), (51, .iload_n 1, 1, [1]), (52, .ireturn, 1, [0])]
def gN_oddsAmong : List (mv_C H2) := [((0, 0), [], cN_isAtOdds)]
def tN_state : List mv_E := [(0, .iload_n 1, 1, [1]), (1, .tableswitch 86 0 5 #[39, 46, 66, 71, 76, 81], 39, [0, 87, 40, 47, 67, 72, 77, 82]), (40, .aload_n 0, 1, [0]), (41, .getfield 16, 3, [8, 2, 1, 0, 4, 180]), (44, .iconst 4, 1, [0, 4]), (45, .iaload, 1, []), (46, .ireturn, 1, [0]), (47, .iconst 1, 1, [0, 1]), (48, .aload_n 0, 1, [0]), (49, .getfield 16, 3, [8, 2, 1, 0, 4, 180]), (52, .bipush 23, 2, [0, 23]), (54, .aload_n 0, 1, [0]), (55, .getfield 16, 3, [8, 2, 1, 0, 4, 180]), (58, .iconst 4, 1, [0, 4]), (59, .iaload, 1, []), (60, .bipush 6, 2, [0, 6]), (62, .irem, 1, []), (63, .iadd, 1, []), (64, .iaload, 1, []), (65, .iadd, 1, []), (66, .ireturn, 1, [0]), (67, .aload_n 0, 1, [0]), (68, .invokevirtual 171, 3, [0, 0, 1, 0, 5, 195, 5, 197, 1, 8, 0, 44]), (71, .ireturn, 1, [0]), (72, .aload_n 0, 1, [0]), (73, .invokevirtual 174, 3, [0, 1, 1, 0, 5, 199, 5, 201, 1, 8, 0, 45]), (76, .ireturn, 1, [0]), (77, .aload_n 0, 1, [0]), (78, .invokevirtual 148, 3, [0, 2, 1, 0, 5, 154, 5, 156, 1, 8, 0, 39]), (81, .ireturn, 1, [0]), (82, .aload_n 0, 1, [0]), (83, .invokevirtual 177, 3, [0, 3, 1, 0, 5, 203, 5, 205, 1, 8, 0, 46]), (86, .ireturn, 1, [0]), (87, .iconst (-1), 1, [1, 1]), (88, .ireturn, 1, [0])]
def gN_state : List (mv_C H2) := [((0, 0), [], cN_hungSet), ((0, 0), [], cN_aboutSet), ((0, 0), [], cN_depths), ((0, 0), [], cN_oddsAmong)]
def tN_isAhead : List mv_E := [(0, .iload_n 0, 1, [0]), (1, .i2l, 1, []), (2, .lconst 0, 1, [0, 0]), (3, .ldc2_w 143, 3, [0, 60, 5, 145]), (6, .invokestatic 59, 3, [0, 0, 3, 1, 5, 19, 5, 20, 1, 8]), (9, .ireturn, 1, [1])]
def gN_isAhead : List (mv_C H2) := [((0, 0), [], cN_in)]
def tN_isSoon : List mv_E := [(0, .iload_n 0, 1, [0]), (1, .i2l, 1, []), (2, .lconst 1, 1, [0, 1]), (3, .ldc2_w 180, 3, [0, 40, 6, 21]), (6, .invokestatic 59, 3, [0, 0, 3, 1, 5, 19, 5, 20, 1, 8]), (9, .ireturn, 1, [1])]
def gN_isSoon : List (mv_C H2) := [((0, 0), [], cN_in)]
def tN_behind : List mv_E := [(0, .aload_n 0, 1, [0]), (1, .iload_n 3, 1, [3]), (2, .invokevirtual 145, 3, [0, 0, 2, 0, 5, 146, 5, 148, 1, 8, 0, 37]), (5, .aload_n 0, 1, [0]), (6, .iload_n 1, 1, [1]), (7, .iload_n 2, 1, [2]), (8, .invokevirtual 82, 3, [0, 1, 3, 0, 5, 79, 5, 81, 1, 8, 0, 30]), (11, .istore 4, 2, [4]), (13, .aload_n 0, 1, [0]), (14, .invokevirtual 164, 3, [0, 2, 1, 0, 5, 187, 5, 189, 1, 8, 0, 43]), (17, .iload 4, 2, [4]), (19, .ireturn, 1, [0])]
def gN_behind : List (mv_C H2) := [((0, 0), [], cN_goes), ((0, 0), [], cN_its), ((0, 0), [], cN_laysBack)]
def tN_gone : List mv_E := [(0, .aload_n 0, 1, [0]), (1, .iload_n 1, 1, [1]), (2, .invokevirtual 96, 3, [0, 0, 2, 0, 5, 74, 5, 76, 1, 8, 0, 29]), (5, .ifCond .eq 10, 3, [15]), (8, .iload_n 2, 1, [2]), (9, .invokestatic 182, 3, [0, 1, 1, 1, 5, 215, 5, 216, 1, 8]), (12, .ifCond .ne 5, 3, [17]), (15, .iconst (-1), 1, [1, 1]), (16, .ireturn, 1, [0]), (17, .aload_n 0, 1, [0]), (18, .invokevirtual 161, 3, [0, 2, 1, 0, 5, 180, 5, 182, 1, 8, 0, 42]), (21, .iconst 1, 1, [0, 1]), (22, .aload_n 0, 1, [0]), (23, .iload_n 1, 1, [1]), (24, .iconst 1, 1, [0, 1]), (25, .iload_n 2, 1, [2]), (26, .invokevirtual 185, 3, [0, 3, 4, 0, 5, 218, 5, 220, 1, 8, 0, 48]), (29, .iadd, 1, []), (30, .ireturn, 1, [0])]
def gN_gone : List (mv_C H2) := [((0, 0), [], cN_isCloth), ((0, 0), [], cN_isAhead), ((0, 0), [], cN_lends), ((0, 0), [], cN_behind)]
def tN_depth : List mv_E := [(0, .aload_n 0, 1, [0]), (1, .iload_n 1, 1, [1]), (2, .invokevirtual 96, 3, [0, 0, 2, 0, 5, 74, 5, 76, 1, 8, 0, 29]), (5, .ifCond .eq 10, 3, [15]), (8, .iload_n 2, 1, [2]), (9, .invokestatic 182, 3, [0, 1, 1, 1, 5, 215, 5, 216, 1, 8]), (12, .ifCond .ne 5, 3, [17]), (15, .iconst (-1), 1, [1, 1]), (16, .ireturn, 1, [0]), (17, .aload_n 0, 1, [0]), (18, .invokevirtual 161, 3, [0, 2, 1, 0, 5, 180, 5, 182, 1, 8, 0, 42]), (21, .aload_n 0, 1, [0]), (22, .iload_n 1, 1, [1]), (23, .iconst 2, 1, [0, 2]), (24, .iload_n 2, 1, [2]), (25, .invokevirtual 185, 3, [0, 3, 4, 0, 5, 218, 5, 220, 1, 8, 0, 48]), (28, .ireturn, 1, [0])]
def gN_depth : List (mv_C H2) := [((0, 0), [], cN_isCloth), ((0, 0), [], cN_isAhead), ((0, 0), [], cN_lends), ((0, 0), [], cN_behind)]
def tN_firstAbout : List mv_E := [(0, .aload_n 0, 1, [0]), (1, .invokevirtual 161, 3, [0, 0, 1, 0, 5, 180, 5, 182, 1, 8, 0, 42]), (4, .iconst 0, 1, [0, 0]), (5, .istore_n 3, 1, [3]), (6, .iload_n 3, 1, [3]), (7, .bipush 60, 2, [0, 60]), (9, .if_icmp .gt 23, 3, [32]), (12, .aload_n 0, 1, [0]), (13, .iload_n 1, 1, [1]), (14, .iconst 1, 1, [0, 1]), (15, .invokevirtual 82, 3, [0, 1, 3, 0, 5, 79, 5, 81, 1, 8, 0, 30]), (18, .iload_n 2, 1, [2]), (19, .if_icmp .eq 13, 3, [32]), (22, .aload_n 0, 1, [0]), (23, .invokevirtual 140, 3, [0, 2, 1, 0, 5, 150, 5, 152, 1, 8, 0, 38]), (26, .iinc 3 1, 3, [3, 0, 1]), (29, .goto (-23), 3, [6]), (32, .aload_n 0, 1, [0]), (33, .invokevirtual 164, 3, [0, 3, 1, 0, 5, 187, 5, 189, 1, 8, 0, 43]), (36, .iload_n 3, 1, [3]), (37, .bipush 60, 2, [0, 60]), (39, .if_icmp .gt 7, 3, [46]), (42, .iload_n 3, 1, [3]), (43, .goto 5, 3, [48]), (46, .bipush (-3), 2, [1, 3]), (48, .ireturn, 1, [0])]
def gN_firstAbout : List (mv_C H2) := [((0, 0), [], cN_lends), ((0, 0), [], cN_its), ((0, 0), [], cN_aDay), ((0, 0), [], cN_laysBack)]
def tN_comes : List mv_E := [(0, .aload_n 0, 1, [0]), (1, .iload_n 1, 1, [1]), (2, .invokevirtual 96, 3, [0, 0, 2, 0, 5, 74, 5, 76, 1, 8, 0, 29]), (5, .ifCond .eq 19, 3, [24]), (8, .iload_n 2, 1, [2]), (9, .invokestatic 125, 3, [0, 1, 1, 1, 5, 112, 5, 113, 1, 8]), (12, .ifCond .eq 12, 3, [24]), (15, .aload_n 0, 1, [0]), (16, .iload_n 1, 1, [1]), (17, .iload_n 2, 1, [2]), (18, .invokevirtual 188, 3, [0, 2, 3, 0, 5, 230, 5, 232, 1, 8, 0, 49]), (21, .goto 4, 3, [25]), (24, .iconst (-1), 1, [1, 1]), (25, .ireturn, 1, [0])]
def gN_comes : List (mv_C H2) := [((0, 0), [], cN_isCloth), ((0, 0), [], cN_isPurpose), ((0, 0), [], cN_firstAbout)]
def tN_bare : List mv_E := [(0, .aload_n 0, 1, [0]), (1, .iload_n 1, 1, [1]), (2, .invokevirtual 96, 3, [0, 0, 2, 0, 5, 74, 5, 76, 1, 8, 0, 29]), (5, .ifCond .eq 12, 3, [17]), (8, .aload_n 0, 1, [0]), (9, .iload_n 1, 1, [1]), (10, .iconst (-1), 1, [1, 1]), (11, .invokevirtual 188, 3, [0, 1, 3, 0, 5, 230, 5, 232, 1, 8, 0, 49]), (14, .goto 4, 3, [18]), (17, .iconst (-1), 1, [1, 1]), (18, .ireturn, 1, [0])]
def gN_bare : List (mv_C H2) := [((0, 0), [], cN_isCloth), ((0, 0), [], cN_firstAbout)]
def tN_spoiltIn : List mv_E := [(0, .aload_n 0, 1, [0]), (1, .iload_n 1, 1, [1]), (2, .invokevirtual 145, 3, [0, 0, 2, 0, 5, 146, 5, 148, 1, 8, 0, 37]), (5, .iconst 0, 1, [0, 0]), (6, .istore_n 2, 1, [2]), (7, .iconst 0, 1, [0, 0]), (8, .istore_n 3, 1, [3]), (9, .iload_n 3, 1, [3]), (10, .aload_n 0, 1, [0]), (11, .getfield 16, 3, [8, 2, 1, 0, 4, 180]), (14, .bipush 6, 2, [0, 6]), (16, .iaload, 1, []), (17, .if_icmp .ge 39, 3, [56]), (20, .iload_n 2, 1, [2]), (21, .aload_n 0, 1, [0]), (22, .iload_n 3, 1, [3]), (23, .iconst 1, 1, [0, 1]), (24, .invokevirtual 82, 3, [0, 1, 3, 0, 5, 79, 5, 81, 1, 8, 0, 30]), (27, .aload_n 0, 1, [0]), (28, .getfield 22, 3, [8, 4, 1, 0, 4, 182]), (31, .bipush 29, 2, [0, 29]), (33, .iconst 5, 1, [0, 5]), (34, .iload_n 3, 1, [3]), (35, .imul, 1, []), (36, .iadd, 1, []), (37, .iconst 1, 1, [0, 1]), (38, .iadd, 1, []), (39, .iaload, 1, []), (40, .if_icmp .ne 7, 3, [47]), (43, .iconst 0, 1, [0, 0]), (44, .goto 4, 3, [48]), (47, .iconst 1, 1, [0, 1]), (48, .iadd, 1, []), (49, .istore_n 2, 1, [2]), (50, .iinc 3 1, 3, [3, 0, 1]), (53, .goto (-44), 3, [9]), (56, .aload_n 0, 1, [0]), (57, .invokevirtual 164, 3, [0, 2, 1, 0, 5, 187, 5, 189, 1, 8, 0, 43]), (60, .iload_n 2, 1, [2]), (61, .ireturn, 1, [0])]
def gN_spoiltIn : List (mv_C H2) := [((0, 0), [], cN_goes), ((0, 0), [], cN_its), ((0, 0), [], cN_laysBack)]
def tN_spoilt : List mv_E := [(0, .iload_n 1, 1, [1]), (1, .invokestatic 182, 3, [0, 0, 1, 1, 5, 215, 5, 216, 1, 8]), (4, .ifCond .ne 5, 3, [9]), (7, .iconst (-1), 1, [1, 1]), (8, .ireturn, 1, [0]), (9, .aload_n 0, 1, [0]), (10, .invokevirtual 161, 3, [0, 1, 1, 0, 5, 180, 5, 182, 1, 8, 0, 42]), (13, .aload_n 0, 1, [0]), (14, .iload_n 1, 1, [1]), (15, .invokevirtual 191, 3, [0, 2, 2, 0, 6, 2, 6, 4, 1, 8, 0, 50]), (18, .ireturn, 1, [0])]
def gN_spoilt : List (mv_C H2) := [((0, 0), [], cN_isAhead), ((0, 0), [], cN_lends), ((0, 0), [], cN_spoiltIn)]
def tN_isThrough : List mv_E := [(0, .iload_n 3, 1, [3]), (1, .iconst 1, 1, [0, 1]), (2, .isub, 1, []), (3, .istore 5, 2, [5]), (5, .iload 5, 2, [5]), (7, .ifCond .lt 24, 3, [31]), (10, .aload_n 0, 1, [0]), (11, .iload_n 1, 1, [1]), (12, .iload 4, 2, [4]), (14, .iconst 3, 1, [0, 3]), (15, .iload 5, 2, [5]), (17, .imul, 1, []), (18, .ishr, 1, []), (19, .bipush 7, 2, [0, 7]), (21, .iand, 1, []), (22, .invokevirtual 137, 3, [0, 0, 3, 0, 5, 124, 5, 126, 1, 8, 0, 35]), (25, .iinc 5 (-1), 3, [5, 1, 1]), (28, .goto (-23), 3, [5]), (31, .aload_n 0, 1, [0]), (32, .iload_n 1, 1, [1]), (33, .iconst 1, 1, [0, 1]), (34, .invokevirtual 82, 3, [0, 1, 3, 0, 5, 79, 5, 81, 1, 8, 0, 30]), (37, .iload_n 2, 1, [2]), (38, .if_icmp .ne 7, 3, [45]), (41, .iconst 1, 1, [0, 1]), (42, .goto 4, 3, [46]), (45, .iconst 0, 1, [0, 0]), (46, .istore 5, 2, [5]), (48, .aload_n 0, 1, [0]), (49, .invokevirtual 164, 3, [0, 2, 1, 0, 5, 187, 5, 189, 1, 8, 0, 43]), (52, .iload 5, 2, [5]), (54, .ireturn, 1, [1])]
def gN_isThrough : List (mv_C H2) := [((0, 0), [], cN_dips), ((0, 0), [], cN_its), ((0, 0), [], cN_laysBack)]
def tN_through : List mv_E := [(0, .aload_n 0, 1, [0]), (1, .iload_n 1, 1, [1]), (2, .invokevirtual 96, 3, [0, 0, 2, 0, 5, 74, 5, 76, 1, 8, 0, 29]), (5, .ifCond .eq 10, 3, [15]), (8, .iload_n 2, 1, [2]), (9, .invokestatic 125, 3, [0, 1, 1, 1, 5, 112, 5, 113, 1, 8]), (12, .ifCond .ne 5, 3, [17]), (15, .iconst (-1), 1, [1, 1]), (16, .ireturn, 1, [0]), (17, .aload_n 0, 1, [0]), (18, .invokevirtual 161, 3, [0, 2, 1, 0, 5, 180, 5, 182, 1, 8, 0, 42]), (21, .iconst 0, 1, [0, 0]), (22, .istore_n 3, 1, [3]), (23, .iload_n 3, 1, [3]), (24, .iconst 3, 1, [0, 3]), (25, .if_icmp .gt 49, 3, [74]), (28, .iconst 0, 1, [0, 0]), (29, .istore 4, 2, [4]), (31, .iload 4, 2, [4]), (33, .iconst 1, 1, [0, 1]), (34, .iconst 3, 1, [0, 3]), (35, .iload_n 3, 1, [3]), (36, .imul, 1, []), (37, .ishl, 1, []), (38, .if_icmp .ge 30, 3, [68]), (41, .aload_n 0, 1, [0]), (42, .iload_n 1, 1, [1]), (43, .iload_n 2, 1, [2]), (44, .iload_n 3, 1, [3]), (45, .iload 4, 2, [4]), (47, .invokevirtual 194, 3, [0, 3, 5, 0, 6, 10, 6, 12, 1, 8, 0, 51]), (50, .ifCond .eq 12, 3, [62]), (53, .iconst 1, 1, [0, 1]), (54, .iconst 3, 1, [0, 3]), (55, .iload_n 3, 1, [3]), (56, .imul, 1, []), (57, .ishl, 1, []), (58, .iload 4, 2, [4]), (60, .iadd, 1, []), (61, .ireturn, 1, [0]), (62, .iinc 4 1, 3, [4, 0, 1]), (65, .goto (-34), 3, [31]), (68, .iinc 3 1, 3, [3, 0, 1]), (71, .goto (-48), 3, [23]), (74, .bipush (-3), 2, [1, 3]), (76, .ireturn, 1, [0])]
def gN_through : List (mv_C H2) := [((0, 0), [], cN_isCloth), ((0, 0), [], cN_isPurpose), ((0, 0), [], cN_lends), ((0, 0), [], cN_isThrough)]
def tN_vatFor : List mv_E := [(0, .iload_n 1, 1, [1]), (1, .invokestatic 79, 3, [0, 0, 1, 1, 5, 47, 5, 48, 1, 8]), (4, .ifCond .eq 10, 3, [14]), (7, .iload_n 2, 1, [2]), (8, .invokestatic 198, 3, [0, 1, 1, 1, 6, 18, 6, 19, 1, 8]), (11, .ifCond .ne 5, 3, [16]), (14, .iconst (-1), 1, [1, 1]), (15, .ireturn, 1, [0]), (16, .iconst (-1), 1, [1, 1]), (17, .istore_n 3, 1, [3]), (18, .iconst (-1), 1, [1, 1]), (19, .istore 4, 2, [4]), (21, .iconst 0, 1, [0, 0]), (22, .istore 5, 2, [5]), (24, .iload 5, 2, [5]), (26, .bipush 8, 2, [0, 8]), (28, .if_icmp .ge 62, 3, [90]), (31, .aload_n 0, 1, [0]), (32, .invokevirtual 161, 3, [0, 2, 1, 0, 5, 180, 5, 182, 1, 8, 0, 42]), (35, .aload_n 0, 1, [0]), (36, .getfield 16, 3, [8, 2, 1, 0, 4, 180]), (39, .bipush 23, 2, [0, 23]), (41, .iload_n 1, 1, [1]), (42, .iadd, 1, []), (43, .iload 5, 2, [5]), (45, .iastore, 1, []), (46, .aload_n 0, 1, [0]), (47, .iload_n 2, 1, [2]), (48, .invokevirtual 145, 3, [0, 3, 2, 0, 5, 146, 5, 148, 1, 8, 0, 37]), (51, .aload_n 0, 1, [0]), (52, .invokevirtual 148, 3, [0, 4, 1, 0, 5, 154, 5, 156, 1, 8, 0, 39]), (55, .istore 6, 2, [6]), (57, .aload_n 0, 1, [0]), (58, .invokevirtual 164, 3, [0, 5, 1, 0, 5, 187, 5, 189, 1, 8, 0, 43]), (61, .iload 6, 2, [6]), (63, .iload 4, 2, [4]), (65, .if_icmp .le 8, 3, [73]), (68, .iload 5, 2, [5]), (70, .goto 4, 3, [74]), (73, .iload_n 3, 1, [3]), (74, .istore_n 3, 1, [3]), (75, .iload 4, 2, [4]), (77, .iload 6, 2, [6]), (79, .invokestatic 122, 3, [1, 5, 135, 5, 136, 1, 14]), (82, .istore 4, 2, [4]), (84, .iinc 5 1, 3, [5, 0, 1]), (87, .goto (-63), 3, [24]), (90, .iload_n 3, 1, [3]), (91, .ireturn, 1, [0])]
def gN_vatFor : List (mv_C H2) := [((0, 0), [], cN_isRest), ((0, 0), [], cN_isSoon), ((0, 0), [], cN_lends), ((0, 0), [], cN_goes), ((0, 0), [], cN_depths), ((0, 0), [], cN_laysBack)]
def tN_kindFor : List mv_E := [(0, .aload_n 0, 1, [0]), (1, .iload_n 1, 1, [1]), (2, .invokevirtual 96, 3, [0, 0, 2, 0, 5, 74, 5, 76, 1, 8, 0, 29]), (5, .ifCond .eq 10, 3, [15]), (8, .iload_n 2, 1, [2]), (9, .invokestatic 198, 3, [0, 1, 1, 1, 6, 18, 6, 19, 1, 8]), (12, .ifCond .ne 5, 3, [17]), (15, .iconst (-1), 1, [1, 1]), (16, .ireturn, 1, [0]), (17, .iconst (-1), 1, [1, 1]), (18, .istore_n 3, 1, [3]), (19, .iconst (-1), 1, [1, 1]), (20, .istore 4, 2, [4]), (22, .iconst 0, 1, [0, 0]), (23, .istore 5, 2, [5]), (25, .iload 5, 2, [5]), (27, .iconst 5, 1, [0, 5]), (28, .if_icmp .gt 53, 3, [81]), (31, .aload_n 0, 1, [0]), (32, .invokevirtual 161, 3, [0, 2, 1, 0, 5, 180, 5, 182, 1, 8, 0, 42]), (35, .aload_n 0, 1, [0]), (36, .iload_n 1, 1, [1]), (37, .iconst 0, 1, [0, 0]), (38, .iload 5, 2, [5]), (40, .invokevirtual 85, 3, [0, 3, 4, 0, 5, 66, 5, 68, 1, 8, 0, 28]), (43, .aload_n 0, 1, [0]), (44, .iload_n 1, 1, [1]), (45, .iconst 2, 1, [0, 2]), (46, .iload_n 2, 1, [2]), (47, .invokevirtual 185, 3, [0, 4, 4, 0, 5, 218, 5, 220, 1, 8, 0, 48]), (50, .istore 6, 2, [6]), (52, .iload 6, 2, [6]), (54, .iload 4, 2, [4]), (56, .if_icmp .le 8, 3, [64]), (59, .iload 5, 2, [5]), (61, .goto 4, 3, [65]), (64, .iload_n 3, 1, [3]), (65, .istore_n 3, 1, [3]), (66, .iload 4, 2, [4]), (68, .iload 6, 2, [6]), (70, .invokestatic 122, 3, [1, 5, 135, 5, 136, 1, 14]), (73, .istore 4, 2, [4]), (75, .iinc 5 1, 3, [5, 0, 1]), (78, .goto (-53), 3, [25]), (81, .iload_n 3, 1, [3]), (82, .ireturn, 1, [0])]
def gN_kindFor : List (mv_C H2) := [((0, 0), [], cN_isCloth), ((0, 0), [], cN_isSoon), ((0, 0), [], cN_lends), ((0, 0), [], cN_sets), ((0, 0), [], cN_behind)]
def tN_strengthFor : List mv_E := [(0, .iload_n 1, 1, [1]), (1, .invokestatic 75, 3, [0, 0, 1, 1, 5, 34, 5, 35, 1, 8]), (4, .ifCond .eq 26, 3, [30]), (7, .aload_n 0, 1, [0]), (8, .iload_n 2, 1, [2]), (9, .invokevirtual 96, 3, [0, 1, 2, 0, 5, 74, 5, 76, 1, 8, 0, 29]), (12, .ifCond .eq 18, 3, [30]), (15, .iload_n 3, 1, [3]), (16, .invokestatic 125, 3, [0, 2, 1, 1, 5, 112, 5, 113, 1, 8]), (19, .ifCond .eq 11, 3, [30]), (22, .iload 4, 2, [4]), (24, .invokestatic 198, 3, [0, 3, 1, 1, 6, 18, 6, 19, 1, 8]), (27, .ifCond .ne 5, 3, [32]), (30, .iconst (-1), 1, [1, 1]), (31, .ireturn, 1, [0]), (32, .bipush (-3), 2, [1, 3]), (34, .istore 5, 2, [5]), (36, .bipush 9, 2, [0, 9]), (38, .istore 6, 2, [6]), (40, .iload 6, 2, [6]), (42, .ifCond .lt 45, 3, [87]), (45, .aload_n 0, 1, [0]), (46, .invokevirtual 161, 3, [0, 4, 1, 0, 5, 180, 5, 182, 1, 8, 0, 42]), (49, .aload_n 0, 1, [0]), (50, .getfield 16, 3, [8, 2, 1, 0, 4, 180]), (53, .bipush 15, 2, [0, 15]), (55, .iload_n 1, 1, [1]), (56, .iadd, 1, []), (57, .iload 6, 2, [6]), (59, .iastore, 1, []), (60, .aload_n 0, 1, [0]), (61, .iload_n 2, 1, [2]), (62, .iconst 1, 1, [0, 1]), (63, .iload 4, 2, [4]), (65, .invokevirtual 185, 3, [0, 5, 4, 0, 5, 218, 5, 220, 1, 8, 0, 48]), (68, .iload_n 3, 1, [3]), (69, .if_icmp .ne 8, 3, [77]), (72, .iload 6, 2, [6]), (74, .goto 5, 3, [79]), (77, .iload 5, 2, [5]), (79, .istore 5, 2, [5]), (81, .iinc 6 (-1), 3, [6, 1, 1]), (84, .goto (-44), 3, [40]), (87, .iload 5, 2, [5]), (89, .ireturn, 1, [0])]
def gN_strengthFor : List (mv_C H2) := [((0, 0), [], cN_isVat), ((0, 0), [], cN_isCloth), ((0, 0), [], cN_isPurpose), ((0, 0), [], cN_isSoon), ((0, 0), [], cN_lends), ((0, 0), [], cN_behind)]
def tN_ones : List mv_E := [(0, .iconst 0, 1, [0, 0]), (1, .istore_n 1, 1, [1]), (2, .iconst 0, 1, [0, 0]), (3, .istore_n 2, 1, [2]), (4, .iload_n 2, 1, [2]), (5, .bipush 8, 2, [0, 8]), (7, .if_icmp .ge 17, 3, [24]), (10, .iload_n 1, 1, [1]), (11, .iload_n 0, 1, [0]), (12, .iload_n 2, 1, [2]), (13, .ishr, 1, []), (14, .iconst 1, 1, [0, 1]), (15, .iand, 1, []), (16, .iadd, 1, []), (17, .istore_n 1, 1, [1]), (18, .iinc 2 1, 3, [2, 0, 1]), (21, .goto (-17), 3, [4]), (24, .iload_n 1, 1, [1]), (25, .ireturn, 1, [0])]
def gN_ones : List (mv_C H2) := []
def tN_hangs : List mv_E := [(0, .iconst 0, 1, [0, 0]), (1, .istore_n 2, 1, [2]), (2, .iload_n 2, 1, [2]), (3, .aload_n 0, 1, [0]), (4, .getfield 16, 3, [8, 2, 1, 0, 4, 180]), (7, .bipush 6, 2, [0, 6]), (9, .iaload, 1, []), (10, .if_icmp .ge 20, 3, [30]), (13, .aload_n 0, 1, [0]), (14, .iload_n 2, 1, [2]), (15, .iconst 3, 1, [0, 3]), (16, .iload_n 1, 1, [1]), (17, .iload_n 2, 1, [2]), (18, .ishr, 1, []), (19, .iconst 1, 1, [0, 1]), (20, .iand, 1, []), (21, .invokevirtual 85, 3, [0, 0, 4, 0, 5, 66, 5, 68, 1, 8, 0, 28]), (24, .iinc 2 1, 3, [2, 0, 1]), (27, .goto (-25), 3, [2]), (30, .return_, 1, [])]
def gN_hangs : List (mv_C H2) := [((0, 0), [], cN_sets)]
def tN_hangFor : List mv_E := [(0, .iload_n 1, 1, [1]), (1, .i2l, 1, []), (2, .lconst 1, 1, [0, 1]), (3, .ldc2_w 159, 3, [0, 30, 5, 179]), (6, .invokestatic 59, 3, [0, 0, 3, 1, 5, 19, 5, 20, 1, 8]), (9, .ifCond .eq 15, 3, [24]), (12, .iload_n 2, 1, [2]), (13, .i2l, 1, []), (14, .lconst 0, 1, [0, 0]), (15, .ldc2_w 201, 3, [0, 8, 6, 34]), (18, .invokestatic 59, 3, [0, 0, 3, 1, 5, 19, 5, 20, 1, 8]), (21, .ifCond .ne 5, 3, [26]), (24, .iconst (-1), 1, [1, 1]), (25, .ireturn, 1, [0]), (26, .bipush (-3), 2, [1, 3]), (28, .istore_n 3, 1, [3]), (29, .iconst 0, 1, [0, 0]), (30, .istore 4, 2, [4]), (32, .iload 4, 2, [4]), (34, .iconst 1, 1, [0, 1]), (35, .aload_n 0, 1, [0]), (36, .getfield 16, 3, [8, 2, 1, 0, 4, 180]), (39, .bipush 6, 2, [0, 6]), (41, .iaload, 1, []), (42, .ishl, 1, []), (43, .if_icmp .ge 51, 3, [94]), (46, .iload_n 3, 1, [3]), (47, .ifCond .lt 15, 3, [62]), (50, .iload 4, 2, [4]), (52, .invokestatic 203, 3, [0, 1, 1, 1, 6, 35, 6, 36, 1, 8]), (55, .iload_n 3, 1, [3]), (56, .invokestatic 203, 3, [0, 1, 1, 1, 6, 35, 6, 36, 1, 8]), (59, .if_icmp .ge 29, 3, [88]), (62, .aload_n 0, 1, [0]), (63, .invokevirtual 161, 3, [0, 2, 1, 0, 5, 180, 5, 182, 1, 8, 0, 42]), (66, .aload_n 0, 1, [0]), (67, .iload 4, 2, [4]), (69, .invokevirtual 206, 3, [0, 3, 2, 0, 6, 38, 6, 40, 1, 8, 0, 52]), (72, .aload_n 0, 1, [0]), (73, .iload_n 1, 1, [1]), (74, .invokevirtual 191, 3, [0, 4, 2, 0, 6, 2, 6, 4, 1, 8, 0, 50]), (77, .iload_n 2, 1, [2]), (78, .if_icmp .gt 8, 3, [86]), (81, .iload 4, 2, [4]), (83, .goto 4, 3, [87]), (86, .iload_n 3, 1, [3]), (87, .istore_n 3, 1, [3]), (88, .iinc 4 1, 3, [4, 0, 1]), (91, .goto (-59), 3, [32]), (94, .iload_n 3, 1, [3]), (95, .ireturn, 1, [0])]
def gN_hangFor : List (mv_C H2) := [((0, 0), [], cN_in), ((0, 0), [], cN_ones), ((0, 0), [], cN_lends), ((0, 0), [], cN_hangs), ((0, 0), [], cN_spoiltIn)]
def tN_isSo : List mv_E := [(0, .aload_n 0, 1, [0]), (1, .invokevirtual 161, 3, [0, 0, 1, 0, 5, 180, 5, 182, 1, 8, 0, 42]), (4, .aload_n 0, 1, [0]), (5, .iload_n 2, 1, [2]), (6, .iconst 1, 1, [0, 1]), (7, .iload_n 3, 1, [3]), (8, .invokevirtual 85, 3, [0, 1, 4, 0, 5, 66, 5, 68, 1, 8, 0, 28]), (11, .iconst 1, 1, [0, 1]), (12, .istore 4, 2, [4]), (14, .iconst 0, 1, [0, 0]), (15, .istore 5, 2, [5]), (17, .iload 5, 2, [5]), (19, .aload_n 0, 1, [0]), (20, .getfield 34, 3, [8, 14, 1, 0, 4, 192]), (23, .iload_n 1, 1, [1]), (24, .iaload, 1, []), (25, .if_icmp .ge 56, 3, [81]), (28, .iload 4, 2, [4]), (30, .ifCond .eq 51, 3, [81]), (33, .aload_n 0, 1, [0]), (34, .invokevirtual 140, 3, [0, 2, 1, 0, 5, 150, 5, 152, 1, 8, 0, 38]), (37, .aload_n 0, 1, [0]), (38, .getfield 37, 3, [8, 15, 1, 0, 4, 193]), (41, .bipush 40, 2, [0, 40]), (43, .iload_n 1, 1, [1]), (44, .imul, 1, []), (45, .iload 5, 2, [5]), (47, .iadd, 1, []), (48, .iaload, 1, []), (49, .istore 6, 2, [6]), (51, .iload 6, 2, [6]), (53, .iconst (-1), 1, [1, 1]), (54, .if_icmp .eq 14, 3, [68]), (57, .iload 6, 2, [6]), (59, .aload_n 0, 1, [0]), (60, .iload_n 2, 1, [2]), (61, .iconst 2, 1, [0, 2]), (62, .invokevirtual 82, 3, [0, 3, 3, 0, 5, 79, 5, 81, 1, 8, 0, 30]), (65, .if_icmp .ne 7, 3, [72]), (68, .iconst 1, 1, [0, 1]), (69, .goto 4, 3, [73]), (72, .iconst 0, 1, [0, 0]), (73, .istore 4, 2, [4]), (75, .iinc 5 1, 3, [5, 0, 1]), (78, .goto (-61), 3, [17]), (81, .aload_n 0, 1, [0]), (82, .invokevirtual 164, 3, [0, 4, 1, 0, 5, 187, 5, 189, 1, 8, 0, 43]), (85, .iload 4, 2, [4]), (87, .ireturn, 1, [1])]
def gN_isSo : List (mv_C H2) := [((0, 0), [], cN_lends), ((0, 0), [], cN_sets), ((0, 0), [], cN_aDay), ((0, 0), [], cN_its), ((0, 0), [], cN_laysBack)]
def tN_isFour : List mv_E := [(0, .iload_n 0, 1, [0]), (1, .i2l, 1, []), (2, .lconst 0, 1, [0, 0]), (3, .ldc2_w 69, 3, [0, 3, 5, 18]), (6, .invokestatic 59, 3, [0, 0, 3, 1, 5, 19, 5, 20, 1, 8]), (9, .ireturn, 1, [1])]
def gN_isFour : List (mv_C H2) := [((0, 0), [], cN_in)]
def tN_fits : List mv_E := [(0, .iload_n 1, 1, [1]), (1, .invokestatic 209, 3, [0, 0, 1, 1, 6, 46, 6, 47, 1, 8]), (4, .ifCond .eq 21, 3, [25]), (7, .aload_n 0, 1, [0]), (8, .iload_n 2, 1, [2]), (9, .invokevirtual 96, 3, [0, 1, 2, 0, 5, 74, 5, 76, 1, 8, 0, 29]), (12, .ifCond .eq 13, 3, [25]), (15, .iload_n 3, 1, [3]), (16, .i2l, 1, []), (17, .lconst 0, 1, [0, 0]), (18, .lconst 1, 1, [0, 1]), (19, .invokestatic 59, 3, [0, 2, 3, 1, 5, 19, 5, 20, 1, 8]), (22, .ifCond .ne 5, 3, [27]), (25, .iconst (-1), 1, [1, 1]), (26, .ireturn, 1, [0]), (27, .aload_n 0, 1, [0]), (28, .getfield 31, 3, [8, 13, 1, 0, 4, 191]), (31, .iload_n 1, 1, [1]), (32, .iaload, 1, []), (33, .ifCond .ge 6, 3, [39]), (36, .bipush (-11), 2, [1, 11]), (38, .ireturn, 1, [0]), (39, .aload_n 0, 1, [0]), (40, .iload_n 2, 1, [2]), (41, .iconst 2, 1, [0, 2]), (42, .invokevirtual 82, 3, [0, 3, 3, 0, 5, 79, 5, 81, 1, 8, 0, 30]), (45, .ifCond .ne 7, 3, [52]), (48, .iconst 1, 1, [0, 1]), (49, .goto 4, 3, [53]), (52, .iconst 0, 1, [0, 0]), (53, .istore 4, 2, [4]), (55, .iconst 0, 1, [0, 0]), (56, .istore 5, 2, [5]), (58, .bipush (-3), 2, [1, 3]), (60, .istore 6, 2, [6]), (62, .iload 4, 2, [4]), (64, .ifCond .eq 7, 3, [71]), (67, .iconst (-1), 1, [1, 1]), (68, .goto 5, 3, [73]), (71, .bipush 9, 2, [0, 9]), (73, .istore 7, 2, [7]), (75, .iload 7, 2, [7]), (77, .iload 4, 2, [4]), (79, .ifCond .eq 7, 3, [86]), (82, .iconst (-1), 1, [1, 1]), (83, .goto 4, 3, [87]), (86, .iconst 0, 1, [0, 0]), (87, .if_icmp .lt 50, 3, [137]), (90, .aload_n 0, 1, [0]), (91, .iload_n 1, 1, [1]), (92, .iload_n 2, 1, [2]), (93, .iload 7, 2, [7]), (95, .invokevirtual 212, 3, [0, 4, 4, 0, 6, 49, 6, 51, 1, 8, 0, 53]), (98, .istore 8, 2, [8]), (100, .iload 5, 2, [5]), (102, .iload 8, 2, [8]), (104, .ifCond .eq 7, 3, [111]), (107, .iconst 1, 1, [0, 1]), (108, .goto 4, 3, [112]), (111, .iconst 0, 1, [0, 0]), (112, .iadd, 1, []), (113, .istore 5, 2, [5]), (115, .iload 8, 2, [8]), (117, .ifCond .eq 10, 3, [127]), (120, .iconst 1, 1, [0, 1]), (121, .iload 7, 2, [7]), (123, .iadd, 1, []), (124, .goto 5, 3, [129]), (127, .iload 6, 2, [6]), (129, .istore 6, 2, [6]), (131, .iinc 7 (-1), 3, [7, 1, 1]), (134, .goto (-59), 3, [75]), (137, .iload_n 3, 1, [3]), (138, .ifCond .ne 8, 3, [146]), (141, .iload 5, 2, [5]), (143, .goto 5, 3, [148]), (146, .iload 6, 2, [6]), (148, .ireturn, 1, [0])]
def gN_fits : List (mv_C H2) := [((0, 0), [], cN_isFour), ((0, 0), [], cN_isCloth), ((0, 0), [], cN_in), ((0, 0), [], cN_its), ((0, 0), [], cN_isSo)]
def tN_lowest : List mv_E := [(0, .lload_n 0, 1, [0]), (1, .lstore 5, 2, [5]), (3, .lload_n 2, 1, [2]), (4, .lstore 7, 2, [7]), (6, .lload 7, 2, [7]), (8, .lconst 0, 1, [0, 0]), (9, .lcmp, 1, []), (10, .ifCond .eq 21, 3, [31]), (13, .lload 5, 2, [5]), (15, .lload 7, 2, [7]), (17, .lrem, 1, []), (18, .lstore 9, 2, [9]), (20, .lload 7, 2, [7]), (22, .lstore 5, 2, [5]), (24, .lload 9, 2, [9]), (26, .lstore 7, 2, [7]), (28, .goto (-22), 3, [6]), (31, .iload 4, 2, [4]), (33, .ifCond .ne 7, 3, [40]), (36, .lload_n 0, 1, [0]), (37, .goto 4, 3, [41]), (40, .lload_n 2, 1, [2]), (41, .lload 5, 2, [5]), (43, .ldiv, 1, []), (44, .lreturn, 1, [])]
def gN_lowest : List (mv_C H2) := []
def tN_odds : List mv_E := [(0, .iload_n 1, 1, [1]), (1, .i2l, 1, []), (2, .lconst 0, 1, [0, 0]), (3, .ldc2_w 201, 3, [0, 8, 6, 34]), (6, .invokestatic 59, 3, [0, 0, 3, 1, 5, 19, 5, 20, 1, 8]), (9, .ifCond .eq 24, 3, [33]), (12, .iload_n 2, 1, [2]), (13, .i2l, 1, []), (14, .lconst 0, 1, [0, 0]), (15, .iload_n 1, 1, [1]), (16, .i2l, 1, []), (17, .invokestatic 59, 3, [0, 0, 3, 1, 5, 19, 5, 20, 1, 8]), (20, .ifCond .eq 13, 3, [33]), (23, .iload_n 3, 1, [3]), (24, .i2l, 1, []), (25, .lconst 0, 1, [0, 0]), (26, .lconst 1, 1, [0, 1]), (27, .invokestatic 59, 3, [0, 0, 3, 1, 5, 19, 5, 20, 1, 8]), (30, .ifCond .ne 7, 3, [37]), (33, .ldc2_w 216, 3, [1, 1, 6, 57]), (36, .lreturn, 1, []), (37, .lconst 1, 1, [0, 1]), (38, .lstore 4, 2, [4]), (40, .lconst 1, 1, [0, 1]), (41, .lstore 6, 2, [6]), (43, .iconst 0, 1, [0, 0]), (44, .istore 8, 2, [8]), (46, .iload 8, 2, [8]), (48, .iload_n 1, 1, [1]), (49, .if_icmp .ge 48, 3, [97]), (52, .lload 4, 2, [4]), (54, .iload 8, 2, [8]), (56, .iload_n 2, 1, [2]), (57, .if_icmp .ge 13, 3, [70]), (60, .aload_n 0, 1, [0]), (61, .getfield 16, 3, [8, 2, 1, 0, 4, 180]), (64, .iconst 3, 1, [0, 3]), (65, .iaload, 1, []), (66, .i2l, 1, []), (67, .goto 13, 3, [80]), (70, .bipush 100, 2, [0, 100]), (72, .aload_n 0, 1, [0]), (73, .getfield 16, 3, [8, 2, 1, 0, 4, 180]), (76, .iconst 3, 1, [0, 3]), (77, .iaload, 1, []), (78, .isub, 1, []), (79, .i2l, 1, []), (80, .lmul, 1, []), (81, .lstore 4, 2, [4]), (83, .lload 6, 2, [6]), (85, .ldc2_w 218, 3, [0, 100, 6, 58]), (88, .lmul, 1, []), (89, .lstore 6, 2, [6]), (91, .iinc 8 1, 3, [8, 0, 1]), (94, .goto (-48), 3, [46]), (97, .lconst 1, 1, [0, 1]), (98, .lstore 8, 2, [8]), (100, .iconst 0, 1, [0, 0]), (101, .istore 10, 2, [10]), (103, .iload 10, 2, [10]), (105, .iload_n 2, 1, [2]), (106, .if_icmp .ge 25, 3, [131]), (109, .lload 8, 2, [8]), (111, .iload_n 1, 1, [1]), (112, .iload 10, 2, [10]), (114, .isub, 1, []), (115, .i2l, 1, []), (116, .lmul, 1, []), (117, .iload 10, 2, [10]), (119, .iconst 1, 1, [0, 1]), (120, .iadd, 1, []), (121, .i2l, 1, []), (122, .ldiv, 1, []), (123, .lstore 8, 2, [8]), (125, .iinc 10 1, 3, [10, 0, 1]), (128, .goto (-25), 3, [103]), (131, .lload 4, 2, [4]), (133, .lload 8, 2, [8]), (135, .lmul, 1, []), (136, .lload 6, 2, [6]), (138, .iload_n 3, 1, [3]), (139, .invokestatic 220, 3, [0, 1, 3, 1, 6, 59, 6, 60, 1, 8]), (142, .lreturn, 1, [])]
def gN_odds : List (mv_C H2) := [((0, 0), [], cN_in), ((0, 0), [], cN_lowest)]
def tN_hope : List mv_E := [(0, .iload_n 1, 1, [1]), (1, .i2l, 1, []), (2, .lconst 0, 1, [0, 0]), (3, .ldc2_w 128, 3, [0, 99, 5, 115]), (6, .invokestatic 59, 3, [0, 0, 3, 1, 5, 19, 5, 20, 1, 8]), (9, .ifCond .eq 33, 3, [42]), (12, .iload_n 2, 1, [2]), (13, .i2l, 1, []), (14, .lconst 0, 1, [0, 0]), (15, .lconst 1, 1, [0, 1]), (16, .invokestatic 59, 3, [0, 0, 3, 1, 5, 19, 5, 20, 1, 8]), (19, .ifCond .eq 23, 3, [42]), (22, .iload_n 1, 1, [1]), (23, .i2l, 1, []), (24, .aload_n 0, 1, [0]), (25, .getfield 16, 3, [8, 2, 1, 0, 4, 180]), (28, .iconst 3, 1, [0, 3]), (29, .iaload, 1, []), (30, .i2l, 1, []), (31, .lmul, 1, []), (32, .ldc2_w 218, 3, [0, 100, 6, 58]), (35, .iload_n 2, 1, [2]), (36, .invokestatic 220, 3, [0, 1, 3, 1, 6, 59, 6, 60, 1, 8]), (39, .goto 6, 3, [45]), (42, .ldc2_w 216, 3, [1, 1, 6, 57]), (45, .lreturn, 1, [])]
def gN_hope : List (mv_C H2) := [((0, 0), [], cN_in), ((0, 0), [], cN_lowest)]
def tN_feed : List mv_E := [(0, .iload_n 3, 1, [3]), (1, .i2l, 1, []), (2, .lconst 1, 1, [0, 1]), (3, .ldc2_w 201, 3, [0, 8, 6, 34]), (6, .invokestatic 59, 3, [0, 0, 3, 1, 5, 19, 5, 20, 1, 8]), (9, .ifCond .ne 5, 3, [14]), (12, .iconst (-1), 1, [1, 1]), (13, .ireturn, 1, [0]), (14, .aload_n 0, 1, [0]), (15, .getfield 224, 3, [8, 7, 0, 0, 4, 185]), (18, .iload_n 3, 1, [3]), (19, .iadd, 1, []), (20, .sipush 200, 3, [0, 200]), (23, .if_icmp .le 6, 3, [29]), (26, .bipush (-2), 2, [1, 2]), (28, .ireturn, 1, [0]), (29, .iconst 0, 1, [0, 0]), (30, .istore 4, 2, [4]), (32, .iload 4, 2, [4]), (34, .iload_n 3, 1, [3]), (35, .if_icmp .ge 40, 3, [75]), (38, .aload_n 0, 1, [0]), (39, .getfield 25, 3, [8, 6, 1, 0, 4, 184]), (42, .aload_n 0, 1, [0]), (43, .getfield 224, 3, [8, 7, 0, 0, 4, 185]), (46, .lload_n 1, 1, [1]), (47, .bipush 8, 2, [0, 8]), (49, .iload 4, 2, [4]), (51, .imul, 1, []), (52, .lshr, 1, []), (53, .ldc2_w 228, 3, [0, 255, 6, 70]), (56, .land, 1, []), (57, .l2i, 1, []), (58, .iastore, 1, []), (59, .aload_n 0, 1, [0]), (60, .dup, 1, []), (61, .getfield 224, 3, [8, 7, 0, 0, 4, 185]), (64, .iconst 1, 1, [0, 1]), (65, .iadd, 1, []), (66, .putfield 224, 3, [8, 7, 0, 0, 4, 185]), (69, .iinc 4 1, 3, [4, 0, 1]), (72, .goto (-40), 3, [32]), (75, .aload_n 0, 1, [0]), (76, .getfield 224, 3, [8, 7, 0, 0, 4, 185]), (79, .ireturn, 1, [0])]
def gN_feed : List (mv_C H2) := [((0, 0), [], cN_in)]
def tN_isByte : List mv_E := [(0, .iload_n 1, 1, [1]), (1, .aload_n 0, 1, [0]), (2, .getfield 224, 3, [8, 7, 0, 0, 4, 185]), (5, .if_icmp .ge 24, 3, [29]), (8, .aload_n 0, 1, [0]), (9, .getfield 25, 3, [8, 6, 1, 0, 4, 184]), (12, .iload_n 1, 1, [1]), (13, .iaload, 1, []), (14, .i2l, 1, []), (15, .iload_n 2, 1, [2]), (16, .i2l, 1, []), (17, .iload_n 3, 1, [3]), (18, .i2l, 1, []), (19, .invokestatic 59, 3, [0, 0, 3, 1, 5, 19, 5, 20, 1, 8]), (22, .ifCond .eq 7, 3, [29]), (25, .iconst 1, 1, [0, 1]), (26, .goto 4, 3, [30]), (29, .iconst 0, 1, [0, 0]), (30, .ireturn, 1, [1])]
def gN_isByte : List (mv_C H2) := [((0, 0), [], cN_in)]
def tN_next : List mv_E := [(0, .aload_n 0, 1, [0]), (1, .aload_n 0, 1, [0]), (2, .getfield 230, 3, [8, 9, 0, 0, 4, 187]), (5, .putfield 233, 3, [8, 8, 0, 0, 4, 186]), (8, .aload_n 0, 1, [0]), (9, .aload_n 0, 1, [0]), (10, .getfield 233, 3, [8, 8, 0, 0, 4, 186]), (13, .bipush 32, 2, [0, 32]), (15, .bipush 32, 2, [0, 32]), (17, .invokevirtual 236, 3, [0, 0, 4, 0, 6, 79, 6, 81, 1, 8, 0, 55]), (20, .ifCond .eq 16, 3, [36]), (23, .aload_n 0, 1, [0]), (24, .dup, 1, []), (25, .getfield 233, 3, [8, 8, 0, 0, 4, 186]), (28, .iconst 1, 1, [0, 1]), (29, .iadd, 1, []), (30, .putfield 233, 3, [8, 8, 0, 0, 4, 186]), (33, .goto (-25), 3, [8]), (36, .aload_n 0, 1, [0]), (37, .aload_n 0, 1, [0]), (38, .getfield 233, 3, [8, 8, 0, 0, 4, 186]), (41, .putfield 230, 3, [8, 9, 0, 0, 4, 187]), (44, .aload_n 0, 1, [0]), (45, .aload_n 0, 1, [0]), (46, .getfield 233, 3, [8, 8, 0, 0, 4, 186]), (49, .bipush 97, 2, [0, 97]), (51, .bipush 122, 2, [0, 122]), (53, .invokevirtual 236, 3, [0, 0, 4, 0, 6, 79, 6, 81, 1, 8, 0, 55]), (56, .istore_n 1, 1, [1]), (57, .aload_n 0, 1, [0]), (58, .aload_n 0, 1, [0]), (59, .getfield 233, 3, [8, 8, 0, 0, 4, 186]), (62, .bipush 48, 2, [0, 48]), (64, .bipush 57, 2, [0, 57]), (66, .invokevirtual 236, 3, [0, 0, 4, 0, 6, 79, 6, 81, 1, 8, 0, 55]), (69, .istore_n 2, 1, [2]), (70, .iload_n 1, 1, [1]), (71, .ifCond .eq 18, 3, [89]), (74, .aload_n 0, 1, [0]), (75, .aload_n 0, 1, [0]), (76, .getfield 230, 3, [8, 9, 0, 0, 4, 187]), (79, .bipush 97, 2, [0, 97]), (81, .bipush 122, 2, [0, 122]), (83, .invokevirtual 236, 3, [0, 0, 4, 0, 6, 79, 6, 81, 1, 8, 0, 55]), (86, .ifCond .ne 22, 3, [108]), (89, .iload_n 2, 1, [2]), (90, .ifCond .eq 31, 3, [121]), (93, .aload_n 0, 1, [0]), (94, .aload_n 0, 1, [0]), (95, .getfield 230, 3, [8, 9, 0, 0, 4, 187]), (98, .bipush 48, 2, [0, 48]), (100, .bipush 57, 2, [0, 57]), (102, .invokevirtual 236, 3, [0, 0, 4, 0, 6, 79, 6, 81, 1, 8, 0, 55]), (105, .ifCond .eq 16, 3, [121]), (108, .aload_n 0, 1, [0]), (109, .dup, 1, []), (110, .getfield 230, 3, [8, 9, 0, 0, 4, 187]), (113, .iconst 1, 1, [0, 1]), (114, .iadd, 1, []), (115, .putfield 230, 3, [8, 9, 0, 0, 4, 187]), (118, .goto (-48), 3, [70]), (121, .aload_n 0, 1, [0]), (122, .dup, 1, []), (123, .getfield 230, 3, [8, 9, 0, 0, 4, 187]), (126, .iload_n 1, 1, [1]), (127, .ifCond .ne 22, 3, [149]), (130, .iload_n 2, 1, [2]), (131, .ifCond .ne 18, 3, [149]), (134, .aload_n 0, 1, [0]), (135, .getfield 233, 3, [8, 8, 0, 0, 4, 186]), (138, .aload_n 0, 1, [0]), (139, .getfield 224, 3, [8, 7, 0, 0, 4, 185]), (142, .if_icmp .ge 7, 3, [149]), (145, .iconst 1, 1, [0, 1]), (146, .goto 4, 3, [150]), (149, .iconst 0, 1, [0, 0]), (150, .iadd, 1, []), (151, .putfield 230, 3, [8, 9, 0, 0, 4, 187]), (154, .return_, 1, [])]
def gN_next : List (mv_C H2) := [((0, 0), [], cN_isByte)]
def tN_isWord : List mv_E := [(0, .aload_n 0, 1, [0]), (1, .getfield 239, 3, [8, 10, 2, 0, 4, 188]), (4, .ifCond .ne 23, 3, [27]), (7, .aload_n 0, 1, [0]), (8, .getfield 230, 3, [8, 9, 0, 0, 4, 187]), (11, .aload_n 0, 1, [0]), (12, .getfield 233, 3, [8, 8, 0, 0, 4, 186]), (15, .isub, 1, []), (16, .aload_n 1, 1, [1]), (17, .invokevirtual 243, 3, [0, 0, 1, 0, 6, 96, 2, 37, 1, 9, 2, 38]), (20, .if_icmp .ne 7, 3, [27]), (23, .iconst 1, 1, [0, 1]), (24, .goto 4, 3, [28]), (27, .iconst 0, 1, [0, 0]), (28, .istore_n 2, 1, [2]), (29, .iconst 0, 1, [0, 0]), (30, .istore_n 3, 1, [3]), (31, .iload_n 2, 1, [2]), (32, .ifCond .eq 42, 3, [74]), (35, .iload_n 3, 1, [3]), (36, .aload_n 1, 1, [1]), (37, .invokevirtual 243, 3, [0, 0, 1, 0, 6, 96, 2, 37, 1, 9, 2, 38]), (40, .if_icmp .ge 34, 3, [74]), (43, .aload_n 0, 1, [0]), (44, .getfield 25, 3, [8, 6, 1, 0, 4, 184]), (47, .aload_n 0, 1, [0]), (48, .getfield 233, 3, [8, 8, 0, 0, 4, 186]), (51, .iload_n 3, 1, [3]), (52, .iadd, 1, []), (53, .iaload, 1, []), (54, .aload_n 1, 1, [1]), (55, .iload_n 3, 1, [3]), (56, .invokevirtual 248, 3, [0, 1, 2, 0, 6, 97, 2, 47, 1, 9, 2, 48]), (59, .if_icmp .ne 7, 3, [66]), (62, .iconst 1, 1, [0, 1]), (63, .goto 4, 3, [67]), (66, .iconst 0, 1, [0, 0]), (67, .istore_n 2, 1, [2]), (68, .iinc 3 1, 3, [3, 0, 1]), (71, .goto (-40), 3, [31]), (74, .iload_n 2, 1, [2]), (75, .ireturn, 1, [1])]
def gN_isWord : List (mv_C H2) := [((0, 0), [], cJ0_len), ((0, 0), [], cJ0_chr)]
def tN_must : List mv_E := [(0, .aload_n 0, 1, [0]), (1, .aload_n 0, 1, [0]), (2, .getfield 239, 3, [8, 10, 2, 0, 4, 188]), (5, .ifCond .ne 7, 3, [12]), (8, .iload_n 1, 1, [1]), (9, .ifCond .ne 7, 3, [16]), (12, .iconst 1, 1, [0, 1]), (13, .goto 4, 3, [17]), (16, .iconst 0, 1, [0, 0]), (17, .putfield 239, 3, [8, 10, 2, 0, 4, 188]), (20, .aload_n 0, 1, [0]), (21, .getfield 239, 3, [8, 10, 2, 0, 4, 188]), (24, .ifCond .ne 7, 3, [31]), (27, .aload_n 0, 1, [0]), (28, .invokevirtual 252, 3, [0, 0, 1, 0, 6, 75, 6, 77, 1, 8, 0, 54]), (31, .return_, 1, [])]
def gN_must : List (mv_C H2) := [((0, 0), [], cN_next)]
def tN_figures : List mv_E := [(0, .aload_n 0, 1, [0]), (1, .aload_n 0, 1, [0]), (2, .getfield 233, 3, [8, 8, 0, 0, 4, 186]), (5, .bipush 48, 2, [0, 48]), (7, .bipush 57, 2, [0, 57]), (9, .invokevirtual 236, 3, [0, 0, 4, 0, 6, 79, 6, 81, 1, 8, 0, 55]), (12, .ifCond .eq 20, 3, [32]), (15, .aload_n 0, 1, [0]), (16, .getfield 230, 3, [8, 9, 0, 0, 4, 187]), (19, .aload_n 0, 1, [0]), (20, .getfield 233, 3, [8, 8, 0, 0, 4, 186]), (23, .isub, 1, []), (24, .iconst 3, 1, [0, 3]), (25, .if_icmp .gt 7, 3, [32]), (28, .iconst 0, 1, [0, 0]), (29, .goto 4, 3, [33]), (32, .iconst (-1), 1, [1, 1]), (33, .istore_n 1, 1, [1]), (34, .aload_n 0, 1, [0]), (35, .getfield 233, 3, [8, 8, 0, 0, 4, 186]), (38, .istore_n 2, 1, [2]), (39, .iload_n 2, 1, [2]), (40, .aload_n 0, 1, [0]), (41, .getfield 230, 3, [8, 9, 0, 0, 4, 187]), (44, .if_icmp .ge 28, 3, [72]), (47, .iload_n 1, 1, [1]), (48, .ifCond .lt 24, 3, [72]), (51, .bipush 10, 2, [0, 10]), (53, .iload_n 1, 1, [1]), (54, .imul, 1, []), (55, .aload_n 0, 1, [0]), (56, .getfield 25, 3, [8, 6, 1, 0, 4, 184]), (59, .iload_n 2, 1, [2]), (60, .iaload, 1, []), (61, .iadd, 1, []), (62, .bipush 48, 2, [0, 48]), (64, .isub, 1, []), (65, .istore_n 1, 1, [1]), (66, .iinc 2 1, 3, [2, 0, 1]), (69, .goto (-30), 3, [39]), (72, .iload_n 1, 1, [1]), (73, .ireturn, 1, [0])]
def gN_figures : List (mv_C H2) := [((0, 0), [], cN_isByte)]
def tN_number : List mv_E := [(0, .aload_n 0, 1, [0]), (1, .invokevirtual 255, 3, [0, 0, 1, 0, 6, 128, 6, 130, 1, 8, 0, 64]), (4, .istore_n 3, 1, [3]), (5, .aload_n 0, 1, [0]), (6, .iload_n 3, 1, [3]), (7, .i2l, 1, []), (8, .iload_n 1, 1, [1]), (9, .i2l, 1, []), (10, .iload_n 2, 1, [2]), (11, .i2l, 1, []), (12, .invokestatic 59, 3, [0, 1, 3, 1, 5, 19, 5, 20, 1, 8]), (15, .invokevirtual 258, 3, [0, 2, 2, 0, 6, 115, 6, 117, 1, 8, 0, 61]), (18, .iload_n 3, 1, [3]), (19, .ireturn, 1, [0])]
def gN_number : List (mv_C H2) := [((0, 0), [], cN_figures), ((0, 0), [], cN_in), ((0, 0), [], cN_must)]
def tN_kindHere : List mv_E := [(0, .aload_n 0, 1, [0]), (1, .ldc_w 262, 3, [1, 17]), (4, .invokevirtual 264, 3, [0, 0, 2, 0, 6, 92, 6, 94, 1, 8, 0, 58]), (7, .ifCond .eq 7, 3, [14]), (10, .iconst 0, 1, [0, 0]), (11, .goto 32, 3, [43]), (14, .aload_n 0, 1, [0]), (15, .ldc_w 268, 3, [1, 18]), (18, .invokevirtual 264, 3, [0, 0, 2, 0, 6, 92, 6, 94, 1, 8, 0, 58]), (21, .ifCond .eq 7, 3, [28]), (24, .iconst 1, 1, [0, 1]), (25, .goto 18, 3, [43]), (28, .aload_n 0, 1, [0]), (29, .ldc_w 270, 3, [1, 19]), (32, .invokevirtual 264, 3, [0, 0, 2, 0, 6, 92, 6, 94, 1, 8, 0, 58]), (35, .ifCond .eq 7, 3, [42]), (38, .iconst 2, 1, [0, 2]), (39, .goto 4, 3, [43]), (42, .iconst (-1), 1, [1, 1]), (43, .istore_n 1, 1, [1]), (44, .iload_n 1, 1, [1]), (45, .ifCond .lt 7, 3, [52]), (48, .iload_n 1, 1, [1]), (49, .goto 46, 3, [95]), (52, .aload_n 0, 1, [0]), (53, .ldc_w 272, 3, [1, 20]), (56, .invokevirtual 264, 3, [0, 0, 2, 0, 6, 92, 6, 94, 1, 8, 0, 58]), (59, .ifCond .eq 7, 3, [66]), (62, .iconst 3, 1, [0, 3]), (63, .goto 32, 3, [95]), (66, .aload_n 0, 1, [0]), (67, .ldc_w 274, 3, [1, 21]), (70, .invokevirtual 264, 3, [0, 0, 2, 0, 6, 92, 6, 94, 1, 8, 0, 58]), (73, .ifCond .eq 7, 3, [80]), (76, .iconst 4, 1, [0, 4]), (77, .goto 18, 3, [95]), (80, .aload_n 0, 1, [0]), (81, .ldc_w 276, 3, [1, 22]), (84, .invokevirtual 264, 3, [0, 0, 2, 0, 6, 92, 6, 94, 1, 8, 0, 58]), (87, .ifCond .eq 7, 3, [94]), (90, .iconst 5, 1, [0, 5]), (91, .goto 4, 3, [95]), (94, .iconst (-1), 1, [1, 1]), (95, .ireturn, 1, [0])]
def gN_kindHere : List (mv_C H2) := [((0, 0), [], cN_isWord)]
def tN_takes : List mv_E := [(0, .aload_n 0, 1, [0]), (1, .aload_n 1, 1, [1]), (2, .invokevirtual 264, 3, [0, 0, 2, 0, 6, 92, 6, 94, 1, 8, 0, 58]), (5, .istore_n 2, 1, [2]), (6, .iload_n 2, 1, [2]), (7, .ifCond .eq 8, 3, [15]), (10, .aload_n 0, 1, [0]), (11, .iconst 1, 1, [0, 1]), (12, .invokevirtual 258, 3, [0, 1, 2, 0, 6, 115, 6, 117, 1, 8, 0, 61]), (15, .iload_n 2, 1, [2]), (16, .ireturn, 1, [1])]
def gN_takes : List (mv_C H2) := [((0, 0), [], cN_isWord), ((0, 0), [], cN_must)]
def tN_clothTold : List mv_E := [(0, .aload_n 0, 1, [0]), (1, .aload_n 0, 1, [0]), (2, .getfield 16, 3, [8, 2, 1, 0, 4, 180]), (5, .bipush 6, 2, [0, 6]), (7, .iaload, 1, []), (8, .bipush 8, 2, [0, 8]), (10, .if_icmp .ge 7, 3, [17]), (13, .iconst 1, 1, [0, 1]), (14, .goto 4, 3, [18]), (17, .iconst 0, 1, [0, 0]), (18, .invokevirtual 258, 3, [0, 0, 2, 0, 6, 115, 6, 117, 1, 8, 0, 61]), (21, .iconst (-1), 1, [1, 1]), (22, .istore_n 2, 1, [2]), (23, .iconst 0, 1, [0, 0]), (24, .istore_n 3, 1, [3]), (25, .aload_n 0, 1, [0]), (26, .ldc_w 278, 3, [1, 23]), (29, .invokevirtual 280, 3, [0, 1, 2, 0, 6, 120, 6, 122, 1, 8, 0, 62]), (32, .ifCond .eq 34, 3, [66]), (35, .aload_n 0, 1, [0]), (36, .iconst 0, 1, [0, 0]), (37, .bipush 9, 2, [0, 9]), (39, .invokevirtual 283, 3, [0, 2, 3, 0, 6, 124, 6, 126, 1, 8, 0, 63]), (42, .istore_n 2, 1, [2]), (43, .aload_n 0, 1, [0]), (44, .ldc_w 286, 3, [1, 24]), (47, .invokevirtual 280, 3, [0, 1, 2, 0, 6, 120, 6, 122, 1, 8, 0, 62]), (50, .ifCond .eq 13, 3, [63]), (53, .aload_n 0, 1, [0]), (54, .iconst 1, 1, [0, 1]), (55, .bipush 99, 2, [0, 99]), (57, .invokevirtual 283, 3, [0, 2, 3, 0, 6, 124, 6, 126, 1, 8, 0, 63]), (60, .goto 5, 3, [65]), (63, .bipush 20, 2, [0, 20]), (65, .istore_n 3, 1, [3]), (66, .aload_n 0, 1, [0]), (67, .ldc_w 288, 3, [1, 25]), (70, .invokevirtual 280, 3, [0, 1, 2, 0, 6, 120, 6, 122, 1, 8, 0, 62]), (73, .ifCond .eq 7, 3, [80]), (76, .iconst 1, 1, [0, 1]), (77, .goto 4, 3, [81]), (80, .iconst 0, 1, [0, 0]), (81, .istore 4, 2, [4]), (83, .aload_n 0, 1, [0]), (84, .getfield 239, 3, [8, 10, 2, 0, 4, 188]), (87, .ifCond .ne 54, 3, [141]), (90, .aload_n 0, 1, [0]), (91, .iload_n 1, 1, [1]), (92, .invokevirtual 92, 3, [0, 3, 2, 0, 5, 62, 5, 64, 1, 8, 0, 27]), (95, .aload_n 0, 1, [0]), (96, .aload_n 0, 1, [0]), (97, .getfield 16, 3, [8, 2, 1, 0, 4, 180]), (100, .bipush 6, 2, [0, 6]), (102, .iaload, 1, []), (103, .iconst 1, 1, [0, 1]), (104, .isub, 1, []), (105, .iconst 1, 1, [0, 1]), (106, .iload_n 2, 1, [2]), (107, .invokevirtual 85, 3, [0, 4, 4, 0, 5, 66, 5, 68, 1, 8, 0, 28]), (110, .aload_n 0, 1, [0]), (111, .aload_n 0, 1, [0]), (112, .getfield 16, 3, [8, 2, 1, 0, 4, 180]), (115, .bipush 6, 2, [0, 6]), (117, .iaload, 1, []), (118, .iconst 1, 1, [0, 1]), (119, .isub, 1, []), (120, .iconst 2, 1, [0, 2]), (121, .iload_n 3, 1, [3]), (122, .invokevirtual 85, 3, [0, 4, 4, 0, 5, 66, 5, 68, 1, 8, 0, 28]), (125, .aload_n 0, 1, [0]), (126, .aload_n 0, 1, [0]), (127, .getfield 16, 3, [8, 2, 1, 0, 4, 180]), (130, .bipush 6, 2, [0, 6]), (132, .iaload, 1, []), (133, .iconst 1, 1, [0, 1]), (134, .isub, 1, []), (135, .iconst 3, 1, [0, 3]), (136, .iload 4, 2, [4]), (138, .invokevirtual 85, 3, [0, 4, 4, 0, 5, 66, 5, 68, 1, 8, 0, 28]), (141, .return_, 1, [])]
def gN_clothTold : List (mv_C H2) := [((0, 0), [], cN_must), ((0, 0), [], cN_takes), ((0, 0), [], cN_number), ((0, 0), [], cN_adds), ((0, 0), [], cN_sets)]
def tN_twoTold : List mv_E := [(0, .aload_n 0, 1, [0]), (1, .iconst 1, 1, [0, 1]), (2, .invokevirtual 258, 3, [0, 0, 2, 0, 6, 115, 6, 117, 1, 8, 0, 61]), (5, .aload_n 0, 1, [0]), (6, .iconst 0, 1, [0, 0]), (7, .iload_n 2, 1, [2]), (8, .invokevirtual 283, 3, [0, 1, 3, 0, 6, 124, 6, 126, 1, 8, 0, 63]), (11, .istore 5, 2, [5]), (13, .aload_n 3, 1, [3]), (14, .invokevirtual 243, 3, [0, 2, 1, 0, 6, 96, 2, 37, 1, 9, 2, 38]), (17, .ifCond .le 12, 3, [29]), (20, .aload_n 0, 1, [0]), (21, .aload_n 0, 1, [0]), (22, .aload_n 3, 1, [3]), (23, .invokevirtual 264, 3, [0, 3, 2, 0, 6, 92, 6, 94, 1, 8, 0, 58]), (26, .invokevirtual 258, 3, [0, 0, 2, 0, 6, 115, 6, 117, 1, 8, 0, 61]), (29, .aload_n 0, 1, [0]), (30, .iconst 0, 1, [0, 0]), (31, .iload 4, 2, [4]), (33, .invokevirtual 283, 3, [0, 1, 3, 0, 6, 124, 6, 126, 1, 8, 0, 63]), (36, .istore 6, 2, [6]), (38, .aload_n 0, 1, [0]), (39, .getfield 239, 3, [8, 10, 2, 0, 4, 188]), (42, .ifCond .ne 14, 3, [56]), (45, .aload_n 0, 1, [0]), (46, .getfield 16, 3, [8, 2, 1, 0, 4, 180]), (49, .iload_n 1, 1, [1]), (50, .iload 5, 2, [5]), (52, .iadd, 1, []), (53, .iload 6, 2, [6]), (55, .iastore, 1, []), (56, .return_, 1, [])]
def gN_twoTold : List (mv_C H2) := [((0, 0), [], cN_must), ((0, 0), [], cN_number), ((0, 0), [], cJ0_len), ((0, 0), [], cN_isWord)]
def tN_lawTold : List mv_E := [(0, .aload_n 0, 1, [0]), (1, .iconst 0, 1, [0, 0]), (2, .aload_n 0, 1, [0]), (3, .getfield 9, 3, [8, 0, 1, 0, 4, 178]), (6, .iload_n 1, 1, [1]), (7, .iaload, 1, []), (8, .invokevirtual 283, 3, [0, 0, 3, 0, 6, 124, 6, 126, 1, 8, 0, 63]), (11, .istore_n 2, 1, [2]), (12, .aload_n 0, 1, [0]), (13, .getfield 239, 3, [8, 10, 2, 0, 4, 188]), (16, .ifCond .ne 10, 3, [26]), (19, .aload_n 0, 1, [0]), (20, .getfield 16, 3, [8, 2, 1, 0, 4, 180]), (23, .iload_n 1, 1, [1]), (24, .iload_n 2, 1, [2]), (25, .iastore, 1, []), (26, .return_, 1, [])]
def gN_lawTold : List (mv_C H2) := [((0, 0), [], cN_number)]
def tN_lawHere : List mv_E := [(0, .aload_n 0, 1, [0]), (1, .ldc_w 290, 3, [1, 26]), (4, .invokevirtual 264, 3, [0, 0, 2, 0, 6, 92, 6, 94, 1, 8, 0, 58]), (7, .ifCond .eq 7, 3, [14]), (10, .iconst 0, 1, [0, 0]), (11, .goto 46, 3, [57]), (14, .aload_n 0, 1, [0]), (15, .ldc_w 292, 3, [1, 27]), (18, .invokevirtual 264, 3, [0, 0, 2, 0, 6, 92, 6, 94, 1, 8, 0, 58]), (21, .ifCond .eq 7, 3, [28]), (24, .iconst 1, 1, [0, 1]), (25, .goto 32, 3, [57]), (28, .aload_n 0, 1, [0]), (29, .ldc_w 294, 3, [1, 28]), (32, .invokevirtual 264, 3, [0, 0, 2, 0, 6, 92, 6, 94, 1, 8, 0, 58]), (35, .ifCond .eq 7, 3, [42]), (38, .iconst 2, 1, [0, 2]), (39, .goto 18, 3, [57]), (42, .aload_n 0, 1, [0]), (43, .ldc_w 296, 3, [1, 29]), (46, .invokevirtual 264, 3, [0, 0, 2, 0, 6, 92, 6, 94, 1, 8, 0, 58]), (49, .ifCond .eq 7, 3, [56]), (52, .iconst 3, 1, [0, 3]), (53, .goto 4, 3, [57]), (56, .iconst (-1), 1, [1, 1]), (57, .ireturn, 1, [0])]
def gN_lawHere : List (mv_C H2) := [((0, 0), [], cN_isWord)]
def tN_item : List mv_E := [(0, .aload_n 0, 1, [0]), (1, .invokevirtual 298, 3, [0, 0, 1, 0, 6, 87, 6, 89, 1, 8, 0, 57]), (4, .istore_n 1, 1, [1]), (5, .aload_n 0, 1, [0]), (6, .invokevirtual 301, 3, [0, 1, 1, 0, 6, 103, 6, 105, 1, 8, 0, 59]), (9, .istore_n 2, 1, [2]), (10, .iload_n 1, 1, [1]), (11, .ifCond .lt 11, 3, [22]), (14, .aload_n 0, 1, [0]), (15, .iload_n 1, 1, [1]), (16, .invokevirtual 304, 3, [0, 2, 2, 0, 6, 111, 6, 113, 1, 8, 0, 60]), (19, .goto 102, 3, [121]), (22, .aload_n 0, 1, [0]), (23, .ldc_w 307, 3, [1, 30]), (26, .invokevirtual 264, 3, [0, 3, 2, 0, 6, 92, 6, 94, 1, 8, 0, 58]), (29, .ifCond .eq 19, 3, [48]), (32, .aload_n 0, 1, [0]), (33, .bipush 7, 2, [0, 7]), (35, .bipush 7, 2, [0, 7]), (37, .ldc_w 309, 3, [1, 31]), (40, .bipush 9, 2, [0, 9]), (42, .invokevirtual 311, 3, [0, 4, 5, 0, 6, 136, 6, 138, 1, 8, 0, 65]), (45, .goto 76, 3, [121]), (48, .aload_n 0, 1, [0]), (49, .ldc_w 315, 3, [1, 32]), (52, .invokevirtual 264, 3, [0, 3, 2, 0, 6, 92, 6, 94, 1, 8, 0, 58]), (55, .ifCond .eq 19, 3, [74]), (58, .aload_n 0, 1, [0]), (59, .bipush 15, 2, [0, 15]), (61, .bipush 7, 2, [0, 7]), (63, .ldc_w 317, 3, [1, 33]), (66, .bipush 9, 2, [0, 9]), (68, .invokevirtual 311, 3, [0, 4, 5, 0, 6, 136, 6, 138, 1, 8, 0, 65]), (71, .goto 50, 3, [121]), (74, .aload_n 0, 1, [0]), (75, .ldc_w 319, 3, [1, 34]), (78, .invokevirtual 264, 3, [0, 3, 2, 0, 6, 92, 6, 94, 1, 8, 0, 58]), (81, .ifCond .eq 18, 3, [99]), (84, .aload_n 0, 1, [0]), (85, .bipush 23, 2, [0, 23]), (87, .iconst 5, 1, [0, 5]), (88, .ldc_w 307, 3, [1, 30]), (91, .bipush 7, 2, [0, 7]), (93, .invokevirtual 311, 3, [0, 4, 5, 0, 6, 136, 6, 138, 1, 8, 0, 65]), (96, .goto 25, 3, [121]), (99, .aload_n 0, 1, [0]), (100, .iload_n 2, 1, [2]), (101, .ifCond .lt 7, 3, [108]), (104, .iconst 1, 1, [0, 1]), (105, .goto 4, 3, [109]), (108, .iconst 0, 1, [0, 0]), (109, .invokevirtual 258, 3, [0, 5, 2, 0, 6, 115, 6, 117, 1, 8, 0, 61]), (112, .aload_n 0, 1, [0]), (113, .iconst 0, 1, [0, 0]), (114, .iload_n 2, 1, [2]), (115, .invokestatic 122, 3, [1, 5, 135, 5, 136, 1, 14]), (118, .invokevirtual 321, 3, [0, 6, 2, 0, 6, 143, 6, 145, 1, 8, 0, 66]), (121, .aload_n 0, 1, [0]), (122, .aload_n 0, 1, [0]), (123, .ldc_w 324, 3, [1, 35]), (126, .invokevirtual 264, 3, [0, 3, 2, 0, 6, 92, 6, 94, 1, 8, 0, 58]), (129, .invokevirtual 258, 3, [0, 5, 2, 0, 6, 115, 6, 117, 1, 8, 0, 61]), (132, .return_, 1, [])]
def gN_item : List (mv_C H2) := [((0, 0), [], cN_kindHere), ((0, 0), [], cN_lawHere), ((0, 0), [], cN_clothTold), ((0, 0), [], cN_isWord), ((0, 0), [], cN_twoTold), ((0, 0), [], cN_must), ((0, 0), [], cN_lawTold)]
def tN_mill : List mv_E := [(0, .aload_n 0, 1, [0]), (1, .invokevirtual 161, 3, [0, 0, 1, 0, 5, 180, 5, 182, 1, 8, 0, 42]), (4, .aload_n 0, 1, [0]), (5, .invokevirtual 52, 3, [0, 1, 1, 0, 4, 174, 4, 176, 1, 8, 0, 25]), (8, .aload_n 0, 1, [0]), (9, .iconst 0, 1, [0, 0]), (10, .putfield 239, 3, [8, 10, 2, 0, 4, 188]), (13, .aload_n 0, 1, [0]), (14, .iconst 0, 1, [0, 0]), (15, .putfield 230, 3, [8, 9, 0, 0, 4, 187]), (18, .aload_n 0, 1, [0]), (19, .invokevirtual 252, 3, [0, 2, 1, 0, 6, 75, 6, 77, 1, 8, 0, 54]), (22, .aload_n 0, 1, [0]), (23, .getfield 239, 3, [8, 10, 2, 0, 4, 188]), (26, .ifCond .ne 21, 3, [47]), (29, .aload_n 0, 1, [0]), (30, .getfield 233, 3, [8, 8, 0, 0, 4, 186]), (33, .aload_n 0, 1, [0]), (34, .getfield 224, 3, [8, 7, 0, 0, 4, 185]), (37, .if_icmp .ge 10, 3, [47]), (40, .aload_n 0, 1, [0]), (41, .invokevirtual 326, 3, [0, 3, 1, 0, 6, 83, 6, 85, 1, 8, 0, 56]), (44, .goto (-22), 3, [22]), (47, .aload_n 0, 1, [0]), (48, .iconst 0, 1, [0, 0]), (49, .putfield 224, 3, [8, 7, 0, 0, 4, 185]), (52, .aload_n 0, 1, [0]), (53, .getfield 239, 3, [8, 10, 2, 0, 4, 188]), (56, .ifCond .eq 15, 3, [71]), (59, .aload_n 0, 1, [0]), (60, .invokevirtual 164, 3, [0, 4, 1, 0, 5, 187, 5, 189, 1, 8, 0, 43]), (63, .bipush (-100), 2, [1, 100]), (65, .aload_n 0, 1, [0]), (66, .getfield 233, 3, [8, 8, 0, 0, 4, 186]), (69, .isub, 1, []), (70, .ireturn, 1, [0]), (71, .aload_n 0, 1, [0]), (72, .iconst 0, 1, [0, 0]), (73, .putfield 329, 3, [8, 12, 0, 0, 4, 190]), (76, .aload_n 0, 1, [0]), (77, .getfield 16, 3, [8, 2, 1, 0, 4, 180]), (80, .bipush 6, 2, [0, 6]), (82, .iaload, 1, []), (83, .ireturn, 1, [0])]
def gN_mill : List (mv_C H2) := [((0, 0), [], cN_lends), ((0, 0), [], cN_anew), ((0, 0), [], cN_next), ((0, 0), [], cN_item), ((0, 0), [], cN_laysBack)]
def tN_prove : List mv_E := [(0, .aload_n 0, 1, [0]), (1, .iload_n 1, 1, [1]), (2, .invokevirtual 96, 3, [0, 0, 2, 0, 5, 74, 5, 76, 1, 8, 0, 29]), (5, .ifCond .eq 15, 3, [20]), (8, .iload_n 2, 1, [2]), (9, .i2l, 1, []), (10, .lconst 1, 1, [0, 1]), (11, .ldc2_w 332, 3, [0, 10, 6, 152]), (14, .invokestatic 59, 3, [0, 1, 3, 1, 5, 19, 5, 20, 1, 8]), (17, .ifCond .ne 5, 3, [22]), (20, .iconst (-1), 1, [1, 1]), (21, .ireturn, 1, [0]), (22, .aload_n 0, 1, [0]), (23, .invokevirtual 161, 3, [0, 2, 1, 0, 5, 180, 5, 182, 1, 8, 0, 42]), (26, .iconst 0, 1, [0, 0]), (27, .istore_n 3, 1, [3]), (28, .iload_n 3, 1, [3]), (29, .iload_n 2, 1, [2]), (30, .if_icmp .ge 60, 3, [90]), (33, .aload_n 0, 1, [0]), (34, .iconst 1, 1, [0, 1]), (35, .invokevirtual 145, 3, [0, 3, 2, 0, 5, 146, 5, 148, 1, 8, 0, 37]), (38, .aload_n 0, 1, [0]), (39, .getfield 28, 3, [8, 11, 1, 0, 4, 189]), (42, .iconst 3, 1, [0, 3]), (43, .iload_n 3, 1, [3]), (44, .imul, 1, []), (45, .iconst 1, 1, [0, 1]), (46, .aload_n 0, 1, [0]), (47, .iload_n 1, 1, [1]), (48, .iconst 1, 1, [0, 1]), (49, .invokevirtual 82, 3, [0, 4, 3, 0, 5, 79, 5, 81, 1, 8, 0, 30]), (52, .iadd, 1, []), (53, .iastore, 1, []), (54, .aload_n 0, 1, [0]), (55, .getfield 28, 3, [8, 11, 1, 0, 4, 189]), (58, .iconst 3, 1, [0, 3]), (59, .iload_n 3, 1, [3]), (60, .imul, 1, []), (61, .iconst 1, 1, [0, 1]), (62, .iadd, 1, []), (63, .aload_n 0, 1, [0]), (64, .iload_n 1, 1, [1]), (65, .iconst 2, 1, [0, 2]), (66, .invokevirtual 82, 3, [0, 4, 3, 0, 5, 79, 5, 81, 1, 8, 0, 30]), (69, .iastore, 1, []), (70, .aload_n 0, 1, [0]), (71, .getfield 28, 3, [8, 11, 1, 0, 4, 189]), (74, .iconst 3, 1, [0, 3]), (75, .iload_n 3, 1, [3]), (76, .imul, 1, []), (77, .iconst 2, 1, [0, 2]), (78, .iadd, 1, []), (79, .aload_n 0, 1, [0]), (80, .invokevirtual 148, 3, [0, 5, 1, 0, 5, 154, 5, 156, 1, 8, 0, 39]), (83, .iastore, 1, []), (84, .iinc 3 1, 3, [3, 0, 1]), (87, .goto (-59), 3, [28]), (90, .aload_n 0, 1, [0]), (91, .invokevirtual 164, 3, [0, 6, 1, 0, 5, 187, 5, 189, 1, 8, 0, 43]), (94, .aload_n 0, 1, [0]), (95, .iload_n 2, 1, [2]), (96, .putfield 329, 3, [8, 12, 0, 0, 4, 190]), (99, .iload_n 2, 1, [2]), (100, .ireturn, 1, [0])]
def gN_prove : List (mv_C H2) := [((0, 0), [], cN_isCloth), ((0, 0), [], cN_in), ((0, 0), [], cN_lends), ((0, 0), [], cN_goes), ((0, 0), [], cN_its), ((0, 0), [], cN_depths), ((0, 0), [], cN_laysBack)]
def tN_isCell : List mv_E := [(0, .iload_n 1, 1, [1]), (1, .i2l, 1, []), (2, .lconst 0, 1, [0, 0]), (3, .aload_n 0, 1, [0]), (4, .getfield 329, 3, [8, 12, 0, 0, 4, 190]), (7, .iconst 1, 1, [0, 1]), (8, .isub, 1, []), (9, .i2l, 1, []), (10, .invokestatic 59, 3, [0, 0, 3, 1, 5, 19, 5, 20, 1, 8]), (13, .ifCond .eq 19, 3, [32]), (16, .iload_n 2, 1, [2]), (17, .i2l, 1, []), (18, .lconst 0, 1, [0, 0]), (19, .ldc2_w 101, 3, [0, 2, 5, 87]), (22, .invokestatic 59, 3, [0, 0, 3, 1, 5, 19, 5, 20, 1, 8]), (25, .ifCond .eq 7, 3, [32]), (28, .iconst 1, 1, [0, 1]), (29, .goto 4, 3, [33]), (32, .iconst 0, 1, [0, 0]), (33, .ireturn, 1, [1])]
def gN_isCell : List (mv_C H2) := [((0, 0), [], cN_in)]
def tN_row : List mv_E := [(0, .aload_n 0, 1, [0]), (1, .iload_n 1, 1, [1]), (2, .iload_n 2, 1, [2]), (3, .invokevirtual 334, 3, [0, 0, 3, 0, 6, 157, 6, 159, 1, 8, 0, 67]), (6, .ifCond .eq 16, 3, [22]), (9, .aload_n 0, 1, [0]), (10, .getfield 28, 3, [8, 11, 1, 0, 4, 189]), (13, .iconst 3, 1, [0, 3]), (14, .iload_n 1, 1, [1]), (15, .imul, 1, []), (16, .iload_n 2, 1, [2]), (17, .iadd, 1, []), (18, .iaload, 1, []), (19, .goto 5, 3, [24]), (22, .bipush (-9), 2, [1, 9]), (24, .ireturn, 1, [0])]
def gN_row : List (mv_C H2) := [((0, 0), [], cN_isCell)]
def tN_alterRow : List mv_E := [(0, .aload_n 0, 1, [0]), (1, .iload_n 1, 1, [1]), (2, .iload_n 2, 1, [2]), (3, .invokevirtual 334, 3, [0, 0, 3, 0, 6, 157, 6, 159, 1, 8, 0, 67]), (6, .ifCond .ne 6, 3, [12]), (9, .bipush (-9), 2, [1, 9]), (11, .ireturn, 1, [0]), (12, .aload_n 0, 1, [0]), (13, .getfield 28, 3, [8, 11, 1, 0, 4, 189]), (16, .iconst 3, 1, [0, 3]), (17, .iload_n 1, 1, [1]), (18, .imul, 1, []), (19, .iload_n 2, 1, [2]), (20, .iadd, 1, []), (21, .iaload, 1, []), (22, .istore 4, 2, [4]), (24, .aload_n 0, 1, [0]), (25, .getfield 28, 3, [8, 11, 1, 0, 4, 189]), (28, .iconst 3, 1, [0, 3]), (29, .iload_n 1, 1, [1]), (30, .imul, 1, []), (31, .iload_n 2, 1, [2]), (32, .iadd, 1, []), (33, .iload_n 3, 1, [3]), (34, .iastore, 1, []), (35, .iload 4, 2, [4]), (37, .ireturn, 1, [0])]
def gN_alterRow : List (mv_C H2) := [((0, 0), [], cN_isCell)]
def tN_isRight : List mv_E := [(0, .aload_n 0, 1, [0]), (1, .iconst 1, 1, [0, 1]), (2, .invokevirtual 145, 3, [0, 0, 2, 0, 5, 146, 5, 148, 1, 8, 0, 37]), (5, .aload_n 0, 1, [0]), (6, .getfield 28, 3, [8, 11, 1, 0, 4, 189]), (9, .iconst 3, 1, [0, 3]), (10, .iload_n 2, 1, [2]), (11, .imul, 1, []), (12, .iaload, 1, []), (13, .iconst 1, 1, [0, 1]), (14, .aload_n 0, 1, [0]), (15, .iload_n 1, 1, [1]), (16, .iconst 1, 1, [0, 1]), (17, .invokevirtual 82, 3, [0, 1, 3, 0, 5, 79, 5, 81, 1, 8, 0, 30]), (20, .iadd, 1, []), (21, .if_icmp .ne 43, 3, [64]), (24, .aload_n 0, 1, [0]), (25, .getfield 28, 3, [8, 11, 1, 0, 4, 189]), (28, .iconst 3, 1, [0, 3]), (29, .iload_n 2, 1, [2]), (30, .imul, 1, []), (31, .iconst 1, 1, [0, 1]), (32, .iadd, 1, []), (33, .iaload, 1, []), (34, .aload_n 0, 1, [0]), (35, .iload_n 1, 1, [1]), (36, .iconst 2, 1, [0, 2]), (37, .invokevirtual 82, 3, [0, 1, 3, 0, 5, 79, 5, 81, 1, 8, 0, 30]), (40, .if_icmp .ne 24, 3, [64]), (43, .aload_n 0, 1, [0]), (44, .getfield 28, 3, [8, 11, 1, 0, 4, 189]), (47, .iconst 3, 1, [0, 3]), (48, .iload_n 2, 1, [2]), (49, .imul, 1, []), (50, .iconst 2, 1, [0, 2]), (51, .iadd, 1, []), (52, .iaload, 1, []), (53, .aload_n 0, 1, [0]), (54, .invokevirtual 148, 3, [0, 2, 1, 0, 5, 154, 5, 156, 1, 8, 0, 39]), (57, .if_icmp .ne 7, 3, [64]), (60, .iconst 1, 1, [0, 1]), (61, .goto 4, 3, [65]), (64, .iconst 0, 1, [0, 0]), (65, .ireturn, 1, [1])]
def gN_isRight : List (mv_C H2) := [((0, 0), [], cN_goes), ((0, 0), [], cN_its), ((0, 0), [], cN_depths)]
def tN_judge : List mv_E := [(0, .aload_n 0, 1, [0]), (1, .iload_n 1, 1, [1]), (2, .invokevirtual 96, 3, [0, 0, 2, 0, 5, 74, 5, 76, 1, 8, 0, 29]), (5, .ifCond .ne 5, 3, [10]), (8, .iconst (-1), 1, [1, 1]), (9, .ireturn, 1, [0]), (10, .aload_n 0, 1, [0]), (11, .invokevirtual 161, 3, [0, 1, 1, 0, 5, 180, 5, 182, 1, 8, 0, 42]), (14, .iconst 0, 1, [0, 0]), (15, .istore_n 2, 1, [2]), (16, .iload_n 2, 1, [2]), (17, .aload_n 0, 1, [0]), (18, .getfield 329, 3, [8, 12, 0, 0, 4, 190]), (21, .if_icmp .ge 18, 3, [39]), (24, .aload_n 0, 1, [0]), (25, .iload_n 1, 1, [1]), (26, .iload_n 2, 1, [2]), (27, .invokevirtual 337, 3, [0, 2, 3, 0, 6, 169, 6, 171, 1, 8, 0, 68]), (30, .ifCond .eq 9, 3, [39]), (33, .iinc 2 1, 3, [2, 0, 1]), (36, .goto (-20), 3, [16]), (39, .aload_n 0, 1, [0]), (40, .invokevirtual 164, 3, [0, 3, 1, 0, 5, 187, 5, 189, 1, 8, 0, 43]), (43, .iload_n 2, 1, [2]), (44, .aload_n 0, 1, [0]), (45, .getfield 329, 3, [8, 12, 0, 0, 4, 190]), (48, .if_icmp .ge 9, 3, [57]), (51, .iload_n 2, 1, [2]), (52, .iconst 1, 1, [0, 1]), (53, .iadd, 1, []), (54, .goto 4, 3, [58]), (57, .iconst 0, 1, [0, 0]), (58, .ireturn, 1, [0])]
def gN_judge : List (mv_C H2) := [((0, 0), [], cN_isCloth), ((0, 0), [], cN_lends), ((0, 0), [], cN_isRight), ((0, 0), [], cN_laysBack)]
def tN_minds : List mv_E := [(0, .iload_n 1, 1, [1]), (1, .invokestatic 209, 3, [0, 0, 1, 1, 6, 46, 6, 47, 1, 8]), (4, .ifCond .eq 38, 3, [42]), (7, .aload_n 0, 1, [0]), (8, .iload_n 3, 1, [3]), (9, .invokevirtual 96, 3, [0, 1, 2, 0, 5, 74, 5, 76, 1, 8, 0, 29]), (12, .ifCond .eq 30, 3, [42]), (15, .iload 4, 2, [4]), (17, .i2l, 1, []), (18, .lconst 0, 1, [0, 0]), (19, .ldc2_w 201, 3, [0, 8, 6, 34]), (22, .invokestatic 59, 3, [0, 2, 3, 1, 5, 19, 5, 20, 1, 8]), (25, .ifCond .eq 17, 3, [42]), (28, .iload_n 3, 1, [3]), (29, .iload 4, 2, [4]), (31, .iadd, 1, []), (32, .aload_n 0, 1, [0]), (33, .getfield 16, 3, [8, 2, 1, 0, 4, 180]), (36, .bipush 6, 2, [0, 6]), (38, .iaload, 1, []), (39, .if_icmp .le 5, 3, [44]), (42, .iconst (-1), 1, [1, 1]), (43, .ireturn, 1, [0]), (44, .aload_n 0, 1, [0]), (45, .getfield 31, 3, [8, 13, 1, 0, 4, 191]), (48, .iload_n 1, 1, [1]), (49, .iaload, 1, []), (50, .ifCond .eq 20, 3, [70]), (53, .aload_n 0, 1, [0]), (54, .getfield 31, 3, [8, 13, 1, 0, 4, 191]), (57, .iload_n 1, 1, [1]), (58, .iaload, 1, []), (59, .ifCond .ge 8, 3, [67]), (62, .bipush (-11), 2, [1, 11]), (64, .goto 5, 3, [69]), (67, .bipush (-13), 2, [1, 13]), (69, .ireturn, 1, [0]), (70, .iload_n 2, 1, [2]), (71, .i2l, 1, []), (72, .lconst 0, 1, [0, 0]), (73, .aload_n 0, 1, [0]), (74, .getfield 34, 3, [8, 14, 1, 0, 4, 192]), (77, .iload_n 1, 1, [1]), (78, .iaload, 1, []), (79, .i2l, 1, []), (80, .invokestatic 59, 3, [0, 2, 3, 1, 5, 19, 5, 20, 1, 8]), (83, .ifCond .eq 16, 3, [99]), (86, .iload 4, 2, [4]), (88, .aload_n 0, 1, [0]), (89, .getfield 34, 3, [8, 14, 1, 0, 4, 192]), (92, .iload_n 1, 1, [1]), (93, .iaload, 1, []), (94, .iload_n 2, 1, [2]), (95, .isub, 1, []), (96, .if_icmp .le 6, 3, [102]), (99, .bipush (-12), 2, [1, 12]), (101, .ireturn, 1, [0]), (102, .iconst 0, 1, [0, 0]), (103, .istore 5, 2, [5]), (105, .iload 5, 2, [5]), (107, .iload 4, 2, [4]), (109, .if_icmp .ge 43, 3, [152]), (112, .aload_n 0, 1, [0]), (113, .iload_n 3, 1, [3]), (114, .iload 5, 2, [5]), (116, .iadd, 1, []), (117, .iconst 1, 1, [0, 1]), (118, .invokevirtual 82, 3, [0, 3, 3, 0, 5, 79, 5, 81, 1, 8, 0, 30]), (121, .ifCond .lt 25, 3, [146]), (124, .aload_n 0, 1, [0]), (125, .iload_n 3, 1, [3]), (126, .iload 5, 2, [5]), (128, .iadd, 1, []), (129, .aload_n 0, 1, [0]), (130, .getfield 37, 3, [8, 15, 1, 0, 4, 193]), (133, .bipush 40, 2, [0, 40]), (135, .iload_n 1, 1, [1]), (136, .imul, 1, []), (137, .iload_n 2, 1, [2]), (138, .iadd, 1, []), (139, .iload 5, 2, [5]), (141, .iadd, 1, []), (142, .iaload, 1, []), (143, .invokevirtual 130, 3, [0, 4, 3, 0, 5, 128, 5, 130, 1, 8, 0, 36]), (146, .iinc 5 1, 3, [5, 0, 1]), (149, .goto (-44), 3, [105]), (152, .iload 4, 2, [4]), (154, .ireturn, 1, [0])]
def gN_minds : List (mv_C H2) := [((0, 0), [], cN_isFour), ((0, 0), [], cN_isCloth), ((0, 0), [], cN_in), ((0, 0), [], cN_its), ((0, 0), [], cN_isDeep)]
def tN_sheet : List mv_E := [(0, .iload_n 1, 1, [1]), (1, .invokestatic 209, 3, [0, 0, 1, 1, 6, 46, 6, 47, 1, 8]), (4, .ifCond .eq 27, 3, [31]), (7, .iload_n 2, 1, [2]), (8, .i2l, 1, []), (9, .ldc2_w 216, 3, [1, 1, 6, 57]), (12, .ldc2_w 69, 3, [0, 3, 5, 18]), (15, .invokestatic 59, 3, [0, 1, 3, 1, 5, 19, 5, 20, 1, 8]), (18, .ifCond .eq 13, 3, [31]), (21, .iload_n 2, 1, [2]), (22, .ifCond .lt 11, 3, [33]), (25, .iload_n 3, 1, [3]), (26, .bipush 40, 2, [0, 40]), (28, .if_icmp .le 5, 3, [33]), (31, .iconst (-1), 1, [1, 1]), (32, .ireturn, 1, [0]), (33, .iload_n 2, 1, [2]), (34, .ifCond .lt 10, 3, [44]), (37, .iload_n 3, 1, [3]), (38, .ifCond .ge 6, 3, [44]), (41, .bipush (-14), 2, [1, 14]), (43, .ireturn, 1, [0]), (44, .aload_n 0, 1, [0]), (45, .getfield 31, 3, [8, 13, 1, 0, 4, 191]), (48, .iload_n 1, 1, [1]), (49, .iload_n 2, 1, [2]), (50, .iastore, 1, []), (51, .aload_n 0, 1, [0]), (52, .getfield 34, 3, [8, 14, 1, 0, 4, 192]), (55, .iload_n 1, 1, [1]), (56, .iload_n 2, 1, [2]), (57, .ifCond .ge 7, 3, [64]), (60, .iconst 0, 1, [0, 0]), (61, .goto 4, 3, [65]), (64, .iload_n 3, 1, [3]), (65, .iastore, 1, []), (66, .iconst 0, 1, [0, 0]), (67, .istore 4, 2, [4]), (69, .iload 4, 2, [4]), (71, .bipush 40, 2, [0, 40]), (73, .if_icmp .ge 22, 3, [95]), (76, .aload_n 0, 1, [0]), (77, .getfield 37, 3, [8, 15, 1, 0, 4, 193]), (80, .bipush 40, 2, [0, 40]), (82, .iload_n 1, 1, [1]), (83, .imul, 1, []), (84, .iload 4, 2, [4]), (86, .iadd, 1, []), (87, .iconst 0, 1, [0, 0]), (88, .iastore, 1, []), (89, .iinc 4 1, 3, [4, 0, 1]), (92, .goto (-23), 3, [69]), (95, .iconst 1, 1, [0, 1]), (96, .ireturn, 1, [0])]
def gN_sheet : List (mv_C H2) := [((0, 0), [], cN_isFour), ((0, 0), [], cN_in)]
def tN_narrowed : List mv_E := [(0, .iload_n 0, 1, [0]), (1, .ifCond .ne 8, 3, [9]), (4, .iload_n 1, 1, [1]), (5, .i2b, 1, []), (6, .goto 14, 3, [20]), (9, .iload_n 0, 1, [0]), (10, .iconst 1, 1, [0, 1]), (11, .if_icmp .ne 8, 3, [19]), (14, .iload_n 1, 1, [1]), (15, .i2s, 1, []), (16, .goto 4, 3, [20]), (19, .iload_n 1, 1, [1]), (20, .ireturn, 1, [0])]
def gN_narrowed : List (mv_C H2) := []
def tN_put : List mv_E := [(0, .iload_n 1, 1, [1]), (1, .invokestatic 209, 3, [0, 0, 1, 1, 6, 46, 6, 47, 1, 8]), (4, .ifCond .ne 5, 3, [9]), (7, .iconst (-1), 1, [1, 1]), (8, .ireturn, 1, [0]), (9, .aload_n 0, 1, [0]), (10, .getfield 31, 3, [8, 13, 1, 0, 4, 191]), (13, .iload_n 1, 1, [1]), (14, .iaload, 1, []), (15, .ifCond .ge 6, 3, [21]), (18, .bipush (-11), 2, [1, 11]), (20, .ireturn, 1, [0]), (21, .iload_n 2, 1, [2]), (22, .i2l, 1, []), (23, .lconst 0, 1, [0, 0]), (24, .aload_n 0, 1, [0]), (25, .getfield 34, 3, [8, 14, 1, 0, 4, 192]), (28, .iload_n 1, 1, [1]), (29, .iaload, 1, []), (30, .iconst 1, 1, [0, 1]), (31, .isub, 1, []), (32, .i2l, 1, []), (33, .invokestatic 59, 3, [0, 1, 3, 1, 5, 19, 5, 20, 1, 8]), (36, .ifCond .ne 6, 3, [42]), (39, .bipush (-12), 2, [1, 12]), (41, .ireturn, 1, [0]), (42, .aload_n 0, 1, [0]), (43, .getfield 37, 3, [8, 15, 1, 0, 4, 193]), (46, .bipush 40, 2, [0, 40]), (48, .iload_n 1, 1, [1]), (49, .imul, 1, []), (50, .iload_n 2, 1, [2]), (51, .iadd, 1, []), (52, .aload_n 0, 1, [0]), (53, .getfield 31, 3, [8, 13, 1, 0, 4, 191]), (56, .iload_n 1, 1, [1]), (57, .iaload, 1, []), (58, .iload_n 3, 1, [3]), (59, .invokestatic 340, 3, [0, 2, 2, 1, 6, 185, 6, 186, 1, 8]), (62, .iastore, 1, []), (63, .iconst 1, 1, [0, 1]), (64, .ireturn, 1, [0])]
def gN_put : List (mv_C H2) := [((0, 0), [], cN_isFour), ((0, 0), [], cN_in), ((0, 0), [], cN_narrowed)]
def tN_item_ : List mv_E := [(0, .iload_n 1, 1, [1]), (1, .invokestatic 209, 3, [0, 0, 1, 1, 6, 46, 6, 47, 1, 8]), (4, .ifCond .eq 15, 3, [19]), (7, .iload_n 2, 1, [2]), (8, .i2l, 1, []), (9, .lconst 0, 1, [0, 0]), (10, .ldc2_w 69, 3, [0, 3, 5, 18]), (13, .invokestatic 59, 3, [0, 1, 3, 1, 5, 19, 5, 20, 1, 8]), (16, .ifCond .ne 5, 3, [21]), (19, .iconst (-1), 1, [1, 1]), (20, .ireturn, 1, [0]), (21, .aload_n 0, 1, [0]), (22, .getfield 31, 3, [8, 13, 1, 0, 4, 191]), (25, .iload_n 1, 1, [1]), (26, .iaload, 1, []), (27, .ifCond .ge 6, 3, [33]), (30, .bipush (-11), 2, [1, 11]), (32, .ireturn, 1, [0]), (33, .aload_n 0, 1, [0]), (34, .getfield 31, 3, [8, 13, 1, 0, 4, 191]), (37, .iload_n 1, 1, [1]), (38, .iaload, 1, []), (39, .iload_n 2, 1, [2]), (40, .if_icmp .eq 6, 3, [46]), (43, .bipush (-13), 2, [1, 13]), (45, .ireturn, 1, [0]), (46, .iload_n 3, 1, [3]), (47, .i2l, 1, []), (48, .lconst 0, 1, [0, 0]), (49, .aload_n 0, 1, [0]), (50, .getfield 34, 3, [8, 14, 1, 0, 4, 192]), (53, .iload_n 1, 1, [1]), (54, .iaload, 1, []), (55, .iconst 1, 1, [0, 1]), (56, .isub, 1, []), (57, .i2l, 1, []), (58, .invokestatic 59, 3, [0, 1, 3, 1, 5, 19, 5, 20, 1, 8]), (61, .ifCond .eq 17, 3, [78]), (64, .aload_n 0, 1, [0]), (65, .getfield 37, 3, [8, 15, 1, 0, 4, 193]), (68, .bipush 40, 2, [0, 40]), (70, .iload_n 1, 1, [1]), (71, .imul, 1, []), (72, .iload_n 3, 1, [3]), (73, .iadd, 1, []), (74, .iaload, 1, []), (75, .goto 5, 3, [80]), (78, .bipush (-12), 2, [1, 12]), (80, .ireturn, 1, [0])]
def gN_item_ : List (mv_C H2) := [((0, 0), [], cN_isFour), ((0, 0), [], cN_in)]
def tN_shelf : List mv_E := [(0, .iload_n 2, 1, [2]), (1, .ifCond .ne 11, 3, [12]), (4, .aload_n 0, 1, [0]), (5, .iload_n 3, 1, [3]), (6, .invokevirtual 96, 3, [0, 0, 2, 0, 5, 74, 5, 76, 1, 8, 0, 29]), (9, .goto 25, 3, [34]), (12, .iload_n 2, 1, [2]), (13, .iconst 1, 1, [0, 1]), (14, .if_icmp .ne 10, 3, [24]), (17, .iload_n 3, 1, [3]), (18, .invokestatic 209, 3, [0, 1, 1, 1, 6, 46, 6, 47, 1, 8]), (21, .goto 13, 3, [34]), (24, .iload_n 2, 1, [2]), (25, .iconst 2, 1, [0, 2]), (26, .if_icmp .ne 7, 3, [33]), (29, .iconst 1, 1, [0, 1]), (30, .goto 4, 3, [34]), (33, .iconst 0, 1, [0, 0]), (34, .istore 4, 2, [4]), (36, .iload_n 1, 1, [1]), (37, .invokestatic 209, 3, [0, 1, 1, 1, 6, 46, 6, 47, 1, 8]), (40, .ifCond .eq 8, 3, [48]), (43, .iload 4, 2, [4]), (45, .ifCond .ne 5, 3, [50]), (48, .iconst (-1), 1, [1, 1]), (49, .ireturn, 1, [0]), (50, .iload_n 2, 1, [2]), (51, .iconst 1, 1, [0, 1]), (52, .if_icmp .ne 7, 3, [59]), (55, .iconst 1, 1, [0, 1]), (56, .goto 4, 3, [60]), (59, .iconst 0, 1, [0, 0]), (60, .istore 5, 2, [5]), (62, .aload_n 0, 1, [0]), (63, .getfield 40, 3, [8, 16, 1, 0, 4, 194]), (66, .iload_n 1, 1, [1]), (67, .iload 5, 2, [5]), (69, .ifCond .eq 16, 3, [85]), (72, .aload_n 0, 1, [0]), (73, .getfield 31, 3, [8, 13, 1, 0, 4, 191]), (76, .iload_n 3, 1, [3]), (77, .iaload, 1, []), (78, .ifCond .ge 7, 3, [85]), (81, .iconst 2, 1, [0, 2]), (82, .goto 4, 3, [86]), (85, .iload_n 2, 1, [2]), (86, .iastore, 1, []), (87, .aload_n 0, 1, [0]), (88, .getfield 43, 3, [8, 17, 1, 0, 4, 195]), (91, .iload_n 1, 1, [1]), (92, .iload 5, 2, [5]), (94, .ifCond .eq 12, 3, [106]), (97, .aload_n 0, 1, [0]), (98, .getfield 31, 3, [8, 13, 1, 0, 4, 191]), (101, .iload_n 3, 1, [3]), (102, .iaload, 1, []), (103, .goto 4, 3, [107]), (106, .iload_n 3, 1, [3]), (107, .iastore, 1, []), (108, .aload_n 0, 1, [0]), (109, .getfield 46, 3, [8, 18, 1, 0, 4, 196]), (112, .iload_n 1, 1, [1]), (113, .iload 5, 2, [5]), (115, .ifCond .eq 12, 3, [127]), (118, .aload_n 0, 1, [0]), (119, .getfield 34, 3, [8, 14, 1, 0, 4, 192]), (122, .iload_n 3, 1, [3]), (123, .iaload, 1, []), (124, .goto 4, 3, [128]), (127, .iconst 0, 1, [0, 0]), (128, .iastore, 1, []), (129, .iconst 1, 1, [0, 1]), (130, .ireturn, 1, [0])]
def gN_shelf : List (mv_C H2) := [((0, 0), [], cN_isCloth), ((0, 0), [], cN_isFour)]
def tN_isHeld : List mv_E := [(0, .aload_n 0, 1, [0]), (1, .getfield 40, 3, [8, 16, 1, 0, 4, 194]), (4, .iload_n 1, 1, [1]), (5, .iaload, 1, []), (6, .ifCond .ne 20, 3, [26]), (9, .aload_n 0, 1, [0]), (10, .aload_n 0, 1, [0]), (11, .getfield 43, 3, [8, 17, 1, 0, 4, 195]), (14, .iload_n 1, 1, [1]), (15, .iaload, 1, []), (16, .invokevirtual 96, 3, [0, 0, 2, 0, 5, 74, 5, 76, 1, 8, 0, 29]), (19, .ifCond .eq 7, 3, [26]), (22, .iconst 1, 1, [0, 1]), (23, .goto 4, 3, [27]), (26, .iconst 0, 1, [0, 0]), (27, .ireturn, 1, [1])]
def gN_isHeld : List (mv_C H2) := [((0, 0), [], cN_isCloth)]
def tN_taken : List mv_E := [(0, .iload_n 1, 1, [1]), (1, .invokestatic 209, 3, [0, 0, 1, 1, 6, 46, 6, 47, 1, 8]), (4, .ifCond .eq 24, 3, [28]), (7, .iload_n 2, 1, [2]), (8, .invokestatic 89, 3, [0, 1, 1, 1, 5, 59, 5, 60, 1, 8]), (11, .ifCond .ne 19, 3, [30]), (14, .iload_n 2, 1, [2]), (15, .i2l, 1, []), (16, .ldc2_w 332, 3, [0, 10, 6, 152]), (19, .ldc2_w 343, 3, [0, 13, 6, 200]), (22, .invokestatic 59, 3, [0, 2, 3, 1, 5, 19, 5, 20, 1, 8]), (25, .ifCond .ne 5, 3, [30]), (28, .iconst (-1), 1, [1, 1]), (29, .ireturn, 1, [0]), (30, .aload_n 0, 1, [0]), (31, .getfield 40, 3, [8, 16, 1, 0, 4, 194]), (34, .iload_n 1, 1, [1]), (35, .iaload, 1, []), (36, .iconst 1, 1, [0, 1]), (37, .if_icmp .ne 28, 3, [65]), (40, .iload_n 2, 1, [2]), (41, .bipush 10, 2, [0, 10]), (43, .isub, 1, []), (44, .aload_n 0, 1, [0]), (45, .getfield 43, 3, [8, 17, 1, 0, 4, 195]), (48, .iload_n 1, 1, [1]), (49, .iaload, 1, []), (50, .if_icmp .ne 12, 3, [62]), (53, .aload_n 0, 1, [0]), (54, .getfield 46, 3, [8, 18, 1, 0, 4, 196]), (57, .iload_n 1, 1, [1]), (58, .iaload, 1, []), (59, .goto 5, 3, [64]), (62, .bipush (-13), 2, [1, 13]), (64, .ireturn, 1, [0]), (65, .aload_n 0, 1, [0]), (66, .iload_n 1, 1, [1]), (67, .invokevirtual 345, 3, [0, 3, 2, 0, 6, 201, 6, 203, 1, 8, 0, 69]), (70, .ifCond .ne 6, 3, [76]), (73, .bipush (-11), 2, [1, 11]), (75, .ireturn, 1, [0]), (76, .iload_n 2, 1, [2]), (77, .bipush 10, 2, [0, 10]), (79, .if_icmp .ge 30, 3, [109]), (82, .aload_n 0, 1, [0]), (83, .aload_n 0, 1, [0]), (84, .getfield 43, 3, [8, 17, 1, 0, 4, 195]), (87, .iload_n 1, 1, [1]), (88, .iaload, 1, []), (89, .iconst 0, 1, [0, 0]), (90, .invokevirtual 82, 3, [0, 4, 3, 0, 5, 79, 5, 81, 1, 8, 0, 30]), (93, .iload_n 2, 1, [2]), (94, .invokestatic 348, 3, [0, 5, 2, 1, 6, 205, 6, 206, 1, 8]), (97, .ifCond .eq 12, 3, [109]), (100, .aload_n 0, 1, [0]), (101, .getfield 43, 3, [8, 17, 1, 0, 4, 195]), (104, .iload_n 1, 1, [1]), (105, .iaload, 1, []), (106, .goto 5, 3, [111]), (109, .bipush (-13), 2, [1, 13]), (111, .ireturn, 1, [0])]
def gN_taken : List (mv_C H2) := [((0, 0), [], cN_isFour), ((0, 0), [], cN_isKind), ((0, 0), [], cN_in), ((0, 0), [], cN_isHeld), ((0, 0), [], cN_its), ((0, 0), [], cN_isUnder)]
def tN_runs : List mv_E := [(0, .aload_n 0, 1, [0]), (1, .getfield 351, 3, [8, 20, 0, 0, 4, 198]), (4, .bipush 30, 2, [0, 30]), (6, .if_icmp .ge 23, 3, [29]), (9, .aload_n 0, 1, [0]), (10, .getfield 49, 3, [8, 19, 1, 0, 4, 197]), (13, .aload_n 0, 1, [0]), (14, .getfield 351, 3, [8, 20, 0, 0, 4, 198]), (17, .iload_n 1, 1, [1]), (18, .iastore, 1, []), (19, .aload_n 0, 1, [0]), (20, .dup, 1, []), (21, .getfield 351, 3, [8, 20, 0, 0, 4, 198]), (24, .iconst 1, 1, [0, 1]), (25, .iadd, 1, []), (26, .putfield 351, 3, [8, 20, 0, 0, 4, 198]), (29, .return_, 1, [])]
def gN_runs : List (mv_C H2) := []
def tN_plainRubs : List mv_E := [(0, .aload_n 0, 1, [0]), (1, .bipush 10, 2, [0, 10]), (3, .invokevirtual 354, 3, [0, 0, 2, 0, 6, 220, 6, 222, 1, 8, 0, 72]), (6, .iload_n 1, 1, [1]), (7, .iconst 5, 1, [0, 5]), (8, .imul, 1, []), (9, .aload_n 0, 1, [0]), (10, .getfield 357, 3, [8, 22, 0, 0, 4, 200]), (13, .iadd, 1, []), (14, .ireturn, 1, [0])]
def gN_plainRubs : List (mv_C H2) := [((0, 0), [], cN_runs)]
def tN_linenRubs : List mv_E := [(0, .aload_n 0, 1, [0]), (1, .bipush 30, 2, [0, 30]), (3, .invokevirtual 354, 3, [0, 0, 2, 0, 6, 220, 6, 222, 1, 8, 0, 72]), (6, .aload_n 0, 1, [0]), (7, .iload_n 1, 1, [1]), (8, .invokevirtual 360, 3, [0, 1, 2, 0, 6, 224, 6, 226, 1, 8, 0, 73]), (11, .iconst 2, 1, [0, 2]), (12, .imul, 1, []), (13, .ireturn, 1, [0])]
def gN_linenRubs : List (mv_C H2) := [((0, 0), [], cN_runs), ((0, 0), [], cN_plainRubs)]
def tN_rubs : List mv_E := [(0, .aload_n 0, 1, [0]), (1, .getfield 363, 3, [8, 21, 0, 0, 4, 199]), (4, .tableswitch 62 2 4 #[28, 48, 34], 28, [2, 66, 32, 52, 38]), (32, .aload_n 0, 1, [0]), (33, .iload_n 1, 1, [1]), (34, .invokevirtual 366, 3, [0, 0, 2, 0, 6, 216, 6, 218, 1, 8, 0, 71]), (37, .ireturn, 1, [0]), (38, .aload_n 0, 1, [0]), (39, .bipush 40, 2, [0, 40]), (41, .invokevirtual 354, 3, [0, 1, 2, 0, 6, 220, 6, 222, 1, 8, 0, 72]), (44, .iconst 0, 1, [0, 0]), (45, .aload_n 0, 1, [0]), (46, .iload_n 1, 1, [1]), (47, .invokevirtual 366, 3, [0, 0, 2, 0, 6, 216, 6, 218, 1, 8, 0, 71]), (50, .isub, 1, []), (51, .ireturn, 1, [0]), (52, .aload_n 0, 1, [0]), (53, .bipush 51, 2, [0, 51]), (55, .invokevirtual 354, 3, [0, 1, 2, 0, 6, 220, 6, 222, 1, 8, 0, 72]), (58, .aload_n 0, 1, [0]), (59, .iload_n 1, 1, [1]), (60, .invokevirtual 360, 3, [0, 2, 2, 0, 6, 224, 6, 226, 1, 8, 0, 73]), (63, .iconst 2, 1, [0, 2]), (64, .isub, 1, []), (65, .ireturn, 1, [0]), (66, .aload_n 0, 1, [0]), (67, .iload_n 1, 1, [1]), (68, .invokevirtual 360, 3, [0, 2, 2, 0, 6, 224, 6, 226, 1, 8, 0, 73]), (71, .ireturn, 1, [0])]
def gN_rubs : List (mv_C H2) := [((0, 0), [], cN_linenRubs), ((0, 0), [], cN_runs), ((0, 0), [], cN_plainRubs)]
def tN_plainSteeps : List mv_E := [(0, .aload_n 0, 1, [0]), (1, .bipush 11, 2, [0, 11]), (3, .invokevirtual 354, 3, [0, 0, 2, 0, 6, 220, 6, 222, 1, 8, 0, 72]), (6, .aload_n 0, 1, [0]), (7, .iload_n 1, 1, [1]), (8, .invokevirtual 369, 3, [0, 1, 2, 0, 6, 212, 6, 214, 1, 8, 0, 70]), (11, .aload_n 0, 1, [0]), (12, .getfield 372, 3, [8, 23, 0, 0, 4, 201]), (15, .bipush 9, 2, [0, 9]), (17, .imul, 1, []), (18, .iadd, 1, []), (19, .ireturn, 1, [0])]
def gN_plainSteeps : List (mv_C H2) := [((0, 0), [], cN_runs), ((0, 0), [], cN_rubs)]
def tN_steepsAct : List mv_E := [(0, .aload_n 0, 1, [0]), (1, .getfield 363, 3, [8, 21, 0, 0, 4, 199]), (4, .iconst 1, 1, [0, 1]), (5, .if_icmp .eq 11, 3, [16]), (8, .aload_n 0, 1, [0]), (9, .getfield 363, 3, [8, 21, 0, 0, 4, 199]), (12, .iconst 3, 1, [0, 3]), (13, .if_icmp .ne 18, 3, [31]), (16, .aload_n 0, 1, [0]), (17, .bipush 20, 2, [0, 20]), (19, .invokevirtual 354, 3, [0, 0, 2, 0, 6, 220, 6, 222, 1, 8, 0, 72]), (22, .aload_n 0, 1, [0]), (23, .iload_n 1, 1, [1]), (24, .invokevirtual 375, 3, [0, 1, 2, 0, 6, 232, 6, 234, 1, 8, 0, 75]), (27, .bipush 6, 2, [0, 6]), (29, .isub, 1, []), (30, .ireturn, 1, [0]), (31, .aload_n 0, 1, [0]), (32, .getfield 363, 3, [8, 21, 0, 0, 4, 199]), (35, .iconst 4, 1, [0, 4]), (36, .if_icmp .ne 26, 3, [62]), (39, .aload_n 0, 1, [0]), (40, .bipush 41, 2, [0, 41]), (42, .invokevirtual 354, 3, [0, 0, 2, 0, 6, 220, 6, 222, 1, 8, 0, 72]), (45, .aload_n 0, 1, [0]), (46, .iload_n 1, 1, [1]), (47, .invokevirtual 375, 3, [0, 1, 2, 0, 6, 232, 6, 234, 1, 8, 0, 75]), (50, .istore_n 2, 1, [2]), (51, .iload_n 2, 1, [2]), (52, .aload_n 0, 1, [0]), (53, .aload_n 0, 1, [0]), (54, .getfield 372, 3, [8, 23, 0, 0, 4, 201]), (57, .invokevirtual 369, 3, [0, 2, 2, 0, 6, 212, 6, 214, 1, 8, 0, 70]), (60, .ixor, 1, []), (61, .ireturn, 1, [0]), (62, .aload_n 0, 1, [0]), (63, .iload_n 1, 1, [1]), (64, .invokevirtual 375, 3, [0, 1, 2, 0, 6, 232, 6, 234, 1, 8, 0, 75]), (67, .ireturn, 1, [0])]
def gN_steepsAct : List (mv_C H2) := [((0, 0), [], cN_runs), ((0, 0), [], cN_plainSteeps), ((0, 0), [], cN_rubs)]
def tN_plainParts : List mv_E := [(0, .aload_n 0, 1, [0]), (1, .bipush 12, 2, [0, 12]), (3, .invokevirtual 354, 3, [0, 0, 2, 0, 6, 220, 6, 222, 1, 8, 0, 72]), (6, .aload_n 0, 1, [0]), (7, .aload_n 0, 1, [0]), (8, .getfield 378, 3, [8, 24, 2, 0, 4, 202]), (11, .ifCond .ne 14, 3, [25]), (14, .aload_n 0, 1, [0]), (15, .getfield 372, 3, [8, 23, 0, 0, 4, 201]), (18, .aload_n 0, 1, [0]), (19, .getfield 357, 3, [8, 22, 0, 0, 4, 200]), (22, .if_icmp .ne 7, 3, [29]), (25, .iconst 1, 1, [0, 1]), (26, .goto 4, 3, [30]), (29, .iconst 0, 1, [0, 0]), (30, .putfield 378, 3, [8, 24, 2, 0, 4, 202]), (33, .aload_n 0, 1, [0]), (34, .getfield 372, 3, [8, 23, 0, 0, 4, 201]), (37, .aload_n 0, 1, [0]), (38, .getfield 357, 3, [8, 22, 0, 0, 4, 200]), (41, .if_icmp .ne 7, 3, [48]), (44, .iconst 0, 1, [0, 0]), (45, .goto 32, 3, [77]), (48, .aload_n 0, 1, [0]), (49, .getfield 372, 3, [8, 23, 0, 0, 4, 201]), (52, .aload_n 0, 1, [0]), (53, .getfield 357, 3, [8, 22, 0, 0, 4, 200]), (56, .isub, 1, []), (57, .iconst (-1), 1, [1, 1]), (58, .if_icmp .ne 8, 3, [66]), (61, .iload_n 1, 1, [1]), (62, .ineg, 1, []), (63, .goto 14, 3, [77]), (66, .iload_n 1, 1, [1]), (67, .aload_n 0, 1, [0]), (68, .getfield 372, 3, [8, 23, 0, 0, 4, 201]), (71, .aload_n 0, 1, [0]), (72, .getfield 357, 3, [8, 22, 0, 0, 4, 200]), (75, .isub, 1, []), (76, .idiv, 1, []), (77, .ireturn, 1, [0])]
def gN_plainParts : List (mv_C H2) := [((0, 0), [], cN_runs)]
def tN_parts : List mv_E := [(0, .aload_n 0, 1, [0]), (1, .getfield 363, 3, [8, 21, 0, 0, 4, 199]), (4, .iconst 3, 1, [0, 3]), (5, .if_icmp .ne 22, 3, [27]), (8, .aload_n 0, 1, [0]), (9, .bipush 50, 2, [0, 50]), (11, .invokevirtual 354, 3, [0, 0, 2, 0, 6, 220, 6, 222, 1, 8, 0, 72]), (14, .aload_n 0, 1, [0]), (15, .iload_n 1, 1, [1]), (16, .iconst 3, 1, [0, 3]), (17, .iadd, 1, []), (18, .invokevirtual 381, 3, [0, 1, 2, 0, 7, 0, 7, 2, 1, 8, 0, 77]), (21, .aload_n 0, 1, [0]), (22, .getfield 372, 3, [8, 23, 0, 0, 4, 201]), (25, .iadd, 1, []), (26, .ireturn, 1, [0]), (27, .aload_n 0, 1, [0]), (28, .getfield 363, 3, [8, 21, 0, 0, 4, 199]), (31, .iconst 5, 1, [0, 5]), (32, .if_icmp .ne 37, 3, [69]), (35, .aload_n 0, 1, [0]), (36, .bipush 61, 2, [0, 61]), (38, .invokevirtual 354, 3, [0, 0, 2, 0, 6, 220, 6, 222, 1, 8, 0, 72]), (41, .aload_n 0, 1, [0]), (42, .iload_n 1, 1, [1]), (43, .invokevirtual 381, 3, [0, 1, 2, 0, 7, 0, 7, 2, 1, 8, 0, 77]), (46, .istore_n 2, 1, [2]), (47, .aload_n 0, 1, [0]), (48, .getfield 378, 3, [8, 24, 2, 0, 4, 202]), (51, .ifCond .eq 7, 3, [58]), (54, .iconst 0, 1, [0, 0]), (55, .goto 13, 3, [68]), (58, .iload_n 2, 1, [2]), (59, .aload_n 0, 1, [0]), (60, .aload_n 0, 1, [0]), (61, .getfield 357, 3, [8, 22, 0, 0, 4, 200]), (64, .invokevirtual 369, 3, [0, 2, 2, 0, 6, 212, 6, 214, 1, 8, 0, 70]), (67, .isub, 1, []), (68, .ireturn, 1, [0]), (69, .aload_n 0, 1, [0]), (70, .iload_n 1, 1, [1]), (71, .invokevirtual 381, 3, [0, 1, 2, 0, 7, 0, 7, 2, 1, 8, 0, 77]), (74, .ireturn, 1, [0])]
def gN_parts : List (mv_C H2) := [((0, 0), [], cN_runs), ((0, 0), [], cN_plainParts), ((0, 0), [], cN_rubs)]
def tN_plainDries : List mv_E := [(0, .aload_n 0, 1, [0]), (1, .bipush 13, 2, [0, 13]), (3, .invokevirtual 354, 3, [0, 0, 2, 0, 6, 220, 6, 222, 1, 8, 0, 72]), (6, .aload_n 0, 1, [0]), (7, .iload_n 1, 1, [1]), (8, .invokevirtual 384, 3, [0, 1, 2, 0, 6, 228, 6, 230, 1, 8, 0, 74]), (11, .sipush 240, 3, [0, 240]), (14, .ixor, 1, []), (15, .ireturn, 1, [0])]
def gN_plainDries : List (mv_C H2) := [((0, 0), [], cN_runs), ((0, 0), [], cN_steepsAct)]
def tN_driesAct : List mv_E := [(0, .aload_n 0, 1, [0]), (1, .getfield 363, 3, [8, 21, 0, 0, 4, 199]), (4, .iconst 2, 1, [0, 2]), (5, .if_icmp .eq 11, 3, [16]), (8, .aload_n 0, 1, [0]), (9, .getfield 363, 3, [8, 21, 0, 0, 4, 199]), (12, .iconst 4, 1, [0, 4]), (13, .if_icmp .ne 26, 3, [39]), (16, .aload_n 0, 1, [0]), (17, .bipush 31, 2, [0, 31]), (19, .invokevirtual 354, 3, [0, 0, 2, 0, 6, 220, 6, 222, 1, 8, 0, 72]), (22, .aload_n 0, 1, [0]), (23, .iload_n 1, 1, [1]), (24, .invokevirtual 387, 3, [0, 1, 2, 0, 7, 8, 7, 10, 1, 8, 0, 79]), (27, .istore_n 2, 1, [2]), (28, .iload_n 2, 1, [2]), (29, .aload_n 0, 1, [0]), (30, .aload_n 0, 1, [0]), (31, .getfield 357, 3, [8, 22, 0, 0, 4, 200]), (34, .invokevirtual 390, 3, [0, 2, 2, 0, 6, 236, 6, 238, 1, 8, 0, 76]), (37, .iadd, 1, []), (38, .ireturn, 1, [0]), (39, .aload_n 0, 1, [0]), (40, .getfield 363, 3, [8, 21, 0, 0, 4, 199]), (43, .iconst 5, 1, [0, 5]), (44, .if_icmp .ne 17, 3, [61]), (47, .aload_n 0, 1, [0]), (48, .bipush 60, 2, [0, 60]), (50, .invokevirtual 354, 3, [0, 0, 2, 0, 6, 220, 6, 222, 1, 8, 0, 72]), (53, .aload_n 0, 1, [0]), (54, .iload_n 1, 1, [1]), (55, .invokevirtual 387, 3, [0, 1, 2, 0, 7, 8, 7, 10, 1, 8, 0, 79]), (58, .iconst 3, 1, [0, 3]), (59, .imul, 1, []), (60, .ireturn, 1, [0]), (61, .aload_n 0, 1, [0]), (62, .iload_n 1, 1, [1]), (63, .invokevirtual 387, 3, [0, 1, 2, 0, 7, 8, 7, 10, 1, 8, 0, 79]), (66, .ireturn, 1, [0])]
def gN_driesAct : List (mv_C H2) := [((0, 0), [], cN_runs), ((0, 0), [], cN_plainDries), ((0, 0), [], cN_parts)]
def tN_act : List mv_E := [(0, .aload_n 0, 1, [0]), (1, .iconst 0, 1, [0, 0]), (2, .putfield 351, 3, [8, 20, 0, 0, 4, 198]), (5, .iload_n 1, 1, [1]), (6, .invokestatic 209, 3, [0, 0, 1, 1, 6, 46, 6, 47, 1, 8]), (9, .ifCond .eq 18, 3, [27]), (12, .iload_n 2, 1, [2]), (13, .invokestatic 209, 3, [0, 0, 1, 1, 6, 46, 6, 47, 1, 8]), (16, .ifCond .eq 11, 3, [27]), (19, .aload_n 0, 1, [0]), (20, .iload_n 1, 1, [1]), (21, .invokevirtual 345, 3, [0, 1, 2, 0, 6, 201, 6, 203, 1, 8, 0, 69]), (24, .ifCond .ne 5, 3, [29]), (27, .iconst 0, 1, [0, 0]), (28, .ireturn, 1, [0]), (29, .aload_n 0, 1, [0]), (30, .aload_n 0, 1, [0]), (31, .getfield 43, 3, [8, 17, 1, 0, 4, 195]), (34, .iload_n 1, 1, [1]), (35, .iaload, 1, []), (36, .putfield 357, 3, [8, 22, 0, 0, 4, 200]), (39, .aload_n 0, 1, [0]), (40, .aload_n 0, 1, [0]), (41, .aload_n 0, 1, [0]), (42, .getfield 357, 3, [8, 22, 0, 0, 4, 200]), (45, .iconst 0, 1, [0, 0]), (46, .invokevirtual 82, 3, [0, 2, 3, 0, 5, 79, 5, 81, 1, 8, 0, 30]), (49, .putfield 363, 3, [8, 21, 0, 0, 4, 199]), (52, .aload_n 0, 1, [0]), (53, .iconst 1, 1, [0, 1]), (54, .aload_n 0, 1, [0]), (55, .aload_n 0, 1, [0]), (56, .getfield 357, 3, [8, 22, 0, 0, 4, 200]), (59, .iconst 1, 1, [0, 1]), (60, .invokevirtual 82, 3, [0, 2, 3, 0, 5, 79, 5, 81, 1, 8, 0, 30]), (63, .iadd, 1, []), (64, .putfield 372, 3, [8, 23, 0, 0, 4, 201]), (67, .aload_n 0, 1, [0]), (68, .iconst 0, 1, [0, 0]), (69, .putfield 378, 3, [8, 24, 2, 0, 4, 202]), (72, .iload_n 2, 1, [2]), (73, .ifCond .ne 11, 3, [84]), (76, .aload_n 0, 1, [0]), (77, .iload_n 3, 1, [3]), (78, .invokevirtual 369, 3, [0, 3, 2, 0, 6, 212, 6, 214, 1, 8, 0, 70]), (81, .goto 34, 3, [115]), (84, .iload_n 2, 1, [2]), (85, .iconst 1, 1, [0, 1]), (86, .if_icmp .ne 11, 3, [97]), (89, .aload_n 0, 1, [0]), (90, .iload_n 3, 1, [3]), (91, .invokevirtual 384, 3, [0, 4, 2, 0, 6, 228, 6, 230, 1, 8, 0, 74]), (94, .goto 21, 3, [115]), (97, .iload_n 2, 1, [2]), (98, .iconst 2, 1, [0, 2]), (99, .if_icmp .ne 11, 3, [110]), (102, .aload_n 0, 1, [0]), (103, .iload_n 3, 1, [3]), (104, .invokevirtual 390, 3, [0, 5, 2, 0, 6, 236, 6, 238, 1, 8, 0, 76]), (107, .goto 8, 3, [115]), (110, .aload_n 0, 1, [0]), (111, .iload_n 3, 1, [3]), (112, .invokevirtual 393, 3, [0, 6, 2, 0, 7, 4, 7, 6, 1, 8, 0, 78]), (115, .istore 4, 2, [4]), (117, .aload_n 0, 1, [0]), (118, .getfield 378, 3, [8, 24, 2, 0, 4, 202]), (121, .ifCond .eq 8, 3, [129]), (124, .bipush (-15), 2, [1, 15]), (126, .goto 5, 3, [131]), (129, .iload 4, 2, [4]), (131, .ireturn, 1, [0])]
def gN_act : List (mv_C H2) := [((0, 0), [], cN_isFour), ((0, 0), [], cN_isHeld), ((0, 0), [], cN_its), ((0, 0), [], cN_rubs), ((0, 0), [], cN_steepsAct), ((0, 0), [], cN_parts), ((0, 0), [], cN_driesAct)]
def tN_trace : List mv_E := [(0, .iload_n 1, 1, [1]), (1, .i2l, 1, []), (2, .lconst 0, 1, [0, 0]), (3, .aload_n 0, 1, [0]), (4, .getfield 351, 3, [8, 20, 0, 0, 4, 198]), (7, .iconst 1, 1, [0, 1]), (8, .isub, 1, []), (9, .i2l, 1, []), (10, .invokestatic 59, 3, [0, 0, 3, 1, 5, 19, 5, 20, 1, 8]), (13, .ifCond .eq 12, 3, [25]), (16, .aload_n 0, 1, [0]), (17, .getfield 49, 3, [8, 19, 1, 0, 4, 197]), (20, .iload_n 1, 1, [1]), (21, .iaload, 1, []), (22, .goto 5, 3, [27]), (25, .bipush (-3), 2, [1, 3]), (27, .ireturn, 1, [0])]
def gN_trace : List (mv_C H2) := [((0, 0), [], cN_in)]
def tN_purposesAbout : List mv_E := [(0, .iconst 0, 1, [0, 0]), (1, .istore_n 1, 1, [1]), (2, .iconst 0, 1, [0, 0]), (3, .istore_n 2, 1, [2]), (4, .iload_n 2, 1, [2]), (5, .bipush 10, 2, [0, 10]), (7, .if_icmp .ge 65, 3, [72]), (10, .iconst 0, 1, [0, 0]), (11, .istore_n 3, 1, [3]), (12, .iconst 0, 1, [0, 0]), (13, .istore 4, 2, [4]), (15, .iload 4, 2, [4]), (17, .aload_n 0, 1, [0]), (18, .getfield 16, 3, [8, 2, 1, 0, 4, 180]), (21, .bipush 6, 2, [0, 6]), (23, .iaload, 1, []), (24, .if_icmp .ge 30, 3, [54]), (27, .iload_n 3, 1, [3]), (28, .ifCond .ne 14, 3, [42]), (31, .aload_n 0, 1, [0]), (32, .iload 4, 2, [4]), (34, .iconst 1, 1, [0, 1]), (35, .invokevirtual 82, 3, [0, 0, 3, 0, 5, 79, 5, 81, 1, 8, 0, 30]), (38, .iload_n 2, 1, [2]), (39, .if_icmp .ne 7, 3, [46]), (42, .iconst 1, 1, [0, 1]), (43, .goto 4, 3, [47]), (46, .iconst 0, 1, [0, 0]), (47, .istore_n 3, 1, [3]), (48, .iinc 4 1, 3, [4, 0, 1]), (51, .goto (-36), 3, [15]), (54, .iload_n 1, 1, [1]), (55, .iload_n 3, 1, [3]), (56, .ifCond .eq 7, 3, [63]), (59, .iconst 1, 1, [0, 1]), (60, .goto 4, 3, [64]), (63, .iconst 0, 1, [0, 0]), (64, .iadd, 1, []), (65, .istore_n 1, 1, [1]), (66, .iinc 2 1, 3, [2, 0, 1]), (69, .goto (-65), 3, [4]), (72, .iload_n 1, 1, [1]), (73, .ireturn, 1, [0])]
def gN_purposesAbout : List (mv_C H2) := [((0, 0), [], cN_its)]
def tN_many : List mv_E := [(0, .iload_n 1, 1, [1]), (1, .tableswitch 87 0 6 #[43, 51, 59, 67, 72, 77, 82], 43, [0, 88, 44, 52, 60, 68, 73, 78, 83]), (44, .aload_n 0, 1, [0]), (45, .getfield 16, 3, [8, 2, 1, 0, 4, 180]), (48, .bipush 6, 2, [0, 6]), (50, .iaload, 1, []), (51, .ireturn, 1, [0]), (52, .aload_n 0, 1, [0]), (53, .invokevirtual 171, 3, [0, 0, 1, 0, 5, 195, 5, 197, 1, 8, 0, 44]), (56, .invokestatic 203, 3, [0, 1, 1, 1, 6, 35, 6, 36, 1, 8]), (59, .ireturn, 1, [0]), (60, .aload_n 0, 1, [0]), (61, .invokevirtual 174, 3, [0, 2, 1, 0, 5, 199, 5, 201, 1, 8, 0, 45]), (64, .invokestatic 203, 3, [0, 1, 1, 1, 6, 35, 6, 36, 1, 8]), (67, .ireturn, 1, [0]), (68, .aload_n 0, 1, [0]), (69, .invokevirtual 396, 3, [0, 3, 1, 0, 7, 20, 7, 22, 1, 8, 0, 80]), (72, .ireturn, 1, [0]), (73, .aload_n 0, 1, [0]), (74, .getfield 329, 3, [8, 12, 0, 0, 4, 190]), (77, .ireturn, 1, [0]), (78, .aload_n 0, 1, [0]), (79, .getfield 224, 3, [8, 7, 0, 0, 4, 185]), (82, .ireturn, 1, [0]), (83, .aload_n 0, 1, [0]), (84, .getfield 351, 3, [8, 20, 0, 0, 4, 198]), (87, .ireturn, 1, [0]), (88, .iconst (-1), 1, [1, 1]), (89, .ireturn, 1, [0])]
def gN_many : List (mv_C H2) := [((0, 0), [], cN_hungSet), ((0, 0), [], cN_ones), ((0, 0), [], cN_aboutSet), ((0, 0), [], cN_purposesAbout)]
def tN_keep : List mv_E := [(0, .aload_n 0, 1, [0]), (1, .getfield 16, 3, [8, 2, 1, 0, 4, 180]), (4, .aload_n 0, 1, [0]), (5, .getfield 19, 3, [8, 3, 1, 0, 4, 181]), (8, .invokestatic 55, 3, [0, 0, 2, 1, 5, 184, 5, 185, 1, 8]), (11, .aload_n 0, 1, [0]), (12, .iconst 1, 1, [0, 1]), (13, .putfield 399, 3, [8, 5, 2, 0, 4, 183]), (16, .iconst 1, 1, [0, 1]), (17, .ireturn, 1, [0])]
def gN_keep : List (mv_C H2) := [((0, 0), [], cN_become)]
def tN_again : List mv_E := [(0, .aload_n 0, 1, [0]), (1, .getfield 399, 3, [8, 5, 2, 0, 4, 183]), (4, .ifCond .ne 6, 3, [10]), (7, .bipush (-3), 2, [1, 3]), (9, .ireturn, 1, [0]), (10, .aload_n 0, 1, [0]), (11, .getfield 19, 3, [8, 3, 1, 0, 4, 181]), (14, .aload_n 0, 1, [0]), (15, .getfield 16, 3, [8, 2, 1, 0, 4, 180]), (18, .invokestatic 55, 3, [0, 0, 2, 1, 5, 184, 5, 185, 1, 8]), (21, .aload_n 0, 1, [0]), (22, .getfield 16, 3, [8, 2, 1, 0, 4, 180]), (25, .bipush 6, 2, [0, 6]), (27, .iaload, 1, []), (28, .ireturn, 1, [0])]
def gN_again : List (mv_C H2) := [((0, 0), [], cN_become)]
end
section
set_option maxRecDepth 100000 in
set_option maxHeartbeats 8000000 in
theorem eM_copyFrom (o0 : Nat) (o1 : Nat) (h : H2) : mv_blk rI2 rR2 ln2 wI2 wR2 nw2 cp2 bod none tM_copyFrom gM_copyFrom 0 0 [] [] (fun _ _ _ _ _ _ => none) 400 tM_copyFrom [(0, Sum.inr (2, o0)), (1, Sum.inr (2, o1))] [] h 0 0 = (
  mv_gd (decide (nI 0 = nI 0) && (decide (nI 0 = nI 0) && (!decide ((nI 4) < 0) && (Nat.ble (nI 4).toNatClampNeg 4 && Nat.ble (nI 4).toNatClampNeg 4)))) <|
  mv_bh (cp2 h 300 o1 o0 (nI 4).toNatClampNeg 0) fun h1 =>
  mv_gd (decide (nI 0 = nI 0) && (decide (nI 0 = nI 0) && (!decide ((nI 8) < 0) && (Nat.ble (nI 8).toNatClampNeg 8 && Nat.ble (nI 8).toNatClampNeg 8)))) <|
  mv_bh (cp2 h1 301 o1 o0 (nI 8).toNatClampNeg 0) fun h2 =>
  mv_gd (decide (nI 0 = nI 0) && (decide (nI 0 = nI 0) && (!decide ((nI 8) < 0) && (Nat.ble (nI 8).toNatClampNeg 8 && Nat.ble (nI 8).toNatClampNeg 8)))) <|
  mv_bh (cp2 h2 302 o1 o0 (nI 8).toNatClampNeg 0) fun h3 =>
  mv_gd (decide (nI 0 = nI 0) && (decide (nI 0 = nI 0) && (!decide ((nI 6) < 0) && (Nat.ble (nI 6).toNatClampNeg 6 && Nat.ble (nI 6).toNatClampNeg 6)))) <|
  mv_bh (cp2 h3 303 o1 o0 (nI 6).toNatClampNeg 0) fun h4 =>
  mv_gd (decide (nI 0 = nI 0) && (decide (nI 0 = nI 0) && (!decide ((nI 8) < 0) && (Nat.ble (nI 8).toNatClampNeg 8 && Nat.ble (nI 8).toNatClampNeg 8)))) <|
  mv_bh (cp2 h4 304 o1 o0 (nI 8).toNatClampNeg 0) fun h5 =>
  mv_gd (decide (nI 0 = nI 0) && (decide (nI 0 = nI 0) && (!decide ((nI 8) < 0) && (Nat.ble (nI 8).toNatClampNeg 8 && Nat.ble (nI 8).toNatClampNeg 8)))) <|
  mv_bh (cp2 h5 305 o1 o0 (nI 8).toNatClampNeg 0) fun h6 =>
  mv_gd (decide (nI 0 = nI 0) && (decide (nI 0 = nI 0) && (!decide ((nI 8) < 0) && (Nat.ble (nI 8).toNatClampNeg 8 && Nat.ble (nI 8).toNatClampNeg 8)))) <|
  mv_bh (cp2 h6 306 o1 o0 (nI 8).toNatClampNeg 0) fun h7 =>
  mv_gd (decide (nI 0 = nI 0) && (decide (nI 0 = nI 0) && (!decide ((nI 8) < 0) && (Nat.ble (nI 8).toNatClampNeg 8 && Nat.ble (nI 8).toNatClampNeg 8)))) <|
  mv_bh (cp2 h7 307 o1 o0 (nI 8).toNatClampNeg 0) fun h8 =>
  mv_gd (decide (nI 0 = nI 0) && (decide (nI 0 = nI 0) && (!decide ((nI 8) < 0) && (Nat.ble (nI 8).toNatClampNeg 8 && Nat.ble (nI 8).toNatClampNeg 8)))) <|
  mv_bh (cp2 h8 308 o1 o0 (nI 8).toNatClampNeg 0) fun h9 =>
  mv_bh (wI2 h9 2 o0 9 (rI2 h9 2 o1 9)) fun h10 =>
  mv_bh (wI2 h10 2 o0 10 (rI2 h10 2 o1 10)) fun h11 =>
  mv_bh (wI2 h11 2 o0 11 (rI2 h11 2 o1 11)) fun h12 =>
  some ([], h12)) := rfl
set_option maxRecDepth 100000 in
set_option maxHeartbeats 8000000 in
theorem eM_vatOfToday (o0 : Nat) (h : H2) : mv_blk rI2 rR2 ln2 wI2 wR2 nw2 cp2 bod none tM_vatOfToday gM_vatOfToday 0 0 [] [] (fun _ _ _ _ _ _ => none) 400 tM_vatOfToday [(0, Sum.inr (2, o0))] [] h 0 0 = (
  mv_gd (!decide ((nI 6) = 0)) <|
  mv_gd (mv_inb ((rI2 h 2 o0 10) - (rI2 h 2 o0 10) / (nI 6) * (nI 6)) 6) <|
  some ([Sum.inl (Value.int (rI2 h 303 o0 ((rI2 h 2 o0 10) - (rI2 h 2 o0 10) / (nI 6) * (nI 6)).toNatClampNeg))], h)) := rfl
set_option maxRecDepth 100000 in
set_option maxHeartbeats 8000000 in
theorem eM_takes (o0 : Nat) (v1 : Int32) (v2 : Int32) (h : H2) : mv_blk rI2 rR2 ln2 wI2 wR2 nw2 cp2 bod none tM_takes gM_takes 0 0 [] [] (fun _ _ _ _ _ _ => none) 400 tM_takes [(0, Sum.inr (2, o0)), (1, Sum.inl (Value.int v1)), (2, Sum.inl (Value.int v2))] [] h 0 0 = (
  mv_gd (mv_inb v2 8) <|
  mv_gd (mv_inb (nI 0) 4) <|
  mv_bi ((rI2 h 302 o0 v2.toNatClampNeg) + (rI2 h 300 o0 (nI 0).toNatClampNeg)) fun x1 =>
  mv_gd (mv_inb v1 8) <|
  if (rI2 h 304 o0 v1.toNatClampNeg) = nI 1 then (
    some ([Sum.inl (Value.int (x1 + (nI 3)))], h))
  else
  if (rI2 h 304 o0 v1.toNatClampNeg) = nI 2 then (
    mv_gd (mv_inb (nI 1) 4) <|
    some ([Sum.inl (Value.int (x1 - (rI2 h 300 o0 (nI 1).toNatClampNeg)))], h))
  else
  if (rI2 h 304 o0 v1.toNatClampNeg) = nI 3 then (
    some ([Sum.inl (Value.int ((x1 + (nI 3)) * (nI 2)))], h))
  else
  if (rI2 h 304 o0 v1.toNatClampNeg) = nI 4 then (
    mv_gd (mv_inb (nI 1) 4) <|
    mv_gd (mv_inb (nI 2) 4) <|
    some ([Sum.inl (Value.int ((x1 - (rI2 h 300 o0 (nI 1).toNatClampNeg)) + (rI2 h 300 o0 (nI 2).toNatClampNeg)))], h))
  else
  if (rI2 h 304 o0 v1.toNatClampNeg) = nI 5 then (
    mv_gd (!decide ((nI 2) = 0)) <|
    some ([Sum.inl (Value.int (x1 / (nI 2)))], h))
  else
  some ([Sum.inl (Value.int x1)], h)) := rfl
set_option maxRecDepth 100000 in
set_option maxHeartbeats 8000000 in
theorem eM_fights (o0 : Nat) (v1 : Int32) (v2 : Int32) (h : H2) : mv_blk rI2 rR2 ln2 wI2 wR2 nw2 cp2 bod none tM_fights gM_fights 0 0 [] [] (fun _ _ _ _ _ _ => none) 400 tM_fights [(0, Sum.inr (2, o0)), (1, Sum.inl (Value.int v1)), (2, Sum.inl (Value.int v2))] [] h 0 0 = (
  mv_gd (mv_inb v2 8) <|
  mv_bi (rI2 h 302 o0 v2.toNatClampNeg) fun x1 =>
  mv_gd (mv_inb v1 8) <|
  if (rI2 h 304 o0 v1.toNatClampNeg) = nI 1 then (
    mv_gd (mv_inb (nI 2) 4) <|
    some ([Sum.inl (Value.int (x1 - (rI2 h 300 o0 (nI 2).toNatClampNeg)))], h))
  else
  if (rI2 h 304 o0 v1.toNatClampNeg) = nI 2 then (
    mv_gd (mv_inb (nI 2) 4) <|
    some ([Sum.inl (Value.int (x1 + (rI2 h 300 o0 (nI 2).toNatClampNeg)))], h))
  else
  if (rI2 h 304 o0 v1.toNatClampNeg) = nI 3 then (
    mv_gd (mv_inb (nI 2) 4) <|
    mv_gd (mv_inb (nI 0) 4) <|
    some ([Sum.inl (Value.int ((x1 - (rI2 h 300 o0 (nI 2).toNatClampNeg)) + (rI2 h 300 o0 (nI 0).toNatClampNeg)))], h))
  else
  if (rI2 h 304 o0 v1.toNatClampNeg) = nI 4 then (
    mv_gd (mv_inb (nI 2) 4) <|
    some ([Sum.inl (Value.int ((x1 + (rI2 h 300 o0 (nI 2).toNatClampNeg)) * (nI 2)))], h))
  else
  if (rI2 h 304 o0 v1.toNatClampNeg) = nI 5 then (
    some ([Sum.inl (Value.int (x1 + (nI 1)))], h))
  else
  some ([Sum.inl (Value.int x1)], h)) := rfl
set_option maxRecDepth 100000 in
set_option maxHeartbeats 8000000 in
theorem eM_settle (o0 : Nat) (v1 : Int32) (v2 : Int32) (h : H2) : mv_blk rI2 rR2 ln2 wI2 wR2 nw2 cp2 bod none tM_settle gM_settle 0 0 [] [] (fun _ _ _ _ _ _ => none) 400 tM_settle [(0, Sum.inr (2, o0)), (1, Sum.inl (Value.int v1)), (2, Sum.inl (Value.int v2))] [] h 0 0 = (
  if 0 < v2 then (
    if (nI 99) ≤ v2 then (
      mv_gd (mv_inb v1 8) <|
      mv_bh (wI2 h 306 o0 v1.toNatClampNeg (nI 99)) fun h1 =>
      some ([], h1))
    else
    mv_gd (mv_inb v1 8) <|
    mv_bh (wI2 h 306 o0 v1.toNatClampNeg v2) fun h2 =>
    some ([], h2))
  else
  mv_gd (mv_inb v1 8) <|
  mv_bh (wI2 h 306 o0 v1.toNatClampNeg (nI 0)) fun h3 =>
  mv_gd (mv_inb v1 8) <|
  mv_bh (wI2 h3 305 o0 v1.toNatClampNeg (-(nI 1))) fun h4 =>
  some ([], h4)) := rfl
set_option maxRecDepth 100000 in
set_option maxHeartbeats 8000000 in
theorem eM_dipInto_b84 (o0 : Nat) (v1 : Int32) (v2 : Int32) (v4 : Int32) (h : H2) : mv_blk rI2 rR2 ln2 wI2 wR2 nw2 cp2 bod none tM_dipInto gM_dipInto 0 0 [] [] (fun _ _ _ _ _ _ => none) 400 (mv_seek 84 tM_dipInto) [(0, Sum.inr (2, o0)), (1, Sum.inl (Value.int v1)), (2, Sum.inl (Value.int v2)), (4, Sum.inl (Value.int v4))] [] h 0 0 = (
  mv_rV (fM_settle o0 v1 v4 h) fun h1 =>
  mv_gd (mv_inb v1 8) <|
  if (nI 9999) ≤ (rI2 h1 308 o0 v1.toNatClampNeg) then (
    mv_gd (mv_inb v2 8) <|
    if (rI2 h1 302 o0 v2.toNatClampNeg) ≤ 0 then (
      some ([], h1))
    else
    mv_gd (mv_inb v2 8) <|
    mv_gd (mv_inb v2 8) <|
    mv_bh (wI2 h1 302 o0 v2.toNatClampNeg ((rI2 h1 302 o0 v2.toNatClampNeg) - (nI 1))) fun h2 =>
    some ([], h2))
  else
  mv_gd (mv_inb v1 8) <|
  mv_gd (mv_inb v1 8) <|
  mv_bh (wI2 h1 308 o0 v1.toNatClampNeg ((rI2 h1 308 o0 v1.toNatClampNeg) + (nI 1))) fun h3 =>
  mv_gd (mv_inb v2 8) <|
  if (rI2 h3 302 o0 v2.toNatClampNeg) ≤ 0 then (
    some ([], h3))
  else
  mv_gd (mv_inb v2 8) <|
  mv_gd (mv_inb v2 8) <|
  mv_bh (wI2 h3 302 o0 v2.toNatClampNeg ((rI2 h3 302 o0 v2.toNatClampNeg) - (nI 1))) fun h4 =>
  some ([], h4)) := rfl
set_option maxRecDepth 100000 in
set_option maxHeartbeats 8000000 in
theorem eM_dipInto_b27 (q84 : Nat → Int32 → Int32 → Int32 → H2 → O2) (o0 : Nat) (v1 : Int32) (v2 : Int32) (v3 : Int32) (h : H2) : mv_blk rI2 rR2 ln2 wI2 wR2 nw2 cp2 bod none tM_dipInto gM_dipInto 0 0 [] [84] (fun pc lv st h ce sl => mv_gd (Nat.beq ce 0 && Nat.beq sl 0) (cond (Nat.beq pc 84) (mv_gR 0 2 lv fun o0 => mv_gI 1 lv fun v1 => mv_gI 2 lv fun v2 => mv_gI 4 lv fun v4 => mv_sE st (q84 o0 v1 v2 v4 h)) (none))) 400 (mv_seek 27 tM_dipInto) [(0, Sum.inr (2, o0)), (1, Sum.inl (Value.int v1)), (2, Sum.inl (Value.int v2)), (3, Sum.inl (Value.int v3))] [] h 0 0 = (
  mv_gd (mv_inb v1 8) <|
  mv_bh (wI2 h 305 o0 v1.toNatClampNeg v3) fun h1 =>
  mv_gd (mv_inb v1 8) <|
  mv_rI (fM_takes o0 v1 v2 h1) fun r3 h2 =>
  mv_bi ((rI2 h1 306 o0 v1.toNatClampNeg) + r3) fun x4 =>
  q84 o0 v1 v2 x4 h2) := rfl
set_option maxRecDepth 100000 in
set_option maxHeartbeats 8000000 in
theorem eM_dipInto (q27 : Nat → Int32 → Int32 → Int32 → H2 → O2) (q84 : Nat → Int32 → Int32 → Int32 → H2 → O2) (o0 : Nat) (v1 : Int32) (v2 : Int32) (h : H2) : mv_blk rI2 rR2 ln2 wI2 wR2 nw2 cp2 bod none tM_dipInto gM_dipInto 0 0 [] [27, 84] (fun pc lv st h ce sl => mv_gd (Nat.beq ce 0 && Nat.beq sl 0) (cond (Nat.beq pc 27) (mv_gR 0 2 lv fun o0 => mv_gI 1 lv fun v1 => mv_gI 2 lv fun v2 => mv_gI 3 lv fun v3 => mv_sE st (q27 o0 v1 v2 v3 h)) (cond (Nat.beq pc 84) (mv_gR 0 2 lv fun o0 => mv_gI 1 lv fun v1 => mv_gI 2 lv fun v2 => mv_gI 4 lv fun v4 => mv_sE st (q84 o0 v1 v2 v4 h)) (none)))) 400 tM_dipInto [(0, Sum.inr (2, o0)), (1, Sum.inl (Value.int v1)), (2, Sum.inl (Value.int v2))] [] h 0 0 = (
  mv_gd (mv_inb v2 8) <|
  mv_bi (rI2 h 301 o0 v2.toNatClampNeg) fun x1 =>
  mv_gd (mv_inb v1 8) <|
  if (rI2 h 305 o0 v1.toNatClampNeg) = (-(nI 1)) then (
    q27 o0 v1 v2 x1 h)
  else
  mv_gd (mv_inb v1 8) <|
  if (rI2 h 305 o0 v1.toNatClampNeg) = x1 then (
    q27 o0 v1 v2 x1 h)
  else
  mv_gd (mv_inb v1 8) <|
  mv_rI (fM_fights o0 v1 v2 h) fun r3 h2 =>
  mv_bi ((rI2 h 306 o0 v1.toNatClampNeg) - r3) fun x4 =>
  if 0 ≤ x4 then (
    q84 o0 v1 v2 x4 h2)
  else
  mv_gd (mv_inb v1 8) <|
  mv_bh (wI2 h2 305 o0 v1.toNatClampNeg x1) fun h5 =>
  mv_bi (-x4) fun x6 =>
  q84 o0 v1 v2 x6 h5) := rfl
set_option maxRecDepth 100000 in
set_option maxHeartbeats 8000000 in
theorem eM_fades (o0 : Nat) (v1 : Int32) (h : H2) : mv_blk rI2 rR2 ln2 wI2 wR2 nw2 cp2 bod none tM_fades gM_fades 0 0 [] [] (fun _ _ _ _ _ _ => none) 400 tM_fades [(0, Sum.inr (2, o0)), (1, Sum.inl (Value.int v1))] [] h 0 0 = (
  mv_gd (mv_inb (nI 1) 4) <|
  mv_bi (rI2 h 300 o0 (nI 1).toNatClampNeg) fun x1 =>
  mv_gd (mv_inb v1 8) <|
  if (rI2 h 304 o0 v1.toNatClampNeg) = nI 1 then (
    some ([Sum.inl (Value.int (x1 - (nI 1)))], h))
  else
  if (rI2 h 304 o0 v1.toNatClampNeg) = nI 2 then (
    some ([Sum.inl (Value.int (x1 + (nI 1)))], h))
  else
  if (rI2 h 304 o0 v1.toNatClampNeg) = nI 3 then (
    some ([Sum.inl (Value.int (nI 0))], h))
  else
  if (rI2 h 304 o0 v1.toNatClampNeg) = nI 4 then (
    some ([Sum.inl (Value.int ((x1 + (nI 1)) * (nI 2)))], h))
  else
  if (rI2 h 304 o0 v1.toNatClampNeg) = nI 5 then (
    some ([Sum.inl (Value.int (x1 + (nI 3)))], h))
  else
  some ([Sum.inl (Value.int x1)], h)) := rfl
set_option maxRecDepth 100000 in
set_option maxHeartbeats 8000000 in
theorem eM_deepen (o0 : Nat) (v1 : Int32) (v2 : Int32) (h : H2) : mv_blk rI2 rR2 ln2 wI2 wR2 nw2 cp2 bod none tM_deepen gM_deepen 0 0 [] [] (fun _ _ _ _ _ _ => none) 400 tM_deepen [(0, Sum.inr (2, o0)), (1, Sum.inl (Value.int v1)), (2, Sum.inl (Value.int v2))] [] h 0 0 = (
  mv_gd (mv_inb v1 8) <|
  if (rI2 h 305 o0 v1.toNatClampNeg) = (-(nI 1)) then (
    some ([], h))
  else
  mv_rV (fM_settle o0 v1 v2 h) fun h1 =>
  some ([], h1)) := rfl
set_option maxRecDepth 100000 in
set_option maxHeartbeats 8000000 in
theorem eM_passDay_b86 (q86 : Nat → Int32 → H2 → O2) (o0 : Nat) (v2 : Int32) (h : H2) : mv_blk rI2 rR2 ln2 wI2 wR2 nw2 cp2 bod none tM_passDay gM_passDay 0 0 [] [86] (fun pc lv st h ce sl => mv_gd (Nat.beq ce 0 && Nat.beq sl 0) (cond (Nat.beq pc 86) (mv_gR 0 2 lv fun o0 => mv_gI 2 lv fun v2 => mv_sE st (q86 o0 v2 h)) (none))) 400 (mv_seek 86 tM_passDay) [(0, Sum.inr (2, o0)), (2, Sum.inl (Value.int v2))] [] h 0 0 = (
  if (nI 8) ≤ v2 then (
    mv_bh (wI2 h 2 o0 10 ((rI2 h 2 o0 10) + (nI 1))) fun h1 =>
    some ([], h1))
  else
  mv_gd (mv_inb v2 8) <|
  if (nI 9) ≤ (rI2 h 302 o0 v2.toNatClampNeg) then (
    mv_bi (v2 + (nI 1)) fun x2 =>
    q86 o0 x2 h)
  else
  mv_gd (mv_inb v2 8) <|
  mv_gd (mv_inb v2 8) <|
  mv_bh (wI2 h 302 o0 v2.toNatClampNeg ((rI2 h 302 o0 v2.toNatClampNeg) + (nI 1))) fun h3 =>
  mv_bi (v2 + (nI 1)) fun x4 =>
  q86 o0 x4 h3) := rfl
set_option maxRecDepth 100000 in
set_option maxHeartbeats 8000000 in
theorem eM_passDay_b43 (q43 : Nat → Int32 → H2 → O2) (q86 : Nat → Int32 → H2 → O2) (o0 : Nat) (v2 : Int32) (h : H2) : mv_blk rI2 rR2 ln2 wI2 wR2 nw2 cp2 bod none tM_passDay gM_passDay 0 0 [] [43, 86] (fun pc lv st h ce sl => mv_gd (Nat.beq ce 0 && Nat.beq sl 0) (cond (Nat.beq pc 43) (mv_gR 0 2 lv fun o0 => mv_gI 2 lv fun v2 => mv_sE st (q43 o0 v2 h)) (cond (Nat.beq pc 86) (mv_gR 0 2 lv fun o0 => mv_gI 2 lv fun v2 => mv_sE st (q86 o0 v2 h)) (none)))) 400 (mv_seek 43 tM_passDay) [(0, Sum.inr (2, o0)), (2, Sum.inl (Value.int v2))] [] h 0 0 = (
  if (rI2 h 2 o0 9) ≤ v2 then (
    mv_bi (nI 0) fun x1 =>
    q86 o0 x1 h)
  else
  mv_gd (mv_inb v2 8) <|
  if (rI2 h 307 o0 v2.toNatClampNeg) = (nI 1) then (
    mv_gd (mv_inb v2 8) <|
    mv_rI (fM_fades o0 v2 h) fun r3 h2 =>
    mv_rV (fM_deepen o0 v2 ((rI2 h 306 o0 v2.toNatClampNeg) - r3) h2) fun h4 =>
    mv_bi (v2 + (nI 1)) fun x5 =>
    q43 o0 x5 h4)
  else
  mv_bi (v2 + (nI 1)) fun x6 =>
  q43 o0 x6 h) := rfl
set_option maxRecDepth 100000 in
set_option maxHeartbeats 8000000 in
theorem eM_passDay_b7 (q7 : Nat → Int32 → Int32 → H2 → O2) (q43 : Nat → Int32 → H2 → O2) (o0 : Nat) (v1 : Int32) (v2 : Int32) (h : H2) : mv_blk rI2 rR2 ln2 wI2 wR2 nw2 cp2 bod none tM_passDay gM_passDay 0 0 [] [7, 43] (fun pc lv st h ce sl => mv_gd (Nat.beq ce 0 && Nat.beq sl 0) (cond (Nat.beq pc 7) (mv_gR 0 2 lv fun o0 => mv_gI 1 lv fun v1 => mv_gI 2 lv fun v2 => mv_sE st (q7 o0 v1 v2 h)) (cond (Nat.beq pc 43) (mv_gR 0 2 lv fun o0 => mv_gI 2 lv fun v2 => mv_sE st (q43 o0 v2 h)) (none)))) 400 (mv_seek 7 tM_passDay) [(0, Sum.inr (2, o0)), (1, Sum.inl (Value.int v1)), (2, Sum.inl (Value.int v2))] [] h 0 0 = (
  if (rI2 h 2 o0 9) ≤ v2 then (
    mv_bi (nI 0) fun x1 =>
    q43 o0 x1 h)
  else
  if v1 = (-(nI 1)) then (
    mv_bi (nI 0) fun x2 =>
    q43 o0 x2 h)
  else
  mv_gd (mv_inb v2 8) <|
  if (rI2 h 307 o0 v2.toNatClampNeg) = 0 then (
    mv_rV (fM_dipInto o0 v2 v1 h) fun h3 =>
    mv_bi (v2 + (nI 1)) fun x4 =>
    q7 o0 v1 x4 h3)
  else
  mv_bi (v2 + (nI 1)) fun x5 =>
  q7 o0 v1 x5 h) := rfl
set_option maxRecDepth 100000 in
set_option maxHeartbeats 8000000 in
theorem eM_passDay (q7 : Nat → Int32 → Int32 → H2 → O2) (o0 : Nat) (h : H2) : mv_blk rI2 rR2 ln2 wI2 wR2 nw2 cp2 bod none tM_passDay gM_passDay 0 0 [] [7] (fun pc lv st h ce sl => mv_gd (Nat.beq ce 0 && Nat.beq sl 0) (cond (Nat.beq pc 7) (mv_gR 0 2 lv fun o0 => mv_gI 1 lv fun v1 => mv_gI 2 lv fun v2 => mv_sE st (q7 o0 v1 v2 h)) (none))) 400 tM_passDay [(0, Sum.inr (2, o0))] [] h 0 0 = (
  mv_rI (fM_vatOfToday o0 h) fun r2 h1 =>
  mv_bi r2 fun x3 =>
  mv_bi (nI 0) fun x4 =>
  q7 o0 x3 x4 h1) := rfl
set_option maxRecDepth 100000 in
set_option maxHeartbeats 8000000 in
theorem eM_passDays_b2 (q2 : Nat → Int32 → Int32 → H2 → O2) (o0 : Nat) (v1 : Int32) (v2 : Int32) (h : H2) : mv_blk rI2 rR2 ln2 wI2 wR2 nw2 cp2 bod none tM_passDays gM_passDays 0 0 [] [2] (fun pc lv st h ce sl => mv_gd (Nat.beq ce 0 && Nat.beq sl 0) (cond (Nat.beq pc 2) (mv_gR 0 2 lv fun o0 => mv_gI 1 lv fun v1 => mv_gI 2 lv fun v2 => mv_sE st (q2 o0 v1 v2 h)) (none))) 400 (mv_seek 2 tM_passDays) [(0, Sum.inr (2, o0)), (1, Sum.inl (Value.int v1)), (2, Sum.inl (Value.int v2))] [] h 0 0 = (
  if v1 ≤ v2 then (
    some ([], h))
  else
  mv_rV (fM_passDay o0 h) fun h1 =>
  mv_bi (v2 + (nI 1)) fun x2 =>
  q2 o0 v1 x2 h1) := rfl
set_option maxRecDepth 100000 in
set_option maxHeartbeats 8000000 in
theorem eM_passDays (q2 : Nat → Int32 → Int32 → H2 → O2) (o0 : Nat) (v1 : Int32) (h : H2) : mv_blk rI2 rR2 ln2 wI2 wR2 nw2 cp2 bod none tM_passDays gM_passDays 0 0 [] [2] (fun pc lv st h ce sl => mv_gd (Nat.beq ce 0 && Nat.beq sl 0) (cond (Nat.beq pc 2) (mv_gR 0 2 lv fun o0 => mv_gI 1 lv fun v1 => mv_gI 2 lv fun v2 => mv_sE st (q2 o0 v1 v2 h)) (none))) 400 tM_passDays [(0, Sum.inr (2, o0)), (1, Sum.inl (Value.int v1))] [] h 0 0 = (
  mv_bi (nI 0) fun x1 =>
  q2 o0 v1 x1 h) := rfl
set_option maxRecDepth 100000 in
set_option maxHeartbeats 8000000 in
theorem eM_allDepths_b4 (q4 : Nat → Int32 → Int32 → H2 → O2) (o0 : Nat) (v1 : Int32) (v2 : Int32) (h : H2) : mv_blk rI2 rR2 ln2 wI2 wR2 nw2 cp2 bod none tM_allDepths gM_allDepths 0 0 [] [4] (fun pc lv st h ce sl => mv_gd (Nat.beq ce 0 && Nat.beq sl 0) (cond (Nat.beq pc 4) (mv_gR 0 2 lv fun o0 => mv_gI 1 lv fun v1 => mv_gI 2 lv fun v2 => mv_sE st (q4 o0 v1 v2 h)) (none))) 400 (mv_seek 4 tM_allDepths) [(0, Sum.inr (2, o0)), (1, Sum.inl (Value.int v1)), (2, Sum.inl (Value.int v2))] [] h 0 0 = (
  if (rI2 h 2 o0 9) ≤ v2 then (
    some ([Sum.inl (Value.int v1)], h))
  else
  mv_gd (mv_inb v2 8) <|
  mv_bi (v1 + (rI2 h 306 o0 v2.toNatClampNeg)) fun x1 =>
  mv_bi (v2 + (nI 1)) fun x2 =>
  q4 o0 x1 x2 h) := rfl
set_option maxRecDepth 100000 in
set_option maxHeartbeats 8000000 in
theorem eM_allDepths (q4 : Nat → Int32 → Int32 → H2 → O2) (o0 : Nat) (h : H2) : mv_blk rI2 rR2 ln2 wI2 wR2 nw2 cp2 bod none tM_allDepths gM_allDepths 0 0 [] [4] (fun pc lv st h ce sl => mv_gd (Nat.beq ce 0 && Nat.beq sl 0) (cond (Nat.beq pc 4) (mv_gR 0 2 lv fun o0 => mv_gI 1 lv fun v1 => mv_gI 2 lv fun v2 => mv_sE st (q4 o0 v1 v2 h)) (none))) 400 tM_allDepths [(0, Sum.inr (2, o0))] [] h 0 0 = (
  mv_bi (nI 0) fun x1 =>
  mv_bi (nI 0) fun x2 =>
  q4 o0 x1 x2 h) := rfl
set_option maxRecDepth 100000 in
set_option maxHeartbeats 8000000 in
theorem eM_draw (o0 : Nat) (h : H2) : mv_blk rI2 rR2 ln2 wI2 wR2 nw2 cp2 bod none tM_draw gM_draw 0 0 [] [] (fun _ _ _ _ _ _ => none) 400 tM_draw [(0, Sum.inr (2, o0))] [] h 0 0 = (
  mv_bh (wI2 h 2 o0 11 (((rI2 h 2 o0 11) * (nI 1103515245)) + (nI 12345))) fun h1 =>
  some ([Sum.inl (Value.int (((rI2 h1 2 o0 11).toUInt32 >>> ((nI 16).toUInt32 &&& Int32.toUInt32 31)).toInt32))], h1)) := rfl
set_option maxRecDepth 100000 in
set_option maxHeartbeats 8000000 in
theorem eM_passDrawnDay (o0 : Nat) (h : H2) : mv_blk rI2 rR2 ln2 wI2 wR2 nw2 cp2 bod none tM_passDrawnDay gM_passDrawnDay 0 0 [] [] (fun _ _ _ _ _ _ => none) 400 tM_passDrawnDay [(0, Sum.inr (2, o0))] [] h 0 0 = (
  if (rI2 h 2 o0 9) ≤ 0 then (
    mv_rV (fM_passDay o0 h) fun h1 =>
    some ([], h1))
  else
  mv_rI (fM_draw o0 h) fun r3 h2 =>
  mv_gd (!decide ((rI2 h2 2 o0 9) = 0)) <|
  mv_bi (r3 - r3 / (rI2 h2 2 o0 9) * (rI2 h2 2 o0 9)) fun x4 =>
  mv_rI (fM_draw o0 h2) fun r6 h5 =>
  mv_gd (!decide ((nI 100) = 0)) <|
  mv_gd (mv_inb (nI 3) 4) <|
  if (rI2 h5 300 o0 (nI 3).toNatClampNeg) ≤ (r6 - r6 / (nI 100) * (nI 100)) then (
    mv_rV (fM_passDay o0 h5) fun h7 =>
    some ([], h7))
  else
  mv_rI (fM_draw o0 h5) fun r9 h8 =>
  mv_gd (!decide ((nI 8) = 0)) <|
  mv_rV (fM_dipInto o0 x4 (r9 - r9 / (nI 8) * (nI 8)) h8) fun h10 =>
  mv_rV (fM_passDay o0 h10) fun h11 =>
  some ([], h11)) := rfl
set_option maxRecDepth 100000 in
set_option maxHeartbeats 8000000 in
theorem eM_becomeFirst_b59 (q59 : Nat → Int32 → H2 → O2) (o0 : Nat) (v1 : Int32) (h : H2) : mv_blk rI2 rR2 ln2 wI2 wR2 nw2 cp2 bod none tM_becomeFirst gM_becomeFirst 0 0 [] [59] (fun pc lv st h ce sl => mv_gd (Nat.beq ce 0 && Nat.beq sl 0) (cond (Nat.beq pc 59) (mv_gR 0 2 lv fun o0 => mv_gI 1 lv fun v1 => mv_sE st (q59 o0 v1 h)) (none))) 400 (mv_seek 59 tM_becomeFirst) [(0, Sum.inr (2, o0)), (1, Sum.inl (Value.int v1))] [] h 0 0 = (
  if (nI 6) ≤ v1 then (
    mv_bh (wI2 h 2 o0 9 (nI 0)) fun h1 =>
    mv_bh (wI2 h1 2 o0 10 (nI 0)) fun h2 =>
    some ([], h2))
  else
  mv_gd (mv_inb v1 6) <|
  mv_bh (wI2 h 303 o0 v1.toNatClampNeg v1) fun h3 =>
  mv_bi (v1 + (nI 1)) fun x4 =>
  q59 o0 x4 h3) := rfl
set_option maxRecDepth 100000 in
set_option maxHeartbeats 8000000 in
theorem eM_becomeFirst_b31 (q31 : Nat → Int32 → H2 → O2) (q59 : Nat → Int32 → H2 → O2) (o0 : Nat) (v1 : Int32) (h : H2) : mv_blk rI2 rR2 ln2 wI2 wR2 nw2 cp2 bod none tM_becomeFirst gM_becomeFirst 0 0 [] [31, 59] (fun pc lv st h ce sl => mv_gd (Nat.beq ce 0 && Nat.beq sl 0) (cond (Nat.beq pc 31) (mv_gR 0 2 lv fun o0 => mv_gI 1 lv fun v1 => mv_sE st (q31 o0 v1 h)) (cond (Nat.beq pc 59) (mv_gR 0 2 lv fun o0 => mv_gI 1 lv fun v1 => mv_sE st (q59 o0 v1 h)) (none)))) 400 (mv_seek 31 tM_becomeFirst) [(0, Sum.inr (2, o0)), (1, Sum.inl (Value.int v1))] [] h 0 0 = (
  if (nI 8) ≤ v1 then (
    mv_bi (nI 0) fun x1 =>
    q59 o0 x1 h)
  else
  mv_gd (mv_inb v1 8) <|
  mv_bh (wI2 h 301 o0 v1.toNatClampNeg v1) fun h2 =>
  mv_gd (mv_inb v1 8) <|
  mv_bh (wI2 h2 302 o0 v1.toNatClampNeg (nI 5)) fun h3 =>
  mv_bi (v1 + (nI 1)) fun x4 =>
  q31 o0 x4 h3) := rfl
set_option maxRecDepth 100000 in
set_option maxHeartbeats 8000000 in
theorem eM_becomeFirst (q31 : Nat → Int32 → H2 → O2) (o0 : Nat) (h : H2) : mv_blk rI2 rR2 ln2 wI2 wR2 nw2 cp2 bod none tM_becomeFirst gM_becomeFirst 0 0 [] [31] (fun pc lv st h ce sl => mv_gd (Nat.beq ce 0 && Nat.beq sl 0) (cond (Nat.beq pc 31) (mv_gR 0 2 lv fun o0 => mv_gI 1 lv fun v1 => mv_sE st (q31 o0 v1 h)) (none))) 400 tM_becomeFirst [(0, Sum.inr (2, o0))] [] h 0 0 = (
  mv_gd (mv_inb (nI 0) 4) <|
  mv_bh (wI2 h 300 o0 (nI 0).toNatClampNeg (nI 3)) fun h1 =>
  mv_gd (mv_inb (nI 1) 4) <|
  mv_bh (wI2 h1 300 o0 (nI 1).toNatClampNeg (nI 2)) fun h2 =>
  mv_gd (mv_inb (nI 2) 4) <|
  mv_bh (wI2 h2 300 o0 (nI 2).toNatClampNeg (nI 4)) fun h3 =>
  mv_gd (mv_inb (nI 3) 4) <|
  mv_bh (wI2 h3 300 o0 (nI 3).toNatClampNeg (nI 20)) fun h4 =>
  mv_bi (nI 0) fun x5 =>
  q31 o0 x5 h4) := rfl
set_option maxRecDepth 100000 in
set_option maxHeartbeats 8000000 in
theorem eM_has (o0 : Nat) (v1 : Int32) (h : H2) : mv_blk rI2 rR2 ln2 wI2 wR2 nw2 cp2 bod none tM_has gM_has 0 0 [] [] (fun _ _ _ _ _ _ => none) 400 tM_has [(0, Sum.inr (2, o0)), (1, Sum.inl (Value.int v1))] [] h 0 0 = (
  mv_rI (fV_isIn v1 (nI 0) ((rI2 h 2 o0 9) - (nI 1)) h) fun r2 h1 =>
  mv_gd (decide (r2 = nI 0) || decide (r2 = nI 1)) <| some ([Sum.inl (Value.int r2)], h1)) := rfl
set_option maxRecDepth 100000 in
set_option maxHeartbeats 8000000 in
theorem eM_addCloth (o0 : Nat) (v1 : Int32) (h : H2) : mv_blk rI2 rR2 ln2 wI2 wR2 nw2 cp2 bod none tM_addCloth gM_addCloth 0 0 [] [] (fun _ _ _ _ _ _ => none) 400 tM_addCloth [(0, Sum.inr (2, o0)), (1, Sum.inl (Value.int v1))] [] h 0 0 = (
  mv_bi (rI2 h 2 o0 9) fun x1 =>
  mv_gd (mv_inb x1 8) <|
  mv_bh (wI2 h 304 o0 x1.toNatClampNeg v1) fun h2 =>
  mv_gd (mv_inb x1 8) <|
  mv_bh (wI2 h2 305 o0 x1.toNatClampNeg (-(nI 1))) fun h3 =>
  mv_gd (mv_inb x1 8) <|
  mv_bh (wI2 h3 306 o0 x1.toNatClampNeg (nI 0)) fun h4 =>
  mv_gd (mv_inb x1 8) <|
  mv_bh (wI2 h4 307 o0 x1.toNatClampNeg (nI 0)) fun h5 =>
  mv_gd (mv_inb x1 8) <|
  mv_bh (wI2 h5 308 o0 x1.toNatClampNeg (nI 0)) fun h6 =>
  mv_bh (wI2 h6 2 o0 9 ((rI2 h6 2 o0 9) + (nI 1))) fun h7 =>
  some ([Sum.inl (Value.int x1)], h7)) := rfl
set_option maxRecDepth 100000 in
set_option maxHeartbeats 8000000 in
theorem eM_hungSet_b4 (q4 : Nat → Int32 → Int32 → H2 → O2) (o0 : Nat) (v1 : Int32) (v2 : Int32) (h : H2) : mv_blk rI2 rR2 ln2 wI2 wR2 nw2 cp2 bod none tM_hungSet gM_hungSet 0 0 [] [4] (fun pc lv st h ce sl => mv_gd (Nat.beq ce 0 && Nat.beq sl 0) (cond (Nat.beq pc 4) (mv_gR 0 2 lv fun o0 => mv_gI 1 lv fun v1 => mv_gI 2 lv fun v2 => mv_sE st (q4 o0 v1 v2 h)) (none))) 400 (mv_seek 4 tM_hungSet) [(0, Sum.inr (2, o0)), (1, Sum.inl (Value.int v1)), (2, Sum.inl (Value.int v2))] [] h 0 0 = (
  if (rI2 h 2 o0 9) ≤ v2 then (
    some ([Sum.inl (Value.int v1)], h))
  else
  mv_gd (mv_inb v2 8) <|
  if (rI2 h 307 o0 v2.toNatClampNeg) = (nI 1) then (
    mv_bi (v1 ||| ((nI 1) <<< (v2 &&& 31))) fun x1 =>
    mv_bi (v2 + (nI 1)) fun x2 =>
    q4 o0 x1 x2 h)
  else
  mv_bi (v2 + (nI 1)) fun x3 =>
  q4 o0 v1 x3 h) := rfl
set_option maxRecDepth 100000 in
set_option maxHeartbeats 8000000 in
theorem eM_hungSet (q4 : Nat → Int32 → Int32 → H2 → O2) (o0 : Nat) (h : H2) : mv_blk rI2 rR2 ln2 wI2 wR2 nw2 cp2 bod none tM_hungSet gM_hungSet 0 0 [] [4] (fun pc lv st h ce sl => mv_gd (Nat.beq ce 0 && Nat.beq sl 0) (cond (Nat.beq pc 4) (mv_gR 0 2 lv fun o0 => mv_gI 1 lv fun v1 => mv_gI 2 lv fun v2 => mv_sE st (q4 o0 v1 v2 h)) (none))) 400 tM_hungSet [(0, Sum.inr (2, o0))] [] h 0 0 = (
  mv_bi (nI 0) fun x1 =>
  mv_bi (nI 0) fun x2 =>
  q4 o0 x1 x2 h) := rfl
set_option maxRecDepth 100000 in
set_option maxHeartbeats 8000000 in
theorem eM_aboutSet_b4 (q4 : Nat → Int32 → Int32 → H2 → O2) (o0 : Nat) (v1 : Int32) (v2 : Int32) (h : H2) : mv_blk rI2 rR2 ln2 wI2 wR2 nw2 cp2 bod none tM_aboutSet gM_aboutSet 0 0 [] [4] (fun pc lv st h ce sl => mv_gd (Nat.beq ce 0 && Nat.beq sl 0) (cond (Nat.beq pc 4) (mv_gR 0 2 lv fun o0 => mv_gI 1 lv fun v1 => mv_gI 2 lv fun v2 => mv_sE st (q4 o0 v1 v2 h)) (none))) 400 (mv_seek 4 tM_aboutSet) [(0, Sum.inr (2, o0)), (1, Sum.inl (Value.int v1)), (2, Sum.inl (Value.int v2))] [] h 0 0 = (
  if (rI2 h 2 o0 9) ≤ v2 then (
    some ([Sum.inl (Value.int v1)], h))
  else
  mv_gd (mv_inb v2 8) <|
  if (rI2 h 305 o0 v2.toNatClampNeg) = (-(nI 1)) then (
    mv_bi (v2 + (nI 1)) fun x1 =>
    q4 o0 v1 x1 h)
  else
  mv_bi (v1 ||| ((nI 1) <<< (v2 &&& 31))) fun x2 =>
  mv_bi (v2 + (nI 1)) fun x3 =>
  q4 o0 x2 x3 h) := rfl
set_option maxRecDepth 100000 in
set_option maxHeartbeats 8000000 in
theorem eM_aboutSet (q4 : Nat → Int32 → Int32 → H2 → O2) (o0 : Nat) (h : H2) : mv_blk rI2 rR2 ln2 wI2 wR2 nw2 cp2 bod none tM_aboutSet gM_aboutSet 0 0 [] [4] (fun pc lv st h ce sl => mv_gd (Nat.beq ce 0 && Nat.beq sl 0) (cond (Nat.beq pc 4) (mv_gR 0 2 lv fun o0 => mv_gI 1 lv fun v1 => mv_gI 2 lv fun v2 => mv_sE st (q4 o0 v1 v2 h)) (none))) 400 tM_aboutSet [(0, Sum.inr (2, o0))] [] h 0 0 = (
  mv_bi (nI 0) fun x1 =>
  mv_bi (nI 0) fun x2 =>
  q4 o0 x1 x2 h) := rfl
set_option maxRecDepth 100000 in
set_option maxHeartbeats 8000000 in
theorem eM_purposeSet_b4 (q4 : Nat → Int32 → Int32 → H2 → O2) (o0 : Nat) (v1 : Int32) (v2 : Int32) (h : H2) : mv_blk rI2 rR2 ln2 wI2 wR2 nw2 cp2 bod none tM_purposeSet gM_purposeSet 0 0 [] [4] (fun pc lv st h ce sl => mv_gd (Nat.beq ce 0 && Nat.beq sl 0) (cond (Nat.beq pc 4) (mv_gR 0 2 lv fun o0 => mv_gI 1 lv fun v1 => mv_gI 2 lv fun v2 => mv_sE st (q4 o0 v1 v2 h)) (none))) 400 (mv_seek 4 tM_purposeSet) [(0, Sum.inr (2, o0)), (1, Sum.inl (Value.int v1)), (2, Sum.inl (Value.int v2))] [] h 0 0 = (
  if (rI2 h 2 o0 9) ≤ v2 then (
    some ([Sum.inl (Value.int v1)], h))
  else
  mv_gd (mv_inb v2 8) <|
  if (rI2 h 305 o0 v2.toNatClampNeg) = (-(nI 1)) then (
    mv_bi (v2 + (nI 1)) fun x1 =>
    q4 o0 v1 x1 h)
  else
  mv_gd (mv_inb v2 8) <|
  mv_bi (v1 ||| ((nI 1) <<< ((rI2 h 305 o0 v2.toNatClampNeg) &&& 31))) fun x2 =>
  mv_bi (v2 + (nI 1)) fun x3 =>
  q4 o0 x2 x3 h) := rfl
set_option maxRecDepth 100000 in
set_option maxHeartbeats 8000000 in
theorem eM_purposeSet (q4 : Nat → Int32 → Int32 → H2 → O2) (o0 : Nat) (h : H2) : mv_blk rI2 rR2 ln2 wI2 wR2 nw2 cp2 bod none tM_purposeSet gM_purposeSet 0 0 [] [4] (fun pc lv st h ce sl => mv_gd (Nat.beq ce 0 && Nat.beq sl 0) (cond (Nat.beq pc 4) (mv_gR 0 2 lv fun o0 => mv_gI 1 lv fun v1 => mv_gI 2 lv fun v2 => mv_sE st (q4 o0 v1 v2 h)) (none))) 400 tM_purposeSet [(0, Sum.inr (2, o0))] [] h 0 0 = (
  mv_bi (nI 0) fun x1 =>
  mv_bi (nI 0) fun x2 =>
  q4 o0 x1 x2 h) := rfl
set_option maxRecDepth 100000 in
set_option maxHeartbeats 8000000 in
theorem eM_isForOdds (o0 : Nat) (v1 : Int32) (h : H2) : mv_blk rI2 rR2 ln2 wI2 wR2 nw2 cp2 bod none tM_isForOdds gM_isForOdds 0 0 [] [] (fun _ _ _ _ _ _ => none) 400 tM_isForOdds [(0, Sum.inr (2, o0)), (1, Sum.inl (Value.int v1))] [] h 0 0 = (
  mv_gd (mv_inb v1 8) <|
  if (rI2 h 307 o0 v1.toNatClampNeg) = 0 then (
    mv_gd (mv_inb v1 8) <|
    if (rI2 h 305 o0 v1.toNatClampNeg) = (-(nI 1)) then (
      mv_gd (decide (nI 0 = nI 0) || decide (nI 0 = nI 1)) <| some ([Sum.inl (Value.int (nI 0))], h))
    else
    mv_gd (decide (nI 1 = nI 0) || decide (nI 1 = nI 1)) <| some ([Sum.inl (Value.int (nI 1))], h))
  else
  mv_gd (decide (nI 0 = nI 0) || decide (nI 0 = nI 1)) <| some ([Sum.inl (Value.int (nI 0))], h)) := rfl
set_option maxRecDepth 100000 in
set_option maxHeartbeats 8000000 in
theorem eM_oddPairs_b16 (q4 : Nat → Int32 → Int32 → H2 → O2) (q16 : Nat → Int32 → Int32 → Int32 → H2 → O2) (o0 : Nat) (v1 : Int32) (v2 : Int32) (v3 : Int32) (h : H2) : mv_blk rI2 rR2 ln2 wI2 wR2 nw2 cp2 bod none tM_oddPairs gM_oddPairs 0 0 [] [4, 16] (fun pc lv st h ce sl => mv_gd (Nat.beq ce 0 && Nat.beq sl 0) (cond (Nat.beq pc 4) (mv_gR 0 2 lv fun o0 => mv_gI 1 lv fun v1 => mv_gI 2 lv fun v2 => mv_sE st (q4 o0 v1 v2 h)) (cond (Nat.beq pc 16) (mv_gR 0 2 lv fun o0 => mv_gI 1 lv fun v1 => mv_gI 2 lv fun v2 => mv_gI 3 lv fun v3 => mv_sE st (q16 o0 v1 v2 v3 h)) (none)))) 400 (mv_seek 16 tM_oddPairs) [(0, Sum.inr (2, o0)), (1, Sum.inl (Value.int v1)), (2, Sum.inl (Value.int v2)), (3, Sum.inl (Value.int v3))] [] h 0 0 = (
  if (rI2 h 2 o0 9) ≤ v3 then (
    mv_bi (v2 + (nI 1)) fun x1 =>
    q4 o0 v1 x1 h)
  else
  mv_gd (mv_inb v2 8) <|
  mv_gd (mv_inb v3 8) <|
  if (rI2 h 305 o0 v2.toNatClampNeg) = (rI2 h 305 o0 v3.toNatClampNeg) then (
    mv_bi (v3 + (nI 1)) fun x2 =>
    q16 o0 v1 v2 x2 h)
  else
  mv_rI (fM_isForOdds o0 v2 h) fun r4 h3 =>
  if r4 = 0 then (
    mv_bi (v3 + (nI 1)) fun x5 =>
    q16 o0 v1 v2 x5 h3)
  else
  mv_rI (fM_isForOdds o0 v3 h3) fun r7 h6 =>
  if r7 = 0 then (
    mv_bi (v3 + (nI 1)) fun x8 =>
    q16 o0 v1 v2 x8 h6)
  else
  mv_bi (v1 + (nI 1)) fun x9 =>
  mv_bi (v3 + (nI 1)) fun x10 =>
  q16 o0 x9 v2 x10 h6) := rfl
set_option maxRecDepth 100000 in
set_option maxHeartbeats 8000000 in
theorem eM_oddPairs_b4 (q16 : Nat → Int32 → Int32 → Int32 → H2 → O2) (o0 : Nat) (v1 : Int32) (v2 : Int32) (h : H2) : mv_blk rI2 rR2 ln2 wI2 wR2 nw2 cp2 bod none tM_oddPairs gM_oddPairs 0 0 [] [16] (fun pc lv st h ce sl => mv_gd (Nat.beq ce 0 && Nat.beq sl 0) (cond (Nat.beq pc 16) (mv_gR 0 2 lv fun o0 => mv_gI 1 lv fun v1 => mv_gI 2 lv fun v2 => mv_gI 3 lv fun v3 => mv_sE st (q16 o0 v1 v2 v3 h)) (none))) 400 (mv_seek 4 tM_oddPairs) [(0, Sum.inr (2, o0)), (1, Sum.inl (Value.int v1)), (2, Sum.inl (Value.int v2))] [] h 0 0 = (
  if (rI2 h 2 o0 9) ≤ v2 then (
    some ([Sum.inl (Value.int v1)], h))
  else
  mv_bi (v2 + (nI 1)) fun x1 =>
  q16 o0 v1 v2 x1 h) := rfl
set_option maxRecDepth 100000 in
set_option maxHeartbeats 8000000 in
theorem eM_oddPairs (q4 : Nat → Int32 → Int32 → H2 → O2) (o0 : Nat) (h : H2) : mv_blk rI2 rR2 ln2 wI2 wR2 nw2 cp2 bod none tM_oddPairs gM_oddPairs 0 0 [] [4] (fun pc lv st h ce sl => mv_gd (Nat.beq ce 0 && Nat.beq sl 0) (cond (Nat.beq pc 4) (mv_gR 0 2 lv fun o0 => mv_gI 1 lv fun v1 => mv_gI 2 lv fun v2 => mv_sE st (q4 o0 v1 v2 h)) (none))) 400 tM_oddPairs [(0, Sum.inr (2, o0))] [] h 0 0 = (
  mv_bi (nI 0) fun x1 =>
  mv_bi (nI 0) fun x2 =>
  q4 o0 x1 x2 h) := rfl
end
