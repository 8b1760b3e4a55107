-- ===== PART A: goes FIRST, ahead of the names: the tables' words, and 'selects' of the private methods out of them =====
/-- a private method of a class that the tables say can be made, by its rows of tables_1 -/
def lw_okq (q : MethodName × Nat) : Prop := (q.1.cls ≠ "java/lang/invoke/MethodHandle" ∧ q.1.cls ≠ "java/lang/invoke/VarHandle") ∧ Cond.instantiable q.1.cls q.2 ∈ tables_1 ∧ Cond.privateMethod q.1 ∈ tables_1 ∧ Cond.instanceMethod q.1 ∈ tables_1
theorem lw_p0 : lw_okq (⟨"BreatheAsOne", "putBytes", "(I)V"⟩, 15) := ⟨⟨by decide +kernel, by decide +kernel⟩, List.mem_of_getElem? (i := 23) (by decide +kernel), List.mem_of_getElem? (i := 485) (by decide +kernel), List.mem_of_getElem? (i := 486) (by decide +kernel)⟩
theorem lw_p1 : lw_okq (⟨"BreatheAsOne$Reader", "scan", "([BI)V"⟩, 16) := ⟨⟨by decide +kernel, by decide +kernel⟩, List.mem_of_getElem? (i := 228) (by decide +kernel), List.mem_of_getElem? (i := 504) (by decide +kernel), List.mem_of_getElem? (i := 505) (by decide +kernel)⟩
theorem lw_p2 : lw_okq (⟨"BreatheAsOne$Reader", "goTo", "(I)V"⟩, 16) := ⟨⟨by decide +kernel, by decide +kernel⟩, List.mem_of_getElem? (i := 228) (by decide +kernel), List.mem_of_getElem? (i := 633) (by decide +kernel), List.mem_of_getElem? (i := 634) (by decide +kernel)⟩
theorem lw_p3 : lw_okq (⟨"BreatheAsOne$Reader", "readClause", "()Z"⟩, 16) := ⟨⟨by decide +kernel, by decide +kernel⟩, List.mem_of_getElem? (i := 228) (by decide +kernel), List.mem_of_getElem? (i := 637) (by decide +kernel), List.mem_of_getElem? (i := 638) (by decide +kernel)⟩
theorem lw_p4 : lw_okq (⟨"BreatheAsOne$Reader", "formOf", "(I)I"⟩, 16) := ⟨⟨by decide +kernel, by decide +kernel⟩, List.mem_of_getElem? (i := 228) (by decide +kernel), List.mem_of_getElem? (i := 641) (by decide +kernel), List.mem_of_getElem? (i := 642) (by decide +kernel)⟩
theorem lw_p5 : lw_okq (⟨"BreatheAsOne$Reader", "refuse", "(I)Z"⟩, 16) := ⟨⟨by decide +kernel, by decide +kernel⟩, List.mem_of_getElem? (i := 228) (by decide +kernel), List.mem_of_getElem? (i := 647) (by decide +kernel), List.mem_of_getElem? (i := 648) (by decide +kernel)⟩
theorem lw_p6 : lw_okq (⟨"BreatheAsOne$Reader", "lawOf", "(I)[I"⟩, 16) := ⟨⟨by decide +kernel, by decide +kernel⟩, List.mem_of_getElem? (i := 228) (by decide +kernel), List.mem_of_getElem? (i := 651) (by decide +kernel), List.mem_of_getElem? (i := 652) (by decide +kernel)⟩
theorem lw_p7 : lw_okq (⟨"BreatheAsOne$Reader", "readNumbers", "(I)Z"⟩, 16) := ⟨⟨by decide +kernel, by decide +kernel⟩, List.mem_of_getElem? (i := 228) (by decide +kernel), List.mem_of_getElem? (i := 655) (by decide +kernel), List.mem_of_getElem? (i := 656) (by decide +kernel)⟩
theorem lw_p8 : lw_okq (⟨"BreatheAsOne$Reader", "expect", "(I)Z"⟩, 16) := ⟨⟨by decide +kernel, by decide +kernel⟩, List.mem_of_getElem? (i := 228) (by decide +kernel), List.mem_of_getElem? (i := 659) (by decide +kernel), List.mem_of_getElem? (i := 660) (by decide +kernel)⟩
theorem lw_p9 : lw_okq (⟨"BreatheAsOne$Reader", "next", "()Z"⟩, 16) := ⟨⟨by decide +kernel, by decide +kernel⟩, List.mem_of_getElem? (i := 228) (by decide +kernel), List.mem_of_getElem? (i := 663) (by decide +kernel), List.mem_of_getElem? (i := 664) (by decide +kernel)⟩
theorem lw_p10 : lw_okq (⟨"BreatheAsOne$Reader", "readEither", "()Z"⟩, 16) := ⟨⟨by decide +kernel, by decide +kernel⟩, List.mem_of_getElem? (i := 228) (by decide +kernel), List.mem_of_getElem? (i := 667) (by decide +kernel), List.mem_of_getElem? (i := 668) (by decide +kernel)⟩
theorem lw_p11 : lw_okq (⟨"BreatheAsOne$Reader", "readAsk", "(I)Z"⟩, 16) := ⟨⟨by decide +kernel, by decide +kernel⟩, List.mem_of_getElem? (i := 228) (by decide +kernel), List.mem_of_getElem? (i := 671) (by decide +kernel), List.mem_of_getElem? (i := 672) (by decide +kernel)⟩
theorem lw_p12 : lw_okq (⟨"BreatheAsOne$Reader", "emit", "(I)Z"⟩, 16) := ⟨⟨by decide +kernel, by decide +kernel⟩, List.mem_of_getElem? (i := 228) (by decide +kernel), List.mem_of_getElem? (i := 675) (by decide +kernel), List.mem_of_getElem? (i := 676) (by decide +kernel)⟩
theorem lw_p13 : lw_okq (⟨"BreatheAsOne$Reader", "readSum", "(I)Z"⟩, 16) := ⟨⟨by decide +kernel, by decide +kernel⟩, List.mem_of_getElem? (i := 228) (by decide +kernel), List.mem_of_getElem? (i := 679) (by decide +kernel), List.mem_of_getElem? (i := 680) (by decide +kernel)⟩
theorem lw_p14 : lw_okq (⟨"BreatheAsOne$Reader", "readProduct", "(I)Z"⟩, 16) := ⟨⟨by decide +kernel, by decide +kernel⟩, List.mem_of_getElem? (i := 228) (by decide +kernel), List.mem_of_getElem? (i := 683) (by decide +kernel), List.mem_of_getElem? (i := 684) (by decide +kernel)⟩
theorem lw_p15 : lw_okq (⟨"BreatheAsOne$Reader", "readOne", "(I)Z"⟩, 16) := ⟨⟨by decide +kernel, by decide +kernel⟩, List.mem_of_getElem? (i := 228) (by decide +kernel), List.mem_of_getElem? (i := 687) (by decide +kernel), List.mem_of_getElem? (i := 688) (by decide +kernel)⟩
def lw_privs_1 : List (MethodName × Nat) := [(⟨"BreatheAsOne", "putBytes", "(I)V"⟩, 15), (⟨"BreatheAsOne$Reader", "scan", "([BI)V"⟩, 16), (⟨"BreatheAsOne$Reader", "goTo", "(I)V"⟩, 16), (⟨"BreatheAsOne$Reader", "readClause", "()Z"⟩, 16), (⟨"BreatheAsOne$Reader", "formOf", "(I)I"⟩, 16), (⟨"BreatheAsOne$Reader", "refuse", "(I)Z"⟩, 16), (⟨"BreatheAsOne$Reader", "lawOf", "(I)[I"⟩, 16), (⟨"BreatheAsOne$Reader", "readNumbers", "(I)Z"⟩, 16), (⟨"BreatheAsOne$Reader", "expect", "(I)Z"⟩, 16), (⟨"BreatheAsOne$Reader", "next", "()Z"⟩, 16), (⟨"BreatheAsOne$Reader", "readEither", "()Z"⟩, 16), (⟨"BreatheAsOne$Reader", "readAsk", "(I)Z"⟩, 16), (⟨"BreatheAsOne$Reader", "emit", "(I)Z"⟩, 16), (⟨"BreatheAsOne$Reader", "readSum", "(I)Z"⟩, 16), (⟨"BreatheAsOne$Reader", "readProduct", "(I)Z"⟩, 16), (⟨"BreatheAsOne$Reader", "readOne", "(I)Z"⟩, 16)]
theorem lw_r1 : ∀ q ∈ lw_privs_1, lw_okq q := List.forall_mem_cons.mpr ⟨lw_p0, List.forall_mem_cons.mpr ⟨lw_p1, List.forall_mem_cons.mpr ⟨lw_p2, List.forall_mem_cons.mpr ⟨lw_p3, List.forall_mem_cons.mpr ⟨lw_p4, List.forall_mem_cons.mpr ⟨lw_p5, List.forall_mem_cons.mpr ⟨lw_p6, List.forall_mem_cons.mpr ⟨lw_p7, List.forall_mem_cons.mpr ⟨lw_p8, List.forall_mem_cons.mpr ⟨lw_p9, List.forall_mem_cons.mpr ⟨lw_p10, List.forall_mem_cons.mpr ⟨lw_p11, List.forall_mem_cons.mpr ⟨lw_p12, List.forall_mem_cons.mpr ⟨lw_p13, List.forall_mem_cons.mpr ⟨lw_p14, List.forall_mem_cons.mpr ⟨lw_p15, fun _ h => absurd h List.not_mem_nil⟩⟩⟩⟩⟩⟩⟩⟩⟩⟩⟩⟩⟩⟩⟩⟩
theorem lw_p16 : lw_okq (⟨"BreatheAsOne$Reader", "isNameOfLaw", "(I)Z"⟩, 16) := ⟨⟨by decide +kernel, by decide +kernel⟩, List.mem_of_getElem? (i := 228) (by decide +kernel), List.mem_of_getElem? (i := 692) (by decide +kernel), List.mem_of_getElem? (i := 693) (by decide +kernel)⟩
theorem lw_p17 : lw_okq (⟨"BreatheAsOne$Reader", "keepLaw", "()V"⟩, 16) := ⟨⟨by decide +kernel, by decide +kernel⟩, List.mem_of_getElem? (i := 228) (by decide +kernel), List.mem_of_getElem? (i := 696) (by decide +kernel), List.mem_of_getElem? (i := 697) (by decide +kernel)⟩
theorem lw_p18 : lw_okq (⟨"BreatheAsOne$Deeds", "spread", "(I)V"⟩, 4) := ⟨⟨by decide +kernel, by decide +kernel⟩, List.mem_of_getElem? (i := 315) (by decide +kernel), List.mem_of_getElem? (i := 826) (by decide +kernel), List.mem_of_getElem? (i := 827) (by decide +kernel)⟩
theorem lw_p19 : lw_okq (⟨"BreatheAsOne$Breathing", "namePerson", "(IIIII)V"⟩, 7) := ⟨⟨by decide +kernel, by decide +kernel⟩, List.mem_of_getElem? (i := 287) (by decide +kernel), List.mem_of_getElem? (i := 857) (by decide +kernel), List.mem_of_getElem? (i := 858) (by decide +kernel)⟩
theorem lw_p20 : lw_okq (⟨"BreatheAsOne$Breathing", "worth", "([I)I"⟩, 7) := ⟨⟨by decide +kernel, by decide +kernel⟩, List.mem_of_getElem? (i := 287) (by decide +kernel), List.mem_of_getElem? (i := 861) (by decide +kernel), List.mem_of_getElem? (i := 862) (by decide +kernel)⟩
theorem lw_p21 : lw_okq (⟨"BreatheAsOne$Deeds", "happen", "(II)V"⟩, 4) := ⟨⟨by decide +kernel, by decide +kernel⟩, List.mem_of_getElem? (i := 315) (by decide +kernel), List.mem_of_getElem? (i := 912) (by decide +kernel), List.mem_of_getElem? (i := 913) (by decide +kernel)⟩
theorem lw_p22 : lw_okq (⟨"BreatheAsOne$Deeds", "sitByChance", "(II)V"⟩, 4) := ⟨⟨by decide +kernel, by decide +kernel⟩, List.mem_of_getElem? (i := 315) (by decide +kernel), List.mem_of_getElem? (i := 916) (by decide +kernel), List.mem_of_getElem? (i := 917) (by decide +kernel)⟩
theorem lw_p23 : lw_okq (⟨"BreatheAsOne$Questions", "takeAirs", "()V"⟩, 7) := ⟨⟨by decide +kernel, by decide +kernel⟩, List.mem_of_getElem? (i := 334) (by decide +kernel), List.mem_of_getElem? (i := 1003) (by decide +kernel), List.mem_of_getElem? (i := 1004) (by decide +kernel)⟩
theorem lw_p24 : lw_okq (⟨"BreatheAsOne$Questions", "fallenBy", "(LBreatheAsOne$Text;)I"⟩, 7) := ⟨⟨by decide +kernel, by decide +kernel⟩, List.mem_of_getElem? (i := 334) (by decide +kernel), List.mem_of_getElem? (i := 1009) (by decide +kernel), List.mem_of_getElem? (i := 1010) (by decide +kernel)⟩
theorem lw_p25 : lw_okq (⟨"BreatheAsOne$Questions", "isOutBy", "(II)Z"⟩, 7) := ⟨⟨by decide +kernel, by decide +kernel⟩, List.mem_of_getElem? (i := 334) (by decide +kernel), List.mem_of_getElem? (i := 1026) (by decide +kernel), List.mem_of_getElem? (i := 1027) (by decide +kernel)⟩
theorem lw_p26 : lw_okq (⟨"BreatheAsOne$Questions", "isHiccup", "(IIII)Z"⟩, 7) := ⟨⟨by decide +kernel, by decide +kernel⟩, List.mem_of_getElem? (i := 334) (by decide +kernel), List.mem_of_getElem? (i := 1045) (by decide +kernel), List.mem_of_getElem? (i := 1046) (by decide +kernel)⟩
theorem lw_p27 : lw_okq (⟨"BreatheAsOne$Games", "countHeld", "(IIII)V"⟩, 13) := ⟨⟨by decide +kernel, by decide +kernel⟩, List.mem_of_getElem? (i := 362) (by decide +kernel), List.mem_of_getElem? (i := 1077) (by decide +kernel), List.mem_of_getElem? (i := 1078) (by decide +kernel)⟩
theorem lw_p28 : lw_okq (⟨"BreatheAsOne$Games", "airOfOthers", "(III)I"⟩, 13) := ⟨⟨by decide +kernel, by decide +kernel⟩, List.mem_of_getElem? (i := 362) (by decide +kernel), List.mem_of_getElem? (i := 1081) (by decide +kernel), List.mem_of_getElem? (i := 1082) (by decide +kernel)⟩
theorem lw_p29 : lw_okq (⟨"BreatheAsOne$Games", "firstOrder", "(I)V"⟩, 13) := ⟨⟨by decide +kernel, by decide +kernel⟩, List.mem_of_getElem? (i := 362) (by decide +kernel), List.mem_of_getElem? (i := 1090) (by decide +kernel), List.mem_of_getElem? (i := 1091) (by decide +kernel)⟩
theorem lw_p30 : lw_okq (⟨"BreatheAsOne$Games", "nextOrder", "(I)Z"⟩, 13) := ⟨⟨by decide +kernel, by decide +kernel⟩, List.mem_of_getElem? (i := 362) (by decide +kernel), List.mem_of_getElem? (i := 1098) (by decide +kernel), List.mem_of_getElem? (i := 1099) (by decide +kernel)⟩
theorem lw_p31 : lw_okq (⟨"BreatheAsOne$Games", "swapOrder", "(II)V"⟩, 13) := ⟨⟨by decide +kernel, by decide +kernel⟩, List.mem_of_getElem? (i := 362) (by decide +kernel), List.mem_of_getElem? (i := 1102) (by decide +kernel), List.mem_of_getElem? (i := 1103) (by decide +kernel)⟩
def lw_privs_2 : List (MethodName × Nat) := [(⟨"BreatheAsOne$Reader", "isNameOfLaw", "(I)Z"⟩, 16), (⟨"BreatheAsOne$Reader", "keepLaw", "()V"⟩, 16), (⟨"BreatheAsOne$Deeds", "spread", "(I)V"⟩, 4), (⟨"BreatheAsOne$Breathing", "namePerson", "(IIIII)V"⟩, 7), (⟨"BreatheAsOne$Breathing", "worth", "([I)I"⟩, 7), (⟨"BreatheAsOne$Deeds", "happen", "(II)V"⟩, 4), (⟨"BreatheAsOne$Deeds", "sitByChance", "(II)V"⟩, 4), (⟨"BreatheAsOne$Questions", "takeAirs", "()V"⟩, 7), (⟨"BreatheAsOne$Questions", "fallenBy", "(LBreatheAsOne$Text;)I"⟩, 7), (⟨"BreatheAsOne$Questions", "isOutBy", "(II)Z"⟩, 7), (⟨"BreatheAsOne$Questions", "isHiccup", "(IIII)Z"⟩, 7), (⟨"BreatheAsOne$Games", "countHeld", "(IIII)V"⟩, 13), (⟨"BreatheAsOne$Games", "airOfOthers", "(III)I"⟩, 13), (⟨"BreatheAsOne$Games", "firstOrder", "(I)V"⟩, 13), (⟨"BreatheAsOne$Games", "nextOrder", "(I)Z"⟩, 13), (⟨"BreatheAsOne$Games", "swapOrder", "(II)V"⟩, 13)]
theorem lw_r2 : ∀ q ∈ lw_privs_2, lw_okq q := List.forall_mem_cons.mpr ⟨lw_p16, List.forall_mem_cons.mpr ⟨lw_p17, List.forall_mem_cons.mpr ⟨lw_p18, List.forall_mem_cons.mpr ⟨lw_p19, List.forall_mem_cons.mpr ⟨lw_p20, List.forall_mem_cons.mpr ⟨lw_p21, List.forall_mem_cons.mpr ⟨lw_p22, List.forall_mem_cons.mpr ⟨lw_p23, List.forall_mem_cons.mpr ⟨lw_p24, List.forall_mem_cons.mpr ⟨lw_p25, List.forall_mem_cons.mpr ⟨lw_p26, List.forall_mem_cons.mpr ⟨lw_p27, List.forall_mem_cons.mpr ⟨lw_p28, List.forall_mem_cons.mpr ⟨lw_p29, List.forall_mem_cons.mpr ⟨lw_p30, List.forall_mem_cons.mpr ⟨lw_p31, fun _ h => absurd h List.not_mem_nil⟩⟩⟩⟩⟩⟩⟩⟩⟩⟩⟩⟩⟩⟩⟩⟩
theorem lw_p32 : lw_okq (⟨"BreatheAsOne$Games", "orderAt", "(III)I"⟩, 13) := ⟨⟨by decide +kernel, by decide +kernel⟩, List.mem_of_getElem? (i := 362) (by decide +kernel), List.mem_of_getElem? (i := 1106) (by decide +kernel), List.mem_of_getElem? (i := 1107) (by decide +kernel)⟩
theorem lw_p33 : lw_okq (⟨"BreatheAsOne$Questions", "setsThatHold", "(I)I"⟩, 7) := ⟨⟨by decide +kernel, by decide +kernel⟩, List.mem_of_getElem? (i := 334) (by decide +kernel), List.mem_of_getElem? (i := 1119) (by decide +kernel), List.mem_of_getElem? (i := 1120) (by decide +kernel)⟩
theorem lw_p34 : lw_okq (⟨"BreatheAsOne$Questions", "takeBlockAir", "(I)V"⟩, 7) := ⟨⟨by decide +kernel, by decide +kernel⟩, List.mem_of_getElem? (i := 334) (by decide +kernel), List.mem_of_getElem? (i := 1123) (by decide +kernel), List.mem_of_getElem? (i := 1124) (by decide +kernel)⟩
theorem lw_p35 : lw_okq (⟨"BreatheAsOne$Questions", "airBy", "(I)I"⟩, 7) := ⟨⟨by decide +kernel, by decide +kernel⟩, List.mem_of_getElem? (i := 334) (by decide +kernel), List.mem_of_getElem? (i := 1130) (by decide +kernel), List.mem_of_getElem? (i := 1131) (by decide +kernel)⟩
theorem lw_p36 : lw_okq (⟨"BreatheAsOne$Questions", "canBeHad", "(I)Z"⟩, 7) := ⟨⟨by decide +kernel, by decide +kernel⟩, List.mem_of_getElem? (i := 334) (by decide +kernel), List.mem_of_getElem? (i := 1144) (by decide +kernel), List.mem_of_getElem? (i := 1145) (by decide +kernel)⟩
theorem lw_p37 : lw_okq (⟨"BreatheAsOne$Questions", "takeChanges", "(I)V"⟩, 7) := ⟨⟨by decide +kernel, by decide +kernel⟩, List.mem_of_getElem? (i := 334) (by decide +kernel), List.mem_of_getElem? (i := 1148) (by decide +kernel), List.mem_of_getElem? (i := 1149) (by decide +kernel)⟩
theorem lw_p38 : lw_okq (⟨"BreatheAsOne$Questions", "heldLater", "(I)I"⟩, 7) := ⟨⟨by decide +kernel, by decide +kernel⟩, List.mem_of_getElem? (i := 334) (by decide +kernel), List.mem_of_getElem? (i := 1160) (by decide +kernel), List.mem_of_getElem? (i := 1161) (by decide +kernel)⟩
theorem lw_p39 : lw_okq (⟨"BreatheAsOne$Questions", "phaseOf", "(I)I"⟩, 7) := ⟨⟨by decide +kernel, by decide +kernel⟩, List.mem_of_getElem? (i := 334) (by decide +kernel), List.mem_of_getElem? (i := 1172) (by decide +kernel), List.mem_of_getElem? (i := 1173) (by decide +kernel)⟩
theorem lw_p40 : lw_okq (⟨"BreatheAsOne$Games", "takeSide", "(II[I[I)I"⟩, 13) := ⟨⟨by decide +kernel, by decide +kernel⟩, List.mem_of_getElem? (i := 362) (by decide +kernel), List.mem_of_getElem? (i := 1226) (by decide +kernel), List.mem_of_getElem? (i := 1227) (by decide +kernel)⟩
theorem lw_p41 : lw_okq (⟨"BreatheAsOne$Games", "firstMove", "(IIII)I"⟩, 13) := ⟨⟨by decide +kernel, by decide +kernel⟩, List.mem_of_getElem? (i := 362) (by decide +kernel), List.mem_of_getElem? (i := 1232) (by decide +kernel), List.mem_of_getElem? (i := 1233) (by decide +kernel)⟩
theorem lw_p42 : lw_okq (⟨"BreatheAsOne$Games", "secondWins", "(IIII)Z"⟩, 13) := ⟨⟨by decide +kernel, by decide +kernel⟩, List.mem_of_getElem? (i := 362) (by decide +kernel), List.mem_of_getElem? (i := 1236) (by decide +kernel), List.mem_of_getElem? (i := 1237) (by decide +kernel)⟩
theorem lw_p43 : lw_okq (⟨"BreatheAsOne$Games", "isAsTold", "(I)Z"⟩, 13) := ⟨⟨by decide +kernel, by decide +kernel⟩, List.mem_of_getElem? (i := 362) (by decide +kernel), List.mem_of_getElem? (i := 1256) (by decide +kernel), List.mem_of_getElem? (i := 1257) (by decide +kernel)⟩
theorem lw_p44 : lw_okq (⟨"BreatheAsOne$Questions", "isSeenBy", "(II)Z"⟩, 7) := ⟨⟨by decide +kernel, by decide +kernel⟩, List.mem_of_getElem? (i := 334) (by decide +kernel), List.mem_of_getElem? (i := 1286) (by decide +kernel), List.mem_of_getElem? (i := 1287) (by decide +kernel)⟩
theorem lw_p45 : lw_okq (⟨"BreatheAsOneModel", "set", "(III)V"⟩, 38) := ⟨⟨by decide +kernel, by decide +kernel⟩, List.mem_of_getElem? (i := 1324) (by decide +kernel), List.mem_of_getElem? (i := 1461) (by decide +kernel), List.mem_of_getElem? (i := 1462) (by decide +kernel)⟩
theorem lw_p46 : lw_okq (⟨"BreatheAsOneModel", "four", "(I)V"⟩, 38) := ⟨⟨by decide +kernel, by decide +kernel⟩, List.mem_of_getElem? (i := 1324) (by decide +kernel), List.mem_of_getElem? (i := 1473) (by decide +kernel), List.mem_of_getElem? (i := 1474) (by decide +kernel)⟩
theorem lw_p47 : lw_okq (⟨"BreatheAsOneModel", "readText", "()I"⟩, 38) := ⟨⟨by decide +kernel, by decide +kernel⟩, List.mem_of_getElem? (i := 1324) (by decide +kernel), List.mem_of_getElem? (i := 1485) (by decide +kernel), List.mem_of_getElem? (i := 1486) (by decide +kernel)⟩
def lw_privs_3 : List (MethodName × Nat) := [(⟨"BreatheAsOne$Games", "orderAt", "(III)I"⟩, 13), (⟨"BreatheAsOne$Questions", "setsThatHold", "(I)I"⟩, 7), (⟨"BreatheAsOne$Questions", "takeBlockAir", "(I)V"⟩, 7), (⟨"BreatheAsOne$Questions", "airBy", "(I)I"⟩, 7), (⟨"BreatheAsOne$Questions", "canBeHad", "(I)Z"⟩, 7), (⟨"BreatheAsOne$Questions", "takeChanges", "(I)V"⟩, 7), (⟨"BreatheAsOne$Questions", "heldLater", "(I)I"⟩, 7), (⟨"BreatheAsOne$Questions", "phaseOf", "(I)I"⟩, 7), (⟨"BreatheAsOne$Games", "takeSide", "(II[I[I)I"⟩, 13), (⟨"BreatheAsOne$Games", "firstMove", "(IIII)I"⟩, 13), (⟨"BreatheAsOne$Games", "secondWins", "(IIII)Z"⟩, 13), (⟨"BreatheAsOne$Games", "isAsTold", "(I)Z"⟩, 13), (⟨"BreatheAsOne$Questions", "isSeenBy", "(II)Z"⟩, 7), (⟨"BreatheAsOneModel", "set", "(III)V"⟩, 38), (⟨"BreatheAsOneModel", "four", "(I)V"⟩, 38), (⟨"BreatheAsOneModel", "readText", "()I"⟩, 38)]
theorem lw_r3 : ∀ q ∈ lw_privs_3, lw_okq q := List.forall_mem_cons.mpr ⟨lw_p32, List.forall_mem_cons.mpr ⟨lw_p33, List.forall_mem_cons.mpr ⟨lw_p34, List.forall_mem_cons.mpr ⟨lw_p35, List.forall_mem_cons.mpr ⟨lw_p36, List.forall_mem_cons.mpr ⟨lw_p37, List.forall_mem_cons.mpr ⟨lw_p38, List.forall_mem_cons.mpr ⟨lw_p39, List.forall_mem_cons.mpr ⟨lw_p40, List.forall_mem_cons.mpr ⟨lw_p41, List.forall_mem_cons.mpr ⟨lw_p42, List.forall_mem_cons.mpr ⟨lw_p43, List.forall_mem_cons.mpr ⟨lw_p44, List.forall_mem_cons.mpr ⟨lw_p45, List.forall_mem_cons.mpr ⟨lw_p46, List.forall_mem_cons.mpr ⟨lw_p47, fun _ h => absurd h List.not_mem_nil⟩⟩⟩⟩⟩⟩⟩⟩⟩⟩⟩⟩⟩⟩⟩⟩
theorem lw_p48 : lw_okq (⟨"BreatheAsOneModel", "nextToken", "()V"⟩, 38) := ⟨⟨by decide +kernel, by decide +kernel⟩, List.mem_of_getElem? (i := 1324) (by decide +kernel), List.mem_of_getElem? (i := 1489) (by decide +kernel), List.mem_of_getElem? (i := 1490) (by decide +kernel)⟩
theorem lw_p49 : lw_okq (⟨"BreatheAsOneModel", "byteAt", "(I)I"⟩, 38) := ⟨⟨by decide +kernel, by decide +kernel⟩, List.mem_of_getElem? (i := 1324) (by decide +kernel), List.mem_of_getElem? (i := 1493) (by decide +kernel), List.mem_of_getElem? (i := 1494) (by decide +kernel)⟩
theorem lw_p50 : lw_okq (⟨"BreatheAsOneModel", "clause", "()I"⟩, 38) := ⟨⟨by decide +kernel, by decide +kernel⟩, List.mem_of_getElem? (i := 1324) (by decide +kernel), List.mem_of_getElem? (i := 1508) (by decide +kernel), List.mem_of_getElem? (i := 1509) (by decide +kernel)⟩
theorem lw_p51 : lw_okq (⟨"BreatheAsOneModel", "sortOf", "()I"⟩, 38) := ⟨⟨by decide +kernel, by decide +kernel⟩, List.mem_of_getElem? (i := 1324) (by decide +kernel), List.mem_of_getElem? (i := 1512) (by decide +kernel), List.mem_of_getElem? (i := 1513) (by decide +kernel)⟩
theorem lw_p52 : lw_okq (⟨"BreatheAsOneModel", "isWord", "(J)Z"⟩, 38) := ⟨⟨by decide +kernel, by decide +kernel⟩, List.mem_of_getElem? (i := 1324) (by decide +kernel), List.mem_of_getElem? (i := 1531) (by decide +kernel), List.mem_of_getElem? (i := 1532) (by decide +kernel)⟩
theorem lw_p53 : lw_okq (⟨"BreatheAsOneModel", "body", "(II)I"⟩, 38) := ⟨⟨by decide +kernel, by decide +kernel⟩, List.mem_of_getElem? (i := 1324) (by decide +kernel), List.mem_of_getElem? (i := 1538) (by decide +kernel), List.mem_of_getElem? (i := 1539) (by decide +kernel)⟩
theorem lw_p54 : lw_okq (⟨"BreatheAsOneModel", "lawClause", "(IZ)I"⟩, 38) := ⟨⟨by decide +kernel, by decide +kernel⟩, List.mem_of_getElem? (i := 1324) (by decide +kernel), List.mem_of_getElem? (i := 1542) (by decide +kernel), List.mem_of_getElem? (i := 1543) (by decide +kernel)⟩
theorem lw_p55 : lw_okq (⟨"BreatheAsOneModel", "parsed", "(Z)I"⟩, 38) := ⟨⟨by decide +kernel, by decide +kernel⟩, List.mem_of_getElem? (i := 1324) (by decide +kernel), List.mem_of_getElem? (i := 1546) (by decide +kernel), List.mem_of_getElem? (i := 1547) (by decide +kernel)⟩
theorem lw_p56 : lw_okq (⟨"BreatheAsOneModel", "behindOne", "()Z"⟩, 38) := ⟨⟨by decide +kernel, by decide +kernel⟩, List.mem_of_getElem? (i := 1324) (by decide +kernel), List.mem_of_getElem? (i := 1550) (by decide +kernel), List.mem_of_getElem? (i := 1551) (by decide +kernel)⟩
theorem lw_p57 : lw_okq (⟨"BreatheAsOneModel", "betweenOf", "()I"⟩, 38) := ⟨⟨by decide +kernel, by decide +kernel⟩, List.mem_of_getElem? (i := 1324) (by decide +kernel), List.mem_of_getElem? (i := 1554) (by decide +kernel), List.mem_of_getElem? (i := 1555) (by decide +kernel)⟩
theorem lw_p58 : lw_okq (⟨"BreatheAsOneModel", "isAskHere", "()Z"⟩, 38) := ⟨⟨by decide +kernel, by decide +kernel⟩, List.mem_of_getElem? (i := 1324) (by decide +kernel), List.mem_of_getElem? (i := 1558) (by decide +kernel), List.mem_of_getElem? (i := 1559) (by decide +kernel)⟩
theorem lw_p59 : lw_okq (⟨"BreatheAsOneModel", "openNow", "()I"⟩, 38) := ⟨⟨by decide +kernel, by decide +kernel⟩, List.mem_of_getElem? (i := 1324) (by decide +kernel), List.mem_of_getElem? (i := 1562) (by decide +kernel), List.mem_of_getElem? (i := 1563) (by decide +kernel)⟩
theorem lw_p60 : lw_okq (⟨"BreatheAsOneModel", "isCompared", "()Z"⟩, 38) := ⟨⟨by decide +kernel, by decide +kernel⟩, List.mem_of_getElem? (i := 1324) (by decide +kernel), List.mem_of_getElem? (i := 1566) (by decide +kernel), List.mem_of_getElem? (i := 1567) (by decide +kernel)⟩
theorem lw_p61 : lw_okq (⟨"BreatheAsOneModel", "compareOf", "()I"⟩, 38) := ⟨⟨by decide +kernel, by decide +kernel⟩, List.mem_of_getElem? (i := 1324) (by decide +kernel), List.mem_of_getElem? (i := 1573) (by decide +kernel), List.mem_of_getElem? (i := 1574) (by decide +kernel)⟩
theorem lw_p62 : lw_okq (⟨"BreatheAsOneModel", "settle", "(I)V"⟩, 38) := ⟨⟨by decide +kernel, by decide +kernel⟩, List.mem_of_getElem? (i := 1324) (by decide +kernel), List.mem_of_getElem? (i := 1577) (by decide +kernel), List.mem_of_getElem? (i := 1578) (by decide +kernel)⟩
theorem lw_p63 : lw_okq (⟨"BreatheAsOneModel", "emit", "(II)V"⟩, 38) := ⟨⟨by decide +kernel, by decide +kernel⟩, List.mem_of_getElem? (i := 1324) (by decide +kernel), List.mem_of_getElem? (i := 1581) (by decide +kernel), List.mem_of_getElem? (i := 1582) (by decide +kernel)⟩
def lw_privs_4 : List (MethodName × Nat) := [(⟨"BreatheAsOneModel", "nextToken", "()V"⟩, 38), (⟨"BreatheAsOneModel", "byteAt", "(I)I"⟩, 38), (⟨"BreatheAsOneModel", "clause", "()I"⟩, 38), (⟨"BreatheAsOneModel", "sortOf", "()I"⟩, 38), (⟨"BreatheAsOneModel", "isWord", "(J)Z"⟩, 38), (⟨"BreatheAsOneModel", "body", "(II)I"⟩, 38), (⟨"BreatheAsOneModel", "lawClause", "(IZ)I"⟩, 38), (⟨"BreatheAsOneModel", "parsed", "(Z)I"⟩, 38), (⟨"BreatheAsOneModel", "behindOne", "()Z"⟩, 38), (⟨"BreatheAsOneModel", "betweenOf", "()I"⟩, 38), (⟨"BreatheAsOneModel", "isAskHere", "()Z"⟩, 38), (⟨"BreatheAsOneModel", "openNow", "()I"⟩, 38), (⟨"BreatheAsOneModel", "isCompared", "()Z"⟩, 38), (⟨"BreatheAsOneModel", "compareOf", "()I"⟩, 38), (⟨"BreatheAsOneModel", "settle", "(I)V"⟩, 38), (⟨"BreatheAsOneModel", "emit", "(II)V"⟩, 38)]
theorem lw_r4 : ∀ q ∈ lw_privs_4, lw_okq q := List.forall_mem_cons.mpr ⟨lw_p48, List.forall_mem_cons.mpr ⟨lw_p49, List.forall_mem_cons.mpr ⟨lw_p50, List.forall_mem_cons.mpr ⟨lw_p51, List.forall_mem_cons.mpr ⟨lw_p52, List.forall_mem_cons.mpr ⟨lw_p53, List.forall_mem_cons.mpr ⟨lw_p54, List.forall_mem_cons.mpr ⟨lw_p55, List.forall_mem_cons.mpr ⟨lw_p56, List.forall_mem_cons.mpr ⟨lw_p57, List.forall_mem_cons.mpr ⟨lw_p58, List.forall_mem_cons.mpr ⟨lw_p59, List.forall_mem_cons.mpr ⟨lw_p60, List.forall_mem_cons.mpr ⟨lw_p61, List.forall_mem_cons.mpr ⟨lw_p62, List.forall_mem_cons.mpr ⟨lw_p63, fun _ h => absurd h List.not_mem_nil⟩⟩⟩⟩⟩⟩⟩⟩⟩⟩⟩⟩⟩⟩⟩⟩
theorem lw_p64 : lw_okq (⟨"BreatheAsOneModel", "beginOne", "()I"⟩, 38) := ⟨⟨by decide +kernel, by decide +kernel⟩, List.mem_of_getElem? (i := 1324) (by decide +kernel), List.mem_of_getElem? (i := 1585) (by decide +kernel), List.mem_of_getElem? (i := 1586) (by decide +kernel)⟩
theorem lw_p65 : lw_okq (⟨"BreatheAsOneModel", "nameOf", "()I"⟩, 38) := ⟨⟨by decide +kernel, by decide +kernel⟩, List.mem_of_getElem? (i := 1324) (by decide +kernel), List.mem_of_getElem? (i := 1589) (by decide +kernel), List.mem_of_getElem? (i := 1590) (by decide +kernel)⟩
theorem lw_p66 : lw_okq (⟨"BreatheAsOneModel", "isOf", "(I)Z"⟩, 38) := ⟨⟨by decide +kernel, by decide +kernel⟩, List.mem_of_getElem? (i := 1324) (by decide +kernel), List.mem_of_getElem? (i := 1593) (by decide +kernel), List.mem_of_getElem? (i := 1594) (by decide +kernel)⟩
theorem lw_p67 : lw_okq (⟨"BreatheAsOneModel", "opened", "(I)I"⟩, 38) := ⟨⟨by decide +kernel, by decide +kernel⟩, List.mem_of_getElem? (i := 1324) (by decide +kernel), List.mem_of_getElem? (i := 1597) (by decide +kernel), List.mem_of_getElem? (i := 1598) (by decide +kernel)⟩
theorem lw_p68 : lw_okq (⟨"BreatheAsOneModel", "isAskAhead", "()Z"⟩, 38) := ⟨⟨by decide +kernel, by decide +kernel⟩, List.mem_of_getElem? (i := 1324) (by decide +kernel), List.mem_of_getElem? (i := 1601) (by decide +kernel), List.mem_of_getElem? (i := 1602) (by decide +kernel)⟩
theorem lw_p69 : lw_okq (⟨"BreatheAsOneModel", "pair", "(IIJI)I"⟩, 38) := ⟨⟨by decide +kernel, by decide +kernel⟩, List.mem_of_getElem? (i := 1324) (by decide +kernel), List.mem_of_getElem? (i := 1605) (by decide +kernel), List.mem_of_getElem? (i := 1606) (by decide +kernel)⟩
theorem lw_p70 : lw_okq (⟨"BreatheAsOneModel", "figure", "(III)I"⟩, 38) := ⟨⟨by decide +kernel, by decide +kernel⟩, List.mem_of_getElem? (i := 1324) (by decide +kernel), List.mem_of_getElem? (i := 1609) (by decide +kernel), List.mem_of_getElem? (i := 1610) (by decide +kernel)⟩
theorem lw_p71 : lw_okq (⟨"BreatheAsOneModel", "worded", "(JIII)I"⟩, 38) := ⟨⟨by decide +kernel, by decide +kernel⟩, List.mem_of_getElem? (i := 1324) (by decide +kernel), List.mem_of_getElem? (i := 1613) (by decide +kernel), List.mem_of_getElem? (i := 1614) (by decide +kernel)⟩
theorem lw_p72 : lw_okq (⟨"BreatheAsOneModel", "oneClause", "(I)I"⟩, 38) := ⟨⟨by decide +kernel, by decide +kernel⟩, List.mem_of_getElem? (i := 1324) (by decide +kernel), List.mem_of_getElem? (i := 1617) (by decide +kernel), List.mem_of_getElem? (i := 1618) (by decide +kernel)⟩
theorem lw_p73 : lw_okq (⟨"BreatheAsOneModel", "isPerson", "(I)Z"⟩, 38) := ⟨⟨by decide +kernel, by decide +kernel⟩, List.mem_of_getElem? (i := 1324) (by decide +kernel), List.mem_of_getElem? (i := 1637) (by decide +kernel), List.mem_of_getElem? (i := 1638) (by decide +kernel)⟩
theorem lw_p74 : lw_okq (⟨"BreatheAsOneModel", "get", "(II)I"⟩, 38) := ⟨⟨by decide +kernel, by decide +kernel⟩, List.mem_of_getElem? (i := 1324) (by decide +kernel), List.mem_of_getElem? (i := 1641) (by decide +kernel), List.mem_of_getElem? (i := 1642) (by decide +kernel)⟩
theorem lw_p75 : lw_okq (⟨"BreatheAsOneModel", "isSeat", "(I)Z"⟩, 38) := ⟨⟨by decide +kernel, by decide +kernel⟩, List.mem_of_getElem? (i := 1324) (by decide +kernel), List.mem_of_getElem? (i := 1645) (by decide +kernel), List.mem_of_getElem? (i := 1646) (by decide +kernel)⟩
theorem lw_p76 : lw_okq (⟨"BreatheAsOneModel", "sitterOf", "(I)I"⟩, 38) := ⟨⟨by decide +kernel, by decide +kernel⟩, List.mem_of_getElem? (i := 1324) (by decide +kernel), List.mem_of_getElem? (i := 1649) (by decide +kernel), List.mem_of_getElem? (i := 1650) (by decide +kernel)⟩
theorem lw_p77 : lw_okq (⟨"BreatheAsOneModel", "keep", "()V"⟩, 38) := ⟨⟨by decide +kernel, by decide +kernel⟩, List.mem_of_getElem? (i := 1324) (by decide +kernel), List.mem_of_getElem? (i := 1653) (by decide +kernel), List.mem_of_getElem? (i := 1654) (by decide +kernel)⟩
theorem lw_p78 : lw_okq (⟨"BreatheAsOneModel", "isCoughing", "(II)Z"⟩, 38) := ⟨⟨by decide +kernel, by decide +kernel⟩, List.mem_of_getElem? (i := 1324) (by decide +kernel), List.mem_of_getElem? (i := 1673) (by decide +kernel), List.mem_of_getElem? (i := 1674) (by decide +kernel)⟩
theorem lw_p79 : lw_okq (⟨"BreatheAsOneModel", "coughNow", "(I)I"⟩, 38) := ⟨⟨by decide +kernel, by decide +kernel⟩, List.mem_of_getElem? (i := 1324) (by decide +kernel), List.mem_of_getElem? (i := 1677) (by decide +kernel), List.mem_of_getElem? (i := 1678) (by decide +kernel)⟩
def lw_privs_5 : List (MethodName × Nat) := [(⟨"BreatheAsOneModel", "beginOne", "()I"⟩, 38), (⟨"BreatheAsOneModel", "nameOf", "()I"⟩, 38), (⟨"BreatheAsOneModel", "isOf", "(I)Z"⟩, 38), (⟨"BreatheAsOneModel", "opened", "(I)I"⟩, 38), (⟨"BreatheAsOneModel", "isAskAhead", "()Z"⟩, 38), (⟨"BreatheAsOneModel", "pair", "(IIJI)I"⟩, 38), (⟨"BreatheAsOneModel", "figure", "(III)I"⟩, 38), (⟨"BreatheAsOneModel", "worded", "(JIII)I"⟩, 38), (⟨"BreatheAsOneModel", "oneClause", "(I)I"⟩, 38), (⟨"BreatheAsOneModel", "isPerson", "(I)Z"⟩, 38), (⟨"BreatheAsOneModel", "get", "(II)I"⟩, 38), (⟨"BreatheAsOneModel", "isSeat", "(I)Z"⟩, 38), (⟨"BreatheAsOneModel", "sitterOf", "(I)I"⟩, 38), (⟨"BreatheAsOneModel", "keep", "()V"⟩, 38), (⟨"BreatheAsOneModel", "isCoughing", "(II)Z"⟩, 38), (⟨"BreatheAsOneModel", "coughNow", "(I)I"⟩, 38)]
theorem lw_r5 : ∀ q ∈ lw_privs_5, lw_okq q := List.forall_mem_cons.mpr ⟨lw_p64, List.forall_mem_cons.mpr ⟨lw_p65, List.forall_mem_cons.mpr ⟨lw_p66, List.forall_mem_cons.mpr ⟨lw_p67, List.forall_mem_cons.mpr ⟨lw_p68, List.forall_mem_cons.mpr ⟨lw_p69, List.forall_mem_cons.mpr ⟨lw_p70, List.forall_mem_cons.mpr ⟨lw_p71, List.forall_mem_cons.mpr ⟨lw_p72, List.forall_mem_cons.mpr ⟨lw_p73, List.forall_mem_cons.mpr ⟨lw_p74, List.forall_mem_cons.mpr ⟨lw_p75, List.forall_mem_cons.mpr ⟨lw_p76, List.forall_mem_cons.mpr ⟨lw_p77, List.forall_mem_cons.mpr ⟨lw_p78, List.forall_mem_cons.mpr ⟨lw_p79, fun _ h => absurd h List.not_mem_nil⟩⟩⟩⟩⟩⟩⟩⟩⟩⟩⟩⟩⟩⟩⟩⟩
theorem lw_p80 : lw_okq (⟨"BreatheAsOneModel", "coughs", "(I)I"⟩, 38) := ⟨⟨by decide +kernel, by decide +kernel⟩, List.mem_of_getElem? (i := 1324) (by decide +kernel), List.mem_of_getElem? (i := 1681) (by decide +kernel), List.mem_of_getElem? (i := 1682) (by decide +kernel)⟩
theorem lw_p81 : lw_okq (⟨"BreatheAsOneModel", "drawn", "()I"⟩, 38) := ⟨⟨by decide +kernel, by decide +kernel⟩, List.mem_of_getElem? (i := 1324) (by decide +kernel), List.mem_of_getElem? (i := 1685) (by decide +kernel), List.mem_of_getElem? (i := 1686) (by decide +kernel)⟩
theorem lw_p82 : lw_okq (⟨"BreatheAsOneModel", "anew", "()V"⟩, 38) := ⟨⟨by decide +kernel, by decide +kernel⟩, List.mem_of_getElem? (i := 1324) (by decide +kernel), List.mem_of_getElem? (i := 1689) (by decide +kernel), List.mem_of_getElem? (i := 1690) (by decide +kernel)⟩
theorem lw_p83 : lw_okq (⟨"BreatheAsOneModel", "passesOf", "(I)I"⟩, 38) := ⟨⟨by decide +kernel, by decide +kernel⟩, List.mem_of_getElem? (i := 1324) (by decide +kernel), List.mem_of_getElem? (i := 1693) (by decide +kernel), List.mem_of_getElem? (i := 1694) (by decide +kernel)⟩
theorem lw_p84 : lw_okq (⟨"BreatheAsOneModel", "name", "(II)V"⟩, 38) := ⟨⟨by decide +kernel, by decide +kernel⟩, List.mem_of_getElem? (i := 1324) (by decide +kernel), List.mem_of_getElem? (i := 1697) (by decide +kernel), List.mem_of_getElem? (i := 1698) (by decide +kernel)⟩
theorem lw_p85 : lw_okq (⟨"BreatheAsOneModel", "timeOf", "(II)I"⟩, 38) := ⟨⟨by decide +kernel, by decide +kernel⟩, List.mem_of_getElem? (i := 1324) (by decide +kernel), List.mem_of_getElem? (i := 1701) (by decide +kernel), List.mem_of_getElem? (i := 1702) (by decide +kernel)⟩
theorem lw_p86 : lw_okq (⟨"BreatheAsOneModel", "seatOf", "(II)I"⟩, 38) := ⟨⟨by decide +kernel, by decide +kernel⟩, List.mem_of_getElem? (i := 1324) (by decide +kernel), List.mem_of_getElem? (i := 1705) (by decide +kernel), List.mem_of_getElem? (i := 1706) (by decide +kernel)⟩
theorem lw_p87 : lw_okq (⟨"BreatheAsOneModel", "says", "(IIII)I"⟩, 38) := ⟨⟨by decide +kernel, by decide +kernel⟩, List.mem_of_getElem? (i := 1324) (by decide +kernel), List.mem_of_getElem? (i := 1709) (by decide +kernel), List.mem_of_getElem? (i := 1710) (by decide +kernel)⟩
theorem lw_p88 : lw_okq (⟨"BreatheAsOneModel", "clauseOf", "(II)I"⟩, 38) := ⟨⟨by decide +kernel, by decide +kernel⟩, List.mem_of_getElem? (i := 1324) (by decide +kernel), List.mem_of_getElem? (i := 1713) (by decide +kernel), List.mem_of_getElem? (i := 1714) (by decide +kernel)⟩
theorem lw_p89 : lw_okq (⟨"BreatheAsOneModel", "work", "(II)V"⟩, 38) := ⟨⟨by decide +kernel, by decide +kernel⟩, List.mem_of_getElem? (i := 1324) (by decide +kernel), List.mem_of_getElem? (i := 1717) (by decide +kernel), List.mem_of_getElem? (i := 1718) (by decide +kernel)⟩
theorem lw_p90 : lw_okq (⟨"BreatheAsOneModel", "isPlayed", "(I)Z"⟩, 38) := ⟨⟨by decide +kernel, by decide +kernel⟩, List.mem_of_getElem? (i := 1324) (by decide +kernel), List.mem_of_getElem? (i := 1743) (by decide +kernel), List.mem_of_getElem? (i := 1744) (by decide +kernel)⟩
theorem lw_p91 : lw_okq (⟨"BreatheAsOneModel", "happens", "(I)V"⟩, 38) := ⟨⟨by decide +kernel, by decide +kernel⟩, List.mem_of_getElem? (i := 1324) (by decide +kernel), List.mem_of_getElem? (i := 1759) (by decide +kernel), List.mem_of_getElem? (i := 1760) (by decide +kernel)⟩
theorem lw_p92 : lw_okq (⟨"BreatheAsOneModel", "breathOf", "(II)I"⟩, 38) := ⟨⟨by decide +kernel, by decide +kernel⟩, List.mem_of_getElem? (i := 1324) (by decide +kernel), List.mem_of_getElem? (i := 1768) (by decide +kernel), List.mem_of_getElem? (i := 1769) (by decide +kernel)⟩
theorem lw_p93 : lw_okq (⟨"BreatheAsOneModel", "isNote", "(I)Z"⟩, 38) := ⟨⟨by decide +kernel, by decide +kernel⟩, List.mem_of_getElem? (i := 1324) (by decide +kernel), List.mem_of_getElem? (i := 1783) (by decide +kernel), List.mem_of_getElem? (i := 1784) (by decide +kernel)⟩
theorem lw_p94 : lw_okq (⟨"BreatheAsOneModel", "airAt", "(I)I"⟩, 38) := ⟨⟨by decide +kernel, by decide +kernel⟩, List.mem_of_getElem? (i := 1324) (by decide +kernel), List.mem_of_getElem? (i := 1787) (by decide +kernel), List.mem_of_getElem? (i := 1788) (by decide +kernel)⟩
theorem lw_p95 : lw_okq (⟨"BreatheAsOneModel", "isHeld", "(II)Z"⟩, 38) := ⟨⟨by decide +kernel, by decide +kernel⟩, List.mem_of_getElem? (i := 1324) (by decide +kernel), List.mem_of_getElem? (i := 1791) (by decide +kernel), List.mem_of_getElem? (i := 1792) (by decide +kernel)⟩
def lw_privs_6 : List (MethodName × Nat) := [(⟨"BreatheAsOneModel", "coughs", "(I)I"⟩, 38), (⟨"BreatheAsOneModel", "drawn", "()I"⟩, 38), (⟨"BreatheAsOneModel", "anew", "()V"⟩, 38), (⟨"BreatheAsOneModel", "passesOf", "(I)I"⟩, 38), (⟨"BreatheAsOneModel", "name", "(II)V"⟩, 38), (⟨"BreatheAsOneModel", "timeOf", "(II)I"⟩, 38), (⟨"BreatheAsOneModel", "seatOf", "(II)I"⟩, 38), (⟨"BreatheAsOneModel", "says", "(IIII)I"⟩, 38), (⟨"BreatheAsOneModel", "clauseOf", "(II)I"⟩, 38), (⟨"BreatheAsOneModel", "work", "(II)V"⟩, 38), (⟨"BreatheAsOneModel", "isPlayed", "(I)Z"⟩, 38), (⟨"BreatheAsOneModel", "happens", "(I)V"⟩, 38), (⟨"BreatheAsOneModel", "breathOf", "(II)I"⟩, 38), (⟨"BreatheAsOneModel", "isNote", "(I)Z"⟩, 38), (⟨"BreatheAsOneModel", "airAt", "(I)I"⟩, 38), (⟨"BreatheAsOneModel", "isHeld", "(II)Z"⟩, 38)]
theorem lw_r6 : ∀ q ∈ lw_privs_6, lw_okq q := List.forall_mem_cons.mpr ⟨lw_p80, List.forall_mem_cons.mpr ⟨lw_p81, List.forall_mem_cons.mpr ⟨lw_p82, List.forall_mem_cons.mpr ⟨lw_p83, List.forall_mem_cons.mpr ⟨lw_p84, List.forall_mem_cons.mpr ⟨lw_p85, List.forall_mem_cons.mpr ⟨lw_p86, List.forall_mem_cons.mpr ⟨lw_p87, List.forall_mem_cons.mpr ⟨lw_p88, List.forall_mem_cons.mpr ⟨lw_p89, List.forall_mem_cons.mpr ⟨lw_p90, List.forall_mem_cons.mpr ⟨lw_p91, List.forall_mem_cons.mpr ⟨lw_p92, List.forall_mem_cons.mpr ⟨lw_p93, List.forall_mem_cons.mpr ⟨lw_p94, List.forall_mem_cons.mpr ⟨lw_p95, fun _ h => absurd h List.not_mem_nil⟩⟩⟩⟩⟩⟩⟩⟩⟩⟩⟩⟩⟩⟩⟩⟩
theorem lw_p96 : lw_okq (⟨"BreatheAsOneModel", "holdsBy", "(IIII)Z"⟩, 38) := ⟨⟨by decide +kernel, by decide +kernel⟩, List.mem_of_getElem? (i := 1324) (by decide +kernel), List.mem_of_getElem? (i := 1795) (by decide +kernel), List.mem_of_getElem? (i := 1796) (by decide +kernel)⟩
theorem lw_p97 : lw_okq (⟨"BreatheAsOneModel", "falls", "()I"⟩, 38) := ⟨⟨by decide +kernel, by decide +kernel⟩, List.mem_of_getElem? (i := 1324) (by decide +kernel), List.mem_of_getElem? (i := 1811) (by decide +kernel), List.mem_of_getElem? (i := 1812) (by decide +kernel)⟩
theorem lw_p98 : lw_okq (⟨"BreatheAsOneModel", "areNotes", "(I)Z"⟩, 38) := ⟨⟨by decide +kernel, by decide +kernel⟩, List.mem_of_getElem? (i := 1324) (by decide +kernel), List.mem_of_getElem? (i := 1819) (by decide +kernel), List.mem_of_getElem? (i := 1820) (by decide +kernel)⟩
theorem lw_p99 : lw_okq (⟨"BreatheAsOneModel", "turned", "(I)I"⟩, 38) := ⟨⟨by decide +kernel, by decide +kernel⟩, List.mem_of_getElem? (i := 1324) (by decide +kernel), List.mem_of_getElem? (i := 1823) (by decide +kernel), List.mem_of_getElem? (i := 1824) (by decide +kernel)⟩
theorem lw_p100 : lw_okq (⟨"BreatheAsOneModel", "fallsWith", "(II)I"⟩, 38) := ⟨⟨by decide +kernel, by decide +kernel⟩, List.mem_of_getElem? (i := 1324) (by decide +kernel), List.mem_of_getElem? (i := 1831) (by decide +kernel), List.mem_of_getElem? (i := 1832) (by decide +kernel)⟩
theorem lw_p101 : lw_okq (⟨"BreatheAsOneModel", "isSome", "(I)Z"⟩, 38) := ⟨⟨by decide +kernel, by decide +kernel⟩, List.mem_of_getElem? (i := 1324) (by decide +kernel), List.mem_of_getElem? (i := 1839) (by decide +kernel), List.mem_of_getElem? (i := 1840) (by decide +kernel)⟩
theorem lw_p102 : lw_okq (⟨"BreatheAsOneModel", "bestSeats", "(I)I"⟩, 38) := ⟨⟨by decide +kernel, by decide +kernel⟩, List.mem_of_getElem? (i := 1324) (by decide +kernel), List.mem_of_getElem? (i := 1849) (by decide +kernel), List.mem_of_getElem? (i := 1850) (by decide +kernel)⟩
theorem lw_p103 : lw_okq (⟨"BreatheAsOneModel", "manyHold", "(I)I"⟩, 38) := ⟨⟨by decide +kernel, by decide +kernel⟩, List.mem_of_getElem? (i := 1324) (by decide +kernel), List.mem_of_getElem? (i := 1853) (by decide +kernel), List.mem_of_getElem? (i := 1854) (by decide +kernel)⟩
theorem lw_p104 : lw_okq (⟨"BreatheAsOneModel", "nextOrder", "()Z"⟩, 38) := ⟨⟨by decide +kernel, by decide +kernel⟩, List.mem_of_getElem? (i := 1324) (by decide +kernel), List.mem_of_getElem? (i := 1857) (by decide +kernel), List.mem_of_getElem? (i := 1858) (by decide +kernel)⟩
theorem lw_p105 : lw_okq (⟨"BreatheAsOneModel", "inTimeWith", "(I)I"⟩, 38) := ⟨⟨by decide +kernel, by decide +kernel⟩, List.mem_of_getElem? (i := 1324) (by decide +kernel), List.mem_of_getElem? (i := 1877) (by decide +kernel), List.mem_of_getElem? (i := 1878) (by decide +kernel)⟩
theorem lw_p106 : lw_okq (⟨"BreatheAsOneModel", "laySides", "(II)V"⟩, 38) := ⟨⟨by decide +kernel, by decide +kernel⟩, List.mem_of_getElem? (i := 1324) (by decide +kernel), List.mem_of_getElem? (i := 1902) (by decide +kernel), List.mem_of_getElem? (i := 1903) (by decide +kernel)⟩
theorem lw_p107 : lw_okq (⟨"BreatheAsOneModel", "findFalls", "(I)V"⟩, 38) := ⟨⟨by decide +kernel, by decide +kernel⟩, List.mem_of_getElem? (i := 1324) (by decide +kernel), List.mem_of_getElem? (i := 1906) (by decide +kernel), List.mem_of_getElem? (i := 1907) (by decide +kernel)⟩
theorem lw_p108 : lw_okq (⟨"BreatheAsOneModel", "isGood", "(III)Z"⟩, 38) := ⟨⟨by decide +kernel, by decide +kernel⟩, List.mem_of_getElem? (i := 1324) (by decide +kernel), List.mem_of_getElem? (i := 1910) (by decide +kernel), List.mem_of_getElem? (i := 1911) (by decide +kernel)⟩
theorem lw_p109 : lw_okq (⟨"BreatheAsOneModel", "nthOf", "(I)I"⟩, 38) := ⟨⟨by decide +kernel, by decide +kernel⟩, List.mem_of_getElem? (i := 1324) (by decide +kernel), List.mem_of_getElem? (i := 1922) (by decide +kernel), List.mem_of_getElem? (i := 1923) (by decide +kernel)⟩
theorem lw_p110 : lw_okq (⟨"BreatheAsOneModel", "isAsTold", "()Z"⟩, 38) := ⟨⟨by decide +kernel, by decide +kernel⟩, List.mem_of_getElem? (i := 1324) (by decide +kernel), List.mem_of_getElem? (i := 1926) (by decide +kernel), List.mem_of_getElem? (i := 1927) (by decide +kernel)⟩
theorem lw_p111 : lw_okq (⟨"BreatheAsOneModel", "isAsSeen", "(I)Z"⟩, 38) := ⟨⟨by decide +kernel, by decide +kernel⟩, List.mem_of_getElem? (i := 1324) (by decide +kernel), List.mem_of_getElem? (i := 1942) (by decide +kernel), List.mem_of_getElem? (i := 1943) (by decide +kernel)⟩
def lw_privs_7 : List (MethodName × Nat) := [(⟨"BreatheAsOneModel", "holdsBy", "(IIII)Z"⟩, 38), (⟨"BreatheAsOneModel", "falls", "()I"⟩, 38), (⟨"BreatheAsOneModel", "areNotes", "(I)Z"⟩, 38), (⟨"BreatheAsOneModel", "turned", "(I)I"⟩, 38), (⟨"BreatheAsOneModel", "fallsWith", "(II)I"⟩, 38), (⟨"BreatheAsOneModel", "isSome", "(I)Z"⟩, 38), (⟨"BreatheAsOneModel", "bestSeats", "(I)I"⟩, 38), (⟨"BreatheAsOneModel", "manyHold", "(I)I"⟩, 38), (⟨"BreatheAsOneModel", "nextOrder", "()Z"⟩, 38), (⟨"BreatheAsOneModel", "inTimeWith", "(I)I"⟩, 38), (⟨"BreatheAsOneModel", "laySides", "(II)V"⟩, 38), (⟨"BreatheAsOneModel", "findFalls", "(I)V"⟩, 38), (⟨"BreatheAsOneModel", "isGood", "(III)Z"⟩, 38), (⟨"BreatheAsOneModel", "nthOf", "(I)I"⟩, 38), (⟨"BreatheAsOneModel", "isAsTold", "()Z"⟩, 38), (⟨"BreatheAsOneModel", "isAsSeen", "(I)Z"⟩, 38)]
theorem lw_r7 : ∀ q ∈ lw_privs_7, lw_okq q := List.forall_mem_cons.mpr ⟨lw_p96, List.forall_mem_cons.mpr ⟨lw_p97, List.forall_mem_cons.mpr ⟨lw_p98, List.forall_mem_cons.mpr ⟨lw_p99, List.forall_mem_cons.mpr ⟨lw_p100, List.forall_mem_cons.mpr ⟨lw_p101, List.forall_mem_cons.mpr ⟨lw_p102, List.forall_mem_cons.mpr ⟨lw_p103, List.forall_mem_cons.mpr ⟨lw_p104, List.forall_mem_cons.mpr ⟨lw_p105, List.forall_mem_cons.mpr ⟨lw_p106, List.forall_mem_cons.mpr ⟨lw_p107, List.forall_mem_cons.mpr ⟨lw_p108, List.forall_mem_cons.mpr ⟨lw_p109, List.forall_mem_cons.mpr ⟨lw_p110, List.forall_mem_cons.mpr ⟨lw_p111, fun _ h => absurd h List.not_mem_nil⟩⟩⟩⟩⟩⟩⟩⟩⟩⟩⟩⟩⟩⟩⟩⟩
def lw_privs : List (MethodName × Nat) := lw_privs_1 ++ (lw_privs_2 ++ (lw_privs_3 ++ (lw_privs_4 ++ (lw_privs_5 ++ (lw_privs_6 ++ (lw_privs_7))))))
def lw_tbl : List Cond := k2_sels lw_privs ++ tables_1
theorem lw_privs_ok : ∀ q ∈ lw_privs, lw_okq q := by
  show ∀ q ∈ lw_privs_1 ++ (lw_privs_2 ++ (lw_privs_3 ++ (lw_privs_4 ++ (lw_privs_5 ++ (lw_privs_6 ++ (lw_privs_7)))))), lw_okq q
  exact List.forall_mem_append.mpr ⟨lw_r1, List.forall_mem_append.mpr ⟨lw_r2, List.forall_mem_append.mpr ⟨lw_r3, List.forall_mem_append.mpr ⟨lw_r4, List.forall_mem_append.mpr ⟨lw_r5, List.forall_mem_append.mpr ⟨lw_r6, lw_r7⟩⟩⟩⟩⟩⟩
-- ===== end of PART A; then your names; then what follows =====
/-! owners of fields, printed by program -/
def TX0 : u_T := fun k => match k with
  | 0 => ("BreatheAsOne$Breathing", "house", "LBreatheAsOne$House;", true)
  | 1 => ("BreatheAsOne$Breathing", "moment", "LBreatheAsOne$Moment;", true)
  | 2 => ("BreatheAsOne$Breathing", "names", "[I", true)
  | 3 => ("BreatheAsOne$Breathing", "stack", "[I", true)
  | 4 => ("BreatheAsOne$Breathing", "verdicts", "[I", true)
  | 5 => ("BreatheAsOne$Breathing", "asking", "I", false)
  | _ => ("BreatheAsOne$Breathing", "askedNote", "I", false)
def tyX0 : Nat → FieldType := fun k => match k with
  | 0 => (.object "BreatheAsOne$House")
  | 1 => (.object "BreatheAsOne$Moment")
  | 2 => (.array .int)
  | 3 => (.array .int)
  | 4 => (.array .int)
  | 5 => .int
  | _ => .int
def TX1 : u_T := fun k => match k with
  | 0 => ("BreatheAsOne$Deeds", "house", "LBreatheAsOne$House;", true)
  | 1 => ("BreatheAsOne$Deeds", "moment", "LBreatheAsOne$Moment;", true)
  | 2 => ("BreatheAsOne$Deeds", "steps", "LBreatheAsOne$Steps;", true)
  | _ => ("BreatheAsOne$Deeds", "breathing", "LBreatheAsOne$Breathing;", true)
def tyX1 : Nat → FieldType := fun k => match k with
  | 0 => (.object "BreatheAsOne$House")
  | 1 => (.object "BreatheAsOne$Moment")
  | 2 => (.object "BreatheAsOne$Steps")
  | _ => (.object "BreatheAsOne$Breathing")
def TX2 : u_T := fun k => match k with
  | 0 => ("BreatheAsOne$Games", "house", "LBreatheAsOne$House;", true)
  | 1 => ("BreatheAsOne$Games", "moment", "LBreatheAsOne$Moment;", true)
  | 2 => ("BreatheAsOne$Games", "told", "LBreatheAsOne$Told;", true)
  | 3 => ("BreatheAsOne$Games", "breathing", "LBreatheAsOne$Breathing;", true)
  | 4 => ("BreatheAsOne$Games", "members", "[I", true)
  | 5 => ("BreatheAsOne$Games", "places", "[I", true)
  | 6 => ("BreatheAsOne$Games", "order", "[I", true)
  | 7 => ("BreatheAsOne$Games", "breaths", "[I", true)
  | 8 => ("BreatheAsOne$Games", "held", "[I", true)
  | 9 => ("BreatheAsOne$Games", "rivals", "[I", true)
  | 10 => ("BreatheAsOne$Games", "firstAir", "[I", true)
  | 11 => ("BreatheAsOne$Games", "secondAir", "[I", true)
  | _ => ("BreatheAsOne$Games", "wins", "[I", true)
def tyX2 : Nat → FieldType := fun k => match k with
  | 0 => (.object "BreatheAsOne$House")
  | 1 => (.object "BreatheAsOne$Moment")
  | 2 => (.object "BreatheAsOne$Told")
  | 3 => (.object "BreatheAsOne$Breathing")
  | 4 => (.array .int)
  | 5 => (.array .int)
  | 6 => (.array .int)
  | 7 => (.array .int)
  | 8 => (.array .int)
  | 9 => (.array .int)
  | 10 => (.array .int)
  | 11 => (.array .int)
  | _ => (.array .int)
def TX3 : u_T := fun k => match k with
  | 0 => ("BreatheAsOne$House", "seatCount", "I", false)
  | 1 => ("BreatheAsOne$House", "block", "[I", true)
  | 2 => ("BreatheAsOne$House", "lag", "[I", true)
  | 3 => ("BreatheAsOne$House", "peopleCount", "I", false)
  | 4 => ("BreatheAsOne$House", "chest", "[I", true)
  | 5 => ("BreatheAsOne$House", "pulse", "[I", true)
  | 6 => ("BreatheAsOne$House", "start", "[I", true)
  | 7 => ("BreatheAsOne$House", "noteCount", "I", false)
  | 8 => ("BreatheAsOne$House", "noteBeat", "[I", true)
  | 9 => ("BreatheAsOne$House", "noteHigh", "[I", true)
  | 10 => ("BreatheAsOne$House", "textCount", "I", false)
  | 11 => ("BreatheAsOne$House", "texts", "[LBreatheAsOne$Text;", true)
  | _ => ("BreatheAsOne$House", "ruling", "I", false)
def tyX3 : Nat → FieldType := fun k => match k with
  | 0 => .int
  | 1 => (.array .int)
  | 2 => (.array .int)
  | 3 => .int
  | 4 => (.array .int)
  | 5 => (.array .int)
  | 6 => (.array .int)
  | 7 => .int
  | 8 => (.array .int)
  | 9 => (.array .int)
  | 10 => .int
  | 11 => (.array (.object "BreatheAsOne$Text"))
  | _ => .int
def TX4 : u_T := fun k => match k with
  | 0 => ("BreatheAsOne$Moment", "seatOf", "[I", true)
  | 1 => ("BreatheAsOne$Moment", "how", "[I", true)
  | 2 => ("BreatheAsOne$Moment", "ushers", "I", false)
  | 3 => ("BreatheAsOne$Moment", "beat", "I", false)
  | 4 => ("BreatheAsOne$Moment", "x", "I", false)
  | 5 => ("BreatheAsOne$Moment", "coughCount", "I", false)
  | 6 => ("BreatheAsOne$Moment", "coughWho", "[I", true)
  | _ => ("BreatheAsOne$Moment", "coughBeat", "[I", true)
def tyX4 : Nat → FieldType := fun k => match k with
  | 0 => (.array .int)
  | 1 => (.array .int)
  | 2 => .int
  | 3 => .int
  | 4 => .int
  | 5 => .int
  | 6 => (.array .int)
  | _ => (.array .int)
def TX5 : u_T := fun k => match k with
  | 0 => ("BreatheAsOne$Questions", "house", "LBreatheAsOne$House;", true)
  | 1 => ("BreatheAsOne$Questions", "moment", "LBreatheAsOne$Moment;", true)
  | 2 => ("BreatheAsOne$Questions", "told", "LBreatheAsOne$Told;", true)
  | 3 => ("BreatheAsOne$Questions", "breathing", "LBreatheAsOne$Breathing;", true)
  | 4 => ("BreatheAsOne$Questions", "airs", "[I", true)
  | 5 => ("BreatheAsOne$Questions", "blockAir", "[I", true)
  | _ => ("BreatheAsOne$Questions", "changes", "[I", true)
def tyX5 : Nat → FieldType := fun k => match k with
  | 0 => (.object "BreatheAsOne$House")
  | 1 => (.object "BreatheAsOne$Moment")
  | 2 => (.object "BreatheAsOne$Told")
  | 3 => (.object "BreatheAsOne$Breathing")
  | 4 => (.array .int)
  | 5 => (.array .int)
  | _ => (.array .int)
def TX6 : u_T := fun k => match k with
  | 0 => ("BreatheAsOne$Reader", "tokens", "[I", true)
  | 1 => ("BreatheAsOne$Reader", "places", "[I", true)
  | 2 => ("BreatheAsOne$Reader", "at", "I", false)
  | 3 => ("BreatheAsOne$Reader", "kind", "I", false)
  | 4 => ("BreatheAsOne$Reader", "value", "I", false)
  | 5 => ("BreatheAsOne$Reader", "code", "[I", true)
  | 6 => ("BreatheAsOne$Reader", "codeLength", "I", false)
  | 7 => ("BreatheAsOne$Reader", "law", "I", false)
  | 8 => ("BreatheAsOne$Reader", "breath", "[I", false)
  | 9 => ("BreatheAsOne$Reader", "passes", "[I", false)
  | 10 => ("BreatheAsOne$Reader", "holds", "[I", false)
  | 11 => ("BreatheAsOne$Reader", "clauses", "[I", true)
  | 12 => ("BreatheAsOne$Reader", "clauseCount", "I", false)
  | 13 => ("BreatheAsOne$Reader", "hasRead", "Z", false)
  | 14 => ("BreatheAsOne$Reader", "fault", "I", false)
  | _ => ("BreatheAsOne$Reader", "faultPlace", "I", false)
def tyX6 : Nat → FieldType := fun k => match k with
  | 0 => (.array .int)
  | 1 => (.array .int)
  | 2 => .int
  | 3 => .int
  | 4 => .int
  | 5 => (.array .int)
  | 6 => .int
  | 7 => .int
  | 8 => (.array .int)
  | 9 => (.array .int)
  | 10 => (.array .int)
  | 11 => (.array .int)
  | 12 => .int
  | 13 => .boolean
  | 14 => .int
  | _ => .int
def TX7 : u_T := fun k => match k with
  | 0 => ("BreatheAsOne$Steps", "rows", "[I", true)
  | 1 => ("BreatheAsOne$Steps", "next", "I", false)
  | _ => ("BreatheAsOne$Steps", "count", "I", false)
def tyX7 : Nat → FieldType := fun k => match k with
  | 0 => (.array .int)
  | 1 => .int
  | _ => .int
def TX8 : u_T := fun k => match k with
  | 0 => ("BreatheAsOne$Text", "breath", "[I", true)
  | 1 => ("BreatheAsOne$Text", "passes", "[I", true)
  | 2 => ("BreatheAsOne$Text", "holds", "[I", true)
  | 3 => ("BreatheAsOne$Text", "clauses", "[I", true)
  | _ => ("BreatheAsOne$Text", "clauseCount", "I", true)
def tyX8 : Nat → FieldType := fun k => match k with
  | 0 => (.array .int)
  | 1 => (.array .int)
  | 2 => (.array .int)
  | 3 => (.array .int)
  | _ => .int
def TX9 : u_T := fun k => match k with
  | 0 => ("BreatheAsOne$Told", "besideCount", "I", false)
  | 1 => ("BreatheAsOne$Told", "besideOne", "[I", true)
  | 2 => ("BreatheAsOne$Told", "besideOther", "[I", true)
  | 3 => ("BreatheAsOne$Told", "seenCount", "I", false)
  | 4 => ("BreatheAsOne$Told", "seenWho", "[I", true)
  | 5 => ("BreatheAsOne$Told", "seenBeat", "[I", true)
  | _ => ("BreatheAsOne$Told", "seenHow", "[I", true)
def tyX9 : Nat → FieldType := fun k => match k with
  | 0 => .int
  | 1 => (.array .int)
  | 2 => (.array .int)
  | 3 => .int
  | 4 => (.array .int)
  | 5 => (.array .int)
  | _ => (.array .int)
def TX10 : u_T := fun k => match k with
  | 0 => ("BreatheAsOne", "house", "LBreatheAsOne$House;", true)
  | 1 => ("BreatheAsOne", "moment", "LBreatheAsOne$Moment;", true)
  | 2 => ("BreatheAsOne", "steps", "LBreatheAsOne$Steps;", true)
  | 3 => ("BreatheAsOne", "told", "LBreatheAsOne$Told;", true)
  | 4 => ("BreatheAsOne", "imageHouse", "LBreatheAsOne$House;", true)
  | 5 => ("BreatheAsOne", "imageMoment", "LBreatheAsOne$Moment;", true)
  | 6 => ("BreatheAsOne", "imageSteps", "LBreatheAsOne$Steps;", true)
  | 7 => ("BreatheAsOne", "imageTold", "LBreatheAsOne$Told;", true)
  | 8 => ("BreatheAsOne", "tape", "[B", true)
  | 9 => ("BreatheAsOne", "tapeLength", "I", false)
  | 10 => ("BreatheAsOne", "reader", "LBreatheAsOne$Reader;", true)
  | 11 => ("BreatheAsOne", "breathing", "LBreatheAsOne$Breathing;", true)
  | 12 => ("BreatheAsOne", "deeds", "LBreatheAsOne$Deeds;", true)
  | 13 => ("BreatheAsOne", "questions", "LBreatheAsOne$Questions;", true)
  | _ => ("BreatheAsOne", "games", "LBreatheAsOne$Games;", true)
def tyX10 : Nat → FieldType := fun k => match k with
  | 0 => (.object "BreatheAsOne$House")
  | 1 => (.object "BreatheAsOne$Moment")
  | 2 => (.object "BreatheAsOne$Steps")
  | 3 => (.object "BreatheAsOne$Told")
  | 4 => (.object "BreatheAsOne$House")
  | 5 => (.object "BreatheAsOne$Moment")
  | 6 => (.object "BreatheAsOne$Steps")
  | 7 => (.object "BreatheAsOne$Told")
  | 8 => (.array .byte)
  | 9 => .int
  | 10 => (.object "BreatheAsOne$Reader")
  | 11 => (.object "BreatheAsOne$Breathing")
  | 12 => (.object "BreatheAsOne$Deeds")
  | 13 => (.object "BreatheAsOne$Questions")
  | _ => (.object "BreatheAsOne$Games")
def TX11 : u_T := fun k => match k with
  | 0 => ("BreatheAsOneModel", "a", "[I", true)
  | 1 => ("BreatheAsOneModel", "image", "[I", true)
  | 2 => ("BreatheAsOneModel", "texts", "[I", true)
  | 3 => ("BreatheAsOneModel", "tape", "[I", true)
  | 4 => ("BreatheAsOneModel", "taped", "I", false)
  | 5 => ("BreatheAsOneModel", "fault", "I", false)
  | 6 => ("BreatheAsOneModel", "faultPlace", "I", false)
  | 7 => ("BreatheAsOneModel", "at", "I", false)
  | 8 => ("BreatheAsOneModel", "place", "I", false)
  | 9 => ("BreatheAsOneModel", "token", "I", false)
  | 10 => ("BreatheAsOneModel", "number", "I", false)
  | 11 => ("BreatheAsOneModel", "word", "J", false)
  | 12 => ("BreatheAsOneModel", "text0", "I", false)
  | 13 => ("BreatheAsOneModel", "written", "I", false)
  | 14 => ("BreatheAsOneModel", "sort0", "I", false)
  | 15 => ("BreatheAsOneModel", "pile", "[I", true)
  | 16 => ("BreatheAsOneModel", "piled", "I", false)
  | 17 => ("BreatheAsOneModel", "opens", "I", false)
  | 18 => ("BreatheAsOneModel", "isWhole", "Z", false)
  | 19 => ("BreatheAsOneModel", "isEither", "Z", false)
  | 20 => ("BreatheAsOneModel", "once", "I", false)
  | 21 => ("BreatheAsOneModel", "named", "[I", true)
  | 22 => ("BreatheAsOneModel", "values", "[J", true)
  | 23 => ("BreatheAsOneModel", "truth", "[Z", true)
  | 24 => ("BreatheAsOneModel", "hiccup", "I", false)
  | 25 => ("BreatheAsOneModel", "hiccupBeat", "I", false)
  | 26 => ("BreatheAsOneModel", "member", "[I", true)
  | 27 => ("BreatheAsOneModel", "place0", "[I", true)
  | 28 => ("BreatheAsOneModel", "order", "[I", true)
  | 29 => ("BreatheAsOneModel", "bestOrder", "[I", true)
  | 30 => ("BreatheAsOneModel", "sat", "[I", true)
  | 31 => ("BreatheAsOneModel", "members", "I", false)
  | 32 => ("BreatheAsOneModel", "side", "[I", true)
  | 33 => ("BreatheAsOneModel", "hows", "[I", true)
  | 34 => ("BreatheAsOneModel", "winsNow", "[Z", true)
  | 35 => ("BreatheAsOneModel", "fallsBy", "[Z", true)
  | 36 => ("BreatheAsOneModel", "firsts", "I", false)
  | _ => ("BreatheAsOneModel", "both", "I", false)
def tyX11 : Nat → FieldType := fun k => match k with
  | 0 => (.array .int)
  | 1 => (.array .int)
  | 2 => (.array .int)
  | 3 => (.array .int)
  | 4 => .int
  | 5 => .int
  | 6 => .int
  | 7 => .int
  | 8 => .int
  | 9 => .int
  | 10 => .int
  | 11 => .long
  | 12 => .int
  | 13 => .int
  | 14 => .int
  | 15 => (.array .int)
  | 16 => .int
  | 17 => .int
  | 18 => .boolean
  | 19 => .boolean
  | 20 => .int
  | 21 => (.array .int)
  | 22 => (.array .long)
  | 23 => (.array .boolean)
  | 24 => .int
  | 25 => .int
  | 26 => (.array .int)
  | 27 => (.array .int)
  | 28 => (.array .int)
  | 29 => (.array .int)
  | 30 => (.array .int)
  | 31 => .int
  | 32 => (.array .int)
  | 33 => (.array .int)
  | 34 => (.array .boolean)
  | 35 => (.array .boolean)
  | 36 => .int
  | _ => .int
def z_R : Nat → String := fun k => match k with
  | 0 => "BreatheAsOne$Breathing"
  | 1 => "BreatheAsOne$Deeds"
  | 2 => "BreatheAsOne$Games"
  | 3 => "BreatheAsOne$House"
  | 4 => "BreatheAsOne$Moment"
  | 5 => "BreatheAsOne$Questions"
  | 6 => "BreatheAsOne$Reader"
  | 7 => "BreatheAsOne$Steps"
  | 8 => "BreatheAsOne$Text"
  | 9 => "BreatheAsOne$Told"
  | 10 => "BreatheAsOne"
  | _ => "BreatheAsOneModel"
def z_T : Nat → u_T := fun k => match k with
  | 0 => TX0
  | 1 => TX1
  | 2 => TX2
  | 3 => TX3
  | 4 => TX4
  | 5 => TX5
  | 6 => TX6
  | 7 => TX7
  | 8 => TX8
  | 9 => TX9
  | 10 => TX10
  | _ => TX11
def z_ty : Nat → Nat → FieldType := fun k => match k with
  | 0 => tyX0
  | 1 => tyX1
  | 2 => tyX2
  | 3 => tyX3
  | 4 => tyX4
  | 5 => tyX5
  | 6 => tyX6
  | 7 => tyX7
  | 8 => tyX8
  | 9 => tyX9
  | 10 => tyX10
  | _ => tyX11
def z_nf : Nat → Nat := fun k => match k with
  | 0 => 7
  | 1 => 4
  | 2 => 13
  | 3 => 13
  | 4 => 8
  | 5 => 7
  | 6 => 16
  | 7 => 3
  | 8 => 5
  | 9 => 7
  | 10 => 15
  | _ => 38
abbrev vwCl : List vw_C := [(z_R 0, z_T 0, z_nf 0), (z_R 1, z_T 1, z_nf 1), (z_R 2, z_T 2, z_nf 2), (z_R 3, z_T 3, z_nf 3), (z_R 4, z_T 4, z_nf 4), (z_R 5, z_T 5, z_nf 5), (z_R 6, z_T 6, z_nf 6), (z_R 7, z_T 7, z_nf 7), (z_R 8, z_T 8, z_nf 8), (z_R 9, z_T 9, z_nf 9), (z_R 10, z_T 10, z_nf 10), (z_R 11, z_T 11, z_nf 11)]
theorem z_cl {i : Nat} (h : i < 12) : vwCl[i]? = some (z_R i, z_T i, z_nf i) := by
  match i, h with
  | 0, _ => rfl
  | 1, _ => rfl
  | 2, _ => rfl
  | 3, _ => rfl
  | 4, _ => rfl
  | 5, _ => rfl
  | 6, _ => rfl
  | 7, _ => rfl
  | 8, _ => rfl
  | 9, _ => rfl
  | 10, _ => rfl
  | 11, _ => rfl
theorem z_in0 : ∀ w ∈ u_ws (z_R 0) (z_T 0) 7, w ∈ lw_tbl := by decide +kernel
theorem z_nm0 : ∀ a, a < 7 → ∀ b, b < 7 → a ≠ b → (z_T 0 a).2.1 ≠ (z_T 0 b).2.1 := by decide +kernel
theorem z_ty0 : ∀ k, k < 7 → parseFieldDescriptor (z_T 0 k).2.2.1 = some (z_ty 0 k) := by decide +kernel
theorem z_ib0 : Cond.instantiable (z_R 0) 7 ∈ lw_tbl ∧ Cond.initialized (z_R 0) ∈ lw_tbl := ⟨List.mem_append_right _ (List.mem_of_getElem? (i := 287) (by decide +kernel)), List.mem_append_right _ (List.mem_of_getElem? (i := 8) (by decide +kernel))⟩
theorem z_in1 : ∀ w ∈ u_ws (z_R 1) (z_T 1) 4, w ∈ lw_tbl := by decide +kernel
theorem z_nm1 : ∀ a, a < 4 → ∀ b, b < 4 → a ≠ b → (z_T 1 a).2.1 ≠ (z_T 1 b).2.1 := by decide +kernel
theorem z_ty1 : ∀ k, k < 4 → parseFieldDescriptor (z_T 1 k).2.2.1 = some (z_ty 1 k) := by decide +kernel
theorem z_ib1 : Cond.instantiable (z_R 1) 4 ∈ lw_tbl ∧ Cond.initialized (z_R 1) ∈ lw_tbl := ⟨List.mem_append_right _ (List.mem_of_getElem? (i := 315) (by decide +kernel)), List.mem_append_right _ (List.mem_of_getElem? (i := 9) (by decide +kernel))⟩
theorem z_in2 : ∀ w ∈ u_ws (z_R 2) (z_T 2) 13, w ∈ lw_tbl := by decide +kernel
theorem z_nm2 : ∀ a, a < 13 → ∀ b, b < 13 → a ≠ b → (z_T 2 a).2.1 ≠ (z_T 2 b).2.1 := by decide +kernel
theorem z_ty2 : ∀ k, k < 13 → parseFieldDescriptor (z_T 2 k).2.2.1 = some (z_ty 2 k) := by decide +kernel
theorem z_ib2 : Cond.instantiable (z_R 2) 13 ∈ lw_tbl ∧ Cond.initialized (z_R 2) ∈ lw_tbl := ⟨List.mem_append_right _ (List.mem_of_getElem? (i := 362) (by decide +kernel)), List.mem_append_right _ (List.mem_of_getElem? (i := 11) (by decide +kernel))⟩
theorem z_in3 : ∀ w ∈ u_ws (z_R 3) (z_T 3) 13, w ∈ lw_tbl := by decide +kernel
theorem z_nm3 : ∀ a, a < 13 → ∀ b, b < 13 → a ≠ b → (z_T 3 a).2.1 ≠ (z_T 3 b).2.1 := by decide +kernel
theorem z_ty3 : ∀ k, k < 13 → parseFieldDescriptor (z_T 3 k).2.2.1 = some (z_ty 3 k) := by decide +kernel
theorem z_ib3 : Cond.instantiable (z_R 3) 13 ∈ lw_tbl ∧ Cond.initialized (z_R 3) ∈ lw_tbl := ⟨List.mem_append_right _ (List.mem_of_getElem? (i := 31) (by decide +kernel)), List.mem_append_right _ (List.mem_of_getElem? (i := 2) (by decide +kernel))⟩
theorem z_in4 : ∀ w ∈ u_ws (z_R 4) (z_T 4) 8, w ∈ lw_tbl := by decide +kernel
theorem z_nm4 : ∀ a, a < 8 → ∀ b, b < 8 → a ≠ b → (z_T 4 a).2.1 ≠ (z_T 4 b).2.1 := by decide +kernel
theorem z_ty4 : ∀ k, k < 8 → parseFieldDescriptor (z_T 4 k).2.2.1 = some (z_ty 4 k) := by decide +kernel
theorem z_ib4 : Cond.instantiable (z_R 4) 8 ∈ lw_tbl ∧ Cond.initialized (z_R 4) ∈ lw_tbl := ⟨List.mem_append_right _ (List.mem_of_getElem? (i := 115) (by decide +kernel)), List.mem_append_right _ (List.mem_of_getElem? (i := 3) (by decide +kernel))⟩
theorem z_in5 : ∀ w ∈ u_ws (z_R 5) (z_T 5) 7, w ∈ lw_tbl := by decide +kernel
theorem z_nm5 : ∀ a, a < 7 → ∀ b, b < 7 → a ≠ b → (z_T 5 a).2.1 ≠ (z_T 5 b).2.1 := by decide +kernel
theorem z_ty5 : ∀ k, k < 7 → parseFieldDescriptor (z_T 5 k).2.2.1 = some (z_ty 5 k) := by decide +kernel
theorem z_ib5 : Cond.instantiable (z_R 5) 7 ∈ lw_tbl ∧ Cond.initialized (z_R 5) ∈ lw_tbl := ⟨List.mem_append_right _ (List.mem_of_getElem? (i := 334) (by decide +kernel)), List.mem_append_right _ (List.mem_of_getElem? (i := 10) (by decide +kernel))⟩
theorem z_in6 : ∀ w ∈ u_ws (z_R 6) (z_T 6) 16, w ∈ lw_tbl := by decide +kernel
theorem z_nm6 : ∀ a, a < 16 → ∀ b, b < 16 → a ≠ b → (z_T 6 a).2.1 ≠ (z_T 6 b).2.1 := by decide +kernel
theorem z_ty6 : ∀ k, k < 16 → parseFieldDescriptor (z_T 6 k).2.2.1 = some (z_ty 6 k) := by decide +kernel
theorem z_ib6 : Cond.instantiable (z_R 6) 16 ∈ lw_tbl ∧ Cond.initialized (z_R 6) ∈ lw_tbl := ⟨List.mem_append_right _ (List.mem_of_getElem? (i := 228) (by decide +kernel)), List.mem_append_right _ (List.mem_of_getElem? (i := 7) (by decide +kernel))⟩
theorem z_in7 : ∀ w ∈ u_ws (z_R 7) (z_T 7) 3, w ∈ lw_tbl := by decide +kernel
theorem z_nm7 : ∀ a, a < 3 → ∀ b, b < 3 → a ≠ b → (z_T 7 a).2.1 ≠ (z_T 7 b).2.1 := by decide +kernel
theorem z_ty7 : ∀ k, k < 3 → parseFieldDescriptor (z_T 7 k).2.2.1 = some (z_ty 7 k) := by decide +kernel
theorem z_ib7 : Cond.instantiable (z_R 7) 3 ∈ lw_tbl ∧ Cond.initialized (z_R 7) ∈ lw_tbl := ⟨List.mem_append_right _ (List.mem_of_getElem? (i := 174) (by decide +kernel)), List.mem_append_right _ (List.mem_of_getElem? (i := 5) (by decide +kernel))⟩
theorem z_in8 : ∀ w ∈ u_ws (z_R 8) (z_T 8) 5, w ∈ lw_tbl := by decide +kernel
theorem z_nm8 : ∀ a, a < 5 → ∀ b, b < 5 → a ≠ b → (z_T 8 a).2.1 ≠ (z_T 8 b).2.1 := by decide +kernel
theorem z_ty8 : ∀ k, k < 5 → parseFieldDescriptor (z_T 8 k).2.2.1 = some (z_ty 8 k) := by decide +kernel
theorem z_ib8 : Cond.instantiable (z_R 8) 5 ∈ lw_tbl ∧ Cond.initialized (z_R 8) ∈ lw_tbl := ⟨List.mem_append_right _ (List.mem_of_getElem? (i := 714) (by decide +kernel)), List.mem_append_right _ (List.mem_of_getElem? (i := 20) (by decide +kernel))⟩
theorem z_in9 : ∀ w ∈ u_ws (z_R 9) (z_T 9) 7, w ∈ lw_tbl := by decide +kernel
theorem z_nm9 : ∀ a, a < 7 → ∀ b, b < 7 → a ≠ b → (z_T 9 a).2.1 ≠ (z_T 9 b).2.1 := by decide +kernel
theorem z_ty9 : ∀ k, k < 7 → parseFieldDescriptor (z_T 9 k).2.2.1 = some (z_ty 9 k) := by decide +kernel
theorem z_ib9 : Cond.instantiable (z_R 9) 7 ∈ lw_tbl ∧ Cond.initialized (z_R 9) ∈ lw_tbl := ⟨List.mem_append_right _ (List.mem_of_getElem? (i := 191) (by decide +kernel)), List.mem_append_right _ (List.mem_of_getElem? (i := 6) (by decide +kernel))⟩
theorem z_in10 : ∀ w ∈ u_ws (z_R 10) (z_T 10) 15, w ∈ lw_tbl := by decide +kernel
theorem z_nm10 : ∀ a, a < 15 → ∀ b, b < 15 → a ≠ b → (z_T 10 a).2.1 ≠ (z_T 10 b).2.1 := by decide +kernel
theorem z_ty10 : ∀ k, k < 15 → parseFieldDescriptor (z_T 10 k).2.2.1 = some (z_ty 10 k) := by decide +kernel
theorem z_ib10 : Cond.instantiable (z_R 10) 15 ∈ lw_tbl ∧ Cond.initialized (z_R 10) ∈ lw_tbl := ⟨List.mem_append_right _ (List.mem_of_getElem? (i := 23) (by decide +kernel)), List.mem_append_right _ (List.mem_of_getElem? (i := 1) (by decide +kernel))⟩
theorem z_in11 : ∀ w ∈ u_ws (z_R 11) (z_T 11) 38, w ∈ lw_tbl := by decide +kernel
theorem z_nm11 : ∀ a, a < 38 → ∀ b, b < 38 → a ≠ b → (z_T 11 a).2.1 ≠ (z_T 11 b).2.1 := by decide +kernel
theorem z_ty11 : ∀ k, k < 38 → parseFieldDescriptor (z_T 11 k).2.2.1 = some (z_ty 11 k) := by decide +kernel
theorem z_ib11 : Cond.instantiable (z_R 11) 38 ∈ lw_tbl ∧ Cond.initialized (z_R 11) ∈ lw_tbl := ⟨List.mem_append_right _ (List.mem_of_getElem? (i := 1324) (by decide +kernel)), List.mem_append_right _ (List.mem_of_getElem? (i := 12) (by decide +kernel))⟩
theorem z_all_in {i : Nat} (h : i < 12) : ∀ w ∈ u_ws (z_R i) (z_T i) (z_nf i), w ∈ lw_tbl := by
  match i, h with
  | 0, _ => exact z_in0
  | 1, _ => exact z_in1
  | 2, _ => exact z_in2
  | 3, _ => exact z_in3
  | 4, _ => exact z_in4
  | 5, _ => exact z_in5
  | 6, _ => exact z_in6
  | 7, _ => exact z_in7
  | 8, _ => exact z_in8
  | 9, _ => exact z_in9
  | 10, _ => exact z_in10
  | 11, _ => exact z_in11
theorem z_all_nm {i : Nat} (h : i < 12) : ∀ a, a < z_nf i → ∀ b, b < z_nf i → a ≠ b → (z_T i a).2.1 ≠ (z_T i b).2.1 := by
  match i, h with
  | 0, _ => exact z_nm0
  | 1, _ => exact z_nm1
  | 2, _ => exact z_nm2
  | 3, _ => exact z_nm3
  | 4, _ => exact z_nm4
  | 5, _ => exact z_nm5
  | 6, _ => exact z_nm6
  | 7, _ => exact z_nm7
  | 8, _ => exact z_nm8
  | 9, _ => exact z_nm9
  | 10, _ => exact z_nm10
  | 11, _ => exact z_nm11
theorem z_all_ty {i : Nat} (h : i < 12) : ∀ k, k < z_nf i → parseFieldDescriptor (z_T i k).2.2.1 = some (z_ty i k) := by
  match i, h with
  | 0, _ => exact z_ty0
  | 1, _ => exact z_ty1
  | 2, _ => exact z_ty2
  | 3, _ => exact z_ty3
  | 4, _ => exact z_ty4
  | 5, _ => exact z_ty5
  | 6, _ => exact z_ty6
  | 7, _ => exact z_ty7
  | 8, _ => exact z_ty8
  | 9, _ => exact z_ty9
  | 10, _ => exact z_ty10
  | 11, _ => exact z_ty11
theorem z_all_ib {i : Nat} (h : i < 12) : Cond.instantiable (z_R i) (z_nf i) ∈ lw_tbl ∧ Cond.initialized (z_R i) ∈ lw_tbl := by
  match i, h with
  | 0, _ => exact z_ib0
  | 1, _ => exact z_ib1
  | 2, _ => exact z_ib2
  | 3, _ => exact z_ib3
  | 4, _ => exact z_ib4
  | 5, _ => exact z_ib5
  | 6, _ => exact z_ib6
  | 7, _ => exact z_ib7
  | 8, _ => exact z_ib8
  | 9, _ => exact z_ib9
  | 10, _ => exact z_ib10
  | 11, _ => exact z_ib11
