-- ===== PART A: goes FIRST, ahead of the names: the tables' words, and 'selects' of the private methods out of them =====
/-- a private method of a class that the tables say can be made, by its rows of tables_1 -/
def lw_okq (q : MethodName × Nat) : Prop := (q.1.cls ≠ "java/lang/invoke/MethodHandle" ∧ q.1.cls ≠ "java/lang/invoke/VarHandle") ∧ Cond.instantiable q.1.cls q.2 ∈ tables_1 ∧ Cond.privateMethod q.1 ∈ tables_1 ∧ Cond.instanceMethod q.1 ∈ tables_1
theorem lw_p0 : lw_okq (⟨"LoafTable", "refused", "(I)Z"⟩, 19) := ⟨⟨by decide +kernel, by decide +kernel⟩, List.mem_of_getElem? (i := 22) (by decide +kernel), List.mem_of_getElem? (i := 541) (by decide +kernel), List.mem_of_getElem? (i := 542) (by decide +kernel)⟩
theorem lw_p1 : lw_okq (⟨"LoafTable", "agreed", "()Z"⟩, 19) := ⟨⟨by decide +kernel, by decide +kernel⟩, List.mem_of_getElem? (i := 22) (by decide +kernel), List.mem_of_getElem? (i := 549) (by decide +kernel), List.mem_of_getElem? (i := 550) (by decide +kernel)⟩
theorem lw_p2 : lw_okq (⟨"LoafTable", "trayFails", "(III)I"⟩, 19) := ⟨⟨by decide +kernel, by decide +kernel⟩, List.mem_of_getElem? (i := 22) (by decide +kernel), List.mem_of_getElem? (i := 557) (by decide +kernel), List.mem_of_getElem? (i := 558) (by decide +kernel)⟩
theorem lw_p3 : lw_okq (⟨"LoafTable", "none", "(I)I"⟩, 19) := ⟨⟨by decide +kernel, by decide +kernel⟩, List.mem_of_getElem? (i := 22) (by decide +kernel), List.mem_of_getElem? (i := 574) (by decide +kernel), List.mem_of_getElem? (i := 575) (by decide +kernel)⟩
theorem lw_p4 : lw_okq (⟨"LoafTable$Tokens", "readLetters", "()V"⟩, 11) := ⟨⟨by decide +kernel, by decide +kernel⟩, List.mem_of_getElem? (i := 56) (by decide +kernel), List.mem_of_getElem? (i := 608) (by decide +kernel), List.mem_of_getElem? (i := 609) (by decide +kernel)⟩
theorem lw_p5 : lw_okq (⟨"LoafTable$Tokens", "readDigits", "()V"⟩, 11) := ⟨⟨by decide +kernel, by decide +kernel⟩, List.mem_of_getElem? (i := 56) (by decide +kernel), List.mem_of_getElem? (i := 665) (by decide +kernel), List.mem_of_getElem? (i := 666) (by decide +kernel)⟩
theorem lw_p6 : lw_okq (⟨"LoafTable$TableText", "takeGuest", "()Z"⟩, 3) := ⟨⟨by decide +kernel, by decide +kernel⟩, List.mem_of_getElem? (i := 264) (by decide +kernel), List.mem_of_getElem? (i := 674) (by decide +kernel), List.mem_of_getElem? (i := 675) (by decide +kernel)⟩
theorem lw_p7 : lw_okq (⟨"LoafTable$TableText", "takeButter", "()Z"⟩, 3) := ⟨⟨by decide +kernel, by decide +kernel⟩, List.mem_of_getElem? (i := 264) (by decide +kernel), List.mem_of_getElem? (i := 700) (by decide +kernel), List.mem_of_getElem? (i := 701) (by decide +kernel)⟩
theorem lw_p8 : lw_okq (⟨"LoafTable$TableText", "takeSetting", "(I)Z"⟩, 3) := ⟨⟨by decide +kernel, by decide +kernel⟩, List.mem_of_getElem? (i := 264) (by decide +kernel), List.mem_of_getElem? (i := 709) (by decide +kernel), List.mem_of_getElem? (i := 710) (by decide +kernel)⟩
theorem lw_p9 : lw_okq (⟨"LoafTable$TableText", "takeSettingsNumber", "(I)Z"⟩, 3) := ⟨⟨by decide +kernel, by decide +kernel⟩, List.mem_of_getElem? (i := 264) (by decide +kernel), List.mem_of_getElem? (i := 714) (by decide +kernel), List.mem_of_getElem? (i := 715) (by decide +kernel)⟩
theorem lw_p10 : lw_okq (⟨"LoafTable", "given", "(I)I"⟩, 19) := ⟨⟨by decide +kernel, by decide +kernel⟩, List.mem_of_getElem? (i := 22) (by decide +kernel), List.mem_of_getElem? (i := 727) (by decide +kernel), List.mem_of_getElem? (i := 728) (by decide +kernel)⟩
theorem lw_p11 : lw_okq (⟨"LoafTable$WeeksText", "takeEnd", "()Z"⟩, 5) := ⟨⟨by decide +kernel, by decide +kernel⟩, List.mem_of_getElem? (i := 283) (by decide +kernel), List.mem_of_getElem? (i := 741) (by decide +kernel), List.mem_of_getElem? (i := 742) (by decide +kernel)⟩
theorem lw_p12 : lw_okq (⟨"LoafTable$WeeksText", "beginStep", "(I)Z"⟩, 5) := ⟨⟨by decide +kernel, by decide +kernel⟩, List.mem_of_getElem? (i := 283) (by decide +kernel), List.mem_of_getElem? (i := 748) (by decide +kernel), List.mem_of_getElem? (i := 749) (by decide +kernel)⟩
theorem lw_p13 : lw_okq (⟨"LoafTable$WeeksText", "takeRest", "(I)Z"⟩, 5) := ⟨⟨by decide +kernel, by decide +kernel⟩, List.mem_of_getElem? (i := 283) (by decide +kernel), List.mem_of_getElem? (i := 753) (by decide +kernel), List.mem_of_getElem? (i := 754) (by decide +kernel)⟩
theorem lw_p14 : lw_okq (⟨"LoafTable$WeeksText", "takeMuch", "(III)Z"⟩, 5) := ⟨⟨by decide +kernel, by decide +kernel⟩, List.mem_of_getElem? (i := 283) (by decide +kernel), List.mem_of_getElem? (i := 757) (by decide +kernel), List.mem_of_getElem? (i := 758) (by decide +kernel)⟩
theorem lw_p15 : lw_okq (⟨"LoafTable$WeeksText", "takeGuest", "([III)Z"⟩, 5) := ⟨⟨by decide +kernel, by decide +kernel⟩, List.mem_of_getElem? (i := 283) (by decide +kernel), List.mem_of_getElem? (i := 762) (by decide +kernel), List.mem_of_getElem? (i := 763) (by decide +kernel)⟩
def lw_privs_1 : List (MethodName × Nat) := [(⟨"LoafTable", "refused", "(I)Z"⟩, 19), (⟨"LoafTable", "agreed", "()Z"⟩, 19), (⟨"LoafTable", "trayFails", "(III)I"⟩, 19), (⟨"LoafTable", "none", "(I)I"⟩, 19), (⟨"LoafTable$Tokens", "readLetters", "()V"⟩, 11), (⟨"LoafTable$Tokens", "readDigits", "()V"⟩, 11), (⟨"LoafTable$TableText", "takeGuest", "()Z"⟩, 3), (⟨"LoafTable$TableText", "takeButter", "()Z"⟩, 3), (⟨"LoafTable$TableText", "takeSetting", "(I)Z"⟩, 3), (⟨"LoafTable$TableText", "takeSettingsNumber", "(I)Z"⟩, 3), (⟨"LoafTable", "given", "(I)I"⟩, 19), (⟨"LoafTable$WeeksText", "takeEnd", "()Z"⟩, 5), (⟨"LoafTable$WeeksText", "beginStep", "(I)Z"⟩, 5), (⟨"LoafTable$WeeksText", "takeRest", "(I)Z"⟩, 5), (⟨"LoafTable$WeeksText", "takeMuch", "(III)Z"⟩, 5), (⟨"LoafTable$WeeksText", "takeGuest", "([III)Z"⟩, 5)]
theorem lw_r1 : ∀ q ∈ lw_privs_1, lw_okq q := List.forall_mem_cons.mpr ⟨lw_p0, List.forall_mem_cons.mpr ⟨lw_p1, List.forall_mem_cons.mpr ⟨lw_p2, List.forall_mem_cons.mpr ⟨lw_p3, List.forall_mem_cons.mpr ⟨lw_p4, List.forall_mem_cons.mpr ⟨lw_p5, List.forall_mem_cons.mpr ⟨lw_p6, List.forall_mem_cons.mpr ⟨lw_p7, List.forall_mem_cons.mpr ⟨lw_p8, List.forall_mem_cons.mpr ⟨lw_p9, List.forall_mem_cons.mpr ⟨lw_p10, List.forall_mem_cons.mpr ⟨lw_p11, List.forall_mem_cons.mpr ⟨lw_p12, List.forall_mem_cons.mpr ⟨lw_p13, List.forall_mem_cons.mpr ⟨lw_p14, List.forall_mem_cons.mpr ⟨lw_p15, fun _ h => absurd h List.not_mem_nil⟩⟩⟩⟩⟩⟩⟩⟩⟩⟩⟩⟩⟩⟩⟩⟩
theorem lw_p16 : lw_okq (⟨"LoafTable$WeeksText", "takeTest", "(I)Z"⟩, 5) := ⟨⟨by decide +kernel, by decide +kernel⟩, List.mem_of_getElem? (i := 283) (by decide +kernel), List.mem_of_getElem? (i := 767) (by decide +kernel), List.mem_of_getElem? (i := 768) (by decide +kernel)⟩
theorem lw_p17 : lw_okq (⟨"LoafTable$WeeksText", "takeCompares", "(I)Z"⟩, 5) := ⟨⟨by decide +kernel, by decide +kernel⟩, List.mem_of_getElem? (i := 283) (by decide +kernel), List.mem_of_getElem? (i := 771) (by decide +kernel), List.mem_of_getElem? (i := 772) (by decide +kernel)⟩
theorem lw_p18 : lw_okq (⟨"LoafTable", "givenIfAny", "(I)I"⟩, 19) := ⟨⟨by decide +kernel, by decide +kernel⟩, List.mem_of_getElem? (i := 22) (by decide +kernel), List.mem_of_getElem? (i := 813) (by decide +kernel), List.mem_of_getElem? (i := 814) (by decide +kernel)⟩
theorem lw_p19 : lw_okq (⟨"LoafTable$Table", "eat", "()V"⟩, 17) := ⟨⟨by decide +kernel, by decide +kernel⟩, List.mem_of_getElem? (i := 105) (by decide +kernel), List.mem_of_getElem? (i := 865) (by decide +kernel), List.mem_of_getElem? (i := 866) (by decide +kernel)⟩
theorem lw_p20 : lw_okq (⟨"LoafTable$Table", "yearn", "()V"⟩, 17) := ⟨⟨by decide +kernel, by decide +kernel⟩, List.mem_of_getElem? (i := 105) (by decide +kernel), List.mem_of_getElem? (i := 870) (by decide +kernel), List.mem_of_getElem? (i := 871) (by decide +kernel)⟩
theorem lw_p21 : lw_okq (⟨"LoafTable", "areTwo", "(II)Z"⟩, 19) := ⟨⟨by decide +kernel, by decide +kernel⟩, List.mem_of_getElem? (i := 22) (by decide +kernel), List.mem_of_getElem? (i := 888) (by decide +kernel), List.mem_of_getElem? (i := 889) (by decide +kernel)⟩
theorem lw_p22 : lw_okq (⟨"LoafTable$Ahead", "findNextOfThen", "()V"⟩, 4) := ⟨⟨by decide +kernel, by decide +kernel⟩, List.mem_of_getElem? (i := 308) (by decide +kernel), List.mem_of_getElem? (i := 944) (by decide +kernel), List.mem_of_getElem? (i := 945) (by decide +kernel)⟩
theorem lw_p23 : lw_okq (⟨"LoafTable$Ahead", "isEnough", "(II)Z"⟩, 4) := ⟨⟨by decide +kernel, by decide +kernel⟩, List.mem_of_getElem? (i := 308) (by decide +kernel), List.mem_of_getElem? (i := 981) (by decide +kernel), List.mem_of_getElem? (i := 982) (by decide +kernel)⟩
theorem lw_p24 : lw_okq (⟨"LoafTable$Planner", "search", "(III)V"⟩, 5) := ⟨⟨by decide +kernel, by decide +kernel⟩, List.mem_of_getElem? (i := 331) (by decide +kernel), List.mem_of_getElem? (i := 995) (by decide +kernel), List.mem_of_getElem? (i := 996) (by decide +kernel)⟩
theorem lw_p25 : lw_okq (⟨"LoafTable$Planner", "tryCutter", "(IIII)V"⟩, 5) := ⟨⟨by decide +kernel, by decide +kernel⟩, List.mem_of_getElem? (i := 331) (by decide +kernel), List.mem_of_getElem? (i := 1000) (by decide +kernel), List.mem_of_getElem? (i := 1001) (by decide +kernel)⟩
theorem lw_p26 : lw_okq (⟨"LoafTable", "seenFails", "(III)I"⟩, 19) := ⟨⟨by decide +kernel, by decide +kernel⟩, List.mem_of_getElem? (i := 22) (by decide +kernel), List.mem_of_getElem? (i := 1016) (by decide +kernel), List.mem_of_getElem? (i := 1017) (by decide +kernel)⟩
theorem lw_p27 : lw_okq (⟨"LoafTable$Sight", "forget", "()V"⟩, 7) := ⟨⟨by decide +kernel, by decide +kernel⟩, List.mem_of_getElem? (i := 357) (by decide +kernel), List.mem_of_getElem? (i := 1026) (by decide +kernel), List.mem_of_getElem? (i := 1027) (by decide +kernel)⟩
theorem lw_p28 : lw_okq (⟨"LoafTable$Sight", "countAhead", "(III)V"⟩, 7) := ⟨⟨by decide +kernel, by decide +kernel⟩, List.mem_of_getElem? (i := 357) (by decide +kernel), List.mem_of_getElem? (i := 1031) (by decide +kernel), List.mem_of_getElem? (i := 1032) (by decide +kernel)⟩
theorem lw_p29 : lw_okq (⟨"LoafTable$Sight", "isAsSeen", "(LLoafTable$Tray;I)Z"⟩, 7) := ⟨⟨by decide +kernel, by decide +kernel⟩, List.mem_of_getElem? (i := 357) (by decide +kernel), List.mem_of_getElem? (i := 1038) (by decide +kernel), List.mem_of_getElem? (i := 1039) (by decide +kernel)⟩
theorem lw_p30 : lw_okq (⟨"LoafTable$Sight", "addCouple", "(II)V"⟩, 7) := ⟨⟨by decide +kernel, by decide +kernel⟩, List.mem_of_getElem? (i := 357) (by decide +kernel), List.mem_of_getElem? (i := 1043) (by decide +kernel), List.mem_of_getElem? (i := 1044) (by decide +kernel)⟩
theorem lw_p31 : lw_okq (⟨"LoafTable", "fraction", "(JJ)Z"⟩, 19) := ⟨⟨by decide +kernel, by decide +kernel⟩, List.mem_of_getElem? (i := 22) (by decide +kernel), List.mem_of_getElem? (i := 1066) (by decide +kernel), List.mem_of_getElem? (i := 1067) (by decide +kernel)⟩
def lw_privs_2 : List (MethodName × Nat) := [(⟨"LoafTable$WeeksText", "takeTest", "(I)Z"⟩, 5), (⟨"LoafTable$WeeksText", "takeCompares", "(I)Z"⟩, 5), (⟨"LoafTable", "givenIfAny", "(I)I"⟩, 19), (⟨"LoafTable$Table", "eat", "()V"⟩, 17), (⟨"LoafTable$Table", "yearn", "()V"⟩, 17), (⟨"LoafTable", "areTwo", "(II)Z"⟩, 19), (⟨"LoafTable$Ahead", "findNextOfThen", "()V"⟩, 4), (⟨"LoafTable$Ahead", "isEnough", "(II)Z"⟩, 4), (⟨"LoafTable$Planner", "search", "(III)V"⟩, 5), (⟨"LoafTable$Planner", "tryCutter", "(IIII)V"⟩, 5), (⟨"LoafTable", "seenFails", "(III)I"⟩, 19), (⟨"LoafTable$Sight", "forget", "()V"⟩, 7), (⟨"LoafTable$Sight", "countAhead", "(III)V"⟩, 7), (⟨"LoafTable$Sight", "isAsSeen", "(LLoafTable$Tray;I)Z"⟩, 7), (⟨"LoafTable$Sight", "addCouple", "(II)V"⟩, 7), (⟨"LoafTable", "fraction", "(JJ)Z"⟩, 19)]
theorem lw_r2 : ∀ q ∈ lw_privs_2, lw_okq q := List.forall_mem_cons.mpr ⟨lw_p16, List.forall_mem_cons.mpr ⟨lw_p17, List.forall_mem_cons.mpr ⟨lw_p18, List.forall_mem_cons.mpr ⟨lw_p19, List.forall_mem_cons.mpr ⟨lw_p20, List.forall_mem_cons.mpr ⟨lw_p21, List.forall_mem_cons.mpr ⟨lw_p22, List.forall_mem_cons.mpr ⟨lw_p23, List.forall_mem_cons.mpr ⟨lw_p24, List.forall_mem_cons.mpr ⟨lw_p25, List.forall_mem_cons.mpr ⟨lw_p26, List.forall_mem_cons.mpr ⟨lw_p27, List.forall_mem_cons.mpr ⟨lw_p28, List.forall_mem_cons.mpr ⟨lw_p29, List.forall_mem_cons.mpr ⟨lw_p30, List.forall_mem_cons.mpr ⟨lw_p31, fun _ h => absurd h List.not_mem_nil⟩⟩⟩⟩⟩⟩⟩⟩⟩⟩⟩⟩⟩⟩⟩⟩
theorem lw_p32 : lw_okq (⟨"LoafTable$Contest", "bestFrom", "(I)I"⟩, 7) := ⟨⟨by decide +kernel, by decide +kernel⟩, List.mem_of_getElem? (i := 392) (by decide +kernel), List.mem_of_getElem? (i := 1105) (by decide +kernel), List.mem_of_getElem? (i := 1106) (by decide +kernel)⟩
theorem lw_p33 : lw_okq (⟨"LoafTable$Contest", "outcome", "()I"⟩, 7) := ⟨⟨by decide +kernel, by decide +kernel⟩, List.mem_of_getElem? (i := 392) (by decide +kernel), List.mem_of_getElem? (i := 1109) (by decide +kernel), List.mem_of_getElem? (i := 1110) (by decide +kernel)⟩
theorem lw_p34 : lw_okq (⟨"LoafTable$Life", "goThrough", "(III)V"⟩, 8) := ⟨⟨by decide +kernel, by decide +kernel⟩, List.mem_of_getElem? (i := 423) (by decide +kernel), List.mem_of_getElem? (i := 1131) (by decide +kernel), List.mem_of_getElem? (i := 1132) (by decide +kernel)⟩
theorem lw_p35 : lw_okq (⟨"LoafTable$Life", "goStep", "(I)V"⟩, 8) := ⟨⟨by decide +kernel, by decide +kernel⟩, List.mem_of_getElem? (i := 423) (by decide +kernel), List.mem_of_getElem? (i := 1135) (by decide +kernel), List.mem_of_getElem? (i := 1136) (by decide +kernel)⟩
theorem lw_p36 : lw_okq (⟨"LoafTable$Life", "goButter", "(II)Z"⟩, 8) := ⟨⟨by decide +kernel, by decide +kernel⟩, List.mem_of_getElem? (i := 423) (by decide +kernel), List.mem_of_getElem? (i := 1142) (by decide +kernel), List.mem_of_getElem? (i := 1143) (by decide +kernel)⟩
theorem lw_p37 : lw_okq (⟨"LoafTable$Life", "goSoup", "(I)Z"⟩, 8) := ⟨⟨by decide +kernel, by decide +kernel⟩, List.mem_of_getElem? (i := 423) (by decide +kernel), List.mem_of_getElem? (i := 1147) (by decide +kernel), List.mem_of_getElem? (i := 1148) (by decide +kernel)⟩
theorem lw_p38 : lw_okq (⟨"LoafTable$Life", "goAny", "()Z"⟩, 8) := ⟨⟨by decide +kernel, by decide +kernel⟩, List.mem_of_getElem? (i := 423) (by decide +kernel), List.mem_of_getElem? (i := 1152) (by decide +kernel), List.mem_of_getElem? (i := 1153) (by decide +kernel)⟩
theorem lw_p39 : lw_okq (⟨"LoafTable$Life", "draw", "(I)I"⟩, 8) := ⟨⟨by decide +kernel, by decide +kernel⟩, List.mem_of_getElem? (i := 423) (by decide +kernel), List.mem_of_getElem? (i := 1156) (by decide +kernel), List.mem_of_getElem? (i := 1157) (by decide +kernel)⟩
theorem lw_p40 : lw_okq (⟨"LoafTable$Life", "timesWithin", "(I)I"⟩, 8) := ⟨⟨by decide +kernel, by decide +kernel⟩, List.mem_of_getElem? (i := 423) (by decide +kernel), List.mem_of_getElem? (i := 1164) (by decide +kernel), List.mem_of_getElem? (i := 1165) (by decide +kernel)⟩
theorem lw_p41 : lw_okq (⟨"LoafTable$Life", "holds", "(I)Z"⟩, 8) := ⟨⟨by decide +kernel, by decide +kernel⟩, List.mem_of_getElem? (i := 423) (by decide +kernel), List.mem_of_getElem? (i := 1168) (by decide +kernel), List.mem_of_getElem? (i := 1169) (by decide +kernel)⟩
theorem lw_p42 : lw_okq (⟨"LoafTable$Life", "compare", "(II)Z"⟩, 8) := ⟨⟨by decide +kernel, by decide +kernel⟩, List.mem_of_getElem? (i := 423) (by decide +kernel), List.mem_of_getElem? (i := 1172) (by decide +kernel), List.mem_of_getElem? (i := 1173) (by decide +kernel)⟩
theorem lw_p43 : lw_okq (⟨"LoafTableModel", "plain", "(I)V"⟩, 41) := ⟨⟨by decide +kernel, by decide +kernel⟩, List.mem_of_getElem? (i := 1192) (by decide +kernel), List.mem_of_getElem? (i := 1198) (by decide +kernel), List.mem_of_getElem? (i := 1199) (by decide +kernel)⟩
theorem lw_p44 : lw_okq (⟨"LoafTableModel", "is", "(I)Z"⟩, 41) := ⟨⟨by decide +kernel, by decide +kernel⟩, List.mem_of_getElem? (i := 1192) (by decide +kernel), List.mem_of_getElem? (i := 1346) (by decide +kernel), List.mem_of_getElem? (i := 1347) (by decide +kernel)⟩
theorem lw_p45 : lw_okq (⟨"LoafTableModel", "wrongPlace", "(II)I"⟩, 41) := ⟨⟨by decide +kernel, by decide +kernel⟩, List.mem_of_getElem? (i := 1192) (by decide +kernel), List.mem_of_getElem? (i := 1354) (by decide +kernel), List.mem_of_getElem? (i := 1355) (by decide +kernel)⟩
theorem lw_p46 : lw_okq (⟨"LoafTableModel", "four", "(I)V"⟩, 41) := ⟨⟨by decide +kernel, by decide +kernel⟩, List.mem_of_getElem? (i := 1192) (by decide +kernel), List.mem_of_getElem? (i := 1374) (by decide +kernel), List.mem_of_getElem? (i := 1375) (by decide +kernel)⟩
theorem lw_p47 : lw_okq (⟨"LoafTableModel", "begins", "(II)Z"⟩, 41) := ⟨⟨by decide +kernel, by decide +kernel⟩, List.mem_of_getElem? (i := 1192) (by decide +kernel), List.mem_of_getElem? (i := 1386) (by decide +kernel), List.mem_of_getElem? (i := 1387) (by decide +kernel)⟩
def lw_privs_3 : List (MethodName × Nat) := [(⟨"LoafTable$Contest", "bestFrom", "(I)I"⟩, 7), (⟨"LoafTable$Contest", "outcome", "()I"⟩, 7), (⟨"LoafTable$Life", "goThrough", "(III)V"⟩, 8), (⟨"LoafTable$Life", "goStep", "(I)V"⟩, 8), (⟨"LoafTable$Life", "goButter", "(II)Z"⟩, 8), (⟨"LoafTable$Life", "goSoup", "(I)Z"⟩, 8), (⟨"LoafTable$Life", "goAny", "()Z"⟩, 8), (⟨"LoafTable$Life", "draw", "(I)I"⟩, 8), (⟨"LoafTable$Life", "timesWithin", "(I)I"⟩, 8), (⟨"LoafTable$Life", "holds", "(I)Z"⟩, 8), (⟨"LoafTable$Life", "compare", "(II)Z"⟩, 8), (⟨"LoafTableModel", "plain", "(I)V"⟩, 41), (⟨"LoafTableModel", "is", "(I)Z"⟩, 41), (⟨"LoafTableModel", "wrongPlace", "(II)I"⟩, 41), (⟨"LoafTableModel", "four", "(I)V"⟩, 41), (⟨"LoafTableModel", "begins", "(II)Z"⟩, 41)]
theorem lw_r3 : ∀ q ∈ lw_privs_3, lw_okq q := List.forall_mem_cons.mpr ⟨lw_p32, List.forall_mem_cons.mpr ⟨lw_p33, List.forall_mem_cons.mpr ⟨lw_p34, List.forall_mem_cons.mpr ⟨lw_p35, List.forall_mem_cons.mpr ⟨lw_p36, List.forall_mem_cons.mpr ⟨lw_p37, List.forall_mem_cons.mpr ⟨lw_p38, List.forall_mem_cons.mpr ⟨lw_p39, List.forall_mem_cons.mpr ⟨lw_p40, List.forall_mem_cons.mpr ⟨lw_p41, List.forall_mem_cons.mpr ⟨lw_p42, List.forall_mem_cons.mpr ⟨lw_p43, List.forall_mem_cons.mpr ⟨lw_p44, List.forall_mem_cons.mpr ⟨lw_p45, List.forall_mem_cons.mpr ⟨lw_p46, List.forall_mem_cons.mpr ⟨lw_p47, fun _ h => absurd h List.not_mem_nil⟩⟩⟩⟩⟩⟩⟩⟩⟩⟩⟩⟩⟩⟩⟩⟩
theorem lw_p48 : lw_okq (⟨"LoafTableModel", "ahead", "()V"⟩, 41) := ⟨⟨by decide +kernel, by decide +kernel⟩, List.mem_of_getElem? (i := 1192) (by decide +kernel), List.mem_of_getElem? (i := 1390) (by decide +kernel), List.mem_of_getElem? (i := 1391) (by decide +kernel)⟩
theorem lw_p49 : lw_okq (⟨"LoafTableModel", "byteAt", "(I)I"⟩, 41) := ⟨⟨by decide +kernel, by decide +kernel⟩, List.mem_of_getElem? (i := 1192) (by decide +kernel), List.mem_of_getElem? (i := 1394) (by decide +kernel), List.mem_of_getElem? (i := 1395) (by decide +kernel)⟩
theorem lw_p50 : lw_okq (⟨"LoafTableModel", "refuse", "(I)I"⟩, 41) := ⟨⟨by decide +kernel, by decide +kernel⟩, List.mem_of_getElem? (i := 1192) (by decide +kernel), List.mem_of_getElem? (i := 1406) (by decide +kernel), List.mem_of_getElem? (i := 1407) (by decide +kernel)⟩
theorem lw_p51 : lw_okq (⟨"LoafTableModel", "tablePart", "()Z"⟩, 41) := ⟨⟨by decide +kernel, by decide +kernel⟩, List.mem_of_getElem? (i := 1192) (by decide +kernel), List.mem_of_getElem? (i := 1410) (by decide +kernel), List.mem_of_getElem? (i := 1411) (by decide +kernel)⟩
theorem lw_p52 : lw_okq (⟨"LoafTableModel", "inWords", "(Ljava/lang/String;)I"⟩, 41) := ⟨⟨by decide +kernel, by decide +kernel⟩, List.mem_of_getElem? (i := 1192) (by decide +kernel), List.mem_of_getElem? (i := 1415) (by decide +kernel), List.mem_of_getElem? (i := 1416) (by decide +kernel)⟩
theorem lw_p53 : lw_okq (⟨"LoafTableModel", "fails", "(I)Z"⟩, 41) := ⟨⟨by decide +kernel, by decide +kernel⟩, List.mem_of_getElem? (i := 1192) (by decide +kernel), List.mem_of_getElem? (i := 1421) (by decide +kernel), List.mem_of_getElem? (i := 1422) (by decide +kernel)⟩
theorem lw_p54 : lw_okq (⟨"LoafTableModel", "aGuest", "()Z"⟩, 41) := ⟨⟨by decide +kernel, by decide +kernel⟩, List.mem_of_getElem? (i := 1192) (by decide +kernel), List.mem_of_getElem? (i := 1425) (by decide +kernel), List.mem_of_getElem? (i := 1426) (by decide +kernel)⟩
theorem lw_p55 : lw_okq (⟨"LoafTableModel", "isName", "(Ljava/lang/String;)Z"⟩, 41) := ⟨⟨by decide +kernel, by decide +kernel⟩, List.mem_of_getElem? (i := 1192) (by decide +kernel), List.mem_of_getElem? (i := 1432) (by decide +kernel), List.mem_of_getElem? (i := 1433) (by decide +kernel)⟩
theorem lw_p56 : lw_okq (⟨"LoafTableModel", "findHere", "(II)I"⟩, 41) := ⟨⟨by decide +kernel, by decide +kernel⟩, List.mem_of_getElem? (i := 1192) (by decide +kernel), List.mem_of_getElem? (i := 1436) (by decide +kernel), List.mem_of_getElem? (i := 1437) (by decide +kernel)⟩
theorem lw_p57 : lw_okq (⟨"LoafTableModel", "nameHere", "()J"⟩, 41) := ⟨⟨by decide +kernel, by decide +kernel⟩, List.mem_of_getElem? (i := 1192) (by decide +kernel), List.mem_of_getElem? (i := 1440) (by decide +kernel), List.mem_of_getElem? (i := 1441) (by decide +kernel)⟩
theorem lw_p58 : lw_okq (⟨"LoafTableModel", "wantWord", "(Ljava/lang/String;I)Z"⟩, 41) := ⟨⟨by decide +kernel, by decide +kernel⟩, List.mem_of_getElem? (i := 1192) (by decide +kernel), List.mem_of_getElem? (i := 1444) (by decide +kernel), List.mem_of_getElem? (i := 1445) (by decide +kernel)⟩
theorem lw_p59 : lw_okq (⟨"LoafTableModel", "number", "(III)Z"⟩, 41) := ⟨⟨by decide +kernel, by decide +kernel⟩, List.mem_of_getElem? (i := 1192) (by decide +kernel), List.mem_of_getElem? (i := 1448) (by decide +kernel), List.mem_of_getElem? (i := 1449) (by decide +kernel)⟩
theorem lw_p60 : lw_okq (⟨"LoafTableModel", "isThere", "(I)Z"⟩, 41) := ⟨⟨by decide +kernel, by decide +kernel⟩, List.mem_of_getElem? (i := 1192) (by decide +kernel), List.mem_of_getElem? (i := 1452) (by decide +kernel), List.mem_of_getElem? (i := 1453) (by decide +kernel)⟩
theorem lw_p61 : lw_okq (⟨"LoafTableModel", "wantSign", "(I)Z"⟩, 41) := ⟨⟨by decide +kernel, by decide +kernel⟩, List.mem_of_getElem? (i := 1192) (by decide +kernel), List.mem_of_getElem? (i := 1456) (by decide +kernel), List.mem_of_getElem? (i := 1457) (by decide +kernel)⟩
theorem lw_p62 : lw_okq (⟨"LoafTableModel", "isSign", "(I)Z"⟩, 41) := ⟨⟨by decide +kernel, by decide +kernel⟩, List.mem_of_getElem? (i := 1192) (by decide +kernel), List.mem_of_getElem? (i := 1460) (by decide +kernel), List.mem_of_getElem? (i := 1461) (by decide +kernel)⟩
theorem lw_p63 : lw_okq (⟨"LoafTableModel", "aButter", "()Z"⟩, 41) := ⟨⟨by decide +kernel, by decide +kernel⟩, List.mem_of_getElem? (i := 1192) (by decide +kernel), List.mem_of_getElem? (i := 1464) (by decide +kernel), List.mem_of_getElem? (i := 1465) (by decide +kernel)⟩
def lw_privs_4 : List (MethodName × Nat) := [(⟨"LoafTableModel", "ahead", "()V"⟩, 41), (⟨"LoafTableModel", "byteAt", "(I)I"⟩, 41), (⟨"LoafTableModel", "refuse", "(I)I"⟩, 41), (⟨"LoafTableModel", "tablePart", "()Z"⟩, 41), (⟨"LoafTableModel", "inWords", "(Ljava/lang/String;)I"⟩, 41), (⟨"LoafTableModel", "fails", "(I)Z"⟩, 41), (⟨"LoafTableModel", "aGuest", "()Z"⟩, 41), (⟨"LoafTableModel", "isName", "(Ljava/lang/String;)Z"⟩, 41), (⟨"LoafTableModel", "findHere", "(II)I"⟩, 41), (⟨"LoafTableModel", "nameHere", "()J"⟩, 41), (⟨"LoafTableModel", "wantWord", "(Ljava/lang/String;I)Z"⟩, 41), (⟨"LoafTableModel", "number", "(III)Z"⟩, 41), (⟨"LoafTableModel", "isThere", "(I)Z"⟩, 41), (⟨"LoafTableModel", "wantSign", "(I)Z"⟩, 41), (⟨"LoafTableModel", "isSign", "(I)Z"⟩, 41), (⟨"LoafTableModel", "aButter", "()Z"⟩, 41)]
theorem lw_r4 : ∀ q ∈ lw_privs_4, lw_okq q := List.forall_mem_cons.mpr ⟨lw_p48, List.forall_mem_cons.mpr ⟨lw_p49, List.forall_mem_cons.mpr ⟨lw_p50, List.forall_mem_cons.mpr ⟨lw_p51, List.forall_mem_cons.mpr ⟨lw_p52, List.forall_mem_cons.mpr ⟨lw_p53, List.forall_mem_cons.mpr ⟨lw_p54, List.forall_mem_cons.mpr ⟨lw_p55, List.forall_mem_cons.mpr ⟨lw_p56, List.forall_mem_cons.mpr ⟨lw_p57, List.forall_mem_cons.mpr ⟨lw_p58, List.forall_mem_cons.mpr ⟨lw_p59, List.forall_mem_cons.mpr ⟨lw_p60, List.forall_mem_cons.mpr ⟨lw_p61, List.forall_mem_cons.mpr ⟨lw_p62, List.forall_mem_cons.mpr ⟨lw_p63, fun _ h => absurd h List.not_mem_nil⟩⟩⟩⟩⟩⟩⟩⟩⟩⟩⟩⟩⟩⟩⟩⟩
theorem lw_p64 : lw_okq (⟨"LoafTableModel", "guestTo", "(II)Z"⟩, 41) := ⟨⟨by decide +kernel, by decide +kernel⟩, List.mem_of_getElem? (i := 1192) (by decide +kernel), List.mem_of_getElem? (i := 1468) (by decide +kernel), List.mem_of_getElem? (i := 1469) (by decide +kernel)⟩
theorem lw_p65 : lw_okq (⟨"LoafTableModel", "otherTo", "(II)Z"⟩, 41) := ⟨⟨by decide +kernel, by decide +kernel⟩, List.mem_of_getElem? (i := 1192) (by decide +kernel), List.mem_of_getElem? (i := 1472) (by decide +kernel), List.mem_of_getElem? (i := 1473) (by decide +kernel)⟩
theorem lw_p66 : lw_okq (⟨"LoafTableModel", "isIn", "(II)Z"⟩, 41) := ⟨⟨by decide +kernel, by decide +kernel⟩, List.mem_of_getElem? (i := 1192) (by decide +kernel), List.mem_of_getElem? (i := 1476) (by decide +kernel), List.mem_of_getElem? (i := 1477) (by decide +kernel)⟩
theorem lw_p67 : lw_okq (⟨"LoafTableModel", "taken", "(I)I"⟩, 41) := ⟨⟨by decide +kernel, by decide +kernel⟩, List.mem_of_getElem? (i := 1192) (by decide +kernel), List.mem_of_getElem? (i := 1486) (by decide +kernel), List.mem_of_getElem? (i := 1487) (by decide +kernel)⟩
theorem lw_p68 : lw_okq (⟨"LoafTableModel", "gives", "(I)I"⟩, 41) := ⟨⟨by decide +kernel, by decide +kernel⟩, List.mem_of_getElem? (i := 1192) (by decide +kernel), List.mem_of_getElem? (i := 1490) (by decide +kernel), List.mem_of_getElem? (i := 1491) (by decide +kernel)⟩
theorem lw_p69 : lw_okq (⟨"LoafTableModel", "weekStep", "()Z"⟩, 41) := ⟨⟨by decide +kernel, by decide +kernel⟩, List.mem_of_getElem? (i := 1192) (by decide +kernel), List.mem_of_getElem? (i := 1498) (by decide +kernel), List.mem_of_getElem? (i := 1499) (by decide +kernel)⟩
theorem lw_p70 : lw_okq (⟨"LoafTableModel", "weekOrder", "(II)Z"⟩, 41) := ⟨⟨by decide +kernel, by decide +kernel⟩, List.mem_of_getElem? (i := 1192) (by decide +kernel), List.mem_of_getElem? (i := 1502) (by decide +kernel), List.mem_of_getElem? (i := 1503) (by decide +kernel)⟩
theorem lw_p71 : lw_okq (⟨"LoafTableModel", "test", "(I)Z"⟩, 41) := ⟨⟨by decide +kernel, by decide +kernel⟩, List.mem_of_getElem? (i := 1192) (by decide +kernel), List.mem_of_getElem? (i := 1506) (by decide +kernel), List.mem_of_getElem? (i := 1507) (by decide +kernel)⟩
theorem lw_p72 : lw_okq (⟨"LoafTableModel", "areHere", "()I"⟩, 41) := ⟨⟨by decide +kernel, by decide +kernel⟩, List.mem_of_getElem? (i := 1192) (by decide +kernel), List.mem_of_getElem? (i := 1514) (by decide +kernel), List.mem_of_getElem? (i := 1515) (by decide +kernel)⟩
theorem lw_p73 : lw_okq (⟨"LoafTableModel", "isHere", "(I)Z"⟩, 41) := ⟨⟨by decide +kernel, by decide +kernel⟩, List.mem_of_getElem? (i := 1192) (by decide +kernel), List.mem_of_getElem? (i := 1518) (by decide +kernel), List.mem_of_getElem? (i := 1519) (by decide +kernel)⟩
theorem lw_p74 : lw_okq (⟨"LoafTableModel", "guestOf", "(II)I"⟩, 41) := ⟨⟨by decide +kernel, by decide +kernel⟩, List.mem_of_getElem? (i := 1192) (by decide +kernel), List.mem_of_getElem? (i := 1522) (by decide +kernel), List.mem_of_getElem? (i := 1523) (by decide +kernel)⟩
theorem lw_p75 : lw_okq (⟨"LoafTableModel", "areHungry", "()I"⟩, 41) := ⟨⟨by decide +kernel, by decide +kernel⟩, List.mem_of_getElem? (i := 1192) (by decide +kernel), List.mem_of_getElem? (i := 1526) (by decide +kernel), List.mem_of_getElem? (i := 1527) (by decide +kernel)⟩
theorem lw_p76 : lw_okq (⟨"LoafTableModel", "areStarved", "()I"⟩, 41) := ⟨⟨by decide +kernel, by decide +kernel⟩, List.mem_of_getElem? (i := 1192) (by decide +kernel), List.mem_of_getElem? (i := 1530) (by decide +kernel), List.mem_of_getElem? (i := 1531) (by decide +kernel)⟩
theorem lw_p77 : lw_okq (⟨"LoafTableModel", "isGuest", "(I)Z"⟩, 41) := ⟨⟨by decide +kernel, by decide +kernel⟩, List.mem_of_getElem? (i := 1192) (by decide +kernel), List.mem_of_getElem? (i := 1538) (by decide +kernel), List.mem_of_getElem? (i := 1539) (by decide +kernel)⟩
theorem lw_p78 : lw_okq (⟨"LoafTableModel", "orNone", "(I)I"⟩, 41) := ⟨⟨by decide +kernel, by decide +kernel⟩, List.mem_of_getElem? (i := 1192) (by decide +kernel), List.mem_of_getElem? (i := 1542) (by decide +kernel), List.mem_of_getElem? (i := 1543) (by decide +kernel)⟩
theorem lw_p79 : lw_okq (⟨"LoafTableModel", "passTo", "(I)I"⟩, 41) := ⟨⟨by decide +kernel, by decide +kernel⟩, List.mem_of_getElem? (i := 1192) (by decide +kernel), List.mem_of_getElem? (i := 1546) (by decide +kernel), List.mem_of_getElem? (i := 1547) (by decide +kernel)⟩
def lw_privs_5 : List (MethodName × Nat) := [(⟨"LoafTableModel", "guestTo", "(II)Z"⟩, 41), (⟨"LoafTableModel", "otherTo", "(II)Z"⟩, 41), (⟨"LoafTableModel", "isIn", "(II)Z"⟩, 41), (⟨"LoafTableModel", "taken", "(I)I"⟩, 41), (⟨"LoafTableModel", "gives", "(I)I"⟩, 41), (⟨"LoafTableModel", "weekStep", "()Z"⟩, 41), (⟨"LoafTableModel", "weekOrder", "(II)Z"⟩, 41), (⟨"LoafTableModel", "test", "(I)Z"⟩, 41), (⟨"LoafTableModel", "areHere", "()I"⟩, 41), (⟨"LoafTableModel", "isHere", "(I)Z"⟩, 41), (⟨"LoafTableModel", "guestOf", "(II)I"⟩, 41), (⟨"LoafTableModel", "areHungry", "()I"⟩, 41), (⟨"LoafTableModel", "areStarved", "()I"⟩, 41), (⟨"LoafTableModel", "isGuest", "(I)Z"⟩, 41), (⟨"LoafTableModel", "orNone", "(I)I"⟩, 41), (⟨"LoafTableModel", "passTo", "(I)I"⟩, 41)]
theorem lw_r5 : ∀ q ∈ lw_privs_5, lw_okq q := List.forall_mem_cons.mpr ⟨lw_p64, List.forall_mem_cons.mpr ⟨lw_p65, List.forall_mem_cons.mpr ⟨lw_p66, List.forall_mem_cons.mpr ⟨lw_p67, List.forall_mem_cons.mpr ⟨lw_p68, List.forall_mem_cons.mpr ⟨lw_p69, List.forall_mem_cons.mpr ⟨lw_p70, List.forall_mem_cons.mpr ⟨lw_p71, List.forall_mem_cons.mpr ⟨lw_p72, List.forall_mem_cons.mpr ⟨lw_p73, List.forall_mem_cons.mpr ⟨lw_p74, List.forall_mem_cons.mpr ⟨lw_p75, List.forall_mem_cons.mpr ⟨lw_p76, List.forall_mem_cons.mpr ⟨lw_p77, List.forall_mem_cons.mpr ⟨lw_p78, List.forall_mem_cons.mpr ⟨lw_p79, fun _ h => absurd h List.not_mem_nil⟩⟩⟩⟩⟩⟩⟩⟩⟩⟩⟩⟩⟩⟩⟩⟩
theorem lw_p80 : lw_okq (⟨"LoafTableModel", "firstCutter", "()I"⟩, 41) := ⟨⟨by decide +kernel, by decide +kernel⟩, List.mem_of_getElem? (i := 1192) (by decide +kernel), List.mem_of_getElem? (i := 1554) (by decide +kernel), List.mem_of_getElem? (i := 1555) (by decide +kernel)⟩
theorem lw_p81 : lw_okq (⟨"LoafTableModel", "daysGo", "(I)V"⟩, 41) := ⟨⟨by decide +kernel, by decide +kernel⟩, List.mem_of_getElem? (i := 1192) (by decide +kernel), List.mem_of_getElem? (i := 1573) (by decide +kernel), List.mem_of_getElem? (i := 1574) (by decide +kernel)⟩
theorem lw_p82 : lw_okq (⟨"LoafTableModel", "dayGoes", "()I"⟩, 41) := ⟨⟨by decide +kernel, by decide +kernel⟩, List.mem_of_getElem? (i := 1192) (by decide +kernel), List.mem_of_getElem? (i := 1577) (by decide +kernel), List.mem_of_getElem? (i := 1578) (by decide +kernel)⟩
theorem lw_p83 : lw_okq (⟨"LoafTableModel", "cuts1", "(I)I"⟩, 41) := ⟨⟨by decide +kernel, by decide +kernel⟩, List.mem_of_getElem? (i := 1192) (by decide +kernel), List.mem_of_getElem? (i := 1581) (by decide +kernel), List.mem_of_getElem? (i := 1582) (by decide +kernel)⟩
theorem lw_p84 : lw_okq (⟨"LoafTableModel", "eats", "()V"⟩, 41) := ⟨⟨by decide +kernel, by decide +kernel⟩, List.mem_of_getElem? (i := 1192) (by decide +kernel), List.mem_of_getElem? (i := 1585) (by decide +kernel), List.mem_of_getElem? (i := 1586) (by decide +kernel)⟩
theorem lw_p85 : lw_okq (⟨"LoafTableModel", "canCut", "(I)Z"⟩, 41) := ⟨⟨by decide +kernel, by decide +kernel⟩, List.mem_of_getElem? (i := 1192) (by decide +kernel), List.mem_of_getElem? (i := 1593) (by decide +kernel), List.mem_of_getElem? (i := 1594) (by decide +kernel)⟩
theorem lw_p86 : lw_okq (⟨"LoafTableModel", "areTwo", "(II)Z"⟩, 41) := ⟨⟨by decide +kernel, by decide +kernel⟩, List.mem_of_getElem? (i := 1192) (by decide +kernel), List.mem_of_getElem? (i := 1601) (by decide +kernel), List.mem_of_getElem? (i := 1602) (by decide +kernel)⟩
theorem lw_p87 : lw_okq (⟨"LoafTableModel", "passes", "(II)Z"⟩, 41) := ⟨⟨by decide +kernel, by decide +kernel⟩, List.mem_of_getElem? (i := 1192) (by decide +kernel), List.mem_of_getElem? (i := 1605) (by decide +kernel), List.mem_of_getElem? (i := 1606) (by decide +kernel)⟩
theorem lw_p88 : lw_okq (⟨"LoafTableModel", "fedBy", "(I)Z"⟩, 41) := ⟨⟨by decide +kernel, by decide +kernel⟩, List.mem_of_getElem? (i := 1192) (by decide +kernel), List.mem_of_getElem? (i := 1613) (by decide +kernel), List.mem_of_getElem? (i := 1614) (by decide +kernel)⟩
theorem lw_p89 : lw_okq (⟨"LoafTableModel", "keeps", "(I)V"⟩, 41) := ⟨⟨by decide +kernel, by decide +kernel⟩, List.mem_of_getElem? (i := 1192) (by decide +kernel), List.mem_of_getElem? (i := 1645) (by decide +kernel), List.mem_of_getElem? (i := 1646) (by decide +kernel)⟩
theorem lw_p90 : lw_okq (⟨"LoafTableModel", "brings", "(I)V"⟩, 41) := ⟨⟨by decide +kernel, by decide +kernel⟩, List.mem_of_getElem? (i := 1192) (by decide +kernel), List.mem_of_getElem? (i := 1649) (by decide +kernel), List.mem_of_getElem? (i := 1650) (by decide +kernel)⟩
theorem lw_p91 : lw_okq (⟨"LoafTableModel", "nextCut", "()I"⟩, 41) := ⟨⟨by decide +kernel, by decide +kernel⟩, List.mem_of_getElem? (i := 1192) (by decide +kernel), List.mem_of_getElem? (i := 1665) (by decide +kernel), List.mem_of_getElem? (i := 1666) (by decide +kernel)⟩
theorem lw_p92 : lw_okq (⟨"LoafTableModel", "laysPlan", "(I)I"⟩, 41) := ⟨⟨by decide +kernel, by decide +kernel⟩, List.mem_of_getElem? (i := 1192) (by decide +kernel), List.mem_of_getElem? (i := 1690) (by decide +kernel), List.mem_of_getElem? (i := 1691) (by decide +kernel)⟩
theorem lw_p93 : lw_okq (⟨"LoafTableModel", "wrongCall", "(III)I"⟩, 41) := ⟨⟨by decide +kernel, by decide +kernel⟩, List.mem_of_getElem? (i := 1192) (by decide +kernel), List.mem_of_getElem? (i := 1705) (by decide +kernel), List.mem_of_getElem? (i := 1706) (by decide +kernel)⟩
theorem lw_p94 : lw_okq (⟨"LoafTableModel", "wrongSeen", "(II)I"⟩, 41) := ⟨⟨by decide +kernel, by decide +kernel⟩, List.mem_of_getElem? (i := 1192) (by decide +kernel), List.mem_of_getElem? (i := 1709) (by decide +kernel), List.mem_of_getElem? (i := 1710) (by decide +kernel)⟩
theorem lw_p95 : lw_okq (⟨"LoafTableModel", "laysSeen", "(III)I"⟩, 41) := ⟨⟨by decide +kernel, by decide +kernel⟩, List.mem_of_getElem? (i := 1192) (by decide +kernel), List.mem_of_getElem? (i := 1714) (by decide +kernel), List.mem_of_getElem? (i := 1715) (by decide +kernel)⟩
def lw_privs_6 : List (MethodName × Nat) := [(⟨"LoafTableModel", "firstCutter", "()I"⟩, 41), (⟨"LoafTableModel", "daysGo", "(I)V"⟩, 41), (⟨"LoafTableModel", "dayGoes", "()I"⟩, 41), (⟨"LoafTableModel", "cuts1", "(I)I"⟩, 41), (⟨"LoafTableModel", "eats", "()V"⟩, 41), (⟨"LoafTableModel", "canCut", "(I)Z"⟩, 41), (⟨"LoafTableModel", "areTwo", "(II)Z"⟩, 41), (⟨"LoafTableModel", "passes", "(II)Z"⟩, 41), (⟨"LoafTableModel", "fedBy", "(I)Z"⟩, 41), (⟨"LoafTableModel", "keeps", "(I)V"⟩, 41), (⟨"LoafTableModel", "brings", "(I)V"⟩, 41), (⟨"LoafTableModel", "nextCut", "()I"⟩, 41), (⟨"LoafTableModel", "laysPlan", "(I)I"⟩, 41), (⟨"LoafTableModel", "wrongCall", "(III)I"⟩, 41), (⟨"LoafTableModel", "wrongSeen", "(II)I"⟩, 41), (⟨"LoafTableModel", "laysSeen", "(III)I"⟩, 41)]
theorem lw_r6 : ∀ q ∈ lw_privs_6, lw_okq q := List.forall_mem_cons.mpr ⟨lw_p80, List.forall_mem_cons.mpr ⟨lw_p81, List.forall_mem_cons.mpr ⟨lw_p82, List.forall_mem_cons.mpr ⟨lw_p83, List.forall_mem_cons.mpr ⟨lw_p84, List.forall_mem_cons.mpr ⟨lw_p85, List.forall_mem_cons.mpr ⟨lw_p86, List.forall_mem_cons.mpr ⟨lw_p87, List.forall_mem_cons.mpr ⟨lw_p88, List.forall_mem_cons.mpr ⟨lw_p89, List.forall_mem_cons.mpr ⟨lw_p90, List.forall_mem_cons.mpr ⟨lw_p91, List.forall_mem_cons.mpr ⟨lw_p92, List.forall_mem_cons.mpr ⟨lw_p93, List.forall_mem_cons.mpr ⟨lw_p94, List.forall_mem_cons.mpr ⟨lw_p95, fun _ h => absurd h List.not_mem_nil⟩⟩⟩⟩⟩⟩⟩⟩⟩⟩⟩⟩⟩⟩⟩⟩
theorem lw_p96 : lw_okq (⟨"LoafTableModel", "laysHere", "(II)V"⟩, 41) := ⟨⟨by decide +kernel, by decide +kernel⟩, List.mem_of_getElem? (i := 1192) (by decide +kernel), List.mem_of_getElem? (i := 1718) (by decide +kernel), List.mem_of_getElem? (i := 1719) (by decide +kernel)⟩
theorem lw_p97 : lw_okq (⟨"LoafTableModel", "mostAlike", "(I)I"⟩, 41) := ⟨⟨by decide +kernel, by decide +kernel⟩, List.mem_of_getElem? (i := 1192) (by decide +kernel), List.mem_of_getElem? (i := 1730) (by decide +kernel), List.mem_of_getElem? (i := 1731) (by decide +kernel)⟩
theorem lw_p98 : lw_okq (⟨"LoafTableModel", "tellsBy", "(JJ)Z"⟩, 41) := ⟨⟨by decide +kernel, by decide +kernel⟩, List.mem_of_getElem? (i := 1192) (by decide +kernel), List.mem_of_getElem? (i := 1739) (by decide +kernel), List.mem_of_getElem? (i := 1740) (by decide +kernel)⟩
theorem lw_p99 : lw_okq (⟨"LoafTableModel", "playing", "(III)I"⟩, 41) := ⟨⟨by decide +kernel, by decide +kernel⟩, List.mem_of_getElem? (i := 1192) (by decide +kernel), List.mem_of_getElem? (i := 1763) (by decide +kernel), List.mem_of_getElem? (i := 1764) (by decide +kernel)⟩
theorem lw_p100 : lw_okq (⟨"LoafTableModel", "beginsAt", "(I)V"⟩, 41) := ⟨⟨by decide +kernel, by decide +kernel⟩, List.mem_of_getElem? (i := 1192) (by decide +kernel), List.mem_of_getElem? (i := 1767) (by decide +kernel), List.mem_of_getElem? (i := 1768) (by decide +kernel)⟩
theorem lw_p101 : lw_okq (⟨"LoafTableModel", "settles", "(II)V"⟩, 41) := ⟨⟨by decide +kernel, by decide +kernel⟩, List.mem_of_getElem? (i := 1192) (by decide +kernel), List.mem_of_getElem? (i := 1771) (by decide +kernel), List.mem_of_getElem? (i := 1772) (by decide +kernel)⟩
theorem lw_p102 : lw_okq (⟨"LoafTableModel", "comesTo", "(II)I"⟩, 41) := ⟨⟨by decide +kernel, by decide +kernel⟩, List.mem_of_getElem? (i := 1192) (by decide +kernel), List.mem_of_getElem? (i := 1775) (by decide +kernel), List.mem_of_getElem? (i := 1776) (by decide +kernel)⟩
theorem lw_p103 : lw_okq (⟨"LoafTableModel", "lives", "(I)V"⟩, 41) := ⟨⟨by decide +kernel, by decide +kernel⟩, List.mem_of_getElem? (i := 1192) (by decide +kernel), List.mem_of_getElem? (i := 1792) (by decide +kernel), List.mem_of_getElem? (i := 1793) (by decide +kernel)⟩
theorem lw_p104 : lw_okq (⟨"LoafTableModel", "does", "(I)Z"⟩, 41) := ⟨⟨by decide +kernel, by decide +kernel⟩, List.mem_of_getElem? (i := 1192) (by decide +kernel), List.mem_of_getElem? (i := 1796) (by decide +kernel), List.mem_of_getElem? (i := 1797) (by decide +kernel)⟩
theorem lw_p105 : lw_okq (⟨"LoafTableModel", "daysBy", "(I)Z"⟩, 41) := ⟨⟨by decide +kernel, by decide +kernel⟩, List.mem_of_getElem? (i := 1192) (by decide +kernel), List.mem_of_getElem? (i := 1800) (by decide +kernel), List.mem_of_getElem? (i := 1801) (by decide +kernel)⟩
theorem lw_p106 : lw_okq (⟨"LoafTableModel", "cutsBy", "(I)Z"⟩, 41) := ⟨⟨by decide +kernel, by decide +kernel⟩, List.mem_of_getElem? (i := 1192) (by decide +kernel), List.mem_of_getElem? (i := 1804) (by decide +kernel), List.mem_of_getElem? (i := 1805) (by decide +kernel)⟩
theorem lw_p107 : lw_okq (⟨"LoafTableModel", "bakes", "(I)Z"⟩, 41) := ⟨⟨by decide +kernel, by decide +kernel⟩, List.mem_of_getElem? (i := 1192) (by decide +kernel), List.mem_of_getElem? (i := 1808) (by decide +kernel), List.mem_of_getElem? (i := 1809) (by decide +kernel)⟩
theorem lw_p108 : lw_okq (⟨"LoafTableModel", "doesAny", "()Z"⟩, 41) := ⟨⟨by decide +kernel, by decide +kernel⟩, List.mem_of_getElem? (i := 1192) (by decide +kernel), List.mem_of_getElem? (i := 1812) (by decide +kernel), List.mem_of_getElem? (i := 1813) (by decide +kernel)⟩
theorem lw_p109 : lw_okq (⟨"LoafTableModel", "draw", "(I)I"⟩, 41) := ⟨⟨by decide +kernel, by decide +kernel⟩, List.mem_of_getElem? (i := 1192) (by decide +kernel), List.mem_of_getElem? (i := 1816) (by decide +kernel), List.mem_of_getElem? (i := 1817) (by decide +kernel)⟩
theorem lw_p110 : lw_okq (⟨"LoafTableModel", "holds", "(I)Z"⟩, 41) := ⟨⟨by decide +kernel, by decide +kernel⟩, List.mem_of_getElem? (i := 1192) (by decide +kernel), List.mem_of_getElem? (i := 1821) (by decide +kernel), List.mem_of_getElem? (i := 1822) (by decide +kernel)⟩
theorem lw_p111 : lw_okq (⟨"LoafTableModel", "behindEnds", "(I)I"⟩, 41) := ⟨⟨by decide +kernel, by decide +kernel⟩, List.mem_of_getElem? (i := 1192) (by decide +kernel), List.mem_of_getElem? (i := 1825) (by decide +kernel), List.mem_of_getElem? (i := 1826) (by decide +kernel)⟩
def lw_privs_7 : List (MethodName × Nat) := [(⟨"LoafTableModel", "laysHere", "(II)V"⟩, 41), (⟨"LoafTableModel", "mostAlike", "(I)I"⟩, 41), (⟨"LoafTableModel", "tellsBy", "(JJ)Z"⟩, 41), (⟨"LoafTableModel", "playing", "(III)I"⟩, 41), (⟨"LoafTableModel", "beginsAt", "(I)V"⟩, 41), (⟨"LoafTableModel", "settles", "(II)V"⟩, 41), (⟨"LoafTableModel", "comesTo", "(II)I"⟩, 41), (⟨"LoafTableModel", "lives", "(I)V"⟩, 41), (⟨"LoafTableModel", "does", "(I)Z"⟩, 41), (⟨"LoafTableModel", "daysBy", "(I)Z"⟩, 41), (⟨"LoafTableModel", "cutsBy", "(I)Z"⟩, 41), (⟨"LoafTableModel", "bakes", "(I)Z"⟩, 41), (⟨"LoafTableModel", "doesAny", "()Z"⟩, 41), (⟨"LoafTableModel", "draw", "(I)I"⟩, 41), (⟨"LoafTableModel", "holds", "(I)Z"⟩, 41), (⟨"LoafTableModel", "behindEnds", "(I)I"⟩, 41)]
theorem lw_r7 : ∀ q ∈ lw_privs_7, lw_okq q := List.forall_mem_cons.mpr ⟨lw_p96, List.forall_mem_cons.mpr ⟨lw_p97, List.forall_mem_cons.mpr ⟨lw_p98, List.forall_mem_cons.mpr ⟨lw_p99, List.forall_mem_cons.mpr ⟨lw_p100, List.forall_mem_cons.mpr ⟨lw_p101, List.forall_mem_cons.mpr ⟨lw_p102, List.forall_mem_cons.mpr ⟨lw_p103, List.forall_mem_cons.mpr ⟨lw_p104, List.forall_mem_cons.mpr ⟨lw_p105, List.forall_mem_cons.mpr ⟨lw_p106, List.forall_mem_cons.mpr ⟨lw_p107, List.forall_mem_cons.mpr ⟨lw_p108, List.forall_mem_cons.mpr ⟨lw_p109, List.forall_mem_cons.mpr ⟨lw_p110, List.forall_mem_cons.mpr ⟨lw_p111, fun _ h => absurd h List.not_mem_nil⟩⟩⟩⟩⟩⟩⟩⟩⟩⟩⟩⟩⟩⟩⟩⟩
theorem lw_p112 : lw_okq (⟨"LoafTableModel", "copies", "(II)V"⟩, 41) := ⟨⟨by decide +kernel, by decide +kernel⟩, List.mem_of_getElem? (i := 1192) (by decide +kernel), List.mem_of_getElem? (i := 1841) (by decide +kernel), List.mem_of_getElem? (i := 1842) (by decide +kernel)⟩
def lw_privs_8 : List (MethodName × Nat) := [(⟨"LoafTableModel", "copies", "(II)V"⟩, 41)]
theorem lw_r8 : ∀ q ∈ lw_privs_8, lw_okq q := List.forall_mem_cons.mpr ⟨lw_p112, fun _ h => absurd h List.not_mem_nil⟩
def lw_privs : List (MethodName × Nat) := lw_privs_1 ++ (lw_privs_2 ++ (lw_privs_3 ++ (lw_privs_4 ++ (lw_privs_5 ++ (lw_privs_6 ++ (lw_privs_7 ++ (lw_privs_8)))))))
def lw_tbl : List Cond := k2_sels lw_privs ++ tables_1
theorem lw_privs_ok : ∀ q ∈ lw_privs, lw_okq q := by
  show ∀ q ∈ lw_privs_1 ++ (lw_privs_2 ++ (lw_privs_3 ++ (lw_privs_4 ++ (lw_privs_5 ++ (lw_privs_6 ++ (lw_privs_7 ++ (lw_privs_8))))))), lw_okq q
  exact List.forall_mem_append.mpr ⟨lw_r1, List.forall_mem_append.mpr ⟨lw_r2, List.forall_mem_append.mpr ⟨lw_r3, List.forall_mem_append.mpr ⟨lw_r4, List.forall_mem_append.mpr ⟨lw_r5, List.forall_mem_append.mpr ⟨lw_r6, List.forall_mem_append.mpr ⟨lw_r7, lw_r8⟩⟩⟩⟩⟩⟩⟩
def RX0 : String := "LoafTable$Ahead"
def TX0 : u_T := fun k => match k with
  | 0 => ("LoafTable$Ahead", "now", "LLoafTable$Table;", true)
  | 1 => ("LoafTable$Ahead", "then", "LLoafTable$Table;", true)
  | 2 => ("LoafTable$Ahead", "nextDays", "I", false)
  | _ => ("LoafTable$Ahead", "nextGuest", "I", false)
def tyX0 : Nat → FieldType := fun k => match k with
  | 0 => .object "LoafTable$Table"
  | 1 => .object "LoafTable$Table"
  | 2 => .int
  | _ => .int
abbrev wsX00 : List Cond := u_ws RX0 TX0 4
theorem nmX0 : ∀ a, a < 4 → ∀ b, b < 4 → a ≠ b → (TX0 a).2.1 ≠ (TX0 b).2.1 := by decide +kernel
theorem tyX0_ok : ∀ k, k < 4 → parseFieldDescriptor (TX0 k).2.2.1 = some (tyX0 k) := by decide +kernel
abbrev cX0_init : ByteArray := prog_2_method_1_code
def yX0_init : MethodName := ⟨RX0, "<init>", "(LLoafTable$Table;)V"⟩
abbrev cX0_inDays : ByteArray := prog_2_method_2_code
def yX0_inDays : MethodName := ⟨RX0, "inDays", "(I)LLoafTable$Table;"⟩
abbrev cX0_findNext : ByteArray := prog_2_method_3_code
def yX0_findNext : MethodName := ⟨RX0, "findNext", "()V"⟩
abbrev cX0_findNextOfThen : ByteArray := prog_2_method_4_code
def yX0_findNextOfThen : MethodName := ⟨RX0, "findNextOfThen", "()V"⟩
abbrev cX0_hangingSet : ByteArray := prog_2_method_5_code
def yX0_hangingSet : MethodName := ⟨RX0, "hangingSet", "()I"⟩
abbrev cX0_daysToStarve : ByteArray := prog_2_method_6_code
def yX0_daysToStarve : MethodName := ⟨RX0, "daysToStarve", "()I"⟩
abbrev cX0_leastLoaf : ByteArray := prog_2_method_7_code
def yX0_leastLoaf : MethodName := ⟨RX0, "leastLoaf", "(I)I"⟩
abbrev cX0_isEnough : ByteArray := prog_2_method_8_code
def yX0_isEnough : MethodName := ⟨RX0, "isEnough", "(II)Z"⟩
def RX1 : String := "LoafTable$Contest"
def TX1 : u_T := fun k => match k with
  | 0 => ("LoafTable$Contest", "now", "LLoafTable$Table;", true)
  | 1 => ("LoafTable$Contest", "board", "LLoafTable$Table;", true)
  | 2 => ("LoafTable$Contest", "then", "LLoafTable$Table;", true)
  | 3 => ("LoafTable$Contest", "first", "I", false)
  | 4 => ("LoafTable$Contest", "second", "I", false)
  | 5 => ("LoafTable$Contest", "turns", "I", false)
  | _ => ("LoafTable$Contest", "firstMove", "I", false)
def tyX1 : Nat → FieldType := fun k => match k with
  | 0 => .object "LoafTable$Table"
  | 1 => .object "LoafTable$Table"
  | 2 => .object "LoafTable$Table"
  | 3 => .int
  | 4 => .int
  | 5 => .int
  | _ => .int
abbrev wsX10 : List Cond := u_ws RX1 TX1 7
theorem nmX1 : ∀ a, a < 7 → ∀ b, b < 7 → a ≠ b → (TX1 a).2.1 ≠ (TX1 b).2.1 := by decide +kernel
theorem tyX1_ok : ∀ k, k < 7 → parseFieldDescriptor (TX1 k).2.2.1 = some (tyX1 k) := by decide +kernel
abbrev cX1_init : ByteArray := prog_3_method_1_code
def yX1_init : MethodName := ⟨RX1, "<init>", "(LLoafTable$Table;)V"⟩
abbrev cX1_outcomeOf : ByteArray := prog_3_method_2_code
def yX1_outcomeOf : MethodName := ⟨RX1, "outcomeOf", "(III)I"⟩
abbrev cX1_bestFrom : ByteArray := prog_3_method_3_code
def yX1_bestFrom : MethodName := ⟨RX1, "bestFrom", "(I)I"⟩
abbrev cX1_outcome : ByteArray := prog_3_method_4_code
def yX1_outcome : MethodName := ⟨RX1, "outcome", "()I"⟩
def RX2 : String := "LoafTable$Life"
def TX2 : u_T := fun k => match k with
  | 0 => ("LoafTable$Life", "table", "LLoafTable$Table;", true)
  | 1 => ("LoafTable$Life", "plot", "LLoafTable$Weeks;", true)
  | 2 => ("LoafTable$Life", "kept", "LLoafTable$Table;", true)
  | 3 => ("LoafTable$Life", "drawn", "I", false)
  | 4 => ("LoafTable$Life", "over", "Z", false)
  | 5 => ("LoafTable$Life", "steps", "I", false)
  | 6 => ("LoafTable$Life", "missed", "I", false)
  | _ => ("LoafTable$Life", "stepLeft", "Z", false)
def tyX2 : Nat → FieldType := fun k => match k with
  | 0 => .object "LoafTable$Table"
  | 1 => .object "LoafTable$Weeks"
  | 2 => .object "LoafTable$Table"
  | 3 => .int
  | 4 => .boolean
  | 5 => .int
  | 6 => .int
  | _ => .boolean
abbrev wsX20 : List Cond := u_ws RX2 TX2 8
theorem nmX2 : ∀ a, a < 8 → ∀ b, b < 8 → a ≠ b → (TX2 a).2.1 ≠ (TX2 b).2.1 := by decide +kernel
theorem tyX2_ok : ∀ k, k < 8 → parseFieldDescriptor (TX2 k).2.2.1 = some (tyX2 k) := by decide +kernel
abbrev cX2_init : ByteArray := prog_4_method_1_code
def yX2_init : MethodName := ⟨RX2, "<init>", "(LLoafTable$Table;LLoafTable$Weeks;)V"⟩
abbrev cX2_pass : ByteArray := prog_4_method_2_code
def yX2_pass : MethodName := ⟨RX2, "pass", "(I)V"⟩
abbrev cX2_goThrough : ByteArray := prog_4_method_3_code
def yX2_goThrough : MethodName := ⟨RX2, "goThrough", "(III)V"⟩
abbrev cX2_timesWithin : ByteArray := prog_4_method_4_code
def yX2_timesWithin : MethodName := ⟨RX2, "timesWithin", "(I)I"⟩
abbrev cX2_holds : ByteArray := prog_4_method_5_code
def yX2_holds : MethodName := ⟨RX2, "holds", "(I)Z"⟩
abbrev cX2_compare : ByteArray := prog_4_method_6_code
def yX2_compare : MethodName := ⟨RX2, "compare", "(II)Z"⟩
abbrev cX2_goStep : ByteArray := prog_4_method_7_code
def yX2_goStep : MethodName := ⟨RX2, "goStep", "(I)V"⟩
abbrev cX2_goButter : ByteArray := prog_4_method_8_code
def yX2_goButter : MethodName := ⟨RX2, "goButter", "(II)Z"⟩
abbrev cX2_goSoup : ByteArray := prog_4_method_9_code
def yX2_goSoup : MethodName := ⟨RX2, "goSoup", "(I)Z"⟩
abbrev cX2_goAny : ByteArray := prog_4_method_10_code
def yX2_goAny : MethodName := ⟨RX2, "goAny", "()Z"⟩
abbrev cX2_draw : ByteArray := prog_4_method_11_code
def yX2_draw : MethodName := ⟨RX2, "draw", "(I)I"⟩
def RX3 : String := "LoafTable$Planner"
def TX3 : u_T := fun k => match k with
  | 0 => ("LoafTable$Planner", "now", "LLoafTable$Table;", true)
  | 1 => ("LoafTable$Planner", "morning", "[LLoafTable$Table;", true)
  | 2 => ("LoafTable$Planner", "row", "[I", true)
  | 3 => ("LoafTable$Planner", "bestRow", "[I", true)
  | _ => ("LoafTable$Planner", "best", "I", false)
def tyX3 : Nat → FieldType := fun k => match k with
  | 0 => .object "LoafTable$Table"
  | 1 => .array (.object "LoafTable$Table")
  | 2 => .array .int
  | 3 => .array .int
  | _ => .int
abbrev wsX30 : List Cond := u_ws RX3 TX3 5
theorem nmX3 : ∀ a, a < 5 → ∀ b, b < 5 → a ≠ b → (TX3 a).2.1 ≠ (TX3 b).2.1 := by decide +kernel
theorem tyX3_ok : ∀ k, k < 5 → parseFieldDescriptor (TX3 k).2.2.1 = some (tyX3 k) := by decide +kernel
abbrev cX3_init : ByteArray := prog_5_method_1_code
def yX3_init : MethodName := ⟨RX3, "<init>", "(LLoafTable$Table;)V"⟩
abbrev cX3_leastDear : ByteArray := prog_5_method_2_code
def yX3_leastDear : MethodName := ⟨RX3, "leastDear", "(I)I"⟩
abbrev cX3_search : ByteArray := prog_5_method_3_code
def yX3_search : MethodName := ⟨RX3, "search", "(III)V"⟩
abbrev cX3_tryCutter : ByteArray := prog_5_method_4_code
def yX3_tryCutter : MethodName := ⟨RX3, "tryCutter", "(IIII)V"⟩
def RX4 : String := "LoafTable$Sight"
def TX4 : u_T := fun k => match k with
  | 0 => ("LoafTable$Sight", "now", "LLoafTable$Table;", true)
  | 1 => ("LoafTable$Sight", "then", "LLoafTable$Table;", true)
  | 2 => ("LoafTable$Sight", "counts", "[I", true)
  | 3 => ("LoafTable$Sight", "sizes", "[[I", true)
  | 4 => ("LoafTable$Sight", "couples", "I", false)
  | 5 => ("LoafTable$Sight", "firstResolve", "I", false)
  | _ => ("LoafTable$Sight", "firstWish", "I", false)
def tyX4 : Nat → FieldType := fun k => match k with
  | 0 => .object "LoafTable$Table"
  | 1 => .object "LoafTable$Table"
  | 2 => .array .int
  | 3 => .array (.array .int)
  | 4 => .int
  | 5 => .int
  | _ => .int
abbrev wsX40 : List Cond := u_ws RX4 TX4 7
theorem nmX4 : ∀ a, a < 7 → ∀ b, b < 7 → a ≠ b → (TX4 a).2.1 ≠ (TX4 b).2.1 := by decide +kernel
theorem tyX4_ok : ∀ k, k < 7 → parseFieldDescriptor (TX4 k).2.2.1 = some (tyX4 k) := by decide +kernel
abbrev cX4_init : ByteArray := prog_6_method_1_code
def yX4_init : MethodName := ⟨RX4, "<init>", "(LLoafTable$Table;)V"⟩
abbrev cX4_look : ByteArray := prog_6_method_2_code
def yX4_look : MethodName := ⟨RX4, "look", "(ILLoafTable$Tray;I)V"⟩
abbrev cX4_partingDay : ByteArray := prog_6_method_3_code
def yX4_partingDay : MethodName := ⟨RX4, "partingDay", "()I"⟩
abbrev cX4_forget : ByteArray := prog_6_method_4_code
def yX4_forget : MethodName := ⟨RX4, "forget", "()V"⟩
abbrev cX4_countAhead : ByteArray := prog_6_method_5_code
def yX4_countAhead : MethodName := ⟨RX4, "countAhead", "(III)V"⟩
abbrev cX4_isAsSeen : ByteArray := prog_6_method_6_code
def yX4_isAsSeen : MethodName := ⟨RX4, "isAsSeen", "(LLoafTable$Tray;I)Z"⟩
abbrev cX4_addCouple : ByteArray := prog_6_method_7_code
def yX4_addCouple : MethodName := ⟨RX4, "addCouple", "(II)V"⟩
def RX5 : String := "LoafTable$Table"
def TX5 : u_T := fun k => match k with
  | 0 => ("LoafTable$Table", "guests", "I", false)
  | 1 => ("LoafTable$Table", "odds", "I", false)
  | 2 => ("LoafTable$Table", "resolve", "I", false)
  | 3 => ("LoafTable$Table", "press", "I", false)
  | 4 => ("LoafTable$Table", "loaf", "I", false)
  | 5 => ("LoafTable$Table", "slices", "I", false)
  | 6 => ("LoafTable$Table", "today", "I", false)
  | 7 => ("LoafTable$Table", "cuts", "I", false)
  | 8 => ("LoafTable$Table", "there", "I", false)
  | 9 => ("LoafTable$Table", "names", "[J", true)
  | 10 => ("LoafTable$Table", "wish", "[I", true)
  | 11 => ("LoafTable$Table", "bears", "[I", true)
  | 12 => ("LoafTable$Table", "dear", "[I", true)
  | 13 => ("LoafTable$Table", "kind", "[I", true)
  | 14 => ("LoafTable$Table", "hunger", "[I", true)
  | 15 => ("LoafTable$Table", "butterTo", "[I", true)
  | _ => ("LoafTable$Table", "passers", "[I", true)
def tyX5 : Nat → FieldType := fun k => match k with
  | 0 => .int
  | 1 => .int
  | 2 => .int
  | 3 => .int
  | 4 => .int
  | 5 => .int
  | 6 => .int
  | 7 => .int
  | 8 => .int
  | 9 => .array .long
  | 10 => .array .int
  | 11 => .array .int
  | 12 => .array .int
  | 13 => .array .int
  | 14 => .array .int
  | 15 => .array .int
  | _ => .array .int
abbrev wsX50 : List Cond := u_ws RX5 TX5 17
theorem nmX5 : ∀ a, a < 17 → ∀ b, b < 17 → a ≠ b → (TX5 a).2.1 ≠ (TX5 b).2.1 := by decide +kernel
theorem tyX5_ok : ∀ k, k < 17 → parseFieldDescriptor (TX5 k).2.2.1 = some (tyX5 k) := by decide +kernel
abbrev cX5_init : ByteArray := prog_7_method_1_code
def yX5_init : MethodName := ⟨RX5, "<init>", "()V"⟩
abbrev cX5_clear : ByteArray := prog_7_method_2_code
def yX5_clear : MethodName := ⟨RX5, "clear", "()V"⟩
abbrev cX5_copyFrom : ByteArray := prog_7_method_3_code
def yX5_copyFrom : MethodName := ⟨RX5, "copyFrom", "(LLoafTable$Table;)V"⟩
abbrev cX5_hasGuest : ByteArray := prog_7_method_4_code
def yX5_hasGuest : MethodName := ⟨RX5, "hasGuest", "(I)Z"⟩
abbrev cX5_seat : ByteArray := prog_7_method_5_code
def yX5_seat : MethodName := ⟨RX5, "seat", "(J)V"⟩
abbrev cX5_guestNamed : ByteArray := prog_7_method_6_code
def yX5_guestNamed : MethodName := ⟨RX5, "guestNamed", "(J)I"⟩
abbrev cX5_isThere : ByteArray := prog_7_method_7_code
def yX5_isThere : MethodName := ⟨RX5, "isThere", "(I)Z"⟩
abbrev cX5_hungers : ByteArray := prog_7_method_8_code
def yX5_hungers : MethodName := ⟨RX5, "hungers", "(I)Z"⟩
abbrev cX5_countThere : ByteArray := prog_7_method_9_code
def yX5_countThere : MethodName := ⟨RX5, "countThere", "()I"⟩
abbrev cX5_hungrySet : ByteArray := prog_7_method_10_code
def yX5_hungrySet : MethodName := ⟨RX5, "hungrySet", "()I"⟩
abbrev cX5_starvedSet : ByteArray := prog_7_method_11_code
def yX5_starvedSet : MethodName := ⟨RX5, "starvedSet", "()I"⟩
abbrev cX5_passingSet : ByteArray := prog_7_method_12_code
def yX5_passingSet : MethodName := ⟨RX5, "passingSet", "(I)I"⟩
abbrev cX5_dearThere : ByteArray := prog_7_method_13_code
def yX5_dearThere : MethodName := ⟨RX5, "dearThere", "()I"⟩
abbrev cX5_mostPassed : ByteArray := prog_7_method_14_code
def yX5_mostPassed : MethodName := ⟨RX5, "mostPassed", "()I"⟩
abbrev cX5_firstCutter : ByteArray := prog_7_method_15_code
def yX5_firstCutter : MethodName := ⟨RX5, "firstCutter", "()I"⟩
abbrev cX5_cutBy : ByteArray := prog_7_method_16_code
def yX5_cutBy : MethodName := ⟨RX5, "cutBy", "(I)Z"⟩
abbrev cX5_mayPass : ByteArray := prog_7_method_17_code
def yX5_mayPass : MethodName := ⟨RX5, "mayPass", "(I)Z"⟩
abbrev cX5_passDays : ByteArray := prog_7_method_18_code
def yX5_passDays : MethodName := ⟨RX5, "passDays", "(I)V"⟩
abbrev cX5_passDay : ByteArray := prog_7_method_19_code
def yX5_passDay : MethodName := ⟨RX5, "passDay", "(I)V"⟩
abbrev cX5_eat : ByteArray := prog_7_method_20_code
def yX5_eat : MethodName := ⟨RX5, "eat", "()V"⟩
abbrev cX5_yearn : ByteArray := prog_7_method_21_code
def yX5_yearn : MethodName := ⟨RX5, "yearn", "()V"⟩
def RX6 : String := "LoafTable$TableText"
def TX6 : u_T := fun k => match k with
  | 0 => ("LoafTable$TableText", "in", "LLoafTable$Tokens;", true)
  | 1 => ("LoafTable$TableText", "draft", "LLoafTable$Table;", true)
  | _ => ("LoafTable$TableText", "settings", "I", false)
def tyX6 : Nat → FieldType := fun k => match k with
  | 0 => .object "LoafTable$Tokens"
  | 1 => .object "LoafTable$Table"
  | _ => .int
abbrev wsX60 : List Cond := u_ws RX6 TX6 3
theorem nmX6 : ∀ a, a < 3 → ∀ b, b < 3 → a ≠ b → (TX6 a).2.1 ≠ (TX6 b).2.1 := by decide +kernel
theorem tyX6_ok : ∀ k, k < 3 → parseFieldDescriptor (TX6 k).2.2.1 = some (tyX6 k) := by decide +kernel
abbrev cX6_init : ByteArray := prog_8_method_1_code
def yX6_init : MethodName := ⟨RX6, "<init>", "(LLoafTable$Tokens;)V"⟩
abbrev cX6_isTable : ByteArray := prog_8_method_2_code
def yX6_isTable : MethodName := ⟨RX6, "isTable", "()Z"⟩
abbrev cX6_takeSetting : ByteArray := prog_8_method_3_code
def yX6_takeSetting : MethodName := ⟨RX6, "takeSetting", "(I)Z"⟩
abbrev cX6_takeSettingsNumber : ByteArray := prog_8_method_4_code
def yX6_takeSettingsNumber : MethodName := ⟨RX6, "takeSettingsNumber", "(I)Z"⟩
abbrev cX6_takeGuest : ByteArray := prog_8_method_5_code
def yX6_takeGuest : MethodName := ⟨RX6, "takeGuest", "()Z"⟩
abbrev cX6_takeButter : ByteArray := prog_8_method_6_code
def yX6_takeButter : MethodName := ⟨RX6, "takeButter", "()Z"⟩
def RX7 : String := "LoafTable$Tokens"
def TX7 : u_T := fun k => match k with
  | 0 => ("LoafTable$Tokens", "tape", "[B", true)
  | 1 => ("LoafTable$Tokens", "onTape", "I", false)
  | 2 => ("LoafTable$Tokens", "length", "I", false)
  | 3 => ("LoafTable$Tokens", "at", "I", false)
  | 4 => ("LoafTable$Tokens", "place", "I", false)
  | 5 => ("LoafTable$Tokens", "kind", "I", false)
  | 6 => ("LoafTable$Tokens", "name", "J", false)
  | 7 => ("LoafTable$Tokens", "digits", "I", false)
  | 8 => ("LoafTable$Tokens", "number", "I", false)
  | 9 => ("LoafTable$Tokens", "fault", "I", false)
  | _ => ("LoafTable$Tokens", "faultPlace", "I", false)
def tyX7 : Nat → FieldType := fun k => match k with
  | 0 => .array .byte
  | 1 => .int
  | 2 => .int
  | 3 => .int
  | 4 => .int
  | 5 => .int
  | 6 => .long
  | 7 => .int
  | 8 => .int
  | 9 => .int
  | _ => .int
abbrev wsX70 : List Cond := u_ws RX7 TX7 11
theorem nmX7 : ∀ a, a < 11 → ∀ b, b < 11 → a ≠ b → (TX7 a).2.1 ≠ (TX7 b).2.1 := by decide +kernel
theorem tyX7_ok : ∀ k, k < 11 → parseFieldDescriptor (TX7 k).2.2.1 = some (tyX7 k) := by decide +kernel
abbrev cX7_init : ByteArray := prog_9_method_1_code
def yX7_init : MethodName := ⟨RX7, "<init>", "()V"⟩
abbrev cX7_append : ByteArray := prog_9_method_2_code
def yX7_append : MethodName := ⟨RX7, "append", "(I)V"⟩
abbrev cX7_begin : ByteArray := prog_9_method_3_code
def yX7_begin : MethodName := ⟨RX7, "begin", "(I)V"⟩
abbrev cX7_refuse : ByteArray := prog_9_method_4_code
def yX7_refuse : MethodName := ⟨RX7, "refuse", "(I)Z"⟩
abbrev cX7_take : ByteArray := prog_9_method_5_code
def yX7_take : MethodName := ⟨RX7, "take", "(I)Z"⟩
abbrev cX7_takeNumber : ByteArray := prog_9_method_6_code
def yX7_takeNumber : MethodName := ⟨RX7, "takeNumber", "(II)Z"⟩
abbrev cX7_namedGuest : ByteArray := prog_9_method_7_code
def yX7_namedGuest : MethodName := ⟨RX7, "namedGuest", "(LLoafTable$Table;)I"⟩
abbrev cX7_advance : ByteArray := prog_9_method_8_code
def yX7_advance : MethodName := ⟨RX7, "advance", "()V"⟩
abbrev cX7_readLetters : ByteArray := prog_9_method_9_code
def yX7_readLetters : MethodName := ⟨RX7, "readLetters", "()V"⟩
abbrev cX7_readDigits : ByteArray := prog_9_method_10_code
def yX7_readDigits : MethodName := ⟨RX7, "readDigits", "()V"⟩
abbrev cX7_kindOfWord : ByteArray := prog_9_method_11_code
def yX7_kindOfWord : MethodName := ⟨RX7, "kindOfWord", "(J)I"⟩
def RX8 : String := "LoafTable$Tray"
def TX8 : u_T := fun k => match k with
  | 0 => ("LoafTable$Tray", "laid", "Z", false)
  | 1 => ("LoafTable$Tray", "sort", "I", false)
  | 2 => ("LoafTable$Tray", "many", "I", false)
  | _ => ("LoafTable$Tray", "numbers", "[J", true)
def tyX8 : Nat → FieldType := fun k => match k with
  | 0 => .boolean
  | 1 => .int
  | 2 => .int
  | _ => .array .long
abbrev wsX80 : List Cond := u_ws RX8 TX8 4
theorem nmX8 : ∀ a, a < 4 → ∀ b, b < 4 → a ≠ b → (TX8 a).2.1 ≠ (TX8 b).2.1 := by decide +kernel
theorem tyX8_ok : ∀ k, k < 4 → parseFieldDescriptor (TX8 k).2.2.1 = some (tyX8 k) := by decide +kernel
abbrev cX8_init : ByteArray := prog_10_method_1_code
def yX8_init : MethodName := ⟨RX8, "<init>", "()V"⟩
abbrev cX8_become : ByteArray := prog_10_method_2_code
def yX8_become : MethodName := ⟨RX8, "become", "(II)V"⟩
abbrev cX8_has : ByteArray := prog_10_method_3_code
def yX8_has : MethodName := ⟨RX8, "has", "(II)Z"⟩
abbrev cX8_put : ByteArray := prog_10_method_4_code
def yX8_put : MethodName := ⟨RX8, "put", "(IJ)V"⟩
def RX9 : String := "LoafTable$Weeks"
def TX9 : u_T := fun k => match k with
  | 0 => ("LoafTable$Weeks", "written", "Z", false)
  | 1 => ("LoafTable$Weeks", "steps", "I", false)
  | 2 => ("LoafTable$Weeks", "word", "[I", true)
  | 3 => ("LoafTable$Weeks", "test", "[I", true)
  | 4 => ("LoafTable$Weeks", "who", "[I", true)
  | 5 => ("LoafTable$Weeks", "whom", "[I", true)
  | 6 => ("LoafTable$Weeks", "compares", "[I", true)
  | 7 => ("LoafTable$Weeks", "much", "[I", true)
  | _ => ("LoafTable$Weeks", "behind", "[I", true)
def tyX9 : Nat → FieldType := fun k => match k with
  | 0 => .boolean
  | 1 => .int
  | 2 => .array .int
  | 3 => .array .int
  | 4 => .array .int
  | 5 => .array .int
  | 6 => .array .int
  | 7 => .array .int
  | _ => .array .int
abbrev wsX90 : List Cond := u_ws RX9 TX9 9
theorem nmX9 : ∀ a, a < 9 → ∀ b, b < 9 → a ≠ b → (TX9 a).2.1 ≠ (TX9 b).2.1 := by decide +kernel
theorem tyX9_ok : ∀ k, k < 9 → parseFieldDescriptor (TX9 k).2.2.1 = some (tyX9 k) := by decide +kernel
abbrev cX9_init : ByteArray := prog_11_method_1_code
def yX9_init : MethodName := ⟨RX9, "<init>", "()V"⟩
abbrev cX9_forget : ByteArray := prog_11_method_2_code
def yX9_forget : MethodName := ⟨RX9, "forget", "()V"⟩
abbrev cX9_copyFrom : ByteArray := prog_11_method_3_code
def yX9_copyFrom : MethodName := ⟨RX9, "copyFrom", "(LLoafTable$Weeks;)V"⟩
def RX10 : String := "LoafTable$WeeksText"
def TX10 : u_T := fun k => match k with
  | 0 => ("LoafTable$WeeksText", "in", "LLoafTable$Tokens;", true)
  | 1 => ("LoafTable$WeeksText", "table", "LLoafTable$Table;", true)
  | 2 => ("LoafTable$WeeksText", "draft", "LLoafTable$Weeks;", true)
  | 3 => ("LoafTable$WeeksText", "opened", "[I", true)
  | _ => ("LoafTable$WeeksText", "open", "I", false)
def tyX10 : Nat → FieldType := fun k => match k with
  | 0 => .object "LoafTable$Tokens"
  | 1 => .object "LoafTable$Table"
  | 2 => .object "LoafTable$Weeks"
  | 3 => .array .int
  | _ => .int
abbrev wsX100 : List Cond := u_ws RX10 TX10 5
theorem nmX10 : ∀ a, a < 5 → ∀ b, b < 5 → a ≠ b → (TX10 a).2.1 ≠ (TX10 b).2.1 := by decide +kernel
theorem tyX10_ok : ∀ k, k < 5 → parseFieldDescriptor (TX10 k).2.2.1 = some (tyX10 k) := by decide +kernel
abbrev cX10_init : ByteArray := prog_12_method_1_code
def yX10_init : MethodName := ⟨RX10, "<init>", "(LLoafTable$Tokens;LLoafTable$Table;)V"⟩
abbrev cX10_isWeeks : ByteArray := prog_12_method_2_code
def yX10_isWeeks : MethodName := ⟨RX10, "isWeeks", "()Z"⟩
abbrev cX10_takeEnd : ByteArray := prog_12_method_3_code
def yX10_takeEnd : MethodName := ⟨RX10, "takeEnd", "()Z"⟩
abbrev cX10_beginStep : ByteArray := prog_12_method_4_code
def yX10_beginStep : MethodName := ⟨RX10, "beginStep", "(I)Z"⟩
abbrev cX10_takeRest : ByteArray := prog_12_method_5_code
def yX10_takeRest : MethodName := ⟨RX10, "takeRest", "(I)Z"⟩
abbrev cX10_takeTest : ByteArray := prog_12_method_6_code
def yX10_takeTest : MethodName := ⟨RX10, "takeTest", "(I)Z"⟩
abbrev cX10_takeCompares : ByteArray := prog_12_method_7_code
def yX10_takeCompares : MethodName := ⟨RX10, "takeCompares", "(I)Z"⟩
abbrev cX10_takeMuch : ByteArray := prog_12_method_8_code
def yX10_takeMuch : MethodName := ⟨RX10, "takeMuch", "(III)Z"⟩
abbrev cX10_takeGuest : ByteArray := prog_12_method_9_code
def yX10_takeGuest : MethodName := ⟨RX10, "takeGuest", "([III)Z"⟩
def RX11 : String := "LoafTable"
def TX11 : u_T := fun k => match k with
  | 0 => ("LoafTable", "lastStatus", "I", false)
  | 1 => ("LoafTable", "fractionTop", "J", false)
  | 2 => ("LoafTable", "fractionBottom", "J", false)
  | 3 => ("LoafTable", "trays", "[LLoafTable$Tray;", true)
  | 4 => ("LoafTable", "tokens", "LLoafTable$Tokens;", true)
  | 5 => ("LoafTable", "now", "LLoafTable$Table;", true)
  | 6 => ("LoafTable", "plot", "LLoafTable$Weeks;", true)
  | 7 => ("LoafTable", "tableText", "LLoafTable$TableText;", true)
  | 8 => ("LoafTable", "weeksText", "LLoafTable$WeeksText;", true)
  | 9 => ("LoafTable", "ahead", "LLoafTable$Ahead;", true)
  | 10 => ("LoafTable", "planner", "LLoafTable$Planner;", true)
  | 11 => ("LoafTable", "sight", "LLoafTable$Sight;", true)
  | 12 => ("LoafTable", "contest", "LLoafTable$Contest;", true)
  | 13 => ("LoafTable", "life", "LLoafTable$Life;", true)
  | 14 => ("LoafTable", "ofLife", "[I", true)
  | 15 => ("LoafTable", "anyLife", "Z", false)
  | 16 => ("LoafTable", "markedTables", "[LLoafTable$Table;", true)
  | 17 => ("LoafTable", "markedWeeks", "[LLoafTable$Weeks;", true)
  | _ => ("LoafTable", "marks", "I", false)
def tyX11 : Nat → FieldType := fun k => match k with
  | 0 => .int
  | 1 => .long
  | 2 => .long
  | 3 => .array (.object "LoafTable$Tray")
  | 4 => .object "LoafTable$Tokens"
  | 5 => .object "LoafTable$Table"
  | 6 => .object "LoafTable$Weeks"
  | 7 => .object "LoafTable$TableText"
  | 8 => .object "LoafTable$WeeksText"
  | 9 => .object "LoafTable$Ahead"
  | 10 => .object "LoafTable$Planner"
  | 11 => .object "LoafTable$Sight"
  | 12 => .object "LoafTable$Contest"
  | 13 => .object "LoafTable$Life"
  | 14 => .array .int
  | 15 => .boolean
  | 16 => .array (.object "LoafTable$Table")
  | 17 => .array (.object "LoafTable$Weeks")
  | _ => .int
abbrev wsX110 : List Cond := u_ws RX11 TX11 19
theorem nmX11 : ∀ a, a < 19 → ∀ b, b < 19 → a ≠ b → (TX11 a).2.1 ≠ (TX11 b).2.1 := by decide +kernel
theorem tyX11_ok : ∀ k, k < 19 → parseFieldDescriptor (TX11 k).2.2.1 = some (tyX11 k) := by decide +kernel
abbrev cX11_init : ByteArray := prog_1_method_1_code
def yX11_init : MethodName := ⟨RX11, "<init>", "()V"⟩
abbrev cX11_status : ByteArray := prog_1_method_2_code
def yX11_status : MethodName := ⟨RX11, "status", "()I"⟩
abbrev cX11_top : ByteArray := prog_1_method_3_code
def yX11_top : MethodName := ⟨RX11, "top", "()J"⟩
abbrev cX11_bottom : ByteArray := prog_1_method_4_code
def yX11_bottom : MethodName := ⟨RX11, "bottom", "()J"⟩
abbrev cX11_tray : ByteArray := prog_1_method_5_code
def yX11_tray : MethodName := ⟨RX11, "tray", "(III)Z"⟩
abbrev cX11_write : ByteArray := prog_1_method_6_code
def yX11_write : MethodName := ⟨RX11, "write", "(IIJ)Z"⟩
abbrev cX11_read : ByteArray := prog_1_method_7_code
def yX11_read : MethodName := ⟨RX11, "read", "(II)J"⟩
abbrev cX11_pour : ByteArray := prog_1_method_8_code
def yX11_pour : MethodName := ⟨RX11, "pour", "(IIIII)Z"⟩
abbrev cX11_feed : ByteArray := prog_1_method_9_code
def yX11_feed : MethodName := ⟨RX11, "feed", "(IIIII)I"⟩
abbrev cX11_table : ByteArray := prog_1_method_10_code
def yX11_table : MethodName := ⟨RX11, "table", "(I)I"⟩
abbrev cX11_weeks : ByteArray := prog_1_method_11_code
def yX11_weeks : MethodName := ⟨RX11, "weeks", "(I)I"⟩
abbrev cX11_fault : ByteArray := prog_1_method_12_code
def yX11_fault : MethodName := ⟨RX11, "fault", "(I)I"⟩
abbrev cX11_told : ByteArray := prog_1_method_13_code
def yX11_told : MethodName := ⟨RX11, "told", "(I)I"⟩
abbrev cX11_guest : ByteArray := prog_1_method_14_code
def yX11_guest : MethodName := ⟨RX11, "guest", "(II)I"⟩
abbrev cX11_cutter : ByteArray := prog_1_method_15_code
def yX11_cutter : MethodName := ⟨RX11, "cutter", "()I"⟩
abbrev cX11_wanted : ByteArray := prog_1_method_16_code
def yX11_wanted : MethodName := ⟨RX11, "wanted", "()I"⟩
abbrev cX11_day : ByteArray := prog_1_method_17_code
def yX11_day : MethodName := ⟨RX11, "day", "(I)I"⟩
abbrev cX11_cut : ByteArray := prog_1_method_18_code
def yX11_cut : MethodName := ⟨RX11, "cut", "(I)I"⟩
abbrev cX11_butter : ByteArray := prog_1_method_19_code
def yX11_butter : MethodName := ⟨RX11, "butter", "(II)I"⟩
abbrev cX11_soup : ByteArray := prog_1_method_20_code
def yX11_soup : MethodName := ⟨RX11, "soup", "(I)I"⟩
abbrev cX11_bake : ByteArray := prog_1_method_21_code
def yX11_bake : MethodName := ⟨RX11, "bake", "(I)I"⟩
abbrev cX11_sway : ByteArray := prog_1_method_22_code
def yX11_sway : MethodName := ⟨RX11, "sway", "(II)I"⟩
abbrev cX11_sit : ByteArray := prog_1_method_23_code
def yX11_sit : MethodName := ⟨RX11, "sit", "(IIII)I"⟩
abbrev cX11_come : ByteArray := prog_1_method_24_code
def yX11_come : MethodName := ⟨RX11, "come", "(I)I"⟩
abbrev cX11_rule : ByteArray := prog_1_method_25_code
def yX11_rule : MethodName := ⟨RX11, "rule", "(II)Z"⟩
abbrev cX11_thereIn : ByteArray := prog_1_method_26_code
def yX11_thereIn : MethodName := ⟨RX11, "thereIn", "(I)I"⟩
abbrev cX11_slicesIn : ByteArray := prog_1_method_27_code
def yX11_slicesIn : MethodName := ⟨RX11, "slicesIn", "(I)I"⟩
abbrev cX11_guestIn : ByteArray := prog_1_method_28_code
def yX11_guestIn : MethodName := ⟨RX11, "guestIn", "(III)I"⟩
abbrev cX11_next : ByteArray := prog_1_method_29_code
def yX11_next : MethodName := ⟨RX11, "next", "()I"⟩
abbrev cX11_nextBy : ByteArray := prog_1_method_30_code
def yX11_nextBy : MethodName := ⟨RX11, "nextBy", "()I"⟩
abbrev cX11_hangs : ByteArray := prog_1_method_31_code
def yX11_hangs : MethodName := ⟨RX11, "hangs", "()I"⟩
abbrev cX11_starving : ByteArray := prog_1_method_32_code
def yX11_starving : MethodName := ⟨RX11, "starving", "()I"⟩
abbrev cX11_least : ByteArray := prog_1_method_33_code
def yX11_least : MethodName := ⟨RX11, "least", "(I)I"⟩
abbrev cX11_plan : ByteArray := prog_1_method_34_code
def yX11_plan : MethodName := ⟨RX11, "plan", "(I)I"⟩
abbrev cX11_planAt : ByteArray := prog_1_method_35_code
def yX11_planAt : MethodName := ⟨RX11, "planAt", "(II)I"⟩
abbrev cX11_seen : ByteArray := prog_1_method_36_code
def yX11_seen : MethodName := ⟨RX11, "seen", "(III)I"⟩
abbrev cX11_seenAs : ByteArray := prog_1_method_37_code
def yX11_seenAs : MethodName := ⟨RX11, "seenAs", "(IIII)I"⟩
abbrev cX11_ask : ByteArray := prog_1_method_38_code
def yX11_ask : MethodName := ⟨RX11, "ask", "(III)I"⟩
abbrev cX11_waits : ByteArray := prog_1_method_39_code
def yX11_waits : MethodName := ⟨RX11, "waits", "(II)Z"⟩
abbrev cX11_chance : ByteArray := prog_1_method_40_code
def yX11_chance : MethodName := ⟨RX11, "chance", "(II)Z"⟩
abbrev cX11_stale : ByteArray := prog_1_method_41_code
def yX11_stale : MethodName := ⟨RX11, "stale", "(I)Z"⟩
abbrev cX11_share : ByteArray := prog_1_method_42_code
def yX11_share : MethodName := ⟨RX11, "share", "(I)Z"⟩
abbrev cX11_game : ByteArray := prog_1_method_43_code
def yX11_game : MethodName := ⟨RX11, "game", "(III)I"⟩
abbrev cX11_moveOf : ByteArray := prog_1_method_44_code
def yX11_moveOf : MethodName := ⟨RX11, "moveOf", "(III)I"⟩
abbrev cX11_copyWishes : ByteArray := prog_1_method_45_code
def yX11_copyWishes : MethodName := ⟨RX11, "copyWishes", "(I)I"⟩
abbrev cX11_live : ByteArray := prog_1_method_46_code
def yX11_live : MethodName := ⟨RX11, "live", "(I)I"⟩
abbrev cX11_lived : ByteArray := prog_1_method_47_code
def yX11_lived : MethodName := ⟨RX11, "lived", "(I)I"⟩
abbrev cX11_mean : ByteArray := prog_1_method_48_code
def yX11_mean : MethodName := ⟨RX11, "mean", "(II)Z"⟩
abbrev cX11_mark : ByteArray := prog_1_method_49_code
def yX11_mark : MethodName := ⟨RX11, "mark", "()I"⟩
abbrev cX11_undo : ByteArray := prog_1_method_50_code
def yX11_undo : MethodName := ⟨RX11, "undo", "()I"⟩
abbrev cX11_given : ByteArray := prog_1_method_51_code
def yX11_given : MethodName := ⟨RX11, "given", "(I)I"⟩
abbrev cX11_givenIfAny : ByteArray := prog_1_method_52_code
def yX11_givenIfAny : MethodName := ⟨RX11, "givenIfAny", "(I)I"⟩
abbrev cX11_none : ByteArray := prog_1_method_53_code
def yX11_none : MethodName := ⟨RX11, "none", "(I)I"⟩
abbrev cX11_agreed : ByteArray := prog_1_method_54_code
def yX11_agreed : MethodName := ⟨RX11, "agreed", "()Z"⟩
abbrev cX11_refused : ByteArray := prog_1_method_55_code
def yX11_refused : MethodName := ⟨RX11, "refused", "(I)Z"⟩
abbrev cX11_fraction : ByteArray := prog_1_method_56_code
def yX11_fraction : MethodName := ⟨RX11, "fraction", "(JJ)Z"⟩
abbrev cX11_within : ByteArray := prog_1_method_57_code
def yX11_within : MethodName := ⟨RX11, "within", "(III)Z"⟩
abbrev cX11_isTray : ByteArray := prog_1_method_58_code
def yX11_isTray : MethodName := ⟨RX11, "isTray", "(I)Z"⟩
abbrev cX11_areTwo : ByteArray := prog_1_method_59_code
def yX11_areTwo : MethodName := ⟨RX11, "areTwo", "(II)Z"⟩
abbrev cX11_trayFails : ByteArray := prog_1_method_60_code
def yX11_trayFails : MethodName := ⟨RX11, "trayFails", "(III)I"⟩
abbrev cX11_seenFails : ByteArray := prog_1_method_61_code
def yX11_seenFails : MethodName := ⟨RX11, "seenFails", "(III)I"⟩
abbrev cX11_power : ByteArray := prog_1_method_62_code
def yX11_power : MethodName := ⟨RX11, "power", "(JI)J"⟩
abbrev cX11_commonDivisor : ByteArray := prog_1_method_63_code
def yX11_commonDivisor : MethodName := ⟨RX11, "commonDivisor", "(JJ)J"⟩
def RX12 : String := "LoafTableModel"
def TX12 : u_T := fun k => match k with
  | 0 => ("LoafTableModel", "at", "[I", true)
  | 1 => ("LoafTableModel", "names", "[J", true)
  | 2 => ("LoafTableModel", "status", "I", false)
  | 3 => ("LoafTableModel", "top", "J", false)
  | 4 => ("LoafTableModel", "bottom", "J", false)
  | 5 => ("LoafTableModel", "sort", "[I", true)
  | 6 => ("LoafTableModel", "trayMany", "[I", true)
  | 7 => ("LoafTableModel", "trays", "[J", true)
  | 8 => ("LoafTableModel", "tape", "[B", true)
  | 9 => ("LoafTableModel", "text", "[B", true)
  | 10 => ("LoafTableModel", "taped", "I", false)
  | 11 => ("LoafTableModel", "size", "I", false)
  | 12 => ("LoafTableModel", "token", "I", false)
  | 13 => ("LoafTableModel", "from", "I", false)
  | 14 => ("LoafTableModel", "end", "I", false)
  | 15 => ("LoafTableModel", "value", "I", false)
  | 16 => ("LoafTableModel", "faultKind", "I", false)
  | 17 => ("LoafTableModel", "faultPlace", "I", false)
  | 18 => ("LoafTableModel", "faults", "I", false)
  | 19 => ("LoafTableModel", "seen", "I", false)
  | 20 => ("LoafTableModel", "toldParts", "I", false)
  | 21 => ("LoafTableModel", "opened", "[I", true)
  | 22 => ("LoafTableModel", "depth", "I", false)
  | 23 => ("LoafTableModel", "counted", "I", false)
  | 24 => ("LoafTableModel", "triedAt", "[I", true)
  | 25 => ("LoafTableModel", "dearAt", "[I", true)
  | 26 => ("LoafTableModel", "bestRow", "[I", true)
  | 27 => ("LoafTableModel", "hereBy", "[I", true)
  | 28 => ("LoafTableModel", "alikeBy", "[I", true)
  | 29 => ("LoafTableModel", "fitsBy", "[Z", true)
  | 30 => ("LoafTableModel", "seenBy", "[I", true)
  | 31 => ("LoafTableModel", "wayBy", "[J", true)
  | 32 => ("LoafTableModel", "gotAt", "[I", true)
  | 33 => ("LoafTableModel", "bestDeed", "[I", true)
  | 34 => ("LoafTableModel", "drawn", "I", false)
  | 35 => ("LoafTableModel", "ranSteps", "I", false)
  | 36 => ("LoafTableModel", "loops", "[I", true)
  | 37 => ("LoafTableModel", "ran", "[I", true)
  | 38 => ("LoafTableModel", "told1", "[I", true)
  | 39 => ("LoafTableModel", "isTold", "Z", false)
  | _ => ("LoafTableModel", "marks", "I", false)
def tyX12 : Nat → FieldType := fun k => match k with
  | 0 => .array .int
  | 1 => .array .long
  | 2 => .int
  | 3 => .long
  | 4 => .long
  | 5 => .array .int
  | 6 => .array .int
  | 7 => .array .long
  | 8 => .array .byte
  | 9 => .array .byte
  | 10 => .int
  | 11 => .int
  | 12 => .int
  | 13 => .int
  | 14 => .int
  | 15 => .int
  | 16 => .int
  | 17 => .int
  | 18 => .int
  | 19 => .int
  | 20 => .int
  | 21 => .array .int
  | 22 => .int
  | 23 => .int
  | 24 => .array .int
  | 25 => .array .int
  | 26 => .array .int
  | 27 => .array .int
  | 28 => .array .int
  | 29 => .array .boolean
  | 30 => .array .int
  | 31 => .array .long
  | 32 => .array .int
  | 33 => .array .int
  | 34 => .int
  | 35 => .int
  | 36 => .array .int
  | 37 => .array .int
  | 38 => .array .int
  | 39 => .boolean
  | _ => .int
abbrev wsX120 : List Cond := u_ws RX12 TX12 41
theorem nmX12 : ∀ a, a < 41 → ∀ b, b < 41 → a ≠ b → (TX12 a).2.1 ≠ (TX12 b).2.1 := by decide +kernel
theorem tyX12_ok : ∀ k, k < 41 → parseFieldDescriptor (TX12 k).2.2.1 = some (tyX12 k) := by decide +kernel
abbrev cX12_init : ByteArray := prog_14_method_1_code
def yX12_init : MethodName := ⟨RX12, "<init>", "()V"⟩
abbrev cX12_plain : ByteArray := prog_14_method_2_code
def yX12_plain : MethodName := ⟨RX12, "plain", "(I)V"⟩
abbrev cX12_status : ByteArray := prog_14_method_3_code
def yX12_status : MethodName := ⟨RX12, "status", "()I"⟩
abbrev cX12_top : ByteArray := prog_14_method_4_code
def yX12_top : MethodName := ⟨RX12, "top", "()J"⟩
abbrev cX12_bottom : ByteArray := prog_14_method_5_code
def yX12_bottom : MethodName := ⟨RX12, "bottom", "()J"⟩
abbrev cX12_is : ByteArray := prog_14_method_6_code
def yX12_is : MethodName := ⟨RX12, "is", "(I)Z"⟩
abbrev cX12_refuse : ByteArray := prog_14_method_7_code
def yX12_refuse : MethodName := ⟨RX12, "refuse", "(I)I"⟩
abbrev cX12_gives : ByteArray := prog_14_method_8_code
def yX12_gives : MethodName := ⟨RX12, "gives", "(I)I"⟩
abbrev cX12_orNone : ByteArray := prog_14_method_9_code
def yX12_orNone : MethodName := ⟨RX12, "orNone", "(I)I"⟩
abbrev cX12_tellsBy : ByteArray := prog_14_method_10_code
def yX12_tellsBy : MethodName := ⟨RX12, "tellsBy", "(JJ)Z"⟩
abbrev cX12_isTray : ByteArray := prog_14_method_11_code
def yX12_isTray : MethodName := ⟨RX12, "isTray", "(I)Z"⟩
abbrev cX12_shrunk : ByteArray := prog_14_method_12_code
def yX12_shrunk : MethodName := ⟨RX12, "shrunk", "(JI)J"⟩
abbrev cX12_tray : ByteArray := prog_14_method_13_code
def yX12_tray : MethodName := ⟨RX12, "tray", "(III)Z"⟩
abbrev cX12_wrongPlace : ByteArray := prog_14_method_14_code
def yX12_wrongPlace : MethodName := ⟨RX12, "wrongPlace", "(II)I"⟩
abbrev cX12_write : ByteArray := prog_14_method_15_code
def yX12_write : MethodName := ⟨RX12, "write", "(IIJ)Z"⟩
abbrev cX12_read : ByteArray := prog_14_method_16_code
def yX12_read : MethodName := ⟨RX12, "read", "(II)J"⟩
abbrev cX12_pour : ByteArray := prog_14_method_17_code
def yX12_pour : MethodName := ⟨RX12, "pour", "(IIIII)Z"⟩
abbrev cX12_isFrom : ByteArray := prog_14_method_18_code
def yX12_isFrom : MethodName := ⟨RX12, "isFrom", "(JJJ)Z"⟩
abbrev cX12_feed : ByteArray := prog_14_method_19_code
def yX12_feed : MethodName := ⟨RX12, "feed", "(IIIII)I"⟩
abbrev cX12_four : ByteArray := prog_14_method_20_code
def yX12_four : MethodName := ⟨RX12, "four", "(I)V"⟩
abbrev cX12_byteAt : ByteArray := prog_14_method_21_code
def yX12_byteAt : MethodName := ⟨RX12, "byteAt", "(I)I"⟩
abbrev cX12_isSmall : ByteArray := prog_14_method_22_code
def yX12_isSmall : MethodName := ⟨RX12, "isSmall", "(I)Z"⟩
abbrev cX12_isDigit : ByteArray := prog_14_method_23_code
def yX12_isDigit : MethodName := ⟨RX12, "isDigit", "(I)Z"⟩
abbrev cX12_ahead : ByteArray := prog_14_method_24_code
def yX12_ahead : MethodName := ⟨RX12, "ahead", "()V"⟩
abbrev cX12_isSign : ByteArray := prog_14_method_25_code
def yX12_isSign : MethodName := ⟨RX12, "isSign", "(I)Z"⟩
abbrev cX12_inWords : ByteArray := prog_14_method_26_code
def yX12_inWords : MethodName := ⟨RX12, "inWords", "(Ljava/lang/String;)I"⟩
abbrev cX12_fails : ByteArray := prog_14_method_27_code
def yX12_fails : MethodName := ⟨RX12, "fails", "(I)Z"⟩
abbrev cX12_begins : ByteArray := prog_14_method_28_code
def yX12_begins : MethodName := ⟨RX12, "begins", "(II)Z"⟩
abbrev cX12_wantSign : ByteArray := prog_14_method_29_code
def yX12_wantSign : MethodName := ⟨RX12, "wantSign", "(I)Z"⟩
abbrev cX12_wantWord : ByteArray := prog_14_method_30_code
def yX12_wantWord : MethodName := ⟨RX12, "wantWord", "(Ljava/lang/String;I)Z"⟩
abbrev cX12_number : ByteArray := prog_14_method_31_code
def yX12_number : MethodName := ⟨RX12, "number", "(III)Z"⟩
abbrev cX12_isName : ByteArray := prog_14_method_32_code
def yX12_isName : MethodName := ⟨RX12, "isName", "(Ljava/lang/String;)Z"⟩
abbrev cX12_nameHere : ByteArray := prog_14_method_33_code
def yX12_nameHere : MethodName := ⟨RX12, "nameHere", "()J"⟩
abbrev cX12_findHere : ByteArray := prog_14_method_34_code
def yX12_findHere : MethodName := ⟨RX12, "findHere", "(II)I"⟩
abbrev cX12_fault : ByteArray := prog_14_method_35_code
def yX12_fault : MethodName := ⟨RX12, "fault", "(I)I"⟩
abbrev cX12_taken : ByteArray := prog_14_method_36_code
def yX12_taken : MethodName := ⟨RX12, "taken", "(I)I"⟩
abbrev cX12_guestRow : ByteArray := prog_14_method_37_code
def yX12_guestRow : MethodName := ⟨RX12, "guestRow", "(I)I"⟩
abbrev cX12_isIn : ByteArray := prog_14_method_38_code
def yX12_isIn : MethodName := ⟨RX12, "isIn", "(II)Z"⟩
abbrev cX12_isThere : ByteArray := prog_14_method_39_code
def yX12_isThere : MethodName := ⟨RX12, "isThere", "(I)Z"⟩
abbrev cX12_leastOf : ByteArray := prog_14_method_40_code
def yX12_leastOf : MethodName := ⟨RX12, "leastOf", "(I)I"⟩
abbrev cX12_mostOf : ByteArray := prog_14_method_41_code
def yX12_mostOf : MethodName := ⟨RX12, "mostOf", "(I)I"⟩
abbrev cX12_aGuest : ByteArray := prog_14_method_42_code
def yX12_aGuest : MethodName := ⟨RX12, "aGuest", "()Z"⟩
abbrev cX12_guestTo : ByteArray := prog_14_method_43_code
def yX12_guestTo : MethodName := ⟨RX12, "guestTo", "(II)Z"⟩
abbrev cX12_aButter : ByteArray := prog_14_method_44_code
def yX12_aButter : MethodName := ⟨RX12, "aButter", "()Z"⟩
abbrev cX12_otherTo : ByteArray := prog_14_method_45_code
def yX12_otherTo : MethodName := ⟨RX12, "otherTo", "(II)Z"⟩
abbrev cX12_tablePart : ByteArray := prog_14_method_46_code
def yX12_tablePart : MethodName := ⟨RX12, "tablePart", "()Z"⟩
abbrev cX12_table : ByteArray := prog_14_method_47_code
def yX12_table : MethodName := ⟨RX12, "table", "(I)I"⟩
abbrev cX12_test : ByteArray := prog_14_method_48_code
def yX12_test : MethodName := ⟨RX12, "test", "(I)Z"⟩
abbrev cX12_weekOrder : ByteArray := prog_14_method_49_code
def yX12_weekOrder : MethodName := ⟨RX12, "weekOrder", "(II)Z"⟩
abbrev cX12_weekStep : ByteArray := prog_14_method_50_code
def yX12_weekStep : MethodName := ⟨RX12, "weekStep", "()Z"⟩
abbrev cX12_weeks : ByteArray := prog_14_method_51_code
def yX12_weeks : MethodName := ⟨RX12, "weeks", "(I)I"⟩
abbrev cX12_isGuest : ByteArray := prog_14_method_52_code
def yX12_isGuest : MethodName := ⟨RX12, "isGuest", "(I)Z"⟩
abbrev cX12_areTwo : ByteArray := prog_14_method_53_code
def yX12_areTwo : MethodName := ⟨RX12, "areTwo", "(II)Z"⟩
abbrev cX12_bits : ByteArray := prog_14_method_54_code
def yX12_bits : MethodName := ⟨RX12, "bits", "(I)I"⟩
abbrev cX12_guestOf : ByteArray := prog_14_method_55_code
def yX12_guestOf : MethodName := ⟨RX12, "guestOf", "(II)I"⟩
abbrev cX12_isHere : ByteArray := prog_14_method_56_code
def yX12_isHere : MethodName := ⟨RX12, "isHere", "(I)Z"⟩
abbrev cX12_areHere : ByteArray := prog_14_method_57_code
def yX12_areHere : MethodName := ⟨RX12, "areHere", "()I"⟩
abbrev cX12_areHungry : ByteArray := prog_14_method_58_code
def yX12_areHungry : MethodName := ⟨RX12, "areHungry", "()I"⟩
abbrev cX12_areStarved : ByteArray := prog_14_method_59_code
def yX12_areStarved : MethodName := ⟨RX12, "areStarved", "()I"⟩
abbrev cX12_passTo : ByteArray := prog_14_method_60_code
def yX12_passTo : MethodName := ⟨RX12, "passTo", "(I)I"⟩
abbrev cX12_told : ByteArray := prog_14_method_61_code
def yX12_told : MethodName := ⟨RX12, "told", "(I)I"⟩
abbrev cX12_guest : ByteArray := prog_14_method_62_code
def yX12_guest : MethodName := ⟨RX12, "guest", "(II)I"⟩
abbrev cX12_firstCutter : ByteArray := prog_14_method_63_code
def yX12_firstCutter : MethodName := ⟨RX12, "firstCutter", "()I"⟩
abbrev cX12_cutter : ByteArray := prog_14_method_64_code
def yX12_cutter : MethodName := ⟨RX12, "cutter", "()I"⟩
abbrev cX12_wanted : ByteArray := prog_14_method_65_code
def yX12_wanted : MethodName := ⟨RX12, "wanted", "()I"⟩
abbrev cX12_cuts1 : ByteArray := prog_14_method_66_code
def yX12_cuts1 : MethodName := ⟨RX12, "cuts1", "(I)I"⟩
abbrev cX12_canCut : ByteArray := prog_14_method_67_code
def yX12_canCut : MethodName := ⟨RX12, "canCut", "(I)Z"⟩
abbrev cX12_eats : ByteArray := prog_14_method_68_code
def yX12_eats : MethodName := ⟨RX12, "eats", "()V"⟩
abbrev cX12_dayGoes : ByteArray := prog_14_method_69_code
def yX12_dayGoes : MethodName := ⟨RX12, "dayGoes", "()I"⟩
abbrev cX12_daysGo : ByteArray := prog_14_method_70_code
def yX12_daysGo : MethodName := ⟨RX12, "daysGo", "(I)V"⟩
abbrev cX12_day : ByteArray := prog_14_method_71_code
def yX12_day : MethodName := ⟨RX12, "day", "(I)I"⟩
abbrev cX12_cut : ByteArray := prog_14_method_72_code
def yX12_cut : MethodName := ⟨RX12, "cut", "(I)I"⟩
abbrev cX12_passes : ByteArray := prog_14_method_73_code
def yX12_passes : MethodName := ⟨RX12, "passes", "(II)Z"⟩
abbrev cX12_butter : ByteArray := prog_14_method_74_code
def yX12_butter : MethodName := ⟨RX12, "butter", "(II)I"⟩
abbrev cX12_fedBy : ByteArray := prog_14_method_75_code
def yX12_fedBy : MethodName := ⟨RX12, "fedBy", "(I)Z"⟩
abbrev cX12_soup : ByteArray := prog_14_method_76_code
def yX12_soup : MethodName := ⟨RX12, "soup", "(I)I"⟩
abbrev cX12_bake : ByteArray := prog_14_method_77_code
def yX12_bake : MethodName := ⟨RX12, "bake", "(I)I"⟩
abbrev cX12_sway : ByteArray := prog_14_method_78_code
def yX12_sway : MethodName := ⟨RX12, "sway", "(II)I"⟩
abbrev cX12_sit : ByteArray := prog_14_method_79_code
def yX12_sit : MethodName := ⟨RX12, "sit", "(IIII)I"⟩
abbrev cX12_come : ByteArray := prog_14_method_80_code
def yX12_come : MethodName := ⟨RX12, "come", "(I)I"⟩
abbrev cX12_rule : ByteArray := prog_14_method_81_code
def yX12_rule : MethodName := ⟨RX12, "rule", "(II)Z"⟩
abbrev cX12_levelAt : ByteArray := prog_14_method_82_code
def yX12_levelAt : MethodName := ⟨RX12, "levelAt", "(I)I"⟩
abbrev cX12_keeps : ByteArray := prog_14_method_83_code
def yX12_keeps : MethodName := ⟨RX12, "keeps", "(I)V"⟩
abbrev cX12_brings : ByteArray := prog_14_method_84_code
def yX12_brings : MethodName := ⟨RX12, "brings", "(I)V"⟩
abbrev cX12_thereIn : ByteArray := prog_14_method_85_code
def yX12_thereIn : MethodName := ⟨RX12, "thereIn", "(I)I"⟩
abbrev cX12_slicesIn : ByteArray := prog_14_method_86_code
def yX12_slicesIn : MethodName := ⟨RX12, "slicesIn", "(I)I"⟩
abbrev cX12_guestIn : ByteArray := prog_14_method_87_code
def yX12_guestIn : MethodName := ⟨RX12, "guestIn", "(III)I"⟩
abbrev cX12_nextCut : ByteArray := prog_14_method_88_code
def yX12_nextCut : MethodName := ⟨RX12, "nextCut", "()I"⟩
abbrev cX12_next : ByteArray := prog_14_method_89_code
def yX12_next : MethodName := ⟨RX12, "next", "()I"⟩
abbrev cX12_nextBy : ByteArray := prog_14_method_90_code
def yX12_nextBy : MethodName := ⟨RX12, "nextBy", "()I"⟩
abbrev cX12_hangs : ByteArray := prog_14_method_91_code
def yX12_hangs : MethodName := ⟨RX12, "hangs", "()I"⟩
abbrev cX12_starving : ByteArray := prog_14_method_92_code
def yX12_starving : MethodName := ⟨RX12, "starving", "()I"⟩
abbrev cX12_least : ByteArray := prog_14_method_93_code
def yX12_least : MethodName := ⟨RX12, "least", "(I)I"⟩
abbrev cX12_laysPlan : ByteArray := prog_14_method_94_code
def yX12_laysPlan : MethodName := ⟨RX12, "laysPlan", "(I)I"⟩
abbrev cX12_plan : ByteArray := prog_14_method_95_code
def yX12_plan : MethodName := ⟨RX12, "plan", "(I)I"⟩
abbrev cX12_planAt : ByteArray := prog_14_method_96_code
def yX12_planAt : MethodName := ⟨RX12, "planAt", "(II)I"⟩
abbrev cX12_wrongSeen : ByteArray := prog_14_method_97_code
def yX12_wrongSeen : MethodName := ⟨RX12, "wrongSeen", "(II)I"⟩
abbrev cX12_laysHere : ByteArray := prog_14_method_98_code
def yX12_laysHere : MethodName := ⟨RX12, "laysHere", "(II)V"⟩
abbrev cX12_laysSeen : ByteArray := prog_14_method_99_code
def yX12_laysSeen : MethodName := ⟨RX12, "laysSeen", "(III)I"⟩
abbrev cX12_wrongCall : ByteArray := prog_14_method_100_code
def yX12_wrongCall : MethodName := ⟨RX12, "wrongCall", "(III)I"⟩
abbrev cX12_seen : ByteArray := prog_14_method_101_code
def yX12_seen : MethodName := ⟨RX12, "seen", "(III)I"⟩
abbrev cX12_seenAs : ByteArray := prog_14_method_102_code
def yX12_seenAs : MethodName := ⟨RX12, "seenAs", "(IIII)I"⟩
abbrev cX12_mostAlike : ByteArray := prog_14_method_103_code
def yX12_mostAlike : MethodName := ⟨RX12, "mostAlike", "(I)I"⟩
abbrev cX12_ask : ByteArray := prog_14_method_104_code
def yX12_ask : MethodName := ⟨RX12, "ask", "(III)I"⟩
abbrev cX12_waits : ByteArray := prog_14_method_105_code
def yX12_waits : MethodName := ⟨RX12, "waits", "(II)Z"⟩
abbrev cX12_chance : ByteArray := prog_14_method_106_code
def yX12_chance : MethodName := ⟨RX12, "chance", "(II)Z"⟩
abbrev cX12_stale : ByteArray := prog_14_method_107_code
def yX12_stale : MethodName := ⟨RX12, "stale", "(I)Z"⟩
abbrev cX12_share : ByteArray := prog_14_method_108_code
def yX12_share : MethodName := ⟨RX12, "share", "(I)Z"⟩
abbrev cX12_settles : ByteArray := prog_14_method_109_code
def yX12_settles : MethodName := ⟨RX12, "settles", "(II)V"⟩
abbrev cX12_beginsAt : ByteArray := prog_14_method_110_code
def yX12_beginsAt : MethodName := ⟨RX12, "beginsAt", "(I)V"⟩
abbrev cX12_comesTo : ByteArray := prog_14_method_111_code
def yX12_comesTo : MethodName := ⟨RX12, "comesTo", "(II)I"⟩
abbrev cX12_playing : ByteArray := prog_14_method_112_code
def yX12_playing : MethodName := ⟨RX12, "playing", "(III)I"⟩
abbrev cX12_game : ByteArray := prog_14_method_113_code
def yX12_game : MethodName := ⟨RX12, "game", "(III)I"⟩
abbrev cX12_moveOf : ByteArray := prog_14_method_114_code
def yX12_moveOf : MethodName := ⟨RX12, "moveOf", "(III)I"⟩
abbrev cX12_copyWishes : ByteArray := prog_14_method_115_code
def yX12_copyWishes : MethodName := ⟨RX12, "copyWishes", "(I)I"⟩
abbrev cX12_draw : ByteArray := prog_14_method_116_code
def yX12_draw : MethodName := ⟨RX12, "draw", "(I)I"⟩
abbrev cX12_daysBy : ByteArray := prog_14_method_117_code
def yX12_daysBy : MethodName := ⟨RX12, "daysBy", "(I)Z"⟩
abbrev cX12_cutsBy : ByteArray := prog_14_method_118_code
def yX12_cutsBy : MethodName := ⟨RX12, "cutsBy", "(I)Z"⟩
abbrev cX12_bakes : ByteArray := prog_14_method_119_code
def yX12_bakes : MethodName := ⟨RX12, "bakes", "(I)Z"⟩
abbrev cX12_doesAny : ByteArray := prog_14_method_120_code
def yX12_doesAny : MethodName := ⟨RX12, "doesAny", "()Z"⟩
abbrev cX12_does : ByteArray := prog_14_method_121_code
def yX12_does : MethodName := ⟨RX12, "does", "(I)Z"⟩
abbrev cX12_holds : ByteArray := prog_14_method_122_code
def yX12_holds : MethodName := ⟨RX12, "holds", "(I)Z"⟩
abbrev cX12_behindEnds : ByteArray := prog_14_method_123_code
def yX12_behindEnds : MethodName := ⟨RX12, "behindEnds", "(I)I"⟩
abbrev cX12_lives : ByteArray := prog_14_method_124_code
def yX12_lives : MethodName := ⟨RX12, "lives", "(I)V"⟩
abbrev cX12_live : ByteArray := prog_14_method_125_code
def yX12_live : MethodName := ⟨RX12, "live", "(I)I"⟩
abbrev cX12_lived : ByteArray := prog_14_method_126_code
def yX12_lived : MethodName := ⟨RX12, "lived", "(I)I"⟩
abbrev cX12_mean : ByteArray := prog_14_method_127_code
def yX12_mean : MethodName := ⟨RX12, "mean", "(II)Z"⟩
abbrev cX12_copies : ByteArray := prog_14_method_128_code
def yX12_copies : MethodName := ⟨RX12, "copies", "(II)V"⟩
abbrev cX12_mark : ByteArray := prog_14_method_129_code
def yX12_mark : MethodName := ⟨RX12, "mark", "()I"⟩
abbrev cX12_undo : ByteArray := prog_14_method_130_code
def yX12_undo : MethodName := ⟨RX12, "undo", "()I"⟩
def RJ6 : String := "java/lang/Integer"
def TJ6 : u_T := fun k => match k with
  | _ => ("", "", "", false)
def tyJ6 : Nat → FieldType := fun k => match k with
  | _ => .int
abbrev cJ6_bitCount_0f7a4 : ByteArray := prog_15_method_49_code
def yJ6_bitCount_0f7a4 : MethodName := ⟨RJ6, "bitCount", "(I)I"⟩
def RJ9 : String := "java/lang/Math"
def TJ9 : u_T := fun k => match k with
  | _ => ("", "", "", false)
def tyJ9 : Nat → FieldType := fun k => match k with
  | _ => .int
abbrev cJ9_max_7cf53 : ByteArray := prog_16_method_65_code
def yJ9_max_7cf53 : MethodName := ⟨RJ9, "max", "(II)I"⟩
abbrev cJ9_min_7cf53 : ByteArray := prog_16_method_69_code
def yJ9_min_7cf53 : MethodName := ⟨RJ9, "min", "(II)I"⟩
def RJ0 : String := "java/lang/String"
def TJ0 : u_T := fun k => match k with
  | _ => ("", "", "", false)
def tyJ0 : Nat → FieldType := fun k => match k with
  | _ => .int
abbrev cJ0_length_8abf5 : ByteArray := prog_17_method_54_code
def yJ0_length_8abf5 : MethodName := ⟨RJ0, "length", "()I"⟩
abbrev cJ0_charAt_5068e : ByteArray := prog_17_method_56_code
def yJ0_charAt_5068e : MethodName := ⟨RJ0, "charAt", "(I)C"⟩
abbrev cJ0_coder_7d493 : ByteArray := prog_17_method_152_code
def yJ0_coder_7d493 : MethodName := ⟨RJ0, "coder", "()B"⟩
abbrev cJ0_isLatin1_aae02 : ByteArray := prog_17_method_154_code
def yJ0_isLatin1_aae02 : MethodName := ⟨RJ0, "isLatin1", "()Z"⟩
abbrev cJ0_checkIndex_df160 : ByteArray := prog_17_method_155_code
def yJ0_checkIndex_df160 : MethodName := ⟨RJ0, "checkIndex", "(II)V"⟩
def RJ1 : String := "java/lang/StringLatin1"
def TJ1 : u_T := fun k => match k with
  | _ => ("", "", "", false)
def tyJ1 : Nat → FieldType := fun k => match k with
  | _ => .int
abbrev cJ1_charAt_3b067 : ByteArray := prog_18_method_2_code
def yJ1_charAt_3b067 : MethodName := ⟨RJ1, "charAt", "([BI)C"⟩
def RJ2 : String := "java/lang/StringUTF16"
def TJ2 : u_T := fun k => match k with
  | _ => ("", "", "", false)
def tyJ2 : Nat → FieldType := fun k => match k with
  | _ => .int
abbrev cJ2_getChar_3b067 : ByteArray := prog_19_method_5_code
def yJ2_getChar_3b067 : MethodName := ⟨RJ2, "getChar", "([BI)C"⟩
abbrev cJ2_length_9d52b : ByteArray := prog_19_method_6_code
def yJ2_length_9d52b : MethodName := ⟨RJ2, "length", "([B)I"⟩
abbrev cJ2_charAt_3b067 : ByteArray := prog_19_method_83_code
def yJ2_charAt_3b067 : MethodName := ⟨RJ2, "charAt", "([BI)C"⟩
abbrev cJ2_checkIndex_2214a : ByteArray := prog_19_method_91_code
def yJ2_checkIndex_2214a : MethodName := ⟨RJ2, "checkIndex", "(I[B)V"⟩
def RJ10 : String := "java/lang/System"
def TJ10 : u_T := fun k => match k with
  | _ => ("", "", "", false)
def tyJ10 : Nat → FieldType := fun k => match k with
  | _ => .int
def RJ3 : String := "jdk/internal/util/Preconditions"
def TJ3 : u_T := fun k => match k with
  | _ => ("", "", "", false)
def tyJ3 : Nat → FieldType := fun k => match k with
  | _ => .int
abbrev cJ3_checkIndex_8e157 : ByteArray := prog_21_method_11_code
def yJ3_checkIndex_8e157 : MethodName := ⟨RJ3, "checkIndex", "(IILjava/util/function/BiFunction;)I"⟩
def RL : String := "LoafTableLaw"
abbrev cL_law : ByteArray := code
def yL_law : MethodName := ⟨RL, "law", "([I)Z"⟩
abbrev vwCl : List vw_C := [(RX0, TX0, 4), (RX1, TX1, 7), (RX2, TX2, 8), (RX3, TX3, 5), (RX4, TX4, 7), (RX5, TX5, 17), (RX6, TX6, 3), (RX7, TX7, 11), (RX8, TX8, 4), (RX9, TX9, 9), (RX10, TX10, 5), (RX11, TX11, 19), (RX12, TX12, 41)]
