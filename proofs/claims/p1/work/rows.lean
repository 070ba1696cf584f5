section
-- ===== PART A: goes FIRST, ahead of the names: the tables' words, and 'selects' of the private methods out of them =====
/-- a private method of a class that the tables say can be made, by its rows of tables_1 -/
def lw_okq (q : MethodName × Nat) : Prop := (q.1.cls ≠ "java/lang/invoke/MethodHandle" ∧ q.1.cls ≠ "java/lang/invoke/VarHandle") ∧ Cond.instantiable q.1.cls q.2 ∈ tables_1 ∧ Cond.privateMethod q.1 ∈ tables_1 ∧ Cond.instanceMethod q.1 ∈ tables_1
theorem lw_p0 : lw_okq (⟨"LostBets", "refused", "(I)I"⟩, 10) := ⟨⟨by decide +kernel, by decide +kernel⟩, List.mem_of_getElem? (i := 19) (by decide +kernel), List.mem_of_getElem? (i := 263) (by decide +kernel), List.mem_of_getElem? (i := 264) (by decide +kernel)⟩
theorem lw_p1 : lw_okq (⟨"LostBets", "tellInMind", "(I)Z"⟩, 10) := ⟨⟨by decide +kernel, by decide +kernel⟩, List.mem_of_getElem? (i := 19) (by decide +kernel), List.mem_of_getElem? (i := 315) (by decide +kernel), List.mem_of_getElem? (i := 316) (by decide +kernel)⟩
theorem lw_p2 : lw_okq (⟨"LostBets$Town", "trust", "(III)I"⟩, 16) := ⟨⟨by decide +kernel, by decide +kernel⟩, List.mem_of_getElem? (i := 71) (by decide +kernel), List.mem_of_getElem? (i := 455) (by decide +kernel), List.mem_of_getElem? (i := 456) (by decide +kernel)⟩
theorem lw_p3 : lw_okq (⟨"LostBets$Town", "comeOut", "()V"⟩, 16) := ⟨⟨by decide +kernel, by decide +kernel⟩, List.mem_of_getElem? (i := 71) (by decide +kernel), List.mem_of_getElem? (i := 475) (by decide +kernel), List.mem_of_getElem? (i := 476) (by decide +kernel)⟩
theorem lw_p4 : lw_okq (⟨"LostBets$Town", "marry", "(II)V"⟩, 16) := ⟨⟨by decide +kernel, by decide +kernel⟩, List.mem_of_getElem? (i := 71) (by decide +kernel), List.mem_of_getElem? (i := 487) (by decide +kernel), List.mem_of_getElem? (i := 488) (by decide +kernel)⟩
theorem lw_p5 : lw_okq (⟨"LostBets$Town", "withMore", "(I)I"⟩, 16) := ⟨⟨by decide +kernel, by decide +kernel⟩, List.mem_of_getElem? (i := 71) (by decide +kernel), List.mem_of_getElem? (i := 491) (by decide +kernel), List.mem_of_getElem? (i := 492) (by decide +kernel)⟩
theorem lw_p6 : lw_okq (⟨"LostBets$Town", "learn", "()V"⟩, 16) := ⟨⟨by decide +kernel, by decide +kernel⟩, List.mem_of_getElem? (i := 71) (by decide +kernel), List.mem_of_getElem? (i := 502) (by decide +kernel), List.mem_of_getElem? (i := 503) (by decide +kernel)⟩
theorem lw_p7 : lw_okq (⟨"LostBets$Town", "isWedIn", "(II)Z"⟩, 16) := ⟨⟨by decide +kernel, by decide +kernel⟩, List.mem_of_getElem? (i := 71) (by decide +kernel), List.mem_of_getElem? (i := 552) (by decide +kernel), List.mem_of_getElem? (i := 553) (by decide +kernel)⟩
theorem lw_p8 : lw_okq (⟨"LostBets", "refusalOfBeliefIn", "(III)I"⟩, 10) := ⟨⟨by decide +kernel, by decide +kernel⟩, List.mem_of_getElem? (i := 19) (by decide +kernel), List.mem_of_getElem? (i := 623) (by decide +kernel), List.mem_of_getElem? (i := 624) (by decide +kernel)⟩
theorem lw_p9 : lw_okq (⟨"LostBets", "firstToWed", "()I"⟩, 10) := ⟨⟨by decide +kernel, by decide +kernel⟩, List.mem_of_getElem? (i := 19) (by decide +kernel), List.mem_of_getElem? (i := 644) (by decide +kernel), List.mem_of_getElem? (i := 645) (by decide +kernel)⟩
theorem lw_p10 : lw_okq (⟨"LostBets$Twos", "mostIn", "(I)I"⟩, 3) := ⟨⟨by decide +kernel, by decide +kernel⟩, List.mem_of_getElem? (i := 212) (by decide +kernel), List.mem_of_getElem? (i := 689) (by decide +kernel), List.mem_of_getElem? (i := 690) (by decide +kernel)⟩
theorem lw_p11 : lw_okq (⟨"LostBets$Twos", "firstPartner", "(II)I"⟩, 3) := ⟨⟨by decide +kernel, by decide +kernel⟩, List.mem_of_getElem? (i := 212) (by decide +kernel), List.mem_of_getElem? (i := 702) (by decide +kernel), List.mem_of_getElem? (i := 703) (by decide +kernel)⟩
theorem lw_p12 : lw_okq (⟨"LostBets", "callOffInMind", "(I)V"⟩, 10) := ⟨⟨by decide +kernel, by decide +kernel⟩, List.mem_of_getElem? (i := 19) (by decide +kernel), List.mem_of_getElem? (i := 733) (by decide +kernel), List.mem_of_getElem? (i := 734) (by decide +kernel)⟩
theorem lw_p13 : lw_okq (⟨"LostBets", "gainOfTwo", "(IIIII)I"⟩, 10) := ⟨⟨by decide +kernel, by decide +kernel⟩, List.mem_of_getElem? (i := 19) (by decide +kernel), List.mem_of_getElem? (i := 743) (by decide +kernel), List.mem_of_getElem? (i := 744) (by decide +kernel)⟩
theorem lw_p14 : lw_okq (⟨"LostBets", "isRowSoInMind", "(I)Z"⟩, 10) := ⟨⟨by decide +kernel, by decide +kernel⟩, List.mem_of_getElem? (i := 19) (by decide +kernel), List.mem_of_getElem? (i := 765) (by decide +kernel), List.mem_of_getElem? (i := 766) (by decide +kernel)⟩
theorem lw_p15 : lw_okq (⟨"LostBets", "refusedLong", "(I)J"⟩, 10) := ⟨⟨by decide +kernel, by decide +kernel⟩, List.mem_of_getElem? (i := 19) (by decide +kernel), List.mem_of_getElem? (i := 778) (by decide +kernel), List.mem_of_getElem? (i := 779) (by decide +kernel)⟩
def lw_privs_1 : List (MethodName × Nat) := [(⟨"LostBets", "refused", "(I)I"⟩, 10), (⟨"LostBets", "tellInMind", "(I)Z"⟩, 10), (⟨"LostBets$Town", "trust", "(III)I"⟩, 16), (⟨"LostBets$Town", "comeOut", "()V"⟩, 16), (⟨"LostBets$Town", "marry", "(II)V"⟩, 16), (⟨"LostBets$Town", "withMore", "(I)I"⟩, 16), (⟨"LostBets$Town", "learn", "()V"⟩, 16), (⟨"LostBets$Town", "isWedIn", "(II)Z"⟩, 16), (⟨"LostBets", "refusalOfBeliefIn", "(III)I"⟩, 10), (⟨"LostBets", "firstToWed", "()I"⟩, 10), (⟨"LostBets$Twos", "mostIn", "(I)I"⟩, 3), (⟨"LostBets$Twos", "firstPartner", "(II)I"⟩, 3), (⟨"LostBets", "callOffInMind", "(I)V"⟩, 10), (⟨"LostBets", "gainOfTwo", "(IIIII)I"⟩, 10), (⟨"LostBets", "isRowSoInMind", "(I)Z"⟩, 10), (⟨"LostBets", "refusedLong", "(I)J"⟩, 10)]
theorem lw_r1 : ∀ q ∈ lw_privs_1, lw_okq q := List.forall_mem_cons.mpr ⟨lw_p0, List.forall_mem_cons.mpr ⟨lw_p1, List.forall_mem_cons.mpr ⟨lw_p2, List.forall_mem_cons.mpr ⟨lw_p3, List.forall_mem_cons.mpr ⟨lw_p4, List.forall_mem_cons.mpr ⟨lw_p5, List.forall_mem_cons.mpr ⟨lw_p6, List.forall_mem_cons.mpr ⟨lw_p7, List.forall_mem_cons.mpr ⟨lw_p8, List.forall_mem_cons.mpr ⟨lw_p9, List.forall_mem_cons.mpr ⟨lw_p10, List.forall_mem_cons.mpr ⟨lw_p11, List.forall_mem_cons.mpr ⟨lw_p12, List.forall_mem_cons.mpr ⟨lw_p13, List.forall_mem_cons.mpr ⟨lw_p14, List.forall_mem_cons.mpr ⟨lw_p15, fun _ h => absurd h List.not_mem_nil⟩⟩⟩⟩⟩⟩⟩⟩⟩⟩⟩⟩⟩⟩⟩⟩
theorem lw_p16 : lw_okq (⟨"LostBets", "whoHasMostTears", "()I"⟩, 10) := ⟨⟨by decide +kernel, by decide +kernel⟩, List.mem_of_getElem? (i := 19) (by decide +kernel), List.mem_of_getElem? (i := 803) (by decide +kernel), List.mem_of_getElem? (i := 804) (by decide +kernel)⟩
theorem lw_p17 : lw_okq (⟨"LostBets", "twosWhoWishEachOther", "(Z)I"⟩, 10) := ⟨⟨by decide +kernel, by decide +kernel⟩, List.mem_of_getElem? (i := 19) (by decide +kernel), List.mem_of_getElem? (i := 807) (by decide +kernel), List.mem_of_getElem? (i := 808) (by decide +kernel)⟩
theorem lw_p18 : lw_okq (⟨"LostBets", "daysOfLastWager", "()I"⟩, 10) := ⟨⟨by decide +kernel, by decide +kernel⟩, List.mem_of_getElem? (i := 19) (by decide +kernel), List.mem_of_getElem? (i := 827) (by decide +kernel), List.mem_of_getElem? (i := 828) (by decide +kernel)⟩
theorem lw_p19 : lw_okq (⟨"LostBets", "longestChasteRun", "()I"⟩, 10) := ⟨⟨by decide +kernel, by decide +kernel⟩, List.mem_of_getElem? (i := 19) (by decide +kernel), List.mem_of_getElem? (i := 832) (by decide +kernel), List.mem_of_getElem? (i := 833) (by decide +kernel)⟩
theorem lw_p20 : lw_okq (⟨"LostBets", "eventsToday", "()I"⟩, 10) := ⟨⟨by decide +kernel, by decide +kernel⟩, List.mem_of_getElem? (i := 19) (by decide +kernel), List.mem_of_getElem? (i := 836) (by decide +kernel), List.mem_of_getElem? (i := 837) (by decide +kernel)⟩
theorem lw_p21 : lw_okq (⟨"LostBets", "rivals", "()I"⟩, 10) := ⟨⟨by decide +kernel, by decide +kernel⟩, List.mem_of_getElem? (i := 19) (by decide +kernel), List.mem_of_getElem? (i := 840) (by decide +kernel), List.mem_of_getElem? (i := 841) (by decide +kernel)⟩
theorem lw_p22 : lw_okq (⟨"LostBetsModel", "refuse", "(I)I"⟩, 41) := ⟨⟨by decide +kernel, by decide +kernel⟩, List.mem_of_getElem? (i := 844) (by decide +kernel), List.mem_of_getElem? (i := 978) (by decide +kernel), List.mem_of_getElem? (i := 979) (by decide +kernel)⟩
theorem lw_p23 : lw_okq (⟨"LostBetsModel", "readStatement", "()V"⟩, 41) := ⟨⟨by decide +kernel, by decide +kernel⟩, List.mem_of_getElem? (i := 844) (by decide +kernel), List.mem_of_getElem? (i := 986) (by decide +kernel), List.mem_of_getElem? (i := 987) (by decide +kernel)⟩
theorem lw_p24 : lw_okq (⟨"LostBetsModel", "here", "()I"⟩, 41) := ⟨⟨by decide +kernel, by decide +kernel⟩, List.mem_of_getElem? (i := 844) (by decide +kernel), List.mem_of_getElem? (i := 990) (by decide +kernel), List.mem_of_getElem? (i := 991) (by decide +kernel)⟩
theorem lw_p25 : lw_okq (⟨"LostBetsModel", "readDigit", "()I"⟩, 41) := ⟨⟨by decide +kernel, by decide +kernel⟩, List.mem_of_getElem? (i := 844) (by decide +kernel), List.mem_of_getElem? (i := 997) (by decide +kernel), List.mem_of_getElem? (i := 998) (by decide +kernel)⟩
theorem lw_p26 : lw_okq (⟨"LostBetsModel", "think", "()V"⟩, 41) := ⟨⟨by decide +kernel, by decide +kernel⟩, List.mem_of_getElem? (i := 844) (by decide +kernel), List.mem_of_getElem? (i := 1006) (by decide +kernel), List.mem_of_getElem? (i := 1007) (by decide +kernel)⟩
theorem lw_p27 : lw_okq (⟨"LostBetsModel", "carryAll", "([IZ)V"⟩, 41) := ⟨⟨by decide +kernel, by decide +kernel⟩, List.mem_of_getElem? (i := 844) (by decide +kernel), List.mem_of_getElem? (i := 1010) (by decide +kernel), List.mem_of_getElem? (i := 1011) (by decide +kernel)⟩
theorem lw_p28 : lw_okq (⟨"LostBetsModel", "carry", "(I)I"⟩, 41) := ⟨⟨by decide +kernel, by decide +kernel⟩, List.mem_of_getElem? (i := 844) (by decide +kernel), List.mem_of_getElem? (i := 1014) (by decide +kernel), List.mem_of_getElem? (i := 1015) (by decide +kernel)⟩
theorem lw_p29 : lw_okq (⟨"LostBetsModel", "comesTold", "(I)Z"⟩, 41) := ⟨⟨by decide +kernel, by decide +kernel⟩, List.mem_of_getElem? (i := 844) (by decide +kernel), List.mem_of_getElem? (i := 1018) (by decide +kernel), List.mem_of_getElem? (i := 1019) (by decide +kernel)⟩
theorem lw_p30 : lw_okq (⟨"LostBetsModel", "personComes", "(II)Z"⟩, 41) := ⟨⟨by decide +kernel, by decide +kernel⟩, List.mem_of_getElem? (i := 844) (by decide +kernel), List.mem_of_getElem? (i := 1022) (by decide +kernel), List.mem_of_getElem? (i := 1023) (by decide +kernel)⟩
theorem lw_p31 : lw_okq (⟨"LostBetsModel", "isOne", "(I)Z"⟩, 41) := ⟨⟨by decide +kernel, by decide +kernel⟩, List.mem_of_getElem? (i := 844) (by decide +kernel), List.mem_of_getElem? (i := 1026) (by decide +kernel), List.mem_of_getElem? (i := 1027) (by decide +kernel)⟩
def lw_privs_2 : List (MethodName × Nat) := [(⟨"LostBets", "whoHasMostTears", "()I"⟩, 10), (⟨"LostBets", "twosWhoWishEachOther", "(Z)I"⟩, 10), (⟨"LostBets", "daysOfLastWager", "()I"⟩, 10), (⟨"LostBets", "longestChasteRun", "()I"⟩, 10), (⟨"LostBets", "eventsToday", "()I"⟩, 10), (⟨"LostBets", "rivals", "()I"⟩, 10), (⟨"LostBetsModel", "refuse", "(I)I"⟩, 41), (⟨"LostBetsModel", "readStatement", "()V"⟩, 41), (⟨"LostBetsModel", "here", "()I"⟩, 41), (⟨"LostBetsModel", "readDigit", "()I"⟩, 41), (⟨"LostBetsModel", "think", "()V"⟩, 41), (⟨"LostBetsModel", "carryAll", "([IZ)V"⟩, 41), (⟨"LostBetsModel", "carry", "(I)I"⟩, 41), (⟨"LostBetsModel", "comesTold", "(I)Z"⟩, 41), (⟨"LostBetsModel", "personComes", "(II)Z"⟩, 41), (⟨"LostBetsModel", "isOne", "(I)Z"⟩, 41)]
theorem lw_r2 : ∀ q ∈ lw_privs_2, lw_okq q := List.forall_mem_cons.mpr ⟨lw_p16, List.forall_mem_cons.mpr ⟨lw_p17, List.forall_mem_cons.mpr ⟨lw_p18, List.forall_mem_cons.mpr ⟨lw_p19, List.forall_mem_cons.mpr ⟨lw_p20, List.forall_mem_cons.mpr ⟨lw_p21, List.forall_mem_cons.mpr ⟨lw_p22, List.forall_mem_cons.mpr ⟨lw_p23, List.forall_mem_cons.mpr ⟨lw_p24, List.forall_mem_cons.mpr ⟨lw_p25, List.forall_mem_cons.mpr ⟨lw_p26, List.forall_mem_cons.mpr ⟨lw_p27, List.forall_mem_cons.mpr ⟨lw_p28, List.forall_mem_cons.mpr ⟨lw_p29, List.forall_mem_cons.mpr ⟨lw_p30, List.forall_mem_cons.mpr ⟨lw_p31, fun _ h => absurd h List.not_mem_nil⟩⟩⟩⟩⟩⟩⟩⟩⟩⟩⟩⟩⟩⟩⟩⟩
theorem lw_p32 : lw_okq (⟨"LostBetsModel", "wagerTold", "(IIIII)Z"⟩, 41) := ⟨⟨by decide +kernel, by decide +kernel⟩, List.mem_of_getElem? (i := 844) (by decide +kernel), List.mem_of_getElem? (i := 1035) (by decide +kernel), List.mem_of_getElem? (i := 1036) (by decide +kernel)⟩
theorem lw_p33 : lw_okq (⟨"LostBetsModel", "couldBe", "(IIII)Z"⟩, 41) := ⟨⟨by decide +kernel, by decide +kernel⟩, List.mem_of_getElem? (i := 844) (by decide +kernel), List.mem_of_getElem? (i := 1039) (by decide +kernel), List.mem_of_getElem? (i := 1040) (by decide +kernel)⟩
theorem lw_p34 : lw_okq (⟨"LostBetsModel", "isFree", "(I)Z"⟩, 41) := ⟨⟨by decide +kernel, by decide +kernel⟩, List.mem_of_getElem? (i := 844) (by decide +kernel), List.mem_of_getElem? (i := 1043) (by decide +kernel), List.mem_of_getElem? (i := 1044) (by decide +kernel)⟩
theorem lw_p35 : lw_okq (⟨"LostBetsModel", "trustOf", "(III)I"⟩, 41) := ⟨⟨by decide +kernel, by decide +kernel⟩, List.mem_of_getElem? (i := 844) (by decide +kernel), List.mem_of_getElem? (i := 1047) (by decide +kernel), List.mem_of_getElem? (i := 1048) (by decide +kernel)⟩
theorem lw_p36 : lw_okq (⟨"LostBetsModel", "isTaking", "(IIII)Z"⟩, 41) := ⟨⟨by decide +kernel, by decide +kernel⟩, List.mem_of_getElem? (i := 844) (by decide +kernel), List.mem_of_getElem? (i := 1051) (by decide +kernel), List.mem_of_getElem? (i := 1052) (by decide +kernel)⟩
theorem lw_p37 : lw_okq (⟨"LostBetsModel", "asksOf", "(I)I"⟩, 41) := ⟨⟨by decide +kernel, by decide +kernel⟩, List.mem_of_getElem? (i := 844) (by decide +kernel), List.mem_of_getElem? (i := 1055) (by decide +kernel), List.mem_of_getElem? (i := 1056) (by decide +kernel)⟩
theorem lw_p38 : lw_okq (⟨"LostBetsModel", "wager", "(IIIII)V"⟩, 41) := ⟨⟨by decide +kernel, by decide +kernel⟩, List.mem_of_getElem? (i := 844) (by decide +kernel), List.mem_of_getElem? (i := 1059) (by decide +kernel), List.mem_of_getElem? (i := 1060) (by decide +kernel)⟩
theorem lw_p39 : lw_okq (⟨"LostBetsModel", "goDays", "(I)V"⟩, 41) := ⟨⟨by decide +kernel, by decide +kernel⟩, List.mem_of_getElem? (i := 844) (by decide +kernel), List.mem_of_getElem? (i := 1064) (by decide +kernel), List.mem_of_getElem? (i := 1065) (by decide +kernel)⟩
theorem lw_p40 : lw_okq (⟨"LostBetsModel", "dayBy", "(Z)V"⟩, 41) := ⟨⟨by decide +kernel, by decide +kernel⟩, List.mem_of_getElem? (i := 844) (by decide +kernel), List.mem_of_getElem? (i := 1068) (by decide +kernel), List.mem_of_getElem? (i := 1069) (by decide +kernel)⟩
theorem lw_p41 : lw_okq (⟨"LostBetsModel", "isOn", "(II)Z"⟩, 41) := ⟨⟨by decide +kernel, by decide +kernel⟩, List.mem_of_getElem? (i := 844) (by decide +kernel), List.mem_of_getElem? (i := 1072) (by decide +kernel), List.mem_of_getElem? (i := 1073) (by decide +kernel)⟩
theorem lw_p42 : lw_okq (⟨"LostBetsModel", "wed", "(II)V"⟩, 41) := ⟨⟨by decide +kernel, by decide +kernel⟩, List.mem_of_getElem? (i := 844) (by decide +kernel), List.mem_of_getElem? (i := 1076) (by decide +kernel), List.mem_of_getElem? (i := 1077) (by decide +kernel)⟩
theorem lw_p43 : lw_okq (⟨"LostBetsModel", "weepsOf", "(I)I"⟩, 41) := ⟨⟨by decide +kernel, by decide +kernel⟩, List.mem_of_getElem? (i := 844) (by decide +kernel), List.mem_of_getElem? (i := 1080) (by decide +kernel), List.mem_of_getElem? (i := 1081) (by decide +kernel)⟩
theorem lw_p44 : lw_okq (⟨"LostBetsModel", "dropWager", "(I)V"⟩, 41) := ⟨⟨by decide +kernel, by decide +kernel⟩, List.mem_of_getElem? (i := 844) (by decide +kernel), List.mem_of_getElem? (i := 1087) (by decide +kernel), List.mem_of_getElem? (i := 1088) (by decide +kernel)⟩
theorem lw_p45 : lw_okq (⟨"LostBetsModel", "learnsOf", "(I)I"⟩, 41) := ⟨⟨by decide +kernel, by decide +kernel⟩, List.mem_of_getElem? (i := 844) (by decide +kernel), List.mem_of_getElem? (i := 1091) (by decide +kernel), List.mem_of_getElem? (i := 1092) (by decide +kernel)⟩
theorem lw_p46 : lw_okq (⟨"LostBetsModel", "again", "()V"⟩, 41) := ⟨⟨by decide +kernel, by decide +kernel⟩, List.mem_of_getElem? (i := 844) (by decide +kernel), List.mem_of_getElem? (i := 1095) (by decide +kernel), List.mem_of_getElem? (i := 1096) (by decide +kernel)⟩
theorem lw_p47 : lw_okq (⟨"LostBetsModel", "keepTurn", "()V"⟩, 41) := ⟨⟨by decide +kernel, by decide +kernel⟩, List.mem_of_getElem? (i := 844) (by decide +kernel), List.mem_of_getElem? (i := 1146) (by decide +kernel), List.mem_of_getElem? (i := 1147) (by decide +kernel)⟩
def lw_privs_3 : List (MethodName × Nat) := [(⟨"LostBetsModel", "wagerTold", "(IIIII)Z"⟩, 41), (⟨"LostBetsModel", "couldBe", "(IIII)Z"⟩, 41), (⟨"LostBetsModel", "isFree", "(I)Z"⟩, 41), (⟨"LostBetsModel", "trustOf", "(III)I"⟩, 41), (⟨"LostBetsModel", "isTaking", "(IIII)Z"⟩, 41), (⟨"LostBetsModel", "asksOf", "(I)I"⟩, 41), (⟨"LostBetsModel", "wager", "(IIIII)V"⟩, 41), (⟨"LostBetsModel", "goDays", "(I)V"⟩, 41), (⟨"LostBetsModel", "dayBy", "(Z)V"⟩, 41), (⟨"LostBetsModel", "isOn", "(II)Z"⟩, 41), (⟨"LostBetsModel", "wed", "(II)V"⟩, 41), (⟨"LostBetsModel", "weepsOf", "(I)I"⟩, 41), (⟨"LostBetsModel", "dropWager", "(I)V"⟩, 41), (⟨"LostBetsModel", "learnsOf", "(I)I"⟩, 41), (⟨"LostBetsModel", "again", "()V"⟩, 41), (⟨"LostBetsModel", "keepTurn", "()V"⟩, 41)]
theorem lw_r3 : ∀ q ∈ lw_privs_3, lw_okq q := List.forall_mem_cons.mpr ⟨lw_p32, List.forall_mem_cons.mpr ⟨lw_p33, List.forall_mem_cons.mpr ⟨lw_p34, List.forall_mem_cons.mpr ⟨lw_p35, List.forall_mem_cons.mpr ⟨lw_p36, List.forall_mem_cons.mpr ⟨lw_p37, List.forall_mem_cons.mpr ⟨lw_p38, List.forall_mem_cons.mpr ⟨lw_p39, List.forall_mem_cons.mpr ⟨lw_p40, List.forall_mem_cons.mpr ⟨lw_p41, List.forall_mem_cons.mpr ⟨lw_p42, List.forall_mem_cons.mpr ⟨lw_p43, List.forall_mem_cons.mpr ⟨lw_p44, List.forall_mem_cons.mpr ⟨lw_p45, List.forall_mem_cons.mpr ⟨lw_p46, List.forall_mem_cons.mpr ⟨lw_p47, fun _ h => absurd h List.not_mem_nil⟩⟩⟩⟩⟩⟩⟩⟩⟩⟩⟩⟩⟩⟩⟩⟩
theorem lw_p48 : lw_okq (⟨"LostBetsModel", "isTwo", "(II)Z"⟩, 41) := ⟨⟨by decide +kernel, by decide +kernel⟩, List.mem_of_getElem? (i := 844) (by decide +kernel), List.mem_of_getElem? (i := 1158) (by decide +kernel), List.mem_of_getElem? (i := 1159) (by decide +kernel)⟩
theorem lw_p49 : lw_okq (⟨"LostBetsModel", "wedBits", "()I"⟩, 41) := ⟨⟨by decide +kernel, by decide +kernel⟩, List.mem_of_getElem? (i := 844) (by decide +kernel), List.mem_of_getElem? (i := 1169) (by decide +kernel), List.mem_of_getElem? (i := 1170) (by decide +kernel)⟩
theorem lw_p50 : lw_okq (⟨"LostBetsModel", "beliefThen", "(III)I"⟩, 41) := ⟨⟨by decide +kernel, by decide +kernel⟩, List.mem_of_getElem? (i := 844) (by decide +kernel), List.mem_of_getElem? (i := 1184) (by decide +kernel), List.mem_of_getElem? (i := 1185) (by decide +kernel)⟩
theorem lw_p51 : lw_okq (⟨"LostBetsModel", "wedThen", "(I)I"⟩, 41) := ⟨⟨by decide +kernel, by decide +kernel⟩, List.mem_of_getElem? (i := 844) (by decide +kernel), List.mem_of_getElem? (i := 1192) (by decide +kernel), List.mem_of_getElem? (i := 1193) (by decide +kernel)⟩
theorem lw_p52 : lw_okq (⟨"LostBetsModel", "wedSoon", "(I)I"⟩, 41) := ⟨⟨by decide +kernel, by decide +kernel⟩, List.mem_of_getElem? (i := 844) (by decide +kernel), List.mem_of_getElem? (i := 1201) (by decide +kernel), List.mem_of_getElem? (i := 1202) (by decide +kernel)⟩
theorem lw_p53 : lw_okq (⟨"LostBetsModel", "betOf", "(II)I"⟩, 41) := ⟨⟨by decide +kernel, by decide +kernel⟩, List.mem_of_getElem? (i := 844) (by decide +kernel), List.mem_of_getElem? (i := 1213) (by decide +kernel), List.mem_of_getElem? (i := 1214) (by decide +kernel)⟩
theorem lw_p54 : lw_okq (⟨"LostBetsModel", "isLost", "(III)Z"⟩, 41) := ⟨⟨by decide +kernel, by decide +kernel⟩, List.mem_of_getElem? (i := 844) (by decide +kernel), List.mem_of_getElem? (i := 1217) (by decide +kernel), List.mem_of_getElem? (i := 1218) (by decide +kernel)⟩
theorem lw_p55 : lw_okq (⟨"LostBetsModel", "wooersOf", "(I)I"⟩, 41) := ⟨⟨by decide +kernel, by decide +kernel⟩, List.mem_of_getElem? (i := 844) (by decide +kernel), List.mem_of_getElem? (i := 1229) (by decide +kernel), List.mem_of_getElem? (i := 1230) (by decide +kernel)⟩
theorem lw_p56 : lw_okq (⟨"LostBetsModel", "layMatch", "()V"⟩, 41) := ⟨⟨by decide +kernel, by decide +kernel⟩, List.mem_of_getElem? (i := 844) (by decide +kernel), List.mem_of_getElem? (i := 1237) (by decide +kernel), List.mem_of_getElem? (i := 1238) (by decide +kernel)⟩
theorem lw_p57 : lw_okq (⟨"LostBetsModel", "isPair", "(II)Z"⟩, 41) := ⟨⟨by decide +kernel, by decide +kernel⟩, List.mem_of_getElem? (i := 844) (by decide +kernel), List.mem_of_getElem? (i := 1244) (by decide +kernel), List.mem_of_getElem? (i := 1245) (by decide +kernel)⟩
theorem lw_p58 : lw_okq (⟨"LostBetsModel", "partnerOf", "(II)I"⟩, 41) := ⟨⟨by decide +kernel, by decide +kernel⟩, List.mem_of_getElem? (i := 844) (by decide +kernel), List.mem_of_getElem? (i := 1248) (by decide +kernel), List.mem_of_getElem? (i := 1249) (by decide +kernel)⟩
theorem lw_p59 : lw_okq (⟨"LostBetsModel", "tearsWithout", "(II)I"⟩, 41) := ⟨⟨by decide +kernel, by decide +kernel⟩, List.mem_of_getElem? (i := 844) (by decide +kernel), List.mem_of_getElem? (i := 1268) (by decide +kernel), List.mem_of_getElem? (i := 1269) (by decide +kernel)⟩
theorem lw_p60 : lw_okq (⟨"LostBetsModel", "allTears", "()I"⟩, 41) := ⟨⟨by decide +kernel, by decide +kernel⟩, List.mem_of_getElem? (i := 844) (by decide +kernel), List.mem_of_getElem? (i := 1272) (by decide +kernel), List.mem_of_getElem? (i := 1273) (by decide +kernel)⟩
theorem lw_p61 : lw_okq (⟨"LostBetsModel", "wagerWith", "(I)I"⟩, 41) := ⟨⟨by decide +kernel, by decide +kernel⟩, List.mem_of_getElem? (i := 844) (by decide +kernel), List.mem_of_getElem? (i := 1280) (by decide +kernel), List.mem_of_getElem? (i := 1281) (by decide +kernel)⟩
theorem lw_p62 : lw_okq (⟨"LostBetsModel", "isRow", "(I)Z"⟩, 41) := ⟨⟨by decide +kernel, by decide +kernel⟩, List.mem_of_getElem? (i := 844) (by decide +kernel), List.mem_of_getElem? (i := 1284) (by decide +kernel), List.mem_of_getElem? (i := 1285) (by decide +kernel)⟩
theorem lw_p63 : lw_okq (⟨"LostBetsModel", "saddestOne", "()I"⟩, 41) := ⟨⟨by decide +kernel, by decide +kernel⟩, List.mem_of_getElem? (i := 844) (by decide +kernel), List.mem_of_getElem? (i := 1315) (by decide +kernel), List.mem_of_getElem? (i := 1316) (by decide +kernel)⟩
def lw_privs_4 : List (MethodName × Nat) := [(⟨"LostBetsModel", "isTwo", "(II)Z"⟩, 41), (⟨"LostBetsModel", "wedBits", "()I"⟩, 41), (⟨"LostBetsModel", "beliefThen", "(III)I"⟩, 41), (⟨"LostBetsModel", "wedThen", "(I)I"⟩, 41), (⟨"LostBetsModel", "wedSoon", "(I)I"⟩, 41), (⟨"LostBetsModel", "betOf", "(II)I"⟩, 41), (⟨"LostBetsModel", "isLost", "(III)Z"⟩, 41), (⟨"LostBetsModel", "wooersOf", "(I)I"⟩, 41), (⟨"LostBetsModel", "layMatch", "()V"⟩, 41), (⟨"LostBetsModel", "isPair", "(II)Z"⟩, 41), (⟨"LostBetsModel", "partnerOf", "(II)I"⟩, 41), (⟨"LostBetsModel", "tearsWithout", "(II)I"⟩, 41), (⟨"LostBetsModel", "allTears", "()I"⟩, 41), (⟨"LostBetsModel", "wagerWith", "(I)I"⟩, 41), (⟨"LostBetsModel", "isRow", "(I)Z"⟩, 41), (⟨"LostBetsModel", "saddestOne", "()I"⟩, 41)]
theorem lw_r4 : ∀ q ∈ lw_privs_4, lw_okq q := List.forall_mem_cons.mpr ⟨lw_p48, List.forall_mem_cons.mpr ⟨lw_p49, List.forall_mem_cons.mpr ⟨lw_p50, List.forall_mem_cons.mpr ⟨lw_p51, List.forall_mem_cons.mpr ⟨lw_p52, List.forall_mem_cons.mpr ⟨lw_p53, List.forall_mem_cons.mpr ⟨lw_p54, List.forall_mem_cons.mpr ⟨lw_p55, List.forall_mem_cons.mpr ⟨lw_p56, List.forall_mem_cons.mpr ⟨lw_p57, List.forall_mem_cons.mpr ⟨lw_p58, List.forall_mem_cons.mpr ⟨lw_p59, List.forall_mem_cons.mpr ⟨lw_p60, List.forall_mem_cons.mpr ⟨lw_p61, List.forall_mem_cons.mpr ⟨lw_p62, List.forall_mem_cons.mpr ⟨lw_p63, fun _ h => absurd h List.not_mem_nil⟩⟩⟩⟩⟩⟩⟩⟩⟩⟩⟩⟩⟩⟩⟩⟩
theorem lw_p64 : lw_okq (⟨"LostBetsModel", "twosOf", "(I)I"⟩, 41) := ⟨⟨by decide +kernel, by decide +kernel⟩, List.mem_of_getElem? (i := 844) (by decide +kernel), List.mem_of_getElem? (i := 1319) (by decide +kernel), List.mem_of_getElem? (i := 1320) (by decide +kernel)⟩
theorem lw_p65 : lw_okq (⟨"LostBetsModel", "isMutual", "(II)Z"⟩, 41) := ⟨⟨by decide +kernel, by decide +kernel⟩, List.mem_of_getElem? (i := 844) (by decide +kernel), List.mem_of_getElem? (i := 1323) (by decide +kernel), List.mem_of_getElem? (i := 1324) (by decide +kernel)⟩
theorem lw_p66 : lw_okq (⟨"LostBetsModel", "freeBits", "()I"⟩, 41) := ⟨⟨by decide +kernel, by decide +kernel⟩, List.mem_of_getElem? (i := 844) (by decide +kernel), List.mem_of_getElem? (i := 1327) (by decide +kernel), List.mem_of_getElem? (i := 1328) (by decide +kernel)⟩
theorem lw_p67 : lw_okq (⟨"LostBetsModel", "lastDays", "()I"⟩, 41) := ⟨⟨by decide +kernel, by decide +kernel⟩, List.mem_of_getElem? (i := 844) (by decide +kernel), List.mem_of_getElem? (i := 1347) (by decide +kernel), List.mem_of_getElem? (i := 1348) (by decide +kernel)⟩
theorem lw_p68 : lw_okq (⟨"LostBetsModel", "chasteRun", "()I"⟩, 41) := ⟨⟨by decide +kernel, by decide +kernel⟩, List.mem_of_getElem? (i := 844) (by decide +kernel), List.mem_of_getElem? (i := 1351) (by decide +kernel), List.mem_of_getElem? (i := 1352) (by decide +kernel)⟩
theorem lw_p69 : lw_okq (⟨"LostBetsModel", "oddBits", "()I"⟩, 41) := ⟨⟨by decide +kernel, by decide +kernel⟩, List.mem_of_getElem? (i := 844) (by decide +kernel), List.mem_of_getElem? (i := 1355) (by decide +kernel), List.mem_of_getElem? (i := 1356) (by decide +kernel)⟩
theorem lw_p70 : lw_okq (⟨"LostBetsModel", "drawBelow", "(I)I"⟩, 41) := ⟨⟨by decide +kernel, by decide +kernel⟩, List.mem_of_getElem? (i := 844) (by decide +kernel), List.mem_of_getElem? (i := 1380) (by decide +kernel), List.mem_of_getElem? (i := 1381) (by decide +kernel)⟩
def lw_privs_5 : List (MethodName × Nat) := [(⟨"LostBetsModel", "twosOf", "(I)I"⟩, 41), (⟨"LostBetsModel", "isMutual", "(II)Z"⟩, 41), (⟨"LostBetsModel", "freeBits", "()I"⟩, 41), (⟨"LostBetsModel", "lastDays", "()I"⟩, 41), (⟨"LostBetsModel", "chasteRun", "()I"⟩, 41), (⟨"LostBetsModel", "oddBits", "()I"⟩, 41), (⟨"LostBetsModel", "drawBelow", "(I)I"⟩, 41)]
theorem lw_r5 : ∀ q ∈ lw_privs_5, lw_okq q := List.forall_mem_cons.mpr ⟨lw_p64, List.forall_mem_cons.mpr ⟨lw_p65, List.forall_mem_cons.mpr ⟨lw_p66, List.forall_mem_cons.mpr ⟨lw_p67, List.forall_mem_cons.mpr ⟨lw_p68, List.forall_mem_cons.mpr ⟨lw_p69, List.forall_mem_cons.mpr ⟨lw_p70, fun _ h => absurd h List.not_mem_nil⟩⟩⟩⟩⟩⟩⟩
def lw_privs : List (MethodName × Nat) := lw_privs_1 ++ (lw_privs_2 ++ (lw_privs_3 ++ (lw_privs_4 ++ (lw_privs_5))))
def lw_tbl : List Cond := k2_sels lw_privs ++ tables_1
theorem lw_privs_ok : ∀ q ∈ lw_privs, lw_okq q := by
  show ∀ q ∈ lw_privs_1 ++ (lw_privs_2 ++ (lw_privs_3 ++ (lw_privs_4 ++ (lw_privs_5)))), lw_okq q
  exact List.forall_mem_append.mpr ⟨lw_r1, List.forall_mem_append.mpr ⟨lw_r2, List.forall_mem_append.mpr ⟨lw_r3, List.forall_mem_append.mpr ⟨lw_r4, lw_r5⟩⟩⟩⟩
end
section
/-! the system's classes, their fields in the order of the slots; the classes of its arrays -/
def zz_host : String := "LostBets"
def zF_0 : u_T := fun k => match k with
  | 0 => ("LostBets", "now", "LLostBets$Town;", true)
  | 1 => ("LostBets", "mind", "LLostBets$Town;", true)
  | 2 => ("LostBets", "pictured", "LLostBets$Town;", true)
  | 3 => ("LostBets", "isPictured", "Z", false)
  | 4 => ("LostBets", "past", "LLostBets$Past;", true)
  | 5 => ("LostBets", "letters", "LLostBets$Letters;", true)
  | 6 => ("LostBets", "twos", "LLostBets$Twos;", true)
  | 7 => ("LostBets", "told", "[I", true)
  | 8 => ("LostBets", "inRow", "I", false)
  | _ => ("LostBets", "refusals", "[I", true)
def zF_1 : u_T := fun k => match k with
  | _ => ("", "", "", false)
def zF_2 : u_T := fun k => match k with
  | _ => ("", "", "", false)
def zF_3 : u_T := fun k => match k with
  | _ => ("", "", "", false)
def zF_4 : u_T := fun k => match k with
  | _ => ("", "", "", false)
def zF_5 : u_T := fun k => match k with
  | _ => ("", "", "", false)
def zF_6 : u_T := fun k => match k with
  | _ => ("", "", "", false)
def zF_7 : u_T := fun k => match k with
  | 0 => ("LostBets$Town", "kinds", "[LLostBets$Suitor;", true)
  | 1 => ("LostBets$Town", "people", "I", false)
  | 2 => ("LostBets$Town", "kind", "[I", true)
  | 3 => ("LostBets$Town", "figure", "[I", true)
  | 4 => ("LostBets$Town", "asks", "[I", true)
  | 5 => ("LostBets$Town", "weeps", "[I", true)
  | 6 => ("LostBets$Town", "learns", "[I", true)
  | 7 => ("LostBets$Town", "wish", "[I", true)
  | 8 => ("LostBets$Town", "tears", "[I", true)
  | 9 => ("LostBets$Town", "wed", "[I", true)
  | 10 => ("LostBets$Town", "beliefs", "[[I", true)
  | 11 => ("LostBets$Town", "every", "[I", true)
  | 12 => ("LostBets$Town", "on", "[I", true)
  | 13 => ("LostBets$Town", "wagers", "[LLostBets$Wager;", true)
  | 14 => ("LostBets$Town", "open", "I", false)
  | _ => ("LostBets$Town", "day", "I", false)
def zF_8 : u_T := fun k => match k with
  | 0 => ("LostBets$Wager", "one", "I", false)
  | 1 => ("LostBets$Wager", "other", "I", false)
  | 2 => ("LostBets$Wager", "event", "I", false)
  | 3 => ("LostBets$Wager", "side", "I", false)
  | _ => ("LostBets$Wager", "wait", "I", false)
def zF_9 : u_T := fun k => match k with
  | 0 => ("LostBets$Past", "kept", "[LLostBets$Town;", true)
  | 1 => ("LostBets$Past", "last", "I", false)
  | _ => ("LostBets$Past", "size", "I", false)
def zF_10 : u_T := fun k => match k with
  | 0 => ("LostBets$Letters", "text", "[I", true)
  | _ => ("LostBets$Letters", "size", "I", false)
def zF_11 : u_T := fun k => match k with
  | 0 => ("LostBets$Twos", "near", "[I", true)
  | 1 => ("LostBets$Twos", "mostAmong", "[I", true)
  | _ => ("LostBets$Twos", "all", "I", false)
def zF_12 : u_T := fun k => match k with
  | 0 => ("LostBetsModel", "many", "I", false)
  | 1 => ("LostBetsModel", "kinds", "[I", true)
  | 2 => ("LostBetsModel", "figures", "[I", true)
  | 3 => ("LostBetsModel", "wish", "[I", true)
  | 4 => ("LostBetsModel", "tears", "[I", true)
  | 5 => ("LostBetsModel", "wedTo", "[I", true)
  | 6 => ("LostBetsModel", "beliefs", "[I", true)
  | 7 => ("LostBetsModel", "every0", "[I", true)
  | 8 => ("LostBetsModel", "on0", "[I", true)
  | 9 => ("LostBetsModel", "open", "I", false)
  | 10 => ("LostBetsModel", "byWhom", "[I", true)
  | 11 => ("LostBetsModel", "toWhom", "[I", true)
  | 12 => ("LostBetsModel", "eventIn", "[I", true)
  | 13 => ("LostBetsModel", "sideIn", "[I", true)
  | 14 => ("LostBetsModel", "daysIn", "[I", true)
  | 15 => ("LostBetsModel", "today", "I", false)
  | 16 => ("LostBetsModel", "thrown", "I", false)
  | 17 => ("LostBetsModel", "refusals", "[I", true)
  | 18 => ("LostBetsModel", "letters", "[I", true)
  | 19 => ("LostBetsModel", "letterMany", "I", false)
  | 20 => ("LostBetsModel", "at0", "I", false)
  | 21 => ("LostBetsModel", "isBad", "Z", false)
  | 22 => ("LostBetsModel", "statements", "I", false)
  | 23 => ("LostBetsModel", "placeIn", "[I", true)
  | 24 => ("LostBetsModel", "letterOf", "[I", true)
  | 25 => ("LostBetsModel", "numbers", "[I", true)
  | 26 => ("LostBetsModel", "kept", "[I", true)
  | 27 => ("LostBetsModel", "imaged", "[I", true)
  | 28 => ("LostBetsModel", "hasImage", "Z", false)
  | 29 => ("LostBetsModel", "place0", "I", false)
  | 30 => ("LostBetsModel", "isKeeping", "Z", false)
  | 31 => ("LostBetsModel", "keptIn", "[I", false)
  | 32 => ("LostBetsModel", "turns0", "[I", true)
  | 33 => ("LostBetsModel", "turnOf", "[I", true)
  | 34 => ("LostBetsModel", "turned", "I", false)
  | 35 => ("LostBetsModel", "mostBy", "[I", true)
  | 36 => ("LostBetsModel", "wooing", "[I", true)
  | 37 => ("LostBetsModel", "row", "[I", true)
  | 38 => ("LostBetsModel", "rowMany", "I", false)
  | 39 => ("LostBetsModel", "gains", "[I", true)
  | _ => ("LostBetsModel", "seed", "I", false)
abbrev classes : List vw_C := [("LostBets", zF_0, 10), ("LostBets$Suitor", zF_1, 0), ("LostBets$Aunt", zF_2, 0), ("LostBets$Girl", zF_3, 0), ("LostBets$Gambler", zF_4, 0), ("LostBets$Rich", zF_5, 0), ("LostBets$Honest", zF_6, 0), ("LostBets$Town", zF_7, 16), ("LostBets$Wager", zF_8, 5), ("LostBets$Past", zF_9, 3), ("LostBets$Letters", zF_10, 2), ("LostBets$Twos", zF_11, 3), ("LostBetsModel", zF_12, 41)]
def zz_ty : List FieldType := [.int, .object "LostBets$Suitor", .array .int, .object "LostBets$Wager", .object "LostBets$Town"]
theorem zz_ty0 : zz_ty[0]? = some .int := rfl
end
section
/-! THE PURE MACHINE: the system's cells as a list, by their numbers; one step of a frame as a function; a walk of the real machine follows it -/
-- a cell: an int array; an array of references (the number of its class in zz_ty); an object (the number of its class in 'classes', its fields). Reference i is cell i
abbrev zz_C : Type := List Int32 ⊕ ((Nat × List (Option Nat)) ⊕ (Nat × List Value))
-- the cells, 'none' for one that isn't spoken of; place 0 is kept for the law's script and is always 'none'
abbrev zz_W : Type := List (Option zz_C)
-- the address before the first cell; the script's address; the classes of the arrays; the classes of the objects and their slots
abbrev zz_G : Type := Nat × Nat × (Nat → ClassId) × va_G
def zz_ad (g : zz_G) (i : Nat) : Nat := if i = 0 then g.2.1 else g.1 + i
def zz_tr (g : zz_G) : Value → Value
  | .ref i => .ref (zz_ad g i)
  | v => v
def zz_at (g : zz_G) (i : Nat) (c : zz_C) (H : Heap) : Prop := match c with
  | .inl xs => H[zz_ad g i]? = some (arrV (g.2.2.1 0) xs.length (fun j => .int (xs.getD j 0)))
  | .inr (.inl (t, rs)) => H[zz_ad g i]? = some (arrV (g.2.2.1 t) rs.length (fun j => zz_tr g (va_rf (rs.getD j none))))
  | .inr (.inr (ci, fs)) => ∃ r : vw_C, classes[ci]? = some r ∧ t_OB (zz_ad g i) (g.2.2.2.1 ci) r.2.2 (g.2.2.2.2 ci) H (vp_V (fs.map (zz_tr g)))
def zz_K (g : zz_G) (U : State) : Prop := (∀ (c : Nat) (q : vw_C), classes[c]? = some q → u_Kn U q.1 q.2.1 q.2.2 (g.2.2.2.1 c) (g.2.2.2.2 c)) ∧ ∀ (t : Nat) (ty : FieldType), zz_ty[t]? = some ty → ArrOfT U (g.2.2.1 t) ty ∧ va_RA U (g.2.2.1 t) ty
def zz_P (g : zz_G) (cs : zz_W) (H : Heap) : Prop := H.size = g.1 + cs.length ∧ ∀ (i : Nat) (c : zz_C), cs[i]? = some (some c) → 0 < i ∧ zz_at g i c H
def zz_R (g : zz_G) (s : State) (cs : zz_W) (H : Heap) (locs : List Loc) : Prop := zz_P g cs H ∧ s.heap.size ≤ H.size ∧ (∀ q : Nat, q ≤ g.1 → H[q]? = s.heap[q]?) ∧ ∀ q ∈ locs, g.1 < q.base
def zz_as (g : zz_G) (L : List (Option Value)) : List (Nat × Value) := (List.range L.length).filterMap (fun i => match L[i]? with | some (some v) => some (i, zz_tr g v) | _ => none)
theorem zz_as_mem {g : zz_G} {L : List (Option Value)} {i : Nat} {v : Value} (h : L[i]? = some (some v)) : (i, zz_tr g v) ∈ zz_as g L := by
  have hl : i < L.length := (List.getElem?_eq_some_iff.mp h).1
  exact List.mem_filterMap.mpr ⟨i, List.mem_range.mpr hl, by simp only [h]⟩
theorem zz_as_of {g : zz_G} {L : List (Option Value)} {q : Nat × Value} (h : q ∈ zz_as g L) : ∃ v, L[q.1]? = some (some v) ∧ q.2 = zz_tr g v := by
  obtain ⟨i, -, hi⟩ := List.mem_filterMap.mp h
  split at hi
  · rename_i v hv
    cases hi
    exact ⟨v, hv, rfl⟩
  · cases hi
theorem zz_tr_cat (g : zz_G) (v : Value) : (zz_tr g v).category = v.category := by cases v <;> rfl
theorem zz_lv {g : zz_G} {ls : Array Slot} {nL i : Nat} {L : List (Option Value)} {v : Value} (h : lv_has ls nL (zz_as g L)) (hv : L[i]? = some (some v)) : ls[i]? = some (.val (zz_tr g v)) := h.2.2 _ (zz_as_mem hv)
def zz_ld (L : List (Option Value)) (i : Nat) : Option Value := match L[i]? with
  | some (some v) => some v
  | _ => none
theorem zz_ld_eq {L : List (Option Value)} {i : Nat} {v : Value} (h : zz_ld L i = some v) : L[i]? = some (some v) := by
  unfold zz_ld at h
  split at h
  · rename_i w hw
    cases h
    exact hw
  · cases h
/-- a store clears a long or double that lay one place before -/
def zz_cl (L : List (Option Value)) (i : Nat) : List (Option Value) := match i with
  | 0 => L
  | j + 1 => match zz_ld L j with
    | some w => if w.category = 2 then L.set j none else L
    | none => L
def zz_sv (L : List (Option Value)) (i : Nat) (v : Value) : List (Option Value) := if v.category = 2 then ((zz_cl L i).set i (some v)).set (i + 1) none else (zz_cl L i).set i (some v)
theorem zz_cl_keep {L : List (Option Value)} {i j : Nat} {w : Value} (h : (zz_cl L i)[j]? = some (some w)) : L[j]? = some (some w) ∧ ¬ (j + 1 = i ∧ w.category = 2) := by
  unfold zz_cl at h
  split at h
  · exact ⟨h, fun q => by omega⟩
  · rename_i i k
    split at h
    · rename_i u hu
      split at h
      · rename_i hc
        by_cases hjk : j = k
        · subst hjk
          have hl : j < L.length := (List.getElem?_eq_some_iff.mp (zz_ld_eq hu)).1
          rw [List.getElem?_set_self hl] at h
          cases h
        · rw [List.getElem?_set_ne (Ne.symm hjk)] at h
          exact ⟨h, fun q => hjk (by omega)⟩
      · rename_i hc
        refine ⟨h, fun q => ?_⟩
        have hjk : j = k := by omega
        subst hjk
        have := (zz_ld_eq hu).symm.trans h
        cases this
        exact hc q.2
    · rename_i hn
      refine ⟨h, fun q => ?_⟩
      have hjk : j = k := by omega
      subst hjk
      have : zz_ld L j = some w := by unfold zz_ld; rw [h]
      rw [this] at hn
      cases hn
theorem zz_cl_len (L : List (Option Value)) (i : Nat) : (zz_cl L i).length = L.length := by
  unfold zz_cl
  split
  · rfl
  · split
    · split
      · simp
      · rfl
    · rfl
theorem zz_sv1 {g : zz_G} {ls' : Array Slot} {nL i : Nat} {L : List (Option Value)} {v : Value} (hc : v.category = 1) (h : lv_has ls' nL ((i, zz_tr g v) :: (zz_as g L).filter (fun q => !(q.1 == i) && !(q.1 + 1 == i && q.2.category == 2)))) : lv_has ls' nL (zz_as g (zz_sv L i v)) := by
  refine ⟨h.1, h.2.1, fun q hq => ?_⟩
  obtain ⟨w, hw, he⟩ := zz_as_of hq
  refine h.2.2 q ?_
  unfold zz_sv at hw
  rw [if_neg (by omega)] at hw
  by_cases hqi : q.1 = i
  · have hl : i < (zz_cl L i).length := by
      have := (List.getElem?_eq_some_iff.mp hw).1
      rw [List.length_set] at this
      omega
    rw [hqi, List.getElem?_set_self hl] at hw
    cases hw
    have : q = (i, zz_tr g v) := by rw [← hqi, ← he]
    rw [this]
    exact List.mem_cons_self
  · rw [List.getElem?_set_ne (Ne.symm hqi)] at hw
    obtain ⟨h1, h2⟩ := zz_cl_keep hw
    refine List.mem_cons_of_mem _ (List.mem_filter.mpr ⟨?_, ?_⟩)
    · have := zz_as_mem (g := g) h1
      rw [← he] at this
      exact this
    · rw [he, zz_tr_cat]
      simp only [Bool.and_eq_true, Bool.not_eq_true', beq_eq_false_iff_ne, ne_eq, Bool.and_eq_false_imp, beq_iff_eq]
      exact ⟨hqi, fun a b => h2 ⟨a, b⟩⟩
theorem zz_sv2 {g : zz_G} {ls' : Array Slot} {nL i : Nat} {L : List (Option Value)} {v : Value} (hc : v.category = 2) (h : lv_has ls' nL ((i, zz_tr g v) :: (zz_as g L).filter (fun q => !(q.1 == i) && (!(q.1 == i + 1) && !(q.1 + 1 == i && q.2.category == 2))))) : lv_has ls' nL (zz_as g (zz_sv L i v)) := by
  refine ⟨h.1, h.2.1, fun q hq => ?_⟩
  obtain ⟨w, hw, he⟩ := zz_as_of hq
  refine h.2.2 q ?_
  unfold zz_sv at hw
  rw [if_pos hc] at hw
  by_cases hq1 : q.1 = i + 1
  · have hl : i + 1 < ((zz_cl L i).set i (some v)).length := by
      have := (List.getElem?_eq_some_iff.mp hw).1
      rw [List.length_set] at this
      omega
    rw [hq1, List.getElem?_set_self hl] at hw
    cases hw
  rw [List.getElem?_set_ne (Ne.symm hq1)] at hw
  by_cases hqi : q.1 = i
  · have hl : i < (zz_cl L i).length := by
      have := (List.getElem?_eq_some_iff.mp hw).1
      rw [List.length_set] at this
      omega
    rw [hqi, List.getElem?_set_self hl] at hw
    cases hw
    have : q = (i, zz_tr g v) := by rw [← hqi, ← he]
    rw [this]
    exact List.mem_cons_self
  · rw [List.getElem?_set_ne (Ne.symm hqi)] at hw
    obtain ⟨h1, h2⟩ := zz_cl_keep hw
    refine List.mem_cons_of_mem _ (List.mem_filter.mpr ⟨?_, ?_⟩)
    · have := zz_as_mem (g := g) h1
      rw [← he] at this
      exact this
    · rw [he, zz_tr_cat]
      simp only [Bool.and_eq_true, Bool.not_eq_true', beq_eq_false_iff_ne, ne_eq, Bool.and_eq_false_imp, beq_iff_eq]
      exact ⟨hqi, hq1, fun a b => h2 ⟨a, b⟩⟩
end
