section
-- ===== PART A: goes FIRST, ahead of the names: the tables' words, and 'selects' of the private methods out of them =====
/-- a private method of a class that the tables say can be made, by its rows of tables_1 -/
def lw_okq (q : MethodName × Nat) : Prop := (q.1.cls ≠ "java/lang/invoke/MethodHandle" ∧ q.1.cls ≠ "java/lang/invoke/VarHandle") ∧ Cond.instantiable q.1.cls q.2 ∈ tables_1 ∧ Cond.privateMethod q.1 ∈ tables_1 ∧ Cond.instanceMethod q.1 ∈ tables_1
theorem lw_p0 : lw_okq (⟨"LostBets", "refused", "(I)I"⟩, 10) := ⟨⟨by decide +kernel, by decide +kernel⟩, List.mem_of_getElem? (i := 19) (by decide +kernel), List.mem_of_getElem? (i := 263) (by decide +kernel), List.mem_of_getElem? (i := 264) (by decide +kernel)⟩
theorem lw_p1 : lw_okq (⟨"LostBets", "tellInMind", "(I)Z"⟩, 10) := ⟨⟨by decide +kernel, by decide +kernel⟩, List.mem_of_getElem? (i := 19) (by decide +kernel), List.mem_of_getElem? (i := 315) (by decide +kernel), List.mem_of_getElem? (i := 316) (by decide +kernel)⟩
theorem lw_p2 : lw_okq (⟨"LostBets$Town", "trust", "(III)I"⟩, 16) := ⟨⟨by decide +kernel, by decide +kernel⟩, List.mem_of_getElem? (i := 71) (by decide +kernel), List.mem_of_getElem? (i := 455) (by decide +kernel), List.mem_of_getElem? (i := 456) (by decide +kernel)⟩
theorem lw_p3 : lw_okq (⟨"LostBets$Town", "comeOut", "()V"⟩, 16) := ⟨⟨by decide +kernel, by decide +kernel⟩, List.mem_of_getElem? (i := 71) (by decide +kernel), List.mem_of_getElem? (i := 475) (by decide +kernel), List.mem_of_getElem? (i := 476) (by decide +kernel)⟩
theorem lw_p4 : lw_okq (⟨"LostBets$Town", "marry", "(II)V"⟩, 16) := ⟨⟨by decide +kernel, by decide +kernel⟩, List.mem_of_getElem? (i := 71) (by decide +kernel), List.mem_of_getElem? (i := 487) (by decide +kernel), List.mem_of_getElem? (i := 488) (by decide +kernel)⟩
theorem lw_p5 : lw_okq (⟨"LostBets$Town", "withMore", "(I)I"⟩, 16) := ⟨⟨by decide +kernel, by decide +kernel⟩, List.mem_of_getElem? (i := 71) (by decide +kernel), List.mem_of_getElem? (i := 491) (by decide +kernel), List.mem_of_getElem? (i := 492) (by decide +kernel)⟩
theorem lw_p6 : lw_okq (⟨"LostBets$Town", "learn", "()V"⟩, 16) := ⟨⟨by decide +kernel, by decide +kernel⟩, List.mem_of_getElem? (i := 71) (by decide +kernel), List.mem_of_getElem? (i := 502) (by decide +kernel), List.mem_of_getElem? (i := 503) (by decide +kernel)⟩
theorem lw_p7 : lw_okq (⟨"LostBets$Town", "isWedIn", "(II)Z"⟩, 16) := ⟨⟨by decide +kernel, by decide +kernel⟩, List.mem_of_getElem? (i := 71) (by decide +kernel), List.mem_of_getElem? (i := 552) (by decide +kernel), List.mem_of_getElem? (i := 553) (by decide +kernel)⟩
theorem lw_p8 : lw_okq (⟨"LostBets", "refusalOfBeliefIn", "(III)I"⟩, 10) := ⟨⟨by decide +kernel, by decide +kernel⟩, List.mem_of_getElem? (i := 19) (by decide +kernel), List.mem_of_getElem? (i := 623) (by decide +kernel), List.mem_of_getElem? (i := 624) (by decide +kernel)⟩
theorem lw_p9 : lw_okq (⟨"LostBets", "firstToWed", "()I"⟩, 10) := ⟨⟨by decide +kernel, by decide +kernel⟩, List.mem_of_getElem? (i := 19) (by decide +kernel), List.mem_of_getElem? (i := 644) (by decide +kernel), List.mem_of_getElem? (i := 645) (by decide +kernel)⟩
theorem lw_p10 : lw_okq (⟨"LostBets$Twos", "mostIn", "(I)I"⟩, 3) := ⟨⟨by decide +kernel, by decide +kernel⟩, List.mem_of_getElem? (i := 212) (by decide +kernel), List.mem_of_getElem? (i := 689) (by decide +kernel), List.mem_of_getElem? (i := 690) (by decide +kernel)⟩
theorem lw_p11 : lw_okq (⟨"LostBets$Twos", "firstPartner", "(II)I"⟩, 3) := ⟨⟨by decide +kernel, by decide +kernel⟩, List.mem_of_getElem? (i := 212) (by decide +kernel), List.mem_of_getElem? (i := 702) (by decide +kernel), List.mem_of_getElem? (i := 703) (by decide +kernel)⟩
theorem lw_p12 : lw_okq (⟨"LostBets", "callOffInMind", "(I)V"⟩, 10) := ⟨⟨by decide +kernel, by decide +kernel⟩, List.mem_of_getElem? (i := 19) (by decide +kernel), List.mem_of_getElem? (i := 733) (by decide +kernel), List.mem_of_getElem? (i := 734) (by decide +kernel)⟩
theorem lw_p13 : lw_okq (⟨"LostBets", "gainOfTwo", "(IIIII)I"⟩, 10) := ⟨⟨by decide +kernel, by decide +kernel⟩, List.mem_of_getElem? (i := 19) (by decide +kernel), List.mem_of_getElem? (i := 743) (by decide +kernel), List.mem_of_getElem? (i := 744) (by decide +kernel)⟩
theorem lw_p14 : lw_okq (⟨"LostBets", "isRowSoInMind", "(I)Z"⟩, 10) := ⟨⟨by decide +kernel, by decide +kernel⟩, List.mem_of_getElem? (i := 19) (by decide +kernel), List.mem_of_getElem? (i := 765) (by decide +kernel), List.mem_of_getElem? (i := 766) (by decide +kernel)⟩
theorem lw_p15 : lw_okq (⟨"LostBets", "refusedLong", "(I)J"⟩, 10) := ⟨⟨by decide +kernel, by decide +kernel⟩, List.mem_of_getElem? (i := 19) (by decide +kernel), List.mem_of_getElem? (i := 778) (by decide +kernel), List.mem_of_getElem? (i := 779) (by decide +kernel)⟩
def lw_privs_1 : List (MethodName × Nat) := [(⟨"LostBets", "refused", "(I)I"⟩, 10), (⟨"LostBets", "tellInMind", "(I)Z"⟩, 10), (⟨"LostBets$Town", "trust", "(III)I"⟩, 16), (⟨"LostBets$Town", "comeOut", "()V"⟩, 16), (⟨"LostBets$Town", "marry", "(II)V"⟩, 16), (⟨"LostBets$Town", "withMore", "(I)I"⟩, 16), (⟨"LostBets$Town", "learn", "()V"⟩, 16), (⟨"LostBets$Town", "isWedIn", "(II)Z"⟩, 16), (⟨"LostBets", "refusalOfBeliefIn", "(III)I"⟩, 10), (⟨"LostBets", "firstToWed", "()I"⟩, 10), (⟨"LostBets$Twos", "mostIn", "(I)I"⟩, 3), (⟨"LostBets$Twos", "firstPartner", "(II)I"⟩, 3), (⟨"LostBets", "callOffInMind", "(I)V"⟩, 10), (⟨"LostBets", "gainOfTwo", "(IIIII)I"⟩, 10), (⟨"LostBets", "isRowSoInMind", "(I)Z"⟩, 10), (⟨"LostBets", "refusedLong", "(I)J"⟩, 10)]
theorem lw_r1 : ∀ q ∈ lw_privs_1, lw_okq q := List.forall_mem_cons.mpr ⟨lw_p0, List.forall_mem_cons.mpr ⟨lw_p1, List.forall_mem_cons.mpr ⟨lw_p2, List.forall_mem_cons.mpr ⟨lw_p3, List.forall_mem_cons.mpr ⟨lw_p4, List.forall_mem_cons.mpr ⟨lw_p5, List.forall_mem_cons.mpr ⟨lw_p6, List.forall_mem_cons.mpr ⟨lw_p7, List.forall_mem_cons.mpr ⟨lw_p8, List.forall_mem_cons.mpr ⟨lw_p9, List.forall_mem_cons.mpr ⟨lw_p10, List.forall_mem_cons.mpr ⟨lw_p11, List.forall_mem_cons.mpr ⟨lw_p12, List.forall_mem_cons.mpr ⟨lw_p13, List.forall_mem_cons.mpr ⟨lw_p14, List.forall_mem_cons.mpr ⟨lw_p15, fun _ h => absurd h List.not_mem_nil⟩⟩⟩⟩⟩⟩⟩⟩⟩⟩⟩⟩⟩⟩⟩⟩
theorem lw_p16 : lw_okq (⟨"LostBets", "whoHasMostTears", "()I"⟩, 10) := ⟨⟨by decide +kernel, by decide +kernel⟩, List.mem_of_getElem? (i := 19) (by decide +kernel), List.mem_of_getElem? (i := 803) (by decide +kernel), List.mem_of_getElem? (i := 804) (by decide +kernel)⟩
theorem lw_p17 : lw_okq (⟨"LostBets", "twosWhoWishEachOther", "(Z)I"⟩, 10) := ⟨⟨by decide +kernel, by decide +kernel⟩, List.mem_of_getElem? (i := 19) (by decide +kernel), List.mem_of_getElem? (i := 807) (by decide +kernel), List.mem_of_getElem? (i := 808) (by decide +kernel)⟩
theorem lw_p18 : lw_okq (⟨"LostBets", "daysOfLastWager", "()I"⟩, 10) := ⟨⟨by decide +kernel, by decide +kernel⟩, List.mem_of_getElem? (i := 19) (by decide +kernel), List.mem_of_getElem? (i := 827) (by decide +kernel), List.mem_of_getElem? (i := 828) (by decide +kernel)⟩
theorem lw_p19 : lw_okq (⟨"LostBets", "longestChasteRun", "()I"⟩, 10) := ⟨⟨by decide +kernel, by decide +kernel⟩, List.mem_of_getElem? (i := 19) (by decide +kernel), List.mem_of_getElem? (i := 832) (by decide +kernel), List.mem_of_getElem? (i := 833) (by decide +kernel)⟩
theorem lw_p20 : lw_okq (⟨"LostBets", "eventsToday", "()I"⟩, 10) := ⟨⟨by decide +kernel, by decide +kernel⟩, List.mem_of_getElem? (i := 19) (by decide +kernel), List.mem_of_getElem? (i := 836) (by decide +kernel), List.mem_of_getElem? (i := 837) (by decide +kernel)⟩
theorem lw_p21 : lw_okq (⟨"LostBets", "rivals", "()I"⟩, 10) := ⟨⟨by decide +kernel, by decide +kernel⟩, List.mem_of_getElem? (i := 19) (by decide +kernel), List.mem_of_getElem? (i := 840) (by decide +kernel), List.mem_of_getElem? (i := 841) (by decide +kernel)⟩
theorem lw_p22 : lw_okq (⟨"LostBetsModel", "refuse", "(I)I"⟩, 41) := ⟨⟨by decide +kernel, by decide +kernel⟩, List.mem_of_getElem? (i := 844) (by decide +kernel), List.mem_of_getElem? (i := 978) (by decide +kernel), List.mem_of_getElem? (i := 979) (by decide +kernel)⟩
theorem lw_p23 : lw_okq (⟨"LostBetsModel", "readStatement", "()V"⟩, 41) := ⟨⟨by decide +kernel, by decide +kernel⟩, List.mem_of_getElem? (i := 844) (by decide +kernel), List.mem_of_getElem? (i := 986) (by decide +kernel), List.mem_of_getElem? (i := 987) (by decide +kernel)⟩
theorem lw_p24 : lw_okq (⟨"LostBetsModel", "here", "()I"⟩, 41) := ⟨⟨by decide +kernel, by decide +kernel⟩, List.mem_of_getElem? (i := 844) (by decide +kernel), List.mem_of_getElem? (i := 990) (by decide +kernel), List.mem_of_getElem? (i := 991) (by decide +kernel)⟩
theorem lw_p25 : lw_okq (⟨"LostBetsModel", "readDigit", "()I"⟩, 41) := ⟨⟨by decide +kernel, by decide +kernel⟩, List.mem_of_getElem? (i := 844) (by decide +kernel), List.mem_of_getElem? (i := 997) (by decide +kernel), List.mem_of_getElem? (i := 998) (by decide +kernel)⟩
theorem lw_p26 : lw_okq (⟨"LostBetsModel", "think", "()V"⟩, 41) := ⟨⟨by decide +kernel, by decide +kernel⟩, List.mem_of_getElem? (i := 844) (by decide +kernel), List.mem_of_getElem? (i := 1006) (by decide +kernel), List.mem_of_getElem? (i := 1007) (by decide +kernel)⟩
theorem lw_p27 : lw_okq (⟨"LostBetsModel", "carryAll", "([IZ)V"⟩, 41) := ⟨⟨by decide +kernel, by decide +kernel⟩, List.mem_of_getElem? (i := 844) (by decide +kernel), List.mem_of_getElem? (i := 1010) (by decide +kernel), List.mem_of_getElem? (i := 1011) (by decide +kernel)⟩
theorem lw_p28 : lw_okq (⟨"LostBetsModel", "carry", "(I)I"⟩, 41) := ⟨⟨by decide +kernel, by decide +kernel⟩, List.mem_of_getElem? (i := 844) (by decide +kernel), List.mem_of_getElem? (i := 1014) (by decide +kernel), List.mem_of_getElem? (i := 1015) (by decide +kernel)⟩
theorem lw_p29 : lw_okq (⟨"LostBetsModel", "comesTold", "(I)Z"⟩, 41) := ⟨⟨by decide +kernel, by decide +kernel⟩, List.mem_of_getElem? (i := 844) (by decide +kernel), List.mem_of_getElem? (i := 1018) (by decide +kernel), List.mem_of_getElem? (i := 1019) (by decide +kernel)⟩
theorem lw_p30 : lw_okq (⟨"LostBetsModel", "personComes", "(II)Z"⟩, 41) := ⟨⟨by decide +kernel, by decide +kernel⟩, List.mem_of_getElem? (i := 844) (by decide +kernel), List.mem_of_getElem? (i := 1022) (by decide +kernel), List.mem_of_getElem? (i := 1023) (by decide +kernel)⟩
theorem lw_p31 : lw_okq (⟨"LostBetsModel", "isOne", "(I)Z"⟩, 41) := ⟨⟨by decide +kernel, by decide +kernel⟩, List.mem_of_getElem? (i := 844) (by decide +kernel), List.mem_of_getElem? (i := 1026) (by decide +kernel), List.mem_of_getElem? (i := 1027) (by decide +kernel)⟩
def lw_privs_2 : List (MethodName × Nat) := [(⟨"LostBets", "whoHasMostTears", "()I"⟩, 10), (⟨"LostBets", "twosWhoWishEachOther", "(Z)I"⟩, 10), (⟨"LostBets", "daysOfLastWager", "()I"⟩, 10), (⟨"LostBets", "longestChasteRun", "()I"⟩, 10), (⟨"LostBets", "eventsToday", "()I"⟩, 10), (⟨"LostBets", "rivals", "()I"⟩, 10), (⟨"LostBetsModel", "refuse", "(I)I"⟩, 41), (⟨"LostBetsModel", "readStatement", "()V"⟩, 41), (⟨"LostBetsModel", "here", "()I"⟩, 41), (⟨"LostBetsModel", "readDigit", "()I"⟩, 41), (⟨"LostBetsModel", "think", "()V"⟩, 41), (⟨"LostBetsModel", "carryAll", "([IZ)V"⟩, 41), (⟨"LostBetsModel", "carry", "(I)I"⟩, 41), (⟨"LostBetsModel", "comesTold", "(I)Z"⟩, 41), (⟨"LostBetsModel", "personComes", "(II)Z"⟩, 41), (⟨"LostBetsModel", "isOne", "(I)Z"⟩, 41)]
theorem lw_r2 : ∀ q ∈ lw_privs_2, lw_okq q := List.forall_mem_cons.mpr ⟨lw_p16, List.forall_mem_cons.mpr ⟨lw_p17, List.forall_mem_cons.mpr ⟨lw_p18, List.forall_mem_cons.mpr ⟨lw_p19, List.forall_mem_cons.mpr ⟨lw_p20, List.forall_mem_cons.mpr ⟨lw_p21, List.forall_mem_cons.mpr ⟨lw_p22, List.forall_mem_cons.mpr ⟨lw_p23, List.forall_mem_cons.mpr ⟨lw_p24, List.forall_mem_cons.mpr ⟨lw_p25, List.forall_mem_cons.mpr ⟨lw_p26, List.forall_mem_cons.mpr ⟨lw_p27, List.forall_mem_cons.mpr ⟨lw_p28, List.forall_mem_cons.mpr ⟨lw_p29, List.forall_mem_cons.mpr ⟨lw_p30, List.forall_mem_cons.mpr ⟨lw_p31, fun _ h => absurd h List.not_mem_nil⟩⟩⟩⟩⟩⟩⟩⟩⟩⟩⟩⟩⟩⟩⟩⟩
theorem lw_p32 : lw_okq (⟨"LostBetsModel", "wagerTold", "(IIIII)Z"⟩, 41) := ⟨⟨by decide +kernel, by decide +kernel⟩, List.mem_of_getElem? (i := 844) (by decide +kernel), List.mem_of_getElem? (i := 1035) (by decide +kernel), List.mem_of_getElem? (i := 1036) (by decide +kernel)⟩
theorem lw_p33 : lw_okq (⟨"LostBetsModel", "couldBe", "(IIII)Z"⟩, 41) := ⟨⟨by decide +kernel, by decide +kernel⟩, List.mem_of_getElem? (i := 844) (by decide +kernel), List.mem_of_getElem? (i := 1039) (by decide +kernel), List.mem_of_getElem? (i := 1040) (by decide +kernel)⟩
theorem lw_p34 : lw_okq (⟨"LostBetsModel", "isFree", "(I)Z"⟩, 41) := ⟨⟨by decide +kernel, by decide +kernel⟩, List.mem_of_getElem? (i := 844) (by decide +kernel), List.mem_of_getElem? (i := 1043) (by decide +kernel), List.mem_of_getElem? (i := 1044) (by decide +kernel)⟩
theorem lw_p35 : lw_okq (⟨"LostBetsModel", "trustOf", "(III)I"⟩, 41) := ⟨⟨by decide +kernel, by decide +kernel⟩, List.mem_of_getElem? (i := 844) (by decide +kernel), List.mem_of_getElem? (i := 1047) (by decide +kernel), List.mem_of_getElem? (i := 1048) (by decide +kernel)⟩
theorem lw_p36 : lw_okq (⟨"LostBetsModel", "isTaking", "(IIII)Z"⟩, 41) := ⟨⟨by decide +kernel, by decide +kernel⟩, List.mem_of_getElem? (i := 844) (by decide +kernel), List.mem_of_getElem? (i := 1051) (by decide +kernel), List.mem_of_getElem? (i := 1052) (by decide +kernel)⟩
theorem lw_p37 : lw_okq (⟨"LostBetsModel", "asksOf", "(I)I"⟩, 41) := ⟨⟨by decide +kernel, by decide +kernel⟩, List.mem_of_getElem? (i := 844) (by decide +kernel), List.mem_of_getElem? (i := 1055) (by decide +kernel), List.mem_of_getElem? (i := 1056) (by decide +kernel)⟩
theorem lw_p38 : lw_okq (⟨"LostBetsModel", "wager", "(IIIII)V"⟩, 41) := ⟨⟨by decide +kernel, by decide +kernel⟩, List.mem_of_getElem? (i := 844) (by decide +kernel), List.mem_of_getElem? (i := 1059) (by decide +kernel), List.mem_of_getElem? (i := 1060) (by decide +kernel)⟩
theorem lw_p39 : lw_okq (⟨"LostBetsModel", "goDays", "(I)V"⟩, 41) := ⟨⟨by decide +kernel, by decide +kernel⟩, List.mem_of_getElem? (i := 844) (by decide +kernel), List.mem_of_getElem? (i := 1064) (by decide +kernel), List.mem_of_getElem? (i := 1065) (by decide +kernel)⟩
theorem lw_p40 : lw_okq (⟨"LostBetsModel", "dayBy", "(Z)V"⟩, 41) := ⟨⟨by decide +kernel, by decide +kernel⟩, List.mem_of_getElem? (i := 844) (by decide +kernel), List.mem_of_getElem? (i := 1068) (by decide +kernel), List.mem_of_getElem? (i := 1069) (by decide +kernel)⟩
theorem lw_p41 : lw_okq (⟨"LostBetsModel", "isOn", "(II)Z"⟩, 41) := ⟨⟨by decide +kernel, by decide +kernel⟩, List.mem_of_getElem? (i := 844) (by decide +kernel), List.mem_of_getElem? (i := 1072) (by decide +kernel), List.mem_of_getElem? (i := 1073) (by decide +kernel)⟩
theorem lw_p42 : lw_okq (⟨"LostBetsModel", "wed", "(II)V"⟩, 41) := ⟨⟨by decide +kernel, by decide +kernel⟩, List.mem_of_getElem? (i := 844) (by decide +kernel), List.mem_of_getElem? (i := 1076) (by decide +kernel), List.mem_of_getElem? (i := 1077) (by decide +kernel)⟩
theorem lw_p43 : lw_okq (⟨"LostBetsModel", "weepsOf", "(I)I"⟩, 41) := ⟨⟨by decide +kernel, by decide +kernel⟩, List.mem_of_getElem? (i := 844) (by decide +kernel), List.mem_of_getElem? (i := 1080) (by decide +kernel), List.mem_of_getElem? (i := 1081) (by decide +kernel)⟩
theorem lw_p44 : lw_okq (⟨"LostBetsModel", "dropWager", "(I)V"⟩, 41) := ⟨⟨by decide +kernel, by decide +kernel⟩, List.mem_of_getElem? (i := 844) (by decide +kernel), List.mem_of_getElem? (i := 1087) (by decide +kernel), List.mem_of_getElem? (i := 1088) (by decide +kernel)⟩
theorem lw_p45 : lw_okq (⟨"LostBetsModel", "learnsOf", "(I)I"⟩, 41) := ⟨⟨by decide +kernel, by decide +kernel⟩, List.mem_of_getElem? (i := 844) (by decide +kernel), List.mem_of_getElem? (i := 1091) (by decide +kernel), List.mem_of_getElem? (i := 1092) (by decide +kernel)⟩
theorem lw_p46 : lw_okq (⟨"LostBetsModel", "again", "()V"⟩, 41) := ⟨⟨by decide +kernel, by decide +kernel⟩, List.mem_of_getElem? (i := 844) (by decide +kernel), List.mem_of_getElem? (i := 1095) (by decide +kernel), List.mem_of_getElem? (i := 1096) (by decide +kernel)⟩
theorem lw_p47 : lw_okq (⟨"LostBetsModel", "keepTurn", "()V"⟩, 41) := ⟨⟨by decide +kernel, by decide +kernel⟩, List.mem_of_getElem? (i := 844) (by decide +kernel), List.mem_of_getElem? (i := 1146) (by decide +kernel), List.mem_of_getElem? (i := 1147) (by decide +kernel)⟩
def lw_privs_3 : List (MethodName × Nat) := [(⟨"LostBetsModel", "wagerTold", "(IIIII)Z"⟩, 41), (⟨"LostBetsModel", "couldBe", "(IIII)Z"⟩, 41), (⟨"LostBetsModel", "isFree", "(I)Z"⟩, 41), (⟨"LostBetsModel", "trustOf", "(III)I"⟩, 41), (⟨"LostBetsModel", "isTaking", "(IIII)Z"⟩, 41), (⟨"LostBetsModel", "asksOf", "(I)I"⟩, 41), (⟨"LostBetsModel", "wager", "(IIIII)V"⟩, 41), (⟨"LostBetsModel", "goDays", "(I)V"⟩, 41), (⟨"LostBetsModel", "dayBy", "(Z)V"⟩, 41), (⟨"LostBetsModel", "isOn", "(II)Z"⟩, 41), (⟨"LostBetsModel", "wed", "(II)V"⟩, 41), (⟨"LostBetsModel", "weepsOf", "(I)I"⟩, 41), (⟨"LostBetsModel", "dropWager", "(I)V"⟩, 41), (⟨"LostBetsModel", "learnsOf", "(I)I"⟩, 41), (⟨"LostBetsModel", "again", "()V"⟩, 41), (⟨"LostBetsModel", "keepTurn", "()V"⟩, 41)]
theorem lw_r3 : ∀ q ∈ lw_privs_3, lw_okq q := List.forall_mem_cons.mpr ⟨lw_p32, List.forall_mem_cons.mpr ⟨lw_p33, List.forall_mem_cons.mpr ⟨lw_p34, List.forall_mem_cons.mpr ⟨lw_p35, List.forall_mem_cons.mpr ⟨lw_p36, List.forall_mem_cons.mpr ⟨lw_p37, List.forall_mem_cons.mpr ⟨lw_p38, List.forall_mem_cons.mpr ⟨lw_p39, List.forall_mem_cons.mpr ⟨lw_p40, List.forall_mem_cons.mpr ⟨lw_p41, List.forall_mem_cons.mpr ⟨lw_p42, List.forall_mem_cons.mpr ⟨lw_p43, List.forall_mem_cons.mpr ⟨lw_p44, List.forall_mem_cons.mpr ⟨lw_p45, List.forall_mem_cons.mpr ⟨lw_p46, List.forall_mem_cons.mpr ⟨lw_p47, fun _ h => absurd h List.not_mem_nil⟩⟩⟩⟩⟩⟩⟩⟩⟩⟩⟩⟩⟩⟩⟩⟩
theorem lw_p48 : lw_okq (⟨"LostBetsModel", "isTwo", "(II)Z"⟩, 41) := ⟨⟨by decide +kernel, by decide +kernel⟩, List.mem_of_getElem? (i := 844) (by decide +kernel), List.mem_of_getElem? (i := 1158) (by decide +kernel), List.mem_of_getElem? (i := 1159) (by decide +kernel)⟩
theorem lw_p49 : lw_okq (⟨"LostBetsModel", "wedBits", "()I"⟩, 41) := ⟨⟨by decide +kernel, by decide +kernel⟩, List.mem_of_getElem? (i := 844) (by decide +kernel), List.mem_of_getElem? (i := 1169) (by decide +kernel), List.mem_of_getElem? (i := 1170) (by decide +kernel)⟩
theorem lw_p50 : lw_okq (⟨"LostBetsModel", "beliefThen", "(III)I"⟩, 41) := ⟨⟨by decide +kernel, by decide +kernel⟩, List.mem_of_getElem? (i := 844) (by decide +kernel), List.mem_of_getElem? (i := 1184) (by decide +kernel), List.mem_of_getElem? (i := 1185) (by decide +kernel)⟩
theorem lw_p51 : lw_okq (⟨"LostBetsModel", "wedThen", "(I)I"⟩, 41) := ⟨⟨by decide +kernel, by decide +kernel⟩, List.mem_of_getElem? (i := 844) (by decide +kernel), List.mem_of_getElem? (i := 1192) (by decide +kernel), List.mem_of_getElem? (i := 1193) (by decide +kernel)⟩
theorem lw_p52 : lw_okq (⟨"LostBetsModel", "wedSoon", "(I)I"⟩, 41) := ⟨⟨by decide +kernel, by decide +kernel⟩, List.mem_of_getElem? (i := 844) (by decide +kernel), List.mem_of_getElem? (i := 1201) (by decide +kernel), List.mem_of_getElem? (i := 1202) (by decide +kernel)⟩
theorem lw_p53 : lw_okq (⟨"LostBetsModel", "betOf", "(II)I"⟩, 41) := ⟨⟨by decide +kernel, by decide +kernel⟩, List.mem_of_getElem? (i := 844) (by decide +kernel), List.mem_of_getElem? (i := 1213) (by decide +kernel), List.mem_of_getElem? (i := 1214) (by decide +kernel)⟩
theorem lw_p54 : lw_okq (⟨"LostBetsModel", "isLost", "(III)Z"⟩, 41) := ⟨⟨by decide +kernel, by decide +kernel⟩, List.mem_of_getElem? (i := 844) (by decide +kernel), List.mem_of_getElem? (i := 1217) (by decide +kernel), List.mem_of_getElem? (i := 1218) (by decide +kernel)⟩
theorem lw_p55 : lw_okq (⟨"LostBetsModel", "wooersOf", "(I)I"⟩, 41) := ⟨⟨by decide +kernel, by decide +kernel⟩, List.mem_of_getElem? (i := 844) (by decide +kernel), List.mem_of_getElem? (i := 1229) (by decide +kernel), List.mem_of_getElem? (i := 1230) (by decide +kernel)⟩
theorem lw_p56 : lw_okq (⟨"LostBetsModel", "layMatch", "()V"⟩, 41) := ⟨⟨by decide +kernel, by decide +kernel⟩, List.mem_of_getElem? (i := 844) (by decide +kernel), List.mem_of_getElem? (i := 1237) (by decide +kernel), List.mem_of_getElem? (i := 1238) (by decide +kernel)⟩
theorem lw_p57 : lw_okq (⟨"LostBetsModel", "isPair", "(II)Z"⟩, 41) := ⟨⟨by decide +kernel, by decide +kernel⟩, List.mem_of_getElem? (i := 844) (by decide +kernel), List.mem_of_getElem? (i := 1244) (by decide +kernel), List.mem_of_getElem? (i := 1245) (by decide +kernel)⟩
theorem lw_p58 : lw_okq (⟨"LostBetsModel", "partnerOf", "(II)I"⟩, 41) := ⟨⟨by decide +kernel, by decide +kernel⟩, List.mem_of_getElem? (i := 844) (by decide +kernel), List.mem_of_getElem? (i := 1248) (by decide +kernel), List.mem_of_getElem? (i := 1249) (by decide +kernel)⟩
theorem lw_p59 : lw_okq (⟨"LostBetsModel", "tearsWithout", "(II)I"⟩, 41) := ⟨⟨by decide +kernel, by decide +kernel⟩, List.mem_of_getElem? (i := 844) (by decide +kernel), List.mem_of_getElem? (i := 1268) (by decide +kernel), List.mem_of_getElem? (i := 1269) (by decide +kernel)⟩
theorem lw_p60 : lw_okq (⟨"LostBetsModel", "allTears", "()I"⟩, 41) := ⟨⟨by decide +kernel, by decide +kernel⟩, List.mem_of_getElem? (i := 844) (by decide +kernel), List.mem_of_getElem? (i := 1272) (by decide +kernel), List.mem_of_getElem? (i := 1273) (by decide +kernel)⟩
theorem lw_p61 : lw_okq (⟨"LostBetsModel", "wagerWith", "(I)I"⟩, 41) := ⟨⟨by decide +kernel, by decide +kernel⟩, List.mem_of_getElem? (i := 844) (by decide +kernel), List.mem_of_getElem? (i := 1280) (by decide +kernel), List.mem_of_getElem? (i := 1281) (by decide +kernel)⟩
theorem lw_p62 : lw_okq (⟨"LostBetsModel", "isRow", "(I)Z"⟩, 41) := ⟨⟨by decide +kernel, by decide +kernel⟩, List.mem_of_getElem? (i := 844) (by decide +kernel), List.mem_of_getElem? (i := 1284) (by decide +kernel), List.mem_of_getElem? (i := 1285) (by decide +kernel)⟩
theorem lw_p63 : lw_okq (⟨"LostBetsModel", "saddestOne", "()I"⟩, 41) := ⟨⟨by decide +kernel, by decide +kernel⟩, List.mem_of_getElem? (i := 844) (by decide +kernel), List.mem_of_getElem? (i := 1315) (by decide +kernel), List.mem_of_getElem? (i := 1316) (by decide +kernel)⟩
def lw_privs_4 : List (MethodName × Nat) := [(⟨"LostBetsModel", "isTwo", "(II)Z"⟩, 41), (⟨"LostBetsModel", "wedBits", "()I"⟩, 41), (⟨"LostBetsModel", "beliefThen", "(III)I"⟩, 41), (⟨"LostBetsModel", "wedThen", "(I)I"⟩, 41), (⟨"LostBetsModel", "wedSoon", "(I)I"⟩, 41), (⟨"LostBetsModel", "betOf", "(II)I"⟩, 41), (⟨"LostBetsModel", "isLost", "(III)Z"⟩, 41), (⟨"LostBetsModel", "wooersOf", "(I)I"⟩, 41), (⟨"LostBetsModel", "layMatch", "()V"⟩, 41), (⟨"LostBetsModel", "isPair", "(II)Z"⟩, 41), (⟨"LostBetsModel", "partnerOf", "(II)I"⟩, 41), (⟨"LostBetsModel", "tearsWithout", "(II)I"⟩, 41), (⟨"LostBetsModel", "allTears", "()I"⟩, 41), (⟨"LostBetsModel", "wagerWith", "(I)I"⟩, 41), (⟨"LostBetsModel", "isRow", "(I)Z"⟩, 41), (⟨"LostBetsModel", "saddestOne", "()I"⟩, 41)]
theorem lw_r4 : ∀ q ∈ lw_privs_4, lw_okq q := List.forall_mem_cons.mpr ⟨lw_p48, List.forall_mem_cons.mpr ⟨lw_p49, List.forall_mem_cons.mpr ⟨lw_p50, List.forall_mem_cons.mpr ⟨lw_p51, List.forall_mem_cons.mpr ⟨lw_p52, List.forall_mem_cons.mpr ⟨lw_p53, List.forall_mem_cons.mpr ⟨lw_p54, List.forall_mem_cons.mpr ⟨lw_p55, List.forall_mem_cons.mpr ⟨lw_p56, List.forall_mem_cons.mpr ⟨lw_p57, List.forall_mem_cons.mpr ⟨lw_p58, List.forall_mem_cons.mpr ⟨lw_p59, List.forall_mem_cons.mpr ⟨lw_p60, List.forall_mem_cons.mpr ⟨lw_p61, List.forall_mem_cons.mpr ⟨lw_p62, List.forall_mem_cons.mpr ⟨lw_p63, fun _ h => absurd h List.not_mem_nil⟩⟩⟩⟩⟩⟩⟩⟩⟩⟩⟩⟩⟩⟩⟩⟩
theorem lw_p64 : lw_okq (⟨"LostBetsModel", "twosOf", "(I)I"⟩, 41) := ⟨⟨by decide +kernel, by decide +kernel⟩, List.mem_of_getElem? (i := 844) (by decide +kernel), List.mem_of_getElem? (i := 1319) (by decide +kernel), List.mem_of_getElem? (i := 1320) (by decide +kernel)⟩
theorem lw_p65 : lw_okq (⟨"LostBetsModel", "isMutual", "(II)Z"⟩, 41) := ⟨⟨by decide +kernel, by decide +kernel⟩, List.mem_of_getElem? (i := 844) (by decide +kernel), List.mem_of_getElem? (i := 1323) (by decide +kernel), List.mem_of_getElem? (i := 1324) (by decide +kernel)⟩
theorem lw_p66 : lw_okq (⟨"LostBetsModel", "freeBits", "()I"⟩, 41) := ⟨⟨by decide +kernel, by decide +kernel⟩, List.mem_of_getElem? (i := 844) (by decide +kernel), List.mem_of_getElem? (i := 1327) (by decide +kernel), List.mem_of_getElem? (i := 1328) (by decide +kernel)⟩
theorem lw_p67 : lw_okq (⟨"LostBetsModel", "lastDays", "()I"⟩, 41) := ⟨⟨by decide +kernel, by decide +kernel⟩, List.mem_of_getElem? (i := 844) (by decide +kernel), List.mem_of_getElem? (i := 1347) (by decide +kernel), List.mem_of_getElem? (i := 1348) (by decide +kernel)⟩
theorem lw_p68 : lw_okq (⟨"LostBetsModel", "chasteRun", "()I"⟩, 41) := ⟨⟨by decide +kernel, by decide +kernel⟩, List.mem_of_getElem? (i := 844) (by decide +kernel), List.mem_of_getElem? (i := 1351) (by decide +kernel), List.mem_of_getElem? (i := 1352) (by decide +kernel)⟩
theorem lw_p69 : lw_okq (⟨"LostBetsModel", "oddBits", "()I"⟩, 41) := ⟨⟨by decide +kernel, by decide +kernel⟩, List.mem_of_getElem? (i := 844) (by decide +kernel), List.mem_of_getElem? (i := 1355) (by decide +kernel), List.mem_of_getElem? (i := 1356) (by decide +kernel)⟩
theorem lw_p70 : lw_okq (⟨"LostBetsModel", "drawBelow", "(I)I"⟩, 41) := ⟨⟨by decide +kernel, by decide +kernel⟩, List.mem_of_getElem? (i := 844) (by decide +kernel), List.mem_of_getElem? (i := 1380) (by decide +kernel), List.mem_of_getElem? (i := 1381) (by decide +kernel)⟩
def lw_privs_5 : List (MethodName × Nat) := [(⟨"LostBetsModel", "twosOf", "(I)I"⟩, 41), (⟨"LostBetsModel", "isMutual", "(II)Z"⟩, 41), (⟨"LostBetsModel", "freeBits", "()I"⟩, 41), (⟨"LostBetsModel", "lastDays", "()I"⟩, 41), (⟨"LostBetsModel", "chasteRun", "()I"⟩, 41), (⟨"LostBetsModel", "oddBits", "()I"⟩, 41), (⟨"LostBetsModel", "drawBelow", "(I)I"⟩, 41)]
theorem lw_r5 : ∀ q ∈ lw_privs_5, lw_okq q := List.forall_mem_cons.mpr ⟨lw_p64, List.forall_mem_cons.mpr ⟨lw_p65, List.forall_mem_cons.mpr ⟨lw_p66, List.forall_mem_cons.mpr ⟨lw_p67, List.forall_mem_cons.mpr ⟨lw_p68, List.forall_mem_cons.mpr ⟨lw_p69, List.forall_mem_cons.mpr ⟨lw_p70, fun _ h => absurd h List.not_mem_nil⟩⟩⟩⟩⟩⟩⟩
def lw_privs : List (MethodName × Nat) := lw_privs_1 ++ (lw_privs_2 ++ (lw_privs_3 ++ (lw_privs_4 ++ (lw_privs_5))))
def lw_tbl : List Cond := k2_sels lw_privs ++ tables_1
theorem lw_privs_ok : ∀ q ∈ lw_privs, lw_okq q := by
  show ∀ q ∈ lw_privs_1 ++ (lw_privs_2 ++ (lw_privs_3 ++ (lw_privs_4 ++ (lw_privs_5)))), lw_okq q
  exact List.forall_mem_append.mpr ⟨lw_r1, List.forall_mem_append.mpr ⟨lw_r2, List.forall_mem_append.mpr ⟨lw_r3, List.forall_mem_append.mpr ⟨lw_r4, lw_r5⟩⟩⟩⟩
end
section
/-! the system's classes, their fields in the order of the slots; the classes of its arrays -/
def zz_host : String := "LostBets"
def zF_0 : u_T := fun k => match k with
  | 0 => ("LostBets", "now", "LLostBets$Town;", true)
  | 1 => ("LostBets", "mind", "LLostBets$Town;", true)
  | 2 => ("LostBets", "pictured", "LLostBets$Town;", true)
  | 3 => ("LostBets", "isPictured", "Z", false)
  | 4 => ("LostBets", "past", "LLostBets$Past;", true)
  | 5 => ("LostBets", "letters", "LLostBets$Letters;", true)
  | 6 => ("LostBets", "twos", "LLostBets$Twos;", true)
  | 7 => ("LostBets", "told", "[I", true)
  | 8 => ("LostBets", "inRow", "I", false)
  | _ => ("LostBets", "refusals", "[I", true)
def zF_1 : u_T := fun k => match k with
  | _ => ("", "", "", false)
def zF_2 : u_T := fun k => match k with
  | _ => ("", "", "", false)
def zF_3 : u_T := fun k => match k with
  | _ => ("", "", "", false)
def zF_4 : u_T := fun k => match k with
  | _ => ("", "", "", false)
def zF_5 : u_T := fun k => match k with
  | _ => ("", "", "", false)
def zF_6 : u_T := fun k => match k with
  | _ => ("", "", "", false)
def zF_7 : u_T := fun k => match k with
  | 0 => ("LostBets$Town", "kinds", "[LLostBets$Suitor;", true)
  | 1 => ("LostBets$Town", "people", "I", false)
  | 2 => ("LostBets$Town", "kind", "[I", true)
  | 3 => ("LostBets$Town", "figure", "[I", true)
  | 4 => ("LostBets$Town", "asks", "[I", true)
  | 5 => ("LostBets$Town", "weeps", "[I", true)
  | 6 => ("LostBets$Town", "learns", "[I", true)
  | 7 => ("LostBets$Town", "wish", "[I", true)
  | 8 => ("LostBets$Town", "tears", "[I", true)
  | 9 => ("LostBets$Town", "wed", "[I", true)
  | 10 => ("LostBets$Town", "beliefs", "[[I", true)
  | 11 => ("LostBets$Town", "every", "[I", true)
  | 12 => ("LostBets$Town", "on", "[I", true)
  | 13 => ("LostBets$Town", "wagers", "[LLostBets$Wager;", true)
  | 14 => ("LostBets$Town", "open", "I", false)
  | _ => ("LostBets$Town", "day", "I", false)
def zF_8 : u_T := fun k => match k with
  | 0 => ("LostBets$Wager", "one", "I", false)
  | 1 => ("LostBets$Wager", "other", "I", false)
  | 2 => ("LostBets$Wager", "event", "I", false)
  | 3 => ("LostBets$Wager", "side", "I", false)
  | _ => ("LostBets$Wager", "wait", "I", false)
def zF_9 : u_T := fun k => match k with
  | 0 => ("LostBets$Past", "kept", "[LLostBets$Town;", true)
  | 1 => ("LostBets$Past", "last", "I", false)
  | _ => ("LostBets$Past", "size", "I", false)
def zF_10 : u_T := fun k => match k with
  | 0 => ("LostBets$Letters", "text", "[I", true)
  | _ => ("LostBets$Letters", "size", "I", false)
def zF_11 : u_T := fun k => match k with
  | 0 => ("LostBets$Twos", "near", "[I", true)
  | 1 => ("LostBets$Twos", "mostAmong", "[I", true)
  | _ => ("LostBets$Twos", "all", "I", false)
def zF_12 : u_T := fun k => match k with
  | 0 => ("LostBetsModel", "many", "I", false)
  | 1 => ("LostBetsModel", "kinds", "[I", true)
  | 2 => ("LostBetsModel", "figures", "[I", true)
  | 3 => ("LostBetsModel", "wish", "[I", true)
  | 4 => ("LostBetsModel", "tears", "[I", true)
  | 5 => ("LostBetsModel", "wedTo", "[I", true)
  | 6 => ("LostBetsModel", "beliefs", "[I", true)
  | 7 => ("LostBetsModel", "every0", "[I", true)
  | 8 => ("LostBetsModel", "on0", "[I", true)
  | 9 => ("LostBetsModel", "open", "I", false)
  | 10 => ("LostBetsModel", "byWhom", "[I", true)
  | 11 => ("LostBetsModel", "toWhom", "[I", true)
  | 12 => ("LostBetsModel", "eventIn", "[I", true)
  | 13 => ("LostBetsModel", "sideIn", "[I", true)
  | 14 => ("LostBetsModel", "daysIn", "[I", true)
  | 15 => ("LostBetsModel", "today", "I", false)
  | 16 => ("LostBetsModel", "thrown", "I", false)
  | 17 => ("LostBetsModel", "refusals", "[I", true)
  | 18 => ("LostBetsModel", "letters", "[I", true)
  | 19 => ("LostBetsModel", "letterMany", "I", false)
  | 20 => ("LostBetsModel", "at0", "I", false)
  | 21 => ("LostBetsModel", "isBad", "Z", false)
  | 22 => ("LostBetsModel", "statements", "I", false)
  | 23 => ("LostBetsModel", "placeIn", "[I", true)
  | 24 => ("LostBetsModel", "letterOf", "[I", true)
  | 25 => ("LostBetsModel", "numbers", "[I", true)
  | 26 => ("LostBetsModel", "kept", "[I", true)
  | 27 => ("LostBetsModel", "imaged", "[I", true)
  | 28 => ("LostBetsModel", "hasImage", "Z", false)
  | 29 => ("LostBetsModel", "place0", "I", false)
  | 30 => ("LostBetsModel", "isKeeping", "Z", false)
  | 31 => ("LostBetsModel", "keptIn", "[I", false)
  | 32 => ("LostBetsModel", "turns0", "[I", true)
  | 33 => ("LostBetsModel", "turnOf", "[I", true)
  | 34 => ("LostBetsModel", "turned", "I", false)
  | 35 => ("LostBetsModel", "mostBy", "[I", true)
  | 36 => ("LostBetsModel", "wooing", "[I", true)
  | 37 => ("LostBetsModel", "row", "[I", true)
  | 38 => ("LostBetsModel", "rowMany", "I", false)
  | 39 => ("LostBetsModel", "gains", "[I", true)
  | _ => ("LostBetsModel", "seed", "I", false)
abbrev classes : List vw_C := [("LostBets", zF_0, 10), ("LostBets$Suitor", zF_1, 0), ("LostBets$Aunt", zF_2, 0), ("LostBets$Girl", zF_3, 0), ("LostBets$Gambler", zF_4, 0), ("LostBets$Rich", zF_5, 0), ("LostBets$Honest", zF_6, 0), ("LostBets$Town", zF_7, 16), ("LostBets$Wager", zF_8, 5), ("LostBets$Past", zF_9, 3), ("LostBets$Letters", zF_10, 2), ("LostBets$Twos", zF_11, 3), ("LostBetsModel", zF_12, 41)]
def zz_ty : List FieldType := [.int, .object "LostBets$Suitor", .array .int, .object "LostBets$Wager", .object "LostBets$Town"]
theorem zz_ty0 : zz_ty[0]? = some .int := rfl
end
section
/-! THE PURE MACHINE: the system's cells as a list, by their numbers; one step of a frame as a function; a walk of the real machine follows it -/
-- a cell: an int array; an array of references (the number of its class in zz_ty); an object (the number of its class in 'classes', its fields). Reference i is cell i
abbrev zz_C : Type := List Int32 ⊕ ((Nat × List (Option Nat)) ⊕ (Nat × List Value))
-- the cells, 'none' for one that isn't spoken of; place 0 is kept for the law's script and is always 'none'
abbrev zz_W : Type := List (Option zz_C)
-- the address before the first cell; the script's address; the classes of the arrays; the classes of the objects and their slots
abbrev zz_G : Type := Nat × Nat × (Nat → ClassId) × va_G
def zz_ad (g : zz_G) (i : Nat) : Nat := if i = 0 then g.2.1 else g.1 + i
def zz_tr (g : zz_G) : Value → Value
  | .ref i => .ref (zz_ad g i)
  | v => v
def zz_at (g : zz_G) (i : Nat) (c : zz_C) (H : Heap) : Prop := match c with
  | .inl xs => H[zz_ad g i]? = some (arrV (g.2.2.1 0) xs.length (fun j => .int (xs.getD j 0)))
  | .inr (.inl (t, rs)) => H[zz_ad g i]? = some (arrV (g.2.2.1 t) rs.length (fun j => zz_tr g (va_rf (rs.getD j none))))
  | .inr (.inr (ci, fs)) => ∃ r : vw_C, classes[ci]? = some r ∧ t_OB (zz_ad g i) (g.2.2.2.1 ci) r.2.2 (g.2.2.2.2 ci) H (vp_V (fs.map (zz_tr g)))
def zz_K (g : zz_G) (U : State) : Prop := (∀ (c : Nat) (q : vw_C), classes[c]? = some q → u_Kn U q.1 q.2.1 q.2.2 (g.2.2.2.1 c) (g.2.2.2.2 c)) ∧ ∀ (t : Nat) (ty : FieldType), zz_ty[t]? = some ty → ArrOfT U (g.2.2.1 t) ty ∧ va_RA U (g.2.2.1 t) ty
def zz_P (g : zz_G) (cs : zz_W) (H : Heap) : Prop := H.size = g.1 + cs.length ∧ ∀ (i : Nat) (c : zz_C), cs[i]? = some (some c) → 0 < i ∧ zz_at g i c H
def zz_R (g : zz_G) (s : State) (cs : zz_W) (H : Heap) (locs : List Loc) : Prop := zz_P g cs H ∧ s.heap.size ≤ H.size ∧ (∀ q : Nat, q ≤ g.1 → H[q]? = s.heap[q]?) ∧ ∀ q ∈ locs, g.1 < q.base
def zz_as (g : zz_G) (L : List (Option Value)) : List (Nat × Value) := (List.range L.length).filterMap (fun i => match L[i]? with | some (some v) => some (i, zz_tr g v) | _ => none)
theorem zz_as_mem {g : zz_G} {L : List (Option Value)} {i : Nat} {v : Value} (h : L[i]? = some (some v)) : (i, zz_tr g v) ∈ zz_as g L := by
  have hl : i < L.length := (List.getElem?_eq_some_iff.mp h).1
  exact List.mem_filterMap.mpr ⟨i, List.mem_range.mpr hl, by simp only [h]⟩
theorem zz_as_of {g : zz_G} {L : List (Option Value)} {q : Nat × Value} (h : q ∈ zz_as g L) : ∃ v, L[q.1]? = some (some v) ∧ q.2 = zz_tr g v := by
  obtain ⟨i, -, hi⟩ := List.mem_filterMap.mp h
  split at hi
  · rename_i v hv
    cases hi
    exact ⟨v, hv, rfl⟩
  · cases hi
theorem zz_tr_cat (g : zz_G) (v : Value) : (zz_tr g v).category = v.category := by cases v <;> rfl
theorem zz_lv {g : zz_G} {ls : Array Slot} {nL i : Nat} {L : List (Option Value)} {v : Value} (h : lv_has ls nL (zz_as g L)) (hv : L[i]? = some (some v)) : ls[i]? = some (.val (zz_tr g v)) := h.2.2 _ (zz_as_mem hv)
def zz_ld (L : List (Option Value)) (i : Nat) : Option Value := match L[i]? with
  | some (some v) => some v
  | _ => none
theorem zz_ld_eq {L : List (Option Value)} {i : Nat} {v : Value} (h : zz_ld L i = some v) : L[i]? = some (some v) := by
  unfold zz_ld at h
  split at h
  · rename_i w hw
    cases h
    exact hw
  · cases h
/-- a store clears a long or double that lay one place before -/
def zz_cl (L : List (Option Value)) (i : Nat) : List (Option Value) := match i with
  | 0 => L
  | j + 1 => match zz_ld L j with
    | some w => if w.category = 2 then L.set j none else L
    | none => L
def zz_sv (L : List (Option Value)) (i : Nat) (v : Value) : List (Option Value) := if v.category = 2 then ((zz_cl L i).set i (some v)).set (i + 1) none else (zz_cl L i).set i (some v)
theorem zz_cl_keep {L : List (Option Value)} {i j : Nat} {w : Value} (h : (zz_cl L i)[j]? = some (some w)) : L[j]? = some (some w) ∧ ¬ (j + 1 = i ∧ w.category = 2) := by
  unfold zz_cl at h
  split at h
  · exact ⟨h, fun q => by omega⟩
  · rename_i i k
    split at h
    · rename_i u hu
      split at h
      · rename_i hc
        by_cases hjk : j = k
        · subst hjk
          have hl : j < L.length := (List.getElem?_eq_some_iff.mp (zz_ld_eq hu)).1
          rw [List.getElem?_set_self hl] at h
          cases h
        · rw [List.getElem?_set_ne (Ne.symm hjk)] at h
          exact ⟨h, fun q => hjk (by omega)⟩
      · rename_i hc
        refine ⟨h, fun q => ?_⟩
        have hjk : j = k := by omega
        subst hjk
        have := (zz_ld_eq hu).symm.trans h
        cases this
        exact hc q.2
    · rename_i hn
      refine ⟨h, fun q => ?_⟩
      have hjk : j = k := by omega
      subst hjk
      have : zz_ld L j = some w := by unfold zz_ld; rw [h]
      rw [this] at hn
      cases hn
theorem zz_cl_len (L : List (Option Value)) (i : Nat) : (zz_cl L i).length = L.length := by
  unfold zz_cl
  split
  · rfl
  · split
    · split
      · simp
      · rfl
    · rfl
theorem zz_sv1 {g : zz_G} {ls' : Array Slot} {nL i : Nat} {L : List (Option Value)} {v : Value} (hc : v.category = 1) (h : lv_has ls' nL ((i, zz_tr g v) :: (zz_as g L).filter (fun q => !(q.1 == i) && !(q.1 + 1 == i && q.2.category == 2)))) : lv_has ls' nL (zz_as g (zz_sv L i v)) := by
  refine ⟨h.1, h.2.1, fun q hq => ?_⟩
  obtain ⟨w, hw, he⟩ := zz_as_of hq
  refine h.2.2 q ?_
  unfold zz_sv at hw
  rw [if_neg (by omega)] at hw
  by_cases hqi : q.1 = i
  · have hl : i < (zz_cl L i).length := by
      have := (List.getElem?_eq_some_iff.mp hw).1
      rw [List.length_set] at this
      omega
    rw [hqi, List.getElem?_set_self hl] at hw
    cases hw
    have : q = (i, zz_tr g v) := by rw [← hqi, ← he]
    rw [this]
    exact List.mem_cons_self
  · rw [List.getElem?_set_ne (Ne.symm hqi)] at hw
    obtain ⟨h1, h2⟩ := zz_cl_keep hw
    refine List.mem_cons_of_mem _ (List.mem_filter.mpr ⟨?_, ?_⟩)
    · have := zz_as_mem (g := g) h1
      rw [← he] at this
      exact this
    · rw [he, zz_tr_cat]
      simp only [Bool.and_eq_true, Bool.not_eq_true', beq_eq_false_iff_ne, ne_eq, Bool.and_eq_false_imp, beq_iff_eq]
      exact ⟨hqi, fun a b => h2 ⟨a, b⟩⟩
theorem zz_sv2 {g : zz_G} {ls' : Array Slot} {nL i : Nat} {L : List (Option Value)} {v : Value} (hc : v.category = 2) (h : lv_has ls' nL ((i, zz_tr g v) :: (zz_as g L).filter (fun q => !(q.1 == i) && (!(q.1 == i + 1) && !(q.1 + 1 == i && q.2.category == 2))))) : lv_has ls' nL (zz_as g (zz_sv L i v)) := by
  refine ⟨h.1, h.2.1, fun q hq => ?_⟩
  obtain ⟨w, hw, he⟩ := zz_as_of hq
  refine h.2.2 q ?_
  unfold zz_sv at hw
  rw [if_pos hc] at hw
  by_cases hq1 : q.1 = i + 1
  · have hl : i + 1 < ((zz_cl L i).set i (some v)).length := by
      have := (List.getElem?_eq_some_iff.mp hw).1
      rw [List.length_set] at this
      omega
    rw [hq1, List.getElem?_set_self hl] at hw
    cases hw
  rw [List.getElem?_set_ne (Ne.symm hq1)] at hw
  by_cases hqi : q.1 = i
  · have hl : i < (zz_cl L i).length := by
      have := (List.getElem?_eq_some_iff.mp hw).1
      rw [List.length_set] at this
      omega
    rw [hqi, List.getElem?_set_self hl] at hw
    cases hw
    have : q = (i, zz_tr g v) := by rw [← hqi, ← he]
    rw [this]
    exact List.mem_cons_self
  · rw [List.getElem?_set_ne (Ne.symm hqi)] at hw
    obtain ⟨h1, h2⟩ := zz_cl_keep hw
    refine List.mem_cons_of_mem _ (List.mem_filter.mpr ⟨?_, ?_⟩)
    · have := zz_as_mem (g := g) h1
      rw [← he] at this
      exact this
    · rw [he, zz_tr_cat]
      simp only [Bool.and_eq_true, Bool.not_eq_true', beq_eq_false_iff_ne, ne_eq, Bool.and_eq_false_imp, beq_iff_eq]
      exact ⟨hqi, hq1, fun a b => h2 ⟨a, b⟩⟩
end
section
/-! one step of the pure machine, without cells: constants, locals, the stack, arithmetic, branches -/
def zz_len : Instr → Nat
  | .bipush _ => 2
  | .iload _ => 2
  | .istore _ => 2
  | .aload _ => 2
  | .astore _ => 2
  | .lload _ => 2
  | .lstore _ => 2
  | .ldc _ => 2
  | .newarray _ => 2
  | .sipush _ => 3
  | .ifCond _ _ => 3
  | .if_icmp _ _ => 3
  | .goto _ => 3
  | .iinc _ _ => 3
  | .getfield _ => 3
  | .putfield _ => 3
  | .ldc_w _ => 3
  | .ldc2_w _ => 3
  | .invokevirtual _ => 3
  | .invokespecial _ => 3
  | .invokestatic _ => 3
  | .new _ => 3
  | .anewarray _ => 3
  | .multianewarray _ _ => 4
  | .tableswitch _ _ _ _ => 0
  | .lookupswitch _ _ => 0
  | _ => 1
def zz_tg (pc : Nat) (off : Int) : Option Nat := match (pc : Int) + off with
  | .ofNat t => some t
  | .negSucc _ => none
theorem zz_tg_eq {pc tgt : Nat} {off : Int} (h : zz_tg pc off = some tgt) : (pc : Int) + off = (tgt : Int) := by
  unfold zz_tg at h
  split at h
  · rename_i t ht
    cases h
    exact ht
  · cases h
def zz_br (b : Bool) (pc : Nat) (off : Int) : Option Nat := match zz_tg pc off with
  | some t => some (match b with
    | true => t
    | false => pc + 3)
  | none => none
def zz_if (op : ClassFile.Cond) (x : Int32) : Bool := match op with
  | .eq => decide (x = 0)
  | .ne => !decide (x = 0)
  | .lt => decide (x < 0)
  | .ge => decide (0 ≤ x)
  | .gt => decide (0 < x)
  | .le => decide (x ≤ 0)
def zz_ic (op : ClassFile.Cond) (x y : Int32) : Bool := match op with
  | .eq => decide (x = y)
  | .ne => !decide (x = y)
  | .lt => decide (x < y)
  | .ge => decide (y ≤ x)
  | .gt => decide (y < x)
  | .le => decide (x ≤ y)
abbrev zz_O : Type := Option (Nat × List (Option Value) × List Value)
def zz_pi (n : Nat) (L : List (Option Value)) (v : Option Value) (st : List Value) : zz_O := match v with
  | some (.int x) => some (n, L, .int x :: st)
  | _ => none
def zz_pl (n : Nat) (L : List (Option Value)) (v : Option Value) (st : List Value) : zz_O := match v with
  | some (.long x) => some (n, L, .long x :: st)
  | _ => none
def zz_pr (n : Nat) (L : List (Option Value)) (v : Option Value) (st : List Value) : zz_O := match v with
  | some (.ref x) => some (n, L, .ref x :: st)
  | _ => none
def zz_si (n : Nat) (L : List (Option Value)) (i : Nat) (st : List Value) : zz_O := match st with
  | .int x :: r => if i < L.length then some (n, zz_sv L i (.int x), r) else none
  | _ => none
def zz_sl (n : Nat) (L : List (Option Value)) (i : Nat) (st : List Value) : zz_O := match st with
  | .long x :: r => if i + 1 < L.length then some (n, zz_sv L i (.long x), r) else none
  | _ => none
def zz_sr (n : Nat) (L : List (Option Value)) (i : Nat) (st : List Value) : zz_O := match st with
  | .ref x :: r => if i < L.length then some (n, zz_sv L i (.ref x), r) else none
  | _ => none
def zz_i2 (n : Nat) (L : List (Option Value)) (st : List Value) (f : Int32 → Int32 → Int32) : zz_O := match st with
  | .int y :: .int x :: r => some (n, L, .int (f x y) :: r)
  | _ => none
def zz_i2n (n : Nat) (L : List (Option Value)) (st : List Value) (f : Int32 → Int32 → Int32) : zz_O := match st with
  | .int y :: .int x :: r => if y = 0 then none else some (n, L, .int (f x y) :: r)
  | _ => none
def zz_l2 (n : Nat) (L : List (Option Value)) (st : List Value) (f : Int64 → Int64 → Int64) : zz_O := match st with
  | .long y :: .long x :: r => some (n, L, .long (f x y) :: r)
  | _ => none
def zz_l2n (n : Nat) (L : List (Option Value)) (st : List Value) (f : Int64 → Int64 → Int64) : zz_O := match st with
  | .long y :: .long x :: r => if y = 0 then none else some (n, L, .long (f x y) :: r)
  | _ => none
def zz_go (L : List (Option Value)) (st : List Value) (t : Option Nat) : zz_O := match t with
  | some t => some (t, L, st)
  | none => none
def zz_da (ins : Instr) (pc : Nat) (L : List (Option Value)) (st : List Value) : zz_O := match ins with
  | .iconst n => some (pc + 1, L, .int (Int32.ofInt n) :: st)
  | .bipush n => some (pc + 2, L, .int (Int8.ofInt n).toInt32 :: st)
  | .sipush n => some (pc + 3, L, .int (Int16.ofInt n).toInt32 :: st)
  | .lconst n => some (pc + 1, L, .long (Int64.ofNat (n : Nat)) :: st)
  | .iload_n k => zz_pi (pc + 1) L (zz_ld L k) st
  | .iload k => zz_pi (pc + 2) L (zz_ld L k) st
  | .lload_n k => zz_pl (pc + 1) L (zz_ld L k) st
  | .lload k => zz_pl (pc + 2) L (zz_ld L k) st
  | .aload_n k => zz_pr (pc + 1) L (zz_ld L k) st
  | .aload k => zz_pr (pc + 2) L (zz_ld L k) st
  | .istore_n k => zz_si (pc + 1) L k st
  | .istore k => zz_si (pc + 2) L k st
  | .lstore_n k => zz_sl (pc + 1) L k st
  | .lstore k => zz_sl (pc + 2) L k st
  | .astore_n k => zz_sr (pc + 1) L k st
  | .astore k => zz_sr (pc + 2) L k st
  | .iinc k n => match zz_ld L k with
    | some (.int x) => some (pc + 3, zz_sv L k (.int (x + Int32.ofInt n)), st)
    | _ => none
  | .iadd => zz_i2 (pc + 1) L st (· + ·)
  | .isub => zz_i2 (pc + 1) L st (· - ·)
  | .imul => zz_i2 (pc + 1) L st (· * ·)
  | .iand => zz_i2 (pc + 1) L st (· &&& ·)
  | .ior => zz_i2 (pc + 1) L st (· ||| ·)
  | .ixor => zz_i2 (pc + 1) L st (· ^^^ ·)
  | .ishl => zz_i2 (pc + 1) L st (fun x y => x <<< (y &&& 31))
  | .ishr => zz_i2 (pc + 1) L st (fun x y => x >>> (y &&& 31))
  | .iushr => zz_i2 (pc + 1) L st (fun x y => (x.toUInt32 >>> (y.toUInt32 &&& Int32.toUInt32 31)).toInt32)
  | .idiv => zz_i2n (pc + 1) L st (· / ·)
  | .irem => zz_i2n (pc + 1) L st (fun x y => x - x / y * y)
  | .ineg => match st with
    | .int x :: r => some (pc + 1, L, .int (-x) :: r)
    | _ => none
  | .i2l => match st with
    | .int x :: r => some (pc + 1, L, .long x.toInt64 :: r)
    | _ => none
  | .l2i => match st with
    | .long x :: r => some (pc + 1, L, .int x.toInt32 :: r)
    | _ => none
  | .ladd => zz_l2 (pc + 1) L st (· + ·)
  | .lsub => zz_l2 (pc + 1) L st (· - ·)
  | .lmul => zz_l2 (pc + 1) L st (· * ·)
  | .ldiv => zz_l2n (pc + 1) L st (· / ·)
  | .lrem => zz_l2n (pc + 1) L st (fun x y => x - x / y * y)
  | .lcmp => match st with
    | .long y :: .long x :: r => some (pc + 1, L, .int (lg_cmp x y) :: r)
    | _ => none
  | .dup => match st with
    | v :: r => if v.category = 1 then some (pc + 1, L, v :: v :: r) else none
    | _ => none
  | .pop => match st with
    | v :: r => if v.category = 1 then some (pc + 1, L, r) else none
    | _ => none
  | .dup2 => match st with
    | v :: w :: r => if v.category = 1 ∧ w.category = 1 then some (pc + 1, L, v :: w :: v :: w :: r) else none
    | _ => none
  | .goto off => zz_go L st (zz_tg pc off)
  | .ifCond op off => match st with
    | .int x :: r => zz_go L r (zz_br (zz_if op x) pc off)
    | _ => none
  | .if_icmp op off => match st with
    | .int y :: .int x :: r => zz_go L r (zz_br (zz_ic op x y) pc off)
    | _ => none
  | .tableswitch dflt lo hi offs => match st with
    | .int x :: r => if x.toInt < lo ∨ hi < x.toInt then zz_go L r (zz_tg pc dflt) else match offs[(x.toInt - lo).toNat]? with
      | some off => zz_go L r (zz_tg pc off)
      | none => none
    | _ => none
  | .lookupswitch dflt ps => match st with
    | .int x :: r => if (ps.toList.zip (ps.toList.drop 1)).all (fun (a, next) => a.1 < next.1) = true then zz_go L r (zz_tg pc (Op.lookupswitch.offset ps.toList dflt x.toInt)) else none
    | _ => none
  | _ => none
section ZZ1
variable {g : zz_G} {p : Program} {l : Launch} {e : Env} {R : Room} {s : State} {m : MethodId} {args : Array Value} {below : List Frame} {meth : Method} {c : Code} {Q : State → Prop} {cc : ByteArray} {nL pc pc' n cu su : Nat} {L L' : List (Option Value)} {st st' : List Value} {cs cs' : zz_W}
/-- a frame of the real machine that shows the pure one: it comes to a state with Q -/
def zz_Z (g : zz_G) (p : Program) (l : Launch) (e : Env) (R : Room) (s : State) (m : MethodId) (args : Array Value) (below : List Frame) (meth : Method) (c : Code) (Q : State → Prop) (nL pc : Nat) (L : List (Option Value)) (st : List Value) (cs : zz_W) (cu su : Nat) : Prop :=
  L.length = nL → ∀ (H : Heap) (locs : List Loc) (ls : Array Slot), zz_R g s cs H locs → lv_has ls nL (zz_as g L) → W p l e R s m args below meth c H locs cu su Q (F0 m pc ls (st.map (zz_tr g)))
theorem zz_sv_len (L : List (Option Value)) (i : Nat) (v : Value) : (zz_sv L i v).length = L.length := by
  unfold zz_sv
  split <;> simp [zz_cl_len]
theorem zz_pi_ok {v : Option Value} (h : zz_pi n L v st = some (pc', L', st')) : ∃ x, v = some (.int x) ∧ pc' = n ∧ L' = L ∧ st' = .int x :: st := by
  unfold zz_pi at h
  split at h
  · cases h; exact ⟨_, rfl, rfl, rfl, rfl⟩
  · cases h
theorem zz_pl_ok {v : Option Value} (h : zz_pl n L v st = some (pc', L', st')) : ∃ x, v = some (.long x) ∧ pc' = n ∧ L' = L ∧ st' = .long x :: st := by
  unfold zz_pl at h
  split at h
  · cases h; exact ⟨_, rfl, rfl, rfl, rfl⟩
  · cases h
theorem zz_pr_ok {v : Option Value} (h : zz_pr n L v st = some (pc', L', st')) : ∃ x, v = some (.ref x) ∧ pc' = n ∧ L' = L ∧ st' = .ref x :: st := by
  unfold zz_pr at h
  split at h
  · cases h; exact ⟨_, rfl, rfl, rfl, rfl⟩
  · cases h
theorem zz_si_ok {i : Nat} (h : zz_si n L i st = some (pc', L', st')) : ∃ x, st = .int x :: st' ∧ i < L.length ∧ pc' = n ∧ L' = zz_sv L i (.int x) := by
  unfold zz_si at h
  split at h
  · split at h
    · cases h; exact ⟨_, rfl, by assumption, rfl, rfl⟩
    · cases h
  · cases h
theorem zz_sl_ok {i : Nat} (h : zz_sl n L i st = some (pc', L', st')) : ∃ x, st = .long x :: st' ∧ i + 1 < L.length ∧ pc' = n ∧ L' = zz_sv L i (.long x) := by
  unfold zz_sl at h
  split at h
  · split at h
    · cases h; exact ⟨_, rfl, by assumption, rfl, rfl⟩
    · cases h
  · cases h
theorem zz_sr_ok {i : Nat} (h : zz_sr n L i st = some (pc', L', st')) : ∃ x, st = .ref x :: st' ∧ i < L.length ∧ pc' = n ∧ L' = zz_sv L i (.ref x) := by
  unfold zz_sr at h
  split at h
  · split at h
    · cases h; exact ⟨_, rfl, by assumption, rfl, rfl⟩
    · cases h
  · cases h
theorem zz_i2_ok {f : Int32 → Int32 → Int32} (h : zz_i2 n L st f = some (pc', L', st')) : ∃ x y r, st = .int y :: .int x :: r ∧ pc' = n ∧ L' = L ∧ st' = .int (f x y) :: r := by
  unfold zz_i2 at h
  split at h
  · cases h; exact ⟨_, _, _, rfl, rfl, rfl, rfl⟩
  · cases h
theorem zz_i2n_ok {f : Int32 → Int32 → Int32} (h : zz_i2n n L st f = some (pc', L', st')) : ∃ x y r, st = .int y :: .int x :: r ∧ ¬ y = 0 ∧ pc' = n ∧ L' = L ∧ st' = .int (f x y) :: r := by
  unfold zz_i2n at h
  split at h
  · split at h
    · cases h
    · cases h; exact ⟨_, _, _, rfl, by assumption, rfl, rfl, rfl⟩
  · cases h
theorem zz_l2_ok {f : Int64 → Int64 → Int64} (h : zz_l2 n L st f = some (pc', L', st')) : ∃ x y r, st = .long y :: .long x :: r ∧ pc' = n ∧ L' = L ∧ st' = .long (f x y) :: r := by
  unfold zz_l2 at h
  split at h
  · cases h; exact ⟨_, _, _, rfl, rfl, rfl, rfl⟩
  · cases h
theorem zz_l2n_ok {f : Int64 → Int64 → Int64} (h : zz_l2n n L st f = some (pc', L', st')) : ∃ x y r, st = .long y :: .long x :: r ∧ ¬ y = 0 ∧ pc' = n ∧ L' = L ∧ st' = .long (f x y) :: r := by
  unfold zz_l2n at h
  split at h
  · split at h
    · cases h
    · cases h; exact ⟨_, _, _, rfl, by assumption, rfl, rfl, rfl⟩
  · cases h
theorem zz_go_ok {t : Option Nat} (h : zz_go L st t = some (pc', L', st')) : t = some pc' ∧ L' = L ∧ st' = st := by
  unfold zz_go at h
  split at h
  · cases h; exact ⟨rfl, rfl, rfl⟩
  · cases h
theorem zz_br_ok {b : Bool} {off : Int} (h : zz_br b pc off = some pc') : ∃ t : Nat, (pc : Int) + off = (t : Int) ∧ ((b = true ∧ pc' = t) ∨ (b = false ∧ pc' = pc + 3)) := by
  unfold zz_br at h
  split at h
  · rename_i t ht
    refine ⟨t, zz_tg_eq ht, ?_⟩
    cases b
    · cases h; exact Or.inr ⟨rfl, rfl⟩
    · cases h; exact Or.inl ⟨rfl, rfl⟩
  · cases h
set_option maxHeartbeats 4000000 in
theorem zz_da_ok (hx : p.tables.exec = Jvm.exec) (hb : c.code = cc) {ins : Instr} {len : Nat} (hd : decode cc pc = .ok (ins, len)) (hlen : zz_len ins = 0 ∨ len = zz_len ins) (h : zz_da ins pc L st = some (pc', L', st'))
    (kk : zz_Z g p l e R s m args below meth c Q nL pc' L' st' cs cu su) : zz_Z g p l e R s m args below meth c Q nL pc L st cs cu su := by
  intro hnL H locs ls hR hl
  have kk := fun h2 => kk h2 H locs
  have lenO : ∀ k : Nat, (k + 1 = 0 ∨ len = k + 1) → len = k + 1 := fun k q => q.resolve_left (by omega)
  cases ins with
  | iconst n => cases lenO _ hlen; cases h; exact lv_iconst hx hb hd rfl (kk hnL ls hR hl)
  | bipush n => cases lenO _ hlen; cases h; exact lv_bipush hx hb hd rfl (kk hnL ls hR hl)
  | sipush n => cases lenO _ hlen; cases h; exact lv_sipush hx hb hd rfl (kk hnL ls hR hl)
  | lconst n => cases lenO _ hlen; cases h; exact lv_lconst hx hb hd rfl (kk hnL ls hR hl)
  | iload_n k => cases lenO _ hlen; obtain ⟨x, h1, rfl, rfl, rfl⟩ := zz_pi_ok h; exact lv_iload_n hx hb hd rfl (zz_lv hl (zz_ld_eq h1)) (kk hnL ls hR hl)
  | iload k => cases lenO _ hlen; obtain ⟨x, h1, rfl, rfl, rfl⟩ := zz_pi_ok h; exact lv_iload hx hb hd (zz_lv hl (zz_ld_eq h1)) (kk hnL ls hR hl)
  | lload_n k => cases lenO _ hlen; obtain ⟨x, h1, rfl, rfl, rfl⟩ := zz_pl_ok h; exact lv_lload_n hx hb hd rfl (zz_lv hl (zz_ld_eq h1)) (kk hnL ls hR hl)
  | lload k => cases lenO _ hlen; obtain ⟨x, h1, rfl, rfl, rfl⟩ := zz_pl_ok h; exact lv_lload hx hb hd (zz_lv hl (zz_ld_eq h1)) (kk hnL ls hR hl)
  | aload_n k => cases lenO _ hlen; obtain ⟨x, h1, rfl, rfl, rfl⟩ := zz_pr_ok h; exact lv_aload_n hx hb hd rfl (zz_lv hl (zz_ld_eq h1)) (kk hnL ls hR hl)
  | aload k => cases lenO _ hlen; obtain ⟨x, h1, rfl, rfl, rfl⟩ := zz_pr_ok h; exact lv_aload hx hb hd (zz_lv hl (zz_ld_eq h1)) (kk hnL ls hR hl)
  | istore_n k => cases lenO _ hlen; obtain ⟨x, rfl, h1, rfl, rfl⟩ := zz_si_ok h; exact lv_istore_n hx hb hd rfl hl (by omega) rfl (fun ls' hl' => kk ((zz_sv_len _ _ _).trans hnL) ls' hR (zz_sv1 (v := .int x) rfl hl'))
  | istore k => cases lenO _ hlen; obtain ⟨x, rfl, h1, rfl, rfl⟩ := zz_si_ok h; exact lv_istore hx hb hd hl (by omega) rfl (fun ls' hl' => kk ((zz_sv_len _ _ _).trans hnL) ls' hR (zz_sv1 (v := .int x) rfl hl'))
  | lstore_n k => cases lenO _ hlen; obtain ⟨x, rfl, h1, rfl, rfl⟩ := zz_sl_ok h; exact lv_lstore_n hx hb hd rfl hl (by omega) rfl (fun ls' hl' => kk ((zz_sv_len _ _ _).trans hnL) ls' hR (zz_sv2 (v := .long x) rfl hl'))
  | lstore k => cases lenO _ hlen; obtain ⟨x, rfl, h1, rfl, rfl⟩ := zz_sl_ok h; exact lv_lstore hx hb hd hl (by omega) rfl (fun ls' hl' => kk ((zz_sv_len _ _ _).trans hnL) ls' hR (zz_sv2 (v := .long x) rfl hl'))
  | astore_n k => cases lenO _ hlen; obtain ⟨x, rfl, h1, rfl, rfl⟩ := zz_sr_ok h; exact lv_astore_n hx hb hd rfl hl (by omega) rfl (fun ls' hl' => kk ((zz_sv_len _ _ _).trans hnL) ls' hR (zz_sv1 (v := .ref x) rfl hl'))
  | astore k => cases lenO _ hlen; obtain ⟨x, rfl, h1, rfl, rfl⟩ := zz_sr_ok h; exact lv_astore hx hb hd hl (by omega) rfl (fun ls' hl' => kk ((zz_sv_len _ _ _).trans hnL) ls' hR (zz_sv1 (v := .ref x) rfl hl'))
  | iinc k n =>
    cases lenO _ hlen
    simp only [zz_da] at h
    split at h
    · rename_i x hv
      cases h
      have h1 := zz_ld_eq hv
      obtain ⟨j, hj⟩ := List.getElem?_of_mem (zz_as_mem (g := g) h1)
      have hlt : k < L.length := (List.getElem?_eq_some_iff.mp h1).1
      exact lv_iinc hx hb hd hl hj rfl (by omega) rfl (fun ls' hl' => kk ((zz_sv_len _ _ _).trans hnL) ls' hR (zz_sv1 (v := .int (x + Int32.ofInt n)) rfl hl'))
    · cases h
  | iadd => cases lenO _ hlen; obtain ⟨x, y, r, rfl, rfl, rfl, rfl⟩ := zz_i2_ok h; exact lv_iadd hx hb hd (kk hnL ls hR hl)
  | isub => cases lenO _ hlen; obtain ⟨x, y, r, rfl, rfl, rfl, rfl⟩ := zz_i2_ok h; exact lv_isub hx hb hd (kk hnL ls hR hl)
  | imul => cases lenO _ hlen; obtain ⟨x, y, r, rfl, rfl, rfl, rfl⟩ := zz_i2_ok h; exact lv_imul hx hb hd (kk hnL ls hR hl)
  | iand => cases lenO _ hlen; obtain ⟨x, y, r, rfl, rfl, rfl, rfl⟩ := zz_i2_ok h; exact lv_iand hx hb hd (kk hnL ls hR hl)
  | ior => cases lenO _ hlen; obtain ⟨x, y, r, rfl, rfl, rfl, rfl⟩ := zz_i2_ok h; exact lv_ior hx hb hd (kk hnL ls hR hl)
  | ixor => cases lenO _ hlen; obtain ⟨x, y, r, rfl, rfl, rfl, rfl⟩ := zz_i2_ok h; exact lv_ixor hx hb hd (kk hnL ls hR hl)
  | ishl => cases lenO _ hlen; obtain ⟨x, y, r, rfl, rfl, rfl, rfl⟩ := zz_i2_ok h; exact lv_ishl hx hb hd (kk hnL ls hR hl)
  | ishr => cases lenO _ hlen; obtain ⟨x, y, r, rfl, rfl, rfl, rfl⟩ := zz_i2_ok h; exact lv_ishr hx hb hd (kk hnL ls hR hl)
  | iushr => cases lenO _ hlen; obtain ⟨x, y, r, rfl, rfl, rfl, rfl⟩ := zz_i2_ok h; exact lv_iushr hx hb hd rfl (kk hnL ls hR hl)
  | idiv => cases lenO _ hlen; obtain ⟨x, y, r, rfl, hne, rfl, rfl, rfl⟩ := zz_i2n_ok h; exact lv_idiv hx hb hd hne (kk hnL ls hR hl)
  | irem => cases lenO _ hlen; obtain ⟨x, y, r, rfl, hne, rfl, rfl, rfl⟩ := zz_i2n_ok h; exact lv_irem hx hb hd hne (kk hnL ls hR hl)
  | ineg =>
    cases lenO _ hlen
    simp only [zz_da] at h
    split at h
    · cases h; exact lv_ineg hx hb hd (kk hnL ls hR hl)
    · cases h
  | i2l =>
    cases lenO _ hlen
    simp only [zz_da] at h
    split at h
    · cases h; exact lv_i2l hx hb hd rfl (kk hnL ls hR hl)
    · cases h
  | l2i =>
    cases lenO _ hlen
    simp only [zz_da] at h
    split at h
    · cases h; exact lv_l2i hx hb hd rfl (kk hnL ls hR hl)
    · cases h
  | ladd => cases lenO _ hlen; obtain ⟨x, y, r, rfl, rfl, rfl, rfl⟩ := zz_l2_ok h; exact lv_ladd hx hb hd (kk hnL ls hR hl)
  | lsub => cases lenO _ hlen; obtain ⟨x, y, r, rfl, rfl, rfl, rfl⟩ := zz_l2_ok h; exact lv_lsub hx hb hd (kk hnL ls hR hl)
  | lmul => cases lenO _ hlen; obtain ⟨x, y, r, rfl, rfl, rfl, rfl⟩ := zz_l2_ok h; exact lv_lmul hx hb hd (kk hnL ls hR hl)
  | ldiv => cases lenO _ hlen; obtain ⟨x, y, r, rfl, hne, rfl, rfl, rfl⟩ := zz_l2n_ok h; exact lv_ldiv hx hb hd hne (kk hnL ls hR hl)
  | lrem => cases lenO _ hlen; obtain ⟨x, y, r, rfl, hne, rfl, rfl, rfl⟩ := zz_l2n_ok h; exact lv_lrem hx hb hd hne (kk hnL ls hR hl)
  | lcmp =>
    cases lenO _ hlen
    simp only [zz_da] at h
    split at h
    · cases h; exact W.lcmp hx hb hd (kk hnL ls hR hl)
    · cases h
  | dup =>
    cases lenO _ hlen
    simp only [zz_da] at h
    split at h
    · split at h
      · rename_i v r hc
        cases h
        exact lv_dup hx hb hd ((zz_tr_cat g v).trans hc) (kk hnL ls hR hl)
      · cases h
    · cases h
  | pop =>
    cases lenO _ hlen
    simp only [zz_da] at h
    split at h
    · split at h
      · rename_i v r hc
        cases h
        exact lv_pop hx hb hd ((zz_tr_cat g v).trans hc) (kk hnL ls hR hl)
      · cases h
    · cases h
  | dup2 =>
    cases lenO _ hlen
    simp only [zz_da] at h
    split at h
    · split at h
      · rename_i v w r hc
        cases h
        exact lv_dup2_11 hx hb hd ((zz_tr_cat g v).trans hc.1) ((zz_tr_cat g w).trans hc.2) (kk hnL ls hR hl)
      · cases h
    · cases h
  | goto off => cases lenO _ hlen; obtain ⟨h1, rfl, rfl⟩ := zz_go_ok h; exact lv_goto hx hb hd (zz_tg_eq h1) (kk hnL ls hR hl)
  | ifCond op off =>
    cases lenO _ hlen
    simp only [zz_da] at h
    split at h
    · rename_i x r
      obtain ⟨h1, rfl, rfl⟩ := zz_go_ok h
      have k0 := kk hnL ls hR hl
      obtain ⟨t, ht, hb1 | hb1⟩ := zz_br_ok h1
      · obtain ⟨hb1, rfl⟩ := hb1
        cases op <;> simp only [zz_if, decide_eq_true_eq, Bool.not_eq_true', decide_eq_false_iff_not] at hb1
        · exact lv_if_eq hx hb hd ht (fun _ => k0) (fun q => absurd hb1 q)
        · exact lv_if_ne hx hb hd ht (fun _ => k0) (fun q => absurd q hb1)
        · exact lv_if_lt hx hb hd ht (fun _ => k0) (fun q => absurd hb1 q)
        · exact lv_if_ge hx hb hd ht (fun _ => k0) (fun q => absurd hb1 q)
        · exact lv_if_gt hx hb hd ht (fun _ => k0) (fun q => absurd hb1 q)
        · exact lv_if_le hx hb hd ht (fun _ => k0) (fun q => absurd hb1 q)
      · obtain ⟨hb1, rfl⟩ := hb1
        cases op <;> simp only [zz_if, decide_eq_false_iff_not, Bool.not_eq_false', decide_eq_true_eq] at hb1
        · exact lv_if_eq hx hb hd ht (fun q => absurd q hb1) (fun _ => k0)
        · exact lv_if_ne hx hb hd ht (fun q => absurd hb1 q) (fun _ => k0)
        · exact lv_if_lt hx hb hd ht (fun q => absurd q hb1) (fun _ => k0)
        · exact lv_if_ge hx hb hd ht (fun q => absurd q hb1) (fun _ => k0)
        · exact lv_if_gt hx hb hd ht (fun q => absurd q hb1) (fun _ => k0)
        · exact lv_if_le hx hb hd ht (fun q => absurd q hb1) (fun _ => k0)
    · cases h
  | if_icmp op off =>
    cases lenO _ hlen
    simp only [zz_da] at h
    split at h
    · rename_i y x r
      obtain ⟨h1, rfl, rfl⟩ := zz_go_ok h
      have k0 := kk hnL ls hR hl
      obtain ⟨t, ht, hb1 | hb1⟩ := zz_br_ok h1
      · obtain ⟨hb1, rfl⟩ := hb1
        cases op <;> simp only [zz_ic, decide_eq_true_eq, Bool.not_eq_true', decide_eq_false_iff_not] at hb1
        · exact lv_icmp_eq hx hb hd ht (fun _ => k0) (fun q => absurd hb1 q)
        · exact lv_icmp_ne hx hb hd ht (fun _ => k0) (fun q => absurd q hb1)
        · exact lv_icmp_lt hx hb hd ht (fun _ => k0) (fun q => absurd hb1 q)
        · exact lv_icmp_ge hx hb hd ht (fun _ => k0) (fun q => absurd hb1 q)
        · exact lv_icmp_gt hx hb hd ht (fun _ => k0) (fun q => absurd hb1 q)
        · exact lv_icmp_le hx hb hd ht (fun _ => k0) (fun q => absurd hb1 q)
      · obtain ⟨hb1, rfl⟩ := hb1
        cases op <;> simp only [zz_ic, decide_eq_false_iff_not, Bool.not_eq_false', decide_eq_true_eq] at hb1
        · exact lv_icmp_eq hx hb hd ht (fun q => absurd q hb1) (fun _ => k0)
        · exact lv_icmp_ne hx hb hd ht (fun q => absurd hb1 q) (fun _ => k0)
        · exact lv_icmp_lt hx hb hd ht (fun q => absurd q hb1) (fun _ => k0)
        · exact lv_icmp_ge hx hb hd ht (fun q => absurd q hb1) (fun _ => k0)
        · exact lv_icmp_gt hx hb hd ht (fun q => absurd q hb1) (fun _ => k0)
        · exact lv_icmp_le hx hb hd ht (fun q => absurd q hb1) (fun _ => k0)
    · cases h
  | tableswitch dflt lo hi offs =>
    simp only [zz_da] at h
    split at h
    · rename_i x r
      split at h
      · rename_i hc
        obtain ⟨h1, rfl, rfl⟩ := zz_go_ok h
        exact lv_tableOut hx hb hd hc (zz_tg_eq h1) (kk hnL ls hR hl)
      · rename_i hc
        split at h
        · rename_i off ho
          obtain ⟨h1, rfl, rfl⟩ := zz_go_ok h
          exact lv_tableIn hx hb hd (fun q => hc (Or.inl q)) (fun q => hc (Or.inr q)) ho (zz_tg_eq h1) (kk hnL ls hR hl)
        · cases h
    · cases h
  | lookupswitch dflt ps =>
    simp only [zz_da] at h
    split at h
    · rename_i x r
      split at h
      · rename_i hc
        obtain ⟨h1, rfl, rfl⟩ := zz_go_ok h
        exact lv_lookup hx hb hd hc rfl (zz_tg_eq h1) (kk hnL ls hR hl)
      · cases h
    · cases h
  | _ => exact absurd (show (none : zz_O) = some _ from h) (by simp)
end ZZ1
end
section
/-! one step of the pure machine on cells -/
-- words of the tables that stay as classes warm up
def zz_good : Jvm.Cond → Bool
  | .arrayClass _ => true
  | .fieldLinkNest .. => true
  | .methodLinkNest .. => true
  | .arrayOver (.object _) => true
  | .arrayOver (.array _) => true
  | w => w.onTables && w.keeps
def zz_ok (U : State) : Prop := ∀ w ∈ lw_tbl, zz_good w = true → ∀ a : Array Value, w.before a U = true
theorem zz_aoA {t : FieldType} {u U : State} (hvm : u.vm.Alike U.vm) (h : (Jvm.Cond.arrayOver (.array t)).before #[] u = true) (a : Array Value) : (Jvm.Cond.arrayOver (.array t)).before a U = true := by
  obtain ⟨comp, c, k, h1, h2, h3, h4, h5⟩ := arrayOverA_spec h
  obtain ⟨k', hk', he⟩ := hvm.2.2 _ _ h3
  have hb : U.vm.bare = u.vm.bare := by first | exact hvm.bare_eq | exact hvm.bare_eq.symm
  have h9 := va_idx_bare U.vm comp
  rw [hb] at h9
  have hi := h9.symm.trans ((va_idx_bare u.vm comp).trans h2)
  have hkind : k'.kind = .array comp (.array t) := by rw [he]; exact h4
  have f1 : U.vm.findClass (FieldType.array t).toString = some comp := by rw [hvm.findClass]; exact h1
  have f2 : U.vm.findClass ("[" ++ (FieldType.array t).toString) = some c := by rw [hvm.findClass]; exact h5
  unfold Jvm.Cond.before Jvm.Cond.holds
  simp only [Jvm.Cond.value]
  rw [f1, Option.bind_some]
  refine (congrArg (fun o : Option Nat => (o.bind (fun c => (U.vm.classes[c]?).map fun (k : Class) => match k.kind with | .array _ ty => decide (ty = FieldType.array t) && decide (U.vm.findClass ("[" ++ (FieldType.array t).toString) = some c) | _ => false) == some true)) hi).trans ?_
  simp [hk', hkind, f2]
theorem zz_word {w : Jvm.Cond} {s U : State} (hg : zz_good w = true) (hW : s.WarmedH U.vm) (h : ∀ a : Array Value, w.before a s = true) (a : Array Value) : w.before a U = true := by
  cases w with
  | arrayClass ty => exact word_at hW (Or.inr ⟨_, rfl⟩) (h a)
  | fieldLinkNest x i b n d y => exact va_Nw.use rfl (va_Nw.warmF hW (h #[]))
  | methodLinkNest x i b y => exact va_Nw.use rfl (va_Nw.warmM hW (h #[]))
  | arrayOver t => cases t with
    | object C => exact va_AO.use (va_AO.moved hW.alike (h #[]))
    | array C => exact zz_aoA hW.alike (h #[]) a
    | _ => exact word_at hW (Or.inl hg) (h a)
  | _ => exact word_at hW (Or.inl hg) (h a)
theorem zz_ok.warm {s U : State} (hW : s.WarmedH U.vm) (h : zz_ok s) : zz_ok U := fun w hw hg => zz_word hg hW (h w hw hg)
def zz_wd (i : Nat) (w : Jvm.Cond) : Bool := match lw_tbl[i]? with
  | some v => decide (v = w) && zz_good w
  | none => false
theorem zz_wd_ok {i : Nat} {w : Jvm.Cond} (h : zz_wd i w = true) {U : State} (hU : zz_ok U) (a : Array Value) : w.before a U = true := by
  unfold zz_wd at h
  split at h
  · rename_i v hv
    simp only [Bool.and_eq_true, decide_eq_true_eq] at h
    exact hU w (h.1 ▸ List.mem_of_getElem? hv) h.2 a
  · cases h
-- a class: its fields' types are types, their names differ, its words stand in the tables
def zz_cok (q : vw_C) : Bool := (List.range q.2.2).all (fun k => (parseFieldDescriptor (q.2.1 k).2.2.1).isSome && ((List.range q.2.2).all (fun j => decide (k = j) || !decide ((q.2.1 k).2.1 = (q.2.1 j).2.1)) && (decide (u_lay q.1 q.2.1 k ∈ lw_tbl) && zz_good (u_lay q.1 q.2.1 k))))
theorem zz_cok_l : classes.all zz_cok = true := by decide +kernel
theorem zz_cok_all (ci : Nat) (q : vw_C) (h : classes[ci]? = some q) : zz_cok q = true := List.all_eq_true.mp zz_cok_l q (List.mem_of_getElem? h)
theorem zz_cok_at {q : vw_C} (h : zz_cok q = true) {k : Nat} (hk : k < q.2.2) : (parseFieldDescriptor (q.2.1 k).2.2.1).isSome = true ∧ (∀ j, j < q.2.2 → k ≠ j → (q.2.1 k).2.1 ≠ (q.2.1 j).2.1) ∧ u_lay q.1 q.2.1 k ∈ lw_tbl ∧ zz_good (u_lay q.1 q.2.1 k) = true := by
  have h1 := List.all_eq_true.mp h k (List.mem_range.mpr hk)
  simp only [Bool.and_eq_true, decide_eq_true_eq] at h1
  refine ⟨h1.1, fun j hj hne => ?_, h1.2.2⟩
  have h2 := List.all_eq_true.mp h1.2.1 j (List.mem_range.mpr hj)
  simp only [Bool.or_eq_true, decide_eq_true_eq, Bool.not_eq_true', decide_eq_false_iff_not] at h2
  exact h2.resolve_left hne
theorem zz_cts {q : vw_C} (h : zz_cok q = true) {U : State} (hU : zz_ok U) (a : Array Value) : ∀ w ∈ u_ws q.1 q.2.1 q.2.2, w.before a U = true := by
  intro w hw
  obtain ⟨k, hk, rfl⟩ := List.mem_map.mp hw
  obtain ⟨-, -, h1, h2⟩ := zz_cok_at h (List.mem_range.mp hk)
  exact hU _ h1 h2 a
def zz_ft (q : vw_C) (k : Nat) : FieldType := (parseFieldDescriptor (q.2.1 k).2.2.1).getD .int
theorem zz_fty {q : vw_C} (h : zz_cok q = true) {k : Nat} (hk : k < q.2.2) : parseFieldDescriptor (q.2.1 k).2.2.1 = some (zz_ft q k) := by
  have h1 := (zz_cok_at h hk).1
  unfold zz_ft
  cases hq : parseFieldDescriptor (q.2.1 k).2.2.1 with
  | none => rw [hq] at h1; cases h1
  | some t => rfl
-- the type of a field as a number: int, boolean, a reference, long
def zz_tc (tc : Nat) (ty : FieldType) : Bool := match tc with
  | 0 => decide (ty = .int)
  | 1 => decide (ty = .boolean)
  | 2 => ty.isReference
  | 3 => decide (ty = .long)
  | _ => false
def zz_fit (tc : Nat) (v : Value) : Bool := match tc with
  | 0 => match v with
    | .int _ => true
    | _ => false
  | 1 => match v with
    | .int x => decide (x = 0) || decide (x = 1)
    | _ => false
  | 2 => match v with
    | .ref _ => true
    | .null => true
    | _ => false
  | 3 => match v with
    | .long _ => true
    | _ => false
  | _ => false
theorem zz_fits {tc : Nat} {ty : FieldType} {v : Value} (g : zz_G) (h1 : zz_tc tc ty = true) (h2 : zz_fit tc v = true) : narrow ty (zz_tr g v) = zz_tr g v ∧ fits ty (zz_tr g v) = true := by
  unfold zz_tc at h1
  split at h1
  · simp only [decide_eq_true_eq] at h1
    subst h1
    simp only [zz_fit] at h2
    split at h2
    · exact ⟨rfl, rfl⟩
    · cases h2
  · simp only [decide_eq_true_eq] at h1
    subst h1
    simp only [zz_fit] at h2
    split at h2
    · simp only [Bool.or_eq_true, decide_eq_true_eq] at h2
      rcases h2 with rfl | rfl
      · exact ⟨rfl, rfl⟩
      · exact ⟨rfl, rfl⟩
    · cases h2
  · simp only [zz_fit] at h2
    cases ty <;> first | (cases h1; done) | skip
    all_goals
      split at h2
      · exact ⟨rfl, rfl⟩
      · exact ⟨rfl, rfl⟩
      · cases h2
  · simp only [decide_eq_true_eq] at h1
    subst h1
    simp only [zz_fit] at h2
    split at h2
    · exact ⟨rfl, rfl⟩
    · cases h2
  · cases h1
-- cells in the heap
theorem zz_at.kept {g : zz_G} {i : Nat} {c : zz_C} {H H1 : Heap} (h : zz_at g i c H) (hq : H1[zz_ad g i]? = H[zz_ad g i]?) : zz_at g i c H1 := by
  unfold zz_at at h ⊢
  split
  · exact hq.trans h
  · exact hq.trans h
  · obtain ⟨r, h1, h2⟩ := h
    exact ⟨r, h1, h2.kept hq⟩
theorem zz_ad_pos (g : zz_G) {i : Nat} (h : 0 < i) : zz_ad g i = g.1 + i := by
  unfold zz_ad
  rw [if_neg (by omega)]
theorem zz_ad_ne (g : zz_G) {i j : Nat} (h : 0 < i) (h2 : 0 < j) (hne : i ≠ j) : zz_ad g i ≠ zz_ad g j := by
  rw [zz_ad_pos g h, zz_ad_pos g h2]
  omega
theorem zz_P.set {g : zz_G} {cs : zz_W} {H H1 : Heap} {i : Nat} {c0 c : zz_C} (h : zz_P g cs H) (hi : cs[i]? = some (some c0)) (hz : H1.size = H.size) (hq : ∀ q, q ≠ zz_ad g i → H1[q]? = H[q]?) (hc : zz_at g i c H1) : zz_P g (cs.set i (some c)) H1 := by
  refine ⟨by rw [hz, List.length_set]; exact h.1, fun j d hj => ?_⟩
  have hl : i < cs.length := (List.getElem?_eq_some_iff.mp hi).1
  by_cases hij : i = j
  · subst hij
    rw [List.getElem?_set_self hl] at hj
    cases hj
    exact ⟨(h.2 i c0 hi).1, hc⟩
  · rw [List.getElem?_set_ne hij] at hj
    obtain ⟨h1, h2⟩ := h.2 j d hj
    exact ⟨h1, h2.kept (hq _ (zz_ad_ne g h1 (h.2 i c0 hi).1 (Ne.symm hij)))⟩
theorem zz_R.set {g : zz_G} {s : State} {cs : zz_W} {H H1 : Heap} {locs : List Loc} {i k : Nat} {c0 c : zz_C} (h : zz_R g s cs H locs) (hi : cs[i]? = some (some c0)) (hz : H1.size = H.size) (hq : ∀ q, q ≠ zz_ad g i → H1[q]? = H[q]?) (hc : zz_at g i c H1) : zz_R g s (cs.set i (some c)) H1 (locs ++ [⟨zz_ad g i, k⟩]) := by
  obtain ⟨h1, h2, h3, h4⟩ := h
  have hp := (h1.2 i c0 hi).1
  have ha := zz_ad_pos g hp
  refine ⟨h1.set hi hz hq hc, by omega, fun q hq1 => (hq q (by omega)).trans (h3 q hq1), fun q hq1 => ?_⟩
  rcases List.mem_append.mp hq1 with h5 | h5
  · exact h4 q h5
  · rw [List.mem_singleton.mp h5]
    show g.1 < zz_ad g i
    omega
theorem zz_R.push {g : zz_G} {s : State} {cs : zz_W} {H H1 : Heap} {locs : List Loc} {c : zz_C} (h : zz_R g s cs H locs) (h0 : 0 < cs.length) (hz : H1.size = H.size + 1) (hq : ∀ q, q < H.size → H1[q]? = H[q]?) (hc : zz_at g cs.length c H1) : zz_R g s (cs ++ [some c]) H1 locs := by
  obtain ⟨h1, h2, h3, h4⟩ := h
  have hsz := h1.1
  refine ⟨⟨by rw [hz, List.length_append, hsz]; rfl, fun j d hj => ?_⟩, by omega, fun q hq1 => (hq q (by omega)).trans (h3 q hq1), h4⟩
  by_cases hl : j < cs.length
  · rw [List.getElem?_append_left hl] at hj
    obtain ⟨h5, h6⟩ := h1.2 j d hj
    exact ⟨h5, h6.kept (hq _ (by rw [zz_ad_pos g h5]; omega))⟩
  · rw [List.getElem?_append_right (by omega)] at hj
    have hz1 : j - cs.length < 1 := (List.getElem?_eq_some_iff.mp hj).1
    have hj0 : j = cs.length := by omega
    subst hj0
    rw [Nat.sub_self] at hj
    cases hj
    exact ⟨h0, hc⟩
abbrev zz_O2 : Type := Option (Nat × List (Option Value) × List Value × zz_W)
def zz_cell (cs : zz_W) (i : Nat) : Option zz_C := match cs[i]? with
  | some (some c) => some c
  | _ => none
theorem zz_cell_eq {cs : zz_W} {i : Nat} {c : zz_C} (h : zz_cell cs i = some c) : cs[i]? = some (some c) := by
  unfold zz_cell at h
  split at h
  · rename_i d hd
    cases h
    exact hd
  · cases h
def zz_rt (t : Nat) : Bool := match zz_ty[t]? with
  | some ty => ty.isReference
  | none => false
theorem zz_rt_ok {t : Nat} (h : zz_rt t = true) : ∃ ty, zz_ty[t]? = some ty ∧ ty.isReference = true := by
  unfold zz_rt at h
  split at h
  · rename_i ty hty
    exact ⟨ty, hty, h⟩
  · cases h
def zz_ix (j : Int32) (n : Nat) : Bool := !decide (j < 0) && decide (j.toNatClampNeg < n)
theorem zz_ix_ok {j : Int32} {n : Nat} (h : zz_ix j n = true) : ¬ j < 0 ∧ j.toNatClampNeg < n := by
  unfold zz_ix at h
  simp only [Bool.and_eq_true, Bool.not_eq_true', decide_eq_false_iff_not, decide_eq_true_eq] at h
  exact h
-- numbers of an instruction: getfield, putfield: class, field, word, type (of a putfield); aastore: the array's class, the stored object's, word
def zz_db (ins : Instr) (r : List Nat) (v0 : Value) (pc : Nat) (L : List (Option Value)) (st : List Value) (cs : zz_W) : zz_O2 := match ins with
  | .getfield _ => match r with
    | [ci, k, _] => match st with
      | .ref i :: rest => match zz_cell cs i with
        | some (.inr (.inr (cj, fs))) => if cj = ci then (match fs[k]? with
          | some v => some (pc + 3, L, v :: rest, cs)
          | none => none) else none
        | _ => none
      | _ => none
    | _ => none
  | .putfield _ => match r with
    | [ci, k, _, tc] => match st with
      | v :: .ref i :: rest => match zz_cell cs i with
        | some (.inr (.inr (cj, fs))) => if cj = ci ∧ k < fs.length ∧ zz_fit tc v = true then some (pc + 3, L, rest, cs.set i (some (.inr (.inr (ci, fs.set k v))))) else none
        | _ => none
      | _ => none
    | _ => none
  | .iaload => match st with
    | .int j :: .ref i :: rest => match zz_cell cs i with
      | some (.inl xs) => if zz_ix j xs.length = true then some (pc + 1, L, .int (xs.getD j.toNatClampNeg 0) :: rest, cs) else none
      | _ => none
    | _ => none
  | .iastore => match st with
    | .int x :: .int j :: .ref i :: rest => match zz_cell cs i with
      | some (.inl xs) => if zz_ix j xs.length = true then some (pc + 1, L, rest, cs.set i (some (.inl (xs.set j.toNatClampNeg x)))) else none
      | _ => none
    | _ => none
  | .aaload => match st with
    | .int j :: .ref i :: rest => match zz_cell cs i with
      | some (.inr (.inl (t, rs))) => if zz_ix j rs.length = true ∧ zz_rt t = true then some (pc + 1, L, va_rf (rs.getD j.toNatClampNeg none) :: rest, cs) else none
      | _ => none
    | _ => none
  | .aastore => match r with
    | [t, ci, _] => match st with
      | .ref v :: .int j :: .ref i :: rest => match zz_cell cs i with
        | some (.inr (.inl (u, rs))) => match zz_cell cs v with
          | some (.inr (.inr (cj, _))) => if u = t ∧ cj = ci ∧ zz_ix j rs.length = true then some (pc + 1, L, rest, cs.set i (some (.inr (.inl (t, rs.set j.toNatClampNeg (some v)))))) else none
          | _ => none
        | _ => none
      | _ => none
    | _ => none
  | .arraylength => match st with
    | .ref i :: rest => match zz_cell cs i with
      | some (.inl xs) => some (pc + 1, L, .int (Int32.ofNat xs.length) :: rest, cs)
      | some (.inr (.inl (t, rs))) => if zz_rt t = true then some (pc + 1, L, .int (Int32.ofNat rs.length) :: rest, cs) else none
      | _ => none
    | _ => none
  | .ldc _ => some (pc + 2, L, v0 :: st, cs)
  | .ldc_w _ => some (pc + 3, L, v0 :: st, cs)
  | .ldc2_w _ => some (pc + 3, L, v0 :: st, cs)
  | _ => none
-- what the tables must say of such an instruction
def zz_lk (own : String) (idx w : Nat) (f : String × String × String × Bool) : Bool := zz_wd w (.fieldLink own idx f.1 f.2.1 f.2.2.1) || zz_wd w (.fieldLinkNest own idx f.1 f.2.1 f.2.2.1 zz_host)
def zz_tb (own nm : String) (ins : Instr) (r : List Nat) (v0 : Value) : Bool := match ins with
  | .getfield idx => match r with
    | [ci, k, w] => match classes[ci]? with
      | some q => decide (k < q.2.2) && zz_lk own idx w (q.2.1 k)
      | none => false
    | _ => false
  | .putfield idx => match r with
    | [ci, k, w, tc] => match classes[ci]? with
      | some q => decide (k < q.2.2) && (zz_tc tc (zz_ft q k) && (if (q.2.1 k).2.2.2 = true then zz_wd w (.fieldLink own idx (q.2.1 k).1 (q.2.1 k).2.1 (q.2.1 k).2.2.1) && (decide ((q.2.1 k).1 = own) && decide (nm = "<init>")) else zz_lk own idx w (q.2.1 k)))
      | none => false
    | _ => false
  | .aastore => match r with
    | [t, ci, w] => match classes[ci]? with
      | some q => match zz_ty[t]? with
        | some (.object E) => decide (E = q.1) || zz_wd w (.castable q.1 E)
        | _ => false
      | none => false
    | _ => false
  | .ldc idx => match r with
    | [w] => match v0 with
      | .int x => zz_wd w (.constant own idx x)
      | _ => false
    | _ => false
  | .ldc_w idx => match r with
    | [w] => match v0 with
      | .int x => zz_wd w (.constant own idx x)
      | _ => false
    | _ => false
  | .ldc2_w idx => match r with
    | [w] => match v0 with
      | .long x => zz_wd w (.constantLong own idx x)
      | _ => false
    | _ => false
  | _ => true
section ZZ2
variable {g : zz_G} {p : Program} {l : Launch} {e : Env} {R : Room} {s : State} {m : MethodId} {args : Array Value} {below : List Frame} {meth : Method} {c : Code} {Q : State → Prop} {cc : ByteArray} {nL pc pc' n cu su : Nat} {L L' : List (Option Value)} {st st' : List Value} {cs cs' : zz_W}
theorem zz_get (hx : p.tables.exec = Jvm.exec) (hb : c.code = cc) {own : String} (hown : s.vm.findClass own = some m.cls) (hT : zz_ok s) (hK : zz_K g s) {idx ci k w i : Nat} {q : vw_C} (hq : classes[ci]? = some q) (hcok : zz_cok q = true) (hk : k < q.2.2) (hlk : zz_lk own idx w (q.2.1 k) = true)
    {H : Heap} {locs : List Loc} {ls : Array Slot} {rest : List Value} {fs : List Value} {v : Value} (hat : zz_at g i (.inr (.inr (ci, fs))) H) (hv : fs[k]? = some v) (hd : decode cc pc = .ok (.getfield idx, 3))
    (kk : W p l e R s m args below meth c H locs cu su Q (F0 m (pc + 3) ls (zz_tr g v :: rest))) : W p l e R s m args below meth c H locs cu su Q (F0 m pc ls (.ref (zz_ad g i) :: rest)) := by
  obtain ⟨r, h1, cell, q1, q2, q3, q4⟩ := hat
  cases hq.symm.trans h1
  obtain ⟨hS, hfc, kC, hkC, hkind⟩ := hK.1 ci q hq
  obtain ⟨cf, kf, fi, f, hi, hsl⟩ := hS k hk
  have hst := (u_facts hfc hkC (u_lays (args := args) (zz_cts hcok hT args) (fun _ h => h) hk) hi).1
  have hval : cell.slots[f.slot]? = some (zz_tr g v) := by
    rw [hsl, q4 k hk]
    simp [vp_V, hv]
  simp only [zz_lk, Bool.or_eq_true] at hlk
  rcases hlk with h | h
  · exact W.getf hx hb hown (zz_wd_ok h hT args) hi hst q1 (by rw [q3]; exact fun h => by cases h) hval rfl rfl hd kk
  · exact va_Wgetf hx hb hown (zz_wd_ok h hT args) hi hst q1 (by rw [q3]; exact fun h => by cases h) hval rfl rfl hd kk
theorem zz_put (hx : p.tables.exec = Jvm.exec) (hb : c.code = cc) {own : String} (hown : s.vm.findClass own = some m.cls) (hT : zz_ok s) (hK : zz_K g s) {idx ci k w i tc : Nat} {q : vw_C} (hq : classes[ci]? = some q) (hcok : zz_cok q = true) (hk : k < q.2.2) (htc : zz_tc tc (zz_ft q k) = true)
    (hlk : (if (q.2.1 k).2.2.2 = true then zz_wd w (.fieldLink own idx (q.2.1 k).1 (q.2.1 k).2.1 (q.2.1 k).2.2.1) && (decide ((q.2.1 k).1 = own) && decide (meth.name = "<init>")) else zz_lk own idx w (q.2.1 k)) = true)
    {H : Heap} {locs : List Loc} {ls : Array Slot} {rest : List Value} {fs : List Value} {v : Value} (hR : zz_R g s cs H locs) (hi0 : cs[i]? = some (some (.inr (.inr (ci, fs))))) (hkl : k < fs.length) (hfit : zz_fit tc v = true) (hd : decode cc pc = .ok (.putfield idx, 3))
    (kk : ∀ (H1 : Heap) (locs1 : List Loc), zz_R g s (cs.set i (some (.inr (.inr (ci, fs.set k v))))) H1 locs1 → W p l e R s m args below meth c H1 locs1 cu su Q (F0 m (pc + 3) ls rest)) : W p l e R s m args below meth c H locs cu su Q (F0 m pc ls (zz_tr g v :: .ref (zz_ad g i) :: rest)) := by
  obtain ⟨hp0, hat⟩ := hR.1.2 i _ hi0
  obtain ⟨r, h1, cell, q1, q2, q3, q4⟩ := hat
  cases hq.symm.trans h1
  have hts := zz_cts hcok hT args
  have hap := va_apart (own := own) (D := g.2.2.2) (cl := classes) (tys := []) (s := s) (args := args) (ci := ci) hts (fun _ h => h) (zz_ft q) (fun k hk => zz_fty hcok hk) (fun a ha b hb hne => (zz_cok_at hcok ha).2.1 b hb hne) ⟨hK.1, fun k q h => by simp at h⟩ hq
  obtain ⟨hS, hfc, kC, hkC, hkind⟩ := hK.1 ci q hq
  obtain ⟨cf, kf, fi, f, hi, hsl⟩ := hS k hk
  obtain ⟨hn, hft⟩ := zz_fits g htc hfit
  have hst := (u_facts hfc hkC (u_lays (args := args) hts (fun _ h => h) hk) hi).1
  have hfin : ∀ H1 : Heap, H1[zz_ad g i]? = some (cell.setSlot f.slot (zz_tr g v)) → zz_at g i (.inr (.inr (ci, fs.set k v))) H1 := by
    intro H1 e1
    refine ⟨q, hq, t_OB.to (V := updV (vp_V (fs.map (zz_tr g))) k (zz_tr g v)) ⟨_, e1, q2, q3, ?_⟩ (fun j _ => ?_)⟩
    · rw [hsl]
      exact t_set q4 hap hk _
    · rw [List.map_set]
      exact vp_updV_set (by rw [List.length_map]; exact hkl) _ j
  split at hlk
  · rename_i hF
    simp only [Bool.and_eq_true, decide_eq_true_eq] at hlk
    obtain ⟨hw, hdecl, hnm⟩ := hlk
    have hlay := hts _ (u_in_lay hk)
    unfold u_lay at hlay
    rw [if_pos hF] at hlay
    have hcf : m.cls = cf := by
      obtain ⟨_, _, c', _, _, _, -, -, hf', -, -, -, hown2, -⟩ := Cond.laysFinal_spec hlay
      have e1 : c' = cf := by have := hi.symm.trans hf'; simp at this; exact this.1.symm
      rw [hdecl] at hown2
      rw [← e1]; exact Option.some.inj (hown.symm.trans hown2)
    have h6 := u_fits hfc hkC hkind (Or.inr hlay) hi (zz_fty hcok hk) hn hft
    exact W.putFinK hx hb hown (zz_wd_ok hw hT args) hi hst hcf hnm (by rw [q2]; exact h6) q1 q3 (by rw [hsl]; exact k2_hasslot (q4 k hk)) rfl rfl hd fun H' e1 e2 e3 => kk H' _ (hR.set hi0 e2 e3 (hfin H' e1))
  · rename_i hF
    have hlay := hts _ (u_in_lay hk)
    unfold u_lay at hlay
    rw [if_neg hF] at hlay
    have h6 := u_store hfc hkC hkind hlay hi (zz_fty hcok hk) hn hft
    simp only [zz_lk, Bool.or_eq_true] at hlk
    rcases hlk with h | h
    · exact W.putK hx hb (f := f) ⟨hown, zz_wd_ok h hT args, ⟨_, _, _, hi⟩, hst⟩ (by rw [q2]; exact h6) q1 q3 (by rw [hsl]; exact k2_hasslot (q4 k hk)) rfl rfl hd fun H' e1 e2 e3 => kk H' _ (hR.set hi0 e2 e3 (hfin H' e1))
    · exact va_WputK hx hb (f := f) hown (zz_wd_ok h hT args) hi hst (by rw [q2]; exact h6) q1 q3 (by rw [hsl]; exact k2_hasslot (q4 k hk)) rfl rfl hd fun H' e1 e2 e3 => kk H' _ (hR.set hi0 e2 e3 (hfin H' e1))
theorem zz_nin {j : Int32} {n : Nat} (h : ¬ j < 0 ∧ j.toNatClampNeg < n) : ¬ (j < 0 ∨ n ≤ j.toNatClampNeg) := fun q => q.elim h.1 (fun z => by omega)
theorem zz_iast_cell {cA : ClassId} {xs : List Int32} {j : Nat} {x : Int32} (hj : j < xs.length) : (arrV cA xs.length (fun k => .int (xs.getD k 0))).setSlot j (.int x) = arrV cA (xs.set j x).length (fun k => .int ((xs.set j x).getD k 0)) := by
  rw [arrV_store, List.length_set]
  congr 1
  funext k
  unfold updV
  rw [set_getD x hj]
  split <;> rfl
theorem zz_aast_cell {g : zz_G} {cA : ClassId} {rs : List (Option Nat)} {j v : Nat} (hj : j < rs.length) : (arrV cA rs.length (fun k => zz_tr g (va_rf (rs.getD k none)))).setSlot j (.ref (zz_ad g v)) = arrV cA (rs.set j (some v)).length (fun k => zz_tr g (va_rf ((rs.set j (some v)).getD k none))) := by
  rw [arrV_store, List.length_set]
  congr 1
  funext k
  unfold updV
  by_cases hk : k = j
  · subst hk
    rw [if_pos rfl, List.getD_eq_getElem?_getD, List.getElem?_set_self hj]
    rfl
  · rw [if_neg hk]
    show zz_tr g (va_rf (rs.getD k none)) = _
    rw [List.getD_eq_getElem?_getD, List.getD_eq_getElem?_getD, List.getElem?_set_ne (Ne.symm hk)]
set_option maxHeartbeats 4000000 in
theorem zz_db_ok (hx : p.tables.exec = Jvm.exec) (hb : c.code = cc) {own : String} (hown : s.vm.findClass own = some m.cls) (hT : zz_ok s) (hK : zz_K g s) {ins : Instr} {len : Nat} {r : List Nat} {v0 : Value} (hd : decode cc pc = .ok (ins, len)) (hlen : zz_len ins = 0 ∨ len = zz_len ins) (htb : zz_tb own meth.name ins r v0 = true) (h : zz_db ins r v0 pc L st cs = some (pc', L', st', cs'))
    (kk : zz_Z g p l e R s m args below meth c Q nL pc' L' st' cs' cu su) : zz_Z g p l e R s m args below meth c Q nL pc L st cs cu su := by
  intro hnL H locs ls hR hl
  have lenO : ∀ k : Nat, (k + 1 = 0 ∨ len = k + 1) → len = k + 1 := fun k q => q.resolve_left (by omega)
  cases ins with
  | getfield idx =>
    cases lenO _ hlen
    simp only [zz_db] at h
    split at h <;> try (cases h; done)
    split at h <;> try (cases h; done)
    split at h <;> try (cases h; done)
    split at h <;> try (cases h; done)
    split at h <;> try (cases h; done)
    rename_i ci k w _ i rest _ cj fs hcell hcj _ v hv
    cases h
    subst hcj
    simp only [zz_tb] at htb
    split at htb
    · rename_i q hq
      simp only [Bool.and_eq_true, decide_eq_true_eq] at htb
      exact zz_get hx hb hown hT hK hq (zz_cok_all cj q hq) htb.1 htb.2 (hR.1.2 i _ (zz_cell_eq hcell)).2 hv hd (kk hnL H locs ls hR hl)
    · cases htb
  | putfield idx =>
    cases lenO _ hlen
    simp only [zz_db] at h
    split at h <;> try (cases h; done)
    split at h <;> try (cases h; done)
    split at h <;> try (cases h; done)
    split at h <;> try (cases h; done)
    rename_i ci k w tc _ v i rest _ cj fs hcell hc
    cases h
    obtain ⟨hcj, hkl, hfit⟩ := hc
    subst hcj
    simp only [zz_tb] at htb
    split at htb
    · rename_i q hq
      simp only [Bool.and_eq_true] at htb
      obtain ⟨t1, t2, t3⟩ := htb
      exact zz_put hx hb hown hT hK hq (zz_cok_all cj q hq) (of_decide_eq_true t1) t2 t3 hR (zz_cell_eq hcell) hkl hfit hd (fun H1 locs1 hR1 => kk hnL H1 locs1 ls hR1 hl)
    · cases htb
  | iaload =>
    cases lenO _ hlen
    simp only [zz_db] at h
    split at h <;> try (cases h; done)
    split at h <;> try (cases h; done)
    split at h <;> try (cases h; done)
    rename_i j i rest _ xs hcell hix
    cases h
    have hix := zz_ix_ok hix
    have hat := (hR.1.2 i _ (zz_cell_eq hcell)).2
    refine W.iald (v := .int (xs.getD j.toNatClampNeg 0)) hx hb hat ((hK.2 0 .int zz_ty0).1 _ _) (fun q => by cases q) (by rw [arrV_size]; exact zz_nin hix) (by rw [arrV_read _ _ hix.2]) rfl rfl hd (kk hnL H locs ls hR hl)
  | iastore =>
    cases lenO _ hlen
    simp only [zz_db] at h
    split at h <;> try (cases h; done)
    split at h <;> try (cases h; done)
    split at h <;> try (cases h; done)
    rename_i x j i rest _ xs hcell hix
    cases h
    have hix := zz_ix_ok hix
    have hat := (hR.1.2 i _ (zz_cell_eq hcell)).2
    exact W.iast hx hb hat ((hK.2 0 .int zz_ty0).1 _ _) (fun q => by cases q) (by rw [arrV_size]; exact zz_nin hix) rfl rfl hd fun H1 e1 z1 o1 => kk hnL H1 _ ls (hR.set (zz_cell_eq hcell) z1 o1 (by
      show H1[zz_ad g i]? = _
      rw [e1, zz_iast_cell hix.2])) hl
  | aaload =>
    cases lenO _ hlen
    simp only [zz_db] at h
    split at h <;> try (cases h; done)
    split at h <;> try (cases h; done)
    split at h <;> try (cases h; done)
    rename_i j i rest _ t rs hcell hix
    cases h
    obtain ⟨ty, hty, href⟩ := zz_rt_ok hix.2
    have hix := zz_ix_ok hix.1
    have hat := (hR.1.2 i _ (zz_cell_eq hcell)).2
    exact W.aald (v := zz_tr g (va_rf (rs.getD j.toNatClampNeg none))) (ty := ty) hx hb hat ((hK.2 t ty hty).1 _ _) href (fun q => by cases q) (by rw [arrV_size]; exact zz_nin hix) (by rw [arrV_read _ _ hix.2]) rfl rfl hd (kk hnL H locs ls hR hl)
  | aastore =>
    cases lenO _ hlen
    simp only [zz_db] at h
    split at h <;> try (cases h; done)
    split at h <;> try (cases h; done)
    split at h <;> try (cases h; done)
    split at h <;> try (cases h; done)
    split at h <;> try (cases h; done)
    rename_i t ci w _ v j i rest _ u rs hcell _ cj fs hcv hc
    cases h
    obtain ⟨hu, hcj, hix⟩ := hc
    subst hu
    subst hcj
    have hix := zz_ix_ok hix
    have hat := (hR.1.2 i _ (zz_cell_eq hcell)).2
    obtain ⟨r, hr, cellV, g1, g2, g3, -⟩ := (hR.1.2 v _ (zz_cell_eq hcv)).2
    simp only [zz_tb] at htb
    split at htb <;> try (cases htb; done)
    rename_i q hq
    split at htb <;> try (cases htb; done)
    rename_i E hE
    cases hr.symm.trans hq
    obtain ⟨kA, comp, k1, k2, k3, -⟩ := (hK.2 u _ hE).2
    obtain ⟨kE, hkE, -⟩ := Vm.findClass_spec k3
    have hcls := (hK.1 cj _ hq).2
    obtain ⟨kC, hkC, -⟩ := hcls.2
    have hasg : s.vm.assignable (g.2.2.2.1 cj) comp = true := by
      simp only [Bool.or_eq_true, decide_eq_true_eq] at htb
      rcases htb with h | h
      · subst h
        cases k3.symm.trans hcls.1
        exact va_assign hcls
      · obtain ⟨c0, t1, f1, f2, f3⟩ := Cond.castable_spec (zz_wd_ok h hT args)
        cases hcls.1.symm.trans f1
        cases k3.symm.trans f2
        exact f3
    exact W.aast hx hb hat (fun q h => by cases h) (fun h => by cases h) k1 k2 rfl hkE ⟨hix.1, by rw [arrV_size]; exact hix.2⟩ g1 (fun q h => by rw [g3] at h; cases h) (by rw [g2]; exact hkC) (by rw [g2]; exact hasg) rfl rfl hd fun H1 e1 z1 o1 => kk hnL H1 _ ls (hR.set (zz_cell_eq hcell) z1 o1 (by
      show H1[zz_ad g i]? = _
      rw [e1, zz_aast_cell hix.2])) hl
  | arraylength =>
    cases lenO _ hlen
    simp only [zz_db] at h
    split at h <;> try (cases h; done)
    split at h <;> try (cases h; done)
    · rename_i i rest _ xs hcell
      cases h
      have hat := (hR.1.2 i _ (zz_cell_eq hcell)).2
      exact W.alen (n := Int32.ofNat xs.length) hx hb hat ((hK.2 0 .int zz_ty0).1 _ _) (by rw [arrV_size] <;> rfl) rfl rfl hd (kk hnL H locs ls hR hl)
    · split at h <;> try (cases h; done)
      rename_i i rest _ t rs hcell hrt
      cases h
      obtain ⟨ty, hty, href⟩ := zz_rt_ok hrt
      have hat := (hR.1.2 i _ (zz_cell_eq hcell)).2
      exact W.alen (n := Int32.ofNat rs.length) hx hb hat ((hK.2 t ty hty).1 _ _) (by rw [arrV_size] <;> rfl) rfl rfl hd (kk hnL H locs ls hR hl)
  | ldc idx =>
    cases lenO _ hlen
    cases h
    simp only [zz_tb] at htb
    split at htb <;> try (cases htb; done)
    split at htb <;> try (cases htb; done)
    exact lv_ldc hx hb hown (zz_wd_ok htb hT args) hd (kk hnL H locs ls hR hl)
  | ldc_w idx =>
    cases lenO _ hlen
    cases h
    simp only [zz_tb] at htb
    split at htb <;> try (cases htb; done)
    split at htb <;> try (cases htb; done)
    exact lv_ldcw hx hb hown (zz_wd_ok htb hT args) hd (kk hnL H locs ls hR hl)
  | ldc2_w idx =>
    cases lenO _ hlen
    cases h
    simp only [zz_tb] at htb
    split at htb <;> try (cases htb; done)
    split at htb <;> try (cases htb; done)
    exact lv_ldc2 hx hb hown (zz_wd_ok htb hT args) hd (kk hnL H locs ls hR hl)
  | _ => exact absurd (show (none : zz_O2) = some _ from h) (by simp)
end ZZ2
end
section
/-! things that are made, calls of members that the kit knows, calls of the system's own methods, returns -/
-- an instruction: its place, itself, its length, its numbers, its constant
abbrev zz_I : Type := Nat × Instr × Nat × List Nat × Value
-- a method: its name; code; locals; answer; how many parameters; is it static; cells and slots that it makes, frames and words of the stack that it asks; the places of its words (code, initialized, instanceMethod or static); its instructions by places over 16
abbrev zz_Mi : Type := MethodName × ByteArray × Nat × Option FieldType × Nat × Bool × (Nat × Nat × Nat × Nat) × (Nat × Nat × Nat) × List (List zz_I)
def zz_nm (y : MethodName) : Bool := !decide (y.cls = "java/lang/invoke/MethodHandle") && !decide (y.cls = "java/lang/invoke/VarHandle")
def zz_mok (mi : zz_Mi) : Bool := match mi with
  | (y, b, nL, ret, n, stt, _, (w0, w1, w2), _) => (zz_wd w0 (.code y b nL ret) && zz_wd w1 (.initialized y.cls)) && ((match stt with
    | true => zz_wd w2 (.static y)
    | false => zz_wd w2 (.instanceMethod y)) && (zz_nm y && (plainName y.cls && decide ((parseMethodDescriptor y.desc).map (fun d => d.parameters.length) = some n))))
def zz_rm (q : Nat × Nat × Nat × Nat) : Room := { frames := q.2.2.1, cells := q.1, slots := q.2.1, locals := q.2.2.2 }
def zz_Pc (g : zz_G) (as : List Value) (cs : zz_W) : Array Value → State → Prop := fun v U => v = (as.map (zz_tr g)).toArray ∧ zz_P g cs U.heap ∧ zz_K g U ∧ zz_ok U
def zz_Qc (g : zz_G) (P : Option Value → zz_W → Prop) : Array Value → State → Outcome → State → Prop := fun _ st o t => ∃ (v : Option Value) (cs' : zz_W), o = .returned (v.map (zz_tr g)) ∧ P v cs' ∧ zz_P g cs' t.heap ∧ st.heap.size ≤ t.heap.size ∧ ∀ q : Nat, q ≤ g.1 → t.heap[q]? = st.heap[q]?
/-- a method's contract: it is called with 'as' over the cells cs -/
def zz_Met (l : Launch) (g : zz_G) (mi : zz_Mi) (as : List Value) (cs : zz_W) (P : Option Value → zz_W → Prop) : Prop :=
  Met l mi.1 [.code mi.1 mi.2.1 mi.2.2.1 mi.2.2.2.1] (zz_rm mi.2.2.2.2.2.2.1) (zz_Pc g as cs) (zz_Qc g P) mi.2.2.2.2.2.2.1.1 mi.2.2.2.2.2.2.1.2.1 (fun q => g.1 < q)
theorem zz_K.moved {g : zz_G} {u U : State} (hvm : u.vm.Alike U.vm) (h : zz_K g u) : zz_K g U := ⟨fun c q hq => u_Kn_moved hvm (h.1 c q hq), fun t ty ht => ⟨arrOfT_moved hvm (h.2 t ty ht).1, (h.2 t ty ht).2.moved hvm⟩⟩
theorem zz_blind (g : zz_G) (as : List Value) (cs : zz_W) : FrameBlind (zz_Pc g as cs) := fun _ U gf mk h => ⟨h.1, h.2.1, zz_K.moved (u := U) (U := U.calling gf mk _) (Vm.Alike.refl U.vm) h.2.2.1, zz_ok.warm (s := U) (U := U.calling gf mk _) (State.WarmedH.refl U) h.2.2.2⟩
def zz_ss (st : List Value) : Nat := (st.map (fun v => v.category)).sum
theorem zz_ss_tr (g : zz_G) (st : List Value) : ((st.map (zz_tr g)).map fun v => v.category).sum = zz_ss st := by
  unfold zz_ss
  rw [List.map_map]
  congr 1
  exact List.map_congr_left fun v _ => zz_tr_cat g v
section ZZ3
variable {g : zz_G} {p : Program} {l : Launch} {e : Env} {R : Room} {s : State} {m : MethodId} {args : Array Value} {below : List Frame} {meth : Method} {c : Code} {Q : State → Prop} {cc : ByteArray} {nL pc pc' n cu su : Nat} {L L' : List (Option Value)} {st st' : List Value} {cs cs' : zz_W}
theorem zz_after {mc ms : Nat} {P : Option Value → zz_W → Prop} {H : Heap} {locs : List Loc} {ls : Array Slot} {st0 : List Value} {rest : List Value} {a : Array Value} (hrun : va_Run p l e R s m args below meth c H locs cu su mc ms (F0 m pc ls st0) (rest.map (zz_tr g)) (zz_Qc g P a) (fun q => g.1 < q)) (hR : zz_R g s cs H locs)
    (kk : ∀ (v : Option Value) (cs' : zz_W) (H1 : Heap) (locs1 : List Loc), P v cs' → zz_R g s cs' H1 locs1 → W p l e R s m args below meth c H1 locs1 (cu + mc) (su + ms) Q (F0 m (pc + 3) ls ((v.toList ++ rest).map (zz_tr g)))) : W p l e R s m args below meth c H locs cu su Q (F0 m pc ls st0) := by
  intro T hT X
  obtain ⟨v', st₀, t, T', Lx, h0, X', hL, e1, e2, ⟨v, cs', hv, hP, hPP, hsz, hfr⟩, go⟩ := hrun T hT X
  cases hv
  obtain ⟨t2, a1, b1⟩ := kk v cs' t.heap (locs ++ Lx) hP ⟨hPP, by rw [h0] at hsz; exact Nat.le_trans hR.2.1 hsz, fun q hq => by rw [hfr q hq, h0]; exact hR.2.2.1 q hq, fun q hq => (List.mem_append.mp hq).elim (hR.2.2.2 q) (hL q)⟩ T' e1 X'
  refine ⟨t2, go t2 ?_, b1⟩
  have e3 : (v.toList ++ rest).map (zz_tr g) = (v.map (zz_tr g)).toList ++ rest.map (zz_tr g) := by cases v <;> rfl
  rw [e3] at a1
  exact a1
theorem zz_split {n : Nat} {rest : List Value} (h : st.drop n = rest) : st.map (zz_tr g) = (((st.take n).reverse).map (zz_tr g)).reverse ++ rest.map (zz_tr g) := by
  rw [List.map_reverse, List.reverse_reverse, ← h, ← List.map_append, List.take_append_drop]
theorem zz_lenas {n : Nat} (h : n ≤ st.length) : (((st.take n).reverse).map (zz_tr g)).length = n := by
  rw [List.length_map, List.length_reverse, List.length_take]
  omega
theorem zz_pc {as : List Value} (hK : zz_K g s) (hT : zz_ok s) {H : Heap} {locs : List Loc} (hR : zz_R g s cs H locs) (U : State) (hU : U.heap = H) (hW : s.WarmedH U.vm) : zz_Pc g as cs (as.map (zz_tr g)).toArray U := ⟨rfl, by rw [hU]; exact hR.1, zz_K.moved hW.alike hK, zz_ok.warm hW hT⟩
variable {y : MethodName} {b : ByteArray} {mL mc ms fr lo w0 w1 w2 idx w w' i ci : Nat} {ret : Option FieldType} {stt : Bool} {code : List (List zz_I)} {own : String} {H : Heap} {locs : List Loc} {ls : Array Slot} {as rest : List Value} {P : Option Value → zz_W → Prop}
/-- what every call of a method of the system asks -/
def zz_cb (R : Room) (s : State) (args : Array Value) (y : MethodName) (b : ByteArray) (mL : Nat) (ret : Option FieldType) (mc ms fr lo n : Nat) : Prop :=
  ((zz_rm (mc, ms, fr, lo)).cells = mc ∧ (zz_rm (mc, ms, fr, lo)).slots = ms ∧ (zz_rm (mc, ms, fr, lo)).frames + 1 ≤ R.frames ∧ 8 + (mL + 11) + (zz_rm (mc, ms, fr, lo)).locals ≤ R.locals ∧ (∀ w ∈ [Jvm.Cond.code y b mL ret], ∀ (a' : Array Value) (U : State), s.WarmedH U.vm → w.before a' U = true) ∧ Jvm.Cond.code y b mL ret ∈ [Jvm.Cond.code y b mL ret]) ∧
  (Jvm.Cond.code y b mL ret).before args s = true ∧ (Jvm.Cond.initialized y.cls).before args s = true ∧ (y.cls ≠ "java/lang/invoke/MethodHandle" ∧ y.cls ≠ "java/lang/invoke/VarHandle") ∧ (∀ sig, parseMethodDescriptor y.desc = some sig → n = sig.parameters.length)
theorem zz_cb_of (hT : zz_ok s) (h : zz_mok (y, b, mL, ret, n, stt, (mc, ms, fr, lo), (w0, w1, w2), code) = true) (hR : fr + 1 ≤ R.frames ∧ 8 + (mL + 11) + lo ≤ R.locals) : zz_cb R s args y b mL ret mc ms fr lo n ∧ (stt = false → (Jvm.Cond.instanceMethod y).before args s = true) ∧ (stt = true → (Jvm.Cond.static y).before args s = true) := by
  simp only [zz_mok, Bool.and_eq_true, decide_eq_true_eq, zz_nm, Bool.not_eq_true', decide_eq_false_iff_not] at h
  obtain ⟨⟨h1, h2⟩, h3, h4, h5, h7⟩ := h
  refine ⟨⟨⟨rfl, rfl, hR.1, hR.2, ?_, List.mem_singleton.mpr rfl⟩, zz_wd_ok h1 hT args, zz_wd_ok h2 hT args, h4, ?_⟩, ?_, ?_⟩
  · intro w hw a' U hW
    rw [List.mem_singleton.mp hw]
    exact zz_wd_ok h1 (hT.warm hW) a'
  · intro sig hs
    rw [hs] at h7
    exact (Option.some.inj h7).symm
  · intro q
    subst q
    exact zz_wd_ok h3 hT args
  · intro q
    subst q
    exact zz_wd_ok h3 hT args
theorem zz_recv {fs : List Value} {q : vw_C} (hK : zz_K g s) (hR : zz_R g s cs H locs) (hq : classes[ci]? = some q) (hi : zz_cell cs i = some (.inr (.inr (ci, fs)))) : ∃ cell : Cell, H[zz_ad g i]? = some cell ∧ cell.vm.isStatics = false ∧ s.vm.findClass q.1 = some cell.cls := by
  obtain ⟨r, h1, cell, q1, q2, q3, q4⟩ := (hR.1.2 i _ (zz_cell_eq hi)).2
  cases hq.symm.trans h1
  exact ⟨cell, q1, by rw [q3]; rfl, by rw [q2]; exact (hK.1 ci q hq).2.1⟩
theorem zz_runV (hx : p.tables.exec = Jvm.exec) (hb : c.code = cc) (hml : c.maxLocals = nL) (hown : s.vm.findClass own = some m.cls) (hT : zz_ok s) (hK : zz_K g s) (hmok : zz_mok (y, b, mL, ret, n, stt, (mc, ms, fr, lo), (w0, w1, w2), code) = true) (hstt : stt = false) (hM : zz_Met l g (y, b, mL, ret, n, stt, (mc, ms, fr, lo), (w0, w1, w2), code) (.ref i :: as) cs P) (hlink : zz_wd w (.methodLink own idx y) = true) (hsel : zz_wd w' (.selects y.cls y y) = true) {fs : List Value} {q : vw_C} (hq : classes[ci]? = some q) (hi : zz_cell cs i = some (.inr (.inr (ci, fs)))) (hqc : q.1 = y.cls) (hd : decode cc pc = .ok (.invokevirtual idx, 3)) (hR9 : fr + 1 ≤ R.frames ∧ 8 + (mL + 11) + lo ≤ R.locals) (hsum : zz_ss rest ≤ 8) (hf : cu + mc ≤ R.cells ∧ su + ms ≤ R.slots) (hlen : as.length = n) (hls : ls.size = nL) (hR : zz_R g s cs H locs) :
    va_Run p l e R s m args below meth c H locs cu su mc ms (F0 m pc ls ((as.map (zz_tr g)).reverse ++ .ref (zz_ad g i) :: rest.map (zz_tr g))) (rest.map (zz_tr g)) (zz_Qc g P ((Value.ref i :: as).map (zz_tr g)).toArray) (fun q => g.1 < q) := by
  obtain ⟨cb, hin, hst⟩ := zz_cb_of (args := args) (R := R) hT hmok hR9
  have hin := hin hstt
  obtain ⟨⟨c1, c2, c3, c4, c5, c6⟩, c7, c8, c9, c10⟩ := cb
  exact va_runV (Ts := []) ⟨hx, hb, hml, hown, fun _ h => by cases h⟩ hM ⟨⟨c1, c2, c3, c4, c5, c6, c7, c8, c9, c10, zz_wd_ok hlink hT args⟩, hin, zz_wd_ok hsel hT args⟩ (by have z : PreV s H q.1 (zz_ad g i) (zz_Pc g (.ref i :: as) cs) (as.map (zz_tr g)) := ⟨zz_blind g _ cs, zz_recv hK hR hq hi, fun U hU hW => zz_pc (as := .ref i :: as) hK hT hR U hU hW⟩; rw [hqc] at z; exact z) rfl ((List.length_map _).trans hlen) hls rfl (lv_room (by rw [zz_ss_tr]; exact hsum)) hd hf
theorem zz_runVN (hx : p.tables.exec = Jvm.exec) (hb : c.code = cc) (hml : c.maxLocals = nL) (hown : s.vm.findClass own = some m.cls) (hT : zz_ok s) (hK : zz_K g s) (hmok : zz_mok (y, b, mL, ret, n, stt, (mc, ms, fr, lo), (w0, w1, w2), code) = true) (hstt : stt = false) (hM : zz_Met l g (y, b, mL, ret, n, stt, (mc, ms, fr, lo), (w0, w1, w2), code) (.ref i :: as) cs P) (hlink : zz_wd w (.methodLinkNest own idx y zz_host) = true) (hsel : zz_wd w' (.selects y.cls y y) = true) {fs : List Value} {q : vw_C} (hq : classes[ci]? = some q) (hi : zz_cell cs i = some (.inr (.inr (ci, fs)))) (hqc : q.1 = y.cls) (hd : decode cc pc = .ok (.invokevirtual idx, 3)) (hR9 : fr + 1 ≤ R.frames ∧ 8 + (mL + 11) + lo ≤ R.locals) (hsum : zz_ss rest ≤ 8) (hf : cu + mc ≤ R.cells ∧ su + ms ≤ R.slots) (hlen : as.length = n) (hls : ls.size = nL) (hR : zz_R g s cs H locs) :
    va_Run p l e R s m args below meth c H locs cu su mc ms (F0 m pc ls ((as.map (zz_tr g)).reverse ++ .ref (zz_ad g i) :: rest.map (zz_tr g))) (rest.map (zz_tr g)) (zz_Qc g P ((Value.ref i :: as).map (zz_tr g)).toArray) (fun q => g.1 < q) := by
  obtain ⟨cb, hin, hst⟩ := zz_cb_of (args := args) (R := R) hT hmok hR9
  have hin := hin hstt
  obtain ⟨⟨c1, c2, c3, c4, c5, c6⟩, c7, c8, c9, c10⟩ := cb
  exact va_runVN (Ts := []) ⟨hx, hb, hml, hown, fun _ h => by cases h⟩ hM ⟨⟨⟨c1, c2, c3, c4, c5, c6⟩, c7, c8, c9, c10, zz_wd_ok hlink hT args⟩, hin, zz_wd_ok hsel hT args⟩ (by have z : PreV s H q.1 (zz_ad g i) (zz_Pc g (.ref i :: as) cs) (as.map (zz_tr g)) := ⟨zz_blind g _ cs, zz_recv hK hR hq hi, fun U hU hW => zz_pc (as := .ref i :: as) hK hT hR U hU hW⟩; rw [hqc] at z; exact z) rfl ((List.length_map _).trans hlen) hls rfl (lv_room (by rw [zz_ss_tr]; exact hsum)) hd hf
theorem zz_runS (hx : p.tables.exec = Jvm.exec) (hb : c.code = cc) (hml : c.maxLocals = nL) (hown : s.vm.findClass own = some m.cls) (hT : zz_ok s) (hK : zz_K g s) (hmok : zz_mok (y, b, mL, ret, n, stt, (mc, ms, fr, lo), (w0, w1, w2), code) = true) (hstt : stt = true) (hM : zz_Met l g (y, b, mL, ret, n, stt, (mc, ms, fr, lo), (w0, w1, w2), code) as cs P) (hlink : zz_wd w (.methodLink own idx y) = true) (hd : decode cc pc = .ok (.invokestatic idx, 3)) (hR9 : fr + 1 ≤ R.frames ∧ 8 + (mL + 11) + lo ≤ R.locals) (hsum : zz_ss rest ≤ 8) (hf : cu + mc ≤ R.cells ∧ su + ms ≤ R.slots) (hlen : as.length = n) (hls : ls.size = nL) (hR : zz_R g s cs H locs) :
    va_Run p l e R s m args below meth c H locs cu su mc ms (F0 m pc ls ((as.map (zz_tr g)).reverse ++ rest.map (zz_tr g))) (rest.map (zz_tr g)) (zz_Qc g P (as.map (zz_tr g)).toArray) (fun q => g.1 < q) := by
  obtain ⟨cb, hin, hst⟩ := zz_cb_of (args := args) (R := R) hT hmok hR9
  have hin := hst hstt
  obtain ⟨⟨c1, c2, c3, c4, c5, c6⟩, c7, c8, c9, c10⟩ := cb
  exact va_runS (Ts := []) ⟨hx, hb, hml, hown, fun _ h => by cases h⟩ hM ⟨⟨c1, c2, c3, c4, c5, c6, c7, c8, c9, c10, zz_wd_ok hlink hT args⟩, hin⟩ ⟨zz_blind g _ cs, fun U hU hW => zz_pc hK hT hR U hU hW⟩ rfl ((List.length_map _).trans hlen) hls rfl (lv_room (by rw [zz_ss_tr]; exact hsum)) hd hf
theorem zz_runSN (hx : p.tables.exec = Jvm.exec) (hb : c.code = cc) (hml : c.maxLocals = nL) (hown : s.vm.findClass own = some m.cls) (hT : zz_ok s) (hK : zz_K g s) (hmok : zz_mok (y, b, mL, ret, n, stt, (mc, ms, fr, lo), (w0, w1, w2), code) = true) (hstt : stt = true) (hM : zz_Met l g (y, b, mL, ret, n, stt, (mc, ms, fr, lo), (w0, w1, w2), code) as cs P) (hlink : zz_wd w (.methodLinkNest own idx y zz_host) = true) (hd : decode cc pc = .ok (.invokestatic idx, 3)) (hR9 : fr + 1 ≤ R.frames ∧ 8 + (mL + 11) + lo ≤ R.locals) (hsum : zz_ss rest ≤ 8) (hf : cu + mc ≤ R.cells ∧ su + ms ≤ R.slots) (hlen : as.length = n) (hls : ls.size = nL) (hR : zz_R g s cs H locs) :
    va_Run p l e R s m args below meth c H locs cu su mc ms (F0 m pc ls ((as.map (zz_tr g)).reverse ++ rest.map (zz_tr g))) (rest.map (zz_tr g)) (zz_Qc g P (as.map (zz_tr g)).toArray) (fun q => g.1 < q) := by
  obtain ⟨cb, hin, hst⟩ := zz_cb_of (args := args) (R := R) hT hmok hR9
  have hin := hst hstt
  obtain ⟨⟨c1, c2, c3, c4, c5, c6⟩, c7, c8, c9, c10⟩ := cb
  exact va_runSN (Ts := []) ⟨hx, hb, hml, hown, fun _ h => by cases h⟩ hM ⟨⟨⟨c1, c2, c3, c4, c5, c6⟩, c7, c8, c9, c10, zz_wd_ok hlink hT args⟩, hin, trivial⟩ ⟨zz_blind g _ cs, fun U hU hW => zz_pc hK hT hR U hU hW⟩ rfl ((List.length_map _).trans hlen) hls rfl (lv_room (by rw [zz_ss_tr]; exact hsum)) hd hf
theorem zz_runI (hx : p.tables.exec = Jvm.exec) (hb : c.code = cc) (hml : c.maxLocals = nL) (hown : s.vm.findClass own = some m.cls) (hT : zz_ok s) (hK : zz_K g s) (hmok : zz_mok (y, b, mL, ret, n, stt, (mc, ms, fr, lo), (w0, w1, w2), code) = true) (hstt : stt = false) (hM : zz_Met l g (y, b, mL, ret, n, stt, (mc, ms, fr, lo), (w0, w1, w2), code) (.ref i :: as) cs P) (hret : ret = none) (hy1 : y.name = "<init>") (hlink : zz_wd w (.methodLink own idx y) = true) (hd : decode cc pc = .ok (.invokespecial idx, 3)) (hR9 : fr + 1 ≤ R.frames ∧ 8 + (mL + 11) + lo ≤ R.locals) (hsum : zz_ss rest ≤ 8) (hf : cu + mc ≤ R.cells ∧ su + ms ≤ R.slots) (hlen : as.length = n) (hls : ls.size = nL) (hR : zz_R g s cs H locs) :
    va_Run p l e R s m args below meth c H locs cu su mc ms (F0 m pc ls ((as.map (zz_tr g)).reverse ++ .ref (zz_ad g i) :: rest.map (zz_tr g))) (rest.map (zz_tr g)) (zz_Qc g P ((Value.ref i :: as).map (zz_tr g)).toArray) (fun q => g.1 < q) := by
  obtain ⟨cb, hin, hst⟩ := zz_cb_of (args := args) (R := R) hT hmok hR9
  have hin := hin hstt
  obtain ⟨⟨c1, c2, c3, c4, c5, c6⟩, c7, c8, c9, c10⟩ := cb
  subst hret
  exact va_runI (Ts := []) ⟨hx, hb, hml, hown, fun _ h => by cases h⟩ hM ⟨⟨c1, c2, c3, c4, c5, c6, c7, c8, c9, c10, zz_wd_ok hlink hT args⟩, hy1, hin⟩ ⟨zz_blind g _ cs, fun U hU hW => zz_pc (as := .ref i :: as) hK hT hR U hU hW⟩ rfl ((List.length_map _).trans hlen) hls rfl (lv_room (by rw [zz_ss_tr]; exact hsum)) hd hf
theorem zz_runIN (hx : p.tables.exec = Jvm.exec) (hb : c.code = cc) (hml : c.maxLocals = nL) (hown : s.vm.findClass own = some m.cls) (hT : zz_ok s) (hK : zz_K g s) (hmok : zz_mok (y, b, mL, ret, n, stt, (mc, ms, fr, lo), (w0, w1, w2), code) = true) (hstt : stt = false) (hM : zz_Met l g (y, b, mL, ret, n, stt, (mc, ms, fr, lo), (w0, w1, w2), code) (.ref i :: as) cs P) (hret : ret = none) (hy1 : y.name = "<init>") (hlink : zz_wd w (.methodLinkNest own idx y zz_host) = true) (hd : decode cc pc = .ok (.invokespecial idx, 3)) (hR9 : fr + 1 ≤ R.frames ∧ 8 + (mL + 11) + lo ≤ R.locals) (hsum : zz_ss rest ≤ 8) (hf : cu + mc ≤ R.cells ∧ su + ms ≤ R.slots) (hlen : as.length = n) (hls : ls.size = nL) (hR : zz_R g s cs H locs) :
    va_Run p l e R s m args below meth c H locs cu su mc ms (F0 m pc ls ((as.map (zz_tr g)).reverse ++ .ref (zz_ad g i) :: rest.map (zz_tr g))) (rest.map (zz_tr g)) (zz_Qc g P ((Value.ref i :: as).map (zz_tr g)).toArray) (fun q => g.1 < q) := by
  obtain ⟨cb, hin, hst⟩ := zz_cb_of (args := args) (R := R) hT hmok hR9
  have hin := hin hstt
  obtain ⟨⟨c1, c2, c3, c4, c5, c6⟩, c7, c8, c9, c10⟩ := cb
  subst hret
  exact va_runIN (Ts := []) ⟨hx, hb, hml, hown, fun _ h => by cases h⟩ hM ⟨⟨⟨c1, c2, c3, c4, c5, c6⟩, c7, c8, c9, c10, zz_wd_ok hlink hT args⟩, hy1, hin⟩ ⟨zz_blind g _ cs, fun U hU hW => zz_pc (as := .ref i :: as) hK hT hR U hU hW⟩ rfl ((List.length_map _).trans hlen) hls rfl (lv_room (by rw [zz_ss_tr]; exact hsum)) hd hf
theorem zz_runSU (hx : p.tables.exec = Jvm.exec) (hb : c.code = cc) (hml : c.maxLocals = nL) (hown : s.vm.findClass own = some m.cls) (hT : zz_ok s) (hK : zz_K g s) (hmok : zz_mok (y, b, mL, ret, n, stt, (mc, ms, fr, lo), (w0, w1, w2), code) = true) (hstt : stt = false) (hM : zz_Met l g (y, b, mL, ret, n, stt, (mc, ms, fr, lo), (w0, w1, w2), code) (.ref i :: as) cs P) {wm wu : Nat} (hno : y.name ≠ "<init>") (hlink : zz_wd w (.methodLink own idx y) = true) (hsame : zz_wd wm (.sameMethod y.cls y.cls y.name y.desc) = true) (hsup : zz_wd wu (.superclass own y.cls) = true) {fs : List Value} {q : vw_C} (hq : classes[ci]? = some q) (hi : zz_cell cs i = some (.inr (.inr (ci, fs)))) (hd : decode cc pc = .ok (.invokespecial idx, 3)) (hR9 : fr + 1 ≤ R.frames ∧ 8 + (mL + 11) + lo ≤ R.locals) (hsum : zz_ss rest ≤ 8) (hf : cu + mc ≤ R.cells ∧ su + ms ≤ R.slots) (hlen : as.length = n) (hls : ls.size = nL) (hR : zz_R g s cs H locs) :
    va_Run p l e R s m args below meth c H locs cu su mc ms (F0 m pc ls ((as.map (zz_tr g)).reverse ++ .ref (zz_ad g i) :: rest.map (zz_tr g))) (rest.map (zz_tr g)) (zz_Qc g P ((Value.ref i :: as).map (zz_tr g)).toArray) (fun q => g.1 < q) := by
  obtain ⟨cb, hin, hst⟩ := zz_cb_of (args := args) (R := R) hT hmok hR9
  have hin := hin hstt
  obtain ⟨⟨c1, c2, c3, c4, c5, c6⟩, c7, c8, c9, c10⟩ := cb
  exact va_runSU (hK.1 ci q hq).2 (Ts := []) ⟨hx, hb, hml, hown, fun _ h => by cases h⟩ hM ⟨⟨c1, c2, c3, c4, c5, c6⟩, zz_wd_ok hlink hT args, zz_wd_ok hsame hT args, zz_wd_ok hsup hT args, hin, c8, c7, hno, c10⟩ ⟨zz_blind g _ cs, zz_recv hK hR hq hi, fun U hU hW => zz_pc (as := .ref i :: as) hK hT hR U hU hW⟩ rfl ((List.length_map _).trans hlen) hls rfl (lv_room (by rw [zz_ss_tr]; exact hsum)) hd hf
theorem zz_runU (hx : p.tables.exec = Jvm.exec) (hb : c.code = cc) (hml : c.maxLocals = nL) (hown : s.vm.findClass own = some m.cls) (hT : zz_ok s) (hK : zz_K g s) (hmok : zz_mok (y, b, mL, ret, n, stt, (mc, ms, fr, lo), (w0, w1, w2), code) = true) (hstt : stt = false) (hM : zz_Met l g (y, b, mL, ret, n, stt, (mc, ms, fr, lo), (w0, w1, w2), code) (.ref i :: as) cs P) {wm wi wc oL : Nat} {x : MethodName} {owner : String} {ob : ByteArray} {oret : Option FieldType} (hxn : (parseMethodDescriptor x.desc).map (fun d => d.parameters.length) = some n) (how : owner ≠ "java/lang/invoke/MethodHandle" ∧ owner ≠ "java/lang/invoke/VarHandle") (hlink : zz_wd w (.methodLink own idx x) = true) (hsame : zz_wd wm (.sameMethod x.cls owner x.name x.desc) = true) (hoi : zz_wd wi (.instanceMethod ⟨owner, x.name, x.desc⟩) = true) (hoc : zz_wd wc (.code ⟨owner, x.name, x.desc⟩ ob oL oret) = true) {fs : List Value} {q : vw_C} (hq : classes[ci]? = some q) (hi : zz_cell cs i = some (.inr (.inr (ci, fs)))) (hsel : zz_wd w' (.selects q.1 x y) = true) (hd : decode cc pc = .ok (.invokevirtual idx, 3)) (hR9 : fr + 1 ≤ R.frames ∧ 8 + (mL + 11) + lo ≤ R.locals) (hsum : zz_ss rest ≤ 8) (hf : cu + mc ≤ R.cells ∧ su + ms ≤ R.slots) (hlen : as.length = n) (hls : ls.size = nL) (hR : zz_R g s cs H locs) :
    va_Run p l e R s m args below meth c H locs cu su mc ms (F0 m pc ls ((as.map (zz_tr g)).reverse ++ .ref (zz_ad g i) :: rest.map (zz_tr g))) (rest.map (zz_tr g)) (zz_Qc g P ((Value.ref i :: as).map (zz_tr g)).toArray) (fun q => g.1 < q) := by
  obtain ⟨cb, hin, hst⟩ := zz_cb_of (args := args) (R := R) hT hmok hR9
  have hin := hin hstt
  obtain ⟨⟨c1, c2, c3, c4, c5, c6⟩, c7, c8, c9, c10⟩ := cb
  exact va_runU (owner := owner) (x := x) (Ts := []) ⟨hx, hb, hml, hown, fun _ h => by cases h⟩ hM ⟨⟨c1, c2, c3, c4, c5, c6⟩, c7, c8, how, (fun sig hs => by rw [hs] at hxn; exact (Option.some.inj hxn).symm), zz_wd_ok hlink hT args, zz_wd_ok hsame hT args, va_Decl.of (zz_wd_ok hoi hT args) (zz_wd_ok hoc hT args), zz_wd_ok hsel hT args, hin⟩ ⟨zz_blind g _ cs, zz_recv hK hR hq hi, fun U hU hW => zz_pc (as := .ref i :: as) hK hT hR U hU hW⟩ rfl ((List.length_map _).trans hlen) hls rfl (lv_room (by rw [zz_ss_tr]; exact hsum)) hd hf
end ZZ3
end
section
/-! what is made, and the members that the kit knows -/
abbrev zz_O3 : Type := Option (Nat × List (Option Value) × List Value × zz_W × Nat × Nat)
def zz_dv (q : vw_C) : List Value := (List.range q.2.2).map (fun k => defaultValue (zz_ft q k))
def zz_al (ins : Instr) (r : List Nat) (Bc Bs pc : Nat) (L : List (Option Value)) (st : List Value) (cs : zz_W) (cu su : Nat) : zz_O3 := match ins with
  | .new _ => match r with
    | [ci, _, _, _] => match classes[ci]? with
      | some q => if cu + 1 ≤ Bc ∧ su + q.2.2 ≤ Bs ∧ 0 < cs.length then some (pc + 3, L, .ref cs.length :: st, cs ++ [some (.inr (.inr (ci, zz_dv q)))], cu + 1, su + q.2.2) else none
      | none => none
    | _ => none
  | .newarray _ => match st with
    | .int n :: rest => if ¬ n < 0 ∧ n.toNatClampNeg ≤ 100000 ∧ cu + 1 ≤ Bc ∧ su + n.toNatClampNeg ≤ Bs ∧ 0 < cs.length then some (pc + 2, L, .ref cs.length :: rest, cs ++ [some (.inl (List.replicate n.toNatClampNeg 0))], cu + 1, su + n.toNatClampNeg) else none
    | _ => none
  | .anewarray _ => match r with
    | [t, _, _] => match st with
      | .int n :: rest => if ¬ n < 0 ∧ n.toNatClampNeg ≤ 100000 ∧ cu + 1 ≤ Bc ∧ su + n.toNatClampNeg ≤ Bs ∧ 0 < cs.length then some (pc + 3, L, .ref cs.length :: rest, cs ++ [some (.inr (.inl (t, List.replicate n.toNatClampNeg none)))], cu + 1, su + n.toNatClampNeg) else none
      | _ => none
    | _ => none
  | .multianewarray _ dims => match r with
    | [t, _, _, _] => match st with
      | .int k :: .int n :: rest => if dims = 2 ∧ zz_ty[t]? = some (.array .int) ∧ ¬ n < 0 ∧ ¬ k < 0 ∧ n.toNatClampNeg ≤ 100000 ∧ k.toNatClampNeg ≤ 100000 ∧ cu + (1 + n.toNatClampNeg) ≤ Bc ∧ su + (n.toNatClampNeg + n.toNatClampNeg * k.toNatClampNeg) ≤ Bs ∧ 0 < cs.length then some (pc + 4, L, .ref cs.length :: rest, cs ++ (some (.inr (.inl (t, (List.range n.toNatClampNeg).map (fun i => some (cs.length + 1 + i))))) :: List.replicate n.toNatClampNeg (some (.inl (List.replicate k.toNatClampNeg 0)))), cu + 1 + n.toNatClampNeg, su + n.toNatClampNeg + n.toNatClampNeg * k.toNatClampNeg) else none
      | _ => none
    | _ => none
  | _ => none
def zz_at3 (own : String) (ins : Instr) (r : List Nat) : Bool := match ins with
  | .new idx => match r with
    | [ci, w1, w2, w3] => match classes[ci]? with
      | some q => zz_wd w1 (.classLink own idx q.1) && (zz_wd w2 (.instantiable q.1 q.2.2) && zz_wd w3 (.initialized q.1))
      | none => false
    | _ => false
  | .newarray ty => match r with
    | [w] => decide (ty = .int) && zz_wd w (.arrayClass .int)
    | _ => false
  | .anewarray idx => match r with
    | [t, w1, w2] => match zz_ty[t]? with
      | some (.object C) => zz_wd w1 (.classLink own idx C) && zz_wd w2 (.arrayOver (.object C))
      | _ => false
    | _ => false
  | .multianewarray idx _ => match r with
    | [_, w1, w2, w3] => zz_wd w1 (.classLink own idx ("[" ++ (FieldType.array .int).toString)) && (zz_wd w2 (.arrayOver (.array .int)) && zz_wd w3 (.arrayClass .int))
    | _ => false
  | _ => true
def zz_na (ins : Instr) (r : List Nat) (fr lo pc : Nat) (L : List (Option Value)) (st : List Value) (cs : zz_W) : zz_O2 := match ins with
  | .invokespecial _ => match r with
    | [0, _, _, _] => match st with
      | .ref _ :: rest => if 1 ≤ fr ∧ zz_ss rest + 12 ≤ lo then some (pc + 3, L, rest, cs) else none
      | _ => none
    | _ => none
  | .invokestatic _ => match r with
    | [10, _, _, _, _] => match st with
      | .int y :: .int x :: rest => if 1 ≤ fr ∧ zz_ss rest + 13 ≤ lo then some (pc + 3, L, .int (if x < y then y else x) :: rest, cs) else none
      | _ => none
    | [11, _, _, _, _] => match st with
      | .int y :: .int x :: rest => if 1 ≤ fr ∧ zz_ss rest + 13 ≤ lo then some (pc + 3, L, .int (if y < x then y else x) :: rest, cs) else none
      | _ => none
    | [12, _, _, _, _] => match st with
      | .int n :: .int dp :: .ref j :: .int sp :: .ref i :: rest => match zz_cell cs i with
        | some (.inl xs) => match zz_cell cs j with
          | some (.inl ys) => if 1 ≤ fr ∧ zz_ss rest + 18 ≤ lo ∧ sp = 0 ∧ dp = 0 ∧ ¬ n < 0 ∧ n.toNatClampNeg ≤ xs.length ∧ n.toNatClampNeg ≤ ys.length then some (pc + 3, L, rest, cs.set j (some (.inl (xs.take n.toNatClampNeg ++ ys.drop n.toNatClampNeg)))) else none
          | _ => none
        | _ => none
      | _ => none
    | _ => none
  | _ => none
def zz_tn (own : String) (ins : Instr) (r : List Nat) : Bool := match ins with
  | .invokespecial idx => match r with
    | [0, w1, w2, w3] => zz_wd w1 (.methodLink own idx Lib.objectInit) && (zz_wd w2 (.instanceMethod Lib.objectInit) && zz_wd w3 (.code Lib.objectInit ⟨#[0xb1]⟩ 1 none))
    | _ => true
  | .invokestatic idx => match r with
    | [10, w1, w2, w3, w4] => zz_wd w1 (.methodLink own idx Lib.Math.max.name) && (zz_wd w2 (.static Lib.Math.max.name) && (zz_wd w3 (.initialized "java/lang/Math") && zz_wd w4 (.code Lib.Math.max.name Lib.Math.max.code 2 (some .int))))
    | [11, w1, w2, w3, w4] => zz_wd w1 (.methodLink own idx Lib.Math.min.name) && (zz_wd w2 (.static Lib.Math.min.name) && (zz_wd w3 (.initialized "java/lang/Math") && zz_wd w4 (.code Lib.Math.min.name Lib.Math.min.code 2 (some .int))))
    | [12, w1, w2, w3, w4] => zz_wd w1 (.methodLink own idx arraycopyName) && (zz_wd w2 (.native arraycopyName) && (zz_wd w3 (.static arraycopyName) && zz_wd w4 (.initialized "java/lang/System")))
    | _ => true
  | _ => true
theorem zz_getD_rep {α : Type} (n : Nat) (a : α) (j : Nat) : (List.replicate n a).getD j a = a := by
  rw [List.getD_eq_getElem?_getD, List.getElem?_replicate]
  split <;> rfl
section ZZ4
variable {g : zz_G} {p : Program} {l : Launch} {e : Env} {R : Room} {s : State} {m : MethodId} {args : Array Value} {below : List Frame} {meth : Method} {c : Code} {Q : State → Prop} {cc : ByteArray} {nL pc pc' n cu su cu' su' d : Nat} {L L' : List (Option Value)} {st st' : List Value} {cs cs' : zz_W}
theorem zz_outer (c : ClassId) (N h0 : Nat) : ∀ i : Nat, Jvm.Free.Multi.outerC c N h0 i = arrV c N (fun j => va_rf (if j < i then some (h0 + 1 + j) else none))
  | 0 => by
    show ({ cls := c, slots := Array.replicate N .null, vm := .none } : Cell) = _
    rw [arrV_new]
    refine congrArg (arrV c N) (funext fun j => ?_)
    simp [va_rf]
  | i + 1 => by
    show (Jvm.Free.Multi.outerC c N h0 i).setSlot i (.ref (h0 + 1 + i)) = _
    rw [zz_outer c N h0 i, arrV_store]
    refine congrArg (arrV c N) (funext fun j => ?_)
    by_cases e : j = i
    · subst e
      simp [updV, va_rf]
    · by_cases h : j < i
      · simp [updV, e, h, Nat.lt_succ_of_lt h]
      · simp [updV, e, h, show ¬ j < i + 1 by omega]
theorem zz_R.pushes {g : zz_G} {s : State} {cs add : zz_W} {H H1 : Heap} {locs : List Loc} (h : zz_R g s cs H locs) (h0 : 0 < cs.length) (hz : H1.size = H.size + add.length) (hq : ∀ q, q < H.size → H1[q]? = H[q]?) (hc : ∀ (i : Nat) (c : zz_C), add[i]? = some (some c) → zz_at g (cs.length + i) c H1) : zz_R g s (cs ++ add) H1 locs := by
  obtain ⟨h1, h2, h3, h4⟩ := h
  have hsz := h1.1
  refine ⟨⟨by rw [hz, List.length_append, hsz]; omega, fun j d hj => ?_⟩, by omega, fun q hq1 => (hq q (by omega)).trans (h3 q hq1), h4⟩
  by_cases hl : j < cs.length
  · rw [List.getElem?_append_left hl] at hj
    obtain ⟨h5, h6⟩ := h1.2 j d hj
    exact ⟨h5, h6.kept (hq _ (by rw [zz_ad_pos g h5]; omega))⟩
  · rw [List.getElem?_append_right (by omega)] at hj
    have h5 := hc _ d hj
    rw [show cs.length + (j - cs.length) = j by omega] at h5
    exact ⟨by omega, h5⟩
theorem zz_dv_tr (g : zz_G) (q : vw_C) {j : Nat} (hj : j < q.2.2) : vp_V ((zz_dv q).map (zz_tr g)) j = defaultValue (zz_ft q j) := by
  unfold vp_V zz_dv
  rw [List.getD_eq_getElem?_getD, List.map_map, List.getElem?_map, List.getElem?_range hj]
  show zz_tr g (defaultValue (zz_ft q j)) = _
  cases zz_ft q j <;> rfl
set_option maxHeartbeats 4000000 in
theorem zz_al_ok (hx : p.tables.exec = Jvm.exec) (hb : c.code = cc) {own : String} (hown : s.vm.findClass own = some m.cls) (hT : zz_ok s) (hK : zz_K g s) {ins : Instr} {len : Nat} {r : List Nat} (hd : decode cc pc = .ok (ins, len)) (hlen : zz_len ins = 0 ∨ len = zz_len ins) (htb : zz_at3 own ins r = true) (h : zz_al ins r R.cells R.slots pc L st cs cu su = some (pc', L', st', cs', cu', su'))
    (kk : zz_Z g p l e R s m args below meth c Q nL pc' L' st' cs' cu' su') : zz_Z g p l e R s m args below meth c Q nL pc L st cs cu su := by
  intro hnL H locs ls hR hl
  have lenO : ∀ k : Nat, (k + 1 = 0 ∨ len = k + 1) → len = k + 1 := fun k q => q.resolve_left (by omega)
  cases ins with
  | new idx =>
    cases lenO _ hlen
    simp only [zz_al] at h
    split at h <;> try (cases h; done)
    split at h <;> try (cases h; done)
    split at h <;> try (cases h; done)
    rename_i ci w1 w2 w3 _ q hq hc
    cases h
    simp only [zz_at3, hq, Bool.and_eq_true] at htb
    have hKn := hK.1 ci q hq
    have had : zz_ad g cs.length = H.size := by rw [zz_ad_pos g hc.2.2]; exact hR.1.1.symm
    refine W.newcK hx hb hown (zz_wd_ok htb.1 hT args) (zz_wd_ok htb.2.1 hT args) (zz_wd_ok htb.2.2 hT args) rfl hd hc.1 hc.2.1 hKn.2.1 rfl fun H1 kC hkC e1 z1 o1 => ?_
    have k1 := kk hnL H1 locs ls (hR.push hc.2.2 z1 o1 ⟨q, hq, by
      rw [had]
      exact (u_born (zz_ft q) (zz_cts (zz_cok_all ci q hq) hT args) (fun _ h => h) hKn hkC e1 (fun k hk => zz_fty (zz_cok_all ci q hq) hk)).to (fun j hj => (zz_dv_tr g q hj).symm)⟩) hl
    have e2 : zz_tr g (.ref cs.length) = .ref H.size := by show Value.ref (zz_ad g cs.length) = _; rw [had]
    rw [List.map_cons, e2] at k1
    exact k1
  | newarray aty =>
    cases lenO _ hlen
    simp only [zz_al] at h
    split at h <;> try (cases h; done)
    split at h <;> try (cases h; done)
    rename_i n rest hc
    cases h
    obtain ⟨hn, hN, hc1, hc2, h0⟩ := hc
    simp only [zz_at3] at htb
    split at htb <;> try (cases htb; done)
    simp only [Bool.and_eq_true, decide_eq_true_eq] at htb
    obtain ⟨rfl, hw⟩ := htb
    have had : zz_ad g cs.length = H.size := by rw [zz_ad_pos g h0]; exact hR.1.1.symm
    refine va_newaK (atype := .int) hx hb (zz_wd_ok hw hT args) rfl hd rfl hn rfl (by show n.toNatClampNeg * 4 ≤ 536870912; omega) hc1 hc2 rfl fun H1 cA e1 z1 o1 hAr hNm => ?_
    have hcA : cA = g.2.2.1 0 := Option.some.inj (hNm.symm.trans (hK.2 0 .int zz_ty0).2)
    subst hcA
    have k1 := kk hnL H1 locs ls (hR.push (c := .inl (List.replicate n.toNatClampNeg 0)) h0 z1 o1 (by
      show H1[zz_ad g cs.length]? = _
      rw [had, e1, List.length_replicate]
      congr 2
      funext j
      rw [zz_getD_rep]
      rfl)) hl
    have e2 : zz_tr g (.ref cs.length) = .ref H.size := by show Value.ref (zz_ad g cs.length) = _; rw [had]
    rw [List.map_cons, e2] at k1
    exact k1
  | anewarray idx =>
    cases lenO _ hlen
    simp only [zz_al] at h
    split at h <;> try (cases h; done)
    split at h <;> try (cases h; done)
    split at h <;> try (cases h; done)
    rename_i t w1 w2 _ n rest hc
    cases h
    obtain ⟨hn, hN, hc1, hc2, h0⟩ := hc
    simp only [zz_at3] at htb
    split at htb <;> try (cases htb; done)
    rename_i C hC
    simp only [Bool.and_eq_true] at htb
    have had : zz_ad g cs.length = H.size := by rw [zz_ad_pos g h0]; exact hR.1.1.symm
    refine W.anew hx hb hown (zz_wd_ok htb.1 hT args) (zz_wd_ok htb.2 hT args) rfl hd rfl hn (by omega) hc1 hc2 fun cA kA comp f1 f2 f3 f4 => ?_
    obtain ⟨kA', comp', k1, k2, k3, k4⟩ := (hK.2 t _ hC).2
    have hcA : cA = g.2.2.1 t := Option.some.inj (f1.symm.trans k4)
    subst hcA
    generalize hH1 : H.push ({ cls := g.2.2.1 t, slots := Array.replicate n.toNatClampNeg .null, vm := .none } : Cell) = H1
    have z1 : H1.size = H.size + 1 := by rw [← hH1, Array.size_push]
    have e1 : H1[H.size]? = some (arrV (g.2.2.1 t) n.toNatClampNeg (fun _ => .null)) := by rw [← hH1, Array.getElem?_push_size, ← arrV_new]
    have o1 : ∀ q : Nat, q < H.size → H1[q]? = H[q]? := fun q hq => by rw [← hH1, Array.getElem?_push, if_neg (Nat.ne_of_lt hq)]
    have k1 := kk hnL H1 locs ls (hR.push (c := .inr (.inl (t, List.replicate n.toNatClampNeg none))) h0 z1 o1 (by
      show H1[zz_ad g cs.length]? = _
      rw [had, e1, List.length_replicate]
      congr 2
      funext j
      rw [zz_getD_rep]
      rfl)) hl
    have e2 : zz_tr g (.ref cs.length) = .ref H.size := by show Value.ref (zz_ad g cs.length) = _; rw [had]
    rw [List.map_cons, e2] at k1
    exact k1
  | multianewarray idx dims =>
    cases lenO _ hlen
    simp only [zz_al] at h
    split at h <;> try (cases h; done)
    split at h <;> try (cases h; done)
    split at h <;> try (cases h; done)
    rename_i t w1 w2 w3 _ k n rest hc
    cases h
    obtain ⟨rfl, hty, hn, hk, hN, hK2, hc1, hc2, h0⟩ := hc
    simp only [zz_at3, Bool.and_eq_true] at htb
    have had : zz_ad g cs.length = H.size := by rw [zz_ad_pos g h0]; exact hR.1.1.symm
    intro T hTT X
    obtain ⟨vm₁, cA, comp, -, fA, fC, -, -, X', step⟩ := X.multianewarray2F hx (ty := .int) hown (zz_wd_ok htb.1 hT args) (zz_wd_ok htb.2.1 hT args) (zz_wd_ok htb.2.2 hT args) (g := F0 m pc ls ((Value.int k :: .int n :: rest).map (zz_tr g))) rfl (by rw [hb]; exact hd) rfl hn hk (by omega) (by show k.toNatClampNeg * 4 ≤ 536870912; omega) (by omega) rfl rfl hc1 hc2
    have hcA : cA = g.2.2.1 t := Option.some.inj (fA.symm.trans (hK.2 t _ hty).2)
    have hcB : comp = g.2.2.1 0 := Option.some.inj (fC.symm.trans (hK.2 0 .int zz_ty0).2)
    subst hcA
    subst hcB
    generalize hF : Jvm.Free.Multi.fill (T.setVm vm₁) (g.2.2.1 t) (g.2.2.1 0) n.toNatClampNeg k.toNatClampNeg (defaultValue .int) n.toNatClampNeg = F at X' step
    have hTh : (T.setVm vm₁).heap = H := hTT
    obtain ⟨f1, f2, -, -⟩ := Jvm.Free.Multi.fill_facts (T.setVm vm₁) (g.2.2.1 t) (g.2.2.1 0) n.toNatClampNeg k.toNatClampNeg (defaultValue .int) n.toNatClampNeg
    rw [hF, hTh] at f1 f2
    have hold : ∀ x : Nat, x < H.size → F.heap[x]? = H[x]? := fun x hx => by
      have := Jvm.Free.Multi.fill_old (T.setVm vm₁) (g.2.2.1 t) (g.2.2.1 0) n.toNatClampNeg k.toNatClampNeg (defaultValue .int) (a := x) (by rw [hTh]; exact hx) n.toNatClampNeg
      rw [hF, hTh] at this
      exact this
    have hrow : ∀ j : Nat, j < n.toNatClampNeg → F.heap[H.size + 1 + j]? = some (Jvm.Free.Multi.innerC (g.2.2.1 0) k.toNatClampNeg (defaultValue .int)) := fun j hj => by
      have := Jvm.Free.Multi.fill_inner (T.setVm vm₁) (g.2.2.1 t) (g.2.2.1 0) n.toNatClampNeg k.toNatClampNeg (defaultValue .int) n.toNatClampNeg j hj
      rw [hF, hTh] at this
      exact this
    have k1 := kk hnL F.heap locs ls (hR.pushes (add := some (.inr (.inl (t, (List.range n.toNatClampNeg).map (fun i => some (cs.length + 1 + i))))) :: List.replicate n.toNatClampNeg (some (.inl (List.replicate k.toNatClampNeg 0)))) h0 (by rw [f1, List.length_cons, List.length_replicate]; omega) hold (fun i c hi => by
      match i, hi with
      | 0, hi =>
        cases hi
        show F.heap[zz_ad g cs.length]? = _
        rw [had, f2, zz_outer, List.length_map, List.length_range]
        congr 1
        unfold arrV
        congr 1
        refine congrArg Array.ofFn (funext fun j => ?_)
        have hj := j.isLt
        dsimp only
        rw [if_pos hj, List.getD_eq_getElem?_getD, List.getElem?_map, List.getElem?_range hj]
        show Value.ref (H.size + 1 + j.val) = Value.ref (zz_ad g (cs.length + 1 + j.val))
        rw [zz_ad_pos g (show 0 < cs.length + 1 + j.val by omega)]
        have hs := hR.1.1
        exact congrArg Value.ref (by omega)
      | i + 1, hi =>
        rw [List.getElem?_cons_succ, List.getElem?_replicate] at hi
        split at hi <;> try (cases hi; done)
        rename_i hin
        cases hi
        show F.heap[zz_ad g (cs.length + (i + 1))]? = _
        rw [zz_ad_pos g (show 0 < cs.length + (i + 1) by omega), show g.1 + (cs.length + (i + 1)) = H.size + 1 + i by rw [hR.1.1]; omega, hrow i hin, List.length_replicate]
        show some ({ cls := g.2.2.1 0, slots := Array.replicate k.toNatClampNeg (defaultValue .int), vm := .none } : Cell) = _
        rw [arrV_new]
        congr 2
        funext j
        rw [zz_getD_rep]
        rfl)) hl
    have e2 : zz_tr g (.ref cs.length) = .ref H.size := by show Value.ref (zz_ad g cs.length) = _; rw [had]
    rw [List.map_cons, e2] at k1
    obtain ⟨t1, a1, b1⟩ := k1 F rfl X'
    rw [← hTT] at a1
    exact ⟨t1, step t1 a1, b1⟩
  | _ => exact absurd (show (none : zz_O3) = some _ from h) (by simp)
theorem zz_getD_take {xs ys : List Int32} {n : Nat} (h1 : n ≤ xs.length) (h2 : n ≤ ys.length) (k : Nat) : (xs.take n ++ ys.drop n).getD k 0 = if k < n then xs.getD k 0 else ys.getD k 0 := by
  simp only [List.getD_eq_getElem?_getD]
  by_cases hk : k < n
  · rw [if_pos hk, List.getElem?_append_left (by rw [List.length_take]; omega), List.getElem?_take_of_lt hk]
  · rw [if_neg hk, List.getElem?_append_right (by rw [List.length_take]; omega), List.getElem?_drop, List.length_take]
    congr 2
    omega
set_option maxHeartbeats 4000000 in
theorem zz_copy (hx : p.tables.exec = Jvm.exec) (hb : c.code = cc) (hml : c.maxLocals = nL) {own : String} (hown : s.vm.findClass own = some m.cls) (hK : zz_K g s) {idx i j : Nat} (hlink : (Jvm.Cond.methodLink own idx arraycopyName).before args s = true) (hnat : (Jvm.Cond.native arraycopyName).before args s = true) (hstat : (Jvm.Cond.static arraycopyName).before args s = true) (hini : (Jvm.Cond.initialized "java/lang/System").before args s = true)
    {H : Heap} {locs : List Loc} {ls : Array Slot} {rest : List Value} {xs ys : List Int32} {n : Int32} (hR : zz_R g s cs H locs) (hi : cs[i]? = some (some (.inl xs))) (hj : cs[j]? = some (some (.inl ys))) (hn : ¬ n < 0) (h4 : n.toNatClampNeg ≤ xs.length) (h5 : n.toNatClampNeg ≤ ys.length) (hls : ls.size = nL)
    (hframes : 1 ≤ R.frames) (hlocals : (rest.map fun v => v.category).sum + (nativeFrameWords "java/lang/System" "arraycopy" 5 + 11) ≤ R.locals) (hd : decode cc pc = .ok (.invokestatic idx, 3))
    (kk : ∀ (H1 : Heap) (locs1 : List Loc), zz_R g s (cs.set j (some (.inl (xs.take n.toNatClampNeg ++ ys.drop n.toNatClampNeg)))) H1 locs1 → W p l e R s m args below meth c H1 locs1 cu su Q (F0 m (pc + 3) ls rest)) : W p l e R s m args below meth c H locs cu su Q (F0 m pc ls (.int n :: .int 0 :: .ref (zz_ad g j) :: .int 0 :: .ref (zz_ad g i) :: rest)) := by
  have nn : n.toInt = (n.toNatClampNeg : Int) := by
    have hz0 : (0 : Int) ≤ n.toInt := by
      have := Int32.not_lt.mp hn
      simpa using Int32.le_iff_toInt_le.mp this
    show n.toInt = ((n.toInt.toNat : Nat) : Int)
    omega
  intro T hT X
  have hc0 : H[zz_ad g i]? = some (vp_cell (g.2.2.1 0) (xs.length, .inl (fun k => xs.getD k 0))) := (hR.1.2 i _ hi).2
  have hc1 : H[zz_ad g j]? = some (vp_cell (g.2.2.1 0) (ys.length, .inl (fun k => ys.getD k 0))) := (hR.1.2 j _ hj).2
  obtain ⟨-, k0, hk0, cm0, hkk0⟩ := (hK.2 0 .int zz_ty0).1 xs.length (fun k => .int (xs.getD k 0))
  obtain ⟨-, k1, hk1, cm1, hkk1⟩ := (hK.2 0 .int zz_ty0).1 ys.length (fun k => .int (ys.getD k 0))
  have z0 : (0 : Int32).toNatClampNeg = 0 := rfl
  obtain ⟨vm', X', step⟩ := X.arraycopy hx hown hlink hnat hstat hini (src := zz_ad g i) (dst := zz_ad g j) (cs := vp_cell (g.2.2.1 0) (xs.length, .inl (fun k => xs.getD k 0))) (cd := vp_cell (g.2.2.1 0) (ys.length, .inl (fun k => ys.getD k 0))) (srcPos := 0) (destPos := 0) (n := n) (by rw [hT]; exact hc0) (by rw [hT]; exact hc1)
    (fun _ h => by cases h) (fun _ h => by cases h) (fun h => by cases h) (fun h => by cases h) hk0 hk1 hkk0 hkk1 (by simp [refKind]) (by decide) (by decide) hn
    (by show ¬ (0 : Int32).toInt + n.toInt > ((arrV (g.2.2.1 0) xs.length (fun k => .int (xs.getD k 0))).slots.size : Int); rw [arrV_size, nn]; have : (0 : Int32).toInt = 0 := rfl; omega)
    (by show ¬ (0 : Int32).toInt + n.toInt > ((arrV (g.2.2.1 0) ys.length (fun k => .int (ys.getD k 0))).slots.size : Int); rw [arrV_size, nn]; have : (0 : Int32).toInt = 0 := rfl; omega)
    (fun vm₁ _ k hk => by
      have e : (vp_cell (g.2.2.1 0) (xs.length, .inl (fun k => xs.getD k 0))).slots.getD ((0 : Int32).toNatClampNeg + k) .null = .int (xs.getD k 0) := by
        show (arrV (g.2.2.1 0) xs.length (fun k => .int (xs.getD k 0))).slots.getD _ _ = _
        rw [z0, Nat.zero_add, Array.getD_eq_getD_getElem?, arrV_read _ _ (by omega)]
        rfl
      rw [e]
      exact ⟨rfl, trivial⟩)
    (g := F0 m pc ls (.int n :: .int 0 :: .ref (zz_ad g j) :: .int 0 :: .ref (zz_ad g i) :: rest)) rfl (by rw [hml]; exact hls) (rest := rest) rfl (by rw [hb]; exact hd) hframes (by show 2 * 0 + _ + _ ≤ _; omega)
  have e1 : copied (vp_cell (g.2.2.1 0) (xs.length, .inl (fun k => xs.getD k 0))) (vp_cell (g.2.2.1 0) (ys.length, .inl (fun k => ys.getD k 0))) 0 0 n = vp_cell (g.2.2.1 0) (ys.length, .inl (va_cpy (fun k => xs.getD k 0) (fun k => ys.getD k 0) (0 : Int32).toNatClampNeg (0 : Int32).toNatClampNeg n.toNatClampNeg)) := va_copied (fun z => .int z) (g.2.2.1 0) (g.2.2.1 0) (fun k => xs.getD k 0) (fun k => ys.getD k 0) (by rw [z0]; omega)
  rw [e1] at X' step
  have hl : zz_ad g j < H.size := (Array.getElem?_eq_some_iff.mp hc1).1
  generalize hc2 : vp_cell (g.2.2.1 0) (ys.length, .inl (va_cpy (fun k => xs.getD k 0) (fun k => ys.getD k 0) (0 : Int32).toNatClampNeg (0 : Int32).toNatClampNeg n.toNatClampNeg)) = cell2 at X' step
  have hheap : ((T.setVm vm').setCell (zz_ad g j) cell2).heap = H.setIfInBounds (zz_ad g j) cell2 := by rw [← hT]; rfl
  have oq : ∀ q : Nat, q ≠ zz_ad g j → (H.setIfInBounds (zz_ad g j) cell2)[q]? = H[q]? := fun q hq => by simp [Array.getElem?_setIfInBounds, Ne.symm hq]
  obtain ⟨h1, h2, h3, h6⟩ := hR
  have hp := (h1.2 j _ hj).1
  have ha := zz_ad_pos g hp
  obtain ⟨t, a1, b1⟩ := kk (H.setIfInBounds (zz_ad g j) cell2) _ ⟨h1.set hj (by simp) oq (by
      show (H.setIfInBounds (zz_ad g j) cell2)[zz_ad g j]? = _
      simp only [Array.getElem?_setIfInBounds, hl, if_true, ← hc2]
      have hlen : (xs.take n.toNatClampNeg ++ ys.drop n.toNatClampNeg).length = ys.length := by
        rw [List.length_append, List.length_take, List.length_drop]
        omega
      rw [hlen]
      rw [vp_cell_i]
      congr 2
      funext k
      rw [zz_getD_take h4 h5]
      simp only [va_cpy, z0, Nat.zero_le, true_and, Nat.zero_add, Nat.sub_zero]
      ), by simp; exact h2, fun q hq => (oq q (by omega)).trans (h3 q hq), fun q hq => by
      rcases List.mem_append.mp hq with h | h
      · exact h6 q h
      · obtain ⟨z, -, hz⟩ := List.mem_map.mp h
        rw [← hz]
        show g.1 < zz_ad g j
        omega⟩ _ hheap X'
  exact ⟨t, step t a1, b1⟩
end ZZ4
end
