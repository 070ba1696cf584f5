-- ===== PART A: goes FIRST, ahead of the names: the tables' words, and 'selects' of the private methods out of them =====
/-- a private method of a class that the tables say can be made, by its rows of tables_1 -/
noncomputable def lw_okq (q : MethodName × Nat) : Prop := (q.1.cls ≠ "java/lang/invoke/MethodHandle" ∧ q.1.cls ≠ "java/lang/invoke/VarHandle") ∧ Cond.instantiable q.1.cls q.2 ∈ tables_1 ∧ Cond.privateMethod q.1 ∈ tables_1 ∧ Cond.instanceMethod q.1 ∈ tables_1
noncomputable def lw_ndr (l : List Jvm.Cond) : Nat → List Jvm.Cond := List.rec (motive := fun _ => Nat → List Jvm.Cond) (fun _ => []) (fun a t ih i => Nat.rec (motive := fun _ => List Jvm.Cond) (a :: t) (fun j _ => ih j) i) l
noncomputable def lw_pth {α : Type} (l : List α) : Nat → Option α := List.rec (motive := fun _ => Nat → Option α) (fun _ => none) (fun a _ ih i => Nat.rec (motive := fun _ => Option α) (some a) (fun j _ => ih j) i) l
theorem lw_ndr_mem : ∀ (l : List Jvm.Cond) (n : Nat) (w : Jvm.Cond), w ∈ lw_ndr l n → w ∈ l
  | [], _, _, h => h
  | _ :: _, 0, _, h => h
  | _ :: l, n + 1, w, h => List.mem_cons_of_mem _ (lw_ndr_mem l n w h)
theorem lw_pth_mem {α : Type} : ∀ (l : List α) (n : Nat) (w : α), lw_pth l n = some w → w ∈ l
  | [], _, w, h => nomatch (show (none : Option α) = some w from h)
  | a :: _, 0, w, h => by
    have e : a = w := Option.some.inj h
    rw [← e]
    exact List.Mem.head _
  | _ :: l, n + 1, w, h => List.mem_cons_of_mem _ (lw_pth_mem l n w h)
noncomputable def lw_c0 : List Jvm.Cond := tables_1
theorem lw_e0 : ∀ w ∈ lw_c0, w ∈ tables_1 := fun _ h => h
noncomputable def lw_c1 : List Jvm.Cond := lw_ndr lw_c0 64
theorem lw_e1 : ∀ w ∈ lw_c1, w ∈ tables_1 := fun w h => lw_e0 w (lw_ndr_mem lw_c0 64 w h)
noncomputable def lw_c2 : List Jvm.Cond := lw_ndr lw_c1 64
theorem lw_e2 : ∀ w ∈ lw_c2, w ∈ tables_1 := fun w h => lw_e1 w (lw_ndr_mem lw_c1 64 w h)
noncomputable def lw_c3 : List Jvm.Cond := lw_ndr lw_c2 64
theorem lw_e3 : ∀ w ∈ lw_c3, w ∈ tables_1 := fun w h => lw_e2 w (lw_ndr_mem lw_c2 64 w h)
noncomputable def lw_c4 : List Jvm.Cond := lw_ndr lw_c3 64
theorem lw_e4 : ∀ w ∈ lw_c4, w ∈ tables_1 := fun w h => lw_e3 w (lw_ndr_mem lw_c3 64 w h)
noncomputable def lw_c5 : List Jvm.Cond := lw_ndr lw_c4 64
theorem lw_e5 : ∀ w ∈ lw_c5, w ∈ tables_1 := fun w h => lw_e4 w (lw_ndr_mem lw_c4 64 w h)
noncomputable def lw_c6 : List Jvm.Cond := lw_ndr lw_c5 64
theorem lw_e6 : ∀ w ∈ lw_c6, w ∈ tables_1 := fun w h => lw_e5 w (lw_ndr_mem lw_c5 64 w h)
noncomputable def lw_c7 : List Jvm.Cond := lw_ndr lw_c6 64
theorem lw_e7 : ∀ w ∈ lw_c7, w ∈ tables_1 := fun w h => lw_e6 w (lw_ndr_mem lw_c6 64 w h)
noncomputable def lw_c8 : List Jvm.Cond := lw_ndr lw_c7 64
theorem lw_e8 : ∀ w ∈ lw_c8, w ∈ tables_1 := fun w h => lw_e7 w (lw_ndr_mem lw_c7 64 w h)
noncomputable def lw_c9 : List Jvm.Cond := lw_ndr lw_c8 64
theorem lw_e9 : ∀ w ∈ lw_c9, w ∈ tables_1 := fun w h => lw_e8 w (lw_ndr_mem lw_c8 64 w h)
noncomputable def lw_c10 : List Jvm.Cond := lw_ndr lw_c9 64
theorem lw_e10 : ∀ w ∈ lw_c10, w ∈ tables_1 := fun w h => lw_e9 w (lw_ndr_mem lw_c9 64 w h)
noncomputable def lw_c11 : List Jvm.Cond := lw_ndr lw_c10 64
theorem lw_e11 : ∀ w ∈ lw_c11, w ∈ tables_1 := fun w h => lw_e10 w (lw_ndr_mem lw_c10 64 w h)
noncomputable def lw_c12 : List Jvm.Cond := lw_ndr lw_c11 64
theorem lw_e12 : ∀ w ∈ lw_c12, w ∈ tables_1 := fun w h => lw_e11 w (lw_ndr_mem lw_c11 64 w h)
noncomputable def lw_c13 : List Jvm.Cond := lw_ndr lw_c12 64
theorem lw_e13 : ∀ w ∈ lw_c13, w ∈ tables_1 := fun w h => lw_e12 w (lw_ndr_mem lw_c12 64 w h)
noncomputable def lw_c14 : List Jvm.Cond := lw_ndr lw_c13 64
theorem lw_e14 : ∀ w ∈ lw_c14, w ∈ tables_1 := fun w h => lw_e13 w (lw_ndr_mem lw_c13 64 w h)
noncomputable def lw_c15 : List Jvm.Cond := lw_ndr lw_c14 64
theorem lw_e15 : ∀ w ∈ lw_c15, w ∈ tables_1 := fun w h => lw_e14 w (lw_ndr_mem lw_c14 64 w h)
noncomputable def lw_c16 : List Jvm.Cond := lw_ndr lw_c15 64
theorem lw_e16 : ∀ w ∈ lw_c16, w ∈ tables_1 := fun w h => lw_e15 w (lw_ndr_mem lw_c15 64 w h)
noncomputable def lw_c17 : List Jvm.Cond := lw_ndr lw_c16 64
theorem lw_e17 : ∀ w ∈ lw_c17, w ∈ tables_1 := fun w h => lw_e16 w (lw_ndr_mem lw_c16 64 w h)
noncomputable def lw_c18 : List Jvm.Cond := lw_ndr lw_c17 64
theorem lw_e18 : ∀ w ∈ lw_c18, w ∈ tables_1 := fun w h => lw_e17 w (lw_ndr_mem lw_c17 64 w h)
noncomputable def lw_c19 : List Jvm.Cond := lw_ndr lw_c18 64
theorem lw_e19 : ∀ w ∈ lw_c19, w ∈ tables_1 := fun w h => lw_e18 w (lw_ndr_mem lw_c18 64 w h)
noncomputable def lw_c20 : List Jvm.Cond := lw_ndr lw_c19 64
theorem lw_e20 : ∀ w ∈ lw_c20, w ∈ tables_1 := fun w h => lw_e19 w (lw_ndr_mem lw_c19 64 w h)
noncomputable def lw_c21 : List Jvm.Cond := lw_ndr lw_c20 64
theorem lw_e21 : ∀ w ∈ lw_c21, w ∈ tables_1 := fun w h => lw_e20 w (lw_ndr_mem lw_c20 64 w h)
noncomputable def lw_chs : List (List Jvm.Cond) := [lw_c0, lw_c1, lw_c2, lw_c3, lw_c4, lw_c5, lw_c6, lw_c7, lw_c8, lw_c9, lw_c10, lw_c11, lw_c12, lw_c13, lw_c14, lw_c15, lw_c16, lw_c17, lw_c18, lw_c19, lw_c20, lw_c21]
theorem lw_chs_ok : ∀ l ∈ lw_chs, ∀ w ∈ l, w ∈ tables_1 := List.forall_mem_cons.mpr ⟨lw_e0, List.forall_mem_cons.mpr ⟨lw_e1, List.forall_mem_cons.mpr ⟨lw_e2, List.forall_mem_cons.mpr ⟨lw_e3, List.forall_mem_cons.mpr ⟨lw_e4, List.forall_mem_cons.mpr ⟨lw_e5, List.forall_mem_cons.mpr ⟨lw_e6, List.forall_mem_cons.mpr ⟨lw_e7, List.forall_mem_cons.mpr ⟨lw_e8, List.forall_mem_cons.mpr ⟨lw_e9, List.forall_mem_cons.mpr ⟨lw_e10, List.forall_mem_cons.mpr ⟨lw_e11, List.forall_mem_cons.mpr ⟨lw_e12, List.forall_mem_cons.mpr ⟨lw_e13, List.forall_mem_cons.mpr ⟨lw_e14, List.forall_mem_cons.mpr ⟨lw_e15, List.forall_mem_cons.mpr ⟨lw_e16, List.forall_mem_cons.mpr ⟨lw_e17, List.forall_mem_cons.mpr ⟨lw_e18, List.forall_mem_cons.mpr ⟨lw_e19, List.forall_mem_cons.mpr ⟨lw_e20, List.forall_mem_cons.mpr ⟨lw_e21, fun _ h => absurd h List.not_mem_nil⟩⟩⟩⟩⟩⟩⟩⟩⟩⟩⟩⟩⟩⟩⟩⟩⟩⟩⟩⟩⟩⟩
noncomputable def lw_at (i : Nat) : Option Jvm.Cond := match lw_pth lw_chs (i / 64) with
  | some l => lw_pth l (i % 64)
  | none => none
theorem lw_at_mem {i : Nat} {w : Jvm.Cond} (h : lw_at i = some w) : w ∈ tables_1 := by
  unfold lw_at at h
  split at h
  · next l e => exact lw_chs_ok l (lw_pth_mem _ _ l e) w (lw_pth_mem _ _ w h)
  · cases h
noncomputable def lw_kb (x : (MethodName × Nat) × (Nat × (Nat × Nat))) : Bool := (decide (x.1.1.cls ≠ "java/lang/invoke/MethodHandle") && decide (x.1.1.cls ≠ "java/lang/invoke/VarHandle")) && (decide (lw_at x.2.1 = some (Jvm.Cond.instantiable x.1.1.cls x.1.2)) && (decide (lw_at x.2.2.1 = some (Jvm.Cond.privateMethod x.1.1)) && decide (lw_at x.2.2.2 = some (Jvm.Cond.instanceMethod x.1.1))))
theorem lw_kb_ok (x : (MethodName × Nat) × (Nat × (Nat × Nat))) (h : lw_kb x = true) : lw_okq x.1 := by
  unfold lw_kb at h
  have h0 := (Bool.and_eq_true _ _).mp h
  have h1 := (Bool.and_eq_true _ _).mp h0.1
  have h2 := (Bool.and_eq_true _ _).mp h0.2
  have h3 := (Bool.and_eq_true _ _).mp h2.2
  exact ⟨⟨of_decide_eq_true h1.1, of_decide_eq_true h1.2⟩, lw_at_mem (of_decide_eq_true h2.1), lw_at_mem (of_decide_eq_true h3.1), lw_at_mem (of_decide_eq_true h3.2)⟩
theorem lw_all (L : List ((MethodName × Nat) × (Nat × (Nat × Nat)))) (h : L.all lw_kb = true) : ∀ q ∈ L.map (fun x => x.1), lw_okq q := by
  intro q hq
  obtain ⟨x, hx, e⟩ := List.mem_map.mp hq
  rw [← e]
  exact lw_kb_ok x (List.all_eq_true.mp h x hx)
noncomputable def lw_x : List ((MethodName × Nat) × (Nat × (Nat × Nat))) := [((⟨"LostBets", "refused", "(I)I"⟩, 10), (19, (263, 264))), ((⟨"LostBets", "tellInMind", "(I)Z"⟩, 10), (19, (315, 316))), ((⟨"LostBets$Town", "trust", "(III)I"⟩, 16), (71, (455, 456))), ((⟨"LostBets$Town", "comeOut", "()V"⟩, 16), (71, (475, 476))), ((⟨"LostBets$Town", "marry", "(II)V"⟩, 16), (71, (487, 488))), ((⟨"LostBets$Town", "withMore", "(I)I"⟩, 16), (71, (491, 492))), ((⟨"LostBets$Town", "learn", "()V"⟩, 16), (71, (502, 503))), ((⟨"LostBets$Town", "isWedIn", "(II)Z"⟩, 16), (71, (552, 553))), ((⟨"LostBets", "refusalOfBeliefIn", "(III)I"⟩, 10), (19, (623, 624))), ((⟨"LostBets", "firstToWed", "()I"⟩, 10), (19, (644, 645))), ((⟨"LostBets$Twos", "mostIn", "(I)I"⟩, 3), (212, (689, 690))), ((⟨"LostBets$Twos", "firstPartner", "(II)I"⟩, 3), (212, (702, 703))), ((⟨"LostBets", "callOffInMind", "(I)V"⟩, 10), (19, (733, 734))), ((⟨"LostBets", "gainOfTwo", "(IIIII)I"⟩, 10), (19, (743, 744))), ((⟨"LostBets", "isRowSoInMind", "(I)Z"⟩, 10), (19, (765, 766))), ((⟨"LostBets", "refusedLong", "(I)J"⟩, 10), (19, (778, 779))), ((⟨"LostBets", "whoHasMostTears", "()I"⟩, 10), (19, (803, 804))), ((⟨"LostBets", "twosWhoWishEachOther", "(Z)I"⟩, 10), (19, (807, 808))), ((⟨"LostBets", "daysOfLastWager", "()I"⟩, 10), (19, (827, 828))), ((⟨"LostBets", "longestChasteRun", "()I"⟩, 10), (19, (832, 833))), ((⟨"LostBets", "eventsToday", "()I"⟩, 10), (19, (836, 837))), ((⟨"LostBets", "rivals", "()I"⟩, 10), (19, (840, 841))), ((⟨"LostBetsModel", "refuse", "(I)I"⟩, 41), (844, (978, 979))), ((⟨"LostBetsModel", "readStatement", "()V"⟩, 41), (844, (986, 987))), ((⟨"LostBetsModel", "here", "()I"⟩, 41), (844, (990, 991))), ((⟨"LostBetsModel", "readDigit", "()I"⟩, 41), (844, (997, 998))), ((⟨"LostBetsModel", "think", "()V"⟩, 41), (844, (1006, 1007))), ((⟨"LostBetsModel", "carryAll", "([IZ)V"⟩, 41), (844, (1010, 1011))), ((⟨"LostBetsModel", "carry", "(I)I"⟩, 41), (844, (1014, 1015))), ((⟨"LostBetsModel", "comesTold", "(I)Z"⟩, 41), (844, (1018, 1019))), ((⟨"LostBetsModel", "personComes", "(II)Z"⟩, 41), (844, (1022, 1023))), ((⟨"LostBetsModel", "isOne", "(I)Z"⟩, 41), (844, (1026, 1027))), ((⟨"LostBetsModel", "wagerTold", "(IIIII)Z"⟩, 41), (844, (1035, 1036))), ((⟨"LostBetsModel", "couldBe", "(IIII)Z"⟩, 41), (844, (1039, 1040))), ((⟨"LostBetsModel", "isFree", "(I)Z"⟩, 41), (844, (1043, 1044))), ((⟨"LostBetsModel", "trustOf", "(III)I"⟩, 41), (844, (1047, 1048))), ((⟨"LostBetsModel", "isTaking", "(IIII)Z"⟩, 41), (844, (1051, 1052))), ((⟨"LostBetsModel", "asksOf", "(I)I"⟩, 41), (844, (1055, 1056))), ((⟨"LostBetsModel", "wager", "(IIIII)V"⟩, 41), (844, (1059, 1060))), ((⟨"LostBetsModel", "goDays", "(I)V"⟩, 41), (844, (1064, 1065))), ((⟨"LostBetsModel", "dayBy", "(Z)V"⟩, 41), (844, (1068, 1069))), ((⟨"LostBetsModel", "isOn", "(II)Z"⟩, 41), (844, (1072, 1073))), ((⟨"LostBetsModel", "wed", "(II)V"⟩, 41), (844, (1076, 1077))), ((⟨"LostBetsModel", "weepsOf", "(I)I"⟩, 41), (844, (1080, 1081))), ((⟨"LostBetsModel", "dropWager", "(I)V"⟩, 41), (844, (1087, 1088))), ((⟨"LostBetsModel", "learnsOf", "(I)I"⟩, 41), (844, (1091, 1092))), ((⟨"LostBetsModel", "again", "()V"⟩, 41), (844, (1095, 1096))), ((⟨"LostBetsModel", "keepTurn", "()V"⟩, 41), (844, (1146, 1147))), ((⟨"LostBetsModel", "isTwo", "(II)Z"⟩, 41), (844, (1158, 1159))), ((⟨"LostBetsModel", "wedBits", "()I"⟩, 41), (844, (1169, 1170))), ((⟨"LostBetsModel", "beliefThen", "(III)I"⟩, 41), (844, (1184, 1185))), ((⟨"LostBetsModel", "wedThen", "(I)I"⟩, 41), (844, (1192, 1193))), ((⟨"LostBetsModel", "wedSoon", "(I)I"⟩, 41), (844, (1201, 1202))), ((⟨"LostBetsModel", "betOf", "(II)I"⟩, 41), (844, (1213, 1214))), ((⟨"LostBetsModel", "isLost", "(III)Z"⟩, 41), (844, (1217, 1218))), ((⟨"LostBetsModel", "wooersOf", "(I)I"⟩, 41), (844, (1229, 1230))), ((⟨"LostBetsModel", "layMatch", "()V"⟩, 41), (844, (1237, 1238))), ((⟨"LostBetsModel", "isPair", "(II)Z"⟩, 41), (844, (1244, 1245))), ((⟨"LostBetsModel", "partnerOf", "(II)I"⟩, 41), (844, (1248, 1249))), ((⟨"LostBetsModel", "tearsWithout", "(II)I"⟩, 41), (844, (1268, 1269))), ((⟨"LostBetsModel", "allTears", "()I"⟩, 41), (844, (1272, 1273))), ((⟨"LostBetsModel", "wagerWith", "(I)I"⟩, 41), (844, (1280, 1281))), ((⟨"LostBetsModel", "isRow", "(I)Z"⟩, 41), (844, (1284, 1285))), ((⟨"LostBetsModel", "saddestOne", "()I"⟩, 41), (844, (1315, 1316))), ((⟨"LostBetsModel", "twosOf", "(I)I"⟩, 41), (844, (1319, 1320))), ((⟨"LostBetsModel", "isMutual", "(II)Z"⟩, 41), (844, (1323, 1324))), ((⟨"LostBetsModel", "freeBits", "()I"⟩, 41), (844, (1327, 1328))), ((⟨"LostBetsModel", "lastDays", "()I"⟩, 41), (844, (1347, 1348))), ((⟨"LostBetsModel", "chasteRun", "()I"⟩, 41), (844, (1351, 1352))), ((⟨"LostBetsModel", "oddBits", "()I"⟩, 41), (844, (1355, 1356))), ((⟨"LostBetsModel", "drawBelow", "(I)I"⟩, 41), (844, (1380, 1381)))]
set_option maxRecDepth 100000 in
theorem lw_xb : lw_x.all lw_kb = true := by decide +kernel
noncomputable def lw_privs : List (MethodName × Nat) := [(⟨"LostBets", "refused", "(I)I"⟩, 10), (⟨"LostBets", "tellInMind", "(I)Z"⟩, 10), (⟨"LostBets$Town", "trust", "(III)I"⟩, 16), (⟨"LostBets$Town", "comeOut", "()V"⟩, 16), (⟨"LostBets$Town", "marry", "(II)V"⟩, 16), (⟨"LostBets$Town", "withMore", "(I)I"⟩, 16), (⟨"LostBets$Town", "learn", "()V"⟩, 16), (⟨"LostBets$Town", "isWedIn", "(II)Z"⟩, 16), (⟨"LostBets", "refusalOfBeliefIn", "(III)I"⟩, 10), (⟨"LostBets", "firstToWed", "()I"⟩, 10), (⟨"LostBets$Twos", "mostIn", "(I)I"⟩, 3), (⟨"LostBets$Twos", "firstPartner", "(II)I"⟩, 3), (⟨"LostBets", "callOffInMind", "(I)V"⟩, 10), (⟨"LostBets", "gainOfTwo", "(IIIII)I"⟩, 10), (⟨"LostBets", "isRowSoInMind", "(I)Z"⟩, 10), (⟨"LostBets", "refusedLong", "(I)J"⟩, 10), (⟨"LostBets", "whoHasMostTears", "()I"⟩, 10), (⟨"LostBets", "twosWhoWishEachOther", "(Z)I"⟩, 10), (⟨"LostBets", "daysOfLastWager", "()I"⟩, 10), (⟨"LostBets", "longestChasteRun", "()I"⟩, 10), (⟨"LostBets", "eventsToday", "()I"⟩, 10), (⟨"LostBets", "rivals", "()I"⟩, 10), (⟨"LostBetsModel", "refuse", "(I)I"⟩, 41), (⟨"LostBetsModel", "readStatement", "()V"⟩, 41), (⟨"LostBetsModel", "here", "()I"⟩, 41), (⟨"LostBetsModel", "readDigit", "()I"⟩, 41), (⟨"LostBetsModel", "think", "()V"⟩, 41), (⟨"LostBetsModel", "carryAll", "([IZ)V"⟩, 41), (⟨"LostBetsModel", "carry", "(I)I"⟩, 41), (⟨"LostBetsModel", "comesTold", "(I)Z"⟩, 41), (⟨"LostBetsModel", "personComes", "(II)Z"⟩, 41), (⟨"LostBetsModel", "isOne", "(I)Z"⟩, 41), (⟨"LostBetsModel", "wagerTold", "(IIIII)Z"⟩, 41), (⟨"LostBetsModel", "couldBe", "(IIII)Z"⟩, 41), (⟨"LostBetsModel", "isFree", "(I)Z"⟩, 41), (⟨"LostBetsModel", "trustOf", "(III)I"⟩, 41), (⟨"LostBetsModel", "isTaking", "(IIII)Z"⟩, 41), (⟨"LostBetsModel", "asksOf", "(I)I"⟩, 41), (⟨"LostBetsModel", "wager", "(IIIII)V"⟩, 41), (⟨"LostBetsModel", "goDays", "(I)V"⟩, 41), (⟨"LostBetsModel", "dayBy", "(Z)V"⟩, 41), (⟨"LostBetsModel", "isOn", "(II)Z"⟩, 41), (⟨"LostBetsModel", "wed", "(II)V"⟩, 41), (⟨"LostBetsModel", "weepsOf", "(I)I"⟩, 41), (⟨"LostBetsModel", "dropWager", "(I)V"⟩, 41), (⟨"LostBetsModel", "learnsOf", "(I)I"⟩, 41), (⟨"LostBetsModel", "again", "()V"⟩, 41), (⟨"LostBetsModel", "keepTurn", "()V"⟩, 41), (⟨"LostBetsModel", "isTwo", "(II)Z"⟩, 41), (⟨"LostBetsModel", "wedBits", "()I"⟩, 41), (⟨"LostBetsModel", "beliefThen", "(III)I"⟩, 41), (⟨"LostBetsModel", "wedThen", "(I)I"⟩, 41), (⟨"LostBetsModel", "wedSoon", "(I)I"⟩, 41), (⟨"LostBetsModel", "betOf", "(II)I"⟩, 41), (⟨"LostBetsModel", "isLost", "(III)Z"⟩, 41), (⟨"LostBetsModel", "wooersOf", "(I)I"⟩, 41), (⟨"LostBetsModel", "layMatch", "()V"⟩, 41), (⟨"LostBetsModel", "isPair", "(II)Z"⟩, 41), (⟨"LostBetsModel", "partnerOf", "(II)I"⟩, 41), (⟨"LostBetsModel", "tearsWithout", "(II)I"⟩, 41), (⟨"LostBetsModel", "allTears", "()I"⟩, 41), (⟨"LostBetsModel", "wagerWith", "(I)I"⟩, 41), (⟨"LostBetsModel", "isRow", "(I)Z"⟩, 41), (⟨"LostBetsModel", "saddestOne", "()I"⟩, 41), (⟨"LostBetsModel", "twosOf", "(I)I"⟩, 41), (⟨"LostBetsModel", "isMutual", "(II)Z"⟩, 41), (⟨"LostBetsModel", "freeBits", "()I"⟩, 41), (⟨"LostBetsModel", "lastDays", "()I"⟩, 41), (⟨"LostBetsModel", "chasteRun", "()I"⟩, 41), (⟨"LostBetsModel", "oddBits", "()I"⟩, 41), (⟨"LostBetsModel", "drawBelow", "(I)I"⟩, 41)]
noncomputable def lw_tbl : List Cond := k2_sels lw_privs ++ tables_1
theorem lw_xe : lw_x.map (fun x => x.1) = lw_privs := rfl
theorem lw_privs_ok : ∀ q ∈ lw_privs, lw_okq q := by
  rw [← lw_xe]
  exact lw_all lw_x lw_xb
