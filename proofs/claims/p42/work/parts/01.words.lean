-- ===== PART A: goes FIRST, ahead of the names: the tables' words, and 'selects' of the private methods out of them =====
/-- a private method of a class that the tables say can be made, by its rows of tables_1 -/
noncomputable def lw_okq (q : MethodName × Nat) : Prop := (q.1.cls ≠ "java/lang/invoke/MethodHandle" ∧ q.1.cls ≠ "java/lang/invoke/VarHandle") ∧ Cond.instantiable q.1.cls q.2 ∈ tables_1 ∧ Cond.privateMethod q.1 ∈ tables_1 ∧ Cond.instanceMethod q.1 ∈ tables_1
noncomputable def lq_ndr (l : List Jvm.Cond) : Nat → List Jvm.Cond := List.rec (motive := fun _ => Nat → List Jvm.Cond) (fun _ => []) (fun a t ih i => Nat.rec (motive := fun _ => List Jvm.Cond) (a :: t) (fun j _ => ih j) i) l
noncomputable def lq_pth {α : Type} (l : List α) : Nat → Option α := List.rec (motive := fun _ => Nat → Option α) (fun _ => none) (fun a _ ih i => Nat.rec (motive := fun _ => Option α) (some a) (fun j _ => ih j) i) l
theorem lq_ndr_mem : ∀ (l : List Jvm.Cond) (n : Nat) (w : Jvm.Cond), w ∈ lq_ndr l n → w ∈ l
  | [], _, _, h => h
  | _ :: _, 0, _, h => h
  | _ :: l, n + 1, w, h => List.mem_cons_of_mem _ (lq_ndr_mem l n w h)
theorem lq_pth_mem {α : Type} : ∀ (l : List α) (n : Nat) (w : α), lq_pth l n = some w → w ∈ l
  | [], _, w, h => nomatch (show (none : Option α) = some w from h)
  | a :: _, 0, w, h => by
    have e : a = w := Option.some.inj h
    rw [← e]
    exact List.Mem.head _
  | _ :: l, n + 1, w, h => List.mem_cons_of_mem _ (lq_pth_mem l n w h)
noncomputable def lq_c0 : List Jvm.Cond := tables_1
theorem lq_e0 : ∀ w ∈ lq_c0, w ∈ tables_1 := fun _ h => h
noncomputable def lq_c1 : List Jvm.Cond := lq_ndr lq_c0 64
theorem lq_e1 : ∀ w ∈ lq_c1, w ∈ tables_1 := fun w h => lq_e0 w (lq_ndr_mem lq_c0 64 w h)
noncomputable def lq_c2 : List Jvm.Cond := lq_ndr lq_c1 64
theorem lq_e2 : ∀ w ∈ lq_c2, w ∈ tables_1 := fun w h => lq_e1 w (lq_ndr_mem lq_c1 64 w h)
noncomputable def lq_c3 : List Jvm.Cond := lq_ndr lq_c2 64
theorem lq_e3 : ∀ w ∈ lq_c3, w ∈ tables_1 := fun w h => lq_e2 w (lq_ndr_mem lq_c2 64 w h)
noncomputable def lq_c4 : List Jvm.Cond := lq_ndr lq_c3 64
theorem lq_e4 : ∀ w ∈ lq_c4, w ∈ tables_1 := fun w h => lq_e3 w (lq_ndr_mem lq_c3 64 w h)
noncomputable def lq_c5 : List Jvm.Cond := lq_ndr lq_c4 64
theorem lq_e5 : ∀ w ∈ lq_c5, w ∈ tables_1 := fun w h => lq_e4 w (lq_ndr_mem lq_c4 64 w h)
noncomputable def lq_c6 : List Jvm.Cond := lq_ndr lq_c5 64
theorem lq_e6 : ∀ w ∈ lq_c6, w ∈ tables_1 := fun w h => lq_e5 w (lq_ndr_mem lq_c5 64 w h)
noncomputable def lq_c7 : List Jvm.Cond := lq_ndr lq_c6 64
theorem lq_e7 : ∀ w ∈ lq_c7, w ∈ tables_1 := fun w h => lq_e6 w (lq_ndr_mem lq_c6 64 w h)
noncomputable def lq_c8 : List Jvm.Cond := lq_ndr lq_c7 64
theorem lq_e8 : ∀ w ∈ lq_c8, w ∈ tables_1 := fun w h => lq_e7 w (lq_ndr_mem lq_c7 64 w h)
noncomputable def lq_c9 : List Jvm.Cond := lq_ndr lq_c8 64
theorem lq_e9 : ∀ w ∈ lq_c9, w ∈ tables_1 := fun w h => lq_e8 w (lq_ndr_mem lq_c8 64 w h)
noncomputable def lq_c10 : List Jvm.Cond := lq_ndr lq_c9 64
theorem lq_e10 : ∀ w ∈ lq_c10, w ∈ tables_1 := fun w h => lq_e9 w (lq_ndr_mem lq_c9 64 w h)
noncomputable def lq_c11 : List Jvm.Cond := lq_ndr lq_c10 64
theorem lq_e11 : ∀ w ∈ lq_c11, w ∈ tables_1 := fun w h => lq_e10 w (lq_ndr_mem lq_c10 64 w h)
noncomputable def lq_c12 : List Jvm.Cond := lq_ndr lq_c11 64
theorem lq_e12 : ∀ w ∈ lq_c12, w ∈ tables_1 := fun w h => lq_e11 w (lq_ndr_mem lq_c11 64 w h)
noncomputable def lq_c13 : List Jvm.Cond := lq_ndr lq_c12 64
theorem lq_e13 : ∀ w ∈ lq_c13, w ∈ tables_1 := fun w h => lq_e12 w (lq_ndr_mem lq_c12 64 w h)
noncomputable def lq_c14 : List Jvm.Cond := lq_ndr lq_c13 64
theorem lq_e14 : ∀ w ∈ lq_c14, w ∈ tables_1 := fun w h => lq_e13 w (lq_ndr_mem lq_c13 64 w h)
noncomputable def lq_c15 : List Jvm.Cond := lq_ndr lq_c14 64
theorem lq_e15 : ∀ w ∈ lq_c15, w ∈ tables_1 := fun w h => lq_e14 w (lq_ndr_mem lq_c14 64 w h)
noncomputable def lq_c16 : List Jvm.Cond := lq_ndr lq_c15 64
theorem lq_e16 : ∀ w ∈ lq_c16, w ∈ tables_1 := fun w h => lq_e15 w (lq_ndr_mem lq_c15 64 w h)
noncomputable def lq_c17 : List Jvm.Cond := lq_ndr lq_c16 64
theorem lq_e17 : ∀ w ∈ lq_c17, w ∈ tables_1 := fun w h => lq_e16 w (lq_ndr_mem lq_c16 64 w h)
noncomputable def lq_c18 : List Jvm.Cond := lq_ndr lq_c17 64
theorem lq_e18 : ∀ w ∈ lq_c18, w ∈ tables_1 := fun w h => lq_e17 w (lq_ndr_mem lq_c17 64 w h)
noncomputable def lq_c19 : List Jvm.Cond := lq_ndr lq_c18 64
theorem lq_e19 : ∀ w ∈ lq_c19, w ∈ tables_1 := fun w h => lq_e18 w (lq_ndr_mem lq_c18 64 w h)
noncomputable def lq_c20 : List Jvm.Cond := lq_ndr lq_c19 64
theorem lq_e20 : ∀ w ∈ lq_c20, w ∈ tables_1 := fun w h => lq_e19 w (lq_ndr_mem lq_c19 64 w h)
noncomputable def lq_c21 : List Jvm.Cond := lq_ndr lq_c20 64
theorem lq_e21 : ∀ w ∈ lq_c21, w ∈ tables_1 := fun w h => lq_e20 w (lq_ndr_mem lq_c20 64 w h)
noncomputable def lq_chs : List (List Jvm.Cond) := [lq_c0, lq_c1, lq_c2, lq_c3, lq_c4, lq_c5, lq_c6, lq_c7, lq_c8, lq_c9, lq_c10, lq_c11, lq_c12, lq_c13, lq_c14, lq_c15, lq_c16, lq_c17, lq_c18, lq_c19, lq_c20, lq_c21]
theorem lq_chs_ok : ∀ l ∈ lq_chs, ∀ w ∈ l, w ∈ tables_1 := List.forall_mem_cons.mpr ⟨lq_e0, List.forall_mem_cons.mpr ⟨lq_e1, List.forall_mem_cons.mpr ⟨lq_e2, List.forall_mem_cons.mpr ⟨lq_e3, List.forall_mem_cons.mpr ⟨lq_e4, List.forall_mem_cons.mpr ⟨lq_e5, List.forall_mem_cons.mpr ⟨lq_e6, List.forall_mem_cons.mpr ⟨lq_e7, List.forall_mem_cons.mpr ⟨lq_e8, List.forall_mem_cons.mpr ⟨lq_e9, List.forall_mem_cons.mpr ⟨lq_e10, List.forall_mem_cons.mpr ⟨lq_e11, List.forall_mem_cons.mpr ⟨lq_e12, List.forall_mem_cons.mpr ⟨lq_e13, List.forall_mem_cons.mpr ⟨lq_e14, List.forall_mem_cons.mpr ⟨lq_e15, List.forall_mem_cons.mpr ⟨lq_e16, List.forall_mem_cons.mpr ⟨lq_e17, List.forall_mem_cons.mpr ⟨lq_e18, List.forall_mem_cons.mpr ⟨lq_e19, List.forall_mem_cons.mpr ⟨lq_e20, List.forall_mem_cons.mpr ⟨lq_e21, fun _ h => absurd h List.not_mem_nil⟩⟩⟩⟩⟩⟩⟩⟩⟩⟩⟩⟩⟩⟩⟩⟩⟩⟩⟩⟩⟩⟩
noncomputable def lq_at (i : Nat) : Option Jvm.Cond := match lq_pth lq_chs (i / 64) with
  | some l => lq_pth l (i % 64)
  | none => none
theorem lq_at_mem {i : Nat} {w : Jvm.Cond} (h : lq_at i = some w) : w ∈ tables_1 := by
  unfold lq_at at h
  split at h
  · next l e => exact lq_chs_ok l (lq_pth_mem _ _ l e) w (lq_pth_mem _ _ w h)
  · cases h
noncomputable def lq_kb (x : (MethodName × Nat) × (Nat × (Nat × Nat))) : Bool := (decide (x.1.1.cls ≠ "java/lang/invoke/MethodHandle") && decide (x.1.1.cls ≠ "java/lang/invoke/VarHandle")) && (decide (lq_at x.2.1 = some (Jvm.Cond.instantiable x.1.1.cls x.1.2)) && (decide (lq_at x.2.2.1 = some (Jvm.Cond.privateMethod x.1.1)) && decide (lq_at x.2.2.2 = some (Jvm.Cond.instanceMethod x.1.1))))
theorem lq_kb_ok (x : (MethodName × Nat) × (Nat × (Nat × Nat))) (h : lq_kb x = true) : lw_okq x.1 := by
  unfold lq_kb at h
  have h0 := (Bool.and_eq_true _ _).mp h
  have h1 := (Bool.and_eq_true _ _).mp h0.1
  have h2 := (Bool.and_eq_true _ _).mp h0.2
  have h3 := (Bool.and_eq_true _ _).mp h2.2
  exact ⟨⟨of_decide_eq_true h1.1, of_decide_eq_true h1.2⟩, lq_at_mem (of_decide_eq_true h2.1), lq_at_mem (of_decide_eq_true h3.1), lq_at_mem (of_decide_eq_true h3.2)⟩
theorem lq_all (L : List ((MethodName × Nat) × (Nat × (Nat × Nat)))) (h : L.all lq_kb = true) : ∀ q ∈ L.map (fun x => x.1), lw_okq q := by
  intro q hq
  obtain ⟨x, hx, e⟩ := List.mem_map.mp hq
  rw [← e]
  exact lq_kb_ok x (List.all_eq_true.mp h x hx)
noncomputable def lq_x : List ((MethodName × Nat) × (Nat × (Nat × Nat))) := [((⟨"LostBets", "refused", "(I)I"⟩, 10), (19, (263, 264))), ((⟨"LostBets", "tellInMind", "(I)Z"⟩, 10), (19, (315, 316))), ((⟨"LostBets$Town", "trust", "(III)I"⟩, 16), (71, (455, 456))), ((⟨"LostBets$Town", "comeOut", "()V"⟩, 16), (71, (475, 476))), ((⟨"LostBets$Town", "marry", "(II)V"⟩, 16), (71, (487, 488))), ((⟨"LostBets$Town", "withMore", "(I)I"⟩, 16), (71, (491, 492))), ((⟨"LostBets$Town", "learn", "()V"⟩, 16), (71, (502, 503))), ((⟨"LostBets$Town", "isWedIn", "(II)Z"⟩, 16), (71, (552, 553))), ((⟨"LostBets", "refusalOfBeliefIn", "(III)I"⟩, 10), (19, (623, 624))), ((⟨"LostBets", "firstToWed", "()I"⟩, 10), (19, (644, 645))), ((⟨"LostBets$Twos", "mostIn", "(I)I"⟩, 3), (212, (689, 690))), ((⟨"LostBets$Twos", "firstPartner", "(II)I"⟩, 3), (212, (702, 703))), ((⟨"LostBets", "callOffInMind", "(I)V"⟩, 10), (19, (733, 734))), ((⟨"LostBets", "gainOfTwo", "(IIIII)I"⟩, 10), (19, (743, 744))), ((⟨"LostBets", "isRowSoInMind", "(I)Z"⟩, 10), (19, (765, 766))), ((⟨"LostBets", "refusedLong", "(I)J"⟩, 10), (19, (778, 779))), ((⟨"LostBets", "whoHasMostTears", "()I"⟩, 10), (19, (803, 804))), ((⟨"LostBets", "twosWhoWishEachOther", "(Z)I"⟩, 10), (19, (807, 808))), ((⟨"LostBets", "daysOfLastWager", "()I"⟩, 10), (19, (827, 828))), ((⟨"LostBets", "longestChasteRun", "()I"⟩, 10), (19, (832, 833))), ((⟨"LostBets", "eventsToday", "()I"⟩, 10), (19, (836, 837))), ((⟨"LostBets", "rivals", "()I"⟩, 10), (19, (840, 841))), ((⟨"LostBetsModel", "refuse", "(I)I"⟩, 41), (844, (978, 979))), ((⟨"LostBetsModel", "readStatement", "()V"⟩, 41), (844, (986, 987))), ((⟨"LostBetsModel", "here", "()I"⟩, 41), (844, (990, 991))), ((⟨"LostBetsModel", "readDigit", "()I"⟩, 41), (844, (997, 998))), ((⟨"LostBetsModel", "think", "()V"⟩, 41), (844, (1006, 1007))), ((⟨"LostBetsModel", "carryAll", "([IZ)V"⟩, 41), (844, (1010, 1011))), ((⟨"LostBetsModel", "carry", "(I)I"⟩, 41), (844, (1014, 1015))), ((⟨"LostBetsModel", "comesTold", "(I)Z"⟩, 41), (844, (1018, 1019))), ((⟨"LostBetsModel", "personComes", "(II)Z"⟩, 41), (844, (1022, 1023))), ((⟨"LostBetsModel", "isOne", "(I)Z"⟩, 41), (844, (1026, 1027))), ((⟨"LostBetsModel", "wagerTold", "(IIIII)Z"⟩, 41), (844, (1035, 1036))), ((⟨"LostBetsModel", "couldBe", "(IIII)Z"⟩, 41), (844, (1039, 1040))), ((⟨"LostBetsModel", "isFree", "(I)Z"⟩, 41), (844, (1043, 1044))), ((⟨"LostBetsModel", "trustOf", "(III)I"⟩, 41), (844, (1047, 1048))), ((⟨"LostBetsModel", "isTaking", "(IIII)Z"⟩, 41), (844, (1051, 1052))), ((⟨"LostBetsModel", "asksOf", "(I)I"⟩, 41), (844, (1055, 1056))), ((⟨"LostBetsModel", "wager", "(IIIII)V"⟩, 41), (844, (1059, 1060))), ((⟨"LostBetsModel", "goDays", "(I)V"⟩, 41), (844, (1064, 1065))), ((⟨"LostBetsModel", "dayBy", "(Z)V"⟩, 41), (844, (1068, 1069))), ((⟨"LostBetsModel", "isOn", "(II)Z"⟩, 41), (844, (1072, 1073))), ((⟨"LostBetsModel", "wed", "(II)V"⟩, 41), (844, (1076, 1077))), ((⟨"LostBetsModel", "weepsOf", "(I)I"⟩, 41), (844, (1080, 1081))), ((⟨"LostBetsModel", "dropWager", "(I)V"⟩, 41), (844, (1087, 1088))), ((⟨"LostBetsModel", "learnsOf", "(I)I"⟩, 41), (844, (1091, 1092))), ((⟨"LostBetsModel", "again", "()V"⟩, 41), (844, (1095, 1096))), ((⟨"LostBetsModel", "keepTurn", "()V"⟩, 41), (844, (1146, 1147))), ((⟨"LostBetsModel", "isTwo", "(II)Z"⟩, 41), (844, (1158, 1159))), ((⟨"LostBetsModel", "wedBits", "()I"⟩, 41), (844, (1169, 1170))), ((⟨"LostBetsModel", "beliefThen", "(III)I"⟩, 41), (844, (1184, 1185))), ((⟨"LostBetsModel", "wedThen", "(I)I"⟩, 41), (844, (1192, 1193))), ((⟨"LostBetsModel", "wedSoon", "(I)I"⟩, 41), (844, (1201, 1202))), ((⟨"LostBetsModel", "betOf", "(II)I"⟩, 41), (844, (1213, 1214))), ((⟨"LostBetsModel", "isLost", "(III)Z"⟩, 41), (844, (1217, 1218))), ((⟨"LostBetsModel", "wooersOf", "(I)I"⟩, 41), (844, (1229, 1230))), ((⟨"LostBetsModel", "layMatch", "()V"⟩, 41), (844, (1237, 1238))), ((⟨"LostBetsModel", "isPair", "(II)Z"⟩, 41), (844, (1244, 1245))), ((⟨"LostBetsModel", "partnerOf", "(II)I"⟩, 41), (844, (1248, 1249))), ((⟨"LostBetsModel", "tearsWithout", "(II)I"⟩, 41), (844, (1268, 1269))), ((⟨"LostBetsModel", "allTears", "()I"⟩, 41), (844, (1272, 1273))), ((⟨"LostBetsModel", "wagerWith", "(I)I"⟩, 41), (844, (1280, 1281))), ((⟨"LostBetsModel", "isRow", "(I)Z"⟩, 41), (844, (1284, 1285))), ((⟨"LostBetsModel", "saddestOne", "()I"⟩, 41), (844, (1315, 1316))), ((⟨"LostBetsModel", "twosOf", "(I)I"⟩, 41), (844, (1319, 1320))), ((⟨"LostBetsModel", "isMutual", "(II)Z"⟩, 41), (844, (1323, 1324))), ((⟨"LostBetsModel", "freeBits", "()I"⟩, 41), (844, (1327, 1328))), ((⟨"LostBetsModel", "lastDays", "()I"⟩, 41), (844, (1347, 1348))), ((⟨"LostBetsModel", "chasteRun", "()I"⟩, 41), (844, (1351, 1352))), ((⟨"LostBetsModel", "oddBits", "()I"⟩, 41), (844, (1355, 1356))), ((⟨"LostBetsModel", "drawBelow", "(I)I"⟩, 41), (844, (1380, 1381)))]
set_option maxRecDepth 100000 in
theorem lq_xb : lq_x.all lq_kb = true := by decide +kernel
noncomputable def lw_privs : List (MethodName × Nat) := [(⟨"LostBets", "refused", "(I)I"⟩, 10), (⟨"LostBets", "tellInMind", "(I)Z"⟩, 10), (⟨"LostBets$Town", "trust", "(III)I"⟩, 16), (⟨"LostBets$Town", "comeOut", "()V"⟩, 16), (⟨"LostBets$Town", "marry", "(II)V"⟩, 16), (⟨"LostBets$Town", "withMore", "(I)I"⟩, 16), (⟨"LostBets$Town", "learn", "()V"⟩, 16), (⟨"LostBets$Town", "isWedIn", "(II)Z"⟩, 16), (⟨"LostBets", "refusalOfBeliefIn", "(III)I"⟩, 10), (⟨"LostBets", "firstToWed", "()I"⟩, 10), (⟨"LostBets$Twos", "mostIn", "(I)I"⟩, 3), (⟨"LostBets$Twos", "firstPartner", "(II)I"⟩, 3), (⟨"LostBets", "callOffInMind", "(I)V"⟩, 10), (⟨"LostBets", "gainOfTwo", "(IIIII)I"⟩, 10), (⟨"LostBets", "isRowSoInMind", "(I)Z"⟩, 10), (⟨"LostBets", "refusedLong", "(I)J"⟩, 10), (⟨"LostBets", "whoHasMostTears", "()I"⟩, 10), (⟨"LostBets", "twosWhoWishEachOther", "(Z)I"⟩, 10), (⟨"LostBets", "daysOfLastWager", "()I"⟩, 10), (⟨"LostBets", "longestChasteRun", "()I"⟩, 10), (⟨"LostBets", "eventsToday", "()I"⟩, 10), (⟨"LostBets", "rivals", "()I"⟩, 10), (⟨"LostBetsModel", "refuse", "(I)I"⟩, 41), (⟨"LostBetsModel", "readStatement", "()V"⟩, 41), (⟨"LostBetsModel", "here", "()I"⟩, 41), (⟨"LostBetsModel", "readDigit", "()I"⟩, 41), (⟨"LostBetsModel", "think", "()V"⟩, 41), (⟨"LostBetsModel", "carryAll", "([IZ)V"⟩, 41), (⟨"LostBetsModel", "carry", "(I)I"⟩, 41), (⟨"LostBetsModel", "comesTold", "(I)Z"⟩, 41), (⟨"LostBetsModel", "personComes", "(II)Z"⟩, 41), (⟨"LostBetsModel", "isOne", "(I)Z"⟩, 41), (⟨"LostBetsModel", "wagerTold", "(IIIII)Z"⟩, 41), (⟨"LostBetsModel", "couldBe", "(IIII)Z"⟩, 41), (⟨"LostBetsModel", "isFree", "(I)Z"⟩, 41), (⟨"LostBetsModel", "trustOf", "(III)I"⟩, 41), (⟨"LostBetsModel", "isTaking", "(IIII)Z"⟩, 41), (⟨"LostBetsModel", "asksOf", "(I)I"⟩, 41), (⟨"LostBetsModel", "wager", "(IIIII)V"⟩, 41), (⟨"LostBetsModel", "goDays", "(I)V"⟩, 41), (⟨"LostBetsModel", "dayBy", "(Z)V"⟩, 41), (⟨"LostBetsModel", "isOn", "(II)Z"⟩, 41), (⟨"LostBetsModel", "wed", "(II)V"⟩, 41), (⟨"LostBetsModel", "weepsOf", "(I)I"⟩, 41), (⟨"LostBetsModel", "dropWager", "(I)V"⟩, 41), (⟨"LostBetsModel", "learnsOf", "(I)I"⟩, 41), (⟨"LostBetsModel", "again", "()V"⟩, 41), (⟨"LostBetsModel", "keepTurn", "()V"⟩, 41), (⟨"LostBetsModel", "isTwo", "(II)Z"⟩, 41), (⟨"LostBetsModel", "wedBits", "()I"⟩, 41), (⟨"LostBetsModel", "beliefThen", "(III)I"⟩, 41), (⟨"LostBetsModel", "wedThen", "(I)I"⟩, 41), (⟨"LostBetsModel", "wedSoon", "(I)I"⟩, 41), (⟨"LostBetsModel", "betOf", "(II)I"⟩, 41), (⟨"LostBetsModel", "isLost", "(III)Z"⟩, 41), (⟨"LostBetsModel", "wooersOf", "(I)I"⟩, 41), (⟨"LostBetsModel", "layMatch", "()V"⟩, 41), (⟨"LostBetsModel", "isPair", "(II)Z"⟩, 41), (⟨"LostBetsModel", "partnerOf", "(II)I"⟩, 41), (⟨"LostBetsModel", "tearsWithout", "(II)I"⟩, 41), (⟨"LostBetsModel", "allTears", "()I"⟩, 41), (⟨"LostBetsModel", "wagerWith", "(I)I"⟩, 41), (⟨"LostBetsModel", "isRow", "(I)Z"⟩, 41), (⟨"LostBetsModel", "saddestOne", "()I"⟩, 41), (⟨"LostBetsModel", "twosOf", "(I)I"⟩, 41), (⟨"LostBetsModel", "isMutual", "(II)Z"⟩, 41), (⟨"LostBetsModel", "freeBits", "()I"⟩, 41), (⟨"LostBetsModel", "lastDays", "()I"⟩, 41), (⟨"LostBetsModel", "chasteRun", "()I"⟩, 41), (⟨"LostBetsModel", "oddBits", "()I"⟩, 41), (⟨"LostBetsModel", "drawBelow", "(I)I"⟩, 41)]
noncomputable def lw_tbl : List Cond := k2_sels lw_privs ++ tables_1
theorem lq_xe : lq_x.map (fun x => x.1) = lw_privs := rfl
theorem lw_privs_ok : ∀ q ∈ lw_privs, lw_okq q := by
  rw [← lq_xe]
  exact lq_all lq_x lq_xb
