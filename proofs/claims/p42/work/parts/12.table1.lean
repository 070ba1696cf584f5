/-! the system's methods -/
noncomputable def zf_0 : Fin 4 := ⟨0, by decide⟩
noncomputable def zf_1 : Fin 4 := ⟨1, by decide⟩
noncomputable def zf_2 : Fin 4 := ⟨2, by decide⟩
noncomputable def zf_3 : Fin 4 := ⟨3, by decide⟩
noncomputable def zA1 (p : Nat) (i : Instr) : zz_I := (p, i, 1, [], .null)
noncomputable def zB1 (p : Nat) (i : Instr) (r : List Nat) : zz_I := (p, i, 1, r, .null)
noncomputable def zA2 (p : Nat) (i : Instr) : zz_I := (p, i, 2, [], .null)
noncomputable def zB2 (p : Nat) (i : Instr) (r : List Nat) : zz_I := (p, i, 2, r, .null)
noncomputable def zA3 (p : Nat) (i : Instr) : zz_I := (p, i, 3, [], .null)
noncomputable def zB3 (p : Nat) (i : Instr) (r : List Nat) : zz_I := (p, i, 3, r, .null)
noncomputable def zA4 (p : Nat) (i : Instr) : zz_I := (p, i, 4, [], .null)
noncomputable def zB4 (p : Nat) (i : Instr) (r : List Nat) : zz_I := (p, i, 4, r, .null)
noncomputable def zA5 (p : Nat) (i : Instr) : zz_I := (p, i, 5, [], .null)
noncomputable def zB5 (p : Nat) (i : Instr) (r : List Nat) : zz_I := (p, i, 5, r, .null)
/-- LostBets.<init> -/
noncomputable def zm_0 : zz_Mi := (⟨"LostBets", "<init>", "()V"⟩, prog_1_method_1_code, 2, none, 0, false, (269, 1834, 4, 84), (93, 72, 92), [
  [zA1 0 (.aload_n zf_0), zB3 1 (.invokespecial 3) [0, 94, 95, 96], zA1 4 (.aload_n zf_0), zA2 5 (.bipush 12), zB2 7 (.newarray .int) [105], zB3 9 (.putfield 9) [0, 7, 305, 2], zA1 12 (.aload_n zf_0), zA2 13 (.bipush 7), zB2 15 (.newarray .int) [105]],
  [zB3 17 (.putfield 13) [0, 9, 307, 2], zA2 20 (.bipush 6), zB3 22 (.anewarray 16) [1, 97, 98], zA1 25 .dup, zA1 26 (.iconst 0), zB3 27 (.new 16) [1, 97, 99, 73], zA1 30 .dup, zB3 31 (.invokespecial 18) [6, 1, 100]],
  [zB1 34 .aastore [1, 1, 0], zA1 35 .dup, zA1 36 (.iconst 1), zB3 37 (.new 19) [2, 106, 107, 74], zA1 40 .dup, zB3 41 (.invokespecial 21) [6, 2, 108], zB1 44 .aastore [1, 2, 1468], zA1 45 .dup, zA1 46 (.iconst 2), zB3 47 (.new 22) [3, 113, 114, 75]],
  [zA1 50 .dup, zB3 51 (.invokespecial 24) [6, 3, 115], zB1 54 .aastore [1, 3, 1469], zA1 55 .dup, zA1 56 (.iconst 3), zB3 57 (.new 25) [4, 120, 121, 76], zA1 60 .dup, zB3 61 (.invokespecial 27) [6, 4, 122]],
  [zB1 64 .aastore [1, 4, 1470], zA1 65 .dup, zA1 66 (.iconst 4), zB3 67 (.new 28) [5, 127, 128, 77], zA1 70 .dup, zB3 71 (.invokespecial 30) [6, 5, 129], zB1 74 .aastore [1, 5, 1471], zA1 75 .dup, zA1 76 (.iconst 5), zB3 77 (.new 31) [6, 134, 135, 78]],
  [zA1 80 .dup, zB3 81 (.invokespecial 33) [6, 6, 136], zB1 84 .aastore [1, 6, 1472], zA1 85 (.astore_n zf_1), zA1 86 (.aload_n zf_0), zB3 87 (.new 34) [7, 141, 142, 79], zA1 90 .dup, zA1 91 (.aload_n zf_1), zB3 92 (.invokespecial 36) [5, 7, 143], zB3 95 (.putfield 39) [0, 0, 298, 2]],
  [zA1 98 (.aload_n zf_0), zB3 99 (.new 34) [7, 141, 142, 79], zA1 102 .dup, zA1 103 (.aload_n zf_1), zB3 104 (.invokespecial 36) [5, 7, 143], zB3 107 (.putfield 43) [0, 1, 299, 2], zA1 110 (.aload_n zf_0), zB3 111 (.new 34) [7, 141, 142, 79]],
  [zA1 114 .dup, zA1 115 (.aload_n zf_1), zB3 116 (.invokespecial 36) [5, 7, 143], zB3 119 (.putfield 46) [0, 2, 300, 2], zA1 122 (.aload_n zf_0), zB3 123 (.new 49) [9, 248, 249, 81], zA1 126 .dup, zA1 127 (.aload_n zf_1)],
  [zB3 128 (.invokespecial 51) [5, 9, 250], zB3 131 (.putfield 52) [0, 4, 302, 2], zA1 134 (.aload_n zf_0), zB3 135 (.new 56) [10, 268, 269, 82], zA1 138 .dup, zB3 139 (.invokespecial 58) [6, 10, 270], zB3 142 (.putfield 59) [0, 5, 303, 2]],
  [zA1 145 (.aload_n zf_0), zB3 146 (.new 63) [11, 282, 283, 83], zA1 149 .dup, zB3 150 (.invokespecial 65) [6, 11, 284], zB3 153 (.putfield 66) [0, 6, 304, 2], zA1 156 .return_]])
/-- LostBets$Suitor.<init> -/
noncomputable def zm_1 : zz_Mi := (⟨"LostBets$Suitor", "<init>", "()V"⟩, prog_9_method_1_code, 1, none, 0, false, (0, 0, 1, 20), (102, 73, 101), [
  [zA1 0 (.aload_n zf_0), zB3 1 (.invokespecial 1) [0, 103, 95, 96], zA1 4 .return_]])
/-- LostBets$Aunt.<init> -/
noncomputable def zm_2 : zz_Mi := (⟨"LostBets$Aunt", "<init>", "()V"⟩, prog_2_method_1_code, 1, none, 0, false, (0, 0, 2, 40), (110, 74, 109), [
  [zA1 0 (.aload_n zf_0), zB3 1 (.invokespecial 1) [6, 1, 111], zA1 4 .return_]])
/-- LostBets$Girl.<init> -/
noncomputable def zm_3 : zz_Mi := (⟨"LostBets$Girl", "<init>", "()V"⟩, prog_4_method_1_code, 1, none, 0, false, (0, 0, 2, 40), (117, 75, 116), [
  [zA1 0 (.aload_n zf_0), zB3 1 (.invokespecial 1) [6, 1, 118], zA1 4 .return_]])
/-- LostBets$Gambler.<init> -/
noncomputable def zm_4 : zz_Mi := (⟨"LostBets$Gambler", "<init>", "()V"⟩, prog_3_method_1_code, 1, none, 0, false, (0, 0, 2, 40), (124, 76, 123), [
  [zA1 0 (.aload_n zf_0), zB3 1 (.invokespecial 1) [6, 1, 125], zA1 4 .return_]])
/-- LostBets$Rich.<init> -/
noncomputable def zm_5 : zz_Mi := (⟨"LostBets$Rich", "<init>", "()V"⟩, prog_8_method_1_code, 1, none, 0, false, (0, 0, 3, 60), (131, 77, 130), [
  [zA1 0 (.aload_n zf_0), zB3 1 (.invokespecial 1) [6, 2, 132], zA1 4 .return_]])
/-- LostBets$Honest.<init> -/
noncomputable def zm_6 : zz_Mi := (⟨"LostBets$Honest", "<init>", "()V"⟩, prog_5_method_1_code, 1, none, 0, false, (0, 0, 3, 60), (138, 78, 137), [
  [zA1 0 (.aload_n zf_0), zB3 1 (.invokespecial 1) [6, 4, 139], zA1 4 .return_]])
/-- LostBets$Town.<init> -/
noncomputable def zm_7 : zz_Mi := (⟨"LostBets$Town", "<init>", "([LLostBets$Suitor;)V"⟩, prog_10_method_1_code, 3, none, 1, false, (22, 126, 2, 40), (145, 79, 144), [
  [zA1 0 (.aload_n zf_0), zB3 1 (.invokespecial 3) [0, 146, 95, 96], zA1 4 (.aload_n zf_0), zA2 5 (.bipush 7), zB2 7 (.newarray .int) [105], zB3 9 (.putfield 9) [7, 2, 187, 2], zA1 12 (.aload_n zf_0), zA2 13 (.bipush 7), zB2 15 (.newarray .int) [105]],
  [zB3 17 (.putfield 15) [7, 3, 189, 2], zA1 20 (.aload_n zf_0), zA2 21 (.bipush 7), zB2 23 (.newarray .int) [105], zB3 25 (.putfield 18) [7, 4, 191, 2], zA1 28 (.aload_n zf_0), zA2 29 (.bipush 7), zB2 31 (.newarray .int) [105]],
  [zB3 33 (.putfield 21) [7, 5, 193, 2], zA1 36 (.aload_n zf_0), zA2 37 (.bipush 7), zB2 39 (.newarray .int) [105], zB3 41 (.putfield 24) [7, 6, 195, 2], zA1 44 (.aload_n zf_0), zA2 45 (.bipush 7), zB2 47 (.newarray .int) [105]],
  [zB3 49 (.putfield 27) [7, 7, 197, 2], zA1 52 (.aload_n zf_0), zA2 53 (.bipush 7), zB2 55 (.newarray .int) [105], zB3 57 (.putfield 30) [7, 8, 199, 2], zA1 60 (.aload_n zf_0), zA2 61 (.bipush 7), zB2 63 (.newarray .int) [105]],
  [zB3 65 (.putfield 33) [7, 9, 201, 2], zA1 68 (.aload_n zf_0), zA2 69 (.bipush 7), zA1 71 (.iconst 5), zB4 72 (.multianewarray 36 2) [2, 147, 148, 105], zB3 76 (.putfield 38) [7, 10, 203, 2], zA1 79 (.aload_n zf_0)],
  [zA1 80 (.iconst 5), zB2 81 (.newarray .int) [105], zB3 83 (.putfield 41) [7, 11, 205, 2], zA1 86 (.aload_n zf_0), zA1 87 (.iconst 5), zB2 88 (.newarray .int) [105], zB3 90 (.putfield 44) [7, 12, 207, 2], zA1 93 (.aload_n zf_0), zA1 94 (.iconst 3), zB3 95 (.anewarray 47) [3, 149, 150]],
  [zB3 98 (.putfield 49) [7, 13, 209, 2], zA1 101 (.aload_n zf_0), zA1 102 (.aload_n zf_1), zB3 103 (.putfield 53) [7, 0, 182, 2], zA1 106 (.iconst 0), zA1 107 (.istore_n zf_2), zA1 108 (.iload_n zf_2), zA1 109 (.iconst 5), zA3 110 (.if_icmp .ge 18)],
  [zA1 113 (.aload_n zf_0), zB3 114 (.getfield 41) [7, 11, 205], zA1 117 (.iload_n zf_2), zA1 118 (.iload_n zf_2), zA1 119 (.iconst 2), zA1 120 .iadd, zA1 121 .iastore, zA3 122 (.iinc 2 1), zA3 125 (.goto (-17))],
  [zA1 128 (.iconst 0), zA1 129 (.istore_n zf_2), zA1 130 (.iload_n zf_2), zA1 131 (.iconst 3), zA3 132 (.if_icmp .ge 22), zA1 135 (.aload_n zf_0), zB3 136 (.getfield 49) [7, 13, 209], zA1 139 (.iload_n zf_2), zB3 140 (.new 47) [8, 149, 151, 80], zA1 143 .dup],
  [zB3 144 (.invokespecial 57) [6, 8, 152], zB1 147 .aastore [3, 8, 0], zA3 148 (.iinc 2 1), zA3 151 (.goto (-21)), zA1 154 .return_]])
/-- LostBets$Wager.<init> -/
noncomputable def zm_8 : zz_Mi := (⟨"LostBets$Wager", "<init>", "()V"⟩, prog_12_method_1_code, 1, none, 0, false, (0, 0, 1, 20), (154, 80, 153), [
  [zA1 0 (.aload_n zf_0), zB3 1 (.invokespecial 1) [0, 155, 95, 96], zA1 4 .return_]])
/-- LostBets$Past.<init> -/
noncomputable def zm_9 : zz_Mi := (⟨"LostBets$Past", "<init>", "([LLostBets$Suitor;)V"⟩, prog_7_method_1_code, 3, none, 1, false, (185, 1144, 3, 62), (252, 81, 251), [
  [zA1 0 (.aload_n zf_0), zB3 1 (.invokespecial 1) [0, 253, 95, 96], zA1 4 (.aload_n zf_0), zA2 5 (.bipush 8), zB3 7 (.anewarray 9) [4, 254, 255], zB3 10 (.putfield 11) [9, 0, 257, 2], zA1 13 (.iconst 0), zA1 14 (.istore_n zf_2), zA1 15 (.iload_n zf_2)],
  [zA2 16 (.bipush 8), zA3 18 (.if_icmp .ge 23), zA1 21 (.aload_n zf_0), zB3 22 (.getfield 11) [9, 0, 257], zA1 25 (.iload_n zf_2), zB3 26 (.new 9) [7, 254, 142, 79], zA1 29 .dup, zA1 30 (.aload_n zf_1), zB3 31 (.invokespecial 15) [5, 7, 256]],
  [zB1 34 .aastore [4, 7, 0], zA3 35 (.iinc 2 1), zA3 38 (.goto (-23)), zA1 41 .return_]])
/-- LostBets$Letters.<init> -/
noncomputable def zm_10 : zz_Mi := (⟨"LostBets$Letters", "<init>", "()V"⟩, prog_6_method_1_code, 1, none, 0, false, (1, 96, 1, 20), (272, 82, 271), [
  [zA1 0 (.aload_n zf_0), zB3 1 (.invokespecial 3) [0, 273, 95, 96], zA1 4 (.aload_n zf_0), zA2 5 (.bipush 96), zB2 7 (.newarray .int) [105], zB3 9 (.putfield 11) [10, 0, 274, 2], zA1 12 .return_]])
/-- LostBets$Twos.<init> -/
noncomputable def zm_11 : zz_Mi := (⟨"LostBets$Twos", "<init>", "()V"⟩, prog_11_method_1_code, 1, none, 0, false, (2, 135, 1, 20), (286, 83, 285), [
  [zA1 0 (.aload_n zf_0), zB3 1 (.invokespecial 3) [0, 287, 95, 96], zA1 4 (.aload_n zf_0), zA2 5 (.bipush 7), zB2 7 (.newarray .int) [105], zB3 9 (.putfield 9) [11, 0, 288, 2], zA1 12 (.aload_n zf_0), zA3 13 (.sipush 128)],
  [zB2 16 (.newarray .int) [105], zB3 18 (.putfield 15) [11, 1, 289, 2], zA1 21 .return_]])
/-- LostBets.feed -/
noncomputable def zm_12 : zz_Mi := (⟨"LostBets", "feed", "(I)I"⟩, prog_1_method_2_code, 2, some .int, 1, false, (0, 0, 1, 21), (332, 72, 330), [
  [zA1 0 (.iload_n zf_1), zA3 1 (.ifCond .ge 10), zA1 4 (.aload_n zf_0), zA2 5 (.bipush (-4)), zB3 7 (.invokevirtual 70) [1, 13, 0, 333, 0], zA1 10 .ireturn, zA1 11 (.iload_n zf_1), zA3 12 (.sipush 255), zA3 15 (.if_icmp .gt 13)],
  [zA1 18 (.aload_n zf_0), zB3 19 (.getfield 59) [0, 5, 303], zB3 22 (.invokevirtual 74) [1, 14, 10, 337, 339], zA3 25 (.ifCond .eq 10), zA1 28 (.aload_n zf_0), zA2 29 (.bipush (-6)), zB3 31 (.invokevirtual 70) [1, 13, 0, 333, 0]],
  [zA1 34 .ireturn, zA1 35 (.aload_n zf_0), zB3 36 (.getfield 59) [0, 5, 303], zA1 39 (.iload_n zf_1), zB3 40 (.invokevirtual 78) [1, 15, 10, 341, 343], zA1 43 (.aload_n zf_0), zB3 44 (.getfield 59) [0, 5, 303], zB3 47 (.getfield 82) [10, 1, 276]],
  [zA1 50 .ireturn]])
/-- LostBets.refused -/
noncomputable def zm_13 : zz_Mi := (⟨"LostBets", "refused", "(I)I"⟩, prog_1_method_58_code, 2, some .int, 1, false, (0, 0, 0, 0), (336, 72, 335), [
  [zA1 0 (.aload_n zf_0), zB3 1 (.getfield 13) [0, 9, 307], zA1 4 (.iload_n zf_1), zA1 5 .ineg, zA1 6 .dup2, zA1 7 .iaload, zA1 8 (.iconst 1), zA1 9 .iadd, zA1 10 .iastore, zA1 11 (.iload_n zf_1), zA1 12 .ireturn]])
/-- LostBets$Letters.isFull -/
noncomputable def zm_14 : zz_Mi := (⟨"LostBets$Letters", "isFull", "()Z"⟩, prog_6_method_2_code, 1, some .boolean, 0, false, (0, 0, 0, 0), (340, 82, 338), [
  [zA1 0 (.aload_n zf_0), zB3 1 (.getfield 15) [10, 1, 275], zA2 4 (.bipush 96), zA3 6 (.if_icmp .lt 7), zA1 9 (.iconst 1), zA3 10 (.goto 4), zA1 13 (.iconst 0), zA1 14 .ireturn]])
/-- LostBets$Letters.add -/
noncomputable def zm_15 : zz_Mi := (⟨"LostBets$Letters", "add", "(I)V"⟩, prog_6_method_3_code, 2, none, 1, false, (0, 0, 0, 0), (344, 82, 342), [
  [zA1 0 (.aload_n zf_0), zB3 1 (.getfield 11) [10, 0, 274], zA1 4 (.aload_n zf_0), zB3 5 (.getfield 15) [10, 1, 275], zA1 8 (.iload_n zf_1), zA1 9 .iastore, zA1 10 (.aload_n zf_0), zA1 11 .dup, zB3 12 (.getfield 15) [10, 1, 275], zA1 15 (.iconst 1)],
  [zA1 16 .iadd, zB3 17 (.putfield 15) [10, 1, 275, 0], zA1 20 .return_]])
/-- LostBets.town -/
noncomputable def zm_16 : zz_Mi := (⟨"LostBets", "town", "()I"⟩, prog_1_method_3_code, 5, some .int, 0, false, (0, 0, 6, 135), (348, 72, 346), [
  [zA1 0 (.aload_n zf_0), zB3 1 (.getfield 59) [0, 5, 303], zB3 4 (.invokevirtual 86) [1, 17, 10, 349, 351], zA1 7 (.istore_n zf_1), zA1 8 (.iload_n zf_1), zA3 9 (.ifCond .lt 16), zA1 12 (.aload_n zf_0), zB3 13 (.getfield 59) [0, 5, 303]],
  [zB3 16 (.invokevirtual 90) [1, 22, 10, 367, 369], zA3 19 (.sipush (-1000)), zA1 22 (.iload_n zf_1), zA1 23 .isub, zA1 24 .ireturn, zA1 25 (.aload_n zf_0), zB3 26 (.getfield 43) [0, 1, 299], zA1 29 (.aload_n zf_0), zB3 30 (.getfield 39) [0, 0, 298]],
  [zB3 33 (.invokevirtual 93) [1, 23, 7, 371, 373], zA1 36 (.iconst 0), zA1 37 (.istore_n zf_2), zA1 38 (.iconst 0), zA1 39 (.istore_n zf_3), zA1 40 (.iload_n zf_3), zA1 41 (.aload_n zf_0), zB3 42 (.getfield 59) [0, 5, 303], zB3 45 (.getfield 82) [10, 1, 276]],
  [zA3 48 (.if_icmp .ge 33), zA1 51 (.aload_n zf_0), zA1 52 (.iload_n zf_3), zB3 53 (.invokevirtual 97) [1, 26, 0, 385, 1], zA3 56 (.ifCond .eq 25), zA3 59 (.iinc 2 1), zA1 62 (.iload_n zf_3), zA1 63 (.iconst 2)],
  [zA1 64 (.aload_n zf_0), zB3 65 (.getfield 59) [0, 5, 303], zA1 68 (.iload_n zf_3), zB3 69 (.invokevirtual 101) [1, 18, 10, 390, 355], zB3 72 (.invokestatic 104) [3, 19, 582], zA1 75 .iadd, zA1 76 .iadd, zA1 77 (.istore_n zf_3), zA3 78 (.goto (-38))],
  [zA1 81 (.iload_n zf_3), zA1 82 (.aload_n zf_0), zB3 83 (.getfield 59) [0, 5, 303], zB3 86 (.getfield 82) [10, 1, 276], zA3 89 (.if_icmp .lt 7), zA1 92 (.iconst 1), zA3 93 (.goto 4)],
  [zA1 96 (.iconst 0), zA2 97 (.istore 4), zA1 99 (.aload_n zf_0), zB3 100 (.getfield 59) [0, 5, 303], zB3 103 (.invokevirtual 90) [1, 22, 10, 367, 369], zA2 106 (.iload 4), zA3 108 (.ifCond .ne 9), zA3 111 (.sipush (-2000))],
  [zA1 114 (.iload_n zf_3), zA1 115 .isub, zA1 116 .ireturn, zA1 117 (.aload_n zf_0), zB3 118 (.getfield 39) [0, 0, 298], zA1 121 (.aload_n zf_0), zB3 122 (.getfield 43) [0, 1, 299], zB3 125 (.invokevirtual 93) [1, 23, 7, 371, 373]],
  [zA1 128 (.aload_n zf_0), zB3 129 (.getfield 52) [0, 4, 302], zB3 132 (.invokevirtual 107) [1, 73, 9, 583, 585], zA1 135 (.iload_n zf_2), zA1 136 .ireturn]])
/-- LostBets$Letters.firstBadPlace -/
noncomputable def zm_17 : zz_Mi := (⟨"LostBets$Letters", "firstBadPlace", "()I"⟩, prog_6_method_8_code, 4, some .int, 0, false, (0, 0, 2, 42), (352, 82, 350), [
  [zA1 0 (.iconst 0), zA1 1 (.istore_n zf_1), zA1 2 (.aload_n zf_0), zA1 3 (.iload_n zf_1), zB3 4 (.invokevirtual 19) [1, 18, 10, 353, 355], zB3 7 (.invokestatic 23) [3, 19, 357], zA1 10 (.istore_n zf_2), zA1 11 (.iload_n zf_2), zA3 12 (.ifCond .ge 5), zA1 15 (.iload_n zf_1)],
  [zA1 16 .ireturn, zA3 17 (.iinc 1 1), zA1 20 (.iconst 0), zA1 21 (.istore_n zf_3), zA1 22 (.iload_n zf_3), zA1 23 (.iload_n zf_2), zA3 24 (.if_icmp .ge 27), zA1 27 (.aload_n zf_0), zA1 28 (.iload_n zf_1), zB3 29 (.invokevirtual 26) [1, 20, 10, 360, 362]],
  [zA2 32 (.bipush 10), zB3 34 (.invokestatic 29) [4, 21, 364], zA3 37 (.ifCond .ne 5), zA1 40 (.iload_n zf_1), zA1 41 .ireturn, zA3 42 (.iinc 1 1), zA3 45 (.iinc 3 1)],
  [zA3 48 (.goto (-26)), zA1 51 (.aload_n zf_0), zA1 52 (.iload_n zf_1), zB3 53 (.invokevirtual 19) [1, 18, 10, 353, 355], zA2 56 (.bipush 59), zA3 58 (.if_icmp .eq 5), zA1 61 (.iload_n zf_1), zA1 62 .ireturn, zA3 63 (.iinc 1 1)],
  [zA1 66 (.iload_n zf_1), zA1 67 (.aload_n zf_0), zB3 68 (.getfield 15) [10, 1, 275], zA3 71 (.if_icmp .lt (-69)), zA2 74 (.bipush (-9)), zA1 76 .ireturn]])
/-- LostBets$Letters.at -/
noncomputable def zm_18 : zz_Mi := (⟨"LostBets$Letters", "at", "(I)I"⟩, prog_6_method_5_code, 2, some .int, 1, false, (0, 0, 0, 0), (356, 82, 354), [
  [zA1 0 (.iload_n zf_1), zA3 1 (.ifCond .lt 20), zA1 4 (.iload_n zf_1), zA1 5 (.aload_n zf_0), zB3 6 (.getfield 15) [10, 1, 275], zA3 9 (.if_icmp .ge 12), zA1 12 (.aload_n zf_0), zB3 13 (.getfield 11) [10, 0, 274]],
  [zA1 16 (.iload_n zf_1), zA1 17 .iaload, zA3 18 (.goto 4), zA1 21 (.iconst (-1)), zA1 22 .ireturn]])
/-- LostBets$Letters.digitsBehind -/
noncomputable def zm_19 : zz_Mi := (⟨"LostBets$Letters", "digitsBehind", "(I)I"⟩, prog_6_method_7_code, 1, some .int, 1, true, (0, 0, 0, 0), (359, 82, 358), [
  [zA1 0 (.iload_n zf_0), (1, .lookupswitch 65 #[(97, 63), (98, 61), (100, 59), (101, 61), (112, 59), (119, 59)], 59, [], .null)],
  [],
  [],
  [zA1 60 (.iconst 2), zA1 61 .ireturn, zA1 62 (.iconst 3), zA1 63 .ireturn],
  [zA1 64 (.iconst 5), zA1 65 .ireturn, zA1 66 (.iconst (-1)), zA1 67 .ireturn]])
/-- LostBets$Letters.digit -/
noncomputable def zm_20 : zz_Mi := (⟨"LostBets$Letters", "digit", "(I)I"⟩, prog_6_method_6_code, 2, some .int, 1, false, (0, 0, 1, 21), (363, 82, 361), [
  [zA1 0 (.aload_n zf_0), zA1 1 (.iload_n zf_1), zB3 2 (.invokevirtual 19) [1, 18, 10, 353, 355], zA2 5 (.bipush 48), zA1 7 .isub, zA1 8 .ireturn]])
/-- LostBets.isOneOf -/
noncomputable def zm_21 : zz_Mi := (⟨"LostBets", "isOneOf", "(II)Z"⟩, prog_1_method_61_code, 2, some .boolean, 2, true, (0, 0, 0, 0), (366, 72, 365), [
  [zA1 0 (.iload_n zf_0), zA3 1 (.ifCond .lt 12), zA1 4 (.iload_n zf_0), zA1 5 (.iload_n zf_1), zA3 6 (.if_icmp .ge 7), zA1 9 (.iconst 1), zA3 10 (.goto 4), zA1 13 (.iconst 0), zA1 14 .ireturn]])
/-- LostBets$Letters.drop -/
noncomputable def zm_22 : zz_Mi := (⟨"LostBets$Letters", "drop", "()V"⟩, prog_6_method_4_code, 1, none, 0, false, (0, 0, 0, 0), (370, 82, 368), [
  [zA1 0 (.aload_n zf_0), zA1 1 (.iconst 0), zB3 2 (.putfield 15) [10, 1, 275, 0], zA1 5 .return_]])
/-- LostBets$Town.copyFrom -/
noncomputable def zm_23 : zz_Mi := (⟨"LostBets$Town", "copyFrom", "(LLostBets$Town;)V"⟩, prog_10_method_2_code, 3, none, 1, false, (0, 0, 2, 47), (374, 79, 372), [
  [zA1 0 (.aload_n zf_0), zA1 1 (.aload_n zf_1), zB3 2 (.getfield 58) [7, 1, 184], zB3 5 (.putfield 58) [7, 1, 184, 0], zA1 8 (.aload_n zf_0), zA1 9 (.aload_n zf_1), zB3 10 (.getfield 62) [7, 14, 211], zB3 13 (.putfield 62) [7, 14, 211, 0]],
  [zA1 16 (.aload_n zf_0), zA1 17 (.aload_n zf_1), zB3 18 (.getfield 65) [7, 15, 213], zB3 21 (.putfield 65) [7, 15, 213, 0], zA1 24 (.aload_n zf_1), zB3 25 (.getfield 9) [7, 2, 187], zA1 28 (.aload_n zf_0), zB3 29 (.getfield 9) [7, 2, 187]],
  [zB3 32 (.invokestatic 68) [3, 24, 375], zA1 35 (.aload_n zf_1), zB3 36 (.getfield 15) [7, 3, 189], zA1 39 (.aload_n zf_0), zB3 40 (.getfield 15) [7, 3, 189], zB3 43 (.invokestatic 68) [3, 24, 375], zA1 46 (.aload_n zf_1), zB3 47 (.getfield 18) [7, 4, 191]],
  [zA1 50 (.aload_n zf_0), zB3 51 (.getfield 18) [7, 4, 191], zB3 54 (.invokestatic 68) [3, 24, 375], zA1 57 (.aload_n zf_1), zB3 58 (.getfield 21) [7, 5, 193], zA1 61 (.aload_n zf_0), zB3 62 (.getfield 21) [7, 5, 193]],
  [zB3 65 (.invokestatic 68) [3, 24, 375], zA1 68 (.aload_n zf_1), zB3 69 (.getfield 24) [7, 6, 195], zA1 72 (.aload_n zf_0), zB3 73 (.getfield 24) [7, 6, 195], zB3 76 (.invokestatic 68) [3, 24, 375], zA1 79 (.aload_n zf_1)],
  [zB3 80 (.getfield 27) [7, 7, 197], zA1 83 (.aload_n zf_0), zB3 84 (.getfield 27) [7, 7, 197], zB3 87 (.invokestatic 68) [3, 24, 375], zA1 90 (.aload_n zf_1), zB3 91 (.getfield 30) [7, 8, 199], zA1 94 (.aload_n zf_0), zB3 95 (.getfield 30) [7, 8, 199]],
  [zB3 98 (.invokestatic 68) [3, 24, 375], zA1 101 (.aload_n zf_1), zB3 102 (.getfield 33) [7, 9, 201], zA1 105 (.aload_n zf_0), zB3 106 (.getfield 33) [7, 9, 201], zB3 109 (.invokestatic 68) [3, 24, 375]],
  [zA1 112 (.aload_n zf_1), zB3 113 (.getfield 41) [7, 11, 205], zA1 116 (.aload_n zf_0), zB3 117 (.getfield 41) [7, 11, 205], zB3 120 (.invokestatic 68) [3, 24, 375], zA1 123 (.aload_n zf_1), zB3 124 (.getfield 44) [7, 12, 207], zA1 127 (.aload_n zf_0)],
  [zB3 128 (.getfield 44) [7, 12, 207], zB3 131 (.invokestatic 68) [3, 24, 375], zA1 134 (.iconst 0), zA1 135 (.istore_n zf_2), zA1 136 (.iload_n zf_2), zA1 137 (.aload_n zf_0), zB3 138 (.getfield 58) [7, 1, 184], zA3 141 (.if_icmp .ge 24)],
  [zA1 144 (.aload_n zf_1), zB3 145 (.getfield 38) [7, 10, 203], zA1 148 (.iload_n zf_2), zA1 149 .aaload, zA1 150 (.aload_n zf_0), zB3 151 (.getfield 38) [7, 10, 203], zA1 154 (.iload_n zf_2), zA1 155 .aaload, zB3 156 (.invokestatic 68) [3, 24, 375], zA3 159 (.iinc 2 1)],
  [zA3 162 (.goto (-26)), zA1 165 (.iconst 0), zA1 166 (.istore_n zf_2), zA1 167 (.iload_n zf_2), zA1 168 (.aload_n zf_0), zB3 169 (.getfield 62) [7, 14, 211], zA3 172 (.if_icmp .ge 24), zA1 175 (.aload_n zf_0)],
  [zB3 176 (.getfield 49) [7, 13, 209], zA1 179 (.iload_n zf_2), zA1 180 .aaload, zA1 181 (.aload_n zf_1), zB3 182 (.getfield 49) [7, 13, 209], zA1 185 (.iload_n zf_2), zA1 186 .aaload, zB3 187 (.invokevirtual 72) [1, 25, 8, 381, 383], zA3 190 (.iinc 2 1)],
  [zA3 193 (.goto (-26)), zA1 196 .return_]])
/-- LostBets$Town.copy -/
noncomputable def zm_24 : zz_Mi := (⟨"LostBets$Town", "copy", "([I[I)V"⟩, prog_10_method_3_code, 2, none, 2, true, (0, 0, 1, 26), (377, 79, 376), [
  [zA1 0 (.aload_n zf_0), zA1 1 (.iconst 0), zA1 2 (.aload_n zf_1), zA1 3 (.iconst 0), zA1 4 (.aload_n zf_1), zA1 5 .arraylength, zB3 6 (.invokestatic 76) [12, 378, 380, 379, 85], zA1 9 .return_]])
/-- LostBets$Wager.beLike -/
noncomputable def zm_25 : zz_Mi := (⟨"LostBets$Wager", "beLike", "(LLostBets$Wager;)V"⟩, prog_12_method_2_code, 2, none, 1, false, (0, 0, 0, 0), (384, 80, 382), [
  [zA1 0 (.aload_n zf_0), zA1 1 (.aload_n zf_1), zB3 2 (.getfield 7) [8, 0, 156], zB3 5 (.putfield 7) [8, 0, 156, 0], zA1 8 (.aload_n zf_0), zA1 9 (.aload_n zf_1), zB3 10 (.getfield 13) [8, 1, 159], zB3 13 (.putfield 13) [8, 1, 159, 0]],
  [zA1 16 (.aload_n zf_0), zA1 17 (.aload_n zf_1), zB3 18 (.getfield 16) [8, 2, 162], zB3 21 (.putfield 16) [8, 2, 162, 0], zA1 24 (.aload_n zf_0), zA1 25 (.aload_n zf_1), zB3 26 (.getfield 19) [8, 3, 165], zB3 29 (.putfield 19) [8, 3, 165, 0]],
  [zA1 32 (.aload_n zf_0), zA1 33 (.aload_n zf_1), zB3 34 (.getfield 22) [8, 4, 168], zB3 37 (.putfield 22) [8, 4, 168, 0], zA1 40 .return_]])
/-- LostBets.tellInMind -/
noncomputable def zm_26 : zz_Mi := (⟨"LostBets", "tellInMind", "(I)Z"⟩, prog_1_method_4_code, 7, some .boolean, 1, false, (0, 0, 5, 109), (388, 72, 387), [
  [zA1 0 (.aload_n zf_0), zB3 1 (.getfield 59) [0, 5, 303], zA1 4 (.iload_n zf_1), zA1 5 (.iconst 1), zA1 6 .iadd, zB3 7 (.invokevirtual 110) [1, 20, 10, 389, 362], zA1 10 (.istore_n zf_2), zA1 11 (.aload_n zf_0), zB3 12 (.getfield 59) [0, 5, 303], zA1 15 (.iload_n zf_1)],
  [zA1 16 (.iconst 2), zA1 17 .iadd, zB3 18 (.invokevirtual 110) [1, 20, 10, 389, 362], zA1 21 (.istore_n zf_3), zA1 22 (.aload_n zf_0), zB3 23 (.getfield 59) [0, 5, 303], zA1 26 (.iload_n zf_1), zA1 27 (.iconst 3), zA1 28 .iadd, zB3 29 (.invokevirtual 110) [1, 20, 10, 389, 362]],
  [zA2 32 (.istore 4), zA1 34 (.aload_n zf_0), zB3 35 (.getfield 59) [0, 5, 303], zA1 38 (.iload_n zf_1), zA1 39 (.iconst 4), zA1 40 .iadd, zB3 41 (.invokevirtual 110) [1, 20, 10, 389, 362], zA2 44 (.istore 5), zA1 46 (.aload_n zf_0), zB3 47 (.getfield 59) [0, 5, 303]],
  [zA1 50 (.iload_n zf_1), zA1 51 (.iconst 5), zA1 52 .iadd, zB3 53 (.invokevirtual 110) [1, 20, 10, 389, 362], zA2 56 (.istore 6), zA1 58 (.aload_n zf_0), zB3 59 (.getfield 59) [0, 5, 303], zA1 62 (.iload_n zf_1), zB3 63 (.invokevirtual 101) [1, 18, 10, 390, 355]],
  [(66, .lookupswitch 239 #[(97, 169), (98, 138), (100, 206), (101, 109), (112, 58), (119, 83)], 58, [], .null)],
  [],
  [],
  [zA1 124 (.aload_n zf_0), zB3 125 (.getfield 43) [0, 1, 299]],
  [zA1 128 (.iload_n zf_2), zA1 129 (.iload_n zf_3), zB3 130 (.invokevirtual 113) [1, 27, 7, 391, 393], zA3 133 (.ifCond .eq 5), zA1 136 (.iconst 0), zA1 137 .ireturn, zA1 138 (.aload_n zf_0), zB3 139 (.getfield 43) [0, 1, 299], zA1 142 (.iload_n zf_2), zA1 143 (.iload_n zf_3)],
  [zB3 144 (.invokevirtual 117) [1, 28, 7, 396, 398], zA1 147 (.iconst 1), zA1 148 .ireturn, zA1 149 (.aload_n zf_0), zB3 150 (.getfield 43) [0, 1, 299], zA1 153 (.iload_n zf_2), zA1 154 (.iload_n zf_3), zB3 155 (.invokevirtual 121) [1, 48, 7, 477, 479], zA3 158 (.ifCond .eq 5)],
  [zA1 161 (.iconst 0), zA1 162 .ireturn, zA1 163 (.aload_n zf_0), zB3 164 (.getfield 43) [0, 1, 299], zB3 167 (.getfield 124) [7, 7, 198], zA1 170 (.iload_n zf_2), zA1 171 (.iload_n zf_3), zA1 172 .iastore, zA1 173 (.iconst 1), zA1 174 .ireturn, zA1 175 (.aload_n zf_0)],
  [zB3 176 (.getfield 43) [0, 1, 299], zA1 179 (.iload_n zf_2), zA1 180 (.iload_n zf_3), zA2 181 (.iload 4), zB3 183 (.invokevirtual 127) [1, 50, 7, 485, 487], zA3 186 (.ifCond .eq 5), zA1 189 (.iconst 0), zA1 190 .ireturn, zA1 191 (.aload_n zf_0)],
  [zB3 192 (.getfield 43) [0, 1, 299], zA1 195 (.iload_n zf_2), zA1 196 (.iload_n zf_3), zA2 197 (.iload 4), zB3 199 (.invokevirtual 131) [1, 52, 7, 493, 495], zA1 202 (.iconst 1), zA1 203 .ireturn, zA1 204 (.aload_n zf_0), zB3 205 (.getfield 43) [0, 1, 299]],
  [zA1 208 (.iload_n zf_2), zA1 209 (.iload_n zf_3), zA2 210 (.iload 4), zB3 212 (.invokevirtual 135) [1, 53, 7, 497, 499], zA3 215 (.ifCond .eq 5), zA1 218 (.iconst 0), zA1 219 .ireturn, zA1 220 (.aload_n zf_0), zB3 221 (.getfield 43) [0, 1, 299]],
  [zB3 224 (.getfield 138) [7, 10, 204], zA1 227 (.iload_n zf_2), zA1 228 .aaload, zA1 229 (.iload_n zf_3), zA2 230 (.iload 4), zA1 232 .iastore, zA1 233 (.iconst 1), zA1 234 .ireturn, zA1 235 (.aload_n zf_0), zB3 236 (.getfield 43) [0, 1, 299], zA1 239 (.iload_n zf_2)],
  [zA1 240 (.iload_n zf_3), zA2 241 (.iload 4), zA2 243 (.iload 5), zA2 245 (.iload 6), zB3 247 (.invokevirtual 142) [1, 54, 7, 501, 503], zA3 250 (.ifCond .eq 5), zA1 253 (.iconst 0), zA1 254 .ireturn, zA1 255 (.aload_n zf_0)],
  [zB3 256 (.getfield 43) [0, 1, 299], zA1 259 (.iload_n zf_2), zA1 260 (.iload_n zf_3), zA2 261 (.iload 4), zA2 263 (.iload 5), zA2 265 (.iload 6), zB3 267 (.invokevirtual 146) [1, 62, 7, 533, 535], zA1 270 (.iconst 1), zA1 271 .ireturn],
  [zA1 272 (.aload_n zf_0), zB3 273 (.getfield 43) [0, 1, 299], zA2 276 (.bipush 10), zA1 278 (.iload_n zf_2), zA1 279 .imul, zA1 280 (.iload_n zf_3), zA1 281 .iadd, zB3 282 (.invokevirtual 150) [1, 63, 7, 537, 539], zA3 285 (.ifCond .eq 5)],
  [zA1 288 (.iconst 0), zA1 289 .ireturn, zA1 290 (.aload_n zf_0), zB3 291 (.getfield 43) [0, 1, 299], zA2 294 (.bipush 10), zA1 296 (.iload_n zf_2), zA1 297 .imul, zA1 298 (.iload_n zf_3), zA1 299 .iadd, zB3 300 (.invokevirtual 153) [1, 64, 7, 541, 543], zA1 303 (.iconst 1)],
  [zA1 304 .ireturn, zA1 305 (.iconst 0), zA1 306 .ireturn]])
/-- LostBets$Town.refusalToCome -/
noncomputable def zm_27 : zz_Mi := (⟨"LostBets$Town", "refusalToCome", "(II)I"⟩, prog_10_method_6_code, 3, some .int, 2, false, (0, 0, 1, 21), (394, 79, 392), [
  [zA1 0 (.iload_n zf_1), zA1 1 (.aload_n zf_0), zB3 2 (.getfield 53) [7, 0, 182], zA1 5 .arraylength, zB3 6 (.invokestatic 86) [4, 21, 395], zA3 9 (.ifCond .ne 6), zA2 12 (.bipush (-2)), zA1 14 .ireturn, zA1 15 (.iload_n zf_2)],
  [zA3 16 (.ifCond .ge 6), zA2 19 (.bipush (-4)), zA1 21 .ireturn, zA1 22 (.iload_n zf_2), zA2 23 (.bipush 10), zA3 25 (.if_icmp .ge 12), zA1 28 (.aload_n zf_0), zB3 29 (.getfield 58) [7, 1, 184]],
  [zA2 32 (.bipush 7), zA3 34 (.if_icmp .lt 8), zA2 37 (.bipush (-6)), zA3 39 (.goto 4), zA1 42 (.iconst 0), zA1 43 .ireturn]])
/-- LostBets$Town.come -/
noncomputable def zm_28 : zz_Mi := (⟨"LostBets$Town", "come", "(II)V"⟩, prog_10_method_7_code, 3, none, 2, false, (0, 0, 4, 86), (399, 79, 397), [
  [zA1 0 (.aload_n zf_0), zA1 1 (.aload_n zf_0), zB3 2 (.getfield 58) [7, 1, 184], zA1 5 (.iload_n zf_1), zA1 6 (.iload_n zf_2), zB3 7 (.invokevirtual 90) [1, 29, 7, 400, 402], zA1 10 (.aload_n zf_0), zB3 11 (.getfield 27) [7, 7, 197], zA1 14 (.aload_n zf_0), zB3 15 (.getfield 58) [7, 1, 184]],
  [zA1 18 (.aload_n zf_0), zB3 19 (.getfield 58) [7, 1, 184], zA1 22 .iastore, zA1 23 (.aload_n zf_0), zB3 24 (.getfield 30) [7, 8, 199], zA1 27 (.aload_n zf_0), zB3 28 (.getfield 58) [7, 1, 184], zA1 31 (.iconst 0)],
  [zA1 32 .iastore, zA1 33 (.aload_n zf_0), zB3 34 (.getfield 33) [7, 9, 201], zA1 37 (.aload_n zf_0), zB3 38 (.getfield 58) [7, 1, 184], zA2 41 (.bipush (-9)), zA1 43 .iastore, zA1 44 (.aload_n zf_0), zB3 45 (.getfield 38) [7, 10, 203]],
  [zA1 48 (.aload_n zf_0), zB3 49 (.getfield 58) [7, 1, 184], zA1 52 .aaload, zA1 53 (.iconst 5), zB3 54 (.invokestatic 94) [3, 47, 474], zA1 57 (.aload_n zf_0), zA1 58 .dup, zB3 59 (.getfield 58) [7, 1, 184], zA1 62 (.iconst 1), zA1 63 .iadd],
  [zB3 64 (.putfield 58) [7, 1, 184, 0], zA1 67 .return_]])
/-- LostBets$Town.become -/
noncomputable def zm_29 : zz_Mi := (⟨"LostBets$Town", "become", "(III)V"⟩, prog_10_method_8_code, 4, none, 3, false, (0, 0, 3, 63), (403, 79, 401), [
  [zA1 0 (.aload_n zf_0), zB3 1 (.getfield 9) [7, 2, 187], zA1 4 (.iload_n zf_1), zA1 5 (.iload_n zf_2), zA1 6 .iastore, zA1 7 (.aload_n zf_0), zB3 8 (.getfield 15) [7, 3, 189], zA1 11 (.iload_n zf_1), zA1 12 (.iload_n zf_3), zA1 13 .iastore, zA1 14 (.aload_n zf_0), zB3 15 (.getfield 18) [7, 4, 191]],
  [zA1 18 (.iload_n zf_1), zA1 19 (.aload_n zf_0), zB3 20 (.getfield 53) [7, 0, 182], zA1 23 (.iload_n zf_2), zA1 24 .aaload, zA1 25 (.iload_n zf_3), zB3 26 (.invokevirtual 100) [8, 35, 404, 407, 1, 35, 406, 2, 30, 408, 4, 31, 412, 3, 32, 415, 6, 33, 418, 5, 34, 422], zA1 29 .iastore, zA1 30 (.aload_n zf_0), zB3 31 (.getfield 21) [7, 5, 193]],
  [zA1 34 (.iload_n zf_1), zA1 35 (.aload_n zf_0), zB3 36 (.getfield 53) [7, 0, 182], zA1 39 (.iload_n zf_2), zA1 40 .aaload, zA1 41 (.iload_n zf_3), zB3 42 (.invokevirtual 105) [8, 41, 427, 430, 1, 41, 429, 2, 36, 431, 4, 37, 435, 3, 38, 438, 6, 39, 442, 5, 40, 446], zA1 45 .iastore, zA1 46 (.aload_n zf_0), zB3 47 (.getfield 24) [7, 6, 195]],
  [zA1 50 (.iload_n zf_1), zA1 51 (.aload_n zf_0), zB3 52 (.getfield 53) [7, 0, 182], zA1 55 (.iload_n zf_2), zA1 56 .aaload, zB3 57 (.invokevirtual 107) [8, 46, 451, 454, 1, 46, 453, 2, 42, 455, 4, 46, 458, 3, 43, 459, 6, 44, 463, 5, 45, 469], zA1 60 .iastore, zA1 61 .return_]])
/-- LostBets$Aunt.asks -/
noncomputable def zm_30 : zz_Mi := (⟨"LostBets$Aunt", "asks", "(I)I"⟩, prog_2_method_2_code, 2, some .int, 1, false, (0, 0, 1, 21), (410, 74, 409), [
  [zA1 0 (.aload_n zf_0), zA1 1 (.iload_n zf_1), zB3 2 (.invokespecial 7) [7, 35, 411, 407, 112], zA1 5 (.iconst 1), zA1 6 .iadd, zA1 7 .ireturn]])
/-- LostBets$Gambler.asks -/
noncomputable def zm_31 : zz_Mi := (⟨"LostBets$Gambler", "asks", "(I)I"⟩, prog_3_method_2_code, 2, some .int, 1, false, (0, 0, 0, 0), (414, 76, 413), [
  [zA1 0 (.iconst 0), zA1 1 .ireturn]])
/-- LostBets$Girl.asks -/
noncomputable def zm_32 : zz_Mi := (⟨"LostBets$Girl", "asks", "(I)I"⟩, prog_4_method_2_code, 2, some .int, 1, false, (0, 0, 0, 0), (417, 75, 416), [
  [zA1 0 (.iload_n zf_1), zA1 1 .ireturn]])
/-- LostBets$Honest.asks -/
noncomputable def zm_33 : zz_Mi := (⟨"LostBets$Honest", "asks", "(I)I"⟩, prog_5_method_2_code, 2, some .int, 1, false, (0, 0, 1, 21), (420, 78, 419), [
  [zA1 0 (.aload_n zf_0), zA1 1 (.iload_n zf_1), zB3 2 (.invokespecial 7) [7, 31, 421, 1463, 140], zA1 5 (.iconst 3), zA1 6 .iadd, zA1 7 .ireturn]])
/-- LostBets$Rich.asks -/
noncomputable def zm_34 : zz_Mi := (⟨"LostBets$Rich", "asks", "(I)I"⟩, prog_8_method_2_code, 2, some .int, 1, false, (0, 0, 2, 42), (424, 77, 423), [
  [zA1 0 (.aload_n zf_0), zA1 1 (.iload_n zf_1), zB3 2 (.invokespecial 7) [7, 30, 425, 1464, 133], zA1 5 (.iload_n zf_1), zA1 6 (.iconst 3), zA1 7 .idiv, zA1 8 .iadd, zA1 9 .ireturn]])
/-- LostBets$Suitor.asks -/
noncomputable def zm_35 : zz_Mi := (⟨"LostBets$Suitor", "asks", "(I)I"⟩, prog_9_method_2_code, 2, some .int, 1, false, (0, 0, 0, 0), (426, 73, 405), [
  [zA1 0 (.iconst 5), zA1 1 .ireturn]])
/-- LostBets$Aunt.weeps -/
noncomputable def zm_36 : zz_Mi := (⟨"LostBets$Aunt", "weeps", "(I)I"⟩, prog_2_method_3_code, 2, some .int, 1, false, (0, 0, 1, 21), (433, 74, 432), [
  [zA1 0 (.aload_n zf_0), zA1 1 (.iload_n zf_1), zB3 2 (.invokespecial 11) [7, 41, 434, 430, 112], zA1 5 (.iconst 3), zA1 6 .isub, zA1 7 .ireturn]])
/-- LostBets$Gambler.weeps -/
noncomputable def zm_37 : zz_Mi := (⟨"LostBets$Gambler", "weeps", "(I)I"⟩, prog_3_method_3_code, 2, some .int, 1, false, (0, 0, 0, 0), (437, 76, 436), [
  [zA1 0 (.iconst 0), zA1 1 .ireturn]])
/-- LostBets$Girl.weeps -/
noncomputable def zm_38 : zz_Mi := (⟨"LostBets$Girl", "weeps", "(I)I"⟩, prog_4_method_3_code, 2, some .int, 1, false, (0, 0, 1, 21), (440, 75, 439), [
  [zA1 0 (.iconst 2), zA1 1 (.aload_n zf_0), zA1 2 (.iload_n zf_1), zB3 3 (.invokespecial 7) [7, 41, 441, 430, 119], zA1 6 .imul, zA1 7 .ireturn]])
/-- LostBets$Honest.weeps -/
noncomputable def zm_39 : zz_Mi := (⟨"LostBets$Honest", "weeps", "(I)I"⟩, prog_5_method_3_code, 2, some .int, 1, false, (0, 0, 1, 21), (444, 78, 443), [
  [zA1 0 (.aload_n zf_0), zA1 1 (.iload_n zf_1), zB3 2 (.invokespecial 11) [7, 37, 445, 1465, 140], zA1 5 (.iload_n zf_1), zA1 6 .iadd, zA1 7 .ireturn]])
/-- LostBets$Rich.weeps -/
noncomputable def zm_40 : zz_Mi := (⟨"LostBets$Rich", "weeps", "(I)I"⟩, prog_8_method_3_code, 2, some .int, 1, false, (0, 0, 2, 42), (448, 77, 447), [
  [zA1 0 (.aload_n zf_0), zA1 1 (.iload_n zf_1), zB3 2 (.invokespecial 11) [7, 36, 449, 1466, 133], zA1 5 (.iconst 1), zA1 6 .iadd, zA1 7 .ireturn]])
/-- LostBets$Suitor.weeps -/
noncomputable def zm_41 : zz_Mi := (⟨"LostBets$Suitor", "weeps", "(I)I"⟩, prog_9_method_3_code, 2, some .int, 1, false, (0, 0, 0, 0), (450, 73, 428), [
  [zA1 0 (.iconst 5), zA1 1 .ireturn]])
/-- LostBets$Aunt.learns -/
noncomputable def zm_42 : zz_Mi := (⟨"LostBets$Aunt", "learns", "()I"⟩, prog_2_method_4_code, 1, some .int, 0, false, (0, 0, 0, 0), (457, 74, 456), [
  [zA1 0 (.iconst 0), zA1 1 .ireturn]])
/-- LostBets$Girl.learns -/
noncomputable def zm_43 : zz_Mi := (⟨"LostBets$Girl", "learns", "()I"⟩, prog_4_method_4_code, 1, some .int, 0, false, (0, 0, 1, 20), (461, 75, 460), [
  [zA1 0 (.aload_n zf_0), zB3 1 (.invokespecial 11) [7, 46, 462, 454, 119], zA1 4 (.iconst 1), zA1 5 .iadd, zA1 6 .ireturn]])
/-- LostBets$Honest.learns -/
noncomputable def zm_44 : zz_Mi := (⟨"LostBets$Honest", "learns", "()I"⟩, prog_5_method_4_code, 1, some .int, 0, false, (0, 0, 1, 20), (465, 78, 464), [
  [zA1 0 (.aload_n zf_0), zB3 1 (.invokespecial 14) [9, 46, 4, 466, 467, 140, 126], zA1 4 (.iconst 2), zA1 5 .iadd, zA1 6 .ireturn]])
/-- LostBets$Rich.learns -/
noncomputable def zm_45 : zz_Mi := (⟨"LostBets$Rich", "learns", "()I"⟩, prog_8_method_4_code, 1, some .int, 0, false, (0, 0, 1, 20), (471, 77, 470), [
  [zA1 0 (.aload_n zf_0), zB3 1 (.invokespecial 14) [7, 42, 472, 1467, 133], zA1 4 (.iconst 1), zA1 5 .iadd, zA1 6 .ireturn]])
/-- LostBets$Suitor.learns -/
noncomputable def zm_46 : zz_Mi := (⟨"LostBets$Suitor", "learns", "()I"⟩, prog_9_method_4_code, 1, some .int, 0, false, (0, 0, 0, 0), (473, 73, 452), [
  [zA1 0 (.iconst 1), zA1 1 .ireturn]])
/-- java/util/Arrays.fill -/
noncomputable def zm_47 : zz_Mi := (⟨"java/util/Arrays", "fill", "([II)V"⟩, prog_18_method_103_code, 4, none, 2, true, (0, 0, 0, 0), (476, 86, 475), [
  [zA1 0 (.iconst 0), zA1 1 (.istore_n zf_2), zA1 2 (.aload_n zf_0), zA1 3 .arraylength, zA1 4 (.istore_n zf_3), zA1 5 (.iload_n zf_2), zA1 6 (.iload_n zf_3), zA3 7 (.if_icmp .ge 13), zA1 10 (.aload_n zf_0), zA1 11 (.iload_n zf_2), zA1 12 (.iload_n zf_1), zA1 13 .iastore, zA3 14 (.iinc 2 1)],
  [zA3 17 (.goto (-12)), zA1 20 .return_]])
/-- LostBets$Town.refusalToWish -/
noncomputable def zm_48 : zz_Mi := (⟨"LostBets$Town", "refusalToWish", "(II)I"⟩, prog_10_method_9_code, 3, some .int, 2, false, (0, 0, 1, 21), (480, 79, 478), [
  [zA1 0 (.aload_n zf_0), zA1 1 (.iload_n zf_1), zB3 2 (.invokevirtual 82) [1, 49, 7, 481, 483], zA3 5 (.ifCond .eq 16), zA1 8 (.iload_n zf_2), zA2 9 (.bipush 7), zB3 11 (.invokestatic 86) [4, 21, 395], zA3 14 (.ifCond .eq 7)],
  [zA1 17 (.iconst 0), zA3 18 (.goto 4), zA1 21 (.iconst (-1)), zA1 22 .ireturn]])
/-- LostBets$Town.has -/
noncomputable def zm_49 : zz_Mi := (⟨"LostBets$Town", "has", "(I)Z"⟩, prog_10_method_4_code, 2, some .boolean, 1, false, (0, 0, 0, 0), (484, 79, 482), [
  [zA1 0 (.iload_n zf_1), zA3 1 (.ifCond .lt 15), zA1 4 (.iload_n zf_1), zA1 5 (.aload_n zf_0), zB3 6 (.getfield 58) [7, 1, 184], zA3 9 (.if_icmp .ge 7), zA1 12 (.iconst 1), zA3 13 (.goto 4)],
  [zA1 16 (.iconst 0), zA1 17 .ireturn]])
/-- LostBets$Town.refusalToSet -/
noncomputable def zm_50 : zz_Mi := (⟨"LostBets$Town", "refusalToSet", "(III)I"⟩, prog_10_method_11_code, 4, some .int, 3, false, (0, 0, 2, 41), (488, 79, 486), [
  [zA1 0 (.iload_n zf_1), zB3 1 (.invokestatic 110) [4, 51, 489], zA3 4 (.ifCond .ne 5), zA1 7 (.iconst (-1)), zA1 8 .ireturn, zA1 9 (.iload_n zf_2), zA1 10 (.iconst 1), zA3 11 (.if_icmp .lt 7), zA1 14 (.iload_n zf_3), zA3 15 (.ifCond .ge 6)],
  [zA2 18 (.bipush (-4)), zA1 20 .ireturn, zA1 21 (.iload_n zf_2), zA2 22 (.bipush 9), zA3 24 (.if_icmp .gt 9), zA1 27 (.iload_n zf_3), zA2 28 (.bipush 8), zA3 30 (.if_icmp .le 8)],
  [zA2 33 (.bipush (-6)), zA3 35 (.goto 4), zA1 38 (.iconst 0), zA1 39 .ireturn]])
/-- LostBets.isEvent -/
noncomputable def zm_51 : zz_Mi := (⟨"LostBets", "isEvent", "(I)Z"⟩, prog_1_method_60_code, 1, some .boolean, 1, true, (0, 0, 1, 21), (491, 72, 490), [
  [zA1 0 (.iload_n zf_0), zA1 1 (.iconst 5), zB3 2 (.invokestatic 246) [3, 21, 492], zA1 5 .ireturn]])
/-- LostBets$Town.set -/
noncomputable def zm_52 : zz_Mi := (⟨"LostBets$Town", "set", "(III)V"⟩, prog_10_method_12_code, 4, none, 3, false, (0, 0, 0, 0), (496, 79, 494), [
  [zA1 0 (.aload_n zf_0), zB3 1 (.getfield 41) [7, 11, 205], zA1 4 (.iload_n zf_1), zA1 5 (.iload_n zf_2), zA1 6 .iastore, zA1 7 (.aload_n zf_0), zB3 8 (.getfield 44) [7, 12, 207], zA1 11 (.iload_n zf_1), zA1 12 (.iload_n zf_3), zA1 13 .iastore, zA1 14 .return_]])
/-- LostBets$Town.refusalToBelieve -/
noncomputable def zm_53 : zz_Mi := (⟨"LostBets$Town", "refusalToBelieve", "(III)I"⟩, prog_10_method_10_code, 4, some .int, 3, false, (0, 0, 2, 41), (500, 79, 498), [
  [zA1 0 (.aload_n zf_0), zA1 1 (.iload_n zf_1), zB3 2 (.invokevirtual 82) [1, 49, 7, 481, 483], zA3 5 (.ifCond .eq 10), zA1 8 (.iload_n zf_2), zB3 9 (.invokestatic 110) [4, 51, 489], zA3 12 (.ifCond .ne 5), zA1 15 (.iconst (-1))],
  [zA1 16 .ireturn, zA1 17 (.iload_n zf_3), zA3 18 (.ifCond .ge 6), zA2 21 (.bipush (-4)), zA1 23 .ireturn, zA1 24 (.iload_n zf_3), zA2 25 (.bipush 9), zA3 27 (.if_icmp .le 8), zA2 30 (.bipush (-6))],
  [zA3 32 (.goto 4), zA1 35 (.iconst 0), zA1 36 .ireturn]])
/-- LostBets$Town.refusalToPropose -/
noncomputable def zm_54 : zz_Mi := (⟨"LostBets$Town", "refusalToPropose", "(IIIII)I"⟩, prog_10_method_13_code, 6, some .int, 5, false, (0, 0, 3, 71), (504, 79, 502), [
  [zA1 0 (.aload_n zf_0), zA1 1 (.iload_n zf_1), zA1 2 (.iload_n zf_2), zB3 3 (.invokevirtual 113) [1, 55, 7, 505, 507], zA3 6 (.ifCond .eq 10), zA1 9 (.iload_n zf_3), zB3 10 (.invokestatic 110) [4, 51, 489], zA3 13 (.ifCond .ne 5)],
  [zA1 16 (.iconst (-1)), zA1 17 .ireturn, zA2 18 (.iload 4), zA1 20 (.iconst 2), zB3 21 (.invokestatic 86) [4, 21, 395], zA3 24 (.ifCond .ne 6), zA2 27 (.bipush (-2)), zA1 29 .ireturn, zA2 30 (.iload 5)],
  [zA1 32 (.iconst 1), zA3 33 (.if_icmp .ge 6), zA2 36 (.bipush (-4)), zA1 38 .ireturn, zA2 39 (.iload 5), zA2 41 (.bipush 9), zA3 43 (.if_icmp .le 6), zA2 46 (.bipush (-6))],
  [zA1 48 .ireturn, zA1 49 (.aload_n zf_0), zB3 50 (.getfield 62) [7, 14, 211], zA1 53 (.iconst 3), zA3 54 (.if_icmp .ge 19), zA1 57 (.aload_n zf_0), zA1 58 (.iload_n zf_1), zA1 59 (.iload_n zf_2), zA1 60 (.iload_n zf_3), zA2 61 (.iload 4), zB3 63 (.invokevirtual 116) [1, 56, 7, 509, 511]],
  [zA3 66 (.ifCond .eq 7), zA1 69 (.iconst 0), zA3 70 (.goto 5), zA2 73 (.bipush (-3)), zA1 75 .ireturn]])
/-- LostBets$Town.areTwo -/
noncomputable def zm_55 : zz_Mi := (⟨"LostBets$Town", "areTwo", "(II)Z"⟩, prog_10_method_5_code, 3, some .boolean, 2, false, (0, 0, 1, 21), (508, 79, 506), [
  [zA1 0 (.aload_n zf_0), zA1 1 (.iload_n zf_1), zB3 2 (.invokevirtual 82) [1, 49, 7, 481, 483], zA3 5 (.ifCond .eq 20), zA1 8 (.aload_n zf_0), zA1 9 (.iload_n zf_2), zB3 10 (.invokevirtual 82) [1, 49, 7, 481, 483], zA3 13 (.ifCond .eq 12)],
  [zA1 16 (.iload_n zf_1), zA1 17 (.iload_n zf_2), zA3 18 (.if_icmp .eq 7), zA1 21 (.iconst 1), zA3 22 (.goto 4), zA1 25 (.iconst 0), zA1 26 .ireturn]])
/-- LostBets$Town.canBe -/
noncomputable def zm_56 : zz_Mi := (⟨"LostBets$Town", "canBe", "(IIII)Z"⟩, prog_10_method_26_code, 5, some .boolean, 4, false, (0, 0, 2, 47), (512, 79, 510), [
  [zA1 0 (.aload_n zf_0), zA1 1 (.iload_n zf_1), zB3 2 (.invokevirtual 175) [1, 57, 7, 513, 515], zA3 5 (.ifCond .eq 39), zA1 8 (.aload_n zf_0), zA1 9 (.iload_n zf_2), zB3 10 (.invokevirtual 175) [1, 57, 7, 513, 515], zA3 13 (.ifCond .eq 31)],
  [zA1 16 (.aload_n zf_0), zA1 17 (.iload_n zf_1), zA1 18 (.iload_n zf_3), zA2 19 (.iload 4), zB3 21 (.invokevirtual 171) [1, 60, 7, 525, 2], zA1 24 (.iconst 4), zA3 25 (.if_icmp .gt 19), zA1 28 (.aload_n zf_0), zA1 29 (.iload_n zf_2), zA1 30 (.iload_n zf_1), zA1 31 (.iload_n zf_3)],
  [zA2 32 (.iload 4), zB3 34 (.invokevirtual 178) [1, 61, 7, 529, 531], zA3 37 (.ifCond .eq 7), zA1 40 (.iconst 1), zA3 41 (.goto 4), zA1 44 (.iconst 0), zA1 45 .ireturn]])
/-- LostBets$Town.isFree -/
noncomputable def zm_57 : zz_Mi := (⟨"LostBets$Town", "isFree", "(I)Z"⟩, prog_10_method_33_code, 2, some .boolean, 1, false, (0, 0, 1, 22), (516, 79, 514), [
  [zA1 0 (.aload_n zf_0), zA1 1 (.iload_n zf_1), zB3 2 (.invokevirtual 184) [1, 58, 7, 517, 519], zA3 5 (.ifCond .ne 15), zA1 8 (.aload_n zf_0), zA1 9 (.iload_n zf_1), zB3 10 (.invokevirtual 187) [1, 59, 7, 521, 523], zA3 13 (.ifCond .ge 7)],
  [zA1 16 (.iconst 1), zA3 17 (.goto 4), zA1 20 (.iconst 0), zA1 21 .ireturn]])
/-- LostBets$Town.isWed -/
noncomputable def zm_58 : zz_Mi := (⟨"LostBets$Town", "isWed", "(I)Z"⟩, prog_10_method_32_code, 2, some .boolean, 1, false, (0, 0, 0, 0), (520, 79, 518), [
  [zA1 0 (.aload_n zf_0), zB3 1 (.getfield 33) [7, 9, 201], zA1 4 (.iload_n zf_1), zA1 5 .iaload, zA2 6 (.bipush (-9)), zA3 8 (.if_icmp .eq 7), zA1 11 (.iconst 1), zA3 12 (.goto 4), zA1 15 (.iconst 0)],
  [zA1 16 .ireturn]])
/-- LostBets$Town.wagerWith -/
noncomputable def zm_59 : zz_Mi := (⟨"LostBets$Town", "wagerWith", "(I)I"⟩, prog_10_method_31_code, 3, some .int, 1, false, (0, 0, 0, 0), (524, 79, 522), [
  [zA1 0 (.iconst 0), zA1 1 (.istore_n zf_2), zA1 2 (.iload_n zf_2), zA1 3 (.aload_n zf_0), zB3 4 (.getfield 62) [7, 14, 211], zA3 7 (.if_icmp .ge 37), zA1 10 (.aload_n zf_0), zB3 11 (.getfield 49) [7, 13, 209], zA1 14 (.iload_n zf_2), zA1 15 .aaload],
  [zB3 16 (.getfield 120) [8, 0, 158], zA1 19 (.iload_n zf_1), zA3 20 (.if_icmp .eq 16), zA1 23 (.aload_n zf_0), zB3 24 (.getfield 49) [7, 13, 209], zA1 27 (.iload_n zf_2), zA1 28 .aaload, zB3 29 (.getfield 123) [8, 1, 161]],
  [zA1 32 (.iload_n zf_1), zA3 33 (.if_icmp .ne 5), zA1 36 (.iload_n zf_2), zA1 37 .ireturn, zA3 38 (.iinc 2 1), zA3 41 (.goto (-39)), zA2 44 (.bipush (-9)), zA1 46 .ireturn]])
/-- LostBets$Town.trust -/
noncomputable def zm_60 : zz_Mi := (⟨"LostBets$Town", "trust", "(III)I"⟩, prog_10_method_24_code, 4, some .int, 3, false, (0, 0, 0, 0), (528, 79, 527), [
  [zA1 0 (.iload_n zf_3), zA1 1 (.iconst 1), zA3 2 (.if_icmp .ne 14), zA1 5 (.aload_n zf_0), zB3 6 (.getfield 38) [7, 10, 203], zA1 9 (.iload_n zf_1), zA1 10 .aaload, zA1 11 (.iload_n zf_2), zA1 12 .iaload, zA3 13 (.goto 14)],
  [zA2 16 (.bipush 9), zA1 18 (.aload_n zf_0), zB3 19 (.getfield 38) [7, 10, 203], zA1 22 (.iload_n zf_1), zA1 23 .aaload, zA1 24 (.iload_n zf_2), zA1 25 .iaload, zA1 26 .isub, zA1 27 .ireturn]])
/-- LostBets$Town.wouldTake -/
noncomputable def zm_61 : zz_Mi := (⟨"LostBets$Town", "wouldTake", "(IIII)Z"⟩, prog_10_method_25_code, 5, some .boolean, 4, false, (0, 0, 1, 23), (532, 79, 530), [
  [zA1 0 (.aload_n zf_0), zB3 1 (.getfield 27) [7, 7, 197], zA1 4 (.iload_n zf_1), zA1 5 .iaload, zA1 6 (.iload_n zf_2), zA3 7 (.if_icmp .eq 20), zA1 10 (.aload_n zf_0), zA1 11 (.iload_n zf_1), zA1 12 (.iload_n zf_3), zA2 13 (.iload 4), zB3 15 (.invokevirtual 171) [1, 60, 7, 525, 2]],
  [zA1 18 (.aload_n zf_0), zB3 19 (.getfield 18) [7, 4, 191], zA1 22 (.iload_n zf_1), zA1 23 .iaload, zA3 24 (.if_icmp .lt 7), zA1 27 (.iconst 1), zA3 28 (.goto 4), zA1 31 (.iconst 0)],
  [zA1 32 .ireturn]])
/-- LostBets$Town.propose -/
noncomputable def zm_62 : zz_Mi := (⟨"LostBets$Town", "propose", "(IIIII)V"⟩, prog_10_method_14_code, 7, none, 5, false, (0, 0, 0, 0), (536, 79, 534), [
  [zA1 0 (.aload_n zf_0), zB3 1 (.getfield 49) [7, 13, 209], zA1 4 (.aload_n zf_0), zB3 5 (.getfield 62) [7, 14, 211], zA1 8 .aaload, zA2 9 (.astore 6), zA2 11 (.aload 6), zA1 13 (.iload_n zf_1), zB3 14 (.putfield 120) [8, 0, 158, 0]],
  [zA2 17 (.aload 6), zA1 19 (.iload_n zf_2), zB3 20 (.putfield 123) [8, 1, 161, 0], zA2 23 (.aload 6), zA1 25 (.iload_n zf_3), zB3 26 (.putfield 126) [8, 2, 164, 0], zA2 29 (.aload 6), zA2 31 (.iload 4)],
  [zB3 33 (.putfield 129) [8, 3, 167, 0], zA2 36 (.aload 6), zA2 38 (.iload 5), zB3 40 (.putfield 132) [8, 4, 170, 0], zA1 43 (.aload_n zf_0), zA1 44 .dup, zB3 45 (.getfield 62) [7, 14, 211]],
  [zA1 48 (.iconst 1), zA1 49 .iadd, zB3 50 (.putfield 62) [7, 14, 211, 0], zA1 53 .return_]])
/-- LostBets$Town.refusalToGoOn -/
noncomputable def zm_63 : zz_Mi := (⟨"LostBets$Town", "refusalToGoOn", "(I)I"⟩, prog_10_method_15_code, 2, some .int, 1, false, (0, 0, 0, 0), (540, 79, 538), [
  [zA1 0 (.iload_n zf_1), zA1 1 (.iconst 1), zA3 2 (.if_icmp .ge 6), zA2 5 (.bipush (-4)), zA1 7 .ireturn, zA1 8 (.iload_n zf_1), zA2 9 (.bipush 60), zA3 11 (.if_icmp .gt 15), zA1 14 (.aload_n zf_0), zB3 15 (.getfield 65) [7, 15, 213]],
  [zA1 18 (.iload_n zf_1), zA1 19 .iadd, zA3 20 (.sipush 999), zA3 23 (.if_icmp .le 8), zA2 26 (.bipush (-6)), zA3 28 (.goto 4), zA1 31 (.iconst 0)],
  [zA1 32 .ireturn]])
/-- LostBets$Town.goOn -/
noncomputable def zm_64 : zz_Mi := (⟨"LostBets$Town", "goOn", "(I)V"⟩, prog_10_method_16_code, 3, none, 1, false, (0, 0, 4, 87), (544, 79, 542), [
  [zA1 0 (.iconst 0), zA1 1 (.istore_n zf_2), zA1 2 (.iload_n zf_2), zA1 3 (.iload_n zf_1), zA3 4 (.if_icmp .ge 27), zA1 7 (.aload_n zf_0), zA1 8 .dup, zB3 9 (.getfield 65) [7, 15, 213], zA1 12 (.iconst 1), zA1 13 .iadd, zB3 14 (.putfield 65) [7, 15, 213, 0]],
  [zA1 17 (.aload_n zf_0), zB3 18 (.invokevirtual 135) [1, 65, 7, 545, 3], zA1 21 (.aload_n zf_0), zB3 22 (.invokevirtual 138) [1, 71, 7, 572, 6], zA3 25 (.iinc 2 1), zA3 28 (.goto (-26)), zA1 31 .return_]])
/-- LostBets$Town.comeOut -/
noncomputable def zm_65 : zz_Mi := (⟨"LostBets$Town", "comeOut", "()V"⟩, prog_10_method_17_code, 4, none, 0, false, (0, 0, 3, 64), (548, 79, 547), [
  [zA1 0 (.iconst 0), zA1 1 (.istore_n zf_1), zA1 2 (.aload_n zf_0), zB3 3 (.getfield 62) [7, 14, 211], zA1 6 (.istore_n zf_2), zA1 7 (.iload_n zf_2), zA3 8 (.ifCond .le 64), zA1 11 (.aload_n zf_0), zB3 12 (.getfield 49) [7, 13, 209], zA1 15 (.iload_n zf_1)],
  [zA1 16 .aaload, zA1 17 (.astore_n zf_3), zA1 18 (.aload_n zf_3), zA1 19 .dup, zB3 20 (.getfield 132) [8, 4, 170], zA1 23 (.iconst 1), zA1 24 .isub, zB3 25 (.putfield 132) [8, 4, 170, 0], zA1 28 (.aload_n zf_3), zB3 29 (.getfield 132) [8, 4, 170]],
  [zA3 32 (.ifCond .le 9), zA3 35 (.iinc 1 1), zA3 38 (.goto 28), zA1 41 (.aload_n zf_0), zA1 42 (.iload_n zf_1), zB3 43 (.invokevirtual 141) [1, 66, 7, 549, 551], zA3 46 (.ifCond .eq 15)],
  [zA1 49 (.aload_n zf_0), zA1 50 (.aload_n zf_3), zB3 51 (.getfield 120) [8, 0, 158], zA1 54 (.aload_n zf_3), zB3 55 (.getfield 123) [8, 1, 161], zB3 58 (.invokevirtual 144) [1, 68, 7, 557, 4], zA1 61 (.aload_n zf_0), zA1 62 (.iload_n zf_1), zB3 63 (.invokevirtual 148) [1, 70, 7, 568, 570]],
  [zA3 66 (.iinc 2 (-1)), zA3 69 (.goto (-62)), zA1 72 .return_]])
/-- LostBets$Town.isLost -/
noncomputable def zm_66 : zz_Mi := (⟨"LostBets$Town", "isLost", "(I)Z"⟩, prog_10_method_28_code, 3, some .boolean, 1, false, (0, 0, 1, 22), (552, 79, 550), [
  [zA1 0 (.aload_n zf_0), zB3 1 (.getfield 49) [7, 13, 209], zA1 4 (.iload_n zf_1), zA1 5 .aaload, zA1 6 (.astore_n zf_2), zA1 7 (.aload_n zf_0), zA1 8 (.aload_n zf_2), zB3 9 (.getfield 126) [8, 2, 164], zA1 12 (.aload_n zf_0), zB3 13 (.getfield 65) [7, 15, 213]],
  [zA1 16 (.aload_n zf_2), zB3 17 (.getfield 132) [8, 4, 170], zA1 20 .iadd, zB3 21 (.invokevirtual 161) [1, 67, 7, 553, 555], zA1 24 (.aload_n zf_2), zB3 25 (.getfield 129) [8, 3, 167], zA1 28 (.iconst 1), zA3 29 (.if_icmp .ne 7)],
  [zA1 32 (.iconst 1), zA3 33 (.goto 4), zA1 36 (.iconst 0), zA3 37 (.if_icmp .eq 7), zA1 40 (.iconst 1), zA3 41 (.goto 4), zA1 44 (.iconst 0), zA1 45 .ireturn]])
/-- LostBets$Town.comesOn -/
noncomputable def zm_67 : zz_Mi := (⟨"LostBets$Town", "comesOn", "(II)Z"⟩, prog_10_method_23_code, 3, some .boolean, 2, false, (0, 0, 0, 0), (556, 79, 554), [
  [zA1 0 (.iload_n zf_2), zA1 1 (.aload_n zf_0), zB3 2 (.getfield 44) [7, 12, 207], zA1 5 (.iload_n zf_1), zA1 6 .iaload, zA1 7 .iadd, zA1 8 (.aload_n zf_0), zB3 9 (.getfield 41) [7, 11, 205], zA1 12 (.iload_n zf_1), zA1 13 .iaload, zA1 14 .irem, zA3 15 (.ifCond .ne 7)],
  [zA1 18 (.iconst 1), zA3 19 (.goto 4), zA1 22 (.iconst 0), zA1 23 .ireturn]])
/-- LostBets$Town.marry -/
noncomputable def zm_68 : zz_Mi := (⟨"LostBets$Town", "marry", "(II)V"⟩, prog_10_method_18_code, 3, none, 2, false, (0, 0, 2, 42), (560, 79, 559), [
  [zA1 0 (.aload_n zf_0), zB3 1 (.getfield 33) [7, 9, 201], zA1 4 (.iload_n zf_1), zA1 5 (.iload_n zf_2), zA1 6 .iastore, zA1 7 (.aload_n zf_0), zB3 8 (.getfield 33) [7, 9, 201], zA1 11 (.iload_n zf_2), zA1 12 (.iload_n zf_1), zA1 13 .iastore, zA1 14 (.aload_n zf_0), zB3 15 (.getfield 30) [7, 8, 199]],
  [zA1 18 (.iload_n zf_1), zA1 19 (.aload_n zf_0), zA1 20 (.iload_n zf_1), zB3 21 (.invokevirtual 152) [1, 69, 7, 561, 5], zA1 24 .iastore, zA1 25 (.aload_n zf_0), zB3 26 (.getfield 30) [7, 8, 199], zA1 29 (.iload_n zf_2), zA1 30 (.aload_n zf_0), zA1 31 (.iload_n zf_2)],
  [zB3 32 (.invokevirtual 152) [1, 69, 7, 561, 5], zA1 35 .iastore, zA1 36 .return_]])
/-- LostBets$Town.withMore -/
noncomputable def zm_69 : zz_Mi := (⟨"LostBets$Town", "withMore", "(I)I"⟩, prog_10_method_19_code, 2, some .int, 1, false, (0, 0, 1, 21), (564, 79, 563), [
  [zA2 0 (.bipush 99), zA1 2 (.aload_n zf_0), zB3 3 (.getfield 30) [7, 8, 199], zA1 6 (.iload_n zf_1), zA1 7 .iaload, zA1 8 (.aload_n zf_0), zB3 9 (.getfield 21) [7, 5, 193], zA1 12 (.iload_n zf_1), zA1 13 .iaload, zA1 14 .iadd, zB3 15 (.invokestatic 155) [11, 565, 566, 87, 567]],
  [zA1 18 .ireturn]])
/-- LostBets$Town.close -/
noncomputable def zm_70 : zz_Mi := (⟨"LostBets$Town", "close", "(I)V"⟩, prog_10_method_20_code, 4, none, 1, false, (0, 0, 0, 0), (571, 79, 569), [
  [zA1 0 (.aload_n zf_0), zB3 1 (.getfield 49) [7, 13, 209], zA1 4 (.iload_n zf_1), zA1 5 .aaload, zA1 6 (.astore_n zf_2), zA1 7 (.iload_n zf_1), zA1 8 (.iconst 1), zA1 9 .iadd, zA1 10 (.istore_n zf_3), zA1 11 (.iload_n zf_3), zA1 12 (.aload_n zf_0), zB3 13 (.getfield 62) [7, 14, 211]],
  [zA3 16 (.if_icmp .ge 23), zA1 19 (.aload_n zf_0), zB3 20 (.getfield 49) [7, 13, 209], zA1 23 (.iload_n zf_3), zA1 24 (.iconst 1), zA1 25 .isub, zA1 26 (.aload_n zf_0), zB3 27 (.getfield 49) [7, 13, 209], zA1 30 (.iload_n zf_3), zA1 31 .aaload],
  [zB1 32 .aastore [3, 8, 0], zA3 33 (.iinc 3 1), zA3 36 (.goto (-25)), zA1 39 (.aload_n zf_0), zA1 40 .dup, zB3 41 (.getfield 62) [7, 14, 211], zA1 44 (.iconst 1), zA1 45 .isub, zB3 46 (.putfield 62) [7, 14, 211, 0]],
  [zA1 49 (.aload_n zf_0), zB3 50 (.getfield 49) [7, 13, 209], zA1 53 (.aload_n zf_0), zB3 54 (.getfield 62) [7, 14, 211], zA1 57 (.aload_n zf_2), zB1 58 .aastore [3, 8, 0], zA1 59 .return_]])
/-- LostBets$Town.learn -/
noncomputable def zm_71 : zz_Mi := (⟨"LostBets$Town", "learn", "()V"⟩, prog_10_method_21_code, 4, none, 0, false, (0, 0, 2, 43), (575, 79, 574), [
  [zA1 0 (.iconst 0), zA1 1 (.istore_n zf_1), zA1 2 (.iload_n zf_1), zA1 3 (.iconst 5), zA3 4 (.if_icmp .ge 61), zA1 7 (.aload_n zf_0), zA1 8 (.iload_n zf_1), zA1 9 (.aload_n zf_0), zB3 10 (.getfield 65) [7, 15, 213], zB3 13 (.invokevirtual 161) [1, 67, 7, 553, 555]],
  [zA1 16 (.istore_n zf_2), zA1 17 (.iconst 0), zA1 18 (.istore_n zf_3), zA1 19 (.iload_n zf_3), zA1 20 (.aload_n zf_0), zB3 21 (.getfield 58) [7, 1, 184], zA3 24 (.if_icmp .ge 35), zA1 27 (.aload_n zf_0), zB3 28 (.getfield 38) [7, 10, 203], zA1 31 (.iload_n zf_3)],
  [zA1 32 .aaload, zA1 33 (.iload_n zf_1), zA1 34 (.aload_n zf_0), zB3 35 (.getfield 38) [7, 10, 203], zA1 38 (.iload_n zf_3), zA1 39 .aaload, zA1 40 (.iload_n zf_1), zA1 41 .iaload, zA1 42 (.aload_n zf_0), zB3 43 (.getfield 24) [7, 6, 195], zA1 46 (.iload_n zf_3), zA1 47 .iaload],
  [zA1 48 (.iload_n zf_2), zB3 49 (.invokestatic 164) [3, 72, 576], zA1 52 .iastore, zA3 53 (.iinc 3 1), zA3 56 (.goto (-37)), zA3 59 (.iinc 1 1), zA3 62 (.goto (-60))],
  [zA1 65 .return_]])
/-- LostBets$Town.learned -/
noncomputable def zm_72 : zz_Mi := (⟨"LostBets$Town", "learned", "(IIZ)I"⟩, prog_10_method_22_code, 3, some .int, 3, true, (0, 0, 1, 21), (578, 79, 577), [
  [zA1 0 (.iload_n zf_2), zA3 1 (.ifCond .eq 14), zA2 4 (.bipush 9), zA1 6 (.iload_n zf_0), zA1 7 (.iload_n zf_1), zA1 8 .iadd, zB3 9 (.invokestatic 155) [11, 565, 566, 87, 567], zA3 12 (.goto 10), zA1 15 (.iconst 0)],
  [zA1 16 (.iload_n zf_0), zA1 17 (.iload_n zf_1), zA1 18 .isub, zB3 19 (.invokestatic 168) [10, 579, 580, 87, 581], zA1 22 .ireturn]])
/-- LostBets$Past.forget -/
noncomputable def zm_73 : zz_Mi := (⟨"LostBets$Past", "forget", "()V"⟩, prog_7_method_4_code, 1, none, 0, false, (0, 0, 0, 0), (586, 81, 584), [
  [zA1 0 (.aload_n zf_0), zA1 1 (.iconst 0), zB3 2 (.putfield 26) [9, 2, 259, 0], zA1 5 .return_]])
/-- LostBets.personOf -/
noncomputable def zm_74 : zz_Mi := (⟨"LostBets", "personOf", "(II)I"⟩, prog_1_method_5_code, 3, some .int, 2, false, (0, 0, 1, 21), (590, 72, 588), [
  [zA1 0 (.aload_n zf_0), zB3 1 (.getfield 39) [0, 0, 298], zA1 4 (.iload_n zf_1), zB3 5 (.invokevirtual 156) [1, 49, 7, 591, 483], zA3 8 (.ifCond .ne 9), zA1 11 (.aload_n zf_0), zA1 12 (.iconst (-1)), zB3 13 (.invokevirtual 70) [1, 13, 0, 333, 0]],
  [zA1 16 .ireturn, zA1 17 (.iload_n zf_2), (18, .tableswitch 126 0 7 #[46, 56, 66, 76, 86, 96, 106, 116], 46, [], .null)],
  [],
  [],
  [zA1 64 (.aload_n zf_0), zB3 65 (.getfield 39) [0, 0, 298], zB3 68 (.getfield 159) [7, 2, 188], zA1 71 (.iload_n zf_1), zA1 72 .iaload, zA1 73 .ireturn, zA1 74 (.aload_n zf_0), zB3 75 (.getfield 39) [0, 0, 298], zB3 78 (.getfield 162) [7, 3, 190]],
  [zA1 81 (.iload_n zf_1), zA1 82 .iaload, zA1 83 .ireturn, zA1 84 (.aload_n zf_0), zB3 85 (.getfield 39) [0, 0, 298], zB3 88 (.getfield 124) [7, 7, 198], zA1 91 (.iload_n zf_1), zA1 92 .iaload, zA1 93 .ireturn, zA1 94 (.aload_n zf_0), zB3 95 (.getfield 39) [0, 0, 298]],
  [zB3 98 (.getfield 165) [7, 8, 200], zA1 101 (.iload_n zf_1), zA1 102 .iaload, zA1 103 .ireturn, zA1 104 (.aload_n zf_0), zB3 105 (.getfield 39) [0, 0, 298], zB3 108 (.getfield 168) [7, 9, 202], zA1 111 (.iload_n zf_1)],
  [zA1 112 .iaload, zA1 113 .ireturn, zA1 114 (.aload_n zf_0), zB3 115 (.getfield 39) [0, 0, 298], zB3 118 (.getfield 171) [7, 4, 192], zA1 121 (.iload_n zf_1), zA1 122 .iaload, zA1 123 .ireturn, zA1 124 (.aload_n zf_0), zB3 125 (.getfield 39) [0, 0, 298]],
  [zB3 128 (.getfield 174) [7, 5, 194], zA1 131 (.iload_n zf_1), zA1 132 .iaload, zA1 133 .ireturn, zA1 134 (.aload_n zf_0), zB3 135 (.getfield 39) [0, 0, 298], zB3 138 (.getfield 177) [7, 6, 196], zA1 141 (.iload_n zf_1), zA1 142 .iaload, zA1 143 .ireturn],
  [zA1 144 (.aload_n zf_0), zA2 145 (.bipush (-2)), zB3 147 (.invokevirtual 70) [1, 13, 0, 333, 0], zA1 150 .ireturn]])
/-- LostBets.belief -/
noncomputable def zm_75 : zz_Mi := (⟨"LostBets", "belief", "(II)I"⟩, prog_1_method_6_code, 3, some .int, 2, false, (0, 0, 2, 41), (595, 72, 593), [
  [zA1 0 (.aload_n zf_0), zB3 1 (.getfield 39) [0, 0, 298], zA1 4 (.iload_n zf_1), zB3 5 (.invokevirtual 156) [1, 49, 7, 591, 483], zA3 8 (.ifCond .eq 10), zA1 11 (.iload_n zf_2), zB3 12 (.invokestatic 180) [3, 51, 596], zA3 15 (.ifCond .ne 9)],
  [zA1 18 (.aload_n zf_0), zA1 19 (.iconst (-1)), zB3 20 (.invokevirtual 70) [1, 13, 0, 333, 0], zA1 23 .ireturn, zA1 24 (.aload_n zf_0), zB3 25 (.getfield 39) [0, 0, 298], zB3 28 (.getfield 138) [7, 10, 204], zA1 31 (.iload_n zf_1)],
  [zA1 32 .aaload, zA1 33 (.iload_n zf_2), zA1 34 .iaload, zA1 35 .ireturn]])
/-- LostBets.eventOf -/
noncomputable def zm_76 : zz_Mi := (⟨"LostBets", "eventOf", "(II)I"⟩, prog_1_method_7_code, 3, some .int, 2, false, (0, 0, 2, 41), (600, 72, 598), [
  [zA1 0 (.iload_n zf_1), zB3 1 (.invokestatic 180) [3, 51, 596], zA3 4 (.ifCond .ne 9), zA1 7 (.aload_n zf_0), zA1 8 (.iconst (-1)), zB3 9 (.invokevirtual 70) [1, 13, 0, 333, 0], zA1 12 .ireturn, zA1 13 (.iload_n zf_2), (14, .tableswitch 70 0 2 #[26, 36, 46], 26, [], .null)],
  [],
  [zA1 40 (.aload_n zf_0), zB3 41 (.getfield 39) [0, 0, 298], zB3 44 (.getfield 183) [7, 11, 206], zA1 47 (.iload_n zf_1)],
  [zA1 48 .iaload, zA1 49 .ireturn, zA1 50 (.aload_n zf_0), zB3 51 (.getfield 39) [0, 0, 298], zB3 54 (.getfield 186) [7, 12, 208], zA1 57 (.iload_n zf_1), zA1 58 .iaload, zA1 59 .ireturn, zA1 60 (.aload_n zf_0), zB3 61 (.getfield 39) [0, 0, 298]],
  [zA1 64 (.iload_n zf_1), zA1 65 (.aload_n zf_0), zB3 66 (.getfield 39) [0, 0, 298], zB3 69 (.getfield 189) [7, 15, 214], zB3 72 (.invokevirtual 192) [1, 67, 7, 601, 555], zA3 75 (.ifCond .eq 7), zA1 78 (.iconst 1), zA3 79 (.goto 4)],
  [zA1 82 (.iconst 0), zA1 83 .ireturn, zA1 84 (.aload_n zf_0), zA2 85 (.bipush (-2)), zB3 87 (.invokevirtual 70) [1, 13, 0, 333, 0], zA1 90 .ireturn]])
/-- LostBets.wagerOf -/
noncomputable def zm_77 : zz_Mi := (⟨"LostBets", "wagerOf", "(II)I"⟩, prog_1_method_8_code, 4, some .int, 2, false, (0, 0, 1, 21), (605, 72, 603), [
  [zA1 0 (.iload_n zf_1), zA3 1 (.ifCond .lt 14), zA1 4 (.iload_n zf_1), zA1 5 (.aload_n zf_0), zB3 6 (.getfield 39) [0, 0, 298], zB3 9 (.getfield 196) [7, 14, 212], zA3 12 (.if_icmp .lt 9), zA1 15 (.aload_n zf_0)],
  [zA1 16 (.iconst (-1)), zB3 17 (.invokevirtual 70) [1, 13, 0, 333, 0], zA1 20 .ireturn, zA1 21 (.aload_n zf_0), zB3 22 (.getfield 39) [0, 0, 298], zB3 25 (.getfield 199) [7, 13, 210], zA1 28 (.iload_n zf_1), zA1 29 .aaload, zA1 30 (.astore_n zf_3), zA1 31 (.iload_n zf_2)],
  [(32, .tableswitch 61 0 4 #[36, 41, 46, 51, 56], 36, [], .null)],
  [],
  [zA1 68 (.aload_n zf_3), zB3 69 (.getfield 203) [8, 0, 157], zA1 72 .ireturn, zA1 73 (.aload_n zf_3), zB3 74 (.getfield 208) [8, 1, 160], zA1 77 .ireturn, zA1 78 (.aload_n zf_3), zB3 79 (.getfield 211) [8, 2, 163]],
  [zA1 82 .ireturn, zA1 83 (.aload_n zf_3), zB3 84 (.getfield 214) [8, 3, 166], zA1 87 .ireturn, zA1 88 (.aload_n zf_3), zB3 89 (.getfield 217) [8, 4, 169], zA1 92 .ireturn, zA1 93 (.aload_n zf_0), zA2 94 (.bipush (-2))],
  [zB3 96 (.invokevirtual 70) [1, 13, 0, 333, 0], zA1 99 .ireturn]])
/-- LostBets.count -/
noncomputable def zm_78 : zz_Mi := (⟨"LostBets", "count", "(I)I"⟩, prog_1_method_9_code, 2, some .int, 1, false, (0, 0, 6, 134), (609, 72, 607), [
  [zA1 0 (.iload_n zf_1), (1, .tableswitch 109 0 7 #[47, 55, 63, 71, 79, 88, 96, 101], 47, [], .null)],
  [],
  [],
  [zA1 48 (.aload_n zf_0), zB3 49 (.getfield 39) [0, 0, 298], zB3 52 (.getfield 220) [7, 1, 186], zA1 55 .ireturn, zA1 56 (.aload_n zf_0), zB3 57 (.getfield 39) [0, 0, 298], zB3 60 (.getfield 189) [7, 15, 214], zA1 63 .ireturn],
  [zA1 64 (.aload_n zf_0), zB3 65 (.getfield 39) [0, 0, 298], zB3 68 (.getfield 196) [7, 14, 212], zA1 71 .ireturn, zA1 72 (.aload_n zf_0), zB3 73 (.getfield 39) [0, 0, 298], zB3 76 (.invokevirtual 223) [1, 79, 7, 610, 612], zA1 79 .ireturn],
  [zA1 80 (.aload_n zf_0), zB3 81 (.getfield 39) [0, 0, 298], zA1 84 (.iconst 0), zB3 85 (.invokevirtual 226) [1, 80, 7, 614, 616], zA1 88 .ireturn, zA1 89 (.aload_n zf_0), zB3 90 (.getfield 59) [0, 5, 303], zB3 93 (.getfield 82) [10, 1, 276]],
  [zA1 96 .ireturn, zA1 97 (.aload_n zf_0), zB3 98 (.getfield 229) [0, 8, 306], zA1 101 .ireturn, zA1 102 (.aload_n zf_0), zB3 103 (.getfield 52) [0, 4, 302], zB3 106 (.getfield 232) [9, 2, 260], zA1 109 .ireturn, zA1 110 (.iload_n zf_1), zA2 111 (.bipush 10)],
  [zA3 113 (.if_icmp .le 21), zA1 116 (.iload_n zf_1), zA2 117 (.bipush 16), zA3 119 (.if_icmp .gt 15), zA1 122 (.aload_n zf_0), zB3 123 (.getfield 13) [0, 9, 307], zA1 126 (.iload_n zf_1), zA2 127 (.bipush 10)],
  [zA1 129 .isub, zA1 130 .iaload, zA3 131 (.goto 5), zA2 134 (.bipush (-9)), zA1 136 .ireturn]])
/-- LostBets$Town.wedBits -/
noncomputable def zm_79 : zz_Mi := (⟨"LostBets$Town", "wedBits", "()I"⟩, prog_10_method_35_code, 3, some .int, 0, false, (0, 0, 1, 21), (613, 79, 611), [
  [zA1 0 (.iconst 0), zA1 1 (.istore_n zf_1), zA1 2 (.iconst 0), zA1 3 (.istore_n zf_2), zA1 4 (.iload_n zf_2), zA1 5 (.aload_n zf_0), zB3 6 (.getfield 58) [7, 1, 184], zA3 9 (.if_icmp .ge 23), zA1 12 (.aload_n zf_0), zA1 13 (.iload_n zf_2), zB3 14 (.invokevirtual 184) [1, 58, 7, 517, 519]],
  [zA3 17 (.ifCond .eq 9), zA1 20 (.iload_n zf_1), zA1 21 (.iconst 1), zA1 22 (.iload_n zf_2), zA1 23 .ishl, zA1 24 .ior, zA1 25 (.istore_n zf_1), zA3 26 (.iinc 2 1), zA3 29 (.goto (-25))],
  [zA1 32 (.iload_n zf_1), zA1 33 .ireturn]])
/-- LostBets$Town.allTears -/
noncomputable def zm_80 : zz_Mi := (⟨"LostBets$Town", "allTears", "(I)I"⟩, prog_10_method_41_code, 4, some .int, 1, false, (0, 0, 5, 111), (617, 79, 615), [
  [zA1 0 (.iconst 0), zA1 1 (.istore_n zf_2), zA1 2 (.iconst 0), zA1 3 (.istore_n zf_3), zA1 4 (.iload_n zf_3), zA1 5 (.aload_n zf_0), zB3 6 (.getfield 58) [7, 1, 184], zA3 9 (.if_icmp .ge 18), zA1 12 (.iload_n zf_2), zA1 13 (.aload_n zf_0), zA1 14 (.iload_n zf_3), zA1 15 (.iload_n zf_1)],
  [zB3 16 (.invokevirtual 196) [1, 81, 7, 618, 620], zA1 19 .iadd, zA1 20 (.istore_n zf_2), zA3 21 (.iinc 3 1), zA3 24 (.goto (-20)), zA1 27 (.iload_n zf_2), zA1 28 .ireturn]])
/-- LostBets$Town.tearsOf -/
noncomputable def zm_81 : zz_Mi := (⟨"LostBets$Town", "tearsOf", "(II)I"⟩, prog_10_method_39_code, 3, some .int, 2, false, (0, 0, 4, 89), (621, 79, 619), [
  [zA1 0 (.aload_n zf_0), zA1 1 (.iload_n zf_1), zB3 2 (.invokevirtual 184) [1, 58, 7, 517, 519], zA3 5 (.ifCond .ne 20), zA1 8 (.aload_n zf_0), zA1 9 (.iload_n zf_1), zA1 10 (.iload_n zf_2), zB3 11 (.invokevirtual 193) [1, 82, 7, 622, 7], zA3 14 (.ifCond .eq 11)],
  [zA1 17 (.aload_n zf_0), zA1 18 (.iload_n zf_1), zB3 19 (.invokevirtual 152) [1, 69, 7, 561, 5], zA3 22 (.goto 9), zA1 25 (.aload_n zf_0), zB3 26 (.getfield 30) [7, 8, 199], zA1 29 (.iload_n zf_1), zA1 30 .iaload, zA1 31 .ireturn]])
/-- LostBets$Town.isWedIn -/
noncomputable def zm_82 : zz_Mi := (⟨"LostBets$Town", "isWedIn", "(II)Z"⟩, prog_10_method_37_code, 4, some .boolean, 2, false, (0, 0, 3, 66), (625, 79, 624), [
  [zA1 0 (.aload_n zf_0), zA1 1 (.iload_n zf_1), zB3 2 (.invokevirtual 190) [1, 83, 7, 626, 628], zA1 5 (.istore_n zf_3), zA1 6 (.iload_n zf_3), zA3 7 (.ifCond .lt 12), zA1 10 (.iload_n zf_3), zA1 11 (.iload_n zf_2), zA3 12 (.if_icmp .gt 7), zA1 15 (.iconst 1)],
  [zA3 16 (.goto 4), zA1 19 (.iconst 0), zA1 20 .ireturn]])
/-- LostBets$Town.daysToWedding -/
noncomputable def zm_83 : zz_Mi := (⟨"LostBets$Town", "daysToWedding", "(I)I"⟩, prog_10_method_36_code, 3, some .int, 1, false, (0, 0, 2, 44), (629, 79, 627), [
  [zA1 0 (.aload_n zf_0), zA1 1 (.iload_n zf_1), zB3 2 (.invokevirtual 184) [1, 58, 7, 517, 519], zA3 5 (.ifCond .eq 5), zA1 8 (.iconst 0), zA1 9 .ireturn, zA1 10 (.aload_n zf_0), zA1 11 (.iload_n zf_1), zB3 12 (.invokevirtual 187) [1, 59, 7, 521, 523], zA1 15 (.istore_n zf_2)],
  [zA1 16 (.iload_n zf_2), zA3 17 (.ifCond .lt 23), zA1 20 (.aload_n zf_0), zA1 21 (.iload_n zf_2), zB3 22 (.invokevirtual 141) [1, 66, 7, 549, 551], zA3 25 (.ifCond .eq 15), zA1 28 (.aload_n zf_0), zB3 29 (.getfield 49) [7, 13, 209]],
  [zA1 32 (.iload_n zf_2), zA1 33 .aaload, zB3 34 (.getfield 132) [8, 4, 170], zA3 37 (.goto 5), zA2 40 (.bipush (-9)), zA1 42 .ireturn]])
/-- LostBets.person -/
noncomputable def zm_84 : zz_Mi := (⟨"LostBets", "person", "(II)I"⟩, prog_1_method_10_code, 4, some .int, 2, false, (0, 0, 5, 108), (633, 72, 631), [
  [zA1 0 (.aload_n zf_0), zB3 1 (.getfield 39) [0, 0, 298], zA1 4 (.iload_n zf_1), zA1 5 (.iload_n zf_2), zB3 6 (.invokevirtual 113) [1, 27, 7, 391, 393], zA1 9 (.istore_n zf_3), zA1 10 (.iload_n zf_3), zA3 11 (.ifCond .eq 9), zA1 14 (.aload_n zf_0), zA1 15 (.iload_n zf_3)],
  [zB3 16 (.invokevirtual 70) [1, 13, 0, 333, 0], zA1 19 .ireturn, zA1 20 (.aload_n zf_0), zB3 21 (.getfield 39) [0, 0, 298], zA1 24 (.iload_n zf_1), zA1 25 (.iload_n zf_2), zB3 26 (.invokevirtual 117) [1, 28, 7, 396, 398], zA1 29 (.aload_n zf_0), zB3 30 (.getfield 52) [0, 4, 302]],
  [zB3 33 (.invokevirtual 107) [1, 73, 9, 583, 585], zA1 36 (.aload_n zf_0), zB3 37 (.getfield 39) [0, 0, 298], zB3 40 (.getfield 220) [7, 1, 186], zA1 43 (.iconst 1), zA1 44 .isub, zA1 45 .ireturn]])
/-- LostBets.wishes -/
noncomputable def zm_85 : zz_Mi := (⟨"LostBets", "wishes", "(II)I"⟩, prog_1_method_11_code, 5, some .int, 2, false, (0, 0, 2, 43), (637, 72, 635), [
  [zA1 0 (.aload_n zf_0), zB3 1 (.getfield 39) [0, 0, 298], zA1 4 (.iload_n zf_1), zA1 5 (.iload_n zf_2), zB3 6 (.invokevirtual 121) [1, 48, 7, 477, 479], zA1 9 (.istore_n zf_3), zA1 10 (.iload_n zf_3), zA3 11 (.ifCond .eq 9), zA1 14 (.aload_n zf_0), zA1 15 (.iload_n zf_3)],
  [zB3 16 (.invokevirtual 70) [1, 13, 0, 333, 0], zA1 19 .ireturn, zA1 20 (.aload_n zf_0), zB3 21 (.getfield 39) [0, 0, 298], zB3 24 (.getfield 124) [7, 7, 198], zA1 27 (.iload_n zf_1), zA1 28 .iaload, zA2 29 (.istore 4), zA1 31 (.aload_n zf_0)],
  [zB3 32 (.getfield 39) [0, 0, 298], zB3 35 (.getfield 124) [7, 7, 198], zA1 38 (.iload_n zf_1), zA1 39 (.iload_n zf_2), zA1 40 .iastore, zA1 41 (.aload_n zf_0), zB3 42 (.getfield 52) [0, 4, 302], zB3 45 (.invokevirtual 107) [1, 73, 9, 583, 585]],
  [zA2 48 (.iload 4), zA1 50 .ireturn]])
/-- LostBets.believes -/
noncomputable def zm_86 : zz_Mi := (⟨"LostBets", "believes", "(III)I"⟩, prog_1_method_12_code, 6, some .int, 3, false, (0, 0, 4, 90), (641, 72, 639), [
  [zA1 0 (.aload_n zf_0), zB3 1 (.getfield 39) [0, 0, 298], zA1 4 (.iload_n zf_1), zA1 5 (.iload_n zf_2), zA1 6 (.iload_n zf_3), zB3 7 (.invokevirtual 135) [1, 53, 7, 497, 499], zA2 10 (.istore 4), zA2 12 (.iload 4), zA3 14 (.ifCond .eq 10)],
  [zA1 17 (.aload_n zf_0), zA2 18 (.iload 4), zB3 20 (.invokevirtual 70) [1, 13, 0, 333, 0], zA1 23 .ireturn, zA1 24 (.aload_n zf_0), zB3 25 (.getfield 52) [0, 4, 302], zA1 28 (.aload_n zf_0), zB3 29 (.getfield 39) [0, 0, 298]],
  [zB3 32 (.invokevirtual 233) [1, 87, 9, 642, 644], zA1 35 (.aload_n zf_0), zB3 36 (.getfield 39) [0, 0, 298], zB3 39 (.getfield 138) [7, 10, 204], zA1 42 (.iload_n zf_1), zA1 43 .aaload, zA1 44 (.iload_n zf_2), zA1 45 .iaload, zA2 46 (.istore 5)],
  [zA1 48 (.aload_n zf_0), zB3 49 (.getfield 39) [0, 0, 298], zB3 52 (.getfield 138) [7, 10, 204], zA1 55 (.iload_n zf_1), zA1 56 .aaload, zA1 57 (.iload_n zf_2), zA1 58 (.iload_n zf_3), zA1 59 .iastore, zA2 60 (.iload 5), zA1 62 .ireturn]])
/-- LostBets$Past.keep -/
noncomputable def zm_87 : zz_Mi := (⟨"LostBets$Past", "keep", "(LLostBets$Town;)V"⟩, prog_7_method_2_code, 2, none, 1, false, (0, 0, 3, 69), (645, 81, 643), [
  [zA1 0 (.aload_n zf_0), zA1 1 (.aload_n zf_0), zB3 2 (.getfield 18) [9, 1, 258], zA1 5 (.iconst 1), zA1 6 .iadd, zA2 7 (.bipush 8), zA1 9 .irem, zB3 10 (.putfield 18) [9, 1, 258, 0], zA1 13 (.aload_n zf_0), zB3 14 (.getfield 11) [9, 0, 257]],
  [zA1 17 (.aload_n zf_0), zB3 18 (.getfield 18) [9, 1, 258], zA1 21 .aaload, zA1 22 (.aload_n zf_1), zB3 23 (.invokevirtual 22) [1, 23, 7, 646, 373], zA1 26 (.aload_n zf_0), zA2 27 (.bipush 8), zA1 29 (.aload_n zf_0), zB3 30 (.getfield 26) [9, 2, 259]],
  [zA1 33 (.iconst 1), zA1 34 .iadd, zB3 35 (.invokestatic 29) [11, 647, 566, 87, 567], zB3 38 (.putfield 26) [9, 2, 259, 0], zA1 41 .return_]])
/-- LostBets.fixes -/
noncomputable def zm_88 : zz_Mi := (⟨"LostBets", "fixes", "(III)I"⟩, prog_1_method_13_code, 6, some .int, 3, false, (0, 0, 4, 90), (651, 72, 649), [
  [zA1 0 (.aload_n zf_0), zB3 1 (.getfield 39) [0, 0, 298], zA1 4 (.iload_n zf_1), zA1 5 (.iload_n zf_2), zA1 6 (.iload_n zf_3), zB3 7 (.invokevirtual 127) [1, 50, 7, 485, 487], zA2 10 (.istore 4), zA2 12 (.iload 4), zA3 14 (.ifCond .eq 10)],
  [zA1 17 (.aload_n zf_0), zA2 18 (.iload 4), zB3 20 (.invokevirtual 70) [1, 13, 0, 333, 0], zA1 23 .ireturn, zA1 24 (.aload_n zf_0), zB3 25 (.getfield 52) [0, 4, 302], zA1 28 (.aload_n zf_0), zB3 29 (.getfield 39) [0, 0, 298]],
  [zB3 32 (.invokevirtual 233) [1, 87, 9, 642, 644], zA2 35 (.bipush 10), zA1 37 (.aload_n zf_0), zB3 38 (.getfield 39) [0, 0, 298], zB3 41 (.getfield 183) [7, 11, 206], zA1 44 (.iload_n zf_1), zA1 45 .iaload, zA1 46 .imul, zA1 47 (.aload_n zf_0)],
  [zB3 48 (.getfield 39) [0, 0, 298], zB3 51 (.getfield 186) [7, 12, 208], zA1 54 (.iload_n zf_1), zA1 55 .iaload, zA1 56 .iadd, zA2 57 (.istore 5), zA1 59 (.aload_n zf_0), zB3 60 (.getfield 39) [0, 0, 298], zA1 63 (.iload_n zf_1)],
  [zA1 64 (.iload_n zf_2), zA1 65 (.iload_n zf_3), zB3 66 (.invokevirtual 131) [1, 52, 7, 493, 495], zA2 69 (.iload 5), zA1 71 .ireturn]])
/-- LostBets.proposes -/
noncomputable def zm_89 : zz_Mi := (⟨"LostBets", "proposes", "(IIIII)I"⟩, prog_1_method_14_code, 7, some .int, 5, false, (0, 0, 4, 96), (655, 72, 653), [
  [zA1 0 (.aload_n zf_0), zB3 1 (.getfield 39) [0, 0, 298], zA1 4 (.iload_n zf_1), zA1 5 (.iload_n zf_2), zA1 6 (.iload_n zf_3), zA2 7 (.iload 4), zA2 9 (.iload 5), zB3 11 (.invokevirtual 142) [1, 54, 7, 501, 503], zA2 14 (.istore 6)],
  [zA2 16 (.iload 6), zA3 18 (.ifCond .eq 10), zA1 21 (.aload_n zf_0), zA2 22 (.iload 6), zB3 24 (.invokevirtual 70) [1, 13, 0, 333, 0], zA1 27 .ireturn, zA1 28 (.aload_n zf_0), zB3 29 (.getfield 52) [0, 4, 302]],
  [zA1 32 (.aload_n zf_0), zB3 33 (.getfield 39) [0, 0, 298], zB3 36 (.invokevirtual 233) [1, 87, 9, 642, 644], zA1 39 (.aload_n zf_0), zB3 40 (.getfield 39) [0, 0, 298], zA1 43 (.iload_n zf_1), zA1 44 (.iload_n zf_2), zA1 45 (.iload_n zf_3), zA2 46 (.iload 4)],
  [zA2 48 (.iload 5), zB3 50 (.invokevirtual 146) [1, 62, 7, 533, 535], zA1 53 (.aload_n zf_0), zB3 54 (.getfield 39) [0, 0, 298], zB3 57 (.getfield 196) [7, 14, 212], zA1 60 .ireturn]])
/-- LostBets.days -/
noncomputable def zm_90 : zz_Mi := (⟨"LostBets", "days", "(I)I"⟩, prog_1_method_15_code, 3, some .int, 1, false, (0, 0, 5, 112), (659, 72, 657), [
  [zA1 0 (.aload_n zf_0), zB3 1 (.getfield 39) [0, 0, 298], zA1 4 (.iload_n zf_1), zB3 5 (.invokevirtual 150) [1, 63, 7, 537, 539], zA1 8 (.istore_n zf_2), zA1 9 (.iload_n zf_2), zA3 10 (.ifCond .eq 9), zA1 13 (.aload_n zf_0), zA1 14 (.iload_n zf_2), zB3 15 (.invokevirtual 70) [1, 13, 0, 333, 0]],
  [zA1 18 .ireturn, zA1 19 (.aload_n zf_0), zB3 20 (.getfield 52) [0, 4, 302], zA1 23 (.aload_n zf_0), zB3 24 (.getfield 39) [0, 0, 298], zB3 27 (.invokevirtual 233) [1, 87, 9, 642, 644], zA1 30 (.aload_n zf_0), zB3 31 (.getfield 39) [0, 0, 298]],
  [zA1 34 (.iload_n zf_1), zB3 35 (.invokevirtual 153) [1, 64, 7, 541, 543], zA1 38 (.aload_n zf_0), zB3 39 (.getfield 39) [0, 0, 298], zA1 42 (.iconst 0), zB3 43 (.invokevirtual 236) [1, 91, 7, 660, 662], zA1 46 .ireturn]])
/-- LostBets$Town.howManyWed -/
noncomputable def zm_91 : zz_Mi := (⟨"LostBets$Town", "howManyWed", "(I)I"⟩, prog_10_method_40_code, 4, some .int, 1, false, (0, 0, 4, 89), (663, 79, 661), [
  [zA1 0 (.iconst 0), zA1 1 (.istore_n zf_2), zA1 2 (.iconst 0), zA1 3 (.istore_n zf_3), zA1 4 (.iload_n zf_3), zA1 5 (.aload_n zf_0), zB3 6 (.getfield 58) [7, 1, 184], zA3 9 (.if_icmp .ge 21), zA1 12 (.aload_n zf_0), zA1 13 (.iload_n zf_3), zA1 14 (.iload_n zf_1), zB3 15 (.invokevirtual 193) [1, 82, 7, 622, 7]],
  [zA3 18 (.ifCond .eq 6), zA3 21 (.iinc 2 1), zA3 24 (.iinc 3 1), zA3 27 (.goto (-23)), zA1 30 (.iload_n zf_2), zA1 31 .ireturn]])
/-- LostBets.back -/
noncomputable def zm_92 : zz_Mi := (⟨"LostBets", "back", "()I"⟩, prog_1_method_16_code, 1, some .int, 0, false, (0, 0, 4, 90), (667, 72, 665), [
  [zA1 0 (.aload_n zf_0), zB3 1 (.getfield 52) [0, 4, 302], zB3 4 (.getfield 232) [9, 2, 260], zA3 7 (.ifCond .ne 10), zA1 10 (.aload_n zf_0), zA2 11 (.bipush (-3)), zB3 13 (.invokevirtual 70) [1, 13, 0, 333, 0]],
  [zA1 16 .ireturn, zA1 17 (.aload_n zf_0), zB3 18 (.getfield 52) [0, 4, 302], zA1 21 (.aload_n zf_0), zB3 22 (.getfield 39) [0, 0, 298], zB3 25 (.invokevirtual 239) [1, 93, 9, 668, 670], zA1 28 (.aload_n zf_0), zB3 29 (.getfield 52) [0, 4, 302]],
  [zB3 32 (.getfield 232) [9, 2, 260], zA1 35 .ireturn]])
/-- LostBets$Past.putBack -/
noncomputable def zm_93 : zz_Mi := (⟨"LostBets$Past", "putBack", "(LLostBets$Town;)V"⟩, prog_7_method_3_code, 2, none, 1, false, (0, 0, 3, 69), (671, 81, 669), [
  [zA1 0 (.aload_n zf_1), zA1 1 (.aload_n zf_0), zB3 2 (.getfield 11) [9, 0, 257], zA1 5 (.aload_n zf_0), zB3 6 (.getfield 18) [9, 1, 258], zA1 9 .aaload, zB3 10 (.invokevirtual 22) [1, 23, 7, 646, 373], zA1 13 (.aload_n zf_0), zA1 14 (.aload_n zf_0), zB3 15 (.getfield 18) [9, 1, 258]],
  [zA2 18 (.bipush 8), zA1 20 .iadd, zA1 21 (.iconst 1), zA1 22 .isub, zA2 23 (.bipush 8), zA1 25 .irem, zB3 26 (.putfield 18) [9, 1, 258, 0], zA1 29 (.aload_n zf_0), zA1 30 .dup, zB3 31 (.getfield 26) [9, 2, 259]],
  [zA1 34 (.iconst 1), zA1 35 .isub, zB3 36 (.putfield 26) [9, 2, 259, 0], zA1 39 .return_]])
/-- LostBets.image -/
noncomputable def zm_94 : zz_Mi := (⟨"LostBets", "image", "()I"⟩, prog_1_method_17_code, 1, some .int, 0, false, (0, 0, 3, 69), (675, 72, 673), [
  [zA1 0 (.aload_n zf_0), zB3 1 (.getfield 46) [0, 2, 300], zA1 4 (.aload_n zf_0), zB3 5 (.getfield 39) [0, 0, 298], zB3 8 (.invokevirtual 93) [1, 23, 7, 371, 373], zA1 11 (.aload_n zf_0), zA1 12 (.iconst 1), zB3 13 (.putfield 242) [0, 3, 301, 1]],
  [zA1 16 (.aload_n zf_0), zB3 17 (.getfield 39) [0, 0, 298], zB3 20 (.getfield 189) [7, 15, 214], zA1 23 .ireturn]])
/-- LostBets.restore -/
noncomputable def zm_95 : zz_Mi := (⟨"LostBets", "restore", "()I"⟩, prog_1_method_18_code, 1, some .int, 0, false, (0, 0, 3, 69), (679, 72, 677), [
  [zA1 0 (.aload_n zf_0), zB3 1 (.getfield 242) [0, 3, 301], zA3 4 (.ifCond .ne 10), zA1 7 (.aload_n zf_0), zA2 8 (.bipush (-3)), zB3 10 (.invokevirtual 70) [1, 13, 0, 333, 0], zA1 13 .ireturn, zA1 14 (.aload_n zf_0), zB3 15 (.getfield 39) [0, 0, 298]],
  [zA1 18 (.aload_n zf_0), zB3 19 (.getfield 46) [0, 2, 300], zB3 22 (.invokevirtual 93) [1, 23, 7, 371, 373], zA1 25 (.aload_n zf_0), zB3 26 (.getfield 52) [0, 4, 302], zB3 29 (.invokevirtual 107) [1, 73, 9, 583, 585]],
  [zA1 32 (.aload_n zf_0), zB3 33 (.getfield 39) [0, 0, 298], zB3 36 (.getfield 189) [7, 15, 214], zA1 39 .ireturn]])
/-- LostBets.personIn -/
noncomputable def zm_96 : zz_Mi := (⟨"LostBets", "personIn", "(III)I"⟩, prog_1_method_19_code, 4, some .int, 3, false, (0, 0, 5, 112), (683, 72, 681), [
  [zA1 0 (.aload_n zf_0), zB3 1 (.getfield 39) [0, 0, 298], zA1 4 (.iload_n zf_1), zB3 5 (.invokevirtual 156) [1, 49, 7, 591, 483], zA3 8 (.ifCond .ne 9), zA1 11 (.aload_n zf_0), zA1 12 (.iconst (-1)), zB3 13 (.invokevirtual 70) [1, 13, 0, 333, 0]],
  [zA1 16 .ireturn, zA1 17 (.iload_n zf_2), zA3 18 (.ifCond .ge 10), zA1 21 (.aload_n zf_0), zA2 22 (.bipush (-4)), zB3 24 (.invokevirtual 70) [1, 13, 0, 333, 0], zA1 27 .ireturn, zA1 28 (.iload_n zf_2), zA2 29 (.bipush 60), zA3 31 (.if_icmp .le 10)],
  [zA1 34 (.aload_n zf_0), zA2 35 (.bipush (-6)), zB3 37 (.invokevirtual 70) [1, 13, 0, 333, 0], zA1 40 .ireturn, zA1 41 (.iload_n zf_3), zA1 42 (.iconst 2), zB3 43 (.invokestatic 246) [3, 21, 492], zA3 46 (.ifCond .ne 10)],
  [zA1 49 (.aload_n zf_0), zA2 50 (.bipush (-2)), zB3 52 (.invokevirtual 70) [1, 13, 0, 333, 0], zA1 55 .ireturn, zA1 56 (.iload_n zf_3), zA3 57 (.ifCond .ne 15), zA1 60 (.aload_n zf_0), zB3 61 (.getfield 39) [0, 0, 298]],
  [zA1 64 (.iload_n zf_1), zA1 65 (.iload_n zf_2), zB3 66 (.invokevirtual 249) [1, 97, 7, 684, 686], zA3 69 (.goto 12), zA1 72 (.aload_n zf_0), zB3 73 (.getfield 39) [0, 0, 298], zA1 76 (.iload_n zf_1), zA1 77 (.iload_n zf_2), zB3 78 (.invokevirtual 252) [1, 81, 7, 688, 620]],
  [zA1 81 .ireturn]])
/-- LostBets$Town.wedTo -/
noncomputable def zm_97 : zz_Mi := (⟨"LostBets$Town", "wedTo", "(II)I"⟩, prog_10_method_38_code, 4, some .int, 2, false, (0, 0, 4, 89), (687, 79, 685), [
  [zA1 0 (.aload_n zf_0), zA1 1 (.iload_n zf_1), zB3 2 (.invokevirtual 187) [1, 59, 7, 521, 523], zA1 5 (.istore_n zf_3), zA1 6 (.iload_n zf_3), zA3 7 (.ifCond .lt 12), zA1 10 (.aload_n zf_0), zA1 11 (.iload_n zf_1), zA1 12 (.iload_n zf_2), zB3 13 (.invokevirtual 193) [1, 82, 7, 622, 7]],
  [zA3 16 (.ifCond .ne 10), zA1 19 (.aload_n zf_0), zB3 20 (.getfield 33) [7, 9, 201], zA1 23 (.iload_n zf_1), zA1 24 .iaload, zA1 25 .ireturn, zA1 26 (.aload_n zf_0), zB3 27 (.getfield 49) [7, 13, 209], zA1 30 (.iload_n zf_3), zA1 31 .aaload],
  [zB3 32 (.getfield 120) [8, 0, 158], zA1 35 (.iload_n zf_1), zA3 36 (.if_icmp .ne 15), zA1 39 (.aload_n zf_0), zB3 40 (.getfield 49) [7, 13, 209], zA1 43 (.iload_n zf_3), zA1 44 .aaload, zB3 45 (.getfield 123) [8, 1, 161]],
  [zA3 48 (.goto 12), zA1 51 (.aload_n zf_0), zB3 52 (.getfield 49) [7, 13, 209], zA1 55 (.iload_n zf_3), zA1 56 .aaload, zB3 57 (.getfield 120) [8, 0, 158], zA1 60 .ireturn]])
/-- LostBets.beliefIn -/
noncomputable def zm_98 : zz_Mi := (⟨"LostBets", "beliefIn", "(III)I"⟩, prog_1_method_20_code, 5, some .int, 3, false, (0, 0, 3, 68), (692, 72, 690), [
  [zA1 0 (.aload_n zf_0), zA1 1 (.iload_n zf_1), zA1 2 (.iload_n zf_2), zA1 3 (.iload_n zf_3), zB3 4 (.invokevirtual 255) [1, 99, 0, 693, 8], zA2 7 (.istore 4), zA2 9 (.iload 4), zA3 11 (.ifCond .ne 16), zA1 14 (.aload_n zf_0), zB3 15 (.getfield 39) [0, 0, 298]],
  [zA1 18 (.iload_n zf_1), zA1 19 (.iload_n zf_2), zA1 20 (.iload_n zf_3), zB3 21 (.invokevirtual 258) [1, 100, 7, 697, 699], zA3 24 (.goto 9), zA1 27 (.aload_n zf_0), zA2 28 (.iload 4), zB3 30 (.invokevirtual 70) [1, 13, 0, 333, 0]],
  [zA1 33 .ireturn]])
/-- LostBets.refusalOfBeliefIn -/
noncomputable def zm_99 : zz_Mi := (⟨"LostBets", "refusalOfBeliefIn", "(III)I"⟩, prog_1_method_22_code, 4, some .int, 3, false, (0, 0, 2, 41), (696, 72, 695), [
  [zA1 0 (.aload_n zf_0), zB3 1 (.getfield 39) [0, 0, 298], zA1 4 (.iload_n zf_1), zB3 5 (.invokevirtual 156) [1, 49, 7, 591, 483], zA3 8 (.ifCond .eq 10), zA1 11 (.iload_n zf_2), zB3 12 (.invokestatic 180) [3, 51, 596], zA3 15 (.ifCond .ne 5)],
  [zA1 18 (.iconst (-1)), zA1 19 .ireturn, zA1 20 (.iload_n zf_3), zA3 21 (.ifCond .ge 6), zA2 24 (.bipush (-4)), zA1 26 .ireturn, zA1 27 (.iload_n zf_3), zA2 28 (.bipush 60), zA3 30 (.if_icmp .le 8)],
  [zA2 33 (.bipush (-6)), zA3 35 (.goto 4), zA1 38 (.iconst 0), zA1 39 .ireturn]])
/-- LostBets$Town.beliefOf -/
noncomputable def zm_100 : zz_Mi := (⟨"LostBets$Town", "beliefOf", "(III)I"⟩, prog_10_method_42_code, 6, some .int, 3, false, (0, 0, 2, 43), (700, 79, 698), [
  [zA1 0 (.aload_n zf_0), zB3 1 (.getfield 38) [7, 10, 203], zA1 4 (.iload_n zf_1), zA1 5 .aaload, zA1 6 (.iload_n zf_2), zA1 7 .iaload, zA2 8 (.istore 4), zA1 10 (.iconst 1), zA2 11 (.istore 5), zA2 13 (.iload 5), zA1 15 (.iload_n zf_3)],
  [zA3 16 (.if_icmp .gt 34), zA2 19 (.iload 4), zA1 21 (.aload_n zf_0), zB3 22 (.getfield 24) [7, 6, 195], zA1 25 (.iload_n zf_1), zA1 26 .iaload, zA1 27 (.aload_n zf_0), zA1 28 (.iload_n zf_2), zA1 29 (.aload_n zf_0), zB3 30 (.getfield 65) [7, 15, 213]],
  [zA2 33 (.iload 5), zA1 35 .iadd, zB3 36 (.invokevirtual 161) [1, 67, 7, 553, 555], zB3 39 (.invokestatic 164) [3, 72, 576], zA2 42 (.istore 4), zA3 44 (.iinc 5 1), zA3 47 (.goto (-34))],
  [zA2 50 (.iload 4), zA1 52 .ireturn]])
/-- LostBets.hope -/
noncomputable def zm_101 : zz_Mi := (⟨"LostBets", "hope", "(III)I"⟩, prog_1_method_21_code, 5, some .int, 3, false, (0, 0, 3, 68), (704, 72, 702), [
  [zA1 0 (.aload_n zf_0), zA1 1 (.iload_n zf_1), zA1 2 (.iload_n zf_2), zA1 3 (.iload_n zf_3), zB3 4 (.invokevirtual 255) [1, 99, 0, 693, 8], zA2 7 (.istore 4), zA2 9 (.iload 4), zA3 11 (.ifCond .eq 14), (14, .ldc_w 261, 3, [705], .int 1000000000)],
  [zA1 17 (.aload_n zf_0), zA2 18 (.iload 4), zB3 20 (.invokevirtual 70) [1, 13, 0, 333, 0], zA1 23 .isub, zA1 24 .ireturn, zA1 25 (.aload_n zf_0), zB3 26 (.getfield 39) [0, 0, 298], zA1 29 (.iload_n zf_1), zA1 30 (.iload_n zf_2), zA1 31 (.iload_n zf_3)],
  [zB3 32 (.invokevirtual 258) [1, 100, 7, 697, 699], zA1 35 (.aload_n zf_0), zB3 36 (.getfield 39) [0, 0, 298], zB3 39 (.getfield 138) [7, 10, 204], zA1 42 (.iload_n zf_1), zA1 43 .aaload, zA1 44 (.iload_n zf_2), zA1 45 .iaload, zA1 46 .isub, zA1 47 .ireturn]])
/-- LostBets.wedIn -/
noncomputable def zm_102 : zz_Mi := (⟨"LostBets", "wedIn", "(I)I"⟩, prog_1_method_23_code, 2, some .int, 1, false, (0, 0, 5, 112), (709, 72, 707), [
  [zA1 0 (.iload_n zf_1), zA3 1 (.ifCond .ge 10), zA1 4 (.aload_n zf_0), zA2 5 (.bipush (-4)), zB3 7 (.invokevirtual 70) [1, 13, 0, 333, 0], zA1 10 .ireturn, zA1 11 (.iload_n zf_1), zA2 12 (.bipush 60), zA3 14 (.if_icmp .le 10)],
  [zA1 17 (.aload_n zf_0), zA2 18 (.bipush (-6)), zB3 20 (.invokevirtual 70) [1, 13, 0, 333, 0], zA1 23 .ireturn, zA1 24 (.aload_n zf_0), zB3 25 (.getfield 39) [0, 0, 298], zA1 28 (.iload_n zf_1), zB3 29 (.invokevirtual 236) [1, 91, 7, 660, 662]],
  [zA1 32 .ireturn]])
/-- LostBets.wedWhen -/
noncomputable def zm_103 : zz_Mi := (⟨"LostBets", "wedWhen", "(I)I"⟩, prog_1_method_24_code, 2, some .int, 1, false, (0, 0, 4, 90), (713, 72, 711), [
  [zA1 0 (.iload_n zf_1), zA1 1 (.iconst (-1)), zA3 2 (.if_icmp .ne 8), zA1 5 (.aload_n zf_0), zB3 6 (.invokevirtual 262) [1, 104, 0, 714, 9], zA1 9 .ireturn, zA1 10 (.aload_n zf_0), zB3 11 (.getfield 39) [0, 0, 298], zA1 14 (.iload_n zf_1), zB3 15 (.invokevirtual 156) [1, 49, 7, 591, 483]],
  [zA3 18 (.ifCond .ne 9), zA1 21 (.aload_n zf_0), zA1 22 (.iconst (-1)), zB3 23 (.invokevirtual 70) [1, 13, 0, 333, 0], zA1 26 .ireturn, zA1 27 (.aload_n zf_0), zB3 28 (.getfield 39) [0, 0, 298], zA1 31 (.iload_n zf_1)],
  [zB3 32 (.invokevirtual 265) [1, 83, 7, 718, 628], zA1 35 .ireturn]])
/-- LostBets.firstToWed -/
noncomputable def zm_104 : zz_Mi := (⟨"LostBets", "firstToWed", "()I"⟩, prog_1_method_25_code, 5, some .int, 0, false, (0, 0, 3, 66), (717, 72, 716), [
  [zA2 0 (.bipush (-9)), zA1 2 (.istore_n zf_1), zA2 3 (.bipush 61), zA1 5 (.istore_n zf_2), zA1 6 (.iconst 0), zA1 7 (.istore_n zf_3), zA1 8 (.iload_n zf_3), zA1 9 (.aload_n zf_0), zB3 10 (.getfield 39) [0, 0, 298], zB3 13 (.getfield 220) [7, 1, 186]],
  [zA3 16 (.if_icmp .ge 35), zA1 19 (.aload_n zf_0), zB3 20 (.getfield 39) [0, 0, 298], zA1 23 (.iload_n zf_3), zB3 24 (.invokevirtual 265) [1, 83, 7, 718, 628], zA2 27 (.istore 4), zA2 29 (.iload 4), zA3 31 (.ifCond .le 14)],
  [zA2 34 (.iload 4), zA1 36 (.iload_n zf_2), zA3 37 (.if_icmp .ge 8), zA2 40 (.iload 4), zA1 42 (.istore_n zf_2), zA1 43 (.iload_n zf_3), zA1 44 (.istore_n zf_1), zA3 45 (.iinc 3 1)],
  [zA3 48 (.goto (-40)), zA1 51 (.iload_n zf_1), zA1 52 .ireturn]])
/-- LostBets.happens -/
noncomputable def zm_105 : zz_Mi := (⟨"LostBets", "happens", "(II)I"⟩, prog_1_method_26_code, 5, some .int, 2, false, (0, 0, 2, 41), (722, 72, 720), [
  [zA1 0 (.iload_n zf_1), zB3 1 (.invokestatic 180) [3, 51, 596], zA3 4 (.ifCond .ne 9), zA1 7 (.aload_n zf_0), zA1 8 (.iconst (-1)), zB3 9 (.invokevirtual 70) [1, 13, 0, 333, 0], zA1 12 .ireturn, zA1 13 (.iload_n zf_2), zA3 14 (.ifCond .ge 10)],
  [zA1 17 (.aload_n zf_0), zA2 18 (.bipush (-4)), zB3 20 (.invokevirtual 70) [1, 13, 0, 333, 0], zA1 23 .ireturn, zA1 24 (.iload_n zf_2), zA2 25 (.bipush 60), zA3 27 (.if_icmp .le 10), zA1 30 (.aload_n zf_0), zA2 31 (.bipush (-6))],
  [zB3 33 (.invokevirtual 70) [1, 13, 0, 333, 0], zA1 36 .ireturn, zA1 37 (.iconst 0), zA1 38 (.istore_n zf_3), zA1 39 (.iconst 1), zA2 40 (.istore 4), zA2 42 (.iload 4), zA1 44 (.iload_n zf_2), zA3 45 (.if_icmp .gt 33)],
  [zA1 48 (.aload_n zf_0), zB3 49 (.getfield 39) [0, 0, 298], zA1 52 (.iload_n zf_1), zA1 53 (.aload_n zf_0), zB3 54 (.getfield 39) [0, 0, 298], zB3 57 (.getfield 189) [7, 15, 214], zA2 60 (.iload 4), zA1 62 .iadd, zB3 63 (.invokevirtual 192) [1, 67, 7, 601, 555]],
  [zA3 66 (.ifCond .eq 6), zA3 69 (.iinc 3 1), zA3 72 (.iinc 4 1), zA3 75 (.goto (-33)), zA1 78 (.iload_n zf_3), zA1 79 .ireturn]])
/-- LostBets.bet -/
noncomputable def zm_106 : zz_Mi := (⟨"LostBets", "bet", "(II)I"⟩, prog_1_method_27_code, 3, some .int, 2, false, (0, 0, 4, 96), (726, 72, 724), [
  [zA1 0 (.aload_n zf_0), zB3 1 (.getfield 39) [0, 0, 298], zA1 4 (.iload_n zf_1), zA1 5 (.iload_n zf_2), zB3 6 (.invokevirtual 268) [1, 55, 7, 727, 507], zA3 9 (.ifCond .ne 9), zA1 12 (.aload_n zf_0), zA1 13 (.iconst (-1)), zB3 14 (.invokevirtual 70) [1, 13, 0, 333, 0]],
  [zA1 17 .ireturn, zA1 18 (.aload_n zf_0), zB3 19 (.getfield 39) [0, 0, 298], zA1 22 (.iload_n zf_1), zA1 23 (.iload_n zf_2), zB3 24 (.invokevirtual 271) [1, 107, 7, 728, 730], zA1 27 .ireturn]])
/-- LostBets$Town.bestBet -/
noncomputable def zm_107 : zz_Mi := (⟨"LostBets$Town", "bestBet", "(II)I"⟩, prog_10_method_29_code, 6, some .int, 2, false, (0, 0, 3, 71), (731, 79, 729), [
  [zA1 0 (.iconst 1), zA1 1 (.istore_n zf_3), zA1 2 (.iload_n zf_3), zA2 3 (.bipush 9), zA3 5 (.if_icmp .gt 73), zA1 8 (.iconst 0), zA2 9 (.istore 4), zA2 11 (.iload 4), zA1 13 (.iconst 5), zA3 14 (.if_icmp .ge 58)],
  [zA1 17 (.aload_n zf_0), zA2 18 (.iload 4), zA1 20 (.aload_n zf_0), zB3 21 (.getfield 65) [7, 15, 213], zA1 24 (.iload_n zf_3), zA1 25 .iadd, zB3 26 (.invokevirtual 161) [1, 67, 7, 553, 555], zA3 29 (.ifCond .eq 7)],
  [zA1 32 (.iconst 0), zA3 33 (.goto 4), zA1 36 (.iconst 1), zA2 37 (.istore 5), zA1 39 (.aload_n zf_0), zA1 40 (.iload_n zf_1), zA1 41 (.iload_n zf_2), zA2 42 (.iload 4), zA2 44 (.iload 5), zB3 46 (.invokevirtual 116) [1, 56, 7, 509, 511]],
  [zA3 49 (.ifCond .eq 17), zA2 52 (.bipush 100), zA2 54 (.iload 4), zA1 56 .imul, zA2 57 (.bipush 10), zA2 59 (.iload 5), zA1 61 .imul, zA1 62 .iadd, zA1 63 (.iload_n zf_3)],
  [zA1 64 .iadd, zA1 65 .ireturn, zA3 66 (.iinc 4 1), zA3 69 (.goto (-58)), zA3 72 (.iinc 3 1), zA3 75 (.goto (-73)), zA2 78 (.bipush (-9))],
  [zA1 80 .ireturn]])
/-- LostBets.takers -/
noncomputable def zm_108 : zz_Mi := (⟨"LostBets", "takers", "(III)I"⟩, prog_1_method_28_code, 6, some .int, 3, false, (0, 0, 2, 47), (735, 72, 733), [
  [zA1 0 (.aload_n zf_0), zB3 1 (.getfield 39) [0, 0, 298], zA1 4 (.iload_n zf_1), zB3 5 (.invokevirtual 156) [1, 49, 7, 591, 483], zA3 8 (.ifCond .eq 10), zA1 11 (.iload_n zf_2), zB3 12 (.invokestatic 180) [3, 51, 596], zA3 15 (.ifCond .ne 9)],
  [zA1 18 (.aload_n zf_0), zA1 19 (.iconst (-1)), zB3 20 (.invokevirtual 70) [1, 13, 0, 333, 0], zA1 23 .ireturn, zA1 24 (.iload_n zf_3), zA1 25 (.iconst 2), zB3 26 (.invokestatic 246) [3, 21, 492], zA3 29 (.ifCond .ne 10)],
  [zA1 32 (.aload_n zf_0), zA2 33 (.bipush (-2)), zB3 35 (.invokevirtual 70) [1, 13, 0, 333, 0], zA1 38 .ireturn, zA1 39 (.iconst 0), zA2 40 (.istore 4), zA1 42 (.iconst 0), zA2 43 (.istore 5), zA2 45 (.iload 5), zA1 47 (.aload_n zf_0)],
  [zB3 48 (.getfield 39) [0, 0, 298], zB3 51 (.getfield 220) [7, 1, 186], zA3 54 (.if_icmp .ge 39), zA2 57 (.iload 5), zA1 59 (.iload_n zf_1), zA3 60 (.if_icmp .eq 27), zA1 63 (.aload_n zf_0)],
  [zB3 64 (.getfield 39) [0, 0, 298], zA2 67 (.iload 5), zA1 69 (.iload_n zf_1), zA1 70 (.iload_n zf_2), zA1 71 (.iload_n zf_3), zB3 72 (.invokevirtual 274) [1, 61, 7, 736, 531], zA3 75 (.ifCond .eq 12), zA2 78 (.iload 4)],
  [zA1 80 (.iconst 1), zA2 81 (.iload 5), zA1 83 .ishl, zA1 84 .ior, zA2 85 (.istore 4), zA3 87 (.iinc 5 1), zA3 90 (.goto (-45)), zA2 93 (.iload 4), zA1 95 .ireturn]])
/-- LostBets.wooers -/
noncomputable def zm_109 : zz_Mi := (⟨"LostBets", "wooers", "(I)I"⟩, prog_1_method_29_code, 2, some .int, 1, false, (0, 0, 5, 119), (740, 72, 738), [
  [zA1 0 (.aload_n zf_0), zB3 1 (.getfield 39) [0, 0, 298], zA1 4 (.iload_n zf_1), zB3 5 (.invokevirtual 156) [1, 49, 7, 591, 483], zA3 8 (.ifCond .eq 14), zA1 11 (.aload_n zf_0), zB3 12 (.getfield 39) [0, 0, 298], zA1 15 (.iload_n zf_1)],
  [zB3 16 (.invokevirtual 278) [1, 110, 7, 741, 743], zA3 19 (.goto 8), zA1 22 (.aload_n zf_0), zA1 23 (.iconst (-1)), zB3 24 (.invokevirtual 70) [1, 13, 0, 333, 0], zA1 27 .ireturn]])
/-- LostBets$Town.wooerBits -/
noncomputable def zm_110 : zz_Mi := (⟨"LostBets$Town", "wooerBits", "(I)I"⟩, prog_10_method_30_code, 4, some .int, 1, false, (0, 0, 4, 96), (744, 79, 742), [
  [zA1 0 (.iconst 0), zA1 1 (.istore_n zf_2), zA1 2 (.iconst 0), zA1 3 (.istore_n zf_3), zA1 4 (.iload_n zf_3), zA1 5 (.aload_n zf_0), zB3 6 (.getfield 58) [7, 1, 184], zA3 9 (.if_icmp .ge 31), zA1 12 (.iload_n zf_3), zA1 13 (.iload_n zf_1), zA3 14 (.if_icmp .eq 20)],
  [zA1 17 (.aload_n zf_0), zA1 18 (.iload_n zf_3), zA1 19 (.iload_n zf_1), zB3 20 (.invokevirtual 181) [1, 107, 7, 745, 730], zA2 23 (.bipush (-9)), zA3 25 (.if_icmp .eq 9), zA1 28 (.iload_n zf_2), zA1 29 (.iconst 1), zA1 30 (.iload_n zf_3), zA1 31 .ishl],
  [zA1 32 .ior, zA1 33 (.istore_n zf_2), zA3 34 (.iinc 3 1), zA3 37 (.goto (-33)), zA1 40 (.iload_n zf_2), zA1 41 .ireturn]])
/-- LostBets.match -/
noncomputable def zm_111 : zz_Mi := (⟨"LostBets", "match", "(I)I"⟩, prog_1_method_30_code, 2, some .int, 1, false, (0, 0, 6, 143), (749, 72, 747), [
  [zA1 0 (.iload_n zf_1), zA1 1 (.iconst (-1)), zA3 2 (.if_icmp .eq 20), zA1 5 (.aload_n zf_0), zB3 6 (.getfield 39) [0, 0, 298], zA1 9 (.iload_n zf_1), zB3 10 (.invokevirtual 156) [1, 49, 7, 591, 483], zA3 13 (.ifCond .ne 9)],
  [zA1 16 (.aload_n zf_0), zA1 17 (.iconst (-1)), zB3 18 (.invokevirtual 70) [1, 13, 0, 333, 0], zA1 21 .ireturn, zA1 22 (.aload_n zf_0), zB3 23 (.getfield 66) [0, 6, 304], zA1 26 (.aload_n zf_0), zB3 27 (.getfield 39) [0, 0, 298], zB3 30 (.invokevirtual 281) [1, 112, 11, 750, 752]],
  [zA1 33 (.iload_n zf_1), zA1 34 (.iconst (-1)), zA3 35 (.if_icmp .ne 13), zA1 38 (.aload_n zf_0), zB3 39 (.getfield 66) [0, 6, 304], zB3 42 (.invokevirtual 284) [1, 115, 11, 764, 766], zA3 45 (.goto 11)],
  [zA1 48 (.aload_n zf_0), zB3 49 (.getfield 66) [0, 6, 304], zA1 52 (.iload_n zf_1), zB3 53 (.invokevirtual 287) [1, 116, 11, 768, 770], zA1 56 .ireturn]])
/-- LostBets$Twos.reckon -/
noncomputable def zm_112 : zz_Mi := (⟨"LostBets$Twos", "reckon", "(LLostBets$Town;)V"⟩, prog_11_method_2_code, 5, none, 1, false, (0, 0, 5, 119), (753, 83, 751), [
  [zA1 0 (.aload_n zf_0), zA1 1 (.iconst 1), zA1 2 (.aload_n zf_1), zB3 3 (.getfield 18) [7, 1, 185], zA1 6 .ishl, zA1 7 (.iconst 1), zA1 8 .isub, zB3 9 (.putfield 24) [11, 2, 290, 0], zA1 12 (.aload_n zf_0), zB3 13 (.getfield 9) [11, 0, 288]],
  [zA1 16 (.iconst 0), zB3 17 (.invokestatic 27) [3, 47, 754], zA1 20 (.iconst 0), zA1 21 (.istore_n zf_2), zA1 22 (.iload_n zf_2), zA1 23 (.aload_n zf_1), zB3 24 (.getfield 18) [7, 1, 185], zA3 27 (.if_icmp .ge 65), zA1 30 (.aload_n zf_1), zA1 31 (.iload_n zf_2)],
  [zB3 32 (.invokevirtual 33) [1, 110, 7, 755, 743], zA1 35 (.istore_n zf_3), zA1 36 (.aload_n zf_0), zB3 37 (.getfield 9) [11, 0, 288], zA1 40 (.iload_n zf_2), zA1 41 .dup2, zA1 42 .iaload, zA1 43 (.iload_n zf_3), zA1 44 .ior, zA1 45 .iastore, zA1 46 (.iconst 0), zA2 47 (.istore 4)],
  [zA2 49 (.iload 4), zA1 51 (.aload_n zf_1), zB3 52 (.getfield 18) [7, 1, 185], zA3 55 (.if_icmp .ge 31), zA1 58 (.iload_n zf_3), zA2 59 (.iload 4), zB3 61 (.invokestatic 37) [3, 113, 756]],
  [zA3 64 (.ifCond .eq 16), zA1 67 (.aload_n zf_0), zB3 68 (.getfield 9) [11, 0, 288], zA2 71 (.iload 4), zA1 73 .dup2, zA1 74 .iaload, zA1 75 (.iconst 1), zA1 76 (.iload_n zf_2), zA1 77 .ishl, zA1 78 .ior, zA1 79 .iastore],
  [zA3 80 (.iinc 4 1), zA3 83 (.goto (-34)), zA3 86 (.iinc 2 1), zA3 89 (.goto (-67)), zA1 92 (.iconst 1), zA1 93 (.istore_n zf_2), zA1 94 (.iload_n zf_2), zA1 95 (.aload_n zf_0)],
  [zB3 96 (.getfield 24) [11, 2, 290], zA3 99 (.if_icmp .gt 20), zA1 102 (.aload_n zf_0), zB3 103 (.getfield 15) [11, 1, 289], zA1 106 (.iload_n zf_2), zA1 107 (.aload_n zf_0), zA1 108 (.iload_n zf_2), zB3 109 (.invokevirtual 41) [1, 114, 11, 759, 10]],
  [zA1 112 .iastore, zA3 113 (.iinc 2 1), zA3 116 (.goto (-22)), zA1 119 .return_]])
/-- LostBets$Twos.isIn -/
noncomputable def zm_113 : zz_Mi := (⟨"LostBets$Twos", "isIn", "(II)Z"⟩, prog_11_method_7_code, 2, some .boolean, 2, true, (0, 0, 0, 0), (758, 83, 757), [
  [zA1 0 (.iload_n zf_0), zA1 1 (.iload_n zf_1), zA1 2 .ishr, zA1 3 (.iconst 1), zA1 4 .iand, zA1 5 (.iconst 1), zA3 6 (.if_icmp .ne 7), zA1 9 (.iconst 1), zA3 10 (.goto 4), zA1 13 (.iconst 0), zA1 14 .ireturn]])
/-- LostBets$Twos.mostIn -/
noncomputable def zm_114 : zz_Mi := (⟨"LostBets$Twos", "mostIn", "(I)I"⟩, prog_11_method_3_code, 6, some .int, 1, false, (0, 0, 1, 21), (762, 83, 761), [
  [zA1 0 (.iconst 0), zA1 1 (.istore_n zf_2), zA1 2 (.iload_n zf_2), zA2 3 (.bipush 6), zA3 5 (.if_icmp .ge 17), zA1 8 (.iload_n zf_1), zA1 9 (.iload_n zf_2), zB3 10 (.invokestatic 37) [3, 113, 756], zA3 13 (.ifCond .ne 9)],
  [zA3 16 (.iinc 2 1), zA3 19 (.goto (-17)), zA1 22 (.iload_n zf_1), zA1 23 (.iconst 1), zA1 24 (.iload_n zf_2), zA1 25 .ishl, zA1 26 (.iconst (-1)), zA1 27 .ixor, zA1 28 .iand, zA1 29 (.istore_n zf_3), zA1 30 (.aload_n zf_0), zB3 31 (.getfield 15) [11, 1, 289]],
  [zA1 34 (.iload_n zf_3), zA1 35 .iaload, zA2 36 (.istore 4), zA1 38 (.iconst 0), zA2 39 (.istore 5), zA2 41 (.iload 5), zA2 43 (.bipush 7), zA3 45 (.if_icmp .ge 47)],
  [zA1 48 (.iload_n zf_3), zA1 49 (.aload_n zf_0), zB3 50 (.getfield 9) [11, 0, 288], zA1 53 (.iload_n zf_2), zA1 54 .iaload, zA1 55 .iand, zA2 56 (.iload 5), zB3 58 (.invokestatic 37) [3, 113, 756], zA3 61 (.ifCond .eq 25)],
  [zA2 64 (.iload 4), zA1 66 (.iconst 1), zA1 67 (.aload_n zf_0), zB3 68 (.getfield 15) [11, 1, 289], zA1 71 (.iload_n zf_3), zA1 72 (.iconst 1), zA2 73 (.iload 5), zA1 75 .ishl, zA1 76 (.iconst (-1)), zA1 77 .ixor, zA1 78 .iand, zA1 79 .iaload],
  [zA1 80 .iadd, zB3 81 (.invokestatic 44) [10, 763, 580, 87, 581], zA2 84 (.istore 4), zA3 86 (.iinc 5 1), zA3 89 (.goto (-48)), zA2 92 (.iload 4), zA1 94 .ireturn]])
/-- LostBets$Twos.most -/
noncomputable def zm_115 : zz_Mi := (⟨"LostBets$Twos", "most", "()I"⟩, prog_11_method_4_code, 1, some .int, 0, false, (0, 0, 0, 0), (767, 83, 765), [
  [zA1 0 (.aload_n zf_0), zB3 1 (.getfield 15) [11, 1, 289], zA1 4 (.aload_n zf_0), zB3 5 (.getfield 24) [11, 2, 290], zA1 8 .iaload, zA1 9 .ireturn]])
/-- LostBets$Twos.partnerOf -/
noncomputable def zm_116 : zz_Mi := (⟨"LostBets$Twos", "partnerOf", "(I)I"⟩, prog_11_method_5_code, 5, some .int, 1, false, (0, 0, 2, 45), (771, 83, 769), [
  [zA1 0 (.aload_n zf_0), zB3 1 (.getfield 24) [11, 2, 290], zA1 4 (.istore_n zf_2), zA1 5 (.iconst 0), zA1 6 (.istore_n zf_3), zA1 7 (.iload_n zf_3), zA2 8 (.bipush 7), zA3 10 (.if_icmp .ge 68), zA1 13 (.iload_n zf_2), zA1 14 (.iload_n zf_3), zB3 15 (.invokestatic 37) [3, 113, 756]],
  [zA3 18 (.ifCond .ne 6), zA3 21 (.goto 51), zA1 24 (.aload_n zf_0), zA1 25 (.iload_n zf_2), zA1 26 (.iload_n zf_3), zB3 27 (.invokevirtual 50) [1, 117, 11, 772, 11], zA2 30 (.istore 4)],
  [zA1 32 (.iload_n zf_3), zA1 33 (.iload_n zf_1), zA3 34 (.if_icmp .ne 6), zA2 37 (.iload 4), zA1 39 .ireturn, zA2 40 (.iload 4), zA1 42 (.iload_n zf_1), zA3 43 (.if_icmp .ne 5), zA1 46 (.iload_n zf_3), zA1 47 .ireturn],
  [zA1 48 (.iload_n zf_2), zA1 49 (.iconst 1), zA1 50 (.iload_n zf_3), zA1 51 .ishl, zA1 52 (.iconst (-1)), zA1 53 .ixor, zA1 54 .iand, zA1 55 (.istore_n zf_2), zA2 56 (.iload 4), zA2 58 (.bipush (-9)), zA3 60 (.if_icmp .eq 12), zA1 63 (.iload_n zf_2)],
  [zA1 64 (.iconst 1), zA2 65 (.iload 4), zA1 67 .ishl, zA1 68 (.iconst (-1)), zA1 69 .ixor, zA1 70 .iand, zA1 71 (.istore_n zf_2), zA3 72 (.iinc 3 1), zA3 75 (.goto (-68)), zA2 78 (.bipush (-9))],
  [zA1 80 .ireturn]])
/-- LostBets$Twos.firstPartner -/
noncomputable def zm_117 : zz_Mi := (⟨"LostBets$Twos", "firstPartner", "(II)I"⟩, prog_11_method_6_code, 5, some .int, 2, false, (0, 0, 1, 21), (775, 83, 774), [
  [zA1 0 (.iload_n zf_1), zA1 1 (.iconst 1), zA1 2 (.iload_n zf_2), zA1 3 .ishl, zA1 4 (.iconst (-1)), zA1 5 .ixor, zA1 6 .iand, zA1 7 (.istore_n zf_3), zA1 8 (.iconst 0), zA2 9 (.istore 4), zA2 11 (.iload 4), zA2 13 (.bipush 7), zA3 15 (.if_icmp .ge 52)],
  [zA1 18 (.iload_n zf_3), zA1 19 (.aload_n zf_0), zB3 20 (.getfield 9) [11, 0, 288], zA1 23 (.iload_n zf_2), zA1 24 .iaload, zA1 25 .iand, zA2 26 (.iload 4), zB3 28 (.invokestatic 37) [3, 113, 756], zA3 31 (.ifCond .eq 30)],
  [zA1 34 (.iconst 1), zA1 35 (.aload_n zf_0), zB3 36 (.getfield 15) [11, 1, 289], zA1 39 (.iload_n zf_3), zA1 40 (.iconst 1), zA2 41 (.iload 4), zA1 43 .ishl, zA1 44 (.iconst (-1)), zA1 45 .ixor, zA1 46 .iand, zA1 47 .iaload],
  [zA1 48 .iadd, zA1 49 (.aload_n zf_0), zB3 50 (.getfield 15) [11, 1, 289], zA1 53 (.iload_n zf_1), zA1 54 .iaload, zA3 55 (.if_icmp .ne 6), zA2 58 (.iload 4), zA1 60 .ireturn, zA3 61 (.iinc 4 1)],
  [zA3 64 (.goto (-53)), zA2 67 (.bipush (-9)), zA1 69 .ireturn]])
/-- LostBets.fix -/
noncomputable def zm_118 : zz_Mi := (⟨"LostBets", "fix", "(I)I"⟩, prog_1_method_31_code, 7, some .int, 1, false, (0, 0, 5, 112), (779, 72, 777), [
  [zA1 0 (.iload_n zf_1), zA3 1 (.ifCond .ge 10), zA1 4 (.aload_n zf_0), zA2 5 (.bipush (-4)), zB3 7 (.invokevirtual 70) [1, 13, 0, 333, 0], zA1 10 .ireturn, zA1 11 (.iload_n zf_1), zA2 12 (.bipush 30), zA3 14 (.if_icmp .le 10)],
  [zA1 17 (.aload_n zf_0), zA2 18 (.bipush (-6)), zB3 20 (.invokevirtual 70) [1, 13, 0, 333, 0], zA1 23 .ireturn, zA1 24 (.aload_n zf_0), zB3 25 (.getfield 43) [0, 1, 299], zA1 28 (.aload_n zf_0), zB3 29 (.getfield 39) [0, 0, 298]],
  [zB3 32 (.invokevirtual 93) [1, 23, 7, 371, 373], zA2 35 (.bipush (-9)), zA1 37 (.istore_n zf_2), zA1 38 (.aload_n zf_0), zB3 39 (.getfield 39) [0, 0, 298], zA1 42 (.iload_n zf_1), zB3 43 (.invokevirtual 236) [1, 91, 7, 660, 662], zA1 46 (.istore_n zf_3), zA1 47 (.iconst 0)],
  [zA2 48 (.istore 4), zA2 50 (.iload 4), zA1 52 (.iconst 5), zA3 53 (.if_icmp .ge 85), zA1 56 (.iconst 0), zA2 57 (.istore 5), zA2 59 (.iload 5), zA2 61 (.bipush 8), zA3 63 (.if_icmp .gt 49)],
  [zA1 66 (.aload_n zf_0), zB3 67 (.getfield 43) [0, 1, 299], zB3 70 (.getfield 186) [7, 12, 208], zA2 73 (.iload 4), zA2 75 (.iload 5), zA1 77 .iastore, zA1 78 (.aload_n zf_0), zB3 79 (.getfield 43) [0, 1, 299]],
  [zA1 82 (.iload_n zf_1), zB3 83 (.invokevirtual 236) [1, 91, 7, 660, 662], zA2 86 (.istore 6), zA2 88 (.iload 6), zA1 90 (.iload_n zf_3), zA3 91 (.if_icmp .le 15), zA2 94 (.iload 6)],
  [zA1 96 (.istore_n zf_3), zA2 97 (.bipush 10), zA2 99 (.iload 4), zA1 101 .imul, zA2 102 (.iload 5), zA1 104 .iadd, zA1 105 (.istore_n zf_2), zA3 106 (.iinc 5 1), zA3 109 (.goto (-50))],
  [zA1 112 (.aload_n zf_0), zB3 113 (.getfield 43) [0, 1, 299], zB3 116 (.getfield 186) [7, 12, 208], zA2 119 (.iload 4), zA1 121 (.aload_n zf_0), zB3 122 (.getfield 39) [0, 0, 298], zB3 125 (.getfield 186) [7, 12, 208]],
  [zA2 128 (.iload 4), zA1 130 .iaload, zA1 131 .iastore, zA3 132 (.iinc 4 1), zA3 135 (.goto (-85)), zA1 138 (.iload_n zf_2), zA1 139 .ireturn]])
/-- LostBets.preach -/
noncomputable def zm_119 : zz_Mi := (⟨"LostBets", "preach", "(I)I"⟩, prog_1_method_32_code, 6, some .int, 1, false, (0, 0, 5, 119), (783, 72, 781), [
  [zA1 0 (.iload_n zf_1), zB3 1 (.invokestatic 180) [3, 51, 596], zA3 4 (.ifCond .ne 9), zA1 7 (.aload_n zf_0), zA1 8 (.iconst (-1)), zB3 9 (.invokevirtual 70) [1, 13, 0, 333, 0], zA1 12 .ireturn, zA1 13 (.aload_n zf_0), zB3 14 (.getfield 43) [0, 1, 299]],
  [zA1 17 (.aload_n zf_0), zB3 18 (.getfield 39) [0, 0, 298], zB3 21 (.invokevirtual 93) [1, 23, 7, 371, 373], zA2 24 (.bipush (-9)), zA1 26 (.istore_n zf_2), zA1 27 (.iconst 0), zA1 28 (.istore_n zf_3), zA1 29 (.iconst 0), zA2 30 (.istore 4)],
  [zA2 32 (.iload 4), zA1 34 (.aload_n zf_0), zB3 35 (.getfield 39) [0, 0, 298], zB3 38 (.getfield 220) [7, 1, 186], zA3 41 (.if_icmp .ge 103), zA1 44 (.aload_n zf_0), zB3 45 (.getfield 43) [0, 1, 299]],
  [zB3 48 (.getfield 138) [7, 10, 204], zA2 51 (.iload 4), zA1 53 .aaload, zA1 54 (.iload_n zf_1), zA2 55 (.bipush 9), zA1 57 (.aload_n zf_0), zB3 58 (.getfield 39) [0, 0, 298], zB3 61 (.getfield 138) [7, 10, 204]],
  [zA2 64 (.iload 4), zA1 66 .aaload, zA1 67 (.iload_n zf_1), zA1 68 .iaload, zA1 69 .isub, zA1 70 .iastore, zA1 71 (.aload_n zf_0), zB3 72 (.getfield 43) [0, 1, 299], zA2 75 (.iload 4), zB3 77 (.invokevirtual 278) [1, 110, 7, 741, 743]],
  [zB3 80 (.invokestatic 290) [3, 120, 784], zA2 83 (.istore 5), zA2 85 (.iload 5), zA1 87 (.iload_n zf_3), zA3 88 (.if_icmp .le 26), zA2 91 (.iload 5), zA1 93 (.aload_n zf_0), zB3 94 (.getfield 39) [0, 0, 298]],
  [zA2 97 (.iload 4), zB3 99 (.invokevirtual 278) [1, 110, 7, 741, 743], zB3 102 (.invokestatic 290) [3, 120, 784], zA3 105 (.if_icmp .le 9), zA2 108 (.iload 5), zA1 110 (.istore_n zf_3), zA2 111 (.iload 4)],
  [zA1 113 (.istore_n zf_2), zA1 114 (.aload_n zf_0), zB3 115 (.getfield 43) [0, 1, 299], zB3 118 (.getfield 138) [7, 10, 204], zA2 121 (.iload 4), zA1 123 .aaload, zA1 124 (.iload_n zf_1), zA1 125 (.aload_n zf_0), zB3 126 (.getfield 39) [0, 0, 298]],
  [zB3 129 (.getfield 138) [7, 10, 204], zA2 132 (.iload 4), zA1 134 .aaload, zA1 135 (.iload_n zf_1), zA1 136 .iaload, zA1 137 .iastore, zA3 138 (.iinc 4 1), zA3 141 (.goto (-109))],
  [zA1 144 (.iload_n zf_2), zA1 145 .ireturn]])
/-- java/lang/Integer.bitCount -/
noncomputable def zm_120 : zz_Mi := (⟨"java/lang/Integer", "bitCount", "(I)I"⟩, prog_15_method_49_code, 1, some .int, 1, true, (0, 0, 0, 0), (786, 88, 785), [
  [zA1 0 (.iload_n zf_0), zA1 1 (.iload_n zf_0), zA1 2 (.iconst 1), zA1 3 .iushr, (4, .ldc_w 265, 3, [787], .int 1431655765), zA1 7 .iand, zA1 8 .isub, zA1 9 (.istore_n zf_0), zA1 10 (.iload_n zf_0), (11, .ldc_w 266, 3, [788], .int 858993459), zA1 14 .iand, zA1 15 (.iload_n zf_0)],
  [zA1 16 (.iconst 2), zA1 17 .iushr, (18, .ldc_w 266, 3, [788], .int 858993459), zA1 21 .iand, zA1 22 .iadd, zA1 23 (.istore_n zf_0), zA1 24 (.iload_n zf_0), zA1 25 (.iload_n zf_0), zA1 26 (.iconst 4), zA1 27 .iushr, zA1 28 .iadd, (29, .ldc_w 267, 3, [789], .int 252645135)],
  [zA1 32 .iand, zA1 33 (.istore_n zf_0), zA1 34 (.iload_n zf_0), zA1 35 (.iload_n zf_0), zA2 36 (.bipush 8), zA1 38 .iushr, zA1 39 .iadd, zA1 40 (.istore_n zf_0), zA1 41 (.iload_n zf_0), zA1 42 (.iload_n zf_0), zA2 43 (.bipush 16), zA1 45 .iushr, zA1 46 .iadd, zA1 47 (.istore_n zf_0)],
  [zA1 48 (.iload_n zf_0), zA2 49 (.bipush 63), zA1 51 .iand, zA1 52 .ireturn]])
/-- LostBets.fair -/
noncomputable def zm_121 : zz_Mi := (⟨"LostBets", "fair", "(I)I"⟩, prog_1_method_33_code, 4, some .int, 1, false, (0, 0, 2, 45), (793, 72, 791), [
  [zA1 0 (.iload_n zf_1), zA1 1 (.iconst 2), zB3 2 (.invokestatic 246) [3, 21, 492], zA3 5 (.ifCond .ne 10), zA1 8 (.aload_n zf_0), zA2 9 (.bipush (-2)), zB3 11 (.invokevirtual 70) [1, 13, 0, 333, 0], zA1 14 .ireturn, zA1 15 (.iconst 0)],
  [zA1 16 (.istore_n zf_2), zA1 17 (.iconst 0), zA1 18 (.istore_n zf_3), zA1 19 (.iload_n zf_3), zA1 20 (.aload_n zf_0), zB3 21 (.getfield 39) [0, 0, 298], zB3 24 (.getfield 196) [7, 14, 212], zA3 27 (.if_icmp .ge 44), zA1 30 (.iload_n zf_1), zA3 31 (.ifCond .ne 17)],
  [zA1 34 (.aload_n zf_0), zB3 35 (.getfield 39) [0, 0, 298], zA1 38 (.iload_n zf_3), zB3 39 (.invokevirtual 295) [1, 122, 7, 794, 796], zA3 42 (.ifCond .eq 23), zA3 45 (.goto 14)],
  [zA1 48 (.aload_n zf_0), zB3 49 (.getfield 39) [0, 0, 298], zA1 52 (.iload_n zf_3), zB3 53 (.invokevirtual 298) [1, 66, 7, 798, 551], zA3 56 (.ifCond .eq 9), zA1 59 (.iload_n zf_2), zA1 60 (.iconst 1), zA1 61 (.iload_n zf_3), zA1 62 .ishl, zA1 63 .ior],
  [zA1 64 (.istore_n zf_2), zA3 65 (.iinc 3 1), zA3 68 (.goto (-49)), zA1 71 (.iload_n zf_2), zA1 72 .ireturn]])
/-- LostBets$Town.isFair -/
noncomputable def zm_122 : zz_Mi := (⟨"LostBets$Town", "isFair", "(I)Z"⟩, prog_10_method_27_code, 3, some .boolean, 1, false, (0, 0, 1, 23), (797, 79, 795), [
  [zA1 0 (.aload_n zf_0), zB3 1 (.getfield 49) [7, 13, 209], zA1 4 (.iload_n zf_1), zA1 5 .aaload, zA1 6 (.astore_n zf_2), zA1 7 (.aload_n zf_0), zA1 8 (.aload_n zf_2), zB3 9 (.getfield 120) [8, 0, 158], zA1 12 (.aload_n zf_2), zB3 13 (.getfield 126) [8, 2, 164]],
  [zA1 16 (.aload_n zf_2), zB3 17 (.getfield 129) [8, 3, 167], zB3 20 (.invokevirtual 171) [1, 60, 7, 525, 2], zA1 23 (.aload_n zf_0), zA1 24 (.aload_n zf_2), zB3 25 (.getfield 123) [8, 1, 161], zA1 28 (.aload_n zf_2), zB3 29 (.getfield 126) [8, 2, 164]],
  [zA1 32 (.aload_n zf_2), zB3 33 (.getfield 129) [8, 3, 167], zB3 36 (.invokevirtual 171) [1, 60, 7, 525, 2], zA3 39 (.if_icmp .ne 7), zA1 42 (.iconst 1), zA3 43 (.goto 4), zA1 46 (.iconst 0), zA1 47 .ireturn]])
/-- LostBets.hedge -/
noncomputable def zm_123 : zz_Mi := (⟨"LostBets", "hedge", "(II)I"⟩, prog_1_method_34_code, 6, some .int, 2, false, (0, 0, 6, 134), (802, 72, 800), [
  [zA1 0 (.iload_n zf_1), zA3 1 (.ifCond .lt 7), zA1 4 (.iload_n zf_2), zA3 5 (.ifCond .ge 10), zA1 8 (.aload_n zf_0), zA2 9 (.bipush (-4)), zB3 11 (.invokevirtual 70) [1, 13, 0, 333, 0], zA1 14 .ireturn, zA1 15 (.iload_n zf_1)],
  [zA2 16 (.bipush 99), zA3 18 (.if_icmp .gt 9), zA1 21 (.iload_n zf_2), zA2 22 (.bipush 30), zA3 24 (.if_icmp .le 10), zA1 27 (.aload_n zf_0), zA2 28 (.bipush (-6)), zB3 30 (.invokevirtual 70) [1, 13, 0, 333, 0]],
  [zA1 33 .ireturn, zA2 34 (.bipush (-9)), zA1 36 (.istore_n zf_3), zA1 37 (.aload_n zf_0), zB3 38 (.getfield 39) [0, 0, 298], zB3 41 (.getfield 196) [7, 14, 212], zA1 44 (.iconst 1), zA1 45 .iadd, zA2 46 (.istore 4)],
  [zA1 48 (.iconst 0), zA2 49 (.istore 5), zA2 51 (.iload 5), zA1 53 (.iconst 1), zA1 54 (.aload_n zf_0), zB3 55 (.getfield 39) [0, 0, 298], zB3 58 (.getfield 196) [7, 14, 212], zA1 61 .ishl, zA3 62 (.if_icmp .ge 47)],
  [zA1 65 (.aload_n zf_0), zA2 66 (.iload 5), zB3 68 (.invokevirtual 301) [1, 124, 0, 803, 12], zA2 71 (.iload 5), zB3 73 (.invokestatic 290) [3, 120, 784], zA2 76 (.iload 4), zA3 78 (.if_icmp .ge 25)],
  [zA1 81 (.aload_n zf_0), zB3 82 (.getfield 43) [0, 1, 299], zA1 85 (.iload_n zf_2), zB3 86 (.invokevirtual 226) [1, 80, 7, 614, 616], zA1 89 (.iload_n zf_1), zA3 90 (.if_icmp .gt 13), zA2 93 (.iload 5), zB3 95 (.invokestatic 290) [3, 120, 784]],
  [zA2 98 (.istore 4), zA2 100 (.iload 5), zA1 102 (.istore_n zf_3), zA3 103 (.iinc 5 1), zA3 106 (.goto (-55)), zA1 109 (.iload_n zf_3), zA1 110 .ireturn]])
/-- LostBets.callOffInMind -/
noncomputable def zm_124 : zz_Mi := (⟨"LostBets", "callOffInMind", "(I)V"⟩, prog_1_method_35_code, 3, none, 1, false, (0, 0, 3, 69), (806, 72, 805), [
  [zA1 0 (.aload_n zf_0), zB3 1 (.getfield 43) [0, 1, 299], zA1 4 (.aload_n zf_0), zB3 5 (.getfield 39) [0, 0, 298], zB3 8 (.invokevirtual 93) [1, 23, 7, 371, 373], zA1 11 (.aload_n zf_0), zB3 12 (.getfield 39) [0, 0, 298], zB3 15 (.getfield 196) [7, 14, 212]],
  [zA1 18 (.iconst 1), zA1 19 .isub, zA1 20 (.istore_n zf_2), zA1 21 (.iload_n zf_2), zA3 22 (.ifCond .lt 26), zA1 25 (.iload_n zf_1), zA1 26 (.iload_n zf_2), zA1 27 .ishr, zA1 28 (.iconst 1), zA1 29 .iand, zA1 30 (.iconst 1), zA3 31 (.if_icmp .ne 11)],
  [zA1 34 (.aload_n zf_0), zB3 35 (.getfield 43) [0, 1, 299], zA1 38 (.iload_n zf_2), zB3 39 (.invokevirtual 304) [1, 70, 7, 807, 570], zA3 42 (.iinc 2 (-1)), zA3 45 (.goto (-24))],
  [zA1 48 .return_]])
/-- LostBets.two -/
noncomputable def zm_125 : zz_Mi := (⟨"LostBets", "two", "(III)I"⟩, prog_1_method_36_code, 9, some .int, 3, false, (0, 0, 4, 97), (811, 72, 809), [
  [zA1 0 (.aload_n zf_0), zB3 1 (.getfield 39) [0, 0, 298], zA1 4 (.iload_n zf_1), zA1 5 (.iload_n zf_2), zB3 6 (.invokevirtual 268) [1, 55, 7, 727, 507], zA3 9 (.ifCond .eq 10), zA1 12 (.iload_n zf_3), zB3 13 (.invokestatic 180) [3, 51, 596]],
  [zA3 16 (.ifCond .ne 9), zA1 19 (.aload_n zf_0), zA1 20 (.iconst (-1)), zB3 21 (.invokevirtual 70) [1, 13, 0, 333, 0], zA1 24 .ireturn, zA1 25 (.aload_n zf_0), zB3 26 (.getfield 39) [0, 0, 298], zA1 29 (.iload_n zf_1), zB3 30 (.invokevirtual 307) [1, 57, 7, 812, 515]],
  [zA3 33 (.ifCond .eq 14), zA1 36 (.aload_n zf_0), zB3 37 (.getfield 39) [0, 0, 298], zA1 40 (.iload_n zf_2), zB3 41 (.invokevirtual 307) [1, 57, 7, 812, 515], zA3 44 (.ifCond .ne 10), zA1 47 (.aload_n zf_0)],
  [zA2 48 (.bipush (-3)), zB3 50 (.invokevirtual 70) [1, 13, 0, 333, 0], zA1 53 .ireturn, zA1 54 (.aload_n zf_0), zB3 55 (.getfield 43) [0, 1, 299], zA1 58 (.aload_n zf_0), zB3 59 (.getfield 39) [0, 0, 298], zB3 62 (.invokevirtual 93) [1, 23, 7, 371, 373]],
  [zA1 65 (.iconst 0), zA2 66 (.istore 4), zA2 68 (.iload 4), zA1 70 (.iconst 1), zA3 71 (.if_icmp .gt 130), zA1 74 (.iconst 0), zA2 75 (.istore 5), zA2 77 (.iload 5), zA1 79 (.iconst 1)],
  [zA3 80 (.if_icmp .gt 115), zA1 83 (.aload_n zf_0), zA1 84 (.iload_n zf_1), zA1 85 (.iload_n zf_2), zA1 86 (.iload_n zf_3), zA2 87 (.iload 4), zA2 89 (.iload 5), zB3 91 (.invokevirtual 310) [1, 126, 0, 813, 13], zA2 94 (.istore 6)],
  [zA2 96 (.iload 6), zA1 98 (.iconst 2), zA2 99 (.iload 4), zA1 101 .imul, zA1 102 .isub, zA1 103 (.aload_n zf_0), zA1 104 (.iload_n zf_1), zA1 105 (.iload_n zf_2), zA1 106 (.iload_n zf_3), zA1 107 (.iconst 1), zA2 108 (.iload 4), zA1 110 .isub, zA2 111 (.iload 5)],
  [zB3 113 (.invokevirtual 310) [1, 126, 0, 813, 13], zA1 116 (.iconst 2), zA1 117 (.iconst 1), zA2 118 (.iload 4), zA1 120 .isub, zA1 121 .imul, zA1 122 .isub, zA3 123 (.if_icmp .lt 7), zA1 126 (.iconst 1), zA3 127 (.goto 4)],
  [zA1 130 (.iconst 0), zA2 131 (.istore 7), zA2 133 (.iload 6), zA1 135 (.iconst 2), zA2 136 (.iload 5), zA1 138 .imul, zA1 139 .isub, zA1 140 (.aload_n zf_0), zA1 141 (.iload_n zf_1), zA1 142 (.iload_n zf_2), zA1 143 (.iload_n zf_3)],
  [zA2 144 (.iload 4), zA1 146 (.iconst 1), zA2 147 (.iload 5), zA1 149 .isub, zB3 150 (.invokevirtual 310) [1, 126, 0, 813, 13], zA1 153 (.iconst 2), zA1 154 (.iconst 1), zA2 155 (.iload 5), zA1 157 .isub, zA1 158 .imul, zA1 159 .isub],
  [zA3 160 (.if_icmp .lt 7), zA1 163 (.iconst 1), zA3 164 (.goto 4), zA1 167 (.iconst 0), zA2 168 (.istore 8), zA2 170 (.iload 7), zA3 172 (.ifCond .eq 17), zA2 175 (.iload 8)],
  [zA3 177 (.ifCond .eq 12), zA2 180 (.bipush 10), zA2 182 (.iload 4), zA1 184 .imul, zA2 185 (.iload 5), zA1 187 .iadd, zA1 188 .ireturn, zA3 189 (.iinc 5 1)],
  [zA3 192 (.goto (-115)), zA3 195 (.iinc 4 1), zA3 198 (.goto (-130)), zA2 201 (.bipush (-9)), zA1 203 .ireturn]])
