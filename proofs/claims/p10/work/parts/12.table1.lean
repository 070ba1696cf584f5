/-! the system's methods -/
/-- LostBets.<init> -/
def zm_0 : zz_Mi := (⟨"LostBets", "<init>", "()V"⟩, prog_1_method_1_code, 2, none, 0, false, (269, 1834, 4, 84), (93, 72, 92), [
  [(0, .aload_n 0, 1, [], .null), (1, .invokespecial 3, 3, [0, 94, 95, 96], .null), (4, .aload_n 0, 1, [], .null), (5, .bipush 12, 2, [], .null), (7, .newarray .int, 2, [105], .null), (9, .putfield 9, 3, [0, 7, 305, 2], .null), (12, .aload_n 0, 1, [], .null), (13, .bipush 7, 2, [], .null), (15, .newarray .int, 2, [105], .null)],
  [(17, .putfield 13, 3, [0, 9, 307, 2], .null), (20, .bipush 6, 2, [], .null), (22, .anewarray 16, 3, [1, 97, 98], .null), (25, .dup, 1, [], .null), (26, .iconst 0, 1, [], .null), (27, .new 16, 3, [1, 97, 99, 73], .null), (30, .dup, 1, [], .null), (31, .invokespecial 18, 3, [6, 1, 100], .null)],
  [(34, .aastore, 1, [1, 1, 0], .null), (35, .dup, 1, [], .null), (36, .iconst 1, 1, [], .null), (37, .new 19, 3, [2, 106, 107, 74], .null), (40, .dup, 1, [], .null), (41, .invokespecial 21, 3, [6, 2, 108], .null), (44, .aastore, 1, [1, 2, 1468], .null), (45, .dup, 1, [], .null), (46, .iconst 2, 1, [], .null), (47, .new 22, 3, [3, 113, 114, 75], .null)],
  [(50, .dup, 1, [], .null), (51, .invokespecial 24, 3, [6, 3, 115], .null), (54, .aastore, 1, [1, 3, 1469], .null), (55, .dup, 1, [], .null), (56, .iconst 3, 1, [], .null), (57, .new 25, 3, [4, 120, 121, 76], .null), (60, .dup, 1, [], .null), (61, .invokespecial 27, 3, [6, 4, 122], .null)],
  [(64, .aastore, 1, [1, 4, 1470], .null), (65, .dup, 1, [], .null), (66, .iconst 4, 1, [], .null), (67, .new 28, 3, [5, 127, 128, 77], .null), (70, .dup, 1, [], .null), (71, .invokespecial 30, 3, [6, 5, 129], .null), (74, .aastore, 1, [1, 5, 1471], .null), (75, .dup, 1, [], .null), (76, .iconst 5, 1, [], .null), (77, .new 31, 3, [6, 134, 135, 78], .null)],
  [(80, .dup, 1, [], .null), (81, .invokespecial 33, 3, [6, 6, 136], .null), (84, .aastore, 1, [1, 6, 1472], .null), (85, .astore_n 1, 1, [], .null), (86, .aload_n 0, 1, [], .null), (87, .new 34, 3, [7, 141, 142, 79], .null), (90, .dup, 1, [], .null), (91, .aload_n 1, 1, [], .null), (92, .invokespecial 36, 3, [5, 7, 143], .null), (95, .putfield 39, 3, [0, 0, 298, 2], .null)],
  [(98, .aload_n 0, 1, [], .null), (99, .new 34, 3, [7, 141, 142, 79], .null), (102, .dup, 1, [], .null), (103, .aload_n 1, 1, [], .null), (104, .invokespecial 36, 3, [5, 7, 143], .null), (107, .putfield 43, 3, [0, 1, 299, 2], .null), (110, .aload_n 0, 1, [], .null), (111, .new 34, 3, [7, 141, 142, 79], .null)],
  [(114, .dup, 1, [], .null), (115, .aload_n 1, 1, [], .null), (116, .invokespecial 36, 3, [5, 7, 143], .null), (119, .putfield 46, 3, [0, 2, 300, 2], .null), (122, .aload_n 0, 1, [], .null), (123, .new 49, 3, [9, 248, 249, 81], .null), (126, .dup, 1, [], .null), (127, .aload_n 1, 1, [], .null)],
  [(128, .invokespecial 51, 3, [5, 9, 250], .null), (131, .putfield 52, 3, [0, 4, 302, 2], .null), (134, .aload_n 0, 1, [], .null), (135, .new 56, 3, [10, 268, 269, 82], .null), (138, .dup, 1, [], .null), (139, .invokespecial 58, 3, [6, 10, 270], .null), (142, .putfield 59, 3, [0, 5, 303, 2], .null)],
  [(145, .aload_n 0, 1, [], .null), (146, .new 63, 3, [11, 282, 283, 83], .null), (149, .dup, 1, [], .null), (150, .invokespecial 65, 3, [6, 11, 284], .null), (153, .putfield 66, 3, [0, 6, 304, 2], .null), (156, .return_, 1, [], .null)]])
/-- LostBets$Suitor.<init> -/
def zm_1 : zz_Mi := (⟨"LostBets$Suitor", "<init>", "()V"⟩, prog_9_method_1_code, 1, none, 0, false, (0, 0, 1, 20), (102, 73, 101), [
  [(0, .aload_n 0, 1, [], .null), (1, .invokespecial 1, 3, [0, 103, 95, 96], .null), (4, .return_, 1, [], .null)]])
/-- LostBets$Aunt.<init> -/
def zm_2 : zz_Mi := (⟨"LostBets$Aunt", "<init>", "()V"⟩, prog_2_method_1_code, 1, none, 0, false, (0, 0, 2, 40), (110, 74, 109), [
  [(0, .aload_n 0, 1, [], .null), (1, .invokespecial 1, 3, [6, 1, 111], .null), (4, .return_, 1, [], .null)]])
/-- LostBets$Girl.<init> -/
def zm_3 : zz_Mi := (⟨"LostBets$Girl", "<init>", "()V"⟩, prog_4_method_1_code, 1, none, 0, false, (0, 0, 2, 40), (117, 75, 116), [
  [(0, .aload_n 0, 1, [], .null), (1, .invokespecial 1, 3, [6, 1, 118], .null), (4, .return_, 1, [], .null)]])
/-- LostBets$Gambler.<init> -/
def zm_4 : zz_Mi := (⟨"LostBets$Gambler", "<init>", "()V"⟩, prog_3_method_1_code, 1, none, 0, false, (0, 0, 2, 40), (124, 76, 123), [
  [(0, .aload_n 0, 1, [], .null), (1, .invokespecial 1, 3, [6, 1, 125], .null), (4, .return_, 1, [], .null)]])
/-- LostBets$Rich.<init> -/
def zm_5 : zz_Mi := (⟨"LostBets$Rich", "<init>", "()V"⟩, prog_8_method_1_code, 1, none, 0, false, (0, 0, 3, 60), (131, 77, 130), [
  [(0, .aload_n 0, 1, [], .null), (1, .invokespecial 1, 3, [6, 2, 132], .null), (4, .return_, 1, [], .null)]])
/-- LostBets$Honest.<init> -/
def zm_6 : zz_Mi := (⟨"LostBets$Honest", "<init>", "()V"⟩, prog_5_method_1_code, 1, none, 0, false, (0, 0, 3, 60), (138, 78, 137), [
  [(0, .aload_n 0, 1, [], .null), (1, .invokespecial 1, 3, [6, 4, 139], .null), (4, .return_, 1, [], .null)]])
/-- LostBets$Town.<init> -/
def zm_7 : zz_Mi := (⟨"LostBets$Town", "<init>", "([LLostBets$Suitor;)V"⟩, prog_10_method_1_code, 3, none, 1, false, (22, 126, 2, 40), (145, 79, 144), [
  [(0, .aload_n 0, 1, [], .null), (1, .invokespecial 3, 3, [0, 146, 95, 96], .null), (4, .aload_n 0, 1, [], .null), (5, .bipush 7, 2, [], .null), (7, .newarray .int, 2, [105], .null), (9, .putfield 9, 3, [7, 2, 187, 2], .null), (12, .aload_n 0, 1, [], .null), (13, .bipush 7, 2, [], .null), (15, .newarray .int, 2, [105], .null)],
  [(17, .putfield 15, 3, [7, 3, 189, 2], .null), (20, .aload_n 0, 1, [], .null), (21, .bipush 7, 2, [], .null), (23, .newarray .int, 2, [105], .null), (25, .putfield 18, 3, [7, 4, 191, 2], .null), (28, .aload_n 0, 1, [], .null), (29, .bipush 7, 2, [], .null), (31, .newarray .int, 2, [105], .null)],
  [(33, .putfield 21, 3, [7, 5, 193, 2], .null), (36, .aload_n 0, 1, [], .null), (37, .bipush 7, 2, [], .null), (39, .newarray .int, 2, [105], .null), (41, .putfield 24, 3, [7, 6, 195, 2], .null), (44, .aload_n 0, 1, [], .null), (45, .bipush 7, 2, [], .null), (47, .newarray .int, 2, [105], .null)],
  [(49, .putfield 27, 3, [7, 7, 197, 2], .null), (52, .aload_n 0, 1, [], .null), (53, .bipush 7, 2, [], .null), (55, .newarray .int, 2, [105], .null), (57, .putfield 30, 3, [7, 8, 199, 2], .null), (60, .aload_n 0, 1, [], .null), (61, .bipush 7, 2, [], .null), (63, .newarray .int, 2, [105], .null)],
  [(65, .putfield 33, 3, [7, 9, 201, 2], .null), (68, .aload_n 0, 1, [], .null), (69, .bipush 7, 2, [], .null), (71, .iconst 5, 1, [], .null), (72, .multianewarray 36 2, 4, [2, 147, 148, 105], .null), (76, .putfield 38, 3, [7, 10, 203, 2], .null), (79, .aload_n 0, 1, [], .null)],
  [(80, .iconst 5, 1, [], .null), (81, .newarray .int, 2, [105], .null), (83, .putfield 41, 3, [7, 11, 205, 2], .null), (86, .aload_n 0, 1, [], .null), (87, .iconst 5, 1, [], .null), (88, .newarray .int, 2, [105], .null), (90, .putfield 44, 3, [7, 12, 207, 2], .null), (93, .aload_n 0, 1, [], .null), (94, .iconst 3, 1, [], .null), (95, .anewarray 47, 3, [3, 149, 150], .null)],
  [(98, .putfield 49, 3, [7, 13, 209, 2], .null), (101, .aload_n 0, 1, [], .null), (102, .aload_n 1, 1, [], .null), (103, .putfield 53, 3, [7, 0, 182, 2], .null), (106, .iconst 0, 1, [], .null), (107, .istore_n 2, 1, [], .null), (108, .iload_n 2, 1, [], .null), (109, .iconst 5, 1, [], .null), (110, .if_icmp .ge 18, 3, [], .null)],
  [(113, .aload_n 0, 1, [], .null), (114, .getfield 41, 3, [7, 11, 205], .null), (117, .iload_n 2, 1, [], .null), (118, .iload_n 2, 1, [], .null), (119, .iconst 2, 1, [], .null), (120, .iadd, 1, [], .null), (121, .iastore, 1, [], .null), (122, .iinc 2 1, 3, [], .null), (125, .goto (-17), 3, [], .null)],
  [(128, .iconst 0, 1, [], .null), (129, .istore_n 2, 1, [], .null), (130, .iload_n 2, 1, [], .null), (131, .iconst 3, 1, [], .null), (132, .if_icmp .ge 22, 3, [], .null), (135, .aload_n 0, 1, [], .null), (136, .getfield 49, 3, [7, 13, 209], .null), (139, .iload_n 2, 1, [], .null), (140, .new 47, 3, [8, 149, 151, 80], .null), (143, .dup, 1, [], .null)],
  [(144, .invokespecial 57, 3, [6, 8, 152], .null), (147, .aastore, 1, [3, 8, 0], .null), (148, .iinc 2 1, 3, [], .null), (151, .goto (-21), 3, [], .null), (154, .return_, 1, [], .null)]])
/-- LostBets$Wager.<init> -/
def zm_8 : zz_Mi := (⟨"LostBets$Wager", "<init>", "()V"⟩, prog_12_method_1_code, 1, none, 0, false, (0, 0, 1, 20), (154, 80, 153), [
  [(0, .aload_n 0, 1, [], .null), (1, .invokespecial 1, 3, [0, 155, 95, 96], .null), (4, .return_, 1, [], .null)]])
/-- LostBets$Past.<init> -/
def zm_9 : zz_Mi := (⟨"LostBets$Past", "<init>", "([LLostBets$Suitor;)V"⟩, prog_7_method_1_code, 3, none, 1, false, (185, 1144, 3, 62), (252, 81, 251), [
  [(0, .aload_n 0, 1, [], .null), (1, .invokespecial 1, 3, [0, 253, 95, 96], .null), (4, .aload_n 0, 1, [], .null), (5, .bipush 8, 2, [], .null), (7, .anewarray 9, 3, [4, 254, 255], .null), (10, .putfield 11, 3, [9, 0, 257, 2], .null), (13, .iconst 0, 1, [], .null), (14, .istore_n 2, 1, [], .null), (15, .iload_n 2, 1, [], .null)],
  [(16, .bipush 8, 2, [], .null), (18, .if_icmp .ge 23, 3, [], .null), (21, .aload_n 0, 1, [], .null), (22, .getfield 11, 3, [9, 0, 257], .null), (25, .iload_n 2, 1, [], .null), (26, .new 9, 3, [7, 254, 142, 79], .null), (29, .dup, 1, [], .null), (30, .aload_n 1, 1, [], .null), (31, .invokespecial 15, 3, [5, 7, 256], .null)],
  [(34, .aastore, 1, [4, 7, 0], .null), (35, .iinc 2 1, 3, [], .null), (38, .goto (-23), 3, [], .null), (41, .return_, 1, [], .null)]])
/-- LostBets$Letters.<init> -/
def zm_10 : zz_Mi := (⟨"LostBets$Letters", "<init>", "()V"⟩, prog_6_method_1_code, 1, none, 0, false, (1, 96, 1, 20), (272, 82, 271), [
  [(0, .aload_n 0, 1, [], .null), (1, .invokespecial 3, 3, [0, 273, 95, 96], .null), (4, .aload_n 0, 1, [], .null), (5, .bipush 96, 2, [], .null), (7, .newarray .int, 2, [105], .null), (9, .putfield 11, 3, [10, 0, 274, 2], .null), (12, .return_, 1, [], .null)]])
/-- LostBets$Twos.<init> -/
def zm_11 : zz_Mi := (⟨"LostBets$Twos", "<init>", "()V"⟩, prog_11_method_1_code, 1, none, 0, false, (2, 135, 1, 20), (286, 83, 285), [
  [(0, .aload_n 0, 1, [], .null), (1, .invokespecial 3, 3, [0, 287, 95, 96], .null), (4, .aload_n 0, 1, [], .null), (5, .bipush 7, 2, [], .null), (7, .newarray .int, 2, [105], .null), (9, .putfield 9, 3, [11, 0, 288, 2], .null), (12, .aload_n 0, 1, [], .null), (13, .sipush 128, 3, [], .null)],
  [(16, .newarray .int, 2, [105], .null), (18, .putfield 15, 3, [11, 1, 289, 2], .null), (21, .return_, 1, [], .null)]])
/-- LostBets.feed -/
def zm_12 : zz_Mi := (⟨"LostBets", "feed", "(I)I"⟩, prog_1_method_2_code, 2, some .int, 1, false, (0, 0, 1, 21), (332, 72, 330), [
  [(0, .iload_n 1, 1, [], .null), (1, .ifCond .ge 10, 3, [], .null), (4, .aload_n 0, 1, [], .null), (5, .bipush (-4), 2, [], .null), (7, .invokevirtual 70, 3, [1, 13, 0, 333, 0], .null), (10, .ireturn, 1, [], .null), (11, .iload_n 1, 1, [], .null), (12, .sipush 255, 3, [], .null), (15, .if_icmp .gt 13, 3, [], .null)],
  [(18, .aload_n 0, 1, [], .null), (19, .getfield 59, 3, [0, 5, 303], .null), (22, .invokevirtual 74, 3, [1, 14, 10, 337, 339], .null), (25, .ifCond .eq 10, 3, [], .null), (28, .aload_n 0, 1, [], .null), (29, .bipush (-6), 2, [], .null), (31, .invokevirtual 70, 3, [1, 13, 0, 333, 0], .null)],
  [(34, .ireturn, 1, [], .null), (35, .aload_n 0, 1, [], .null), (36, .getfield 59, 3, [0, 5, 303], .null), (39, .iload_n 1, 1, [], .null), (40, .invokevirtual 78, 3, [1, 15, 10, 341, 343], .null), (43, .aload_n 0, 1, [], .null), (44, .getfield 59, 3, [0, 5, 303], .null), (47, .getfield 82, 3, [10, 1, 276], .null)],
  [(50, .ireturn, 1, [], .null)]])
/-- LostBets.refused -/
def zm_13 : zz_Mi := (⟨"LostBets", "refused", "(I)I"⟩, prog_1_method_58_code, 2, some .int, 1, false, (0, 0, 0, 0), (336, 72, 335), [
  [(0, .aload_n 0, 1, [], .null), (1, .getfield 13, 3, [0, 9, 307], .null), (4, .iload_n 1, 1, [], .null), (5, .ineg, 1, [], .null), (6, .dup2, 1, [], .null), (7, .iaload, 1, [], .null), (8, .iconst 1, 1, [], .null), (9, .iadd, 1, [], .null), (10, .iastore, 1, [], .null), (11, .iload_n 1, 1, [], .null), (12, .ireturn, 1, [], .null)]])
/-- LostBets$Letters.isFull -/
def zm_14 : zz_Mi := (⟨"LostBets$Letters", "isFull", "()Z"⟩, prog_6_method_2_code, 1, some .boolean, 0, false, (0, 0, 0, 0), (340, 82, 338), [
  [(0, .aload_n 0, 1, [], .null), (1, .getfield 15, 3, [10, 1, 275], .null), (4, .bipush 96, 2, [], .null), (6, .if_icmp .lt 7, 3, [], .null), (9, .iconst 1, 1, [], .null), (10, .goto 4, 3, [], .null), (13, .iconst 0, 1, [], .null), (14, .ireturn, 1, [], .null)]])
/-- LostBets$Letters.add -/
def zm_15 : zz_Mi := (⟨"LostBets$Letters", "add", "(I)V"⟩, prog_6_method_3_code, 2, none, 1, false, (0, 0, 0, 0), (344, 82, 342), [
  [(0, .aload_n 0, 1, [], .null), (1, .getfield 11, 3, [10, 0, 274], .null), (4, .aload_n 0, 1, [], .null), (5, .getfield 15, 3, [10, 1, 275], .null), (8, .iload_n 1, 1, [], .null), (9, .iastore, 1, [], .null), (10, .aload_n 0, 1, [], .null), (11, .dup, 1, [], .null), (12, .getfield 15, 3, [10, 1, 275], .null), (15, .iconst 1, 1, [], .null)],
  [(16, .iadd, 1, [], .null), (17, .putfield 15, 3, [10, 1, 275, 0], .null), (20, .return_, 1, [], .null)]])
/-- LostBets.town -/
def zm_16 : zz_Mi := (⟨"LostBets", "town", "()I"⟩, prog_1_method_3_code, 5, some .int, 0, false, (0, 0, 6, 135), (348, 72, 346), [
  [(0, .aload_n 0, 1, [], .null), (1, .getfield 59, 3, [0, 5, 303], .null), (4, .invokevirtual 86, 3, [1, 17, 10, 349, 351], .null), (7, .istore_n 1, 1, [], .null), (8, .iload_n 1, 1, [], .null), (9, .ifCond .lt 16, 3, [], .null), (12, .aload_n 0, 1, [], .null), (13, .getfield 59, 3, [0, 5, 303], .null)],
  [(16, .invokevirtual 90, 3, [1, 22, 10, 367, 369], .null), (19, .sipush (-1000), 3, [], .null), (22, .iload_n 1, 1, [], .null), (23, .isub, 1, [], .null), (24, .ireturn, 1, [], .null), (25, .aload_n 0, 1, [], .null), (26, .getfield 43, 3, [0, 1, 299], .null), (29, .aload_n 0, 1, [], .null), (30, .getfield 39, 3, [0, 0, 298], .null)],
  [(33, .invokevirtual 93, 3, [1, 23, 7, 371, 373], .null), (36, .iconst 0, 1, [], .null), (37, .istore_n 2, 1, [], .null), (38, .iconst 0, 1, [], .null), (39, .istore_n 3, 1, [], .null), (40, .iload_n 3, 1, [], .null), (41, .aload_n 0, 1, [], .null), (42, .getfield 59, 3, [0, 5, 303], .null), (45, .getfield 82, 3, [10, 1, 276], .null)],
  [(48, .if_icmp .ge 33, 3, [], .null), (51, .aload_n 0, 1, [], .null), (52, .iload_n 3, 1, [], .null), (53, .invokevirtual 97, 3, [1, 26, 0, 385, 1], .null), (56, .ifCond .eq 25, 3, [], .null), (59, .iinc 2 1, 3, [], .null), (62, .iload_n 3, 1, [], .null), (63, .iconst 2, 1, [], .null)],
  [(64, .aload_n 0, 1, [], .null), (65, .getfield 59, 3, [0, 5, 303], .null), (68, .iload_n 3, 1, [], .null), (69, .invokevirtual 101, 3, [1, 18, 10, 390, 355], .null), (72, .invokestatic 104, 3, [3, 19, 582], .null), (75, .iadd, 1, [], .null), (76, .iadd, 1, [], .null), (77, .istore_n 3, 1, [], .null), (78, .goto (-38), 3, [], .null)],
  [(81, .iload_n 3, 1, [], .null), (82, .aload_n 0, 1, [], .null), (83, .getfield 59, 3, [0, 5, 303], .null), (86, .getfield 82, 3, [10, 1, 276], .null), (89, .if_icmp .lt 7, 3, [], .null), (92, .iconst 1, 1, [], .null), (93, .goto 4, 3, [], .null)],
  [(96, .iconst 0, 1, [], .null), (97, .istore 4, 2, [], .null), (99, .aload_n 0, 1, [], .null), (100, .getfield 59, 3, [0, 5, 303], .null), (103, .invokevirtual 90, 3, [1, 22, 10, 367, 369], .null), (106, .iload 4, 2, [], .null), (108, .ifCond .ne 9, 3, [], .null), (111, .sipush (-2000), 3, [], .null)],
  [(114, .iload_n 3, 1, [], .null), (115, .isub, 1, [], .null), (116, .ireturn, 1, [], .null), (117, .aload_n 0, 1, [], .null), (118, .getfield 39, 3, [0, 0, 298], .null), (121, .aload_n 0, 1, [], .null), (122, .getfield 43, 3, [0, 1, 299], .null), (125, .invokevirtual 93, 3, [1, 23, 7, 371, 373], .null)],
  [(128, .aload_n 0, 1, [], .null), (129, .getfield 52, 3, [0, 4, 302], .null), (132, .invokevirtual 107, 3, [1, 73, 9, 583, 585], .null), (135, .iload_n 2, 1, [], .null), (136, .ireturn, 1, [], .null)]])
/-- LostBets$Letters.firstBadPlace -/
def zm_17 : zz_Mi := (⟨"LostBets$Letters", "firstBadPlace", "()I"⟩, prog_6_method_8_code, 4, some .int, 0, false, (0, 0, 2, 42), (352, 82, 350), [
  [(0, .iconst 0, 1, [], .null), (1, .istore_n 1, 1, [], .null), (2, .aload_n 0, 1, [], .null), (3, .iload_n 1, 1, [], .null), (4, .invokevirtual 19, 3, [1, 18, 10, 353, 355], .null), (7, .invokestatic 23, 3, [3, 19, 357], .null), (10, .istore_n 2, 1, [], .null), (11, .iload_n 2, 1, [], .null), (12, .ifCond .ge 5, 3, [], .null), (15, .iload_n 1, 1, [], .null)],
  [(16, .ireturn, 1, [], .null), (17, .iinc 1 1, 3, [], .null), (20, .iconst 0, 1, [], .null), (21, .istore_n 3, 1, [], .null), (22, .iload_n 3, 1, [], .null), (23, .iload_n 2, 1, [], .null), (24, .if_icmp .ge 27, 3, [], .null), (27, .aload_n 0, 1, [], .null), (28, .iload_n 1, 1, [], .null), (29, .invokevirtual 26, 3, [1, 20, 10, 360, 362], .null)],
  [(32, .bipush 10, 2, [], .null), (34, .invokestatic 29, 3, [4, 21, 364], .null), (37, .ifCond .ne 5, 3, [], .null), (40, .iload_n 1, 1, [], .null), (41, .ireturn, 1, [], .null), (42, .iinc 1 1, 3, [], .null), (45, .iinc 3 1, 3, [], .null)],
  [(48, .goto (-26), 3, [], .null), (51, .aload_n 0, 1, [], .null), (52, .iload_n 1, 1, [], .null), (53, .invokevirtual 19, 3, [1, 18, 10, 353, 355], .null), (56, .bipush 59, 2, [], .null), (58, .if_icmp .eq 5, 3, [], .null), (61, .iload_n 1, 1, [], .null), (62, .ireturn, 1, [], .null), (63, .iinc 1 1, 3, [], .null)],
  [(66, .iload_n 1, 1, [], .null), (67, .aload_n 0, 1, [], .null), (68, .getfield 15, 3, [10, 1, 275], .null), (71, .if_icmp .lt (-69), 3, [], .null), (74, .bipush (-9), 2, [], .null), (76, .ireturn, 1, [], .null)]])
/-- LostBets$Letters.at -/
def zm_18 : zz_Mi := (⟨"LostBets$Letters", "at", "(I)I"⟩, prog_6_method_5_code, 2, some .int, 1, false, (0, 0, 0, 0), (356, 82, 354), [
  [(0, .iload_n 1, 1, [], .null), (1, .ifCond .lt 20, 3, [], .null), (4, .iload_n 1, 1, [], .null), (5, .aload_n 0, 1, [], .null), (6, .getfield 15, 3, [10, 1, 275], .null), (9, .if_icmp .ge 12, 3, [], .null), (12, .aload_n 0, 1, [], .null), (13, .getfield 11, 3, [10, 0, 274], .null)],
  [(16, .iload_n 1, 1, [], .null), (17, .iaload, 1, [], .null), (18, .goto 4, 3, [], .null), (21, .iconst (-1), 1, [], .null), (22, .ireturn, 1, [], .null)]])
/-- LostBets$Letters.digitsBehind -/
def zm_19 : zz_Mi := (⟨"LostBets$Letters", "digitsBehind", "(I)I"⟩, prog_6_method_7_code, 1, some .int, 1, true, (0, 0, 0, 0), (359, 82, 358), [
  [(0, .iload_n 0, 1, [], .null), (1, .lookupswitch 65 #[(97, 63), (98, 61), (100, 59), (101, 61), (112, 59), (119, 59)], 59, [], .null)],
  [],
  [],
  [(60, .iconst 2, 1, [], .null), (61, .ireturn, 1, [], .null), (62, .iconst 3, 1, [], .null), (63, .ireturn, 1, [], .null)],
  [(64, .iconst 5, 1, [], .null), (65, .ireturn, 1, [], .null), (66, .iconst (-1), 1, [], .null), (67, .ireturn, 1, [], .null)]])
/-- LostBets$Letters.digit -/
def zm_20 : zz_Mi := (⟨"LostBets$Letters", "digit", "(I)I"⟩, prog_6_method_6_code, 2, some .int, 1, false, (0, 0, 1, 21), (363, 82, 361), [
  [(0, .aload_n 0, 1, [], .null), (1, .iload_n 1, 1, [], .null), (2, .invokevirtual 19, 3, [1, 18, 10, 353, 355], .null), (5, .bipush 48, 2, [], .null), (7, .isub, 1, [], .null), (8, .ireturn, 1, [], .null)]])
/-- LostBets.isOneOf -/
def zm_21 : zz_Mi := (⟨"LostBets", "isOneOf", "(II)Z"⟩, prog_1_method_61_code, 2, some .boolean, 2, true, (0, 0, 0, 0), (366, 72, 365), [
  [(0, .iload_n 0, 1, [], .null), (1, .ifCond .lt 12, 3, [], .null), (4, .iload_n 0, 1, [], .null), (5, .iload_n 1, 1, [], .null), (6, .if_icmp .ge 7, 3, [], .null), (9, .iconst 1, 1, [], .null), (10, .goto 4, 3, [], .null), (13, .iconst 0, 1, [], .null), (14, .ireturn, 1, [], .null)]])
/-- LostBets$Letters.drop -/
def zm_22 : zz_Mi := (⟨"LostBets$Letters", "drop", "()V"⟩, prog_6_method_4_code, 1, none, 0, false, (0, 0, 0, 0), (370, 82, 368), [
  [(0, .aload_n 0, 1, [], .null), (1, .iconst 0, 1, [], .null), (2, .putfield 15, 3, [10, 1, 275, 0], .null), (5, .return_, 1, [], .null)]])
/-- LostBets$Town.copyFrom -/
def zm_23 : zz_Mi := (⟨"LostBets$Town", "copyFrom", "(LLostBets$Town;)V"⟩, prog_10_method_2_code, 3, none, 1, false, (0, 0, 2, 47), (374, 79, 372), [
  [(0, .aload_n 0, 1, [], .null), (1, .aload_n 1, 1, [], .null), (2, .getfield 58, 3, [7, 1, 184], .null), (5, .putfield 58, 3, [7, 1, 184, 0], .null), (8, .aload_n 0, 1, [], .null), (9, .aload_n 1, 1, [], .null), (10, .getfield 62, 3, [7, 14, 211], .null), (13, .putfield 62, 3, [7, 14, 211, 0], .null)],
  [(16, .aload_n 0, 1, [], .null), (17, .aload_n 1, 1, [], .null), (18, .getfield 65, 3, [7, 15, 213], .null), (21, .putfield 65, 3, [7, 15, 213, 0], .null), (24, .aload_n 1, 1, [], .null), (25, .getfield 9, 3, [7, 2, 187], .null), (28, .aload_n 0, 1, [], .null), (29, .getfield 9, 3, [7, 2, 187], .null)],
  [(32, .invokestatic 68, 3, [3, 24, 375], .null), (35, .aload_n 1, 1, [], .null), (36, .getfield 15, 3, [7, 3, 189], .null), (39, .aload_n 0, 1, [], .null), (40, .getfield 15, 3, [7, 3, 189], .null), (43, .invokestatic 68, 3, [3, 24, 375], .null), (46, .aload_n 1, 1, [], .null), (47, .getfield 18, 3, [7, 4, 191], .null)],
  [(50, .aload_n 0, 1, [], .null), (51, .getfield 18, 3, [7, 4, 191], .null), (54, .invokestatic 68, 3, [3, 24, 375], .null), (57, .aload_n 1, 1, [], .null), (58, .getfield 21, 3, [7, 5, 193], .null), (61, .aload_n 0, 1, [], .null), (62, .getfield 21, 3, [7, 5, 193], .null)],
  [(65, .invokestatic 68, 3, [3, 24, 375], .null), (68, .aload_n 1, 1, [], .null), (69, .getfield 24, 3, [7, 6, 195], .null), (72, .aload_n 0, 1, [], .null), (73, .getfield 24, 3, [7, 6, 195], .null), (76, .invokestatic 68, 3, [3, 24, 375], .null), (79, .aload_n 1, 1, [], .null)],
  [(80, .getfield 27, 3, [7, 7, 197], .null), (83, .aload_n 0, 1, [], .null), (84, .getfield 27, 3, [7, 7, 197], .null), (87, .invokestatic 68, 3, [3, 24, 375], .null), (90, .aload_n 1, 1, [], .null), (91, .getfield 30, 3, [7, 8, 199], .null), (94, .aload_n 0, 1, [], .null), (95, .getfield 30, 3, [7, 8, 199], .null)],
  [(98, .invokestatic 68, 3, [3, 24, 375], .null), (101, .aload_n 1, 1, [], .null), (102, .getfield 33, 3, [7, 9, 201], .null), (105, .aload_n 0, 1, [], .null), (106, .getfield 33, 3, [7, 9, 201], .null), (109, .invokestatic 68, 3, [3, 24, 375], .null)],
  [(112, .aload_n 1, 1, [], .null), (113, .getfield 41, 3, [7, 11, 205], .null), (116, .aload_n 0, 1, [], .null), (117, .getfield 41, 3, [7, 11, 205], .null), (120, .invokestatic 68, 3, [3, 24, 375], .null), (123, .aload_n 1, 1, [], .null), (124, .getfield 44, 3, [7, 12, 207], .null), (127, .aload_n 0, 1, [], .null)],
  [(128, .getfield 44, 3, [7, 12, 207], .null), (131, .invokestatic 68, 3, [3, 24, 375], .null), (134, .iconst 0, 1, [], .null), (135, .istore_n 2, 1, [], .null), (136, .iload_n 2, 1, [], .null), (137, .aload_n 0, 1, [], .null), (138, .getfield 58, 3, [7, 1, 184], .null), (141, .if_icmp .ge 24, 3, [], .null)],
  [(144, .aload_n 1, 1, [], .null), (145, .getfield 38, 3, [7, 10, 203], .null), (148, .iload_n 2, 1, [], .null), (149, .aaload, 1, [], .null), (150, .aload_n 0, 1, [], .null), (151, .getfield 38, 3, [7, 10, 203], .null), (154, .iload_n 2, 1, [], .null), (155, .aaload, 1, [], .null), (156, .invokestatic 68, 3, [3, 24, 375], .null), (159, .iinc 2 1, 3, [], .null)],
  [(162, .goto (-26), 3, [], .null), (165, .iconst 0, 1, [], .null), (166, .istore_n 2, 1, [], .null), (167, .iload_n 2, 1, [], .null), (168, .aload_n 0, 1, [], .null), (169, .getfield 62, 3, [7, 14, 211], .null), (172, .if_icmp .ge 24, 3, [], .null), (175, .aload_n 0, 1, [], .null)],
  [(176, .getfield 49, 3, [7, 13, 209], .null), (179, .iload_n 2, 1, [], .null), (180, .aaload, 1, [], .null), (181, .aload_n 1, 1, [], .null), (182, .getfield 49, 3, [7, 13, 209], .null), (185, .iload_n 2, 1, [], .null), (186, .aaload, 1, [], .null), (187, .invokevirtual 72, 3, [1, 25, 8, 381, 383], .null), (190, .iinc 2 1, 3, [], .null)],
  [(193, .goto (-26), 3, [], .null), (196, .return_, 1, [], .null)]])
/-- LostBets$Town.copy -/
def zm_24 : zz_Mi := (⟨"LostBets$Town", "copy", "([I[I)V"⟩, prog_10_method_3_code, 2, none, 2, true, (0, 0, 1, 26), (377, 79, 376), [
  [(0, .aload_n 0, 1, [], .null), (1, .iconst 0, 1, [], .null), (2, .aload_n 1, 1, [], .null), (3, .iconst 0, 1, [], .null), (4, .aload_n 1, 1, [], .null), (5, .arraylength, 1, [], .null), (6, .invokestatic 76, 3, [12, 378, 380, 379, 85], .null), (9, .return_, 1, [], .null)]])
/-- LostBets$Wager.beLike -/
def zm_25 : zz_Mi := (⟨"LostBets$Wager", "beLike", "(LLostBets$Wager;)V"⟩, prog_12_method_2_code, 2, none, 1, false, (0, 0, 0, 0), (384, 80, 382), [
  [(0, .aload_n 0, 1, [], .null), (1, .aload_n 1, 1, [], .null), (2, .getfield 7, 3, [8, 0, 156], .null), (5, .putfield 7, 3, [8, 0, 156, 0], .null), (8, .aload_n 0, 1, [], .null), (9, .aload_n 1, 1, [], .null), (10, .getfield 13, 3, [8, 1, 159], .null), (13, .putfield 13, 3, [8, 1, 159, 0], .null)],
  [(16, .aload_n 0, 1, [], .null), (17, .aload_n 1, 1, [], .null), (18, .getfield 16, 3, [8, 2, 162], .null), (21, .putfield 16, 3, [8, 2, 162, 0], .null), (24, .aload_n 0, 1, [], .null), (25, .aload_n 1, 1, [], .null), (26, .getfield 19, 3, [8, 3, 165], .null), (29, .putfield 19, 3, [8, 3, 165, 0], .null)],
  [(32, .aload_n 0, 1, [], .null), (33, .aload_n 1, 1, [], .null), (34, .getfield 22, 3, [8, 4, 168], .null), (37, .putfield 22, 3, [8, 4, 168, 0], .null), (40, .return_, 1, [], .null)]])
/-- LostBets.tellInMind -/
def zm_26 : zz_Mi := (⟨"LostBets", "tellInMind", "(I)Z"⟩, prog_1_method_4_code, 7, some .boolean, 1, false, (0, 0, 5, 109), (388, 72, 387), [
  [(0, .aload_n 0, 1, [], .null), (1, .getfield 59, 3, [0, 5, 303], .null), (4, .iload_n 1, 1, [], .null), (5, .iconst 1, 1, [], .null), (6, .iadd, 1, [], .null), (7, .invokevirtual 110, 3, [1, 20, 10, 389, 362], .null), (10, .istore_n 2, 1, [], .null), (11, .aload_n 0, 1, [], .null), (12, .getfield 59, 3, [0, 5, 303], .null), (15, .iload_n 1, 1, [], .null)],
  [(16, .iconst 2, 1, [], .null), (17, .iadd, 1, [], .null), (18, .invokevirtual 110, 3, [1, 20, 10, 389, 362], .null), (21, .istore_n 3, 1, [], .null), (22, .aload_n 0, 1, [], .null), (23, .getfield 59, 3, [0, 5, 303], .null), (26, .iload_n 1, 1, [], .null), (27, .iconst 3, 1, [], .null), (28, .iadd, 1, [], .null), (29, .invokevirtual 110, 3, [1, 20, 10, 389, 362], .null)],
  [(32, .istore 4, 2, [], .null), (34, .aload_n 0, 1, [], .null), (35, .getfield 59, 3, [0, 5, 303], .null), (38, .iload_n 1, 1, [], .null), (39, .iconst 4, 1, [], .null), (40, .iadd, 1, [], .null), (41, .invokevirtual 110, 3, [1, 20, 10, 389, 362], .null), (44, .istore 5, 2, [], .null), (46, .aload_n 0, 1, [], .null), (47, .getfield 59, 3, [0, 5, 303], .null)],
  [(50, .iload_n 1, 1, [], .null), (51, .iconst 5, 1, [], .null), (52, .iadd, 1, [], .null), (53, .invokevirtual 110, 3, [1, 20, 10, 389, 362], .null), (56, .istore 6, 2, [], .null), (58, .aload_n 0, 1, [], .null), (59, .getfield 59, 3, [0, 5, 303], .null), (62, .iload_n 1, 1, [], .null), (63, .invokevirtual 101, 3, [1, 18, 10, 390, 355], .null)],
  [(66, .lookupswitch 239 #[(97, 169), (98, 138), (100, 206), (101, 109), (112, 58), (119, 83)], 58, [], .null)],
  [],
  [],
  [(124, .aload_n 0, 1, [], .null), (125, .getfield 43, 3, [0, 1, 299], .null)],
  [(128, .iload_n 2, 1, [], .null), (129, .iload_n 3, 1, [], .null), (130, .invokevirtual 113, 3, [1, 27, 7, 391, 393], .null), (133, .ifCond .eq 5, 3, [], .null), (136, .iconst 0, 1, [], .null), (137, .ireturn, 1, [], .null), (138, .aload_n 0, 1, [], .null), (139, .getfield 43, 3, [0, 1, 299], .null), (142, .iload_n 2, 1, [], .null), (143, .iload_n 3, 1, [], .null)],
  [(144, .invokevirtual 117, 3, [1, 28, 7, 396, 398], .null), (147, .iconst 1, 1, [], .null), (148, .ireturn, 1, [], .null), (149, .aload_n 0, 1, [], .null), (150, .getfield 43, 3, [0, 1, 299], .null), (153, .iload_n 2, 1, [], .null), (154, .iload_n 3, 1, [], .null), (155, .invokevirtual 121, 3, [1, 48, 7, 477, 479], .null), (158, .ifCond .eq 5, 3, [], .null)],
  [(161, .iconst 0, 1, [], .null), (162, .ireturn, 1, [], .null), (163, .aload_n 0, 1, [], .null), (164, .getfield 43, 3, [0, 1, 299], .null), (167, .getfield 124, 3, [7, 7, 198], .null), (170, .iload_n 2, 1, [], .null), (171, .iload_n 3, 1, [], .null), (172, .iastore, 1, [], .null), (173, .iconst 1, 1, [], .null), (174, .ireturn, 1, [], .null), (175, .aload_n 0, 1, [], .null)],
  [(176, .getfield 43, 3, [0, 1, 299], .null), (179, .iload_n 2, 1, [], .null), (180, .iload_n 3, 1, [], .null), (181, .iload 4, 2, [], .null), (183, .invokevirtual 127, 3, [1, 50, 7, 485, 487], .null), (186, .ifCond .eq 5, 3, [], .null), (189, .iconst 0, 1, [], .null), (190, .ireturn, 1, [], .null), (191, .aload_n 0, 1, [], .null)],
  [(192, .getfield 43, 3, [0, 1, 299], .null), (195, .iload_n 2, 1, [], .null), (196, .iload_n 3, 1, [], .null), (197, .iload 4, 2, [], .null), (199, .invokevirtual 131, 3, [1, 52, 7, 493, 495], .null), (202, .iconst 1, 1, [], .null), (203, .ireturn, 1, [], .null), (204, .aload_n 0, 1, [], .null), (205, .getfield 43, 3, [0, 1, 299], .null)],
  [(208, .iload_n 2, 1, [], .null), (209, .iload_n 3, 1, [], .null), (210, .iload 4, 2, [], .null), (212, .invokevirtual 135, 3, [1, 53, 7, 497, 499], .null), (215, .ifCond .eq 5, 3, [], .null), (218, .iconst 0, 1, [], .null), (219, .ireturn, 1, [], .null), (220, .aload_n 0, 1, [], .null), (221, .getfield 43, 3, [0, 1, 299], .null)],
  [(224, .getfield 138, 3, [7, 10, 204], .null), (227, .iload_n 2, 1, [], .null), (228, .aaload, 1, [], .null), (229, .iload_n 3, 1, [], .null), (230, .iload 4, 2, [], .null), (232, .iastore, 1, [], .null), (233, .iconst 1, 1, [], .null), (234, .ireturn, 1, [], .null), (235, .aload_n 0, 1, [], .null), (236, .getfield 43, 3, [0, 1, 299], .null), (239, .iload_n 2, 1, [], .null)],
  [(240, .iload_n 3, 1, [], .null), (241, .iload 4, 2, [], .null), (243, .iload 5, 2, [], .null), (245, .iload 6, 2, [], .null), (247, .invokevirtual 142, 3, [1, 54, 7, 501, 503], .null), (250, .ifCond .eq 5, 3, [], .null), (253, .iconst 0, 1, [], .null), (254, .ireturn, 1, [], .null), (255, .aload_n 0, 1, [], .null)],
  [(256, .getfield 43, 3, [0, 1, 299], .null), (259, .iload_n 2, 1, [], .null), (260, .iload_n 3, 1, [], .null), (261, .iload 4, 2, [], .null), (263, .iload 5, 2, [], .null), (265, .iload 6, 2, [], .null), (267, .invokevirtual 146, 3, [1, 62, 7, 533, 535], .null), (270, .iconst 1, 1, [], .null), (271, .ireturn, 1, [], .null)],
  [(272, .aload_n 0, 1, [], .null), (273, .getfield 43, 3, [0, 1, 299], .null), (276, .bipush 10, 2, [], .null), (278, .iload_n 2, 1, [], .null), (279, .imul, 1, [], .null), (280, .iload_n 3, 1, [], .null), (281, .iadd, 1, [], .null), (282, .invokevirtual 150, 3, [1, 63, 7, 537, 539], .null), (285, .ifCond .eq 5, 3, [], .null)],
  [(288, .iconst 0, 1, [], .null), (289, .ireturn, 1, [], .null), (290, .aload_n 0, 1, [], .null), (291, .getfield 43, 3, [0, 1, 299], .null), (294, .bipush 10, 2, [], .null), (296, .iload_n 2, 1, [], .null), (297, .imul, 1, [], .null), (298, .iload_n 3, 1, [], .null), (299, .iadd, 1, [], .null), (300, .invokevirtual 153, 3, [1, 64, 7, 541, 543], .null), (303, .iconst 1, 1, [], .null)],
  [(304, .ireturn, 1, [], .null), (305, .iconst 0, 1, [], .null), (306, .ireturn, 1, [], .null)]])
/-- LostBets$Town.refusalToCome -/
def zm_27 : zz_Mi := (⟨"LostBets$Town", "refusalToCome", "(II)I"⟩, prog_10_method_6_code, 3, some .int, 2, false, (0, 0, 1, 21), (394, 79, 392), [
  [(0, .iload_n 1, 1, [], .null), (1, .aload_n 0, 1, [], .null), (2, .getfield 53, 3, [7, 0, 182], .null), (5, .arraylength, 1, [], .null), (6, .invokestatic 86, 3, [4, 21, 395], .null), (9, .ifCond .ne 6, 3, [], .null), (12, .bipush (-2), 2, [], .null), (14, .ireturn, 1, [], .null), (15, .iload_n 2, 1, [], .null)],
  [(16, .ifCond .ge 6, 3, [], .null), (19, .bipush (-4), 2, [], .null), (21, .ireturn, 1, [], .null), (22, .iload_n 2, 1, [], .null), (23, .bipush 10, 2, [], .null), (25, .if_icmp .ge 12, 3, [], .null), (28, .aload_n 0, 1, [], .null), (29, .getfield 58, 3, [7, 1, 184], .null)],
  [(32, .bipush 7, 2, [], .null), (34, .if_icmp .lt 8, 3, [], .null), (37, .bipush (-6), 2, [], .null), (39, .goto 4, 3, [], .null), (42, .iconst 0, 1, [], .null), (43, .ireturn, 1, [], .null)]])
/-- LostBets$Town.come -/
def zm_28 : zz_Mi := (⟨"LostBets$Town", "come", "(II)V"⟩, prog_10_method_7_code, 3, none, 2, false, (0, 0, 4, 86), (399, 79, 397), [
  [(0, .aload_n 0, 1, [], .null), (1, .aload_n 0, 1, [], .null), (2, .getfield 58, 3, [7, 1, 184], .null), (5, .iload_n 1, 1, [], .null), (6, .iload_n 2, 1, [], .null), (7, .invokevirtual 90, 3, [1, 29, 7, 400, 402], .null), (10, .aload_n 0, 1, [], .null), (11, .getfield 27, 3, [7, 7, 197], .null), (14, .aload_n 0, 1, [], .null), (15, .getfield 58, 3, [7, 1, 184], .null)],
  [(18, .aload_n 0, 1, [], .null), (19, .getfield 58, 3, [7, 1, 184], .null), (22, .iastore, 1, [], .null), (23, .aload_n 0, 1, [], .null), (24, .getfield 30, 3, [7, 8, 199], .null), (27, .aload_n 0, 1, [], .null), (28, .getfield 58, 3, [7, 1, 184], .null), (31, .iconst 0, 1, [], .null)],
  [(32, .iastore, 1, [], .null), (33, .aload_n 0, 1, [], .null), (34, .getfield 33, 3, [7, 9, 201], .null), (37, .aload_n 0, 1, [], .null), (38, .getfield 58, 3, [7, 1, 184], .null), (41, .bipush (-9), 2, [], .null), (43, .iastore, 1, [], .null), (44, .aload_n 0, 1, [], .null), (45, .getfield 38, 3, [7, 10, 203], .null)],
  [(48, .aload_n 0, 1, [], .null), (49, .getfield 58, 3, [7, 1, 184], .null), (52, .aaload, 1, [], .null), (53, .iconst 5, 1, [], .null), (54, .invokestatic 94, 3, [3, 47, 474], .null), (57, .aload_n 0, 1, [], .null), (58, .dup, 1, [], .null), (59, .getfield 58, 3, [7, 1, 184], .null), (62, .iconst 1, 1, [], .null), (63, .iadd, 1, [], .null)],
  [(64, .putfield 58, 3, [7, 1, 184, 0], .null), (67, .return_, 1, [], .null)]])
/-- LostBets$Town.become -/
def zm_29 : zz_Mi := (⟨"LostBets$Town", "become", "(III)V"⟩, prog_10_method_8_code, 4, none, 3, false, (0, 0, 3, 63), (403, 79, 401), [
  [(0, .aload_n 0, 1, [], .null), (1, .getfield 9, 3, [7, 2, 187], .null), (4, .iload_n 1, 1, [], .null), (5, .iload_n 2, 1, [], .null), (6, .iastore, 1, [], .null), (7, .aload_n 0, 1, [], .null), (8, .getfield 15, 3, [7, 3, 189], .null), (11, .iload_n 1, 1, [], .null), (12, .iload_n 3, 1, [], .null), (13, .iastore, 1, [], .null), (14, .aload_n 0, 1, [], .null), (15, .getfield 18, 3, [7, 4, 191], .null)],
  [(18, .iload_n 1, 1, [], .null), (19, .aload_n 0, 1, [], .null), (20, .getfield 53, 3, [7, 0, 182], .null), (23, .iload_n 2, 1, [], .null), (24, .aaload, 1, [], .null), (25, .iload_n 3, 1, [], .null), (26, .invokevirtual 100, 3, [8, 35, 404, 407, 1, 35, 406, 2, 30, 408, 4, 31, 412, 3, 32, 415, 6, 33, 418, 5, 34, 422], .null), (29, .iastore, 1, [], .null), (30, .aload_n 0, 1, [], .null), (31, .getfield 21, 3, [7, 5, 193], .null)],
  [(34, .iload_n 1, 1, [], .null), (35, .aload_n 0, 1, [], .null), (36, .getfield 53, 3, [7, 0, 182], .null), (39, .iload_n 2, 1, [], .null), (40, .aaload, 1, [], .null), (41, .iload_n 3, 1, [], .null), (42, .invokevirtual 105, 3, [8, 41, 427, 430, 1, 41, 429, 2, 36, 431, 4, 37, 435, 3, 38, 438, 6, 39, 442, 5, 40, 446], .null), (45, .iastore, 1, [], .null), (46, .aload_n 0, 1, [], .null), (47, .getfield 24, 3, [7, 6, 195], .null)],
  [(50, .iload_n 1, 1, [], .null), (51, .aload_n 0, 1, [], .null), (52, .getfield 53, 3, [7, 0, 182], .null), (55, .iload_n 2, 1, [], .null), (56, .aaload, 1, [], .null), (57, .invokevirtual 107, 3, [8, 46, 451, 454, 1, 46, 453, 2, 42, 455, 4, 46, 458, 3, 43, 459, 6, 44, 463, 5, 45, 469], .null), (60, .iastore, 1, [], .null), (61, .return_, 1, [], .null)]])
/-- LostBets$Aunt.asks -/
def zm_30 : zz_Mi := (⟨"LostBets$Aunt", "asks", "(I)I"⟩, prog_2_method_2_code, 2, some .int, 1, false, (0, 0, 1, 21), (410, 74, 409), [
  [(0, .aload_n 0, 1, [], .null), (1, .iload_n 1, 1, [], .null), (2, .invokespecial 7, 3, [7, 35, 411, 407, 112], .null), (5, .iconst 1, 1, [], .null), (6, .iadd, 1, [], .null), (7, .ireturn, 1, [], .null)]])
/-- LostBets$Gambler.asks -/
def zm_31 : zz_Mi := (⟨"LostBets$Gambler", "asks", "(I)I"⟩, prog_3_method_2_code, 2, some .int, 1, false, (0, 0, 0, 0), (414, 76, 413), [
  [(0, .iconst 0, 1, [], .null), (1, .ireturn, 1, [], .null)]])
/-- LostBets$Girl.asks -/
def zm_32 : zz_Mi := (⟨"LostBets$Girl", "asks", "(I)I"⟩, prog_4_method_2_code, 2, some .int, 1, false, (0, 0, 0, 0), (417, 75, 416), [
  [(0, .iload_n 1, 1, [], .null), (1, .ireturn, 1, [], .null)]])
/-- LostBets$Honest.asks -/
def zm_33 : zz_Mi := (⟨"LostBets$Honest", "asks", "(I)I"⟩, prog_5_method_2_code, 2, some .int, 1, false, (0, 0, 1, 21), (420, 78, 419), [
  [(0, .aload_n 0, 1, [], .null), (1, .iload_n 1, 1, [], .null), (2, .invokespecial 7, 3, [7, 31, 421, 1463, 140], .null), (5, .iconst 3, 1, [], .null), (6, .iadd, 1, [], .null), (7, .ireturn, 1, [], .null)]])
/-- LostBets$Rich.asks -/
def zm_34 : zz_Mi := (⟨"LostBets$Rich", "asks", "(I)I"⟩, prog_8_method_2_code, 2, some .int, 1, false, (0, 0, 2, 42), (424, 77, 423), [
  [(0, .aload_n 0, 1, [], .null), (1, .iload_n 1, 1, [], .null), (2, .invokespecial 7, 3, [7, 30, 425, 1464, 133], .null), (5, .iload_n 1, 1, [], .null), (6, .iconst 3, 1, [], .null), (7, .idiv, 1, [], .null), (8, .iadd, 1, [], .null), (9, .ireturn, 1, [], .null)]])
/-- LostBets$Suitor.asks -/
def zm_35 : zz_Mi := (⟨"LostBets$Suitor", "asks", "(I)I"⟩, prog_9_method_2_code, 2, some .int, 1, false, (0, 0, 0, 0), (426, 73, 405), [
  [(0, .iconst 5, 1, [], .null), (1, .ireturn, 1, [], .null)]])
/-- LostBets$Aunt.weeps -/
def zm_36 : zz_Mi := (⟨"LostBets$Aunt", "weeps", "(I)I"⟩, prog_2_method_3_code, 2, some .int, 1, false, (0, 0, 1, 21), (433, 74, 432), [
  [(0, .aload_n 0, 1, [], .null), (1, .iload_n 1, 1, [], .null), (2, .invokespecial 11, 3, [7, 41, 434, 430, 112], .null), (5, .iconst 3, 1, [], .null), (6, .isub, 1, [], .null), (7, .ireturn, 1, [], .null)]])
/-- LostBets$Gambler.weeps -/
def zm_37 : zz_Mi := (⟨"LostBets$Gambler", "weeps", "(I)I"⟩, prog_3_method_3_code, 2, some .int, 1, false, (0, 0, 0, 0), (437, 76, 436), [
  [(0, .iconst 0, 1, [], .null), (1, .ireturn, 1, [], .null)]])
/-- LostBets$Girl.weeps -/
def zm_38 : zz_Mi := (⟨"LostBets$Girl", "weeps", "(I)I"⟩, prog_4_method_3_code, 2, some .int, 1, false, (0, 0, 1, 21), (440, 75, 439), [
  [(0, .iconst 2, 1, [], .null), (1, .aload_n 0, 1, [], .null), (2, .iload_n 1, 1, [], .null), (3, .invokespecial 7, 3, [7, 41, 441, 430, 119], .null), (6, .imul, 1, [], .null), (7, .ireturn, 1, [], .null)]])
/-- LostBets$Honest.weeps -/
def zm_39 : zz_Mi := (⟨"LostBets$Honest", "weeps", "(I)I"⟩, prog_5_method_3_code, 2, some .int, 1, false, (0, 0, 1, 21), (444, 78, 443), [
  [(0, .aload_n 0, 1, [], .null), (1, .iload_n 1, 1, [], .null), (2, .invokespecial 11, 3, [7, 37, 445, 1465, 140], .null), (5, .iload_n 1, 1, [], .null), (6, .iadd, 1, [], .null), (7, .ireturn, 1, [], .null)]])
/-- LostBets$Rich.weeps -/
def zm_40 : zz_Mi := (⟨"LostBets$Rich", "weeps", "(I)I"⟩, prog_8_method_3_code, 2, some .int, 1, false, (0, 0, 2, 42), (448, 77, 447), [
  [(0, .aload_n 0, 1, [], .null), (1, .iload_n 1, 1, [], .null), (2, .invokespecial 11, 3, [7, 36, 449, 1466, 133], .null), (5, .iconst 1, 1, [], .null), (6, .iadd, 1, [], .null), (7, .ireturn, 1, [], .null)]])
/-- LostBets$Suitor.weeps -/
def zm_41 : zz_Mi := (⟨"LostBets$Suitor", "weeps", "(I)I"⟩, prog_9_method_3_code, 2, some .int, 1, false, (0, 0, 0, 0), (450, 73, 428), [
  [(0, .iconst 5, 1, [], .null), (1, .ireturn, 1, [], .null)]])
/-- LostBets$Aunt.learns -/
def zm_42 : zz_Mi := (⟨"LostBets$Aunt", "learns", "()I"⟩, prog_2_method_4_code, 1, some .int, 0, false, (0, 0, 0, 0), (457, 74, 456), [
  [(0, .iconst 0, 1, [], .null), (1, .ireturn, 1, [], .null)]])
/-- LostBets$Girl.learns -/
def zm_43 : zz_Mi := (⟨"LostBets$Girl", "learns", "()I"⟩, prog_4_method_4_code, 1, some .int, 0, false, (0, 0, 1, 20), (461, 75, 460), [
  [(0, .aload_n 0, 1, [], .null), (1, .invokespecial 11, 3, [7, 46, 462, 454, 119], .null), (4, .iconst 1, 1, [], .null), (5, .iadd, 1, [], .null), (6, .ireturn, 1, [], .null)]])
/-- LostBets$Honest.learns -/
def zm_44 : zz_Mi := (⟨"LostBets$Honest", "learns", "()I"⟩, prog_5_method_4_code, 1, some .int, 0, false, (0, 0, 1, 20), (465, 78, 464), [
  [(0, .aload_n 0, 1, [], .null), (1, .invokespecial 14, 3, [9, 46, 4, 466, 467, 140, 126], .null), (4, .iconst 2, 1, [], .null), (5, .iadd, 1, [], .null), (6, .ireturn, 1, [], .null)]])
/-- LostBets$Rich.learns -/
def zm_45 : zz_Mi := (⟨"LostBets$Rich", "learns", "()I"⟩, prog_8_method_4_code, 1, some .int, 0, false, (0, 0, 1, 20), (471, 77, 470), [
  [(0, .aload_n 0, 1, [], .null), (1, .invokespecial 14, 3, [7, 42, 472, 1467, 133], .null), (4, .iconst 1, 1, [], .null), (5, .iadd, 1, [], .null), (6, .ireturn, 1, [], .null)]])
/-- LostBets$Suitor.learns -/
def zm_46 : zz_Mi := (⟨"LostBets$Suitor", "learns", "()I"⟩, prog_9_method_4_code, 1, some .int, 0, false, (0, 0, 0, 0), (473, 73, 452), [
  [(0, .iconst 1, 1, [], .null), (1, .ireturn, 1, [], .null)]])
/-- java/util/Arrays.fill -/
def zm_47 : zz_Mi := (⟨"java/util/Arrays", "fill", "([II)V"⟩, prog_18_method_103_code, 4, none, 2, true, (0, 0, 0, 0), (476, 86, 475), [
  [(0, .iconst 0, 1, [], .null), (1, .istore_n 2, 1, [], .null), (2, .aload_n 0, 1, [], .null), (3, .arraylength, 1, [], .null), (4, .istore_n 3, 1, [], .null), (5, .iload_n 2, 1, [], .null), (6, .iload_n 3, 1, [], .null), (7, .if_icmp .ge 13, 3, [], .null), (10, .aload_n 0, 1, [], .null), (11, .iload_n 2, 1, [], .null), (12, .iload_n 1, 1, [], .null), (13, .iastore, 1, [], .null), (14, .iinc 2 1, 3, [], .null)],
  [(17, .goto (-12), 3, [], .null), (20, .return_, 1, [], .null)]])
/-- LostBets$Town.refusalToWish -/
def zm_48 : zz_Mi := (⟨"LostBets$Town", "refusalToWish", "(II)I"⟩, prog_10_method_9_code, 3, some .int, 2, false, (0, 0, 1, 21), (480, 79, 478), [
  [(0, .aload_n 0, 1, [], .null), (1, .iload_n 1, 1, [], .null), (2, .invokevirtual 82, 3, [1, 49, 7, 481, 483], .null), (5, .ifCond .eq 16, 3, [], .null), (8, .iload_n 2, 1, [], .null), (9, .bipush 7, 2, [], .null), (11, .invokestatic 86, 3, [4, 21, 395], .null), (14, .ifCond .eq 7, 3, [], .null)],
  [(17, .iconst 0, 1, [], .null), (18, .goto 4, 3, [], .null), (21, .iconst (-1), 1, [], .null), (22, .ireturn, 1, [], .null)]])
/-- LostBets$Town.has -/
def zm_49 : zz_Mi := (⟨"LostBets$Town", "has", "(I)Z"⟩, prog_10_method_4_code, 2, some .boolean, 1, false, (0, 0, 0, 0), (484, 79, 482), [
  [(0, .iload_n 1, 1, [], .null), (1, .ifCond .lt 15, 3, [], .null), (4, .iload_n 1, 1, [], .null), (5, .aload_n 0, 1, [], .null), (6, .getfield 58, 3, [7, 1, 184], .null), (9, .if_icmp .ge 7, 3, [], .null), (12, .iconst 1, 1, [], .null), (13, .goto 4, 3, [], .null)],
  [(16, .iconst 0, 1, [], .null), (17, .ireturn, 1, [], .null)]])
/-- LostBets$Town.refusalToSet -/
def zm_50 : zz_Mi := (⟨"LostBets$Town", "refusalToSet", "(III)I"⟩, prog_10_method_11_code, 4, some .int, 3, false, (0, 0, 2, 41), (488, 79, 486), [
  [(0, .iload_n 1, 1, [], .null), (1, .invokestatic 110, 3, [4, 51, 489], .null), (4, .ifCond .ne 5, 3, [], .null), (7, .iconst (-1), 1, [], .null), (8, .ireturn, 1, [], .null), (9, .iload_n 2, 1, [], .null), (10, .iconst 1, 1, [], .null), (11, .if_icmp .lt 7, 3, [], .null), (14, .iload_n 3, 1, [], .null), (15, .ifCond .ge 6, 3, [], .null)],
  [(18, .bipush (-4), 2, [], .null), (20, .ireturn, 1, [], .null), (21, .iload_n 2, 1, [], .null), (22, .bipush 9, 2, [], .null), (24, .if_icmp .gt 9, 3, [], .null), (27, .iload_n 3, 1, [], .null), (28, .bipush 8, 2, [], .null), (30, .if_icmp .le 8, 3, [], .null)],
  [(33, .bipush (-6), 2, [], .null), (35, .goto 4, 3, [], .null), (38, .iconst 0, 1, [], .null), (39, .ireturn, 1, [], .null)]])
/-- LostBets.isEvent -/
def zm_51 : zz_Mi := (⟨"LostBets", "isEvent", "(I)Z"⟩, prog_1_method_60_code, 1, some .boolean, 1, true, (0, 0, 1, 21), (491, 72, 490), [
  [(0, .iload_n 0, 1, [], .null), (1, .iconst 5, 1, [], .null), (2, .invokestatic 246, 3, [3, 21, 492], .null), (5, .ireturn, 1, [], .null)]])
/-- LostBets$Town.set -/
def zm_52 : zz_Mi := (⟨"LostBets$Town", "set", "(III)V"⟩, prog_10_method_12_code, 4, none, 3, false, (0, 0, 0, 0), (496, 79, 494), [
  [(0, .aload_n 0, 1, [], .null), (1, .getfield 41, 3, [7, 11, 205], .null), (4, .iload_n 1, 1, [], .null), (5, .iload_n 2, 1, [], .null), (6, .iastore, 1, [], .null), (7, .aload_n 0, 1, [], .null), (8, .getfield 44, 3, [7, 12, 207], .null), (11, .iload_n 1, 1, [], .null), (12, .iload_n 3, 1, [], .null), (13, .iastore, 1, [], .null), (14, .return_, 1, [], .null)]])
/-- LostBets$Town.refusalToBelieve -/
def zm_53 : zz_Mi := (⟨"LostBets$Town", "refusalToBelieve", "(III)I"⟩, prog_10_method_10_code, 4, some .int, 3, false, (0, 0, 2, 41), (500, 79, 498), [
  [(0, .aload_n 0, 1, [], .null), (1, .iload_n 1, 1, [], .null), (2, .invokevirtual 82, 3, [1, 49, 7, 481, 483], .null), (5, .ifCond .eq 10, 3, [], .null), (8, .iload_n 2, 1, [], .null), (9, .invokestatic 110, 3, [4, 51, 489], .null), (12, .ifCond .ne 5, 3, [], .null), (15, .iconst (-1), 1, [], .null)],
  [(16, .ireturn, 1, [], .null), (17, .iload_n 3, 1, [], .null), (18, .ifCond .ge 6, 3, [], .null), (21, .bipush (-4), 2, [], .null), (23, .ireturn, 1, [], .null), (24, .iload_n 3, 1, [], .null), (25, .bipush 9, 2, [], .null), (27, .if_icmp .le 8, 3, [], .null), (30, .bipush (-6), 2, [], .null)],
  [(32, .goto 4, 3, [], .null), (35, .iconst 0, 1, [], .null), (36, .ireturn, 1, [], .null)]])
/-- LostBets$Town.refusalToPropose -/
def zm_54 : zz_Mi := (⟨"LostBets$Town", "refusalToPropose", "(IIIII)I"⟩, prog_10_method_13_code, 6, some .int, 5, false, (0, 0, 3, 71), (504, 79, 502), [
  [(0, .aload_n 0, 1, [], .null), (1, .iload_n 1, 1, [], .null), (2, .iload_n 2, 1, [], .null), (3, .invokevirtual 113, 3, [1, 55, 7, 505, 507], .null), (6, .ifCond .eq 10, 3, [], .null), (9, .iload_n 3, 1, [], .null), (10, .invokestatic 110, 3, [4, 51, 489], .null), (13, .ifCond .ne 5, 3, [], .null)],
  [(16, .iconst (-1), 1, [], .null), (17, .ireturn, 1, [], .null), (18, .iload 4, 2, [], .null), (20, .iconst 2, 1, [], .null), (21, .invokestatic 86, 3, [4, 21, 395], .null), (24, .ifCond .ne 6, 3, [], .null), (27, .bipush (-2), 2, [], .null), (29, .ireturn, 1, [], .null), (30, .iload 5, 2, [], .null)],
  [(32, .iconst 1, 1, [], .null), (33, .if_icmp .ge 6, 3, [], .null), (36, .bipush (-4), 2, [], .null), (38, .ireturn, 1, [], .null), (39, .iload 5, 2, [], .null), (41, .bipush 9, 2, [], .null), (43, .if_icmp .le 6, 3, [], .null), (46, .bipush (-6), 2, [], .null)],
  [(48, .ireturn, 1, [], .null), (49, .aload_n 0, 1, [], .null), (50, .getfield 62, 3, [7, 14, 211], .null), (53, .iconst 3, 1, [], .null), (54, .if_icmp .ge 19, 3, [], .null), (57, .aload_n 0, 1, [], .null), (58, .iload_n 1, 1, [], .null), (59, .iload_n 2, 1, [], .null), (60, .iload_n 3, 1, [], .null), (61, .iload 4, 2, [], .null), (63, .invokevirtual 116, 3, [1, 56, 7, 509, 511], .null)],
  [(66, .ifCond .eq 7, 3, [], .null), (69, .iconst 0, 1, [], .null), (70, .goto 5, 3, [], .null), (73, .bipush (-3), 2, [], .null), (75, .ireturn, 1, [], .null)]])
/-- LostBets$Town.areTwo -/
def zm_55 : zz_Mi := (⟨"LostBets$Town", "areTwo", "(II)Z"⟩, prog_10_method_5_code, 3, some .boolean, 2, false, (0, 0, 1, 21), (508, 79, 506), [
  [(0, .aload_n 0, 1, [], .null), (1, .iload_n 1, 1, [], .null), (2, .invokevirtual 82, 3, [1, 49, 7, 481, 483], .null), (5, .ifCond .eq 20, 3, [], .null), (8, .aload_n 0, 1, [], .null), (9, .iload_n 2, 1, [], .null), (10, .invokevirtual 82, 3, [1, 49, 7, 481, 483], .null), (13, .ifCond .eq 12, 3, [], .null)],
  [(16, .iload_n 1, 1, [], .null), (17, .iload_n 2, 1, [], .null), (18, .if_icmp .eq 7, 3, [], .null), (21, .iconst 1, 1, [], .null), (22, .goto 4, 3, [], .null), (25, .iconst 0, 1, [], .null), (26, .ireturn, 1, [], .null)]])
/-- LostBets$Town.canBe -/
def zm_56 : zz_Mi := (⟨"LostBets$Town", "canBe", "(IIII)Z"⟩, prog_10_method_26_code, 5, some .boolean, 4, false, (0, 0, 2, 47), (512, 79, 510), [
  [(0, .aload_n 0, 1, [], .null), (1, .iload_n 1, 1, [], .null), (2, .invokevirtual 175, 3, [1, 57, 7, 513, 515], .null), (5, .ifCond .eq 39, 3, [], .null), (8, .aload_n 0, 1, [], .null), (9, .iload_n 2, 1, [], .null), (10, .invokevirtual 175, 3, [1, 57, 7, 513, 515], .null), (13, .ifCond .eq 31, 3, [], .null)],
  [(16, .aload_n 0, 1, [], .null), (17, .iload_n 1, 1, [], .null), (18, .iload_n 3, 1, [], .null), (19, .iload 4, 2, [], .null), (21, .invokevirtual 171, 3, [1, 60, 7, 525, 2], .null), (24, .iconst 4, 1, [], .null), (25, .if_icmp .gt 19, 3, [], .null), (28, .aload_n 0, 1, [], .null), (29, .iload_n 2, 1, [], .null), (30, .iload_n 1, 1, [], .null), (31, .iload_n 3, 1, [], .null)],
  [(32, .iload 4, 2, [], .null), (34, .invokevirtual 178, 3, [1, 61, 7, 529, 531], .null), (37, .ifCond .eq 7, 3, [], .null), (40, .iconst 1, 1, [], .null), (41, .goto 4, 3, [], .null), (44, .iconst 0, 1, [], .null), (45, .ireturn, 1, [], .null)]])
/-- LostBets$Town.isFree -/
def zm_57 : zz_Mi := (⟨"LostBets$Town", "isFree", "(I)Z"⟩, prog_10_method_33_code, 2, some .boolean, 1, false, (0, 0, 1, 22), (516, 79, 514), [
  [(0, .aload_n 0, 1, [], .null), (1, .iload_n 1, 1, [], .null), (2, .invokevirtual 184, 3, [1, 58, 7, 517, 519], .null), (5, .ifCond .ne 15, 3, [], .null), (8, .aload_n 0, 1, [], .null), (9, .iload_n 1, 1, [], .null), (10, .invokevirtual 187, 3, [1, 59, 7, 521, 523], .null), (13, .ifCond .ge 7, 3, [], .null)],
  [(16, .iconst 1, 1, [], .null), (17, .goto 4, 3, [], .null), (20, .iconst 0, 1, [], .null), (21, .ireturn, 1, [], .null)]])
/-- LostBets$Town.isWed -/
def zm_58 : zz_Mi := (⟨"LostBets$Town", "isWed", "(I)Z"⟩, prog_10_method_32_code, 2, some .boolean, 1, false, (0, 0, 0, 0), (520, 79, 518), [
  [(0, .aload_n 0, 1, [], .null), (1, .getfield 33, 3, [7, 9, 201], .null), (4, .iload_n 1, 1, [], .null), (5, .iaload, 1, [], .null), (6, .bipush (-9), 2, [], .null), (8, .if_icmp .eq 7, 3, [], .null), (11, .iconst 1, 1, [], .null), (12, .goto 4, 3, [], .null), (15, .iconst 0, 1, [], .null)],
  [(16, .ireturn, 1, [], .null)]])
/-- LostBets$Town.wagerWith -/
def zm_59 : zz_Mi := (⟨"LostBets$Town", "wagerWith", "(I)I"⟩, prog_10_method_31_code, 3, some .int, 1, false, (0, 0, 0, 0), (524, 79, 522), [
  [(0, .iconst 0, 1, [], .null), (1, .istore_n 2, 1, [], .null), (2, .iload_n 2, 1, [], .null), (3, .aload_n 0, 1, [], .null), (4, .getfield 62, 3, [7, 14, 211], .null), (7, .if_icmp .ge 37, 3, [], .null), (10, .aload_n 0, 1, [], .null), (11, .getfield 49, 3, [7, 13, 209], .null), (14, .iload_n 2, 1, [], .null), (15, .aaload, 1, [], .null)],
  [(16, .getfield 120, 3, [8, 0, 158], .null), (19, .iload_n 1, 1, [], .null), (20, .if_icmp .eq 16, 3, [], .null), (23, .aload_n 0, 1, [], .null), (24, .getfield 49, 3, [7, 13, 209], .null), (27, .iload_n 2, 1, [], .null), (28, .aaload, 1, [], .null), (29, .getfield 123, 3, [8, 1, 161], .null)],
  [(32, .iload_n 1, 1, [], .null), (33, .if_icmp .ne 5, 3, [], .null), (36, .iload_n 2, 1, [], .null), (37, .ireturn, 1, [], .null), (38, .iinc 2 1, 3, [], .null), (41, .goto (-39), 3, [], .null), (44, .bipush (-9), 2, [], .null), (46, .ireturn, 1, [], .null)]])
/-- LostBets$Town.trust -/
def zm_60 : zz_Mi := (⟨"LostBets$Town", "trust", "(III)I"⟩, prog_10_method_24_code, 4, some .int, 3, false, (0, 0, 0, 0), (528, 79, 527), [
  [(0, .iload_n 3, 1, [], .null), (1, .iconst 1, 1, [], .null), (2, .if_icmp .ne 14, 3, [], .null), (5, .aload_n 0, 1, [], .null), (6, .getfield 38, 3, [7, 10, 203], .null), (9, .iload_n 1, 1, [], .null), (10, .aaload, 1, [], .null), (11, .iload_n 2, 1, [], .null), (12, .iaload, 1, [], .null), (13, .goto 14, 3, [], .null)],
  [(16, .bipush 9, 2, [], .null), (18, .aload_n 0, 1, [], .null), (19, .getfield 38, 3, [7, 10, 203], .null), (22, .iload_n 1, 1, [], .null), (23, .aaload, 1, [], .null), (24, .iload_n 2, 1, [], .null), (25, .iaload, 1, [], .null), (26, .isub, 1, [], .null), (27, .ireturn, 1, [], .null)]])
/-- LostBets$Town.wouldTake -/
def zm_61 : zz_Mi := (⟨"LostBets$Town", "wouldTake", "(IIII)Z"⟩, prog_10_method_25_code, 5, some .boolean, 4, false, (0, 0, 1, 23), (532, 79, 530), [
  [(0, .aload_n 0, 1, [], .null), (1, .getfield 27, 3, [7, 7, 197], .null), (4, .iload_n 1, 1, [], .null), (5, .iaload, 1, [], .null), (6, .iload_n 2, 1, [], .null), (7, .if_icmp .eq 20, 3, [], .null), (10, .aload_n 0, 1, [], .null), (11, .iload_n 1, 1, [], .null), (12, .iload_n 3, 1, [], .null), (13, .iload 4, 2, [], .null), (15, .invokevirtual 171, 3, [1, 60, 7, 525, 2], .null)],
  [(18, .aload_n 0, 1, [], .null), (19, .getfield 18, 3, [7, 4, 191], .null), (22, .iload_n 1, 1, [], .null), (23, .iaload, 1, [], .null), (24, .if_icmp .lt 7, 3, [], .null), (27, .iconst 1, 1, [], .null), (28, .goto 4, 3, [], .null), (31, .iconst 0, 1, [], .null)],
  [(32, .ireturn, 1, [], .null)]])
/-- LostBets$Town.propose -/
def zm_62 : zz_Mi := (⟨"LostBets$Town", "propose", "(IIIII)V"⟩, prog_10_method_14_code, 7, none, 5, false, (0, 0, 0, 0), (536, 79, 534), [
  [(0, .aload_n 0, 1, [], .null), (1, .getfield 49, 3, [7, 13, 209], .null), (4, .aload_n 0, 1, [], .null), (5, .getfield 62, 3, [7, 14, 211], .null), (8, .aaload, 1, [], .null), (9, .astore 6, 2, [], .null), (11, .aload 6, 2, [], .null), (13, .iload_n 1, 1, [], .null), (14, .putfield 120, 3, [8, 0, 158, 0], .null)],
  [(17, .aload 6, 2, [], .null), (19, .iload_n 2, 1, [], .null), (20, .putfield 123, 3, [8, 1, 161, 0], .null), (23, .aload 6, 2, [], .null), (25, .iload_n 3, 1, [], .null), (26, .putfield 126, 3, [8, 2, 164, 0], .null), (29, .aload 6, 2, [], .null), (31, .iload 4, 2, [], .null)],
  [(33, .putfield 129, 3, [8, 3, 167, 0], .null), (36, .aload 6, 2, [], .null), (38, .iload 5, 2, [], .null), (40, .putfield 132, 3, [8, 4, 170, 0], .null), (43, .aload_n 0, 1, [], .null), (44, .dup, 1, [], .null), (45, .getfield 62, 3, [7, 14, 211], .null)],
  [(48, .iconst 1, 1, [], .null), (49, .iadd, 1, [], .null), (50, .putfield 62, 3, [7, 14, 211, 0], .null), (53, .return_, 1, [], .null)]])
/-- LostBets$Town.refusalToGoOn -/
def zm_63 : zz_Mi := (⟨"LostBets$Town", "refusalToGoOn", "(I)I"⟩, prog_10_method_15_code, 2, some .int, 1, false, (0, 0, 0, 0), (540, 79, 538), [
  [(0, .iload_n 1, 1, [], .null), (1, .iconst 1, 1, [], .null), (2, .if_icmp .ge 6, 3, [], .null), (5, .bipush (-4), 2, [], .null), (7, .ireturn, 1, [], .null), (8, .iload_n 1, 1, [], .null), (9, .bipush 60, 2, [], .null), (11, .if_icmp .gt 15, 3, [], .null), (14, .aload_n 0, 1, [], .null), (15, .getfield 65, 3, [7, 15, 213], .null)],
  [(18, .iload_n 1, 1, [], .null), (19, .iadd, 1, [], .null), (20, .sipush 999, 3, [], .null), (23, .if_icmp .le 8, 3, [], .null), (26, .bipush (-6), 2, [], .null), (28, .goto 4, 3, [], .null), (31, .iconst 0, 1, [], .null)],
  [(32, .ireturn, 1, [], .null)]])
/-- LostBets$Town.goOn -/
def zm_64 : zz_Mi := (⟨"LostBets$Town", "goOn", "(I)V"⟩, prog_10_method_16_code, 3, none, 1, false, (0, 0, 4, 87), (544, 79, 542), [
  [(0, .iconst 0, 1, [], .null), (1, .istore_n 2, 1, [], .null), (2, .iload_n 2, 1, [], .null), (3, .iload_n 1, 1, [], .null), (4, .if_icmp .ge 27, 3, [], .null), (7, .aload_n 0, 1, [], .null), (8, .dup, 1, [], .null), (9, .getfield 65, 3, [7, 15, 213], .null), (12, .iconst 1, 1, [], .null), (13, .iadd, 1, [], .null), (14, .putfield 65, 3, [7, 15, 213, 0], .null)],
  [(17, .aload_n 0, 1, [], .null), (18, .invokevirtual 135, 3, [1, 65, 7, 545, 3], .null), (21, .aload_n 0, 1, [], .null), (22, .invokevirtual 138, 3, [1, 71, 7, 572, 6], .null), (25, .iinc 2 1, 3, [], .null), (28, .goto (-26), 3, [], .null), (31, .return_, 1, [], .null)]])
/-- LostBets$Town.comeOut -/
def zm_65 : zz_Mi := (⟨"LostBets$Town", "comeOut", "()V"⟩, prog_10_method_17_code, 4, none, 0, false, (0, 0, 3, 64), (548, 79, 547), [
  [(0, .iconst 0, 1, [], .null), (1, .istore_n 1, 1, [], .null), (2, .aload_n 0, 1, [], .null), (3, .getfield 62, 3, [7, 14, 211], .null), (6, .istore_n 2, 1, [], .null), (7, .iload_n 2, 1, [], .null), (8, .ifCond .le 64, 3, [], .null), (11, .aload_n 0, 1, [], .null), (12, .getfield 49, 3, [7, 13, 209], .null), (15, .iload_n 1, 1, [], .null)],
  [(16, .aaload, 1, [], .null), (17, .astore_n 3, 1, [], .null), (18, .aload_n 3, 1, [], .null), (19, .dup, 1, [], .null), (20, .getfield 132, 3, [8, 4, 170], .null), (23, .iconst 1, 1, [], .null), (24, .isub, 1, [], .null), (25, .putfield 132, 3, [8, 4, 170, 0], .null), (28, .aload_n 3, 1, [], .null), (29, .getfield 132, 3, [8, 4, 170], .null)],
  [(32, .ifCond .le 9, 3, [], .null), (35, .iinc 1 1, 3, [], .null), (38, .goto 28, 3, [], .null), (41, .aload_n 0, 1, [], .null), (42, .iload_n 1, 1, [], .null), (43, .invokevirtual 141, 3, [1, 66, 7, 549, 551], .null), (46, .ifCond .eq 15, 3, [], .null)],
  [(49, .aload_n 0, 1, [], .null), (50, .aload_n 3, 1, [], .null), (51, .getfield 120, 3, [8, 0, 158], .null), (54, .aload_n 3, 1, [], .null), (55, .getfield 123, 3, [8, 1, 161], .null), (58, .invokevirtual 144, 3, [1, 68, 7, 557, 4], .null), (61, .aload_n 0, 1, [], .null), (62, .iload_n 1, 1, [], .null), (63, .invokevirtual 148, 3, [1, 70, 7, 568, 570], .null)],
  [(66, .iinc 2 (-1), 3, [], .null), (69, .goto (-62), 3, [], .null), (72, .return_, 1, [], .null)]])
/-- LostBets$Town.isLost -/
def zm_66 : zz_Mi := (⟨"LostBets$Town", "isLost", "(I)Z"⟩, prog_10_method_28_code, 3, some .boolean, 1, false, (0, 0, 1, 22), (552, 79, 550), [
  [(0, .aload_n 0, 1, [], .null), (1, .getfield 49, 3, [7, 13, 209], .null), (4, .iload_n 1, 1, [], .null), (5, .aaload, 1, [], .null), (6, .astore_n 2, 1, [], .null), (7, .aload_n 0, 1, [], .null), (8, .aload_n 2, 1, [], .null), (9, .getfield 126, 3, [8, 2, 164], .null), (12, .aload_n 0, 1, [], .null), (13, .getfield 65, 3, [7, 15, 213], .null)],
  [(16, .aload_n 2, 1, [], .null), (17, .getfield 132, 3, [8, 4, 170], .null), (20, .iadd, 1, [], .null), (21, .invokevirtual 161, 3, [1, 67, 7, 553, 555], .null), (24, .aload_n 2, 1, [], .null), (25, .getfield 129, 3, [8, 3, 167], .null), (28, .iconst 1, 1, [], .null), (29, .if_icmp .ne 7, 3, [], .null)],
  [(32, .iconst 1, 1, [], .null), (33, .goto 4, 3, [], .null), (36, .iconst 0, 1, [], .null), (37, .if_icmp .eq 7, 3, [], .null), (40, .iconst 1, 1, [], .null), (41, .goto 4, 3, [], .null), (44, .iconst 0, 1, [], .null), (45, .ireturn, 1, [], .null)]])
/-- LostBets$Town.comesOn -/
def zm_67 : zz_Mi := (⟨"LostBets$Town", "comesOn", "(II)Z"⟩, prog_10_method_23_code, 3, some .boolean, 2, false, (0, 0, 0, 0), (556, 79, 554), [
  [(0, .iload_n 2, 1, [], .null), (1, .aload_n 0, 1, [], .null), (2, .getfield 44, 3, [7, 12, 207], .null), (5, .iload_n 1, 1, [], .null), (6, .iaload, 1, [], .null), (7, .iadd, 1, [], .null), (8, .aload_n 0, 1, [], .null), (9, .getfield 41, 3, [7, 11, 205], .null), (12, .iload_n 1, 1, [], .null), (13, .iaload, 1, [], .null), (14, .irem, 1, [], .null), (15, .ifCond .ne 7, 3, [], .null)],
  [(18, .iconst 1, 1, [], .null), (19, .goto 4, 3, [], .null), (22, .iconst 0, 1, [], .null), (23, .ireturn, 1, [], .null)]])
/-- LostBets$Town.marry -/
def zm_68 : zz_Mi := (⟨"LostBets$Town", "marry", "(II)V"⟩, prog_10_method_18_code, 3, none, 2, false, (0, 0, 2, 42), (560, 79, 559), [
  [(0, .aload_n 0, 1, [], .null), (1, .getfield 33, 3, [7, 9, 201], .null), (4, .iload_n 1, 1, [], .null), (5, .iload_n 2, 1, [], .null), (6, .iastore, 1, [], .null), (7, .aload_n 0, 1, [], .null), (8, .getfield 33, 3, [7, 9, 201], .null), (11, .iload_n 2, 1, [], .null), (12, .iload_n 1, 1, [], .null), (13, .iastore, 1, [], .null), (14, .aload_n 0, 1, [], .null), (15, .getfield 30, 3, [7, 8, 199], .null)],
  [(18, .iload_n 1, 1, [], .null), (19, .aload_n 0, 1, [], .null), (20, .iload_n 1, 1, [], .null), (21, .invokevirtual 152, 3, [1, 69, 7, 561, 5], .null), (24, .iastore, 1, [], .null), (25, .aload_n 0, 1, [], .null), (26, .getfield 30, 3, [7, 8, 199], .null), (29, .iload_n 2, 1, [], .null), (30, .aload_n 0, 1, [], .null), (31, .iload_n 2, 1, [], .null)],
  [(32, .invokevirtual 152, 3, [1, 69, 7, 561, 5], .null), (35, .iastore, 1, [], .null), (36, .return_, 1, [], .null)]])
/-- LostBets$Town.withMore -/
def zm_69 : zz_Mi := (⟨"LostBets$Town", "withMore", "(I)I"⟩, prog_10_method_19_code, 2, some .int, 1, false, (0, 0, 1, 21), (564, 79, 563), [
  [(0, .bipush 99, 2, [], .null), (2, .aload_n 0, 1, [], .null), (3, .getfield 30, 3, [7, 8, 199], .null), (6, .iload_n 1, 1, [], .null), (7, .iaload, 1, [], .null), (8, .aload_n 0, 1, [], .null), (9, .getfield 21, 3, [7, 5, 193], .null), (12, .iload_n 1, 1, [], .null), (13, .iaload, 1, [], .null), (14, .iadd, 1, [], .null), (15, .invokestatic 155, 3, [11, 565, 566, 87, 567], .null)],
  [(18, .ireturn, 1, [], .null)]])
/-- LostBets$Town.close -/
def zm_70 : zz_Mi := (⟨"LostBets$Town", "close", "(I)V"⟩, prog_10_method_20_code, 4, none, 1, false, (0, 0, 0, 0), (571, 79, 569), [
  [(0, .aload_n 0, 1, [], .null), (1, .getfield 49, 3, [7, 13, 209], .null), (4, .iload_n 1, 1, [], .null), (5, .aaload, 1, [], .null), (6, .astore_n 2, 1, [], .null), (7, .iload_n 1, 1, [], .null), (8, .iconst 1, 1, [], .null), (9, .iadd, 1, [], .null), (10, .istore_n 3, 1, [], .null), (11, .iload_n 3, 1, [], .null), (12, .aload_n 0, 1, [], .null), (13, .getfield 62, 3, [7, 14, 211], .null)],
  [(16, .if_icmp .ge 23, 3, [], .null), (19, .aload_n 0, 1, [], .null), (20, .getfield 49, 3, [7, 13, 209], .null), (23, .iload_n 3, 1, [], .null), (24, .iconst 1, 1, [], .null), (25, .isub, 1, [], .null), (26, .aload_n 0, 1, [], .null), (27, .getfield 49, 3, [7, 13, 209], .null), (30, .iload_n 3, 1, [], .null), (31, .aaload, 1, [], .null)],
  [(32, .aastore, 1, [3, 8, 0], .null), (33, .iinc 3 1, 3, [], .null), (36, .goto (-25), 3, [], .null), (39, .aload_n 0, 1, [], .null), (40, .dup, 1, [], .null), (41, .getfield 62, 3, [7, 14, 211], .null), (44, .iconst 1, 1, [], .null), (45, .isub, 1, [], .null), (46, .putfield 62, 3, [7, 14, 211, 0], .null)],
  [(49, .aload_n 0, 1, [], .null), (50, .getfield 49, 3, [7, 13, 209], .null), (53, .aload_n 0, 1, [], .null), (54, .getfield 62, 3, [7, 14, 211], .null), (57, .aload_n 2, 1, [], .null), (58, .aastore, 1, [3, 8, 0], .null), (59, .return_, 1, [], .null)]])
/-- LostBets$Town.learn -/
def zm_71 : zz_Mi := (⟨"LostBets$Town", "learn", "()V"⟩, prog_10_method_21_code, 4, none, 0, false, (0, 0, 2, 43), (575, 79, 574), [
  [(0, .iconst 0, 1, [], .null), (1, .istore_n 1, 1, [], .null), (2, .iload_n 1, 1, [], .null), (3, .iconst 5, 1, [], .null), (4, .if_icmp .ge 61, 3, [], .null), (7, .aload_n 0, 1, [], .null), (8, .iload_n 1, 1, [], .null), (9, .aload_n 0, 1, [], .null), (10, .getfield 65, 3, [7, 15, 213], .null), (13, .invokevirtual 161, 3, [1, 67, 7, 553, 555], .null)],
  [(16, .istore_n 2, 1, [], .null), (17, .iconst 0, 1, [], .null), (18, .istore_n 3, 1, [], .null), (19, .iload_n 3, 1, [], .null), (20, .aload_n 0, 1, [], .null), (21, .getfield 58, 3, [7, 1, 184], .null), (24, .if_icmp .ge 35, 3, [], .null), (27, .aload_n 0, 1, [], .null), (28, .getfield 38, 3, [7, 10, 203], .null), (31, .iload_n 3, 1, [], .null)],
  [(32, .aaload, 1, [], .null), (33, .iload_n 1, 1, [], .null), (34, .aload_n 0, 1, [], .null), (35, .getfield 38, 3, [7, 10, 203], .null), (38, .iload_n 3, 1, [], .null), (39, .aaload, 1, [], .null), (40, .iload_n 1, 1, [], .null), (41, .iaload, 1, [], .null), (42, .aload_n 0, 1, [], .null), (43, .getfield 24, 3, [7, 6, 195], .null), (46, .iload_n 3, 1, [], .null), (47, .iaload, 1, [], .null)],
  [(48, .iload_n 2, 1, [], .null), (49, .invokestatic 164, 3, [3, 72, 576], .null), (52, .iastore, 1, [], .null), (53, .iinc 3 1, 3, [], .null), (56, .goto (-37), 3, [], .null), (59, .iinc 1 1, 3, [], .null), (62, .goto (-60), 3, [], .null)],
  [(65, .return_, 1, [], .null)]])
/-- LostBets$Town.learned -/
def zm_72 : zz_Mi := (⟨"LostBets$Town", "learned", "(IIZ)I"⟩, prog_10_method_22_code, 3, some .int, 3, true, (0, 0, 1, 21), (578, 79, 577), [
  [(0, .iload_n 2, 1, [], .null), (1, .ifCond .eq 14, 3, [], .null), (4, .bipush 9, 2, [], .null), (6, .iload_n 0, 1, [], .null), (7, .iload_n 1, 1, [], .null), (8, .iadd, 1, [], .null), (9, .invokestatic 155, 3, [11, 565, 566, 87, 567], .null), (12, .goto 10, 3, [], .null), (15, .iconst 0, 1, [], .null)],
  [(16, .iload_n 0, 1, [], .null), (17, .iload_n 1, 1, [], .null), (18, .isub, 1, [], .null), (19, .invokestatic 168, 3, [10, 579, 580, 87, 581], .null), (22, .ireturn, 1, [], .null)]])
/-- LostBets$Past.forget -/
def zm_73 : zz_Mi := (⟨"LostBets$Past", "forget", "()V"⟩, prog_7_method_4_code, 1, none, 0, false, (0, 0, 0, 0), (586, 81, 584), [
  [(0, .aload_n 0, 1, [], .null), (1, .iconst 0, 1, [], .null), (2, .putfield 26, 3, [9, 2, 259, 0], .null), (5, .return_, 1, [], .null)]])
/-- LostBets.personOf -/
def zm_74 : zz_Mi := (⟨"LostBets", "personOf", "(II)I"⟩, prog_1_method_5_code, 3, some .int, 2, false, (0, 0, 1, 21), (590, 72, 588), [
  [(0, .aload_n 0, 1, [], .null), (1, .getfield 39, 3, [0, 0, 298], .null), (4, .iload_n 1, 1, [], .null), (5, .invokevirtual 156, 3, [1, 49, 7, 591, 483], .null), (8, .ifCond .ne 9, 3, [], .null), (11, .aload_n 0, 1, [], .null), (12, .iconst (-1), 1, [], .null), (13, .invokevirtual 70, 3, [1, 13, 0, 333, 0], .null)],
  [(16, .ireturn, 1, [], .null), (17, .iload_n 2, 1, [], .null), (18, .tableswitch 126 0 7 #[46, 56, 66, 76, 86, 96, 106, 116], 46, [], .null)],
  [],
  [],
  [(64, .aload_n 0, 1, [], .null), (65, .getfield 39, 3, [0, 0, 298], .null), (68, .getfield 159, 3, [7, 2, 188], .null), (71, .iload_n 1, 1, [], .null), (72, .iaload, 1, [], .null), (73, .ireturn, 1, [], .null), (74, .aload_n 0, 1, [], .null), (75, .getfield 39, 3, [0, 0, 298], .null), (78, .getfield 162, 3, [7, 3, 190], .null)],
  [(81, .iload_n 1, 1, [], .null), (82, .iaload, 1, [], .null), (83, .ireturn, 1, [], .null), (84, .aload_n 0, 1, [], .null), (85, .getfield 39, 3, [0, 0, 298], .null), (88, .getfield 124, 3, [7, 7, 198], .null), (91, .iload_n 1, 1, [], .null), (92, .iaload, 1, [], .null), (93, .ireturn, 1, [], .null), (94, .aload_n 0, 1, [], .null), (95, .getfield 39, 3, [0, 0, 298], .null)],
  [(98, .getfield 165, 3, [7, 8, 200], .null), (101, .iload_n 1, 1, [], .null), (102, .iaload, 1, [], .null), (103, .ireturn, 1, [], .null), (104, .aload_n 0, 1, [], .null), (105, .getfield 39, 3, [0, 0, 298], .null), (108, .getfield 168, 3, [7, 9, 202], .null), (111, .iload_n 1, 1, [], .null)],
  [(112, .iaload, 1, [], .null), (113, .ireturn, 1, [], .null), (114, .aload_n 0, 1, [], .null), (115, .getfield 39, 3, [0, 0, 298], .null), (118, .getfield 171, 3, [7, 4, 192], .null), (121, .iload_n 1, 1, [], .null), (122, .iaload, 1, [], .null), (123, .ireturn, 1, [], .null), (124, .aload_n 0, 1, [], .null), (125, .getfield 39, 3, [0, 0, 298], .null)],
  [(128, .getfield 174, 3, [7, 5, 194], .null), (131, .iload_n 1, 1, [], .null), (132, .iaload, 1, [], .null), (133, .ireturn, 1, [], .null), (134, .aload_n 0, 1, [], .null), (135, .getfield 39, 3, [0, 0, 298], .null), (138, .getfield 177, 3, [7, 6, 196], .null), (141, .iload_n 1, 1, [], .null), (142, .iaload, 1, [], .null), (143, .ireturn, 1, [], .null)],
  [(144, .aload_n 0, 1, [], .null), (145, .bipush (-2), 2, [], .null), (147, .invokevirtual 70, 3, [1, 13, 0, 333, 0], .null), (150, .ireturn, 1, [], .null)]])
/-- LostBets.belief -/
def zm_75 : zz_Mi := (⟨"LostBets", "belief", "(II)I"⟩, prog_1_method_6_code, 3, some .int, 2, false, (0, 0, 2, 41), (595, 72, 593), [
  [(0, .aload_n 0, 1, [], .null), (1, .getfield 39, 3, [0, 0, 298], .null), (4, .iload_n 1, 1, [], .null), (5, .invokevirtual 156, 3, [1, 49, 7, 591, 483], .null), (8, .ifCond .eq 10, 3, [], .null), (11, .iload_n 2, 1, [], .null), (12, .invokestatic 180, 3, [3, 51, 596], .null), (15, .ifCond .ne 9, 3, [], .null)],
  [(18, .aload_n 0, 1, [], .null), (19, .iconst (-1), 1, [], .null), (20, .invokevirtual 70, 3, [1, 13, 0, 333, 0], .null), (23, .ireturn, 1, [], .null), (24, .aload_n 0, 1, [], .null), (25, .getfield 39, 3, [0, 0, 298], .null), (28, .getfield 138, 3, [7, 10, 204], .null), (31, .iload_n 1, 1, [], .null)],
  [(32, .aaload, 1, [], .null), (33, .iload_n 2, 1, [], .null), (34, .iaload, 1, [], .null), (35, .ireturn, 1, [], .null)]])
/-- LostBets.eventOf -/
def zm_76 : zz_Mi := (⟨"LostBets", "eventOf", "(II)I"⟩, prog_1_method_7_code, 3, some .int, 2, false, (0, 0, 2, 41), (600, 72, 598), [
  [(0, .iload_n 1, 1, [], .null), (1, .invokestatic 180, 3, [3, 51, 596], .null), (4, .ifCond .ne 9, 3, [], .null), (7, .aload_n 0, 1, [], .null), (8, .iconst (-1), 1, [], .null), (9, .invokevirtual 70, 3, [1, 13, 0, 333, 0], .null), (12, .ireturn, 1, [], .null), (13, .iload_n 2, 1, [], .null), (14, .tableswitch 70 0 2 #[26, 36, 46], 26, [], .null)],
  [],
  [(40, .aload_n 0, 1, [], .null), (41, .getfield 39, 3, [0, 0, 298], .null), (44, .getfield 183, 3, [7, 11, 206], .null), (47, .iload_n 1, 1, [], .null)],
  [(48, .iaload, 1, [], .null), (49, .ireturn, 1, [], .null), (50, .aload_n 0, 1, [], .null), (51, .getfield 39, 3, [0, 0, 298], .null), (54, .getfield 186, 3, [7, 12, 208], .null), (57, .iload_n 1, 1, [], .null), (58, .iaload, 1, [], .null), (59, .ireturn, 1, [], .null), (60, .aload_n 0, 1, [], .null), (61, .getfield 39, 3, [0, 0, 298], .null)],
  [(64, .iload_n 1, 1, [], .null), (65, .aload_n 0, 1, [], .null), (66, .getfield 39, 3, [0, 0, 298], .null), (69, .getfield 189, 3, [7, 15, 214], .null), (72, .invokevirtual 192, 3, [1, 67, 7, 601, 555], .null), (75, .ifCond .eq 7, 3, [], .null), (78, .iconst 1, 1, [], .null), (79, .goto 4, 3, [], .null)],
  [(82, .iconst 0, 1, [], .null), (83, .ireturn, 1, [], .null), (84, .aload_n 0, 1, [], .null), (85, .bipush (-2), 2, [], .null), (87, .invokevirtual 70, 3, [1, 13, 0, 333, 0], .null), (90, .ireturn, 1, [], .null)]])
/-- LostBets.wagerOf -/
def zm_77 : zz_Mi := (⟨"LostBets", "wagerOf", "(II)I"⟩, prog_1_method_8_code, 4, some .int, 2, false, (0, 0, 1, 21), (605, 72, 603), [
  [(0, .iload_n 1, 1, [], .null), (1, .ifCond .lt 14, 3, [], .null), (4, .iload_n 1, 1, [], .null), (5, .aload_n 0, 1, [], .null), (6, .getfield 39, 3, [0, 0, 298], .null), (9, .getfield 196, 3, [7, 14, 212], .null), (12, .if_icmp .lt 9, 3, [], .null), (15, .aload_n 0, 1, [], .null)],
  [(16, .iconst (-1), 1, [], .null), (17, .invokevirtual 70, 3, [1, 13, 0, 333, 0], .null), (20, .ireturn, 1, [], .null), (21, .aload_n 0, 1, [], .null), (22, .getfield 39, 3, [0, 0, 298], .null), (25, .getfield 199, 3, [7, 13, 210], .null), (28, .iload_n 1, 1, [], .null), (29, .aaload, 1, [], .null), (30, .astore_n 3, 1, [], .null), (31, .iload_n 2, 1, [], .null)],
  [(32, .tableswitch 61 0 4 #[36, 41, 46, 51, 56], 36, [], .null)],
  [],
  [(68, .aload_n 3, 1, [], .null), (69, .getfield 203, 3, [8, 0, 157], .null), (72, .ireturn, 1, [], .null), (73, .aload_n 3, 1, [], .null), (74, .getfield 208, 3, [8, 1, 160], .null), (77, .ireturn, 1, [], .null), (78, .aload_n 3, 1, [], .null), (79, .getfield 211, 3, [8, 2, 163], .null)],
  [(82, .ireturn, 1, [], .null), (83, .aload_n 3, 1, [], .null), (84, .getfield 214, 3, [8, 3, 166], .null), (87, .ireturn, 1, [], .null), (88, .aload_n 3, 1, [], .null), (89, .getfield 217, 3, [8, 4, 169], .null), (92, .ireturn, 1, [], .null), (93, .aload_n 0, 1, [], .null), (94, .bipush (-2), 2, [], .null)],
  [(96, .invokevirtual 70, 3, [1, 13, 0, 333, 0], .null), (99, .ireturn, 1, [], .null)]])
/-- LostBets.count -/
def zm_78 : zz_Mi := (⟨"LostBets", "count", "(I)I"⟩, prog_1_method_9_code, 2, some .int, 1, false, (0, 0, 6, 134), (609, 72, 607), [
  [(0, .iload_n 1, 1, [], .null), (1, .tableswitch 109 0 7 #[47, 55, 63, 71, 79, 88, 96, 101], 47, [], .null)],
  [],
  [],
  [(48, .aload_n 0, 1, [], .null), (49, .getfield 39, 3, [0, 0, 298], .null), (52, .getfield 220, 3, [7, 1, 186], .null), (55, .ireturn, 1, [], .null), (56, .aload_n 0, 1, [], .null), (57, .getfield 39, 3, [0, 0, 298], .null), (60, .getfield 189, 3, [7, 15, 214], .null), (63, .ireturn, 1, [], .null)],
  [(64, .aload_n 0, 1, [], .null), (65, .getfield 39, 3, [0, 0, 298], .null), (68, .getfield 196, 3, [7, 14, 212], .null), (71, .ireturn, 1, [], .null), (72, .aload_n 0, 1, [], .null), (73, .getfield 39, 3, [0, 0, 298], .null), (76, .invokevirtual 223, 3, [1, 79, 7, 610, 612], .null), (79, .ireturn, 1, [], .null)],
  [(80, .aload_n 0, 1, [], .null), (81, .getfield 39, 3, [0, 0, 298], .null), (84, .iconst 0, 1, [], .null), (85, .invokevirtual 226, 3, [1, 80, 7, 614, 616], .null), (88, .ireturn, 1, [], .null), (89, .aload_n 0, 1, [], .null), (90, .getfield 59, 3, [0, 5, 303], .null), (93, .getfield 82, 3, [10, 1, 276], .null)],
  [(96, .ireturn, 1, [], .null), (97, .aload_n 0, 1, [], .null), (98, .getfield 229, 3, [0, 8, 306], .null), (101, .ireturn, 1, [], .null), (102, .aload_n 0, 1, [], .null), (103, .getfield 52, 3, [0, 4, 302], .null), (106, .getfield 232, 3, [9, 2, 260], .null), (109, .ireturn, 1, [], .null), (110, .iload_n 1, 1, [], .null), (111, .bipush 10, 2, [], .null)],
  [(113, .if_icmp .le 21, 3, [], .null), (116, .iload_n 1, 1, [], .null), (117, .bipush 16, 2, [], .null), (119, .if_icmp .gt 15, 3, [], .null), (122, .aload_n 0, 1, [], .null), (123, .getfield 13, 3, [0, 9, 307], .null), (126, .iload_n 1, 1, [], .null), (127, .bipush 10, 2, [], .null)],
  [(129, .isub, 1, [], .null), (130, .iaload, 1, [], .null), (131, .goto 5, 3, [], .null), (134, .bipush (-9), 2, [], .null), (136, .ireturn, 1, [], .null)]])
/-- LostBets$Town.wedBits -/
def zm_79 : zz_Mi := (⟨"LostBets$Town", "wedBits", "()I"⟩, prog_10_method_35_code, 3, some .int, 0, false, (0, 0, 1, 21), (613, 79, 611), [
  [(0, .iconst 0, 1, [], .null), (1, .istore_n 1, 1, [], .null), (2, .iconst 0, 1, [], .null), (3, .istore_n 2, 1, [], .null), (4, .iload_n 2, 1, [], .null), (5, .aload_n 0, 1, [], .null), (6, .getfield 58, 3, [7, 1, 184], .null), (9, .if_icmp .ge 23, 3, [], .null), (12, .aload_n 0, 1, [], .null), (13, .iload_n 2, 1, [], .null), (14, .invokevirtual 184, 3, [1, 58, 7, 517, 519], .null)],
  [(17, .ifCond .eq 9, 3, [], .null), (20, .iload_n 1, 1, [], .null), (21, .iconst 1, 1, [], .null), (22, .iload_n 2, 1, [], .null), (23, .ishl, 1, [], .null), (24, .ior, 1, [], .null), (25, .istore_n 1, 1, [], .null), (26, .iinc 2 1, 3, [], .null), (29, .goto (-25), 3, [], .null)],
  [(32, .iload_n 1, 1, [], .null), (33, .ireturn, 1, [], .null)]])
/-- LostBets$Town.allTears -/
def zm_80 : zz_Mi := (⟨"LostBets$Town", "allTears", "(I)I"⟩, prog_10_method_41_code, 4, some .int, 1, false, (0, 0, 5, 111), (617, 79, 615), [
  [(0, .iconst 0, 1, [], .null), (1, .istore_n 2, 1, [], .null), (2, .iconst 0, 1, [], .null), (3, .istore_n 3, 1, [], .null), (4, .iload_n 3, 1, [], .null), (5, .aload_n 0, 1, [], .null), (6, .getfield 58, 3, [7, 1, 184], .null), (9, .if_icmp .ge 18, 3, [], .null), (12, .iload_n 2, 1, [], .null), (13, .aload_n 0, 1, [], .null), (14, .iload_n 3, 1, [], .null), (15, .iload_n 1, 1, [], .null)],
  [(16, .invokevirtual 196, 3, [1, 81, 7, 618, 620], .null), (19, .iadd, 1, [], .null), (20, .istore_n 2, 1, [], .null), (21, .iinc 3 1, 3, [], .null), (24, .goto (-20), 3, [], .null), (27, .iload_n 2, 1, [], .null), (28, .ireturn, 1, [], .null)]])
/-- LostBets$Town.tearsOf -/
def zm_81 : zz_Mi := (⟨"LostBets$Town", "tearsOf", "(II)I"⟩, prog_10_method_39_code, 3, some .int, 2, false, (0, 0, 4, 89), (621, 79, 619), [
  [(0, .aload_n 0, 1, [], .null), (1, .iload_n 1, 1, [], .null), (2, .invokevirtual 184, 3, [1, 58, 7, 517, 519], .null), (5, .ifCond .ne 20, 3, [], .null), (8, .aload_n 0, 1, [], .null), (9, .iload_n 1, 1, [], .null), (10, .iload_n 2, 1, [], .null), (11, .invokevirtual 193, 3, [1, 82, 7, 622, 7], .null), (14, .ifCond .eq 11, 3, [], .null)],
  [(17, .aload_n 0, 1, [], .null), (18, .iload_n 1, 1, [], .null), (19, .invokevirtual 152, 3, [1, 69, 7, 561, 5], .null), (22, .goto 9, 3, [], .null), (25, .aload_n 0, 1, [], .null), (26, .getfield 30, 3, [7, 8, 199], .null), (29, .iload_n 1, 1, [], .null), (30, .iaload, 1, [], .null), (31, .ireturn, 1, [], .null)]])
/-- LostBets$Town.isWedIn -/
def zm_82 : zz_Mi := (⟨"LostBets$Town", "isWedIn", "(II)Z"⟩, prog_10_method_37_code, 4, some .boolean, 2, false, (0, 0, 3, 66), (625, 79, 624), [
  [(0, .aload_n 0, 1, [], .null), (1, .iload_n 1, 1, [], .null), (2, .invokevirtual 190, 3, [1, 83, 7, 626, 628], .null), (5, .istore_n 3, 1, [], .null), (6, .iload_n 3, 1, [], .null), (7, .ifCond .lt 12, 3, [], .null), (10, .iload_n 3, 1, [], .null), (11, .iload_n 2, 1, [], .null), (12, .if_icmp .gt 7, 3, [], .null), (15, .iconst 1, 1, [], .null)],
  [(16, .goto 4, 3, [], .null), (19, .iconst 0, 1, [], .null), (20, .ireturn, 1, [], .null)]])
/-- LostBets$Town.daysToWedding -/
def zm_83 : zz_Mi := (⟨"LostBets$Town", "daysToWedding", "(I)I"⟩, prog_10_method_36_code, 3, some .int, 1, false, (0, 0, 2, 44), (629, 79, 627), [
  [(0, .aload_n 0, 1, [], .null), (1, .iload_n 1, 1, [], .null), (2, .invokevirtual 184, 3, [1, 58, 7, 517, 519], .null), (5, .ifCond .eq 5, 3, [], .null), (8, .iconst 0, 1, [], .null), (9, .ireturn, 1, [], .null), (10, .aload_n 0, 1, [], .null), (11, .iload_n 1, 1, [], .null), (12, .invokevirtual 187, 3, [1, 59, 7, 521, 523], .null), (15, .istore_n 2, 1, [], .null)],
  [(16, .iload_n 2, 1, [], .null), (17, .ifCond .lt 23, 3, [], .null), (20, .aload_n 0, 1, [], .null), (21, .iload_n 2, 1, [], .null), (22, .invokevirtual 141, 3, [1, 66, 7, 549, 551], .null), (25, .ifCond .eq 15, 3, [], .null), (28, .aload_n 0, 1, [], .null), (29, .getfield 49, 3, [7, 13, 209], .null)],
  [(32, .iload_n 2, 1, [], .null), (33, .aaload, 1, [], .null), (34, .getfield 132, 3, [8, 4, 170], .null), (37, .goto 5, 3, [], .null), (40, .bipush (-9), 2, [], .null), (42, .ireturn, 1, [], .null)]])
/-- LostBets.person -/
def zm_84 : zz_Mi := (⟨"LostBets", "person", "(II)I"⟩, prog_1_method_10_code, 4, some .int, 2, false, (0, 0, 5, 108), (633, 72, 631), [
  [(0, .aload_n 0, 1, [], .null), (1, .getfield 39, 3, [0, 0, 298], .null), (4, .iload_n 1, 1, [], .null), (5, .iload_n 2, 1, [], .null), (6, .invokevirtual 113, 3, [1, 27, 7, 391, 393], .null), (9, .istore_n 3, 1, [], .null), (10, .iload_n 3, 1, [], .null), (11, .ifCond .eq 9, 3, [], .null), (14, .aload_n 0, 1, [], .null), (15, .iload_n 3, 1, [], .null)],
  [(16, .invokevirtual 70, 3, [1, 13, 0, 333, 0], .null), (19, .ireturn, 1, [], .null), (20, .aload_n 0, 1, [], .null), (21, .getfield 39, 3, [0, 0, 298], .null), (24, .iload_n 1, 1, [], .null), (25, .iload_n 2, 1, [], .null), (26, .invokevirtual 117, 3, [1, 28, 7, 396, 398], .null), (29, .aload_n 0, 1, [], .null), (30, .getfield 52, 3, [0, 4, 302], .null)],
  [(33, .invokevirtual 107, 3, [1, 73, 9, 583, 585], .null), (36, .aload_n 0, 1, [], .null), (37, .getfield 39, 3, [0, 0, 298], .null), (40, .getfield 220, 3, [7, 1, 186], .null), (43, .iconst 1, 1, [], .null), (44, .isub, 1, [], .null), (45, .ireturn, 1, [], .null)]])
/-- LostBets.wishes -/
def zm_85 : zz_Mi := (⟨"LostBets", "wishes", "(II)I"⟩, prog_1_method_11_code, 5, some .int, 2, false, (0, 0, 2, 43), (637, 72, 635), [
  [(0, .aload_n 0, 1, [], .null), (1, .getfield 39, 3, [0, 0, 298], .null), (4, .iload_n 1, 1, [], .null), (5, .iload_n 2, 1, [], .null), (6, .invokevirtual 121, 3, [1, 48, 7, 477, 479], .null), (9, .istore_n 3, 1, [], .null), (10, .iload_n 3, 1, [], .null), (11, .ifCond .eq 9, 3, [], .null), (14, .aload_n 0, 1, [], .null), (15, .iload_n 3, 1, [], .null)],
  [(16, .invokevirtual 70, 3, [1, 13, 0, 333, 0], .null), (19, .ireturn, 1, [], .null), (20, .aload_n 0, 1, [], .null), (21, .getfield 39, 3, [0, 0, 298], .null), (24, .getfield 124, 3, [7, 7, 198], .null), (27, .iload_n 1, 1, [], .null), (28, .iaload, 1, [], .null), (29, .istore 4, 2, [], .null), (31, .aload_n 0, 1, [], .null)],
  [(32, .getfield 39, 3, [0, 0, 298], .null), (35, .getfield 124, 3, [7, 7, 198], .null), (38, .iload_n 1, 1, [], .null), (39, .iload_n 2, 1, [], .null), (40, .iastore, 1, [], .null), (41, .aload_n 0, 1, [], .null), (42, .getfield 52, 3, [0, 4, 302], .null), (45, .invokevirtual 107, 3, [1, 73, 9, 583, 585], .null)],
  [(48, .iload 4, 2, [], .null), (50, .ireturn, 1, [], .null)]])
/-- LostBets.believes -/
def zm_86 : zz_Mi := (⟨"LostBets", "believes", "(III)I"⟩, prog_1_method_12_code, 6, some .int, 3, false, (0, 0, 4, 90), (641, 72, 639), [
  [(0, .aload_n 0, 1, [], .null), (1, .getfield 39, 3, [0, 0, 298], .null), (4, .iload_n 1, 1, [], .null), (5, .iload_n 2, 1, [], .null), (6, .iload_n 3, 1, [], .null), (7, .invokevirtual 135, 3, [1, 53, 7, 497, 499], .null), (10, .istore 4, 2, [], .null), (12, .iload 4, 2, [], .null), (14, .ifCond .eq 10, 3, [], .null)],
  [(17, .aload_n 0, 1, [], .null), (18, .iload 4, 2, [], .null), (20, .invokevirtual 70, 3, [1, 13, 0, 333, 0], .null), (23, .ireturn, 1, [], .null), (24, .aload_n 0, 1, [], .null), (25, .getfield 52, 3, [0, 4, 302], .null), (28, .aload_n 0, 1, [], .null), (29, .getfield 39, 3, [0, 0, 298], .null)],
  [(32, .invokevirtual 233, 3, [1, 87, 9, 642, 644], .null), (35, .aload_n 0, 1, [], .null), (36, .getfield 39, 3, [0, 0, 298], .null), (39, .getfield 138, 3, [7, 10, 204], .null), (42, .iload_n 1, 1, [], .null), (43, .aaload, 1, [], .null), (44, .iload_n 2, 1, [], .null), (45, .iaload, 1, [], .null), (46, .istore 5, 2, [], .null)],
  [(48, .aload_n 0, 1, [], .null), (49, .getfield 39, 3, [0, 0, 298], .null), (52, .getfield 138, 3, [7, 10, 204], .null), (55, .iload_n 1, 1, [], .null), (56, .aaload, 1, [], .null), (57, .iload_n 2, 1, [], .null), (58, .iload_n 3, 1, [], .null), (59, .iastore, 1, [], .null), (60, .iload 5, 2, [], .null), (62, .ireturn, 1, [], .null)]])
/-- LostBets$Past.keep -/
def zm_87 : zz_Mi := (⟨"LostBets$Past", "keep", "(LLostBets$Town;)V"⟩, prog_7_method_2_code, 2, none, 1, false, (0, 0, 3, 69), (645, 81, 643), [
  [(0, .aload_n 0, 1, [], .null), (1, .aload_n 0, 1, [], .null), (2, .getfield 18, 3, [9, 1, 258], .null), (5, .iconst 1, 1, [], .null), (6, .iadd, 1, [], .null), (7, .bipush 8, 2, [], .null), (9, .irem, 1, [], .null), (10, .putfield 18, 3, [9, 1, 258, 0], .null), (13, .aload_n 0, 1, [], .null), (14, .getfield 11, 3, [9, 0, 257], .null)],
  [(17, .aload_n 0, 1, [], .null), (18, .getfield 18, 3, [9, 1, 258], .null), (21, .aaload, 1, [], .null), (22, .aload_n 1, 1, [], .null), (23, .invokevirtual 22, 3, [1, 23, 7, 646, 373], .null), (26, .aload_n 0, 1, [], .null), (27, .bipush 8, 2, [], .null), (29, .aload_n 0, 1, [], .null), (30, .getfield 26, 3, [9, 2, 259], .null)],
  [(33, .iconst 1, 1, [], .null), (34, .iadd, 1, [], .null), (35, .invokestatic 29, 3, [11, 647, 566, 87, 567], .null), (38, .putfield 26, 3, [9, 2, 259, 0], .null), (41, .return_, 1, [], .null)]])
/-- LostBets.fixes -/
def zm_88 : zz_Mi := (⟨"LostBets", "fixes", "(III)I"⟩, prog_1_method_13_code, 6, some .int, 3, false, (0, 0, 4, 90), (651, 72, 649), [
  [(0, .aload_n 0, 1, [], .null), (1, .getfield 39, 3, [0, 0, 298], .null), (4, .iload_n 1, 1, [], .null), (5, .iload_n 2, 1, [], .null), (6, .iload_n 3, 1, [], .null), (7, .invokevirtual 127, 3, [1, 50, 7, 485, 487], .null), (10, .istore 4, 2, [], .null), (12, .iload 4, 2, [], .null), (14, .ifCond .eq 10, 3, [], .null)],
  [(17, .aload_n 0, 1, [], .null), (18, .iload 4, 2, [], .null), (20, .invokevirtual 70, 3, [1, 13, 0, 333, 0], .null), (23, .ireturn, 1, [], .null), (24, .aload_n 0, 1, [], .null), (25, .getfield 52, 3, [0, 4, 302], .null), (28, .aload_n 0, 1, [], .null), (29, .getfield 39, 3, [0, 0, 298], .null)],
  [(32, .invokevirtual 233, 3, [1, 87, 9, 642, 644], .null), (35, .bipush 10, 2, [], .null), (37, .aload_n 0, 1, [], .null), (38, .getfield 39, 3, [0, 0, 298], .null), (41, .getfield 183, 3, [7, 11, 206], .null), (44, .iload_n 1, 1, [], .null), (45, .iaload, 1, [], .null), (46, .imul, 1, [], .null), (47, .aload_n 0, 1, [], .null)],
  [(48, .getfield 39, 3, [0, 0, 298], .null), (51, .getfield 186, 3, [7, 12, 208], .null), (54, .iload_n 1, 1, [], .null), (55, .iaload, 1, [], .null), (56, .iadd, 1, [], .null), (57, .istore 5, 2, [], .null), (59, .aload_n 0, 1, [], .null), (60, .getfield 39, 3, [0, 0, 298], .null), (63, .iload_n 1, 1, [], .null)],
  [(64, .iload_n 2, 1, [], .null), (65, .iload_n 3, 1, [], .null), (66, .invokevirtual 131, 3, [1, 52, 7, 493, 495], .null), (69, .iload 5, 2, [], .null), (71, .ireturn, 1, [], .null)]])
/-- LostBets.proposes -/
def zm_89 : zz_Mi := (⟨"LostBets", "proposes", "(IIIII)I"⟩, prog_1_method_14_code, 7, some .int, 5, false, (0, 0, 4, 96), (655, 72, 653), [
  [(0, .aload_n 0, 1, [], .null), (1, .getfield 39, 3, [0, 0, 298], .null), (4, .iload_n 1, 1, [], .null), (5, .iload_n 2, 1, [], .null), (6, .iload_n 3, 1, [], .null), (7, .iload 4, 2, [], .null), (9, .iload 5, 2, [], .null), (11, .invokevirtual 142, 3, [1, 54, 7, 501, 503], .null), (14, .istore 6, 2, [], .null)],
  [(16, .iload 6, 2, [], .null), (18, .ifCond .eq 10, 3, [], .null), (21, .aload_n 0, 1, [], .null), (22, .iload 6, 2, [], .null), (24, .invokevirtual 70, 3, [1, 13, 0, 333, 0], .null), (27, .ireturn, 1, [], .null), (28, .aload_n 0, 1, [], .null), (29, .getfield 52, 3, [0, 4, 302], .null)],
  [(32, .aload_n 0, 1, [], .null), (33, .getfield 39, 3, [0, 0, 298], .null), (36, .invokevirtual 233, 3, [1, 87, 9, 642, 644], .null), (39, .aload_n 0, 1, [], .null), (40, .getfield 39, 3, [0, 0, 298], .null), (43, .iload_n 1, 1, [], .null), (44, .iload_n 2, 1, [], .null), (45, .iload_n 3, 1, [], .null), (46, .iload 4, 2, [], .null)],
  [(48, .iload 5, 2, [], .null), (50, .invokevirtual 146, 3, [1, 62, 7, 533, 535], .null), (53, .aload_n 0, 1, [], .null), (54, .getfield 39, 3, [0, 0, 298], .null), (57, .getfield 196, 3, [7, 14, 212], .null), (60, .ireturn, 1, [], .null)]])
/-- LostBets.days -/
def zm_90 : zz_Mi := (⟨"LostBets", "days", "(I)I"⟩, prog_1_method_15_code, 3, some .int, 1, false, (0, 0, 5, 112), (659, 72, 657), [
  [(0, .aload_n 0, 1, [], .null), (1, .getfield 39, 3, [0, 0, 298], .null), (4, .iload_n 1, 1, [], .null), (5, .invokevirtual 150, 3, [1, 63, 7, 537, 539], .null), (8, .istore_n 2, 1, [], .null), (9, .iload_n 2, 1, [], .null), (10, .ifCond .eq 9, 3, [], .null), (13, .aload_n 0, 1, [], .null), (14, .iload_n 2, 1, [], .null), (15, .invokevirtual 70, 3, [1, 13, 0, 333, 0], .null)],
  [(18, .ireturn, 1, [], .null), (19, .aload_n 0, 1, [], .null), (20, .getfield 52, 3, [0, 4, 302], .null), (23, .aload_n 0, 1, [], .null), (24, .getfield 39, 3, [0, 0, 298], .null), (27, .invokevirtual 233, 3, [1, 87, 9, 642, 644], .null), (30, .aload_n 0, 1, [], .null), (31, .getfield 39, 3, [0, 0, 298], .null)],
  [(34, .iload_n 1, 1, [], .null), (35, .invokevirtual 153, 3, [1, 64, 7, 541, 543], .null), (38, .aload_n 0, 1, [], .null), (39, .getfield 39, 3, [0, 0, 298], .null), (42, .iconst 0, 1, [], .null), (43, .invokevirtual 236, 3, [1, 91, 7, 660, 662], .null), (46, .ireturn, 1, [], .null)]])
/-- LostBets$Town.howManyWed -/
def zm_91 : zz_Mi := (⟨"LostBets$Town", "howManyWed", "(I)I"⟩, prog_10_method_40_code, 4, some .int, 1, false, (0, 0, 4, 89), (663, 79, 661), [
  [(0, .iconst 0, 1, [], .null), (1, .istore_n 2, 1, [], .null), (2, .iconst 0, 1, [], .null), (3, .istore_n 3, 1, [], .null), (4, .iload_n 3, 1, [], .null), (5, .aload_n 0, 1, [], .null), (6, .getfield 58, 3, [7, 1, 184], .null), (9, .if_icmp .ge 21, 3, [], .null), (12, .aload_n 0, 1, [], .null), (13, .iload_n 3, 1, [], .null), (14, .iload_n 1, 1, [], .null), (15, .invokevirtual 193, 3, [1, 82, 7, 622, 7], .null)],
  [(18, .ifCond .eq 6, 3, [], .null), (21, .iinc 2 1, 3, [], .null), (24, .iinc 3 1, 3, [], .null), (27, .goto (-23), 3, [], .null), (30, .iload_n 2, 1, [], .null), (31, .ireturn, 1, [], .null)]])
/-- LostBets.back -/
def zm_92 : zz_Mi := (⟨"LostBets", "back", "()I"⟩, prog_1_method_16_code, 1, some .int, 0, false, (0, 0, 4, 90), (667, 72, 665), [
  [(0, .aload_n 0, 1, [], .null), (1, .getfield 52, 3, [0, 4, 302], .null), (4, .getfield 232, 3, [9, 2, 260], .null), (7, .ifCond .ne 10, 3, [], .null), (10, .aload_n 0, 1, [], .null), (11, .bipush (-3), 2, [], .null), (13, .invokevirtual 70, 3, [1, 13, 0, 333, 0], .null)],
  [(16, .ireturn, 1, [], .null), (17, .aload_n 0, 1, [], .null), (18, .getfield 52, 3, [0, 4, 302], .null), (21, .aload_n 0, 1, [], .null), (22, .getfield 39, 3, [0, 0, 298], .null), (25, .invokevirtual 239, 3, [1, 93, 9, 668, 670], .null), (28, .aload_n 0, 1, [], .null), (29, .getfield 52, 3, [0, 4, 302], .null)],
  [(32, .getfield 232, 3, [9, 2, 260], .null), (35, .ireturn, 1, [], .null)]])
/-- LostBets$Past.putBack -/
def zm_93 : zz_Mi := (⟨"LostBets$Past", "putBack", "(LLostBets$Town;)V"⟩, prog_7_method_3_code, 2, none, 1, false, (0, 0, 3, 69), (671, 81, 669), [
  [(0, .aload_n 1, 1, [], .null), (1, .aload_n 0, 1, [], .null), (2, .getfield 11, 3, [9, 0, 257], .null), (5, .aload_n 0, 1, [], .null), (6, .getfield 18, 3, [9, 1, 258], .null), (9, .aaload, 1, [], .null), (10, .invokevirtual 22, 3, [1, 23, 7, 646, 373], .null), (13, .aload_n 0, 1, [], .null), (14, .aload_n 0, 1, [], .null), (15, .getfield 18, 3, [9, 1, 258], .null)],
  [(18, .bipush 8, 2, [], .null), (20, .iadd, 1, [], .null), (21, .iconst 1, 1, [], .null), (22, .isub, 1, [], .null), (23, .bipush 8, 2, [], .null), (25, .irem, 1, [], .null), (26, .putfield 18, 3, [9, 1, 258, 0], .null), (29, .aload_n 0, 1, [], .null), (30, .dup, 1, [], .null), (31, .getfield 26, 3, [9, 2, 259], .null)],
  [(34, .iconst 1, 1, [], .null), (35, .isub, 1, [], .null), (36, .putfield 26, 3, [9, 2, 259, 0], .null), (39, .return_, 1, [], .null)]])
/-- LostBets.image -/
def zm_94 : zz_Mi := (⟨"LostBets", "image", "()I"⟩, prog_1_method_17_code, 1, some .int, 0, false, (0, 0, 3, 69), (675, 72, 673), [
  [(0, .aload_n 0, 1, [], .null), (1, .getfield 46, 3, [0, 2, 300], .null), (4, .aload_n 0, 1, [], .null), (5, .getfield 39, 3, [0, 0, 298], .null), (8, .invokevirtual 93, 3, [1, 23, 7, 371, 373], .null), (11, .aload_n 0, 1, [], .null), (12, .iconst 1, 1, [], .null), (13, .putfield 242, 3, [0, 3, 301, 1], .null)],
  [(16, .aload_n 0, 1, [], .null), (17, .getfield 39, 3, [0, 0, 298], .null), (20, .getfield 189, 3, [7, 15, 214], .null), (23, .ireturn, 1, [], .null)]])
/-- LostBets.restore -/
def zm_95 : zz_Mi := (⟨"LostBets", "restore", "()I"⟩, prog_1_method_18_code, 1, some .int, 0, false, (0, 0, 3, 69), (679, 72, 677), [
  [(0, .aload_n 0, 1, [], .null), (1, .getfield 242, 3, [0, 3, 301], .null), (4, .ifCond .ne 10, 3, [], .null), (7, .aload_n 0, 1, [], .null), (8, .bipush (-3), 2, [], .null), (10, .invokevirtual 70, 3, [1, 13, 0, 333, 0], .null), (13, .ireturn, 1, [], .null), (14, .aload_n 0, 1, [], .null), (15, .getfield 39, 3, [0, 0, 298], .null)],
  [(18, .aload_n 0, 1, [], .null), (19, .getfield 46, 3, [0, 2, 300], .null), (22, .invokevirtual 93, 3, [1, 23, 7, 371, 373], .null), (25, .aload_n 0, 1, [], .null), (26, .getfield 52, 3, [0, 4, 302], .null), (29, .invokevirtual 107, 3, [1, 73, 9, 583, 585], .null)],
  [(32, .aload_n 0, 1, [], .null), (33, .getfield 39, 3, [0, 0, 298], .null), (36, .getfield 189, 3, [7, 15, 214], .null), (39, .ireturn, 1, [], .null)]])
/-- LostBets.personIn -/
def zm_96 : zz_Mi := (⟨"LostBets", "personIn", "(III)I"⟩, prog_1_method_19_code, 4, some .int, 3, false, (0, 0, 5, 112), (683, 72, 681), [
  [(0, .aload_n 0, 1, [], .null), (1, .getfield 39, 3, [0, 0, 298], .null), (4, .iload_n 1, 1, [], .null), (5, .invokevirtual 156, 3, [1, 49, 7, 591, 483], .null), (8, .ifCond .ne 9, 3, [], .null), (11, .aload_n 0, 1, [], .null), (12, .iconst (-1), 1, [], .null), (13, .invokevirtual 70, 3, [1, 13, 0, 333, 0], .null)],
  [(16, .ireturn, 1, [], .null), (17, .iload_n 2, 1, [], .null), (18, .ifCond .ge 10, 3, [], .null), (21, .aload_n 0, 1, [], .null), (22, .bipush (-4), 2, [], .null), (24, .invokevirtual 70, 3, [1, 13, 0, 333, 0], .null), (27, .ireturn, 1, [], .null), (28, .iload_n 2, 1, [], .null), (29, .bipush 60, 2, [], .null), (31, .if_icmp .le 10, 3, [], .null)],
  [(34, .aload_n 0, 1, [], .null), (35, .bipush (-6), 2, [], .null), (37, .invokevirtual 70, 3, [1, 13, 0, 333, 0], .null), (40, .ireturn, 1, [], .null), (41, .iload_n 3, 1, [], .null), (42, .iconst 2, 1, [], .null), (43, .invokestatic 246, 3, [3, 21, 492], .null), (46, .ifCond .ne 10, 3, [], .null)],
  [(49, .aload_n 0, 1, [], .null), (50, .bipush (-2), 2, [], .null), (52, .invokevirtual 70, 3, [1, 13, 0, 333, 0], .null), (55, .ireturn, 1, [], .null), (56, .iload_n 3, 1, [], .null), (57, .ifCond .ne 15, 3, [], .null), (60, .aload_n 0, 1, [], .null), (61, .getfield 39, 3, [0, 0, 298], .null)],
  [(64, .iload_n 1, 1, [], .null), (65, .iload_n 2, 1, [], .null), (66, .invokevirtual 249, 3, [1, 97, 7, 684, 686], .null), (69, .goto 12, 3, [], .null), (72, .aload_n 0, 1, [], .null), (73, .getfield 39, 3, [0, 0, 298], .null), (76, .iload_n 1, 1, [], .null), (77, .iload_n 2, 1, [], .null), (78, .invokevirtual 252, 3, [1, 81, 7, 688, 620], .null)],
  [(81, .ireturn, 1, [], .null)]])
/-- LostBets$Town.wedTo -/
def zm_97 : zz_Mi := (⟨"LostBets$Town", "wedTo", "(II)I"⟩, prog_10_method_38_code, 4, some .int, 2, false, (0, 0, 4, 89), (687, 79, 685), [
  [(0, .aload_n 0, 1, [], .null), (1, .iload_n 1, 1, [], .null), (2, .invokevirtual 187, 3, [1, 59, 7, 521, 523], .null), (5, .istore_n 3, 1, [], .null), (6, .iload_n 3, 1, [], .null), (7, .ifCond .lt 12, 3, [], .null), (10, .aload_n 0, 1, [], .null), (11, .iload_n 1, 1, [], .null), (12, .iload_n 2, 1, [], .null), (13, .invokevirtual 193, 3, [1, 82, 7, 622, 7], .null)],
  [(16, .ifCond .ne 10, 3, [], .null), (19, .aload_n 0, 1, [], .null), (20, .getfield 33, 3, [7, 9, 201], .null), (23, .iload_n 1, 1, [], .null), (24, .iaload, 1, [], .null), (25, .ireturn, 1, [], .null), (26, .aload_n 0, 1, [], .null), (27, .getfield 49, 3, [7, 13, 209], .null), (30, .iload_n 3, 1, [], .null), (31, .aaload, 1, [], .null)],
  [(32, .getfield 120, 3, [8, 0, 158], .null), (35, .iload_n 1, 1, [], .null), (36, .if_icmp .ne 15, 3, [], .null), (39, .aload_n 0, 1, [], .null), (40, .getfield 49, 3, [7, 13, 209], .null), (43, .iload_n 3, 1, [], .null), (44, .aaload, 1, [], .null), (45, .getfield 123, 3, [8, 1, 161], .null)],
  [(48, .goto 12, 3, [], .null), (51, .aload_n 0, 1, [], .null), (52, .getfield 49, 3, [7, 13, 209], .null), (55, .iload_n 3, 1, [], .null), (56, .aaload, 1, [], .null), (57, .getfield 120, 3, [8, 0, 158], .null), (60, .ireturn, 1, [], .null)]])
/-- LostBets.beliefIn -/
def zm_98 : zz_Mi := (⟨"LostBets", "beliefIn", "(III)I"⟩, prog_1_method_20_code, 5, some .int, 3, false, (0, 0, 3, 68), (692, 72, 690), [
  [(0, .aload_n 0, 1, [], .null), (1, .iload_n 1, 1, [], .null), (2, .iload_n 2, 1, [], .null), (3, .iload_n 3, 1, [], .null), (4, .invokevirtual 255, 3, [1, 99, 0, 693, 8], .null), (7, .istore 4, 2, [], .null), (9, .iload 4, 2, [], .null), (11, .ifCond .ne 16, 3, [], .null), (14, .aload_n 0, 1, [], .null), (15, .getfield 39, 3, [0, 0, 298], .null)],
  [(18, .iload_n 1, 1, [], .null), (19, .iload_n 2, 1, [], .null), (20, .iload_n 3, 1, [], .null), (21, .invokevirtual 258, 3, [1, 100, 7, 697, 699], .null), (24, .goto 9, 3, [], .null), (27, .aload_n 0, 1, [], .null), (28, .iload 4, 2, [], .null), (30, .invokevirtual 70, 3, [1, 13, 0, 333, 0], .null)],
  [(33, .ireturn, 1, [], .null)]])
/-- LostBets.refusalOfBeliefIn -/
def zm_99 : zz_Mi := (⟨"LostBets", "refusalOfBeliefIn", "(III)I"⟩, prog_1_method_22_code, 4, some .int, 3, false, (0, 0, 2, 41), (696, 72, 695), [
  [(0, .aload_n 0, 1, [], .null), (1, .getfield 39, 3, [0, 0, 298], .null), (4, .iload_n 1, 1, [], .null), (5, .invokevirtual 156, 3, [1, 49, 7, 591, 483], .null), (8, .ifCond .eq 10, 3, [], .null), (11, .iload_n 2, 1, [], .null), (12, .invokestatic 180, 3, [3, 51, 596], .null), (15, .ifCond .ne 5, 3, [], .null)],
  [(18, .iconst (-1), 1, [], .null), (19, .ireturn, 1, [], .null), (20, .iload_n 3, 1, [], .null), (21, .ifCond .ge 6, 3, [], .null), (24, .bipush (-4), 2, [], .null), (26, .ireturn, 1, [], .null), (27, .iload_n 3, 1, [], .null), (28, .bipush 60, 2, [], .null), (30, .if_icmp .le 8, 3, [], .null)],
  [(33, .bipush (-6), 2, [], .null), (35, .goto 4, 3, [], .null), (38, .iconst 0, 1, [], .null), (39, .ireturn, 1, [], .null)]])
/-- LostBets$Town.beliefOf -/
def zm_100 : zz_Mi := (⟨"LostBets$Town", "beliefOf", "(III)I"⟩, prog_10_method_42_code, 6, some .int, 3, false, (0, 0, 2, 43), (700, 79, 698), [
  [(0, .aload_n 0, 1, [], .null), (1, .getfield 38, 3, [7, 10, 203], .null), (4, .iload_n 1, 1, [], .null), (5, .aaload, 1, [], .null), (6, .iload_n 2, 1, [], .null), (7, .iaload, 1, [], .null), (8, .istore 4, 2, [], .null), (10, .iconst 1, 1, [], .null), (11, .istore 5, 2, [], .null), (13, .iload 5, 2, [], .null), (15, .iload_n 3, 1, [], .null)],
  [(16, .if_icmp .gt 34, 3, [], .null), (19, .iload 4, 2, [], .null), (21, .aload_n 0, 1, [], .null), (22, .getfield 24, 3, [7, 6, 195], .null), (25, .iload_n 1, 1, [], .null), (26, .iaload, 1, [], .null), (27, .aload_n 0, 1, [], .null), (28, .iload_n 2, 1, [], .null), (29, .aload_n 0, 1, [], .null), (30, .getfield 65, 3, [7, 15, 213], .null)],
  [(33, .iload 5, 2, [], .null), (35, .iadd, 1, [], .null), (36, .invokevirtual 161, 3, [1, 67, 7, 553, 555], .null), (39, .invokestatic 164, 3, [3, 72, 576], .null), (42, .istore 4, 2, [], .null), (44, .iinc 5 1, 3, [], .null), (47, .goto (-34), 3, [], .null)],
  [(50, .iload 4, 2, [], .null), (52, .ireturn, 1, [], .null)]])
/-- LostBets.hope -/
def zm_101 : zz_Mi := (⟨"LostBets", "hope", "(III)I"⟩, prog_1_method_21_code, 5, some .int, 3, false, (0, 0, 3, 68), (704, 72, 702), [
  [(0, .aload_n 0, 1, [], .null), (1, .iload_n 1, 1, [], .null), (2, .iload_n 2, 1, [], .null), (3, .iload_n 3, 1, [], .null), (4, .invokevirtual 255, 3, [1, 99, 0, 693, 8], .null), (7, .istore 4, 2, [], .null), (9, .iload 4, 2, [], .null), (11, .ifCond .eq 14, 3, [], .null), (14, .ldc_w 261, 3, [705], .int 1000000000)],
  [(17, .aload_n 0, 1, [], .null), (18, .iload 4, 2, [], .null), (20, .invokevirtual 70, 3, [1, 13, 0, 333, 0], .null), (23, .isub, 1, [], .null), (24, .ireturn, 1, [], .null), (25, .aload_n 0, 1, [], .null), (26, .getfield 39, 3, [0, 0, 298], .null), (29, .iload_n 1, 1, [], .null), (30, .iload_n 2, 1, [], .null), (31, .iload_n 3, 1, [], .null)],
  [(32, .invokevirtual 258, 3, [1, 100, 7, 697, 699], .null), (35, .aload_n 0, 1, [], .null), (36, .getfield 39, 3, [0, 0, 298], .null), (39, .getfield 138, 3, [7, 10, 204], .null), (42, .iload_n 1, 1, [], .null), (43, .aaload, 1, [], .null), (44, .iload_n 2, 1, [], .null), (45, .iaload, 1, [], .null), (46, .isub, 1, [], .null), (47, .ireturn, 1, [], .null)]])
/-- LostBets.wedIn -/
def zm_102 : zz_Mi := (⟨"LostBets", "wedIn", "(I)I"⟩, prog_1_method_23_code, 2, some .int, 1, false, (0, 0, 5, 112), (709, 72, 707), [
  [(0, .iload_n 1, 1, [], .null), (1, .ifCond .ge 10, 3, [], .null), (4, .aload_n 0, 1, [], .null), (5, .bipush (-4), 2, [], .null), (7, .invokevirtual 70, 3, [1, 13, 0, 333, 0], .null), (10, .ireturn, 1, [], .null), (11, .iload_n 1, 1, [], .null), (12, .bipush 60, 2, [], .null), (14, .if_icmp .le 10, 3, [], .null)],
  [(17, .aload_n 0, 1, [], .null), (18, .bipush (-6), 2, [], .null), (20, .invokevirtual 70, 3, [1, 13, 0, 333, 0], .null), (23, .ireturn, 1, [], .null), (24, .aload_n 0, 1, [], .null), (25, .getfield 39, 3, [0, 0, 298], .null), (28, .iload_n 1, 1, [], .null), (29, .invokevirtual 236, 3, [1, 91, 7, 660, 662], .null)],
  [(32, .ireturn, 1, [], .null)]])
/-- LostBets.wedWhen -/
def zm_103 : zz_Mi := (⟨"LostBets", "wedWhen", "(I)I"⟩, prog_1_method_24_code, 2, some .int, 1, false, (0, 0, 4, 90), (713, 72, 711), [
  [(0, .iload_n 1, 1, [], .null), (1, .iconst (-1), 1, [], .null), (2, .if_icmp .ne 8, 3, [], .null), (5, .aload_n 0, 1, [], .null), (6, .invokevirtual 262, 3, [1, 104, 0, 714, 9], .null), (9, .ireturn, 1, [], .null), (10, .aload_n 0, 1, [], .null), (11, .getfield 39, 3, [0, 0, 298], .null), (14, .iload_n 1, 1, [], .null), (15, .invokevirtual 156, 3, [1, 49, 7, 591, 483], .null)],
  [(18, .ifCond .ne 9, 3, [], .null), (21, .aload_n 0, 1, [], .null), (22, .iconst (-1), 1, [], .null), (23, .invokevirtual 70, 3, [1, 13, 0, 333, 0], .null), (26, .ireturn, 1, [], .null), (27, .aload_n 0, 1, [], .null), (28, .getfield 39, 3, [0, 0, 298], .null), (31, .iload_n 1, 1, [], .null)],
  [(32, .invokevirtual 265, 3, [1, 83, 7, 718, 628], .null), (35, .ireturn, 1, [], .null)]])
/-- LostBets.firstToWed -/
def zm_104 : zz_Mi := (⟨"LostBets", "firstToWed", "()I"⟩, prog_1_method_25_code, 5, some .int, 0, false, (0, 0, 3, 66), (717, 72, 716), [
  [(0, .bipush (-9), 2, [], .null), (2, .istore_n 1, 1, [], .null), (3, .bipush 61, 2, [], .null), (5, .istore_n 2, 1, [], .null), (6, .iconst 0, 1, [], .null), (7, .istore_n 3, 1, [], .null), (8, .iload_n 3, 1, [], .null), (9, .aload_n 0, 1, [], .null), (10, .getfield 39, 3, [0, 0, 298], .null), (13, .getfield 220, 3, [7, 1, 186], .null)],
  [(16, .if_icmp .ge 35, 3, [], .null), (19, .aload_n 0, 1, [], .null), (20, .getfield 39, 3, [0, 0, 298], .null), (23, .iload_n 3, 1, [], .null), (24, .invokevirtual 265, 3, [1, 83, 7, 718, 628], .null), (27, .istore 4, 2, [], .null), (29, .iload 4, 2, [], .null), (31, .ifCond .le 14, 3, [], .null)],
  [(34, .iload 4, 2, [], .null), (36, .iload_n 2, 1, [], .null), (37, .if_icmp .ge 8, 3, [], .null), (40, .iload 4, 2, [], .null), (42, .istore_n 2, 1, [], .null), (43, .iload_n 3, 1, [], .null), (44, .istore_n 1, 1, [], .null), (45, .iinc 3 1, 3, [], .null)],
  [(48, .goto (-40), 3, [], .null), (51, .iload_n 1, 1, [], .null), (52, .ireturn, 1, [], .null)]])
/-- LostBets.happens -/
def zm_105 : zz_Mi := (⟨"LostBets", "happens", "(II)I"⟩, prog_1_method_26_code, 5, some .int, 2, false, (0, 0, 2, 41), (722, 72, 720), [
  [(0, .iload_n 1, 1, [], .null), (1, .invokestatic 180, 3, [3, 51, 596], .null), (4, .ifCond .ne 9, 3, [], .null), (7, .aload_n 0, 1, [], .null), (8, .iconst (-1), 1, [], .null), (9, .invokevirtual 70, 3, [1, 13, 0, 333, 0], .null), (12, .ireturn, 1, [], .null), (13, .iload_n 2, 1, [], .null), (14, .ifCond .ge 10, 3, [], .null)],
  [(17, .aload_n 0, 1, [], .null), (18, .bipush (-4), 2, [], .null), (20, .invokevirtual 70, 3, [1, 13, 0, 333, 0], .null), (23, .ireturn, 1, [], .null), (24, .iload_n 2, 1, [], .null), (25, .bipush 60, 2, [], .null), (27, .if_icmp .le 10, 3, [], .null), (30, .aload_n 0, 1, [], .null), (31, .bipush (-6), 2, [], .null)],
  [(33, .invokevirtual 70, 3, [1, 13, 0, 333, 0], .null), (36, .ireturn, 1, [], .null), (37, .iconst 0, 1, [], .null), (38, .istore_n 3, 1, [], .null), (39, .iconst 1, 1, [], .null), (40, .istore 4, 2, [], .null), (42, .iload 4, 2, [], .null), (44, .iload_n 2, 1, [], .null), (45, .if_icmp .gt 33, 3, [], .null)],
  [(48, .aload_n 0, 1, [], .null), (49, .getfield 39, 3, [0, 0, 298], .null), (52, .iload_n 1, 1, [], .null), (53, .aload_n 0, 1, [], .null), (54, .getfield 39, 3, [0, 0, 298], .null), (57, .getfield 189, 3, [7, 15, 214], .null), (60, .iload 4, 2, [], .null), (62, .iadd, 1, [], .null), (63, .invokevirtual 192, 3, [1, 67, 7, 601, 555], .null)],
  [(66, .ifCond .eq 6, 3, [], .null), (69, .iinc 3 1, 3, [], .null), (72, .iinc 4 1, 3, [], .null), (75, .goto (-33), 3, [], .null), (78, .iload_n 3, 1, [], .null), (79, .ireturn, 1, [], .null)]])
/-- LostBets.bet -/
def zm_106 : zz_Mi := (⟨"LostBets", "bet", "(II)I"⟩, prog_1_method_27_code, 3, some .int, 2, false, (0, 0, 4, 96), (726, 72, 724), [
  [(0, .aload_n 0, 1, [], .null), (1, .getfield 39, 3, [0, 0, 298], .null), (4, .iload_n 1, 1, [], .null), (5, .iload_n 2, 1, [], .null), (6, .invokevirtual 268, 3, [1, 55, 7, 727, 507], .null), (9, .ifCond .ne 9, 3, [], .null), (12, .aload_n 0, 1, [], .null), (13, .iconst (-1), 1, [], .null), (14, .invokevirtual 70, 3, [1, 13, 0, 333, 0], .null)],
  [(17, .ireturn, 1, [], .null), (18, .aload_n 0, 1, [], .null), (19, .getfield 39, 3, [0, 0, 298], .null), (22, .iload_n 1, 1, [], .null), (23, .iload_n 2, 1, [], .null), (24, .invokevirtual 271, 3, [1, 107, 7, 728, 730], .null), (27, .ireturn, 1, [], .null)]])
/-- LostBets$Town.bestBet -/
def zm_107 : zz_Mi := (⟨"LostBets$Town", "bestBet", "(II)I"⟩, prog_10_method_29_code, 6, some .int, 2, false, (0, 0, 3, 71), (731, 79, 729), [
  [(0, .iconst 1, 1, [], .null), (1, .istore_n 3, 1, [], .null), (2, .iload_n 3, 1, [], .null), (3, .bipush 9, 2, [], .null), (5, .if_icmp .gt 73, 3, [], .null), (8, .iconst 0, 1, [], .null), (9, .istore 4, 2, [], .null), (11, .iload 4, 2, [], .null), (13, .iconst 5, 1, [], .null), (14, .if_icmp .ge 58, 3, [], .null)],
  [(17, .aload_n 0, 1, [], .null), (18, .iload 4, 2, [], .null), (20, .aload_n 0, 1, [], .null), (21, .getfield 65, 3, [7, 15, 213], .null), (24, .iload_n 3, 1, [], .null), (25, .iadd, 1, [], .null), (26, .invokevirtual 161, 3, [1, 67, 7, 553, 555], .null), (29, .ifCond .eq 7, 3, [], .null)],
  [(32, .iconst 0, 1, [], .null), (33, .goto 4, 3, [], .null), (36, .iconst 1, 1, [], .null), (37, .istore 5, 2, [], .null), (39, .aload_n 0, 1, [], .null), (40, .iload_n 1, 1, [], .null), (41, .iload_n 2, 1, [], .null), (42, .iload 4, 2, [], .null), (44, .iload 5, 2, [], .null), (46, .invokevirtual 116, 3, [1, 56, 7, 509, 511], .null)],
  [(49, .ifCond .eq 17, 3, [], .null), (52, .bipush 100, 2, [], .null), (54, .iload 4, 2, [], .null), (56, .imul, 1, [], .null), (57, .bipush 10, 2, [], .null), (59, .iload 5, 2, [], .null), (61, .imul, 1, [], .null), (62, .iadd, 1, [], .null), (63, .iload_n 3, 1, [], .null)],
  [(64, .iadd, 1, [], .null), (65, .ireturn, 1, [], .null), (66, .iinc 4 1, 3, [], .null), (69, .goto (-58), 3, [], .null), (72, .iinc 3 1, 3, [], .null), (75, .goto (-73), 3, [], .null), (78, .bipush (-9), 2, [], .null)],
  [(80, .ireturn, 1, [], .null)]])
/-- LostBets.takers -/
def zm_108 : zz_Mi := (⟨"LostBets", "takers", "(III)I"⟩, prog_1_method_28_code, 6, some .int, 3, false, (0, 0, 2, 47), (735, 72, 733), [
  [(0, .aload_n 0, 1, [], .null), (1, .getfield 39, 3, [0, 0, 298], .null), (4, .iload_n 1, 1, [], .null), (5, .invokevirtual 156, 3, [1, 49, 7, 591, 483], .null), (8, .ifCond .eq 10, 3, [], .null), (11, .iload_n 2, 1, [], .null), (12, .invokestatic 180, 3, [3, 51, 596], .null), (15, .ifCond .ne 9, 3, [], .null)],
  [(18, .aload_n 0, 1, [], .null), (19, .iconst (-1), 1, [], .null), (20, .invokevirtual 70, 3, [1, 13, 0, 333, 0], .null), (23, .ireturn, 1, [], .null), (24, .iload_n 3, 1, [], .null), (25, .iconst 2, 1, [], .null), (26, .invokestatic 246, 3, [3, 21, 492], .null), (29, .ifCond .ne 10, 3, [], .null)],
  [(32, .aload_n 0, 1, [], .null), (33, .bipush (-2), 2, [], .null), (35, .invokevirtual 70, 3, [1, 13, 0, 333, 0], .null), (38, .ireturn, 1, [], .null), (39, .iconst 0, 1, [], .null), (40, .istore 4, 2, [], .null), (42, .iconst 0, 1, [], .null), (43, .istore 5, 2, [], .null), (45, .iload 5, 2, [], .null), (47, .aload_n 0, 1, [], .null)],
  [(48, .getfield 39, 3, [0, 0, 298], .null), (51, .getfield 220, 3, [7, 1, 186], .null), (54, .if_icmp .ge 39, 3, [], .null), (57, .iload 5, 2, [], .null), (59, .iload_n 1, 1, [], .null), (60, .if_icmp .eq 27, 3, [], .null), (63, .aload_n 0, 1, [], .null)],
  [(64, .getfield 39, 3, [0, 0, 298], .null), (67, .iload 5, 2, [], .null), (69, .iload_n 1, 1, [], .null), (70, .iload_n 2, 1, [], .null), (71, .iload_n 3, 1, [], .null), (72, .invokevirtual 274, 3, [1, 61, 7, 736, 531], .null), (75, .ifCond .eq 12, 3, [], .null), (78, .iload 4, 2, [], .null)],
  [(80, .iconst 1, 1, [], .null), (81, .iload 5, 2, [], .null), (83, .ishl, 1, [], .null), (84, .ior, 1, [], .null), (85, .istore 4, 2, [], .null), (87, .iinc 5 1, 3, [], .null), (90, .goto (-45), 3, [], .null), (93, .iload 4, 2, [], .null), (95, .ireturn, 1, [], .null)]])
/-- LostBets.wooers -/
def zm_109 : zz_Mi := (⟨"LostBets", "wooers", "(I)I"⟩, prog_1_method_29_code, 2, some .int, 1, false, (0, 0, 5, 119), (740, 72, 738), [
  [(0, .aload_n 0, 1, [], .null), (1, .getfield 39, 3, [0, 0, 298], .null), (4, .iload_n 1, 1, [], .null), (5, .invokevirtual 156, 3, [1, 49, 7, 591, 483], .null), (8, .ifCond .eq 14, 3, [], .null), (11, .aload_n 0, 1, [], .null), (12, .getfield 39, 3, [0, 0, 298], .null), (15, .iload_n 1, 1, [], .null)],
  [(16, .invokevirtual 278, 3, [1, 110, 7, 741, 743], .null), (19, .goto 8, 3, [], .null), (22, .aload_n 0, 1, [], .null), (23, .iconst (-1), 1, [], .null), (24, .invokevirtual 70, 3, [1, 13, 0, 333, 0], .null), (27, .ireturn, 1, [], .null)]])
/-- LostBets$Town.wooerBits -/
def zm_110 : zz_Mi := (⟨"LostBets$Town", "wooerBits", "(I)I"⟩, prog_10_method_30_code, 4, some .int, 1, false, (0, 0, 4, 96), (744, 79, 742), [
  [(0, .iconst 0, 1, [], .null), (1, .istore_n 2, 1, [], .null), (2, .iconst 0, 1, [], .null), (3, .istore_n 3, 1, [], .null), (4, .iload_n 3, 1, [], .null), (5, .aload_n 0, 1, [], .null), (6, .getfield 58, 3, [7, 1, 184], .null), (9, .if_icmp .ge 31, 3, [], .null), (12, .iload_n 3, 1, [], .null), (13, .iload_n 1, 1, [], .null), (14, .if_icmp .eq 20, 3, [], .null)],
  [(17, .aload_n 0, 1, [], .null), (18, .iload_n 3, 1, [], .null), (19, .iload_n 1, 1, [], .null), (20, .invokevirtual 181, 3, [1, 107, 7, 745, 730], .null), (23, .bipush (-9), 2, [], .null), (25, .if_icmp .eq 9, 3, [], .null), (28, .iload_n 2, 1, [], .null), (29, .iconst 1, 1, [], .null), (30, .iload_n 3, 1, [], .null), (31, .ishl, 1, [], .null)],
  [(32, .ior, 1, [], .null), (33, .istore_n 2, 1, [], .null), (34, .iinc 3 1, 3, [], .null), (37, .goto (-33), 3, [], .null), (40, .iload_n 2, 1, [], .null), (41, .ireturn, 1, [], .null)]])
/-- LostBets.match -/
def zm_111 : zz_Mi := (⟨"LostBets", "match", "(I)I"⟩, prog_1_method_30_code, 2, some .int, 1, false, (0, 0, 6, 143), (749, 72, 747), [
  [(0, .iload_n 1, 1, [], .null), (1, .iconst (-1), 1, [], .null), (2, .if_icmp .eq 20, 3, [], .null), (5, .aload_n 0, 1, [], .null), (6, .getfield 39, 3, [0, 0, 298], .null), (9, .iload_n 1, 1, [], .null), (10, .invokevirtual 156, 3, [1, 49, 7, 591, 483], .null), (13, .ifCond .ne 9, 3, [], .null)],
  [(16, .aload_n 0, 1, [], .null), (17, .iconst (-1), 1, [], .null), (18, .invokevirtual 70, 3, [1, 13, 0, 333, 0], .null), (21, .ireturn, 1, [], .null), (22, .aload_n 0, 1, [], .null), (23, .getfield 66, 3, [0, 6, 304], .null), (26, .aload_n 0, 1, [], .null), (27, .getfield 39, 3, [0, 0, 298], .null), (30, .invokevirtual 281, 3, [1, 112, 11, 750, 752], .null)],
  [(33, .iload_n 1, 1, [], .null), (34, .iconst (-1), 1, [], .null), (35, .if_icmp .ne 13, 3, [], .null), (38, .aload_n 0, 1, [], .null), (39, .getfield 66, 3, [0, 6, 304], .null), (42, .invokevirtual 284, 3, [1, 115, 11, 764, 766], .null), (45, .goto 11, 3, [], .null)],
  [(48, .aload_n 0, 1, [], .null), (49, .getfield 66, 3, [0, 6, 304], .null), (52, .iload_n 1, 1, [], .null), (53, .invokevirtual 287, 3, [1, 116, 11, 768, 770], .null), (56, .ireturn, 1, [], .null)]])
/-- LostBets$Twos.reckon -/
def zm_112 : zz_Mi := (⟨"LostBets$Twos", "reckon", "(LLostBets$Town;)V"⟩, prog_11_method_2_code, 5, none, 1, false, (0, 0, 5, 119), (753, 83, 751), [
  [(0, .aload_n 0, 1, [], .null), (1, .iconst 1, 1, [], .null), (2, .aload_n 1, 1, [], .null), (3, .getfield 18, 3, [7, 1, 185], .null), (6, .ishl, 1, [], .null), (7, .iconst 1, 1, [], .null), (8, .isub, 1, [], .null), (9, .putfield 24, 3, [11, 2, 290, 0], .null), (12, .aload_n 0, 1, [], .null), (13, .getfield 9, 3, [11, 0, 288], .null)],
  [(16, .iconst 0, 1, [], .null), (17, .invokestatic 27, 3, [3, 47, 754], .null), (20, .iconst 0, 1, [], .null), (21, .istore_n 2, 1, [], .null), (22, .iload_n 2, 1, [], .null), (23, .aload_n 1, 1, [], .null), (24, .getfield 18, 3, [7, 1, 185], .null), (27, .if_icmp .ge 65, 3, [], .null), (30, .aload_n 1, 1, [], .null), (31, .iload_n 2, 1, [], .null)],
  [(32, .invokevirtual 33, 3, [1, 110, 7, 755, 743], .null), (35, .istore_n 3, 1, [], .null), (36, .aload_n 0, 1, [], .null), (37, .getfield 9, 3, [11, 0, 288], .null), (40, .iload_n 2, 1, [], .null), (41, .dup2, 1, [], .null), (42, .iaload, 1, [], .null), (43, .iload_n 3, 1, [], .null), (44, .ior, 1, [], .null), (45, .iastore, 1, [], .null), (46, .iconst 0, 1, [], .null), (47, .istore 4, 2, [], .null)],
  [(49, .iload 4, 2, [], .null), (51, .aload_n 1, 1, [], .null), (52, .getfield 18, 3, [7, 1, 185], .null), (55, .if_icmp .ge 31, 3, [], .null), (58, .iload_n 3, 1, [], .null), (59, .iload 4, 2, [], .null), (61, .invokestatic 37, 3, [3, 113, 756], .null)],
  [(64, .ifCond .eq 16, 3, [], .null), (67, .aload_n 0, 1, [], .null), (68, .getfield 9, 3, [11, 0, 288], .null), (71, .iload 4, 2, [], .null), (73, .dup2, 1, [], .null), (74, .iaload, 1, [], .null), (75, .iconst 1, 1, [], .null), (76, .iload_n 2, 1, [], .null), (77, .ishl, 1, [], .null), (78, .ior, 1, [], .null), (79, .iastore, 1, [], .null)],
  [(80, .iinc 4 1, 3, [], .null), (83, .goto (-34), 3, [], .null), (86, .iinc 2 1, 3, [], .null), (89, .goto (-67), 3, [], .null), (92, .iconst 1, 1, [], .null), (93, .istore_n 2, 1, [], .null), (94, .iload_n 2, 1, [], .null), (95, .aload_n 0, 1, [], .null)],
  [(96, .getfield 24, 3, [11, 2, 290], .null), (99, .if_icmp .gt 20, 3, [], .null), (102, .aload_n 0, 1, [], .null), (103, .getfield 15, 3, [11, 1, 289], .null), (106, .iload_n 2, 1, [], .null), (107, .aload_n 0, 1, [], .null), (108, .iload_n 2, 1, [], .null), (109, .invokevirtual 41, 3, [1, 114, 11, 759, 10], .null)],
  [(112, .iastore, 1, [], .null), (113, .iinc 2 1, 3, [], .null), (116, .goto (-22), 3, [], .null), (119, .return_, 1, [], .null)]])
/-- LostBets$Twos.isIn -/
def zm_113 : zz_Mi := (⟨"LostBets$Twos", "isIn", "(II)Z"⟩, prog_11_method_7_code, 2, some .boolean, 2, true, (0, 0, 0, 0), (758, 83, 757), [
  [(0, .iload_n 0, 1, [], .null), (1, .iload_n 1, 1, [], .null), (2, .ishr, 1, [], .null), (3, .iconst 1, 1, [], .null), (4, .iand, 1, [], .null), (5, .iconst 1, 1, [], .null), (6, .if_icmp .ne 7, 3, [], .null), (9, .iconst 1, 1, [], .null), (10, .goto 4, 3, [], .null), (13, .iconst 0, 1, [], .null), (14, .ireturn, 1, [], .null)]])
/-- LostBets$Twos.mostIn -/
def zm_114 : zz_Mi := (⟨"LostBets$Twos", "mostIn", "(I)I"⟩, prog_11_method_3_code, 6, some .int, 1, false, (0, 0, 1, 21), (762, 83, 761), [
  [(0, .iconst 0, 1, [], .null), (1, .istore_n 2, 1, [], .null), (2, .iload_n 2, 1, [], .null), (3, .bipush 6, 2, [], .null), (5, .if_icmp .ge 17, 3, [], .null), (8, .iload_n 1, 1, [], .null), (9, .iload_n 2, 1, [], .null), (10, .invokestatic 37, 3, [3, 113, 756], .null), (13, .ifCond .ne 9, 3, [], .null)],
  [(16, .iinc 2 1, 3, [], .null), (19, .goto (-17), 3, [], .null), (22, .iload_n 1, 1, [], .null), (23, .iconst 1, 1, [], .null), (24, .iload_n 2, 1, [], .null), (25, .ishl, 1, [], .null), (26, .iconst (-1), 1, [], .null), (27, .ixor, 1, [], .null), (28, .iand, 1, [], .null), (29, .istore_n 3, 1, [], .null), (30, .aload_n 0, 1, [], .null), (31, .getfield 15, 3, [11, 1, 289], .null)],
  [(34, .iload_n 3, 1, [], .null), (35, .iaload, 1, [], .null), (36, .istore 4, 2, [], .null), (38, .iconst 0, 1, [], .null), (39, .istore 5, 2, [], .null), (41, .iload 5, 2, [], .null), (43, .bipush 7, 2, [], .null), (45, .if_icmp .ge 47, 3, [], .null)],
  [(48, .iload_n 3, 1, [], .null), (49, .aload_n 0, 1, [], .null), (50, .getfield 9, 3, [11, 0, 288], .null), (53, .iload_n 2, 1, [], .null), (54, .iaload, 1, [], .null), (55, .iand, 1, [], .null), (56, .iload 5, 2, [], .null), (58, .invokestatic 37, 3, [3, 113, 756], .null), (61, .ifCond .eq 25, 3, [], .null)],
  [(64, .iload 4, 2, [], .null), (66, .iconst 1, 1, [], .null), (67, .aload_n 0, 1, [], .null), (68, .getfield 15, 3, [11, 1, 289], .null), (71, .iload_n 3, 1, [], .null), (72, .iconst 1, 1, [], .null), (73, .iload 5, 2, [], .null), (75, .ishl, 1, [], .null), (76, .iconst (-1), 1, [], .null), (77, .ixor, 1, [], .null), (78, .iand, 1, [], .null), (79, .iaload, 1, [], .null)],
  [(80, .iadd, 1, [], .null), (81, .invokestatic 44, 3, [10, 763, 580, 87, 581], .null), (84, .istore 4, 2, [], .null), (86, .iinc 5 1, 3, [], .null), (89, .goto (-48), 3, [], .null), (92, .iload 4, 2, [], .null), (94, .ireturn, 1, [], .null)]])
/-- LostBets$Twos.most -/
def zm_115 : zz_Mi := (⟨"LostBets$Twos", "most", "()I"⟩, prog_11_method_4_code, 1, some .int, 0, false, (0, 0, 0, 0), (767, 83, 765), [
  [(0, .aload_n 0, 1, [], .null), (1, .getfield 15, 3, [11, 1, 289], .null), (4, .aload_n 0, 1, [], .null), (5, .getfield 24, 3, [11, 2, 290], .null), (8, .iaload, 1, [], .null), (9, .ireturn, 1, [], .null)]])
/-- LostBets$Twos.partnerOf -/
def zm_116 : zz_Mi := (⟨"LostBets$Twos", "partnerOf", "(I)I"⟩, prog_11_method_5_code, 5, some .int, 1, false, (0, 0, 2, 45), (771, 83, 769), [
  [(0, .aload_n 0, 1, [], .null), (1, .getfield 24, 3, [11, 2, 290], .null), (4, .istore_n 2, 1, [], .null), (5, .iconst 0, 1, [], .null), (6, .istore_n 3, 1, [], .null), (7, .iload_n 3, 1, [], .null), (8, .bipush 7, 2, [], .null), (10, .if_icmp .ge 68, 3, [], .null), (13, .iload_n 2, 1, [], .null), (14, .iload_n 3, 1, [], .null), (15, .invokestatic 37, 3, [3, 113, 756], .null)],
  [(18, .ifCond .ne 6, 3, [], .null), (21, .goto 51, 3, [], .null), (24, .aload_n 0, 1, [], .null), (25, .iload_n 2, 1, [], .null), (26, .iload_n 3, 1, [], .null), (27, .invokevirtual 50, 3, [1, 117, 11, 772, 11], .null), (30, .istore 4, 2, [], .null)],
  [(32, .iload_n 3, 1, [], .null), (33, .iload_n 1, 1, [], .null), (34, .if_icmp .ne 6, 3, [], .null), (37, .iload 4, 2, [], .null), (39, .ireturn, 1, [], .null), (40, .iload 4, 2, [], .null), (42, .iload_n 1, 1, [], .null), (43, .if_icmp .ne 5, 3, [], .null), (46, .iload_n 3, 1, [], .null), (47, .ireturn, 1, [], .null)],
  [(48, .iload_n 2, 1, [], .null), (49, .iconst 1, 1, [], .null), (50, .iload_n 3, 1, [], .null), (51, .ishl, 1, [], .null), (52, .iconst (-1), 1, [], .null), (53, .ixor, 1, [], .null), (54, .iand, 1, [], .null), (55, .istore_n 2, 1, [], .null), (56, .iload 4, 2, [], .null), (58, .bipush (-9), 2, [], .null), (60, .if_icmp .eq 12, 3, [], .null), (63, .iload_n 2, 1, [], .null)],
  [(64, .iconst 1, 1, [], .null), (65, .iload 4, 2, [], .null), (67, .ishl, 1, [], .null), (68, .iconst (-1), 1, [], .null), (69, .ixor, 1, [], .null), (70, .iand, 1, [], .null), (71, .istore_n 2, 1, [], .null), (72, .iinc 3 1, 3, [], .null), (75, .goto (-68), 3, [], .null), (78, .bipush (-9), 2, [], .null)],
  [(80, .ireturn, 1, [], .null)]])
/-- LostBets$Twos.firstPartner -/
def zm_117 : zz_Mi := (⟨"LostBets$Twos", "firstPartner", "(II)I"⟩, prog_11_method_6_code, 5, some .int, 2, false, (0, 0, 1, 21), (775, 83, 774), [
  [(0, .iload_n 1, 1, [], .null), (1, .iconst 1, 1, [], .null), (2, .iload_n 2, 1, [], .null), (3, .ishl, 1, [], .null), (4, .iconst (-1), 1, [], .null), (5, .ixor, 1, [], .null), (6, .iand, 1, [], .null), (7, .istore_n 3, 1, [], .null), (8, .iconst 0, 1, [], .null), (9, .istore 4, 2, [], .null), (11, .iload 4, 2, [], .null), (13, .bipush 7, 2, [], .null), (15, .if_icmp .ge 52, 3, [], .null)],
  [(18, .iload_n 3, 1, [], .null), (19, .aload_n 0, 1, [], .null), (20, .getfield 9, 3, [11, 0, 288], .null), (23, .iload_n 2, 1, [], .null), (24, .iaload, 1, [], .null), (25, .iand, 1, [], .null), (26, .iload 4, 2, [], .null), (28, .invokestatic 37, 3, [3, 113, 756], .null), (31, .ifCond .eq 30, 3, [], .null)],
  [(34, .iconst 1, 1, [], .null), (35, .aload_n 0, 1, [], .null), (36, .getfield 15, 3, [11, 1, 289], .null), (39, .iload_n 3, 1, [], .null), (40, .iconst 1, 1, [], .null), (41, .iload 4, 2, [], .null), (43, .ishl, 1, [], .null), (44, .iconst (-1), 1, [], .null), (45, .ixor, 1, [], .null), (46, .iand, 1, [], .null), (47, .iaload, 1, [], .null)],
  [(48, .iadd, 1, [], .null), (49, .aload_n 0, 1, [], .null), (50, .getfield 15, 3, [11, 1, 289], .null), (53, .iload_n 1, 1, [], .null), (54, .iaload, 1, [], .null), (55, .if_icmp .ne 6, 3, [], .null), (58, .iload 4, 2, [], .null), (60, .ireturn, 1, [], .null), (61, .iinc 4 1, 3, [], .null)],
  [(64, .goto (-53), 3, [], .null), (67, .bipush (-9), 2, [], .null), (69, .ireturn, 1, [], .null)]])
/-- LostBets.fix -/
def zm_118 : zz_Mi := (⟨"LostBets", "fix", "(I)I"⟩, prog_1_method_31_code, 7, some .int, 1, false, (0, 0, 5, 112), (779, 72, 777), [
  [(0, .iload_n 1, 1, [], .null), (1, .ifCond .ge 10, 3, [], .null), (4, .aload_n 0, 1, [], .null), (5, .bipush (-4), 2, [], .null), (7, .invokevirtual 70, 3, [1, 13, 0, 333, 0], .null), (10, .ireturn, 1, [], .null), (11, .iload_n 1, 1, [], .null), (12, .bipush 30, 2, [], .null), (14, .if_icmp .le 10, 3, [], .null)],
  [(17, .aload_n 0, 1, [], .null), (18, .bipush (-6), 2, [], .null), (20, .invokevirtual 70, 3, [1, 13, 0, 333, 0], .null), (23, .ireturn, 1, [], .null), (24, .aload_n 0, 1, [], .null), (25, .getfield 43, 3, [0, 1, 299], .null), (28, .aload_n 0, 1, [], .null), (29, .getfield 39, 3, [0, 0, 298], .null)],
  [(32, .invokevirtual 93, 3, [1, 23, 7, 371, 373], .null), (35, .bipush (-9), 2, [], .null), (37, .istore_n 2, 1, [], .null), (38, .aload_n 0, 1, [], .null), (39, .getfield 39, 3, [0, 0, 298], .null), (42, .iload_n 1, 1, [], .null), (43, .invokevirtual 236, 3, [1, 91, 7, 660, 662], .null), (46, .istore_n 3, 1, [], .null), (47, .iconst 0, 1, [], .null)],
  [(48, .istore 4, 2, [], .null), (50, .iload 4, 2, [], .null), (52, .iconst 5, 1, [], .null), (53, .if_icmp .ge 85, 3, [], .null), (56, .iconst 0, 1, [], .null), (57, .istore 5, 2, [], .null), (59, .iload 5, 2, [], .null), (61, .bipush 8, 2, [], .null), (63, .if_icmp .gt 49, 3, [], .null)],
  [(66, .aload_n 0, 1, [], .null), (67, .getfield 43, 3, [0, 1, 299], .null), (70, .getfield 186, 3, [7, 12, 208], .null), (73, .iload 4, 2, [], .null), (75, .iload 5, 2, [], .null), (77, .iastore, 1, [], .null), (78, .aload_n 0, 1, [], .null), (79, .getfield 43, 3, [0, 1, 299], .null)],
  [(82, .iload_n 1, 1, [], .null), (83, .invokevirtual 236, 3, [1, 91, 7, 660, 662], .null), (86, .istore 6, 2, [], .null), (88, .iload 6, 2, [], .null), (90, .iload_n 3, 1, [], .null), (91, .if_icmp .le 15, 3, [], .null), (94, .iload 6, 2, [], .null)],
  [(96, .istore_n 3, 1, [], .null), (97, .bipush 10, 2, [], .null), (99, .iload 4, 2, [], .null), (101, .imul, 1, [], .null), (102, .iload 5, 2, [], .null), (104, .iadd, 1, [], .null), (105, .istore_n 2, 1, [], .null), (106, .iinc 5 1, 3, [], .null), (109, .goto (-50), 3, [], .null)],
  [(112, .aload_n 0, 1, [], .null), (113, .getfield 43, 3, [0, 1, 299], .null), (116, .getfield 186, 3, [7, 12, 208], .null), (119, .iload 4, 2, [], .null), (121, .aload_n 0, 1, [], .null), (122, .getfield 39, 3, [0, 0, 298], .null), (125, .getfield 186, 3, [7, 12, 208], .null)],
  [(128, .iload 4, 2, [], .null), (130, .iaload, 1, [], .null), (131, .iastore, 1, [], .null), (132, .iinc 4 1, 3, [], .null), (135, .goto (-85), 3, [], .null), (138, .iload_n 2, 1, [], .null), (139, .ireturn, 1, [], .null)]])
/-- LostBets.preach -/
def zm_119 : zz_Mi := (⟨"LostBets", "preach", "(I)I"⟩, prog_1_method_32_code, 6, some .int, 1, false, (0, 0, 5, 119), (783, 72, 781), [
  [(0, .iload_n 1, 1, [], .null), (1, .invokestatic 180, 3, [3, 51, 596], .null), (4, .ifCond .ne 9, 3, [], .null), (7, .aload_n 0, 1, [], .null), (8, .iconst (-1), 1, [], .null), (9, .invokevirtual 70, 3, [1, 13, 0, 333, 0], .null), (12, .ireturn, 1, [], .null), (13, .aload_n 0, 1, [], .null), (14, .getfield 43, 3, [0, 1, 299], .null)],
  [(17, .aload_n 0, 1, [], .null), (18, .getfield 39, 3, [0, 0, 298], .null), (21, .invokevirtual 93, 3, [1, 23, 7, 371, 373], .null), (24, .bipush (-9), 2, [], .null), (26, .istore_n 2, 1, [], .null), (27, .iconst 0, 1, [], .null), (28, .istore_n 3, 1, [], .null), (29, .iconst 0, 1, [], .null), (30, .istore 4, 2, [], .null)],
  [(32, .iload 4, 2, [], .null), (34, .aload_n 0, 1, [], .null), (35, .getfield 39, 3, [0, 0, 298], .null), (38, .getfield 220, 3, [7, 1, 186], .null), (41, .if_icmp .ge 103, 3, [], .null), (44, .aload_n 0, 1, [], .null), (45, .getfield 43, 3, [0, 1, 299], .null)],
  [(48, .getfield 138, 3, [7, 10, 204], .null), (51, .iload 4, 2, [], .null), (53, .aaload, 1, [], .null), (54, .iload_n 1, 1, [], .null), (55, .bipush 9, 2, [], .null), (57, .aload_n 0, 1, [], .null), (58, .getfield 39, 3, [0, 0, 298], .null), (61, .getfield 138, 3, [7, 10, 204], .null)],
  [(64, .iload 4, 2, [], .null), (66, .aaload, 1, [], .null), (67, .iload_n 1, 1, [], .null), (68, .iaload, 1, [], .null), (69, .isub, 1, [], .null), (70, .iastore, 1, [], .null), (71, .aload_n 0, 1, [], .null), (72, .getfield 43, 3, [0, 1, 299], .null), (75, .iload 4, 2, [], .null), (77, .invokevirtual 278, 3, [1, 110, 7, 741, 743], .null)],
  [(80, .invokestatic 290, 3, [3, 120, 784], .null), (83, .istore 5, 2, [], .null), (85, .iload 5, 2, [], .null), (87, .iload_n 3, 1, [], .null), (88, .if_icmp .le 26, 3, [], .null), (91, .iload 5, 2, [], .null), (93, .aload_n 0, 1, [], .null), (94, .getfield 39, 3, [0, 0, 298], .null)],
  [(97, .iload 4, 2, [], .null), (99, .invokevirtual 278, 3, [1, 110, 7, 741, 743], .null), (102, .invokestatic 290, 3, [3, 120, 784], .null), (105, .if_icmp .le 9, 3, [], .null), (108, .iload 5, 2, [], .null), (110, .istore_n 3, 1, [], .null), (111, .iload 4, 2, [], .null)],
  [(113, .istore_n 2, 1, [], .null), (114, .aload_n 0, 1, [], .null), (115, .getfield 43, 3, [0, 1, 299], .null), (118, .getfield 138, 3, [7, 10, 204], .null), (121, .iload 4, 2, [], .null), (123, .aaload, 1, [], .null), (124, .iload_n 1, 1, [], .null), (125, .aload_n 0, 1, [], .null), (126, .getfield 39, 3, [0, 0, 298], .null)],
  [(129, .getfield 138, 3, [7, 10, 204], .null), (132, .iload 4, 2, [], .null), (134, .aaload, 1, [], .null), (135, .iload_n 1, 1, [], .null), (136, .iaload, 1, [], .null), (137, .iastore, 1, [], .null), (138, .iinc 4 1, 3, [], .null), (141, .goto (-109), 3, [], .null)],
  [(144, .iload_n 2, 1, [], .null), (145, .ireturn, 1, [], .null)]])
/-- java/lang/Integer.bitCount -/
def zm_120 : zz_Mi := (⟨"java/lang/Integer", "bitCount", "(I)I"⟩, prog_15_method_49_code, 1, some .int, 1, true, (0, 0, 0, 0), (786, 88, 785), [
  [(0, .iload_n 0, 1, [], .null), (1, .iload_n 0, 1, [], .null), (2, .iconst 1, 1, [], .null), (3, .iushr, 1, [], .null), (4, .ldc_w 265, 3, [787], .int 1431655765), (7, .iand, 1, [], .null), (8, .isub, 1, [], .null), (9, .istore_n 0, 1, [], .null), (10, .iload_n 0, 1, [], .null), (11, .ldc_w 266, 3, [788], .int 858993459), (14, .iand, 1, [], .null), (15, .iload_n 0, 1, [], .null)],
  [(16, .iconst 2, 1, [], .null), (17, .iushr, 1, [], .null), (18, .ldc_w 266, 3, [788], .int 858993459), (21, .iand, 1, [], .null), (22, .iadd, 1, [], .null), (23, .istore_n 0, 1, [], .null), (24, .iload_n 0, 1, [], .null), (25, .iload_n 0, 1, [], .null), (26, .iconst 4, 1, [], .null), (27, .iushr, 1, [], .null), (28, .iadd, 1, [], .null), (29, .ldc_w 267, 3, [789], .int 252645135)],
  [(32, .iand, 1, [], .null), (33, .istore_n 0, 1, [], .null), (34, .iload_n 0, 1, [], .null), (35, .iload_n 0, 1, [], .null), (36, .bipush 8, 2, [], .null), (38, .iushr, 1, [], .null), (39, .iadd, 1, [], .null), (40, .istore_n 0, 1, [], .null), (41, .iload_n 0, 1, [], .null), (42, .iload_n 0, 1, [], .null), (43, .bipush 16, 2, [], .null), (45, .iushr, 1, [], .null), (46, .iadd, 1, [], .null), (47, .istore_n 0, 1, [], .null)],
  [(48, .iload_n 0, 1, [], .null), (49, .bipush 63, 2, [], .null), (51, .iand, 1, [], .null), (52, .ireturn, 1, [], .null)]])
/-- LostBets.fair -/
def zm_121 : zz_Mi := (⟨"LostBets", "fair", "(I)I"⟩, prog_1_method_33_code, 4, some .int, 1, false, (0, 0, 2, 45), (793, 72, 791), [
  [(0, .iload_n 1, 1, [], .null), (1, .iconst 2, 1, [], .null), (2, .invokestatic 246, 3, [3, 21, 492], .null), (5, .ifCond .ne 10, 3, [], .null), (8, .aload_n 0, 1, [], .null), (9, .bipush (-2), 2, [], .null), (11, .invokevirtual 70, 3, [1, 13, 0, 333, 0], .null), (14, .ireturn, 1, [], .null), (15, .iconst 0, 1, [], .null)],
  [(16, .istore_n 2, 1, [], .null), (17, .iconst 0, 1, [], .null), (18, .istore_n 3, 1, [], .null), (19, .iload_n 3, 1, [], .null), (20, .aload_n 0, 1, [], .null), (21, .getfield 39, 3, [0, 0, 298], .null), (24, .getfield 196, 3, [7, 14, 212], .null), (27, .if_icmp .ge 44, 3, [], .null), (30, .iload_n 1, 1, [], .null), (31, .ifCond .ne 17, 3, [], .null)],
  [(34, .aload_n 0, 1, [], .null), (35, .getfield 39, 3, [0, 0, 298], .null), (38, .iload_n 3, 1, [], .null), (39, .invokevirtual 295, 3, [1, 122, 7, 794, 796], .null), (42, .ifCond .eq 23, 3, [], .null), (45, .goto 14, 3, [], .null)],
  [(48, .aload_n 0, 1, [], .null), (49, .getfield 39, 3, [0, 0, 298], .null), (52, .iload_n 3, 1, [], .null), (53, .invokevirtual 298, 3, [1, 66, 7, 798, 551], .null), (56, .ifCond .eq 9, 3, [], .null), (59, .iload_n 2, 1, [], .null), (60, .iconst 1, 1, [], .null), (61, .iload_n 3, 1, [], .null), (62, .ishl, 1, [], .null), (63, .ior, 1, [], .null)],
  [(64, .istore_n 2, 1, [], .null), (65, .iinc 3 1, 3, [], .null), (68, .goto (-49), 3, [], .null), (71, .iload_n 2, 1, [], .null), (72, .ireturn, 1, [], .null)]])
/-- LostBets$Town.isFair -/
def zm_122 : zz_Mi := (⟨"LostBets$Town", "isFair", "(I)Z"⟩, prog_10_method_27_code, 3, some .boolean, 1, false, (0, 0, 1, 23), (797, 79, 795), [
  [(0, .aload_n 0, 1, [], .null), (1, .getfield 49, 3, [7, 13, 209], .null), (4, .iload_n 1, 1, [], .null), (5, .aaload, 1, [], .null), (6, .astore_n 2, 1, [], .null), (7, .aload_n 0, 1, [], .null), (8, .aload_n 2, 1, [], .null), (9, .getfield 120, 3, [8, 0, 158], .null), (12, .aload_n 2, 1, [], .null), (13, .getfield 126, 3, [8, 2, 164], .null)],
  [(16, .aload_n 2, 1, [], .null), (17, .getfield 129, 3, [8, 3, 167], .null), (20, .invokevirtual 171, 3, [1, 60, 7, 525, 2], .null), (23, .aload_n 0, 1, [], .null), (24, .aload_n 2, 1, [], .null), (25, .getfield 123, 3, [8, 1, 161], .null), (28, .aload_n 2, 1, [], .null), (29, .getfield 126, 3, [8, 2, 164], .null)],
  [(32, .aload_n 2, 1, [], .null), (33, .getfield 129, 3, [8, 3, 167], .null), (36, .invokevirtual 171, 3, [1, 60, 7, 525, 2], .null), (39, .if_icmp .ne 7, 3, [], .null), (42, .iconst 1, 1, [], .null), (43, .goto 4, 3, [], .null), (46, .iconst 0, 1, [], .null), (47, .ireturn, 1, [], .null)]])
/-- LostBets.hedge -/
def zm_123 : zz_Mi := (⟨"LostBets", "hedge", "(II)I"⟩, prog_1_method_34_code, 6, some .int, 2, false, (0, 0, 6, 134), (802, 72, 800), [
  [(0, .iload_n 1, 1, [], .null), (1, .ifCond .lt 7, 3, [], .null), (4, .iload_n 2, 1, [], .null), (5, .ifCond .ge 10, 3, [], .null), (8, .aload_n 0, 1, [], .null), (9, .bipush (-4), 2, [], .null), (11, .invokevirtual 70, 3, [1, 13, 0, 333, 0], .null), (14, .ireturn, 1, [], .null), (15, .iload_n 1, 1, [], .null)],
  [(16, .bipush 99, 2, [], .null), (18, .if_icmp .gt 9, 3, [], .null), (21, .iload_n 2, 1, [], .null), (22, .bipush 30, 2, [], .null), (24, .if_icmp .le 10, 3, [], .null), (27, .aload_n 0, 1, [], .null), (28, .bipush (-6), 2, [], .null), (30, .invokevirtual 70, 3, [1, 13, 0, 333, 0], .null)],
  [(33, .ireturn, 1, [], .null), (34, .bipush (-9), 2, [], .null), (36, .istore_n 3, 1, [], .null), (37, .aload_n 0, 1, [], .null), (38, .getfield 39, 3, [0, 0, 298], .null), (41, .getfield 196, 3, [7, 14, 212], .null), (44, .iconst 1, 1, [], .null), (45, .iadd, 1, [], .null), (46, .istore 4, 2, [], .null)],
  [(48, .iconst 0, 1, [], .null), (49, .istore 5, 2, [], .null), (51, .iload 5, 2, [], .null), (53, .iconst 1, 1, [], .null), (54, .aload_n 0, 1, [], .null), (55, .getfield 39, 3, [0, 0, 298], .null), (58, .getfield 196, 3, [7, 14, 212], .null), (61, .ishl, 1, [], .null), (62, .if_icmp .ge 47, 3, [], .null)],
  [(65, .aload_n 0, 1, [], .null), (66, .iload 5, 2, [], .null), (68, .invokevirtual 301, 3, [1, 124, 0, 803, 12], .null), (71, .iload 5, 2, [], .null), (73, .invokestatic 290, 3, [3, 120, 784], .null), (76, .iload 4, 2, [], .null), (78, .if_icmp .ge 25, 3, [], .null)],
  [(81, .aload_n 0, 1, [], .null), (82, .getfield 43, 3, [0, 1, 299], .null), (85, .iload_n 2, 1, [], .null), (86, .invokevirtual 226, 3, [1, 80, 7, 614, 616], .null), (89, .iload_n 1, 1, [], .null), (90, .if_icmp .gt 13, 3, [], .null), (93, .iload 5, 2, [], .null), (95, .invokestatic 290, 3, [3, 120, 784], .null)],
  [(98, .istore 4, 2, [], .null), (100, .iload 5, 2, [], .null), (102, .istore_n 3, 1, [], .null), (103, .iinc 5 1, 3, [], .null), (106, .goto (-55), 3, [], .null), (109, .iload_n 3, 1, [], .null), (110, .ireturn, 1, [], .null)]])
/-- LostBets.callOffInMind -/
def zm_124 : zz_Mi := (⟨"LostBets", "callOffInMind", "(I)V"⟩, prog_1_method_35_code, 3, none, 1, false, (0, 0, 3, 69), (806, 72, 805), [
  [(0, .aload_n 0, 1, [], .null), (1, .getfield 43, 3, [0, 1, 299], .null), (4, .aload_n 0, 1, [], .null), (5, .getfield 39, 3, [0, 0, 298], .null), (8, .invokevirtual 93, 3, [1, 23, 7, 371, 373], .null), (11, .aload_n 0, 1, [], .null), (12, .getfield 39, 3, [0, 0, 298], .null), (15, .getfield 196, 3, [7, 14, 212], .null)],
  [(18, .iconst 1, 1, [], .null), (19, .isub, 1, [], .null), (20, .istore_n 2, 1, [], .null), (21, .iload_n 2, 1, [], .null), (22, .ifCond .lt 26, 3, [], .null), (25, .iload_n 1, 1, [], .null), (26, .iload_n 2, 1, [], .null), (27, .ishr, 1, [], .null), (28, .iconst 1, 1, [], .null), (29, .iand, 1, [], .null), (30, .iconst 1, 1, [], .null), (31, .if_icmp .ne 11, 3, [], .null)],
  [(34, .aload_n 0, 1, [], .null), (35, .getfield 43, 3, [0, 1, 299], .null), (38, .iload_n 2, 1, [], .null), (39, .invokevirtual 304, 3, [1, 70, 7, 807, 570], .null), (42, .iinc 2 (-1), 3, [], .null), (45, .goto (-24), 3, [], .null)],
  [(48, .return_, 1, [], .null)]])
/-- LostBets.two -/
def zm_125 : zz_Mi := (⟨"LostBets", "two", "(III)I"⟩, prog_1_method_36_code, 9, some .int, 3, false, (0, 0, 4, 97), (811, 72, 809), [
  [(0, .aload_n 0, 1, [], .null), (1, .getfield 39, 3, [0, 0, 298], .null), (4, .iload_n 1, 1, [], .null), (5, .iload_n 2, 1, [], .null), (6, .invokevirtual 268, 3, [1, 55, 7, 727, 507], .null), (9, .ifCond .eq 10, 3, [], .null), (12, .iload_n 3, 1, [], .null), (13, .invokestatic 180, 3, [3, 51, 596], .null)],
  [(16, .ifCond .ne 9, 3, [], .null), (19, .aload_n 0, 1, [], .null), (20, .iconst (-1), 1, [], .null), (21, .invokevirtual 70, 3, [1, 13, 0, 333, 0], .null), (24, .ireturn, 1, [], .null), (25, .aload_n 0, 1, [], .null), (26, .getfield 39, 3, [0, 0, 298], .null), (29, .iload_n 1, 1, [], .null), (30, .invokevirtual 307, 3, [1, 57, 7, 812, 515], .null)],
  [(33, .ifCond .eq 14, 3, [], .null), (36, .aload_n 0, 1, [], .null), (37, .getfield 39, 3, [0, 0, 298], .null), (40, .iload_n 2, 1, [], .null), (41, .invokevirtual 307, 3, [1, 57, 7, 812, 515], .null), (44, .ifCond .ne 10, 3, [], .null), (47, .aload_n 0, 1, [], .null)],
  [(48, .bipush (-3), 2, [], .null), (50, .invokevirtual 70, 3, [1, 13, 0, 333, 0], .null), (53, .ireturn, 1, [], .null), (54, .aload_n 0, 1, [], .null), (55, .getfield 43, 3, [0, 1, 299], .null), (58, .aload_n 0, 1, [], .null), (59, .getfield 39, 3, [0, 0, 298], .null), (62, .invokevirtual 93, 3, [1, 23, 7, 371, 373], .null)],
  [(65, .iconst 0, 1, [], .null), (66, .istore 4, 2, [], .null), (68, .iload 4, 2, [], .null), (70, .iconst 1, 1, [], .null), (71, .if_icmp .gt 130, 3, [], .null), (74, .iconst 0, 1, [], .null), (75, .istore 5, 2, [], .null), (77, .iload 5, 2, [], .null), (79, .iconst 1, 1, [], .null)],
  [(80, .if_icmp .gt 115, 3, [], .null), (83, .aload_n 0, 1, [], .null), (84, .iload_n 1, 1, [], .null), (85, .iload_n 2, 1, [], .null), (86, .iload_n 3, 1, [], .null), (87, .iload 4, 2, [], .null), (89, .iload 5, 2, [], .null), (91, .invokevirtual 310, 3, [1, 126, 0, 813, 13], .null), (94, .istore 6, 2, [], .null)],
  [(96, .iload 6, 2, [], .null), (98, .iconst 2, 1, [], .null), (99, .iload 4, 2, [], .null), (101, .imul, 1, [], .null), (102, .isub, 1, [], .null), (103, .aload_n 0, 1, [], .null), (104, .iload_n 1, 1, [], .null), (105, .iload_n 2, 1, [], .null), (106, .iload_n 3, 1, [], .null), (107, .iconst 1, 1, [], .null), (108, .iload 4, 2, [], .null), (110, .isub, 1, [], .null), (111, .iload 5, 2, [], .null)],
  [(113, .invokevirtual 310, 3, [1, 126, 0, 813, 13], .null), (116, .iconst 2, 1, [], .null), (117, .iconst 1, 1, [], .null), (118, .iload 4, 2, [], .null), (120, .isub, 1, [], .null), (121, .imul, 1, [], .null), (122, .isub, 1, [], .null), (123, .if_icmp .lt 7, 3, [], .null), (126, .iconst 1, 1, [], .null), (127, .goto 4, 3, [], .null)],
  [(130, .iconst 0, 1, [], .null), (131, .istore 7, 2, [], .null), (133, .iload 6, 2, [], .null), (135, .iconst 2, 1, [], .null), (136, .iload 5, 2, [], .null), (138, .imul, 1, [], .null), (139, .isub, 1, [], .null), (140, .aload_n 0, 1, [], .null), (141, .iload_n 1, 1, [], .null), (142, .iload_n 2, 1, [], .null), (143, .iload_n 3, 1, [], .null)],
  [(144, .iload 4, 2, [], .null), (146, .iconst 1, 1, [], .null), (147, .iload 5, 2, [], .null), (149, .isub, 1, [], .null), (150, .invokevirtual 310, 3, [1, 126, 0, 813, 13], .null), (153, .iconst 2, 1, [], .null), (154, .iconst 1, 1, [], .null), (155, .iload 5, 2, [], .null), (157, .isub, 1, [], .null), (158, .imul, 1, [], .null), (159, .isub, 1, [], .null)],
  [(160, .if_icmp .lt 7, 3, [], .null), (163, .iconst 1, 1, [], .null), (164, .goto 4, 3, [], .null), (167, .iconst 0, 1, [], .null), (168, .istore 8, 2, [], .null), (170, .iload 7, 2, [], .null), (172, .ifCond .eq 17, 3, [], .null), (175, .iload 8, 2, [], .null)],
  [(177, .ifCond .eq 12, 3, [], .null), (180, .bipush 10, 2, [], .null), (182, .iload 4, 2, [], .null), (184, .imul, 1, [], .null), (185, .iload 5, 2, [], .null), (187, .iadd, 1, [], .null), (188, .ireturn, 1, [], .null), (189, .iinc 5 1, 3, [], .null)],
  [(192, .goto (-115), 3, [], .null), (195, .iinc 4 1, 3, [], .null), (198, .goto (-130), 3, [], .null), (201, .bipush (-9), 2, [], .null), (203, .ireturn, 1, [], .null)]])
