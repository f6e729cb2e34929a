def am_t116 : List (Nat × Instr × Nat) := [(0, .aload_n 0, 1), (1, .iload_n 1, 1), (2, .invokevirtual 24, 3), (5, .ifCond .ne 5, 3), (8, .iconst 0, 1), (9, .ireturn, 1), (10, .aload_n 0, 1), (11, .dup, 1), (12, .getfield 19, 3), (15, .iconst 1, 1), (16, .iadd, 1), (17, .putfield 19, 3), (20, .iconst 1, 1), (21, .ireturn, 1)]
set_option maxRecDepth 100000 in
theorem am_kt116 : ∀ q ∈ am_t116, decode cX9_take q.1 = .ok q.2 := by decide +kernel
def am_t117 : List (Nat × Instr × Nat) := [(0, .aload_n 0, 1), (1, .getfield 19, 3), (4, .aload_n 0, 1), (5, .getfield 15, 3), (8, .if_icmp .ge 20, 3), (11, .aload_n 0, 1), (12, .getfield 9, 3), (15, .aload_n 0, 1), (16, .getfield 19, 3), (19, .iaload, 1), (20, .iload_n 1, 1), (21, .if_icmp .ne 7, 3), (24, .iconst 1, 1), (25, .goto 4, 3), (28, .iconst 0, 1), (29, .ireturn, 1)]
set_option maxRecDepth 100000 in
theorem am_kt117 : ∀ q ∈ am_t117, decode cX9_isAt q.1 = .ok q.2 := by decide +kernel
def am_t118 : List (Nat × Instr × Nat) := [(0, .iconst (-1), 1), (1, .istore_n 1, 1), (2, .iconst 0, 1), (3, .istore_n 2, 1), (4, .iload_n 2, 1), (5, .iconst 4, 1), (6, .if_icmp .ge 80, 3), (9, .aload_n 0, 1), (10, .getfield 19, 3), (13, .aload_n 0, 1), (14, .getfield 15, 3), (17, .if_icmp .ge 69, 3), (20, .aload_n 0, 1), (21, .getfield 9, 3), (24, .aload_n 0, 1), (25, .getfield 19, 3), (28, .iaload, 1), (29, .bipush 48, 2), (31, .if_icmp .lt 55, 3), (34, .aload_n 0, 1), (35, .getfield 9, 3), (38, .aload_n 0, 1), (39, .getfield 19, 3), (42, .iaload, 1), (43, .bipush 57, 2), (45, .if_icmp .gt 41, 3), (48, .iload_n 1, 1), (49, .iconst 0, 1), (50, .invokestatic 41, 3), (53, .bipush 10, 2), (55, .imul, 1), (56, .aload_n 0, 1), (57, .getfield 9, 3), (60, .aload_n 0, 1), (61, .getfield 19, 3), (64, .iaload, 1), (65, .iadd, 1), (66, .bipush 48, 2), (68, .isub, 1), (69, .istore_n 1, 1), (70, .aload_n 0, 1), (71, .dup, 1), (72, .getfield 19, 3), (75, .iconst 1, 1), (76, .iadd, 1), (77, .putfield 19, 3), (80, .iinc 2 1, 3), (83, .goto (-79), 3), (86, .iload_n 1, 1), (87, .ireturn, 1)]
set_option maxRecDepth 100000 in
theorem am_kt118_0 : ∀ q ∈ (am_t118.drop 0).take 40, decode cX9_takeNumber q.1 = .ok q.2 := by decide +kernel
set_option maxRecDepth 100000 in
theorem am_kt118_1 : ∀ q ∈ (am_t118.drop 40).take 40, decode cX9_takeNumber q.1 = .ok q.2 := by decide +kernel
set_option maxRecDepth 100000 in
theorem am_kt118 : ∀ q ∈ am_t118, decode cX9_takeNumber q.1 = .ok q.2 := by
  intro q hq
  rw [← List.take_append_drop 40 (am_t118)] at hq
  rcases List.mem_append.mp hq with hq | hq
  · exact am_kt118_0 q hq
  exact am_kt118_1 q (by rw [List.take_of_length_le (by decide)]; exact hq)
def am_t119 : List (Nat × Instr × Nat) := [(0, .aload_n 0, 1), (1, .getfield 19, 3), (4, .aload_n 0, 1), (5, .getfield 15, 3), (8, .if_icmp .lt 7, 3), (11, .iconst 1, 1), (12, .goto 4, 3), (15, .iconst 0, 1), (16, .ireturn, 1)]
set_option maxRecDepth 100000 in
theorem am_kt119 : ∀ q ∈ am_t119, decode cX9_isAtEnd q.1 = .ok q.2 := by decide +kernel
def am_t120 : List (Nat × Instr × Nat) := [(0, .aload_n 0, 1), (1, .getfield 18, 3), (4, .iload_n 2, 1), (5, .aload_n 1, 1), (6, .bipush 33, 2), (8, .invokevirtual 60, 3), (11, .bastore, 1), (12, .aload_n 0, 1), (13, .getfield 22, 3), (16, .iload_n 2, 1), (17, .aload_n 1, 1), (18, .invokestatic 64, 3), (21, .iastore, 1), (22, .aload_n 0, 1), (23, .getfield 22, 3), (26, .iload_n 2, 1), (27, .iaload, 1), (28, .ifCond .ge 5, 3), (31, .iconst 0, 1), (32, .ireturn, 1), (33, .aload_n 0, 1), (34, .getfield 25, 3), (37, .iload_n 2, 1), (38, .aload_n 1, 1), (39, .invokestatic 68, 3), (42, .iastore, 1), (43, .aload_n 0, 1), (44, .getfield 25, 3), (47, .iload_n 2, 1), (48, .iaload, 1), (49, .ifCond .ge 5, 3), (52, .iconst 0, 1), (53, .ireturn, 1), (54, .aload_n 0, 1), (55, .getfield 28, 3), (58, .iload_n 2, 1), (59, .aload_n 1, 1), (60, .invokevirtual 46, 3), (63, .iastore, 1), (64, .aload_n 0, 1), (65, .getfield 28, 3), (68, .iload_n 2, 1), (69, .iaload, 1), (70, .ifCond .lt 7, 3), (73, .iconst 1, 1), (74, .goto 4, 3), (77, .iconst 0, 1), (78, .ireturn, 1)]
set_option maxRecDepth 100000 in
theorem am_kt120_0 : ∀ q ∈ (am_t120.drop 0).take 40, decode cX6_readTest q.1 = .ok q.2 := by decide +kernel
set_option maxRecDepth 100000 in
theorem am_kt120_1 : ∀ q ∈ (am_t120.drop 40).take 40, decode cX6_readTest q.1 = .ok q.2 := by decide +kernel
set_option maxRecDepth 100000 in
theorem am_kt120 : ∀ q ∈ am_t120, decode cX6_readTest q.1 = .ok q.2 := by
  intro q hq
  rw [← List.take_append_drop 40 (am_t120)] at hq
  rcases List.mem_append.mp hq with hq | hq
  · exact am_kt120_0 q hq
  exact am_kt120_1 q (by rw [List.take_of_length_le (by decide)]; exact hq)
def am_t121 : List (Nat × Instr × Nat) := [(0, .aload_n 0, 1), (1, .bipush 109, 2), (3, .invokevirtual 71, 3), (6, .ifCond .eq 18, 3), (9, .aload_n 0, 1), (10, .ldc 74, 2), (12, .invokevirtual 40, 3), (15, .ifCond .eq 7, 3), (18, .iconst 0, 1), (19, .goto 4, 3), (22, .iconst (-1), 1), (23, .ireturn, 1), (24, .aload_n 0, 1), (25, .bipush 102, 2), (27, .invokevirtual 71, 3), (30, .ifCond .eq 18, 3), (33, .aload_n 0, 1), (34, .ldc 76, 2), (36, .invokevirtual 40, 3), (39, .ifCond .eq 7, 3), (42, .iconst 1, 1), (43, .goto 4, 3), (46, .iconst (-1), 1), (47, .ireturn, 1), (48, .aload_n 0, 1), (49, .bipush 107, 2), (51, .invokevirtual 71, 3), (54, .ifCond .eq 18, 3), (57, .aload_n 0, 1), (58, .ldc 78, 2), (60, .invokevirtual 40, 3), (63, .ifCond .eq 7, 3), (66, .iconst 2, 1), (67, .goto 4, 3), (70, .iconst (-1), 1), (71, .ireturn, 1), (72, .aload_n 0, 1), (73, .bipush 116, 2), (75, .invokevirtual 71, 3), (78, .ifCond .eq 18, 3), (81, .aload_n 0, 1), (82, .ldc 80, 2), (84, .invokevirtual 40, 3), (87, .ifCond .eq 7, 3), (90, .iconst 3, 1), (91, .goto 4, 3), (94, .iconst (-1), 1), (95, .ireturn, 1), (96, .aload_n 0, 1), (97, .ldc 82, 2), (99, .invokevirtual 40, 3), (102, .ifCond .eq 7, 3), (105, .iconst 4, 1), (106, .goto 4, 3), (109, .iconst (-1), 1), (110, .ireturn, 1)]
set_option maxRecDepth 100000 in
theorem am_kt121_0 : ∀ q ∈ (am_t121.drop 0).take 40, decode cX6_readField q.1 = .ok q.2 := by decide +kernel
set_option maxRecDepth 100000 in
theorem am_kt121_1 : ∀ q ∈ (am_t121.drop 40).take 40, decode cX6_readField q.1 = .ok q.2 := by decide +kernel
set_option maxRecDepth 100000 in
theorem am_kt121 : ∀ q ∈ am_t121, decode cX6_readField q.1 = .ok q.2 := by
  intro q hq
  rw [← List.take_append_drop 40 (am_t121)] at hq
  rcases List.mem_append.mp hq with hq | hq
  · exact am_kt121_0 q hq
  exact am_kt121_1 q (by rw [List.take_of_length_le (by decide)]; exact hq)
def am_t122 : List (Nat × Instr × Nat) := [(0, .aload_n 0, 1), (1, .bipush 61, 2), (3, .invokevirtual 60, 3), (6, .ifCond .eq 6, 3), (9, .bipush 61, 2), (11, .ireturn, 1), (12, .aload_n 0, 1), (13, .bipush 60, 2), (15, .invokevirtual 60, 3), (18, .ifCond .eq 6, 3), (21, .bipush 60, 2), (23, .ireturn, 1), (24, .aload_n 0, 1), (25, .bipush 62, 2), (27, .invokevirtual 60, 3), (30, .ifCond .eq 8, 3), (33, .bipush 62, 2), (35, .goto 4, 3), (38, .iconst (-1), 1), (39, .ireturn, 1)]
set_option maxRecDepth 100000 in
theorem am_kt122 : ∀ q ∈ am_t122, decode cX6_readSign q.1 = .ok q.2 := by decide +kernel
def am_t123 : List (Nat × Instr × Nat) := [(0, .aload_n 0, 1), (1, .iconst 0, 1), (2, .putfield 15, 3), (5, .aload_n 0, 1), (6, .iconst 0, 1), (7, .putfield 19, 3), (10, .return_, 1)]
set_option maxRecDepth 100000 in
theorem am_kt123 : ∀ q ∈ am_t123, decode cX9_empty q.1 = .ok q.2 := by decide +kernel
def am_t124 : List (Nat × Instr × Nat) := [(0, .aload_n 0, 1), (1, .dup, 1), (2, .getfield 34, 3), (5, .dup_x1, 1), (6, .iconst 1, 1), (7, .iadd, 1), (8, .putfield 34, 3), (11, .ireturn, 1)]
set_option maxRecDepth 100000 in
theorem am_kt124 : ∀ q ∈ am_t124, decode cX6_keepRead q.1 = .ok q.2 := by decide +kernel
def am_t125 : List (Nat × Instr × Nat) := [(0, .iload_n 1, 1), (1, .aload_n 0, 1), (2, .getfield 33, 3), (5, .getfield 210, 3), (8, .invokestatic 98, 3), (11, .ifCond .ne 5, 3), (14, .iconst (-1), 1), (15, .ireturn, 1), (16, .aload_n 0, 1), (17, .getfield 54, 3), (20, .invokevirtual 221, 3), (23, .aload_n 0, 1), (24, .iload_n 1, 1), (25, .invokevirtual 306, 3), (28, .ireturn, 1)]
set_option maxRecDepth 100000 in
theorem am_kt125 : ∀ q ∈ am_t125, decode cX10_pays q.1 = .ok q.2 := by decide +kernel
def am_t126 : List (Nat × Instr × Nat) := [(0, .aload_n 0, 1), (1, .getfield 33, 3), (4, .getfield 217, 3), (7, .iload_n 1, 1), (8, .baload, 1), (9, .ifCond .ne 15, 3), (12, .aload_n 0, 1), (13, .getfield 33, 3), (16, .iload_n 1, 1), (17, .invokevirtual 236, 3), (20, .iconst (-1), 1), (21, .if_icmp .eq 5, 3), (24, .iconst 0, 1), (25, .ireturn, 1), (26, .aload_n 0, 1), (27, .getfield 63, 3), (30, .iload_n 1, 1), (31, .invokevirtual 230, 3), (34, .istore_n 2, 1), (35, .iload_n 2, 1), (36, .ifCond .ge 5, 3), (39, .iconst 0, 1), (40, .ireturn, 1), (41, .aload_n 0, 1), (42, .getfield 33, 3), (45, .getfield 242, 3), (48, .iload_n 1, 1), (49, .iaload, 1), (50, .istore_n 3, 1), (51, .aload_n 0, 1), (52, .getfield 86, 3), (55, .getfield 318, 3), (58, .iconst 0, 1), (59, .iconst 0, 1), (60, .aload_n 0, 1), (61, .getfield 33, 3), (64, .getfield 321, 3), (67, .iload_n 1, 1), (68, .iaload, 1), (69, .aload_n 0, 1), (70, .getfield 19, 3), (73, .getfield 174, 3), (76, .iload_n 2, 1), (77, .iaload, 1), (78, .isub, 1), (79, .invokestatic 324, 3), (82, .iastore, 1), (83, .aload_n 0, 1), (84, .getfield 86, 3), (87, .getfield 318, 3), (90, .iconst 1, 1), (91, .aload_n 0, 1), (92, .getfield 26, 3), (95, .aload_n 0, 1), (96, .getfield 19, 3), (99, .getfield 177, 3), (102, .iload_n 2, 1), (103, .iaload, 1), (104, .iload_n 3, 1), (105, .invokevirtual 329, 3), (108, .iastore, 1), (109, .aload_n 0, 1), (110, .getfield 86, 3), (113, .getfield 318, 3), (116, .iconst 2, 1), (117, .aload_n 0, 1), (118, .getfield 19, 3), (121, .getfield 165, 3), (124, .iload_n 2, 1), (125, .iaload, 1), (126, .iastore, 1), (127, .aload_n 0, 1), (128, .getfield 86, 3), (131, .getfield 318, 3), (134, .iconst 3, 1), (135, .aload_n 0, 1), (136, .getfield 26, 3), (139, .getfield 309, 3), (142, .iload_n 3, 1), (143, .iaload, 1), (144, .iastore, 1), (145, .aload_n 0, 1), (146, .getfield 86, 3), (149, .getfield 318, 3), (152, .iconst 4, 1), (153, .aload_n 0, 1), (154, .getfield 63, 3), (157, .iload_n 1, 1), (158, .iload_n 2, 1), (159, .invokevirtual 224, 3), (162, .sipush 1000, 3), (165, .idiv, 1), (166, .iastore, 1), (167, .aload_n 0, 1), (168, .getfield 86, 3), (171, .invokevirtual 332, 3), (174, .ireturn, 1)]
set_option maxRecDepth 100000 in
theorem am_kt126_0 : ∀ q ∈ (am_t126.drop 0).take 40, decode cX10_payOf q.1 = .ok q.2 := by decide +kernel
set_option maxRecDepth 100000 in
theorem am_kt126_1 : ∀ q ∈ (am_t126.drop 40).take 40, decode cX10_payOf q.1 = .ok q.2 := by decide +kernel
set_option maxRecDepth 100000 in
theorem am_kt126_2 : ∀ q ∈ (am_t126.drop 80).take 40, decode cX10_payOf q.1 = .ok q.2 := by decide +kernel
set_option maxRecDepth 100000 in
theorem am_kt126 : ∀ q ∈ am_t126, decode cX10_payOf q.1 = .ok q.2 := by
  intro q hq
  rw [← List.take_append_drop 40 (am_t126)] at hq
  rcases List.mem_append.mp hq with hq | hq
  · exact am_kt126_0 q hq
  rw [← List.take_append_drop 40 ((am_t126.drop 40))] at hq
  rcases List.mem_append.mp hq with hq | hq
  · exact am_kt126_1 q hq
  rw [List.drop_drop] at hq
  exact am_kt126_2 q (by rw [List.take_of_length_le (by decide)]; exact hq)
def am_t127 : List (Nat × Instr × Nat) := [(0, .iload_n 1, 1), (1, .bipush 6, 2), (3, .idiv, 1), (4, .aload_n 0, 1), (5, .getfield 9, 3), (8, .iload_n 2, 1), (9, .iaload, 1), (10, .aload_n 0, 1), (11, .getfield 15, 3), (14, .iload_n 2, 1), (15, .iaload, 1), (16, .invokestatic 31, 3), (19, .iload_n 1, 1), (20, .bipush 6, 2), (22, .irem, 1), (23, .aload_n 0, 1), (24, .getfield 18, 3), (27, .iload_n 2, 1), (28, .iaload, 1), (29, .aload_n 0, 1), (30, .getfield 21, 3), (33, .iload_n 2, 1), (34, .iaload, 1), (35, .invokestatic 31, 3), (38, .iadd, 1), (39, .ireturn, 1)]
set_option maxRecDepth 100000 in
theorem am_kt127 : ∀ q ∈ am_t127, decode cX5_stepsFrom q.1 = .ok q.2 := by decide +kernel
def am_t128 : List (Nat × Instr × Nat) := [(0, .iconst 0, 1), (1, .iload_n 1, 1), (2, .iload_n 0, 1), (3, .isub, 1), (4, .iload_n 0, 1), (5, .iload_n 2, 1), (6, .isub, 1), (7, .invokestatic 35, 3), (10, .invokestatic 35, 3), (13, .ireturn, 1)]
set_option maxRecDepth 100000 in
theorem am_kt128 : ∀ q ∈ am_t128, decode cX5_stepsInto q.1 = .ok q.2 := by decide +kernel
def am_t129 : List (Nat × Instr × Nat) := [(0, .iconst 0, 1), (1, .istore_n 1, 1), (2, .iconst 0, 1), (3, .istore_n 2, 1), (4, .iload_n 2, 1), (5, .aload_n 0, 1), (6, .getfield 34, 3), (9, .if_icmp .ge 26, 3), (12, .aload_n 0, 1), (13, .iload_n 2, 1), (14, .invokevirtual 84, 3), (17, .ifCond .eq 12, 3), (20, .iload_n 1, 1), (21, .aload_n 0, 1), (22, .getfield 9, 3), (25, .iload_n 2, 1), (26, .iaload, 1), (27, .iadd, 1), (28, .istore_n 1, 1), (29, .iinc 2 1, 3), (32, .goto (-28), 3), (35, .iload_n 1, 1), (36, .ireturn, 1)]
set_option maxRecDepth 100000 in
theorem am_kt129 : ∀ q ∈ am_t129, decode cX6_worthOfFacts q.1 = .ok q.2 := by decide +kernel
def am_t130 : List (Nat × Instr × Nat) := [(0, .iconst 0, 1), (1, .istore_n 2, 1), (2, .iload_n 2, 1), (3, .aload_n 0, 1), (4, .getfield 15, 3), (7, .iload_n 1, 1), (8, .iaload, 1), (9, .if_icmp .ge 31, 3), (12, .iload_n 1, 1), (13, .iconst 3, 1), (14, .imul, 1), (15, .iload_n 2, 1), (16, .iadd, 1), (17, .istore_n 3, 1), (18, .aload_n 0, 1), (19, .iload_n 3, 1), (20, .invokevirtual 87, 3), (23, .aload_n 0, 1), (24, .getfield 18, 3), (27, .iload_n 3, 1), (28, .baload, 1), (29, .if_icmp .ne 5, 3), (32, .iconst 0, 1), (33, .ireturn, 1), (34, .iinc 2 1, 3), (37, .goto (-35), 3), (40, .iconst 1, 1), (41, .ireturn, 1)]
set_option maxRecDepth 100000 in
theorem am_kt130 : ∀ q ∈ am_t130, decode cX6_holds q.1 = .ok q.2 := by decide +kernel
def am_t131 : List (Nat × Instr × Nat) := [(0, .aload_n 0, 1), (1, .getfield 31, 3), (4, .aload_n 0, 1), (5, .getfield 22, 3), (8, .iload_n 1, 1), (9, .iaload, 1), (10, .iaload, 1), (11, .istore_n 2, 1), (12, .aload_n 0, 1), (13, .getfield 25, 3), (16, .iload_n 1, 1), (17, .iaload, 1), (18, .lookupswitch 58 #[(60, 42), (61, 26)], 26), (44, .iload_n 2, 1), (45, .aload_n 0, 1), (46, .getfield 28, 3), (49, .iload_n 1, 1), (50, .iaload, 1), (51, .if_icmp .ne 7, 3), (54, .iconst 1, 1), (55, .goto 4, 3), (58, .iconst 0, 1), (59, .ireturn, 1), (60, .iload_n 2, 1), (61, .aload_n 0, 1), (62, .getfield 28, 3), (65, .iload_n 1, 1), (66, .iaload, 1), (67, .if_icmp .ge 7, 3), (70, .iconst 1, 1), (71, .goto 4, 3), (74, .iconst 0, 1), (75, .ireturn, 1), (76, .iload_n 2, 1), (77, .aload_n 0, 1), (78, .getfield 28, 3), (81, .iload_n 1, 1), (82, .iaload, 1), (83, .if_icmp .le 7, 3), (86, .iconst 1, 1), (87, .goto 4, 3), (90, .iconst 0, 1), (91, .ireturn, 1)]
set_option maxRecDepth 100000 in
theorem am_kt131_0 : ∀ q ∈ (am_t131.drop 0).take 40, decode cX6_isTrue q.1 = .ok q.2 := by decide +kernel
set_option maxRecDepth 100000 in
theorem am_kt131_1 : ∀ q ∈ (am_t131.drop 40).take 40, decode cX6_isTrue q.1 = .ok q.2 := by decide +kernel
set_option maxRecDepth 100000 in
theorem am_kt131 : ∀ q ∈ am_t131, decode cX6_isTrue q.1 = .ok q.2 := by
  intro q hq
  rw [← List.take_append_drop 40 (am_t131)] at hq
  rcases List.mem_append.mp hq with hq | hq
  · exact am_kt131_0 q hq
  exact am_kt131_1 q (by rw [List.take_of_length_le (by decide)]; exact hq)
def am_t132 : List (Nat × Instr × Nat) := [(0, .iload_n 1, 1), (1, .invokestatic 239, 3), (4, .ifCond .ne 6, 3), (7, .bipush (-2), 2), (9, .ireturn, 1), (10, .aload_n 0, 1), (11, .getfield 54, 3), (14, .invokevirtual 221, 3), (17, .iconst 0, 1), (18, .istore_n 2, 1), (19, .iconst 0, 1), (20, .istore_n 3, 1), (21, .iload_n 3, 1), (22, .aload_n 0, 1), (23, .getfield 33, 3), (26, .getfield 210, 3), (29, .if_icmp .ge 30, 3), (32, .aload_n 0, 1), (33, .getfield 33, 3), (36, .getfield 245, 3), (39, .iload_n 3, 1), (40, .iaload, 1), (41, .iload_n 1, 1), (42, .if_icmp .gt 11, 3), (45, .iload_n 2, 1), (46, .aload_n 0, 1), (47, .iload_n 3, 1), (48, .invokevirtual 306, 3), (51, .iadd, 1), (52, .istore_n 2, 1), (53, .iinc 3 1, 3), (56, .goto (-35), 3), (59, .iload_n 2, 1), (60, .ireturn, 1)]
set_option maxRecDepth 100000 in
theorem am_kt132 : ∀ q ∈ am_t132, decode cX10_purse q.1 = .ok q.2 := by decide +kernel
def am_t133 : List (Nat × Instr × Nat) := [(0, .iload_n 1, 1), (1, .bipush 6, 2), (3, .invokestatic 98, 3), (6, .ifCond .ne 5, 3), (9, .iconst (-1), 1), (10, .ireturn, 1), (11, .iload_n 2, 1), (12, .invokestatic 239, 3), (15, .ifCond .ne 6, 3), (18, .bipush (-2), 2), (20, .ireturn, 1), (21, .iconst 0, 1), (22, .istore_n 3, 1), (23, .iconst 0, 1), (24, .istore 4, 2), (26, .iload 4, 2), (28, .aload_n 0, 1), (29, .getfield 33, 3), (32, .getfield 210, 3), (35, .if_icmp .ge 61, 3), (38, .aload_n 0, 1), (39, .getfield 33, 3), (42, .getfield 245, 3), (45, .iload 4, 2), (47, .iaload, 1), (48, .iload_n 2, 1), (49, .if_icmp .gt 41, 3), (52, .aload_n 0, 1), (53, .getfield 33, 3), (56, .getfield 217, 3), (59, .iload 4, 2), (61, .baload, 1), (62, .ifCond .ne 28, 3), (65, .aload_n 0, 1), (66, .getfield 26, 3), (69, .getfield 309, 3), (72, .aload_n 0, 1), (73, .getfield 33, 3), (76, .getfield 242, 3), (79, .iload 4, 2), (81, .iaload, 1), (82, .iaload, 1), (83, .iload_n 1, 1), (84, .if_icmp .ne 6, 3), (87, .iinc 3 1, 3), (90, .iinc 4 1, 3), (93, .goto (-67), 3), (96, .iload_n 3, 1), (97, .ireturn, 1)]
set_option maxRecDepth 100000 in
theorem am_kt133_0 : ∀ q ∈ (am_t133.drop 0).take 40, decode cX10_letters q.1 = .ok q.2 := by decide +kernel
set_option maxRecDepth 100000 in
theorem am_kt133_1 : ∀ q ∈ (am_t133.drop 40).take 40, decode cX10_letters q.1 = .ok q.2 := by decide +kernel
set_option maxRecDepth 100000 in
theorem am_kt133 : ∀ q ∈ am_t133, decode cX10_letters q.1 = .ok q.2 := by
  intro q hq
  rw [← List.take_append_drop 40 (am_t133)] at hq
  rcases List.mem_append.mp hq with hq | hq
  · exact am_kt133_0 q hq
  exact am_kt133_1 q (by rw [List.take_of_length_le (by decide)]; exact hq)
def am_t134 : List (Nat × Instr × Nat) := [(0, .iload_n 1, 1), (1, .tableswitch 108 0 7 #[47, 55, 63, 71, 79, 84, 92, 100], 47), (48, .aload_n 0, 1), (49, .getfield 19, 3), (52, .getfield 109, 3), (55, .ireturn, 1), (56, .aload_n 0, 1), (57, .getfield 26, 3), (60, .getfield 204, 3), (63, .ireturn, 1), (64, .aload_n 0, 1), (65, .getfield 33, 3), (68, .getfield 210, 3), (71, .ireturn, 1), (72, .aload_n 0, 1), (73, .getfield 86, 3), (76, .getfield 292, 3), (79, .ireturn, 1), (80, .aload_n 0, 1), (81, .getfield 90, 3), (84, .ireturn, 1), (85, .aload_n 0, 1), (86, .getfield 79, 3), (89, .getfield 287, 3), (92, .ireturn, 1), (93, .aload_n 0, 1), (94, .getfield 19, 3), (97, .invokevirtual 312, 3), (100, .ireturn, 1), (101, .aload_n 0, 1), (102, .getfield 33, 3), (105, .invokevirtual 315, 3), (108, .ireturn, 1), (109, .iconst (-1), 1), (110, .ireturn, 1)]
set_option maxRecDepth 100000 in
theorem am_kt134 : ∀ q ∈ am_t134, decode cX10_count q.1 = .ok q.2 := by decide +kernel
def am_t135 : List (Nat × Instr × Nat) := [(0, .iconst 0, 1), (1, .istore_n 1, 1), (2, .iconst 0, 1), (3, .istore_n 2, 1), (4, .iload_n 2, 1), (5, .aload_n 0, 1), (6, .getfield 33, 3), (9, .if_icmp .ge 18, 3), (12, .iload_n 1, 1), (13, .aload_n 0, 1), (14, .getfield 18, 3), (17, .iload_n 2, 1), (18, .iaload, 1), (19, .iadd, 1), (20, .istore_n 1, 1), (21, .iinc 2 1, 3), (24, .goto (-20), 3), (27, .iload_n 1, 1), (28, .ireturn, 1)]
set_option maxRecDepth 100000 in
theorem am_kt135 : ∀ q ∈ am_t135, decode cX0_allCards q.1 = .ok q.2 := by decide +kernel
def am_t136 : List (Nat × Instr × Nat) := [(0, .iconst 0, 1), (1, .istore_n 1, 1), (2, .iconst 0, 1), (3, .istore_n 2, 1), (4, .iload_n 2, 1), (5, .aload_n 0, 1), (6, .getfield 34, 3), (9, .if_icmp .ge 21, 3), (12, .aload_n 0, 1), (13, .getfield 30, 3), (16, .iload_n 2, 1), (17, .baload, 1), (18, .ifCond .eq 6, 3), (21, .iinc 1 1, 3), (24, .iinc 2 1, 3), (27, .goto (-23), 3), (30, .iload_n 1, 1), (31, .ireturn, 1)]
set_option maxRecDepth 100000 in
theorem am_kt136 : ∀ q ∈ am_t136, decode cX2_allOut q.1 = .ok q.2 := by decide +kernel
def am_t137 : List (Nat × Instr × Nat) := [(0, .aload_n 0, 1), (1, .invokespecial 1, 3), (4, .aload_n 0, 1), (5, .bipush 60, 2), (7, .newarray .int, 2), (9, .putfield 7, 3), (12, .aload_n 0, 1), (13, .bipush 60, 2), (15, .newarray .int, 2), (17, .putfield 13, 3), (20, .aload_n 0, 1), (21, .bipush 60, 2), (23, .newarray .int, 2), (25, .putfield 16, 3), (28, .aload_n 0, 1), (29, .bipush 60, 2), (31, .newarray .int, 2), (33, .putfield 19, 3), (36, .aload_n 0, 1), (37, .bipush 60, 2), (39, .newarray .int, 2), (41, .putfield 22, 3), (44, .aload_n 0, 1), (45, .bipush 36, 2), (47, .newarray .int, 2), (49, .putfield 25, 3), (52, .aload_n 0, 1), (53, .bipush 36, 2), (55, .newarray .int, 2), (57, .putfield 28, 3), (60, .aload_n 0, 1), (61, .bipush 36, 2), (63, .newarray .int, 2), (65, .putfield 31, 3), (68, .aload_n 0, 1), (69, .bipush 36, 2), (71, .newarray .int, 2), (73, .putfield 34, 3), (76, .aload_n 0, 1), (77, .iconst 3, 1), (78, .newarray .int, 2), (80, .putfield 37, 3), (83, .aload_n 0, 1), (84, .bipush 12, 2), (86, .newarray .int, 2), (88, .putfield 40, 3), (91, .aload_n 0, 1), (92, .bipush 12, 2), (94, .newarray .int, 2), (96, .putfield 43, 3), (99, .aload_n 0, 1), (100, .bipush 48, 2), (102, .newarray .int, 2), (104, .putfield 46, 3), (107, .aload_n 0, 1), (108, .bipush 48, 2), (110, .newarray .int, 2), (112, .putfield 49, 3), (115, .aload_n 0, 1), (116, .bipush 48, 2), (118, .newarray .boolean, 2), (120, .putfield 52, 3), (123, .aload_n 0, 1), (124, .iconst 5, 1), (125, .newarray .int, 2), (127, .putfield 56, 3), (130, .aload_n 0, 1), (131, .iconst 5, 1), (132, .newarray .int, 2), (134, .putfield 59, 3), (137, .aload_n 0, 1), (138, .iconst 5, 1), (139, .newarray .int, 2), (141, .putfield 62, 3), (144, .aload_n 0, 1), (145, .iconst 5, 1), (146, .newarray .int, 2), (148, .putfield 65, 3), (151, .aload_n 0, 1), (152, .iconst 5, 1), (153, .newarray .int, 2), (155, .putfield 68, 3), (158, .aload_n 0, 1), (159, .iconst 5, 1), (160, .newarray .int, 2), (162, .putfield 71, 3), (165, .aload_n 0, 1), (166, .iconst 5, 1), (167, .newarray .int, 2), (169, .putfield 74, 3), (172, .aload_n 0, 1), (173, .bipush 60, 2), (175, .newarray .int, 2), (177, .putfield 77, 3), (180, .aload_n 0, 1), (181, .bipush 60, 2), (183, .newarray .int, 2), (185, .putfield 80, 3), (188, .aload_n 0, 1), (189, .bipush 60, 2), (191, .newarray .int, 2), (193, .putfield 83, 3), (196, .aload_n 0, 1), (197, .sipush 720, 3), (200, .newarray .int, 2), (202, .putfield 86, 3), (205, .aload_n 0, 1), (206, .bipush 60, 2), (208, .newarray .boolean, 2), (210, .putfield 89, 3), (213, .aload_n 0, 1), (214, .bipush 6, 2), (216, .newarray .int, 2), (218, .putfield 92, 3), (221, .aload_n 0, 1), (222, .bipush 6, 2), (224, .newarray .int, 2), (226, .putfield 95, 3), (229, .aload_n 0, 1), (230, .bipush 6, 2), (232, .newarray .int, 2), (234, .putfield 98, 3), (237, .aload_n 0, 1), (238, .bipush 6, 2), (240, .newarray .int, 2), (242, .putfield 101, 3), (245, .aload_n 0, 1), (246, .bipush 6, 2), (248, .newarray .int, 2), (250, .putfield 104, 3), (253, .aload_n 0, 1), (254, .bipush 16, 2), (256, .newarray .int, 2), (258, .putfield 107, 3), (261, .aload_n 0, 1), (262, .bipush 16, 2), (264, .newarray .int, 2), (266, .putfield 110, 3), (269, .aload_n 0, 1), (270, .bipush 16, 2), (272, .newarray .int, 2), (274, .putfield 113, 3), (277, .aload_n 0, 1), (278, .bipush 16, 2), (280, .newarray .int, 2), (282, .putfield 116, 3), (285, .aload_n 0, 1), (286, .bipush 16, 2), (288, .newarray .int, 2), (290, .putfield 119, 3), (293, .aload_n 0, 1), (294, .bipush 16, 2), (296, .newarray .int, 2), (298, .putfield 122, 3), (301, .aload_n 0, 1), (302, .bipush 16, 2), (304, .newarray .boolean, 2), (306, .putfield 125, 3), (309, .aload_n 0, 1), (310, .bipush 16, 2), (312, .newarray .int, 2), (314, .putfield 128, 3), (317, .aload_n 0, 1), (318, .iconst 3, 1), (319, .newarray .int, 2), (321, .putfield 131, 3), (324, .aload_n 0, 1), (325, .iconst 3, 1), (326, .newarray .int, 2), (328, .putfield 134, 3), (331, .aload_n 0, 1), (332, .bipush 60, 2), (334, .newarray .int, 2), (336, .putfield 137, 3), (339, .aload_n 0, 1), (340, .bipush 120, 2), (342, .newarray .int, 2), (344, .putfield 140, 3), (347, .aload_n 0, 1), (348, .bipush 8, 2), (350, .newarray .int, 2), (352, .putfield 143, 3), (355, .aload_n 0, 1), (356, .bipush 8, 2), (358, .newarray .int, 2), (360, .putfield 146, 3), (363, .aload_n 0, 1), (364, .bipush 96, 2), (366, .newarray .int, 2), (368, .putfield 149, 3), (371, .return_, 1)]
set_option maxRecDepth 100000 in
theorem am_kt137_0 : ∀ q ∈ (am_t137.drop 0).take 40, decode cX11_init q.1 = .ok q.2 := by decide +kernel
set_option maxRecDepth 100000 in
theorem am_kt137_1 : ∀ q ∈ (am_t137.drop 40).take 40, decode cX11_init q.1 = .ok q.2 := by decide +kernel
set_option maxRecDepth 100000 in
theorem am_kt137_2 : ∀ q ∈ (am_t137.drop 80).take 40, decode cX11_init q.1 = .ok q.2 := by decide +kernel
set_option maxRecDepth 100000 in
theorem am_kt137_3 : ∀ q ∈ (am_t137.drop 120).take 40, decode cX11_init q.1 = .ok q.2 := by decide +kernel
set_option maxRecDepth 100000 in
theorem am_kt137_4 : ∀ q ∈ (am_t137.drop 160).take 40, decode cX11_init q.1 = .ok q.2 := by decide +kernel
set_option maxRecDepth 100000 in
theorem am_kt137 : ∀ q ∈ am_t137, decode cX11_init q.1 = .ok q.2 := by
  intro q hq
  rw [← List.take_append_drop 40 (am_t137)] at hq
  rcases List.mem_append.mp hq with hq | hq
  · exact am_kt137_0 q hq
  rw [← List.take_append_drop 40 ((am_t137.drop 40))] at hq
  rcases List.mem_append.mp hq with hq | hq
  · exact am_kt137_1 q hq
  rw [List.drop_drop] at hq
  rw [← List.take_append_drop 40 ((am_t137.drop 80))] at hq
  rcases List.mem_append.mp hq with hq | hq
  · exact am_kt137_2 q hq
  rw [List.drop_drop] at hq
  rw [← List.take_append_drop 40 ((am_t137.drop 120))] at hq
  rcases List.mem_append.mp hq with hq | hq
  · exact am_kt137_3 q hq
  rw [List.drop_drop] at hq
  exact am_kt137_4 q (by rw [List.take_of_length_le (by decide)]; exact hq)
def am_t138 : List (Nat × Instr × Nat) := [(0, .iload_n 1, 1), (1, .iload_n 3, 1), (2, .invokestatic 152, 3), (5, .ifCond .eq 29, 3), (8, .iload_n 2, 1), (9, .iload_n 3, 1), (10, .invokestatic 152, 3), (13, .ifCond .eq 21, 3), (16, .iload_n 1, 1), (17, .iload_n 2, 1), (18, .if_icmp .gt 16, 3), (21, .iload 4, 2), (23, .i2l, 1), (24, .lconst 0, 1), (25, .ldc2_w 156, 3), (28, .invokestatic 158, 3), (31, .ifCond .ne 5, 3), (34, .iconst (-1), 1), (35, .ireturn, 1), (36, .iload 5, 2), (38, .i2l, 1), (39, .lconst 0, 1), (40, .iload 4, 2), (42, .invokestatic 162, 3), (45, .i2l, 1), (46, .invokestatic 158, 3), (49, .ifCond .ne 6, 3), (52, .bipush (-2), 2), (54, .ireturn, 1), (55, .iload 4, 2), (57, .ifCond .ne 13, 3), (60, .aload_n 0, 1), (61, .getfield 166, 3), (64, .ifCond .le 6, 3), (67, .bipush (-3), 2), (69, .ireturn, 1), (70, .iconst 0, 1), (71, .istore 6, 2), (73, .iload_n 1, 1), (74, .istore 7, 2), (76, .iload 7, 2), (78, .iload_n 2, 1), (79, .if_icmp .gt 52, 3), (82, .iload 6, 2), (84, .aload_n 0, 1), (85, .bipush 6, 2), (87, .iload 7, 2), (89, .imul, 1), (90, .iload_n 3, 1), (91, .iadd, 1), (92, .iload 4, 2), (94, .invokevirtual 170, 3), (97, .iload 5, 2), (99, .if_icmp .eq 7, 3), (102, .iconst 1, 1), (103, .goto 4, 3), (106, .iconst 0, 1), (107, .iadd, 1), (108, .istore 6, 2), (110, .aload_n 0, 1), (111, .bipush 6, 2), (113, .iload 7, 2), (115, .imul, 1), (116, .iload_n 3, 1), (117, .iadd, 1), (118, .iload 4, 2), (120, .iload 5, 2), (122, .invokevirtual 174, 3), (125, .iinc 7 1, 3), (128, .goto (-52), 3), (131, .iload 6, 2), (133, .ireturn, 1)]
set_option maxRecDepth 100000 in
theorem am_kt138_0 : ∀ q ∈ (am_t138.drop 0).take 40, decode cX11_paint q.1 = .ok q.2 := by decide +kernel
set_option maxRecDepth 100000 in
theorem am_kt138_1 : ∀ q ∈ (am_t138.drop 40).take 40, decode cX11_paint q.1 = .ok q.2 := by decide +kernel
set_option maxRecDepth 100000 in
theorem am_kt138 : ∀ q ∈ am_t138, decode cX11_paint q.1 = .ok q.2 := by
  intro q hq
  rw [← List.take_append_drop 40 (am_t138)] at hq
  rcases List.mem_append.mp hq with hq | hq
  · exact am_kt138_0 q hq
  exact am_kt138_1 q (by rw [List.take_of_length_le (by decide)]; exact hq)
def am_t139 : List (Nat × Instr × Nat) := [(0, .iload_n 0, 1), (1, .ifCond .lt 23, 3), (4, .iload_n 0, 1), (5, .bipush 10, 2), (7, .if_icmp .ge 17, 3), (10, .iload_n 1, 1), (11, .ifCond .lt 13, 3), (14, .iload_n 1, 1), (15, .bipush 6, 2), (17, .if_icmp .ge 7, 3), (20, .iconst 1, 1), (21, .goto 4, 3), (24, .iconst 0, 1), (25, .ireturn, 1)]
set_option maxRecDepth 100000 in
theorem am_kt139 : ∀ q ∈ am_t139, decode cX11_isCell q.1 = .ok q.2 := by decide +kernel
