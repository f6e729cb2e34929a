def am_t0 : List (Nat × Instr × Nat) := [(0, .aload_n 0, 1), (1, .invokespecial 3, 3), (4, .aload_n 0, 1), (5, .new 9, 3), (8, .dup, 1), (9, .invokespecial 11, 3), (12, .putfield 12, 3), (15, .aload_n 0, 1), (16, .new 16, 3), (19, .dup, 1), (20, .invokespecial 18, 3), (23, .putfield 19, 3), (26, .aload_n 0, 1), (27, .new 23, 3), (30, .dup, 1), (31, .invokespecial 25, 3), (34, .putfield 26, 3), (37, .aload_n 0, 1), (38, .new 30, 3), (41, .dup, 1), (42, .invokespecial 32, 3), (45, .putfield 33, 3), (48, .aload_n 0, 1), (49, .new 37, 3), (52, .dup, 1), (53, .aload_n 0, 1), (54, .getfield 12, 3), (57, .invokespecial 39, 3), (60, .putfield 42, 3), (63, .aload_n 0, 1), (64, .new 37, 3), (67, .dup, 1), (68, .aload_n 0, 1), (69, .getfield 12, 3), (72, .invokespecial 39, 3), (75, .putfield 46, 3), (78, .aload_n 0, 1), (79, .new 49, 3), (82, .dup, 1), (83, .aload_n 0, 1), (84, .getfield 12, 3), (87, .aload_n 0, 1), (88, .getfield 19, 3), (91, .aload_n 0, 1), (92, .getfield 42, 3), (95, .invokespecial 51, 3), (98, .putfield 54, 3), (101, .aload_n 0, 1), (102, .new 58, 3), (105, .dup, 1), (106, .aload_n 0, 1), (107, .getfield 19, 3), (110, .aload_n 0, 1), (111, .getfield 26, 3), (114, .aload_n 0, 1), (115, .getfield 33, 3), (118, .aload_n 0, 1), (119, .getfield 54, 3), (122, .invokespecial 60, 3), (125, .putfield 63, 3), (128, .aload_n 0, 1), (129, .new 67, 3), (132, .dup, 1), (133, .aload_n 0, 1), (134, .getfield 12, 3), (137, .aload_n 0, 1), (138, .getfield 19, 3), (141, .aload_n 0, 1), (142, .getfield 26, 3), (145, .aload_n 0, 1), (146, .getfield 33, 3), (149, .aload_n 0, 1), (150, .getfield 54, 3), (153, .aload_n 0, 1), (154, .getfield 63, 3), (157, .aload_n 0, 1), (158, .getfield 42, 3), (161, .invokespecial 69, 3), (164, .putfield 72, 3), (167, .aload_n 0, 1), (168, .new 76, 3), (171, .dup, 1), (172, .invokespecial 78, 3), (175, .putfield 79, 3), (178, .aload_n 0, 1), (179, .new 83, 3), (182, .dup, 1), (183, .invokespecial 85, 3), (186, .putfield 86, 3), (189, .aload_n 0, 1), (190, .iconst 0, 1), (191, .putfield 90, 3), (194, .return_, 1)]
set_option maxRecDepth 100000 in
theorem am_kt0_0 : ∀ q ∈ (am_t0.drop 0).take 40, decode cX10_init q.1 = .ok q.2 := by decide +kernel
set_option maxRecDepth 100000 in
theorem am_kt0_1 : ∀ q ∈ (am_t0.drop 40).take 40, decode cX10_init q.1 = .ok q.2 := by decide +kernel
set_option maxRecDepth 100000 in
theorem am_kt0_2 : ∀ q ∈ (am_t0.drop 80).take 40, decode cX10_init q.1 = .ok q.2 := by decide +kernel
set_option maxRecDepth 100000 in
theorem am_kt0 : ∀ q ∈ am_t0, decode cX10_init q.1 = .ok q.2 := by
  intro q hq
  rw [← List.take_append_drop 40 (am_t0)] at hq
  rcases List.mem_append.mp hq with hq | hq
  · exact am_kt0_0 q hq
  rw [← List.take_append_drop 40 ((am_t0.drop 40))] at hq
  rcases List.mem_append.mp hq with hq | hq
  · exact am_kt0_1 q hq
  rw [List.drop_drop] at hq
  exact am_kt0_2 q (by rw [List.take_of_length_le (by decide)]; exact hq)
def am_t1 : List (Nat × Instr × Nat) := [(0, .aload_n 0, 1), (1, .invokespecial 3, 3), (4, .aload_n 0, 1), (5, .iconst 5, 1), (6, .bipush 60, 2), (8, .multianewarray 9 2, 4), (12, .putfield 11, 3), (15, .aload_n 0, 1), (16, .bipush 36, 2), (18, .newarray .int, 2), (20, .putfield 16, 3), (23, .aload_n 0, 1), (24, .bipush 36, 2), (26, .newarray .int, 2), (28, .putfield 20, 3), (31, .aload_n 0, 1), (32, .bipush 36, 2), (34, .newarray .int, 2), (36, .putfield 23, 3), (39, .aload_n 0, 1), (40, .bipush 36, 2), (42, .newarray .int, 2), (44, .putfield 26, 3), (47, .aload_n 0, 1), (48, .bipush 12, 2), (50, .newarray .int, 2), (52, .putfield 29, 3), (55, .aload_n 0, 1), (56, .bipush 12, 2), (58, .newarray .int, 2), (60, .putfield 32, 3), (63, .aload_n 0, 1), (64, .bipush 48, 2), (66, .newarray .boolean, 2), (68, .putfield 35, 3), (71, .aload_n 0, 1), (72, .bipush 48, 2), (74, .newarray .int, 2), (76, .putfield 39, 3), (79, .aload_n 0, 1), (80, .bipush 48, 2), (82, .newarray .int, 2), (84, .putfield 42, 3), (87, .aload_n 0, 1), (88, .iconst 3, 1), (89, .newarray .int, 2), (91, .putfield 45, 3), (94, .aload_n 0, 1), (95, .iconst 1, 1), (96, .putfield 48, 3), (99, .return_, 1)]
set_option maxRecDepth 100000 in
theorem am_kt1_0 : ∀ q ∈ (am_t1.drop 0).take 40, decode cX8_init q.1 = .ok q.2 := by decide +kernel
set_option maxRecDepth 100000 in
theorem am_kt1_1 : ∀ q ∈ (am_t1.drop 40).take 40, decode cX8_init q.1 = .ok q.2 := by decide +kernel
set_option maxRecDepth 100000 in
theorem am_kt1 : ∀ q ∈ am_t1, decode cX8_init q.1 = .ok q.2 := by
  intro q hq
  rw [← List.take_append_drop 40 (am_t1)] at hq
  rcases List.mem_append.mp hq with hq | hq
  · exact am_kt1_0 q hq
  exact am_kt1_1 q (by rw [List.take_of_length_le (by decide)]; exact hq)
def am_t2 : List (Nat × Instr × Nat) := [(0, .aload_n 0, 1), (1, .invokespecial 3, 3), (4, .aload_n 0, 1), (5, .iconst 5, 1), (6, .newarray .int, 2), (8, .putfield 9, 3), (11, .aload_n 0, 1), (12, .iconst 5, 1), (13, .newarray .int, 2), (15, .putfield 15, 3), (18, .aload_n 0, 1), (19, .iconst 5, 1), (20, .newarray .int, 2), (22, .putfield 18, 3), (25, .aload_n 0, 1), (26, .iconst 5, 1), (27, .newarray .int, 2), (29, .putfield 21, 3), (32, .aload_n 0, 1), (33, .iconst 5, 1), (34, .newarray .int, 2), (36, .putfield 24, 3), (39, .aload_n 0, 1), (40, .iconst 5, 1), (41, .newarray .int, 2), (43, .putfield 27, 3), (46, .aload_n 0, 1), (47, .iconst 5, 1), (48, .newarray .int, 2), (50, .putfield 30, 3), (53, .aload_n 0, 1), (54, .iconst 0, 1), (55, .putfield 33, 3), (58, .return_, 1)]
set_option maxRecDepth 100000 in
theorem am_kt2 : ∀ q ∈ am_t2, decode cX0_init q.1 = .ok q.2 := by decide +kernel
def am_t3 : List (Nat × Instr × Nat) := [(0, .aload_n 0, 1), (1, .invokespecial 3, 3), (4, .aload_n 0, 1), (5, .bipush 6, 2), (7, .newarray .int, 2), (9, .putfield 9, 3), (12, .aload_n 0, 1), (13, .bipush 6, 2), (15, .newarray .int, 2), (17, .putfield 15, 3), (20, .aload_n 0, 1), (21, .bipush 6, 2), (23, .newarray .int, 2), (25, .putfield 18, 3), (28, .aload_n 0, 1), (29, .bipush 6, 2), (31, .newarray .int, 2), (33, .putfield 21, 3), (36, .aload_n 0, 1), (37, .bipush 6, 2), (39, .newarray .int, 2), (41, .putfield 24, 3), (44, .aload_n 0, 1), (45, .iconst 0, 1), (46, .putfield 27, 3), (49, .return_, 1)]
set_option maxRecDepth 100000 in
theorem am_kt3 : ∀ q ∈ am_t3, decode cX5_init q.1 = .ok q.2 := by decide +kernel
def am_t4 : List (Nat × Instr × Nat) := [(0, .aload_n 0, 1), (1, .invokespecial 3, 3), (4, .aload_n 0, 1), (5, .bipush 16, 2), (7, .newarray .int, 2), (9, .putfield 9, 3), (12, .aload_n 0, 1), (13, .bipush 16, 2), (15, .newarray .int, 2), (17, .putfield 15, 3), (20, .aload_n 0, 1), (21, .bipush 16, 2), (23, .newarray .int, 2), (25, .putfield 18, 3), (28, .aload_n 0, 1), (29, .bipush 16, 2), (31, .newarray .int, 2), (33, .putfield 21, 3), (36, .aload_n 0, 1), (37, .bipush 16, 2), (39, .newarray .int, 2), (41, .putfield 24, 3), (44, .aload_n 0, 1), (45, .bipush 16, 2), (47, .newarray .int, 2), (49, .putfield 27, 3), (52, .aload_n 0, 1), (53, .bipush 16, 2), (55, .newarray .boolean, 2), (57, .putfield 30, 3), (60, .aload_n 0, 1), (61, .iconst 0, 1), (62, .putfield 34, 3), (65, .return_, 1)]
set_option maxRecDepth 100000 in
theorem am_kt4 : ∀ q ∈ am_t4, decode cX2_init q.1 = .ok q.2 := by decide +kernel
def am_t5 : List (Nat × Instr × Nat) := [(0, .aload_n 0, 1), (1, .invokespecial 3, 3), (4, .aload_n 0, 1), (5, .bipush 60, 2), (7, .newarray .int, 2), (9, .putfield 9, 3), (12, .aload_n 0, 1), (13, .bipush 60, 2), (15, .newarray .int, 2), (17, .putfield 15, 3), (20, .aload_n 0, 1), (21, .bipush 60, 2), (23, .newarray .int, 2), (25, .putfield 18, 3), (28, .aload_n 0, 1), (29, .sipush 720, 3), (32, .newarray .int, 2), (34, .putfield 21, 3), (37, .aload_n 0, 1), (38, .iconst 3, 1), (39, .newarray .int, 2), (41, .putfield 24, 3), (44, .aload_n 0, 1), (45, .aload_n 1, 1), (46, .putfield 27, 3), (49, .return_, 1)]
set_option maxRecDepth 100000 in
theorem am_kt5 : ∀ q ∈ am_t5, decode cX1_init q.1 = .ok q.2 := by decide +kernel
def am_t6 : List (Nat × Instr × Nat) := [(0, .aload_n 0, 1), (1, .invokespecial 3, 3), (4, .aload_n 0, 1), (5, .iconst 5, 1), (6, .sipush 720, 3), (9, .multianewarray 9 2, 4), (13, .putfield 11, 3), (16, .aload_n 0, 1), (17, .iconst 0, 1), (18, .putfield 16, 3), (21, .aload_n 0, 1), (22, .aload_n 1, 1), (23, .putfield 20, 3), (26, .aload_n 0, 1), (27, .aload_n 2, 1), (28, .putfield 24, 3), (31, .aload_n 0, 1), (32, .aload_n 3, 1), (33, .putfield 28, 3), (36, .return_, 1)]
set_option maxRecDepth 100000 in
theorem am_kt6 : ∀ q ∈ am_t6, decode cX4_init q.1 = .ok q.2 := by decide +kernel
def am_t7 : List (Nat × Instr × Nat) := [(0, .aload_n 0, 1), (1, .invokespecial 3, 3), (4, .aload_n 0, 1), (5, .bipush 16, 2), (7, .iconst 5, 1), (8, .multianewarray 9 2, 4), (12, .putfield 11, 3), (15, .aload_n 0, 1), (16, .aload_n 1, 1), (17, .putfield 16, 3), (20, .aload_n 0, 1), (21, .aload_n 2, 1), (22, .putfield 20, 3), (25, .aload_n 0, 1), (26, .aload_n 3, 1), (27, .putfield 24, 3), (30, .aload_n 0, 1), (31, .aload 4, 2), (33, .putfield 28, 3), (36, .return_, 1)]
set_option maxRecDepth 100000 in
theorem am_kt7 : ∀ q ∈ am_t7, decode cX7_init q.1 = .ok q.2 := by decide +kernel
def am_t8 : List (Nat × Instr × Nat) := [(0, .aload_n 0, 1), (1, .invokespecial 3, 3), (4, .aload_n 0, 1), (5, .iconst 3, 1), (6, .newarray .int, 2), (8, .putfield 9, 3), (11, .aload_n 0, 1), (12, .bipush 27, 2), (14, .bipush 30, 2), (16, .multianewarray 15 2, 4), (20, .putfield 17, 3), (23, .aload_n 0, 1), (24, .bipush 27, 2), (26, .newarray .int, 2), (28, .putfield 20, 3), (31, .aload_n 0, 1), (32, .bipush 30, 2), (34, .newarray .int, 2), (36, .putfield 23, 3), (39, .aload_n 0, 1), (40, .bipush 60, 2), (42, .newarray .int, 2), (44, .putfield 26, 3), (47, .aload_n 0, 1), (48, .aload_n 1, 1), (49, .putfield 29, 3), (52, .aload_n 0, 1), (53, .aload_n 2, 1), (54, .putfield 33, 3), (57, .aload_n 0, 1), (58, .aload_n 3, 1), (59, .putfield 37, 3), (62, .aload_n 0, 1), (63, .aload 4, 2), (65, .putfield 41, 3), (68, .aload_n 0, 1), (69, .aload 5, 2), (71, .putfield 45, 3), (74, .aload_n 0, 1), (75, .aload 6, 2), (77, .putfield 49, 3), (80, .aload_n 0, 1), (81, .aload 7, 2), (83, .putfield 53, 3), (86, .return_, 1)]
set_option maxRecDepth 100000 in
theorem am_kt8_0 : ∀ q ∈ (am_t8.drop 0).take 40, decode cX3_init q.1 = .ok q.2 := by decide +kernel
set_option maxRecDepth 100000 in
theorem am_kt8_1 : ∀ q ∈ (am_t8.drop 40).take 40, decode cX3_init q.1 = .ok q.2 := by decide +kernel
set_option maxRecDepth 100000 in
theorem am_kt8 : ∀ q ∈ am_t8, decode cX3_init q.1 = .ok q.2 := by
  intro q hq
  rw [← List.take_append_drop 40 (am_t8)] at hq
  rcases List.mem_append.mp hq with hq | hq
  · exact am_kt8_0 q hq
  exact am_kt8_1 q (by rw [List.take_of_length_le (by decide)]; exact hq)
def am_t9 : List (Nat × Instr × Nat) := [(0, .aload_n 0, 1), (1, .invokespecial 3, 3), (4, .aload_n 0, 1), (5, .bipush 120, 2), (7, .newarray .int, 2), (9, .putfield 9, 3), (12, .aload_n 0, 1), (13, .iconst 0, 1), (14, .putfield 15, 3), (17, .aload_n 0, 1), (18, .iconst 0, 1), (19, .putfield 19, 3), (22, .return_, 1)]
set_option maxRecDepth 100000 in
theorem am_kt9 : ∀ q ∈ am_t9, decode cX9_init q.1 = .ok q.2 := by decide +kernel
def am_t10 : List (Nat × Instr × Nat) := [(0, .aload_n 0, 1), (1, .invokespecial 3, 3), (4, .aload_n 0, 1), (5, .bipush 8, 2), (7, .newarray .int, 2), (9, .putfield 9, 3), (12, .aload_n 0, 1), (13, .bipush 8, 2), (15, .newarray .int, 2), (17, .putfield 15, 3), (20, .aload_n 0, 1), (21, .bipush 24, 2), (23, .newarray .boolean, 2), (25, .putfield 18, 3), (28, .aload_n 0, 1), (29, .bipush 24, 2), (31, .newarray .int, 2), (33, .putfield 22, 3), (36, .aload_n 0, 1), (37, .bipush 24, 2), (39, .newarray .int, 2), (41, .putfield 25, 3), (44, .aload_n 0, 1), (45, .bipush 24, 2), (47, .newarray .int, 2), (49, .putfield 28, 3), (52, .aload_n 0, 1), (53, .iconst 5, 1), (54, .newarray .int, 2), (56, .putfield 31, 3), (59, .aload_n 0, 1), (60, .iconst 0, 1), (61, .putfield 34, 3), (64, .return_, 1)]
set_option maxRecDepth 100000 in
theorem am_kt10 : ∀ q ∈ am_t10, decode cX6_init q.1 = .ok q.2 := by decide +kernel
def am_t11 : List (Nat × Instr × Nat) := [(0, .iload_n 1, 1), (1, .iload_n 3, 1), (2, .invokestatic 94, 3), (5, .ifCond .eq 25, 3), (8, .iload_n 2, 1), (9, .iload_n 3, 1), (10, .invokestatic 94, 3), (13, .ifCond .eq 17, 3), (16, .iload_n 1, 1), (17, .iload_n 2, 1), (18, .if_icmp .gt 12, 3), (21, .iload 4, 2), (23, .iconst 5, 1), (24, .invokestatic 98, 3), (27, .ifCond .ne 5, 3), (30, .iconst (-1), 1), (31, .ireturn, 1), (32, .iload 5, 2), (34, .iconst 0, 1), (35, .getstatic 101, 3), (38, .iload 4, 2), (40, .iaload, 1), (41, .invokestatic 105, 3), (44, .ifCond .ne 6, 3), (47, .bipush (-2), 2), (49, .ireturn, 1), (50, .iload 4, 2), (52, .ifCond .ne 16, 3), (55, .aload_n 0, 1), (56, .getfield 19, 3), (59, .getfield 109, 3), (62, .ifCond .le 6, 3), (65, .bipush (-3), 2), (67, .ireturn, 1), (68, .aload_n 0, 1), (69, .getfield 12, 3), (72, .iload_n 1, 1), (73, .iload_n 2, 1), (74, .iload_n 3, 1), (75, .iload 4, 2), (77, .iload 5, 2), (79, .invokevirtual 112, 3), (82, .ireturn, 1)]
set_option maxRecDepth 100000 in
theorem am_kt11_0 : ∀ q ∈ (am_t11.drop 0).take 40, decode cX10_paint q.1 = .ok q.2 := by decide +kernel
set_option maxRecDepth 100000 in
theorem am_kt11_1 : ∀ q ∈ (am_t11.drop 40).take 40, decode cX10_paint q.1 = .ok q.2 := by decide +kernel
set_option maxRecDepth 100000 in
theorem am_kt11 : ∀ q ∈ am_t11, decode cX10_paint q.1 = .ok q.2 := by
  intro q hq
  rw [← List.take_append_drop 40 (am_t11)] at hq
  rcases List.mem_append.mp hq with hq | hq
  · exact am_kt11_0 q hq
  exact am_kt11_1 q (by rw [List.take_of_length_le (by decide)]; exact hq)
def am_t12 : List (Nat × Instr × Nat) := [(0, .iload_n 0, 1), (1, .ifCond .lt 23, 3), (4, .iload_n 0, 1), (5, .bipush 10, 2), (7, .if_icmp .ge 17, 3), (10, .iload_n 1, 1), (11, .ifCond .lt 13, 3), (14, .iload_n 1, 1), (15, .bipush 6, 2), (17, .if_icmp .ge 7, 3), (20, .iconst 1, 1), (21, .goto 4, 3), (24, .iconst 0, 1), (25, .ireturn, 1)]
set_option maxRecDepth 100000 in
theorem am_kt12 : ∀ q ∈ am_t12, decode cX10_isCell q.1 = .ok q.2 := by decide +kernel
def am_t13 : List (Nat × Instr × Nat) := [(0, .iload_n 0, 1), (1, .ifCond .lt 12, 3), (4, .iload_n 0, 1), (5, .iload_n 1, 1), (6, .if_icmp .ge 7, 3), (9, .iconst 1, 1), (10, .goto 4, 3), (13, .iconst 0, 1), (14, .ireturn, 1)]
set_option maxRecDepth 100000 in
theorem am_kt13 : ∀ q ∈ am_t13, decode cX10_isIndex q.1 = .ok q.2 := by decide +kernel
def am_t14 : List (Nat × Instr × Nat) := [(0, .iload_n 0, 1), (1, .iload_n 1, 1), (2, .if_icmp .lt 12, 3), (5, .iload_n 0, 1), (6, .iload_n 2, 1), (7, .if_icmp .gt 7, 3), (10, .iconst 1, 1), (11, .goto 4, 3), (14, .iconst 0, 1), (15, .ireturn, 1)]
set_option maxRecDepth 100000 in
theorem am_kt14 : ∀ q ∈ am_t14, decode cX10_isWithin q.1 = .ok q.2 := by decide +kernel
def am_t15 : List (Nat × Instr × Nat) := [(0, .iconst 0, 1), (1, .istore 6, 2), (3, .iload_n 1, 1), (4, .istore 7, 2), (6, .iload 7, 2), (8, .iload_n 2, 1), (9, .if_icmp .gt 47, 3), (12, .iload 7, 2), (14, .iload_n 3, 1), (15, .invokestatic 52, 3), (18, .istore 8, 2), (20, .aload_n 0, 1), (21, .getfield 11, 3), (24, .iload 4, 2), (26, .aaload, 1), (27, .iload 8, 2), (29, .iaload, 1), (30, .iload 5, 2), (32, .if_icmp .eq 18, 3), (35, .aload_n 0, 1), (36, .getfield 11, 3), (39, .iload 4, 2), (41, .aaload, 1), (42, .iload 8, 2), (44, .iload 5, 2), (46, .iastore, 1), (47, .iinc 6 1, 3), (50, .iinc 7 1, 3), (53, .goto (-47), 3), (56, .aload_n 0, 1), (57, .dup, 1), (58, .getfield 48, 3), (61, .iconst 1, 1), (62, .iadd, 1), (63, .putfield 48, 3), (66, .iload 6, 2), (68, .ireturn, 1)]
set_option maxRecDepth 100000 in
theorem am_kt15 : ∀ q ∈ am_t15, decode cX8_putMarks q.1 = .ok q.2 := by decide +kernel
def am_t16 : List (Nat × Instr × Nat) := [(0, .bipush 6, 2), (2, .iload_n 0, 1), (3, .imul, 1), (4, .iload_n 1, 1), (5, .iadd, 1), (6, .ireturn, 1)]
set_option maxRecDepth 100000 in
theorem am_kt16 : ∀ q ∈ am_t16, decode cX10_placeOf q.1 = .ok q.2 := by decide +kernel
def am_t17 : List (Nat × Instr × Nat) := [(0, .iload_n 1, 1), (1, .iload_n 2, 1), (2, .invokestatic 94, 3), (5, .ifCond .eq 11, 3), (8, .iload_n 3, 1), (9, .iconst 5, 1), (10, .invokestatic 98, 3), (13, .ifCond .ne 5, 3), (16, .iconst (-1), 1), (17, .ireturn, 1), (18, .aload_n 0, 1), (19, .getfield 12, 3), (22, .getfield 116, 3), (25, .iload_n 3, 1), (26, .aaload, 1), (27, .iload_n 1, 1), (28, .iload_n 2, 1), (29, .invokestatic 120, 3), (32, .iaload, 1), (33, .ireturn, 1)]
set_option maxRecDepth 100000 in
theorem am_kt17 : ∀ q ∈ am_t17, decode cX10_cell q.1 = .ok q.2 := by decide +kernel
def am_t18 : List (Nat × Instr × Nat) := [(0, .iload_n 1, 1), (1, .iconst 3, 1), (2, .invokestatic 98, 3), (5, .ifCond .eq 12, 3), (8, .iload_n 2, 1), (9, .bipush 12, 2), (11, .invokestatic 98, 3), (14, .ifCond .ne 5, 3), (17, .iconst (-1), 1), (18, .ireturn, 1), (19, .iload_n 3, 1), (20, .invokestatic 124, 3), (23, .ifCond .eq 11, 3), (26, .iload 4, 2), (28, .invokestatic 124, 3), (31, .ifCond .ne 6, 3), (34, .bipush (-2), 2), (36, .ireturn, 1), (37, .aload_n 0, 1), (38, .getfield 12, 3), (41, .iload_n 1, 1), (42, .bipush 12, 2), (44, .imul, 1), (45, .iload_n 2, 1), (46, .iadd, 1), (47, .iload_n 3, 1), (48, .iload 4, 2), (50, .invokevirtual 128, 3), (53, .iconst 0, 1), (54, .ireturn, 1)]
set_option maxRecDepth 100000 in
theorem am_kt18 : ∀ q ∈ am_t18, decode cX10_current q.1 = .ok q.2 := by decide +kernel
def am_t19 : List (Nat × Instr × Nat) := [(0, .iload_n 0, 1), (1, .ifCond .lt 36, 3), (4, .iload_n 0, 1), (5, .bipush 10, 2), (7, .idiv, 1), (8, .bipush 6, 2), (10, .if_icmp .gt 27, 3), (13, .iload_n 0, 1), (14, .bipush 10, 2), (16, .irem, 1), (17, .bipush 6, 2), (19, .if_icmp .gt 18, 3), (22, .iload_n 0, 1), (23, .bipush 10, 2), (25, .idiv, 1), (26, .iload_n 0, 1), (27, .bipush 10, 2), (29, .irem, 1), (30, .if_icmp .gt 7, 3), (33, .iconst 1, 1), (34, .goto 4, 3), (37, .iconst 0, 1), (38, .ireturn, 1)]
set_option maxRecDepth 100000 in
theorem am_kt19 : ∀ q ∈ am_t19, decode cX10_isSpan q.1 = .ok q.2 := by decide +kernel
def am_t20 : List (Nat × Instr × Nat) := [(0, .aload_n 0, 1), (1, .getfield 16, 3), (4, .iload_n 1, 1), (5, .iload_n 2, 1), (6, .bipush 10, 2), (8, .idiv, 1), (9, .iconst 3, 1), (10, .isub, 1), (11, .iastore, 1), (12, .aload_n 0, 1), (13, .getfield 20, 3), (16, .iload_n 1, 1), (17, .iload_n 2, 1), (18, .bipush 10, 2), (20, .irem, 1), (21, .iconst 3, 1), (22, .isub, 1), (23, .iastore, 1), (24, .aload_n 0, 1), (25, .getfield 23, 3), (28, .iload_n 1, 1), (29, .iload_n 3, 1), (30, .bipush 10, 2), (32, .idiv, 1), (33, .iconst 3, 1), (34, .isub, 1), (35, .iastore, 1), (36, .aload_n 0, 1), (37, .getfield 26, 3), (40, .iload_n 1, 1), (41, .iload_n 3, 1), (42, .bipush 10, 2), (44, .irem, 1), (45, .iconst 3, 1), (46, .isub, 1), (47, .iastore, 1), (48, .aload_n 0, 1), (49, .dup, 1), (50, .getfield 48, 3), (53, .iconst 1, 1), (54, .iadd, 1), (55, .putfield 48, 3), (58, .return_, 1)]
set_option maxRecDepth 100000 in
theorem am_kt20_0 : ∀ q ∈ (am_t20.drop 0).take 40, decode cX8_putCurrent q.1 = .ok q.2 := by decide +kernel
set_option maxRecDepth 100000 in
theorem am_kt20_1 : ∀ q ∈ (am_t20.drop 40).take 40, decode cX8_putCurrent q.1 = .ok q.2 := by decide +kernel
set_option maxRecDepth 100000 in
theorem am_kt20 : ∀ q ∈ am_t20, decode cX8_putCurrent q.1 = .ok q.2 := by
  intro q hq
  rw [← List.take_append_drop 40 (am_t20)] at hq
  rcases List.mem_append.mp hq with hq | hq
  · exact am_kt20_0 q hq
  exact am_kt20_1 q (by rw [List.take_of_length_le (by decide)]; exact hq)
def am_t21 : List (Nat × Instr × Nat) := [(0, .iload_n 1, 1), (1, .bipush 12, 2), (3, .invokestatic 98, 3), (6, .ifCond .ne 5, 3), (9, .iconst (-1), 1), (10, .ireturn, 1), (11, .iload_n 2, 1), (12, .invokestatic 132, 3), (15, .ifCond .eq 10, 3), (18, .iload_n 3, 1), (19, .invokestatic 132, 3), (22, .ifCond .ne 6, 3), (25, .bipush (-2), 2), (27, .ireturn, 1), (28, .aload_n 0, 1), (29, .getfield 12, 3), (32, .iload_n 1, 1), (33, .iload_n 2, 1), (34, .iload_n 3, 1), (35, .invokevirtual 135, 3), (38, .iconst 0, 1), (39, .ireturn, 1)]
set_option maxRecDepth 100000 in
theorem am_kt21 : ∀ q ∈ am_t21, decode cX10_wind q.1 = .ok q.2 := by decide +kernel
def am_t22 : List (Nat × Instr × Nat) := [(0, .iload_n 0, 1), (1, .bipush (-3), 2), (3, .iconst 3, 1), (4, .invokestatic 105, 3), (7, .ireturn, 1)]
set_option maxRecDepth 100000 in
theorem am_kt22 : ∀ q ∈ am_t22, decode cX10_isStrength q.1 = .ok q.2 := by decide +kernel
def am_t23 : List (Nat × Instr × Nat) := [(0, .aload_n 0, 1), (1, .getfield 29, 3), (4, .iload_n 1, 1), (5, .iload_n 2, 1), (6, .iastore, 1), (7, .aload_n 0, 1), (8, .getfield 32, 3), (11, .iload_n 1, 1), (12, .iload_n 3, 1), (13, .iastore, 1), (14, .aload_n 0, 1), (15, .dup, 1), (16, .getfield 48, 3), (19, .iconst 1, 1), (20, .iadd, 1), (21, .putfield 48, 3), (24, .return_, 1)]
set_option maxRecDepth 100000 in
theorem am_kt23 : ∀ q ∈ am_t23, decode cX8_putWind q.1 = .ok q.2 := by decide +kernel
def am_t24 : List (Nat × Instr × Nat) := [(0, .iload_n 1, 1), (1, .bipush 48, 2), (3, .invokestatic 98, 3), (6, .ifCond .ne 5, 3), (9, .iconst (-1), 1), (10, .ireturn, 1), (11, .iload_n 2, 1), (12, .invokestatic 132, 3), (15, .ifCond .eq 10, 3), (18, .iload_n 3, 1), (19, .invokestatic 132, 3), (22, .ifCond .ne 6, 3), (25, .bipush (-2), 2), (27, .ireturn, 1), (28, .aload_n 0, 1), (29, .getfield 12, 3), (32, .iload_n 1, 1), (33, .iconst 1, 1), (34, .iload_n 2, 1), (35, .iload_n 3, 1), (36, .invokevirtual 138, 3), (39, .ireturn, 1)]
set_option maxRecDepth 100000 in
theorem am_kt24 : ∀ q ∈ am_t24, decode cX10_storm q.1 = .ok q.2 := by decide +kernel
def am_t25 : List (Nat × Instr × Nat) := [(0, .aload_n 0, 1), (1, .getfield 35, 3), (4, .iload_n 1, 1), (5, .baload, 1), (6, .ifCond .eq 7, 3), (9, .iconst 1, 1), (10, .goto 4, 3), (13, .iconst 0, 1), (14, .istore 5, 2), (16, .aload_n 0, 1), (17, .getfield 35, 3), (20, .iload_n 1, 1), (21, .iload_n 2, 1), (22, .bastore, 1), (23, .aload_n 0, 1), (24, .getfield 39, 3), (27, .iload_n 1, 1), (28, .iload_n 3, 1), (29, .iastore, 1), (30, .aload_n 0, 1), (31, .getfield 42, 3), (34, .iload_n 1, 1), (35, .iload 4, 2), (37, .iastore, 1), (38, .aload_n 0, 1), (39, .dup, 1), (40, .getfield 48, 3), (43, .iconst 1, 1), (44, .iadd, 1), (45, .putfield 48, 3), (48, .iload 5, 2), (50, .ireturn, 1)]
set_option maxRecDepth 100000 in
theorem am_kt25 : ∀ q ∈ am_t25, decode cX8_putRow q.1 = .ok q.2 := by decide +kernel
def am_t26 : List (Nat × Instr × Nat) := [(0, .iload_n 1, 1), (1, .bipush 48, 2), (3, .invokestatic 98, 3), (6, .ifCond .ne 5, 3), (9, .iconst (-1), 1), (10, .ireturn, 1), (11, .aload_n 0, 1), (12, .getfield 12, 3), (15, .iload_n 1, 1), (16, .iconst 0, 1), (17, .iconst 0, 1), (18, .iconst 0, 1), (19, .invokevirtual 138, 3), (22, .ireturn, 1)]
set_option maxRecDepth 100000 in
theorem am_kt26 : ∀ q ∈ am_t26, decode cX10_calm q.1 = .ok q.2 := by decide +kernel
def am_t27 : List (Nat × Instr × Nat) := [(0, .iload 5, 2), (2, .bipush 60, 2), (4, .invokestatic 98, 3), (7, .ifCond .eq 13, 3), (10, .iload 4, 2), (12, .bipush 48, 2), (14, .invokestatic 98, 3), (17, .ifCond .ne 5, 3), (20, .iconst (-1), 1), (21, .ireturn, 1), (22, .iload_n 1, 1), (23, .iconst 0, 1), (24, .iconst 3, 1), (25, .invokestatic 105, 3), (28, .ifCond .eq 20, 3), (31, .iload_n 2, 1), (32, .iload_n 3, 1), (33, .invokestatic 142, 3), (36, .ifCond .eq 12, 3), (39, .iload_n 1, 1), (40, .iload 6, 2), (42, .invokestatic 145, 3), (45, .ifCond .ne 6, 3), (48, .bipush (-2), 2), (50, .ireturn, 1), (51, .iload 6, 2), (53, .bipush 100, 2), (55, .idiv, 1), (56, .istore 7, 2), (58, .aload_n 0, 1), (59, .getfield 12, 3), (62, .iload 5, 2), (64, .invokevirtual 148, 3), (67, .ifCond .eq 17, 3), (70, .aload_n 0, 1), (71, .getfield 19, 3), (74, .iload 7, 2), (76, .iload_n 2, 1), (77, .iload_n 3, 1), (78, .invokevirtual 151, 3), (81, .ifCond .eq 6, 3), (84, .bipush (-3), 2), (86, .ireturn, 1), (87, .aload_n 0, 1), (88, .getfield 19, 3), (91, .getfield 109, 3), (94, .iconst 5, 1), (95, .if_icmp .lt 6, 3), (98, .bipush (-4), 2), (100, .ireturn, 1), (101, .aload_n 0, 1), (102, .getfield 19, 3), (105, .iload_n 1, 1), (106, .iload_n 2, 1), (107, .iload_n 3, 1), (108, .iload 4, 2), (110, .iload 5, 2), (112, .iload 7, 2), (114, .iload 6, 2), (116, .bipush 100, 2), (118, .irem, 1), (119, .invokevirtual 154, 3), (122, .istore 8, 2), (124, .aload_n 0, 1), (125, .getfield 63, 3), (128, .iload 8, 2), (130, .invokevirtual 158, 3), (133, .aload_n 0, 1), (134, .getfield 12, 3), (137, .dup, 1), (138, .getfield 162, 3), (141, .iconst 1, 1), (142, .iadd, 1), (143, .putfield 162, 3), (146, .iload 8, 2), (148, .ireturn, 1)]
set_option maxRecDepth 100000 in
theorem am_kt27_0 : ∀ q ∈ (am_t27.drop 0).take 40, decode cX10_cast q.1 = .ok q.2 := by decide +kernel
set_option maxRecDepth 100000 in
theorem am_kt27_1 : ∀ q ∈ (am_t27.drop 40).take 40, decode cX10_cast q.1 = .ok q.2 := by decide +kernel
set_option maxRecDepth 100000 in
theorem am_kt27 : ∀ q ∈ am_t27, decode cX10_cast q.1 = .ok q.2 := by
  intro q hq
  rw [← List.take_append_drop 40 (am_t27)] at hq
  rcases List.mem_append.mp hq with hq | hq
  · exact am_kt27_0 q hq
  exact am_kt27_1 q (by rw [List.take_of_length_le (by decide)]; exact hq)
def am_t28 : List (Nat × Instr × Nat) := [(0, .iload_n 0, 1), (1, .iconst 0, 1), (2, .sipush 9999, 3), (5, .invokestatic 105, 3), (8, .ifCond .eq 29, 3), (11, .iload_n 1, 1), (12, .iconst 1, 1), (13, .sipush 1000, 3), (16, .invokestatic 105, 3), (19, .ifCond .eq 18, 3), (22, .iload_n 0, 1), (23, .iload_n 1, 1), (24, .iadd, 1), (25, .iconst 1, 1), (26, .isub, 1), (27, .sipush 9999, 3), (30, .if_icmp .gt 7, 3), (33, .iconst 1, 1), (34, .goto 4, 3), (37, .iconst 0, 1), (38, .ireturn, 1)]
set_option maxRecDepth 100000 in
theorem am_kt28 : ∀ q ∈ am_t28, decode cX10_areNumbers q.1 = .ok q.2 := by decide +kernel
def am_t29 : List (Nat × Instr × Nat) := [(0, .iload_n 1, 1), (1, .ifCond .lt 11, 3), (4, .iload_n 1, 1), (5, .bipush 100, 2), (7, .idiv, 1), (8, .iconst 4, 1), (9, .if_icmp .lt 5, 3), (12, .iconst 0, 1), (13, .ireturn, 1), (14, .iload_n 1, 1), (15, .bipush 100, 2), (17, .irem, 1), (18, .istore_n 2, 1), (19, .iload_n 0, 1), (20, .iconst 2, 1), (21, .if_icmp .ne 13, 3), (24, .iload_n 2, 1), (25, .iconst 1, 1), (26, .bipush 12, 2), (28, .invokestatic 105, 3), (31, .goto 12, 3), (34, .iload_n 2, 1), (35, .ifCond .ne 7, 3), (38, .iconst 1, 1), (39, .goto 4, 3), (42, .iconst 0, 1), (43, .ireturn, 1)]
set_option maxRecDepth 100000 in
theorem am_kt29 : ∀ q ∈ am_t29, decode cX10_isMore q.1 = .ok q.2 := by decide +kernel
