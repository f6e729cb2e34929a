def am_t140 : List (Nat × Instr × Nat) := [(0, .lload_n 0, 1), (1, .lload_n 2, 1), (2, .lcmp, 1), (3, .ifCond .lt 14, 3), (6, .lload_n 0, 1), (7, .lload 4, 2), (9, .lcmp, 1), (10, .ifCond .gt 7, 3), (13, .iconst 1, 1), (14, .goto 4, 3), (17, .iconst 0, 1), (18, .ireturn, 1)]
set_option maxRecDepth 100000 in
theorem am_kt140 : ∀ q ∈ am_t140, decode cX11_isIn q.1 = .ok q.2 := by decide +kernel
def am_t141 : List (Nat × Instr × Nat) := [(0, .iload_n 0, 1), (1, .iconst 2, 1), (2, .if_icmp .ge 7, 3), (5, .iconst 2, 1), (6, .goto 16, 3), (9, .iload_n 0, 1), (10, .iconst 4, 1), (11, .if_icmp .ge 8, 3), (14, .bipush 16, 2), (16, .goto 6, 3), (19, .sipush 4095, 3), (22, .ireturn, 1)]
set_option maxRecDepth 100000 in
theorem am_kt141 : ∀ q ∈ am_t141, decode cX11_greatest q.1 = .ok q.2 := by decide +kernel
def am_t142 : List (Nat × Instr × Nat) := [(0, .iload_n 2, 1), (1, .ifCond .ne 12, 3), (4, .aload_n 0, 1), (5, .getfield 7, 3), (8, .iload_n 1, 1), (9, .iaload, 1), (10, .goto 51, 3), (13, .iload_n 2, 1), (14, .iconst 1, 1), (15, .if_icmp .ne 12, 3), (18, .aload_n 0, 1), (19, .getfield 13, 3), (22, .iload_n 1, 1), (23, .iaload, 1), (24, .goto 37, 3), (27, .iload_n 2, 1), (28, .iconst 2, 1), (29, .if_icmp .ne 12, 3), (32, .aload_n 0, 1), (33, .getfield 16, 3), (36, .iload_n 1, 1), (37, .iaload, 1), (38, .goto 23, 3), (41, .iload_n 2, 1), (42, .iconst 3, 1), (43, .if_icmp .ne 12, 3), (46, .aload_n 0, 1), (47, .getfield 19, 3), (50, .iload_n 1, 1), (51, .iaload, 1), (52, .goto 9, 3), (55, .aload_n 0, 1), (56, .getfield 22, 3), (59, .iload_n 1, 1), (60, .iaload, 1), (61, .ireturn, 1)]
set_option maxRecDepth 100000 in
theorem am_kt142 : ∀ q ∈ am_t142, decode cX11_told q.1 = .ok q.2 := by decide +kernel
def am_t143 : List (Nat × Instr × Nat) := [(0, .iload_n 2, 1), (1, .ifCond .ne 13, 3), (4, .aload_n 0, 1), (5, .getfield 7, 3), (8, .iload_n 1, 1), (9, .iload_n 3, 1), (10, .iastore, 1), (11, .goto 55, 3), (14, .iload_n 2, 1), (15, .iconst 1, 1), (16, .if_icmp .ne 13, 3), (19, .aload_n 0, 1), (20, .getfield 13, 3), (23, .iload_n 1, 1), (24, .iload_n 3, 1), (25, .iastore, 1), (26, .goto 40, 3), (29, .iload_n 2, 1), (30, .iconst 2, 1), (31, .if_icmp .ne 13, 3), (34, .aload_n 0, 1), (35, .getfield 16, 3), (38, .iload_n 1, 1), (39, .iload_n 3, 1), (40, .iastore, 1), (41, .goto 25, 3), (44, .iload_n 2, 1), (45, .iconst 3, 1), (46, .if_icmp .ne 13, 3), (49, .aload_n 0, 1), (50, .getfield 19, 3), (53, .iload_n 1, 1), (54, .iload_n 3, 1), (55, .iastore, 1), (56, .goto 10, 3), (59, .aload_n 0, 1), (60, .getfield 22, 3), (63, .iload_n 1, 1), (64, .iload_n 3, 1), (65, .iastore, 1), (66, .return_, 1)]
set_option maxRecDepth 100000 in
theorem am_kt143_0 : ∀ q ∈ (am_t143.drop 0).take 40, decode cX11_tells q.1 = .ok q.2 := by decide +kernel
set_option maxRecDepth 100000 in
theorem am_kt143_1 : ∀ q ∈ (am_t143.drop 40).take 40, decode cX11_tells q.1 = .ok q.2 := by decide +kernel
set_option maxRecDepth 100000 in
theorem am_kt143 : ∀ q ∈ am_t143, decode cX11_tells q.1 = .ok q.2 := by
  intro q hq
  rw [← List.take_append_drop 40 (am_t143)] at hq
  rcases List.mem_append.mp hq with hq | hq
  · exact am_kt143_0 q hq
  exact am_kt143_1 q (by rw [List.take_of_length_le (by decide)]; exact hq)
def am_t144 : List (Nat × Instr × Nat) := [(0, .iload_n 1, 1), (1, .iload_n 2, 1), (2, .invokestatic 152, 3), (5, .ifCond .eq 29, 3), (8, .iload_n 3, 1), (9, .i2l, 1), (10, .lconst 0, 1), (11, .ldc2_w 156, 3), (14, .invokestatic 158, 3), (17, .ifCond .eq 17, 3), (20, .aload_n 0, 1), (21, .bipush 6, 2), (23, .iload_n 1, 1), (24, .imul, 1), (25, .iload_n 2, 1), (26, .iadd, 1), (27, .iload_n 3, 1), (28, .invokevirtual 170, 3), (31, .goto 4, 3), (34, .iconst (-1), 1), (35, .ireturn, 1)]
set_option maxRecDepth 100000 in
theorem am_kt144 : ∀ q ∈ am_t144, decode cX11_cell q.1 = .ok q.2 := by decide +kernel
def am_t145 : List (Nat × Instr × Nat) := [(0, .iload_n 1, 1), (1, .i2l, 1), (2, .lconst 0, 1), (3, .ldc2_w 178, 3), (6, .invokestatic 158, 3), (9, .ifCond .eq 15, 3), (12, .iload_n 2, 1), (13, .i2l, 1), (14, .lconst 0, 1), (15, .ldc2_w 180, 3), (18, .invokestatic 158, 3), (21, .ifCond .ne 5, 3), (24, .iconst (-1), 1), (25, .ireturn, 1), (26, .iload_n 3, 1), (27, .invokestatic 182, 3), (30, .ifCond .eq 11, 3), (33, .iload 4, 2), (35, .invokestatic 182, 3), (38, .ifCond .ne 6, 3), (41, .bipush (-2), 2), (43, .ireturn, 1), (44, .bipush 12, 2), (46, .iload_n 1, 1), (47, .imul, 1), (48, .iload_n 2, 1), (49, .iadd, 1), (50, .istore 5, 2), (52, .aload_n 0, 1), (53, .getfield 25, 3), (56, .iload 5, 2), (58, .iload_n 3, 1), (59, .bipush 10, 2), (61, .idiv, 1), (62, .iconst 3, 1), (63, .isub, 1), (64, .iastore, 1), (65, .aload_n 0, 1), (66, .getfield 28, 3), (69, .iload 5, 2), (71, .iload_n 3, 1), (72, .bipush 10, 2), (74, .irem, 1), (75, .iconst 3, 1), (76, .isub, 1), (77, .iastore, 1), (78, .aload_n 0, 1), (79, .getfield 31, 3), (82, .iload 5, 2), (84, .iload 4, 2), (86, .bipush 10, 2), (88, .idiv, 1), (89, .iconst 3, 1), (90, .isub, 1), (91, .iastore, 1), (92, .aload_n 0, 1), (93, .getfield 34, 3), (96, .iload 5, 2), (98, .iload 4, 2), (100, .bipush 10, 2), (102, .irem, 1), (103, .iconst 3, 1), (104, .isub, 1), (105, .iastore, 1), (106, .iconst 0, 1), (107, .ireturn, 1)]
set_option maxRecDepth 100000 in
theorem am_kt145_0 : ∀ q ∈ (am_t145.drop 0).take 40, decode cX11_current q.1 = .ok q.2 := by decide +kernel
set_option maxRecDepth 100000 in
theorem am_kt145_1 : ∀ q ∈ (am_t145.drop 40).take 40, decode cX11_current q.1 = .ok q.2 := by decide +kernel
set_option maxRecDepth 100000 in
theorem am_kt145 : ∀ q ∈ am_t145, decode cX11_current q.1 = .ok q.2 := by
  intro q hq
  rw [← List.take_append_drop 40 (am_t145)] at hq
  rcases List.mem_append.mp hq with hq | hq
  · exact am_kt145_0 q hq
  exact am_kt145_1 q (by rw [List.take_of_length_le (by decide)]; exact hq)
def am_t146 : List (Nat × Instr × Nat) := [(0, .iload_n 0, 1), (1, .ifCond .lt 36, 3), (4, .iload_n 0, 1), (5, .bipush 10, 2), (7, .idiv, 1), (8, .bipush 6, 2), (10, .if_icmp .gt 27, 3), (13, .iload_n 0, 1), (14, .bipush 10, 2), (16, .irem, 1), (17, .bipush 6, 2), (19, .if_icmp .gt 18, 3), (22, .iload_n 0, 1), (23, .bipush 10, 2), (25, .idiv, 1), (26, .iload_n 0, 1), (27, .bipush 10, 2), (29, .irem, 1), (30, .if_icmp .gt 7, 3), (33, .iconst 1, 1), (34, .goto 4, 3), (37, .iconst 0, 1), (38, .ireturn, 1)]
set_option maxRecDepth 100000 in
theorem am_kt146 : ∀ q ∈ am_t146, decode cX11_isSpan q.1 = .ok q.2 := by decide +kernel
def am_t147 : List (Nat × Instr × Nat) := [(0, .iload_n 1, 1), (1, .i2l, 1), (2, .lconst 0, 1), (3, .ldc2_w 180, 3), (6, .invokestatic 158, 3), (9, .ifCond .ne 5, 3), (12, .iconst (-1), 1), (13, .ireturn, 1), (14, .iload_n 2, 1), (15, .i2l, 1), (16, .ldc2_w 186, 3), (19, .ldc2_w 188, 3), (22, .invokestatic 158, 3), (25, .ifCond .eq 17, 3), (28, .iload_n 3, 1), (29, .i2l, 1), (30, .ldc2_w 186, 3), (33, .ldc2_w 188, 3), (36, .invokestatic 158, 3), (39, .ifCond .ne 6, 3), (42, .bipush (-2), 2), (44, .ireturn, 1), (45, .aload_n 0, 1), (46, .getfield 40, 3), (49, .iload_n 1, 1), (50, .iload_n 2, 1), (51, .iastore, 1), (52, .aload_n 0, 1), (53, .getfield 43, 3), (56, .iload_n 1, 1), (57, .iload_n 3, 1), (58, .iastore, 1), (59, .iconst 0, 1), (60, .ireturn, 1)]
set_option maxRecDepth 100000 in
theorem am_kt147 : ∀ q ∈ am_t147, decode cX11_wind q.1 = .ok q.2 := by decide +kernel
def am_t148 : List (Nat × Instr × Nat) := [(0, .iload_n 1, 1), (1, .i2l, 1), (2, .lconst 0, 1), (3, .ldc2_w 190, 3), (6, .invokestatic 158, 3), (9, .ifCond .ne 5, 3), (12, .iconst (-1), 1), (13, .ireturn, 1), (14, .iload_n 2, 1), (15, .i2l, 1), (16, .ldc2_w 186, 3), (19, .ldc2_w 188, 3), (22, .invokestatic 158, 3), (25, .ifCond .eq 17, 3), (28, .iload_n 3, 1), (29, .i2l, 1), (30, .ldc2_w 186, 3), (33, .ldc2_w 188, 3), (36, .invokestatic 158, 3), (39, .ifCond .ne 6, 3), (42, .bipush (-2), 2), (44, .ireturn, 1), (45, .aload_n 0, 1), (46, .getfield 52, 3), (49, .iload_n 1, 1), (50, .baload, 1), (51, .ifCond .eq 7, 3), (54, .iconst 1, 1), (55, .goto 4, 3), (58, .iconst 0, 1), (59, .istore 4, 2), (61, .aload_n 0, 1), (62, .getfield 52, 3), (65, .iload_n 1, 1), (66, .iconst 1, 1), (67, .bastore, 1), (68, .aload_n 0, 1), (69, .getfield 46, 3), (72, .iload_n 1, 1), (73, .iload_n 2, 1), (74, .iastore, 1), (75, .aload_n 0, 1), (76, .getfield 49, 3), (79, .iload_n 1, 1), (80, .iload_n 3, 1), (81, .iastore, 1), (82, .iload 4, 2), (84, .ireturn, 1)]
set_option maxRecDepth 100000 in
theorem am_kt148_0 : ∀ q ∈ (am_t148.drop 0).take 40, decode cX11_storm q.1 = .ok q.2 := by decide +kernel
set_option maxRecDepth 100000 in
theorem am_kt148_1 : ∀ q ∈ (am_t148.drop 40).take 40, decode cX11_storm q.1 = .ok q.2 := by decide +kernel
set_option maxRecDepth 100000 in
theorem am_kt148 : ∀ q ∈ am_t148, decode cX11_storm q.1 = .ok q.2 := by
  intro q hq
  rw [← List.take_append_drop 40 (am_t148)] at hq
  rcases List.mem_append.mp hq with hq | hq
  · exact am_kt148_0 q hq
  exact am_kt148_1 q (by rw [List.take_of_length_le (by decide)]; exact hq)
def am_t149 : List (Nat × Instr × Nat) := [(0, .iload_n 1, 1), (1, .i2l, 1), (2, .lconst 0, 1), (3, .ldc2_w 190, 3), (6, .invokestatic 158, 3), (9, .ifCond .ne 5, 3), (12, .iconst (-1), 1), (13, .ireturn, 1), (14, .aload_n 0, 1), (15, .getfield 52, 3), (18, .iload_n 1, 1), (19, .baload, 1), (20, .ifCond .eq 7, 3), (23, .iconst 1, 1), (24, .goto 4, 3), (27, .iconst 0, 1), (28, .istore_n 2, 1), (29, .aload_n 0, 1), (30, .getfield 52, 3), (33, .iload_n 1, 1), (34, .iconst 0, 1), (35, .bastore, 1), (36, .iload_n 2, 1), (37, .ireturn, 1)]
set_option maxRecDepth 100000 in
theorem am_kt149 : ∀ q ∈ am_t149, decode cX11_calm q.1 = .ok q.2 := by decide +kernel
def am_t150 : List (Nat × Instr × Nat) := [(0, .iload 5, 2), (2, .i2l, 1), (3, .lconst 0, 1), (4, .ldc2_w 192, 3), (7, .invokestatic 158, 3), (10, .ifCond .eq 16, 3), (13, .iload 4, 2), (15, .i2l, 1), (16, .lconst 0, 1), (17, .ldc2_w 190, 3), (20, .invokestatic 158, 3), (23, .ifCond .ne 5, 3), (26, .iconst (-1), 1), (27, .ireturn, 1), (28, .iload_n 1, 1), (29, .i2l, 1), (30, .lconst 0, 1), (31, .ldc2_w 188, 3), (34, .invokestatic 158, 3), (37, .ifCond .eq 44, 3), (40, .iload_n 3, 1), (41, .i2l, 1), (42, .lconst 1, 1), (43, .ldc2_w 194, 3), (46, .invokestatic 158, 3), (49, .ifCond .eq 32, 3), (52, .iload_n 2, 1), (53, .i2l, 1), (54, .lconst 0, 1), (55, .sipush 10000, 3), (58, .iload_n 3, 1), (59, .isub, 1), (60, .i2l, 1), (61, .invokestatic 158, 3), (64, .ifCond .eq 17, 3), (67, .iload 6, 2), (69, .ifCond .lt 12, 3), (72, .iload 6, 2), (74, .bipush 100, 2), (76, .idiv, 1), (77, .iconst 3, 1), (78, .if_icmp .le 6, 3), (81, .bipush (-2), 2), (83, .ireturn, 1), (84, .iload_n 1, 1), (85, .iconst 2, 1), (86, .if_icmp .ne 22, 3), (89, .iload 6, 2), (91, .bipush 100, 2), (93, .irem, 1), (94, .i2l, 1), (95, .lconst 1, 1), (96, .ldc2_w 196, 3), (99, .invokestatic 158, 3), (102, .ifCond .ne 17, 3), (105, .goto 11, 3), (108, .iload 6, 2), (110, .bipush 100, 2), (112, .irem, 1), (113, .ifCond .eq 6, 3), (116, .bipush (-2), 2), (118, .ireturn, 1), (119, .aload_n 0, 1), (120, .getfield 7, 3), (123, .iload 5, 2), (125, .iaload, 1), (126, .ifCond .eq 6, 3), (129, .bipush (-3), 2), (131, .ireturn, 1), (132, .iconst 0, 1), (133, .istore 7, 2), (135, .iload 7, 2), (137, .aload_n 0, 1), (138, .getfield 166, 3), (141, .if_icmp .ge 59, 3), (144, .aload_n 0, 1), (145, .getfield 71, 3), (148, .iload 7, 2), (150, .iaload, 1), (151, .iload 6, 2), (153, .bipush 100, 2), (155, .idiv, 1), (156, .if_icmp .ne 38, 3), (159, .iload_n 2, 1), (160, .aload_n 0, 1), (161, .getfield 59, 3), (164, .iload 7, 2), (166, .iaload, 1), (167, .aload_n 0, 1), (168, .getfield 62, 3), (171, .iload 7, 2), (173, .iaload, 1), (174, .iadd, 1), (175, .if_icmp .ge 19, 3), (178, .aload_n 0, 1), (179, .getfield 59, 3), (182, .iload 7, 2), (184, .iaload, 1), (185, .iload_n 2, 1), (186, .iload_n 3, 1), (187, .iadd, 1), (188, .if_icmp .ge 6, 3), (191, .bipush (-3), 2), (193, .ireturn, 1), (194, .iinc 7 1, 3), (197, .goto (-62), 3), (200, .aload_n 0, 1), (201, .getfield 166, 3), (204, .iconst 5, 1), (205, .if_icmp .ne 6, 3), (208, .bipush (-4), 2), (210, .ireturn, 1), (211, .aload_n 0, 1), (212, .getfield 56, 3), (215, .aload_n 0, 1), (216, .getfield 166, 3), (219, .iload_n 1, 1), (220, .iastore, 1), (221, .aload_n 0, 1), (222, .getfield 59, 3), (225, .aload_n 0, 1), (226, .getfield 166, 3), (229, .iload_n 2, 1), (230, .iastore, 1), (231, .aload_n 0, 1), (232, .getfield 62, 3), (235, .aload_n 0, 1), (236, .getfield 166, 3), (239, .iload_n 3, 1), (240, .iastore, 1), (241, .aload_n 0, 1), (242, .getfield 65, 3), (245, .aload_n 0, 1), (246, .getfield 166, 3), (249, .iload 4, 2), (251, .iastore, 1), (252, .aload_n 0, 1), (253, .getfield 68, 3), (256, .aload_n 0, 1), (257, .getfield 166, 3), (260, .iload 5, 2), (262, .iastore, 1), (263, .aload_n 0, 1), (264, .getfield 71, 3), (267, .aload_n 0, 1), (268, .getfield 166, 3), (271, .iload 6, 2), (273, .bipush 100, 2), (275, .idiv, 1), (276, .iastore, 1), (277, .aload_n 0, 1), (278, .getfield 74, 3), (281, .aload_n 0, 1), (282, .getfield 166, 3), (285, .iload 6, 2), (287, .bipush 100, 2), (289, .irem, 1), (290, .iastore, 1), (291, .aload_n 0, 1), (292, .dup, 1), (293, .getfield 166, 3), (296, .iconst 1, 1), (297, .iadd, 1), (298, .putfield 166, 3), (301, .aload_n 0, 1), (302, .getfield 166, 3), (305, .iconst 1, 1), (306, .isub, 1), (307, .ireturn, 1)]
set_option maxRecDepth 100000 in
theorem am_kt150_0 : ∀ q ∈ (am_t150.drop 0).take 40, decode cX11_cast q.1 = .ok q.2 := by decide +kernel
set_option maxRecDepth 100000 in
theorem am_kt150_1 : ∀ q ∈ (am_t150.drop 40).take 40, decode cX11_cast q.1 = .ok q.2 := by decide +kernel
set_option maxRecDepth 100000 in
theorem am_kt150_2 : ∀ q ∈ (am_t150.drop 80).take 40, decode cX11_cast q.1 = .ok q.2 := by decide +kernel
set_option maxRecDepth 100000 in
theorem am_kt150_3 : ∀ q ∈ (am_t150.drop 120).take 40, decode cX11_cast q.1 = .ok q.2 := by decide +kernel
set_option maxRecDepth 100000 in
theorem am_kt150_4 : ∀ q ∈ (am_t150.drop 160).take 40, decode cX11_cast q.1 = .ok q.2 := by decide +kernel
set_option maxRecDepth 100000 in
theorem am_kt150 : ∀ q ∈ am_t150, decode cX11_cast q.1 = .ok q.2 := by
  intro q hq
  rw [← List.take_append_drop 40 (am_t150)] at hq
  rcases List.mem_append.mp hq with hq | hq
  · exact am_kt150_0 q hq
  rw [← List.take_append_drop 40 ((am_t150.drop 40))] at hq
  rcases List.mem_append.mp hq with hq | hq
  · exact am_kt150_1 q hq
  rw [List.drop_drop] at hq
  rw [← List.take_append_drop 40 ((am_t150.drop 80))] at hq
  rcases List.mem_append.mp hq with hq | hq
  · exact am_kt150_2 q hq
  rw [List.drop_drop] at hq
  rw [← List.take_append_drop 40 ((am_t150.drop 120))] at hq
  rcases List.mem_append.mp hq with hq | hq
  · exact am_kt150_3 q hq
  rw [List.drop_drop] at hq
  exact am_kt150_4 q (by rw [List.take_of_length_le (by decide)]; exact hq)
def am_t151 : List (Nat × Instr × Nat) := [(0, .aload_n 0, 1), (1, .iload_n 1, 1), (2, .invokevirtual 198, 3), (5, .ifCond .ne 5, 3), (8, .iconst (-1), 1), (9, .ireturn, 1), (10, .iload_n 2, 1), (11, .tableswitch 79 0 5 #[37, 44, 51, 58, 65, 72], 37), (48, .aload_n 0, 1), (49, .getfield 56, 3), (52, .iload_n 1, 1), (53, .iaload, 1), (54, .ireturn, 1), (55, .aload_n 0, 1), (56, .getfield 59, 3), (59, .iload_n 1, 1), (60, .iaload, 1), (61, .ireturn, 1), (62, .aload_n 0, 1), (63, .getfield 62, 3), (66, .iload_n 1, 1), (67, .iaload, 1), (68, .ireturn, 1), (69, .aload_n 0, 1), (70, .getfield 65, 3), (73, .iload_n 1, 1), (74, .iaload, 1), (75, .ireturn, 1), (76, .aload_n 0, 1), (77, .getfield 68, 3), (80, .iload_n 1, 1), (81, .iaload, 1), (82, .ireturn, 1), (83, .aload_n 0, 1), (84, .getfield 71, 3), (87, .iload_n 1, 1), (88, .iaload, 1), (89, .ireturn, 1), (90, .iconst (-1), 1), (91, .ireturn, 1)]
set_option maxRecDepth 100000 in
theorem am_kt151 : ∀ q ∈ am_t151, decode cX11_about q.1 = .ok q.2 := by decide +kernel
def am_t152 : List (Nat × Instr × Nat) := [(0, .iload_n 1, 1), (1, .ifCond .lt 15, 3), (4, .iload_n 1, 1), (5, .aload_n 0, 1), (6, .getfield 166, 3), (9, .if_icmp .ge 7, 3), (12, .iconst 1, 1), (13, .goto 4, 3), (16, .iconst 0, 1), (17, .ireturn, 1)]
set_option maxRecDepth 100000 in
theorem am_kt152 : ∀ q ∈ am_t152, decode cX11_isCast q.1 = .ok q.2 := by decide +kernel
def am_t153 : List (Nat × Instr × Nat) := [(0, .aload_n 0, 1), (1, .iload_n 1, 1), (2, .invokevirtual 198, 3), (5, .ifCond .eq 15, 3), (8, .iload_n 3, 1), (9, .i2l, 1), (10, .lconst 0, 1), (11, .ldc2_w 225, 3), (14, .invokestatic 158, 3), (17, .ifCond .ne 5, 3), (20, .iconst (-1), 1), (21, .ireturn, 1), (22, .iload_n 2, 1), (23, .i2l, 1), (24, .lconst 0, 1), (25, .ldc2_w 196, 3), (28, .invokestatic 158, 3), (31, .ifCond .ne 6, 3), (34, .bipush (-2), 2), (36, .ireturn, 1), (37, .aload_n 0, 1), (38, .iload_n 1, 1), (39, .iload_n 2, 1), (40, .invokevirtual 227, 3), (43, .iload_n 3, 1), (44, .tableswitch 80 0 4 #[36, 47, 58, 70, 75], 36), (80, .aload_n 0, 1), (81, .aload_n 0, 1), (82, .getfield 77, 3), (85, .bipush 60, 2), (87, .invokevirtual 231, 3), (90, .ireturn, 1), (91, .aload_n 0, 1), (92, .aload_n 0, 1), (93, .getfield 83, 3), (96, .bipush 60, 2), (98, .invokevirtual 231, 3), (101, .ireturn, 1), (102, .aload_n 0, 1), (103, .aload_n 0, 1), (104, .getfield 86, 3), (107, .sipush 720, 3), (110, .invokevirtual 231, 3), (113, .ireturn, 1), (114, .aload_n 0, 1), (115, .getfield 212, 3), (118, .ireturn, 1), (119, .aload_n 0, 1), (120, .getfield 201, 3), (123, .ireturn, 1), (124, .aload_n 0, 1), (125, .getfield 215, 3), (128, .ireturn, 1)]
set_option maxRecDepth 100000 in
theorem am_kt153_0 : ∀ q ∈ (am_t153.drop 0).take 40, decode cX11_parts q.1 = .ok q.2 := by decide +kernel
set_option maxRecDepth 100000 in
theorem am_kt153_1 : ∀ q ∈ (am_t153.drop 40).take 40, decode cX11_parts q.1 = .ok q.2 := by decide +kernel
set_option maxRecDepth 100000 in
theorem am_kt153 : ∀ q ∈ am_t153, decode cX11_parts q.1 = .ok q.2 := by
  intro q hq
  rw [← List.take_append_drop 40 (am_t153)] at hq
  rcases List.mem_append.mp hq with hq | hq
  · exact am_kt153_0 q hq
  exact am_kt153_1 q (by rw [List.take_of_length_le (by decide)]; exact hq)
def am_t154 : List (Nat × Instr × Nat) := [(0, .aload_n 0, 1), (1, .aload_n 0, 1), (2, .getfield 56, 3), (5, .iload_n 1, 1), (6, .iaload, 1), (7, .aload_n 0, 1), (8, .getfield 65, 3), (11, .iload_n 1, 1), (12, .iaload, 1), (13, .aload_n 0, 1), (14, .getfield 68, 3), (17, .iload_n 1, 1), (18, .iaload, 1), (19, .aload_n 0, 1), (20, .getfield 74, 3), (23, .iload_n 1, 1), (24, .iaload, 1), (25, .iload_n 2, 1), (26, .invokevirtual 221, 3), (29, .return_, 1)]
set_option maxRecDepth 100000 in
theorem am_kt154 : ∀ q ∈ am_t154, decode cX11_driftOf q.1 = .ok q.2 := by decide +kernel
def am_t155 : List (Nat × Instr × Nat) := [(0, .iconst 0, 1), (1, .istore 6, 2), (3, .iload 6, 2), (5, .bipush 60, 2), (7, .if_icmp .ge 36, 3), (10, .aload_n 0, 1), (11, .getfield 77, 3), (14, .iload 6, 2), (16, .iload 6, 2), (18, .iload_n 3, 1), (19, .if_icmp .ne 8, 3), (22, .ldc 211, 2), (24, .goto 4, 3), (27, .iconst 0, 1), (28, .iastore, 1), (29, .aload_n 0, 1), (30, .getfield 83, 3), (33, .iload 6, 2), (35, .iconst 0, 1), (36, .iastore, 1), (37, .iinc 6 1, 3), (40, .goto (-37), 3), (43, .iconst 0, 1), (44, .istore 6, 2), (46, .iload 6, 2), (48, .sipush 720, 3), (51, .if_icmp .ge 17, 3), (54, .aload_n 0, 1), (55, .getfield 86, 3), (58, .iload 6, 2), (60, .iconst 0, 1), (61, .iastore, 1), (62, .iinc 6 1, 3), (65, .goto (-19), 3), (68, .aload_n 0, 1), (69, .iconst 0, 1), (70, .putfield 212, 3), (73, .aload_n 0, 1), (74, .iconst 0, 1), (75, .putfield 201, 3), (78, .aload_n 0, 1), (79, .iconst 0, 1), (80, .putfield 215, 3), (83, .iconst 0, 1), (84, .istore 6, 2), (86, .iload 6, 2), (88, .iload 5, 2), (90, .if_icmp .ge 213, 3), (93, .iconst 0, 1), (94, .istore 7, 2), (96, .iload 7, 2), (98, .bipush 60, 2), (100, .if_icmp .ge 56, 3), (103, .aload_n 0, 1), (104, .getfield 80, 3), (107, .iload 7, 2), (109, .iconst 0, 1), (110, .iastore, 1), (111, .iload_n 1, 1), (112, .iconst 2, 1), (113, .if_icmp .ne 37, 3), (116, .iload 6, 2), (118, .iload 4, 2), (120, .if_icmp .ge 6, 3), (123, .goto 27, 3), (126, .aload_n 0, 1), (127, .dup, 1), (128, .getfield 215, 3), (131, .aload_n 0, 1), (132, .getfield 77, 3), (135, .iload 7, 2), (137, .iaload, 1), (138, .iadd, 1), (139, .putfield 215, 3), (142, .aload_n 0, 1), (143, .getfield 77, 3), (146, .iload 7, 2), (148, .iconst 0, 1), (149, .iastore, 1), (150, .iinc 7 1, 3), (153, .goto (-57), 3), (156, .iconst 0, 1), (157, .istore 7, 2), (159, .iload 7, 2), (161, .bipush 60, 2), (163, .if_icmp .ge 20, 3), (166, .aload_n 0, 1), (167, .iload 7, 2), (169, .iload_n 1, 1), (170, .iload_n 2, 1), (171, .iload 6, 2), (173, .iadd, 1), (174, .invokevirtual 218, 3), (177, .iinc 7 1, 3), (180, .goto (-21), 3), (183, .iconst 0, 1), (184, .istore 7, 2), (186, .iload 7, 2), (188, .bipush 60, 2), (190, .if_icmp .ge 107, 3), (193, .aload_n 0, 1), (194, .getfield 77, 3), (197, .iload 7, 2), (199, .aload_n 0, 1), (200, .getfield 80, 3), (203, .iload 7, 2), (205, .iaload, 1), (206, .iastore, 1), (207, .aload_n 0, 1), (208, .getfield 83, 3), (211, .iload 7, 2), (213, .iaload, 1), (214, .aload_n 0, 1), (215, .getfield 19, 3), (218, .iload 7, 2), (220, .iaload, 1), (221, .imul, 1), (222, .bipush 16, 2), (224, .idiv, 1), (225, .istore 8, 2), (227, .aload_n 0, 1), (228, .getfield 86, 3), (231, .bipush 60, 2), (233, .iload 6, 2), (235, .imul, 1), (236, .iload 7, 2), (238, .iadd, 1), (239, .iload 8, 2), (241, .iastore, 1), (242, .aload_n 0, 1), (243, .getfield 83, 3), (246, .iload 7, 2), (248, .iaload, 1), (249, .iload 8, 2), (251, .isub, 1), (252, .aload_n 0, 1), (253, .getfield 16, 3), (256, .iload 7, 2), (258, .iaload, 1), (259, .imul, 1), (260, .bipush 16, 2), (262, .idiv, 1), (263, .istore 9, 2), (265, .aload_n 0, 1), (266, .dup, 1), (267, .getfield 212, 3), (270, .iload 9, 2), (272, .iadd, 1), (273, .putfield 212, 3), (276, .aload_n 0, 1), (277, .getfield 83, 3), (280, .iload 7, 2), (282, .dup2, 1), (283, .iaload, 1), (284, .iload 8, 2), (286, .iload 9, 2), (288, .iadd, 1), (289, .isub, 1), (290, .iastore, 1), (291, .iinc 7 1, 3), (294, .goto (-108), 3), (297, .iinc 6 1, 3), (300, .goto (-214), 3), (303, .return_, 1)]
set_option maxRecDepth 100000 in
theorem am_kt155_0 : ∀ q ∈ (am_t155.drop 0).take 40, decode cX11_drift q.1 = .ok q.2 := by decide +kernel
set_option maxRecDepth 100000 in
theorem am_kt155_1 : ∀ q ∈ (am_t155.drop 40).take 40, decode cX11_drift q.1 = .ok q.2 := by decide +kernel
set_option maxRecDepth 100000 in
theorem am_kt155_2 : ∀ q ∈ (am_t155.drop 80).take 40, decode cX11_drift q.1 = .ok q.2 := by decide +kernel
set_option maxRecDepth 100000 in
theorem am_kt155_3 : ∀ q ∈ (am_t155.drop 120).take 40, decode cX11_drift q.1 = .ok q.2 := by decide +kernel
set_option maxRecDepth 100000 in
theorem am_kt155_4 : ∀ q ∈ (am_t155.drop 160).take 40, decode cX11_drift q.1 = .ok q.2 := by decide +kernel
set_option maxRecDepth 100000 in
theorem am_kt155 : ∀ q ∈ am_t155, decode cX11_drift q.1 = .ok q.2 := by
  intro q hq
  rw [← List.take_append_drop 40 (am_t155)] at hq
  rcases List.mem_append.mp hq with hq | hq
  · exact am_kt155_0 q hq
  rw [← List.take_append_drop 40 ((am_t155.drop 40))] at hq
  rcases List.mem_append.mp hq with hq | hq
  · exact am_kt155_1 q hq
  rw [List.drop_drop] at hq
  rw [← List.take_append_drop 40 ((am_t155.drop 80))] at hq
  rcases List.mem_append.mp hq with hq | hq
  · exact am_kt155_2 q hq
  rw [List.drop_drop] at hq
  rw [← List.take_append_drop 40 ((am_t155.drop 120))] at hq
  rcases List.mem_append.mp hq with hq | hq
  · exact am_kt155_3 q hq
  rw [List.drop_drop] at hq
  exact am_kt155_4 q (by rw [List.take_of_length_le (by decide)]; exact hq)
def am_t156 : List (Nat × Instr × Nat) := [(0, .aload_n 0, 1), (1, .getfield 77, 3), (4, .iload_n 1, 1), (5, .iaload, 1), (6, .istore 4, 2), (8, .iload_n 3, 1), (9, .bipush 12, 2), (11, .irem, 1), (12, .istore 5, 2), (14, .iload 4, 2), (16, .ifCond .ne 4, 3), (19, .return_, 1), (20, .aload_n 0, 1), (21, .getfield 22, 3), (24, .iload_n 1, 1), (25, .iaload, 1), (26, .iload 5, 2), (28, .ishr, 1), (29, .iconst 1, 1), (30, .iand, 1), (31, .iconst 1, 1), (32, .if_icmp .ne 15, 3), (35, .aload_n 0, 1), (36, .getfield 80, 3), (39, .iload_n 1, 1), (40, .dup2, 1), (41, .iaload, 1), (42, .iload 4, 2), (44, .iadd, 1), (45, .iastore, 1), (46, .return_, 1), (47, .bipush 12, 2), (49, .aload_n 0, 1), (50, .getfield 13, 3), (53, .iload_n 1, 1), (54, .iaload, 1), (55, .imul, 1), (56, .iload 5, 2), (58, .iadd, 1), (59, .istore 6, 2), (61, .aload_n 0, 1), (62, .getfield 52, 3), (65, .iload_n 3, 1), (66, .bipush 48, 2), (68, .irem, 1), (69, .baload, 1), (70, .istore 7, 2), (72, .aload_n 0, 1), (73, .getfield 37, 3), (76, .aload_n 0, 1), (77, .getfield 13, 3), (80, .iload_n 1, 1), (81, .iaload, 1), (82, .iaload, 1), (83, .iload_n 2, 1), (84, .iload 7, 2), (86, .ifCond .eq 15, 3), (89, .aload_n 0, 1), (90, .getfield 46, 3), (93, .iload_n 3, 1), (94, .bipush 48, 2), (96, .irem, 1), (97, .iaload, 1), (98, .goto 10, 3), (101, .aload_n 0, 1), (102, .getfield 40, 3), (105, .iload 5, 2), (107, .iaload, 1), (108, .invokestatic 204, 3), (111, .iadd, 1), (112, .istore 8, 2), (114, .iload_n 2, 1), (115, .iload 7, 2), (117, .ifCond .eq 15, 3), (120, .aload_n 0, 1), (121, .getfield 49, 3), (124, .iload_n 3, 1), (125, .bipush 48, 2), (127, .irem, 1), (128, .iaload, 1), (129, .goto 10, 3), (132, .aload_n 0, 1), (133, .getfield 43, 3), (136, .iload 5, 2), (138, .iaload, 1), (139, .invokestatic 204, 3), (142, .istore 9, 2), (144, .iload 4, 2), (146, .iconst 4, 1), (147, .idiv, 1), (148, .istore 10, 2), (150, .aload_n 0, 1), (151, .iload_n 1, 1), (152, .iload 10, 2), (154, .aload_n 0, 1), (155, .getfield 25, 3), (158, .iload 6, 2), (160, .iaload, 1), (161, .iload 8, 2), (163, .iadd, 1), (164, .aload_n 0, 1), (165, .getfield 31, 3), (168, .iload 6, 2), (170, .iaload, 1), (171, .iload 9, 2), (173, .iadd, 1), (174, .invokevirtual 207, 3), (177, .aload_n 0, 1), (178, .iload_n 1, 1), (179, .iload 10, 2), (181, .aload_n 0, 1), (182, .getfield 28, 3), (185, .iload 6, 2), (187, .iaload, 1), (188, .iload 8, 2), (190, .iadd, 1), (191, .aload_n 0, 1), (192, .getfield 34, 3), (195, .iload 6, 2), (197, .iaload, 1), (198, .iload 9, 2), (200, .iadd, 1), (201, .invokevirtual 207, 3), (204, .aload_n 0, 1), (205, .iload_n 1, 1), (206, .iload 4, 2), (208, .iconst 2, 1), (209, .iload 10, 2), (211, .imul, 1), (212, .isub, 1), (213, .aload_n 0, 1), (214, .getfield 25, 3), (217, .iload 6, 2), (219, .iaload, 1), (220, .aload_n 0, 1), (221, .getfield 28, 3), (224, .iload 6, 2), (226, .iaload, 1), (227, .iadd, 1), (228, .iconst 2, 1), (229, .idiv, 1), (230, .iload 8, 2), (232, .iadd, 1), (233, .aload_n 0, 1), (234, .getfield 31, 3), (237, .iload 6, 2), (239, .iaload, 1), (240, .aload_n 0, 1), (241, .getfield 34, 3), (244, .iload 6, 2), (246, .iaload, 1), (247, .iadd, 1), (248, .iconst 2, 1), (249, .idiv, 1), (250, .iload 9, 2), (252, .iadd, 1), (253, .invokevirtual 207, 3), (256, .return_, 1)]
set_option maxRecDepth 100000 in
theorem am_kt156_0 : ∀ q ∈ (am_t156.drop 0).take 40, decode cX11_drifts q.1 = .ok q.2 := by decide +kernel
set_option maxRecDepth 100000 in
theorem am_kt156_1 : ∀ q ∈ (am_t156.drop 40).take 40, decode cX11_drifts q.1 = .ok q.2 := by decide +kernel
set_option maxRecDepth 100000 in
theorem am_kt156_2 : ∀ q ∈ (am_t156.drop 80).take 40, decode cX11_drifts q.1 = .ok q.2 := by decide +kernel
set_option maxRecDepth 100000 in
theorem am_kt156_3 : ∀ q ∈ (am_t156.drop 120).take 40, decode cX11_drifts q.1 = .ok q.2 := by decide +kernel
set_option maxRecDepth 100000 in
theorem am_kt156 : ∀ q ∈ am_t156, decode cX11_drifts q.1 = .ok q.2 := by
  intro q hq
  rw [← List.take_append_drop 40 (am_t156)] at hq
  rcases List.mem_append.mp hq with hq | hq
  · exact am_kt156_0 q hq
  rw [← List.take_append_drop 40 ((am_t156.drop 40))] at hq
  rcases List.mem_append.mp hq with hq | hq
  · exact am_kt156_1 q hq
  rw [List.drop_drop] at hq
  rw [← List.take_append_drop 40 ((am_t156.drop 80))] at hq
  rcases List.mem_append.mp hq with hq | hq
  · exact am_kt156_2 q hq
  rw [List.drop_drop] at hq
  exact am_kt156_3 q (by rw [List.take_of_length_le (by decide)]; exact hq)
def am_t157 : List (Nat × Instr × Nat) := [(0, .iload_n 0, 1), (1, .ifCond .ne 7, 3), (4, .iconst 0, 1), (5, .goto 26, 3), (8, .iload_n 0, 1), (9, .iconst 1, 1), (10, .if_icmp .ne 7, 3), (13, .iload_n 1, 1), (14, .goto 17, 3), (17, .iload_n 0, 1), (18, .iconst 2, 1), (19, .if_icmp .ne 9, 3), (22, .iload_n 1, 1), (23, .iconst 2, 1), (24, .idiv, 1), (25, .goto 6, 3), (28, .iconst 2, 1), (29, .iload_n 1, 1), (30, .imul, 1), (31, .ireturn, 1)]
set_option maxRecDepth 100000 in
theorem am_kt157 : ∀ q ∈ am_t157, decode cX11_floats q.1 = .ok q.2 := by decide +kernel
def am_t158 : List (Nat × Instr × Nat) := [(0, .iload_n 2, 1), (1, .ifCond .ne 4, 3), (4, .return_, 1), (5, .iload_n 1, 1), (6, .bipush 6, 2), (8, .idiv, 1), (9, .istore 5, 2), (11, .iload_n 1, 1), (12, .bipush 6, 2), (14, .irem, 1), (15, .istore 6, 2), (17, .iload_n 3, 1), (18, .istore 7, 2), (20, .iload 4, 2), (22, .istore 8, 2), (24, .iload 7, 2), (26, .ifCond .ne 8, 3), (29, .iload 8, 2), (31, .ifCond .eq 170, 3), (34, .iload 7, 2), (36, .ifCond .eq 19, 3), (39, .iload 5, 2), (41, .iload 7, 2), (43, .ifCond .le 7, 3), (46, .iconst 1, 1), (47, .goto 4, 3), (50, .iconst (-1), 1), (51, .iadd, 1), (52, .goto 5, 3), (55, .iload 5, 2), (57, .istore 9, 2), (59, .iload 7, 2), (61, .ifCond .eq 8, 3), (64, .iload 6, 2), (66, .goto 16, 3), (69, .iload 6, 2), (71, .iload 8, 2), (73, .ifCond .le 7, 3), (76, .iconst 1, 1), (77, .goto 4, 3), (80, .iconst (-1), 1), (81, .iadd, 1), (82, .istore 10, 2), (84, .iload 7, 2), (86, .ifCond .eq 21, 3), (89, .iload 7, 2), (91, .iload 7, 2), (93, .ifCond .le 7, 3), (96, .iconst 1, 1), (97, .goto 4, 3), (100, .iconst (-1), 1), (101, .isub, 1), (102, .istore 7, 2), (104, .goto 18, 3), (107, .iload 8, 2), (109, .iload 8, 2), (111, .ifCond .le 7, 3), (114, .iconst 1, 1), (115, .goto 4, 3), (118, .iconst (-1), 1), (119, .isub, 1), (120, .istore 8, 2), (122, .iload 9, 2), (124, .iload 10, 2), (126, .invokestatic 152, 3), (129, .ifCond .ne 14, 3), (132, .aload_n 0, 1), (133, .dup, 1), (134, .getfield 201, 3), (137, .iload_n 2, 1), (138, .iadd, 1), (139, .putfield 201, 3), (142, .return_, 1), (143, .bipush 6, 2), (145, .iload 9, 2), (147, .imul, 1), (148, .iload 10, 2), (150, .iadd, 1), (151, .istore 11, 2), (153, .aload_n 0, 1), (154, .getfield 7, 3), (157, .iload 11, 2), (159, .iaload, 1), (160, .iconst 1, 1), (161, .if_icmp .ne 15, 3), (164, .aload_n 0, 1), (165, .getfield 83, 3), (168, .iload 11, 2), (170, .dup2, 1), (171, .iaload, 1), (172, .iload_n 2, 1), (173, .iadd, 1), (174, .iastore, 1), (175, .return_, 1), (176, .aload_n 0, 1), (177, .getfield 7, 3), (180, .iload 11, 2), (182, .iaload, 1), (183, .iconst 2, 1), (184, .if_icmp .ne 6, 3), (187, .goto 14, 3), (190, .iload 9, 2), (192, .istore 5, 2), (194, .iload 10, 2), (196, .istore 6, 2), (198, .goto (-174), 3), (201, .aload_n 0, 1), (202, .getfield 80, 3), (205, .bipush 6, 2), (207, .iload 5, 2), (209, .imul, 1), (210, .iload 6, 2), (212, .iadd, 1), (213, .dup2, 1), (214, .iaload, 1), (215, .iload_n 2, 1), (216, .iadd, 1), (217, .iastore, 1), (218, .return_, 1)]
set_option maxRecDepth 100000 in
theorem am_kt158_0 : ∀ q ∈ (am_t158.drop 0).take 40, decode cX11_goes q.1 = .ok q.2 := by decide +kernel
set_option maxRecDepth 100000 in
theorem am_kt158_1 : ∀ q ∈ (am_t158.drop 40).take 40, decode cX11_goes q.1 = .ok q.2 := by decide +kernel
set_option maxRecDepth 100000 in
theorem am_kt158_2 : ∀ q ∈ (am_t158.drop 80).take 40, decode cX11_goes q.1 = .ok q.2 := by decide +kernel
set_option maxRecDepth 100000 in
theorem am_kt158 : ∀ q ∈ am_t158, decode cX11_goes q.1 = .ok q.2 := by
  intro q hq
  rw [← List.take_append_drop 40 (am_t158)] at hq
  rcases List.mem_append.mp hq with hq | hq
  · exact am_kt158_0 q hq
  rw [← List.take_append_drop 40 ((am_t158.drop 40))] at hq
  rcases List.mem_append.mp hq with hq | hq
  · exact am_kt158_1 q hq
  rw [List.drop_drop] at hq
  exact am_kt158_2 q (by rw [List.take_of_length_le (by decide)]; exact hq)
def am_t159 : List (Nat × Instr × Nat) := [(0, .iconst 0, 1), (1, .istore_n 3, 1), (2, .iconst 0, 1), (3, .istore 4, 2), (5, .iload 4, 2), (7, .iload_n 2, 1), (8, .if_icmp .ge 16, 3), (11, .iload_n 3, 1), (12, .aload_n 1, 1), (13, .iload 4, 2), (15, .iaload, 1), (16, .iadd, 1), (17, .istore_n 3, 1), (18, .iinc 4 1, 3), (21, .goto (-16), 3), (24, .iload_n 3, 1), (25, .ireturn, 1)]
set_option maxRecDepth 100000 in
theorem am_kt159 : ∀ q ∈ am_t159, decode cX11_sumOf q.1 = .ok q.2 := by decide +kernel
