def am_t160 : List (Nat × Instr × Nat) := [(0, .aload_n 0, 1), (1, .iload_n 1, 1), (2, .invokevirtual 198, 3), (5, .ifCond .eq 25, 3), (8, .iload_n 3, 1), (9, .iload 4, 2), (11, .invokestatic 152, 3), (14, .ifCond .eq 16, 3), (17, .iload 5, 2), (19, .i2l, 1), (20, .lconst 0, 1), (21, .ldc2_w 178, 3), (24, .invokestatic 158, 3), (27, .ifCond .ne 5, 3), (30, .iconst (-1), 1), (31, .ireturn, 1), (32, .iload_n 2, 1), (33, .i2l, 1), (34, .lconst 0, 1), (35, .ldc2_w 196, 3), (38, .invokestatic 158, 3), (41, .ifCond .ne 6, 3), (44, .bipush (-2), 2), (46, .ireturn, 1), (47, .aload_n 0, 1), (48, .iload_n 1, 1), (49, .iload_n 2, 1), (50, .invokevirtual 227, 3), (53, .bipush 6, 2), (55, .iload_n 3, 1), (56, .imul, 1), (57, .iload 4, 2), (59, .iadd, 1), (60, .istore 6, 2), (62, .iload 5, 2), (64, .iconst 2, 1), (65, .if_icmp .ge 26, 3), (68, .iload 5, 2), (70, .ifCond .ne 13, 3), (73, .aload_n 0, 1), (74, .getfield 77, 3), (77, .iload 6, 2), (79, .iaload, 1), (80, .goto 10, 3), (83, .aload_n 0, 1), (84, .getfield 83, 3), (87, .iload 6, 2), (89, .iaload, 1), (90, .ireturn, 1), (91, .iconst 0, 1), (92, .istore 7, 2), (94, .iconst 0, 1), (95, .istore 8, 2), (97, .iload 8, 2), (99, .bipush 12, 2), (101, .if_icmp .ge 27, 3), (104, .iload 7, 2), (106, .aload_n 0, 1), (107, .getfield 86, 3), (110, .bipush 60, 2), (112, .iload 8, 2), (114, .imul, 1), (115, .iload 6, 2), (117, .iadd, 1), (118, .iaload, 1), (119, .iadd, 1), (120, .istore 7, 2), (122, .iinc 8 1, 3), (125, .goto (-28), 3), (128, .iload 7, 2), (130, .ireturn, 1)]
set_option maxRecDepth 100000 in
theorem am_kt160_0 : ∀ q ∈ (am_t160.drop 0).take 40, decode cX11_partsAt q.1 = .ok q.2 := by decide +kernel
set_option maxRecDepth 100000 in
theorem am_kt160_1 : ∀ q ∈ (am_t160.drop 40).take 40, decode cX11_partsAt q.1 = .ok q.2 := by decide +kernel
set_option maxRecDepth 100000 in
theorem am_kt160 : ∀ q ∈ am_t160, decode cX11_partsAt q.1 = .ok q.2 := by
  intro q hq
  rw [← List.take_append_drop 40 (am_t160)] at hq
  rcases List.mem_append.mp hq with hq | hq
  · exact am_kt160_0 q hq
  exact am_kt160_1 q (by rw [List.take_of_length_le (by decide)]; exact hq)
def am_t161 : List (Nat × Instr × Nat) := [(0, .aload_n 0, 1), (1, .iload_n 1, 1), (2, .invokevirtual 198, 3), (5, .ifCond .eq 16, 3), (8, .aload_n 0, 1), (9, .iload_n 2, 1), (10, .invokevirtual 198, 3), (13, .ifCond .eq 8, 3), (16, .iload_n 1, 1), (17, .iload_n 2, 1), (18, .if_icmp .ne 5, 3), (21, .iconst (-1), 1), (22, .ireturn, 1), (23, .iconst 0, 1), (24, .istore_n 3, 1), (25, .iload_n 3, 1), (26, .bipush 12, 2), (28, .if_icmp .gt 133, 3), (31, .aload_n 0, 1), (32, .iload_n 1, 1), (33, .iload_n 3, 1), (34, .invokevirtual 227, 3), (37, .iconst 0, 1), (38, .istore 4, 2), (40, .iload 4, 2), (42, .bipush 60, 2), (44, .if_icmp .ge 39, 3), (47, .aload_n 0, 1), (48, .getfield 89, 3), (51, .iload 4, 2), (53, .aload_n 0, 1), (54, .getfield 77, 3), (57, .iload 4, 2), (59, .iaload, 1), (60, .aload_n 0, 1), (61, .getfield 83, 3), (64, .iload 4, 2), (66, .iaload, 1), (67, .iadd, 1), (68, .ifCond .le 7, 3), (71, .iconst 1, 1), (72, .goto 4, 3), (75, .iconst 0, 1), (76, .bastore, 1), (77, .iinc 4 1, 3), (80, .goto (-40), 3), (83, .aload_n 0, 1), (84, .iload_n 2, 1), (85, .iload_n 3, 1), (86, .invokevirtual 227, 3), (89, .iconst 1, 1), (90, .istore 4, 2), (92, .iconst 0, 1), (93, .istore 5, 2), (95, .iload 5, 2), (97, .bipush 60, 2), (99, .if_icmp .ge 49, 3), (102, .iload 4, 2), (104, .ifCond .eq 35, 3), (107, .aload_n 0, 1), (108, .getfield 89, 3), (111, .iload 5, 2), (113, .baload, 1), (114, .ifCond .eq 21, 3), (117, .aload_n 0, 1), (118, .getfield 77, 3), (121, .iload 5, 2), (123, .iaload, 1), (124, .aload_n 0, 1), (125, .getfield 83, 3), (128, .iload 5, 2), (130, .iaload, 1), (131, .iadd, 1), (132, .ifCond .gt 7, 3), (135, .iconst 1, 1), (136, .goto 4, 3), (139, .iconst 0, 1), (140, .istore 4, 2), (142, .iinc 5 1, 3), (145, .goto (-50), 3), (148, .iload 4, 2), (150, .ifCond .eq 5, 3), (153, .iload_n 3, 1), (154, .ireturn, 1), (155, .iinc 3 1, 3), (158, .goto (-133), 3), (161, .bipush (-3), 2), (163, .ireturn, 1)]
set_option maxRecDepth 100000 in
theorem am_kt161_0 : ∀ q ∈ (am_t161.drop 0).take 40, decode cX11_apart q.1 = .ok q.2 := by decide +kernel
set_option maxRecDepth 100000 in
theorem am_kt161_1 : ∀ q ∈ (am_t161.drop 40).take 40, decode cX11_apart q.1 = .ok q.2 := by decide +kernel
set_option maxRecDepth 100000 in
theorem am_kt161_2 : ∀ q ∈ (am_t161.drop 80).take 40, decode cX11_apart q.1 = .ok q.2 := by decide +kernel
set_option maxRecDepth 100000 in
theorem am_kt161 : ∀ q ∈ am_t161, decode cX11_apart q.1 = .ok q.2 := by
  intro q hq
  rw [← List.take_append_drop 40 (am_t161)] at hq
  rcases List.mem_append.mp hq with hq | hq
  · exact am_kt161_0 q hq
  rw [← List.take_append_drop 40 ((am_t161.drop 40))] at hq
  rcases List.mem_append.mp hq with hq | hq
  · exact am_kt161_1 q hq
  rw [List.drop_drop] at hq
  exact am_kt161_2 q (by rw [List.take_of_length_le (by decide)]; exact hq)
def am_t162 : List (Nat × Instr × Nat) := [(0, .iload_n 1, 1), (1, .ifCond .lt 35, 3), (4, .iload_n 2, 1), (5, .ifCond .lt 31, 3), (8, .iload_n 1, 1), (9, .bipush 100, 2), (11, .idiv, 1), (12, .iload_n 2, 1), (13, .bipush 100, 2), (15, .idiv, 1), (16, .invokestatic 152, 3), (19, .ifCond .eq 17, 3), (22, .iload_n 1, 1), (23, .bipush 100, 2), (25, .irem, 1), (26, .iload_n 2, 1), (27, .bipush 100, 2), (29, .irem, 1), (30, .invokestatic 152, 3), (33, .ifCond .ne 5, 3), (36, .iconst (-1), 1), (37, .ireturn, 1), (38, .iload_n 1, 1), (39, .bipush 100, 2), (41, .idiv, 1), (42, .iload_n 1, 1), (43, .bipush 100, 2), (45, .irem, 1), (46, .if_icmp .gt 26, 3), (49, .iload_n 2, 1), (50, .bipush 100, 2), (52, .idiv, 1), (53, .iload_n 2, 1), (54, .bipush 100, 2), (56, .irem, 1), (57, .if_icmp .gt 15, 3), (60, .iload_n 3, 1), (61, .i2l, 1), (62, .lconst 0, 1), (63, .ldc2_w 225, 3), (66, .invokestatic 158, 3), (69, .ifCond .ne 6, 3), (72, .bipush (-2), 2), (74, .ireturn, 1), (75, .aload_n 0, 1), (76, .getfield 235, 3), (79, .bipush 6, 2), (81, .if_icmp .ne 6, 3), (84, .bipush (-4), 2), (86, .ireturn, 1), (87, .aload_n 0, 1), (88, .getfield 92, 3), (91, .aload_n 0, 1), (92, .getfield 235, 3), (95, .iload_n 1, 1), (96, .bipush 100, 2), (98, .idiv, 1), (99, .iastore, 1), (100, .aload_n 0, 1), (101, .getfield 95, 3), (104, .aload_n 0, 1), (105, .getfield 235, 3), (108, .iload_n 1, 1), (109, .bipush 100, 2), (111, .irem, 1), (112, .iastore, 1), (113, .aload_n 0, 1), (114, .getfield 98, 3), (117, .aload_n 0, 1), (118, .getfield 235, 3), (121, .iload_n 2, 1), (122, .bipush 100, 2), (124, .idiv, 1), (125, .iastore, 1), (126, .aload_n 0, 1), (127, .getfield 101, 3), (130, .aload_n 0, 1), (131, .getfield 235, 3), (134, .iload_n 2, 1), (135, .bipush 100, 2), (137, .irem, 1), (138, .iastore, 1), (139, .aload_n 0, 1), (140, .getfield 104, 3), (143, .aload_n 0, 1), (144, .getfield 235, 3), (147, .iload_n 3, 1), (148, .iastore, 1), (149, .aload_n 0, 1), (150, .dup, 1), (151, .getfield 235, 3), (154, .iconst 1, 1), (155, .iadd, 1), (156, .putfield 235, 3), (159, .aload_n 0, 1), (160, .getfield 235, 3), (163, .iconst 1, 1), (164, .isub, 1), (165, .ireturn, 1)]
set_option maxRecDepth 100000 in
theorem am_kt162_0 : ∀ q ∈ (am_t162.drop 0).take 40, decode cX11_name q.1 = .ok q.2 := by decide +kernel
set_option maxRecDepth 100000 in
theorem am_kt162_1 : ∀ q ∈ (am_t162.drop 40).take 40, decode cX11_name q.1 = .ok q.2 := by decide +kernel
set_option maxRecDepth 100000 in
theorem am_kt162_2 : ∀ q ∈ (am_t162.drop 80).take 40, decode cX11_name q.1 = .ok q.2 := by decide +kernel
set_option maxRecDepth 100000 in
theorem am_kt162 : ∀ q ∈ am_t162, decode cX11_name q.1 = .ok q.2 := by
  intro q hq
  rw [← List.take_append_drop 40 (am_t162)] at hq
  rcases List.mem_append.mp hq with hq | hq
  · exact am_kt162_0 q hq
  rw [← List.take_append_drop 40 ((am_t162.drop 40))] at hq
  rcases List.mem_append.mp hq with hq | hq
  · exact am_kt162_1 q hq
  rw [List.drop_drop] at hq
  exact am_kt162_2 q (by rw [List.take_of_length_le (by decide)]; exact hq)
def am_t163 : List (Nat × Instr × Nat) := [(0, .aload_n 0, 1), (1, .iload_n 3, 1), (2, .invokevirtual 243, 3), (5, .ifCond .eq 15, 3), (8, .iload_n 2, 1), (9, .i2l, 1), (10, .lconst 0, 1), (11, .ldc2_w 188, 3), (14, .invokestatic 158, 3), (17, .ifCond .ne 5, 3), (20, .iconst (-1), 1), (21, .ireturn, 1), (22, .iload_n 1, 1), (23, .invokestatic 246, 3), (26, .ifCond .eq 31, 3), (29, .iload 4, 2), (31, .i2l, 1), (32, .lconst 0, 1), (33, .ldc2_w 249, 3), (36, .invokestatic 158, 3), (39, .ifCond .eq 18, 3), (42, .iload 5, 2), (44, .i2l, 1), (45, .iload 4, 2), (47, .i2l, 1), (48, .ldc2_w 249, 3), (51, .invokestatic 158, 3), (54, .ifCond .ne 6, 3), (57, .bipush (-2), 2), (59, .ireturn, 1), (60, .aload_n 0, 1), (61, .getfield 238, 3), (64, .bipush 16, 2), (66, .if_icmp .ne 6, 3), (69, .bipush (-4), 2), (71, .ireturn, 1), (72, .aload_n 0, 1), (73, .getfield 107, 3), (76, .aload_n 0, 1), (77, .getfield 238, 3), (80, .iload_n 1, 1), (81, .iastore, 1), (82, .aload_n 0, 1), (83, .getfield 110, 3), (86, .aload_n 0, 1), (87, .getfield 238, 3), (90, .iload_n 2, 1), (91, .iastore, 1), (92, .aload_n 0, 1), (93, .getfield 113, 3), (96, .aload_n 0, 1), (97, .getfield 238, 3), (100, .iload_n 3, 1), (101, .iastore, 1), (102, .aload_n 0, 1), (103, .getfield 116, 3), (106, .aload_n 0, 1), (107, .getfield 238, 3), (110, .iload 4, 2), (112, .iastore, 1), (113, .aload_n 0, 1), (114, .getfield 119, 3), (117, .aload_n 0, 1), (118, .getfield 238, 3), (121, .iload 5, 2), (123, .iastore, 1), (124, .aload_n 0, 1), (125, .getfield 122, 3), (128, .aload_n 0, 1), (129, .getfield 238, 3), (132, .aload_n 0, 1), (133, .getfield 251, 3), (136, .iastore, 1), (137, .aload_n 0, 1), (138, .dup, 1), (139, .getfield 238, 3), (142, .iconst 1, 1), (143, .iadd, 1), (144, .putfield 238, 3), (147, .aload_n 0, 1), (148, .getfield 238, 3), (151, .iconst 1, 1), (152, .isub, 1), (153, .ireturn, 1)]
set_option maxRecDepth 100000 in
theorem am_kt163_0 : ∀ q ∈ (am_t163.drop 0).take 40, decode cX11_find q.1 = .ok q.2 := by decide +kernel
set_option maxRecDepth 100000 in
theorem am_kt163_1 : ∀ q ∈ (am_t163.drop 40).take 40, decode cX11_find q.1 = .ok q.2 := by decide +kernel
set_option maxRecDepth 100000 in
theorem am_kt163_2 : ∀ q ∈ (am_t163.drop 80).take 40, decode cX11_find q.1 = .ok q.2 := by decide +kernel
set_option maxRecDepth 100000 in
theorem am_kt163 : ∀ q ∈ am_t163, decode cX11_find q.1 = .ok q.2 := by
  intro q hq
  rw [← List.take_append_drop 40 (am_t163)] at hq
  rcases List.mem_append.mp hq with hq | hq
  · exact am_kt163_0 q hq
  rw [← List.take_append_drop 40 ((am_t163.drop 40))] at hq
  rcases List.mem_append.mp hq with hq | hq
  · exact am_kt163_1 q hq
  rw [List.drop_drop] at hq
  exact am_kt163_2 q (by rw [List.take_of_length_le (by decide)]; exact hq)
def am_t164 : List (Nat × Instr × Nat) := [(0, .iload_n 1, 1), (1, .ifCond .lt 15, 3), (4, .iload_n 1, 1), (5, .aload_n 0, 1), (6, .getfield 235, 3), (9, .if_icmp .ge 7, 3), (12, .iconst 1, 1), (13, .goto 4, 3), (16, .iconst 0, 1), (17, .ireturn, 1)]
set_option maxRecDepth 100000 in
theorem am_kt164 : ∀ q ∈ am_t164, decode cX11_isName q.1 = .ok q.2 := by decide +kernel
def am_t165 : List (Nat × Instr × Nat) := [(0, .iload_n 0, 1), (1, .i2l, 1), (2, .lconst 0, 1), (3, .ldc2_w 241, 3), (6, .invokestatic 158, 3), (9, .istore_n 1, 1), (10, .iconst 0, 1), (11, .istore_n 2, 1), (12, .iload_n 2, 1), (13, .iconst 4, 1), (14, .if_icmp .ge 32, 3), (17, .iload_n 1, 1), (18, .ifCond .eq 20, 3), (21, .iload_n 0, 1), (22, .iconst 4, 1), (23, .iload_n 2, 1), (24, .imul, 1), (25, .ishr, 1), (26, .bipush 15, 2), (28, .iand, 1), (29, .bipush 10, 2), (31, .if_icmp .gt 7, 3), (34, .iconst 1, 1), (35, .goto 4, 3), (38, .iconst 0, 1), (39, .istore_n 1, 1), (40, .iinc 2 1, 3), (43, .goto (-31), 3), (46, .iload_n 1, 1), (47, .ireturn, 1)]
set_option maxRecDepth 100000 in
theorem am_kt165 : ∀ q ∈ am_t165, decode cX11_isRow q.1 = .ok q.2 := by decide +kernel
def am_t166 : List (Nat × Instr × Nat) := [(0, .iload_n 1, 1), (1, .i2l, 1), (2, .aload_n 0, 1), (3, .getfield 251, 3), (6, .i2l, 1), (7, .ldc2_w 254, 3), (10, .invokestatic 158, 3), (13, .ifCond .ne 6, 3), (16, .bipush (-2), 2), (18, .ireturn, 1), (19, .aload_n 0, 1), (20, .getfield 251, 3), (23, .istore_n 2, 1), (24, .aload_n 0, 1), (25, .iload_n 1, 1), (26, .putfield 251, 3), (29, .iload_n 2, 1), (30, .ireturn, 1)]
set_option maxRecDepth 100000 in
theorem am_kt166 : ∀ q ∈ am_t166, decode cX11_clock q.1 = .ok q.2 := by decide +kernel
def am_t167 : List (Nat × Instr × Nat) := [(0, .aload_n 0, 1), (1, .iload_n 1, 1), (2, .invokevirtual 256, 3), (5, .ifCond .ne 5, 3), (8, .iconst (-1), 1), (9, .ireturn, 1), (10, .iload_n 2, 1), (11, .i2l, 1), (12, .lconst 0, 1), (13, .lconst 1, 1), (14, .invokestatic 158, 3), (17, .ifCond .ne 6, 3), (20, .bipush (-2), 2), (22, .ireturn, 1), (23, .aload_n 0, 1), (24, .getfield 125, 3), (27, .iload_n 1, 1), (28, .baload, 1), (29, .ifCond .eq 7, 3), (32, .iconst 1, 1), (33, .goto 4, 3), (36, .iconst 0, 1), (37, .istore_n 3, 1), (38, .aload_n 0, 1), (39, .getfield 125, 3), (42, .iload_n 1, 1), (43, .iload_n 2, 1), (44, .iconst 1, 1), (45, .if_icmp .ne 7, 3), (48, .iconst 1, 1), (49, .goto 4, 3), (52, .iconst 0, 1), (53, .bastore, 1), (54, .iload_n 3, 1), (55, .ireturn, 1)]
set_option maxRecDepth 100000 in
theorem am_kt167 : ∀ q ∈ am_t167, decode cX11_drop q.1 = .ok q.2 := by decide +kernel
def am_t168 : List (Nat × Instr × Nat) := [(0, .iload_n 1, 1), (1, .ifCond .lt 15, 3), (4, .iload_n 1, 1), (5, .aload_n 0, 1), (6, .getfield 238, 3), (9, .if_icmp .ge 7, 3), (12, .iconst 1, 1), (13, .goto 4, 3), (16, .iconst 0, 1), (17, .ireturn, 1)]
set_option maxRecDepth 100000 in
theorem am_kt168 : ∀ q ∈ am_t168, decode cX11_isFind q.1 = .ok q.2 := by decide +kernel
def am_t169 : List (Nat × Instr × Nat) := [(0, .aload_n 0, 1), (1, .iload_n 1, 1), (2, .invokevirtual 256, 3), (5, .ifCond .eq 20, 3), (8, .aload_n 0, 1), (9, .iload_n 2, 1), (10, .invokevirtual 198, 3), (13, .ifCond .eq 12, 3), (16, .aload_n 0, 1), (17, .iload_n 1, 1), (18, .iload_n 2, 1), (19, .invokevirtual 266, 3), (22, .goto 4, 3), (25, .iconst (-1), 1), (26, .ireturn, 1)]
set_option maxRecDepth 100000 in
theorem am_kt169 : ∀ q ∈ am_t169, decode cX11_weight q.1 = .ok q.2 := by decide +kernel
def am_t170 : List (Nat × Instr × Nat) := [(0, .aload_n 0, 1), (1, .iload_n 1, 1), (2, .iload_n 2, 1), (3, .invokevirtual 259, 3), (6, .ifCond .ne 5, 3), (9, .iconst 0, 1), (10, .ireturn, 1), (11, .aload_n 0, 1), (12, .iload_n 2, 1), (13, .bipush 12, 2), (15, .invokevirtual 227, 3), (18, .aload_n 0, 1), (19, .aload_n 0, 1), (20, .getfield 113, 3), (23, .iload_n 1, 1), (24, .iaload, 1), (25, .aload_n 0, 1), (26, .getfield 65, 3), (29, .iload_n 2, 1), (30, .iaload, 1), (31, .aload_n 0, 1), (32, .getfield 116, 3), (35, .iload_n 1, 1), (36, .iaload, 1), (37, .aload_n 0, 1), (38, .getfield 119, 3), (41, .iload_n 1, 1), (42, .iaload, 1), (43, .invokevirtual 262, 3), (46, .ireturn, 1)]
set_option maxRecDepth 100000 in
theorem am_kt170 : ∀ q ∈ am_t170, decode cX11_weightOf q.1 = .ok q.2 := by decide +kernel
def am_t171 : List (Nat × Instr × Nat) := [(0, .aload_n 0, 1), (1, .getfield 110, 3), (4, .iload_n 1, 1), (5, .iaload, 1), (6, .aload_n 0, 1), (7, .getfield 71, 3), (10, .iload_n 2, 1), (11, .iaload, 1), (12, .if_icmp .eq 5, 3), (15, .iconst 0, 1), (16, .ireturn, 1), (17, .iconst 0, 1), (18, .istore_n 3, 1), (19, .aload_n 0, 1), (20, .getfield 59, 3), (23, .iload_n 2, 1), (24, .iaload, 1), (25, .istore 4, 2), (27, .iload 4, 2), (29, .aload_n 0, 1), (30, .getfield 59, 3), (33, .iload_n 2, 1), (34, .iaload, 1), (35, .aload_n 0, 1), (36, .getfield 62, 3), (39, .iload_n 2, 1), (40, .iaload, 1), (41, .iadd, 1), (42, .if_icmp .ge 96, 3), (45, .iload 4, 2), (47, .istore 5, 2), (49, .iconst 1, 1), (50, .istore 6, 2), (52, .iconst 0, 1), (53, .istore 7, 2), (55, .iload 7, 2), (57, .iconst 4, 1), (58, .if_icmp .ge 61, 3), (61, .aload_n 0, 1), (62, .getfield 107, 3), (65, .iload_n 1, 1), (66, .iaload, 1), (67, .iconst 4, 1), (68, .iload 7, 2), (70, .imul, 1), (71, .ishr, 1), (72, .bipush 15, 2), (74, .iand, 1), (75, .istore 8, 2), (77, .iload 6, 2), (79, .ifCond .eq 24, 3), (82, .iload 8, 2), (84, .bipush 10, 2), (86, .if_icmp .eq 13, 3), (89, .iload 8, 2), (91, .iload 5, 2), (93, .bipush 10, 2), (95, .irem, 1), (96, .if_icmp .ne 7, 3), (99, .iconst 1, 1), (100, .goto 4, 3), (103, .iconst 0, 1), (104, .istore 6, 2), (106, .iload 5, 2), (108, .bipush 10, 2), (110, .idiv, 1), (111, .istore 5, 2), (113, .iinc 7 1, 3), (116, .goto (-61), 3), (119, .iload_n 3, 1), (120, .iload 6, 2), (122, .ifCond .eq 7, 3), (125, .iconst 1, 1), (126, .goto 4, 3), (129, .iconst 0, 1), (130, .iadd, 1), (131, .istore_n 3, 1), (132, .iinc 4 1, 3), (135, .goto (-108), 3), (138, .iload_n 3, 1), (139, .ireturn, 1)]
set_option maxRecDepth 100000 in
theorem am_kt171_0 : ∀ q ∈ (am_t171.drop 0).take 40, decode cX11_cardsOf q.1 = .ok q.2 := by decide +kernel
set_option maxRecDepth 100000 in
theorem am_kt171_1 : ∀ q ∈ (am_t171.drop 40).take 40, decode cX11_cardsOf q.1 = .ok q.2 := by decide +kernel
set_option maxRecDepth 100000 in
theorem am_kt171_2 : ∀ q ∈ (am_t171.drop 80).take 40, decode cX11_cardsOf q.1 = .ok q.2 := by decide +kernel
set_option maxRecDepth 100000 in
theorem am_kt171 : ∀ q ∈ am_t171, decode cX11_cardsOf q.1 = .ok q.2 := by
  intro q hq
  rw [← List.take_append_drop 40 (am_t171)] at hq
  rcases List.mem_append.mp hq with hq | hq
  · exact am_kt171_0 q hq
  rw [← List.take_append_drop 40 ((am_t171.drop 40))] at hq
  rcases List.mem_append.mp hq with hq | hq
  · exact am_kt171_1 q hq
  rw [List.drop_drop] at hq
  exact am_kt171_2 q (by rw [List.take_of_length_le (by decide)]; exact hq)
def am_t172 : List (Nat × Instr × Nat) := [(0, .iconst 0, 1), (1, .istore 5, 2), (3, .iconst 0, 1), (4, .istore 6, 2), (6, .iload 6, 2), (8, .bipush 12, 2), (10, .if_icmp .ge 102, 3), (13, .iload_n 2, 1), (14, .iload 6, 2), (16, .iadd, 1), (17, .i2l, 1), (18, .iload_n 3, 1), (19, .i2l, 1), (20, .iload 4, 2), (22, .i2l, 1), (23, .invokestatic 158, 3), (26, .ifCond .ne 6, 3), (29, .goto 77, 3), (32, .aload_n 0, 1), (33, .getfield 92, 3), (36, .iload_n 1, 1), (37, .iaload, 1), (38, .istore 7, 2), (40, .iload 7, 2), (42, .aload_n 0, 1), (43, .getfield 95, 3), (46, .iload_n 1, 1), (47, .iaload, 1), (48, .if_icmp .gt 58, 3), (51, .aload_n 0, 1), (52, .getfield 98, 3), (55, .iload_n 1, 1), (56, .iaload, 1), (57, .istore 8, 2), (59, .iload 8, 2), (61, .aload_n 0, 1), (62, .getfield 101, 3), (65, .iload_n 1, 1), (66, .iaload, 1), (67, .if_icmp .gt 33, 3), (70, .iload 5, 2), (72, .aload_n 0, 1), (73, .getfield 86, 3), (76, .bipush 60, 2), (78, .iload 6, 2), (80, .imul, 1), (81, .bipush 6, 2), (83, .iload 7, 2), (85, .imul, 1), (86, .iadd, 1), (87, .iload 8, 2), (89, .iadd, 1), (90, .iaload, 1), (91, .iadd, 1), (92, .istore 5, 2), (94, .iinc 8 1, 3), (97, .goto (-38), 3), (100, .iinc 7 1, 3), (103, .goto (-63), 3), (106, .iinc 6 1, 3), (109, .goto (-103), 3), (112, .iload 5, 2), (114, .ireturn, 1)]
set_option maxRecDepth 100000 in
theorem am_kt172_0 : ∀ q ∈ (am_t172.drop 0).take 40, decode cX11_foundIn q.1 = .ok q.2 := by decide +kernel
set_option maxRecDepth 100000 in
theorem am_kt172_1 : ∀ q ∈ (am_t172.drop 40).take 40, decode cX11_foundIn q.1 = .ok q.2 := by decide +kernel
set_option maxRecDepth 100000 in
theorem am_kt172 : ∀ q ∈ am_t172, decode cX11_foundIn q.1 = .ok q.2 := by
  intro q hq
  rw [← List.take_append_drop 40 (am_t172)] at hq
  rcases List.mem_append.mp hq with hq | hq
  · exact am_kt172_0 q hq
  exact am_kt172_1 q (by rw [List.take_of_length_le (by decide)]; exact hq)
def am_t173 : List (Nat × Instr × Nat) := [(0, .aload_n 0, 1), (1, .iload_n 1, 1), (2, .invokevirtual 256, 3), (5, .ifCond .eq 11, 3), (8, .aload_n 0, 1), (9, .iload_n 1, 1), (10, .invokevirtual 269, 3), (13, .goto 4, 3), (16, .iconst (-1), 1), (17, .ireturn, 1)]
set_option maxRecDepth 100000 in
theorem am_kt173 : ∀ q ∈ am_t173, decode cX11_judge q.1 = .ok q.2 := by decide +kernel
def am_t174 : List (Nat × Instr × Nat) := [(0, .iconst 0, 1), (1, .istore_n 2, 1), (2, .iconst 0, 1), (3, .istore_n 3, 1), (4, .iconst 0, 1), (5, .istore 4, 2), (7, .iload 4, 2), (9, .aload_n 0, 1), (10, .getfield 166, 3), (13, .if_icmp .ge 45, 3), (16, .iload_n 2, 1), (17, .aload_n 0, 1), (18, .iload_n 1, 1), (19, .iload 4, 2), (21, .invokevirtual 259, 3), (24, .ifCond .le 7, 3), (27, .iconst 1, 1), (28, .goto 4, 3), (31, .iconst 0, 1), (32, .iadd, 1), (33, .istore_n 2, 1), (34, .iload_n 3, 1), (35, .aload_n 0, 1), (36, .iload_n 1, 1), (37, .iload 4, 2), (39, .invokevirtual 266, 3), (42, .ifCond .le 7, 3), (45, .iconst 1, 1), (46, .goto 4, 3), (49, .iconst 0, 1), (50, .iadd, 1), (51, .istore_n 3, 1), (52, .iinc 4 1, 3), (55, .goto (-48), 3), (58, .iload_n 2, 1), (59, .ifCond .ne 7, 3), (62, .iconst 3, 1), (63, .goto 21, 3), (66, .iload_n 3, 1), (67, .ifCond .ne 7, 3), (70, .iconst 0, 1), (71, .goto 13, 3), (74, .iload_n 3, 1), (75, .iconst 1, 1), (76, .if_icmp .ne 7, 3), (79, .iconst 2, 1), (80, .goto 4, 3), (83, .iconst 1, 1), (84, .ireturn, 1)]
set_option maxRecDepth 100000 in
theorem am_kt174_0 : ∀ q ∈ (am_t174.drop 0).take 40, decode cX11_judged q.1 = .ok q.2 := by decide +kernel
set_option maxRecDepth 100000 in
theorem am_kt174_1 : ∀ q ∈ (am_t174.drop 40).take 40, decode cX11_judged q.1 = .ok q.2 := by decide +kernel
set_option maxRecDepth 100000 in
theorem am_kt174 : ∀ q ∈ am_t174, decode cX11_judged q.1 = .ok q.2 := by
  intro q hq
  rw [← List.take_append_drop 40 (am_t174)] at hq
  rcases List.mem_append.mp hq with hq | hq
  · exact am_kt174_0 q hq
  exact am_kt174_1 q (by rw [List.take_of_length_le (by decide)]; exact hq)
def am_t175 : List (Nat × Instr × Nat) := [(0, .aload_n 0, 1), (1, .iload_n 1, 1), (2, .invokevirtual 256, 3), (5, .ifCond .eq 11, 3), (8, .aload_n 0, 1), (9, .iload_n 1, 1), (10, .invokevirtual 272, 3), (13, .goto 4, 3), (16, .iconst (-1), 1), (17, .ireturn, 1)]
set_option maxRecDepth 100000 in
theorem am_kt175 : ∀ q ∈ am_t175, decode cX11_best q.1 = .ok q.2 := by decide +kernel
def am_t176 : List (Nat × Instr × Nat) := [(0, .iconst (-1), 1), (1, .istore_n 2, 1), (2, .iconst 0, 1), (3, .istore_n 3, 1), (4, .iconst 0, 1), (5, .istore 4, 2), (7, .iload 4, 2), (9, .aload_n 0, 1), (10, .getfield 166, 3), (13, .if_icmp .ge 33, 3), (16, .aload_n 0, 1), (17, .iload_n 1, 1), (18, .iload 4, 2), (20, .invokevirtual 266, 3), (23, .istore 5, 2), (25, .iload 5, 2), (27, .iload_n 3, 1), (28, .if_icmp .gt 6, 3), (31, .goto 9, 3), (34, .iload 5, 2), (36, .istore_n 3, 1), (37, .iload 4, 2), (39, .istore_n 2, 1), (40, .iinc 4 1, 3), (43, .goto (-36), 3), (46, .iload_n 2, 1), (47, .ireturn, 1)]
set_option maxRecDepth 100000 in
theorem am_kt176 : ∀ q ∈ am_t176, decode cX11_bestOf q.1 = .ok q.2 := by decide +kernel
def am_t177 : List (Nat × Instr × Nat) := [(0, .aload_n 0, 1), (1, .iload_n 1, 1), (2, .invokevirtual 256, 3), (5, .ifCond .ne 5, 3), (8, .iconst (-1), 1), (9, .ireturn, 1), (10, .aload_n 0, 1), (11, .iload_n 1, 1), (12, .invokevirtual 272, 3), (15, .istore_n 2, 1), (16, .iload_n 2, 1), (17, .ifCond .ge 7, 3), (20, .iconst 0, 1), (21, .goto 9, 3), (24, .aload_n 0, 1), (25, .iload_n 1, 1), (26, .iload_n 2, 1), (27, .invokevirtual 259, 3), (30, .ireturn, 1)]
set_option maxRecDepth 100000 in
theorem am_kt177 : ∀ q ∈ am_t177, decode cX11_cards q.1 = .ok q.2 := by decide +kernel
def am_t178 : List (Nat × Instr × Nat) := [(0, .aload_n 0, 1), (1, .iload_n 1, 1), (2, .invokevirtual 256, 3), (5, .ifCond .eq 11, 3), (8, .aload_n 0, 1), (9, .iload_n 1, 1), (10, .invokevirtual 278, 3), (13, .goto 4, 3), (16, .iconst (-1), 1), (17, .ireturn, 1)]
set_option maxRecDepth 100000 in
theorem am_kt178 : ∀ q ∈ am_t178, decode cX11_twin q.1 = .ok q.2 := by decide +kernel
def am_t179 : List (Nat × Instr × Nat) := [(0, .iconst 0, 1), (1, .istore_n 2, 1), (2, .iload_n 2, 1), (3, .iload_n 1, 1), (4, .if_icmp .ge 58, 3), (7, .aload_n 0, 1), (8, .iload_n 1, 1), (9, .invokevirtual 275, 3), (12, .ifCond .eq 50, 3), (15, .aload_n 0, 1), (16, .getfield 125, 3), (19, .iload_n 2, 1), (20, .baload, 1), (21, .ifCond .ne 35, 3), (24, .aload_n 0, 1), (25, .getfield 107, 3), (28, .iload_n 2, 1), (29, .iaload, 1), (30, .aload_n 0, 1), (31, .getfield 107, 3), (34, .iload_n 1, 1), (35, .iaload, 1), (36, .if_icmp .ne 20, 3), (39, .aload_n 0, 1), (40, .getfield 110, 3), (43, .iload_n 2, 1), (44, .iaload, 1), (45, .aload_n 0, 1), (46, .getfield 110, 3), (49, .iload_n 1, 1), (50, .iaload, 1), (51, .if_icmp .ne 5, 3), (54, .iload_n 2, 1), (55, .ireturn, 1), (56, .iinc 2 1, 3), (59, .goto (-57), 3), (62, .iconst (-1), 1), (63, .ireturn, 1)]
set_option maxRecDepth 100000 in
theorem am_kt179 : ∀ q ∈ am_t179, decode cX11_twinOf q.1 = .ok q.2 := by decide +kernel
