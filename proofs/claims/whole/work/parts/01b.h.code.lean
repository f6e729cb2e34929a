def am_t180 : List (Nat × Instr × Nat) := [(0, .iconst 1, 1), (1, .istore_n 2, 1), (2, .iconst 0, 1), (3, .istore_n 3, 1), (4, .iload_n 3, 1), (5, .iconst 4, 1), (6, .if_icmp .ge 37, 3), (9, .iload_n 2, 1), (10, .ifCond .eq 25, 3), (13, .aload_n 0, 1), (14, .getfield 107, 3), (17, .iload_n 1, 1), (18, .iaload, 1), (19, .iconst 4, 1), (20, .iload_n 3, 1), (21, .imul, 1), (22, .ishr, 1), (23, .bipush 15, 2), (25, .iand, 1), (26, .bipush 10, 2), (28, .if_icmp .eq 7, 3), (31, .iconst 1, 1), (32, .goto 4, 3), (35, .iconst 0, 1), (36, .istore_n 2, 1), (37, .iinc 3 1, 3), (40, .goto (-36), 3), (43, .iload_n 2, 1), (44, .ireturn, 1)]
set_option maxRecDepth 100000 in
theorem am_kt180 : ∀ q ∈ am_t180, decode cX11_isKnown q.1 = .ok q.2 := by decide +kernel
def am_t181 : List (Nat × Instr × Nat) := [(0, .aload_n 0, 1), (1, .iload_n 1, 1), (2, .invokevirtual 198, 3), (5, .ifCond .eq 16, 3), (8, .iload_n 2, 1), (9, .iconst (-1), 1), (10, .if_icmp .eq 13, 3), (13, .aload_n 0, 1), (14, .iload_n 2, 1), (15, .invokevirtual 243, 3), (18, .ifCond .ne 5, 3), (21, .iconst (-1), 1), (22, .ireturn, 1), (23, .iload_n 3, 1), (24, .i2l, 1), (25, .lconst 0, 1), (26, .ldc2_w 254, 3), (29, .invokestatic 158, 3), (32, .ifCond .ne 6, 3), (35, .bipush (-2), 2), (37, .ireturn, 1), (38, .aload_n 0, 1), (39, .invokevirtual 281, 3), (42, .aload_n 0, 1), (43, .iload_n 1, 1), (44, .iload_n 2, 1), (45, .iload_n 3, 1), (46, .iconst (-1), 1), (47, .invokevirtual 284, 3), (50, .ireturn, 1)]
set_option maxRecDepth 100000 in
theorem am_kt181 : ∀ q ∈ am_t181, decode cX11_got q.1 = .ok q.2 := by decide +kernel
def am_t182 : List (Nat × Instr × Nat) := [(0, .iconst 0, 1), (1, .istore_n 1, 1), (2, .iload_n 1, 1), (3, .aload_n 0, 1), (4, .getfield 238, 3), (7, .if_icmp .ge 50, 3), (10, .aload_n 0, 1), (11, .getfield 128, 3), (14, .iload_n 1, 1), (15, .aload_n 0, 1), (16, .getfield 125, 3), (19, .iload_n 1, 1), (20, .baload, 1), (21, .ifCond .ne 28, 3), (24, .aload_n 0, 1), (25, .iload_n 1, 1), (26, .invokevirtual 278, 3), (29, .ifCond .ge 20, 3), (32, .aload_n 0, 1), (33, .iload_n 1, 1), (34, .invokevirtual 269, 3), (37, .iconst 2, 1), (38, .if_icmp .ne 11, 3), (41, .aload_n 0, 1), (42, .iload_n 1, 1), (43, .invokevirtual 272, 3), (46, .goto 4, 3), (49, .iconst (-1), 1), (50, .iastore, 1), (51, .iinc 1 1, 3), (54, .goto (-52), 3), (57, .return_, 1)]
set_option maxRecDepth 100000 in
theorem am_kt182 : ∀ q ∈ am_t182, decode cX11_findSure q.1 = .ok q.2 := by decide +kernel
def am_t183 : List (Nat × Instr × Nat) := [(0, .iconst 0, 1), (1, .istore 5, 2), (3, .iconst 0, 1), (4, .istore 6, 2), (6, .iload 6, 2), (8, .aload_n 0, 1), (9, .getfield 238, 3), (12, .if_icmp .ge 64, 3), (15, .iload 5, 2), (17, .iload 6, 2), (19, .iload 4, 2), (21, .if_icmp .eq 45, 3), (24, .aload_n 0, 1), (25, .getfield 122, 3), (28, .iload 6, 2), (30, .iaload, 1), (31, .iload_n 3, 1), (32, .if_icmp .gt 34, 3), (35, .aload_n 0, 1), (36, .getfield 128, 3), (39, .iload 6, 2), (41, .iaload, 1), (42, .iload_n 1, 1), (43, .if_icmp .ne 23, 3), (46, .iload_n 2, 1), (47, .iconst (-1), 1), (48, .if_icmp .eq 14, 3), (51, .aload_n 0, 1), (52, .getfield 113, 3), (55, .iload 6, 2), (57, .iaload, 1), (58, .iload_n 2, 1), (59, .if_icmp .ne 7, 3), (62, .iconst 1, 1), (63, .goto 4, 3), (66, .iconst 0, 1), (67, .iadd, 1), (68, .istore 5, 2), (70, .iinc 6 1, 3), (73, .goto (-67), 3), (76, .iload 5, 2), (78, .ireturn, 1)]
set_option maxRecDepth 100000 in
theorem am_kt183_0 : ∀ q ∈ (am_t183.drop 0).take 40, decode cX11_gotBy q.1 = .ok q.2 := by decide +kernel
set_option maxRecDepth 100000 in
theorem am_kt183_1 : ∀ q ∈ (am_t183.drop 40).take 40, decode cX11_gotBy q.1 = .ok q.2 := by decide +kernel
set_option maxRecDepth 100000 in
theorem am_kt183 : ∀ q ∈ am_t183, decode cX11_gotBy q.1 = .ok q.2 := by
  intro q hq
  rw [← List.take_append_drop 40 (am_t183)] at hq
  rcases List.mem_append.mp hq with hq | hq
  · exact am_kt183_0 q hq
  exact am_kt183_1 q (by rw [List.take_of_length_le (by decide)]; exact hq)
def am_t184 : List (Nat × Instr × Nat) := [(0, .iload_n 1, 1), (1, .i2l, 1), (2, .lconst 0, 1), (3, .ldc2_w 178, 3), (6, .invokestatic 158, 3), (9, .ifCond .ne 6, 3), (12, .bipush (-3), 2), (14, .ireturn, 1), (15, .iload_n 2, 1), (16, .i2l, 1), (17, .ldc2_w 287, 3), (20, .lconst 1, 1), (21, .invokestatic 158, 3), (24, .ifCond .ne 6, 3), (27, .bipush (-2), 2), (29, .ireturn, 1), (30, .aload_n 0, 1), (31, .getfield 37, 3), (34, .iload_n 1, 1), (35, .iaload, 1), (36, .istore_n 3, 1), (37, .aload_n 0, 1), (38, .getfield 37, 3), (41, .iload_n 1, 1), (42, .iload_n 2, 1), (43, .iastore, 1), (44, .iload_n 3, 1), (45, .ireturn, 1)]
set_option maxRecDepth 100000 in
theorem am_kt184 : ∀ q ∈ am_t184, decode cX11_move q.1 = .ok q.2 := by decide +kernel
def am_t185 : List (Nat × Instr × Nat) := [(0, .iload_n 1, 1), (1, .i2l, 1), (2, .lconst 0, 1), (3, .ldc2_w 178, 3), (6, .invokestatic 158, 3), (9, .ifCond .ne 6, 3), (12, .bipush (-3), 2), (14, .ireturn, 1), (15, .aload_n 0, 1), (16, .invokevirtual 281, 3), (19, .aload_n 0, 1), (20, .iconst (-1), 1), (21, .invokevirtual 297, 3), (24, .aload_n 0, 1), (25, .getfield 134, 3), (28, .iload_n 1, 1), (29, .iaload, 1), (30, .ireturn, 1)]
set_option maxRecDepth 100000 in
theorem am_kt185 : ∀ q ∈ am_t185, decode cX11_fit q.1 = .ok q.2 := by decide +kernel
def am_t186 : List (Nat × Instr × Nat) := [(0, .iconst 0, 1), (1, .istore_n 2, 1), (2, .iload_n 2, 1), (3, .iconst 3, 1), (4, .if_icmp .ge 21, 3), (7, .aload_n 0, 1), (8, .getfield 131, 3), (11, .iload_n 2, 1), (12, .aload_n 0, 1), (13, .getfield 37, 3), (16, .iload_n 2, 1), (17, .iaload, 1), (18, .iastore, 1), (19, .iinc 2 1, 3), (22, .goto (-20), 3), (25, .aload_n 0, 1), (26, .ldc2_w 287, 3), (29, .putfield 289, 3), (32, .iconst 0, 1), (33, .istore_n 2, 1), (34, .iload_n 2, 1), (35, .bipush 27, 2), (37, .if_icmp .ge 106, 3), (40, .aload_n 0, 1), (41, .getfield 37, 3), (44, .iconst 0, 1), (45, .iload_n 2, 1), (46, .bipush 9, 2), (48, .idiv, 1), (49, .iconst 1, 1), (50, .isub, 1), (51, .iastore, 1), (52, .aload_n 0, 1), (53, .getfield 37, 3), (56, .iconst 1, 1), (57, .iload_n 2, 1), (58, .iconst 3, 1), (59, .idiv, 1), (60, .iconst 3, 1), (61, .irem, 1), (62, .iconst 1, 1), (63, .isub, 1), (64, .iastore, 1), (65, .aload_n 0, 1), (66, .getfield 37, 3), (69, .iconst 2, 1), (70, .iload_n 2, 1), (71, .iconst 3, 1), (72, .irem, 1), (73, .iconst 1, 1), (74, .isub, 1), (75, .iastore, 1), (76, .aload_n 0, 1), (77, .iload_n 1, 1), (78, .invokevirtual 293, 3), (81, .lstore_n 3, 1), (82, .aload_n 0, 1), (83, .getfield 289, 3), (86, .lconst 0, 1), (87, .lcmp, 1), (88, .ifCond .lt 15, 3), (91, .lload_n 3, 1), (92, .aload_n 0, 1), (93, .getfield 289, 3), (96, .lcmp, 1), (97, .ifCond .lt 6, 3), (100, .goto 37, 3), (103, .aload_n 0, 1), (104, .lload_n 3, 1), (105, .putfield 289, 3), (108, .iconst 0, 1), (109, .istore 5, 2), (111, .iload 5, 2), (113, .iconst 3, 1), (114, .if_icmp .ge 23, 3), (117, .aload_n 0, 1), (118, .getfield 134, 3), (121, .iload 5, 2), (123, .aload_n 0, 1), (124, .getfield 37, 3), (127, .iload 5, 2), (129, .iaload, 1), (130, .iastore, 1), (131, .iinc 5 1, 3), (134, .goto (-23), 3), (137, .iinc 2 1, 3), (140, .goto (-106), 3), (143, .iconst 0, 1), (144, .istore_n 2, 1), (145, .iload_n 2, 1), (146, .iconst 3, 1), (147, .if_icmp .ge 21, 3), (150, .aload_n 0, 1), (151, .getfield 37, 3), (154, .iload_n 2, 1), (155, .aload_n 0, 1), (156, .getfield 131, 3), (159, .iload_n 2, 1), (160, .iaload, 1), (161, .iastore, 1), (162, .iinc 2 1, 3), (165, .goto (-20), 3), (168, .return_, 1)]
set_option maxRecDepth 100000 in
theorem am_kt186_0 : ∀ q ∈ (am_t186.drop 0).take 40, decode cX11_fits q.1 = .ok q.2 := by decide +kernel
set_option maxRecDepth 100000 in
theorem am_kt186_1 : ∀ q ∈ (am_t186.drop 40).take 40, decode cX11_fits q.1 = .ok q.2 := by decide +kernel
set_option maxRecDepth 100000 in
theorem am_kt186_2 : ∀ q ∈ (am_t186.drop 80).take 40, decode cX11_fits q.1 = .ok q.2 := by decide +kernel
set_option maxRecDepth 100000 in
theorem am_kt186 : ∀ q ∈ am_t186, decode cX11_fits q.1 = .ok q.2 := by
  intro q hq
  rw [← List.take_append_drop 40 (am_t186)] at hq
  rcases List.mem_append.mp hq with hq | hq
  · exact am_kt186_0 q hq
  rw [← List.take_append_drop 40 ((am_t186.drop 40))] at hq
  rcases List.mem_append.mp hq with hq | hq
  · exact am_kt186_1 q hq
  rw [List.drop_drop] at hq
  exact am_kt186_2 q (by rw [List.take_of_length_le (by decide)]; exact hq)
def am_t187 : List (Nat × Instr × Nat) := [(0, .lconst 0, 1), (1, .lstore_n 2, 1), (2, .iconst 0, 1), (3, .istore 4, 2), (5, .iload 4, 2), (7, .aload_n 0, 1), (8, .getfield 166, 3), (11, .if_icmp .ge 93, 3), (14, .aload_n 0, 1), (15, .iload 4, 2), (17, .bipush 12, 2), (19, .invokevirtual 227, 3), (22, .iconst 0, 1), (23, .istore 5, 2), (25, .iload 5, 2), (27, .aload_n 0, 1), (28, .getfield 235, 3), (31, .if_icmp .ge 67, 3), (34, .aload_n 0, 1), (35, .iload 5, 2), (37, .aload_n 0, 1), (38, .getfield 65, 3), (41, .iload 4, 2), (43, .iaload, 1), (44, .iconst 0, 1), (45, .bipush 100, 2), (47, .invokevirtual 262, 3), (50, .i2l, 1), (51, .aload_n 0, 1), (52, .getfield 62, 3), (55, .iload 4, 2), (57, .iaload, 1), (58, .i2l, 1), (59, .lmul, 1), (60, .ldc2_w 194, 3), (63, .ldiv, 1), (64, .ldc2_w 194, 3), (67, .aload_n 0, 1), (68, .iload 4, 2), (70, .iload 5, 2), (72, .sipush 999, 3), (75, .iload_n 1, 1), (76, .invokevirtual 284, 3), (79, .i2l, 1), (80, .lmul, 1), (81, .lsub, 1), (82, .lstore 6, 2), (84, .lload_n 2, 1), (85, .lload 6, 2), (87, .lload 6, 2), (89, .lmul, 1), (90, .ladd, 1), (91, .lstore_n 2, 1), (92, .iinc 5 1, 3), (95, .goto (-70), 3), (98, .iinc 4 1, 3), (101, .goto (-96), 3), (104, .lload_n 2, 1), (105, .lreturn, 1)]
set_option maxRecDepth 100000 in
theorem am_kt187_0 : ∀ q ∈ (am_t187.drop 0).take 40, decode cX11_missed q.1 = .ok q.2 := by decide +kernel
set_option maxRecDepth 100000 in
theorem am_kt187_1 : ∀ q ∈ (am_t187.drop 40).take 40, decode cX11_missed q.1 = .ok q.2 := by decide +kernel
set_option maxRecDepth 100000 in
theorem am_kt187 : ∀ q ∈ am_t187, decode cX11_missed q.1 = .ok q.2 := by
  intro q hq
  rw [← List.take_append_drop 40 (am_t187)] at hq
  rcases List.mem_append.mp hq with hq | hq
  · exact am_kt187_0 q hq
  exact am_kt187_1 q (by rw [List.take_of_length_le (by decide)]; exact hq)
def am_t188 : List (Nat × Instr × Nat) := [(0, .aload_n 0, 1), (1, .invokevirtual 281, 3), (4, .aload_n 0, 1), (5, .iconst (-1), 1), (6, .invokevirtual 297, 3), (9, .aload_n 0, 1), (10, .getfield 289, 3), (13, .lreturn, 1)]
set_option maxRecDepth 100000 in
theorem am_kt188 : ∀ q ∈ am_t188, decode cX11_misfit q.1 = .ok q.2 := by decide +kernel
def am_t189 : List (Nat × Instr × Nat) := [(0, .aload_n 0, 1), (1, .invokevirtual 281, 3), (4, .aload_n 0, 1), (5, .iconst (-1), 1), (6, .invokevirtual 293, 3), (9, .lreturn, 1)]
set_option maxRecDepth 100000 in
theorem am_kt189 : ∀ q ∈ am_t189, decode cX11_misses q.1 = .ok q.2 := by decide +kernel
def am_t190 : List (Nat × Instr × Nat) := [(0, .iload_n 1, 1), (1, .i2l, 1), (2, .lconst 0, 1), (3, .ldc2_w 178, 3), (6, .invokestatic 158, 3), (9, .ifCond .ne 5, 3), (12, .iconst (-1), 1), (13, .ireturn, 1), (14, .aload_n 0, 1), (15, .invokevirtual 281, 3), (18, .aload_n 0, 1), (19, .iconst (-1), 1), (20, .invokevirtual 297, 3), (23, .aload_n 0, 1), (24, .getfield 134, 3), (27, .iload_n 1, 1), (28, .iaload, 1), (29, .istore_n 2, 1), (30, .iconst 3, 1), (31, .istore_n 3, 1), (32, .iconst 0, 1), (33, .istore 4, 2), (35, .aload_n 0, 1), (36, .getfield 238, 3), (39, .iconst 1, 1), (40, .isub, 1), (41, .istore 5, 2), (43, .iload 5, 2), (45, .ifCond .lt 55, 3), (48, .iload_n 3, 1), (49, .ifCond .le 51, 3), (52, .aload_n 0, 1), (53, .getfield 128, 3), (56, .iload 5, 2), (58, .iaload, 1), (59, .ifCond .ge 6, 3), (62, .goto 32, 3), (65, .iinc 3 (-1), 3), (68, .aload_n 0, 1), (69, .iload 5, 2), (71, .invokevirtual 297, 3), (74, .iload 4, 2), (76, .aload_n 0, 1), (77, .getfield 134, 3), (80, .iload_n 1, 1), (81, .iaload, 1), (82, .iload_n 2, 1), (83, .if_icmp .eq 7, 3), (86, .iconst 1, 1), (87, .goto 4, 3), (90, .iconst 0, 1), (91, .iadd, 1), (92, .istore 4, 2), (94, .iinc 5 (-1), 3), (97, .goto (-54), 3), (100, .iload 4, 2), (102, .ireturn, 1)]
set_option maxRecDepth 100000 in
theorem am_kt190_0 : ∀ q ∈ (am_t190.drop 0).take 40, decode cX11_doubt q.1 = .ok q.2 := by decide +kernel
set_option maxRecDepth 100000 in
theorem am_kt190_1 : ∀ q ∈ (am_t190.drop 40).take 40, decode cX11_doubt q.1 = .ok q.2 := by decide +kernel
set_option maxRecDepth 100000 in
theorem am_kt190 : ∀ q ∈ am_t190, decode cX11_doubt q.1 = .ok q.2 := by
  intro q hq
  rw [← List.take_append_drop 40 (am_t190)] at hq
  rcases List.mem_append.mp hq with hq | hq
  · exact am_kt190_0 q hq
  exact am_kt190_1 q (by rw [List.take_of_length_le (by decide)]; exact hq)
def am_t191 : List (Nat × Instr × Nat) := [(0, .iload_n 3, 1), (1, .i2l, 1), (2, .lconst 0, 1), (3, .ldc2_w 192, 3), (6, .invokestatic 158, 3), (9, .ifCond .eq 28, 3), (12, .iload_n 2, 1), (13, .i2l, 1), (14, .lconst 0, 1), (15, .ldc2_w 190, 3), (18, .invokestatic 158, 3), (21, .ifCond .eq 16, 3), (24, .iload 4, 2), (26, .i2l, 1), (27, .lconst 0, 1), (28, .ldc2_w 178, 3), (31, .invokestatic 158, 3), (34, .ifCond .ne 5, 3), (37, .iconst (-1), 1), (38, .ireturn, 1), (39, .iload_n 1, 1), (40, .i2l, 1), (41, .lconst 0, 1), (42, .ldc2_w 188, 3), (45, .invokestatic 158, 3), (48, .ifCond .eq 8, 3), (51, .iload_n 1, 1), (52, .iconst 2, 1), (53, .if_icmp .ne 6, 3), (56, .bipush (-2), 2), (58, .ireturn, 1), (59, .aload_n 0, 1), (60, .getfield 7, 3), (63, .iload_n 3, 1), (64, .iaload, 1), (65, .ifCond .eq 6, 3), (68, .bipush (-3), 2), (70, .ireturn, 1), (71, .aload_n 0, 1), (72, .iload_n 1, 1), (73, .iload_n 2, 1), (74, .iload_n 3, 1), (75, .iload 4, 2), (77, .iconst (-1), 1), (78, .invokevirtual 301, 3), (81, .iconst 0, 1), (82, .istore 5, 2), (84, .iload 5, 2), (86, .bipush 60, 2), (88, .if_icmp .ge 56, 3), (91, .aload_n 0, 1), (92, .getfield 137, 3), (95, .iload 5, 2), (97, .iconst 0, 1), (98, .iastore, 1), (99, .iconst 0, 1), (100, .istore 6, 2), (102, .iload 6, 2), (104, .bipush 12, 2), (106, .if_icmp .ge 32, 3), (109, .aload_n 0, 1), (110, .getfield 137, 3), (113, .iload 5, 2), (115, .dup2, 1), (116, .iaload, 1), (117, .aload_n 0, 1), (118, .getfield 86, 3), (121, .bipush 60, 2), (123, .iload 6, 2), (125, .imul, 1), (126, .iload 5, 2), (128, .iadd, 1), (129, .iaload, 1), (130, .iadd, 1), (131, .iastore, 1), (132, .iinc 6 1, 3), (135, .goto (-33), 3), (138, .iinc 5 1, 3), (141, .goto (-57), 3), (144, .iconst 0, 1), (145, .istore 5, 2), (147, .iconst 0, 1), (148, .istore 6, 2), (150, .iload 6, 2), (152, .iconst 2, 1), (153, .if_icmp .ge 101, 3), (156, .aload_n 0, 1), (157, .iload_n 1, 1), (158, .iload_n 2, 1), (159, .iload_n 3, 1), (160, .iload 4, 2), (162, .iload 6, 2), (164, .invokevirtual 301, 3), (167, .iconst 0, 1), (168, .istore 7, 2), (170, .iload 7, 2), (172, .bipush 60, 2), (174, .if_icmp .ge 74, 3), (177, .aload_n 0, 1), (178, .getfield 137, 3), (181, .iload 7, 2), (183, .iaload, 1), (184, .ineg, 1), (185, .istore 8, 2), (187, .iconst 0, 1), (188, .istore 9, 2), (190, .iload 9, 2), (192, .bipush 12, 2), (194, .if_icmp .ge 27, 3), (197, .iload 8, 2), (199, .aload_n 0, 1), (200, .getfield 86, 3), (203, .bipush 60, 2), (205, .iload 9, 2), (207, .imul, 1), (208, .iload 7, 2), (210, .iadd, 1), (211, .iaload, 1), (212, .iadd, 1), (213, .istore 8, 2), (215, .iinc 9 1, 3), (218, .goto (-28), 3), (221, .iload 5, 2), (223, .iload 8, 2), (225, .ifCond .ge 9, 3), (228, .iload 8, 2), (230, .ineg, 1), (231, .goto 5, 3), (234, .iload 8, 2), (236, .bipush 10, 2), (238, .idiv, 1), (239, .iadd, 1), (240, .istore 5, 2), (242, .iinc 7 1, 3), (245, .goto (-75), 3), (248, .iinc 6 1, 3), (251, .goto (-101), 3), (254, .iload 5, 2), (256, .ireturn, 1)]
set_option maxRecDepth 100000 in
theorem am_kt191_0 : ∀ q ∈ (am_t191.drop 0).take 40, decode cX11_tells_ q.1 = .ok q.2 := by decide +kernel
set_option maxRecDepth 100000 in
theorem am_kt191_1 : ∀ q ∈ (am_t191.drop 40).take 40, decode cX11_tells_ q.1 = .ok q.2 := by decide +kernel
set_option maxRecDepth 100000 in
theorem am_kt191_2 : ∀ q ∈ (am_t191.drop 80).take 40, decode cX11_tells_ q.1 = .ok q.2 := by decide +kernel
set_option maxRecDepth 100000 in
theorem am_kt191_3 : ∀ q ∈ (am_t191.drop 120).take 40, decode cX11_tells_ q.1 = .ok q.2 := by decide +kernel
set_option maxRecDepth 100000 in
theorem am_kt191 : ∀ q ∈ am_t191, decode cX11_tells_ q.1 = .ok q.2 := by
  intro q hq
  rw [← List.take_append_drop 40 (am_t191)] at hq
  rcases List.mem_append.mp hq with hq | hq
  · exact am_kt191_0 q hq
  rw [← List.take_append_drop 40 ((am_t191.drop 40))] at hq
  rcases List.mem_append.mp hq with hq | hq
  · exact am_kt191_1 q hq
  rw [List.drop_drop] at hq
  rw [← List.take_append_drop 40 ((am_t191.drop 80))] at hq
  rcases List.mem_append.mp hq with hq | hq
  · exact am_kt191_2 q hq
  rw [List.drop_drop] at hq
  exact am_kt191_3 q (by rw [List.take_of_length_le (by decide)]; exact hq)
def am_t192 : List (Nat × Instr × Nat) := [(0, .aload_n 0, 1), (1, .getfield 37, 3), (4, .iload 4, 2), (6, .iaload, 1), (7, .istore 6, 2), (9, .aload_n 0, 1), (10, .getfield 37, 3), (13, .iload 4, 2), (15, .iload 5, 2), (17, .iastore, 1), (18, .aload_n 0, 1), (19, .iload_n 1, 1), (20, .iload_n 2, 1), (21, .iload_n 3, 1), (22, .iconst 0, 1), (23, .bipush 12, 2), (25, .invokevirtual 221, 3), (28, .aload_n 0, 1), (29, .getfield 37, 3), (32, .iload 4, 2), (34, .iload 6, 2), (36, .iastore, 1), (37, .return_, 1)]
set_option maxRecDepth 100000 in
theorem am_kt192 : ∀ q ∈ am_t192, decode cX11_foundAll q.1 = .ok q.2 := by decide +kernel
def am_t193 : List (Nat × Instr × Nat) := [(0, .iload_n 3, 1), (1, .i2l, 1), (2, .lconst 1, 1), (3, .ldc2_w 304, 3), (6, .invokestatic 158, 3), (9, .ifCond .ne 6, 3), (12, .bipush (-2), 2), (14, .ireturn, 1), (15, .aload_n 0, 1), (16, .getfield 306, 3), (19, .iload_n 3, 1), (20, .iadd, 1), (21, .bipush 120, 2), (23, .if_icmp .le 6, 3), (26, .bipush (-4), 2), (28, .ireturn, 1), (29, .iload_n 3, 1), (30, .iconst 1, 1), (31, .isub, 1), (32, .istore 4, 2), (34, .iload 4, 2), (36, .ifCond .lt 40, 3), (39, .aload_n 0, 1), (40, .getfield 140, 3), (43, .aload_n 0, 1), (44, .getfield 306, 3), (47, .lload_n 1, 1), (48, .bipush 8, 2), (50, .iload 4, 2), (52, .imul, 1), (53, .lshr, 1), (54, .ldc2_w 309, 3), (57, .land, 1), (58, .l2i, 1), (59, .iastore, 1), (60, .aload_n 0, 1), (61, .dup, 1), (62, .getfield 306, 3), (65, .iconst 1, 1), (66, .iadd, 1), (67, .putfield 306, 3), (70, .iinc 4 (-1), 3), (73, .goto (-39), 3), (76, .aload_n 0, 1), (77, .getfield 306, 3), (80, .ireturn, 1)]
set_option maxRecDepth 100000 in
theorem am_kt193_0 : ∀ q ∈ (am_t193.drop 0).take 40, decode cX11_feed q.1 = .ok q.2 := by decide +kernel
set_option maxRecDepth 100000 in
theorem am_kt193_1 : ∀ q ∈ (am_t193.drop 40).take 40, decode cX11_feed q.1 = .ok q.2 := by decide +kernel
set_option maxRecDepth 100000 in
theorem am_kt193 : ∀ q ∈ am_t193, decode cX11_feed q.1 = .ok q.2 := by
  intro q hq
  rw [← List.take_append_drop 40 (am_t193)] at hq
  rcases List.mem_append.mp hq with hq | hq
  · exact am_kt193_0 q hq
  exact am_kt193_1 q (by rw [List.take_of_length_le (by decide)]; exact hq)
def am_t194 : List (Nat × Instr × Nat) := [(0, .aload_n 0, 1), (1, .getfield 336, 3), (4, .bipush 8, 2), (6, .if_icmp .ne 6, 3), (9, .bipush (-4), 2), (11, .ireturn, 1), (12, .aload_n 0, 1), (13, .invokevirtual 341, 3), (16, .istore_n 1, 1), (17, .aload_n 0, 1), (18, .iconst 0, 1), (19, .putfield 306, 3), (22, .iload_n 1, 1), (23, .ifCond .ne 11, 3), (26, .bipush (-10), 2), (28, .aload_n 0, 1), (29, .getfield 311, 3), (32, .isub, 1), (33, .ireturn, 1), (34, .aload_n 0, 1), (35, .dup, 1), (36, .getfield 336, 3), (39, .iconst 1, 1), (40, .iadd, 1), (41, .putfield 336, 3), (44, .aload_n 0, 1), (45, .getfield 336, 3), (48, .iconst 1, 1), (49, .isub, 1), (50, .ireturn, 1)]
set_option maxRecDepth 100000 in
theorem am_kt194 : ∀ q ∈ am_t194, decode cX11_prize q.1 = .ok q.2 := by decide +kernel
def am_t195 : List (Nat × Instr × Nat) := [(0, .aload_n 0, 1), (1, .iconst 0, 1), (2, .putfield 311, 3), (5, .aload_n 0, 1), (6, .iconst 0, 1), (7, .iconst 0, 1), (8, .invokevirtual 330, 3), (11, .ifCond .lt 19, 3), (14, .aload_n 0, 1), (15, .bipush 32, 2), (17, .invokevirtual 327, 3), (20, .ifCond .eq 10, 3), (23, .aload_n 0, 1), (24, .invokevirtual 333, 3), (27, .ifCond .ne 5, 3), (30, .iconst 0, 1), (31, .ireturn, 1), (32, .aload_n 0, 1), (33, .getfield 143, 3), (36, .aload_n 0, 1), (37, .getfield 336, 3), (40, .aload_n 0, 1), (41, .getfield 324, 3), (44, .iastore, 1), (45, .aload_n 0, 1), (46, .getfield 146, 3), (49, .aload_n 0, 1), (50, .getfield 336, 3), (53, .iconst 0, 1), (54, .iastore, 1), (55, .aload_n 0, 1), (56, .getfield 311, 3), (59, .aload_n 0, 1), (60, .getfield 306, 3), (63, .if_icmp .ne 5, 3), (66, .iconst 1, 1), (67, .ireturn, 1), (68, .aload_n 0, 1), (69, .bipush 32, 2), (71, .invokevirtual 327, 3), (74, .ifCond .eq 21, 3), (77, .aload_n 0, 1), (78, .iconst 1, 1), (79, .iconst 1, 1), (80, .invokevirtual 330, 3), (83, .ifCond .lt 12, 3), (86, .aload_n 0, 1), (87, .bipush 32, 2), (89, .invokevirtual 327, 3), (92, .ifCond .ne 5, 3), (95, .iconst 0, 1), (96, .ireturn, 1), (97, .aload_n 0, 1), (98, .bipush 12, 2), (100, .aload_n 0, 1), (101, .getfield 336, 3), (104, .imul, 1), (105, .iconst 4, 1), (106, .aload_n 0, 1), (107, .getfield 146, 3), (110, .aload_n 0, 1), (111, .getfield 336, 3), (114, .iaload, 1), (115, .imul, 1), (116, .iadd, 1), (117, .invokevirtual 339, 3), (120, .ifCond .ne 5, 3), (123, .iconst 0, 1), (124, .ireturn, 1), (125, .aload_n 0, 1), (126, .getfield 146, 3), (129, .aload_n 0, 1), (130, .getfield 336, 3), (133, .dup2, 1), (134, .iaload, 1), (135, .iconst 1, 1), (136, .iadd, 1), (137, .iastore, 1), (138, .aload_n 0, 1), (139, .getfield 311, 3), (142, .aload_n 0, 1), (143, .getfield 306, 3), (146, .if_icmp .ne 5, 3), (149, .iconst 1, 1), (150, .ireturn, 1), (151, .aload_n 0, 1), (152, .getfield 146, 3), (155, .aload_n 0, 1), (156, .getfield 336, 3), (159, .iaload, 1), (160, .iconst 3, 1), (161, .if_icmp .eq 12, 3), (164, .aload_n 0, 1), (165, .bipush 38, 2), (167, .invokevirtual 327, 3), (170, .ifCond .ne (-73), 3), (173, .iconst 0, 1), (174, .ireturn, 1)]
set_option maxRecDepth 100000 in
theorem am_kt195_0 : ∀ q ∈ (am_t195.drop 0).take 40, decode cX11_parses q.1 = .ok q.2 := by decide +kernel
set_option maxRecDepth 100000 in
theorem am_kt195_1 : ∀ q ∈ (am_t195.drop 40).take 40, decode cX11_parses q.1 = .ok q.2 := by decide +kernel
set_option maxRecDepth 100000 in
theorem am_kt195_2 : ∀ q ∈ (am_t195.drop 80).take 40, decode cX11_parses q.1 = .ok q.2 := by decide +kernel
set_option maxRecDepth 100000 in
theorem am_kt195 : ∀ q ∈ am_t195, decode cX11_parses q.1 = .ok q.2 := by
  intro q hq
  rw [← List.take_append_drop 40 (am_t195)] at hq
  rcases List.mem_append.mp hq with hq | hq
  · exact am_kt195_0 q hq
  rw [← List.take_append_drop 40 ((am_t195.drop 40))] at hq
  rcases List.mem_append.mp hq with hq | hq
  · exact am_kt195_1 q hq
  rw [List.drop_drop] at hq
  exact am_kt195_2 q (by rw [List.take_of_length_le (by decide)]; exact hq)
def am_t196 : List (Nat × Instr × Nat) := [(0, .iload_n 1, 1), (1, .istore_n 3, 1), (2, .iload_n 3, 1), (3, .iload_n 2, 1), (4, .if_icmp .gt 80, 3), (7, .iload_n 3, 1), (8, .iconst 0, 1), (9, .invokestatic 314, 3), (12, .aload_n 0, 1), (13, .invokevirtual 317, 3), (16, .if_icmp .eq 6, 3), (19, .goto 59, 3), (22, .iconst 0, 1), (23, .istore 4, 2), (25, .iload_n 3, 1), (26, .iload 4, 2), (28, .invokestatic 314, 3), (31, .ifCond .eq 32, 3), (34, .iload_n 3, 1), (35, .iload 4, 2), (37, .invokestatic 314, 3), (40, .aload_n 0, 1), (41, .invokevirtual 317, 3), (44, .if_icmp .ne 19, 3), (47, .iinc 4 1, 3), (50, .aload_n 0, 1), (51, .dup, 1), (52, .getfield 311, 3), (55, .iconst 1, 1), (56, .iadd, 1), (57, .putfield 311, 3), (60, .goto (-35), 3), (63, .iload_n 3, 1), (64, .iload 4, 2), (66, .invokestatic 314, 3), (69, .ifCond .ne 7, 3), (72, .iload_n 3, 1), (73, .goto 4, 3), (76, .iconst (-1), 1), (77, .ireturn, 1), (78, .iinc 3 1, 3), (81, .goto (-79), 3), (84, .iconst (-1), 1), (85, .ireturn, 1)]
set_option maxRecDepth 100000 in
theorem am_kt196_0 : ∀ q ∈ (am_t196.drop 0).take 40, decode cX11_word q.1 = .ok q.2 := by decide +kernel
set_option maxRecDepth 100000 in
theorem am_kt196_1 : ∀ q ∈ (am_t196.drop 40).take 40, decode cX11_word q.1 = .ok q.2 := by decide +kernel
set_option maxRecDepth 100000 in
theorem am_kt196 : ∀ q ∈ am_t196, decode cX11_word q.1 = .ok q.2 := by
  intro q hq
  rw [← List.take_append_drop 40 (am_t196)] at hq
  rcases List.mem_append.mp hq with hq | hq
  · exact am_kt196_0 q hq
  exact am_kt196_1 q (by rw [List.take_of_length_le (by decide)]; exact hq)
def am_t197 : List (Nat × Instr × Nat) := [(0, .iload_n 0, 1), (1, .tableswitch 305 0 5 #[39, 90, 111, 172, 203, 244], 39), (40, .iload_n 1, 1), (41, .ifCond .ne 8, 3), (44, .bipush 112, 2), (46, .goto 44, 3), (49, .iload_n 1, 1), (50, .iconst 1, 1), (51, .if_icmp .ne 8, 3), (54, .bipush 114, 2), (56, .goto 34, 3), (59, .iload_n 1, 1), (60, .iconst 2, 1), (61, .if_icmp .ne 8, 3), (64, .bipush 105, 2), (66, .goto 24, 3), (69, .iload_n 1, 1), (70, .iconst 3, 1), (71, .if_icmp .ne 8, 3), (74, .bipush 122, 2), (76, .goto 14, 3), (79, .iload_n 1, 1), (80, .iconst 4, 1), (81, .if_icmp .ne 8, 3), (84, .bipush 101, 2), (86, .goto 4, 3), (89, .iconst 0, 1), (90, .ireturn, 1), (91, .iload_n 1, 1), (92, .ifCond .ne 8, 3), (95, .bipush 105, 2), (97, .goto 14, 3), (100, .iload_n 1, 1), (101, .iconst 1, 1), (102, .if_icmp .ne 8, 3), (105, .bipush 102, 2), (107, .goto 4, 3), (110, .iconst 0, 1), (111, .ireturn, 1), (112, .iload_n 1, 1), (113, .ifCond .ne 8, 3), (116, .bipush 109, 2), (118, .goto 54, 3), (121, .iload_n 1, 1), (122, .iconst 1, 1), (123, .if_icmp .ne 8, 3), (126, .bipush 111, 2), (128, .goto 44, 3), (131, .iload_n 1, 1), (132, .iconst 2, 1), (133, .if_icmp .ne 8, 3), (136, .bipush 110, 2), (138, .goto 34, 3), (141, .iload_n 1, 1), (142, .iconst 3, 1), (143, .if_icmp .ne 8, 3), (146, .bipush 116, 2), (148, .goto 24, 3), (151, .iload_n 1, 1), (152, .iconst 4, 1), (153, .if_icmp .ne 8, 3), (156, .bipush 104, 2), (158, .goto 14, 3), (161, .iload_n 1, 1), (162, .iconst 5, 1), (163, .if_icmp .ne 8, 3), (166, .bipush 115, 2), (168, .goto 4, 3), (171, .iconst 0, 1), (172, .ireturn, 1), (173, .iload_n 1, 1), (174, .ifCond .ne 8, 3), (177, .bipush 102, 2), (179, .goto 24, 3), (182, .iload_n 1, 1), (183, .iconst 1, 1), (184, .if_icmp .ne 8, 3), (187, .bipush 97, 2), (189, .goto 14, 3), (192, .iload_n 1, 1), (193, .iconst 2, 1), (194, .if_icmp .ne 8, 3), (197, .bipush 114, 2), (199, .goto 4, 3), (202, .iconst 0, 1), (203, .ireturn, 1), (204, .iload_n 1, 1), (205, .ifCond .ne 8, 3), (208, .bipush 107, 2), (210, .goto 34, 3), (213, .iload_n 1, 1), (214, .iconst 1, 1), (215, .if_icmp .ne 8, 3), (218, .bipush 105, 2), (220, .goto 24, 3), (223, .iload_n 1, 1), (224, .iconst 2, 1), (225, .if_icmp .ne 8, 3), (228, .bipush 110, 2), (230, .goto 14, 3), (233, .iload_n 1, 1), (234, .iconst 3, 1), (235, .if_icmp .ne 8, 3), (238, .bipush 100, 2), (240, .goto 4, 3), (243, .iconst 0, 1), (244, .ireturn, 1), (245, .iload_n 1, 1), (246, .ifCond .ne 8, 3), (249, .bipush 116, 2), (251, .goto 54, 3), (254, .iload_n 1, 1), (255, .iconst 1, 1), (256, .if_icmp .ne 8, 3), (259, .bipush 111, 2), (261, .goto 44, 3), (264, .iload_n 1, 1), (265, .iconst 2, 1), (266, .if_icmp .ne 8, 3), (269, .bipush 110, 2), (271, .goto 34, 3), (274, .iload_n 1, 1), (275, .iconst 3, 1), (276, .if_icmp .ne 8, 3), (279, .bipush 103, 2), (281, .goto 24, 3), (284, .iload_n 1, 1), (285, .iconst 4, 1), (286, .if_icmp .ne 8, 3), (289, .bipush 117, 2), (291, .goto 14, 3), (294, .iload_n 1, 1), (295, .iconst 5, 1), (296, .if_icmp .ne 8, 3), (299, .bipush 101, 2), (301, .goto 4, 3), (304, .iconst 0, 1), (305, .ireturn, 1), (306, .iload_n 1, 1), (307, .ifCond .ne 8, 3), (310, .bipush 119, 2), (312, .goto 54, 3), (315, .iload_n 1, 1), (316, .iconst 1, 1), (317, .if_icmp .ne 8, 3), (320, .bipush 101, 2), (322, .goto 44, 3), (325, .iload_n 1, 1), (326, .iconst 2, 1), (327, .if_icmp .ne 8, 3), (330, .bipush 105, 2), (332, .goto 34, 3), (335, .iload_n 1, 1), (336, .iconst 3, 1), (337, .if_icmp .ne 8, 3), (340, .bipush 103, 2), (342, .goto 24, 3), (345, .iload_n 1, 1), (346, .iconst 4, 1), (347, .if_icmp .ne 8, 3), (350, .bipush 104, 2), (352, .goto 14, 3), (355, .iload_n 1, 1), (356, .iconst 5, 1), (357, .if_icmp .ne 8, 3), (360, .bipush 116, 2), (362, .goto 4, 3), (365, .iconst 0, 1), (366, .ireturn, 1)]
set_option maxRecDepth 100000 in
theorem am_kt197_0 : ∀ q ∈ (am_t197.drop 0).take 40, decode cX11_signOf q.1 = .ok q.2 := by decide +kernel
set_option maxRecDepth 100000 in
theorem am_kt197_1 : ∀ q ∈ (am_t197.drop 40).take 40, decode cX11_signOf q.1 = .ok q.2 := by decide +kernel
set_option maxRecDepth 100000 in
theorem am_kt197_2 : ∀ q ∈ (am_t197.drop 80).take 40, decode cX11_signOf q.1 = .ok q.2 := by decide +kernel
set_option maxRecDepth 100000 in
theorem am_kt197_3 : ∀ q ∈ (am_t197.drop 120).take 40, decode cX11_signOf q.1 = .ok q.2 := by decide +kernel
set_option maxRecDepth 100000 in
theorem am_kt197_4 : ∀ q ∈ (am_t197.drop 160).take 40, decode cX11_signOf q.1 = .ok q.2 := by decide +kernel
set_option maxRecDepth 100000 in
theorem am_kt197 : ∀ q ∈ am_t197, decode cX11_signOf q.1 = .ok q.2 := by
  intro q hq
  rw [← List.take_append_drop 40 (am_t197)] at hq
  rcases List.mem_append.mp hq with hq | hq
  · exact am_kt197_0 q hq
  rw [← List.take_append_drop 40 ((am_t197.drop 40))] at hq
  rcases List.mem_append.mp hq with hq | hq
  · exact am_kt197_1 q hq
  rw [List.drop_drop] at hq
  rw [← List.take_append_drop 40 ((am_t197.drop 80))] at hq
  rcases List.mem_append.mp hq with hq | hq
  · exact am_kt197_2 q hq
  rw [List.drop_drop] at hq
  rw [← List.take_append_drop 40 ((am_t197.drop 120))] at hq
  rcases List.mem_append.mp hq with hq | hq
  · exact am_kt197_3 q hq
  rw [List.drop_drop] at hq
  exact am_kt197_4 q (by rw [List.take_of_length_le (by decide)]; exact hq)
def am_t198 : List (Nat × Instr × Nat) := [(0, .aload_n 0, 1), (1, .getfield 311, 3), (4, .aload_n 0, 1), (5, .getfield 306, 3), (8, .if_icmp .ge 15, 3), (11, .aload_n 0, 1), (12, .getfield 140, 3), (15, .aload_n 0, 1), (16, .getfield 311, 3), (19, .iaload, 1), (20, .goto 4, 3), (23, .iconst (-1), 1), (24, .ireturn, 1)]
set_option maxRecDepth 100000 in
theorem am_kt198 : ∀ q ∈ am_t198, decode cX11_sign q.1 = .ok q.2 := by decide +kernel
def am_t199 : List (Nat × Instr × Nat) := [(0, .aload_n 0, 1), (1, .invokevirtual 317, 3), (4, .iload_n 1, 1), (5, .if_icmp .eq 5, 3), (8, .iconst 0, 1), (9, .ireturn, 1), (10, .aload_n 0, 1), (11, .dup, 1), (12, .getfield 311, 3), (15, .iconst 1, 1), (16, .iadd, 1), (17, .putfield 311, 3), (20, .iconst 1, 1), (21, .ireturn, 1)]
set_option maxRecDepth 100000 in
theorem am_kt199 : ∀ q ∈ am_t199, decode cX11_takes q.1 = .ok q.2 := by decide +kernel
def am_t200 : List (Nat × Instr × Nat) := [(0, .aload_n 0, 1), (1, .invokevirtual 317, 3), (4, .invokestatic 321, 3), (7, .ifCond .ne 5, 3), (10, .iconst 0, 1), (11, .ireturn, 1), (12, .aload_n 0, 1), (13, .iconst 0, 1), (14, .putfield 324, 3), (17, .iconst 0, 1), (18, .istore_n 1, 1), (19, .iload_n 1, 1), (20, .iconst 4, 1), (21, .if_icmp .ge 48, 3), (24, .aload_n 0, 1), (25, .invokevirtual 317, 3), (28, .invokestatic 321, 3), (31, .ifCond .eq 38, 3), (34, .aload_n 0, 1), (35, .bipush 10, 2), (37, .aload_n 0, 1), (38, .getfield 324, 3), (41, .imul, 1), (42, .aload_n 0, 1), (43, .invokevirtual 317, 3), (46, .iadd, 1), (47, .bipush 48, 2), (49, .isub, 1), (50, .putfield 324, 3), (53, .aload_n 0, 1), (54, .dup, 1), (55, .getfield 311, 3), (58, .iconst 1, 1), (59, .iadd, 1), (60, .putfield 311, 3), (63, .iinc 1 1, 3), (66, .goto (-47), 3), (69, .iconst 1, 1), (70, .ireturn, 1)]
set_option maxRecDepth 100000 in
theorem am_kt200 : ∀ q ∈ am_t200, decode cX11_number q.1 = .ok q.2 := by decide +kernel
def am_t201 : List (Nat × Instr × Nat) := [(0, .iload_n 0, 1), (1, .bipush 48, 2), (3, .if_icmp .lt 13, 3), (6, .iload_n 0, 1), (7, .bipush 57, 2), (9, .if_icmp .gt 7, 3), (12, .iconst 1, 1), (13, .goto 4, 3), (16, .iconst 0, 1), (17, .ireturn, 1)]
set_option maxRecDepth 100000 in
theorem am_kt201 : ∀ q ∈ am_t201, decode cX11_isDigit q.1 = .ok q.2 := by decide +kernel
def am_t202 : List (Nat × Instr × Nat) := [(0, .aload_n 0, 1), (1, .bipush 33, 2), (3, .invokevirtual 327, 3), (6, .istore_n 2, 1), (7, .aload_n 0, 1), (8, .iconst 2, 1), (9, .bipush 6, 2), (11, .invokevirtual 330, 3), (14, .istore_n 3, 1), (15, .iload_n 3, 1), (16, .ifCond .ge 5, 3), (19, .iconst 0, 1), (20, .ireturn, 1), (21, .aload_n 0, 1), (22, .invokevirtual 317, 3), (25, .istore 4, 2), (27, .iload 4, 2), (29, .bipush 61, 2), (31, .if_icmp .eq 19, 3), (34, .iload 4, 2), (36, .bipush 60, 2), (38, .if_icmp .eq 12, 3), (41, .iload 4, 2), (43, .bipush 62, 2), (45, .if_icmp .eq 5, 3), (48, .iconst 0, 1), (49, .ireturn, 1), (50, .aload_n 0, 1), (51, .dup, 1), (52, .getfield 311, 3), (55, .iconst 1, 1), (56, .iadd, 1), (57, .putfield 311, 3), (60, .aload_n 0, 1), (61, .invokevirtual 333, 3), (64, .ifCond .ne 5, 3), (67, .iconst 0, 1), (68, .ireturn, 1), (69, .aload_n 0, 1), (70, .getfield 149, 3), (73, .iload_n 1, 1), (74, .iload_n 2, 1), (75, .ifCond .eq 7, 3), (78, .iconst 1, 1), (79, .goto 4, 3), (82, .iconst 0, 1), (83, .iastore, 1), (84, .aload_n 0, 1), (85, .getfield 149, 3), (88, .iload_n 1, 1), (89, .iconst 1, 1), (90, .iadd, 1), (91, .iload_n 3, 1), (92, .iconst 2, 1), (93, .isub, 1), (94, .iastore, 1), (95, .aload_n 0, 1), (96, .getfield 149, 3), (99, .iload_n 1, 1), (100, .iconst 2, 1), (101, .iadd, 1), (102, .iload 4, 2), (104, .iastore, 1), (105, .aload_n 0, 1), (106, .getfield 149, 3), (109, .iload_n 1, 1), (110, .iconst 3, 1), (111, .iadd, 1), (112, .aload_n 0, 1), (113, .getfield 324, 3), (116, .iastore, 1), (117, .iconst 1, 1), (118, .ireturn, 1)]
set_option maxRecDepth 100000 in
theorem am_kt202_0 : ∀ q ∈ (am_t202.drop 0).take 40, decode cX11_test q.1 = .ok q.2 := by decide +kernel
set_option maxRecDepth 100000 in
theorem am_kt202_1 : ∀ q ∈ (am_t202.drop 40).take 40, decode cX11_test q.1 = .ok q.2 := by decide +kernel
set_option maxRecDepth 100000 in
theorem am_kt202 : ∀ q ∈ am_t202, decode cX11_test q.1 = .ok q.2 := by
  intro q hq
  rw [← List.take_append_drop 40 (am_t202)] at hq
  rcases List.mem_append.mp hq with hq | hq
  · exact am_kt202_0 q hq
  exact am_kt202_1 q (by rw [List.take_of_length_le (by decide)]; exact hq)
def am_t203 : List (Nat × Instr × Nat) := [(0, .aload_n 0, 1), (1, .iload_n 1, 1), (2, .invokevirtual 256, 3), (5, .ifCond .eq 11, 3), (8, .aload_n 0, 1), (9, .iload_n 1, 1), (10, .invokevirtual 351, 3), (13, .goto 4, 3), (16, .iconst (-1), 1), (17, .ireturn, 1)]
set_option maxRecDepth 100000 in
theorem am_kt203 : ∀ q ∈ am_t203, decode cX11_pays q.1 = .ok q.2 := by decide +kernel
def am_t204 : List (Nat × Instr × Nat) := [(0, .aload_n 0, 1), (1, .getfield 125, 3), (4, .iload_n 1, 1), (5, .baload, 1), (6, .ifCond .ne 11, 3), (9, .aload_n 0, 1), (10, .iload_n 1, 1), (11, .invokevirtual 278, 3), (14, .ifCond .lt 7, 3), (17, .iconst (-1), 1), (18, .goto 8, 3), (21, .aload_n 0, 1), (22, .iload_n 1, 1), (23, .invokevirtual 272, 3), (26, .istore_n 2, 1), (27, .iconst 0, 1), (28, .istore_n 3, 1), (29, .iconst 0, 1), (30, .istore 4, 2), (32, .iload 4, 2), (34, .aload_n 0, 1), (35, .getfield 336, 3), (38, .if_icmp .ge 211, 3), (41, .iload_n 2, 1), (42, .ifCond .lt 207, 3), (45, .iconst 1, 1), (46, .istore 5, 2), (48, .bipush 12, 2), (50, .iload 4, 2), (52, .imul, 1), (53, .istore 6, 2), (55, .iload 6, 2), (57, .bipush 12, 2), (59, .iload 4, 2), (61, .imul, 1), (62, .iconst 4, 1), (63, .aload_n 0, 1), (64, .getfield 146, 3), (67, .iload 4, 2), (69, .iaload, 1), (70, .imul, 1), (71, .iadd, 1), (72, .if_icmp .ge 152, 3), (75, .aload_n 0, 1), (76, .aload_n 0, 1), (77, .getfield 149, 3), (80, .iload 6, 2), (82, .iconst 1, 1), (83, .iadd, 1), (84, .iaload, 1), (85, .iload_n 1, 1), (86, .iload_n 2, 1), (87, .invokevirtual 348, 3), (90, .istore 7, 2), (92, .aload_n 0, 1), (93, .getfield 149, 3), (96, .iload 6, 2), (98, .iconst 2, 1), (99, .iadd, 1), (100, .iaload, 1), (101, .bipush 61, 2), (103, .if_icmp .ne 25, 3), (106, .iload 7, 2), (108, .aload_n 0, 1), (109, .getfield 149, 3), (112, .iload 6, 2), (114, .iconst 3, 1), (115, .iadd, 1), (116, .iaload, 1), (117, .if_icmp .ne 7, 3), (120, .iconst 1, 1), (121, .goto 62, 3), (124, .iconst 0, 1), (125, .goto 58, 3), (128, .aload_n 0, 1), (129, .getfield 149, 3), (132, .iload 6, 2), (134, .iconst 2, 1), (135, .iadd, 1), (136, .iaload, 1), (137, .bipush 60, 2), (139, .if_icmp .ne 25, 3), (142, .iload 7, 2), (144, .aload_n 0, 1), (145, .getfield 149, 3), (148, .iload 6, 2), (150, .iconst 3, 1), (151, .iadd, 1), (152, .iaload, 1), (153, .if_icmp .ge 7, 3), (156, .iconst 1, 1), (157, .goto 26, 3), (160, .iconst 0, 1), (161, .goto 22, 3), (164, .iload 7, 2), (166, .aload_n 0, 1), (167, .getfield 149, 3), (170, .iload 6, 2), (172, .iconst 3, 1), (173, .iadd, 1), (174, .iaload, 1), (175, .if_icmp .le 7, 3), (178, .iconst 1, 1), (179, .goto 4, 3), (182, .iconst 0, 1), (183, .istore 8, 2), (185, .iload 5, 2), (187, .ifCond .eq 28, 3), (190, .iload 8, 2), (192, .aload_n 0, 1), (193, .getfield 149, 3), (196, .iload 6, 2), (198, .iaload, 1), (199, .iconst 1, 1), (200, .if_icmp .ne 7, 3), (203, .iconst 1, 1), (204, .goto 4, 3), (207, .iconst 0, 1), (208, .if_icmp .eq 7, 3), (211, .iconst 1, 1), (212, .goto 4, 3), (215, .iconst 0, 1), (216, .istore 5, 2), (218, .iinc 6 4, 3), (221, .goto (-166), 3), (224, .iload_n 3, 1), (225, .iload 5, 2), (227, .ifCond .eq 13, 3), (230, .aload_n 0, 1), (231, .getfield 143, 3), (234, .iload 4, 2), (236, .iaload, 1), (237, .goto 4, 3), (240, .iconst 0, 1), (241, .iadd, 1), (242, .istore_n 3, 1), (243, .iinc 4 1, 3), (246, .goto (-214), 3), (249, .iload_n 3, 1), (250, .ireturn, 1)]
set_option maxRecDepth 100000 in
theorem am_kt204_0 : ∀ q ∈ (am_t204.drop 0).take 40, decode cX11_paid q.1 = .ok q.2 := by decide +kernel
set_option maxRecDepth 100000 in
theorem am_kt204_1 : ∀ q ∈ (am_t204.drop 40).take 40, decode cX11_paid q.1 = .ok q.2 := by decide +kernel
set_option maxRecDepth 100000 in
theorem am_kt204_2 : ∀ q ∈ (am_t204.drop 80).take 40, decode cX11_paid q.1 = .ok q.2 := by decide +kernel
set_option maxRecDepth 100000 in
theorem am_kt204_3 : ∀ q ∈ (am_t204.drop 120).take 40, decode cX11_paid q.1 = .ok q.2 := by decide +kernel
set_option maxRecDepth 100000 in
theorem am_kt204 : ∀ q ∈ am_t204, decode cX11_paid q.1 = .ok q.2 := by
  intro q hq
  rw [← List.take_append_drop 40 (am_t204)] at hq
  rcases List.mem_append.mp hq with hq | hq
  · exact am_kt204_0 q hq
  rw [← List.take_append_drop 40 ((am_t204.drop 40))] at hq
  rcases List.mem_append.mp hq with hq | hq
  · exact am_kt204_1 q hq
  rw [List.drop_drop] at hq
  rw [← List.take_append_drop 40 ((am_t204.drop 80))] at hq
  rcases List.mem_append.mp hq with hq | hq
  · exact am_kt204_2 q hq
  rw [List.drop_drop] at hq
  exact am_kt204_3 q (by rw [List.take_of_length_le (by decide)]; exact hq)
def am_t205 : List (Nat × Instr × Nat) := [(0, .aload_n 0, 1), (1, .getfield 113, 3), (4, .iload_n 2, 1), (5, .iaload, 1), (6, .istore 4, 2), (8, .iload_n 1, 1), (9, .tableswitch 133 0 3 #[31, 64, 118, 125], 31), (40, .aload_n 0, 1), (41, .getfield 116, 3), (44, .iload_n 2, 1), (45, .iaload, 1), (46, .aload_n 0, 1), (47, .getfield 65, 3), (50, .iload_n 3, 1), (51, .iaload, 1), (52, .if_icmp .le 19, 3), (55, .aload_n 0, 1), (56, .getfield 116, 3), (59, .iload_n 2, 1), (60, .iaload, 1), (61, .aload_n 0, 1), (62, .getfield 65, 3), (65, .iload_n 3, 1), (66, .iaload, 1), (67, .isub, 1), (68, .goto 4, 3), (71, .iconst 0, 1), (72, .ireturn, 1), (73, .aload_n 0, 1), (74, .getfield 68, 3), (77, .iload_n 3, 1), (78, .iaload, 1), (79, .bipush 6, 2), (81, .idiv, 1), (82, .aload_n 0, 1), (83, .getfield 92, 3), (86, .iload 4, 2), (88, .iaload, 1), (89, .aload_n 0, 1), (90, .getfield 95, 3), (93, .iload 4, 2), (95, .iaload, 1), (96, .invokestatic 344, 3), (99, .aload_n 0, 1), (100, .getfield 68, 3), (103, .iload_n 3, 1), (104, .iaload, 1), (105, .bipush 6, 2), (107, .irem, 1), (108, .aload_n 0, 1), (109, .getfield 98, 3), (112, .iload 4, 2), (114, .iaload, 1), (115, .aload_n 0, 1), (116, .getfield 101, 3), (119, .iload 4, 2), (121, .iaload, 1), (122, .invokestatic 344, 3), (125, .iadd, 1), (126, .ireturn, 1), (127, .aload_n 0, 1), (128, .getfield 56, 3), (131, .iload_n 3, 1), (132, .iaload, 1), (133, .ireturn, 1), (134, .aload_n 0, 1), (135, .getfield 104, 3), (138, .iload 4, 2), (140, .iaload, 1), (141, .ireturn, 1), (142, .aload_n 0, 1), (143, .iload_n 2, 1), (144, .iload_n 3, 1), (145, .invokevirtual 266, 3), (148, .sipush 1000, 3), (151, .idiv, 1), (152, .ireturn, 1)]
set_option maxRecDepth 100000 in
theorem am_kt205_0 : ∀ q ∈ (am_t205.drop 0).take 40, decode cX11_field q.1 = .ok q.2 := by decide +kernel
set_option maxRecDepth 100000 in
theorem am_kt205_1 : ∀ q ∈ (am_t205.drop 40).take 40, decode cX11_field q.1 = .ok q.2 := by decide +kernel
set_option maxRecDepth 100000 in
theorem am_kt205 : ∀ q ∈ am_t205, decode cX11_field q.1 = .ok q.2 := by
  intro q hq
  rw [← List.take_append_drop 40 (am_t205)] at hq
  rcases List.mem_append.mp hq with hq | hq
  · exact am_kt205_0 q hq
  exact am_kt205_1 q (by rw [List.take_of_length_le (by decide)]; exact hq)
def am_t206 : List (Nat × Instr × Nat) := [(0, .iload_n 0, 1), (1, .iload_n 1, 1), (2, .if_icmp .ge 9, 3), (5, .iload_n 1, 1), (6, .iload_n 0, 1), (7, .isub, 1), (8, .goto 15, 3), (11, .iload_n 0, 1), (12, .iload_n 2, 1), (13, .if_icmp .le 9, 3), (16, .iload_n 0, 1), (17, .iload_n 2, 1), (18, .isub, 1), (19, .goto 4, 3), (22, .iconst 0, 1), (23, .ireturn, 1)]
set_option maxRecDepth 100000 in
theorem am_kt206 : ∀ q ∈ am_t206, decode cX11_beyond q.1 = .ok q.2 := by decide +kernel
def am_t207 : List (Nat × Instr × Nat) := [(0, .iload_n 1, 1), (1, .i2l, 1), (2, .lconst 0, 1), (3, .ldc2_w 254, 3), (6, .invokestatic 158, 3), (9, .ifCond .ne 6, 3), (12, .bipush (-2), 2), (14, .ireturn, 1), (15, .iconst 0, 1), (16, .istore_n 2, 1), (17, .iconst 0, 1), (18, .istore_n 3, 1), (19, .iload_n 3, 1), (20, .aload_n 0, 1), (21, .getfield 238, 3), (24, .if_icmp .ge 31, 3), (27, .iload_n 2, 1), (28, .aload_n 0, 1), (29, .getfield 122, 3), (32, .iload_n 3, 1), (33, .iaload, 1), (34, .iload_n 1, 1), (35, .if_icmp .gt 11, 3), (38, .aload_n 0, 1), (39, .iload_n 3, 1), (40, .invokevirtual 351, 3), (43, .goto 4, 3), (46, .iconst 0, 1), (47, .iadd, 1), (48, .istore_n 2, 1), (49, .iinc 3 1, 3), (52, .goto (-33), 3), (55, .iload_n 2, 1), (56, .ireturn, 1)]
set_option maxRecDepth 100000 in
theorem am_kt207 : ∀ q ∈ am_t207, decode cX11_purse q.1 = .ok q.2 := by decide +kernel
def am_t208 : List (Nat × Instr × Nat) := [(0, .iload_n 1, 1), (1, .i2l, 1), (2, .lconst 0, 1), (3, .ldc2_w 225, 3), (6, .invokestatic 158, 3), (9, .ifCond .ne 5, 3), (12, .iconst (-1), 1), (13, .ireturn, 1), (14, .iload_n 2, 1), (15, .i2l, 1), (16, .lconst 0, 1), (17, .ldc2_w 254, 3), (20, .invokestatic 158, 3), (23, .ifCond .ne 6, 3), (26, .bipush (-2), 2), (28, .ireturn, 1), (29, .iconst 0, 1), (30, .istore_n 3, 1), (31, .iconst 0, 1), (32, .istore 4, 2), (34, .iload 4, 2), (36, .aload_n 0, 1), (37, .getfield 238, 3), (40, .if_icmp .ge 54, 3), (43, .iload_n 3, 1), (44, .aload_n 0, 1), (45, .getfield 122, 3), (48, .iload 4, 2), (50, .iaload, 1), (51, .iload_n 2, 1), (52, .if_icmp .gt 33, 3), (55, .aload_n 0, 1), (56, .getfield 125, 3), (59, .iload 4, 2), (61, .baload, 1), (62, .ifCond .ne 23, 3), (65, .aload_n 0, 1), (66, .getfield 104, 3), (69, .aload_n 0, 1), (70, .getfield 113, 3), (73, .iload 4, 2), (75, .iaload, 1), (76, .iaload, 1), (77, .iload_n 1, 1), (78, .if_icmp .ne 7, 3), (81, .iconst 1, 1), (82, .goto 4, 3), (85, .iconst 0, 1), (86, .iadd, 1), (87, .istore_n 3, 1), (88, .iinc 4 1, 3), (91, .goto (-57), 3), (94, .iload_n 3, 1), (95, .ireturn, 1)]
set_option maxRecDepth 100000 in
theorem am_kt208_0 : ∀ q ∈ (am_t208.drop 0).take 40, decode cX11_letters q.1 = .ok q.2 := by decide +kernel
set_option maxRecDepth 100000 in
theorem am_kt208_1 : ∀ q ∈ (am_t208.drop 40).take 40, decode cX11_letters q.1 = .ok q.2 := by decide +kernel
set_option maxRecDepth 100000 in
theorem am_kt208 : ∀ q ∈ am_t208, decode cX11_letters q.1 = .ok q.2 := by
  intro q hq
  rw [← List.take_append_drop 40 (am_t208)] at hq
  rcases List.mem_append.mp hq with hq | hq
  · exact am_kt208_0 q hq
  exact am_kt208_1 q (by rw [List.take_of_length_le (by decide)]; exact hq)
def am_t209 : List (Nat × Instr × Nat) := [(0, .iconst 0, 1), (1, .istore_n 2, 1), (2, .iload_n 1, 1), (3, .tableswitch 137 0 7 #[45, 50, 55, 60, 65, 70, 75, 102], 45), (48, .aload_n 0, 1), (49, .getfield 166, 3), (52, .ireturn, 1), (53, .aload_n 0, 1), (54, .getfield 235, 3), (57, .ireturn, 1), (58, .aload_n 0, 1), (59, .getfield 238, 3), (62, .ireturn, 1), (63, .aload_n 0, 1), (64, .getfield 336, 3), (67, .ireturn, 1), (68, .aload_n 0, 1), (69, .getfield 251, 3), (72, .ireturn, 1), (73, .aload_n 0, 1), (74, .getfield 306, 3), (77, .ireturn, 1), (78, .iconst 0, 1), (79, .istore_n 3, 1), (80, .iload_n 3, 1), (81, .aload_n 0, 1), (82, .getfield 166, 3), (85, .if_icmp .ge 18, 3), (88, .iload_n 2, 1), (89, .aload_n 0, 1), (90, .getfield 62, 3), (93, .iload_n 3, 1), (94, .iaload, 1), (95, .iadd, 1), (96, .istore_n 2, 1), (97, .iinc 3 1, 3), (100, .goto (-20), 3), (103, .iload_n 2, 1), (104, .ireturn, 1), (105, .iconst 0, 1), (106, .istore_n 3, 1), (107, .iload_n 3, 1), (108, .aload_n 0, 1), (109, .getfield 238, 3), (112, .if_icmp .ge 26, 3), (115, .iload_n 2, 1), (116, .aload_n 0, 1), (117, .getfield 125, 3), (120, .iload_n 3, 1), (121, .baload, 1), (122, .ifCond .eq 7, 3), (125, .iconst 1, 1), (126, .goto 4, 3), (129, .iconst 0, 1), (130, .iadd, 1), (131, .istore_n 2, 1), (132, .iinc 3 1, 3), (135, .goto (-28), 3), (138, .iload_n 2, 1), (139, .ireturn, 1), (140, .iconst (-1), 1), (141, .ireturn, 1)]
set_option maxRecDepth 100000 in
theorem am_kt209_0 : ∀ q ∈ (am_t209.drop 0).take 40, decode cX11_count q.1 = .ok q.2 := by decide +kernel
set_option maxRecDepth 100000 in
theorem am_kt209_1 : ∀ q ∈ (am_t209.drop 40).take 40, decode cX11_count q.1 = .ok q.2 := by decide +kernel
set_option maxRecDepth 100000 in
theorem am_kt209 : ∀ q ∈ am_t209, decode cX11_count q.1 = .ok q.2 := by
  intro q hq
  rw [← List.take_append_drop 40 (am_t209)] at hq
  rcases List.mem_append.mp hq with hq | hq
  · exact am_kt209_0 q hq
  exact am_kt209_1 q (by rw [List.take_of_length_le (by decide)]; exact hq)
