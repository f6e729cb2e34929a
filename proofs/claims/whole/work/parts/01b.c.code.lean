def am_t60 : List (Nat × Instr × Nat) := [(0, .iconst 0, 1), (1, .istore_n 2, 1), (2, .iload_n 2, 1), (3, .bipush 60, 2), (5, .if_icmp .ge 43, 3), (8, .aload_n 0, 1), (9, .getfield 9, 3), (12, .iload_n 2, 1), (13, .iaload, 1), (14, .aload_n 0, 1), (15, .getfield 18, 3), (18, .iload_n 2, 1), (19, .iaload, 1), (20, .iadd, 1), (21, .ifCond .le 21, 3), (24, .aload_n 1, 1), (25, .getfield 9, 3), (28, .iload_n 2, 1), (29, .iaload, 1), (30, .aload_n 1, 1), (31, .getfield 18, 3), (34, .iload_n 2, 1), (35, .iaload, 1), (36, .iadd, 1), (37, .ifCond .le 5, 3), (40, .iconst 1, 1), (41, .ireturn, 1), (42, .iinc 2 1, 3), (45, .goto (-43), 3), (48, .iconst 0, 1), (49, .ireturn, 1)]
set_option maxRecDepth 100000 in
theorem am_kt60 : ∀ q ∈ am_t60, decode cX1_meets q.1 = .ok q.2 := by decide +kernel
def am_t61 : List (Nat × Instr × Nat) := [(0, .iload_n 1, 1), (1, .bipush 100, 2), (3, .idiv, 1), (4, .istore 4, 2), (6, .iload_n 1, 1), (7, .bipush 100, 2), (9, .irem, 1), (10, .istore 5, 2), (12, .iload_n 2, 1), (13, .bipush 100, 2), (15, .idiv, 1), (16, .istore 6, 2), (18, .iload_n 2, 1), (19, .bipush 100, 2), (21, .irem, 1), (22, .istore 7, 2), (24, .iload 4, 2), (26, .iload 6, 2), (28, .invokestatic 94, 3), (31, .ifCond .eq 13, 3), (34, .iload 5, 2), (36, .iload 7, 2), (38, .invokestatic 94, 3), (41, .ifCond .ne 5, 3), (44, .iconst (-1), 1), (45, .ireturn, 1), (46, .iload 4, 2), (48, .iload 5, 2), (50, .if_icmp .gt 19, 3), (53, .iload 6, 2), (55, .iload 7, 2), (57, .if_icmp .gt 12, 3), (60, .iload_n 3, 1), (61, .bipush 6, 2), (63, .invokestatic 98, 3), (66, .ifCond .ne 6, 3), (69, .bipush (-2), 2), (71, .ireturn, 1), (72, .aload_n 0, 1), (73, .getfield 26, 3), (76, .getfield 204, 3), (79, .bipush 6, 2), (81, .if_icmp .lt 6, 3), (84, .bipush (-4), 2), (86, .ireturn, 1), (87, .aload_n 0, 1), (88, .getfield 12, 3), (91, .dup, 1), (92, .getfield 162, 3), (95, .iconst 1, 1), (96, .iadd, 1), (97, .putfield 162, 3), (100, .aload_n 0, 1), (101, .getfield 26, 3), (104, .iload 4, 2), (106, .iload 5, 2), (108, .iload 6, 2), (110, .iload 7, 2), (112, .iload_n 3, 1), (113, .invokevirtual 205, 3), (116, .ireturn, 1)]
set_option maxRecDepth 100000 in
theorem am_kt61_0 : ∀ q ∈ (am_t61.drop 0).take 40, decode cX10_name q.1 = .ok q.2 := by decide +kernel
set_option maxRecDepth 100000 in
theorem am_kt61_1 : ∀ q ∈ (am_t61.drop 40).take 40, decode cX10_name q.1 = .ok q.2 := by decide +kernel
set_option maxRecDepth 100000 in
theorem am_kt61 : ∀ q ∈ am_t61, decode cX10_name q.1 = .ok q.2 := by
  intro q hq
  rw [← List.take_append_drop 40 (am_t61)] at hq
  rcases List.mem_append.mp hq with hq | hq
  · exact am_kt61_0 q hq
  exact am_kt61_1 q (by rw [List.take_of_length_le (by decide)]; exact hq)
def am_t62 : List (Nat × Instr × Nat) := [(0, .aload_n 0, 1), (1, .getfield 9, 3), (4, .aload_n 0, 1), (5, .getfield 27, 3), (8, .iload_n 1, 1), (9, .iastore, 1), (10, .aload_n 0, 1), (11, .getfield 15, 3), (14, .aload_n 0, 1), (15, .getfield 27, 3), (18, .iload_n 2, 1), (19, .iastore, 1), (20, .aload_n 0, 1), (21, .getfield 18, 3), (24, .aload_n 0, 1), (25, .getfield 27, 3), (28, .iload_n 3, 1), (29, .iastore, 1), (30, .aload_n 0, 1), (31, .getfield 21, 3), (34, .aload_n 0, 1), (35, .getfield 27, 3), (38, .iload 4, 2), (40, .iastore, 1), (41, .aload_n 0, 1), (42, .getfield 24, 3), (45, .aload_n 0, 1), (46, .getfield 27, 3), (49, .iload 5, 2), (51, .iastore, 1), (52, .aload_n 0, 1), (53, .dup, 1), (54, .getfield 27, 3), (57, .dup_x1, 1), (58, .iconst 1, 1), (59, .iadd, 1), (60, .putfield 27, 3), (63, .ireturn, 1)]
set_option maxRecDepth 100000 in
theorem am_kt62 : ∀ q ∈ am_t62, decode cX5_add q.1 = .ok q.2 := by decide +kernel
def am_t63 : List (Nat × Instr × Nat) := [(0, .iload_n 3, 1), (1, .aload_n 0, 1), (2, .getfield 26, 3), (5, .getfield 204, 3), (8, .invokestatic 98, 3), (11, .ifCond .eq 11, 3), (14, .iload_n 2, 1), (15, .iconst 4, 1), (16, .invokestatic 98, 3), (19, .ifCond .ne 5, 3), (22, .iconst (-1), 1), (23, .ireturn, 1), (24, .iload_n 1, 1), (25, .invokestatic 207, 3), (28, .ifCond .eq 22, 3), (31, .iload 4, 2), (33, .ifCond .lt 17, 3), (36, .iload 4, 2), (38, .iload 5, 2), (40, .if_icmp .gt 10, 3), (43, .iload 5, 2), (45, .bipush 60, 2), (47, .if_icmp .le 6, 3), (50, .bipush (-2), 2), (52, .ireturn, 1), (53, .aload_n 0, 1), (54, .getfield 33, 3), (57, .getfield 210, 3), (60, .bipush 16, 2), (62, .if_icmp .lt 6, 3), (65, .bipush (-4), 2), (67, .ireturn, 1), (68, .aload_n 0, 1), (69, .getfield 33, 3), (72, .iload_n 1, 1), (73, .iload_n 2, 1), (74, .iload_n 3, 1), (75, .iload 4, 2), (77, .iload 5, 2), (79, .aload_n 0, 1), (80, .getfield 90, 3), (83, .invokevirtual 211, 3), (86, .istore 6, 2), (88, .aload_n 0, 1), (89, .getfield 63, 3), (92, .iload 6, 2), (94, .invokevirtual 214, 3), (97, .iload 6, 2), (99, .ireturn, 1)]
set_option maxRecDepth 100000 in
theorem am_kt63_0 : ∀ q ∈ (am_t63.drop 0).take 40, decode cX10_find q.1 = .ok q.2 := by decide +kernel
set_option maxRecDepth 100000 in
theorem am_kt63_1 : ∀ q ∈ (am_t63.drop 40).take 40, decode cX10_find q.1 = .ok q.2 := by decide +kernel
set_option maxRecDepth 100000 in
theorem am_kt63 : ∀ q ∈ am_t63, decode cX10_find q.1 = .ok q.2 := by
  intro q hq
  rw [← List.take_append_drop 40 (am_t63)] at hq
  rcases List.mem_append.mp hq with hq | hq
  · exact am_kt63_0 q hq
  exact am_kt63_1 q (by rw [List.take_of_length_le (by decide)]; exact hq)
def am_t64 : List (Nat × Instr × Nat) := [(0, .iload_n 0, 1), (1, .iconst 0, 1), (2, .ldc_w 335, 3), (5, .invokestatic 105, 3), (8, .ifCond .ne 5, 3), (11, .iconst 0, 1), (12, .ireturn, 1), (13, .iconst 0, 1), (14, .istore_n 1, 1), (15, .iload_n 1, 1), (16, .iconst 4, 1), (17, .if_icmp .ge 21, 3), (20, .iload_n 0, 1), (21, .iload_n 1, 1), (22, .invokestatic 336, 3), (25, .bipush 10, 2), (27, .if_icmp .le 5, 3), (30, .iconst 0, 1), (31, .ireturn, 1), (32, .iinc 1 1, 3), (35, .goto (-20), 3), (38, .iconst 1, 1), (39, .ireturn, 1)]
set_option maxRecDepth 100000 in
theorem am_kt64 : ∀ q ∈ am_t64, decode cX10_isRow q.1 = .ok q.2 := by decide +kernel
def am_t65 : List (Nat × Instr × Nat) := [(0, .aload_n 0, 1), (1, .getfield 9, 3), (4, .aload_n 0, 1), (5, .getfield 34, 3), (8, .iload_n 1, 1), (9, .iastore, 1), (10, .aload_n 0, 1), (11, .getfield 15, 3), (14, .aload_n 0, 1), (15, .getfield 34, 3), (18, .iload_n 2, 1), (19, .iastore, 1), (20, .aload_n 0, 1), (21, .getfield 18, 3), (24, .aload_n 0, 1), (25, .getfield 34, 3), (28, .iload_n 3, 1), (29, .iastore, 1), (30, .aload_n 0, 1), (31, .getfield 21, 3), (34, .aload_n 0, 1), (35, .getfield 34, 3), (38, .iload 4, 2), (40, .iastore, 1), (41, .aload_n 0, 1), (42, .getfield 24, 3), (45, .aload_n 0, 1), (46, .getfield 34, 3), (49, .iload 5, 2), (51, .iastore, 1), (52, .aload_n 0, 1), (53, .getfield 27, 3), (56, .aload_n 0, 1), (57, .getfield 34, 3), (60, .iload 6, 2), (62, .iastore, 1), (63, .aload_n 0, 1), (64, .getfield 30, 3), (67, .aload_n 0, 1), (68, .getfield 34, 3), (71, .iconst 0, 1), (72, .bastore, 1), (73, .aload_n 0, 1), (74, .dup, 1), (75, .getfield 34, 3), (78, .dup_x1, 1), (79, .iconst 1, 1), (80, .iadd, 1), (81, .putfield 34, 3), (84, .ireturn, 1)]
set_option maxRecDepth 100000 in
theorem am_kt65_0 : ∀ q ∈ (am_t65.drop 0).take 40, decode cX2_add q.1 = .ok q.2 := by decide +kernel
set_option maxRecDepth 100000 in
theorem am_kt65_1 : ∀ q ∈ (am_t65.drop 40).take 40, decode cX2_add q.1 = .ok q.2 := by decide +kernel
set_option maxRecDepth 100000 in
theorem am_kt65 : ∀ q ∈ am_t65, decode cX2_add q.1 = .ok q.2 := by
  intro q hq
  rw [← List.take_append_drop 40 (am_t65)] at hq
  rcases List.mem_append.mp hq with hq | hq
  · exact am_kt65_0 q hq
  exact am_kt65_1 q (by rw [List.take_of_length_le (by decide)]; exact hq)
def am_t66 : List (Nat × Instr × Nat) := [(0, .iconst 0, 1), (1, .istore_n 2, 1), (2, .iload_n 2, 1), (3, .aload_n 0, 1), (4, .getfield 16, 3), (7, .getfield 42, 3), (10, .if_icmp .ge 23, 3), (13, .aload_n 0, 1), (14, .getfield 11, 3), (17, .iload_n 1, 1), (18, .aaload, 1), (19, .iload_n 2, 1), (20, .aload_n 0, 1), (21, .iload_n 1, 1), (22, .iload_n 2, 1), (23, .invokevirtual 38, 3), (26, .iastore, 1), (27, .iinc 2 1, 3), (30, .goto (-28), 3), (33, .return_, 1)]
set_option maxRecDepth 100000 in
theorem am_kt66 : ∀ q ∈ am_t66, decode cX7_matchFind q.1 = .ok q.2 := by decide +kernel
def am_t67 : List (Nat × Instr × Nat) := [(0, .iload_n 1, 1), (1, .aload_n 0, 1), (2, .getfield 90, 3), (5, .if_icmp .lt 10, 3), (8, .iload_n 1, 1), (9, .sipush 999, 3), (12, .if_icmp .le 6, 3), (15, .bipush (-2), 2), (17, .ireturn, 1), (18, .aload_n 0, 1), (19, .getfield 90, 3), (22, .istore_n 2, 1), (23, .aload_n 0, 1), (24, .iload_n 1, 1), (25, .putfield 90, 3), (28, .iload_n 2, 1), (29, .ireturn, 1)]
set_option maxRecDepth 100000 in
theorem am_kt67 : ∀ q ∈ am_t67, decode cX10_clock q.1 = .ok q.2 := by decide +kernel
def am_t68 : List (Nat × Instr × Nat) := [(0, .iload_n 1, 1), (1, .aload_n 0, 1), (2, .getfield 33, 3), (5, .getfield 210, 3), (8, .invokestatic 98, 3), (11, .ifCond .ne 5, 3), (14, .iconst (-1), 1), (15, .ireturn, 1), (16, .iload_n 2, 1), (17, .iconst 0, 1), (18, .iconst 1, 1), (19, .invokestatic 105, 3), (22, .ifCond .ne 6, 3), (25, .bipush (-2), 2), (27, .ireturn, 1), (28, .aload_n 0, 1), (29, .getfield 33, 3), (32, .getfield 217, 3), (35, .iload_n 1, 1), (36, .baload, 1), (37, .ifCond .eq 7, 3), (40, .iconst 1, 1), (41, .goto 4, 3), (44, .iconst 0, 1), (45, .istore_n 3, 1), (46, .aload_n 0, 1), (47, .getfield 33, 3), (50, .getfield 217, 3), (53, .iload_n 1, 1), (54, .iload_n 2, 1), (55, .iconst 1, 1), (56, .if_icmp .ne 7, 3), (59, .iconst 1, 1), (60, .goto 4, 3), (63, .iconst 0, 1), (64, .bastore, 1), (65, .iload_n 3, 1), (66, .ireturn, 1)]
set_option maxRecDepth 100000 in
theorem am_kt68 : ∀ q ∈ am_t68, decode cX10_drop q.1 = .ok q.2 := by decide +kernel
def am_t69 : List (Nat × Instr × Nat) := [(0, .iload_n 1, 1), (1, .aload_n 0, 1), (2, .getfield 33, 3), (5, .getfield 210, 3), (8, .invokestatic 98, 3), (11, .ifCond .eq 17, 3), (14, .iload_n 2, 1), (15, .aload_n 0, 1), (16, .getfield 19, 3), (19, .getfield 109, 3), (22, .invokestatic 98, 3), (25, .ifCond .ne 5, 3), (28, .iconst (-1), 1), (29, .ireturn, 1), (30, .aload_n 0, 1), (31, .getfield 54, 3), (34, .invokevirtual 221, 3), (37, .aload_n 0, 1), (38, .getfield 63, 3), (41, .iload_n 1, 1), (42, .iload_n 2, 1), (43, .invokevirtual 224, 3), (46, .ireturn, 1)]
set_option maxRecDepth 100000 in
theorem am_kt69 : ∀ q ∈ am_t69, decode cX10_weight q.1 = .ok q.2 := by decide +kernel
def am_t70 : List (Nat × Instr × Nat) := [(0, .aload_n 0, 1), (1, .getfield 16, 3), (4, .aload_n 0, 1), (5, .getfield 20, 3), (8, .getfield 32, 3), (11, .if_icmp .ne 4, 3), (14, .return_, 1), (15, .iconst 0, 1), (16, .istore_n 1, 1), (17, .iload_n 1, 1), (18, .aload_n 0, 1), (19, .getfield 24, 3), (22, .getfield 37, 3), (25, .if_icmp .ge 58, 3), (28, .aload_n 0, 1), (29, .getfield 28, 3), (32, .aload_n 0, 1), (33, .getfield 24, 3), (36, .iload_n 1, 1), (37, .aload_n 0, 1), (38, .getfield 20, 3), (41, .getfield 42, 3), (44, .invokevirtual 46, 3), (47, .aload_n 0, 1), (48, .getfield 28, 3), (51, .bipush 12, 2), (53, .invokevirtual 52, 3), (56, .aload_n 0, 1), (57, .getfield 28, 3), (60, .getfield 56, 3), (63, .iconst 0, 1), (64, .aload_n 0, 1), (65, .getfield 11, 3), (68, .iload_n 1, 1), (69, .aaload, 1), (70, .iconst 0, 1), (71, .sipush 720, 3), (74, .invokestatic 58, 3), (77, .iinc 1 1, 3), (80, .goto (-63), 3), (83, .aload_n 0, 1), (84, .aload_n 0, 1), (85, .getfield 20, 3), (88, .getfield 32, 3), (91, .putfield 16, 3), (94, .return_, 1)]
set_option maxRecDepth 100000 in
theorem am_kt70_0 : ∀ q ∈ (am_t70.drop 0).take 40, decode cX4_refresh q.1 = .ok q.2 := by decide +kernel
set_option maxRecDepth 100000 in
theorem am_kt70_1 : ∀ q ∈ (am_t70.drop 40).take 40, decode cX4_refresh q.1 = .ok q.2 := by decide +kernel
set_option maxRecDepth 100000 in
theorem am_kt70 : ∀ q ∈ am_t70, decode cX4_refresh q.1 = .ok q.2 := by
  intro q hq
  rw [← List.take_append_drop 40 (am_t70)] at hq
  rcases List.mem_append.mp hq with hq | hq
  · exact am_kt70_0 q hq
  exact am_kt70_1 q (by rw [List.take_of_length_le (by decide)]; exact hq)
def am_t71 : List (Nat × Instr × Nat) := [(0, .aload_n 0, 1), (1, .getfield 11, 3), (4, .iload_n 1, 1), (5, .aaload, 1), (6, .iload_n 2, 1), (7, .iaload, 1), (8, .ifCond .ne 5, 3), (11, .iconst 0, 1), (12, .ireturn, 1), (13, .aload_n 0, 1), (14, .getfield 16, 3), (17, .getfield 66, 3), (20, .iload_n 2, 1), (21, .iaload, 1), (22, .istore_n 3, 1), (23, .aload_n 0, 1), (24, .getfield 20, 3), (27, .aload_n 0, 1), (28, .getfield 28, 3), (31, .getfield 69, 3), (34, .iload_n 2, 1), (35, .aaload, 1), (36, .aload_n 0, 1), (37, .getfield 24, 3), (40, .getfield 74, 3), (43, .iload_n 1, 1), (44, .iaload, 1), (45, .aload_n 0, 1), (46, .getfield 24, 3), (49, .getfield 77, 3), (52, .iload_n 1, 1), (53, .iaload, 1), (54, .iload_n 3, 1), (55, .isub, 1), (56, .aload_n 0, 1), (57, .getfield 24, 3), (60, .getfield 80, 3), (63, .iload_n 1, 1), (64, .iaload, 1), (65, .iload_n 3, 1), (66, .isub, 1), (67, .invokevirtual 83, 3), (70, .ireturn, 1)]
set_option maxRecDepth 100000 in
theorem am_kt71_0 : ∀ q ∈ (am_t71.drop 0).take 40, decode cX7_weightOf q.1 = .ok q.2 := by decide +kernel
set_option maxRecDepth 100000 in
theorem am_kt71_1 : ∀ q ∈ (am_t71.drop 40).take 40, decode cX7_weightOf q.1 = .ok q.2 := by decide +kernel
set_option maxRecDepth 100000 in
theorem am_kt71 : ∀ q ∈ am_t71, decode cX7_weightOf q.1 = .ok q.2 := by
  intro q hq
  rw [← List.take_append_drop 40 (am_t71)] at hq
  rcases List.mem_append.mp hq with hq | hq
  · exact am_kt71_0 q hq
  exact am_kt71_1 q (by rw [List.take_of_length_le (by decide)]; exact hq)
def am_t72 : List (Nat × Instr × Nat) := [(0, .iconst 0, 1), (1, .istore 5, 2), (3, .iload_n 3, 1), (4, .iconst 0, 1), (5, .invokestatic 35, 3), (8, .istore 6, 2), (10, .iload 6, 2), (12, .iload 4, 2), (14, .if_icmp .gt 92, 3), (17, .iload 6, 2), (19, .bipush 12, 2), (21, .if_icmp .ge 85, 3), (24, .aload_n 0, 1), (25, .getfield 9, 3), (28, .iload_n 2, 1), (29, .iaload, 1), (30, .istore 7, 2), (32, .iload 7, 2), (34, .aload_n 0, 1), (35, .getfield 15, 3), (38, .iload_n 2, 1), (39, .iaload, 1), (40, .if_icmp .gt 60, 3), (43, .iload 6, 2), (45, .bipush 60, 2), (47, .imul, 1), (48, .iload 7, 2), (50, .iconst 0, 1), (51, .invokestatic 41, 3), (54, .iadd, 1), (55, .istore 8, 2), (57, .aload_n 0, 1), (58, .getfield 18, 3), (61, .iload_n 2, 1), (62, .iaload, 1), (63, .istore 9, 2), (65, .iload 9, 2), (67, .aload_n 0, 1), (68, .getfield 21, 3), (71, .iload_n 2, 1), (72, .iaload, 1), (73, .if_icmp .gt 21, 3), (76, .iload 5, 2), (78, .aload_n 1, 1), (79, .iload 8, 2), (81, .iload 9, 2), (83, .iadd, 1), (84, .iaload, 1), (85, .iadd, 1), (86, .istore 5, 2), (88, .iinc 9 1, 3), (91, .goto (-26), 3), (94, .iinc 7 1, 3), (97, .goto (-65), 3), (100, .iinc 6 1, 3), (103, .goto (-93), 3), (106, .iload 5, 2), (108, .ireturn, 1)]
set_option maxRecDepth 100000 in
theorem am_kt72_0 : ∀ q ∈ (am_t72.drop 0).take 40, decode cX5_foundWithin q.1 = .ok q.2 := by decide +kernel
set_option maxRecDepth 100000 in
theorem am_kt72_1 : ∀ q ∈ (am_t72.drop 40).take 40, decode cX5_foundWithin q.1 = .ok q.2 := by decide +kernel
set_option maxRecDepth 100000 in
theorem am_kt72 : ∀ q ∈ am_t72, decode cX5_foundWithin q.1 = .ok q.2 := by
  intro q hq
  rw [← List.take_append_drop 40 (am_t72)] at hq
  rcases List.mem_append.mp hq with hq | hq
  · exact am_kt72_0 q hq
  exact am_kt72_1 q (by rw [List.take_of_length_le (by decide)]; exact hq)
def am_t73 : List (Nat × Instr × Nat) := [(0, .iload_n 0, 1), (1, .iload_n 1, 1), (2, .if_icmp .lt 7, 3), (5, .iload_n 0, 1), (6, .goto 4, 3), (9, .iload_n 1, 1), (10, .ireturn, 1)]
set_option maxRecDepth 100000 in
theorem am_kt73 : ∀ q ∈ am_t73, decode cJ9_max_7cf53 q.1 = .ok q.2 := by decide +kernel
def am_t74 : List (Nat × Instr × Nat) := [(0, .iload_n 1, 1), (1, .aload_n 0, 1), (2, .getfield 33, 3), (5, .getfield 210, 3), (8, .invokestatic 98, 3), (11, .ifCond .ne 5, 3), (14, .iconst (-1), 1), (15, .ireturn, 1), (16, .aload_n 0, 1), (17, .getfield 54, 3), (20, .invokevirtual 221, 3), (23, .aload_n 0, 1), (24, .getfield 63, 3), (27, .iload_n 1, 1), (28, .invokevirtual 227, 3), (31, .ireturn, 1)]
set_option maxRecDepth 100000 in
theorem am_kt74 : ∀ q ∈ am_t74, decode cX10_judge q.1 = .ok q.2 := by decide +kernel
def am_t75 : List (Nat × Instr × Nat) := [(0, .iconst 0, 1), (1, .istore_n 2, 1), (2, .iconst 0, 1), (3, .istore_n 3, 1), (4, .iconst 0, 1), (5, .istore 4, 2), (7, .iload 4, 2), (9, .aload_n 0, 1), (10, .getfield 16, 3), (13, .getfield 42, 3), (16, .if_icmp .ge 37, 3), (19, .aload_n 0, 1), (20, .getfield 11, 3), (23, .iload_n 1, 1), (24, .aaload, 1), (25, .iload 4, 2), (27, .iaload, 1), (28, .ifCond .le 6, 3), (31, .iinc 2 1, 3), (34, .aload_n 0, 1), (35, .iload_n 1, 1), (36, .iload 4, 2), (38, .invokevirtual 89, 3), (41, .ifCond .le 6, 3), (44, .iinc 3 1, 3), (47, .iinc 4 1, 3), (50, .goto (-43), 3), (53, .iload_n 2, 1), (54, .ifCond .ne 5, 3), (57, .iconst 3, 1), (58, .ireturn, 1), (59, .iload_n 3, 1), (60, .ifCond .ne 5, 3), (63, .iconst 0, 1), (64, .ireturn, 1), (65, .iload_n 3, 1), (66, .iconst 1, 1), (67, .if_icmp .ne 7, 3), (70, .iconst 2, 1), (71, .goto 4, 3), (74, .iconst 1, 1), (75, .ireturn, 1)]
set_option maxRecDepth 100000 in
theorem am_kt75_0 : ∀ q ∈ (am_t75.drop 0).take 40, decode cX7_verdictOf q.1 = .ok q.2 := by decide +kernel
set_option maxRecDepth 100000 in
theorem am_kt75_1 : ∀ q ∈ (am_t75.drop 40).take 40, decode cX7_verdictOf q.1 = .ok q.2 := by decide +kernel
set_option maxRecDepth 100000 in
theorem am_kt75 : ∀ q ∈ am_t75, decode cX7_verdictOf q.1 = .ok q.2 := by
  intro q hq
  rw [← List.take_append_drop 40 (am_t75)] at hq
  rcases List.mem_append.mp hq with hq | hq
  · exact am_kt75_0 q hq
  exact am_kt75_1 q (by rw [List.take_of_length_le (by decide)]; exact hq)
def am_t76 : List (Nat × Instr × Nat) := [(0, .iload_n 1, 1), (1, .aload_n 0, 1), (2, .getfield 33, 3), (5, .getfield 210, 3), (8, .invokestatic 98, 3), (11, .ifCond .ne 5, 3), (14, .iconst (-1), 1), (15, .ireturn, 1), (16, .aload_n 0, 1), (17, .getfield 54, 3), (20, .invokevirtual 221, 3), (23, .aload_n 0, 1), (24, .getfield 63, 3), (27, .iload_n 1, 1), (28, .invokevirtual 230, 3), (31, .ireturn, 1)]
set_option maxRecDepth 100000 in
theorem am_kt76 : ∀ q ∈ am_t76, decode cX10_best q.1 = .ok q.2 := by decide +kernel
def am_t77 : List (Nat × Instr × Nat) := [(0, .iconst (-1), 1), (1, .istore_n 2, 1), (2, .iconst 0, 1), (3, .istore_n 3, 1), (4, .iconst 0, 1), (5, .istore 4, 2), (7, .iload 4, 2), (9, .aload_n 0, 1), (10, .getfield 16, 3), (13, .getfield 42, 3), (16, .if_icmp .ge 30, 3), (19, .aload_n 0, 1), (20, .iload_n 1, 1), (21, .iload 4, 2), (23, .invokevirtual 89, 3), (26, .istore 5, 2), (28, .iload 5, 2), (30, .iload_n 3, 1), (31, .if_icmp .le 9, 3), (34, .iload 5, 2), (36, .istore_n 3, 1), (37, .iload 4, 2), (39, .istore_n 2, 1), (40, .iinc 4 1, 3), (43, .goto (-36), 3), (46, .iload_n 2, 1), (47, .ireturn, 1)]
set_option maxRecDepth 100000 in
theorem am_kt77 : ∀ q ∈ am_t77, decode cX7_bestOf q.1 = .ok q.2 := by decide +kernel
def am_t78 : List (Nat × Instr × Nat) := [(0, .iload_n 1, 1), (1, .aload_n 0, 1), (2, .getfield 33, 3), (5, .getfield 210, 3), (8, .invokestatic 98, 3), (11, .ifCond .ne 5, 3), (14, .iconst (-1), 1), (15, .ireturn, 1), (16, .aload_n 0, 1), (17, .getfield 54, 3), (20, .invokevirtual 221, 3), (23, .aload_n 0, 1), (24, .getfield 63, 3), (27, .iload_n 1, 1), (28, .invokevirtual 230, 3), (31, .istore_n 2, 1), (32, .iload_n 2, 1), (33, .ifCond .ge 7, 3), (36, .iconst 0, 1), (37, .goto 12, 3), (40, .aload_n 0, 1), (41, .getfield 63, 3), (44, .iload_n 1, 1), (45, .iload_n 2, 1), (46, .invokevirtual 233, 3), (49, .ireturn, 1)]
set_option maxRecDepth 100000 in
theorem am_kt78 : ∀ q ∈ am_t78, decode cX10_cards q.1 = .ok q.2 := by decide +kernel
def am_t79 : List (Nat × Instr × Nat) := [(0, .aload_n 0, 1), (1, .getfield 11, 3), (4, .iload_n 1, 1), (5, .aaload, 1), (6, .iload_n 2, 1), (7, .iaload, 1), (8, .ireturn, 1)]
set_option maxRecDepth 100000 in
theorem am_kt79 : ∀ q ∈ am_t79, decode cX7_cardsOf q.1 = .ok q.2 := by decide +kernel
def am_t80 : List (Nat × Instr × Nat) := [(0, .iload_n 1, 1), (1, .aload_n 0, 1), (2, .getfield 33, 3), (5, .getfield 210, 3), (8, .invokestatic 98, 3), (11, .ifCond .ne 5, 3), (14, .iconst (-1), 1), (15, .ireturn, 1), (16, .aload_n 0, 1), (17, .getfield 33, 3), (20, .iload_n 1, 1), (21, .invokevirtual 236, 3), (24, .ireturn, 1)]
set_option maxRecDepth 100000 in
theorem am_kt80 : ∀ q ∈ am_t80, decode cX10_twin q.1 = .ok q.2 := by decide +kernel
def am_t81 : List (Nat × Instr × Nat) := [(0, .aload_n 0, 1), (1, .getfield 9, 3), (4, .iload_n 1, 1), (5, .iaload, 1), (6, .invokestatic 38, 3), (9, .ifCond .ne 5, 3), (12, .iconst (-1), 1), (13, .ireturn, 1), (14, .iconst 0, 1), (15, .istore_n 2, 1), (16, .iload_n 2, 1), (17, .iload_n 1, 1), (18, .if_icmp .ge 50, 3), (21, .aload_n 0, 1), (22, .getfield 30, 3), (25, .iload_n 2, 1), (26, .baload, 1), (27, .ifCond .ne 35, 3), (30, .aload_n 0, 1), (31, .getfield 9, 3), (34, .iload_n 2, 1), (35, .iaload, 1), (36, .aload_n 0, 1), (37, .getfield 9, 3), (40, .iload_n 1, 1), (41, .iaload, 1), (42, .if_icmp .ne 20, 3), (45, .aload_n 0, 1), (46, .getfield 15, 3), (49, .iload_n 2, 1), (50, .iaload, 1), (51, .aload_n 0, 1), (52, .getfield 15, 3), (55, .iload_n 1, 1), (56, .iaload, 1), (57, .if_icmp .ne 5, 3), (60, .iload_n 2, 1), (61, .ireturn, 1), (62, .iinc 2 1, 3), (65, .goto (-49), 3), (68, .iconst (-1), 1), (69, .ireturn, 1)]
set_option maxRecDepth 100000 in
theorem am_kt81_0 : ∀ q ∈ (am_t81.drop 0).take 40, decode cX2_twinOf q.1 = .ok q.2 := by decide +kernel
set_option maxRecDepth 100000 in
theorem am_kt81_1 : ∀ q ∈ (am_t81.drop 40).take 40, decode cX2_twinOf q.1 = .ok q.2 := by decide +kernel
set_option maxRecDepth 100000 in
theorem am_kt81 : ∀ q ∈ am_t81, decode cX2_twinOf q.1 = .ok q.2 := by
  intro q hq
  rw [← List.take_append_drop 40 (am_t81)] at hq
  rcases List.mem_append.mp hq with hq | hq
  · exact am_kt81_0 q hq
  exact am_kt81_1 q (by rw [List.take_of_length_le (by decide)]; exact hq)
def am_t82 : List (Nat × Instr × Nat) := [(0, .iconst 0, 1), (1, .istore_n 1, 1), (2, .iload_n 1, 1), (3, .iconst 4, 1), (4, .if_icmp .ge 21, 3), (7, .iload_n 0, 1), (8, .iload_n 1, 1), (9, .invokestatic 42, 3), (12, .bipush 10, 2), (14, .if_icmp .ne 5, 3), (17, .iconst 0, 1), (18, .ireturn, 1), (19, .iinc 1 1, 3), (22, .goto (-20), 3), (25, .iconst 1, 1), (26, .ireturn, 1)]
set_option maxRecDepth 100000 in
theorem am_kt82 : ∀ q ∈ am_t82, decode cX2_isAllRead q.1 = .ok q.2 := by decide +kernel
def am_t83 : List (Nat × Instr × Nat) := [(0, .iload_n 2, 1), (1, .iconst (-1), 1), (2, .if_icmp .ne 7, 3), (5, .iconst 1, 1), (6, .goto 4, 3), (9, .iconst 0, 1), (10, .istore 4, 2), (12, .iload_n 1, 1), (13, .aload_n 0, 1), (14, .getfield 19, 3), (17, .getfield 109, 3), (20, .invokestatic 98, 3), (23, .ifCond .eq 22, 3), (26, .iload 4, 2), (28, .ifCond .ne 19, 3), (31, .iload_n 2, 1), (32, .aload_n 0, 1), (33, .getfield 26, 3), (36, .getfield 204, 3), (39, .invokestatic 98, 3), (42, .ifCond .ne 5, 3), (45, .iconst (-1), 1), (46, .ireturn, 1), (47, .iload_n 3, 1), (48, .invokestatic 239, 3), (51, .ifCond .ne 6, 3), (54, .bipush (-2), 2), (56, .ireturn, 1), (57, .aload_n 0, 1), (58, .getfield 54, 3), (61, .invokevirtual 221, 3), (64, .iconst 0, 1), (65, .istore 5, 2), (67, .iconst 0, 1), (68, .istore 6, 2), (70, .iload 6, 2), (72, .aload_n 0, 1), (73, .getfield 33, 3), (76, .getfield 210, 3), (79, .if_icmp .ge 70, 3), (82, .iload 4, 2), (84, .ifCond .ne 17, 3), (87, .aload_n 0, 1), (88, .getfield 33, 3), (91, .getfield 242, 3), (94, .iload 6, 2), (96, .iaload, 1), (97, .iload_n 2, 1), (98, .if_icmp .ne 7, 3), (101, .iconst 1, 1), (102, .goto 4, 3), (105, .iconst 0, 1), (106, .istore 7, 2), (108, .iload 7, 2), (110, .ifCond .eq 33, 3), (113, .aload_n 0, 1), (114, .getfield 33, 3), (117, .getfield 245, 3), (120, .iload 6, 2), (122, .iaload, 1), (123, .iload_n 3, 1), (124, .if_icmp .gt 19, 3), (127, .aload_n 0, 1), (128, .getfield 63, 3), (131, .iload 6, 2), (133, .invokevirtual 248, 3), (136, .iload_n 1, 1), (137, .if_icmp .ne 6, 3), (140, .iinc 5 1, 3), (143, .iinc 6 1, 3), (146, .goto (-76), 3), (149, .iload 5, 2), (151, .ireturn, 1)]
set_option maxRecDepth 100000 in
theorem am_kt83_0 : ∀ q ∈ (am_t83.drop 0).take 40, decode cX10_got q.1 = .ok q.2 := by decide +kernel
set_option maxRecDepth 100000 in
theorem am_kt83_1 : ∀ q ∈ (am_t83.drop 40).take 40, decode cX10_got q.1 = .ok q.2 := by decide +kernel
set_option maxRecDepth 100000 in
theorem am_kt83 : ∀ q ∈ am_t83, decode cX10_got q.1 = .ok q.2 := by
  intro q hq
  rw [← List.take_append_drop 40 (am_t83)] at hq
  rcases List.mem_append.mp hq with hq | hq
  · exact am_kt83_0 q hq
  exact am_kt83_1 q (by rw [List.take_of_length_le (by decide)]; exact hq)
def am_t84 : List (Nat × Instr × Nat) := [(0, .iload_n 0, 1), (1, .iconst 0, 1), (2, .sipush 999, 3), (5, .invokestatic 105, 3), (8, .ireturn, 1)]
set_option maxRecDepth 100000 in
theorem am_kt84 : ∀ q ∈ am_t84, decode cX10_isTime q.1 = .ok q.2 := by decide +kernel
def am_t85 : List (Nat × Instr × Nat) := [(0, .aload_n 0, 1), (1, .getfield 24, 3), (4, .getfield 92, 3), (7, .iload_n 1, 1), (8, .baload, 1), (9, .ifCond .ne 24, 3), (12, .aload_n 0, 1), (13, .getfield 24, 3), (16, .iload_n 1, 1), (17, .invokevirtual 96, 3), (20, .iconst (-1), 1), (21, .if_icmp .ne 12, 3), (24, .aload_n 0, 1), (25, .iload_n 1, 1), (26, .invokevirtual 100, 3), (29, .iconst 2, 1), (30, .if_icmp .eq 5, 3), (33, .iconst (-1), 1), (34, .ireturn, 1), (35, .aload_n 0, 1), (36, .iload_n 1, 1), (37, .invokevirtual 103, 3), (40, .ireturn, 1)]
set_option maxRecDepth 100000 in
theorem am_kt85 : ∀ q ∈ am_t85, decode cX7_castGot q.1 = .ok q.2 := by decide +kernel
def am_t86 : List (Nat × Instr × Nat) := [(0, .iload_n 1, 1), (1, .iconst 3, 1), (2, .invokestatic 98, 3), (5, .ifCond .ne 6, 3), (8, .bipush (-3), 2), (10, .ireturn, 1), (11, .iload_n 2, 1), (12, .iconst (-1), 1), (13, .iconst 1, 1), (14, .invokestatic 105, 3), (17, .ifCond .ne 6, 3), (20, .bipush (-2), 2), (22, .ireturn, 1), (23, .aload_n 0, 1), (24, .getfield 12, 3), (27, .getfield 183, 3), (30, .iload_n 1, 1), (31, .iaload, 1), (32, .istore_n 3, 1), (33, .aload_n 0, 1), (34, .getfield 12, 3), (37, .getfield 183, 3), (40, .iload_n 1, 1), (41, .iload_n 2, 1), (42, .iastore, 1), (43, .aload_n 0, 1), (44, .getfield 12, 3), (47, .dup, 1), (48, .getfield 162, 3), (51, .iconst 1, 1), (52, .iadd, 1), (53, .putfield 162, 3), (56, .iload_n 3, 1), (57, .ireturn, 1)]
set_option maxRecDepth 100000 in
theorem am_kt86 : ∀ q ∈ am_t86, decode cX10_move q.1 = .ok q.2 := by decide +kernel
def am_t87 : List (Nat × Instr × Nat) := [(0, .iload_n 1, 1), (1, .iconst 3, 1), (2, .invokestatic 98, 3), (5, .ifCond .ne 6, 3), (8, .bipush (-3), 2), (10, .ireturn, 1), (11, .aload_n 0, 1), (12, .getfield 72, 3), (15, .invokevirtual 251, 3), (18, .aload_n 0, 1), (19, .getfield 72, 3), (22, .invokevirtual 254, 3), (25, .iload_n 1, 1), (26, .invokestatic 258, 3), (29, .ireturn, 1)]
set_option maxRecDepth 100000 in
theorem am_kt87 : ∀ q ∈ am_t87, decode cX10_fit q.1 = .ok q.2 := by decide +kernel
def am_t88 : List (Nat × Instr × Nat) := [(0, .aload_n 0, 1), (1, .getfield 45, 3), (4, .invokevirtual 62, 3), (7, .aload_n 0, 1), (8, .invokevirtual 67, 3), (11, .iconst 0, 1), (12, .istore_n 1, 1), (13, .iload_n 1, 1), (14, .bipush 27, 2), (16, .if_icmp .ge 14, 3), (19, .aload_n 0, 1), (20, .iload_n 1, 1), (21, .invokevirtual 70, 3), (24, .iinc 1 1, 3), (27, .goto (-14), 3), (30, .return_, 1)]
set_option maxRecDepth 100000 in
theorem am_kt88 : ∀ q ∈ am_t88, decode cX3_refreshAll q.1 = .ok q.2 := by decide +kernel
def am_t89 : List (Nat × Instr × Nat) := [(0, .aload_n 0, 1), (1, .getfield 23, 3), (4, .iconst 0, 1), (5, .invokestatic 112, 3), (8, .iconst 0, 1), (9, .istore_n 1, 1), (10, .iload_n 1, 1), (11, .aload_n 0, 1), (12, .getfield 41, 3), (15, .getfield 118, 3), (18, .if_icmp .ge 44, 3), (21, .aload_n 0, 1), (22, .getfield 49, 3), (25, .iload_n 1, 1), (26, .invokevirtual 121, 3), (29, .istore_n 2, 1), (30, .iload_n 2, 1), (31, .ifCond .lt 25, 3), (34, .aload_n 0, 1), (35, .getfield 23, 3), (38, .iload_n 2, 1), (39, .aload_n 0, 1), (40, .getfield 41, 3), (43, .getfield 127, 3), (46, .iload_n 1, 1), (47, .iaload, 1), (48, .invokestatic 106, 3), (51, .dup2, 1), (52, .iaload, 1), (53, .iconst 1, 1), (54, .iadd, 1), (55, .iastore, 1), (56, .iinc 1 1, 3), (59, .goto (-49), 3), (62, .return_, 1)]
set_option maxRecDepth 100000 in
theorem am_kt89 : ∀ q ∈ am_t89, decode cX3_countGot q.1 = .ok q.2 := by decide +kernel
