def am_t90 : List (Nat × Instr × Nat) := [(0, .iload_n 0, 1), (1, .bipush 6, 2), (3, .imul, 1), (4, .iload_n 1, 1), (5, .iadd, 1), (6, .ireturn, 1)]
set_option maxRecDepth 100000 in
theorem am_kt90 : ∀ q ∈ am_t90, decode cX3_slotOf q.1 = .ok q.2 := by decide +kernel
def am_t91 : List (Nat × Instr × Nat) := [(0, .aload_n 0, 1), (1, .getfield 20, 3), (4, .iload_n 1, 1), (5, .iaload, 1), (6, .aload_n 0, 1), (7, .getfield 29, 3), (10, .getfield 74, 3), (13, .if_icmp .ne 4, 3), (16, .return_, 1), (17, .iconst 0, 1), (18, .istore_n 2, 1), (19, .iload_n 2, 1), (20, .iconst 3, 1), (21, .if_icmp .ge 20, 3), (24, .aload_n 0, 1), (25, .getfield 9, 3), (28, .iload_n 2, 1), (29, .iload_n 1, 1), (30, .iload_n 2, 1), (31, .invokestatic 78, 3), (34, .iastore, 1), (35, .iinc 2 1, 3), (38, .goto (-19), 3), (41, .iconst 0, 1), (42, .istore_n 2, 1), (43, .iload_n 2, 1), (44, .aload_n 0, 1), (45, .getfield 33, 3), (48, .getfield 82, 3), (51, .if_icmp .ge 101, 3), (54, .aload_n 0, 1), (55, .getfield 53, 3), (58, .aload_n 0, 1), (59, .getfield 33, 3), (62, .iload_n 2, 1), (63, .aload_n 0, 1), (64, .getfield 9, 3), (67, .invokevirtual 87, 3), (70, .aload_n 0, 1), (71, .getfield 53, 3), (74, .bipush 12, 2), (76, .invokevirtual 93, 3), (79, .iconst 0, 1), (80, .istore_n 3, 1), (81, .iload_n 3, 1), (82, .aload_n 0, 1), (83, .getfield 37, 3), (86, .getfield 96, 3), (89, .if_icmp .ge 57, 3), (92, .aload_n 0, 1), (93, .getfield 37, 3), (96, .aload_n 0, 1), (97, .getfield 53, 3), (100, .getfield 99, 3), (103, .iload_n 3, 1), (104, .iconst 0, 1), (105, .bipush 11, 2), (107, .invokevirtual 102, 3), (110, .istore 4, 2), (112, .aload_n 0, 1), (113, .getfield 17, 3), (116, .iload_n 1, 1), (117, .aaload, 1), (118, .iload_n 2, 1), (119, .iload_n 3, 1), (120, .invokestatic 106, 3), (123, .iload 4, 2), (125, .aload_n 0, 1), (126, .getfield 33, 3), (129, .getfield 109, 3), (132, .iload_n 2, 1), (133, .iaload, 1), (134, .imul, 1), (135, .sipush 1000, 3), (138, .idiv, 1), (139, .iastore, 1), (140, .iinc 3 1, 3), (143, .goto (-62), 3), (146, .iinc 2 1, 3), (149, .goto (-106), 3), (152, .aload_n 0, 1), (153, .getfield 20, 3), (156, .iload_n 1, 1), (157, .aload_n 0, 1), (158, .getfield 29, 3), (161, .getfield 74, 3), (164, .iastore, 1), (165, .return_, 1)]
set_option maxRecDepth 100000 in
theorem am_kt91_0 : ∀ q ∈ (am_t91.drop 0).take 40, decode cX3_refreshOne q.1 = .ok q.2 := by decide +kernel
set_option maxRecDepth 100000 in
theorem am_kt91_1 : ∀ q ∈ (am_t91.drop 40).take 40, decode cX3_refreshOne q.1 = .ok q.2 := by decide +kernel
set_option maxRecDepth 100000 in
theorem am_kt91_2 : ∀ q ∈ (am_t91.drop 80).take 40, decode cX3_refreshOne q.1 = .ok q.2 := by decide +kernel
set_option maxRecDepth 100000 in
theorem am_kt91 : ∀ q ∈ am_t91, decode cX3_refreshOne q.1 = .ok q.2 := by
  intro q hq
  rw [← List.take_append_drop 40 (am_t91)] at hq
  rcases List.mem_append.mp hq with hq | hq
  · exact am_kt91_0 q hq
  rw [← List.take_append_drop 40 ((am_t91.drop 40))] at hq
  rcases List.mem_append.mp hq with hq | hq
  · exact am_kt91_1 q hq
  rw [List.drop_drop] at hq
  exact am_kt91_2 q (by rw [List.take_of_length_le (by decide)]; exact hq)
def am_t92 : List (Nat × Instr × Nat) := [(0, .iload_n 1, 1), (1, .lookupswitch 42 #[(0, 27), (1, 34)], 27), (28, .iload_n 0, 1), (29, .bipush 9, 2), (31, .idiv, 1), (32, .iconst 1, 1), (33, .isub, 1), (34, .ireturn, 1), (35, .iload_n 0, 1), (36, .iconst 3, 1), (37, .idiv, 1), (38, .iconst 3, 1), (39, .irem, 1), (40, .iconst 1, 1), (41, .isub, 1), (42, .ireturn, 1), (43, .iload_n 0, 1), (44, .iconst 3, 1), (45, .irem, 1), (46, .iconst 1, 1), (47, .isub, 1), (48, .ireturn, 1)]
set_option maxRecDepth 100000 in
theorem am_kt92 : ∀ q ∈ am_t92, decode cX10_shiftIn q.1 = .ok q.2 := by decide +kernel
def am_t93 : List (Nat × Instr × Nat) := [(0, .iconst 0, 1), (1, .istore_n 1, 1), (2, .aload_n 0, 1), (3, .iconst 0, 1), (4, .invokevirtual 132, 3), (7, .lstore_n 2, 1), (8, .iconst 1, 1), (9, .istore 4, 2), (11, .iload 4, 2), (13, .bipush 27, 2), (15, .if_icmp .ge 30, 3), (18, .aload_n 0, 1), (19, .iload 4, 2), (21, .invokevirtual 132, 3), (24, .lstore 5, 2), (26, .lload 5, 2), (28, .lload_n 2, 1), (29, .lcmp, 1), (30, .ifCond .ge 9, 3), (33, .lload 5, 2), (35, .lstore_n 2, 1), (36, .iload 4, 2), (38, .istore_n 1, 1), (39, .iinc 4 1, 3), (42, .goto (-31), 3), (45, .iload_n 1, 1), (46, .ireturn, 1)]
set_option maxRecDepth 100000 in
theorem am_kt93 : ∀ q ∈ am_t93, decode cX3_leastMissed q.1 = .ok q.2 := by decide +kernel
def am_t94 : List (Nat × Instr × Nat) := [(0, .lconst 0, 1), (1, .lstore_n 2, 1), (2, .iconst 0, 1), (3, .istore 4, 2), (5, .iload 4, 2), (7, .aload_n 0, 1), (8, .getfield 33, 3), (11, .getfield 82, 3), (14, .if_icmp .ge 73, 3), (17, .iconst 0, 1), (18, .istore 5, 2), (20, .iload 5, 2), (22, .aload_n 0, 1), (23, .getfield 37, 3), (26, .getfield 96, 3), (29, .if_icmp .ge 52, 3), (32, .aload_n 0, 1), (33, .getfield 17, 3), (36, .iload_n 1, 1), (37, .aaload, 1), (38, .iload 4, 2), (40, .iload 5, 2), (42, .invokestatic 106, 3), (45, .iaload, 1), (46, .i2l, 1), (47, .ldc2_w 130, 3), (50, .aload_n 0, 1), (51, .getfield 23, 3), (54, .iload 4, 2), (56, .iload 5, 2), (58, .invokestatic 106, 3), (61, .iaload, 1), (62, .i2l, 1), (63, .lmul, 1), (64, .lsub, 1), (65, .lstore 6, 2), (67, .lload_n 2, 1), (68, .lload 6, 2), (70, .lload 6, 2), (72, .lmul, 1), (73, .ladd, 1), (74, .lstore_n 2, 1), (75, .iinc 5 1, 3), (78, .goto (-58), 3), (81, .iinc 4 1, 3), (84, .goto (-79), 3), (87, .lload_n 2, 1), (88, .lreturn, 1)]
set_option maxRecDepth 100000 in
theorem am_kt94_0 : ∀ q ∈ (am_t94.drop 0).take 40, decode cX3_missedWith q.1 = .ok q.2 := by decide +kernel
set_option maxRecDepth 100000 in
theorem am_kt94_1 : ∀ q ∈ (am_t94.drop 40).take 40, decode cX3_missedWith q.1 = .ok q.2 := by decide +kernel
set_option maxRecDepth 100000 in
theorem am_kt94 : ∀ q ∈ am_t94, decode cX3_missedWith q.1 = .ok q.2 := by
  intro q hq
  rw [← List.take_append_drop 40 (am_t94)] at hq
  rcases List.mem_append.mp hq with hq | hq
  · exact am_kt94_0 q hq
  exact am_kt94_1 q (by rw [List.take_of_length_le (by decide)]; exact hq)
def am_t95 : List (Nat × Instr × Nat) := [(0, .aload_n 0, 1), (1, .getfield 72, 3), (4, .invokevirtual 251, 3), (7, .aload_n 0, 1), (8, .getfield 72, 3), (11, .aload_n 0, 1), (12, .getfield 72, 3), (15, .invokevirtual 254, 3), (18, .invokevirtual 261, 3), (21, .lreturn, 1)]
set_option maxRecDepth 100000 in
theorem am_kt95 : ∀ q ∈ am_t95, decode cX10_misfit q.1 = .ok q.2 := by decide +kernel
def am_t96 : List (Nat × Instr × Nat) := [(0, .aload_n 0, 1), (1, .getfield 54, 3), (4, .invokevirtual 221, 3), (7, .aload_n 0, 1), (8, .getfield 72, 3), (11, .invokevirtual 265, 3), (14, .aload_n 0, 1), (15, .getfield 72, 3), (18, .invokevirtual 268, 3), (21, .istore_n 1, 1), (22, .aload_n 0, 1), (23, .getfield 72, 3), (26, .iload_n 1, 1), (27, .invokevirtual 271, 3), (30, .aload_n 0, 1), (31, .getfield 72, 3), (34, .iload_n 1, 1), (35, .invokevirtual 261, 3), (38, .lreturn, 1)]
set_option maxRecDepth 100000 in
theorem am_kt96 : ∀ q ∈ am_t96, decode cX10_misses q.1 = .ok q.2 := by decide +kernel
def am_t97 : List (Nat × Instr × Nat) := [(0, .bipush 9, 2), (2, .aload_n 0, 1), (3, .getfield 29, 3), (6, .getfield 57, 3), (9, .iconst 0, 1), (10, .iaload, 1), (11, .iconst 1, 1), (12, .iadd, 1), (13, .imul, 1), (14, .iconst 3, 1), (15, .aload_n 0, 1), (16, .getfield 29, 3), (19, .getfield 57, 3), (22, .iconst 1, 1), (23, .iaload, 1), (24, .iconst 1, 1), (25, .iadd, 1), (26, .imul, 1), (27, .iadd, 1), (28, .aload_n 0, 1), (29, .getfield 29, 3), (32, .getfield 57, 3), (35, .iconst 2, 1), (36, .iaload, 1), (37, .iadd, 1), (38, .iconst 1, 1), (39, .iadd, 1), (40, .ireturn, 1)]
set_option maxRecDepth 100000 in
theorem am_kt97 : ∀ q ∈ am_t97, decode cX3_shiftsTold q.1 = .ok q.2 := by decide +kernel
def am_t98 : List (Nat × Instr × Nat) := [(0, .iload_n 1, 1), (1, .iconst 3, 1), (2, .invokestatic 98, 3), (5, .ifCond .ne 5, 3), (8, .iconst (-1), 1), (9, .ireturn, 1), (10, .aload_n 0, 1), (11, .getfield 72, 3), (14, .invokevirtual 251, 3), (17, .aload_n 0, 1), (18, .getfield 72, 3), (21, .iload_n 1, 1), (22, .invokevirtual 274, 3), (25, .ireturn, 1)]
set_option maxRecDepth 100000 in
theorem am_kt98 : ∀ q ∈ am_t98, decode cX10_doubt q.1 = .ok q.2 := by decide +kernel
def am_t99 : List (Nat × Instr × Nat) := [(0, .aload_n 0, 1), (1, .invokevirtual 136, 3), (4, .iload_n 1, 1), (5, .invokestatic 78, 3), (8, .istore_n 2, 1), (9, .iconst 0, 1), (10, .istore_n 3, 1), (11, .iconst 0, 1), (12, .istore 4, 2), (14, .aload_n 0, 1), (15, .getfield 41, 3), (18, .getfield 118, 3), (21, .iconst 1, 1), (22, .isub, 1), (23, .istore 5, 2), (25, .iload 5, 2), (27, .ifCond .lt 90, 3), (30, .iload_n 3, 1), (31, .iconst 3, 1), (32, .if_icmp .ge 85, 3), (35, .aload_n 0, 1), (36, .getfield 49, 3), (39, .iload 5, 2), (41, .invokevirtual 121, 3), (44, .istore 6, 2), (46, .iload 6, 2), (48, .ifCond .ge 6, 3), (51, .goto 60, 3), (54, .iinc 3 1, 3), (57, .iload 6, 2), (59, .aload_n 0, 1), (60, .getfield 41, 3), (63, .getfield 127, 3), (66, .iload 5, 2), (68, .iaload, 1), (69, .invokestatic 106, 3), (72, .istore 7, 2), (74, .aload_n 0, 1), (75, .getfield 23, 3), (78, .iload 7, 2), (80, .dup2, 1), (81, .iaload, 1), (82, .iconst 1, 1), (83, .isub, 1), (84, .iastore, 1), (85, .aload_n 0, 1), (86, .invokevirtual 136, 3), (89, .iload_n 1, 1), (90, .invokestatic 78, 3), (93, .iload_n 2, 1), (94, .if_icmp .eq 6, 3), (97, .iinc 4 1, 3), (100, .aload_n 0, 1), (101, .getfield 23, 3), (104, .iload 7, 2), (106, .dup2, 1), (107, .iaload, 1), (108, .iconst 1, 1), (109, .iadd, 1), (110, .iastore, 1), (111, .iinc 5 (-1), 3), (114, .goto (-89), 3), (117, .iload 4, 2), (119, .ireturn, 1)]
set_option maxRecDepth 100000 in
theorem am_kt99_0 : ∀ q ∈ (am_t99.drop 0).take 40, decode cX3_turnsOf q.1 = .ok q.2 := by decide +kernel
set_option maxRecDepth 100000 in
theorem am_kt99_1 : ∀ q ∈ (am_t99.drop 40).take 40, decode cX3_turnsOf q.1 = .ok q.2 := by decide +kernel
set_option maxRecDepth 100000 in
theorem am_kt99 : ∀ q ∈ am_t99, decode cX3_turnsOf q.1 = .ok q.2 := by
  intro q hq
  rw [← List.take_append_drop 40 (am_t99)] at hq
  rcases List.mem_append.mp hq with hq | hq
  · exact am_kt99_0 q hq
  exact am_kt99_1 q (by rw [List.take_of_length_le (by decide)]; exact hq)
def am_t100 : List (Nat × Instr × Nat) := [(0, .iload_n 3, 1), (1, .bipush 60, 2), (3, .invokestatic 98, 3), (6, .ifCond .eq 21, 3), (9, .iload_n 2, 1), (10, .bipush 48, 2), (12, .invokestatic 98, 3), (15, .ifCond .eq 12, 3), (18, .iload 4, 2), (20, .iconst 3, 1), (21, .invokestatic 98, 3), (24, .ifCond .ne 5, 3), (27, .iconst (-1), 1), (28, .ireturn, 1), (29, .iload_n 1, 1), (30, .iconst 0, 1), (31, .iconst 3, 1), (32, .invokestatic 105, 3), (35, .ifCond .eq 8, 3), (38, .iload_n 1, 1), (39, .iconst 2, 1), (40, .if_icmp .ne 6, 3), (43, .bipush (-2), 2), (45, .ireturn, 1), (46, .aload_n 0, 1), (47, .getfield 12, 3), (50, .iload_n 3, 1), (51, .invokevirtual 148, 3), (54, .ifCond .ne 6, 3), (57, .bipush (-3), 2), (59, .ireturn, 1), (60, .aload_n 0, 1), (61, .getfield 72, 3), (64, .iload_n 1, 1), (65, .iload_n 2, 1), (66, .iload_n 3, 1), (67, .iload 4, 2), (69, .iconst (-1), 1), (70, .invokevirtual 277, 3), (73, .aload_n 0, 1), (74, .getfield 72, 3), (77, .invokevirtual 281, 3), (80, .iconst 0, 1), (81, .istore 5, 2), (83, .iconst 0, 1), (84, .istore 6, 2), (86, .iload 6, 2), (88, .iconst 1, 1), (89, .if_icmp .gt 35, 3), (92, .aload_n 0, 1), (93, .getfield 72, 3), (96, .iload_n 1, 1), (97, .iload_n 2, 1), (98, .iload_n 3, 1), (99, .iload 4, 2), (101, .iload 6, 2), (103, .invokevirtual 277, 3), (106, .iload 5, 2), (108, .aload_n 0, 1), (109, .getfield 72, 3), (112, .invokevirtual 284, 3), (115, .iadd, 1), (116, .istore 5, 2), (118, .iinc 6 1, 3), (121, .goto (-35), 3), (124, .iload 5, 2), (126, .ireturn, 1)]
set_option maxRecDepth 100000 in
theorem am_kt100_0 : ∀ q ∈ (am_t100.drop 0).take 40, decode cX10_tells q.1 = .ok q.2 := by decide +kernel
set_option maxRecDepth 100000 in
theorem am_kt100_1 : ∀ q ∈ (am_t100.drop 40).take 40, decode cX10_tells q.1 = .ok q.2 := by decide +kernel
set_option maxRecDepth 100000 in
theorem am_kt100 : ∀ q ∈ am_t100, decode cX10_tells q.1 = .ok q.2 := by
  intro q hq
  rw [← List.take_append_drop 40 (am_t100)] at hq
  rcases List.mem_append.mp hq with hq | hq
  · exact am_kt100_0 q hq
  exact am_kt100_1 q (by rw [List.take_of_length_le (by decide)]; exact hq)
def am_t101 : List (Nat × Instr × Nat) := [(0, .aload_n 0, 1), (1, .getfield 29, 3), (4, .getfield 57, 3), (7, .iconst 0, 1), (8, .aload_n 0, 1), (9, .getfield 9, 3), (12, .iconst 0, 1), (13, .iconst 3, 1), (14, .invokestatic 140, 3), (17, .aload_n 0, 1), (18, .getfield 9, 3), (21, .iload 4, 2), (23, .iload 5, 2), (25, .iastore, 1), (26, .aload_n 0, 1), (27, .getfield 53, 3), (30, .iload_n 1, 1), (31, .iload_n 2, 1), (32, .iload_n 3, 1), (33, .iconst 0, 1), (34, .aload_n 0, 1), (35, .getfield 9, 3), (38, .invokevirtual 146, 3), (41, .aload_n 0, 1), (42, .getfield 53, 3), (45, .bipush 12, 2), (47, .invokevirtual 93, 3), (50, .return_, 1)]
set_option maxRecDepth 100000 in
theorem am_kt101 : ∀ q ∈ am_t101, decode cX3_tryDrift q.1 = .ok q.2 := by decide +kernel
def am_t102 : List (Nat × Instr × Nat) := [(0, .iconst 0, 1), (1, .istore_n 1, 1), (2, .iload_n 1, 1), (3, .bipush 60, 2), (5, .if_icmp .ge 23, 3), (8, .aload_n 0, 1), (9, .getfield 26, 3), (12, .iload_n 1, 1), (13, .aload_n 0, 1), (14, .getfield 53, 3), (17, .iload_n 1, 1), (18, .invokevirtual 150, 3), (21, .iastore, 1), (22, .iinc 1 1, 3), (25, .goto (-23), 3), (28, .return_, 1)]
set_option maxRecDepth 100000 in
theorem am_kt102 : ∀ q ∈ am_t102, decode cX3_keepFound q.1 = .ok q.2 := by decide +kernel
def am_t103 : List (Nat × Instr × Nat) := [(0, .iconst 0, 1), (1, .istore_n 1, 1), (2, .iconst 0, 1), (3, .istore_n 2, 1), (4, .iload_n 2, 1), (5, .bipush 60, 2), (7, .if_icmp .ge 33, 3), (10, .iload_n 1, 1), (11, .aload_n 0, 1), (12, .getfield 53, 3), (15, .iload_n 2, 1), (16, .invokevirtual 150, 3), (19, .aload_n 0, 1), (20, .getfield 26, 3), (23, .iload_n 2, 1), (24, .iaload, 1), (25, .isub, 1), (26, .invokestatic 153, 3), (29, .bipush 10, 2), (31, .idiv, 1), (32, .iadd, 1), (33, .istore_n 1, 1), (34, .iinc 2 1, 3), (37, .goto (-33), 3), (40, .iload_n 1, 1), (41, .ireturn, 1)]
set_option maxRecDepth 100000 in
theorem am_kt103 : ∀ q ∈ am_t103, decode cX3_offFromKept q.1 = .ok q.2 := by decide +kernel
def am_t104 : List (Nat × Instr × Nat) := [(0, .iload_n 3, 1), (1, .iconst 1, 1), (2, .bipush 8, 2), (4, .invokestatic 105, 3), (7, .ifCond .ne 6, 3), (10, .bipush (-2), 2), (12, .ireturn, 1), (13, .aload_n 0, 1), (14, .getfield 79, 3), (17, .getfield 287, 3), (20, .iload_n 3, 1), (21, .iadd, 1), (22, .bipush 120, 2), (24, .if_icmp .le 6, 3), (27, .bipush (-4), 2), (29, .ireturn, 1), (30, .aload_n 0, 1), (31, .getfield 79, 3), (34, .lload_n 1, 1), (35, .iload_n 3, 1), (36, .invokevirtual 288, 3), (39, .ireturn, 1)]
set_option maxRecDepth 100000 in
theorem am_kt104 : ∀ q ∈ am_t104, decode cX10_feed q.1 = .ok q.2 := by decide +kernel
def am_t105 : List (Nat × Instr × Nat) := [(0, .iload_n 3, 1), (1, .iconst 1, 1), (2, .isub, 1), (3, .istore 4, 2), (5, .iload 4, 2), (7, .ifCond .lt 40, 3), (10, .aload_n 0, 1), (11, .getfield 9, 3), (14, .aload_n 0, 1), (15, .getfield 15, 3), (18, .lload_n 1, 1), (19, .bipush 8, 2), (21, .iload 4, 2), (23, .imul, 1), (24, .lshr, 1), (25, .ldc2_w 22, 3), (28, .land, 1), (29, .l2i, 1), (30, .iastore, 1), (31, .aload_n 0, 1), (32, .dup, 1), (33, .getfield 15, 3), (36, .iconst 1, 1), (37, .iadd, 1), (38, .putfield 15, 3), (41, .iinc 4 (-1), 3), (44, .goto (-39), 3), (47, .aload_n 0, 1), (48, .getfield 15, 3), (51, .ireturn, 1)]
set_option maxRecDepth 100000 in
theorem am_kt105 : ∀ q ∈ am_t105, decode cX9_append q.1 = .ok q.2 := by decide +kernel
def am_t106 : List (Nat × Instr × Nat) := [(0, .aload_n 0, 1), (1, .getfield 86, 3), (4, .getfield 292, 3), (7, .bipush 8, 2), (9, .if_icmp .lt 6, 3), (12, .bipush (-4), 2), (14, .ireturn, 1), (15, .aload_n 0, 1), (16, .getfield 86, 3), (19, .aload_n 0, 1), (20, .getfield 79, 3), (23, .invokevirtual 293, 3), (26, .istore_n 1, 1), (27, .aload_n 0, 1), (28, .getfield 79, 3), (31, .getfield 297, 3), (34, .istore_n 2, 1), (35, .aload_n 0, 1), (36, .getfield 79, 3), (39, .invokevirtual 300, 3), (42, .iload_n 1, 1), (43, .ifCond .eq 13, 3), (46, .aload_n 0, 1), (47, .getfield 86, 3), (50, .invokevirtual 303, 3), (53, .goto 7, 3), (56, .bipush (-10), 2), (58, .iload_n 2, 1), (59, .isub, 1), (60, .ireturn, 1)]
set_option maxRecDepth 100000 in
theorem am_kt106 : ∀ q ∈ am_t106, decode cX10_prize q.1 = .ok q.2 := by decide +kernel
def am_t107 : List (Nat × Instr × Nat) := [(0, .aload_n 0, 1), (1, .getfield 15, 3), (4, .aload_n 0, 1), (5, .getfield 34, 3), (8, .iconst 0, 1), (9, .iastore, 1), (10, .aload_n 1, 1), (11, .ldc 38, 2), (13, .invokevirtual 40, 3), (16, .ifCond .ne 5, 3), (19, .iconst 0, 1), (20, .ireturn, 1), (21, .aload_n 0, 1), (22, .getfield 9, 3), (25, .aload_n 0, 1), (26, .getfield 34, 3), (29, .aload_n 1, 1), (30, .invokevirtual 46, 3), (33, .iastore, 1), (34, .aload_n 0, 1), (35, .getfield 9, 3), (38, .aload_n 0, 1), (39, .getfield 34, 3), (42, .iaload, 1), (43, .ifCond .ge 5, 3), (46, .iconst 0, 1), (47, .ireturn, 1), (48, .aload_n 1, 1), (49, .invokevirtual 50, 3), (52, .ifCond .eq 5, 3), (55, .iconst 1, 1), (56, .ireturn, 1), (57, .aload_n 1, 1), (58, .ldc 54, 2), (60, .invokevirtual 40, 3), (63, .ifCond .ne 5, 3), (66, .iconst 0, 1), (67, .ireturn, 1), (68, .iconst 0, 1), (69, .istore_n 2, 1), (70, .iload_n 2, 1), (71, .iconst 3, 1), (72, .if_icmp .ge 65, 3), (75, .aload_n 0, 1), (76, .aload_n 1, 1), (77, .aload_n 0, 1), (78, .getfield 34, 3), (81, .iconst 3, 1), (82, .imul, 1), (83, .iload_n 2, 1), (84, .iadd, 1), (85, .invokevirtual 56, 3), (88, .ifCond .ne 5, 3), (91, .iconst 0, 1), (92, .ireturn, 1), (93, .aload_n 0, 1), (94, .getfield 15, 3), (97, .aload_n 0, 1), (98, .getfield 34, 3), (101, .dup2, 1), (102, .iaload, 1), (103, .iconst 1, 1), (104, .iadd, 1), (105, .iastore, 1), (106, .aload_n 1, 1), (107, .invokevirtual 50, 3), (110, .ifCond .eq 5, 3), (113, .iconst 1, 1), (114, .ireturn, 1), (115, .iload_n 2, 1), (116, .iconst 2, 1), (117, .if_icmp .eq 12, 3), (120, .aload_n 1, 1), (121, .bipush 38, 2), (123, .invokevirtual 60, 3), (126, .ifCond .ne 5, 3), (129, .iconst 0, 1), (130, .ireturn, 1), (131, .iinc 2 1, 3), (134, .goto (-64), 3), (137, .iconst 0, 1), (138, .ireturn, 1)]
set_option maxRecDepth 100000 in
theorem am_kt107_0 : ∀ q ∈ (am_t107.drop 0).take 40, decode cX6_readFrom q.1 = .ok q.2 := by decide +kernel
set_option maxRecDepth 100000 in
theorem am_kt107_1 : ∀ q ∈ (am_t107.drop 40).take 40, decode cX6_readFrom q.1 = .ok q.2 := by decide +kernel
set_option maxRecDepth 100000 in
theorem am_kt107_2 : ∀ q ∈ (am_t107.drop 80).take 40, decode cX6_readFrom q.1 = .ok q.2 := by decide +kernel
set_option maxRecDepth 100000 in
theorem am_kt107 : ∀ q ∈ am_t107, decode cX6_readFrom q.1 = .ok q.2 := by
  intro q hq
  rw [← List.take_append_drop 40 (am_t107)] at hq
  rcases List.mem_append.mp hq with hq | hq
  · exact am_kt107_0 q hq
  rw [← List.take_append_drop 40 ((am_t107.drop 40))] at hq
  rcases List.mem_append.mp hq with hq | hq
  · exact am_kt107_1 q hq
  rw [List.drop_drop] at hq
  exact am_kt107_2 q (by rw [List.take_of_length_le (by decide)]; exact hq)
def am_t108 : List (Nat × Instr × Nat) := [(0, .iconst 0, 1), (1, .istore_n 2, 1), (2, .iload_n 2, 1), (3, .aload_n 1, 1), (4, .invokevirtual 28, 3), (7, .if_icmp .ge 23, 3), (10, .aload_n 0, 1), (11, .aload_n 1, 1), (12, .iload_n 2, 1), (13, .invokevirtual 34, 3), (16, .invokevirtual 38, 3), (19, .ifCond .ne 5, 3), (22, .iconst 0, 1), (23, .ireturn, 1), (24, .iinc 2 1, 3), (27, .goto (-25), 3), (30, .iconst 1, 1), (31, .ireturn, 1)]
set_option maxRecDepth 100000 in
theorem am_kt108 : ∀ q ∈ am_t108, decode cX9_takeWord q.1 = .ok q.2 := by decide +kernel
def am_t109 : List (Nat × Instr × Nat) := [(0, .aload_n 0, 1), (1, .getfield 9, 3), (4, .arraylength, 1), (5, .aload_n 0, 1), (6, .invokevirtual 335, 3), (9, .ishr, 1), (10, .ireturn, 1)]
set_option maxRecDepth 100000 in
theorem am_kt109 : ∀ q ∈ am_t109, decode cJ0_length_8abf5 q.1 = .ok q.2 := by decide +kernel
def am_t110 : List (Nat × Instr × Nat) := [(0, .getstatic 38, 3), (3, .ifCond .eq 10, 3), (6, .aload_n 0, 1), (7, .getfield 15, 3), (10, .goto 4, 3), (13, .iconst 1, 1), (14, .ireturn, 1)]
set_option maxRecDepth 100000 in
theorem am_kt110 : ∀ q ∈ am_t110, decode cJ0_coder_7d493 q.1 = .ok q.2 := by decide +kernel
def am_t111 : List (Nat × Instr × Nat) := [(0, .aload_n 0, 1), (1, .invokevirtual 492, 3), (4, .ifCond .eq 12, 3), (7, .aload_n 0, 1), (8, .getfield 9, 3), (11, .iload_n 1, 1), (12, .invokestatic 495, 3), (15, .ireturn, 1), (16, .aload_n 0, 1), (17, .getfield 9, 3), (20, .iload_n 1, 1), (21, .invokestatic 498, 3), (24, .ireturn, 1)]
set_option maxRecDepth 100000 in
theorem am_kt111 : ∀ q ∈ am_t111, decode cJ0_charAt_5068e q.1 = .ok q.2 := by decide +kernel
def am_t112 : List (Nat × Instr × Nat) := [(0, .getstatic 38, 3), (3, .ifCond .eq 14, 3), (6, .aload_n 0, 1), (7, .getfield 15, 3), (10, .ifCond .ne 7, 3), (13, .iconst 1, 1), (14, .goto 4, 3), (17, .iconst 0, 1), (18, .ireturn, 1)]
set_option maxRecDepth 100000 in
theorem am_kt112 : ∀ q ∈ am_t112, decode cJ0_isLatin1_aae02 q.1 = .ok q.2 := by decide +kernel
def am_t113 : List (Nat × Instr × Nat) := [(0, .iload_n 1, 1), (1, .aload_n 0, 1), (2, .arraylength, 1), (3, .invokestatic 9, 3), (6, .aload_n 0, 1), (7, .iload_n 1, 1), (8, .baload, 1), (9, .sipush 255, 3), (12, .iand, 1), (13, .i2c, 1), (14, .ireturn, 1)]
set_option maxRecDepth 100000 in
theorem am_kt113 : ∀ q ∈ am_t113, decode cJ1_charAt_3b067 q.1 = .ok q.2 := by decide +kernel
def am_t114 : List (Nat × Instr × Nat) := [(0, .iload_n 0, 1), (1, .iload_n 1, 1), (2, .getstatic 1053, 3), (5, .invokestatic 1059, 3), (8, .pop, 1), (9, .return_, 1)]
set_option maxRecDepth 100000 in
theorem am_kt114 : ∀ q ∈ am_t114, decode cJ0_checkIndex_df160 q.1 = .ok q.2 := by decide +kernel
def am_t115 : List (Nat × Instr × Nat) := [(0, .iload_n 0, 1), (1, .ifCond .lt 8, 3), (4, .iload_n 0, 1), (5, .iload_n 1, 1), (6, .if_icmp .lt 10, 3), (9, .aload_n 2, 1), (10, .iload_n 0, 1), (11, .iload_n 1, 1), (12, .invokestatic 95, 3), (15, .athrow, 1), (16, .iload_n 0, 1), (17, .ireturn, 1)]
set_option maxRecDepth 100000 in
theorem am_kt115 : ∀ q ∈ am_t115, decode cJ3_checkIndex_8e157 q.1 = .ok q.2 := by decide +kernel
