def am_t30 : List (Nat × Instr × Nat) := [(0, .aload_n 0, 1), (1, .getfield 11, 3), (4, .iconst 0, 1), (5, .aaload, 1), (6, .iload_n 1, 1), (7, .iaload, 1), (8, .ifCond .ne 7, 3), (11, .iconst 1, 1), (12, .goto 4, 3), (15, .iconst 0, 1), (16, .ireturn, 1)]
set_option maxRecDepth 100000 in
theorem am_kt30 : ∀ q ∈ am_t30, decode cX8_isWater q.1 = .ok q.2 := by decide +kernel
def am_t31 : List (Nat × Instr × Nat) := [(0, .iconst 0, 1), (1, .istore 4, 2), (3, .iload 4, 2), (5, .aload_n 0, 1), (6, .getfield 33, 3), (9, .if_icmp .ge 54, 3), (12, .aload_n 0, 1), (13, .getfield 27, 3), (16, .iload 4, 2), (18, .iaload, 1), (19, .iload_n 1, 1), (20, .if_icmp .ne 37, 3), (23, .iload_n 2, 1), (24, .aload_n 0, 1), (25, .getfield 15, 3), (28, .iload 4, 2), (30, .iaload, 1), (31, .aload_n 0, 1), (32, .getfield 18, 3), (35, .iload 4, 2), (37, .iaload, 1), (38, .iadd, 1), (39, .if_icmp .ge 18, 3), (42, .aload_n 0, 1), (43, .getfield 15, 3), (46, .iload 4, 2), (48, .iaload, 1), (49, .iload_n 2, 1), (50, .iload_n 3, 1), (51, .iadd, 1), (52, .if_icmp .ge 5, 3), (55, .iconst 1, 1), (56, .ireturn, 1), (57, .iinc 4 1, 3), (60, .goto (-57), 3), (63, .iconst 0, 1), (64, .ireturn, 1)]
set_option maxRecDepth 100000 in
theorem am_kt31 : ∀ q ∈ am_t31, decode cX0_hasNumbers q.1 = .ok q.2 := by decide +kernel
def am_t32 : List (Nat × Instr × Nat) := [(0, .aload_n 0, 1), (1, .getfield 9, 3), (4, .aload_n 0, 1), (5, .getfield 33, 3), (8, .iload_n 1, 1), (9, .iastore, 1), (10, .aload_n 0, 1), (11, .getfield 15, 3), (14, .aload_n 0, 1), (15, .getfield 33, 3), (18, .iload_n 2, 1), (19, .iastore, 1), (20, .aload_n 0, 1), (21, .getfield 18, 3), (24, .aload_n 0, 1), (25, .getfield 33, 3), (28, .iload_n 3, 1), (29, .iastore, 1), (30, .aload_n 0, 1), (31, .getfield 21, 3), (34, .aload_n 0, 1), (35, .getfield 33, 3), (38, .iload 4, 2), (40, .iastore, 1), (41, .aload_n 0, 1), (42, .getfield 24, 3), (45, .aload_n 0, 1), (46, .getfield 33, 3), (49, .iload 5, 2), (51, .iastore, 1), (52, .aload_n 0, 1), (53, .getfield 27, 3), (56, .aload_n 0, 1), (57, .getfield 33, 3), (60, .iload 6, 2), (62, .iastore, 1), (63, .aload_n 0, 1), (64, .getfield 30, 3), (67, .aload_n 0, 1), (68, .getfield 33, 3), (71, .iload 7, 2), (73, .iastore, 1), (74, .aload_n 0, 1), (75, .dup, 1), (76, .getfield 33, 3), (79, .dup_x1, 1), (80, .iconst 1, 1), (81, .iadd, 1), (82, .putfield 33, 3), (85, .ireturn, 1)]
set_option maxRecDepth 100000 in
theorem am_kt32_0 : ∀ q ∈ (am_t32.drop 0).take 40, decode cX0_add q.1 = .ok q.2 := by decide +kernel
set_option maxRecDepth 100000 in
theorem am_kt32_1 : ∀ q ∈ (am_t32.drop 40).take 40, decode cX0_add q.1 = .ok q.2 := by decide +kernel
set_option maxRecDepth 100000 in
theorem am_kt32 : ∀ q ∈ am_t32, decode cX0_add q.1 = .ok q.2 := by
  intro q hq
  rw [← List.take_append_drop 40 (am_t32)] at hq
  rcases List.mem_append.mp hq with hq | hq
  · exact am_kt32_0 q hq
  exact am_kt32_1 q (by rw [List.take_of_length_le (by decide)]; exact hq)
def am_t33 : List (Nat × Instr × Nat) := [(0, .iconst 0, 1), (1, .istore_n 2, 1), (2, .iload_n 2, 1), (3, .aload_n 0, 1), (4, .getfield 24, 3), (7, .getfield 32, 3), (10, .if_icmp .ge 23, 3), (13, .aload_n 0, 1), (14, .getfield 11, 3), (17, .iload_n 2, 1), (18, .aaload, 1), (19, .iload_n 1, 1), (20, .aload_n 0, 1), (21, .iload_n 2, 1), (22, .iload_n 1, 1), (23, .invokevirtual 38, 3), (26, .iastore, 1), (27, .iinc 2 1, 3), (30, .goto (-28), 3), (33, .return_, 1)]
set_option maxRecDepth 100000 in
theorem am_kt33 : ∀ q ∈ am_t33, decode cX7_matchCast q.1 = .ok q.2 := by decide +kernel
def am_t34 : List (Nat × Instr × Nat) := [(0, .aload_n 0, 1), (1, .getfield 24, 3), (4, .getfield 45, 3), (7, .iload_n 1, 1), (8, .iaload, 1), (9, .aload_n 0, 1), (10, .getfield 16, 3), (13, .getfield 49, 3), (16, .iload_n 2, 1), (17, .iaload, 1), (18, .if_icmp .eq 5, 3), (21, .iconst 0, 1), (22, .ireturn, 1), (23, .iconst 0, 1), (24, .istore_n 3, 1), (25, .iconst 0, 1), (26, .istore 4, 2), (28, .iload 4, 2), (30, .aload_n 0, 1), (31, .getfield 16, 3), (34, .getfield 50, 3), (37, .iload_n 2, 1), (38, .iaload, 1), (39, .if_icmp .ge 39, 3), (42, .aload_n 0, 1), (43, .getfield 24, 3), (46, .getfield 53, 3), (49, .iload_n 1, 1), (50, .iaload, 1), (51, .aload_n 0, 1), (52, .getfield 16, 3), (55, .getfield 56, 3), (58, .iload_n 2, 1), (59, .iaload, 1), (60, .iload 4, 2), (62, .iadd, 1), (63, .invokestatic 59, 3), (66, .ifCond .eq 6, 3), (69, .iinc 3 1, 3), (72, .iinc 4 1, 3), (75, .goto (-47), 3), (78, .iload_n 3, 1), (79, .ireturn, 1)]
set_option maxRecDepth 100000 in
theorem am_kt34_0 : ∀ q ∈ (am_t34.drop 0).take 40, decode cX7_countCards q.1 = .ok q.2 := by decide +kernel
set_option maxRecDepth 100000 in
theorem am_kt34_1 : ∀ q ∈ (am_t34.drop 40).take 40, decode cX7_countCards q.1 = .ok q.2 := by decide +kernel
set_option maxRecDepth 100000 in
theorem am_kt34 : ∀ q ∈ am_t34, decode cX7_countCards q.1 = .ok q.2 := by
  intro q hq
  rw [← List.take_append_drop 40 (am_t34)] at hq
  rcases List.mem_append.mp hq with hq | hq
  · exact am_kt34_0 q hq
  exact am_kt34_1 q (by rw [List.take_of_length_le (by decide)]; exact hq)
def am_t35 : List (Nat × Instr × Nat) := [(0, .iload_n 1, 1), (1, .istore_n 2, 1), (2, .iconst 0, 1), (3, .istore_n 3, 1), (4, .iload_n 3, 1), (5, .iconst 4, 1), (6, .if_icmp .ge 39, 3), (9, .iload_n 0, 1), (10, .iload_n 3, 1), (11, .invokestatic 63, 3), (14, .istore 4, 2), (16, .iload 4, 2), (18, .bipush 10, 2), (20, .if_icmp .eq 14, 3), (23, .iload 4, 2), (25, .iload_n 2, 1), (26, .bipush 10, 2), (28, .irem, 1), (29, .if_icmp .eq 5, 3), (32, .iconst 0, 1), (33, .ireturn, 1), (34, .iload_n 2, 1), (35, .bipush 10, 2), (37, .idiv, 1), (38, .istore_n 2, 1), (39, .iinc 3 1, 3), (42, .goto (-38), 3), (45, .iconst 1, 1), (46, .ireturn, 1)]
set_option maxRecDepth 100000 in
theorem am_kt35 : ∀ q ∈ am_t35, decode cX7_agrees q.1 = .ok q.2 := by decide +kernel
def am_t36 : List (Nat × Instr × Nat) := [(0, .iload_n 0, 1), (1, .iconst 4, 1), (2, .iload_n 1, 1), (3, .imul, 1), (4, .ishr, 1), (5, .bipush 15, 2), (7, .iand, 1), (8, .ireturn, 1)]
set_option maxRecDepth 100000 in
theorem am_kt36 : ∀ q ∈ am_t36, decode cX10_digitOf q.1 = .ok q.2 := by decide +kernel
def am_t37 : List (Nat × Instr × Nat) := [(0, .iload_n 1, 1), (1, .aload_n 0, 1), (2, .getfield 19, 3), (5, .getfield 109, 3), (8, .invokestatic 98, 3), (11, .ifCond .ne 5, 3), (14, .iconst (-1), 1), (15, .ireturn, 1), (16, .iload_n 2, 1), (17, .tableswitch 99 0 5 #[39, 49, 59, 69, 79, 89], 39), (56, .aload_n 0, 1), (57, .getfield 19, 3), (60, .getfield 165, 3), (63, .iload_n 1, 1), (64, .iaload, 1), (65, .ireturn, 1), (66, .aload_n 0, 1), (67, .getfield 19, 3), (70, .getfield 168, 3), (73, .iload_n 1, 1), (74, .iaload, 1), (75, .ireturn, 1), (76, .aload_n 0, 1), (77, .getfield 19, 3), (80, .getfield 171, 3), (83, .iload_n 1, 1), (84, .iaload, 1), (85, .ireturn, 1), (86, .aload_n 0, 1), (87, .getfield 19, 3), (90, .getfield 174, 3), (93, .iload_n 1, 1), (94, .iaload, 1), (95, .ireturn, 1), (96, .aload_n 0, 1), (97, .getfield 19, 3), (100, .getfield 177, 3), (103, .iload_n 1, 1), (104, .iaload, 1), (105, .ireturn, 1), (106, .aload_n 0, 1), (107, .getfield 19, 3), (110, .getfield 180, 3), (113, .iload_n 1, 1), (114, .iaload, 1), (115, .ireturn, 1), (116, .iconst (-1), 1), (117, .ireturn, 1)]
set_option maxRecDepth 100000 in
theorem am_kt37_0 : ∀ q ∈ (am_t37.drop 0).take 40, decode cX10_about q.1 = .ok q.2 := by decide +kernel
set_option maxRecDepth 100000 in
theorem am_kt37_1 : ∀ q ∈ (am_t37.drop 40).take 40, decode cX10_about q.1 = .ok q.2 := by decide +kernel
set_option maxRecDepth 100000 in
theorem am_kt37 : ∀ q ∈ am_t37, decode cX10_about q.1 = .ok q.2 := by
  intro q hq
  rw [← List.take_append_drop 40 (am_t37)] at hq
  rcases List.mem_append.mp hq with hq | hq
  · exact am_kt37_0 q hq
  exact am_kt37_1 q (by rw [List.take_of_length_le (by decide)]; exact hq)
def am_t38 : List (Nat × Instr × Nat) := [(0, .iload_n 1, 1), (1, .aload_n 0, 1), (2, .getfield 19, 3), (5, .getfield 109, 3), (8, .invokestatic 98, 3), (11, .ifCond .eq 12, 3), (14, .iload_n 3, 1), (15, .iconst 0, 1), (16, .iconst 5, 1), (17, .invokestatic 105, 3), (20, .ifCond .ne 5, 3), (23, .iconst (-1), 1), (24, .ireturn, 1), (25, .iload_n 2, 1), (26, .iconst 0, 1), (27, .bipush 12, 2), (29, .invokestatic 105, 3), (32, .ifCond .ne 6, 3), (35, .bipush (-2), 2), (37, .ireturn, 1), (38, .aload_n 0, 1), (39, .getfield 42, 3), (42, .aload_n 0, 1), (43, .getfield 19, 3), (46, .iload_n 1, 1), (47, .aload_n 0, 1), (48, .getfield 12, 3), (51, .getfield 183, 3), (54, .invokevirtual 186, 3), (57, .aload_n 0, 1), (58, .getfield 42, 3), (61, .iload_n 2, 1), (62, .invokevirtual 190, 3), (65, .aload_n 0, 1), (66, .getfield 42, 3), (69, .iload_n 3, 1), (70, .invokevirtual 193, 3), (73, .ireturn, 1)]
set_option maxRecDepth 100000 in
theorem am_kt38 : ∀ q ∈ am_t38, decode cX10_parts q.1 = .ok q.2 := by decide +kernel
def am_t39 : List (Nat × Instr × Nat) := [(0, .aload_n 0, 1), (1, .aload_n 1, 1), (2, .getfield 31, 3), (5, .iload_n 2, 1), (6, .iaload, 1), (7, .aload_n 1, 1), (8, .getfield 36, 3), (11, .iload_n 2, 1), (12, .iaload, 1), (13, .aload_n 1, 1), (14, .getfield 39, 3), (17, .iload_n 2, 1), (18, .iaload, 1), (19, .aload_n 1, 1), (20, .getfield 42, 3), (23, .iload_n 2, 1), (24, .iaload, 1), (25, .aload_n 3, 1), (26, .invokevirtual 45, 3), (29, .return_, 1)]
set_option maxRecDepth 100000 in
theorem am_kt39 : ∀ q ∈ am_t39, decode cX1_startCast q.1 = .ok q.2 := by decide +kernel
def am_t40 : List (Nat × Instr × Nat) := [(0, .aload_n 0, 1), (1, .getfield 9, 3), (4, .iconst 0, 1), (5, .invokestatic 49, 3), (8, .aload_n 0, 1), (9, .getfield 18, 3), (12, .iconst 0, 1), (13, .invokestatic 49, 3), (16, .aload_n 0, 1), (17, .getfield 21, 3), (20, .iconst 0, 1), (21, .invokestatic 49, 3), (24, .aload 5, 2), (26, .iconst 0, 1), (27, .aload_n 0, 1), (28, .getfield 24, 3), (31, .iconst 0, 1), (32, .iconst 3, 1), (33, .invokestatic 55, 3), (36, .aload_n 0, 1), (37, .getfield 9, 3), (40, .iload_n 3, 1), (41, .ldc 61, 2), (43, .iastore, 1), (44, .aload_n 0, 1), (45, .iload_n 1, 1), (46, .putfield 62, 3), (49, .aload_n 0, 1), (50, .iload_n 2, 1), (51, .putfield 65, 3), (54, .aload_n 0, 1), (55, .iload 4, 2), (57, .putfield 68, 3), (60, .aload_n 0, 1), (61, .iconst 0, 1), (62, .putfield 70, 3), (65, .aload_n 0, 1), (66, .iconst 0, 1), (67, .putfield 73, 3), (70, .aload_n 0, 1), (71, .iconst 0, 1), (72, .putfield 76, 3), (75, .aload_n 0, 1), (76, .iconst 0, 1), (77, .putfield 79, 3), (80, .return_, 1)]
set_option maxRecDepth 100000 in
theorem am_kt40_0 : ∀ q ∈ (am_t40.drop 0).take 40, decode cX1_start q.1 = .ok q.2 := by decide +kernel
set_option maxRecDepth 100000 in
theorem am_kt40_1 : ∀ q ∈ (am_t40.drop 40).take 40, decode cX1_start q.1 = .ok q.2 := by decide +kernel
set_option maxRecDepth 100000 in
theorem am_kt40 : ∀ q ∈ am_t40, decode cX1_start q.1 = .ok q.2 := by
  intro q hq
  rw [← List.take_append_drop 40 (am_t40)] at hq
  rcases List.mem_append.mp hq with hq | hq
  · exact am_kt40_0 q hq
  exact am_kt40_1 q (by rw [List.take_of_length_le (by decide)]; exact hq)
def am_t41 : List (Nat × Instr × Nat) := [(0, .iconst 0, 1), (1, .istore_n 2, 1), (2, .aload_n 0, 1), (3, .arraylength, 1), (4, .istore_n 3, 1), (5, .iload_n 2, 1), (6, .iload_n 3, 1), (7, .if_icmp .ge 13, 3), (10, .aload_n 0, 1), (11, .iload_n 2, 1), (12, .iload_n 1, 1), (13, .iastore, 1), (14, .iinc 2 1, 3), (17, .goto (-12), 3), (20, .return_, 1)]
set_option maxRecDepth 100000 in
theorem am_kt41 : ∀ q ∈ am_t41, decode cJ7_fill_53178 q.1 = .ok q.2 := by decide +kernel
def am_t42 : List (Nat × Instr × Nat) := [(0, .iconst 0, 1), (1, .istore_n 2, 1), (2, .iload_n 2, 1), (3, .iload_n 1, 1), (4, .if_icmp .ge 68, 3), (7, .aload_n 0, 1), (8, .getfield 70, 3), (11, .bipush 12, 2), (13, .if_icmp .ge 59, 3), (16, .aload_n 0, 1), (17, .getfield 62, 3), (20, .iconst 2, 1), (21, .if_icmp .ne 18, 3), (24, .aload_n 0, 1), (25, .getfield 70, 3), (28, .aload_n 0, 1), (29, .getfield 68, 3), (32, .if_icmp .lt 7, 3), (35, .aload_n 0, 1), (36, .invokevirtual 82, 3), (39, .aload_n 0, 1), (40, .aload_n 0, 1), (41, .getfield 65, 3), (44, .aload_n 0, 1), (45, .getfield 70, 3), (48, .iadd, 1), (49, .invokevirtual 85, 3), (52, .aload_n 0, 1), (53, .invokevirtual 89, 3), (56, .aload_n 0, 1), (57, .dup, 1), (58, .getfield 70, 3), (61, .iconst 1, 1), (62, .iadd, 1), (63, .putfield 70, 3), (66, .iinc 2 1, 3), (69, .goto (-67), 3), (72, .return_, 1)]
set_option maxRecDepth 100000 in
theorem am_kt42 : ∀ q ∈ am_t42, decode cX1_goOn q.1 = .ok q.2 := by decide +kernel
def am_t43 : List (Nat × Instr × Nat) := [(0, .aload_n 0, 1), (1, .dup, 1), (2, .getfield 79, 3), (5, .aload_n 0, 1), (6, .getfield 9, 3), (9, .invokestatic 92, 3), (12, .iadd, 1), (13, .putfield 79, 3), (16, .aload_n 0, 1), (17, .getfield 9, 3), (20, .iconst 0, 1), (21, .invokestatic 49, 3), (24, .return_, 1)]
set_option maxRecDepth 100000 in
theorem am_kt43 : ∀ q ∈ am_t43, decode cX1_sinkAll q.1 = .ok q.2 := by decide +kernel
def am_t44 : List (Nat × Instr × Nat) := [(0, .iconst 0, 1), (1, .istore_n 1, 1), (2, .aload_n 0, 1), (3, .astore_n 2, 1), (4, .aload_n 2, 1), (5, .arraylength, 1), (6, .istore_n 3, 1), (7, .iconst 0, 1), (8, .istore 4, 2), (10, .iload 4, 2), (12, .iload_n 3, 1), (13, .if_icmp .ge 20, 3), (16, .aload_n 2, 1), (17, .iload 4, 2), (19, .iaload, 1), (20, .istore 5, 2), (22, .iload_n 1, 1), (23, .iload 5, 2), (25, .iadd, 1), (26, .istore_n 1, 1), (27, .iinc 4 1, 3), (30, .goto (-20), 3), (33, .iload_n 1, 1), (34, .ireturn, 1)]
set_option maxRecDepth 100000 in
theorem am_kt44 : ∀ q ∈ am_t44, decode cX1_sumOf q.1 = .ok q.2 := by decide +kernel
def am_t45 : List (Nat × Instr × Nat) := [(0, .aload_n 0, 1), (1, .aload_n 0, 1), (2, .aload_n 0, 1), (3, .getfield 27, 3), (6, .iload_n 1, 1), (7, .invokevirtual 96, 3), (10, .invokevirtual 102, 3), (13, .putfield 105, 3), (16, .aload_n 0, 1), (17, .aload_n 0, 1), (18, .aload_n 0, 1), (19, .getfield 27, 3), (22, .iload_n 1, 1), (23, .invokevirtual 108, 3), (26, .invokevirtual 102, 3), (29, .putfield 111, 3), (32, .aload_n 0, 1), (33, .getfield 15, 3), (36, .iconst 0, 1), (37, .invokestatic 49, 3), (40, .iconst 0, 1), (41, .istore_n 2, 1), (42, .iload_n 2, 1), (43, .bipush 60, 2), (45, .if_icmp .ge 57, 3), (48, .aload_n 0, 1), (49, .getfield 9, 3), (52, .iload_n 2, 1), (53, .iaload, 1), (54, .ifCond .ne 6, 3), (57, .goto 39, 3), (60, .aload_n 0, 1), (61, .getfield 27, 3), (64, .iload_n 2, 1), (65, .iload_n 1, 1), (66, .invokevirtual 114, 3), (69, .ifCond .eq 21, 3), (72, .aload_n 0, 1), (73, .getfield 15, 3), (76, .iload_n 2, 1), (77, .dup2, 1), (78, .iaload, 1), (79, .aload_n 0, 1), (80, .getfield 9, 3), (83, .iload_n 2, 1), (84, .iaload, 1), (85, .iadd, 1), (86, .iastore, 1), (87, .goto 9, 3), (90, .aload_n 0, 1), (91, .iload_n 2, 1), (92, .iload_n 1, 1), (93, .invokevirtual 118, 3), (96, .iinc 2 1, 3), (99, .goto (-57), 3), (102, .aload_n 0, 1), (103, .getfield 15, 3), (106, .iconst 0, 1), (107, .aload_n 0, 1), (108, .getfield 9, 3), (111, .iconst 0, 1), (112, .bipush 60, 2), (114, .invokestatic 55, 3), (117, .return_, 1)]
set_option maxRecDepth 100000 in
theorem am_kt45_0 : ∀ q ∈ (am_t45.drop 0).take 40, decode cX1_goInWater q.1 = .ok q.2 := by decide +kernel
set_option maxRecDepth 100000 in
theorem am_kt45_1 : ∀ q ∈ (am_t45.drop 40).take 40, decode cX1_goInWater q.1 = .ok q.2 := by decide +kernel
set_option maxRecDepth 100000 in
theorem am_kt45 : ∀ q ∈ am_t45, decode cX1_goInWater q.1 = .ok q.2 := by
  intro q hq
  rw [← List.take_append_drop 40 (am_t45)] at hq
  rcases List.mem_append.mp hq with hq | hq
  · exact am_kt45_0 q hq
  exact am_kt45_1 q (by rw [List.take_of_length_le (by decide)]; exact hq)
def am_t46 : List (Nat × Instr × Nat) := [(0, .aload_n 0, 1), (1, .getfield 35, 3), (4, .iload_n 1, 1), (5, .bipush 48, 2), (7, .irem, 1), (8, .baload, 1), (9, .ifCond .eq 15, 3), (12, .aload_n 0, 1), (13, .getfield 39, 3), (16, .iload_n 1, 1), (17, .bipush 48, 2), (19, .irem, 1), (20, .iaload, 1), (21, .goto 12, 3), (24, .aload_n 0, 1), (25, .getfield 29, 3), (28, .iload_n 1, 1), (29, .bipush 12, 2), (31, .irem, 1), (32, .iaload, 1), (33, .ireturn, 1)]
set_option maxRecDepth 100000 in
theorem am_kt46 : ∀ q ∈ am_t46, decode cX8_eastWindIn q.1 = .ok q.2 := by decide +kernel
def am_t47 : List (Nat × Instr × Nat) := [(0, .aload_n 0, 1), (1, .getfield 62, 3), (4, .tableswitch 38 1 3 #[28, 30, 34], 28), (32, .iload_n 1, 1), (33, .ireturn, 1), (34, .iload_n 1, 1), (35, .iconst 2, 1), (36, .idiv, 1), (37, .ireturn, 1), (38, .iconst 2, 1), (39, .iload_n 1, 1), (40, .imul, 1), (41, .ireturn, 1), (42, .iconst 0, 1), (43, .ireturn, 1)]
set_option maxRecDepth 100000 in
theorem am_kt47 : ∀ q ∈ am_t47, decode cX1_asItFloats q.1 = .ok q.2 := by decide +kernel
def am_t48 : List (Nat × Instr × Nat) := [(0, .aload_n 0, 1), (1, .getfield 35, 3), (4, .iload_n 1, 1), (5, .bipush 48, 2), (7, .irem, 1), (8, .baload, 1), (9, .ifCond .eq 15, 3), (12, .aload_n 0, 1), (13, .getfield 42, 3), (16, .iload_n 1, 1), (17, .bipush 48, 2), (19, .irem, 1), (20, .iaload, 1), (21, .goto 12, 3), (24, .aload_n 0, 1), (25, .getfield 32, 3), (28, .iload_n 1, 1), (29, .bipush 12, 2), (31, .irem, 1), (32, .iaload, 1), (33, .ireturn, 1)]
set_option maxRecDepth 100000 in
theorem am_kt48 : ∀ q ∈ am_t48, decode cX8_northWindIn q.1 = .ok q.2 := by decide +kernel
def am_t49 : List (Nat × Instr × Nat) := [(0, .aload_n 0, 1), (1, .getfield 11, 3), (4, .iconst 4, 1), (5, .aaload, 1), (6, .iload_n 1, 1), (7, .iaload, 1), (8, .iload_n 2, 1), (9, .bipush 12, 2), (11, .irem, 1), (12, .ishr, 1), (13, .iconst 1, 1), (14, .iand, 1), (15, .iconst 1, 1), (16, .if_icmp .ne 7, 3), (19, .iconst 1, 1), (20, .goto 4, 3), (23, .iconst 0, 1), (24, .ireturn, 1)]
set_option maxRecDepth 100000 in
theorem am_kt49 : ∀ q ∈ am_t49, decode cX8_isIcy q.1 = .ok q.2 := by decide +kernel
def am_t50 : List (Nat × Instr × Nat) := [(0, .aload_n 0, 1), (1, .getfield 27, 3), (4, .getfield 122, 3), (7, .iconst 1, 1), (8, .aaload, 1), (9, .iload_n 1, 1), (10, .iaload, 1), (11, .istore_n 3, 1), (12, .iload_n 3, 1), (13, .bipush 12, 2), (15, .imul, 1), (16, .iload_n 2, 1), (17, .bipush 12, 2), (19, .irem, 1), (20, .iadd, 1), (21, .istore 4, 2), (23, .aload_n 0, 1), (24, .getfield 105, 3), (27, .aload_n 0, 1), (28, .getfield 24, 3), (31, .iload_n 3, 1), (32, .iaload, 1), (33, .iadd, 1), (34, .istore 5, 2), (36, .aload_n 0, 1), (37, .getfield 9, 3), (40, .iload_n 1, 1), (41, .iaload, 1), (42, .iconst 4, 1), (43, .idiv, 1), (44, .istore 6, 2), (46, .aload_n 0, 1), (47, .getfield 9, 3), (50, .iload_n 1, 1), (51, .iaload, 1), (52, .iconst 2, 1), (53, .iload 6, 2), (55, .imul, 1), (56, .isub, 1), (57, .istore 7, 2), (59, .aload_n 0, 1), (60, .iload_n 1, 1), (61, .aload_n 0, 1), (62, .getfield 27, 3), (65, .getfield 126, 3), (68, .iload 4, 2), (70, .iaload, 1), (71, .iload 5, 2), (73, .iadd, 1), (74, .aload_n 0, 1), (75, .getfield 27, 3), (78, .getfield 129, 3), (81, .iload 4, 2), (83, .iaload, 1), (84, .aload_n 0, 1), (85, .getfield 111, 3), (88, .iadd, 1), (89, .iload 6, 2), (91, .invokevirtual 132, 3), (94, .aload_n 0, 1), (95, .iload_n 1, 1), (96, .aload_n 0, 1), (97, .getfield 27, 3), (100, .getfield 136, 3), (103, .iload 4, 2), (105, .iaload, 1), (106, .iload 5, 2), (108, .iadd, 1), (109, .aload_n 0, 1), (110, .getfield 27, 3), (113, .getfield 139, 3), (116, .iload 4, 2), (118, .iaload, 1), (119, .aload_n 0, 1), (120, .getfield 111, 3), (123, .iadd, 1), (124, .iload 6, 2), (126, .invokevirtual 132, 3), (129, .aload_n 0, 1), (130, .iload_n 1, 1), (131, .aload_n 0, 1), (132, .getfield 27, 3), (135, .getfield 126, 3), (138, .iload 4, 2), (140, .iaload, 1), (141, .aload_n 0, 1), (142, .getfield 27, 3), (145, .getfield 136, 3), (148, .iload 4, 2), (150, .iaload, 1), (151, .iadd, 1), (152, .iconst 2, 1), (153, .idiv, 1), (154, .iload 5, 2), (156, .iadd, 1), (157, .aload_n 0, 1), (158, .getfield 27, 3), (161, .getfield 129, 3), (164, .iload 4, 2), (166, .iaload, 1), (167, .aload_n 0, 1), (168, .getfield 27, 3), (171, .getfield 139, 3), (174, .iload 4, 2), (176, .iaload, 1), (177, .iadd, 1), (178, .iconst 2, 1), (179, .idiv, 1), (180, .aload_n 0, 1), (181, .getfield 111, 3), (184, .iadd, 1), (185, .iload 7, 2), (187, .invokevirtual 132, 3), (190, .return_, 1)]
set_option maxRecDepth 100000 in
theorem am_kt50_0 : ∀ q ∈ (am_t50.drop 0).take 40, decode cX1_goFrom q.1 = .ok q.2 := by decide +kernel
set_option maxRecDepth 100000 in
theorem am_kt50_1 : ∀ q ∈ (am_t50.drop 40).take 40, decode cX1_goFrom q.1 = .ok q.2 := by decide +kernel
set_option maxRecDepth 100000 in
theorem am_kt50_2 : ∀ q ∈ (am_t50.drop 80).take 40, decode cX1_goFrom q.1 = .ok q.2 := by decide +kernel
set_option maxRecDepth 100000 in
theorem am_kt50 : ∀ q ∈ am_t50, decode cX1_goFrom q.1 = .ok q.2 := by
  intro q hq
  rw [← List.take_append_drop 40 (am_t50)] at hq
  rcases List.mem_append.mp hq with hq | hq
  · exact am_kt50_0 q hq
  rw [← List.take_append_drop 40 ((am_t50.drop 40))] at hq
  rcases List.mem_append.mp hq with hq | hq
  · exact am_kt50_1 q hq
  rw [List.drop_drop] at hq
  exact am_kt50_2 q (by rw [List.take_of_length_le (by decide)]; exact hq)
def am_t51 : List (Nat × Instr × Nat) := [(0, .iload_n 1, 1), (1, .bipush 6, 2), (3, .idiv, 1), (4, .istore 5, 2), (6, .iload_n 1, 1), (7, .bipush 6, 2), (9, .irem, 1), (10, .istore 6, 2), (12, .iload_n 2, 1), (13, .invokestatic 142, 3), (16, .istore 7, 2), (18, .iload 7, 2), (20, .iload_n 3, 1), (21, .invokestatic 142, 3), (24, .iadd, 1), (25, .istore 8, 2), (27, .iconst 0, 1), (28, .istore 9, 2), (30, .iload 9, 2), (32, .iload 8, 2), (34, .if_icmp .ge 133, 3), (37, .iload 9, 2), (39, .iload 7, 2), (41, .if_icmp .ge 13, 3), (44, .iload 5, 2), (46, .iload_n 2, 1), (47, .invokestatic 147, 3), (50, .iadd, 1), (51, .goto 5, 3), (54, .iload 5, 2), (56, .istore 10, 2), (58, .iload 9, 2), (60, .iload 7, 2), (62, .if_icmp .ge 8, 3), (65, .iload 6, 2), (67, .goto 10, 3), (70, .iload 6, 2), (72, .iload_n 3, 1), (73, .invokestatic 147, 3), (76, .iadd, 1), (77, .istore 11, 2), (79, .iload 10, 2), (81, .iload 11, 2), (83, .invokestatic 152, 3), (86, .ifCond .ne 15, 3), (89, .aload_n 0, 1), (90, .dup, 1), (91, .getfield 76, 3), (94, .iload 4, 2), (96, .iadd, 1), (97, .putfield 76, 3), (100, .return_, 1), (101, .aload_n 0, 1), (102, .getfield 27, 3), (105, .getfield 122, 3), (108, .iconst 0, 1), (109, .aaload, 1), (110, .iload 10, 2), (112, .iload 11, 2), (114, .invokestatic 155, 3), (117, .iaload, 1), (118, .istore 12, 2), (120, .iload 12, 2), (122, .iconst 1, 1), (123, .if_icmp .ne 21, 3), (126, .aload_n 0, 1), (127, .getfield 18, 3), (130, .iload 10, 2), (132, .iload 11, 2), (134, .invokestatic 155, 3), (137, .dup2, 1), (138, .iaload, 1), (139, .iload 4, 2), (141, .iadd, 1), (142, .iastore, 1), (143, .return_, 1), (144, .iload 12, 2), (146, .iconst 2, 1), (147, .if_icmp .ne 6, 3), (150, .goto 17, 3), (153, .iload 10, 2), (155, .istore 5, 2), (157, .iload 11, 2), (159, .istore 6, 2), (161, .iinc 9 1, 3), (164, .goto (-134), 3), (167, .aload_n 0, 1), (168, .getfield 15, 3), (171, .iload 5, 2), (173, .iload 6, 2), (175, .invokestatic 155, 3), (178, .dup2, 1), (179, .iaload, 1), (180, .iload 4, 2), (182, .iadd, 1), (183, .iastore, 1), (184, .return_, 1)]
set_option maxRecDepth 100000 in
theorem am_kt51_0 : ∀ q ∈ (am_t51.drop 0).take 40, decode cX1_send q.1 = .ok q.2 := by decide +kernel
set_option maxRecDepth 100000 in
theorem am_kt51_1 : ∀ q ∈ (am_t51.drop 40).take 40, decode cX1_send q.1 = .ok q.2 := by decide +kernel
set_option maxRecDepth 100000 in
theorem am_kt51_2 : ∀ q ∈ (am_t51.drop 80).take 40, decode cX1_send q.1 = .ok q.2 := by decide +kernel
set_option maxRecDepth 100000 in
theorem am_kt51 : ∀ q ∈ am_t51, decode cX1_send q.1 = .ok q.2 := by
  intro q hq
  rw [← List.take_append_drop 40 (am_t51)] at hq
  rcases List.mem_append.mp hq with hq | hq
  · exact am_kt51_0 q hq
  rw [← List.take_append_drop 40 ((am_t51.drop 40))] at hq
  rcases List.mem_append.mp hq with hq | hq
  · exact am_kt51_1 q hq
  rw [List.drop_drop] at hq
  exact am_kt51_2 q (by rw [List.take_of_length_le (by decide)]; exact hq)
def am_t52 : List (Nat × Instr × Nat) := [(0, .iload_n 0, 1), (1, .ifCond .ge 8, 3), (4, .iload_n 0, 1), (5, .ineg, 1), (6, .goto 4, 3), (9, .iload_n 0, 1), (10, .ireturn, 1)]
set_option maxRecDepth 100000 in
theorem am_kt52 : ∀ q ∈ am_t52, decode cJ9_abs_0f7a4 q.1 = .ok q.2 := by decide +kernel
def am_t53 : List (Nat × Instr × Nat) := [(0, .iload_n 0, 1), (1, .bipush 31, 2), (3, .ishr, 1), (4, .iload_n 0, 1), (5, .ineg, 1), (6, .bipush 31, 2), (8, .iushr, 1), (9, .ior, 1), (10, .ireturn, 1)]
set_option maxRecDepth 100000 in
theorem am_kt53 : ∀ q ∈ am_t53, decode cJ6_signum_0f7a4 q.1 = .ok q.2 := by decide +kernel
def am_t54 : List (Nat × Instr × Nat) := [(0, .iconst 0, 1), (1, .istore_n 1, 1), (2, .iload_n 1, 1), (3, .bipush 60, 2), (5, .if_icmp .ge 106, 3), (8, .aload_n 0, 1), (9, .getfield 18, 3), (12, .iload_n 1, 1), (13, .iaload, 1), (14, .ifCond .ne 6, 3), (17, .goto 88, 3), (20, .aload_n 0, 1), (21, .getfield 18, 3), (24, .iload_n 1, 1), (25, .iaload, 1), (26, .aload_n 0, 1), (27, .getfield 27, 3), (30, .getfield 122, 3), (33, .iconst 3, 1), (34, .aaload, 1), (35, .iload_n 1, 1), (36, .iaload, 1), (37, .imul, 1), (38, .bipush 16, 2), (40, .idiv, 1), (41, .istore_n 2, 1), (42, .aload_n 0, 1), (43, .getfield 18, 3), (46, .iload_n 1, 1), (47, .iaload, 1), (48, .iload_n 2, 1), (49, .isub, 1), (50, .istore_n 3, 1), (51, .iload_n 3, 1), (52, .aload_n 0, 1), (53, .getfield 27, 3), (56, .getfield 122, 3), (59, .iconst 2, 1), (60, .aaload, 1), (61, .iload_n 1, 1), (62, .iaload, 1), (63, .imul, 1), (64, .bipush 16, 2), (66, .idiv, 1), (67, .istore 4, 2), (69, .aload_n 0, 1), (70, .getfield 21, 3), (73, .aload_n 0, 1), (74, .getfield 70, 3), (77, .bipush 60, 2), (79, .imul, 1), (80, .iload_n 1, 1), (81, .iadd, 1), (82, .iload_n 2, 1), (83, .iastore, 1), (84, .aload_n 0, 1), (85, .dup, 1), (86, .getfield 73, 3), (89, .iload 4, 2), (91, .iadd, 1), (92, .putfield 73, 3), (95, .aload_n 0, 1), (96, .getfield 18, 3), (99, .iload_n 1, 1), (100, .iload_n 3, 1), (101, .iload 4, 2), (103, .isub, 1), (104, .iastore, 1), (105, .iinc 1 1, 3), (108, .goto (-106), 3), (111, .return_, 1)]
set_option maxRecDepth 100000 in
theorem am_kt54_0 : ∀ q ∈ (am_t54.drop 0).take 40, decode cX1_beWalked q.1 = .ok q.2 := by decide +kernel
set_option maxRecDepth 100000 in
theorem am_kt54_1 : ∀ q ∈ (am_t54.drop 40).take 40, decode cX1_beWalked q.1 = .ok q.2 := by decide +kernel
set_option maxRecDepth 100000 in
theorem am_kt54 : ∀ q ∈ am_t54, decode cX1_beWalked q.1 = .ok q.2 := by
  intro q hq
  rw [← List.take_append_drop 40 (am_t54)] at hq
  rcases List.mem_append.mp hq with hq | hq
  · exact am_kt54_0 q hq
  exact am_kt54_1 q (by rw [List.take_of_length_le (by decide)]; exact hq)
def am_t55 : List (Nat × Instr × Nat) := [(0, .iload_n 1, 1), (1, .tableswitch 69 0 4 #[35, 43, 51, 59, 64], 35), (36, .aload_n 0, 1), (37, .getfield 9, 3), (40, .invokestatic 92, 3), (43, .ireturn, 1), (44, .aload_n 0, 1), (45, .getfield 18, 3), (48, .invokestatic 92, 3), (51, .ireturn, 1), (52, .aload_n 0, 1), (53, .getfield 21, 3), (56, .invokestatic 92, 3), (59, .ireturn, 1), (60, .aload_n 0, 1), (61, .getfield 73, 3), (64, .ireturn, 1), (65, .aload_n 0, 1), (66, .getfield 76, 3), (69, .ireturn, 1), (70, .aload_n 0, 1), (71, .getfield 79, 3), (74, .ireturn, 1)]
set_option maxRecDepth 100000 in
theorem am_kt55 : ∀ q ∈ am_t55, decode cX1_allParts q.1 = .ok q.2 := by decide +kernel
def am_t56 : List (Nat × Instr × Nat) := [(0, .iload_n 1, 1), (1, .aload_n 0, 1), (2, .getfield 19, 3), (5, .getfield 109, 3), (8, .invokestatic 98, 3), (11, .ifCond .eq 22, 3), (14, .iload_n 3, 1), (15, .iload 4, 2), (17, .invokestatic 94, 3), (20, .ifCond .eq 13, 3), (23, .iload 5, 2), (25, .iconst 0, 1), (26, .iconst 2, 1), (27, .invokestatic 105, 3), (30, .ifCond .ne 5, 3), (33, .iconst (-1), 1), (34, .ireturn, 1), (35, .iload_n 2, 1), (36, .iconst 0, 1), (37, .bipush 12, 2), (39, .invokestatic 105, 3), (42, .ifCond .ne 6, 3), (45, .bipush (-2), 2), (47, .ireturn, 1), (48, .aload_n 0, 1), (49, .getfield 42, 3), (52, .aload_n 0, 1), (53, .getfield 19, 3), (56, .iload_n 1, 1), (57, .aload_n 0, 1), (58, .getfield 12, 3), (61, .getfield 183, 3), (64, .invokevirtual 186, 3), (67, .aload_n 0, 1), (68, .getfield 42, 3), (71, .iload_n 2, 1), (72, .invokevirtual 190, 3), (75, .aload_n 0, 1), (76, .getfield 42, 3), (79, .iload_n 3, 1), (80, .iload 4, 2), (82, .invokestatic 120, 3), (85, .iload 5, 2), (87, .invokevirtual 197, 3), (90, .ireturn, 1)]
set_option maxRecDepth 100000 in
theorem am_kt56_0 : ∀ q ∈ (am_t56.drop 0).take 40, decode cX10_partsAt q.1 = .ok q.2 := by decide +kernel
set_option maxRecDepth 100000 in
theorem am_kt56_1 : ∀ q ∈ (am_t56.drop 40).take 40, decode cX10_partsAt q.1 = .ok q.2 := by decide +kernel
set_option maxRecDepth 100000 in
theorem am_kt56 : ∀ q ∈ am_t56, decode cX10_partsAt q.1 = .ok q.2 := by
  intro q hq
  rw [← List.take_append_drop 40 (am_t56)] at hq
  rcases List.mem_append.mp hq with hq | hq
  · exact am_kt56_0 q hq
  exact am_kt56_1 q (by rw [List.take_of_length_le (by decide)]; exact hq)
def am_t57 : List (Nat × Instr × Nat) := [(0, .iload_n 2, 1), (1, .lookupswitch 41 #[(0, 27), (1, 34)], 27), (28, .aload_n 0, 1), (29, .getfield 9, 3), (32, .iload_n 1, 1), (33, .iaload, 1), (34, .ireturn, 1), (35, .aload_n 0, 1), (36, .getfield 18, 3), (39, .iload_n 1, 1), (40, .iaload, 1), (41, .ireturn, 1), (42, .aload_n 0, 1), (43, .iload_n 1, 1), (44, .invokevirtual 159, 3), (47, .ireturn, 1)]
set_option maxRecDepth 100000 in
theorem am_kt57 : ∀ q ∈ am_t57, decode cX1_partsIn q.1 = .ok q.2 := by decide +kernel
def am_t58 : List (Nat × Instr × Nat) := [(0, .iconst 0, 1), (1, .istore_n 2, 1), (2, .iconst 0, 1), (3, .istore_n 3, 1), (4, .iload_n 3, 1), (5, .bipush 12, 2), (7, .if_icmp .ge 23, 3), (10, .iload_n 2, 1), (11, .aload_n 0, 1), (12, .getfield 21, 3), (15, .iload_n 3, 1), (16, .bipush 60, 2), (18, .imul, 1), (19, .iload_n 1, 1), (20, .iadd, 1), (21, .iaload, 1), (22, .iadd, 1), (23, .istore_n 2, 1), (24, .iinc 3 1, 3), (27, .goto (-23), 3), (30, .iload_n 2, 1), (31, .ireturn, 1)]
set_option maxRecDepth 100000 in
theorem am_kt58 : ∀ q ∈ am_t58, decode cX1_foundIn q.1 = .ok q.2 := by decide +kernel
def am_t59 : List (Nat × Instr × Nat) := [(0, .iload_n 1, 1), (1, .aload_n 0, 1), (2, .getfield 19, 3), (5, .getfield 109, 3), (8, .invokestatic 98, 3), (11, .ifCond .eq 22, 3), (14, .iload_n 2, 1), (15, .aload_n 0, 1), (16, .getfield 19, 3), (19, .getfield 109, 3), (22, .invokestatic 98, 3), (25, .ifCond .eq 8, 3), (28, .iload_n 1, 1), (29, .iload_n 2, 1), (30, .if_icmp .ne 5, 3), (33, .iconst (-1), 1), (34, .ireturn, 1), (35, .aload_n 0, 1), (36, .getfield 42, 3), (39, .aload_n 0, 1), (40, .getfield 19, 3), (43, .iload_n 1, 1), (44, .aload_n 0, 1), (45, .getfield 12, 3), (48, .getfield 183, 3), (51, .invokevirtual 186, 3), (54, .aload_n 0, 1), (55, .getfield 46, 3), (58, .aload_n 0, 1), (59, .getfield 19, 3), (62, .iload_n 2, 1), (63, .aload_n 0, 1), (64, .getfield 12, 3), (67, .getfield 183, 3), (70, .invokevirtual 186, 3), (73, .iconst 0, 1), (74, .istore_n 3, 1), (75, .iload_n 3, 1), (76, .bipush 12, 2), (78, .if_icmp .gt 41, 3), (81, .aload_n 0, 1), (82, .getfield 42, 3), (85, .aload_n 0, 1), (86, .getfield 46, 3), (89, .invokevirtual 200, 3), (92, .ifCond .ne 5, 3), (95, .iload_n 3, 1), (96, .ireturn, 1), (97, .aload_n 0, 1), (98, .getfield 42, 3), (101, .iconst 1, 1), (102, .invokevirtual 190, 3), (105, .aload_n 0, 1), (106, .getfield 46, 3), (109, .iconst 1, 1), (110, .invokevirtual 190, 3), (113, .iinc 3 1, 3), (116, .goto (-41), 3), (119, .bipush (-3), 2), (121, .ireturn, 1)]
set_option maxRecDepth 100000 in
theorem am_kt59_0 : ∀ q ∈ (am_t59.drop 0).take 40, decode cX10_apart q.1 = .ok q.2 := by decide +kernel
set_option maxRecDepth 100000 in
theorem am_kt59_1 : ∀ q ∈ (am_t59.drop 40).take 40, decode cX10_apart q.1 = .ok q.2 := by decide +kernel
set_option maxRecDepth 100000 in
theorem am_kt59 : ∀ q ∈ am_t59, decode cX10_apart q.1 = .ok q.2 := by
  intro q hq
  rw [← List.take_append_drop 40 (am_t59)] at hq
  rcases List.mem_append.mp hq with hq | hq
  · exact am_kt59_0 q hq
  exact am_kt59_1 q (by rw [List.take_of_length_le (by decide)]; exact hq)
