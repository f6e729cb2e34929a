/-! ===== the law's loop, out of pairs of calls that answer alike ===== -/
section LAW
variable {X : am_X} {Q : am_Q} {i pc : Nat} {L S : am_V} {M : am_M} {N : am_N}
theorem J_sld {x : Int32} (d : am_in i pc = some (.iaload, 1)) (hi : vp_in x X.2.2.2.2.2.2.1) (kk : am_J X Q i (pc + 1) L (.int (X.2.2.2.2.2.2.2 x.toNatClampNeg) :: S) M N) : am_J X Q i pc L (.int x :: .ref 1000000 :: S) M N := sw_sld d hi kk
theorem J_slen0 (d : am_in i pc = some (.arraylength, 1)) (kk : am_J X Q i (pc + 1) L (.int (Int32.ofNat X.2.2.2.2.2.2.1) :: S) M N) : am_J X Q i pc L (.ref 1000000 :: S) M N := sw_slen0 d kk
end LAW
theorem lg_self (v : Int64) : lg_cmp v v = 0 := by
  unfold lg_cmp
  rw [if_neg (by rw [gt_iff_lt, Int64.lt_iff_toInt_lt]; omega), if_pos rfl]
def am_lH : List (Nat × Instr × Nat) := [(18, .iload_n 3, 1), (19, .aload_n 0, 1), (20, .arraylength, 1), (21, .bipush 7, 2), (23, .isub, 1), (24, .if_icmp .gt 1345, 3), (27, .aload_n 0, 1), (28, .iload_n 3, 1), (29, .iaload, 1), (30, .bipush 63, 2), (32, .iand, 1), (33, .tableswitch 1330 0 32 #[147, 210, 253, 306, 349, 392, 415, 490, 523, 566, 629, 662, 705, 768, 791, 824, 857, 880, 903, 926, 949, 992, 1025, 1048, 1062, 1076, 1099, 1152, 1215, 1228, 1251, 1274, 1307], 147)]
set_option maxRecDepth 100000 in
theorem am_lkH : am_lH = (am_t210.drop 10).take 12 := by rfl
theorem am_eH {pc : Nat} {x : Instr × Nat} (h : am_lH.lookup pc = some x) : am_in 210 pc = some x := by
  refine am_in_of (am_c_at (i := 210) (by decide) rfl) (t := am_lH) (fun q hq => am_kt210 q ?_) h
  rw [am_lkH] at hq
  exact List.mem_of_mem_drop (List.mem_of_mem_take hq)
def am_lE : List (Nat × Instr × Nat) := [(1363, .iinc 3 7, 3), (1366, .goto (-1348), 3), (1369, .iconst 1, 1), (1370, .ireturn, 1)]
set_option maxRecDepth 100000 in
theorem am_lkE : am_lE = (am_t210.drop 999).take 4 := by rfl
theorem am_eE {pc : Nat} {x : Instr × Nat} (h : am_lE.lookup pc = some x) : am_in 210 pc = some x := by
  refine am_in_of (am_c_at (i := 210) (by decide) rfl) (t := am_lE) (fun q hq => am_kt210 q ?_) h
  rw [am_lkE] at hq
  exact List.mem_of_mem_drop (List.mem_of_mem_take hq)
def am_l0 : List (Nat × Instr × Nat) := [(180, .aload_n 1, 1), (181, .aload_n 0, 1), (182, .iload_n 3, 1), (183, .iconst 1, 1), (184, .iadd, 1), (185, .iaload, 1), (186, .aload_n 0, 1), (187, .iload_n 3, 1), (188, .iconst 2, 1), (189, .iadd, 1), (190, .iaload, 1), (191, .aload_n 0, 1), (192, .iload_n 3, 1), (193, .iconst 3, 1), (194, .iadd, 1), (195, .iaload, 1), (196, .aload_n 0, 1), (197, .iload_n 3, 1), (198, .iconst 4, 1), (199, .iadd, 1), (200, .iaload, 1), (201, .aload_n 0, 1), (202, .iload_n 3, 1), (203, .iconst 5, 1), (204, .iadd, 1), (205, .iaload, 1), (206, .invokevirtual 13, 3), (209, .aload_n 2, 1), (210, .aload_n 0, 1), (211, .iload_n 3, 1), (212, .iconst 1, 1), (213, .iadd, 1), (214, .iaload, 1), (215, .aload_n 0, 1), (216, .iload_n 3, 1), (217, .iconst 2, 1), (218, .iadd, 1), (219, .iaload, 1), (220, .aload_n 0, 1), (221, .iload_n 3, 1), (222, .iconst 3, 1), (223, .iadd, 1), (224, .iaload, 1), (225, .aload_n 0, 1), (226, .iload_n 3, 1), (227, .iconst 4, 1), (228, .iadd, 1), (229, .iaload, 1), (230, .aload_n 0, 1), (231, .iload_n 3, 1), (232, .iconst 5, 1), (233, .iadd, 1), (234, .iaload, 1), (235, .invokevirtual 17, 3), (238, .if_icmp .eq 1125, 3), (241, .iconst 0, 1), (242, .ireturn, 1)]
set_option maxRecDepth 100000 in
theorem am_lk0 : am_l0 = (am_t210.drop 22).take 57 := by rfl
theorem am_e0 {pc : Nat} {x : Instr × Nat} (h : am_l0.lookup pc = some x) : am_in 210 pc = some x := by
  refine am_in_of (am_c_at (i := 210) (by decide) rfl) (t := am_l0) (fun q hq => am_kt210 q ?_) h
  rw [am_lk0] at hq
  exact List.mem_of_mem_drop (List.mem_of_mem_take hq)
set_option maxRecDepth 20000 in
theorem lw_paint {iv : am_Iv} {X : am_X} {M : am_M} {N : am_N} {Q : am_Q} {c : Nat} {x : Int32} (hp : am_pI iv X 11 138 [.int (X.2.2.2.2.2.2.2 (x + Int32.ofInt 1).toNatClampNeg), .int (X.2.2.2.2.2.2.2 (x + Int32.ofInt 2).toNatClampNeg), .int (X.2.2.2.2.2.2.2 (x + Int32.ofInt 3).toNatClampNeg), .int (X.2.2.2.2.2.2.2 (x + Int32.ofInt 4).toNatClampNeg), .int (X.2.2.2.2.2.2.2 (x + Int32.ofInt 5).toNatClampNeg)]) (hc : c < 512) (hi : iv c M N) (hv : ∀ k : Int, 1 ≤ k → k ≤ 6 → vp_in (x + Int32.ofInt k) X.2.2.2.2.2.2.1) (kk : ∀ M2 N2, iv (c + 1) M2 N2 → am_J X Q 210 1363 [.ref 1000000, .ref 0, .ref 120, .int x] [] M2 N2) : am_J X Q 210 180 [.ref 1000000, .ref 0, .ref 120, .int x] [] M N := by
  obtain ⟨v, mid, g1, g2⟩ := hp c M N hc hi
  refine J_b 5 am_e0 rfl ?_
  refine J_sld (am_e0 rfl) (hv 1 (by decide) (by decide)) ?_
  refine J_b 4 am_e0 rfl ?_
  refine J_sld (am_e0 rfl) (hv 2 (by decide) (by decide)) ?_
  refine J_b 4 am_e0 rfl ?_
  refine J_sld (am_e0 rfl) (hv 3 (by decide) (by decide)) ?_
  refine J_b 4 am_e0 rfl ?_
  refine J_sld (am_e0 rfl) (hv 4 (by decide) (by decide)) ?_
  refine J_b 4 am_e0 rfl ?_
  refine J_sld (am_e0 rfl) (hv 5 (by decide) (by decide)) ?_
  refine J_V 11 (am_e0 rfl) rfl g1 (fun r M1 N1 hq => ?_)
  obtain ⟨rfl, hm⟩ := hq
  refine J_b 5 am_e0 rfl ?_
  refine J_sld (am_e0 rfl) (hv 1 (by decide) (by decide)) ?_
  refine J_b 4 am_e0 rfl ?_
  refine J_sld (am_e0 rfl) (hv 2 (by decide) (by decide)) ?_
  refine J_b 4 am_e0 rfl ?_
  refine J_sld (am_e0 rfl) (hv 3 (by decide) (by decide)) ?_
  refine J_b 4 am_e0 rfl ?_
  refine J_sld (am_e0 rfl) (hv 4 (by decide) (by decide)) ?_
  refine J_b 4 am_e0 rfl ?_
  refine J_sld (am_e0 rfl) (hv 5 (by decide) (by decide)) ?_
  refine J_V 138 (am_e0 rfl) rfl (g2 M1 N1 hm) (fun r M2 N2 hq => ?_)
  obtain ⟨rfl, hv2⟩ := hq
  exact J_icmp_eq 1363 (am_e0 rfl) rfl (fun _ => kk M2 N2 hv2) (fun h => absurd rfl h)
def am_l1 : List (Nat × Instr × Nat) := [(243, .aload_n 1, 1), (244, .aload_n 0, 1), (245, .iload_n 3, 1), (246, .iconst 1, 1), (247, .iadd, 1), (248, .iaload, 1), (249, .aload_n 0, 1), (250, .iload_n 3, 1), (251, .iconst 2, 1), (252, .iadd, 1), (253, .iaload, 1), (254, .aload_n 0, 1), (255, .iload_n 3, 1), (256, .iconst 3, 1), (257, .iadd, 1), (258, .iaload, 1), (259, .invokevirtual 18, 3), (262, .aload_n 2, 1), (263, .aload_n 0, 1), (264, .iload_n 3, 1), (265, .iconst 1, 1), (266, .iadd, 1), (267, .iaload, 1), (268, .aload_n 0, 1), (269, .iload_n 3, 1), (270, .iconst 2, 1), (271, .iadd, 1), (272, .iaload, 1), (273, .aload_n 0, 1), (274, .iload_n 3, 1), (275, .iconst 3, 1), (276, .iadd, 1), (277, .iaload, 1), (278, .invokevirtual 22, 3), (281, .if_icmp .eq 1082, 3), (284, .iconst 0, 1), (285, .ireturn, 1)]
set_option maxRecDepth 100000 in
theorem am_lk1 : am_l1 = (am_t210.drop 79).take 37 := by rfl
theorem am_e1 {pc : Nat} {x : Instr × Nat} (h : am_l1.lookup pc = some x) : am_in 210 pc = some x := by
  refine am_in_of (am_c_at (i := 210) (by decide) rfl) (t := am_l1) (fun q hq => am_kt210 q ?_) h
  rw [am_lk1] at hq
  exact List.mem_of_mem_drop (List.mem_of_mem_take hq)
set_option maxRecDepth 20000 in
theorem lw_cell {iv : am_Iv} {X : am_X} {M : am_M} {N : am_N} {Q : am_Q} {c : Nat} {x : Int32} (hp : am_pI iv X 17 144 [.int (X.2.2.2.2.2.2.2 (x + Int32.ofInt 1).toNatClampNeg), .int (X.2.2.2.2.2.2.2 (x + Int32.ofInt 2).toNatClampNeg), .int (X.2.2.2.2.2.2.2 (x + Int32.ofInt 3).toNatClampNeg)]) (hc : c < 512) (hi : iv c M N) (hv : ∀ k : Int, 1 ≤ k → k ≤ 6 → vp_in (x + Int32.ofInt k) X.2.2.2.2.2.2.1) (kk : ∀ M2 N2, iv (c + 1) M2 N2 → am_J X Q 210 1363 [.ref 1000000, .ref 0, .ref 120, .int x] [] M2 N2) : am_J X Q 210 243 [.ref 1000000, .ref 0, .ref 120, .int x] [] M N := by
  obtain ⟨v, mid, g1, g2⟩ := hp c M N hc hi
  refine J_b 5 am_e1 rfl ?_
  refine J_sld (am_e1 rfl) (hv 1 (by decide) (by decide)) ?_
  refine J_b 4 am_e1 rfl ?_
  refine J_sld (am_e1 rfl) (hv 2 (by decide) (by decide)) ?_
  refine J_b 4 am_e1 rfl ?_
  refine J_sld (am_e1 rfl) (hv 3 (by decide) (by decide)) ?_
  refine J_V 17 (am_e1 rfl) rfl g1 (fun r M1 N1 hq => ?_)
  obtain ⟨rfl, hm⟩ := hq
  refine J_b 5 am_e1 rfl ?_
  refine J_sld (am_e1 rfl) (hv 1 (by decide) (by decide)) ?_
  refine J_b 4 am_e1 rfl ?_
  refine J_sld (am_e1 rfl) (hv 2 (by decide) (by decide)) ?_
  refine J_b 4 am_e1 rfl ?_
  refine J_sld (am_e1 rfl) (hv 3 (by decide) (by decide)) ?_
  refine J_V 144 (am_e1 rfl) rfl (g2 M1 N1 hm) (fun r M2 N2 hq => ?_)
  obtain ⟨rfl, hv2⟩ := hq
  exact J_icmp_eq 1363 (am_e1 rfl) rfl (fun _ => kk M2 N2 hv2) (fun h => absurd rfl h)
def am_l2 : List (Nat × Instr × Nat) := [(286, .aload_n 1, 1), (287, .aload_n 0, 1), (288, .iload_n 3, 1), (289, .iconst 1, 1), (290, .iadd, 1), (291, .iaload, 1), (292, .aload_n 0, 1), (293, .iload_n 3, 1), (294, .iconst 2, 1), (295, .iadd, 1), (296, .iaload, 1), (297, .aload_n 0, 1), (298, .iload_n 3, 1), (299, .iconst 3, 1), (300, .iadd, 1), (301, .iaload, 1), (302, .aload_n 0, 1), (303, .iload_n 3, 1), (304, .iconst 4, 1), (305, .iadd, 1), (306, .iaload, 1), (307, .invokevirtual 23, 3), (310, .aload_n 2, 1), (311, .aload_n 0, 1), (312, .iload_n 3, 1), (313, .iconst 1, 1), (314, .iadd, 1), (315, .iaload, 1), (316, .aload_n 0, 1), (317, .iload_n 3, 1), (318, .iconst 2, 1), (319, .iadd, 1), (320, .iaload, 1), (321, .aload_n 0, 1), (322, .iload_n 3, 1), (323, .iconst 3, 1), (324, .iadd, 1), (325, .iaload, 1), (326, .aload_n 0, 1), (327, .iload_n 3, 1), (328, .iconst 4, 1), (329, .iadd, 1), (330, .iaload, 1), (331, .invokevirtual 27, 3), (334, .if_icmp .eq 1029, 3), (337, .iconst 0, 1), (338, .ireturn, 1)]
set_option maxRecDepth 100000 in
theorem am_lk2 : am_l2 = (am_t210.drop 116).take 47 := by rfl
theorem am_e2 {pc : Nat} {x : Instr × Nat} (h : am_l2.lookup pc = some x) : am_in 210 pc = some x := by
  refine am_in_of (am_c_at (i := 210) (by decide) rfl) (t := am_l2) (fun q hq => am_kt210 q ?_) h
  rw [am_lk2] at hq
  exact List.mem_of_mem_drop (List.mem_of_mem_take hq)
set_option maxRecDepth 20000 in
theorem lw_current {iv : am_Iv} {X : am_X} {M : am_M} {N : am_N} {Q : am_Q} {c : Nat} {x : Int32} (hp : am_pI iv X 18 145 [.int (X.2.2.2.2.2.2.2 (x + Int32.ofInt 1).toNatClampNeg), .int (X.2.2.2.2.2.2.2 (x + Int32.ofInt 2).toNatClampNeg), .int (X.2.2.2.2.2.2.2 (x + Int32.ofInt 3).toNatClampNeg), .int (X.2.2.2.2.2.2.2 (x + Int32.ofInt 4).toNatClampNeg)]) (hc : c < 512) (hi : iv c M N) (hv : ∀ k : Int, 1 ≤ k → k ≤ 6 → vp_in (x + Int32.ofInt k) X.2.2.2.2.2.2.1) (kk : ∀ M2 N2, iv (c + 1) M2 N2 → am_J X Q 210 1363 [.ref 1000000, .ref 0, .ref 120, .int x] [] M2 N2) : am_J X Q 210 286 [.ref 1000000, .ref 0, .ref 120, .int x] [] M N := by
  obtain ⟨v, mid, g1, g2⟩ := hp c M N hc hi
  refine J_b 5 am_e2 rfl ?_
  refine J_sld (am_e2 rfl) (hv 1 (by decide) (by decide)) ?_
  refine J_b 4 am_e2 rfl ?_
  refine J_sld (am_e2 rfl) (hv 2 (by decide) (by decide)) ?_
  refine J_b 4 am_e2 rfl ?_
  refine J_sld (am_e2 rfl) (hv 3 (by decide) (by decide)) ?_
  refine J_b 4 am_e2 rfl ?_
  refine J_sld (am_e2 rfl) (hv 4 (by decide) (by decide)) ?_
  refine J_V 18 (am_e2 rfl) rfl g1 (fun r M1 N1 hq => ?_)
  obtain ⟨rfl, hm⟩ := hq
  refine J_b 5 am_e2 rfl ?_
  refine J_sld (am_e2 rfl) (hv 1 (by decide) (by decide)) ?_
  refine J_b 4 am_e2 rfl ?_
  refine J_sld (am_e2 rfl) (hv 2 (by decide) (by decide)) ?_
  refine J_b 4 am_e2 rfl ?_
  refine J_sld (am_e2 rfl) (hv 3 (by decide) (by decide)) ?_
  refine J_b 4 am_e2 rfl ?_
  refine J_sld (am_e2 rfl) (hv 4 (by decide) (by decide)) ?_
  refine J_V 145 (am_e2 rfl) rfl (g2 M1 N1 hm) (fun r M2 N2 hq => ?_)
  obtain ⟨rfl, hv2⟩ := hq
  exact J_icmp_eq 1363 (am_e2 rfl) rfl (fun _ => kk M2 N2 hv2) (fun h => absurd rfl h)
def am_l3 : List (Nat × Instr × Nat) := [(339, .aload_n 1, 1), (340, .aload_n 0, 1), (341, .iload_n 3, 1), (342, .iconst 1, 1), (343, .iadd, 1), (344, .iaload, 1), (345, .aload_n 0, 1), (346, .iload_n 3, 1), (347, .iconst 2, 1), (348, .iadd, 1), (349, .iaload, 1), (350, .aload_n 0, 1), (351, .iload_n 3, 1), (352, .iconst 3, 1), (353, .iadd, 1), (354, .iaload, 1), (355, .invokevirtual 28, 3), (358, .aload_n 2, 1), (359, .aload_n 0, 1), (360, .iload_n 3, 1), (361, .iconst 1, 1), (362, .iadd, 1), (363, .iaload, 1), (364, .aload_n 0, 1), (365, .iload_n 3, 1), (366, .iconst 2, 1), (367, .iadd, 1), (368, .iaload, 1), (369, .aload_n 0, 1), (370, .iload_n 3, 1), (371, .iconst 3, 1), (372, .iadd, 1), (373, .iaload, 1), (374, .invokevirtual 31, 3), (377, .if_icmp .eq 986, 3), (380, .iconst 0, 1), (381, .ireturn, 1)]
set_option maxRecDepth 100000 in
theorem am_lk3 : am_l3 = (am_t210.drop 163).take 37 := by rfl
theorem am_e3 {pc : Nat} {x : Instr × Nat} (h : am_l3.lookup pc = some x) : am_in 210 pc = some x := by
  refine am_in_of (am_c_at (i := 210) (by decide) rfl) (t := am_l3) (fun q hq => am_kt210 q ?_) h
  rw [am_lk3] at hq
  exact List.mem_of_mem_drop (List.mem_of_mem_take hq)
set_option maxRecDepth 20000 in
theorem lw_wind {iv : am_Iv} {X : am_X} {M : am_M} {N : am_N} {Q : am_Q} {c : Nat} {x : Int32} (hp : am_pI iv X 21 147 [.int (X.2.2.2.2.2.2.2 (x + Int32.ofInt 1).toNatClampNeg), .int (X.2.2.2.2.2.2.2 (x + Int32.ofInt 2).toNatClampNeg), .int (X.2.2.2.2.2.2.2 (x + Int32.ofInt 3).toNatClampNeg)]) (hc : c < 512) (hi : iv c M N) (hv : ∀ k : Int, 1 ≤ k → k ≤ 6 → vp_in (x + Int32.ofInt k) X.2.2.2.2.2.2.1) (kk : ∀ M2 N2, iv (c + 1) M2 N2 → am_J X Q 210 1363 [.ref 1000000, .ref 0, .ref 120, .int x] [] M2 N2) : am_J X Q 210 339 [.ref 1000000, .ref 0, .ref 120, .int x] [] M N := by
  obtain ⟨v, mid, g1, g2⟩ := hp c M N hc hi
  refine J_b 5 am_e3 rfl ?_
  refine J_sld (am_e3 rfl) (hv 1 (by decide) (by decide)) ?_
  refine J_b 4 am_e3 rfl ?_
  refine J_sld (am_e3 rfl) (hv 2 (by decide) (by decide)) ?_
  refine J_b 4 am_e3 rfl ?_
  refine J_sld (am_e3 rfl) (hv 3 (by decide) (by decide)) ?_
  refine J_V 21 (am_e3 rfl) rfl g1 (fun r M1 N1 hq => ?_)
  obtain ⟨rfl, hm⟩ := hq
  refine J_b 5 am_e3 rfl ?_
  refine J_sld (am_e3 rfl) (hv 1 (by decide) (by decide)) ?_
  refine J_b 4 am_e3 rfl ?_
  refine J_sld (am_e3 rfl) (hv 2 (by decide) (by decide)) ?_
  refine J_b 4 am_e3 rfl ?_
  refine J_sld (am_e3 rfl) (hv 3 (by decide) (by decide)) ?_
  refine J_V 147 (am_e3 rfl) rfl (g2 M1 N1 hm) (fun r M2 N2 hq => ?_)
  obtain ⟨rfl, hv2⟩ := hq
  exact J_icmp_eq 1363 (am_e3 rfl) rfl (fun _ => kk M2 N2 hv2) (fun h => absurd rfl h)
def am_l4 : List (Nat × Instr × Nat) := [(382, .aload_n 1, 1), (383, .aload_n 0, 1), (384, .iload_n 3, 1), (385, .iconst 1, 1), (386, .iadd, 1), (387, .iaload, 1), (388, .aload_n 0, 1), (389, .iload_n 3, 1), (390, .iconst 2, 1), (391, .iadd, 1), (392, .iaload, 1), (393, .aload_n 0, 1), (394, .iload_n 3, 1), (395, .iconst 3, 1), (396, .iadd, 1), (397, .iaload, 1), (398, .invokevirtual 32, 3), (401, .aload_n 2, 1), (402, .aload_n 0, 1), (403, .iload_n 3, 1), (404, .iconst 1, 1), (405, .iadd, 1), (406, .iaload, 1), (407, .aload_n 0, 1), (408, .iload_n 3, 1), (409, .iconst 2, 1), (410, .iadd, 1), (411, .iaload, 1), (412, .aload_n 0, 1), (413, .iload_n 3, 1), (414, .iconst 3, 1), (415, .iadd, 1), (416, .iaload, 1), (417, .invokevirtual 35, 3), (420, .if_icmp .eq 943, 3), (423, .iconst 0, 1), (424, .ireturn, 1)]
set_option maxRecDepth 100000 in
theorem am_lk4 : am_l4 = (am_t210.drop 200).take 37 := by rfl
theorem am_e4 {pc : Nat} {x : Instr × Nat} (h : am_l4.lookup pc = some x) : am_in 210 pc = some x := by
  refine am_in_of (am_c_at (i := 210) (by decide) rfl) (t := am_l4) (fun q hq => am_kt210 q ?_) h
  rw [am_lk4] at hq
  exact List.mem_of_mem_drop (List.mem_of_mem_take hq)
set_option maxRecDepth 20000 in
theorem lw_storm {iv : am_Iv} {X : am_X} {M : am_M} {N : am_N} {Q : am_Q} {c : Nat} {x : Int32} (hp : am_pI iv X 24 148 [.int (X.2.2.2.2.2.2.2 (x + Int32.ofInt 1).toNatClampNeg), .int (X.2.2.2.2.2.2.2 (x + Int32.ofInt 2).toNatClampNeg), .int (X.2.2.2.2.2.2.2 (x + Int32.ofInt 3).toNatClampNeg)]) (hc : c < 512) (hi : iv c M N) (hv : ∀ k : Int, 1 ≤ k → k ≤ 6 → vp_in (x + Int32.ofInt k) X.2.2.2.2.2.2.1) (kk : ∀ M2 N2, iv (c + 1) M2 N2 → am_J X Q 210 1363 [.ref 1000000, .ref 0, .ref 120, .int x] [] M2 N2) : am_J X Q 210 382 [.ref 1000000, .ref 0, .ref 120, .int x] [] M N := by
  obtain ⟨v, mid, g1, g2⟩ := hp c M N hc hi
  refine J_b 5 am_e4 rfl ?_
  refine J_sld (am_e4 rfl) (hv 1 (by decide) (by decide)) ?_
  refine J_b 4 am_e4 rfl ?_
  refine J_sld (am_e4 rfl) (hv 2 (by decide) (by decide)) ?_
  refine J_b 4 am_e4 rfl ?_
  refine J_sld (am_e4 rfl) (hv 3 (by decide) (by decide)) ?_
  refine J_V 24 (am_e4 rfl) rfl g1 (fun r M1 N1 hq => ?_)
  obtain ⟨rfl, hm⟩ := hq
  refine J_b 5 am_e4 rfl ?_
  refine J_sld (am_e4 rfl) (hv 1 (by decide) (by decide)) ?_
  refine J_b 4 am_e4 rfl ?_
  refine J_sld (am_e4 rfl) (hv 2 (by decide) (by decide)) ?_
  refine J_b 4 am_e4 rfl ?_
  refine J_sld (am_e4 rfl) (hv 3 (by decide) (by decide)) ?_
  refine J_V 148 (am_e4 rfl) rfl (g2 M1 N1 hm) (fun r M2 N2 hq => ?_)
  obtain ⟨rfl, hv2⟩ := hq
  exact J_icmp_eq 1363 (am_e4 rfl) rfl (fun _ => kk M2 N2 hv2) (fun h => absurd rfl h)
def am_l5 : List (Nat × Instr × Nat) := [(425, .aload_n 1, 1), (426, .aload_n 0, 1), (427, .iload_n 3, 1), (428, .iconst 1, 1), (429, .iadd, 1), (430, .iaload, 1), (431, .invokevirtual 36, 3), (434, .aload_n 2, 1), (435, .aload_n 0, 1), (436, .iload_n 3, 1), (437, .iconst 1, 1), (438, .iadd, 1), (439, .iaload, 1), (440, .invokevirtual 40, 3), (443, .if_icmp .eq 920, 3), (446, .iconst 0, 1), (447, .ireturn, 1)]
set_option maxRecDepth 100000 in
theorem am_lk5 : am_l5 = (am_t210.drop 237).take 17 := by rfl
theorem am_e5 {pc : Nat} {x : Instr × Nat} (h : am_l5.lookup pc = some x) : am_in 210 pc = some x := by
  refine am_in_of (am_c_at (i := 210) (by decide) rfl) (t := am_l5) (fun q hq => am_kt210 q ?_) h
  rw [am_lk5] at hq
  exact List.mem_of_mem_drop (List.mem_of_mem_take hq)
set_option maxRecDepth 20000 in
theorem lw_calm {iv : am_Iv} {X : am_X} {M : am_M} {N : am_N} {Q : am_Q} {c : Nat} {x : Int32} (hp : am_pI iv X 26 149 [.int (X.2.2.2.2.2.2.2 (x + Int32.ofInt 1).toNatClampNeg)]) (hc : c < 512) (hi : iv c M N) (hv : ∀ k : Int, 1 ≤ k → k ≤ 6 → vp_in (x + Int32.ofInt k) X.2.2.2.2.2.2.1) (kk : ∀ M2 N2, iv (c + 1) M2 N2 → am_J X Q 210 1363 [.ref 1000000, .ref 0, .ref 120, .int x] [] M2 N2) : am_J X Q 210 425 [.ref 1000000, .ref 0, .ref 120, .int x] [] M N := by
  obtain ⟨v, mid, g1, g2⟩ := hp c M N hc hi
  refine J_b 5 am_e5 rfl ?_
  refine J_sld (am_e5 rfl) (hv 1 (by decide) (by decide)) ?_
  refine J_V 26 (am_e5 rfl) rfl g1 (fun r M1 N1 hq => ?_)
  obtain ⟨rfl, hm⟩ := hq
  refine J_b 5 am_e5 rfl ?_
  refine J_sld (am_e5 rfl) (hv 1 (by decide) (by decide)) ?_
  refine J_V 149 (am_e5 rfl) rfl (g2 M1 N1 hm) (fun r M2 N2 hq => ?_)
  obtain ⟨rfl, hv2⟩ := hq
  exact J_icmp_eq 1363 (am_e5 rfl) rfl (fun _ => kk M2 N2 hv2) (fun h => absurd rfl h)
def am_l6 : List (Nat × Instr × Nat) := [(448, .aload_n 1, 1), (449, .aload_n 0, 1), (450, .iload_n 3, 1), (451, .iconst 1, 1), (452, .iadd, 1), (453, .iaload, 1), (454, .aload_n 0, 1), (455, .iload_n 3, 1), (456, .iconst 2, 1), (457, .iadd, 1), (458, .iaload, 1), (459, .aload_n 0, 1), (460, .iload_n 3, 1), (461, .iconst 3, 1), (462, .iadd, 1), (463, .iaload, 1), (464, .aload_n 0, 1), (465, .iload_n 3, 1), (466, .iconst 4, 1), (467, .iadd, 1), (468, .iaload, 1), (469, .aload_n 0, 1), (470, .iload_n 3, 1), (471, .iconst 5, 1), (472, .iadd, 1), (473, .iaload, 1), (474, .aload_n 0, 1), (475, .iload_n 3, 1), (476, .bipush 6, 2), (478, .iadd, 1), (479, .iaload, 1), (480, .invokevirtual 41, 3), (483, .aload_n 2, 1), (484, .aload_n 0, 1), (485, .iload_n 3, 1), (486, .iconst 1, 1), (487, .iadd, 1), (488, .iaload, 1), (489, .aload_n 0, 1), (490, .iload_n 3, 1), (491, .iconst 2, 1), (492, .iadd, 1), (493, .iaload, 1), (494, .aload_n 0, 1), (495, .iload_n 3, 1), (496, .iconst 3, 1), (497, .iadd, 1), (498, .iaload, 1), (499, .aload_n 0, 1), (500, .iload_n 3, 1), (501, .iconst 4, 1), (502, .iadd, 1), (503, .iaload, 1), (504, .aload_n 0, 1), (505, .iload_n 3, 1), (506, .iconst 5, 1), (507, .iadd, 1), (508, .iaload, 1), (509, .aload_n 0, 1), (510, .iload_n 3, 1), (511, .bipush 6, 2), (513, .iadd, 1), (514, .iaload, 1), (515, .invokevirtual 45, 3), (518, .if_icmp .eq 845, 3), (521, .iconst 0, 1), (522, .ireturn, 1)]
set_option maxRecDepth 100000 in
theorem am_lk6 : am_l6 = (am_t210.drop 254).take 67 := by rfl
theorem am_e6 {pc : Nat} {x : Instr × Nat} (h : am_l6.lookup pc = some x) : am_in 210 pc = some x := by
  refine am_in_of (am_c_at (i := 210) (by decide) rfl) (t := am_l6) (fun q hq => am_kt210 q ?_) h
  rw [am_lk6] at hq
  exact List.mem_of_mem_drop (List.mem_of_mem_take hq)
set_option maxRecDepth 20000 in
theorem lw_cast {iv : am_Iv} {X : am_X} {M : am_M} {N : am_N} {Q : am_Q} {c : Nat} {x : Int32} (hp : am_pI iv X 27 150 [.int (X.2.2.2.2.2.2.2 (x + Int32.ofInt 1).toNatClampNeg), .int (X.2.2.2.2.2.2.2 (x + Int32.ofInt 2).toNatClampNeg), .int (X.2.2.2.2.2.2.2 (x + Int32.ofInt 3).toNatClampNeg), .int (X.2.2.2.2.2.2.2 (x + Int32.ofInt 4).toNatClampNeg), .int (X.2.2.2.2.2.2.2 (x + Int32.ofInt 5).toNatClampNeg), .int (X.2.2.2.2.2.2.2 (x + Int32.ofInt 6).toNatClampNeg)]) (hc : c < 512) (hi : iv c M N) (hv : ∀ k : Int, 1 ≤ k → k ≤ 6 → vp_in (x + Int32.ofInt k) X.2.2.2.2.2.2.1) (kk : ∀ M2 N2, iv (c + 1) M2 N2 → am_J X Q 210 1363 [.ref 1000000, .ref 0, .ref 120, .int x] [] M2 N2) : am_J X Q 210 448 [.ref 1000000, .ref 0, .ref 120, .int x] [] M N := by
  obtain ⟨v, mid, g1, g2⟩ := hp c M N hc hi
  refine J_b 5 am_e6 rfl ?_
  refine J_sld (am_e6 rfl) (hv 1 (by decide) (by decide)) ?_
  refine J_b 4 am_e6 rfl ?_
  refine J_sld (am_e6 rfl) (hv 2 (by decide) (by decide)) ?_
  refine J_b 4 am_e6 rfl ?_
  refine J_sld (am_e6 rfl) (hv 3 (by decide) (by decide)) ?_
  refine J_b 4 am_e6 rfl ?_
  refine J_sld (am_e6 rfl) (hv 4 (by decide) (by decide)) ?_
  refine J_b 4 am_e6 rfl ?_
  refine J_sld (am_e6 rfl) (hv 5 (by decide) (by decide)) ?_
  refine J_b 4 am_e6 rfl ?_
  refine J_sld (am_e6 rfl) (hv 6 (by decide) (by decide)) ?_
  refine J_V 27 (am_e6 rfl) rfl g1 (fun r M1 N1 hq => ?_)
  obtain ⟨rfl, hm⟩ := hq
  refine J_b 5 am_e6 rfl ?_
  refine J_sld (am_e6 rfl) (hv 1 (by decide) (by decide)) ?_
  refine J_b 4 am_e6 rfl ?_
  refine J_sld (am_e6 rfl) (hv 2 (by decide) (by decide)) ?_
  refine J_b 4 am_e6 rfl ?_
  refine J_sld (am_e6 rfl) (hv 3 (by decide) (by decide)) ?_
  refine J_b 4 am_e6 rfl ?_
  refine J_sld (am_e6 rfl) (hv 4 (by decide) (by decide)) ?_
  refine J_b 4 am_e6 rfl ?_
  refine J_sld (am_e6 rfl) (hv 5 (by decide) (by decide)) ?_
  refine J_b 4 am_e6 rfl ?_
  refine J_sld (am_e6 rfl) (hv 6 (by decide) (by decide)) ?_
  refine J_V 150 (am_e6 rfl) rfl (g2 M1 N1 hm) (fun r M2 N2 hq => ?_)
  obtain ⟨rfl, hv2⟩ := hq
  exact J_icmp_eq 1363 (am_e6 rfl) rfl (fun _ => kk M2 N2 hv2) (fun h => absurd rfl h)
def am_l7 : List (Nat × Instr × Nat) := [(523, .aload_n 1, 1), (524, .aload_n 0, 1), (525, .iload_n 3, 1), (526, .iconst 1, 1), (527, .iadd, 1), (528, .iaload, 1), (529, .aload_n 0, 1), (530, .iload_n 3, 1), (531, .iconst 2, 1), (532, .iadd, 1), (533, .iaload, 1), (534, .invokevirtual 46, 3), (537, .aload_n 2, 1), (538, .aload_n 0, 1), (539, .iload_n 3, 1), (540, .iconst 1, 1), (541, .iadd, 1), (542, .iaload, 1), (543, .aload_n 0, 1), (544, .iload_n 3, 1), (545, .iconst 2, 1), (546, .iadd, 1), (547, .iaload, 1), (548, .invokevirtual 50, 3), (551, .if_icmp .eq 812, 3), (554, .iconst 0, 1), (555, .ireturn, 1)]
set_option maxRecDepth 100000 in
theorem am_lk7 : am_l7 = (am_t210.drop 321).take 27 := by rfl
theorem am_e7 {pc : Nat} {x : Instr × Nat} (h : am_l7.lookup pc = some x) : am_in 210 pc = some x := by
  refine am_in_of (am_c_at (i := 210) (by decide) rfl) (t := am_l7) (fun q hq => am_kt210 q ?_) h
  rw [am_lk7] at hq
  exact List.mem_of_mem_drop (List.mem_of_mem_take hq)
set_option maxRecDepth 20000 in
theorem lw_about {iv : am_Iv} {X : am_X} {M : am_M} {N : am_N} {Q : am_Q} {c : Nat} {x : Int32} (hp : am_pI iv X 37 151 [.int (X.2.2.2.2.2.2.2 (x + Int32.ofInt 1).toNatClampNeg), .int (X.2.2.2.2.2.2.2 (x + Int32.ofInt 2).toNatClampNeg)]) (hc : c < 512) (hi : iv c M N) (hv : ∀ k : Int, 1 ≤ k → k ≤ 6 → vp_in (x + Int32.ofInt k) X.2.2.2.2.2.2.1) (kk : ∀ M2 N2, iv (c + 1) M2 N2 → am_J X Q 210 1363 [.ref 1000000, .ref 0, .ref 120, .int x] [] M2 N2) : am_J X Q 210 523 [.ref 1000000, .ref 0, .ref 120, .int x] [] M N := by
  obtain ⟨v, mid, g1, g2⟩ := hp c M N hc hi
  refine J_b 5 am_e7 rfl ?_
  refine J_sld (am_e7 rfl) (hv 1 (by decide) (by decide)) ?_
  refine J_b 4 am_e7 rfl ?_
  refine J_sld (am_e7 rfl) (hv 2 (by decide) (by decide)) ?_
  refine J_V 37 (am_e7 rfl) rfl g1 (fun r M1 N1 hq => ?_)
  obtain ⟨rfl, hm⟩ := hq
  refine J_b 5 am_e7 rfl ?_
  refine J_sld (am_e7 rfl) (hv 1 (by decide) (by decide)) ?_
  refine J_b 4 am_e7 rfl ?_
  refine J_sld (am_e7 rfl) (hv 2 (by decide) (by decide)) ?_
  refine J_V 151 (am_e7 rfl) rfl (g2 M1 N1 hm) (fun r M2 N2 hq => ?_)
  obtain ⟨rfl, hv2⟩ := hq
  exact J_icmp_eq 1363 (am_e7 rfl) rfl (fun _ => kk M2 N2 hv2) (fun h => absurd rfl h)
def am_l8 : List (Nat × Instr × Nat) := [(556, .aload_n 1, 1), (557, .aload_n 0, 1), (558, .iload_n 3, 1), (559, .iconst 1, 1), (560, .iadd, 1), (561, .iaload, 1), (562, .aload_n 0, 1), (563, .iload_n 3, 1), (564, .iconst 2, 1), (565, .iadd, 1), (566, .iaload, 1), (567, .aload_n 0, 1), (568, .iload_n 3, 1), (569, .iconst 3, 1), (570, .iadd, 1), (571, .iaload, 1), (572, .invokevirtual 51, 3), (575, .aload_n 2, 1), (576, .aload_n 0, 1), (577, .iload_n 3, 1), (578, .iconst 1, 1), (579, .iadd, 1), (580, .iaload, 1), (581, .aload_n 0, 1), (582, .iload_n 3, 1), (583, .iconst 2, 1), (584, .iadd, 1), (585, .iaload, 1), (586, .aload_n 0, 1), (587, .iload_n 3, 1), (588, .iconst 3, 1), (589, .iadd, 1), (590, .iaload, 1), (591, .invokevirtual 54, 3), (594, .if_icmp .eq 769, 3), (597, .iconst 0, 1), (598, .ireturn, 1)]
set_option maxRecDepth 100000 in
theorem am_lk8 : am_l8 = (am_t210.drop 348).take 37 := by rfl
theorem am_e8 {pc : Nat} {x : Instr × Nat} (h : am_l8.lookup pc = some x) : am_in 210 pc = some x := by
  refine am_in_of (am_c_at (i := 210) (by decide) rfl) (t := am_l8) (fun q hq => am_kt210 q ?_) h
  rw [am_lk8] at hq
  exact List.mem_of_mem_drop (List.mem_of_mem_take hq)
set_option maxRecDepth 20000 in
theorem lw_parts {iv : am_Iv} {X : am_X} {M : am_M} {N : am_N} {Q : am_Q} {c : Nat} {x : Int32} (hp : am_pI iv X 38 153 [.int (X.2.2.2.2.2.2.2 (x + Int32.ofInt 1).toNatClampNeg), .int (X.2.2.2.2.2.2.2 (x + Int32.ofInt 2).toNatClampNeg), .int (X.2.2.2.2.2.2.2 (x + Int32.ofInt 3).toNatClampNeg)]) (hc : c < 512) (hi : iv c M N) (hv : ∀ k : Int, 1 ≤ k → k ≤ 6 → vp_in (x + Int32.ofInt k) X.2.2.2.2.2.2.1) (kk : ∀ M2 N2, iv (c + 1) M2 N2 → am_J X Q 210 1363 [.ref 1000000, .ref 0, .ref 120, .int x] [] M2 N2) : am_J X Q 210 556 [.ref 1000000, .ref 0, .ref 120, .int x] [] M N := by
  obtain ⟨v, mid, g1, g2⟩ := hp c M N hc hi
  refine J_b 5 am_e8 rfl ?_
  refine J_sld (am_e8 rfl) (hv 1 (by decide) (by decide)) ?_
  refine J_b 4 am_e8 rfl ?_
  refine J_sld (am_e8 rfl) (hv 2 (by decide) (by decide)) ?_
  refine J_b 4 am_e8 rfl ?_
  refine J_sld (am_e8 rfl) (hv 3 (by decide) (by decide)) ?_
  refine J_V 38 (am_e8 rfl) rfl g1 (fun r M1 N1 hq => ?_)
  obtain ⟨rfl, hm⟩ := hq
  refine J_b 5 am_e8 rfl ?_
  refine J_sld (am_e8 rfl) (hv 1 (by decide) (by decide)) ?_
  refine J_b 4 am_e8 rfl ?_
  refine J_sld (am_e8 rfl) (hv 2 (by decide) (by decide)) ?_
  refine J_b 4 am_e8 rfl ?_
  refine J_sld (am_e8 rfl) (hv 3 (by decide) (by decide)) ?_
  refine J_V 153 (am_e8 rfl) rfl (g2 M1 N1 hm) (fun r M2 N2 hq => ?_)
  obtain ⟨rfl, hv2⟩ := hq
  exact J_icmp_eq 1363 (am_e8 rfl) rfl (fun _ => kk M2 N2 hv2) (fun h => absurd rfl h)
def am_l9 : List (Nat × Instr × Nat) := [(599, .aload_n 1, 1), (600, .aload_n 0, 1), (601, .iload_n 3, 1), (602, .iconst 1, 1), (603, .iadd, 1), (604, .iaload, 1), (605, .aload_n 0, 1), (606, .iload_n 3, 1), (607, .iconst 2, 1), (608, .iadd, 1), (609, .iaload, 1), (610, .aload_n 0, 1), (611, .iload_n 3, 1), (612, .iconst 3, 1), (613, .iadd, 1), (614, .iaload, 1), (615, .aload_n 0, 1), (616, .iload_n 3, 1), (617, .iconst 4, 1), (618, .iadd, 1), (619, .iaload, 1), (620, .aload_n 0, 1), (621, .iload_n 3, 1), (622, .iconst 5, 1), (623, .iadd, 1), (624, .iaload, 1), (625, .invokevirtual 55, 3), (628, .aload_n 2, 1), (629, .aload_n 0, 1), (630, .iload_n 3, 1), (631, .iconst 1, 1), (632, .iadd, 1), (633, .iaload, 1), (634, .aload_n 0, 1), (635, .iload_n 3, 1), (636, .iconst 2, 1), (637, .iadd, 1), (638, .iaload, 1), (639, .aload_n 0, 1), (640, .iload_n 3, 1), (641, .iconst 3, 1), (642, .iadd, 1), (643, .iaload, 1), (644, .aload_n 0, 1), (645, .iload_n 3, 1), (646, .iconst 4, 1), (647, .iadd, 1), (648, .iaload, 1), (649, .aload_n 0, 1), (650, .iload_n 3, 1), (651, .iconst 5, 1), (652, .iadd, 1), (653, .iaload, 1), (654, .invokevirtual 58, 3), (657, .if_icmp .eq 706, 3), (660, .iconst 0, 1), (661, .ireturn, 1)]
set_option maxRecDepth 100000 in
theorem am_lk9 : am_l9 = (am_t210.drop 385).take 57 := by rfl
theorem am_e9 {pc : Nat} {x : Instr × Nat} (h : am_l9.lookup pc = some x) : am_in 210 pc = some x := by
  refine am_in_of (am_c_at (i := 210) (by decide) rfl) (t := am_l9) (fun q hq => am_kt210 q ?_) h
  rw [am_lk9] at hq
  exact List.mem_of_mem_drop (List.mem_of_mem_take hq)
set_option maxRecDepth 20000 in
theorem lw_partsAt {iv : am_Iv} {X : am_X} {M : am_M} {N : am_N} {Q : am_Q} {c : Nat} {x : Int32} (hp : am_pI iv X 56 160 [.int (X.2.2.2.2.2.2.2 (x + Int32.ofInt 1).toNatClampNeg), .int (X.2.2.2.2.2.2.2 (x + Int32.ofInt 2).toNatClampNeg), .int (X.2.2.2.2.2.2.2 (x + Int32.ofInt 3).toNatClampNeg), .int (X.2.2.2.2.2.2.2 (x + Int32.ofInt 4).toNatClampNeg), .int (X.2.2.2.2.2.2.2 (x + Int32.ofInt 5).toNatClampNeg)]) (hc : c < 512) (hi : iv c M N) (hv : ∀ k : Int, 1 ≤ k → k ≤ 6 → vp_in (x + Int32.ofInt k) X.2.2.2.2.2.2.1) (kk : ∀ M2 N2, iv (c + 1) M2 N2 → am_J X Q 210 1363 [.ref 1000000, .ref 0, .ref 120, .int x] [] M2 N2) : am_J X Q 210 599 [.ref 1000000, .ref 0, .ref 120, .int x] [] M N := by
  obtain ⟨v, mid, g1, g2⟩ := hp c M N hc hi
  refine J_b 5 am_e9 rfl ?_
  refine J_sld (am_e9 rfl) (hv 1 (by decide) (by decide)) ?_
  refine J_b 4 am_e9 rfl ?_
  refine J_sld (am_e9 rfl) (hv 2 (by decide) (by decide)) ?_
  refine J_b 4 am_e9 rfl ?_
  refine J_sld (am_e9 rfl) (hv 3 (by decide) (by decide)) ?_
  refine J_b 4 am_e9 rfl ?_
  refine J_sld (am_e9 rfl) (hv 4 (by decide) (by decide)) ?_
  refine J_b 4 am_e9 rfl ?_
  refine J_sld (am_e9 rfl) (hv 5 (by decide) (by decide)) ?_
  refine J_V 56 (am_e9 rfl) rfl g1 (fun r M1 N1 hq => ?_)
  obtain ⟨rfl, hm⟩ := hq
  refine J_b 5 am_e9 rfl ?_
  refine J_sld (am_e9 rfl) (hv 1 (by decide) (by decide)) ?_
  refine J_b 4 am_e9 rfl ?_
  refine J_sld (am_e9 rfl) (hv 2 (by decide) (by decide)) ?_
  refine J_b 4 am_e9 rfl ?_
  refine J_sld (am_e9 rfl) (hv 3 (by decide) (by decide)) ?_
  refine J_b 4 am_e9 rfl ?_
  refine J_sld (am_e9 rfl) (hv 4 (by decide) (by decide)) ?_
  refine J_b 4 am_e9 rfl ?_
  refine J_sld (am_e9 rfl) (hv 5 (by decide) (by decide)) ?_
  refine J_V 160 (am_e9 rfl) rfl (g2 M1 N1 hm) (fun r M2 N2 hq => ?_)
  obtain ⟨rfl, hv2⟩ := hq
  exact J_icmp_eq 1363 (am_e9 rfl) rfl (fun _ => kk M2 N2 hv2) (fun h => absurd rfl h)
def am_l10 : List (Nat × Instr × Nat) := [(662, .aload_n 1, 1), (663, .aload_n 0, 1), (664, .iload_n 3, 1), (665, .iconst 1, 1), (666, .iadd, 1), (667, .iaload, 1), (668, .aload_n 0, 1), (669, .iload_n 3, 1), (670, .iconst 2, 1), (671, .iadd, 1), (672, .iaload, 1), (673, .invokevirtual 59, 3), (676, .aload_n 2, 1), (677, .aload_n 0, 1), (678, .iload_n 3, 1), (679, .iconst 1, 1), (680, .iadd, 1), (681, .iaload, 1), (682, .aload_n 0, 1), (683, .iload_n 3, 1), (684, .iconst 2, 1), (685, .iadd, 1), (686, .iaload, 1), (687, .invokevirtual 62, 3), (690, .if_icmp .eq 673, 3), (693, .iconst 0, 1), (694, .ireturn, 1)]
set_option maxRecDepth 100000 in
theorem am_lk10 : am_l10 = (am_t210.drop 442).take 27 := by rfl
theorem am_e10 {pc : Nat} {x : Instr × Nat} (h : am_l10.lookup pc = some x) : am_in 210 pc = some x := by
  refine am_in_of (am_c_at (i := 210) (by decide) rfl) (t := am_l10) (fun q hq => am_kt210 q ?_) h
  rw [am_lk10] at hq
  exact List.mem_of_mem_drop (List.mem_of_mem_take hq)
set_option maxRecDepth 20000 in
theorem lw_apart {iv : am_Iv} {X : am_X} {M : am_M} {N : am_N} {Q : am_Q} {c : Nat} {x : Int32} (hp : am_pI iv X 59 161 [.int (X.2.2.2.2.2.2.2 (x + Int32.ofInt 1).toNatClampNeg), .int (X.2.2.2.2.2.2.2 (x + Int32.ofInt 2).toNatClampNeg)]) (hc : c < 512) (hi : iv c M N) (hv : ∀ k : Int, 1 ≤ k → k ≤ 6 → vp_in (x + Int32.ofInt k) X.2.2.2.2.2.2.1) (kk : ∀ M2 N2, iv (c + 1) M2 N2 → am_J X Q 210 1363 [.ref 1000000, .ref 0, .ref 120, .int x] [] M2 N2) : am_J X Q 210 662 [.ref 1000000, .ref 0, .ref 120, .int x] [] M N := by
  obtain ⟨v, mid, g1, g2⟩ := hp c M N hc hi
  refine J_b 5 am_e10 rfl ?_
  refine J_sld (am_e10 rfl) (hv 1 (by decide) (by decide)) ?_
  refine J_b 4 am_e10 rfl ?_
  refine J_sld (am_e10 rfl) (hv 2 (by decide) (by decide)) ?_
  refine J_V 59 (am_e10 rfl) rfl g1 (fun r M1 N1 hq => ?_)
  obtain ⟨rfl, hm⟩ := hq
  refine J_b 5 am_e10 rfl ?_
  refine J_sld (am_e10 rfl) (hv 1 (by decide) (by decide)) ?_
  refine J_b 4 am_e10 rfl ?_
  refine J_sld (am_e10 rfl) (hv 2 (by decide) (by decide)) ?_
  refine J_V 161 (am_e10 rfl) rfl (g2 M1 N1 hm) (fun r M2 N2 hq => ?_)
  obtain ⟨rfl, hv2⟩ := hq
  exact J_icmp_eq 1363 (am_e10 rfl) rfl (fun _ => kk M2 N2 hv2) (fun h => absurd rfl h)
def am_l11 : List (Nat × Instr × Nat) := [(695, .aload_n 1, 1), (696, .aload_n 0, 1), (697, .iload_n 3, 1), (698, .iconst 1, 1), (699, .iadd, 1), (700, .iaload, 1), (701, .aload_n 0, 1), (702, .iload_n 3, 1), (703, .iconst 2, 1), (704, .iadd, 1), (705, .iaload, 1), (706, .aload_n 0, 1), (707, .iload_n 3, 1), (708, .iconst 3, 1), (709, .iadd, 1), (710, .iaload, 1), (711, .invokevirtual 63, 3), (714, .aload_n 2, 1), (715, .aload_n 0, 1), (716, .iload_n 3, 1), (717, .iconst 1, 1), (718, .iadd, 1), (719, .iaload, 1), (720, .aload_n 0, 1), (721, .iload_n 3, 1), (722, .iconst 2, 1), (723, .iadd, 1), (724, .iaload, 1), (725, .aload_n 0, 1), (726, .iload_n 3, 1), (727, .iconst 3, 1), (728, .iadd, 1), (729, .iaload, 1), (730, .invokevirtual 66, 3), (733, .if_icmp .eq 630, 3), (736, .iconst 0, 1), (737, .ireturn, 1)]
set_option maxRecDepth 100000 in
theorem am_lk11 : am_l11 = (am_t210.drop 469).take 37 := by rfl
theorem am_e11 {pc : Nat} {x : Instr × Nat} (h : am_l11.lookup pc = some x) : am_in 210 pc = some x := by
  refine am_in_of (am_c_at (i := 210) (by decide) rfl) (t := am_l11) (fun q hq => am_kt210 q ?_) h
  rw [am_lk11] at hq
  exact List.mem_of_mem_drop (List.mem_of_mem_take hq)
set_option maxRecDepth 20000 in
theorem lw_name {iv : am_Iv} {X : am_X} {M : am_M} {N : am_N} {Q : am_Q} {c : Nat} {x : Int32} (hp : am_pI iv X 61 162 [.int (X.2.2.2.2.2.2.2 (x + Int32.ofInt 1).toNatClampNeg), .int (X.2.2.2.2.2.2.2 (x + Int32.ofInt 2).toNatClampNeg), .int (X.2.2.2.2.2.2.2 (x + Int32.ofInt 3).toNatClampNeg)]) (hc : c < 512) (hi : iv c M N) (hv : ∀ k : Int, 1 ≤ k → k ≤ 6 → vp_in (x + Int32.ofInt k) X.2.2.2.2.2.2.1) (kk : ∀ M2 N2, iv (c + 1) M2 N2 → am_J X Q 210 1363 [.ref 1000000, .ref 0, .ref 120, .int x] [] M2 N2) : am_J X Q 210 695 [.ref 1000000, .ref 0, .ref 120, .int x] [] M N := by
  obtain ⟨v, mid, g1, g2⟩ := hp c M N hc hi
  refine J_b 5 am_e11 rfl ?_
  refine J_sld (am_e11 rfl) (hv 1 (by decide) (by decide)) ?_
  refine J_b 4 am_e11 rfl ?_
  refine J_sld (am_e11 rfl) (hv 2 (by decide) (by decide)) ?_
  refine J_b 4 am_e11 rfl ?_
  refine J_sld (am_e11 rfl) (hv 3 (by decide) (by decide)) ?_
  refine J_V 61 (am_e11 rfl) rfl g1 (fun r M1 N1 hq => ?_)
  obtain ⟨rfl, hm⟩ := hq
  refine J_b 5 am_e11 rfl ?_
  refine J_sld (am_e11 rfl) (hv 1 (by decide) (by decide)) ?_
  refine J_b 4 am_e11 rfl ?_
  refine J_sld (am_e11 rfl) (hv 2 (by decide) (by decide)) ?_
  refine J_b 4 am_e11 rfl ?_
  refine J_sld (am_e11 rfl) (hv 3 (by decide) (by decide)) ?_
  refine J_V 162 (am_e11 rfl) rfl (g2 M1 N1 hm) (fun r M2 N2 hq => ?_)
  obtain ⟨rfl, hv2⟩ := hq
  exact J_icmp_eq 1363 (am_e11 rfl) rfl (fun _ => kk M2 N2 hv2) (fun h => absurd rfl h)
def am_l12 : List (Nat × Instr × Nat) := [(738, .aload_n 1, 1), (739, .aload_n 0, 1), (740, .iload_n 3, 1), (741, .iconst 1, 1), (742, .iadd, 1), (743, .iaload, 1), (744, .aload_n 0, 1), (745, .iload_n 3, 1), (746, .iconst 2, 1), (747, .iadd, 1), (748, .iaload, 1), (749, .aload_n 0, 1), (750, .iload_n 3, 1), (751, .iconst 3, 1), (752, .iadd, 1), (753, .iaload, 1), (754, .aload_n 0, 1), (755, .iload_n 3, 1), (756, .iconst 4, 1), (757, .iadd, 1), (758, .iaload, 1), (759, .aload_n 0, 1), (760, .iload_n 3, 1), (761, .iconst 5, 1), (762, .iadd, 1), (763, .iaload, 1), (764, .invokevirtual 67, 3), (767, .aload_n 2, 1), (768, .aload_n 0, 1), (769, .iload_n 3, 1), (770, .iconst 1, 1), (771, .iadd, 1), (772, .iaload, 1), (773, .aload_n 0, 1), (774, .iload_n 3, 1), (775, .iconst 2, 1), (776, .iadd, 1), (777, .iaload, 1), (778, .aload_n 0, 1), (779, .iload_n 3, 1), (780, .iconst 3, 1), (781, .iadd, 1), (782, .iaload, 1), (783, .aload_n 0, 1), (784, .iload_n 3, 1), (785, .iconst 4, 1), (786, .iadd, 1), (787, .iaload, 1), (788, .aload_n 0, 1), (789, .iload_n 3, 1), (790, .iconst 5, 1), (791, .iadd, 1), (792, .iaload, 1), (793, .invokevirtual 70, 3), (796, .if_icmp .eq 567, 3), (799, .iconst 0, 1), (800, .ireturn, 1)]
set_option maxRecDepth 100000 in
theorem am_lk12 : am_l12 = (am_t210.drop 506).take 57 := by rfl
theorem am_e12 {pc : Nat} {x : Instr × Nat} (h : am_l12.lookup pc = some x) : am_in 210 pc = some x := by
  refine am_in_of (am_c_at (i := 210) (by decide) rfl) (t := am_l12) (fun q hq => am_kt210 q ?_) h
  rw [am_lk12] at hq
  exact List.mem_of_mem_drop (List.mem_of_mem_take hq)
set_option maxRecDepth 20000 in
theorem lw_find {iv : am_Iv} {X : am_X} {M : am_M} {N : am_N} {Q : am_Q} {c : Nat} {x : Int32} (hp : am_pI iv X 63 163 [.int (X.2.2.2.2.2.2.2 (x + Int32.ofInt 1).toNatClampNeg), .int (X.2.2.2.2.2.2.2 (x + Int32.ofInt 2).toNatClampNeg), .int (X.2.2.2.2.2.2.2 (x + Int32.ofInt 3).toNatClampNeg), .int (X.2.2.2.2.2.2.2 (x + Int32.ofInt 4).toNatClampNeg), .int (X.2.2.2.2.2.2.2 (x + Int32.ofInt 5).toNatClampNeg)]) (hc : c < 512) (hi : iv c M N) (hv : ∀ k : Int, 1 ≤ k → k ≤ 6 → vp_in (x + Int32.ofInt k) X.2.2.2.2.2.2.1) (kk : ∀ M2 N2, iv (c + 1) M2 N2 → am_J X Q 210 1363 [.ref 1000000, .ref 0, .ref 120, .int x] [] M2 N2) : am_J X Q 210 738 [.ref 1000000, .ref 0, .ref 120, .int x] [] M N := by
  obtain ⟨v, mid, g1, g2⟩ := hp c M N hc hi
  refine J_b 5 am_e12 rfl ?_
  refine J_sld (am_e12 rfl) (hv 1 (by decide) (by decide)) ?_
  refine J_b 4 am_e12 rfl ?_
  refine J_sld (am_e12 rfl) (hv 2 (by decide) (by decide)) ?_
  refine J_b 4 am_e12 rfl ?_
  refine J_sld (am_e12 rfl) (hv 3 (by decide) (by decide)) ?_
  refine J_b 4 am_e12 rfl ?_
  refine J_sld (am_e12 rfl) (hv 4 (by decide) (by decide)) ?_
  refine J_b 4 am_e12 rfl ?_
  refine J_sld (am_e12 rfl) (hv 5 (by decide) (by decide)) ?_
  refine J_V 63 (am_e12 rfl) rfl g1 (fun r M1 N1 hq => ?_)
  obtain ⟨rfl, hm⟩ := hq
  refine J_b 5 am_e12 rfl ?_
  refine J_sld (am_e12 rfl) (hv 1 (by decide) (by decide)) ?_
  refine J_b 4 am_e12 rfl ?_
  refine J_sld (am_e12 rfl) (hv 2 (by decide) (by decide)) ?_
  refine J_b 4 am_e12 rfl ?_
  refine J_sld (am_e12 rfl) (hv 3 (by decide) (by decide)) ?_
  refine J_b 4 am_e12 rfl ?_
  refine J_sld (am_e12 rfl) (hv 4 (by decide) (by decide)) ?_
  refine J_b 4 am_e12 rfl ?_
  refine J_sld (am_e12 rfl) (hv 5 (by decide) (by decide)) ?_
  refine J_V 163 (am_e12 rfl) rfl (g2 M1 N1 hm) (fun r M2 N2 hq => ?_)
  obtain ⟨rfl, hv2⟩ := hq
  exact J_icmp_eq 1363 (am_e12 rfl) rfl (fun _ => kk M2 N2 hv2) (fun h => absurd rfl h)
def am_l13 : List (Nat × Instr × Nat) := [(801, .aload_n 1, 1), (802, .aload_n 0, 1), (803, .iload_n 3, 1), (804, .iconst 1, 1), (805, .iadd, 1), (806, .iaload, 1), (807, .invokevirtual 71, 3), (810, .aload_n 2, 1), (811, .aload_n 0, 1), (812, .iload_n 3, 1), (813, .iconst 1, 1), (814, .iadd, 1), (815, .iaload, 1), (816, .invokevirtual 74, 3), (819, .if_icmp .eq 544, 3), (822, .iconst 0, 1), (823, .ireturn, 1)]
set_option maxRecDepth 100000 in
theorem am_lk13 : am_l13 = (am_t210.drop 563).take 17 := by rfl
theorem am_e13 {pc : Nat} {x : Instr × Nat} (h : am_l13.lookup pc = some x) : am_in 210 pc = some x := by
  refine am_in_of (am_c_at (i := 210) (by decide) rfl) (t := am_l13) (fun q hq => am_kt210 q ?_) h
  rw [am_lk13] at hq
  exact List.mem_of_mem_drop (List.mem_of_mem_take hq)
set_option maxRecDepth 20000 in
theorem lw_clock {iv : am_Iv} {X : am_X} {M : am_M} {N : am_N} {Q : am_Q} {c : Nat} {x : Int32} (hp : am_pI iv X 67 166 [.int (X.2.2.2.2.2.2.2 (x + Int32.ofInt 1).toNatClampNeg)]) (hc : c < 512) (hi : iv c M N) (hv : ∀ k : Int, 1 ≤ k → k ≤ 6 → vp_in (x + Int32.ofInt k) X.2.2.2.2.2.2.1) (kk : ∀ M2 N2, iv (c + 1) M2 N2 → am_J X Q 210 1363 [.ref 1000000, .ref 0, .ref 120, .int x] [] M2 N2) : am_J X Q 210 801 [.ref 1000000, .ref 0, .ref 120, .int x] [] M N := by
  obtain ⟨v, mid, g1, g2⟩ := hp c M N hc hi
  refine J_b 5 am_e13 rfl ?_
  refine J_sld (am_e13 rfl) (hv 1 (by decide) (by decide)) ?_
  refine J_V 67 (am_e13 rfl) rfl g1 (fun r M1 N1 hq => ?_)
  obtain ⟨rfl, hm⟩ := hq
  refine J_b 5 am_e13 rfl ?_
  refine J_sld (am_e13 rfl) (hv 1 (by decide) (by decide)) ?_
  refine J_V 166 (am_e13 rfl) rfl (g2 M1 N1 hm) (fun r M2 N2 hq => ?_)
  obtain ⟨rfl, hv2⟩ := hq
  exact J_icmp_eq 1363 (am_e13 rfl) rfl (fun _ => kk M2 N2 hv2) (fun h => absurd rfl h)
def am_l14 : List (Nat × Instr × Nat) := [(824, .aload_n 1, 1), (825, .aload_n 0, 1), (826, .iload_n 3, 1), (827, .iconst 1, 1), (828, .iadd, 1), (829, .iaload, 1), (830, .aload_n 0, 1), (831, .iload_n 3, 1), (832, .iconst 2, 1), (833, .iadd, 1), (834, .iaload, 1), (835, .invokevirtual 75, 3), (838, .aload_n 2, 1), (839, .aload_n 0, 1), (840, .iload_n 3, 1), (841, .iconst 1, 1), (842, .iadd, 1), (843, .iaload, 1), (844, .aload_n 0, 1), (845, .iload_n 3, 1), (846, .iconst 2, 1), (847, .iadd, 1), (848, .iaload, 1), (849, .invokevirtual 78, 3), (852, .if_icmp .eq 511, 3), (855, .iconst 0, 1), (856, .ireturn, 1)]
set_option maxRecDepth 100000 in
theorem am_lk14 : am_l14 = (am_t210.drop 580).take 27 := by rfl
theorem am_e14 {pc : Nat} {x : Instr × Nat} (h : am_l14.lookup pc = some x) : am_in 210 pc = some x := by
  refine am_in_of (am_c_at (i := 210) (by decide) rfl) (t := am_l14) (fun q hq => am_kt210 q ?_) h
  rw [am_lk14] at hq
  exact List.mem_of_mem_drop (List.mem_of_mem_take hq)
set_option maxRecDepth 20000 in
theorem lw_drop {iv : am_Iv} {X : am_X} {M : am_M} {N : am_N} {Q : am_Q} {c : Nat} {x : Int32} (hp : am_pI iv X 68 167 [.int (X.2.2.2.2.2.2.2 (x + Int32.ofInt 1).toNatClampNeg), .int (X.2.2.2.2.2.2.2 (x + Int32.ofInt 2).toNatClampNeg)]) (hc : c < 512) (hi : iv c M N) (hv : ∀ k : Int, 1 ≤ k → k ≤ 6 → vp_in (x + Int32.ofInt k) X.2.2.2.2.2.2.1) (kk : ∀ M2 N2, iv (c + 1) M2 N2 → am_J X Q 210 1363 [.ref 1000000, .ref 0, .ref 120, .int x] [] M2 N2) : am_J X Q 210 824 [.ref 1000000, .ref 0, .ref 120, .int x] [] M N := by
  obtain ⟨v, mid, g1, g2⟩ := hp c M N hc hi
  refine J_b 5 am_e14 rfl ?_
  refine J_sld (am_e14 rfl) (hv 1 (by decide) (by decide)) ?_
  refine J_b 4 am_e14 rfl ?_
  refine J_sld (am_e14 rfl) (hv 2 (by decide) (by decide)) ?_
  refine J_V 68 (am_e14 rfl) rfl g1 (fun r M1 N1 hq => ?_)
  obtain ⟨rfl, hm⟩ := hq
  refine J_b 5 am_e14 rfl ?_
  refine J_sld (am_e14 rfl) (hv 1 (by decide) (by decide)) ?_
  refine J_b 4 am_e14 rfl ?_
  refine J_sld (am_e14 rfl) (hv 2 (by decide) (by decide)) ?_
  refine J_V 167 (am_e14 rfl) rfl (g2 M1 N1 hm) (fun r M2 N2 hq => ?_)
  obtain ⟨rfl, hv2⟩ := hq
  exact J_icmp_eq 1363 (am_e14 rfl) rfl (fun _ => kk M2 N2 hv2) (fun h => absurd rfl h)
def am_l15 : List (Nat × Instr × Nat) := [(857, .aload_n 1, 1), (858, .aload_n 0, 1), (859, .iload_n 3, 1), (860, .iconst 1, 1), (861, .iadd, 1), (862, .iaload, 1), (863, .aload_n 0, 1), (864, .iload_n 3, 1), (865, .iconst 2, 1), (866, .iadd, 1), (867, .iaload, 1), (868, .invokevirtual 79, 3), (871, .aload_n 2, 1), (872, .aload_n 0, 1), (873, .iload_n 3, 1), (874, .iconst 1, 1), (875, .iadd, 1), (876, .iaload, 1), (877, .aload_n 0, 1), (878, .iload_n 3, 1), (879, .iconst 2, 1), (880, .iadd, 1), (881, .iaload, 1), (882, .invokevirtual 82, 3), (885, .if_icmp .eq 478, 3), (888, .iconst 0, 1), (889, .ireturn, 1)]
set_option maxRecDepth 100000 in
theorem am_lk15 : am_l15 = (am_t210.drop 607).take 27 := by rfl
theorem am_e15 {pc : Nat} {x : Instr × Nat} (h : am_l15.lookup pc = some x) : am_in 210 pc = some x := by
  refine am_in_of (am_c_at (i := 210) (by decide) rfl) (t := am_l15) (fun q hq => am_kt210 q ?_) h
  rw [am_lk15] at hq
  exact List.mem_of_mem_drop (List.mem_of_mem_take hq)
set_option maxRecDepth 20000 in
theorem lw_weight {iv : am_Iv} {X : am_X} {M : am_M} {N : am_N} {Q : am_Q} {c : Nat} {x : Int32} (hp : am_pI iv X 69 169 [.int (X.2.2.2.2.2.2.2 (x + Int32.ofInt 1).toNatClampNeg), .int (X.2.2.2.2.2.2.2 (x + Int32.ofInt 2).toNatClampNeg)]) (hc : c < 512) (hi : iv c M N) (hv : ∀ k : Int, 1 ≤ k → k ≤ 6 → vp_in (x + Int32.ofInt k) X.2.2.2.2.2.2.1) (kk : ∀ M2 N2, iv (c + 1) M2 N2 → am_J X Q 210 1363 [.ref 1000000, .ref 0, .ref 120, .int x] [] M2 N2) : am_J X Q 210 857 [.ref 1000000, .ref 0, .ref 120, .int x] [] M N := by
  obtain ⟨v, mid, g1, g2⟩ := hp c M N hc hi
  refine J_b 5 am_e15 rfl ?_
  refine J_sld (am_e15 rfl) (hv 1 (by decide) (by decide)) ?_
  refine J_b 4 am_e15 rfl ?_
  refine J_sld (am_e15 rfl) (hv 2 (by decide) (by decide)) ?_
  refine J_V 69 (am_e15 rfl) rfl g1 (fun r M1 N1 hq => ?_)
  obtain ⟨rfl, hm⟩ := hq
  refine J_b 5 am_e15 rfl ?_
  refine J_sld (am_e15 rfl) (hv 1 (by decide) (by decide)) ?_
  refine J_b 4 am_e15 rfl ?_
  refine J_sld (am_e15 rfl) (hv 2 (by decide) (by decide)) ?_
  refine J_V 169 (am_e15 rfl) rfl (g2 M1 N1 hm) (fun r M2 N2 hq => ?_)
  obtain ⟨rfl, hv2⟩ := hq
  exact J_icmp_eq 1363 (am_e15 rfl) rfl (fun _ => kk M2 N2 hv2) (fun h => absurd rfl h)
def am_l16 : List (Nat × Instr × Nat) := [(890, .aload_n 1, 1), (891, .aload_n 0, 1), (892, .iload_n 3, 1), (893, .iconst 1, 1), (894, .iadd, 1), (895, .iaload, 1), (896, .invokevirtual 83, 3), (899, .aload_n 2, 1), (900, .aload_n 0, 1), (901, .iload_n 3, 1), (902, .iconst 1, 1), (903, .iadd, 1), (904, .iaload, 1), (905, .invokevirtual 86, 3), (908, .if_icmp .eq 455, 3), (911, .iconst 0, 1), (912, .ireturn, 1)]
set_option maxRecDepth 100000 in
theorem am_lk16 : am_l16 = (am_t210.drop 634).take 17 := by rfl
theorem am_e16 {pc : Nat} {x : Instr × Nat} (h : am_l16.lookup pc = some x) : am_in 210 pc = some x := by
  refine am_in_of (am_c_at (i := 210) (by decide) rfl) (t := am_l16) (fun q hq => am_kt210 q ?_) h
  rw [am_lk16] at hq
  exact List.mem_of_mem_drop (List.mem_of_mem_take hq)
set_option maxRecDepth 20000 in
theorem lw_judge {iv : am_Iv} {X : am_X} {M : am_M} {N : am_N} {Q : am_Q} {c : Nat} {x : Int32} (hp : am_pI iv X 74 173 [.int (X.2.2.2.2.2.2.2 (x + Int32.ofInt 1).toNatClampNeg)]) (hc : c < 512) (hi : iv c M N) (hv : ∀ k : Int, 1 ≤ k → k ≤ 6 → vp_in (x + Int32.ofInt k) X.2.2.2.2.2.2.1) (kk : ∀ M2 N2, iv (c + 1) M2 N2 → am_J X Q 210 1363 [.ref 1000000, .ref 0, .ref 120, .int x] [] M2 N2) : am_J X Q 210 890 [.ref 1000000, .ref 0, .ref 120, .int x] [] M N := by
  obtain ⟨v, mid, g1, g2⟩ := hp c M N hc hi
  refine J_b 5 am_e16 rfl ?_
  refine J_sld (am_e16 rfl) (hv 1 (by decide) (by decide)) ?_
  refine J_V 74 (am_e16 rfl) rfl g1 (fun r M1 N1 hq => ?_)
  obtain ⟨rfl, hm⟩ := hq
  refine J_b 5 am_e16 rfl ?_
  refine J_sld (am_e16 rfl) (hv 1 (by decide) (by decide)) ?_
  refine J_V 173 (am_e16 rfl) rfl (g2 M1 N1 hm) (fun r M2 N2 hq => ?_)
  obtain ⟨rfl, hv2⟩ := hq
  exact J_icmp_eq 1363 (am_e16 rfl) rfl (fun _ => kk M2 N2 hv2) (fun h => absurd rfl h)
def am_l17 : List (Nat × Instr × Nat) := [(913, .aload_n 1, 1), (914, .aload_n 0, 1), (915, .iload_n 3, 1), (916, .iconst 1, 1), (917, .iadd, 1), (918, .iaload, 1), (919, .invokevirtual 87, 3), (922, .aload_n 2, 1), (923, .aload_n 0, 1), (924, .iload_n 3, 1), (925, .iconst 1, 1), (926, .iadd, 1), (927, .iaload, 1), (928, .invokevirtual 90, 3), (931, .if_icmp .eq 432, 3), (934, .iconst 0, 1), (935, .ireturn, 1)]
set_option maxRecDepth 100000 in
theorem am_lk17 : am_l17 = (am_t210.drop 651).take 17 := by rfl
theorem am_e17 {pc : Nat} {x : Instr × Nat} (h : am_l17.lookup pc = some x) : am_in 210 pc = some x := by
  refine am_in_of (am_c_at (i := 210) (by decide) rfl) (t := am_l17) (fun q hq => am_kt210 q ?_) h
  rw [am_lk17] at hq
  exact List.mem_of_mem_drop (List.mem_of_mem_take hq)
set_option maxRecDepth 20000 in
theorem lw_best {iv : am_Iv} {X : am_X} {M : am_M} {N : am_N} {Q : am_Q} {c : Nat} {x : Int32} (hp : am_pI iv X 76 175 [.int (X.2.2.2.2.2.2.2 (x + Int32.ofInt 1).toNatClampNeg)]) (hc : c < 512) (hi : iv c M N) (hv : ∀ k : Int, 1 ≤ k → k ≤ 6 → vp_in (x + Int32.ofInt k) X.2.2.2.2.2.2.1) (kk : ∀ M2 N2, iv (c + 1) M2 N2 → am_J X Q 210 1363 [.ref 1000000, .ref 0, .ref 120, .int x] [] M2 N2) : am_J X Q 210 913 [.ref 1000000, .ref 0, .ref 120, .int x] [] M N := by
  obtain ⟨v, mid, g1, g2⟩ := hp c M N hc hi
  refine J_b 5 am_e17 rfl ?_
  refine J_sld (am_e17 rfl) (hv 1 (by decide) (by decide)) ?_
  refine J_V 76 (am_e17 rfl) rfl g1 (fun r M1 N1 hq => ?_)
  obtain ⟨rfl, hm⟩ := hq
  refine J_b 5 am_e17 rfl ?_
  refine J_sld (am_e17 rfl) (hv 1 (by decide) (by decide)) ?_
  refine J_V 175 (am_e17 rfl) rfl (g2 M1 N1 hm) (fun r M2 N2 hq => ?_)
  obtain ⟨rfl, hv2⟩ := hq
  exact J_icmp_eq 1363 (am_e17 rfl) rfl (fun _ => kk M2 N2 hv2) (fun h => absurd rfl h)
def am_l18 : List (Nat × Instr × Nat) := [(936, .aload_n 1, 1), (937, .aload_n 0, 1), (938, .iload_n 3, 1), (939, .iconst 1, 1), (940, .iadd, 1), (941, .iaload, 1), (942, .invokevirtual 91, 3), (945, .aload_n 2, 1), (946, .aload_n 0, 1), (947, .iload_n 3, 1), (948, .iconst 1, 1), (949, .iadd, 1), (950, .iaload, 1), (951, .invokevirtual 94, 3), (954, .if_icmp .eq 409, 3), (957, .iconst 0, 1), (958, .ireturn, 1)]
set_option maxRecDepth 100000 in
theorem am_lk18 : am_l18 = (am_t210.drop 668).take 17 := by rfl
theorem am_e18 {pc : Nat} {x : Instr × Nat} (h : am_l18.lookup pc = some x) : am_in 210 pc = some x := by
  refine am_in_of (am_c_at (i := 210) (by decide) rfl) (t := am_l18) (fun q hq => am_kt210 q ?_) h
  rw [am_lk18] at hq
  exact List.mem_of_mem_drop (List.mem_of_mem_take hq)
set_option maxRecDepth 20000 in
theorem lw_cards {iv : am_Iv} {X : am_X} {M : am_M} {N : am_N} {Q : am_Q} {c : Nat} {x : Int32} (hp : am_pI iv X 78 177 [.int (X.2.2.2.2.2.2.2 (x + Int32.ofInt 1).toNatClampNeg)]) (hc : c < 512) (hi : iv c M N) (hv : ∀ k : Int, 1 ≤ k → k ≤ 6 → vp_in (x + Int32.ofInt k) X.2.2.2.2.2.2.1) (kk : ∀ M2 N2, iv (c + 1) M2 N2 → am_J X Q 210 1363 [.ref 1000000, .ref 0, .ref 120, .int x] [] M2 N2) : am_J X Q 210 936 [.ref 1000000, .ref 0, .ref 120, .int x] [] M N := by
  obtain ⟨v, mid, g1, g2⟩ := hp c M N hc hi
  refine J_b 5 am_e18 rfl ?_
  refine J_sld (am_e18 rfl) (hv 1 (by decide) (by decide)) ?_
  refine J_V 78 (am_e18 rfl) rfl g1 (fun r M1 N1 hq => ?_)
  obtain ⟨rfl, hm⟩ := hq
  refine J_b 5 am_e18 rfl ?_
  refine J_sld (am_e18 rfl) (hv 1 (by decide) (by decide)) ?_
  refine J_V 177 (am_e18 rfl) rfl (g2 M1 N1 hm) (fun r M2 N2 hq => ?_)
  obtain ⟨rfl, hv2⟩ := hq
  exact J_icmp_eq 1363 (am_e18 rfl) rfl (fun _ => kk M2 N2 hv2) (fun h => absurd rfl h)
def am_l19 : List (Nat × Instr × Nat) := [(959, .aload_n 1, 1), (960, .aload_n 0, 1), (961, .iload_n 3, 1), (962, .iconst 1, 1), (963, .iadd, 1), (964, .iaload, 1), (965, .invokevirtual 95, 3), (968, .aload_n 2, 1), (969, .aload_n 0, 1), (970, .iload_n 3, 1), (971, .iconst 1, 1), (972, .iadd, 1), (973, .iaload, 1), (974, .invokevirtual 98, 3), (977, .if_icmp .eq 386, 3), (980, .iconst 0, 1), (981, .ireturn, 1)]
set_option maxRecDepth 100000 in
theorem am_lk19 : am_l19 = (am_t210.drop 685).take 17 := by rfl
theorem am_e19 {pc : Nat} {x : Instr × Nat} (h : am_l19.lookup pc = some x) : am_in 210 pc = some x := by
  refine am_in_of (am_c_at (i := 210) (by decide) rfl) (t := am_l19) (fun q hq => am_kt210 q ?_) h
  rw [am_lk19] at hq
  exact List.mem_of_mem_drop (List.mem_of_mem_take hq)
set_option maxRecDepth 20000 in
theorem lw_twin {iv : am_Iv} {X : am_X} {M : am_M} {N : am_N} {Q : am_Q} {c : Nat} {x : Int32} (hp : am_pI iv X 80 178 [.int (X.2.2.2.2.2.2.2 (x + Int32.ofInt 1).toNatClampNeg)]) (hc : c < 512) (hi : iv c M N) (hv : ∀ k : Int, 1 ≤ k → k ≤ 6 → vp_in (x + Int32.ofInt k) X.2.2.2.2.2.2.1) (kk : ∀ M2 N2, iv (c + 1) M2 N2 → am_J X Q 210 1363 [.ref 1000000, .ref 0, .ref 120, .int x] [] M2 N2) : am_J X Q 210 959 [.ref 1000000, .ref 0, .ref 120, .int x] [] M N := by
  obtain ⟨v, mid, g1, g2⟩ := hp c M N hc hi
  refine J_b 5 am_e19 rfl ?_
  refine J_sld (am_e19 rfl) (hv 1 (by decide) (by decide)) ?_
  refine J_V 80 (am_e19 rfl) rfl g1 (fun r M1 N1 hq => ?_)
  obtain ⟨rfl, hm⟩ := hq
  refine J_b 5 am_e19 rfl ?_
  refine J_sld (am_e19 rfl) (hv 1 (by decide) (by decide)) ?_
  refine J_V 178 (am_e19 rfl) rfl (g2 M1 N1 hm) (fun r M2 N2 hq => ?_)
  obtain ⟨rfl, hv2⟩ := hq
  exact J_icmp_eq 1363 (am_e19 rfl) rfl (fun _ => kk M2 N2 hv2) (fun h => absurd rfl h)
def am_l20 : List (Nat × Instr × Nat) := [(982, .aload_n 1, 1), (983, .aload_n 0, 1), (984, .iload_n 3, 1), (985, .iconst 1, 1), (986, .iadd, 1), (987, .iaload, 1), (988, .aload_n 0, 1), (989, .iload_n 3, 1), (990, .iconst 2, 1), (991, .iadd, 1), (992, .iaload, 1), (993, .aload_n 0, 1), (994, .iload_n 3, 1), (995, .iconst 3, 1), (996, .iadd, 1), (997, .iaload, 1), (998, .invokevirtual 99, 3), (1001, .aload_n 2, 1), (1002, .aload_n 0, 1), (1003, .iload_n 3, 1), (1004, .iconst 1, 1), (1005, .iadd, 1), (1006, .iaload, 1), (1007, .aload_n 0, 1), (1008, .iload_n 3, 1), (1009, .iconst 2, 1), (1010, .iadd, 1), (1011, .iaload, 1), (1012, .aload_n 0, 1), (1013, .iload_n 3, 1), (1014, .iconst 3, 1), (1015, .iadd, 1), (1016, .iaload, 1), (1017, .invokevirtual 102, 3), (1020, .if_icmp .eq 343, 3), (1023, .iconst 0, 1), (1024, .ireturn, 1)]
set_option maxRecDepth 100000 in
theorem am_lk20 : am_l20 = (am_t210.drop 702).take 37 := by rfl
theorem am_e20 {pc : Nat} {x : Instr × Nat} (h : am_l20.lookup pc = some x) : am_in 210 pc = some x := by
  refine am_in_of (am_c_at (i := 210) (by decide) rfl) (t := am_l20) (fun q hq => am_kt210 q ?_) h
  rw [am_lk20] at hq
  exact List.mem_of_mem_drop (List.mem_of_mem_take hq)
set_option maxRecDepth 20000 in
theorem lw_got {iv : am_Iv} {X : am_X} {M : am_M} {N : am_N} {Q : am_Q} {c : Nat} {x : Int32} (hp : am_pI iv X 83 181 [.int (X.2.2.2.2.2.2.2 (x + Int32.ofInt 1).toNatClampNeg), .int (X.2.2.2.2.2.2.2 (x + Int32.ofInt 2).toNatClampNeg), .int (X.2.2.2.2.2.2.2 (x + Int32.ofInt 3).toNatClampNeg)]) (hc : c < 512) (hi : iv c M N) (hv : ∀ k : Int, 1 ≤ k → k ≤ 6 → vp_in (x + Int32.ofInt k) X.2.2.2.2.2.2.1) (kk : ∀ M2 N2, iv (c + 1) M2 N2 → am_J X Q 210 1363 [.ref 1000000, .ref 0, .ref 120, .int x] [] M2 N2) : am_J X Q 210 982 [.ref 1000000, .ref 0, .ref 120, .int x] [] M N := by
  obtain ⟨v, mid, g1, g2⟩ := hp c M N hc hi
  refine J_b 5 am_e20 rfl ?_
  refine J_sld (am_e20 rfl) (hv 1 (by decide) (by decide)) ?_
  refine J_b 4 am_e20 rfl ?_
  refine J_sld (am_e20 rfl) (hv 2 (by decide) (by decide)) ?_
  refine J_b 4 am_e20 rfl ?_
  refine J_sld (am_e20 rfl) (hv 3 (by decide) (by decide)) ?_
  refine J_V 83 (am_e20 rfl) rfl g1 (fun r M1 N1 hq => ?_)
  obtain ⟨rfl, hm⟩ := hq
  refine J_b 5 am_e20 rfl ?_
  refine J_sld (am_e20 rfl) (hv 1 (by decide) (by decide)) ?_
  refine J_b 4 am_e20 rfl ?_
  refine J_sld (am_e20 rfl) (hv 2 (by decide) (by decide)) ?_
  refine J_b 4 am_e20 rfl ?_
  refine J_sld (am_e20 rfl) (hv 3 (by decide) (by decide)) ?_
  refine J_V 181 (am_e20 rfl) rfl (g2 M1 N1 hm) (fun r M2 N2 hq => ?_)
  obtain ⟨rfl, hv2⟩ := hq
  exact J_icmp_eq 1363 (am_e20 rfl) rfl (fun _ => kk M2 N2 hv2) (fun h => absurd rfl h)
def am_l21 : List (Nat × Instr × Nat) := [(1025, .aload_n 1, 1), (1026, .aload_n 0, 1), (1027, .iload_n 3, 1), (1028, .iconst 1, 1), (1029, .iadd, 1), (1030, .iaload, 1), (1031, .aload_n 0, 1), (1032, .iload_n 3, 1), (1033, .iconst 2, 1), (1034, .iadd, 1), (1035, .iaload, 1), (1036, .invokevirtual 103, 3), (1039, .aload_n 2, 1), (1040, .aload_n 0, 1), (1041, .iload_n 3, 1), (1042, .iconst 1, 1), (1043, .iadd, 1), (1044, .iaload, 1), (1045, .aload_n 0, 1), (1046, .iload_n 3, 1), (1047, .iconst 2, 1), (1048, .iadd, 1), (1049, .iaload, 1), (1050, .invokevirtual 106, 3), (1053, .if_icmp .eq 310, 3), (1056, .iconst 0, 1), (1057, .ireturn, 1)]
set_option maxRecDepth 100000 in
theorem am_lk21 : am_l21 = (am_t210.drop 739).take 27 := by rfl
theorem am_e21 {pc : Nat} {x : Instr × Nat} (h : am_l21.lookup pc = some x) : am_in 210 pc = some x := by
  refine am_in_of (am_c_at (i := 210) (by decide) rfl) (t := am_l21) (fun q hq => am_kt210 q ?_) h
  rw [am_lk21] at hq
  exact List.mem_of_mem_drop (List.mem_of_mem_take hq)
set_option maxRecDepth 20000 in
theorem lw_move {iv : am_Iv} {X : am_X} {M : am_M} {N : am_N} {Q : am_Q} {c : Nat} {x : Int32} (hp : am_pI iv X 86 184 [.int (X.2.2.2.2.2.2.2 (x + Int32.ofInt 1).toNatClampNeg), .int (X.2.2.2.2.2.2.2 (x + Int32.ofInt 2).toNatClampNeg)]) (hc : c < 512) (hi : iv c M N) (hv : ∀ k : Int, 1 ≤ k → k ≤ 6 → vp_in (x + Int32.ofInt k) X.2.2.2.2.2.2.1) (kk : ∀ M2 N2, iv (c + 1) M2 N2 → am_J X Q 210 1363 [.ref 1000000, .ref 0, .ref 120, .int x] [] M2 N2) : am_J X Q 210 1025 [.ref 1000000, .ref 0, .ref 120, .int x] [] M N := by
  obtain ⟨v, mid, g1, g2⟩ := hp c M N hc hi
  refine J_b 5 am_e21 rfl ?_
  refine J_sld (am_e21 rfl) (hv 1 (by decide) (by decide)) ?_
  refine J_b 4 am_e21 rfl ?_
  refine J_sld (am_e21 rfl) (hv 2 (by decide) (by decide)) ?_
  refine J_V 86 (am_e21 rfl) rfl g1 (fun r M1 N1 hq => ?_)
  obtain ⟨rfl, hm⟩ := hq
  refine J_b 5 am_e21 rfl ?_
  refine J_sld (am_e21 rfl) (hv 1 (by decide) (by decide)) ?_
  refine J_b 4 am_e21 rfl ?_
  refine J_sld (am_e21 rfl) (hv 2 (by decide) (by decide)) ?_
  refine J_V 184 (am_e21 rfl) rfl (g2 M1 N1 hm) (fun r M2 N2 hq => ?_)
  obtain ⟨rfl, hv2⟩ := hq
  exact J_icmp_eq 1363 (am_e21 rfl) rfl (fun _ => kk M2 N2 hv2) (fun h => absurd rfl h)
def am_l22 : List (Nat × Instr × Nat) := [(1058, .aload_n 1, 1), (1059, .aload_n 0, 1), (1060, .iload_n 3, 1), (1061, .iconst 1, 1), (1062, .iadd, 1), (1063, .iaload, 1), (1064, .invokevirtual 107, 3), (1067, .aload_n 2, 1), (1068, .aload_n 0, 1), (1069, .iload_n 3, 1), (1070, .iconst 1, 1), (1071, .iadd, 1), (1072, .iaload, 1), (1073, .invokevirtual 110, 3), (1076, .if_icmp .eq 287, 3), (1079, .iconst 0, 1), (1080, .ireturn, 1)]
set_option maxRecDepth 100000 in
theorem am_lk22 : am_l22 = (am_t210.drop 766).take 17 := by rfl
theorem am_e22 {pc : Nat} {x : Instr × Nat} (h : am_l22.lookup pc = some x) : am_in 210 pc = some x := by
  refine am_in_of (am_c_at (i := 210) (by decide) rfl) (t := am_l22) (fun q hq => am_kt210 q ?_) h
  rw [am_lk22] at hq
  exact List.mem_of_mem_drop (List.mem_of_mem_take hq)
set_option maxRecDepth 20000 in
theorem lw_fit {iv : am_Iv} {X : am_X} {M : am_M} {N : am_N} {Q : am_Q} {c : Nat} {x : Int32} (hp : am_pI iv X 87 185 [.int (X.2.2.2.2.2.2.2 (x + Int32.ofInt 1).toNatClampNeg)]) (hc : c < 512) (hi : iv c M N) (hv : ∀ k : Int, 1 ≤ k → k ≤ 6 → vp_in (x + Int32.ofInt k) X.2.2.2.2.2.2.1) (kk : ∀ M2 N2, iv (c + 1) M2 N2 → am_J X Q 210 1363 [.ref 1000000, .ref 0, .ref 120, .int x] [] M2 N2) : am_J X Q 210 1058 [.ref 1000000, .ref 0, .ref 120, .int x] [] M N := by
  obtain ⟨v, mid, g1, g2⟩ := hp c M N hc hi
  refine J_b 5 am_e22 rfl ?_
  refine J_sld (am_e22 rfl) (hv 1 (by decide) (by decide)) ?_
  refine J_V 87 (am_e22 rfl) rfl g1 (fun r M1 N1 hq => ?_)
  obtain ⟨rfl, hm⟩ := hq
  refine J_b 5 am_e22 rfl ?_
  refine J_sld (am_e22 rfl) (hv 1 (by decide) (by decide)) ?_
  refine J_V 185 (am_e22 rfl) rfl (g2 M1 N1 hm) (fun r M2 N2 hq => ?_)
  obtain ⟨rfl, hv2⟩ := hq
  exact J_icmp_eq 1363 (am_e22 rfl) rfl (fun _ => kk M2 N2 hv2) (fun h => absurd rfl h)
def am_l23 : List (Nat × Instr × Nat) := [(1081, .aload_n 1, 1), (1082, .invokevirtual 111, 3), (1085, .aload_n 2, 1), (1086, .invokevirtual 115, 3), (1089, .lcmp, 1), (1090, .ifCond .eq 273, 3), (1093, .iconst 0, 1), (1094, .ireturn, 1)]
set_option maxRecDepth 100000 in
theorem am_lk23 : am_l23 = (am_t210.drop 783).take 8 := by rfl
theorem am_e23 {pc : Nat} {x : Instr × Nat} (h : am_l23.lookup pc = some x) : am_in 210 pc = some x := by
  refine am_in_of (am_c_at (i := 210) (by decide) rfl) (t := am_l23) (fun q hq => am_kt210 q ?_) h
  rw [am_lk23] at hq
  exact List.mem_of_mem_drop (List.mem_of_mem_take hq)
set_option maxRecDepth 20000 in
theorem lw_misfit {iv : am_Iv} {X : am_X} {M : am_M} {N : am_N} {Q : am_Q} {c : Nat} {x : Int32} (hp : am_pL iv X 95 188 []) (hc : c < 512) (hi : iv c M N) (hv : ∀ k : Int, 1 ≤ k → k ≤ 6 → vp_in (x + Int32.ofInt k) X.2.2.2.2.2.2.1) (kk : ∀ M2 N2, iv (c + 1) M2 N2 → am_J X Q 210 1363 [.ref 1000000, .ref 0, .ref 120, .int x] [] M2 N2) : am_J X Q 210 1081 [.ref 1000000, .ref 0, .ref 120, .int x] [] M N := by
  obtain ⟨v, mid, g1, g2⟩ := hp c M N hc hi
  refine J_b 1 am_e23 rfl ?_
  refine J_V 95 (am_e23 rfl) rfl g1 (fun r M1 N1 hq => ?_)
  obtain ⟨rfl, hm⟩ := hq
  refine J_b 1 am_e23 rfl ?_
  refine J_V 188 (am_e23 rfl) rfl (g2 M1 N1 hm) (fun r M2 N2 hq => ?_)
  obtain ⟨rfl, hv2⟩ := hq
  refine J_b 1 am_e23 rfl ?_
  exact J_if_eq 1363 (am_e23 rfl) rfl (fun _ => kk M2 N2 hv2) (fun h => absurd (lg_self v) h)
def am_l24 : List (Nat × Instr × Nat) := [(1095, .aload_n 1, 1), (1096, .invokevirtual 116, 3), (1099, .aload_n 2, 1), (1100, .invokevirtual 119, 3), (1103, .lcmp, 1), (1104, .ifCond .eq 259, 3), (1107, .iconst 0, 1), (1108, .ireturn, 1)]
set_option maxRecDepth 100000 in
theorem am_lk24 : am_l24 = (am_t210.drop 791).take 8 := by rfl
theorem am_e24 {pc : Nat} {x : Instr × Nat} (h : am_l24.lookup pc = some x) : am_in 210 pc = some x := by
  refine am_in_of (am_c_at (i := 210) (by decide) rfl) (t := am_l24) (fun q hq => am_kt210 q ?_) h
  rw [am_lk24] at hq
  exact List.mem_of_mem_drop (List.mem_of_mem_take hq)
set_option maxRecDepth 20000 in
theorem lw_misses {iv : am_Iv} {X : am_X} {M : am_M} {N : am_N} {Q : am_Q} {c : Nat} {x : Int32} (hp : am_pL iv X 96 189 []) (hc : c < 512) (hi : iv c M N) (hv : ∀ k : Int, 1 ≤ k → k ≤ 6 → vp_in (x + Int32.ofInt k) X.2.2.2.2.2.2.1) (kk : ∀ M2 N2, iv (c + 1) M2 N2 → am_J X Q 210 1363 [.ref 1000000, .ref 0, .ref 120, .int x] [] M2 N2) : am_J X Q 210 1095 [.ref 1000000, .ref 0, .ref 120, .int x] [] M N := by
  obtain ⟨v, mid, g1, g2⟩ := hp c M N hc hi
  refine J_b 1 am_e24 rfl ?_
  refine J_V 96 (am_e24 rfl) rfl g1 (fun r M1 N1 hq => ?_)
  obtain ⟨rfl, hm⟩ := hq
  refine J_b 1 am_e24 rfl ?_
  refine J_V 189 (am_e24 rfl) rfl (g2 M1 N1 hm) (fun r M2 N2 hq => ?_)
  obtain ⟨rfl, hv2⟩ := hq
  refine J_b 1 am_e24 rfl ?_
  exact J_if_eq 1363 (am_e24 rfl) rfl (fun _ => kk M2 N2 hv2) (fun h => absurd (lg_self v) h)
def am_l25 : List (Nat × Instr × Nat) := [(1109, .aload_n 1, 1), (1110, .aload_n 0, 1), (1111, .iload_n 3, 1), (1112, .iconst 1, 1), (1113, .iadd, 1), (1114, .iaload, 1), (1115, .invokevirtual 120, 3), (1118, .aload_n 2, 1), (1119, .aload_n 0, 1), (1120, .iload_n 3, 1), (1121, .iconst 1, 1), (1122, .iadd, 1), (1123, .iaload, 1), (1124, .invokevirtual 123, 3), (1127, .if_icmp .eq 236, 3), (1130, .iconst 0, 1), (1131, .ireturn, 1)]
set_option maxRecDepth 100000 in
theorem am_lk25 : am_l25 = (am_t210.drop 799).take 17 := by rfl
theorem am_e25 {pc : Nat} {x : Instr × Nat} (h : am_l25.lookup pc = some x) : am_in 210 pc = some x := by
  refine am_in_of (am_c_at (i := 210) (by decide) rfl) (t := am_l25) (fun q hq => am_kt210 q ?_) h
  rw [am_lk25] at hq
  exact List.mem_of_mem_drop (List.mem_of_mem_take hq)
set_option maxRecDepth 20000 in
theorem lw_doubt {iv : am_Iv} {X : am_X} {M : am_M} {N : am_N} {Q : am_Q} {c : Nat} {x : Int32} (hp : am_pI iv X 98 190 [.int (X.2.2.2.2.2.2.2 (x + Int32.ofInt 1).toNatClampNeg)]) (hc : c < 512) (hi : iv c M N) (hv : ∀ k : Int, 1 ≤ k → k ≤ 6 → vp_in (x + Int32.ofInt k) X.2.2.2.2.2.2.1) (kk : ∀ M2 N2, iv (c + 1) M2 N2 → am_J X Q 210 1363 [.ref 1000000, .ref 0, .ref 120, .int x] [] M2 N2) : am_J X Q 210 1109 [.ref 1000000, .ref 0, .ref 120, .int x] [] M N := by
  obtain ⟨v, mid, g1, g2⟩ := hp c M N hc hi
  refine J_b 5 am_e25 rfl ?_
  refine J_sld (am_e25 rfl) (hv 1 (by decide) (by decide)) ?_
  refine J_V 98 (am_e25 rfl) rfl g1 (fun r M1 N1 hq => ?_)
  obtain ⟨rfl, hm⟩ := hq
  refine J_b 5 am_e25 rfl ?_
  refine J_sld (am_e25 rfl) (hv 1 (by decide) (by decide)) ?_
  refine J_V 190 (am_e25 rfl) rfl (g2 M1 N1 hm) (fun r M2 N2 hq => ?_)
  obtain ⟨rfl, hv2⟩ := hq
  exact J_icmp_eq 1363 (am_e25 rfl) rfl (fun _ => kk M2 N2 hv2) (fun h => absurd rfl h)
def am_l26 : List (Nat × Instr × Nat) := [(1132, .aload_n 1, 1), (1133, .aload_n 0, 1), (1134, .iload_n 3, 1), (1135, .iconst 1, 1), (1136, .iadd, 1), (1137, .iaload, 1), (1138, .aload_n 0, 1), (1139, .iload_n 3, 1), (1140, .iconst 2, 1), (1141, .iadd, 1), (1142, .iaload, 1), (1143, .aload_n 0, 1), (1144, .iload_n 3, 1), (1145, .iconst 3, 1), (1146, .iadd, 1), (1147, .iaload, 1), (1148, .aload_n 0, 1), (1149, .iload_n 3, 1), (1150, .iconst 4, 1), (1151, .iadd, 1), (1152, .iaload, 1), (1153, .invokevirtual 124, 3), (1156, .aload_n 2, 1), (1157, .aload_n 0, 1), (1158, .iload_n 3, 1), (1159, .iconst 1, 1), (1160, .iadd, 1), (1161, .iaload, 1), (1162, .aload_n 0, 1), (1163, .iload_n 3, 1), (1164, .iconst 2, 1), (1165, .iadd, 1), (1166, .iaload, 1), (1167, .aload_n 0, 1), (1168, .iload_n 3, 1), (1169, .iconst 3, 1), (1170, .iadd, 1), (1171, .iaload, 1), (1172, .aload_n 0, 1), (1173, .iload_n 3, 1), (1174, .iconst 4, 1), (1175, .iadd, 1), (1176, .iaload, 1), (1177, .invokevirtual 127, 3), (1180, .if_icmp .eq 183, 3), (1183, .iconst 0, 1), (1184, .ireturn, 1)]
set_option maxRecDepth 100000 in
theorem am_lk26 : am_l26 = (am_t210.drop 816).take 47 := by rfl
theorem am_e26 {pc : Nat} {x : Instr × Nat} (h : am_l26.lookup pc = some x) : am_in 210 pc = some x := by
  refine am_in_of (am_c_at (i := 210) (by decide) rfl) (t := am_l26) (fun q hq => am_kt210 q ?_) h
  rw [am_lk26] at hq
  exact List.mem_of_mem_drop (List.mem_of_mem_take hq)
set_option maxRecDepth 20000 in
theorem lw_tells {iv : am_Iv} {X : am_X} {M : am_M} {N : am_N} {Q : am_Q} {c : Nat} {x : Int32} (hp : am_pI iv X 100 191 [.int (X.2.2.2.2.2.2.2 (x + Int32.ofInt 1).toNatClampNeg), .int (X.2.2.2.2.2.2.2 (x + Int32.ofInt 2).toNatClampNeg), .int (X.2.2.2.2.2.2.2 (x + Int32.ofInt 3).toNatClampNeg), .int (X.2.2.2.2.2.2.2 (x + Int32.ofInt 4).toNatClampNeg)]) (hc : c < 512) (hi : iv c M N) (hv : ∀ k : Int, 1 ≤ k → k ≤ 6 → vp_in (x + Int32.ofInt k) X.2.2.2.2.2.2.1) (kk : ∀ M2 N2, iv (c + 1) M2 N2 → am_J X Q 210 1363 [.ref 1000000, .ref 0, .ref 120, .int x] [] M2 N2) : am_J X Q 210 1132 [.ref 1000000, .ref 0, .ref 120, .int x] [] M N := by
  obtain ⟨v, mid, g1, g2⟩ := hp c M N hc hi
  refine J_b 5 am_e26 rfl ?_
  refine J_sld (am_e26 rfl) (hv 1 (by decide) (by decide)) ?_
  refine J_b 4 am_e26 rfl ?_
  refine J_sld (am_e26 rfl) (hv 2 (by decide) (by decide)) ?_
  refine J_b 4 am_e26 rfl ?_
  refine J_sld (am_e26 rfl) (hv 3 (by decide) (by decide)) ?_
  refine J_b 4 am_e26 rfl ?_
  refine J_sld (am_e26 rfl) (hv 4 (by decide) (by decide)) ?_
  refine J_V 100 (am_e26 rfl) rfl g1 (fun r M1 N1 hq => ?_)
  obtain ⟨rfl, hm⟩ := hq
  refine J_b 5 am_e26 rfl ?_
  refine J_sld (am_e26 rfl) (hv 1 (by decide) (by decide)) ?_
  refine J_b 4 am_e26 rfl ?_
  refine J_sld (am_e26 rfl) (hv 2 (by decide) (by decide)) ?_
  refine J_b 4 am_e26 rfl ?_
  refine J_sld (am_e26 rfl) (hv 3 (by decide) (by decide)) ?_
  refine J_b 4 am_e26 rfl ?_
  refine J_sld (am_e26 rfl) (hv 4 (by decide) (by decide)) ?_
  refine J_V 191 (am_e26 rfl) rfl (g2 M1 N1 hm) (fun r M2 N2 hq => ?_)
  obtain ⟨rfl, hv2⟩ := hq
  exact J_icmp_eq 1363 (am_e26 rfl) rfl (fun _ => kk M2 N2 hv2) (fun h => absurd rfl h)
def am_l27 : List (Nat × Instr × Nat) := [(1185, .aload_n 1, 1), (1186, .aload_n 0, 1), (1187, .iload_n 3, 1), (1188, .iconst 1, 1), (1189, .iadd, 1), (1190, .iaload, 1), (1191, .i2l, 1), (1192, .bipush 32, 2), (1194, .lshl, 1), (1195, .aload_n 0, 1), (1196, .iload_n 3, 1), (1197, .iconst 2, 1), (1198, .iadd, 1), (1199, .iaload, 1), (1200, .i2l, 1), (1201, .ldc2_w 128, 3), (1204, .land, 1), (1205, .lor, 1), (1206, .aload_n 0, 1), (1207, .iload_n 3, 1), (1208, .iconst 3, 1), (1209, .iadd, 1), (1210, .iaload, 1), (1211, .invokevirtual 130, 3), (1214, .aload_n 2, 1), (1215, .aload_n 0, 1), (1216, .iload_n 3, 1), (1217, .iconst 1, 1), (1218, .iadd, 1), (1219, .iaload, 1), (1220, .i2l, 1), (1221, .bipush 32, 2), (1223, .lshl, 1), (1224, .aload_n 0, 1), (1225, .iload_n 3, 1), (1226, .iconst 2, 1), (1227, .iadd, 1), (1228, .iaload, 1), (1229, .i2l, 1), (1230, .ldc2_w 128, 3), (1233, .land, 1), (1234, .lor, 1), (1235, .aload_n 0, 1), (1236, .iload_n 3, 1), (1237, .iconst 3, 1), (1238, .iadd, 1), (1239, .iaload, 1), (1240, .invokevirtual 134, 3), (1243, .if_icmp .eq 120, 3), (1246, .iconst 0, 1), (1247, .ireturn, 1)]
set_option maxRecDepth 100000 in
theorem am_lk27 : am_l27 = (am_t210.drop 863).take 51 := by rfl
theorem am_e27 {pc : Nat} {x : Instr × Nat} (h : am_l27.lookup pc = some x) : am_in 210 pc = some x := by
  refine am_in_of (am_c_at (i := 210) (by decide) rfl) (t := am_l27) (fun q hq => am_kt210 q ?_) h
  rw [am_lk27] at hq
  exact List.mem_of_mem_drop (List.mem_of_mem_take hq)
set_option maxRecDepth 20000 in
theorem lw_feed {iv : am_Iv} {X : am_X} {M : am_M} {N : am_N} {Q : am_Q} {c : Nat} {x : Int32} (hp : am_pI iv X 104 193 [.long (((X.2.2.2.2.2.2.2 (x + Int32.ofInt 1).toNatClampNeg).toInt64 <<< (((Int8.ofInt 32).toInt32).toInt64 &&& 63)) ||| ((X.2.2.2.2.2.2.2 (x + Int32.ofInt 2).toNatClampNeg).toInt64 &&& 4294967295)), .int (X.2.2.2.2.2.2.2 (x + Int32.ofInt 3).toNatClampNeg)]) (hc : c < 512) (hi : iv c M N) (hv : ∀ k : Int, 1 ≤ k → k ≤ 6 → vp_in (x + Int32.ofInt k) X.2.2.2.2.2.2.1) (kk : ∀ M2 N2, iv (c + 1) M2 N2 → am_J X Q 210 1363 [.ref 1000000, .ref 0, .ref 120, .int x] [] M2 N2) : am_J X Q 210 1185 [.ref 1000000, .ref 0, .ref 120, .int x] [] M N := by
  obtain ⟨v, mid, g1, g2⟩ := hp c M N hc hi
  refine J_b 5 am_e27 rfl ?_
  refine J_sld (am_e27 rfl) (hv 1 (by decide) (by decide)) ?_
  refine J_b 7 am_e27 rfl ?_
  refine J_sld (am_e27 rfl) (hv 2 (by decide) (by decide)) ?_
  refine J_b 8 am_e27 rfl ?_
  refine J_sld (am_e27 rfl) (hv 3 (by decide) (by decide)) ?_
  refine J_V 104 (am_e27 rfl) rfl g1 (fun r M1 N1 hq => ?_)
  obtain ⟨rfl, hm⟩ := hq
  refine J_b 5 am_e27 rfl ?_
  refine J_sld (am_e27 rfl) (hv 1 (by decide) (by decide)) ?_
  refine J_b 7 am_e27 rfl ?_
  refine J_sld (am_e27 rfl) (hv 2 (by decide) (by decide)) ?_
  refine J_b 8 am_e27 rfl ?_
  refine J_sld (am_e27 rfl) (hv 3 (by decide) (by decide)) ?_
  refine J_V 193 (am_e27 rfl) rfl (g2 M1 N1 hm) (fun r M2 N2 hq => ?_)
  obtain ⟨rfl, hv2⟩ := hq
  exact J_icmp_eq 1363 (am_e27 rfl) rfl (fun _ => kk M2 N2 hv2) (fun h => absurd rfl h)
def am_l28 : List (Nat × Instr × Nat) := [(1248, .aload_n 1, 1), (1249, .invokevirtual 135, 3), (1252, .aload_n 2, 1), (1253, .invokevirtual 139, 3), (1256, .if_icmp .eq 107, 3), (1259, .iconst 0, 1), (1260, .ireturn, 1)]
set_option maxRecDepth 100000 in
theorem am_lk28 : am_l28 = (am_t210.drop 914).take 7 := by rfl
theorem am_e28 {pc : Nat} {x : Instr × Nat} (h : am_l28.lookup pc = some x) : am_in 210 pc = some x := by
  refine am_in_of (am_c_at (i := 210) (by decide) rfl) (t := am_l28) (fun q hq => am_kt210 q ?_) h
  rw [am_lk28] at hq
  exact List.mem_of_mem_drop (List.mem_of_mem_take hq)
set_option maxRecDepth 20000 in
theorem lw_prize {iv : am_Iv} {X : am_X} {M : am_M} {N : am_N} {Q : am_Q} {c : Nat} {x : Int32} (hp : am_pI iv X 106 194 []) (hc : c < 512) (hi : iv c M N) (hv : ∀ k : Int, 1 ≤ k → k ≤ 6 → vp_in (x + Int32.ofInt k) X.2.2.2.2.2.2.1) (kk : ∀ M2 N2, iv (c + 1) M2 N2 → am_J X Q 210 1363 [.ref 1000000, .ref 0, .ref 120, .int x] [] M2 N2) : am_J X Q 210 1248 [.ref 1000000, .ref 0, .ref 120, .int x] [] M N := by
  obtain ⟨v, mid, g1, g2⟩ := hp c M N hc hi
  refine J_b 1 am_e28 rfl ?_
  refine J_V 106 (am_e28 rfl) rfl g1 (fun r M1 N1 hq => ?_)
  obtain ⟨rfl, hm⟩ := hq
  refine J_b 1 am_e28 rfl ?_
  refine J_V 194 (am_e28 rfl) rfl (g2 M1 N1 hm) (fun r M2 N2 hq => ?_)
  obtain ⟨rfl, hv2⟩ := hq
  exact J_icmp_eq 1363 (am_e28 rfl) rfl (fun _ => kk M2 N2 hv2) (fun h => absurd rfl h)
def am_l29 : List (Nat × Instr × Nat) := [(1261, .aload_n 1, 1), (1262, .aload_n 0, 1), (1263, .iload_n 3, 1), (1264, .iconst 1, 1), (1265, .iadd, 1), (1266, .iaload, 1), (1267, .invokevirtual 140, 3), (1270, .aload_n 2, 1), (1271, .aload_n 0, 1), (1272, .iload_n 3, 1), (1273, .iconst 1, 1), (1274, .iadd, 1), (1275, .iaload, 1), (1276, .invokevirtual 143, 3), (1279, .if_icmp .eq 84, 3), (1282, .iconst 0, 1), (1283, .ireturn, 1)]
set_option maxRecDepth 100000 in
theorem am_lk29 : am_l29 = (am_t210.drop 921).take 17 := by rfl
theorem am_e29 {pc : Nat} {x : Instr × Nat} (h : am_l29.lookup pc = some x) : am_in 210 pc = some x := by
  refine am_in_of (am_c_at (i := 210) (by decide) rfl) (t := am_l29) (fun q hq => am_kt210 q ?_) h
  rw [am_lk29] at hq
  exact List.mem_of_mem_drop (List.mem_of_mem_take hq)
set_option maxRecDepth 20000 in
theorem lw_pays {iv : am_Iv} {X : am_X} {M : am_M} {N : am_N} {Q : am_Q} {c : Nat} {x : Int32} (hp : am_pI iv X 125 203 [.int (X.2.2.2.2.2.2.2 (x + Int32.ofInt 1).toNatClampNeg)]) (hc : c < 512) (hi : iv c M N) (hv : ∀ k : Int, 1 ≤ k → k ≤ 6 → vp_in (x + Int32.ofInt k) X.2.2.2.2.2.2.1) (kk : ∀ M2 N2, iv (c + 1) M2 N2 → am_J X Q 210 1363 [.ref 1000000, .ref 0, .ref 120, .int x] [] M2 N2) : am_J X Q 210 1261 [.ref 1000000, .ref 0, .ref 120, .int x] [] M N := by
  obtain ⟨v, mid, g1, g2⟩ := hp c M N hc hi
  refine J_b 5 am_e29 rfl ?_
  refine J_sld (am_e29 rfl) (hv 1 (by decide) (by decide)) ?_
  refine J_V 125 (am_e29 rfl) rfl g1 (fun r M1 N1 hq => ?_)
  obtain ⟨rfl, hm⟩ := hq
  refine J_b 5 am_e29 rfl ?_
  refine J_sld (am_e29 rfl) (hv 1 (by decide) (by decide)) ?_
  refine J_V 203 (am_e29 rfl) rfl (g2 M1 N1 hm) (fun r M2 N2 hq => ?_)
  obtain ⟨rfl, hv2⟩ := hq
  exact J_icmp_eq 1363 (am_e29 rfl) rfl (fun _ => kk M2 N2 hv2) (fun h => absurd rfl h)
def am_l30 : List (Nat × Instr × Nat) := [(1284, .aload_n 1, 1), (1285, .aload_n 0, 1), (1286, .iload_n 3, 1), (1287, .iconst 1, 1), (1288, .iadd, 1), (1289, .iaload, 1), (1290, .invokevirtual 144, 3), (1293, .aload_n 2, 1), (1294, .aload_n 0, 1), (1295, .iload_n 3, 1), (1296, .iconst 1, 1), (1297, .iadd, 1), (1298, .iaload, 1), (1299, .invokevirtual 147, 3), (1302, .if_icmp .eq 61, 3), (1305, .iconst 0, 1), (1306, .ireturn, 1)]
set_option maxRecDepth 100000 in
theorem am_lk30 : am_l30 = (am_t210.drop 938).take 17 := by rfl
theorem am_e30 {pc : Nat} {x : Instr × Nat} (h : am_l30.lookup pc = some x) : am_in 210 pc = some x := by
  refine am_in_of (am_c_at (i := 210) (by decide) rfl) (t := am_l30) (fun q hq => am_kt210 q ?_) h
  rw [am_lk30] at hq
  exact List.mem_of_mem_drop (List.mem_of_mem_take hq)
set_option maxRecDepth 20000 in
theorem lw_purse {iv : am_Iv} {X : am_X} {M : am_M} {N : am_N} {Q : am_Q} {c : Nat} {x : Int32} (hp : am_pI iv X 132 207 [.int (X.2.2.2.2.2.2.2 (x + Int32.ofInt 1).toNatClampNeg)]) (hc : c < 512) (hi : iv c M N) (hv : ∀ k : Int, 1 ≤ k → k ≤ 6 → vp_in (x + Int32.ofInt k) X.2.2.2.2.2.2.1) (kk : ∀ M2 N2, iv (c + 1) M2 N2 → am_J X Q 210 1363 [.ref 1000000, .ref 0, .ref 120, .int x] [] M2 N2) : am_J X Q 210 1284 [.ref 1000000, .ref 0, .ref 120, .int x] [] M N := by
  obtain ⟨v, mid, g1, g2⟩ := hp c M N hc hi
  refine J_b 5 am_e30 rfl ?_
  refine J_sld (am_e30 rfl) (hv 1 (by decide) (by decide)) ?_
  refine J_V 132 (am_e30 rfl) rfl g1 (fun r M1 N1 hq => ?_)
  obtain ⟨rfl, hm⟩ := hq
  refine J_b 5 am_e30 rfl ?_
  refine J_sld (am_e30 rfl) (hv 1 (by decide) (by decide)) ?_
  refine J_V 207 (am_e30 rfl) rfl (g2 M1 N1 hm) (fun r M2 N2 hq => ?_)
  obtain ⟨rfl, hv2⟩ := hq
  exact J_icmp_eq 1363 (am_e30 rfl) rfl (fun _ => kk M2 N2 hv2) (fun h => absurd rfl h)
def am_l31 : List (Nat × Instr × Nat) := [(1307, .aload_n 1, 1), (1308, .aload_n 0, 1), (1309, .iload_n 3, 1), (1310, .iconst 1, 1), (1311, .iadd, 1), (1312, .iaload, 1), (1313, .aload_n 0, 1), (1314, .iload_n 3, 1), (1315, .iconst 2, 1), (1316, .iadd, 1), (1317, .iaload, 1), (1318, .invokevirtual 148, 3), (1321, .aload_n 2, 1), (1322, .aload_n 0, 1), (1323, .iload_n 3, 1), (1324, .iconst 1, 1), (1325, .iadd, 1), (1326, .iaload, 1), (1327, .aload_n 0, 1), (1328, .iload_n 3, 1), (1329, .iconst 2, 1), (1330, .iadd, 1), (1331, .iaload, 1), (1332, .invokevirtual 151, 3), (1335, .if_icmp .eq 28, 3), (1338, .iconst 0, 1), (1339, .ireturn, 1)]
set_option maxRecDepth 100000 in
theorem am_lk31 : am_l31 = (am_t210.drop 955).take 27 := by rfl
theorem am_e31 {pc : Nat} {x : Instr × Nat} (h : am_l31.lookup pc = some x) : am_in 210 pc = some x := by
  refine am_in_of (am_c_at (i := 210) (by decide) rfl) (t := am_l31) (fun q hq => am_kt210 q ?_) h
  rw [am_lk31] at hq
  exact List.mem_of_mem_drop (List.mem_of_mem_take hq)
set_option maxRecDepth 20000 in
theorem lw_letters {iv : am_Iv} {X : am_X} {M : am_M} {N : am_N} {Q : am_Q} {c : Nat} {x : Int32} (hp : am_pI iv X 133 208 [.int (X.2.2.2.2.2.2.2 (x + Int32.ofInt 1).toNatClampNeg), .int (X.2.2.2.2.2.2.2 (x + Int32.ofInt 2).toNatClampNeg)]) (hc : c < 512) (hi : iv c M N) (hv : ∀ k : Int, 1 ≤ k → k ≤ 6 → vp_in (x + Int32.ofInt k) X.2.2.2.2.2.2.1) (kk : ∀ M2 N2, iv (c + 1) M2 N2 → am_J X Q 210 1363 [.ref 1000000, .ref 0, .ref 120, .int x] [] M2 N2) : am_J X Q 210 1307 [.ref 1000000, .ref 0, .ref 120, .int x] [] M N := by
  obtain ⟨v, mid, g1, g2⟩ := hp c M N hc hi
  refine J_b 5 am_e31 rfl ?_
  refine J_sld (am_e31 rfl) (hv 1 (by decide) (by decide)) ?_
  refine J_b 4 am_e31 rfl ?_
  refine J_sld (am_e31 rfl) (hv 2 (by decide) (by decide)) ?_
  refine J_V 133 (am_e31 rfl) rfl g1 (fun r M1 N1 hq => ?_)
  obtain ⟨rfl, hm⟩ := hq
  refine J_b 5 am_e31 rfl ?_
  refine J_sld (am_e31 rfl) (hv 1 (by decide) (by decide)) ?_
  refine J_b 4 am_e31 rfl ?_
  refine J_sld (am_e31 rfl) (hv 2 (by decide) (by decide)) ?_
  refine J_V 208 (am_e31 rfl) rfl (g2 M1 N1 hm) (fun r M2 N2 hq => ?_)
  obtain ⟨rfl, hv2⟩ := hq
  exact J_icmp_eq 1363 (am_e31 rfl) rfl (fun _ => kk M2 N2 hv2) (fun h => absurd rfl h)
def am_l32 : List (Nat × Instr × Nat) := [(1340, .aload_n 1, 1), (1341, .aload_n 0, 1), (1342, .iload_n 3, 1), (1343, .iconst 1, 1), (1344, .iadd, 1), (1345, .iaload, 1), (1346, .invokevirtual 152, 3), (1349, .aload_n 2, 1), (1350, .aload_n 0, 1), (1351, .iload_n 3, 1), (1352, .iconst 1, 1), (1353, .iadd, 1), (1354, .iaload, 1), (1355, .invokevirtual 155, 3), (1358, .if_icmp .eq 5, 3), (1361, .iconst 0, 1), (1362, .ireturn, 1)]
set_option maxRecDepth 100000 in
theorem am_lk32 : am_l32 = (am_t210.drop 982).take 17 := by rfl
theorem am_e32 {pc : Nat} {x : Instr × Nat} (h : am_l32.lookup pc = some x) : am_in 210 pc = some x := by
  refine am_in_of (am_c_at (i := 210) (by decide) rfl) (t := am_l32) (fun q hq => am_kt210 q ?_) h
  rw [am_lk32] at hq
  exact List.mem_of_mem_drop (List.mem_of_mem_take hq)
set_option maxRecDepth 20000 in
theorem lw_count {iv : am_Iv} {X : am_X} {M : am_M} {N : am_N} {Q : am_Q} {c : Nat} {x : Int32} (hp : am_pI iv X 134 209 [.int (X.2.2.2.2.2.2.2 (x + Int32.ofInt 1).toNatClampNeg)]) (hc : c < 512) (hi : iv c M N) (hv : ∀ k : Int, 1 ≤ k → k ≤ 6 → vp_in (x + Int32.ofInt k) X.2.2.2.2.2.2.1) (kk : ∀ M2 N2, iv (c + 1) M2 N2 → am_J X Q 210 1363 [.ref 1000000, .ref 0, .ref 120, .int x] [] M2 N2) : am_J X Q 210 1340 [.ref 1000000, .ref 0, .ref 120, .int x] [] M N := by
  obtain ⟨v, mid, g1, g2⟩ := hp c M N hc hi
  refine J_b 5 am_e32 rfl ?_
  refine J_sld (am_e32 rfl) (hv 1 (by decide) (by decide)) ?_
  refine J_V 134 (am_e32 rfl) rfl g1 (fun r M1 N1 hq => ?_)
  obtain ⟨rfl, hm⟩ := hq
  refine J_b 5 am_e32 rfl ?_
  refine J_sld (am_e32 rfl) (hv 1 (by decide) (by decide)) ?_
  refine J_V 209 (am_e32 rfl) rfl (g2 M1 N1 hm) (fun r M2 N2 hq => ?_)
  obtain ⟨rfl, hv2⟩ := hq
  exact J_icmp_eq 1363 (am_e32 rfl) rfl (fun _ => kk M2 N2 hv2) (fun h => absurd rfl h)
