/-! ===== paint, cell: the methods and the pairs ===== -/
theorem J_gsM {X : am_X} {Q : am_Q} {i pc : Nat} {L S : am_V} {M : am_M} {N : am_N} (ho : am_ow i = 10) (d : am_in i pc = some (.getstatic 101, 3)) (kk : am_J X Q i (pc + 3) L (.ref 1000001 :: S) M N) : am_J X Q i pc L S M N := sw_gsM ho d kk
theorem J_tM {X : am_X} {Q : am_Q} {i pc : Nat} {L S : am_V} {M : am_M} {N : am_N} {x : Int32} (d : am_in i pc = some (.iaload, 1)) (hi : vp_in x 5) (kk : am_J X Q i (pc + 1) L (.int (am_mom.getD x.toNatClampNeg 0) :: S) M N) : am_J X Q i pc L (.int x :: .ref 1000001 :: S) M N := sw_tM d hi kk
theorem sp11a {X : am_X} {M : am_M} {N : am_N} {x0 x1 y w v : Int32} (h1 : ¬ (((0 ≤ x0.toInt ∧ x0.toInt < 10) ∧ (0 ≤ x1.toInt ∧ x1.toInt < 10) ∧ 0 ≤ y.toInt ∧ y.toInt < 6) ∧ x0.toInt ≤ x1.toInt ∧ 0 ≤ w.toInt ∧ w.toInt < 5)) : am_J X (am_eq (some (.int (-1))) (M) N) 11 0 (am_en 11 [.ref 0, .int x0, .int x1, .int y, .int w, .int v]) [] M N := by
  refine J_en (L := [.ref 0, .int x0, .int x1, .int y, .int w, .int v]) rfl ?_
  refine J_b 2 am_d11 rfl ?_
  refine J_S2s 12 (am_d11 rfl) rfl rfl (sp12) ?_
  refine J_if_eq 30 (am_d11 rfl) rfl (fun h5 => ?_) (fun h5 => ?_)
  · refine J_b 1 am_d11 rfl ?_
    exact J_iret (am_d11 rfl) rfl rfl ⟨rfl, rfl, rfl⟩
  · refine J_b 2 am_d11 rfl ?_
    refine J_S2s 12 (am_d11 rfl) rfl rfl (sp12) ?_
    refine J_if_eq 30 (am_d11 rfl) rfl (fun h13 => ?_) (fun h13 => ?_)
    · refine J_b 1 am_d11 rfl ?_
      exact J_iret (am_d11 rfl) rfl rfl ⟨rfl, rfl, rfl⟩
    · refine J_b 2 am_d11 rfl ?_
      refine J_icmp_gt 30 (am_d11 rfl) rfl (fun h18 => ?_) (fun h18 => ?_)
      · refine J_b 1 am_d11 rfl ?_
        exact J_iret (am_d11 rfl) rfl rfl ⟨rfl, rfl, rfl⟩
      · refine J_b 2 am_d11 rfl ?_
        refine J_S2s 13 (am_d11 rfl) rfl rfl (sp13) ?_
        refine J_if_ne 32 (am_d11 rfl) rfl (fun h27 => ?_) (fun h27 => ?_)
        · exact absurd (show ((0 ≤ x0.toInt ∧ x0.toInt < 10) ∧ (0 ≤ x1.toInt ∧ x1.toInt < 10) ∧ 0 ≤ y.toInt ∧ y.toInt < 6) ∧ x0.toInt ≤ x1.toInt ∧ 0 ≤ w.toInt ∧ w.toInt < 5 by simp [am_bi0, am_bi1, Int32.lt_iff_toInt_lt, Int32.le_iff_toInt_le] at * <;> omega) h1
        · refine J_b 1 am_d11 rfl ?_
          exact J_iret (am_d11 rfl) rfl rfl ⟨rfl, rfl, rfl⟩
theorem sp138a {X : am_X} {M : am_M} {N : am_N} {x0 x1 y w v : Int32} (h1 : ¬ (((0 ≤ x0.toInt ∧ x0.toInt < 10) ∧ (0 ≤ x1.toInt ∧ x1.toInt < 10) ∧ 0 ≤ y.toInt ∧ y.toInt < 6) ∧ x0.toInt ≤ x1.toInt ∧ 0 ≤ w.toInt ∧ w.toInt < 5)) : am_J X (am_eq (some (.int (-1))) (M) N) 138 0 (am_en 138 [.ref 120, .int x0, .int x1, .int y, .int w, .int v]) [] M N := by
  refine J_en (L := [.ref 120, .int x0, .int x1, .int y, .int w, .int v, .retAddr 0, .retAddr 0]) rfl ?_
  refine J_b 2 am_d138 rfl ?_
  refine J_S2s 139 (am_d138 rfl) rfl rfl (sp139) ?_
  refine J_if_eq 34 (am_d138 rfl) rfl (fun h5 => ?_) (fun h5 => ?_)
  · refine J_b 1 am_d138 rfl ?_
    exact J_iret (am_d138 rfl) rfl rfl ⟨rfl, rfl, rfl⟩
  · refine J_b 2 am_d138 rfl ?_
    refine J_S2s 139 (am_d138 rfl) rfl rfl (sp139) ?_
    refine J_if_eq 34 (am_d138 rfl) rfl (fun h13 => ?_) (fun h13 => ?_)
    · refine J_b 1 am_d138 rfl ?_
      exact J_iret (am_d138 rfl) rfl rfl ⟨rfl, rfl, rfl⟩
    · refine J_b 2 am_d138 rfl ?_
      refine J_icmp_gt 34 (am_d138 rfl) rfl (fun h18 => ?_) (fun h18 => ?_)
      · refine J_b 1 am_d138 rfl ?_
        exact J_iret (am_d138 rfl) rfl rfl ⟨rfl, rfl, rfl⟩
      · refine J_b 4 am_d138 rfl ?_
        refine J_S3s 140 (am_d138 rfl) rfl rfl (sp140) ?_
        refine J_if_ne 36 (am_d138 rfl) rfl (fun h31 => ?_) (fun h31 => ?_)
        · exact absurd (show ((0 ≤ x0.toInt ∧ x0.toInt < 10) ∧ (0 ≤ x1.toInt ∧ x1.toInt < 10) ∧ 0 ≤ y.toInt ∧ y.toInt < 6) ∧ x0.toInt ≤ x1.toInt ∧ 0 ≤ w.toInt ∧ w.toInt < 5 by simp [am_bi0, am_bi1, Int32.lt_iff_toInt_lt, Int32.le_iff_toInt_le] at * <;> omega) h1
        · refine J_b 1 am_d138 rfl ?_
          exact J_iret (am_d138 rfl) rfl rfl ⟨rfl, rfl, rfl⟩
theorem sp11b_0 {X : am_X} {M : am_M} {N : am_N} {a b y : Nat} {v : Int32} (hb : b < 10) (hy : y < 6) (hab : a ≤ b) (h2 : ¬ (0 ≤ v.toInt ∧ v.toInt ≤ 2)) : am_J X (am_eq (some (.int (-2))) (M) N) 11 0 (am_en 11 [.ref 0, .int (nI a), .int (nI b), .int (nI y), .int (0 : Int32), .int v]) [] M N := by
  have ia := nI_i (n := a) (by omega)
  have ib := nI_i (n := b) (by omega)
  have iy := nI_i (n := y) (by omega)
  refine J_en (L := [.ref 0, .int (nI a), .int (nI b), .int (nI y), .int (0 : Int32), .int v]) rfl ?_
  refine J_b 2 am_d11 rfl ?_
  refine J_S2s 12 (am_d11 rfl) rfl rfl (sp12) ?_
  refine J_if_eq 30 (am_d11 rfl) rfl (fun h5 => (by exfalso; simp [am_bi0, am_bi1, Int32.lt_iff_toInt_lt, Int32.le_iff_toInt_le, ia, ib, iy] at * <;> omega)) (fun h5 => ?_)
  refine J_b 2 am_d11 rfl ?_
  refine J_S2s 12 (am_d11 rfl) rfl rfl (sp12) ?_
  refine J_if_eq 30 (am_d11 rfl) rfl (fun h13 => (by exfalso; simp [am_bi0, am_bi1, Int32.lt_iff_toInt_lt, Int32.le_iff_toInt_le, ia, ib, iy] at * <;> omega)) (fun h13 => ?_)
  refine J_b 2 am_d11 rfl ?_
  refine J_icmp_gt 30 (am_d11 rfl) rfl (fun h18 => (by exfalso; simp [am_bi0, am_bi1, Int32.lt_iff_toInt_lt, Int32.le_iff_toInt_le, ia, ib, iy] at * <;> omega)) (fun h18 => ?_)
  refine J_b 2 am_d11 rfl ?_
  refine J_S2s 13 (am_d11 rfl) rfl rfl (sp13) ?_
  refine J_if_ne 32 (am_d11 rfl) rfl (fun h27 => ?_) (fun h27 => (by exfalso; simp [am_bi0, am_bi1, Int32.lt_iff_toInt_lt, Int32.le_iff_toInt_le, ia, ib, iy] at * <;> omega))
  refine J_b 2 am_d11 rfl ?_
  refine J_gsM rfl (am_d11 rfl) ?_
  refine J_b 1 am_d11 rfl ?_
  refine J_tM (am_d11 rfl) (am_vi rfl) ?_
  refine J_S3s 14 (am_d11 rfl) rfl rfl (sp14) ?_
  refine J_if_ne 50 (am_d11 rfl) rfl (fun h44 => (by exfalso; simp [am_bi0, am_bi1, am_mom, Int32.lt_iff_toInt_lt, Int32.le_iff_toInt_le] at * <;> omega)) (fun h44 => ?_)
  refine J_b 1 am_d11 rfl ?_
  exact J_iret (am_d11 rfl) rfl rfl ⟨rfl, rfl, rfl⟩
theorem sp138b_0 {X : am_X} {M : am_M} {N : am_N} {a b y : Nat} {v : Int32} (hb : b < 10) (hy : y < 6) (hab : a ≤ b) (h2 : ¬ (0 ≤ v.toInt ∧ v.toInt ≤ 2)) : am_J X (am_eq (some (.int (-2))) (M) N) 138 0 (am_en 138 [.ref 120, .int (nI a), .int (nI b), .int (nI y), .int (0 : Int32), .int v]) [] M N := by
  have ia := nI_i (n := a) (by omega)
  have ib := nI_i (n := b) (by omega)
  have iy := nI_i (n := y) (by omega)
  refine J_en (L := [.ref 120, .int (nI a), .int (nI b), .int (nI y), .int (0 : Int32), .int v, .retAddr 0, .retAddr 0]) rfl ?_
  refine J_b 2 am_d138 rfl ?_
  refine J_S2s 139 (am_d138 rfl) rfl rfl (sp139) ?_
  refine J_if_eq 34 (am_d138 rfl) rfl (fun h5 => (by exfalso; simp [am_bi0, am_bi1, Int32.lt_iff_toInt_lt, Int32.le_iff_toInt_le, ia, ib, iy] at * <;> omega)) (fun h5 => ?_)
  refine J_b 2 am_d138 rfl ?_
  refine J_S2s 139 (am_d138 rfl) rfl rfl (sp139) ?_
  refine J_if_eq 34 (am_d138 rfl) rfl (fun h13 => (by exfalso; simp [am_bi0, am_bi1, Int32.lt_iff_toInt_lt, Int32.le_iff_toInt_le, ia, ib, iy] at * <;> omega)) (fun h13 => ?_)
  refine J_b 2 am_d138 rfl ?_
  refine J_icmp_gt 34 (am_d138 rfl) rfl (fun h18 => (by exfalso; simp [am_bi0, am_bi1, Int32.lt_iff_toInt_lt, Int32.le_iff_toInt_le, ia, ib, iy] at * <;> omega)) (fun h18 => ?_)
  refine J_b 4 am_d138 rfl ?_
  refine J_S3s 140 (am_d138 rfl) rfl rfl (sp140) ?_
  refine J_if_ne 36 (am_d138 rfl) rfl (fun h31 => ?_) (fun h31 => (by exfalso; simp [am_bi0, am_bi1, Int32.lt_iff_toInt_lt, Int32.le_iff_toInt_le, ia, ib, iy] at * <;> omega))
  refine J_b 4 am_d138 rfl ?_
  refine J_S1s 141 (am_d138 rfl) rfl rfl (sp141) ?_
  refine J_b 1 am_d138 rfl ?_
  refine J_S3s 140 (am_d138 rfl) rfl rfl (sp140) ?_
  refine J_if_ne 55 (am_d138 rfl) rfl (fun h49 => (by exfalso; simp [am_bi0, am_bi1, am_mom, Int32.lt_iff_toInt_lt, Int32.le_iff_toInt_le] at * <;> omega)) (fun h49 => ?_)
  refine J_b 1 am_d138 rfl ?_
  exact J_iret (am_d138 rfl) rfl rfl ⟨rfl, rfl, rfl⟩
theorem sp11s_0 {X : am_X} {M : am_M} {N : am_N} {a b y : Nat} {v : Int32} (hb : b < 10) (hy : y < 6) (hab : a ≤ b) (h2 : 0 ≤ v.toInt ∧ v.toInt ≤ 2) (hc : ¬ M 18 7 ≤ 0) : am_J X (am_eq (some (.int (-3))) (M) N) 11 0 (am_en 11 [.ref 0, .int (nI a), .int (nI b), .int (nI y), .int (0 : Int32), .int v]) [] M N := by
  have ia := nI_i (n := a) (by omega)
  have ib := nI_i (n := b) (by omega)
  have iy := nI_i (n := y) (by omega)
  refine J_en (L := [.ref 0, .int (nI a), .int (nI b), .int (nI y), .int (0 : Int32), .int v]) rfl ?_
  refine J_b 2 am_d11 rfl ?_
  refine J_S2s 12 (am_d11 rfl) rfl rfl (sp12) ?_
  refine J_if_eq 30 (am_d11 rfl) rfl (fun h5 => (by exfalso; simp [am_bi0, am_bi1, Int32.lt_iff_toInt_lt, Int32.le_iff_toInt_le, ia, ib, iy] at * <;> omega)) (fun h5 => ?_)
  refine J_b 2 am_d11 rfl ?_
  refine J_S2s 12 (am_d11 rfl) rfl rfl (sp12) ?_
  refine J_if_eq 30 (am_d11 rfl) rfl (fun h13 => (by exfalso; simp [am_bi0, am_bi1, Int32.lt_iff_toInt_lt, Int32.le_iff_toInt_le, ia, ib, iy] at * <;> omega)) (fun h13 => ?_)
  refine J_b 2 am_d11 rfl ?_
  refine J_icmp_gt 30 (am_d11 rfl) rfl (fun h18 => (by exfalso; simp [am_bi0, am_bi1, Int32.lt_iff_toInt_lt, Int32.le_iff_toInt_le, ia, ib, iy] at * <;> omega)) (fun h18 => ?_)
  refine J_b 2 am_d11 rfl ?_
  refine J_S2s 13 (am_d11 rfl) rfl rfl (sp13) ?_
  refine J_if_ne 32 (am_d11 rfl) rfl (fun h27 => ?_) (fun h27 => (by exfalso; simp [am_bi0, am_bi1, Int32.lt_iff_toInt_lt, Int32.le_iff_toInt_le, ia, ib, iy] at * <;> omega))
  refine J_b 2 am_d11 rfl ?_
  refine J_gsM rfl (am_d11 rfl) ?_
  refine J_b 1 am_d11 rfl ?_
  refine J_tM (am_d11 rfl) (am_vi rfl) ?_
  refine J_S3s 14 (am_d11 rfl) rfl rfl (sp14) ?_
  refine J_if_ne 50 (am_d11 rfl) rfl (fun h44 => ?_) (fun h44 => (by exfalso; simp [am_bi0, am_bi1, am_mom, Int32.lt_iff_toInt_lt, Int32.le_iff_toInt_le] at * <;> omega))
  refine J_b 1 am_d11 rfl ?_
  refine J_if_ne 68 (am_d11 rfl) rfl (fun h52 => absurd rfl h52) (fun h52 => ?_)
  refine J_b 3 am_d11 rfl ?_
  refine J_if_le 68 (am_d11 rfl) rfl (fun h62 => absurd h62 hc) (fun h62 => ?_)
  refine J_b 1 am_d11 rfl ?_
  exact J_iret (am_d11 rfl) rfl rfl ⟨rfl, rfl, rfl⟩
theorem sp138s_0 {X : am_X} {M : am_M} {N : am_N} {a b y : Nat} {v : Int32} (hb : b < 10) (hy : y < 6) (hab : a ≤ b) (h2 : 0 ≤ v.toInt ∧ v.toInt ≤ 2) (hc : ¬ M 120 22 ≤ 0) : am_J X (am_eq (some (.int (-3))) (M) N) 138 0 (am_en 138 [.ref 120, .int (nI a), .int (nI b), .int (nI y), .int (0 : Int32), .int v]) [] M N := by
  have ia := nI_i (n := a) (by omega)
  have ib := nI_i (n := b) (by omega)
  have iy := nI_i (n := y) (by omega)
  refine J_en (L := [.ref 120, .int (nI a), .int (nI b), .int (nI y), .int (0 : Int32), .int v, .retAddr 0, .retAddr 0]) rfl ?_
  refine J_b 2 am_d138 rfl ?_
  refine J_S2s 139 (am_d138 rfl) rfl rfl (sp139) ?_
  refine J_if_eq 34 (am_d138 rfl) rfl (fun h5 => (by exfalso; simp [am_bi0, am_bi1, Int32.lt_iff_toInt_lt, Int32.le_iff_toInt_le, ia, ib, iy] at * <;> omega)) (fun h5 => ?_)
  refine J_b 2 am_d138 rfl ?_
  refine J_S2s 139 (am_d138 rfl) rfl rfl (sp139) ?_
  refine J_if_eq 34 (am_d138 rfl) rfl (fun h13 => (by exfalso; simp [am_bi0, am_bi1, Int32.lt_iff_toInt_lt, Int32.le_iff_toInt_le, ia, ib, iy] at * <;> omega)) (fun h13 => ?_)
  refine J_b 2 am_d138 rfl ?_
  refine J_icmp_gt 34 (am_d138 rfl) rfl (fun h18 => (by exfalso; simp [am_bi0, am_bi1, Int32.lt_iff_toInt_lt, Int32.le_iff_toInt_le, ia, ib, iy] at * <;> omega)) (fun h18 => ?_)
  refine J_b 4 am_d138 rfl ?_
  refine J_S3s 140 (am_d138 rfl) rfl rfl (sp140) ?_
  refine J_if_ne 36 (am_d138 rfl) rfl (fun h31 => ?_) (fun h31 => (by exfalso; simp [am_bi0, am_bi1, Int32.lt_iff_toInt_lt, Int32.le_iff_toInt_le, ia, ib, iy] at * <;> omega))
  refine J_b 4 am_d138 rfl ?_
  refine J_S1s 141 (am_d138 rfl) rfl rfl (sp141) ?_
  refine J_b 1 am_d138 rfl ?_
  refine J_S3s 140 (am_d138 rfl) rfl rfl (sp140) ?_
  refine J_if_ne 55 (am_d138 rfl) rfl (fun h49 => ?_) (fun h49 => (by exfalso; simp [am_bi0, am_bi1, am_mom, Int32.lt_iff_toInt_lt, Int32.le_iff_toInt_le] at * <;> omega))
  refine J_b 1 am_d138 rfl ?_
  refine J_if_ne 70 (am_d138 rfl) rfl (fun h57 => absurd rfl h57) (fun h57 => ?_)
  refine J_b 2 am_d138 rfl ?_
  refine J_if_le 70 (am_d138 rfl) rfl (fun h64 => absurd h64 hc) (fun h64 => ?_)
  refine J_b 1 am_d138 rfl ?_
  exact J_iret (am_d138 rfl) rfl rfl ⟨rfl, rfl, rfl⟩
theorem sp11c_0 {X : am_X} {M : am_M} {N : am_N} {a b y : Nat} {v : Int32} (hb : b < 10) (hy : y < 6) (hab : a ≤ b) (h2 : 0 ≤ v.toInt ∧ v.toInt ≤ 2) (hc : M 18 7 ≤ 0) : am_J X (am_eq (some (.int (pm (M 3) a y v (b + 1 - a)).2)) (am_up (am_upR M 3 (pm (M 3) a y v (b + 1 - a)).1) 1 11 (M 1 11 + 1)) N) 11 0 (am_en 11 [.ref 0, .int (nI a), .int (nI b), .int (nI y), .int (0 : Int32), .int v]) [] M N := by
  have ia := nI_i (n := a) (by omega)
  have ib := nI_i (n := b) (by omega)
  have iy := nI_i (n := y) (by omega)
  refine J_en (L := [.ref 0, .int (nI a), .int (nI b), .int (nI y), .int (0 : Int32), .int v]) rfl ?_
  refine J_b 2 am_d11 rfl ?_
  refine J_S2s 12 (am_d11 rfl) rfl rfl (sp12) ?_
  refine J_if_eq 30 (am_d11 rfl) rfl (fun h5 => (by exfalso; simp [am_bi0, am_bi1, Int32.lt_iff_toInt_lt, Int32.le_iff_toInt_le, ia, ib, iy] at * <;> omega)) (fun h5 => ?_)
  refine J_b 2 am_d11 rfl ?_
  refine J_S2s 12 (am_d11 rfl) rfl rfl (sp12) ?_
  refine J_if_eq 30 (am_d11 rfl) rfl (fun h13 => (by exfalso; simp [am_bi0, am_bi1, Int32.lt_iff_toInt_lt, Int32.le_iff_toInt_le, ia, ib, iy] at * <;> omega)) (fun h13 => ?_)
  refine J_b 2 am_d11 rfl ?_
  refine J_icmp_gt 30 (am_d11 rfl) rfl (fun h18 => (by exfalso; simp [am_bi0, am_bi1, Int32.lt_iff_toInt_lt, Int32.le_iff_toInt_le, ia, ib, iy] at * <;> omega)) (fun h18 => ?_)
  refine J_b 2 am_d11 rfl ?_
  refine J_S2s 13 (am_d11 rfl) rfl rfl (sp13) ?_
  refine J_if_ne 32 (am_d11 rfl) rfl (fun h27 => ?_) (fun h27 => (by exfalso; simp [am_bi0, am_bi1, Int32.lt_iff_toInt_lt, Int32.le_iff_toInt_le, ia, ib, iy] at * <;> omega))
  refine J_b 2 am_d11 rfl ?_
  refine J_gsM rfl (am_d11 rfl) ?_
  refine J_b 1 am_d11 rfl ?_
  refine J_tM (am_d11 rfl) (am_vi rfl) ?_
  refine J_S3s 14 (am_d11 rfl) rfl rfl (sp14) ?_
  refine J_if_ne 50 (am_d11 rfl) rfl (fun h44 => ?_) (fun h44 => (by exfalso; simp [am_bi0, am_bi1, am_mom, Int32.lt_iff_toInt_lt, Int32.le_iff_toInt_le] at * <;> omega))
  refine J_b 1 am_d11 rfl ?_
  refine J_if_ne 68 (am_d11 rfl) rfl (fun h52 => absurd rfl h52) (fun h52 => ?_)
  refine J_b 3 am_d11 rfl ?_
  refine J_if_le 68 (am_d11 rfl) rfl (fun h62 => ?_) (fun h62 => absurd (hc) h62)
  refine J_b 7 am_d11 rfl ?_
  refine J_V5s 15 (am_d11 rfl) rfl rfl (sp15_0 hb hy hab) ?_
  exact J_iret (am_d11 rfl) rfl rfl ⟨rfl, rfl, rfl⟩
theorem lp138_0 {X : am_X} {M : am_M} {N : am_N} {r : Nat → Int32} {a b y : Nat} {v : Int32} (hb : b < 10) (hy : y < 6) : ∀ (n i : Nat) (x o1 : Int32) (M1 : am_M), i + n = b + 1 - a → a ≤ b → x = nI (a + i) → o1 = (pm r a y v i).2 → M1 = am_upR M 121 (pm r a y v i).1 → am_J X (am_eq (some (.int (pm r a y v (b + 1 - a)).2)) (am_upR M 121 (pm r a y v (b + 1 - a)).1) N) 138 76 [.ref 120, .int (nI a), .int (nI b), .int (nI y), .int (0 : Int32), .int v, .int o1, .int x] [] M1 N := by
  intro n
  induction n with
  | zero =>
    intro i x o1 M1 hn hab ex eo em
    subst em
    have e : i = b + 1 - a := by omega
    subst e
    subst eo
    have hx : nI b < x := by rw [ex]; exact nI_lt (by omega) (by omega)
    refine J_b 2 am_d138 rfl ?_
    refine J_icmp_gt 131 (am_d138 rfl) rfl (fun h79 => ?_) (fun h79 => absurd (hx) h79)
    refine J_b 1 am_d138 rfl ?_
    exact J_iret (am_d138 rfl) rfl rfl ⟨rfl, rfl, rfl⟩
  | succ n ih =>
    intro i x o1 M1 hn hab ex eo em
    subst em
    have hp : (Int8.ofInt 6).toInt32 * x + nI y = nI (6 * (a + i) + y) := pl_nI ex
    have hlt : ¬ nI b < x := by rw [ex]; exact nI_nlt (by omega) (by omega)
    refine J_b 2 am_d138 rfl ?_
    refine J_icmp_gt 131 (am_d138 rfl) rfl (fun h79 => absurd h79 hlt) (fun h79 => ?_)
    refine J_b 7 am_d138 rfl ?_
    rw [hp]
    refine J_b 1 am_d138 rfl ?_
    refine J_V2s 142 (am_d138 rfl) rfl rfl (sp142_0 (by omega)) ?_
    refine J_b 1 am_d138 rfl ?_
    refine J_icmp_eq 106 (am_d138 rfl) rfl (fun h99 => ?_) (fun h99 => ?_)
    · refine J_b 9 am_d138 rfl ?_
      rw [hp]
      refine J_b 1 am_d138 rfl ?_
      refine J_b 1 am_d138 rfl ?_
      refine J_V3n 143 (am_d138 rfl) rfl rfl (sp143_0 (by omega)) ?_
      refine J_b 2 am_d138 rfl ?_
      refine ih (i + 1) _ _ _ (by omega) hab (by rw [ex]; exact nI_1 (a + i)) ?_ ?_
      · show o1 + 0 = (pm r a y v i).2 + (if (pm r a y v i).1 (6 * (a + i) + y) = v then 0 else 1)
        rw [if_pos (show (pm r a y v i).1 (6 * (a + i) + y) = v from h99), eo]
      · rw [upR_up]
        rfl
    · refine J_b 10 am_d138 rfl ?_
      rw [hp]
      refine J_b 1 am_d138 rfl ?_
      refine J_b 1 am_d138 rfl ?_
      refine J_V3n 143 (am_d138 rfl) rfl rfl (sp143_0 (by omega)) ?_
      refine J_b 2 am_d138 rfl ?_
      refine ih (i + 1) _ _ _ (by omega) hab (by rw [ex]; exact nI_1 (a + i)) ?_ ?_
      · show o1 + 1 = (pm r a y v i).2 + (if (pm r a y v i).1 (6 * (a + i) + y) = v then 0 else 1)
        rw [if_neg (show ¬ (pm r a y v i).1 (6 * (a + i) + y) = v from h99), eo]
      · rw [upR_up]
        rfl
theorem sp138c_0 {X : am_X} {M : am_M} {N : am_N} {a b y : Nat} {v : Int32} (hb : b < 10) (hy : y < 6) (hab : a ≤ b) (h2 : 0 ≤ v.toInt ∧ v.toInt ≤ 2) (hc : M 120 22 ≤ 0) : am_J X (am_eq (some (.int (pm (M 121) a y v (b + 1 - a)).2)) (am_upR M 121 (pm (M 121) a y v (b + 1 - a)).1) N) 138 0 (am_en 138 [.ref 120, .int (nI a), .int (nI b), .int (nI y), .int (0 : Int32), .int v]) [] M N := by
  have ia := nI_i (n := a) (by omega)
  have ib := nI_i (n := b) (by omega)
  have iy := nI_i (n := y) (by omega)
  refine J_en (L := [.ref 120, .int (nI a), .int (nI b), .int (nI y), .int (0 : Int32), .int v, .retAddr 0, .retAddr 0]) rfl ?_
  refine J_b 2 am_d138 rfl ?_
  refine J_S2s 139 (am_d138 rfl) rfl rfl (sp139) ?_
  refine J_if_eq 34 (am_d138 rfl) rfl (fun h5 => (by exfalso; simp [am_bi0, am_bi1, Int32.lt_iff_toInt_lt, Int32.le_iff_toInt_le, ia, ib, iy] at * <;> omega)) (fun h5 => ?_)
  refine J_b 2 am_d138 rfl ?_
  refine J_S2s 139 (am_d138 rfl) rfl rfl (sp139) ?_
  refine J_if_eq 34 (am_d138 rfl) rfl (fun h13 => (by exfalso; simp [am_bi0, am_bi1, Int32.lt_iff_toInt_lt, Int32.le_iff_toInt_le, ia, ib, iy] at * <;> omega)) (fun h13 => ?_)
  refine J_b 2 am_d138 rfl ?_
  refine J_icmp_gt 34 (am_d138 rfl) rfl (fun h18 => (by exfalso; simp [am_bi0, am_bi1, Int32.lt_iff_toInt_lt, Int32.le_iff_toInt_le, ia, ib, iy] at * <;> omega)) (fun h18 => ?_)
  refine J_b 4 am_d138 rfl ?_
  refine J_S3s 140 (am_d138 rfl) rfl rfl (sp140) ?_
  refine J_if_ne 36 (am_d138 rfl) rfl (fun h31 => ?_) (fun h31 => (by exfalso; simp [am_bi0, am_bi1, Int32.lt_iff_toInt_lt, Int32.le_iff_toInt_le, ia, ib, iy] at * <;> omega))
  refine J_b 4 am_d138 rfl ?_
  refine J_S1s 141 (am_d138 rfl) rfl rfl (sp141) ?_
  refine J_b 1 am_d138 rfl ?_
  refine J_S3s 140 (am_d138 rfl) rfl rfl (sp140) ?_
  refine J_if_ne 55 (am_d138 rfl) rfl (fun h49 => ?_) (fun h49 => (by exfalso; simp [am_bi0, am_bi1, am_mom, Int32.lt_iff_toInt_lt, Int32.le_iff_toInt_le] at * <;> omega))
  refine J_b 1 am_d138 rfl ?_
  refine J_if_ne 70 (am_d138 rfl) rfl (fun h57 => absurd rfl h57) (fun h57 => ?_)
  refine J_b 2 am_d138 rfl ?_
  refine J_if_le 70 (am_d138 rfl) rfl (fun h64 => ?_) (fun h64 => absurd (hc) h64)
  refine J_b 4 am_d138 rfl ?_
  exact lp138_0 hb hy (b + 1 - a) 0 _ _ _ (by omega) hab rfl rfl upR_id.symm
theorem sp17c_0 {X : am_X} {M : am_M} {N : am_N} {a y : Nat} (ha : a < 10) (hy : y < 6) : am_J X (am_eq (some (.int (M 3 (6 * a + y)))) (M) N) 17 0 (am_en 17 [.ref 0, .int (nI a), .int (nI y), .int (0 : Int32)]) [] M N := by
  have ia := nI_i (n := a) (by omega)
  have iy := nI_i (n := y) (by omega)
  have hp := pl_nI (y := y) (rfl : nI a = nI a)
  have hp8 : (Int8.ofInt 6).toInt32 * nI a + nI y = nI (6 * a + y) := hp
  refine J_en (L := [.ref 0, .int (nI a), .int (nI y), .int (0 : Int32)]) rfl ?_
  refine J_b 2 am_d17 rfl ?_
  refine J_S2s 12 (am_d17 rfl) rfl rfl (sp12) ?_
  refine J_if_eq 16 (am_d17 rfl) rfl (fun h5 => (by exfalso; simp [am_bi0, am_bi1, ia, iy] at * <;> omega)) (fun h5 => ?_)
  refine J_b 2 am_d17 rfl ?_
  refine J_S2s 13 (am_d17 rfl) rfl rfl (sp13) ?_
  refine J_if_ne 18 (am_d17 rfl) rfl (fun h13 => ?_) (fun h13 => (by exfalso; simp [am_bi0, am_bi1, ia, iy] at * <;> omega))
  refine J_b 4 am_d17 rfl ?_
  refine J_aaldk 3 (am_d17 rfl) rfl (am_vi rfl) rfl ?_
  refine J_b 2 am_d17 rfl ?_
  refine J_S2s 16 (am_d17 rfl) rfl rfl (sp16) ?_
  rw [hp]
  refine J_iald (am_d17 rfl) rfl (vp_in_nI (by omega) (by decide)) ?_
  exact J_iret (am_d17 rfl) rfl rfl ⟨by rw [nI_c (by omega)], rfl, rfl⟩
theorem sp144c_0 {X : am_X} {M : am_M} {N : am_N} {a y : Nat} (ha : a < 10) (hy : y < 6) : am_J X (am_eq (some (.int (M 121 (6 * a + y)))) (M) N) 144 0 (am_en 144 [.ref 120, .int (nI a), .int (nI y), .int (0 : Int32)]) [] M N := by
  have ia := nI_i (n := a) (by omega)
  have iy := nI_i (n := y) (by omega)
  have hp := pl_nI (y := y) (rfl : nI a = nI a)
  have hp8 : (Int8.ofInt 6).toInt32 * nI a + nI y = nI (6 * a + y) := hp
  refine J_en (L := [.ref 120, .int (nI a), .int (nI y), .int (0 : Int32)]) rfl ?_
  refine J_b 2 am_d144 rfl ?_
  refine J_S2s 139 (am_d144 rfl) rfl rfl (sp139) ?_
  refine J_if_eq 34 (am_d144 rfl) rfl (fun h5 => (by exfalso; simp [am_bi0, am_bi1, ia, iy] at * <;> omega)) (fun h5 => ?_)
  refine J_b 4 am_d144 rfl ?_
  refine J_S3s 140 (am_d144 rfl) rfl rfl (sp140) ?_
  refine J_if_eq 34 (am_d144 rfl) rfl (fun h17 => (by exfalso; simp [am_bi0, am_bi1, ia, iy] at * <;> omega)) (fun h17 => ?_)
  refine J_b 6 am_d144 rfl ?_
  rw [hp8]
  refine J_b 1 am_d144 rfl ?_
  refine J_V2s 142 (am_d144 rfl) rfl rfl (sp142_0 (by omega)) ?_
  refine J_b 1 am_d144 rfl ?_
  exact J_iret (am_d144 rfl) rfl rfl ⟨rfl, rfl, rfl⟩
theorem sp11b_1 {X : am_X} {M : am_M} {N : am_N} {a b y : Nat} {v : Int32} (hb : b < 10) (hy : y < 6) (hab : a ≤ b) (h2 : ¬ (0 ≤ v.toInt ∧ v.toInt ≤ 2)) : am_J X (am_eq (some (.int (-2))) (M) N) 11 0 (am_en 11 [.ref 0, .int (nI a), .int (nI b), .int (nI y), .int (1 : Int32), .int v]) [] M N := by
  have ia := nI_i (n := a) (by omega)
  have ib := nI_i (n := b) (by omega)
  have iy := nI_i (n := y) (by omega)
  refine J_en (L := [.ref 0, .int (nI a), .int (nI b), .int (nI y), .int (1 : Int32), .int v]) rfl ?_
  refine J_b 2 am_d11 rfl ?_
  refine J_S2s 12 (am_d11 rfl) rfl rfl (sp12) ?_
  refine J_if_eq 30 (am_d11 rfl) rfl (fun h5 => (by exfalso; simp [am_bi0, am_bi1, Int32.lt_iff_toInt_lt, Int32.le_iff_toInt_le, ia, ib, iy] at * <;> omega)) (fun h5 => ?_)
  refine J_b 2 am_d11 rfl ?_
  refine J_S2s 12 (am_d11 rfl) rfl rfl (sp12) ?_
  refine J_if_eq 30 (am_d11 rfl) rfl (fun h13 => (by exfalso; simp [am_bi0, am_bi1, Int32.lt_iff_toInt_lt, Int32.le_iff_toInt_le, ia, ib, iy] at * <;> omega)) (fun h13 => ?_)
  refine J_b 2 am_d11 rfl ?_
  refine J_icmp_gt 30 (am_d11 rfl) rfl (fun h18 => (by exfalso; simp [am_bi0, am_bi1, Int32.lt_iff_toInt_lt, Int32.le_iff_toInt_le, ia, ib, iy] at * <;> omega)) (fun h18 => ?_)
  refine J_b 2 am_d11 rfl ?_
  refine J_S2s 13 (am_d11 rfl) rfl rfl (sp13) ?_
  refine J_if_ne 32 (am_d11 rfl) rfl (fun h27 => ?_) (fun h27 => (by exfalso; simp [am_bi0, am_bi1, Int32.lt_iff_toInt_lt, Int32.le_iff_toInt_le, ia, ib, iy] at * <;> omega))
  refine J_b 2 am_d11 rfl ?_
  refine J_gsM rfl (am_d11 rfl) ?_
  refine J_b 1 am_d11 rfl ?_
  refine J_tM (am_d11 rfl) (am_vi rfl) ?_
  refine J_S3s 14 (am_d11 rfl) rfl rfl (sp14) ?_
  refine J_if_ne 50 (am_d11 rfl) rfl (fun h44 => (by exfalso; simp [am_bi0, am_bi1, am_mom, Int32.lt_iff_toInt_lt, Int32.le_iff_toInt_le] at * <;> omega)) (fun h44 => ?_)
  refine J_b 1 am_d11 rfl ?_
  exact J_iret (am_d11 rfl) rfl rfl ⟨rfl, rfl, rfl⟩
theorem sp138b_1 {X : am_X} {M : am_M} {N : am_N} {a b y : Nat} {v : Int32} (hb : b < 10) (hy : y < 6) (hab : a ≤ b) (h2 : ¬ (0 ≤ v.toInt ∧ v.toInt ≤ 2)) : am_J X (am_eq (some (.int (-2))) (M) N) 138 0 (am_en 138 [.ref 120, .int (nI a), .int (nI b), .int (nI y), .int (1 : Int32), .int v]) [] M N := by
  have ia := nI_i (n := a) (by omega)
  have ib := nI_i (n := b) (by omega)
  have iy := nI_i (n := y) (by omega)
  refine J_en (L := [.ref 120, .int (nI a), .int (nI b), .int (nI y), .int (1 : Int32), .int v, .retAddr 0, .retAddr 0]) rfl ?_
  refine J_b 2 am_d138 rfl ?_
  refine J_S2s 139 (am_d138 rfl) rfl rfl (sp139) ?_
  refine J_if_eq 34 (am_d138 rfl) rfl (fun h5 => (by exfalso; simp [am_bi0, am_bi1, Int32.lt_iff_toInt_lt, Int32.le_iff_toInt_le, ia, ib, iy] at * <;> omega)) (fun h5 => ?_)
  refine J_b 2 am_d138 rfl ?_
  refine J_S2s 139 (am_d138 rfl) rfl rfl (sp139) ?_
  refine J_if_eq 34 (am_d138 rfl) rfl (fun h13 => (by exfalso; simp [am_bi0, am_bi1, Int32.lt_iff_toInt_lt, Int32.le_iff_toInt_le, ia, ib, iy] at * <;> omega)) (fun h13 => ?_)
  refine J_b 2 am_d138 rfl ?_
  refine J_icmp_gt 34 (am_d138 rfl) rfl (fun h18 => (by exfalso; simp [am_bi0, am_bi1, Int32.lt_iff_toInt_lt, Int32.le_iff_toInt_le, ia, ib, iy] at * <;> omega)) (fun h18 => ?_)
  refine J_b 4 am_d138 rfl ?_
  refine J_S3s 140 (am_d138 rfl) rfl rfl (sp140) ?_
  refine J_if_ne 36 (am_d138 rfl) rfl (fun h31 => ?_) (fun h31 => (by exfalso; simp [am_bi0, am_bi1, Int32.lt_iff_toInt_lt, Int32.le_iff_toInt_le, ia, ib, iy] at * <;> omega))
  refine J_b 4 am_d138 rfl ?_
  refine J_S1s 141 (am_d138 rfl) rfl rfl (sp141) ?_
  refine J_b 1 am_d138 rfl ?_
  refine J_S3s 140 (am_d138 rfl) rfl rfl (sp140) ?_
  refine J_if_ne 55 (am_d138 rfl) rfl (fun h49 => (by exfalso; simp [am_bi0, am_bi1, am_mom, Int32.lt_iff_toInt_lt, Int32.le_iff_toInt_le] at * <;> omega)) (fun h49 => ?_)
  refine J_b 1 am_d138 rfl ?_
  exact J_iret (am_d138 rfl) rfl rfl ⟨rfl, rfl, rfl⟩
theorem sp11c_1 {X : am_X} {M : am_M} {N : am_N} {a b y : Nat} {v : Int32} (hb : b < 10) (hy : y < 6) (hab : a ≤ b) (h2 : 0 ≤ v.toInt ∧ v.toInt ≤ 2) : am_J X (am_eq (some (.int (pm (M 4) a y v (b + 1 - a)).2)) (am_up (am_upR M 4 (pm (M 4) a y v (b + 1 - a)).1) 1 11 (M 1 11 + 1)) N) 11 0 (am_en 11 [.ref 0, .int (nI a), .int (nI b), .int (nI y), .int (1 : Int32), .int v]) [] M N := by
  have ia := nI_i (n := a) (by omega)
  have ib := nI_i (n := b) (by omega)
  have iy := nI_i (n := y) (by omega)
  refine J_en (L := [.ref 0, .int (nI a), .int (nI b), .int (nI y), .int (1 : Int32), .int v]) rfl ?_
  refine J_b 2 am_d11 rfl ?_
  refine J_S2s 12 (am_d11 rfl) rfl rfl (sp12) ?_
  refine J_if_eq 30 (am_d11 rfl) rfl (fun h5 => (by exfalso; simp [am_bi0, am_bi1, Int32.lt_iff_toInt_lt, Int32.le_iff_toInt_le, ia, ib, iy] at * <;> omega)) (fun h5 => ?_)
  refine J_b 2 am_d11 rfl ?_
  refine J_S2s 12 (am_d11 rfl) rfl rfl (sp12) ?_
  refine J_if_eq 30 (am_d11 rfl) rfl (fun h13 => (by exfalso; simp [am_bi0, am_bi1, Int32.lt_iff_toInt_lt, Int32.le_iff_toInt_le, ia, ib, iy] at * <;> omega)) (fun h13 => ?_)
  refine J_b 2 am_d11 rfl ?_
  refine J_icmp_gt 30 (am_d11 rfl) rfl (fun h18 => (by exfalso; simp [am_bi0, am_bi1, Int32.lt_iff_toInt_lt, Int32.le_iff_toInt_le, ia, ib, iy] at * <;> omega)) (fun h18 => ?_)
  refine J_b 2 am_d11 rfl ?_
  refine J_S2s 13 (am_d11 rfl) rfl rfl (sp13) ?_
  refine J_if_ne 32 (am_d11 rfl) rfl (fun h27 => ?_) (fun h27 => (by exfalso; simp [am_bi0, am_bi1, Int32.lt_iff_toInt_lt, Int32.le_iff_toInt_le, ia, ib, iy] at * <;> omega))
  refine J_b 2 am_d11 rfl ?_
  refine J_gsM rfl (am_d11 rfl) ?_
  refine J_b 1 am_d11 rfl ?_
  refine J_tM (am_d11 rfl) (am_vi rfl) ?_
  refine J_S3s 14 (am_d11 rfl) rfl rfl (sp14) ?_
  refine J_if_ne 50 (am_d11 rfl) rfl (fun h44 => ?_) (fun h44 => (by exfalso; simp [am_bi0, am_bi1, am_mom, Int32.lt_iff_toInt_lt, Int32.le_iff_toInt_le] at * <;> omega))
  refine J_b 1 am_d11 rfl ?_
  refine J_if_ne 68 (am_d11 rfl) rfl (fun h52 => ?_) (fun h52 => absurd h52 (by decide))
  refine J_b 7 am_d11 rfl ?_
  refine J_V5s 15 (am_d11 rfl) rfl rfl (sp15_1 hb hy hab) ?_
  exact J_iret (am_d11 rfl) rfl rfl ⟨rfl, rfl, rfl⟩
theorem lp138_1 {X : am_X} {M : am_M} {N : am_N} {r : Nat → Int32} {a b y : Nat} {v : Int32} (hb : b < 10) (hy : y < 6) : ∀ (n i : Nat) (x o1 : Int32) (M1 : am_M), i + n = b + 1 - a → a ≤ b → x = nI (a + i) → o1 = (pm r a y v i).2 → M1 = am_upR M 122 (pm r a y v i).1 → am_J X (am_eq (some (.int (pm r a y v (b + 1 - a)).2)) (am_upR M 122 (pm r a y v (b + 1 - a)).1) N) 138 76 [.ref 120, .int (nI a), .int (nI b), .int (nI y), .int (1 : Int32), .int v, .int o1, .int x] [] M1 N := by
  intro n
  induction n with
  | zero =>
    intro i x o1 M1 hn hab ex eo em
    subst em
    have e : i = b + 1 - a := by omega
    subst e
    subst eo
    have hx : nI b < x := by rw [ex]; exact nI_lt (by omega) (by omega)
    refine J_b 2 am_d138 rfl ?_
    refine J_icmp_gt 131 (am_d138 rfl) rfl (fun h79 => ?_) (fun h79 => absurd (hx) h79)
    refine J_b 1 am_d138 rfl ?_
    exact J_iret (am_d138 rfl) rfl rfl ⟨rfl, rfl, rfl⟩
  | succ n ih =>
    intro i x o1 M1 hn hab ex eo em
    subst em
    have hp : (Int8.ofInt 6).toInt32 * x + nI y = nI (6 * (a + i) + y) := pl_nI ex
    have hlt : ¬ nI b < x := by rw [ex]; exact nI_nlt (by omega) (by omega)
    refine J_b 2 am_d138 rfl ?_
    refine J_icmp_gt 131 (am_d138 rfl) rfl (fun h79 => absurd h79 hlt) (fun h79 => ?_)
    refine J_b 7 am_d138 rfl ?_
    rw [hp]
    refine J_b 1 am_d138 rfl ?_
    refine J_V2s 142 (am_d138 rfl) rfl rfl (sp142_1 (by omega)) ?_
    refine J_b 1 am_d138 rfl ?_
    refine J_icmp_eq 106 (am_d138 rfl) rfl (fun h99 => ?_) (fun h99 => ?_)
    · refine J_b 9 am_d138 rfl ?_
      rw [hp]
      refine J_b 1 am_d138 rfl ?_
      refine J_b 1 am_d138 rfl ?_
      refine J_V3n 143 (am_d138 rfl) rfl rfl (sp143_1 (by omega)) ?_
      refine J_b 2 am_d138 rfl ?_
      refine ih (i + 1) _ _ _ (by omega) hab (by rw [ex]; exact nI_1 (a + i)) ?_ ?_
      · show o1 + 0 = (pm r a y v i).2 + (if (pm r a y v i).1 (6 * (a + i) + y) = v then 0 else 1)
        rw [if_pos (show (pm r a y v i).1 (6 * (a + i) + y) = v from h99), eo]
      · rw [upR_up]
        rfl
    · refine J_b 10 am_d138 rfl ?_
      rw [hp]
      refine J_b 1 am_d138 rfl ?_
      refine J_b 1 am_d138 rfl ?_
      refine J_V3n 143 (am_d138 rfl) rfl rfl (sp143_1 (by omega)) ?_
      refine J_b 2 am_d138 rfl ?_
      refine ih (i + 1) _ _ _ (by omega) hab (by rw [ex]; exact nI_1 (a + i)) ?_ ?_
      · show o1 + 1 = (pm r a y v i).2 + (if (pm r a y v i).1 (6 * (a + i) + y) = v then 0 else 1)
        rw [if_neg (show ¬ (pm r a y v i).1 (6 * (a + i) + y) = v from h99), eo]
      · rw [upR_up]
        rfl
theorem sp138c_1 {X : am_X} {M : am_M} {N : am_N} {a b y : Nat} {v : Int32} (hb : b < 10) (hy : y < 6) (hab : a ≤ b) (h2 : 0 ≤ v.toInt ∧ v.toInt ≤ 2) : am_J X (am_eq (some (.int (pm (M 122) a y v (b + 1 - a)).2)) (am_upR M 122 (pm (M 122) a y v (b + 1 - a)).1) N) 138 0 (am_en 138 [.ref 120, .int (nI a), .int (nI b), .int (nI y), .int (1 : Int32), .int v]) [] M N := by
  have ia := nI_i (n := a) (by omega)
  have ib := nI_i (n := b) (by omega)
  have iy := nI_i (n := y) (by omega)
  refine J_en (L := [.ref 120, .int (nI a), .int (nI b), .int (nI y), .int (1 : Int32), .int v, .retAddr 0, .retAddr 0]) rfl ?_
  refine J_b 2 am_d138 rfl ?_
  refine J_S2s 139 (am_d138 rfl) rfl rfl (sp139) ?_
  refine J_if_eq 34 (am_d138 rfl) rfl (fun h5 => (by exfalso; simp [am_bi0, am_bi1, Int32.lt_iff_toInt_lt, Int32.le_iff_toInt_le, ia, ib, iy] at * <;> omega)) (fun h5 => ?_)
  refine J_b 2 am_d138 rfl ?_
  refine J_S2s 139 (am_d138 rfl) rfl rfl (sp139) ?_
  refine J_if_eq 34 (am_d138 rfl) rfl (fun h13 => (by exfalso; simp [am_bi0, am_bi1, Int32.lt_iff_toInt_lt, Int32.le_iff_toInt_le, ia, ib, iy] at * <;> omega)) (fun h13 => ?_)
  refine J_b 2 am_d138 rfl ?_
  refine J_icmp_gt 34 (am_d138 rfl) rfl (fun h18 => (by exfalso; simp [am_bi0, am_bi1, Int32.lt_iff_toInt_lt, Int32.le_iff_toInt_le, ia, ib, iy] at * <;> omega)) (fun h18 => ?_)
  refine J_b 4 am_d138 rfl ?_
  refine J_S3s 140 (am_d138 rfl) rfl rfl (sp140) ?_
  refine J_if_ne 36 (am_d138 rfl) rfl (fun h31 => ?_) (fun h31 => (by exfalso; simp [am_bi0, am_bi1, Int32.lt_iff_toInt_lt, Int32.le_iff_toInt_le, ia, ib, iy] at * <;> omega))
  refine J_b 4 am_d138 rfl ?_
  refine J_S1s 141 (am_d138 rfl) rfl rfl (sp141) ?_
  refine J_b 1 am_d138 rfl ?_
  refine J_S3s 140 (am_d138 rfl) rfl rfl (sp140) ?_
  refine J_if_ne 55 (am_d138 rfl) rfl (fun h49 => ?_) (fun h49 => (by exfalso; simp [am_bi0, am_bi1, am_mom, Int32.lt_iff_toInt_lt, Int32.le_iff_toInt_le] at * <;> omega))
  refine J_b 1 am_d138 rfl ?_
  refine J_if_ne 70 (am_d138 rfl) rfl (fun h57 => ?_) (fun h57 => absurd h57 (by decide))
  refine J_b 4 am_d138 rfl ?_
  exact lp138_1 hb hy (b + 1 - a) 0 _ _ _ (by omega) hab rfl rfl upR_id.symm
theorem sp17c_1 {X : am_X} {M : am_M} {N : am_N} {a y : Nat} (ha : a < 10) (hy : y < 6) : am_J X (am_eq (some (.int (M 4 (6 * a + y)))) (M) N) 17 0 (am_en 17 [.ref 0, .int (nI a), .int (nI y), .int (1 : Int32)]) [] M N := by
  have ia := nI_i (n := a) (by omega)
  have iy := nI_i (n := y) (by omega)
  have hp := pl_nI (y := y) (rfl : nI a = nI a)
  have hp8 : (Int8.ofInt 6).toInt32 * nI a + nI y = nI (6 * a + y) := hp
  refine J_en (L := [.ref 0, .int (nI a), .int (nI y), .int (1 : Int32)]) rfl ?_
  refine J_b 2 am_d17 rfl ?_
  refine J_S2s 12 (am_d17 rfl) rfl rfl (sp12) ?_
  refine J_if_eq 16 (am_d17 rfl) rfl (fun h5 => (by exfalso; simp [am_bi0, am_bi1, ia, iy] at * <;> omega)) (fun h5 => ?_)
  refine J_b 2 am_d17 rfl ?_
  refine J_S2s 13 (am_d17 rfl) rfl rfl (sp13) ?_
  refine J_if_ne 18 (am_d17 rfl) rfl (fun h13 => ?_) (fun h13 => (by exfalso; simp [am_bi0, am_bi1, ia, iy] at * <;> omega))
  refine J_b 4 am_d17 rfl ?_
  refine J_aaldk 4 (am_d17 rfl) rfl (am_vi rfl) rfl ?_
  refine J_b 2 am_d17 rfl ?_
  refine J_S2s 16 (am_d17 rfl) rfl rfl (sp16) ?_
  rw [hp]
  refine J_iald (am_d17 rfl) rfl (vp_in_nI (by omega) (by decide)) ?_
  exact J_iret (am_d17 rfl) rfl rfl ⟨by rw [nI_c (by omega)], rfl, rfl⟩
theorem sp144c_1 {X : am_X} {M : am_M} {N : am_N} {a y : Nat} (ha : a < 10) (hy : y < 6) : am_J X (am_eq (some (.int (M 122 (6 * a + y)))) (M) N) 144 0 (am_en 144 [.ref 120, .int (nI a), .int (nI y), .int (1 : Int32)]) [] M N := by
  have ia := nI_i (n := a) (by omega)
  have iy := nI_i (n := y) (by omega)
  have hp := pl_nI (y := y) (rfl : nI a = nI a)
  have hp8 : (Int8.ofInt 6).toInt32 * nI a + nI y = nI (6 * a + y) := hp
  refine J_en (L := [.ref 120, .int (nI a), .int (nI y), .int (1 : Int32)]) rfl ?_
  refine J_b 2 am_d144 rfl ?_
  refine J_S2s 139 (am_d144 rfl) rfl rfl (sp139) ?_
  refine J_if_eq 34 (am_d144 rfl) rfl (fun h5 => (by exfalso; simp [am_bi0, am_bi1, ia, iy] at * <;> omega)) (fun h5 => ?_)
  refine J_b 4 am_d144 rfl ?_
  refine J_S3s 140 (am_d144 rfl) rfl rfl (sp140) ?_
  refine J_if_eq 34 (am_d144 rfl) rfl (fun h17 => (by exfalso; simp [am_bi0, am_bi1, ia, iy] at * <;> omega)) (fun h17 => ?_)
  refine J_b 6 am_d144 rfl ?_
  rw [hp8]
  refine J_b 1 am_d144 rfl ?_
  refine J_V2s 142 (am_d144 rfl) rfl rfl (sp142_1 (by omega)) ?_
  refine J_b 1 am_d144 rfl ?_
  exact J_iret (am_d144 rfl) rfl rfl ⟨rfl, rfl, rfl⟩
theorem sp11b_2 {X : am_X} {M : am_M} {N : am_N} {a b y : Nat} {v : Int32} (hb : b < 10) (hy : y < 6) (hab : a ≤ b) (h2 : ¬ (0 ≤ v.toInt ∧ v.toInt ≤ 16)) : am_J X (am_eq (some (.int (-2))) (M) N) 11 0 (am_en 11 [.ref 0, .int (nI a), .int (nI b), .int (nI y), .int (2 : Int32), .int v]) [] M N := by
  have ia := nI_i (n := a) (by omega)
  have ib := nI_i (n := b) (by omega)
  have iy := nI_i (n := y) (by omega)
  refine J_en (L := [.ref 0, .int (nI a), .int (nI b), .int (nI y), .int (2 : Int32), .int v]) rfl ?_
  refine J_b 2 am_d11 rfl ?_
  refine J_S2s 12 (am_d11 rfl) rfl rfl (sp12) ?_
  refine J_if_eq 30 (am_d11 rfl) rfl (fun h5 => (by exfalso; simp [am_bi0, am_bi1, Int32.lt_iff_toInt_lt, Int32.le_iff_toInt_le, ia, ib, iy] at * <;> omega)) (fun h5 => ?_)
  refine J_b 2 am_d11 rfl ?_
  refine J_S2s 12 (am_d11 rfl) rfl rfl (sp12) ?_
  refine J_if_eq 30 (am_d11 rfl) rfl (fun h13 => (by exfalso; simp [am_bi0, am_bi1, Int32.lt_iff_toInt_lt, Int32.le_iff_toInt_le, ia, ib, iy] at * <;> omega)) (fun h13 => ?_)
  refine J_b 2 am_d11 rfl ?_
  refine J_icmp_gt 30 (am_d11 rfl) rfl (fun h18 => (by exfalso; simp [am_bi0, am_bi1, Int32.lt_iff_toInt_lt, Int32.le_iff_toInt_le, ia, ib, iy] at * <;> omega)) (fun h18 => ?_)
  refine J_b 2 am_d11 rfl ?_
  refine J_S2s 13 (am_d11 rfl) rfl rfl (sp13) ?_
  refine J_if_ne 32 (am_d11 rfl) rfl (fun h27 => ?_) (fun h27 => (by exfalso; simp [am_bi0, am_bi1, Int32.lt_iff_toInt_lt, Int32.le_iff_toInt_le, ia, ib, iy] at * <;> omega))
  refine J_b 2 am_d11 rfl ?_
  refine J_gsM rfl (am_d11 rfl) ?_
  refine J_b 1 am_d11 rfl ?_
  refine J_tM (am_d11 rfl) (am_vi rfl) ?_
  refine J_S3s 14 (am_d11 rfl) rfl rfl (sp14) ?_
  refine J_if_ne 50 (am_d11 rfl) rfl (fun h44 => (by exfalso; simp [am_bi0, am_bi1, am_mom, Int32.lt_iff_toInt_lt, Int32.le_iff_toInt_le] at * <;> omega)) (fun h44 => ?_)
  refine J_b 1 am_d11 rfl ?_
  exact J_iret (am_d11 rfl) rfl rfl ⟨rfl, rfl, rfl⟩
theorem sp138b_2 {X : am_X} {M : am_M} {N : am_N} {a b y : Nat} {v : Int32} (hb : b < 10) (hy : y < 6) (hab : a ≤ b) (h2 : ¬ (0 ≤ v.toInt ∧ v.toInt ≤ 16)) : am_J X (am_eq (some (.int (-2))) (M) N) 138 0 (am_en 138 [.ref 120, .int (nI a), .int (nI b), .int (nI y), .int (2 : Int32), .int v]) [] M N := by
  have ia := nI_i (n := a) (by omega)
  have ib := nI_i (n := b) (by omega)
  have iy := nI_i (n := y) (by omega)
  refine J_en (L := [.ref 120, .int (nI a), .int (nI b), .int (nI y), .int (2 : Int32), .int v, .retAddr 0, .retAddr 0]) rfl ?_
  refine J_b 2 am_d138 rfl ?_
  refine J_S2s 139 (am_d138 rfl) rfl rfl (sp139) ?_
  refine J_if_eq 34 (am_d138 rfl) rfl (fun h5 => (by exfalso; simp [am_bi0, am_bi1, Int32.lt_iff_toInt_lt, Int32.le_iff_toInt_le, ia, ib, iy] at * <;> omega)) (fun h5 => ?_)
  refine J_b 2 am_d138 rfl ?_
  refine J_S2s 139 (am_d138 rfl) rfl rfl (sp139) ?_
  refine J_if_eq 34 (am_d138 rfl) rfl (fun h13 => (by exfalso; simp [am_bi0, am_bi1, Int32.lt_iff_toInt_lt, Int32.le_iff_toInt_le, ia, ib, iy] at * <;> omega)) (fun h13 => ?_)
  refine J_b 2 am_d138 rfl ?_
  refine J_icmp_gt 34 (am_d138 rfl) rfl (fun h18 => (by exfalso; simp [am_bi0, am_bi1, Int32.lt_iff_toInt_lt, Int32.le_iff_toInt_le, ia, ib, iy] at * <;> omega)) (fun h18 => ?_)
  refine J_b 4 am_d138 rfl ?_
  refine J_S3s 140 (am_d138 rfl) rfl rfl (sp140) ?_
  refine J_if_ne 36 (am_d138 rfl) rfl (fun h31 => ?_) (fun h31 => (by exfalso; simp [am_bi0, am_bi1, Int32.lt_iff_toInt_lt, Int32.le_iff_toInt_le, ia, ib, iy] at * <;> omega))
  refine J_b 4 am_d138 rfl ?_
  refine J_S1s 141 (am_d138 rfl) rfl rfl (sp141) ?_
  refine J_b 1 am_d138 rfl ?_
  refine J_S3s 140 (am_d138 rfl) rfl rfl (sp140) ?_
  refine J_if_ne 55 (am_d138 rfl) rfl (fun h49 => (by exfalso; simp [am_bi0, am_bi1, am_mom, Int32.lt_iff_toInt_lt, Int32.le_iff_toInt_le] at * <;> omega)) (fun h49 => ?_)
  refine J_b 1 am_d138 rfl ?_
  exact J_iret (am_d138 rfl) rfl rfl ⟨rfl, rfl, rfl⟩
theorem sp11c_2 {X : am_X} {M : am_M} {N : am_N} {a b y : Nat} {v : Int32} (hb : b < 10) (hy : y < 6) (hab : a ≤ b) (h2 : 0 ≤ v.toInt ∧ v.toInt ≤ 16) : am_J X (am_eq (some (.int (pm (M 5) a y v (b + 1 - a)).2)) (am_up (am_upR M 5 (pm (M 5) a y v (b + 1 - a)).1) 1 11 (M 1 11 + 1)) N) 11 0 (am_en 11 [.ref 0, .int (nI a), .int (nI b), .int (nI y), .int (2 : Int32), .int v]) [] M N := by
  have ia := nI_i (n := a) (by omega)
  have ib := nI_i (n := b) (by omega)
  have iy := nI_i (n := y) (by omega)
  refine J_en (L := [.ref 0, .int (nI a), .int (nI b), .int (nI y), .int (2 : Int32), .int v]) rfl ?_
  refine J_b 2 am_d11 rfl ?_
  refine J_S2s 12 (am_d11 rfl) rfl rfl (sp12) ?_
  refine J_if_eq 30 (am_d11 rfl) rfl (fun h5 => (by exfalso; simp [am_bi0, am_bi1, Int32.lt_iff_toInt_lt, Int32.le_iff_toInt_le, ia, ib, iy] at * <;> omega)) (fun h5 => ?_)
  refine J_b 2 am_d11 rfl ?_
  refine J_S2s 12 (am_d11 rfl) rfl rfl (sp12) ?_
  refine J_if_eq 30 (am_d11 rfl) rfl (fun h13 => (by exfalso; simp [am_bi0, am_bi1, Int32.lt_iff_toInt_lt, Int32.le_iff_toInt_le, ia, ib, iy] at * <;> omega)) (fun h13 => ?_)
  refine J_b 2 am_d11 rfl ?_
  refine J_icmp_gt 30 (am_d11 rfl) rfl (fun h18 => (by exfalso; simp [am_bi0, am_bi1, Int32.lt_iff_toInt_lt, Int32.le_iff_toInt_le, ia, ib, iy] at * <;> omega)) (fun h18 => ?_)
  refine J_b 2 am_d11 rfl ?_
  refine J_S2s 13 (am_d11 rfl) rfl rfl (sp13) ?_
  refine J_if_ne 32 (am_d11 rfl) rfl (fun h27 => ?_) (fun h27 => (by exfalso; simp [am_bi0, am_bi1, Int32.lt_iff_toInt_lt, Int32.le_iff_toInt_le, ia, ib, iy] at * <;> omega))
  refine J_b 2 am_d11 rfl ?_
  refine J_gsM rfl (am_d11 rfl) ?_
  refine J_b 1 am_d11 rfl ?_
  refine J_tM (am_d11 rfl) (am_vi rfl) ?_
  refine J_S3s 14 (am_d11 rfl) rfl rfl (sp14) ?_
  refine J_if_ne 50 (am_d11 rfl) rfl (fun h44 => ?_) (fun h44 => (by exfalso; simp [am_bi0, am_bi1, am_mom, Int32.lt_iff_toInt_lt, Int32.le_iff_toInt_le] at * <;> omega))
  refine J_b 1 am_d11 rfl ?_
  refine J_if_ne 68 (am_d11 rfl) rfl (fun h52 => ?_) (fun h52 => absurd h52 (by decide))
  refine J_b 7 am_d11 rfl ?_
  refine J_V5s 15 (am_d11 rfl) rfl rfl (sp15_2 hb hy hab) ?_
  exact J_iret (am_d11 rfl) rfl rfl ⟨rfl, rfl, rfl⟩
theorem lp138_2 {X : am_X} {M : am_M} {N : am_N} {r : Nat → Int32} {a b y : Nat} {v : Int32} (hb : b < 10) (hy : y < 6) : ∀ (n i : Nat) (x o1 : Int32) (M1 : am_M), i + n = b + 1 - a → a ≤ b → x = nI (a + i) → o1 = (pm r a y v i).2 → M1 = am_upR M 123 (pm r a y v i).1 → am_J X (am_eq (some (.int (pm r a y v (b + 1 - a)).2)) (am_upR M 123 (pm r a y v (b + 1 - a)).1) N) 138 76 [.ref 120, .int (nI a), .int (nI b), .int (nI y), .int (2 : Int32), .int v, .int o1, .int x] [] M1 N := by
  intro n
  induction n with
  | zero =>
    intro i x o1 M1 hn hab ex eo em
    subst em
    have e : i = b + 1 - a := by omega
    subst e
    subst eo
    have hx : nI b < x := by rw [ex]; exact nI_lt (by omega) (by omega)
    refine J_b 2 am_d138 rfl ?_
    refine J_icmp_gt 131 (am_d138 rfl) rfl (fun h79 => ?_) (fun h79 => absurd (hx) h79)
    refine J_b 1 am_d138 rfl ?_
    exact J_iret (am_d138 rfl) rfl rfl ⟨rfl, rfl, rfl⟩
  | succ n ih =>
    intro i x o1 M1 hn hab ex eo em
    subst em
    have hp : (Int8.ofInt 6).toInt32 * x + nI y = nI (6 * (a + i) + y) := pl_nI ex
    have hlt : ¬ nI b < x := by rw [ex]; exact nI_nlt (by omega) (by omega)
    refine J_b 2 am_d138 rfl ?_
    refine J_icmp_gt 131 (am_d138 rfl) rfl (fun h79 => absurd h79 hlt) (fun h79 => ?_)
    refine J_b 7 am_d138 rfl ?_
    rw [hp]
    refine J_b 1 am_d138 rfl ?_
    refine J_V2s 142 (am_d138 rfl) rfl rfl (sp142_2 (by omega)) ?_
    refine J_b 1 am_d138 rfl ?_
    refine J_icmp_eq 106 (am_d138 rfl) rfl (fun h99 => ?_) (fun h99 => ?_)
    · refine J_b 9 am_d138 rfl ?_
      rw [hp]
      refine J_b 1 am_d138 rfl ?_
      refine J_b 1 am_d138 rfl ?_
      refine J_V3n 143 (am_d138 rfl) rfl rfl (sp143_2 (by omega)) ?_
      refine J_b 2 am_d138 rfl ?_
      refine ih (i + 1) _ _ _ (by omega) hab (by rw [ex]; exact nI_1 (a + i)) ?_ ?_
      · show o1 + 0 = (pm r a y v i).2 + (if (pm r a y v i).1 (6 * (a + i) + y) = v then 0 else 1)
        rw [if_pos (show (pm r a y v i).1 (6 * (a + i) + y) = v from h99), eo]
      · rw [upR_up]
        rfl
    · refine J_b 10 am_d138 rfl ?_
      rw [hp]
      refine J_b 1 am_d138 rfl ?_
      refine J_b 1 am_d138 rfl ?_
      refine J_V3n 143 (am_d138 rfl) rfl rfl (sp143_2 (by omega)) ?_
      refine J_b 2 am_d138 rfl ?_
      refine ih (i + 1) _ _ _ (by omega) hab (by rw [ex]; exact nI_1 (a + i)) ?_ ?_
      · show o1 + 1 = (pm r a y v i).2 + (if (pm r a y v i).1 (6 * (a + i) + y) = v then 0 else 1)
        rw [if_neg (show ¬ (pm r a y v i).1 (6 * (a + i) + y) = v from h99), eo]
      · rw [upR_up]
        rfl
theorem sp138c_2 {X : am_X} {M : am_M} {N : am_N} {a b y : Nat} {v : Int32} (hb : b < 10) (hy : y < 6) (hab : a ≤ b) (h2 : 0 ≤ v.toInt ∧ v.toInt ≤ 16) : am_J X (am_eq (some (.int (pm (M 123) a y v (b + 1 - a)).2)) (am_upR M 123 (pm (M 123) a y v (b + 1 - a)).1) N) 138 0 (am_en 138 [.ref 120, .int (nI a), .int (nI b), .int (nI y), .int (2 : Int32), .int v]) [] M N := by
  have ia := nI_i (n := a) (by omega)
  have ib := nI_i (n := b) (by omega)
  have iy := nI_i (n := y) (by omega)
  refine J_en (L := [.ref 120, .int (nI a), .int (nI b), .int (nI y), .int (2 : Int32), .int v, .retAddr 0, .retAddr 0]) rfl ?_
  refine J_b 2 am_d138 rfl ?_
  refine J_S2s 139 (am_d138 rfl) rfl rfl (sp139) ?_
  refine J_if_eq 34 (am_d138 rfl) rfl (fun h5 => (by exfalso; simp [am_bi0, am_bi1, Int32.lt_iff_toInt_lt, Int32.le_iff_toInt_le, ia, ib, iy] at * <;> omega)) (fun h5 => ?_)
  refine J_b 2 am_d138 rfl ?_
  refine J_S2s 139 (am_d138 rfl) rfl rfl (sp139) ?_
  refine J_if_eq 34 (am_d138 rfl) rfl (fun h13 => (by exfalso; simp [am_bi0, am_bi1, Int32.lt_iff_toInt_lt, Int32.le_iff_toInt_le, ia, ib, iy] at * <;> omega)) (fun h13 => ?_)
  refine J_b 2 am_d138 rfl ?_
  refine J_icmp_gt 34 (am_d138 rfl) rfl (fun h18 => (by exfalso; simp [am_bi0, am_bi1, Int32.lt_iff_toInt_lt, Int32.le_iff_toInt_le, ia, ib, iy] at * <;> omega)) (fun h18 => ?_)
  refine J_b 4 am_d138 rfl ?_
  refine J_S3s 140 (am_d138 rfl) rfl rfl (sp140) ?_
  refine J_if_ne 36 (am_d138 rfl) rfl (fun h31 => ?_) (fun h31 => (by exfalso; simp [am_bi0, am_bi1, Int32.lt_iff_toInt_lt, Int32.le_iff_toInt_le, ia, ib, iy] at * <;> omega))
  refine J_b 4 am_d138 rfl ?_
  refine J_S1s 141 (am_d138 rfl) rfl rfl (sp141) ?_
  refine J_b 1 am_d138 rfl ?_
  refine J_S3s 140 (am_d138 rfl) rfl rfl (sp140) ?_
  refine J_if_ne 55 (am_d138 rfl) rfl (fun h49 => ?_) (fun h49 => (by exfalso; simp [am_bi0, am_bi1, am_mom, Int32.lt_iff_toInt_lt, Int32.le_iff_toInt_le] at * <;> omega))
  refine J_b 1 am_d138 rfl ?_
  refine J_if_ne 70 (am_d138 rfl) rfl (fun h57 => ?_) (fun h57 => absurd h57 (by decide))
  refine J_b 4 am_d138 rfl ?_
  exact lp138_2 hb hy (b + 1 - a) 0 _ _ _ (by omega) hab rfl rfl upR_id.symm
theorem sp17c_2 {X : am_X} {M : am_M} {N : am_N} {a y : Nat} (ha : a < 10) (hy : y < 6) : am_J X (am_eq (some (.int (M 5 (6 * a + y)))) (M) N) 17 0 (am_en 17 [.ref 0, .int (nI a), .int (nI y), .int (2 : Int32)]) [] M N := by
  have ia := nI_i (n := a) (by omega)
  have iy := nI_i (n := y) (by omega)
  have hp := pl_nI (y := y) (rfl : nI a = nI a)
  have hp8 : (Int8.ofInt 6).toInt32 * nI a + nI y = nI (6 * a + y) := hp
  refine J_en (L := [.ref 0, .int (nI a), .int (nI y), .int (2 : Int32)]) rfl ?_
  refine J_b 2 am_d17 rfl ?_
  refine J_S2s 12 (am_d17 rfl) rfl rfl (sp12) ?_
  refine J_if_eq 16 (am_d17 rfl) rfl (fun h5 => (by exfalso; simp [am_bi0, am_bi1, ia, iy] at * <;> omega)) (fun h5 => ?_)
  refine J_b 2 am_d17 rfl ?_
  refine J_S2s 13 (am_d17 rfl) rfl rfl (sp13) ?_
  refine J_if_ne 18 (am_d17 rfl) rfl (fun h13 => ?_) (fun h13 => (by exfalso; simp [am_bi0, am_bi1, ia, iy] at * <;> omega))
  refine J_b 4 am_d17 rfl ?_
  refine J_aaldk 5 (am_d17 rfl) rfl (am_vi rfl) rfl ?_
  refine J_b 2 am_d17 rfl ?_
  refine J_S2s 16 (am_d17 rfl) rfl rfl (sp16) ?_
  rw [hp]
  refine J_iald (am_d17 rfl) rfl (vp_in_nI (by omega) (by decide)) ?_
  exact J_iret (am_d17 rfl) rfl rfl ⟨by rw [nI_c (by omega)], rfl, rfl⟩
theorem sp144c_2 {X : am_X} {M : am_M} {N : am_N} {a y : Nat} (ha : a < 10) (hy : y < 6) : am_J X (am_eq (some (.int (M 123 (6 * a + y)))) (M) N) 144 0 (am_en 144 [.ref 120, .int (nI a), .int (nI y), .int (2 : Int32)]) [] M N := by
  have ia := nI_i (n := a) (by omega)
  have iy := nI_i (n := y) (by omega)
  have hp := pl_nI (y := y) (rfl : nI a = nI a)
  have hp8 : (Int8.ofInt 6).toInt32 * nI a + nI y = nI (6 * a + y) := hp
  refine J_en (L := [.ref 120, .int (nI a), .int (nI y), .int (2 : Int32)]) rfl ?_
  refine J_b 2 am_d144 rfl ?_
  refine J_S2s 139 (am_d144 rfl) rfl rfl (sp139) ?_
  refine J_if_eq 34 (am_d144 rfl) rfl (fun h5 => (by exfalso; simp [am_bi0, am_bi1, ia, iy] at * <;> omega)) (fun h5 => ?_)
  refine J_b 4 am_d144 rfl ?_
  refine J_S3s 140 (am_d144 rfl) rfl rfl (sp140) ?_
  refine J_if_eq 34 (am_d144 rfl) rfl (fun h17 => (by exfalso; simp [am_bi0, am_bi1, ia, iy] at * <;> omega)) (fun h17 => ?_)
  refine J_b 6 am_d144 rfl ?_
  rw [hp8]
  refine J_b 1 am_d144 rfl ?_
  refine J_V2s 142 (am_d144 rfl) rfl rfl (sp142_2 (by omega)) ?_
  refine J_b 1 am_d144 rfl ?_
  exact J_iret (am_d144 rfl) rfl rfl ⟨rfl, rfl, rfl⟩
theorem sp11b_3 {X : am_X} {M : am_M} {N : am_N} {a b y : Nat} {v : Int32} (hb : b < 10) (hy : y < 6) (hab : a ≤ b) (h2 : ¬ (0 ≤ v.toInt ∧ v.toInt ≤ 16)) : am_J X (am_eq (some (.int (-2))) (M) N) 11 0 (am_en 11 [.ref 0, .int (nI a), .int (nI b), .int (nI y), .int (3 : Int32), .int v]) [] M N := by
  have ia := nI_i (n := a) (by omega)
  have ib := nI_i (n := b) (by omega)
  have iy := nI_i (n := y) (by omega)
  refine J_en (L := [.ref 0, .int (nI a), .int (nI b), .int (nI y), .int (3 : Int32), .int v]) rfl ?_
  refine J_b 2 am_d11 rfl ?_
  refine J_S2s 12 (am_d11 rfl) rfl rfl (sp12) ?_
  refine J_if_eq 30 (am_d11 rfl) rfl (fun h5 => (by exfalso; simp [am_bi0, am_bi1, Int32.lt_iff_toInt_lt, Int32.le_iff_toInt_le, ia, ib, iy] at * <;> omega)) (fun h5 => ?_)
  refine J_b 2 am_d11 rfl ?_
  refine J_S2s 12 (am_d11 rfl) rfl rfl (sp12) ?_
  refine J_if_eq 30 (am_d11 rfl) rfl (fun h13 => (by exfalso; simp [am_bi0, am_bi1, Int32.lt_iff_toInt_lt, Int32.le_iff_toInt_le, ia, ib, iy] at * <;> omega)) (fun h13 => ?_)
  refine J_b 2 am_d11 rfl ?_
  refine J_icmp_gt 30 (am_d11 rfl) rfl (fun h18 => (by exfalso; simp [am_bi0, am_bi1, Int32.lt_iff_toInt_lt, Int32.le_iff_toInt_le, ia, ib, iy] at * <;> omega)) (fun h18 => ?_)
  refine J_b 2 am_d11 rfl ?_
  refine J_S2s 13 (am_d11 rfl) rfl rfl (sp13) ?_
  refine J_if_ne 32 (am_d11 rfl) rfl (fun h27 => ?_) (fun h27 => (by exfalso; simp [am_bi0, am_bi1, Int32.lt_iff_toInt_lt, Int32.le_iff_toInt_le, ia, ib, iy] at * <;> omega))
  refine J_b 2 am_d11 rfl ?_
  refine J_gsM rfl (am_d11 rfl) ?_
  refine J_b 1 am_d11 rfl ?_
  refine J_tM (am_d11 rfl) (am_vi rfl) ?_
  refine J_S3s 14 (am_d11 rfl) rfl rfl (sp14) ?_
  refine J_if_ne 50 (am_d11 rfl) rfl (fun h44 => (by exfalso; simp [am_bi0, am_bi1, am_mom, Int32.lt_iff_toInt_lt, Int32.le_iff_toInt_le] at * <;> omega)) (fun h44 => ?_)
  refine J_b 1 am_d11 rfl ?_
  exact J_iret (am_d11 rfl) rfl rfl ⟨rfl, rfl, rfl⟩
theorem sp138b_3 {X : am_X} {M : am_M} {N : am_N} {a b y : Nat} {v : Int32} (hb : b < 10) (hy : y < 6) (hab : a ≤ b) (h2 : ¬ (0 ≤ v.toInt ∧ v.toInt ≤ 16)) : am_J X (am_eq (some (.int (-2))) (M) N) 138 0 (am_en 138 [.ref 120, .int (nI a), .int (nI b), .int (nI y), .int (3 : Int32), .int v]) [] M N := by
  have ia := nI_i (n := a) (by omega)
  have ib := nI_i (n := b) (by omega)
  have iy := nI_i (n := y) (by omega)
  refine J_en (L := [.ref 120, .int (nI a), .int (nI b), .int (nI y), .int (3 : Int32), .int v, .retAddr 0, .retAddr 0]) rfl ?_
  refine J_b 2 am_d138 rfl ?_
  refine J_S2s 139 (am_d138 rfl) rfl rfl (sp139) ?_
  refine J_if_eq 34 (am_d138 rfl) rfl (fun h5 => (by exfalso; simp [am_bi0, am_bi1, Int32.lt_iff_toInt_lt, Int32.le_iff_toInt_le, ia, ib, iy] at * <;> omega)) (fun h5 => ?_)
  refine J_b 2 am_d138 rfl ?_
  refine J_S2s 139 (am_d138 rfl) rfl rfl (sp139) ?_
  refine J_if_eq 34 (am_d138 rfl) rfl (fun h13 => (by exfalso; simp [am_bi0, am_bi1, Int32.lt_iff_toInt_lt, Int32.le_iff_toInt_le, ia, ib, iy] at * <;> omega)) (fun h13 => ?_)
  refine J_b 2 am_d138 rfl ?_
  refine J_icmp_gt 34 (am_d138 rfl) rfl (fun h18 => (by exfalso; simp [am_bi0, am_bi1, Int32.lt_iff_toInt_lt, Int32.le_iff_toInt_le, ia, ib, iy] at * <;> omega)) (fun h18 => ?_)
  refine J_b 4 am_d138 rfl ?_
  refine J_S3s 140 (am_d138 rfl) rfl rfl (sp140) ?_
  refine J_if_ne 36 (am_d138 rfl) rfl (fun h31 => ?_) (fun h31 => (by exfalso; simp [am_bi0, am_bi1, Int32.lt_iff_toInt_lt, Int32.le_iff_toInt_le, ia, ib, iy] at * <;> omega))
  refine J_b 4 am_d138 rfl ?_
  refine J_S1s 141 (am_d138 rfl) rfl rfl (sp141) ?_
  refine J_b 1 am_d138 rfl ?_
  refine J_S3s 140 (am_d138 rfl) rfl rfl (sp140) ?_
  refine J_if_ne 55 (am_d138 rfl) rfl (fun h49 => (by exfalso; simp [am_bi0, am_bi1, am_mom, Int32.lt_iff_toInt_lt, Int32.le_iff_toInt_le] at * <;> omega)) (fun h49 => ?_)
  refine J_b 1 am_d138 rfl ?_
  exact J_iret (am_d138 rfl) rfl rfl ⟨rfl, rfl, rfl⟩
theorem sp11c_3 {X : am_X} {M : am_M} {N : am_N} {a b y : Nat} {v : Int32} (hb : b < 10) (hy : y < 6) (hab : a ≤ b) (h2 : 0 ≤ v.toInt ∧ v.toInt ≤ 16) : am_J X (am_eq (some (.int (pm (M 6) a y v (b + 1 - a)).2)) (am_up (am_upR M 6 (pm (M 6) a y v (b + 1 - a)).1) 1 11 (M 1 11 + 1)) N) 11 0 (am_en 11 [.ref 0, .int (nI a), .int (nI b), .int (nI y), .int (3 : Int32), .int v]) [] M N := by
  have ia := nI_i (n := a) (by omega)
  have ib := nI_i (n := b) (by omega)
  have iy := nI_i (n := y) (by omega)
  refine J_en (L := [.ref 0, .int (nI a), .int (nI b), .int (nI y), .int (3 : Int32), .int v]) rfl ?_
  refine J_b 2 am_d11 rfl ?_
  refine J_S2s 12 (am_d11 rfl) rfl rfl (sp12) ?_
  refine J_if_eq 30 (am_d11 rfl) rfl (fun h5 => (by exfalso; simp [am_bi0, am_bi1, Int32.lt_iff_toInt_lt, Int32.le_iff_toInt_le, ia, ib, iy] at * <;> omega)) (fun h5 => ?_)
  refine J_b 2 am_d11 rfl ?_
  refine J_S2s 12 (am_d11 rfl) rfl rfl (sp12) ?_
  refine J_if_eq 30 (am_d11 rfl) rfl (fun h13 => (by exfalso; simp [am_bi0, am_bi1, Int32.lt_iff_toInt_lt, Int32.le_iff_toInt_le, ia, ib, iy] at * <;> omega)) (fun h13 => ?_)
  refine J_b 2 am_d11 rfl ?_
  refine J_icmp_gt 30 (am_d11 rfl) rfl (fun h18 => (by exfalso; simp [am_bi0, am_bi1, Int32.lt_iff_toInt_lt, Int32.le_iff_toInt_le, ia, ib, iy] at * <;> omega)) (fun h18 => ?_)
  refine J_b 2 am_d11 rfl ?_
  refine J_S2s 13 (am_d11 rfl) rfl rfl (sp13) ?_
  refine J_if_ne 32 (am_d11 rfl) rfl (fun h27 => ?_) (fun h27 => (by exfalso; simp [am_bi0, am_bi1, Int32.lt_iff_toInt_lt, Int32.le_iff_toInt_le, ia, ib, iy] at * <;> omega))
  refine J_b 2 am_d11 rfl ?_
  refine J_gsM rfl (am_d11 rfl) ?_
  refine J_b 1 am_d11 rfl ?_
  refine J_tM (am_d11 rfl) (am_vi rfl) ?_
  refine J_S3s 14 (am_d11 rfl) rfl rfl (sp14) ?_
  refine J_if_ne 50 (am_d11 rfl) rfl (fun h44 => ?_) (fun h44 => (by exfalso; simp [am_bi0, am_bi1, am_mom, Int32.lt_iff_toInt_lt, Int32.le_iff_toInt_le] at * <;> omega))
  refine J_b 1 am_d11 rfl ?_
  refine J_if_ne 68 (am_d11 rfl) rfl (fun h52 => ?_) (fun h52 => absurd h52 (by decide))
  refine J_b 7 am_d11 rfl ?_
  refine J_V5s 15 (am_d11 rfl) rfl rfl (sp15_3 hb hy hab) ?_
  exact J_iret (am_d11 rfl) rfl rfl ⟨rfl, rfl, rfl⟩
theorem lp138_3 {X : am_X} {M : am_M} {N : am_N} {r : Nat → Int32} {a b y : Nat} {v : Int32} (hb : b < 10) (hy : y < 6) : ∀ (n i : Nat) (x o1 : Int32) (M1 : am_M), i + n = b + 1 - a → a ≤ b → x = nI (a + i) → o1 = (pm r a y v i).2 → M1 = am_upR M 124 (pm r a y v i).1 → am_J X (am_eq (some (.int (pm r a y v (b + 1 - a)).2)) (am_upR M 124 (pm r a y v (b + 1 - a)).1) N) 138 76 [.ref 120, .int (nI a), .int (nI b), .int (nI y), .int (3 : Int32), .int v, .int o1, .int x] [] M1 N := by
  intro n
  induction n with
  | zero =>
    intro i x o1 M1 hn hab ex eo em
    subst em
    have e : i = b + 1 - a := by omega
    subst e
    subst eo
    have hx : nI b < x := by rw [ex]; exact nI_lt (by omega) (by omega)
    refine J_b 2 am_d138 rfl ?_
    refine J_icmp_gt 131 (am_d138 rfl) rfl (fun h79 => ?_) (fun h79 => absurd (hx) h79)
    refine J_b 1 am_d138 rfl ?_
    exact J_iret (am_d138 rfl) rfl rfl ⟨rfl, rfl, rfl⟩
  | succ n ih =>
    intro i x o1 M1 hn hab ex eo em
    subst em
    have hp : (Int8.ofInt 6).toInt32 * x + nI y = nI (6 * (a + i) + y) := pl_nI ex
    have hlt : ¬ nI b < x := by rw [ex]; exact nI_nlt (by omega) (by omega)
    refine J_b 2 am_d138 rfl ?_
    refine J_icmp_gt 131 (am_d138 rfl) rfl (fun h79 => absurd h79 hlt) (fun h79 => ?_)
    refine J_b 7 am_d138 rfl ?_
    rw [hp]
    refine J_b 1 am_d138 rfl ?_
    refine J_V2s 142 (am_d138 rfl) rfl rfl (sp142_3 (by omega)) ?_
    refine J_b 1 am_d138 rfl ?_
    refine J_icmp_eq 106 (am_d138 rfl) rfl (fun h99 => ?_) (fun h99 => ?_)
    · refine J_b 9 am_d138 rfl ?_
      rw [hp]
      refine J_b 1 am_d138 rfl ?_
      refine J_b 1 am_d138 rfl ?_
      refine J_V3n 143 (am_d138 rfl) rfl rfl (sp143_3 (by omega)) ?_
      refine J_b 2 am_d138 rfl ?_
      refine ih (i + 1) _ _ _ (by omega) hab (by rw [ex]; exact nI_1 (a + i)) ?_ ?_
      · show o1 + 0 = (pm r a y v i).2 + (if (pm r a y v i).1 (6 * (a + i) + y) = v then 0 else 1)
        rw [if_pos (show (pm r a y v i).1 (6 * (a + i) + y) = v from h99), eo]
      · rw [upR_up]
        rfl
    · refine J_b 10 am_d138 rfl ?_
      rw [hp]
      refine J_b 1 am_d138 rfl ?_
      refine J_b 1 am_d138 rfl ?_
      refine J_V3n 143 (am_d138 rfl) rfl rfl (sp143_3 (by omega)) ?_
      refine J_b 2 am_d138 rfl ?_
      refine ih (i + 1) _ _ _ (by omega) hab (by rw [ex]; exact nI_1 (a + i)) ?_ ?_
      · show o1 + 1 = (pm r a y v i).2 + (if (pm r a y v i).1 (6 * (a + i) + y) = v then 0 else 1)
        rw [if_neg (show ¬ (pm r a y v i).1 (6 * (a + i) + y) = v from h99), eo]
      · rw [upR_up]
        rfl
theorem sp138c_3 {X : am_X} {M : am_M} {N : am_N} {a b y : Nat} {v : Int32} (hb : b < 10) (hy : y < 6) (hab : a ≤ b) (h2 : 0 ≤ v.toInt ∧ v.toInt ≤ 16) : am_J X (am_eq (some (.int (pm (M 124) a y v (b + 1 - a)).2)) (am_upR M 124 (pm (M 124) a y v (b + 1 - a)).1) N) 138 0 (am_en 138 [.ref 120, .int (nI a), .int (nI b), .int (nI y), .int (3 : Int32), .int v]) [] M N := by
  have ia := nI_i (n := a) (by omega)
  have ib := nI_i (n := b) (by omega)
  have iy := nI_i (n := y) (by omega)
  refine J_en (L := [.ref 120, .int (nI a), .int (nI b), .int (nI y), .int (3 : Int32), .int v, .retAddr 0, .retAddr 0]) rfl ?_
  refine J_b 2 am_d138 rfl ?_
  refine J_S2s 139 (am_d138 rfl) rfl rfl (sp139) ?_
  refine J_if_eq 34 (am_d138 rfl) rfl (fun h5 => (by exfalso; simp [am_bi0, am_bi1, Int32.lt_iff_toInt_lt, Int32.le_iff_toInt_le, ia, ib, iy] at * <;> omega)) (fun h5 => ?_)
  refine J_b 2 am_d138 rfl ?_
  refine J_S2s 139 (am_d138 rfl) rfl rfl (sp139) ?_
  refine J_if_eq 34 (am_d138 rfl) rfl (fun h13 => (by exfalso; simp [am_bi0, am_bi1, Int32.lt_iff_toInt_lt, Int32.le_iff_toInt_le, ia, ib, iy] at * <;> omega)) (fun h13 => ?_)
  refine J_b 2 am_d138 rfl ?_
  refine J_icmp_gt 34 (am_d138 rfl) rfl (fun h18 => (by exfalso; simp [am_bi0, am_bi1, Int32.lt_iff_toInt_lt, Int32.le_iff_toInt_le, ia, ib, iy] at * <;> omega)) (fun h18 => ?_)
  refine J_b 4 am_d138 rfl ?_
  refine J_S3s 140 (am_d138 rfl) rfl rfl (sp140) ?_
  refine J_if_ne 36 (am_d138 rfl) rfl (fun h31 => ?_) (fun h31 => (by exfalso; simp [am_bi0, am_bi1, Int32.lt_iff_toInt_lt, Int32.le_iff_toInt_le, ia, ib, iy] at * <;> omega))
  refine J_b 4 am_d138 rfl ?_
  refine J_S1s 141 (am_d138 rfl) rfl rfl (sp141) ?_
  refine J_b 1 am_d138 rfl ?_
  refine J_S3s 140 (am_d138 rfl) rfl rfl (sp140) ?_
  refine J_if_ne 55 (am_d138 rfl) rfl (fun h49 => ?_) (fun h49 => (by exfalso; simp [am_bi0, am_bi1, am_mom, Int32.lt_iff_toInt_lt, Int32.le_iff_toInt_le] at * <;> omega))
  refine J_b 1 am_d138 rfl ?_
  refine J_if_ne 70 (am_d138 rfl) rfl (fun h57 => ?_) (fun h57 => absurd h57 (by decide))
  refine J_b 4 am_d138 rfl ?_
  exact lp138_3 hb hy (b + 1 - a) 0 _ _ _ (by omega) hab rfl rfl upR_id.symm
theorem sp17c_3 {X : am_X} {M : am_M} {N : am_N} {a y : Nat} (ha : a < 10) (hy : y < 6) : am_J X (am_eq (some (.int (M 6 (6 * a + y)))) (M) N) 17 0 (am_en 17 [.ref 0, .int (nI a), .int (nI y), .int (3 : Int32)]) [] M N := by
  have ia := nI_i (n := a) (by omega)
  have iy := nI_i (n := y) (by omega)
  have hp := pl_nI (y := y) (rfl : nI a = nI a)
  have hp8 : (Int8.ofInt 6).toInt32 * nI a + nI y = nI (6 * a + y) := hp
  refine J_en (L := [.ref 0, .int (nI a), .int (nI y), .int (3 : Int32)]) rfl ?_
  refine J_b 2 am_d17 rfl ?_
  refine J_S2s 12 (am_d17 rfl) rfl rfl (sp12) ?_
  refine J_if_eq 16 (am_d17 rfl) rfl (fun h5 => (by exfalso; simp [am_bi0, am_bi1, ia, iy] at * <;> omega)) (fun h5 => ?_)
  refine J_b 2 am_d17 rfl ?_
  refine J_S2s 13 (am_d17 rfl) rfl rfl (sp13) ?_
  refine J_if_ne 18 (am_d17 rfl) rfl (fun h13 => ?_) (fun h13 => (by exfalso; simp [am_bi0, am_bi1, ia, iy] at * <;> omega))
  refine J_b 4 am_d17 rfl ?_
  refine J_aaldk 6 (am_d17 rfl) rfl (am_vi rfl) rfl ?_
  refine J_b 2 am_d17 rfl ?_
  refine J_S2s 16 (am_d17 rfl) rfl rfl (sp16) ?_
  rw [hp]
  refine J_iald (am_d17 rfl) rfl (vp_in_nI (by omega) (by decide)) ?_
  exact J_iret (am_d17 rfl) rfl rfl ⟨by rw [nI_c (by omega)], rfl, rfl⟩
theorem sp144c_3 {X : am_X} {M : am_M} {N : am_N} {a y : Nat} (ha : a < 10) (hy : y < 6) : am_J X (am_eq (some (.int (M 124 (6 * a + y)))) (M) N) 144 0 (am_en 144 [.ref 120, .int (nI a), .int (nI y), .int (3 : Int32)]) [] M N := by
  have ia := nI_i (n := a) (by omega)
  have iy := nI_i (n := y) (by omega)
  have hp := pl_nI (y := y) (rfl : nI a = nI a)
  have hp8 : (Int8.ofInt 6).toInt32 * nI a + nI y = nI (6 * a + y) := hp
  refine J_en (L := [.ref 120, .int (nI a), .int (nI y), .int (3 : Int32)]) rfl ?_
  refine J_b 2 am_d144 rfl ?_
  refine J_S2s 139 (am_d144 rfl) rfl rfl (sp139) ?_
  refine J_if_eq 34 (am_d144 rfl) rfl (fun h5 => (by exfalso; simp [am_bi0, am_bi1, ia, iy] at * <;> omega)) (fun h5 => ?_)
  refine J_b 4 am_d144 rfl ?_
  refine J_S3s 140 (am_d144 rfl) rfl rfl (sp140) ?_
  refine J_if_eq 34 (am_d144 rfl) rfl (fun h17 => (by exfalso; simp [am_bi0, am_bi1, ia, iy] at * <;> omega)) (fun h17 => ?_)
  refine J_b 6 am_d144 rfl ?_
  rw [hp8]
  refine J_b 1 am_d144 rfl ?_
  refine J_V2s 142 (am_d144 rfl) rfl rfl (sp142_3 (by omega)) ?_
  refine J_b 1 am_d144 rfl ?_
  exact J_iret (am_d144 rfl) rfl rfl ⟨rfl, rfl, rfl⟩
theorem sp11b_4 {X : am_X} {M : am_M} {N : am_N} {a b y : Nat} {v : Int32} (hb : b < 10) (hy : y < 6) (hab : a ≤ b) (h2 : ¬ (0 ≤ v.toInt ∧ v.toInt ≤ 4095)) : am_J X (am_eq (some (.int (-2))) (M) N) 11 0 (am_en 11 [.ref 0, .int (nI a), .int (nI b), .int (nI y), .int (4 : Int32), .int v]) [] M N := by
  have ia := nI_i (n := a) (by omega)
  have ib := nI_i (n := b) (by omega)
  have iy := nI_i (n := y) (by omega)
  refine J_en (L := [.ref 0, .int (nI a), .int (nI b), .int (nI y), .int (4 : Int32), .int v]) rfl ?_
  refine J_b 2 am_d11 rfl ?_
  refine J_S2s 12 (am_d11 rfl) rfl rfl (sp12) ?_
  refine J_if_eq 30 (am_d11 rfl) rfl (fun h5 => (by exfalso; simp [am_bi0, am_bi1, Int32.lt_iff_toInt_lt, Int32.le_iff_toInt_le, ia, ib, iy] at * <;> omega)) (fun h5 => ?_)
  refine J_b 2 am_d11 rfl ?_
  refine J_S2s 12 (am_d11 rfl) rfl rfl (sp12) ?_
  refine J_if_eq 30 (am_d11 rfl) rfl (fun h13 => (by exfalso; simp [am_bi0, am_bi1, Int32.lt_iff_toInt_lt, Int32.le_iff_toInt_le, ia, ib, iy] at * <;> omega)) (fun h13 => ?_)
  refine J_b 2 am_d11 rfl ?_
  refine J_icmp_gt 30 (am_d11 rfl) rfl (fun h18 => (by exfalso; simp [am_bi0, am_bi1, Int32.lt_iff_toInt_lt, Int32.le_iff_toInt_le, ia, ib, iy] at * <;> omega)) (fun h18 => ?_)
  refine J_b 2 am_d11 rfl ?_
  refine J_S2s 13 (am_d11 rfl) rfl rfl (sp13) ?_
  refine J_if_ne 32 (am_d11 rfl) rfl (fun h27 => ?_) (fun h27 => (by exfalso; simp [am_bi0, am_bi1, Int32.lt_iff_toInt_lt, Int32.le_iff_toInt_le, ia, ib, iy] at * <;> omega))
  refine J_b 2 am_d11 rfl ?_
  refine J_gsM rfl (am_d11 rfl) ?_
  refine J_b 1 am_d11 rfl ?_
  refine J_tM (am_d11 rfl) (am_vi rfl) ?_
  refine J_S3s 14 (am_d11 rfl) rfl rfl (sp14) ?_
  refine J_if_ne 50 (am_d11 rfl) rfl (fun h44 => (by exfalso; simp [am_bi0, am_bi1, am_mom, Int32.lt_iff_toInt_lt, Int32.le_iff_toInt_le] at * <;> omega)) (fun h44 => ?_)
  refine J_b 1 am_d11 rfl ?_
  exact J_iret (am_d11 rfl) rfl rfl ⟨rfl, rfl, rfl⟩
theorem sp138b_4 {X : am_X} {M : am_M} {N : am_N} {a b y : Nat} {v : Int32} (hb : b < 10) (hy : y < 6) (hab : a ≤ b) (h2 : ¬ (0 ≤ v.toInt ∧ v.toInt ≤ 4095)) : am_J X (am_eq (some (.int (-2))) (M) N) 138 0 (am_en 138 [.ref 120, .int (nI a), .int (nI b), .int (nI y), .int (4 : Int32), .int v]) [] M N := by
  have ia := nI_i (n := a) (by omega)
  have ib := nI_i (n := b) (by omega)
  have iy := nI_i (n := y) (by omega)
  refine J_en (L := [.ref 120, .int (nI a), .int (nI b), .int (nI y), .int (4 : Int32), .int v, .retAddr 0, .retAddr 0]) rfl ?_
  refine J_b 2 am_d138 rfl ?_
  refine J_S2s 139 (am_d138 rfl) rfl rfl (sp139) ?_
  refine J_if_eq 34 (am_d138 rfl) rfl (fun h5 => (by exfalso; simp [am_bi0, am_bi1, Int32.lt_iff_toInt_lt, Int32.le_iff_toInt_le, ia, ib, iy] at * <;> omega)) (fun h5 => ?_)
  refine J_b 2 am_d138 rfl ?_
  refine J_S2s 139 (am_d138 rfl) rfl rfl (sp139) ?_
  refine J_if_eq 34 (am_d138 rfl) rfl (fun h13 => (by exfalso; simp [am_bi0, am_bi1, Int32.lt_iff_toInt_lt, Int32.le_iff_toInt_le, ia, ib, iy] at * <;> omega)) (fun h13 => ?_)
  refine J_b 2 am_d138 rfl ?_
  refine J_icmp_gt 34 (am_d138 rfl) rfl (fun h18 => (by exfalso; simp [am_bi0, am_bi1, Int32.lt_iff_toInt_lt, Int32.le_iff_toInt_le, ia, ib, iy] at * <;> omega)) (fun h18 => ?_)
  refine J_b 4 am_d138 rfl ?_
  refine J_S3s 140 (am_d138 rfl) rfl rfl (sp140) ?_
  refine J_if_ne 36 (am_d138 rfl) rfl (fun h31 => ?_) (fun h31 => (by exfalso; simp [am_bi0, am_bi1, Int32.lt_iff_toInt_lt, Int32.le_iff_toInt_le, ia, ib, iy] at * <;> omega))
  refine J_b 4 am_d138 rfl ?_
  refine J_S1s 141 (am_d138 rfl) rfl rfl (sp141) ?_
  refine J_b 1 am_d138 rfl ?_
  refine J_S3s 140 (am_d138 rfl) rfl rfl (sp140) ?_
  refine J_if_ne 55 (am_d138 rfl) rfl (fun h49 => (by exfalso; simp [am_bi0, am_bi1, am_mom, Int32.lt_iff_toInt_lt, Int32.le_iff_toInt_le] at * <;> omega)) (fun h49 => ?_)
  refine J_b 1 am_d138 rfl ?_
  exact J_iret (am_d138 rfl) rfl rfl ⟨rfl, rfl, rfl⟩
theorem sp11c_4 {X : am_X} {M : am_M} {N : am_N} {a b y : Nat} {v : Int32} (hb : b < 10) (hy : y < 6) (hab : a ≤ b) (h2 : 0 ≤ v.toInt ∧ v.toInt ≤ 4095) : am_J X (am_eq (some (.int (pm (M 7) a y v (b + 1 - a)).2)) (am_up (am_upR M 7 (pm (M 7) a y v (b + 1 - a)).1) 1 11 (M 1 11 + 1)) N) 11 0 (am_en 11 [.ref 0, .int (nI a), .int (nI b), .int (nI y), .int (4 : Int32), .int v]) [] M N := by
  have ia := nI_i (n := a) (by omega)
  have ib := nI_i (n := b) (by omega)
  have iy := nI_i (n := y) (by omega)
  refine J_en (L := [.ref 0, .int (nI a), .int (nI b), .int (nI y), .int (4 : Int32), .int v]) rfl ?_
  refine J_b 2 am_d11 rfl ?_
  refine J_S2s 12 (am_d11 rfl) rfl rfl (sp12) ?_
  refine J_if_eq 30 (am_d11 rfl) rfl (fun h5 => (by exfalso; simp [am_bi0, am_bi1, Int32.lt_iff_toInt_lt, Int32.le_iff_toInt_le, ia, ib, iy] at * <;> omega)) (fun h5 => ?_)
  refine J_b 2 am_d11 rfl ?_
  refine J_S2s 12 (am_d11 rfl) rfl rfl (sp12) ?_
  refine J_if_eq 30 (am_d11 rfl) rfl (fun h13 => (by exfalso; simp [am_bi0, am_bi1, Int32.lt_iff_toInt_lt, Int32.le_iff_toInt_le, ia, ib, iy] at * <;> omega)) (fun h13 => ?_)
  refine J_b 2 am_d11 rfl ?_
  refine J_icmp_gt 30 (am_d11 rfl) rfl (fun h18 => (by exfalso; simp [am_bi0, am_bi1, Int32.lt_iff_toInt_lt, Int32.le_iff_toInt_le, ia, ib, iy] at * <;> omega)) (fun h18 => ?_)
  refine J_b 2 am_d11 rfl ?_
  refine J_S2s 13 (am_d11 rfl) rfl rfl (sp13) ?_
  refine J_if_ne 32 (am_d11 rfl) rfl (fun h27 => ?_) (fun h27 => (by exfalso; simp [am_bi0, am_bi1, Int32.lt_iff_toInt_lt, Int32.le_iff_toInt_le, ia, ib, iy] at * <;> omega))
  refine J_b 2 am_d11 rfl ?_
  refine J_gsM rfl (am_d11 rfl) ?_
  refine J_b 1 am_d11 rfl ?_
  refine J_tM (am_d11 rfl) (am_vi rfl) ?_
  refine J_S3s 14 (am_d11 rfl) rfl rfl (sp14) ?_
  refine J_if_ne 50 (am_d11 rfl) rfl (fun h44 => ?_) (fun h44 => (by exfalso; simp [am_bi0, am_bi1, am_mom, Int32.lt_iff_toInt_lt, Int32.le_iff_toInt_le] at * <;> omega))
  refine J_b 1 am_d11 rfl ?_
  refine J_if_ne 68 (am_d11 rfl) rfl (fun h52 => ?_) (fun h52 => absurd h52 (by decide))
  refine J_b 7 am_d11 rfl ?_
  refine J_V5s 15 (am_d11 rfl) rfl rfl (sp15_4 hb hy hab) ?_
  exact J_iret (am_d11 rfl) rfl rfl ⟨rfl, rfl, rfl⟩
theorem lp138_4 {X : am_X} {M : am_M} {N : am_N} {r : Nat → Int32} {a b y : Nat} {v : Int32} (hb : b < 10) (hy : y < 6) : ∀ (n i : Nat) (x o1 : Int32) (M1 : am_M), i + n = b + 1 - a → a ≤ b → x = nI (a + i) → o1 = (pm r a y v i).2 → M1 = am_upR M 125 (pm r a y v i).1 → am_J X (am_eq (some (.int (pm r a y v (b + 1 - a)).2)) (am_upR M 125 (pm r a y v (b + 1 - a)).1) N) 138 76 [.ref 120, .int (nI a), .int (nI b), .int (nI y), .int (4 : Int32), .int v, .int o1, .int x] [] M1 N := by
  intro n
  induction n with
  | zero =>
    intro i x o1 M1 hn hab ex eo em
    subst em
    have e : i = b + 1 - a := by omega
    subst e
    subst eo
    have hx : nI b < x := by rw [ex]; exact nI_lt (by omega) (by omega)
    refine J_b 2 am_d138 rfl ?_
    refine J_icmp_gt 131 (am_d138 rfl) rfl (fun h79 => ?_) (fun h79 => absurd (hx) h79)
    refine J_b 1 am_d138 rfl ?_
    exact J_iret (am_d138 rfl) rfl rfl ⟨rfl, rfl, rfl⟩
  | succ n ih =>
    intro i x o1 M1 hn hab ex eo em
    subst em
    have hp : (Int8.ofInt 6).toInt32 * x + nI y = nI (6 * (a + i) + y) := pl_nI ex
    have hlt : ¬ nI b < x := by rw [ex]; exact nI_nlt (by omega) (by omega)
    refine J_b 2 am_d138 rfl ?_
    refine J_icmp_gt 131 (am_d138 rfl) rfl (fun h79 => absurd h79 hlt) (fun h79 => ?_)
    refine J_b 7 am_d138 rfl ?_
    rw [hp]
    refine J_b 1 am_d138 rfl ?_
    refine J_V2s 142 (am_d138 rfl) rfl rfl (sp142_4 (by omega)) ?_
    refine J_b 1 am_d138 rfl ?_
    refine J_icmp_eq 106 (am_d138 rfl) rfl (fun h99 => ?_) (fun h99 => ?_)
    · refine J_b 9 am_d138 rfl ?_
      rw [hp]
      refine J_b 1 am_d138 rfl ?_
      refine J_b 1 am_d138 rfl ?_
      refine J_V3n 143 (am_d138 rfl) rfl rfl (sp143_4 (by omega)) ?_
      refine J_b 2 am_d138 rfl ?_
      refine ih (i + 1) _ _ _ (by omega) hab (by rw [ex]; exact nI_1 (a + i)) ?_ ?_
      · show o1 + 0 = (pm r a y v i).2 + (if (pm r a y v i).1 (6 * (a + i) + y) = v then 0 else 1)
        rw [if_pos (show (pm r a y v i).1 (6 * (a + i) + y) = v from h99), eo]
      · rw [upR_up]
        rfl
    · refine J_b 10 am_d138 rfl ?_
      rw [hp]
      refine J_b 1 am_d138 rfl ?_
      refine J_b 1 am_d138 rfl ?_
      refine J_V3n 143 (am_d138 rfl) rfl rfl (sp143_4 (by omega)) ?_
      refine J_b 2 am_d138 rfl ?_
      refine ih (i + 1) _ _ _ (by omega) hab (by rw [ex]; exact nI_1 (a + i)) ?_ ?_
      · show o1 + 1 = (pm r a y v i).2 + (if (pm r a y v i).1 (6 * (a + i) + y) = v then 0 else 1)
        rw [if_neg (show ¬ (pm r a y v i).1 (6 * (a + i) + y) = v from h99), eo]
      · rw [upR_up]
        rfl
theorem sp138c_4 {X : am_X} {M : am_M} {N : am_N} {a b y : Nat} {v : Int32} (hb : b < 10) (hy : y < 6) (hab : a ≤ b) (h2 : 0 ≤ v.toInt ∧ v.toInt ≤ 4095) : am_J X (am_eq (some (.int (pm (M 125) a y v (b + 1 - a)).2)) (am_upR M 125 (pm (M 125) a y v (b + 1 - a)).1) N) 138 0 (am_en 138 [.ref 120, .int (nI a), .int (nI b), .int (nI y), .int (4 : Int32), .int v]) [] M N := by
  have ia := nI_i (n := a) (by omega)
  have ib := nI_i (n := b) (by omega)
  have iy := nI_i (n := y) (by omega)
  refine J_en (L := [.ref 120, .int (nI a), .int (nI b), .int (nI y), .int (4 : Int32), .int v, .retAddr 0, .retAddr 0]) rfl ?_
  refine J_b 2 am_d138 rfl ?_
  refine J_S2s 139 (am_d138 rfl) rfl rfl (sp139) ?_
  refine J_if_eq 34 (am_d138 rfl) rfl (fun h5 => (by exfalso; simp [am_bi0, am_bi1, Int32.lt_iff_toInt_lt, Int32.le_iff_toInt_le, ia, ib, iy] at * <;> omega)) (fun h5 => ?_)
  refine J_b 2 am_d138 rfl ?_
  refine J_S2s 139 (am_d138 rfl) rfl rfl (sp139) ?_
  refine J_if_eq 34 (am_d138 rfl) rfl (fun h13 => (by exfalso; simp [am_bi0, am_bi1, Int32.lt_iff_toInt_lt, Int32.le_iff_toInt_le, ia, ib, iy] at * <;> omega)) (fun h13 => ?_)
  refine J_b 2 am_d138 rfl ?_
  refine J_icmp_gt 34 (am_d138 rfl) rfl (fun h18 => (by exfalso; simp [am_bi0, am_bi1, Int32.lt_iff_toInt_lt, Int32.le_iff_toInt_le, ia, ib, iy] at * <;> omega)) (fun h18 => ?_)
  refine J_b 4 am_d138 rfl ?_
  refine J_S3s 140 (am_d138 rfl) rfl rfl (sp140) ?_
  refine J_if_ne 36 (am_d138 rfl) rfl (fun h31 => ?_) (fun h31 => (by exfalso; simp [am_bi0, am_bi1, Int32.lt_iff_toInt_lt, Int32.le_iff_toInt_le, ia, ib, iy] at * <;> omega))
  refine J_b 4 am_d138 rfl ?_
  refine J_S1s 141 (am_d138 rfl) rfl rfl (sp141) ?_
  refine J_b 1 am_d138 rfl ?_
  refine J_S3s 140 (am_d138 rfl) rfl rfl (sp140) ?_
  refine J_if_ne 55 (am_d138 rfl) rfl (fun h49 => ?_) (fun h49 => (by exfalso; simp [am_bi0, am_bi1, am_mom, Int32.lt_iff_toInt_lt, Int32.le_iff_toInt_le] at * <;> omega))
  refine J_b 1 am_d138 rfl ?_
  refine J_if_ne 70 (am_d138 rfl) rfl (fun h57 => ?_) (fun h57 => absurd h57 (by decide))
  refine J_b 4 am_d138 rfl ?_
  exact lp138_4 hb hy (b + 1 - a) 0 _ _ _ (by omega) hab rfl rfl upR_id.symm
theorem sp17c_4 {X : am_X} {M : am_M} {N : am_N} {a y : Nat} (ha : a < 10) (hy : y < 6) : am_J X (am_eq (some (.int (M 7 (6 * a + y)))) (M) N) 17 0 (am_en 17 [.ref 0, .int (nI a), .int (nI y), .int (4 : Int32)]) [] M N := by
  have ia := nI_i (n := a) (by omega)
  have iy := nI_i (n := y) (by omega)
  have hp := pl_nI (y := y) (rfl : nI a = nI a)
  have hp8 : (Int8.ofInt 6).toInt32 * nI a + nI y = nI (6 * a + y) := hp
  refine J_en (L := [.ref 0, .int (nI a), .int (nI y), .int (4 : Int32)]) rfl ?_
  refine J_b 2 am_d17 rfl ?_
  refine J_S2s 12 (am_d17 rfl) rfl rfl (sp12) ?_
  refine J_if_eq 16 (am_d17 rfl) rfl (fun h5 => (by exfalso; simp [am_bi0, am_bi1, ia, iy] at * <;> omega)) (fun h5 => ?_)
  refine J_b 2 am_d17 rfl ?_
  refine J_S2s 13 (am_d17 rfl) rfl rfl (sp13) ?_
  refine J_if_ne 18 (am_d17 rfl) rfl (fun h13 => ?_) (fun h13 => (by exfalso; simp [am_bi0, am_bi1, ia, iy] at * <;> omega))
  refine J_b 4 am_d17 rfl ?_
  refine J_aaldk 7 (am_d17 rfl) rfl (am_vi rfl) rfl ?_
  refine J_b 2 am_d17 rfl ?_
  refine J_S2s 16 (am_d17 rfl) rfl rfl (sp16) ?_
  rw [hp]
  refine J_iald (am_d17 rfl) rfl (vp_in_nI (by omega) (by decide)) ?_
  exact J_iret (am_d17 rfl) rfl rfl ⟨by rw [nI_c (by omega)], rfl, rfl⟩
theorem sp144c_4 {X : am_X} {M : am_M} {N : am_N} {a y : Nat} (ha : a < 10) (hy : y < 6) : am_J X (am_eq (some (.int (M 125 (6 * a + y)))) (M) N) 144 0 (am_en 144 [.ref 120, .int (nI a), .int (nI y), .int (4 : Int32)]) [] M N := by
  have ia := nI_i (n := a) (by omega)
  have iy := nI_i (n := y) (by omega)
  have hp := pl_nI (y := y) (rfl : nI a = nI a)
  have hp8 : (Int8.ofInt 6).toInt32 * nI a + nI y = nI (6 * a + y) := hp
  refine J_en (L := [.ref 120, .int (nI a), .int (nI y), .int (4 : Int32)]) rfl ?_
  refine J_b 2 am_d144 rfl ?_
  refine J_S2s 139 (am_d144 rfl) rfl rfl (sp139) ?_
  refine J_if_eq 34 (am_d144 rfl) rfl (fun h5 => (by exfalso; simp [am_bi0, am_bi1, ia, iy] at * <;> omega)) (fun h5 => ?_)
  refine J_b 4 am_d144 rfl ?_
  refine J_S3s 140 (am_d144 rfl) rfl rfl (sp140) ?_
  refine J_if_eq 34 (am_d144 rfl) rfl (fun h17 => (by exfalso; simp [am_bi0, am_bi1, ia, iy] at * <;> omega)) (fun h17 => ?_)
  refine J_b 6 am_d144 rfl ?_
  rw [hp8]
  refine J_b 1 am_d144 rfl ?_
  refine J_V2s 142 (am_d144 rfl) rfl rfl (sp142_4 (by omega)) ?_
  refine J_b 1 am_d144 rfl ?_
  exact J_iret (am_d144 rfl) rfl rfl ⟨rfl, rfl, rfl⟩
theorem sp17a {X : am_X} {M : am_M} {N : am_N} {x y w : Int32} (h1 : ¬ (((0 ≤ x.toInt ∧ x.toInt < 10) ∧ 0 ≤ y.toInt ∧ y.toInt < 6) ∧ 0 ≤ w.toInt ∧ w.toInt < 5)) : am_J X (am_eq (some (.int (-1))) (M) N) 17 0 (am_en 17 [.ref 0, .int x, .int y, .int w]) [] M N := by
  refine J_en (L := [.ref 0, .int x, .int y, .int w]) rfl ?_
  refine J_b 2 am_d17 rfl ?_
  refine J_S2s 12 (am_d17 rfl) rfl rfl (sp12) ?_
  refine J_if_eq 16 (am_d17 rfl) rfl (fun h5 => ?_) (fun h5 => ?_)
  · refine J_b 1 am_d17 rfl ?_
    exact J_iret (am_d17 rfl) rfl rfl ⟨rfl, rfl, rfl⟩
  · refine J_b 2 am_d17 rfl ?_
    refine J_S2s 13 (am_d17 rfl) rfl rfl (sp13) ?_
    refine J_if_ne 18 (am_d17 rfl) rfl (fun h13 => ?_) (fun h13 => ?_)
    · exact absurd (show ((0 ≤ x.toInt ∧ x.toInt < 10) ∧ 0 ≤ y.toInt ∧ y.toInt < 6) ∧ 0 ≤ w.toInt ∧ w.toInt < 5 by simp [am_bi0, am_bi1] at * <;> omega) h1
    · refine J_b 1 am_d17 rfl ?_
      exact J_iret (am_d17 rfl) rfl rfl ⟨rfl, rfl, rfl⟩
theorem sp144a {X : am_X} {M : am_M} {N : am_N} {x y w : Int32} (h1 : ¬ (((0 ≤ x.toInt ∧ x.toInt < 10) ∧ 0 ≤ y.toInt ∧ y.toInt < 6) ∧ 0 ≤ w.toInt ∧ w.toInt < 5)) : am_J X (am_eq (some (.int (-1))) (M) N) 144 0 (am_en 144 [.ref 120, .int x, .int y, .int w]) [] M N := by
  refine J_en (L := [.ref 120, .int x, .int y, .int w]) rfl ?_
  refine J_b 2 am_d144 rfl ?_
  refine J_S2s 139 (am_d144 rfl) rfl rfl (sp139) ?_
  refine J_if_eq 34 (am_d144 rfl) rfl (fun h5 => ?_) (fun h5 => ?_)
  · refine J_b 1 am_d144 rfl ?_
    exact J_iret (am_d144 rfl) rfl rfl ⟨rfl, rfl, rfl⟩
  · refine J_b 4 am_d144 rfl ?_
    refine J_S3s 140 (am_d144 rfl) rfl rfl (sp140) ?_
    refine J_if_eq 34 (am_d144 rfl) rfl (fun h17 => ?_) (fun h17 => ?_)
    · refine J_b 1 am_d144 rfl ?_
      exact J_iret (am_d144 rfl) rfl rfl ⟨rfl, rfl, rfl⟩
    · exact absurd (show ((0 ≤ x.toInt ∧ x.toInt < 10) ∧ 0 ≤ y.toInt ∧ y.toInt < 6) ∧ 0 ≤ w.toInt ∧ w.toInt < 5 by simp [am_bi0, am_bi1] at * <;> omega) h1
theorem am_ix5 {w : Int32} (h : 0 ≤ w.toInt ∧ w.toInt < 5) : w = 0 ∨ w = 1 ∨ w = 2 ∨ w = 3 ∨ w = 4 := by
  have h2 : w.toInt = 0 ∨ w.toInt = 1 ∨ w.toInt = 2 ∨ w.toInt = 3 ∨ w.toInt = 4 := by omega
  rcases h2 with h2 | h2 | h2 | h2 | h2
  · exact .inl (I_eq h2)
  · exact .inr (.inl (I_eq h2))
  · exact .inr (.inr (.inl (I_eq h2)))
  · exact .inr (.inr (.inr (.inl (I_eq h2))))
  · exact .inr (.inr (.inr (.inr (I_eq h2))))
theorem am_ex {x : Int32} {n : Nat} (h : 0 ≤ x.toInt ∧ x.toInt < n) : ∃ a : Nat, a < n ∧ x = nI a := ⟨x.toNatClampNeg, by have := I_cl h.1; omega, I_nI h.1⟩
theorem pr_cell {X : am_X} (x y w : Int32) : am_pI iv X 17 144 [.int x, .int y, .int w] := by
  intro c M N hc h
  by_cases h1 : ((0 ≤ x.toInt ∧ x.toInt < 10) ∧ 0 ≤ y.toInt ∧ y.toInt < 6) ∧ 0 ≤ w.toInt ∧ w.toInt < 5
  rotate_left
  · exact pr_e (sp17a h1) (sp144a h1) (iv_up _ _ _ h)
  obtain ⟨a, ha, rfl⟩ := am_ex (n := 10) h1.1.1
  obtain ⟨b, hy, rfl⟩ := am_ex (n := 6) h1.1.2
  rcases am_ix5 h1.2 with rfl | rfl | rfl | rfl | rfl
  · have q := sp144c_0 (X := X) (M := M) (N := N) ha hy
    rw [h.1.1.1.1.1] at q
    exact pr_e (sp17c_0 ha hy) q (iv_up _ _ _ h)
  · have q := sp144c_1 (X := X) (M := M) (N := N) ha hy
    rw [h.1.1.1.1.2.1] at q
    exact pr_e (sp17c_1 ha hy) q (iv_up _ _ _ h)
  · have q := sp144c_2 (X := X) (M := M) (N := N) ha hy
    rw [h.1.1.1.1.2.2.1] at q
    exact pr_e (sp17c_2 ha hy) q (iv_up _ _ _ h)
  · have q := sp144c_3 (X := X) (M := M) (N := N) ha hy
    rw [h.1.1.1.1.2.2.2.1] at q
    exact pr_e (sp17c_3 ha hy) q (iv_up _ _ _ h)
  · have q := sp144c_4 (X := X) (M := M) (N := N) ha hy
    rw [h.1.1.1.1.2.2.2.2] at q
    exact pr_e (sp17c_4 ha hy) q (iv_up _ _ _ h)
theorem pr_paint {X : am_X} (x0 x1 y w v : Int32) : am_pI iv X 11 138 [.int x0, .int x1, .int y, .int w, .int v] := by
  intro c M N hc h
  by_cases h1 : ((0 ≤ x0.toInt ∧ x0.toInt < 10) ∧ (0 ≤ x1.toInt ∧ x1.toInt < 10) ∧ 0 ≤ y.toInt ∧ y.toInt < 6) ∧ x0.toInt ≤ x1.toInt ∧ 0 ≤ w.toInt ∧ w.toInt < 5
  rotate_left
  · exact pr_e (sp11a h1) (sp138a h1) (iv_up _ _ _ h)
  have h1b := h1.2.1
  obtain ⟨a, ha, rfl⟩ := am_ex (n := 10) h1.1.1
  obtain ⟨b, hb9, rfl⟩ := am_ex (n := 10) h1.1.2.1
  obtain ⟨yy, hy, rfl⟩ := am_ex (n := 6) h1.1.2.2
  have hab : a ≤ b := by rw [nI_i (by omega), nI_i (by omega)] at h1b; omega
  rcases am_ix5 h1.2.2 with rfl | rfl | rfl | rfl | rfl
  · by_cases h2 : 0 ≤ v.toInt ∧ v.toInt ≤ 2
    rotate_left
    · exact pr_e (sp11b_0 hb9 hy hab h2) (sp138b_0 hb9 hy hab h2) (iv_up _ _ _ h)
    have e22 := h.1.2.1.1.2
    by_cases hc0 : M 18 7 ≤ 0
    rotate_left
    · exact pr_e (sp11s_0 hb9 hy hab h2 hc0) (sp138s_0 hb9 hy hab h2 (by rw [e22]; exact hc0)) (iv_up _ _ _ h)
    obtain ⟨⟨⟨hs, hb⟩, ⟨hca, hcb⟩, ⟨hna, hnb⟩, ⟨hfi, hfb⟩⟩, ⟨hti, hta, hpr⟩, hcc, hch, hkl, hkd⟩ := h
    obtain ⟨⟨⟨s1, s2, s3, s4, s5⟩, s6, s7, s8⟩, ⟨b1, b2, b3, b4⟩⟩ := And.intro hs hb
    have q := sp138c_0 (X := X) (M := am_up (am_upR M 3 (pm (M 3) a yy v (b + 1 - a)).1) 1 11 (M 1 11 + 1)) (N := N) hb9 hy hab h2 (by show M 120 22 ≤ 0; rw [e22]; exact hc0)
    rw [show (am_up (am_upR M 3 (pm (M 3) a yy v (b + 1 - a)).1) 1 11 (M 1 11 + 1)) 121 = M 3 from s1] at q
    refine pr_e (sp11c_0 hb9 hy hab h2 hc0) q ?_
    obtain ⟨g1, g2, g3⟩ := ch_up (M' := am_upR (am_up (am_upR M 3 (pm (M 3) a yy v (b + 1 - a)).1) 1 11 (M 1 11 + 1)) 121 (pm (M 3) a yy v (b + 1 - a)).1) hc hch rfl rfl rfl
    exact ⟨⟨⟨⟨⟨rfl, s2, s3, s4, s5⟩, s6, s7, s8⟩, b1, b2, b3, b4⟩, ⟨hca, hcb⟩, ⟨hna, hnb⟩, ⟨hfi, hfb⟩⟩, ⟨hti, hta, hpr⟩, cc_of hcc hfb (fun k k1 k2 => by (repeat (first | rw [up_n] | rw [upR_n])) <;> omega) ⟨rfl, rfl, rfl, rfl, rfl, rfl, rfl⟩, g1, g2, g3⟩
  · by_cases h2 : 0 ≤ v.toInt ∧ v.toInt ≤ 2
    rotate_left
    · exact pr_e (sp11b_1 hb9 hy hab h2) (sp138b_1 hb9 hy hab h2) (iv_up _ _ _ h)
    obtain ⟨⟨⟨hs, hb⟩, ⟨hca, hcb⟩, ⟨hna, hnb⟩, ⟨hfi, hfb⟩⟩, ⟨hti, hta, hpr⟩, hcc, hch, hkl, hkd⟩ := h
    obtain ⟨⟨⟨s1, s2, s3, s4, s5⟩, s6, s7, s8⟩, ⟨b1, b2, b3, b4⟩⟩ := And.intro hs hb
    have q := sp138c_1 (X := X) (M := am_up (am_upR M 4 (pm (M 4) a yy v (b + 1 - a)).1) 1 11 (M 1 11 + 1)) (N := N) hb9 hy hab h2
    rw [show (am_up (am_upR M 4 (pm (M 4) a yy v (b + 1 - a)).1) 1 11 (M 1 11 + 1)) 122 = M 4 from s2] at q
    refine pr_e (sp11c_1 hb9 hy hab h2) q ?_
    obtain ⟨g1, g2, g3⟩ := ch_up (M' := am_upR (am_up (am_upR M 4 (pm (M 4) a yy v (b + 1 - a)).1) 1 11 (M 1 11 + 1)) 122 (pm (M 4) a yy v (b + 1 - a)).1) hc hch rfl rfl rfl
    exact ⟨⟨⟨⟨⟨s1, rfl, s3, s4, s5⟩, s6, s7, s8⟩, pm_b b1 h2 _, b2, b3, b4⟩, ⟨hca, hcb⟩, ⟨hna, hnb⟩, ⟨hfi, hfb⟩⟩, ⟨hti, hta, hpr⟩, cc_of hcc hfb (fun k k1 k2 => by (repeat (first | rw [up_n] | rw [upR_n])) <;> omega) ⟨rfl, rfl, rfl, rfl, rfl, rfl, rfl⟩, g1, g2, g3⟩
  · by_cases h2 : 0 ≤ v.toInt ∧ v.toInt ≤ 16
    rotate_left
    · exact pr_e (sp11b_2 hb9 hy hab h2) (sp138b_2 hb9 hy hab h2) (iv_up _ _ _ h)
    obtain ⟨⟨⟨hs, hb⟩, ⟨hca, hcb⟩, ⟨hna, hnb⟩, ⟨hfi, hfb⟩⟩, ⟨hti, hta, hpr⟩, hcc, hch, hkl, hkd⟩ := h
    obtain ⟨⟨⟨s1, s2, s3, s4, s5⟩, s6, s7, s8⟩, ⟨b1, b2, b3, b4⟩⟩ := And.intro hs hb
    have q := sp138c_2 (X := X) (M := am_up (am_upR M 5 (pm (M 5) a yy v (b + 1 - a)).1) 1 11 (M 1 11 + 1)) (N := N) hb9 hy hab h2
    rw [show (am_up (am_upR M 5 (pm (M 5) a yy v (b + 1 - a)).1) 1 11 (M 1 11 + 1)) 123 = M 5 from s3] at q
    refine pr_e (sp11c_2 hb9 hy hab h2) q ?_
    obtain ⟨g1, g2, g3⟩ := ch_up (M' := am_upR (am_up (am_upR M 5 (pm (M 5) a yy v (b + 1 - a)).1) 1 11 (M 1 11 + 1)) 123 (pm (M 5) a yy v (b + 1 - a)).1) hc hch rfl rfl rfl
    exact ⟨⟨⟨⟨⟨s1, s2, rfl, s4, s5⟩, s6, s7, s8⟩, b1, pm_b b2 h2 _, b3, b4⟩, ⟨hca, hcb⟩, ⟨hna, hnb⟩, ⟨hfi, hfb⟩⟩, ⟨hti, hta, hpr⟩, cc_of hcc hfb (fun k k1 k2 => by (repeat (first | rw [up_n] | rw [upR_n])) <;> omega) ⟨rfl, rfl, rfl, rfl, rfl, rfl, rfl⟩, g1, g2, g3⟩
  · by_cases h2 : 0 ≤ v.toInt ∧ v.toInt ≤ 16
    rotate_left
    · exact pr_e (sp11b_3 hb9 hy hab h2) (sp138b_3 hb9 hy hab h2) (iv_up _ _ _ h)
    obtain ⟨⟨⟨hs, hb⟩, ⟨hca, hcb⟩, ⟨hna, hnb⟩, ⟨hfi, hfb⟩⟩, ⟨hti, hta, hpr⟩, hcc, hch, hkl, hkd⟩ := h
    obtain ⟨⟨⟨s1, s2, s3, s4, s5⟩, s6, s7, s8⟩, ⟨b1, b2, b3, b4⟩⟩ := And.intro hs hb
    have q := sp138c_3 (X := X) (M := am_up (am_upR M 6 (pm (M 6) a yy v (b + 1 - a)).1) 1 11 (M 1 11 + 1)) (N := N) hb9 hy hab h2
    rw [show (am_up (am_upR M 6 (pm (M 6) a yy v (b + 1 - a)).1) 1 11 (M 1 11 + 1)) 124 = M 6 from s4] at q
    refine pr_e (sp11c_3 hb9 hy hab h2) q ?_
    obtain ⟨g1, g2, g3⟩ := ch_up (M' := am_upR (am_up (am_upR M 6 (pm (M 6) a yy v (b + 1 - a)).1) 1 11 (M 1 11 + 1)) 124 (pm (M 6) a yy v (b + 1 - a)).1) hc hch rfl rfl rfl
    exact ⟨⟨⟨⟨⟨s1, s2, s3, rfl, s5⟩, s6, s7, s8⟩, b1, b2, pm_b b3 h2 _, b4⟩, ⟨hca, hcb⟩, ⟨hna, hnb⟩, ⟨hfi, hfb⟩⟩, ⟨hti, hta, hpr⟩, cc_of hcc hfb (fun k k1 k2 => by (repeat (first | rw [up_n] | rw [upR_n])) <;> omega) ⟨rfl, rfl, rfl, rfl, rfl, rfl, rfl⟩, g1, g2, g3⟩
  · by_cases h2 : 0 ≤ v.toInt ∧ v.toInt ≤ 4095
    rotate_left
    · exact pr_e (sp11b_4 hb9 hy hab h2) (sp138b_4 hb9 hy hab h2) (iv_up _ _ _ h)
    obtain ⟨⟨⟨hs, hb⟩, ⟨hca, hcb⟩, ⟨hna, hnb⟩, ⟨hfi, hfb⟩⟩, ⟨hti, hta, hpr⟩, hcc, hch, hkl, hkd⟩ := h
    obtain ⟨⟨⟨s1, s2, s3, s4, s5⟩, s6, s7, s8⟩, ⟨b1, b2, b3, b4⟩⟩ := And.intro hs hb
    have q := sp138c_4 (X := X) (M := am_up (am_upR M 7 (pm (M 7) a yy v (b + 1 - a)).1) 1 11 (M 1 11 + 1)) (N := N) hb9 hy hab h2
    rw [show (am_up (am_upR M 7 (pm (M 7) a yy v (b + 1 - a)).1) 1 11 (M 1 11 + 1)) 125 = M 7 from s5] at q
    refine pr_e (sp11c_4 hb9 hy hab h2) q ?_
    obtain ⟨g1, g2, g3⟩ := ch_up (M' := am_upR (am_up (am_upR M 7 (pm (M 7) a yy v (b + 1 - a)).1) 1 11 (M 1 11 + 1)) 125 (pm (M 7) a yy v (b + 1 - a)).1) hc hch rfl rfl rfl
    exact ⟨⟨⟨⟨⟨s1, s2, s3, s4, rfl⟩, s6, s7, s8⟩, b1, b2, b3, b4⟩, ⟨hca, hcb⟩, ⟨hna, hnb⟩, ⟨hfi, hfb⟩⟩, ⟨hti, hta, hpr⟩, cc_of hcc hfb (fun k k1 k2 => by (repeat (first | rw [up_n] | rw [upR_n])) <;> omega) ⟨rfl, rfl, rfl, rfl, rfl, rfl, rfl⟩, g1, g2, g3⟩
