theorem nm_pos {x : Int32} (h1 : 0 ≤ (x / 100).toInt ∧ (x / 100).toInt < 10) (h2 : 0 ≤ (x - x / 100 * 100).toInt ∧ (x - x / 100 * 100).toInt < 10) : 0 ≤ x.toInt := by
  have z : (100 : Int32).toInt = 100 := rfl
  have e1 : (x / 100 * 100).toInt = (x / 100).toInt * 100 := by rw [I_mul (by rw [z]; omega), z]
  have e2 : x = (x - x / 100 * 100) + x / 100 * 100 := (Int32.sub_add_cancel _ _).symm
  have e3 : x.toInt = (x - x / 100 * 100).toInt + (x / 100 * 100).toInt := by
    rw [← I_add (by omega), ← e2]
  omega
theorem sp62 {X : am_X} {M : am_M} {N : am_N} {a b d e f : Int32} (h : 0 ≤ (M 26 5).toInt ∧ (M 26 5).toInt < 6) : am_J X (am_eq (some (.int (M 26 5))) (am_up (am_up (am_up (am_up (am_up (am_up M 27 (M 26 5).toNatClampNeg a) 28 (M 26 5).toNatClampNeg b) 29 (M 26 5).toNatClampNeg d) 30 (M 26 5).toNatClampNeg e) 31 (M 26 5).toNatClampNeg f) 26 5 (M 26 5 + 1)) N) 62 0 (am_en 62 [.ref 26, .int a, .int b, .int d, .int e, .int f]) [] M N := by
  refine J_en (L := [.ref 26, .int a, .int b, .int d, .int e, .int f]) rfl ?_
  refine J_b 5 am_d62 rfl ?_
  refine J_iast (am_d62 rfl) rfl (vp_of h) ?_
  refine J_b 5 am_d62 rfl ?_
  refine J_iast (am_d62 rfl) rfl (vp_of h) ?_
  refine J_b 5 am_d62 rfl ?_
  refine J_iast (am_d62 rfl) rfl (vp_of h) ?_
  refine J_b 5 am_d62 rfl ?_
  refine J_iast (am_d62 rfl) rfl (vp_of h) ?_
  refine J_b 5 am_d62 rfl ?_
  refine J_iast (am_d62 rfl) rfl (vp_of h) ?_
  refine J_b 6 am_d62 rfl ?_
  refine J_puti (am_d62 rfl) rfl ?_
  exact J_iret (am_d62 rfl) rfl rfl ⟨rfl, rfl, rfl⟩
theorem sp61a {X : am_X} {M : am_M} {N : am_N} {x y w : Int32} (h1 : ¬ (((0 ≤ (x / 100).toInt ∧ (x / 100).toInt < 10) ∧ 0 ≤ (y / 100).toInt ∧ (y / 100).toInt < 6) ∧ (0 ≤ (x - x / 100 * 100).toInt ∧ (x - x / 100 * 100).toInt < 10) ∧ 0 ≤ (y - y / 100 * 100).toInt ∧ (y - y / 100 * 100).toInt < 6)) : am_J X (am_eq (some (.int (-1))) (M) N) 61 0 (am_en 61 [.ref 0, .int x, .int y, .int w]) [] M N := by
  refine J_en (L := [.ref 0, .int x, .int y, .int w, .retAddr 0, .retAddr 0, .retAddr 0, .retAddr 0]) rfl ?_
  refine J_b 18 am_d61 rfl ?_
  refine J_S2s 12 (am_d61 rfl) rfl rfl (sp12) ?_
  refine J_if_eq 44 (am_d61 rfl) rfl (fun h31 => ?_) (fun h31 => ?_)
  · refine J_b 1 am_d61 rfl ?_
    exact J_iret (am_d61 rfl) rfl rfl ⟨rfl, rfl, rfl⟩
  · refine J_b 2 am_d61 rfl ?_
    refine J_S2s 12 (am_d61 rfl) rfl rfl (sp12) ?_
    refine J_if_ne 46 (am_d61 rfl) rfl (fun h41 => ?_) (fun h41 => ?_)
    · exact absurd ⟨am_bi1.mp h31, am_bi1.mp h41⟩ h1
    · refine J_b 1 am_d61 rfl ?_
      exact J_iret (am_d61 rfl) rfl rfl ⟨rfl, rfl, rfl⟩
theorem sp61b {X : am_X} {M : am_M} {N : am_N} {x y w : Int32} (h1 : ((0 ≤ (x / 100).toInt ∧ (x / 100).toInt < 10) ∧ 0 ≤ (y / 100).toInt ∧ (y / 100).toInt < 6) ∧ (0 ≤ (x - x / 100 * 100).toInt ∧ (x - x / 100 * 100).toInt < 10) ∧ 0 ≤ (y - y / 100 * 100).toInt ∧ (y - y / 100 * 100).toInt < 6) (h2 : ¬ (((x / 100).toInt ≤ (x - x / 100 * 100).toInt ∧ (y / 100).toInt ≤ (y - y / 100 * 100).toInt) ∧ 0 ≤ w.toInt ∧ w.toInt < 6)) : am_J X (am_eq (some (.int (-2))) (M) N) 61 0 (am_en 61 [.ref 0, .int x, .int y, .int w]) [] M N := by
  refine J_en (L := [.ref 0, .int x, .int y, .int w, .retAddr 0, .retAddr 0, .retAddr 0, .retAddr 0]) rfl ?_
  refine J_b 18 am_d61 rfl ?_
  refine J_S2s 12 (am_d61 rfl) rfl rfl (sp12) ?_
  refine J_if_eq 44 (am_d61 rfl) rfl (fun h31 => absurd h31 (am_bi1.mpr h1.1)) (fun h31 => ?_)
  refine J_b 2 am_d61 rfl ?_
  refine J_S2s 12 (am_d61 rfl) rfl rfl (sp12) ?_
  refine J_if_ne 46 (am_d61 rfl) rfl (fun h41 => ?_) (fun h41 => absurd h41 (am_bi1.mpr h1.2))
  refine J_b 2 am_d61 rfl ?_
  refine J_icmp_gt 69 (am_d61 rfl) rfl (fun h50 => ?_) (fun h50 => ?_)
  · refine J_b 1 am_d61 rfl ?_
    exact J_iret (am_d61 rfl) rfl rfl ⟨rfl, rfl, rfl⟩
  · refine J_b 2 am_d61 rfl ?_
    refine J_icmp_gt 69 (am_d61 rfl) rfl (fun h57 => ?_) (fun h57 => ?_)
    · refine J_b 1 am_d61 rfl ?_
      exact J_iret (am_d61 rfl) rfl rfl ⟨rfl, rfl, rfl⟩
    · refine J_b 2 am_d61 rfl ?_
      refine J_S2s 13 (am_d61 rfl) rfl rfl (sp13) ?_
      refine J_if_ne 72 (am_d61 rfl) rfl (fun h66 => ?_) (fun h66 => ?_)
      · exact absurd ⟨⟨Int.not_lt.mp (fun z => h50 (Int32.lt_iff_toInt_lt.mpr z)), Int.not_lt.mp (fun z => h57 (Int32.lt_iff_toInt_lt.mpr z))⟩, am_bi1.mp h66⟩ h2
      · refine J_b 1 am_d61 rfl ?_
        exact J_iret (am_d61 rfl) rfl rfl ⟨rfl, rfl, rfl⟩
theorem sp61d {X : am_X} {M : am_M} {N : am_N} {x y w : Int32} (h1 : ((0 ≤ (x / 100).toInt ∧ (x / 100).toInt < 10) ∧ 0 ≤ (y / 100).toInt ∧ (y / 100).toInt < 6) ∧ (0 ≤ (x - x / 100 * 100).toInt ∧ (x - x / 100 * 100).toInt < 10) ∧ 0 ≤ (y - y / 100 * 100).toInt ∧ (y - y / 100 * 100).toInt < 6) (h2 : ((x / 100).toInt ≤ (x - x / 100 * 100).toInt ∧ (y / 100).toInt ≤ (y - y / 100 * 100).toInt) ∧ 0 ≤ w.toInt ∧ w.toInt < 6) (h3 : ¬ M 26 5 < 6) : am_J X (am_eq (some (.int (-4))) (M) N) 61 0 (am_en 61 [.ref 0, .int x, .int y, .int w]) [] M N := by
  refine J_en (L := [.ref 0, .int x, .int y, .int w, .retAddr 0, .retAddr 0, .retAddr 0, .retAddr 0]) rfl ?_
  refine J_b 18 am_d61 rfl ?_
  refine J_S2s 12 (am_d61 rfl) rfl rfl (sp12) ?_
  refine J_if_eq 44 (am_d61 rfl) rfl (fun h31 => absurd h31 (am_bi1.mpr h1.1)) (fun h31 => ?_)
  refine J_b 2 am_d61 rfl ?_
  refine J_S2s 12 (am_d61 rfl) rfl rfl (sp12) ?_
  refine J_if_ne 46 (am_d61 rfl) rfl (fun h41 => ?_) (fun h41 => absurd h41 (am_bi1.mpr h1.2))
  refine J_b 2 am_d61 rfl ?_
  refine J_icmp_gt 69 (am_d61 rfl) rfl (fun h50 => absurd (Int32.lt_iff_toInt_lt.mp h50) (Int.not_lt.mpr h2.1.1)) (fun h50 => ?_)
  refine J_b 2 am_d61 rfl ?_
  refine J_icmp_gt 69 (am_d61 rfl) rfl (fun h57 => absurd (Int32.lt_iff_toInt_lt.mp h57) (Int.not_lt.mpr h2.1.2)) (fun h57 => ?_)
  refine J_b 2 am_d61 rfl ?_
  refine J_S2s 13 (am_d61 rfl) rfl rfl (sp13) ?_
  refine J_if_ne 72 (am_d61 rfl) rfl (fun h66 => ?_) (fun h66 => absurd h66 (am_bi1.mpr h2.2))
  refine J_b 4 am_d61 rfl ?_
  refine J_icmp_lt 87 (am_d61 rfl) rfl (fun h81 => absurd h81 h3) (fun h81 => ?_)
  refine J_b 1 am_d61 rfl ?_
  exact J_iret (am_d61 rfl) rfl rfl ⟨rfl, rfl, rfl⟩
theorem sp61c {X : am_X} {M : am_M} {N : am_N} {x y w : Int32} (h1 : ((0 ≤ (x / 100).toInt ∧ (x / 100).toInt < 10) ∧ 0 ≤ (y / 100).toInt ∧ (y / 100).toInt < 6) ∧ (0 ≤ (x - x / 100 * 100).toInt ∧ (x - x / 100 * 100).toInt < 10) ∧ 0 ≤ (y - y / 100 * 100).toInt ∧ (y - y / 100 * 100).toInt < 6) (h2 : ((x / 100).toInt ≤ (x - x / 100 * 100).toInt ∧ (y / 100).toInt ≤ (y - y / 100 * 100).toInt) ∧ 0 ≤ w.toInt ∧ w.toInt < 6) (h3 : M 26 5 < 6) (h4 : 0 ≤ (M 26 5).toInt ∧ (M 26 5).toInt < 6) : am_J X (am_eq (some (.int (M 26 5))) (am_up (am_up (am_up (am_up (am_up (am_up (am_up M 1 11 (M 1 11 + 1)) 27 (M 26 5).toNatClampNeg (x / 100)) 28 (M 26 5).toNatClampNeg (x - x / 100 * 100)) 29 (M 26 5).toNatClampNeg (y / 100)) 30 (M 26 5).toNatClampNeg (y - y / 100 * 100)) 31 (M 26 5).toNatClampNeg w) 26 5 (M 26 5 + 1)) N) 61 0 (am_en 61 [.ref 0, .int x, .int y, .int w]) [] M N := by
  refine J_en (L := [.ref 0, .int x, .int y, .int w, .retAddr 0, .retAddr 0, .retAddr 0, .retAddr 0]) rfl ?_
  refine J_b 18 am_d61 rfl ?_
  refine J_S2s 12 (am_d61 rfl) rfl rfl (sp12) ?_
  refine J_if_eq 44 (am_d61 rfl) rfl (fun h31 => absurd h31 (am_bi1.mpr h1.1)) (fun h31 => ?_)
  refine J_b 2 am_d61 rfl ?_
  refine J_S2s 12 (am_d61 rfl) rfl rfl (sp12) ?_
  refine J_if_ne 46 (am_d61 rfl) rfl (fun h41 => ?_) (fun h41 => absurd h41 (am_bi1.mpr h1.2))
  refine J_b 2 am_d61 rfl ?_
  refine J_icmp_gt 69 (am_d61 rfl) rfl (fun h50 => absurd (Int32.lt_iff_toInt_lt.mp h50) (Int.not_lt.mpr h2.1.1)) (fun h50 => ?_)
  refine J_b 2 am_d61 rfl ?_
  refine J_icmp_gt 69 (am_d61 rfl) rfl (fun h57 => absurd (Int32.lt_iff_toInt_lt.mp h57) (Int.not_lt.mpr h2.1.2)) (fun h57 => ?_)
  refine J_b 2 am_d61 rfl ?_
  refine J_S2s 13 (am_d61 rfl) rfl rfl (sp13) ?_
  refine J_if_ne 72 (am_d61 rfl) rfl (fun h66 => ?_) (fun h66 => absurd h66 (am_bi1.mpr h2.2))
  refine J_b 4 am_d61 rfl ?_
  refine J_icmp_lt 87 (am_d61 rfl) rfl (fun h81 => ?_) (fun h81 => absurd (h3) h81)
  refine J_b 6 am_d61 rfl ?_
  refine J_puti (am_d61 rfl) rfl ?_
  refine J_b 7 am_d61 rfl ?_
  refine J_V5s 62 (am_d61 rfl) rfl rfl (sp62 (M := am_up M 1 11 (M 1 11 + 1)) h4) ?_
  exact J_iret (am_d61 rfl) rfl rfl ⟨rfl, rfl, rfl⟩
theorem sp162a {X : am_X} {M : am_M} {N : am_N} {x y w : Int32} (g1 : ¬ (((0 ≤ (x / 100).toInt ∧ (x / 100).toInt < 10) ∧ 0 ≤ (y / 100).toInt ∧ (y / 100).toInt < 6) ∧ (0 ≤ (x - x / 100 * 100).toInt ∧ (x - x / 100 * 100).toInt < 10) ∧ 0 ≤ (y - y / 100 * 100).toInt ∧ (y - y / 100 * 100).toInt < 6)) : am_J X (am_eq (some (.int (-1))) (M) N) 162 0 (am_en 162 [.ref 120, .int x, .int y, .int w]) [] M N := by
  refine J_en (L := [.ref 120, .int x, .int y, .int w]) rfl ?_
  refine J_b 1 am_d162 rfl ?_
  refine J_if_lt 36 (am_d162 rfl) rfl (fun h1 => ?_) (fun h1 => ?_)
  · refine J_b 1 am_d162 rfl ?_
    exact J_iret (am_d162 rfl) rfl rfl ⟨rfl, rfl, rfl⟩
  · refine J_b 1 am_d162 rfl ?_
    refine J_if_lt 36 (am_d162 rfl) rfl (fun h5 => ?_) (fun h5 => ?_)
    · refine J_b 1 am_d162 rfl ?_
      exact J_iret (am_d162 rfl) rfl rfl ⟨rfl, rfl, rfl⟩
    · refine J_b 6 am_d162 rfl ?_
      refine J_S2s 139 (am_d162 rfl) rfl rfl (sp139) ?_
      refine J_if_eq 36 (am_d162 rfl) rfl (fun h19 => ?_) (fun h19 => ?_)
      · refine J_b 1 am_d162 rfl ?_
        exact J_iret (am_d162 rfl) rfl rfl ⟨rfl, rfl, rfl⟩
      · refine J_b 6 am_d162 rfl ?_
        refine J_S2s 139 (am_d162 rfl) rfl rfl (sp139) ?_
        refine J_if_ne 38 (am_d162 rfl) rfl (fun h33 => ?_) (fun h33 => ?_)
        · exact absurd ⟨am_bi1.mp h19, am_bi1.mp h33⟩ g1
        · refine J_b 1 am_d162 rfl ?_
          exact J_iret (am_d162 rfl) rfl rfl ⟨rfl, rfl, rfl⟩
theorem sp162b {X : am_X} {M : am_M} {N : am_N} {x y w : Int32} (h1 : ((0 ≤ (x / 100).toInt ∧ (x / 100).toInt < 10) ∧ 0 ≤ (y / 100).toInt ∧ (y / 100).toInt < 6) ∧ (0 ≤ (x - x / 100 * 100).toInt ∧ (x - x / 100 * 100).toInt < 10) ∧ 0 ≤ (y - y / 100 * 100).toInt ∧ (y - y / 100 * 100).toInt < 6) (h2 : ¬ (((x / 100).toInt ≤ (x - x / 100 * 100).toInt ∧ (y / 100).toInt ≤ (y - y / 100 * 100).toInt) ∧ 0 ≤ w.toInt ∧ w.toInt < 6)) : am_J X (am_eq (some (.int (-2))) (M) N) 162 0 (am_en 162 [.ref 120, .int x, .int y, .int w]) [] M N := by
  refine J_en (L := [.ref 120, .int x, .int y, .int w]) rfl ?_
  refine J_b 1 am_d162 rfl ?_
  refine J_if_lt 36 (am_d162 rfl) rfl (fun hh1 => absurd (Int32.lt_iff_toInt_lt.mp hh1) (Int.not_lt.mpr (nm_pos h1.1.1 h1.2.1))) (fun _ => ?_)
  refine J_b 1 am_d162 rfl ?_
  refine J_if_lt 36 (am_d162 rfl) rfl (fun h5 => absurd (Int32.lt_iff_toInt_lt.mp h5) (Int.not_lt.mpr (nm_pos ⟨h1.1.2.1, by have := h1.1.2.2; omega⟩ ⟨h1.2.2.1, by have := h1.2.2.2; omega⟩))) (fun h5 => ?_)
  refine J_b 6 am_d162 rfl ?_
  refine J_S2s 139 (am_d162 rfl) rfl rfl (sp139) ?_
  refine J_if_eq 36 (am_d162 rfl) rfl (fun h19 => absurd h19 (am_bi1.mpr h1.1)) (fun h19 => ?_)
  refine J_b 6 am_d162 rfl ?_
  refine J_S2s 139 (am_d162 rfl) rfl rfl (sp139) ?_
  refine J_if_ne 38 (am_d162 rfl) rfl (fun h33 => ?_) (fun h33 => absurd h33 (am_bi1.mpr h1.2))
  refine J_b 6 am_d162 rfl ?_
  refine J_icmp_gt 72 (am_d162 rfl) rfl (fun h46 => ?_) (fun h46 => ?_)
  · refine J_b 1 am_d162 rfl ?_
    exact J_iret (am_d162 rfl) rfl rfl ⟨rfl, rfl, rfl⟩
  · refine J_b 6 am_d162 rfl ?_
    refine J_icmp_gt 72 (am_d162 rfl) rfl (fun h57 => ?_) (fun h57 => ?_)
    · refine J_b 1 am_d162 rfl ?_
      exact J_iret (am_d162 rfl) rfl rfl ⟨rfl, rfl, rfl⟩
    · refine J_b 4 am_d162 rfl ?_
      refine J_S3s 140 (am_d162 rfl) rfl rfl (sp140) ?_
      refine J_if_ne 75 (am_d162 rfl) rfl (fun h69 => ?_) (fun h69 => ?_)
      · exact absurd ⟨⟨Int.not_lt.mp (fun z => h46 (Int32.lt_iff_toInt_lt.mpr z)), Int.not_lt.mp (fun z => h57 (Int32.lt_iff_toInt_lt.mpr z))⟩, by simp [am_bi0, am_bi1] at h69; omega⟩ h2
      · refine J_b 1 am_d162 rfl ?_
        exact J_iret (am_d162 rfl) rfl rfl ⟨rfl, rfl, rfl⟩
theorem sp162d {X : am_X} {M : am_M} {N : am_N} {x y w : Int32} (h1 : ((0 ≤ (x / 100).toInt ∧ (x / 100).toInt < 10) ∧ 0 ≤ (y / 100).toInt ∧ (y / 100).toInt < 6) ∧ (0 ≤ (x - x / 100 * 100).toInt ∧ (x - x / 100 * 100).toInt < 10) ∧ 0 ≤ (y - y / 100 * 100).toInt ∧ (y - y / 100 * 100).toInt < 6) (h2 : ((x / 100).toInt ≤ (x - x / 100 * 100).toInt ∧ (y / 100).toInt ≤ (y - y / 100 * 100).toInt) ∧ 0 ≤ w.toInt ∧ w.toInt < 6) (h3 : M 120 43 = 6) : am_J X (am_eq (some (.int (-4))) (M) N) 162 0 (am_en 162 [.ref 120, .int x, .int y, .int w]) [] M N := by
  refine J_en (L := [.ref 120, .int x, .int y, .int w]) rfl ?_
  refine J_b 1 am_d162 rfl ?_
  refine J_if_lt 36 (am_d162 rfl) rfl (fun hh1 => absurd (Int32.lt_iff_toInt_lt.mp hh1) (Int.not_lt.mpr (nm_pos h1.1.1 h1.2.1))) (fun _ => ?_)
  refine J_b 1 am_d162 rfl ?_
  refine J_if_lt 36 (am_d162 rfl) rfl (fun h5 => absurd (Int32.lt_iff_toInt_lt.mp h5) (Int.not_lt.mpr (nm_pos ⟨h1.1.2.1, by have := h1.1.2.2; omega⟩ ⟨h1.2.2.1, by have := h1.2.2.2; omega⟩))) (fun h5 => ?_)
  refine J_b 6 am_d162 rfl ?_
  refine J_S2s 139 (am_d162 rfl) rfl rfl (sp139) ?_
  refine J_if_eq 36 (am_d162 rfl) rfl (fun h19 => absurd h19 (am_bi1.mpr h1.1)) (fun h19 => ?_)
  refine J_b 6 am_d162 rfl ?_
  refine J_S2s 139 (am_d162 rfl) rfl rfl (sp139) ?_
  refine J_if_ne 38 (am_d162 rfl) rfl (fun h33 => ?_) (fun h33 => absurd h33 (am_bi1.mpr h1.2))
  refine J_b 6 am_d162 rfl ?_
  refine J_icmp_gt 72 (am_d162 rfl) rfl (fun h46 => absurd (Int32.lt_iff_toInt_lt.mp h46) (Int.not_lt.mpr h2.1.1)) (fun h46 => ?_)
  refine J_b 6 am_d162 rfl ?_
  refine J_icmp_gt 72 (am_d162 rfl) rfl (fun h57 => absurd (Int32.lt_iff_toInt_lt.mp h57) (Int.not_lt.mpr h2.1.2)) (fun h57 => ?_)
  refine J_b 4 am_d162 rfl ?_
  refine J_S3s 140 (am_d162 rfl) rfl rfl (sp140) ?_
  refine J_if_ne 75 (am_d162 rfl) rfl (fun h69 => ?_) (fun h69 => absurd h69 (am_bi1.mpr (by have := h2.2; simp; omega)))
  refine J_b 3 am_d162 rfl ?_
  refine J_icmp_ne 87 (am_d162 rfl) rfl (fun h81 => absurd h3 h81) (fun h81 => ?_)
  refine J_b 1 am_d162 rfl ?_
  exact J_iret (am_d162 rfl) rfl rfl ⟨rfl, rfl, rfl⟩
theorem sp162c {X : am_X} {M : am_M} {N : am_N} {x y w : Int32} (h1 : ((0 ≤ (x / 100).toInt ∧ (x / 100).toInt < 10) ∧ 0 ≤ (y / 100).toInt ∧ (y / 100).toInt < 6) ∧ (0 ≤ (x - x / 100 * 100).toInt ∧ (x - x / 100 * 100).toInt < 10) ∧ 0 ≤ (y - y / 100 * 100).toInt ∧ (y - y / 100 * 100).toInt < 6) (h2 : ((x / 100).toInt ≤ (x - x / 100 * 100).toInt ∧ (y / 100).toInt ≤ (y - y / 100 * 100).toInt) ∧ 0 ≤ w.toInt ∧ w.toInt < 6) (h3 : ¬ M 120 43 = 6) (h4 : 0 ≤ (M 120 43).toInt ∧ (M 120 43).toInt < 6) : am_J X (am_eq (some (.int (M 120 43))) (am_up (am_up (am_up (am_up (am_up (am_up M 148 (M 120 43).toNatClampNeg (x / 100)) 149 (M 120 43).toNatClampNeg (x - x / 100 * 100)) 150 (M 120 43).toNatClampNeg (y / 100)) 151 (M 120 43).toNatClampNeg (y - y / 100 * 100)) 152 (M 120 43).toNatClampNeg w) 120 43 (M 120 43 + 1)) N) 162 0 (am_en 162 [.ref 120, .int x, .int y, .int w]) [] M N := by
  refine J_en (L := [.ref 120, .int x, .int y, .int w]) rfl ?_
  refine J_b 1 am_d162 rfl ?_
  refine J_if_lt 36 (am_d162 rfl) rfl (fun hh1 => absurd (Int32.lt_iff_toInt_lt.mp hh1) (Int.not_lt.mpr (nm_pos h1.1.1 h1.2.1))) (fun _ => ?_)
  refine J_b 1 am_d162 rfl ?_
  refine J_if_lt 36 (am_d162 rfl) rfl (fun h5 => absurd (Int32.lt_iff_toInt_lt.mp h5) (Int.not_lt.mpr (nm_pos ⟨h1.1.2.1, by have := h1.1.2.2; omega⟩ ⟨h1.2.2.1, by have := h1.2.2.2; omega⟩))) (fun h5 => ?_)
  refine J_b 6 am_d162 rfl ?_
  refine J_S2s 139 (am_d162 rfl) rfl rfl (sp139) ?_
  refine J_if_eq 36 (am_d162 rfl) rfl (fun h19 => absurd h19 (am_bi1.mpr h1.1)) (fun h19 => ?_)
  refine J_b 6 am_d162 rfl ?_
  refine J_S2s 139 (am_d162 rfl) rfl rfl (sp139) ?_
  refine J_if_ne 38 (am_d162 rfl) rfl (fun h33 => ?_) (fun h33 => absurd h33 (am_bi1.mpr h1.2))
  refine J_b 6 am_d162 rfl ?_
  refine J_icmp_gt 72 (am_d162 rfl) rfl (fun h46 => absurd (Int32.lt_iff_toInt_lt.mp h46) (Int.not_lt.mpr h2.1.1)) (fun h46 => ?_)
  refine J_b 6 am_d162 rfl ?_
  refine J_icmp_gt 72 (am_d162 rfl) rfl (fun h57 => absurd (Int32.lt_iff_toInt_lt.mp h57) (Int.not_lt.mpr h2.1.2)) (fun h57 => ?_)
  refine J_b 4 am_d162 rfl ?_
  refine J_S3s 140 (am_d162 rfl) rfl rfl (sp140) ?_
  refine J_if_ne 75 (am_d162 rfl) rfl (fun h69 => ?_) (fun h69 => absurd h69 (am_bi1.mpr (by have := h2.2; simp; omega)))
  refine J_b 3 am_d162 rfl ?_
  refine J_icmp_ne 87 (am_d162 rfl) rfl (fun h81 => ?_) (fun h81 => absurd h81 h3)
  refine J_b 7 am_d162 rfl ?_
  refine J_iast (am_d162 rfl) rfl (vp_of h4) ?_
  refine J_b 7 am_d162 rfl ?_
  refine J_iast (am_d162 rfl) rfl (vp_of h4) ?_
  refine J_b 7 am_d162 rfl ?_
  refine J_iast (am_d162 rfl) rfl (vp_of h4) ?_
  refine J_b 7 am_d162 rfl ?_
  refine J_iast (am_d162 rfl) rfl (vp_of h4) ?_
  refine J_b 5 am_d162 rfl ?_
  refine J_iast (am_d162 rfl) rfl (vp_of h4) ?_
  refine J_b 5 am_d162 rfl ?_
  refine J_puti (am_d162 rfl) rfl ?_
  refine J_b 4 am_d162 rfl ?_
  exact J_iret (am_d162 rfl) rfl rfl ⟨by congr 2; exact Int32.add_sub_cancel _ _, rfl, rfl⟩
theorem pr_name {X : am_X} (x y w : Int32) : am_pI iv X 61 162 [.int x, .int y, .int w] := by
  intro c M N hc h
  have e := h.1.2.2.1.1.2
  have e5 := h.1.2.2.1.2.1
  unfold b_in at e5
  by_cases h1 : ((0 ≤ (x / 100).toInt ∧ (x / 100).toInt < 10) ∧ 0 ≤ (y / 100).toInt ∧ (y / 100).toInt < 6) ∧ (0 ≤ (x - x / 100 * 100).toInt ∧ (x - x / 100 * 100).toInt < 10) ∧ 0 ≤ (y - y / 100 * 100).toInt ∧ (y - y / 100 * 100).toInt < 6
  rotate_left
  · exact pr_e (sp61a h1) (sp162a h1) (iv_up _ _ _ h)
  by_cases h2 : ((x / 100).toInt ≤ (x - x / 100 * 100).toInt ∧ (y / 100).toInt ≤ (y - y / 100 * 100).toInt) ∧ 0 ≤ w.toInt ∧ w.toInt < 6
  rotate_left
  · exact pr_e (sp61b h1 h2) (sp162b h1 h2) (iv_up _ _ _ h)
  by_cases h3 : M 26 5 < 6
  rotate_left
  · exact pr_e (sp61d h1 h2 h3) (sp162d h1 h2 (by rw [e]; refine I_eq ?_; simp only [Int32.lt_iff_toInt_lt] at h3; have z : (6 : Int32).toInt = 6 := rfl; omega)) (iv_up _ _ _ h)
  have h4 : 0 ≤ (M 26 5).toInt ∧ (M 26 5).toInt < 6 := ⟨e5.1, Int32.lt_iff_toInt_lt.mp h3⟩
  have q := sp162c (X := X) (M := am_up (am_up (am_up (am_up (am_up (am_up (am_up M 1 11 (M 1 11 + 1)) 27 (M 26 5).toNatClampNeg (x / 100)) 28 (M 26 5).toNatClampNeg (x - x / 100 * 100)) 29 (M 26 5).toNatClampNeg (y / 100)) 30 (M 26 5).toNatClampNeg (y - y / 100 * 100)) 31 (M 26 5).toNatClampNeg w) 26 5 (M 26 5 + 1)) (N := N) h1 h2 (by show ¬ M 120 43 = 6; rw [e]; intro z; rw [z] at h4; exact absurd h4.2 (by decide)) (by show 0 ≤ (M 120 43).toInt ∧ (M 120 43).toInt < 6; rw [e]; exact h4)
  rw [show (am_up (am_up (am_up (am_up (am_up (am_up (am_up M 1 11 (M 1 11 + 1)) 27 (M 26 5).toNatClampNeg (x / 100)) 28 (M 26 5).toNatClampNeg (x - x / 100 * 100)) 29 (M 26 5).toNatClampNeg (y / 100)) 30 (M 26 5).toNatClampNeg (y - y / 100 * 100)) 31 (M 26 5).toNatClampNeg w) 26 5 (M 26 5 + 1)) 120 43 = M 26 5 from e] at q
  refine pr_e (sp61c h1 h2 h3 h4) q ?_
  obtain ⟨⟨⟨hs, hb⟩, ⟨hca, hcb⟩, ⟨hna, hnb⟩, ⟨hfi, hfb⟩⟩, ⟨hti, hta, hpr⟩, hcc, hch, hkl, hkd⟩ := h
  obtain ⟨g1, g2, g3⟩ := ch_up (M' := am_up (am_up (am_up (am_up (am_up (am_up (am_up (am_up (am_up (am_up (am_up (am_up (am_up M 1 11 (M 1 11 + 1)) 27 (M 26 5).toNatClampNeg (x / 100)) 28 (M 26 5).toNatClampNeg (x - x / 100 * 100)) 29 (M 26 5).toNatClampNeg (y / 100)) 30 (M 26 5).toNatClampNeg (y - y / 100 * 100)) 31 (M 26 5).toNatClampNeg w) 26 5 (M 26 5 + 1)) 148 (M 26 5).toNatClampNeg (x / 100)) 149 (M 26 5).toNatClampNeg (x - x / 100 * 100)) 150 (M 26 5).toNatClampNeg (y / 100)) 151 (M 26 5).toNatClampNeg (y - y / 100 * 100)) 152 (M 26 5).toNatClampNeg w) 120 43 (M 26 5 + 1)) hc hch rfl rfl rfl
  obtain ⟨⟨n1, n2, n3, n4, n5⟩, n6⟩ := hna
  obtain ⟨m1, m2, m3, m4, m5, m6⟩ := hnb
  have em : b_in (M 26 5 + 1) 0 6 := by
    unfold b_in
    have z : (1 : Int32).toInt = 1 := rfl
    rw [I_add (by omega)]
    omega
  have nu : ∀ j, (if j = (M 26 5).toNatClampNeg then x / 100 else M 27 j).toInt ≤ (if j = (M 26 5).toNatClampNeg then x - x / 100 * 100 else M 28 j).toInt ∧ (if j = (M 26 5).toNatClampNeg then y / 100 else M 29 j).toInt ≤ (if j = (M 26 5).toNatClampNeg then y - y / 100 * 100 else M 30 j).toInt := by
    intro j
    by_cases e : j = (M 26 5).toNatClampNeg
    · rw [if_pos e, if_pos e, if_pos e, if_pos e]
      exact h2.1
    · rw [if_neg e, if_neg e, if_neg e, if_neg e]
      exact m6 j
  have u1 := h1
  unfold b_in at *
  exact ⟨⟨⟨hs, hb⟩, ⟨hca, hcb⟩, ⟨⟨⟨up_eq (j := (M 26 5).toNatClampNeg) (x := x / 100) n1, up_eq (j := (M 26 5).toNatClampNeg) (x := x - x / 100 * 100) n2, up_eq (j := (M 26 5).toNatClampNeg) (x := y / 100) n3, up_eq (j := (M 26 5).toNatClampNeg) (x := y - y / 100 * 100) n4, up_eq (j := (M 26 5).toNatClampNeg) (x := w) n5⟩, rfl⟩, ⟨em, b_up m2 (by unfold b_in; omega), b_up m3 (by unfold b_in; omega), b_up m4 (by unfold b_in; omega), b_up m5 (by unfold b_in; omega), nu⟩⟩, ⟨hfi, hfb⟩⟩, ⟨hti, hta, hpr⟩, cc_of hcc hfb (fun k k1 k2 => by (repeat (first | rw [up_n] | rw [upR_n])) <;> omega) ⟨rfl, rfl, rfl, rfl, rfl, rfl, rfl⟩, g1, g2, g3⟩
