/-! ===== the sea: what is told ===== -/
theorem sp23 {X : am_X} {M : am_M} {N : am_N} {m e n : Int32} (hm : vp_in m 12) : am_J X (am_eq (none) (am_up (am_up (am_up M 12 m.toNatClampNeg e) 13 m.toNatClampNeg n) 1 11 (M 1 11 + 1)) N) 23 0 (am_en 23 [.ref 1, .int m, .int e, .int n]) [] M N := by
  refine J_en (L := [.ref 1, .int m, .int e, .int n]) rfl ?_
  refine J_b 4 am_d23 rfl ?_
  refine J_iast (am_d23 rfl) rfl (by assumption) ?_
  refine J_b 4 am_d23 rfl ?_
  refine J_iast (am_d23 rfl) rfl (by assumption) ?_
  refine J_b 5 am_d23 rfl ?_
  refine J_puti (am_d23 rfl) rfl ?_
  exact J_ret (am_d23 rfl) rfl ⟨rfl, rfl, rfl⟩
theorem sp20 {X : am_X} {M : am_M} {N : am_N} {k e n : Int32} (hk : vp_in k 36) : am_J X (am_eq (none) (am_up (am_up (am_up (am_up (am_up M 8 k.toNatClampNeg (e / 10 - 3)) 9 k.toNatClampNeg (e - e / 10 * 10 - 3)) 10 k.toNatClampNeg (n / 10 - 3)) 11 k.toNatClampNeg (n - n / 10 * 10 - 3)) 1 11 (M 1 11 + 1)) N) 20 0 (am_en 20 [.ref 1, .int k, .int e, .int n]) [] M N := by
  refine J_en (L := [.ref 1, .int k, .int e, .int n]) rfl ?_
  refine J_b 8 am_d20 rfl ?_
  refine J_iast (am_d20 rfl) rfl (by assumption) ?_
  refine J_b 8 am_d20 rfl ?_
  refine J_iast (am_d20 rfl) rfl (by assumption) ?_
  refine J_b 8 am_d20 rfl ?_
  refine J_iast (am_d20 rfl) rfl (by assumption) ?_
  refine J_b 8 am_d20 rfl ?_
  refine J_iast (am_d20 rfl) rfl (by assumption) ?_
  refine J_b 5 am_d20 rfl ?_
  refine J_puti (am_d20 rfl) rfl ?_
  exact J_ret (am_d20 rfl) rfl ⟨rfl, rfl, rfl⟩
theorem sp25 {X : am_X} {M : am_M} {N : am_N} {m t e n : Int32} (hm : vp_in m 48) : am_J X (am_eq (some (.int (if M 14 m.toNatClampNeg = 0 then 0 else 1))) (am_up (am_up (am_up (am_up M 14 m.toNatClampNeg (vp_nar .boolean t)) 15 m.toNatClampNeg e) 16 m.toNatClampNeg n) 1 11 (M 1 11 + 1)) N) 25 0 (am_en 25 [.ref 1, .int m, .int t, .int e, .int n]) [] M N := by
  refine J_en (L := [.ref 1, .int m, .int t, .int e, .int n, .retAddr 0]) rfl ?_
  refine J_b 3 am_d25 rfl ?_
  refine J_zald (am_d25 rfl) rfl (by assumption) ?_
  refine J_if_eq 13 (am_d25 rfl) rfl (fun h6 => ?_) (fun h6 => ?_)
  · refine J_b 6 am_d25 rfl ?_
    refine J_zast (am_d25 rfl) rfl (by assumption) ?_
    refine J_b 4 am_d25 rfl ?_
    refine J_iast (am_d25 rfl) rfl (by assumption) ?_
    refine J_b 4 am_d25 rfl ?_
    refine J_iast (am_d25 rfl) rfl (by assumption) ?_
    refine J_b 5 am_d25 rfl ?_
    refine J_puti (am_d25 rfl) rfl ?_
    refine J_b 1 am_d25 rfl ?_
    exact J_iret (am_d25 rfl) rfl rfl ⟨by simp [*], rfl, rfl⟩
  · refine J_b 7 am_d25 rfl ?_
    refine J_zast (am_d25 rfl) rfl (by assumption) ?_
    refine J_b 4 am_d25 rfl ?_
    refine J_iast (am_d25 rfl) rfl (by assumption) ?_
    refine J_b 4 am_d25 rfl ?_
    refine J_iast (am_d25 rfl) rfl (by assumption) ?_
    refine J_b 5 am_d25 rfl ?_
    refine J_puti (am_d25 rfl) rfl ?_
    refine J_b 1 am_d25 rfl ?_
    exact J_iret (am_d25 rfl) rfl rfl ⟨by simp [*], rfl, rfl⟩
theorem sp21a {X : am_X} {M : am_M} {N : am_N} {m e n : Int32} (h1 : ¬ (0 ≤ m.toInt ∧ m.toInt < 12)) : am_J X (am_eq (some (.int (-1))) (M) N) 21 0 (am_en 21 [.ref 0, .int m, .int e, .int n]) [] M N := by
  refine J_en (L := [.ref 0, .int m, .int e, .int n]) rfl ?_
  refine J_b 2 am_d21 rfl ?_
  refine J_S2s 13 (am_d21 rfl) rfl rfl (sp13) ?_
  refine J_if_ne 11 (am_d21 rfl) rfl (fun h6 => ?_) (fun h6 => ?_)
  · refine J_b 1 am_d21 rfl ?_
    refine J_S1s 22 (am_d21 rfl) rfl rfl (sp22) ?_
    refine J_if_eq 25 (am_d21 rfl) rfl (fun h15 => ?_) (fun h15 => ?_)
    · refine J_b 1 am_d21 rfl ?_
      exact J_iret (am_d21 rfl) rfl rfl (by first | exact ⟨rfl, rfl, rfl⟩ | (exfalso; simp [am_bi0, am_bi1] at *; omega))
    · refine J_b 1 am_d21 rfl ?_
      refine J_S1s 22 (am_d21 rfl) rfl rfl (sp22) ?_
      refine J_if_ne 28 (am_d21 rfl) rfl (fun h22 => ?_) (fun h22 => ?_)
      · refine J_b 5 am_d21 rfl ?_
        refine J_V3n 23 (am_d21 rfl) rfl rfl (sp23 (vp_of (by simp [am_bi0, am_bi1] at *; omega))) ?_
        refine J_b 1 am_d21 rfl ?_
        exact J_iret (am_d21 rfl) rfl rfl (by first | exact ⟨rfl, rfl, rfl⟩ | (exfalso; simp [am_bi0, am_bi1] at *; omega))
      · refine J_b 1 am_d21 rfl ?_
        exact J_iret (am_d21 rfl) rfl rfl (by first | exact ⟨rfl, rfl, rfl⟩ | (exfalso; simp [am_bi0, am_bi1] at *; omega))
  · refine J_b 1 am_d21 rfl ?_
    exact J_iret (am_d21 rfl) rfl rfl (by first | exact ⟨rfl, rfl, rfl⟩ | (exfalso; simp [am_bi0, am_bi1] at *; omega))
theorem sp21b {X : am_X} {M : am_M} {N : am_N} {m e n : Int32} (h1 : 0 ≤ m.toInt ∧ m.toInt < 12) (h2 : ¬ ((-3 ≤ e.toInt ∧ e.toInt ≤ 3) ∧ (-3 ≤ n.toInt ∧ n.toInt ≤ 3))) : am_J X (am_eq (some (.int (-2))) (M) N) 21 0 (am_en 21 [.ref 0, .int m, .int e, .int n]) [] M N := by
  refine J_en (L := [.ref 0, .int m, .int e, .int n]) rfl ?_
  refine J_b 2 am_d21 rfl ?_
  refine J_S2s 13 (am_d21 rfl) rfl rfl (sp13) ?_
  refine J_if_ne 11 (am_d21 rfl) rfl (fun h6 => ?_) (fun h6 => ?_)
  · refine J_b 1 am_d21 rfl ?_
    refine J_S1s 22 (am_d21 rfl) rfl rfl (sp22) ?_
    refine J_if_eq 25 (am_d21 rfl) rfl (fun h15 => ?_) (fun h15 => ?_)
    · refine J_b 1 am_d21 rfl ?_
      exact J_iret (am_d21 rfl) rfl rfl (by first | exact ⟨rfl, rfl, rfl⟩ | (exfalso; simp [am_bi0, am_bi1] at *; omega))
    · refine J_b 1 am_d21 rfl ?_
      refine J_S1s 22 (am_d21 rfl) rfl rfl (sp22) ?_
      refine J_if_ne 28 (am_d21 rfl) rfl (fun h22 => ?_) (fun h22 => ?_)
      · refine J_b 5 am_d21 rfl ?_
        refine J_V3n 23 (am_d21 rfl) rfl rfl (sp23 (vp_of (by simp [am_bi0, am_bi1] at *; omega))) ?_
        refine J_b 1 am_d21 rfl ?_
        exact J_iret (am_d21 rfl) rfl rfl (by first | exact ⟨rfl, rfl, rfl⟩ | (exfalso; simp [am_bi0, am_bi1] at *; omega))
      · refine J_b 1 am_d21 rfl ?_
        exact J_iret (am_d21 rfl) rfl rfl (by first | exact ⟨rfl, rfl, rfl⟩ | (exfalso; simp [am_bi0, am_bi1] at *; omega))
  · refine J_b 1 am_d21 rfl ?_
    exact J_iret (am_d21 rfl) rfl rfl (by first | exact ⟨rfl, rfl, rfl⟩ | (exfalso; simp [am_bi0, am_bi1] at *; omega))
theorem sp21c {X : am_X} {M : am_M} {N : am_N} {m e n : Int32} (h1 : 0 ≤ m.toInt ∧ m.toInt < 12) (h2 : (-3 ≤ e.toInt ∧ e.toInt ≤ 3) ∧ (-3 ≤ n.toInt ∧ n.toInt ≤ 3)) : am_J X (am_eq (some (.int 0)) (am_up (am_up (am_up M 12 m.toNatClampNeg e) 13 m.toNatClampNeg n) 1 11 (M 1 11 + 1)) N) 21 0 (am_en 21 [.ref 0, .int m, .int e, .int n]) [] M N := by
  refine J_en (L := [.ref 0, .int m, .int e, .int n]) rfl ?_
  refine J_b 2 am_d21 rfl ?_
  refine J_S2s 13 (am_d21 rfl) rfl rfl (sp13) ?_
  refine J_if_ne 11 (am_d21 rfl) rfl (fun h6 => ?_) (fun h6 => ?_)
  · refine J_b 1 am_d21 rfl ?_
    refine J_S1s 22 (am_d21 rfl) rfl rfl (sp22) ?_
    refine J_if_eq 25 (am_d21 rfl) rfl (fun h15 => ?_) (fun h15 => ?_)
    · refine J_b 1 am_d21 rfl ?_
      exact J_iret (am_d21 rfl) rfl rfl (by first | exact ⟨rfl, rfl, rfl⟩ | (exfalso; simp [am_bi0, am_bi1] at *; omega))
    · refine J_b 1 am_d21 rfl ?_
      refine J_S1s 22 (am_d21 rfl) rfl rfl (sp22) ?_
      refine J_if_ne 28 (am_d21 rfl) rfl (fun h22 => ?_) (fun h22 => ?_)
      · refine J_b 5 am_d21 rfl ?_
        refine J_V3n 23 (am_d21 rfl) rfl rfl (sp23 (vp_of (by simp [am_bi0, am_bi1] at *; omega))) ?_
        refine J_b 1 am_d21 rfl ?_
        exact J_iret (am_d21 rfl) rfl rfl (by first | exact ⟨rfl, rfl, rfl⟩ | (exfalso; simp [am_bi0, am_bi1] at *; omega))
      · refine J_b 1 am_d21 rfl ?_
        exact J_iret (am_d21 rfl) rfl rfl (by first | exact ⟨rfl, rfl, rfl⟩ | (exfalso; simp [am_bi0, am_bi1] at *; omega))
  · refine J_b 1 am_d21 rfl ?_
    exact J_iret (am_d21 rfl) rfl rfl (by first | exact ⟨rfl, rfl, rfl⟩ | (exfalso; simp [am_bi0, am_bi1] at *; omega))
theorem sp147a {X : am_X} {M : am_M} {N : am_N} {m e n : Int32} (h1 : ¬ (0 ≤ m.toInt ∧ m.toInt < 12)) : am_J X (am_eq (some (.int (-1))) (M) N) 147 0 (am_en 147 [.ref 120, .int m, .int e, .int n]) [] M N := by
  refine J_en (L := [.ref 120, .int m, .int e, .int n]) rfl ?_
  refine J_b 4 am_d147 rfl ?_
  refine J_S3s 140 (am_d147 rfl) rfl rfl (sp140) ?_
  refine J_if_ne 14 (am_d147 rfl) rfl (fun h9 => ?_) (fun h9 => ?_)
  · refine J_b 4 am_d147 rfl ?_
    refine J_S3s 140 (am_d147 rfl) rfl rfl (sp140) ?_
    refine J_if_eq 42 (am_d147 rfl) rfl (fun h25 => ?_) (fun h25 => ?_)
    · refine J_b 1 am_d147 rfl ?_
      exact J_iret (am_d147 rfl) rfl rfl (by first | exact ⟨rfl, rfl, rfl⟩ | (exfalso; simp [am_bi0, am_bi1] at *; omega))
    · refine J_b 4 am_d147 rfl ?_
      refine J_S3s 140 (am_d147 rfl) rfl rfl (sp140) ?_
      refine J_if_ne 45 (am_d147 rfl) rfl (fun h39 => ?_) (fun h39 => ?_)
      · refine J_b 4 am_d147 rfl ?_
        refine J_iast (am_d147 rfl) rfl (vp_of (by simp [am_bi0, am_bi1] at *; omega)) ?_
        refine J_b 4 am_d147 rfl ?_
        refine J_iast (am_d147 rfl) rfl (vp_of (by simp [am_bi0, am_bi1] at *; omega)) ?_
        refine J_b 1 am_d147 rfl ?_
        exact J_iret (am_d147 rfl) rfl rfl (by first | exact ⟨rfl, rfl, rfl⟩ | (exfalso; simp [am_bi0, am_bi1] at *; omega))
      · refine J_b 1 am_d147 rfl ?_
        exact J_iret (am_d147 rfl) rfl rfl (by first | exact ⟨rfl, rfl, rfl⟩ | (exfalso; simp [am_bi0, am_bi1] at *; omega))
  · refine J_b 1 am_d147 rfl ?_
    exact J_iret (am_d147 rfl) rfl rfl (by first | exact ⟨rfl, rfl, rfl⟩ | (exfalso; simp [am_bi0, am_bi1] at *; omega))
theorem sp147b {X : am_X} {M : am_M} {N : am_N} {m e n : Int32} (h1 : 0 ≤ m.toInt ∧ m.toInt < 12) (h2 : ¬ ((-3 ≤ e.toInt ∧ e.toInt ≤ 3) ∧ (-3 ≤ n.toInt ∧ n.toInt ≤ 3))) : am_J X (am_eq (some (.int (-2))) (M) N) 147 0 (am_en 147 [.ref 120, .int m, .int e, .int n]) [] M N := by
  refine J_en (L := [.ref 120, .int m, .int e, .int n]) rfl ?_
  refine J_b 4 am_d147 rfl ?_
  refine J_S3s 140 (am_d147 rfl) rfl rfl (sp140) ?_
  refine J_if_ne 14 (am_d147 rfl) rfl (fun h9 => ?_) (fun h9 => ?_)
  · refine J_b 4 am_d147 rfl ?_
    refine J_S3s 140 (am_d147 rfl) rfl rfl (sp140) ?_
    refine J_if_eq 42 (am_d147 rfl) rfl (fun h25 => ?_) (fun h25 => ?_)
    · refine J_b 1 am_d147 rfl ?_
      exact J_iret (am_d147 rfl) rfl rfl (by first | exact ⟨rfl, rfl, rfl⟩ | (exfalso; simp [am_bi0, am_bi1] at *; omega))
    · refine J_b 4 am_d147 rfl ?_
      refine J_S3s 140 (am_d147 rfl) rfl rfl (sp140) ?_
      refine J_if_ne 45 (am_d147 rfl) rfl (fun h39 => ?_) (fun h39 => ?_)
      · refine J_b 4 am_d147 rfl ?_
        refine J_iast (am_d147 rfl) rfl (vp_of (by simp [am_bi0, am_bi1] at *; omega)) ?_
        refine J_b 4 am_d147 rfl ?_
        refine J_iast (am_d147 rfl) rfl (vp_of (by simp [am_bi0, am_bi1] at *; omega)) ?_
        refine J_b 1 am_d147 rfl ?_
        exact J_iret (am_d147 rfl) rfl rfl (by first | exact ⟨rfl, rfl, rfl⟩ | (exfalso; simp [am_bi0, am_bi1] at *; omega))
      · refine J_b 1 am_d147 rfl ?_
        exact J_iret (am_d147 rfl) rfl rfl (by first | exact ⟨rfl, rfl, rfl⟩ | (exfalso; simp [am_bi0, am_bi1] at *; omega))
  · refine J_b 1 am_d147 rfl ?_
    exact J_iret (am_d147 rfl) rfl rfl (by first | exact ⟨rfl, rfl, rfl⟩ | (exfalso; simp [am_bi0, am_bi1] at *; omega))
theorem sp147c {X : am_X} {M : am_M} {N : am_N} {m e n : Int32} (h1 : 0 ≤ m.toInt ∧ m.toInt < 12) (h2 : (-3 ≤ e.toInt ∧ e.toInt ≤ 3) ∧ (-3 ≤ n.toInt ∧ n.toInt ≤ 3)) : am_J X (am_eq (some (.int 0)) (am_up (am_up M 131 m.toNatClampNeg e) 132 m.toNatClampNeg n) N) 147 0 (am_en 147 [.ref 120, .int m, .int e, .int n]) [] M N := by
  refine J_en (L := [.ref 120, .int m, .int e, .int n]) rfl ?_
  refine J_b 4 am_d147 rfl ?_
  refine J_S3s 140 (am_d147 rfl) rfl rfl (sp140) ?_
  refine J_if_ne 14 (am_d147 rfl) rfl (fun h9 => ?_) (fun h9 => ?_)
  · refine J_b 4 am_d147 rfl ?_
    refine J_S3s 140 (am_d147 rfl) rfl rfl (sp140) ?_
    refine J_if_eq 42 (am_d147 rfl) rfl (fun h25 => ?_) (fun h25 => ?_)
    · refine J_b 1 am_d147 rfl ?_
      exact J_iret (am_d147 rfl) rfl rfl (by first | exact ⟨rfl, rfl, rfl⟩ | (exfalso; simp [am_bi0, am_bi1] at *; omega))
    · refine J_b 4 am_d147 rfl ?_
      refine J_S3s 140 (am_d147 rfl) rfl rfl (sp140) ?_
      refine J_if_ne 45 (am_d147 rfl) rfl (fun h39 => ?_) (fun h39 => ?_)
      · refine J_b 4 am_d147 rfl ?_
        refine J_iast (am_d147 rfl) rfl (vp_of (by simp [am_bi0, am_bi1] at *; omega)) ?_
        refine J_b 4 am_d147 rfl ?_
        refine J_iast (am_d147 rfl) rfl (vp_of (by simp [am_bi0, am_bi1] at *; omega)) ?_
        refine J_b 1 am_d147 rfl ?_
        exact J_iret (am_d147 rfl) rfl rfl (by first | exact ⟨rfl, rfl, rfl⟩ | (exfalso; simp [am_bi0, am_bi1] at *; omega))
      · refine J_b 1 am_d147 rfl ?_
        exact J_iret (am_d147 rfl) rfl rfl (by first | exact ⟨rfl, rfl, rfl⟩ | (exfalso; simp [am_bi0, am_bi1] at *; omega))
  · refine J_b 1 am_d147 rfl ?_
    exact J_iret (am_d147 rfl) rfl rfl (by first | exact ⟨rfl, rfl, rfl⟩ | (exfalso; simp [am_bi0, am_bi1] at *; omega))
theorem sp24a {X : am_X} {M : am_M} {N : am_N} {m e n : Int32} (h1 : ¬ (0 ≤ m.toInt ∧ m.toInt < 48)) : am_J X (am_eq (some (.int (-1))) (M) N) 24 0 (am_en 24 [.ref 0, .int m, .int e, .int n]) [] M N := by
  refine J_en (L := [.ref 0, .int m, .int e, .int n]) rfl ?_
  refine J_b 2 am_d24 rfl ?_
  refine J_S2s 13 (am_d24 rfl) rfl rfl (sp13) ?_
  refine J_if_ne 11 (am_d24 rfl) rfl (fun h6 => ?_) (fun h6 => ?_)
  · refine J_b 1 am_d24 rfl ?_
    refine J_S1s 22 (am_d24 rfl) rfl rfl (sp22) ?_
    refine J_if_eq 25 (am_d24 rfl) rfl (fun h15 => ?_) (fun h15 => ?_)
    · refine J_b 1 am_d24 rfl ?_
      exact J_iret (am_d24 rfl) rfl rfl (by first | exact ⟨rfl, rfl, rfl⟩ | (exfalso; simp [am_bi0, am_bi1] at *; omega))
    · refine J_b 1 am_d24 rfl ?_
      refine J_S1s 22 (am_d24 rfl) rfl rfl (sp22) ?_
      refine J_if_ne 28 (am_d24 rfl) rfl (fun h22 => ?_) (fun h22 => ?_)
      · refine J_b 6 am_d24 rfl ?_
        refine J_V4s 25 (am_d24 rfl) rfl rfl (sp25 (vp_of (by simp [am_bi0, am_bi1] at *; omega))) ?_
        exact J_iret (am_d24 rfl) rfl rfl (by first | exact ⟨rfl, rfl, rfl⟩ | (exfalso; simp [am_bi0, am_bi1] at *; omega))
      · refine J_b 1 am_d24 rfl ?_
        exact J_iret (am_d24 rfl) rfl rfl (by first | exact ⟨rfl, rfl, rfl⟩ | (exfalso; simp [am_bi0, am_bi1] at *; omega))
  · refine J_b 1 am_d24 rfl ?_
    exact J_iret (am_d24 rfl) rfl rfl (by first | exact ⟨rfl, rfl, rfl⟩ | (exfalso; simp [am_bi0, am_bi1] at *; omega))
theorem sp24b {X : am_X} {M : am_M} {N : am_N} {m e n : Int32} (h1 : 0 ≤ m.toInt ∧ m.toInt < 48) (h2 : ¬ ((-3 ≤ e.toInt ∧ e.toInt ≤ 3) ∧ (-3 ≤ n.toInt ∧ n.toInt ≤ 3))) : am_J X (am_eq (some (.int (-2))) (M) N) 24 0 (am_en 24 [.ref 0, .int m, .int e, .int n]) [] M N := by
  refine J_en (L := [.ref 0, .int m, .int e, .int n]) rfl ?_
  refine J_b 2 am_d24 rfl ?_
  refine J_S2s 13 (am_d24 rfl) rfl rfl (sp13) ?_
  refine J_if_ne 11 (am_d24 rfl) rfl (fun h6 => ?_) (fun h6 => ?_)
  · refine J_b 1 am_d24 rfl ?_
    refine J_S1s 22 (am_d24 rfl) rfl rfl (sp22) ?_
    refine J_if_eq 25 (am_d24 rfl) rfl (fun h15 => ?_) (fun h15 => ?_)
    · refine J_b 1 am_d24 rfl ?_
      exact J_iret (am_d24 rfl) rfl rfl (by first | exact ⟨rfl, rfl, rfl⟩ | (exfalso; simp [am_bi0, am_bi1] at *; omega))
    · refine J_b 1 am_d24 rfl ?_
      refine J_S1s 22 (am_d24 rfl) rfl rfl (sp22) ?_
      refine J_if_ne 28 (am_d24 rfl) rfl (fun h22 => ?_) (fun h22 => ?_)
      · refine J_b 6 am_d24 rfl ?_
        refine J_V4s 25 (am_d24 rfl) rfl rfl (sp25 (vp_of (by simp [am_bi0, am_bi1] at *; omega))) ?_
        exact J_iret (am_d24 rfl) rfl rfl (by first | exact ⟨rfl, rfl, rfl⟩ | (exfalso; simp [am_bi0, am_bi1] at *; omega))
      · refine J_b 1 am_d24 rfl ?_
        exact J_iret (am_d24 rfl) rfl rfl (by first | exact ⟨rfl, rfl, rfl⟩ | (exfalso; simp [am_bi0, am_bi1] at *; omega))
  · refine J_b 1 am_d24 rfl ?_
    exact J_iret (am_d24 rfl) rfl rfl (by first | exact ⟨rfl, rfl, rfl⟩ | (exfalso; simp [am_bi0, am_bi1] at *; omega))
theorem sp24c {X : am_X} {M : am_M} {N : am_N} {m e n : Int32} (h1 : 0 ≤ m.toInt ∧ m.toInt < 48) (h2 : (-3 ≤ e.toInt ∧ e.toInt ≤ 3) ∧ (-3 ≤ n.toInt ∧ n.toInt ≤ 3)) : am_J X (am_eq (some (.int (if M 14 m.toNatClampNeg = 0 then 0 else 1))) (am_up (am_up (am_up (am_up M 14 m.toNatClampNeg (vp_nar .boolean 1)) 15 m.toNatClampNeg e) 16 m.toNatClampNeg n) 1 11 (M 1 11 + 1)) N) 24 0 (am_en 24 [.ref 0, .int m, .int e, .int n]) [] M N := by
  refine J_en (L := [.ref 0, .int m, .int e, .int n]) rfl ?_
  refine J_b 2 am_d24 rfl ?_
  refine J_S2s 13 (am_d24 rfl) rfl rfl (sp13) ?_
  refine J_if_ne 11 (am_d24 rfl) rfl (fun h6 => ?_) (fun h6 => ?_)
  · refine J_b 1 am_d24 rfl ?_
    refine J_S1s 22 (am_d24 rfl) rfl rfl (sp22) ?_
    refine J_if_eq 25 (am_d24 rfl) rfl (fun h15 => ?_) (fun h15 => ?_)
    · refine J_b 1 am_d24 rfl ?_
      exact J_iret (am_d24 rfl) rfl rfl (by first | exact ⟨rfl, rfl, rfl⟩ | (exfalso; simp [am_bi0, am_bi1] at *; omega))
    · refine J_b 1 am_d24 rfl ?_
      refine J_S1s 22 (am_d24 rfl) rfl rfl (sp22) ?_
      refine J_if_ne 28 (am_d24 rfl) rfl (fun h22 => ?_) (fun h22 => ?_)
      · refine J_b 6 am_d24 rfl ?_
        refine J_V4s 25 (am_d24 rfl) rfl rfl (sp25 (vp_of (by simp [am_bi0, am_bi1] at *; omega))) ?_
        exact J_iret (am_d24 rfl) rfl rfl (by first | exact ⟨rfl, rfl, rfl⟩ | (exfalso; simp [am_bi0, am_bi1] at *; omega))
      · refine J_b 1 am_d24 rfl ?_
        exact J_iret (am_d24 rfl) rfl rfl (by first | exact ⟨rfl, rfl, rfl⟩ | (exfalso; simp [am_bi0, am_bi1] at *; omega))
  · refine J_b 1 am_d24 rfl ?_
    exact J_iret (am_d24 rfl) rfl rfl (by first | exact ⟨rfl, rfl, rfl⟩ | (exfalso; simp [am_bi0, am_bi1] at *; omega))
theorem sp148a {X : am_X} {M : am_M} {N : am_N} {m e n : Int32} (h1 : ¬ (0 ≤ m.toInt ∧ m.toInt < 48)) : am_J X (am_eq (some (.int (-1))) (M) N) 148 0 (am_en 148 [.ref 120, .int m, .int e, .int n]) [] M N := by
  refine J_en (L := [.ref 120, .int m, .int e, .int n, .retAddr 0]) rfl ?_
  refine J_b 4 am_d148 rfl ?_
  refine J_S3s 140 (am_d148 rfl) rfl rfl (sp140) ?_
  refine J_if_ne 14 (am_d148 rfl) rfl (fun h9 => ?_) (fun h9 => ?_)
  · refine J_b 4 am_d148 rfl ?_
    refine J_S3s 140 (am_d148 rfl) rfl rfl (sp140) ?_
    refine J_if_eq 42 (am_d148 rfl) rfl (fun h25 => ?_) (fun h25 => ?_)
    · refine J_b 1 am_d148 rfl ?_
      exact J_iret (am_d148 rfl) rfl rfl (by first | exact ⟨rfl, rfl, rfl⟩ | (exfalso; simp [am_bi0, am_bi1] at *; omega; done) | exact ⟨by simp [*], rfl, rfl⟩)
    · refine J_b 4 am_d148 rfl ?_
      refine J_S3s 140 (am_d148 rfl) rfl rfl (sp140) ?_
      refine J_if_ne 45 (am_d148 rfl) rfl (fun h39 => ?_) (fun h39 => ?_)
      · refine J_b 3 am_d148 rfl ?_
        refine J_zald (am_d148 rfl) rfl (vp_of (by simp [am_bi0, am_bi1] at *; omega)) ?_
        refine J_if_eq 58 (am_d148 rfl) rfl (fun h51 => ?_) (fun h51 => ?_)
        · refine J_b 6 am_d148 rfl ?_
          refine J_zast (am_d148 rfl) rfl (vp_of (by simp [am_bi0, am_bi1] at *; omega)) ?_
          refine J_b 4 am_d148 rfl ?_
          refine J_iast (am_d148 rfl) rfl (vp_of (by simp [am_bi0, am_bi1] at *; omega)) ?_
          refine J_b 4 am_d148 rfl ?_
          refine J_iast (am_d148 rfl) rfl (vp_of (by simp [am_bi0, am_bi1] at *; omega)) ?_
          refine J_b 1 am_d148 rfl ?_
          exact J_iret (am_d148 rfl) rfl rfl (by first | exact ⟨rfl, rfl, rfl⟩ | (exfalso; simp [am_bi0, am_bi1] at *; omega; done) | exact ⟨by simp [*], rfl, rfl⟩)
        · refine J_b 7 am_d148 rfl ?_
          refine J_zast (am_d148 rfl) rfl (vp_of (by simp [am_bi0, am_bi1] at *; omega)) ?_
          refine J_b 4 am_d148 rfl ?_
          refine J_iast (am_d148 rfl) rfl (vp_of (by simp [am_bi0, am_bi1] at *; omega)) ?_
          refine J_b 4 am_d148 rfl ?_
          refine J_iast (am_d148 rfl) rfl (vp_of (by simp [am_bi0, am_bi1] at *; omega)) ?_
          refine J_b 1 am_d148 rfl ?_
          exact J_iret (am_d148 rfl) rfl rfl (by first | exact ⟨rfl, rfl, rfl⟩ | (exfalso; simp [am_bi0, am_bi1] at *; omega; done) | exact ⟨by simp [*], rfl, rfl⟩)
      · refine J_b 1 am_d148 rfl ?_
        exact J_iret (am_d148 rfl) rfl rfl (by first | exact ⟨rfl, rfl, rfl⟩ | (exfalso; simp [am_bi0, am_bi1] at *; omega; done) | exact ⟨by simp [*], rfl, rfl⟩)
  · refine J_b 1 am_d148 rfl ?_
    exact J_iret (am_d148 rfl) rfl rfl (by first | exact ⟨rfl, rfl, rfl⟩ | (exfalso; simp [am_bi0, am_bi1] at *; omega; done) | exact ⟨by simp [*], rfl, rfl⟩)
theorem sp148b {X : am_X} {M : am_M} {N : am_N} {m e n : Int32} (h1 : 0 ≤ m.toInt ∧ m.toInt < 48) (h2 : ¬ ((-3 ≤ e.toInt ∧ e.toInt ≤ 3) ∧ (-3 ≤ n.toInt ∧ n.toInt ≤ 3))) : am_J X (am_eq (some (.int (-2))) (M) N) 148 0 (am_en 148 [.ref 120, .int m, .int e, .int n]) [] M N := by
  refine J_en (L := [.ref 120, .int m, .int e, .int n, .retAddr 0]) rfl ?_
  refine J_b 4 am_d148 rfl ?_
  refine J_S3s 140 (am_d148 rfl) rfl rfl (sp140) ?_
  refine J_if_ne 14 (am_d148 rfl) rfl (fun h9 => ?_) (fun h9 => ?_)
  · refine J_b 4 am_d148 rfl ?_
    refine J_S3s 140 (am_d148 rfl) rfl rfl (sp140) ?_
    refine J_if_eq 42 (am_d148 rfl) rfl (fun h25 => ?_) (fun h25 => ?_)
    · refine J_b 1 am_d148 rfl ?_
      exact J_iret (am_d148 rfl) rfl rfl (by first | exact ⟨rfl, rfl, rfl⟩ | (exfalso; simp [am_bi0, am_bi1] at *; omega; done) | exact ⟨by simp [*], rfl, rfl⟩)
    · refine J_b 4 am_d148 rfl ?_
      refine J_S3s 140 (am_d148 rfl) rfl rfl (sp140) ?_
      refine J_if_ne 45 (am_d148 rfl) rfl (fun h39 => ?_) (fun h39 => ?_)
      · refine J_b 3 am_d148 rfl ?_
        refine J_zald (am_d148 rfl) rfl (vp_of (by simp [am_bi0, am_bi1] at *; omega)) ?_
        refine J_if_eq 58 (am_d148 rfl) rfl (fun h51 => ?_) (fun h51 => ?_)
        · refine J_b 6 am_d148 rfl ?_
          refine J_zast (am_d148 rfl) rfl (vp_of (by simp [am_bi0, am_bi1] at *; omega)) ?_
          refine J_b 4 am_d148 rfl ?_
          refine J_iast (am_d148 rfl) rfl (vp_of (by simp [am_bi0, am_bi1] at *; omega)) ?_
          refine J_b 4 am_d148 rfl ?_
          refine J_iast (am_d148 rfl) rfl (vp_of (by simp [am_bi0, am_bi1] at *; omega)) ?_
          refine J_b 1 am_d148 rfl ?_
          exact J_iret (am_d148 rfl) rfl rfl (by first | exact ⟨rfl, rfl, rfl⟩ | (exfalso; simp [am_bi0, am_bi1] at *; omega; done) | exact ⟨by simp [*], rfl, rfl⟩)
        · refine J_b 7 am_d148 rfl ?_
          refine J_zast (am_d148 rfl) rfl (vp_of (by simp [am_bi0, am_bi1] at *; omega)) ?_
          refine J_b 4 am_d148 rfl ?_
          refine J_iast (am_d148 rfl) rfl (vp_of (by simp [am_bi0, am_bi1] at *; omega)) ?_
          refine J_b 4 am_d148 rfl ?_
          refine J_iast (am_d148 rfl) rfl (vp_of (by simp [am_bi0, am_bi1] at *; omega)) ?_
          refine J_b 1 am_d148 rfl ?_
          exact J_iret (am_d148 rfl) rfl rfl (by first | exact ⟨rfl, rfl, rfl⟩ | (exfalso; simp [am_bi0, am_bi1] at *; omega; done) | exact ⟨by simp [*], rfl, rfl⟩)
      · refine J_b 1 am_d148 rfl ?_
        exact J_iret (am_d148 rfl) rfl rfl (by first | exact ⟨rfl, rfl, rfl⟩ | (exfalso; simp [am_bi0, am_bi1] at *; omega; done) | exact ⟨by simp [*], rfl, rfl⟩)
  · refine J_b 1 am_d148 rfl ?_
    exact J_iret (am_d148 rfl) rfl rfl (by first | exact ⟨rfl, rfl, rfl⟩ | (exfalso; simp [am_bi0, am_bi1] at *; omega; done) | exact ⟨by simp [*], rfl, rfl⟩)
theorem sp148c {X : am_X} {M : am_M} {N : am_N} {m e n : Int32} (h1 : 0 ≤ m.toInt ∧ m.toInt < 48) (h2 : (-3 ≤ e.toInt ∧ e.toInt ≤ 3) ∧ (-3 ≤ n.toInt ∧ n.toInt ≤ 3)) : am_J X (am_eq (some (.int (if M 135 m.toNatClampNeg = 0 then 0 else 1))) (am_up (am_up (am_up M 135 m.toNatClampNeg (vp_nar .boolean 1)) 133 m.toNatClampNeg e) 134 m.toNatClampNeg n) N) 148 0 (am_en 148 [.ref 120, .int m, .int e, .int n]) [] M N := by
  refine J_en (L := [.ref 120, .int m, .int e, .int n, .retAddr 0]) rfl ?_
  refine J_b 4 am_d148 rfl ?_
  refine J_S3s 140 (am_d148 rfl) rfl rfl (sp140) ?_
  refine J_if_ne 14 (am_d148 rfl) rfl (fun h9 => ?_) (fun h9 => ?_)
  · refine J_b 4 am_d148 rfl ?_
    refine J_S3s 140 (am_d148 rfl) rfl rfl (sp140) ?_
    refine J_if_eq 42 (am_d148 rfl) rfl (fun h25 => ?_) (fun h25 => ?_)
    · refine J_b 1 am_d148 rfl ?_
      exact J_iret (am_d148 rfl) rfl rfl (by first | exact ⟨rfl, rfl, rfl⟩ | (exfalso; simp [am_bi0, am_bi1] at *; omega; done) | exact ⟨by simp [*], rfl, rfl⟩)
    · refine J_b 4 am_d148 rfl ?_
      refine J_S3s 140 (am_d148 rfl) rfl rfl (sp140) ?_
      refine J_if_ne 45 (am_d148 rfl) rfl (fun h39 => ?_) (fun h39 => ?_)
      · refine J_b 3 am_d148 rfl ?_
        refine J_zald (am_d148 rfl) rfl (vp_of (by simp [am_bi0, am_bi1] at *; omega)) ?_
        refine J_if_eq 58 (am_d148 rfl) rfl (fun h51 => ?_) (fun h51 => ?_)
        · refine J_b 6 am_d148 rfl ?_
          refine J_zast (am_d148 rfl) rfl (vp_of (by simp [am_bi0, am_bi1] at *; omega)) ?_
          refine J_b 4 am_d148 rfl ?_
          refine J_iast (am_d148 rfl) rfl (vp_of (by simp [am_bi0, am_bi1] at *; omega)) ?_
          refine J_b 4 am_d148 rfl ?_
          refine J_iast (am_d148 rfl) rfl (vp_of (by simp [am_bi0, am_bi1] at *; omega)) ?_
          refine J_b 1 am_d148 rfl ?_
          exact J_iret (am_d148 rfl) rfl rfl (by first | exact ⟨rfl, rfl, rfl⟩ | (exfalso; simp [am_bi0, am_bi1] at *; omega; done) | exact ⟨by simp [*], rfl, rfl⟩)
        · refine J_b 7 am_d148 rfl ?_
          refine J_zast (am_d148 rfl) rfl (vp_of (by simp [am_bi0, am_bi1] at *; omega)) ?_
          refine J_b 4 am_d148 rfl ?_
          refine J_iast (am_d148 rfl) rfl (vp_of (by simp [am_bi0, am_bi1] at *; omega)) ?_
          refine J_b 4 am_d148 rfl ?_
          refine J_iast (am_d148 rfl) rfl (vp_of (by simp [am_bi0, am_bi1] at *; omega)) ?_
          refine J_b 1 am_d148 rfl ?_
          exact J_iret (am_d148 rfl) rfl rfl (by first | exact ⟨rfl, rfl, rfl⟩ | (exfalso; simp [am_bi0, am_bi1] at *; omega; done) | exact ⟨by simp [*], rfl, rfl⟩)
      · refine J_b 1 am_d148 rfl ?_
        exact J_iret (am_d148 rfl) rfl rfl (by first | exact ⟨rfl, rfl, rfl⟩ | (exfalso; simp [am_bi0, am_bi1] at *; omega; done) | exact ⟨by simp [*], rfl, rfl⟩)
  · refine J_b 1 am_d148 rfl ?_
    exact J_iret (am_d148 rfl) rfl rfl (by first | exact ⟨rfl, rfl, rfl⟩ | (exfalso; simp [am_bi0, am_bi1] at *; omega; done) | exact ⟨by simp [*], rfl, rfl⟩)
theorem sp26a {X : am_X} {M : am_M} {N : am_N} {m : Int32} (h1 : ¬ (0 ≤ m.toInt ∧ m.toInt < 48)) : am_J X (am_eq (some (.int (-1))) (M) N) 26 0 (am_en 26 [.ref 0, .int m]) [] M N := by
  refine J_en (L := [.ref 0, .int m]) rfl ?_
  refine J_b 2 am_d26 rfl ?_
  refine J_S2s 13 (am_d26 rfl) rfl rfl (sp13) ?_
  refine J_if_ne 11 (am_d26 rfl) rfl (fun h6 => ?_) (fun h6 => ?_)
  · refine J_b 6 am_d26 rfl ?_
    refine J_V4s 25 (am_d26 rfl) rfl rfl (sp25 (vp_of (by simp [am_bi0, am_bi1] at *; omega))) ?_
    exact J_iret (am_d26 rfl) rfl rfl (by first | exact ⟨rfl, rfl, rfl⟩ | (exfalso; simp [am_bi0, am_bi1] at *; omega))
  · refine J_b 1 am_d26 rfl ?_
    exact J_iret (am_d26 rfl) rfl rfl (by first | exact ⟨rfl, rfl, rfl⟩ | (exfalso; simp [am_bi0, am_bi1] at *; omega))
theorem sp26c {X : am_X} {M : am_M} {N : am_N} {m : Int32} (h1 : 0 ≤ m.toInt ∧ m.toInt < 48) : am_J X (am_eq (some (.int (if M 14 m.toNatClampNeg = 0 then 0 else 1))) (am_up (am_up (am_up (am_up M 14 m.toNatClampNeg (vp_nar .boolean 0)) 15 m.toNatClampNeg 0) 16 m.toNatClampNeg 0) 1 11 (M 1 11 + 1)) N) 26 0 (am_en 26 [.ref 0, .int m]) [] M N := by
  refine J_en (L := [.ref 0, .int m]) rfl ?_
  refine J_b 2 am_d26 rfl ?_
  refine J_S2s 13 (am_d26 rfl) rfl rfl (sp13) ?_
  refine J_if_ne 11 (am_d26 rfl) rfl (fun h6 => ?_) (fun h6 => ?_)
  · refine J_b 6 am_d26 rfl ?_
    refine J_V4s 25 (am_d26 rfl) rfl rfl (sp25 (vp_of (by simp [am_bi0, am_bi1] at *; omega))) ?_
    exact J_iret (am_d26 rfl) rfl rfl (by first | exact ⟨rfl, rfl, rfl⟩ | (exfalso; simp [am_bi0, am_bi1] at *; omega))
  · refine J_b 1 am_d26 rfl ?_
    exact J_iret (am_d26 rfl) rfl rfl (by first | exact ⟨rfl, rfl, rfl⟩ | (exfalso; simp [am_bi0, am_bi1] at *; omega))
theorem sp149a {X : am_X} {M : am_M} {N : am_N} {m : Int32} (h1 : ¬ (0 ≤ m.toInt ∧ m.toInt < 48)) : am_J X (am_eq (some (.int (-1))) (M) N) 149 0 (am_en 149 [.ref 120, .int m]) [] M N := by
  refine J_en (L := [.ref 120, .int m, .retAddr 0]) rfl ?_
  refine J_b 4 am_d149 rfl ?_
  refine J_S3s 140 (am_d149 rfl) rfl rfl (sp140) ?_
  refine J_if_ne 14 (am_d149 rfl) rfl (fun h9 => ?_) (fun h9 => ?_)
  · refine J_b 3 am_d149 rfl ?_
    refine J_zald (am_d149 rfl) rfl (vp_of (by simp [am_bi0, am_bi1] at *; omega)) ?_
    refine J_if_eq 27 (am_d149 rfl) rfl (fun h20 => ?_) (fun h20 => ?_)
    · refine J_b 6 am_d149 rfl ?_
      refine J_zast (am_d149 rfl) rfl (vp_of (by simp [am_bi0, am_bi1] at *; omega)) ?_
      refine J_b 1 am_d149 rfl ?_
      exact J_iret (am_d149 rfl) rfl rfl (by first | exact ⟨rfl, rfl, rfl⟩ | (exfalso; simp [am_bi0, am_bi1] at *; omega; done) | exact ⟨by simp [*], rfl, rfl⟩)
    · refine J_b 7 am_d149 rfl ?_
      refine J_zast (am_d149 rfl) rfl (vp_of (by simp [am_bi0, am_bi1] at *; omega)) ?_
      refine J_b 1 am_d149 rfl ?_
      exact J_iret (am_d149 rfl) rfl rfl (by first | exact ⟨rfl, rfl, rfl⟩ | (exfalso; simp [am_bi0, am_bi1] at *; omega; done) | exact ⟨by simp [*], rfl, rfl⟩)
  · refine J_b 1 am_d149 rfl ?_
    exact J_iret (am_d149 rfl) rfl rfl (by first | exact ⟨rfl, rfl, rfl⟩ | (exfalso; simp [am_bi0, am_bi1] at *; omega; done) | exact ⟨by simp [*], rfl, rfl⟩)
theorem sp149c {X : am_X} {M : am_M} {N : am_N} {m : Int32} (h1 : 0 ≤ m.toInt ∧ m.toInt < 48) : am_J X (am_eq (some (.int (if M 135 m.toNatClampNeg = 0 then 0 else 1))) (am_up M 135 m.toNatClampNeg (vp_nar .boolean 0)) N) 149 0 (am_en 149 [.ref 120, .int m]) [] M N := by
  refine J_en (L := [.ref 120, .int m, .retAddr 0]) rfl ?_
  refine J_b 4 am_d149 rfl ?_
  refine J_S3s 140 (am_d149 rfl) rfl rfl (sp140) ?_
  refine J_if_ne 14 (am_d149 rfl) rfl (fun h9 => ?_) (fun h9 => ?_)
  · refine J_b 3 am_d149 rfl ?_
    refine J_zald (am_d149 rfl) rfl (vp_of (by simp [am_bi0, am_bi1] at *; omega)) ?_
    refine J_if_eq 27 (am_d149 rfl) rfl (fun h20 => ?_) (fun h20 => ?_)
    · refine J_b 6 am_d149 rfl ?_
      refine J_zast (am_d149 rfl) rfl (vp_of (by simp [am_bi0, am_bi1] at *; omega)) ?_
      refine J_b 1 am_d149 rfl ?_
      exact J_iret (am_d149 rfl) rfl rfl (by first | exact ⟨rfl, rfl, rfl⟩ | (exfalso; simp [am_bi0, am_bi1] at *; omega; done) | exact ⟨by simp [*], rfl, rfl⟩)
    · refine J_b 7 am_d149 rfl ?_
      refine J_zast (am_d149 rfl) rfl (vp_of (by simp [am_bi0, am_bi1] at *; omega)) ?_
      refine J_b 1 am_d149 rfl ?_
      exact J_iret (am_d149 rfl) rfl rfl (by first | exact ⟨rfl, rfl, rfl⟩ | (exfalso; simp [am_bi0, am_bi1] at *; omega; done) | exact ⟨by simp [*], rfl, rfl⟩)
  · refine J_b 1 am_d149 rfl ?_
    exact J_iret (am_d149 rfl) rfl rfl (by first | exact ⟨rfl, rfl, rfl⟩ | (exfalso; simp [am_bi0, am_bi1] at *; omega; done) | exact ⟨by simp [*], rfl, rfl⟩)
def P_sp (x : Int32) : Prop := ¬ x < 0 ∧ ¬ 6 < x / 10 ∧ ¬ 6 < x - x / 10 * 10 ∧ ¬ x - x / 10 * 10 < x / 10
theorem P_sp_b {x : Int32} (h : P_sp x) : b_in (x / 10 - 3) (-3) 3 ∧ b_in (x - x / 10 * 10 - 3) (-3) 3 := by
  obtain ⟨h1, h2, h3, h4⟩ := h
  simp only [Int32.lt_iff_toInt_lt] at h1 h2 h3 h4
  have z : (0 : Int32).toInt = 0 := rfl
  have z3 : (3 : Int32).toInt = 3 := rfl
  have z6 : (6 : Int32).toInt = 6 := rfl
  have e1 := I_div10 (a := x) (by omega)
  have e2 := I_rem10 (a := x) (by omega)
  unfold b_in
  rw [I_sub (by omega), I_sub (by omega)]
  omega
theorem I_12 {r m : Int32} (h1 : 0 ≤ r.toInt ∧ r.toInt < 3) (h2 : 0 ≤ m.toInt ∧ m.toInt < 12) : vp_in (r * 12 + m) 36 ∧ vp_in (12 * r + m) 36 := by
  have z : (12 : Int32).toInt = 12 := rfl
  have e1 : (r * 12).toInt = r.toInt * 12 := by rw [I_mul (by rw [z]; omega), z]
  have e2 : (12 * r).toInt = r.toInt * 12 := by rw [I_mul (by rw [z]; omega), z]; omega
  refine ⟨vp_of ?_, vp_of ?_⟩ <;> (rw [I_add (by omega)]; omega)
theorem sp18a {X : am_X} {M : am_M} {N : am_N} {r m e n : Int32} (h1 : ¬ ((0 ≤ r.toInt ∧ r.toInt < 3) ∧ (0 ≤ m.toInt ∧ m.toInt < 12))) : am_J X (am_eq (some (.int (-1))) (M) N) 18 0 (am_en 18 [.ref 0, .int r, .int m, .int e, .int n]) [] M N := by
  refine J_en (L := [.ref 0, .int r, .int m, .int e, .int n]) rfl ?_
  refine J_b 2 am_d18 rfl ?_
  refine J_S2s 13 (am_d18 rfl) rfl rfl (sp13) ?_
  refine J_if_eq 17 (am_d18 rfl) rfl (fun h5 => ?_) (fun h5 => ?_)
  · refine J_b 1 am_d18 rfl ?_
    exact J_iret (am_d18 rfl) rfl rfl (by first | exact ⟨rfl, rfl, rfl⟩ | (exfalso; first | (simp [am_bi0, am_bi1] at *; omega) | (simp only [am_bi0, am_bi1, P_sp] at *; simp_all)))
  · refine J_b 2 am_d18 rfl ?_
    refine J_S2s 13 (am_d18 rfl) rfl rfl (sp13) ?_
    refine J_if_ne 19 (am_d18 rfl) rfl (fun h14 => ?_) (fun h14 => ?_)
    · refine J_b 1 am_d18 rfl ?_
      refine J_S1s 19 (am_d18 rfl) rfl rfl (sp19) ?_
      refine J_if_eq 34 (am_d18 rfl) rfl (fun h23 => ?_) (fun h23 => ?_)
      · refine J_b 1 am_d18 rfl ?_
        exact J_iret (am_d18 rfl) rfl rfl (by first | exact ⟨rfl, rfl, rfl⟩ | (exfalso; first | (simp [am_bi0, am_bi1] at *; omega) | (simp only [am_bi0, am_bi1, P_sp] at *; simp_all)))
      · refine J_b 1 am_d18 rfl ?_
        refine J_S1s 19 (am_d18 rfl) rfl rfl (sp19) ?_
        refine J_if_ne 37 (am_d18 rfl) rfl (fun h31 => ?_) (fun h31 => ?_)
        · refine J_b 9 am_d18 rfl ?_
          refine J_V3n 20 (am_d18 rfl) rfl rfl (sp20 (I_12 (by simp [am_bi0, am_bi1] at *; omega) (by simp [am_bi0, am_bi1] at *; omega)).1) ?_
          refine J_b 1 am_d18 rfl ?_
          exact J_iret (am_d18 rfl) rfl rfl (by first | exact ⟨rfl, rfl, rfl⟩ | (exfalso; first | (simp [am_bi0, am_bi1] at *; omega) | (simp only [am_bi0, am_bi1, P_sp] at *; simp_all)))
        · refine J_b 1 am_d18 rfl ?_
          exact J_iret (am_d18 rfl) rfl rfl (by first | exact ⟨rfl, rfl, rfl⟩ | (exfalso; first | (simp [am_bi0, am_bi1] at *; omega) | (simp only [am_bi0, am_bi1, P_sp] at *; simp_all)))
    · refine J_b 1 am_d18 rfl ?_
      exact J_iret (am_d18 rfl) rfl rfl (by first | exact ⟨rfl, rfl, rfl⟩ | (exfalso; first | (simp [am_bi0, am_bi1] at *; omega) | (simp only [am_bi0, am_bi1, P_sp] at *; simp_all)))
theorem sp18b {X : am_X} {M : am_M} {N : am_N} {r m e n : Int32} (h1 : (0 ≤ r.toInt ∧ r.toInt < 3) ∧ (0 ≤ m.toInt ∧ m.toInt < 12)) (h2 : ¬ (P_sp e ∧ P_sp n)) : am_J X (am_eq (some (.int (-2))) (M) N) 18 0 (am_en 18 [.ref 0, .int r, .int m, .int e, .int n]) [] M N := by
  refine J_en (L := [.ref 0, .int r, .int m, .int e, .int n]) rfl ?_
  refine J_b 2 am_d18 rfl ?_
  refine J_S2s 13 (am_d18 rfl) rfl rfl (sp13) ?_
  refine J_if_eq 17 (am_d18 rfl) rfl (fun h5 => ?_) (fun h5 => ?_)
  · refine J_b 1 am_d18 rfl ?_
    exact J_iret (am_d18 rfl) rfl rfl (by first | exact ⟨rfl, rfl, rfl⟩ | (exfalso; first | (simp [am_bi0, am_bi1] at *; omega) | (simp only [am_bi0, am_bi1, P_sp] at *; simp_all)))
  · refine J_b 2 am_d18 rfl ?_
    refine J_S2s 13 (am_d18 rfl) rfl rfl (sp13) ?_
    refine J_if_ne 19 (am_d18 rfl) rfl (fun h14 => ?_) (fun h14 => ?_)
    · refine J_b 1 am_d18 rfl ?_
      refine J_S1s 19 (am_d18 rfl) rfl rfl (sp19) ?_
      refine J_if_eq 34 (am_d18 rfl) rfl (fun h23 => ?_) (fun h23 => ?_)
      · refine J_b 1 am_d18 rfl ?_
        exact J_iret (am_d18 rfl) rfl rfl (by first | exact ⟨rfl, rfl, rfl⟩ | (exfalso; first | (simp [am_bi0, am_bi1] at *; omega) | (simp only [am_bi0, am_bi1, P_sp] at *; simp_all)))
      · refine J_b 1 am_d18 rfl ?_
        refine J_S1s 19 (am_d18 rfl) rfl rfl (sp19) ?_
        refine J_if_ne 37 (am_d18 rfl) rfl (fun h31 => ?_) (fun h31 => ?_)
        · refine J_b 9 am_d18 rfl ?_
          refine J_V3n 20 (am_d18 rfl) rfl rfl (sp20 (I_12 (by simp [am_bi0, am_bi1] at *; omega) (by simp [am_bi0, am_bi1] at *; omega)).1) ?_
          refine J_b 1 am_d18 rfl ?_
          exact J_iret (am_d18 rfl) rfl rfl (by first | exact ⟨rfl, rfl, rfl⟩ | (exfalso; first | (simp [am_bi0, am_bi1] at *; omega) | (simp only [am_bi0, am_bi1, P_sp] at *; simp_all)))
        · refine J_b 1 am_d18 rfl ?_
          exact J_iret (am_d18 rfl) rfl rfl (by first | exact ⟨rfl, rfl, rfl⟩ | (exfalso; first | (simp [am_bi0, am_bi1] at *; omega) | (simp only [am_bi0, am_bi1, P_sp] at *; simp_all)))
    · refine J_b 1 am_d18 rfl ?_
      exact J_iret (am_d18 rfl) rfl rfl (by first | exact ⟨rfl, rfl, rfl⟩ | (exfalso; first | (simp [am_bi0, am_bi1] at *; omega) | (simp only [am_bi0, am_bi1, P_sp] at *; simp_all)))
theorem sp18c {X : am_X} {M : am_M} {N : am_N} {r m e n : Int32} (h1 : (0 ≤ r.toInt ∧ r.toInt < 3) ∧ (0 ≤ m.toInt ∧ m.toInt < 12)) (h2 : P_sp e ∧ P_sp n) : am_J X (am_eq (some (.int 0)) (am_up (am_up (am_up (am_up (am_up M 8 (r * 12 + m).toNatClampNeg (e / 10 - 3)) 9 (r * 12 + m).toNatClampNeg (e - e / 10 * 10 - 3)) 10 (r * 12 + m).toNatClampNeg (n / 10 - 3)) 11 (r * 12 + m).toNatClampNeg (n - n / 10 * 10 - 3)) 1 11 (M 1 11 + 1)) N) 18 0 (am_en 18 [.ref 0, .int r, .int m, .int e, .int n]) [] M N := by
  refine J_en (L := [.ref 0, .int r, .int m, .int e, .int n]) rfl ?_
  refine J_b 2 am_d18 rfl ?_
  refine J_S2s 13 (am_d18 rfl) rfl rfl (sp13) ?_
  refine J_if_eq 17 (am_d18 rfl) rfl (fun h5 => ?_) (fun h5 => ?_)
  · refine J_b 1 am_d18 rfl ?_
    exact J_iret (am_d18 rfl) rfl rfl (by first | exact ⟨rfl, rfl, rfl⟩ | (exfalso; first | (simp [am_bi0, am_bi1] at *; omega) | (simp only [am_bi0, am_bi1, P_sp] at *; simp_all)))
  · refine J_b 2 am_d18 rfl ?_
    refine J_S2s 13 (am_d18 rfl) rfl rfl (sp13) ?_
    refine J_if_ne 19 (am_d18 rfl) rfl (fun h14 => ?_) (fun h14 => ?_)
    · refine J_b 1 am_d18 rfl ?_
      refine J_S1s 19 (am_d18 rfl) rfl rfl (sp19) ?_
      refine J_if_eq 34 (am_d18 rfl) rfl (fun h23 => ?_) (fun h23 => ?_)
      · refine J_b 1 am_d18 rfl ?_
        exact J_iret (am_d18 rfl) rfl rfl (by first | exact ⟨rfl, rfl, rfl⟩ | (exfalso; first | (simp [am_bi0, am_bi1] at *; omega) | (simp only [am_bi0, am_bi1, P_sp] at *; simp_all)))
      · refine J_b 1 am_d18 rfl ?_
        refine J_S1s 19 (am_d18 rfl) rfl rfl (sp19) ?_
        refine J_if_ne 37 (am_d18 rfl) rfl (fun h31 => ?_) (fun h31 => ?_)
        · refine J_b 9 am_d18 rfl ?_
          refine J_V3n 20 (am_d18 rfl) rfl rfl (sp20 (I_12 (by simp [am_bi0, am_bi1] at *; omega) (by simp [am_bi0, am_bi1] at *; omega)).1) ?_
          refine J_b 1 am_d18 rfl ?_
          exact J_iret (am_d18 rfl) rfl rfl (by first | exact ⟨rfl, rfl, rfl⟩ | (exfalso; first | (simp [am_bi0, am_bi1] at *; omega) | (simp only [am_bi0, am_bi1, P_sp] at *; simp_all)))
        · refine J_b 1 am_d18 rfl ?_
          exact J_iret (am_d18 rfl) rfl rfl (by first | exact ⟨rfl, rfl, rfl⟩ | (exfalso; first | (simp [am_bi0, am_bi1] at *; omega) | (simp only [am_bi0, am_bi1, P_sp] at *; simp_all)))
    · refine J_b 1 am_d18 rfl ?_
      exact J_iret (am_d18 rfl) rfl rfl (by first | exact ⟨rfl, rfl, rfl⟩ | (exfalso; first | (simp [am_bi0, am_bi1] at *; omega) | (simp only [am_bi0, am_bi1, P_sp] at *; simp_all)))
theorem sp145a {X : am_X} {M : am_M} {N : am_N} {r m e n : Int32} (h1 : ¬ ((0 ≤ r.toInt ∧ r.toInt < 3) ∧ (0 ≤ m.toInt ∧ m.toInt < 12))) : am_J X (am_eq (some (.int (-1))) (M) N) 145 0 (am_en 145 [.ref 120, .int r, .int m, .int e, .int n]) [] M N := by
  refine J_en (L := [.ref 120, .int r, .int m, .int e, .int n, .retAddr 0]) rfl ?_
  refine J_b 4 am_d145 rfl ?_
  refine J_S3s 140 (am_d145 rfl) rfl rfl (sp140) ?_
  refine J_if_eq 24 (am_d145 rfl) rfl (fun h9 => ?_) (fun h9 => ?_)
  · refine J_b 1 am_d145 rfl ?_
    exact J_iret (am_d145 rfl) rfl rfl (by first | exact ⟨rfl, rfl, rfl⟩ | (exfalso; first | (simp [am_bi0, am_bi1] at *; omega) | (simp only [am_bi0, am_bi1, P_sp] at *; simp_all)))
  · refine J_b 4 am_d145 rfl ?_
    refine J_S3s 140 (am_d145 rfl) rfl rfl (sp140) ?_
    refine J_if_ne 26 (am_d145 rfl) rfl (fun h21 => ?_) (fun h21 => ?_)
    · refine J_b 1 am_d145 rfl ?_
      refine J_S1s 146 (am_d145 rfl) rfl rfl (sp146) ?_
      refine J_if_eq 41 (am_d145 rfl) rfl (fun h30 => ?_) (fun h30 => ?_)
      · refine J_b 1 am_d145 rfl ?_
        exact J_iret (am_d145 rfl) rfl rfl (by first | exact ⟨rfl, rfl, rfl⟩ | (exfalso; first | (simp [am_bi0, am_bi1] at *; omega) | (simp only [am_bi0, am_bi1, P_sp] at *; simp_all)))
      · refine J_b 1 am_d145 rfl ?_
        refine J_S1s 146 (am_d145 rfl) rfl rfl (sp146) ?_
        refine J_if_ne 44 (am_d145 rfl) rfl (fun h38 => ?_) (fun h38 => ?_)
        · refine J_b 14 am_d145 rfl ?_
          refine J_iast (am_d145 rfl) rfl ((I_12 (by simp [am_bi0, am_bi1] at *; omega) (by simp [am_bi0, am_bi1] at *; omega)).2) ?_
          refine J_b 8 am_d145 rfl ?_
          refine J_iast (am_d145 rfl) rfl ((I_12 (by simp [am_bi0, am_bi1] at *; omega) (by simp [am_bi0, am_bi1] at *; omega)).2) ?_
          refine J_b 8 am_d145 rfl ?_
          refine J_iast (am_d145 rfl) rfl ((I_12 (by simp [am_bi0, am_bi1] at *; omega) (by simp [am_bi0, am_bi1] at *; omega)).2) ?_
          refine J_b 8 am_d145 rfl ?_
          refine J_iast (am_d145 rfl) rfl ((I_12 (by simp [am_bi0, am_bi1] at *; omega) (by simp [am_bi0, am_bi1] at *; omega)).2) ?_
          refine J_b 1 am_d145 rfl ?_
          exact J_iret (am_d145 rfl) rfl rfl (by first | exact ⟨rfl, rfl, rfl⟩ | (exfalso; first | (simp [am_bi0, am_bi1] at *; omega) | (simp only [am_bi0, am_bi1, P_sp] at *; simp_all)))
        · refine J_b 1 am_d145 rfl ?_
          exact J_iret (am_d145 rfl) rfl rfl (by first | exact ⟨rfl, rfl, rfl⟩ | (exfalso; first | (simp [am_bi0, am_bi1] at *; omega) | (simp only [am_bi0, am_bi1, P_sp] at *; simp_all)))
    · refine J_b 1 am_d145 rfl ?_
      exact J_iret (am_d145 rfl) rfl rfl (by first | exact ⟨rfl, rfl, rfl⟩ | (exfalso; first | (simp [am_bi0, am_bi1] at *; omega) | (simp only [am_bi0, am_bi1, P_sp] at *; simp_all)))
theorem sp145b {X : am_X} {M : am_M} {N : am_N} {r m e n : Int32} (h1 : (0 ≤ r.toInt ∧ r.toInt < 3) ∧ (0 ≤ m.toInt ∧ m.toInt < 12)) (h2 : ¬ (P_sp e ∧ P_sp n)) : am_J X (am_eq (some (.int (-2))) (M) N) 145 0 (am_en 145 [.ref 120, .int r, .int m, .int e, .int n]) [] M N := by
  refine J_en (L := [.ref 120, .int r, .int m, .int e, .int n, .retAddr 0]) rfl ?_
  refine J_b 4 am_d145 rfl ?_
  refine J_S3s 140 (am_d145 rfl) rfl rfl (sp140) ?_
  refine J_if_eq 24 (am_d145 rfl) rfl (fun h9 => ?_) (fun h9 => ?_)
  · refine J_b 1 am_d145 rfl ?_
    exact J_iret (am_d145 rfl) rfl rfl (by first | exact ⟨rfl, rfl, rfl⟩ | (exfalso; first | (simp [am_bi0, am_bi1] at *; omega) | (simp only [am_bi0, am_bi1, P_sp] at *; simp_all)))
  · refine J_b 4 am_d145 rfl ?_
    refine J_S3s 140 (am_d145 rfl) rfl rfl (sp140) ?_
    refine J_if_ne 26 (am_d145 rfl) rfl (fun h21 => ?_) (fun h21 => ?_)
    · refine J_b 1 am_d145 rfl ?_
      refine J_S1s 146 (am_d145 rfl) rfl rfl (sp146) ?_
      refine J_if_eq 41 (am_d145 rfl) rfl (fun h30 => ?_) (fun h30 => ?_)
      · refine J_b 1 am_d145 rfl ?_
        exact J_iret (am_d145 rfl) rfl rfl (by first | exact ⟨rfl, rfl, rfl⟩ | (exfalso; first | (simp [am_bi0, am_bi1] at *; omega) | (simp only [am_bi0, am_bi1, P_sp] at *; simp_all)))
      · refine J_b 1 am_d145 rfl ?_
        refine J_S1s 146 (am_d145 rfl) rfl rfl (sp146) ?_
        refine J_if_ne 44 (am_d145 rfl) rfl (fun h38 => ?_) (fun h38 => ?_)
        · refine J_b 14 am_d145 rfl ?_
          refine J_iast (am_d145 rfl) rfl ((I_12 (by simp [am_bi0, am_bi1] at *; omega) (by simp [am_bi0, am_bi1] at *; omega)).2) ?_
          refine J_b 8 am_d145 rfl ?_
          refine J_iast (am_d145 rfl) rfl ((I_12 (by simp [am_bi0, am_bi1] at *; omega) (by simp [am_bi0, am_bi1] at *; omega)).2) ?_
          refine J_b 8 am_d145 rfl ?_
          refine J_iast (am_d145 rfl) rfl ((I_12 (by simp [am_bi0, am_bi1] at *; omega) (by simp [am_bi0, am_bi1] at *; omega)).2) ?_
          refine J_b 8 am_d145 rfl ?_
          refine J_iast (am_d145 rfl) rfl ((I_12 (by simp [am_bi0, am_bi1] at *; omega) (by simp [am_bi0, am_bi1] at *; omega)).2) ?_
          refine J_b 1 am_d145 rfl ?_
          exact J_iret (am_d145 rfl) rfl rfl (by first | exact ⟨rfl, rfl, rfl⟩ | (exfalso; first | (simp [am_bi0, am_bi1] at *; omega) | (simp only [am_bi0, am_bi1, P_sp] at *; simp_all)))
        · refine J_b 1 am_d145 rfl ?_
          exact J_iret (am_d145 rfl) rfl rfl (by first | exact ⟨rfl, rfl, rfl⟩ | (exfalso; first | (simp [am_bi0, am_bi1] at *; omega) | (simp only [am_bi0, am_bi1, P_sp] at *; simp_all)))
    · refine J_b 1 am_d145 rfl ?_
      exact J_iret (am_d145 rfl) rfl rfl (by first | exact ⟨rfl, rfl, rfl⟩ | (exfalso; first | (simp [am_bi0, am_bi1] at *; omega) | (simp only [am_bi0, am_bi1, P_sp] at *; simp_all)))
theorem sp145c {X : am_X} {M : am_M} {N : am_N} {r m e n : Int32} (h1 : (0 ≤ r.toInt ∧ r.toInt < 3) ∧ (0 ≤ m.toInt ∧ m.toInt < 12)) (h2 : P_sp e ∧ P_sp n) : am_J X (am_eq (some (.int 0)) (am_up (am_up (am_up (am_up M 126 (12 * r + m).toNatClampNeg (e / 10 - 3)) 127 (12 * r + m).toNatClampNeg (e - e / 10 * 10 - 3)) 128 (12 * r + m).toNatClampNeg (n / 10 - 3)) 129 (12 * r + m).toNatClampNeg (n - n / 10 * 10 - 3)) N) 145 0 (am_en 145 [.ref 120, .int r, .int m, .int e, .int n]) [] M N := by
  refine J_en (L := [.ref 120, .int r, .int m, .int e, .int n, .retAddr 0]) rfl ?_
  refine J_b 4 am_d145 rfl ?_
  refine J_S3s 140 (am_d145 rfl) rfl rfl (sp140) ?_
  refine J_if_eq 24 (am_d145 rfl) rfl (fun h9 => ?_) (fun h9 => ?_)
  · refine J_b 1 am_d145 rfl ?_
    exact J_iret (am_d145 rfl) rfl rfl (by first | exact ⟨rfl, rfl, rfl⟩ | (exfalso; first | (simp [am_bi0, am_bi1] at *; omega) | (simp only [am_bi0, am_bi1, P_sp] at *; simp_all)))
  · refine J_b 4 am_d145 rfl ?_
    refine J_S3s 140 (am_d145 rfl) rfl rfl (sp140) ?_
    refine J_if_ne 26 (am_d145 rfl) rfl (fun h21 => ?_) (fun h21 => ?_)
    · refine J_b 1 am_d145 rfl ?_
      refine J_S1s 146 (am_d145 rfl) rfl rfl (sp146) ?_
      refine J_if_eq 41 (am_d145 rfl) rfl (fun h30 => ?_) (fun h30 => ?_)
      · refine J_b 1 am_d145 rfl ?_
        exact J_iret (am_d145 rfl) rfl rfl (by first | exact ⟨rfl, rfl, rfl⟩ | (exfalso; first | (simp [am_bi0, am_bi1] at *; omega) | (simp only [am_bi0, am_bi1, P_sp] at *; simp_all)))
      · refine J_b 1 am_d145 rfl ?_
        refine J_S1s 146 (am_d145 rfl) rfl rfl (sp146) ?_
        refine J_if_ne 44 (am_d145 rfl) rfl (fun h38 => ?_) (fun h38 => ?_)
        · refine J_b 14 am_d145 rfl ?_
          refine J_iast (am_d145 rfl) rfl ((I_12 (by simp [am_bi0, am_bi1] at *; omega) (by simp [am_bi0, am_bi1] at *; omega)).2) ?_
          refine J_b 8 am_d145 rfl ?_
          refine J_iast (am_d145 rfl) rfl ((I_12 (by simp [am_bi0, am_bi1] at *; omega) (by simp [am_bi0, am_bi1] at *; omega)).2) ?_
          refine J_b 8 am_d145 rfl ?_
          refine J_iast (am_d145 rfl) rfl ((I_12 (by simp [am_bi0, am_bi1] at *; omega) (by simp [am_bi0, am_bi1] at *; omega)).2) ?_
          refine J_b 8 am_d145 rfl ?_
          refine J_iast (am_d145 rfl) rfl ((I_12 (by simp [am_bi0, am_bi1] at *; omega) (by simp [am_bi0, am_bi1] at *; omega)).2) ?_
          refine J_b 1 am_d145 rfl ?_
          exact J_iret (am_d145 rfl) rfl rfl (by first | exact ⟨rfl, rfl, rfl⟩ | (exfalso; first | (simp [am_bi0, am_bi1] at *; omega) | (simp only [am_bi0, am_bi1, P_sp] at *; simp_all)))
        · refine J_b 1 am_d145 rfl ?_
          exact J_iret (am_d145 rfl) rfl rfl (by first | exact ⟨rfl, rfl, rfl⟩ | (exfalso; first | (simp [am_bi0, am_bi1] at *; omega) | (simp only [am_bi0, am_bi1, P_sp] at *; simp_all)))
    · refine J_b 1 am_d145 rfl ?_
      exact J_iret (am_d145 rfl) rfl rfl (by first | exact ⟨rfl, rfl, rfl⟩ | (exfalso; first | (simp [am_bi0, am_bi1] at *; omega) | (simp only [am_bi0, am_bi1, P_sp] at *; simp_all)))
