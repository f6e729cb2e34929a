/-! ===== about, clock, drop, move, name ===== -/
theorem sp37a {X : am_X} {M : am_M} {N : am_N} {x w : Int32} (h1 : ¬ (0 ≤ x.toInt ∧ x.toInt < (M 18 7).toInt)) : am_J X (am_eq (some (.int (-1))) (M) N) 37 0 (am_en 37 [.ref 0, .int x, .int w]) [] M N := by
  refine J_en (L := [.ref 0, .int x, .int w]) rfl ?_
  refine J_b 4 am_d37 rfl ?_
  refine J_S2s 13 (am_d37 rfl) rfl rfl (sp13) ?_
  refine J_if_ne 16 (am_d37 rfl) rfl (fun h11 => ?_) (fun h11 => ?_)
  · exact absurd (show 0 ≤ x.toInt ∧ x.toInt < (M 18 7).toInt by simp [am_bi0, am_bi1] at * <;> omega) h1
  · refine J_b 1 am_d37 rfl ?_
    exact J_iret (am_d37 rfl) rfl rfl ⟨rfl, rfl, rfl⟩
theorem sp37b {X : am_X} {M : am_M} {N : am_N} {x w : Int32} (h1 : 0 ≤ x.toInt ∧ x.toInt < (M 18 7).toInt) (h2 : w.toInt < 0 ∨ 5 < w.toInt) : am_J X (am_eq (some (.int (-1))) (M) N) 37 0 (am_en 37 [.ref 0, .int x, .int w]) [] M N := by
  refine J_en (L := [.ref 0, .int x, .int w]) rfl ?_
  refine J_b 4 am_d37 rfl ?_
  refine J_S2s 13 (am_d37 rfl) rfl rfl (sp13) ?_
  refine J_if_ne 16 (am_d37 rfl) rfl (fun h11 => ?_) (fun h11 => (by exfalso; simp [am_bi0, am_bi1] at * <;> omega))
  refine J_b 1 am_d37 rfl ?_
  refine J_tsOut 116 (am_d37 rfl) h2 rfl ?_
  refine J_b 1 am_d37 rfl ?_
  exact J_iret (am_d37 rfl) rfl rfl ⟨rfl, rfl, rfl⟩
theorem sp37c_0 {X : am_X} {M : am_M} {N : am_N} {x : Int32} (h1 : 0 ≤ x.toInt ∧ x.toInt < (M 18 7).toInt) (h5 : x.toInt < 5) : am_J X (am_eq (some (.int (M 19 x.toNatClampNeg))) (M) N) 37 0 (am_en 37 [.ref 0, .int x, .int (0 : Int32)]) [] M N := by
  refine J_en (L := [.ref 0, .int x, .int (0 : Int32)]) rfl ?_
  refine J_b 4 am_d37 rfl ?_
  refine J_S2s 13 (am_d37 rfl) rfl rfl (sp13) ?_
  refine J_if_ne 16 (am_d37 rfl) rfl (fun h11 => ?_) (fun h11 => (by exfalso; simp [am_bi0, am_bi1] at * <;> omega))
  refine J_b 1 am_d37 rfl ?_
  refine J_tsIn 56 (am_d37 rfl) (by decide) (by decide) rfl rfl ?_
  refine J_b 4 am_d37 rfl ?_
  refine J_iald (am_d37 rfl) rfl (vp_of (by omega)) ?_
  exact J_iret (am_d37 rfl) rfl rfl ⟨rfl, rfl, rfl⟩
theorem sp37c_1 {X : am_X} {M : am_M} {N : am_N} {x : Int32} (h1 : 0 ≤ x.toInt ∧ x.toInt < (M 18 7).toInt) (h5 : x.toInt < 5) : am_J X (am_eq (some (.int (M 20 x.toNatClampNeg))) (M) N) 37 0 (am_en 37 [.ref 0, .int x, .int (1 : Int32)]) [] M N := by
  refine J_en (L := [.ref 0, .int x, .int (1 : Int32)]) rfl ?_
  refine J_b 4 am_d37 rfl ?_
  refine J_S2s 13 (am_d37 rfl) rfl rfl (sp13) ?_
  refine J_if_ne 16 (am_d37 rfl) rfl (fun h11 => ?_) (fun h11 => (by exfalso; simp [am_bi0, am_bi1] at * <;> omega))
  refine J_b 1 am_d37 rfl ?_
  refine J_tsIn 66 (am_d37 rfl) (by decide) (by decide) rfl rfl ?_
  refine J_b 4 am_d37 rfl ?_
  refine J_iald (am_d37 rfl) rfl (vp_of (by omega)) ?_
  exact J_iret (am_d37 rfl) rfl rfl ⟨rfl, rfl, rfl⟩
theorem sp37c_2 {X : am_X} {M : am_M} {N : am_N} {x : Int32} (h1 : 0 ≤ x.toInt ∧ x.toInt < (M 18 7).toInt) (h5 : x.toInt < 5) : am_J X (am_eq (some (.int (M 21 x.toNatClampNeg))) (M) N) 37 0 (am_en 37 [.ref 0, .int x, .int (2 : Int32)]) [] M N := by
  refine J_en (L := [.ref 0, .int x, .int (2 : Int32)]) rfl ?_
  refine J_b 4 am_d37 rfl ?_
  refine J_S2s 13 (am_d37 rfl) rfl rfl (sp13) ?_
  refine J_if_ne 16 (am_d37 rfl) rfl (fun h11 => ?_) (fun h11 => (by exfalso; simp [am_bi0, am_bi1] at * <;> omega))
  refine J_b 1 am_d37 rfl ?_
  refine J_tsIn 76 (am_d37 rfl) (by decide) (by decide) rfl rfl ?_
  refine J_b 4 am_d37 rfl ?_
  refine J_iald (am_d37 rfl) rfl (vp_of (by omega)) ?_
  exact J_iret (am_d37 rfl) rfl rfl ⟨rfl, rfl, rfl⟩
theorem sp37c_3 {X : am_X} {M : am_M} {N : am_N} {x : Int32} (h1 : 0 ≤ x.toInt ∧ x.toInt < (M 18 7).toInt) (h5 : x.toInt < 5) : am_J X (am_eq (some (.int (M 22 x.toNatClampNeg))) (M) N) 37 0 (am_en 37 [.ref 0, .int x, .int (3 : Int32)]) [] M N := by
  refine J_en (L := [.ref 0, .int x, .int (3 : Int32)]) rfl ?_
  refine J_b 4 am_d37 rfl ?_
  refine J_S2s 13 (am_d37 rfl) rfl rfl (sp13) ?_
  refine J_if_ne 16 (am_d37 rfl) rfl (fun h11 => ?_) (fun h11 => (by exfalso; simp [am_bi0, am_bi1] at * <;> omega))
  refine J_b 1 am_d37 rfl ?_
  refine J_tsIn 86 (am_d37 rfl) (by decide) (by decide) rfl rfl ?_
  refine J_b 4 am_d37 rfl ?_
  refine J_iald (am_d37 rfl) rfl (vp_of (by omega)) ?_
  exact J_iret (am_d37 rfl) rfl rfl ⟨rfl, rfl, rfl⟩
theorem sp37c_4 {X : am_X} {M : am_M} {N : am_N} {x : Int32} (h1 : 0 ≤ x.toInt ∧ x.toInt < (M 18 7).toInt) (h5 : x.toInt < 5) : am_J X (am_eq (some (.int (M 23 x.toNatClampNeg))) (M) N) 37 0 (am_en 37 [.ref 0, .int x, .int (4 : Int32)]) [] M N := by
  refine J_en (L := [.ref 0, .int x, .int (4 : Int32)]) rfl ?_
  refine J_b 4 am_d37 rfl ?_
  refine J_S2s 13 (am_d37 rfl) rfl rfl (sp13) ?_
  refine J_if_ne 16 (am_d37 rfl) rfl (fun h11 => ?_) (fun h11 => (by exfalso; simp [am_bi0, am_bi1] at * <;> omega))
  refine J_b 1 am_d37 rfl ?_
  refine J_tsIn 96 (am_d37 rfl) (by decide) (by decide) rfl rfl ?_
  refine J_b 4 am_d37 rfl ?_
  refine J_iald (am_d37 rfl) rfl (vp_of (by omega)) ?_
  exact J_iret (am_d37 rfl) rfl rfl ⟨rfl, rfl, rfl⟩
theorem sp37c_5 {X : am_X} {M : am_M} {N : am_N} {x : Int32} (h1 : 0 ≤ x.toInt ∧ x.toInt < (M 18 7).toInt) (h5 : x.toInt < 5) : am_J X (am_eq (some (.int (M 24 x.toNatClampNeg))) (M) N) 37 0 (am_en 37 [.ref 0, .int x, .int (5 : Int32)]) [] M N := by
  refine J_en (L := [.ref 0, .int x, .int (5 : Int32)]) rfl ?_
  refine J_b 4 am_d37 rfl ?_
  refine J_S2s 13 (am_d37 rfl) rfl rfl (sp13) ?_
  refine J_if_ne 16 (am_d37 rfl) rfl (fun h11 => ?_) (fun h11 => (by exfalso; simp [am_bi0, am_bi1] at * <;> omega))
  refine J_b 1 am_d37 rfl ?_
  refine J_tsIn 106 (am_d37 rfl) (by decide) (by decide) rfl rfl ?_
  refine J_b 4 am_d37 rfl ?_
  refine J_iald (am_d37 rfl) rfl (vp_of (by omega)) ?_
  exact J_iret (am_d37 rfl) rfl rfl ⟨rfl, rfl, rfl⟩
theorem sp151a {X : am_X} {M : am_M} {N : am_N} {x w : Int32} (h1 : ¬ (0 ≤ x.toInt ∧ x.toInt < (M 120 22).toInt)) : am_J X (am_eq (some (.int (-1))) (M) N) 151 0 (am_en 151 [.ref 120, .int x, .int w]) [] M N := by
  refine J_en (L := [.ref 120, .int x, .int w]) rfl ?_
  refine J_b 2 am_d151 rfl ?_
  refine J_V1s 152 (am_d151 rfl) rfl rfl (sp152) ?_
  refine J_if_ne 10 (am_d151 rfl) rfl (fun h5 => ?_) (fun h5 => ?_)
  · exact absurd (show 0 ≤ x.toInt ∧ x.toInt < (M 120 22).toInt by simp [am_bi0, am_bi1] at * <;> omega) h1
  · refine J_b 1 am_d151 rfl ?_
    exact J_iret (am_d151 rfl) rfl rfl ⟨rfl, rfl, rfl⟩
theorem sp151b {X : am_X} {M : am_M} {N : am_N} {x w : Int32} (h1 : 0 ≤ x.toInt ∧ x.toInt < (M 120 22).toInt) (h2 : w.toInt < 0 ∨ 5 < w.toInt) : am_J X (am_eq (some (.int (-1))) (M) N) 151 0 (am_en 151 [.ref 120, .int x, .int w]) [] M N := by
  refine J_en (L := [.ref 120, .int x, .int w]) rfl ?_
  refine J_b 2 am_d151 rfl ?_
  refine J_V1s 152 (am_d151 rfl) rfl rfl (sp152) ?_
  refine J_if_ne 10 (am_d151 rfl) rfl (fun h5 => ?_) (fun h5 => (by exfalso; simp [am_bi0, am_bi1] at * <;> omega))
  refine J_b 1 am_d151 rfl ?_
  refine J_tsOut 90 (am_d151 rfl) h2 rfl ?_
  refine J_b 1 am_d151 rfl ?_
  exact J_iret (am_d151 rfl) rfl rfl ⟨rfl, rfl, rfl⟩
theorem sp151c_0 {X : am_X} {M : am_M} {N : am_N} {x : Int32} (h1 : 0 ≤ x.toInt ∧ x.toInt < (M 120 22).toInt) (h5 : x.toInt < 5) : am_J X (am_eq (some (.int (M 136 x.toNatClampNeg))) (M) N) 151 0 (am_en 151 [.ref 120, .int x, .int (0 : Int32)]) [] M N := by
  refine J_en (L := [.ref 120, .int x, .int (0 : Int32)]) rfl ?_
  refine J_b 2 am_d151 rfl ?_
  refine J_V1s 152 (am_d151 rfl) rfl rfl (sp152) ?_
  refine J_if_ne 10 (am_d151 rfl) rfl (fun h5 => ?_) (fun h5 => (by exfalso; simp [am_bi0, am_bi1] at * <;> omega))
  refine J_b 1 am_d151 rfl ?_
  refine J_tsIn 48 (am_d151 rfl) (by decide) (by decide) rfl rfl ?_
  refine J_b 3 am_d151 rfl ?_
  refine J_iald (am_d151 rfl) rfl (vp_of (by omega)) ?_
  exact J_iret (am_d151 rfl) rfl rfl ⟨rfl, rfl, rfl⟩
theorem sp151c_1 {X : am_X} {M : am_M} {N : am_N} {x : Int32} (h1 : 0 ≤ x.toInt ∧ x.toInt < (M 120 22).toInt) (h5 : x.toInt < 5) : am_J X (am_eq (some (.int (M 137 x.toNatClampNeg))) (M) N) 151 0 (am_en 151 [.ref 120, .int x, .int (1 : Int32)]) [] M N := by
  refine J_en (L := [.ref 120, .int x, .int (1 : Int32)]) rfl ?_
  refine J_b 2 am_d151 rfl ?_
  refine J_V1s 152 (am_d151 rfl) rfl rfl (sp152) ?_
  refine J_if_ne 10 (am_d151 rfl) rfl (fun h5 => ?_) (fun h5 => (by exfalso; simp [am_bi0, am_bi1] at * <;> omega))
  refine J_b 1 am_d151 rfl ?_
  refine J_tsIn 55 (am_d151 rfl) (by decide) (by decide) rfl rfl ?_
  refine J_b 3 am_d151 rfl ?_
  refine J_iald (am_d151 rfl) rfl (vp_of (by omega)) ?_
  exact J_iret (am_d151 rfl) rfl rfl ⟨rfl, rfl, rfl⟩
theorem sp151c_2 {X : am_X} {M : am_M} {N : am_N} {x : Int32} (h1 : 0 ≤ x.toInt ∧ x.toInt < (M 120 22).toInt) (h5 : x.toInt < 5) : am_J X (am_eq (some (.int (M 138 x.toNatClampNeg))) (M) N) 151 0 (am_en 151 [.ref 120, .int x, .int (2 : Int32)]) [] M N := by
  refine J_en (L := [.ref 120, .int x, .int (2 : Int32)]) rfl ?_
  refine J_b 2 am_d151 rfl ?_
  refine J_V1s 152 (am_d151 rfl) rfl rfl (sp152) ?_
  refine J_if_ne 10 (am_d151 rfl) rfl (fun h5 => ?_) (fun h5 => (by exfalso; simp [am_bi0, am_bi1] at * <;> omega))
  refine J_b 1 am_d151 rfl ?_
  refine J_tsIn 62 (am_d151 rfl) (by decide) (by decide) rfl rfl ?_
  refine J_b 3 am_d151 rfl ?_
  refine J_iald (am_d151 rfl) rfl (vp_of (by omega)) ?_
  exact J_iret (am_d151 rfl) rfl rfl ⟨rfl, rfl, rfl⟩
theorem sp151c_3 {X : am_X} {M : am_M} {N : am_N} {x : Int32} (h1 : 0 ≤ x.toInt ∧ x.toInt < (M 120 22).toInt) (h5 : x.toInt < 5) : am_J X (am_eq (some (.int (M 139 x.toNatClampNeg))) (M) N) 151 0 (am_en 151 [.ref 120, .int x, .int (3 : Int32)]) [] M N := by
  refine J_en (L := [.ref 120, .int x, .int (3 : Int32)]) rfl ?_
  refine J_b 2 am_d151 rfl ?_
  refine J_V1s 152 (am_d151 rfl) rfl rfl (sp152) ?_
  refine J_if_ne 10 (am_d151 rfl) rfl (fun h5 => ?_) (fun h5 => (by exfalso; simp [am_bi0, am_bi1] at * <;> omega))
  refine J_b 1 am_d151 rfl ?_
  refine J_tsIn 69 (am_d151 rfl) (by decide) (by decide) rfl rfl ?_
  refine J_b 3 am_d151 rfl ?_
  refine J_iald (am_d151 rfl) rfl (vp_of (by omega)) ?_
  exact J_iret (am_d151 rfl) rfl rfl ⟨rfl, rfl, rfl⟩
theorem sp151c_4 {X : am_X} {M : am_M} {N : am_N} {x : Int32} (h1 : 0 ≤ x.toInt ∧ x.toInt < (M 120 22).toInt) (h5 : x.toInt < 5) : am_J X (am_eq (some (.int (M 140 x.toNatClampNeg))) (M) N) 151 0 (am_en 151 [.ref 120, .int x, .int (4 : Int32)]) [] M N := by
  refine J_en (L := [.ref 120, .int x, .int (4 : Int32)]) rfl ?_
  refine J_b 2 am_d151 rfl ?_
  refine J_V1s 152 (am_d151 rfl) rfl rfl (sp152) ?_
  refine J_if_ne 10 (am_d151 rfl) rfl (fun h5 => ?_) (fun h5 => (by exfalso; simp [am_bi0, am_bi1] at * <;> omega))
  refine J_b 1 am_d151 rfl ?_
  refine J_tsIn 76 (am_d151 rfl) (by decide) (by decide) rfl rfl ?_
  refine J_b 3 am_d151 rfl ?_
  refine J_iald (am_d151 rfl) rfl (vp_of (by omega)) ?_
  exact J_iret (am_d151 rfl) rfl rfl ⟨rfl, rfl, rfl⟩
theorem sp151c_5 {X : am_X} {M : am_M} {N : am_N} {x : Int32} (h1 : 0 ≤ x.toInt ∧ x.toInt < (M 120 22).toInt) (h5 : x.toInt < 5) : am_J X (am_eq (some (.int (M 141 x.toNatClampNeg))) (M) N) 151 0 (am_en 151 [.ref 120, .int x, .int (5 : Int32)]) [] M N := by
  refine J_en (L := [.ref 120, .int x, .int (5 : Int32)]) rfl ?_
  refine J_b 2 am_d151 rfl ?_
  refine J_V1s 152 (am_d151 rfl) rfl rfl (sp152) ?_
  refine J_if_ne 10 (am_d151 rfl) rfl (fun h5 => ?_) (fun h5 => (by exfalso; simp [am_bi0, am_bi1] at * <;> omega))
  refine J_b 1 am_d151 rfl ?_
  refine J_tsIn 83 (am_d151 rfl) (by decide) (by decide) rfl rfl ?_
  refine J_b 3 am_d151 rfl ?_
  refine J_iald (am_d151 rfl) rfl (vp_of (by omega)) ?_
  exact J_iret (am_d151 rfl) rfl rfl ⟨rfl, rfl, rfl⟩
theorem am_ix6 {w : Int32} (h : ¬ (w.toInt < 0 ∨ 5 < w.toInt)) : w = 0 ∨ w = 1 ∨ w = 2 ∨ w = 3 ∨ w = 4 ∨ w = 5 := by
  have h2 : w.toInt = 0 ∨ w.toInt = 1 ∨ w.toInt = 2 ∨ w.toInt = 3 ∨ w.toInt = 4 ∨ w.toInt = 5 := by omega
  rcases h2 with h2 | h2 | h2 | h2 | h2 | h2
  · exact .inl (I_eq h2)
  · exact .inr (.inl (I_eq h2))
  · exact .inr (.inr (.inl (I_eq h2)))
  · exact .inr (.inr (.inr (.inl (I_eq h2))))
  · exact .inr (.inr (.inr (.inr (.inl (I_eq h2)))))
  · exact .inr (.inr (.inr (.inr (.inr (I_eq h2)))))
theorem pr_about {X : am_X} (x w : Int32) : am_pI iv X 37 151 [.int x, .int w] := by
  intro c M N hc h
  have e := h.1.2.1.1.2
  have e1 := h.1.2.1.1.1
  have e5 := h.1.2.1.2.1.2
  by_cases h1 : 0 ≤ x.toInt ∧ x.toInt < (M 18 7).toInt
  rotate_left
  · exact pr_e (sp37a h1) (sp151a (by rw [e]; exact h1)) (iv_up _ _ _ h)
  by_cases h2 : w.toInt < 0 ∨ 5 < w.toInt
  · exact pr_e (sp37b h1 h2) (sp151b (by rw [e]; exact h1) h2) (iv_up _ _ _ h)
  rcases am_ix6 h2 with rfl | rfl | rfl | rfl | rfl | rfl
  · have q := sp151c_0 (X := X) (M := M) (N := N) (x := x) (by rw [e]; exact h1) (by omega)
    rw [e1.1] at q
    exact pr_e (sp37c_0 h1 (by omega)) q (iv_up _ _ _ h)
  · have q := sp151c_1 (X := X) (M := M) (N := N) (x := x) (by rw [e]; exact h1) (by omega)
    rw [e1.2.1] at q
    exact pr_e (sp37c_1 h1 (by omega)) q (iv_up _ _ _ h)
  · have q := sp151c_2 (X := X) (M := M) (N := N) (x := x) (by rw [e]; exact h1) (by omega)
    rw [e1.2.2.1] at q
    exact pr_e (sp37c_2 h1 (by omega)) q (iv_up _ _ _ h)
  · have q := sp151c_3 (X := X) (M := M) (N := N) (x := x) (by rw [e]; exact h1) (by omega)
    rw [e1.2.2.2.1] at q
    exact pr_e (sp37c_3 h1 (by omega)) q (iv_up _ _ _ h)
  · have q := sp151c_4 (X := X) (M := M) (N := N) (x := x) (by rw [e]; exact h1) (by omega)
    rw [e1.2.2.2.2.1] at q
    exact pr_e (sp37c_4 h1 (by omega)) q (iv_up _ _ _ h)
  · have q := sp151c_5 (X := X) (M := M) (N := N) (x := x) (by rw [e]; exact h1) (by omega)
    rw [e1.2.2.2.2.2.1] at q
    exact pr_e (sp37c_5 h1 (by omega)) q (iv_up _ _ _ h)
theorem sp67a {X : am_X} {M : am_M} {N : am_N} {x : Int32} (h1 : ¬ ((M 0 11).toInt ≤ x.toInt ∧ x.toInt ≤ 999)) : am_J X (am_eq (some (.int (-2))) (M) N) 67 0 (am_en 67 [.ref 0, .int x]) [] M N := by
  refine J_en (L := [.ref 0, .int x, .retAddr 0]) rfl ?_
  refine J_b 3 am_d67 rfl ?_
  refine J_icmp_lt 15 (am_d67 rfl) rfl (fun h5 => ?_) (fun h5 => ?_)
  · refine J_b 1 am_d67 rfl ?_
    exact J_iret (am_d67 rfl) rfl rfl ⟨rfl, rfl, rfl⟩
  · refine J_b 2 am_d67 rfl ?_
    refine J_icmp_le 18 (am_d67 rfl) rfl (fun h12 => ?_) (fun h12 => ?_)
    · exact absurd (show (M 0 11).toInt ≤ x.toInt ∧ x.toInt ≤ 999 by simp [am_bi0, am_bi1, Int32.lt_iff_toInt_lt, Int32.le_iff_toInt_le] at * <;> omega) h1
    · refine J_b 1 am_d67 rfl ?_
      exact J_iret (am_d67 rfl) rfl rfl ⟨rfl, rfl, rfl⟩
theorem sp67c {X : am_X} {M : am_M} {N : am_N} {x : Int32} (h1 : (M 0 11).toInt ≤ x.toInt ∧ x.toInt ≤ 999) : am_J X (am_eq (some (.int (M 0 11))) (am_up M 0 11 x) N) 67 0 (am_en 67 [.ref 0, .int x]) [] M N := by
  refine J_en (L := [.ref 0, .int x, .retAddr 0]) rfl ?_
  refine J_b 3 am_d67 rfl ?_
  refine J_icmp_lt 15 (am_d67 rfl) rfl (fun h5 => ?_) (fun h5 => ?_)
  · refine J_b 1 am_d67 rfl ?_
    exact J_iret (am_d67 rfl) rfl rfl (by first | exact ⟨rfl, rfl, rfl⟩ | (exfalso; simp [am_bi0, am_bi1, Int32.lt_iff_toInt_lt, Int32.le_iff_toInt_le] at * <;> omega))
  · refine J_b 2 am_d67 rfl ?_
    refine J_icmp_le 18 (am_d67 rfl) rfl (fun h12 => ?_) (fun h12 => ?_)
    · refine J_b 5 am_d67 rfl ?_
      refine J_puti (am_d67 rfl) rfl ?_
      refine J_b 1 am_d67 rfl ?_
      exact J_iret (am_d67 rfl) rfl rfl (by first | exact ⟨rfl, rfl, rfl⟩ | (exfalso; simp [am_bi0, am_bi1, Int32.lt_iff_toInt_lt, Int32.le_iff_toInt_le] at * <;> omega))
    · refine J_b 1 am_d67 rfl ?_
      exact J_iret (am_d67 rfl) rfl rfl (by first | exact ⟨rfl, rfl, rfl⟩ | (exfalso; simp [am_bi0, am_bi1, Int32.lt_iff_toInt_lt, Int32.le_iff_toInt_le] at * <;> omega))
theorem sp166a {X : am_X} {M : am_M} {N : am_N} {x : Int32} (h1 : ¬ ((M 120 45).toInt ≤ x.toInt ∧ x.toInt ≤ 999)) : am_J X (am_eq (some (.int (-2))) (M) N) 166 0 (am_en 166 [.ref 120, .int x]) [] M N := by
  refine J_en (L := [.ref 120, .int x, .retAddr 0]) rfl ?_
  refine J_b 6 am_d166 rfl ?_
  refine J_S3s 140 (am_d166 rfl) rfl rfl (sp140) ?_
  refine J_if_ne 19 (am_d166 rfl) rfl (fun h13 => ?_) (fun h13 => ?_)
  · exact absurd (show (M 120 45).toInt ≤ x.toInt ∧ x.toInt ≤ 999 by simp [am_bi0, am_bi1, Int32.lt_iff_toInt_lt, Int32.le_iff_toInt_le] at * <;> omega) h1
  · refine J_b 1 am_d166 rfl ?_
    exact J_iret (am_d166 rfl) rfl rfl ⟨rfl, rfl, rfl⟩
theorem sp166c {X : am_X} {M : am_M} {N : am_N} {x : Int32} (h1 : (M 120 45).toInt ≤ x.toInt ∧ x.toInt ≤ 999) : am_J X (am_eq (some (.int (M 120 45))) (am_up M 120 45 x) N) 166 0 (am_en 166 [.ref 120, .int x]) [] M N := by
  refine J_en (L := [.ref 120, .int x, .retAddr 0]) rfl ?_
  refine J_b 6 am_d166 rfl ?_
  refine J_S3s 140 (am_d166 rfl) rfl rfl (sp140) ?_
  refine J_if_ne 19 (am_d166 rfl) rfl (fun h13 => ?_) (fun h13 => ?_)
  · refine J_b 5 am_d166 rfl ?_
    refine J_puti (am_d166 rfl) rfl ?_
    refine J_b 1 am_d166 rfl ?_
    exact J_iret (am_d166 rfl) rfl rfl (by first | exact ⟨rfl, rfl, rfl⟩ | (exfalso; simp [am_bi0, am_bi1, Int32.lt_iff_toInt_lt, Int32.le_iff_toInt_le] at * <;> omega))
  · refine J_b 1 am_d166 rfl ?_
    exact J_iret (am_d166 rfl) rfl rfl (by first | exact ⟨rfl, rfl, rfl⟩ | (exfalso; simp [am_bi0, am_bi1, Int32.lt_iff_toInt_lt, Int32.le_iff_toInt_le] at * <;> omega))
theorem pr_clock {X : am_X} (x : Int32) : am_pI iv X 67 166 [.int x] := by
  intro c M N hc h
  have e : M 120 45 = M 0 11 := h.2.1.1.1
  by_cases h1 : (M 0 11).toInt ≤ x.toInt ∧ x.toInt ≤ 999
  rotate_left
  · exact pr_e (sp67a h1) (sp166a (by rw [e]; exact h1)) (iv_up _ _ _ h)
  have q := sp166c (X := X) (M := am_up M 0 11 x) (N := N) (x := x) (by show (M 120 45).toInt ≤ _ ∧ _; rw [e]; exact h1)
  rw [show am_up M 0 11 x 120 45 = M 0 11 from e] at q
  refine pr_e (sp67c h1) q ?_
  obtain ⟨⟨⟨hs, hb⟩, ⟨hca, hcb⟩, ⟨hna, hnb⟩, ⟨hfi, hfb⟩⟩, ⟨hti, hta, hpr⟩, hcc, hch, hkl, hkd⟩ := h
  obtain ⟨g1, g2, g3⟩ := ch_eq (M' := am_up (am_up M 0 11 x) 120 45 x) hch hkl hkd hcb (fun k k1 k2 => by (repeat (first | rw [up_n] | rw [upR_n])) <;> omega) ⟨rfl, rfl, rfl, rfl, rfl⟩ rfl ⟨rfl, rfl, rfl, rfl, rfl⟩ ⟨rfl, rfl, rfl, rfl, rfl⟩
  exact ⟨⟨⟨hs, hb⟩, ⟨hca, hcb⟩, ⟨hna, hnb⟩, ⟨hfi, hfb⟩⟩, ⟨⟨rfl, h1.2, hti.2.2⟩, hta, hpr⟩, cc_of hcc hfb (fun k k1 k2 => by (repeat (first | rw [up_n] | rw [upR_n])) <;> omega) ⟨rfl, rfl, rfl, rfl, rfl, rfl, rfl⟩, g1, g2, g3⟩
theorem sp68a {X : am_X} {M : am_M} {N : am_N} {x w : Int32} (h1 : ¬ (0 ≤ x.toInt ∧ x.toInt < (M 32 7).toInt)) : am_J X (am_eq (some (.int (-1))) (M) N) 68 0 (am_en 68 [.ref 0, .int x, .int w]) [] M N := by
  refine J_en (L := [.ref 0, .int x, .int w, .retAddr 0]) rfl ?_
  refine J_b 4 am_d68 rfl ?_
  refine J_S2s 13 (am_d68 rfl) rfl rfl (sp13) ?_
  refine J_if_ne 16 (am_d68 rfl) rfl (fun h11 => (by exfalso; simp [am_bi0, am_bi1] at * <;> omega)) (fun h11 => ?_)
  refine J_b 1 am_d68 rfl ?_
  exact J_iret (am_d68 rfl) rfl rfl ⟨rfl, rfl, rfl⟩
theorem sp68b {X : am_X} {M : am_M} {N : am_N} {x w : Int32} (h1 : 0 ≤ x.toInt ∧ x.toInt < (M 32 7).toInt) (h2 : ¬ (0 ≤ w.toInt ∧ w.toInt ≤ 1)) : am_J X (am_eq (some (.int (-2))) (M) N) 68 0 (am_en 68 [.ref 0, .int x, .int w]) [] M N := by
  refine J_en (L := [.ref 0, .int x, .int w, .retAddr 0]) rfl ?_
  refine J_b 4 am_d68 rfl ?_
  refine J_S2s 13 (am_d68 rfl) rfl rfl (sp13) ?_
  refine J_if_ne 16 (am_d68 rfl) rfl (fun h11 => ?_) (fun h11 => (by exfalso; simp [am_bi0, am_bi1] at * <;> omega))
  refine J_b 3 am_d68 rfl ?_
  refine J_S3s 14 (am_d68 rfl) rfl rfl (sp14) ?_
  refine J_if_ne 28 (am_d68 rfl) rfl (fun h22 => (by exfalso; simp [am_bi0, am_bi1] at * <;> omega)) (fun h22 => ?_)
  refine J_b 1 am_d68 rfl ?_
  exact J_iret (am_d68 rfl) rfl rfl ⟨rfl, rfl, rfl⟩
theorem sp68c {X : am_X} {M : am_M} {N : am_N} {x w : Int32} (h1 : 0 ≤ x.toInt ∧ x.toInt < (M 32 7).toInt) (h2 : 0 ≤ w.toInt ∧ w.toInt ≤ 1) (h5 : x.toInt < 16) : am_J X (am_eq (some (.int (if M 39 x.toNatClampNeg = 0 then 0 else 1))) (am_up M 39 x.toNatClampNeg (vp_nar .boolean (if w = 1 then 1 else 0))) N) 68 0 (am_en 68 [.ref 0, .int x, .int w]) [] M N := by
  refine J_en (L := [.ref 0, .int x, .int w, .retAddr 0]) rfl ?_
  refine J_b 4 am_d68 rfl ?_
  refine J_S2s 13 (am_d68 rfl) rfl rfl (sp13) ?_
  refine J_if_ne 16 (am_d68 rfl) rfl (fun h11 => ?_) (fun h11 => (by exfalso; simp [am_bi0, am_bi1] at * <;> omega))
  refine J_b 3 am_d68 rfl ?_
  refine J_S3s 14 (am_d68 rfl) rfl rfl (sp14) ?_
  refine J_if_ne 28 (am_d68 rfl) rfl (fun h22 => ?_) (fun h22 => (by exfalso; simp [am_bi0, am_bi1] at * <;> omega))
  refine J_b 4 am_d68 rfl ?_
  refine J_zald (am_d68 rfl) rfl (vp_of (by omega)) ?_
  refine J_if_eq 44 (am_d68 rfl) rfl (fun h37 => ?_) (fun h37 => ?_)
  · refine J_b 8 am_d68 rfl ?_
    refine J_icmp_ne 63 (am_d68 rfl) rfl (fun h56 => ?_) (fun h56 => ?_)
    · refine J_b 1 am_d68 rfl ?_
      refine J_zast (am_d68 rfl) rfl (vp_of (by omega)) ?_
      refine J_b 1 am_d68 rfl ?_
      exact J_iret (am_d68 rfl) rfl rfl ⟨by simp [*], by have hw := h56; first | exact congrArg (fun z => am_up M 39 x.toNatClampNeg (vp_nar .boolean z)) (if_neg (show ¬ w = 1 from hw)).symm | exact congrArg (fun z => am_up M 39 x.toNatClampNeg (vp_nar .boolean z)) (if_pos (show w = 1 from hw)).symm, rfl⟩
    · refine J_b 2 am_d68 rfl ?_
      refine J_zast (am_d68 rfl) rfl (vp_of (by omega)) ?_
      refine J_b 1 am_d68 rfl ?_
      exact J_iret (am_d68 rfl) rfl rfl ⟨by simp [*], by have hw := h56; first | exact congrArg (fun z => am_up M 39 x.toNatClampNeg (vp_nar .boolean z)) (if_neg (show ¬ w = 1 from hw)).symm | exact congrArg (fun z => am_up M 39 x.toNatClampNeg (vp_nar .boolean z)) (if_pos (show w = 1 from hw)).symm, rfl⟩
  · refine J_b 9 am_d68 rfl ?_
    refine J_icmp_ne 63 (am_d68 rfl) rfl (fun h56 => ?_) (fun h56 => ?_)
    · refine J_b 1 am_d68 rfl ?_
      refine J_zast (am_d68 rfl) rfl (vp_of (by omega)) ?_
      refine J_b 1 am_d68 rfl ?_
      exact J_iret (am_d68 rfl) rfl rfl ⟨by simp [*], by have hw := h56; first | exact congrArg (fun z => am_up M 39 x.toNatClampNeg (vp_nar .boolean z)) (if_neg (show ¬ w = 1 from hw)).symm | exact congrArg (fun z => am_up M 39 x.toNatClampNeg (vp_nar .boolean z)) (if_pos (show w = 1 from hw)).symm, rfl⟩
    · refine J_b 2 am_d68 rfl ?_
      refine J_zast (am_d68 rfl) rfl (vp_of (by omega)) ?_
      refine J_b 1 am_d68 rfl ?_
      exact J_iret (am_d68 rfl) rfl rfl ⟨by simp [*], by have hw := h56; first | exact congrArg (fun z => am_up M 39 x.toNatClampNeg (vp_nar .boolean z)) (if_neg (show ¬ w = 1 from hw)).symm | exact congrArg (fun z => am_up M 39 x.toNatClampNeg (vp_nar .boolean z)) (if_pos (show w = 1 from hw)).symm, rfl⟩
theorem sp167a {X : am_X} {M : am_M} {N : am_N} {x w : Int32} (h1 : ¬ (0 ≤ x.toInt ∧ x.toInt < (M 120 44).toInt)) : am_J X (am_eq (some (.int (-1))) (M) N) 167 0 (am_en 167 [.ref 120, .int x, .int w]) [] M N := by
  refine J_en (L := [.ref 120, .int x, .int w, .retAddr 0]) rfl ?_
  refine J_b 2 am_d167 rfl ?_
  refine J_V1s 168 (am_d167 rfl) rfl rfl (sp168) ?_
  refine J_if_ne 10 (am_d167 rfl) rfl (fun h5 => (by exfalso; simp [am_bi0, am_bi1] at * <;> omega)) (fun h5 => ?_)
  refine J_b 1 am_d167 rfl ?_
  exact J_iret (am_d167 rfl) rfl rfl ⟨rfl, rfl, rfl⟩
theorem sp167b {X : am_X} {M : am_M} {N : am_N} {x w : Int32} (h1 : 0 ≤ x.toInt ∧ x.toInt < (M 120 44).toInt) (h2 : ¬ (0 ≤ w.toInt ∧ w.toInt ≤ 1)) : am_J X (am_eq (some (.int (-2))) (M) N) 167 0 (am_en 167 [.ref 120, .int x, .int w]) [] M N := by
  refine J_en (L := [.ref 120, .int x, .int w, .retAddr 0]) rfl ?_
  refine J_b 2 am_d167 rfl ?_
  refine J_V1s 168 (am_d167 rfl) rfl rfl (sp168) ?_
  refine J_if_ne 10 (am_d167 rfl) rfl (fun h5 => ?_) (fun h5 => (by exfalso; simp [am_bi0, am_bi1] at * <;> omega))
  refine J_b 4 am_d167 rfl ?_
  refine J_S3s 140 (am_d167 rfl) rfl rfl (sp140) ?_
  refine J_if_ne 23 (am_d167 rfl) rfl (fun h17 => (by exfalso; simp [am_bi0, am_bi1] at * <;> omega)) (fun h17 => ?_)
  refine J_b 1 am_d167 rfl ?_
  exact J_iret (am_d167 rfl) rfl rfl ⟨rfl, rfl, rfl⟩
theorem sp167c {X : am_X} {M : am_M} {N : am_N} {x w : Int32} (h1 : 0 ≤ x.toInt ∧ x.toInt < (M 120 44).toInt) (h2 : 0 ≤ w.toInt ∧ w.toInt ≤ 1) (h5 : x.toInt < 16) : am_J X (am_eq (some (.int (if M 159 x.toNatClampNeg = 0 then 0 else 1))) (am_up M 159 x.toNatClampNeg (vp_nar .boolean (if w = 1 then 1 else 0))) N) 167 0 (am_en 167 [.ref 120, .int x, .int w]) [] M N := by
  refine J_en (L := [.ref 120, .int x, .int w, .retAddr 0]) rfl ?_
  refine J_b 2 am_d167 rfl ?_
  refine J_V1s 168 (am_d167 rfl) rfl rfl (sp168) ?_
  refine J_if_ne 10 (am_d167 rfl) rfl (fun h5 => ?_) (fun h5 => (by exfalso; simp [am_bi0, am_bi1] at * <;> omega))
  refine J_b 4 am_d167 rfl ?_
  refine J_S3s 140 (am_d167 rfl) rfl rfl (sp140) ?_
  refine J_if_ne 23 (am_d167 rfl) rfl (fun h17 => ?_) (fun h17 => (by exfalso; simp [am_bi0, am_bi1] at * <;> omega))
  refine J_b 3 am_d167 rfl ?_
  refine J_zald (am_d167 rfl) rfl (vp_of (by omega)) ?_
  refine J_if_eq 36 (am_d167 rfl) rfl (fun h29 => ?_) (fun h29 => ?_)
  · refine J_b 7 am_d167 rfl ?_
    refine J_icmp_ne 52 (am_d167 rfl) rfl (fun h45 => ?_) (fun h45 => ?_)
    · refine J_b 1 am_d167 rfl ?_
      refine J_zast (am_d167 rfl) rfl (vp_of (by omega)) ?_
      refine J_b 1 am_d167 rfl ?_
      exact J_iret (am_d167 rfl) rfl rfl ⟨by simp [*], by have hw := h45; first | exact congrArg (fun z => am_up M 159 x.toNatClampNeg (vp_nar .boolean z)) (if_neg (show ¬ w = 1 from hw)).symm | exact congrArg (fun z => am_up M 159 x.toNatClampNeg (vp_nar .boolean z)) (if_pos (show w = 1 from hw)).symm, rfl⟩
    · refine J_b 2 am_d167 rfl ?_
      refine J_zast (am_d167 rfl) rfl (vp_of (by omega)) ?_
      refine J_b 1 am_d167 rfl ?_
      exact J_iret (am_d167 rfl) rfl rfl ⟨by simp [*], by have hw := h45; first | exact congrArg (fun z => am_up M 159 x.toNatClampNeg (vp_nar .boolean z)) (if_neg (show ¬ w = 1 from hw)).symm | exact congrArg (fun z => am_up M 159 x.toNatClampNeg (vp_nar .boolean z)) (if_pos (show w = 1 from hw)).symm, rfl⟩
  · refine J_b 8 am_d167 rfl ?_
    refine J_icmp_ne 52 (am_d167 rfl) rfl (fun h45 => ?_) (fun h45 => ?_)
    · refine J_b 1 am_d167 rfl ?_
      refine J_zast (am_d167 rfl) rfl (vp_of (by omega)) ?_
      refine J_b 1 am_d167 rfl ?_
      exact J_iret (am_d167 rfl) rfl rfl ⟨by simp [*], by have hw := h45; first | exact congrArg (fun z => am_up M 159 x.toNatClampNeg (vp_nar .boolean z)) (if_neg (show ¬ w = 1 from hw)).symm | exact congrArg (fun z => am_up M 159 x.toNatClampNeg (vp_nar .boolean z)) (if_pos (show w = 1 from hw)).symm, rfl⟩
    · refine J_b 2 am_d167 rfl ?_
      refine J_zast (am_d167 rfl) rfl (vp_of (by omega)) ?_
      refine J_b 1 am_d167 rfl ?_
      exact J_iret (am_d167 rfl) rfl rfl ⟨by simp [*], by have hw := h45; first | exact congrArg (fun z => am_up M 159 x.toNatClampNeg (vp_nar .boolean z)) (if_neg (show ¬ w = 1 from hw)).symm | exact congrArg (fun z => am_up M 159 x.toNatClampNeg (vp_nar .boolean z)) (if_pos (show w = 1 from hw)).symm, rfl⟩
theorem pr_drop {X : am_X} (x w : Int32) : am_pI iv X 68 167 [.int x, .int w] := by
  intro c M N hc h
  have e := h.1.2.2.2.1.2
  have e1 := h.1.2.2.2.1.1
  have e5 := h.1.2.2.2.2.1.2
  by_cases h1 : 0 ≤ x.toInt ∧ x.toInt < (M 32 7).toInt
  rotate_left
  · exact pr_e (sp68a h1) (sp167a (by rw [e]; exact h1)) (iv_up _ _ _ h)
  by_cases h2 : 0 ≤ w.toInt ∧ w.toInt ≤ 1
  rotate_left
  · exact pr_e (sp68b h1 h2) (sp167b (by rw [e]; exact h1) h2) (iv_up _ _ _ h)
  have q := sp167c (X := X) (M := am_up M 39 x.toNatClampNeg (vp_nar .boolean (if w = 1 then 1 else 0))) (N := N) (x := x) (w := w) (by show 0 ≤ _ ∧ _ < (M 120 44).toInt; rw [e]; exact h1) h2 (by omega)
  rw [show am_up M 39 x.toNatClampNeg (vp_nar .boolean (if w = 1 then 1 else 0)) 159 x.toNatClampNeg = M 39 x.toNatClampNeg from congrFun e1.2.2.2.2.2.2 _] at q
  refine pr_e (sp68c h1 h2 (by omega)) q ?_
  obtain ⟨⟨⟨hs, hb⟩, ⟨hca, hcb⟩, ⟨hna, hnb⟩, ⟨hfi, hfb⟩⟩, ⟨hti, hta, hpr⟩, hcc, hch, hkl, hkd⟩ := h
  obtain ⟨g1, g2, g3⟩ := ch_eq (M' := am_up (am_up M 39 x.toNatClampNeg (vp_nar .boolean (if w = 1 then 1 else 0))) 159 x.toNatClampNeg (vp_nar .boolean (if w = 1 then 1 else 0))) hch hkl hkd hcb (fun k k1 k2 => by (repeat (first | rw [up_n] | rw [upR_n])) <;> omega) ⟨rfl, rfl, rfl, rfl, rfl⟩ rfl ⟨rfl, rfl, rfl, rfl, rfl⟩ ⟨rfl, rfl, rfl, rfl, rfl⟩
  obtain ⟨⟨f1, f2, f3, f4, f5, f6, f7⟩, f8⟩ := hfi
  obtain ⟨k1, k2, k3, k4, k5⟩ := hfb
  have z : ∀ j : Nat, (M 32 7).toInt ≤ j → (if j = x.toNatClampNeg then vp_nar .boolean (if w = 1 then 1 else 0) else M 39 j) = 0 := by
    intro j hj
    have := I_cl h1.1
    rw [if_neg (by omega)]
    exact k5 j hj
  exact ⟨⟨⟨hs, hb⟩, ⟨hca, hcb⟩, ⟨hna, hnb⟩, ⟨⟨f1, f2, f3, f4, f5, f6, up_eq (j := x.toNatClampNeg) (x := vp_nar .boolean (if w = 1 then 1 else 0)) f7⟩, f8⟩, ⟨k1, k2, k3, k4, z⟩⟩, ⟨hti, hta, hpr⟩, cc_of hcc ⟨k1, k2, k3, k4, k5⟩ (fun k k1 k2 => by (repeat (first | rw [up_n] | rw [upR_n])) <;> omega) ⟨rfl, rfl, rfl, rfl, rfl, rfl, rfl⟩, g1, g2, g3⟩
theorem sp86a {X : am_X} {M : am_M} {N : am_N} {x w : Int32} (h1 : ¬ (0 ≤ x.toInt ∧ x.toInt < 3)) : am_J X (am_eq (some (.int (-3))) (M) N) 86 0 (am_en 86 [.ref 0, .int x, .int w]) [] M N := by
  refine J_en (L := [.ref 0, .int x, .int w, .retAddr 0]) rfl ?_
  refine J_b 2 am_d86 rfl ?_
  refine J_S2s 13 (am_d86 rfl) rfl rfl (sp13) ?_
  refine J_if_ne 11 (am_d86 rfl) rfl (fun h5 => (by exfalso; simp [am_bi0, am_bi1] at * <;> omega)) (fun h5 => ?_)
  refine J_b 1 am_d86 rfl ?_
  exact J_iret (am_d86 rfl) rfl rfl ⟨rfl, rfl, rfl⟩
theorem sp86b {X : am_X} {M : am_M} {N : am_N} {x w : Int32} (h1 : 0 ≤ x.toInt ∧ x.toInt < 3) (h2 : ¬ (-1 ≤ w.toInt ∧ w.toInt ≤ 1)) : am_J X (am_eq (some (.int (-2))) (M) N) 86 0 (am_en 86 [.ref 0, .int x, .int w]) [] M N := by
  refine J_en (L := [.ref 0, .int x, .int w, .retAddr 0]) rfl ?_
  refine J_b 2 am_d86 rfl ?_
  refine J_S2s 13 (am_d86 rfl) rfl rfl (sp13) ?_
  refine J_if_ne 11 (am_d86 rfl) rfl (fun h5 => ?_) (fun h5 => (by exfalso; simp [am_bi0, am_bi1] at * <;> omega))
  refine J_b 3 am_d86 rfl ?_
  refine J_S3s 14 (am_d86 rfl) rfl rfl (sp14) ?_
  refine J_if_ne 23 (am_d86 rfl) rfl (fun h17 => (by exfalso; simp [am_bi0, am_bi1] at * <;> omega)) (fun h17 => ?_)
  refine J_b 1 am_d86 rfl ?_
  exact J_iret (am_d86 rfl) rfl rfl ⟨rfl, rfl, rfl⟩
theorem sp86c {X : am_X} {M : am_M} {N : am_N} {x w : Int32} (h1 : 0 ≤ x.toInt ∧ x.toInt < 3) (h2 : -1 ≤ w.toInt ∧ w.toInt ≤ 1) : am_J X (am_eq (some (.int (M 17 x.toNatClampNeg))) (am_up (am_up M 17 x.toNatClampNeg w) 1 11 (M 1 11 + 1)) N) 86 0 (am_en 86 [.ref 0, .int x, .int w]) [] M N := by
  refine J_en (L := [.ref 0, .int x, .int w, .retAddr 0]) rfl ?_
  refine J_b 2 am_d86 rfl ?_
  refine J_S2s 13 (am_d86 rfl) rfl rfl (sp13) ?_
  refine J_if_ne 11 (am_d86 rfl) rfl (fun h5 => ?_) (fun h5 => (by exfalso; simp [am_bi0, am_bi1] at * <;> omega))
  refine J_b 3 am_d86 rfl ?_
  refine J_S3s 14 (am_d86 rfl) rfl rfl (sp14) ?_
  refine J_if_ne 23 (am_d86 rfl) rfl (fun h17 => ?_) (fun h17 => (by exfalso; simp [am_bi0, am_bi1] at * <;> omega))
  refine J_b 4 am_d86 rfl ?_
  refine J_iald (am_d86 rfl) rfl (vp_of (by omega)) ?_
  refine J_b 6 am_d86 rfl ?_
  refine J_iast (am_d86 rfl) rfl (vp_of (by omega)) ?_
  refine J_b 6 am_d86 rfl ?_
  refine J_puti (am_d86 rfl) rfl ?_
  refine J_b 1 am_d86 rfl ?_
  exact J_iret (am_d86 rfl) rfl rfl ⟨rfl, rfl, rfl⟩
theorem sp184a {X : am_X} {M : am_M} {N : am_N} {x w : Int32} (h1 : ¬ (0 ≤ x.toInt ∧ x.toInt < 3)) : am_J X (am_eq (some (.int (-3))) (M) N) 184 0 (am_en 184 [.ref 120, .int x, .int w]) [] M N := by
  refine J_en (L := [.ref 120, .int x, .int w, .retAddr 0]) rfl ?_
  refine J_b 4 am_d184 rfl ?_
  refine J_S3s 140 (am_d184 rfl) rfl rfl (sp140) ?_
  refine J_if_ne 15 (am_d184 rfl) rfl (fun h9 => (by exfalso; simp [am_bi0, am_bi1] at * <;> omega)) (fun h9 => ?_)
  refine J_b 1 am_d184 rfl ?_
  exact J_iret (am_d184 rfl) rfl rfl ⟨rfl, rfl, rfl⟩
theorem sp184b {X : am_X} {M : am_M} {N : am_N} {x w : Int32} (h1 : 0 ≤ x.toInt ∧ x.toInt < 3) (h2 : ¬ (-1 ≤ w.toInt ∧ w.toInt ≤ 1)) : am_J X (am_eq (some (.int (-2))) (M) N) 184 0 (am_en 184 [.ref 120, .int x, .int w]) [] M N := by
  refine J_en (L := [.ref 120, .int x, .int w, .retAddr 0]) rfl ?_
  refine J_b 4 am_d184 rfl ?_
  refine J_S3s 140 (am_d184 rfl) rfl rfl (sp140) ?_
  refine J_if_ne 15 (am_d184 rfl) rfl (fun h9 => ?_) (fun h9 => (by exfalso; simp [am_bi0, am_bi1] at * <;> omega))
  refine J_b 4 am_d184 rfl ?_
  refine J_S3s 140 (am_d184 rfl) rfl rfl (sp140) ?_
  refine J_if_ne 30 (am_d184 rfl) rfl (fun h24 => (by exfalso; simp [am_bi0, am_bi1] at * <;> omega)) (fun h24 => ?_)
  refine J_b 1 am_d184 rfl ?_
  exact J_iret (am_d184 rfl) rfl rfl ⟨rfl, rfl, rfl⟩
theorem sp184c {X : am_X} {M : am_M} {N : am_N} {x w : Int32} (h1 : 0 ≤ x.toInt ∧ x.toInt < 3) (h2 : -1 ≤ w.toInt ∧ w.toInt ≤ 1) : am_J X (am_eq (some (.int (M 130 x.toNatClampNeg))) (am_up M 130 x.toNatClampNeg w) N) 184 0 (am_en 184 [.ref 120, .int x, .int w]) [] M N := by
  refine J_en (L := [.ref 120, .int x, .int w, .retAddr 0]) rfl ?_
  refine J_b 4 am_d184 rfl ?_
  refine J_S3s 140 (am_d184 rfl) rfl rfl (sp140) ?_
  refine J_if_ne 15 (am_d184 rfl) rfl (fun h9 => ?_) (fun h9 => (by exfalso; simp [am_bi0, am_bi1] at * <;> omega))
  refine J_b 4 am_d184 rfl ?_
  refine J_S3s 140 (am_d184 rfl) rfl rfl (sp140) ?_
  refine J_if_ne 30 (am_d184 rfl) rfl (fun h24 => ?_) (fun h24 => (by exfalso; simp [am_bi0, am_bi1] at * <;> omega))
  refine J_b 3 am_d184 rfl ?_
  refine J_iald (am_d184 rfl) rfl (vp_of (by omega)) ?_
  refine J_b 5 am_d184 rfl ?_
  refine J_iast (am_d184 rfl) rfl (vp_of (by omega)) ?_
  refine J_b 1 am_d184 rfl ?_
  exact J_iret (am_d184 rfl) rfl rfl ⟨rfl, rfl, rfl⟩
theorem pr_move {X : am_X} (x w : Int32) : am_pI iv X 86 184 [.int x, .int w] := by
  intro c M N hc h
  have e : M 130 = M 17 := h.1.1.1.2.2.2
  by_cases h1 : 0 ≤ x.toInt ∧ x.toInt < 3
  rotate_left
  · exact pr_e (sp86a h1) (sp184a h1) (iv_up _ _ _ h)
  by_cases h2 : -1 ≤ w.toInt ∧ w.toInt ≤ 1
  rotate_left
  · exact pr_e (sp86b h1 h2) (sp184b h1 h2) (iv_up _ _ _ h)
  have q := sp184c (X := X) (M := am_up (am_up M 17 x.toNatClampNeg w) 1 11 (M 1 11 + 1)) (N := N) (x := x) (w := w) h1 h2
  rw [show am_up (am_up M 17 x.toNatClampNeg w) 1 11 (M 1 11 + 1) 130 x.toNatClampNeg = M 17 x.toNatClampNeg from congrFun e _] at q
  refine pr_e (sp86c h1 h2) q ?_
  obtain ⟨⟨⟨hs, hb⟩, ⟨hca, hcb⟩, ⟨hna, hnb⟩, ⟨hfi, hfb⟩⟩, ⟨hti, hta, hpr⟩, hcc, hch, hkl, hkd⟩ := h
  obtain ⟨g1, g2, g3⟩ := ch_up (M' := am_up (am_up (am_up M 17 x.toNatClampNeg w) 1 11 (M 1 11 + 1)) 130 x.toNatClampNeg w) hc hch rfl rfl rfl
  obtain ⟨⟨s1, s2, s3, s4⟩, ⟨b1, b2, b3, b4, b5, b6, b7, b8, b9, b10, b11, b12⟩⟩ := And.intro hs hb
  exact ⟨⟨⟨⟨s1, s2, s3, up_eq (j := x.toNatClampNeg) (x := w) s4⟩, ⟨b1, b2, b3, b4, b5, b6, b7, b8, b9, b10, b11, b_up b12 h2⟩⟩, ⟨hca, hcb⟩, ⟨hna, hnb⟩, ⟨hfi, hfb⟩⟩, ⟨hti, hta, hpr⟩, cc_of hcc hfb (fun k k1 k2 => by (repeat (first | rw [up_n] | rw [upR_n])) <;> omega) ⟨rfl, rfl, rfl, rfl, rfl, rfl, rfl⟩, g1, g2, g3⟩
