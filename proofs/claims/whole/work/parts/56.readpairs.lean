/-! ===== the pairs weight, judge, best, cards, twin ===== -/
def pm_ (c : Nat) (M : am_M) : am_M → am_N → Prop := fun M1 _ => md M M1 ∧ ∀ N, iv c M1 N
theorem pr_m {X : am_X} {i j : Nat} {args : am_V} {v : Int32} {c : Nat} {M : am_M} {N : am_N} (h1 : am_J X (q_p (some (.int v)) (pm_ c M)) i 0 (am_en i (.ref 0 :: args)) [] M N) (h2 : ∀ (M1 : am_M) (N1 : am_N), md M M1 → (∀ N, iv c M1 N) → am_J X (q_p (some (.int v)) (fun M2 _ => ∀ N, iv c M2 N)) j 0 (am_en j (.ref 120 :: args)) [] M1 N1) : ∃ (v : Int32) (mid : am_M → am_N → Prop), am_J X (fun r M1 N1 => r = some (.int v) ∧ mid M1 N1) i 0 (am_en i (.ref 0 :: args)) [] M N ∧ ∀ M1 N1, mid M1 N1 → am_J X (fun r M2 N2 => r = some (.int v) ∧ iv (c + 1) M2 N2) j 0 (am_en j (.ref 120 :: args)) [] M1 N1 :=
  ⟨v, pm_ c M, h1, fun M1 N1 hm => J_cq (h2 M1 N1 hm.1 hm.2) (fun _ _ N2 hq => ⟨hq.1, iv_up _ _ _ (hq.2 N2)⟩)⟩
theorem iv_rd {c : Nat} {M M1 : am_M} {N : am_N} (h : iv c M N) (hr : rd M M1) : ∀ N, iv c M1 N := fun _ => iv_s0 h (rd_sc hr)
theorem sp69a {X : am_X} {M : am_M} {N : am_N} {x y : Int32} (g1 : ¬ ((0 ≤ x.toInt ∧ x.toInt < (M 32 7).toInt) ∧ 0 ≤ y.toInt ∧ y.toInt < (M 18 7).toInt)) : am_J X (am_eq (some (.int (-1))) (M) N) 69 0 (am_en 69 [.ref 0, .int x, .int y]) [] M N := by
  refine J_en (L := [.ref 0, .int x, .int y]) rfl ?_
  refine J_b 4 am_d69 rfl ?_
  refine J_S2s 13 (am_d69 rfl) rfl rfl (sp13) ?_
  refine J_if_eq 28 (am_d69 rfl) rfl (fun h11 => ?_) (fun h11 => ?_)
  · refine J_b 1 am_d69 rfl ?_
    exact J_iret (am_d69 rfl) rfl rfl ⟨rfl, rfl, rfl⟩
  · refine J_b 4 am_d69 rfl ?_
    refine J_S2s 13 (am_d69 rfl) rfl rfl (sp13) ?_
    refine J_if_ne 30 (am_d69 rfl) rfl (fun h25 => ?_) (fun h25 => ?_)
    · exact absurd ⟨am_bi1.mp h11, am_bi1.mp h25⟩ g1
    · refine J_b 1 am_d69 rfl ?_
      exact J_iret (am_d69 rfl) rfl rfl ⟨rfl, rfl, rfl⟩
theorem sp169a {X : am_X} {M : am_M} {N : am_N} {x y : Int32} (g1 : ¬ ((0 ≤ x.toInt ∧ x.toInt < (M 120 44).toInt) ∧ 0 ≤ y.toInt ∧ y.toInt < (M 120 22).toInt)) : am_J X (am_eq (some (.int (-1))) (M) N) 169 0 (am_en 169 [.ref 120, .int x, .int y]) [] M N := by
  refine J_en (L := [.ref 120, .int x, .int y]) rfl ?_
  refine J_b 2 am_d169 rfl ?_
  refine J_V1s 168 (am_d169 rfl) rfl rfl (sp168) ?_
  refine J_if_eq 25 (am_d169 rfl) rfl (fun h5 => ?_) (fun h5 => ?_)
  · refine J_b 1 am_d169 rfl ?_
    exact J_iret (am_d169 rfl) rfl rfl ⟨rfl, rfl, rfl⟩
  · refine J_b 2 am_d169 rfl ?_
    refine J_V1s 152 (am_d169 rfl) rfl rfl (sp152) ?_
    refine J_if_eq 25 (am_d169 rfl) rfl (fun h13 => ?_) (fun h13 => ?_)
    · refine J_b 1 am_d169 rfl ?_
      exact J_iret (am_d169 rfl) rfl rfl ⟨rfl, rfl, rfl⟩
    · exact absurd ⟨am_bi1.mp h5, am_bi1.mp h13⟩ g1
theorem sp69c {X : am_X} {M : am_M} {N : am_N} {c0 f : Nat} (h : iv c0 M N) (hf : f < 16) (hfs : (f : Int) < (M 32 7).toInt) {d : Nat} (hd : d < 5) (hds : (d : Int) < (M 18 7).toInt) : am_J X (q_p (some (.int (w_of M f d))) (pm_ c0 M)) 69 0 (am_en 69 [.ref 0, .int (nI f), .int (nI d)]) [] M N := by
  have i1 := nI_i (n := f) (by omega)
  have i2 := nI_i (n := d) (by omega)
  refine J_en (L := [.ref 0, .int (nI f), .int (nI d)]) rfl ?_
  refine J_b 4 am_d69 rfl ?_
  refine J_S2s 13 (am_d69 rfl) rfl rfl (sp13) ?_
  refine J_if_eq 28 (am_d69 rfl) rfl (fun h11 => absurd h11 (am_bi1.mpr (by rw [i1]; omega))) (fun h11 => ?_)
  refine J_b 4 am_d69 rfl ?_
  refine J_S2s 13 (am_d69 rfl) rfl rfl (sp13) ?_
  refine J_if_ne 30 (am_d69 rfl) rfl (fun h25 => ?_) (fun h25 => absurd h25 (am_bi1.mpr (by rw [i2]; omega)))
  refine J_b 2 am_d69 rfl ?_
  refine J_V0np 70 (am_d69 rfl) rfl rfl (sp70 h) (fun M1 N1 hl => ?_)
  obtain ⟨hm, hk, hi⟩ := hl
  have e32 : M1 32 7 = M 32 7 := by rw [hm.1 32 (by unfold rg_r sc_r; omega)]
  have e18 : M1 18 7 = M 18 7 := by rw [hm.1 18 (by unfold rg_r sc_r; omega)]
  refine J_b 4 am_d69 rfl ?_
  have q := sp71 (X := X) (N := N1) (hi N) hk hf hd (by rw [e32]; exact hfs) (by rw [e18]; exact hds)
  rw [w_md hm] at q
  refine J_V2s 71 (am_d69 rfl) rfl rfl q ?_
  exact J_iret (am_d69 rfl) rfl rfl ⟨rfl, hm, hi⟩
theorem sp169c {X : am_X} {M : am_M} {N : am_N} {c0 f : Nat} {N0 : am_N} (h : iv c0 M N0) (hf : f < 16) (hfs : (f : Int) < (M 120 44).toInt) {d : Nat} (hd : d < 5) (hds : (d : Int) < (M 120 22).toInt) : am_J X (q_p (some (.int (w_of M f d))) (fun M2 _ => ∀ N, iv c0 M2 N)) 169 0 (am_en 169 [.ref 120, .int (nI f), .int (nI d)]) [] M N := by
  have i1 := nI_i (n := f) (by omega)
  have i2 := nI_i (n := d) (by omega)
  refine J_en (L := [.ref 120, .int (nI f), .int (nI d)]) rfl ?_
  refine J_b 2 am_d169 rfl ?_
  refine J_V1s 168 (am_d169 rfl) rfl rfl (sp168) ?_
  refine J_if_eq 25 (am_d169 rfl) rfl (fun h5 => absurd h5 (am_bi1.mpr (by rw [i1]; omega))) (fun h5 => ?_)
  refine J_b 2 am_d169 rfl ?_
  refine J_V1s 152 (am_d169 rfl) rfl rfl (sp152) ?_
  refine J_if_eq 25 (am_d169 rfl) rfl (fun h13 => absurd h13 (am_bi1.mpr (by rw [i2]; omega))) (fun h13 => ?_)
  refine J_b 3 am_d169 rfl ?_
  refine J_V2sp 170 (am_d169 rfl) rfl rfl (sp170 h hf hd) (fun M2 N2 hq => ?_)
  obtain ⟨hr, rfl⟩ := hq
  refine J_b 1 am_d169 rfl ?_
  exact J_iret (am_d169 rfl) rfl rfl ⟨rfl, iv_rd h hr⟩
theorem pr_weight {X : am_X} (x y : Int32) : am_pI iv X 69 169 [.int x, .int y] := by
  intro c0 M N hc0 h
  have e22 : M 120 22 = M 18 7 := h.1.2.1.1.2
  have e44 : M 120 44 = M 32 7 := h.1.2.2.2.1.2
  have e5 := h.1.2.1.2.1
  have e16 := h.1.2.2.2.2.1
  unfold b_in at e5 e16
  by_cases g1 : (0 ≤ x.toInt ∧ x.toInt < (M 32 7).toInt) ∧ 0 ≤ y.toInt ∧ y.toInt < (M 18 7).toInt
  rotate_left
  · exact pr_e (sp69a g1) (sp169a (by rw [e22, e44]; exact g1)) (iv_up _ _ _ h)
  have ex := I_nI g1.1.1
  have icx := I_cl g1.1.1
  generalize x.toNatClampNeg = f at ex icx
  subst ex
  have hf : f < 16 := by omega
  have hfs : (f : Int) < (M 32 7).toInt := by omega
  have ey := I_nI g1.2.1
  have icy := I_cl g1.2.1
  generalize y.toNatClampNeg = d at ey icy
  subst ey
  have hds : (d : Int) < (M 18 7).toInt := by omega
  refine pr_m (sp69c h hf hfs (by omega) hds) (fun M1 N1 hm hi => ?_)
  rw [← w_md hm]
  exact sp169c (hi N) hf (by rw [hm.2.2.2.1, e44]; exact hfs) (by omega) (by rw [hm.2.1, e22]; exact hds)
theorem sp74a {X : am_X} {M : am_M} {N : am_N} {x : Int32} (g1 : ¬ (0 ≤ x.toInt ∧ x.toInt < (M 32 7).toInt)) : am_J X (am_eq (some (.int (-1))) (M) N) 74 0 (am_en 74 [.ref 0, .int x]) [] M N := by
  refine J_en (L := [.ref 0, .int x]) rfl ?_
  refine J_b 4 am_d74 rfl ?_
  refine J_S2s 13 (am_d74 rfl) rfl rfl (sp13) ?_
  refine J_if_ne 16 (am_d74 rfl) rfl (fun h11 => ?_) (fun h11 => ?_)
  · exact absurd (am_bi1.mp h11) g1
  · refine J_b 1 am_d74 rfl ?_
    exact J_iret (am_d74 rfl) rfl rfl ⟨rfl, rfl, rfl⟩
theorem sp173a {X : am_X} {M : am_M} {N : am_N} {x : Int32} (g1 : ¬ (0 ≤ x.toInt ∧ x.toInt < (M 120 44).toInt)) : am_J X (am_eq (some (.int (-1))) (M) N) 173 0 (am_en 173 [.ref 120, .int x]) [] M N := by
  refine J_en (L := [.ref 120, .int x]) rfl ?_
  refine J_b 2 am_d173 rfl ?_
  refine J_V1s 168 (am_d173 rfl) rfl rfl (sp168) ?_
  refine J_if_eq 16 (am_d173 rfl) rfl (fun h5 => ?_) (fun h5 => ?_)
  · refine J_b 1 am_d173 rfl ?_
    exact J_iret (am_d173 rfl) rfl rfl ⟨rfl, rfl, rfl⟩
  · exact absurd (am_bi1.mp h5) g1
theorem sp74c {X : am_X} {M : am_M} {N : am_N} {c0 f : Nat} (h : iv c0 M N) (hf : f < 16) (hfs : (f : Int) < (M 32 7).toInt) {S : Nat} (eS : M 18 7 = nI S) (hS : S ≤ 5) : am_J X (q_p (some (.int (v_of M S f))) (pm_ c0 M)) 74 0 (am_en 74 [.ref 0, .int (nI f)]) [] M N := by
  have i1 := nI_i (n := f) (by omega)
  refine J_en (L := [.ref 0, .int (nI f)]) rfl ?_
  refine J_b 4 am_d74 rfl ?_
  refine J_S2s 13 (am_d74 rfl) rfl rfl (sp13) ?_
  refine J_if_ne 16 (am_d74 rfl) rfl (fun h11 => ?_) (fun h11 => absurd h11 (am_bi1.mpr (by rw [i1]; omega)))
  refine J_b 2 am_d74 rfl ?_
  refine J_V0np 70 (am_d74 rfl) rfl rfl (sp70 h) (fun M1 N1 hl => ?_)
  obtain ⟨hm, hk, hi⟩ := hl
  have e32 : M1 32 7 = M 32 7 := by rw [hm.1 32 (by unfold rg_r sc_r; omega)]
  have e18 : M1 18 7 = M 18 7 := by rw [hm.1 18 (by unfold rg_r sc_r; omega)]
  refine J_b 3 am_d74 rfl ?_
  have q := sp75 (X := X) (N := N1) (hi N) hk hf (by rw [e32]; exact hfs) (by rw [e18]; exact eS) hS
  rw [v_md hm] at q
  refine J_V1s 75 (am_d74 rfl) rfl rfl q ?_
  exact J_iret (am_d74 rfl) rfl rfl ⟨rfl, hm, hi⟩
theorem sp173c {X : am_X} {M : am_M} {N : am_N} {c0 f : Nat} {N0 : am_N} (h : iv c0 M N0) (hf : f < 16) (hfs : (f : Int) < (M 120 44).toInt) {S : Nat} (eS : M 120 22 = nI S) (hS : S ≤ 5) : am_J X (q_p (some (.int (v_of M S f))) (fun M2 _ => ∀ N, iv c0 M2 N)) 173 0 (am_en 173 [.ref 120, .int (nI f)]) [] M N := by
  have i1 := nI_i (n := f) (by omega)
  refine J_en (L := [.ref 120, .int (nI f)]) rfl ?_
  refine J_b 2 am_d173 rfl ?_
  refine J_V1s 168 (am_d173 rfl) rfl rfl (sp168) ?_
  refine J_if_eq 16 (am_d173 rfl) rfl (fun h5 => absurd h5 (am_bi1.mpr (by rw [i1]; omega))) (fun h5 => ?_)
  refine J_b 2 am_d173 rfl ?_
  refine J_V1sp 174 (am_d173 rfl) rfl rfl (sp174 h hf eS hS) (fun M2 N2 hq => ?_)
  obtain ⟨hr, rfl⟩ := hq
  refine J_b 1 am_d173 rfl ?_
  exact J_iret (am_d173 rfl) rfl rfl ⟨rfl, iv_rd h hr⟩
theorem pr_judge {X : am_X} (x : Int32) : am_pI iv X 74 173 [.int x] := by
  intro c0 M N hc0 h
  have e22 : M 120 22 = M 18 7 := h.1.2.1.1.2
  have e44 : M 120 44 = M 32 7 := h.1.2.2.2.1.2
  have e5 := h.1.2.1.2.1
  have e16 := h.1.2.2.2.2.1
  unfold b_in at e5 e16
  by_cases g1 : 0 ≤ x.toInt ∧ x.toInt < (M 32 7).toInt
  rotate_left
  · exact pr_e (sp74a g1) (sp173a (by rw [e44]; exact g1)) (iv_up _ _ _ h)
  have ex := I_nI g1.1
  have icx := I_cl g1.1
  generalize x.toNatClampNeg = f at ex icx
  subst ex
  have hf : f < 16 := by omega
  have hfs : (f : Int) < (M 32 7).toInt := by omega
  have eS := I_nI e5.1
  have iS := I_cl e5.1
  generalize (M 18 7).toNatClampNeg = S at eS iS
  have hS : S ≤ 5 := by omega
  refine pr_m (sp74c h hf hfs eS hS) (fun M1 N1 hm hi => ?_)
  rw [← v_md hm]
  exact sp173c (hi N) hf (by rw [hm.2.2.2.1, e44]; exact hfs) (by rw [hm.2.1, e22]; exact eS) hS
theorem sp76a {X : am_X} {M : am_M} {N : am_N} {x : Int32} (g1 : ¬ (0 ≤ x.toInt ∧ x.toInt < (M 32 7).toInt)) : am_J X (am_eq (some (.int (-1))) (M) N) 76 0 (am_en 76 [.ref 0, .int x]) [] M N := by
  refine J_en (L := [.ref 0, .int x]) rfl ?_
  refine J_b 4 am_d76 rfl ?_
  refine J_S2s 13 (am_d76 rfl) rfl rfl (sp13) ?_
  refine J_if_ne 16 (am_d76 rfl) rfl (fun h11 => ?_) (fun h11 => ?_)
  · exact absurd (am_bi1.mp h11) g1
  · refine J_b 1 am_d76 rfl ?_
    exact J_iret (am_d76 rfl) rfl rfl ⟨rfl, rfl, rfl⟩
theorem sp175a {X : am_X} {M : am_M} {N : am_N} {x : Int32} (g1 : ¬ (0 ≤ x.toInt ∧ x.toInt < (M 120 44).toInt)) : am_J X (am_eq (some (.int (-1))) (M) N) 175 0 (am_en 175 [.ref 120, .int x]) [] M N := by
  refine J_en (L := [.ref 120, .int x]) rfl ?_
  refine J_b 2 am_d175 rfl ?_
  refine J_V1s 168 (am_d175 rfl) rfl rfl (sp168) ?_
  refine J_if_eq 16 (am_d175 rfl) rfl (fun h5 => ?_) (fun h5 => ?_)
  · refine J_b 1 am_d175 rfl ?_
    exact J_iret (am_d175 rfl) rfl rfl ⟨rfl, rfl, rfl⟩
  · exact absurd (am_bi1.mp h5) g1
theorem sp76c {X : am_X} {M : am_M} {N : am_N} {c0 f : Nat} (h : iv c0 M N) (hf : f < 16) (hfs : (f : Int) < (M 32 7).toInt) {S : Nat} (eS : M 18 7 = nI S) (hS : S ≤ 5) : am_J X (q_p (some (.int (b_of M S f))) (pm_ c0 M)) 76 0 (am_en 76 [.ref 0, .int (nI f)]) [] M N := by
  have i1 := nI_i (n := f) (by omega)
  refine J_en (L := [.ref 0, .int (nI f)]) rfl ?_
  refine J_b 4 am_d76 rfl ?_
  refine J_S2s 13 (am_d76 rfl) rfl rfl (sp13) ?_
  refine J_if_ne 16 (am_d76 rfl) rfl (fun h11 => ?_) (fun h11 => absurd h11 (am_bi1.mpr (by rw [i1]; omega)))
  refine J_b 2 am_d76 rfl ?_
  refine J_V0np 70 (am_d76 rfl) rfl rfl (sp70 h) (fun M1 N1 hl => ?_)
  obtain ⟨hm, hk, hi⟩ := hl
  have e32 : M1 32 7 = M 32 7 := by rw [hm.1 32 (by unfold rg_r sc_r; omega)]
  have e18 : M1 18 7 = M 18 7 := by rw [hm.1 18 (by unfold rg_r sc_r; omega)]
  refine J_b 3 am_d76 rfl ?_
  have q := sp77 (X := X) (N := N1) (hi N) hk hf (by rw [e32]; exact hfs) (by rw [e18]; exact eS) hS
  rw [b_md hm] at q
  refine J_V1s 77 (am_d76 rfl) rfl rfl q ?_
  exact J_iret (am_d76 rfl) rfl rfl ⟨rfl, hm, hi⟩
theorem sp175c {X : am_X} {M : am_M} {N : am_N} {c0 f : Nat} {N0 : am_N} (h : iv c0 M N0) (hf : f < 16) (hfs : (f : Int) < (M 120 44).toInt) {S : Nat} (eS : M 120 22 = nI S) (hS : S ≤ 5) : am_J X (q_p (some (.int (b_of M S f))) (fun M2 _ => ∀ N, iv c0 M2 N)) 175 0 (am_en 175 [.ref 120, .int (nI f)]) [] M N := by
  have i1 := nI_i (n := f) (by omega)
  refine J_en (L := [.ref 120, .int (nI f)]) rfl ?_
  refine J_b 2 am_d175 rfl ?_
  refine J_V1s 168 (am_d175 rfl) rfl rfl (sp168) ?_
  refine J_if_eq 16 (am_d175 rfl) rfl (fun h5 => absurd h5 (am_bi1.mpr (by rw [i1]; omega))) (fun h5 => ?_)
  refine J_b 2 am_d175 rfl ?_
  refine J_V1sp 176 (am_d175 rfl) rfl rfl (sp176 h hf eS hS) (fun M2 N2 hq => ?_)
  obtain ⟨hr, rfl⟩ := hq
  refine J_b 1 am_d175 rfl ?_
  exact J_iret (am_d175 rfl) rfl rfl ⟨rfl, iv_rd h hr⟩
theorem pr_best {X : am_X} (x : Int32) : am_pI iv X 76 175 [.int x] := by
  intro c0 M N hc0 h
  have e22 : M 120 22 = M 18 7 := h.1.2.1.1.2
  have e44 : M 120 44 = M 32 7 := h.1.2.2.2.1.2
  have e5 := h.1.2.1.2.1
  have e16 := h.1.2.2.2.2.1
  unfold b_in at e5 e16
  by_cases g1 : 0 ≤ x.toInt ∧ x.toInt < (M 32 7).toInt
  rotate_left
  · exact pr_e (sp76a g1) (sp175a (by rw [e44]; exact g1)) (iv_up _ _ _ h)
  have ex := I_nI g1.1
  have icx := I_cl g1.1
  generalize x.toNatClampNeg = f at ex icx
  subst ex
  have hf : f < 16 := by omega
  have hfs : (f : Int) < (M 32 7).toInt := by omega
  have eS := I_nI e5.1
  have iS := I_cl e5.1
  generalize (M 18 7).toNatClampNeg = S at eS iS
  have hS : S ≤ 5 := by omega
  refine pr_m (sp76c h hf hfs eS hS) (fun M1 N1 hm hi => ?_)
  rw [← b_md hm]
  exact sp175c (hi N) hf (by rw [hm.2.2.2.1, e44]; exact hfs) (by rw [hm.2.1, e22]; exact eS) hS
def k_of (M : am_M) (S f : Nat) : Int32 := if b_of M S f < 0 then 0 else c_cd M f (b_of M S f).toNatClampNeg
theorem k_md {M M' : am_M} (h : md M M') {S f : Nat} : k_of M' S f = k_of M S f := by
  unfold k_of
  rw [b_md h, cd_md h]
theorem b_nn {M : am_M} {S f : Nat} (hS : S ≤ 5) (h : 0 ≤ b_of M S f) : ∃ k, k < S ∧ b_of M S f = nI k := by
  rcases bst_b (w := w_of M f) (n := S) (by omega) with h1 | h1
  · have : b_of M S f = -1 := h1
    rw [this] at h
    exact absurd h (by decide)
  · exact h1
theorem sp79 {X : am_X} {M : am_M} {N : am_N} {f c : Nat} (hf : f < 16) (hc : c < 5) : am_J X (am_eq (some (.int (M (61 + f) c))) (M) N) 79 0 (am_en 79 [.ref 59, .int (nI f), .int (nI c)]) [] M N := by
  refine J_en (L := [.ref 59, .int (nI f), .int (nI c)]) rfl ?_
  refine J_b 3 am_d79 rfl ?_
  refine J_aaldk (61 + f) (am_d79 rfl) rfl (vp_in_nI hf (by decide)) (by rw [nI_c (by omega)]) ?_
  refine J_b 1 am_d79 rfl ?_
  refine J_iald (am_d79 rfl) (sh61 f hf) (vp_in_nI hc (by decide)) ?_
  rw [nI_c (n := c) (by omega)]
  exact J_iret (am_d79 rfl) rfl rfl ⟨rfl, rfl, rfl⟩
theorem sp78a {X : am_X} {M : am_M} {N : am_N} {x : Int32} (g1 : ¬ (0 ≤ x.toInt ∧ x.toInt < (M 32 7).toInt)) : am_J X (am_eq (some (.int (-1))) (M) N) 78 0 (am_en 78 [.ref 0, .int x]) [] M N := by
  refine J_en (L := [.ref 0, .int x, .retAddr 0]) rfl ?_
  refine J_b 4 am_d78 rfl ?_
  refine J_S2s 13 (am_d78 rfl) rfl rfl (sp13) ?_
  refine J_if_ne 16 (am_d78 rfl) rfl (fun h11 => ?_) (fun h11 => ?_)
  · exact absurd (am_bi1.mp h11) g1
  · refine J_b 1 am_d78 rfl ?_
    exact J_iret (am_d78 rfl) rfl rfl ⟨rfl, rfl, rfl⟩
theorem sp177a {X : am_X} {M : am_M} {N : am_N} {x : Int32} (g1 : ¬ (0 ≤ x.toInt ∧ x.toInt < (M 120 44).toInt)) : am_J X (am_eq (some (.int (-1))) (M) N) 177 0 (am_en 177 [.ref 120, .int x]) [] M N := by
  refine J_en (L := [.ref 120, .int x, .retAddr 0]) rfl ?_
  refine J_b 2 am_d177 rfl ?_
  refine J_V1s 168 (am_d177 rfl) rfl rfl (sp168) ?_
  refine J_if_ne 10 (am_d177 rfl) rfl (fun h5 => ?_) (fun h5 => ?_)
  · exact absurd (am_bi1.mp h5) g1
  · refine J_b 1 am_d177 rfl ?_
    exact J_iret (am_d177 rfl) rfl rfl ⟨rfl, rfl, rfl⟩
theorem sp78c {X : am_X} {M : am_M} {N : am_N} {c0 f : Nat} (h : iv c0 M N) (hf : f < 16) (hfs : (f : Int) < (M 32 7).toInt) {S : Nat} (eS : M 18 7 = nI S) (hS : S ≤ 5) : am_J X (q_p (some (.int (k_of M S f))) (pm_ c0 M)) 78 0 (am_en 78 [.ref 0, .int (nI f)]) [] M N := by
  have i1 := nI_i (n := f) (by omega)
  refine J_en (L := [.ref 0, .int (nI f), .retAddr 0]) rfl ?_
  refine J_b 4 am_d78 rfl ?_
  refine J_S2s 13 (am_d78 rfl) rfl rfl (sp13) ?_
  refine J_if_ne 16 (am_d78 rfl) rfl (fun h11 => ?_) (fun h11 => absurd h11 (am_bi1.mpr (by rw [i1]; omega)))
  refine J_b 2 am_d78 rfl ?_
  refine J_V0np 70 (am_d78 rfl) rfl rfl (sp70 h) (fun M1 N1 hl => ?_)
  obtain ⟨hm, hk, hi⟩ := hl
  have e32 : M1 32 7 = M 32 7 := by rw [hm.1 32 (by unfold rg_r sc_r; omega)]
  have e18 : M1 18 7 = M 18 7 := by rw [hm.1 18 (by unfold rg_r sc_r; omega)]
  refine J_b 3 am_d78 rfl ?_
  have q := sp77 (X := X) (N := N1) (hi N) hk hf (by rw [e32]; exact hfs) (by rw [e18]; exact eS) hS
  rw [b_md hm] at q
  refine J_V1s 77 (am_d78 rfl) rfl rfl q ?_
  refine J_b 2 am_d78 rfl ?_
  refine J_if_ge 40 (am_d78 rfl) rfl (fun h33 => ?_) (fun h33 => ?_)
  · obtain ⟨k, hk5, ek⟩ := b_nn hS h33
    have q := sp79 (X := X) (M := M1) (N := N1) (f := f) (c := k) hf (by omega)
    rw [(hi N).2.2.1 f k (by rw [e32]; exact hfs) (by rw [e18, eS, nI_i (by omega)]; omega), cd_md hm] at q
    refine J_b 4 am_d78 rfl ?_
    refine J_st5 (congrArg (fun z => ([.int z, .int (nI f), .ref 59] : am_V)) ek) ?_
    refine J_V2s 79 (am_d78 rfl) rfl rfl q ?_
    exact J_iret (am_d78 rfl) rfl rfl ⟨by unfold k_of; rw [if_neg (Int32.not_lt.mpr h33), ek, nI_c (by omega)], hm, hi⟩
  · refine J_b 2 am_d78 rfl ?_
    exact J_iret (am_d78 rfl) rfl rfl ⟨by unfold k_of; rw [if_pos (Int32.not_le.mp h33)]; rfl, hm, hi⟩
theorem sp177c {X : am_X} {M : am_M} {N : am_N} {c0 f : Nat} {N0 : am_N} (h : iv c0 M N0) (hf : f < 16) (hfs : (f : Int) < (M 120 44).toInt) {S : Nat} (eS : M 120 22 = nI S) (hS : S ≤ 5) : am_J X (q_p (some (.int (k_of M S f))) (fun M2 _ => ∀ N, iv c0 M2 N)) 177 0 (am_en 177 [.ref 120, .int (nI f)]) [] M N := by
  have i1 := nI_i (n := f) (by omega)
  refine J_en (L := [.ref 120, .int (nI f), .retAddr 0]) rfl ?_
  refine J_b 2 am_d177 rfl ?_
  refine J_V1s 168 (am_d177 rfl) rfl rfl (sp168) ?_
  refine J_if_ne 10 (am_d177 rfl) rfl (fun h5 => ?_) (fun h5 => absurd h5 (am_bi1.mpr (by rw [i1]; omega)))
  refine J_b 2 am_d177 rfl ?_
  refine J_V1sp 176 (am_d177 rfl) rfl rfl (sp176 h hf eS hS) (fun M2 N2 hq => ?_)
  obtain ⟨hr, rfl⟩ := hq
  refine J_b 2 am_d177 rfl ?_
  refine J_if_ge 24 (am_d177 rfl) rfl (fun h17 => ?_) (fun h17 => ?_)
  · obtain ⟨k, hk5, ek⟩ := b_nn hS h17
    have q := sp171i (X := X) (N := N2) (iv_rd h hr N0) hf (show k < 5 by omega)
    rw [cd_md (md_sc (rd_sc hr))] at q
    refine J_b 3 am_d177 rfl ?_
    refine J_st5 (congrArg (fun z => ([.int z, .int (nI f), .ref 120] : am_V)) ek) ?_
    refine J_V2s 171 (am_d177 rfl) rfl rfl q ?_
    exact J_iret (am_d177 rfl) rfl rfl ⟨by unfold k_of; rw [if_neg (Int32.not_lt.mpr h17), ek, nI_c (by omega)], iv_rd h hr⟩
  · refine J_b 2 am_d177 rfl ?_
    exact J_iret (am_d177 rfl) rfl rfl ⟨by unfold k_of; rw [if_pos (Int32.not_le.mp h17)]; rfl, iv_rd h hr⟩
theorem pr_cards {X : am_X} (x : Int32) : am_pI iv X 78 177 [.int x] := by
  intro c0 M N hc0 h
  have e22 : M 120 22 = M 18 7 := h.1.2.1.1.2
  have e44 : M 120 44 = M 32 7 := h.1.2.2.2.1.2
  have e5 := h.1.2.1.2.1
  have e16 := h.1.2.2.2.2.1
  unfold b_in at e5 e16
  by_cases g1 : 0 ≤ x.toInt ∧ x.toInt < (M 32 7).toInt
  rotate_left
  · exact pr_e (sp78a g1) (sp177a (by rw [e44]; exact g1)) (iv_up _ _ _ h)
  have ex := I_nI g1.1
  have icx := I_cl g1.1
  generalize x.toNatClampNeg = f at ex icx
  subst ex
  have hf : f < 16 := by omega
  have hfs : (f : Int) < (M 32 7).toInt := by omega
  have eS := I_nI e5.1
  have iS := I_cl e5.1
  generalize (M 18 7).toNatClampNeg = S at eS iS
  have hS : S ≤ 5 := by omega
  refine pr_m (sp78c h hf hfs eS hS) (fun M1 N1 hm hi => ?_)
  rw [← k_md hm]
  exact sp177c (hi N) hf (by rw [hm.2.2.2.1, e44]; exact hfs) (by rw [hm.2.1, e22]; exact eS) hS
theorem sp80a {X : am_X} {M : am_M} {N : am_N} {x : Int32} (g1 : ¬ (0 ≤ x.toInt ∧ x.toInt < (M 32 7).toInt)) : am_J X (am_eq (some (.int (-1))) (M) N) 80 0 (am_en 80 [.ref 0, .int x]) [] M N := by
  refine J_en (L := [.ref 0, .int x]) rfl ?_
  refine J_b 4 am_d80 rfl ?_
  refine J_S2s 13 (am_d80 rfl) rfl rfl (sp13) ?_
  refine J_if_ne 16 (am_d80 rfl) rfl (fun h11 => ?_) (fun h11 => ?_)
  · exact absurd (am_bi1.mp h11) g1
  · refine J_b 1 am_d80 rfl ?_
    exact J_iret (am_d80 rfl) rfl rfl ⟨rfl, rfl, rfl⟩
theorem sp178a {X : am_X} {M : am_M} {N : am_N} {x : Int32} (g1 : ¬ (0 ≤ x.toInt ∧ x.toInt < (M 120 44).toInt)) : am_J X (am_eq (some (.int (-1))) (M) N) 178 0 (am_en 178 [.ref 120, .int x]) [] M N := by
  refine J_en (L := [.ref 120, .int x]) rfl ?_
  refine J_b 2 am_d178 rfl ?_
  refine J_V1s 168 (am_d178 rfl) rfl rfl (sp168) ?_
  refine J_if_eq 16 (am_d178 rfl) rfl (fun h5 => ?_) (fun h5 => ?_)
  · refine J_b 1 am_d178 rfl ?_
    exact J_iret (am_d178 rfl) rfl rfl ⟨rfl, rfl, rfl⟩
  · exact absurd (am_bi1.mp h5) g1
theorem sp80c {X : am_X} {M : am_M} {N : am_N} {f : Nat} (hf : f < 16) (hfs : (f : Int) < (M 32 7).toInt) : am_J X (am_eq (some (.int (t_of M f))) (M) N) 80 0 (am_en 80 [.ref 0, .int (nI f)]) [] M N := by
  have i1 := nI_i (n := f) (by omega)
  refine J_en (L := [.ref 0, .int (nI f)]) rfl ?_
  refine J_b 4 am_d80 rfl ?_
  refine J_S2s 13 (am_d80 rfl) rfl rfl (sp13) ?_
  refine J_if_ne 16 (am_d80 rfl) rfl (fun h11 => ?_) (fun h11 => absurd h11 (am_bi1.mpr (by rw [i1]; omega)))
  refine J_b 3 am_d80 rfl ?_
  refine J_V1s 81 (am_d80 rfl) rfl rfl (sp81 hf) ?_
  exact J_iret (am_d80 rfl) rfl rfl ⟨rfl, rfl, rfl⟩
theorem sp178c {X : am_X} {M : am_M} {N : am_N} {f : Nat} (hf : f < 16) (hfs : (f : Int) < (M 120 44).toInt) (f1 : M 153 = M 33) (f2 : M 154 = M 34) (f7 : M 159 = M 39) : am_J X (am_eq (some (.int (t_of M f))) (M) N) 178 0 (am_en 178 [.ref 120, .int (nI f)]) [] M N := by
  have i1 := nI_i (n := f) (by omega)
  refine J_en (L := [.ref 120, .int (nI f)]) rfl ?_
  refine J_b 2 am_d178 rfl ?_
  refine J_V1s 168 (am_d178 rfl) rfl rfl (sp168) ?_
  refine J_if_eq 16 (am_d178 rfl) rfl (fun h5 => absurd h5 (am_bi1.mpr (by rw [i1]; omega))) (fun h5 => ?_)
  refine J_b 2 am_d178 rfl ?_
  refine J_V1s 179 (am_d178 rfl) rfl rfl (sp179 hf f1 f2 f7) ?_
  refine J_b 1 am_d178 rfl ?_
  exact J_iret (am_d178 rfl) rfl rfl ⟨rfl, rfl, rfl⟩
theorem pr_twin {X : am_X} (x : Int32) : am_pI iv X 80 178 [.int x] := by
  intro c0 M N hc0 h
  have e22 : M 120 22 = M 18 7 := h.1.2.1.1.2
  have e44 : M 120 44 = M 32 7 := h.1.2.2.2.1.2
  have e5 := h.1.2.1.2.1
  have e16 := h.1.2.2.2.2.1
  unfold b_in at e5 e16
  by_cases g1 : 0 ≤ x.toInt ∧ x.toInt < (M 32 7).toInt
  rotate_left
  · exact pr_e (sp80a g1) (sp178a (by rw [e44]; exact g1)) (iv_up _ _ _ h)
  have ex := I_nI g1.1
  have icx := I_cl g1.1
  generalize x.toNatClampNeg = f at ex icx
  subst ex
  have hf : f < 16 := by omega
  have hfs : (f : Int) < (M 32 7).toInt := by omega
  obtain ⟨⟨f1, f2, _, _, _, _, f7⟩, _⟩ := h.1.2.2.2.1
  exact pr_e (sp80c hf hfs) (sp178c hf (by rw [e44]; exact hfs) f1 f2 f7) (iv_up _ _ _ h)
