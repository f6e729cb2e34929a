/-! ===== the pairs got, letters, count ===== -/
theorem nI_m1 {i : Nat} (h : i < 1000) : ¬ nI i = -1 := by
  intro z
  have := congrArg Int32.toInt z
  rw [nI_i (by omega)] at this
  have e : (-1 : Int32).toInt = -1 := rfl
  omega
theorem any_1 {any nm : Int32} (h : (any = 1 ∧ nm = -1) ∨ (any = 0 ∧ ¬ nm = -1)) (h2 : ¬ any = 0) : nm = -1 := h.elim (fun z => z.2) (fun z => absurd z.1 h2)
theorem any_0 {any nm : Int32} (h : (any = 1 ∧ nm = -1) ∨ (any = 0 ∧ ¬ nm = -1)) (h2 : any = 0) : ¬ nm = -1 := by
  rcases h with ⟨h1, _⟩ | ⟨_, h1⟩
  · rw [h2] at h1
    exact absurd h1 (by decide)
  · exact h1
theorem lp83 {X : am_X} {M : am_M} {N N0 : am_N} {c0 S F d : Nat} {nm as any : Int32} (h : iv c0 M N0) (hk : M 52 4 = M 1 11) (eS : M 18 7 = nI S) (hS : S ≤ 5) (eF : M 32 7 = nI F) (hF : F ≤ 16) (hany : (any = 1 ∧ nm = -1) ∨ (any = 0 ∧ ¬ nm = -1)) : ∀ (n i : Nat), i + n = F → ∀ (x : Int32), x = nI i → ∀ (a : Int32), a = c_gb (M 38) (g_of M S) (M 35) (nI d) nm as (-1) i → ∀ (z7 : Value), am_J X (am_eq (some (.int (c_gb (M 38) (g_of M S) (M 35) (nI d) nm as (-1) F))) M N) 83 70 [.ref 0, .int (nI d), .int nm, .int as, .int any, .int a, .int x, z7] [] M N := by
  intro n
  induction n with
  | zero =>
    intro i hn x ex a ha z7
    have e : i = F := by omega
    subst e
    subst ex
    have hge : M 32 7 ≤ nI i := by rw [eF]; exact Int32.le_refl _
    refine J_b 4 am_d83 rfl ?_
    refine J_icmp_ge 149 (am_d83 rfl) rfl (fun h79 => ?_) (fun h79 => absurd (hge) h79)
    refine J_b 1 am_d83 rfl ?_
    exact J_iret (am_d83 rfl) rfl rfl ⟨by rw [ha], rfl, rfl⟩
  | succ n ih =>
    intro i hn x ex a ha z7
    subst ex
    have hlt : ¬ M 32 7 ≤ nI i := by rw [eF]; exact nI_ngt (by omega) (by omega)
    refine J_b 4 am_d83 rfl ?_
    refine J_icmp_ge 149 (am_d83 rfl) rfl (fun h79 => absurd h79 hlt) (fun h79 => ?_)
    refine J_b 1 am_d83 rfl ?_
    refine J_if_ne 101 (am_d83 rfl) rfl (fun h84 => ?_) (fun h84 => ?_)
    · refine J_b 4 am_d83 rfl ?_
      refine J_if_eq 143 (am_d83 rfl) rfl (fun h110 => absurd h110 (by decide)) (fun h110 => ?_)
      refine J_b 4 am_d83 rfl ?_
      refine J_iald (am_d83 rfl) rfl (vp_in_nI (show i < 16 by omega) (by decide)) ?_
      rw [nI_c (n := i) (by omega)]
      show am_J X _ 83 123 _ (.int (M 38 i) :: _) _ N
      refine J_b 1 am_d83 rfl ?_
      refine J_icmp_gt 143 (am_d83 rfl) rfl (fun h124 => ?_) (fun h124 => ?_)
      · refine J_b 2 am_d83 rfl ?_
        exact ih (i + 1) (by omega) _ (nI_1 i) _ (gb_n0 ha (fun z => absurd h124 (Int32.not_lt.mpr z.2.1))) _
      · refine J_b 3 am_d83 rfl ?_
        refine J_V1s 85 (am_d83 rfl) rfl rfl (sp85 h hk (show i < 16 by omega) (by rw [eF, nI_i (by omega)]; omega) eS hS) ?_
        refine J_b 1 am_d83 rfl ?_
        refine J_icmp_ne 143 (am_d83 rfl) rfl (fun h137 => ?_) (fun h137 => ?_)
        · refine J_b 2 am_d83 rfl ?_
          exact ih (i + 1) (by omega) _ (nI_1 i) _ (gb_n0 ha (fun z => h137 z.2.2.1)) _
        · refine J_b 3 am_d83 rfl ?_
          exact ih (i + 1) (by omega) _ (nI_1 i) _ (gb_p ha ⟨nI_m1 (by omega), Int32.not_lt.mp h124, h137, .inl (any_1 hany h84)⟩) _
    · refine J_b 4 am_d83 rfl ?_
      refine J_iald (am_d83 rfl) rfl (vp_in_nI (show i < 16 by omega) (by decide)) ?_
      rw [nI_c (n := i) (by omega)]
      show am_J X _ 83 97 _ (.int (M 35 i) :: _) _ N
      refine J_b 1 am_d83 rfl ?_
      refine J_icmp_ne 105 (am_d83 rfl) rfl (fun h98 => ?_) (fun h98 => ?_)
      · refine J_b 3 am_d83 rfl ?_
        refine J_if_eq 143 (am_d83 rfl) rfl (fun h110 => ?_) (fun h110 => absurd (rfl) h110)
        refine J_b 2 am_d83 rfl ?_
        exact ih (i + 1) (by omega) _ (nI_1 i) _ (gb_n0 ha (fun z => z.2.2.2.elim (any_0 hany h84) h98)) _
      · refine J_b 4 am_d83 rfl ?_
        refine J_if_eq 143 (am_d83 rfl) rfl (fun h110 => absurd h110 (by decide)) (fun h110 => ?_)
        refine J_b 4 am_d83 rfl ?_
        refine J_iald (am_d83 rfl) rfl (vp_in_nI (show i < 16 by omega) (by decide)) ?_
        rw [nI_c (n := i) (by omega)]
        show am_J X _ 83 123 _ (.int (M 38 i) :: _) _ N
        refine J_b 1 am_d83 rfl ?_
        refine J_icmp_gt 143 (am_d83 rfl) rfl (fun h124 => ?_) (fun h124 => ?_)
        · refine J_b 2 am_d83 rfl ?_
          exact ih (i + 1) (by omega) _ (nI_1 i) _ (gb_n0 ha (fun z => absurd h124 (Int32.not_lt.mpr z.2.1))) _
        · refine J_b 3 am_d83 rfl ?_
          refine J_V1s 85 (am_d83 rfl) rfl rfl (sp85 h hk (show i < 16 by omega) (by rw [eF, nI_i (by omega)]; omega) eS hS) ?_
          refine J_b 1 am_d83 rfl ?_
          refine J_icmp_ne 143 (am_d83 rfl) rfl (fun h137 => ?_) (fun h137 => ?_)
          · refine J_b 2 am_d83 rfl ?_
            exact ih (i + 1) (by omega) _ (nI_1 i) _ (gb_n0 ha (fun z => h137 z.2.2.1)) _
          · refine J_b 3 am_d83 rfl ?_
            exact ih (i + 1) (by omega) _ (nI_1 i) _ (gb_p ha ⟨nI_m1 (by omega), Int32.not_lt.mp h124, h137, .inr h98⟩) _
theorem sp83a {X : am_X} {M : am_M} {N : am_N} {x nm as : Int32} (g1 : ¬ ((0 ≤ x.toInt ∧ x.toInt < (M 18 7).toInt) ∧ (nm = -1 ∨ (0 ≤ nm.toInt ∧ nm.toInt < (M 26 5).toInt)))) : am_J X (am_eq (some (.int (-1))) M N) 83 0 (am_en 83 [.ref 0, .int x, .int nm, .int as]) [] M N := by
  refine J_en (L := [.ref 0, .int x, .int nm, .int as, .retAddr 0, .retAddr 0, .retAddr 0, .retAddr 0]) rfl ?_
  by_cases hnm : nm = -1
  · refine J_b 2 am_d83 rfl ?_
    refine J_icmp_ne 9 (am_d83 rfl) rfl (fun h2 => absurd hnm h2) (fun h2 => ?_)
    refine J_b 7 am_d83 rfl ?_
    refine J_S2s 13 (am_d83 rfl) rfl rfl (sp13) ?_
    refine J_if_eq 45 (am_d83 rfl) rfl (fun h23 => ?_) (fun h23 => ?_)
    · refine J_b 1 am_d83 rfl ?_
      exact J_iret (am_d83 rfl) rfl rfl ⟨rfl, rfl, rfl⟩
    · refine J_b 1 am_d83 rfl ?_
      refine J_if_ne 47 (am_d83 rfl) rfl (fun h28 => ?_) (fun h28 => absurd h28 (by decide))
      exact absurd ⟨am_bi1.mp h23, .inl hnm⟩ g1
  · refine J_b 2 am_d83 rfl ?_
    refine J_icmp_ne 9 (am_d83 rfl) rfl (fun h2 => ?_) (fun h2 => absurd h2 hnm)
    refine J_b 6 am_d83 rfl ?_
    refine J_S2s 13 (am_d83 rfl) rfl rfl (sp13) ?_
    refine J_if_eq 45 (am_d83 rfl) rfl (fun h23 => ?_) (fun h23 => ?_)
    · refine J_b 1 am_d83 rfl ?_
      exact J_iret (am_d83 rfl) rfl rfl ⟨rfl, rfl, rfl⟩
    · refine J_b 1 am_d83 rfl ?_
      refine J_if_ne 47 (am_d83 rfl) rfl (fun h28 => absurd rfl h28) (fun h28 => ?_)
      refine J_b 4 am_d83 rfl ?_
      refine J_S2s 13 (am_d83 rfl) rfl rfl (sp13) ?_
      refine J_if_ne 47 (am_d83 rfl) rfl (fun h42 => ?_) (fun h42 => ?_)
      · exact absurd ⟨am_bi1.mp h23, .inr (am_bi1.mp h42)⟩ g1
      · refine J_b 1 am_d83 rfl ?_
        exact J_iret (am_d83 rfl) rfl rfl ⟨rfl, rfl, rfl⟩
theorem sp83b {X : am_X} {M : am_M} {N : am_N} {x nm as : Int32} (g1 : (0 ≤ x.toInt ∧ x.toInt < (M 18 7).toInt) ∧ (nm = -1 ∨ (0 ≤ nm.toInt ∧ nm.toInt < (M 26 5).toInt))) (g2 : ¬ (0 ≤ as.toInt ∧ as.toInt ≤ 999)) : am_J X (am_eq (some (.int (-2))) M N) 83 0 (am_en 83 [.ref 0, .int x, .int nm, .int as]) [] M N := by
  refine J_en (L := [.ref 0, .int x, .int nm, .int as, .retAddr 0, .retAddr 0, .retAddr 0, .retAddr 0]) rfl ?_
  by_cases hnm : nm = -1
  · refine J_b 2 am_d83 rfl ?_
    refine J_icmp_ne 9 (am_d83 rfl) rfl (fun h2 => absurd hnm h2) (fun h2 => ?_)
    refine J_b 7 am_d83 rfl ?_
    refine J_S2s 13 (am_d83 rfl) rfl rfl (sp13) ?_
    refine J_if_eq 45 (am_d83 rfl) rfl (fun h23 => absurd h23 (am_bi1.mpr g1.1)) (fun h23 => ?_)
    refine J_b 1 am_d83 rfl ?_
    refine J_if_ne 47 (am_d83 rfl) rfl (fun h28 => ?_) (fun h28 => absurd h28 (by decide))
    refine J_b 1 am_d83 rfl ?_
    refine J_S1s 84 (am_d83 rfl) rfl rfl (sp84) ?_
    refine J_if_ne 57 (am_d83 rfl) rfl (fun h51 => absurd (am_bi1.mp h51) g2) (fun h51 => ?_)
    refine J_b 1 am_d83 rfl ?_
    exact J_iret (am_d83 rfl) rfl rfl ⟨rfl, rfl, rfl⟩
  · refine J_b 2 am_d83 rfl ?_
    refine J_icmp_ne 9 (am_d83 rfl) rfl (fun h2 => ?_) (fun h2 => absurd h2 hnm)
    refine J_b 6 am_d83 rfl ?_
    refine J_S2s 13 (am_d83 rfl) rfl rfl (sp13) ?_
    refine J_if_eq 45 (am_d83 rfl) rfl (fun h23 => absurd h23 (am_bi1.mpr g1.1)) (fun h23 => ?_)
    refine J_b 1 am_d83 rfl ?_
    refine J_if_ne 47 (am_d83 rfl) rfl (fun h28 => absurd rfl h28) (fun h28 => ?_)
    refine J_b 4 am_d83 rfl ?_
    refine J_S2s 13 (am_d83 rfl) rfl rfl (sp13) ?_
    refine J_if_ne 47 (am_d83 rfl) rfl (fun h42 => ?_) (fun h42 => absurd h42 (am_bi1.mpr (g1.2.elim (fun z => absurd z hnm) id)))
    refine J_b 1 am_d83 rfl ?_
    refine J_S1s 84 (am_d83 rfl) rfl rfl (sp84) ?_
    refine J_if_ne 57 (am_d83 rfl) rfl (fun h51 => absurd (am_bi1.mp h51) g2) (fun h51 => ?_)
    refine J_b 1 am_d83 rfl ?_
    exact J_iret (am_d83 rfl) rfl rfl ⟨rfl, rfl, rfl⟩
theorem sp83c {X : am_X} {M : am_M} {N : am_N} {nm as : Int32} {d c0 S F : Nat} (h : iv c0 M N) (eS : M 18 7 = nI S) (hS : S ≤ 5) (eF : M 32 7 = nI F) (hF : F ≤ 16) (g1 : (0 ≤ (nI d).toInt ∧ (nI d).toInt < (M 18 7).toInt) ∧ (nm = -1 ∨ (0 ≤ nm.toInt ∧ nm.toInt < (M 26 5).toInt))) (g2 : 0 ≤ as.toInt ∧ as.toInt ≤ 999) : am_J X (q_p (some (.int (c_gb (M 38) (g_of M S) (M 35) (nI d) nm as (-1) F))) (pm_ c0 M)) 83 0 (am_en 83 [.ref 0, .int (nI d), .int nm, .int as]) [] M N := by
  refine J_en (L := [.ref 0, .int (nI d), .int nm, .int as, .retAddr 0, .retAddr 0, .retAddr 0, .retAddr 0]) rfl ?_
  by_cases hnm : nm = -1
  · refine J_b 2 am_d83 rfl ?_
    refine J_icmp_ne 9 (am_d83 rfl) rfl (fun h2 => absurd hnm h2) (fun h2 => ?_)
    refine J_b 7 am_d83 rfl ?_
    refine J_S2s 13 (am_d83 rfl) rfl rfl (sp13) ?_
    refine J_if_eq 45 (am_d83 rfl) rfl (fun h23 => absurd h23 (am_bi1.mpr g1.1)) (fun h23 => ?_)
    refine J_b 1 am_d83 rfl ?_
    refine J_if_ne 47 (am_d83 rfl) rfl (fun h28 => ?_) (fun h28 => absurd h28 (by decide))
    refine J_b 1 am_d83 rfl ?_
    refine J_S1s 84 (am_d83 rfl) rfl rfl (sp84) ?_
    refine J_if_ne 57 (am_d83 rfl) rfl (fun h51 => ?_) (fun h51 => absurd h51 (am_bi1.mpr g2))
    refine J_b 2 am_d83 rfl ?_
    refine J_V0np 70 (am_d83 rfl) rfl rfl (sp70 h) (fun M1 N1 hl => ?_)
    obtain ⟨hm, hk, hi⟩ := hl
    have e32 : M1 32 7 = M 32 7 := by rw [hm.1 32 (by unfold rg_r sc_r; omega)]
    have e18 : M1 18 7 = M 18 7 := by rw [hm.1 18 (by unfold rg_r sc_r; omega)]
    have hgb : c_gb (M1 38) (g_of M1 S) (M1 35) (nI d) nm as (-1) F = c_gb (M 38) (g_of M S) (M 35) (nI d) nm as (-1) F := by
      rw [hm.1 38 (by unfold rg_r sc_r; omega), hm.1 35 (by unfold rg_r sc_r; omega), show g_of M1 S = g_of M S from funext fun f => g_md hm]
    refine J_b 4 am_d83 rfl ?_
    rw [← hgb]
    exact J_eq (lp83 (hi N) hk (by rw [e18]; exact eS) hS (by rw [e32]; exact eF) hF (.inl ⟨rfl, hnm⟩) F 0 (Nat.zero_add _) _ rfl _ rfl _) ⟨rfl, hm, hi⟩
  · refine J_b 2 am_d83 rfl ?_
    refine J_icmp_ne 9 (am_d83 rfl) rfl (fun h2 => ?_) (fun h2 => absurd h2 hnm)
    refine J_b 6 am_d83 rfl ?_
    refine J_S2s 13 (am_d83 rfl) rfl rfl (sp13) ?_
    refine J_if_eq 45 (am_d83 rfl) rfl (fun h23 => absurd h23 (am_bi1.mpr g1.1)) (fun h23 => ?_)
    refine J_b 1 am_d83 rfl ?_
    refine J_if_ne 47 (am_d83 rfl) rfl (fun h28 => absurd rfl h28) (fun h28 => ?_)
    refine J_b 4 am_d83 rfl ?_
    refine J_S2s 13 (am_d83 rfl) rfl rfl (sp13) ?_
    refine J_if_ne 47 (am_d83 rfl) rfl (fun h42 => ?_) (fun h42 => absurd h42 (am_bi1.mpr (g1.2.elim (fun z => absurd z hnm) id)))
    refine J_b 1 am_d83 rfl ?_
    refine J_S1s 84 (am_d83 rfl) rfl rfl (sp84) ?_
    refine J_if_ne 57 (am_d83 rfl) rfl (fun h51 => ?_) (fun h51 => absurd h51 (am_bi1.mpr g2))
    refine J_b 2 am_d83 rfl ?_
    refine J_V0np 70 (am_d83 rfl) rfl rfl (sp70 h) (fun M1 N1 hl => ?_)
    obtain ⟨hm, hk, hi⟩ := hl
    have e32 : M1 32 7 = M 32 7 := by rw [hm.1 32 (by unfold rg_r sc_r; omega)]
    have e18 : M1 18 7 = M 18 7 := by rw [hm.1 18 (by unfold rg_r sc_r; omega)]
    have hgb : c_gb (M1 38) (g_of M1 S) (M1 35) (nI d) nm as (-1) F = c_gb (M 38) (g_of M S) (M 35) (nI d) nm as (-1) F := by
      rw [hm.1 38 (by unfold rg_r sc_r; omega), hm.1 35 (by unfold rg_r sc_r; omega), show g_of M1 S = g_of M S from funext fun f => g_md hm]
    refine J_b 4 am_d83 rfl ?_
    rw [← hgb]
    exact J_eq (lp83 (hi N) hk (by rw [e18]; exact eS) hS (by rw [e32]; exact eF) hF (.inr ⟨rfl, hnm⟩) F 0 (Nat.zero_add _) _ rfl _ rfl _) ⟨rfl, hm, hi⟩
theorem sp181a {X : am_X} {M : am_M} {N : am_N} {x nm as : Int32} (g1 : ¬ ((0 ≤ x.toInt ∧ x.toInt < (M 120 22).toInt) ∧ (nm = -1 ∨ (0 ≤ nm.toInt ∧ nm.toInt < (M 120 43).toInt)))) : am_J X (am_eq (some (.int (-1))) (M) N) 181 0 (am_en 181 [.ref 120, .int x, .int nm, .int as]) [] M N := by
  refine J_en (L := [.ref 120, .int x, .int nm, .int as]) rfl ?_
  refine J_b 2 am_d181 rfl ?_
  refine J_V1s 152 (am_d181 rfl) rfl rfl (sp152) ?_
  refine J_if_eq 21 (am_d181 rfl) rfl (fun h5 => ?_) (fun h5 => ?_)
  · refine J_b 1 am_d181 rfl ?_
    exact J_iret (am_d181 rfl) rfl rfl ⟨rfl, rfl, rfl⟩
  · refine J_b 2 am_d181 rfl ?_
    refine J_icmp_eq 23 (am_d181 rfl) rfl (fun h10 => ?_) (fun h10 => ?_)
    · exact absurd ⟨am_bi1.mp h5, by first | exact .inl h10 | exact .inr (am_bi1.mp h18)⟩ g1
    · refine J_b 2 am_d181 rfl ?_
      refine J_V1s 164 (am_d181 rfl) rfl rfl (sp164) ?_
      refine J_if_ne 23 (am_d181 rfl) rfl (fun h18 => ?_) (fun h18 => ?_)
      · exact absurd ⟨am_bi1.mp h5, by first | exact .inl h10 | exact .inr (am_bi1.mp h18)⟩ g1
      · refine J_b 1 am_d181 rfl ?_
        exact J_iret (am_d181 rfl) rfl rfl ⟨rfl, rfl, rfl⟩
theorem sp181b {X : am_X} {M : am_M} {N : am_N} {x nm as : Int32} (g1 : (0 ≤ x.toInt ∧ x.toInt < (M 120 22).toInt) ∧ (nm = -1 ∨ (0 ≤ nm.toInt ∧ nm.toInt < (M 120 43).toInt))) (g2 : ¬ (0 ≤ as.toInt ∧ as.toInt ≤ 999)) : am_J X (am_eq (some (.int (-2))) M N) 181 0 (am_en 181 [.ref 120, .int x, .int nm, .int as]) [] M N := by
  refine J_en (L := [.ref 120, .int x, .int nm, .int as]) rfl ?_
  by_cases hnm : nm = -1
  · refine J_b 2 am_d181 rfl ?_
    refine J_V1s 152 (am_d181 rfl) rfl rfl (sp152) ?_
    refine J_if_eq 21 (am_d181 rfl) rfl (fun h5 => absurd h5 (am_bi1.mpr g1.1)) (fun h5 => ?_)
    refine J_b 2 am_d181 rfl ?_
    refine J_icmp_eq 23 (am_d181 rfl) rfl (fun h10 => ?_) (fun h10 => absurd (hnm) h10)
    refine J_b 4 am_d181 rfl ?_
    refine J_S3s 140 (am_d181 rfl) rfl rfl (sp140) ?_
    refine J_if_ne 38 (am_d181 rfl) rfl (fun h32 => absurd (show 0 ≤ as.toInt ∧ as.toInt ≤ 999 from by have q := am_bi1.mp h32; rw [Int32.toInt_toInt64] at q; exact q) g2) (fun h32 => ?_)
    refine J_b 1 am_d181 rfl ?_
    exact J_iret (am_d181 rfl) rfl rfl ⟨rfl, rfl, rfl⟩
  · refine J_b 2 am_d181 rfl ?_
    refine J_V1s 152 (am_d181 rfl) rfl rfl (sp152) ?_
    refine J_if_eq 21 (am_d181 rfl) rfl (fun h5 => absurd h5 (am_bi1.mpr g1.1)) (fun h5 => ?_)
    refine J_b 2 am_d181 rfl ?_
    refine J_icmp_eq 23 (am_d181 rfl) rfl (fun h10 => absurd h10 hnm) (fun h10 => ?_)
    refine J_b 2 am_d181 rfl ?_
    refine J_V1s 164 (am_d181 rfl) rfl rfl (sp164) ?_
    refine J_if_ne 23 (am_d181 rfl) rfl (fun h18 => ?_) (fun h18 => absurd h18 (am_bi1.mpr (g1.2.elim (fun z => absurd z hnm) id)))
    refine J_b 4 am_d181 rfl ?_
    refine J_S3s 140 (am_d181 rfl) rfl rfl (sp140) ?_
    refine J_if_ne 38 (am_d181 rfl) rfl (fun h32 => absurd (show 0 ≤ as.toInt ∧ as.toInt ≤ 999 from by have q := am_bi1.mp h32; rw [Int32.toInt_toInt64] at q; exact q) g2) (fun h32 => ?_)
    refine J_b 1 am_d181 rfl ?_
    exact J_iret (am_d181 rfl) rfl rfl ⟨rfl, rfl, rfl⟩
theorem sp181c {X : am_X} {M : am_M} {N : am_N} {nm as : Int32} {d c0 S F : Nat} {N0 : am_N} (h : iv c0 M N0) (eS : M 120 22 = nI S) (hS : S ≤ 5) (eF : M 120 44 = nI F) (hF : F ≤ 16) (g1 : (0 ≤ (nI d).toInt ∧ (nI d).toInt < (M 120 22).toInt) ∧ (nm = -1 ∨ (0 ≤ nm.toInt ∧ nm.toInt < (M 120 43).toInt))) (g2 : 0 ≤ as.toInt ∧ as.toInt ≤ 999) : am_J X (q_p (some (.int (c_gb (M 38) (g_of M S) (M 35) (nI d) nm as (-1) F))) (fun M2 _ => ∀ N, iv c0 M2 N)) 181 0 (am_en 181 [.ref 120, .int (nI d), .int nm, .int as]) [] M N := by
  refine J_en (L := [.ref 120, .int (nI d), .int nm, .int as]) rfl ?_
  by_cases hnm : nm = -1
  · refine J_b 2 am_d181 rfl ?_
    refine J_V1s 152 (am_d181 rfl) rfl rfl (sp152) ?_
    refine J_if_eq 21 (am_d181 rfl) rfl (fun h5 => absurd h5 (am_bi1.mpr g1.1)) (fun h5 => ?_)
    refine J_b 2 am_d181 rfl ?_
    refine J_icmp_eq 23 (am_d181 rfl) rfl (fun h10 => ?_) (fun h10 => absurd (hnm) h10)
    refine J_b 4 am_d181 rfl ?_
    refine J_S3s 140 (am_d181 rfl) rfl rfl (sp140) ?_
    refine J_if_ne 38 (am_d181 rfl) rfl (fun h32 => ?_) (fun h32 => absurd h32 (am_bi1.mpr (by rw [Int32.toInt_toInt64]; exact g2)))
    refine J_b 1 am_d181 rfl ?_
    refine J_V0np 182 (am_d181 rfl) rfl rfl (sp182 h eS hS eF hF) (fun M2 N2 hq => ?_)
    obtain ⟨⟨g, hr, hg⟩, rfl⟩ := hq
    have hs := rq_sc hr
    obtain ⟨⟨_, _, f3, _, _, f6, _⟩, _⟩ := h.1.2.2.2.1
    have hgb : c_gb (M2 158) (M2 160) (M2 155) (nI d) nm as (-1) F = c_gb (M 38) (g_of M S) (M 35) (nI d) nm as (-1) F := by
      rw [rq_g hr, hs.1 158 (by unfold sc_r; omega), hs.1 155 (by unfold sc_r; omega), f6, f3]
      exact gb_c hg
    refine J_b 5 am_d181 rfl ?_
    have qg := sp183 (X := X) (M := M2) (N := N2) (c := nI d) (nm := nm) (as := as) (but := -1) (F := F) (hs.2.2.2.1.trans eF) hF
    rw [hgb] at qg
    refine J_V4s 183 (am_d181 rfl) rfl rfl qg ?_
    exact J_iret (am_d181 rfl) rfl rfl ⟨rfl, fun _ => iv_s0 h hs⟩
  · refine J_b 2 am_d181 rfl ?_
    refine J_V1s 152 (am_d181 rfl) rfl rfl (sp152) ?_
    refine J_if_eq 21 (am_d181 rfl) rfl (fun h5 => absurd h5 (am_bi1.mpr g1.1)) (fun h5 => ?_)
    refine J_b 2 am_d181 rfl ?_
    refine J_icmp_eq 23 (am_d181 rfl) rfl (fun h10 => absurd h10 hnm) (fun h10 => ?_)
    refine J_b 2 am_d181 rfl ?_
    refine J_V1s 164 (am_d181 rfl) rfl rfl (sp164) ?_
    refine J_if_ne 23 (am_d181 rfl) rfl (fun h18 => ?_) (fun h18 => absurd h18 (am_bi1.mpr (g1.2.elim (fun z => absurd z hnm) id)))
    refine J_b 4 am_d181 rfl ?_
    refine J_S3s 140 (am_d181 rfl) rfl rfl (sp140) ?_
    refine J_if_ne 38 (am_d181 rfl) rfl (fun h32 => ?_) (fun h32 => absurd h32 (am_bi1.mpr (by rw [Int32.toInt_toInt64]; exact g2)))
    refine J_b 1 am_d181 rfl ?_
    refine J_V0np 182 (am_d181 rfl) rfl rfl (sp182 h eS hS eF hF) (fun M2 N2 hq => ?_)
    obtain ⟨⟨g, hr, hg⟩, rfl⟩ := hq
    have hs := rq_sc hr
    obtain ⟨⟨_, _, f3, _, _, f6, _⟩, _⟩ := h.1.2.2.2.1
    have hgb : c_gb (M2 158) (M2 160) (M2 155) (nI d) nm as (-1) F = c_gb (M 38) (g_of M S) (M 35) (nI d) nm as (-1) F := by
      rw [rq_g hr, hs.1 158 (by unfold sc_r; omega), hs.1 155 (by unfold sc_r; omega), f6, f3]
      exact gb_c hg
    refine J_b 5 am_d181 rfl ?_
    have qg := sp183 (X := X) (M := M2) (N := N2) (c := nI d) (nm := nm) (as := as) (but := -1) (F := F) (hs.2.2.2.1.trans eF) hF
    rw [hgb] at qg
    refine J_V4s 183 (am_d181 rfl) rfl rfl qg ?_
    exact J_iret (am_d181 rfl) rfl rfl ⟨rfl, fun _ => iv_s0 h hs⟩
theorem pr_got {X : am_X} (x nm as : Int32) : am_pI iv X 83 181 [.int x, .int nm, .int as] := by
  intro c0 M N hc0 h
  have e22 : M 120 22 = M 18 7 := h.1.2.1.1.2
  have e44 : M 120 44 = M 32 7 := h.1.2.2.2.1.2
  have e5 := h.1.2.1.2.1
  have e16 := h.1.2.2.2.2.1
  unfold b_in at e5 e16
  have e43 : M 120 43 = M 26 5 := h.1.2.2.1.1.2
  by_cases g1 : (0 ≤ x.toInt ∧ x.toInt < (M 18 7).toInt) ∧ (nm = -1 ∨ (0 ≤ nm.toInt ∧ nm.toInt < (M 26 5).toInt))
  rotate_left
  · exact pr_e (sp83a g1) (sp181a (by rw [e22, e43]; exact g1)) (iv_up _ _ _ h)
  by_cases g2 : 0 ≤ as.toInt ∧ as.toInt ≤ 999
  rotate_left
  · exact pr_e (sp83b g1 g2) (sp181b (by rw [e22, e43]; exact g1) g2) (iv_up _ _ _ h)
  have ex := I_nI g1.1.1
  generalize x.toNatClampNeg = d at ex
  subst ex
  have eS := I_nI e5.1
  have iS := I_cl e5.1
  generalize (M 18 7).toNatClampNeg = S at eS iS
  have hS : S ≤ 5 := by omega
  have eF := I_nI e16.1
  have iF := I_cl e16.1
  generalize (M 32 7).toNatClampNeg = F at eF iF
  have hF : F ≤ 16 := by omega
  refine pr_m (sp83c h eS hS eF hF g1 g2) (fun M1 N1 hm hi => ?_)
  rw [show c_gb (M 38) (g_of M S) (M 35) (nI d) nm as (-1) F = c_gb (M1 38) (g_of M1 S) (M1 35) (nI d) nm as (-1) F from by rw [hm.1 38 (by unfold rg_r sc_r; omega), hm.1 35 (by unfold rg_r sc_r; omega), show g_of M1 S = g_of M S from funext fun f => g_md hm]]
  exact sp181c (hi N) (by rw [hm.2.1, e22]; exact eS) hS (by rw [hm.2.2.2.1, e44]; exact eF) hF (by rw [hm.2.1, hm.2.2.1, e22, e43]; exact g1) g2
