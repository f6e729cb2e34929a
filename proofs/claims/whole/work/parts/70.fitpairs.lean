/-! ===== the pairs fit, misfit, misses ===== -/
theorem pr_ml {X : am_X} {i j : Nat} {args : am_V} {v : Int64} {c : Nat} {M : am_M} {N : am_N} (h1 : am_J X (q_p (some (.long v)) (pm_ c M)) i 0 (am_en i (.ref 0 :: args)) [] M N) (h2 : ∀ (M1 : am_M) (N1 : am_N), md M M1 → (∀ N, iv c M1 N) → am_J X (q_p (some (.long v)) (fun M2 _ => ∀ N, iv c M2 N)) j 0 (am_en j (.ref 120 :: args)) [] M1 N1) : ∃ (v : Int64) (mid : am_M → am_N → Prop), am_J X (fun r M1 N1 => r = some (.long v) ∧ mid M1 N1) i 0 (am_en i (.ref 0 :: args)) [] M N ∧ ∀ M1 N1, mid M1 N1 → am_J X (fun r M2 N2 => r = some (.long v) ∧ iv (c + 1) M2 N2) j 0 (am_en j (.ref 120 :: args)) [] M1 N1 :=
  ⟨v, pm_ c M, h1, fun M1 N1 hm => J_cq (h2 M1 N1 hm.1 hm.2) (fun _ _ N2 hq => ⟨hq.1, iv_up _ _ _ (hq.2 N2)⟩)⟩
/-- what is missed with shifts number a, one find left out -/
noncomputable def vb (M : am_M) (S P F : Nat) (but : Int32) : Nat → Int64 := fun a => mv M S P (gt M S F but) (c_sh a)
theorem vb_md {M M' : am_M} (h : md M M') {S P F : Nat} {but : Int32} : vb M' S P F but = vb M S P F but := by
  funext a
  unfold vb
  rw [gt_md h, mv_md h]
theorem sp185a {X : am_X} {M : am_M} {N : am_N} {x : Int32} (g1 : ¬ (0 ≤ x.toInt ∧ x.toInt < 3)) : am_J X (am_eq (some (.int (-3))) (M) N) 185 0 (am_en 185 [.ref 120, .int x]) [] M N := by
  refine J_en (L := [.ref 120, .int x]) rfl ?_
  refine J_b 4 am_d185 rfl ?_
  refine J_S3s 140 (am_d185 rfl) rfl rfl (sp140) ?_
  refine J_if_ne 15 (am_d185 rfl) rfl (fun h9 => absurd (show 0 ≤ x.toInt ∧ x.toInt < 3 from by have q := am_bi1.mp h9; rw [Int32.toInt_toInt64] at q; have q1 : x.toInt ≤ 2 := q.2; exact ⟨q.1, by omega⟩) g1) (fun h9 => ?_)
  refine J_b 1 am_d185 rfl ?_
  exact J_iret (am_d185 rfl) rfl rfl ⟨rfl, rfl, rfl⟩
theorem sp185c {X : am_X} {M : am_M} {N : am_N} {N0 : am_N} {c0 S P F r : Nat} (h : iv c0 M N0) (eS : M 18 7 = nI S) (hS : S ≤ 5) (eP : M 26 5 = nI P) (hP : P ≤ 6) (eF : M 32 7 = nI F) (hF : F ≤ 16) (hr : r < 3) : am_J X (q_p (some (.int (c_sh (lmn (vb M S P F (-1)) 26).1 r))) (fun M2 _ => ∀ N, iv c0 M2 N)) 185 0 (am_en 185 [.ref 120, .int (nI r)]) [] M N := by
  have i1 := nI_i (n := r) (by omega)
  have e22 : M 120 22 = nI S := h.1.2.1.1.2.trans eS
  have e44 : M 120 44 = nI F := h.1.2.2.2.1.2.trans eF
  refine J_en (L := [.ref 120, .int (nI r)]) rfl ?_
  refine J_b 4 am_d185 rfl ?_
  refine J_S3s 140 (am_d185 rfl) rfl rfl (sp140) ?_
  refine J_if_ne 15 (am_d185 rfl) rfl (fun h9 => ?_) (fun h9 => absurd h9 (am_bi1.mpr (by rw [Int32.toInt_toInt64, i1]; exact ⟨by show (0 : Int) ≤ r; omega, by show (r : Int) ≤ 2; omega⟩)))
  refine J_b 1 am_d185 rfl ?_
  refine J_V0np 182 (am_d185 rfl) rfl rfl (sp182 h e22 hS e44 hF) (fun M2 N2 hq => ?_)
  obtain ⟨hsu, rfl⟩ := hq
  refine J_b 2 am_d185 rfl ?_
  refine J_V1np 186 (am_d185 rfl) rfl rfl (sp186 (but := -1) h eS hS eP hP eF hF (su_su2 hsu)) (fun M3 N3 hq => ?_)
  obtain ⟨hz, h49, h162⟩ := hq
  refine J_b 3 am_d185 rfl ?_
  refine J_iald (am_d185 rfl) rfl (vp_in_nI hr (by decide)) ?_
  rw [nI_c (n := r) (by omega), h162 r hr]
  exact J_iret (am_d185 rfl) rfl rfl ⟨rfl, fun _ => iv_s0 h (su2_sc hz)⟩
theorem sp188c {X : am_X} {M : am_M} {N : am_N} {N0 : am_N} {c0 S P F : Nat} (h : iv c0 M N0) (eS : M 18 7 = nI S) (hS : S ≤ 5) (eP : M 26 5 = nI P) (hP : P ≤ 6) (eF : M 32 7 = nI F) (hF : F ≤ 16) : am_J X (q_p (some (.long (lmn (vb M S P F (-1)) 26).2)) (fun M2 _ => ∀ N, iv c0 M2 N)) 188 0 (am_en 188 [.ref 120]) [] M N := by
  have e22 : M 120 22 = nI S := h.1.2.1.1.2.trans eS
  have e44 : M 120 44 = nI F := h.1.2.2.2.1.2.trans eF
  refine J_en (L := [.ref 120]) rfl ?_
  refine J_b 1 am_d188 rfl ?_
  refine J_V0np 182 (am_d188 rfl) rfl rfl (sp182 h e22 hS e44 hF) (fun M2 N2 hq => ?_)
  obtain ⟨hsu, rfl⟩ := hq
  refine J_b 2 am_d188 rfl ?_
  refine J_V1np 186 (am_d188 rfl) rfl rfl (sp186 (but := -1) h eS hS eP hP eF hF (su_su2 hsu)) (fun M3 N3 hq => ?_)
  obtain ⟨hz, h49, h162⟩ := hq
  refine J_b 2 am_d188 rfl ?_
  exact J_lret (am_d188 rfl) rfl ⟨congrArg (fun z => some (Value.long z)) h49, fun _ => iv_s0 h (su2_sc hz)⟩
theorem sp189c {X : am_X} {M : am_M} {N : am_N} {N0 : am_N} {c0 S P F : Nat} (h : iv c0 M N0) (eS : M 18 7 = nI S) (hS : S ≤ 5) (eP : M 26 5 = nI P) (hP : P ≤ 6) (eF : M 32 7 = nI F) (hF : F ≤ 16) : am_J X (q_p (some (.long (mv M S P (gt M S F (-1)) (M 17)))) (fun M2 _ => ∀ N, iv c0 M2 N)) 189 0 (am_en 189 [.ref 120]) [] M N := by
  have e22 : M 120 22 = nI S := h.1.2.1.1.2.trans eS
  have e44 : M 120 44 = nI F := h.1.2.2.2.1.2.trans eF
  have e130 : M 130 = M 17 := h.1.1.1.2.2.2
  have hb : ∀ j, b_in (M 130 j) (-1) 1 := by rw [e130]; exact h.1.1.2.2.2.2.2.2.2.2.2.2.2.2
  refine J_en (L := [.ref 120]) rfl ?_
  refine J_b 1 am_d189 rfl ?_
  refine J_V0np 182 (am_d189 rfl) rfl rfl (sp182 h e22 hS e44 hF) (fun M2 N2 hq => ?_)
  obtain ⟨hsu, rfl⟩ := hq
  refine J_b 2 am_d189 rfl ?_
  have hz0 := su_su2 hsu
  refine J_V1sp 187 (am_d189 rfl) rfl rfl (sp187 (sh := M 130) (but := -1) h eS hS eP hP eF hF hb hz0) (fun M3 N3 hq => ?_)
  obtain ⟨hr3, rfl⟩ := hq
  exact J_lret (am_d189 rfl) rfl ⟨congrArg (fun z => some (Value.long (mv M S P (gt M S F (-1)) z))) e130, fun _ => iv_s0 h (su2_sc (su2_rd hz0 hr3))⟩
theorem pr_fit {X : am_X} (x : Int32) : am_pI iv X 87 185 [.int x] := by
  intro c0 M N hc0 h
  have e22 : M 120 22 = M 18 7 := h.1.2.1.1.2
  have e44 : M 120 44 = M 32 7 := h.1.2.2.2.1.2
  have e5 := h.1.2.1.2.1
  have e16 := h.1.2.2.2.2.1
  unfold b_in at e5 e16
  by_cases g1 : 0 ≤ x.toInt ∧ x.toInt < 3
  rotate_left
  · exact pr_e (sp87a g1) (sp185a g1) (iv_up _ _ _ h)
  have ex := I_nI g1.1
  have icx := I_cl g1.1
  generalize x.toNatClampNeg = r at ex icx
  subst ex
  have hr : r < 3 := by omega
  have eS := I_nI e5.1
  have iS := I_cl e5.1
  generalize (M 18 7).toNatClampNeg = S at eS iS
  have hS : S ≤ 5 := by omega
  have eF := I_nI e16.1
  have iF := I_cl e16.1
  generalize (M 32 7).toNatClampNeg = F at eF iF
  have hF : F ≤ 16 := by omega
  have e6 := h.1.2.2.1.2.1
  unfold b_in at e6
  have eP := I_nI e6.1
  have iP := I_cl e6.1
  generalize (M 26 5).toNatClampNeg = P at eP iP
  have hP : P ≤ 6 := by omega
  refine pr_m (v := c_sh (lmn (vb M S P F (-1)) 26).1 r) (sp87c h eS hS eP hP eF hF hr) (fun M1 N1 hm hi => ?_)
  rw [← vb_md hm]
  exact sp185c (hi N) (by rw [hm.1 18 (by unfold rg_r sc_r; omega)]; exact eS) hS (by rw [hm.1 26 (by unfold rg_r sc_r; omega)]; exact eP) hP (by rw [hm.1 32 (by unfold rg_r sc_r; omega)]; exact eF) hF hr
theorem pr_misfit {X : am_X} : am_pL iv X 95 188 [] := by
  intro c0 M N hc0 h
  have e22 : M 120 22 = M 18 7 := h.1.2.1.1.2
  have e44 : M 120 44 = M 32 7 := h.1.2.2.2.1.2
  have e5 := h.1.2.1.2.1
  have e16 := h.1.2.2.2.2.1
  unfold b_in at e5 e16
  have eS := I_nI e5.1
  have iS := I_cl e5.1
  generalize (M 18 7).toNatClampNeg = S at eS iS
  have hS : S ≤ 5 := by omega
  have eF := I_nI e16.1
  have iF := I_cl e16.1
  generalize (M 32 7).toNatClampNeg = F at eF iF
  have hF : F ≤ 16 := by omega
  have e6 := h.1.2.2.1.2.1
  unfold b_in at e6
  have eP := I_nI e6.1
  have iP := I_cl e6.1
  generalize (M 26 5).toNatClampNeg = P at eP iP
  have hP : P ≤ 6 := by omega
  refine pr_ml (v := (lmn (vb M S P F (-1)) 26).2) (sp95c h eS hS eP hP eF hF) (fun M1 N1 hm hi => ?_)
  rw [← vb_md hm]
  exact sp188c (hi N) (by rw [hm.1 18 (by unfold rg_r sc_r; omega)]; exact eS) hS (by rw [hm.1 26 (by unfold rg_r sc_r; omega)]; exact eP) hP (by rw [hm.1 32 (by unfold rg_r sc_r; omega)]; exact eF) hF
theorem pr_misses {X : am_X} : am_pL iv X 96 189 [] := by
  intro c0 M N hc0 h
  have e22 : M 120 22 = M 18 7 := h.1.2.1.1.2
  have e44 : M 120 44 = M 32 7 := h.1.2.2.2.1.2
  have e5 := h.1.2.1.2.1
  have e16 := h.1.2.2.2.2.1
  unfold b_in at e5 e16
  have eS := I_nI e5.1
  have iS := I_cl e5.1
  generalize (M 18 7).toNatClampNeg = S at eS iS
  have hS : S ≤ 5 := by omega
  have eF := I_nI e16.1
  have iF := I_cl e16.1
  generalize (M 32 7).toNatClampNeg = F at eF iF
  have hF : F ≤ 16 := by omega
  have e6 := h.1.2.2.1.2.1
  unfold b_in at e6
  have eP := I_nI e6.1
  have iP := I_cl e6.1
  generalize (M 26 5).toNatClampNeg = P at eP iP
  have hP : P ≤ 6 := by omega
  refine pr_ml (sp96c h eS hS eP hP eF hF) (fun M1 N1 hm hi => ?_)
  rw [← hm.1 17 (by unfold rg_r sc_r; omega), ← gt_md hm, ← mv_md hm]
  exact sp189c (hi N) (by rw [hm.1 18 (by unfold rg_r sc_r; omega)]; exact eS) hS (by rw [hm.1 26 (by unfold rg_r sc_r; omega)]; exact eP) hP (by rw [hm.1 32 (by unfold rg_r sc_r; omega)]; exact eF) hF
