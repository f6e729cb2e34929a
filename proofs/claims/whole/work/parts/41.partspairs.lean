/-! ===== the pairs parts, partsAt ===== -/
theorem J_st5 {X : am_X} {Q : am_Q} {i pc : Nat} {L S S' : am_V} {M : am_M} {N : am_N} (e : S = S') (kk : am_J X Q i pc L S' M N) : am_J X Q i pc L S M N := by
  rw [e]
  exact kk
theorem sc_T40 {M : am_M} {kd sk e0 n0 : Int32} {sh : Nat → Int32} {s0 : am_M} {mo t : Nat} : sc_ok M (dr_T M 40 kd mo sk e0 n0 sh s0 t) := sc_D40
theorem sc_T46 {M : am_M} {kd sk e0 n0 : Int32} {sh : Nat → Int32} {s0 : am_M} {mo t : Nat} : sc_ok M (dr_T M 46 kd mo sk e0 n0 sh s0 t) := sc_D46
theorem pr_parts {X : am_X} (x m w : Int32) : am_pI iv X 38 153 [.int x, .int m, .int w] := by
  intro c0 M N hc0 h
  have e := h.1.2.1.1.2
  have e5 := h.1.2.1.2.1
  unfold b_in at e5
  have hb := h.1.1.2
  have hcb := h.1.2.1.2
  by_cases h1 : (0 ≤ x.toInt ∧ x.toInt < (M 18 7).toInt) ∧ 0 ≤ w.toInt ∧ w.toInt ≤ 5
  rotate_left
  · exact pr_e (sp38a h1) (sp153a (by rw [e]; exact h1)) (iv_up _ _ _ h)
  by_cases h2 : 0 ≤ m.toInt ∧ m.toInt ≤ 12
  rotate_left
  · exact pr_e (sp38b h1 h2) (sp153b (by rw [e]; exact h1) h2) (iv_up _ _ _ h)
  have ex := I_nI h1.1.1
  have icx := I_cl h1.1.1
  have em := I_nI h2.1
  have icm := I_cl h2.1
  generalize x.toNatClampNeg = c at ex icx
  generalize m.toNatClampNeg = n at em icm
  subst ex
  subst em
  have hc5 : c < 5 := by omega
  have hn : n ≤ 12 := by omega
  have hcs : (c : Int) < (M 18 7).toInt := by omega
  have hcr : (c : Int) < (M 120 22).toInt := by rw [e]; exact hcs
  rcases am_w6 h1.2 with rfl | rfl | rfl | rfl | rfl | rfl
  · have q := sp153c_0 (X := X) (N := N) (M := dr_T M 40 (M 19 c) (M 22 c).toNatClampNeg (M 25 c) (M 40 10) (M 40 11) (M 17) (c_s0 (M 23 c).toNatClampNeg (M 42)) n) (c := c) (n := n) hc5 hcr hn (iv_sc h sc_T40 (N' := N))
    rw [cdr_sc sc_T40, pp_r _ (M 42)] at q
    exact pr_e (sp38c_0 hc5 hcs hn hb hcb) q (iv_sc h (sc_t sc_T40 sc_R))
  · have q := sp153c_1 (X := X) (N := N) (M := dr_T M 40 (M 19 c) (M 22 c).toNatClampNeg (M 25 c) (M 40 10) (M 40 11) (M 17) (c_s0 (M 23 c).toNatClampNeg (M 42)) n) (c := c) (n := n) hc5 hcr hn (iv_sc h sc_T40 (N' := N))
    rw [cdr_sc sc_T40, pp_r _ (M 42)] at q
    exact pr_e (sp38c_1 hc5 hcs hn hb hcb) q (iv_sc h (sc_t sc_T40 sc_R))
  · have q := sp153c_2 (X := X) (N := N) (M := dr_T M 40 (M 19 c) (M 22 c).toNatClampNeg (M 25 c) (M 40 10) (M 40 11) (M 17) (c_s0 (M 23 c).toNatClampNeg (M 42)) n) (c := c) (n := n) hc5 hcr hn (iv_sc h sc_T40 (N' := N))
    rw [cdr_sc sc_T40, pp_r _ (M 42)] at q
    exact pr_e (sp38c_2 hc5 hcs hn hb hcb) q (iv_sc h (sc_t sc_T40 sc_R))
  · have q := sp153c_3 (X := X) (N := N) (M := dr_T M 40 (M 19 c) (M 22 c).toNatClampNeg (M 25 c) (M 40 10) (M 40 11) (M 17) (c_s0 (M 23 c).toNatClampNeg (M 42)) n) (c := c) (n := n) hc5 hcr hn (iv_sc h sc_T40 (N' := N))
    rw [cdr_sc sc_T40, pp_r _ (M 42)] at q
    exact pr_e (sp38c_3 hc5 hcs hn hb hcb) q (iv_sc h (sc_t sc_T40 sc_R))
  · have q := sp153c_4 (X := X) (N := N) (M := dr_T M 40 (M 19 c) (M 22 c).toNatClampNeg (M 25 c) (M 40 10) (M 40 11) (M 17) (c_s0 (M 23 c).toNatClampNeg (M 42)) n) (c := c) (n := n) hc5 hcr hn (iv_sc h sc_T40 (N' := N))
    rw [cdr_sc sc_T40, pp_r _ (M 42)] at q
    exact pr_e (sp38c_4 hc5 hcs hn hb hcb) q (iv_sc h (sc_t sc_T40 sc_R))
  · have q := sp153c_5 (X := X) (N := N) (M := dr_T M 40 (M 19 c) (M 22 c).toNatClampNeg (M 25 c) (M 40 10) (M 40 11) (M 17) (c_s0 (M 23 c).toNatClampNeg (M 42)) n) (c := c) (n := n) hc5 hcr hn (iv_sc h sc_T40 (N' := N))
    rw [cdr_sc sc_T40, pp_r _ (M 42)] at q
    exact pr_e (sp38c_5 hc5 hcs hn hb hcb) q (iv_sc h (sc_t sc_T40 sc_R))
theorem sp56a {X : am_X} {M : am_M} {N : am_N} {x m u v w : Int32} (h1 : ¬ (((0 ≤ x.toInt ∧ x.toInt < (M 18 7).toInt) ∧ ((0 ≤ u.toInt ∧ u.toInt < 10) ∧ 0 ≤ v.toInt ∧ v.toInt < 6)) ∧ 0 ≤ w.toInt ∧ w.toInt ≤ 2)) : am_J X (am_eq (some (.int (-1))) (M) N) 56 0 (am_en 56 [.ref 0, .int x, .int m, .int u, .int v, .int w]) [] M N := by
  refine J_en (L := [.ref 0, .int x, .int m, .int u, .int v, .int w]) rfl ?_
  refine J_b 4 am_d56 rfl ?_
  refine J_S2s 13 (am_d56 rfl) rfl rfl (sp13) ?_
  refine J_if_eq 33 (am_d56 rfl) rfl (fun h11 => ?_) (fun h11 => ?_)
  · refine J_b 1 am_d56 rfl ?_
    exact J_iret (am_d56 rfl) rfl rfl ⟨rfl, rfl, rfl⟩
  · refine J_b 2 am_d56 rfl ?_
    refine J_S2s 12 (am_d56 rfl) rfl rfl (sp12) ?_
    refine J_if_eq 33 (am_d56 rfl) rfl (fun h20 => ?_) (fun h20 => ?_)
    · refine J_b 1 am_d56 rfl ?_
      exact J_iret (am_d56 rfl) rfl rfl ⟨rfl, rfl, rfl⟩
    · refine J_b 3 am_d56 rfl ?_
      refine J_S3s 14 (am_d56 rfl) rfl rfl (sp14) ?_
      refine J_if_ne 35 (am_d56 rfl) rfl (fun h30 => ?_) (fun h30 => ?_)
      · exfalso
        simp [am_bi0, am_bi1, Int32.lt_iff_toInt_lt, Int32.le_iff_toInt_le] at * <;> omega
      · refine J_b 1 am_d56 rfl ?_
        exact J_iret (am_d56 rfl) rfl rfl ⟨rfl, rfl, rfl⟩
theorem sp56b {X : am_X} {M : am_M} {N : am_N} {x m u v w : Int32} (h1 : ((0 ≤ x.toInt ∧ x.toInt < (M 18 7).toInt) ∧ ((0 ≤ u.toInt ∧ u.toInt < 10) ∧ 0 ≤ v.toInt ∧ v.toInt < 6)) ∧ 0 ≤ w.toInt ∧ w.toInt ≤ 2) (h2 : ¬ (0 ≤ m.toInt ∧ m.toInt ≤ 12)) : am_J X (am_eq (some (.int (-2))) (M) N) 56 0 (am_en 56 [.ref 0, .int x, .int m, .int u, .int v, .int w]) [] M N := by
  refine J_en (L := [.ref 0, .int x, .int m, .int u, .int v, .int w]) rfl ?_
  refine J_b 4 am_d56 rfl ?_
  refine J_S2s 13 (am_d56 rfl) rfl rfl (sp13) ?_
  refine J_if_eq 33 (am_d56 rfl) rfl (fun h11 => (by exfalso; simp [am_bi0, am_bi1, Int32.lt_iff_toInt_lt, Int32.le_iff_toInt_le] at * <;> omega)) (fun h11 => ?_)
  refine J_b 2 am_d56 rfl ?_
  refine J_S2s 12 (am_d56 rfl) rfl rfl (sp12) ?_
  refine J_if_eq 33 (am_d56 rfl) rfl (fun h20 => (by exfalso; simp [am_bi0, am_bi1, Int32.lt_iff_toInt_lt, Int32.le_iff_toInt_le] at * <;> omega)) (fun h20 => ?_)
  refine J_b 3 am_d56 rfl ?_
  refine J_S3s 14 (am_d56 rfl) rfl rfl (sp14) ?_
  refine J_if_ne 35 (am_d56 rfl) rfl (fun h30 => ?_) (fun h30 => (by exfalso; simp [am_bi0, am_bi1, Int32.lt_iff_toInt_lt, Int32.le_iff_toInt_le] at * <;> omega))
  refine J_b 3 am_d56 rfl ?_
  refine J_S3s 14 (am_d56 rfl) rfl rfl (sp14) ?_
  refine J_if_ne 48 (am_d56 rfl) rfl (fun h42 => (by exfalso; simp [am_bi0, am_bi1, Int32.lt_iff_toInt_lt, Int32.le_iff_toInt_le] at * <;> omega)) (fun h42 => ?_)
  refine J_b 1 am_d56 rfl ?_
  exact J_iret (am_d56 rfl) rfl rfl ⟨rfl, rfl, rfl⟩
theorem sp56c_0 {X : am_X} {M : am_M} {N : am_N} {c n : Nat} {u v : Int32} (hc5 : c < 5) (hcs : (c : Int) < (M 18 7).toInt) (hn : n ≤ 12) (hb : iv_sb M) (hcb : iv_cb M) (hu : 0 ≤ u.toInt ∧ u.toInt < 10) (hv : 0 ≤ v.toInt ∧ v.toInt < 6) : am_J X (am_eq (some (.int (c_pa (c_cdr M c (M 42) n) (6 * u + v).toNatClampNeg 0))) (dr_T M 40 (M 19 c) (M 22 c).toNatClampNeg (M 25 c) (M 40 10) (M 40 11) (M 17) (c_s0 (M 23 c).toNatClampNeg (M 42)) n) N) 56 0 (am_en 56 [.ref 0, .int (nI c), .int (nI n), .int u, .int v, .int 0]) [] M N := by
  have i1 := nI_i (n := c) (by omega)
  have i2 := nI_i (n := n) (by omega)
  have hmo : (M 22 c).toNatClampNeg < 100 := by have := hcb.2.2.2.2.1 c; unfold b_in at this; have := I_cl this.1; omega
  have hgo := sp42_40 (X := X) (N := N) (M := M) (kd := M 19 c) (sk := M 25 c) (e0 := M 40 10) (n0 := M 40 11) (s0 := c_s0 (M 23 c).toNatClampNeg (M 42)) (sh := M 17) (cnt := n) (t := 0) hmo hb (hcb.2.1 c) hb.2.2.2.2.2.2.2.2.2.2.2 s0_4 (by omega) (by omega)
  rw [show min 12 (0 + n) = n by omega] at hgo
  have hpl := pl_i hu hv
  have hpn : 6 * u + v = nI (6 * u + v).toNatClampNeg := I_nI (vp_in_iff.mp hpl.1).1
  have hp60 : (6 * u + v).toNatClampNeg < 60 := by rw [hpl.2]; omega
  refine J_en (L := [.ref 0, .int (nI c), .int (nI n), .int u, .int v, .int 0]) rfl ?_
  refine J_b 4 am_d56 rfl ?_
  refine J_S2s 13 (am_d56 rfl) rfl rfl (sp13) ?_
  refine J_if_eq 33 (am_d56 rfl) rfl (fun h11 => (by exfalso; clear hgo hb hcb hpn hpl hp60; simp [am_bi0, am_bi1, Int32.lt_iff_toInt_lt, Int32.le_iff_toInt_le, i1, i2] at * <;> omega)) (fun h11 => ?_)
  refine J_b 2 am_d56 rfl ?_
  refine J_S2s 12 (am_d56 rfl) rfl rfl (sp12) ?_
  refine J_if_eq 33 (am_d56 rfl) rfl (fun h20 => (by exfalso; clear hgo hb hcb hpn hpl hp60; simp [am_bi0, am_bi1, Int32.lt_iff_toInt_lt, Int32.le_iff_toInt_le, i1, i2] at * <;> omega)) (fun h20 => ?_)
  refine J_b 3 am_d56 rfl ?_
  refine J_S3s 14 (am_d56 rfl) rfl rfl (sp14) ?_
  refine J_if_ne 35 (am_d56 rfl) rfl (fun h30 => ?_) (fun h30 => (by exfalso; clear hgo hb hcb hpn hpl hp60; simp [am_bi0, am_bi1, Int32.lt_iff_toInt_lt, Int32.le_iff_toInt_le, i1, i2] at * <;> omega))
  refine J_b 3 am_d56 rfl ?_
  refine J_S3s 14 (am_d56 rfl) rfl rfl (sp14) ?_
  refine J_if_ne 48 (am_d56 rfl) rfl (fun h42 => ?_) (fun h42 => (by exfalso; clear hgo hb hcb hpn hpl hp60; simp [am_bi0, am_bi1, Int32.lt_iff_toInt_lt, Int32.le_iff_toInt_le, i1, i2] at * <;> omega))
  refine J_b 8 am_d56 rfl ?_
  refine J_V3n 39 (am_d56 rfl) rfl rfl (sp39_40 hc5 hcb) ?_
  rw [T_0 hcb]
  refine J_b 3 am_d56 rfl ?_
  refine J_V1n 42 (am_d56 rfl) rfl rfl (hgo) ?_
  refine J_b 4 am_d56 rfl ?_
  refine J_S2s 16 (am_d56 rfl) rfl rfl (sp16) ?_
  refine J_st5 (congrArg (fun z => ([.int z, .ref 40] : am_V)) hpn) ?_
  refine J_b 1 am_d56 rfl ?_
  refine J_V2s 57 (am_d56 rfl) rfl rfl (sp57_40_0 hp60) ?_
  exact J_iret (am_d56 rfl) rfl rfl ⟨rfl, rfl, rfl⟩
theorem sp56c_1 {X : am_X} {M : am_M} {N : am_N} {c n : Nat} {u v : Int32} (hc5 : c < 5) (hcs : (c : Int) < (M 18 7).toInt) (hn : n ≤ 12) (hb : iv_sb M) (hcb : iv_cb M) (hu : 0 ≤ u.toInt ∧ u.toInt < 10) (hv : 0 ≤ v.toInt ∧ v.toInt < 6) : am_J X (am_eq (some (.int (c_pa (c_cdr M c (M 42) n) (6 * u + v).toNatClampNeg 1))) (dr_T M 40 (M 19 c) (M 22 c).toNatClampNeg (M 25 c) (M 40 10) (M 40 11) (M 17) (c_s0 (M 23 c).toNatClampNeg (M 42)) n) N) 56 0 (am_en 56 [.ref 0, .int (nI c), .int (nI n), .int u, .int v, .int 1]) [] M N := by
  have i1 := nI_i (n := c) (by omega)
  have i2 := nI_i (n := n) (by omega)
  have hmo : (M 22 c).toNatClampNeg < 100 := by have := hcb.2.2.2.2.1 c; unfold b_in at this; have := I_cl this.1; omega
  have hgo := sp42_40 (X := X) (N := N) (M := M) (kd := M 19 c) (sk := M 25 c) (e0 := M 40 10) (n0 := M 40 11) (s0 := c_s0 (M 23 c).toNatClampNeg (M 42)) (sh := M 17) (cnt := n) (t := 0) hmo hb (hcb.2.1 c) hb.2.2.2.2.2.2.2.2.2.2.2 s0_4 (by omega) (by omega)
  rw [show min 12 (0 + n) = n by omega] at hgo
  have hpl := pl_i hu hv
  have hpn : 6 * u + v = nI (6 * u + v).toNatClampNeg := I_nI (vp_in_iff.mp hpl.1).1
  have hp60 : (6 * u + v).toNatClampNeg < 60 := by rw [hpl.2]; omega
  refine J_en (L := [.ref 0, .int (nI c), .int (nI n), .int u, .int v, .int 1]) rfl ?_
  refine J_b 4 am_d56 rfl ?_
  refine J_S2s 13 (am_d56 rfl) rfl rfl (sp13) ?_
  refine J_if_eq 33 (am_d56 rfl) rfl (fun h11 => (by exfalso; clear hgo hb hcb hpn hpl hp60; simp [am_bi0, am_bi1, Int32.lt_iff_toInt_lt, Int32.le_iff_toInt_le, i1, i2] at * <;> omega)) (fun h11 => ?_)
  refine J_b 2 am_d56 rfl ?_
  refine J_S2s 12 (am_d56 rfl) rfl rfl (sp12) ?_
  refine J_if_eq 33 (am_d56 rfl) rfl (fun h20 => (by exfalso; clear hgo hb hcb hpn hpl hp60; simp [am_bi0, am_bi1, Int32.lt_iff_toInt_lt, Int32.le_iff_toInt_le, i1, i2] at * <;> omega)) (fun h20 => ?_)
  refine J_b 3 am_d56 rfl ?_
  refine J_S3s 14 (am_d56 rfl) rfl rfl (sp14) ?_
  refine J_if_ne 35 (am_d56 rfl) rfl (fun h30 => ?_) (fun h30 => (by exfalso; clear hgo hb hcb hpn hpl hp60; simp [am_bi0, am_bi1, Int32.lt_iff_toInt_lt, Int32.le_iff_toInt_le, i1, i2] at * <;> omega))
  refine J_b 3 am_d56 rfl ?_
  refine J_S3s 14 (am_d56 rfl) rfl rfl (sp14) ?_
  refine J_if_ne 48 (am_d56 rfl) rfl (fun h42 => ?_) (fun h42 => (by exfalso; clear hgo hb hcb hpn hpl hp60; simp [am_bi0, am_bi1, Int32.lt_iff_toInt_lt, Int32.le_iff_toInt_le, i1, i2] at * <;> omega))
  refine J_b 8 am_d56 rfl ?_
  refine J_V3n 39 (am_d56 rfl) rfl rfl (sp39_40 hc5 hcb) ?_
  rw [T_0 hcb]
  refine J_b 3 am_d56 rfl ?_
  refine J_V1n 42 (am_d56 rfl) rfl rfl (hgo) ?_
  refine J_b 4 am_d56 rfl ?_
  refine J_S2s 16 (am_d56 rfl) rfl rfl (sp16) ?_
  refine J_st5 (congrArg (fun z => ([.int z, .ref 40] : am_V)) hpn) ?_
  refine J_b 1 am_d56 rfl ?_
  refine J_V2s 57 (am_d56 rfl) rfl rfl (sp57_40_1 hp60) ?_
  exact J_iret (am_d56 rfl) rfl rfl ⟨rfl, rfl, rfl⟩
theorem sp56c_2 {X : am_X} {M : am_M} {N : am_N} {c n : Nat} {u v : Int32} (hc5 : c < 5) (hcs : (c : Int) < (M 18 7).toInt) (hn : n ≤ 12) (hb : iv_sb M) (hcb : iv_cb M) (hu : 0 ≤ u.toInt ∧ u.toInt < 10) (hv : 0 ≤ v.toInt ∧ v.toInt < 6) : am_J X (am_eq (some (.int (c_pa (c_cdr M c (M 42) n) (6 * u + v).toNatClampNeg 2))) (dr_T M 40 (M 19 c) (M 22 c).toNatClampNeg (M 25 c) (M 40 10) (M 40 11) (M 17) (c_s0 (M 23 c).toNatClampNeg (M 42)) n) N) 56 0 (am_en 56 [.ref 0, .int (nI c), .int (nI n), .int u, .int v, .int 2]) [] M N := by
  have i1 := nI_i (n := c) (by omega)
  have i2 := nI_i (n := n) (by omega)
  have hmo : (M 22 c).toNatClampNeg < 100 := by have := hcb.2.2.2.2.1 c; unfold b_in at this; have := I_cl this.1; omega
  have hgo := sp42_40 (X := X) (N := N) (M := M) (kd := M 19 c) (sk := M 25 c) (e0 := M 40 10) (n0 := M 40 11) (s0 := c_s0 (M 23 c).toNatClampNeg (M 42)) (sh := M 17) (cnt := n) (t := 0) hmo hb (hcb.2.1 c) hb.2.2.2.2.2.2.2.2.2.2.2 s0_4 (by omega) (by omega)
  rw [show min 12 (0 + n) = n by omega] at hgo
  have hpl := pl_i hu hv
  have hpn : 6 * u + v = nI (6 * u + v).toNatClampNeg := I_nI (vp_in_iff.mp hpl.1).1
  have hp60 : (6 * u + v).toNatClampNeg < 60 := by rw [hpl.2]; omega
  refine J_en (L := [.ref 0, .int (nI c), .int (nI n), .int u, .int v, .int 2]) rfl ?_
  refine J_b 4 am_d56 rfl ?_
  refine J_S2s 13 (am_d56 rfl) rfl rfl (sp13) ?_
  refine J_if_eq 33 (am_d56 rfl) rfl (fun h11 => (by exfalso; clear hgo hb hcb hpn hpl hp60; simp [am_bi0, am_bi1, Int32.lt_iff_toInt_lt, Int32.le_iff_toInt_le, i1, i2] at * <;> omega)) (fun h11 => ?_)
  refine J_b 2 am_d56 rfl ?_
  refine J_S2s 12 (am_d56 rfl) rfl rfl (sp12) ?_
  refine J_if_eq 33 (am_d56 rfl) rfl (fun h20 => (by exfalso; clear hgo hb hcb hpn hpl hp60; simp [am_bi0, am_bi1, Int32.lt_iff_toInt_lt, Int32.le_iff_toInt_le, i1, i2] at * <;> omega)) (fun h20 => ?_)
  refine J_b 3 am_d56 rfl ?_
  refine J_S3s 14 (am_d56 rfl) rfl rfl (sp14) ?_
  refine J_if_ne 35 (am_d56 rfl) rfl (fun h30 => ?_) (fun h30 => (by exfalso; clear hgo hb hcb hpn hpl hp60; simp [am_bi0, am_bi1, Int32.lt_iff_toInt_lt, Int32.le_iff_toInt_le, i1, i2] at * <;> omega))
  refine J_b 3 am_d56 rfl ?_
  refine J_S3s 14 (am_d56 rfl) rfl rfl (sp14) ?_
  refine J_if_ne 48 (am_d56 rfl) rfl (fun h42 => ?_) (fun h42 => (by exfalso; clear hgo hb hcb hpn hpl hp60; simp [am_bi0, am_bi1, Int32.lt_iff_toInt_lt, Int32.le_iff_toInt_le, i1, i2] at * <;> omega))
  refine J_b 8 am_d56 rfl ?_
  refine J_V3n 39 (am_d56 rfl) rfl rfl (sp39_40 hc5 hcb) ?_
  rw [T_0 hcb]
  refine J_b 3 am_d56 rfl ?_
  refine J_V1n 42 (am_d56 rfl) rfl rfl (hgo) ?_
  refine J_b 4 am_d56 rfl ?_
  refine J_S2s 16 (am_d56 rfl) rfl rfl (sp16) ?_
  refine J_st5 (congrArg (fun z => ([.int z, .ref 40] : am_V)) hpn) ?_
  refine J_b 1 am_d56 rfl ?_
  refine J_V2s 57 (am_d56 rfl) rfl rfl (sp57_40_2 hp60) ?_
  exact J_iret (am_d56 rfl) rfl rfl ⟨rfl, rfl, rfl⟩
theorem sp160a {X : am_X} {M : am_M} {N : am_N} {x m u v w : Int32} (h1 : ¬ (((0 ≤ x.toInt ∧ x.toInt < (M 120 22).toInt) ∧ ((0 ≤ u.toInt ∧ u.toInt < 10) ∧ 0 ≤ v.toInt ∧ v.toInt < 6)) ∧ 0 ≤ w.toInt ∧ w.toInt ≤ 2)) : am_J X (am_eq (some (.int (-1))) (M) N) 160 0 (am_en 160 [.ref 120, .int x, .int m, .int u, .int v, .int w]) [] M N := by
  refine J_en (L := [.ref 120, .int x, .int m, .int u, .int v, .int w, .retAddr 0, .retAddr 0, .retAddr 0]) rfl ?_
  refine J_b 2 am_d160 rfl ?_
  refine J_V1s 152 (am_d160 rfl) rfl rfl (sp152) ?_
  refine J_if_eq 30 (am_d160 rfl) rfl (fun h5 => ?_) (fun h5 => ?_)
  · refine J_b 1 am_d160 rfl ?_
    exact J_iret (am_d160 rfl) rfl rfl ⟨rfl, rfl, rfl⟩
  · refine J_b 2 am_d160 rfl ?_
    refine J_S2s 139 (am_d160 rfl) rfl rfl (sp139) ?_
    refine J_if_eq 30 (am_d160 rfl) rfl (fun h14 => ?_) (fun h14 => ?_)
    · refine J_b 1 am_d160 rfl ?_
      exact J_iret (am_d160 rfl) rfl rfl ⟨rfl, rfl, rfl⟩
    · refine J_b 4 am_d160 rfl ?_
      refine J_S3s 140 (am_d160 rfl) rfl rfl (sp140) ?_
      refine J_if_ne 32 (am_d160 rfl) rfl (fun h27 => ?_) (fun h27 => ?_)
      · exfalso
        simp [am_bi0, am_bi1, Int32.lt_iff_toInt_lt, Int32.le_iff_toInt_le] at * <;> omega
      · refine J_b 1 am_d160 rfl ?_
        exact J_iret (am_d160 rfl) rfl rfl ⟨rfl, rfl, rfl⟩
theorem sp160b {X : am_X} {M : am_M} {N : am_N} {x m u v w : Int32} (h1 : ((0 ≤ x.toInt ∧ x.toInt < (M 120 22).toInt) ∧ ((0 ≤ u.toInt ∧ u.toInt < 10) ∧ 0 ≤ v.toInt ∧ v.toInt < 6)) ∧ 0 ≤ w.toInt ∧ w.toInt ≤ 2) (h2 : ¬ (0 ≤ m.toInt ∧ m.toInt ≤ 12)) : am_J X (am_eq (some (.int (-2))) (M) N) 160 0 (am_en 160 [.ref 120, .int x, .int m, .int u, .int v, .int w]) [] M N := by
  refine J_en (L := [.ref 120, .int x, .int m, .int u, .int v, .int w, .retAddr 0, .retAddr 0, .retAddr 0]) rfl ?_
  refine J_b 2 am_d160 rfl ?_
  refine J_V1s 152 (am_d160 rfl) rfl rfl (sp152) ?_
  refine J_if_eq 30 (am_d160 rfl) rfl (fun h5 => (by exfalso; simp [am_bi0, am_bi1, Int32.lt_iff_toInt_lt, Int32.le_iff_toInt_le] at * <;> omega)) (fun h5 => ?_)
  refine J_b 2 am_d160 rfl ?_
  refine J_S2s 139 (am_d160 rfl) rfl rfl (sp139) ?_
  refine J_if_eq 30 (am_d160 rfl) rfl (fun h14 => (by exfalso; simp [am_bi0, am_bi1, Int32.lt_iff_toInt_lt, Int32.le_iff_toInt_le] at * <;> omega)) (fun h14 => ?_)
  refine J_b 4 am_d160 rfl ?_
  refine J_S3s 140 (am_d160 rfl) rfl rfl (sp140) ?_
  refine J_if_ne 32 (am_d160 rfl) rfl (fun h27 => ?_) (fun h27 => (by exfalso; simp [am_bi0, am_bi1, Int32.lt_iff_toInt_lt, Int32.le_iff_toInt_le] at * <;> omega))
  refine J_b 4 am_d160 rfl ?_
  refine J_S3s 140 (am_d160 rfl) rfl rfl (sp140) ?_
  refine J_if_ne 47 (am_d160 rfl) rfl (fun h41 => (by exfalso; simp [am_bi0, am_bi1, Int32.lt_iff_toInt_lt, Int32.le_iff_toInt_le] at * <;> omega)) (fun h41 => ?_)
  refine J_b 1 am_d160 rfl ?_
  exact J_iret (am_d160 rfl) rfl rfl ⟨rfl, rfl, rfl⟩
theorem lp160 {X : am_X} {M : am_M} {N : am_N} {st : am_M} {p : Nat} {y1 y2 y3 y4 y5 : Value} (hp : p < 60) : ∀ (n i : Nat), i + n = 12 → ∀ (x : Int32), x = nI i → ∀ (a : Int32), a = smI (fun t => st 4 (60 * t + p)) i → am_J X (am_eq (some (.int (c_fp st p))) (dr_R M st) N) 160 97 [.ref 120, y1, y2, y3, y4, y5, .int (nI p), .int a, .int x] [] (dr_R M st) N := by
  intro n
  induction n with
  | zero =>
    intro i hn x ex a ea
    have e : i = 12 := by omega
    subst e
    subst ex
    refine J_b 2 am_d160 rfl ?_
    refine J_icmp_ge 128 (am_d160 rfl) rfl (fun h101 => ?_) (fun h101 => absurd (Int32.le_refl _) h101)
    refine J_b 1 am_d160 rfl ?_
    exact J_iret (am_d160 rfl) rfl rfl ⟨by rw [ea]; rfl, rfl, rfl⟩
  | succ n ih =>
    intro i hn x ex a ea
    have hi : i < 12 := by omega
    subst ex
    refine J_b 2 am_d160 rfl ?_
    refine J_icmp_ge 128 (am_d160 rfl) rfl (fun h101 => absurd h101 (l12 hi)) (fun h101 => ?_)
    refine J_b 8 am_d160 rfl ?_
    rw [nI_60r]
    refine J_iald (am_d160 rfl) rfl (vp_in_nI (by omega) (by decide)) ?_
    rw [nI_c (n := 60 * i + p) (by omega)]
    show am_J X _ 160 119 _ (.int (st 4 (60 * i + p)) :: _) _ N
    refine J_b 4 am_d160 rfl ?_
    exact ih (i + 1) (by omega) _ (nI_1 i) _ (by rw [ea]; rfl)
theorem sp160c_0 {X : am_X} {M : am_M} {N : am_N} {c n : Nat} {u v : Int32} (hc5 : c < 5) (hcs : (c : Int) < (M 120 22).toInt) (hn : n ≤ 12) {c0 : Nat} {N0 : am_N} (h : iv c0 M N0) (hu : 0 ≤ u.toInt ∧ u.toInt < 10) (hv : 0 ≤ v.toInt ∧ v.toInt < 6) : am_J X (am_eq (some (.int (c_pa (c_cdr M c (M 144) n) (6 * u + v).toNatClampNeg 0))) (dr_R M (c_cdr M c (M 144) n)) N) 160 0 (am_en 160 [.ref 120, .int (nI c), .int (nI n), .int u, .int v, .int 0]) [] M N := by
  have i1 := nI_i (n := c) (by omega)
  have i2 := nI_i (n := n) (by omega)
  have hdr := sp154i (X := X) (N := N) (c := c) (cnt := n) h hc5 hn
  have hpl := pl_j hu hv
  have hpn : (Int8.ofInt 6).toInt32 * u + v = nI (6 * u + v).toNatClampNeg := I_nI (vp_in_iff.mp hpl.1).1
  have hp60 : (6 * u + v).toNatClampNeg < 60 := by rw [(pl_i hu hv).2]; omega
  refine J_en (L := [.ref 120, .int (nI c), .int (nI n), .int u, .int v, .int 0, .retAddr 0, .retAddr 0, .retAddr 0]) rfl ?_
  refine J_b 2 am_d160 rfl ?_
  refine J_V1s 152 (am_d160 rfl) rfl rfl (sp152) ?_
  refine J_if_eq 30 (am_d160 rfl) rfl (fun h5 => (by exfalso; clear hdr h hpn hpl hp60; simp [am_bi0, am_bi1, Int32.lt_iff_toInt_lt, Int32.le_iff_toInt_le, i1, i2] at * <;> omega)) (fun h5 => ?_)
  refine J_b 2 am_d160 rfl ?_
  refine J_S2s 139 (am_d160 rfl) rfl rfl (sp139) ?_
  refine J_if_eq 30 (am_d160 rfl) rfl (fun h14 => (by exfalso; clear hdr h hpn hpl hp60; simp [am_bi0, am_bi1, Int32.lt_iff_toInt_lt, Int32.le_iff_toInt_le, i1, i2] at * <;> omega)) (fun h14 => ?_)
  refine J_b 4 am_d160 rfl ?_
  refine J_S3s 140 (am_d160 rfl) rfl rfl (sp140) ?_
  refine J_if_ne 32 (am_d160 rfl) rfl (fun h27 => ?_) (fun h27 => (by exfalso; clear hdr h hpn hpl hp60; simp [am_bi0, am_bi1, Int32.lt_iff_toInt_lt, Int32.le_iff_toInt_le, i1, i2] at * <;> omega))
  refine J_b 4 am_d160 rfl ?_
  refine J_S3s 140 (am_d160 rfl) rfl rfl (sp140) ?_
  refine J_if_ne 47 (am_d160 rfl) rfl (fun h41 => ?_) (fun h41 => (by exfalso; clear hdr h hpn hpl hp60; simp [am_bi0, am_bi1, Int32.lt_iff_toInt_lt, Int32.le_iff_toInt_le, i1, i2] at * <;> omega))
  refine J_b 3 am_d160 rfl ?_
  refine J_V2n 154 (am_d160 rfl) rfl rfl (hdr) ?_
  refine J_b 5 am_d160 rfl ?_
  refine J_st5 (congrArg (fun z => ([.int z] : am_V)) hpn) ?_
  refine J_b 1 am_d160 rfl ?_
  refine J_b 2 am_d160 rfl ?_
  refine J_icmp_ge 91 (am_d160 rfl) rfl (fun h65 => absurd h65 (by decide)) (fun h65 => ?_)
  refine J_b 1 am_d160 rfl ?_
  refine J_if_ne 83 (am_d160 rfl) rfl (fun h70 => absurd rfl h70) (fun h70 => ?_)
  refine J_b 3 am_d160 rfl ?_
  refine J_iald (am_d160 rfl) rfl (vp_in_nI hp60 (by decide)) ?_
  rw [nI_c (n := (6 * u + v).toNatClampNeg) (by omega)]
  show am_J X _ 160 80 _ (.int ((c_cdr M c (M 144) n) 1 (6 * u + v).toNatClampNeg) :: _) _ N
  refine J_b 1 am_d160 rfl ?_
  exact J_iret (am_d160 rfl) rfl rfl ⟨rfl, rfl, rfl⟩
theorem sp160c_1 {X : am_X} {M : am_M} {N : am_N} {c n : Nat} {u v : Int32} (hc5 : c < 5) (hcs : (c : Int) < (M 120 22).toInt) (hn : n ≤ 12) {c0 : Nat} {N0 : am_N} (h : iv c0 M N0) (hu : 0 ≤ u.toInt ∧ u.toInt < 10) (hv : 0 ≤ v.toInt ∧ v.toInt < 6) : am_J X (am_eq (some (.int (c_pa (c_cdr M c (M 144) n) (6 * u + v).toNatClampNeg 1))) (dr_R M (c_cdr M c (M 144) n)) N) 160 0 (am_en 160 [.ref 120, .int (nI c), .int (nI n), .int u, .int v, .int 1]) [] M N := by
  have i1 := nI_i (n := c) (by omega)
  have i2 := nI_i (n := n) (by omega)
  have hdr := sp154i (X := X) (N := N) (c := c) (cnt := n) h hc5 hn
  have hpl := pl_j hu hv
  have hpn : (Int8.ofInt 6).toInt32 * u + v = nI (6 * u + v).toNatClampNeg := I_nI (vp_in_iff.mp hpl.1).1
  have hp60 : (6 * u + v).toNatClampNeg < 60 := by rw [(pl_i hu hv).2]; omega
  refine J_en (L := [.ref 120, .int (nI c), .int (nI n), .int u, .int v, .int 1, .retAddr 0, .retAddr 0, .retAddr 0]) rfl ?_
  refine J_b 2 am_d160 rfl ?_
  refine J_V1s 152 (am_d160 rfl) rfl rfl (sp152) ?_
  refine J_if_eq 30 (am_d160 rfl) rfl (fun h5 => (by exfalso; clear hdr h hpn hpl hp60; simp [am_bi0, am_bi1, Int32.lt_iff_toInt_lt, Int32.le_iff_toInt_le, i1, i2] at * <;> omega)) (fun h5 => ?_)
  refine J_b 2 am_d160 rfl ?_
  refine J_S2s 139 (am_d160 rfl) rfl rfl (sp139) ?_
  refine J_if_eq 30 (am_d160 rfl) rfl (fun h14 => (by exfalso; clear hdr h hpn hpl hp60; simp [am_bi0, am_bi1, Int32.lt_iff_toInt_lt, Int32.le_iff_toInt_le, i1, i2] at * <;> omega)) (fun h14 => ?_)
  refine J_b 4 am_d160 rfl ?_
  refine J_S3s 140 (am_d160 rfl) rfl rfl (sp140) ?_
  refine J_if_ne 32 (am_d160 rfl) rfl (fun h27 => ?_) (fun h27 => (by exfalso; clear hdr h hpn hpl hp60; simp [am_bi0, am_bi1, Int32.lt_iff_toInt_lt, Int32.le_iff_toInt_le, i1, i2] at * <;> omega))
  refine J_b 4 am_d160 rfl ?_
  refine J_S3s 140 (am_d160 rfl) rfl rfl (sp140) ?_
  refine J_if_ne 47 (am_d160 rfl) rfl (fun h41 => ?_) (fun h41 => (by exfalso; clear hdr h hpn hpl hp60; simp [am_bi0, am_bi1, Int32.lt_iff_toInt_lt, Int32.le_iff_toInt_le, i1, i2] at * <;> omega))
  refine J_b 3 am_d160 rfl ?_
  refine J_V2n 154 (am_d160 rfl) rfl rfl (hdr) ?_
  refine J_b 5 am_d160 rfl ?_
  refine J_st5 (congrArg (fun z => ([.int z] : am_V)) hpn) ?_
  refine J_b 1 am_d160 rfl ?_
  refine J_b 2 am_d160 rfl ?_
  refine J_icmp_ge 91 (am_d160 rfl) rfl (fun h65 => absurd h65 (by decide)) (fun h65 => ?_)
  refine J_b 1 am_d160 rfl ?_
  refine J_if_ne 83 (am_d160 rfl) rfl (fun h70 => ?_) (fun h70 => absurd h70 (by decide))
  refine J_b 3 am_d160 rfl ?_
  refine J_iald (am_d160 rfl) rfl (vp_in_nI hp60 (by decide)) ?_
  rw [nI_c (n := (6 * u + v).toNatClampNeg) (by omega)]
  show am_J X _ 160 90 _ (.int ((c_cdr M c (M 144) n) 3 (6 * u + v).toNatClampNeg) :: _) _ N
  exact J_iret (am_d160 rfl) rfl rfl ⟨rfl, rfl, rfl⟩
theorem sp160c_2 {X : am_X} {M : am_M} {N : am_N} {c n : Nat} {u v : Int32} (hc5 : c < 5) (hcs : (c : Int) < (M 120 22).toInt) (hn : n ≤ 12) {c0 : Nat} {N0 : am_N} (h : iv c0 M N0) (hu : 0 ≤ u.toInt ∧ u.toInt < 10) (hv : 0 ≤ v.toInt ∧ v.toInt < 6) : am_J X (am_eq (some (.int (c_pa (c_cdr M c (M 144) n) (6 * u + v).toNatClampNeg 2))) (dr_R M (c_cdr M c (M 144) n)) N) 160 0 (am_en 160 [.ref 120, .int (nI c), .int (nI n), .int u, .int v, .int 2]) [] M N := by
  have i1 := nI_i (n := c) (by omega)
  have i2 := nI_i (n := n) (by omega)
  have hdr := sp154i (X := X) (N := N) (c := c) (cnt := n) h hc5 hn
  have hpl := pl_j hu hv
  have hpn : (Int8.ofInt 6).toInt32 * u + v = nI (6 * u + v).toNatClampNeg := I_nI (vp_in_iff.mp hpl.1).1
  have hp60 : (6 * u + v).toNatClampNeg < 60 := by rw [(pl_i hu hv).2]; omega
  refine J_en (L := [.ref 120, .int (nI c), .int (nI n), .int u, .int v, .int 2, .retAddr 0, .retAddr 0, .retAddr 0]) rfl ?_
  refine J_b 2 am_d160 rfl ?_
  refine J_V1s 152 (am_d160 rfl) rfl rfl (sp152) ?_
  refine J_if_eq 30 (am_d160 rfl) rfl (fun h5 => (by exfalso; clear hdr h hpn hpl hp60; simp [am_bi0, am_bi1, Int32.lt_iff_toInt_lt, Int32.le_iff_toInt_le, i1, i2] at * <;> omega)) (fun h5 => ?_)
  refine J_b 2 am_d160 rfl ?_
  refine J_S2s 139 (am_d160 rfl) rfl rfl (sp139) ?_
  refine J_if_eq 30 (am_d160 rfl) rfl (fun h14 => (by exfalso; clear hdr h hpn hpl hp60; simp [am_bi0, am_bi1, Int32.lt_iff_toInt_lt, Int32.le_iff_toInt_le, i1, i2] at * <;> omega)) (fun h14 => ?_)
  refine J_b 4 am_d160 rfl ?_
  refine J_S3s 140 (am_d160 rfl) rfl rfl (sp140) ?_
  refine J_if_ne 32 (am_d160 rfl) rfl (fun h27 => ?_) (fun h27 => (by exfalso; clear hdr h hpn hpl hp60; simp [am_bi0, am_bi1, Int32.lt_iff_toInt_lt, Int32.le_iff_toInt_le, i1, i2] at * <;> omega))
  refine J_b 4 am_d160 rfl ?_
  refine J_S3s 140 (am_d160 rfl) rfl rfl (sp140) ?_
  refine J_if_ne 47 (am_d160 rfl) rfl (fun h41 => ?_) (fun h41 => (by exfalso; clear hdr h hpn hpl hp60; simp [am_bi0, am_bi1, Int32.lt_iff_toInt_lt, Int32.le_iff_toInt_le, i1, i2] at * <;> omega))
  refine J_b 3 am_d160 rfl ?_
  refine J_V2n 154 (am_d160 rfl) rfl rfl (hdr) ?_
  refine J_b 5 am_d160 rfl ?_
  refine J_st5 (congrArg (fun z => ([.int z] : am_V)) hpn) ?_
  refine J_b 1 am_d160 rfl ?_
  refine J_b 2 am_d160 rfl ?_
  refine J_icmp_ge 91 (am_d160 rfl) rfl (fun h65 => ?_) (fun h65 => absurd (by decide) h65)
  refine J_b 4 am_d160 rfl ?_
  exact lp160 hp60 12 0 rfl _ rfl _ rfl
theorem am_w3 {w : Int32} (h : 0 ≤ w.toInt ∧ w.toInt ≤ 2) : w = 0 ∨ w = 1 ∨ w = 2 := by
  have h2 : w.toInt = 0 ∨ w.toInt = 1 ∨ w.toInt = 2 := by omega
  rcases h2 with h2 | h2 | h2
  · exact .inl (I_eq h2)
  · exact .inr (.inl (I_eq h2))
  · exact .inr (.inr (I_eq h2))
theorem pr_partsAt {X : am_X} (x m u v w : Int32) : am_pI iv X 56 160 [.int x, .int m, .int u, .int v, .int w] := by
  intro c0 M N hc0 h
  have e := h.1.2.1.1.2
  have e5 := h.1.2.1.2.1
  unfold b_in at e5
  have hb := h.1.1.2
  have hcb := h.1.2.1.2
  by_cases h1 : ((0 ≤ x.toInt ∧ x.toInt < (M 18 7).toInt) ∧ ((0 ≤ u.toInt ∧ u.toInt < 10) ∧ 0 ≤ v.toInt ∧ v.toInt < 6)) ∧ 0 ≤ w.toInt ∧ w.toInt ≤ 2
  rotate_left
  · exact pr_e (sp56a h1) (sp160a (by rw [e]; exact h1)) (iv_up _ _ _ h)
  by_cases h2 : 0 ≤ m.toInt ∧ m.toInt ≤ 12
  rotate_left
  · exact pr_e (sp56b h1 h2) (sp160b (by rw [e]; exact h1) h2) (iv_up _ _ _ h)
  have ex := I_nI h1.1.1.1
  have icx := I_cl h1.1.1.1
  have em := I_nI h2.1
  have icm := I_cl h2.1
  generalize x.toNatClampNeg = c at ex icx
  generalize m.toNatClampNeg = n at em icm
  subst ex
  subst em
  have hc5 : c < 5 := by omega
  have hn : n ≤ 12 := by omega
  have hcs : (c : Int) < (M 18 7).toInt := by omega
  have hcr : (c : Int) < (M 120 22).toInt := by rw [e]; exact hcs
  rcases am_w3 h1.2 with rfl | rfl | rfl
  · have q := sp160c_0 (X := X) (N := N) (M := dr_T M 40 (M 19 c) (M 22 c).toNatClampNeg (M 25 c) (M 40 10) (M 40 11) (M 17) (c_s0 (M 23 c).toNatClampNeg (M 42)) n) (c := c) (n := n) hc5 hcr hn (iv_sc h sc_T40 (N' := N)) h1.1.2.1 h1.1.2.2
    rw [cdr_sc sc_T40, pa_r _ (M 42)] at q
    exact pr_e (sp56c_0 hc5 hcs hn hb hcb h1.1.2.1 h1.1.2.2) q (iv_sc h (sc_t sc_T40 sc_R))
  · have q := sp160c_1 (X := X) (N := N) (M := dr_T M 40 (M 19 c) (M 22 c).toNatClampNeg (M 25 c) (M 40 10) (M 40 11) (M 17) (c_s0 (M 23 c).toNatClampNeg (M 42)) n) (c := c) (n := n) hc5 hcr hn (iv_sc h sc_T40 (N' := N)) h1.1.2.1 h1.1.2.2
    rw [cdr_sc sc_T40, pa_r _ (M 42)] at q
    exact pr_e (sp56c_1 hc5 hcs hn hb hcb h1.1.2.1 h1.1.2.2) q (iv_sc h (sc_t sc_T40 sc_R))
  · have q := sp160c_2 (X := X) (N := N) (M := dr_T M 40 (M 19 c) (M 22 c).toNatClampNeg (M 25 c) (M 40 10) (M 40 11) (M 17) (c_s0 (M 23 c).toNatClampNeg (M 42)) n) (c := c) (n := n) hc5 hcr hn (iv_sc h sc_T40 (N' := N)) h1.1.2.1 h1.1.2.2
    rw [cdr_sc sc_T40, pa_r _ (M 42)] at q
    exact pr_e (sp56c_2 hc5 hcs hn hb hcb h1.1.2.1 h1.1.2.2) q (iv_sc h (sc_t sc_T40 sc_R))
