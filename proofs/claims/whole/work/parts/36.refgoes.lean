/-! ===== the reference's drift ===== -/
def e_b (E : am_M) : Prop := (∀ j, b_in (E 1 j) 0 2) ∧ ((∀ j, b_in (E 5 j) (-3) 3) ∧ (∀ j, b_in (E 6 j) (-3) 3) ∧ (∀ j, b_in (E 7 j) (-3) 3) ∧ (∀ j, b_in (E 8 j) (-3) 3)) ∧ (∀ j, b_in (E 9 j) (-3) 3) ∧ (∀ j, b_in (E 10 j) (-3) 3) ∧ (∀ j, b_in (E 12 j) (-3) 3) ∧ (∀ j, b_in (E 13 j) (-3) 3)
theorem e_b_of {M : am_M} (h : iv_sb M) : e_b (sC M) := by
  obtain ⟨h1, h2, h3, h4, h5, h6, h7, h8, h9, h10, h11, h12⟩ := h
  refine ⟨h1, ⟨h4, h5, h6, h7⟩, h8, h9, fun j => ?_, fun j => ?_⟩
  · show b_in (if M 14 j = 0 then 0 else M 15 j) (-3) 3
    split
    · exact b_00 (by decide)
    · exact h10 j
  · show b_in (if M 14 j = 0 then 0 else M 16 j) (-3) 3
    split
    · exact b_00 (by decide)
    · exact h11 j
theorem sR_sC {M : am_M} (h : iv_sea M) : sR M = sC M := by
  obtain ⟨⟨h1, h2, h3, h4, h5⟩, ⟨h6, h7, h8, h9⟩, ⟨h10, h11, h12, h13⟩, h14⟩ := h
  funext r j
  unfold sR sC
  rw [h1, h2, h3, h4, h5, h6, h7, h8, h9, h10, h11, h12]
  split <;> first | rfl | skip
  · by_cases h : M 14 j = 0
    · rw [if_pos h, if_pos h]
    · rw [if_neg h, if_neg h, (h13 j h).1]
  · by_cases h : M 14 j = 0
    · rw [if_pos h, if_pos h]
    · rw [if_neg h, if_neg h, (h13 j h).2]
theorem pl_j {x y : Int32} (hx : 0 ≤ x.toInt ∧ x.toInt < 10) (hy : 0 ≤ y.toInt ∧ y.toInt < 6) : vp_in ((Int8.ofInt 6).toInt32 * x + y) 60 ∧ ((Int8.ofInt 6).toInt32 * x + y).toNatClampNeg = (6 * x.toInt + y.toInt).toNat := pl_i hx hy
theorem ap_z {o : Nat × Nat} {st : am_M} : c_ap o 0 st = st := by
  unfold c_ap
  split
  · exact up_id (Int32.add_zero _).symm
  · split
    · exact up_id (Int32.add_zero _).symm
    · exact up_id (Int32.add_zero _).symm
theorem sg_i {x : Int32} (s : Int) (hs : c_sg x = s) : (s = 1 → ¬ x.toInt < 0) ∧ (s = -1 → x.toInt < 0) := by
  unfold c_sg at hs
  split at hs <;> omega
theorem lp158N {X : am_X} {M : am_M} {N : am_N} {st : am_M} {p e n many : Int32} {dx : Int} : ∀ (k : Nat), k ≤ 20 → ∀ (x y n1 : Int32) (z1 z2 z3 : Value), (0 ≤ x.toInt ∧ x.toInt < 10) → (0 ≤ y.toInt ∧ y.toInt < 6) → n1.toInt = c_sg n * k → am_J X (am_eq none (dr_R M (c_ap (c_pth (M 121) dx (c_sg n) 0 k x.toInt y.toInt) many st)) N) 158 24 [.ref 120, .int p, .int many, .int e, .int n, .int x, .int y, .int 0, .int n1, z1, z2, z3] [] (dr_R M st) N := by
  intro k
  induction k with
  | zero =>
    intro hk x y n1 z1 z2 z3 hx hy hn1
    have hn0 : n1 = 0 := I_eq (by rw [hn1]; simp)
    subst hn0
    have hpo := pl_j hx hy
    have hq : c_pth (M 121) dx (c_sg n) 0 0 x.toInt y.toInt = (0, (6 * x.toInt + y.toInt).toNat) := by rw [c_pth]
    refine J_b 1 am_d158 rfl ?_
    refine J_if_ne 34 (am_d158 rfl) rfl (fun h26 => absurd rfl h26) (fun h26 => ?_)
    refine J_b 1 am_d158 rfl ?_
    refine J_if_eq 201 (am_d158 rfl) rfl (fun h31 => ?_) (fun h31 => absurd (rfl) h31)
    refine J_b 8 am_d158 rfl ?_
    refine J_iald (am_d158 rfl) rfl (hpo.1) ?_
    refine J_b 2 am_d158 rfl ?_
    refine J_iast (am_d158 rfl) rfl (hpo.1) ?_
    exact J_ret (am_d158 rfl) rfl ⟨rfl, by rw [hpo.2, R_u2, hq]; rfl, rfl⟩
  | succ k ih =>
    intro hk x y n1 z1 z2 z3 hx hy hn1
    have ih := ih (by omega)
    have hpo := pl_j hx hy
    rcases c_sg_v n with hs | hs
    · have hnz : ¬ n1 = 0 := fun z => by rw [z, hs] at hn1; have z0 : (0 : Int32).toInt = 0 := rfl; omega
      have hpos : ¬ n1 ≤ 0 := by rw [Int32.le_iff_toInt_le, hn1, hs]; have z0 : (0 : Int32).toInt = 0 := rfl; omega
      have z1 : (Int32.ofInt 1).toInt = 1 := rfl
      have hy1 : (y + Int32.ofInt 1).toInt = y.toInt + c_sg n := by rw [I_add (by omega), hs, z1]
      have hn2 : (n1 - Int32.ofInt 1).toInt = c_sg n * k := by rw [hs] at hn1 ⊢; rw [I_sub (by omega), z1]; omega
      refine J_b 1 am_d158 rfl ?_
      refine J_if_ne 34 (am_d158 rfl) rfl (fun h26 => absurd rfl h26) (fun h26 => ?_)
      refine J_b 1 am_d158 rfl ?_
      refine J_if_eq 201 (am_d158 rfl) rfl (fun h31 => absurd h31 hnz) (fun h31 => ?_)
      refine J_b 1 am_d158 rfl ?_
      refine J_if_eq 55 (am_d158 rfl) rfl (fun h36 => ?_) (fun h36 => absurd (rfl) h36)
      refine J_b 3 am_d158 rfl ?_
      refine J_if_eq 69 (am_d158 rfl) rfl (fun h61 => ?_) (fun h61 => absurd (rfl) h61)
      refine J_b 2 am_d158 rfl ?_
      refine J_if_le 80 (am_d158 rfl) rfl (fun h73 => absurd h73 hpos) (fun h73 => ?_)
      refine J_b 5 am_d158 rfl ?_
      refine J_if_eq 107 (am_d158 rfl) rfl (fun h86 => ?_) (fun h86 => absurd (rfl) h86)
      refine J_b 2 am_d158 rfl ?_
      refine J_if_le 118 (am_d158 rfl) rfl (fun h111 => absurd h111 hpos) (fun h111 => ?_)
      refine J_b 4 am_d158 rfl ?_
      show am_J X _ 158 122 [.ref 120, .int p, .int many, .int e, .int n, .int x, .int y, .int 0, .int (n1 - (Int32.ofInt 1)), .int x, .int (y + (Int32.ofInt 1)), z3] [] _ N
      refine J_b 1 am_d158 rfl ?_
      refine J_b 1 am_d158 rfl ?_
      refine J_S2s 139 (am_d158 rfl) rfl rfl (sp139) ?_
      refine J_if_ne 143 (am_d158 rfl) rfl (fun h129 => ?_) (fun h129 => ?_)
      · have hcell := am_bi1.mp h129
        have hpl := pl_j hcell.1 hcell.2
        have hic : c_ic (x.toInt) (y.toInt + c_sg n) := by rw [← hy1]; exact hcell
        have hpe : ((Int8.ofInt 6).toInt32 * x + (y + (Int32.ofInt 1))).toNatClampNeg = (6 * (x.toInt) + (y.toInt + c_sg n)).toNat := by rw [hpl.2, hy1]
        refine J_b 6 am_d158 rfl ?_
        show am_J X _ 158 153 [.ref 120, .int p, .int many, .int e, .int n, .int x, .int y, .int 0, .int (n1 - (Int32.ofInt 1)), .int x, .int (y + (Int32.ofInt 1)), .int ((Int8.ofInt 6).toInt32 * x + (y + (Int32.ofInt 1)))] [] _ N
        refine J_b 1 am_d158 rfl ?_
        refine J_b 2 am_d158 rfl ?_
        refine J_iald (am_d158 rfl) rfl hpl.1 ?_
        rw [hpe]
        show am_J X _ 158 160 _ (.int (M 121 (6 * (x.toInt) + (y.toInt + c_sg n)).toNat) :: _) _ N
        refine J_b 1 am_d158 rfl ?_
        refine J_icmp_ne 176 (am_d158 rfl) rfl (fun h161 => ?_) (fun h161 => ?_)
        · refine J_b 3 am_d158 rfl ?_
          refine J_iald (am_d158 rfl) rfl hpl.1 ?_
          rw [hpe]
          show am_J X _ 158 183 _ (.int (M 121 (6 * (x.toInt) + (y.toInt + c_sg n)).toNat) :: _) _ N
          refine J_b 1 am_d158 rfl ?_
          refine J_icmp_ne 190 (am_d158 rfl) rfl (fun h184 => ?_) (fun h184 => ?_)
          · have hq : c_pth (M 121) dx (c_sg n) 0 (k + 1) x.toInt y.toInt = c_pth (M 121) dx (c_sg n) 0 k (x.toInt) (y.toInt + c_sg n) := by rw [pth_N, if_pos hic, if_neg (show ¬ M 121 (6 * (x.toInt) + (y.toInt + c_sg n)).toNat = 1 from h161), if_neg (show ¬ M 121 (6 * (x.toInt) + (y.toInt + c_sg n)).toNat = 2 from h184)]
            rw [hq]
            rw [← hy1]
            refine J_b 5 am_d158 rfl ?_
            exact ih x (y + (Int32.ofInt 1)) (n1 - (Int32.ofInt 1)) _ _ _ hx hcell.2 hn2
          · refine J_b 1 am_d158 rfl ?_
            have hq : c_pth (M 121) dx (c_sg n) 0 (k + 1) x.toInt y.toInt = (0, (6 * x.toInt + y.toInt).toNat) := by rw [pth_N, if_pos hic, if_neg (show ¬ M 121 (6 * (x.toInt) + (y.toInt + c_sg n)).toNat = 1 from h161), if_pos (show  M 121 (6 * (x.toInt) + (y.toInt + c_sg n)).toNat = 2 from h184)]
            refine J_b 8 am_d158 rfl ?_
            refine J_iald (am_d158 rfl) rfl (hpo.1) ?_
            refine J_b 2 am_d158 rfl ?_
            refine J_iast (am_d158 rfl) rfl (hpo.1) ?_
            exact J_ret (am_d158 rfl) rfl ⟨rfl, by rw [hpo.2, R_u2, hq]; rfl, rfl⟩
        · have hq : c_pth (M 121) dx (c_sg n) 0 (k + 1) x.toInt y.toInt = (2, (6 * (x.toInt) + (y.toInt + c_sg n)).toNat) := by rw [pth_N, if_pos hic, if_pos (show  M 121 (6 * (x.toInt) + (y.toInt + c_sg n)).toNat = 1 from h161)]
          refine J_b 4 am_d158 rfl ?_
          refine J_iald (am_d158 rfl) rfl (hpl.1) ?_
          refine J_b 2 am_d158 rfl ?_
          refine J_iast (am_d158 rfl) rfl (hpl.1) ?_
          exact J_ret (am_d158 rfl) rfl ⟨rfl, by rw [hpe, R_u3, hq]; rfl, rfl⟩
      · have hq : c_pth (M 121) dx (c_sg n) 0 (k + 1) x.toInt y.toInt = (1, 0) := by rw [pth_N, if_neg (fun hc => absurd h129 (am_bi1.mpr (by rw [hy1]; exact hc)))]
        refine J_b 5 am_d158 rfl ?_
        refine J_puti (am_d158 rfl) rfl ?_
        exact J_ret (am_d158 rfl) rfl ⟨rfl, by rw [R_f13, hq]; rfl, rfl⟩
    · have hnz : ¬ n1 = 0 := fun z => by rw [z, hs] at hn1; have z0 : (0 : Int32).toInt = 0 := rfl; omega
      have hneg : n1 ≤ 0 := by rw [Int32.le_iff_toInt_le, hn1, hs]; have z0 : (0 : Int32).toInt = 0 := rfl; omega
      have z1 : (Int32.ofInt (-1)).toInt = -1 := rfl
      have hy1 : (y + Int32.ofInt (-1)).toInt = y.toInt + c_sg n := by rw [I_add (by omega), hs, z1]
      have hn2 : (n1 - Int32.ofInt (-1)).toInt = c_sg n * k := by rw [hs] at hn1 ⊢; rw [I_sub (by omega), z1]; omega
      refine J_b 1 am_d158 rfl ?_
      refine J_if_ne 34 (am_d158 rfl) rfl (fun h26 => absurd rfl h26) (fun h26 => ?_)
      refine J_b 1 am_d158 rfl ?_
      refine J_if_eq 201 (am_d158 rfl) rfl (fun h31 => absurd h31 hnz) (fun h31 => ?_)
      refine J_b 1 am_d158 rfl ?_
      refine J_if_eq 55 (am_d158 rfl) rfl (fun h36 => ?_) (fun h36 => absurd (rfl) h36)
      refine J_b 3 am_d158 rfl ?_
      refine J_if_eq 69 (am_d158 rfl) rfl (fun h61 => ?_) (fun h61 => absurd (rfl) h61)
      refine J_b 2 am_d158 rfl ?_
      refine J_if_le 80 (am_d158 rfl) rfl (fun h73 => ?_) (fun h73 => absurd (hneg) h73)
      refine J_b 4 am_d158 rfl ?_
      refine J_if_eq 107 (am_d158 rfl) rfl (fun h86 => ?_) (fun h86 => absurd (rfl) h86)
      refine J_b 2 am_d158 rfl ?_
      refine J_if_le 118 (am_d158 rfl) rfl (fun h111 => ?_) (fun h111 => absurd (hneg) h111)
      refine J_b 3 am_d158 rfl ?_
      show am_J X _ 158 122 [.ref 120, .int p, .int many, .int e, .int n, .int x, .int y, .int 0, .int (n1 - (Int32.ofInt (-1))), .int x, .int (y + (Int32.ofInt (-1))), z3] [] _ N
      refine J_b 1 am_d158 rfl ?_
      refine J_b 1 am_d158 rfl ?_
      refine J_S2s 139 (am_d158 rfl) rfl rfl (sp139) ?_
      refine J_if_ne 143 (am_d158 rfl) rfl (fun h129 => ?_) (fun h129 => ?_)
      · have hcell := am_bi1.mp h129
        have hpl := pl_j hcell.1 hcell.2
        have hic : c_ic (x.toInt) (y.toInt + c_sg n) := by rw [← hy1]; exact hcell
        have hpe : ((Int8.ofInt 6).toInt32 * x + (y + (Int32.ofInt (-1)))).toNatClampNeg = (6 * (x.toInt) + (y.toInt + c_sg n)).toNat := by rw [hpl.2, hy1]
        refine J_b 6 am_d158 rfl ?_
        show am_J X _ 158 153 [.ref 120, .int p, .int many, .int e, .int n, .int x, .int y, .int 0, .int (n1 - (Int32.ofInt (-1))), .int x, .int (y + (Int32.ofInt (-1))), .int ((Int8.ofInt 6).toInt32 * x + (y + (Int32.ofInt (-1))))] [] _ N
        refine J_b 1 am_d158 rfl ?_
        refine J_b 2 am_d158 rfl ?_
        refine J_iald (am_d158 rfl) rfl hpl.1 ?_
        rw [hpe]
        show am_J X _ 158 160 _ (.int (M 121 (6 * (x.toInt) + (y.toInt + c_sg n)).toNat) :: _) _ N
        refine J_b 1 am_d158 rfl ?_
        refine J_icmp_ne 176 (am_d158 rfl) rfl (fun h161 => ?_) (fun h161 => ?_)
        · refine J_b 3 am_d158 rfl ?_
          refine J_iald (am_d158 rfl) rfl hpl.1 ?_
          rw [hpe]
          show am_J X _ 158 183 _ (.int (M 121 (6 * (x.toInt) + (y.toInt + c_sg n)).toNat) :: _) _ N
          refine J_b 1 am_d158 rfl ?_
          refine J_icmp_ne 190 (am_d158 rfl) rfl (fun h184 => ?_) (fun h184 => ?_)
          · have hq : c_pth (M 121) dx (c_sg n) 0 (k + 1) x.toInt y.toInt = c_pth (M 121) dx (c_sg n) 0 k (x.toInt) (y.toInt + c_sg n) := by rw [pth_N, if_pos hic, if_neg (show ¬ M 121 (6 * (x.toInt) + (y.toInt + c_sg n)).toNat = 1 from h161), if_neg (show ¬ M 121 (6 * (x.toInt) + (y.toInt + c_sg n)).toNat = 2 from h184)]
            rw [hq]
            rw [← hy1]
            refine J_b 5 am_d158 rfl ?_
            exact ih x (y + (Int32.ofInt (-1))) (n1 - (Int32.ofInt (-1))) _ _ _ hx hcell.2 hn2
          · refine J_b 1 am_d158 rfl ?_
            have hq : c_pth (M 121) dx (c_sg n) 0 (k + 1) x.toInt y.toInt = (0, (6 * x.toInt + y.toInt).toNat) := by rw [pth_N, if_pos hic, if_neg (show ¬ M 121 (6 * (x.toInt) + (y.toInt + c_sg n)).toNat = 1 from h161), if_pos (show  M 121 (6 * (x.toInt) + (y.toInt + c_sg n)).toNat = 2 from h184)]
            refine J_b 8 am_d158 rfl ?_
            refine J_iald (am_d158 rfl) rfl (hpo.1) ?_
            refine J_b 2 am_d158 rfl ?_
            refine J_iast (am_d158 rfl) rfl (hpo.1) ?_
            exact J_ret (am_d158 rfl) rfl ⟨rfl, by rw [hpo.2, R_u2, hq]; rfl, rfl⟩
        · have hq : c_pth (M 121) dx (c_sg n) 0 (k + 1) x.toInt y.toInt = (2, (6 * (x.toInt) + (y.toInt + c_sg n)).toNat) := by rw [pth_N, if_pos hic, if_pos (show  M 121 (6 * (x.toInt) + (y.toInt + c_sg n)).toNat = 1 from h161)]
          refine J_b 4 am_d158 rfl ?_
          refine J_iald (am_d158 rfl) rfl (hpl.1) ?_
          refine J_b 2 am_d158 rfl ?_
          refine J_iast (am_d158 rfl) rfl (hpl.1) ?_
          exact J_ret (am_d158 rfl) rfl ⟨rfl, by rw [hpe, R_u3, hq]; rfl, rfl⟩
      · have hq : c_pth (M 121) dx (c_sg n) 0 (k + 1) x.toInt y.toInt = (1, 0) := by rw [pth_N, if_neg (fun hc => absurd h129 (am_bi1.mpr (by rw [hy1]; exact hc)))]
        refine J_b 5 am_d158 rfl ?_
        refine J_puti (am_d158 rfl) rfl ?_
        exact J_ret (am_d158 rfl) rfl ⟨rfl, by rw [R_f13, hq]; rfl, rfl⟩
theorem lp158E {X : am_X} {M : am_M} {N : am_N} {st : am_M} {p e n many : Int32} {kb : Nat} (hkb : kb ≤ 20) (hn1 : n.toInt = c_sg n * kb) : ∀ (k : Nat), k ≤ 20 → ∀ (x y e1 : Int32) (z1 z2 z3 : Value), (0 ≤ x.toInt ∧ x.toInt < 10) → (0 ≤ y.toInt ∧ y.toInt < 6) → e1.toInt = c_sg e * k → am_J X (am_eq none (dr_R M (c_ap (c_pth (M 121) (c_sg e) (c_sg n) k kb x.toInt y.toInt) many st)) N) 158 24 [.ref 120, .int p, .int many, .int e, .int n, .int x, .int y, .int e1, .int n, z1, z2, z3] [] (dr_R M st) N := by
  intro k
  induction k with
  | zero =>
    intro hk x y e1 z1 z2 z3 hx hy he1
    have hn0 : e1 = 0 := I_eq (by rw [he1]; simp)
    subst hn0
    exact lp158N kb hkb x y n z1 z2 z3 hx hy hn1
  | succ k ih =>
    intro hk x y e1 z1 z2 z3 hx hy he1
    have ih := ih (by omega)
    have hpo := pl_j hx hy
    rcases c_sg_v e with hs | hs
    · have hnz : ¬ e1 = 0 := fun z => by rw [z, hs] at he1; have z0 : (0 : Int32).toInt = 0 := rfl; omega
      have hpos : ¬ e1 ≤ 0 := by rw [Int32.le_iff_toInt_le, he1, hs]; have z0 : (0 : Int32).toInt = 0 := rfl; omega
      have z1 : (Int32.ofInt 1).toInt = 1 := rfl
      have hx1 : (x + Int32.ofInt 1).toInt = x.toInt + c_sg e := by rw [I_add (by omega), hs, z1]
      have he2 : (e1 - Int32.ofInt 1).toInt = c_sg e * k := by rw [hs] at he1 ⊢; rw [I_sub (by omega), z1]; omega
      refine J_b 1 am_d158 rfl ?_
      refine J_if_ne 34 (am_d158 rfl) rfl (fun h26 => ?_) (fun h26 => absurd h26 hnz)
      refine J_b 1 am_d158 rfl ?_
      refine J_if_eq 55 (am_d158 rfl) rfl (fun h36 => absurd h36 hnz) (fun h36 => ?_)
      refine J_b 2 am_d158 rfl ?_
      refine J_if_le 50 (am_d158 rfl) rfl (fun h43 => absurd h43 hpos) (fun h43 => ?_)
      refine J_b 6 am_d158 rfl ?_
      refine J_if_eq 69 (am_d158 rfl) rfl (fun h61 => absurd h61 hnz) (fun h61 => ?_)
      refine J_b 4 am_d158 rfl ?_
      refine J_if_eq 107 (am_d158 rfl) rfl (fun h86 => absurd h86 hnz) (fun h86 => ?_)
      refine J_b 2 am_d158 rfl ?_
      refine J_if_le 100 (am_d158 rfl) rfl (fun h93 => absurd h93 hpos) (fun h93 => ?_)
      refine J_b 5 am_d158 rfl ?_
      show am_J X _ 158 122 [.ref 120, .int p, .int many, .int e, .int n, .int x, .int y, .int (e1 - (Int32.ofInt 1)), .int n, .int (x + (Int32.ofInt 1)), .int y, z3] [] _ N
      refine J_b 1 am_d158 rfl ?_
      refine J_b 1 am_d158 rfl ?_
      refine J_S2s 139 (am_d158 rfl) rfl rfl (sp139) ?_
      refine J_if_ne 143 (am_d158 rfl) rfl (fun h129 => ?_) (fun h129 => ?_)
      · have hcell := am_bi1.mp h129
        have hpl := pl_j hcell.1 hcell.2
        have hic : c_ic (x.toInt + c_sg e) (y.toInt) := by rw [← hx1]; exact hcell
        have hpe : ((Int8.ofInt 6).toInt32 * (x + (Int32.ofInt 1)) + y).toNatClampNeg = (6 * (x.toInt + c_sg e) + (y.toInt)).toNat := by rw [hpl.2, hx1]
        refine J_b 6 am_d158 rfl ?_
        show am_J X _ 158 153 [.ref 120, .int p, .int many, .int e, .int n, .int x, .int y, .int (e1 - (Int32.ofInt 1)), .int n, .int (x + (Int32.ofInt 1)), .int y, .int ((Int8.ofInt 6).toInt32 * (x + (Int32.ofInt 1)) + y)] [] _ N
        refine J_b 1 am_d158 rfl ?_
        refine J_b 2 am_d158 rfl ?_
        refine J_iald (am_d158 rfl) rfl hpl.1 ?_
        rw [hpe]
        show am_J X _ 158 160 _ (.int (M 121 (6 * (x.toInt + c_sg e) + (y.toInt)).toNat) :: _) _ N
        refine J_b 1 am_d158 rfl ?_
        refine J_icmp_ne 176 (am_d158 rfl) rfl (fun h161 => ?_) (fun h161 => ?_)
        · refine J_b 3 am_d158 rfl ?_
          refine J_iald (am_d158 rfl) rfl hpl.1 ?_
          rw [hpe]
          show am_J X _ 158 183 _ (.int (M 121 (6 * (x.toInt + c_sg e) + (y.toInt)).toNat) :: _) _ N
          refine J_b 1 am_d158 rfl ?_
          refine J_icmp_ne 190 (am_d158 rfl) rfl (fun h184 => ?_) (fun h184 => ?_)
          · have hq : c_pth (M 121) (c_sg e) (c_sg n) (k + 1) kb x.toInt y.toInt = c_pth (M 121) (c_sg e) (c_sg n) k kb (x.toInt + c_sg e) (y.toInt) := by rw [pth_E, if_pos hic, if_neg (show ¬ M 121 (6 * (x.toInt + c_sg e) + (y.toInt)).toNat = 1 from h161), if_neg (show ¬ M 121 (6 * (x.toInt + c_sg e) + (y.toInt)).toNat = 2 from h184)]
            rw [hq]
            rw [← hx1]
            refine J_b 5 am_d158 rfl ?_
            exact ih (x + (Int32.ofInt 1)) y (e1 - (Int32.ofInt 1)) _ _ _ hcell.1 hy he2
          · refine J_b 1 am_d158 rfl ?_
            have hq : c_pth (M 121) (c_sg e) (c_sg n) (k + 1) kb x.toInt y.toInt = (0, (6 * x.toInt + y.toInt).toNat) := by rw [pth_E, if_pos hic, if_neg (show ¬ M 121 (6 * (x.toInt + c_sg e) + (y.toInt)).toNat = 1 from h161), if_pos (show  M 121 (6 * (x.toInt + c_sg e) + (y.toInt)).toNat = 2 from h184)]
            refine J_b 8 am_d158 rfl ?_
            refine J_iald (am_d158 rfl) rfl (hpo.1) ?_
            refine J_b 2 am_d158 rfl ?_
            refine J_iast (am_d158 rfl) rfl (hpo.1) ?_
            exact J_ret (am_d158 rfl) rfl ⟨rfl, by rw [hpo.2, R_u2, hq]; rfl, rfl⟩
        · have hq : c_pth (M 121) (c_sg e) (c_sg n) (k + 1) kb x.toInt y.toInt = (2, (6 * (x.toInt + c_sg e) + (y.toInt)).toNat) := by rw [pth_E, if_pos hic, if_pos (show  M 121 (6 * (x.toInt + c_sg e) + (y.toInt)).toNat = 1 from h161)]
          refine J_b 4 am_d158 rfl ?_
          refine J_iald (am_d158 rfl) rfl (hpl.1) ?_
          refine J_b 2 am_d158 rfl ?_
          refine J_iast (am_d158 rfl) rfl (hpl.1) ?_
          exact J_ret (am_d158 rfl) rfl ⟨rfl, by rw [hpe, R_u3, hq]; rfl, rfl⟩
      · have hq : c_pth (M 121) (c_sg e) (c_sg n) (k + 1) kb x.toInt y.toInt = (1, 0) := by rw [pth_E, if_neg (fun hc => absurd h129 (am_bi1.mpr (by rw [hx1]; exact hc)))]
        refine J_b 5 am_d158 rfl ?_
        refine J_puti (am_d158 rfl) rfl ?_
        exact J_ret (am_d158 rfl) rfl ⟨rfl, by rw [R_f13, hq]; rfl, rfl⟩
    · have hnz : ¬ e1 = 0 := fun z => by rw [z, hs] at he1; have z0 : (0 : Int32).toInt = 0 := rfl; omega
      have hneg : e1 ≤ 0 := by rw [Int32.le_iff_toInt_le, he1, hs]; have z0 : (0 : Int32).toInt = 0 := rfl; omega
      have z1 : (Int32.ofInt (-1)).toInt = -1 := rfl
      have hx1 : (x + Int32.ofInt (-1)).toInt = x.toInt + c_sg e := by rw [I_add (by omega), hs, z1]
      have he2 : (e1 - Int32.ofInt (-1)).toInt = c_sg e * k := by rw [hs] at he1 ⊢; rw [I_sub (by omega), z1]; omega
      refine J_b 1 am_d158 rfl ?_
      refine J_if_ne 34 (am_d158 rfl) rfl (fun h26 => ?_) (fun h26 => absurd h26 hnz)
      refine J_b 1 am_d158 rfl ?_
      refine J_if_eq 55 (am_d158 rfl) rfl (fun h36 => absurd h36 hnz) (fun h36 => ?_)
      refine J_b 2 am_d158 rfl ?_
      refine J_if_le 50 (am_d158 rfl) rfl (fun h43 => ?_) (fun h43 => absurd (hneg) h43)
      refine J_b 5 am_d158 rfl ?_
      refine J_if_eq 69 (am_d158 rfl) rfl (fun h61 => absurd h61 hnz) (fun h61 => ?_)
      refine J_b 4 am_d158 rfl ?_
      refine J_if_eq 107 (am_d158 rfl) rfl (fun h86 => absurd h86 hnz) (fun h86 => ?_)
      refine J_b 2 am_d158 rfl ?_
      refine J_if_le 100 (am_d158 rfl) rfl (fun h93 => ?_) (fun h93 => absurd (hneg) h93)
      refine J_b 4 am_d158 rfl ?_
      show am_J X _ 158 122 [.ref 120, .int p, .int many, .int e, .int n, .int x, .int y, .int (e1 - (Int32.ofInt (-1))), .int n, .int (x + (Int32.ofInt (-1))), .int y, z3] [] _ N
      refine J_b 1 am_d158 rfl ?_
      refine J_b 1 am_d158 rfl ?_
      refine J_S2s 139 (am_d158 rfl) rfl rfl (sp139) ?_
      refine J_if_ne 143 (am_d158 rfl) rfl (fun h129 => ?_) (fun h129 => ?_)
      · have hcell := am_bi1.mp h129
        have hpl := pl_j hcell.1 hcell.2
        have hic : c_ic (x.toInt + c_sg e) (y.toInt) := by rw [← hx1]; exact hcell
        have hpe : ((Int8.ofInt 6).toInt32 * (x + (Int32.ofInt (-1))) + y).toNatClampNeg = (6 * (x.toInt + c_sg e) + (y.toInt)).toNat := by rw [hpl.2, hx1]
        refine J_b 6 am_d158 rfl ?_
        show am_J X _ 158 153 [.ref 120, .int p, .int many, .int e, .int n, .int x, .int y, .int (e1 - (Int32.ofInt (-1))), .int n, .int (x + (Int32.ofInt (-1))), .int y, .int ((Int8.ofInt 6).toInt32 * (x + (Int32.ofInt (-1))) + y)] [] _ N
        refine J_b 1 am_d158 rfl ?_
        refine J_b 2 am_d158 rfl ?_
        refine J_iald (am_d158 rfl) rfl hpl.1 ?_
        rw [hpe]
        show am_J X _ 158 160 _ (.int (M 121 (6 * (x.toInt + c_sg e) + (y.toInt)).toNat) :: _) _ N
        refine J_b 1 am_d158 rfl ?_
        refine J_icmp_ne 176 (am_d158 rfl) rfl (fun h161 => ?_) (fun h161 => ?_)
        · refine J_b 3 am_d158 rfl ?_
          refine J_iald (am_d158 rfl) rfl hpl.1 ?_
          rw [hpe]
          show am_J X _ 158 183 _ (.int (M 121 (6 * (x.toInt + c_sg e) + (y.toInt)).toNat) :: _) _ N
          refine J_b 1 am_d158 rfl ?_
          refine J_icmp_ne 190 (am_d158 rfl) rfl (fun h184 => ?_) (fun h184 => ?_)
          · have hq : c_pth (M 121) (c_sg e) (c_sg n) (k + 1) kb x.toInt y.toInt = c_pth (M 121) (c_sg e) (c_sg n) k kb (x.toInt + c_sg e) (y.toInt) := by rw [pth_E, if_pos hic, if_neg (show ¬ M 121 (6 * (x.toInt + c_sg e) + (y.toInt)).toNat = 1 from h161), if_neg (show ¬ M 121 (6 * (x.toInt + c_sg e) + (y.toInt)).toNat = 2 from h184)]
            rw [hq]
            rw [← hx1]
            refine J_b 5 am_d158 rfl ?_
            exact ih (x + (Int32.ofInt (-1))) y (e1 - (Int32.ofInt (-1))) _ _ _ hcell.1 hy he2
          · refine J_b 1 am_d158 rfl ?_
            have hq : c_pth (M 121) (c_sg e) (c_sg n) (k + 1) kb x.toInt y.toInt = (0, (6 * x.toInt + y.toInt).toNat) := by rw [pth_E, if_pos hic, if_neg (show ¬ M 121 (6 * (x.toInt + c_sg e) + (y.toInt)).toNat = 1 from h161), if_pos (show  M 121 (6 * (x.toInt + c_sg e) + (y.toInt)).toNat = 2 from h184)]
            refine J_b 8 am_d158 rfl ?_
            refine J_iald (am_d158 rfl) rfl (hpo.1) ?_
            refine J_b 2 am_d158 rfl ?_
            refine J_iast (am_d158 rfl) rfl (hpo.1) ?_
            exact J_ret (am_d158 rfl) rfl ⟨rfl, by rw [hpo.2, R_u2, hq]; rfl, rfl⟩
        · have hq : c_pth (M 121) (c_sg e) (c_sg n) (k + 1) kb x.toInt y.toInt = (2, (6 * (x.toInt + c_sg e) + (y.toInt)).toNat) := by rw [pth_E, if_pos hic, if_pos (show  M 121 (6 * (x.toInt + c_sg e) + (y.toInt)).toNat = 1 from h161)]
          refine J_b 4 am_d158 rfl ?_
          refine J_iald (am_d158 rfl) rfl (hpl.1) ?_
          refine J_b 2 am_d158 rfl ?_
          refine J_iast (am_d158 rfl) rfl (hpl.1) ?_
          exact J_ret (am_d158 rfl) rfl ⟨rfl, by rw [hpe, R_u3, hq]; rfl, rfl⟩
      · have hq : c_pth (M 121) (c_sg e) (c_sg n) (k + 1) kb x.toInt y.toInt = (1, 0) := by rw [pth_E, if_neg (fun hc => absurd h129 (am_bi1.mpr (by rw [hx1]; exact hc)))]
        refine J_b 5 am_d158 rfl ?_
        refine J_puti (am_d158 rfl) rfl ?_
        exact J_ret (am_d158 rfl) rfl ⟨rfl, by rw [R_f13, hq]; rfl, rfl⟩
theorem sp158 {X : am_X} {M : am_M} {N : am_N} {st : am_M} {p : Nat} {e n many : Int32} (hp : p < 60) (he : b_in e (-20) 20) (hn : b_in n (-20) 20) : am_J X (am_eq (none) (dr_R M (c_sd (sR M) p e n many st)) N) 158 0 (am_en 158 [.ref 120, .int (nI p), .int many, .int e, .int n]) [] (dr_R M st) N := by
  have hae : e.toInt.natAbs ≤ 20 := by unfold b_in at he; omega
  have hbn : n.toInt.natAbs ≤ 20 := by unfold b_in at hn; omega
  have e6 : nI p / (Int8.ofInt 6).toInt32 = nI (p / 6) := nI_divn (by omega) (by decide) (by decide) rfl
  have r6 : nI p - nI p / (Int8.ofInt 6).toInt32 * (Int8.ofInt 6).toInt32 = nI (p % 6) := nI_remn (by omega) (by decide) (by decide) rfl
  have l6 : p % 6 < 6 := Nat.mod_lt _ (by decide)
  have l10 : p / 6 < 10 := by omega
  have i1 := nI_i (n := p / 6) (by omega)
  have i2 := nI_i (n := p % 6) (by omega)
  have s1 : e.toInt = c_sg e * (e.toInt.natAbs : Nat) := by unfold c_sg; split <;> omega
  have s2 : n.toInt = c_sg n * (n.toInt.natAbs : Nat) := by unfold c_sg; split <;> omega
  refine J_en (L := [.ref 120, .int (nI p), .int many, .int e, .int n, .retAddr 0, .retAddr 0, .retAddr 0, .retAddr 0, .retAddr 0, .retAddr 0, .retAddr 0]) rfl ?_
  refine J_b 1 am_d158 rfl ?_
  refine J_if_ne 5 (am_d158 rfl) rfl (fun h1 => ?_) (fun h1 => ?_)
  · refine J_b 12 am_d158 rfl ?_
    rw [r6, e6]
    unfold c_sd
    rw [← i1, ← i2]
    exact lp158E hbn s2 _ hae _ _ _ _ _ _ (by omega) (by omega) s1
  · exact J_ret (am_d158 rfl) rfl ⟨rfl, by unfold c_sd; rw [show many = 0 from h1, ap_z], rfl⟩
