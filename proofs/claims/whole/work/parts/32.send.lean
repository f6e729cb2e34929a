/-! ===== the drift: parts sent over the sea ===== -/
theorem pth_N {W : Nat → Int32} {dx dy : Int} {b : Nat} {x y : Int} : c_pth W dx dy 0 (b + 1) x y = if c_ic x (y + dy) then (if W (6 * x + (y + dy)).toNat = 1 then (2, (6 * x + (y + dy)).toNat) else if W (6 * x + (y + dy)).toNat = 2 then (0, (6 * x + y).toNat) else c_pth W dx dy 0 b x (y + dy)) else (1, 0) := by
  rw [c_pth]
theorem pth_E {W : Nat → Int32} {dx dy : Int} {a b : Nat} {x y : Int} : c_pth W dx dy (a + 1) b x y = if c_ic (x + dx) y then (if W (6 * (x + dx) + y).toNat = 1 then (2, (6 * (x + dx) + y).toNat) else if W (6 * (x + dx) + y).toNat = 2 then (0, (6 * x + y).toNat) else c_pth W dx dy a b (x + dx) y) else (1, 0) := by
  rw [c_pth]
theorem ap_1 {n : Int32} {st : am_M} : c_ap (1, 0) n st = am_up st 0 13 (st 0 13 + n) := rfl
theorem ap_2 {n : Int32} {st : am_M} {k : Nat} : c_ap (2, k) n st = am_up st 3 k (st 3 k + n) := rfl
theorem ap_0 {n : Int32} {st : am_M} {k : Nat} : c_ap (0, k) n st = am_up st 2 k (st 2 k + n) := rfl
def c_gg (E : am_M) (sh : Nat → Int32) (ew nw : Int32) (m p : Nat) (w : Int32) (st : am_M) : am_M :=
  c_sd E p ((E 5 (c_k E m p) + E 6 (c_k E m p)) / 2 + (ew + sh (E 1 p).toNatClampNeg)) ((E 7 (c_k E m p) + E 8 (c_k E m p)) / 2 + nw) (w - 2 * (w / 4))
    (c_sd E p (E 6 (c_k E m p) + (ew + sh (E 1 p).toNatClampNeg)) (E 8 (c_k E m p) + nw) (w / 4)
      (c_sd E p (E 5 (c_k E m p) + (ew + sh (E 1 p).toNatClampNeg)) (E 7 (c_k E m p) + nw) (w / 4) st))
theorem lp51N_40 {X : am_X} {M : am_M} {N : am_N} {kd mo sk gn ew nw : Int32} {sh : Nat → Int32} {st : am_M} {p e n many eS stp : Int32} {dx : Int} (hn : b_in n (-20) 20) (hS : stp.toInt ≤ 100) : ∀ (k : Nat) (x y i : Int32) (z1 z2 z3 : Value), (0 ≤ x.toInt ∧ x.toInt < 10) → (0 ≤ y.toInt ∧ y.toInt < 6) → eS.toInt ≤ i.toInt → (0 ≤ i.toInt ∧ i.toInt + k = stp.toInt) → (k ≠ 0 → n.toInt ≠ 0) → am_J X (am_eq none (dr_D M 40 kd mo sk gn ew nw sh (c_ap (c_pth (M 3) dx (c_sg n) 0 k x.toInt y.toInt) many st)) N) 51 30 [.ref 40, .int p, .int e, .int n, .int many, .int x, .int y, .int eS, .int stp, .int i, z1, z2, z3] [] (dr_D M 40 kd mo sk gn ew nw sh st) N := by
  intro k
  induction k with
  | zero =>
    intro x y i z1 z2 z3 hx hy hie hi h0
    have hge : stp ≤ i := by rw [Int32.le_iff_toInt_le]; omega
    have hpo := pl_i hx hy
    have hq : c_pth (M 3) dx (c_sg n) 0 0 x.toInt y.toInt = (0, (6 * x.toInt + y.toInt).toNat) := by rw [c_pth]
    refine J_b 2 am_d51 rfl ?_
    refine J_icmp_ge 167 (am_d51 rfl) rfl (fun h34 => ?_) (fun h34 => absurd (hge) h34)
    refine J_b 4 am_d51 rfl ?_
    refine J_S2s 16 (am_d51 rfl) rfl rfl (sp16) ?_
    refine J_b 1 am_d51 rfl ?_
    refine J_iald (am_d51 rfl) rfl (hpo.1) ?_
    refine J_b 2 am_d51 rfl ?_
    refine J_iast (am_d51 rfl) rfl (hpo.1) ?_
    exact J_ret (am_d51 rfl) rfl ⟨rfl, by rw [hpo.2, D40_u2, hq]; rfl, rfl⟩
  | succ k ih =>
    intro x y i z1 z2 z3 hx hy hie1 hi h0
    have hlt : ¬ stp ≤ i := by rw [Int32.le_iff_toInt_le]; omega
    have hie : eS ≤ i := by rw [Int32.le_iff_toInt_le]; omega
    have hn0 := h0 (by omega)
    have hsg := i_sg_v hn hn0
    have hs1 := c_sg_v n
    have hy1 : (y + i_sg n).toInt = y.toInt + c_sg n := by rw [I_add (by omega), hsg]
    have hi1 : (i + 1).toInt = i.toInt + 1 := by rw [I_add (by have : (1 : Int32).toInt = 1 := rfl; omega)]; rfl
    have hpo := pl_i hx hy
    refine J_b 2 am_d51 rfl ?_
    refine J_icmp_ge 167 (am_d51 rfl) rfl (fun h34 => absurd h34 hlt) (fun h34 => ?_)
    refine J_b 2 am_d51 rfl ?_
    refine J_icmp_ge 54 (am_d51 rfl) rfl (fun h41 => ?_) (fun h41 => absurd (hie) h41)
    refine J_b 4 am_d51 rfl ?_
    refine J_icmp_ge 70 (am_d51 rfl) rfl (fun h62 => ?_) (fun h62 => absurd (hie) h62)
    refine J_b 2 am_d51 rfl ?_
    refine J_S1s 53 (am_d51 rfl) rfl rfl (sp53 hn) ?_
    refine J_b 2 am_d51 rfl ?_
    show am_J X _ 51 79 [.ref 40, .int p, .int e, .int n, .int many, .int x, .int y, .int eS, .int stp, .int i, .int x, .int (y + i_sg n), z3] [] _ N
    refine J_b 1 am_d51 rfl ?_
    refine J_b 1 am_d51 rfl ?_
    refine J_S2s 12 (am_d51 rfl) rfl rfl (sp12) ?_
    refine J_if_ne 101 (am_d51 rfl) rfl (fun h86 => ?_) (fun h86 => ?_)
    · have hcell := am_bi1.mp h86
      have hpl := pl_i hcell.1 hcell.2
      have hic : c_ic (x.toInt) (y.toInt + c_sg n) := by rw [← hy1]; exact hcell
      have hpe : (6 * x + (y + i_sg n)).toNatClampNeg = (6 * (x.toInt) + (y.toInt + c_sg n)).toNat := by rw [hpl.2, hy1]
      refine J_b 4 am_d51 rfl ?_
      refine J_aaldk 3 (am_d51 rfl) rfl (am_vi rfl) rfl ?_
      refine J_b 2 am_d51 rfl ?_
      refine J_S2s 16 (am_d51 rfl) rfl rfl (sp16) ?_
      refine J_iald (am_d51 rfl) rfl hpl.1 ?_
      rw [hpe]
      show am_J X _ 51 118 _ (.int (M 3 (6 * (x.toInt) + (y.toInt + c_sg n)).toNat) :: _) _ N
      refine J_b 1 am_d51 rfl ?_
      show am_J X _ 51 120 [.ref 40, .int p, .int e, .int n, .int many, .int x, .int y, .int eS, .int stp, .int i, .int x, .int (y + i_sg n), .int (M 3 (6 * (x.toInt) + (y.toInt + c_sg n)).toNat)] [] _ N
      refine J_b 1 am_d51 rfl ?_
      refine J_b 1 am_d51 rfl ?_
      refine J_icmp_ne 144 (am_d51 rfl) rfl (fun h123 => ?_) (fun h123 => ?_)
      · refine J_b 2 am_d51 rfl ?_
        refine J_icmp_ne 153 (am_d51 rfl) rfl (fun h147 => ?_) (fun h147 => ?_)
        · have hq : c_pth (M 3) dx (c_sg n) 0 (k + 1) x.toInt y.toInt = c_pth (M 3) dx (c_sg n) 0 k (x.toInt) (y.toInt + c_sg n) := by rw [pth_N, if_pos hic, if_neg (show ¬ M 3 (6 * (x.toInt) + (y.toInt + c_sg n)).toNat = 1 from h123), if_neg (show ¬ M 3 (6 * (x.toInt) + (y.toInt + c_sg n)).toNat = 2 from h147)]
          rw [hq]
          rw [← hy1]
          refine J_b 6 am_d51 rfl ?_
          exact ih x (y + i_sg n) (i + 1) _ _ _ hx hcell.2 (by rw [hi1]; omega) (by rw [hi1]; omega) (fun _ => hn0)
        · refine J_b 1 am_d51 rfl ?_
          have hq : c_pth (M 3) dx (c_sg n) 0 (k + 1) x.toInt y.toInt = (0, (6 * x.toInt + y.toInt).toNat) := by rw [pth_N, if_pos hic, if_neg (show ¬ M 3 (6 * (x.toInt) + (y.toInt + c_sg n)).toNat = 1 from h123), if_pos (show  M 3 (6 * (x.toInt) + (y.toInt + c_sg n)).toNat = 2 from h147)]
          refine J_b 4 am_d51 rfl ?_
          refine J_S2s 16 (am_d51 rfl) rfl rfl (sp16) ?_
          refine J_b 1 am_d51 rfl ?_
          refine J_iald (am_d51 rfl) rfl (hpo.1) ?_
          refine J_b 2 am_d51 rfl ?_
          refine J_iast (am_d51 rfl) rfl (hpo.1) ?_
          exact J_ret (am_d51 rfl) rfl ⟨rfl, by rw [hpo.2, D40_u2, hq]; rfl, rfl⟩
      · have hq : c_pth (M 3) dx (c_sg n) 0 (k + 1) x.toInt y.toInt = (2, (6 * (x.toInt) + (y.toInt + c_sg n)).toNat) := by rw [pth_N, if_pos hic, if_pos (show  M 3 (6 * (x.toInt) + (y.toInt + c_sg n)).toNat = 1 from h123)]
        refine J_b 4 am_d51 rfl ?_
        refine J_S2s 16 (am_d51 rfl) rfl rfl (sp16) ?_
        refine J_b 1 am_d51 rfl ?_
        refine J_iald (am_d51 rfl) rfl (hpl.1) ?_
        refine J_b 2 am_d51 rfl ?_
        refine J_iast (am_d51 rfl) rfl (hpl.1) ?_
        exact J_ret (am_d51 rfl) rfl ⟨rfl, by rw [hpe, D40_u3, hq]; rfl, rfl⟩
    · have hq : c_pth (M 3) dx (c_sg n) 0 (k + 1) x.toInt y.toInt = (1, 0) := by rw [pth_N, if_neg (fun hc => absurd h86 (am_bi1.mpr (by rw [hy1]; exact hc)))]
      refine J_b 5 am_d51 rfl ?_
      refine J_puti (am_d51 rfl) rfl ?_
      exact J_ret (am_d51 rfl) rfl ⟨rfl, by rw [D40_f13, hq]; rfl, rfl⟩
theorem lp51E_40 {X : am_X} {M : am_M} {N : am_N} {kd mo sk gn ew nw : Int32} {sh : Nat → Int32} {st : am_M} {p e n many eS stp : Int32} {kb : Nat} (he : b_in e (-20) 20) (hn : b_in n (-20) 20) (hS : stp.toInt = eS.toInt + kb ∧ eS.toInt ≤ 20 ∧ kb ≤ 20) (hn0 : kb ≠ 0 → n.toInt ≠ 0) (he0 : eS.toInt ≠ 0 → e.toInt ≠ 0) : ∀ (k : Nat) (x y i : Int32) (z1 z2 z3 : Value), (0 ≤ x.toInt ∧ x.toInt < 10) → (0 ≤ y.toInt ∧ y.toInt < 6) → (0 ≤ i.toInt ∧ i.toInt + k = eS.toInt) → True → am_J X (am_eq none (dr_D M 40 kd mo sk gn ew nw sh (c_ap (c_pth (M 3) (c_sg e) (c_sg n) k kb x.toInt y.toInt) many st)) N) 51 30 [.ref 40, .int p, .int e, .int n, .int many, .int x, .int y, .int eS, .int stp, .int i, z1, z2, z3] [] (dr_D M 40 kd mo sk gn ew nw sh st) N := by
  intro k
  induction k with
  | zero =>
    intro x y i z1 z2 z3 hx hy hi _
    exact lp51N_40 hn (by omega) kb x y i z1 z2 z3 hx hy (by omega) (by omega) hn0
  | succ k ih =>
    intro x y i z1 z2 z3 hx hy hi _
    have hlt : ¬ stp ≤ i := by rw [Int32.le_iff_toInt_le]; omega
    have hie : ¬ eS ≤ i := by rw [Int32.le_iff_toInt_le]; omega
    have hsg := i_sg_v he (he0 (by omega))
    have hs1 := c_sg_v e
    have hx1 : (x + i_sg e).toInt = x.toInt + c_sg e := by rw [I_add (by omega), hsg]
    have hi1 : (i + 1).toInt = i.toInt + 1 := by rw [I_add (by have : (1 : Int32).toInt = 1 := rfl; omega)]; rfl
    have hpo := pl_i hx hy
    refine J_b 2 am_d51 rfl ?_
    refine J_icmp_ge 167 (am_d51 rfl) rfl (fun h34 => absurd h34 hlt) (fun h34 => ?_)
    refine J_b 2 am_d51 rfl ?_
    refine J_icmp_ge 54 (am_d51 rfl) rfl (fun h41 => absurd h41 hie) (fun h41 => ?_)
    refine J_b 2 am_d51 rfl ?_
    refine J_S1s 53 (am_d51 rfl) rfl rfl (sp53 he) ?_
    refine J_b 5 am_d51 rfl ?_
    refine J_icmp_ge 70 (am_d51 rfl) rfl (fun h62 => absurd h62 hie) (fun h62 => ?_)
    refine J_b 3 am_d51 rfl ?_
    show am_J X _ 51 79 [.ref 40, .int p, .int e, .int n, .int many, .int x, .int y, .int eS, .int stp, .int i, .int (x + i_sg e), .int y, z3] [] _ N
    refine J_b 1 am_d51 rfl ?_
    refine J_b 1 am_d51 rfl ?_
    refine J_S2s 12 (am_d51 rfl) rfl rfl (sp12) ?_
    refine J_if_ne 101 (am_d51 rfl) rfl (fun h86 => ?_) (fun h86 => ?_)
    · have hcell := am_bi1.mp h86
      have hpl := pl_i hcell.1 hcell.2
      have hic : c_ic (x.toInt + c_sg e) (y.toInt) := by rw [← hx1]; exact hcell
      have hpe : (6 * (x + i_sg e) + y).toNatClampNeg = (6 * (x.toInt + c_sg e) + (y.toInt)).toNat := by rw [hpl.2, hx1]
      refine J_b 4 am_d51 rfl ?_
      refine J_aaldk 3 (am_d51 rfl) rfl (am_vi rfl) rfl ?_
      refine J_b 2 am_d51 rfl ?_
      refine J_S2s 16 (am_d51 rfl) rfl rfl (sp16) ?_
      refine J_iald (am_d51 rfl) rfl hpl.1 ?_
      rw [hpe]
      show am_J X _ 51 118 _ (.int (M 3 (6 * (x.toInt + c_sg e) + (y.toInt)).toNat) :: _) _ N
      refine J_b 1 am_d51 rfl ?_
      show am_J X _ 51 120 [.ref 40, .int p, .int e, .int n, .int many, .int x, .int y, .int eS, .int stp, .int i, .int (x + i_sg e), .int y, .int (M 3 (6 * (x.toInt + c_sg e) + (y.toInt)).toNat)] [] _ N
      refine J_b 1 am_d51 rfl ?_
      refine J_b 1 am_d51 rfl ?_
      refine J_icmp_ne 144 (am_d51 rfl) rfl (fun h123 => ?_) (fun h123 => ?_)
      · refine J_b 2 am_d51 rfl ?_
        refine J_icmp_ne 153 (am_d51 rfl) rfl (fun h147 => ?_) (fun h147 => ?_)
        · have hq : c_pth (M 3) (c_sg e) (c_sg n) (k + 1) kb x.toInt y.toInt = c_pth (M 3) (c_sg e) (c_sg n) k kb (x.toInt + c_sg e) (y.toInt) := by rw [pth_E, if_pos hic, if_neg (show ¬ M 3 (6 * (x.toInt + c_sg e) + (y.toInt)).toNat = 1 from h123), if_neg (show ¬ M 3 (6 * (x.toInt + c_sg e) + (y.toInt)).toNat = 2 from h147)]
          rw [hq]
          rw [← hx1]
          refine J_b 6 am_d51 rfl ?_
          exact ih (x + i_sg e) y (i + 1) _ _ _ hcell.1 hy (by rw [hi1]; omega) trivial
        · refine J_b 1 am_d51 rfl ?_
          have hq : c_pth (M 3) (c_sg e) (c_sg n) (k + 1) kb x.toInt y.toInt = (0, (6 * x.toInt + y.toInt).toNat) := by rw [pth_E, if_pos hic, if_neg (show ¬ M 3 (6 * (x.toInt + c_sg e) + (y.toInt)).toNat = 1 from h123), if_pos (show  M 3 (6 * (x.toInt + c_sg e) + (y.toInt)).toNat = 2 from h147)]
          refine J_b 4 am_d51 rfl ?_
          refine J_S2s 16 (am_d51 rfl) rfl rfl (sp16) ?_
          refine J_b 1 am_d51 rfl ?_
          refine J_iald (am_d51 rfl) rfl (hpo.1) ?_
          refine J_b 2 am_d51 rfl ?_
          refine J_iast (am_d51 rfl) rfl (hpo.1) ?_
          exact J_ret (am_d51 rfl) rfl ⟨rfl, by rw [hpo.2, D40_u2, hq]; rfl, rfl⟩
      · have hq : c_pth (M 3) (c_sg e) (c_sg n) (k + 1) kb x.toInt y.toInt = (2, (6 * (x.toInt + c_sg e) + (y.toInt)).toNat) := by rw [pth_E, if_pos hic, if_pos (show  M 3 (6 * (x.toInt + c_sg e) + (y.toInt)).toNat = 1 from h123)]
        refine J_b 4 am_d51 rfl ?_
        refine J_S2s 16 (am_d51 rfl) rfl rfl (sp16) ?_
        refine J_b 1 am_d51 rfl ?_
        refine J_iald (am_d51 rfl) rfl (hpl.1) ?_
        refine J_b 2 am_d51 rfl ?_
        refine J_iast (am_d51 rfl) rfl (hpl.1) ?_
        exact J_ret (am_d51 rfl) rfl ⟨rfl, by rw [hpe, D40_u3, hq]; rfl, rfl⟩
    · have hq : c_pth (M 3) (c_sg e) (c_sg n) (k + 1) kb x.toInt y.toInt = (1, 0) := by rw [pth_E, if_neg (fun hc => absurd h86 (am_bi1.mpr (by rw [hx1]; exact hc)))]
      refine J_b 5 am_d51 rfl ?_
      refine J_puti (am_d51 rfl) rfl ?_
      exact J_ret (am_d51 rfl) rfl ⟨rfl, by rw [D40_f13, hq]; rfl, rfl⟩
theorem sp51_40 {X : am_X} {M : am_M} {N : am_N} {kd mo sk gn ew nw : Int32} {sh : Nat → Int32} {st : am_M} {p : Nat} {e n many : Int32} (hp : p < 60) (he : b_in e (-20) 20) (hn : b_in n (-20) 20) : am_J X (am_eq (none) (dr_D M 40 kd mo sk gn ew nw sh (c_sd (sC M) p e n many st)) N) 51 0 (am_en 51 [.ref 40, .int (nI p), .int e, .int n, .int many]) [] (dr_D M 40 kd mo sk gn ew nw sh st) N := by
  have ha := i_ab_v he
  have hb := i_ab_v hn
  have hae : e.toInt.natAbs ≤ 20 := by unfold b_in at he; omega
  have hbn : n.toInt.natAbs ≤ 20 := by unfold b_in at hn; omega
  have hs : (i_ab e + i_ab n).toInt = (i_ab e).toInt + (n.toInt.natAbs : Nat) := by rw [I_add (by omega), hb]
  have e6 : nI p / (Int8.ofInt 6).toInt32 = nI (p / 6) := nI_divn (by omega) (by decide) (by decide) rfl
  have r6 : nI p - nI p / (Int8.ofInt 6).toInt32 * (Int8.ofInt 6).toInt32 = nI (p % 6) := nI_remn (by omega) (by decide) (by decide) rfl
  have l6 : p % 6 < 6 := Nat.mod_lt _ (by decide)
  have l10 : p / 6 < 10 := by omega
  have i1 := nI_i (n := p / 6) (by omega)
  have i2 := nI_i (n := p % 6) (by omega)
  refine J_en (L := [.ref 40, .int (nI p), .int e, .int n, .int many, .retAddr 0, .retAddr 0, .retAddr 0, .retAddr 0, .retAddr 0, .retAddr 0, .retAddr 0, .retAddr 0]) rfl ?_
  refine J_b 9 am_d51 rfl ?_
  refine J_S1s 52 (am_d51 rfl) rfl rfl (sp52b) ?_
  refine J_b 3 am_d51 rfl ?_
  refine J_S1s 52 (am_d51 rfl) rfl rfl (sp52b) ?_
  refine J_b 4 am_d51 rfl ?_
  rw [r6, e6]
  unfold c_sd
  rw [← i1, ← i2]
  exact lp51E_40 he hn ⟨hs, by omega, hbn⟩ (by omega) (by omega) _ _ _ _ _ _ _ (by omega) (by omega) ⟨by decide, by rw [ha]; exact Int.zero_add _⟩ trivial
theorem lp51N_46 {X : am_X} {M : am_M} {N : am_N} {kd mo sk gn ew nw : Int32} {sh : Nat → Int32} {st : am_M} {p e n many eS stp : Int32} {dx : Int} (hn : b_in n (-20) 20) (hS : stp.toInt ≤ 100) : ∀ (k : Nat) (x y i : Int32) (z1 z2 z3 : Value), (0 ≤ x.toInt ∧ x.toInt < 10) → (0 ≤ y.toInt ∧ y.toInt < 6) → eS.toInt ≤ i.toInt → (0 ≤ i.toInt ∧ i.toInt + k = stp.toInt) → (k ≠ 0 → n.toInt ≠ 0) → am_J X (am_eq none (dr_D M 46 kd mo sk gn ew nw sh (c_ap (c_pth (M 3) dx (c_sg n) 0 k x.toInt y.toInt) many st)) N) 51 30 [.ref 46, .int p, .int e, .int n, .int many, .int x, .int y, .int eS, .int stp, .int i, z1, z2, z3] [] (dr_D M 46 kd mo sk gn ew nw sh st) N := by
  intro k
  induction k with
  | zero =>
    intro x y i z1 z2 z3 hx hy hie hi h0
    have hge : stp ≤ i := by rw [Int32.le_iff_toInt_le]; omega
    have hpo := pl_i hx hy
    have hq : c_pth (M 3) dx (c_sg n) 0 0 x.toInt y.toInt = (0, (6 * x.toInt + y.toInt).toNat) := by rw [c_pth]
    refine J_b 2 am_d51 rfl ?_
    refine J_icmp_ge 167 (am_d51 rfl) rfl (fun h34 => ?_) (fun h34 => absurd (hge) h34)
    refine J_b 4 am_d51 rfl ?_
    refine J_S2s 16 (am_d51 rfl) rfl rfl (sp16) ?_
    refine J_b 1 am_d51 rfl ?_
    refine J_iald (am_d51 rfl) rfl (hpo.1) ?_
    refine J_b 2 am_d51 rfl ?_
    refine J_iast (am_d51 rfl) rfl (hpo.1) ?_
    exact J_ret (am_d51 rfl) rfl ⟨rfl, by rw [hpo.2, D46_u2, hq]; rfl, rfl⟩
  | succ k ih =>
    intro x y i z1 z2 z3 hx hy hie1 hi h0
    have hlt : ¬ stp ≤ i := by rw [Int32.le_iff_toInt_le]; omega
    have hie : eS ≤ i := by rw [Int32.le_iff_toInt_le]; omega
    have hn0 := h0 (by omega)
    have hsg := i_sg_v hn hn0
    have hs1 := c_sg_v n
    have hy1 : (y + i_sg n).toInt = y.toInt + c_sg n := by rw [I_add (by omega), hsg]
    have hi1 : (i + 1).toInt = i.toInt + 1 := by rw [I_add (by have : (1 : Int32).toInt = 1 := rfl; omega)]; rfl
    have hpo := pl_i hx hy
    refine J_b 2 am_d51 rfl ?_
    refine J_icmp_ge 167 (am_d51 rfl) rfl (fun h34 => absurd h34 hlt) (fun h34 => ?_)
    refine J_b 2 am_d51 rfl ?_
    refine J_icmp_ge 54 (am_d51 rfl) rfl (fun h41 => ?_) (fun h41 => absurd (hie) h41)
    refine J_b 4 am_d51 rfl ?_
    refine J_icmp_ge 70 (am_d51 rfl) rfl (fun h62 => ?_) (fun h62 => absurd (hie) h62)
    refine J_b 2 am_d51 rfl ?_
    refine J_S1s 53 (am_d51 rfl) rfl rfl (sp53 hn) ?_
    refine J_b 2 am_d51 rfl ?_
    show am_J X _ 51 79 [.ref 46, .int p, .int e, .int n, .int many, .int x, .int y, .int eS, .int stp, .int i, .int x, .int (y + i_sg n), z3] [] _ N
    refine J_b 1 am_d51 rfl ?_
    refine J_b 1 am_d51 rfl ?_
    refine J_S2s 12 (am_d51 rfl) rfl rfl (sp12) ?_
    refine J_if_ne 101 (am_d51 rfl) rfl (fun h86 => ?_) (fun h86 => ?_)
    · have hcell := am_bi1.mp h86
      have hpl := pl_i hcell.1 hcell.2
      have hic : c_ic (x.toInt) (y.toInt + c_sg n) := by rw [← hy1]; exact hcell
      have hpe : (6 * x + (y + i_sg n)).toNatClampNeg = (6 * (x.toInt) + (y.toInt + c_sg n)).toNat := by rw [hpl.2, hy1]
      refine J_b 4 am_d51 rfl ?_
      refine J_aaldk 3 (am_d51 rfl) rfl (am_vi rfl) rfl ?_
      refine J_b 2 am_d51 rfl ?_
      refine J_S2s 16 (am_d51 rfl) rfl rfl (sp16) ?_
      refine J_iald (am_d51 rfl) rfl hpl.1 ?_
      rw [hpe]
      show am_J X _ 51 118 _ (.int (M 3 (6 * (x.toInt) + (y.toInt + c_sg n)).toNat) :: _) _ N
      refine J_b 1 am_d51 rfl ?_
      show am_J X _ 51 120 [.ref 46, .int p, .int e, .int n, .int many, .int x, .int y, .int eS, .int stp, .int i, .int x, .int (y + i_sg n), .int (M 3 (6 * (x.toInt) + (y.toInt + c_sg n)).toNat)] [] _ N
      refine J_b 1 am_d51 rfl ?_
      refine J_b 1 am_d51 rfl ?_
      refine J_icmp_ne 144 (am_d51 rfl) rfl (fun h123 => ?_) (fun h123 => ?_)
      · refine J_b 2 am_d51 rfl ?_
        refine J_icmp_ne 153 (am_d51 rfl) rfl (fun h147 => ?_) (fun h147 => ?_)
        · have hq : c_pth (M 3) dx (c_sg n) 0 (k + 1) x.toInt y.toInt = c_pth (M 3) dx (c_sg n) 0 k (x.toInt) (y.toInt + c_sg n) := by rw [pth_N, if_pos hic, if_neg (show ¬ M 3 (6 * (x.toInt) + (y.toInt + c_sg n)).toNat = 1 from h123), if_neg (show ¬ M 3 (6 * (x.toInt) + (y.toInt + c_sg n)).toNat = 2 from h147)]
          rw [hq]
          rw [← hy1]
          refine J_b 6 am_d51 rfl ?_
          exact ih x (y + i_sg n) (i + 1) _ _ _ hx hcell.2 (by rw [hi1]; omega) (by rw [hi1]; omega) (fun _ => hn0)
        · refine J_b 1 am_d51 rfl ?_
          have hq : c_pth (M 3) dx (c_sg n) 0 (k + 1) x.toInt y.toInt = (0, (6 * x.toInt + y.toInt).toNat) := by rw [pth_N, if_pos hic, if_neg (show ¬ M 3 (6 * (x.toInt) + (y.toInt + c_sg n)).toNat = 1 from h123), if_pos (show  M 3 (6 * (x.toInt) + (y.toInt + c_sg n)).toNat = 2 from h147)]
          refine J_b 4 am_d51 rfl ?_
          refine J_S2s 16 (am_d51 rfl) rfl rfl (sp16) ?_
          refine J_b 1 am_d51 rfl ?_
          refine J_iald (am_d51 rfl) rfl (hpo.1) ?_
          refine J_b 2 am_d51 rfl ?_
          refine J_iast (am_d51 rfl) rfl (hpo.1) ?_
          exact J_ret (am_d51 rfl) rfl ⟨rfl, by rw [hpo.2, D46_u2, hq]; rfl, rfl⟩
      · have hq : c_pth (M 3) dx (c_sg n) 0 (k + 1) x.toInt y.toInt = (2, (6 * (x.toInt) + (y.toInt + c_sg n)).toNat) := by rw [pth_N, if_pos hic, if_pos (show  M 3 (6 * (x.toInt) + (y.toInt + c_sg n)).toNat = 1 from h123)]
        refine J_b 4 am_d51 rfl ?_
        refine J_S2s 16 (am_d51 rfl) rfl rfl (sp16) ?_
        refine J_b 1 am_d51 rfl ?_
        refine J_iald (am_d51 rfl) rfl (hpl.1) ?_
        refine J_b 2 am_d51 rfl ?_
        refine J_iast (am_d51 rfl) rfl (hpl.1) ?_
        exact J_ret (am_d51 rfl) rfl ⟨rfl, by rw [hpe, D46_u3, hq]; rfl, rfl⟩
    · have hq : c_pth (M 3) dx (c_sg n) 0 (k + 1) x.toInt y.toInt = (1, 0) := by rw [pth_N, if_neg (fun hc => absurd h86 (am_bi1.mpr (by rw [hy1]; exact hc)))]
      refine J_b 5 am_d51 rfl ?_
      refine J_puti (am_d51 rfl) rfl ?_
      exact J_ret (am_d51 rfl) rfl ⟨rfl, by rw [D46_f13, hq]; rfl, rfl⟩
theorem lp51E_46 {X : am_X} {M : am_M} {N : am_N} {kd mo sk gn ew nw : Int32} {sh : Nat → Int32} {st : am_M} {p e n many eS stp : Int32} {kb : Nat} (he : b_in e (-20) 20) (hn : b_in n (-20) 20) (hS : stp.toInt = eS.toInt + kb ∧ eS.toInt ≤ 20 ∧ kb ≤ 20) (hn0 : kb ≠ 0 → n.toInt ≠ 0) (he0 : eS.toInt ≠ 0 → e.toInt ≠ 0) : ∀ (k : Nat) (x y i : Int32) (z1 z2 z3 : Value), (0 ≤ x.toInt ∧ x.toInt < 10) → (0 ≤ y.toInt ∧ y.toInt < 6) → (0 ≤ i.toInt ∧ i.toInt + k = eS.toInt) → True → am_J X (am_eq none (dr_D M 46 kd mo sk gn ew nw sh (c_ap (c_pth (M 3) (c_sg e) (c_sg n) k kb x.toInt y.toInt) many st)) N) 51 30 [.ref 46, .int p, .int e, .int n, .int many, .int x, .int y, .int eS, .int stp, .int i, z1, z2, z3] [] (dr_D M 46 kd mo sk gn ew nw sh st) N := by
  intro k
  induction k with
  | zero =>
    intro x y i z1 z2 z3 hx hy hi _
    exact lp51N_46 hn (by omega) kb x y i z1 z2 z3 hx hy (by omega) (by omega) hn0
  | succ k ih =>
    intro x y i z1 z2 z3 hx hy hi _
    have hlt : ¬ stp ≤ i := by rw [Int32.le_iff_toInt_le]; omega
    have hie : ¬ eS ≤ i := by rw [Int32.le_iff_toInt_le]; omega
    have hsg := i_sg_v he (he0 (by omega))
    have hs1 := c_sg_v e
    have hx1 : (x + i_sg e).toInt = x.toInt + c_sg e := by rw [I_add (by omega), hsg]
    have hi1 : (i + 1).toInt = i.toInt + 1 := by rw [I_add (by have : (1 : Int32).toInt = 1 := rfl; omega)]; rfl
    have hpo := pl_i hx hy
    refine J_b 2 am_d51 rfl ?_
    refine J_icmp_ge 167 (am_d51 rfl) rfl (fun h34 => absurd h34 hlt) (fun h34 => ?_)
    refine J_b 2 am_d51 rfl ?_
    refine J_icmp_ge 54 (am_d51 rfl) rfl (fun h41 => absurd h41 hie) (fun h41 => ?_)
    refine J_b 2 am_d51 rfl ?_
    refine J_S1s 53 (am_d51 rfl) rfl rfl (sp53 he) ?_
    refine J_b 5 am_d51 rfl ?_
    refine J_icmp_ge 70 (am_d51 rfl) rfl (fun h62 => absurd h62 hie) (fun h62 => ?_)
    refine J_b 3 am_d51 rfl ?_
    show am_J X _ 51 79 [.ref 46, .int p, .int e, .int n, .int many, .int x, .int y, .int eS, .int stp, .int i, .int (x + i_sg e), .int y, z3] [] _ N
    refine J_b 1 am_d51 rfl ?_
    refine J_b 1 am_d51 rfl ?_
    refine J_S2s 12 (am_d51 rfl) rfl rfl (sp12) ?_
    refine J_if_ne 101 (am_d51 rfl) rfl (fun h86 => ?_) (fun h86 => ?_)
    · have hcell := am_bi1.mp h86
      have hpl := pl_i hcell.1 hcell.2
      have hic : c_ic (x.toInt + c_sg e) (y.toInt) := by rw [← hx1]; exact hcell
      have hpe : (6 * (x + i_sg e) + y).toNatClampNeg = (6 * (x.toInt + c_sg e) + (y.toInt)).toNat := by rw [hpl.2, hx1]
      refine J_b 4 am_d51 rfl ?_
      refine J_aaldk 3 (am_d51 rfl) rfl (am_vi rfl) rfl ?_
      refine J_b 2 am_d51 rfl ?_
      refine J_S2s 16 (am_d51 rfl) rfl rfl (sp16) ?_
      refine J_iald (am_d51 rfl) rfl hpl.1 ?_
      rw [hpe]
      show am_J X _ 51 118 _ (.int (M 3 (6 * (x.toInt + c_sg e) + (y.toInt)).toNat) :: _) _ N
      refine J_b 1 am_d51 rfl ?_
      show am_J X _ 51 120 [.ref 46, .int p, .int e, .int n, .int many, .int x, .int y, .int eS, .int stp, .int i, .int (x + i_sg e), .int y, .int (M 3 (6 * (x.toInt + c_sg e) + (y.toInt)).toNat)] [] _ N
      refine J_b 1 am_d51 rfl ?_
      refine J_b 1 am_d51 rfl ?_
      refine J_icmp_ne 144 (am_d51 rfl) rfl (fun h123 => ?_) (fun h123 => ?_)
      · refine J_b 2 am_d51 rfl ?_
        refine J_icmp_ne 153 (am_d51 rfl) rfl (fun h147 => ?_) (fun h147 => ?_)
        · have hq : c_pth (M 3) (c_sg e) (c_sg n) (k + 1) kb x.toInt y.toInt = c_pth (M 3) (c_sg e) (c_sg n) k kb (x.toInt + c_sg e) (y.toInt) := by rw [pth_E, if_pos hic, if_neg (show ¬ M 3 (6 * (x.toInt + c_sg e) + (y.toInt)).toNat = 1 from h123), if_neg (show ¬ M 3 (6 * (x.toInt + c_sg e) + (y.toInt)).toNat = 2 from h147)]
          rw [hq]
          rw [← hx1]
          refine J_b 6 am_d51 rfl ?_
          exact ih (x + i_sg e) y (i + 1) _ _ _ hcell.1 hy (by rw [hi1]; omega) trivial
        · refine J_b 1 am_d51 rfl ?_
          have hq : c_pth (M 3) (c_sg e) (c_sg n) (k + 1) kb x.toInt y.toInt = (0, (6 * x.toInt + y.toInt).toNat) := by rw [pth_E, if_pos hic, if_neg (show ¬ M 3 (6 * (x.toInt + c_sg e) + (y.toInt)).toNat = 1 from h123), if_pos (show  M 3 (6 * (x.toInt + c_sg e) + (y.toInt)).toNat = 2 from h147)]
          refine J_b 4 am_d51 rfl ?_
          refine J_S2s 16 (am_d51 rfl) rfl rfl (sp16) ?_
          refine J_b 1 am_d51 rfl ?_
          refine J_iald (am_d51 rfl) rfl (hpo.1) ?_
          refine J_b 2 am_d51 rfl ?_
          refine J_iast (am_d51 rfl) rfl (hpo.1) ?_
          exact J_ret (am_d51 rfl) rfl ⟨rfl, by rw [hpo.2, D46_u2, hq]; rfl, rfl⟩
      · have hq : c_pth (M 3) (c_sg e) (c_sg n) (k + 1) kb x.toInt y.toInt = (2, (6 * (x.toInt + c_sg e) + (y.toInt)).toNat) := by rw [pth_E, if_pos hic, if_pos (show  M 3 (6 * (x.toInt + c_sg e) + (y.toInt)).toNat = 1 from h123)]
        refine J_b 4 am_d51 rfl ?_
        refine J_S2s 16 (am_d51 rfl) rfl rfl (sp16) ?_
        refine J_b 1 am_d51 rfl ?_
        refine J_iald (am_d51 rfl) rfl (hpl.1) ?_
        refine J_b 2 am_d51 rfl ?_
        refine J_iast (am_d51 rfl) rfl (hpl.1) ?_
        exact J_ret (am_d51 rfl) rfl ⟨rfl, by rw [hpe, D46_u3, hq]; rfl, rfl⟩
    · have hq : c_pth (M 3) (c_sg e) (c_sg n) (k + 1) kb x.toInt y.toInt = (1, 0) := by rw [pth_E, if_neg (fun hc => absurd h86 (am_bi1.mpr (by rw [hx1]; exact hc)))]
      refine J_b 5 am_d51 rfl ?_
      refine J_puti (am_d51 rfl) rfl ?_
      exact J_ret (am_d51 rfl) rfl ⟨rfl, by rw [D46_f13, hq]; rfl, rfl⟩
theorem sp51_46 {X : am_X} {M : am_M} {N : am_N} {kd mo sk gn ew nw : Int32} {sh : Nat → Int32} {st : am_M} {p : Nat} {e n many : Int32} (hp : p < 60) (he : b_in e (-20) 20) (hn : b_in n (-20) 20) : am_J X (am_eq (none) (dr_D M 46 kd mo sk gn ew nw sh (c_sd (sC M) p e n many st)) N) 51 0 (am_en 51 [.ref 46, .int (nI p), .int e, .int n, .int many]) [] (dr_D M 46 kd mo sk gn ew nw sh st) N := by
  have ha := i_ab_v he
  have hb := i_ab_v hn
  have hae : e.toInt.natAbs ≤ 20 := by unfold b_in at he; omega
  have hbn : n.toInt.natAbs ≤ 20 := by unfold b_in at hn; omega
  have hs : (i_ab e + i_ab n).toInt = (i_ab e).toInt + (n.toInt.natAbs : Nat) := by rw [I_add (by omega), hb]
  have e6 : nI p / (Int8.ofInt 6).toInt32 = nI (p / 6) := nI_divn (by omega) (by decide) (by decide) rfl
  have r6 : nI p - nI p / (Int8.ofInt 6).toInt32 * (Int8.ofInt 6).toInt32 = nI (p % 6) := nI_remn (by omega) (by decide) (by decide) rfl
  have l6 : p % 6 < 6 := Nat.mod_lt _ (by decide)
  have l10 : p / 6 < 10 := by omega
  have i1 := nI_i (n := p / 6) (by omega)
  have i2 := nI_i (n := p % 6) (by omega)
  refine J_en (L := [.ref 46, .int (nI p), .int e, .int n, .int many, .retAddr 0, .retAddr 0, .retAddr 0, .retAddr 0, .retAddr 0, .retAddr 0, .retAddr 0, .retAddr 0]) rfl ?_
  refine J_b 9 am_d51 rfl ?_
  refine J_S1s 52 (am_d51 rfl) rfl rfl (sp52b) ?_
  refine J_b 3 am_d51 rfl ?_
  refine J_S1s 52 (am_d51 rfl) rfl rfl (sp52b) ?_
  refine J_b 4 am_d51 rfl ?_
  rw [r6, e6]
  unfold c_sd
  rw [← i1, ← i2]
  exact lp51E_46 he hn ⟨hs, by omega, hbn⟩ (by omega) (by omega) _ _ _ _ _ _ _ (by omega) (by omega) ⟨by decide, by rw [ha]; exact Int.zero_add _⟩ trivial
