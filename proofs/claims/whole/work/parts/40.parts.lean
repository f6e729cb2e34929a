/-! ===== parts, partsAt ===== -/
/-- a cast's drift -/
def c_cdr (M : am_M) (c : Nat) (r : Nat → Int32) (n : Nat) : am_M := c_dr (sC M) (M 17) (M 19 c) (M 22 c).toNatClampNeg (M 23 c).toNatClampNeg (M 25 c) r n
theorem sc_sC {M M' : am_M} (h : sc_ok M M') : sC M' = sC M := by
  unfold sC
  rw [h.1 3 (by unfold sc_r; omega), h.1 4 (by unfold sc_r; omega), h.1 5 (by unfold sc_r; omega), h.1 6 (by unfold sc_r; omega), h.1 7 (by unfold sc_r; omega), h.1 8 (by unfold sc_r; omega), h.1 9 (by unfold sc_r; omega), h.1 10 (by unfold sc_r; omega), h.1 11 (by unfold sc_r; omega), h.1 12 (by unfold sc_r; omega), h.1 13 (by unfold sc_r; omega), h.1 14 (by unfold sc_r; omega), h.1 15 (by unfold sc_r; omega), h.1 16 (by unfold sc_r; omega)]
theorem cdr_sc {M M' : am_M} (h : sc_ok M M') {c : Nat} {r : Nat → Int32} {n : Nat} : c_cdr M' c r n = c_cdr M c r n := by
  unfold c_cdr
  rw [sc_sC h, h.1 17 (by unfold sc_r; omega), h.1 19 (by unfold sc_r; omega), h.1 22 (by unfold sc_r; omega), h.1 23 (by unfold sc_r; omega), h.1 25 (by unfold sc_r; omega)]
theorem cdr_row {M : am_M} {c : Nat} (r r' : Nat → Int32) {n k : Nat} (hk : k ≠ 2) : c_cdr M c r n k = c_cdr M c r' n k := dr_row r r' hk
theorem sp154i {X : am_X} {M : am_M} {N N0 : am_N} {c0 c cnt : Nat} (h : iv c0 M N0) (hc5 : c < 5) (hc : cnt ≤ 12) : am_J X (am_eq none (dr_R M (c_cdr M c (M 144) cnt)) N) 154 0 (am_en 154 [.ref 120, .int (nI c), .int (nI cnt)]) [] M N := by
  obtain ⟨⟨⟨hs, hb⟩, ⟨hca, hcb⟩, _⟩, _⟩ := h
  have e1 := sR_sC hs
  obtain ⟨_, _, _, s130⟩ := hs
  obtain ⟨⟨a1, a2, a3, a4, a5, a6, a7⟩, _⟩ := hca
  obtain ⟨b0, b1, b2, b3, b4, b5, b6⟩ := hcb
  have q := sp154 (X := X) (M := M) (N := N) (c := c) (cnt := cnt) hc5 hc (by rw [e1]; exact e_b_of hb) (by rw [s130]; exact hb.2.2.2.2.2.2.2.2.2.2.2) (by rw [a1]; exact b1 c) (by rw [a4]; exact b4 c) (by rw [a5]; exact b5 c)
  rw [e1, s130, a1, a4, a5, a7] at q
  exact q
/-- what 'parts' tells of a drift -/
def c_pp (st : am_M) : Nat → Int32
  | 0 => smI (st 1) 60
  | 1 => smI (st 3) 60
  | 2 => smI (st 4) 720
  | 3 => st 0 12
  | 4 => st 0 13
  | _ => st 0 14
theorem pp_r {M : am_M} {c : Nat} (r r' : Nat → Int32) {n k : Nat} : c_pp (c_cdr M c r n) k = c_pp (c_cdr M c r' n) k := by
  unfold c_pp
  rw [cdr_row r r' (k := 1) (by decide), cdr_row r r' (k := 3) (by decide), cdr_row r r' (k := 4) (by decide), cdr_row r r' (k := 0) (by decide)]
def c_fp (st : am_M) (p : Nat) : Int32 := smI (fun t => st 4 (60 * t + p)) 12
def c_pa (st : am_M) (p : Nat) : Nat → Int32
  | 0 => st 1 p
  | 1 => st 3 p
  | _ => c_fp st p
theorem pa_r {M : am_M} {c : Nat} (r r' : Nat → Int32) {n p k : Nat} : c_pa (c_cdr M c r n) p k = c_pa (c_cdr M c r' n) p k := by
  unfold c_pa c_fp
  rw [cdr_row r r' (k := 1) (by decide), cdr_row r r' (k := 3) (by decide), cdr_row r r' (k := 4) (by decide)]
theorem T_0 {M : am_M} {b c : Nat} {s0 : am_M} (hcb : iv_cb M) : dr_D M b (M 19 c) (M 22 c) (M 25 c) 0 (M b 10) (M b 11) (M 17) s0 = dr_T M b (M 19 c) (M 22 c).toNatClampNeg (M 25 c) (M b 10) (M b 11) (M 17) s0 0 := by
  unfold dr_T
  rw [← I_nI (hcb.2.2.2.2.1 c).1]
  rfl
theorem sp55_40_0 {X : am_X} {M : am_M} {N : am_N} {kd mo sk gn ew nw : Int32} {sh : Nat → Int32} {st : am_M} : am_J X (am_eq (some (.int (c_pp st 0))) (dr_D M 40 kd mo sk gn ew nw sh st) N) 55 0 (am_en 55 [.ref 40, .int 0]) [] (dr_D M 40 kd mo sk gn ew nw sh st) N := by
  refine J_en (L := [.ref 40, .int 0]) rfl ?_
  refine J_b 1 am_d55 rfl ?_
  refine J_tsIn 36 (am_d55 rfl) (show ¬ (0 : Int32).toInt < 0 by decide) (show ¬ (4 : Int) < (0 : Int32).toInt by decide) rfl rfl ?_
  refine J_b 2 am_d55 rfl ?_
  refine J_S1s 44 (am_d55 rfl) rfl rfl (sp44 (k := 41) (n := 60) rfl (by decide)) ?_
  exact J_iret (am_d55 rfl) rfl rfl ⟨rfl, rfl, rfl⟩
theorem sp55_40_1 {X : am_X} {M : am_M} {N : am_N} {kd mo sk gn ew nw : Int32} {sh : Nat → Int32} {st : am_M} : am_J X (am_eq (some (.int (c_pp st 1))) (dr_D M 40 kd mo sk gn ew nw sh st) N) 55 0 (am_en 55 [.ref 40, .int 1]) [] (dr_D M 40 kd mo sk gn ew nw sh st) N := by
  refine J_en (L := [.ref 40, .int 1]) rfl ?_
  refine J_b 1 am_d55 rfl ?_
  refine J_tsIn 44 (am_d55 rfl) (show ¬ (1 : Int32).toInt < 0 by decide) (show ¬ (4 : Int) < (1 : Int32).toInt by decide) rfl rfl ?_
  refine J_b 2 am_d55 rfl ?_
  refine J_S1s 44 (am_d55 rfl) rfl rfl (sp44 (k := 43) (n := 60) rfl (by decide)) ?_
  exact J_iret (am_d55 rfl) rfl rfl ⟨rfl, rfl, rfl⟩
theorem sp55_40_2 {X : am_X} {M : am_M} {N : am_N} {kd mo sk gn ew nw : Int32} {sh : Nat → Int32} {st : am_M} : am_J X (am_eq (some (.int (c_pp st 2))) (dr_D M 40 kd mo sk gn ew nw sh st) N) 55 0 (am_en 55 [.ref 40, .int 2]) [] (dr_D M 40 kd mo sk gn ew nw sh st) N := by
  refine J_en (L := [.ref 40, .int 2]) rfl ?_
  refine J_b 1 am_d55 rfl ?_
  refine J_tsIn 52 (am_d55 rfl) (show ¬ (2 : Int32).toInt < 0 by decide) (show ¬ (4 : Int) < (2 : Int32).toInt by decide) rfl rfl ?_
  refine J_b 2 am_d55 rfl ?_
  refine J_S1s 44 (am_d55 rfl) rfl rfl (sp44 (k := 44) (n := 720) rfl (by decide)) ?_
  exact J_iret (am_d55 rfl) rfl rfl ⟨rfl, rfl, rfl⟩
theorem sp55_40_3 {X : am_X} {M : am_M} {N : am_N} {kd mo sk gn ew nw : Int32} {sh : Nat → Int32} {st : am_M} : am_J X (am_eq (some (.int (c_pp st 3))) (dr_D M 40 kd mo sk gn ew nw sh st) N) 55 0 (am_en 55 [.ref 40, .int 3]) [] (dr_D M 40 kd mo sk gn ew nw sh st) N := by
  refine J_en (L := [.ref 40, .int 3]) rfl ?_
  refine J_b 1 am_d55 rfl ?_
  refine J_tsIn 60 (am_d55 rfl) (show ¬ (3 : Int32).toInt < 0 by decide) (show ¬ (4 : Int) < (3 : Int32).toInt by decide) rfl rfl ?_
  refine J_b 2 am_d55 rfl ?_
  exact J_iret (am_d55 rfl) rfl rfl ⟨rfl, rfl, rfl⟩
theorem sp55_40_4 {X : am_X} {M : am_M} {N : am_N} {kd mo sk gn ew nw : Int32} {sh : Nat → Int32} {st : am_M} : am_J X (am_eq (some (.int (c_pp st 4))) (dr_D M 40 kd mo sk gn ew nw sh st) N) 55 0 (am_en 55 [.ref 40, .int 4]) [] (dr_D M 40 kd mo sk gn ew nw sh st) N := by
  refine J_en (L := [.ref 40, .int 4]) rfl ?_
  refine J_b 1 am_d55 rfl ?_
  refine J_tsIn 65 (am_d55 rfl) (show ¬ (4 : Int32).toInt < 0 by decide) (show ¬ (4 : Int) < (4 : Int32).toInt by decide) rfl rfl ?_
  refine J_b 2 am_d55 rfl ?_
  exact J_iret (am_d55 rfl) rfl rfl ⟨rfl, rfl, rfl⟩
theorem sp55_40_5 {X : am_X} {M : am_M} {N : am_N} {kd mo sk gn ew nw : Int32} {sh : Nat → Int32} {st : am_M} : am_J X (am_eq (some (.int (c_pp st 5))) (dr_D M 40 kd mo sk gn ew nw sh st) N) 55 0 (am_en 55 [.ref 40, .int 5]) [] (dr_D M 40 kd mo sk gn ew nw sh st) N := by
  refine J_en (L := [.ref 40, .int 5]) rfl ?_
  refine J_b 1 am_d55 rfl ?_
  refine J_tsOut 70 (am_d55 rfl) (.inr (show (4 : Int) < (5 : Int32).toInt by decide)) rfl ?_
  refine J_b 2 am_d55 rfl ?_
  exact J_iret (am_d55 rfl) rfl rfl ⟨rfl, rfl, rfl⟩
theorem lp58_40 {X : am_X} {M : am_M} {N : am_N} {kd mo sk gn ew nw : Int32} {sh : Nat → Int32} {st : am_M} {p : Nat} (hp : p < 60) : ∀ (n i : Nat), i + n = 12 → ∀ (x : Int32), x = nI i → ∀ (a : Int32), a = smI (fun t => st 4 (60 * t + p)) i → am_J X (am_eq (some (.int (c_fp st p))) (dr_D M 40 kd mo sk gn ew nw sh st) N) 58 4 [.ref 40, .int (nI p), .int a, .int x] [] (dr_D M 40 kd mo sk gn ew nw sh st) N := by
  intro n
  induction n with
  | zero =>
    intro i hn x ex a ea
    have e : i = 12 := by omega
    subst e
    subst ex
    refine J_b 2 am_d58 rfl ?_
    refine J_icmp_ge 30 (am_d58 rfl) rfl (fun h7 => ?_) (fun h7 => absurd (Int32.le_refl _) h7)
    refine J_b 1 am_d58 rfl ?_
    exact J_iret (am_d58 rfl) rfl rfl ⟨by rw [ea]; rfl, rfl, rfl⟩
  | succ n ih =>
    intro i hn x ex a ea
    have hi : i < 12 := by omega
    subst ex
    refine J_b 2 am_d58 rfl ?_
    refine J_icmp_ge 30 (am_d58 rfl) rfl (fun h7 => absurd h7 (l12 hi)) (fun h7 => ?_)
    refine J_b 8 am_d58 rfl ?_
    rw [nI_60]
    refine J_iald (am_d58 rfl) rfl (vp_in_nI (by omega) (by decide)) ?_
    rw [nI_c (n := 60 * i + p) (by omega)]
    show am_J X _ 58 22 _ (.int (st 4 (60 * i + p)) :: _) _ N
    refine J_b 4 am_d58 rfl ?_
    exact ih (i + 1) (by omega) _ (nI_1 i) _ (by rw [ea]; rfl)
theorem sp58_40 {X : am_X} {M : am_M} {N : am_N} {kd mo sk gn ew nw : Int32} {sh : Nat → Int32} {st : am_M} {p : Nat} (hp : p < 60) : am_J X (am_eq (some (.int (c_fp st p))) (dr_D M 40 kd mo sk gn ew nw sh st) N) 58 0 (am_en 58 [.ref 40, .int (nI p)]) [] (dr_D M 40 kd mo sk gn ew nw sh st) N := by
  refine J_en (L := [.ref 40, .int (nI p), .retAddr 0, .retAddr 0]) rfl ?_
  refine J_b 4 am_d58 rfl ?_
  exact lp58_40 hp 12 0 rfl _ rfl _ rfl
theorem sp57_40_0 {X : am_X} {M : am_M} {N : am_N} {kd mo sk gn ew nw : Int32} {sh : Nat → Int32} {st : am_M} {p : Nat} (hp : p < 60) : am_J X (am_eq (some (.int (c_pa st p 0))) (dr_D M 40 kd mo sk gn ew nw sh st) N) 57 0 (am_en 57 [.ref 40, .int (nI p), .int 0]) [] (dr_D M 40 kd mo sk gn ew nw sh st) N := by
  refine J_en (L := [.ref 40, .int (nI p), .int 0]) rfl ?_
  refine J_b 1 am_d57 rfl ?_
  refine J_ls 28 (am_d57 rfl) rfl rfl rfl ?_
  refine J_b 3 am_d57 rfl ?_
  refine J_iald (am_d57 rfl) rfl (vp_in_nI hp (by decide)) ?_
  rw [nI_c (n := p) (by omega)]
  show am_J X _ 57 34 _ (.int (st 1 p) :: _) _ N
  exact J_iret (am_d57 rfl) rfl rfl ⟨rfl, rfl, rfl⟩
theorem sp57_40_1 {X : am_X} {M : am_M} {N : am_N} {kd mo sk gn ew nw : Int32} {sh : Nat → Int32} {st : am_M} {p : Nat} (hp : p < 60) : am_J X (am_eq (some (.int (c_pa st p 1))) (dr_D M 40 kd mo sk gn ew nw sh st) N) 57 0 (am_en 57 [.ref 40, .int (nI p), .int 1]) [] (dr_D M 40 kd mo sk gn ew nw sh st) N := by
  refine J_en (L := [.ref 40, .int (nI p), .int 1]) rfl ?_
  refine J_b 1 am_d57 rfl ?_
  refine J_ls 35 (am_d57 rfl) rfl rfl rfl ?_
  refine J_b 3 am_d57 rfl ?_
  refine J_iald (am_d57 rfl) rfl (vp_in_nI hp (by decide)) ?_
  rw [nI_c (n := p) (by omega)]
  show am_J X _ 57 41 _ (.int (st 3 p) :: _) _ N
  exact J_iret (am_d57 rfl) rfl rfl ⟨rfl, rfl, rfl⟩
theorem sp57_40_2 {X : am_X} {M : am_M} {N : am_N} {kd mo sk gn ew nw : Int32} {sh : Nat → Int32} {st : am_M} {p : Nat} (hp : p < 60) : am_J X (am_eq (some (.int (c_pa st p 2))) (dr_D M 40 kd mo sk gn ew nw sh st) N) 57 0 (am_en 57 [.ref 40, .int (nI p), .int 2]) [] (dr_D M 40 kd mo sk gn ew nw sh st) N := by
  refine J_en (L := [.ref 40, .int (nI p), .int 2]) rfl ?_
  refine J_b 1 am_d57 rfl ?_
  refine J_ls 42 (am_d57 rfl) rfl rfl rfl ?_
  refine J_b 2 am_d57 rfl ?_
  refine J_V1s 58 (am_d57 rfl) rfl rfl (sp58_40 hp) ?_
  exact J_iret (am_d57 rfl) rfl rfl ⟨rfl, rfl, rfl⟩
theorem sp38a {X : am_X} {M : am_M} {N : am_N} {x m w : Int32} (h1 : ¬ ((0 ≤ x.toInt ∧ x.toInt < (M 18 7).toInt) ∧ 0 ≤ w.toInt ∧ w.toInt ≤ 5)) : am_J X (am_eq (some (.int (-1))) (M) N) 38 0 (am_en 38 [.ref 0, .int x, .int m, .int w]) [] M N := by
  refine J_en (L := [.ref 0, .int x, .int m, .int w]) rfl ?_
  refine J_b 4 am_d38 rfl ?_
  refine J_S2s 13 (am_d38 rfl) rfl rfl (sp13) ?_
  refine J_if_eq 23 (am_d38 rfl) rfl (fun h11 => ?_) (fun h11 => ?_)
  · refine J_b 1 am_d38 rfl ?_
    exact J_iret (am_d38 rfl) rfl rfl ⟨rfl, rfl, rfl⟩
  · refine J_b 3 am_d38 rfl ?_
    refine J_S3s 14 (am_d38 rfl) rfl rfl (sp14) ?_
    refine J_if_ne 25 (am_d38 rfl) rfl (fun h20 => ?_) (fun h20 => ?_)
    · exfalso
      simp [am_bi0, am_bi1, Int32.lt_iff_toInt_lt, Int32.le_iff_toInt_le] at * <;> omega
    · refine J_b 1 am_d38 rfl ?_
      exact J_iret (am_d38 rfl) rfl rfl ⟨rfl, rfl, rfl⟩
theorem sp38b {X : am_X} {M : am_M} {N : am_N} {x m w : Int32} (h1 : (0 ≤ x.toInt ∧ x.toInt < (M 18 7).toInt) ∧ 0 ≤ w.toInt ∧ w.toInt ≤ 5) (h2 : ¬ (0 ≤ m.toInt ∧ m.toInt ≤ 12)) : am_J X (am_eq (some (.int (-2))) (M) N) 38 0 (am_en 38 [.ref 0, .int x, .int m, .int w]) [] M N := by
  refine J_en (L := [.ref 0, .int x, .int m, .int w]) rfl ?_
  refine J_b 4 am_d38 rfl ?_
  refine J_S2s 13 (am_d38 rfl) rfl rfl (sp13) ?_
  refine J_if_eq 23 (am_d38 rfl) rfl (fun h11 => (by exfalso; simp [am_bi0, am_bi1, Int32.lt_iff_toInt_lt, Int32.le_iff_toInt_le] at * <;> omega)) (fun h11 => ?_)
  refine J_b 3 am_d38 rfl ?_
  refine J_S3s 14 (am_d38 rfl) rfl rfl (sp14) ?_
  refine J_if_ne 25 (am_d38 rfl) rfl (fun h20 => ?_) (fun h20 => (by exfalso; simp [am_bi0, am_bi1, Int32.lt_iff_toInt_lt, Int32.le_iff_toInt_le] at * <;> omega))
  refine J_b 3 am_d38 rfl ?_
  refine J_S3s 14 (am_d38 rfl) rfl rfl (sp14) ?_
  refine J_if_ne 38 (am_d38 rfl) rfl (fun h32 => (by exfalso; simp [am_bi0, am_bi1, Int32.lt_iff_toInt_lt, Int32.le_iff_toInt_le] at * <;> omega)) (fun h32 => ?_)
  refine J_b 1 am_d38 rfl ?_
  exact J_iret (am_d38 rfl) rfl rfl ⟨rfl, rfl, rfl⟩
theorem sp38c_0 {X : am_X} {M : am_M} {N : am_N} {c n : Nat} (hc5 : c < 5) (hcs : (c : Int) < (M 18 7).toInt) (hn : n ≤ 12) (hb : iv_sb M) (hcb : iv_cb M) : am_J X (am_eq (some (.int (c_pp (c_cdr M c (M 42) n) 0))) (dr_T M 40 (M 19 c) (M 22 c).toNatClampNeg (M 25 c) (M 40 10) (M 40 11) (M 17) (c_s0 (M 23 c).toNatClampNeg (M 42)) n) N) 38 0 (am_en 38 [.ref 0, .int (nI c), .int (nI n), .int 0]) [] M N := by
  have i1 := nI_i (n := c) (by omega)
  have i2 := nI_i (n := n) (by omega)
  have hmo : (M 22 c).toNatClampNeg < 100 := by have := hcb.2.2.2.2.1 c; unfold b_in at this; have := I_cl this.1; omega
  have hgo := sp42_40 (X := X) (N := N) (M := M) (kd := M 19 c) (sk := M 25 c) (e0 := M 40 10) (n0 := M 40 11) (s0 := c_s0 (M 23 c).toNatClampNeg (M 42)) (sh := M 17) (cnt := n) (t := 0) hmo hb (hcb.2.1 c) hb.2.2.2.2.2.2.2.2.2.2.2 s0_4 (by omega) (by omega)
  rw [show min 12 (0 + n) = n by omega] at hgo
  refine J_en (L := [.ref 0, .int (nI c), .int (nI n), .int 0]) rfl ?_
  refine J_b 4 am_d38 rfl ?_
  refine J_S2s 13 (am_d38 rfl) rfl rfl (sp13) ?_
  refine J_if_eq 23 (am_d38 rfl) rfl (fun h11 => (by exfalso; clear hgo hb hcb; simp [am_bi0, am_bi1, Int32.lt_iff_toInt_lt, Int32.le_iff_toInt_le, i1, i2] at * <;> omega)) (fun h11 => ?_)
  refine J_b 3 am_d38 rfl ?_
  refine J_S3s 14 (am_d38 rfl) rfl rfl (sp14) ?_
  refine J_if_ne 25 (am_d38 rfl) rfl (fun h20 => ?_) (fun h20 => (by exfalso; clear hgo hb hcb; simp [am_bi0, am_bi1, Int32.lt_iff_toInt_lt, Int32.le_iff_toInt_le, i1, i2] at * <;> omega))
  refine J_b 3 am_d38 rfl ?_
  refine J_S3s 14 (am_d38 rfl) rfl rfl (sp14) ?_
  refine J_if_ne 38 (am_d38 rfl) rfl (fun h32 => ?_) (fun h32 => (by exfalso; clear hgo hb hcb; simp [am_bi0, am_bi1, Int32.lt_iff_toInt_lt, Int32.le_iff_toInt_le, i1, i2] at * <;> omega))
  refine J_b 8 am_d38 rfl ?_
  refine J_V3n 39 (am_d38 rfl) rfl rfl (sp39_40 hc5 hcb) ?_
  rw [T_0 hcb]
  refine J_b 3 am_d38 rfl ?_
  refine J_V1n 42 (am_d38 rfl) rfl rfl (hgo) ?_
  refine J_b 3 am_d38 rfl ?_
  refine J_V1s 55 (am_d38 rfl) rfl rfl (sp55_40_0) ?_
  exact J_iret (am_d38 rfl) rfl rfl ⟨rfl, rfl, rfl⟩
theorem sp38c_1 {X : am_X} {M : am_M} {N : am_N} {c n : Nat} (hc5 : c < 5) (hcs : (c : Int) < (M 18 7).toInt) (hn : n ≤ 12) (hb : iv_sb M) (hcb : iv_cb M) : am_J X (am_eq (some (.int (c_pp (c_cdr M c (M 42) n) 1))) (dr_T M 40 (M 19 c) (M 22 c).toNatClampNeg (M 25 c) (M 40 10) (M 40 11) (M 17) (c_s0 (M 23 c).toNatClampNeg (M 42)) n) N) 38 0 (am_en 38 [.ref 0, .int (nI c), .int (nI n), .int 1]) [] M N := by
  have i1 := nI_i (n := c) (by omega)
  have i2 := nI_i (n := n) (by omega)
  have hmo : (M 22 c).toNatClampNeg < 100 := by have := hcb.2.2.2.2.1 c; unfold b_in at this; have := I_cl this.1; omega
  have hgo := sp42_40 (X := X) (N := N) (M := M) (kd := M 19 c) (sk := M 25 c) (e0 := M 40 10) (n0 := M 40 11) (s0 := c_s0 (M 23 c).toNatClampNeg (M 42)) (sh := M 17) (cnt := n) (t := 0) hmo hb (hcb.2.1 c) hb.2.2.2.2.2.2.2.2.2.2.2 s0_4 (by omega) (by omega)
  rw [show min 12 (0 + n) = n by omega] at hgo
  refine J_en (L := [.ref 0, .int (nI c), .int (nI n), .int 1]) rfl ?_
  refine J_b 4 am_d38 rfl ?_
  refine J_S2s 13 (am_d38 rfl) rfl rfl (sp13) ?_
  refine J_if_eq 23 (am_d38 rfl) rfl (fun h11 => (by exfalso; clear hgo hb hcb; simp [am_bi0, am_bi1, Int32.lt_iff_toInt_lt, Int32.le_iff_toInt_le, i1, i2] at * <;> omega)) (fun h11 => ?_)
  refine J_b 3 am_d38 rfl ?_
  refine J_S3s 14 (am_d38 rfl) rfl rfl (sp14) ?_
  refine J_if_ne 25 (am_d38 rfl) rfl (fun h20 => ?_) (fun h20 => (by exfalso; clear hgo hb hcb; simp [am_bi0, am_bi1, Int32.lt_iff_toInt_lt, Int32.le_iff_toInt_le, i1, i2] at * <;> omega))
  refine J_b 3 am_d38 rfl ?_
  refine J_S3s 14 (am_d38 rfl) rfl rfl (sp14) ?_
  refine J_if_ne 38 (am_d38 rfl) rfl (fun h32 => ?_) (fun h32 => (by exfalso; clear hgo hb hcb; simp [am_bi0, am_bi1, Int32.lt_iff_toInt_lt, Int32.le_iff_toInt_le, i1, i2] at * <;> omega))
  refine J_b 8 am_d38 rfl ?_
  refine J_V3n 39 (am_d38 rfl) rfl rfl (sp39_40 hc5 hcb) ?_
  rw [T_0 hcb]
  refine J_b 3 am_d38 rfl ?_
  refine J_V1n 42 (am_d38 rfl) rfl rfl (hgo) ?_
  refine J_b 3 am_d38 rfl ?_
  refine J_V1s 55 (am_d38 rfl) rfl rfl (sp55_40_1) ?_
  exact J_iret (am_d38 rfl) rfl rfl ⟨rfl, rfl, rfl⟩
theorem sp38c_2 {X : am_X} {M : am_M} {N : am_N} {c n : Nat} (hc5 : c < 5) (hcs : (c : Int) < (M 18 7).toInt) (hn : n ≤ 12) (hb : iv_sb M) (hcb : iv_cb M) : am_J X (am_eq (some (.int (c_pp (c_cdr M c (M 42) n) 2))) (dr_T M 40 (M 19 c) (M 22 c).toNatClampNeg (M 25 c) (M 40 10) (M 40 11) (M 17) (c_s0 (M 23 c).toNatClampNeg (M 42)) n) N) 38 0 (am_en 38 [.ref 0, .int (nI c), .int (nI n), .int 2]) [] M N := by
  have i1 := nI_i (n := c) (by omega)
  have i2 := nI_i (n := n) (by omega)
  have hmo : (M 22 c).toNatClampNeg < 100 := by have := hcb.2.2.2.2.1 c; unfold b_in at this; have := I_cl this.1; omega
  have hgo := sp42_40 (X := X) (N := N) (M := M) (kd := M 19 c) (sk := M 25 c) (e0 := M 40 10) (n0 := M 40 11) (s0 := c_s0 (M 23 c).toNatClampNeg (M 42)) (sh := M 17) (cnt := n) (t := 0) hmo hb (hcb.2.1 c) hb.2.2.2.2.2.2.2.2.2.2.2 s0_4 (by omega) (by omega)
  rw [show min 12 (0 + n) = n by omega] at hgo
  refine J_en (L := [.ref 0, .int (nI c), .int (nI n), .int 2]) rfl ?_
  refine J_b 4 am_d38 rfl ?_
  refine J_S2s 13 (am_d38 rfl) rfl rfl (sp13) ?_
  refine J_if_eq 23 (am_d38 rfl) rfl (fun h11 => (by exfalso; clear hgo hb hcb; simp [am_bi0, am_bi1, Int32.lt_iff_toInt_lt, Int32.le_iff_toInt_le, i1, i2] at * <;> omega)) (fun h11 => ?_)
  refine J_b 3 am_d38 rfl ?_
  refine J_S3s 14 (am_d38 rfl) rfl rfl (sp14) ?_
  refine J_if_ne 25 (am_d38 rfl) rfl (fun h20 => ?_) (fun h20 => (by exfalso; clear hgo hb hcb; simp [am_bi0, am_bi1, Int32.lt_iff_toInt_lt, Int32.le_iff_toInt_le, i1, i2] at * <;> omega))
  refine J_b 3 am_d38 rfl ?_
  refine J_S3s 14 (am_d38 rfl) rfl rfl (sp14) ?_
  refine J_if_ne 38 (am_d38 rfl) rfl (fun h32 => ?_) (fun h32 => (by exfalso; clear hgo hb hcb; simp [am_bi0, am_bi1, Int32.lt_iff_toInt_lt, Int32.le_iff_toInt_le, i1, i2] at * <;> omega))
  refine J_b 8 am_d38 rfl ?_
  refine J_V3n 39 (am_d38 rfl) rfl rfl (sp39_40 hc5 hcb) ?_
  rw [T_0 hcb]
  refine J_b 3 am_d38 rfl ?_
  refine J_V1n 42 (am_d38 rfl) rfl rfl (hgo) ?_
  refine J_b 3 am_d38 rfl ?_
  refine J_V1s 55 (am_d38 rfl) rfl rfl (sp55_40_2) ?_
  exact J_iret (am_d38 rfl) rfl rfl ⟨rfl, rfl, rfl⟩
theorem sp38c_3 {X : am_X} {M : am_M} {N : am_N} {c n : Nat} (hc5 : c < 5) (hcs : (c : Int) < (M 18 7).toInt) (hn : n ≤ 12) (hb : iv_sb M) (hcb : iv_cb M) : am_J X (am_eq (some (.int (c_pp (c_cdr M c (M 42) n) 3))) (dr_T M 40 (M 19 c) (M 22 c).toNatClampNeg (M 25 c) (M 40 10) (M 40 11) (M 17) (c_s0 (M 23 c).toNatClampNeg (M 42)) n) N) 38 0 (am_en 38 [.ref 0, .int (nI c), .int (nI n), .int 3]) [] M N := by
  have i1 := nI_i (n := c) (by omega)
  have i2 := nI_i (n := n) (by omega)
  have hmo : (M 22 c).toNatClampNeg < 100 := by have := hcb.2.2.2.2.1 c; unfold b_in at this; have := I_cl this.1; omega
  have hgo := sp42_40 (X := X) (N := N) (M := M) (kd := M 19 c) (sk := M 25 c) (e0 := M 40 10) (n0 := M 40 11) (s0 := c_s0 (M 23 c).toNatClampNeg (M 42)) (sh := M 17) (cnt := n) (t := 0) hmo hb (hcb.2.1 c) hb.2.2.2.2.2.2.2.2.2.2.2 s0_4 (by omega) (by omega)
  rw [show min 12 (0 + n) = n by omega] at hgo
  refine J_en (L := [.ref 0, .int (nI c), .int (nI n), .int 3]) rfl ?_
  refine J_b 4 am_d38 rfl ?_
  refine J_S2s 13 (am_d38 rfl) rfl rfl (sp13) ?_
  refine J_if_eq 23 (am_d38 rfl) rfl (fun h11 => (by exfalso; clear hgo hb hcb; simp [am_bi0, am_bi1, Int32.lt_iff_toInt_lt, Int32.le_iff_toInt_le, i1, i2] at * <;> omega)) (fun h11 => ?_)
  refine J_b 3 am_d38 rfl ?_
  refine J_S3s 14 (am_d38 rfl) rfl rfl (sp14) ?_
  refine J_if_ne 25 (am_d38 rfl) rfl (fun h20 => ?_) (fun h20 => (by exfalso; clear hgo hb hcb; simp [am_bi0, am_bi1, Int32.lt_iff_toInt_lt, Int32.le_iff_toInt_le, i1, i2] at * <;> omega))
  refine J_b 3 am_d38 rfl ?_
  refine J_S3s 14 (am_d38 rfl) rfl rfl (sp14) ?_
  refine J_if_ne 38 (am_d38 rfl) rfl (fun h32 => ?_) (fun h32 => (by exfalso; clear hgo hb hcb; simp [am_bi0, am_bi1, Int32.lt_iff_toInt_lt, Int32.le_iff_toInt_le, i1, i2] at * <;> omega))
  refine J_b 8 am_d38 rfl ?_
  refine J_V3n 39 (am_d38 rfl) rfl rfl (sp39_40 hc5 hcb) ?_
  rw [T_0 hcb]
  refine J_b 3 am_d38 rfl ?_
  refine J_V1n 42 (am_d38 rfl) rfl rfl (hgo) ?_
  refine J_b 3 am_d38 rfl ?_
  refine J_V1s 55 (am_d38 rfl) rfl rfl (sp55_40_3) ?_
  exact J_iret (am_d38 rfl) rfl rfl ⟨rfl, rfl, rfl⟩
theorem sp38c_4 {X : am_X} {M : am_M} {N : am_N} {c n : Nat} (hc5 : c < 5) (hcs : (c : Int) < (M 18 7).toInt) (hn : n ≤ 12) (hb : iv_sb M) (hcb : iv_cb M) : am_J X (am_eq (some (.int (c_pp (c_cdr M c (M 42) n) 4))) (dr_T M 40 (M 19 c) (M 22 c).toNatClampNeg (M 25 c) (M 40 10) (M 40 11) (M 17) (c_s0 (M 23 c).toNatClampNeg (M 42)) n) N) 38 0 (am_en 38 [.ref 0, .int (nI c), .int (nI n), .int 4]) [] M N := by
  have i1 := nI_i (n := c) (by omega)
  have i2 := nI_i (n := n) (by omega)
  have hmo : (M 22 c).toNatClampNeg < 100 := by have := hcb.2.2.2.2.1 c; unfold b_in at this; have := I_cl this.1; omega
  have hgo := sp42_40 (X := X) (N := N) (M := M) (kd := M 19 c) (sk := M 25 c) (e0 := M 40 10) (n0 := M 40 11) (s0 := c_s0 (M 23 c).toNatClampNeg (M 42)) (sh := M 17) (cnt := n) (t := 0) hmo hb (hcb.2.1 c) hb.2.2.2.2.2.2.2.2.2.2.2 s0_4 (by omega) (by omega)
  rw [show min 12 (0 + n) = n by omega] at hgo
  refine J_en (L := [.ref 0, .int (nI c), .int (nI n), .int 4]) rfl ?_
  refine J_b 4 am_d38 rfl ?_
  refine J_S2s 13 (am_d38 rfl) rfl rfl (sp13) ?_
  refine J_if_eq 23 (am_d38 rfl) rfl (fun h11 => (by exfalso; clear hgo hb hcb; simp [am_bi0, am_bi1, Int32.lt_iff_toInt_lt, Int32.le_iff_toInt_le, i1, i2] at * <;> omega)) (fun h11 => ?_)
  refine J_b 3 am_d38 rfl ?_
  refine J_S3s 14 (am_d38 rfl) rfl rfl (sp14) ?_
  refine J_if_ne 25 (am_d38 rfl) rfl (fun h20 => ?_) (fun h20 => (by exfalso; clear hgo hb hcb; simp [am_bi0, am_bi1, Int32.lt_iff_toInt_lt, Int32.le_iff_toInt_le, i1, i2] at * <;> omega))
  refine J_b 3 am_d38 rfl ?_
  refine J_S3s 14 (am_d38 rfl) rfl rfl (sp14) ?_
  refine J_if_ne 38 (am_d38 rfl) rfl (fun h32 => ?_) (fun h32 => (by exfalso; clear hgo hb hcb; simp [am_bi0, am_bi1, Int32.lt_iff_toInt_lt, Int32.le_iff_toInt_le, i1, i2] at * <;> omega))
  refine J_b 8 am_d38 rfl ?_
  refine J_V3n 39 (am_d38 rfl) rfl rfl (sp39_40 hc5 hcb) ?_
  rw [T_0 hcb]
  refine J_b 3 am_d38 rfl ?_
  refine J_V1n 42 (am_d38 rfl) rfl rfl (hgo) ?_
  refine J_b 3 am_d38 rfl ?_
  refine J_V1s 55 (am_d38 rfl) rfl rfl (sp55_40_4) ?_
  exact J_iret (am_d38 rfl) rfl rfl ⟨rfl, rfl, rfl⟩
theorem sp38c_5 {X : am_X} {M : am_M} {N : am_N} {c n : Nat} (hc5 : c < 5) (hcs : (c : Int) < (M 18 7).toInt) (hn : n ≤ 12) (hb : iv_sb M) (hcb : iv_cb M) : am_J X (am_eq (some (.int (c_pp (c_cdr M c (M 42) n) 5))) (dr_T M 40 (M 19 c) (M 22 c).toNatClampNeg (M 25 c) (M 40 10) (M 40 11) (M 17) (c_s0 (M 23 c).toNatClampNeg (M 42)) n) N) 38 0 (am_en 38 [.ref 0, .int (nI c), .int (nI n), .int 5]) [] M N := by
  have i1 := nI_i (n := c) (by omega)
  have i2 := nI_i (n := n) (by omega)
  have hmo : (M 22 c).toNatClampNeg < 100 := by have := hcb.2.2.2.2.1 c; unfold b_in at this; have := I_cl this.1; omega
  have hgo := sp42_40 (X := X) (N := N) (M := M) (kd := M 19 c) (sk := M 25 c) (e0 := M 40 10) (n0 := M 40 11) (s0 := c_s0 (M 23 c).toNatClampNeg (M 42)) (sh := M 17) (cnt := n) (t := 0) hmo hb (hcb.2.1 c) hb.2.2.2.2.2.2.2.2.2.2.2 s0_4 (by omega) (by omega)
  rw [show min 12 (0 + n) = n by omega] at hgo
  refine J_en (L := [.ref 0, .int (nI c), .int (nI n), .int 5]) rfl ?_
  refine J_b 4 am_d38 rfl ?_
  refine J_S2s 13 (am_d38 rfl) rfl rfl (sp13) ?_
  refine J_if_eq 23 (am_d38 rfl) rfl (fun h11 => (by exfalso; clear hgo hb hcb; simp [am_bi0, am_bi1, Int32.lt_iff_toInt_lt, Int32.le_iff_toInt_le, i1, i2] at * <;> omega)) (fun h11 => ?_)
  refine J_b 3 am_d38 rfl ?_
  refine J_S3s 14 (am_d38 rfl) rfl rfl (sp14) ?_
  refine J_if_ne 25 (am_d38 rfl) rfl (fun h20 => ?_) (fun h20 => (by exfalso; clear hgo hb hcb; simp [am_bi0, am_bi1, Int32.lt_iff_toInt_lt, Int32.le_iff_toInt_le, i1, i2] at * <;> omega))
  refine J_b 3 am_d38 rfl ?_
  refine J_S3s 14 (am_d38 rfl) rfl rfl (sp14) ?_
  refine J_if_ne 38 (am_d38 rfl) rfl (fun h32 => ?_) (fun h32 => (by exfalso; clear hgo hb hcb; simp [am_bi0, am_bi1, Int32.lt_iff_toInt_lt, Int32.le_iff_toInt_le, i1, i2] at * <;> omega))
  refine J_b 8 am_d38 rfl ?_
  refine J_V3n 39 (am_d38 rfl) rfl rfl (sp39_40 hc5 hcb) ?_
  rw [T_0 hcb]
  refine J_b 3 am_d38 rfl ?_
  refine J_V1n 42 (am_d38 rfl) rfl rfl (hgo) ?_
  refine J_b 3 am_d38 rfl ?_
  refine J_V1s 55 (am_d38 rfl) rfl rfl (sp55_40_5) ?_
  exact J_iret (am_d38 rfl) rfl rfl ⟨rfl, rfl, rfl⟩
theorem sp153a {X : am_X} {M : am_M} {N : am_N} {x m w : Int32} (h1 : ¬ ((0 ≤ x.toInt ∧ x.toInt < (M 120 22).toInt) ∧ 0 ≤ w.toInt ∧ w.toInt ≤ 5)) : am_J X (am_eq (some (.int (-1))) (M) N) 153 0 (am_en 153 [.ref 120, .int x, .int m, .int w]) [] M N := by
  refine J_en (L := [.ref 120, .int x, .int m, .int w]) rfl ?_
  refine J_b 2 am_d153 rfl ?_
  refine J_V1s 152 (am_d153 rfl) rfl rfl (sp152) ?_
  refine J_if_eq 20 (am_d153 rfl) rfl (fun h5 => ?_) (fun h5 => ?_)
  · refine J_b 1 am_d153 rfl ?_
    exact J_iret (am_d153 rfl) rfl rfl ⟨rfl, rfl, rfl⟩
  · refine J_b 4 am_d153 rfl ?_
    refine J_S3s 140 (am_d153 rfl) rfl rfl (sp140) ?_
    refine J_if_ne 22 (am_d153 rfl) rfl (fun h17 => ?_) (fun h17 => ?_)
    · exfalso
      simp [am_bi0, am_bi1, Int32.lt_iff_toInt_lt, Int32.le_iff_toInt_le] at * <;> omega
    · refine J_b 1 am_d153 rfl ?_
      exact J_iret (am_d153 rfl) rfl rfl ⟨rfl, rfl, rfl⟩
theorem sp153b {X : am_X} {M : am_M} {N : am_N} {x m w : Int32} (h1 : (0 ≤ x.toInt ∧ x.toInt < (M 120 22).toInt) ∧ 0 ≤ w.toInt ∧ w.toInt ≤ 5) (h2 : ¬ (0 ≤ m.toInt ∧ m.toInt ≤ 12)) : am_J X (am_eq (some (.int (-2))) (M) N) 153 0 (am_en 153 [.ref 120, .int x, .int m, .int w]) [] M N := by
  refine J_en (L := [.ref 120, .int x, .int m, .int w]) rfl ?_
  refine J_b 2 am_d153 rfl ?_
  refine J_V1s 152 (am_d153 rfl) rfl rfl (sp152) ?_
  refine J_if_eq 20 (am_d153 rfl) rfl (fun h5 => (by exfalso; simp [am_bi0, am_bi1, Int32.lt_iff_toInt_lt, Int32.le_iff_toInt_le] at * <;> omega)) (fun h5 => ?_)
  refine J_b 4 am_d153 rfl ?_
  refine J_S3s 140 (am_d153 rfl) rfl rfl (sp140) ?_
  refine J_if_ne 22 (am_d153 rfl) rfl (fun h17 => ?_) (fun h17 => (by exfalso; simp [am_bi0, am_bi1, Int32.lt_iff_toInt_lt, Int32.le_iff_toInt_le] at * <;> omega))
  refine J_b 4 am_d153 rfl ?_
  refine J_S3s 140 (am_d153 rfl) rfl rfl (sp140) ?_
  refine J_if_ne 37 (am_d153 rfl) rfl (fun h31 => (by exfalso; simp [am_bi0, am_bi1, Int32.lt_iff_toInt_lt, Int32.le_iff_toInt_le] at * <;> omega)) (fun h31 => ?_)
  refine J_b 1 am_d153 rfl ?_
  exact J_iret (am_d153 rfl) rfl rfl ⟨rfl, rfl, rfl⟩
theorem sp153c_0 {X : am_X} {M : am_M} {N : am_N} {c n : Nat} (hc5 : c < 5) (hcs : (c : Int) < (M 120 22).toInt) (hn : n ≤ 12) {c0 : Nat} {N0 : am_N} (h : iv c0 M N0) : am_J X (am_eq (some (.int (c_pp (c_cdr M c (M 144) n) 0))) (dr_R M (c_cdr M c (M 144) n)) N) 153 0 (am_en 153 [.ref 120, .int (nI c), .int (nI n), .int 0]) [] M N := by
  have i1 := nI_i (n := c) (by omega)
  have i2 := nI_i (n := n) (by omega)
  have hdr := sp154i (X := X) (N := N) (c := c) (cnt := n) h hc5 hn
  refine J_en (L := [.ref 120, .int (nI c), .int (nI n), .int 0]) rfl ?_
  refine J_b 2 am_d153 rfl ?_
  refine J_V1s 152 (am_d153 rfl) rfl rfl (sp152) ?_
  refine J_if_eq 20 (am_d153 rfl) rfl (fun h5 => (by exfalso; clear hdr h; simp [am_bi0, am_bi1, Int32.lt_iff_toInt_lt, Int32.le_iff_toInt_le, i1, i2] at * <;> omega)) (fun h5 => ?_)
  refine J_b 4 am_d153 rfl ?_
  refine J_S3s 140 (am_d153 rfl) rfl rfl (sp140) ?_
  refine J_if_ne 22 (am_d153 rfl) rfl (fun h17 => ?_) (fun h17 => (by exfalso; clear hdr h; simp [am_bi0, am_bi1, Int32.lt_iff_toInt_lt, Int32.le_iff_toInt_le, i1, i2] at * <;> omega))
  refine J_b 4 am_d153 rfl ?_
  refine J_S3s 140 (am_d153 rfl) rfl rfl (sp140) ?_
  refine J_if_ne 37 (am_d153 rfl) rfl (fun h31 => ?_) (fun h31 => (by exfalso; clear hdr h; simp [am_bi0, am_bi1, Int32.lt_iff_toInt_lt, Int32.le_iff_toInt_le, i1, i2] at * <;> omega))
  refine J_b 3 am_d153 rfl ?_
  refine J_V2n 154 (am_d153 rfl) rfl rfl (hdr) ?_
  refine J_b 1 am_d153 rfl ?_
  refine J_tsIn 80 (am_d153 rfl) (show ¬ (0 : Int32).toInt < 0 by decide) (show ¬ (4 : Int) < (0 : Int32).toInt by decide) rfl rfl ?_
  refine J_b 4 am_d153 rfl ?_
  refine J_V2s 159 (am_d153 rfl) rfl rfl (sp159 (k := 143) (n := 60) (l := 60) rfl (by decide) (by decide)) ?_
  exact J_iret (am_d153 rfl) rfl rfl ⟨rfl, rfl, rfl⟩
theorem sp153c_1 {X : am_X} {M : am_M} {N : am_N} {c n : Nat} (hc5 : c < 5) (hcs : (c : Int) < (M 120 22).toInt) (hn : n ≤ 12) {c0 : Nat} {N0 : am_N} (h : iv c0 M N0) : am_J X (am_eq (some (.int (c_pp (c_cdr M c (M 144) n) 1))) (dr_R M (c_cdr M c (M 144) n)) N) 153 0 (am_en 153 [.ref 120, .int (nI c), .int (nI n), .int 1]) [] M N := by
  have i1 := nI_i (n := c) (by omega)
  have i2 := nI_i (n := n) (by omega)
  have hdr := sp154i (X := X) (N := N) (c := c) (cnt := n) h hc5 hn
  refine J_en (L := [.ref 120, .int (nI c), .int (nI n), .int 1]) rfl ?_
  refine J_b 2 am_d153 rfl ?_
  refine J_V1s 152 (am_d153 rfl) rfl rfl (sp152) ?_
  refine J_if_eq 20 (am_d153 rfl) rfl (fun h5 => (by exfalso; clear hdr h; simp [am_bi0, am_bi1, Int32.lt_iff_toInt_lt, Int32.le_iff_toInt_le, i1, i2] at * <;> omega)) (fun h5 => ?_)
  refine J_b 4 am_d153 rfl ?_
  refine J_S3s 140 (am_d153 rfl) rfl rfl (sp140) ?_
  refine J_if_ne 22 (am_d153 rfl) rfl (fun h17 => ?_) (fun h17 => (by exfalso; clear hdr h; simp [am_bi0, am_bi1, Int32.lt_iff_toInt_lt, Int32.le_iff_toInt_le, i1, i2] at * <;> omega))
  refine J_b 4 am_d153 rfl ?_
  refine J_S3s 140 (am_d153 rfl) rfl rfl (sp140) ?_
  refine J_if_ne 37 (am_d153 rfl) rfl (fun h31 => ?_) (fun h31 => (by exfalso; clear hdr h; simp [am_bi0, am_bi1, Int32.lt_iff_toInt_lt, Int32.le_iff_toInt_le, i1, i2] at * <;> omega))
  refine J_b 3 am_d153 rfl ?_
  refine J_V2n 154 (am_d153 rfl) rfl rfl (hdr) ?_
  refine J_b 1 am_d153 rfl ?_
  refine J_tsIn 91 (am_d153 rfl) (show ¬ (1 : Int32).toInt < 0 by decide) (show ¬ (4 : Int) < (1 : Int32).toInt by decide) rfl rfl ?_
  refine J_b 4 am_d153 rfl ?_
  refine J_V2s 159 (am_d153 rfl) rfl rfl (sp159 (k := 145) (n := 60) (l := 60) rfl (by decide) (by decide)) ?_
  exact J_iret (am_d153 rfl) rfl rfl ⟨rfl, rfl, rfl⟩
theorem sp153c_2 {X : am_X} {M : am_M} {N : am_N} {c n : Nat} (hc5 : c < 5) (hcs : (c : Int) < (M 120 22).toInt) (hn : n ≤ 12) {c0 : Nat} {N0 : am_N} (h : iv c0 M N0) : am_J X (am_eq (some (.int (c_pp (c_cdr M c (M 144) n) 2))) (dr_R M (c_cdr M c (M 144) n)) N) 153 0 (am_en 153 [.ref 120, .int (nI c), .int (nI n), .int 2]) [] M N := by
  have i1 := nI_i (n := c) (by omega)
  have i2 := nI_i (n := n) (by omega)
  have hdr := sp154i (X := X) (N := N) (c := c) (cnt := n) h hc5 hn
  refine J_en (L := [.ref 120, .int (nI c), .int (nI n), .int 2]) rfl ?_
  refine J_b 2 am_d153 rfl ?_
  refine J_V1s 152 (am_d153 rfl) rfl rfl (sp152) ?_
  refine J_if_eq 20 (am_d153 rfl) rfl (fun h5 => (by exfalso; clear hdr h; simp [am_bi0, am_bi1, Int32.lt_iff_toInt_lt, Int32.le_iff_toInt_le, i1, i2] at * <;> omega)) (fun h5 => ?_)
  refine J_b 4 am_d153 rfl ?_
  refine J_S3s 140 (am_d153 rfl) rfl rfl (sp140) ?_
  refine J_if_ne 22 (am_d153 rfl) rfl (fun h17 => ?_) (fun h17 => (by exfalso; clear hdr h; simp [am_bi0, am_bi1, Int32.lt_iff_toInt_lt, Int32.le_iff_toInt_le, i1, i2] at * <;> omega))
  refine J_b 4 am_d153 rfl ?_
  refine J_S3s 140 (am_d153 rfl) rfl rfl (sp140) ?_
  refine J_if_ne 37 (am_d153 rfl) rfl (fun h31 => ?_) (fun h31 => (by exfalso; clear hdr h; simp [am_bi0, am_bi1, Int32.lt_iff_toInt_lt, Int32.le_iff_toInt_le, i1, i2] at * <;> omega))
  refine J_b 3 am_d153 rfl ?_
  refine J_V2n 154 (am_d153 rfl) rfl rfl (hdr) ?_
  refine J_b 1 am_d153 rfl ?_
  refine J_tsIn 102 (am_d153 rfl) (show ¬ (2 : Int32).toInt < 0 by decide) (show ¬ (4 : Int) < (2 : Int32).toInt by decide) rfl rfl ?_
  refine J_b 4 am_d153 rfl ?_
  refine J_V2s 159 (am_d153 rfl) rfl rfl (sp159 (k := 146) (n := 720) (l := 720) rfl (by decide) (by decide)) ?_
  exact J_iret (am_d153 rfl) rfl rfl ⟨rfl, rfl, rfl⟩
theorem sp153c_3 {X : am_X} {M : am_M} {N : am_N} {c n : Nat} (hc5 : c < 5) (hcs : (c : Int) < (M 120 22).toInt) (hn : n ≤ 12) {c0 : Nat} {N0 : am_N} (h : iv c0 M N0) : am_J X (am_eq (some (.int (c_pp (c_cdr M c (M 144) n) 3))) (dr_R M (c_cdr M c (M 144) n)) N) 153 0 (am_en 153 [.ref 120, .int (nI c), .int (nI n), .int 3]) [] M N := by
  have i1 := nI_i (n := c) (by omega)
  have i2 := nI_i (n := n) (by omega)
  have hdr := sp154i (X := X) (N := N) (c := c) (cnt := n) h hc5 hn
  refine J_en (L := [.ref 120, .int (nI c), .int (nI n), .int 3]) rfl ?_
  refine J_b 2 am_d153 rfl ?_
  refine J_V1s 152 (am_d153 rfl) rfl rfl (sp152) ?_
  refine J_if_eq 20 (am_d153 rfl) rfl (fun h5 => (by exfalso; clear hdr h; simp [am_bi0, am_bi1, Int32.lt_iff_toInt_lt, Int32.le_iff_toInt_le, i1, i2] at * <;> omega)) (fun h5 => ?_)
  refine J_b 4 am_d153 rfl ?_
  refine J_S3s 140 (am_d153 rfl) rfl rfl (sp140) ?_
  refine J_if_ne 22 (am_d153 rfl) rfl (fun h17 => ?_) (fun h17 => (by exfalso; clear hdr h; simp [am_bi0, am_bi1, Int32.lt_iff_toInt_lt, Int32.le_iff_toInt_le, i1, i2] at * <;> omega))
  refine J_b 4 am_d153 rfl ?_
  refine J_S3s 140 (am_d153 rfl) rfl rfl (sp140) ?_
  refine J_if_ne 37 (am_d153 rfl) rfl (fun h31 => ?_) (fun h31 => (by exfalso; clear hdr h; simp [am_bi0, am_bi1, Int32.lt_iff_toInt_lt, Int32.le_iff_toInt_le, i1, i2] at * <;> omega))
  refine J_b 3 am_d153 rfl ?_
  refine J_V2n 154 (am_d153 rfl) rfl rfl (hdr) ?_
  refine J_b 1 am_d153 rfl ?_
  refine J_tsIn 114 (am_d153 rfl) (show ¬ (3 : Int32).toInt < 0 by decide) (show ¬ (4 : Int) < (3 : Int32).toInt by decide) rfl rfl ?_
  refine J_b 2 am_d153 rfl ?_
  exact J_iret (am_d153 rfl) rfl rfl ⟨rfl, rfl, rfl⟩
theorem sp153c_4 {X : am_X} {M : am_M} {N : am_N} {c n : Nat} (hc5 : c < 5) (hcs : (c : Int) < (M 120 22).toInt) (hn : n ≤ 12) {c0 : Nat} {N0 : am_N} (h : iv c0 M N0) : am_J X (am_eq (some (.int (c_pp (c_cdr M c (M 144) n) 4))) (dr_R M (c_cdr M c (M 144) n)) N) 153 0 (am_en 153 [.ref 120, .int (nI c), .int (nI n), .int 4]) [] M N := by
  have i1 := nI_i (n := c) (by omega)
  have i2 := nI_i (n := n) (by omega)
  have hdr := sp154i (X := X) (N := N) (c := c) (cnt := n) h hc5 hn
  refine J_en (L := [.ref 120, .int (nI c), .int (nI n), .int 4]) rfl ?_
  refine J_b 2 am_d153 rfl ?_
  refine J_V1s 152 (am_d153 rfl) rfl rfl (sp152) ?_
  refine J_if_eq 20 (am_d153 rfl) rfl (fun h5 => (by exfalso; clear hdr h; simp [am_bi0, am_bi1, Int32.lt_iff_toInt_lt, Int32.le_iff_toInt_le, i1, i2] at * <;> omega)) (fun h5 => ?_)
  refine J_b 4 am_d153 rfl ?_
  refine J_S3s 140 (am_d153 rfl) rfl rfl (sp140) ?_
  refine J_if_ne 22 (am_d153 rfl) rfl (fun h17 => ?_) (fun h17 => (by exfalso; clear hdr h; simp [am_bi0, am_bi1, Int32.lt_iff_toInt_lt, Int32.le_iff_toInt_le, i1, i2] at * <;> omega))
  refine J_b 4 am_d153 rfl ?_
  refine J_S3s 140 (am_d153 rfl) rfl rfl (sp140) ?_
  refine J_if_ne 37 (am_d153 rfl) rfl (fun h31 => ?_) (fun h31 => (by exfalso; clear hdr h; simp [am_bi0, am_bi1, Int32.lt_iff_toInt_lt, Int32.le_iff_toInt_le, i1, i2] at * <;> omega))
  refine J_b 3 am_d153 rfl ?_
  refine J_V2n 154 (am_d153 rfl) rfl rfl (hdr) ?_
  refine J_b 1 am_d153 rfl ?_
  refine J_tsIn 119 (am_d153 rfl) (show ¬ (4 : Int32).toInt < 0 by decide) (show ¬ (4 : Int) < (4 : Int32).toInt by decide) rfl rfl ?_
  refine J_b 2 am_d153 rfl ?_
  exact J_iret (am_d153 rfl) rfl rfl ⟨rfl, rfl, rfl⟩
theorem sp153c_5 {X : am_X} {M : am_M} {N : am_N} {c n : Nat} (hc5 : c < 5) (hcs : (c : Int) < (M 120 22).toInt) (hn : n ≤ 12) {c0 : Nat} {N0 : am_N} (h : iv c0 M N0) : am_J X (am_eq (some (.int (c_pp (c_cdr M c (M 144) n) 5))) (dr_R M (c_cdr M c (M 144) n)) N) 153 0 (am_en 153 [.ref 120, .int (nI c), .int (nI n), .int 5]) [] M N := by
  have i1 := nI_i (n := c) (by omega)
  have i2 := nI_i (n := n) (by omega)
  have hdr := sp154i (X := X) (N := N) (c := c) (cnt := n) h hc5 hn
  refine J_en (L := [.ref 120, .int (nI c), .int (nI n), .int 5]) rfl ?_
  refine J_b 2 am_d153 rfl ?_
  refine J_V1s 152 (am_d153 rfl) rfl rfl (sp152) ?_
  refine J_if_eq 20 (am_d153 rfl) rfl (fun h5 => (by exfalso; clear hdr h; simp [am_bi0, am_bi1, Int32.lt_iff_toInt_lt, Int32.le_iff_toInt_le, i1, i2] at * <;> omega)) (fun h5 => ?_)
  refine J_b 4 am_d153 rfl ?_
  refine J_S3s 140 (am_d153 rfl) rfl rfl (sp140) ?_
  refine J_if_ne 22 (am_d153 rfl) rfl (fun h17 => ?_) (fun h17 => (by exfalso; clear hdr h; simp [am_bi0, am_bi1, Int32.lt_iff_toInt_lt, Int32.le_iff_toInt_le, i1, i2] at * <;> omega))
  refine J_b 4 am_d153 rfl ?_
  refine J_S3s 140 (am_d153 rfl) rfl rfl (sp140) ?_
  refine J_if_ne 37 (am_d153 rfl) rfl (fun h31 => ?_) (fun h31 => (by exfalso; clear hdr h; simp [am_bi0, am_bi1, Int32.lt_iff_toInt_lt, Int32.le_iff_toInt_le, i1, i2] at * <;> omega))
  refine J_b 3 am_d153 rfl ?_
  refine J_V2n 154 (am_d153 rfl) rfl rfl (hdr) ?_
  refine J_b 1 am_d153 rfl ?_
  refine J_tsOut 124 (am_d153 rfl) (.inr (show (4 : Int) < (5 : Int32).toInt by decide)) rfl ?_
  refine J_b 2 am_d153 rfl ?_
  exact J_iret (am_d153 rfl) rfl rfl ⟨rfl, rfl, rfl⟩
theorem am_w6 {w : Int32} (h : 0 ≤ w.toInt ∧ w.toInt ≤ 5) : w = 0 ∨ w = 1 ∨ w = 2 ∨ w = 3 ∨ w = 4 ∨ w = 5 := am_ix6 (by omega)
