/-! ===== the reference: found in a name; weights ===== -/
theorem i60r (t x y : Nat) : (Int8.ofInt 60).toInt32 * nI t + (Int8.ofInt 6).toInt32 * nI x + nI y = nI (60 * t + 6 * x + y) := by
  rw [show (Int8.ofInt 60).toInt32 = nI 60 from rfl, show (Int8.ofInt 6).toInt32 = nI 6 from rfl, nI_mul, nI_mul, nI_add, nI_add]
theorem lp172y {X : am_X} {Q : am_Q} {M : am_M} {N : am_N} {nm x0 x1 y0 y1 : Nat} {m4 a4 b4 : Int32} {acc : Int32} {t i : Nat} (hnm : nm < 6) (e27 : M 148 nm = nI x0) (e28 : M 149 nm = nI x1) (e29 : M 150 nm = nI y0) (e30 : M 151 nm = nI y1) (hx1 : x1 ≤ 9) (hx0 : x0 ≤ 9) (hy0 : y0 ≤ 5) (hy1 : y1 ≤ 5) (ht : t < 12) (hi : x0 + i ≤ x1) (kk : ∀ z8, am_J X Q 172 100 [.ref 120, .int (nI nm), .int m4, .int a4, .int b4, .int (acc + smI (fun q => M 146 (60 * t + 6 * (x0 + i) + (y0 + q))) (y1 + 1 - y0)), .int (nI t), .int (nI (x0 + i)), z8] [] M N) : ∀ (n q : Nat), q + n = y1 + 1 - y0 → ∀ (y : Int32), y = nI (y0 + q) → ∀ (a : Int32), a = acc + smI (fun q => M 146 (60 * t + 6 * (x0 + i) + (y0 + q))) q → am_J X Q 172 59 [.ref 120, .int (nI nm), .int m4, .int a4, .int b4, .int a, .int (nI t), .int (nI (x0 + i)), .int y] [] M N := by
  intro n
  induction n with
  | zero =>
    intro q hn y ey a ea
    subst ey
    refine J_b 4 am_d172 rfl ?_
    refine J_iald (am_d172 rfl) rfl (vp_in_nI hnm (by decide)) ?_
    rw [nI_c (n := nm) (by omega)]
    show am_J X _ 172 67 _ (.int (M 151 nm) :: _) _ N
    rw [e30]
    refine J_icmp_gt 100 (am_d172 rfl) rfl (fun h67 => ?_) (fun h67 => absurd ((nI_ltn (by omega) (by omega)).mpr (by omega)) h67)
    rw [ea]
    rw [show y1 + 1 - y0 = q from by omega] at kk
    exact kk _
  | succ n ih =>
    intro q hn y ey a ea
    subst ey
    refine J_b 4 am_d172 rfl ?_
    refine J_iald (am_d172 rfl) rfl (vp_in_nI hnm (by decide)) ?_
    rw [nI_c (n := nm) (by omega)]
    show am_J X _ 172 67 _ (.int (M 151 nm) :: _) _ N
    rw [e30]
    refine J_icmp_gt 100 (am_d172 rfl) rfl (fun h67 => absurd ((nI_ltn (by omega) (by omega)).mp h67) (by omega)) (fun h67 => ?_)
    refine J_b 11 am_d172 rfl ?_
    refine J_b 1 am_d172 rfl ?_
    refine J_st5 (congrArg (fun z => ([.int z, .ref 146, .int a] : am_V)) (i60r t (x0 + i) (y0 + q))) ?_
    refine J_iald (am_d172 rfl) rfl (vp_in_nI (by omega) (by decide)) ?_
    rw [nI_c (by omega)]
    refine J_b 4 am_d172 rfl ?_
    refine ih (q + 1) (by omega) _ (nI_1 (y0 + q)) _ ?_
    rw [ea, add3]
    rfl
theorem lp172x {X : am_X} {Q : am_Q} {M : am_M} {N : am_N} {nm x0 x1 y0 y1 : Nat} {m4 a4 b4 : Int32} {acc : Int32} {t : Nat} (hnm : nm < 6) (e27 : M 148 nm = nI x0) (e28 : M 149 nm = nI x1) (e29 : M 150 nm = nI y0) (e30 : M 151 nm = nI y1) (hx1 : x1 ≤ 9) (hx0 : x0 ≤ 9) (hy0 : y0 ≤ 5) (hy1 : y1 ≤ 5) (ht : t < 12) (kk : ∀ z7 z8, am_J X Q 172 106 [.ref 120, .int (nI nm), .int m4, .int a4, .int b4, .int (acc + smI (fun i => smI (fun q => M 146 (60 * t + 6 * (x0 + i) + (y0 + q))) (y1 + 1 - y0)) (x1 + 1 - x0)), .int (nI t), z7, z8] [] M N) : ∀ (n i : Nat), i + n = x1 + 1 - x0 → ∀ (x : Int32), x = nI (x0 + i) → ∀ (a : Int32), a = acc + smI (fun i => smI (fun q => M 146 (60 * t + 6 * (x0 + i) + (y0 + q))) (y1 + 1 - y0)) i → ∀ (z8 : Value), am_J X Q 172 40 [.ref 120, .int (nI nm), .int m4, .int a4, .int b4, .int a, .int (nI t), .int x, z8] [] M N := by
  intro n
  induction n with
  | zero =>
    intro i hn x ex a ea z8
    subst ex
    refine J_b 4 am_d172 rfl ?_
    refine J_iald (am_d172 rfl) rfl (vp_in_nI hnm (by decide)) ?_
    rw [nI_c (n := nm) (by omega)]
    show am_J X _ 172 48 _ (.int (M 149 nm) :: _) _ N
    rw [e28]
    refine J_icmp_gt 106 (am_d172 rfl) rfl (fun h48 => ?_) (fun h48 => absurd ((nI_ltn (by omega) (by omega)).mpr (by omega)) h48)
    rw [ea]
    rw [show x1 + 1 - x0 = i from by omega] at kk
    exact kk _ _
  | succ n ih =>
    intro i hn x ex a ea z8
    subst ex
    refine J_b 4 am_d172 rfl ?_
    refine J_iald (am_d172 rfl) rfl (vp_in_nI hnm (by decide)) ?_
    rw [nI_c (n := nm) (by omega)]
    show am_J X _ 172 48 _ (.int (M 149 nm) :: _) _ N
    rw [e28]
    refine J_icmp_gt 106 (am_d172 rfl) rfl (fun h48 => absurd ((nI_ltn (by omega) (by omega)).mp h48) (by omega)) (fun h48 => ?_)
    refine J_b 3 am_d172 rfl ?_
    refine J_iald (am_d172 rfl) rfl (vp_in_nI hnm (by decide)) ?_
    rw [nI_c (n := nm) (by omega)]
    show am_J X _ 172 57 _ (.int (M 150 nm) :: _) _ N
    rw [e29]
    refine J_b 1 am_d172 rfl ?_
    refine lp172y (acc := a) (t := t) (i := i) hnm e27 e28 e29 e30 hx1 hx0 hy0 hy1 ht (by omega) (fun z8 => ?_) (y1 + 1 - y0) 0 (Nat.zero_add _) _ rfl _ (Int32.add_zero _).symm
    refine J_b 2 am_d172 rfl ?_
    refine ih (i + 1) (by omega) _ (nI_1 (x0 + i)) _ ?_ _
    rw [ea, add3]
    rfl
theorem lp172 {X : am_X} {M : am_M} {N : am_N} {nm x0 x1 y0 y1 : Nat} {m4 a4 b4 : Int32} (hnm : nm < 6) (e27 : M 148 nm = nI x0) (e28 : M 149 nm = nI x1) (e29 : M 150 nm = nI y0) (e30 : M 151 nm = nI y1) (hx1 : x1 ≤ 9) (hx0 : x0 ≤ 9) (hy0 : y0 ≤ 5) (hy1 : y1 ≤ 5) (hm4 : b_in m4 0 1000) : ∀ (n i : Nat), i + n = 12 → ∀ (x : Int32), x = nI i → ∀ (a : Int32), a = smI (fun t => if a4.toInt - m4.toInt ≤ (t : Int) ∧ (t : Int) ≤ b4.toInt - m4.toInt then c_rc (M 146) (nI x0) (nI x1) (nI y0) (nI y1) t else 0) i → ∀ (z7 z8 : Value), am_J X (am_eq (some (.int (smI (fun t => if a4.toInt - m4.toInt ≤ (t : Int) ∧ (t : Int) ≤ b4.toInt - m4.toInt then c_rc (M 146) (nI x0) (nI x1) (nI y0) (nI y1) t else 0) 12))) M N) 172 6 [.ref 120, .int (nI nm), .int m4, .int a4, .int b4, .int a, .int x, z7, z8] [] M N := by
  intro n
  induction n with
  | zero =>
    intro i hn x ex a ea z7 z8
    have e : i = 12 := by omega
    have hge : (Int8.ofInt 12).toInt32 ≤ x := by rw [ex, e]; exact Int32.le_refl _
    refine J_b 2 am_d172 rfl ?_
    refine J_icmp_ge 112 (am_d172 rfl) rfl (fun h10 => ?_) (fun h10 => absurd (hge) h10)
    refine J_b 1 am_d172 rfl ?_
    exact J_iret (am_d172 rfl) rfl rfl ⟨congrArg (fun z => some (Value.int z)) (by rw [ea, e]), rfl, rfl⟩
  | succ n ih =>
    intro i hn x ex a ea z7 z8
    subst ex
    have ii := nI_i (n := i) (by omega)
    have im : (m4 + nI i).toInt = m4.toInt + i := by unfold b_in at hm4; rw [I_add (by omega), ii]
    have hin : (a4.toInt64.toInt ≤ (m4 + nI i).toInt64.toInt ∧ (m4 + nI i).toInt64.toInt ≤ b4.toInt64.toInt) ↔ (a4.toInt - m4.toInt ≤ (i : Int) ∧ (i : Int) ≤ b4.toInt - m4.toInt) := by
      rw [Int32.toInt_toInt64, Int32.toInt_toInt64, Int32.toInt_toInt64, im]
      omega
    refine J_b 2 am_d172 rfl ?_
    refine J_icmp_ge 112 (am_d172 rfl) rfl (fun h10 => absurd h10 (l12 (by omega))) (fun h10 => ?_)
    refine J_b 8 am_d172 rfl ?_
    refine J_S3s 140 (am_d172 rfl) rfl rfl (sp140) ?_
    refine J_if_ne 32 (am_d172 rfl) rfl (fun h26 => ?_) (fun h26 => ?_)
    · refine J_b 3 am_d172 rfl ?_
      refine J_iald (am_d172 rfl) rfl (vp_in_nI hnm (by decide)) ?_
      rw [nI_c (n := nm) (by omega)]
      show am_J X _ 172 38 _ (.int (M 148 nm) :: _) _ N
      rw [e27]
      refine J_b 1 am_d172 rfl ?_
      refine lp172x (acc := a) (t := i) hnm e27 e28 e29 e30 hx1 hx0 hy0 hy1 (by omega) (fun z7 z8 => ?_) (x1 + 1 - x0) 0 (Nat.zero_add _) _ rfl _ (Int32.add_zero _).symm _
      refine J_b 2 am_d172 rfl ?_
      refine ih (i + 1) (by omega) _ (nI_1 i) _ ?_ _ _
      rw [ea]
      show smI (fun t => if a4.toInt - m4.toInt ≤ (t : Int) ∧ (t : Int) ≤ b4.toInt - m4.toInt then c_rc (M 146) (nI x0) (nI x1) (nI y0) (nI y1) t else 0) i + _ = smI (fun t => if a4.toInt - m4.toInt ≤ (t : Int) ∧ (t : Int) ≤ b4.toInt - m4.toInt then c_rc (M 146) (nI x0) (nI x1) (nI y0) (nI y1) t else 0) i + (if a4.toInt - m4.toInt ≤ (i : Int) ∧ (i : Int) ≤ b4.toInt - m4.toInt then c_rc (M 146) (nI x0) (nI x1) (nI y0) (nI y1) i else 0)
      rw [if_pos (hin.mp (am_bi1.mp h26)), rc_e hx1 hx0 hy0 hy1]
    · refine J_b 1 am_d172 rfl ?_
      refine J_b 1 am_d172 rfl ?_
      refine J_b 1 am_d172 rfl ?_
      refine ih (i + 1) (by omega) _ (nI_1 i) _ ?_ _ _
      rw [ea]
      show smI (fun t => if a4.toInt - m4.toInt ≤ (t : Int) ∧ (t : Int) ≤ b4.toInt - m4.toInt then c_rc (M 146) (nI x0) (nI x1) (nI y0) (nI y1) t else 0) i = smI (fun t => if a4.toInt - m4.toInt ≤ (t : Int) ∧ (t : Int) ≤ b4.toInt - m4.toInt then c_rc (M 146) (nI x0) (nI x1) (nI y0) (nI y1) t else 0) i + (if a4.toInt - m4.toInt ≤ (i : Int) ∧ (i : Int) ≤ b4.toInt - m4.toInt then c_rc (M 146) (nI x0) (nI x1) (nI y0) (nI y1) i else 0)
      rw [if_neg (fun z => am_bi0.mp h26 (hin.mpr z))]
      exact (Int32.add_zero _).symm
theorem sp172 {X : am_X} {M : am_M} {N : am_N} {nm x0 x1 y0 y1 : Nat} {m4 a4 b4 : Int32} (hnm : nm < 6) (e27 : M 148 nm = nI x0) (e28 : M 149 nm = nI x1) (e29 : M 150 nm = nI y0) (e30 : M 151 nm = nI y1) (hx1 : x1 ≤ 9) (hx0 : x0 ≤ 9) (hy0 : y0 ≤ 5) (hy1 : y1 ≤ 5) (hm4 : b_in m4 0 1000) : am_J X (am_eq (some (.int (c_fw (M 146) (nI x0) (nI x1) (nI y0) (nI y1) (a4.toInt - m4.toInt) (b4.toInt - m4.toInt)))) (M) N) 172 0 (am_en 172 [.ref 120, .int (nI nm), .int m4, .int a4, .int b4]) [] M N := by
  refine J_en (L := [.ref 120, .int (nI nm), .int m4, .int a4, .int b4, .retAddr 0, .retAddr 0, .retAddr 0, .retAddr 0]) rfl ?_
  refine J_b 4 am_d172 rfl ?_
  exact lp172 hnm e27 e28 e29 e30 hx1 hx0 hy0 hy1 hm4 12 0 rfl _ rfl _ rfl _ _
theorem nb_e {M : am_M} (h : iv_nb M) (n : Nat) : ∃ x0 x1 y0 y1 : Nat, (M 27 n = nI x0 ∧ M 28 n = nI x1 ∧ M 29 n = nI y0 ∧ M 30 n = nI y1) ∧ x1 ≤ 9 ∧ x0 ≤ 9 ∧ y0 ≤ 5 ∧ y1 ≤ 5 := by
  obtain ⟨_, h1, h2, h3, h4, _⟩ := h
  have a1 := h1 n
  have a2 := h2 n
  have a3 := h3 n
  have a4 := h4 n
  unfold b_in at a1 a2 a3 a4
  have i1 := I_cl a1.1
  have i2 := I_cl a2.1
  have i3 := I_cl a3.1
  have i4 := I_cl a4.1
  exact ⟨_, _, _, _, ⟨I_nI a1.1, I_nI a2.1, I_nI a3.1, I_nI a4.1⟩, by omega, by omega, by omega, by omega⟩
/-- only a drift of the reference's has gone over the cells -/
def rd (M M1 : am_M) : Prop := ∃ st, M1 = dr_R M st
theorem rd_0 {M : am_M} : rd M M := ⟨_, R_of M⟩
theorem R_R {M st st' : am_M} : dr_R (dr_R M st) st' = dr_R M st' := by
  funext r j
  by_cases h : r = 120
  · subst h
    by_cases h2 : j = 27 ∨ j = 28 ∨ j = 29
    · rcases h2 with rfl | rfl | rfl <;> rfl
    · rw [R_120 (by omega), R_120 (by omega), R_120 (by omega)]
  · by_cases h3 : 143 ≤ r ∧ r ≤ 146
    · have h4 : r = 143 ∨ r = 144 ∨ r = 145 ∨ r = 146 := by omega
      rcases h4 with rfl | rfl | rfl | rfl <;> rfl
    · rw [R_n ⟨h, by omega⟩, R_n ⟨h, by omega⟩, R_n ⟨h, by omega⟩]
theorem rd_t {M M1 M2 : am_M} (h1 : rd M M1) (h2 : rd M1 M2) : rd M M2 := by
  obtain ⟨s1, rfl⟩ := h1
  obtain ⟨s2, rfl⟩ := h2
  exact ⟨s2, R_R⟩
theorem rd_sc {M M1 : am_M} (h : rd M M1) : sc_ok M M1 := by
  obtain ⟨s1, rfl⟩ := h
  exact sc_R
theorem rd_n {M M1 : am_M} (h : rd M M1) {r : Nat} (hr : r ≠ 120 ∧ (r < 143 ∨ 146 < r)) : M1 r = M r := by
  obtain ⟨s1, rfl⟩ := h
  exact R_n hr
def w_of (M : am_M) (f c : Nat) : Int32 := c_wt (sC M) M (M 17) f c
theorem sp170 {X : am_X} {M : am_M} {N N0 : am_N} {c0 f c : Nat} (h : iv c0 M N0) (hf : f < 16) (hc : c < 5) : am_J X (q_p (some (.int (w_of M f c))) (fun M1 N1 => rd M M1 ∧ N1 = N)) 170 0 (am_en 170 [.ref 120, .int (nI f), .int (nI c)]) [] M N := by
  have hcd := sp171i (X := X) (N := N) h hf hc
  have hdr := sp154i (X := X) (N := N) (c := c) (cnt := 12) h hc (by decide)
  obtain ⟨⟨⟨hs, hb⟩, ⟨hca, hcb⟩, ⟨hna, hnb⟩, ⟨hfi, hfb⟩⟩, _⟩ := h
  obtain ⟨⟨a1, a2, a3, a4, a5, a6, a7⟩, _⟩ := hca
  obtain ⟨⟨f1, f2, f3, f4, f5, f6, f7⟩, _⟩ := hfi
  obtain ⟨⟨n1, n2, n3, n4, n5⟩, _⟩ := hna
  have bn := hfb.2.1 f
  unfold b_in at bn
  have in5 := I_cl bn.1
  have en := I_nI bn.1
  generalize hnm : (M 35 f).toNatClampNeg = nm at en in5
  obtain ⟨x0, x1, y0, y1, ⟨e27, e28, e29, e30⟩, k1, k2, k3, k4⟩ := nb_e hnb nm
  have bm := hcb.2.2.2.2.1 c
  have hfd := sp172 (X := X) (N := N) (M := (dr_R M (c_cdr M c (M 144) 12))) (nm := nm) (m4 := M 22 c) (a4 := M 36 f) (b4 := M 37 f) (by omega) ((congrFun n1 nm).trans e27) ((congrFun n2 nm).trans e28) ((congrFun n3 nm).trans e29) ((congrFun n4 nm).trans e30) k1 k2 k3 k4 ⟨bm.1, by have := bm.2; omega⟩
  have hv : c_fw ((dr_R M (c_cdr M c (M 144) 12)) 146) (nI x0) (nI x1) (nI y0) (nI y1) ((M 36 f).toInt - (M 22 c).toInt) ((M 37 f).toInt - (M 22 c).toInt) = c_fw (c_cf (sC M) M (M 17) c) (M 27 nm) (M 28 nm) (M 29 nm) (M 30 nm) ((M 36 f).toInt - (M 22 c).toInt) ((M 37 f).toInt - (M 22 c).toInt) := by
    rw [e27, e28, e29, e30]
    exact congrArg (fun z => c_fw z (nI x0) (nI x1) (nI y0) (nI y1) ((M 36 f).toInt - (M 22 c).toInt) ((M 37 f).toInt - (M 22 c).toInt)) (dr_row (M 144) c_z (k := 4) (by decide))
  refine J_en (L := [.ref 120, .int (nI f), .int (nI c)]) rfl ?_
  refine J_b 3 am_d170 rfl ?_
  refine J_V2s 171 (am_d170 rfl) rfl rfl (hcd) ?_
  refine J_if_ne 11 (am_d170 rfl) rfl (fun h6 => ?_) (fun h6 => ?_)
  · refine J_b 3 am_d170 rfl ?_
    refine J_V2n 154 (am_d170 rfl) rfl rfl (hdr) ?_
    refine J_b 4 am_d170 rfl ?_
    refine J_iald (am_d170 rfl) rfl (vp_in_nI hf (by decide)) ?_
    rw [nI_c (n := f) (by omega)]
    show am_J X _ 170 25 _ (.int (M 155 f) :: _) _ N
    rw [f3, en]
    refine J_b 3 am_d170 rfl ?_
    refine J_iald (am_d170 rfl) rfl (vp_in_nI hc (by decide)) ?_
    rw [nI_c (n := c) (by omega)]
    show am_J X _ 170 31 _ (.int (M 139 c) :: _) _ N
    rw [a4]
    refine J_b 3 am_d170 rfl ?_
    refine J_iald (am_d170 rfl) rfl (vp_in_nI hf (by decide)) ?_
    rw [nI_c (n := f) (by omega)]
    show am_J X _ 170 37 _ (.int (M 156 f) :: _) _ N
    rw [f4]
    refine J_b 3 am_d170 rfl ?_
    refine J_iald (am_d170 rfl) rfl (vp_in_nI hf (by decide)) ?_
    rw [nI_c (n := f) (by omega)]
    show am_J X _ 170 43 _ (.int (M 157 f) :: _) _ N
    rw [f5]
    refine J_V4s 172 (am_d170 rfl) rfl rfl (hfd) ?_
    exact J_iret (am_d170 rfl) rfl rfl ⟨by unfold w_of c_wt; rw [if_neg h6, hnm, hv], ⟨_, rfl⟩, rfl⟩
  · refine J_b 1 am_d170 rfl ?_
    exact J_iret (am_d170 rfl) rfl rfl ⟨by unfold w_of c_wt; rw [if_pos h6]; rfl, rd_0, rfl⟩
theorem sh54 : ∀ c, c < 5 → am_SH[54 + c]? = some (.inl (0, 720)) := by
  intro c hc
  match c, hc with
  | 0, _ => rfl
  | 1, _ => rfl
  | 2, _ => rfl
  | 3, _ => rfl
  | 4, _ => rfl
  | (n + 5), h => exact absurd h (by omega)
theorem sp71 {X : am_X} {M : am_M} {N N0 : am_N} {c0 f c : Nat} (h : iv c0 M N0) (hk : M 52 4 = M 1 11) (hf : f < 16) (hc : c < 5) (hfs : (f : Int) < (M 32 7).toInt) (hcs : (c : Int) < (M 18 7).toInt) : am_J X (am_eq (some (.int (w_of M f c))) M N) 71 0 (am_en 71 [.ref 59, .int (nI f), .int (nI c)]) [] M N := by
  obtain ⟨⟨⟨hs, hb⟩, ⟨hca, hcb⟩, ⟨hna, hnb⟩, ⟨hfi, hfb⟩⟩, _, hcc, hch, hkl, hkd⟩ := h
  have hkl := hkl hk c hcs
  have hcc := hcc f c hfs hcs
  have bn := hfb.2.1 f
  unfold b_in at bn
  have in5 := I_cl bn.1
  have en := I_nI bn.1
  generalize hnm : (M 35 f).toNatClampNeg = nm at en in5
  obtain ⟨x0, x1, y0, y1, ⟨e27, e28, e29, e30⟩, k1, k2, k3, k4⟩ := nb_e hnb nm
  have bm := hcb.2.2.2.2.1 c
  have bf := hfb.2.2.1 f
  have bt := hfb.2.2.2.1 f
  unfold b_in at bm bf bt
  have hfd := sp72 (X := X) (N := N) (M := M) (k := 54 + c) (nm := nm) (a4 := M 36 f - M 22 c) (b4 := M 37 f - M 22 c) (sh54 c hc) (by omega) e27 e28 e29 e30 k1 k2 k3 k4
  rw [I_sub (by omega), I_sub (by omega)] at hfd
  have hv : c_fw (M (54 + c)) (nI x0) (nI x1) (nI y0) (nI y1) ((M 36 f).toInt - (M 22 c).toInt) ((M 37 f).toInt - (M 22 c).toInt) = c_fw (c_cf (sC M) M (M 17) c) (M 27 nm) (M 28 nm) (M 29 nm) (M 30 nm) ((M 36 f).toInt - (M 22 c).toInt) ((M 37 f).toInt - (M 22 c).toInt) := by
    rw [e27, e28, e29, e30]
    have j1 := nI_i (n := x0) (by omega)
    have j2 := nI_i (n := x1) (by omega)
    have j3 := nI_i (n := y0) (by omega)
    have j4 := nI_i (n := y1) (by omega)
    exact fw_c (by omega) (by omega) hkl
  refine J_en (L := [.ref 59, .int (nI f), .int (nI c), .retAddr 0]) rfl ?_
  refine J_b 3 am_d71 rfl ?_
  refine J_aaldk (61 + f) (am_d71 rfl) rfl (vp_in_nI hf (by decide)) (by rw [nI_c (by omega)]) ?_
  refine J_b 1 am_d71 rfl ?_
  refine J_iald (am_d71 rfl) (sh61 f hf) (vp_in_nI hc (by decide)) ?_
  rw [nI_c (n := c) (by omega), hcc]
  refine J_if_ne 13 (am_d71 rfl) rfl (fun h8 => ?_) (fun h8 => ?_)
  · refine J_b 4 am_d71 rfl ?_
    refine J_iald (am_d71 rfl) rfl (vp_in_nI hc (by decide)) ?_
    rw [nI_c (n := c) (by omega)]
    show am_J X _ 71 22 _ (.int (M 22 c) :: _) _ N
    refine J_b 7 am_d71 rfl ?_
    refine J_aaldk (54 + c) (am_d71 rfl) rfl (vp_in_nI hc (by decide)) (by rw [nI_c (by omega)]) ?_
    refine J_b 4 am_d71 rfl ?_
    refine J_iald (am_d71 rfl) rfl (vp_in_nI hf (by decide)) ?_
    rw [nI_c (n := f) (by omega)]
    show am_J X _ 71 45 _ (.int (M 35 f) :: _) _ N
    rw [en]
    refine J_b 4 am_d71 rfl ?_
    refine J_iald (am_d71 rfl) rfl (vp_in_nI hf (by decide)) ?_
    rw [nI_c (n := f) (by omega)]
    show am_J X _ 71 54 _ (.int (M 36 f) :: _) _ N
    refine J_b 6 am_d71 rfl ?_
    refine J_iald (am_d71 rfl) rfl (vp_in_nI hf (by decide)) ?_
    rw [nI_c (n := f) (by omega)]
    show am_J X _ 71 65 _ (.int (M 37 f) :: _) _ N
    refine J_b 2 am_d71 rfl ?_
    refine J_V4s 72 (am_d71 rfl) rfl rfl (hfd) ?_
    exact J_iret (am_d71 rfl) rfl rfl ⟨by unfold w_of c_wt; rw [if_neg h8, hnm, hv], rfl, rfl⟩
  · refine J_b 1 am_d71 rfl ?_
    exact J_iret (am_d71 rfl) rfl rfl ⟨by unfold w_of c_wt; rw [if_pos h8]; rfl, rfl, rfl⟩
theorem w_md {M M' : am_M} (h : md M M') {f c : Nat} : w_of M' f c = w_of M f c := wt_md h
