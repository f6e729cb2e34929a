/-! ===== the reference's drift: months ===== -/
theorem k_36r {M : am_M} {m p : Nat} (hb : e_b (sR M)) : c_k (sR M) m p < 36 ∧ (Int8.ofInt 12).toInt32 * M 122 p + nI (m % 12) = nI (c_k (sR M) m p) ∧ vp_in (M 122 p) 3 := by
  have h : b_in (M 122 p) 0 2 := hb.1 p
  unfold b_in at h
  have h1 := I_cl h.1
  have l12 : m % 12 < 12 := Nat.mod_lt _ (by decide)
  have e0 : M 122 p = nI (M 122 p).toNatClampNeg := I_nI h.1
  have ek : c_k (sR M) m p = 12 * (M 122 p).toNatClampNeg + m % 12 := rfl
  have e1 : (Int8.ofInt 12).toInt32 * M 122 p = nI (12 * (M 122 p).toNatClampNeg) := by
    rw [show (Int8.ofInt 12).toInt32 = nI 12 from rfl, ← nI_mul, ← e0]
  refine ⟨by rw [ek]; omega, ?_, vp_of (by omega)⟩
  rw [e1, nI_add, ek]
theorem sp157b {X : am_X} {M : am_M} {N : am_N} {k w : Int32} : am_J X (am_eq (some (.int (c_fl k w))) M N) 157 0 (am_en 157 [.int k, .int w]) [] M N := sp157
theorem wd_r0 {M : am_M} {m : Nat} (h : M 135 (m % 48) = 0) : c_wd (sR M) 9 12 m = M 131 (m % 12) ∧ c_wd (sR M) 10 13 m = M 132 (m % 12) := ⟨if_pos h, if_pos h⟩
theorem wd_r1 {M : am_M} {m : Nat} (h : ¬ M 135 (m % 48) = 0) : c_wd (sR M) 9 12 m = M 133 (m % 48) ∧ c_wd (sR M) 10 13 m = M 134 (m % 48) := by
  unfold c_wd
  constructor
  · rw [if_neg (show ¬ sR M 11 (m % 48) = 0 from h)]
    exact if_neg h
  · rw [if_neg (show ¬ sR M 11 (m % 48) = 0 from h)]
    exact if_neg h
theorem wd_er {E : am_M} {m : Nat} (h : e_b E) : b_in (c_wd E 9 12 m) (-3) 3 ∧ b_in (c_wd E 10 13 m) (-3) 3 := ⟨wd_b h.2.2.1 h.2.2.2.2.1, wd_b h.2.2.2.1 h.2.2.2.2.2⟩
theorem sp156 {X : am_X} {M : am_M} {N : am_N} {st : am_M} {kd : Int32} {m p : Nat} (hp : p < 60) (hm : m < 1000) (hb : e_b (sR M)) (hk : b_in kd 0 3) (hsh : ∀ j, b_in (M 130 j) (-1) 1) : am_J X (am_eq (none) (dr_R M (c_go (sR M) (M 130) kd m p st)) N) 156 0 (am_en 156 [.ref 120, .int (nI p), .int kd, .int (nI m)]) [] (dr_R M st) N := by
  have e12 : nI m - nI m / (Int8.ofInt 12).toInt32 * (Int8.ofInt 12).toInt32 = nI (m % 12) := nI_remn (by omega) (by decide) (by decide) rfl
  have e48 : nI m - nI m / (Int8.ofInt 48).toInt32 * (Int8.ofInt 48).toInt32 = nI (m % 48) := nI_remn (by omega) (by decide) (by decide) rfl
  have l12 : m % 12 < 12 := Nat.mod_lt _ (by decide)
  have l48 : m % 48 < 48 := Nat.mod_lt _ (by decide)
  obtain ⟨hk1, hk2, hr⟩ := k_36r (m := m) (p := p) hb
  have hew := fl_b hk (wd_er (m := m) hb).1
  have hnw := fl_b hk (wd_er (m := m) hb).2
  obtain ⟨b1, ⟨b2, b3, b4, b5⟩, b6, b7, b8, b9⟩ := hb
  have be : b_in ((c_fl kd (c_wd (sR M) 9 12 m)) + M 130 (M 122 p).toNatClampNeg) (-7) 7 := b_add hew (hsh (M 122 p).toNatClampNeg) (by decide) (by decide)
  have he1 : b_in (M 126 (c_k (sR M) m p) + ((c_fl kd (c_wd (sR M) 9 12 m)) + M 130 (M 122 p).toNatClampNeg)) (-20) 20 := b_add (b2 _) be (by decide) (by decide)
  have he2 : b_in (M 127 (c_k (sR M) m p) + ((c_fl kd (c_wd (sR M) 9 12 m)) + M 130 (M 122 p).toNatClampNeg)) (-20) 20 := b_add (b3 _) be (by decide) (by decide)
  have he3 : b_in ((M 126 (c_k (sR M) m p) + M 127 (c_k (sR M) m p)) / 2 + ((c_fl kd (c_wd (sR M) 9 12 m)) + M 130 (M 122 p).toNatClampNeg)) (-20) 20 := b_add (dv_b (b_add (b2 _) (b3 _) (by decide) (by decide))) be (by decide) (by decide)
  have hn1 : b_in (M 128 (c_k (sR M) m p) + (c_fl kd (c_wd (sR M) 10 13 m))) (-20) 20 := b_add (b4 _) hnw (by decide) (by decide)
  have hn2 : b_in (M 129 (c_k (sR M) m p) + (c_fl kd (c_wd (sR M) 10 13 m))) (-20) 20 := b_add (b5 _) hnw (by decide) (by decide)
  have hn3 : b_in ((M 128 (c_k (sR M) m p) + M 129 (c_k (sR M) m p)) / 2 + (c_fl kd (c_wd (sR M) 10 13 m))) (-20) 20 := b_add (dv_b (b_add (b4 _) (b5 _) (by decide) (by decide))) hnw (by decide) (by decide)
  refine J_en (L := [.ref 120, .int (nI p), .int kd, .int (nI m), .retAddr 0, .retAddr 0, .retAddr 0, .retAddr 0, .retAddr 0, .retAddr 0, .retAddr 0]) rfl ?_
  refine J_b 3 am_d156 rfl ?_
  refine J_iald (am_d156 rfl) rfl (vp_in_nI hp (by decide)) ?_
  rw [nI_c (n := p) (by omega)]
  show am_J X _ 156 6 _ (.int (st 1 p) :: _) _ N
  refine J_b 4 am_d156 rfl ?_
  rw [e12]
  refine J_b 1 am_d156 rfl ?_
  show am_J X _ 156 14 [.ref 120, .int (nI p), .int kd, .int (nI m), .int (st 1 p), .int (nI (m % 12)), .retAddr 0, .retAddr 0, .retAddr 0, .retAddr 0, .retAddr 0] [] _ N
  refine J_b 1 am_d156 rfl ?_
  refine J_if_ne 20 (am_d156 rfl) rfl (fun h16 => ?_) (fun h16 => ?_)
  · refine J_b 3 am_d156 rfl ?_
    refine J_iald (am_d156 rfl) rfl (vp_in_nI hp (by decide)) ?_
    rw [nI_c (n := p) (by omega)]
    show am_J X _ 156 26 _ (.int (M 125 p) :: _) _ N
    refine J_b 5 am_d156 rfl ?_
    refine J_icmp_ne 47 (am_d156 rfl) rfl (fun h32 => ?_) (fun h32 => ?_)
    · have hc : ¬ c_icy (sR M) m p := fun z => h32 z
      refine J_b 4 am_d156 rfl ?_
      refine J_iald (am_d156 rfl) rfl (vp_in_nI hp (by decide)) ?_
      rw [nI_c (n := p) (by omega)]
      show am_J X _ 156 55 _ (.int (M 122 p) :: _) _ N
      refine J_b 2 am_d156 rfl ?_
      refine J_b 1 am_d156 rfl ?_
      show am_J X _ 156 59 _ [.int ((Int8.ofInt 12).toInt32 * M 122 p + nI (m % 12))] _ N
      rw [hk2]
      refine J_b 6 am_d156 rfl ?_
      rw [e48]
      refine J_zald (am_d156 rfl) rfl (vp_in_nI l48 (by decide)) ?_
      rw [nI_c (n := m % 48) (by omega)]
      refine J_b 1 am_d156 rfl ?_
      show am_J X _ 156 72 [.ref 120, .int (nI p), .int kd, .int (nI m), .int (st 1 p), .int (nI (m % 12)), .int (nI (c_k (sR M) m p)), .int (M 135 (m % 48)), .retAddr 0, .retAddr 0, .retAddr 0] [] _ N
      by_cases h0 : M 135 (m % 48) = 0
      · have hw := wd_r0 h0
        refine J_b 5 am_d156 rfl ?_
        refine J_iald (am_d156 rfl) rfl (vp_in_nI hp (by decide)) ?_
        rw [nI_c (n := p) (by omega)]
        show am_J X _ 156 82 _ (.int (M 122 p) :: _) _ N
        refine J_iald (am_d156 rfl) rfl hr ?_
        show am_J X _ 156 83 _ (.int (M 130 (M 122 p).toNatClampNeg) :: _) _ N
        refine J_b 2 am_d156 rfl ?_
        refine J_if_eq 101 (am_d156 rfl) rfl (fun h86 => ?_) (fun h86 => absurd (h0) h86)
        refine J_b 3 am_d156 rfl ?_
        refine J_iald (am_d156 rfl) rfl (vp_in_nI l12 (by decide)) ?_
        rw [nI_c (n := m % 12) (by omega)]
        show am_J X _ 156 108 _ (.int (M 131 (m % 12)) :: _) _ N
        rw [← hw.1]
        refine J_S2s 157 (am_d156 rfl) rfl rfl (sp157b) ?_
        refine J_b 1 am_d156 rfl ?_
        rw [Int32.add_comm (M 130 (M 122 p).toNatClampNeg)]
        refine J_b 1 am_d156 rfl ?_
        show am_J X _ 156 114 [.ref 120, .int (nI p), .int kd, .int (nI m), .int (st 1 p), .int (nI (m % 12)), .int (nI (c_k (sR M) m p)), .int (M 135 (m % 48)), .int ((c_fl kd (c_wd (sR M) 9 12 m)) + M 130 (M 122 p).toNatClampNeg), .retAddr 0, .retAddr 0] [] _ N
        refine J_b 2 am_d156 rfl ?_
        refine J_if_eq 132 (am_d156 rfl) rfl (fun h117 => ?_) (fun h117 => absurd (h0) h117)
        refine J_b 3 am_d156 rfl ?_
        refine J_iald (am_d156 rfl) rfl (vp_in_nI l12 (by decide)) ?_
        rw [nI_c (n := m % 12) (by omega)]
        show am_J X _ 156 139 _ (.int (M 132 (m % 12)) :: _) _ N
        rw [← hw.2]
        refine J_S2s 157 (am_d156 rfl) rfl rfl (sp157b) ?_
        refine J_b 5 am_d156 rfl ?_
        show am_J X _ 156 150 [.ref 120, .int (nI p), .int kd, .int (nI m), .int (st 1 p), .int (nI (m % 12)), .int (nI (c_k (sR M) m p)), .int (M 135 (m % 48)), .int ((c_fl kd (c_wd (sR M) 9 12 m)) + M 130 (M 122 p).toNatClampNeg), .int (c_fl kd (c_wd (sR M) 10 13 m)), .int (st 1 p / 4)] [] _ N
        refine J_b 1 am_d156 rfl ?_
        refine J_b 5 am_d156 rfl ?_
        refine J_iald (am_d156 rfl) rfl (vp_in_nI hk1 (by decide)) ?_
        rw [nI_c (n := (c_k (sR M) m p)) (by omega)]
        show am_J X _ 156 161 _ (.int (M 126 (c_k (sR M) m p)) :: _) _ N
        refine J_b 5 am_d156 rfl ?_
        refine J_iald (am_d156 rfl) rfl (vp_in_nI hk1 (by decide)) ?_
        rw [nI_c (n := (c_k (sR M) m p)) (by omega)]
        show am_J X _ 156 171 _ (.int (M 128 (c_k (sR M) m p)) :: _) _ N
        refine J_b 2 am_d156 rfl ?_
        refine J_V4n 158 (am_d156 rfl) rfl rfl (sp158 hp he1 hn1) ?_
        refine J_b 6 am_d156 rfl ?_
        refine J_iald (am_d156 rfl) rfl (vp_in_nI hk1 (by decide)) ?_
        rw [nI_c (n := (c_k (sR M) m p)) (by omega)]
        show am_J X _ 156 188 _ (.int (M 127 (c_k (sR M) m p)) :: _) _ N
        refine J_b 5 am_d156 rfl ?_
        refine J_iald (am_d156 rfl) rfl (vp_in_nI hk1 (by decide)) ?_
        rw [nI_c (n := (c_k (sR M) m p)) (by omega)]
        show am_J X _ 156 198 _ (.int (M 129 (c_k (sR M) m p)) :: _) _ N
        refine J_b 2 am_d156 rfl ?_
        refine J_V4n 158 (am_d156 rfl) rfl rfl (sp158 hp he2 hn2) ?_
        refine J_b 10 am_d156 rfl ?_
        refine J_iald (am_d156 rfl) rfl (vp_in_nI hk1 (by decide)) ?_
        rw [nI_c (n := (c_k (sR M) m p)) (by omega)]
        show am_J X _ 156 220 _ (.int (M 126 (c_k (sR M) m p)) :: _) _ N
        refine J_b 3 am_d156 rfl ?_
        refine J_iald (am_d156 rfl) rfl (vp_in_nI hk1 (by decide)) ?_
        rw [nI_c (n := (c_k (sR M) m p)) (by omega)]
        show am_J X _ 156 227 _ (.int (M 127 (c_k (sR M) m p)) :: _) _ N
        refine J_b 8 am_d156 rfl ?_
        refine J_iald (am_d156 rfl) rfl (vp_in_nI hk1 (by decide)) ?_
        rw [nI_c (n := (c_k (sR M) m p)) (by omega)]
        show am_J X _ 156 240 _ (.int (M 128 (c_k (sR M) m p)) :: _) _ N
        refine J_b 3 am_d156 rfl ?_
        refine J_iald (am_d156 rfl) rfl (vp_in_nI hk1 (by decide)) ?_
        rw [nI_c (n := (c_k (sR M) m p)) (by omega)]
        show am_J X _ 156 247 _ (.int (M 129 (c_k (sR M) m p)) :: _) _ N
        refine J_b 5 am_d156 rfl ?_
        refine J_V4n 158 (am_d156 rfl) rfl rfl (sp158 hp he3 hn3) ?_
        exact J_ret (am_d156 rfl) rfl ⟨rfl, by rw [go_2 h16 hc]; rfl, rfl⟩
      · have hw := wd_r1 h0
        refine J_b 5 am_d156 rfl ?_
        refine J_iald (am_d156 rfl) rfl (vp_in_nI hp (by decide)) ?_
        rw [nI_c (n := p) (by omega)]
        show am_J X _ 156 82 _ (.int (M 122 p) :: _) _ N
        refine J_iald (am_d156 rfl) rfl hr ?_
        show am_J X _ 156 83 _ (.int (M 130 (M 122 p).toNatClampNeg) :: _) _ N
        refine J_b 2 am_d156 rfl ?_
        refine J_if_eq 101 (am_d156 rfl) rfl (fun h86 => absurd h86 h0) (fun h86 => ?_)
        refine J_b 5 am_d156 rfl ?_
        rw [e48]
        refine J_iald (am_d156 rfl) rfl (vp_in_nI l48 (by decide)) ?_
        rw [nI_c (n := m % 48) (by omega)]
        show am_J X _ 156 98 _ (.int (M 133 (m % 48)) :: _) _ N
        rw [← hw.1]
        refine J_b 1 am_d156 rfl ?_
        refine J_S2s 157 (am_d156 rfl) rfl rfl (sp157b) ?_
        refine J_b 1 am_d156 rfl ?_
        rw [Int32.add_comm (M 130 (M 122 p).toNatClampNeg)]
        refine J_b 1 am_d156 rfl ?_
        show am_J X _ 156 114 [.ref 120, .int (nI p), .int kd, .int (nI m), .int (st 1 p), .int (nI (m % 12)), .int (nI (c_k (sR M) m p)), .int (M 135 (m % 48)), .int ((c_fl kd (c_wd (sR M) 9 12 m)) + M 130 (M 122 p).toNatClampNeg), .retAddr 0, .retAddr 0] [] _ N
        refine J_b 2 am_d156 rfl ?_
        refine J_if_eq 132 (am_d156 rfl) rfl (fun h117 => absurd h117 h0) (fun h117 => ?_)
        refine J_b 5 am_d156 rfl ?_
        rw [e48]
        refine J_iald (am_d156 rfl) rfl (vp_in_nI l48 (by decide)) ?_
        rw [nI_c (n := m % 48) (by omega)]
        show am_J X _ 156 129 _ (.int (M 134 (m % 48)) :: _) _ N
        rw [← hw.2]
        refine J_b 1 am_d156 rfl ?_
        refine J_S2s 157 (am_d156 rfl) rfl rfl (sp157b) ?_
        refine J_b 5 am_d156 rfl ?_
        show am_J X _ 156 150 [.ref 120, .int (nI p), .int kd, .int (nI m), .int (st 1 p), .int (nI (m % 12)), .int (nI (c_k (sR M) m p)), .int (M 135 (m % 48)), .int ((c_fl kd (c_wd (sR M) 9 12 m)) + M 130 (M 122 p).toNatClampNeg), .int (c_fl kd (c_wd (sR M) 10 13 m)), .int (st 1 p / 4)] [] _ N
        refine J_b 1 am_d156 rfl ?_
        refine J_b 5 am_d156 rfl ?_
        refine J_iald (am_d156 rfl) rfl (vp_in_nI hk1 (by decide)) ?_
        rw [nI_c (n := (c_k (sR M) m p)) (by omega)]
        show am_J X _ 156 161 _ (.int (M 126 (c_k (sR M) m p)) :: _) _ N
        refine J_b 5 am_d156 rfl ?_
        refine J_iald (am_d156 rfl) rfl (vp_in_nI hk1 (by decide)) ?_
        rw [nI_c (n := (c_k (sR M) m p)) (by omega)]
        show am_J X _ 156 171 _ (.int (M 128 (c_k (sR M) m p)) :: _) _ N
        refine J_b 2 am_d156 rfl ?_
        refine J_V4n 158 (am_d156 rfl) rfl rfl (sp158 hp he1 hn1) ?_
        refine J_b 6 am_d156 rfl ?_
        refine J_iald (am_d156 rfl) rfl (vp_in_nI hk1 (by decide)) ?_
        rw [nI_c (n := (c_k (sR M) m p)) (by omega)]
        show am_J X _ 156 188 _ (.int (M 127 (c_k (sR M) m p)) :: _) _ N
        refine J_b 5 am_d156 rfl ?_
        refine J_iald (am_d156 rfl) rfl (vp_in_nI hk1 (by decide)) ?_
        rw [nI_c (n := (c_k (sR M) m p)) (by omega)]
        show am_J X _ 156 198 _ (.int (M 129 (c_k (sR M) m p)) :: _) _ N
        refine J_b 2 am_d156 rfl ?_
        refine J_V4n 158 (am_d156 rfl) rfl rfl (sp158 hp he2 hn2) ?_
        refine J_b 10 am_d156 rfl ?_
        refine J_iald (am_d156 rfl) rfl (vp_in_nI hk1 (by decide)) ?_
        rw [nI_c (n := (c_k (sR M) m p)) (by omega)]
        show am_J X _ 156 220 _ (.int (M 126 (c_k (sR M) m p)) :: _) _ N
        refine J_b 3 am_d156 rfl ?_
        refine J_iald (am_d156 rfl) rfl (vp_in_nI hk1 (by decide)) ?_
        rw [nI_c (n := (c_k (sR M) m p)) (by omega)]
        show am_J X _ 156 227 _ (.int (M 127 (c_k (sR M) m p)) :: _) _ N
        refine J_b 8 am_d156 rfl ?_
        refine J_iald (am_d156 rfl) rfl (vp_in_nI hk1 (by decide)) ?_
        rw [nI_c (n := (c_k (sR M) m p)) (by omega)]
        show am_J X _ 156 240 _ (.int (M 128 (c_k (sR M) m p)) :: _) _ N
        refine J_b 3 am_d156 rfl ?_
        refine J_iald (am_d156 rfl) rfl (vp_in_nI hk1 (by decide)) ?_
        rw [nI_c (n := (c_k (sR M) m p)) (by omega)]
        show am_J X _ 156 247 _ (.int (M 129 (c_k (sR M) m p)) :: _) _ N
        refine J_b 5 am_d156 rfl ?_
        refine J_V4n 158 (am_d156 rfl) rfl rfl (sp158 hp he3 hn3) ?_
        exact J_ret (am_d156 rfl) rfl ⟨rfl, by rw [go_2 h16 hc]; rfl, rfl⟩
    · have hc : c_icy (sR M) m p := h32
      refine J_b 4 am_d156 rfl ?_
      refine J_iald (am_d156 rfl) rfl (vp_in_nI hp (by decide)) ?_
      rw [nI_c (n := p) (by omega)]
      show am_J X _ 156 42 _ (.int (st 2 p) :: _) _ N
      refine J_b 2 am_d156 rfl ?_
      refine J_iast (am_d156 rfl) rfl (vp_in_nI hp (by decide)) ?_
      exact J_ret (am_d156 rfl) rfl ⟨rfl, by rw [nI_c (n := p) (by omega), R_u2, go_1 h16 hc], rfl⟩
  · exact J_ret (am_d156 rfl) rfl ⟨rfl, by rw [go_0 h16], rfl⟩
