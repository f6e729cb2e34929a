/-! ===== prizes paid: the class, a find; the reference, a find ===== -/
theorem wo_F {M : am_M} {F G : Nat → Int32} {P : Nat} (hpz : pz M P) (h : ∀ k, k < 5 → F k = G k) : c_wo M F P = c_wo M G P := by
  obtain ⟨hP, eP, hp⟩ := hpz
  refine smI_congr (fun p hpp => ?_)
  obtain ⟨T, eT, hT, hw⟩ := hp p hpp
  have e : c_hd M F p ↔ c_hd M G p := by
    unfold c_hd
    refine forall_congr' (fun t => ?_)
    constructor
    · intro z ht
      have := z ht
      have ht2 := ht
      rw [eT, nI_c (by omega)] at ht2
      have hb := (hw t ht2).1
      unfold b_in at hb
      have ic := I_cl hb.1
      unfold c_th at this ⊢
      rw [← h _ (by omega)]
      exact this
    · intro z ht
      have := z ht
      have ht2 := ht
      rw [eT, nI_c (by omega)] at ht2
      have hb := (hw t ht2).1
      unfold b_in at hb
      have ic := I_cl hb.1
      unfold c_th at this ⊢
      rw [h _ (by omega)]
      exact this
  by_cases hc : c_hd M F p
  · rw [if_pos hc, if_pos (e.mp hc)]
  · rw [if_neg hc, if_neg (fun z => hc (e.mpr z))]
theorem wo_sc {M M' : am_M} {F : Nat → Int32} {P : Nat} (h : md M M') : c_wo M' F P = c_wo M F P := by
  unfold c_wo c_hd c_th
  rw [h.1 113 (by unfold rg_r sc_r; omega), h.1 114 (by unfold rg_r sc_r; omega), h.1 115 (by unfold rg_r sc_r; omega), h.1 116 (by unfold rg_r sc_r; omega), h.1 117 (by unfold rg_r sc_r; omega), h.1 118 (by unfold rg_r sc_r; omega)]
theorem fa_md {M M' : am_M} (h : md M M') {f c k : Nat} : fa M' f c k = fa M f c k := by
  unfold fa
  rw [h.1 22 (by unfold rg_r sc_r; omega), h.1 36 (by unfold rg_r sc_r; omega), h.1 23 (by unfold rg_r sc_r; omega), h.1 27 (by unfold rg_r sc_r; omega), h.1 28 (by unfold rg_r sc_r; omega), h.1 29 (by unfold rg_r sc_r; omega), h.1 30 (by unfold rg_r sc_r; omega), h.1 35 (by unfold rg_r sc_r; omega), h.1 19 (by unfold rg_r sc_r; omega), h.1 31 (by unfold rg_r sc_r; omega), w_md h]
theorem py_md {M M' : am_M} (h : md M M') {S P f : Nat} : py M' S P f = py M S P f := by
  unfold py
  rw [t_md h, b_md h, wo_sc h, h.1 39 (by unfold rg_r sc_r; omega), show fa M' f (b_of M S f).toNatClampNeg = fa M f (b_of M S f).toNatClampNeg from funext fun k => fa_md h]
theorem fa_0 {a b : Int32} (ha : b_in a 0 60) (hb : b_in b 0 47) : i_mx 0 (a - b) = if b < a then a - b else 0 := by
  unfold b_in at ha hb
  have e : (a - b).toInt = a.toInt - b.toInt := I_sub (by omega)
  have z0 : (0 : Int32).toInt = 0 := rfl
  unfold i_mx
  by_cases h : b < a
  · have h2 := Int32.lt_iff_toInt_lt.mp h
    rw [if_pos h, if_pos (Int32.lt_iff_toInt_lt.mpr (by omega))]
  · have h2 : ¬ b.toInt < a.toInt := fun z => h (Int32.lt_iff_toInt_lt.mpr z)
    rw [if_neg h, if_neg (fun z => by have := Int32.lt_iff_toInt_lt.mp z; omega)]
theorem sp126 {X : am_X} {M : am_M} {N : am_N} {N0 : am_N} {c0 f S P : Nat} (h : iv c0 M N0) (hk : M 52 4 = M 1 11) (hf : f < 16) (hfs : (f : Int) < (M 32 7).toInt) (eS : M 18 7 = nI S) (hS : S ≤ 5) (hpz : pz M P) : am_J X (q_p (some (.int (py M S P f))) (fun M1 _ => sc_ok M M1)) 126 0 (am_en 126 [.ref 0, .int (nI f)]) [] M N := by
  refine J_en (L := [.ref 0, .int (nI f), .retAddr 0, .retAddr 0]) rfl ?_
  refine J_b 4 am_d126 rfl ?_
  refine J_zald (am_d126 rfl) rfl (vp_in_nI hf (by decide)) ?_
  rw [nI_c (n := f) (by omega)]
  refine J_if_ne 24 (am_d126 rfl) rfl (fun h9 => ?_) (fun h9 => ?_)
  · refine J_b 1 am_d126 rfl ?_
    exact J_iret (am_d126 rfl) rfl rfl ⟨by unfold py; rw [if_neg (fun z => h9 z.1)]; rfl, sc_0⟩
  · refine J_b 3 am_d126 rfl ?_
    refine J_V1s 81 (am_d126 rfl) rfl rfl (sp81 hf) ?_
    refine J_b 1 am_d126 rfl ?_
    refine J_icmp_eq 26 (am_d126 rfl) rfl (fun h21 => ?_) (fun h21 => ?_)
    · refine J_b 3 am_d126 rfl ?_
      refine J_V1s 77 (am_d126 rfl) rfl rfl (sp77 h hk hf hfs eS hS) ?_
      refine J_b 2 am_d126 rfl ?_
      refine J_if_ge 41 (am_d126 rfl) rfl (fun h36 => ?_) (fun h36 => ?_)
      · obtain ⟨k, hkS, ek⟩ := b_nn hS h36
        have hk5 : k < 5 := by omega
        rw [ek]
        have bn := h.1.2.2.2.2.2.1 f
        unfold b_in at bn
        have in5 := I_cl bn.1
        have en := I_nI bn.1
        generalize hnm : (M 35 f).toNatClampNeg = nm at en in5
        have hn6 : nm < 6 := by omega
        obtain ⟨x0, x1, y0, y1, ⟨e27, e28, e29, e30⟩, k1, k2, k3, k4⟩ := nb_e h.1.2.2.1.2 nm
        have hle := h.1.2.2.1.2.2.2.2.2.2 nm
        rw [e27, e28, e29, e30, nI_i (by omega), nI_i (by omega), nI_i (by omega), nI_i (by omega)] at hle
        have k5 : x0 ≤ x1 := by omega
        have k6 : y0 ≤ y1 := by omega
        have bm := h.1.2.1.2.2.2.2.2.1 k
        have bp := h.1.2.1.2.2.2.2.2.2.1 k
        have bf := h.1.2.2.2.2.2.2.1 f
        have ep := I_nI bp.1
        have ip := I_cl bp.1
        have bp2 := bp.2
        have n119 : ¬ sc_r 119 := by unfold sc_r; omega
        have hs4 : sc_ok M (am_up (am_up (am_up (am_up M 119 0 (fa M f k 0)) 119 1 (fa M f k 1)) 119 2 (fa M f k 2)) 119 3 (fa M f k 3)) := sc_t (sc_t (sc_t (sc_up n119 (by decide)) (sc_up n119 (by decide))) (sc_up n119 (by decide))) (sc_up n119 (by decide))
        have hs5 : sc_ok M (am_up (am_up (am_up (am_up (am_up M 119 0 (fa M f k 0)) 119 1 (fa M f k 1)) 119 2 (fa M f k 2)) 119 3 (fa M f k 3)) 119 4 (fa M f k 4)) := sc_t hs4 (sc_up n119 (by decide))
        refine J_b 4 am_d126 rfl ?_
        refine J_iald (am_d126 rfl) rfl (vp_in_nI hf (by decide)) ?_
        rw [nI_c (n := f) (by omega)]
        show am_J X _ 126 50 _ (.int (M 35 f) :: _) _ N
        rw [en]
        refine J_b 10 am_d126 rfl ?_
        refine J_iald (am_d126 rfl) rfl (vp_in_nI hf (by decide)) ?_
        rw [nI_c (n := f) (by omega)]
        show am_J X _ 126 69 _ (.int (M 36 f) :: _) _ N
        refine J_b 4 am_d126 rfl ?_
        refine J_iald (am_d126 rfl) rfl (vp_in_nI hk5 (by decide)) ?_
        rw [nI_c (n := k) (by omega)]
        show am_J X _ 126 78 _ (.int (M 22 k) :: _) _ N
        refine J_b 1 am_d126 rfl ?_
        refine J_S2s 73 (am_d126 rfl) rfl rfl sp73m ?_
        refine J_st5 (congrArg (fun z => ([.int z, .int 0, .ref 119] : am_V)) (fa_0 bf bm)) ?_
        refine J_iast (am_d126 rfl) rfl (am_vi rfl) ?_
        refine J_mem (show _ = am_up M 119 0 (fa M f k 0) from rfl) ?_
        refine J_b 10 am_d126 rfl ?_
        refine J_iald (am_d126 rfl) rfl (vp_in_nI hk5 (by decide)) ?_
        rw [nI_c (n := k) (by omega)]
        show am_J X _ 126 104 _ (.int (M 23 k) :: _) _ N
        rw [ep]
        refine J_b 1 am_d126 rfl ?_
        have qs := sp127 (X := X) (N := N) (M := am_up M 119 0 (fa M f k 0)) (p := (M 23 k).toNatClampNeg) (n := nm) (by omega) hn6 e27 e28 e29 e30 k1 k2 k3 k4 k5 k6
        rw [show c_by (nI ((M 23 k).toNatClampNeg / 6)) (nI x0) (nI x1) + c_by (nI ((M 23 k).toNatClampNeg % 6)) (nI y0) (nI y1) = fa M f k 1 from by unfold fa; rw [hnm, e27, e28, e29, e30]; rfl] at qs
        refine J_V2s 127 (am_d126 rfl) rfl rfl qs ?_
        refine J_iast (am_d126 rfl) rfl (am_vi rfl) ?_
        refine J_mem (show _ = am_up (am_up M 119 0 (fa M f k 0)) 119 1 (fa M f k 1) from rfl) ?_
        refine J_b 8 am_d126 rfl ?_
        refine J_iald (am_d126 rfl) rfl (vp_in_nI hk5 (by decide)) ?_
        rw [nI_c (n := k) (by omega)]
        show am_J X _ 126 126 _ (.int (M 19 k) :: _) _ N
        refine J_iast (am_d126 rfl) rfl (am_vi rfl) ?_
        refine J_mem (show _ = am_up (am_up (am_up M 119 0 (fa M f k 0)) 119 1 (fa M f k 1)) 119 2 (fa M f k 2) from rfl) ?_
        refine J_b 8 am_d126 rfl ?_
        refine J_iald (am_d126 rfl) rfl (vp_in_nI hn6 (by decide)) ?_
        rw [nI_c (n := nm) (by omega)]
        show am_J X _ 126 144 _ (.int (M 31 nm) :: _) _ N
        rw [show M 31 nm = fa M f k 3 from by unfold fa; rw [hnm]; rfl]
        refine J_iast (am_d126 rfl) rfl (am_vi rfl) ?_
        refine J_mem (show _ = am_up (am_up (am_up (am_up M 119 0 (fa M f k 0)) 119 1 (fa M f k 1)) 119 2 (fa M f k 2)) 119 3 (fa M f k 3) from rfl) ?_
        refine J_b 8 am_d126 rfl ?_
        have qw := sp71 (X := X) (N := N) (M := am_up (am_up (am_up (am_up M 119 0 (fa M f k 0)) 119 1 (fa M f k 1)) 119 2 (fa M f k 2)) 119 3 (fa M f k 3)) (iv_s0 h hs4 (N' := N0)) hk hf hk5 hfs (show (k : Int) < (M 18 7).toInt by rw [eS, nI_i (by omega)]; omega)
        rw [w_md (md_sc hs4)] at qw
        refine J_V2s 71 (am_d126 rfl) rfl rfl qw ?_
        refine J_b 2 am_d126 rfl ?_
        refine J_iast (am_d126 rfl) rfl (am_vi rfl) ?_
        refine J_mem (show _ = am_up (am_up (am_up (am_up (am_up M 119 0 (fa M f k 0)) 119 1 (fa M f k 1)) 119 2 (fa M f k 2)) 119 3 (fa M f k 3)) 119 4 (fa M f k 4) from rfl) ?_
        refine J_b 2 am_d126 rfl ?_
        have qz := sp129 (X := X) (N := N) (M := am_up (am_up (am_up (am_up (am_up M 119 0 (fa M f k 0)) 119 1 (fa M f k 1)) 119 2 (fa M f k 2)) 119 3 (fa M f k 3)) 119 4 (fa M f k 4)) (pz_sc (md_sc hs5) hpz)
        rw [wo_sc (md_sc hs5), wo_F hpz (G := fa M f k) (fun j hj => by match j, hj with | 0, _ => rfl | 1, _ => rfl | 2, _ => rfl | 3, _ => rfl | 4, _ => rfl | (n + 5), z => exact absurd z (by omega))] at qz
        refine J_V0s 129 (am_d126 rfl) rfl rfl qz ?_
        exact J_iret (am_d126 rfl) rfl rfl ⟨by unfold py; rw [if_pos ⟨h9, h21⟩, if_neg (Int32.not_lt.mpr h36), ek, nI_c (by omega)], hs5⟩
      · refine J_b 1 am_d126 rfl ?_
        exact J_iret (am_d126 rfl) rfl rfl ⟨by unfold py; rw [if_pos ⟨h9, h21⟩, if_pos (Int32.not_le.mp h36)]; rfl, sc_0⟩
    · refine J_b 1 am_d126 rfl ?_
      exact J_iret (am_d126 rfl) rfl rfl ⟨by unfold py; rw [if_neg (fun z => h21 z.2)]; rfl, sc_0⟩
theorem sp206b {X : am_X} {M : am_M} {N : am_N} {v a b : Int32} : am_J X (am_eq (some (.int (c_by v a b))) M N) 206 0 (am_en 206 [.int v, .int a, .int b]) [] M N := sp206
theorem sp205_0 {X : am_X} {M : am_M} {N : am_N} {N0 : am_N} {c0 f c nm x0 x1 y0 y1 : Nat} (h : iv c0 M N0) (hf : f < 16) (hc5 : c < 5) (en : M 35 f = nI nm) (hn6 : nm < 6) (e27 : M 27 nm = nI x0) (e28 : M 28 nm = nI x1) (e29 : M 29 nm = nI y0) (e30 : M 30 nm = nI y1) : am_J X (q_p (some (.int (fa M f c 0))) (fun M2 N2 => rd M M2 ∧ N2 = N)) 205 0 (am_en 205 [.ref 120, .int 0, .int (nI f), .int (nI c)]) [] M N := by
  obtain ⟨⟨a1, _, _, a4, a5, _, _⟩, _⟩ := h.1.2.1.1
  obtain ⟨⟨_, _, f3, f4, _, _, _⟩, _⟩ := h.1.2.2.2.1
  obtain ⟨⟨n1, n2, n3, n4, n5⟩, _⟩ := h.1.2.2.1.1
  have bp := h.1.2.1.2.2.2.2.2.2.1 c
  have ep := I_nI bp.1
  have ip := I_cl bp.1
  have bp2 := bp.2
  have hnm : (M 35 f).toNatClampNeg = nm := by rw [en, nI_c (by omega)]
  have e6 : nI (M 23 c).toNatClampNeg / (Int8.ofInt 6).toInt32 = nI ((M 23 c).toNatClampNeg / 6) := nI_divn (by omega) (by decide) (by decide) rfl
  have r6 : nI (M 23 c).toNatClampNeg - nI (M 23 c).toNatClampNeg / (Int8.ofInt 6).toInt32 * (Int8.ofInt 6).toInt32 = nI ((M 23 c).toNatClampNeg % 6) := nI_remn (by omega) (by decide) (by decide) rfl
  refine J_en (L := [.ref 120, .int 0, .int (nI f), .int (nI c), .retAddr 0]) rfl ?_
  refine J_b 3 am_d205 rfl ?_
  refine J_iald (am_d205 rfl) rfl (vp_in_nI hf (by decide)) ?_
  rw [nI_c (n := f) (by omega)]
  show am_J X _ 205 6 _ (.int (M 155 f) :: _) _ N
  rw [f3, en]
  refine J_b 2 am_d205 rfl ?_
  refine J_tsIn 40 (am_d205 rfl) (show ¬ (0 : Int32).toInt < 0 by decide) (show ¬ (3 : Int) < (0 : Int32).toInt by decide) rfl rfl ?_
  refine J_b 3 am_d205 rfl ?_
  refine J_iald (am_d205 rfl) rfl (vp_in_nI hf (by decide)) ?_
  rw [nI_c (n := f) (by omega)]
  show am_J X _ 205 46 _ (.int (M 156 f) :: _) _ N
  rw [f4]
  refine J_b 3 am_d205 rfl ?_
  refine J_iald (am_d205 rfl) rfl (vp_in_nI hc5 (by decide)) ?_
  rw [nI_c (n := c) (by omega)]
  show am_J X _ 205 52 _ (.int (M 139 c) :: _) _ N
  rw [a4]
  refine J_icmp_le 71 (am_d205 rfl) rfl (fun h52 => ?_) (fun h52 => ?_)
  · refine J_b 1 am_d205 rfl ?_
    exact J_iret (am_d205 rfl) rfl rfl ⟨congrArg (fun z => some (Value.int z)) (by unfold fa; first | exact (if_pos (Int32.not_le.mp h52)).symm | exact (if_neg (Int32.not_lt.mpr h52)).symm), rd_0, rfl⟩
  · refine J_b 3 am_d205 rfl ?_
    refine J_iald (am_d205 rfl) rfl (vp_in_nI hf (by decide)) ?_
    rw [nI_c (n := f) (by omega)]
    show am_J X _ 205 61 _ (.int (M 156 f) :: _) _ N
    rw [f4]
    refine J_b 3 am_d205 rfl ?_
    refine J_iald (am_d205 rfl) rfl (vp_in_nI hc5 (by decide)) ?_
    rw [nI_c (n := c) (by omega)]
    show am_J X _ 205 67 _ (.int (M 139 c) :: _) _ N
    rw [a4]
    refine J_b 2 am_d205 rfl ?_
    exact J_iret (am_d205 rfl) rfl rfl ⟨congrArg (fun z => some (Value.int z)) (by unfold fa; first | exact (if_pos (Int32.not_le.mp h52)).symm | exact (if_neg (Int32.not_lt.mpr h52)).symm), rd_0, rfl⟩
theorem sp205_1 {X : am_X} {M : am_M} {N : am_N} {N0 : am_N} {c0 f c nm x0 x1 y0 y1 : Nat} (h : iv c0 M N0) (hf : f < 16) (hc5 : c < 5) (en : M 35 f = nI nm) (hn6 : nm < 6) (e27 : M 27 nm = nI x0) (e28 : M 28 nm = nI x1) (e29 : M 29 nm = nI y0) (e30 : M 30 nm = nI y1) : am_J X (q_p (some (.int (fa M f c 1))) (fun M2 N2 => rd M M2 ∧ N2 = N)) 205 0 (am_en 205 [.ref 120, .int 1, .int (nI f), .int (nI c)]) [] M N := by
  obtain ⟨⟨a1, _, _, a4, a5, _, _⟩, _⟩ := h.1.2.1.1
  obtain ⟨⟨_, _, f3, f4, _, _, _⟩, _⟩ := h.1.2.2.2.1
  obtain ⟨⟨n1, n2, n3, n4, n5⟩, _⟩ := h.1.2.2.1.1
  have bp := h.1.2.1.2.2.2.2.2.2.1 c
  have ep := I_nI bp.1
  have ip := I_cl bp.1
  have bp2 := bp.2
  have hnm : (M 35 f).toNatClampNeg = nm := by rw [en, nI_c (by omega)]
  have e6 : nI (M 23 c).toNatClampNeg / (Int8.ofInt 6).toInt32 = nI ((M 23 c).toNatClampNeg / 6) := nI_divn (by omega) (by decide) (by decide) rfl
  have r6 : nI (M 23 c).toNatClampNeg - nI (M 23 c).toNatClampNeg / (Int8.ofInt 6).toInt32 * (Int8.ofInt 6).toInt32 = nI ((M 23 c).toNatClampNeg % 6) := nI_remn (by omega) (by decide) (by decide) rfl
  refine J_en (L := [.ref 120, .int 1, .int (nI f), .int (nI c), .retAddr 0]) rfl ?_
  refine J_b 3 am_d205 rfl ?_
  refine J_iald (am_d205 rfl) rfl (vp_in_nI hf (by decide)) ?_
  rw [nI_c (n := f) (by omega)]
  show am_J X _ 205 6 _ (.int (M 155 f) :: _) _ N
  rw [f3, en]
  refine J_b 2 am_d205 rfl ?_
  refine J_tsIn 73 (am_d205 rfl) (show ¬ (1 : Int32).toInt < 0 by decide) (show ¬ (3 : Int) < (1 : Int32).toInt by decide) rfl rfl ?_
  refine J_b 3 am_d205 rfl ?_
  refine J_iald (am_d205 rfl) rfl (vp_in_nI hc5 (by decide)) ?_
  rw [nI_c (n := c) (by omega)]
  show am_J X _ 205 79 _ (.int (M 140 c) :: _) _ N
  rw [a5, ep]
  refine J_b 5 am_d205 rfl ?_
  refine J_iald (am_d205 rfl) rfl (vp_in_nI hn6 (by decide)) ?_
  rw [nI_c (n := nm) (by omega)]
  show am_J X _ 205 89 _ (.int (M 148 nm) :: _) _ N
  rw [n1, e27, e6]
  refine J_b 3 am_d205 rfl ?_
  refine J_iald (am_d205 rfl) rfl (vp_in_nI hn6 (by decide)) ?_
  rw [nI_c (n := nm) (by omega)]
  show am_J X _ 205 96 _ (.int (M 149 nm) :: _) _ N
  rw [n2, e28]
  refine J_S3s 206 (am_d205 rfl) rfl rfl (sp206b) ?_
  refine J_b 3 am_d205 rfl ?_
  refine J_iald (am_d205 rfl) rfl (vp_in_nI hc5 (by decide)) ?_
  rw [nI_c (n := c) (by omega)]
  show am_J X _ 205 105 _ (.int (M 140 c) :: _) _ N
  rw [a5, ep]
  refine J_b 5 am_d205 rfl ?_
  refine J_iald (am_d205 rfl) rfl (vp_in_nI hn6 (by decide)) ?_
  rw [nI_c (n := nm) (by omega)]
  show am_J X _ 205 115 _ (.int (M 150 nm) :: _) _ N
  rw [n3, e29, r6]
  refine J_b 3 am_d205 rfl ?_
  refine J_iald (am_d205 rfl) rfl (vp_in_nI hn6 (by decide)) ?_
  rw [nI_c (n := nm) (by omega)]
  show am_J X _ 205 122 _ (.int (M 151 nm) :: _) _ N
  rw [n4, e30]
  refine J_S3s 206 (am_d205 rfl) rfl rfl (sp206b) ?_
  refine J_b 1 am_d205 rfl ?_
  exact J_iret (am_d205 rfl) rfl rfl ⟨congrArg (fun z => some (Value.int z)) (by unfold fa; rw [hnm, e27, e28, e29, e30, nI_c (n := (M 23 c).toNatClampNeg) (by omega)]; rfl), rd_0, rfl⟩
theorem sp205_2 {X : am_X} {M : am_M} {N : am_N} {N0 : am_N} {c0 f c nm x0 x1 y0 y1 : Nat} (h : iv c0 M N0) (hf : f < 16) (hc5 : c < 5) (en : M 35 f = nI nm) (hn6 : nm < 6) (e27 : M 27 nm = nI x0) (e28 : M 28 nm = nI x1) (e29 : M 29 nm = nI y0) (e30 : M 30 nm = nI y1) : am_J X (q_p (some (.int (fa M f c 2))) (fun M2 N2 => rd M M2 ∧ N2 = N)) 205 0 (am_en 205 [.ref 120, .int 2, .int (nI f), .int (nI c)]) [] M N := by
  obtain ⟨⟨a1, _, _, a4, a5, _, _⟩, _⟩ := h.1.2.1.1
  obtain ⟨⟨_, _, f3, f4, _, _, _⟩, _⟩ := h.1.2.2.2.1
  obtain ⟨⟨n1, n2, n3, n4, n5⟩, _⟩ := h.1.2.2.1.1
  have bp := h.1.2.1.2.2.2.2.2.2.1 c
  have ep := I_nI bp.1
  have ip := I_cl bp.1
  have bp2 := bp.2
  have hnm : (M 35 f).toNatClampNeg = nm := by rw [en, nI_c (by omega)]
  have e6 : nI (M 23 c).toNatClampNeg / (Int8.ofInt 6).toInt32 = nI ((M 23 c).toNatClampNeg / 6) := nI_divn (by omega) (by decide) (by decide) rfl
  have r6 : nI (M 23 c).toNatClampNeg - nI (M 23 c).toNatClampNeg / (Int8.ofInt 6).toInt32 * (Int8.ofInt 6).toInt32 = nI ((M 23 c).toNatClampNeg % 6) := nI_remn (by omega) (by decide) (by decide) rfl
  refine J_en (L := [.ref 120, .int 2, .int (nI f), .int (nI c), .retAddr 0]) rfl ?_
  refine J_b 3 am_d205 rfl ?_
  refine J_iald (am_d205 rfl) rfl (vp_in_nI hf (by decide)) ?_
  rw [nI_c (n := f) (by omega)]
  show am_J X _ 205 6 _ (.int (M 155 f) :: _) _ N
  rw [f3, en]
  refine J_b 2 am_d205 rfl ?_
  refine J_tsIn 127 (am_d205 rfl) (show ¬ (2 : Int32).toInt < 0 by decide) (show ¬ (3 : Int) < (2 : Int32).toInt by decide) rfl rfl ?_
  refine J_b 3 am_d205 rfl ?_
  refine J_iald (am_d205 rfl) rfl (vp_in_nI hc5 (by decide)) ?_
  rw [nI_c (n := c) (by omega)]
  show am_J X _ 205 133 _ (.int (M 136 c) :: _) _ N
  rw [a1]
  exact J_iret (am_d205 rfl) rfl rfl ⟨rfl, rd_0, rfl⟩
theorem sp205_3 {X : am_X} {M : am_M} {N : am_N} {N0 : am_N} {c0 f c nm x0 x1 y0 y1 : Nat} (h : iv c0 M N0) (hf : f < 16) (hc5 : c < 5) (en : M 35 f = nI nm) (hn6 : nm < 6) (e27 : M 27 nm = nI x0) (e28 : M 28 nm = nI x1) (e29 : M 29 nm = nI y0) (e30 : M 30 nm = nI y1) : am_J X (q_p (some (.int (fa M f c 3))) (fun M2 N2 => rd M M2 ∧ N2 = N)) 205 0 (am_en 205 [.ref 120, .int 3, .int (nI f), .int (nI c)]) [] M N := by
  obtain ⟨⟨a1, _, _, a4, a5, _, _⟩, _⟩ := h.1.2.1.1
  obtain ⟨⟨_, _, f3, f4, _, _, _⟩, _⟩ := h.1.2.2.2.1
  obtain ⟨⟨n1, n2, n3, n4, n5⟩, _⟩ := h.1.2.2.1.1
  have bp := h.1.2.1.2.2.2.2.2.2.1 c
  have ep := I_nI bp.1
  have ip := I_cl bp.1
  have bp2 := bp.2
  have hnm : (M 35 f).toNatClampNeg = nm := by rw [en, nI_c (by omega)]
  have e6 : nI (M 23 c).toNatClampNeg / (Int8.ofInt 6).toInt32 = nI ((M 23 c).toNatClampNeg / 6) := nI_divn (by omega) (by decide) (by decide) rfl
  have r6 : nI (M 23 c).toNatClampNeg - nI (M 23 c).toNatClampNeg / (Int8.ofInt 6).toInt32 * (Int8.ofInt 6).toInt32 = nI ((M 23 c).toNatClampNeg % 6) := nI_remn (by omega) (by decide) (by decide) rfl
  refine J_en (L := [.ref 120, .int 3, .int (nI f), .int (nI c), .retAddr 0]) rfl ?_
  refine J_b 3 am_d205 rfl ?_
  refine J_iald (am_d205 rfl) rfl (vp_in_nI hf (by decide)) ?_
  rw [nI_c (n := f) (by omega)]
  show am_J X _ 205 6 _ (.int (M 155 f) :: _) _ N
  rw [f3, en]
  refine J_b 2 am_d205 rfl ?_
  refine J_tsIn 134 (am_d205 rfl) (show ¬ (3 : Int32).toInt < 0 by decide) (show ¬ (3 : Int) < (3 : Int32).toInt by decide) rfl rfl ?_
  refine J_b 3 am_d205 rfl ?_
  refine J_iald (am_d205 rfl) rfl (vp_in_nI hn6 (by decide)) ?_
  rw [nI_c (n := nm) (by omega)]
  show am_J X _ 205 141 _ (.int (M 152 nm) :: _) _ N
  rw [n5]
  exact J_iret (am_d205 rfl) rfl rfl ⟨congrArg (fun z => some (Value.int z)) (by unfold fa; rw [hnm]; rfl), rd_0, rfl⟩
theorem sp205_4 {X : am_X} {M : am_M} {N : am_N} {N0 : am_N} {c0 f c nm x0 x1 y0 y1 : Nat} (h : iv c0 M N0) (hf : f < 16) (hc5 : c < 5) (en : M 35 f = nI nm) (hn6 : nm < 6) (e27 : M 27 nm = nI x0) (e28 : M 28 nm = nI x1) (e29 : M 29 nm = nI y0) (e30 : M 30 nm = nI y1) : am_J X (q_p (some (.int (fa M f c 4))) (fun M2 N2 => rd M M2 ∧ N2 = N)) 205 0 (am_en 205 [.ref 120, .int 4, .int (nI f), .int (nI c)]) [] M N := by
  obtain ⟨⟨a1, _, _, a4, a5, _, _⟩, _⟩ := h.1.2.1.1
  obtain ⟨⟨_, _, f3, f4, _, _, _⟩, _⟩ := h.1.2.2.2.1
  obtain ⟨⟨n1, n2, n3, n4, n5⟩, _⟩ := h.1.2.2.1.1
  have bp := h.1.2.1.2.2.2.2.2.2.1 c
  have ep := I_nI bp.1
  have ip := I_cl bp.1
  have bp2 := bp.2
  have hnm : (M 35 f).toNatClampNeg = nm := by rw [en, nI_c (by omega)]
  have e6 : nI (M 23 c).toNatClampNeg / (Int8.ofInt 6).toInt32 = nI ((M 23 c).toNatClampNeg / 6) := nI_divn (by omega) (by decide) (by decide) rfl
  have r6 : nI (M 23 c).toNatClampNeg - nI (M 23 c).toNatClampNeg / (Int8.ofInt 6).toInt32 * (Int8.ofInt 6).toInt32 = nI ((M 23 c).toNatClampNeg % 6) := nI_remn (by omega) (by decide) (by decide) rfl
  refine J_en (L := [.ref 120, .int 4, .int (nI f), .int (nI c), .retAddr 0]) rfl ?_
  refine J_b 3 am_d205 rfl ?_
  refine J_iald (am_d205 rfl) rfl (vp_in_nI hf (by decide)) ?_
  rw [nI_c (n := f) (by omega)]
  show am_J X _ 205 6 _ (.int (M 155 f) :: _) _ N
  rw [f3, en]
  refine J_b 2 am_d205 rfl ?_
  refine J_tsOut 142 (am_d205 rfl) (.inr (show (3 : Int) < (4 : Int32).toInt by decide)) rfl ?_
  refine J_b 3 am_d205 rfl ?_
  refine J_V2sp 170 (am_d205 rfl) rfl rfl (sp170 h hf hc5) (fun M2 N2 hq => ?_)
  obtain ⟨hr, rfl⟩ := hq
  refine J_b 2 am_d205 rfl ?_
  exact J_iret (am_d205 rfl) rfl rfl ⟨rfl, hr, rfl⟩
theorem sp205 {X : am_X} {M : am_M} {N N0 : am_N} {c0 f c k : Nat} (h : iv c0 M N0) (hf : f < 16) (hc5 : c < 5) (hk : k < 5) : am_J X (q_p (some (.int (fa M f c k))) (fun M2 N2 => rd M M2 ∧ N2 = N)) 205 0 (am_en 205 [.ref 120, .int (nI k), .int (nI f), .int (nI c)]) [] M N := by
  have bn := h.1.2.2.2.2.2.1 f
  unfold b_in at bn
  have in5 := I_cl bn.1
  have en := I_nI bn.1
  obtain ⟨x0, x1, y0, y1, ⟨e27, e28, e29, e30⟩, _⟩ := nb_e h.1.2.2.1.2 (M 35 f).toNatClampNeg
  match k, hk with
  | 0, _ => exact sp205_0 h hf hc5 en (by omega) e27 e28 e29 e30
  | 1, _ => exact sp205_1 h hf hc5 en (by omega) e27 e28 e29 e30
  | 2, _ => exact sp205_2 h hf hc5 en (by omega) e27 e28 e29 e30
  | 3, _ => exact sp205_3 h hf hc5 en (by omega) e27 e28 e29 e30
  | 4, _ => exact sp205_4 h hf hc5 en (by omega) e27 e28 e29 e30
  | (n + 5), z => exact absurd z (by omega)
