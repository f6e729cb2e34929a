/-! ===== doubt ===== -/
/-- how many of the last l sure finds below k turn the fit -/
def c_tn (s t : Nat → Bool) : Nat → Nat → Int32 → Int32
  | 0, _, a => a
  | _ + 1, 0, a => a
  | k + 1, l + 1, a => if s k then c_tn s t k l (if t k then a + 1 else a) else c_tn s t k (l + 1) a
def sr (M : am_M) (S : Nat) (k : Nat) : Bool := decide (0 ≤ g_of M S k)
noncomputable def tu (M : am_M) (S P F r : Nat) (k : Nat) : Bool := decide (¬ c_sh (lmn (vb M S P F (nI k)) 26).1 r = c_sh (lmn (vb M S P F (-1)) 26).1 r)
theorem tn_n {s t : Nat → Bool} {k l : Nat} {a : Int32} (h : s k = false) : c_tn s t (k + 1) (l + 1) a = c_tn s t k (l + 1) a := by rw [c_tn, h]; rfl
theorem tn_y {s t : Nat → Bool} {k l : Nat} {a : Int32} (h : s k = true) (h2 : t k = true) : c_tn s t (k + 1) (l + 1) a = c_tn s t k l (a + 1) := by rw [c_tn, h, h2]; rfl
theorem tn_z {s t : Nat → Bool} {k l : Nat} {a : Int32} (h : s k = true) (h2 : t k = false) : c_tn s t (k + 1) (l + 1) a = c_tn s t k l a := by rw [c_tn, h, h2]; rfl
theorem l3_p {l : Nat} (h : l + 1 ≤ 3) : nI (3 - (l + 1)) + Int32.ofInt 1 = nI (3 - l) := by
  rw [show (3 - l : Nat) = 3 - (l + 1) + 1 by omega]
  exact nI_1 _
theorem nnI {r : Nat} (h : r < 1000) : ¬ nI r < 0 := by
  rw [Int32.lt_iff_toInt_lt, nI_i (by omega)]
  have z0 : (0 : Int32).toInt = 0 := rfl
  omega
theorem up_pm {M : am_M} {k j : Nat} : am_up (am_up M k j (M k j - 1)) k j (M k j - 1 + 1) = M := by
  rw [up_up, Int32.sub_add_cancel, up_id rfl]
theorem lp99 {X : am_X} {M M1 : am_M} {N N0 : am_N} {c0 S P F r : Nat} (h : iv c0 M N0) (eS : M 18 7 = nI S) (hS : S ≤ 5) (eP : M 26 5 = nI P) (hP : P ≤ 6) (eF : M 32 7 = nI F) (hF : F ≤ 16) (hm : md M M1) (hi : ∀ N, iv c0 M1 N) (hk : M1 52 4 = M1 1 11) (h108 : M1 108 = gr M S F) (hall : ∀ b, b < 27 → M1 107 b = M1 1 11) (hr : r < 3) : ∀ (k l : Nat), k ≤ F → l ≤ 3 → ∀ (a : Int32) (z6 z7 : Value), am_J X (am_eq (some (.int (c_tn (sr M S) (tu M S P F r) k l a))) M1 N) 99 25 [.ref 77, .int (nI r), .int (c_sh (lmn (vb M S P F (-1)) 26).1 r), .int (nI (3 - l)), .int a, .int (c_xv k), z6, z7] [] M1 N := by
  have e18 : M1 18 7 = nI S := by rw [hm.1 18 (by unfold rg_r sc_r; omega)]; exact eS
  have e26 : M1 26 5 = nI P := by rw [hm.1 26 (by unfold rg_r sc_r; omega)]; exact eP
  have e32 : M1 32 7 = nI F := by rw [hm.1 32 (by unfold rg_r sc_r; omega)]; exact eF
  intro k
  induction k with
  | zero =>
    intro l hkF hl a z6 z7
    refine J_b 1 am_d99 rfl ?_
    refine J_if_lt 117 (am_d99 rfl) rfl (fun h27 => ?_) (fun h27 => absurd (by decide) h27)
    refine J_b 1 am_d99 rfl ?_
    exact J_iret (am_d99 rfl) rfl rfl ⟨rfl, rfl, rfl⟩
  | succ k ih =>
    intro l hkF hl a z6 z7
    have hnn := nnI (r := k) (by omega)
    show am_J X _ 99 25 [.ref 77, .int (nI r), .int (c_sh (lmn (vb M S P F (-1)) 26).1 r), .int (nI (3 - l)), .int a, .int (nI k), z6, z7] [] M1 N
    match l, hl with
    | 0, _ =>
      refine J_b 1 am_d99 rfl ?_
      refine J_if_lt 117 (am_d99 rfl) rfl (fun h27 => absurd h27 hnn) (fun h27 => ?_)
      refine J_b 2 am_d99 rfl ?_
      refine J_icmp_ge 117 (am_d99 rfl) rfl (fun h32 => ?_) (fun h32 => absurd (by decide) h32)
      refine J_b 1 am_d99 rfl ?_
      exact J_iret (am_d99 rfl) rfl rfl ⟨rfl, rfl, rfl⟩
    | l + 1, hl =>
      refine J_b 1 am_d99 rfl ?_
      refine J_if_lt 117 (am_d99 rfl) rfl (fun h27 => absurd h27 hnn) (fun h27 => ?_)
      refine J_b 2 am_d99 rfl ?_
      refine J_icmp_ge 117 (am_d99 rfl) rfl (fun h32 => absurd h32 (nI_ngt (b := 3) (by omega) (by decide))) (fun h32 => ?_)
      refine J_b 3 am_d99 rfl ?_
      have qg := sp85 (X := X) (N := N) (M := M1) (hi N0) hk (show k < 16 by omega) (by rw [e32, nI_i (by omega)]; omega) e18 hS
      rw [g_md hm] at qg
      refine J_V1s 85 (am_d99 rfl) rfl rfl qg ?_
      refine J_b 2 am_d99 rfl ?_
      refine J_if_ge 54 (am_d99 rfl) rfl (fun h48 => ?_) (fun h48 => ?_)
      · obtain ⟨c, hcS, ec⟩ := g_k hS h48
        have bn := h.1.2.2.2.2.2.1 k
        unfold b_in at bn
        have in5 := I_cl bn.1
        have en := I_nI bn.1
        generalize hnm : (M 35 k).toNatClampNeg = nm at en in5
        have hgp : gp M S k (6 * c + nm) := ⟨h48, by rw [ec, nI_c (by omega), hnm]⟩
        have hs : sr M S k = true := decide_eq_true h48
        rw [ec]
        refine J_b 6 am_d99 rfl ?_
        refine J_iald (am_d99 rfl) rfl (vp_in_nI (show k < 16 by omega) (by decide)) ?_
        rw [nI_c (n := k) (by omega), hm.1 35 (by unfold rg_r sc_r; omega), en]
        refine J_S2s 90 (am_d99 rfl) rfl rfl sp90 ?_
        rw [slot]
        refine J_b 5 am_d99 rfl ?_
        refine J_iald (am_d99 rfl) rfl (vp_in_nI (show 6 * c + nm < 30 by omega) (by decide)) ?_
        rw [nI_c (n := 6 * c + nm) (by omega)]
        refine J_b 2 am_d99 rfl ?_
        refine J_iast (am_d99 rfl) rfl (vp_in_nI (show 6 * c + nm < 30 by omega) (by decide)) ?_
        rw [nI_c (n := 6 * c + nm) (by omega)]
        show am_J X _ 99 85 _ _ (am_up M1 108 (6 * c + nm) (M1 108 (6 * c + nm) - 1)) N
        refine J_b 1 am_d99 rfl ?_
        have ql := sp93 (X := X) (M := am_up M1 108 (6 * c + nm) (M1 108 (6 * c + nm) - 1)) (N := N) (show M1 18 7 = nI S from e18) hS (show M1 26 5 = nI P from e26) hP
        rw [lmn_c (w := vb M S P F (nI k)) (n := 26) (fun a ha => ?hv)] at ql
        case hv =>
          rw [up_n (show 80 + a ≠ 108 by omega), up_k, h108]
          exact mw_mv (F := F) hm hi eS hS eP hP (show a < 27 by omega) (hall a (by omega)) (fun c' n' hc' hn' => gx_gt h hS hF (by omega) (by omega) (show k < F by omega) hgp)
        refine J_V0s 93 (am_d99 rfl) rfl rfl ql ?_
        refine J_b 1 am_d99 rfl ?_
        refine J_S2s 92 (am_d99 rfl) rfl rfl (sp92 (show (lmn (vb M S P F (nI k)) 26).1 < 27 from Nat.lt_succ_of_le (lmn_b 26).1) hr) ?_
        refine J_b 1 am_d99 rfl ?_
        refine J_icmp_eq 100 (am_d99 rfl) rfl (fun h94 => ?_) (fun h94 => ?_)
        · have ht : tu M S P F r k = false := decide_eq_false (fun z => z h94)
          rw [tn_z hs ht]
          refine J_b 4 am_d99 rfl ?_
          refine J_iald (am_d99 rfl) rfl (vp_in_nI (show 6 * c + nm < 30 by omega) (by decide)) ?_
          rw [nI_c (n := 6 * c + nm) (by omega), up_r]
          refine J_b 2 am_d99 rfl ?_
          refine J_iast (am_d99 rfl) rfl (vp_in_nI (show 6 * c + nm < 30 by omega) (by decide)) ?_
          rw [nI_c (n := 6 * c + nm) (by omega)]
          refine J_mem up_pm ?_
          refine J_b 2 am_d99 rfl ?_
          rw [xv_s k, l3_p hl]
          exact ih l (by omega) (by omega) _ _ _
        · have ht : tu M S P F r k = true := decide_eq_true h94
          rw [tn_y hs ht]
          refine J_b 5 am_d99 rfl ?_
          refine J_iald (am_d99 rfl) rfl (vp_in_nI (show 6 * c + nm < 30 by omega) (by decide)) ?_
          rw [nI_c (n := 6 * c + nm) (by omega), up_r]
          refine J_b 2 am_d99 rfl ?_
          refine J_iast (am_d99 rfl) rfl (vp_in_nI (show 6 * c + nm < 30 by omega) (by decide)) ?_
          rw [nI_c (n := 6 * c + nm) (by omega)]
          refine J_mem up_pm ?_
          refine J_b 2 am_d99 rfl ?_
          rw [xv_s k, l3_p hl]
          exact ih l (by omega) (by omega) _ _ _
      · have hs : sr M S k = false := decide_eq_false h48
        rw [tn_n hs]
        refine J_b 3 am_d99 rfl ?_
        rw [xv_s k]
        exact ih (l + 1) (by omega) hl _ _ _
theorem sp99 {X : am_X} {M M1 : am_M} {N N0 : am_N} {c0 S P F r : Nat} (h : iv c0 M N0) (eS : M 18 7 = nI S) (hS : S ≤ 5) (eP : M 26 5 = nI P) (hP : P ≤ 6) (eF : M 32 7 = nI F) (hF : F ≤ 16) (hm : md M M1) (hi : ∀ N, iv c0 M1 N) (hk : M1 52 4 = M1 1 11) (h108 : M1 108 = gr M S F) (hall : ∀ b, b < 27 → M1 107 b = M1 1 11) (hr : r < 3) : am_J X (am_eq (some (.int (c_tn (sr M S) (tu M S P F r) F 3 0))) M1 N) 99 0 (am_en 99 [.ref 77, .int (nI r)]) [] M1 N := by
  have e18 : M1 18 7 = nI S := by rw [hm.1 18 (by unfold rg_r sc_r; omega)]; exact eS
  have e26 : M1 26 5 = nI P := by rw [hm.1 26 (by unfold rg_r sc_r; omega)]; exact eP
  have e32 : M1 32 7 = nI F := by rw [hm.1 32 (by unfold rg_r sc_r; omega)]; exact eF
  refine J_en (L := [.ref 77, .int (nI r), .retAddr 0, .retAddr 0, .retAddr 0, .retAddr 0, .retAddr 0, .retAddr 0]) rfl ?_
  refine J_b 1 am_d99 rfl ?_
  have hv : ∀ a, a ≤ 26 → mw (M1 (80 + a)) (M1 108) S P = vb M S P F (-1) a := fun a ha => mw_mv (F := F) hm hi eS hS eP hP (by omega) (hall a (by omega)) (fun c n hc hn => by rw [h108]; exact gr_gt h hS hF (by omega) (by omega))
  have ql := sp93 (X := X) (M := M1) (N := N) e18 hS e26 hP
  rw [lmn_c (n := 26) hv] at ql
  refine J_V0s 93 (am_d99 rfl) rfl rfl ql ?_
  refine J_b 1 am_d99 rfl ?_
  refine J_S2s 92 (am_d99 rfl) rfl rfl (sp92 (show (lmn (vb M S P F (-1)) 26).1 < 27 from Nat.lt_succ_of_le (lmn_b 26).1) hr) ?_
  refine J_b 11 am_d99 rfl ?_
  rw [e32, show nI F - Int32.ofInt 1 = c_xv F from xv_n F]
  exact lp99 h eS hS eP hP eF hF hm hi hk h108 hall hr F 3 (Nat.le_refl _) (Nat.le_refl _) _ _ _
theorem sp98a {X : am_X} {M : am_M} {N : am_N} {x : Int32} (g1 : ¬ (0 ≤ x.toInt ∧ x.toInt < 3)) : am_J X (am_eq (some (.int (-1))) (M) N) 98 0 (am_en 98 [.ref 0, .int x]) [] M N := by
  refine J_en (L := [.ref 0, .int x]) rfl ?_
  refine J_b 2 am_d98 rfl ?_
  refine J_S2s 13 (am_d98 rfl) rfl rfl (sp13) ?_
  refine J_if_ne 10 (am_d98 rfl) rfl (fun h5 => absurd (am_bi1.mp h5) g1) (fun h5 => ?_)
  refine J_b 1 am_d98 rfl ?_
  exact J_iret (am_d98 rfl) rfl rfl ⟨rfl, rfl, rfl⟩
theorem sp98c {X : am_X} {M : am_M} {N : am_N} {N0 : am_N} {c0 S P F r : Nat} (h : iv c0 M N0) (eS : M 18 7 = nI S) (hS : S ≤ 5) (eP : M 26 5 = nI P) (hP : P ≤ 6) (eF : M 32 7 = nI F) (hF : F ≤ 16) (hr : r < 3) : am_J X (q_p (some (.int (c_tn (sr M S) (tu M S P F r) F 3 0))) (pm_ c0 M)) 98 0 (am_en 98 [.ref 0, .int (nI r)]) [] M N := by
  have i1 := nI_i (n := r) (by omega)
  refine J_en (L := [.ref 0, .int (nI r)]) rfl ?_
  refine J_b 2 am_d98 rfl ?_
  refine J_S2s 13 (am_d98 rfl) rfl rfl (sp13) ?_
  refine J_if_ne 10 (am_d98 rfl) rfl (fun h5 => ?_) (fun h5 => absurd h5 (am_bi1.mpr (by rw [i1]; exact ⟨by omega, by show (r : Int) < 3; omega⟩)))
  refine J_b 2 am_d98 rfl ?_
  refine J_V0np 88 (am_d98 rfl) rfl rfl (sp88 h eS hS eP hP eF hF) (fun M1 N1 hq => ?_)
  obtain ⟨⟨⟨hm, hi⟩, hk, h108⟩, hall⟩ := hq
  refine J_b 3 am_d98 rfl ?_
  refine J_V1s 99 (am_d98 rfl) rfl rfl (sp99 h eS hS eP hP eF hF hm hi hk h108 hall hr) ?_
  exact J_iret (am_d98 rfl) rfl rfl ⟨rfl, hm, hi⟩
theorem sp190a {X : am_X} {M : am_M} {N : am_N} {x : Int32} (g1 : ¬ (0 ≤ x.toInt ∧ x.toInt < 3)) : am_J X (am_eq (some (.int (-1))) (M) N) 190 0 (am_en 190 [.ref 120, .int x]) [] M N := by
  refine J_en (L := [.ref 120, .int x, .retAddr 0, .retAddr 0, .retAddr 0, .retAddr 0]) rfl ?_
  refine J_b 4 am_d190 rfl ?_
  refine J_S3s 140 (am_d190 rfl) rfl rfl (sp140) ?_
  refine J_if_ne 14 (am_d190 rfl) rfl (fun h9 => absurd (show 0 ≤ x.toInt ∧ x.toInt < 3 from by have q := am_bi1.mp h9; rw [Int32.toInt_toInt64] at q; have q1 : x.toInt ≤ 2 := q.2; exact ⟨q.1, by omega⟩) g1) (fun h9 => ?_)
  refine J_b 1 am_d190 rfl ?_
  exact J_iret (am_d190 rfl) rfl rfl ⟨rfl, rfl, rfl⟩
theorem nI_s1 (l : Nat) : nI (l + 1) + Int32.ofInt (-1) = nI l := by
  rw [← nI_1 l, Int32.add_assoc]
  exact Int32.add_zero _
theorem nI_n0 (l : Nat) (h : l + 1 ≤ 3) : ¬ nI (l + 1) ≤ 0 := by
  rw [Int32.le_iff_toInt_le, nI_i (by omega)]
  have z0 : (0 : Int32).toInt = 0 := rfl
  omega
theorem lp190 {X : am_X} {M : am_M} {N0 : am_N} {c0 S P F r : Nat} (h : iv c0 M N0) (eS : M 18 7 = nI S) (hS : S ≤ 5) (eP : M 26 5 = nI P) (hP : P ≤ 6) (eF : M 32 7 = nI F) (hF : F ≤ 16) (hr : r < 3) : ∀ (k l : Nat), k ≤ F → l ≤ 3 → ∀ (a : Int32) (M1 : am_M), su2 M S F (M 130) M1 → ∀ (N : am_N), am_J X (q_p (some (.int (c_tn (sr M S) (tu M S P F r) k l a))) (fun M2 _ => su2 M S F (M 130) M2)) 190 43 [.ref 120, .int (nI r), .int (c_sh (lmn (vb M S P F (-1)) 26).1 r), .int (nI l), .int a, .int (c_xv k)] [] M1 N := by
  intro k
  induction k with
  | zero =>
    intro l hkF hl a M1 hz N
    refine J_b 1 am_d190 rfl ?_
    refine J_if_lt 100 (am_d190 rfl) rfl (fun h45 => ?_) (fun h45 => absurd (by decide) h45)
    refine J_b 1 am_d190 rfl ?_
    exact J_iret (am_d190 rfl) rfl rfl ⟨rfl, hz⟩
  | succ k ih =>
    intro l hkF hl a M1 hz N
    have hnn := nnI (r := k) (by omega)
    show am_J X _ 190 43 [.ref 120, .int (nI r), .int (c_sh (lmn (vb M S P F (-1)) 26).1 r), .int (nI l), .int a, .int (nI k)] [] M1 N
    match l, hl with
    | 0, _ =>
      refine J_b 1 am_d190 rfl ?_
      refine J_if_lt 100 (am_d190 rfl) rfl (fun h45 => absurd h45 hnn) (fun h45 => ?_)
      refine J_b 1 am_d190 rfl ?_
      refine J_if_le 100 (am_d190 rfl) rfl (fun h49 => ?_) (fun h49 => absurd (by decide) h49)
      refine J_b 1 am_d190 rfl ?_
      exact J_iret (am_d190 rfl) rfl rfl ⟨rfl, hz⟩
    | l + 1, hl =>
      refine J_b 1 am_d190 rfl ?_
      refine J_if_lt 100 (am_d190 rfl) rfl (fun h45 => absurd h45 hnn) (fun h45 => ?_)
      refine J_b 1 am_d190 rfl ?_
      refine J_if_le 100 (am_d190 rfl) rfl (fun h49 => absurd h49 (nI_n0 l hl)) (fun h49 => ?_)
      refine J_b 3 am_d190 rfl ?_
      refine J_iald (am_d190 rfl) rfl (vp_in_nI (show k < 16 by omega) (by decide)) ?_
      rw [nI_c (n := k) (by omega), hz.2.2 k (by omega)]
      refine J_if_ge 65 (am_d190 rfl) rfl (fun h59 => ?_) (fun h59 => ?_)
      · have hs : sr M S k = true := decide_eq_true h59
        refine J_b 1 am_d190 rfl ?_
        rw [nI_s1 l]
        refine J_b 2 am_d190 rfl ?_
        refine J_V1np 186 (am_d190 rfl) rfl rfl (sp186 (but := nI k) h eS hS eP hP eF hF hz) (fun M3 N3 hq => ?_)
        obtain ⟨hz3, -, h162⟩ := hq
        refine J_b 4 am_d190 rfl ?_
        refine J_iald (am_d190 rfl) rfl (vp_in_nI hr (by decide)) ?_
        rw [nI_c (n := r) (by omega), h162 r hr]
        refine J_b 1 am_d190 rfl ?_
        refine J_icmp_eq 90 (am_d190 rfl) rfl (fun h83 => ?_) (fun h83 => ?_)
        · have ht : tu M S P F r k = false := decide_eq_false (fun z => z h83)
          rw [tn_z hs ht]
          refine J_b 5 am_d190 rfl ?_
          rw [xv_s k, show a + Int32.ofInt 0 = a from Int32.add_zero a]
          exact ih l (by omega) (by omega) _ _ hz3 _
        · have ht : tu M S P F r k = true := decide_eq_true h83
          rw [tn_y hs ht]
          refine J_b 6 am_d190 rfl ?_
          rw [xv_s k]
          exact ih l (by omega) (by omega) _ _ hz3 _
      · have hs : sr M S k = false := decide_eq_false h59
        rw [tn_n hs]
        refine J_b 3 am_d190 rfl ?_
        rw [xv_s k]
        exact ih (l + 1) (by omega) hl _ _ hz _
theorem sp190c {X : am_X} {M : am_M} {N : am_N} {N0 : am_N} {c0 S P F r : Nat} (h : iv c0 M N0) (eS : M 18 7 = nI S) (hS : S ≤ 5) (eP : M 26 5 = nI P) (hP : P ≤ 6) (eF : M 32 7 = nI F) (hF : F ≤ 16) (hr : r < 3) : am_J X (q_p (some (.int (c_tn (sr M S) (tu M S P F r) F 3 0))) (fun M2 _ => ∀ N, iv c0 M2 N)) 190 0 (am_en 190 [.ref 120, .int (nI r)]) [] M N := by
  have i1 := nI_i (n := r) (by omega)
  have e22 : M 120 22 = nI S := h.1.2.1.1.2.trans eS
  have e44 : M 120 44 = nI F := h.1.2.2.2.1.2.trans eF
  refine J_en (L := [.ref 120, .int (nI r), .retAddr 0, .retAddr 0, .retAddr 0, .retAddr 0]) rfl ?_
  refine J_b 4 am_d190 rfl ?_
  refine J_S3s 140 (am_d190 rfl) rfl rfl (sp140) ?_
  refine J_if_ne 14 (am_d190 rfl) rfl (fun h9 => ?_) (fun h9 => absurd h9 (am_bi1.mpr (by rw [Int32.toInt_toInt64, i1]; exact ⟨by show (0 : Int) ≤ r; omega, by show (r : Int) ≤ 2; omega⟩)))
  refine J_b 1 am_d190 rfl ?_
  refine J_V0np 182 (am_d190 rfl) rfl rfl (sp182 h e22 hS e44 hF) (fun M2 N2 hq => ?_)
  obtain ⟨hsu, rfl⟩ := hq
  refine J_b 2 am_d190 rfl ?_
  refine J_V1np 186 (am_d190 rfl) rfl rfl (sp186 (but := -1) h eS hS eP hP eF hF (su_su2 hsu)) (fun M3 N3 hq => ?_)
  obtain ⟨hz, -, h162⟩ := hq
  refine J_b 3 am_d190 rfl ?_
  refine J_iald (am_d190 rfl) rfl (vp_in_nI hr (by decide)) ?_
  rw [nI_c (n := r) (by omega), h162 r hr]
  refine J_b 10 am_d190 rfl ?_
  rw [show M3 120 44 = nI F from hz.1.2.2.2.1.trans e44, show nI F - Int32.ofInt 1 = c_xv F from xv_n F]
  exact J_cq (lp190 h eS hS eP hP eF hF hr F 3 (Nat.le_refl _) (Nat.le_refl _) _ _ hz _) (fun _ _ _ hq => ⟨hq.1, fun _ => iv_s0 h (su2_sc hq.2)⟩)
theorem sr_md {M M' : am_M} (h : md M M') {S : Nat} : sr M' S = sr M S := by
  funext k
  unfold sr
  rw [g_md h]
theorem tu_md {M M' : am_M} (h : md M M') {S P F r : Nat} : tu M' S P F r = tu M S P F r := by
  funext k
  unfold tu
  rw [vb_md h, vb_md h]
theorem pr_doubt {X : am_X} (x : Int32) : am_pI iv X 98 190 [.int x] := by
  intro c0 M N hc0 h
  have e22 : M 120 22 = M 18 7 := h.1.2.1.1.2
  have e44 : M 120 44 = M 32 7 := h.1.2.2.2.1.2
  have e5 := h.1.2.1.2.1
  have e16 := h.1.2.2.2.2.1
  unfold b_in at e5 e16
  by_cases g1 : 0 ≤ x.toInt ∧ x.toInt < 3
  rotate_left
  · exact pr_e (sp98a g1) (sp190a g1) (iv_up _ _ _ h)
  have ex := I_nI g1.1
  have icx := I_cl g1.1
  generalize x.toNatClampNeg = r at ex icx
  subst ex
  have hr : r < 3 := by omega
  have eS := I_nI e5.1
  have iS := I_cl e5.1
  generalize (M 18 7).toNatClampNeg = S at eS iS
  have hS : S ≤ 5 := by omega
  have eF := I_nI e16.1
  have iF := I_cl e16.1
  generalize (M 32 7).toNatClampNeg = F at eF iF
  have hF : F ≤ 16 := by omega
  have e6 := h.1.2.2.1.2.1
  unfold b_in at e6
  have eP := I_nI e6.1
  have iP := I_cl e6.1
  generalize (M 26 5).toNatClampNeg = P at eP iP
  have hP : P ≤ 6 := by omega
  refine pr_m (sp98c h eS hS eP hP eF hF hr) (fun M1 N1 hm hi => ?_)
  rw [← sr_md hm, ← tu_md hm]
  exact sp190c (hi N) (by rw [hm.1 18 (by unfold rg_r sc_r; omega)]; exact eS) hS (by rw [hm.1 26 (by unfold rg_r sc_r; omega)]; exact eP) hP (by rw [hm.1 32 (by unfold rg_r sc_r; omega)]; exact eF) hF hr
