/-! ===== landings kept; best, verdicts ===== -/
theorem cb_md {M M' : am_M} (h : md M M') (hb : iv_cb M) : iv_cb M' := by
  unfold iv_cb
  rw [h.1 18 (by unfold rg_r sc_r; omega), h.1 19 (by unfold rg_r sc_r; omega), h.1 20 (by unfold rg_r sc_r; omega), h.1 21 (by unfold rg_r sc_r; omega), h.1 22 (by unfold rg_r sc_r; omega), h.1 23 (by unfold rg_r sc_r; omega), h.1 25 (by unfold rg_r sc_r; omega)]
  exact hb
theorem sb_md {M M' : am_M} (h : md M M') (hb : iv_sb M) : iv_sb M' := by
  unfold iv_sb
  rw [h.1 4 (by unfold rg_r sc_r; omega), h.1 5 (by unfold rg_r sc_r; omega), h.1 6 (by unfold rg_r sc_r; omega), h.1 8 (by unfold rg_r sc_r; omega), h.1 9 (by unfold rg_r sc_r; omega), h.1 10 (by unfold rg_r sc_r; omega), h.1 11 (by unfold rg_r sc_r; omega), h.1 12 (by unfold rg_r sc_r; omega), h.1 13 (by unfold rg_r sc_r; omega), h.1 15 (by unfold rg_r sc_r; omega), h.1 16 (by unfold rg_r sc_r; omega), h.1 17 (by unfold rg_r sc_r; omega)]
  exact hb
theorem nb_md {M M' : am_M} (h : md M M') (hb : iv_nb M) : iv_nb M' := by
  unfold iv_nb
  rw [h.1 26 (by unfold rg_r sc_r; omega), h.1 27 (by unfold rg_r sc_r; omega), h.1 28 (by unfold rg_r sc_r; omega), h.1 29 (by unfold rg_r sc_r; omega), h.1 30 (by unfold rg_r sc_r; omega)]
  exact hb
def rf_r (r : Nat) : Prop := sc_r r ∧ ¬ (54 ≤ r ∧ r ≤ 58)
def rf (M M' : am_M) : Prop := (∀ r, rf_r r → M' r = M r) ∧ M' 120 22 = M 120 22 ∧ M' 120 43 = M 120 43 ∧ M' 120 44 = M 120 44 ∧ M' 120 45 = M 120 45 ∧ M' 120 55 = M 120 55 ∧ M' 120 56 = M 120 56
theorem rf_md {M M' : am_M} (h : rf M M') : md M M' := ⟨fun r hr => h.1 r ⟨hr.1, fun z => hr.2.1 ⟨by omega, by omega⟩⟩, h.2⟩
theorem rf_0 {M : am_M} : rf M M := ⟨fun _ _ => rfl, rfl, rfl, rfl, rfl, rfl, rfl⟩
theorem rf_sc {M M1 M2 : am_M} (h : rf M M1) (h2 : sc_ok M1 M2) : rf M M2 := by
  obtain ⟨a, b, c, d, e, f, g⟩ := h
  obtain ⟨a2, b2, c2, d2, e2, f2, g2⟩ := h2
  exact ⟨fun r hr => (a2 r hr.1).trans (a r hr), b2.trans b, c2.trans c, d2.trans d, e2.trans e, f2.trans f, g2.trans g⟩
theorem rf_uR {M M1 : am_M} {k : Nat} {f : Nat → Int32} (h : rf M M1) (hk : 54 ≤ k ∧ k ≤ 58) : rf M (am_upR M1 k f) := by
  obtain ⟨a, b, c, d, e, g, i⟩ := h
  refine ⟨fun r hr => by rw [upR_n (fun z => hr.2 (by omega)), a r hr], ?_, ?_, ?_, ?_, ?_, ?_⟩ <;> (rw [upR_n (by omega)]; assumption)
/-- the landings of the first i casts are kept -/
def kp (M M1 : am_M) (i : Nat) : Prop := ∀ d, d < i → ∀ j, j < 720 → M1 (54 + d) j = c_cf (sC M) M (M 17) d j
/-- the landings are kept, all else is as it was -/
def lk (c0 : Nat) (M M1 : am_M) : Prop := md M M1 ∧ M1 52 4 = M1 1 11 ∧ ∀ N, iv c0 M1 N
theorem lk_of {c0 S : Nat} {M M1 : am_M} {N : am_N} (h : iv c0 M N) (hr : rf M M1) (eS : M 18 7 = nI S) (hS : S ≤ 5) (hk : kp M M1 S) : lk c0 M (am_up M1 52 4 (M1 1 11)) := by
  have hm := rf_md hr
  have hm2 : md M (am_up M1 52 4 (M1 1 11)) := md_t hm (md_up (by unfold rg_r; omega) (by decide))
  have r1 : (am_up M1 52 4 (M1 1 11)) 1 = M 1 := hr.1 1 (by unfold rf_r sc_r; omega)
  have r52 : (am_up M1 52 4 (M1 1 11)) 52 4 = M 1 11 := by
    show M1 1 11 = M 1 11
    rw [hr.1 1 (by unfold rf_r sc_r; omega)]
  have r107 : (am_up M1 52 4 (M1 1 11)) 107 = M 107 := hr.1 107 (by unfold rf_r sc_r; omega)
  have r18 : (am_up M1 52 4 (M1 1 11)) 18 = M 18 := hr.1 18 (by unfold rf_r sc_r; omega)
  have r17 : (am_up M1 52 4 (M1 1 11)) 17 = M 17 := hr.1 17 (by unfold rf_r sc_r; omega)
  have r26 : (am_up M1 52 4 (M1 1 11)) 26 = M 26 := hr.1 26 (by unfold rf_r sc_r; omega)
  have rn : ∀ r, r = 21 ∨ (27 ≤ r ∧ r ≤ 30) → (am_up M1 52 4 (M1 1 11)) r = M r := fun r h => by rw [up_n (by omega), hr.1 r (by unfold rf_r sc_r; omega)]
  have h2 := h
  obtain ⟨_, _, _, ⟨g1, g2, g3, g4⟩, _, hkd⟩ := h2
  refine ⟨hm2, by rw [r52, r1], fun N' => iv_md h hm2 ?_ ?_ ?_⟩
  · unfold iv_ch
    rw [r1, r52, r107]
    exact ⟨g1, g2, Int.le_refl _, g4⟩
  · intro _ c hc j hj
    rw [r18, eS, nI_i (by omega)] at hc
    rw [cf_md hm2, r17, up_n (by omega)]
    exact hk c (by omega) j hj
  · intro a ha z c n hc hn
    rw [r107, r1] at z
    rw [r18] at hc
    rw [r26] at hn
    unfold c_du
    rw [cf_md hm2, rn 21 (by omega), rn 27 (by omega), rn 28 (by omega), rn 29 (by omega), rn 30 (by omega), up_n (by omega), hr.1 (80 + a) (by unfold rf_r sc_r; omega)]
    exact hkd a ha z c n hc hn
theorem lp70 {X : am_X} {M : am_M} {N N0 : am_N} {c0 S : Nat} (h : iv c0 M N0) (eS : M 18 7 = nI S) (hS : S ≤ 5) : ∀ (n i : Nat), i + n = S → ∀ (x : Int32), x = nI i → ∀ (M1 : am_M), rf M M1 → kp M M1 i → am_J X (q_p none (fun M2 _ => lk c0 M M2)) 70 17 [.ref 52, .int x] [] M1 N := by
  intro n
  induction n with
  | zero =>
    intro i hn x ex M1 hr hk
    have e : i = S := by omega
    subst e
    subst ex
    have e18 : M1 18 7 = nI i := by rw [hr.1 18 (by unfold rf_r sc_r; omega)]; exact eS
    have hge : M1 18 7 ≤ nI i := by rw [e18]; exact Int32.le_refl _
    refine J_b 4 am_d70 rfl ?_
    refine J_icmp_ge 83 (am_d70 rfl) rfl (fun h25 => ?_) (fun h25 => absurd (hge) h25)
    refine J_b 4 am_d70 rfl ?_
    refine J_puti (am_d70 rfl) rfl ?_
    exact J_ret (am_d70 rfl) rfl ⟨rfl, lk_of h hr eS hS hk⟩
  | succ n ih =>
    intro i hn x ex M1 hr hk
    subst ex
    have e18 : M1 18 7 = nI S := by rw [hr.1 18 (by unfold rf_r sc_r; omega)]; exact eS
    have hlt : ¬ M1 18 7 ≤ nI i := by rw [e18]; exact nI_ngt (by omega) (by omega)
    have hi : i < 5 := by omega
    have hcb := cb_md (rf_md hr) h.1.2.1.2
    have hsb := sb_md (rf_md hr) h.1.1.2
    have hmo : (M1 22 i).toNatClampNeg < 100 := by have := hcb.2.2.2.2.1 i; unfold b_in at this; have := I_cl this.1; omega
    have hgo := sp42_40 (X := X) (N := N) (M := M1) (kd := M1 19 i) (sk := M1 25 i) (e0 := M1 40 10) (n0 := M1 40 11) (s0 := c_s0 (M1 23 i).toNatClampNeg (M1 42)) (sh := M1 17) (cnt := 12) (t := 0) hmo hsb (hcb.2.1 i) hsb.2.2.2.2.2.2.2.2.2.2.2 s0_4 (by omega) (by omega)
    rw [show min 12 (0 + 12) = 12 from rfl] at hgo
    refine J_b 4 am_d70 rfl ?_
    refine J_icmp_ge 83 (am_d70 rfl) rfl (fun h25 => absurd h25 hlt) (fun h25 => ?_)
    refine J_b 8 am_d70 rfl ?_
    refine J_V3n 39 (am_d70 rfl) rfl rfl (sp39_40 hi hcb) ?_
    rw [T_0 hcb]
    refine J_b 3 am_d70 rfl ?_
    refine J_V1n 42 (am_d70 rfl) rfl rfl (hgo) ?_
    refine J_b 7 am_d70 rfl ?_
    refine J_aaldk (54 + i) (am_d70 rfl) rfl (vp_in_nI hi (by decide)) (by rw [nI_c (by omega)]) ?_
    refine J_b 2 am_d70 rfl ?_
    refine J_copy (am_d70 rfl) rfl rfl (sh54 i hi) (by decide) (by decide) (by decide) (by decide) (by decide) ?_
    refine J_mem (M' := am_upR (dr_T M1 40 (M1 19 i) (M1 22 i).toNatClampNeg (M1 25 i) (M1 40 10) (M1 40 11) (M1 17) (c_s0 (M1 23 i).toNatClampNeg (M1 42)) 12) (54 + i) (c_lt 720 (c_cdr M1 i (M1 42) 12 4) (M1 (54 + i)))) ?_ ?_
    · refine congrArg (am_upR (dr_T M1 40 (M1 19 i) (M1 22 i).toNatClampNeg (M1 25 i) (M1 40 10) (M1 40 11) (M1 17) (c_s0 (M1 23 i).toNatClampNeg (M1 42)) 12) (54 + i)) ?_
      refine Eq.trans (cpy0 (n := 720)) ?_
      rw [show (dr_T M1 40 (M1 19 i) (M1 22 i).toNatClampNeg (M1 25 i) (M1 40 10) (M1 40 11) (M1 17) (c_s0 (M1 23 i).toNatClampNeg (M1 42)) 12) (54 + i) = M1 (54 + i) from D_n (by omega)]
      rfl
    refine J_b 2 am_d70 rfl ?_
    refine ih (i + 1) (by omega) _ (nI_1 i) _ (rf_uR (rf_sc hr sc_T40) (by omega)) (fun d hd j hj => ?_)
    by_cases e : d = i
    · subst e
      rw [upR_r, cl_p hj, cdr_row (M1 42) c_z (by decide)]
      unfold c_cdr
      rw [md_sC (rf_md hr), hr.1 17 (by unfold rf_r sc_r; omega), hr.1 19 (by unfold rf_r sc_r; omega), hr.1 22 (by unfold rf_r sc_r; omega), hr.1 23 (by unfold rf_r sc_r; omega), hr.1 25 (by unfold rf_r sc_r; omega)]
      rfl
    · rw [upR_n (by omega)]
      show dr_D M1 40 _ _ _ _ _ _ _ _ (54 + d) j = _
      rw [D_n (by omega)]
      exact hk d (by omega) j hj
theorem sp70 {X : am_X} {M : am_M} {N N0 : am_N} {c0 : Nat} (h : iv c0 M N0) : am_J X (q_p none (fun M2 _ => lk c0 M M2)) 70 0 (am_en 70 [.ref 52]) [] M N := by
  have e5 := h.1.2.1.2.1
  unfold b_in at e5
  have eS := I_nI e5.1
  have iS := I_cl e5.1
  generalize (M 18 7).toNatClampNeg = S at eS iS
  refine J_en (L := [.ref 52, .retAddr 0]) rfl ?_
  refine J_b 5 am_d70 rfl ?_
  refine J_icmp_ne 15 (am_d70 rfl) rfl (fun h11 => ?_) (fun h11 => ?_)
  · refine J_b 2 am_d70 rfl ?_
    exact lp70 h eS (by omega) S 0 (Nat.zero_add _) _ rfl _ rf_0 (fun d hd => absurd hd (by omega))
  · exact J_ret (am_d70 rfl) rfl ⟨rfl, md_0, h11, fun _ => h⟩
def c_bst (w : Nat → Int32) : Nat → Int32 × Int32
  | 0 => (-1, 0)
  | n + 1 => if (c_bst w n).2 < w n then (nI n, w n) else c_bst w n
def c_ct (w : Nat → Int32) (n : Nat) : Int32 := smI (fun c => if 0 < w c then 1 else 0) n
def c_vd (cd w : Nat → Int32) (n : Nat) : Int32 := if c_ct cd n = 0 then 3 else if c_ct w n = 0 then 0 else if c_ct w n = 1 then 2 else 1
theorem bst_c {w v : Nat → Int32} {n : Nat} (h : ∀ c, c < n → w c = v c) : c_bst w n = c_bst v n := by
  induction n with
  | zero => rfl
  | succ n ih => rw [c_bst, c_bst, ih (fun c hc => h c (by omega)), h n (by omega)]
theorem ct_c {w v : Nat → Int32} {n : Nat} (h : ∀ c, c < n → w c = v c) : c_ct w n = c_ct v n := smI_congr (fun c hc => by rw [h c hc])
theorem bst_b {w : Nat → Int32} {n : Nat} (hn : n < 1000) : (c_bst w n).1 = -1 ∨ ∃ k, k < n ∧ (c_bst w n).1 = nI k := by
  induction n with
  | zero => exact .inl rfl
  | succ n ih =>
    rw [c_bst]
    split
    · exact .inr ⟨n, by omega, rfl⟩
    · rcases ih (by omega) with h | ⟨k, hk, h⟩
      · exact .inl h
      · exact .inr ⟨k, by omega, h⟩
def b_of (M : am_M) (S f : Nat) : Int32 := (c_bst (w_of M f) S).1
def v_of (M : am_M) (S f : Nat) : Int32 := c_vd (c_cd M f) (w_of M f) S
theorem b_md {M M' : am_M} (h : md M M') {S f : Nat} : b_of M' S f = b_of M S f := by
  unfold b_of
  rw [bst_c (fun c _ => w_md h)]
theorem v_md {M M' : am_M} (h : md M M') {S f : Nat} : v_of M' S f = v_of M S f := by
  unfold v_of c_vd
  rw [ct_c (fun c _ => cd_md h), ct_c (fun c _ => w_md h)]
theorem bst_p {w : Nat → Int32} {i : Nat} {b m : Int32} (hb : b = (c_bst w i).1) (hm : m = (c_bst w i).2) (h : ¬ w i ≤ m) : nI i = (c_bst w (i + 1)).1 ∧ w i = (c_bst w (i + 1)).2 := by
  rw [c_bst, if_pos (by rw [← hm]; exact Int32.not_le.mp h)]
  exact ⟨rfl, rfl⟩
theorem bst_n {w : Nat → Int32} {i : Nat} {b m : Int32} (hb : b = (c_bst w i).1) (hm : m = (c_bst w i).2) (h : w i ≤ m) : b = (c_bst w (i + 1)).1 ∧ m = (c_bst w (i + 1)).2 := by
  rw [c_bst, if_neg (by rw [← hm]; exact Int32.not_lt.mpr h)]
  exact ⟨hb, hm⟩
theorem ct_p {w : Nat → Int32} {i : Nat} {a : Int32} (ha : a = c_ct w i) (h : 0 < w i) : a + 1 = c_ct w (i + 1) := by
  show a + 1 = c_ct w i + (if 0 < w i then 1 else 0)
  rw [if_pos h, ha]
theorem ct_n {w : Nat → Int32} {i : Nat} {a : Int32} (ha : a = c_ct w i) (h : w i ≤ 0) : a = c_ct w (i + 1) := by
  show a = c_ct w i + (if 0 < w i then 1 else 0)
  rw [if_neg (Int32.not_lt.mpr h), ha]
  exact (Int32.add_zero _).symm
theorem ct_z {w : Nat → Int32} {i : Nat} {a : Int32} (ha : a = c_ct w i) (h : w i ≤ 0) : a + 0 = c_ct w (i + 1) := (Int32.add_zero _).trans (ct_n ha h)
theorem lp77 {X : am_X} {M : am_M} {N N0 : am_N} {c0 f S : Nat} (h : iv c0 M N0) (hk : M 52 4 = M 1 11) (hf : f < 16) (hfs : (f : Int) < (M 32 7).toInt) (eS : M 18 7 = nI S) (hS : S ≤ 5) : ∀ (n i : Nat), i + n = S → ∀ (x : Int32), x = nI i → ∀ (b m : Int32), b = (c_bst (w_of M f) i).1 → m = (c_bst (w_of M f) i).2 → ∀ (z : Value), am_J X (am_eq (some (.int (b_of M S f))) M N) 77 7 [.ref 59, .int (nI f), .int b, .int m, .int x, z] [] M N := by
  intro n
  induction n with
  | zero =>
    intro i hn x ex b m hb hm z
    have e : i = S := by omega
    subst e
    subst ex
    have hge : M 18 7 ≤ nI i := by rw [eS]; exact Int32.le_refl _
    refine J_b 4 am_d77 rfl ?_
    refine J_icmp_ge 46 (am_d77 rfl) rfl (fun h16 => ?_) (fun h16 => absurd (hge) h16)
    refine J_b 1 am_d77 rfl ?_
    exact J_iret (am_d77 rfl) rfl rfl ⟨by rw [hb]; rfl, rfl, rfl⟩
  | succ n ih =>
    intro i hn x ex b m hb hm z
    subst ex
    have hlt : ¬ M 18 7 ≤ nI i := by rw [eS]; exact nI_ngt (by omega) (by omega)
    refine J_b 4 am_d77 rfl ?_
    refine J_icmp_ge 46 (am_d77 rfl) rfl (fun h16 => absurd h16 hlt) (fun h16 => ?_)
    refine J_b 3 am_d77 rfl ?_
    refine J_V2s 71 (am_d77 rfl) rfl rfl (sp71 h hk hf (by omega) hfs (by rw [eS, nI_i (by omega)]; omega)) ?_
    refine J_b 3 am_d77 rfl ?_
    refine J_icmp_le 40 (am_d77 rfl) rfl (fun h31 => ?_) (fun h31 => ?_)
    · refine J_b 2 am_d77 rfl ?_
      exact ih (i + 1) (by omega) _ (nI_1 i) _ _ (bst_n hb hm h31).1 (bst_n hb hm h31).2 _
    · refine J_b 6 am_d77 rfl ?_
      exact ih (i + 1) (by omega) _ (nI_1 i) _ _ (bst_p hb hm h31).1 (bst_p hb hm h31).2 _
theorem sp77 {X : am_X} {M : am_M} {N : am_N} {N0 : am_N} {c0 f S : Nat} (h : iv c0 M N0) (hk : M 52 4 = M 1 11) (hf : f < 16) (hfs : (f : Int) < (M 32 7).toInt) (eS : M 18 7 = nI S) (hS : S ≤ 5) : am_J X (am_eq (some (.int (b_of M S f))) (M) N) 77 0 (am_en 77 [.ref 59, .int (nI f)]) [] M N := by
  refine J_en (L := [.ref 59, .int (nI f), .retAddr 0, .retAddr 0, .retAddr 0, .retAddr 0]) rfl ?_
  refine J_b 6 am_d77 rfl ?_
  exact lp77 h hk hf hfs eS hS S 0 (Nat.zero_add _) _ rfl _ _ rfl rfl _
theorem lp75 {X : am_X} {M : am_M} {N N0 : am_N} {c0 f S : Nat} (h : iv c0 M N0) (hk : M 52 4 = M 1 11) (hf : f < 16) (hfs : (f : Int) < (M 32 7).toInt) (eS : M 18 7 = nI S) (hS : S ≤ 5) (hcc : ∀ c, c < S → M (61 + f) c = c_cd M f c) : ∀ (n i : Nat), i + n = S → ∀ (x : Int32), x = nI i → ∀ (a w : Int32), a = c_ct (c_cd M f) i → w = c_ct (w_of M f) i → am_J X (am_eq (some (.int (v_of M S f))) M N) 75 7 [.ref 59, .int (nI f), .int a, .int w, .int x] [] M N := by
  intro n
  induction n with
  | zero =>
    intro i hn x ex a w ha hw
    have e : i = S := by omega
    subst e
    subst ex
    have hge : M 18 7 ≤ nI i := by rw [eS]; exact Int32.le_refl _
    refine J_b 4 am_d75 rfl ?_
    refine J_icmp_ge 53 (am_d75 rfl) rfl (fun h16 => ?_) (fun h16 => absurd (hge) h16)
    refine J_b 1 am_d75 rfl ?_
    refine J_if_ne 59 (am_d75 rfl) rfl (fun h54 => ?_) (fun h54 => ?_)
    · refine J_b 1 am_d75 rfl ?_
      refine J_if_ne 65 (am_d75 rfl) rfl (fun h60 => ?_) (fun h60 => ?_)
      · refine J_b 2 am_d75 rfl ?_
        refine J_icmp_ne 74 (am_d75 rfl) rfl (fun h67 => ?_) (fun h67 => ?_)
        · refine J_b 1 am_d75 rfl ?_
          exact J_iret (am_d75 rfl) rfl rfl ⟨by unfold v_of c_vd; rw [← ha, ← hw, if_neg h54, if_neg h60]; first | (rw [if_neg (show ¬ w = 1 from h67)]; rfl) | (rw [if_pos (show w = 1 from h67)]; rfl), rfl, rfl⟩
        · refine J_b 2 am_d75 rfl ?_
          exact J_iret (am_d75 rfl) rfl rfl ⟨by unfold v_of c_vd; rw [← ha, ← hw, if_neg h54, if_neg h60]; first | (rw [if_neg (show ¬ w = 1 from h67)]; rfl) | (rw [if_pos (show w = 1 from h67)]; rfl), rfl, rfl⟩
      · refine J_b 1 am_d75 rfl ?_
        exact J_iret (am_d75 rfl) rfl rfl ⟨by unfold v_of c_vd; rw [← ha, ← hw, if_neg h54, if_pos h60]; rfl, rfl, rfl⟩
    · refine J_b 1 am_d75 rfl ?_
      exact J_iret (am_d75 rfl) rfl rfl ⟨by unfold v_of c_vd; rw [← ha, if_pos h54]; rfl, rfl, rfl⟩
  | succ n ih =>
    intro i hn x ex a w ha hw
    subst ex
    have hlt : ¬ M 18 7 ≤ nI i := by rw [eS]; exact nI_ngt (by omega) (by omega)
    refine J_b 4 am_d75 rfl ?_
    refine J_icmp_ge 53 (am_d75 rfl) rfl (fun h16 => absurd h16 hlt) (fun h16 => ?_)
    refine J_b 3 am_d75 rfl ?_
    refine J_aaldk (61 + f) (am_d75 rfl) rfl (vp_in_nI hf (by decide)) (by rw [nI_c (by omega)]) ?_
    refine J_b 1 am_d75 rfl ?_
    refine J_iald (am_d75 rfl) (sh61 f hf) (vp_in_nI (show i < 5 by omega) (by decide)) ?_
    rw [nI_c (n := i) (by omega), hcc i (by omega)]
    refine J_if_le 34 (am_d75 rfl) rfl (fun h28 => ?_) (fun h28 => ?_)
    · refine J_b 3 am_d75 rfl ?_
      refine J_V2s 71 (am_d75 rfl) rfl rfl (sp71 h hk hf (by omega) hfs (by rw [eS, nI_i (by omega)]; omega)) ?_
      refine J_if_le 47 (am_d75 rfl) rfl (fun h41 => ?_) (fun h41 => ?_)
      · refine J_b 2 am_d75 rfl ?_
        exact ih (i + 1) (by omega) _ (nI_1 i) _ _ (ct_n ha h28) (ct_n hw h41)
      · refine J_b 3 am_d75 rfl ?_
        exact ih (i + 1) (by omega) _ (nI_1 i) _ _ (ct_n ha h28) (ct_p hw (Int32.not_le.mp h41))
    · refine J_b 1 am_d75 rfl ?_
      refine J_b 3 am_d75 rfl ?_
      refine J_V2s 71 (am_d75 rfl) rfl rfl (sp71 h hk hf (by omega) hfs (by rw [eS, nI_i (by omega)]; omega)) ?_
      refine J_if_le 47 (am_d75 rfl) rfl (fun h41 => ?_) (fun h41 => ?_)
      · refine J_b 2 am_d75 rfl ?_
        exact ih (i + 1) (by omega) _ (nI_1 i) _ _ (ct_p ha (Int32.not_le.mp h28)) (ct_n hw h41)
      · refine J_b 3 am_d75 rfl ?_
        exact ih (i + 1) (by omega) _ (nI_1 i) _ _ (ct_p ha (Int32.not_le.mp h28)) (ct_p hw (Int32.not_le.mp h41))
theorem sp75 {X : am_X} {M : am_M} {N : am_N} {N0 : am_N} {c0 f S : Nat} (h : iv c0 M N0) (hk : M 52 4 = M 1 11) (hf : f < 16) (hfs : (f : Int) < (M 32 7).toInt) (eS : M 18 7 = nI S) (hS : S ≤ 5) : am_J X (am_eq (some (.int (v_of M S f))) (M) N) 75 0 (am_en 75 [.ref 59, .int (nI f)]) [] M N := by
  refine J_en (L := [.ref 59, .int (nI f), .retAddr 0, .retAddr 0, .retAddr 0]) rfl ?_
  refine J_b 6 am_d75 rfl ?_
  exact lp75 h hk hf hfs eS hS (fun c hc => h.2.2.1 f c hfs (by rw [eS, nI_i (by omega)]; omega)) S 0 (Nat.zero_add _) _ rfl _ _ rfl rfl
