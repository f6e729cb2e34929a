/-! ===== the reference's drift: months and casts; what rows a drift leaves alone ===== -/
theorem sA_0 {s : am_M} {p : Nat} : s_A s p 0 = s := by
  unfold s_A
  rw [cl_0, cl_0, upR_id, upR_id]
theorem sB_0 {s : am_M} : s_B s 0 = s := by
  unfold s_B
  rw [cl_0, upR_id]
theorem sN_0 {s : am_M} : s_N s 0 = s := by
  unfold s_N
  rw [cl_0, upR_id]
theorem sK_0 {s : am_M} : s_K s 0 = s := by
  unfold s_K
  rw [cl_0, cl_0, show s 0 14 + smI (s 1) 0 = s 0 14 from Int32.add_zero _, up_id rfl, upR_id, upR_id]
theorem sk_p {kd sk : Int32} {t : Nat} {s : am_M} (ht : t < 1000) (h : kd = 2 ∧ sk ≤ nI t) : c_sk kd sk t s = am_upR (am_up s 0 14 (s 0 14 + smI (s 1) 60)) 1 c_z := by
  unfold c_sk
  rw [if_pos ⟨h.1, by have := Int32.le_iff_toInt_le.mp h.2; rw [nI_i (by omega)] at this; exact this⟩]
theorem sk_n {kd sk : Int32} {t : Nat} {s : am_M} (ht : t < 1000) (h : ¬ (kd = 2 ∧ sk ≤ nI t)) : c_sk kd sk t s = s := by
  unfold c_sk
  rw [if_neg (fun hc => h ⟨hc.1, by rw [Int32.le_iff_toInt_le, nI_i (by omega)]; exact hc.2⟩)]
theorem nle_nI {a b : Nat} (h : a < b) (hb : b < 2147483648) : ¬ nI b ≤ nI a := nI_ngt h hb
theorem lp155M {X : am_X} {M : am_M} {N : am_N} {kd sk : Int32} {mo p cnt : Nat} {s0 : am_M} (hmo : mo < 100) (hc : cnt ≤ 12) (hb : e_b (sR M)) (hk : b_in kd 0 3) (hsh : ∀ j, b_in (M 130 j) (-1) 1) : ∀ (n t : Nat), t + n = cnt → ∀ (x : Int32), x = nI t → ∀ (s1 : am_M), s1 = itr (c_mo (sR M) (M 130) kd mo sk) t s0 → ∀ (z7 z8 z9 : Value), am_J X (am_eq none (dr_R M (itr (c_mo (sR M) (M 130) kd mo sk) cnt s0)) N) 155 86 [.ref 120, .int kd, .int (nI mo), .int (nI p), .int sk, .int (nI cnt), .int x, z7, z8, z9] [] (dr_R M s1) N := by
  intro n
  induction n with
  | zero =>
    intro t hn x ex s1 es z7 z8 z9
    have e : t = cnt := by omega
    subst e
    subst ex
    refine J_b 2 am_d155 rfl ?_
    refine J_icmp_ge 303 (am_d155 rfl) rfl (fun h90 => ?_) (fun h90 => absurd (z_ge rfl) h90)
    exact J_ret (am_d155 rfl) rfl ⟨rfl, by rw [es], rfl⟩
  | succ n ih =>
    intro t hn x ex s1 es z7 z8 z9
    subst ex
    refine J_b 2 am_d155 rfl ?_
    refine J_icmp_ge 303 (am_d155 rfl) rfl (fun h90 => absurd h90 (nle_nI (by omega) (by omega))) (fun h90 => ?_)
    refine J_b 2 am_d155 rfl ?_
    by_cases hs : kd = 2 ∧ sk ≤ nI t
    · refine lp155K hs (fun x => ?_) 60 0 rfl _ rfl _ sK_0.symm
      refine J_mr 144 c_z rfl (fun j hj => (cl_p hj).symm) ?_
      rw [R_r2]
      refine J_mr 143 c_z rfl (fun j hj => (cl_p hj).symm) ?_
      rw [R_r1]
      refine J_mem (R_st (st' := am_upR (am_upR (am_up s1 0 14 (s1 0 14 + smI (s1 1) 60)) 1 c_z) 2 c_z) rfl rfl rfl rfl rfl rfl rfl) ?_
      refine J_b 2 am_d155 rfl ?_
      refine lp155D hmo (by omega) hb hk hsh (fun x => ?_) 60 0 rfl _ rfl _ rfl
      refine J_b 2 am_d155 rfl ?_
      refine lp155W (by omega) (fun x z8 z9 => ?_) 60 0 rfl _ rfl _ _ _ (by rw [wi_0, bi_0])
      refine J_b 1 am_d155 rfl ?_
      refine J_b 1 am_d155 rfl ?_
      refine ih (t + 1) (by omega) _ (nI_1 t) _ ?_ _ _ _
      rw [show itr (c_mo (sR M) (M 130) kd mo sk) (t + 1) s0 = c_mo (sR M) (M 130) kd mo sk t s1 from by rw [es]; rfl]
      unfold c_mo
      rw [sk_p (by omega) hs]
      rfl
    · refine lp155N hs (fun x => ?_) 60 0 rfl _ rfl _ sN_0.symm
      refine J_mr 144 c_z rfl (fun j hj => (cl_p hj).symm) ?_
      rw [R_r2]
      refine J_mem (R_st (st' := am_upR s1 2 c_z) rfl rfl rfl rfl rfl rfl rfl) ?_
      refine J_b 2 am_d155 rfl ?_
      refine lp155D hmo (by omega) hb hk hsh (fun x => ?_) 60 0 rfl _ rfl _ rfl
      refine J_b 2 am_d155 rfl ?_
      refine lp155W (by omega) (fun x z8 z9 => ?_) 60 0 rfl _ rfl _ _ _ (by rw [wi_0, bi_0])
      refine J_b 1 am_d155 rfl ?_
      refine J_b 1 am_d155 rfl ?_
      refine ih (t + 1) (by omega) _ (nI_1 t) _ ?_ _ _ _
      rw [show itr (c_mo (sR M) (M 130) kd mo sk) (t + 1) s0 = c_mo (sR M) (M 130) kd mo sk t s1 from by rw [es]; rfl]
      unfold c_mo
      rw [sk_n (by omega) hs]
      rfl
theorem sp155 {X : am_X} {M : am_M} {N : am_N} {kd sk : Int32} {mo p cnt : Nat} (hp : p < 60) (hmo : mo < 100) (hc : cnt ≤ 12) (hb : e_b (sR M)) (hk : b_in kd 0 3) (hsh : ∀ j, b_in (M 130 j) (-1) 1) : am_J X (am_eq none (dr_R M (c_dr (sR M) (M 130) kd mo p sk (M 144) cnt)) N) 155 0 (am_en 155 [.ref 120, .int kd, .int (nI mo), .int (nI p), .int sk, .int (nI cnt)]) [] M N := by
  refine J_en (L := [.ref 120, .int kd, .int (nI mo), .int (nI p), .int sk, .int (nI cnt), .retAddr 0, .retAddr 0, .retAddr 0, .retAddr 0]) rfl ?_
  refine J_mem (R_of M) ?_
  refine J_b 2 am_d155 rfl ?_
  refine lp155A hp (fun x => ?_) 60 0 rfl _ rfl _ sA_0.symm
  refine J_b 2 am_d155 rfl ?_
  refine lp155B (fun x => ?_) 720 0 rfl _ rfl _ sB_0.symm
  refine J_b 2 am_d155 rfl ?_
  refine J_puti (am_d155 rfl) rfl ?_
  rw [R_f12]
  refine J_b 2 am_d155 rfl ?_
  refine J_puti (am_d155 rfl) rfl ?_
  rw [R_f13]
  refine J_b 2 am_d155 rfl ?_
  refine J_puti (am_d155 rfl) rfl ?_
  rw [R_f14]
  refine J_b 2 am_d155 rfl ?_
  refine J_mr 143 (c_s0 p (M 144) 1) rfl (fun j hj => ?_) ?_
  · refine Eq.trans ?_ (cl_p (g := c_w0 p) (f := (fun k j => if k = 0 then M 120 (15 + j) else M (142 + k) j) 1) hj).symm
    exact (s0_1 (r := M 144)).symm
  rw [R_r1]
  refine J_mr 145 c_z rfl (fun j hj => (cl_p (g := c_z) (f := (fun k j => if k = 0 then M 120 (15 + j) else M (142 + k) j) 3) hj).symm) ?_
  rw [R_r3]
  refine J_mr 146 c_z rfl (fun j hj => (cl_p (g := c_z) (f := (fun k j => if k = 0 then M 120 (15 + j) else M (142 + k) j) 4) hj).symm) ?_
  rw [R_r4]
  refine J_mem (R_st (st' := c_s0 p (M 144)) rfl rfl rfl rfl rfl rfl rfl) ?_
  exact lp155M hmo hc hb hk hsh cnt 0 (by omega) _ rfl _ rfl _ _ _
theorem sp154 {X : am_X} {M : am_M} {N : am_N} {c cnt : Nat} (hc5 : c < 5) (hc : cnt ≤ 12) (hb : e_b (sR M)) (hsh : ∀ j, b_in (M 130 j) (-1) 1) (hk : b_in (M 136 c) 0 3) (hmo : b_in (M 139 c) 0 47) (hpl : b_in (M 140 c) 0 59) : am_J X (am_eq (none) (dr_R M (c_dr (sR M) (M 130) (M 136 c) (M 139 c).toNatClampNeg (M 140 c).toNatClampNeg (M 142 c) (M 144) cnt)) N) 154 0 (am_en 154 [.ref 120, .int (nI c), .int (nI cnt)]) [] (M) N := by
  have e1 : M 139 c = nI (M 139 c).toNatClampNeg := I_nI hmo.1
  have e2 : M 140 c = nI (M 140 c).toNatClampNeg := I_nI hpl.1
  unfold b_in at hmo hpl
  have i1 := I_cl hmo.1
  have i2 := I_cl hpl.1
  refine J_en (L := [.ref 120, .int (nI c), .int (nI cnt)]) rfl ?_
  refine J_b 4 am_d154 rfl ?_
  refine J_iald (am_d154 rfl) rfl (vp_in_nI hc5 (by decide)) ?_
  rw [nI_c (n := c) (by omega)]
  show am_J X _ 154 7 _ (.int (M 136 c) :: _) _ N
  refine J_b 3 am_d154 rfl ?_
  refine J_iald (am_d154 rfl) rfl (vp_in_nI hc5 (by decide)) ?_
  rw [nI_c (n := c) (by omega)]
  show am_J X _ 154 13 _ (.int (M 139 c) :: _) _ N
  refine J_b 3 am_d154 rfl ?_
  refine J_iald (am_d154 rfl) rfl (vp_in_nI hc5 (by decide)) ?_
  rw [nI_c (n := c) (by omega)]
  show am_J X _ 154 19 _ (.int (M 140 c) :: _) _ N
  refine J_b 3 am_d154 rfl ?_
  refine J_iald (am_d154 rfl) rfl (vp_in_nI hc5 (by decide)) ?_
  rw [nI_c (n := c) (by omega)]
  show am_J X _ 154 25 _ (.int (M 142 c) :: _) _ N
  refine J_b 1 am_d154 rfl ?_
  rw [e1, e2]
  refine J_V5n 155 (am_d154 rfl) rfl rfl (sp155 (by omega) (by omega) hc hb hk hsh) ?_
  exact J_ret (am_d154 rfl) rfl ⟨rfl, by rw [nI_c (by omega), nI_c (by omega)], rfl⟩
theorem s0_r {p : Nat} {r r' : Nat → Int32} {k : Nat} (hk : k ≠ 2) : c_s0 p r k = c_s0 p r' k := by
  funext j
  unfold c_s0
  rw [if_neg hk, if_neg hk]
theorem mo_r {E : am_M} {sh : Nat → Int32} {kd sk : Int32} {m t : Nat} {s s' : am_M} (h : ∀ k, k ≠ 2 → s k = s' k) : c_mo E sh kd m sk t s = c_mo E sh kd m sk t s' := by
  have e : am_upR (c_sk kd sk t s) 2 c_z = am_upR (c_sk kd sk t s') 2 c_z := by
    funext r
    by_cases hr : r = 2
    · subst hr
      rfl
    · rw [upR_n hr, upR_n hr]
      unfold c_sk
      split
      · by_cases h1 : r = 1
        · subst h1
          rfl
        · rw [upR_n h1, upR_n h1]
          funext j
          unfold am_up
          rw [h 0 (by decide), h 1 (by decide), h r hr]
      · exact h r hr
  unfold c_mo c_gw
  rw [e]
theorem dr_rr {E : am_M} {sh : Nat → Int32} {kd sk : Int32} {m p : Nat} {r r' : Nat → Int32} : ∀ n, c_dr E sh kd m p sk r (n + 1) = c_dr E sh kd m p sk r' (n + 1) := by
  intro n
  induction n with
  | zero => exact mo_r (fun k hk => s0_r hk)
  | succ n ih =>
    show c_mo E sh kd m sk (n + 1) (c_dr E sh kd m p sk r (n + 1)) = c_mo E sh kd m sk (n + 1) (c_dr E sh kd m p sk r' (n + 1))
    rw [ih]
theorem dr_row {E : am_M} {sh : Nat → Int32} {kd sk : Int32} {m p : Nat} (r r' : Nat → Int32) {n k : Nat} (hk : k ≠ 2) : c_dr E sh kd m p sk r n k = c_dr E sh kd m p sk r' n k := by
  cases n with
  | zero => exact s0_r hk
  | succ n => rw [dr_rr n]
theorem s0_4 {p : Nat} {r : Nat → Int32} (k : Nat) : c_s0 p r 4 k = 0 := rfl
theorem sR_D40 {kd mo sk gn ew nw : Int32} {sh : Nat → Int32} {st : am_M} {M : am_M} : sR (dr_D M 40 kd mo sk gn ew nw sh st) = sR M := rfl
theorem sC_D40 {kd mo sk gn ew nw : Int32} {sh : Nat → Int32} {st : am_M} {M : am_M} : sC (dr_D M 40 kd mo sk gn ew nw sh st) = sC M := rfl
theorem sR_D46 {kd mo sk gn ew nw : Int32} {sh : Nat → Int32} {st : am_M} {M : am_M} : sR (dr_D M 46 kd mo sk gn ew nw sh st) = sR M := rfl
theorem sC_D46 {kd mo sk gn ew nw : Int32} {sh : Nat → Int32} {st : am_M} {M : am_M} : sC (dr_D M 46 kd mo sk gn ew nw sh st) = sC M := rfl
theorem sR_R {M st : am_M} : sR (dr_R M st) = sR M := rfl
theorem sC_R {M st : am_M} : sC (dr_R M st) = sC M := rfl
def sc_r (r : Nat) : Prop := r ≠ 120 ∧ (r < 40 ∨ 51 < r) ∧ (r < 143 ∨ 147 < r) ∧ (r < 160 ∨ 163 < r) ∧ r ≠ 78 ∧ r ≠ 108 ∧ r ≠ 109 ∧ r ≠ 119
def sc_ok (M M' : am_M) : Prop := (∀ r, sc_r r → M' r = M r) ∧ M' 120 22 = M 120 22 ∧ M' 120 43 = M 120 43 ∧ M' 120 44 = M 120 44 ∧ M' 120 45 = M 120 45 ∧ M' 120 55 = M 120 55 ∧ M' 120 56 = M 120 56
theorem sc_t {M M' M'' : am_M} (h : sc_ok M M') (h2 : sc_ok M' M'') : sc_ok M M'' := by
  obtain ⟨a, b, c, d, e, f, g⟩ := h
  obtain ⟨a2, b2, c2, d2, e2, f2, g2⟩ := h2
  exact ⟨fun r hr => (a2 r hr).trans (a r hr), b2.trans b, c2.trans c, d2.trans d, e2.trans e, f2.trans f, g2.trans g⟩
theorem sc_0 {M : am_M} : sc_ok M M := ⟨fun _ _ => rfl, rfl, rfl, rfl, rfl, rfl, rfl⟩
theorem sc_R {M st : am_M} : sc_ok M (dr_R M st) := ⟨fun r hr => R_n ⟨hr.1, by have := hr.2.2.1; omega⟩, rfl, rfl, rfl, rfl, rfl, rfl⟩
theorem sc_up {M : am_M} {k j : Nat} {x : Int32} (h : ¬ sc_r k) (hk : k ≠ 120) : sc_ok M (am_up M k j x) := by
  refine ⟨fun r hr => up_n (fun z => h (z ▸ hr)), ?_, ?_, ?_, ?_, ?_, ?_⟩ <;> rw [up_n (fun z => hk z.symm)]
theorem sc_uR {M : am_M} {k : Nat} {f : Nat → Int32} (h : ¬ sc_r k) (hk : k ≠ 120) : sc_ok M (am_upR M k f) := by
  refine ⟨fun r hr => upR_n (fun z => h (z ▸ hr)), ?_, ?_, ?_, ?_, ?_, ?_⟩ <;> rw [upR_n (fun z => hk z.symm)]
theorem sc_D40 {kd mo sk gn ew nw : Int32} {sh : Nat → Int32} {st : am_M} {M : am_M} : sc_ok M (dr_D M 40 kd mo sk gn ew nw sh st) := ⟨fun r hr => D_n (by have := hr.2.1; omega), rfl, rfl, rfl, rfl, rfl, rfl⟩
theorem sc_D46 {kd mo sk gn ew nw : Int32} {sh : Nat → Int32} {st : am_M} {M : am_M} : sc_ok M (dr_D M 46 kd mo sk gn ew nw sh st) := ⟨fun r hr => D_n (by have := hr.2.1; omega), rfl, rfl, rfl, rfl, rfl, rfl⟩
theorem iv_sc {c : Nat} {M M' : am_M} {N N' : am_N} (h : iv c M N) (hs : sc_ok M M') : iv (c + 1) M' N' := by
  obtain ⟨e, x22, x43, x44, x45, x55, x56⟩ := hs
  have e3 : M' 3 = M 3 := e 3 (by unfold sc_r; omega)
  have e4 : M' 4 = M 4 := e 4 (by unfold sc_r; omega)
  have e5 : M' 5 = M 5 := e 5 (by unfold sc_r; omega)
  have e6 : M' 6 = M 6 := e 6 (by unfold sc_r; omega)
  have e7 : M' 7 = M 7 := e 7 (by unfold sc_r; omega)
  have e8 : M' 8 = M 8 := e 8 (by unfold sc_r; omega)
  have e9 : M' 9 = M 9 := e 9 (by unfold sc_r; omega)
  have e10 : M' 10 = M 10 := e 10 (by unfold sc_r; omega)
  have e11 : M' 11 = M 11 := e 11 (by unfold sc_r; omega)
  have e12 : M' 12 = M 12 := e 12 (by unfold sc_r; omega)
  have e13 : M' 13 = M 13 := e 13 (by unfold sc_r; omega)
  have e14 : M' 14 = M 14 := e 14 (by unfold sc_r; omega)
  have e15 : M' 15 = M 15 := e 15 (by unfold sc_r; omega)
  have e16 : M' 16 = M 16 := e 16 (by unfold sc_r; omega)
  have e17 : M' 17 = M 17 := e 17 (by unfold sc_r; omega)
  have e19 : M' 19 = M 19 := e 19 (by unfold sc_r; omega)
  have e20 : M' 20 = M 20 := e 20 (by unfold sc_r; omega)
  have e21 : M' 21 = M 21 := e 21 (by unfold sc_r; omega)
  have e22 : M' 22 = M 22 := e 22 (by unfold sc_r; omega)
  have e23 : M' 23 = M 23 := e 23 (by unfold sc_r; omega)
  have e24 : M' 24 = M 24 := e 24 (by unfold sc_r; omega)
  have e25 : M' 25 = M 25 := e 25 (by unfold sc_r; omega)
  have e27 : M' 27 = M 27 := e 27 (by unfold sc_r; omega)
  have e28 : M' 28 = M 28 := e 28 (by unfold sc_r; omega)
  have e29 : M' 29 = M 29 := e 29 (by unfold sc_r; omega)
  have e30 : M' 30 = M 30 := e 30 (by unfold sc_r; omega)
  have e31 : M' 31 = M 31 := e 31 (by unfold sc_r; omega)
  have e33 : M' 33 = M 33 := e 33 (by unfold sc_r; omega)
  have e34 : M' 34 = M 34 := e 34 (by unfold sc_r; omega)
  have e35 : M' 35 = M 35 := e 35 (by unfold sc_r; omega)
  have e36 : M' 36 = M 36 := e 36 (by unfold sc_r; omega)
  have e37 : M' 37 = M 37 := e 37 (by unfold sc_r; omega)
  have e38 : M' 38 = M 38 := e 38 (by unfold sc_r; omega)
  have e39 : M' 39 = M 39 := e 39 (by unfold sc_r; omega)
  have e107 : M' 107 = M 107 := e 107 (by unfold sc_r; omega)
  have e111 : M' 111 = M 111 := e 111 (by unfold sc_r; omega)
  have e113 : M' 113 = M 113 := e 113 (by unfold sc_r; omega)
  have e114 : M' 114 = M 114 := e 114 (by unfold sc_r; omega)
  have e115 : M' 115 = M 115 := e 115 (by unfold sc_r; omega)
  have e116 : M' 116 = M 116 := e 116 (by unfold sc_r; omega)
  have e117 : M' 117 = M 117 := e 117 (by unfold sc_r; omega)
  have e118 : M' 118 = M 118 := e 118 (by unfold sc_r; omega)
  have e121 : M' 121 = M 121 := e 121 (by unfold sc_r; omega)
  have e122 : M' 122 = M 122 := e 122 (by unfold sc_r; omega)
  have e123 : M' 123 = M 123 := e 123 (by unfold sc_r; omega)
  have e124 : M' 124 = M 124 := e 124 (by unfold sc_r; omega)
  have e125 : M' 125 = M 125 := e 125 (by unfold sc_r; omega)
  have e126 : M' 126 = M 126 := e 126 (by unfold sc_r; omega)
  have e127 : M' 127 = M 127 := e 127 (by unfold sc_r; omega)
  have e128 : M' 128 = M 128 := e 128 (by unfold sc_r; omega)
  have e129 : M' 129 = M 129 := e 129 (by unfold sc_r; omega)
  have e130 : M' 130 = M 130 := e 130 (by unfold sc_r; omega)
  have e131 : M' 131 = M 131 := e 131 (by unfold sc_r; omega)
  have e132 : M' 132 = M 132 := e 132 (by unfold sc_r; omega)
  have e133 : M' 133 = M 133 := e 133 (by unfold sc_r; omega)
  have e134 : M' 134 = M 134 := e 134 (by unfold sc_r; omega)
  have e135 : M' 135 = M 135 := e 135 (by unfold sc_r; omega)
  have e136 : M' 136 = M 136 := e 136 (by unfold sc_r; omega)
  have e137 : M' 137 = M 137 := e 137 (by unfold sc_r; omega)
  have e138 : M' 138 = M 138 := e 138 (by unfold sc_r; omega)
  have e139 : M' 139 = M 139 := e 139 (by unfold sc_r; omega)
  have e140 : M' 140 = M 140 := e 140 (by unfold sc_r; omega)
  have e141 : M' 141 = M 141 := e 141 (by unfold sc_r; omega)
  have e142 : M' 142 = M 142 := e 142 (by unfold sc_r; omega)
  have e148 : M' 148 = M 148 := e 148 (by unfold sc_r; omega)
  have e149 : M' 149 = M 149 := e 149 (by unfold sc_r; omega)
  have e150 : M' 150 = M 150 := e 150 (by unfold sc_r; omega)
  have e151 : M' 151 = M 151 := e 151 (by unfold sc_r; omega)
  have e152 : M' 152 = M 152 := e 152 (by unfold sc_r; omega)
  have e153 : M' 153 = M 153 := e 153 (by unfold sc_r; omega)
  have e154 : M' 154 = M 154 := e 154 (by unfold sc_r; omega)
  have e155 : M' 155 = M 155 := e 155 (by unfold sc_r; omega)
  have e156 : M' 156 = M 156 := e 156 (by unfold sc_r; omega)
  have e157 : M' 157 = M 157 := e 157 (by unfold sc_r; omega)
  have e158 : M' 158 = M 158 := e 158 (by unfold sc_r; omega)
  have e159 : M' 159 = M 159 := e 159 (by unfold sc_r; omega)
  have e164 : M' 164 = M 164 := e 164 (by unfold sc_r; omega)
  have e165 : M' 165 = M 165 := e 165 (by unfold sc_r; omega)
  have e166 : M' 166 = M 166 := e 166 (by unfold sc_r; omega)
  have e167 : M' 167 = M 167 := e 167 (by unfold sc_r; omega)
  have e0 : M' 0 = M 0 := e 0 (by unfold sc_r; omega)
  have e1 : M' 1 = M 1 := e 1 (by unfold sc_r; omega)
  have e18 : M' 18 = M 18 := e 18 (by unfold sc_r; omega)
  have e26 : M' 26 = M 26 := e 26 (by unfold sc_r; omega)
  have e32 : M' 32 = M 32 := e 32 (by unfold sc_r; omega)
  have e52 : M' 52 = M 52 := e 52 (by unfold sc_r; omega)
  have e110 : M' 110 = M 110 := e 110 (by unfold sc_r; omega)
  have e112 : M' 112 = M 112 := e 112 (by unfold sc_r; omega)
  have eC : sC M' = sC M := by
    unfold sC
    rw [e3, e4, e5, e6, e7, e8, e9, e10, e11, e12, e13, e14, e15, e16]
  obtain ⟨⟨⟨hs, hb⟩, ⟨hca, hcb⟩, ⟨hna, hnb⟩, ⟨hfi, hfb⟩⟩, ⟨hti, hta, hpr⟩, hcc, hch, hkl, hkd⟩ := h
  have ecf : ∀ sh c, c_cf (sC M') M' sh c = c_cf (sC M) M sh c := by
    intro sh c
    unfold c_cf
    rw [eC, e19, e22, e23, e25]
  have h16 := hfb.1.2
  have h5 := hcb.1.2
  refine ⟨⟨⟨?_, ?_⟩, ⟨?_, ?_⟩, ⟨?_, ?_⟩, ⟨?_, ?_⟩⟩, ⟨?_, ?_, ?_⟩, ?_, ?_, ?_, ?_⟩
  · unfold iv_sea
    rw [e121, e3, e122, e4, e123, e5, e124, e6, e125, e7, e126, e8, e127, e9, e128, e10, e129, e11, e131, e12, e132, e13, e135, e14, e133, e15, e134, e16, e130, e17]
    exact hs
  · unfold iv_sb
    rw [e4, e5, e6, e8, e9, e10, e11, e12, e13, e15, e16, e17]
    exact hb
  · unfold iv_ca
    rw [e136, e19, e137, e20, e138, e21, e139, e22, e140, e23, e141, e24, e142, e25, e18, x22]
    exact hca
  · unfold iv_cb
    rw [e18, e19, e20, e21, e22, e23, e25]
    exact hcb
  · unfold iv_na
    rw [e148, e27, e149, e28, e150, e29, e151, e30, e152, e31, e26, x43]
    exact hna
  · unfold iv_nb
    rw [e26, e27, e28, e29, e30]
    exact hnb
  · unfold iv_fi
    rw [e153, e33, e154, e34, e155, e35, e156, e36, e157, e37, e158, e38, e159, e39, e32, x44]
    exact hfi
  · unfold iv_fb
    rw [e32, e35, e36, e37, e39]
    exact hfb
  · unfold iv_ti
    rw [x45, e0, e38]
    exact hti
  · unfold iv_ta
    rw [e164, e111, x55, e110]
    exact hta
  · unfold iv_pr
    rw [x56, e112, e165, e113, e166, e114, e167, e115, e116, e117, e118]
    exact hpr
  · intro f c hf hc
    rw [e32] at hf
    rw [e18] at hc
    rw [e (61 + f) (by unfold sc_r; omega), hcc f c hf hc]
    unfold c_cd
    rw [e33, e34, e24, e20, e21]
  · obtain ⟨g1, g2, g3, g4⟩ := hch
    unfold iv_ch
    rw [e1, e52, e107]
    exact ⟨g1, by omega, g3, g4⟩
  · intro z cc hc j hj
    rw [e52, e1] at z
    rw [e18] at hc
    rw [e (54 + cc) (by unfold sc_r; omega), ecf, e17]
    exact hkl z cc hc j hj
  · intro a ha z cc n hc hn
    rw [e107, e1] at z
    rw [e18] at hc
    rw [e26] at hn
    rw [e (80 + a) (by unfold sc_r; omega)]
    unfold c_du
    rw [ecf, e21, e27, e28, e29, e30]
    exact hkd a ha z cc n hc hn
