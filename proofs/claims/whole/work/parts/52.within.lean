/-! ===== what stays while caches are made; found in a name ===== -/
def rg_r (r : Nat) : Prop := sc_r r ∧ ¬ (52 ≤ r ∧ r ≤ 58) ∧ ¬ (80 ≤ r ∧ r ≤ 107)
def md (M M' : am_M) : Prop := (∀ r, rg_r r → M' r = M r) ∧ M' 120 22 = M 120 22 ∧ M' 120 43 = M 120 43 ∧ M' 120 44 = M 120 44 ∧ M' 120 45 = M 120 45 ∧ M' 120 55 = M 120 55 ∧ M' 120 56 = M 120 56
theorem md_0 {M : am_M} : md M M := ⟨fun _ _ => rfl, rfl, rfl, rfl, rfl, rfl, rfl⟩
theorem md_t {M M' M'' : am_M} (h : md M M') (h2 : md M' M'') : md M M'' := by
  obtain ⟨a, b, c, d, e, f, g⟩ := h
  obtain ⟨a2, b2, c2, d2, e2, f2, g2⟩ := h2
  exact ⟨fun r hr => (a2 r hr).trans (a r hr), b2.trans b, c2.trans c, d2.trans d, e2.trans e, f2.trans f, g2.trans g⟩
theorem md_sc {M M' : am_M} (h : sc_ok M M') : md M M' := ⟨fun r hr => h.1 r hr.1, h.2⟩
theorem md_up {M : am_M} {k j : Nat} {x : Int32} (h : ¬ rg_r k) (hk : k ≠ 120) : md M (am_up M k j x) := by
  refine ⟨fun r hr => up_n (fun z => h (z ▸ hr)), ?_, ?_, ?_, ?_, ?_, ?_⟩ <;> rw [up_n (fun z => hk z.symm)]
theorem md_uR {M : am_M} {k : Nat} {f : Nat → Int32} (h : ¬ rg_r k) (hk : k ≠ 120) : md M (am_upR M k f) := by
  refine ⟨fun r hr => upR_n (fun z => h (z ▸ hr)), ?_, ?_, ?_, ?_, ?_, ?_⟩ <;> rw [upR_n (fun z => hk z.symm)]
theorem md_sC {M M' : am_M} (h : md M M') : sC M' = sC M := by
  unfold sC
  rw [h.1 3 (by unfold rg_r sc_r; omega), h.1 4 (by unfold rg_r sc_r; omega), h.1 5 (by unfold rg_r sc_r; omega), h.1 6 (by unfold rg_r sc_r; omega), h.1 7 (by unfold rg_r sc_r; omega), h.1 8 (by unfold rg_r sc_r; omega), h.1 9 (by unfold rg_r sc_r; omega), h.1 10 (by unfold rg_r sc_r; omega), h.1 11 (by unfold rg_r sc_r; omega), h.1 12 (by unfold rg_r sc_r; omega), h.1 13 (by unfold rg_r sc_r; omega), h.1 14 (by unfold rg_r sc_r; omega), h.1 15 (by unfold rg_r sc_r; omega), h.1 16 (by unfold rg_r sc_r; omega)]
theorem iv_md {c0 c : Nat} {M M' : am_M} {N N' : am_N} (h : iv c0 M N) (hm : md M M') (hch : iv_ch c M') (hkl : iv_kl M') (hkd : iv_kd M') : iv c M' N' := by
  obtain ⟨e, x22, x43, x44, x45, x55, x56⟩ := hm
  have e3 : M' 3 = M 3 := e 3 (by unfold rg_r sc_r; omega)
  have e4 : M' 4 = M 4 := e 4 (by unfold rg_r sc_r; omega)
  have e5 : M' 5 = M 5 := e 5 (by unfold rg_r sc_r; omega)
  have e6 : M' 6 = M 6 := e 6 (by unfold rg_r sc_r; omega)
  have e7 : M' 7 = M 7 := e 7 (by unfold rg_r sc_r; omega)
  have e8 : M' 8 = M 8 := e 8 (by unfold rg_r sc_r; omega)
  have e9 : M' 9 = M 9 := e 9 (by unfold rg_r sc_r; omega)
  have e10 : M' 10 = M 10 := e 10 (by unfold rg_r sc_r; omega)
  have e11 : M' 11 = M 11 := e 11 (by unfold rg_r sc_r; omega)
  have e12 : M' 12 = M 12 := e 12 (by unfold rg_r sc_r; omega)
  have e13 : M' 13 = M 13 := e 13 (by unfold rg_r sc_r; omega)
  have e14 : M' 14 = M 14 := e 14 (by unfold rg_r sc_r; omega)
  have e15 : M' 15 = M 15 := e 15 (by unfold rg_r sc_r; omega)
  have e16 : M' 16 = M 16 := e 16 (by unfold rg_r sc_r; omega)
  have e17 : M' 17 = M 17 := e 17 (by unfold rg_r sc_r; omega)
  have e19 : M' 19 = M 19 := e 19 (by unfold rg_r sc_r; omega)
  have e20 : M' 20 = M 20 := e 20 (by unfold rg_r sc_r; omega)
  have e21 : M' 21 = M 21 := e 21 (by unfold rg_r sc_r; omega)
  have e22 : M' 22 = M 22 := e 22 (by unfold rg_r sc_r; omega)
  have e23 : M' 23 = M 23 := e 23 (by unfold rg_r sc_r; omega)
  have e24 : M' 24 = M 24 := e 24 (by unfold rg_r sc_r; omega)
  have e25 : M' 25 = M 25 := e 25 (by unfold rg_r sc_r; omega)
  have e27 : M' 27 = M 27 := e 27 (by unfold rg_r sc_r; omega)
  have e28 : M' 28 = M 28 := e 28 (by unfold rg_r sc_r; omega)
  have e29 : M' 29 = M 29 := e 29 (by unfold rg_r sc_r; omega)
  have e30 : M' 30 = M 30 := e 30 (by unfold rg_r sc_r; omega)
  have e31 : M' 31 = M 31 := e 31 (by unfold rg_r sc_r; omega)
  have e33 : M' 33 = M 33 := e 33 (by unfold rg_r sc_r; omega)
  have e34 : M' 34 = M 34 := e 34 (by unfold rg_r sc_r; omega)
  have e35 : M' 35 = M 35 := e 35 (by unfold rg_r sc_r; omega)
  have e36 : M' 36 = M 36 := e 36 (by unfold rg_r sc_r; omega)
  have e37 : M' 37 = M 37 := e 37 (by unfold rg_r sc_r; omega)
  have e38 : M' 38 = M 38 := e 38 (by unfold rg_r sc_r; omega)
  have e39 : M' 39 = M 39 := e 39 (by unfold rg_r sc_r; omega)
  have e111 : M' 111 = M 111 := e 111 (by unfold rg_r sc_r; omega)
  have e113 : M' 113 = M 113 := e 113 (by unfold rg_r sc_r; omega)
  have e114 : M' 114 = M 114 := e 114 (by unfold rg_r sc_r; omega)
  have e115 : M' 115 = M 115 := e 115 (by unfold rg_r sc_r; omega)
  have e116 : M' 116 = M 116 := e 116 (by unfold rg_r sc_r; omega)
  have e117 : M' 117 = M 117 := e 117 (by unfold rg_r sc_r; omega)
  have e118 : M' 118 = M 118 := e 118 (by unfold rg_r sc_r; omega)
  have e121 : M' 121 = M 121 := e 121 (by unfold rg_r sc_r; omega)
  have e122 : M' 122 = M 122 := e 122 (by unfold rg_r sc_r; omega)
  have e123 : M' 123 = M 123 := e 123 (by unfold rg_r sc_r; omega)
  have e124 : M' 124 = M 124 := e 124 (by unfold rg_r sc_r; omega)
  have e125 : M' 125 = M 125 := e 125 (by unfold rg_r sc_r; omega)
  have e126 : M' 126 = M 126 := e 126 (by unfold rg_r sc_r; omega)
  have e127 : M' 127 = M 127 := e 127 (by unfold rg_r sc_r; omega)
  have e128 : M' 128 = M 128 := e 128 (by unfold rg_r sc_r; omega)
  have e129 : M' 129 = M 129 := e 129 (by unfold rg_r sc_r; omega)
  have e130 : M' 130 = M 130 := e 130 (by unfold rg_r sc_r; omega)
  have e131 : M' 131 = M 131 := e 131 (by unfold rg_r sc_r; omega)
  have e132 : M' 132 = M 132 := e 132 (by unfold rg_r sc_r; omega)
  have e133 : M' 133 = M 133 := e 133 (by unfold rg_r sc_r; omega)
  have e134 : M' 134 = M 134 := e 134 (by unfold rg_r sc_r; omega)
  have e135 : M' 135 = M 135 := e 135 (by unfold rg_r sc_r; omega)
  have e136 : M' 136 = M 136 := e 136 (by unfold rg_r sc_r; omega)
  have e137 : M' 137 = M 137 := e 137 (by unfold rg_r sc_r; omega)
  have e138 : M' 138 = M 138 := e 138 (by unfold rg_r sc_r; omega)
  have e139 : M' 139 = M 139 := e 139 (by unfold rg_r sc_r; omega)
  have e140 : M' 140 = M 140 := e 140 (by unfold rg_r sc_r; omega)
  have e141 : M' 141 = M 141 := e 141 (by unfold rg_r sc_r; omega)
  have e142 : M' 142 = M 142 := e 142 (by unfold rg_r sc_r; omega)
  have e148 : M' 148 = M 148 := e 148 (by unfold rg_r sc_r; omega)
  have e149 : M' 149 = M 149 := e 149 (by unfold rg_r sc_r; omega)
  have e150 : M' 150 = M 150 := e 150 (by unfold rg_r sc_r; omega)
  have e151 : M' 151 = M 151 := e 151 (by unfold rg_r sc_r; omega)
  have e152 : M' 152 = M 152 := e 152 (by unfold rg_r sc_r; omega)
  have e153 : M' 153 = M 153 := e 153 (by unfold rg_r sc_r; omega)
  have e154 : M' 154 = M 154 := e 154 (by unfold rg_r sc_r; omega)
  have e155 : M' 155 = M 155 := e 155 (by unfold rg_r sc_r; omega)
  have e156 : M' 156 = M 156 := e 156 (by unfold rg_r sc_r; omega)
  have e157 : M' 157 = M 157 := e 157 (by unfold rg_r sc_r; omega)
  have e158 : M' 158 = M 158 := e 158 (by unfold rg_r sc_r; omega)
  have e159 : M' 159 = M 159 := e 159 (by unfold rg_r sc_r; omega)
  have e164 : M' 164 = M 164 := e 164 (by unfold rg_r sc_r; omega)
  have e165 : M' 165 = M 165 := e 165 (by unfold rg_r sc_r; omega)
  have e166 : M' 166 = M 166 := e 166 (by unfold rg_r sc_r; omega)
  have e167 : M' 167 = M 167 := e 167 (by unfold rg_r sc_r; omega)
  have e0 : M' 0 = M 0 := e 0 (by unfold rg_r sc_r; omega)
  have e1 : M' 1 = M 1 := e 1 (by unfold rg_r sc_r; omega)
  have e18 : M' 18 = M 18 := e 18 (by unfold rg_r sc_r; omega)
  have e26 : M' 26 = M 26 := e 26 (by unfold rg_r sc_r; omega)
  have e32 : M' 32 = M 32 := e 32 (by unfold rg_r sc_r; omega)
  have e110 : M' 110 = M 110 := e 110 (by unfold rg_r sc_r; omega)
  have e112 : M' 112 = M 112 := e 112 (by unfold rg_r sc_r; omega)
  obtain ⟨⟨⟨hs, hb⟩, ⟨hca, hcb⟩, ⟨hna, hnb⟩, ⟨hfi, hfb⟩⟩, ⟨hti, hta, hpr⟩, hcc, _⟩ := h
  have h16 := hfb.1.2
  refine ⟨⟨⟨?_, ?_⟩, ⟨?_, ?_⟩, ⟨?_, ?_⟩, ⟨?_, ?_⟩⟩, ⟨?_, ?_, ?_⟩, ?_, hch, hkl, hkd⟩
  · unfold iv_sea
    rw [e121, e3, e122, e4, e123, e5, e124, e6, e125, e7, e126, e8, e127, e9, e128, e10, e129, e11, e131, e12, e132, e13, e135, e14, e133, e15, e134, e16, e130, e17]
    exact hs
  · unfold iv_sb
    rw [e4, e5, e6, e8, e9, e10, e11, e12, e13, e15, e16, e17]
    exact hb
  · unfold iv_ca
    rw [e136, e19, e137, e20, e138, e21, e139, e22, e140, e23, e141, e24, e142, e25, e18, x22]
    exact hca
  · unfold iv_cb
    rw [e18, e19, e20, e21, e22, e23, e25]
    exact hcb
  · unfold iv_na
    rw [e148, e27, e149, e28, e150, e29, e151, e30, e152, e31, e26, x43]
    exact hna
  · unfold iv_nb
    rw [e26, e27, e28, e29, e30]
    exact hnb
  · unfold iv_fi
    rw [e153, e33, e154, e34, e155, e35, e156, e36, e157, e37, e158, e38, e159, e39, e32, x44]
    exact hfi
  · unfold iv_fb
    rw [e32, e35, e36, e37, e39]
    exact hfb
  · unfold iv_ti
    rw [x45, e0, e38]
    exact hti
  · unfold iv_ta
    rw [e164, e111, x55, e110]
    exact hta
  · unfold iv_pr
    rw [x56, e112, e165, e113, e166, e114, e167, e115, e116, e117, e118]
    exact hpr
  · intro f c hf hc
    rw [e32] at hf
    rw [e18] at hc
    rw [e (61 + f) (by unfold rg_r sc_r; omega), hcc f c hf hc]
    unfold c_cd
    rw [e33, e34, e24, e20, e21]
/-- scratch changes leave the invariant as it is -/
theorem iv_s0 {c : Nat} {M M' : am_M} {N N' : am_N} (h : iv c M N) (hs : sc_ok M M') : iv c M' N' := by
  have h2 := iv_sc h hs (N' := N')
  refine ⟨h2.1, h2.2.1, h2.2.2.1, ?_, h2.2.2.2.2⟩
  have h3 := h.2.2.2.1
  unfold iv_ch at h3 ⊢
  rw [hs.1 1 (by unfold sc_r; omega), hs.1 52 (by unfold sc_r; omega), hs.1 107 (by unfold sc_r; omega)]
  exact h3
theorem cd_md {M M' : am_M} (h : md M M') {f c : Nat} : c_cd M' f c = c_cd M f c := by
  unfold c_cd
  rw [h.1 33 (by unfold rg_r sc_r; omega), h.1 34 (by unfold rg_r sc_r; omega), h.1 24 (by unfold rg_r sc_r; omega), h.1 20 (by unfold rg_r sc_r; omega), h.1 21 (by unfold rg_r sc_r; omega)]
theorem cf_md {M M' : am_M} (h : md M M') {sh : Nat → Int32} {c : Nat} : c_cf (sC M') M' sh c = c_cf (sC M) M sh c := by
  unfold c_cf
  rw [md_sC h, h.1 19 (by unfold rg_r sc_r; omega), h.1 22 (by unfold rg_r sc_r; omega), h.1 23 (by unfold rg_r sc_r; omega), h.1 25 (by unfold rg_r sc_r; omega)]
theorem wt_md {M M' : am_M} (h : md M M') {f c : Nat} : c_wt (sC M') M' (M' 17) f c = c_wt (sC M) M (M 17) f c := by
  unfold c_wt
  rw [cd_md h, cf_md h, h.1 17 (by unfold rg_r sc_r; omega), h.1 35 (by unfold rg_r sc_r; omega), h.1 36 (by unfold rg_r sc_r; omega), h.1 37 (by unfold rg_r sc_r; omega), h.1 22 (by unfold rg_r sc_r; omega), h.1 27 (by unfold rg_r sc_r; omega), h.1 28 (by unfold rg_r sc_r; omega), h.1 29 (by unfold rg_r sc_r; omega), h.1 30 (by unfold rg_r sc_r; omega)]
theorem smI_ext {g : Nat → Int32} {i n : Nat} (hi : i ≤ n) (h : ∀ t, i ≤ t → t < n → g t = 0) : smI g n = smI g i := by
  induction n with
  | zero =>
    have : i = 0 := by omega
    subst this
    rfl
  | succ n ih =>
    by_cases e : i = n + 1
    · subst e
      rfl
    · show smI g n + g n = smI g i
      rw [h n (by omega) (by omega), ih (by omega) (fun t h1 h2 => h t h1 (by omega))]
      exact Int32.add_zero _
theorem fw_c {f g : Nat → Int32} {x0 x1 y0 y1 : Int32} {a b : Int} (hx : x1.toInt ≤ 9 ∧ 0 ≤ x0.toInt) (hy : y1.toInt ≤ 5 ∧ 0 ≤ y0.toInt) (h : ∀ j, j < 720 → f j = g j) : c_fw f x0 x1 y0 y1 a b = c_fw g x0 x1 y0 y1 a b := by
  have ix := I_cl hx.2
  have iy := I_cl hy.2
  unfold c_fw c_rc
  refine smI_congr (fun t ht => ?_)
  split
  · refine smI_congr (fun i hi => smI_congr (fun k hk => h _ ?_))
    omega
  · rfl
theorem add3 (a b c : Int32) : a + b + c = a + (b + c) := Int32.add_assoc a b c
theorem nI_leq {a b : Nat} (ha : a < 2147483648) (hb : b < 2147483648) : nI a ≤ nI b ↔ a ≤ b := by
  rw [Int32.le_iff_toInt_le, nI_i ha, nI_i hb]
  omega
theorem nI_ltn {a b : Nat} (ha : a < 2147483648) (hb : b < 2147483648) : nI a < nI b ↔ a < b := by
  rw [Int32.lt_iff_toInt_lt, nI_i ha, nI_i hb]
  omega
theorem lp72y {X : am_X} {Q : am_Q} {M : am_M} {N : am_N} {k nm x0 x1 y0 y1 : Nat} {a4 b4 : Int32} {acc : Int32} {t i : Nat} (hk : am_SH[k]? = some (.inl (0, 720))) (hnm : nm < 6) (e27 : M 27 nm = nI x0) (e28 : M 28 nm = nI x1) (e29 : M 29 nm = nI y0) (e30 : M 30 nm = nI y1) (hx1 : x1 ≤ 9) (hx0 : x0 ≤ 9) (hy0 : y0 ≤ 5) (hy1 : y1 ≤ 5) (ht : t < 12) (hi : x0 + i ≤ x1) (kk : ∀ z9, am_J X Q 72 94 [.ref 26, .ref k, .int (nI nm), .int a4, .int b4, .int (acc + smI (fun q => M k (60 * t + 6 * (x0 + i) + (y0 + q))) (y1 + 1 - y0)), .int (nI t), .int (nI (x0 + i)), .int (nI (60 * t + 6 * (x0 + i))), z9] [] M N) : ∀ (n q : Nat), q + n = y1 + 1 - y0 → ∀ (y : Int32), y = nI (y0 + q) → ∀ (a : Int32), a = acc + smI (fun q => M k (60 * t + 6 * (x0 + i) + (y0 + q))) q → am_J X Q 72 65 [.ref 26, .ref k, .int (nI nm), .int a4, .int b4, .int a, .int (nI t), .int (nI (x0 + i)), .int (nI (60 * t + 6 * (x0 + i))), .int y] [] M N := by
  intro n
  induction n with
  | zero =>
    intro q hn y ey a ea
    subst ey
    refine J_b 4 am_d72 rfl ?_
    refine J_iald (am_d72 rfl) rfl (vp_in_nI hnm (by decide)) ?_
    rw [nI_c (n := nm) (by omega)]
    show am_J X _ 72 73 _ (.int (M 30 nm) :: _) _ N
    rw [e30]
    refine J_icmp_gt 94 (am_d72 rfl) rfl (fun h73 => ?_) (fun h73 => absurd ((nI_ltn (by omega) (by omega)).mpr (by omega)) h73)
    rw [ea]
    rw [show y1 + 1 - y0 = q from by omega]  at kk
    exact kk _
  | succ n ih =>
    intro q hn y ey a ea
    subst ey
    refine J_b 4 am_d72 rfl ?_
    refine J_iald (am_d72 rfl) rfl (vp_in_nI hnm (by decide)) ?_
    rw [nI_c (n := nm) (by omega)]
    show am_J X _ 72 73 _ (.int (M 30 nm) :: _) _ N
    rw [e30]
    refine J_icmp_gt 94 (am_d72 rfl) rfl (fun h73 => absurd ((nI_ltn (by omega) (by omega)).mp h73) (by omega)) (fun h73 => ?_)
    refine J_b 4 am_d72 rfl ?_
    refine J_b 1 am_d72 rfl ?_
    rw [nI_add]
    refine J_iald (am_d72 rfl) hk (vp_in_nI (by omega) (by decide)) ?_
    rw [nI_c (by omega)]
    refine J_b 4 am_d72 rfl ?_
    refine ih (q + 1) (by omega) _ (nI_1 (y0 + q)) _ ?_
    rw [ea, add3]
    rfl
theorem i60 (t x : Nat) : nI t * (Int8.ofInt 60).toInt32 + (6 * nI x + 0) = nI (60 * t + 6 * x) := by
  rw [show (Int8.ofInt 60).toInt32 = nI 60 from rfl, show (6 : Int32) = nI 6 from rfl, nI_mul, nI_mul, show (0 : Int32) = nI 0 from rfl, nI_add, nI_add, Nat.mul_comm t]
  rfl
theorem lp72x {X : am_X} {Q : am_Q} {M : am_M} {N : am_N} {k nm x0 x1 y0 y1 : Nat} {a4 b4 : Int32} {acc : Int32} {t : Nat} (hk : am_SH[k]? = some (.inl (0, 720))) (hnm : nm < 6) (e27 : M 27 nm = nI x0) (e28 : M 28 nm = nI x1) (e29 : M 29 nm = nI y0) (e30 : M 30 nm = nI y1) (hx1 : x1 ≤ 9) (hx0 : x0 ≤ 9) (hy0 : y0 ≤ 5) (hy1 : y1 ≤ 5) (ht : t < 12) (kk : ∀ z7 z8 z9, am_J X Q 72 100 [.ref 26, .ref k, .int (nI nm), .int a4, .int b4, .int (acc + smI (fun i => smI (fun q => M k (60 * t + 6 * (x0 + i) + (y0 + q))) (y1 + 1 - y0)) (x1 + 1 - x0)), .int (nI t), z7, z8, z9] [] M N) : ∀ (n i : Nat), i + n = x1 + 1 - x0 → ∀ (x : Int32), x = nI (x0 + i) → ∀ (a : Int32), a = acc + smI (fun i => smI (fun q => M k (60 * t + 6 * (x0 + i) + (y0 + q))) (y1 + 1 - y0)) i → ∀ (z8 z9 : Value), am_J X Q 72 32 [.ref 26, .ref k, .int (nI nm), .int a4, .int b4, .int a, .int (nI t), .int x, z8, z9] [] M N := by
  intro n
  induction n with
  | zero =>
    intro i hn x ex a ea z8 z9
    subst ex
    refine J_b 4 am_d72 rfl ?_
    refine J_iald (am_d72 rfl) rfl (vp_in_nI hnm (by decide)) ?_
    rw [nI_c (n := nm) (by omega)]
    show am_J X _ 72 40 _ (.int (M 28 nm) :: _) _ N
    rw [e28]
    refine J_icmp_gt 100 (am_d72 rfl) rfl (fun h40 => ?_) (fun h40 => absurd ((nI_ltn (by omega) (by omega)).mpr (by omega)) h40)
    rw [ea]
    rw [show x1 + 1 - x0 = i from by omega] at kk
    exact kk _ _ _
  | succ n ih =>
    intro i hn x ex a ea z8 z9
    subst ex
    refine J_b 4 am_d72 rfl ?_
    refine J_iald (am_d72 rfl) rfl (vp_in_nI hnm (by decide)) ?_
    rw [nI_c (n := nm) (by omega)]
    show am_J X _ 72 40 _ (.int (M 28 nm) :: _) _ N
    rw [e28]
    refine J_icmp_gt 100 (am_d72 rfl) rfl (fun h40 => absurd ((nI_ltn (by omega) (by omega)).mp h40) (by omega)) (fun h40 => ?_)
    refine J_b 5 am_d72 rfl ?_
    refine J_S2s 16 (am_d72 rfl) rfl rfl (sp16) ?_
    refine J_b 1 am_d72 rfl ?_
    refine J_st5 (congrArg (fun z => ([.int z] : am_V)) (i60 t (x0 + i))) ?_
    refine J_b 4 am_d72 rfl ?_
    refine J_iald (am_d72 rfl) rfl (vp_in_nI hnm (by decide)) ?_
    rw [nI_c (n := nm) (by omega)]
    show am_J X _ 72 63 _ (.int (M 29 nm) :: _) _ N
    rw [e29]
    refine J_b 1 am_d72 rfl ?_
    refine lp72y (acc := a) (t := t) (i := i) hk hnm e27 e28 e29 e30 hx1 hx0 hy0 hy1 ht (by omega) (fun z9 => ?_) (y1 + 1 - y0) 0 (Nat.zero_add _) _ rfl _ (Int32.add_zero _).symm
    refine J_b 2 am_d72 rfl ?_
    refine ih (i + 1) (by omega) _ (nI_1 (x0 + i)) _ ?_ _ _
    rw [ea, add3]
    rfl
theorem rc_e {fd : Nat → Int32} {x0 x1 y0 y1 t : Nat} (hx1 : x1 ≤ 9) (hx0 : x0 ≤ 9) (hy0 : y0 ≤ 5) (hy1 : y1 ≤ 5) : c_rc fd (nI x0) (nI x1) (nI y0) (nI y1) t = smI (fun i => smI (fun q => fd (60 * t + 6 * (x0 + i) + (y0 + q))) (y1 + 1 - y0)) (x1 + 1 - x0) := by
  unfold c_rc
  rw [nI_c (n := x0) (by omega), nI_c (n := y0) (by omega), nI_i (n := x0) (by omega), nI_i (n := x1) (by omega), nI_i (n := y0) (by omega), nI_i (n := y1) (by omega), show ((x1 : Int) - (x0 : Int) + 1).toNat = x1 + 1 - x0 by omega, show ((y1 : Int) - (y0 : Int) + 1).toNat = y1 + 1 - y0 by omega]
theorem lp72 {X : am_X} {M : am_M} {N : am_N} {k nm x0 x1 y0 y1 : Nat} {a4 b4 : Int32} (hk : am_SH[k]? = some (.inl (0, 720))) (hnm : nm < 6) (e27 : M 27 nm = nI x0) (e28 : M 28 nm = nI x1) (e29 : M 29 nm = nI y0) (e30 : M 30 nm = nI y1) (hx1 : x1 ≤ 9) (hx0 : x0 ≤ 9) (hy0 : y0 ≤ 5) (hy1 : y1 ≤ 5) : ∀ (n i : Nat), i + n = 12 → ∀ (x : Int32), x = nI i → ∀ (a : Int32), a = smI (fun t => if a4.toInt ≤ (t : Int) ∧ (t : Int) ≤ b4.toInt then c_rc (M k) (nI x0) (nI x1) (nI y0) (nI y1) t else 0) i → a4.toInt ≤ (i : Int) → ∀ (z7 z8 z9 : Value), am_J X (am_eq (some (.int (smI (fun t => if a4.toInt ≤ (t : Int) ∧ (t : Int) ≤ b4.toInt then c_rc (M k) (nI x0) (nI x1) (nI y0) (nI y1) t else 0) 12))) M N) 72 10 [.ref 26, .ref k, .int (nI nm), .int a4, .int b4, .int a, .int x, z7, z8, z9] [] M N := by
  intro n
  induction n with
  | zero =>
    intro i hn x ex a ea ha z7 z8 z9
    have e : i = 12 := by omega
    have hge : (Int8.ofInt 12).toInt32 ≤ x := by rw [ex, e]; exact Int32.le_refl _
    refine J_b 2 am_d72 rfl ?_
    refine J_icmp_gt 106 (am_d72 rfl) rfl (fun h14 => ?_) (fun h14 => ?_)
    · refine J_b 1 am_d72 rfl ?_
      exact J_iret (am_d72 rfl) rfl rfl ⟨congrArg (fun z => some (Value.int z)) (by rw [ea, e]), rfl, rfl⟩
    · refine J_b 2 am_d72 rfl ?_
      refine J_icmp_ge 106 (am_d72 rfl) rfl (fun h21 => ?_) (fun h21 => absurd (hge) h21)
      refine J_b 1 am_d72 rfl ?_
      exact J_iret (am_d72 rfl) rfl rfl ⟨congrArg (fun z => some (Value.int z)) (by rw [ea, e]), rfl, rfl⟩
  | succ n ih =>
    intro i hn x ex a ea ha z7 z8 z9
    subst ex
    have ii := nI_i (n := i) (by omega)
    refine J_b 2 am_d72 rfl ?_
    refine J_icmp_gt 106 (am_d72 rfl) rfl (fun h14 => ?_) (fun h14 => ?_)
    · refine J_b 1 am_d72 rfl ?_
      exact J_iret (am_d72 rfl) rfl rfl ⟨congrArg (fun z => some (Value.int z)) (by rw [ea]; exact (smI_ext (by omega) (fun t h1 h2 => if_neg (fun z => (by have q := Int32.lt_iff_toInt_lt.mp h14; rw [ii] at q; omega)))).symm), rfl, rfl⟩
    · refine J_b 2 am_d72 rfl ?_
      refine J_icmp_ge 106 (am_d72 rfl) rfl (fun h21 => absurd h21 (l12 (by omega))) (fun h21 => ?_)
      refine J_b 3 am_d72 rfl ?_
      refine J_iald (am_d72 rfl) rfl (vp_in_nI hnm (by decide)) ?_
      rw [nI_c (n := nm) (by omega)]
      show am_J X _ 72 30 _ (.int (M 27 nm) :: _) _ N
      rw [e27]
      refine J_b 1 am_d72 rfl ?_
      refine lp72x (acc := a) (t := i) hk hnm e27 e28 e29 e30 hx1 hx0 hy0 hy1 (by omega) (fun z7 z8 z9 => ?_) (x1 + 1 - x0) 0 (Nat.zero_add _) _ rfl _ (Int32.add_zero _).symm _ _
      refine J_b 2 am_d72 rfl ?_
      refine ih (i + 1) (by omega) _ (nI_1 i) _ ?_ (by omega) _ _ _
      rw [ea]
      show smI (fun t => if a4.toInt ≤ (t : Int) ∧ (t : Int) ≤ b4.toInt then c_rc (M k) (nI x0) (nI x1) (nI y0) (nI y1) t else 0) i + _ = smI (fun t => if a4.toInt ≤ (t : Int) ∧ (t : Int) ≤ b4.toInt then c_rc (M k) (nI x0) (nI x1) (nI y0) (nI y1) t else 0) i + (if a4.toInt ≤ (i : Int) ∧ (i : Int) ≤ b4.toInt then c_rc (M k) (nI x0) (nI x1) (nI y0) (nI y1) i else 0)
      rw [if_pos ⟨ha, by have := Int.not_lt.mp (fun z => h14 (Int32.lt_iff_toInt_lt.mpr z)); rw [ii] at this; exact this⟩, rc_e hx1 hx0 hy0 hy1]
theorem sp72 {X : am_X} {M : am_M} {N : am_N} {k nm x0 x1 y0 y1 : Nat} {a4 b4 : Int32} (hk : am_SH[k]? = some (.inl (0, 720))) (hnm : nm < 6) (e27 : M 27 nm = nI x0) (e28 : M 28 nm = nI x1) (e29 : M 29 nm = nI y0) (e30 : M 30 nm = nI y1) (hx1 : x1 ≤ 9) (hx0 : x0 ≤ 9) (hy0 : y0 ≤ 5) (hy1 : y1 ≤ 5) : am_J X (am_eq (some (.int (c_fw (M k) (nI x0) (nI x1) (nI y0) (nI y1) a4.toInt b4.toInt))) (M) N) 72 0 (am_en 72 [.ref 26, .ref k, .int (nI nm), .int a4, .int b4]) [] M N := by
  refine J_en (L := [.ref 26, .ref k, .int (nI nm), .int a4, .int b4, .retAddr 0, .retAddr 0, .retAddr 0, .retAddr 0, .retAddr 0]) rfl ?_
  refine J_b 4 am_d72 rfl ?_
  refine J_S2s 73 (am_d72 rfl) rfl rfl (sp73) ?_
  refine J_b 1 am_d72 rfl ?_
  show am_J X _ 72 10 [.ref 26, .ref k, .int (nI nm), .int a4, .int b4, .int 0, .int (if a4 < 0 then 0 else a4), .retAddr 0, .retAddr 0, .retAddr 0] [] _ N
  by_cases hbig : 12 ≤ a4.toInt
  · have hge : (Int8.ofInt 12).toInt32 ≤ (if a4 < 0 then 0 else a4) := by
      rw [if_neg (fun z => by have := Int32.lt_iff_toInt_lt.mp z; have z0 : (0 : Int32).toInt = 0 := rfl; omega), Int32.le_iff_toInt_le]
      exact hbig
    refine J_b 2 am_d72 rfl ?_
    refine J_icmp_gt 106 (am_d72 rfl) rfl (fun h14 => ?_) (fun h14 => ?_)
    · refine J_b 1 am_d72 rfl ?_
      exact J_iret (am_d72 rfl) rfl rfl ⟨congrArg (fun z => some (Value.int z)) (smI_zero (fun t ht => if_neg (fun z => by omega))).symm, rfl, rfl⟩
    · refine J_b 2 am_d72 rfl ?_
      refine J_icmp_ge 106 (am_d72 rfl) rfl (fun h21 => ?_) (fun h21 => absurd (hge) h21)
      refine J_b 1 am_d72 rfl ?_
      exact J_iret (am_d72 rfl) rfl rfl ⟨congrArg (fun z => some (Value.int z)) (smI_zero (fun t ht => if_neg (fun z => by omega))).symm, rfl, rfl⟩
  · by_cases hneg : a4 < 0
    · rw [if_pos hneg]
      have hn2 : a4.toInt < 0 := Int32.lt_iff_toInt_lt.mp hneg
      exact lp72 hk hnm e27 e28 e29 e30 hx1 hx0 hy0 hy1 12 0 rfl _ rfl _ rfl (by omega) _ _ _
    · rw [if_neg hneg]
      have hn2 : 0 ≤ a4.toInt := Int.not_lt.mp (fun z => hneg (Int32.lt_iff_toInt_lt.mpr z))
      have ia := I_cl hn2
      refine lp72 hk hnm e27 e28 e29 e30 hx1 hx0 hy0 hy1 (12 - a4.toNatClampNeg) a4.toNatClampNeg (by omega) _ (I_nI hn2) _ ?_ (by omega) _ _ _
      exact (smI_zero (fun t ht => if_neg (fun z => by omega))).symm
