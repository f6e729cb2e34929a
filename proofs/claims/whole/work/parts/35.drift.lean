/-! ===== the drift: months, its beginning ===== -/
/-- the winds that stay behind in a drift of t months -/
def c_wn (E : am_M) (a b : Nat) (kd : Int32) (mo : Nat) (w0 : Int32) : Nat → Int32
  | 0 => w0
  | t + 1 => c_fl kd (c_wd E a b (mo + t))
def dr_T (M : am_M) (b : Nat) (kd : Int32) (mo : Nat) (sk e0 n0 : Int32) (sh : Nat → Int32) (s0 : am_M) (t : Nat) : am_M := dr_D M b kd (nI mo) sk (nI t) (c_wn (sC M) 9 12 kd mo e0 t) (c_wn (sC M) 10 13 kd mo n0 t) sh (itr (c_mo (sC M) sh kd mo sk) t s0)
theorem l12 {t : Nat} (h : t < 12) : ¬ (Int8.ofInt 12).toInt32 ≤ nI t := by
  rw [show (Int8.ofInt 12).toInt32 = nI 12 from rfl, Int32.le_iff_toInt_le, nI_i (by omega), nI_i (by omega)]
  omega
theorem nI_ngt {a b : Nat} (h : a < b) (hb : b < 2147483648) : ¬ nI b ≤ nI a := by
  rw [Int32.le_iff_toInt_le, nI_i (by omega), nI_i (by omega)]
  omega
theorem mo_s {E : am_M} {sh : Nat → Int32} {kd sk : Int32} {m t : Nat} {st : am_M} (h1 : kd = 2) (h2 : ¬ nI t < sk) (ht : t < 12) : c_mo E sh kd m sk t st = c_bw E t (c_gw E sh kd (m + t) (am_upR (am_up st 0 14 (st 0 14 + smI (st 1) 60)) 1 c_z)) := by
  unfold c_mo c_sk
  rw [if_pos ⟨h1, by rw [Int32.lt_iff_toInt_lt, nI_i (by omega)] at h2; omega⟩]
theorem mo_n {E : am_M} {sh : Nat → Int32} {kd sk : Int32} {m t : Nat} {st : am_M} (h : ¬ kd = 2 ∨ nI t < sk) (ht : t < 12) : c_mo E sh kd m sk t st = c_bw E t (c_gw E sh kd (m + t) st) := by
  unfold c_mo c_sk
  rw [if_neg (fun hc => by
    rcases h with h | h
    · exact h hc.1
    · rw [Int32.lt_iff_toInt_lt, nI_i (by omega)] at h
      omega)]
def c_e0 (st : am_M) (p : Nat) : Prop := st 1 p = 1000000
theorem lp42_40 {X : am_X} {M : am_M} {N : am_N} {kd sk e0 n0 : Int32} {sh : Nat → Int32} {s0 : am_M} {mo : Nat} {cnt : Nat} (hmo : mo < 100) (hb : iv_sb M) (hk : b_in kd 0 3) (hsh : ∀ j, b_in (sh j) (-1) 1) (h0 : ∀ k, s0 4 k = 0) (hc : cnt < 100) : ∀ (n i t : Nat), i + n = cnt ∧ t ≤ 12 → ∀ (x : Int32), x = nI i → am_J X (am_eq none (dr_T M 40 kd mo sk e0 n0 sh s0 (min 12 (t + n))) N) 42 2 [.ref 40, .int (nI cnt), .int x] [] (dr_T M 40 kd mo sk e0 n0 sh s0 t) N := by
  intro n
  induction n with
  | zero =>
    intro i t hn x ex
    have e : i = cnt := by omega
    subst e
    subst ex
    refine J_b 2 am_d42 rfl ?_
    refine J_icmp_ge 72 (am_d42 rfl) rfl (fun h4 => ?_) (fun h4 => absurd (Int32.le_refl _) h4)
    exact J_ret (am_d42 rfl) rfl ⟨rfl, by rw [show min 12 (t + 0) = t by omega], rfl⟩
  | succ n ih =>
    intro i t hn x ex
    subst ex
    by_cases ht12 : t = 12
    · subst ht12
      refine J_b 2 am_d42 rfl ?_
      refine J_icmp_ge 72 (am_d42 rfl) rfl (fun h4 => absurd h4 (nI_ngt (by omega) (by omega))) (fun h4 => ?_)
      refine J_b 3 am_d42 rfl ?_
      refine J_icmp_ge 72 (am_d42 rfl) rfl (fun h13 => ?_) (fun h13 => absurd (Int32.le_refl _) h13)
      exact J_ret (am_d42 rfl) rfl ⟨rfl, by rw [show min 12 (12 + (n + 1)) = 12 by omega], rfl⟩
    have ht : t < 12 := by omega
    have hmin : min 12 (t + (n + 1)) = min 12 ((t + 1) + n) := by omega
    unfold dr_T
    refine J_b 2 am_d42 rfl ?_
    refine J_icmp_ge 72 (am_d42 rfl) rfl (fun h4 => absurd h4 (nI_ngt (by omega) (by omega))) (fun h4 => ?_)
    refine J_b 3 am_d42 rfl ?_
    refine J_icmp_ge 72 (am_d42 rfl) rfl (fun h13 => absurd h13 (l12 ht)) (fun h13 => ?_)
    refine J_b 3 am_d42 rfl ?_
    refine J_icmp_ne 39 (am_d42 rfl) rfl (fun h21 => ?_) (fun h21 => ?_)
    · refine J_b 5 am_d42 rfl ?_
      show am_J X _ 42 48 _ [.int (nI t), .int (nI mo), .ref 40] _ N
      refine J_b 1 am_d42 rfl ?_
      rw [nI_add]
      refine J_V1n 45 (am_d42 rfl) rfl rfl (sp45_40 (by omega) hb hk hsh) ?_
      refine J_b 1 am_d42 rfl ?_
      refine J_V0n 54 (am_d42 rfl) rfl rfl (sp54_40 ht (fun k h => by rw [gw_4]; exact dr_4 h0 t k h)) ?_
      refine J_b 5 am_d42 rfl ?_
      refine J_puti (am_d42 rfl) rfl ?_
      rw [D40_f9]
      refine J_b 2 am_d42 rfl ?_
      refine J_mem (M' := dr_T M 40 kd mo sk e0 n0 sh s0 (t + 1)) ?_ ?_
      · show dr_D M 40 kd (nI mo) sk (nI t + 1) _ _ sh _ = _
        rw [nI_1 t, ← mo_n (by first | exact .inl h21 | exact .inr h32) ht]
        rfl
      · rw [hmin]
        exact ih (i + 1) (t + 1) (by omega) _ (nI_1 i)
    · refine J_b 4 am_d42 rfl ?_
      refine J_icmp_lt 39 (am_d42 rfl) rfl (fun h32 => ?_) (fun h32 => ?_)
      · refine J_b 5 am_d42 rfl ?_
        show am_J X _ 42 48 _ [.int (nI t), .int (nI mo), .ref 40] _ N
        refine J_b 1 am_d42 rfl ?_
        rw [nI_add]
        refine J_V1n 45 (am_d42 rfl) rfl rfl (sp45_40 (by omega) hb hk hsh) ?_
        refine J_b 1 am_d42 rfl ?_
        refine J_V0n 54 (am_d42 rfl) rfl rfl (sp54_40 ht (fun k h => by rw [gw_4]; exact dr_4 h0 t k h)) ?_
        refine J_b 5 am_d42 rfl ?_
        refine J_puti (am_d42 rfl) rfl ?_
        rw [D40_f9]
        refine J_b 2 am_d42 rfl ?_
        refine J_mem (M' := dr_T M 40 kd mo sk e0 n0 sh s0 (t + 1)) ?_ ?_
        · show dr_D M 40 kd (nI mo) sk (nI t + 1) _ _ sh _ = _
          rw [nI_1 t, ← mo_n (by first | exact .inl h21 | exact .inr h32) ht]
          rfl
        · rw [hmin]
          exact ih (i + 1) (t + 1) (by omega) _ (nI_1 i)
      · refine J_b 1 am_d42 rfl ?_
        refine J_V0n 43 (am_d42 rfl) rfl rfl (sp43_40) ?_
        refine J_b 5 am_d42 rfl ?_
        show am_J X _ 42 48 _ [.int (nI t), .int (nI mo), .ref 40] _ N
        refine J_b 1 am_d42 rfl ?_
        rw [nI_add]
        refine J_V1n 45 (am_d42 rfl) rfl rfl (sp45_40 (by omega) hb hk hsh) ?_
        refine J_b 1 am_d42 rfl ?_
        refine J_V0n 54 (am_d42 rfl) rfl rfl (sp54_40 ht (fun k h => by rw [gw_4, upR_n (by decide), up_n (by decide)]; exact dr_4 h0 t k h)) ?_
        refine J_b 5 am_d42 rfl ?_
        refine J_puti (am_d42 rfl) rfl ?_
        rw [D40_f9]
        refine J_b 2 am_d42 rfl ?_
        refine J_mem (M' := dr_T M 40 kd mo sk e0 n0 sh s0 (t + 1)) ?_ ?_
        · show dr_D M 40 kd (nI mo) sk (nI t + 1) _ _ sh _ = _
          rw [nI_1 t, ← mo_s (kd := kd) (sk := sk) (show kd = 2 from h21) (show ¬ nI t < sk from h32) ht]
          rfl
        · rw [hmin]
          exact ih (i + 1) (t + 1) (by omega) _ (nI_1 i)
theorem sp42_40 {X : am_X} {M : am_M} {N : am_N} {kd sk e0 n0 : Int32} {sh : Nat → Int32} {s0 : am_M} {mo : Nat} {cnt t : Nat} (hmo : mo < 100) (hb : iv_sb M) (hk : b_in kd 0 3) (hsh : ∀ j, b_in (sh j) (-1) 1) (h0 : ∀ k, s0 4 k = 0) (hc : cnt < 100) (ht : t ≤ 12) : am_J X (am_eq (none) (dr_T M 40 kd mo sk e0 n0 sh s0 (min 12 (t + cnt))) N) 42 0 (am_en 42 [.ref 40, .int (nI cnt)]) [] (dr_T M 40 kd mo sk e0 n0 sh s0 t) N := by
  refine J_en (L := [.ref 40, .int (nI cnt), .retAddr 0]) rfl ?_
  refine J_b 2 am_d42 rfl ?_
  exact lp42_40 hmo hb hk hsh h0 hc cnt 0 t ⟨by omega, ht⟩ _ rfl
theorem s0_1 {r : Nat → Int32} {p j : Nat} : (if j = p then Int32.ofInt 1000000 else (0 : Int32)) = c_s0 p r 1 j := by
  unfold c_s0
  by_cases h : j = p
  · rw [if_pos h, if_pos ⟨rfl, h⟩]
    rfl
  · rw [if_neg h, if_neg (fun z => h z.2), if_neg (by decide)]
theorem sp40_40_17 {X : am_X} {M : am_M} {N : am_N} {kd mo sk : Int32} {p : Nat} (hp : p < 60) : am_J X (am_eq none (dr_D M 40 kd mo sk 0 (M 40 10) (M 40 11) (M 17) (c_s0 p (M 42))) N) 40 0 (am_en 40 [.ref 40, .int kd, .int mo, .int (nI p), .int sk, .ref 17]) [] M N := by
  refine J_en (L := [.ref 40, .int kd, .int mo, .int (nI p), .int sk, .ref 17]) rfl ?_
  refine J_mem (D40_of M) ?_
  refine J_b 3 am_d40 rfl ?_
  have q1 := sp41 (X := X) (N := N) (M := dr_D M 40 (M 40 6) (M 40 7) (M 40 8) (M 40 9) (M 40 10) (M 40 11) (M 45) (fun k j => if k = 0 then M 40 j else M (40 + k) j)) (k := 41) (n := 60) (v := 0) rfl (by decide)
  rw [D40_r1] at q1
  refine J_S2n 41 (am_d40 rfl) rfl rfl q1 ?_
  refine J_b 3 am_d40 rfl ?_
  have q3 := sp41 (X := X) (N := N) (M := dr_D M 40 (M 40 6) (M 40 7) (M 40 8) (M 40 9) (M 40 10) (M 40 11) (M 45) (am_upR (fun k j => if k = 0 then M 40 j else M (40 + k) j) 1 c_z)) (k := 43) (n := 60) (v := 0) rfl (by decide)
  rw [D40_r3] at q3
  refine J_S2n 41 (am_d40 rfl) rfl rfl q3 ?_
  refine J_b 3 am_d40 rfl ?_
  have q4 := sp41 (X := X) (N := N) (M := dr_D M 40 (M 40 6) (M 40 7) (M 40 8) (M 40 9) (M 40 10) (M 40 11) (M 45) (am_upR (am_upR (fun k j => if k = 0 then M 40 j else M (40 + k) j) 1 c_z) 3 c_z)) (k := 44) (n := 720) (v := 0) rfl (by decide)
  rw [D40_r4] at q4
  refine J_S2n 41 (am_d40 rfl) rfl rfl q4 ?_
  refine J_b 6 am_d40 rfl ?_
  refine J_copy (am_d40 rfl) rfl rfl rfl (by decide) (by decide) (by decide) (by decide) (by decide) ?_
  rw [D40_s]
  refine J_mr 45 (n := 3) (M 17) rfl (fun j hj => ?_) ?_
  · show M 17 j = va_cpy (M 17) (M 45) 0 0 3 j
    rw [cpy0]
    exact (if_pos hj).symm
  rw [D40_s]
  refine J_b 4 am_d40 rfl ?_
  refine J_iast (am_d40 rfl) rfl (vp_in_nI hp (by decide)) ?_
  rw [nI_c (n := p) (by omega), D40_u1]
  refine J_b 2 am_d40 rfl ?_
  refine J_puti (am_d40 rfl) rfl ?_
  rw [D40_f6]
  refine J_b 2 am_d40 rfl ?_
  refine J_puti (am_d40 rfl) rfl ?_
  rw [D40_f7]
  refine J_b 2 am_d40 rfl ?_
  refine J_puti (am_d40 rfl) rfl ?_
  rw [D40_f8]
  refine J_b 2 am_d40 rfl ?_
  refine J_puti (am_d40 rfl) rfl ?_
  rw [D40_f9]
  refine J_b 2 am_d40 rfl ?_
  refine J_puti (am_d40 rfl) rfl ?_
  rw [D40_f12]
  refine J_b 2 am_d40 rfl ?_
  refine J_puti (am_d40 rfl) rfl ?_
  rw [D40_f13]
  refine J_b 2 am_d40 rfl ?_
  refine J_puti (am_d40 rfl) rfl ?_
  rw [D40_f14]
  exact J_ret (am_d40 rfl) rfl ⟨rfl, D_st (funext fun j => s0_1) rfl rfl rfl rfl rfl rfl, rfl⟩
theorem sp40_40_78 {X : am_X} {M : am_M} {N : am_N} {kd mo sk : Int32} {p : Nat} (hp : p < 60) : am_J X (am_eq none (dr_D M 40 kd mo sk 0 (M 40 10) (M 40 11) (M 78) (c_s0 p (M 42))) N) 40 0 (am_en 40 [.ref 40, .int kd, .int mo, .int (nI p), .int sk, .ref 78]) [] M N := by
  refine J_en (L := [.ref 40, .int kd, .int mo, .int (nI p), .int sk, .ref 78]) rfl ?_
  refine J_mem (D40_of M) ?_
  refine J_b 3 am_d40 rfl ?_
  have q1 := sp41 (X := X) (N := N) (M := dr_D M 40 (M 40 6) (M 40 7) (M 40 8) (M 40 9) (M 40 10) (M 40 11) (M 45) (fun k j => if k = 0 then M 40 j else M (40 + k) j)) (k := 41) (n := 60) (v := 0) rfl (by decide)
  rw [D40_r1] at q1
  refine J_S2n 41 (am_d40 rfl) rfl rfl q1 ?_
  refine J_b 3 am_d40 rfl ?_
  have q3 := sp41 (X := X) (N := N) (M := dr_D M 40 (M 40 6) (M 40 7) (M 40 8) (M 40 9) (M 40 10) (M 40 11) (M 45) (am_upR (fun k j => if k = 0 then M 40 j else M (40 + k) j) 1 c_z)) (k := 43) (n := 60) (v := 0) rfl (by decide)
  rw [D40_r3] at q3
  refine J_S2n 41 (am_d40 rfl) rfl rfl q3 ?_
  refine J_b 3 am_d40 rfl ?_
  have q4 := sp41 (X := X) (N := N) (M := dr_D M 40 (M 40 6) (M 40 7) (M 40 8) (M 40 9) (M 40 10) (M 40 11) (M 45) (am_upR (am_upR (fun k j => if k = 0 then M 40 j else M (40 + k) j) 1 c_z) 3 c_z)) (k := 44) (n := 720) (v := 0) rfl (by decide)
  rw [D40_r4] at q4
  refine J_S2n 41 (am_d40 rfl) rfl rfl q4 ?_
  refine J_b 6 am_d40 rfl ?_
  refine J_copy (am_d40 rfl) rfl rfl rfl (by decide) (by decide) (by decide) (by decide) (by decide) ?_
  rw [D40_s]
  refine J_mr 45 (n := 3) (M 78) rfl (fun j hj => ?_) ?_
  · show M 78 j = va_cpy (M 78) (M 45) 0 0 3 j
    rw [cpy0]
    exact (if_pos hj).symm
  rw [D40_s]
  refine J_b 4 am_d40 rfl ?_
  refine J_iast (am_d40 rfl) rfl (vp_in_nI hp (by decide)) ?_
  rw [nI_c (n := p) (by omega), D40_u1]
  refine J_b 2 am_d40 rfl ?_
  refine J_puti (am_d40 rfl) rfl ?_
  rw [D40_f6]
  refine J_b 2 am_d40 rfl ?_
  refine J_puti (am_d40 rfl) rfl ?_
  rw [D40_f7]
  refine J_b 2 am_d40 rfl ?_
  refine J_puti (am_d40 rfl) rfl ?_
  rw [D40_f8]
  refine J_b 2 am_d40 rfl ?_
  refine J_puti (am_d40 rfl) rfl ?_
  rw [D40_f9]
  refine J_b 2 am_d40 rfl ?_
  refine J_puti (am_d40 rfl) rfl ?_
  rw [D40_f12]
  refine J_b 2 am_d40 rfl ?_
  refine J_puti (am_d40 rfl) rfl ?_
  rw [D40_f13]
  refine J_b 2 am_d40 rfl ?_
  refine J_puti (am_d40 rfl) rfl ?_
  rw [D40_f14]
  exact J_ret (am_d40 rfl) rfl ⟨rfl, D_st (funext fun j => s0_1) rfl rfl rfl rfl rfl rfl, rfl⟩
theorem sp39_40 {X : am_X} {M : am_M} {N : am_N} {c : Nat} (hc : c < 5) (hcb : iv_cb M) : am_J X (am_eq (none) (dr_D M 40 (M 19 c) (M 22 c) (M 25 c) 0 (M 40 10) (M 40 11) (M 17) (c_s0 (M 23 c).toNatClampNeg (M 42))) N) 39 0 (am_en 39 [.ref 40, .ref 18, .int (nI c), .ref 17]) [] (M) N := by
  have hp60 : (M 23 c).toNatClampNeg < 60 := by have := hcb.2.2.2.2.2.1 c; unfold b_in at this; have := I_cl this.1; omega
  refine J_en (L := [.ref 40, .ref 18, .int (nI c), .ref 17]) rfl ?_
  refine J_b 4 am_d39 rfl ?_
  refine J_iald (am_d39 rfl) rfl (vp_in_nI hc (by decide)) ?_
  rw [nI_c (n := c) (by omega)]
  show am_J X _ 39 7 _ (.int (M 19 c) :: _) _ N
  refine J_b 3 am_d39 rfl ?_
  refine J_iald (am_d39 rfl) rfl (vp_in_nI hc (by decide)) ?_
  rw [nI_c (n := c) (by omega)]
  show am_J X _ 39 13 _ (.int (M 22 c) :: _) _ N
  refine J_b 3 am_d39 rfl ?_
  refine J_iald (am_d39 rfl) rfl (vp_in_nI hc (by decide)) ?_
  rw [nI_c (n := c) (by omega)]
  show am_J X _ 39 19 _ (.int (M 23 c) :: _) _ N
  refine J_b 3 am_d39 rfl ?_
  refine J_iald (am_d39 rfl) rfl (vp_in_nI hc (by decide)) ?_
  rw [nI_c (n := c) (by omega)]
  show am_J X _ 39 25 _ (.int (M 25 c) :: _) _ N
  refine J_b 1 am_d39 rfl ?_
  rw [show M 23 c = nI (M 23 c).toNatClampNeg from I_nI (hcb.2.2.2.2.2.1 c).1]
  refine J_V5n 40 (am_d39 rfl) rfl rfl (sp40_40_17 hp60) ?_
  exact J_ret (am_d39 rfl) rfl ⟨rfl, by rw [nI_c (by omega)], rfl⟩
theorem lp42_46 {X : am_X} {M : am_M} {N : am_N} {kd sk e0 n0 : Int32} {sh : Nat → Int32} {s0 : am_M} {mo : Nat} {cnt : Nat} (hmo : mo < 100) (hb : iv_sb M) (hk : b_in kd 0 3) (hsh : ∀ j, b_in (sh j) (-1) 1) (h0 : ∀ k, s0 4 k = 0) (hc : cnt < 100) : ∀ (n i t : Nat), i + n = cnt ∧ t ≤ 12 → ∀ (x : Int32), x = nI i → am_J X (am_eq none (dr_T M 46 kd mo sk e0 n0 sh s0 (min 12 (t + n))) N) 42 2 [.ref 46, .int (nI cnt), .int x] [] (dr_T M 46 kd mo sk e0 n0 sh s0 t) N := by
  intro n
  induction n with
  | zero =>
    intro i t hn x ex
    have e : i = cnt := by omega
    subst e
    subst ex
    refine J_b 2 am_d42 rfl ?_
    refine J_icmp_ge 72 (am_d42 rfl) rfl (fun h4 => ?_) (fun h4 => absurd (Int32.le_refl _) h4)
    exact J_ret (am_d42 rfl) rfl ⟨rfl, by rw [show min 12 (t + 0) = t by omega], rfl⟩
  | succ n ih =>
    intro i t hn x ex
    subst ex
    by_cases ht12 : t = 12
    · subst ht12
      refine J_b 2 am_d42 rfl ?_
      refine J_icmp_ge 72 (am_d42 rfl) rfl (fun h4 => absurd h4 (nI_ngt (by omega) (by omega))) (fun h4 => ?_)
      refine J_b 3 am_d42 rfl ?_
      refine J_icmp_ge 72 (am_d42 rfl) rfl (fun h13 => ?_) (fun h13 => absurd (Int32.le_refl _) h13)
      exact J_ret (am_d42 rfl) rfl ⟨rfl, by rw [show min 12 (12 + (n + 1)) = 12 by omega], rfl⟩
    have ht : t < 12 := by omega
    have hmin : min 12 (t + (n + 1)) = min 12 ((t + 1) + n) := by omega
    unfold dr_T
    refine J_b 2 am_d42 rfl ?_
    refine J_icmp_ge 72 (am_d42 rfl) rfl (fun h4 => absurd h4 (nI_ngt (by omega) (by omega))) (fun h4 => ?_)
    refine J_b 3 am_d42 rfl ?_
    refine J_icmp_ge 72 (am_d42 rfl) rfl (fun h13 => absurd h13 (l12 ht)) (fun h13 => ?_)
    refine J_b 3 am_d42 rfl ?_
    refine J_icmp_ne 39 (am_d42 rfl) rfl (fun h21 => ?_) (fun h21 => ?_)
    · refine J_b 5 am_d42 rfl ?_
      show am_J X _ 42 48 _ [.int (nI t), .int (nI mo), .ref 46] _ N
      refine J_b 1 am_d42 rfl ?_
      rw [nI_add]
      refine J_V1n 45 (am_d42 rfl) rfl rfl (sp45_46 (by omega) hb hk hsh) ?_
      refine J_b 1 am_d42 rfl ?_
      refine J_V0n 54 (am_d42 rfl) rfl rfl (sp54_46 ht (fun k h => by rw [gw_4]; exact dr_4 h0 t k h)) ?_
      refine J_b 5 am_d42 rfl ?_
      refine J_puti (am_d42 rfl) rfl ?_
      rw [D46_f9]
      refine J_b 2 am_d42 rfl ?_
      refine J_mem (M' := dr_T M 46 kd mo sk e0 n0 sh s0 (t + 1)) ?_ ?_
      · show dr_D M 46 kd (nI mo) sk (nI t + 1) _ _ sh _ = _
        rw [nI_1 t, ← mo_n (by first | exact .inl h21 | exact .inr h32) ht]
        rfl
      · rw [hmin]
        exact ih (i + 1) (t + 1) (by omega) _ (nI_1 i)
    · refine J_b 4 am_d42 rfl ?_
      refine J_icmp_lt 39 (am_d42 rfl) rfl (fun h32 => ?_) (fun h32 => ?_)
      · refine J_b 5 am_d42 rfl ?_
        show am_J X _ 42 48 _ [.int (nI t), .int (nI mo), .ref 46] _ N
        refine J_b 1 am_d42 rfl ?_
        rw [nI_add]
        refine J_V1n 45 (am_d42 rfl) rfl rfl (sp45_46 (by omega) hb hk hsh) ?_
        refine J_b 1 am_d42 rfl ?_
        refine J_V0n 54 (am_d42 rfl) rfl rfl (sp54_46 ht (fun k h => by rw [gw_4]; exact dr_4 h0 t k h)) ?_
        refine J_b 5 am_d42 rfl ?_
        refine J_puti (am_d42 rfl) rfl ?_
        rw [D46_f9]
        refine J_b 2 am_d42 rfl ?_
        refine J_mem (M' := dr_T M 46 kd mo sk e0 n0 sh s0 (t + 1)) ?_ ?_
        · show dr_D M 46 kd (nI mo) sk (nI t + 1) _ _ sh _ = _
          rw [nI_1 t, ← mo_n (by first | exact .inl h21 | exact .inr h32) ht]
          rfl
        · rw [hmin]
          exact ih (i + 1) (t + 1) (by omega) _ (nI_1 i)
      · refine J_b 1 am_d42 rfl ?_
        refine J_V0n 43 (am_d42 rfl) rfl rfl (sp43_46) ?_
        refine J_b 5 am_d42 rfl ?_
        show am_J X _ 42 48 _ [.int (nI t), .int (nI mo), .ref 46] _ N
        refine J_b 1 am_d42 rfl ?_
        rw [nI_add]
        refine J_V1n 45 (am_d42 rfl) rfl rfl (sp45_46 (by omega) hb hk hsh) ?_
        refine J_b 1 am_d42 rfl ?_
        refine J_V0n 54 (am_d42 rfl) rfl rfl (sp54_46 ht (fun k h => by rw [gw_4, upR_n (by decide), up_n (by decide)]; exact dr_4 h0 t k h)) ?_
        refine J_b 5 am_d42 rfl ?_
        refine J_puti (am_d42 rfl) rfl ?_
        rw [D46_f9]
        refine J_b 2 am_d42 rfl ?_
        refine J_mem (M' := dr_T M 46 kd mo sk e0 n0 sh s0 (t + 1)) ?_ ?_
        · show dr_D M 46 kd (nI mo) sk (nI t + 1) _ _ sh _ = _
          rw [nI_1 t, ← mo_s (kd := kd) (sk := sk) (show kd = 2 from h21) (show ¬ nI t < sk from h32) ht]
          rfl
        · rw [hmin]
          exact ih (i + 1) (t + 1) (by omega) _ (nI_1 i)
theorem sp42_46 {X : am_X} {M : am_M} {N : am_N} {kd sk e0 n0 : Int32} {sh : Nat → Int32} {s0 : am_M} {mo : Nat} {cnt t : Nat} (hmo : mo < 100) (hb : iv_sb M) (hk : b_in kd 0 3) (hsh : ∀ j, b_in (sh j) (-1) 1) (h0 : ∀ k, s0 4 k = 0) (hc : cnt < 100) (ht : t ≤ 12) : am_J X (am_eq (none) (dr_T M 46 kd mo sk e0 n0 sh s0 (min 12 (t + cnt))) N) 42 0 (am_en 42 [.ref 46, .int (nI cnt)]) [] (dr_T M 46 kd mo sk e0 n0 sh s0 t) N := by
  refine J_en (L := [.ref 46, .int (nI cnt), .retAddr 0]) rfl ?_
  refine J_b 2 am_d42 rfl ?_
  exact lp42_46 hmo hb hk hsh h0 hc cnt 0 t ⟨by omega, ht⟩ _ rfl
theorem sp40_46_17 {X : am_X} {M : am_M} {N : am_N} {kd mo sk : Int32} {p : Nat} (hp : p < 60) : am_J X (am_eq none (dr_D M 46 kd mo sk 0 (M 46 10) (M 46 11) (M 17) (c_s0 p (M 48))) N) 40 0 (am_en 40 [.ref 46, .int kd, .int mo, .int (nI p), .int sk, .ref 17]) [] M N := by
  refine J_en (L := [.ref 46, .int kd, .int mo, .int (nI p), .int sk, .ref 17]) rfl ?_
  refine J_mem (D46_of M) ?_
  refine J_b 3 am_d40 rfl ?_
  have q1 := sp41 (X := X) (N := N) (M := dr_D M 46 (M 46 6) (M 46 7) (M 46 8) (M 46 9) (M 46 10) (M 46 11) (M 51) (fun k j => if k = 0 then M 46 j else M (46 + k) j)) (k := 47) (n := 60) (v := 0) rfl (by decide)
  rw [D46_r1] at q1
  refine J_S2n 41 (am_d40 rfl) rfl rfl q1 ?_
  refine J_b 3 am_d40 rfl ?_
  have q3 := sp41 (X := X) (N := N) (M := dr_D M 46 (M 46 6) (M 46 7) (M 46 8) (M 46 9) (M 46 10) (M 46 11) (M 51) (am_upR (fun k j => if k = 0 then M 46 j else M (46 + k) j) 1 c_z)) (k := 49) (n := 60) (v := 0) rfl (by decide)
  rw [D46_r3] at q3
  refine J_S2n 41 (am_d40 rfl) rfl rfl q3 ?_
  refine J_b 3 am_d40 rfl ?_
  have q4 := sp41 (X := X) (N := N) (M := dr_D M 46 (M 46 6) (M 46 7) (M 46 8) (M 46 9) (M 46 10) (M 46 11) (M 51) (am_upR (am_upR (fun k j => if k = 0 then M 46 j else M (46 + k) j) 1 c_z) 3 c_z)) (k := 50) (n := 720) (v := 0) rfl (by decide)
  rw [D46_r4] at q4
  refine J_S2n 41 (am_d40 rfl) rfl rfl q4 ?_
  refine J_b 6 am_d40 rfl ?_
  refine J_copy (am_d40 rfl) rfl rfl rfl (by decide) (by decide) (by decide) (by decide) (by decide) ?_
  rw [D46_s]
  refine J_mr 51 (n := 3) (M 17) rfl (fun j hj => ?_) ?_
  · show M 17 j = va_cpy (M 17) (M 51) 0 0 3 j
    rw [cpy0]
    exact (if_pos hj).symm
  rw [D46_s]
  refine J_b 4 am_d40 rfl ?_
  refine J_iast (am_d40 rfl) rfl (vp_in_nI hp (by decide)) ?_
  rw [nI_c (n := p) (by omega), D46_u1]
  refine J_b 2 am_d40 rfl ?_
  refine J_puti (am_d40 rfl) rfl ?_
  rw [D46_f6]
  refine J_b 2 am_d40 rfl ?_
  refine J_puti (am_d40 rfl) rfl ?_
  rw [D46_f7]
  refine J_b 2 am_d40 rfl ?_
  refine J_puti (am_d40 rfl) rfl ?_
  rw [D46_f8]
  refine J_b 2 am_d40 rfl ?_
  refine J_puti (am_d40 rfl) rfl ?_
  rw [D46_f9]
  refine J_b 2 am_d40 rfl ?_
  refine J_puti (am_d40 rfl) rfl ?_
  rw [D46_f12]
  refine J_b 2 am_d40 rfl ?_
  refine J_puti (am_d40 rfl) rfl ?_
  rw [D46_f13]
  refine J_b 2 am_d40 rfl ?_
  refine J_puti (am_d40 rfl) rfl ?_
  rw [D46_f14]
  exact J_ret (am_d40 rfl) rfl ⟨rfl, D_st (funext fun j => s0_1) rfl rfl rfl rfl rfl rfl, rfl⟩
theorem sp40_46_78 {X : am_X} {M : am_M} {N : am_N} {kd mo sk : Int32} {p : Nat} (hp : p < 60) : am_J X (am_eq none (dr_D M 46 kd mo sk 0 (M 46 10) (M 46 11) (M 78) (c_s0 p (M 48))) N) 40 0 (am_en 40 [.ref 46, .int kd, .int mo, .int (nI p), .int sk, .ref 78]) [] M N := by
  refine J_en (L := [.ref 46, .int kd, .int mo, .int (nI p), .int sk, .ref 78]) rfl ?_
  refine J_mem (D46_of M) ?_
  refine J_b 3 am_d40 rfl ?_
  have q1 := sp41 (X := X) (N := N) (M := dr_D M 46 (M 46 6) (M 46 7) (M 46 8) (M 46 9) (M 46 10) (M 46 11) (M 51) (fun k j => if k = 0 then M 46 j else M (46 + k) j)) (k := 47) (n := 60) (v := 0) rfl (by decide)
  rw [D46_r1] at q1
  refine J_S2n 41 (am_d40 rfl) rfl rfl q1 ?_
  refine J_b 3 am_d40 rfl ?_
  have q3 := sp41 (X := X) (N := N) (M := dr_D M 46 (M 46 6) (M 46 7) (M 46 8) (M 46 9) (M 46 10) (M 46 11) (M 51) (am_upR (fun k j => if k = 0 then M 46 j else M (46 + k) j) 1 c_z)) (k := 49) (n := 60) (v := 0) rfl (by decide)
  rw [D46_r3] at q3
  refine J_S2n 41 (am_d40 rfl) rfl rfl q3 ?_
  refine J_b 3 am_d40 rfl ?_
  have q4 := sp41 (X := X) (N := N) (M := dr_D M 46 (M 46 6) (M 46 7) (M 46 8) (M 46 9) (M 46 10) (M 46 11) (M 51) (am_upR (am_upR (fun k j => if k = 0 then M 46 j else M (46 + k) j) 1 c_z) 3 c_z)) (k := 50) (n := 720) (v := 0) rfl (by decide)
  rw [D46_r4] at q4
  refine J_S2n 41 (am_d40 rfl) rfl rfl q4 ?_
  refine J_b 6 am_d40 rfl ?_
  refine J_copy (am_d40 rfl) rfl rfl rfl (by decide) (by decide) (by decide) (by decide) (by decide) ?_
  rw [D46_s]
  refine J_mr 51 (n := 3) (M 78) rfl (fun j hj => ?_) ?_
  · show M 78 j = va_cpy (M 78) (M 51) 0 0 3 j
    rw [cpy0]
    exact (if_pos hj).symm
  rw [D46_s]
  refine J_b 4 am_d40 rfl ?_
  refine J_iast (am_d40 rfl) rfl (vp_in_nI hp (by decide)) ?_
  rw [nI_c (n := p) (by omega), D46_u1]
  refine J_b 2 am_d40 rfl ?_
  refine J_puti (am_d40 rfl) rfl ?_
  rw [D46_f6]
  refine J_b 2 am_d40 rfl ?_
  refine J_puti (am_d40 rfl) rfl ?_
  rw [D46_f7]
  refine J_b 2 am_d40 rfl ?_
  refine J_puti (am_d40 rfl) rfl ?_
  rw [D46_f8]
  refine J_b 2 am_d40 rfl ?_
  refine J_puti (am_d40 rfl) rfl ?_
  rw [D46_f9]
  refine J_b 2 am_d40 rfl ?_
  refine J_puti (am_d40 rfl) rfl ?_
  rw [D46_f12]
  refine J_b 2 am_d40 rfl ?_
  refine J_puti (am_d40 rfl) rfl ?_
  rw [D46_f13]
  refine J_b 2 am_d40 rfl ?_
  refine J_puti (am_d40 rfl) rfl ?_
  rw [D46_f14]
  exact J_ret (am_d40 rfl) rfl ⟨rfl, D_st (funext fun j => s0_1) rfl rfl rfl rfl rfl rfl, rfl⟩
theorem sp39_46 {X : am_X} {M : am_M} {N : am_N} {c : Nat} (hc : c < 5) (hcb : iv_cb M) : am_J X (am_eq (none) (dr_D M 46 (M 19 c) (M 22 c) (M 25 c) 0 (M 46 10) (M 46 11) (M 17) (c_s0 (M 23 c).toNatClampNeg (M 48))) N) 39 0 (am_en 39 [.ref 46, .ref 18, .int (nI c), .ref 17]) [] (M) N := by
  have hp60 : (M 23 c).toNatClampNeg < 60 := by have := hcb.2.2.2.2.2.1 c; unfold b_in at this; have := I_cl this.1; omega
  refine J_en (L := [.ref 46, .ref 18, .int (nI c), .ref 17]) rfl ?_
  refine J_b 4 am_d39 rfl ?_
  refine J_iald (am_d39 rfl) rfl (vp_in_nI hc (by decide)) ?_
  rw [nI_c (n := c) (by omega)]
  show am_J X _ 39 7 _ (.int (M 19 c) :: _) _ N
  refine J_b 3 am_d39 rfl ?_
  refine J_iald (am_d39 rfl) rfl (vp_in_nI hc (by decide)) ?_
  rw [nI_c (n := c) (by omega)]
  show am_J X _ 39 13 _ (.int (M 22 c) :: _) _ N
  refine J_b 3 am_d39 rfl ?_
  refine J_iald (am_d39 rfl) rfl (vp_in_nI hc (by decide)) ?_
  rw [nI_c (n := c) (by omega)]
  show am_J X _ 39 19 _ (.int (M 23 c) :: _) _ N
  refine J_b 3 am_d39 rfl ?_
  refine J_iald (am_d39 rfl) rfl (vp_in_nI hc (by decide)) ?_
  rw [nI_c (n := c) (by omega)]
  show am_J X _ 39 25 _ (.int (M 25 c) :: _) _ N
  refine J_b 1 am_d39 rfl ?_
  rw [show M 23 c = nI (M 23 c).toNatClampNeg from I_nI (hcb.2.2.2.2.2.1 c).1]
  refine J_V5n 40 (am_d39 rfl) rfl rfl (sp40_46_17 hp60) ?_
  exact J_ret (am_d39 rfl) rfl ⟨rfl, by rw [nI_c (by omega)], rfl⟩
