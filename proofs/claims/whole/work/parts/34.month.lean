/-! ===== the drift: a month, months, its beginning ===== -/
theorem ap_4 {o : Nat × Nat} {n : Int32} {st : am_M} : c_ap o n st 4 = st 4 := by
  unfold c_ap
  split
  · exact up_n (by decide)
  · split
    · exact up_n (by decide)
    · exact up_n (by decide)
theorem ap_1r {o : Nat × Nat} {n : Int32} {st : am_M} : c_ap o n st 1 = st 1 := by
  unfold c_ap
  split
  · exact up_n (by decide)
  · split
    · exact up_n (by decide)
    · exact up_n (by decide)
theorem go_4 {E : am_M} {sh : Nat → Int32} {kd : Int32} {m p : Nat} {st : am_M} : c_go E sh kd m p st 4 = st 4 := by
  unfold c_go
  split
  · rfl
  · split
    · exact up_n (by decide)
    · unfold c_gf c_sd
      rw [ap_4, ap_4, ap_4]
theorem gi_4 {E : am_M} {sh : Nat → Int32} {kd : Int32} {m : Nat} {st : am_M} (n : Nat) : itr (c_go E sh kd m) n st 4 = st 4 := by
  induction n with
  | zero => rfl
  | succ n ih => rw [itr_s, go_4, ih]
theorem gw_4 {E : am_M} {sh : Nat → Int32} {kd : Int32} {m : Nat} {st : am_M} : c_gw E sh kd m st 4 = st 4 := by
  unfold c_gw c_wa
  rw [upR_n (by decide), gi_4, upR_n (by decide)]
theorem sk_4 {kd sk : Int32} {t : Nat} {st : am_M} : c_sk kd sk t st 4 = st 4 := by
  unfold c_sk
  split
  · rw [upR_n (by decide), up_n (by decide)]
  · rfl
theorem mo_4 {E : am_M} {sh : Nat → Int32} {kd sk : Int32} {m t : Nat} {st : am_M} {k : Nat} (h : 60 * t + 60 ≤ k) : c_mo E sh kd m sk t st 4 k = st 4 k := by
  unfold c_mo
  show (if 60 * t ≤ k ∧ k < 60 * t + 60 then _ else c_gw E sh kd (m + t) (c_sk kd sk t st) 4 k) = st 4 k
  rw [if_neg (by omega), gw_4, sk_4]
theorem dr_4 {E : am_M} {sh : Nat → Int32} {kd sk : Int32} {m : Nat} {st : am_M} (h : ∀ k, st 4 k = 0) (t : Nat) : ∀ k, 60 * t ≤ k → itr (c_mo E sh kd m sk) t st 4 k = 0 := by
  induction t with
  | zero => exact fun k _ => h k
  | succ t ih =>
    intro k hk
    rw [itr_s, mo_4 (by omega), ih k (by omega)]
theorem nI_60 {t i : Nat} : nI t * (Int8.ofInt 60).toInt32 + nI i = nI (60 * t + i) := by
  rw [show (Int8.ofInt 60).toInt32 = nI 60 from rfl, nI_mul, nI_add, Nat.mul_comm]
theorem z_l {i : Nat} (h : i < 60) : ¬ (Int8.ofInt 60).toInt32 ≤ nI i := by
  rw [show (Int8.ofInt 60).toInt32 = nI 60 from rfl, Int32.le_iff_toInt_le, nI_i (by omega), nI_i (by omega)]
  omega
theorem lp45_40 {X : am_X} {M : am_M} {N : am_N} {kd mo sk gn : Int32} {sh : Nat → Int32} {st0 : am_M} {m : Nat} (hm : m < 1000) (hb : iv_sb M) (hk : b_in kd 0 3) (hsh : ∀ j, b_in (sh j) (-1) 1) : ∀ (n i : Nat), i + n = 60 → ∀ (x : Int32), x = nI i → ∀ (st1 : am_M), st1 = itr (c_go (sC M) sh kd m) i st0 → am_J X (am_eq none (dr_D M 40 kd mo sk gn (c_fl kd (c_wd (sC M) 9 12 m)) (c_fl kd (c_wd (sC M) 10 13 m)) sh (c_wa (itr (c_go (sC M) sh kd m) 60 st0))) N) 45 42 [.ref 40, .int (nI m), .int x] [] (dr_D M 40 kd mo sk gn (c_fl kd (c_wd (sC M) 9 12 m)) (c_fl kd (c_wd (sC M) 10 13 m)) sh st1) N := by
  intro n
  induction n with
  | zero =>
    intro i hn x ex st1 es
    have e : i = 60 := by omega
    have es2 : itr (c_go (sC M) sh kd m) 60 st0 = st1 := by rw [es, e]
    rw [es2]
    have hge : (Int8.ofInt 60).toInt32 ≤ x := by rw [ex, e]; exact Int32.le_refl _
    refine J_b 2 am_d45 rfl ?_
    refine J_icmp_ge 102 (am_d45 rfl) rfl (fun h45 => ?_) (fun h45 => absurd (hge) h45)
    refine J_b 7 am_d45 rfl ?_
    refine J_copy (am_d45 rfl) rfl rfl rfl (by decide) (by decide) (by decide) (by decide) (by decide) ?_
    exact J_ret (am_d45 rfl) rfl ⟨rfl, by rw [D40_r1]; exact congrArg (fun z => dr_D M 40 kd mo sk gn (c_fl kd (c_wd (sC M) 9 12 m)) (c_fl kd (c_wd (sC M) 10 13 m)) sh (am_upR st1 1 z)) (cpy0 (f := st1 2) (g := st1 1) (n := 60)), rfl⟩
  | succ n ih =>
    intro i hn x ex st1 es
    have hi : i < 60 := by omega
    subst ex
    refine J_b 2 am_d45 rfl ?_
    refine J_icmp_ge 102 (am_d45 rfl) rfl (fun h45 => absurd h45 (z_l hi)) (fun h45 => ?_)
    refine J_b 3 am_d45 rfl ?_
    refine J_iald (am_d45 rfl) rfl (vp_in_nI hi (by decide)) ?_
    rw [nI_c (n := i) (by omega)]
    show am_J X _ 45 54 _ (.int (st1 1 i) :: _) _ N
    refine J_if_ne 60 (am_d45 rfl) rfl (fun h54 => ?_) (fun h54 => ?_)
    · refine J_b 4 am_d45 rfl ?_
      refine J_V2s 49 (am_d45 rfl) rfl rfl (sp49 hi hm) ?_
      refine J_if_eq 90 (am_d45 rfl) rfl (fun h69 => ?_) (fun h69 => ?_)
      · have hc : ¬ c_icy (sC M) m i := am_bi0.mp h69
        refine J_b 3 am_d45 rfl ?_
        refine J_V2n 50 (am_d45 rfl) rfl rfl (sp50_40 (m := m) hi hm hb hsh (fl_b hk (wd_e hb).1) (fl_b hk (wd_e hb).2)) ?_
        refine J_b 1 am_d45 rfl ?_
        refine J_b 1 am_d45 rfl ?_
        refine ih (i + 1) (by omega) _ (nI_1 i) _ ?_
        rw [itr_s, ← es, go_2 h54 hc]
      · have hc : c_icy (sC M) m i := am_bi1.mp h69
        refine J_b 4 am_d45 rfl ?_
        refine J_iald (am_d45 rfl) rfl (vp_in_nI hi (by decide)) ?_
        rw [nI_c (n := i) (by omega)]
        show am_J X _ 45 79 _ (.int (st1 2 i) :: _) _ N
        refine J_b 3 am_d45 rfl ?_
        refine J_iald (am_d45 rfl) rfl (vp_in_nI hi (by decide)) ?_
        rw [nI_c (n := i) (by omega)]
        show am_J X _ 45 85 _ (.int (st1 1 i) :: _) _ N
        refine J_b 1 am_d45 rfl ?_
        refine J_iast (am_d45 rfl) rfl (vp_in_nI hi (by decide)) ?_
        refine J_b 1 am_d45 rfl ?_
        rw [nI_c (n := i) (by omega), D40_u2]
        refine J_b 1 am_d45 rfl ?_
        refine J_b 1 am_d45 rfl ?_
        refine ih (i + 1) (by omega) _ (nI_1 i) _ ?_
        rw [itr_s, ← es, go_1 h54 hc]
    · refine J_b 1 am_d45 rfl ?_
      refine J_b 1 am_d45 rfl ?_
      refine J_b 1 am_d45 rfl ?_
      refine ih (i + 1) (by omega) _ (nI_1 i) _ ?_
      rw [itr_s, ← es, go_0 h54]
theorem sp45_40 {X : am_X} {M : am_M} {N : am_N} {kd mo sk gn ew nw : Int32} {sh : Nat → Int32} {st : am_M} {m : Nat} (hm : m < 1000) (hb : iv_sb M) (hk : b_in kd 0 3) (hsh : ∀ j, b_in (sh j) (-1) 1) : am_J X (am_eq (none) (dr_D M 40 kd mo sk gn (c_fl kd (c_wd (sC M) 9 12 m)) (c_fl kd (c_wd (sC M) 10 13 m)) sh (c_gw (sC M) sh kd m st)) N) 45 0 (am_en 45 [.ref 40, .int (nI m)]) [] (dr_D M 40 kd mo sk gn ew nw sh st) N := by
  refine J_en (L := [.ref 40, .int (nI m), .retAddr 0]) rfl ?_
  refine J_b 5 am_d45 rfl ?_
  refine J_V1s 46 (am_d45 rfl) rfl rfl (sp46 hm) ?_
  refine J_V1s 47 (am_d45 rfl) rfl rfl (sp47_40 hk) ?_
  refine J_puti (am_d45 rfl) rfl ?_
  rw [D40_f10]
  refine J_b 5 am_d45 rfl ?_
  refine J_V1s 48 (am_d45 rfl) rfl rfl (sp48 hm) ?_
  refine J_V1s 47 (am_d45 rfl) rfl rfl (sp47_40 hk) ?_
  refine J_puti (am_d45 rfl) rfl ?_
  rw [D40_f11]
  refine J_b 3 am_d45 rfl ?_
  have q := sp41 (X := X) (N := N) (M := dr_D M 40 kd mo sk gn (c_fl kd (c_wd (sC M) 9 12 m)) (c_fl kd (c_wd (sC M) 10 13 m)) sh st) (k := 42) (n := 60) (v := 0) rfl (by decide)
  rw [D40_r2] at q
  refine J_S2n 41 (am_d45 rfl) rfl rfl q ?_
  refine J_b 2 am_d45 rfl ?_
  exact lp45_40 hm hb hk hsh 60 0 rfl _ rfl _ rfl
theorem sp43_40 {X : am_X} {M : am_M} {N : am_N} {kd mo sk gn ew nw : Int32} {sh : Nat → Int32} {st : am_M} : am_J X (am_eq (none) (dr_D M 40 kd mo sk gn ew nw sh (am_upR (am_up st 0 14 (st 0 14 + smI (st 1) 60)) 1 c_z)) N) 43 0 (am_en 43 [.ref 40]) [] (dr_D M 40 kd mo sk gn ew nw sh st) N := by
  refine J_en (L := [.ref 40]) rfl ?_
  refine J_b 5 am_d43 rfl ?_
  refine J_S1s 44 (am_d43 rfl) rfl rfl (sp44 (k := 41) (n := 60) rfl (by decide)) ?_
  refine J_b 1 am_d43 rfl ?_
  refine J_puti (am_d43 rfl) rfl ?_
  rw [D40_f14]
  refine J_b 3 am_d43 rfl ?_
  have q := sp41 (X := X) (N := N) (M := dr_D M 40 kd mo sk gn ew nw sh (am_up st 0 14 (st 0 14 + smI (st 1) 60))) (k := 41) (n := 60) (v := 0) rfl (by decide)
  rw [D40_r1] at q
  refine J_S2n 41 (am_d43 rfl) rfl rfl q ?_
  exact J_ret (am_d43 rfl) rfl ⟨rfl, rfl, rfl⟩
theorem lp54_40 {X : am_X} {M : am_M} {N : am_N} {kd mo sk ew nw : Int32} {sh : Nat → Int32} {st : am_M} {t : Nat} (ht : t < 12) (hz : ∀ k, 60 * t ≤ k → st 4 k = 0) : ∀ (n i : Nat), i + n = 60 → ∀ (x : Int32), x = nI i → ∀ (z1 z2 z3 : Value) (st1 : am_M), st1 = c_bi (sC M) t st i → am_J X (am_eq none (dr_D M 40 kd mo sk (nI t) ew nw sh (c_bw (sC M) t st)) N) 54 2 [.ref 40, .int x, z1, z2, z3] [] (dr_D M 40 kd mo sk (nI t) ew nw sh st1) N := by
  intro n
  induction n with
  | zero =>
    intro i hn x ex z1 z2 z3 st1 es
    have e : i = 60 := by omega
    subst e
    subst ex
    subst es
    refine J_b 2 am_d54 rfl ?_
    refine J_icmp_ge 111 (am_d54 rfl) rfl (fun h5 => ?_) (fun h5 => absurd (Int32.le_refl _) h5)
    exact J_ret (am_d54 rfl) rfl ⟨rfl, rfl, rfl⟩
  | succ n ih =>
    intro i hn x ex z1 z2 z3 st1 es
    have hi : i < 60 := by omega
    subst ex
    subst es
    have e3 : (c_bi (sC M) t st i) 3 i = st 3 i := by show (if i < i then _ else st 3 i) = st 3 i; rw [if_neg (by omega)]
    refine J_b 2 am_d54 rfl ?_
    refine J_icmp_ge 111 (am_d54 rfl) rfl (fun h5 => absurd h5 (z_l hi)) (fun h5 => ?_)
    refine J_b 3 am_d54 rfl ?_
    refine J_iald (am_d54 rfl) rfl (vp_in_nI hi (by decide)) ?_
    rw [nI_c (n := i) (by omega)]
    show am_J X _ 54 14 _ (.int ((c_bi (sC M) t st i) 3 i) :: _) _ N
    rw [e3]
    refine J_if_ne 20 (am_d54 rfl) rfl (fun h14 => ?_) (fun h14 => ?_)
    · refine J_b 3 am_d54 rfl ?_
      refine J_iald (am_d54 rfl) rfl (vp_in_nI hi (by decide)) ?_
      rw [nI_c (n := i) (by omega)]
      show am_J X _ 54 26 _ (.int ((c_bi (sC M) t st i) 3 i) :: _) _ N
      rw [e3]
      refine J_b 4 am_d54 rfl ?_
      refine J_aaldk 6 (am_d54 rfl) rfl (am_vi rfl) rfl ?_
      refine J_b 1 am_d54 rfl ?_
      refine J_iald (am_d54 rfl) rfl (vp_in_nI hi (by decide)) ?_
      rw [nI_c (n := i) (by omega)]
      show am_J X _ 54 37 _ (.int (M 6 i) :: _) _ N
      refine J_b 7 am_d54 rfl ?_
      refine J_iald (am_d54 rfl) rfl (vp_in_nI hi (by decide)) ?_
      rw [nI_c (n := i) (by omega)]
      show am_J X _ 54 48 _ (.int ((c_bi (sC M) t st i) 3 i) :: _) _ N
      rw [e3]
      refine J_b 8 am_d54 rfl ?_
      refine J_aaldk 5 (am_d54 rfl) rfl (am_vi rfl) rfl ?_
      refine J_b 1 am_d54 rfl ?_
      refine J_iald (am_d54 rfl) rfl (vp_in_nI hi (by decide)) ?_
      rw [nI_c (n := i) (by omega)]
      show am_J X _ 54 63 _ (.int (M 5 i) :: _) _ N
      refine J_b 4 am_d54 rfl ?_
      show am_J X _ 54 69 [.ref 40, .int (nI i), .int (c_tk (sC M) st i), .int (st 3 i - c_tk (sC M) st i), .int (c_cv (sC M) st i)] [] _ N
      refine J_b 1 am_d54 rfl ?_
      refine J_b 8 am_d54 rfl ?_
      show am_J X _ 54 83 _ (_ :: .int (nI t * (Int8.ofInt 60).toInt32 + nI i) :: _) _ N
      rw [nI_60]
      refine J_iast (am_d54 rfl) rfl (vp_in_nI (by omega) (by decide)) ?_
      rw [nI_c (n := 60 * t + i) (by omega), D40_u4]
      refine J_b 5 am_d54 rfl ?_
      refine J_puti (am_d54 rfl) rfl ?_
      rw [D40_f12]
      refine J_b 6 am_d54 rfl ?_
      refine J_iast (am_d54 rfl) rfl (vp_in_nI hi (by decide)) ?_
      rw [nI_c (n := i) (by omega), D40_u3]
      refine J_b 1 am_d54 rfl ?_
      refine J_b 1 am_d54 rfl ?_
      refine ih (i + 1) (by omega) _ (nI_1 i) _ _ _ _ ?_
      rw [← bi_s]
      rfl
    · refine J_b 1 am_d54 rfl ?_
      refine J_b 1 am_d54 rfl ?_
      refine J_b 1 am_d54 rfl ?_
      refine ih (i + 1) (by omega) _ (nI_1 i) _ _ _ _ ?_
      rw [bi_n h14 (hz _ (by omega))]
theorem sp54_40 {X : am_X} {M : am_M} {N : am_N} {kd mo sk ew nw : Int32} {sh : Nat → Int32} {st : am_M} {t : Nat} (ht : t < 12) (hz : ∀ k, 60 * t ≤ k → st 4 k = 0) : am_J X (am_eq (none) (dr_D M 40 kd mo sk (nI t) ew nw sh (c_bw (sC M) t st)) N) 54 0 (am_en 54 [.ref 40]) [] (dr_D M 40 kd mo sk (nI t) ew nw sh st) N := by
  refine J_en (L := [.ref 40, .retAddr 0, .retAddr 0, .retAddr 0, .retAddr 0]) rfl ?_
  refine J_b 2 am_d54 rfl ?_
  exact lp54_40 ht hz 60 0 rfl _ rfl _ _ _ _ bi_0.symm
theorem lp45_46 {X : am_X} {M : am_M} {N : am_N} {kd mo sk gn : Int32} {sh : Nat → Int32} {st0 : am_M} {m : Nat} (hm : m < 1000) (hb : iv_sb M) (hk : b_in kd 0 3) (hsh : ∀ j, b_in (sh j) (-1) 1) : ∀ (n i : Nat), i + n = 60 → ∀ (x : Int32), x = nI i → ∀ (st1 : am_M), st1 = itr (c_go (sC M) sh kd m) i st0 → am_J X (am_eq none (dr_D M 46 kd mo sk gn (c_fl kd (c_wd (sC M) 9 12 m)) (c_fl kd (c_wd (sC M) 10 13 m)) sh (c_wa (itr (c_go (sC M) sh kd m) 60 st0))) N) 45 42 [.ref 46, .int (nI m), .int x] [] (dr_D M 46 kd mo sk gn (c_fl kd (c_wd (sC M) 9 12 m)) (c_fl kd (c_wd (sC M) 10 13 m)) sh st1) N := by
  intro n
  induction n with
  | zero =>
    intro i hn x ex st1 es
    have e : i = 60 := by omega
    have es2 : itr (c_go (sC M) sh kd m) 60 st0 = st1 := by rw [es, e]
    rw [es2]
    have hge : (Int8.ofInt 60).toInt32 ≤ x := by rw [ex, e]; exact Int32.le_refl _
    refine J_b 2 am_d45 rfl ?_
    refine J_icmp_ge 102 (am_d45 rfl) rfl (fun h45 => ?_) (fun h45 => absurd (hge) h45)
    refine J_b 7 am_d45 rfl ?_
    refine J_copy (am_d45 rfl) rfl rfl rfl (by decide) (by decide) (by decide) (by decide) (by decide) ?_
    exact J_ret (am_d45 rfl) rfl ⟨rfl, by rw [D46_r1]; exact congrArg (fun z => dr_D M 46 kd mo sk gn (c_fl kd (c_wd (sC M) 9 12 m)) (c_fl kd (c_wd (sC M) 10 13 m)) sh (am_upR st1 1 z)) (cpy0 (f := st1 2) (g := st1 1) (n := 60)), rfl⟩
  | succ n ih =>
    intro i hn x ex st1 es
    have hi : i < 60 := by omega
    subst ex
    refine J_b 2 am_d45 rfl ?_
    refine J_icmp_ge 102 (am_d45 rfl) rfl (fun h45 => absurd h45 (z_l hi)) (fun h45 => ?_)
    refine J_b 3 am_d45 rfl ?_
    refine J_iald (am_d45 rfl) rfl (vp_in_nI hi (by decide)) ?_
    rw [nI_c (n := i) (by omega)]
    show am_J X _ 45 54 _ (.int (st1 1 i) :: _) _ N
    refine J_if_ne 60 (am_d45 rfl) rfl (fun h54 => ?_) (fun h54 => ?_)
    · refine J_b 4 am_d45 rfl ?_
      refine J_V2s 49 (am_d45 rfl) rfl rfl (sp49 hi hm) ?_
      refine J_if_eq 90 (am_d45 rfl) rfl (fun h69 => ?_) (fun h69 => ?_)
      · have hc : ¬ c_icy (sC M) m i := am_bi0.mp h69
        refine J_b 3 am_d45 rfl ?_
        refine J_V2n 50 (am_d45 rfl) rfl rfl (sp50_46 (m := m) hi hm hb hsh (fl_b hk (wd_e hb).1) (fl_b hk (wd_e hb).2)) ?_
        refine J_b 1 am_d45 rfl ?_
        refine J_b 1 am_d45 rfl ?_
        refine ih (i + 1) (by omega) _ (nI_1 i) _ ?_
        rw [itr_s, ← es, go_2 h54 hc]
      · have hc : c_icy (sC M) m i := am_bi1.mp h69
        refine J_b 4 am_d45 rfl ?_
        refine J_iald (am_d45 rfl) rfl (vp_in_nI hi (by decide)) ?_
        rw [nI_c (n := i) (by omega)]
        show am_J X _ 45 79 _ (.int (st1 2 i) :: _) _ N
        refine J_b 3 am_d45 rfl ?_
        refine J_iald (am_d45 rfl) rfl (vp_in_nI hi (by decide)) ?_
        rw [nI_c (n := i) (by omega)]
        show am_J X _ 45 85 _ (.int (st1 1 i) :: _) _ N
        refine J_b 1 am_d45 rfl ?_
        refine J_iast (am_d45 rfl) rfl (vp_in_nI hi (by decide)) ?_
        refine J_b 1 am_d45 rfl ?_
        rw [nI_c (n := i) (by omega), D46_u2]
        refine J_b 1 am_d45 rfl ?_
        refine J_b 1 am_d45 rfl ?_
        refine ih (i + 1) (by omega) _ (nI_1 i) _ ?_
        rw [itr_s, ← es, go_1 h54 hc]
    · refine J_b 1 am_d45 rfl ?_
      refine J_b 1 am_d45 rfl ?_
      refine J_b 1 am_d45 rfl ?_
      refine ih (i + 1) (by omega) _ (nI_1 i) _ ?_
      rw [itr_s, ← es, go_0 h54]
theorem sp45_46 {X : am_X} {M : am_M} {N : am_N} {kd mo sk gn ew nw : Int32} {sh : Nat → Int32} {st : am_M} {m : Nat} (hm : m < 1000) (hb : iv_sb M) (hk : b_in kd 0 3) (hsh : ∀ j, b_in (sh j) (-1) 1) : am_J X (am_eq (none) (dr_D M 46 kd mo sk gn (c_fl kd (c_wd (sC M) 9 12 m)) (c_fl kd (c_wd (sC M) 10 13 m)) sh (c_gw (sC M) sh kd m st)) N) 45 0 (am_en 45 [.ref 46, .int (nI m)]) [] (dr_D M 46 kd mo sk gn ew nw sh st) N := by
  refine J_en (L := [.ref 46, .int (nI m), .retAddr 0]) rfl ?_
  refine J_b 5 am_d45 rfl ?_
  refine J_V1s 46 (am_d45 rfl) rfl rfl (sp46 hm) ?_
  refine J_V1s 47 (am_d45 rfl) rfl rfl (sp47_46 hk) ?_
  refine J_puti (am_d45 rfl) rfl ?_
  rw [D46_f10]
  refine J_b 5 am_d45 rfl ?_
  refine J_V1s 48 (am_d45 rfl) rfl rfl (sp48 hm) ?_
  refine J_V1s 47 (am_d45 rfl) rfl rfl (sp47_46 hk) ?_
  refine J_puti (am_d45 rfl) rfl ?_
  rw [D46_f11]
  refine J_b 3 am_d45 rfl ?_
  have q := sp41 (X := X) (N := N) (M := dr_D M 46 kd mo sk gn (c_fl kd (c_wd (sC M) 9 12 m)) (c_fl kd (c_wd (sC M) 10 13 m)) sh st) (k := 48) (n := 60) (v := 0) rfl (by decide)
  rw [D46_r2] at q
  refine J_S2n 41 (am_d45 rfl) rfl rfl q ?_
  refine J_b 2 am_d45 rfl ?_
  exact lp45_46 hm hb hk hsh 60 0 rfl _ rfl _ rfl
theorem sp43_46 {X : am_X} {M : am_M} {N : am_N} {kd mo sk gn ew nw : Int32} {sh : Nat → Int32} {st : am_M} : am_J X (am_eq (none) (dr_D M 46 kd mo sk gn ew nw sh (am_upR (am_up st 0 14 (st 0 14 + smI (st 1) 60)) 1 c_z)) N) 43 0 (am_en 43 [.ref 46]) [] (dr_D M 46 kd mo sk gn ew nw sh st) N := by
  refine J_en (L := [.ref 46]) rfl ?_
  refine J_b 5 am_d43 rfl ?_
  refine J_S1s 44 (am_d43 rfl) rfl rfl (sp44 (k := 47) (n := 60) rfl (by decide)) ?_
  refine J_b 1 am_d43 rfl ?_
  refine J_puti (am_d43 rfl) rfl ?_
  rw [D46_f14]
  refine J_b 3 am_d43 rfl ?_
  have q := sp41 (X := X) (N := N) (M := dr_D M 46 kd mo sk gn ew nw sh (am_up st 0 14 (st 0 14 + smI (st 1) 60))) (k := 47) (n := 60) (v := 0) rfl (by decide)
  rw [D46_r1] at q
  refine J_S2n 41 (am_d43 rfl) rfl rfl q ?_
  exact J_ret (am_d43 rfl) rfl ⟨rfl, rfl, rfl⟩
theorem lp54_46 {X : am_X} {M : am_M} {N : am_N} {kd mo sk ew nw : Int32} {sh : Nat → Int32} {st : am_M} {t : Nat} (ht : t < 12) (hz : ∀ k, 60 * t ≤ k → st 4 k = 0) : ∀ (n i : Nat), i + n = 60 → ∀ (x : Int32), x = nI i → ∀ (z1 z2 z3 : Value) (st1 : am_M), st1 = c_bi (sC M) t st i → am_J X (am_eq none (dr_D M 46 kd mo sk (nI t) ew nw sh (c_bw (sC M) t st)) N) 54 2 [.ref 46, .int x, z1, z2, z3] [] (dr_D M 46 kd mo sk (nI t) ew nw sh st1) N := by
  intro n
  induction n with
  | zero =>
    intro i hn x ex z1 z2 z3 st1 es
    have e : i = 60 := by omega
    subst e
    subst ex
    subst es
    refine J_b 2 am_d54 rfl ?_
    refine J_icmp_ge 111 (am_d54 rfl) rfl (fun h5 => ?_) (fun h5 => absurd (Int32.le_refl _) h5)
    exact J_ret (am_d54 rfl) rfl ⟨rfl, rfl, rfl⟩
  | succ n ih =>
    intro i hn x ex z1 z2 z3 st1 es
    have hi : i < 60 := by omega
    subst ex
    subst es
    have e3 : (c_bi (sC M) t st i) 3 i = st 3 i := by show (if i < i then _ else st 3 i) = st 3 i; rw [if_neg (by omega)]
    refine J_b 2 am_d54 rfl ?_
    refine J_icmp_ge 111 (am_d54 rfl) rfl (fun h5 => absurd h5 (z_l hi)) (fun h5 => ?_)
    refine J_b 3 am_d54 rfl ?_
    refine J_iald (am_d54 rfl) rfl (vp_in_nI hi (by decide)) ?_
    rw [nI_c (n := i) (by omega)]
    show am_J X _ 54 14 _ (.int ((c_bi (sC M) t st i) 3 i) :: _) _ N
    rw [e3]
    refine J_if_ne 20 (am_d54 rfl) rfl (fun h14 => ?_) (fun h14 => ?_)
    · refine J_b 3 am_d54 rfl ?_
      refine J_iald (am_d54 rfl) rfl (vp_in_nI hi (by decide)) ?_
      rw [nI_c (n := i) (by omega)]
      show am_J X _ 54 26 _ (.int ((c_bi (sC M) t st i) 3 i) :: _) _ N
      rw [e3]
      refine J_b 4 am_d54 rfl ?_
      refine J_aaldk 6 (am_d54 rfl) rfl (am_vi rfl) rfl ?_
      refine J_b 1 am_d54 rfl ?_
      refine J_iald (am_d54 rfl) rfl (vp_in_nI hi (by decide)) ?_
      rw [nI_c (n := i) (by omega)]
      show am_J X _ 54 37 _ (.int (M 6 i) :: _) _ N
      refine J_b 7 am_d54 rfl ?_
      refine J_iald (am_d54 rfl) rfl (vp_in_nI hi (by decide)) ?_
      rw [nI_c (n := i) (by omega)]
      show am_J X _ 54 48 _ (.int ((c_bi (sC M) t st i) 3 i) :: _) _ N
      rw [e3]
      refine J_b 8 am_d54 rfl ?_
      refine J_aaldk 5 (am_d54 rfl) rfl (am_vi rfl) rfl ?_
      refine J_b 1 am_d54 rfl ?_
      refine J_iald (am_d54 rfl) rfl (vp_in_nI hi (by decide)) ?_
      rw [nI_c (n := i) (by omega)]
      show am_J X _ 54 63 _ (.int (M 5 i) :: _) _ N
      refine J_b 4 am_d54 rfl ?_
      show am_J X _ 54 69 [.ref 46, .int (nI i), .int (c_tk (sC M) st i), .int (st 3 i - c_tk (sC M) st i), .int (c_cv (sC M) st i)] [] _ N
      refine J_b 1 am_d54 rfl ?_
      refine J_b 8 am_d54 rfl ?_
      show am_J X _ 54 83 _ (_ :: .int (nI t * (Int8.ofInt 60).toInt32 + nI i) :: _) _ N
      rw [nI_60]
      refine J_iast (am_d54 rfl) rfl (vp_in_nI (by omega) (by decide)) ?_
      rw [nI_c (n := 60 * t + i) (by omega), D46_u4]
      refine J_b 5 am_d54 rfl ?_
      refine J_puti (am_d54 rfl) rfl ?_
      rw [D46_f12]
      refine J_b 6 am_d54 rfl ?_
      refine J_iast (am_d54 rfl) rfl (vp_in_nI hi (by decide)) ?_
      rw [nI_c (n := i) (by omega), D46_u3]
      refine J_b 1 am_d54 rfl ?_
      refine J_b 1 am_d54 rfl ?_
      refine ih (i + 1) (by omega) _ (nI_1 i) _ _ _ _ ?_
      rw [← bi_s]
      rfl
    · refine J_b 1 am_d54 rfl ?_
      refine J_b 1 am_d54 rfl ?_
      refine J_b 1 am_d54 rfl ?_
      refine ih (i + 1) (by omega) _ (nI_1 i) _ _ _ _ ?_
      rw [bi_n h14 (hz _ (by omega))]
theorem sp54_46 {X : am_X} {M : am_M} {N : am_N} {kd mo sk ew nw : Int32} {sh : Nat → Int32} {st : am_M} {t : Nat} (ht : t < 12) (hz : ∀ k, 60 * t ≤ k → st 4 k = 0) : am_J X (am_eq (none) (dr_D M 46 kd mo sk (nI t) ew nw sh (c_bw (sC M) t st)) N) 54 0 (am_en 54 [.ref 46]) [] (dr_D M 46 kd mo sk (nI t) ew nw sh st) N := by
  refine J_en (L := [.ref 46, .retAddr 0, .retAddr 0, .retAddr 0, .retAddr 0]) rfl ?_
  refine J_b 2 am_d54 rfl ?_
  exact lp54_46 ht hz 60 0 rfl _ rfl _ _ _ _ bi_0.symm
