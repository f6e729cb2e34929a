/-! ===== fitting: the class's answers ===== -/
theorem gp_gc {c0 : Nat} {M : am_M} {N : am_N} (h : iv c0 M N) {S f c n : Nat} (hS : S ≤ 5) (hf : f < 16) (hn : n < 6) (hc : c < 5) : gp M S f (6 * c + n) ↔ c_gc (M 38) (g_of M S) (M 35) (nI c) (nI n) 999 (-1) f := by
  have bn := h.1.2.2.2.2.2.1 f
  unfold b_in at bn
  have in5 := I_cl bn.1
  have en := I_nI bn.1
  have ht : M 38 f ≤ 999 := Int32.le_iff_toInt_le.mpr (h.2.1.1.2.2 f)
  constructor
  · intro ⟨h1, h2⟩
    obtain ⟨k, hk, ek⟩ := g_k hS h1
    rw [ek, nI_c (by omega)] at h2
    have e1 : k = c := by omega
    have e2 : (M 35 f).toNatClampNeg = n := by omega
    exact ⟨nI_m1 (by omega), ht, by rw [ek, e1], .inr (by rw [en, e2])⟩
  · intro ⟨_, _, h3, h4⟩
    refine ⟨by rw [h3, Int32.le_iff_toInt_le, nI_i (by omega)]; exact Int.natCast_nonneg _, ?_⟩
    rw [h3, nI_c (by omega), h4.elim (fun z => absurd z (nI_m1 (by omega))) id, nI_c (by omega)]
theorem gr_gt {c0 : Nat} {M : am_M} {N : am_N} (h : iv c0 M N) {S F c n : Nat} (hS : S ≤ 5) (hF : F ≤ 16) (hn : n < 6) (hc : c < 5) : gr M S F (6 * c + n) = gt M S F (-1) c n := by
  refine smI_congr (fun f hf => ?_)
  have e := gp_gc h (S := S) (f := f) hS (by omega) hn hc
  show @ite _ (gp M S f (6 * c + n)) (Classical.propDecidable _) 1 0 = @ite _ (c_gc (M 38) (g_of M S) (M 35) (nI c) (nI n) 999 (-1) f) (Classical.propDecidable _) 1 0
  by_cases hp : gp M S f (6 * c + n)
  · rw [if_pos hp, if_pos (e.mp hp)]
  · rw [if_neg hp, if_neg (fun z => hp (e.mpr z))]
theorem smI_x {f : Nat → Int32} {k : Nat} : ∀ n, k < n → smI (fun j => if j = k then 0 else f j) n = smI f n - f k := by
  intro n
  induction n with
  | zero => intro h; exact absurd h (by omega)
  | succ n ih =>
    intro hk
    show smI (fun j => if j = k then 0 else f j) n + (if n = k then 0 else f n) = smI f n + f n - f k
    by_cases e : n = k
    · subst e
      rw [if_pos rfl, smI_congr (g := f) (fun j hj => if_neg (by omega)), Int32.add_zero, Int32.add_sub_cancel]
    · rw [if_neg e, ih (by omega), Int32.sub_eq_add_neg, Int32.sub_eq_add_neg, Int32.add_assoc, Int32.add_assoc, Int32.add_comm (-f k)]
theorem gx_gt {c0 : Nat} {M : am_M} {N : am_N} (h : iv c0 M N) {S F c n k : Nat} (hS : S ≤ 5) (hF : F ≤ 16) (hn : n < 6) (hc : c < 5) (hk : k < F) {s : Nat} (hs : gp M S k s) : (if 6 * c + n = s then gr M S F s - 1 else gr M S F (6 * c + n)) = gt M S F (nI k) c n := by
  have e1 : gt M S F (nI k) c n = smI (fun f => if f = k then 0 else @ite _ (c_gc (M 38) (g_of M S) (M 35) (nI c) (nI n) 999 (-1) f) (Classical.propDecidable _) 1 0) F := by
    refine smI_congr (fun f hf => ?_)
    show @ite _ (c_gc (M 38) (g_of M S) (M 35) (nI c) (nI n) 999 (nI k) f) (Classical.propDecidable _) 1 0 = _
    by_cases e : f = k
    · rw [if_pos e, if_neg (fun z => z.1 (by rw [e]))]
    · rw [if_neg e]
      by_cases hp : c_gc (M 38) (g_of M S) (M 35) (nI c) (nI n) 999 (-1) f
      · rw [if_pos hp, if_pos ⟨fun z => e (nI_inj (by omega) (by omega) z), hp.2⟩]
      · rw [if_neg hp, if_neg (fun z => hp ⟨nI_m1 (by omega), z.2⟩)]
  have e2 := gr_gt h (F := F) hS hF hn hc
  have e3 := gp_gc h (S := S) (f := k) hS (by omega) hn hc
  rw [e1, smI_x F hk]
  have e4 : smI (fun f => @ite _ (c_gc (M 38) (g_of M S) (M 35) (nI c) (nI n) 999 (-1) f) (Classical.propDecidable _) 1 0) F = gr M S F (6 * c + n) := e2.symm
  rw [e4]
  by_cases e : 6 * c + n = s
  · rw [if_pos e, if_pos (e3.mp (e ▸ hs)), e]
  · rw [if_neg e, if_neg (fun z => e ((e3.mpr z).2.symm.trans hs.2))]
    exact (Int32.sub_zero _).symm
theorem gt_md {M M' : am_M} (h : md M M') {S F : Nat} {but : Int32} : gt M' S F but = gt M S F but := by
  funext c n
  unfold gt
  rw [h.1 38 (by unfold rg_r sc_r; omega), h.1 35 (by unfold rg_r sc_r; omega), show g_of M' S = g_of M S from funext fun f => g_md h]
theorem mv_md {M M' : am_M} (h : md M M') {S P : Nat} {g : Nat → Nat → Int32} {sh : Nat → Int32} : mv M' S P g sh = mv M S P g sh := by
  unfold mv
  exact lsm_c (fun c _ => lsm_c (fun n _ => by rw [du_md h]))
/-- all that is due has been told, all finds counted -/
def rA (c0 : Nat) (M : am_M) (S F : Nat) (M2 : am_M) : Prop := (md M M2 ∧ ∀ N, iv c0 M2 N) ∧ M2 52 4 = M2 1 11 ∧ M2 108 = gr M S F
theorem mw_mv {c0 : Nat} {M M2 : am_M} {S P F : Nat} {gtr : Nat → Int32} {g : Nat → Nat → Int32} (hm : md M M2) (hi : ∀ N, iv c0 M2 N) (eS : M 18 7 = nI S) (hS : S ≤ 5) (eP : M 26 5 = nI P) (hP : P ≤ 6) {a : Nat} (ha : a < 27) (h107 : M2 107 a = M2 1 11) (hg : ∀ c n, c < S → n < P → gtr (6 * c + n) = g c n) : mw (M2 (80 + a)) gtr S P = mv M S P g (c_sh a) := by
  have hkd := (hi am_zL).2.2.2.2.2
  refine lsm_c (fun c hc => lsm_c (fun n hn => ?_))
  rw [hkd a ha h107 c n (by rw [hm.1 18 (by unfold rg_r sc_r; omega), eS, nI_i (by omega)]; omega) (by rw [hm.1 26 (by unfold rg_r sc_r; omega), eP, nI_i (by omega)]; omega), du_md hm, hg c n hc hn]
theorem lp88 {X : am_X} {M : am_M} {N0 : am_N} {c0 S P F : Nat} (h : iv c0 M N0) (eS : M 18 7 = nI S) (hS : S ≤ 5) (eP : M 26 5 = nI P) (hP : P ≤ 6) (eF : M 32 7 = nI F) (hF : F ≤ 16) : ∀ (n i : Nat), i + n = 27 → ∀ (x : Int32), x = nI i → ∀ (M1 : am_M), rA c0 M S F M1 → (∀ b, b < i → M1 107 b = M1 1 11) → ∀ (N : am_N), am_J X (q_p none (fun M2 _ => rA c0 M S F M2 ∧ ∀ b, b < 27 → M2 107 b = M2 1 11)) 88 13 [.ref 77, .int x] [] M1 N := by
  intro n
  induction n with
  | zero =>
    intro i hn x ex M1 hr hall N
    have e : i = 27 := by omega
    subst ex
    have hge : (Int8.ofInt 27).toInt32 ≤ nI i := by rw [e]; exact Int32.le_refl _
    refine J_b 2 am_d88 rfl ?_
    refine J_icmp_ge 30 (am_d88 rfl) rfl (fun h16 => ?_) (fun h16 => absurd (hge) h16)
    exact J_ret (am_d88 rfl) rfl ⟨rfl, hr, fun b hb => hall b (by omega)⟩
  | succ n ih =>
    intro i hn x ex M1 hr hall N
    subst ex
    refine J_b 2 am_d88 rfl ?_
    refine J_icmp_ge 30 (am_d88 rfl) rfl (fun h16 => absurd h16 (nI_ngt (b := 27) (by omega) (by decide))) (fun h16 => ?_)
    refine J_b 2 am_d88 rfl ?_
    refine J_V1np 91 (am_d88 rfl) rfl rfl (sp91 (hr.1.2 N0) (show i < 27 by omega) (by rw [hr.1.1.1 18 (by unfold rg_r sc_r; omega)]; exact eS) hS (by rw [hr.1.1.1 26 (by unfold rg_r sc_r; omega)]; exact eP) hP) (fun M2 N2 hq => ?_)
    obtain ⟨⟨q1, q2⟩, ⟨q3, q4, q5⟩, q6, q7⟩ := hq
    have hr2 : rA c0 M S F M2 := ⟨⟨md_t hr.1.1 q1, q2⟩, by rw [q3, q5]; exact hr.2.1, q4.trans hr.2.2⟩
    have hall2 : ∀ b, b < i + 1 → M2 107 b = M2 1 11 := fun b hb => by
      by_cases e : b = i
      · rw [e]
        exact q6
      · rw [q7 b e, q5]
        exact hall b (by omega)
    refine J_b 2 am_d88 rfl ?_
    exact ih (i + 1) (by omega) _ (nI_1 i) _ hr2 hall2 _
theorem sp88 {X : am_X} {M : am_M} {N : am_N} {N0 : am_N} {c0 S P F : Nat} (h : iv c0 M N0) (eS : M 18 7 = nI S) (hS : S ≤ 5) (eP : M 26 5 = nI P) (hP : P ≤ 6) (eF : M 32 7 = nI F) (hF : F ≤ 16) : am_J X (q_p (none) (fun M2 _ => rA c0 M S F M2 ∧ ∀ b, b < 27 → M2 107 b = M2 1 11)) 88 0 (am_en 88 [.ref 77]) [] M N := by
  refine J_en (L := [.ref 77, .retAddr 0]) rfl ?_
  refine J_b 2 am_d88 rfl ?_
  refine J_V0np 70 (am_d88 rfl) rfl rfl (sp70 h) (fun M1 N1 hl => ?_)
  obtain ⟨hm, hk, hi⟩ := hl
  have e32 : M1 32 7 = nI F := by rw [hm.1 32 (by unfold rg_r sc_r; omega)]; exact eF
  have e18 : M1 18 7 = nI S := by rw [hm.1 18 (by unfold rg_r sc_r; omega)]; exact eS
  have qc := sp89 (X := X) (N := N1) (hi N0) hk e18 hS e32 hF
  rw [gr_md hm] at qc
  have hsc : sc_ok M1 (am_upR M1 108 (gr M S F)) := sc_uR (by unfold sc_r; omega) (by decide)
  have hrA : rA c0 M S F (am_upR M1 108 (gr M S F)) := ⟨⟨md_t hm (md_sc hsc), fun _ => iv_s0 (hi N0) hsc⟩, hk, upR_r⟩
  refine J_b 1 am_d88 rfl ?_
  refine J_V0n 89 (am_d88 rfl) rfl rfl (qc) ?_
  refine J_b 2 am_d88 rfl ?_
  exact lp88 h eS hS eP hP eF hF 27 0 rfl _ rfl _ hrA (fun b hb => absurd hb (by omega)) _
theorem sp87a {X : am_X} {M : am_M} {N : am_N} {x : Int32} (g1 : ¬ (0 ≤ x.toInt ∧ x.toInt < 3)) : am_J X (am_eq (some (.int (-3))) (M) N) 87 0 (am_en 87 [.ref 0, .int x]) [] M N := by
  refine J_en (L := [.ref 0, .int x]) rfl ?_
  refine J_b 2 am_d87 rfl ?_
  refine J_S2s 13 (am_d87 rfl) rfl rfl (sp13) ?_
  refine J_if_ne 11 (am_d87 rfl) rfl (fun h5 => absurd (am_bi1.mp h5) g1) (fun h5 => ?_)
  refine J_b 1 am_d87 rfl ?_
  exact J_iret (am_d87 rfl) rfl rfl ⟨rfl, rfl, rfl⟩
theorem sp87c {X : am_X} {M : am_M} {N : am_N} {N0 : am_N} {c0 S P F r : Nat} (h : iv c0 M N0) (eS : M 18 7 = nI S) (hS : S ≤ 5) (eP : M 26 5 = nI P) (hP : P ≤ 6) (eF : M 32 7 = nI F) (hF : F ≤ 16) (hr : r < 3) : am_J X (q_p (some (.int (c_sh (lmn (fun a => mv M S P (gt M S F (-1)) (c_sh a)) 26).1 r))) (pm_ c0 M)) 87 0 (am_en 87 [.ref 0, .int (nI r)]) [] M N := by
  have i1 := nI_i (n := r) (by omega)
  refine J_en (L := [.ref 0, .int (nI r)]) rfl ?_
  refine J_b 2 am_d87 rfl ?_
  refine J_S2s 13 (am_d87 rfl) rfl rfl (sp13) ?_
  refine J_if_ne 11 (am_d87 rfl) rfl (fun h5 => ?_) (fun h5 => absurd h5 (am_bi1.mpr (by rw [i1]; exact ⟨by omega, by show (r : Int) < 3; omega⟩)))
  refine J_b 2 am_d87 rfl ?_
  refine J_V0np 88 (am_d87 rfl) rfl rfl (sp88 h eS hS eP hP eF hF) (fun M1 N1 hq => ?_)
  obtain ⟨⟨⟨hm, hi⟩, hk, h108⟩, hall⟩ := hq
  have e18 : M1 18 7 = nI S := by rw [hm.1 18 (by unfold rg_r sc_r; omega)]; exact eS
  have e26 : M1 26 5 = nI P := by rw [hm.1 26 (by unfold rg_r sc_r; omega)]; exact eP
  have hv : ∀ a, a ≤ 26 → mw (M1 (80 + a)) (M1 108) S P = mv M S P (gt M S F (-1)) (c_sh a) := fun a ha => mw_mv (F := F) hm hi eS hS eP hP (by omega) (hall a (by omega)) (fun c n hc hn => by rw [h108]; exact gr_gt h hS hF (by omega) (by omega))
  have ql := sp93 (X := X) (M := M1) (N := N1) e18 hS e26 hP
  rw [lmn_c (n := 26) hv] at ql
  refine J_b 2 am_d87 rfl ?_
  refine J_V0s 93 (am_d87 rfl) rfl rfl (ql) ?_
  refine J_b 1 am_d87 rfl ?_
  refine J_S2s 92 (am_d87 rfl) rfl rfl (sp92 (show (lmn (fun a => mv M S P (gt M S F (-1)) (c_sh a)) 26).1 < 27 from Nat.lt_succ_of_le (lmn_b 26).1) hr) ?_
  exact J_iret (am_d87 rfl) rfl rfl ⟨rfl, hm, hi⟩
theorem sp95c {X : am_X} {M : am_M} {N : am_N} {N0 : am_N} {c0 S P F : Nat} (h : iv c0 M N0) (eS : M 18 7 = nI S) (hS : S ≤ 5) (eP : M 26 5 = nI P) (hP : P ≤ 6) (eF : M 32 7 = nI F) (hF : F ≤ 16) : am_J X (q_p (some (.long (lmn (fun a => mv M S P (gt M S F (-1)) (c_sh a)) 26).2)) (pm_ c0 M)) 95 0 (am_en 95 [.ref 0]) [] M N := by
  refine J_en (L := [.ref 0]) rfl ?_
  refine J_b 2 am_d95 rfl ?_
  refine J_V0np 88 (am_d95 rfl) rfl rfl (sp88 h eS hS eP hP eF hF) (fun M1 N1 hq => ?_)
  obtain ⟨⟨⟨hm, hi⟩, hk, h108⟩, hall⟩ := hq
  have e18 : M1 18 7 = nI S := by rw [hm.1 18 (by unfold rg_r sc_r; omega)]; exact eS
  have e26 : M1 26 5 = nI P := by rw [hm.1 26 (by unfold rg_r sc_r; omega)]; exact eP
  have hv : ∀ a, a ≤ 26 → mw (M1 (80 + a)) (M1 108) S P = mv M S P (gt M S F (-1)) (c_sh a) := fun a ha => mw_mv (F := F) hm hi eS hS eP hP (by omega) (hall a (by omega)) (fun c n hc hn => by rw [h108]; exact gr_gt h hS hF (by omega) (by omega))
  have ql := sp93 (X := X) (M := M1) (N := N1) e18 hS e26 hP
  rw [lmn_c (n := 26) hv] at ql
  refine J_b 4 am_d95 rfl ?_
  refine J_V0s 93 (am_d95 rfl) rfl rfl (ql) ?_
  have hlt : (lmn (fun a => mv M S P (gt M S F (-1)) (c_sh a)) 26).1 < 27 := Nat.lt_succ_of_le (lmn_b 26).1
  have qm := sp94 (X := X) (M := M1) (N := N1) hlt e18 hS e26 hP
  rw [hv _ (by omega), show mv M S P (gt M S F (-1)) (c_sh (lmn (fun a => mv M S P (gt M S F (-1)) (c_sh a)) 26).1) = (lmn (fun a => mv M S P (gt M S F (-1)) (c_sh a)) 26).2 from (lmn_b (v := (fun a => mv M S P (gt M S F (-1)) (c_sh a))) 26).2.symm] at qm
  refine J_V1s 94 (am_d95 rfl) rfl rfl qm ?_
  exact J_lret (am_d95 rfl) rfl ⟨rfl, hm, hi⟩
def c_st (s : Nat → Int32) : Nat := (9 * ((s 0).toInt + 1) + 3 * ((s 1).toInt + 1) + (s 2).toInt + 1).toNat
theorem st_k : ∀ a b c : Fin 3, (((Int8.ofInt 9).toInt32 * (Int32.ofInt ((a.val : Int) - 1) + Int32.ofInt 1) + Int32.ofInt 3 * (Int32.ofInt ((b.val : Int) - 1) + Int32.ofInt 1) + Int32.ofInt ((c.val : Int) - 1) + Int32.ofInt 1) = nI (9 * a.val + 3 * b.val + c.val)) ∧ c_sh (9 * a.val + 3 * b.val + c.val) 0 = Int32.ofInt ((a.val : Int) - 1) ∧ c_sh (9 * a.val + 3 * b.val + c.val) 1 = Int32.ofInt ((b.val : Int) - 1) ∧ c_sh (9 * a.val + 3 * b.val + c.val) 2 = Int32.ofInt ((c.val : Int) - 1) := by
  decide +kernel
theorem f3 {x : Int32} (h : b_in x (-1) 1) : ∃ k : Fin 3, x = Int32.ofInt ((k.val : Int) - 1) := by
  unfold b_in at h
  refine ⟨⟨(x.toInt + 1).toNat, by omega⟩, I_eq ?_⟩
  have e : (((x.toInt + 1).toNat : Nat) : Int) - 1 = x.toInt := by omega
  show x.toInt = (Int32.ofInt ((((x.toInt + 1).toNat : Nat) : Int) - 1)).toInt
  rw [e, Int32.ofInt_toInt]
theorem st_e {s : Nat → Int32} (h : ∀ j, b_in (s j) (-1) 1) : ∃ a, a < 27 ∧ ((Int8.ofInt 9).toInt32 * (s 0 + Int32.ofInt 1) + Int32.ofInt 3 * (s 1 + Int32.ofInt 1) + s 2 + Int32.ofInt 1) = nI a ∧ ∀ r, r < 3 → c_sh a r = s r := by
  obtain ⟨a, ea⟩ := f3 (h 0)
  obtain ⟨b, eb⟩ := f3 (h 1)
  obtain ⟨c, ec⟩ := f3 (h 2)
  have ha := a.isLt
  have hb := b.isLt
  have hc := c.isLt
  obtain ⟨k1, k2, k3, k4⟩ := st_k a b c
  refine ⟨9 * a.val + 3 * b.val + c.val, by omega, by rw [ea, eb, ec]; exact k1, fun r hr => ?_⟩
  match r, hr with
  | 0, _ => rw [ea]; exact k2
  | 1, _ => rw [eb]; exact k3
  | 2, _ => rw [ec]; exact k4
  | (n + 3), z => exact absurd z (by omega)
theorem du_sh {M : am_M} {sh sh' : Nat → Int32} {c n : Nat} (he : e_b (sC M)) (h : ∀ r, r < 3 → sh r = sh' r) : c_du (sC M) M sh c n = c_du (sC M) M sh' c n := by
  unfold c_du c_cf c_fd
  rw [dr_sh he h]
theorem mv_sh {M : am_M} {sh sh' : Nat → Int32} {S P : Nat} {g : Nat → Nat → Int32} (he : e_b (sC M)) (h : ∀ r, r < 3 → sh r = sh' r) : mv M S P g sh = mv M S P g sh' := by
  unfold mv
  exact lsm_c (fun c _ => lsm_c (fun n _ => by rw [du_sh he h]))
theorem sp97 {X : am_X} {M : am_M} {N : am_N}  : am_J X (am_eq (some (.int ((Int8.ofInt 9).toInt32 * (M 17 0 + Int32.ofInt 1) + Int32.ofInt 3 * (M 17 1 + Int32.ofInt 1) + M 17 2 + Int32.ofInt 1))) (M) N) 97 0 (am_en 97 [.ref 77]) [] M N := by
  refine J_en (L := [.ref 77]) rfl ?_
  refine J_b 5 am_d97 rfl ?_
  refine J_iald (am_d97 rfl) rfl (am_vi rfl) ?_
  refine J_b 8 am_d97 rfl ?_
  refine J_iald (am_d97 rfl) rfl (am_vi rfl) ?_
  refine J_b 8 am_d97 rfl ?_
  refine J_iald (am_d97 rfl) rfl (am_vi rfl) ?_
  refine J_b 3 am_d97 rfl ?_
  exact J_iret (am_d97 rfl) rfl rfl ⟨rfl, rfl, rfl⟩
theorem sp96c {X : am_X} {M : am_M} {N : am_N} {N0 : am_N} {c0 S P F : Nat} (h : iv c0 M N0) (eS : M 18 7 = nI S) (hS : S ≤ 5) (eP : M 26 5 = nI P) (hP : P ≤ 6) (eF : M 32 7 = nI F) (hF : F ≤ 16) : am_J X (q_p (some (.long (mv M S P (gt M S F (-1)) (M 17)))) (pm_ c0 M)) 96 0 (am_en 96 [.ref 0]) [] M N := by
  obtain ⟨a, ha, ea, hsh⟩ := st_e h.1.1.2.2.2.2.2.2.2.2.2.2.2.2
  refine J_en (L := [.ref 0, .retAddr 0]) rfl ?_
  refine J_b 2 am_d96 rfl ?_
  refine J_V0np 70 (am_d96 rfl) rfl rfl (sp70 h) (fun M1 N1 hl => ?_)
  obtain ⟨hm, hk, hi⟩ := hl
  have e32 : M1 32 7 = nI F := by rw [hm.1 32 (by unfold rg_r sc_r; omega)]; exact eF
  have e18 : M1 18 7 = nI S := by rw [hm.1 18 (by unfold rg_r sc_r; omega)]; exact eS
  have qc := sp89 (X := X) (N := N1) (hi N0) hk e18 hS e32 hF
  rw [gr_md hm] at qc
  have hsc : sc_ok M1 (am_upR M1 108 (gr M S F)) := sc_uR (by unfold sc_r; omega) (by decide)
  have hrA : rA c0 M S F (am_upR M1 108 (gr M S F)) := ⟨⟨md_t hm (md_sc hsc), fun _ => iv_s0 (hi N0) hsc⟩, hk, upR_r⟩
  refine J_b 2 am_d96 rfl ?_
  refine J_V0n 89 (am_d96 rfl) rfl rfl (qc) ?_
  refine J_b 2 am_d96 rfl ?_
  have h17 : am_upR M1 108 (gr M S F) 17 = M 17 := hm.1 17 (by unfold rg_r sc_r; omega)
  have qs := sp97 (X := X) (M := am_upR M1 108 (gr M S F)) (N := N1)
  rw [h17, ea] at qs
  refine J_V0s 97 (am_d96 rfl) rfl rfl qs ?_
  refine J_b 4 am_d96 rfl ?_
  refine J_V1np 91 (am_d96 rfl) rfl rfl (sp91 (hrA.1.2 N0) ha (by rw [hrA.1.1.1 18 (by unfold rg_r sc_r; omega)]; exact eS) hS (by rw [hrA.1.1.1 26 (by unfold rg_r sc_r; omega)]; exact eP) hP) (fun M2 N2 hq => ?_)
  obtain ⟨⟨q1, q2⟩, ⟨q3, q4, q5⟩, q6, q7⟩ := hq
  have hm2 := md_t hrA.1.1 q1
  have qm := sp94 (X := X) (M := M2) (N := N2) ha (by rw [hm2.1 18 (by unfold rg_r sc_r; omega)]; exact eS) hS (by rw [hm2.1 26 (by unfold rg_r sc_r; omega)]; exact eP) hP
  rw [mw_mv (g := gt M S F (-1)) (F := F) hm2 q2 eS hS eP hP ha q6 (fun c n hc hn => by rw [q4, hrA.2.2]; exact gr_gt h hS hF (by omega) (by omega)), mv_sh (e_b_of h.1.1.2) hsh] at qm
  refine J_b 3 am_d96 rfl ?_
  refine J_V1s 94 (am_d96 rfl) rfl rfl (qm) ?_
  exact J_lret (am_d96 rfl) rfl ⟨rfl, hm2, q2⟩
