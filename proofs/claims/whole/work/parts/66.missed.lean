/-! ===== fitting: what is due, what is missed: the class ===== -/
theorem du_md {M M' : am_M} (h : md M M') {sh : Nat → Int32} {c n : Nat} : c_du (sC M') M' sh c n = c_du (sC M) M sh c n := by
  unfold c_du
  rw [cf_md h, h.1 21 (by unfold rg_r sc_r; omega), h.1 27 (by unfold rg_r sc_r; omega), h.1 28 (by unfold rg_r sc_r; omega), h.1 29 (by unfold rg_r sc_r; omega), h.1 30 (by unfold rg_r sc_r; omega)]
/-- shifts a have been told -/
def fq (c0 a : Nat) (M M2 : am_M) : Prop := (md M M2 ∧ ∀ N, iv c0 M2 N) ∧ (M2 52 = M 52 ∧ M2 108 = M 108 ∧ M2 1 = M 1) ∧ M2 107 a = M2 1 11 ∧ ∀ b, b ≠ a → M2 107 b = M 107 b
theorem fq_of {c0 a S P : Nat} {M M1 : am_M} {N : am_N} (h : iv c0 M N) (ha : a < 27) (eS : M 18 7 = nI S) (hS : S ≤ 5) (eP : M 26 5 = nI P) (hP : P ≤ 6) (hf : fo a M M1) (hd : du M a P M1 S 0) : fq c0 a M (am_up M1 107 a (M1 1 11)) := by
  have f1 : ∀ r, r = 1 ∨ r = 17 ∨ r = 18 ∨ r = 26 ∨ r = 52 ∨ (54 ≤ r ∧ r ≤ 58) ∨ r = 108 → (am_up M1 107 a (M1 1 11)) r = M r := fun r hr => by rw [up_n (by omega), hf r (by omega) (by omega) (by omega)]
  have hm : md M (am_up M1 107 a (M1 1 11)) := md_t (fo_md ha hf) (md_up (by unfold rg_r; omega) (by decide))
  have e1 : M1 1 = M 1 := hf 1 (by omega) (by omega) (by omega)
  have r107 : ∀ b, (am_up M1 107 a (M1 1 11)) 107 b = if b = a then M 1 11 else M 107 b := by
    intro b
    rw [up_k, e1, hf 107 (by omega) (by omega) (by omega)]
  have h2 := h
  obtain ⟨_, _, _, ⟨g1, g2, g3, g4⟩, hkl, hkd⟩ := h2
  refine ⟨⟨hm, fun N' => iv_md h hm ?_ ?_ ?_⟩, ⟨f1 52 (by omega), f1 108 (by omega), f1 1 (by omega)⟩, by rw [r107, if_pos rfl, f1 1 (by omega)], fun b hb => by rw [r107, if_neg hb]⟩
  · unfold iv_ch
    rw [f1 1 (by omega), f1 52 (by omega)]
    refine ⟨g1, g2, g3, fun b hb => ?_⟩
    rw [r107]
    split
    · exact Int.le_refl _
    · exact g4 b hb
  · intro z c hc j hj
    rw [f1 1 (by omega), f1 52 (by omega)] at z
    rw [f1 18 (by omega)] at hc
    have hc5 : c < 5 := by
      rw [eS, nI_i (by omega)] at hc
      omega
    rw [cf_md hm, f1 17 (by omega), f1 (54 + c) (by omega)]
    exact hkl z c hc j hj
  · intro b hb z c n hc hn
    rw [f1 18 (by omega)] at hc
    rw [f1 26 (by omega)] at hn
    rw [du_md hm]
    by_cases e : b = a
    · subst e
      rw [up_n (by omega)]
      exact hd c n (by rw [eP, nI_i (by omega)] at hn; omega) (.inl (by rw [eS, nI_i (by omega)] at hc; omega))
    · rw [r107, if_neg e, f1 1 (by omega)] at z
      rw [up_n (by omega), hf (80 + b) (by omega) (by omega) (by omega)]
      exact hkd b hb z c n hc hn
theorem lp91c {X : am_X} {M : am_M} {N N0 : am_N} {c0 a S P : Nat} (h : iv c0 M N0) (ha : a < 27) (eS : M 18 7 = nI S) (hS : S ≤ 5) (eP : M 26 5 = nI P) (hP : P ≤ 6) : ∀ (n i : Nat), i + n = S → ∀ (x : Int32), x = nI i → ∀ (M1 : am_M), fo a M M1 → M1 78 = c_sh a → du M a P M1 i 0 → ∀ (z3 z4 : Value), am_J X (q_p none (fun M2 N2 => fq c0 a M M2)) 91 43 [.ref 77, .int (nI a), .int x, z3, z4] [] M1 N := by
  intro n
  induction n with
  | zero =>
    intro i hn x ex M1 hf h78 hdu z3 z4
    have e : i = S := by omega
    subst ex
    have hge : M1 18 7 ≤ nI i := by rw [hf 18 (by omega) (by omega) (by omega), eS, e]; exact Int32.le_refl _
    refine J_b 4 am_d91 rfl ?_
    refine J_icmp_ge 152 (am_d91 rfl) rfl (fun h51 => ?_) (fun h51 => absurd (hge) h51)
    refine J_b 6 am_d91 rfl ?_
    refine J_iast (am_d91 rfl) rfl (vp_in_nI ha (by decide)) ?_
    rw [nI_c (n := a) (by omega)]
    exact J_ret (am_d91 rfl) rfl ⟨rfl, fq_of h ha eS hS eP hP hf (by rw [← e]; exact hdu)⟩
  | succ n ih =>
    intro i hn x ex M1 hf h78 hdu z3 z4
    subst ex
    have hlt : ¬ M1 18 7 ≤ nI i := by rw [hf 18 (by omega) (by omega) (by omega), eS]; exact nI_ngt (by omega) (by omega)
    have hi : i < 5 := by omega
    have hm := fo_md ha hf
    have hcb := cb_md hm h.1.2.1.2
    have hsb := sb_md hm h.1.1.2
    have hmo : (M1 22 i).toNatClampNeg < 100 := by have := hcb.2.2.2.2.1 i; unfold b_in at this; have := I_cl this.1; omega
    have hgo := sp42_40 (X := X) (N := N) (M := M1) (kd := M1 19 i) (sk := M1 25 i) (e0 := M1 40 10) (n0 := M1 40 11) (s0 := c_s0 (M1 23 i).toNatClampNeg (M1 42)) (sh := M1 78) (cnt := 12) (t := 0) hmo hsb (hcb.2.1 i) (by rw [h78]; exact sh_b ha) s0_4 (by omega) (by omega)
    rw [show min 12 (0 + 12) = 12 from rfl] at hgo
    refine J_b 4 am_d91 rfl ?_
    refine J_icmp_ge 152 (am_d91 rfl) rfl (fun h51 => absurd h51 hlt) (fun h51 => ?_)
    refine J_b 7 am_d91 rfl ?_
    refine J_V3n 39 (am_d91 rfl) rfl rfl (sp39_78 hi hcb) ?_
    rw [T_78 hcb]
    refine J_b 3 am_d91 rfl ?_
    refine J_V1n 42 (am_d91 rfl) rfl rfl (hgo) ?_
    refine J_b 2 am_d91 rfl ?_
    refine lp91n (fdv := (dr_T M1 40 (M1 19 i) (M1 22 i).toNatClampNeg (M1 25 i) (M1 40 10) (M1 40 11) (M1 78) (c_s0 (M1 23 i).toNatClampNeg (M1 42)) 12) 44) h ha hi eP hP ?_ (fun x z M2 hf2 h782 hdu2 => ?_) P 0 (Nat.zero_add _) _ rfl _ (fo_D hf) h78 rfl (fun d n hn2 hd => ?_) _
    · show c_dr (sC M1) (M1 78) (M1 19 i) (M1 22 i).toNatClampNeg (M1 23 i).toNatClampNeg (M1 25 i) (M1 42) 12 4 = _
      rw [dr_row (M1 42) c_z (by decide), md_sC hm, h78, hm.1 19 (by unfold rg_r sc_r; omega), hm.1 22 (by unfold rg_r sc_r; omega), hm.1 23 (by unfold rg_r sc_r; omega), hm.1 25 (by unfold rg_r sc_r; omega)]
      rfl
    · refine J_b 2 am_d91 rfl ?_
      exact ih (i + 1) (by omega) _ (nI_1 i) _ hf2 h782 hdu2 _ _
    · show dr_D M1 40 _ _ _ _ _ _ _ _ (80 + a) (6 * d + n) = _
      rw [D_n (by omega)]
      exact hdu d n hn2 hd
theorem lp91t {X : am_X} {M : am_M} {N N0 : am_N} {c0 a S P : Nat} (h : iv c0 M N0) (ha : a < 27) (eS : M 18 7 = nI S) (hS : S ≤ 5) (eP : M 26 5 = nI P) (hP : P ≤ 6) : ∀ (n i : Nat), i + n = 3 → ∀ (x : Int32), x = nI i → ∀ (r : Nat → Int32), r = c_lt i (c_sh a) (M 78) → ∀ (z3 z4 : Value), am_J X (q_p none (fun M2 N2 => fq c0 a M M2)) 91 19 [.ref 77, .int (nI a), .int x, z3, z4] [] (am_upR M 78 r) N := by
  intro n
  induction n with
  | zero =>
    intro i hn x ex r es z3 z4
    have e : i = 3 := by omega
    subst ex
    have hge : Int32.ofInt 3 ≤ nI i := by rw [e]; exact Int32.le_refl _
    refine J_b 2 am_d91 rfl ?_
    refine J_icmp_ge 41 (am_d91 rfl) rfl (fun h21 => ?_) (fun h21 => absurd (hge) h21)
    refine J_b 2 am_d91 rfl ?_
    refine J_mr 78 (n := 3) (c_sh a) rfl (fun j hj => ?_) ?_
    · rw [upR_r, es, e]
      exact (cl_p hj).symm
    rw [upR_upR]
    exact lp91c h ha eS hS eP hP S 0 (Nat.zero_add _) _ rfl _ (fun r h1 h2 h3 => upR_n h2) upR_r (fun d n hn2 hd => absurd hd (by omega)) _ _
  | succ n ih =>
    intro i hn x ex r es z3 z4
    subst ex
    refine J_b 2 am_d91 rfl ?_
    refine J_icmp_ge 41 (am_d91 rfl) rfl (fun h21 => absurd h21 (nI_ngt (b := 3) (by omega) (by decide))) (fun h21 => ?_)
    refine J_b 5 am_d91 rfl ?_
    refine J_S2s 92 (am_d91 rfl) rfl rfl (sp92 ha (show i < 3 by omega)) ?_
    refine J_iast (am_d91 rfl) rfl (vp_in_nI (show i < 3 by omega) (by decide)) ?_
    rw [nI_c (n := i) (by omega), upR_up]
    refine J_b 2 am_d91 rfl ?_
    refine ih (i + 1) (by omega) _ (nI_1 i) _ ?_ _ _
    rw [es]
    exact cl_s rfl
theorem sp91 {X : am_X} {M : am_M} {N : am_N} {N0 : am_N} {c0 a S P : Nat} (h : iv c0 M N0) (ha : a < 27) (eS : M 18 7 = nI S) (hS : S ≤ 5) (eP : M 26 5 = nI P) (hP : P ≤ 6) : am_J X (q_p (none) (fun M2 N2 => fq c0 a M M2)) 91 0 (am_en 91 [.ref 77, .int (nI a)]) [] M N := by
  refine J_en (L := [.ref 77, .int (nI a), .retAddr 0, .retAddr 0, .retAddr 0]) rfl ?_
  refine J_b 3 am_d91 rfl ?_
  refine J_iald (am_d91 rfl) rfl (vp_in_nI ha (by decide)) ?_
  rw [nI_c (n := a) (by omega)]
  show am_J X _ 91 6 _ (.int (M 107 a) :: _) _ N
  refine J_b 3 am_d91 rfl ?_
  refine J_icmp_ne 17 (am_d91 rfl) rfl (fun h13 => ?_) (fun h13 => ?_)
  · refine J_b 2 am_d91 rfl ?_
    refine J_r0 78 rfl ?_
    exact lp91t h ha eS hS eP hP 3 0 rfl _ rfl _ cl_0.symm _ _
  · exact J_ret (am_d91 rfl) rfl ⟨rfl, ⟨md_0, fun _ => h⟩, ⟨rfl, rfl, rfl⟩, h13, fun _ _ => rfl⟩
def sq (d g : Int32) : Int64 := (d.toInt64 - 1000 * g.toInt64) * (d.toInt64 - 1000 * g.toInt64)
def lsm (f : Nat → Int64) : Nat → Int64
  | 0 => 0
  | n + 1 => lsm f n + f n
def mw (dr gt : Nat → Int32) (S P : Nat) : Int64 := lsm (fun c => lsm (fun n => sq (dr (6 * c + n)) (gt (6 * c + n))) P) S
theorem lsm_c {f g : Nat → Int64} {n : Nat} (h : ∀ j, j < n → f j = g j) : lsm f n = lsm g n := by
  induction n with
  | zero => rfl
  | succ n ih =>
    show lsm f n + f n = lsm g n + g n
    rw [ih (fun j hj => h j (by omega)), h n (by omega)]
theorem lp94n {X : am_X} {Q : am_Q} {M : am_M} {N : am_N} {a S P c : Nat} {acc : Int64} (ha : a < 27) (eS : M 18 7 = nI S) (hS : S ≤ 5) (eP : M 26 5 = nI P) (hP : P ≤ 6) (hc5 : c < 5) (kk : ∀ x z, am_J X Q 94 81 [.ref 77, .int (nI a), .long (acc + lsm (fun n => sq (M (80 + a) (6 * c + n)) (M 108 (6 * c + n))) P), .retAddr 0, .int (nI c), .int x, z, .retAddr 0] [] M N) : ∀ (n i : Nat), i + n = P → ∀ (x : Int32), x = nI i → ∀ (s : Int64), s = acc + lsm (fun n => sq (M (80 + a) (6 * c + n)) (M 108 (6 * c + n))) i → ∀ (z : Value), am_J X Q 94 20 [.ref 77, .int (nI a), .long s, .retAddr 0, .int (nI c), .int x, z, .retAddr 0] [] M N := by
  intro n
  induction n with
  | zero =>
    intro i hn x ex s es z
    have e : i = P := by omega
    subst ex
    have hge : M 26 5 ≤ nI i := by rw [eP, e]; exact Int32.le_refl _
    refine J_b 4 am_d94 rfl ?_
    refine J_icmp_ge 81 (am_d94 rfl) rfl (fun h29 => ?_) (fun h29 => absurd (hge) h29)
    rw [es, e]
    exact kk _ _
  | succ n ih =>
    intro i hn x ex s es z
    subst ex
    have hlt : ¬ M 26 5 ≤ nI i := by rw [eP]; exact nI_ngt (by omega) (by omega)
    refine J_b 4 am_d94 rfl ?_
    refine J_icmp_ge 81 (am_d94 rfl) rfl (fun h29 => absurd h29 hlt) (fun h29 => ?_)
    refine J_b 3 am_d94 rfl ?_
    refine J_aaldk (80 + a) (am_d94 rfl) rfl (vp_in_nI ha (by decide)) (by rw [nI_c (by omega)]) ?_
    refine J_b 2 am_d94 rfl ?_
    refine J_S2s 90 (am_d94 rfl) rfl rfl sp90 ?_
    rw [slot]
    refine J_iald (am_d94 rfl) (sh80 a ha) (vp_in_nI (show 6 * c + i < 30 by omega) (by decide)) ?_
    rw [nI_c (n := 6 * c + i) (by omega)]
    refine J_b 6 am_d94 rfl ?_
    refine J_S2s 90 (am_d94 rfl) rfl rfl sp90 ?_
    rw [slot]
    refine J_iald (am_d94 rfl) rfl (vp_in_nI (show 6 * c + i < 30 by omega) (by decide)) ?_
    rw [nI_c (n := 6 * c + i) (by omega)]
    refine J_b 12 am_d94 rfl ?_
    refine ih (i + 1) (by omega) _ (nI_1 i) _ ?_ _
    rw [es, Int64.add_assoc]
    rfl
theorem lp94 {X : am_X} {M : am_M} {N : am_N} {a S P : Nat} (ha : a < 27) (eS : M 18 7 = nI S) (hS : S ≤ 5) (eP : M 26 5 = nI P) (hP : P ≤ 6) : ∀ (n i : Nat), i + n = S → ∀ (x : Int32), x = nI i → ∀ (s : Int64), s = lsm (fun c => lsm (fun n => sq (M (80 + a) (6 * c + n)) (M 108 (6 * c + n))) P) i → ∀ (z5 z6 : Value), am_J X (am_eq (some (.long (mw (M (80 + a)) (M 108) S P))) M N) 94 5 [.ref 77, .int (nI a), .long s, .retAddr 0, .int x, z5, z6, .retAddr 0] [] M N := by
  intro n
  induction n with
  | zero =>
    intro i hn x ex s es z5 z6
    have e : i = S := by omega
    subst ex
    have hge : M 18 7 ≤ nI i := by rw [eS, e]; exact Int32.le_refl _
    refine J_b 4 am_d94 rfl ?_
    refine J_icmp_ge 87 (am_d94 rfl) rfl (fun h14 => ?_) (fun h14 => absurd (hge) h14)
    refine J_b 1 am_d94 rfl ?_
    exact J_lret (am_d94 rfl) rfl ⟨by rw [es, e]; rfl, rfl, rfl⟩
  | succ n ih =>
    intro i hn x ex s es z5 z6
    subst ex
    have hlt : ¬ M 18 7 ≤ nI i := by rw [eS]; exact nI_ngt (by omega) (by omega)
    refine J_b 4 am_d94 rfl ?_
    refine J_icmp_ge 87 (am_d94 rfl) rfl (fun h14 => absurd h14 hlt) (fun h14 => ?_)
    refine J_b 2 am_d94 rfl ?_
    refine lp94n (c := i) (acc := s) ha eS hS eP hP (by omega) (fun x z => ?_) P 0 (Nat.zero_add _) _ rfl _ (Int64.add_zero _).symm _
    refine J_b 2 am_d94 rfl ?_
    refine ih (i + 1) (by omega) _ (nI_1 i) _ ?_ _ _
    rw [es]
    rfl
theorem sp94 {X : am_X} {M : am_M} {N : am_N} {a S P : Nat} (ha : a < 27) (eS : M 18 7 = nI S) (hS : S ≤ 5) (eP : M 26 5 = nI P) (hP : P ≤ 6) : am_J X (am_eq (some (.long (mw (M (80 + a)) (M 108) S P))) (M) N) 94 0 (am_en 94 [.ref 77, .int (nI a)]) [] M N := by
  refine J_en (L := [.ref 77, .int (nI a), .retAddr 0, .retAddr 0, .retAddr 0, .retAddr 0, .retAddr 0, .retAddr 0]) rfl ?_
  refine J_b 4 am_d94 rfl ?_
  exact lp94 ha eS hS eP hP S 0 (Nat.zero_add _) _ rfl _ rfl _ _
def lmn (v : Nat → Int64) : Nat → Nat × Int64
  | 0 => (0, v 0)
  | n + 1 => if v (n + 1) < (lmn v n).2 then (n + 1, v (n + 1)) else lmn v n
theorem lmn_c {v w : Nat → Int64} {n : Nat} (h : ∀ j, j ≤ n → v j = w j) : lmn v n = lmn w n := by
  induction n with
  | zero =>
    show (0, v 0) = (0, w 0)
    rw [h 0 (by omega)]
  | succ n ih => rw [lmn, lmn, ih (fun j hj => h j (by omega)), h (n + 1) (by omega)]
theorem lmn_b {v : Nat → Int64} (n : Nat) : (lmn v n).1 ≤ n ∧ (lmn v n).2 = v (lmn v n).1 := by
  induction n with
  | zero => exact ⟨Nat.le_refl _, rfl⟩
  | succ n ih =>
    rw [lmn]
    split
    · exact ⟨Nat.le_refl _, rfl⟩
    · exact ⟨by omega, ih.2⟩
theorem lp93 {X : am_X} {M : am_M} {N : am_N} {S P : Nat} (eS : M 18 7 = nI S) (hS : S ≤ 5) (eP : M 26 5 = nI P) (hP : P ≤ 6) : ∀ (n i : Nat), i + n = 26 → ∀ (x : Int32), x = nI (i + 1) → ∀ (b : Int32) (m : Int64), b = nI (lmn (fun a => mw (M (80 + a)) (M 108) S P) i).1 → m = (lmn (fun a => mw (M (80 + a)) (M 108) S P) i).2 → ∀ (z5 : Value), am_J X (am_eq (some (.int (nI (lmn (fun a => mw (M (80 + a)) (M 108) S P) 26).1))) M N) 93 11 [.ref 77, .int b, .long m, .retAddr 0, .int x, z5, .retAddr 0] [] M N := by
  intro n
  induction n with
  | zero =>
    intro i hn x ex b m hb hm z5
    have e : i = 26 := by omega
    subst e
    subst ex
    have hge : (Int8.ofInt 27).toInt32 ≤ nI 27 := Int32.le_refl _
    refine J_b 2 am_d93 rfl ?_
    refine J_icmp_ge 45 (am_d93 rfl) rfl (fun h15 => ?_) (fun h15 => absurd (hge) h15)
    refine J_b 1 am_d93 rfl ?_
    exact J_iret (am_d93 rfl) rfl rfl ⟨by rw [hb], rfl, rfl⟩
  | succ n ih =>
    intro i hn x ex b m hb hm z5
    subst ex
    refine J_b 2 am_d93 rfl ?_
    refine J_icmp_ge 45 (am_d93 rfl) rfl (fun h15 => absurd h15 (nI_ngt (b := 27) (by omega) (by decide))) (fun h15 => ?_)
    refine J_b 2 am_d93 rfl ?_
    refine J_V1s 94 (am_d93 rfl) rfl rfl (sp94 (show i + 1 < 27 by omega) eS hS eP hP) ?_
    refine J_b 4 am_d93 rfl ?_
    refine J_if_ge 39 (am_d93 rfl) rfl (fun h30 => ?_) (fun h30 => ?_)
    · refine J_b 2 am_d93 rfl ?_
      exact ih (i + 1) (by omega) _ (nI_1 (i + 1)) _ _ (by rw [lmn, if_neg (by rw [← hm]; exact fun z => absurd (lc_lt.mpr z) (Int32.not_lt.mpr h30))]; exact hb) (by rw [lmn, if_neg (by rw [← hm]; exact fun z => absurd (lc_lt.mpr z) (Int32.not_lt.mpr h30))]; exact hm) _
    · refine J_b 6 am_d93 rfl ?_
      exact ih (i + 1) (by omega) _ (nI_1 (i + 1)) _ _ (by rw [lmn, if_pos (by rw [← hm]; exact lc_lt.mp (Int32.not_le.mp h30))]) (by rw [lmn, if_pos (by rw [← hm]; exact lc_lt.mp (Int32.not_le.mp h30))]) _
theorem sp93 {X : am_X} {M : am_M} {N : am_N} {S P : Nat} (eS : M 18 7 = nI S) (hS : S ≤ 5) (eP : M 26 5 = nI P) (hP : P ≤ 6) : am_J X (am_eq (some (.int (nI (lmn (fun a => mw (M (80 + a)) (M 108) S P) 26).1))) (M) N) 93 0 (am_en 93 [.ref 77]) [] M N := by
  refine J_en (L := [.ref 77, .retAddr 0, .retAddr 0, .retAddr 0, .retAddr 0, .retAddr 0, .retAddr 0]) rfl ?_
  refine J_b 4 am_d93 rfl ?_
  refine J_V1s 94 (am_d93 rfl) rfl rfl (sp94 (a := 0) (by decide) eS hS eP hP) ?_
  refine J_b 3 am_d93 rfl ?_
  exact lp93 eS hS eP hP 26 0 rfl _ rfl _ _ rfl rfl _
