/-! ===== the reference: best, judged; twins; pairs ===== -/
theorem lp176 {X : am_X} {M : am_M} {N N0 : am_N} {c0 f S : Nat} (h : iv c0 M N0) (hf : f < 16) (eS : M 120 22 = nI S) (hS : S ≤ 5) : ∀ (n i : Nat), i + n = S → ∀ (x : Int32), x = nI i → ∀ (b m : Int32), b = (c_bst (w_of M f) i).1 → m = (c_bst (w_of M f) i).2 → ∀ (z : Value) (M1 : am_M), rd M M1 → am_J X (q_p (some (.int (b_of M S f))) (fun M2 N2 => rd M M2 ∧ N2 = N)) 176 7 [.ref 120, .int (nI f), .int b, .int m, .int x, z] [] M1 N := by
  intro n
  induction n with
  | zero =>
    intro i hn x ex b m hb hm z M1 hr
    have e : i = S := by omega
    subst e
    subst ex
    have e22 : M1 120 22 = nI i := (rd_sc hr).2.1.trans eS
    have hge : M1 120 22 ≤ nI i := by rw [e22]; exact Int32.le_refl _
    refine J_b 3 am_d176 rfl ?_
    refine J_icmp_ge 46 (am_d176 rfl) rfl (fun h13 => ?_) (fun h13 => absurd (hge) h13)
    refine J_b 1 am_d176 rfl ?_
    exact J_iret (am_d176 rfl) rfl rfl ⟨by rw [hb]; rfl, hr, rfl⟩
  | succ n ih =>
    intro i hn x ex b m hb hm z M1 hr
    subst ex
    have e22 : M1 120 22 = nI S := (rd_sc hr).2.1.trans eS
    have hlt : ¬ M1 120 22 ≤ nI i := by rw [e22]; exact nI_ngt (by omega) (by omega)
    refine J_b 3 am_d176 rfl ?_
    refine J_icmp_ge 46 (am_d176 rfl) rfl (fun h13 => absurd h13 hlt) (fun h13 => ?_)
    refine J_b 3 am_d176 rfl ?_
    refine J_V2sp 170 (am_d176 rfl) rfl rfl (sp170 (iv_s0 h (rd_sc hr) (N' := N0)) hf (by omega)) (fun M2 N2 hq => ?_)
    obtain ⟨hr2, rfl⟩ := hq
    rw [w_md (md_sc (rd_sc hr))]
    have hr3 := rd_t hr hr2
    refine J_b 3 am_d176 rfl ?_
    refine J_icmp_gt 34 (am_d176 rfl) rfl (fun h28 => ?_) (fun h28 => ?_)
    · refine J_b 6 am_d176 rfl ?_
      exact ih (i + 1) (by omega) _ (nI_1 i) _ _ (bst_p hb hm (Int32.not_le.mpr h28)).1 (bst_p hb hm (Int32.not_le.mpr h28)).2 _ _ hr3
    · refine J_b 1 am_d176 rfl ?_
      refine J_b 1 am_d176 rfl ?_
      refine J_b 1 am_d176 rfl ?_
      exact ih (i + 1) (by omega) _ (nI_1 i) _ _ (bst_n hb hm (Int32.not_lt.mp h28)).1 (bst_n hb hm (Int32.not_lt.mp h28)).2 _ _ hr3
theorem sp176 {X : am_X} {M : am_M} {N : am_N} {N0 : am_N} {c0 f S : Nat} (h : iv c0 M N0) (hf : f < 16) (eS : M 120 22 = nI S) (hS : S ≤ 5) : am_J X (q_p (some (.int (b_of M S f))) (fun M2 N2 => rd M M2 ∧ N2 = N)) 176 0 (am_en 176 [.ref 120, .int (nI f)]) [] M N := by
  refine J_en (L := [.ref 120, .int (nI f), .retAddr 0, .retAddr 0, .retAddr 0, .retAddr 0]) rfl ?_
  refine J_b 6 am_d176 rfl ?_
  exact lp176 h hf eS hS S 0 (Nat.zero_add _) _ rfl _ _ rfl rfl _ _ rd_0
theorem lp174 {X : am_X} {M : am_M} {N N0 : am_N} {c0 f S : Nat} (h : iv c0 M N0) (hf : f < 16) (eS : M 120 22 = nI S) (hS : S ≤ 5) : ∀ (n i : Nat), i + n = S → ∀ (x : Int32), x = nI i → ∀ (a w : Int32), a = c_ct (c_cd M f) i → w = c_ct (w_of M f) i → ∀ (M1 : am_M), rd M M1 → am_J X (q_p (some (.int (v_of M S f))) (fun M2 N2 => rd M M2 ∧ N2 = N)) 174 7 [.ref 120, .int (nI f), .int a, .int w, .int x] [] M1 N := by
  intro n
  induction n with
  | zero =>
    intro i hn x ex a w ha hw M1 hr
    have e : i = S := by omega
    subst e
    subst ex
    have e22 : M1 120 22 = nI i := (rd_sc hr).2.1.trans eS
    have hge : M1 120 22 ≤ nI i := by rw [e22]; exact Int32.le_refl _
    refine J_b 3 am_d174 rfl ?_
    refine J_icmp_ge 58 (am_d174 rfl) rfl (fun h13 => ?_) (fun h13 => absurd (hge) h13)
    refine J_b 1 am_d174 rfl ?_
    refine J_if_ne 66 (am_d174 rfl) rfl (fun h59 => ?_) (fun h59 => ?_)
    · refine J_b 1 am_d174 rfl ?_
      refine J_if_ne 74 (am_d174 rfl) rfl (fun h67 => ?_) (fun h67 => ?_)
      · refine J_b 2 am_d174 rfl ?_
        refine J_icmp_ne 83 (am_d174 rfl) rfl (fun h76 => ?_) (fun h76 => ?_)
        · refine J_b 1 am_d174 rfl ?_
          exact J_iret (am_d174 rfl) rfl rfl ⟨by unfold v_of c_vd; rw [← ha, ← hw]; first | (rw [if_pos h59]; rfl) | (rw [if_neg h59, if_pos h67]; rfl) | (rw [if_neg h59, if_neg h67, if_neg (show ¬ w = 1 from h76)]; rfl) | (rw [if_neg h59, if_neg h67, if_pos (show w = 1 from h76)]; rfl), hr, rfl⟩
        · refine J_b 2 am_d174 rfl ?_
          exact J_iret (am_d174 rfl) rfl rfl ⟨by unfold v_of c_vd; rw [← ha, ← hw]; first | (rw [if_pos h59]; rfl) | (rw [if_neg h59, if_pos h67]; rfl) | (rw [if_neg h59, if_neg h67, if_neg (show ¬ w = 1 from h76)]; rfl) | (rw [if_neg h59, if_neg h67, if_pos (show w = 1 from h76)]; rfl), hr, rfl⟩
      · refine J_b 2 am_d174 rfl ?_
        exact J_iret (am_d174 rfl) rfl rfl ⟨by unfold v_of c_vd; rw [← ha, ← hw]; first | (rw [if_pos h59]; rfl) | (rw [if_neg h59, if_pos h67]; rfl) | (rw [if_neg h59, if_neg h67, if_neg (show ¬ w = 1 from h76)]; rfl) | (rw [if_neg h59, if_neg h67, if_pos (show w = 1 from h76)]; rfl), hr, rfl⟩
    · refine J_b 2 am_d174 rfl ?_
      exact J_iret (am_d174 rfl) rfl rfl ⟨by unfold v_of c_vd; rw [← ha, ← hw]; first | (rw [if_pos h59]; rfl) | (rw [if_neg h59, if_pos h67]; rfl) | (rw [if_neg h59, if_neg h67, if_neg (show ¬ w = 1 from h76)]; rfl) | (rw [if_neg h59, if_neg h67, if_pos (show w = 1 from h76)]; rfl), hr, rfl⟩
  | succ n ih =>
    intro i hn x ex a w ha hw M1 hr
    subst ex
    have e22 : M1 120 22 = nI S := (rd_sc hr).2.1.trans eS
    have hlt : ¬ M1 120 22 ≤ nI i := by rw [e22]; exact nI_ngt (by omega) (by omega)
    refine J_b 3 am_d174 rfl ?_
    refine J_icmp_ge 58 (am_d174 rfl) rfl (fun h13 => absurd h13 hlt) (fun h13 => ?_)
    refine J_b 4 am_d174 rfl ?_
    have qc := sp171i (X := X) (N := N) (iv_s0 h (rd_sc hr) (N' := N0)) hf (show i < 5 by omega)
    rw [cd_md (md_sc (rd_sc hr))] at qc
    refine J_V2s 171 (am_d174 rfl) rfl rfl qc ?_
    refine J_if_le 31 (am_d174 rfl) rfl (fun h24 => ?_) (fun h24 => ?_)
    · refine J_b 7 am_d174 rfl ?_
      refine J_V2sp 170 (am_d174 rfl) rfl rfl (sp170 (iv_s0 h (rd_sc hr) (N' := N0)) hf (by omega)) (fun M2 N2 hq => ?_)
      obtain ⟨hr2, rfl⟩ := hq
      rw [w_md (md_sc (rd_sc hr))]
      have hr3 := rd_t hr hr2
      refine J_if_le 49 (am_d174 rfl) rfl (fun h42 => ?_) (fun h42 => ?_)
      · refine J_b 5 am_d174 rfl ?_
        exact ih (i + 1) (by omega) _ (nI_1 i) _ _ (ct_z ha h24) (ct_z hw h42) _ hr3
      · refine J_b 6 am_d174 rfl ?_
        exact ih (i + 1) (by omega) _ (nI_1 i) _ _ (ct_z ha h24) (ct_p hw (Int32.not_le.mp h42)) _ hr3
    · refine J_b 8 am_d174 rfl ?_
      refine J_V2sp 170 (am_d174 rfl) rfl rfl (sp170 (iv_s0 h (rd_sc hr) (N' := N0)) hf (by omega)) (fun M2 N2 hq => ?_)
      obtain ⟨hr2, rfl⟩ := hq
      rw [w_md (md_sc (rd_sc hr))]
      have hr3 := rd_t hr hr2
      refine J_if_le 49 (am_d174 rfl) rfl (fun h42 => ?_) (fun h42 => ?_)
      · refine J_b 5 am_d174 rfl ?_
        exact ih (i + 1) (by omega) _ (nI_1 i) _ _ (ct_p ha (Int32.not_le.mp h24)) (ct_z hw h42) _ hr3
      · refine J_b 6 am_d174 rfl ?_
        exact ih (i + 1) (by omega) _ (nI_1 i) _ _ (ct_p ha (Int32.not_le.mp h24)) (ct_p hw (Int32.not_le.mp h42)) _ hr3
theorem sp174 {X : am_X} {M : am_M} {N : am_N} {N0 : am_N} {c0 f S : Nat} (h : iv c0 M N0) (hf : f < 16) (eS : M 120 22 = nI S) (hS : S ≤ 5) : am_J X (q_p (some (.int (v_of M S f))) (fun M2 N2 => rd M M2 ∧ N2 = N)) 174 0 (am_en 174 [.ref 120, .int (nI f)]) [] M N := by
  refine J_en (L := [.ref 120, .int (nI f), .retAddr 0, .retAddr 0, .retAddr 0]) rfl ?_
  refine J_b 6 am_d174 rfl ?_
  exact lp174 h hf eS hS S 0 (Nat.zero_add _) _ rfl _ _ rfl rfl _ rd_0
abbrev c_al (row : Int32) : Prop := ∀ k, k < 4 → ¬ c_dg row k = 10
def c_fs (P : Nat → Bool) : Nat → Nat → Int32
  | 0, _ => -1
  | n + 1, i => if P i then nI i else c_fs P n (i + 1)
def c_tp (M : am_M) (f e : Nat) : Bool := decide (M 39 e = 0 ∧ M 33 e = M 33 f ∧ M 34 e = M 34 f)
def t_of (M : am_M) (f : Nat) : Int32 := if c_al (M 33 f) then c_fs (c_tp M f) f 0 else -1
theorem fs_p {P : Nat → Bool} {n i : Nat} (h : P i = true) : c_fs P (n + 1) i = nI i := by
  rw [c_fs, if_pos h]
theorem fs_n {P : Nat → Bool} {n i : Nat} (h : ¬ P i = true) : c_fs P (n + 1) i = c_fs P n (i + 1) := by
  rw [c_fs, if_neg h]
theorem t_md {M M' : am_M} (h : md M M') {f : Nat} : t_of M' f = t_of M f := by
  unfold t_of c_tp
  rw [h.1 33 (by unfold rg_r sc_r; omega), h.1 34 (by unfold rg_r sc_r; omega), h.1 39 (by unfold rg_r sc_r; omega)]
theorem lp82 {X : am_X} {M : am_M} {N : am_N} {row : Int32} : ∀ (n i : Nat), i + n = 4 → ∀ (x : Int32), x = nI i → (∀ k, k < i → ¬ c_dg row k = 10) → am_J X (am_eq (some (.int (am_bi (c_al row)))) M N) 82 2 [.int row, .int x] [] M N := by
  intro n
  induction n with
  | zero =>
    intro i hn x ex ha
    have e : i = 4 := by omega
    subst e
    subst ex
    refine J_b 2 am_d82 rfl ?_
    refine J_icmp_ge 25 (am_d82 rfl) rfl (fun h4 => ?_) (fun h4 => absurd (Int32.le_refl _) h4)
    refine J_b 1 am_d82 rfl ?_
    exact J_iret (am_d82 rfl) rfl rfl ⟨bi_t ha, rfl, rfl⟩
  | succ n ih =>
    intro i hn x ex ha
    have hi : i < 4 := by omega
    subst ex
    refine J_b 2 am_d82 rfl ?_
    refine J_icmp_ge 25 (am_d82 rfl) rfl (fun h4 => absurd h4 (nI_4 hi)) (fun h4 => ?_)
    refine J_b 2 am_d82 rfl ?_
    refine J_S2s 36 (am_d82 rfl) rfl rfl (sp36) ?_
    refine J_b 1 am_d82 rfl ?_
    refine J_icmp_ne 19 (am_d82 rfl) rfl (fun h14 => ?_) (fun h14 => ?_)
    · refine J_b 2 am_d82 rfl ?_
      exact ih (i + 1) (by omega) _ (nI_1 i) (fun k hk => (Nat.lt_succ_iff_lt_or_eq.mp hk).elim (ha k) (fun e => e ▸ h14))
    · refine J_b 1 am_d82 rfl ?_
      exact J_iret (am_d82 rfl) rfl rfl ⟨bi_f (fun z => z i hi h14), rfl, rfl⟩
theorem sp82 {X : am_X} {M : am_M} {N : am_N} {row : Int32} : am_J X (am_eq (some (.int (am_bi (c_al row)))) (M) N) 82 0 (am_en 82 [.int row]) [] M N := by
  refine J_en (L := [.int row, .retAddr 0]) rfl ?_
  refine J_b 2 am_d82 rfl ?_
  exact lp82 4 0 rfl _ rfl (fun k hk => absurd hk (by omega))
theorem lp81 {X : am_X} {M : am_M} {N : am_N} {f : Nat} (hf : f < 16) : ∀ (n i : Nat), i + n = f → ∀ (x : Int32), x = nI i → am_J X (am_eq (some (.int (c_fs (c_tp M f) n i))) M N) 81 16 [.ref 32, .int (nI f), .int x] [] M N := by
  intro n
  induction n with
  | zero =>
    intro i hn x ex
    have e : i = f := by omega
    subst ex
    have hge : nI f ≤ nI i := by rw [e]; exact Int32.le_refl _
    refine J_b 2 am_d81 rfl ?_
    refine J_icmp_ge 68 (am_d81 rfl) rfl (fun h18 => ?_) (fun h18 => absurd (hge) h18)
    refine J_b 1 am_d81 rfl ?_
    exact J_iret (am_d81 rfl) rfl rfl ⟨rfl, rfl, rfl⟩
  | succ n ih =>
    intro i hn x ex
    subst ex
    have hlt : ¬ nI f ≤ nI i := nI_ngt (by omega) (by omega)
    refine J_b 2 am_d81 rfl ?_
    refine J_icmp_ge 68 (am_d81 rfl) rfl (fun h18 => absurd h18 hlt) (fun h18 => ?_)
    refine J_b 3 am_d81 rfl ?_
    refine J_zald (am_d81 rfl) rfl (vp_in_nI (show i < 16 by omega) (by decide)) ?_
    rw [nI_c (n := i) (by omega)]
    refine J_if_ne 62 (am_d81 rfl) rfl (fun h27 => ?_) (fun h27 => ?_)
    · refine J_b 2 am_d81 rfl ?_
      rw [show c_fs (c_tp M f) (n + 1) i = c_fs (c_tp M f) n (i + 1) from fs_n (fun z => h27 (of_decide_eq_true z).1)]
      exact ih (i + 1) (by omega) _ (nI_1 i)
    · refine J_b 3 am_d81 rfl ?_
      refine J_iald (am_d81 rfl) rfl (vp_in_nI (show i < 16 by omega) (by decide)) ?_
      rw [nI_c (n := i) (by omega)]
      show am_J X _ 81 36 _ (.int (M 33 i) :: _) _ N
      refine J_b 3 am_d81 rfl ?_
      refine J_iald (am_d81 rfl) rfl (vp_in_nI hf (by decide)) ?_
      rw [nI_c (n := f) (by omega)]
      show am_J X _ 81 42 _ (.int (M 33 f) :: _) _ N
      refine J_icmp_ne 62 (am_d81 rfl) rfl (fun h42 => ?_) (fun h42 => ?_)
      · refine J_b 2 am_d81 rfl ?_
        rw [show c_fs (c_tp M f) (n + 1) i = c_fs (c_tp M f) n (i + 1) from fs_n (fun z => h42 (of_decide_eq_true z).2.1)]
        exact ih (i + 1) (by omega) _ (nI_1 i)
      · refine J_b 3 am_d81 rfl ?_
        refine J_iald (am_d81 rfl) rfl (vp_in_nI (show i < 16 by omega) (by decide)) ?_
        rw [nI_c (n := i) (by omega)]
        show am_J X _ 81 51 _ (.int (M 34 i) :: _) _ N
        refine J_b 3 am_d81 rfl ?_
        refine J_iald (am_d81 rfl) rfl (vp_in_nI hf (by decide)) ?_
        rw [nI_c (n := f) (by omega)]
        show am_J X _ 81 57 _ (.int (M 34 f) :: _) _ N
        refine J_icmp_ne 62 (am_d81 rfl) rfl (fun h57 => ?_) (fun h57 => ?_)
        · refine J_b 2 am_d81 rfl ?_
          rw [show c_fs (c_tp M f) (n + 1) i = c_fs (c_tp M f) n (i + 1) from fs_n (fun z => h57 (of_decide_eq_true z).2.2)]
          exact ih (i + 1) (by omega) _ (nI_1 i)
        · refine J_b 1 am_d81 rfl ?_
          exact J_iret (am_d81 rfl) rfl rfl ⟨congrArg (fun z => some (Value.int z)) (fs_p (decide_eq_true ⟨h27, h42, h57⟩)).symm, rfl, rfl⟩
theorem sp81 {X : am_X} {M : am_M} {N : am_N} {f : Nat} (hf : f < 16) : am_J X (am_eq (some (.int (t_of M f))) (M) N) 81 0 (am_en 81 [.ref 32, .int (nI f)]) [] M N := by
  refine J_en (L := [.ref 32, .int (nI f), .retAddr 0]) rfl ?_
  refine J_b 3 am_d81 rfl ?_
  refine J_iald (am_d81 rfl) rfl (vp_in_nI hf (by decide)) ?_
  rw [nI_c (n := f) (by omega)]
  show am_J X _ 81 6 _ (.int (M 33 f) :: _) _ N
  refine J_S1s 82 (am_d81 rfl) rfl rfl (sp82) ?_
  refine J_if_ne 14 (am_d81 rfl) rfl (fun h9 => ?_) (fun h9 => ?_)
  · refine J_b 2 am_d81 rfl ?_
    unfold t_of
    rw [if_pos (am_bi1.mp h9)]
    exact lp81 hf f 0 (Nat.zero_add _) _ rfl
  · refine J_b 1 am_d81 rfl ?_
    exact J_iret (am_d81 rfl) rfl rfl ⟨by unfold t_of; rw [if_neg (am_bi0.mp h9)]; rfl, rfl, rfl⟩
theorem lp180 {X : am_X} {M : am_M} {N : am_N} {f : Nat} (hf : f < 16) : ∀ (n i : Nat), i + n = 4 → ∀ (x : Int32), x = nI i → ∀ (g : Int32), ((g = 1 ∧ ∀ k, k < i → ¬ c_dg (M 153 f) k = 10) ∨ (g = 0 ∧ ∃ k, k < i ∧ ¬ ¬ c_dg (M 153 f) k = 10)) → am_J X (am_eq (some (.int (am_bi (c_al (M 153 f))))) M N) 180 4 [.ref 120, .int (nI f), .int g, .int x] [] M N := by
  intro n
  induction n with
  | zero =>
    intro i hn x ex g hg
    have e : i = 4 := by omega
    subst e
    subst ex
    refine J_b 2 am_d180 rfl ?_
    refine J_icmp_ge 43 (am_d180 rfl) rfl (fun h6 => ?_) (fun h6 => absurd (Int32.le_refl _) h6)
    rcases hg with ⟨hg, hp⟩ | ⟨hg, k, hk, hp⟩
    · subst hg
      refine J_b 1 am_d180 rfl ?_
      exact J_iret (am_d180 rfl) rfl rfl ⟨bi_t hp, rfl, rfl⟩
    · subst hg
      refine J_b 1 am_d180 rfl ?_
      exact J_iret (am_d180 rfl) rfl rfl ⟨bi_f (fun z => hp (z k hk)), rfl, rfl⟩
  | succ n ih =>
    intro i hn x ex g hg
    have hi : i < 4 := by omega
    subst ex
    refine J_b 2 am_d180 rfl ?_
    refine J_icmp_ge 43 (am_d180 rfl) rfl (fun h6 => absurd h6 (nI_4 hi)) (fun h6 => ?_)
    refine J_b 1 am_d180 rfl ?_
    refine J_if_eq 35 (am_d180 rfl) rfl (fun h10 => ?_) (fun h10 => ?_)
    · refine J_b 4 am_d180 rfl ?_
      exact ih (i + 1) (by omega) _ (nI_1 i) _ (and_0 h10 hg)
    · refine J_b 3 am_d180 rfl ?_
      refine J_iald (am_d180 rfl) rfl (vp_in_nI hf (by decide)) ?_
      rw [nI_c (n := f) (by omega)]
      show am_J X _ 180 19 _ (.int (M 153 f) :: _) _ N
      refine J_b 7 am_d180 rfl ?_
      refine J_icmp_eq 35 (am_d180 rfl) rfl (fun h28 => ?_) (fun h28 => ?_)
      · refine J_b 4 am_d180 rfl ?_
        exact ih (i + 1) (by omega) _ (nI_1 i) _ (.inr ⟨rfl, i, by omega, fun z => z h28⟩)
      · refine J_b 5 am_d180 rfl ?_
        exact ih (i + 1) (by omega) _ (nI_1 i) _ (and_1 h10 hg h28)
theorem sp180 {X : am_X} {M : am_M} {N : am_N} {f : Nat} (hf : f < 16) : am_J X (am_eq (some (.int (am_bi (c_al (M 153 f))))) (M) N) 180 0 (am_en 180 [.ref 120, .int (nI f)]) [] M N := by
  refine J_en (L := [.ref 120, .int (nI f), .retAddr 0, .retAddr 0]) rfl ?_
  refine J_b 4 am_d180 rfl ?_
  exact lp180 hf 4 0 rfl _ rfl _ (.inl ⟨rfl, fun k hk => absurd hk (by omega)⟩)
theorem lp179 {X : am_X} {M : am_M} {N : am_N} {f : Nat} (hf : f < 16) (f1 : M 153 = M 33) (f2 : M 154 = M 34) (f7 : M 159 = M 39) (hal : c_al (M 33 f)) : ∀ (n i : Nat), i + n = f → ∀ (x : Int32), x = nI i → am_J X (am_eq (some (.int (c_fs (c_tp M f) n i))) M N) 179 2 [.ref 120, .int (nI f), .int x] [] M N := by
  have qk := sp180 (X := X) (M := M) (N := N) (f := f) hf
  rw [f1] at qk
  intro n
  induction n with
  | zero =>
    intro i hn x ex
    have e : i = f := by omega
    subst ex
    have hge : nI f ≤ nI i := by rw [e]; exact Int32.le_refl _
    refine J_b 2 am_d179 rfl ?_
    refine J_icmp_ge 62 (am_d179 rfl) rfl (fun h4 => ?_) (fun h4 => absurd (hge) h4)
    refine J_b 1 am_d179 rfl ?_
    exact J_iret (am_d179 rfl) rfl rfl ⟨rfl, rfl, rfl⟩
  | succ n ih =>
    intro i hn x ex
    subst ex
    have hlt : ¬ nI f ≤ nI i := nI_ngt (by omega) (by omega)
    refine J_b 2 am_d179 rfl ?_
    refine J_icmp_ge 62 (am_d179 rfl) rfl (fun h4 => absurd h4 hlt) (fun h4 => ?_)
    refine J_b 2 am_d179 rfl ?_
    refine J_V1s 180 (am_d179 rfl) rfl rfl (qk) ?_
    refine J_if_eq 62 (am_d179 rfl) rfl (fun h12 => absurd h12 (am_bi1.mpr hal)) (fun h12 => ?_)
    refine J_b 3 am_d179 rfl ?_
    refine J_zald (am_d179 rfl) rfl (vp_in_nI (show i < 16 by omega) (by decide)) ?_
    rw [nI_c (n := i) (by omega), f7]
    refine J_if_ne 56 (am_d179 rfl) rfl (fun h21 => ?_) (fun h21 => ?_)
    · refine J_b 2 am_d179 rfl ?_
      rw [show c_fs (c_tp M f) (n + 1) i = c_fs (c_tp M f) n (i + 1) from fs_n (fun z => h21 (of_decide_eq_true z).1)]
      exact ih (i + 1) (by omega) _ (nI_1 i)
    · refine J_b 3 am_d179 rfl ?_
      refine J_iald (am_d179 rfl) rfl (vp_in_nI (show i < 16 by omega) (by decide)) ?_
      rw [nI_c (n := i) (by omega)]
      show am_J X _ 179 30 _ (.int (M 153 i) :: _) _ N
      rw [f1]
      refine J_b 3 am_d179 rfl ?_
      refine J_iald (am_d179 rfl) rfl (vp_in_nI hf (by decide)) ?_
      rw [nI_c (n := f) (by omega)]
      show am_J X _ 179 36 _ (.int (M 153 f) :: _) _ N
      rw [f1]
      refine J_icmp_ne 56 (am_d179 rfl) rfl (fun h36 => ?_) (fun h36 => ?_)
      · refine J_b 2 am_d179 rfl ?_
        rw [show c_fs (c_tp M f) (n + 1) i = c_fs (c_tp M f) n (i + 1) from fs_n (fun z => h36 (of_decide_eq_true z).2.1)]
        exact ih (i + 1) (by omega) _ (nI_1 i)
      · refine J_b 3 am_d179 rfl ?_
        refine J_iald (am_d179 rfl) rfl (vp_in_nI (show i < 16 by omega) (by decide)) ?_
        rw [nI_c (n := i) (by omega)]
        show am_J X _ 179 45 _ (.int (M 154 i) :: _) _ N
        rw [f2]
        refine J_b 3 am_d179 rfl ?_
        refine J_iald (am_d179 rfl) rfl (vp_in_nI hf (by decide)) ?_
        rw [nI_c (n := f) (by omega)]
        show am_J X _ 179 51 _ (.int (M 154 f) :: _) _ N
        rw [f2]
        refine J_icmp_ne 56 (am_d179 rfl) rfl (fun h51 => ?_) (fun h51 => ?_)
        · refine J_b 2 am_d179 rfl ?_
          rw [show c_fs (c_tp M f) (n + 1) i = c_fs (c_tp M f) n (i + 1) from fs_n (fun z => h51 (of_decide_eq_true z).2.2)]
          exact ih (i + 1) (by omega) _ (nI_1 i)
        · refine J_b 1 am_d179 rfl ?_
          exact J_iret (am_d179 rfl) rfl rfl ⟨congrArg (fun z => some (Value.int z)) (fs_p (decide_eq_true ⟨h21, h36, h51⟩)).symm, rfl, rfl⟩
theorem sp179 {X : am_X} {M : am_M} {N : am_N} {f : Nat} (hf : f < 16) (f1 : M 153 = M 33) (f2 : M 154 = M 34) (f7 : M 159 = M 39) : am_J X (am_eq (some (.int (t_of M f))) (M) N) 179 0 (am_en 179 [.ref 120, .int (nI f)]) [] M N := by
  refine J_en (L := [.ref 120, .int (nI f), .retAddr 0]) rfl ?_
  refine J_b 2 am_d179 rfl ?_
  by_cases hal : c_al (M 33 f)
  · unfold t_of
    rw [if_pos hal]
    exact lp179 hf f1 f2 f7 hal f 0 (Nat.zero_add _) _ rfl
  · unfold t_of
    rw [if_neg hal]
    have qk := sp180 (X := X) (M := M) (N := N) (f := f) hf
    rw [f1] at qk
    refine J_b 2 am_d179 rfl ?_
    refine J_icmp_ge 62 (am_d179 rfl) rfl (fun h4 => ?_) (fun h4 => ?_)
    · refine J_b 1 am_d179 rfl ?_
      exact J_iret (am_d179 rfl) rfl rfl ⟨rfl, rfl, rfl⟩
    · refine J_b 2 am_d179 rfl ?_
      refine J_V1s 180 (am_d179 rfl) rfl rfl (qk) ?_
      refine J_if_eq 62 (am_d179 rfl) rfl (fun h12 => ?_) (fun h12 => absurd (am_bi0.mpr hal) h12)
      refine J_b 1 am_d179 rfl ?_
      exact J_iret (am_d179 rfl) rfl rfl ⟨rfl, rfl, rfl⟩
