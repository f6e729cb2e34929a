/-! ===== what casts got ===== -/
def g_of (M : am_M) (S f : Nat) : Int32 := if M 39 f = 0 ∧ t_of M f = -1 ∧ v_of M S f = 2 then b_of M S f else -1
theorem g_md {M M' : am_M} (h : md M M') {S f : Nat} : g_of M' S f = g_of M S f := by
  unfold g_of
  rw [t_md h, v_md h, b_md h, h.1 39 (by unfold rg_r sc_r; omega)]
theorem fs_b {P : Nat → Bool} {n i : Nat} (h : n + i < 1000) : c_fs P n i = -1 ∨ 0 ≤ c_fs P n i := by
  induction n generalizing i with
  | zero => exact .inl rfl
  | succ n ih =>
    rw [c_fs]
    split
    · refine .inr ?_
      rw [Int32.le_iff_toInt_le, nI_i (by omega)]
      exact Int.natCast_nonneg _
    · exact ih (by omega)
theorem t_b {M : am_M} {f : Nat} (hf : f < 16) : t_of M f = -1 ∨ 0 ≤ t_of M f := by
  unfold t_of
  split
  · exact fs_b (by omega)
  · exact .inl rfl
theorem g_1 {M : am_M} {S f : Nat} (h : ¬ (M 39 f = 0 ∧ t_of M f = -1 ∧ v_of M S f = 2)) : g_of M S f = -1 := if_neg h
theorem g_2 {M : am_M} {S f : Nat} (h : M 39 f = 0 ∧ t_of M f = -1 ∧ v_of M S f = 2) : g_of M S f = b_of M S f := if_pos h
theorem sp85 {X : am_X} {M : am_M} {N : am_N} {N0 : am_N} {c0 f S : Nat} (h : iv c0 M N0) (hk : M 52 4 = M 1 11) (hf : f < 16) (hfs : (f : Int) < (M 32 7).toInt) (eS : M 18 7 = nI S) (hS : S ≤ 5) : am_J X (am_eq (some (.int (g_of M S f))) (M) N) 85 0 (am_en 85 [.ref 59, .int (nI f)]) [] M N := by
  refine J_en (L := [.ref 59, .int (nI f)]) rfl ?_
  refine J_b 4 am_d85 rfl ?_
  refine J_zald (am_d85 rfl) rfl (vp_in_nI hf (by decide)) ?_
  rw [nI_c (n := f) (by omega)]
  refine J_if_ne 33 (am_d85 rfl) rfl (fun h9 => ?_) (fun h9 => ?_)
  · refine J_b 1 am_d85 rfl ?_
    exact J_iret (am_d85 rfl) rfl rfl ⟨congrArg (fun z => some (Value.int z)) (g_1 (fun z => h9 z.1)).symm, rfl, rfl⟩
  · refine J_b 3 am_d85 rfl ?_
    refine J_V1s 81 (am_d85 rfl) rfl rfl (sp81 hf) ?_
    refine J_b 1 am_d85 rfl ?_
    refine J_icmp_ne 33 (am_d85 rfl) rfl (fun h21 => ?_) (fun h21 => ?_)
    · refine J_b 1 am_d85 rfl ?_
      exact J_iret (am_d85 rfl) rfl rfl ⟨congrArg (fun z => some (Value.int z)) (g_1 (fun z => h21 z.2.1)).symm, rfl, rfl⟩
    · refine J_b 2 am_d85 rfl ?_
      refine J_V1s 75 (am_d85 rfl) rfl rfl (sp75 h hk hf hfs eS hS) ?_
      refine J_b 1 am_d85 rfl ?_
      refine J_icmp_eq 35 (am_d85 rfl) rfl (fun h30 => ?_) (fun h30 => ?_)
      · refine J_b 2 am_d85 rfl ?_
        refine J_V1s 77 (am_d85 rfl) rfl rfl (sp77 h hk hf hfs eS hS) ?_
        exact J_iret (am_d85 rfl) rfl rfl ⟨congrArg (fun z => some (Value.int z)) (g_2 ⟨h9, h21, h30⟩).symm, rfl, rfl⟩
      · refine J_b 1 am_d85 rfl ?_
        exact J_iret (am_d85 rfl) rfl rfl ⟨congrArg (fun z => some (Value.int z)) (g_1 (fun z => h30 z.2.2)).symm, rfl, rfl⟩
def rq (M : am_M) (g : Nat → Int32) (M1 : am_M) : Prop := ∃ st, M1 = am_upR (dr_R M st) 160 g
theorem R_160 {M st : am_M} {g : Nat → Int32} : dr_R (am_upR M 160 g) st = am_upR (dr_R M st) 160 g := by
  funext r j
  by_cases h : r = 160
  · subst h
    rfl
  · rw [upR_n h]
    unfold dr_R am_upR
    simp [h]
theorem rq_rd {M M1 M2 : am_M} {g : Nat → Int32} (h : rq M g M1) (h2 : rd M1 M2) : rq M g M2 := by
  obtain ⟨s1, rfl⟩ := h
  obtain ⟨s2, rfl⟩ := h2
  exact ⟨s2, by rw [R_160, R_R]⟩
theorem rq_up {M M1 : am_M} {g : Nat → Int32} {i : Nat} {v : Int32} (h : rq M g M1) : rq M (fun b => if b = i then v else g b) (am_up M1 160 i v) := by
  obtain ⟨s1, rfl⟩ := h
  exact ⟨s1, upR_up⟩
theorem rq_0 {M : am_M} : rq M (M 160) M := ⟨_, by rw [← R_of M, upR_id]⟩
theorem rq_sc {M M1 : am_M} {g : Nat → Int32} (h : rq M g M1) : sc_ok M M1 := by
  obtain ⟨s1, rfl⟩ := h
  exact sc_t sc_R (sc_uR (by unfold sc_r; omega) (by decide))
theorem rq_g {M M1 : am_M} {g : Nat → Int32} (h : rq M g M1) : M1 160 = g := by
  obtain ⟨s1, rfl⟩ := h
  exact upR_r
/-- which cast each find is sure for -/
def su (M : am_M) (S F : Nat) (M1 : am_M) : Prop := ∃ g, rq M g M1 ∧ ∀ k, k < F → g k = g_of M S k
theorem lp182 {X : am_X} {M : am_M} {N N0 : am_N} {c0 S F : Nat} (h : iv c0 M N0) (eS : M 120 22 = nI S) (hS : S ≤ 5) (eF : M 120 44 = nI F) (hF : F ≤ 16) : ∀ (n i : Nat), i + n = F → ∀ (x : Int32), x = nI i → ∀ (g : Nat → Int32), (∀ k, k < i → g k = g_of M S k) → ∀ (M1 : am_M), rq M g M1 → am_J X (q_p none (fun M2 N2 => su M S F M2 ∧ N2 = N)) 182 2 [.ref 120, .int x] [] M1 N := by
  intro n
  induction n with
  | zero =>
    intro i hn x ex g hg M1 hr
    have e : i = F := by omega
    subst e
    subst ex
    have e44 : M1 120 44 = nI i := (rq_sc hr).2.2.2.1.trans eF
    have hge : M1 120 44 ≤ nI i := by rw [e44]; exact Int32.le_refl _
    refine J_b 3 am_d182 rfl ?_
    refine J_icmp_ge 57 (am_d182 rfl) rfl (fun h7 => ?_) (fun h7 => absurd (hge) h7)
    exact J_ret (am_d182 rfl) rfl ⟨rfl, ⟨g, hr, hg⟩, rfl⟩
  | succ n ih =>
    intro i hn x ex g hg M1 hr
    subst ex
    have e44 : M1 120 44 = nI F := (rq_sc hr).2.2.2.1.trans eF
    have hlt : ¬ M1 120 44 ≤ nI i := by rw [e44]; exact nI_ngt (by omega) (by omega)
    obtain ⟨⟨f1, f2, _, _, _, _, f7⟩, _⟩ := (iv_s0 h (rq_sc hr) (N' := N0)).1.2.2.2.1
    refine J_b 3 am_d182 rfl ?_
    refine J_icmp_ge 57 (am_d182 rfl) rfl (fun h7 => absurd h7 hlt) (fun h7 => ?_)
    refine J_b 6 am_d182 rfl ?_
    refine J_zald (am_d182 rfl) rfl (vp_in_nI (show i < 16 by omega) (by decide)) ?_
    rw [nI_c (n := i) (by omega), f7, (rq_sc hr).1 39 (by unfold sc_r; omega)]
    refine J_if_ne 49 (am_d182 rfl) rfl (fun h21 => ?_) (fun h21 => ?_)
    · refine J_b 1 am_d182 rfl ?_
      refine J_iast (am_d182 rfl) rfl (vp_in_nI (show i < 16 by omega) (by decide)) ?_
      rw [nI_c (n := i) (by omega)]
      refine J_b 2 am_d182 rfl ?_
      refine ih (i + 1) (by omega) _ (nI_1 i) _ (fun k hk => ?_) _ (rq_up hr)
      by_cases e : k = i
      · rw [if_pos e, e]
        exact (g_1 (fun z => h21 z.1)).symm
      · rw [if_neg e]
        exact hg k (by omega)
    · refine J_b 2 am_d182 rfl ?_
      have qt := sp179 (X := X) (M := M1) (N := N) (f := i) (show i < 16 by omega) f1 f2 f7
      rw [t_md (md_sc (rq_sc hr))] at qt
      refine J_V1s 179 (am_d182 rfl) rfl rfl qt ?_
      refine J_if_ge 49 (am_d182 rfl) rfl (fun h29 => ?_) (fun h29 => ?_)
      · refine J_b 1 am_d182 rfl ?_
        refine J_iast (am_d182 rfl) rfl (vp_in_nI (show i < 16 by omega) (by decide)) ?_
        rw [nI_c (n := i) (by omega)]
        refine J_b 2 am_d182 rfl ?_
        refine ih (i + 1) (by omega) _ (nI_1 i) _ (fun k hk => ?_) _ (rq_up hr)
        by_cases e : k = i
        · rw [if_pos e, e]
          exact (g_1 (fun z => by rw [z.2.1] at h29; exact absurd h29 (by decide))).symm
        · rw [if_neg e]
          exact hg k (by omega)
      · have ht : t_of M i = -1 := (t_b (show i < 16 by omega)).elim id (fun z => absurd z h29)
        refine J_b 2 am_d182 rfl ?_
        refine J_V1sp 174 (am_d182 rfl) rfl rfl (sp174 (iv_s0 h (rq_sc hr) (N' := N0)) (show i < 16 by omega) ((rq_sc hr).2.1.trans eS) hS) (fun M2 N2 hq => ?_)
        obtain ⟨hr2', rfl⟩ := hq
        rw [v_md (md_sc (rq_sc hr))]
        have hr2 := rq_rd hr hr2'
        refine J_b 1 am_d182 rfl ?_
        refine J_icmp_ne 49 (am_d182 rfl) rfl (fun h38 => ?_) (fun h38 => ?_)
        · refine J_b 1 am_d182 rfl ?_
          refine J_iast (am_d182 rfl) rfl (vp_in_nI (show i < 16 by omega) (by decide)) ?_
          rw [nI_c (n := i) (by omega)]
          refine J_b 2 am_d182 rfl ?_
          refine ih (i + 1) (by omega) _ (nI_1 i) _ (fun k hk => ?_) _ (rq_up hr2)
          by_cases e : k = i
          · rw [if_pos e, e]
            exact (g_1 (fun z => h38 z.2.2)).symm
          · rw [if_neg e]
            exact hg k (by omega)
        · refine J_b 2 am_d182 rfl ?_
          refine J_V1sp 176 (am_d182 rfl) rfl rfl (sp176 (iv_s0 h (rq_sc hr2) (N' := N0)) (show i < 16 by omega) ((rq_sc hr2).2.1.trans eS) hS) (fun M3 N3 hq => ?_)
          obtain ⟨hr3', rfl⟩ := hq
          rw [b_md (md_sc (rq_sc hr2))]
          have hr3 := rq_rd hr2 hr3'
          refine J_b 1 am_d182 rfl ?_
          refine J_iast (am_d182 rfl) rfl (vp_in_nI (show i < 16 by omega) (by decide)) ?_
          rw [nI_c (n := i) (by omega)]
          refine J_b 2 am_d182 rfl ?_
          refine ih (i + 1) (by omega) _ (nI_1 i) _ (fun k hk => ?_) _ (rq_up hr3)
          by_cases e : k = i
          · rw [if_pos e, e]
            exact (g_2 ⟨h21, ht, h38⟩).symm
          · rw [if_neg e]
            exact hg k (by omega)
theorem sp182 {X : am_X} {M : am_M} {N : am_N} {N0 : am_N} {c0 S F : Nat} (h : iv c0 M N0) (eS : M 120 22 = nI S) (hS : S ≤ 5) (eF : M 120 44 = nI F) (hF : F ≤ 16) : am_J X (q_p (none) (fun M2 N2 => su M S F M2 ∧ N2 = N)) 182 0 (am_en 182 [.ref 120]) [] M N := by
  refine J_en (L := [.ref 120, .retAddr 0]) rfl ?_
  refine J_b 2 am_d182 rfl ?_
  exact lp182 h eS hS eF hF F 0 (Nat.zero_add _) _ rfl _ (fun k hk => absurd hk (by omega)) _ rq_0
def c_gc (tl gs nr : Nat → Int32) (c nm as but : Int32) (f : Nat) : Prop := ¬ nI f = but ∧ tl f ≤ as ∧ gs f = c ∧ (nm = -1 ∨ nr f = nm)
noncomputable def c_gb (tl gs nr : Nat → Int32) (c nm as but : Int32) (F : Nat) : Int32 := smI (fun f => @ite _ (c_gc tl gs nr c nm as but f) (Classical.propDecidable _) 1 0) F
theorem gb_p {tl gs nr : Nat → Int32} {c nm as but : Int32} {i : Nat} {a : Int32} (ha : a = c_gb tl gs nr c nm as but i) (h : c_gc tl gs nr c nm as but i) : a + 1 = c_gb tl gs nr c nm as but (i + 1) := by
  show a + 1 = c_gb tl gs nr c nm as but i + @ite _ (c_gc tl gs nr c nm as but i) (Classical.propDecidable _) 1 0
  rw [if_pos h, ha]
theorem gb_n {tl gs nr : Nat → Int32} {c nm as but : Int32} {i : Nat} {a : Int32} (ha : a = c_gb tl gs nr c nm as but i) (h : ¬ c_gc tl gs nr c nm as but i) : a + 0 = c_gb tl gs nr c nm as but (i + 1) := by
  show a + 0 = c_gb tl gs nr c nm as but i + @ite _ (c_gc tl gs nr c nm as but i) (Classical.propDecidable _) 1 0
  rw [if_neg h, ha]
theorem gb_n0 {tl gs nr : Nat → Int32} {c nm as but : Int32} {i : Nat} {a : Int32} (ha : a = c_gb tl gs nr c nm as but i) (h : ¬ c_gc tl gs nr c nm as but i) : a = c_gb tl gs nr c nm as but (i + 1) := (Int32.add_zero _).symm.trans (gb_n ha h)
theorem gb_c {tl gs gs' nr : Nat → Int32} {c nm as but : Int32} {F : Nat} (h : ∀ f, f < F → gs f = gs' f) : c_gb tl gs nr c nm as but F = c_gb tl gs' nr c nm as but F := by
  refine smI_congr (fun f hf => ?_)
  have e : c_gc tl gs nr c nm as but f = c_gc tl gs' nr c nm as but f := by
    unfold c_gc
    rw [h f hf]
  show @ite _ (c_gc tl gs nr c nm as but f) (Classical.propDecidable _) 1 0 = @ite _ (c_gc tl gs' nr c nm as but f) (Classical.propDecidable _) 1 0
  by_cases hp : c_gc tl gs nr c nm as but f
  · rw [if_pos hp, if_pos (e ▸ hp)]
  · rw [if_neg hp, if_neg (fun z => hp (e ▸ z))]
theorem lp183 {X : am_X} {M : am_M} {N : am_N} {c nm as but : Int32} {F : Nat} (eF : M 120 44 = nI F) (hF : F ≤ 16) : ∀ (n i : Nat), i + n = F → ∀ (x : Int32), x = nI i → ∀ (a : Int32), a = c_gb (M 158) (M 160) (M 155) c nm as but i → am_J X (am_eq (some (.int (c_gb (M 158) (M 160) (M 155) c nm as but F))) M N) 183 6 [.ref 120, .int c, .int nm, .int as, .int but, .int a, .int x] [] M N := by
  intro n
  induction n with
  | zero =>
    intro i hn x ex a ha
    have e : i = F := by omega
    subst e
    subst ex
    have hge : M 120 44 ≤ nI i := by rw [eF]; exact Int32.le_refl _
    refine J_b 3 am_d183 rfl ?_
    refine J_icmp_ge 76 (am_d183 rfl) rfl (fun h12 => ?_) (fun h12 => absurd (hge) h12)
    refine J_b 1 am_d183 rfl ?_
    exact J_iret (am_d183 rfl) rfl rfl ⟨by rw [ha], rfl, rfl⟩
  | succ n ih =>
    intro i hn x ex a ha
    subst ex
    have hlt : ¬ M 120 44 ≤ nI i := by rw [eF]; exact nI_ngt (by omega) (by omega)
    refine J_b 3 am_d183 rfl ?_
    refine J_icmp_ge 76 (am_d183 rfl) rfl (fun h12 => absurd h12 hlt) (fun h12 => ?_)
    refine J_b 3 am_d183 rfl ?_
    refine J_icmp_eq 66 (am_d183 rfl) rfl (fun h21 => ?_) (fun h21 => ?_)
    · refine J_b 5 am_d183 rfl ?_
      exact ih (i + 1) (by omega) _ (nI_1 i) _ (gb_n ha (fun z => z.1 h21))
    · refine J_b 3 am_d183 rfl ?_
      refine J_iald (am_d183 rfl) rfl (vp_in_nI (show i < 16 by omega) (by decide)) ?_
      rw [nI_c (n := i) (by omega)]
      show am_J X _ 183 31 _ (.int (M 158 i) :: _) _ N
      refine J_b 1 am_d183 rfl ?_
      refine J_icmp_gt 66 (am_d183 rfl) rfl (fun h32 => ?_) (fun h32 => ?_)
      · refine J_b 5 am_d183 rfl ?_
        exact ih (i + 1) (by omega) _ (nI_1 i) _ (gb_n ha (fun z => absurd h32 (Int32.not_lt.mpr z.2.1)))
      · refine J_b 3 am_d183 rfl ?_
        refine J_iald (am_d183 rfl) rfl (vp_in_nI (show i < 16 by omega) (by decide)) ?_
        rw [nI_c (n := i) (by omega)]
        show am_J X _ 183 42 _ (.int (M 160 i) :: _) _ N
        refine J_b 1 am_d183 rfl ?_
        refine J_icmp_ne 66 (am_d183 rfl) rfl (fun h43 => ?_) (fun h43 => ?_)
        · refine J_b 5 am_d183 rfl ?_
          exact ih (i + 1) (by omega) _ (nI_1 i) _ (gb_n ha (fun z => h43 z.2.2.1))
        · refine J_b 2 am_d183 rfl ?_
          refine J_icmp_eq 62 (am_d183 rfl) rfl (fun h48 => ?_) (fun h48 => ?_)
          · refine J_b 6 am_d183 rfl ?_
            exact ih (i + 1) (by omega) _ (nI_1 i) _ (gb_p ha ⟨h21, Int32.not_lt.mp h32, h43, .inl h48⟩)
          · refine J_b 3 am_d183 rfl ?_
            refine J_iald (am_d183 rfl) rfl (vp_in_nI (show i < 16 by omega) (by decide)) ?_
            rw [nI_c (n := i) (by omega)]
            show am_J X _ 183 58 _ (.int (M 155 i) :: _) _ N
            refine J_b 1 am_d183 rfl ?_
            refine J_icmp_ne 66 (am_d183 rfl) rfl (fun h59 => ?_) (fun h59 => ?_)
            · refine J_b 5 am_d183 rfl ?_
              exact ih (i + 1) (by omega) _ (nI_1 i) _ (gb_n ha (fun z => z.2.2.2.elim h48 h59))
            · refine J_b 6 am_d183 rfl ?_
              exact ih (i + 1) (by omega) _ (nI_1 i) _ (gb_p ha ⟨h21, Int32.not_lt.mp h32, h43, .inr h59⟩)
theorem sp183 {X : am_X} {M : am_M} {N : am_N} {c nm as but : Int32} {F : Nat} (eF : M 120 44 = nI F) (hF : F ≤ 16) : am_J X (am_eq (some (.int (c_gb (M 158) (M 160) (M 155) c nm as but F))) (M) N) 183 0 (am_en 183 [.ref 120, .int c, .int nm, .int as, .int but]) [] M N := by
  refine J_en (L := [.ref 120, .int c, .int nm, .int as, .int but, .retAddr 0, .retAddr 0]) rfl ?_
  refine J_b 4 am_d183 rfl ?_
  exact lp183 eF hF F 0 (Nat.zero_add _) _ rfl _ rfl
