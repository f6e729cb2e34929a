/-! ===== fitting: the class's tables ===== -/
theorem sh80 : ∀ a, a < 27 → am_SH[80 + a]? = some (.inl (0, 30)) := by
  intro a ha
  match a, ha with
  | 0, _ => rfl
  | 1, _ => rfl
  | 2, _ => rfl
  | 3, _ => rfl
  | 4, _ => rfl
  | 5, _ => rfl
  | 6, _ => rfl
  | 7, _ => rfl
  | 8, _ => rfl
  | 9, _ => rfl
  | 10, _ => rfl
  | 11, _ => rfl
  | 12, _ => rfl
  | 13, _ => rfl
  | 14, _ => rfl
  | 15, _ => rfl
  | 16, _ => rfl
  | 17, _ => rfl
  | 18, _ => rfl
  | 19, _ => rfl
  | 20, _ => rfl
  | 21, _ => rfl
  | 22, _ => rfl
  | 23, _ => rfl
  | 24, _ => rfl
  | 25, _ => rfl
  | 26, _ => rfl
  | (n + 27), h => exact absurd h (by omega)
/-- find f is got by a cast, at slot s -/
def gp (M : am_M) (S f s : Nat) : Prop := 0 ≤ g_of M S f ∧ 6 * (g_of M S f).toNatClampNeg + (M 35 f).toNatClampNeg = s
noncomputable def gr (M : am_M) (S i : Nat) : Nat → Int32 := fun s => smI (fun f => @ite _ (gp M S f s) (Classical.propDecidable _) 1 0) i
theorem gr_z {M : am_M} {S : Nat} : gr M S 0 = fun _ => 0 := rfl
theorem gr_n {M : am_M} {S i : Nat} (h : ¬ 0 ≤ g_of M S i) : gr M S (i + 1) = gr M S i := by
  funext s
  show gr M S i s + @ite _ (gp M S i s) (Classical.propDecidable _) 1 0 = gr M S i s
  rw [if_neg (fun z => h z.1)]
  exact Int32.add_zero _
theorem gr_p {M : am_M} {S i s : Nat} (h : gp M S i s) : (fun b => if b = s then gr M S i s + 1 else gr M S i b) = gr M S (i + 1) := by
  funext b
  show (if b = s then gr M S i s + 1 else gr M S i b) = gr M S i b + @ite _ (gp M S i b) (Classical.propDecidable _) 1 0
  by_cases e : b = s
  · subst e
    rw [if_pos rfl, if_pos h]
  · rw [if_neg e, if_neg (fun z => e (z.2.symm.trans h.2))]
    exact (Int32.add_zero _).symm
theorem gr_md {M M' : am_M} (h : md M M') {S i : Nat} : gr M' S i = gr M S i := by
  unfold gr gp
  rw [h.1 35 (by unfold rg_r sc_r; omega), show g_of M' S = g_of M S from funext fun f => g_md h]
theorem g_k {M : am_M} {S f : Nat} (hS : S ≤ 5) (h : 0 ≤ g_of M S f) : ∃ k, k < S ∧ g_of M S f = nI k := by
  unfold g_of at h ⊢
  split at h
  · rename_i hc
    rw [if_pos hc]
    exact b_nn hS h
  · exact absurd h (by decide)
theorem slot {c n : Nat} : nI c * 6 + nI n = nI (6 * c + n) := by
  rw [show (6 : Int32) = nI 6 from rfl, nI_mul, nI_add, Nat.mul_comm]
theorem lp89 {X : am_X} {M : am_M} {N N0 : am_N} {c0 S F : Nat} (h : iv c0 M N0) (hk : M 52 4 = M 1 11) (eS : M 18 7 = nI S) (hS : S ≤ 5) (eF : M 32 7 = nI F) (hF : F ≤ 16) : ∀ (n i : Nat), i + n = F → ∀ (x : Int32), x = nI i → ∀ (r : Nat → Int32), r = gr M S i → ∀ (z : Value), am_J X (am_eq none (am_upR M 108 (gr M S F)) N) 89 10 [.ref 77, .int x, z] [] (am_upR M 108 r) N := by
  intro n
  induction n with
  | zero =>
    intro i hn x ex r es z
    have e : i = F := by omega
    subst ex
    have hge : M 32 7 ≤ nI i := by rw [eF, e]; exact Int32.le_refl _
    refine J_b 4 am_d89 rfl ?_
    refine J_icmp_ge 62 (am_d89 rfl) rfl (fun h18 => ?_) (fun h18 => absurd (hge) h18)
    exact J_ret (am_d89 rfl) rfl ⟨rfl, by rw [es, e], rfl⟩
  | succ n ih =>
    intro i hn x ex r es z
    subst ex
    have hlt : ¬ M 32 7 ≤ nI i := by rw [eF]; exact nI_ngt (by omega) (by omega)
    refine J_b 4 am_d89 rfl ?_
    refine J_icmp_ge 62 (am_d89 rfl) rfl (fun h18 => absurd h18 hlt) (fun h18 => ?_)
    refine J_b 3 am_d89 rfl ?_
    have qg := sp85 (X := X) (N := N) (M := am_upR M 108 r) (iv_s0 h (sc_uR (by unfold sc_r; omega) (by decide)) (N' := N0)) hk (show i < 16 by omega) (show (i : Int) < (M 32 7).toInt by rw [eF, nI_i (by omega)]; omega) eS hS
    rw [g_md (md_sc (sc_uR (by unfold sc_r; omega) (by decide)))] at qg
    refine J_V1s 85 (am_d89 rfl) rfl rfl qg ?_
    refine J_b 2 am_d89 rfl ?_
    refine J_if_lt 56 (am_d89 rfl) rfl (fun h31 => ?_) (fun h31 => ?_)
    · refine J_b 2 am_d89 rfl ?_
      refine ih (i + 1) (by omega) _ (nI_1 i) _ ?_ _
      rw [es, gr_n (Int32.not_le.mpr h31)]
    · obtain ⟨k, hkS, ek⟩ := g_k hS (Int32.not_lt.mp h31)
      have bn := h.1.2.2.2.2.2.1 i
      unfold b_in at bn
      have in5 := I_cl bn.1
      have en := I_nI bn.1
      generalize hnm : (M 35 i).toNatClampNeg = nm at en in5
      have hgp : gp M S i (6 * k + nm) := ⟨Int32.not_lt.mp h31, by rw [ek, nI_c (by omega), hnm]⟩
      rw [ek]
      refine J_b 7 am_d89 rfl ?_
      refine J_iald (am_d89 rfl) rfl (vp_in_nI (show i < 16 by omega) (by decide)) ?_
      rw [nI_c (n := i) (by omega)]
      show am_J X _ 89 48 _ (.int (M 35 i) :: _) _ N
      rw [en]
      refine J_S2s 90 (am_d89 rfl) rfl rfl sp90 ?_
      rw [slot]
      refine J_b 1 am_d89 rfl ?_
      refine J_iald (am_d89 rfl) rfl (vp_in_nI (show 6 * k + nm < 30 by omega) (by decide)) ?_
      rw [nI_c (n := 6 * k + nm) (by omega)]
      show am_J X _ 89 53 _ (.int (r (6 * k + nm)) :: _) _ N
      refine J_b 2 am_d89 rfl ?_
      refine J_iast (am_d89 rfl) rfl (vp_in_nI (show 6 * k + nm < 30 by omega) (by decide)) ?_
      rw [nI_c (n := 6 * k + nm) (by omega), upR_up]
      refine J_b 2 am_d89 rfl ?_
      refine ih (i + 1) (by omega) _ (nI_1 i) _ ?_ _
      rw [es]
      exact gr_p hgp
theorem sp89 {X : am_X} {M : am_M} {N : am_N} {N0 : am_N} {c0 S F : Nat} (h : iv c0 M N0) (hk : M 52 4 = M 1 11) (eS : M 18 7 = nI S) (hS : S ≤ 5) (eF : M 32 7 = nI F) (hF : F ≤ 16) : am_J X (am_eq (none) (am_upR M 108 (gr M S F)) N) 89 0 (am_en 89 [.ref 77]) [] M N := by
  refine J_en (L := [.ref 77, .retAddr 0, .retAddr 0]) rfl ?_
  refine J_b 3 am_d89 rfl ?_
  refine J_S2n 41 (am_d89 rfl) rfl rfl (sp41 (k := 108) (n := 30) (v := 0) rfl (by decide)) ?_
  refine J_b 2 am_d89 rfl ?_
  exact lp89 h hk eS hS eF hF F 0 (Nat.zero_add _) _ rfl _ gr_z.symm _
theorem sh_k : ∀ a : Fin 27, (nI a.val / (Int8.ofInt 9).toInt32 - Int32.ofInt 1 = c_sh a.val 0) ∧ (nI a.val / Int32.ofInt 3 - nI a.val / Int32.ofInt 3 / Int32.ofInt 3 * Int32.ofInt 3 - Int32.ofInt 1 = c_sh a.val 1) ∧ (nI a.val - nI a.val / Int32.ofInt 3 * Int32.ofInt 3 - Int32.ofInt 1 = c_sh a.val 2) ∧ (∀ r : Fin 3, -1 ≤ (c_sh a.val r.val).toInt ∧ (c_sh a.val r.val).toInt ≤ 1) := by
  decide +kernel
theorem sh_b {a : Nat} (ha : a < 27) : ∀ r, b_in (c_sh a r) (-1) 1 := by
  intro r
  have h := (sh_k ⟨a, ha⟩).2.2.2
  match r with
  | 0 => exact h ⟨0, by decide⟩
  | 1 => exact h ⟨1, by decide⟩
  | (n + 2) => exact h ⟨2, by decide⟩
theorem sp92_0 {X : am_X} {M : am_M} {N : am_N} {a : Nat} (ha : a < 27) : am_J X (am_eq (some (.int (c_sh a 0))) M N) 92 0 (am_en 92 [.int (nI a), .int (nI 0)]) [] M N := by
  refine J_en (L := [.int (nI a), .int (nI 0)]) rfl ?_
  refine J_b 1 am_d92 rfl ?_
  refine J_ls 28 (am_d92 rfl) rfl rfl rfl ?_
  refine J_b 5 am_d92 rfl ?_
  exact J_iret (am_d92 rfl) rfl rfl ⟨congrArg (fun z => some (Value.int z)) (sh_k ⟨a, ha⟩).1, rfl, rfl⟩
theorem sp92_1 {X : am_X} {M : am_M} {N : am_N} {a : Nat} (ha : a < 27) : am_J X (am_eq (some (.int (c_sh a 1))) M N) 92 0 (am_en 92 [.int (nI a), .int (nI 1)]) [] M N := by
  refine J_en (L := [.int (nI a), .int (nI 1)]) rfl ?_
  refine J_b 1 am_d92 rfl ?_
  refine J_ls 35 (am_d92 rfl) rfl rfl rfl ?_
  refine J_b 7 am_d92 rfl ?_
  exact J_iret (am_d92 rfl) rfl rfl ⟨congrArg (fun z => some (Value.int z)) (sh_k ⟨a, ha⟩).2.1, rfl, rfl⟩
theorem sp92_2 {X : am_X} {M : am_M} {N : am_N} {a : Nat} (ha : a < 27) : am_J X (am_eq (some (.int (c_sh a 2))) M N) 92 0 (am_en 92 [.int (nI a), .int (nI 2)]) [] M N := by
  refine J_en (L := [.int (nI a), .int (nI 2)]) rfl ?_
  refine J_b 1 am_d92 rfl ?_
  refine J_ls 43 (am_d92 rfl) rfl rfl rfl ?_
  refine J_b 5 am_d92 rfl ?_
  exact J_iret (am_d92 rfl) rfl rfl ⟨congrArg (fun z => some (Value.int z)) (sh_k ⟨a, ha⟩).2.2.1, rfl, rfl⟩
theorem sp92 {X : am_X} {M : am_M} {N : am_N} {a r : Nat} (ha : a < 27) (hr : r < 3) : am_J X (am_eq (some (.int (c_sh a r))) M N) 92 0 (am_en 92 [.int (nI a), .int (nI r)]) [] M N := by
  match r, hr with
  | 0, _ => exact sp92_0 ha
  | 1, _ => exact sp92_1 ha
  | 2, _ => exact sp92_2 ha
  | (n + 3), z => exact absurd z (by omega)
theorem sp39_78 {X : am_X} {M : am_M} {N : am_N} {c : Nat} (hc : c < 5) (hcb : iv_cb M) : am_J X (am_eq (none) (dr_D M 40 (M 19 c) (M 22 c) (M 25 c) 0 (M 40 10) (M 40 11) (M 78) (c_s0 (M 23 c).toNatClampNeg (M 42))) N) 39 0 (am_en 39 [.ref 40, .ref 18, .int (nI c), .ref 78]) [] (M) N := by
  have hp60 : (M 23 c).toNatClampNeg < 60 := by have := hcb.2.2.2.2.2.1 c; unfold b_in at this; have := I_cl this.1; omega
  refine J_en (L := [.ref 40, .ref 18, .int (nI c), .ref 78]) rfl ?_
  refine J_b 4 am_d39 rfl ?_
  refine J_iald (am_d39 rfl) rfl (vp_in_nI hc (by decide)) ?_
  rw [nI_c (n := c) (by omega)]
  show am_J X _ 39 7 _ (.int (M 19 c) :: _) _ N
  refine J_b 3 am_d39 rfl ?_
  refine J_iald (am_d39 rfl) rfl (vp_in_nI hc (by decide)) ?_
  rw [nI_c (n := c) (by omega)]
  show am_J X _ 39 13 _ (.int (M 22 c) :: _) _ N
  refine J_b 3 am_d39 rfl ?_
  refine J_iald (am_d39 rfl) rfl (vp_in_nI hc (by decide)) ?_
  rw [nI_c (n := c) (by omega)]
  show am_J X _ 39 19 _ (.int (M 23 c) :: _) _ N
  refine J_b 3 am_d39 rfl ?_
  refine J_iald (am_d39 rfl) rfl (vp_in_nI hc (by decide)) ?_
  rw [nI_c (n := c) (by omega)]
  show am_J X _ 39 25 _ (.int (M 25 c) :: _) _ N
  refine J_b 1 am_d39 rfl ?_
  rw [show M 23 c = nI (M 23 c).toNatClampNeg from I_nI (hcb.2.2.2.2.2.1 c).1]
  refine J_V5n 40 (am_d39 rfl) rfl rfl (sp40_40_78 hp60) ?_
  exact J_ret (am_d39 rfl) rfl ⟨rfl, by rw [nI_c (by omega)], rfl⟩
theorem T_78 {M : am_M} {c : Nat} {s0 : am_M} (hcb : iv_cb M) : dr_D M 40 (M 19 c) (M 22 c) (M 25 c) 0 (M 40 10) (M 40 11) (M 78) s0 = dr_T M 40 (M 19 c) (M 22 c).toNatClampNeg (M 25 c) (M 40 10) (M 40 11) (M 78) s0 0 := by
  unfold dr_T
  rw [← I_nI (hcb.2.2.2.2.1 c).1]
  rfl
/-- while what is due is told for shifts a -/
def fo (a : Nat) (M M1 : am_M) : Prop := ∀ r, ¬ (40 ≤ r ∧ r ≤ 45) → r ≠ 78 → r ≠ 80 + a → M1 r = M r
theorem fo_md {a : Nat} {M M1 : am_M} (ha : a < 27) (h : fo a M M1) : md M M1 := by
  have e : M1 120 = M 120 := h 120 (by omega) (by omega) (by omega)
  exact ⟨fun r hr => h r (by have := hr.1.2.1; omega) hr.1.2.2.2.2.1 (by have := hr.2.2; omega), by rw [e], by rw [e], by rw [e], by rw [e], by rw [e], by rw [e]⟩
theorem fo_0 {a : Nat} {M : am_M} : fo a M M := fun _ _ _ _ => rfl
theorem fo_D {a : Nat} {M M1 : am_M} {kd sk e0 n0 : Int32} {sh : Nat → Int32} {s0 : am_M} {mo t : Nat} (h : fo a M M1) : fo a M (dr_T M1 40 kd mo sk e0 n0 sh s0 t) := fun r h1 h2 h3 => (D_n (by omega)).trans (h r h1 h2 h3)
theorem fo_up {a i : Nat} {x : Int32} {M M1 : am_M} (h : fo a M M1) : fo a M (am_up M1 (80 + a) i x) := fun r h1 h2 h3 => (up_n h3).trans (h r h1 h2 h3)
/-- what is due of the first i casts, and of cast i in the first j names -/
def du (M : am_M) (a P : Nat) (M1 : am_M) (i j : Nat) : Prop := ∀ d n, n < P → (d < i ∨ (d = i ∧ n < j)) → M1 (80 + a) (6 * d + n) = c_du (sC M) M (c_sh a) d n
theorem lp91n {X : am_X} {Q : am_Q} {M : am_M} {N N0 : am_N} {c0 a c P : Nat} {fdv : Nat → Int32} (h : iv c0 M N0) (ha : a < 27) (hc5 : c < 5) (eP : M 26 5 = nI P) (hP : P ≤ 6) (hfd : fdv = c_cf (sC M) M (c_sh a) c) (kk : ∀ x z M1, fo a M M1 → M1 78 = c_sh a → du M a P M1 (c + 1) 0 → am_J X Q 91 146 [.ref 77, .int (nI a), .int (nI c), .int x, z] [] M1 N) : ∀ (n i : Nat), i + n = P → ∀ (x : Int32), x = nI i → ∀ (M1 : am_M), fo a M M1 → M1 78 = c_sh a → M1 44 = fdv → du M a P M1 c i → ∀ (z : Value), am_J X Q 91 81 [.ref 77, .int (nI a), .int (nI c), .int x, z] [] M1 N := by
  intro n
  induction n with
  | zero =>
    intro i hn x ex M1 hf h78 h44 hdu z
    subst ex
    have hge : M1 26 5 ≤ nI i := by rw [hf 26 (by omega) (by omega) (by omega), eP, show i = P by omega]; exact Int32.le_refl _
    refine J_b 4 am_d91 rfl ?_
    refine J_icmp_ge 146 (am_d91 rfl) rfl (fun h89 => ?_) (fun h89 => absurd (hge) h89)
    exact kk _ _ _ hf h78 (fun d n hn2 hd => hdu d n hn2 (by omega))
  | succ n ih =>
    intro i hn x ex M1 hf h78 h44 hdu z
    subst ex
    have hlt : ¬ M1 26 5 ≤ nI i := by rw [hf 26 (by omega) (by omega) (by omega), eP]; exact nI_ngt (by omega) (by omega)
    obtain ⟨x0, x1, y0, y1, ⟨e27, e28, e29, e30⟩, k1, k2, k3, k4⟩ := nb_e h.1.2.2.1.2 i
    refine J_b 4 am_d91 rfl ?_
    refine J_icmp_ge 146 (am_d91 rfl) rfl (fun h89 => absurd h89 hlt) (fun h89 => ?_)
    refine J_b 8 am_d91 rfl ?_
    have hfw := sp72 (X := X) (N := N) (M := M1) (k := 44) (nm := i) (a4 := 0) (b4 := 11) rfl (by omega) ((congrFun (hf 27 (by omega) (by omega) (by omega)) i).trans e27) ((congrFun (hf 28 (by omega) (by omega) (by omega)) i).trans e28) ((congrFun (hf 29 (by omega) (by omega) (by omega)) i).trans e29) ((congrFun (hf 30 (by omega) (by omega) (by omega)) i).trans e30) k1 k2 k3 k4
    rw [h44, hfd] at hfw
    refine J_V4s 72 (am_d91 rfl) rfl rfl hfw ?_
    refine J_b 4 am_d91 rfl ?_
    refine J_aaldk (80 + a) (am_d91 rfl) rfl (vp_in_nI ha (by decide)) (by rw [nI_c (by omega)]) ?_
    refine J_b 2 am_d91 rfl ?_
    refine J_S2s 90 (am_d91 rfl) rfl rfl sp90 ?_
    rw [slot]
    refine J_b 5 am_d91 rfl ?_
    refine J_iald (am_d91 rfl) rfl (vp_in_nI hc5 (by decide)) ?_
    rw [nI_c (n := c) (by omega), hf 21 (by omega) (by omega) (by omega)]
    refine J_b 3 am_d91 rfl ?_
    show am_J X _ 91 139 _ (.int (c_fw (c_cf (sC M) M (c_sh a) c) (nI x0) (nI x1) (nI y0) (nI y1) 0 11 * M 21 c / 1000) :: .int (nI (6 * c + i)) :: _) _ N
    refine J_iast (am_d91 rfl) (sh80 a ha) (vp_in_nI (show 6 * c + i < 30 by omega) (by decide)) ?_
    rw [nI_c (n := 6 * c + i) (by omega)]
    refine J_b 2 am_d91 rfl ?_
    refine ih (i + 1) (by omega) _ (nI_1 i) _ (fo_up hf) (by rw [up_n (by omega)]; exact h78) (by rw [up_n (by omega)]; exact h44) (fun d n hn2 hd => ?_) _
    by_cases e : d = c ∧ n = i
    · obtain ⟨rfl, rfl⟩ := e
      rw [up_r]
      unfold c_du
      rw [e27, e28, e29, e30]
    · rw [show am_up M1 (80 + a) (6 * c + i) (c_fw (c_cf (sC M) M (c_sh a) c) (nI x0) (nI x1) (nI y0) (nI y1) 0 11 * M 21 c / 1000) (80 + a) (6 * d + n) = M1 (80 + a) (6 * d + n) from by rw [up_k]; exact if_neg (by omega)]
      exact hdu d n hn2 (by omega)
