/-! ===== cards that fit ===== -/
theorem nI_4 {i : Nat} (h : i < 4) : ¬ (4 : Int32) ≤ nI i := by
  rw [show (4 : Int32) = nI 4 from rfl, Int32.le_iff_toInt_le, nI_i (by omega), nI_i (by omega)]
  omega
def c_aP (row v : Int32) (i : Nat) : Prop := c_dg row i = 10 ∨ c_dg row i = c_rest v i - c_rest v i / 10 * 10
theorem lp35 {X : am_X} {M : am_M} {N : am_N} {row v : Int32} : ∀ (n i : Nat), i + n = 4 → ∀ (x : Int32), x = nI i → ∀ (rest : Int32), rest = c_rest v i → ∀ (z : Value), (∀ k, k < i → c_aP row v k) → am_J X (am_eq (some (.int (am_bi (c_ag row v 4)))) M N) 35 4 [.int row, .int v, .int rest, .int x, z] [] M N := by
  intro n
  induction n with
  | zero =>
    intro i hn x ex rest er z ha
    have e : i = 4 := by omega
    subst e
    subst ex
    refine J_b 2 am_d35 rfl ?_
    refine J_icmp_ge 45 (am_d35 rfl) rfl (fun h6 => ?_) (fun h6 => absurd (Int32.le_refl _) h6)
    refine J_b 1 am_d35 rfl ?_
    exact J_iret (am_d35 rfl) rfl rfl ⟨congrArg (fun z => some (Value.int z)) (if_pos ha).symm, rfl, rfl⟩
  | succ n ih =>
    intro i hn x ex rest er z ha
    have hi : i < 4 := by omega
    subst ex
    refine J_b 2 am_d35 rfl ?_
    refine J_icmp_ge 45 (am_d35 rfl) rfl (fun h6 => absurd h6 (nI_4 hi)) (fun h6 => ?_)
    refine J_b 2 am_d35 rfl ?_
    refine J_S2s 36 (am_d35 rfl) rfl rfl (sp36) ?_
    refine J_b 3 am_d35 rfl ?_
    refine J_icmp_eq 34 (am_d35 rfl) rfl (fun h20 => ?_) (fun h20 => ?_)
    · refine J_b 6 am_d35 rfl ?_
      refine ih (i + 1) (by omega) _ (nI_1 i) _ (by rw [er]; rfl) _ (fun k hk => ?_)
      by_cases e : k = i
      · subst e
        exact .inl h20
      · exact ha k (by omega)
    · refine J_b 4 am_d35 rfl ?_
      refine J_icmp_eq 34 (am_d35 rfl) rfl (fun h29 => ?_) (fun h29 => ?_)
      · refine J_b 6 am_d35 rfl ?_
        refine ih (i + 1) (by omega) _ (nI_1 i) _ (by rw [er]; rfl) _ (fun k hk => ?_)
        by_cases e : k = i
        · subst e
          exact .inr (by rw [er] at h29; exact h29)
        · exact ha k (by omega)
      · refine J_b 1 am_d35 rfl ?_
        exact J_iret (am_d35 rfl) rfl rfl ⟨congrArg (fun z => some (Value.int z)) (if_neg (fun z => (z i hi).elim (fun z => h20 z) (fun z => h29 (by rw [er]; exact z)))).symm, rfl, rfl⟩
theorem sp35 {X : am_X} {M : am_M} {N : am_N} {row v : Int32} : am_J X (am_eq (some (.int (am_bi (c_ag row v 4)))) (M) N) 35 0 (am_en 35 [.int row, .int v]) [] M N := by
  refine J_en (L := [.int row, .int v, .retAddr 0, .retAddr 0, .retAddr 0]) rfl ?_
  refine J_b 4 am_d35 rfl ?_
  exact lp35 4 0 rfl _ rfl _ rfl _ (fun k hk => absurd hk (by omega))
theorem lp34 {X : am_X} {M : am_M} {N : am_N} {f c K : Nat} (hf : f < 16) (hc : c < 5) (hK : K ≤ 1000) (ek : M 21 c = nI K) : ∀ (n i : Nat), i + n = K → ∀ (x : Int32), x = nI i → ∀ (a : Int32), a = smI (fun i => am_bi (c_ag (M 33 f) (M 20 c + nI i) 4)) i → am_J X (am_eq (some (.int (smI (fun i => am_bi (c_ag (M 33 f) (M 20 c + nI i) 4)) K))) M N) 34 28 [.ref 59, .int (nI f), .int (nI c), .int a, .int x] [] M N := by
  intro n
  induction n with
  | zero =>
    intro i hn x ex a ea
    have e : i = K := by omega
    subst e
    subst ex
    refine J_b 5 am_d34 rfl ?_
    refine J_iald (am_d34 rfl) rfl (vp_in_nI hc (by decide)) ?_
    rw [nI_c (n := c) (by omega)]
    show am_J X _ 34 39 _ (.int (M 21 c) :: _) _ N
    rw [ek]
    refine J_icmp_ge 78 (am_d34 rfl) rfl (fun h39 => ?_) (fun h39 => absurd (Int32.le_refl _) h39)
    refine J_b 1 am_d34 rfl ?_
    exact J_iret (am_d34 rfl) rfl rfl ⟨by rw [ea], rfl, rfl⟩
  | succ n ih =>
    intro i hn x ex a ea
    subst ex
    refine J_b 5 am_d34 rfl ?_
    refine J_iald (am_d34 rfl) rfl (vp_in_nI hc (by decide)) ?_
    rw [nI_c (n := c) (by omega)]
    show am_J X _ 34 39 _ (.int (M 21 c) :: _) _ N
    rw [ek]
    refine J_icmp_ge 78 (am_d34 rfl) rfl (fun h39 => absurd h39 (nI_ngt (by omega) (by omega))) (fun h39 => ?_)
    refine J_b 4 am_d34 rfl ?_
    refine J_iald (am_d34 rfl) rfl (vp_in_nI hf (by decide)) ?_
    rw [nI_c (n := f) (by omega)]
    show am_J X _ 34 51 _ (.int (M 33 f) :: _) _ N
    refine J_b 4 am_d34 rfl ?_
    refine J_iald (am_d34 rfl) rfl (vp_in_nI hc (by decide)) ?_
    rw [nI_c (n := c) (by omega)]
    show am_J X _ 34 60 _ (.int (M 20 c) :: _) _ N
    refine J_b 2 am_d34 rfl ?_
    refine J_S2s 35 (am_d34 rfl) rfl rfl (sp35) ?_
    refine J_if_eq 72 (am_d34 rfl) rfl (fun h66 => ?_) (fun h66 => ?_)
    · refine J_b 2 am_d34 rfl ?_
      exact ih (i + 1) (by omega) _ (nI_1 i) _ (by rw [ea]; exact ((congrArg (smI (fun i => am_bi (c_ag (M 33 f) (M 20 c + nI i) 4)) i + ·) (if_neg (am_bi0.mp h66))).trans (Int32.add_zero _)).symm)
    · refine J_b 3 am_d34 rfl ?_
      exact ih (i + 1) (by omega) _ (nI_1 i) _ (by rw [ea]; exact congrArg (smI (fun i => am_bi (c_ag (M 33 f) (M 20 c + nI i) 4)) i + ·) (if_pos (am_bi1.mp h66)).symm)
theorem sp34 {X : am_X} {M : am_M} {N : am_N} {f c : Nat} (hf : f < 16) (hc : c < 5) (hmn : b_in (M 21 c) 0 1000) : am_J X (am_eq (some (.int (c_cd M f c))) (M) N) 34 0 (am_en 34 [.ref 59, .int (nI f), .int (nI c)]) [] M N := by
  have hb := I_cl hmn.1
  have ek : M 21 c = nI (M 21 c).toNatClampNeg := I_nI hmn.1
  have hK : (M 21 c).toNatClampNeg ≤ 1000 := by have := hmn.2; omega
  refine J_en (L := [.ref 59, .int (nI f), .int (nI c), .retAddr 0, .retAddr 0]) rfl ?_
  refine J_b 4 am_d34 rfl ?_
  refine J_iald (am_d34 rfl) rfl (vp_in_nI hf (by decide)) ?_
  rw [nI_c (n := f) (by omega)]
  show am_J X _ 34 9 _ (.int (M 34 f) :: _) _ N
  refine J_b 4 am_d34 rfl ?_
  refine J_iald (am_d34 rfl) rfl (vp_in_nI hc (by decide)) ?_
  rw [nI_c (n := c) (by omega)]
  show am_J X _ 34 18 _ (.int (M 24 c) :: _) _ N
  refine J_icmp_eq 23 (am_d34 rfl) rfl (fun h18 => ?_) (fun h18 => ?_)
  · refine J_b 4 am_d34 rfl ?_
    unfold c_cd c_cards
    rw [if_pos h18]
    exact lp34 hf hc hK ek _ 0 (Nat.zero_add _) _ rfl _ rfl
  · refine J_b 1 am_d34 rfl ?_
    exact J_iret (am_d34 rfl) rfl rfl ⟨by unfold c_cd c_cards; rw [if_neg h18]; rfl, rfl, rfl⟩
theorem and_1 {g : Int32} {i : Nat} {P : Nat → Prop} (h : ¬ g = 0) (hg : (g = 1 ∧ ∀ k, k < i → P k) ∨ (g = 0 ∧ ∃ k, k < i ∧ ¬ P k)) (hi : P i) : ((1 : Int32) = 1 ∧ ∀ k, k < i + 1 → P k) ∨ ((1 : Int32) = 0 ∧ ∃ k, k < i + 1 ∧ ¬ P k) := by
  refine .inl ⟨rfl, fun j hj => ?_⟩
  rcases hg with ⟨_, hg⟩ | ⟨hg, _⟩
  · by_cases hji : j = i
    · subst hji
      exact hi
    · exact hg j (by omega)
  · exact absurd hg h
theorem and_0 {g : Int32} {i : Nat} {P : Nat → Prop} (h : g = 0) (hg : (g = 1 ∧ ∀ k, k < i → P k) ∨ (g = 0 ∧ ∃ k, k < i ∧ ¬ P k)) : ((0 : Int32) = 1 ∧ ∀ k, k < i + 1 → P k) ∨ ((0 : Int32) = 0 ∧ ∃ k, k < i + 1 ∧ ¬ P k) := by
  refine .inr ⟨rfl, ?_⟩
  rcases hg with ⟨hg, _⟩ | ⟨_, j, hj, hp⟩
  · rw [h] at hg
    exact absurd hg (by decide)
  · exact ⟨j, by omega, hp⟩
theorem and_e {g : Int32} {n : Nat} {P : Nat → Prop} (hg : (g = 1 ∧ ∀ k, k < n → P k) ∨ (g = 0 ∧ ∃ k, k < n ∧ ¬ P k)) : (¬ g = 0 → ∀ k, k < n → P k) ∧ (g = 0 → ¬ ∀ k, k < n → P k) := by
  rcases hg with ⟨h1, h2⟩ | ⟨h1, k, hk, hp⟩
  · exact ⟨fun _ => h2, fun z => by rw [z] at h1; exact absurd h1 (by decide)⟩
  · exact ⟨fun z => absurd h1 z, fun _ z => hp (z k hk)⟩
theorem lp171i {X : am_X} {Q : am_Q} {M : am_M} {N : am_N} {f c : Nat} {a v : Int32} (hf : f < 16) (kk : ∀ g rest x z8, ((g = 1 ∧ ∀ k, k < 4 → c_aP (M 153 f) v k) ∨ (g = 0 ∧ ∃ k, k < 4 ∧ ¬ c_aP (M 153 f) v k)) → am_J X Q 171 119 [.ref 120, .int (nI f), .int (nI c), .int a, .int v, .int rest, .int g, .int x, z8] [] M N) : ∀ (n i : Nat), i + n = 4 → ∀ (x : Int32), x = nI i → ∀ (rest : Int32), rest = c_rest v i → ∀ (g : Int32), ((g = 1 ∧ ∀ k, k < i → c_aP (M 153 f) v k) ∨ (g = 0 ∧ ∃ k, k < i ∧ ¬ c_aP (M 153 f) v k)) → ∀ (z8 : Value), am_J X Q 171 55 [.ref 120, .int (nI f), .int (nI c), .int a, .int v, .int rest, .int g, .int x, z8] [] M N := by
  intro n
  induction n with
  | zero =>
    intro i hn x ex rest er g hg z8
    have e : i = 4 := by omega
    subst e
    subst ex
    refine J_b 2 am_d171 rfl ?_
    refine J_icmp_ge 119 (am_d171 rfl) rfl (fun h58 => ?_) (fun h58 => absurd (Int32.le_refl _) h58)
    exact kk _ _ _ _ hg
  | succ n ih =>
    intro i hn x ex rest er g hg z8
    have hi : i < 4 := by omega
    subst ex
    refine J_b 2 am_d171 rfl ?_
    refine J_icmp_ge 119 (am_d171 rfl) rfl (fun h58 => absurd h58 (nI_4 hi)) (fun h58 => ?_)
    refine J_b 3 am_d171 rfl ?_
    refine J_iald (am_d171 rfl) rfl (vp_in_nI hf (by decide)) ?_
    rw [nI_c (n := f) (by omega)]
    show am_J X _ 171 67 _ (.int (M 153 f) :: _) _ N
    refine J_b 8 am_d171 rfl ?_
    refine J_if_eq 103 (am_d171 rfl) rfl (fun h79 => ?_) (fun h79 => ?_)
    · refine J_b 8 am_d171 rfl ?_
      exact ih (i + 1) (by omega) _ (nI_1 i) _ (by rw [er]; rfl) _ (and_0 h79 hg) _
    · refine J_b 2 am_d171 rfl ?_
      refine J_icmp_eq 99 (am_d171 rfl) rfl (fun h86 => ?_) (fun h86 => ?_)
      · refine J_b 9 am_d171 rfl ?_
        exact ih (i + 1) (by omega) _ (nI_1 i) _ (by rw [er]; rfl) _ (and_1 h79 hg (.inl h86)) _
      · refine J_b 4 am_d171 rfl ?_
        refine J_icmp_ne 103 (am_d171 rfl) rfl (fun h96 => ?_) (fun h96 => ?_)
        · refine J_b 8 am_d171 rfl ?_
          exact ih (i + 1) (by omega) _ (nI_1 i) _ (by rw [er]; rfl) _ (.inr ⟨rfl, i, by omega, fun z => z.elim h86 (fun z => h96 (by rw [er]; exact z))⟩) _
        · refine J_b 9 am_d171 rfl ?_
          exact ih (i + 1) (by omega) _ (nI_1 i) _ (by rw [er]; rfl) _ (and_1 h79 hg (.inr (by rw [er] at h96; exact h96))) _
theorem lp171 {X : am_X} {M : am_M} {N : am_N} {f c K : Nat} (hf : f < 16) (hc : c < 5) (hK : K ≤ 1000) (ek : M 138 c = nI K) (hfi : b_in (M 137 c) 0 9999) : ∀ (n i : Nat), i + n = K → ∀ (v : Int32), v = M 137 c + nI i → ∀ (a : Int32), a = smI (fun i => am_bi (c_ag (M 153 f) (M 137 c + nI i) 4)) i → ∀ (z5 z6 z7 z8 : Value), am_J X (am_eq (some (.int (smI (fun i => am_bi (c_ag (M 153 f) (M 137 c + nI i) 4)) K))) M N) 171 27 [.ref 120, .int (nI f), .int (nI c), .int a, .int v, z5, z6, z7, z8] [] M N := by
  intro n
  induction n with
  | zero =>
    intro i hn v ex a ea z5 z6 z7 z8
    have e : i = K := by omega
    subst e
    subst ex
    refine J_b 4 am_d171 rfl ?_
    refine J_iald (am_d171 rfl) rfl (vp_in_nI hc (by decide)) ?_
    rw [nI_c (n := c) (by omega)]
    show am_J X _ 171 35 _ (.int (M 137 c) :: _) _ N
    refine J_b 3 am_d171 rfl ?_
    refine J_iald (am_d171 rfl) rfl (vp_in_nI hc (by decide)) ?_
    rw [nI_c (n := c) (by omega)]
    show am_J X _ 171 41 _ (.int (M 138 c) :: _) _ N
    rw [ek]
    refine J_b 1 am_d171 rfl ?_
    refine J_icmp_ge 138 (am_d171 rfl) rfl (fun h42 => ?_) (fun h42 => absurd (Int32.le_refl _) h42)
    refine J_b 1 am_d171 rfl ?_
    exact J_iret (am_d171 rfl) rfl rfl ⟨by rw [ea], rfl, rfl⟩
  | succ n ih =>
    intro i hn v ex a ea z5 z6 z7 z8
    subst ex
    have hlt : ¬ M 137 c + nI K ≤ M 137 c + nI i := by
      unfold b_in at hfi
      have i1 := nI_i (n := K) (by omega)
      have i2 := nI_i (n := i) (by omega)
      rw [Int32.le_iff_toInt_le, I_add (by omega), I_add (by omega), i1, i2]
      omega
    refine J_b 4 am_d171 rfl ?_
    refine J_iald (am_d171 rfl) rfl (vp_in_nI hc (by decide)) ?_
    rw [nI_c (n := c) (by omega)]
    show am_J X _ 171 35 _ (.int (M 137 c) :: _) _ N
    refine J_b 3 am_d171 rfl ?_
    refine J_iald (am_d171 rfl) rfl (vp_in_nI hc (by decide)) ?_
    rw [nI_c (n := c) (by omega)]
    show am_J X _ 171 41 _ (.int (M 138 c) :: _) _ N
    rw [ek]
    refine J_b 1 am_d171 rfl ?_
    refine J_icmp_ge 138 (am_d171 rfl) rfl (fun h42 => absurd h42 hlt) (fun h42 => ?_)
    refine J_b 6 am_d171 rfl ?_
    refine lp171i hf (fun g rest x z8 hg => ?_) 4 0 rfl _ rfl _ rfl _ (.inl ⟨rfl, fun k hk => absurd hk (by omega)⟩) _
    refine J_b 2 am_d171 rfl ?_
    refine J_if_eq 129 (am_d171 rfl) rfl (fun h122 => ?_) (fun h122 => ?_)
    · refine J_b 5 am_d171 rfl ?_
      refine ih (i + 1) (by omega) _ ?_ _ (by rw [ea]; exact congrArg (smI (fun i => am_bi (c_ag (M 153 f) (M 137 c + nI i) 4)) i + ·) (if_neg ((and_e hg).2 h122)).symm) _ _ _ _
      rw [← nI_1 i, ← Int32.add_assoc]
      rfl
    · refine J_b 6 am_d171 rfl ?_
      refine ih (i + 1) (by omega) _ ?_ _ (by rw [ea]; exact congrArg (smI (fun i => am_bi (c_ag (M 153 f) (M 137 c + nI i) 4)) i + ·) (if_pos ((and_e hg).1 h122)).symm) _ _ _ _
      rw [← nI_1 i, ← Int32.add_assoc]
      rfl
theorem sp171 {X : am_X} {M : am_M} {N : am_N} {f c : Nat} (hf : f < 16) (hc : c < 5) (hmn : b_in (M 138 c) 0 1000) (hfi : b_in (M 137 c) 0 9999) : am_J X (am_eq (some (.int (c_cards (M 153 f) (M 154 f) (M 141 c) (M 137 c) (M 138 c)))) (M) N) 171 0 (am_en 171 [.ref 120, .int (nI f), .int (nI c)]) [] M N := by
  have hb := I_cl hmn.1
  have ek : M 138 c = nI (M 138 c).toNatClampNeg := I_nI hmn.1
  have hK : (M 138 c).toNatClampNeg ≤ 1000 := by have := hmn.2; omega
  refine J_en (L := [.ref 120, .int (nI f), .int (nI c), .retAddr 0, .retAddr 0, .retAddr 0, .retAddr 0, .retAddr 0, .retAddr 0]) rfl ?_
  refine J_b 3 am_d171 rfl ?_
  refine J_iald (am_d171 rfl) rfl (vp_in_nI hf (by decide)) ?_
  rw [nI_c (n := f) (by omega)]
  show am_J X _ 171 6 _ (.int (M 154 f) :: _) _ N
  refine J_b 3 am_d171 rfl ?_
  refine J_iald (am_d171 rfl) rfl (vp_in_nI hc (by decide)) ?_
  rw [nI_c (n := c) (by omega)]
  show am_J X _ 171 12 _ (.int (M 141 c) :: _) _ N
  refine J_icmp_eq 17 (am_d171 rfl) rfl (fun h12 => ?_) (fun h12 => ?_)
  · refine J_b 5 am_d171 rfl ?_
    refine J_iald (am_d171 rfl) rfl (vp_in_nI hc (by decide)) ?_
    rw [nI_c (n := c) (by omega)]
    show am_J X _ 171 25 _ (.int (M 137 c) :: _) _ N
    refine J_b 1 am_d171 rfl ?_
    unfold c_cards
    rw [if_pos h12]
    exact lp171 hf hc hK ek hfi _ 0 (Nat.zero_add _) _ (Int32.add_zero _).symm _ rfl _ _ _ _
  · refine J_b 1 am_d171 rfl ?_
    exact J_iret (am_d171 rfl) rfl rfl ⟨by unfold c_cards; rw [if_neg h12]; rfl, rfl, rfl⟩
theorem sp171i {X : am_X} {M : am_M} {N N0 : am_N} {c0 f c : Nat} (h : iv c0 M N0) (hf : f < 16) (hc : c < 5) : am_J X (am_eq (some (.int (c_cd M f c))) M N) 171 0 (am_en 171 [.ref 120, .int (nI f), .int (nI c)]) [] M N := by
  obtain ⟨⟨_, ⟨hca, hcb⟩, _, ⟨hfi, hfb⟩⟩, _⟩ := h
  obtain ⟨⟨a1, a2, a3, a4, a5, a6, a7⟩, _⟩ := hca
  obtain ⟨b0, b1, b2, b3, b4, b5, b6⟩ := hcb
  obtain ⟨⟨f1, f2, f3, f4, f5, f6, f7⟩, _⟩ := hfi
  have q := sp171 (X := X) (M := M) (N := N) hf hc (by rw [a3]; exact b3 c) (by rw [a2]; exact b2 c)
  rw [f1, f2, a6, a2, a3] at q
  exact q
