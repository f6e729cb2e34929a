/-! ===== apart: the reference, the pair ===== -/
def c_hs (M : am_M) : Nat → Int32 := fun j => if 0 < M 143 j + M 145 j then 1 else 0
theorem lp161H {X : am_X} {Q : am_Q} {M : am_M} {N : am_N} {a b t : Nat} {z5 : Value} {f : Nat → Int32} (kk : ∀ x, am_J X Q 161 83 [.ref 120, .int (nI a), .int (nI b), .int (nI t), .int x, z5] [] (am_upR M 147 (c_lt 60 (c_hs M) f)) N) : ∀ (n i : Nat), i + n = 60 → ∀ (x : Int32), x = nI i → ∀ (r : Nat → Int32), r = c_lt i (c_hs M) f → am_J X Q 161 40 [.ref 120, .int (nI a), .int (nI b), .int (nI t), .int x, z5] [] (am_upR M 147 r) N := by
  intro n
  induction n with
  | zero =>
    intro i hn x ex r es
    have e : i = 60 := by omega
    subst e
    subst ex
    refine J_b 2 am_d161 rfl ?_
    refine J_icmp_ge 83 (am_d161 rfl) rfl (fun h44 => ?_) (fun h44 => absurd (Int32.le_refl _) h44)
    rw [es]
    exact kk _
  | succ n ih =>
    intro i hn x ex r es
    have hi : i < 60 := by omega
    subst ex
    refine J_b 2 am_d161 rfl ?_
    refine J_icmp_ge 83 (am_d161 rfl) rfl (fun h44 => absurd h44 (z_l hi)) (fun h44 => ?_)
    refine J_b 6 am_d161 rfl ?_
    refine J_iald (am_d161 rfl) rfl (vp_in_nI hi (by decide)) ?_
    rw [nI_c (n := i) (by omega)]
    show am_J X _ 161 60 _ (.int (M 143 i) :: _) _ N
    refine J_b 3 am_d161 rfl ?_
    refine J_iald (am_d161 rfl) rfl (vp_in_nI hi (by decide)) ?_
    rw [nI_c (n := i) (by omega)]
    show am_J X _ 161 67 _ (.int (M 145 i) :: _) _ N
    refine J_b 1 am_d161 rfl ?_
    refine J_if_le 75 (am_d161 rfl) rfl (fun h68 => ?_) (fun h68 => ?_)
    · refine J_b 1 am_d161 rfl ?_
      refine J_zast (am_d161 rfl) rfl (vp_in_nI hi (by decide)) ?_
      rw [nI_c (n := i) (by omega), upR_up]
      refine J_b 2 am_d161 rfl ?_
      refine ih (i + 1) (by omega) _ (nI_1 i) _ ?_
      rw [es]
      exact cl_s (show vp_nar .boolean 0 = c_hs M i from (if_neg (Int32.not_lt.mpr h68)).symm)
    · refine J_b 2 am_d161 rfl ?_
      refine J_zast (am_d161 rfl) rfl (vp_in_nI hi (by decide)) ?_
      rw [nI_c (n := i) (by omega), upR_up]
      refine J_b 2 am_d161 rfl ?_
      refine ih (i + 1) (by omega) _ (nI_1 i) _ ?_
      rw [es]
      exact cl_s (show vp_nar .boolean 1 = c_hs M i from (if_pos (Int32.not_le.mp h68)).symm)
theorem one_more {g : Int32} {i : Nat} {P : Nat → Prop} (h : ¬ g = 0) (hg : (g = 1 ∧ ∀ j, j < i → ¬ P j) ∨ (g = 0 ∧ ∃ j, j < i ∧ P j)) (hi : ¬ P i) : ((1 : Int32) = 1 ∧ ∀ j, j < i + 1 → ¬ P j) ∨ ((1 : Int32) = 0 ∧ ∃ j, j < i + 1 ∧ P j) := by
  refine .inl ⟨rfl, fun j hj => ?_⟩
  rcases hg with ⟨_, hg⟩ | ⟨hg, _⟩
  · by_cases hji : j = i
    · subst hji
      exact hi
    · exact hg j (by omega)
  · exact absurd hg h
theorem one_old {g : Int32} {i : Nat} {P : Nat → Prop} (h : g = 0) (hg : (g = 1 ∧ ∀ j, j < i → ¬ P j) ∨ (g = 0 ∧ ∃ j, j < i ∧ P j)) : ((0 : Int32) = 1 ∧ ∀ j, j < i + 1 → ¬ P j) ∨ ((0 : Int32) = 0 ∧ ∃ j, j < i + 1 ∧ P j) := by
  refine .inr ⟨rfl, ?_⟩
  rcases hg with ⟨hg, _⟩ | ⟨_, j, hj, hp⟩
  · rw [h] at hg
    exact absurd hg (by decide)
  · exact ⟨j, by omega, hp⟩
theorem lp161F {X : am_X} {Q : am_Q} {M : am_M} {N : am_N} {a b t : Nat} (kk : ∀ g x, ((g = 1 ∧ ∀ j, j < 60 → ¬ (¬ M 147 j = 0 ∧ 0 < M 143 j + M 145 j)) ∨ (g = 0 ∧ ∃ j, j < 60 ∧ (¬ M 147 j = 0 ∧ 0 < M 143 j + M 145 j))) → am_J X Q 161 148 [.ref 120, .int (nI a), .int (nI b), .int (nI t), .int g, .int x] [] M N) : ∀ (n i : Nat), i + n = 60 → ∀ (x : Int32), x = nI i → ∀ (g : Int32), ((g = 1 ∧ ∀ j, j < i → ¬ (¬ M 147 j = 0 ∧ 0 < M 143 j + M 145 j)) ∨ (g = 0 ∧ ∃ j, j < i ∧ (¬ M 147 j = 0 ∧ 0 < M 143 j + M 145 j))) → am_J X Q 161 95 [.ref 120, .int (nI a), .int (nI b), .int (nI t), .int g, .int x] [] M N := by
  intro n
  induction n with
  | zero =>
    intro i hn x ex g hg
    have e : i = 60 := by omega
    subst e
    subst ex
    refine J_b 2 am_d161 rfl ?_
    refine J_icmp_ge 148 (am_d161 rfl) rfl (fun h99 => ?_) (fun h99 => absurd (Int32.le_refl _) h99)
    exact kk _ _ hg
  | succ n ih =>
    intro i hn x ex g hg
    have hi : i < 60 := by omega
    subst ex
    refine J_b 2 am_d161 rfl ?_
    refine J_icmp_ge 148 (am_d161 rfl) rfl (fun h99 => absurd h99 (z_l hi)) (fun h99 => ?_)
    refine J_b 1 am_d161 rfl ?_
    refine J_if_eq 139 (am_d161 rfl) rfl (fun h104 => ?_) (fun h104 => ?_)
    · refine J_b 4 am_d161 rfl ?_
      exact ih (i + 1) (by omega) _ (nI_1 i) _ (one_old h104 hg)
    · refine J_b 3 am_d161 rfl ?_
      refine J_zald (am_d161 rfl) rfl (vp_in_nI hi (by decide)) ?_
      rw [nI_c (n := i) (by omega)]
      refine J_if_eq 135 (am_d161 rfl) rfl (fun h114 => ?_) (fun h114 => ?_)
      · refine J_b 5 am_d161 rfl ?_
        exact ih (i + 1) (by omega) _ (nI_1 i) _ (one_more h104 hg (fun z => z.1 h114))
      · refine J_b 3 am_d161 rfl ?_
        refine J_iald (am_d161 rfl) rfl (vp_in_nI hi (by decide)) ?_
        rw [nI_c (n := i) (by omega)]
        show am_J X _ 161 124 _ (.int (M 143 i) :: _) _ N
        refine J_b 3 am_d161 rfl ?_
        refine J_iald (am_d161 rfl) rfl (vp_in_nI hi (by decide)) ?_
        rw [nI_c (n := i) (by omega)]
        show am_J X _ 161 131 _ (.int (M 145 i) :: _) _ N
        refine J_b 1 am_d161 rfl ?_
        refine J_if_gt 139 (am_d161 rfl) rfl (fun h132 => ?_) (fun h132 => ?_)
        · refine J_b 4 am_d161 rfl ?_
          exact ih (i + 1) (by omega) _ (nI_1 i) _ (.inr ⟨rfl, i, by omega, h114, h132⟩)
        · refine J_b 5 am_d161 rfl ?_
          exact ih (i + 1) (by omega) _ (nI_1 i) _ (one_more h104 hg (fun z => h132 z.2))
theorem lp161 {X : am_X} {M : am_M} {N N0 : am_N} {c0 a b : Nat} (h : iv c0 M N0) (ha5 : a < 5) (hb5 : b < 5) : ∀ (n t : Nat), t + n = 13 → ∀ (x : Int32), x = nI t → ∀ (M1 : am_M), sc_ok M M1 → ∀ (z4 z5 : Value), am_J X (q_p (some (.int (c_aps M a b n t))) (fun M2 _ => sc_ok M M2)) 161 25 [.ref 120, .int (nI a), .int (nI b), .int x, z4, z5] [] M1 N := by
  intro n
  induction n with
  | zero =>
    intro t hn x ex M1 hs z4 z5
    have e : t = 13 := by omega
    subst e
    subst ex
    refine J_b 2 am_d161 rfl ?_
    refine J_icmp_gt 161 (am_d161 rfl) rfl (fun h28 => ?_) (fun h28 => absurd (by decide) h28)
    refine J_b 1 am_d161 rfl ?_
    exact J_iret (am_d161 rfl) rfl rfl ⟨rfl, hs⟩
  | succ n ih =>
    intro t hn x ex M1 hs z4 z5
    subst ex
    have hsH : sc_ok M (am_upR (dr_R M1 (c_cdr M1 a (M1 144) t)) 147 (c_lt 60 (c_hs (dr_R M1 (c_cdr M1 a (M1 144) t))) ((dr_R M1 (c_cdr M1 a (M1 144) t)) 147))) := sc_t hs (sc_t sc_R (sc_uR (by unfold sc_r; omega) (by decide)))
    have hsB : sc_ok M (dr_R (am_upR (dr_R M1 (c_cdr M1 a (M1 144) t)) 147 (c_lt 60 (c_hs (dr_R M1 (c_cdr M1 a (M1 144) t))) ((dr_R M1 (c_cdr M1 a (M1 144) t)) 147))) (c_cdr (am_upR (dr_R M1 (c_cdr M1 a (M1 144) t)) 147 (c_lt 60 (c_hs (dr_R M1 (c_cdr M1 a (M1 144) t))) ((dr_R M1 (c_cdr M1 a (M1 144) t)) 147))) b ((am_upR (dr_R M1 (c_cdr M1 a (M1 144) t)) 147 (c_lt 60 (c_hs (dr_R M1 (c_cdr M1 a (M1 144) t))) ((dr_R M1 (c_cdr M1 a (M1 144) t)) 147))) 144) t)) := sc_t hsH sc_R
    refine J_b 2 am_d161 rfl ?_
    refine J_icmp_gt 161 (am_d161 rfl) rfl (fun h28 => absurd h28 (l13 (by omega))) (fun h28 => ?_)
    refine J_b 3 am_d161 rfl ?_
    refine J_V2n 154 (am_d161 rfl) rfl rfl (sp154i (iv_sc h hs (N' := N)) ha5 (by omega)) ?_
    refine J_b 2 am_d161 rfl ?_
    refine J_r0 147 rfl ?_
    refine lp161H (fun x => ?_) 60 0 rfl _ rfl _ cl_0.symm
    refine J_b 3 am_d161 rfl ?_
    refine J_V2n 154 (am_d161 rfl) rfl rfl (sp154i (iv_sc h hsH (N' := N)) hb5 (by omega)) ?_
    refine J_b 4 am_d161 rfl ?_
    refine lp161F (fun g x hg => ?_) 60 0 rfl _ rfl _ (.inl ⟨rfl, fun j hj => absurd hj (by omega)⟩)
    have hmt : c_mt (c_cdr M a (M1 144) t) (c_cdr M b ((am_upR (dr_R M1 (c_cdr M1 a (M1 144) t)) 147 (c_lt 60 (c_hs (dr_R M1 (c_cdr M1 a (M1 144) t))) ((dr_R M1 (c_cdr M1 a (M1 144) t)) 147))) 144) t) ↔ ∃ j, j < 60 ∧ (¬ (dr_R (am_upR (dr_R M1 (c_cdr M1 a (M1 144) t)) 147 (c_lt 60 (c_hs (dr_R M1 (c_cdr M1 a (M1 144) t))) ((dr_R M1 (c_cdr M1 a (M1 144) t)) 147))) (c_cdr (am_upR (dr_R M1 (c_cdr M1 a (M1 144) t)) 147 (c_lt 60 (c_hs (dr_R M1 (c_cdr M1 a (M1 144) t))) ((dr_R M1 (c_cdr M1 a (M1 144) t)) 147))) b ((am_upR (dr_R M1 (c_cdr M1 a (M1 144) t)) 147 (c_lt 60 (c_hs (dr_R M1 (c_cdr M1 a (M1 144) t))) ((dr_R M1 (c_cdr M1 a (M1 144) t)) 147))) 144) t)) 147 j = 0 ∧ 0 < (dr_R (am_upR (dr_R M1 (c_cdr M1 a (M1 144) t)) 147 (c_lt 60 (c_hs (dr_R M1 (c_cdr M1 a (M1 144) t))) ((dr_R M1 (c_cdr M1 a (M1 144) t)) 147))) (c_cdr (am_upR (dr_R M1 (c_cdr M1 a (M1 144) t)) 147 (c_lt 60 (c_hs (dr_R M1 (c_cdr M1 a (M1 144) t))) ((dr_R M1 (c_cdr M1 a (M1 144) t)) 147))) b ((am_upR (dr_R M1 (c_cdr M1 a (M1 144) t)) 147 (c_lt 60 (c_hs (dr_R M1 (c_cdr M1 a (M1 144) t))) ((dr_R M1 (c_cdr M1 a (M1 144) t)) 147))) 144) t)) 143 j + (dr_R (am_upR (dr_R M1 (c_cdr M1 a (M1 144) t)) 147 (c_lt 60 (c_hs (dr_R M1 (c_cdr M1 a (M1 144) t))) ((dr_R M1 (c_cdr M1 a (M1 144) t)) 147))) (c_cdr (am_upR (dr_R M1 (c_cdr M1 a (M1 144) t)) 147 (c_lt 60 (c_hs (dr_R M1 (c_cdr M1 a (M1 144) t))) ((dr_R M1 (c_cdr M1 a (M1 144) t)) 147))) b ((am_upR (dr_R M1 (c_cdr M1 a (M1 144) t)) 147 (c_lt 60 (c_hs (dr_R M1 (c_cdr M1 a (M1 144) t))) ((dr_R M1 (c_cdr M1 a (M1 144) t)) 147))) 144) t)) 145 j) := by
      rw [← cdr_sc hs, ← cdr_sc hsH]
      constructor
      · rintro ⟨j, hj, h1, h2⟩
        refine ⟨j, hj, ?_, h2⟩
        show ¬ c_lt 60 (c_hs (dr_R M1 (c_cdr M1 a (M1 144) t))) _ j = 0
        rw [cl_p hj]
        unfold c_hs
        rw [if_pos (show 0 < (dr_R M1 (c_cdr M1 a (M1 144) t)) 143 j + (dr_R M1 (c_cdr M1 a (M1 144) t)) 145 j from h1)]
        decide
      · rintro ⟨j, hj, h1, h2⟩
        refine ⟨j, hj, ?_, h2⟩
        have h1 : ¬ c_lt 60 (c_hs (dr_R M1 (c_cdr M1 a (M1 144) t))) ((dr_R M1 (c_cdr M1 a (M1 144) t)) 147) j = 0 := h1
        rw [cl_p hj] at h1
        unfold c_hs at h1
        by_cases hp : 0 < (dr_R M1 (c_cdr M1 a (M1 144) t)) 143 j + (dr_R M1 (c_cdr M1 a (M1 144) t)) 145 j
        · exact hp
        · rw [if_neg hp] at h1
          exact absurd rfl h1
    refine J_b 1 am_d161 rfl ?_
    refine J_if_eq 155 (am_d161 rfl) rfl (fun h150 => ?_) (fun h150 => ?_)
    · have hm : c_mt (c_cdr M a (M1 144) t) (c_cdr M b ((am_upR (dr_R M1 (c_cdr M1 a (M1 144) t)) 147 (c_lt 60 (c_hs (dr_R M1 (c_cdr M1 a (M1 144) t))) ((dr_R M1 (c_cdr M1 a (M1 144) t)) 147))) 144) t) := hmt.mpr (by
        rcases hg with ⟨hg, _⟩ | ⟨_, hg⟩
        · rw [h150] at hg
          exact absurd hg (by decide)
        · exact hg)
      rw [aps_t hm]
      refine J_b 2 am_d161 rfl ?_
      exact ih (t + 1) (by omega) _ (nI_1 t) _ hsB _ _
    · have hm : ¬ c_mt (c_cdr M a (M1 144) t) (c_cdr M b ((am_upR (dr_R M1 (c_cdr M1 a (M1 144) t)) 147 (c_lt 60 (c_hs (dr_R M1 (c_cdr M1 a (M1 144) t))) ((dr_R M1 (c_cdr M1 a (M1 144) t)) 147))) 144) t) := fun z => by
        obtain ⟨j, hj, hp⟩ := hmt.mp z
        rcases hg with ⟨_, hg⟩ | ⟨hg, _⟩
        · exact hg j hj hp
        · exact h150 hg
      refine J_b 1 am_d161 rfl ?_
      exact J_iret (am_d161 rfl) rfl rfl ⟨by rw [aps_f hm], hsB⟩
theorem sp161a {X : am_X} {M : am_M} {N : am_N} {x y : Int32} (h1 : ¬ (((0 ≤ x.toInt ∧ x.toInt < (M 120 22).toInt) ∧ 0 ≤ y.toInt ∧ y.toInt < (M 120 22).toInt) ∧ ¬ x = y)) : am_J X (am_eq (some (.int (-1))) (M) N) 161 0 (am_en 161 [.ref 120, .int x, .int y]) [] M N := by
  refine J_en (L := [.ref 120, .int x, .int y, .retAddr 0, .retAddr 0, .retAddr 0]) rfl ?_
  refine J_b 2 am_d161 rfl ?_
  refine J_V1s 152 (am_d161 rfl) rfl rfl (sp152) ?_
  refine J_if_eq 21 (am_d161 rfl) rfl (fun h5 => ?_) (fun h5 => ?_)
  · refine J_b 1 am_d161 rfl ?_
    exact J_iret (am_d161 rfl) rfl rfl ⟨rfl, rfl, rfl⟩
  · refine J_b 2 am_d161 rfl ?_
    refine J_V1s 152 (am_d161 rfl) rfl rfl (sp152) ?_
    refine J_if_eq 21 (am_d161 rfl) rfl (fun h13 => ?_) (fun h13 => ?_)
    · refine J_b 1 am_d161 rfl ?_
      exact J_iret (am_d161 rfl) rfl rfl ⟨rfl, rfl, rfl⟩
    · refine J_b 2 am_d161 rfl ?_
      refine J_icmp_ne 23 (am_d161 rfl) rfl (fun h18 => ?_) (fun h18 => ?_)
      · exact absurd ⟨⟨am_bi1.mp h5, am_bi1.mp h13⟩, h18⟩ h1
      · refine J_b 1 am_d161 rfl ?_
        exact J_iret (am_d161 rfl) rfl rfl ⟨rfl, rfl, rfl⟩
theorem sp161c {X : am_X} {M : am_M} {N N0 : am_N} {a b c0 : Nat} (ha5 : a < 5) (hb5 : b < 5) (has : (a : Int) < (M 120 22).toInt) (hbs : (b : Int) < (M 120 22).toInt) (hab : a ≠ b) (h : iv c0 M N0) : am_J X (q_p (some (.int (c_aps M a b 13 0))) (fun M1 _ => sc_ok M M1)) 161 0 (am_en 161 [.ref 120, .int (nI a), .int (nI b)]) [] M N := by
  have i1 := nI_i (n := a) (by omega)
  have i2 := nI_i (n := b) (by omega)
  refine J_en (L := [.ref 120, .int (nI a), .int (nI b), .retAddr 0, .retAddr 0, .retAddr 0]) rfl ?_
  refine J_b 2 am_d161 rfl ?_
  refine J_V1s 152 (am_d161 rfl) rfl rfl (sp152) ?_
  refine J_if_eq 21 (am_d161 rfl) rfl (fun h5 => absurd h5 (am_bi1.mpr (by rw [i1]; omega))) (fun h5 => ?_)
  refine J_b 2 am_d161 rfl ?_
  refine J_V1s 152 (am_d161 rfl) rfl rfl (sp152) ?_
  refine J_if_eq 21 (am_d161 rfl) rfl (fun h13 => absurd h13 (am_bi1.mpr (by rw [i2]; omega))) (fun h13 => ?_)
  refine J_b 2 am_d161 rfl ?_
  refine J_icmp_ne 23 (am_d161 rfl) rfl (fun h18 => ?_) (fun h18 => absurd (nI_inj (by omega) (by omega) h18) hab)
  refine J_b 2 am_d161 rfl ?_
  exact lp161 h ha5 hb5 13 0 rfl _ rfl _ sc_0 _ _
theorem pr_apart {X : am_X} (x y : Int32) : am_pI iv X 59 161 [.int x, .int y] := by
  intro c0 M N hc0 h
  have e := h.1.2.1.1.2
  have e5 := h.1.2.1.2.1
  unfold b_in at e5
  have hb := h.1.1.2
  have hcb := h.1.2.1.2
  by_cases h1 : ((0 ≤ x.toInt ∧ x.toInt < (M 18 7).toInt) ∧ 0 ≤ y.toInt ∧ y.toInt < (M 18 7).toInt) ∧ ¬ x = y
  rotate_left
  · exact pr_e (sp59a h1) (sp161a (by rw [e]; exact h1)) (iv_up _ _ _ h)
  have ex := I_nI h1.1.1.1
  have icx := I_cl h1.1.1.1
  have ey := I_nI h1.1.2.1
  have icy := I_cl h1.1.2.1
  generalize x.toNatClampNeg = a at ex icx
  generalize y.toNatClampNeg = b at ey icy
  subst ex
  subst ey
  have hab : a ≠ b := fun z => h1.2 (by rw [z])
  refine pr_s h (sp59c (by omega) (by omega) (by omega) (by omega) hab hb hcb) (fun M1 N1 hs => ?_)
  rw [← aps_sc hs]
  have e2 : M1 120 22 = M 18 7 := hs.2.1.trans e
  exact sp161c (by omega) (by omega) (by rw [e2]; omega) (by rw [e2]; omega) hab (iv_sc h hs (N' := N))
