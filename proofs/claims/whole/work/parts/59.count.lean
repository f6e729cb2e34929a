/-! ===== the pairs letters, count ===== -/
def c_le (tl ot nr tg : Nat → Int32) (x as : Int32) (F : Nat) : Int32 := smI (fun f => if (tl f ≤ as ∧ ot f = 0 ∧ tg (nr f).toNatClampNeg = x) then 1 else 0) F
theorem le_p {tl ot nr tg : Nat → Int32} {x as : Int32} {f : Nat} {a : Int32} (ha : a = c_le tl ot nr tg x as f) (h : (tl f ≤ as ∧ ot f = 0 ∧ tg (nr f).toNatClampNeg = x)) : a + 1 = c_le tl ot nr tg x as (f + 1) := by
  show a + 1 = c_le tl ot nr tg x as f + (if (tl f ≤ as ∧ ot f = 0 ∧ tg (nr f).toNatClampNeg = x) then 1 else 0)
  rw [if_pos h, ha]
theorem le_n {tl ot nr tg : Nat → Int32} {x as : Int32} {f : Nat} {a : Int32} (ha : a = c_le tl ot nr tg x as f) (h : ¬ (tl f ≤ as ∧ ot f = 0 ∧ tg (nr f).toNatClampNeg = x)) : a + 0 = c_le tl ot nr tg x as (f + 1) := by
  show a + 0 = c_le tl ot nr tg x as f + (if (tl f ≤ as ∧ ot f = 0 ∧ tg (nr f).toNatClampNeg = x) then 1 else 0)
  rw [if_neg h, ha]
theorem le_n0 {tl ot nr tg : Nat → Int32} {x as : Int32} {f : Nat} {a : Int32} (ha : a = c_le tl ot nr tg x as f) (h : ¬ (tl f ≤ as ∧ ot f = 0 ∧ tg (nr f).toNatClampNeg = x)) : a = c_le tl ot nr tg x as (f + 1) := (Int32.add_zero _).symm.trans (le_n ha h)
theorem lp133 {X : am_X} {M : am_M} {N : am_N} {x as : Int32} {F : Nat} (eF : M 32 7 = nI F) (hF : F ≤ 16) (hnb : ∀ j, b_in (M 35 j) 0 5) : ∀ (n i : Nat), i + n = F → ∀ (y : Int32), y = nI i → ∀ (a : Int32), a = c_le (M 38) (M 39) (M 35) (M 31) x as i → am_J X (am_eq (some (.int (c_le (M 38) (M 39) (M 35) (M 31) x as F))) M N) 133 26 [.ref 0, .int x, .int as, .int a, .int y] [] M N := by
  intro n
  induction n with
  | zero =>
    intro i hn y ey a ha
    have e : i = F := by omega
    subst e
    subst ey
    have hge : M 32 7 ≤ nI i := by rw [eF]; exact Int32.le_refl _
    refine J_b 4 am_d133 rfl ?_
    refine J_icmp_ge 96 (am_d133 rfl) rfl (fun h35 => ?_) (fun h35 => absurd (hge) h35)
    refine J_b 1 am_d133 rfl ?_
    exact J_iret (am_d133 rfl) rfl rfl ⟨by rw [ha], rfl, rfl⟩
  | succ n ih =>
    intro i hn y ey a ha
    subst ey
    have hlt : ¬ M 32 7 ≤ nI i := by rw [eF]; exact nI_ngt (by omega) (by omega)
    refine J_b 4 am_d133 rfl ?_
    refine J_icmp_ge 96 (am_d133 rfl) rfl (fun h35 => absurd h35 hlt) (fun h35 => ?_)
    refine J_b 4 am_d133 rfl ?_
    refine J_iald (am_d133 rfl) rfl (vp_in_nI (show i < 16 by omega) (by decide)) ?_
    rw [nI_c (n := i) (by omega)]
    show am_J X _ 133 48 _ (.int (M 38 i) :: _) _ N
    refine J_b 1 am_d133 rfl ?_
    refine J_icmp_gt 90 (am_d133 rfl) rfl (fun h49 => ?_) (fun h49 => ?_)
    · refine J_b 2 am_d133 rfl ?_
      exact ih (i + 1) (by omega) _ (nI_1 i) _ (le_n0 ha (fun z => absurd h49 (Int32.not_lt.mpr z.1)))
    · refine J_b 4 am_d133 rfl ?_
      refine J_zald (am_d133 rfl) rfl (vp_in_nI (show i < 16 by omega) (by decide)) ?_
      rw [nI_c (n := i) (by omega)]
      refine J_if_ne 90 (am_d133 rfl) rfl (fun h62 => ?_) (fun h62 => ?_)
      · refine J_b 2 am_d133 rfl ?_
        exact ih (i + 1) (by omega) _ (nI_1 i) _ (le_n0 ha (fun z => h62 z.2.1))
      · refine J_b 7 am_d133 rfl ?_
        refine J_iald (am_d133 rfl) rfl (vp_in_nI (show i < 16 by omega) (by decide)) ?_
        rw [nI_c (n := i) (by omega)]
        show am_J X _ 133 82 _ (.int (M 35 i) :: _) _ N
        refine J_iald (am_d133 rfl) rfl (vp_of (by have := hnb i; unfold b_in at this; omega)) ?_
        refine J_b 1 am_d133 rfl ?_
        refine J_icmp_ne 90 (am_d133 rfl) rfl (fun h84 => ?_) (fun h84 => ?_)
        · refine J_b 2 am_d133 rfl ?_
          exact ih (i + 1) (by omega) _ (nI_1 i) _ (le_n0 ha (fun z => h84 z.2.2))
        · refine J_b 3 am_d133 rfl ?_
          exact ih (i + 1) (by omega) _ (nI_1 i) _ (le_p ha ⟨Int32.not_lt.mp h49, h62, h84⟩)
theorem sp133a {X : am_X} {M : am_M} {N : am_N} {x as : Int32} (g1 : ¬ (0 ≤ x.toInt ∧ x.toInt < 6)) : am_J X (am_eq (some (.int (-1))) (M) N) 133 0 (am_en 133 [.ref 0, .int x, .int as]) [] M N := by
  refine J_en (L := [.ref 0, .int x, .int as, .retAddr 0, .retAddr 0]) rfl ?_
  refine J_b 2 am_d133 rfl ?_
  refine J_S2s 13 (am_d133 rfl) rfl rfl (sp13) ?_
  refine J_if_ne 11 (am_d133 rfl) rfl (fun h6 => absurd (am_bi1.mp h6) g1) (fun h6 => ?_)
  refine J_b 1 am_d133 rfl ?_
  exact J_iret (am_d133 rfl) rfl rfl ⟨rfl, rfl, rfl⟩
theorem sp133b {X : am_X} {M : am_M} {N : am_N} {x as : Int32} (g1 : 0 ≤ x.toInt ∧ x.toInt < 6) (g2 : ¬ (0 ≤ as.toInt ∧ as.toInt ≤ 999)) : am_J X (am_eq (some (.int (-2))) (M) N) 133 0 (am_en 133 [.ref 0, .int x, .int as]) [] M N := by
  refine J_en (L := [.ref 0, .int x, .int as, .retAddr 0, .retAddr 0]) rfl ?_
  refine J_b 2 am_d133 rfl ?_
  refine J_S2s 13 (am_d133 rfl) rfl rfl (sp13) ?_
  refine J_if_ne 11 (am_d133 rfl) rfl (fun h6 => ?_) (fun h6 => absurd h6 (am_bi1.mpr g1))
  refine J_b 1 am_d133 rfl ?_
  refine J_S1s 84 (am_d133 rfl) rfl rfl (sp84) ?_
  refine J_if_ne 21 (am_d133 rfl) rfl (fun h15 => absurd (am_bi1.mp h15) g2) (fun h15 => ?_)
  refine J_b 1 am_d133 rfl ?_
  exact J_iret (am_d133 rfl) rfl rfl ⟨rfl, rfl, rfl⟩
theorem sp133c {X : am_X} {M : am_M} {N : am_N} {x as : Int32} {F : Nat} (g1 : 0 ≤ x.toInt ∧ x.toInt < 6) (g2 : 0 ≤ as.toInt ∧ as.toInt ≤ 999) (eF : M 32 7 = nI F) (hF : F ≤ 16) (hnb : ∀ j, b_in (M 35 j) 0 5) : am_J X (am_eq (some (.int (c_le (M 38) (M 39) (M 35) (M 31) x as F))) (M) N) 133 0 (am_en 133 [.ref 0, .int x, .int as]) [] M N := by
  refine J_en (L := [.ref 0, .int x, .int as, .retAddr 0, .retAddr 0]) rfl ?_
  refine J_b 2 am_d133 rfl ?_
  refine J_S2s 13 (am_d133 rfl) rfl rfl (sp13) ?_
  refine J_if_ne 11 (am_d133 rfl) rfl (fun h6 => ?_) (fun h6 => absurd h6 (am_bi1.mpr g1))
  refine J_b 1 am_d133 rfl ?_
  refine J_S1s 84 (am_d133 rfl) rfl rfl (sp84) ?_
  refine J_if_ne 21 (am_d133 rfl) rfl (fun h15 => ?_) (fun h15 => absurd h15 (am_bi1.mpr g2))
  refine J_b 4 am_d133 rfl ?_
  exact lp133 eF hF hnb F 0 (Nat.zero_add _) _ rfl _ rfl
theorem lp208 {X : am_X} {M : am_M} {N : am_N} {x as : Int32} {F : Nat} (eF : M 120 44 = nI F) (hF : F ≤ 16) (hnb : ∀ j, b_in (M 155 j) 0 5) : ∀ (n i : Nat), i + n = F → ∀ (y : Int32), y = nI i → ∀ (a : Int32), a = c_le (M 158) (M 159) (M 155) (M 152) x as i → am_J X (am_eq (some (.int (c_le (M 158) (M 159) (M 155) (M 152) x as F))) M N) 208 34 [.ref 120, .int x, .int as, .int a, .int y] [] M N := by
  intro n
  induction n with
  | zero =>
    intro i hn y ey a ha
    have e : i = F := by omega
    subst e
    subst ey
    have hge : M 120 44 ≤ nI i := by rw [eF]; exact Int32.le_refl _
    refine J_b 3 am_d208 rfl ?_
    refine J_icmp_ge 94 (am_d208 rfl) rfl (fun h40 => ?_) (fun h40 => absurd (hge) h40)
    refine J_b 1 am_d208 rfl ?_
    exact J_iret (am_d208 rfl) rfl rfl ⟨by rw [ha], rfl, rfl⟩
  | succ n ih =>
    intro i hn y ey a ha
    subst ey
    have hlt : ¬ M 120 44 ≤ nI i := by rw [eF]; exact nI_ngt (by omega) (by omega)
    refine J_b 3 am_d208 rfl ?_
    refine J_icmp_ge 94 (am_d208 rfl) rfl (fun h40 => absurd h40 hlt) (fun h40 => ?_)
    refine J_b 4 am_d208 rfl ?_
    refine J_iald (am_d208 rfl) rfl (vp_in_nI (show i < 16 by omega) (by decide)) ?_
    rw [nI_c (n := i) (by omega)]
    show am_J X _ 208 51 _ (.int (M 158 i) :: _) _ N
    refine J_b 1 am_d208 rfl ?_
    refine J_icmp_gt 85 (am_d208 rfl) rfl (fun h52 => ?_) (fun h52 => ?_)
    · refine J_b 5 am_d208 rfl ?_
      exact ih (i + 1) (by omega) _ (nI_1 i) _ (le_n ha (fun z => absurd h52 (Int32.not_lt.mpr z.1)))
    · refine J_b 3 am_d208 rfl ?_
      refine J_zald (am_d208 rfl) rfl (vp_in_nI (show i < 16 by omega) (by decide)) ?_
      rw [nI_c (n := i) (by omega)]
      refine J_if_ne 85 (am_d208 rfl) rfl (fun h62 => ?_) (fun h62 => ?_)
      · refine J_b 5 am_d208 rfl ?_
        exact ih (i + 1) (by omega) _ (nI_1 i) _ (le_n ha (fun z => h62 z.2.1))
      · refine J_b 5 am_d208 rfl ?_
        refine J_iald (am_d208 rfl) rfl (vp_in_nI (show i < 16 by omega) (by decide)) ?_
        rw [nI_c (n := i) (by omega)]
        show am_J X _ 208 76 _ (.int (M 155 i) :: _) _ N
        refine J_iald (am_d208 rfl) rfl (vp_of (by have := hnb i; unfold b_in at this; omega)) ?_
        refine J_b 1 am_d208 rfl ?_
        refine J_icmp_ne 85 (am_d208 rfl) rfl (fun h78 => ?_) (fun h78 => ?_)
        · refine J_b 5 am_d208 rfl ?_
          exact ih (i + 1) (by omega) _ (nI_1 i) _ (le_n ha (fun z => h78 z.2.2))
        · refine J_b 6 am_d208 rfl ?_
          exact ih (i + 1) (by omega) _ (nI_1 i) _ (le_p ha ⟨Int32.not_lt.mp h52, h62, h78⟩)
theorem sp208a {X : am_X} {M : am_M} {N : am_N} {x as : Int32} (g1 : ¬ (0 ≤ x.toInt ∧ x.toInt < 6)) : am_J X (am_eq (some (.int (-1))) (M) N) 208 0 (am_en 208 [.ref 120, .int x, .int as]) [] M N := by
  refine J_en (L := [.ref 120, .int x, .int as, .retAddr 0, .retAddr 0]) rfl ?_
  refine J_b 4 am_d208 rfl ?_
  refine J_S3s 140 (am_d208 rfl) rfl rfl (sp140) ?_
  refine J_if_ne 14 (am_d208 rfl) rfl (fun h9 => absurd (show 0 ≤ x.toInt ∧ x.toInt < 6 from by have q := am_bi1.mp h9; rw [Int32.toInt_toInt64] at q; exact ⟨q.1, by have := q.2; change _ ≤ (5 : Int) at this; omega⟩) g1) (fun h9 => ?_)
  refine J_b 1 am_d208 rfl ?_
  exact J_iret (am_d208 rfl) rfl rfl ⟨rfl, rfl, rfl⟩
theorem sp208b {X : am_X} {M : am_M} {N : am_N} {x as : Int32} (g1 : 0 ≤ x.toInt ∧ x.toInt < 6) (g2 : ¬ (0 ≤ as.toInt ∧ as.toInt ≤ 999)) : am_J X (am_eq (some (.int (-2))) (M) N) 208 0 (am_en 208 [.ref 120, .int x, .int as]) [] M N := by
  refine J_en (L := [.ref 120, .int x, .int as, .retAddr 0, .retAddr 0]) rfl ?_
  refine J_b 4 am_d208 rfl ?_
  refine J_S3s 140 (am_d208 rfl) rfl rfl (sp140) ?_
  refine J_if_ne 14 (am_d208 rfl) rfl (fun h9 => ?_) (fun h9 => absurd h9 (am_bi1.mpr (by rw [Int32.toInt_toInt64]; exact ⟨g1.1, by show x.toInt ≤ (5 : Int); omega⟩)))
  refine J_b 4 am_d208 rfl ?_
  refine J_S3s 140 (am_d208 rfl) rfl rfl (sp140) ?_
  refine J_if_ne 29 (am_d208 rfl) rfl (fun h23 => absurd (show 0 ≤ as.toInt ∧ as.toInt ≤ 999 from by have q := am_bi1.mp h23; rw [Int32.toInt_toInt64] at q; exact q) g2) (fun h23 => ?_)
  refine J_b 1 am_d208 rfl ?_
  exact J_iret (am_d208 rfl) rfl rfl ⟨rfl, rfl, rfl⟩
theorem sp208c {X : am_X} {M : am_M} {N : am_N} {x as : Int32} {F : Nat} (g1 : 0 ≤ x.toInt ∧ x.toInt < 6) (g2 : 0 ≤ as.toInt ∧ as.toInt ≤ 999) (eF : M 120 44 = nI F) (hF : F ≤ 16) (hnb : ∀ j, b_in (M 155 j) 0 5) : am_J X (am_eq (some (.int (c_le (M 158) (M 159) (M 155) (M 152) x as F))) (M) N) 208 0 (am_en 208 [.ref 120, .int x, .int as]) [] M N := by
  refine J_en (L := [.ref 120, .int x, .int as, .retAddr 0, .retAddr 0]) rfl ?_
  refine J_b 4 am_d208 rfl ?_
  refine J_S3s 140 (am_d208 rfl) rfl rfl (sp140) ?_
  refine J_if_ne 14 (am_d208 rfl) rfl (fun h9 => ?_) (fun h9 => absurd h9 (am_bi1.mpr (by rw [Int32.toInt_toInt64]; exact ⟨g1.1, by show x.toInt ≤ (5 : Int); omega⟩)))
  refine J_b 4 am_d208 rfl ?_
  refine J_S3s 140 (am_d208 rfl) rfl rfl (sp140) ?_
  refine J_if_ne 29 (am_d208 rfl) rfl (fun h23 => ?_) (fun h23 => absurd h23 (am_bi1.mpr (by rw [Int32.toInt_toInt64]; exact g2)))
  refine J_b 4 am_d208 rfl ?_
  exact lp208 eF hF hnb F 0 (Nat.zero_add _) _ rfl _ rfl
theorem pr_letters {X : am_X} (x as : Int32) : am_pI iv X 133 208 [.int x, .int as] := by
  intro c0 M N hc0 h
  have e22 : M 120 22 = M 18 7 := h.1.2.1.1.2
  have e44 : M 120 44 = M 32 7 := h.1.2.2.2.1.2
  have e5 := h.1.2.1.2.1
  have e16 := h.1.2.2.2.2.1
  unfold b_in at e5 e16
  by_cases g1 : 0 ≤ x.toInt ∧ x.toInt < 6
  rotate_left
  · exact pr_e (sp133a g1) (sp208a g1) (iv_up _ _ _ h)
  by_cases g2 : 0 ≤ as.toInt ∧ as.toInt ≤ 999
  rotate_left
  · exact pr_e (sp133b g1 g2) (sp208b g1 g2) (iv_up _ _ _ h)
  have eF := I_nI e16.1
  have iF := I_cl e16.1
  generalize (M 32 7).toNatClampNeg = F at eF iF
  have hF : F ≤ 16 := by omega
  obtain ⟨⟨_, _, f3, _, _, f6, f7⟩, _⟩ := h.1.2.2.2.1
  have n5 : M 152 = M 31 := h.1.2.2.1.1.1.2.2.2.2
  have hnb := h.1.2.2.2.2.2.1
  have q := sp208c (X := X) (M := M) (N := N) g1 g2 (by rw [e44]; exact eF) hF (by rw [f3]; exact hnb)
  rw [f3, f6, f7, n5] at q
  exact pr_e (sp133c g1 g2 eF hF hnb) q (iv_up _ _ _ h)
theorem lp135 {X : am_X} {M : am_M} {N : am_N} {z : Value} {F : Nat} (eF : M 18 7 = nI F) (hF : F ≤ 5) : ∀ (n i : Nat), i + n = F → ∀ (y : Int32), y = nI i → ∀ (a : Int32), a = smI (M 21) i → am_J X (am_eq (some (.int (smI (M 21) F))) M N) 135 4 [.ref 18, .int a, .int y] [] M N := by
  intro n
  induction n with
  | zero =>
    intro i hn y ey a ha
    have e : i = F := by omega
    subst e
    subst ey
    have hge : M 18 7 ≤ nI i := by rw [eF]; exact Int32.le_refl _
    refine J_b 3 am_d135 rfl ?_
    refine J_icmp_ge 27 (am_d135 rfl) rfl (fun h9 => ?_) (fun h9 => absurd (hge) h9)
    refine J_b 1 am_d135 rfl ?_
    exact J_iret (am_d135 rfl) rfl rfl ⟨by rw [ha], rfl, rfl⟩
  | succ n ih =>
    intro i hn y ey a ha
    subst ey
    have hlt : ¬ M 18 7 ≤ nI i := by rw [eF]; exact nI_ngt (by omega) (by omega)
    refine J_b 3 am_d135 rfl ?_
    refine J_icmp_ge 27 (am_d135 rfl) rfl (fun h9 => absurd h9 hlt) (fun h9 => ?_)
    refine J_b 4 am_d135 rfl ?_
    refine J_iald (am_d135 rfl) rfl (vp_in_nI (show i < 5 by omega) (by decide)) ?_
    rw [nI_c (n := i) (by omega)]
    show am_J X _ 135 19 _ (.int (M 21 i) :: _) _ N
    refine J_b 4 am_d135 rfl ?_
    exact ih (i + 1) (by omega) _ (nI_1 i) _ (by rw [ha]; rfl)
theorem sp135 {X : am_X} {M : am_M} {N : am_N} {F : Nat} (eF : M 18 7 = nI F) (hF : F ≤ 5) : am_J X (am_eq (some (.int (smI (M 21) F))) (M) N) 135 0 (am_en 135 [.ref 18]) [] M N := by
  refine J_en (L := [.ref 18, .retAddr 0, .retAddr 0]) rfl ?_
  refine J_b 4 am_d135 rfl ?_
  exact lp135 (z := .null) eF hF F 0 (Nat.zero_add _) _ rfl _ rfl
theorem ot_p {r : Nat → Int32} {i : Nat} {a : Int32} (ha : a = smI (fun f => if r f = 0 then 0 else 1) i) (h : ¬ r i = 0) : a + 1 = smI (fun f => if r f = 0 then 0 else 1) (i + 1) := by
  show a + 1 = smI (fun f => if r f = 0 then 0 else 1) i + (if r i = 0 then 0 else 1)
  rw [if_neg h, ha]
theorem ot_n {r : Nat → Int32} {i : Nat} {a : Int32} (ha : a = smI (fun f => if r f = 0 then 0 else 1) i) (h : r i = 0) : a + 0 = smI (fun f => if r f = 0 then 0 else 1) (i + 1) := by
  show a + 0 = smI (fun f => if r f = 0 then 0 else 1) i + (if r i = 0 then 0 else 1)
  rw [if_pos h, ha]
theorem lp136 {X : am_X} {M : am_M} {N : am_N} {z : Value} {F : Nat} (eF : M 32 7 = nI F) (hF : F ≤ 16) : ∀ (n i : Nat), i + n = F → ∀ (y : Int32), y = nI i → ∀ (a : Int32), a = smI (fun f => if M 39 f = 0 then 0 else 1) i → am_J X (am_eq (some (.int (smI (fun f => if M 39 f = 0 then 0 else 1) F))) M N) 136 4 [.ref 32, .int a, .int y] [] M N := by
  intro n
  induction n with
  | zero =>
    intro i hn y ey a ha
    have e : i = F := by omega
    subst e
    subst ey
    have hge : M 32 7 ≤ nI i := by rw [eF]; exact Int32.le_refl _
    refine J_b 3 am_d136 rfl ?_
    refine J_icmp_ge 30 (am_d136 rfl) rfl (fun h9 => ?_) (fun h9 => absurd (hge) h9)
    refine J_b 1 am_d136 rfl ?_
    exact J_iret (am_d136 rfl) rfl rfl ⟨by rw [ha], rfl, rfl⟩
  | succ n ih =>
    intro i hn y ey a ha
    subst ey
    have hlt : ¬ M 32 7 ≤ nI i := by rw [eF]; exact nI_ngt (by omega) (by omega)
    refine J_b 3 am_d136 rfl ?_
    refine J_icmp_ge 30 (am_d136 rfl) rfl (fun h9 => absurd h9 hlt) (fun h9 => ?_)
    refine J_b 3 am_d136 rfl ?_
    refine J_zald (am_d136 rfl) rfl (vp_in_nI (show i < 16 by omega) (by decide)) ?_
    rw [nI_c (n := i) (by omega)]
    refine J_if_eq 24 (am_d136 rfl) rfl (fun h18 => ?_) (fun h18 => ?_)
    · refine J_b 2 am_d136 rfl ?_
      exact ih (i + 1) (by omega) _ (nI_1 i) _ ((Int32.add_zero _).symm.trans (ot_n ha h18))
    · refine J_b 3 am_d136 rfl ?_
      exact ih (i + 1) (by omega) _ (nI_1 i) _ (ot_p ha h18)
theorem sp136 {X : am_X} {M : am_M} {N : am_N} {F : Nat} (eF : M 32 7 = nI F) (hF : F ≤ 16) : am_J X (am_eq (some (.int (smI (fun f => if M 39 f = 0 then 0 else 1) F))) (M) N) 136 0 (am_en 136 [.ref 32]) [] M N := by
  refine J_en (L := [.ref 32, .retAddr 0, .retAddr 0]) rfl ?_
  refine J_b 4 am_d136 rfl ?_
  exact lp136 (z := .null) eF hF F 0 (Nat.zero_add _) _ rfl _ rfl
theorem lp209c {X : am_X} {M : am_M} {N : am_N} {w : Int32} {F : Nat} (eF : M 120 22 = nI F) (hF : F ≤ 5) : ∀ (n i : Nat), i + n = F → ∀ (y : Int32), y = nI i → ∀ (a : Int32), a = smI (M 138) i → am_J X (am_eq (some (.int (smI (M 138) F))) M N) 209 80 [.ref 120, .int w, .int a, .int y] [] M N := by
  intro n
  induction n with
  | zero =>
    intro i hn y ey a ha
    have e : i = F := by omega
    subst e
    subst ey
    have hge : M 120 22 ≤ nI i := by rw [eF]; exact Int32.le_refl _
    refine J_b 3 am_d209 rfl ?_
    refine J_icmp_ge 103 (am_d209 rfl) rfl (fun h85 => ?_) (fun h85 => absurd (hge) h85)
    refine J_b 1 am_d209 rfl ?_
    exact J_iret (am_d209 rfl) rfl rfl ⟨by rw [ha], rfl, rfl⟩
  | succ n ih =>
    intro i hn y ey a ha
    subst ey
    have hlt : ¬ M 120 22 ≤ nI i := by rw [eF]; exact nI_ngt (by omega) (by omega)
    refine J_b 3 am_d209 rfl ?_
    refine J_icmp_ge 103 (am_d209 rfl) rfl (fun h85 => absurd h85 hlt) (fun h85 => ?_)
    refine J_b 4 am_d209 rfl ?_
    refine J_iald (am_d209 rfl) rfl (vp_in_nI (show i < 5 by omega) (by decide)) ?_
    rw [nI_c (n := i) (by omega)]
    show am_J X _ 209 95 _ (.int (M 138 i) :: _) _ N
    refine J_b 4 am_d209 rfl ?_
    exact ih (i + 1) (by omega) _ (nI_1 i) _ (by rw [ha]; rfl)
theorem lp209o {X : am_X} {M : am_M} {N : am_N} {w : Int32} {F : Nat} (eF : M 120 44 = nI F) (hF : F ≤ 16) : ∀ (n i : Nat), i + n = F → ∀ (y : Int32), y = nI i → ∀ (a : Int32), a = smI (fun f => if M 159 f = 0 then 0 else 1) i → am_J X (am_eq (some (.int (smI (fun f => if M 159 f = 0 then 0 else 1) F))) M N) 209 107 [.ref 120, .int w, .int a, .int y] [] M N := by
  intro n
  induction n with
  | zero =>
    intro i hn y ey a ha
    have e : i = F := by omega
    subst e
    subst ey
    have hge : M 120 44 ≤ nI i := by rw [eF]; exact Int32.le_refl _
    refine J_b 3 am_d209 rfl ?_
    refine J_icmp_ge 138 (am_d209 rfl) rfl (fun h112 => ?_) (fun h112 => absurd (hge) h112)
    refine J_b 1 am_d209 rfl ?_
    exact J_iret (am_d209 rfl) rfl rfl ⟨by rw [ha], rfl, rfl⟩
  | succ n ih =>
    intro i hn y ey a ha
    subst ey
    have hlt : ¬ M 120 44 ≤ nI i := by rw [eF]; exact nI_ngt (by omega) (by omega)
    refine J_b 3 am_d209 rfl ?_
    refine J_icmp_ge 138 (am_d209 rfl) rfl (fun h112 => absurd h112 hlt) (fun h112 => ?_)
    refine J_b 4 am_d209 rfl ?_
    refine J_zald (am_d209 rfl) rfl (vp_in_nI (show i < 16 by omega) (by decide)) ?_
    rw [nI_c (n := i) (by omega)]
    refine J_if_eq 129 (am_d209 rfl) rfl (fun h122 => ?_) (fun h122 => ?_)
    · refine J_b 5 am_d209 rfl ?_
      exact ih (i + 1) (by omega) _ (nI_1 i) _ (ot_n ha h122)
    · refine J_b 6 am_d209 rfl ?_
      exact ih (i + 1) (by omega) _ (nI_1 i) _ (ot_p ha h122)
theorem sp134_0 {X : am_X} {M : am_M} {N : am_N}  : am_J X (am_eq (some (.int (M 18 7))) (M) N) 134 0 (am_en 134 [.ref 0, .int 0]) [] M N := by
  refine J_en (L := [.ref 0, .int 0]) rfl ?_
  refine J_b 1 am_d134 rfl ?_
  refine J_tsIn 48 (am_d134 rfl) (show ¬ (0 : Int32).toInt < 0 by decide) (show ¬ (7 : Int) < (0 : Int32).toInt by decide) rfl rfl ?_
  refine J_b 3 am_d134 rfl ?_
  exact J_iret (am_d134 rfl) rfl rfl ⟨rfl, rfl, rfl⟩
theorem sp209_0 {X : am_X} {M : am_M} {N : am_N}  : am_J X (am_eq (some (.int (M 120 22))) (M) N) 209 0 (am_en 209 [.ref 120, .int 0]) [] M N := by
  refine J_en (L := [.ref 120, .int 0, .retAddr 0, .retAddr 0]) rfl ?_
  refine J_b 3 am_d209 rfl ?_
  refine J_tsIn 48 (am_d209 rfl) (show ¬ (0 : Int32).toInt < 0 by decide) (show ¬ (7 : Int) < (0 : Int32).toInt by decide) rfl rfl ?_
  refine J_b 2 am_d209 rfl ?_
  exact J_iret (am_d209 rfl) rfl rfl ⟨rfl, rfl, rfl⟩
theorem sp134_1 {X : am_X} {M : am_M} {N : am_N}  : am_J X (am_eq (some (.int (M 26 5))) (M) N) 134 0 (am_en 134 [.ref 0, .int 1]) [] M N := by
  refine J_en (L := [.ref 0, .int 1]) rfl ?_
  refine J_b 1 am_d134 rfl ?_
  refine J_tsIn 56 (am_d134 rfl) (show ¬ (1 : Int32).toInt < 0 by decide) (show ¬ (7 : Int) < (1 : Int32).toInt by decide) rfl rfl ?_
  refine J_b 3 am_d134 rfl ?_
  exact J_iret (am_d134 rfl) rfl rfl ⟨rfl, rfl, rfl⟩
theorem sp209_1 {X : am_X} {M : am_M} {N : am_N}  : am_J X (am_eq (some (.int (M 120 43))) (M) N) 209 0 (am_en 209 [.ref 120, .int 1]) [] M N := by
  refine J_en (L := [.ref 120, .int 1, .retAddr 0, .retAddr 0]) rfl ?_
  refine J_b 3 am_d209 rfl ?_
  refine J_tsIn 53 (am_d209 rfl) (show ¬ (1 : Int32).toInt < 0 by decide) (show ¬ (7 : Int) < (1 : Int32).toInt by decide) rfl rfl ?_
  refine J_b 2 am_d209 rfl ?_
  exact J_iret (am_d209 rfl) rfl rfl ⟨rfl, rfl, rfl⟩
theorem sp134_2 {X : am_X} {M : am_M} {N : am_N}  : am_J X (am_eq (some (.int (M 32 7))) (M) N) 134 0 (am_en 134 [.ref 0, .int 2]) [] M N := by
  refine J_en (L := [.ref 0, .int 2]) rfl ?_
  refine J_b 1 am_d134 rfl ?_
  refine J_tsIn 64 (am_d134 rfl) (show ¬ (2 : Int32).toInt < 0 by decide) (show ¬ (7 : Int) < (2 : Int32).toInt by decide) rfl rfl ?_
  refine J_b 3 am_d134 rfl ?_
  exact J_iret (am_d134 rfl) rfl rfl ⟨rfl, rfl, rfl⟩
theorem sp209_2 {X : am_X} {M : am_M} {N : am_N}  : am_J X (am_eq (some (.int (M 120 44))) (M) N) 209 0 (am_en 209 [.ref 120, .int 2]) [] M N := by
  refine J_en (L := [.ref 120, .int 2, .retAddr 0, .retAddr 0]) rfl ?_
  refine J_b 3 am_d209 rfl ?_
  refine J_tsIn 58 (am_d209 rfl) (show ¬ (2 : Int32).toInt < 0 by decide) (show ¬ (7 : Int) < (2 : Int32).toInt by decide) rfl rfl ?_
  refine J_b 2 am_d209 rfl ?_
  exact J_iret (am_d209 rfl) rfl rfl ⟨rfl, rfl, rfl⟩
theorem sp134_3 {X : am_X} {M : am_M} {N : am_N}  : am_J X (am_eq (some (.int (M 112 7))) (M) N) 134 0 (am_en 134 [.ref 0, .int 3]) [] M N := by
  refine J_en (L := [.ref 0, .int 3]) rfl ?_
  refine J_b 1 am_d134 rfl ?_
  refine J_tsIn 72 (am_d134 rfl) (show ¬ (3 : Int32).toInt < 0 by decide) (show ¬ (7 : Int) < (3 : Int32).toInt by decide) rfl rfl ?_
  refine J_b 3 am_d134 rfl ?_
  exact J_iret (am_d134 rfl) rfl rfl ⟨rfl, rfl, rfl⟩
theorem sp209_3 {X : am_X} {M : am_M} {N : am_N}  : am_J X (am_eq (some (.int (M 120 56))) (M) N) 209 0 (am_en 209 [.ref 120, .int 3]) [] M N := by
  refine J_en (L := [.ref 120, .int 3, .retAddr 0, .retAddr 0]) rfl ?_
  refine J_b 3 am_d209 rfl ?_
  refine J_tsIn 63 (am_d209 rfl) (show ¬ (3 : Int32).toInt < 0 by decide) (show ¬ (7 : Int) < (3 : Int32).toInt by decide) rfl rfl ?_
  refine J_b 2 am_d209 rfl ?_
  exact J_iret (am_d209 rfl) rfl rfl ⟨rfl, rfl, rfl⟩
theorem sp134_4 {X : am_X} {M : am_M} {N : am_N}  : am_J X (am_eq (some (.int (M 0 11))) (M) N) 134 0 (am_en 134 [.ref 0, .int 4]) [] M N := by
  refine J_en (L := [.ref 0, .int 4]) rfl ?_
  refine J_b 1 am_d134 rfl ?_
  refine J_tsIn 80 (am_d134 rfl) (show ¬ (4 : Int32).toInt < 0 by decide) (show ¬ (7 : Int) < (4 : Int32).toInt by decide) rfl rfl ?_
  refine J_b 2 am_d134 rfl ?_
  exact J_iret (am_d134 rfl) rfl rfl ⟨rfl, rfl, rfl⟩
theorem sp209_4 {X : am_X} {M : am_M} {N : am_N}  : am_J X (am_eq (some (.int (M 120 45))) (M) N) 209 0 (am_en 209 [.ref 120, .int 4]) [] M N := by
  refine J_en (L := [.ref 120, .int 4, .retAddr 0, .retAddr 0]) rfl ?_
  refine J_b 3 am_d209 rfl ?_
  refine J_tsIn 68 (am_d209 rfl) (show ¬ (4 : Int32).toInt < 0 by decide) (show ¬ (7 : Int) < (4 : Int32).toInt by decide) rfl rfl ?_
  refine J_b 2 am_d209 rfl ?_
  exact J_iret (am_d209 rfl) rfl rfl ⟨rfl, rfl, rfl⟩
theorem sp134_5 {X : am_X} {M : am_M} {N : am_N}  : am_J X (am_eq (some (.int (M 110 1))) (M) N) 134 0 (am_en 134 [.ref 0, .int 5]) [] M N := by
  refine J_en (L := [.ref 0, .int 5]) rfl ?_
  refine J_b 1 am_d134 rfl ?_
  refine J_tsIn 85 (am_d134 rfl) (show ¬ (5 : Int32).toInt < 0 by decide) (show ¬ (7 : Int) < (5 : Int32).toInt by decide) rfl rfl ?_
  refine J_b 3 am_d134 rfl ?_
  exact J_iret (am_d134 rfl) rfl rfl ⟨rfl, rfl, rfl⟩
theorem sp209_5 {X : am_X} {M : am_M} {N : am_N}  : am_J X (am_eq (some (.int (M 120 55))) (M) N) 209 0 (am_en 209 [.ref 120, .int 5]) [] M N := by
  refine J_en (L := [.ref 120, .int 5, .retAddr 0, .retAddr 0]) rfl ?_
  refine J_b 3 am_d209 rfl ?_
  refine J_tsIn 73 (am_d209 rfl) (show ¬ (5 : Int32).toInt < 0 by decide) (show ¬ (7 : Int) < (5 : Int32).toInt by decide) rfl rfl ?_
  refine J_b 2 am_d209 rfl ?_
  exact J_iret (am_d209 rfl) rfl rfl ⟨rfl, rfl, rfl⟩
theorem sp134_6 {X : am_X} {M : am_M} {N : am_N}  {F : Nat} (eF : M 18 7 = nI F) (hF : F ≤ 5) : am_J X (am_eq (some (.int (smI (M 21) F))) (M) N) 134 0 (am_en 134 [.ref 0, .int 6]) [] M N := by
  refine J_en (L := [.ref 0, .int 6]) rfl ?_
  refine J_b 1 am_d134 rfl ?_
  refine J_tsIn 93 (am_d134 rfl) (show ¬ (6 : Int32).toInt < 0 by decide) (show ¬ (7 : Int) < (6 : Int32).toInt by decide) rfl rfl ?_
  refine J_b 2 am_d134 rfl ?_
  refine J_V0s 135 (am_d134 rfl) rfl rfl (sp135 eF hF) ?_
  exact J_iret (am_d134 rfl) rfl rfl ⟨rfl, rfl, rfl⟩
theorem sp209_6 {X : am_X} {M : am_M} {N : am_N}  {F : Nat} (eF : M 120 22 = nI F) (hF : F ≤ 5) : am_J X (am_eq (some (.int (smI (M 138) F))) (M) N) 209 0 (am_en 209 [.ref 120, .int 6]) [] M N := by
  refine J_en (L := [.ref 120, .int 6, .retAddr 0, .retAddr 0]) rfl ?_
  refine J_b 3 am_d209 rfl ?_
  refine J_tsIn 78 (am_d209 rfl) (show ¬ (6 : Int32).toInt < 0 by decide) (show ¬ (7 : Int) < (6 : Int32).toInt by decide) rfl rfl ?_
  refine J_b 2 am_d209 rfl ?_
  exact lp209c eF hF F 0 (Nat.zero_add _) _ rfl _ rfl
theorem sp134_7 {X : am_X} {M : am_M} {N : am_N}  {F : Nat} (eF : M 32 7 = nI F) (hF : F ≤ 16) : am_J X (am_eq (some (.int (smI (fun f => if M 39 f = 0 then 0 else 1) F))) (M) N) 134 0 (am_en 134 [.ref 0, .int 7]) [] M N := by
  refine J_en (L := [.ref 0, .int 7]) rfl ?_
  refine J_b 1 am_d134 rfl ?_
  refine J_tsIn 101 (am_d134 rfl) (show ¬ (7 : Int32).toInt < 0 by decide) (show ¬ (7 : Int) < (7 : Int32).toInt by decide) rfl rfl ?_
  refine J_b 2 am_d134 rfl ?_
  refine J_V0s 136 (am_d134 rfl) rfl rfl (sp136 eF hF) ?_
  exact J_iret (am_d134 rfl) rfl rfl ⟨rfl, rfl, rfl⟩
theorem sp209_7 {X : am_X} {M : am_M} {N : am_N}  {F : Nat} (eF : M 120 44 = nI F) (hF : F ≤ 16) : am_J X (am_eq (some (.int (smI (fun f => if M 159 f = 0 then 0 else 1) F))) (M) N) 209 0 (am_en 209 [.ref 120, .int 7]) [] M N := by
  refine J_en (L := [.ref 120, .int 7, .retAddr 0, .retAddr 0]) rfl ?_
  refine J_b 3 am_d209 rfl ?_
  refine J_tsIn 105 (am_d209 rfl) (show ¬ (7 : Int32).toInt < 0 by decide) (show ¬ (7 : Int) < (7 : Int32).toInt by decide) rfl rfl ?_
  refine J_b 2 am_d209 rfl ?_
  exact lp209o eF hF F 0 (Nat.zero_add _) _ rfl _ rfl
theorem sp134d {X : am_X} {M : am_M} {N : am_N} {x : Int32} (g1 : x.toInt < 0 ∨ 7 < x.toInt) : am_J X (am_eq (some (.int (-1))) (M) N) 134 0 (am_en 134 [.ref 0, .int x]) [] M N := by
  refine J_en (L := [.ref 0, .int x]) rfl ?_
  refine J_b 1 am_d134 rfl ?_
  refine J_tsOut 109 (am_d134 rfl) g1 rfl ?_
  refine J_b 1 am_d134 rfl ?_
  exact J_iret (am_d134 rfl) rfl rfl ⟨rfl, rfl, rfl⟩
theorem sp209d {X : am_X} {M : am_M} {N : am_N} {x : Int32} (g1 : x.toInt < 0 ∨ 7 < x.toInt) : am_J X (am_eq (some (.int (-1))) (M) N) 209 0 (am_en 209 [.ref 120, .int x]) [] M N := by
  refine J_en (L := [.ref 120, .int x, .retAddr 0, .retAddr 0]) rfl ?_
  refine J_b 3 am_d209 rfl ?_
  refine J_tsOut 140 (am_d209 rfl) g1 rfl ?_
  refine J_b 1 am_d209 rfl ?_
  exact J_iret (am_d209 rfl) rfl rfl ⟨rfl, rfl, rfl⟩
theorem pr_count {X : am_X} (x : Int32) : am_pI iv X 134 209 [.int x] := by
  intro c0 M N hc0 h
  have e22 : M 120 22 = M 18 7 := h.1.2.1.1.2
  have e44 : M 120 44 = M 32 7 := h.1.2.2.2.1.2
  have e5 := h.1.2.1.2.1
  have e16 := h.1.2.2.2.2.1
  unfold b_in at e5 e16
  have e43 : M 120 43 = M 26 5 := h.1.2.2.1.1.2
  have e45 : M 120 45 = M 0 11 := h.2.1.1.1
  have e55 : M 120 55 = M 110 1 := h.2.1.2.1.2.1
  have e56 : M 120 56 = M 112 7 := h.2.1.2.2.1
  have a3 : M 138 = M 21 := h.1.2.1.1.1.2.2.1
  have f7 : M 159 = M 39 := h.1.2.2.2.1.1.2.2.2.2.2.2
  by_cases g1 : x.toInt < 0 ∨ 7 < x.toInt
  · exact pr_e (sp134d g1) (sp209d g1) (iv_up _ _ _ h)
  have eS := I_nI e5.1
  have iS := I_cl e5.1
  generalize (M 18 7).toNatClampNeg = S at eS iS
  have hS : S ≤ 5 := by omega
  have eF := I_nI e16.1
  have iF := I_cl e16.1
  generalize (M 32 7).toNatClampNeg = F at eF iF
  have hF : F ≤ 16 := by omega
  have hx : x.toInt = 0 ∨ x.toInt = 1 ∨ x.toInt = 2 ∨ x.toInt = 3 ∨ x.toInt = 4 ∨ x.toInt = 5 ∨ x.toInt = 6 ∨ x.toInt = 7 := by omega
  rcases hx with hx | hx | hx | hx | hx | hx | hx | hx
  · have ex : x = 0 := I_eq hx
    subst ex
    have q := sp209_0 (X := X) (M := M) (N := N)
    rw [e22] at q
    exact pr_e (sp134_0) q (iv_up _ _ _ h)
  · have ex : x = 1 := I_eq hx
    subst ex
    have q := sp209_1 (X := X) (M := M) (N := N)
    rw [e43] at q
    exact pr_e (sp134_1) q (iv_up _ _ _ h)
  · have ex : x = 2 := I_eq hx
    subst ex
    have q := sp209_2 (X := X) (M := M) (N := N)
    rw [e44] at q
    exact pr_e (sp134_2) q (iv_up _ _ _ h)
  · have ex : x = 3 := I_eq hx
    subst ex
    have q := sp209_3 (X := X) (M := M) (N := N)
    rw [e56] at q
    exact pr_e (sp134_3) q (iv_up _ _ _ h)
  · have ex : x = 4 := I_eq hx
    subst ex
    have q := sp209_4 (X := X) (M := M) (N := N)
    rw [e45] at q
    exact pr_e (sp134_4) q (iv_up _ _ _ h)
  · have ex : x = 5 := I_eq hx
    subst ex
    have q := sp209_5 (X := X) (M := M) (N := N)
    rw [e55] at q
    exact pr_e (sp134_5) q (iv_up _ _ _ h)
  · have ex : x = 6 := I_eq hx
    subst ex
    have q := sp209_6 (X := X) (M := M) (N := N) (by rw [e22]; exact eS) hS
    rw [a3] at q
    exact pr_e (sp134_6 eS hS) q (iv_up _ _ _ h)
  · have ex : x = 7 := I_eq hx
    subst ex
    have q := sp209_7 (X := X) (M := M) (N := N) (by rw [e44]; exact eF) hF
    rw [f7] at q
    exact pr_e (sp134_7 eF hF) q (iv_up _ _ _ h)
