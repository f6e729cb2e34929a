/-! ===== cast ===== -/
abbrev c_nu (fi mn : Int32) : Prop := (0 ≤ fi.toInt ∧ fi.toInt ≤ 9999) ∧ (1 ≤ mn.toInt ∧ mn.toInt ≤ 1000) ∧ fi.toInt + mn.toInt ≤ 10000
abbrev c_mr (kd mr : Int32) : Prop := (0 ≤ mr.toInt ∧ mr.toInt < 400) ∧ (kd = 2 → 1 ≤ mr.toInt % 100 ∧ mr.toInt % 100 ≤ 12) ∧ (¬ kd = 2 → mr.toInt % 100 = 0)
theorem nu_e {fi mn : Int32} (h1 : 0 ≤ fi.toInt ∧ fi.toInt ≤ 9999) (h2 : 1 ≤ mn.toInt ∧ mn.toInt ≤ 1000) : (fi + mn - 1).toInt = fi.toInt + mn.toInt - 1 := by
  have z : (1 : Int32).toInt = 1 := rfl
  have e : (fi + mn).toInt = fi.toInt + mn.toInt := I_add (by omega)
  rw [I_sub (by omega), e, z]
theorem bi_t {P : Prop} [Decidable P] (h : P) : some (Value.int (Int32.ofInt 1)) = some (Value.int (am_bi P)) := congrArg (fun z => some (Value.int z)) (if_pos h).symm
theorem bi_f {P : Prop} [Decidable P] (h : ¬ P) : some (Value.int (Int32.ofInt 0)) = some (Value.int (am_bi P)) := congrArg (fun z => some (Value.int z)) (if_neg h).symm
theorem bi_c {P R : Prop} [Decidable P] [Decidable R] (h : P ↔ R) : some (Value.int (am_bi P)) = some (Value.int (am_bi R)) := by
  unfold am_bi
  by_cases hp : P
  · rw [if_pos hp, if_pos (h.mp hp)]
  · rw [if_neg hp, if_neg (fun z => hp (h.mpr z))]
theorem mr_d {mr : Int32} (h : 0 ≤ mr.toInt) : (mr / 100).toInt = mr.toInt / 100 ∧ (mr - mr / 100 * 100).toInt = mr.toInt % 100 := ⟨I_div100 h, I_rem100 h⟩
theorem sp28 {X : am_X} {M : am_M} {N : am_N} {fi mn : Int32} : am_J X (am_eq (some (.int (am_bi (c_nu fi mn)))) (M) N) 28 0 (am_en 28 [.int fi, .int mn]) [] M N := by
  refine J_en (L := [.int fi, .int mn]) rfl ?_
  refine J_b 3 am_d28 rfl ?_
  refine J_S3s 14 (am_d28 rfl) rfl rfl (sp14) ?_
  refine J_if_eq 37 (am_d28 rfl) rfl (fun h8 => ?_) (fun h8 => ?_)
  · refine J_b 1 am_d28 rfl ?_
    exact J_iret (am_d28 rfl) rfl rfl ⟨bi_f (fun z => am_bi0.mp h8 z.1), rfl, rfl⟩
  · refine J_b 3 am_d28 rfl ?_
    refine J_S3s 14 (am_d28 rfl) rfl rfl (sp14) ?_
    refine J_if_eq 37 (am_d28 rfl) rfl (fun h19 => ?_) (fun h19 => ?_)
    · refine J_b 1 am_d28 rfl ?_
      exact J_iret (am_d28 rfl) rfl rfl ⟨bi_f (fun z => am_bi0.mp h19 z.2.1), rfl, rfl⟩
    · refine J_b 6 am_d28 rfl ?_
      refine J_icmp_gt 37 (am_d28 rfl) rfl (fun h30 => ?_) (fun h30 => ?_)
      · refine J_b 1 am_d28 rfl ?_
        exact J_iret (am_d28 rfl) rfl rfl ⟨bi_f (fun z => (by have e := nu_e z.1 z.2.1; have h := z.2.2; have q : (9999 : Int) < (fi + mn - 1).toInt := Int32.lt_iff_toInt_lt.mp h30; omega)), rfl, rfl⟩
      · have e := nu_e (am_bi1.mp h8) (am_bi1.mp h19)
        have a8 := am_bi1.mp h8
        have a19 := am_bi1.mp h19
        have h30b : ¬ (9999 : Int) < (fi + mn - 1).toInt := fun z => h30 (Int32.lt_iff_toInt_lt.mpr z)
        refine J_b 2 am_d28 rfl ?_
        exact J_iret (am_d28 rfl) rfl rfl ⟨bi_t ⟨a8, a19, by omega⟩, rfl, rfl⟩
theorem sp29 {X : am_X} {M : am_M} {N : am_N} {kd mr : Int32} : am_J X (am_eq (some (.int (am_bi (c_mr kd mr)))) (M) N) 29 0 (am_en 29 [.int kd, .int mr]) [] M N := by
  refine J_en (L := [.int kd, .int mr, .retAddr 0]) rfl ?_
  refine J_b 1 am_d29 rfl ?_
  refine J_if_lt 12 (am_d29 rfl) rfl (fun h1 => ?_) (fun h1 => ?_)
  · refine J_b 1 am_d29 rfl ?_
    exact J_iret (am_d29 rfl) rfl rfl ⟨bi_f (fun z => (by have := Int32.lt_iff_toInt_lt.mp h1; have q := z.1.1; have z0 : (0 : Int32).toInt = 0 := rfl; omega)), rfl, rfl⟩
  · refine J_b 4 am_d29 rfl ?_
    refine J_icmp_lt 14 (am_d29 rfl) rfl (fun h9 => ?_) (fun h9 => ?_)
    · have hm0 : 0 ≤ mr.toInt := Int.not_lt.mp (fun z => h1 (Int32.lt_iff_toInt_lt.mpr z))
      have hd := mr_d hm0
      have h9b : (mr / 100).toInt < 4 := Int32.lt_iff_toInt_lt.mp h9
      refine J_b 6 am_d29 rfl ?_
      refine J_icmp_ne 34 (am_d29 rfl) rfl (fun h21 => ?_) (fun h21 => ?_)
      · refine J_b 1 am_d29 rfl ?_
        refine J_if_ne 42 (am_d29 rfl) rfl (fun h35 => ?_) (fun h35 => ?_)
        · refine J_b 1 am_d29 rfl ?_
          exact J_iret (am_d29 rfl) rfl rfl ⟨bi_f (fun z => h35 (I_eq (by have := z.2.2 h21; rw [← hd.2] at this; exact this))), rfl, rfl⟩
        · refine J_b 2 am_d29 rfl ?_
          exact J_iret (am_d29 rfl) rfl rfl ⟨bi_t ⟨⟨hm0, by omega⟩, fun q => absurd q h21, fun _ => by rw [← hd.2, show mr - mr / 100 * 100 = 0 from h35]; rfl⟩, rfl, rfl⟩
      · refine J_b 3 am_d29 rfl ?_
        refine J_S3s 14 (am_d29 rfl) rfl rfl (sp14) ?_
        refine J_b 1 am_d29 rfl ?_
        exact J_iret (am_d29 rfl) rfl am_bin ⟨bi_c ⟨fun z => ⟨⟨hm0, by omega⟩, fun _ => by rw [← hd.2]; exact z, fun q => absurd h21 q⟩, fun z => by have := z.2.1 h21; rw [← hd.2] at this; exact this⟩, rfl, rfl⟩
    · refine J_b 1 am_d29 rfl ?_
      exact J_iret (am_d29 rfl) rfl rfl ⟨bi_f (fun z => (by have hd := mr_d z.1.1; have q := z.1.2; exact h9 (Int32.lt_iff_toInt_lt.mpr (by show (mr / 100).toInt < 4; omega)))), rfl, rfl⟩
abbrev c_hn (M : am_M) (S : Nat) (ca fi mn : Int32) : Prop := ∃ c, c < S ∧ (M 24 c = ca ∧ fi < M 20 c + M 21 c ∧ M 20 c < fi + mn)
theorem hn_no {S i : Nat} {P : Nat → Prop} (h : ∀ c, c < i → ¬ P c) (hi : ¬ P i) : ∀ c, c < i + 1 → ¬ P c := by
  intro c hc
  by_cases e : c = i
  · subst e
    exact hi
  · exact h c (by omega)
theorem lp31 {X : am_X} {M : am_M} {N : am_N} {ca fi mn : Int32} {S : Nat} (hS5 : S ≤ 5) (eS : M 18 7 = nI S) : ∀ (n i : Nat), i + n = S → ∀ (x : Int32), x = nI i → (∀ c, c < i → ¬ (M 24 c = ca ∧ fi < M 20 c + M 21 c ∧ M 20 c < fi + mn)) → am_J X (am_eq (some (.int (am_bi (c_hn M S ca fi mn)))) M N) 31 3 [.ref 18, .int ca, .int fi, .int mn, .int x] [] M N := by
  intro n
  induction n with
  | zero =>
    intro i hn x ex hno
    have e : i = S := by omega
    subst ex
    have hge : M 18 7 ≤ nI i := by rw [eS, e]; exact Int32.le_refl _
    refine J_b 3 am_d31 rfl ?_
    refine J_icmp_ge 63 (am_d31 rfl) rfl (fun h9 => ?_) (fun h9 => absurd (hge) h9)
    refine J_b 1 am_d31 rfl ?_
    exact J_iret (am_d31 rfl) rfl rfl ⟨bi_f (fun ⟨c, hc, hp⟩ => hno c (by omega) hp), rfl, rfl⟩
  | succ n ih =>
    intro i hn x ex hno
    subst ex
    have hlt : ¬ M 18 7 ≤ nI i := by rw [eS]; exact nI_ngt (by omega) (by omega)
    refine J_b 3 am_d31 rfl ?_
    refine J_icmp_ge 63 (am_d31 rfl) rfl (fun h9 => absurd h9 hlt) (fun h9 => ?_)
    refine J_b 3 am_d31 rfl ?_
    refine J_iald (am_d31 rfl) rfl (vp_in_nI (show i < 5 by omega) (by decide)) ?_
    rw [nI_c (n := i) (by omega)]
    show am_J X _ 31 19 _ (.int (M 24 i) :: _) _ N
    refine J_b 1 am_d31 rfl ?_
    refine J_icmp_ne 57 (am_d31 rfl) rfl (fun h20 => ?_) (fun h20 => ?_)
    · refine J_b 2 am_d31 rfl ?_
      exact ih (i + 1) (by omega) _ (nI_1 i) (hn_no (S := S) hno (fun z => h20 z.1))
    · refine J_b 4 am_d31 rfl ?_
      refine J_iald (am_d31 rfl) rfl (vp_in_nI (show i < 5 by omega) (by decide)) ?_
      rw [nI_c (n := i) (by omega)]
      show am_J X _ 31 31 _ (.int (M 20 i) :: _) _ N
      refine J_b 3 am_d31 rfl ?_
      refine J_iald (am_d31 rfl) rfl (vp_in_nI (show i < 5 by omega) (by decide)) ?_
      rw [nI_c (n := i) (by omega)]
      show am_J X _ 31 38 _ (.int (M 21 i) :: _) _ N
      refine J_b 1 am_d31 rfl ?_
      refine J_icmp_ge 57 (am_d31 rfl) rfl (fun h39 => ?_) (fun h39 => ?_)
      · refine J_b 2 am_d31 rfl ?_
        exact ih (i + 1) (by omega) _ (nI_1 i) (hn_no (S := S) hno (fun z => absurd z.2.1 (Int32.not_lt.mpr h39)))
      · refine J_b 3 am_d31 rfl ?_
        refine J_iald (am_d31 rfl) rfl (vp_in_nI (show i < 5 by omega) (by decide)) ?_
        rw [nI_c (n := i) (by omega)]
        show am_J X _ 31 49 _ (.int (M 20 i) :: _) _ N
        refine J_b 3 am_d31 rfl ?_
        refine J_icmp_ge 57 (am_d31 rfl) rfl (fun h52 => ?_) (fun h52 => ?_)
        · refine J_b 2 am_d31 rfl ?_
          exact ih (i + 1) (by omega) _ (nI_1 i) (hn_no (S := S) hno (fun z => absurd z.2.2 (Int32.not_lt.mpr h52)))
        · refine J_b 1 am_d31 rfl ?_
          exact J_iret (am_d31 rfl) rfl rfl ⟨bi_t ⟨i, by omega, h20, Int32.not_le.mp h39, Int32.not_le.mp h52⟩, rfl, rfl⟩
theorem sp31 {X : am_X} {M : am_M} {N : am_N} {ca fi mn : Int32} {S : Nat} (hS5 : S ≤ 5) (eS : M 18 7 = nI S) : am_J X (am_eq (some (.int (am_bi (c_hn M S ca fi mn)))) (M) N) 31 0 (am_en 31 [.ref 18, .int ca, .int fi, .int mn]) [] M N := by
  refine J_en (L := [.ref 18, .int ca, .int fi, .int mn, .retAddr 0]) rfl ?_
  refine J_b 2 am_d31 rfl ?_
  exact lp31 hS5 eS S 0 (Nat.zero_add _) _ rfl (fun c hc => absurd hc (by omega))
theorem sp32 {X : am_X} {M : am_M} {N : am_N} {kd fi mn mo p ca sk : Int32} (h : 0 ≤ (M 18 7).toInt ∧ (M 18 7).toInt < 5) : am_J X (am_eq (some (.int (M 18 7))) (am_up (am_up (am_up (am_up (am_up (am_up (am_up (am_up M 19 (M 18 7).toNatClampNeg kd) 20 (M 18 7).toNatClampNeg fi) 21 (M 18 7).toNatClampNeg mn) 22 (M 18 7).toNatClampNeg mo) 23 (M 18 7).toNatClampNeg p) 24 (M 18 7).toNatClampNeg ca) 25 (M 18 7).toNatClampNeg sk) 18 7 (M 18 7 + 1)) N) 32 0 (am_en 32 [.ref 18, .int kd, .int fi, .int mn, .int mo, .int p, .int ca, .int sk]) [] M N := by
  refine J_en (L := [.ref 18, .int kd, .int fi, .int mn, .int mo, .int p, .int ca, .int sk]) rfl ?_
  refine J_b 5 am_d32 rfl ?_
  refine J_iast (am_d32 rfl) rfl (vp_of h) ?_
  refine J_b 5 am_d32 rfl ?_
  refine J_iast (am_d32 rfl) rfl (vp_of h) ?_
  refine J_b 5 am_d32 rfl ?_
  refine J_iast (am_d32 rfl) rfl (vp_of h) ?_
  refine J_b 5 am_d32 rfl ?_
  refine J_iast (am_d32 rfl) rfl (vp_of h) ?_
  refine J_b 5 am_d32 rfl ?_
  refine J_iast (am_d32 rfl) rfl (vp_of h) ?_
  refine J_b 5 am_d32 rfl ?_
  refine J_iast (am_d32 rfl) rfl (vp_of h) ?_
  refine J_b 5 am_d32 rfl ?_
  refine J_iast (am_d32 rfl) rfl (vp_of h) ?_
  refine J_b 6 am_d32 rfl ?_
  refine J_puti (am_d32 rfl) rfl ?_
  exact J_iret (am_d32 rfl) rfl rfl ⟨rfl, rfl, rfl⟩
def m_cc (M : am_M) (c F : Nat) : am_M := fun r j => if 61 ≤ r ∧ r < 77 then (if r < 61 + F ∧ j = c then c_cd M (r - 61) c else M r j) else M r j
theorem mcc_0 {M : am_M} {c : Nat} : m_cc M c 0 = M := by
  funext r j
  unfold m_cc
  split
  · rw [if_neg (by omega)]
  · rfl
theorem mcc_s {M : am_M} {c i : Nat} (hi : i < 16) : am_up (m_cc M c i) (61 + i) c (c_cd M i c) = m_cc M c (i + 1) := by
  funext r j
  unfold am_up m_cc
  by_cases h1 : r = 61 + i
  · have h3 : 61 ≤ r ∧ r < 77 := by omega
    rw [if_pos h1]
    by_cases h2 : j = c
    · rw [if_pos h2, if_pos h3, if_pos ⟨by omega, h2⟩, show r - 61 = i by omega]
    · rw [if_neg h2, if_pos h3, if_pos h3, if_neg (fun z => h2 z.2), if_neg (fun z => h2 z.2)]
  · rw [if_neg h1]
    by_cases h3 : 61 ≤ r ∧ r < 77
    · rw [if_pos h3, if_pos h3]
      by_cases h4 : r < 61 + i ∧ j = c
      · rw [if_pos h4, if_pos ⟨by omega, h4.2⟩]
      · rw [if_neg h4, if_neg (fun z => h4 ⟨by omega, z.2⟩)]
    · rw [if_neg h3, if_neg h3]
theorem cd_mcc {M : am_M} {c F f d : Nat} : c_cd (m_cc M c F) f d = c_cd M f d := rfl
theorem sh61 : ∀ f, f < 16 → am_SH[61 + f]? = some (.inl (0, 5)) := by
  intro f hf
  match f, hf with
  | 0, _ => rfl
  | 1, _ => rfl
  | 2, _ => rfl
  | 3, _ => rfl
  | 4, _ => rfl
  | 5, _ => rfl
  | 6, _ => rfl
  | 7, _ => rfl
  | 8, _ => rfl
  | 9, _ => rfl
  | 10, _ => rfl
  | 11, _ => rfl
  | 12, _ => rfl
  | 13, _ => rfl
  | 14, _ => rfl
  | 15, _ => rfl
  | (n + 16), h => exact absurd h (by omega)
theorem lp33 {X : am_X} {M : am_M} {N : am_N} {c F : Nat} (hF : F ≤ 16) (eF : M 32 7 = nI F) (hc : c < 5) (hmn : b_in (M 21 c) 0 1000) : ∀ (n i : Nat), i + n = F → ∀ (x : Int32), x = nI i → am_J X (am_eq none (m_cc M c F) N) 33 2 [.ref 59, .int (nI c), .int x] [] (m_cc M c i) N := by
  intro n
  induction n with
  | zero =>
    intro i hn x ex
    have e : i = F := by omega
    subst ex
    have hge : M 32 7 ≤ nI i := by rw [eF, e]; exact Int32.le_refl _
    refine J_b 4 am_d33 rfl ?_
    refine J_icmp_ge 33 (am_d33 rfl) rfl (fun h10 => ?_) (fun h10 => absurd (hge) h10)
    exact J_ret (am_d33 rfl) rfl ⟨rfl, by rw [e], rfl⟩
  | succ n ih =>
    intro i hn x ex
    subst ex
    have hi : i < 16 := by omega
    have hlt : ¬ M 32 7 ≤ nI i := by rw [eF]; exact nI_ngt (by omega) (by omega)
    refine J_b 4 am_d33 rfl ?_
    refine J_icmp_ge 33 (am_d33 rfl) rfl (fun h10 => absurd h10 hlt) (fun h10 => ?_)
    refine J_b 3 am_d33 rfl ?_
    refine J_aaldk (61 + i) (am_d33 rfl) rfl (vp_in_nI hi (by decide)) (by rw [nI_c (by omega)]) ?_
    refine J_b 4 am_d33 rfl ?_
    refine J_V2s 34 (am_d33 rfl) rfl rfl (sp34 hi hc hmn) ?_
    refine J_iast (am_d33 rfl) (sh61 i hi) (vp_in_nI hc (by decide)) ?_
    rw [nI_c (n := c) (by omega), cd_mcc, mcc_s hi]
    refine J_b 2 am_d33 rfl ?_
    exact ih (i + 1) (by omega) _ (nI_1 i)
theorem sp33 {X : am_X} {M : am_M} {N : am_N} {c F : Nat} (hF : F ≤ 16) (eF : M 32 7 = nI F) (hc : c < 5) (hmn : b_in (M 21 c) 0 1000) : am_J X (am_eq (none) (m_cc M c F) N) 33 0 (am_en 33 [.ref 59, .int (nI c)]) [] M N := by
  refine J_en (L := [.ref 59, .int (nI c), .retAddr 0]) rfl ?_
  refine J_b 2 am_d33 rfl ?_
  refine J_mem (mcc_0 (c := c)).symm ?_
  exact lp33 hF eF hc hmn F 0 (Nat.zero_add _) _ rfl
