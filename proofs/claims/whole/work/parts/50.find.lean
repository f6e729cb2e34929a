/-! ===== find ===== -/
abbrev c_rw (row : Int32) : Prop := (0 ≤ row.toInt ∧ row.toInt ≤ 65535) ∧ ∀ k, k < 4 → c_dg row k ≤ 10
theorem lp64 {X : am_X} {M : am_M} {N : am_N} {row : Int32} (h0 : 0 ≤ row.toInt ∧ row.toInt ≤ 65535) : ∀ (n i : Nat), i + n = 4 → ∀ (x : Int32), x = nI i → (∀ k, k < i → c_dg row k ≤ 10) → am_J X (am_eq (some (.int (am_bi (c_rw row)))) M N) 64 15 [.int row, .int x] [] M N := by
  intro n
  induction n with
  | zero =>
    intro i hn x ex ha
    have e : i = 4 := by omega
    subst e
    subst ex
    refine J_b 2 am_d64 rfl ?_
    refine J_icmp_ge 38 (am_d64 rfl) rfl (fun h17 => ?_) (fun h17 => absurd (Int32.le_refl _) h17)
    refine J_b 1 am_d64 rfl ?_
    exact J_iret (am_d64 rfl) rfl rfl ⟨bi_t ⟨h0, ha⟩, rfl, rfl⟩
  | succ n ih =>
    intro i hn x ex ha
    have hi : i < 4 := by omega
    subst ex
    refine J_b 2 am_d64 rfl ?_
    refine J_icmp_ge 38 (am_d64 rfl) rfl (fun h17 => absurd h17 (nI_4 hi)) (fun h17 => ?_)
    refine J_b 2 am_d64 rfl ?_
    refine J_S2s 36 (am_d64 rfl) rfl rfl (sp36) ?_
    refine J_b 1 am_d64 rfl ?_
    refine J_icmp_le 32 (am_d64 rfl) rfl (fun h27 => ?_) (fun h27 => ?_)
    · refine J_b 2 am_d64 rfl ?_
      exact ih (i + 1) (by omega) _ (nI_1 i) (fun k hk => (Nat.lt_succ_iff_lt_or_eq.mp hk).elim (ha k) (fun e => e ▸ h27))
    · refine J_b 1 am_d64 rfl ?_
      exact J_iret (am_d64 rfl) rfl rfl ⟨bi_f (fun z => h27 (z.2 i hi)), rfl, rfl⟩
theorem sp64 {X : am_X} {M : am_M} {N : am_N} {row : Int32} : am_J X (am_eq (some (.int (am_bi (c_rw row)))) (M) N) 64 0 (am_en 64 [.int row]) [] M N := by
  refine J_en (L := [.int row, .retAddr 0]) rfl ?_
  refine J_b 3 am_d64 rfl ?_
  refine J_S3s 14 (am_d64 rfl) rfl rfl (sp14) ?_
  refine J_if_ne 13 (am_d64 rfl) rfl (fun h8 => ?_) (fun h8 => ?_)
  · refine J_b 2 am_d64 rfl ?_
    exact lp64 (am_bi1.mp h8) 4 0 rfl _ rfl (fun k hk => absurd hk (by omega))
  · refine J_b 1 am_d64 rfl ?_
    exact J_iret (am_d64 rfl) rfl rfl ⟨bi_f (fun z => am_bi0.mp h8 z.1), rfl, rfl⟩
def c_q (row : Int32) (k : Nat) : Prop := (0 ≤ row.toInt ∧ row.toInt ≤ 65535) ∧ (k = 0 ∨ c_dg row (k - 1) ≤ 10)
theorem q_rw {row : Int32} : c_rw row ↔ ∀ k, k < 5 → c_q row k := by
  constructor
  · intro h k hk
    refine ⟨h.1, ?_⟩
    by_cases e : k = 0
    · exact .inl e
    · exact .inr (h.2 (k - 1) (by omega))
  · intro h
    refine ⟨(h 0 (by omega)).1, fun k hk => ?_⟩
    have := (h (k + 1) (by omega)).2
    exact this.elim (fun z => absurd z (by omega)) id
theorem q_0 {g row : Int32} {i : Nat} (h : ¬ g = 0) (hg : ((g = 1 ∧ ∀ k, k < (i + 1) → c_q row k) ∨ (g = 0 ∧ ∃ k, k < (i + 1) ∧ ¬ c_q row k))) : 0 ≤ row.toInt ∧ row.toInt ≤ 65535 := by
  rcases hg with ⟨_, hp⟩ | ⟨hg, _⟩
  · exact (hp 0 (by omega)).1
  · exact absurd hg h
theorem lp165 {X : am_X} {M : am_M} {N : am_N} {row : Int32} : ∀ (n i : Nat), i + n = 4 → ∀ (x : Int32), x = nI i → ∀ (g : Int32), ((g = 1 ∧ ∀ k, k < (i + 1) → c_q row k) ∨ (g = 0 ∧ ∃ k, k < (i + 1) ∧ ¬ c_q row k)) → am_J X (am_eq (some (.int (am_bi (c_rw row)))) M N) 165 12 [.int row, .int g, .int x] [] M N := by
  intro n
  induction n with
  | zero =>
    intro i hn x ex g hg
    have e : i = 4 := by omega
    subst e
    subst ex
    refine J_b 2 am_d165 rfl ?_
    refine J_icmp_ge 46 (am_d165 rfl) rfl (fun h14 => ?_) (fun h14 => absurd (Int32.le_refl _) h14)
    rcases hg with ⟨hg, hp⟩ | ⟨hg, k, hk, hp⟩
    · subst hg
      refine J_b 1 am_d165 rfl ?_
      exact J_iret (am_d165 rfl) rfl rfl ⟨bi_t (q_rw.mpr hp), rfl, rfl⟩
    · subst hg
      refine J_b 1 am_d165 rfl ?_
      exact J_iret (am_d165 rfl) rfl rfl ⟨bi_f (fun z => hp (q_rw.mp z k hk)), rfl, rfl⟩
  | succ n ih =>
    intro i hn x ex g hg
    have hi : i < 4 := by omega
    subst ex
    refine J_b 2 am_d165 rfl ?_
    refine J_icmp_ge 46 (am_d165 rfl) rfl (fun h14 => absurd h14 (nI_4 hi)) (fun h14 => ?_)
    refine J_b 1 am_d165 rfl ?_
    refine J_if_eq 38 (am_d165 rfl) rfl (fun h18 => ?_) (fun h18 => ?_)
    · refine J_b 4 am_d165 rfl ?_
      exact ih (i + 1) (by omega) _ (nI_1 i) _ (and_0 h18 hg)
    · refine J_b 8 am_d165 rfl ?_
      refine J_icmp_gt 38 (am_d165 rfl) rfl (fun h31 => ?_) (fun h31 => ?_)
      · refine J_b 4 am_d165 rfl ?_
        exact ih (i + 1) (by omega) _ (nI_1 i) _ (.inr ⟨rfl, i + 1, by omega, fun z => z.2.elim (fun z => absurd z (by omega)) (fun z => absurd h31 (Int32.not_lt.mpr z))⟩)
      · refine J_b 5 am_d165 rfl ?_
        exact ih (i + 1) (by omega) _ (nI_1 i) _ (and_1 h18 hg ⟨q_0 h18 hg, .inr (Int32.not_lt.mp h31)⟩)
theorem sp165 {X : am_X} {M : am_M} {N : am_N} {row : Int32} : am_J X (am_eq (some (.int (am_bi (c_rw row)))) (M) N) 165 0 (am_en 165 [.int row]) [] M N := by
  refine J_en (L := [.int row, .retAddr 0, .retAddr 0]) rfl ?_
  refine J_b 4 am_d165 rfl ?_
  refine J_S3s 140 (am_d165 rfl) rfl rfl (sp140) ?_
  refine J_b 1 am_d165 rfl ?_
  refine J_b 2 am_d165 rfl ?_
  refine lp165 4 0 rfl _ rfl _ ?_
  by_cases h : 0 ≤ row.toInt ∧ row.toInt ≤ 65535
  · refine .inl ⟨if_pos (by rw [Int32.toInt_toInt64]; exact h), fun k hk => ⟨h, .inl (by omega)⟩⟩
  · refine .inr ⟨if_neg (by rw [Int32.toInt_toInt64]; exact h), 0, by omega, fun z => h z.1⟩
theorem sp65 {X : am_X} {M : am_M} {N : am_N} {row ca nm fr to tm : Int32} (h : 0 ≤ (M 32 7).toInt ∧ (M 32 7).toInt < 16) : am_J X (am_eq (some (.int (M 32 7))) (am_up (am_up (am_up (am_up (am_up (am_up (am_up (am_up M 33 (M 32 7).toNatClampNeg row) 34 (M 32 7).toNatClampNeg ca) 35 (M 32 7).toNatClampNeg nm) 36 (M 32 7).toNatClampNeg fr) 37 (M 32 7).toNatClampNeg to) 38 (M 32 7).toNatClampNeg tm) 39 (M 32 7).toNatClampNeg (vp_nar .boolean 0)) 32 7 (M 32 7 + 1)) N) 65 0 (am_en 65 [.ref 32, .int row, .int ca, .int nm, .int fr, .int to, .int tm]) [] M N := by
  refine J_en (L := [.ref 32, .int row, .int ca, .int nm, .int fr, .int to, .int tm]) rfl ?_
  refine J_b 5 am_d65 rfl ?_
  refine J_iast (am_d65 rfl) rfl (vp_of h) ?_
  refine J_b 5 am_d65 rfl ?_
  refine J_iast (am_d65 rfl) rfl (vp_of h) ?_
  refine J_b 5 am_d65 rfl ?_
  refine J_iast (am_d65 rfl) rfl (vp_of h) ?_
  refine J_b 5 am_d65 rfl ?_
  refine J_iast (am_d65 rfl) rfl (vp_of h) ?_
  refine J_b 5 am_d65 rfl ?_
  refine J_iast (am_d65 rfl) rfl (vp_of h) ?_
  refine J_b 5 am_d65 rfl ?_
  refine J_iast (am_d65 rfl) rfl (vp_of h) ?_
  refine J_b 5 am_d65 rfl ?_
  refine J_zast (am_d65 rfl) rfl (vp_of h) ?_
  refine J_b 6 am_d65 rfl ?_
  refine J_puti (am_d65 rfl) rfl ?_
  exact J_iret (am_d65 rfl) rfl rfl ⟨rfl, rfl, rfl⟩
def m_cf (M : am_M) (f C : Nat) : am_M := fun r j => if 61 ≤ r ∧ r < 77 then (if r = 61 + f ∧ j < C then c_cd M f j else M r j) else M r j
theorem mcf_0 {M : am_M} {f : Nat} : m_cf M f 0 = M := by
  funext r j
  unfold m_cf
  split
  · rw [if_neg (by omega)]
  · rfl
theorem mcf_s {M : am_M} {f i : Nat} (hf : f < 16) : am_up (m_cf M f i) (61 + f) i (c_cd M f i) = m_cf M f (i + 1) := by
  funext r j
  unfold am_up m_cf
  by_cases h1 : r = 61 + f
  · have h3 : 61 ≤ r ∧ r < 77 := by omega
    rw [if_pos h1]
    by_cases h2 : j = i
    · rw [if_pos h2, if_pos h3, if_pos ⟨h1, by omega⟩, h2]
    · rw [if_neg h2, if_pos h3, if_pos h3]
      by_cases h4 : j < i
      · rw [if_pos ⟨h1, h4⟩, if_pos ⟨h1, by omega⟩]
      · rw [if_neg (fun z => h4 z.2), if_neg (fun z => h4 (by omega))]
  · rw [if_neg h1]
    by_cases h3 : 61 ≤ r ∧ r < 77
    · rw [if_pos h3, if_pos h3, if_neg (fun z => h1 z.1), if_neg (fun z => h1 z.1)]
    · rw [if_neg h3, if_neg h3]
theorem cd_mcf {M : am_M} {f C g d : Nat} : c_cd (m_cf M f C) g d = c_cd M g d := rfl
theorem lp66 {X : am_X} {M : am_M} {N : am_N} {f C : Nat} (hC : C ≤ 5) (eC : M 18 7 = nI C) (hf : f < 16) (hmn : ∀ c, b_in (M 21 c) 0 1000) : ∀ (n i : Nat), i + n = C → ∀ (x : Int32), x = nI i → am_J X (am_eq none (m_cf M f C) N) 66 2 [.ref 59, .int (nI f), .int x] [] (m_cf M f i) N := by
  intro n
  induction n with
  | zero =>
    intro i hn x ex
    have e : i = C := by omega
    subst ex
    have hge : M 18 7 ≤ nI i := by rw [eC, e]; exact Int32.le_refl _
    refine J_b 4 am_d66 rfl ?_
    refine J_icmp_ge 33 (am_d66 rfl) rfl (fun h10 => ?_) (fun h10 => absurd (hge) h10)
    exact J_ret (am_d66 rfl) rfl ⟨rfl, by rw [e], rfl⟩
  | succ n ih =>
    intro i hn x ex
    subst ex
    have hlt : ¬ M 18 7 ≤ nI i := by rw [eC]; exact nI_ngt (by omega) (by omega)
    refine J_b 4 am_d66 rfl ?_
    refine J_icmp_ge 33 (am_d66 rfl) rfl (fun h10 => absurd h10 hlt) (fun h10 => ?_)
    refine J_b 3 am_d66 rfl ?_
    refine J_aaldk (61 + f) (am_d66 rfl) rfl (vp_in_nI hf (by decide)) (by rw [nI_c (by omega)]) ?_
    refine J_b 4 am_d66 rfl ?_
    refine J_V2s 34 (am_d66 rfl) rfl rfl (sp34 hf (by omega) (hmn i)) ?_
    refine J_iast (am_d66 rfl) (sh61 f hf) (vp_in_nI (show i < 5 by omega) (by decide)) ?_
    rw [nI_c (n := i) (by omega), cd_mcf, mcf_s hf]
    refine J_b 2 am_d66 rfl ?_
    exact ih (i + 1) (by omega) _ (nI_1 i)
theorem sp66 {X : am_X} {M : am_M} {N : am_N} {f C : Nat} (hC : C ≤ 5) (eC : M 18 7 = nI C) (hf : f < 16) (hmn : ∀ c, b_in (M 21 c) 0 1000) : am_J X (am_eq (none) (m_cf M f C) N) 66 0 (am_en 66 [.ref 59, .int (nI f)]) [] M N := by
  refine J_en (L := [.ref 59, .int (nI f), .retAddr 0]) rfl ?_
  refine J_b 2 am_d66 rfl ?_
  refine J_mem (mcf_0 (f := f)).symm ?_
  exact lp66 hC eC hf hmn C 0 (Nat.zero_add _) _ rfl
theorem sp63a {X : am_X} {M : am_M} {N : am_N} {row ca nm fr to : Int32} (g1 : ¬ ((0 ≤ nm.toInt ∧ nm.toInt < (M 26 5).toInt) ∧ 0 ≤ ca.toInt ∧ ca.toInt < 4)) : am_J X (am_eq (some (.int (-1))) (M) N) 63 0 (am_en 63 [.ref 0, .int row, .int ca, .int nm, .int fr, .int to]) [] M N := by
  refine J_en (L := [.ref 0, .int row, .int ca, .int nm, .int fr, .int to, .retAddr 0]) rfl ?_
  refine J_b 4 am_d63 rfl ?_
  refine J_S2s 13 (am_d63 rfl) rfl rfl (sp13) ?_
  refine J_if_eq 22 (am_d63 rfl) rfl (fun h11 => ?_) (fun h11 => ?_)
  · refine J_b 1 am_d63 rfl ?_
    exact J_iret (am_d63 rfl) rfl rfl ⟨rfl, rfl, rfl⟩
  · refine J_b 2 am_d63 rfl ?_
    refine J_S2s 13 (am_d63 rfl) rfl rfl (sp13) ?_
    refine J_if_ne 24 (am_d63 rfl) rfl (fun h19 => ?_) (fun h19 => ?_)
    · exact absurd (show (0 ≤ nm.toInt ∧ nm.toInt < (M 26 5).toInt) ∧ 0 ≤ ca.toInt ∧ ca.toInt < 4 from ⟨am_bi1.mp h11, am_bi1.mp h19⟩) g1
    · refine J_b 1 am_d63 rfl ?_
      exact J_iret (am_d63 rfl) rfl rfl ⟨rfl, rfl, rfl⟩
theorem sp63b {X : am_X} {M : am_M} {N : am_N} {row ca nm fr to : Int32} (g1 : (0 ≤ nm.toInt ∧ nm.toInt < (M 26 5).toInt) ∧ 0 ≤ ca.toInt ∧ ca.toInt < 4) (g2 : ¬ (c_rw row ∧ 0 ≤ fr.toInt ∧ fr.toInt ≤ to.toInt ∧ to.toInt ≤ 60)) : am_J X (am_eq (some (.int (-2))) (M) N) 63 0 (am_en 63 [.ref 0, .int row, .int ca, .int nm, .int fr, .int to]) [] M N := by
  refine J_en (L := [.ref 0, .int row, .int ca, .int nm, .int fr, .int to, .retAddr 0]) rfl ?_
  refine J_b 4 am_d63 rfl ?_
  refine J_S2s 13 (am_d63 rfl) rfl rfl (sp13) ?_
  refine J_if_eq 22 (am_d63 rfl) rfl (fun h11 => absurd h11 (am_bi1.mpr g1.1)) (fun h11 => ?_)
  refine J_b 2 am_d63 rfl ?_
  refine J_S2s 13 (am_d63 rfl) rfl rfl (sp13) ?_
  refine J_if_ne 24 (am_d63 rfl) rfl (fun h19 => ?_) (fun h19 => absurd h19 (am_bi1.mpr g1.2))
  refine J_b 1 am_d63 rfl ?_
  refine J_S1s 64 (am_d63 rfl) rfl rfl (sp64) ?_
  refine J_if_eq 50 (am_d63 rfl) rfl (fun h28 => ?_) (fun h28 => ?_)
  · refine J_b 1 am_d63 rfl ?_
    exact J_iret (am_d63 rfl) rfl rfl ⟨rfl, rfl, rfl⟩
  · refine J_b 1 am_d63 rfl ?_
    refine J_if_lt 50 (am_d63 rfl) rfl (fun h33 => ?_) (fun h33 => ?_)
    · refine J_b 1 am_d63 rfl ?_
      exact J_iret (am_d63 rfl) rfl rfl ⟨rfl, rfl, rfl⟩
    · refine J_b 2 am_d63 rfl ?_
      refine J_icmp_gt 50 (am_d63 rfl) rfl (fun h40 => ?_) (fun h40 => ?_)
      · refine J_b 1 am_d63 rfl ?_
        exact J_iret (am_d63 rfl) rfl rfl ⟨rfl, rfl, rfl⟩
      · refine J_b 2 am_d63 rfl ?_
        refine J_icmp_le 53 (am_d63 rfl) rfl (fun h47 => ?_) (fun h47 => ?_)
        · exact absurd (show c_rw row ∧ 0 ≤ fr.toInt ∧ fr.toInt ≤ to.toInt ∧ to.toInt ≤ 60 from ⟨am_bi1.mp h28, Int.not_lt.mp (fun z => h33 (Int32.lt_iff_toInt_lt.mpr z)), Int.not_lt.mp (fun z => h40 (Int32.lt_iff_toInt_lt.mpr z)), Int32.le_iff_toInt_le.mp h47⟩) g2
        · refine J_b 1 am_d63 rfl ?_
          exact J_iret (am_d63 rfl) rfl rfl ⟨rfl, rfl, rfl⟩
theorem sp63d {X : am_X} {M : am_M} {N : am_N} {row ca nm fr to : Int32} (g1 : (0 ≤ nm.toInt ∧ nm.toInt < (M 26 5).toInt) ∧ 0 ≤ ca.toInt ∧ ca.toInt < 4) (g2 : c_rw row ∧ 0 ≤ fr.toInt ∧ fr.toInt ≤ to.toInt ∧ to.toInt ≤ 60) (g3 : ¬ M 32 7 < 16) : am_J X (am_eq (some (.int (-4))) (M) N) 63 0 (am_en 63 [.ref 0, .int row, .int ca, .int nm, .int fr, .int to]) [] M N := by
  refine J_en (L := [.ref 0, .int row, .int ca, .int nm, .int fr, .int to, .retAddr 0]) rfl ?_
  refine J_b 4 am_d63 rfl ?_
  refine J_S2s 13 (am_d63 rfl) rfl rfl (sp13) ?_
  refine J_if_eq 22 (am_d63 rfl) rfl (fun h11 => absurd h11 (am_bi1.mpr g1.1)) (fun h11 => ?_)
  refine J_b 2 am_d63 rfl ?_
  refine J_S2s 13 (am_d63 rfl) rfl rfl (sp13) ?_
  refine J_if_ne 24 (am_d63 rfl) rfl (fun h19 => ?_) (fun h19 => absurd h19 (am_bi1.mpr g1.2))
  refine J_b 1 am_d63 rfl ?_
  refine J_S1s 64 (am_d63 rfl) rfl rfl (sp64) ?_
  refine J_if_eq 50 (am_d63 rfl) rfl (fun h28 => absurd h28 (am_bi1.mpr g2.1)) (fun h28 => ?_)
  refine J_b 1 am_d63 rfl ?_
  refine J_if_lt 50 (am_d63 rfl) rfl (fun h33 => absurd (Int32.lt_iff_toInt_lt.mp h33) (Int.not_lt.mpr g2.2.1)) (fun h33 => ?_)
  refine J_b 2 am_d63 rfl ?_
  refine J_icmp_gt 50 (am_d63 rfl) rfl (fun h40 => absurd (Int32.lt_iff_toInt_lt.mp h40) (Int.not_lt.mpr g2.2.2.1)) (fun h40 => ?_)
  refine J_b 2 am_d63 rfl ?_
  refine J_icmp_le 53 (am_d63 rfl) rfl (fun h47 => ?_) (fun h47 => absurd (Int32.le_iff_toInt_le.mpr g2.2.2.2) h47)
  refine J_b 4 am_d63 rfl ?_
  refine J_icmp_lt 68 (am_d63 rfl) rfl (fun h62 => absurd h62 g3) (fun h62 => ?_)
  refine J_b 1 am_d63 rfl ?_
  exact J_iret (am_d63 rfl) rfl rfl ⟨rfl, rfl, rfl⟩
theorem sp63c {X : am_X} {M : am_M} {N : am_N} {row ca nm fr to : Int32} {F C : Nat} (g1 : (0 ≤ nm.toInt ∧ nm.toInt < (M 26 5).toInt) ∧ 0 ≤ ca.toInt ∧ ca.toInt < 4) (g2 : c_rw row ∧ 0 ≤ fr.toInt ∧ fr.toInt ≤ to.toInt ∧ to.toInt ≤ 60) (hF : F < 16) (eF : M 32 7 = nI F) (hC : C ≤ 5) (eC : M 18 7 = nI C) (hmn : ∀ c, b_in (M 21 c) 0 1000) : am_J X (am_eq (some (.int (nI F))) (m_cf (am_up (am_up (am_up (am_up (am_up (am_up (am_up (am_up M 33 F row) 34 F ca) 35 F nm) 36 F fr) 37 F to) 38 F (M 0 11)) 39 F (vp_nar .boolean 0)) 32 7 (nI F + 1)) F C) N) 63 0 (am_en 63 [.ref 0, .int row, .int ca, .int nm, .int fr, .int to]) [] M N := by
  have iF := nI_i (n := F) (by omega)
  have hlt : M 32 7 < 16 := by rw [eF, Int32.lt_iff_toInt_lt, iF]; show (F : Int) < 16; omega
  have qa := sp65 (X := X) (M := M) (N := N) (row := row) (ca := ca) (nm := nm) (fr := fr) (to := to) (tm := M 0 11) (by rw [eF, iF]; omega)
  rw [eF, nI_c (n := F) (by omega)] at qa
  have qm := sp66 (X := X) (N := N) (M := am_up (am_up (am_up (am_up (am_up (am_up (am_up (am_up M 33 F row) 34 F ca) 35 F nm) 36 F fr) 37 F to) 38 F (M 0 11)) 39 F (vp_nar .boolean 0)) 32 7 (nI F + 1)) (f := F) (C := C) hC eC hF hmn
  refine J_en (L := [.ref 0, .int row, .int ca, .int nm, .int fr, .int to, .retAddr 0]) rfl ?_
  refine J_b 4 am_d63 rfl ?_
  refine J_S2s 13 (am_d63 rfl) rfl rfl (sp13) ?_
  refine J_if_eq 22 (am_d63 rfl) rfl (fun h11 => absurd h11 (am_bi1.mpr g1.1)) (fun h11 => ?_)
  refine J_b 2 am_d63 rfl ?_
  refine J_S2s 13 (am_d63 rfl) rfl rfl (sp13) ?_
  refine J_if_ne 24 (am_d63 rfl) rfl (fun h19 => ?_) (fun h19 => absurd h19 (am_bi1.mpr g1.2))
  refine J_b 1 am_d63 rfl ?_
  refine J_S1s 64 (am_d63 rfl) rfl rfl (sp64) ?_
  refine J_if_eq 50 (am_d63 rfl) rfl (fun h28 => absurd h28 (am_bi1.mpr g2.1)) (fun h28 => ?_)
  refine J_b 1 am_d63 rfl ?_
  refine J_if_lt 50 (am_d63 rfl) rfl (fun h33 => absurd (Int32.lt_iff_toInt_lt.mp h33) (Int.not_lt.mpr g2.2.1)) (fun h33 => ?_)
  refine J_b 2 am_d63 rfl ?_
  refine J_icmp_gt 50 (am_d63 rfl) rfl (fun h40 => absurd (Int32.lt_iff_toInt_lt.mp h40) (Int.not_lt.mpr g2.2.2.1)) (fun h40 => ?_)
  refine J_b 2 am_d63 rfl ?_
  refine J_icmp_le 53 (am_d63 rfl) rfl (fun h47 => ?_) (fun h47 => absurd (Int32.le_iff_toInt_le.mpr g2.2.2.2) h47)
  refine J_b 4 am_d63 rfl ?_
  refine J_icmp_lt 68 (am_d63 rfl) rfl (fun h62 => ?_) (fun h62 => absurd (hlt) h62)
  refine J_b 9 am_d63 rfl ?_
  refine J_V6s 65 (am_d63 rfl) rfl rfl (qa) ?_
  refine J_b 4 am_d63 rfl ?_
  refine J_V1n 66 (am_d63 rfl) rfl rfl (qm) ?_
  refine J_b 1 am_d63 rfl ?_
  exact J_iret (am_d63 rfl) rfl rfl ⟨rfl, rfl, rfl⟩
theorem sp163a {X : am_X} {M : am_M} {N : am_N} {row ca nm fr to : Int32} (g1 : ¬ ((0 ≤ nm.toInt ∧ nm.toInt < (M 120 43).toInt) ∧ 0 ≤ ca.toInt ∧ ca.toInt < 4)) : am_J X (am_eq (some (.int (-1))) (M) N) 163 0 (am_en 163 [.ref 120, .int row, .int ca, .int nm, .int fr, .int to]) [] M N := by
  refine J_en (L := [.ref 120, .int row, .int ca, .int nm, .int fr, .int to]) rfl ?_
  refine J_b 2 am_d163 rfl ?_
  refine J_V1s 164 (am_d163 rfl) rfl rfl (sp164) ?_
  refine J_if_eq 20 (am_d163 rfl) rfl (fun h5 => ?_) (fun h5 => ?_)
  · refine J_b 1 am_d163 rfl ?_
    exact J_iret (am_d163 rfl) rfl rfl ⟨rfl, rfl, rfl⟩
  · refine J_b 4 am_d163 rfl ?_
    refine J_S3s 140 (am_d163 rfl) rfl rfl (sp140) ?_
    refine J_if_ne 22 (am_d163 rfl) rfl (fun h17 => ?_) (fun h17 => ?_)
    · exact absurd (show (0 ≤ nm.toInt ∧ nm.toInt < (M 120 43).toInt) ∧ 0 ≤ ca.toInt ∧ ca.toInt < 4 from ⟨am_bi1.mp h5, by have q := am_bi1.mp h17; rw [Int32.toInt_toInt64] at q; exact ⟨q.1, by have := q.2; change _ ≤ (3 : Int) at this; omega⟩⟩) g1
    · refine J_b 1 am_d163 rfl ?_
      exact J_iret (am_d163 rfl) rfl rfl ⟨rfl, rfl, rfl⟩
theorem sp163b {X : am_X} {M : am_M} {N : am_N} {row ca nm fr to : Int32} (g1 : (0 ≤ nm.toInt ∧ nm.toInt < (M 120 43).toInt) ∧ 0 ≤ ca.toInt ∧ ca.toInt < 4) (g2 : ¬ (c_rw row ∧ 0 ≤ fr.toInt ∧ fr.toInt ≤ to.toInt ∧ to.toInt ≤ 60)) : am_J X (am_eq (some (.int (-2))) (M) N) 163 0 (am_en 163 [.ref 120, .int row, .int ca, .int nm, .int fr, .int to]) [] M N := by
  refine J_en (L := [.ref 120, .int row, .int ca, .int nm, .int fr, .int to]) rfl ?_
  refine J_b 2 am_d163 rfl ?_
  refine J_V1s 164 (am_d163 rfl) rfl rfl (sp164) ?_
  refine J_if_eq 20 (am_d163 rfl) rfl (fun h5 => absurd h5 (am_bi1.mpr g1.1)) (fun h5 => ?_)
  refine J_b 4 am_d163 rfl ?_
  refine J_S3s 140 (am_d163 rfl) rfl rfl (sp140) ?_
  refine J_if_ne 22 (am_d163 rfl) rfl (fun h17 => ?_) (fun h17 => absurd h17 (am_bi1.mpr (by rw [Int32.toInt_toInt64]; exact ⟨g1.2.1, by show ca.toInt ≤ (3 : Int); have := g1.2.2; omega⟩)))
  refine J_b 1 am_d163 rfl ?_
  refine J_S1s 165 (am_d163 rfl) rfl rfl (sp165) ?_
  refine J_if_eq 57 (am_d163 rfl) rfl (fun h26 => ?_) (fun h26 => ?_)
  · refine J_b 1 am_d163 rfl ?_
    exact J_iret (am_d163 rfl) rfl rfl ⟨rfl, rfl, rfl⟩
  · refine J_b 4 am_d163 rfl ?_
    refine J_S3s 140 (am_d163 rfl) rfl rfl (sp140) ?_
    refine J_if_eq 57 (am_d163 rfl) rfl (fun h39 => ?_) (fun h39 => ?_)
    · refine J_b 1 am_d163 rfl ?_
      exact J_iret (am_d163 rfl) rfl rfl ⟨rfl, rfl, rfl⟩
    · refine J_b 5 am_d163 rfl ?_
      refine J_S3s 140 (am_d163 rfl) rfl rfl (sp140) ?_
      refine J_if_ne 60 (am_d163 rfl) rfl (fun h54 => ?_) (fun h54 => ?_)
      · have q1 := am_bi1.mp h39
        have q2 := am_bi1.mp h54
        rw [Int32.toInt_toInt64] at q1
        rw [Int32.toInt_toInt64, Int32.toInt_toInt64] at q2
        exact absurd (show c_rw row ∧ 0 ≤ fr.toInt ∧ fr.toInt ≤ to.toInt ∧ to.toInt ≤ 60 from ⟨am_bi1.mp h26, q1.1, q2.1, q2.2⟩) g2
      · refine J_b 1 am_d163 rfl ?_
        exact J_iret (am_d163 rfl) rfl rfl ⟨rfl, rfl, rfl⟩
theorem sp163d {X : am_X} {M : am_M} {N : am_N} {row ca nm fr to : Int32} (g1 : (0 ≤ nm.toInt ∧ nm.toInt < (M 120 43).toInt) ∧ 0 ≤ ca.toInt ∧ ca.toInt < 4) (g2 : c_rw row ∧ 0 ≤ fr.toInt ∧ fr.toInt ≤ to.toInt ∧ to.toInt ≤ 60) (g3 : M 120 44 = 16) : am_J X (am_eq (some (.int (-4))) (M) N) 163 0 (am_en 163 [.ref 120, .int row, .int ca, .int nm, .int fr, .int to]) [] M N := by
  refine J_en (L := [.ref 120, .int row, .int ca, .int nm, .int fr, .int to]) rfl ?_
  refine J_b 2 am_d163 rfl ?_
  refine J_V1s 164 (am_d163 rfl) rfl rfl (sp164) ?_
  refine J_if_eq 20 (am_d163 rfl) rfl (fun h5 => absurd h5 (am_bi1.mpr g1.1)) (fun h5 => ?_)
  refine J_b 4 am_d163 rfl ?_
  refine J_S3s 140 (am_d163 rfl) rfl rfl (sp140) ?_
  refine J_if_ne 22 (am_d163 rfl) rfl (fun h17 => ?_) (fun h17 => absurd h17 (am_bi1.mpr (by rw [Int32.toInt_toInt64]; exact ⟨g1.2.1, by show ca.toInt ≤ (3 : Int); have := g1.2.2; omega⟩)))
  refine J_b 1 am_d163 rfl ?_
  refine J_S1s 165 (am_d163 rfl) rfl rfl (sp165) ?_
  refine J_if_eq 57 (am_d163 rfl) rfl (fun h26 => absurd h26 (am_bi1.mpr g2.1)) (fun h26 => ?_)
  refine J_b 4 am_d163 rfl ?_
  refine J_S3s 140 (am_d163 rfl) rfl rfl (sp140) ?_
  refine J_if_eq 57 (am_d163 rfl) rfl (fun h39 => absurd h39 (am_bi1.mpr (by rw [Int32.toInt_toInt64]; exact ⟨g2.2.1, Int.le_trans g2.2.2.1 g2.2.2.2⟩))) (fun h39 => ?_)
  refine J_b 5 am_d163 rfl ?_
  refine J_S3s 140 (am_d163 rfl) rfl rfl (sp140) ?_
  refine J_if_ne 60 (am_d163 rfl) rfl (fun h54 => ?_) (fun h54 => absurd h54 (am_bi1.mpr (by rw [Int32.toInt_toInt64, Int32.toInt_toInt64]; exact g2.2.2)))
  refine J_b 3 am_d163 rfl ?_
  refine J_icmp_ne 72 (am_d163 rfl) rfl (fun h66 => absurd g3 h66) (fun h66 => ?_)
  refine J_b 1 am_d163 rfl ?_
  exact J_iret (am_d163 rfl) rfl rfl ⟨rfl, rfl, rfl⟩
theorem sp163c {X : am_X} {M : am_M} {N : am_N} {row ca nm fr to : Int32} {F : Nat} (g1 : (0 ≤ nm.toInt ∧ nm.toInt < (M 120 43).toInt) ∧ 0 ≤ ca.toInt ∧ ca.toInt < 4) (g2 : c_rw row ∧ 0 ≤ fr.toInt ∧ fr.toInt ≤ to.toInt ∧ to.toInt ≤ 60) (hF : F < 16) (eF : M 120 44 = nI F) : am_J X (am_eq (some (.int (nI F))) (am_up (am_up (am_up (am_up (am_up (am_up (am_up M 153 F row) 154 F ca) 155 F nm) 156 F fr) 157 F to) 158 F (M 120 45)) 120 44 (nI F + 1)) N) 163 0 (am_en 163 [.ref 120, .int row, .int ca, .int nm, .int fr, .int to]) [] M N := by
  have hne : ¬ M 120 44 = 16 := by rw [eF]; intro z; have := nI_inj (a := F) (b := 16) (by omega) (by decide) z; omega
  have eF0 : (M) 120 44 = nI F := eF
  have eF1 : (am_up M 153 F row) 120 44 = nI F := eF
  have eF2 : (am_up (am_up M 153 F row) 154 F ca) 120 44 = nI F := eF
  have eF3 : (am_up (am_up (am_up M 153 F row) 154 F ca) 155 F nm) 120 44 = nI F := eF
  have eF4 : (am_up (am_up (am_up (am_up M 153 F row) 154 F ca) 155 F nm) 156 F fr) 120 44 = nI F := eF
  have eF5 : (am_up (am_up (am_up (am_up (am_up M 153 F row) 154 F ca) 155 F nm) 156 F fr) 157 F to) 120 44 = nI F := eF
  have eF6 : (am_up (am_up (am_up (am_up (am_up (am_up M 153 F row) 154 F ca) 155 F nm) 156 F fr) 157 F to) 158 F (M 120 45)) 120 44 = nI F := eF
  refine J_en (L := [.ref 120, .int row, .int ca, .int nm, .int fr, .int to]) rfl ?_
  refine J_b 2 am_d163 rfl ?_
  refine J_V1s 164 (am_d163 rfl) rfl rfl (sp164) ?_
  refine J_if_eq 20 (am_d163 rfl) rfl (fun h5 => absurd h5 (am_bi1.mpr g1.1)) (fun h5 => ?_)
  refine J_b 4 am_d163 rfl ?_
  refine J_S3s 140 (am_d163 rfl) rfl rfl (sp140) ?_
  refine J_if_ne 22 (am_d163 rfl) rfl (fun h17 => ?_) (fun h17 => absurd h17 (am_bi1.mpr (by rw [Int32.toInt_toInt64]; exact ⟨g1.2.1, by show ca.toInt ≤ (3 : Int); have := g1.2.2; omega⟩)))
  refine J_b 1 am_d163 rfl ?_
  refine J_S1s 165 (am_d163 rfl) rfl rfl (sp165) ?_
  refine J_if_eq 57 (am_d163 rfl) rfl (fun h26 => absurd h26 (am_bi1.mpr g2.1)) (fun h26 => ?_)
  refine J_b 4 am_d163 rfl ?_
  refine J_S3s 140 (am_d163 rfl) rfl rfl (sp140) ?_
  refine J_if_eq 57 (am_d163 rfl) rfl (fun h39 => absurd h39 (am_bi1.mpr (by rw [Int32.toInt_toInt64]; exact ⟨g2.2.1, Int.le_trans g2.2.2.1 g2.2.2.2⟩))) (fun h39 => ?_)
  refine J_b 5 am_d163 rfl ?_
  refine J_S3s 140 (am_d163 rfl) rfl rfl (sp140) ?_
  refine J_if_ne 60 (am_d163 rfl) rfl (fun h54 => ?_) (fun h54 => absurd h54 (am_bi1.mpr (by rw [Int32.toInt_toInt64, Int32.toInt_toInt64]; exact g2.2.2)))
  refine J_b 3 am_d163 rfl ?_
  refine J_icmp_ne 72 (am_d163 rfl) rfl (fun h66 => ?_) (fun h66 => absurd h66 hne)
  refine J_b 5 am_d163 rfl ?_
  rw [eF0]
  refine J_iast (am_d163 rfl) rfl (vp_in_nI hF (by decide)) ?_
  rw [nI_c (n := F) (by omega)]
  refine J_b 5 am_d163 rfl ?_
  rw [eF1]
  refine J_iast (am_d163 rfl) rfl (vp_in_nI hF (by decide)) ?_
  rw [nI_c (n := F) (by omega)]
  refine J_b 5 am_d163 rfl ?_
  rw [eF2]
  refine J_iast (am_d163 rfl) rfl (vp_in_nI hF (by decide)) ?_
  rw [nI_c (n := F) (by omega)]
  refine J_b 5 am_d163 rfl ?_
  rw [eF3]
  refine J_iast (am_d163 rfl) rfl (vp_in_nI hF (by decide)) ?_
  rw [nI_c (n := F) (by omega)]
  refine J_b 5 am_d163 rfl ?_
  rw [eF4]
  refine J_iast (am_d163 rfl) rfl (vp_in_nI hF (by decide)) ?_
  rw [nI_c (n := F) (by omega)]
  refine J_b 6 am_d163 rfl ?_
  show am_J X _ 163 136 _ (.int (M 120 45) :: _) _ N
  rw [eF5]
  refine J_iast (am_d163 rfl) rfl (vp_in_nI hF (by decide)) ?_
  rw [nI_c (n := F) (by omega)]
  refine J_b 5 am_d163 rfl ?_
  rw [eF6]
  refine J_puti (am_d163 rfl) rfl ?_
  refine J_b 4 am_d163 rfl ?_
  exact J_iret (am_d163 rfl) rfl rfl ⟨congrArg (fun z => some (Value.int z)) (Int32.add_sub_cancel (nI F) 1), rfl, rfl⟩
