/-! ===== prizes paid: the class ===== -/
def c_by (v a b : Int32) : Int32 := if v < a then a - v else if b < v then v - b else 0
def i_mx (x y : Int32) : Int32 := if x < y then y else x
theorem by_k : ∀ (v a b : Fin 10), a.val ≤ b.val → i_mx 0 (i_mx (nI a.val - nI v.val) (nI v.val - nI b.val)) = c_by (nI v.val) (nI a.val) (nI b.val) := by
  decide +kernel
theorem by_e {v a b : Nat} (hv : v < 10) (ha : a < 10) (hb : b < 10) (h : a ≤ b) : i_mx 0 (i_mx (nI a - nI v) (nI v - nI b)) = c_by (nI v) (nI a) (nI b) := by_k ⟨v, hv⟩ ⟨a, ha⟩ ⟨b, hb⟩ h
theorem sp73m {X : am_X} {M : am_M} {N : am_N} {x y : Int32} : am_J X (am_eq (some (.int (i_mx x y))) M N) 73 0 (am_en 73 [.int x, .int y]) [] M N := sp73
abbrev c_tt (sg x n : Int32) : Prop := (sg = 61 ∧ x = n) ∨ (sg = 60 ∧ x < n) ∨ (sg = 62 ∧ n < x)
/-- what a find shows in a field -/
def fa (M : am_M) (f c : Nat) : Nat → Int32
  | 0 => if M 22 c < M 36 f then M 36 f - M 22 c else 0
  | 1 => c_by (nI ((M 23 c).toNatClampNeg / 6)) (M 27 (M 35 f).toNatClampNeg) (M 28 (M 35 f).toNatClampNeg) + c_by (nI ((M 23 c).toNatClampNeg % 6)) (M 29 (M 35 f).toNatClampNeg) (M 30 (M 35 f).toNatClampNeg)
  | 2 => M 19 c
  | 3 => M 31 (M 35 f).toNatClampNeg
  | _ => w_of M f c / 1000
abbrev c_th (M : am_M) (F : Nat → Int32) (p t : Nat) : Prop := ¬ am_bi (c_tt (M 117 (3 * p + t)) (F (M 116 (3 * p + t)).toNatClampNeg) (M 118 (3 * p + t))) = M 115 (3 * p + t)
abbrev c_hd (M : am_M) (F : Nat → Int32) (p : Nat) : Prop := ∀ t, t < (M 114 p).toNatClampNeg → c_th M F p t
def c_wo (M : am_M) (F : Nat → Int32) (n : Nat) : Int32 := smI (fun p => if c_hd M F p then M 113 p else 0) n
def py (M : am_M) (S P f : Nat) : Int32 := if M 39 f = 0 ∧ t_of M f = -1 then (if b_of M S f < 0 then 0 else c_wo M (fa M f (b_of M S f).toNatClampNeg) P) else 0
theorem nI_3 {p t : Nat} : nI p * 3 + nI t = nI (3 * p + t) := by
  rw [show (3 : Int32) = nI 3 from rfl, nI_mul, nI_add, Nat.mul_comm]
theorem sp128 {X : am_X} {M : am_M} {N : am_N} {v a b : Nat} (hv : v < 10) (ha : a < 10) (hb : b < 10) (h : a ≤ b) : am_J X (am_eq (some (.int (c_by (nI v) (nI a) (nI b)))) (M) N) 128 0 (am_en 128 [.int (nI v), .int (nI a), .int (nI b)]) [] M N := by
  refine J_en (L := [.int (nI v), .int (nI a), .int (nI b)]) rfl ?_
  refine J_b 7 am_d128 rfl ?_
  refine J_S2s 73 (am_d128 rfl) rfl rfl (sp73m) ?_
  refine J_S2s 73 (am_d128 rfl) rfl rfl (sp73m) ?_
  exact J_iret (am_d128 rfl) rfl rfl ⟨congrArg (fun z => some (Value.int z)) (by_e hv ha hb h), rfl, rfl⟩
theorem sp127 {X : am_X} {M : am_M} {N : am_N} {p n x0 x1 y0 y1 : Nat} (hp : p < 60) (hn : n < 6) (e27 : M 27 n = nI x0) (e28 : M 28 n = nI x1) (e29 : M 29 n = nI y0) (e30 : M 30 n = nI y1) (hx1 : x1 ≤ 9) (hx0 : x0 ≤ 9) (hy0 : y0 ≤ 5) (hy1 : y1 ≤ 5) (hx : x0 ≤ x1) (hy : y0 ≤ y1) : am_J X (am_eq (some (.int (c_by (nI (p / 6)) (nI x0) (nI x1) + c_by (nI (p % 6)) (nI y0) (nI y1)))) (M) N) 127 0 (am_en 127 [.ref 26, .int (nI p), .int (nI n)]) [] M N := by
  have e6 : nI p / (Int8.ofInt 6).toInt32 = nI (p / 6) := nI_divn (by omega) (by decide) (by decide) rfl
  have r6 : nI p - nI p / (Int8.ofInt 6).toInt32 * (Int8.ofInt 6).toInt32 = nI (p % 6) := nI_remn (by omega) (by decide) (by decide) rfl
  have l6 : p % 6 < 6 := Nat.mod_lt _ (by decide)
  refine J_en (L := [.ref 26, .int (nI p), .int (nI n)]) rfl ?_
  refine J_b 6 am_d127 rfl ?_
  refine J_iald (am_d127 rfl) rfl (vp_in_nI hn (by decide)) ?_
  rw [nI_c (n := n) (by omega)]
  show am_J X _ 127 10 _ (.int (M 27 n) :: _) _ N
  rw [e27]
  refine J_b 3 am_d127 rfl ?_
  refine J_iald (am_d127 rfl) rfl (vp_in_nI hn (by decide)) ?_
  rw [nI_c (n := n) (by omega)]
  show am_J X _ 127 16 _ (.int (M 28 n) :: _) _ N
  rw [e28, e6]
  refine J_S3s 128 (am_d127 rfl) rfl rfl (sp128 (by omega) (by omega) (by omega) hx) ?_
  refine J_b 6 am_d127 rfl ?_
  refine J_iald (am_d127 rfl) rfl (vp_in_nI hn (by decide)) ?_
  rw [nI_c (n := n) (by omega)]
  show am_J X _ 127 29 _ (.int (M 29 n) :: _) _ N
  rw [e29]
  refine J_b 3 am_d127 rfl ?_
  refine J_iald (am_d127 rfl) rfl (vp_in_nI hn (by decide)) ?_
  rw [nI_c (n := n) (by omega)]
  show am_J X _ 127 35 _ (.int (M 30 n) :: _) _ N
  rw [e30, r6]
  refine J_S3s 128 (am_d127 rfl) rfl rfl (sp128 (by omega) (by omega) (by omega) hy) ?_
  refine J_b 1 am_d127 rfl ?_
  exact J_iret (am_d127 rfl) rfl rfl ⟨rfl, rfl, rfl⟩
theorem tt_61 {sg x n : Int32} (e : sg = 61) : c_tt sg x n ↔ x = n := by
  subst e
  exact ⟨fun z => z.elim (fun z => z.2) (fun z => z.elim (fun z => absurd z.1 (by decide)) (fun z => absurd z.1 (by decide))), fun z => .inl ⟨rfl, z⟩⟩
theorem tt_60 {sg x n : Int32} (e : sg = 60) : c_tt sg x n ↔ x < n := by
  subst e
  exact ⟨fun z => z.elim (fun z => absurd z.1 (by decide)) (fun z => z.elim (fun z => z.2) (fun z => absurd z.1 (by decide))), fun z => .inr (.inl ⟨rfl, z⟩)⟩
theorem tt_62 {sg x n : Int32} (e : sg = 62) : c_tt sg x n ↔ n < x := by
  subst e
  exact ⟨fun z => z.elim (fun z => absurd z.1 (by decide)) (fun z => z.elim (fun z => absurd z.1 (by decide)) (fun z => z.2)), fun z => .inr (.inr ⟨rfl, z⟩)⟩
theorem sp131 {X : am_X} {M : am_M} {N : am_N} {s : Nat} (hs : s < 24) (hfl : b_in (M 116 s) 0 4) (hsg : M 117 s = 61 ∨ M 117 s = 60 ∨ M 117 s = 62) : am_J X (am_eq (some (.int (am_bi (c_tt (M 117 s) (M 119 (M 116 s).toNatClampNeg) (M 118 s))))) (M) N) 131 0 (am_en 131 [.ref 112, .int (nI s)]) [] M N := by
  refine J_en (L := [.ref 112, .int (nI s), .retAddr 0]) rfl ?_
  refine J_b 5 am_d131 rfl ?_
  refine J_iald (am_d131 rfl) rfl (vp_in_nI hs (by decide)) ?_
  rw [nI_c (n := s) (by omega)]
  show am_J X _ 131 10 _ (.int (M 116 s) :: _) _ N
  refine J_iald (am_d131 rfl) rfl (vp_of (by unfold b_in at hfl; omega)) ?_
  refine J_b 4 am_d131 rfl ?_
  refine J_iald (am_d131 rfl) rfl (vp_in_nI hs (by decide)) ?_
  rw [nI_c (n := s) (by omega)]
  show am_J X _ 131 18 _ (.int (M 117 s) :: _) _ N
  rcases hsg with e | e | e
  · refine J_st5 (congrArg (fun z => ([.int z] : am_V)) e) ?_
    refine J_ls 44 (am_d131 rfl) rfl rfl rfl ?_
    refine J_b 4 am_d131 rfl ?_
    refine J_iald (am_d131 rfl) rfl (vp_in_nI hs (by decide)) ?_
    rw [nI_c (n := s) (by omega)]
    show am_J X _ 131 51 _ (.int (M 118 s) :: _) _ N
    refine J_icmp_ne 58 (am_d131 rfl) rfl (fun h51 => ?_) (fun h51 => ?_)
    · refine J_b 1 am_d131 rfl ?_
      exact J_iret (am_d131 rfl) rfl rfl ⟨bi_f (fun z => h51 ((tt_61 e).mp z)), rfl, rfl⟩
    · refine J_b 2 am_d131 rfl ?_
      exact J_iret (am_d131 rfl) rfl rfl ⟨bi_t ((tt_61 e).mpr h51), rfl, rfl⟩
  · refine J_st5 (congrArg (fun z => ([.int z] : am_V)) e) ?_
    refine J_ls 60 (am_d131 rfl) rfl rfl rfl ?_
    refine J_b 4 am_d131 rfl ?_
    refine J_iald (am_d131 rfl) rfl (vp_in_nI hs (by decide)) ?_
    rw [nI_c (n := s) (by omega)]
    show am_J X _ 131 67 _ (.int (M 118 s) :: _) _ N
    refine J_icmp_ge 74 (am_d131 rfl) rfl (fun h67 => ?_) (fun h67 => ?_)
    · refine J_b 1 am_d131 rfl ?_
      exact J_iret (am_d131 rfl) rfl rfl ⟨bi_f (fun z => absurd ((tt_60 e).mp z) (Int32.not_lt.mpr h67)), rfl, rfl⟩
    · refine J_b 2 am_d131 rfl ?_
      exact J_iret (am_d131 rfl) rfl rfl ⟨bi_t ((tt_60 e).mpr (Int32.not_le.mp h67)), rfl, rfl⟩
  · refine J_st5 (congrArg (fun z => ([.int z] : am_V)) e) ?_
    refine J_ls 76 (am_d131 rfl) rfl rfl rfl ?_
    refine J_b 4 am_d131 rfl ?_
    refine J_iald (am_d131 rfl) rfl (vp_in_nI hs (by decide)) ?_
    rw [nI_c (n := s) (by omega)]
    show am_J X _ 131 83 _ (.int (M 118 s) :: _) _ N
    refine J_icmp_le 90 (am_d131 rfl) rfl (fun h83 => ?_) (fun h83 => ?_)
    · refine J_b 1 am_d131 rfl ?_
      exact J_iret (am_d131 rfl) rfl rfl ⟨bi_f (fun z => absurd ((tt_62 e).mp z) (Int32.not_lt.mpr h83)), rfl, rfl⟩
    · refine J_b 2 am_d131 rfl ?_
      exact J_iret (am_d131 rfl) rfl rfl ⟨bi_t ((tt_62 e).mpr (Int32.not_le.mp h83)), rfl, rfl⟩
theorem lp130 {X : am_X} {M : am_M} {N : am_N} {p T : Nat} (hp : p < 8) (eT : M 114 p = nI T) (hT : T ≤ 3) (hw : ∀ t, t < T → b_in (M 116 (3 * p + t)) 0 4 ∧ (M 117 (3 * p + t) = 61 ∨ M 117 (3 * p + t) = 60 ∨ M 117 (3 * p + t) = 62)) : ∀ (n i : Nat), i + n = T → ∀ (x : Int32), x = nI i → (∀ t, t < i → c_th M (M 119) p t) → ∀ (z : Value), am_J X (am_eq (some (.int (am_bi (c_hd M (M 119) p)))) M N) 130 2 [.ref 112, .int (nI p), .int x, z] [] M N := by
  intro n
  induction n with
  | zero =>
    intro i hn x ex ha z
    have e : i = T := by omega
    subst ex
    have hge : nI T ≤ nI i := by rw [e]; exact Int32.le_refl _
    refine J_b 4 am_d130 rfl ?_
    refine J_iald (am_d130 rfl) rfl (vp_in_nI hp (by decide)) ?_
    rw [nI_c (n := p) (by omega)]
    show am_J X _ 130 9 _ (.int (M 114 p) :: _) _ N
    refine J_st5 (congrArg (fun z => ([.int z, .int (nI i)] : am_V)) eT) ?_
    refine J_icmp_ge 40 (am_d130 rfl) rfl (fun h9 => ?_) (fun h9 => absurd (hge) h9)
    refine J_b 1 am_d130 rfl ?_
    exact J_iret (am_d130 rfl) rfl rfl ⟨bi_t (fun t ht => ha t (by rw [eT, nI_c (by omega)] at ht; omega)), rfl, rfl⟩
  | succ n ih =>
    intro i hn x ex ha z
    subst ex
    have hlt : ¬ nI T ≤ nI i := nI_ngt (by omega) (by omega)
    refine J_b 4 am_d130 rfl ?_
    refine J_iald (am_d130 rfl) rfl (vp_in_nI hp (by decide)) ?_
    rw [nI_c (n := p) (by omega)]
    show am_J X _ 130 9 _ (.int (M 114 p) :: _) _ N
    refine J_st5 (congrArg (fun z => ([.int z, .int (nI i)] : am_V)) eT) ?_
    refine J_icmp_ge 40 (am_d130 rfl) rfl (fun h9 => absurd h9 hlt) (fun h9 => ?_)
    refine J_b 4 am_d130 rfl ?_
    refine J_b 1 am_d130 rfl ?_
    rw [show nI p * Int32.ofInt 3 + nI i = nI (3 * p + i) from nI_3]
    refine J_b 3 am_d130 rfl ?_
    refine J_V1s 131 (am_d130 rfl) rfl rfl (sp131 (by omega) (hw i (by omega)).1 (hw i (by omega)).2) ?_
    refine J_b 3 am_d130 rfl ?_
    refine J_zald (am_d130 rfl) rfl (vp_in_nI (show 3 * p + i < 24 by omega) (by decide)) ?_
    rw [nI_c (n := 3 * p + i) (by omega)]
    refine J_icmp_ne 34 (am_d130 rfl) rfl (fun h29 => ?_) (fun h29 => ?_)
    · refine J_b 2 am_d130 rfl ?_
      exact ih (i + 1) (by omega) _ (nI_1 i) (fun t ht => (Nat.lt_succ_iff_lt_or_eq.mp ht).elim (ha t) (fun e => e ▸ h29)) _
    · refine J_b 1 am_d130 rfl ?_
      exact J_iret (am_d130 rfl) rfl rfl ⟨bi_f (fun z => z i (by rw [eT, nI_c (by omega)]; omega) h29), rfl, rfl⟩
theorem sp130 {X : am_X} {M : am_M} {N : am_N} {p T : Nat} (hp : p < 8) (eT : M 114 p = nI T) (hT : T ≤ 3) (hw : ∀ t, t < T → b_in (M 116 (3 * p + t)) 0 4 ∧ (M 117 (3 * p + t) = 61 ∨ M 117 (3 * p + t) = 60 ∨ M 117 (3 * p + t) = 62)) : am_J X (am_eq (some (.int (am_bi (c_hd M (M 119) p)))) (M) N) 130 0 (am_en 130 [.ref 112, .int (nI p)]) [] M N := by
  refine J_en (L := [.ref 112, .int (nI p), .retAddr 0, .retAddr 0]) rfl ?_
  refine J_b 2 am_d130 rfl ?_
  exact lp130 hp eT hT hw T 0 (Nat.zero_add _) _ rfl (fun t ht => absurd ht (by omega)) _
/-- the prizes are as the reader takes them -/
def pz (M : am_M) (P : Nat) : Prop := P ≤ 8 ∧ M 112 7 = nI P ∧ ∀ p, p < P → ∃ T, M 114 p = nI T ∧ T ≤ 3 ∧ ∀ t, t < T → b_in (M 116 (3 * p + t)) 0 4 ∧ (M 117 (3 * p + t) = 61 ∨ M 117 (3 * p + t) = 60 ∨ M 117 (3 * p + t) = 62)
theorem pz_of {M : am_M} (h : iv_pr M) : ∃ P, pz M P := by
  obtain ⟨_, hb, hp⟩ := h
  unfold b_in at hb
  have e := I_nI hb.1
  have ic := I_cl hb.1
  refine ⟨(M 112 7).toNatClampNeg, by omega, e, fun p hpp => ?_⟩
  obtain ⟨_, _, hb2, ht⟩ := hp p (by omega)
  unfold b_in at hb2
  have ic2 := I_cl hb2.1
  exact ⟨_, I_nI hb2.1, by omega, fun t h3 => ⟨(ht t (by omega)).2.2.2.2.1, (ht t (by omega)).2.2.2.2.2.1⟩⟩
theorem pz_sc {M M' : am_M} {P : Nat} (h : md M M') (hp : pz M P) : pz M' P := by
  unfold pz
  rw [h.1 112 (by unfold rg_r sc_r; omega), h.1 114 (by unfold rg_r sc_r; omega), h.1 116 (by unfold rg_r sc_r; omega), h.1 117 (by unfold rg_r sc_r; omega)]
  exact hp
theorem wo_p {M : am_M} {F : Nat → Int32} {i : Nat} {a : Int32} (ha : a = c_wo M F i) (h : c_hd M F i) : a + M 113 i = c_wo M F (i + 1) := by
  show a + M 113 i = c_wo M F i + (if c_hd M F i then M 113 i else 0)
  rw [if_pos h, ha]
theorem wo_n {M : am_M} {F : Nat → Int32} {i : Nat} {a : Int32} (ha : a = c_wo M F i) (h : ¬ c_hd M F i) : a + 0 = c_wo M F (i + 1) := by
  show a + 0 = c_wo M F i + (if c_hd M F i then M 113 i else 0)
  rw [if_neg h, ha]
theorem lp129 {X : am_X} {M : am_M} {N : am_N} {P : Nat} (hpz : pz M P) : ∀ (n i : Nat), i + n = P → ∀ (x : Int32), x = nI i → ∀ (a : Int32), a = c_wo M (M 119) i → am_J X (am_eq (some (.int (c_wo M (M 119) P))) M N) 129 4 [.ref 112, .int a, .int x] [] M N := by
  obtain ⟨hP, eP, hp⟩ := hpz
  intro n
  induction n with
  | zero =>
    intro i hn x ex a ha
    have e : i = P := by omega
    subst ex
    have hge : M 112 7 ≤ nI i := by rw [eP, e]; exact Int32.le_refl _
    subst e
    refine J_b 3 am_d129 rfl ?_
    refine J_icmp_ge 35 (am_d129 rfl) rfl (fun h9 => ?_) (fun h9 => absurd (hge) h9)
    refine J_b 1 am_d129 rfl ?_
    exact J_iret (am_d129 rfl) rfl rfl ⟨by rw [ha], rfl, rfl⟩
  | succ n ih =>
    intro i hn x ex a ha
    subst ex
    have hlt : ¬ M 112 7 ≤ nI i := by rw [eP]; exact nI_ngt (by omega) (by omega)
    obtain ⟨T, eT, hT, hw⟩ := hp i (by omega)
    refine J_b 3 am_d129 rfl ?_
    refine J_icmp_ge 35 (am_d129 rfl) rfl (fun h9 => absurd h9 hlt) (fun h9 => ?_)
    refine J_b 2 am_d129 rfl ?_
    refine J_V1s 130 (am_d129 rfl) rfl rfl (sp130 (by omega) eT hT hw) ?_
    refine J_if_eq 29 (am_d129 rfl) rfl (fun h17 => ?_) (fun h17 => ?_)
    · refine J_b 2 am_d129 rfl ?_
      exact ih (i + 1) (by omega) _ (nI_1 i) _ ((Int32.add_zero _).symm.trans (wo_n ha (am_bi0.mp h17)))
    · refine J_b 4 am_d129 rfl ?_
      refine J_iald (am_d129 rfl) rfl (vp_in_nI (show i < 8 by omega) (by decide)) ?_
      rw [nI_c (n := i) (by omega)]
      show am_J X _ 129 27 _ (.int (M 113 i) :: _) _ N
      refine J_b 4 am_d129 rfl ?_
      exact ih (i + 1) (by omega) _ (nI_1 i) _ (wo_p ha (am_bi1.mp h17))
theorem sp129 {X : am_X} {M : am_M} {N : am_N} {P : Nat} (hpz : pz M P) : am_J X (am_eq (some (.int (c_wo M (M 119) P))) (M) N) 129 0 (am_en 129 [.ref 112]) [] M N := by
  refine J_en (L := [.ref 112, .retAddr 0, .retAddr 0]) rfl ?_
  refine J_b 4 am_d129 rfl ?_
  exact lp129 hpz P 0 (Nat.zero_add _) _ rfl _ rfl
