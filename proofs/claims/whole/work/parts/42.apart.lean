/-! ===== apart ===== -/
/-- an answer, and what holds of the cells behind it -/
def q_p (v : Option Value) (P : am_M → am_N → Prop) : am_Q := fun r M1 N1 => r = v ∧ P M1 N1
theorem pr_s {X : am_X} {i j : Nat} {args : am_V} {v : Int32} {c : Nat} {M : am_M} {N : am_N} (h : iv c M N) (h1 : am_J X (q_p (some (.int v)) (fun M1 _ => sc_ok M M1)) i 0 (am_en i (.ref 0 :: args)) [] M N) (h2 : ∀ (M1 : am_M) (N1 : am_N), sc_ok M M1 → am_J X (q_p (some (.int v)) (fun M2 _ => sc_ok M1 M2)) j 0 (am_en j (.ref 120 :: args)) [] M1 N1) : ∃ (v : Int32) (mid : am_M → am_N → Prop), am_J X (fun r M1 N1 => r = some (.int v) ∧ mid M1 N1) i 0 (am_en i (.ref 0 :: args)) [] M N ∧ ∀ M1 N1, mid M1 N1 → am_J X (fun r M2 N2 => r = some (.int v) ∧ iv (c + 1) M2 N2) j 0 (am_en j (.ref 120 :: args)) [] M1 N1 :=
  ⟨v, fun M1 _ => sc_ok M M1, h1, fun M1 N1 hm => J_cq (h2 M1 N1 hm) (fun _ _ _ hq => ⟨hq.1, iv_sc h (sc_t hm hq.2)⟩)⟩
theorem D_cm {M : am_M} {kd mo sk gn ew nw kd2 mo2 sk2 gn2 ew2 nw2 : Int32} {sh sh2 : Nat → Int32} {st st2 : am_M} : dr_D (dr_D M 40 kd mo sk gn ew nw sh st) 46 kd2 mo2 sk2 gn2 ew2 nw2 sh2 st2 = dr_D (dr_D M 46 kd2 mo2 sk2 gn2 ew2 nw2 sh2 st2) 40 kd mo sk gn ew nw sh st := by
  funext r j
  by_cases h40 : r = 40
  · subst h40
    rfl
  by_cases h41 : r = 41
  · subst h41
    rfl
  by_cases h42 : r = 42
  · subst h42
    rfl
  by_cases h43 : r = 43
  · subst h43
    rfl
  by_cases h44 : r = 44
  · subst h44
    rfl
  by_cases h45 : r = 45
  · subst h45
    rfl
  by_cases h46 : r = 46
  · subst h46
    rfl
  by_cases h47 : r = 47
  · subst h47
    rfl
  by_cases h48 : r = 48
  · subst h48
    rfl
  by_cases h49 : r = 49
  · subst h49
    rfl
  by_cases h50 : r = 50
  · subst h50
    rfl
  by_cases h51 : r = 51
  · subst h51
    rfl
  rw [D_n (b := 46) (by omega), D_n (b := 40) (by omega), D_n (b := 40) (by omega), D_n (b := 46) (by omega)]
abbrev c_mt (s s' : am_M) : Prop := ∃ j, j < 60 ∧ (0 < s 1 j + s 3 j ∧ 0 < s' 1 j + s' 3 j)
def c_apt (A B : Nat → am_M) : Nat → Nat → Int32
  | 0, _ => -3
  | n + 1, t => if c_mt (A t) (B t) then c_apt A B n (t + 1) else nI t
theorem mt_c {s s' r r' : am_M} (h1 : s 1 = r 1) (h3 : s 3 = r 3) (h1' : s' 1 = r' 1) (h3' : s' 3 = r' 3) : c_mt s s' ↔ c_mt r r' := by
  unfold c_mt
  rw [h1, h3, h1', h3']
/-- the drifts of casts a and b, as 'apart' asks -/
def c_aps (M : am_M) (a b : Nat) (n t : Nat) : Int32 := c_apt (c_cdr M a c_z) (c_cdr M b c_z) n t
theorem aps_t {M : am_M} {a b n t : Nat} {r r' : Nat → Int32} (h : c_mt (c_cdr M a r t) (c_cdr M b r' t)) : c_aps M a b (n + 1) t = c_aps M a b n (t + 1) := by
  unfold c_aps
  rw [c_apt, if_pos ((mt_c (cdr_row _ _ (by decide)) (cdr_row _ _ (by decide)) (cdr_row _ _ (by decide)) (cdr_row _ _ (by decide))).mp h)]
theorem aps_f {M : am_M} {a b n t : Nat} {r r' : Nat → Int32} (h : ¬ c_mt (c_cdr M a r t) (c_cdr M b r' t)) : c_aps M a b (n + 1) t = nI t := by
  unfold c_aps
  rw [c_apt, if_neg (fun z => h ((mt_c (cdr_row _ _ (by decide)) (cdr_row _ _ (by decide)) (cdr_row _ _ (by decide)) (cdr_row _ _ (by decide))).mpr z))]
theorem aps_sc {M M' : am_M} (h : sc_ok M M') {a b n t : Nat} : c_aps M' a b n t = c_aps M a b n t := by
  unfold c_aps
  rw [show c_cdr M' a c_z = c_cdr M a c_z from funext fun t => cdr_sc h, show c_cdr M' b c_z = c_cdr M b c_z from funext fun t => cdr_sc h]
theorem lp60 {X : am_X} {M : am_M} {N : am_N} : ∀ (n i : Nat), i + n = 60 → ∀ (x : Int32), x = nI i → (∀ j, j < i → ¬ (0 < M 41 j + M 43 j ∧ 0 < M 47 j + M 49 j)) → am_J X (am_eq (some (.int (am_bi (c_mt (fun k j => M (40 + k) j) (fun k j => M (46 + k) j))))) M N) 60 2 [.ref 40, .ref 46, .int x] [] M N := by
  intro n
  induction n with
  | zero =>
    intro i hn x ex hno
    have e : i = 60 := by omega
    subst e
    subst ex
    refine J_b 2 am_d60 rfl ?_
    refine J_icmp_ge 48 (am_d60 rfl) rfl (fun h5 => ?_) (fun h5 => absurd (Int32.le_refl _) h5)
    refine J_b 1 am_d60 rfl ?_
    exact J_iret (am_d60 rfl) rfl rfl ⟨congrArg (fun z => some (Value.int z)) (if_neg (fun ⟨j, hj, hp⟩ => hno j hj hp)).symm, rfl, rfl⟩
  | succ n ih =>
    intro i hn x ex hno
    have hi : i < 60 := by omega
    subst ex
    refine J_b 2 am_d60 rfl ?_
    refine J_icmp_ge 48 (am_d60 rfl) rfl (fun h5 => absurd h5 (z_l hi)) (fun h5 => ?_)
    refine J_b 3 am_d60 rfl ?_
    refine J_iald (am_d60 rfl) rfl (vp_in_nI hi (by decide)) ?_
    rw [nI_c (n := i) (by omega)]
    show am_J X _ 60 14 _ (.int (M 41 i) :: _) _ N
    refine J_b 3 am_d60 rfl ?_
    refine J_iald (am_d60 rfl) rfl (vp_in_nI hi (by decide)) ?_
    rw [nI_c (n := i) (by omega)]
    show am_J X _ 60 20 _ (.int (M 43 i) :: _) _ N
    refine J_b 1 am_d60 rfl ?_
    refine J_if_le 42 (am_d60 rfl) rfl (fun h21 => ?_) (fun h21 => ?_)
    · refine J_b 1 am_d60 rfl ?_
      refine J_b 1 am_d60 rfl ?_
      refine ih (i + 1) (by omega) _ (nI_1 i) (fun j hj => ?_)
      by_cases hji : j = i
      · subst hji
        exact fun z => absurd z.1 (Int32.not_lt.mpr h21)
      · exact hno j (by omega)
    · refine J_b 3 am_d60 rfl ?_
      refine J_iald (am_d60 rfl) rfl (vp_in_nI hi (by decide)) ?_
      rw [nI_c (n := i) (by omega)]
      show am_J X _ 60 30 _ (.int (M 47 i) :: _) _ N
      refine J_b 3 am_d60 rfl ?_
      refine J_iald (am_d60 rfl) rfl (vp_in_nI hi (by decide)) ?_
      rw [nI_c (n := i) (by omega)]
      show am_J X _ 60 36 _ (.int (M 49 i) :: _) _ N
      refine J_b 1 am_d60 rfl ?_
      refine J_if_le 42 (am_d60 rfl) rfl (fun h37 => ?_) (fun h37 => ?_)
      · refine J_b 1 am_d60 rfl ?_
        refine J_b 1 am_d60 rfl ?_
        refine ih (i + 1) (by omega) _ (nI_1 i) (fun j hj => ?_)
        by_cases hji : j = i
        · subst hji
          exact fun z => absurd z.2 (Int32.not_lt.mpr h37)
        · exact hno j (by omega)
      · refine J_b 1 am_d60 rfl ?_
        exact J_iret (am_d60 rfl) rfl rfl ⟨congrArg (fun z => some (Value.int z)) (if_pos ⟨i, hi, Int32.not_le.mp h21, Int32.not_le.mp h37⟩).symm, rfl, rfl⟩
theorem sp60 {X : am_X} {M : am_M} {N : am_N}  : am_J X (am_eq (some (.int (am_bi (c_mt (fun k j => M (40 + k) j) (fun k j => M (46 + k) j))))) (M) N) 60 0 (am_en 60 [.ref 40, .ref 46]) [] M N := by
  refine J_en (L := [.ref 40, .ref 46, .retAddr 0]) rfl ?_
  refine J_b 2 am_d60 rfl ?_
  exact lp60 60 0 rfl _ rfl (fun j hj => absurd hj (by omega))
theorem sC_T40 {M : am_M} {kd sk e0 n0 : Int32} {sh : Nat → Int32} {s0 : am_M} {mo t : Nat} : sC (dr_T M 40 kd mo sk e0 n0 sh s0 t) = sC M := rfl
theorem T2_41 {M : am_M} {a b t : Nat} : (dr_T (dr_T M 40 (M 19 a) (M 22 a).toNatClampNeg (M 25 a) (M 40 10) (M 40 11) (M 17) (c_s0 (M 23 a).toNatClampNeg (M 42)) t) 46 (M 19 b) (M 22 b).toNatClampNeg (M 25 b) (M 46 10) (M 46 11) (M 17) (c_s0 (M 23 b).toNatClampNeg (M 48)) t) 41 = c_cdr M a (M 42) t 1 := rfl
theorem T2_43 {M : am_M} {a b t : Nat} : (dr_T (dr_T M 40 (M 19 a) (M 22 a).toNatClampNeg (M 25 a) (M 40 10) (M 40 11) (M 17) (c_s0 (M 23 a).toNatClampNeg (M 42)) t) 46 (M 19 b) (M 22 b).toNatClampNeg (M 25 b) (M 46 10) (M 46 11) (M 17) (c_s0 (M 23 b).toNatClampNeg (M 48)) t) 43 = c_cdr M a (M 42) t 3 := rfl
theorem T2_47 {M : am_M} {a b t : Nat} : (dr_T (dr_T M 40 (M 19 a) (M 22 a).toNatClampNeg (M 25 a) (M 40 10) (M 40 11) (M 17) (c_s0 (M 23 a).toNatClampNeg (M 42)) t) 46 (M 19 b) (M 22 b).toNatClampNeg (M 25 b) (M 46 10) (M 46 11) (M 17) (c_s0 (M 23 b).toNatClampNeg (M 48)) t) 47 = c_cdr M b (M 48) t 1 := by
  unfold dr_T
  rw [show sC (dr_D M 40 (M 19 a) (nI (M 22 a).toNatClampNeg) (M 25 a) (nI t) (c_wn (sC M) 9 12 (M 19 a) (M 22 a).toNatClampNeg (M 40 10) t) (c_wn (sC M) 10 13 (M 19 a) (M 22 a).toNatClampNeg (M 40 11) t) (M 17) (itr (c_mo (sC M) (M 17) (M 19 a) (M 22 a).toNatClampNeg (M 25 a)) t (c_s0 (M 23 a).toNatClampNeg (M 42)))) = sC M from rfl]
  rfl
theorem T2_49 {M : am_M} {a b t : Nat} : (dr_T (dr_T M 40 (M 19 a) (M 22 a).toNatClampNeg (M 25 a) (M 40 10) (M 40 11) (M 17) (c_s0 (M 23 a).toNatClampNeg (M 42)) t) 46 (M 19 b) (M 22 b).toNatClampNeg (M 25 b) (M 46 10) (M 46 11) (M 17) (c_s0 (M 23 b).toNatClampNeg (M 48)) t) 49 = c_cdr M b (M 48) t 3 := by
  unfold dr_T
  rw [show sC (dr_D M 40 (M 19 a) (nI (M 22 a).toNatClampNeg) (M 25 a) (nI t) (c_wn (sC M) 9 12 (M 19 a) (M 22 a).toNatClampNeg (M 40 10) t) (c_wn (sC M) 10 13 (M 19 a) (M 22 a).toNatClampNeg (M 40 11) t) (M 17) (itr (c_mo (sC M) (M 17) (M 19 a) (M 22 a).toNatClampNeg (M 25 a)) t (c_s0 (M 23 a).toNatClampNeg (M 42)))) = sC M from rfl]
  rfl
theorem T_cm {M : am_M} {a b t s : Nat} : dr_T (dr_T M 40 (M 19 a) (M 22 a).toNatClampNeg (M 25 a) (M 40 10) (M 40 11) (M 17) (c_s0 (M 23 a).toNatClampNeg (M 42)) t) 46 (M 19 b) (M 22 b).toNatClampNeg (M 25 b) (M 46 10) (M 46 11) (M 17) (c_s0 (M 23 b).toNatClampNeg (M 48)) s = dr_T (dr_T (M) 46 (M 19 b) (M 22 b).toNatClampNeg (M 25 b) (M 46 10) (M 46 11) (M 17) (c_s0 (M 23 b).toNatClampNeg (M 48)) s) 40 (M 19 a) (M 22 a).toNatClampNeg (M 25 a) (M 40 10) (M 40 11) (M 17) (c_s0 (M 23 a).toNatClampNeg (M 42)) t := D_cm
theorem l13 {t : Nat} (h : t ≤ 12) : ¬ (Int8.ofInt 12).toInt32 < nI t := by
  rw [show (Int8.ofInt 12).toInt32 = nI 12 from rfl, Int32.lt_iff_toInt_lt, nI_i (by omega), nI_i (by omega)]
  omega
theorem lp59 {X : am_X} {M : am_M} {N : am_N} {a b : Nat} (hma : (M 22 a).toNatClampNeg < 100) (hmb : (M 22 b).toNatClampNeg < 100) (hb : iv_sb M) (hcb : iv_cb M) : ∀ (n t : Nat), t + n = 13 → ∀ (x : Int32), x = nI t → am_J X (q_p (some (.int (c_aps M a b n t))) (fun M1 _ => sc_ok M M1)) 59 75 [.ref 0, .int (nI a), .int (nI b), .int x] [] (dr_T (dr_T M 40 (M 19 a) (M 22 a).toNatClampNeg (M 25 a) (M 40 10) (M 40 11) (M 17) (c_s0 (M 23 a).toNatClampNeg (M 42)) (min 12 t)) 46 (M 19 b) (M 22 b).toNatClampNeg (M 25 b) (M 46 10) (M 46 11) (M 17) (c_s0 (M 23 b).toNatClampNeg (M 48)) (min 12 t)) N := by
  intro n
  induction n with
  | zero =>
    intro t hn x ex
    have e : t = 13 := by omega
    subst e
    subst ex
    refine J_b 2 am_d59 rfl ?_
    refine J_icmp_gt 119 (am_d59 rfl) rfl (fun h78 => ?_) (fun h78 => absurd (by decide) h78)
    refine J_b 1 am_d59 rfl ?_
    exact J_iret (am_d59 rfl) rfl rfl ⟨rfl, sc_t sc_T40 sc_T46⟩
  | succ n ih =>
    intro t hn x ex
    have ht : min 12 t = t := by omega
    rw [ht]
    subst ex
    refine J_b 2 am_d59 rfl ?_
    refine J_icmp_gt 119 (am_d59 rfl) rfl (fun h78 => absurd h78 (l13 (by omega))) (fun h78 => ?_)
    refine J_b 4 am_d59 rfl ?_
    refine J_V1s 60 (am_d59 rfl) rfl rfl (sp60) ?_
    refine J_if_ne 97 (am_d59 rfl) rfl (fun h92 => ?_) (fun h92 => ?_)
    · have hm : c_mt (c_cdr M a (M 42) t) (c_cdr M b (M 48) t) := (mt_c T2_41 T2_43 T2_47 T2_49).mp (am_bi1.mp h92)
      rw [aps_t hm]
      rw [T_cm]
      have q1 := sp42_40 (X := X) (N := N) (M := dr_T (M) 46 (M 19 b) (M 22 b).toNatClampNeg (M 25 b) (M 46 10) (M 46 11) (M 17) (c_s0 (M 23 b).toNatClampNeg (M 48)) t) (kd := M 19 a) (sk := M 25 a) (e0 := M 40 10) (n0 := M 40 11) (s0 := c_s0 (M 23 a).toNatClampNeg (M 42)) (sh := M 17) (mo := (M 22 a).toNatClampNeg) (cnt := 1) (t := t) hma hb (hcb.2.1 a) hb.2.2.2.2.2.2.2.2.2.2.2 s0_4 (by decide) (by omega)
      have q2 := sp42_46 (X := X) (N := N) (M := dr_T M 40 (M 19 a) (M 22 a).toNatClampNeg (M 25 a) (M 40 10) (M 40 11) (M 17) (c_s0 (M 23 a).toNatClampNeg (M 42)) (min 12 (t + 1))) (kd := M 19 b) (sk := M 25 b) (e0 := M 46 10) (n0 := M 46 11) (s0 := c_s0 (M 23 b).toNatClampNeg (M 48)) (sh := M 17) (mo := (M 22 b).toNatClampNeg) (cnt := 1) (t := t) hmb hb (hcb.2.1 b) hb.2.2.2.2.2.2.2.2.2.2.2 s0_4 (by decide) (by omega)
      refine J_b 3 am_d59 rfl ?_
      refine J_V1n 42 (am_d59 rfl) rfl rfl (q1) ?_
      rw [← T_cm]
      refine J_b 3 am_d59 rfl ?_
      refine J_V1n 42 (am_d59 rfl) rfl rfl (q2) ?_
      refine J_b 2 am_d59 rfl ?_
      have hih := ih (t + 1) (by omega) _ (nI_1 t)
      exact hih
    · refine J_b 1 am_d59 rfl ?_
      exact J_iret (am_d59 rfl) rfl rfl ⟨by rw [aps_f (fun z => am_bi0.mp h92 ((mt_c T2_41 T2_43 T2_47 T2_49).mpr z))], sc_t (sc_T40) (sc_T46)⟩
theorem sp59a {X : am_X} {M : am_M} {N : am_N} {x y : Int32} (h1 : ¬ (((0 ≤ x.toInt ∧ x.toInt < (M 18 7).toInt) ∧ 0 ≤ y.toInt ∧ y.toInt < (M 18 7).toInt) ∧ ¬ x = y)) : am_J X (am_eq (some (.int (-1))) (M) N) 59 0 (am_en 59 [.ref 0, .int x, .int y]) [] M N := by
  refine J_en (L := [.ref 0, .int x, .int y, .retAddr 0]) rfl ?_
  refine J_b 4 am_d59 rfl ?_
  refine J_S2s 13 (am_d59 rfl) rfl rfl (sp13) ?_
  refine J_if_eq 33 (am_d59 rfl) rfl (fun h11 => ?_) (fun h11 => ?_)
  · refine J_b 1 am_d59 rfl ?_
    exact J_iret (am_d59 rfl) rfl rfl ⟨rfl, rfl, rfl⟩
  · refine J_b 4 am_d59 rfl ?_
    refine J_S2s 13 (am_d59 rfl) rfl rfl (sp13) ?_
    refine J_if_eq 33 (am_d59 rfl) rfl (fun h25 => ?_) (fun h25 => ?_)
    · refine J_b 1 am_d59 rfl ?_
      exact J_iret (am_d59 rfl) rfl rfl ⟨rfl, rfl, rfl⟩
    · refine J_b 2 am_d59 rfl ?_
      refine J_icmp_ne 35 (am_d59 rfl) rfl (fun h30 => ?_) (fun h30 => ?_)
      · exact absurd ⟨⟨am_bi1.mp h11, am_bi1.mp h25⟩, h30⟩ h1
      · refine J_b 1 am_d59 rfl ?_
        exact J_iret (am_d59 rfl) rfl rfl ⟨rfl, rfl, rfl⟩
theorem sp59c {X : am_X} {M : am_M} {N : am_N} {a b : Nat} (ha5 : a < 5) (hb5 : b < 5) (has : (a : Int) < (M 18 7).toInt) (hbs : (b : Int) < (M 18 7).toInt) (hab : a ≠ b) (hb : iv_sb M) (hcb : iv_cb M) : am_J X (q_p (some (.int (c_aps M a b 13 0))) (fun M1 _ => sc_ok M M1)) 59 0 (am_en 59 [.ref 0, .int (nI a), .int (nI b)]) [] M N := by
  have i1 := nI_i (n := a) (by omega)
  have i2 := nI_i (n := b) (by omega)
  have hma : (M 22 a).toNatClampNeg < 100 := by have := hcb.2.2.2.2.1 a; unfold b_in at this; have := I_cl this.1; omega
  have hmb : (M 22 b).toNatClampNeg < 100 := by have := hcb.2.2.2.2.1 b; unfold b_in at this; have := I_cl this.1; omega
  refine J_en (L := [.ref 0, .int (nI a), .int (nI b), .retAddr 0]) rfl ?_
  refine J_b 4 am_d59 rfl ?_
  refine J_S2s 13 (am_d59 rfl) rfl rfl (sp13) ?_
  refine J_if_eq 33 (am_d59 rfl) rfl (fun h11 => absurd h11 (am_bi1.mpr (by rw [i1]; omega))) (fun h11 => ?_)
  refine J_b 4 am_d59 rfl ?_
  refine J_S2s 13 (am_d59 rfl) rfl rfl (sp13) ?_
  refine J_if_eq 33 (am_d59 rfl) rfl (fun h25 => absurd h25 (am_bi1.mpr (by rw [i2]; omega))) (fun h25 => ?_)
  refine J_b 2 am_d59 rfl ?_
  refine J_icmp_ne 35 (am_d59 rfl) rfl (fun h30 => ?_) (fun h30 => absurd (nI_inj (by omega) (by omega) h30) hab)
  refine J_b 8 am_d59 rfl ?_
  refine J_V3n 39 (am_d59 rfl) rfl rfl (sp39_40 ha5 hcb) ?_
  rw [T_0 hcb]
  refine J_b 8 am_d59 rfl ?_
  refine J_V3n 39 (am_d59 rfl) rfl rfl (sp39_46 hb5 hcb) ?_
  refine J_mem (show _ = dr_T (dr_T M 40 (M 19 a) (M 22 a).toNatClampNeg (M 25 a) (M 40 10) (M 40 11) (M 17) (c_s0 (M 23 a).toNatClampNeg (M 42)) (min 12 0)) 46 (M 19 b) (M 22 b).toNatClampNeg (M 25 b) (M 46 10) (M 46 11) (M 17) (c_s0 (M 23 b).toNatClampNeg (M 48)) (min 12 0) from T_0 (M := dr_T M 40 (M 19 a) (M 22 a).toNatClampNeg (M 25 a) (M 40 10) (M 40 11) (M 17) (c_s0 (M 23 a).toNatClampNeg (M 42)) 0) (b := 46) (c := b) hcb) ?_
  refine J_b 2 am_d59 rfl ?_
  exact lp59 hma hmb hb hcb 13 0 rfl _ rfl
