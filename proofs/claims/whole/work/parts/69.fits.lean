/-! ===== fits: the reference ===== -/
theorem upR_upk {M : am_M} {k j : Nat} {x : Int32} {f : Nat → Int32} : am_upR (am_up M k j x) k f = am_upR M k f := by
  funext a
  unfold am_upR
  split
  · rfl
  · rename_i h
    exact up_n h
theorem rz_uR {M M1 : am_M} {k : Nat} {f : Nat → Int32} (h : rz M M1) (hk : k = 130 ∨ (160 ≤ k ∧ k ≤ 162)) : rz M (am_upR M1 k f) := by
  obtain ⟨a, b, c, d, e, g, i⟩ := h
  refine ⟨fun r h0 h1 h3 h4 => by rw [upR_n (by omega), a r h0 h1 h3 h4], ?_, ?_, ?_, ?_, ?_, ?_⟩ <;> (rw [upR_n (by omega)]; assumption)
/-- the best of the first k shifts is kept -/
def ks (M : am_M) (S F : Nat) (v : Nat → Int64) (k : Nat) (M1 : am_M) (N1 : am_N) : Prop := (rz M M1 ∧ (∀ j, j < F → M1 160 j = g_of M S j) ∧ ∀ r, r < 3 → M1 161 r = M 130 r) ∧ (k = 0 → N1 120 49 = -1) ∧ ∀ j, k = j + 1 → N1 120 49 = (lmn v j).2 ∧ ∀ r, r < 3 → M1 162 r = c_sh (lmn v j).1 r
theorem lp186a {X : am_X} {Q : am_Q} {M : am_M} {N : am_N} {but : Int32} {z3 z4 z5 : Value} (kk : ∀ x, am_J X Q 186 25 [.ref 120, .int but, .int x, z3, z4, z5] [] (am_upR M 161 (c_lt 3 (M 130) (M 161))) N) : ∀ (n i : Nat), i + n = 3 → ∀ (x : Int32), x = nI i → ∀ (r : Nat → Int32), r = c_lt i (M 130) (M 161) → am_J X Q 186 2 [.ref 120, .int but, .int x, z3, z4, z5] [] (am_upR M 161 r) N := by
  intro n
  induction n with
  | zero =>
    intro i hn x ex r es
    have e : i = 3 := by omega
    subst ex
    have hge : Int32.ofInt 3 ≤ nI i := by rw [e]; exact Int32.le_refl _
    refine J_b 2 am_d186 rfl ?_
    refine J_icmp_ge 25 (am_d186 rfl) rfl (fun h4 => ?_) (fun h4 => absurd (hge) h4)
    rw [es, e]
    exact kk _
  | succ n ih =>
    intro i hn x ex r es
    subst ex
    refine J_b 2 am_d186 rfl ?_
    refine J_icmp_ge 25 (am_d186 rfl) rfl (fun h4 => absurd h4 (nI_ngt (b := 3) (by omega) (by decide))) (fun h4 => ?_)
    refine J_b 6 am_d186 rfl ?_
    refine J_iald (am_d186 rfl) rfl (vp_in_nI (show i < 3 by omega) (by decide)) ?_
    rw [nI_c (n := i) (by omega)]
    show am_J X _ 186 18 _ (.int (M 130 i) :: _) _ N
    refine J_iast (am_d186 rfl) rfl (vp_in_nI (show i < 3 by omega) (by decide)) ?_
    rw [nI_c (n := i) (by omega), upR_up]
    refine J_b 2 am_d186 rfl ?_
    refine ih (i + 1) (by omega) _ (nI_1 i) _ ?_
    rw [es]
    exact cl_s rfl
theorem lp186b {X : am_X} {Q : am_Q} {M : am_M} {N : am_N} {but : Int32} {k : Int32} {now : Int64} (kk : ∀ x, am_J X Q 186 137 [.ref 120, .int but, .int k, .long now, .retAddr 0, .int x] [] (am_upR M 162 (c_lt 3 (M 130) (M 162))) N) : ∀ (n i : Nat), i + n = 3 → ∀ (x : Int32), x = nI i → ∀ (r : Nat → Int32), r = c_lt i (M 130) (M 162) → am_J X Q 186 111 [.ref 120, .int but, .int k, .long now, .retAddr 0, .int x] [] (am_upR M 162 r) N := by
  intro n
  induction n with
  | zero =>
    intro i hn x ex r es
    have e : i = 3 := by omega
    subst ex
    have hge : Int32.ofInt 3 ≤ nI i := by rw [e]; exact Int32.le_refl _
    refine J_b 2 am_d186 rfl ?_
    refine J_icmp_ge 137 (am_d186 rfl) rfl (fun h114 => ?_) (fun h114 => absurd (hge) h114)
    rw [es, e]
    exact kk _
  | succ n ih =>
    intro i hn x ex r es
    subst ex
    refine J_b 2 am_d186 rfl ?_
    refine J_icmp_ge 137 (am_d186 rfl) rfl (fun h114 => absurd h114 (nI_ngt (b := 3) (by omega) (by decide))) (fun h114 => ?_)
    refine J_b 6 am_d186 rfl ?_
    refine J_iald (am_d186 rfl) rfl (vp_in_nI (show i < 3 by omega) (by decide)) ?_
    rw [nI_c (n := i) (by omega)]
    show am_J X _ 186 130 _ (.int (M 130 i) :: _) _ N
    refine J_iast (am_d186 rfl) rfl (vp_in_nI (show i < 3 by omega) (by decide)) ?_
    rw [nI_c (n := i) (by omega), upR_up]
    refine J_b 2 am_d186 rfl ?_
    refine ih (i + 1) (by omega) _ (nI_1 i) _ ?_
    rw [es]
    exact cl_s rfl
theorem lp186c {X : am_X} {Q : am_Q} {M : am_M} {N : am_N} {but : Int32} {z3 z4 z5 : Value} (kk : ∀ x, am_J X Q 186 168 [.ref 120, .int but, .int x, z3, z4, z5] [] (am_upR M 130 (c_lt 3 (M 161) (M 130))) N) : ∀ (n i : Nat), i + n = 3 → ∀ (x : Int32), x = nI i → ∀ (r : Nat → Int32), r = c_lt i (M 161) (M 130) → am_J X Q 186 145 [.ref 120, .int but, .int x, z3, z4, z5] [] (am_upR M 130 r) N := by
  intro n
  induction n with
  | zero =>
    intro i hn x ex r es
    have e : i = 3 := by omega
    subst ex
    have hge : Int32.ofInt 3 ≤ nI i := by rw [e]; exact Int32.le_refl _
    refine J_b 2 am_d186 rfl ?_
    refine J_icmp_ge 168 (am_d186 rfl) rfl (fun h147 => ?_) (fun h147 => absurd (hge) h147)
    rw [es, e]
    exact kk _
  | succ n ih =>
    intro i hn x ex r es
    subst ex
    refine J_b 2 am_d186 rfl ?_
    refine J_icmp_ge 168 (am_d186 rfl) rfl (fun h147 => absurd h147 (nI_ngt (b := 3) (by omega) (by decide))) (fun h147 => ?_)
    refine J_b 6 am_d186 rfl ?_
    refine J_iald (am_d186 rfl) rfl (vp_in_nI (show i < 3 by omega) (by decide)) ?_
    rw [nI_c (n := i) (by omega)]
    show am_J X _ 186 161 _ (.int (M 161 i) :: _) _ N
    refine J_iast (am_d186 rfl) rfl (vp_in_nI (show i < 3 by omega) (by decide)) ?_
    rw [nI_c (n := i) (by omega), upR_up]
    refine J_b 2 am_d186 rfl ?_
    refine ih (i + 1) (by omega) _ (nI_1 i) _ ?_
    rw [es]
    exact cl_s rfl
theorem lp186k {X : am_X} {Q : am_Q} {M : am_M} {N0 : am_N} {c0 S P F : Nat} {but : Int32} (h : iv c0 M N0) (eS : M 18 7 = nI S) (hS : S ≤ 5) (eP : M 26 5 = nI P) (hP : P ≤ 6) (eF : M 32 7 = nI F) (hF : F ≤ 16) (kk : ∀ x z3 z4 z5 M2 N2, ks M S F (fun a => mv M S P (gt M S F but) (c_sh a)) 27 M2 N2 → am_J X Q 186 143 [.ref 120, .int but, .int x, z3, z4, z5] [] M2 N2) : ∀ (n i : Nat), i + n = 27 → ∀ (x : Int32), x = nI i → ∀ (M1 : am_M) (N : am_N), ks M S F (fun a => mv M S P (gt M S F but) (c_sh a)) i M1 N → ∀ (z3 z4 z5 : Value), am_J X Q 186 34 [.ref 120, .int but, .int x, z3, z4, z5] [] M1 N := by
  intro n
  induction n with
  | zero =>
    intro i hn x ex M1 N hk z3 z4 z5
    have e : i = 27 := by omega
    subst ex
    have hge : (Int8.ofInt 27).toInt32 ≤ nI i := by rw [e]; exact Int32.le_refl _
    refine J_b 2 am_d186 rfl ?_
    refine J_icmp_ge 143 (am_d186 rfl) rfl (fun h37 => ?_) (fun h37 => absurd (hge) h37)
    rw [e] at hk
    exact kk _ _ _ _ _ _ hk
  | succ n ih =>
    intro i hn x ex M1 N hk z3 z4 z5
    subst ex
    have hi : i < 27 := by omega
    have sk0 : nI i / (Int8.ofInt 9).toInt32 - Int32.ofInt 1 = c_sh i 0 := (sh_k ⟨i, hi⟩).1
    have sk1 : nI i / Int32.ofInt 3 - nI i / Int32.ofInt 3 / Int32.ofInt 3 * Int32.ofInt 3 - Int32.ofInt 1 = c_sh i 1 := (sh_k ⟨i, hi⟩).2.1
    have sk2 : nI i - nI i / Int32.ofInt 3 * Int32.ofInt 3 - Int32.ofInt 1 = c_sh i 2 := (sh_k ⟨i, hi⟩).2.2.1
    have hz : su2 M S F (c_sh i) (am_upR M1 130 (c_sh i)) := ⟨rz_uR hk.1.1 (by omega), upR_r, fun k hkF => by rw [upR_n (by omega)]; exact hk.1.2.1 k hkF⟩
    refine J_b 2 am_d186 rfl ?_
    refine J_icmp_ge 143 (am_d186 rfl) rfl (fun h37 => absurd h37 (nI_ngt (b := 27) (by omega) (by decide))) (fun h37 => ?_)
    refine J_b 8 am_d186 rfl ?_
    refine J_st5 (show _ = ([.int (c_sh i 0), .int (Int32.ofInt 0), .ref 130] : am_V) from congrArg (fun z => ([.int z, .int (Int32.ofInt 0), .ref 130] : am_V)) sk0) ?_
    refine J_iast (am_d186 rfl) rfl (am_vi rfl) ?_
    show am_J X _ 186 52 _ _ (am_up M1 130 0 (c_sh i 0)) N
    refine J_b 10 am_d186 rfl ?_
    refine J_st5 (show _ = ([.int (c_sh i 1), .int (Int32.ofInt 1), .ref 130] : am_V) from congrArg (fun z => ([.int z, .int (Int32.ofInt 1), .ref 130] : am_V)) sk1) ?_
    refine J_iast (am_d186 rfl) rfl (am_vi rfl) ?_
    show am_J X _ 186 65 _ _ (am_up (am_up M1 130 0 (c_sh i 0)) 130 1 (c_sh i 1)) N
    refine J_b 8 am_d186 rfl ?_
    refine J_st5 (show _ = ([.int (c_sh i 2), .int (Int32.ofInt 2), .ref 130] : am_V) from congrArg (fun z => ([.int z, .int (Int32.ofInt 2), .ref 130] : am_V)) sk2) ?_
    refine J_iast (am_d186 rfl) rfl (am_vi rfl) ?_
    show am_J X _ 186 76 _ _ (am_up (am_up (am_up M1 130 0 (c_sh i 0)) 130 1 (c_sh i 1)) 130 2 (c_sh i 2)) N
    refine J_mr 130 (n := 3) (c_sh i) rfl (fun j hj => ?_) ?_
    · match j, hj with
      | 0, _ => rfl
      | 1, _ => rfl
      | 2, _ => rfl
      | (n + 3), z => exact absurd z (by omega)
    rw [upR_upk, upR_upk, upR_upk]
    refine J_b 2 am_d186 rfl ?_
    refine J_V1sp 187 (am_d186 rfl) rfl rfl (sp187 h eS hS eP hP eF hF (sh_b hi) hz) (fun M2 N2 hq => ?_)
    obtain ⟨hr, rfl⟩ := hq
    have hrz := rz_rd hz.1 hr
    have h160 : ∀ j, j < F → M2 160 j = g_of M S j := fun j hj => by rw [rd_n hr (by omega)]; exact hz.2.2 j hj
    have h161 : ∀ r, r < 3 → M2 161 r = M 130 r := fun r hr3 => by rw [rd_n hr (by omega), upR_n (by omega)]; exact hk.1.2.2 r hr3
    have h130 : M2 130 = c_sh i := by rw [rd_n hr (by omega), upR_r]
    by_cases e0 : i = 0
    · have hneg : lg_cmp (N2 120 49) 0 < 0 := by rw [hk.2.1 e0]; decide
      refine J_b 5 am_d186 rfl ?_
      refine J_if_lt 103 (am_d186 rfl) rfl (fun h88 => ?_) (fun h88 => absurd (hneg) h88)
      have hnew : lmn (fun a => mv M S P (gt M S F but) (c_sh a)) i = (i, mv M S P (gt M S F but) (c_sh i)) := by rw [e0]; rfl
      refine J_b 2 am_d186 rfl ?_
      refine J_putl (am_d186 rfl) rfl ?_
      refine J_b 2 am_d186 rfl ?_
      refine J_r0 162 rfl ?_
      refine lp186b (fun x => ?_) 3 0 rfl _ rfl _ cl_0.symm
      refine J_b 2 am_d186 rfl ?_
      refine ih (i + 1) (by omega) _ (nI_1 i) _ _ ⟨⟨rz_uR hrz (by omega), fun j hj => by rw [upR_n (by omega)]; exact h160 j hj, fun r hr3 => by rw [upR_n (by omega)]; exact h161 r hr3⟩, fun z => absurd z (by omega), fun j hj => ?_⟩ _ _ _
      have ej : j = i := by omega
      subst ej
      rw [hnew]
      exact ⟨rfl, fun r hr3 => by rw [upR_r, cl_p hr3, h130]⟩
    · obtain ⟨i0, ei⟩ : ∃ i0, i = i0 + 1 := ⟨i - 1, by omega⟩
      obtain ⟨k1, k2⟩ := hk.2.2 i0 ei
      have hpos : ¬ lg_cmp (N2 120 49) 0 < 0 := by
        rw [lc_lt, k1, (lmn_b i0).2, Int64.lt_iff_toInt_lt]
        exact Int.not_lt.mpr (mv_b h hS hP (fun c n => by have := gb_b (tl := M 38) (gs := g_of M S) (nr := M 35) (c := nI c) (nm := nI n) (as := 999) (but := but) F hF; exact ⟨this.1, by have := this.2; show (c_gb (M 38) (g_of M S) (M 35) (nI c) (nI n) 999 but F).toInt ≤ 16; omega⟩))
      refine J_b 5 am_d186 rfl ?_
      refine J_if_lt 103 (am_d186 rfl) rfl (fun h88 => absurd h88 hpos) (fun h88 => ?_)
      refine J_b 4 am_d186 rfl ?_
      refine J_if_lt 103 (am_d186 rfl) rfl (fun h97 => ?_) (fun h97 => ?_)
      · have hnew : lmn (fun a => mv M S P (gt M S F but) (c_sh a)) i = (i, mv M S P (gt M S F but) (c_sh i)) := by
          subst ei
          rw [lmn, if_pos (by have q := lc_lt.mp h97; rw [k1] at q; exact q)]
        refine J_b 2 am_d186 rfl ?_
        refine J_putl (am_d186 rfl) rfl ?_
        refine J_b 2 am_d186 rfl ?_
        refine J_r0 162 rfl ?_
        refine lp186b (fun x => ?_) 3 0 rfl _ rfl _ cl_0.symm
        refine J_b 2 am_d186 rfl ?_
        refine ih (i + 1) (by omega) _ (nI_1 i) _ _ ⟨⟨rz_uR hrz (by omega), fun j hj => by rw [upR_n (by omega)]; exact h160 j hj, fun r hr3 => by rw [upR_n (by omega)]; exact h161 r hr3⟩, fun z => absurd z (by omega), fun j hj => ?_⟩ _ _ _
        have ej : j = i := by omega
        subst ej
        rw [hnew]
        exact ⟨rfl, fun r hr3 => by rw [upR_r, cl_p hr3, h130]⟩
      · refine J_b 1 am_d186 rfl ?_
        have hnew : lmn (fun a => mv M S P (gt M S F but) (c_sh a)) i = lmn (fun a => mv M S P (gt M S F but) (c_sh a)) i0 := by
          subst ei
          rw [lmn, if_neg (fun z => h97 (lc_lt.mpr (by rw [k1]; exact z)))]
        refine J_b 2 am_d186 rfl ?_
        refine ih (i + 1) (by omega) _ (nI_1 i) _ _ ⟨⟨hrz, h160, h161⟩, fun z => absurd z (by omega), fun j hj => ?_⟩ _ _ _
        have ej : j = i := by omega
        subst ej
        rw [hnew]
        exact ⟨k1, fun r hr3 => by rw [rd_n hr (by omega), upR_n (by omega)]; exact k2 r hr3⟩
theorem sp186 {X : am_X} {M M1 : am_M} {N N0 : am_N} {c0 S P F : Nat} {but : Int32} (h : iv c0 M N0) (eS : M 18 7 = nI S) (hS : S ≤ 5) (eP : M 26 5 = nI P) (hP : P ≤ 6) (eF : M 32 7 = nI F) (hF : F ≤ 16) (hz : su2 M S F (M 130) M1) : am_J X (q_p none (fun M2 N2 => su2 M S F (M 130) M2 ∧ N2 120 49 = (lmn (fun a => mv M S P (gt M S F but) (c_sh a)) 26).2 ∧ ∀ r, r < 3 → M2 162 r = c_sh (lmn (fun a => mv M S P (gt M S F but) (c_sh a)) 26).1 r)) 186 0 (am_en 186 [.ref 120, .int but]) [] M1 N := by
  refine J_en (L := [.ref 120, .int but, .retAddr 0, .retAddr 0, .retAddr 0, .retAddr 0]) rfl ?_
  refine J_b 2 am_d186 rfl ?_
  refine J_r0 161 rfl ?_
  refine lp186a (fun x => ?_) 3 0 rfl _ rfl _ cl_0.symm
  refine J_b 2 am_d186 rfl ?_
  refine J_putl (am_d186 rfl) rfl ?_
  refine J_b 2 am_d186 rfl ?_
  refine lp186k h eS hS eP hP eF hF (fun x z3 z4 z5 M2 N2 hk => ?_) 27 0 rfl _ rfl _ _ ⟨⟨rz_uR hz.1 (by omega), fun j hj => by rw [upR_n (by omega)]; exact hz.2.2 j hj, fun r hr3 => by rw [upR_r, cl_p hr3, hz.2.1]⟩, fun _ => rfl, fun j hj => absurd hj (by omega)⟩ _ _ _
  refine J_b 2 am_d186 rfl ?_
  refine J_r0 130 rfl ?_
  refine lp186c (fun x => ?_) 3 0 rfl _ rfl _ cl_0.symm
  refine J_mr 130 (n := 3) (M 130) rfl (fun j hj => ?_) ?_
  · rw [upR_r, cl_p hj]
    exact (hk.1.2.2 j hj).symm
  rw [upR_upR]
  exact J_ret (am_d186 rfl) rfl ⟨rfl, ⟨rz_uR hk.1.1 (by omega), upR_r, fun k hkF => by rw [upR_n (by omega)]; exact hk.1.2.1 k hkF⟩, (hk.2.2 26 rfl).1, fun r hr3 => by rw [upR_n (by omega)]; exact (hk.2.2 26 rfl).2 r hr3⟩
theorem su_su2 {M M1 : am_M} {S F : Nat} (h : su M S F M1) : su2 M S F (M 130) M1 := by
  obtain ⟨g, ⟨st, rfl⟩, hg⟩ := h
  refine ⟨⟨fun r h0 h1 h3 h4 => by rw [upR_n (by omega), R_n ⟨h0, by omega⟩], rfl, rfl, rfl, rfl, rfl, rfl⟩, rfl, fun k hk => ?_⟩
  rw [upR_r]
  exact hg k hk
theorem su2_sc {M M1 : am_M} {S F : Nat} (h : su2 M S F (M 130) M1) : sc_ok M M1 := by
  obtain ⟨⟨a, b⟩, c, _⟩ := h
  refine ⟨fun r hr => ?_, b⟩
  by_cases e : r = 130
  · rw [e, c]
  · exact a r hr.1 e (by have := hr.2.2.1; omega) (by have := hr.2.2.2.1; omega)
