/-! ===== what is missed: numbers; the reference ===== -/
/-- how many finds cast c got in name n, but one -/
noncomputable def gt (M : am_M) (S F : Nat) (but : Int32) (c n : Nat) : Int32 := c_gb (M 38) (g_of M S) (M 35) (nI c) (nI n) 999 but F
noncomputable def mv (M : am_M) (S P : Nat) (g : Nat → Nat → Int32) (sh : Nat → Int32) : Int64 := lsm (fun c => lsm (fun n => sq (c_du (sC M) M sh c n) (g c n)) P) S
theorem fw_all {fd : Nat → Int32} {x0 x1 y0 y1 : Int32} {a b : Int} (ha : a ≤ 0) (hb : 11 ≤ b) : c_fw fd x0 x1 y0 y1 a b = c_fw fd x0 x1 y0 y1 0 11 := by
  unfold c_fw
  refine smI_congr (fun t ht => ?_)
  rw [if_pos (by omega), if_pos (by omega)]
theorem L_bm {x : Int} (h : -9223372036854775808 ≤ x ∧ x < 9223372036854775808) : x.bmod (2 ^ 64) = x := by
  rw [Int.bmod_eq_of_le (by simp; omega) (by simp; omega)]
theorem L_mul {a b : Int64} (h : -9223372036854775808 ≤ a.toInt * b.toInt ∧ a.toInt * b.toInt < 9223372036854775808) : (a * b).toInt = a.toInt * b.toInt := by
  rw [Int64.toInt_mul, L_bm h]
theorem L_add {a b : Int64} (h : -9223372036854775808 ≤ a.toInt + b.toInt ∧ a.toInt + b.toInt < 9223372036854775808) : (a + b).toInt = a.toInt + b.toInt := by
  rw [Int64.toInt_add, L_bm h]
theorem L_sub {a b : Int64} (h : -9223372036854775808 ≤ a.toInt - b.toInt ∧ a.toInt - b.toInt < 9223372036854775808) : (a - b).toInt = a.toInt - b.toInt := by
  rw [Int64.toInt_sub, L_bm h]
theorem L_d1000 {a : Int64} (ha : 0 ≤ a.toInt) : (a / 1000).toInt = a.toInt / 1000 := by
  have h1 := Int64.le_toInt a
  have h2 := Int64.toInt_lt a
  have z : (1000 : Int64).toInt = 1000 := rfl
  rw [Int64.toInt_div, z, Int.tdiv_eq_ediv_of_nonneg ha, L_bm (by omega)]
theorem I_d1000 {a : Int32} (ha : 0 ≤ a.toInt) : (a / 1000).toInt = a.toInt / 1000 := I_divn (n := 1000) ha (by decide) (by decide) rfl
theorem dl_e {a b : Int32} (ha : 0 ≤ a.toInt ∧ a.toInt ≤ 1000000) (hb : 0 ≤ b.toInt ∧ b.toInt ≤ 1000) : a.toInt64 * b.toInt64 / 1000 = (a * b / 1000).toInt64 ∧ 0 ≤ (a * b / 1000).toInt ∧ (a * b / 1000).toInt ≤ 1000000 := by
  have h1 : a.toInt * b.toInt ≤ a.toInt * 1000 := Int.mul_le_mul_of_nonneg_left hb.2 ha.1
  have h2 : 0 ≤ a.toInt * b.toInt := Int.mul_nonneg ha.1 hb.1
  have e1 : (a * b).toInt = a.toInt * b.toInt := I_mul (by omega)
  have e2 := I_d1000 (a := a * b) (by omega)
  have e3 : (a.toInt64 * b.toInt64).toInt = a.toInt * b.toInt := by rw [L_mul (by rw [Int32.toInt_toInt64, Int32.toInt_toInt64]; omega), Int32.toInt_toInt64, Int32.toInt_toInt64]
  have e4 := L_d1000 (a := a.toInt64 * b.toInt64) (by omega)
  refine ⟨Int64.toInt_inj.mp ?_, by omega, by omega⟩
  rw [e4, e3, Int32.toInt_toInt64, e2, e1]
theorem sq_b {d g : Int32} (hd : 0 ≤ d.toInt ∧ d.toInt ≤ 1000000) (hg : 0 ≤ g.toInt ∧ g.toInt ≤ 16) : 0 ≤ (sq d g).toInt ∧ (sq d g).toInt ≤ 1000000000000 := by
  have z : (1000 : Int64).toInt = 1000 := rfl
  have e1 : (1000 * g.toInt64).toInt = 1000 * g.toInt := by rw [L_mul (by rw [z, Int32.toInt_toInt64]; omega), z, Int32.toInt_toInt64]
  have e2 : (d.toInt64 - 1000 * g.toInt64).toInt = d.toInt - 1000 * g.toInt := by rw [L_sub (by rw [e1, Int32.toInt_toInt64]; omega), e1, Int32.toInt_toInt64]
  have h1 : 0 ≤ (d.toInt - 1000 * g.toInt) * (d.toInt - 1000 * g.toInt) := by
    rcases Int.le_total 0 (d.toInt - 1000 * g.toInt) with h | h
    · exact Int.mul_nonneg h h
    · exact Int.mul_nonneg_of_nonpos_of_nonpos h h
  have h2 : (d.toInt - 1000 * g.toInt) * (d.toInt - 1000 * g.toInt) ≤ 1000000 * 1000000 := by
    rcases Int.le_total 0 (d.toInt - 1000 * g.toInt) with h | h
    · exact Int.mul_le_mul (by omega) (by omega) h (by omega)
    · have e : (d.toInt - 1000 * g.toInt) * (d.toInt - 1000 * g.toInt) = (-(d.toInt - 1000 * g.toInt)) * (-(d.toInt - 1000 * g.toInt)) := by rw [Int.neg_mul_neg]
      rw [e]
      exact Int.mul_le_mul (by omega) (by omega) (by omega) (by omega)
  have e3 : (sq d g).toInt = (d.toInt - 1000 * g.toInt) * (d.toInt - 1000 * g.toInt) := by
    unfold sq
    rw [L_mul (by rw [e2]; omega), e2]
  omega
theorem lsm_b {f : Nat → Int64} {n : Nat} {b : Int} (hb : 0 ≤ b) (h : ∀ j, j < n → 0 ≤ (f j).toInt ∧ (f j).toInt ≤ b) (hn : n * b ≤ 1000000000000000) : 0 ≤ (lsm f n).toInt ∧ (lsm f n).toInt ≤ n * b := by
  induction n with
  | zero => exact ⟨Int.le_refl _, by rw [show (lsm f 0).toInt = 0 from rfl]; omega⟩
  | succ n ih =>
    have e : ((n + 1 : Nat) : Int) * b = n * b + b := by
      rw [Int.natCast_add, Int.add_mul]
      omega
    rw [e] at hn ⊢
    obtain ⟨k1, k2⟩ := ih (fun j hj => h j (by omega)) (by omega)
    obtain ⟨k3, k4⟩ := h n (by omega)
    have e2 : (lsm f (n + 1)).toInt = (lsm f n).toInt + (f n).toInt := L_add (by omega)
    omega
theorem gb_b {tl gs nr : Nat → Int32} {c nm as but : Int32} (F : Nat) (hF : F ≤ 16) : 0 ≤ (c_gb tl gs nr c nm as but F).toInt ∧ (c_gb tl gs nr c nm as but F).toInt ≤ F := by
  induction F with
  | zero => exact ⟨Int.le_refl _, Int.le_refl _⟩
  | succ n ih =>
    obtain ⟨k1, k2⟩ := ih (by omega)
    have e : c_gb tl gs nr c nm as but (n + 1) = c_gb tl gs nr c nm as but n + @ite _ (c_gc tl gs nr c nm as but n) (Classical.propDecidable _) 1 0 := rfl
    have z1 : (1 : Int32).toInt = 1 := rfl
    have z0 : (0 : Int32).toInt = 0 := rfl
    by_cases hc : c_gc tl gs nr c nm as but n
    · rw [e, if_pos hc, I_add (by omega)]
      omega
    · rw [e, if_neg hc, I_add (by omega)]
      omega
/-- what is due is within bounds -/
theorem du_b {c0 : Nat} {M : am_M} {N : am_N} (h : iv c0 M N) {sh : Nat → Int32} {c n : Nat} : (0 ≤ (c_fw (c_cf (sC M) M sh c) (M 27 n) (M 28 n) (M 29 n) (M 30 n) 0 11).toInt ∧ (c_fw (c_cf (sC M) M sh c) (M 27 n) (M 28 n) (M 29 n) (M 30 n) 0 11).toInt ≤ 1000000) ∧ 0 ≤ (c_du (sC M) M sh c n).toInt ∧ (c_du (sC M) M sh c n).toInt ≤ 1000000 := by
  obtain ⟨x0, x1, y0, y1, ⟨e27, e28, e29, e30⟩, k1, k2, k3, k4⟩ := nb_e h.1.2.2.1.2 n
  have bp := h.1.2.1.2.2.2.2.2.2.1 c
  unfold b_in at bp
  have ip := I_cl bp.1
  have hI := dr_I (E := sC M) (sh := sh) (kd := M 19 c) (sk := M 25 c) (m := (M 22 c).toNatClampNeg) (p := (M 23 c).toNatClampNeg) (r := c_z) h.1.1.2.2.1 h.1.1.2.2.2.1 (by omega) 12 (Nat.le_refl _)
  have r1 := rs_nn hI.1
  have r3 := rs_nn hI.2.1
  have hb := hI.2.2.2
  have q : 0 ≤ (c_fw (c_cf (sC M) M sh c) (M 27 n) (M 28 n) (M 29 n) (M 30 n) 0 11).toInt ∧ (c_fw (c_cf (sC M) M sh c) (M 27 n) (M 28 n) (M 29 n) (M 30 n) 0 11).toInt ≤ 1000000 := by
    rw [e27, e28, e29, e30]
    exact fw_b k1 k2 k3 k4 hI.2.2.1 (by show rs (c_dr (sC M) sh (M 19 c) (M 22 c).toNatClampNeg (M 23 c).toNatClampNeg (M 25 c) c_z 12 4) 720 ≤ 1000000; omega)
  exact ⟨q, (dl_e q (h.1.2.1.2.2.2.2.1 c)).2⟩
theorem mv_b {c0 : Nat} {M : am_M} {N : am_N} (h : iv c0 M N) {sh : Nat → Int32} {S P : Nat} {g : Nat → Nat → Int32} (hS : S ≤ 5) (hP : P ≤ 6) (hg : ∀ c n, 0 ≤ (g c n).toInt ∧ (g c n).toInt ≤ 16) : 0 ≤ (mv M S P g sh).toInt := by
  have h1 : ∀ c, c < S → 0 ≤ (lsm (fun n => sq (c_du (sC M) M sh c n) (g c n)) P).toInt ∧ (lsm (fun n => sq (c_du (sC M) M sh c n) (g c n)) P).toInt ≤ 6000000000000 := by
    intro c _
    have := lsm_b (f := fun n => sq (c_du (sC M) M sh c n) (g c n)) (n := P) (b := 1000000000000) (by decide) (fun j _ => sq_b (du_b h).2 (hg c j)) (by omega)
    omega
  exact (lsm_b (n := S) (b := 6000000000000) (by decide) h1 (by omega)).1
/-- the reference's cells while it fits -/
def rz (M M1 : am_M) : Prop := (∀ r, r ≠ 120 → r ≠ 130 → ¬ (143 ≤ r ∧ r ≤ 146) → ¬ (160 ≤ r ∧ r ≤ 162) → M1 r = M r) ∧ M1 120 22 = M 120 22 ∧ M1 120 43 = M 120 43 ∧ M1 120 44 = M 120 44 ∧ M1 120 45 = M 120 45 ∧ M1 120 55 = M 120 55 ∧ M1 120 56 = M 120 56
theorem rz_rd {M M1 M2 : am_M} (h : rz M M1) (h2 : rd M1 M2) : rz M M2 := by
  obtain ⟨a, b, c, d, e, f, g⟩ := h
  obtain ⟨a2, b2, c2, d2, e2, f2, g2⟩ := rd_sc h2
  exact ⟨fun r h0 h1 h3 h4 => (rd_n h2 ⟨h0, by omega⟩).trans (a r h0 h1 h3 h4), b2.trans b, c2.trans c, d2.trans d, e2.trans e, f2.trans f, g2.trans g⟩
theorem rz_sR {M M1 : am_M} (h : rz M M1) : sR M1 = sR M := by
  unfold sR
  rw [h.1 121 (by omega) (by omega) (by omega) (by omega), h.1 122 (by omega) (by omega) (by omega) (by omega), h.1 123 (by omega) (by omega) (by omega) (by omega), h.1 124 (by omega) (by omega) (by omega) (by omega), h.1 125 (by omega) (by omega) (by omega) (by omega), h.1 126 (by omega) (by omega) (by omega) (by omega), h.1 127 (by omega) (by omega) (by omega) (by omega), h.1 128 (by omega) (by omega) (by omega) (by omega), h.1 129 (by omega) (by omega) (by omega) (by omega), h.1 131 (by omega) (by omega) (by omega) (by omega), h.1 132 (by omega) (by omega) (by omega) (by omega), h.1 133 (by omega) (by omega) (by omega) (by omega), h.1 134 (by omega) (by omega) (by omega) (by omega), h.1 135 (by omega) (by omega) (by omega) (by omega)]
def su2 (M : am_M) (S F : Nat) (sh : Nat → Int32) (M1 : am_M) : Prop := rz M M1 ∧ M1 130 = sh ∧ ∀ k, k < F → M1 160 k = g_of M S k
theorem su2_rd {M M1 M2 : am_M} {S F : Nat} {sh : Nat → Int32} (h : su2 M S F sh M1) (h2 : rd M1 M2) : su2 M S F sh M2 := ⟨rz_rd h.1 h2, (rd_n h2 (by omega)).trans h.2.1, fun k hk => by rw [rd_n h2 (by omega)]; exact h.2.2 k hk⟩
theorem lp187n {X : am_X} {Q : am_Q} {M M1 : am_M} {N N0 : am_N} {c0 S P F c : Nat} {sh : Nat → Int32} {but : Int32} {acc : Int64} (h : iv c0 M N0) (eS : M 18 7 = nI S) (hS : S ≤ 5) (eP : M 26 5 = nI P) (hP : P ≤ 6) (eF : M 32 7 = nI F) (hF : F ≤ 16) (hsh : ∀ j, b_in (sh j) (-1) 1) (hc5 : c < 5) (hz : su2 M S F sh M1) (h146 : M1 146 = c_cf (sC M) M sh c) (kk : ∀ x z, am_J X Q 187 98 [.ref 120, .int but, .long (acc + lsm (fun n => sq (c_du (sC M) M sh c n) (gt M S F but c n)) P), .retAddr 0, .int (nI c), .int x, z, .retAddr 0] [] M1 N) : ∀ (n i : Nat), i + n = P → ∀ (x : Int32), x = nI i → ∀ (s : Int64), s = acc + lsm (fun n => sq (c_du (sC M) M sh c n) (gt M S F but c n)) i → ∀ (z : Value), am_J X Q 187 25 [.ref 120, .int but, .long s, .retAddr 0, .int (nI c), .int x, z, .retAddr 0] [] M1 N := by
  obtain ⟨⟨n1, n2, n3, n4, n5⟩, e43⟩ := h.1.2.2.1.1
  obtain ⟨⟨_, _, f3, _, _, f6, _⟩, e44⟩ := h.1.2.2.2.1
  obtain ⟨⟨_, _, a3, a4, _, _, _⟩, _⟩ := h.1.2.1.1
  have bm := h.1.2.1.2.2.2.2.2.1 c
  unfold b_in at bm
  intro n
  induction n with
  | zero =>
    intro i hn x ex s es z
    have e : i = P := by omega
    subst ex
    have hge : M1 120 43 ≤ nI i := by rw [hz.1.2.2.1, e43, eP, e]; exact Int32.le_refl _
    refine J_b 3 am_d187 rfl ?_
    refine J_icmp_ge 98 (am_d187 rfl) rfl (fun h31 => ?_) (fun h31 => absurd (hge) h31)
    rw [es, e]
    exact kk _ _
  | succ n ih =>
    intro i hn x ex s es z
    subst ex
    have hlt : ¬ M1 120 43 ≤ nI i := by rw [hz.1.2.2.1, e43, eP]; exact nI_ngt (by omega) (by omega)
    obtain ⟨x0, x1, y0, y1, ⟨e27, e28, e29, e30⟩, k1, k2, k3, k4⟩ := nb_e h.1.2.2.1.2 i
    refine J_b 3 am_d187 rfl ?_
    refine J_icmp_ge 98 (am_d187 rfl) rfl (fun h31 => absurd h31 hlt) (fun h31 => ?_)
    refine J_b 5 am_d187 rfl ?_
    refine J_iald (am_d187 rfl) rfl (vp_in_nI hc5 (by decide)) ?_
    rw [nI_c (n := c) (by omega), hz.1.1 139 (by omega) (by omega) (by omega) (by omega), a4]
    refine J_b 2 am_d187 rfl ?_
    have hfi := sp172 (X := X) (N := N) (M := M1) (nm := i) (m4 := M 22 c) (a4 := 0) (b4 := 100) (by omega) ((congrFun (hz.1.1 148 (by omega) (by omega) (by omega) (by omega)) i).trans ((congrFun n1 i).trans e27)) ((congrFun (hz.1.1 149 (by omega) (by omega) (by omega) (by omega)) i).trans ((congrFun n2 i).trans e28)) ((congrFun (hz.1.1 150 (by omega) (by omega) (by omega) (by omega)) i).trans ((congrFun n3 i).trans e29)) ((congrFun (hz.1.1 151 (by omega) (by omega) (by omega) (by omega)) i).trans ((congrFun n4 i).trans e30)) k1 k2 k3 k4 ⟨bm.1, by omega⟩
    rw [fw_all (show (0 : Int32).toInt - (M 22 c).toInt ≤ 0 by have z0 : (0 : Int32).toInt = 0 := rfl; omega) (show 11 ≤ (100 : Int32).toInt - (M 22 c).toInt by have z0 : (100 : Int32).toInt = 100 := rfl; omega), h146, ← e27, ← e28, ← e29, ← e30] at hfi
    refine J_V4s 172 (am_d187 rfl) rfl rfl hfi ?_
    refine J_b 4 am_d187 rfl ?_
    refine J_iald (am_d187 rfl) rfl (vp_in_nI hc5 (by decide)) ?_
    rw [nI_c (n := c) (by omega), hz.1.1 138 (by omega) (by omega) (by omega) (by omega), a3]
    refine J_b 4 am_d187 rfl ?_
    refine J_st5 (congrArg (fun z => ([.long z] : am_V)) (show (c_fw (c_cf (sC M) M sh c) (M 27 i) (M 28 i) (M 29 i) (M 30 i) 0 11).toInt64 * (M 21 c).toInt64 / 1000 = (c_du (sC M) M sh c i).toInt64 from (dl_e (du_b h).1 (h.1.2.1.2.2.2.2.1 c)).1)) ?_
    refine J_b 1 am_d187 rfl ?_
    refine J_b 5 am_d187 rfl ?_
    have hgb := sp183 (X := X) (N := N) (M := M1) (c := nI c) (nm := nI i) (as := 999) (but := but) (F := F) (hz.1.2.2.2.1.trans (e44.trans eF)) hF
    rw [hz.1.1 158 (by omega) (by omega) (by omega) (by omega), hz.1.1 155 (by omega) (by omega) (by omega) (by omega), f6, f3, gb_c (gs' := g_of M S) hz.2.2] at hgb
    refine J_V4s 183 (am_d187 rfl) rfl rfl hgb ?_
    refine J_b 12 am_d187 rfl ?_
    refine ih (i + 1) (by omega) _ (nI_1 i) _ ?_ _
    rw [es, Int64.add_assoc]
    rfl
theorem lp187 {X : am_X} {M Mb : am_M} {N N0 : am_N} {c0 S P F : Nat} {sh : Nat → Int32} {but : Int32} (h : iv c0 M N0) (eS : M 18 7 = nI S) (hS : S ≤ 5) (eP : M 26 5 = nI P) (hP : P ≤ 6) (eF : M 32 7 = nI F) (hF : F ≤ 16) (hsh : ∀ j, b_in (sh j) (-1) 1) (hzb : su2 M S F sh Mb) : ∀ (n i : Nat), i + n = S → ∀ (x : Int32), x = nI i → ∀ (s : Int64), s = lsm (fun c => lsm (fun n => sq (c_du (sC M) M sh c n) (gt M S F but c n)) P) i → ∀ (z5 z6 : Value) (M1 : am_M), rd Mb M1 → am_J X (q_p (some (.long (mv M S P (gt M S F but) sh))) (fun M2 N2 => rd Mb M2 ∧ N2 = N)) 187 5 [.ref 120, .int but, .long s, .retAddr 0, .int x, z5, z6, .retAddr 0] [] M1 N := by
  obtain ⟨⟨a1, _, _, a4, a5, _, a7⟩, e22⟩ := h.1.2.1.1
  have esR := sR_sC h.1.1.1
  intro n
  induction n with
  | zero =>
    intro i hn x ex s es z5 z6 M1 hr
    have hz := su2_rd hzb hr
    have e : i = S := by omega
    subst ex
    have hge : M1 120 22 ≤ nI i := by rw [hz.1.2.1, e22, eS, e]; exact Int32.le_refl _
    refine J_b 3 am_d187 rfl ?_
    refine J_icmp_ge 104 (am_d187 rfl) rfl (fun h11 => ?_) (fun h11 => absurd (hge) h11)
    refine J_b 1 am_d187 rfl ?_
    exact J_lret (am_d187 rfl) rfl ⟨by rw [es, e]; rfl, hr, rfl⟩
  | succ n ih =>
    intro i hn x ex s es z5 z6 M1 hr
    have hz := su2_rd hzb hr
    subst ex
    have hlt : ¬ M1 120 22 ≤ nI i := by rw [hz.1.2.1, e22, eS]; exact nI_ngt (by omega) (by omega)
    refine J_b 3 am_d187 rfl ?_
    refine J_icmp_ge 104 (am_d187 rfl) rfl (fun h11 => absurd h11 hlt) (fun h11 => ?_)
    refine J_b 3 am_d187 rfl ?_
    have hdr := sp154 (X := X) (N := N) (M := M1) (c := i) (cnt := 12) (by omega) (by decide) (by rw [rz_sR hz.1, esR]; exact e_b_of h.1.1.2) (by rw [hz.2.1]; exact hsh) (by rw [hz.1.1 136 (by omega) (by omega) (by omega) (by omega), a1]; exact h.1.2.1.2.2.1 i) (by rw [hz.1.1 139 (by omega) (by omega) (by omega) (by omega), a4]; exact h.1.2.1.2.2.2.2.2.1 i) (by rw [hz.1.1 140 (by omega) (by omega) (by omega) (by omega), a5]; exact h.1.2.1.2.2.2.2.2.2.1 i)
    refine J_V2n 154 (am_d187 rfl) rfl rfl hdr ?_
    refine J_b 2 am_d187 rfl ?_
    have hz2 : su2 M S F sh (dr_R M1 (c_dr (sR M1) (M1 130) (M1 136 i) (M1 139 i).toNatClampNeg (M1 140 i).toNatClampNeg (M1 142 i) (M1 144) 12)) := su2_rd hz ⟨_, rfl⟩
    refine lp187n (c := i) (acc := s) h eS hS eP hP eF hF hsh (by omega) hz2 ?_ (fun x z => ?_) P 0 (Nat.zero_add _) _ rfl _ (Int64.add_zero _).symm _
    · show c_dr (sR M1) (M1 130) (M1 136 i) (M1 139 i).toNatClampNeg (M1 140 i).toNatClampNeg (M1 142 i) (M1 144) 12 4 = _
      rw [dr_row (M1 144) c_z (by decide), rz_sR hz.1, esR, hz.2.1, hz.1.1 136 (by omega) (by omega) (by omega) (by omega), hz.1.1 139 (by omega) (by omega) (by omega) (by omega), hz.1.1 140 (by omega) (by omega) (by omega) (by omega), hz.1.1 142 (by omega) (by omega) (by omega) (by omega), a1, a4, a5, a7]
      rfl
    · refine J_b 2 am_d187 rfl ?_
      refine ih (i + 1) (by omega) _ (nI_1 i) _ ?_ _ _ _ (rd_t hr ⟨_, rfl⟩)
      rw [es]
      rfl
theorem sp187 {X : am_X} {M M1 : am_M} {N N0 : am_N} {c0 S P F : Nat} {sh : Nat → Int32} {but : Int32} (h : iv c0 M N0) (eS : M 18 7 = nI S) (hS : S ≤ 5) (eP : M 26 5 = nI P) (hP : P ≤ 6) (eF : M 32 7 = nI F) (hF : F ≤ 16) (hsh : ∀ j, b_in (sh j) (-1) 1) (hz : su2 M S F sh M1) : am_J X (q_p (some (.long (mv M S P (gt M S F but) sh))) (fun M2 N2 => rd M1 M2 ∧ N2 = N)) 187 0 (am_en 187 [.ref 120, .int but]) [] M1 N := by
  refine J_en (L := [.ref 120, .int but, .retAddr 0, .retAddr 0, .retAddr 0, .retAddr 0, .retAddr 0, .retAddr 0]) rfl ?_
  refine J_b 4 am_d187 rfl ?_
  exact lp187 h eS hS eP hP eF hF hsh hz S 0 (Nat.zero_add _) _ rfl _ rfl _ _ _ rd_0
