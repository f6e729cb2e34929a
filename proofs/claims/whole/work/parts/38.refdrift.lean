/-! ===== the reference's drift: the whole ===== -/
def c_lt (i : Nat) (g f : Nat → Int32) : Nat → Int32 := fun j => if j < i then g j else f j
theorem cl_s {g f : Nat → Int32} {i : Nat} {v : Int32} (hv : v = g i) : (fun b => if b = i then v else c_lt i g f b) = c_lt (i + 1) g f := by
  funext b
  unfold c_lt
  by_cases h1 : b = i
  · rw [if_pos h1, if_pos (by omega), hv, h1]
  · rw [if_neg h1]
    by_cases h2 : b < i
    · rw [if_pos h2, if_pos (by omega)]
    · rw [if_neg h2, if_neg (by omega)]
theorem cl_z {f : Nat → Int32} {i : Nat} : (fun b => if b = i then (0 : Int32) else c_lt i c_z f b) = c_lt (i + 1) c_z f := cl_s rfl
theorem cl_0 {g f : Nat → Int32} : c_lt 0 g f = f := by
  funext j
  exact if_neg (by omega)
theorem cl_i {g f : Nat → Int32} {i : Nat} : c_lt i g f i = f i := if_neg (by omega)
theorem cl_p {g f : Nat → Int32} {i j : Nat} (h : j < i) : c_lt i g f j = g j := if_pos h
theorem up_cR {M : am_M} {a b i : Nat} {v : Int32} {g : Nat → Int32} (h : b ≠ a) : am_up (am_upR M a g) b i v = am_upR (am_up M b i v) a g := by
  funext r j
  unfold am_up am_upR
  by_cases h1 : r = b
  · subst h1
    simp [h]
  · simp [h1]
theorem up_up {M : am_M} {a i : Nat} {v w : Int32} : am_up (am_up M a i v) a i w = am_up M a i w := by
  funext r j
  unfold am_up
  by_cases h1 : r = a <;> by_cases h2 : j = i <;> simp [h1, h2]
def c_wi (st : am_M) (i : Nat) : am_M := am_upR st 1 (c_lt i (st 2) (st 1))
theorem wi_60 {st : am_M} : c_wi st 60 = c_wa st := rfl
theorem wi_0 {st : am_M} : c_wi st 0 = st := by
  unfold c_wi
  rw [cl_0, upR_id]
theorem wi_s {E st : am_M} {t i k : Nat} : am_up (c_bi E t (c_wi st i) k) 1 i (st 2 i) = c_bi E t (c_wi st (i + 1)) k := by
  unfold c_bi
  rw [up_cR (by decide), up_cR (by decide)]
  have e : am_up (am_up (c_wi st i) 0 12 (c_wi st i 0 12 + smI (c_cv E (c_wi st i)) k)) 1 i (st 2 i) = am_up (c_wi st (i + 1)) 0 12 (c_wi st (i + 1) 0 12 + smI (c_cv E (c_wi st (i + 1))) k) := by
    have e1 : c_wi st (i + 1) = am_up (c_wi st i) 1 i (st 2 i) := by
      unfold c_wi
      rw [upR_up, cl_s rfl]
    rw [e1]
    funext r j
    unfold am_up
    by_cases h1 : r = 1
    · subst h1
      rfl
    · rw [if_neg h1]
      by_cases h0 : r = 0
      · subst h0
        by_cases hj : j = 12
        · subst hj
          rfl
        · simp [hj]
      · rw [if_neg h0, if_neg h0, if_neg h1]
  rw [e]
  rfl
def c_w0 (p : Nat) : Nat → Int32 := fun j => if j = p then 1000000 else 0
def s_A (s : am_M) (p i : Nat) : am_M := am_upR (am_upR s 1 (c_lt i (c_w0 p) (s 1))) 3 (c_lt i c_z (s 3))
theorem sA_s {s : am_M} {p i : Nat} {v : Int32} (hv : v = c_w0 p i) : am_up (am_up (s_A s p i) 1 i v) 3 i 0 = s_A s p (i + 1) := by
  unfold s_A
  rw [up_cR (by decide), upR_up, upR_up, cl_s hv, cl_z]
def s_B (s : am_M) (i : Nat) : am_M := am_upR s 4 (c_lt i c_z (s 4))
theorem sB_s {s : am_M} {i : Nat} : am_up (s_B s i) 4 i 0 = s_B s (i + 1) := by
  unfold s_B
  rw [upR_up, cl_z]
def s_K (s : am_M) (i : Nat) : am_M := am_upR (am_upR (am_up s 0 14 (s 0 14 + smI (s 1) i)) 1 (c_lt i c_z (s 1))) 2 (c_lt i c_z (s 2))
theorem sK_s {s : am_M} {i : Nat} : am_up (am_up (am_up (s_K s i) 2 i 0) 0 14 (am_up (s_K s i) 2 i 0 0 14 + s 1 i)) 1 i 0 = s_K s (i + 1) := by
  unfold s_K
  rw [upR_up, up_cR (by decide), up_cR (by decide), up_cR (by decide), upR_up, cl_z, cl_z, up_up]
  have e : s 0 14 + smI (s 1) i + s 1 i = s 0 14 + smI (s 1) (i + 1) := by
    rw [Int32.add_assoc]
    rfl
  rw [← e]
  rfl
def s_N (s : am_M) (i : Nat) : am_M := am_upR s 2 (c_lt i c_z (s 2))
theorem sN_s {s : am_M} {i : Nat} : am_up (s_N s i) 2 i 0 = s_N s (i + 1) := by
  unfold s_N
  rw [upR_up, cl_z]
theorem nI_inj {a b : Nat} (ha : a < 2147483648) (hb : b < 2147483648) (h : nI a = nI b) : a = b := by
  have := congrArg Int32.toInt h
  rw [nI_i ha, nI_i hb] at this
  omega
theorem nI_60r {t i : Nat} : (Int8.ofInt 60).toInt32 * nI t + nI i = nI (60 * t + i) := by
  rw [show (Int8.ofInt 60).toInt32 = nI 60 from rfl, nI_mul, nI_add]
theorem z_720 {i : Nat} (h : i < 720) : ¬ (Int16.ofInt 720).toInt32 ≤ nI i := by
  rw [show (Int16.ofInt 720).toInt32 = nI 720 from rfl, Int32.le_iff_toInt_le, nI_i (by omega), nI_i (by omega)]
  omega
theorem z_ge {n i : Nat} (h : i = n) : nI n ≤ nI i := by
  rw [h]
  exact Int32.le_refl _
theorem lp155A {X : am_X} {Q : am_Q} {M : am_M} {N : am_N} {kd sk : Int32} {mo p cnt : Nat} {s : am_M} {z7 z8 z9 : Value} (hp : p < 60) (kk : ∀ x, am_J X Q 155 43 [.ref 120, .int kd, .int (nI mo), .int (nI p), .int sk, .int (nI cnt), .int x, z7, z8, z9] [] (dr_R M (s_A s p 60)) N) : ∀ (n i : Nat), i + n = 60 → ∀ (x : Int32), x = nI i → ∀ (s1 : am_M), s1 = s_A s p i → am_J X Q 155 3 [.ref 120, .int kd, .int (nI mo), .int (nI p), .int sk, .int (nI cnt), .int x, z7, z8, z9] [] (dr_R M s1) N := by
  intro n
  induction n with
  | zero =>
    intro i hn x ex s1 es
    have e : i = 60 := by omega
    subst e
    subst ex
    refine J_b 2 am_d155 rfl ?_
    refine J_icmp_ge 43 (am_d155 rfl) rfl (fun h7 => ?_) (fun h7 => absurd (Int32.le_refl _) h7)
    rw [es]
    exact kk _
  | succ n ih =>
    intro i hn x ex s1 es
    have hi : i < 60 := by omega
    subst ex
    refine J_b 2 am_d155 rfl ?_
    refine J_icmp_ge 43 (am_d155 rfl) rfl (fun h7 => absurd h7 (z_l hi)) (fun h7 => ?_)
    refine J_b 5 am_d155 rfl ?_
    refine J_icmp_ne 27 (am_d155 rfl) rfl (fun h19 => ?_) (fun h19 => ?_)
    · refine J_b 1 am_d155 rfl ?_
      refine J_iast (am_d155 rfl) rfl (vp_in_nI hi (by decide)) ?_
      rw [nI_c (n := i) (by omega), R_u1]
      refine J_b 4 am_d155 rfl ?_
      refine J_iast (am_d155 rfl) rfl (vp_in_nI hi (by decide)) ?_
      rw [nI_c (n := i) (by omega), R_u3]
      refine J_b 2 am_d155 rfl ?_
      refine ih (i + 1) (by omega) _ (nI_1 i) _ ?_
      rw [es]
      exact sA_s ((if_neg (fun z => h19 (congrArg nI z))).symm)
    · refine J_b 2 am_d155 rfl ?_
      refine J_iast (am_d155 rfl) rfl (vp_in_nI hi (by decide)) ?_
      rw [nI_c (n := i) (by omega), R_u1]
      refine J_b 4 am_d155 rfl ?_
      refine J_iast (am_d155 rfl) rfl (vp_in_nI hi (by decide)) ?_
      rw [nI_c (n := i) (by omega), R_u3]
      refine J_b 2 am_d155 rfl ?_
      refine ih (i + 1) (by omega) _ (nI_1 i) _ ?_
      rw [es]
      exact sA_s ((if_pos (nI_inj (by omega) (by omega) h19)).symm)
theorem lp155B {X : am_X} {Q : am_Q} {M : am_M} {N : am_N} {kd sk : Int32} {mo p cnt : Nat} {s : am_M} {z7 z8 z9 : Value} (kk : ∀ x, am_J X Q 155 68 [.ref 120, .int kd, .int (nI mo), .int (nI p), .int sk, .int (nI cnt), .int x, z7, z8, z9] [] (dr_R M (s_B s 720)) N) : ∀ (n i : Nat), i + n = 720 → ∀ (x : Int32), x = nI i → ∀ (s1 : am_M), s1 = s_B s i → am_J X Q 155 46 [.ref 120, .int kd, .int (nI mo), .int (nI p), .int sk, .int (nI cnt), .int x, z7, z8, z9] [] (dr_R M s1) N := by
  intro n
  induction n with
  | zero =>
    intro i hn x ex s1 es
    have e : i = 720 := by omega
    subst e
    subst ex
    refine J_b 2 am_d155 rfl ?_
    refine J_icmp_ge 68 (am_d155 rfl) rfl (fun h51 => ?_) (fun h51 => absurd (Int32.le_refl _) h51)
    rw [es]
    exact kk _
  | succ n ih =>
    intro i hn x ex s1 es
    have hi : i < 720 := by omega
    subst ex
    refine J_b 2 am_d155 rfl ?_
    refine J_icmp_ge 68 (am_d155 rfl) rfl (fun h51 => absurd h51 (z_720 hi)) (fun h51 => ?_)
    refine J_b 4 am_d155 rfl ?_
    refine J_iast (am_d155 rfl) rfl (vp_in_nI hi (by decide)) ?_
    rw [nI_c (n := i) (by omega), R_u4]
    refine J_b 2 am_d155 rfl ?_
    refine ih (i + 1) (by omega) _ (nI_1 i) _ ?_
    rw [es]
    exact sB_s
theorem lp155K {X : am_X} {Q : am_Q} {M : am_M} {N : am_N} {kd sk : Int32} {mo p cnt : Nat} {s : am_M} {t : Nat} {z8 z9 : Value} (hs : kd = 2 ∧ sk ≤ nI t) (kk : ∀ x, am_J X Q 155 156 [.ref 120, .int kd, .int (nI mo), .int (nI p), .int sk, .int (nI cnt), .int (nI t), .int x, z8, z9] [] (dr_R M (s_K s 60)) N) : ∀ (n i : Nat), i + n = 60 → ∀ (x : Int32), x = nI i → ∀ (s1 : am_M), s1 = s_K s i → am_J X Q 155 96 [.ref 120, .int kd, .int (nI mo), .int (nI p), .int sk, .int (nI cnt), .int (nI t), .int x, z8, z9] [] (dr_R M s1) N := by
  intro n
  induction n with
  | zero =>
    intro i hn x ex s1 es
    have e : i = 60 := by omega
    subst e
    subst ex
    refine J_b 2 am_d155 rfl ?_
    refine J_icmp_ge 156 (am_d155 rfl) rfl (fun h100 => ?_) (fun h100 => absurd (Int32.le_refl _) h100)
    rw [es]
    exact kk _
  | succ n ih =>
    intro i hn x ex s1 es
    have hi : i < 60 := by omega
    subst ex
    have e1 : am_up (s_K s i) 2 i 0 1 i = s 1 i := cl_i
    refine J_b 2 am_d155 rfl ?_
    refine J_icmp_ge 156 (am_d155 rfl) rfl (fun h100 => absurd h100 (z_l hi)) (fun h100 => ?_)
    refine J_b 4 am_d155 rfl ?_
    refine J_iast (am_d155 rfl) rfl (vp_in_nI hi (by decide)) ?_
    rw [nI_c (n := i) (by omega), R_u2]
    rw [es]
    refine J_b 2 am_d155 rfl ?_
    refine J_icmp_ne 150 (am_d155 rfl) rfl (fun h113 => absurd hs.1 h113) (fun h113 => ?_)
    refine J_b 2 am_d155 rfl ?_
    refine J_icmp_ge 126 (am_d155 rfl) rfl (fun h120 => ?_) (fun h120 => absurd (hs.2) h120)
    refine J_b 6 am_d155 rfl ?_
    refine J_iald (am_d155 rfl) rfl (vp_in_nI hi (by decide)) ?_
    rw [nI_c (n := i) (by omega)]
    show am_J X _ 155 138 _ (.int (am_up (s_K s i) 2 i 0 1 i) :: _) _ N
    rw [e1]
    refine J_b 1 am_d155 rfl ?_
    refine J_puti (am_d155 rfl) rfl ?_
    rw [R_f14]
    refine J_b 4 am_d155 rfl ?_
    refine J_iast (am_d155 rfl) rfl (vp_in_nI hi (by decide)) ?_
    rw [nI_c (n := i) (by omega), R_u1]
    refine J_b 2 am_d155 rfl ?_
    exact ih (i + 1) (by omega) _ (nI_1 i) _ sK_s
theorem lp155N {X : am_X} {Q : am_Q} {M : am_M} {N : am_N} {kd sk : Int32} {mo p cnt : Nat} {s : am_M} {t : Nat} {z8 z9 : Value} (hs : ¬ (kd = 2 ∧ sk ≤ nI t)) (kk : ∀ x, am_J X Q 155 156 [.ref 120, .int kd, .int (nI mo), .int (nI p), .int sk, .int (nI cnt), .int (nI t), .int x, z8, z9] [] (dr_R M (s_N s 60)) N) : ∀ (n i : Nat), i + n = 60 → ∀ (x : Int32), x = nI i → ∀ (s1 : am_M), s1 = s_N s i → am_J X Q 155 96 [.ref 120, .int kd, .int (nI mo), .int (nI p), .int sk, .int (nI cnt), .int (nI t), .int x, z8, z9] [] (dr_R M s1) N := by
  intro n
  induction n with
  | zero =>
    intro i hn x ex s1 es
    have e : i = 60 := by omega
    subst e
    subst ex
    refine J_b 2 am_d155 rfl ?_
    refine J_icmp_ge 156 (am_d155 rfl) rfl (fun h100 => ?_) (fun h100 => absurd (Int32.le_refl _) h100)
    rw [es]
    exact kk _
  | succ n ih =>
    intro i hn x ex s1 es
    have hi : i < 60 := by omega
    subst ex
    refine J_b 2 am_d155 rfl ?_
    refine J_icmp_ge 156 (am_d155 rfl) rfl (fun h100 => absurd h100 (z_l hi)) (fun h100 => ?_)
    refine J_b 4 am_d155 rfl ?_
    refine J_iast (am_d155 rfl) rfl (vp_in_nI hi (by decide)) ?_
    rw [nI_c (n := i) (by omega), R_u2]
    refine J_b 2 am_d155 rfl ?_
    refine J_icmp_ne 150 (am_d155 rfl) rfl (fun h113 => ?_) (fun h113 => ?_)
    · refine J_b 2 am_d155 rfl ?_
      refine ih (i + 1) (by omega) _ (nI_1 i) _ ?_
      rw [es]
      exact sN_s
    · refine J_b 2 am_d155 rfl ?_
      refine J_icmp_ge 126 (am_d155 rfl) rfl (fun h120 => ?_) (fun h120 => ?_)
      · exact absurd ⟨h113, h120⟩ hs
      · refine J_b 3 am_d155 rfl ?_
        refine ih (i + 1) (by omega) _ (nI_1 i) _ ?_
        rw [es]
        exact sN_s
theorem lp155D {X : am_X} {Q : am_Q} {M : am_M} {N : am_N} {kd sk : Int32} {mo p cnt : Nat} {s : am_M} {t : Nat} {z8 z9 : Value} (hmo : mo < 100) (ht : t < 100) (hb : e_b (sR M)) (hk : b_in kd 0 3) (hsh : ∀ j, b_in (M 130 j) (-1) 1) (kk : ∀ x, am_J X Q 155 183 [.ref 120, .int kd, .int (nI mo), .int (nI p), .int sk, .int (nI cnt), .int (nI t), .int x, z8, z9] [] (dr_R M (itr (c_go (sR M) (M 130) kd (mo + t)) 60 s)) N) : ∀ (n i : Nat), i + n = 60 → ∀ (x : Int32), x = nI i → ∀ (s1 : am_M), s1 = itr (c_go (sR M) (M 130) kd (mo + t)) i s → am_J X Q 155 159 [.ref 120, .int kd, .int (nI mo), .int (nI p), .int sk, .int (nI cnt), .int (nI t), .int x, z8, z9] [] (dr_R M s1) N := by
  intro n
  induction n with
  | zero =>
    intro i hn x ex s1 es
    have e : i = 60 := by omega
    have es2 : itr (c_go (sR M) (M 130) kd (mo + t)) 60 s = s1 := by rw [es, e]
    rw [es2] at kk
    have hge : (Int8.ofInt 60).toInt32 ≤ x := by rw [ex, e]; exact Int32.le_refl _
    refine J_b 2 am_d155 rfl ?_
    refine J_icmp_ge 183 (am_d155 rfl) rfl (fun h163 => ?_) (fun h163 => absurd (hge) h163)
    exact kk _
  | succ n ih =>
    intro i hn x ex s1 es
    have hi : i < 60 := by omega
    subst ex
    refine J_b 2 am_d155 rfl ?_
    refine J_icmp_ge 183 (am_d155 rfl) rfl (fun h163 => absurd h163 (z_l hi)) (fun h163 => ?_)
    refine J_b 5 am_d155 rfl ?_
    refine J_b 1 am_d155 rfl ?_
    rw [nI_add]
    refine J_V3n 156 (am_d155 rfl) rfl rfl (sp156 hi (by omega) hb hk hsh) ?_
    refine J_b 2 am_d155 rfl ?_
    refine ih (i + 1) (by omega) _ (nI_1 i) _ ?_
    rw [es]
    rfl
theorem lp155W {X : am_X} {Q : am_Q} {M : am_M} {N : am_N} {kd sk : Int32} {mo p cnt : Nat} {s : am_M} {t : Nat} (ht : t < 12) (kk : ∀ x z8 z9, am_J X Q 155 297 [.ref 120, .int kd, .int (nI mo), .int (nI p), .int sk, .int (nI cnt), .int (nI t), .int x, z8, z9] [] (dr_R M (c_bw (sR M) t (c_wa s))) N) : ∀ (n i : Nat), i + n = 60 → ∀ (x : Int32), x = nI i → ∀ (z8 z9 : Value), ∀ (s1 : am_M), s1 = c_bi (sR M) t (c_wi s i) i → am_J X Q 155 186 [.ref 120, .int kd, .int (nI mo), .int (nI p), .int sk, .int (nI cnt), .int (nI t), .int x, z8, z9] [] (dr_R M s1) N := by
  intro n
  induction n with
  | zero =>
    intro i hn x ex z8 z9 s1 es
    have e : i = 60 := by omega
    subst e
    subst ex
    refine J_b 2 am_d155 rfl ?_
    refine J_icmp_ge 297 (am_d155 rfl) rfl (fun h190 => ?_) (fun h190 => absurd (Int32.le_refl _) h190)
    rw [es]
    exact kk _ _ _
  | succ n ih =>
    intro i hn x ex z8 z9 s1 es
    have hi : i < 60 := by omega
    subst ex
    have e3 : (c_bi (sR M) t (c_wi s (i + 1)) i) 3 i = s 3 i := by show (if i < i then _ else s 3 i) = s 3 i; rw [if_neg (by omega)]
    subst es
    refine J_b 2 am_d155 rfl ?_
    refine J_icmp_ge 297 (am_d155 rfl) rfl (fun h190 => absurd h190 (z_l hi)) (fun h190 => ?_)
    refine J_b 6 am_d155 rfl ?_
    refine J_iald (am_d155 rfl) rfl (vp_in_nI hi (by decide)) ?_
    rw [nI_c (n := i) (by omega)]
    show am_J X _ 155 206 _ (.int ((c_bi (sR M) t (c_wi s i) i) 2 i) :: _) _ N
    show am_J X _ 155 206 _ (.int (s 2 i) :: _) _ N
    refine J_iast (am_d155 rfl) rfl (vp_in_nI hi (by decide)) ?_
    rw [nI_c (n := i) (by omega), R_u1, wi_s]
    refine J_b 3 am_d155 rfl ?_
    refine J_iald (am_d155 rfl) rfl (vp_in_nI hi (by decide)) ?_
    rw [nI_c (n := i) (by omega)]
    show am_J X _ 155 214 _ (.int ((c_bi (sR M) t (c_wi s (i + 1)) i) 3 i) :: _) _ N
    rw [e3]
    refine J_b 3 am_d155 rfl ?_
    refine J_iald (am_d155 rfl) rfl (vp_in_nI hi (by decide)) ?_
    rw [nI_c (n := i) (by omega)]
    show am_J X _ 155 221 _ (.int (M 124 i) :: _) _ N
    refine J_b 4 am_d155 rfl ?_
    show am_J X _ 155 227 [.ref 120, .int kd, .int (nI mo), .int (nI p), .int sk, .int (nI cnt), .int (nI t), .int (nI i), .int (c_tk (sR M) s i), z9] [] _ N
    refine J_b 1 am_d155 rfl ?_
    refine J_b 7 am_d155 rfl ?_
    show am_J X _ 155 241 _ (_ :: .int ((Int8.ofInt 60).toInt32 * nI t + nI i) :: _) _ N
    rw [nI_60r]
    refine J_iast (am_d155 rfl) rfl (vp_in_nI (by omega) (by decide)) ?_
    rw [nI_c (n := 60 * t + i) (by omega), R_u4]
    refine J_b 3 am_d155 rfl ?_
    refine J_iald (am_d155 rfl) rfl (vp_in_nI hi (by decide)) ?_
    rw [nI_c (n := i) (by omega)]
    show am_J X _ 155 249 _ (.int (am_up (c_bi (sR M) t (c_wi s (i + 1)) i) 4 (60 * t + i) (c_tk (sR M) s i) 3 i) :: _) _ N
    rw [show am_up (c_bi (sR M) t (c_wi s (i + 1)) i) 4 (60 * t + i) (c_tk (sR M) s i) 3 i = s 3 i from e3]
    refine J_b 5 am_d155 rfl ?_
    refine J_iald (am_d155 rfl) rfl (vp_in_nI hi (by decide)) ?_
    rw [nI_c (n := i) (by omega)]
    show am_J X _ 155 259 _ (.int (M 123 i) :: _) _ N
    refine J_b 4 am_d155 rfl ?_
    show am_J X _ 155 265 [.ref 120, .int kd, .int (nI mo), .int (nI p), .int sk, .int (nI cnt), .int (nI t), .int (nI i), .int (c_tk (sR M) s i), .int (c_cv (sR M) s i)] [] _ N
    refine J_b 1 am_d155 rfl ?_
    refine J_b 4 am_d155 rfl ?_
    refine J_puti (am_d155 rfl) rfl ?_
    rw [R_f12]
    refine J_b 4 am_d155 rfl ?_
    refine J_iald (am_d155 rfl) rfl (vp_in_nI hi (by decide)) ?_
    rw [nI_c (n := i) (by omega)]
    show am_J X _ 155 284 _ (.int ((c_bi (sR M) t (c_wi s (i + 1)) i) 3 i) :: _) _ N
    rw [e3]
    refine J_b 4 am_d155 rfl ?_
    rw [I_ss]
    refine J_iast (am_d155 rfl) rfl (vp_in_nI hi (by decide)) ?_
    rw [nI_c (n := i) (by omega), R_u3]
    refine J_b 2 am_d155 rfl ?_
    refine ih (i + 1) (by omega) _ (nI_1 i) _ _ _ ?_
    rw [← bi_s]
    rfl
