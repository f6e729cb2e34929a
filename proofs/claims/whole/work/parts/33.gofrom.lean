/-! ===== the drift: from a cell, a month ===== -/
theorem k_36 {M : am_M} {m p : Nat} (hb : iv_sb M) : c_k (sC M) m p < 36 ∧ M 4 p * (Int8.ofInt 12).toInt32 + nI (m % 12) = nI (c_k (sC M) m p) ∧ vp_in (M 4 p) 3 := by
  have h := hb.1 p
  unfold b_in at h
  have h1 := I_cl h.1
  have l12 : m % 12 < 12 := Nat.mod_lt _ (by decide)
  have e0 : M 4 p = nI (M 4 p).toNatClampNeg := I_nI h.1
  have ek : c_k (sC M) m p = 12 * (M 4 p).toNatClampNeg + m % 12 := rfl
  have e1 : M 4 p * (Int8.ofInt 12).toInt32 = nI (12 * (M 4 p).toNatClampNeg) := by
    rw [show (Int8.ofInt 12).toInt32 = nI 12 from rfl, Nat.mul_comm 12, ← nI_mul, ← e0]
  refine ⟨by rw [ek]; omega, ?_, vp_of (by omega)⟩
  rw [e1, nI_add, ek]
theorem J_L {X : am_X} {Q : am_Q} {i pc : Nat} {L L' S : am_V} {M : am_M} {N : am_N} (e : L = L') (kk : am_J X Q i pc L' S M N) : am_J X Q i pc L S M N := by
  rw [e]
  exact kk
theorem cpy0 {f g : Nat → Int32} {n : Nat} : va_cpy f g 0 0 n = fun j => if j < n then f j else g j := by
  funext j
  unfold va_cpy
  by_cases h : j < n
  · rw [if_pos (by omega), if_pos h, Nat.zero_add, Nat.sub_zero]
  · rw [if_neg (by omega), if_neg h]
theorem go_0 {E : am_M} {sh : Nat → Int32} {kd : Int32} {m p : Nat} {st : am_M} (h : st 1 p = 0) : c_go E sh kd m p st = st := if_pos h
theorem go_1 {E : am_M} {sh : Nat → Int32} {kd : Int32} {m p : Nat} {st : am_M} (h : ¬ st 1 p = 0) (h2 : c_icy E m p) : c_go E sh kd m p st = am_up st 2 p (st 2 p + st 1 p) := by
  unfold c_go
  rw [if_neg h, if_pos h2]
theorem go_2 {E : am_M} {sh : Nat → Int32} {kd : Int32} {m p : Nat} {st : am_M} (h : ¬ st 1 p = 0) (h2 : ¬ c_icy E m p) : c_go E sh kd m p st = c_gg E sh (c_fl kd (c_wd E 9 12 m)) (c_fl kd (c_wd E 10 13 m)) m p (st 1 p) st := by
  unfold c_go
  rw [if_neg h, if_neg h2]
  rfl
theorem itr_s {α : Type} {f : Nat → α → α} {n : Nat} {a : α} : itr f (n + 1) a = f n (itr f n a) := rfl
def c_bi (E : am_M) (t : Nat) (st : am_M) (i : Nat) : am_M :=
  am_upR (am_upR (am_up st 0 12 (st 0 12 + smI (c_cv E st) i)) 3 (fun c => if c < i then st 3 c - c_tk E st c - c_cv E st c else st 3 c)) 4 (fun k => if 60 * t ≤ k ∧ k < 60 * t + i then c_tk E st (k - 60 * t) else st 4 k)
theorem bi_0 {E st : am_M} {t : Nat} : c_bi E t st 0 = st := by
  funext a j
  unfold c_bi
  by_cases h4 : a = 4
  · subst h4
    show (if 60 * t ≤ j ∧ j < 60 * t + 0 then c_tk E st (j - 60 * t) else st 4 j) = st 4 j
    rw [if_neg (by omega)]
  · by_cases h3 : a = 3
    · subst h3
      show (if j < 0 then st 3 j - c_tk E st j - c_cv E st j else st 3 j) = st 3 j
      rw [if_neg (by omega)]
    · by_cases h0 : a = 0
      · subst h0
        by_cases hj : j = 12
        · subst hj
          exact Int32.add_zero _
        · simp [am_up, am_upR, hj]
      · simp [am_up, am_upR, h4, h3, h0]
theorem bi_s {E st : am_M} {t i : Nat} : am_up (am_up (am_up (c_bi E t st i) 4 (60 * t + i) (c_tk E st i)) 0 12 (c_bi E t st i 0 12 + c_cv E st i)) 3 i (st 3 i - c_tk E st i - c_cv E st i) = c_bi E t st (i + 1) := by
  funext a j
  unfold c_bi
  by_cases h4 : a = 4
  · subst h4
    show (if j = 60 * t + i then c_tk E st i else if 60 * t ≤ j ∧ j < 60 * t + i then c_tk E st (j - 60 * t) else st 4 j) = if 60 * t ≤ j ∧ j < 60 * t + (i + 1) then c_tk E st (j - 60 * t) else st 4 j
    by_cases h : j = 60 * t + i
    · rw [if_pos h, if_pos (by omega), h, Nat.add_sub_cancel_left]
    · rw [if_neg h]
      by_cases h2 : 60 * t ≤ j ∧ j < 60 * t + i
      · rw [if_pos h2, if_pos (by omega)]
      · rw [if_neg h2, if_neg (by omega)]
  · by_cases h3 : a = 3
    · subst h3
      show (if j = i then st 3 i - c_tk E st i - c_cv E st i else if j < i then st 3 j - c_tk E st j - c_cv E st j else st 3 j) = if j < i + 1 then st 3 j - c_tk E st j - c_cv E st j else st 3 j
      by_cases h : j = i
      · rw [if_pos h, if_pos (by omega), h]
      · rw [if_neg h]
        by_cases h2 : j < i
        · rw [if_pos h2, if_pos (by omega)]
        · rw [if_neg h2, if_neg (by omega)]
    · by_cases h0 : a = 0
      · subst h0
        by_cases hj : j = 12
        · subst hj
          show st 0 12 + smI (c_cv E st) i + c_cv E st i = st 0 12 + (smI (c_cv E st) i + c_cv E st i)
          rw [Int32.add_assoc]
        · simp [am_up, am_upR, hj]
      · simp [am_up, am_upR, h4, h3, h0]
theorem I_z16 {x : Int32} : (0 : Int32) * x / 16 = 0 := by
  rw [Int32.zero_mul]
  rfl
theorem bi_n {E st : am_M} {t i : Nat} (h : st 3 i = 0) (h4 : st 4 (60 * t + i) = 0) : c_bi E t st (i + 1) = c_bi E t st i := by
  have e1 : c_tk E st i = 0 := by
    unfold c_tk
    rw [h]
    exact I_z16
  have e2 : c_cv E st i = 0 := by
    unfold c_cv
    rw [e1, h]
    exact I_z16
  rw [← bi_s, e1, e2, h]
  rw [up_id (M := c_bi E t st i) (by show (if 60 * t ≤ 60 * t + i ∧ 60 * t + i < 60 * t + i then _ else st 4 (60 * t + i)) = 0; rw [if_neg (by omega)]; exact h4)]
  rw [up_id (Int32.add_zero _).symm]
  rw [up_id (by show (if i < i then _ else st 3 i) = _; rw [if_neg (by omega), h]; rfl)]
theorem sp50_40 {X : am_X} {M : am_M} {N : am_N} {kd mo sk gn ew nw : Int32} {sh : Nat → Int32} {st : am_M} {m p : Nat} (hp : p < 60) (hm : m < 1000) (hb : iv_sb M) (hsh : ∀ j, b_in (sh j) (-1) 1) (hew : b_in ew (-6) 6) (hnw : b_in nw (-6) 6) : am_J X (am_eq (none) (dr_D M 40 kd mo sk gn ew nw sh (c_gg (sC M) sh ew nw m p (st 1 p) st)) N) 50 0 (am_en 50 [.ref 40, .int (nI p), .int (nI m)]) [] (dr_D M 40 kd mo sk gn ew nw sh st) N := by
  have e12 : nI m - nI m / (Int8.ofInt 12).toInt32 * (Int8.ofInt 12).toInt32 = nI (m % 12) := nI_remn (by omega) (by decide) (by decide) rfl
  have l12 : m % 12 < 12 := Nat.mod_lt _ (by decide)
  obtain ⟨hk1, hk2, hr⟩ := k_36 (m := m) (p := p) hb
  obtain ⟨b1, b2, b3, b4, b5, b6, b7, b8, b9, b10, b11, b12⟩ := hb
  have be := b_add (e := -7) (f := 7) hew (hsh (M 4 p).toNatClampNeg) (by decide) (by decide)
  have he1 : b_in (M 8 (c_k (sC M) m p) + (ew + sh (M 4 p).toNatClampNeg)) (-20) 20 := b_add (b4 _) be (by decide) (by decide)
  have he2 : b_in (M 9 (c_k (sC M) m p) + (ew + sh (M 4 p).toNatClampNeg)) (-20) 20 := b_add (b5 _) be (by decide) (by decide)
  have he3 : b_in ((M 8 (c_k (sC M) m p) + M 9 (c_k (sC M) m p)) / 2 + (ew + sh (M 4 p).toNatClampNeg)) (-20) 20 := b_add (dv_b (b_add (b4 _) (b5 _) (by decide) (by decide))) be (by decide) (by decide)
  have hn1 : b_in (M 10 (c_k (sC M) m p) + nw) (-20) 20 := b_add (b6 _) hnw (by decide) (by decide)
  have hn2 : b_in (M 11 (c_k (sC M) m p) + nw) (-20) 20 := b_add (b7 _) hnw (by decide) (by decide)
  have hn3 : b_in ((M 10 (c_k (sC M) m p) + M 11 (c_k (sC M) m p)) / 2 + nw) (-20) 20 := b_add (dv_b (b_add (b6 _) (b7 _) (by decide) (by decide))) hnw (by decide) (by decide)
  refine J_en (L := [.ref 40, .int (nI p), .int (nI m), .retAddr 0, .retAddr 0, .retAddr 0, .retAddr 0, .retAddr 0]) rfl ?_
  refine J_b 4 am_d50 rfl ?_
  refine J_aaldk 4 (am_d50 rfl) rfl (am_vi rfl) rfl ?_
  refine J_b 1 am_d50 rfl ?_
  refine J_iald (am_d50 rfl) rfl (vp_in_nI hp (by decide)) ?_
  rw [nI_c (n := p) (by omega)]
  show am_J X _ 50 11 _ (.int (M 4 p) :: _) _ N
  refine J_b 7 am_d50 rfl ?_
  rw [e12]
  refine J_b 2 am_d50 rfl ?_
  refine J_L (L' := [.ref 40, .int (nI p), .int (nI m), .int (M 4 p), .int (nI (c_k (sC M) m p)), .retAddr 0, .retAddr 0, .retAddr 0]) (congrArg (fun z => ([.ref 40, .int (nI p), .int (nI m), .int (M 4 p), .int z, .retAddr 0, .retAddr 0, .retAddr 0] : am_V)) hk2) ?_
  refine J_b 5 am_d50 rfl ?_
  refine J_iald (am_d50 rfl) rfl hr ?_
  show am_J X _ 50 33 _ (.int (sh (M 4 p).toNatClampNeg) :: .int ew :: _) _ N
  refine J_b 5 am_d50 rfl ?_
  refine J_iald (am_d50 rfl) rfl (vp_in_nI hp (by decide)) ?_
  rw [nI_c (n := p) (by omega)]
  show am_J X _ 50 42 _ (.int (st 1 p) :: _) _ N
  refine J_b 6 am_d50 rfl ?_
  refine J_iald (am_d50 rfl) rfl (vp_in_nI hp (by decide)) ?_
  rw [nI_c (n := p) (by omega)]
  show am_J X _ 50 52 _ (.int (st 1 p) :: _) _ N
  refine J_b 5 am_d50 rfl ?_
  show am_J X _ 50 59 [.ref 40, .int (nI p), .int (nI m), .int (M 4 p), .int (nI (c_k (sC M) m p)), .int (ew + sh (M 4 p).toNatClampNeg), .int (st 1 p / 4), .int (st 1 p - 2 * (st 1 p / 4))] [] _ N
  refine J_b 1 am_d50 rfl ?_
  refine J_b 5 am_d50 rfl ?_
  refine J_iald (am_d50 rfl) rfl (vp_in_nI hk1 (by decide)) ?_
  rw [nI_c (n := (c_k (sC M) m p)) (by omega)]
  show am_J X _ 50 71 _ (.int (M 8 (c_k (sC M) m p)) :: _) _ N
  refine J_b 6 am_d50 rfl ?_
  refine J_iald (am_d50 rfl) rfl (vp_in_nI hk1 (by decide)) ?_
  rw [nI_c (n := (c_k (sC M) m p)) (by omega)]
  show am_J X _ 50 84 _ (.int (M 10 (c_k (sC M) m p)) :: _) _ N
  refine J_b 4 am_d50 rfl ?_
  refine J_V4n 51 (am_d50 rfl) rfl rfl (sp51_40 hp he1 hn1) ?_
  refine J_b 6 am_d50 rfl ?_
  refine J_iald (am_d50 rfl) rfl (vp_in_nI hk1 (by decide)) ?_
  rw [nI_c (n := (c_k (sC M) m p)) (by omega)]
  show am_J X _ 50 106 _ (.int (M 9 (c_k (sC M) m p)) :: _) _ N
  refine J_b 6 am_d50 rfl ?_
  refine J_iald (am_d50 rfl) rfl (vp_in_nI hk1 (by decide)) ?_
  rw [nI_c (n := (c_k (sC M) m p)) (by omega)]
  show am_J X _ 50 119 _ (.int (M 11 (c_k (sC M) m p)) :: _) _ N
  refine J_b 4 am_d50 rfl ?_
  refine J_V4n 51 (am_d50 rfl) rfl rfl (sp51_40 hp he2 hn2) ?_
  refine J_b 6 am_d50 rfl ?_
  refine J_iald (am_d50 rfl) rfl (vp_in_nI hk1 (by decide)) ?_
  rw [nI_c (n := (c_k (sC M) m p)) (by omega)]
  show am_J X _ 50 141 _ (.int (M 8 (c_k (sC M) m p)) :: _) _ N
  refine J_b 4 am_d50 rfl ?_
  refine J_iald (am_d50 rfl) rfl (vp_in_nI hk1 (by decide)) ?_
  rw [nI_c (n := (c_k (sC M) m p)) (by omega)]
  show am_J X _ 50 151 _ (.int (M 9 (c_k (sC M) m p)) :: _) _ N
  refine J_b 9 am_d50 rfl ?_
  refine J_iald (am_d50 rfl) rfl (vp_in_nI hk1 (by decide)) ?_
  rw [nI_c (n := (c_k (sC M) m p)) (by omega)]
  show am_J X _ 50 167 _ (.int (M 10 (c_k (sC M) m p)) :: _) _ N
  refine J_b 4 am_d50 rfl ?_
  refine J_iald (am_d50 rfl) rfl (vp_in_nI hk1 (by decide)) ?_
  rw [nI_c (n := (c_k (sC M) m p)) (by omega)]
  show am_J X _ 50 177 _ (.int (M 11 (c_k (sC M) m p)) :: _) _ N
  refine J_b 7 am_d50 rfl ?_
  refine J_V4n 51 (am_d50 rfl) rfl rfl (sp51_40 hp he3 hn3) ?_
  exact J_ret (am_d50 rfl) rfl ⟨rfl, rfl, rfl⟩
theorem sp50_46 {X : am_X} {M : am_M} {N : am_N} {kd mo sk gn ew nw : Int32} {sh : Nat → Int32} {st : am_M} {m p : Nat} (hp : p < 60) (hm : m < 1000) (hb : iv_sb M) (hsh : ∀ j, b_in (sh j) (-1) 1) (hew : b_in ew (-6) 6) (hnw : b_in nw (-6) 6) : am_J X (am_eq (none) (dr_D M 46 kd mo sk gn ew nw sh (c_gg (sC M) sh ew nw m p (st 1 p) st)) N) 50 0 (am_en 50 [.ref 46, .int (nI p), .int (nI m)]) [] (dr_D M 46 kd mo sk gn ew nw sh st) N := by
  have e12 : nI m - nI m / (Int8.ofInt 12).toInt32 * (Int8.ofInt 12).toInt32 = nI (m % 12) := nI_remn (by omega) (by decide) (by decide) rfl
  have l12 : m % 12 < 12 := Nat.mod_lt _ (by decide)
  obtain ⟨hk1, hk2, hr⟩ := k_36 (m := m) (p := p) hb
  obtain ⟨b1, b2, b3, b4, b5, b6, b7, b8, b9, b10, b11, b12⟩ := hb
  have be := b_add (e := -7) (f := 7) hew (hsh (M 4 p).toNatClampNeg) (by decide) (by decide)
  have he1 : b_in (M 8 (c_k (sC M) m p) + (ew + sh (M 4 p).toNatClampNeg)) (-20) 20 := b_add (b4 _) be (by decide) (by decide)
  have he2 : b_in (M 9 (c_k (sC M) m p) + (ew + sh (M 4 p).toNatClampNeg)) (-20) 20 := b_add (b5 _) be (by decide) (by decide)
  have he3 : b_in ((M 8 (c_k (sC M) m p) + M 9 (c_k (sC M) m p)) / 2 + (ew + sh (M 4 p).toNatClampNeg)) (-20) 20 := b_add (dv_b (b_add (b4 _) (b5 _) (by decide) (by decide))) be (by decide) (by decide)
  have hn1 : b_in (M 10 (c_k (sC M) m p) + nw) (-20) 20 := b_add (b6 _) hnw (by decide) (by decide)
  have hn2 : b_in (M 11 (c_k (sC M) m p) + nw) (-20) 20 := b_add (b7 _) hnw (by decide) (by decide)
  have hn3 : b_in ((M 10 (c_k (sC M) m p) + M 11 (c_k (sC M) m p)) / 2 + nw) (-20) 20 := b_add (dv_b (b_add (b6 _) (b7 _) (by decide) (by decide))) hnw (by decide) (by decide)
  refine J_en (L := [.ref 46, .int (nI p), .int (nI m), .retAddr 0, .retAddr 0, .retAddr 0, .retAddr 0, .retAddr 0]) rfl ?_
  refine J_b 4 am_d50 rfl ?_
  refine J_aaldk 4 (am_d50 rfl) rfl (am_vi rfl) rfl ?_
  refine J_b 1 am_d50 rfl ?_
  refine J_iald (am_d50 rfl) rfl (vp_in_nI hp (by decide)) ?_
  rw [nI_c (n := p) (by omega)]
  show am_J X _ 50 11 _ (.int (M 4 p) :: _) _ N
  refine J_b 7 am_d50 rfl ?_
  rw [e12]
  refine J_b 2 am_d50 rfl ?_
  refine J_L (L' := [.ref 46, .int (nI p), .int (nI m), .int (M 4 p), .int (nI (c_k (sC M) m p)), .retAddr 0, .retAddr 0, .retAddr 0]) (congrArg (fun z => ([.ref 46, .int (nI p), .int (nI m), .int (M 4 p), .int z, .retAddr 0, .retAddr 0, .retAddr 0] : am_V)) hk2) ?_
  refine J_b 5 am_d50 rfl ?_
  refine J_iald (am_d50 rfl) rfl hr ?_
  show am_J X _ 50 33 _ (.int (sh (M 4 p).toNatClampNeg) :: .int ew :: _) _ N
  refine J_b 5 am_d50 rfl ?_
  refine J_iald (am_d50 rfl) rfl (vp_in_nI hp (by decide)) ?_
  rw [nI_c (n := p) (by omega)]
  show am_J X _ 50 42 _ (.int (st 1 p) :: _) _ N
  refine J_b 6 am_d50 rfl ?_
  refine J_iald (am_d50 rfl) rfl (vp_in_nI hp (by decide)) ?_
  rw [nI_c (n := p) (by omega)]
  show am_J X _ 50 52 _ (.int (st 1 p) :: _) _ N
  refine J_b 5 am_d50 rfl ?_
  show am_J X _ 50 59 [.ref 46, .int (nI p), .int (nI m), .int (M 4 p), .int (nI (c_k (sC M) m p)), .int (ew + sh (M 4 p).toNatClampNeg), .int (st 1 p / 4), .int (st 1 p - 2 * (st 1 p / 4))] [] _ N
  refine J_b 1 am_d50 rfl ?_
  refine J_b 5 am_d50 rfl ?_
  refine J_iald (am_d50 rfl) rfl (vp_in_nI hk1 (by decide)) ?_
  rw [nI_c (n := (c_k (sC M) m p)) (by omega)]
  show am_J X _ 50 71 _ (.int (M 8 (c_k (sC M) m p)) :: _) _ N
  refine J_b 6 am_d50 rfl ?_
  refine J_iald (am_d50 rfl) rfl (vp_in_nI hk1 (by decide)) ?_
  rw [nI_c (n := (c_k (sC M) m p)) (by omega)]
  show am_J X _ 50 84 _ (.int (M 10 (c_k (sC M) m p)) :: _) _ N
  refine J_b 4 am_d50 rfl ?_
  refine J_V4n 51 (am_d50 rfl) rfl rfl (sp51_46 hp he1 hn1) ?_
  refine J_b 6 am_d50 rfl ?_
  refine J_iald (am_d50 rfl) rfl (vp_in_nI hk1 (by decide)) ?_
  rw [nI_c (n := (c_k (sC M) m p)) (by omega)]
  show am_J X _ 50 106 _ (.int (M 9 (c_k (sC M) m p)) :: _) _ N
  refine J_b 6 am_d50 rfl ?_
  refine J_iald (am_d50 rfl) rfl (vp_in_nI hk1 (by decide)) ?_
  rw [nI_c (n := (c_k (sC M) m p)) (by omega)]
  show am_J X _ 50 119 _ (.int (M 11 (c_k (sC M) m p)) :: _) _ N
  refine J_b 4 am_d50 rfl ?_
  refine J_V4n 51 (am_d50 rfl) rfl rfl (sp51_46 hp he2 hn2) ?_
  refine J_b 6 am_d50 rfl ?_
  refine J_iald (am_d50 rfl) rfl (vp_in_nI hk1 (by decide)) ?_
  rw [nI_c (n := (c_k (sC M) m p)) (by omega)]
  show am_J X _ 50 141 _ (.int (M 8 (c_k (sC M) m p)) :: _) _ N
  refine J_b 4 am_d50 rfl ?_
  refine J_iald (am_d50 rfl) rfl (vp_in_nI hk1 (by decide)) ?_
  rw [nI_c (n := (c_k (sC M) m p)) (by omega)]
  show am_J X _ 50 151 _ (.int (M 9 (c_k (sC M) m p)) :: _) _ N
  refine J_b 9 am_d50 rfl ?_
  refine J_iald (am_d50 rfl) rfl (vp_in_nI hk1 (by decide)) ?_
  rw [nI_c (n := (c_k (sC M) m p)) (by omega)]
  show am_J X _ 50 167 _ (.int (M 10 (c_k (sC M) m p)) :: _) _ N
  refine J_b 4 am_d50 rfl ?_
  refine J_iald (am_d50 rfl) rfl (vp_in_nI hk1 (by decide)) ?_
  rw [nI_c (n := (c_k (sC M) m p)) (by omega)]
  show am_J X _ 50 177 _ (.int (M 11 (c_k (sC M) m p)) :: _) _ N
  refine J_b 7 am_d50 rfl ?_
  refine J_V4n 51 (am_d50 rfl) rfl rfl (sp51_46 hp he3 hn3) ?_
  exact J_ret (am_d50 rfl) rfl ⟨rfl, rfl, rfl⟩
