/-! ===== tells: the reference, the pair ===== -/
theorem up_back {M : am_M} {r : Nat} {s : Int32} {st : am_M} : sc_ok M (am_up (dr_R (am_up M 130 r s) st) 130 r (M 130 r)) := by
  refine ⟨fun k hk => ?_, rfl, rfl, rfl, rfl, rfl, rfl⟩
  by_cases h : k = 130
  · subst h
    funext j
    show (if j = r then M 130 r else if j = r then s else M 130 j) = M 130 j
    by_cases hj : j = r
    · rw [if_pos hj, hj]
    · rw [if_neg hj, if_neg hj]
  · rw [up_n h, R_n ⟨hk.1, by have := hk.2.2.1; omega⟩, up_n h]
theorem sp192 {X : am_X} {M : am_M} {N : am_N} {kd s : Int32} {m p r c0 : Nat} {N0 : am_N} (hk : b_in kd 0 3) (hm : m < 48) (hp : p < 60) (hr : r < 3) (hs : b_in s (-1) 1) (h : iv c0 M N0) : am_J X (q_p none (fun M1 _ => (sc_ok M M1 ∧ M1 163 = M 163) ∧ M1 146 = c_G M kd m p r s)) 192 0 (am_en 192 [.ref 120, .int kd, .int (nI m), .int (nI p), .int (nI r), .int s]) [] M N := by
  have e1 := sR_sC h.1.1.1
  have e130 : M 130 = M 17 := h.1.1.1.2.2.2
  have e2 : (am_up M 130 r s) 130 = c_shf M r s := by rw [up_k, e130]; rfl
  have hdr := sp155 (X := X) (N := N) (M := (am_up M 130 r s)) (kd := kd) (sk := 0) (mo := m) (p := p) (cnt := 12) hp (by omega) (by decide) (by show e_b (sR M); rw [e1]; exact e_b_of h.1.1.2) hk (by rw [e2]; exact shf_b h.1.1.2 hs)
  rw [e2, show sR (am_up M 130 r s) = sC M from e1] at hdr
  refine J_en (L := [.ref 120, .int kd, .int (nI m), .int (nI p), .int (nI r), .int s, .retAddr 0]) rfl ?_
  refine J_b 3 am_d192 rfl ?_
  refine J_iald (am_d192 rfl) rfl (vp_in_nI hr (by decide)) ?_
  rw [nI_c (n := r) (by omega)]
  show am_J X _ 192 7 _ (.int (M 130 r) :: _) _ N
  refine J_b 5 am_d192 rfl ?_
  refine J_iast (am_d192 rfl) rfl (vp_in_nI hr (by decide)) ?_
  rw [nI_c (n := r) (by omega)]
  refine J_b 6 am_d192 rfl ?_
  refine J_V5n 155 (am_d192 rfl) rfl rfl (hdr) ?_
  refine J_b 4 am_d192 rfl ?_
  refine J_iast (am_d192 rfl) rfl (vp_in_nI hr (by decide)) ?_
  rw [nI_c (n := r) (by omega)]
  exact J_ret (am_d192 rfl) rfl ⟨rfl, ⟨up_back, rfl⟩, dr_row _ _ (by decide)⟩
theorem lp191b {X : am_X} {Q : am_Q} {M : am_M} {N : am_N} {y1 y2 y3 : Value} {y4 : Int32} {z7 z8 z9 : Value} {f : Nat → Int32} {j : Nat} (hj : j < 60) (kk : ∀ x, am_J X Q 191 138 [.ref 120, y1, y2, y3, .int y4, .int (nI j), .int x, z7, z8, z9] [] (am_upR M 163 (fun b => if b = j then smI (fun t => M 146 (60 * t + j)) 12 else f b)) N) : ∀ (n i : Nat), i + n = 12 → ∀ (x : Int32), x = nI i → ∀ (r : Nat → Int32), r = (fun b => if b = j then smI (fun t => M 146 (60 * t + j)) i else f b) → am_J X Q 191 102 [.ref 120, y1, y2, y3, .int y4, .int (nI j), .int x, z7, z8, z9] [] (am_upR M 163 r) N := by
  intro n
  induction n with
  | zero =>
    intro i hn x ex r es
    have e : i = 12 := by omega
    subst e
    subst ex
    refine J_b 2 am_d191 rfl ?_
    refine J_icmp_ge 138 (am_d191 rfl) rfl (fun h106 => ?_) (fun h106 => absurd (Int32.le_refl _) h106)
    rw [es]
    exact kk _
  | succ n ih =>
    intro i hn x ex r es
    have hi : i < 12 := by omega
    subst ex
    refine J_b 2 am_d191 rfl ?_
    refine J_icmp_ge 138 (am_d191 rfl) rfl (fun h106 => absurd h106 (l12 hi)) (fun h106 => ?_)
    refine J_b 4 am_d191 rfl ?_
    refine J_iald (am_d191 rfl) rfl (vp_in_nI hj (by decide)) ?_
    rw [nI_c (n := j) (by omega)]
    show am_J X _ 191 117 _ (.int (r j) :: _) _ N
    rw [show r j = smI (fun t => M 146 (60 * t + j)) i from by rw [es]; exact if_pos rfl]
    refine J_b 7 am_d191 rfl ?_
    rw [nI_60r]
    refine J_iald (am_d191 rfl) rfl (vp_in_nI (by omega) (by decide)) ?_
    rw [nI_c (n := 60 * i + j) (by omega)]
    show am_J X _ 191 130 _ (.int (M 146 (60 * i + j)) :: _) _ N
    refine J_b 1 am_d191 rfl ?_
    refine J_iast (am_d191 rfl) rfl (vp_in_nI hj (by decide)) ?_
    rw [nI_c (n := j) (by omega), upR_up]
    refine J_b 2 am_d191 rfl ?_
    refine ih (i + 1) (by omega) _ (nI_1 i) _ ?_
    rw [es]
    funext b
    by_cases hb : b = j
    · rw [if_pos hb, if_pos hb]
      rfl
    · rw [if_neg hb, if_neg hb]
      exact if_neg hb
theorem lp191B {X : am_X} {Q : am_Q} {M : am_M} {N : am_N} {y1 y2 y3 : Value} {y4 : Int32} {z7 z8 z9 : Value} {f : Nat → Int32} (kk : ∀ x z6, am_J X Q 191 144 [.ref 120, y1, y2, y3, .int y4, .int x, z6, z7, z8, z9] [] (am_upR M 163 (c_lt 60 (fun j => smI (fun t => M 146 (60 * t + j)) 12) f)) N) : ∀ (n i : Nat), i + n = 60 → ∀ (x : Int32), x = nI i → ∀ (z6 : Value) (r : Nat → Int32), r = c_lt i (fun j => smI (fun t => M 146 (60 * t + j)) 12) f → am_J X Q 191 84 [.ref 120, y1, y2, y3, .int y4, .int x, z6, z7, z8, z9] [] (am_upR M 163 r) N := by
  intro n
  induction n with
  | zero =>
    intro i hn x ex z6 r es
    have e : i = 60 := by omega
    subst e
    subst ex
    refine J_b 2 am_d191 rfl ?_
    refine J_icmp_ge 144 (am_d191 rfl) rfl (fun h88 => ?_) (fun h88 => absurd (Int32.le_refl _) h88)
    rw [es]
    exact kk _ _
  | succ n ih =>
    intro i hn x ex z6 r es
    have hi : i < 60 := by omega
    subst ex
    refine J_b 2 am_d191 rfl ?_
    refine J_icmp_ge 144 (am_d191 rfl) rfl (fun h88 => absurd h88 (z_l hi)) (fun h88 => ?_)
    refine J_b 4 am_d191 rfl ?_
    refine J_iast (am_d191 rfl) rfl (vp_in_nI hi (by decide)) ?_
    rw [nI_c (n := i) (by omega), upR_up]
    refine J_b 2 am_d191 rfl ?_
    refine lp191b (j := i) (f := r) hi (fun x => ?_) 12 0 rfl _ rfl _ rfl
    refine J_b 2 am_d191 rfl ?_
    refine ih (i + 1) (by omega) _ (nI_1 i) _ _ ?_
    rw [es]
    exact cl_s rfl
theorem lp191d {X : am_X} {Q : am_Q} {M : am_M} {N : am_N} {y1 y2 y3 : Value} {y4 : Int32} {l5 l6 : Int32} {a0 : Int32} {j : Nat} (hj : j < 60) (kk : ∀ x, am_J X Q 191 221 [.ref 120, y1, y2, y3, .int y4, .int l5, .int l6, .int (nI j), .int (a0 + smI (fun t => M 146 (60 * t + j)) 12), .int x] [] M N) : ∀ (n i : Nat), i + n = 12 → ∀ (x : Int32), x = nI i → ∀ (a : Int32), a = a0 + smI (fun t => M 146 (60 * t + j)) i → am_J X Q 191 190 [.ref 120, y1, y2, y3, .int y4, .int l5, .int l6, .int (nI j), .int a, .int x] [] (M) N := by
  intro n
  induction n with
  | zero =>
    intro i hn x ex a ea
    have e : i = 12 := by omega
    subst e
    subst ex
    refine J_b 2 am_d191 rfl ?_
    refine J_icmp_ge 221 (am_d191 rfl) rfl (fun h194 => ?_) (fun h194 => absurd (Int32.le_refl _) h194)
    rw [ea]
    exact kk _
  | succ n ih =>
    intro i hn x ex a ea
    have hi : i < 12 := by omega
    subst ex
    refine J_b 2 am_d191 rfl ?_
    refine J_icmp_ge 221 (am_d191 rfl) rfl (fun h194 => absurd h194 (l12 hi)) (fun h194 => ?_)
    refine J_b 8 am_d191 rfl ?_
    rw [nI_60r]
    refine J_iald (am_d191 rfl) rfl (vp_in_nI (by omega) (by decide)) ?_
    rw [nI_c (n := 60 * i + j) (by omega)]
    show am_J X _ 191 212 _ (.int (M 146 (60 * i + j)) :: _) _ N
    refine J_b 4 am_d191 rfl ?_
    refine ih (i + 1) (by omega) _ (nI_1 i) _ ?_
    rw [ea, Int32.add_assoc]
    rfl
theorem lp191D {X : am_X} {Q : am_Q} {M : am_M} {N : am_N} {y1 y2 y3 : Value} {y4 : Int32} {l6 : Int32} {a0 : Int32} (kk : ∀ x z8 z9, am_J X Q 191 248 [.ref 120, y1, y2, y3, .int y4, .int (a0 + smI (fun j => i_ab (-(M 163 j) + smI (fun t => M 146 (60 * t + j)) 12) / 10) 60), .int l6, .int x, z8, z9] [] M N) : ∀ (n i : Nat), i + n = 60 → ∀ (x : Int32), x = nI i → ∀ (a : Int32), a = a0 + smI (fun j => i_ab (-(M 163 j) + smI (fun t => M 146 (60 * t + j)) 12) / 10) i → ∀ (z8 z9 : Value), am_J X Q 191 170 [.ref 120, y1, y2, y3, .int y4, .int a, .int l6, .int x, z8, z9] [] (M) N := by
  intro n
  induction n with
  | zero =>
    intro i hn x ex a ea z8 z9
    have e : i = 60 := by omega
    subst e
    subst ex
    refine J_b 2 am_d191 rfl ?_
    refine J_icmp_ge 248 (am_d191 rfl) rfl (fun h174 => ?_) (fun h174 => absurd (Int32.le_refl _) h174)
    rw [ea]
    exact kk _ _ _
  | succ n ih =>
    intro i hn x ex a ea z8 z9
    have hi : i < 60 := by omega
    subst ex
    refine J_b 2 am_d191 rfl ?_
    refine J_icmp_ge 248 (am_d191 rfl) rfl (fun h174 => absurd h174 (z_l hi)) (fun h174 => ?_)
    refine J_b 3 am_d191 rfl ?_
    refine J_iald (am_d191 rfl) rfl (vp_in_nI hi (by decide)) ?_
    rw [nI_c (n := i) (by omega)]
    show am_J X _ 191 184 _ (.int (M 163 i) :: _) _ N
    refine J_b 4 am_d191 rfl ?_
    refine lp191d (j := i) (a0 := -(M 163 i)) hi (fun x => ?_) 12 0 rfl _ rfl _ (Int32.add_zero _).symm
    refine J_b 2 am_d191 rfl ?_
    refine J_if_ge 234 (am_d191 rfl) rfl (fun h225 => ?_) (fun h225 => ?_)
    · refine J_b 7 am_d191 rfl ?_
      refine ih (i + 1) (by omega) _ (nI_1 i) _ ?_ _ _
      rw [ea, Int32.add_assoc]
      congr 1
      show smI (fun j => i_ab (-(M 163 j) + smI (fun t => M 146 (60 * t + j)) 12) / 10) i + _ / 10 = smI (fun j => i_ab (-(M 163 j) + smI (fun t => M 146 (60 * t + j)) 12) / 10) i + i_ab _ / 10
      unfold i_ab
      rw [if_pos h225]
    · refine J_b 9 am_d191 rfl ?_
      refine ih (i + 1) (by omega) _ (nI_1 i) _ ?_ _ _
      rw [ea, Int32.add_assoc]
      congr 1
      show smI (fun j => i_ab (-(M 163 j) + smI (fun t => M 146 (60 * t + j)) 12) / 10) i + _ / 10 = smI (fun j => i_ab (-(M 163 j) + smI (fun t => M 146 (60 * t + j)) 12) / 10) i + i_ab _ / 10
      unfold i_ab
      rw [if_neg h225]
theorem off_ofR {M M1 : am_M} {kd : Int32} {m p r : Nat} {s : Int32} (h1 : M1 146 = c_G M kd m p r s) (h2 : ∀ j, j < 60 → M1 163 j = c_tf M kd m p r (-1) j) : smI (fun j => i_ab (-(M1 163 j) + smI (fun t => M1 146 (60 * t + j)) 12) / 10) 60 = c_off M kd m p r s := by
  unfold c_off
  refine smI_congr (fun j hj => ?_)
  rw [h1, h2 j hj, Int32.add_comm, ← Int32.sub_eq_add_neg]
  rfl
theorem sp191a {X : am_X} {M : am_M} {N : am_N} {kd m p r : Int32} (g1 : ¬ (((0 ≤ p.toInt ∧ p.toInt < 60) ∧ 0 ≤ m.toInt ∧ m.toInt < 48) ∧ 0 ≤ r.toInt ∧ r.toInt < 3)) : am_J X (am_eq (some (.int (-1))) (M) N) 191 0 (am_en 191 [.ref 120, .int kd, .int m, .int p, .int r]) [] M N := by
  refine J_en (L := [.ref 120, .int kd, .int m, .int p, .int r, .retAddr 0, .retAddr 0, .retAddr 0, .retAddr 0, .retAddr 0]) rfl ?_
  refine J_b 4 am_d191 rfl ?_
  refine J_S3s 140 (am_d191 rfl) rfl rfl (sp140) ?_
  refine J_if_eq 37 (am_d191 rfl) rfl (fun h9 => ?_) (fun h9 => ?_)
  · refine J_b 1 am_d191 rfl ?_
    exact J_iret (am_d191 rfl) rfl rfl ⟨rfl, rfl, rfl⟩
  · refine J_b 4 am_d191 rfl ?_
    refine J_S3s 140 (am_d191 rfl) rfl rfl (sp140) ?_
    refine J_if_eq 37 (am_d191 rfl) rfl (fun h21 => ?_) (fun h21 => ?_)
    · refine J_b 1 am_d191 rfl ?_
      exact J_iret (am_d191 rfl) rfl rfl ⟨rfl, rfl, rfl⟩
    · refine J_b 4 am_d191 rfl ?_
      refine J_S3s 140 (am_d191 rfl) rfl rfl (sp140) ?_
      refine J_if_ne 39 (am_d191 rfl) rfl (fun h34 => ?_) (fun h34 => ?_)
      · exact absurd (show ((0 ≤ p.toInt ∧ p.toInt < 60) ∧ 0 ≤ m.toInt ∧ m.toInt < 48) ∧ 0 ≤ r.toInt ∧ r.toInt < 3 by simp [am_bi0, am_bi1] at * <;> omega) g1
      · refine J_b 1 am_d191 rfl ?_
        exact J_iret (am_d191 rfl) rfl rfl ⟨rfl, rfl, rfl⟩
theorem sp191b {X : am_X} {M : am_M} {N : am_N} {kd m p r : Int32} (g1 : ((0 ≤ p.toInt ∧ p.toInt < 60) ∧ 0 ≤ m.toInt ∧ m.toInt < 48) ∧ 0 ≤ r.toInt ∧ r.toInt < 3) (g2 : ¬ ((0 ≤ kd.toInt ∧ kd.toInt ≤ 3) ∧ ¬ kd = 2)) : am_J X (am_eq (some (.int (-2))) (M) N) 191 0 (am_en 191 [.ref 120, .int kd, .int m, .int p, .int r]) [] M N := by
  refine J_en (L := [.ref 120, .int kd, .int m, .int p, .int r, .retAddr 0, .retAddr 0, .retAddr 0, .retAddr 0, .retAddr 0]) rfl ?_
  refine J_b 4 am_d191 rfl ?_
  refine J_S3s 140 (am_d191 rfl) rfl rfl (sp140) ?_
  refine J_if_eq 37 (am_d191 rfl) rfl (fun h9 => (by exfalso; simp [am_bi0, am_bi1] at * <;> omega)) (fun h9 => ?_)
  refine J_b 4 am_d191 rfl ?_
  refine J_S3s 140 (am_d191 rfl) rfl rfl (sp140) ?_
  refine J_if_eq 37 (am_d191 rfl) rfl (fun h21 => (by exfalso; simp [am_bi0, am_bi1] at * <;> omega)) (fun h21 => ?_)
  refine J_b 4 am_d191 rfl ?_
  refine J_S3s 140 (am_d191 rfl) rfl rfl (sp140) ?_
  refine J_if_ne 39 (am_d191 rfl) rfl (fun h34 => ?_) (fun h34 => (by exfalso; simp [am_bi0, am_bi1] at * <;> omega))
  refine J_b 4 am_d191 rfl ?_
  refine J_S3s 140 (am_d191 rfl) rfl rfl (sp140) ?_
  refine J_if_eq 56 (am_d191 rfl) rfl (fun h48 => ?_) (fun h48 => ?_)
  · refine J_b 1 am_d191 rfl ?_
    exact J_iret (am_d191 rfl) rfl rfl ⟨rfl, rfl, rfl⟩
  · refine J_b 2 am_d191 rfl ?_
    refine J_icmp_ne 59 (am_d191 rfl) rfl (fun h53 => ?_) (fun h53 => ?_)
    · exact absurd (show (0 ≤ kd.toInt ∧ kd.toInt ≤ 3) ∧ ¬ kd = 2 from ⟨by simp [am_bi0, am_bi1] at h48; omega, h53⟩) g2
    · refine J_b 1 am_d191 rfl ?_
      exact J_iret (am_d191 rfl) rfl rfl ⟨rfl, rfl, rfl⟩
theorem sp191d {X : am_X} {M : am_M} {N : am_N} {kd : Int32} {m p r : Nat} (hp : p < 60) (hm : m < 48) (hr : r < 3) (g2 : (0 ≤ kd.toInt ∧ kd.toInt ≤ 3) ∧ ¬ kd = 2) (g3 : ¬ M 121 p = 0) : am_J X (am_eq (some (.int (-3))) (M) N) 191 0 (am_en 191 [.ref 120, .int kd, .int (nI m), .int (nI p), .int (nI r)]) [] M N := by
  have i1 := nI_i (n := p) (by omega)
  have i2 := nI_i (n := m) (by omega)
  have i3 := nI_i (n := r) (by omega)
  refine J_en (L := [.ref 120, .int kd, .int (nI m), .int (nI p), .int (nI r), .retAddr 0, .retAddr 0, .retAddr 0, .retAddr 0, .retAddr 0]) rfl ?_
  refine J_b 4 am_d191 rfl ?_
  refine J_S3s 140 (am_d191 rfl) rfl rfl (sp140) ?_
  refine J_if_eq 37 (am_d191 rfl) rfl (fun h9 => (by exfalso; clear g3 g2; simp [am_bi0, am_bi1, i1, i2, i3] at * <;> omega)) (fun h9 => ?_)
  refine J_b 4 am_d191 rfl ?_
  refine J_S3s 140 (am_d191 rfl) rfl rfl (sp140) ?_
  refine J_if_eq 37 (am_d191 rfl) rfl (fun h21 => (by exfalso; clear g3 g2; simp [am_bi0, am_bi1, i1, i2, i3] at * <;> omega)) (fun h21 => ?_)
  refine J_b 4 am_d191 rfl ?_
  refine J_S3s 140 (am_d191 rfl) rfl rfl (sp140) ?_
  refine J_if_ne 39 (am_d191 rfl) rfl (fun h34 => ?_) (fun h34 => (by exfalso; clear g3 g2; simp [am_bi0, am_bi1, i1, i2, i3] at * <;> omega))
  refine J_b 4 am_d191 rfl ?_
  refine J_S3s 140 (am_d191 rfl) rfl rfl (sp140) ?_
  refine J_if_eq 56 (am_d191 rfl) rfl (fun h48 => (by exfalso; have := g2.1; simp [am_bi0, am_bi1] at h48; omega)) (fun h48 => ?_)
  refine J_b 2 am_d191 rfl ?_
  refine J_icmp_ne 59 (am_d191 rfl) rfl (fun h53 => ?_) (fun h53 => absurd h53 g2.2)
  refine J_b 3 am_d191 rfl ?_
  refine J_iald (am_d191 rfl) rfl (vp_in_nI hp (by decide)) ?_
  rw [nI_c (n := p) (by omega)]
  show am_J X _ 191 65 _ (.int (M 121 p) :: _) _ N
  refine J_if_eq 71 (am_d191 rfl) rfl (fun h65 => absurd h65 g3) (fun h65 => ?_)
  refine J_b 1 am_d191 rfl ?_
  exact J_iret (am_d191 rfl) rfl rfl ⟨rfl, rfl, rfl⟩
theorem sp191c {X : am_X} {M : am_M} {N N0 : am_N} {c0 : Nat} {kd : Int32} {m p r : Nat} (hp : p < 60) (hm : m < 48) (hr : r < 3) (g2 : (0 ≤ kd.toInt ∧ kd.toInt ≤ 3) ∧ ¬ kd = 2) (g3 : M 121 p = 0) (h : iv c0 M N0) : am_J X (q_p (some (.int ((0 + c_off M kd m p r 0) + c_off M kd m p r 1))) (fun M1 _ => sc_ok M M1)) 191 0 (am_en 191 [.ref 120, .int kd, .int (nI m), .int (nI p), .int (nI r)]) [] M N := by
  have i1 := nI_i (n := p) (by omega)
  have i2 := nI_i (n := m) (by omega)
  have i3 := nI_i (n := r) (by omega)
  refine J_en (L := [.ref 120, .int kd, .int (nI m), .int (nI p), .int (nI r), .retAddr 0, .retAddr 0, .retAddr 0, .retAddr 0, .retAddr 0]) rfl ?_
  refine J_b 4 am_d191 rfl ?_
  refine J_S3s 140 (am_d191 rfl) rfl rfl (sp140) ?_
  refine J_if_eq 37 (am_d191 rfl) rfl (fun h9 => (by exfalso; clear g3 h g2; simp [am_bi0, am_bi1, i1, i2, i3] at * <;> omega)) (fun h9 => ?_)
  refine J_b 4 am_d191 rfl ?_
  refine J_S3s 140 (am_d191 rfl) rfl rfl (sp140) ?_
  refine J_if_eq 37 (am_d191 rfl) rfl (fun h21 => (by exfalso; clear g3 h g2; simp [am_bi0, am_bi1, i1, i2, i3] at * <;> omega)) (fun h21 => ?_)
  refine J_b 4 am_d191 rfl ?_
  refine J_S3s 140 (am_d191 rfl) rfl rfl (sp140) ?_
  refine J_if_ne 39 (am_d191 rfl) rfl (fun h34 => ?_) (fun h34 => (by exfalso; clear g3 h g2; simp [am_bi0, am_bi1, i1, i2, i3] at * <;> omega))
  refine J_b 4 am_d191 rfl ?_
  refine J_S3s 140 (am_d191 rfl) rfl rfl (sp140) ?_
  refine J_if_eq 56 (am_d191 rfl) rfl (fun h48 => (by exfalso; have := g2.1; simp [am_bi0, am_bi1] at h48; omega)) (fun h48 => ?_)
  refine J_b 2 am_d191 rfl ?_
  refine J_icmp_ne 59 (am_d191 rfl) rfl (fun h53 => ?_) (fun h53 => absurd h53 g2.2)
  refine J_b 3 am_d191 rfl ?_
  refine J_iald (am_d191 rfl) rfl (vp_in_nI hp (by decide)) ?_
  rw [nI_c (n := p) (by omega)]
  show am_J X _ 191 65 _ (.int (M 121 p) :: _) _ N
  refine J_if_eq 71 (am_d191 rfl) rfl (fun h65 => ?_) (fun h65 => absurd (g3) h65)
  refine J_b 6 am_d191 rfl ?_
  refine J_V5np 192 (am_d191 rfl) rfl rfl (sp192 (s := -1) g2.1 hm hp hr (by unfold b_in; decide) h) (fun M1 N1 hq => ?_)
  obtain ⟨⟨hs, h109⟩, h44⟩ := hq
  refine J_b 2 am_d191 rfl ?_
  refine J_r0 163 rfl ?_
  refine lp191B (fun x z6 => ?_) 60 0 rfl _ rfl _ _ cl_0.symm
  rw [show (fun j => smI (fun t => M1 146 (60 * t + j)) 12) = c_tf M kd m p r (-1) from by rw [h44]; rfl]
  have hs0 : sc_ok M (am_upR M1 163 (c_lt 60 (c_tf M kd m p r (-1)) (M1 163))) := sc_t hs (sc_uR (by unfold sc_r; omega) (by decide))
  have k0 : am_upR M1 163 (c_lt 60 (c_tf M kd m p r (-1)) (M1 163)) 163 = c_lt 60 (c_tf M kd m p r (-1)) (M1 163) := rfl
  refine J_b 4 am_d191 rfl ?_
  refine J_b 2 am_d191 rfl ?_
  refine J_icmp_ge 254 (am_d191 rfl) rfl (fun h153 => absurd h153 (by decide)) (fun h153 => ?_)
  refine J_b 6 am_d191 rfl ?_
  refine J_V5np 192 (am_d191 rfl) rfl rfl (sp192 (s := 0) g2.1 hm hp hr (by unfold b_in; decide) (iv_sc h hs0 (N' := N))) (fun M3 N3 hq0 => ?_)
  obtain ⟨⟨hs1', h1091⟩, h441⟩ := hq0
  have hs1 := sc_t hs0 hs1'
  rw [G_sc hs0] at h441
  have k1 := h1091.trans k0
  refine J_b 2 am_d191 rfl ?_
  refine lp191D (fun x z8 z9 => ?_) 60 0 rfl _ rfl _ (Int32.add_zero _).symm _ _
  rw [off_ofR (s := 0) h441 (fun j hj => by rw [k1]; exact cl_p hj)]
  refine J_b 2 am_d191 rfl ?_
  refine J_b 2 am_d191 rfl ?_
  refine J_icmp_ge 254 (am_d191 rfl) rfl (fun h153 => absurd h153 (by decide)) (fun h153 => ?_)
  refine J_b 6 am_d191 rfl ?_
  refine J_V5np 192 (am_d191 rfl) rfl rfl (sp192 (s := 1) g2.1 hm hp hr (by unfold b_in; decide) (iv_sc h hs1 (N' := N))) (fun M4 N4 hq1 => ?_)
  obtain ⟨⟨hs2', h1092⟩, h442⟩ := hq1
  have hs2 := sc_t hs1 hs2'
  rw [G_sc hs1] at h442
  have k2 := h1092.trans k1
  refine J_b 2 am_d191 rfl ?_
  refine lp191D (fun x z8 z9 => ?_) 60 0 rfl _ rfl _ (Int32.add_zero _).symm _ _
  rw [off_ofR (s := 1) h442 (fun j hj => by rw [k2]; exact cl_p hj)]
  refine J_b 2 am_d191 rfl ?_
  refine J_b 2 am_d191 rfl ?_
  refine J_icmp_ge 254 (am_d191 rfl) rfl (fun h153 => ?_) (fun h153 => absurd (by decide) h153)
  refine J_b 1 am_d191 rfl ?_
  exact J_iret (am_d191 rfl) rfl rfl ⟨rfl, hs2⟩
theorem pr_tells {X : am_X} (kd m p r : Int32) : am_pI iv X 100 191 [.int kd, .int m, .int p, .int r] := by
  intro c0 M N hc0 h
  have hb := h.1.1.2
  have e3 : M 121 = M 3 := h.1.1.1.1.1
  by_cases g1 : ((0 ≤ p.toInt ∧ p.toInt < 60) ∧ 0 ≤ m.toInt ∧ m.toInt < 48) ∧ 0 ≤ r.toInt ∧ r.toInt < 3
  rotate_left
  · exact pr_e (sp100a g1) (sp191a g1) (iv_up _ _ _ h)
  by_cases g2 : (0 ≤ kd.toInt ∧ kd.toInt ≤ 3) ∧ ¬ kd = 2
  rotate_left
  · exact pr_e (sp100b g1 g2) (sp191b g1 g2) (iv_up _ _ _ h)
  have ep := I_nI g1.1.1.1
  have icp := I_cl g1.1.1.1
  have em := I_nI g1.1.2.1
  have icm := I_cl g1.1.2.1
  have er := I_nI g1.2.1
  have icr := I_cl g1.2.1
  generalize p.toNatClampNeg = p at ep icp
  generalize m.toNatClampNeg = m at em icm
  generalize r.toNatClampNeg = r at er icr
  subst ep
  subst em
  subst er
  have hp : p < 60 := by omega
  have hm : m < 48 := by omega
  have hr : r < 3 := by omega
  by_cases g3 : M 3 p = 0
  rotate_left
  · exact pr_e (sp100d hp hm hr g2 g3) (sp191d hp hm hr g2 (by rw [e3]; exact g3)) (iv_up _ _ _ h)
  refine pr_s h (sp100c hp hm hr g2 g3 hb) (fun M1 N1 hs => ?_)
  rw [← off_sc hs, ← off_sc hs]
  exact sp191c hp hm hr g2 (by rw [hs.1 121 (by unfold sc_r; omega), e3]; exact g3) (iv_sc h hs (N' := N))
