/-! ===== feed ===== -/
def c_bv (w : Int64) (x : Int32) : Int32 := ((w >>> (((Int8.ofInt 8).toInt32 * x).toInt64 &&& 63)) &&& 255).toInt32
def c_tw (w : Int64) : Nat → (Nat → Int32) × Nat → (Nat → Int32) × Nat
  | 0, q => q
  | r + 1, q => c_tw w r ((fun j => if j = q.2 then c_bv w (nI r) else q.1 j), q.2 + 1)
def c_xv : Nat → Int32
  | 0 => -1
  | r + 1 => nI r
theorem xv_s (r : Nat) : nI r + Int32.ofInt (-1) = c_xv r := by
  cases r with
  | zero => decide
  | succ k =>
    show nI (k + 1) + Int32.ofInt (-1) = nI k
    rw [← nI_1 k, Int32.add_assoc]
    exact Int32.add_zero _
theorem xv_n (n : Nat) : nI n - 1 = c_xv n := by
  rw [← xv_s, Int32.sub_eq_add_neg]
  rfl
theorem tw_2 {w : Int64} (r : Nat) : ∀ q : (Nat → Int32) × Nat, (c_tw w r q).2 = q.2 + r := by
  induction r with
  | zero => exact fun q => rfl
  | succ r ih =>
    intro q
    rw [c_tw, ih]
    show q.2 + 1 + r = q.2 + (r + 1)
    omega
def tm (M : am_M) (a b k : Nat) (q : (Nat → Int32) × Nat) : am_M := am_up (am_upR M a q.1) b k (nI q.2)
theorem tmC_r {M : am_M} {q : (Nat → Int32) × Nat} {j : Nat} {v : Int32} : am_up (tm M 111 110 1 q) 111 j v = tm M 111 110 1 ((fun b => if b = j then v else q.1 b), q.2) := by
  unfold tm
  funext r i
  by_cases h : r = 111
  · subst h
    rfl
  · unfold am_up am_upR
    simp [h]
theorem tmC_s {M : am_M} {r : Nat → Int32} {s : Nat} {x : Int32} (hx : x = nI (s + 1)) : am_up (tm M 111 110 1 (r, s)) 110 1 x = tm M 111 110 1 (r, s + 1) := by
  unfold tm
  rw [up_up, hx]
theorem tmC_0 {M : am_M} {s : Nat} (h : M 110 1 = nI s) : M = tm M 111 110 1 (M 111, s) := by
  unfold tm
  rw [upR_id, up_id h]
theorem tmR_r {M : am_M} {q : (Nat → Int32) × Nat} {j : Nat} {v : Int32} : am_up (tm M 164 120 55 q) 164 j v = tm M 164 120 55 ((fun b => if b = j then v else q.1 b), q.2) := by
  unfold tm
  funext r i
  by_cases h : r = 164
  · subst h
    rfl
  · unfold am_up am_upR
    simp [h]
theorem tmR_s {M : am_M} {r : Nat → Int32} {s : Nat} {x : Int32} (hx : x = nI (s + 1)) : am_up (tm M 164 120 55 (r, s)) 120 55 x = tm M 164 120 55 (r, s + 1) := by
  unfold tm
  rw [up_up, hx]
theorem tmR_0 {M : am_M} {s : Nat} (h : M 120 55 = nI s) : M = tm M 164 120 55 (M 164, s) := by
  unfold tm
  rw [upR_id, up_id h]
theorem lp105 {X : am_X} {M : am_M} {N : am_N} {w : Int64} {n : Int32} : ∀ (r : Nat) (q : (Nat → Int32) × Nat), q.2 + r ≤ 120 → am_J X (am_eq (some (.int (nI (c_tw w r q).2))) (tm M 111 110 1 (c_tw w r q)) N) 105 5 [.ref 110, .long w, .retAddr 0, .int n, .int (c_xv r)] [] (tm M 111 110 1 q) N := by
  intro r
  induction r with
  | zero =>
    intro q hq
    refine J_b 1 am_d105 rfl ?_
    refine J_if_lt 47 (am_d105 rfl) rfl (fun h7 => ?_) (fun h7 => absurd (by decide) h7)
    refine J_b 2 am_d105 rfl ?_
    exact J_iret (am_d105 rfl) rfl rfl ⟨rfl, rfl, rfl⟩
  | succ r ih =>
    intro q hq
    have hnn : ¬ nI r < 0 := by rw [Int32.lt_iff_toInt_lt, nI_i (by omega)]; have z0 : (0 : Int32).toInt = 0 := rfl; omega
    show am_J X (am_eq (some (.int (nI (c_tw w r ((fun j => if j = q.2 then c_bv w (nI r) else q.1 j), q.2 + 1)).2))) (tm M 111 110 1 (c_tw w r ((fun j => if j = q.2 then c_bv w (nI r) else q.1 j), q.2 + 1))) N) 105 5 [.ref 110, .long w, .retAddr 0, .int n, .int (nI r)] [] (tm M 111 110 1 q) N
    refine J_b 1 am_d105 rfl ?_
    refine J_if_lt 47 (am_d105 rfl) rfl (fun h7 => absurd h7 hnn) (fun h7 => ?_)
    refine J_b 12 am_d105 rfl ?_
    show am_J X _ 105 30 _ (.int (c_bv w (nI r)) :: .int (nI q.2) :: _) _ N
    refine J_iast (am_d105 rfl) rfl (vp_in_nI (show q.2 < 120 by omega) (by decide)) ?_
    rw [nI_c (n := q.2) (by omega), tmC_r]
    refine J_b 5 am_d105 rfl ?_
    refine J_puti (am_d105 rfl) rfl ?_
    refine J_mem (tmC_s (nI_1 q.2)) ?_
    refine J_b 2 am_d105 rfl ?_
    rw [xv_s r]
    exact ih _ (by show q.2 + 1 + r ≤ 120; omega)
theorem lp193 {X : am_X} {M : am_M} {N : am_N} {w : Int64} {n : Int32} : ∀ (r : Nat) (q : (Nat → Int32) × Nat), q.2 + r ≤ 120 → am_J X (am_eq (some (.int (nI (c_tw w r q).2))) (tm M 164 120 55 (c_tw w r q)) N) 193 34 [.ref 120, .long w, .retAddr 0, .int n, .int (c_xv r)] [] (tm M 164 120 55 q) N := by
  intro r
  induction r with
  | zero =>
    intro q hq
    refine J_b 1 am_d193 rfl ?_
    refine J_if_lt 76 (am_d193 rfl) rfl (fun h36 => ?_) (fun h36 => absurd (by decide) h36)
    refine J_b 2 am_d193 rfl ?_
    exact J_iret (am_d193 rfl) rfl rfl ⟨rfl, rfl, rfl⟩
  | succ r ih =>
    intro q hq
    have hnn : ¬ nI r < 0 := by rw [Int32.lt_iff_toInt_lt, nI_i (by omega)]; have z0 : (0 : Int32).toInt = 0 := rfl; omega
    show am_J X (am_eq (some (.int (nI (c_tw w r ((fun j => if j = q.2 then c_bv w (nI r) else q.1 j), q.2 + 1)).2))) (tm M 164 120 55 (c_tw w r ((fun j => if j = q.2 then c_bv w (nI r) else q.1 j), q.2 + 1))) N) 193 34 [.ref 120, .long w, .retAddr 0, .int n, .int (nI r)] [] (tm M 164 120 55 q) N
    refine J_b 1 am_d193 rfl ?_
    refine J_if_lt 76 (am_d193 rfl) rfl (fun h36 => absurd h36 hnn) (fun h36 => ?_)
    refine J_b 12 am_d193 rfl ?_
    show am_J X _ 193 59 _ (.int (c_bv w (nI r)) :: .int (nI q.2) :: _) _ N
    refine J_iast (am_d193 rfl) rfl (vp_in_nI (show q.2 < 120 by omega) (by decide)) ?_
    rw [nI_c (n := q.2) (by omega), tmR_r]
    refine J_b 5 am_d193 rfl ?_
    refine J_puti (am_d193 rfl) rfl ?_
    refine J_mem (tmR_s (nI_1 q.2)) ?_
    refine J_b 2 am_d193 rfl ?_
    rw [xv_s r]
    exact ih _ (by show q.2 + 1 + r ≤ 120; omega)
theorem sp105 {X : am_X} {M : am_M} {N : am_N} {w : Int64} {n s : Nat} (hs : M 110 1 = nI s) (hn : s + n ≤ 120) : am_J X (am_eq (some (.int (nI (c_tw w n (M 111, s)).2))) (tm M 111 110 1 (c_tw w n (M 111, s))) N) 105 0 (am_en 105 [.ref 110, .long w, .int (nI n)]) [] M N := by
  refine J_en (L := [.ref 110, .long w, .retAddr 0, .int (nI n), .retAddr 0]) rfl ?_
  refine J_b 4 am_d105 rfl ?_
  rw [show nI n - Int32.ofInt 1 = c_xv n from xv_n n]
  refine J_mem (tmC_0 hs) ?_
  exact lp105 n _ hn
theorem sp104b {X : am_X} {M : am_M} {N : am_N} {w : Int64} {y : Int32} (g1 : ¬ (1 ≤ y.toInt ∧ y.toInt ≤ 8)) : am_J X (am_eq (some (.int (-2))) (M) N) 104 0 (am_en 104 [.ref 0, .long w, .int y]) [] M N := by
  refine J_en (L := [.ref 0, .long w, .retAddr 0, .int y]) rfl ?_
  refine J_b 3 am_d104 rfl ?_
  refine J_S3s 14 (am_d104 rfl) rfl rfl (sp14) ?_
  refine J_if_ne 13 (am_d104 rfl) rfl (fun h7 => absurd (am_bi1.mp h7) g1) (fun h7 => ?_)
  refine J_b 1 am_d104 rfl ?_
  exact J_iret (am_d104 rfl) rfl rfl ⟨rfl, rfl, rfl⟩
theorem sp104d {X : am_X} {M : am_M} {N : am_N} {w : Int64} {n s : Nat} (g1 : 1 ≤ n ∧ n ≤ 8) (hs : M 110 1 = nI s) (hs2 : s ≤ 120) (g2 : ¬ s + n ≤ 120) : am_J X (am_eq (some (.int (-4))) (M) N) 104 0 (am_en 104 [.ref 0, .long w, .int (nI n)]) [] M N := by
  have i1 := nI_i (n := n) (by omega)
  refine J_en (L := [.ref 0, .long w, .retAddr 0, .int (nI n)]) rfl ?_
  refine J_b 3 am_d104 rfl ?_
  refine J_S3s 14 (am_d104 rfl) rfl rfl (sp14) ?_
  refine J_if_ne 13 (am_d104 rfl) rfl (fun h7 => ?_) (fun h7 => absurd h7 (am_bi1.mpr (by rw [i1]; exact ⟨by show (1 : Int) ≤ n; omega, by show (n : Int) ≤ 8; omega⟩)))
  refine J_b 4 am_d104 rfl ?_
  refine J_b 1 am_d104 rfl ?_
  rw [hs, nI_add]
  refine J_b 1 am_d104 rfl ?_
  refine J_icmp_le 30 (am_d104 rfl) rfl (fun h24 => absurd ((nI_leq (by omega) (by decide)).mp h24) g2) (fun h24 => ?_)
  refine J_b 1 am_d104 rfl ?_
  exact J_iret (am_d104 rfl) rfl rfl ⟨rfl, rfl, rfl⟩
theorem sp104c {X : am_X} {M : am_M} {N : am_N} {w : Int64} {n s : Nat} (g1 : 1 ≤ n ∧ n ≤ 8) (hs : M 110 1 = nI s) (hs2 : s ≤ 120) (g2 : s + n ≤ 120) : am_J X (am_eq (some (.int (nI (c_tw w n (M 111, s)).2))) (tm M 111 110 1 (c_tw w n (M 111, s))) N) 104 0 (am_en 104 [.ref 0, .long w, .int (nI n)]) [] M N := by
  have i1 := nI_i (n := n) (by omega)
  refine J_en (L := [.ref 0, .long w, .retAddr 0, .int (nI n)]) rfl ?_
  refine J_b 3 am_d104 rfl ?_
  refine J_S3s 14 (am_d104 rfl) rfl rfl (sp14) ?_
  refine J_if_ne 13 (am_d104 rfl) rfl (fun h7 => ?_) (fun h7 => absurd h7 (am_bi1.mpr (by rw [i1]; exact ⟨by show (1 : Int) ≤ n; omega, by show (n : Int) ≤ 8; omega⟩)))
  refine J_b 4 am_d104 rfl ?_
  refine J_b 1 am_d104 rfl ?_
  rw [hs, nI_add]
  refine J_b 1 am_d104 rfl ?_
  refine J_icmp_le 30 (am_d104 rfl) rfl (fun h24 => ?_) (fun h24 => absurd ((nI_leq (by omega) (by decide)).mpr g2) h24)
  refine J_b 4 am_d104 rfl ?_
  refine J_V2s 105 (am_d104 rfl) rfl rfl (sp105 hs g2) ?_
  exact J_iret (am_d104 rfl) rfl rfl ⟨rfl, rfl, rfl⟩
theorem sp193b {X : am_X} {M : am_M} {N : am_N} {w : Int64} {y : Int32} (g1 : ¬ (1 ≤ y.toInt ∧ y.toInt ≤ 8)) : am_J X (am_eq (some (.int (-2))) (M) N) 193 0 (am_en 193 [.ref 120, .long w, .int y]) [] M N := by
  refine J_en (L := [.ref 120, .long w, .retAddr 0, .int y, .retAddr 0]) rfl ?_
  refine J_b 4 am_d193 rfl ?_
  refine J_S3s 140 (am_d193 rfl) rfl rfl (sp140) ?_
  refine J_if_ne 15 (am_d193 rfl) rfl (fun h9 => absurd (show 1 ≤ y.toInt ∧ y.toInt ≤ 8 from by have q := am_bi1.mp h9; rw [Int32.toInt_toInt64] at q; exact q) g1) (fun h9 => ?_)
  refine J_b 1 am_d193 rfl ?_
  exact J_iret (am_d193 rfl) rfl rfl ⟨rfl, rfl, rfl⟩
theorem sp193d {X : am_X} {M : am_M} {N : am_N} {w : Int64} {n s : Nat} (g1 : 1 ≤ n ∧ n ≤ 8) (hs : M 120 55 = nI s) (hs2 : s ≤ 120) (g2 : ¬ s + n ≤ 120) : am_J X (am_eq (some (.int (-4))) (M) N) 193 0 (am_en 193 [.ref 120, .long w, .int (nI n)]) [] M N := by
  have i1 := nI_i (n := n) (by omega)
  refine J_en (L := [.ref 120, .long w, .retAddr 0, .int (nI n), .retAddr 0]) rfl ?_
  refine J_b 4 am_d193 rfl ?_
  refine J_S3s 140 (am_d193 rfl) rfl rfl (sp140) ?_
  refine J_if_ne 15 (am_d193 rfl) rfl (fun h9 => ?_) (fun h9 => absurd h9 (am_bi1.mpr (by rw [Int32.toInt_toInt64, i1]; exact ⟨by show (1 : Int) ≤ n; omega, by show (n : Int) ≤ 8; omega⟩)))
  refine J_b 3 am_d193 rfl ?_
  refine J_b 1 am_d193 rfl ?_
  rw [hs, nI_add]
  refine J_b 1 am_d193 rfl ?_
  refine J_icmp_le 29 (am_d193 rfl) rfl (fun h23 => absurd ((nI_leq (by omega) (by decide)).mp h23) g2) (fun h23 => ?_)
  refine J_b 1 am_d193 rfl ?_
  exact J_iret (am_d193 rfl) rfl rfl ⟨rfl, rfl, rfl⟩
theorem sp193c {X : am_X} {M : am_M} {N : am_N} {w : Int64} {n s : Nat} (g1 : 1 ≤ n ∧ n ≤ 8) (hs : M 120 55 = nI s) (hs2 : s ≤ 120) (g2 : s + n ≤ 120) : am_J X (am_eq (some (.int (nI (c_tw w n (M 164, s)).2))) (tm M 164 120 55 (c_tw w n (M 164, s))) N) 193 0 (am_en 193 [.ref 120, .long w, .int (nI n)]) [] M N := by
  have i1 := nI_i (n := n) (by omega)
  refine J_en (L := [.ref 120, .long w, .retAddr 0, .int (nI n), .retAddr 0]) rfl ?_
  refine J_b 4 am_d193 rfl ?_
  refine J_S3s 140 (am_d193 rfl) rfl rfl (sp140) ?_
  refine J_if_ne 15 (am_d193 rfl) rfl (fun h9 => ?_) (fun h9 => absurd h9 (am_bi1.mpr (by rw [Int32.toInt_toInt64, i1]; exact ⟨by show (1 : Int) ≤ n; omega, by show (n : Int) ≤ 8; omega⟩)))
  refine J_b 3 am_d193 rfl ?_
  refine J_b 1 am_d193 rfl ?_
  rw [hs, nI_add]
  refine J_b 1 am_d193 rfl ?_
  refine J_icmp_le 29 (am_d193 rfl) rfl (fun h23 => ?_) (fun h23 => absurd ((nI_leq (by omega) (by decide)).mpr g2) h23)
  refine J_b 4 am_d193 rfl ?_
  rw [show nI n - Int32.ofInt 1 = c_xv n from xv_n n]
  refine J_mem (tmR_0 hs) ?_
  exact lp193 n _ g2
theorem iv_feed {c : Nat} {M : am_M} {N : am_N} {q : (Nat → Int32) × Nat} (h : iv c M N) (hq : q.2 ≤ 120) : iv (c + 1) (tm (tm M 111 110 1 q) 164 120 55 q) N := by
  obtain ⟨⟨⟨hs, hb⟩, ⟨hca, hcb⟩, ⟨hna, hnb⟩, ⟨hfi, hfb⟩⟩, ⟨hti, hta, hpr⟩, hcc, hch, hkl, hkd⟩ := h
  obtain ⟨g1, g2, g3⟩ := ch_eq (M' := (tm (tm M 111 110 1 q) 164 120 55 q)) hch hkl hkd hcb (fun k k1 k2 => by unfold tm; (repeat (first | rw [up_n] | rw [upR_n])) <;> omega) ⟨rfl, rfl, rfl, rfl, rfl⟩ rfl ⟨rfl, rfl, rfl, rfl, rfl⟩ ⟨rfl, rfl, rfl, rfl, rfl⟩
  have k : b_in (nI q.2) 0 120 := by
    unfold b_in
    rw [nI_i (by omega)]
    omega
  exact ⟨⟨⟨hs, hb⟩, ⟨hca, hcb⟩, ⟨hna, hnb⟩, ⟨hfi, hfb⟩⟩, ⟨hti, ⟨rfl, rfl, k, hta.2.2.2⟩, hpr⟩, cc_of hcc hfb (fun k k1 k2 => by unfold tm; (repeat (first | rw [up_n] | rw [upR_n])) <;> omega) ⟨rfl, rfl, rfl, rfl, rfl, rfl, rfl⟩, g1, g2, g3⟩
theorem pr_feed {X : am_X} (w : Int64) (y : Int32) : am_pI iv X 104 193 [.long w, .int y] := by
  intro c0 M N hc0 h
  have e55 : M 120 55 = M 110 1 := h.2.1.2.1.2.1
  have e164 : M 164 = M 111 := h.2.1.2.1.1
  have e5 := h.2.1.2.1.2.2.1
  unfold b_in at e5
  by_cases g1 : 1 ≤ y.toInt ∧ y.toInt ≤ 8
  rotate_left
  · exact pr_e (sp104b g1) (sp193b g1) (iv_up _ _ _ h)
  have ey := I_nI (show 0 ≤ y.toInt by omega)
  have iy := I_cl (show 0 ≤ y.toInt by omega)
  generalize y.toNatClampNeg = n at ey iy
  subst ey
  have eS := I_nI e5.1
  have iS := I_cl e5.1
  generalize (M 110 1).toNatClampNeg = s at eS iS
  have hn : 1 ≤ n ∧ n ≤ 8 := by omega
  have hs2 : s ≤ 120 := by omega
  by_cases g2 : s + n ≤ 120
  rotate_left
  · exact pr_e (sp104d hn eS hs2 g2) (sp193d hn (by rw [e55]; exact eS) hs2 g2) (iv_up _ _ _ h)
  have q := sp193c (X := X) (N := N) (M := tm M 111 110 1 (c_tw w n (M 111, s))) (w := w) (n := n) (s := s) hn (by show M 120 55 = nI s; rw [e55]; exact eS) hs2 g2
  rw [show tm M 111 110 1 (c_tw w n (M 111, s)) 164 = M 111 from e164] at q
  exact pr_e (sp104c hn eS hs2 g2) q (iv_feed h (by rw [tw_2]; exact g2))
