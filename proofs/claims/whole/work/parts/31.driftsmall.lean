/-! ===== the drift: small methods ===== -/
theorem f41 {x : Int32} (h : b_in x (-20) 20) : ∃ k : Fin 41, x = Int32.ofInt ((k.val : Int) - 20) := by
  unfold b_in at h
  refine ⟨⟨(x.toInt + 20).toNat, by omega⟩, I_eq ?_⟩
  have e : (((x.toInt + 20).toNat : Nat) : Int) - 20 = x.toInt := by omega
  show x.toInt = (Int32.ofInt ((((x.toInt + 20).toNat : Nat) : Int) - 20)).toInt
  rw [e, Int32.ofInt_toInt]
def i_sg (x : Int32) : Int32 := if x.toInt < 0 then -1 else if x = 0 then 0 else 1
def i_ab (x : Int32) : Int32 := if 0 ≤ x then x else -x
theorem sg_k : ∀ k : Fin 41, ((Int32.ofInt ((k.val : Int) - 20) >>> ((Int8.ofInt 31).toInt32 &&& 31)) ||| ((-(Int32.ofInt ((k.val : Int) - 20))).toUInt32 >>> ((Int8.ofInt 31).toInt32.toUInt32 &&& 31)).toInt32) = i_sg (Int32.ofInt ((k.val : Int) - 20)) := by
  decide +kernel
theorem sg_t : ∀ k : Fin 41, Int32.ofInt ((k.val : Int) - 20) = 0 ∨ (i_sg (Int32.ofInt ((k.val : Int) - 20))).toInt = c_sg (Int32.ofInt ((k.val : Int) - 20)) := by
  decide +kernel
theorem ab_t : ∀ k : Fin 41, (i_ab (Int32.ofInt ((k.val : Int) - 20))).toInt = ((Int32.ofInt ((k.val : Int) - 20)).toInt.natAbs : Nat) := by
  decide +kernel
theorem i_sg_v {x : Int32} (h : b_in x (-20) 20) (h0 : x.toInt ≠ 0) : (i_sg x).toInt = c_sg x := by
  obtain ⟨k, rfl⟩ := f41 h
  rcases sg_t k with h1 | h1
  · rw [h1] at h0
    exact absurd rfl h0
  · exact h1
theorem i_ab_v {x : Int32} (h : b_in x (-20) 20) : (i_ab x).toInt = (x.toInt.natAbs : Nat) := by
  obtain ⟨k, rfl⟩ := f41 h
  exact ab_t k
theorem c_sg_v (x : Int32) : c_sg x = 1 ∨ c_sg x = -1 := by
  unfold c_sg
  split
  · exact .inr rfl
  · exact .inl rfl
theorem fl_k : ∀ (k : Fin 4) (w : Fin 7), -6 ≤ (c_fl (Int32.ofNat k.val) (Int32.ofInt ((w.val : Int) - 3))).toInt ∧ (c_fl (Int32.ofNat k.val) (Int32.ofInt ((w.val : Int) - 3))).toInt ≤ 6 := by
  decide +kernel
theorem dv_k : ∀ (k : Fin 13), -3 ≤ (Int32.ofInt ((k.val : Int) - 6) / 2).toInt ∧ (Int32.ofInt ((k.val : Int) - 6) / 2).toInt ≤ 3 := by
  decide +kernel
theorem k_4 {x : Int32} (h : b_in x 0 3) : x = 0 ∨ x = 1 ∨ x = 2 ∨ x = 3 := by
  unfold b_in at h
  have h2 : x.toInt = 0 ∨ x.toInt = 1 ∨ x.toInt = 2 ∨ x.toInt = 3 := by omega
  rcases h2 with h2 | h2 | h2 | h2
  · exact .inl (I_eq h2)
  · exact .inr (.inl (I_eq h2))
  · exact .inr (.inr (.inl (I_eq h2)))
  · exact .inr (.inr (.inr (I_eq h2)))
theorem fl_b {k w : Int32} (hk : b_in k 0 3) (hw : b_in w (-3) 3) : b_in (c_fl k w) (-6) 6 := by
  have ek : k = Int32.ofNat k.toNatClampNeg := I_nI hk.1
  have hk2 : k.toNatClampNeg < 4 := by have := I_cl hk.1; have := hk.2; omega
  have ew : w = Int32.ofInt ((((w.toInt + 3).toNat : Nat) : Int) - 3) := by
    have e : (((w.toInt + 3).toNat : Nat) : Int) - 3 = w.toInt := by have := hw.1; omega
    rw [e, Int32.ofInt_toInt]
  have h := fl_k ⟨k.toNatClampNeg, hk2⟩ ⟨(w.toInt + 3).toNat, by have := hw.1; have := hw.2; omega⟩
  rw [← ek, ← ew] at h
  exact h
theorem dv_b {a : Int32} (h : b_in a (-6) 6) : b_in (a / 2) (-3) 3 := by
  have ea : a = Int32.ofInt ((((a.toInt + 6).toNat : Nat) : Int) - 6) := by
    have e : (((a.toInt + 6).toNat : Nat) : Int) - 6 = a.toInt := by have := h.1; omega
    rw [e, Int32.ofInt_toInt]
  have h := dv_k ⟨(a.toInt + 6).toNat, by have := h.1; have := h.2; omega⟩
  rw [← ea] at h
  exact h
theorem b_add {x y : Int32} {a b c d e f : Int} (hx : b_in x a b) (hy : b_in y c d) (h1 : -2147483648 ≤ a + c ∧ b + d < 2147483648) (h2 : e ≤ a + c ∧ b + d ≤ f) : b_in (x + y) e f := by
  unfold b_in at *
  rw [I_add (by omega)]
  omega
theorem wd_b {E : am_M} {a b m : Nat} (ha : ∀ j, b_in (E a j) (-3) 3) (hb : ∀ j, b_in (E b j) (-3) 3) : b_in (c_wd E a b m) (-3) 3 := by
  unfold c_wd
  split
  · exact ha _
  · exact hb _
theorem wd_e {M : am_M} {m : Nat} (h : iv_sb M) : b_in (c_wd (sC M) 9 12 m) (-3) 3 ∧ b_in (c_wd (sC M) 10 13 m) (-3) 3 := by
  obtain ⟨h1, h2, h3, h4, h5, h6, h7, h8, h9, h10, h11, h12⟩ := h
  refine ⟨wd_b h8 (fun j => ?_), wd_b h9 (fun j => ?_)⟩
  · show b_in (if M 14 j = 0 then 0 else M 15 j) (-3) 3
    split
    · exact b_00 (by decide)
    · exact h10 j
  · show b_in (if M 14 j = 0 then 0 else M 16 j) (-3) 3
    split
    · exact b_00 (by decide)
    · exact h11 j
theorem pl_i {x y : Int32} (hx : 0 ≤ x.toInt ∧ x.toInt < 10) (hy : 0 ≤ y.toInt ∧ y.toInt < 6) : vp_in (6 * x + y) 60 ∧ (6 * x + y).toNatClampNeg = (6 * x.toInt + y.toInt).toNat := by
  have z : (6 : Int32).toInt = 6 := rfl
  have e1 : (6 * x).toInt = 6 * x.toInt := by rw [I_mul (by rw [z]; omega), z]
  have e2 : (6 * x + y).toInt = 6 * x.toInt + y.toInt := by rw [I_add (by rw [e1]; omega), e1]
  refine ⟨vp_of (by omega), ?_⟩
  show (6 * x + y).toInt.toNat = _
  rw [e2]
theorem sp53 {X : am_X} {M : am_M} {N : am_N} {x : Int32} (h : b_in x (-20) 20) : am_J X (am_eq (some (.int (i_sg x))) (M) N) 53 0 (am_en 53 [.int x]) [] M N := by
  refine J_en (L := [.int x]) rfl ?_
  refine J_b 8 am_d53 rfl ?_
  exact J_iret (am_d53 rfl) rfl rfl ⟨by obtain ⟨k, rfl⟩ := f41 h; exact congrArg (fun z => some (Value.int z)) (sg_k k), rfl, rfl⟩
theorem sp52b {X : am_X} {M : am_M} {N : am_N} {x : Int32} : am_J X (am_eq (some (.int (i_ab x))) M N) 52 0 (am_en 52 [.int x]) [] M N := sp52
theorem sp46 {X : am_X} {M : am_M} {N : am_N} {m : Nat} (hm : m < 1000) : am_J X (am_eq (some (.int (c_wd (sC M) 9 12 m))) (M) N) 46 0 (am_en 46 [.ref 1, .int (nI m)]) [] M N := by
  have e48 : nI m - nI m / (Int8.ofInt 48).toInt32 * (Int8.ofInt 48).toInt32 = nI (m % 48) := nI_remn (by omega) (by decide) (by decide) rfl
  have e12 : nI m - nI m / (Int8.ofInt 12).toInt32 * (Int8.ofInt 12).toInt32 = nI (m % 12) := nI_remn (by omega) (by decide) (by decide) rfl
  have l48 : m % 48 < 48 := Nat.mod_lt _ (by decide)
  have l12 : m % 12 < 12 := Nat.mod_lt _ (by decide)
  refine J_en (L := [.ref 1, .int (nI m)]) rfl ?_
  refine J_b 5 am_d46 rfl ?_
  rw [e48]
  refine J_zald (am_d46 rfl) rfl (vp_in_nI (by omega) (by decide)) ?_
  rw [nI_c (n := m % 48) (by omega)]
  refine J_if_eq 24 (am_d46 rfl) rfl (fun h9 => ?_) (fun h9 => ?_)
  · refine J_b 5 am_d46 rfl ?_
    rw [e12]
    refine J_iald (am_d46 rfl) rfl (vp_in_nI (by omega) (by decide)) ?_
    rw [nI_c (n := m % 12) (by omega)]
    exact J_iret (am_d46 rfl) rfl rfl ⟨by congr 2; show _ = if M 14 (m % 48) = 0 then M 12 (m % 12) else (if M 14 (m % 48) = 0 then 0 else M 15 (m % 48)); first | (rw [if_pos h9]; done) | rw [if_neg h9, if_neg h9], rfl, rfl⟩
  · refine J_b 5 am_d46 rfl ?_
    rw [e48]
    refine J_iald (am_d46 rfl) rfl (vp_in_nI (by omega) (by decide)) ?_
    rw [nI_c (n := m % 48) (by omega)]
    refine J_b 1 am_d46 rfl ?_
    exact J_iret (am_d46 rfl) rfl rfl ⟨by congr 2; show _ = if M 14 (m % 48) = 0 then M 12 (m % 12) else (if M 14 (m % 48) = 0 then 0 else M 15 (m % 48)); first | (rw [if_pos h9]; done) | rw [if_neg h9, if_neg h9], rfl, rfl⟩
theorem sp48 {X : am_X} {M : am_M} {N : am_N} {m : Nat} (hm : m < 1000) : am_J X (am_eq (some (.int (c_wd (sC M) 10 13 m))) (M) N) 48 0 (am_en 48 [.ref 1, .int (nI m)]) [] M N := by
  have e48 : nI m - nI m / (Int8.ofInt 48).toInt32 * (Int8.ofInt 48).toInt32 = nI (m % 48) := nI_remn (by omega) (by decide) (by decide) rfl
  have e12 : nI m - nI m / (Int8.ofInt 12).toInt32 * (Int8.ofInt 12).toInt32 = nI (m % 12) := nI_remn (by omega) (by decide) (by decide) rfl
  have l48 : m % 48 < 48 := Nat.mod_lt _ (by decide)
  have l12 : m % 12 < 12 := Nat.mod_lt _ (by decide)
  refine J_en (L := [.ref 1, .int (nI m)]) rfl ?_
  refine J_b 5 am_d48 rfl ?_
  rw [e48]
  refine J_zald (am_d48 rfl) rfl (vp_in_nI (by omega) (by decide)) ?_
  rw [nI_c (n := m % 48) (by omega)]
  refine J_if_eq 24 (am_d48 rfl) rfl (fun h9 => ?_) (fun h9 => ?_)
  · refine J_b 5 am_d48 rfl ?_
    rw [e12]
    refine J_iald (am_d48 rfl) rfl (vp_in_nI (by omega) (by decide)) ?_
    rw [nI_c (n := m % 12) (by omega)]
    exact J_iret (am_d48 rfl) rfl rfl ⟨by congr 2; show _ = if M 14 (m % 48) = 0 then M 13 (m % 12) else (if M 14 (m % 48) = 0 then 0 else M 16 (m % 48)); first | (rw [if_pos h9]; done) | rw [if_neg h9, if_neg h9], rfl, rfl⟩
  · refine J_b 5 am_d48 rfl ?_
    rw [e48]
    refine J_iald (am_d48 rfl) rfl (vp_in_nI (by omega) (by decide)) ?_
    rw [nI_c (n := m % 48) (by omega)]
    refine J_b 1 am_d48 rfl ?_
    exact J_iret (am_d48 rfl) rfl rfl ⟨by congr 2; show _ = if M 14 (m % 48) = 0 then M 13 (m % 12) else (if M 14 (m % 48) = 0 then 0 else M 16 (m % 48)); first | (rw [if_pos h9]; done) | rw [if_neg h9, if_neg h9], rfl, rfl⟩
theorem sp49 {X : am_X} {M : am_M} {N : am_N} {p m : Nat} (hp : p < 60) (hm : m < 1000) : am_J X (am_eq (some (.int (am_bi (c_icy (sC M) m p)))) (M) N) 49 0 (am_en 49 [.ref 1, .int (nI p), .int (nI m)]) [] M N := by
  have e48 : nI m - nI m / (Int8.ofInt 48).toInt32 * (Int8.ofInt 48).toInt32 = nI (m % 48) := nI_remn (by omega) (by decide) (by decide) rfl
  have e12 : nI m - nI m / (Int8.ofInt 12).toInt32 * (Int8.ofInt 12).toInt32 = nI (m % 12) := nI_remn (by omega) (by decide) (by decide) rfl
  have l48 : m % 48 < 48 := Nat.mod_lt _ (by decide)
  have l12 : m % 12 < 12 := Nat.mod_lt _ (by decide)
  refine J_en (L := [.ref 1, .int (nI p), .int (nI m)]) rfl ?_
  refine J_b 3 am_d49 rfl ?_
  refine J_aaldk 7 (am_d49 rfl) rfl (am_vi rfl) rfl ?_
  refine J_b 1 am_d49 rfl ?_
  refine J_iald (am_d49 rfl) rfl (vp_in_nI hp (by decide)) ?_
  rw [nI_c (n := p) (by omega)]
  show am_J X _ 49 8 _ (.int (M 7 p) :: _) _ N
  
  refine J_b 7 am_d49 rfl ?_
  refine J_icmp_ne 23 (am_d49 rfl) rfl (fun h16 => ?_) (fun h16 => ?_)
  · rw [e12] at h16
    refine J_b 1 am_d49 rfl ?_
    exact J_iret (am_d49 rfl) rfl rfl ⟨by congr 2; first | exact (if_neg h16).symm | exact (if_pos h16).symm, rfl, rfl⟩
  · rw [e12] at h16
    refine J_b 2 am_d49 rfl ?_
    exact J_iret (am_d49 rfl) rfl rfl ⟨by congr 2; first | exact (if_neg h16).symm | exact (if_pos h16).symm, rfl, rfl⟩
theorem sp47_40 {X : am_X} {M : am_M} {N : am_N} {kd mo sk gn ew nw : Int32} {sh : Nat → Int32} {st : am_M} {w : Int32} (hk : b_in kd 0 3) : am_J X (am_eq (some (.int (c_fl kd w))) (dr_D M 40 kd mo sk gn ew nw sh st) N) 47 0 (am_en 47 [.ref 40, .int w]) [] (dr_D M 40 kd mo sk gn ew nw sh st) N := by
  refine J_en (L := [.ref 40, .int w]) rfl ?_
  rcases k_4 hk with rfl | rfl | rfl | rfl
  · refine J_b 2 am_d47 rfl ?_
    refine J_tsOut 42 (am_d47 rfl) (.inl (show (0 : Int32).toInt < 1 by decide)) rfl ?_
    refine J_b 1 am_d47 rfl ?_
    exact J_iret (am_d47 rfl) rfl rfl ⟨rfl, rfl, rfl⟩
  · refine J_b 2 am_d47 rfl ?_
    refine J_tsIn 32 (am_d47 rfl) (show ¬ (1 : Int32).toInt < 1 by decide) (show ¬ (3 : Int) < (1 : Int32).toInt by decide) rfl rfl ?_
    refine J_b 1 am_d47 rfl ?_
    exact J_iret (am_d47 rfl) rfl rfl ⟨rfl, rfl, rfl⟩
  · refine J_b 2 am_d47 rfl ?_
    refine J_tsIn 34 (am_d47 rfl) (show ¬ (2 : Int32).toInt < 1 by decide) (show ¬ (3 : Int) < (2 : Int32).toInt by decide) rfl rfl ?_
    refine J_b 3 am_d47 rfl ?_
    exact J_iret (am_d47 rfl) rfl rfl ⟨rfl, rfl, rfl⟩
  · refine J_b 2 am_d47 rfl ?_
    refine J_tsIn 38 (am_d47 rfl) (show ¬ (3 : Int32).toInt < 1 by decide) (show ¬ (3 : Int) < (3 : Int32).toInt by decide) rfl rfl ?_
    refine J_b 3 am_d47 rfl ?_
    exact J_iret (am_d47 rfl) rfl rfl ⟨rfl, rfl, rfl⟩
theorem sp47_46 {X : am_X} {M : am_M} {N : am_N} {kd mo sk gn ew nw : Int32} {sh : Nat → Int32} {st : am_M} {w : Int32} (hk : b_in kd 0 3) : am_J X (am_eq (some (.int (c_fl kd w))) (dr_D M 46 kd mo sk gn ew nw sh st) N) 47 0 (am_en 47 [.ref 46, .int w]) [] (dr_D M 46 kd mo sk gn ew nw sh st) N := by
  refine J_en (L := [.ref 46, .int w]) rfl ?_
  rcases k_4 hk with rfl | rfl | rfl | rfl
  · refine J_b 2 am_d47 rfl ?_
    refine J_tsOut 42 (am_d47 rfl) (.inl (show (0 : Int32).toInt < 1 by decide)) rfl ?_
    refine J_b 1 am_d47 rfl ?_
    exact J_iret (am_d47 rfl) rfl rfl ⟨rfl, rfl, rfl⟩
  · refine J_b 2 am_d47 rfl ?_
    refine J_tsIn 32 (am_d47 rfl) (show ¬ (1 : Int32).toInt < 1 by decide) (show ¬ (3 : Int) < (1 : Int32).toInt by decide) rfl rfl ?_
    refine J_b 1 am_d47 rfl ?_
    exact J_iret (am_d47 rfl) rfl rfl ⟨rfl, rfl, rfl⟩
  · refine J_b 2 am_d47 rfl ?_
    refine J_tsIn 34 (am_d47 rfl) (show ¬ (2 : Int32).toInt < 1 by decide) (show ¬ (3 : Int) < (2 : Int32).toInt by decide) rfl rfl ?_
    refine J_b 3 am_d47 rfl ?_
    exact J_iret (am_d47 rfl) rfl rfl ⟨rfl, rfl, rfl⟩
  · refine J_b 2 am_d47 rfl ?_
    refine J_tsIn 38 (am_d47 rfl) (show ¬ (3 : Int32).toInt < 1 by decide) (show ¬ (3 : Int) < (3 : Int32).toInt by decide) rfl rfl ?_
    refine J_b 3 am_d47 rfl ?_
    exact J_iret (am_d47 rfl) rfl rfl ⟨rfl, rfl, rfl⟩
