/-! ===== prizes: texts; the tape, as the class reads it ===== -/
section TXT
variable {X : am_X} {Q : am_Q} {i pc : Nat} {L S : am_V} {M : am_M} {N : am_N}
theorem J_gsC (ho : am_ow i = 14) (d : am_in i pc = some (.getstatic 38, 3)) (kk : am_J X Q i (pc + 3) L (.int 1 :: S) M N) : am_J X Q i pc L S M N := sw_gsC ho d kk
theorem J_gsF (ho : am_ow i = 14) (d : am_in i pc = some (.getstatic 1053, 3)) (kk : am_J X Q i (pc + 3) L (.retAddr 7 :: S) M N) : am_J X Q i pc L S M N := sw_gsF ho d kk
theorem J_ldS {n idx : Nat} (ho : am_ow i = 6) (hn : n < 7) (hx0 : am_sks.getD n 0 = idx) (d : am_in i pc = some (.ldc idx, 2)) (kk : am_J X Q i (pc + 2) L (.ref (1000010 + n) :: S) M N) : am_J X Q i pc L S M N := sw_ldS ho hn hx0 d kk
theorem J_sval {n : Nat} (ho : am_ow i = 14) (hn : n < 7) (d : am_in i pc = some (.getfield 9, 3)) (kk : am_J X Q i (pc + 3) L (.ref (1000100 + n) :: S) M N) : am_J X Q i pc L (.ref (1000010 + n) :: S) M N := sw_sval ho hn d kk
theorem J_scod {n : Nat} (ho : am_ow i = 14) (hn : n < 7) (d : am_in i pc = some (.getfield 15, 3)) (kk : am_J X Q i (pc + 3) L (.int 0 :: S) M N) : am_J X Q i pc L (.ref (1000010 + n) :: S) M N := sw_scod ho hn d kk
theorem J_slen {n : Nat} (hn : n < 7) (d : am_in i pc = some (.arraylength, 1)) (kk : am_J X Q i (pc + 1) L (.int (Int32.ofNat (am_slen.getD n 0)) :: S) M N) : am_J X Q i pc L (.ref (1000100 + n) :: S) M N := sw_slen hn d kk
theorem J_sbld {n : Nat} {x : Int32} (hn : n < 7) (hi : vp_in x (am_slen.getD n 0)) (d : am_in i pc = some (.baload, 1)) (kk : am_J X Q i (pc + 1) L (.int ((am_sbyt.getD n []).getD x.toNatClampNeg 0) :: S) M N) : am_J X Q i pc L (.int x :: .ref (1000100 + n) :: S) M N := sw_sbld hn hi d kk
theorem J_T0 {idx n : Nat} {w : Value} {M1 : am_M} {N1 : am_N} (j : Nat) (hn : n < 7) (d : am_in i pc = some (.invokevirtual idx, 3)) (hc : am_cl i idx = some (j, false)) (hst : am_sta.contains j = false) (hin2 : am_ins.contains j = true) (hsel : am_sel.contains j = true) (how : am_ow j = 14) (hk : am_ckr i j [.ref (1000010 + n)] S = true) (k1 : am_J X (am_eq (some w) M1 N1) j 0 (am_en j [.ref (1000010 + n)]) [] M N) (k2 : am_J X Q i (pc + 3) L (w :: S) M1 N1) : am_J X Q i pc L (.ref (1000010 + n) :: S) M N :=
  sw_callT (As := []) d hc hst hin2 hsel hn rfl how (am_ckr_ok hk) ⟨Nat.le_refl _, Nat.le_refl _⟩ k1 (fun r M2 N2 h => by obtain ⟨rfl, rfl, rfl⟩ := h; exact k2)
theorem J_T1 {idx n : Nat} {w a0 : Value} {M1 : am_M} {N1 : am_N} (j : Nat) (hn : n < 7) (d : am_in i pc = some (.invokevirtual idx, 3)) (hc : am_cl i idx = some (j, false)) (hst : am_sta.contains j = false) (hin2 : am_ins.contains j = true) (hsel : am_sel.contains j = true) (how : am_ow j = 14) (hk : am_ckr i j [.ref (1000010 + n), a0] S = true) (k1 : am_J X (am_eq (some w) M1 N1) j 0 (am_en j [.ref (1000010 + n), a0]) [] M N) (k2 : am_J X Q i (pc + 3) L (w :: S) M1 N1) : am_J X Q i pc L (a0 :: .ref (1000010 + n) :: S) M N :=
  sw_callT (As := [a0]) d hc hst hin2 hsel hn rfl how (am_ckr_ok hk) ⟨Nat.le_refl _, Nat.le_refl _⟩ k1 (fun r M2 N2 h => by obtain ⟨rfl, rfl, rfl⟩ := h; exact k2)
end TXT
/-- sign k of text s -/
def tx (s k : Nat) : Int32 := (am_sbyt.getD s []).getD k 0
def tl (s : Nat) : Nat := am_slen.getD s 0
theorem tx_c : ∀ s k : Nat, s < 7 → k < tl s → ((tx s k &&& (Int16.ofInt 255).toInt32).toUInt32 % 65536).toInt32 = tx s k ∧ narrow .char (.int (tx s k)) = .int (tx s k) := by
  intro s k hs hk
  match s, k, hs, hk with
  | 0, 0, _, _ => exact ⟨rfl, rfl⟩
  | 0, 1, _, _ => exact ⟨rfl, rfl⟩
  | 0, 2, _, _ => exact ⟨rfl, rfl⟩
  | 0, 3, _, _ => exact ⟨rfl, rfl⟩
  | 0, 4, _, _ => exact ⟨rfl, rfl⟩
  | 0, 5, _, _ => exact ⟨rfl, rfl⟩
  | 1, 0, _, _ => exact ⟨rfl, rfl⟩
  | 1, 1, _, _ => exact ⟨rfl, rfl⟩
  | 1, 2, _, _ => exact ⟨rfl, rfl⟩
  | 1, 3, _, _ => exact ⟨rfl, rfl⟩
  | 2, 0, _, _ => exact ⟨rfl, rfl⟩
  | 2, 1, _, _ => exact ⟨rfl, rfl⟩
  | 2, 2, _, _ => exact ⟨rfl, rfl⟩
  | 2, 3, _, _ => exact ⟨rfl, rfl⟩
  | 2, 4, _, _ => exact ⟨rfl, rfl⟩
  | 2, 5, _, _ => exact ⟨rfl, rfl⟩
  | 3, 0, _, _ => exact ⟨rfl, rfl⟩
  | 3, 1, _, _ => exact ⟨rfl, rfl⟩
  | 3, 2, _, _ => exact ⟨rfl, rfl⟩
  | 4, 0, _, _ => exact ⟨rfl, rfl⟩
  | 4, 1, _, _ => exact ⟨rfl, rfl⟩
  | 4, 2, _, _ => exact ⟨rfl, rfl⟩
  | 4, 3, _, _ => exact ⟨rfl, rfl⟩
  | 5, 0, _, _ => exact ⟨rfl, rfl⟩
  | 5, 1, _, _ => exact ⟨rfl, rfl⟩
  | 5, 2, _, _ => exact ⟨rfl, rfl⟩
  | 5, 3, _, _ => exact ⟨rfl, rfl⟩
  | 5, 4, _, _ => exact ⟨rfl, rfl⟩
  | 5, 5, _, _ => exact ⟨rfl, rfl⟩
  | 6, 0, _, _ => exact ⟨rfl, rfl⟩
  | 6, 1, _, _ => exact ⟨rfl, rfl⟩
  | 6, 2, _, _ => exact ⟨rfl, rfl⟩
  | 6, 3, _, _ => exact ⟨rfl, rfl⟩
  | 6, 4, _, _ => exact ⟨rfl, rfl⟩
  | 6, 5, _, _ => exact ⟨rfl, rfl⟩
  | 0, (k + 6), _, h => exact absurd h (by unfold tl; simp [am_slen])
  | 1, (k + 4), _, h => exact absurd h (by unfold tl; simp [am_slen])
  | 2, (k + 6), _, h => exact absurd h (by unfold tl; simp [am_slen])
  | 3, (k + 3), _, h => exact absurd h (by unfold tl; simp [am_slen])
  | 4, (k + 4), _, h => exact absurd h (by unfold tl; simp [am_slen])
  | 5, (k + 6), _, h => exact absurd h (by unfold tl; simp [am_slen])
  | 6, (k + 6), _, h => exact absurd h (by unfold tl; simp [am_slen])
  | (s + 7), _, h, _ => exact absurd h (by omega)
theorem tl_s : ∀ s : Nat, s < 7 → Int32.ofNat (tl s) >>> ((0 : Int32) &&& 31) = nI (tl s) ∧ tl s ≤ 6 := by
  intro s hs
  match s, hs with
  | 0, _ => exact ⟨by decide, by decide⟩
  | 1, _ => exact ⟨by decide, by decide⟩
  | 2, _ => exact ⟨by decide, by decide⟩
  | 3, _ => exact ⟨by decide, by decide⟩
  | 4, _ => exact ⟨by decide, by decide⟩
  | 5, _ => exact ⟨by decide, by decide⟩
  | 6, _ => exact ⟨by decide, by decide⟩
  | (s + 7), h => exact absurd h (by omega)
theorem sp115 {X : am_X} {M : am_M} {N : am_N} {x y : Int32} (g0 : ¬ x < 0) (g1 : x < y) : am_J X (am_eq (some (.int x)) (M) N) 115 0 (am_en 115 [.int x, .int y, .retAddr 7]) [] M N := by
  refine J_en (L := [.int x, .int y, .retAddr 7]) rfl ?_
  refine J_b 1 am_d115 rfl ?_
  refine J_if_lt 9 (am_d115 rfl) rfl (fun h1 => absurd h1 g0) (fun h1 => ?_)
  refine J_b 2 am_d115 rfl ?_
  refine J_icmp_lt 16 (am_d115 rfl) rfl (fun h6 => ?_) (fun h6 => absurd (g1) h6)
  refine J_b 1 am_d115 rfl ?_
  exact J_iret (am_d115 rfl) rfl rfl ⟨rfl, rfl, rfl⟩
theorem sp114 {X : am_X} {M : am_M} {N : am_N} {x y : Int32} (g0 : ¬ x < 0) (g1 : x < y) : am_J X (am_eq (none) (M) N) 114 0 (am_en 114 [.int x, .int y]) [] M N := by
  refine J_en (L := [.int x, .int y]) rfl ?_
  refine J_b 2 am_d114 rfl ?_
  refine J_gsF rfl (am_d114 rfl) ?_
  refine J_S3s 115 (am_d114 rfl) rfl rfl (sp115 g0 g1) ?_
  refine J_b 1 am_d114 rfl ?_
  exact J_ret (am_d114 rfl) rfl ⟨rfl, rfl, rfl⟩
theorem sp112 {X : am_X} {M : am_M} {N : am_N} {s : Nat} (hs : s < 7) : am_J X (am_eq (some (.int 1)) (M) N) 112 0 (am_en 112 [.ref (1000010 + s)]) [] M N := by
  refine J_en (L := [.ref (1000010 + s)]) rfl ?_
  refine J_gsC rfl (am_d112 rfl) ?_
  refine J_if_eq 17 (am_d112 rfl) rfl (fun h3 => absurd h3 (by decide)) (fun h3 => ?_)
  refine J_b 1 am_d112 rfl ?_
  refine J_scod rfl hs (am_d112 rfl) ?_
  refine J_if_ne 17 (am_d112 rfl) rfl (fun h10 => absurd rfl h10) (fun h10 => ?_)
  refine J_b 2 am_d112 rfl ?_
  exact J_iret (am_d112 rfl) rfl rfl ⟨rfl, rfl, rfl⟩
theorem sp110 {X : am_X} {M : am_M} {N : am_N} {s : Nat} (hs : s < 7) : am_J X (am_eq (some (.int 0)) (M) N) 110 0 (am_en 110 [.ref (1000010 + s)]) [] M N := by
  refine J_en (L := [.ref (1000010 + s)]) rfl ?_
  refine J_gsC rfl (am_d110 rfl) ?_
  refine J_if_eq 13 (am_d110 rfl) rfl (fun h3 => absurd h3 (by decide)) (fun h3 => ?_)
  refine J_b 1 am_d110 rfl ?_
  refine J_scod rfl hs (am_d110 rfl) ?_
  refine J_b 1 am_d110 rfl ?_
  exact J_iret (am_d110 rfl) rfl rfl ⟨rfl, rfl, rfl⟩
theorem sp109 {X : am_X} {M : am_M} {N : am_N} {s : Nat} (hs : s < 7) : am_J X (am_eq (some (.int (nI (tl s)))) (M) N) 109 0 (am_en 109 [.ref (1000010 + s)]) [] M N := by
  refine J_en (L := [.ref (1000010 + s)]) rfl ?_
  refine J_b 1 am_d109 rfl ?_
  refine J_sval rfl hs (am_d109 rfl) ?_
  refine J_slen hs (am_d109 rfl) ?_
  refine J_b 1 am_d109 rfl ?_
  refine J_T0 110 hs (am_d109 rfl) rfl rfl rfl rfl rfl rfl (sp110 hs) ?_
  refine J_b 1 am_d109 rfl ?_
  exact J_iret (am_d109 rfl) rfl rfl ⟨congrArg (fun z => some (Value.int z)) (tl_s s hs).1, rfl, rfl⟩
theorem nI_lt6 {k l : Nat} (h : k < l) (hl : l ≤ 6) : nI k < nI l := by
  rw [Int32.lt_iff_toInt_lt, nI_i (by omega), nI_i (by omega)]
  omega
theorem sp113 {X : am_X} {M : am_M} {N : am_N} {s k : Nat} (hs : s < 7) (hk : k < tl s) : am_J X (am_eq (some (.int (tx s k))) (M) N) 113 0 (am_en 113 [.ref (1000100 + s), .int (nI k)]) [] M N := by
  have h6 := (tl_s s hs).2
  refine J_en (L := [.ref (1000100 + s), .int (nI k)]) rfl ?_
  refine J_b 2 am_d113 rfl ?_
  refine J_slen hs (am_d113 rfl) ?_
  refine J_S2n 114 (am_d113 rfl) rfl rfl (sp114 (nnI (r := k) (by omega)) (nI_lt6 hk h6)) ?_
  refine J_b 2 am_d113 rfl ?_
  refine J_sbld hs (vp_in_nI hk (show tl s < 2147483648 by omega)) (am_d113 rfl) ?_
  rw [nI_c (n := k) (by omega)]
  refine J_b 2 am_d113 rfl ?_
  refine J_b 1 am_d113 rfl ?_
  refine J_st5 (congrArg (fun z => ([.int z] : am_V)) (tx_c s k hs hk).1) ?_
  exact J_iret (am_d113 rfl) rfl (tx_c s k hs hk).2 ⟨rfl, rfl, rfl⟩
theorem sp111 {X : am_X} {M : am_M} {N : am_N} {s k : Nat} (hs : s < 7) (hk : k < tl s) : am_J X (am_eq (some (.int (tx s k))) (M) N) 111 0 (am_en 111 [.ref (1000010 + s), .int (nI k)]) [] M N := by
  refine J_en (L := [.ref (1000010 + s), .int (nI k)]) rfl ?_
  refine J_b 1 am_d111 rfl ?_
  refine J_T0 112 hs (am_d111 rfl) rfl rfl rfl rfl rfl rfl (sp112 hs) ?_
  refine J_if_eq 16 (am_d111 rfl) rfl (fun h4 => absurd h4 (by decide)) (fun h4 => ?_)
  refine J_b 1 am_d111 rfl ?_
  refine J_sval rfl hs (am_d111 rfl) ?_
  refine J_b 1 am_d111 rfl ?_
  refine J_S2s 113 (am_d111 rfl) rfl rfl (sp113 hs hk) ?_
  exact J_iret (am_d111 rfl) rfl (tx_c s k hs hk).2 ⟨rfl, rfl, rfl⟩
/-! the tape -/
def tp (M : am_M) (a : Nat) : am_M := am_up M 110 2 (nI a)
theorem tp_n {M : am_M} {a r : Nat} (h : r ≠ 110) : tp M a r = M r := up_n h
theorem tp_1 {M : am_M} {a : Nat} : tp M a 110 1 = M 110 1 := by
  unfold tp
  rw [up_k]
  exact if_neg (by decide)
theorem tp_2 {M : am_M} {a : Nat} : tp M a 110 2 = nI a := up_r
theorem tp_tp {M : am_M} {a b : Nat} : am_up (tp M a) 110 2 (nI b) = tp M b := up_up
theorem tp_up {M : am_M} {a k j : Nat} {v : Int32} (h : k ≠ 110) : am_up (tp M a) k j v = tp (am_up M k j v) a := by
  unfold tp
  funext r i
  unfold am_up
  by_cases e : r = k
  · subst e
    simp [h]
  · simp [e]
theorem tp_0 {M : am_M} (h : M 110 2 = 0) : M = tp M 0 := (up_id h).symm
/-- a sign lies at a place of the tape -/
abbrev sg (t : Nat → Int32) (n : Nat) (b : Int32) (a : Nat) : Prop := a < n ∧ t a = b
abbrev dg (t : Nat → Int32) (n : Nat) (a : Nat) : Prop := a < n ∧ 48 ≤ (t a).toInt ∧ (t a).toInt ≤ 57
/-- signs w i, w (i + 1) .. taken one by one: m of them -/
def wd (t : Nat → Int32) (n : Nat) (w : Nat → Int32) : Nat → Nat → Nat → Nat × Bool
  | 0, _, a => (a, true)
  | m + 1, i, a => if sg t n (w i) a then wd t n w m (i + 1) (a + 1) else (a, false)
def nc (t : Nat → Int32) (n : Nat) : Nat → Nat → Int32 → Nat × Int32
  | 0, a, v => (a, v)
  | m + 1, a, v => if dg t n a then nc t n m (a + 1) ((if v < 0 then 0 else v) * 10 + t a - 48) else (a, v)
theorem sp117t {X : am_X} {M : am_M} {N : am_N} {n a : Nat} {b : Int32} (hn : M 110 1 = nI n) (h120 : n ≤ 120) (ha : a ≤ n) (hs : sg (M 111) n b a) : am_J X (am_eq (some (.int 1)) (tp M a) N) 117 0 (am_en 117 [.ref 110, .int b]) [] (tp M a) N := by
  have q1 : (tp M a) 110 2 = nI a := tp_2
  have q2 : (tp M a) 110 1 = nI n := tp_1.trans hn
  refine J_en (L := [.ref 110, .int b]) rfl ?_
  refine J_b 4 am_d117 rfl ?_
  refine J_icmp_ge 28 (am_d117 rfl) rfl (fun h8 => absurd h8 (by rw [q1, q2]; exact nI_ngt hs.1 (by omega))) (fun h8 => ?_)
  refine J_b 4 am_d117 rfl ?_
  rw [q1]
  refine J_iald (am_d117 rfl) rfl (vp_in_nI (show a < 120 by omega) (by decide)) ?_
  rw [nI_c (n := a) (by omega)]
  show am_J X _ 117 20 _ (.int (M 111 a) :: _) _ N
  refine J_b 1 am_d117 rfl ?_
  refine J_icmp_ne 28 (am_d117 rfl) rfl (fun h21 => absurd hs.2 h21) (fun h21 => ?_)
  refine J_b 2 am_d117 rfl ?_
  exact J_iret (am_d117 rfl) rfl rfl ⟨rfl, rfl, rfl⟩
theorem sp117f {X : am_X} {M : am_M} {N : am_N} {n a : Nat} {b : Int32} (hn : M 110 1 = nI n) (h120 : n ≤ 120) (ha : a ≤ n) (hs : ¬ sg (M 111) n b a) : am_J X (am_eq (some (.int 0)) (tp M a) N) 117 0 (am_en 117 [.ref 110, .int b]) [] (tp M a) N := by
  have q1 : (tp M a) 110 2 = nI a := tp_2
  have q2 : (tp M a) 110 1 = nI n := tp_1.trans hn
  refine J_en (L := [.ref 110, .int b]) rfl ?_
  refine J_b 4 am_d117 rfl ?_
  refine J_icmp_ge 28 (am_d117 rfl) rfl (fun h8 => ?_) (fun h8 => ?_)
  · refine J_b 1 am_d117 rfl ?_
    exact J_iret (am_d117 rfl) rfl rfl ⟨rfl, rfl, rfl⟩
  · refine J_b 4 am_d117 rfl ?_
    have hlt : a < n := by rw [q1, q2] at h8; exact Nat.lt_of_not_le (fun z => h8 ((nI_leq (by omega) (by omega)).mpr z))
    rw [q1]
    refine J_iald (am_d117 rfl) rfl (vp_in_nI (show a < 120 by omega) (by decide)) ?_
    rw [nI_c (n := a) (by omega)]
    show am_J X _ 117 20 _ (.int (M 111 a) :: _) _ N
    refine J_b 1 am_d117 rfl ?_
    refine J_icmp_ne 28 (am_d117 rfl) rfl (fun h21 => ?_) (fun h21 => ?_)
    · refine J_b 1 am_d117 rfl ?_
      exact J_iret (am_d117 rfl) rfl rfl ⟨rfl, rfl, rfl⟩
    · exact absurd ⟨hlt, h21⟩ hs
theorem sp116t {X : am_X} {M : am_M} {N : am_N} {n a : Nat} {b : Int32} (hn : M 110 1 = nI n) (h120 : n ≤ 120) (ha : a ≤ n) (hs : sg (M 111) n b a) : am_J X (am_eq (some (.int 1)) (tp M (a + 1)) N) 116 0 (am_en 116 [.ref 110, .int b]) [] (tp M a) N := by
  have q1 : (tp M a) 110 2 = nI a := tp_2
  have q2 : (tp M a) 110 1 = nI n := tp_1.trans hn
  refine J_en (L := [.ref 110, .int b]) rfl ?_
  refine J_b 2 am_d116 rfl ?_
  refine J_V1s 117 (am_d116 rfl) rfl rfl (sp117t hn h120 ha hs) ?_
  refine J_if_ne 10 (am_d116 rfl) rfl (fun h5 => ?_) (fun h5 => absurd h5 (by decide))
  refine J_b 5 am_d116 rfl ?_
  rw [q1]
  refine J_puti (am_d116 rfl) rfl ?_
  rw [show nI a + Int32.ofInt 1 = nI (a + 1) from nI_1 a]
  refine J_mem tp_tp ?_
  refine J_b 1 am_d116 rfl ?_
  exact J_iret (am_d116 rfl) rfl rfl ⟨rfl, rfl, rfl⟩
theorem sp116f {X : am_X} {M : am_M} {N : am_N} {n a : Nat} {b : Int32} (hn : M 110 1 = nI n) (h120 : n ≤ 120) (ha : a ≤ n) (hs : ¬ sg (M 111) n b a) : am_J X (am_eq (some (.int 0)) (tp M a) N) 116 0 (am_en 116 [.ref 110, .int b]) [] (tp M a) N := by
  have q1 : (tp M a) 110 2 = nI a := tp_2
  have q2 : (tp M a) 110 1 = nI n := tp_1.trans hn
  refine J_en (L := [.ref 110, .int b]) rfl ?_
  refine J_b 2 am_d116 rfl ?_
  refine J_V1s 117 (am_d116 rfl) rfl rfl (sp117f hn h120 ha hs) ?_
  refine J_if_ne 10 (am_d116 rfl) rfl (fun h5 => absurd rfl h5) (fun h5 => ?_)
  refine J_b 1 am_d116 rfl ?_
  exact J_iret (am_d116 rfl) rfl rfl ⟨rfl, rfl, rfl⟩
theorem sp119t {X : am_X} {M : am_M} {N : am_N} {n a : Nat} (hn : M 110 1 = nI n) (h120 : n ≤ 120) (ha : a ≤ n) (hs : a = n) : am_J X (am_eq (some (.int 1)) (tp M a) N) 119 0 (am_en 119 [.ref 110]) [] (tp M a) N := by
  have q1 : (tp M a) 110 2 = nI a := tp_2
  have q2 : (tp M a) 110 1 = nI n := tp_1.trans hn
  refine J_en (L := [.ref 110]) rfl ?_
  refine J_b 4 am_d119 rfl ?_
  refine J_icmp_lt 15 (am_d119 rfl) rfl (fun h8 => absurd h8 (by rw [q1, q2, hs]; exact Int32.lt_irrefl)) (fun h8 => ?_)
  refine J_b 2 am_d119 rfl ?_
  exact J_iret (am_d119 rfl) rfl rfl ⟨rfl, rfl, rfl⟩
theorem sp119f {X : am_X} {M : am_M} {N : am_N} {n a : Nat} (hn : M 110 1 = nI n) (h120 : n ≤ 120) (ha : a ≤ n) (hs : ¬ a = n) : am_J X (am_eq (some (.int 0)) (tp M a) N) 119 0 (am_en 119 [.ref 110]) [] (tp M a) N := by
  have q1 : (tp M a) 110 2 = nI a := tp_2
  have q2 : (tp M a) 110 1 = nI n := tp_1.trans hn
  refine J_en (L := [.ref 110]) rfl ?_
  refine J_b 4 am_d119 rfl ?_
  refine J_icmp_lt 15 (am_d119 rfl) rfl (fun h8 => ?_) (fun h8 => absurd (by rw [q1, q2]; exact Int32.not_le.mp (nI_ngt (by omega) (by omega))) h8)
  refine J_b 1 am_d119 rfl ?_
  exact J_iret (am_d119 rfl) rfl rfl ⟨rfl, rfl, rfl⟩
theorem lp108 {X : am_X} {M : am_M} {N : am_N} {n s : Nat} (hn : M 110 1 = nI n) (h120 : n ≤ 120) (hs : s < 7) : ∀ (m i : Nat), i + m = tl s → ∀ (x : Int32), x = nI i → ∀ (a : Nat), a ≤ n → am_J X (am_eq (some (.int (am_bi ((wd (M 111) n (tx s) m i a).2 = true)))) (tp M (wd (M 111) n (tx s) m i a).1) N) 108 2 [.ref 110, .ref (1000010 + s), .int x] [] (tp M a) N := by
  have h6 := (tl_s s hs).2
  intro m
  induction m with
  | zero =>
    intro i hi x ex a ha
    subst ex
    have hge : nI (tl s) ≤ nI i := by rw [show i = tl s by omega]; exact Int32.le_refl _
    refine J_b 2 am_d108 rfl ?_
    refine J_T0 109 hs (am_d108 rfl) rfl rfl rfl rfl rfl rfl (sp109 hs) ?_
    refine J_icmp_ge 30 (am_d108 rfl) rfl (fun h7 => ?_) (fun h7 => absurd (hge) h7)
    refine J_b 1 am_d108 rfl ?_
    exact J_iret (am_d108 rfl) rfl rfl ⟨rfl, rfl, rfl⟩
  | succ m ih =>
    intro i hi x ex a ha
    subst ex
    by_cases hsg : sg (M 111) n (tx s i) a
    · refine J_b 2 am_d108 rfl ?_
      refine J_T0 109 hs (am_d108 rfl) rfl rfl rfl rfl rfl rfl (sp109 hs) ?_
      refine J_icmp_ge 30 (am_d108 rfl) rfl (fun h7 => absurd h7 (nI_ngt (by omega) (by omega))) (fun h7 => ?_)
      refine J_b 3 am_d108 rfl ?_
      refine J_T1 111 hs (am_d108 rfl) rfl rfl rfl rfl rfl rfl (sp111 hs (show i < tl s by omega)) ?_
      refine J_V1s 116 (am_d108 rfl) rfl rfl (sp116t hn h120 ha hsg) ?_
      refine J_if_ne 24 (am_d108 rfl) rfl (fun h19 => ?_) (fun h19 => absurd h19 (by decide))
      refine J_b 2 am_d108 rfl ?_
      rw [wd, if_pos hsg]
      exact ih (i + 1) (by omega) _ (nI_1 i) _ (by have := hsg.1; omega)
    · refine J_b 2 am_d108 rfl ?_
      refine J_T0 109 hs (am_d108 rfl) rfl rfl rfl rfl rfl rfl (sp109 hs) ?_
      refine J_icmp_ge 30 (am_d108 rfl) rfl (fun h7 => absurd h7 (nI_ngt (by omega) (by omega))) (fun h7 => ?_)
      refine J_b 3 am_d108 rfl ?_
      refine J_T1 111 hs (am_d108 rfl) rfl rfl rfl rfl rfl rfl (sp111 hs (show i < tl s by omega)) ?_
      refine J_V1s 116 (am_d108 rfl) rfl rfl (sp116f hn h120 ha hsg) ?_
      refine J_if_ne 24 (am_d108 rfl) rfl (fun h19 => absurd rfl h19) (fun h19 => ?_)
      refine J_b 1 am_d108 rfl ?_
      exact J_iret (am_d108 rfl) rfl rfl ⟨by rw [wd, if_neg hsg]; rfl, by rw [wd, if_neg hsg], rfl⟩
theorem sp108 {X : am_X} {M : am_M} {N : am_N} {n s a : Nat} (hn : M 110 1 = nI n) (h120 : n ≤ 120) (hs : s < 7) (ha : a ≤ n) : am_J X (am_eq (some (.int (am_bi ((wd (M 111) n (tx s) (tl s) 0 a).2 = true)))) (tp M (wd (M 111) n (tx s) (tl s) 0 a).1) N) 108 0 (am_en 108 [.ref 110, .ref (1000010 + s)]) [] (tp M a) N := by
  refine J_en (L := [.ref 110, .ref (1000010 + s), .retAddr 0]) rfl ?_
  refine J_b 2 am_d108 rfl ?_
  exact lp108 hn h120 hs (tl s) 0 (Nat.zero_add _) _ rfl _ ha
theorem dg_lo {x : Int32} (h : 48 ≤ x.toInt) : ¬ x < (Int8.ofInt 48).toInt32 := by
  rw [Int32.lt_iff_toInt_lt]
  exact Int.not_lt.mpr h
theorem dg_hi {x : Int32} (h : x.toInt ≤ 57) : ¬ (Int8.ofInt 57).toInt32 < x := by
  rw [Int32.lt_iff_toInt_lt]
  exact Int.not_lt.mpr h
theorem dg_lo2 {x : Int32} (h : ¬ x < (Int8.ofInt 48).toInt32) : 48 ≤ x.toInt := by
  rw [Int32.lt_iff_toInt_lt] at h
  exact Int.not_lt.mp h
theorem dg_hi2 {x : Int32} (h : ¬ (Int8.ofInt 57).toInt32 < x) : x.toInt ≤ 57 := by
  rw [Int32.lt_iff_toInt_lt] at h
  exact Int.not_lt.mp h
theorem lp118 {X : am_X} {M : am_M} {N : am_N} {n : Nat} (hn : M 110 1 = nI n) (h120 : n ≤ 120) : ∀ (m i : Nat), i + m = 4 → ∀ (x : Int32), x = nI i → ∀ (a : Nat), a ≤ n → ∀ (v : Int32), am_J X (am_eq (some (.int (nc (M 111) n m a v).2)) (tp M (nc (M 111) n m a v).1) N) 118 4 [.ref 110, .int v, .int x] [] (tp M a) N := by
  intro m
  induction m with
  | zero =>
    intro i hi x ex a ha v
    subst ex
    have hge : Int32.ofInt 4 ≤ nI i := by rw [show i = 4 by omega]; exact Int32.le_refl _
    refine J_b 2 am_d118 rfl ?_
    refine J_icmp_ge 86 (am_d118 rfl) rfl (fun h6 => ?_) (fun h6 => absurd (hge) h6)
    refine J_b 1 am_d118 rfl ?_
    exact J_iret (am_d118 rfl) rfl rfl ⟨rfl, rfl, rfl⟩
  | succ m ih =>
    intro i hi x ex a ha v
    subst ex
    have q1 : (tp M a) 110 2 = nI a := tp_2
    have q2 : (tp M a) 110 1 = nI n := tp_1.trans hn
    by_cases hd : dg (M 111) n a
    · refine J_b 2 am_d118 rfl ?_
      refine J_icmp_ge 86 (am_d118 rfl) rfl (fun h6 => absurd h6 (nI_ngt (b := 4) (by omega) (by decide))) (fun h6 => ?_)
      refine J_b 4 am_d118 rfl ?_
      refine J_icmp_ge 86 (am_d118 rfl) rfl (fun h17 => absurd h17 (by rw [q1, q2]; exact nI_ngt hd.1 (by omega))) (fun h17 => ?_)
      refine J_b 4 am_d118 rfl ?_
      rw [q1]
      refine J_iald (am_d118 rfl) rfl (vp_in_nI (show a < 120 by omega) (by decide)) ?_
      rw [nI_c (n := a) (by omega)]
      show am_J X _ 118 29 _ (.int (M 111 a) :: _) _ N
      refine J_b 1 am_d118 rfl ?_
      refine J_icmp_lt 86 (am_d118 rfl) rfl (fun h31 => absurd h31 (dg_lo hd.2.1)) (fun h31 => ?_)
      refine J_b 4 am_d118 rfl ?_
      rw [q1]
      refine J_iald (am_d118 rfl) rfl (vp_in_nI (show a < 120 by omega) (by decide)) ?_
      rw [nI_c (n := a) (by omega)]
      show am_J X _ 118 43 _ (.int (M 111 a) :: _) _ N
      refine J_b 1 am_d118 rfl ?_
      refine J_icmp_gt 86 (am_d118 rfl) rfl (fun h45 => absurd h45 (dg_hi hd.2.2)) (fun h45 => ?_)
      refine J_b 2 am_d118 rfl ?_
      refine J_S2s 73 (am_d118 rfl) rfl rfl (sp73) ?_
      refine J_b 6 am_d118 rfl ?_
      rw [q1]
      refine J_iald (am_d118 rfl) rfl (vp_in_nI (show a < 120 by omega) (by decide)) ?_
      rw [nI_c (n := a) (by omega)]
      show am_J X _ 118 65 _ (.int (M 111 a) :: _) _ N
      refine J_b 9 am_d118 rfl ?_
      rw [q1]
      refine J_puti (am_d118 rfl) rfl ?_
      rw [show nI a + Int32.ofInt 1 = nI (a + 1) from nI_1 a]
      refine J_mem tp_tp ?_
      refine J_b 2 am_d118 rfl ?_
      rw [nc, if_pos hd]
      exact ih (i + 1) (by omega) _ (nI_1 i) _ (by have := hd.1; omega) _
    · refine J_b 2 am_d118 rfl ?_
      refine J_icmp_ge 86 (am_d118 rfl) rfl (fun h6 => absurd h6 (nI_ngt (b := 4) (by omega) (by decide))) (fun h6 => ?_)
      refine J_b 4 am_d118 rfl ?_
      refine J_icmp_ge 86 (am_d118 rfl) rfl (fun h17 => ?_) (fun h17 => ?_)
      · refine J_b 1 am_d118 rfl ?_
        exact J_iret (am_d118 rfl) rfl rfl ⟨by rw [nc, if_neg hd], by rw [nc, if_neg hd], rfl⟩
      · refine J_b 4 am_d118 rfl ?_
        have hlt : a < n := by rw [q1, q2] at h17; exact Nat.lt_of_not_le (fun z => h17 ((nI_leq (by omega) (by omega)).mpr z))
        rw [q1]
        refine J_iald (am_d118 rfl) rfl (vp_in_nI (show a < 120 by omega) (by decide)) ?_
        rw [nI_c (n := a) (by omega)]
        show am_J X _ 118 29 _ (.int (M 111 a) :: _) _ N
        refine J_b 1 am_d118 rfl ?_
        refine J_icmp_lt 86 (am_d118 rfl) rfl (fun h31 => ?_) (fun h31 => ?_)
        · refine J_b 1 am_d118 rfl ?_
          exact J_iret (am_d118 rfl) rfl rfl ⟨by rw [nc, if_neg hd], by rw [nc, if_neg hd], rfl⟩
        · refine J_b 4 am_d118 rfl ?_
          rw [q1]
          refine J_iald (am_d118 rfl) rfl (vp_in_nI (show a < 120 by omega) (by decide)) ?_
          rw [nI_c (n := a) (by omega)]
          show am_J X _ 118 43 _ (.int (M 111 a) :: _) _ N
          refine J_b 1 am_d118 rfl ?_
          refine J_icmp_gt 86 (am_d118 rfl) rfl (fun h45 => ?_) (fun h45 => ?_)
          · refine J_b 1 am_d118 rfl ?_
            exact J_iret (am_d118 rfl) rfl rfl ⟨by rw [nc, if_neg hd], by rw [nc, if_neg hd], rfl⟩
          · exact absurd ⟨hlt, dg_lo2 h31, dg_hi2 h45⟩ hd
theorem sp118 {X : am_X} {M : am_M} {N : am_N} {n a : Nat} (hn : M 110 1 = nI n) (h120 : n ≤ 120) (ha : a ≤ n) : am_J X (am_eq (some (.int (nc (M 111) n 4 a (-1)).2)) (tp M (nc (M 111) n 4 a (-1)).1) N) 118 0 (am_en 118 [.ref 110]) [] (tp M a) N := by
  refine J_en (L := [.ref 110, .retAddr 0, .retAddr 0]) rfl ?_
  refine J_b 4 am_d118 rfl ?_
  exact lp118 hn h120 4 0 rfl _ rfl _ ha _
