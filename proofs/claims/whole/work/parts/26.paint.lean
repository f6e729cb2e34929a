/-! ===== paint, cell ===== -/
theorem upR_up {M : am_M} {k j : Nat} {r : Nat → Int32} {x : Int32} : am_up (am_upR M k r) k j x = am_upR M k (fun b => if b = j then x else r b) := by
  funext a b
  unfold am_up am_upR
  split <;> rfl
def pmF (a y : Nat) (v : Int32) (i : Nat) (p : (Nat → Int32) × Int32) : (Nat → Int32) × Int32 := ((fun j => if j = 6 * (a + i) + y then v else p.1 j), p.2 + (if p.1 (6 * (a + i) + y) = v then 0 else 1))
def pm (r : Nat → Int32) (a y : Nat) (v : Int32) (n : Nat) : (Nat → Int32) × Int32 := itr (pmF a y v) n (r, 0)
theorem pm_b {r : Nat → Int32} {a y : Nat} {v : Int32} {lo hi : Int} (hr : ∀ j, b_in (r j) lo hi) (hv : b_in v lo hi) : ∀ n j, b_in ((pm r a y v n).1 j) lo hi := by
  intro n
  induction n with
  | zero => exact hr
  | succ n ih =>
    intro j
    show b_in (if j = 6 * (a + n) + y then v else (pm r a y v n).1 j) lo hi
    split
    · exact hv
    · exact ih j
theorem pm_same {r : Nat → Int32} {j : Nat} {v : Int32} (h : r j = v) : (fun b => if b = j then v else r b) = r := by
  funext b
  split
  · subst_vars
    rfl
  · rfl
theorem pl_nI {x : Int32} {a y : Nat} (hx : x = nI a) : 6 * x + nI y = nI (6 * a + y) := by
  rw [hx, show (6 : Int32) = nI 6 from rfl, nI_mul, nI_add]
theorem lp15_0 {X : am_X} {M : am_M} {N : am_N} {r : Nat → Int32} {a b y : Nat} {v : Int32} (hr : M 3 = r) (hb : b < 10) (hy : y < 6) : ∀ (n i : Nat) (x o1 : Int32) (z : Value) (M1 : am_M), i + n = b + 1 - a → a ≤ b → x = nI (a + i) → o1 = (pm r a y v i).2 → M1 = am_upR M 3 (pm r a y v i).1 → am_J X (am_eq (some (.int (pm r a y v (b + 1 - a)).2)) (am_up (am_upR M 3 (pm r a y v (b + 1 - a)).1) 1 11 (M 1 11 + 1)) N) 15 6 [.ref 1, .int (nI a), .int (nI b), .int (nI y), .int (0 : Int32), .int v, .int o1, .int x, z] [] (M1) N := by
  intro n
  induction n with
  | zero =>
    intro i x o1 z M1 hn hab ex eo em
    subst em
    have e : i = b + 1 - a := by omega
    subst e
    subst eo
    have hx : nI b < x := by rw [ex]; exact nI_lt (by omega) (by omega)
    refine J_b 2 am_d15 rfl ?_
    refine J_icmp_gt 56 (am_d15 rfl) rfl (fun h9 => ?_) (fun h9 => absurd (hx) h9)
    refine J_b 5 am_d15 rfl ?_
    refine J_puti (am_d15 rfl) rfl ?_
    refine J_b 1 am_d15 rfl ?_
    exact J_iret (am_d15 rfl) rfl rfl ⟨rfl, rfl, rfl⟩
  | succ n ih =>
    intro i x o1 z M1 hn hab ex eo em
    subst em
    have hx : x = nI (a + i) := ex
    have hp := pl_nI (y := y) hx
    have hc : (nI (6 * (a + i) + y)).toNatClampNeg = 6 * (a + i) + y := nI_c (by omega)
    have hv : vp_in (nI (6 * (a + i) + y)) 60 := vp_in_nI (by omega) (by decide)
    have hlt : ¬ nI b < x := by rw [hx]; exact nI_nlt (by omega) (by omega)
    refine J_b 2 am_d15 rfl ?_
    refine J_icmp_gt 56 (am_d15 rfl) rfl (fun h9 => absurd h9 hlt) (fun h9 => ?_)
    refine J_b 2 am_d15 rfl ?_
    refine J_S2s 16 (am_d15 rfl) rfl rfl (sp16) ?_
    rw [hp]
    refine J_b 4 am_d15 rfl ?_
    refine J_aaldk 3 (am_d15 rfl) rfl (am_vi rfl) rfl ?_
    refine J_b 1 am_d15 rfl ?_
    refine J_iald (am_d15 rfl) rfl (hv) ?_
    refine J_b 1 am_d15 rfl ?_
    refine J_icmp_eq 50 (am_d15 rfl) rfl (fun h32 => ?_) (fun h32 => ?_)
    · refine J_b 2 am_d15 rfl ?_
      refine ih (i + 1) _ _ _ _ (by omega) hab (by rw [hx]; exact nI_1 (a + i)) ?_ ?_
      · show o1 = (pm r a y v i).2 + (if (pm r a y v i).1 (6 * (a + i) + y) = v then 0 else 1)
        rw [if_pos (by rw [hc] at h32; exact h32), eo]
        exact (Int32.add_zero _).symm
      · show am_upR M 3 (pm r a y v i).1 = am_upR M 3 (fun j => if j = 6 * (a + i) + y then v else (pm r a y v i).1 j)
        rw [pm_same (by rw [hc] at h32; exact h32)]
    · refine J_b 3 am_d15 rfl ?_
      refine J_aaldk 3 (am_d15 rfl) rfl (am_vi rfl) rfl ?_
      refine J_b 2 am_d15 rfl ?_
      refine J_iast (am_d15 rfl) rfl (hv) ?_
      refine J_b 3 am_d15 rfl ?_
      refine ih (i + 1) _ _ _ _ (by omega) hab (by rw [hx]; exact nI_1 (a + i)) ?_ ?_
      · show o1 + 1 = (pm r a y v i).2 + (if (pm r a y v i).1 (6 * (a + i) + y) = v then 0 else 1)
        rw [if_neg (by rw [hc] at h32; exact h32), eo]
      · rw [upR_up, hc]
        rfl
theorem sp15_0 {X : am_X} {M : am_M} {N : am_N} {a b y : Nat} {v : Int32} (hb : b < 10) (hy : y < 6) (hab : a ≤ b) : am_J X (am_eq (some (.int (pm (M 3) a y v (b + 1 - a)).2)) (am_up (am_upR M 3 (pm (M 3) a y v (b + 1 - a)).1) 1 11 (M 1 11 + 1)) N) 15 0 (am_en 15 [.ref 1, .int (nI a), .int (nI b), .int (nI y), .int (0 : Int32), .int v]) [] M N := by
  refine J_en (L := [.ref 1, .int (nI a), .int (nI b), .int (nI y), .int (0 : Int32), .int v, .retAddr 0, .retAddr 0, .retAddr 0]) rfl ?_
  refine J_b 4 am_d15 rfl ?_
  exact lp15_0 rfl hb hy (b + 1 - a) 0 _ _ _ _ (by omega) hab rfl rfl upR_id.symm
theorem sp142_0 {X : am_X} {M : am_M} {N : am_N} {p : Nat} (hp : p < 60) : am_J X (am_eq (some (.int (M 121 p))) (M) N) 142 0 (am_en 142 [.ref 120, .int (nI p), .int (0 : Int32)]) [] M N := by
  refine J_en (L := [.ref 120, .int (nI p), .int (0 : Int32)]) rfl ?_
  refine J_b 1 am_d142 rfl ?_
  refine J_if_ne 13 (am_d142 rfl) rfl (fun h1 => absurd rfl h1) (fun h1 => ?_)
  refine J_b 3 am_d142 rfl ?_
  refine J_iald (am_d142 rfl) rfl (vp_in_nI hp (by decide)) ?_
  refine J_b 1 am_d142 rfl ?_
  exact J_iret (am_d142 rfl) rfl rfl ⟨by rw [nI_c (by omega)], rfl, rfl⟩
theorem sp143_0 {X : am_X} {M : am_M} {N : am_N} {p : Nat} {v : Int32} (hp : p < 60) : am_J X (am_eq (none) (am_up M 121 p v) N) 143 0 (am_en 143 [.ref 120, .int (nI p), .int (0 : Int32), .int v]) [] M N := by
  refine J_en (L := [.ref 120, .int (nI p), .int (0 : Int32), .int v]) rfl ?_
  refine J_b 1 am_d143 rfl ?_
  refine J_if_ne 14 (am_d143 rfl) rfl (fun h1 => absurd rfl h1) (fun h1 => ?_)
  refine J_b 4 am_d143 rfl ?_
  refine J_iast (am_d143 rfl) rfl (vp_in_nI hp (by decide)) ?_
  refine J_b 1 am_d143 rfl ?_
  exact J_ret (am_d143 rfl) rfl ⟨rfl, by rw [nI_c (by omega)], rfl⟩
theorem lp15_1 {X : am_X} {M : am_M} {N : am_N} {r : Nat → Int32} {a b y : Nat} {v : Int32} (hr : M 4 = r) (hb : b < 10) (hy : y < 6) : ∀ (n i : Nat) (x o1 : Int32) (z : Value) (M1 : am_M), i + n = b + 1 - a → a ≤ b → x = nI (a + i) → o1 = (pm r a y v i).2 → M1 = am_upR M 4 (pm r a y v i).1 → am_J X (am_eq (some (.int (pm r a y v (b + 1 - a)).2)) (am_up (am_upR M 4 (pm r a y v (b + 1 - a)).1) 1 11 (M 1 11 + 1)) N) 15 6 [.ref 1, .int (nI a), .int (nI b), .int (nI y), .int (1 : Int32), .int v, .int o1, .int x, z] [] (M1) N := by
  intro n
  induction n with
  | zero =>
    intro i x o1 z M1 hn hab ex eo em
    subst em
    have e : i = b + 1 - a := by omega
    subst e
    subst eo
    have hx : nI b < x := by rw [ex]; exact nI_lt (by omega) (by omega)
    refine J_b 2 am_d15 rfl ?_
    refine J_icmp_gt 56 (am_d15 rfl) rfl (fun h9 => ?_) (fun h9 => absurd (hx) h9)
    refine J_b 5 am_d15 rfl ?_
    refine J_puti (am_d15 rfl) rfl ?_
    refine J_b 1 am_d15 rfl ?_
    exact J_iret (am_d15 rfl) rfl rfl ⟨rfl, rfl, rfl⟩
  | succ n ih =>
    intro i x o1 z M1 hn hab ex eo em
    subst em
    have hx : x = nI (a + i) := ex
    have hp := pl_nI (y := y) hx
    have hc : (nI (6 * (a + i) + y)).toNatClampNeg = 6 * (a + i) + y := nI_c (by omega)
    have hv : vp_in (nI (6 * (a + i) + y)) 60 := vp_in_nI (by omega) (by decide)
    have hlt : ¬ nI b < x := by rw [hx]; exact nI_nlt (by omega) (by omega)
    refine J_b 2 am_d15 rfl ?_
    refine J_icmp_gt 56 (am_d15 rfl) rfl (fun h9 => absurd h9 hlt) (fun h9 => ?_)
    refine J_b 2 am_d15 rfl ?_
    refine J_S2s 16 (am_d15 rfl) rfl rfl (sp16) ?_
    rw [hp]
    refine J_b 4 am_d15 rfl ?_
    refine J_aaldk 4 (am_d15 rfl) rfl (am_vi rfl) rfl ?_
    refine J_b 1 am_d15 rfl ?_
    refine J_iald (am_d15 rfl) rfl (hv) ?_
    refine J_b 1 am_d15 rfl ?_
    refine J_icmp_eq 50 (am_d15 rfl) rfl (fun h32 => ?_) (fun h32 => ?_)
    · refine J_b 2 am_d15 rfl ?_
      refine ih (i + 1) _ _ _ _ (by omega) hab (by rw [hx]; exact nI_1 (a + i)) ?_ ?_
      · show o1 = (pm r a y v i).2 + (if (pm r a y v i).1 (6 * (a + i) + y) = v then 0 else 1)
        rw [if_pos (by rw [hc] at h32; exact h32), eo]
        exact (Int32.add_zero _).symm
      · show am_upR M 4 (pm r a y v i).1 = am_upR M 4 (fun j => if j = 6 * (a + i) + y then v else (pm r a y v i).1 j)
        rw [pm_same (by rw [hc] at h32; exact h32)]
    · refine J_b 3 am_d15 rfl ?_
      refine J_aaldk 4 (am_d15 rfl) rfl (am_vi rfl) rfl ?_
      refine J_b 2 am_d15 rfl ?_
      refine J_iast (am_d15 rfl) rfl (hv) ?_
      refine J_b 3 am_d15 rfl ?_
      refine ih (i + 1) _ _ _ _ (by omega) hab (by rw [hx]; exact nI_1 (a + i)) ?_ ?_
      · show o1 + 1 = (pm r a y v i).2 + (if (pm r a y v i).1 (6 * (a + i) + y) = v then 0 else 1)
        rw [if_neg (by rw [hc] at h32; exact h32), eo]
      · rw [upR_up, hc]
        rfl
theorem sp15_1 {X : am_X} {M : am_M} {N : am_N} {a b y : Nat} {v : Int32} (hb : b < 10) (hy : y < 6) (hab : a ≤ b) : am_J X (am_eq (some (.int (pm (M 4) a y v (b + 1 - a)).2)) (am_up (am_upR M 4 (pm (M 4) a y v (b + 1 - a)).1) 1 11 (M 1 11 + 1)) N) 15 0 (am_en 15 [.ref 1, .int (nI a), .int (nI b), .int (nI y), .int (1 : Int32), .int v]) [] M N := by
  refine J_en (L := [.ref 1, .int (nI a), .int (nI b), .int (nI y), .int (1 : Int32), .int v, .retAddr 0, .retAddr 0, .retAddr 0]) rfl ?_
  refine J_b 4 am_d15 rfl ?_
  exact lp15_1 rfl hb hy (b + 1 - a) 0 _ _ _ _ (by omega) hab rfl rfl upR_id.symm
theorem sp142_1 {X : am_X} {M : am_M} {N : am_N} {p : Nat} (hp : p < 60) : am_J X (am_eq (some (.int (M 122 p))) (M) N) 142 0 (am_en 142 [.ref 120, .int (nI p), .int (1 : Int32)]) [] M N := by
  refine J_en (L := [.ref 120, .int (nI p), .int (1 : Int32)]) rfl ?_
  refine J_b 1 am_d142 rfl ?_
  refine J_if_ne 13 (am_d142 rfl) rfl (fun h1 => ?_) (fun h1 => absurd h1 (by decide))
  refine J_b 2 am_d142 rfl ?_
  refine J_icmp_ne 27 (am_d142 rfl) rfl (fun h15 => absurd rfl h15) (fun h15 => ?_)
  refine J_b 3 am_d142 rfl ?_
  refine J_iald (am_d142 rfl) rfl (vp_in_nI hp (by decide)) ?_
  refine J_b 1 am_d142 rfl ?_
  exact J_iret (am_d142 rfl) rfl rfl ⟨by rw [nI_c (by omega)], rfl, rfl⟩
theorem sp143_1 {X : am_X} {M : am_M} {N : am_N} {p : Nat} {v : Int32} (hp : p < 60) : am_J X (am_eq (none) (am_up M 122 p v) N) 143 0 (am_en 143 [.ref 120, .int (nI p), .int (1 : Int32), .int v]) [] M N := by
  refine J_en (L := [.ref 120, .int (nI p), .int (1 : Int32), .int v]) rfl ?_
  refine J_b 1 am_d143 rfl ?_
  refine J_if_ne 14 (am_d143 rfl) rfl (fun h1 => ?_) (fun h1 => absurd h1 (by decide))
  refine J_b 2 am_d143 rfl ?_
  refine J_icmp_ne 29 (am_d143 rfl) rfl (fun h16 => absurd rfl h16) (fun h16 => ?_)
  refine J_b 4 am_d143 rfl ?_
  refine J_iast (am_d143 rfl) rfl (vp_in_nI hp (by decide)) ?_
  refine J_b 1 am_d143 rfl ?_
  exact J_ret (am_d143 rfl) rfl ⟨rfl, by rw [nI_c (by omega)], rfl⟩
theorem lp15_2 {X : am_X} {M : am_M} {N : am_N} {r : Nat → Int32} {a b y : Nat} {v : Int32} (hr : M 5 = r) (hb : b < 10) (hy : y < 6) : ∀ (n i : Nat) (x o1 : Int32) (z : Value) (M1 : am_M), i + n = b + 1 - a → a ≤ b → x = nI (a + i) → o1 = (pm r a y v i).2 → M1 = am_upR M 5 (pm r a y v i).1 → am_J X (am_eq (some (.int (pm r a y v (b + 1 - a)).2)) (am_up (am_upR M 5 (pm r a y v (b + 1 - a)).1) 1 11 (M 1 11 + 1)) N) 15 6 [.ref 1, .int (nI a), .int (nI b), .int (nI y), .int (2 : Int32), .int v, .int o1, .int x, z] [] (M1) N := by
  intro n
  induction n with
  | zero =>
    intro i x o1 z M1 hn hab ex eo em
    subst em
    have e : i = b + 1 - a := by omega
    subst e
    subst eo
    have hx : nI b < x := by rw [ex]; exact nI_lt (by omega) (by omega)
    refine J_b 2 am_d15 rfl ?_
    refine J_icmp_gt 56 (am_d15 rfl) rfl (fun h9 => ?_) (fun h9 => absurd (hx) h9)
    refine J_b 5 am_d15 rfl ?_
    refine J_puti (am_d15 rfl) rfl ?_
    refine J_b 1 am_d15 rfl ?_
    exact J_iret (am_d15 rfl) rfl rfl ⟨rfl, rfl, rfl⟩
  | succ n ih =>
    intro i x o1 z M1 hn hab ex eo em
    subst em
    have hx : x = nI (a + i) := ex
    have hp := pl_nI (y := y) hx
    have hc : (nI (6 * (a + i) + y)).toNatClampNeg = 6 * (a + i) + y := nI_c (by omega)
    have hv : vp_in (nI (6 * (a + i) + y)) 60 := vp_in_nI (by omega) (by decide)
    have hlt : ¬ nI b < x := by rw [hx]; exact nI_nlt (by omega) (by omega)
    refine J_b 2 am_d15 rfl ?_
    refine J_icmp_gt 56 (am_d15 rfl) rfl (fun h9 => absurd h9 hlt) (fun h9 => ?_)
    refine J_b 2 am_d15 rfl ?_
    refine J_S2s 16 (am_d15 rfl) rfl rfl (sp16) ?_
    rw [hp]
    refine J_b 4 am_d15 rfl ?_
    refine J_aaldk 5 (am_d15 rfl) rfl (am_vi rfl) rfl ?_
    refine J_b 1 am_d15 rfl ?_
    refine J_iald (am_d15 rfl) rfl (hv) ?_
    refine J_b 1 am_d15 rfl ?_
    refine J_icmp_eq 50 (am_d15 rfl) rfl (fun h32 => ?_) (fun h32 => ?_)
    · refine J_b 2 am_d15 rfl ?_
      refine ih (i + 1) _ _ _ _ (by omega) hab (by rw [hx]; exact nI_1 (a + i)) ?_ ?_
      · show o1 = (pm r a y v i).2 + (if (pm r a y v i).1 (6 * (a + i) + y) = v then 0 else 1)
        rw [if_pos (by rw [hc] at h32; exact h32), eo]
        exact (Int32.add_zero _).symm
      · show am_upR M 5 (pm r a y v i).1 = am_upR M 5 (fun j => if j = 6 * (a + i) + y then v else (pm r a y v i).1 j)
        rw [pm_same (by rw [hc] at h32; exact h32)]
    · refine J_b 3 am_d15 rfl ?_
      refine J_aaldk 5 (am_d15 rfl) rfl (am_vi rfl) rfl ?_
      refine J_b 2 am_d15 rfl ?_
      refine J_iast (am_d15 rfl) rfl (hv) ?_
      refine J_b 3 am_d15 rfl ?_
      refine ih (i + 1) _ _ _ _ (by omega) hab (by rw [hx]; exact nI_1 (a + i)) ?_ ?_
      · show o1 + 1 = (pm r a y v i).2 + (if (pm r a y v i).1 (6 * (a + i) + y) = v then 0 else 1)
        rw [if_neg (by rw [hc] at h32; exact h32), eo]
      · rw [upR_up, hc]
        rfl
theorem sp15_2 {X : am_X} {M : am_M} {N : am_N} {a b y : Nat} {v : Int32} (hb : b < 10) (hy : y < 6) (hab : a ≤ b) : am_J X (am_eq (some (.int (pm (M 5) a y v (b + 1 - a)).2)) (am_up (am_upR M 5 (pm (M 5) a y v (b + 1 - a)).1) 1 11 (M 1 11 + 1)) N) 15 0 (am_en 15 [.ref 1, .int (nI a), .int (nI b), .int (nI y), .int (2 : Int32), .int v]) [] M N := by
  refine J_en (L := [.ref 1, .int (nI a), .int (nI b), .int (nI y), .int (2 : Int32), .int v, .retAddr 0, .retAddr 0, .retAddr 0]) rfl ?_
  refine J_b 4 am_d15 rfl ?_
  exact lp15_2 rfl hb hy (b + 1 - a) 0 _ _ _ _ (by omega) hab rfl rfl upR_id.symm
theorem sp142_2 {X : am_X} {M : am_M} {N : am_N} {p : Nat} (hp : p < 60) : am_J X (am_eq (some (.int (M 123 p))) (M) N) 142 0 (am_en 142 [.ref 120, .int (nI p), .int (2 : Int32)]) [] M N := by
  refine J_en (L := [.ref 120, .int (nI p), .int (2 : Int32)]) rfl ?_
  refine J_b 1 am_d142 rfl ?_
  refine J_if_ne 13 (am_d142 rfl) rfl (fun h1 => ?_) (fun h1 => absurd h1 (by decide))
  refine J_b 2 am_d142 rfl ?_
  refine J_icmp_ne 27 (am_d142 rfl) rfl (fun h15 => ?_) (fun h15 => absurd h15 (by decide))
  refine J_b 2 am_d142 rfl ?_
  refine J_icmp_ne 41 (am_d142 rfl) rfl (fun h29 => absurd rfl h29) (fun h29 => ?_)
  refine J_b 3 am_d142 rfl ?_
  refine J_iald (am_d142 rfl) rfl (vp_in_nI hp (by decide)) ?_
  refine J_b 1 am_d142 rfl ?_
  exact J_iret (am_d142 rfl) rfl rfl ⟨by rw [nI_c (by omega)], rfl, rfl⟩
theorem sp143_2 {X : am_X} {M : am_M} {N : am_N} {p : Nat} {v : Int32} (hp : p < 60) : am_J X (am_eq (none) (am_up M 123 p v) N) 143 0 (am_en 143 [.ref 120, .int (nI p), .int (2 : Int32), .int v]) [] M N := by
  refine J_en (L := [.ref 120, .int (nI p), .int (2 : Int32), .int v]) rfl ?_
  refine J_b 1 am_d143 rfl ?_
  refine J_if_ne 14 (am_d143 rfl) rfl (fun h1 => ?_) (fun h1 => absurd h1 (by decide))
  refine J_b 2 am_d143 rfl ?_
  refine J_icmp_ne 29 (am_d143 rfl) rfl (fun h16 => ?_) (fun h16 => absurd h16 (by decide))
  refine J_b 2 am_d143 rfl ?_
  refine J_icmp_ne 44 (am_d143 rfl) rfl (fun h31 => absurd rfl h31) (fun h31 => ?_)
  refine J_b 4 am_d143 rfl ?_
  refine J_iast (am_d143 rfl) rfl (vp_in_nI hp (by decide)) ?_
  refine J_b 1 am_d143 rfl ?_
  exact J_ret (am_d143 rfl) rfl ⟨rfl, by rw [nI_c (by omega)], rfl⟩
theorem lp15_3 {X : am_X} {M : am_M} {N : am_N} {r : Nat → Int32} {a b y : Nat} {v : Int32} (hr : M 6 = r) (hb : b < 10) (hy : y < 6) : ∀ (n i : Nat) (x o1 : Int32) (z : Value) (M1 : am_M), i + n = b + 1 - a → a ≤ b → x = nI (a + i) → o1 = (pm r a y v i).2 → M1 = am_upR M 6 (pm r a y v i).1 → am_J X (am_eq (some (.int (pm r a y v (b + 1 - a)).2)) (am_up (am_upR M 6 (pm r a y v (b + 1 - a)).1) 1 11 (M 1 11 + 1)) N) 15 6 [.ref 1, .int (nI a), .int (nI b), .int (nI y), .int (3 : Int32), .int v, .int o1, .int x, z] [] (M1) N := by
  intro n
  induction n with
  | zero =>
    intro i x o1 z M1 hn hab ex eo em
    subst em
    have e : i = b + 1 - a := by omega
    subst e
    subst eo
    have hx : nI b < x := by rw [ex]; exact nI_lt (by omega) (by omega)
    refine J_b 2 am_d15 rfl ?_
    refine J_icmp_gt 56 (am_d15 rfl) rfl (fun h9 => ?_) (fun h9 => absurd (hx) h9)
    refine J_b 5 am_d15 rfl ?_
    refine J_puti (am_d15 rfl) rfl ?_
    refine J_b 1 am_d15 rfl ?_
    exact J_iret (am_d15 rfl) rfl rfl ⟨rfl, rfl, rfl⟩
  | succ n ih =>
    intro i x o1 z M1 hn hab ex eo em
    subst em
    have hx : x = nI (a + i) := ex
    have hp := pl_nI (y := y) hx
    have hc : (nI (6 * (a + i) + y)).toNatClampNeg = 6 * (a + i) + y := nI_c (by omega)
    have hv : vp_in (nI (6 * (a + i) + y)) 60 := vp_in_nI (by omega) (by decide)
    have hlt : ¬ nI b < x := by rw [hx]; exact nI_nlt (by omega) (by omega)
    refine J_b 2 am_d15 rfl ?_
    refine J_icmp_gt 56 (am_d15 rfl) rfl (fun h9 => absurd h9 hlt) (fun h9 => ?_)
    refine J_b 2 am_d15 rfl ?_
    refine J_S2s 16 (am_d15 rfl) rfl rfl (sp16) ?_
    rw [hp]
    refine J_b 4 am_d15 rfl ?_
    refine J_aaldk 6 (am_d15 rfl) rfl (am_vi rfl) rfl ?_
    refine J_b 1 am_d15 rfl ?_
    refine J_iald (am_d15 rfl) rfl (hv) ?_
    refine J_b 1 am_d15 rfl ?_
    refine J_icmp_eq 50 (am_d15 rfl) rfl (fun h32 => ?_) (fun h32 => ?_)
    · refine J_b 2 am_d15 rfl ?_
      refine ih (i + 1) _ _ _ _ (by omega) hab (by rw [hx]; exact nI_1 (a + i)) ?_ ?_
      · show o1 = (pm r a y v i).2 + (if (pm r a y v i).1 (6 * (a + i) + y) = v then 0 else 1)
        rw [if_pos (by rw [hc] at h32; exact h32), eo]
        exact (Int32.add_zero _).symm
      · show am_upR M 6 (pm r a y v i).1 = am_upR M 6 (fun j => if j = 6 * (a + i) + y then v else (pm r a y v i).1 j)
        rw [pm_same (by rw [hc] at h32; exact h32)]
    · refine J_b 3 am_d15 rfl ?_
      refine J_aaldk 6 (am_d15 rfl) rfl (am_vi rfl) rfl ?_
      refine J_b 2 am_d15 rfl ?_
      refine J_iast (am_d15 rfl) rfl (hv) ?_
      refine J_b 3 am_d15 rfl ?_
      refine ih (i + 1) _ _ _ _ (by omega) hab (by rw [hx]; exact nI_1 (a + i)) ?_ ?_
      · show o1 + 1 = (pm r a y v i).2 + (if (pm r a y v i).1 (6 * (a + i) + y) = v then 0 else 1)
        rw [if_neg (by rw [hc] at h32; exact h32), eo]
      · rw [upR_up, hc]
        rfl
theorem sp15_3 {X : am_X} {M : am_M} {N : am_N} {a b y : Nat} {v : Int32} (hb : b < 10) (hy : y < 6) (hab : a ≤ b) : am_J X (am_eq (some (.int (pm (M 6) a y v (b + 1 - a)).2)) (am_up (am_upR M 6 (pm (M 6) a y v (b + 1 - a)).1) 1 11 (M 1 11 + 1)) N) 15 0 (am_en 15 [.ref 1, .int (nI a), .int (nI b), .int (nI y), .int (3 : Int32), .int v]) [] M N := by
  refine J_en (L := [.ref 1, .int (nI a), .int (nI b), .int (nI y), .int (3 : Int32), .int v, .retAddr 0, .retAddr 0, .retAddr 0]) rfl ?_
  refine J_b 4 am_d15 rfl ?_
  exact lp15_3 rfl hb hy (b + 1 - a) 0 _ _ _ _ (by omega) hab rfl rfl upR_id.symm
theorem sp142_3 {X : am_X} {M : am_M} {N : am_N} {p : Nat} (hp : p < 60) : am_J X (am_eq (some (.int (M 124 p))) (M) N) 142 0 (am_en 142 [.ref 120, .int (nI p), .int (3 : Int32)]) [] M N := by
  refine J_en (L := [.ref 120, .int (nI p), .int (3 : Int32)]) rfl ?_
  refine J_b 1 am_d142 rfl ?_
  refine J_if_ne 13 (am_d142 rfl) rfl (fun h1 => ?_) (fun h1 => absurd h1 (by decide))
  refine J_b 2 am_d142 rfl ?_
  refine J_icmp_ne 27 (am_d142 rfl) rfl (fun h15 => ?_) (fun h15 => absurd h15 (by decide))
  refine J_b 2 am_d142 rfl ?_
  refine J_icmp_ne 41 (am_d142 rfl) rfl (fun h29 => ?_) (fun h29 => absurd h29 (by decide))
  refine J_b 2 am_d142 rfl ?_
  refine J_icmp_ne 55 (am_d142 rfl) rfl (fun h43 => absurd rfl h43) (fun h43 => ?_)
  refine J_b 3 am_d142 rfl ?_
  refine J_iald (am_d142 rfl) rfl (vp_in_nI hp (by decide)) ?_
  refine J_b 1 am_d142 rfl ?_
  exact J_iret (am_d142 rfl) rfl rfl ⟨by rw [nI_c (by omega)], rfl, rfl⟩
theorem sp143_3 {X : am_X} {M : am_M} {N : am_N} {p : Nat} {v : Int32} (hp : p < 60) : am_J X (am_eq (none) (am_up M 124 p v) N) 143 0 (am_en 143 [.ref 120, .int (nI p), .int (3 : Int32), .int v]) [] M N := by
  refine J_en (L := [.ref 120, .int (nI p), .int (3 : Int32), .int v]) rfl ?_
  refine J_b 1 am_d143 rfl ?_
  refine J_if_ne 14 (am_d143 rfl) rfl (fun h1 => ?_) (fun h1 => absurd h1 (by decide))
  refine J_b 2 am_d143 rfl ?_
  refine J_icmp_ne 29 (am_d143 rfl) rfl (fun h16 => ?_) (fun h16 => absurd h16 (by decide))
  refine J_b 2 am_d143 rfl ?_
  refine J_icmp_ne 44 (am_d143 rfl) rfl (fun h31 => ?_) (fun h31 => absurd h31 (by decide))
  refine J_b 2 am_d143 rfl ?_
  refine J_icmp_ne 59 (am_d143 rfl) rfl (fun h46 => absurd rfl h46) (fun h46 => ?_)
  refine J_b 4 am_d143 rfl ?_
  refine J_iast (am_d143 rfl) rfl (vp_in_nI hp (by decide)) ?_
  refine J_b 1 am_d143 rfl ?_
  exact J_ret (am_d143 rfl) rfl ⟨rfl, by rw [nI_c (by omega)], rfl⟩
theorem lp15_4 {X : am_X} {M : am_M} {N : am_N} {r : Nat → Int32} {a b y : Nat} {v : Int32} (hr : M 7 = r) (hb : b < 10) (hy : y < 6) : ∀ (n i : Nat) (x o1 : Int32) (z : Value) (M1 : am_M), i + n = b + 1 - a → a ≤ b → x = nI (a + i) → o1 = (pm r a y v i).2 → M1 = am_upR M 7 (pm r a y v i).1 → am_J X (am_eq (some (.int (pm r a y v (b + 1 - a)).2)) (am_up (am_upR M 7 (pm r a y v (b + 1 - a)).1) 1 11 (M 1 11 + 1)) N) 15 6 [.ref 1, .int (nI a), .int (nI b), .int (nI y), .int (4 : Int32), .int v, .int o1, .int x, z] [] (M1) N := by
  intro n
  induction n with
  | zero =>
    intro i x o1 z M1 hn hab ex eo em
    subst em
    have e : i = b + 1 - a := by omega
    subst e
    subst eo
    have hx : nI b < x := by rw [ex]; exact nI_lt (by omega) (by omega)
    refine J_b 2 am_d15 rfl ?_
    refine J_icmp_gt 56 (am_d15 rfl) rfl (fun h9 => ?_) (fun h9 => absurd (hx) h9)
    refine J_b 5 am_d15 rfl ?_
    refine J_puti (am_d15 rfl) rfl ?_
    refine J_b 1 am_d15 rfl ?_
    exact J_iret (am_d15 rfl) rfl rfl ⟨rfl, rfl, rfl⟩
  | succ n ih =>
    intro i x o1 z M1 hn hab ex eo em
    subst em
    have hx : x = nI (a + i) := ex
    have hp := pl_nI (y := y) hx
    have hc : (nI (6 * (a + i) + y)).toNatClampNeg = 6 * (a + i) + y := nI_c (by omega)
    have hv : vp_in (nI (6 * (a + i) + y)) 60 := vp_in_nI (by omega) (by decide)
    have hlt : ¬ nI b < x := by rw [hx]; exact nI_nlt (by omega) (by omega)
    refine J_b 2 am_d15 rfl ?_
    refine J_icmp_gt 56 (am_d15 rfl) rfl (fun h9 => absurd h9 hlt) (fun h9 => ?_)
    refine J_b 2 am_d15 rfl ?_
    refine J_S2s 16 (am_d15 rfl) rfl rfl (sp16) ?_
    rw [hp]
    refine J_b 4 am_d15 rfl ?_
    refine J_aaldk 7 (am_d15 rfl) rfl (am_vi rfl) rfl ?_
    refine J_b 1 am_d15 rfl ?_
    refine J_iald (am_d15 rfl) rfl (hv) ?_
    refine J_b 1 am_d15 rfl ?_
    refine J_icmp_eq 50 (am_d15 rfl) rfl (fun h32 => ?_) (fun h32 => ?_)
    · refine J_b 2 am_d15 rfl ?_
      refine ih (i + 1) _ _ _ _ (by omega) hab (by rw [hx]; exact nI_1 (a + i)) ?_ ?_
      · show o1 = (pm r a y v i).2 + (if (pm r a y v i).1 (6 * (a + i) + y) = v then 0 else 1)
        rw [if_pos (by rw [hc] at h32; exact h32), eo]
        exact (Int32.add_zero _).symm
      · show am_upR M 7 (pm r a y v i).1 = am_upR M 7 (fun j => if j = 6 * (a + i) + y then v else (pm r a y v i).1 j)
        rw [pm_same (by rw [hc] at h32; exact h32)]
    · refine J_b 3 am_d15 rfl ?_
      refine J_aaldk 7 (am_d15 rfl) rfl (am_vi rfl) rfl ?_
      refine J_b 2 am_d15 rfl ?_
      refine J_iast (am_d15 rfl) rfl (hv) ?_
      refine J_b 3 am_d15 rfl ?_
      refine ih (i + 1) _ _ _ _ (by omega) hab (by rw [hx]; exact nI_1 (a + i)) ?_ ?_
      · show o1 + 1 = (pm r a y v i).2 + (if (pm r a y v i).1 (6 * (a + i) + y) = v then 0 else 1)
        rw [if_neg (by rw [hc] at h32; exact h32), eo]
      · rw [upR_up, hc]
        rfl
theorem sp15_4 {X : am_X} {M : am_M} {N : am_N} {a b y : Nat} {v : Int32} (hb : b < 10) (hy : y < 6) (hab : a ≤ b) : am_J X (am_eq (some (.int (pm (M 7) a y v (b + 1 - a)).2)) (am_up (am_upR M 7 (pm (M 7) a y v (b + 1 - a)).1) 1 11 (M 1 11 + 1)) N) 15 0 (am_en 15 [.ref 1, .int (nI a), .int (nI b), .int (nI y), .int (4 : Int32), .int v]) [] M N := by
  refine J_en (L := [.ref 1, .int (nI a), .int (nI b), .int (nI y), .int (4 : Int32), .int v, .retAddr 0, .retAddr 0, .retAddr 0]) rfl ?_
  refine J_b 4 am_d15 rfl ?_
  exact lp15_4 rfl hb hy (b + 1 - a) 0 _ _ _ _ (by omega) hab rfl rfl upR_id.symm
theorem sp142_4 {X : am_X} {M : am_M} {N : am_N} {p : Nat} (hp : p < 60) : am_J X (am_eq (some (.int (M 125 p))) (M) N) 142 0 (am_en 142 [.ref 120, .int (nI p), .int (4 : Int32)]) [] M N := by
  refine J_en (L := [.ref 120, .int (nI p), .int (4 : Int32)]) rfl ?_
  refine J_b 1 am_d142 rfl ?_
  refine J_if_ne 13 (am_d142 rfl) rfl (fun h1 => ?_) (fun h1 => absurd h1 (by decide))
  refine J_b 2 am_d142 rfl ?_
  refine J_icmp_ne 27 (am_d142 rfl) rfl (fun h15 => ?_) (fun h15 => absurd h15 (by decide))
  refine J_b 2 am_d142 rfl ?_
  refine J_icmp_ne 41 (am_d142 rfl) rfl (fun h29 => ?_) (fun h29 => absurd h29 (by decide))
  refine J_b 2 am_d142 rfl ?_
  refine J_icmp_ne 55 (am_d142 rfl) rfl (fun h43 => ?_) (fun h43 => absurd h43 (by decide))
  refine J_b 3 am_d142 rfl ?_
  refine J_iald (am_d142 rfl) rfl (vp_in_nI hp (by decide)) ?_
  exact J_iret (am_d142 rfl) rfl rfl ⟨by rw [nI_c (by omega)], rfl, rfl⟩
theorem sp143_4 {X : am_X} {M : am_M} {N : am_N} {p : Nat} {v : Int32} (hp : p < 60) : am_J X (am_eq (none) (am_up M 125 p v) N) 143 0 (am_en 143 [.ref 120, .int (nI p), .int (4 : Int32), .int v]) [] M N := by
  refine J_en (L := [.ref 120, .int (nI p), .int (4 : Int32), .int v]) rfl ?_
  refine J_b 1 am_d143 rfl ?_
  refine J_if_ne 14 (am_d143 rfl) rfl (fun h1 => ?_) (fun h1 => absurd h1 (by decide))
  refine J_b 2 am_d143 rfl ?_
  refine J_icmp_ne 29 (am_d143 rfl) rfl (fun h16 => ?_) (fun h16 => absurd h16 (by decide))
  refine J_b 2 am_d143 rfl ?_
  refine J_icmp_ne 44 (am_d143 rfl) rfl (fun h31 => ?_) (fun h31 => absurd h31 (by decide))
  refine J_b 2 am_d143 rfl ?_
  refine J_icmp_ne 59 (am_d143 rfl) rfl (fun h46 => ?_) (fun h46 => absurd h46 (by decide))
  refine J_b 4 am_d143 rfl ?_
  refine J_iast (am_d143 rfl) rfl (vp_in_nI hp (by decide)) ?_
  exact J_ret (am_d143 rfl) rfl ⟨rfl, by rw [nI_c (by omega)], rfl⟩
