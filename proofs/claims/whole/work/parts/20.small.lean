/-! ===== numbers; small methods of both sides ===== -/
theorem am_vi {x : Int32} {n : Nat} (h : (decide (0 ≤ x.toInt) && decide (x.toInt < n)) = true) : vp_in x n := by
  simp only [Bool.and_eq_true, decide_eq_true_eq] at h
  exact vp_in_iff.mpr h
theorem J_aaldk {X : am_X} {Q : am_Q} {i pc : Nat} {L S : am_V} {M : am_M} {N : am_N} {k n : Nat} {x : Int32} (k2 : Nat) (d : am_in i pc = some (.aaload, 1)) (hk : am_SH[k]? = some (.inl (2, n))) (hi : vp_in x n) (h2 : k + 1 + x.toNatClampNeg = k2) (kk : am_J X Q i (pc + 1) L (.ref k2 :: S) M N) : am_J X Q i pc L (.int x :: .ref k :: S) M N := by
  subst h2
  exact J_aald d hk hi kk
def am_bi (P : Prop) [Decidable P] : Int32 := if P then 1 else 0
theorem am_bi0 {P : Prop} [Decidable P] : am_bi P = 0 ↔ ¬ P := by
  unfold am_bi
  split <;> simp [*]
theorem am_bi1 {P : Prop} [Decidable P] : ¬ am_bi P = 0 ↔ P := by
  unfold am_bi
  split <;> simp [*]
theorem am_bin {P : Prop} [Decidable P] : narrow .boolean (.int (am_bi P)) = .int (am_bi P) := by
  unfold am_bi
  split <;> rfl
theorem am_bit {P : Prop} [Decidable P] (h : P) : am_bi P = 1 := if_pos h
theorem am_bif {P : Prop} [Decidable P] (h : ¬ P) : am_bi P = 0 := if_neg h
theorem lc_lt {x y : Int64} : lg_cmp x y < 0 ↔ x < y := by
  unfold lg_cmp
  simp only [gt_iff_lt, Int64.lt_iff_toInt_lt, ← Int64.toInt_inj]
  split
  · rename_i h
    simp
    omega
  · split
    · rename_i h1 h2
      simp
      omega
    · rename_i h1 h2
      simp
      omega
theorem lc_gt {x y : Int64} : 0 < lg_cmp x y ↔ y < x := by
  unfold lg_cmp
  split
  · rename_i h
    simp [h]
  · split
    · rename_i h1 h2
      simp [h1]
    · rename_i h1 h2
      simp [h1]
theorem sp12 {X : am_X} {M : am_M} {N : am_N} {x y : Int32} : am_J X (am_eq (some (.int (am_bi ((0 ≤ x.toInt ∧ x.toInt < 10) ∧ 0 ≤ y.toInt ∧ y.toInt < 6)))) (M) N) 12 0 (am_en 12 [.int x, .int y]) [] M N := by
  refine J_b 1 am_d12 rfl ?_
  refine J_if_lt 24 (am_d12 rfl) rfl (fun h1 => ?_) (fun h1 => ?_)
  · refine J_b 1 am_d12 rfl ?_
    exact J_iret (am_d12 rfl) rfl rfl ⟨by congr 2; simp [am_bi, Int32.lt_iff_toInt_lt, Int32.le_iff_toInt_le] at *; omega, rfl, rfl⟩
  · refine J_b 2 am_d12 rfl ?_
    refine J_icmp_ge 24 (am_d12 rfl) rfl (fun h7 => ?_) (fun h7 => ?_)
    · refine J_b 1 am_d12 rfl ?_
      exact J_iret (am_d12 rfl) rfl rfl ⟨by congr 2; simp [am_bi, Int32.lt_iff_toInt_lt, Int32.le_iff_toInt_le] at *; omega, rfl, rfl⟩
    · refine J_b 1 am_d12 rfl ?_
      refine J_if_lt 24 (am_d12 rfl) rfl (fun h11 => ?_) (fun h11 => ?_)
      · refine J_b 1 am_d12 rfl ?_
        exact J_iret (am_d12 rfl) rfl rfl ⟨by congr 2; simp [am_bi, Int32.lt_iff_toInt_lt, Int32.le_iff_toInt_le] at *; omega, rfl, rfl⟩
      · refine J_b 2 am_d12 rfl ?_
        refine J_icmp_ge 24 (am_d12 rfl) rfl (fun h17 => ?_) (fun h17 => ?_)
        · refine J_b 1 am_d12 rfl ?_
          exact J_iret (am_d12 rfl) rfl rfl ⟨by congr 2; simp [am_bi, Int32.lt_iff_toInt_lt, Int32.le_iff_toInt_le] at *; omega, rfl, rfl⟩
        · refine J_b 2 am_d12 rfl ?_
          exact J_iret (am_d12 rfl) rfl rfl ⟨by congr 2; simp [am_bi, Int32.lt_iff_toInt_lt, Int32.le_iff_toInt_le] at *; omega, rfl, rfl⟩
theorem sp139 {X : am_X} {M : am_M} {N : am_N} {x y : Int32} : am_J X (am_eq (some (.int (am_bi ((0 ≤ x.toInt ∧ x.toInt < 10) ∧ 0 ≤ y.toInt ∧ y.toInt < 6)))) (M) N) 139 0 (am_en 139 [.int x, .int y]) [] M N := by
  refine J_b 1 am_d139 rfl ?_
  refine J_if_lt 24 (am_d139 rfl) rfl (fun h1 => ?_) (fun h1 => ?_)
  · refine J_b 1 am_d139 rfl ?_
    exact J_iret (am_d139 rfl) rfl rfl ⟨by congr 2; simp [am_bi, Int32.lt_iff_toInt_lt, Int32.le_iff_toInt_le] at *; omega, rfl, rfl⟩
  · refine J_b 2 am_d139 rfl ?_
    refine J_icmp_ge 24 (am_d139 rfl) rfl (fun h7 => ?_) (fun h7 => ?_)
    · refine J_b 1 am_d139 rfl ?_
      exact J_iret (am_d139 rfl) rfl rfl ⟨by congr 2; simp [am_bi, Int32.lt_iff_toInt_lt, Int32.le_iff_toInt_le] at *; omega, rfl, rfl⟩
    · refine J_b 1 am_d139 rfl ?_
      refine J_if_lt 24 (am_d139 rfl) rfl (fun h11 => ?_) (fun h11 => ?_)
      · refine J_b 1 am_d139 rfl ?_
        exact J_iret (am_d139 rfl) rfl rfl ⟨by congr 2; simp [am_bi, Int32.lt_iff_toInt_lt, Int32.le_iff_toInt_le] at *; omega, rfl, rfl⟩
      · refine J_b 2 am_d139 rfl ?_
        refine J_icmp_ge 24 (am_d139 rfl) rfl (fun h17 => ?_) (fun h17 => ?_)
        · refine J_b 1 am_d139 rfl ?_
          exact J_iret (am_d139 rfl) rfl rfl ⟨by congr 2; simp [am_bi, Int32.lt_iff_toInt_lt, Int32.le_iff_toInt_le] at *; omega, rfl, rfl⟩
        · refine J_b 2 am_d139 rfl ?_
          exact J_iret (am_d139 rfl) rfl rfl ⟨by congr 2; simp [am_bi, Int32.lt_iff_toInt_lt, Int32.le_iff_toInt_le] at *; omega, rfl, rfl⟩
theorem sp13 {X : am_X} {M : am_M} {N : am_N} {x y : Int32} : am_J X (am_eq (some (.int (am_bi (0 ≤ x.toInt ∧ x.toInt < y.toInt)))) (M) N) 13 0 (am_en 13 [.int x, .int y]) [] M N := by
  refine J_b 1 am_d13 rfl ?_
  refine J_if_lt 13 (am_d13 rfl) rfl (fun h1 => ?_) (fun h1 => ?_)
  · refine J_b 1 am_d13 rfl ?_
    exact J_iret (am_d13 rfl) rfl rfl ⟨by congr 2; simp [am_bi, Int32.lt_iff_toInt_lt, Int32.le_iff_toInt_le] at *; omega, rfl, rfl⟩
  · refine J_b 2 am_d13 rfl ?_
    refine J_icmp_ge 13 (am_d13 rfl) rfl (fun h6 => ?_) (fun h6 => ?_)
    · refine J_b 1 am_d13 rfl ?_
      exact J_iret (am_d13 rfl) rfl rfl ⟨by congr 2; simp [am_bi, Int32.lt_iff_toInt_lt, Int32.le_iff_toInt_le] at *; omega, rfl, rfl⟩
    · refine J_b 2 am_d13 rfl ?_
      exact J_iret (am_d13 rfl) rfl rfl ⟨by congr 2; simp [am_bi, Int32.lt_iff_toInt_lt, Int32.le_iff_toInt_le] at *; omega, rfl, rfl⟩
theorem sp14 {X : am_X} {M : am_M} {N : am_N} {x y z : Int32} : am_J X (am_eq (some (.int (am_bi (y.toInt ≤ x.toInt ∧ x.toInt ≤ z.toInt)))) (M) N) 14 0 (am_en 14 [.int x, .int y, .int z]) [] M N := by
  refine J_b 2 am_d14 rfl ?_
  refine J_icmp_lt 14 (am_d14 rfl) rfl (fun h2 => ?_) (fun h2 => ?_)
  · refine J_b 1 am_d14 rfl ?_
    exact J_iret (am_d14 rfl) rfl rfl ⟨by congr 2; simp [am_bi, Int32.lt_iff_toInt_lt, Int32.le_iff_toInt_le] at *; omega, rfl, rfl⟩
  · refine J_b 2 am_d14 rfl ?_
    refine J_icmp_gt 14 (am_d14 rfl) rfl (fun h7 => ?_) (fun h7 => ?_)
    · refine J_b 1 am_d14 rfl ?_
      exact J_iret (am_d14 rfl) rfl rfl ⟨by congr 2; simp [am_bi, Int32.lt_iff_toInt_lt, Int32.le_iff_toInt_le] at *; omega, rfl, rfl⟩
    · refine J_b 2 am_d14 rfl ?_
      exact J_iret (am_d14 rfl) rfl rfl ⟨by congr 2; simp [am_bi, Int32.lt_iff_toInt_lt, Int32.le_iff_toInt_le] at *; omega, rfl, rfl⟩
theorem sp140 {X : am_X} {M : am_M} {N : am_N} {x y z : Int64} : am_J X (am_eq (some (.int (am_bi (y.toInt ≤ x.toInt ∧ x.toInt ≤ z.toInt)))) (M) N) 140 0 (am_en 140 [.long x, .long y, .long z]) [] M N := by
  refine J_b 3 am_d140 rfl ?_
  refine J_if_lt 17 (am_d140 rfl) rfl (fun h3 => ?_) (fun h3 => ?_)
  · refine J_b 1 am_d140 rfl ?_
    exact J_iret (am_d140 rfl) rfl rfl ⟨by congr 2; simp [am_bi, lc_lt, lc_gt, Int64.lt_iff_toInt_lt, Int64.le_iff_toInt_le] at *; omega, rfl, rfl⟩
  · refine J_b 3 am_d140 rfl ?_
    refine J_if_gt 17 (am_d140 rfl) rfl (fun h10 => ?_) (fun h10 => ?_)
    · refine J_b 1 am_d140 rfl ?_
      exact J_iret (am_d140 rfl) rfl rfl ⟨by congr 2; simp [am_bi, lc_lt, lc_gt, Int64.lt_iff_toInt_lt, Int64.le_iff_toInt_le] at *; omega, rfl, rfl⟩
    · refine J_b 2 am_d140 rfl ?_
      exact J_iret (am_d140 rfl) rfl rfl ⟨by congr 2; simp [am_bi, lc_lt, lc_gt, Int64.lt_iff_toInt_lt, Int64.le_iff_toInt_le] at *; omega, rfl, rfl⟩
theorem sp16 {X : am_X} {M : am_M} {N : am_N} {x y : Int32} : am_J X (am_eq (some (.int (6 * x + y))) (M) N) 16 0 (am_en 16 [.int x, .int y]) [] M N := by
  refine J_b 5 am_d16 rfl ?_
  exact J_iret (am_d16 rfl) rfl rfl ⟨rfl, rfl, rfl⟩
theorem sp73 {X : am_X} {M : am_M} {N : am_N} {x y : Int32} : am_J X (am_eq (some (.int (if x < y then y else x))) (M) N) 73 0 (am_en 73 [.int x, .int y]) [] M N := by
  refine J_b 2 am_d73 rfl ?_
  refine J_icmp_lt 9 (am_d73 rfl) rfl (fun h2 => ?_) (fun h2 => ?_)
  · refine J_b 1 am_d73 rfl ?_
    exact J_iret (am_d73 rfl) rfl rfl ⟨by simp [*], rfl, rfl⟩
  · refine J_b 2 am_d73 rfl ?_
    exact J_iret (am_d73 rfl) rfl rfl ⟨by simp [*], rfl, rfl⟩
theorem sp52 {X : am_X} {M : am_M} {N : am_N} {x : Int32} : am_J X (am_eq (some (.int (if 0 ≤ x then x else -x))) (M) N) 52 0 (am_en 52 [.int x]) [] M N := by
  refine J_b 1 am_d52 rfl ?_
  refine J_if_ge 9 (am_d52 rfl) rfl (fun h1 => ?_) (fun h1 => ?_)
  · refine J_b 1 am_d52 rfl ?_
    exact J_iret (am_d52 rfl) rfl rfl ⟨by simp [*], rfl, rfl⟩
  · refine J_b 3 am_d52 rfl ?_
    exact J_iret (am_d52 rfl) rfl rfl ⟨by simp [*], rfl, rfl⟩
theorem sp36 {X : am_X} {M : am_M} {N : am_N} {x y : Int32} : am_J X (am_eq (some (.int ((x >>> ((4 * y) &&& 31)) &&& 15))) (M) N) 36 0 (am_en 36 [.int x, .int y]) [] M N := by
  refine J_b 7 am_d36 rfl ?_
  exact J_iret (am_d36 rfl) rfl rfl ⟨rfl, rfl, rfl⟩
theorem sp90 {X : am_X} {M : am_M} {N : am_N} {x y : Int32} : am_J X (am_eq (some (.int (x * 6 + y))) (M) N) 90 0 (am_en 90 [.int x, .int y]) [] M N := by
  refine J_b 5 am_d90 rfl ?_
  exact J_iret (am_d90 rfl) rfl rfl ⟨rfl, rfl, rfl⟩
theorem sp22 {X : am_X} {M : am_M} {N : am_N} {x : Int32} : am_J X (am_eq (some (.int (am_bi ((-3 : Int32).toInt ≤ x.toInt ∧ x.toInt ≤ (3 : Int32).toInt)))) (M) N) 22 0 (am_en 22 [.int x]) [] M N := by
  refine J_b 3 am_d22 rfl ?_
  refine J_Sf 14 (am_d22 rfl) rfl (sp14) ?_
  exact J_iret (am_d22 rfl) rfl am_bin ⟨rfl, rfl, rfl⟩
theorem sp84 {X : am_X} {M : am_M} {N : am_N} {x : Int32} : am_J X (am_eq (some (.int (am_bi ((0 : Int32).toInt ≤ x.toInt ∧ x.toInt ≤ (999 : Int32).toInt)))) (M) N) 84 0 (am_en 84 [.int x]) [] M N := by
  refine J_b 3 am_d84 rfl ?_
  refine J_Sf 14 (am_d84 rfl) rfl (sp14) ?_
  exact J_iret (am_d84 rfl) rfl am_bin ⟨rfl, rfl, rfl⟩
theorem sp141 {X : am_X} {M : am_M} {N : am_N} {x : Int32} : am_J X (am_eq (some (.int (if x < 2 then 2 else if x < 4 then 16 else 4095))) (M) N) 141 0 (am_en 141 [.int x]) [] M N := by
  refine J_b 2 am_d141 rfl ?_
  refine J_icmp_ge 9 (am_d141 rfl) rfl (fun h2 => ?_) (fun h2 => ?_)
  · refine J_b 2 am_d141 rfl ?_
    refine J_icmp_ge 19 (am_d141 rfl) rfl (fun h11 => ?_) (fun h11 => ?_)
    · refine J_b 1 am_d141 rfl ?_
      exact J_iret (am_d141 rfl) rfl rfl ⟨by congr 2; (repeat' split) <;> first | rfl | (exfalso; simp [Int32.lt_iff_toInt_lt, Int32.le_iff_toInt_le] at *; omega), rfl, rfl⟩
    · refine J_b 2 am_d141 rfl ?_
      exact J_iret (am_d141 rfl) rfl rfl ⟨by congr 2; (repeat' split) <;> first | rfl | (exfalso; simp [Int32.lt_iff_toInt_lt, Int32.le_iff_toInt_le] at *; omega), rfl, rfl⟩
  · refine J_b 2 am_d141 rfl ?_
    exact J_iret (am_d141 rfl) rfl rfl ⟨by congr 2; (repeat' split) <;> first | rfl | (exfalso; simp [Int32.lt_iff_toInt_lt, Int32.le_iff_toInt_le] at *; omega), rfl, rfl⟩
theorem sp152 {X : am_X} {M : am_M} {N : am_N} {x : Int32} : am_J X (am_eq (some (.int (am_bi (0 ≤ x.toInt ∧ x.toInt < (M 120 22).toInt)))) (M) N) 152 0 (am_en 152 [.ref 120, .int x]) [] M N := by
  refine J_b 1 am_d152 rfl ?_
  refine J_if_lt 16 (am_d152 rfl) rfl (fun h1 => ?_) (fun h1 => ?_)
  · refine J_b 1 am_d152 rfl ?_
    exact J_iret (am_d152 rfl) rfl rfl ⟨by congr 2; simp [am_bi, Int32.lt_iff_toInt_lt, Int32.le_iff_toInt_le] at *; omega, rfl, rfl⟩
  · refine J_b 3 am_d152 rfl ?_
    refine J_icmp_ge 16 (am_d152 rfl) rfl (fun h9 => ?_) (fun h9 => ?_)
    · refine J_b 1 am_d152 rfl ?_
      exact J_iret (am_d152 rfl) rfl rfl ⟨by congr 2; simp [am_bi, Int32.lt_iff_toInt_lt, Int32.le_iff_toInt_le] at *; omega, rfl, rfl⟩
    · refine J_b 2 am_d152 rfl ?_
      exact J_iret (am_d152 rfl) rfl rfl ⟨by congr 2; simp [am_bi, Int32.lt_iff_toInt_lt, Int32.le_iff_toInt_le] at *; omega, rfl, rfl⟩
theorem sp164 {X : am_X} {M : am_M} {N : am_N} {x : Int32} : am_J X (am_eq (some (.int (am_bi (0 ≤ x.toInt ∧ x.toInt < (M 120 43).toInt)))) (M) N) 164 0 (am_en 164 [.ref 120, .int x]) [] M N := by
  refine J_b 1 am_d164 rfl ?_
  refine J_if_lt 16 (am_d164 rfl) rfl (fun h1 => ?_) (fun h1 => ?_)
  · refine J_b 1 am_d164 rfl ?_
    exact J_iret (am_d164 rfl) rfl rfl ⟨by congr 2; simp [am_bi, Int32.lt_iff_toInt_lt, Int32.le_iff_toInt_le] at *; omega, rfl, rfl⟩
  · refine J_b 3 am_d164 rfl ?_
    refine J_icmp_ge 16 (am_d164 rfl) rfl (fun h9 => ?_) (fun h9 => ?_)
    · refine J_b 1 am_d164 rfl ?_
      exact J_iret (am_d164 rfl) rfl rfl ⟨by congr 2; simp [am_bi, Int32.lt_iff_toInt_lt, Int32.le_iff_toInt_le] at *; omega, rfl, rfl⟩
    · refine J_b 2 am_d164 rfl ?_
      exact J_iret (am_d164 rfl) rfl rfl ⟨by congr 2; simp [am_bi, Int32.lt_iff_toInt_lt, Int32.le_iff_toInt_le] at *; omega, rfl, rfl⟩
theorem sp168 {X : am_X} {M : am_M} {N : am_N} {x : Int32} : am_J X (am_eq (some (.int (am_bi (0 ≤ x.toInt ∧ x.toInt < (M 120 44).toInt)))) (M) N) 168 0 (am_en 168 [.ref 120, .int x]) [] M N := by
  refine J_b 1 am_d168 rfl ?_
  refine J_if_lt 16 (am_d168 rfl) rfl (fun h1 => ?_) (fun h1 => ?_)
  · refine J_b 1 am_d168 rfl ?_
    exact J_iret (am_d168 rfl) rfl rfl ⟨by congr 2; simp [am_bi, Int32.lt_iff_toInt_lt, Int32.le_iff_toInt_le] at *; omega, rfl, rfl⟩
  · refine J_b 3 am_d168 rfl ?_
    refine J_icmp_ge 16 (am_d168 rfl) rfl (fun h9 => ?_) (fun h9 => ?_)
    · refine J_b 1 am_d168 rfl ?_
      exact J_iret (am_d168 rfl) rfl rfl ⟨by congr 2; simp [am_bi, Int32.lt_iff_toInt_lt, Int32.le_iff_toInt_le] at *; omega, rfl, rfl⟩
    · refine J_b 2 am_d168 rfl ?_
      exact J_iret (am_d168 rfl) rfl rfl ⟨by congr 2; simp [am_bi, Int32.lt_iff_toInt_lt, Int32.le_iff_toInt_le] at *; omega, rfl, rfl⟩
theorem sp19 {X : am_X} {M : am_M} {N : am_N} {x : Int32} : am_J X (am_eq (some (.int (am_bi (¬ x < 0 ∧ ¬ 6 < x / 10 ∧ ¬ 6 < x - x / 10 * 10 ∧ ¬ x - x / 10 * 10 < x / 10)))) (M) N) 19 0 (am_en 19 [.int x]) [] M N := by
  refine J_b 1 am_d19 rfl ?_
  refine J_if_lt 37 (am_d19 rfl) rfl (fun h1 => ?_) (fun h1 => ?_)
  · refine J_b 1 am_d19 rfl ?_
    exact J_iret (am_d19 rfl) rfl rfl ⟨by congr 2; simp_all [am_bi], rfl, rfl⟩
  · refine J_b 4 am_d19 rfl ?_
    refine J_icmp_gt 37 (am_d19 rfl) rfl (fun h10 => ?_) (fun h10 => ?_)
    · refine J_b 1 am_d19 rfl ?_
      exact J_iret (am_d19 rfl) rfl rfl ⟨by congr 2; simp_all [am_bi], rfl, rfl⟩
    · refine J_b 4 am_d19 rfl ?_
      refine J_icmp_gt 37 (am_d19 rfl) rfl (fun h19 => ?_) (fun h19 => ?_)
      · refine J_b 1 am_d19 rfl ?_
        exact J_iret (am_d19 rfl) rfl rfl ⟨by congr 2; simp_all [am_bi], rfl, rfl⟩
      · refine J_b 6 am_d19 rfl ?_
        refine J_icmp_gt 37 (am_d19 rfl) rfl (fun h30 => ?_) (fun h30 => ?_)
        · refine J_b 1 am_d19 rfl ?_
          exact J_iret (am_d19 rfl) rfl rfl ⟨by congr 2; simp_all [am_bi], rfl, rfl⟩
        · refine J_b 2 am_d19 rfl ?_
          exact J_iret (am_d19 rfl) rfl rfl ⟨by congr 2; simp_all [am_bi], rfl, rfl⟩
theorem sp146 {X : am_X} {M : am_M} {N : am_N} {x : Int32} : am_J X (am_eq (some (.int (am_bi (¬ x < 0 ∧ ¬ 6 < x / 10 ∧ ¬ 6 < x - x / 10 * 10 ∧ ¬ x - x / 10 * 10 < x / 10)))) (M) N) 146 0 (am_en 146 [.int x]) [] M N := by
  refine J_b 1 am_d146 rfl ?_
  refine J_if_lt 37 (am_d146 rfl) rfl (fun h1 => ?_) (fun h1 => ?_)
  · refine J_b 1 am_d146 rfl ?_
    exact J_iret (am_d146 rfl) rfl rfl ⟨by congr 2; simp_all [am_bi], rfl, rfl⟩
  · refine J_b 4 am_d146 rfl ?_
    refine J_icmp_gt 37 (am_d146 rfl) rfl (fun h10 => ?_) (fun h10 => ?_)
    · refine J_b 1 am_d146 rfl ?_
      exact J_iret (am_d146 rfl) rfl rfl ⟨by congr 2; simp_all [am_bi], rfl, rfl⟩
    · refine J_b 4 am_d146 rfl ?_
      refine J_icmp_gt 37 (am_d146 rfl) rfl (fun h19 => ?_) (fun h19 => ?_)
      · refine J_b 1 am_d146 rfl ?_
        exact J_iret (am_d146 rfl) rfl rfl ⟨by congr 2; simp_all [am_bi], rfl, rfl⟩
      · refine J_b 6 am_d146 rfl ?_
        refine J_icmp_gt 37 (am_d146 rfl) rfl (fun h30 => ?_) (fun h30 => ?_)
        · refine J_b 1 am_d146 rfl ?_
          exact J_iret (am_d146 rfl) rfl rfl ⟨by congr 2; simp_all [am_bi], rfl, rfl⟩
        · refine J_b 2 am_d146 rfl ?_
          exact J_iret (am_d146 rfl) rfl rfl ⟨by congr 2; simp_all [am_bi], rfl, rfl⟩
theorem sp157 {X : am_X} {M : am_M} {N : am_N} {k w : Int32} : am_J X (am_eq (some (.int (if k = 0 then 0 else if k = 1 then w else if k = 2 then w / 2 else 2 * w))) (M) N) 157 0 (am_en 157 [.int k, .int w]) [] M N := by
  refine J_b 1 am_d157 rfl ?_
  refine J_if_ne 8 (am_d157 rfl) rfl (fun h1 => ?_) (fun h1 => ?_)
  · refine J_b 2 am_d157 rfl ?_
    refine J_icmp_ne 17 (am_d157 rfl) rfl (fun h10 => ?_) (fun h10 => ?_)
    · refine J_b 2 am_d157 rfl ?_
      refine J_icmp_ne 28 (am_d157 rfl) rfl (fun h19 => ?_) (fun h19 => ?_)
      · refine J_b 3 am_d157 rfl ?_
        exact J_iret (am_d157 rfl) rfl rfl ⟨by simp_all, rfl, rfl⟩
      · refine J_b 4 am_d157 rfl ?_
        exact J_iret (am_d157 rfl) rfl rfl ⟨by simp_all, rfl, rfl⟩
    · refine J_b 2 am_d157 rfl ?_
      exact J_iret (am_d157 rfl) rfl rfl ⟨by simp_all, rfl, rfl⟩
  · refine J_b 2 am_d157 rfl ?_
    exact J_iret (am_d157 rfl) rfl rfl ⟨by simp_all, rfl, rfl⟩
theorem sp201 {X : am_X} {M : am_M} {N : am_N} {x : Int32} : am_J X (am_eq (some (.int (am_bi (48 ≤ x.toInt ∧ x.toInt ≤ 57)))) (M) N) 201 0 (am_en 201 [.int x]) [] M N := by
  refine J_b 2 am_d201 rfl ?_
  refine J_icmp_lt 16 (am_d201 rfl) rfl (fun h3 => ?_) (fun h3 => ?_)
  · refine J_b 1 am_d201 rfl ?_
    exact J_iret (am_d201 rfl) rfl rfl ⟨by congr 2; simp [am_bi, Int32.lt_iff_toInt_lt, Int32.le_iff_toInt_le] at *; omega, rfl, rfl⟩
  · refine J_b 2 am_d201 rfl ?_
    refine J_icmp_gt 16 (am_d201 rfl) rfl (fun h9 => ?_) (fun h9 => ?_)
    · refine J_b 1 am_d201 rfl ?_
      exact J_iret (am_d201 rfl) rfl rfl ⟨by congr 2; simp [am_bi, Int32.lt_iff_toInt_lt, Int32.le_iff_toInt_le] at *; omega, rfl, rfl⟩
    · refine J_b 2 am_d201 rfl ?_
      exact J_iret (am_d201 rfl) rfl rfl ⟨by congr 2; simp [am_bi, Int32.lt_iff_toInt_lt, Int32.le_iff_toInt_le] at *; omega, rfl, rfl⟩
theorem sp206 {X : am_X} {M : am_M} {N : am_N} {v a b : Int32} : am_J X (am_eq (some (.int (if v < a then a - v else if b < v then v - b else 0))) (M) N) 206 0 (am_en 206 [.int v, .int a, .int b]) [] M N := by
  refine J_b 2 am_d206 rfl ?_
  refine J_icmp_ge 11 (am_d206 rfl) rfl (fun h2 => ?_) (fun h2 => ?_)
  · refine J_b 2 am_d206 rfl ?_
    refine J_icmp_le 22 (am_d206 rfl) rfl (fun h13 => ?_) (fun h13 => ?_)
    · refine J_b 1 am_d206 rfl ?_
      exact J_iret (am_d206 rfl) rfl rfl ⟨by congr 2; (repeat' split) <;> first | rfl | (exfalso; simp [Int32.lt_iff_toInt_lt, Int32.le_iff_toInt_le] at *; omega), rfl, rfl⟩
    · refine J_b 4 am_d206 rfl ?_
      exact J_iret (am_d206 rfl) rfl rfl ⟨by congr 2; (repeat' split) <;> first | rfl | (exfalso; simp [Int32.lt_iff_toInt_lt, Int32.le_iff_toInt_le] at *; omega), rfl, rfl⟩
  · refine J_b 4 am_d206 rfl ?_
    exact J_iret (am_d206 rfl) rfl rfl ⟨by congr 2; (repeat' split) <;> first | rfl | (exfalso; simp [Int32.lt_iff_toInt_lt, Int32.le_iff_toInt_le] at *; omega), rfl, rfl⟩
