/-! ===== the sea: what is told ===== -/
theorem sp23 {X : am_X} {M : am_M} {N : am_N} {m e n : Int32} (hm : vp_in m 12) : am_J X (am_eq (none) (am_up (am_up (am_up M 12 m.toNatClampNeg e) 13 m.toNatClampNeg n) 1 11 (M 1 11 + 1)) N) 23 0 (am_en 23 [.ref 1, .int m, .int e, .int n]) [] M N := by
  refine J_b 4 am_d23 rfl ?_
  refine J_iast (am_d23 rfl) rfl (by assumption) ?_
  refine J_b 4 am_d23 rfl ?_
  refine J_iast (am_d23 rfl) rfl (by assumption) ?_
  refine J_b 5 am_d23 rfl ?_
  refine J_puti (am_d23 rfl) rfl ?_
  exact J_ret (am_d23 rfl) rfl ⟨rfl, rfl, rfl⟩
theorem sp20 {X : am_X} {M : am_M} {N : am_N} {k e n : Int32} (hk : vp_in k 36) : am_J X (am_eq (none) (am_up (am_up (am_up (am_up (am_up M 8 k.toNatClampNeg (e / 10 - 3)) 9 k.toNatClampNeg (e - e / 10 * 10 - 3)) 10 k.toNatClampNeg (n / 10 - 3)) 11 k.toNatClampNeg (n - n / 10 * 10 - 3)) 1 11 (M 1 11 + 1)) N) 20 0 (am_en 20 [.ref 1, .int k, .int e, .int n]) [] M N := by
  refine J_b 8 am_d20 rfl ?_
  refine J_iast (am_d20 rfl) rfl (by assumption) ?_
  refine J_b 8 am_d20 rfl ?_
  refine J_iast (am_d20 rfl) rfl (by assumption) ?_
  refine J_b 8 am_d20 rfl ?_
  refine J_iast (am_d20 rfl) rfl (by assumption) ?_
  refine J_b 8 am_d20 rfl ?_
  refine J_iast (am_d20 rfl) rfl (by assumption) ?_
  refine J_b 5 am_d20 rfl ?_
  refine J_puti (am_d20 rfl) rfl ?_
  exact J_ret (am_d20 rfl) rfl ⟨rfl, rfl, rfl⟩
theorem sp25 {X : am_X} {M : am_M} {N : am_N} {m t e n : Int32} (hm : vp_in m 48) : am_J X (am_eq (some (.int (if M 14 m.toNatClampNeg = 0 then 0 else 1))) (am_up (am_up (am_up (am_up M 14 m.toNatClampNeg (vp_nar .boolean t)) 15 m.toNatClampNeg e) 16 m.toNatClampNeg n) 1 11 (M 1 11 + 1)) N) 25 0 (am_en 25 [.ref 1, .int m, .int t, .int e, .int n]) [] M N := by
  refine J_b 3 am_d25 rfl ?_
  refine J_zald (am_d25 rfl) rfl (by assumption) ?_
  refine J_if_eq 13 (am_d25 rfl) rfl (fun h6 => ?_) (fun h6 => ?_)
  · refine J_b 6 am_d25 rfl ?_
    refine J_zast (am_d25 rfl) rfl (by assumption) ?_
    refine J_b 4 am_d25 rfl ?_
    refine J_iast (am_d25 rfl) rfl (by assumption) ?_
    refine J_b 4 am_d25 rfl ?_
    refine J_iast (am_d25 rfl) rfl (by assumption) ?_
    refine J_b 5 am_d25 rfl ?_
    refine J_puti (am_d25 rfl) rfl ?_
    refine J_b 1 am_d25 rfl ?_
    exact J_iret (am_d25 rfl) rfl rfl ⟨by simp [*], rfl, rfl⟩
  · refine J_b 7 am_d25 rfl ?_
    refine J_zast (am_d25 rfl) rfl (by assumption) ?_
    refine J_b 4 am_d25 rfl ?_
    refine J_iast (am_d25 rfl) rfl (by assumption) ?_
    refine J_b 4 am_d25 rfl ?_
    refine J_iast (am_d25 rfl) rfl (by assumption) ?_
    refine J_b 5 am_d25 rfl ?_
    refine J_puti (am_d25 rfl) rfl ?_
    refine J_b 1 am_d25 rfl ?_
    exact J_iret (am_d25 rfl) rfl rfl ⟨by simp [*], rfl, rfl⟩
def P_ix (x : Int32) (n : Int) : Prop := 0 ≤ x.toInt ∧ x.toInt < n
def P_in (x : Int32) (a b : Int) : Prop := a ≤ x.toInt ∧ x.toInt ≤ b
theorem vp_of {x : Int32} {n : Nat} (h : 0 ≤ x.toInt ∧ x.toInt < n) : vp_in x n := vp_in_iff.mpr h
def a_wind (m e n : Int32) : Int32 := if 0 ≤ m.toInt ∧ m.toInt < 12 then (if (-3 ≤ e.toInt ∧ e.toInt ≤ 3) ∧ (-3 ≤ n.toInt ∧ n.toInt ≤ 3) then 0 else -2) else -1
def w_wind (M M1 : am_M) (m e n : Int32) : am_M := if (0 ≤ m.toInt ∧ m.toInt < 12) ∧ (-3 ≤ e.toInt ∧ e.toInt ≤ 3) ∧ (-3 ≤ n.toInt ∧ n.toInt ≤ 3) then M1 else M
theorem sp21 {X : am_X} {M : am_M} {N : am_N} {m e n : Int32} : am_J X (am_eq (some (.int (a_wind m e n))) (w_wind M (am_up (am_up (am_up M 12 m.toNatClampNeg e) 13 m.toNatClampNeg n) 1 11 (M 1 11 + 1)) m e n) N) 21 0 (am_en 21 [.ref 0, .int m, .int e, .int n]) [] M N := by
  refine J_b 2 am_d21 rfl ?_
  refine J_Sf 13 (am_d21 rfl) rfl (sp13) ?_
  refine J_if_ne 11 (am_d21 rfl) rfl (fun h6 => ?_) (fun h6 => ?_)
  · refine J_b 1 am_d21 rfl ?_
    refine J_Sf 22 (am_d21 rfl) rfl (sp22) ?_
    refine J_if_eq 25 (am_d21 rfl) rfl (fun h15 => ?_) (fun h15 => ?_)
    · refine J_b 1 am_d21 rfl ?_
      exact J_iret (am_d21 rfl) rfl rfl ⟨by unfold a_wind; congr 2; (repeat' split) <;> first | rfl | (exfalso; simp [am_bi0, am_bi1, Int32.lt_iff_toInt_lt, Int32.le_iff_toInt_le] at *; omega), by unfold w_wind; (repeat' split) <;> first | rfl | (exfalso; simp [am_bi0, am_bi1, Int32.lt_iff_toInt_lt, Int32.le_iff_toInt_le] at *; omega), rfl⟩
    · refine J_b 1 am_d21 rfl ?_
      refine J_Sf 22 (am_d21 rfl) rfl (sp22) ?_
      refine J_if_ne 28 (am_d21 rfl) rfl (fun h22 => ?_) (fun h22 => ?_)
      · refine J_b 5 am_d21 rfl ?_
        refine J_Vf 23 (am_d21 rfl) rfl (sp23 (vp_of (by simp [am_bi0, am_bi1] at *; omega))) ?_
        refine J_b 1 am_d21 rfl ?_
        exact J_iret (am_d21 rfl) rfl rfl ⟨by unfold a_wind; congr 2; (repeat' split) <;> first | rfl | (exfalso; simp [am_bi0, am_bi1, Int32.lt_iff_toInt_lt, Int32.le_iff_toInt_le] at *; omega), by unfold w_wind; (repeat' split) <;> first | rfl | (exfalso; simp [am_bi0, am_bi1, Int32.lt_iff_toInt_lt, Int32.le_iff_toInt_le] at *; omega), rfl⟩
      · refine J_b 1 am_d21 rfl ?_
        exact J_iret (am_d21 rfl) rfl rfl ⟨by unfold a_wind; congr 2; (repeat' split) <;> first | rfl | (exfalso; simp [am_bi0, am_bi1, Int32.lt_iff_toInt_lt, Int32.le_iff_toInt_le] at *; omega), by unfold w_wind; (repeat' split) <;> first | rfl | (exfalso; simp [am_bi0, am_bi1, Int32.lt_iff_toInt_lt, Int32.le_iff_toInt_le] at *; omega), rfl⟩
  · refine J_b 1 am_d21 rfl ?_
    exact J_iret (am_d21 rfl) rfl rfl ⟨by unfold a_wind; congr 2; (repeat' split) <;> first | rfl | (exfalso; simp [am_bi0, am_bi1, Int32.lt_iff_toInt_lt, Int32.le_iff_toInt_le] at *; omega), by unfold w_wind; (repeat' split) <;> first | rfl | (exfalso; simp [am_bi0, am_bi1, Int32.lt_iff_toInt_lt, Int32.le_iff_toInt_le] at *; omega), rfl⟩
theorem sp147 {X : am_X} {M : am_M} {N : am_N} {m e n : Int32} : am_J X (am_eq (some (.int (a_wind m e n))) (w_wind M (am_up (am_up M 131 m.toNatClampNeg e) 132 m.toNatClampNeg n) m e n) N) 147 0 (am_en 147 [.ref 120, .int m, .int e, .int n]) [] M N := by
  refine J_b 4 am_d147 rfl ?_
  refine J_Sf 140 (am_d147 rfl) rfl (sp140) ?_
  refine J_if_ne 14 (am_d147 rfl) rfl (fun h9 => ?_) (fun h9 => ?_)
  · refine J_b 4 am_d147 rfl ?_
    refine J_Sf 140 (am_d147 rfl) rfl (sp140) ?_
    refine J_if_eq 42 (am_d147 rfl) rfl (fun h25 => ?_) (fun h25 => ?_)
    · refine J_b 1 am_d147 rfl ?_
      exact J_iret (am_d147 rfl) rfl rfl ⟨by unfold a_wind; congr 2; (repeat' split) <;> first | rfl | (exfalso; simp [am_bi0, am_bi1, Int32.lt_iff_toInt_lt, Int32.le_iff_toInt_le] at *; omega), by unfold w_wind; (repeat' split) <;> first | rfl | (exfalso; simp [am_bi0, am_bi1, Int32.lt_iff_toInt_lt, Int32.le_iff_toInt_le] at *; omega), rfl⟩
    · refine J_b 4 am_d147 rfl ?_
      refine J_Sf 140 (am_d147 rfl) rfl (sp140) ?_
      refine J_if_ne 45 (am_d147 rfl) rfl (fun h39 => ?_) (fun h39 => ?_)
      · refine J_b 4 am_d147 rfl ?_
        refine J_iast (am_d147 rfl) rfl (by assumption) ?_
        refine J_b 4 am_d147 rfl ?_
        refine J_iast (am_d147 rfl) rfl (by assumption) ?_
        refine J_b 1 am_d147 rfl ?_
        exact J_iret (am_d147 rfl) rfl rfl ⟨by unfold a_wind; congr 2; (repeat' split) <;> first | rfl | (exfalso; simp [am_bi0, am_bi1, Int32.lt_iff_toInt_lt, Int32.le_iff_toInt_le] at *; omega), by unfold w_wind; (repeat' split) <;> first | rfl | (exfalso; simp [am_bi0, am_bi1, Int32.lt_iff_toInt_lt, Int32.le_iff_toInt_le] at *; omega), rfl⟩
      · refine J_b 1 am_d147 rfl ?_
        exact J_iret (am_d147 rfl) rfl rfl ⟨by unfold a_wind; congr 2; (repeat' split) <;> first | rfl | (exfalso; simp [am_bi0, am_bi1, Int32.lt_iff_toInt_lt, Int32.le_iff_toInt_le] at *; omega), by unfold w_wind; (repeat' split) <;> first | rfl | (exfalso; simp [am_bi0, am_bi1, Int32.lt_iff_toInt_lt, Int32.le_iff_toInt_le] at *; omega), rfl⟩
  · refine J_b 1 am_d147 rfl ?_
    exact J_iret (am_d147 rfl) rfl rfl ⟨by unfold a_wind; congr 2; (repeat' split) <;> first | rfl | (exfalso; simp [am_bi0, am_bi1, Int32.lt_iff_toInt_lt, Int32.le_iff_toInt_le] at *; omega), by unfold w_wind; (repeat' split) <;> first | rfl | (exfalso; simp [am_bi0, am_bi1, Int32.lt_iff_toInt_lt, Int32.le_iff_toInt_le] at *; omega), rfl⟩
