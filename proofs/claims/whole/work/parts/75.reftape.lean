/-! ===== prizes: the tape, as the reference reads it ===== -/
def sgn (w : Nat) (x : Int32) : Int32 := match w with
  | 0 => if x = 0 then (Int8.ofInt 112).toInt32 else if x = Int32.ofInt 1 then (Int8.ofInt 114).toInt32 else if x = Int32.ofInt 2 then (Int8.ofInt 105).toInt32 else if x = Int32.ofInt 3 then (Int8.ofInt 122).toInt32 else if x = Int32.ofInt 4 then (Int8.ofInt 101).toInt32 else Int32.ofInt 0
  | 1 => if x = 0 then (Int8.ofInt 105).toInt32 else if x = Int32.ofInt 1 then (Int8.ofInt 102).toInt32 else Int32.ofInt 0
  | 2 => if x = 0 then (Int8.ofInt 109).toInt32 else if x = Int32.ofInt 1 then (Int8.ofInt 111).toInt32 else if x = Int32.ofInt 2 then (Int8.ofInt 110).toInt32 else if x = Int32.ofInt 3 then (Int8.ofInt 116).toInt32 else if x = Int32.ofInt 4 then (Int8.ofInt 104).toInt32 else if x = Int32.ofInt 5 then (Int8.ofInt 115).toInt32 else Int32.ofInt 0
  | 3 => if x = 0 then (Int8.ofInt 102).toInt32 else if x = Int32.ofInt 1 then (Int8.ofInt 97).toInt32 else if x = Int32.ofInt 2 then (Int8.ofInt 114).toInt32 else Int32.ofInt 0
  | 4 => if x = 0 then (Int8.ofInt 107).toInt32 else if x = Int32.ofInt 1 then (Int8.ofInt 105).toInt32 else if x = Int32.ofInt 2 then (Int8.ofInt 110).toInt32 else if x = Int32.ofInt 3 then (Int8.ofInt 100).toInt32 else Int32.ofInt 0
  | 5 => if x = 0 then (Int8.ofInt 116).toInt32 else if x = Int32.ofInt 1 then (Int8.ofInt 111).toInt32 else if x = Int32.ofInt 2 then (Int8.ofInt 110).toInt32 else if x = Int32.ofInt 3 then (Int8.ofInt 103).toInt32 else if x = Int32.ofInt 4 then (Int8.ofInt 117).toInt32 else if x = Int32.ofInt 5 then (Int8.ofInt 101).toInt32 else Int32.ofInt 0
  | _ => if x = 0 then (Int8.ofInt 119).toInt32 else if x = Int32.ofInt 1 then (Int8.ofInt 101).toInt32 else if x = Int32.ofInt 2 then (Int8.ofInt 105).toInt32 else if x = Int32.ofInt 3 then (Int8.ofInt 103).toInt32 else if x = Int32.ofInt 4 then (Int8.ofInt 104).toInt32 else if x = Int32.ofInt 5 then (Int8.ofInt 116).toInt32 else Int32.ofInt 0
def so (w k : Nat) : Int32 := sgn w (nI k)
def rl (w : Nat) : Nat := [5, 2, 6, 3, 4, 6, 6].getD w 0
theorem sp197_0 {X : am_X} {M : am_M} {N : am_N} {x : Int32} : am_J X (am_eq (some (.int (sgn 0 x))) M N) 197 0 (am_en 197 [.int (nI 0), .int x]) [] M N := by
  refine J_en (L := [.int (nI 0), .int x]) rfl ?_
  refine J_b 1 am_d197 rfl ?_
  refine J_tsIn 40 (am_d197 rfl) (by decide) (by decide) rfl rfl ?_
  refine J_b 1 am_d197 rfl ?_
  refine J_if_ne 49 (am_d197 rfl) rfl (fun h41 => ?_) (fun h41 => ?_)
  · refine J_b 2 am_d197 rfl ?_
    refine J_icmp_ne 59 (am_d197 rfl) rfl (fun h51 => ?_) (fun h51 => ?_)
    · refine J_b 2 am_d197 rfl ?_
      refine J_icmp_ne 69 (am_d197 rfl) rfl (fun h61 => ?_) (fun h61 => ?_)
      · refine J_b 2 am_d197 rfl ?_
        refine J_icmp_ne 79 (am_d197 rfl) rfl (fun h71 => ?_) (fun h71 => ?_)
        · refine J_b 2 am_d197 rfl ?_
          refine J_icmp_ne 89 (am_d197 rfl) rfl (fun h81 => ?_) (fun h81 => ?_)
          · refine J_b 1 am_d197 rfl ?_
            exact J_iret (am_d197 rfl) rfl rfl ⟨by show some (Value.int _) = some (Value.int (if x = 0 then (Int8.ofInt 112).toInt32 else if x = Int32.ofInt 1 then (Int8.ofInt 114).toInt32 else if x = Int32.ofInt 2 then (Int8.ofInt 105).toInt32 else if x = Int32.ofInt 3 then (Int8.ofInt 122).toInt32 else if x = Int32.ofInt 4 then (Int8.ofInt 101).toInt32 else Int32.ofInt 0)); rw [if_neg h41, if_neg h51, if_neg h61, if_neg h71, if_neg h81], rfl, rfl⟩
          · refine J_b 2 am_d197 rfl ?_
            exact J_iret (am_d197 rfl) rfl rfl ⟨by show some (Value.int _) = some (Value.int (if x = 0 then (Int8.ofInt 112).toInt32 else if x = Int32.ofInt 1 then (Int8.ofInt 114).toInt32 else if x = Int32.ofInt 2 then (Int8.ofInt 105).toInt32 else if x = Int32.ofInt 3 then (Int8.ofInt 122).toInt32 else if x = Int32.ofInt 4 then (Int8.ofInt 101).toInt32 else Int32.ofInt 0)); rw [if_neg h41, if_neg h51, if_neg h61, if_neg h71, if_pos h81], rfl, rfl⟩
        · refine J_b 2 am_d197 rfl ?_
          exact J_iret (am_d197 rfl) rfl rfl ⟨by show some (Value.int _) = some (Value.int (if x = 0 then (Int8.ofInt 112).toInt32 else if x = Int32.ofInt 1 then (Int8.ofInt 114).toInt32 else if x = Int32.ofInt 2 then (Int8.ofInt 105).toInt32 else if x = Int32.ofInt 3 then (Int8.ofInt 122).toInt32 else if x = Int32.ofInt 4 then (Int8.ofInt 101).toInt32 else Int32.ofInt 0)); rw [if_neg h41, if_neg h51, if_neg h61, if_pos h71], rfl, rfl⟩
      · refine J_b 2 am_d197 rfl ?_
        exact J_iret (am_d197 rfl) rfl rfl ⟨by show some (Value.int _) = some (Value.int (if x = 0 then (Int8.ofInt 112).toInt32 else if x = Int32.ofInt 1 then (Int8.ofInt 114).toInt32 else if x = Int32.ofInt 2 then (Int8.ofInt 105).toInt32 else if x = Int32.ofInt 3 then (Int8.ofInt 122).toInt32 else if x = Int32.ofInt 4 then (Int8.ofInt 101).toInt32 else Int32.ofInt 0)); rw [if_neg h41, if_neg h51, if_pos h61], rfl, rfl⟩
    · refine J_b 2 am_d197 rfl ?_
      exact J_iret (am_d197 rfl) rfl rfl ⟨by show some (Value.int _) = some (Value.int (if x = 0 then (Int8.ofInt 112).toInt32 else if x = Int32.ofInt 1 then (Int8.ofInt 114).toInt32 else if x = Int32.ofInt 2 then (Int8.ofInt 105).toInt32 else if x = Int32.ofInt 3 then (Int8.ofInt 122).toInt32 else if x = Int32.ofInt 4 then (Int8.ofInt 101).toInt32 else Int32.ofInt 0)); rw [if_neg h41, if_pos h51], rfl, rfl⟩
  · refine J_b 2 am_d197 rfl ?_
    exact J_iret (am_d197 rfl) rfl rfl ⟨by show some (Value.int _) = some (Value.int (if x = 0 then (Int8.ofInt 112).toInt32 else if x = Int32.ofInt 1 then (Int8.ofInt 114).toInt32 else if x = Int32.ofInt 2 then (Int8.ofInt 105).toInt32 else if x = Int32.ofInt 3 then (Int8.ofInt 122).toInt32 else if x = Int32.ofInt 4 then (Int8.ofInt 101).toInt32 else Int32.ofInt 0)); rw [if_pos h41], rfl, rfl⟩
theorem sp197_1 {X : am_X} {M : am_M} {N : am_N} {x : Int32} : am_J X (am_eq (some (.int (sgn 1 x))) M N) 197 0 (am_en 197 [.int (nI 1), .int x]) [] M N := by
  refine J_en (L := [.int (nI 1), .int x]) rfl ?_
  refine J_b 1 am_d197 rfl ?_
  refine J_tsIn 91 (am_d197 rfl) (by decide) (by decide) rfl rfl ?_
  refine J_b 1 am_d197 rfl ?_
  refine J_if_ne 100 (am_d197 rfl) rfl (fun h92 => ?_) (fun h92 => ?_)
  · refine J_b 2 am_d197 rfl ?_
    refine J_icmp_ne 110 (am_d197 rfl) rfl (fun h102 => ?_) (fun h102 => ?_)
    · refine J_b 1 am_d197 rfl ?_
      exact J_iret (am_d197 rfl) rfl rfl ⟨by show some (Value.int _) = some (Value.int (if x = 0 then (Int8.ofInt 105).toInt32 else if x = Int32.ofInt 1 then (Int8.ofInt 102).toInt32 else Int32.ofInt 0)); rw [if_neg h92, if_neg h102], rfl, rfl⟩
    · refine J_b 2 am_d197 rfl ?_
      exact J_iret (am_d197 rfl) rfl rfl ⟨by show some (Value.int _) = some (Value.int (if x = 0 then (Int8.ofInt 105).toInt32 else if x = Int32.ofInt 1 then (Int8.ofInt 102).toInt32 else Int32.ofInt 0)); rw [if_neg h92, if_pos h102], rfl, rfl⟩
  · refine J_b 2 am_d197 rfl ?_
    exact J_iret (am_d197 rfl) rfl rfl ⟨by show some (Value.int _) = some (Value.int (if x = 0 then (Int8.ofInt 105).toInt32 else if x = Int32.ofInt 1 then (Int8.ofInt 102).toInt32 else Int32.ofInt 0)); rw [if_pos h92], rfl, rfl⟩
theorem sp197_2 {X : am_X} {M : am_M} {N : am_N} {x : Int32} : am_J X (am_eq (some (.int (sgn 2 x))) M N) 197 0 (am_en 197 [.int (nI 2), .int x]) [] M N := by
  refine J_en (L := [.int (nI 2), .int x]) rfl ?_
  refine J_b 1 am_d197 rfl ?_
  refine J_tsIn 112 (am_d197 rfl) (by decide) (by decide) rfl rfl ?_
  refine J_b 1 am_d197 rfl ?_
  refine J_if_ne 121 (am_d197 rfl) rfl (fun h113 => ?_) (fun h113 => ?_)
  · refine J_b 2 am_d197 rfl ?_
    refine J_icmp_ne 131 (am_d197 rfl) rfl (fun h123 => ?_) (fun h123 => ?_)
    · refine J_b 2 am_d197 rfl ?_
      refine J_icmp_ne 141 (am_d197 rfl) rfl (fun h133 => ?_) (fun h133 => ?_)
      · refine J_b 2 am_d197 rfl ?_
        refine J_icmp_ne 151 (am_d197 rfl) rfl (fun h143 => ?_) (fun h143 => ?_)
        · refine J_b 2 am_d197 rfl ?_
          refine J_icmp_ne 161 (am_d197 rfl) rfl (fun h153 => ?_) (fun h153 => ?_)
          · refine J_b 2 am_d197 rfl ?_
            refine J_icmp_ne 171 (am_d197 rfl) rfl (fun h163 => ?_) (fun h163 => ?_)
            · refine J_b 1 am_d197 rfl ?_
              exact J_iret (am_d197 rfl) rfl rfl ⟨by show some (Value.int _) = some (Value.int (if x = 0 then (Int8.ofInt 109).toInt32 else if x = Int32.ofInt 1 then (Int8.ofInt 111).toInt32 else if x = Int32.ofInt 2 then (Int8.ofInt 110).toInt32 else if x = Int32.ofInt 3 then (Int8.ofInt 116).toInt32 else if x = Int32.ofInt 4 then (Int8.ofInt 104).toInt32 else if x = Int32.ofInt 5 then (Int8.ofInt 115).toInt32 else Int32.ofInt 0)); rw [if_neg h113, if_neg h123, if_neg h133, if_neg h143, if_neg h153, if_neg h163], rfl, rfl⟩
            · refine J_b 2 am_d197 rfl ?_
              exact J_iret (am_d197 rfl) rfl rfl ⟨by show some (Value.int _) = some (Value.int (if x = 0 then (Int8.ofInt 109).toInt32 else if x = Int32.ofInt 1 then (Int8.ofInt 111).toInt32 else if x = Int32.ofInt 2 then (Int8.ofInt 110).toInt32 else if x = Int32.ofInt 3 then (Int8.ofInt 116).toInt32 else if x = Int32.ofInt 4 then (Int8.ofInt 104).toInt32 else if x = Int32.ofInt 5 then (Int8.ofInt 115).toInt32 else Int32.ofInt 0)); rw [if_neg h113, if_neg h123, if_neg h133, if_neg h143, if_neg h153, if_pos h163], rfl, rfl⟩
          · refine J_b 2 am_d197 rfl ?_
            exact J_iret (am_d197 rfl) rfl rfl ⟨by show some (Value.int _) = some (Value.int (if x = 0 then (Int8.ofInt 109).toInt32 else if x = Int32.ofInt 1 then (Int8.ofInt 111).toInt32 else if x = Int32.ofInt 2 then (Int8.ofInt 110).toInt32 else if x = Int32.ofInt 3 then (Int8.ofInt 116).toInt32 else if x = Int32.ofInt 4 then (Int8.ofInt 104).toInt32 else if x = Int32.ofInt 5 then (Int8.ofInt 115).toInt32 else Int32.ofInt 0)); rw [if_neg h113, if_neg h123, if_neg h133, if_neg h143, if_pos h153], rfl, rfl⟩
        · refine J_b 2 am_d197 rfl ?_
          exact J_iret (am_d197 rfl) rfl rfl ⟨by show some (Value.int _) = some (Value.int (if x = 0 then (Int8.ofInt 109).toInt32 else if x = Int32.ofInt 1 then (Int8.ofInt 111).toInt32 else if x = Int32.ofInt 2 then (Int8.ofInt 110).toInt32 else if x = Int32.ofInt 3 then (Int8.ofInt 116).toInt32 else if x = Int32.ofInt 4 then (Int8.ofInt 104).toInt32 else if x = Int32.ofInt 5 then (Int8.ofInt 115).toInt32 else Int32.ofInt 0)); rw [if_neg h113, if_neg h123, if_neg h133, if_pos h143], rfl, rfl⟩
      · refine J_b 2 am_d197 rfl ?_
        exact J_iret (am_d197 rfl) rfl rfl ⟨by show some (Value.int _) = some (Value.int (if x = 0 then (Int8.ofInt 109).toInt32 else if x = Int32.ofInt 1 then (Int8.ofInt 111).toInt32 else if x = Int32.ofInt 2 then (Int8.ofInt 110).toInt32 else if x = Int32.ofInt 3 then (Int8.ofInt 116).toInt32 else if x = Int32.ofInt 4 then (Int8.ofInt 104).toInt32 else if x = Int32.ofInt 5 then (Int8.ofInt 115).toInt32 else Int32.ofInt 0)); rw [if_neg h113, if_neg h123, if_pos h133], rfl, rfl⟩
    · refine J_b 2 am_d197 rfl ?_
      exact J_iret (am_d197 rfl) rfl rfl ⟨by show some (Value.int _) = some (Value.int (if x = 0 then (Int8.ofInt 109).toInt32 else if x = Int32.ofInt 1 then (Int8.ofInt 111).toInt32 else if x = Int32.ofInt 2 then (Int8.ofInt 110).toInt32 else if x = Int32.ofInt 3 then (Int8.ofInt 116).toInt32 else if x = Int32.ofInt 4 then (Int8.ofInt 104).toInt32 else if x = Int32.ofInt 5 then (Int8.ofInt 115).toInt32 else Int32.ofInt 0)); rw [if_neg h113, if_pos h123], rfl, rfl⟩
  · refine J_b 2 am_d197 rfl ?_
    exact J_iret (am_d197 rfl) rfl rfl ⟨by show some (Value.int _) = some (Value.int (if x = 0 then (Int8.ofInt 109).toInt32 else if x = Int32.ofInt 1 then (Int8.ofInt 111).toInt32 else if x = Int32.ofInt 2 then (Int8.ofInt 110).toInt32 else if x = Int32.ofInt 3 then (Int8.ofInt 116).toInt32 else if x = Int32.ofInt 4 then (Int8.ofInt 104).toInt32 else if x = Int32.ofInt 5 then (Int8.ofInt 115).toInt32 else Int32.ofInt 0)); rw [if_pos h113], rfl, rfl⟩
theorem sp197_3 {X : am_X} {M : am_M} {N : am_N} {x : Int32} : am_J X (am_eq (some (.int (sgn 3 x))) M N) 197 0 (am_en 197 [.int (nI 3), .int x]) [] M N := by
  refine J_en (L := [.int (nI 3), .int x]) rfl ?_
  refine J_b 1 am_d197 rfl ?_
  refine J_tsIn 173 (am_d197 rfl) (by decide) (by decide) rfl rfl ?_
  refine J_b 1 am_d197 rfl ?_
  refine J_if_ne 182 (am_d197 rfl) rfl (fun h174 => ?_) (fun h174 => ?_)
  · refine J_b 2 am_d197 rfl ?_
    refine J_icmp_ne 192 (am_d197 rfl) rfl (fun h184 => ?_) (fun h184 => ?_)
    · refine J_b 2 am_d197 rfl ?_
      refine J_icmp_ne 202 (am_d197 rfl) rfl (fun h194 => ?_) (fun h194 => ?_)
      · refine J_b 1 am_d197 rfl ?_
        exact J_iret (am_d197 rfl) rfl rfl ⟨by show some (Value.int _) = some (Value.int (if x = 0 then (Int8.ofInt 102).toInt32 else if x = Int32.ofInt 1 then (Int8.ofInt 97).toInt32 else if x = Int32.ofInt 2 then (Int8.ofInt 114).toInt32 else Int32.ofInt 0)); rw [if_neg h174, if_neg h184, if_neg h194], rfl, rfl⟩
      · refine J_b 2 am_d197 rfl ?_
        exact J_iret (am_d197 rfl) rfl rfl ⟨by show some (Value.int _) = some (Value.int (if x = 0 then (Int8.ofInt 102).toInt32 else if x = Int32.ofInt 1 then (Int8.ofInt 97).toInt32 else if x = Int32.ofInt 2 then (Int8.ofInt 114).toInt32 else Int32.ofInt 0)); rw [if_neg h174, if_neg h184, if_pos h194], rfl, rfl⟩
    · refine J_b 2 am_d197 rfl ?_
      exact J_iret (am_d197 rfl) rfl rfl ⟨by show some (Value.int _) = some (Value.int (if x = 0 then (Int8.ofInt 102).toInt32 else if x = Int32.ofInt 1 then (Int8.ofInt 97).toInt32 else if x = Int32.ofInt 2 then (Int8.ofInt 114).toInt32 else Int32.ofInt 0)); rw [if_neg h174, if_pos h184], rfl, rfl⟩
  · refine J_b 2 am_d197 rfl ?_
    exact J_iret (am_d197 rfl) rfl rfl ⟨by show some (Value.int _) = some (Value.int (if x = 0 then (Int8.ofInt 102).toInt32 else if x = Int32.ofInt 1 then (Int8.ofInt 97).toInt32 else if x = Int32.ofInt 2 then (Int8.ofInt 114).toInt32 else Int32.ofInt 0)); rw [if_pos h174], rfl, rfl⟩
theorem sp197_4 {X : am_X} {M : am_M} {N : am_N} {x : Int32} : am_J X (am_eq (some (.int (sgn 4 x))) M N) 197 0 (am_en 197 [.int (nI 4), .int x]) [] M N := by
  refine J_en (L := [.int (nI 4), .int x]) rfl ?_
  refine J_b 1 am_d197 rfl ?_
  refine J_tsIn 204 (am_d197 rfl) (by decide) (by decide) rfl rfl ?_
  refine J_b 1 am_d197 rfl ?_
  refine J_if_ne 213 (am_d197 rfl) rfl (fun h205 => ?_) (fun h205 => ?_)
  · refine J_b 2 am_d197 rfl ?_
    refine J_icmp_ne 223 (am_d197 rfl) rfl (fun h215 => ?_) (fun h215 => ?_)
    · refine J_b 2 am_d197 rfl ?_
      refine J_icmp_ne 233 (am_d197 rfl) rfl (fun h225 => ?_) (fun h225 => ?_)
      · refine J_b 2 am_d197 rfl ?_
        refine J_icmp_ne 243 (am_d197 rfl) rfl (fun h235 => ?_) (fun h235 => ?_)
        · refine J_b 1 am_d197 rfl ?_
          exact J_iret (am_d197 rfl) rfl rfl ⟨by show some (Value.int _) = some (Value.int (if x = 0 then (Int8.ofInt 107).toInt32 else if x = Int32.ofInt 1 then (Int8.ofInt 105).toInt32 else if x = Int32.ofInt 2 then (Int8.ofInt 110).toInt32 else if x = Int32.ofInt 3 then (Int8.ofInt 100).toInt32 else Int32.ofInt 0)); rw [if_neg h205, if_neg h215, if_neg h225, if_neg h235], rfl, rfl⟩
        · refine J_b 2 am_d197 rfl ?_
          exact J_iret (am_d197 rfl) rfl rfl ⟨by show some (Value.int _) = some (Value.int (if x = 0 then (Int8.ofInt 107).toInt32 else if x = Int32.ofInt 1 then (Int8.ofInt 105).toInt32 else if x = Int32.ofInt 2 then (Int8.ofInt 110).toInt32 else if x = Int32.ofInt 3 then (Int8.ofInt 100).toInt32 else Int32.ofInt 0)); rw [if_neg h205, if_neg h215, if_neg h225, if_pos h235], rfl, rfl⟩
      · refine J_b 2 am_d197 rfl ?_
        exact J_iret (am_d197 rfl) rfl rfl ⟨by show some (Value.int _) = some (Value.int (if x = 0 then (Int8.ofInt 107).toInt32 else if x = Int32.ofInt 1 then (Int8.ofInt 105).toInt32 else if x = Int32.ofInt 2 then (Int8.ofInt 110).toInt32 else if x = Int32.ofInt 3 then (Int8.ofInt 100).toInt32 else Int32.ofInt 0)); rw [if_neg h205, if_neg h215, if_pos h225], rfl, rfl⟩
    · refine J_b 2 am_d197 rfl ?_
      exact J_iret (am_d197 rfl) rfl rfl ⟨by show some (Value.int _) = some (Value.int (if x = 0 then (Int8.ofInt 107).toInt32 else if x = Int32.ofInt 1 then (Int8.ofInt 105).toInt32 else if x = Int32.ofInt 2 then (Int8.ofInt 110).toInt32 else if x = Int32.ofInt 3 then (Int8.ofInt 100).toInt32 else Int32.ofInt 0)); rw [if_neg h205, if_pos h215], rfl, rfl⟩
  · refine J_b 2 am_d197 rfl ?_
    exact J_iret (am_d197 rfl) rfl rfl ⟨by show some (Value.int _) = some (Value.int (if x = 0 then (Int8.ofInt 107).toInt32 else if x = Int32.ofInt 1 then (Int8.ofInt 105).toInt32 else if x = Int32.ofInt 2 then (Int8.ofInt 110).toInt32 else if x = Int32.ofInt 3 then (Int8.ofInt 100).toInt32 else Int32.ofInt 0)); rw [if_pos h205], rfl, rfl⟩
theorem sp197_5 {X : am_X} {M : am_M} {N : am_N} {x : Int32} : am_J X (am_eq (some (.int (sgn 5 x))) M N) 197 0 (am_en 197 [.int (nI 5), .int x]) [] M N := by
  refine J_en (L := [.int (nI 5), .int x]) rfl ?_
  refine J_b 1 am_d197 rfl ?_
  refine J_tsIn 245 (am_d197 rfl) (by decide) (by decide) rfl rfl ?_
  refine J_b 1 am_d197 rfl ?_
  refine J_if_ne 254 (am_d197 rfl) rfl (fun h246 => ?_) (fun h246 => ?_)
  · refine J_b 2 am_d197 rfl ?_
    refine J_icmp_ne 264 (am_d197 rfl) rfl (fun h256 => ?_) (fun h256 => ?_)
    · refine J_b 2 am_d197 rfl ?_
      refine J_icmp_ne 274 (am_d197 rfl) rfl (fun h266 => ?_) (fun h266 => ?_)
      · refine J_b 2 am_d197 rfl ?_
        refine J_icmp_ne 284 (am_d197 rfl) rfl (fun h276 => ?_) (fun h276 => ?_)
        · refine J_b 2 am_d197 rfl ?_
          refine J_icmp_ne 294 (am_d197 rfl) rfl (fun h286 => ?_) (fun h286 => ?_)
          · refine J_b 2 am_d197 rfl ?_
            refine J_icmp_ne 304 (am_d197 rfl) rfl (fun h296 => ?_) (fun h296 => ?_)
            · refine J_b 1 am_d197 rfl ?_
              exact J_iret (am_d197 rfl) rfl rfl ⟨by show some (Value.int _) = some (Value.int (if x = 0 then (Int8.ofInt 116).toInt32 else if x = Int32.ofInt 1 then (Int8.ofInt 111).toInt32 else if x = Int32.ofInt 2 then (Int8.ofInt 110).toInt32 else if x = Int32.ofInt 3 then (Int8.ofInt 103).toInt32 else if x = Int32.ofInt 4 then (Int8.ofInt 117).toInt32 else if x = Int32.ofInt 5 then (Int8.ofInt 101).toInt32 else Int32.ofInt 0)); rw [if_neg h246, if_neg h256, if_neg h266, if_neg h276, if_neg h286, if_neg h296], rfl, rfl⟩
            · refine J_b 2 am_d197 rfl ?_
              exact J_iret (am_d197 rfl) rfl rfl ⟨by show some (Value.int _) = some (Value.int (if x = 0 then (Int8.ofInt 116).toInt32 else if x = Int32.ofInt 1 then (Int8.ofInt 111).toInt32 else if x = Int32.ofInt 2 then (Int8.ofInt 110).toInt32 else if x = Int32.ofInt 3 then (Int8.ofInt 103).toInt32 else if x = Int32.ofInt 4 then (Int8.ofInt 117).toInt32 else if x = Int32.ofInt 5 then (Int8.ofInt 101).toInt32 else Int32.ofInt 0)); rw [if_neg h246, if_neg h256, if_neg h266, if_neg h276, if_neg h286, if_pos h296], rfl, rfl⟩
          · refine J_b 2 am_d197 rfl ?_
            exact J_iret (am_d197 rfl) rfl rfl ⟨by show some (Value.int _) = some (Value.int (if x = 0 then (Int8.ofInt 116).toInt32 else if x = Int32.ofInt 1 then (Int8.ofInt 111).toInt32 else if x = Int32.ofInt 2 then (Int8.ofInt 110).toInt32 else if x = Int32.ofInt 3 then (Int8.ofInt 103).toInt32 else if x = Int32.ofInt 4 then (Int8.ofInt 117).toInt32 else if x = Int32.ofInt 5 then (Int8.ofInt 101).toInt32 else Int32.ofInt 0)); rw [if_neg h246, if_neg h256, if_neg h266, if_neg h276, if_pos h286], rfl, rfl⟩
        · refine J_b 2 am_d197 rfl ?_
          exact J_iret (am_d197 rfl) rfl rfl ⟨by show some (Value.int _) = some (Value.int (if x = 0 then (Int8.ofInt 116).toInt32 else if x = Int32.ofInt 1 then (Int8.ofInt 111).toInt32 else if x = Int32.ofInt 2 then (Int8.ofInt 110).toInt32 else if x = Int32.ofInt 3 then (Int8.ofInt 103).toInt32 else if x = Int32.ofInt 4 then (Int8.ofInt 117).toInt32 else if x = Int32.ofInt 5 then (Int8.ofInt 101).toInt32 else Int32.ofInt 0)); rw [if_neg h246, if_neg h256, if_neg h266, if_pos h276], rfl, rfl⟩
      · refine J_b 2 am_d197 rfl ?_
        exact J_iret (am_d197 rfl) rfl rfl ⟨by show some (Value.int _) = some (Value.int (if x = 0 then (Int8.ofInt 116).toInt32 else if x = Int32.ofInt 1 then (Int8.ofInt 111).toInt32 else if x = Int32.ofInt 2 then (Int8.ofInt 110).toInt32 else if x = Int32.ofInt 3 then (Int8.ofInt 103).toInt32 else if x = Int32.ofInt 4 then (Int8.ofInt 117).toInt32 else if x = Int32.ofInt 5 then (Int8.ofInt 101).toInt32 else Int32.ofInt 0)); rw [if_neg h246, if_neg h256, if_pos h266], rfl, rfl⟩
    · refine J_b 2 am_d197 rfl ?_
      exact J_iret (am_d197 rfl) rfl rfl ⟨by show some (Value.int _) = some (Value.int (if x = 0 then (Int8.ofInt 116).toInt32 else if x = Int32.ofInt 1 then (Int8.ofInt 111).toInt32 else if x = Int32.ofInt 2 then (Int8.ofInt 110).toInt32 else if x = Int32.ofInt 3 then (Int8.ofInt 103).toInt32 else if x = Int32.ofInt 4 then (Int8.ofInt 117).toInt32 else if x = Int32.ofInt 5 then (Int8.ofInt 101).toInt32 else Int32.ofInt 0)); rw [if_neg h246, if_pos h256], rfl, rfl⟩
  · refine J_b 2 am_d197 rfl ?_
    exact J_iret (am_d197 rfl) rfl rfl ⟨by show some (Value.int _) = some (Value.int (if x = 0 then (Int8.ofInt 116).toInt32 else if x = Int32.ofInt 1 then (Int8.ofInt 111).toInt32 else if x = Int32.ofInt 2 then (Int8.ofInt 110).toInt32 else if x = Int32.ofInt 3 then (Int8.ofInt 103).toInt32 else if x = Int32.ofInt 4 then (Int8.ofInt 117).toInt32 else if x = Int32.ofInt 5 then (Int8.ofInt 101).toInt32 else Int32.ofInt 0)); rw [if_pos h246], rfl, rfl⟩
theorem sp197_6 {X : am_X} {M : am_M} {N : am_N} {x : Int32} : am_J X (am_eq (some (.int (sgn 6 x))) M N) 197 0 (am_en 197 [.int (nI 6), .int x]) [] M N := by
  refine J_en (L := [.int (nI 6), .int x]) rfl ?_
  refine J_b 1 am_d197 rfl ?_
  refine J_tsOut 306 (am_d197 rfl) (.inr (by decide)) rfl ?_
  refine J_b 1 am_d197 rfl ?_
  refine J_if_ne 315 (am_d197 rfl) rfl (fun h307 => ?_) (fun h307 => ?_)
  · refine J_b 2 am_d197 rfl ?_
    refine J_icmp_ne 325 (am_d197 rfl) rfl (fun h317 => ?_) (fun h317 => ?_)
    · refine J_b 2 am_d197 rfl ?_
      refine J_icmp_ne 335 (am_d197 rfl) rfl (fun h327 => ?_) (fun h327 => ?_)
      · refine J_b 2 am_d197 rfl ?_
        refine J_icmp_ne 345 (am_d197 rfl) rfl (fun h337 => ?_) (fun h337 => ?_)
        · refine J_b 2 am_d197 rfl ?_
          refine J_icmp_ne 355 (am_d197 rfl) rfl (fun h347 => ?_) (fun h347 => ?_)
          · refine J_b 2 am_d197 rfl ?_
            refine J_icmp_ne 365 (am_d197 rfl) rfl (fun h357 => ?_) (fun h357 => ?_)
            · refine J_b 1 am_d197 rfl ?_
              exact J_iret (am_d197 rfl) rfl rfl ⟨by show some (Value.int _) = some (Value.int (if x = 0 then (Int8.ofInt 119).toInt32 else if x = Int32.ofInt 1 then (Int8.ofInt 101).toInt32 else if x = Int32.ofInt 2 then (Int8.ofInt 105).toInt32 else if x = Int32.ofInt 3 then (Int8.ofInt 103).toInt32 else if x = Int32.ofInt 4 then (Int8.ofInt 104).toInt32 else if x = Int32.ofInt 5 then (Int8.ofInt 116).toInt32 else Int32.ofInt 0)); rw [if_neg h307, if_neg h317, if_neg h327, if_neg h337, if_neg h347, if_neg h357], rfl, rfl⟩
            · refine J_b 2 am_d197 rfl ?_
              exact J_iret (am_d197 rfl) rfl rfl ⟨by show some (Value.int _) = some (Value.int (if x = 0 then (Int8.ofInt 119).toInt32 else if x = Int32.ofInt 1 then (Int8.ofInt 101).toInt32 else if x = Int32.ofInt 2 then (Int8.ofInt 105).toInt32 else if x = Int32.ofInt 3 then (Int8.ofInt 103).toInt32 else if x = Int32.ofInt 4 then (Int8.ofInt 104).toInt32 else if x = Int32.ofInt 5 then (Int8.ofInt 116).toInt32 else Int32.ofInt 0)); rw [if_neg h307, if_neg h317, if_neg h327, if_neg h337, if_neg h347, if_pos h357], rfl, rfl⟩
          · refine J_b 2 am_d197 rfl ?_
            exact J_iret (am_d197 rfl) rfl rfl ⟨by show some (Value.int _) = some (Value.int (if x = 0 then (Int8.ofInt 119).toInt32 else if x = Int32.ofInt 1 then (Int8.ofInt 101).toInt32 else if x = Int32.ofInt 2 then (Int8.ofInt 105).toInt32 else if x = Int32.ofInt 3 then (Int8.ofInt 103).toInt32 else if x = Int32.ofInt 4 then (Int8.ofInt 104).toInt32 else if x = Int32.ofInt 5 then (Int8.ofInt 116).toInt32 else Int32.ofInt 0)); rw [if_neg h307, if_neg h317, if_neg h327, if_neg h337, if_pos h347], rfl, rfl⟩
        · refine J_b 2 am_d197 rfl ?_
          exact J_iret (am_d197 rfl) rfl rfl ⟨by show some (Value.int _) = some (Value.int (if x = 0 then (Int8.ofInt 119).toInt32 else if x = Int32.ofInt 1 then (Int8.ofInt 101).toInt32 else if x = Int32.ofInt 2 then (Int8.ofInt 105).toInt32 else if x = Int32.ofInt 3 then (Int8.ofInt 103).toInt32 else if x = Int32.ofInt 4 then (Int8.ofInt 104).toInt32 else if x = Int32.ofInt 5 then (Int8.ofInt 116).toInt32 else Int32.ofInt 0)); rw [if_neg h307, if_neg h317, if_neg h327, if_pos h337], rfl, rfl⟩
      · refine J_b 2 am_d197 rfl ?_
        exact J_iret (am_d197 rfl) rfl rfl ⟨by show some (Value.int _) = some (Value.int (if x = 0 then (Int8.ofInt 119).toInt32 else if x = Int32.ofInt 1 then (Int8.ofInt 101).toInt32 else if x = Int32.ofInt 2 then (Int8.ofInt 105).toInt32 else if x = Int32.ofInt 3 then (Int8.ofInt 103).toInt32 else if x = Int32.ofInt 4 then (Int8.ofInt 104).toInt32 else if x = Int32.ofInt 5 then (Int8.ofInt 116).toInt32 else Int32.ofInt 0)); rw [if_neg h307, if_neg h317, if_pos h327], rfl, rfl⟩
    · refine J_b 2 am_d197 rfl ?_
      exact J_iret (am_d197 rfl) rfl rfl ⟨by show some (Value.int _) = some (Value.int (if x = 0 then (Int8.ofInt 119).toInt32 else if x = Int32.ofInt 1 then (Int8.ofInt 101).toInt32 else if x = Int32.ofInt 2 then (Int8.ofInt 105).toInt32 else if x = Int32.ofInt 3 then (Int8.ofInt 103).toInt32 else if x = Int32.ofInt 4 then (Int8.ofInt 104).toInt32 else if x = Int32.ofInt 5 then (Int8.ofInt 116).toInt32 else Int32.ofInt 0)); rw [if_neg h307, if_pos h317], rfl, rfl⟩
  · refine J_b 2 am_d197 rfl ?_
    exact J_iret (am_d197 rfl) rfl rfl ⟨by show some (Value.int _) = some (Value.int (if x = 0 then (Int8.ofInt 119).toInt32 else if x = Int32.ofInt 1 then (Int8.ofInt 101).toInt32 else if x = Int32.ofInt 2 then (Int8.ofInt 105).toInt32 else if x = Int32.ofInt 3 then (Int8.ofInt 103).toInt32 else if x = Int32.ofInt 4 then (Int8.ofInt 104).toInt32 else if x = Int32.ofInt 5 then (Int8.ofInt 116).toInt32 else Int32.ofInt 0)); rw [if_pos h307], rfl, rfl⟩
theorem sp197 {X : am_X} {M : am_M} {N : am_N} {w : Nat} (hw : w < 7) {k : Nat} : am_J X (am_eq (some (.int (so w k))) M N) 197 0 (am_en 197 [.int (nI w), .int (nI k)]) [] M N := by
  match w, hw with
  | 0, _ => exact sp197_0
  | 1, _ => exact sp197_1
  | 2, _ => exact sp197_2
  | 3, _ => exact sp197_3
  | 4, _ => exact sp197_4
  | 5, _ => exact sp197_5
  | 6, _ => exact sp197_6
  | (n + 7), h => exact absurd h (by omega)
theorem so_f : ∀ w : Fin 7, (so w.val (rl w.val) = 0 ∧ 1 ≤ rl w.val ∧ rl w.val ≤ 6) ∧ ∀ k : Fin 6, k.val < rl w.val → ¬ so w.val k.val = 0 ∧ ¬ so w.val k.val = -1 := by
  decide +kernel
theorem so_z {w : Nat} (hw : w < 7) : so w (rl w) = 0 ∧ 1 ≤ rl w ∧ rl w ≤ 6 := (so_f ⟨w, hw⟩).1
theorem so_p {w k : Nat} (hw : w < 7) (hk : k < rl w) : ¬ so w k = 0 ∧ ¬ so w k = -1 := (so_f ⟨w, hw⟩).2 ⟨k, by have := (so_z hw).2.2; omega⟩ hk
/-! its place on the tape -/
def ty (M : am_M) (a : Nat) : am_M := am_up M 120 57 (nI a)
theorem ty_n {M : am_M} {a r : Nat} (h : r ≠ 120) : ty M a r = M r := up_n h
theorem ty_1 {M : am_M} {a : Nat} : ty M a 120 55 = M 120 55 := by
  unfold ty
  rw [up_k]
  exact if_neg (by decide)
theorem ty_2 {M : am_M} {a : Nat} : ty M a 120 57 = nI a := up_r
theorem ty_ty {M : am_M} {a b : Nat} : am_up (ty M a) 120 57 (nI b) = ty M b := up_up
theorem ty_up {M : am_M} {a k j : Nat} {v : Int32} (h : ¬ (k = 120 ∧ j = 57)) : am_up (ty M a) k j v = ty (am_up M k j v) a := by
  unfold ty
  funext r i
  unfold am_up
  by_cases e : r = k
  · subst e
    by_cases e2 : r = 120
    · subst e2
      by_cases e3 : i = j
      · subst e3
        have e4 : ¬ i = 57 := fun z => h ⟨rfl, z⟩
        simp [e4]
      · simp [e3]
    · simp [e2]
  · simp [e]
/-- the sign at a place, -1 behind the end -/
def rs_ (t : Nat → Int32) (n a : Nat) : Int32 := if a < n then t a else -1
theorem rs_i {t : Nat → Int32} {n a : Nat} {b : Int32} (hb : ¬ b = -1) : rs_ t n a = b ↔ sg t n b a := by
  unfold rs_
  by_cases h : a < n
  · rw [if_pos h]
    exact ⟨fun z => ⟨h, z⟩, fun z => z.2⟩
  · rw [if_neg h]
    exact ⟨fun z => absurd z.symm hb, fun z => absurd z.1 h⟩
theorem rs_s {t : Nat → Int32} {n a : Nat} {b : Int32} (h : sg t n b a) : rs_ t n a = b := by
  unfold rs_
  rw [if_pos h.1]
  exact h.2
theorem sp198 {X : am_X} {M : am_M} {N : am_N} {n a : Nat} {t : Nat → Int32} (hn : M 120 55 = nI n) (h120 : n ≤ 120) (ht : M 164 = t) (ha : a ≤ n) : am_J X (am_eq (some (.int (rs_ t n a))) (ty M a) N) 198 0 (am_en 198 [.ref 120]) [] (ty M a) N := by
  have q1 : (ty M a) 120 57 = nI a := ty_2
  have q2 : (ty M a) 120 55 = nI n := ty_1.trans hn
  refine J_en (L := [.ref 120]) rfl ?_
  refine J_b 4 am_d198 rfl ?_
  refine J_icmp_ge 23 (am_d198 rfl) rfl (fun h8 => ?_) (fun h8 => ?_)
  · have hge : ¬ a < n := by rw [q1, q2] at h8; exact Nat.not_lt.mpr ((nI_leq (by omega) (by omega)).mp h8)
    refine J_b 1 am_d198 rfl ?_
    exact J_iret (am_d198 rfl) rfl rfl ⟨congrArg (fun z => some (Value.int z)) (if_neg hge).symm, rfl, rfl⟩
  · have hlt : a < n := by rw [q1, q2] at h8; exact Nat.lt_of_not_le (fun z => h8 ((nI_leq (by omega) (by omega)).mpr z))
    refine J_b 4 am_d198 rfl ?_
    rw [q1]
    refine J_iald (am_d198 rfl) rfl (vp_in_nI (show a < 120 by omega) (by decide)) ?_
    rw [nI_c (n := a) (by omega), ty_n (show (164 : Nat) ≠ 120 by decide), ht]
    refine J_b 1 am_d198 rfl ?_
    exact J_iret (am_d198 rfl) rfl rfl ⟨congrArg (fun z => some (Value.int z)) (if_pos hlt).symm, rfl, rfl⟩
theorem sp199t {X : am_X} {M : am_M} {N : am_N} {n a : Nat} {t : Nat → Int32} {b : Int32} (hn : M 120 55 = nI n) (h120 : n ≤ 120) (ht : M 164 = t) (ha : a ≤ n) (hb : ¬ b = -1) (hs : sg t n b a) : am_J X (am_eq (some (.int 1)) (ty M (a + 1)) N) 199 0 (am_en 199 [.ref 120, .int b]) [] (ty M a) N := by
  have q1 : (ty M a) 120 57 = nI a := ty_2
  have q2 : (ty M a) 120 55 = nI n := ty_1.trans hn
  refine J_en (L := [.ref 120, .int b]) rfl ?_
  refine J_b 1 am_d199 rfl ?_
  refine J_V0s 198 (am_d199 rfl) rfl rfl (sp198 hn h120 ht ha) ?_
  refine J_b 1 am_d199 rfl ?_
  refine J_icmp_eq 10 (am_d199 rfl) rfl (fun h5 => ?_) (fun h5 => absurd ((rs_i hb).mpr hs) h5)
  refine J_b 5 am_d199 rfl ?_
  rw [q1]
  refine J_puti (am_d199 rfl) rfl ?_
  rw [show nI a + Int32.ofInt 1 = nI (a + 1) from nI_1 a]
  refine J_mem ty_ty ?_
  refine J_b 1 am_d199 rfl ?_
  exact J_iret (am_d199 rfl) rfl rfl ⟨rfl, rfl, rfl⟩
theorem sp199f {X : am_X} {M : am_M} {N : am_N} {n a : Nat} {t : Nat → Int32} {b : Int32} (hn : M 120 55 = nI n) (h120 : n ≤ 120) (ht : M 164 = t) (ha : a ≤ n) (hb : ¬ b = -1) (hs : ¬ sg t n b a) : am_J X (am_eq (some (.int 0)) (ty M a) N) 199 0 (am_en 199 [.ref 120, .int b]) [] (ty M a) N := by
  have q1 : (ty M a) 120 57 = nI a := ty_2
  have q2 : (ty M a) 120 55 = nI n := ty_1.trans hn
  refine J_en (L := [.ref 120, .int b]) rfl ?_
  refine J_b 1 am_d199 rfl ?_
  refine J_V0s 198 (am_d199 rfl) rfl rfl (sp198 hn h120 ht ha) ?_
  refine J_b 1 am_d199 rfl ?_
  refine J_icmp_eq 10 (am_d199 rfl) rfl (fun h5 => absurd ((rs_i hb).mp h5) hs) (fun h5 => ?_)
  refine J_b 1 am_d199 rfl ?_
  exact J_iret (am_d199 rfl) rfl rfl ⟨rfl, rfl, rfl⟩
theorem lp196 {X : am_X} {M : am_M} {N : am_N} {n w : Nat} {t : Nat → Int32} {f g : Int32} (hn : M 120 55 = nI n) (h120 : n ≤ 120) (ht : M 164 = t) (hw : w < 7) : ∀ (m k : Nat), k + m = rl w → ∀ (x : Int32), x = nI k → ∀ (a : Nat), a ≤ n → am_J X (am_eq (some (.int (if (wd t n (so w) m k a).2 = true then nI w else -1))) (ty M (wd t n (so w) m k a).1) N) 196 25 [.ref 120, .int f, .int g, .int (nI w), .int x] [] (ty M a) N := by
  have hl := so_z hw
  intro m
  induction m with
  | zero =>
    intro k hk x ex a ha
    subst ex
    have hz : so w k = 0 := by rw [show k = rl w by omega]; exact hl.1
    refine J_b 2 am_d196 rfl ?_
    refine J_S2s 197 (am_d196 rfl) rfl rfl (sp197 (k := k) hw) ?_
    refine J_if_eq 63 (am_d196 rfl) rfl (fun h31 => ?_) (fun h31 => absurd (hz) h31)
    refine J_b 2 am_d196 rfl ?_
    refine J_S2s 197 (am_d196 rfl) rfl rfl (sp197 (k := k) hw) ?_
    refine J_if_ne 76 (am_d196 rfl) rfl (fun h69 => absurd hz h69) (fun h69 => ?_)
    refine J_b 2 am_d196 rfl ?_
    exact J_iret (am_d196 rfl) rfl rfl ⟨rfl, rfl, rfl⟩
  | succ m ih =>
    intro k hk x ex a ha
    subst ex
    have hp := so_p (k := k) hw (by omega)
    have q1 : (ty M a) 120 57 = nI a := ty_2
    by_cases hs : sg t n (so w k) a
    · refine J_b 2 am_d196 rfl ?_
      refine J_S2s 197 (am_d196 rfl) rfl rfl (sp197 (k := k) hw) ?_
      refine J_if_eq 63 (am_d196 rfl) rfl (fun h31 => absurd h31 hp.1) (fun h31 => ?_)
      refine J_b 2 am_d196 rfl ?_
      refine J_S2s 197 (am_d196 rfl) rfl rfl (sp197 (k := k) hw) ?_
      refine J_b 1 am_d196 rfl ?_
      refine J_V0s 198 (am_d196 rfl) rfl rfl (sp198 hn h120 ht ha) ?_
      refine J_icmp_ne 63 (am_d196 rfl) rfl (fun h44 => absurd (rs_s hs).symm h44) (fun h44 => ?_)
      refine J_b 6 am_d196 rfl ?_
      rw [q1]
      refine J_puti (am_d196 rfl) rfl ?_
      rw [show nI a + Int32.ofInt 1 = nI (a + 1) from nI_1 a]
      refine J_mem ty_ty ?_
      refine J_b 1 am_d196 rfl ?_
      rw [wd, if_pos hs]
      exact ih (k + 1) (by omega) _ (nI_1 k) _ hs.1
    · refine J_b 2 am_d196 rfl ?_
      refine J_S2s 197 (am_d196 rfl) rfl rfl (sp197 (k := k) hw) ?_
      refine J_if_eq 63 (am_d196 rfl) rfl (fun h31 => absurd h31 hp.1) (fun h31 => ?_)
      refine J_b 2 am_d196 rfl ?_
      refine J_S2s 197 (am_d196 rfl) rfl rfl (sp197 (k := k) hw) ?_
      refine J_b 1 am_d196 rfl ?_
      refine J_V0s 198 (am_d196 rfl) rfl rfl (sp198 hn h120 ht ha) ?_
      refine J_icmp_ne 63 (am_d196 rfl) rfl (fun h44 => ?_) (fun h44 => absurd h44 (fun z => hs ((rs_i hp.2).mp z.symm)))
      refine J_b 2 am_d196 rfl ?_
      refine J_S2s 197 (am_d196 rfl) rfl rfl (sp197 (k := k) hw) ?_
      refine J_if_ne 76 (am_d196 rfl) rfl (fun h69 => ?_) (fun h69 => absurd h69 hp.1)
      refine J_b 1 am_d196 rfl ?_
      exact J_iret (am_d196 rfl) rfl rfl ⟨by rw [wd, if_neg hs]; rfl, by rw [wd, if_neg hs], rfl⟩
/-- the first of d words from w on that begins with the sign at a place: the place behind it, its number or -1 -/
def wr (t : Nat → Int32) (n : Nat) : Nat → Nat → Nat → Nat × Int32
  | 0, _, a => (a, -1)
  | d + 1, w, a => if sg t n (so w 0) a then ((wd t n (so w) (rl w) 0 a).1, if (wd t n (so w) (rl w) 0 a).2 = true then nI w else -1) else wr t n d (w + 1) a
theorem lp196w {X : am_X} {M : am_M} {N : am_N} {n a f T : Nat} {t : Nat → Int32} (hn : M 120 55 = nI n) (h120 : n ≤ 120) (ht : M 164 = t) (ha : a ≤ n) (hT : T ≤ 6) : ∀ (d w : Nat), w + d = T + 1 → ∀ (x : Int32), x = nI w → ∀ (z : Value), am_J X (am_eq (some (.int (wr t n d w a).2)) (ty M (wr t n d w a).1) N) 196 2 [.ref 120, .int (nI f), .int (nI T), .int x, z] [] (ty M a) N := by
  intro d
  induction d with
  | zero =>
    intro w hd x ex z
    subst ex
    have hgt : nI T < nI w := by rw [Int32.lt_iff_toInt_lt, nI_i (by omega), nI_i (by omega)]; omega
    refine J_b 2 am_d196 rfl ?_
    refine J_icmp_gt 84 (am_d196 rfl) rfl (fun h4 => ?_) (fun h4 => absurd (hgt) h4)
    refine J_b 1 am_d196 rfl ?_
    exact J_iret (am_d196 rfl) rfl rfl ⟨rfl, rfl, rfl⟩
  | succ d ih =>
    intro w hd x ex z
    subst ex
    have hw7 : w < 7 := by omega
    have hng : ¬ nI T < nI w := by rw [Int32.lt_iff_toInt_lt, nI_i (by omega), nI_i (by omega)]; omega
    have hp := so_p (k := 0) hw7 (by have := (so_z hw7).2.1; omega)
    by_cases hs : sg t n (so w 0) a
    · refine J_b 2 am_d196 rfl ?_
      refine J_icmp_gt 84 (am_d196 rfl) rfl (fun h4 => absurd h4 hng) (fun h4 => ?_)
      refine J_b 2 am_d196 rfl ?_
      refine J_S2s 197 (am_d196 rfl) rfl rfl (sp197 (w := w) (k := 0) hw7) ?_
      refine J_b 1 am_d196 rfl ?_
      refine J_V0s 198 (am_d196 rfl) rfl rfl (sp198 hn h120 ht ha) ?_
      refine J_icmp_eq 22 (am_d196 rfl) rfl (fun h16 => ?_) (fun h16 => absurd ((rs_s hs).symm) h16)
      refine J_b 2 am_d196 rfl ?_
      rw [wr, if_pos hs]
      exact lp196 hn h120 ht hw7 (rl w) 0 (Nat.zero_add _) _ rfl _ ha
    · refine J_b 2 am_d196 rfl ?_
      refine J_icmp_gt 84 (am_d196 rfl) rfl (fun h4 => absurd h4 hng) (fun h4 => ?_)
      refine J_b 2 am_d196 rfl ?_
      refine J_S2s 197 (am_d196 rfl) rfl rfl (sp197 (w := w) (k := 0) hw7) ?_
      refine J_b 1 am_d196 rfl ?_
      refine J_V0s 198 (am_d196 rfl) rfl rfl (sp198 hn h120 ht ha) ?_
      refine J_icmp_eq 22 (am_d196 rfl) rfl (fun h16 => absurd ((rs_i hp.2).mp h16.symm) hs) (fun h16 => ?_)
      refine J_b 3 am_d196 rfl ?_
      rw [wr, if_neg hs]
      exact ih (w + 1) (by omega) _ (nI_1 w) _
theorem sp196 {X : am_X} {M : am_M} {N : am_N} {n a f T : Nat} {t : Nat → Int32} (hn : M 120 55 = nI n) (h120 : n ≤ 120) (ht : M 164 = t) (ha : a ≤ n) (hT : T ≤ 6) (hf : f ≤ T) : am_J X (am_eq (some (.int (wr t n (T + 1 - f) f a).2)) (ty M (wr t n (T + 1 - f) f a).1) N) 196 0 (am_en 196 [.ref 120, .int (nI f), .int (nI T)]) [] (ty M a) N := by
  refine J_en (L := [.ref 120, .int (nI f), .int (nI T), .retAddr 0, .retAddr 0]) rfl ?_
  refine J_b 2 am_d196 rfl ?_
  exact lp196w hn h120 ht ha hT (T + 1 - f) f (by omega) _ rfl _
theorem dv_s {v d : Int32} {m : Nat} (hv : 0 ≤ v.toInt ∧ (v.toInt + 1) * 10 ^ (m + 1) ≤ 10000) (hd : 48 ≤ d.toInt ∧ d.toInt ≤ 57) : 0 ≤ ((if v < 0 then 0 else v) * 10 + d - 48).toInt ∧ (((if v < 0 then 0 else v) * 10 + d - 48).toInt + 1) * 10 ^ m ≤ 10000 := by
  have z0 : (0 : Int32).toInt = 0 := rfl
  have z10 : (10 : Int32).toInt = 10 := rfl
  have z48 : (48 : Int32).toInt = 48 := rfl
  have hn : ¬ v < 0 := by
    rw [Int32.lt_iff_toInt_lt]
    omega
  have hp : (1 : Int) ≤ 10 ^ m := Int.pow_pos (by decide)
  have e1 : (10 : Int) ^ (m + 1) = 10 ^ m * 10 := Int.pow_succ ..
  rw [e1] at hv
  have h2 : (v.toInt + 1) * 10 ≤ (v.toInt + 1) * (10 ^ m * 10) := Int.mul_le_mul_of_nonneg_left (by omega) (by omega)
  rw [if_neg hn]
  have e2 : (v * 10).toInt = v.toInt * 10 := by rw [I_mul (by rw [z10]; omega), z10]
  have e3 : (v * 10 + d).toInt = v.toInt * 10 + d.toInt := by rw [I_add (by rw [e2]; omega), e2]
  have e4 : (v * 10 + d - 48).toInt = v.toInt * 10 + d.toInt - 48 := by rw [I_sub (by rw [e3, z48]; omega), e3, z48]
  rw [e4]
  refine ⟨by omega, ?_⟩
  have h3 : (v.toInt * 10 + d.toInt - 48 + 1) * 10 ^ m ≤ ((v.toInt + 1) * 10) * 10 ^ m := Int.mul_le_mul_of_nonneg_right (by omega) (by omega)
  have e5 : ((v.toInt + 1) * 10) * 10 ^ m = (v.toInt + 1) * (10 ^ m * 10) := by rw [Int.mul_assoc, Int.mul_comm 10]
  omega
theorem nc_nn {t : Nat → Int32} {n : Nat} : ∀ (m a : Nat) (v : Int32), (0 ≤ v.toInt ∧ (v.toInt + 1) * 10 ^ m ≤ 10000) → 0 ≤ (nc t n m a v).2.toInt := by
  intro m
  induction m with
  | zero => exact fun a v h => h.1
  | succ m ih =>
    intro a v h
    rw [nc]
    split
    · rename_i hd
      exact ih _ _ (dv_s h hd.2)
    · exact h.1
theorem nc_0 {t : Nat → Int32} {n a : Nat} (hd : dg t n a) : nc t n 4 a (-1) = nc t n 4 a 0 := by
  rw [show nc t n 4 a (-1) = if dg t n a then nc t n 3 (a + 1) ((if (-1 : Int32) < 0 then 0 else -1) * 10 + t a - 48) else (a, -1) from rfl, show nc t n 4 a 0 = if dg t n a then nc t n 3 (a + 1) ((if (0 : Int32) < 0 then 0 else 0) * 10 + t a - 48) else (a, 0) from rfl, if_pos hd, if_pos hd]
  rfl
theorem nc_dg {t : Nat → Int32} {n a : Nat} : 0 ≤ (nc t n 4 a (-1)).2 ↔ dg t n a := by
  by_cases hd : dg t n a
  · refine ⟨fun _ => hd, fun _ => ?_⟩
    rw [nc_0 hd, Int32.le_iff_toInt_le]
    exact nc_nn 4 a 0 ⟨by decide, by decide⟩
  · refine ⟨fun z => ?_, fun z => absurd z hd⟩
    rw [nc, if_neg hd] at z
    exact absurd (show (0 : Int32) ≤ -1 from z) (by decide)
theorem nc_ndg {t : Nat → Int32} {n a : Nat} (hd : ¬ dg t n a) : nc t n 4 a (-1) = (a, -1) := by rw [nc, if_neg hd]
theorem rs_dg {t : Nat → Int32} {n a : Nat} : (48 ≤ (rs_ t n a).toInt ∧ (rs_ t n a).toInt ≤ 57) ↔ dg t n a := by
  unfold rs_
  by_cases h : a < n
  · rw [if_pos h]
    exact ⟨fun z => ⟨h, z⟩, fun z => z.2⟩
  · rw [if_neg h]
    refine ⟨fun z => ?_, fun z => absurd z.1 h⟩
    have e : (-1 : Int32).toInt = -1 := rfl
    omega
theorem lp200 {X : am_X} {M : am_M} {N : am_N} {n : Nat} {t : Nat → Int32} (hn : M 120 55 = nI n) (h120 : n ≤ 120) (ht : M 164 = t) : ∀ (m i : Nat), i + m = 4 → ∀ (x : Int32), x = nI i → ∀ (a : Nat), a ≤ n → ∀ (v : Int32), (0 ≤ v.toInt ∧ (v.toInt + 1) * 10 ^ m ≤ 10000) → am_J X (am_eq (some (.int 1)) (ty (am_up M 120 58 (nc t n m a v).2) (nc t n m a v).1) N) 200 19 [.ref 120, .int x] [] (ty (am_up M 120 58 v) a) N := by
  intro m
  induction m with
  | zero =>
    intro i hi x ex a ha v hv
    subst ex
    have hge : Int32.ofInt 4 ≤ nI i := by rw [show i = 4 by omega]; exact Int32.le_refl _
    refine J_b 2 am_d200 rfl ?_
    refine J_icmp_ge 69 (am_d200 rfl) rfl (fun h21 => ?_) (fun h21 => absurd (hge) h21)
    refine J_b 1 am_d200 rfl ?_
    exact J_iret (am_d200 rfl) rfl rfl ⟨rfl, rfl, rfl⟩
  | succ m ih =>
    intro i hi x ex a ha v hv
    subst ex
    by_cases hd : dg t n a
    · have q1' : (ty (am_up M 120 58 ((if v < 0 then 0 else v) * 10 + t a - 48)) a) 120 57 = nI a := ty_2
      have hnv : ¬ v < 0 := by
        rw [Int32.lt_iff_toInt_lt]
        have z0 : (0 : Int32).toInt = 0 := rfl
        omega
      have ev : (10 : Int32) * v + rs_ t n a - 48 = (if v < 0 then 0 else v) * 10 + t a - 48 := by
        rw [if_neg hnv, Int32.mul_comm, rs_s ⟨hd.1, rfl⟩]
      refine J_b 2 am_d200 rfl ?_
      refine J_icmp_ge 69 (am_d200 rfl) rfl (fun h21 => absurd h21 (nI_ngt (b := 4) (by omega) (by decide))) (fun h21 => ?_)
      refine J_b 1 am_d200 rfl ?_
      refine J_V0s 198 (am_d200 rfl) rfl rfl (sp198 (M := (am_up M 120 58 v)) hn h120 ht ha) ?_
      refine J_S1s 201 (am_d200 rfl) rfl rfl (sp201) ?_
      refine J_if_eq 69 (am_d200 rfl) rfl (fun h31 => absurd h31 (am_bi1.mpr (rs_dg.mpr hd))) (fun h31 => ?_)
      refine J_b 6 am_d200 rfl ?_
      refine J_V0s 198 (am_d200 rfl) rfl rfl (sp198 (M := (am_up M 120 58 v)) hn h120 ht ha) ?_
      refine J_b 3 am_d200 rfl ?_
      refine J_puti (am_d200 rfl) rfl ?_
      refine J_mem (ty_up (by decide)) ?_
      refine J_mem (congrArg (fun z => ty z a) up_up) ?_
      rw [show (Int8.ofInt 10).toInt32 * ty (am_up M 120 58 v) a 120 58 + rs_ t n a - (Int8.ofInt 48).toInt32 = (if v < 0 then 0 else v) * 10 + t a - 48 from ev]
      refine J_b 5 am_d200 rfl ?_
      rw [q1']
      refine J_puti (am_d200 rfl) rfl ?_
      rw [show nI a + Int32.ofInt 1 = nI (a + 1) from nI_1 a]
      refine J_mem ty_ty ?_
      refine J_b 2 am_d200 rfl ?_
      rw [nc, if_pos hd]
      exact ih (i + 1) (by omega) _ (nI_1 i) _ hd.1 _ (dv_s hv hd.2)
    · refine J_b 2 am_d200 rfl ?_
      refine J_icmp_ge 69 (am_d200 rfl) rfl (fun h21 => absurd h21 (nI_ngt (b := 4) (by omega) (by decide))) (fun h21 => ?_)
      refine J_b 1 am_d200 rfl ?_
      refine J_V0s 198 (am_d200 rfl) rfl rfl (sp198 (M := (am_up M 120 58 v)) hn h120 ht ha) ?_
      refine J_S1s 201 (am_d200 rfl) rfl rfl (sp201) ?_
      refine J_if_eq 69 (am_d200 rfl) rfl (fun h31 => ?_) (fun h31 => absurd (am_bi0.mpr (fun z => hd (rs_dg.mp z))) h31)
      refine J_b 1 am_d200 rfl ?_
      exact J_iret (am_d200 rfl) rfl rfl ⟨rfl, by rw [nc, if_neg hd], rfl⟩
theorem sp200f {X : am_X} {M : am_M} {N : am_N} {n a : Nat} {t : Nat → Int32} (hn : M 120 55 = nI n) (h120 : n ≤ 120) (ht : M 164 = t) (ha : a ≤ n) (hd : ¬ dg t n a) : am_J X (am_eq (some (.int 0)) (ty M a) N) 200 0 (am_en 200 [.ref 120]) [] (ty M a) N := by
  refine J_en (L := [.ref 120, .retAddr 0]) rfl ?_
  refine J_b 1 am_d200 rfl ?_
  refine J_V0s 198 (am_d200 rfl) rfl rfl (sp198 hn h120 ht ha) ?_
  refine J_S1s 201 (am_d200 rfl) rfl rfl (sp201) ?_
  refine J_if_ne 12 (am_d200 rfl) rfl (fun h7 => absurd (am_bi1.mp h7) (fun z => hd (rs_dg.mp z))) (fun h7 => ?_)
  refine J_b 1 am_d200 rfl ?_
  exact J_iret (am_d200 rfl) rfl rfl ⟨rfl, rfl, rfl⟩
theorem sp200t {X : am_X} {M : am_M} {N : am_N} {n a : Nat} {t : Nat → Int32} (hn : M 120 55 = nI n) (h120 : n ≤ 120) (ht : M 164 = t) (ha : a ≤ n) (hd : dg t n a) : am_J X (am_eq (some (.int 1)) (ty (am_up M 120 58 (nc t n 4 a (-1)).2) (nc t n 4 a (-1)).1) N) 200 0 (am_en 200 [.ref 120]) [] (ty M a) N := by
  refine J_en (L := [.ref 120, .retAddr 0]) rfl ?_
  refine J_b 1 am_d200 rfl ?_
  refine J_V0s 198 (am_d200 rfl) rfl rfl (sp198 hn h120 ht ha) ?_
  refine J_S1s 201 (am_d200 rfl) rfl rfl (sp201) ?_
  refine J_if_ne 12 (am_d200 rfl) rfl (fun h7 => ?_) (fun h7 => absurd h7 (am_bi1.mpr (rs_dg.mpr hd)))
  refine J_b 2 am_d200 rfl ?_
  refine J_puti (am_d200 rfl) rfl ?_
  refine J_mem (ty_up (by decide)) ?_
  refine J_b 2 am_d200 rfl ?_
  rw [nc_0 hd]
  exact lp200 hn h120 ht 4 0 rfl _ rfl _ ha _ ⟨by decide, by decide⟩
