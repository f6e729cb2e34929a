/-! ===== cast: the methods, the pair ===== -/
theorem sp27a {X : am_X} {M : am_M} {N : am_N} {kd fi mn mo p mr : Int32} (g1 : ¬ ((0 ≤ p.toInt ∧ p.toInt < 60) ∧ 0 ≤ mo.toInt ∧ mo.toInt < 48)) : am_J X (am_eq (some (.int (-1))) (M) N) 27 0 (am_en 27 [.ref 0, .int kd, .int fi, .int mn, .int mo, .int p, .int mr]) [] M N := by
  refine J_en (L := [.ref 0, .int kd, .int fi, .int mn, .int mo, .int p, .int mr, .retAddr 0, .retAddr 0]) rfl ?_
  refine J_b 2 am_d27 rfl ?_
  refine J_S2s 13 (am_d27 rfl) rfl rfl (sp13) ?_
  refine J_if_eq 20 (am_d27 rfl) rfl (fun h7 => ?_) (fun h7 => ?_)
  · refine J_b 1 am_d27 rfl ?_
    exact J_iret (am_d27 rfl) rfl rfl ⟨rfl, rfl, rfl⟩
  · refine J_b 2 am_d27 rfl ?_
    refine J_S2s 13 (am_d27 rfl) rfl rfl (sp13) ?_
    refine J_if_ne 22 (am_d27 rfl) rfl (fun h17 => ?_) (fun h17 => ?_)
    · exact absurd (show (0 ≤ p.toInt ∧ p.toInt < 60) ∧ 0 ≤ mo.toInt ∧ mo.toInt < 48 from ⟨am_bi1.mp h7, am_bi1.mp h17⟩) g1
    · refine J_b 1 am_d27 rfl ?_
      exact J_iret (am_d27 rfl) rfl rfl ⟨rfl, rfl, rfl⟩
theorem sp27b {X : am_X} {M : am_M} {N : am_N} {kd fi mn mo p mr : Int32} (g1 : (0 ≤ p.toInt ∧ p.toInt < 60) ∧ 0 ≤ mo.toInt ∧ mo.toInt < 48) (g2 : ¬ ((0 ≤ kd.toInt ∧ kd.toInt ≤ 3) ∧ c_nu fi mn ∧ c_mr kd mr)) : am_J X (am_eq (some (.int (-2))) (M) N) 27 0 (am_en 27 [.ref 0, .int kd, .int fi, .int mn, .int mo, .int p, .int mr]) [] M N := by
  refine J_en (L := [.ref 0, .int kd, .int fi, .int mn, .int mo, .int p, .int mr, .retAddr 0, .retAddr 0]) rfl ?_
  refine J_b 2 am_d27 rfl ?_
  refine J_S2s 13 (am_d27 rfl) rfl rfl (sp13) ?_
  refine J_if_eq 20 (am_d27 rfl) rfl (fun h7 => absurd h7 (am_bi1.mpr g1.1)) (fun h7 => ?_)
  refine J_b 2 am_d27 rfl ?_
  refine J_S2s 13 (am_d27 rfl) rfl rfl (sp13) ?_
  refine J_if_ne 22 (am_d27 rfl) rfl (fun h17 => ?_) (fun h17 => absurd h17 (am_bi1.mpr g1.2))
  refine J_b 3 am_d27 rfl ?_
  refine J_S3s 14 (am_d27 rfl) rfl rfl (sp14) ?_
  refine J_if_eq 48 (am_d27 rfl) rfl (fun h28 => ?_) (fun h28 => ?_)
  · refine J_b 1 am_d27 rfl ?_
    exact J_iret (am_d27 rfl) rfl rfl ⟨rfl, rfl, rfl⟩
  · refine J_b 2 am_d27 rfl ?_
    refine J_S2s 28 (am_d27 rfl) rfl rfl (sp28) ?_
    refine J_if_eq 48 (am_d27 rfl) rfl (fun h36 => ?_) (fun h36 => ?_)
    · refine J_b 1 am_d27 rfl ?_
      exact J_iret (am_d27 rfl) rfl rfl ⟨rfl, rfl, rfl⟩
    · refine J_b 2 am_d27 rfl ?_
      refine J_S2s 29 (am_d27 rfl) rfl rfl (sp29) ?_
      refine J_if_ne 51 (am_d27 rfl) rfl (fun h45 => ?_) (fun h45 => ?_)
      · exact absurd (show (0 ≤ kd.toInt ∧ kd.toInt ≤ 3) ∧ c_nu fi mn ∧ c_mr kd mr from ⟨am_bi1.mp h28, am_bi1.mp h36, am_bi1.mp h45⟩) g2
      · refine J_b 1 am_d27 rfl ?_
        exact J_iret (am_d27 rfl) rfl rfl ⟨rfl, rfl, rfl⟩
theorem sp27s {X : am_X} {M : am_M} {N : am_N} {kd fi mn mr : Int32} {mo p S : Nat} (hp : p < 60) (hm : mo < 48) (hS5 : S ≤ 5) (eS : M 18 7 = nI S) (g2 : (0 ≤ kd.toInt ∧ kd.toInt ≤ 3) ∧ c_nu fi mn ∧ c_mr kd mr) (g3 : ¬ (M 3 p = 0 ∧ ¬ c_hn M S (mr / 100) fi mn)) : am_J X (am_eq (some (.int (-3))) (M) N) 27 0 (am_en 27 [.ref 0, .int kd, .int fi, .int mn, .int (nI mo), .int (nI p), .int mr]) [] M N := by
  have i1 := nI_i (n := p) (by omega)
  have i2 := nI_i (n := mo) (by omega)
  refine J_en (L := [.ref 0, .int kd, .int fi, .int mn, .int (nI mo), .int (nI p), .int mr, .retAddr 0, .retAddr 0]) rfl ?_
  refine J_b 2 am_d27 rfl ?_
  refine J_S2s 13 (am_d27 rfl) rfl rfl (sp13) ?_
  refine J_if_eq 20 (am_d27 rfl) rfl (fun h7 => absurd h7 (am_bi1.mpr (by rw [i1]; exact ⟨by omega, by show (p : Int) < 60; omega⟩))) (fun h7 => ?_)
  refine J_b 2 am_d27 rfl ?_
  refine J_S2s 13 (am_d27 rfl) rfl rfl (sp13) ?_
  refine J_if_ne 22 (am_d27 rfl) rfl (fun h17 => ?_) (fun h17 => absurd h17 (am_bi1.mpr (by rw [i2]; exact ⟨by omega, by show (mo : Int) < 48; omega⟩)))
  refine J_b 3 am_d27 rfl ?_
  refine J_S3s 14 (am_d27 rfl) rfl rfl (sp14) ?_
  refine J_if_eq 48 (am_d27 rfl) rfl (fun h28 => absurd h28 (am_bi1.mpr g2.1)) (fun h28 => ?_)
  refine J_b 2 am_d27 rfl ?_
  refine J_S2s 28 (am_d27 rfl) rfl rfl (sp28) ?_
  refine J_if_eq 48 (am_d27 rfl) rfl (fun h36 => absurd h36 (am_bi1.mpr g2.2.1)) (fun h36 => ?_)
  refine J_b 2 am_d27 rfl ?_
  refine J_S2s 29 (am_d27 rfl) rfl rfl (sp29) ?_
  refine J_if_ne 51 (am_d27 rfl) rfl (fun h45 => ?_) (fun h45 => absurd h45 (am_bi1.mpr g2.2.2))
  refine J_b 7 am_d27 rfl ?_
  refine J_V1s 30 (am_d27 rfl) rfl rfl (sp30 hp) ?_
  refine J_if_eq 84 (am_d27 rfl) rfl (fun h67 => ?_) (fun h67 => ?_)
  · refine J_b 1 am_d27 rfl ?_
    exact J_iret (am_d27 rfl) rfl rfl ⟨rfl, rfl, rfl⟩
  · refine J_b 5 am_d27 rfl ?_
    refine J_V3s 31 (am_d27 rfl) rfl rfl (sp31 hS5 eS) ?_
    refine J_if_eq 87 (am_d27 rfl) rfl (fun h81 => ?_) (fun h81 => ?_)
    · exact absurd (show M 3 p = 0 ∧ ¬ c_hn M S (mr / 100) fi mn from ⟨am_bi1.mp h67, am_bi0.mp h81⟩) g3
    · refine J_b 1 am_d27 rfl ?_
      exact J_iret (am_d27 rfl) rfl rfl ⟨rfl, rfl, rfl⟩
theorem sp27d {X : am_X} {M : am_M} {N : am_N} {kd fi mn mr : Int32} {mo p S : Nat} (hp : p < 60) (hm : mo < 48) (hS5 : S ≤ 5) (eS : M 18 7 = nI S) (g2 : (0 ≤ kd.toInt ∧ kd.toInt ≤ 3) ∧ c_nu fi mn ∧ c_mr kd mr) (g3 : M 3 p = 0 ∧ ¬ c_hn M S (mr / 100) fi mn) (g4 : ¬ M 18 7 < 5) : am_J X (am_eq (some (.int (-4))) (M) N) 27 0 (am_en 27 [.ref 0, .int kd, .int fi, .int mn, .int (nI mo), .int (nI p), .int mr]) [] M N := by
  have i1 := nI_i (n := p) (by omega)
  have i2 := nI_i (n := mo) (by omega)
  refine J_en (L := [.ref 0, .int kd, .int fi, .int mn, .int (nI mo), .int (nI p), .int mr, .retAddr 0, .retAddr 0]) rfl ?_
  refine J_b 2 am_d27 rfl ?_
  refine J_S2s 13 (am_d27 rfl) rfl rfl (sp13) ?_
  refine J_if_eq 20 (am_d27 rfl) rfl (fun h7 => absurd h7 (am_bi1.mpr (by rw [i1]; exact ⟨by omega, by show (p : Int) < 60; omega⟩))) (fun h7 => ?_)
  refine J_b 2 am_d27 rfl ?_
  refine J_S2s 13 (am_d27 rfl) rfl rfl (sp13) ?_
  refine J_if_ne 22 (am_d27 rfl) rfl (fun h17 => ?_) (fun h17 => absurd h17 (am_bi1.mpr (by rw [i2]; exact ⟨by omega, by show (mo : Int) < 48; omega⟩)))
  refine J_b 3 am_d27 rfl ?_
  refine J_S3s 14 (am_d27 rfl) rfl rfl (sp14) ?_
  refine J_if_eq 48 (am_d27 rfl) rfl (fun h28 => absurd h28 (am_bi1.mpr g2.1)) (fun h28 => ?_)
  refine J_b 2 am_d27 rfl ?_
  refine J_S2s 28 (am_d27 rfl) rfl rfl (sp28) ?_
  refine J_if_eq 48 (am_d27 rfl) rfl (fun h36 => absurd h36 (am_bi1.mpr g2.2.1)) (fun h36 => ?_)
  refine J_b 2 am_d27 rfl ?_
  refine J_S2s 29 (am_d27 rfl) rfl rfl (sp29) ?_
  refine J_if_ne 51 (am_d27 rfl) rfl (fun h45 => ?_) (fun h45 => absurd h45 (am_bi1.mpr g2.2.2))
  refine J_b 7 am_d27 rfl ?_
  refine J_V1s 30 (am_d27 rfl) rfl rfl (sp30 hp) ?_
  refine J_if_eq 84 (am_d27 rfl) rfl (fun h67 => absurd h67 (am_bi1.mpr g3.1)) (fun h67 => ?_)
  refine J_b 5 am_d27 rfl ?_
  refine J_V3s 31 (am_d27 rfl) rfl rfl (sp31 hS5 eS) ?_
  refine J_if_eq 87 (am_d27 rfl) rfl (fun h81 => ?_) (fun h81 => absurd (am_bi0.mpr g3.2) h81)
  refine J_b 4 am_d27 rfl ?_
  refine J_icmp_lt 101 (am_d27 rfl) rfl (fun h95 => absurd h95 g4) (fun h95 => ?_)
  refine J_b 1 am_d27 rfl ?_
  exact J_iret (am_d27 rfl) rfl rfl ⟨rfl, rfl, rfl⟩
theorem sp27c {X : am_X} {M : am_M} {N : am_N} {kd fi mn mr : Int32} {mo p S F : Nat} (hp : p < 60) (hm : mo < 48) (hS5 : S < 5) (eS : M 18 7 = nI S) (g2 : (0 ≤ kd.toInt ∧ kd.toInt ≤ 3) ∧ c_nu fi mn ∧ c_mr kd mr) (g3 : M 3 p = 0 ∧ ¬ c_hn M S (mr / 100) fi mn) (hF : F ≤ 16) (eF : M 32 7 = nI F) : am_J X (am_eq (some (.int (nI S))) (am_up (m_cc (am_up (am_up (am_up (am_up (am_up (am_up (am_up (am_up M 19 S kd) 20 S fi) 21 S mn) 22 S (nI mo)) 23 S (nI p)) 24 S (mr / 100)) 25 S (mr - mr / 100 * 100)) 18 7 (nI S + 1)) S F) 1 11 (M 1 11 + 1)) N) 27 0 (am_en 27 [.ref 0, .int kd, .int fi, .int mn, .int (nI mo), .int (nI p), .int mr]) [] M N := by
  have i1 := nI_i (n := p) (by omega)
  have i2 := nI_i (n := mo) (by omega)
  have iS := nI_i (n := S) (by omega)
  have hlt : M 18 7 < 5 := by rw [eS, Int32.lt_iff_toInt_lt, iS]; show (S : Int) < 5; omega
  have qa := sp32 (X := X) (M := M) (N := N) (kd := kd) (fi := fi) (mn := mn) (mo := nI mo) (p := nI p) (ca := mr / 100) (sk := mr - mr / 100 * 100) (by rw [eS, iS]; omega)
  rw [eS, nI_c (n := S) (by omega)] at qa
  have qm := sp33 (X := X) (N := N) (M := am_up (am_up (am_up (am_up (am_up (am_up (am_up (am_up M 19 S kd) 20 S fi) 21 S mn) 22 S (nI mo)) 23 S (nI p)) 24 S (mr / 100)) 25 S (mr - mr / 100 * 100)) 18 7 (nI S + 1)) (c := S) (F := F) hF eF (by omega) (by show b_in (if S = S then mn else M 21 S) 0 1000; rw [if_pos rfl]; exact ⟨by have := g2.2.1.2.1.1; omega, g2.2.1.2.1.2⟩)
  refine J_en (L := [.ref 0, .int kd, .int fi, .int mn, .int (nI mo), .int (nI p), .int mr, .retAddr 0, .retAddr 0]) rfl ?_
  refine J_b 2 am_d27 rfl ?_
  refine J_S2s 13 (am_d27 rfl) rfl rfl (sp13) ?_
  refine J_if_eq 20 (am_d27 rfl) rfl (fun h7 => absurd h7 (am_bi1.mpr (by rw [i1]; exact ⟨by omega, by show (p : Int) < 60; omega⟩))) (fun h7 => ?_)
  refine J_b 2 am_d27 rfl ?_
  refine J_S2s 13 (am_d27 rfl) rfl rfl (sp13) ?_
  refine J_if_ne 22 (am_d27 rfl) rfl (fun h17 => ?_) (fun h17 => absurd h17 (am_bi1.mpr (by rw [i2]; exact ⟨by omega, by show (mo : Int) < 48; omega⟩)))
  refine J_b 3 am_d27 rfl ?_
  refine J_S3s 14 (am_d27 rfl) rfl rfl (sp14) ?_
  refine J_if_eq 48 (am_d27 rfl) rfl (fun h28 => absurd h28 (am_bi1.mpr g2.1)) (fun h28 => ?_)
  refine J_b 2 am_d27 rfl ?_
  refine J_S2s 28 (am_d27 rfl) rfl rfl (sp28) ?_
  refine J_if_eq 48 (am_d27 rfl) rfl (fun h36 => absurd h36 (am_bi1.mpr g2.2.1)) (fun h36 => ?_)
  refine J_b 2 am_d27 rfl ?_
  refine J_S2s 29 (am_d27 rfl) rfl rfl (sp29) ?_
  refine J_if_ne 51 (am_d27 rfl) rfl (fun h45 => ?_) (fun h45 => absurd h45 (am_bi1.mpr g2.2.2))
  refine J_b 7 am_d27 rfl ?_
  refine J_V1s 30 (am_d27 rfl) rfl rfl (sp30 hp) ?_
  refine J_if_eq 84 (am_d27 rfl) rfl (fun h67 => absurd h67 (am_bi1.mpr g3.1)) (fun h67 => ?_)
  refine J_b 5 am_d27 rfl ?_
  refine J_V3s 31 (am_d27 rfl) rfl rfl (sp31 (by omega) eS) ?_
  refine J_if_eq 87 (am_d27 rfl) rfl (fun h81 => ?_) (fun h81 => absurd (am_bi0.mpr g3.2) h81)
  refine J_b 4 am_d27 rfl ?_
  refine J_icmp_lt 101 (am_d27 rfl) rfl (fun h95 => ?_) (fun h95 => absurd (hlt) h95)
  refine J_b 11 am_d27 rfl ?_
  refine J_V7s 32 (am_d27 rfl) rfl rfl (qa) ?_
  refine J_b 4 am_d27 rfl ?_
  refine J_V1n 33 (am_d27 rfl) rfl rfl (qm) ?_
  refine J_b 6 am_d27 rfl ?_
  refine J_puti (am_d27 rfl) rfl ?_
  refine J_b 1 am_d27 rfl ?_
  exact J_iret (am_d27 rfl) rfl rfl ⟨rfl, rfl, rfl⟩
theorem sp150a {X : am_X} {M : am_M} {N : am_N} {kd fi mn mo p mr : Int32} (g1 : ¬ ((0 ≤ p.toInt ∧ p.toInt < 60) ∧ 0 ≤ mo.toInt ∧ mo.toInt < 48)) : am_J X (am_eq (some (.int (-1))) (M) N) 150 0 (am_en 150 [.ref 120, .int kd, .int fi, .int mn, .int mo, .int p, .int mr]) [] M N := by
  refine J_en (L := [.ref 120, .int kd, .int fi, .int mn, .int mo, .int p, .int mr, .retAddr 0]) rfl ?_
  refine J_b 4 am_d150 rfl ?_
  refine J_S3s 140 (am_d150 rfl) rfl rfl (sp140) ?_
  refine J_if_eq 26 (am_d150 rfl) rfl (fun h10 => ?_) (fun h10 => ?_)
  · refine J_b 1 am_d150 rfl ?_
    exact J_iret (am_d150 rfl) rfl rfl ⟨rfl, rfl, rfl⟩
  · refine J_b 4 am_d150 rfl ?_
    refine J_S3s 140 (am_d150 rfl) rfl rfl (sp140) ?_
    refine J_if_ne 28 (am_d150 rfl) rfl (fun h23 => ?_) (fun h23 => ?_)
    · exact absurd (show (0 ≤ p.toInt ∧ p.toInt < 60) ∧ 0 ≤ mo.toInt ∧ mo.toInt < 48 by simp [am_bi0, am_bi1] at * <;> omega) g1
    · refine J_b 1 am_d150 rfl ?_
      exact J_iret (am_d150 rfl) rfl rfl ⟨rfl, rfl, rfl⟩
theorem sp150b {X : am_X} {M : am_M} {N : am_N} {kd fi mn mo p mr : Int32} (g1 : (0 ≤ p.toInt ∧ p.toInt < 60) ∧ 0 ≤ mo.toInt ∧ mo.toInt < 48) (g2 : ¬ ((0 ≤ kd.toInt ∧ kd.toInt ≤ 3) ∧ c_nu fi mn ∧ c_mr kd mr)) : am_J X (am_eq (some (.int (-2))) (M) N) 150 0 (am_en 150 [.ref 120, .int kd, .int fi, .int mn, .int mo, .int p, .int mr]) [] M N := by
  refine J_en (L := [.ref 120, .int kd, .int fi, .int mn, .int mo, .int p, .int mr, .retAddr 0]) rfl ?_
  refine J_b 4 am_d150 rfl ?_
  refine J_S3s 140 (am_d150 rfl) rfl rfl (sp140) ?_
  refine J_if_eq 26 (am_d150 rfl) rfl (fun h10 => (by exfalso; clear g2; simp [am_bi0, am_bi1] at * <;> omega)) (fun h10 => ?_)
  refine J_b 4 am_d150 rfl ?_
  refine J_S3s 140 (am_d150 rfl) rfl rfl (sp140) ?_
  refine J_if_ne 28 (am_d150 rfl) rfl (fun h23 => ?_) (fun h23 => (by exfalso; clear g2; simp [am_bi0, am_bi1] at * <;> omega))
  refine J_b 4 am_d150 rfl ?_
  refine J_S3s 140 (am_d150 rfl) rfl rfl (sp140) ?_
  refine J_if_eq 81 (am_d150 rfl) rfl (fun h37 => ?_) (fun h37 => ?_)
  · refine J_b 1 am_d150 rfl ?_
    exact J_iret (am_d150 rfl) rfl rfl ⟨rfl, rfl, rfl⟩
  · refine J_b 4 am_d150 rfl ?_
    refine J_S3s 140 (am_d150 rfl) rfl rfl (sp140) ?_
    refine J_if_eq 81 (am_d150 rfl) rfl (fun h49 => ?_) (fun h49 => ?_)
    · refine J_b 1 am_d150 rfl ?_
      exact J_iret (am_d150 rfl) rfl rfl ⟨rfl, rfl, rfl⟩
    · refine J_b 7 am_d150 rfl ?_
      refine J_S3s 140 (am_d150 rfl) rfl rfl (sp140) ?_
      refine J_if_eq 81 (am_d150 rfl) rfl (fun h64 => ?_) (fun h64 => ?_)
      · refine J_b 1 am_d150 rfl ?_
        exact J_iret (am_d150 rfl) rfl rfl ⟨rfl, rfl, rfl⟩
      · refine J_b 1 am_d150 rfl ?_
        refine J_if_lt 81 (am_d150 rfl) rfl (fun h69 => ?_) (fun h69 => ?_)
        · refine J_b 1 am_d150 rfl ?_
          exact J_iret (am_d150 rfl) rfl rfl ⟨rfl, rfl, rfl⟩
        · refine J_b 4 am_d150 rfl ?_
          refine J_icmp_le 84 (am_d150 rfl) rfl (fun h78 => ?_) (fun h78 => ?_)
          · have a37 : 0 ≤ kd.toInt ∧ kd.toInt ≤ 3 := by have q := am_bi1.mp h37; rw [Int32.toInt_toInt64] at q; exact q
            have a49 : 1 ≤ mn.toInt ∧ mn.toInt ≤ 1000 := by have q := am_bi1.mp h49; rw [Int32.toInt_toInt64] at q; exact q
            have e10 : ((Int16.ofInt 10000).toInt32 - mn).toInt = 10000 - mn.toInt := by rw [I_sub (by show -2147483648 ≤ (10000 : Int) - mn.toInt ∧ (10000 : Int) - mn.toInt < 2147483648; omega)]; rfl
            have a64 : 0 ≤ fi.toInt ∧ fi.toInt ≤ 10000 - mn.toInt := by have q := am_bi1.mp h64; rw [Int32.toInt_toInt64, Int32.toInt_toInt64, e10] at q; exact q
            have hm0 : 0 ≤ mr.toInt := Int.not_lt.mp (fun z => h69 (Int32.lt_iff_toInt_lt.mpr z))
            have hd := mr_d hm0
            have h78b : (mr / 100).toInt ≤ 3 := Int32.le_iff_toInt_le.mp h78
            refine J_b 2 am_d150 rfl ?_
            refine J_icmp_ne 108 (am_d150 rfl) rfl (fun h86 => ?_) (fun h86 => ?_)
            · refine J_b 3 am_d150 rfl ?_
              refine J_if_eq 119 (am_d150 rfl) rfl (fun h113 => ?_) (fun h113 => ?_)
              · exact absurd (show (0 ≤ kd.toInt ∧ kd.toInt ≤ 3) ∧ c_nu fi mn ∧ c_mr kd mr from ⟨a37, ⟨⟨a64.1, by omega⟩, a49, by omega⟩, ⟨hm0, by omega⟩, fun z => absurd z h86, fun _ => by rw [← hd.2, show mr - mr / 100 * 100 = 0 from h113]; rfl⟩) g2
              · refine J_b 1 am_d150 rfl ?_
                exact J_iret (am_d150 rfl) rfl rfl ⟨rfl, rfl, rfl⟩
            · refine J_b 6 am_d150 rfl ?_
              refine J_S3s 140 (am_d150 rfl) rfl rfl (sp140) ?_
              refine J_if_ne 119 (am_d150 rfl) rfl (fun h102 => ?_) (fun h102 => ?_)
              · have a102 : 1 ≤ (mr - mr / 100 * 100).toInt ∧ (mr - mr / 100 * 100).toInt ≤ 12 := by have q := am_bi1.mp h102; rw [Int32.toInt_toInt64] at q; exact q
                exact absurd (show (0 ≤ kd.toInt ∧ kd.toInt ≤ 3) ∧ c_nu fi mn ∧ c_mr kd mr from ⟨a37, ⟨⟨a64.1, by omega⟩, a49, by omega⟩, ⟨hm0, by omega⟩, fun _ => by rw [← hd.2]; exact a102, fun z => absurd h86 z⟩) g2
              · refine J_b 2 am_d150 rfl ?_
                exact J_iret (am_d150 rfl) rfl rfl ⟨rfl, rfl, rfl⟩
          · refine J_b 1 am_d150 rfl ?_
            exact J_iret (am_d150 rfl) rfl rfl ⟨rfl, rfl, rfl⟩
theorem lp150 {X : am_X} {Q : am_Q} {M : am_M} {N : am_N} {kd fi mn mo p mr : Int32} {S : Nat} (hS5 : S ≤ 5) (eS : M 120 22 = nI S) (k3 : (∃ c, c < S ∧ (M 141 c = mr / 100 ∧ fi < M 137 c + M 138 c ∧ M 137 c < fi + mn)) → Q (some (.int (-3))) M N) (kk : ∀ x, ¬ (∃ c, c < S ∧ (M 141 c = mr / 100 ∧ fi < M 137 c + M 138 c ∧ M 137 c < fi + mn)) → am_J X Q 150 200 [.ref 120, .int kd, .int fi, .int mn, .int mo, .int p, .int mr, .int x] [] M N) : ∀ (n i : Nat), i + n = S → ∀ (x : Int32), x = nI i → (∀ c, c < i → ¬ (M 141 c = mr / 100 ∧ fi < M 137 c + M 138 c ∧ M 137 c < fi + mn)) → am_J X Q 150 135 [.ref 120, .int kd, .int fi, .int mn, .int mo, .int p, .int mr, .int x] [] M N := by
  intro n
  induction n with
  | zero =>
    intro i hn x ex hno
    have e : i = S := by omega
    subst ex
    have hge : M 120 22 ≤ nI i := by rw [eS, e]; exact Int32.le_refl _
    refine J_b 3 am_d150 rfl ?_
    refine J_icmp_ge 200 (am_d150 rfl) rfl (fun h141 => ?_) (fun h141 => absurd (hge) h141)
    exact kk _ (fun ⟨c, hc, hp⟩ => hno c (by omega) hp)
  | succ n ih =>
    intro i hn x ex hno
    subst ex
    have hlt : ¬ M 120 22 ≤ nI i := by rw [eS]; exact nI_ngt (by omega) (by omega)
    refine J_b 3 am_d150 rfl ?_
    refine J_icmp_ge 200 (am_d150 rfl) rfl (fun h141 => absurd h141 hlt) (fun h141 => ?_)
    refine J_b 3 am_d150 rfl ?_
    refine J_iald (am_d150 rfl) rfl (vp_in_nI (show i < 5 by omega) (by decide)) ?_
    rw [nI_c (n := i) (by omega)]
    show am_J X _ 150 151 _ (.int (M 141 i) :: _) _ N
    refine J_b 3 am_d150 rfl ?_
    refine J_icmp_ne 194 (am_d150 rfl) rfl (fun h156 => ?_) (fun h156 => ?_)
    · refine J_b 2 am_d150 rfl ?_
      exact ih (i + 1) (by omega) _ (nI_1 i) (hn_no (S := S) hno (fun z => h156 z.1))
    · refine J_b 4 am_d150 rfl ?_
      refine J_iald (am_d150 rfl) rfl (vp_in_nI (show i < 5 by omega) (by decide)) ?_
      rw [nI_c (n := i) (by omega)]
      show am_J X _ 150 167 _ (.int (M 137 i) :: _) _ N
      refine J_b 3 am_d150 rfl ?_
      refine J_iald (am_d150 rfl) rfl (vp_in_nI (show i < 5 by omega) (by decide)) ?_
      rw [nI_c (n := i) (by omega)]
      show am_J X _ 150 174 _ (.int (M 138 i) :: _) _ N
      refine J_b 1 am_d150 rfl ?_
      refine J_icmp_ge 194 (am_d150 rfl) rfl (fun h175 => ?_) (fun h175 => ?_)
      · refine J_b 2 am_d150 rfl ?_
        exact ih (i + 1) (by omega) _ (nI_1 i) (hn_no (S := S) hno (fun z => absurd z.2.1 (Int32.not_lt.mpr h175)))
      · refine J_b 3 am_d150 rfl ?_
        refine J_iald (am_d150 rfl) rfl (vp_in_nI (show i < 5 by omega) (by decide)) ?_
        rw [nI_c (n := i) (by omega)]
        show am_J X _ 150 185 _ (.int (M 137 i) :: _) _ N
        refine J_b 3 am_d150 rfl ?_
        refine J_icmp_ge 194 (am_d150 rfl) rfl (fun h188 => ?_) (fun h188 => ?_)
        · refine J_b 2 am_d150 rfl ?_
          exact ih (i + 1) (by omega) _ (nI_1 i) (hn_no (S := S) hno (fun z => absurd z.2.2 (Int32.not_lt.mpr h188)))
        · refine J_b 1 am_d150 rfl ?_
          exact J_iret (am_d150 rfl) rfl rfl (k3 ⟨i, by omega, h156, Int32.not_le.mp h175, Int32.not_le.mp h188⟩)
theorem sp150w {X : am_X} {M : am_M} {N : am_N} {kd fi mn mr : Int32} {mo p S : Nat} (hp : p < 60) (hm : mo < 48) (hS5 : S ≤ 5) (eS : M 120 22 = nI S) (g2 : (0 ≤ kd.toInt ∧ kd.toInt ≤ 3) ∧ c_nu fi mn ∧ c_mr kd mr) (g3 : ¬ M 121 p = 0) : am_J X (am_eq (some (.int (-3))) (M) N) 150 0 (am_en 150 [.ref 120, .int kd, .int fi, .int mn, .int (nI mo), .int (nI p), .int mr]) [] M N := by
  have i1 := nI_i (n := p) (by omega)
  have i2 := nI_i (n := mo) (by omega)
  have e10 : ((Int16.ofInt 10000).toInt32 - mn).toInt = 10000 - mn.toInt := by rw [I_sub (by have := g2.2.1.2.1; show -2147483648 ≤ (10000 : Int) - mn.toInt ∧ (10000 : Int) - mn.toInt < 2147483648; omega)]; rfl
  have hd := mr_d g2.2.2.1.1
  refine J_en (L := [.ref 120, .int kd, .int fi, .int mn, .int (nI mo), .int (nI p), .int mr, .retAddr 0]) rfl ?_
  by_cases hk2 : kd = 2
  · refine J_b 4 am_d150 rfl ?_
    refine J_S3s 140 (am_d150 rfl) rfl rfl (sp140) ?_
    refine J_if_eq 26 (am_d150 rfl) rfl (fun h10 => absurd h10 (am_bi1.mpr (by rw [Int32.toInt_toInt64, i1]; exact ⟨by show (0 : Int) ≤ p; omega, by show (p : Int) ≤ 59; omega⟩))) (fun h10 => ?_)
    refine J_b 4 am_d150 rfl ?_
    refine J_S3s 140 (am_d150 rfl) rfl rfl (sp140) ?_
    refine J_if_ne 28 (am_d150 rfl) rfl (fun h23 => ?_) (fun h23 => absurd h23 (am_bi1.mpr (by rw [Int32.toInt_toInt64, i2]; exact ⟨by show (0 : Int) ≤ mo; omega, by show (mo : Int) ≤ 47; omega⟩)))
    refine J_b 4 am_d150 rfl ?_
    refine J_S3s 140 (am_d150 rfl) rfl rfl (sp140) ?_
    refine J_if_eq 81 (am_d150 rfl) rfl (fun h37 => absurd h37 (am_bi1.mpr (by rw [Int32.toInt_toInt64]; exact g2.1))) (fun h37 => ?_)
    refine J_b 4 am_d150 rfl ?_
    refine J_S3s 140 (am_d150 rfl) rfl rfl (sp140) ?_
    refine J_if_eq 81 (am_d150 rfl) rfl (fun h49 => absurd h49 (am_bi1.mpr (by rw [Int32.toInt_toInt64]; exact g2.2.1.2.1))) (fun h49 => ?_)
    refine J_b 7 am_d150 rfl ?_
    refine J_S3s 140 (am_d150 rfl) rfl rfl (sp140) ?_
    refine J_if_eq 81 (am_d150 rfl) rfl (fun h64 => absurd h64 (am_bi1.mpr (by rw [Int32.toInt_toInt64, Int32.toInt_toInt64, e10]; exact ⟨g2.2.1.1.1, by have := g2.2.1.2.2; omega⟩))) (fun h64 => ?_)
    refine J_b 1 am_d150 rfl ?_
    refine J_if_lt 81 (am_d150 rfl) rfl (fun h69 => absurd (Int32.lt_iff_toInt_lt.mp h69) (Int.not_lt.mpr g2.2.2.1.1)) (fun h69 => ?_)
    refine J_b 4 am_d150 rfl ?_
    refine J_icmp_le 84 (am_d150 rfl) rfl (fun h78 => ?_) (fun h78 => absurd (Int32.le_iff_toInt_le.mpr (by show (mr / 100).toInt ≤ 3; have := g2.2.2.1.2; omega)) h78)
    refine J_b 2 am_d150 rfl ?_
    refine J_icmp_ne 108 (am_d150 rfl) rfl (fun h86 => absurd hk2 h86) (fun h86 => ?_)
    refine J_b 6 am_d150 rfl ?_
    refine J_S3s 140 (am_d150 rfl) rfl rfl (sp140) ?_
    refine J_if_ne 119 (am_d150 rfl) rfl (fun h102 => ?_) (fun h102 => absurd h102 (am_bi1.mpr (by rw [Int32.toInt_toInt64]; have := g2.2.2.2.1 hk2; rw [← hd.2] at this; exact this)))
    refine J_b 3 am_d150 rfl ?_
    refine J_iald (am_d150 rfl) rfl (vp_in_nI hp (by decide)) ?_
    rw [nI_c (n := p) (by omega)]
    show am_J X _ 150 126 _ (.int (M 121 p) :: _) _ N
    refine J_if_eq 132 (am_d150 rfl) rfl (fun h126 => absurd h126 g3) (fun h126 => ?_)
    refine J_b 1 am_d150 rfl ?_
    exact J_iret (am_d150 rfl) rfl rfl ⟨rfl, rfl, rfl⟩
  · refine J_b 4 am_d150 rfl ?_
    refine J_S3s 140 (am_d150 rfl) rfl rfl (sp140) ?_
    refine J_if_eq 26 (am_d150 rfl) rfl (fun h10 => absurd h10 (am_bi1.mpr (by rw [Int32.toInt_toInt64, i1]; exact ⟨by show (0 : Int) ≤ p; omega, by show (p : Int) ≤ 59; omega⟩))) (fun h10 => ?_)
    refine J_b 4 am_d150 rfl ?_
    refine J_S3s 140 (am_d150 rfl) rfl rfl (sp140) ?_
    refine J_if_ne 28 (am_d150 rfl) rfl (fun h23 => ?_) (fun h23 => absurd h23 (am_bi1.mpr (by rw [Int32.toInt_toInt64, i2]; exact ⟨by show (0 : Int) ≤ mo; omega, by show (mo : Int) ≤ 47; omega⟩)))
    refine J_b 4 am_d150 rfl ?_
    refine J_S3s 140 (am_d150 rfl) rfl rfl (sp140) ?_
    refine J_if_eq 81 (am_d150 rfl) rfl (fun h37 => absurd h37 (am_bi1.mpr (by rw [Int32.toInt_toInt64]; exact g2.1))) (fun h37 => ?_)
    refine J_b 4 am_d150 rfl ?_
    refine J_S3s 140 (am_d150 rfl) rfl rfl (sp140) ?_
    refine J_if_eq 81 (am_d150 rfl) rfl (fun h49 => absurd h49 (am_bi1.mpr (by rw [Int32.toInt_toInt64]; exact g2.2.1.2.1))) (fun h49 => ?_)
    refine J_b 7 am_d150 rfl ?_
    refine J_S3s 140 (am_d150 rfl) rfl rfl (sp140) ?_
    refine J_if_eq 81 (am_d150 rfl) rfl (fun h64 => absurd h64 (am_bi1.mpr (by rw [Int32.toInt_toInt64, Int32.toInt_toInt64, e10]; exact ⟨g2.2.1.1.1, by have := g2.2.1.2.2; omega⟩))) (fun h64 => ?_)
    refine J_b 1 am_d150 rfl ?_
    refine J_if_lt 81 (am_d150 rfl) rfl (fun h69 => absurd (Int32.lt_iff_toInt_lt.mp h69) (Int.not_lt.mpr g2.2.2.1.1)) (fun h69 => ?_)
    refine J_b 4 am_d150 rfl ?_
    refine J_icmp_le 84 (am_d150 rfl) rfl (fun h78 => ?_) (fun h78 => absurd (Int32.le_iff_toInt_le.mpr (by show (mr / 100).toInt ≤ 3; have := g2.2.2.1.2; omega)) h78)
    refine J_b 2 am_d150 rfl ?_
    refine J_icmp_ne 108 (am_d150 rfl) rfl (fun h86 => ?_) (fun h86 => absurd h86 hk2)
    refine J_b 3 am_d150 rfl ?_
    refine J_if_eq 119 (am_d150 rfl) rfl (fun h113 => ?_) (fun h113 => absurd (I_eq (by have := g2.2.2.2.2 hk2; rw [← hd.2] at this; exact this)) h113)
    refine J_b 3 am_d150 rfl ?_
    refine J_iald (am_d150 rfl) rfl (vp_in_nI hp (by decide)) ?_
    rw [nI_c (n := p) (by omega)]
    show am_J X _ 150 126 _ (.int (M 121 p) :: _) _ N
    refine J_if_eq 132 (am_d150 rfl) rfl (fun h126 => absurd h126 g3) (fun h126 => ?_)
    refine J_b 1 am_d150 rfl ?_
    exact J_iret (am_d150 rfl) rfl rfl ⟨rfl, rfl, rfl⟩
theorem sp150h {X : am_X} {M : am_M} {N : am_N} {kd fi mn mr : Int32} {mo p S : Nat} (hp : p < 60) (hm : mo < 48) (hS5 : S ≤ 5) (eS : M 120 22 = nI S) (g2 : (0 ≤ kd.toInt ∧ kd.toInt ≤ 3) ∧ c_nu fi mn ∧ c_mr kd mr) (g3 : M 121 p = 0) (g4 : (∃ c, c < S ∧ (M 141 c = mr / 100 ∧ fi < M 137 c + M 138 c ∧ M 137 c < fi + mn))) : am_J X (am_eq (some (.int (-3))) (M) N) 150 0 (am_en 150 [.ref 120, .int kd, .int fi, .int mn, .int (nI mo), .int (nI p), .int mr]) [] M N := by
  have i1 := nI_i (n := p) (by omega)
  have i2 := nI_i (n := mo) (by omega)
  have e10 : ((Int16.ofInt 10000).toInt32 - mn).toInt = 10000 - mn.toInt := by rw [I_sub (by have := g2.2.1.2.1; show -2147483648 ≤ (10000 : Int) - mn.toInt ∧ (10000 : Int) - mn.toInt < 2147483648; omega)]; rfl
  have hd := mr_d g2.2.2.1.1
  refine J_en (L := [.ref 120, .int kd, .int fi, .int mn, .int (nI mo), .int (nI p), .int mr, .retAddr 0]) rfl ?_
  by_cases hk2 : kd = 2
  · refine J_b 4 am_d150 rfl ?_
    refine J_S3s 140 (am_d150 rfl) rfl rfl (sp140) ?_
    refine J_if_eq 26 (am_d150 rfl) rfl (fun h10 => absurd h10 (am_bi1.mpr (by rw [Int32.toInt_toInt64, i1]; exact ⟨by show (0 : Int) ≤ p; omega, by show (p : Int) ≤ 59; omega⟩))) (fun h10 => ?_)
    refine J_b 4 am_d150 rfl ?_
    refine J_S3s 140 (am_d150 rfl) rfl rfl (sp140) ?_
    refine J_if_ne 28 (am_d150 rfl) rfl (fun h23 => ?_) (fun h23 => absurd h23 (am_bi1.mpr (by rw [Int32.toInt_toInt64, i2]; exact ⟨by show (0 : Int) ≤ mo; omega, by show (mo : Int) ≤ 47; omega⟩)))
    refine J_b 4 am_d150 rfl ?_
    refine J_S3s 140 (am_d150 rfl) rfl rfl (sp140) ?_
    refine J_if_eq 81 (am_d150 rfl) rfl (fun h37 => absurd h37 (am_bi1.mpr (by rw [Int32.toInt_toInt64]; exact g2.1))) (fun h37 => ?_)
    refine J_b 4 am_d150 rfl ?_
    refine J_S3s 140 (am_d150 rfl) rfl rfl (sp140) ?_
    refine J_if_eq 81 (am_d150 rfl) rfl (fun h49 => absurd h49 (am_bi1.mpr (by rw [Int32.toInt_toInt64]; exact g2.2.1.2.1))) (fun h49 => ?_)
    refine J_b 7 am_d150 rfl ?_
    refine J_S3s 140 (am_d150 rfl) rfl rfl (sp140) ?_
    refine J_if_eq 81 (am_d150 rfl) rfl (fun h64 => absurd h64 (am_bi1.mpr (by rw [Int32.toInt_toInt64, Int32.toInt_toInt64, e10]; exact ⟨g2.2.1.1.1, by have := g2.2.1.2.2; omega⟩))) (fun h64 => ?_)
    refine J_b 1 am_d150 rfl ?_
    refine J_if_lt 81 (am_d150 rfl) rfl (fun h69 => absurd (Int32.lt_iff_toInt_lt.mp h69) (Int.not_lt.mpr g2.2.2.1.1)) (fun h69 => ?_)
    refine J_b 4 am_d150 rfl ?_
    refine J_icmp_le 84 (am_d150 rfl) rfl (fun h78 => ?_) (fun h78 => absurd (Int32.le_iff_toInt_le.mpr (by show (mr / 100).toInt ≤ 3; have := g2.2.2.1.2; omega)) h78)
    refine J_b 2 am_d150 rfl ?_
    refine J_icmp_ne 108 (am_d150 rfl) rfl (fun h86 => absurd hk2 h86) (fun h86 => ?_)
    refine J_b 6 am_d150 rfl ?_
    refine J_S3s 140 (am_d150 rfl) rfl rfl (sp140) ?_
    refine J_if_ne 119 (am_d150 rfl) rfl (fun h102 => ?_) (fun h102 => absurd h102 (am_bi1.mpr (by rw [Int32.toInt_toInt64]; have := g2.2.2.2.1 hk2; rw [← hd.2] at this; exact this)))
    refine J_b 3 am_d150 rfl ?_
    refine J_iald (am_d150 rfl) rfl (vp_in_nI hp (by decide)) ?_
    rw [nI_c (n := p) (by omega)]
    show am_J X _ 150 126 _ (.int (M 121 p) :: _) _ N
    refine J_if_eq 132 (am_d150 rfl) rfl (fun h126 => ?_) (fun h126 => absurd (g3) h126)
    refine J_b 2 am_d150 rfl ?_
    refine lp150 hS5 eS (fun _ => ⟨rfl, rfl, rfl⟩) (fun x hno => ?_) S 0 (Nat.zero_add _) _ rfl (fun c hc => absurd hc (by omega))
    exact absurd g4 hno
  · refine J_b 4 am_d150 rfl ?_
    refine J_S3s 140 (am_d150 rfl) rfl rfl (sp140) ?_
    refine J_if_eq 26 (am_d150 rfl) rfl (fun h10 => absurd h10 (am_bi1.mpr (by rw [Int32.toInt_toInt64, i1]; exact ⟨by show (0 : Int) ≤ p; omega, by show (p : Int) ≤ 59; omega⟩))) (fun h10 => ?_)
    refine J_b 4 am_d150 rfl ?_
    refine J_S3s 140 (am_d150 rfl) rfl rfl (sp140) ?_
    refine J_if_ne 28 (am_d150 rfl) rfl (fun h23 => ?_) (fun h23 => absurd h23 (am_bi1.mpr (by rw [Int32.toInt_toInt64, i2]; exact ⟨by show (0 : Int) ≤ mo; omega, by show (mo : Int) ≤ 47; omega⟩)))
    refine J_b 4 am_d150 rfl ?_
    refine J_S3s 140 (am_d150 rfl) rfl rfl (sp140) ?_
    refine J_if_eq 81 (am_d150 rfl) rfl (fun h37 => absurd h37 (am_bi1.mpr (by rw [Int32.toInt_toInt64]; exact g2.1))) (fun h37 => ?_)
    refine J_b 4 am_d150 rfl ?_
    refine J_S3s 140 (am_d150 rfl) rfl rfl (sp140) ?_
    refine J_if_eq 81 (am_d150 rfl) rfl (fun h49 => absurd h49 (am_bi1.mpr (by rw [Int32.toInt_toInt64]; exact g2.2.1.2.1))) (fun h49 => ?_)
    refine J_b 7 am_d150 rfl ?_
    refine J_S3s 140 (am_d150 rfl) rfl rfl (sp140) ?_
    refine J_if_eq 81 (am_d150 rfl) rfl (fun h64 => absurd h64 (am_bi1.mpr (by rw [Int32.toInt_toInt64, Int32.toInt_toInt64, e10]; exact ⟨g2.2.1.1.1, by have := g2.2.1.2.2; omega⟩))) (fun h64 => ?_)
    refine J_b 1 am_d150 rfl ?_
    refine J_if_lt 81 (am_d150 rfl) rfl (fun h69 => absurd (Int32.lt_iff_toInt_lt.mp h69) (Int.not_lt.mpr g2.2.2.1.1)) (fun h69 => ?_)
    refine J_b 4 am_d150 rfl ?_
    refine J_icmp_le 84 (am_d150 rfl) rfl (fun h78 => ?_) (fun h78 => absurd (Int32.le_iff_toInt_le.mpr (by show (mr / 100).toInt ≤ 3; have := g2.2.2.1.2; omega)) h78)
    refine J_b 2 am_d150 rfl ?_
    refine J_icmp_ne 108 (am_d150 rfl) rfl (fun h86 => ?_) (fun h86 => absurd h86 hk2)
    refine J_b 3 am_d150 rfl ?_
    refine J_if_eq 119 (am_d150 rfl) rfl (fun h113 => ?_) (fun h113 => absurd (I_eq (by have := g2.2.2.2.2 hk2; rw [← hd.2] at this; exact this)) h113)
    refine J_b 3 am_d150 rfl ?_
    refine J_iald (am_d150 rfl) rfl (vp_in_nI hp (by decide)) ?_
    rw [nI_c (n := p) (by omega)]
    show am_J X _ 150 126 _ (.int (M 121 p) :: _) _ N
    refine J_if_eq 132 (am_d150 rfl) rfl (fun h126 => ?_) (fun h126 => absurd (g3) h126)
    refine J_b 2 am_d150 rfl ?_
    refine lp150 hS5 eS (fun _ => ⟨rfl, rfl, rfl⟩) (fun x hno => ?_) S 0 (Nat.zero_add _) _ rfl (fun c hc => absurd hc (by omega))
    exact absurd g4 hno
theorem sp150d {X : am_X} {M : am_M} {N : am_N} {kd fi mn mr : Int32} {mo p S : Nat} (hp : p < 60) (hm : mo < 48) (hS5 : S ≤ 5) (eS : M 120 22 = nI S) (g2 : (0 ≤ kd.toInt ∧ kd.toInt ≤ 3) ∧ c_nu fi mn ∧ c_mr kd mr) (g3 : M 121 p = 0) (g4 : ¬ (∃ c, c < S ∧ (M 141 c = mr / 100 ∧ fi < M 137 c + M 138 c ∧ M 137 c < fi + mn))) (g5 : M 120 22 = 5) : am_J X (am_eq (some (.int (-4))) (M) N) 150 0 (am_en 150 [.ref 120, .int kd, .int fi, .int mn, .int (nI mo), .int (nI p), .int mr]) [] M N := by
  have i1 := nI_i (n := p) (by omega)
  have i2 := nI_i (n := mo) (by omega)
  have e10 : ((Int16.ofInt 10000).toInt32 - mn).toInt = 10000 - mn.toInt := by rw [I_sub (by have := g2.2.1.2.1; show -2147483648 ≤ (10000 : Int) - mn.toInt ∧ (10000 : Int) - mn.toInt < 2147483648; omega)]; rfl
  have hd := mr_d g2.2.2.1.1
  refine J_en (L := [.ref 120, .int kd, .int fi, .int mn, .int (nI mo), .int (nI p), .int mr, .retAddr 0]) rfl ?_
  by_cases hk2 : kd = 2
  · refine J_b 4 am_d150 rfl ?_
    refine J_S3s 140 (am_d150 rfl) rfl rfl (sp140) ?_
    refine J_if_eq 26 (am_d150 rfl) rfl (fun h10 => absurd h10 (am_bi1.mpr (by rw [Int32.toInt_toInt64, i1]; exact ⟨by show (0 : Int) ≤ p; omega, by show (p : Int) ≤ 59; omega⟩))) (fun h10 => ?_)
    refine J_b 4 am_d150 rfl ?_
    refine J_S3s 140 (am_d150 rfl) rfl rfl (sp140) ?_
    refine J_if_ne 28 (am_d150 rfl) rfl (fun h23 => ?_) (fun h23 => absurd h23 (am_bi1.mpr (by rw [Int32.toInt_toInt64, i2]; exact ⟨by show (0 : Int) ≤ mo; omega, by show (mo : Int) ≤ 47; omega⟩)))
    refine J_b 4 am_d150 rfl ?_
    refine J_S3s 140 (am_d150 rfl) rfl rfl (sp140) ?_
    refine J_if_eq 81 (am_d150 rfl) rfl (fun h37 => absurd h37 (am_bi1.mpr (by rw [Int32.toInt_toInt64]; exact g2.1))) (fun h37 => ?_)
    refine J_b 4 am_d150 rfl ?_
    refine J_S3s 140 (am_d150 rfl) rfl rfl (sp140) ?_
    refine J_if_eq 81 (am_d150 rfl) rfl (fun h49 => absurd h49 (am_bi1.mpr (by rw [Int32.toInt_toInt64]; exact g2.2.1.2.1))) (fun h49 => ?_)
    refine J_b 7 am_d150 rfl ?_
    refine J_S3s 140 (am_d150 rfl) rfl rfl (sp140) ?_
    refine J_if_eq 81 (am_d150 rfl) rfl (fun h64 => absurd h64 (am_bi1.mpr (by rw [Int32.toInt_toInt64, Int32.toInt_toInt64, e10]; exact ⟨g2.2.1.1.1, by have := g2.2.1.2.2; omega⟩))) (fun h64 => ?_)
    refine J_b 1 am_d150 rfl ?_
    refine J_if_lt 81 (am_d150 rfl) rfl (fun h69 => absurd (Int32.lt_iff_toInt_lt.mp h69) (Int.not_lt.mpr g2.2.2.1.1)) (fun h69 => ?_)
    refine J_b 4 am_d150 rfl ?_
    refine J_icmp_le 84 (am_d150 rfl) rfl (fun h78 => ?_) (fun h78 => absurd (Int32.le_iff_toInt_le.mpr (by show (mr / 100).toInt ≤ 3; have := g2.2.2.1.2; omega)) h78)
    refine J_b 2 am_d150 rfl ?_
    refine J_icmp_ne 108 (am_d150 rfl) rfl (fun h86 => absurd hk2 h86) (fun h86 => ?_)
    refine J_b 6 am_d150 rfl ?_
    refine J_S3s 140 (am_d150 rfl) rfl rfl (sp140) ?_
    refine J_if_ne 119 (am_d150 rfl) rfl (fun h102 => ?_) (fun h102 => absurd h102 (am_bi1.mpr (by rw [Int32.toInt_toInt64]; have := g2.2.2.2.1 hk2; rw [← hd.2] at this; exact this)))
    refine J_b 3 am_d150 rfl ?_
    refine J_iald (am_d150 rfl) rfl (vp_in_nI hp (by decide)) ?_
    rw [nI_c (n := p) (by omega)]
    show am_J X _ 150 126 _ (.int (M 121 p) :: _) _ N
    refine J_if_eq 132 (am_d150 rfl) rfl (fun h126 => ?_) (fun h126 => absurd (g3) h126)
    refine J_b 2 am_d150 rfl ?_
    refine lp150 hS5 eS (fun z => absurd z g4) (fun x hno => ?_) S 0 (Nat.zero_add _) _ rfl (fun c hc => absurd hc (by omega))
    refine J_b 3 am_d150 rfl ?_
    refine J_icmp_ne 211 (am_d150 rfl) rfl (fun h205 => absurd g5 h205) (fun h205 => ?_)
    refine J_b 1 am_d150 rfl ?_
    exact J_iret (am_d150 rfl) rfl rfl ⟨rfl, rfl, rfl⟩
  · refine J_b 4 am_d150 rfl ?_
    refine J_S3s 140 (am_d150 rfl) rfl rfl (sp140) ?_
    refine J_if_eq 26 (am_d150 rfl) rfl (fun h10 => absurd h10 (am_bi1.mpr (by rw [Int32.toInt_toInt64, i1]; exact ⟨by show (0 : Int) ≤ p; omega, by show (p : Int) ≤ 59; omega⟩))) (fun h10 => ?_)
    refine J_b 4 am_d150 rfl ?_
    refine J_S3s 140 (am_d150 rfl) rfl rfl (sp140) ?_
    refine J_if_ne 28 (am_d150 rfl) rfl (fun h23 => ?_) (fun h23 => absurd h23 (am_bi1.mpr (by rw [Int32.toInt_toInt64, i2]; exact ⟨by show (0 : Int) ≤ mo; omega, by show (mo : Int) ≤ 47; omega⟩)))
    refine J_b 4 am_d150 rfl ?_
    refine J_S3s 140 (am_d150 rfl) rfl rfl (sp140) ?_
    refine J_if_eq 81 (am_d150 rfl) rfl (fun h37 => absurd h37 (am_bi1.mpr (by rw [Int32.toInt_toInt64]; exact g2.1))) (fun h37 => ?_)
    refine J_b 4 am_d150 rfl ?_
    refine J_S3s 140 (am_d150 rfl) rfl rfl (sp140) ?_
    refine J_if_eq 81 (am_d150 rfl) rfl (fun h49 => absurd h49 (am_bi1.mpr (by rw [Int32.toInt_toInt64]; exact g2.2.1.2.1))) (fun h49 => ?_)
    refine J_b 7 am_d150 rfl ?_
    refine J_S3s 140 (am_d150 rfl) rfl rfl (sp140) ?_
    refine J_if_eq 81 (am_d150 rfl) rfl (fun h64 => absurd h64 (am_bi1.mpr (by rw [Int32.toInt_toInt64, Int32.toInt_toInt64, e10]; exact ⟨g2.2.1.1.1, by have := g2.2.1.2.2; omega⟩))) (fun h64 => ?_)
    refine J_b 1 am_d150 rfl ?_
    refine J_if_lt 81 (am_d150 rfl) rfl (fun h69 => absurd (Int32.lt_iff_toInt_lt.mp h69) (Int.not_lt.mpr g2.2.2.1.1)) (fun h69 => ?_)
    refine J_b 4 am_d150 rfl ?_
    refine J_icmp_le 84 (am_d150 rfl) rfl (fun h78 => ?_) (fun h78 => absurd (Int32.le_iff_toInt_le.mpr (by show (mr / 100).toInt ≤ 3; have := g2.2.2.1.2; omega)) h78)
    refine J_b 2 am_d150 rfl ?_
    refine J_icmp_ne 108 (am_d150 rfl) rfl (fun h86 => ?_) (fun h86 => absurd h86 hk2)
    refine J_b 3 am_d150 rfl ?_
    refine J_if_eq 119 (am_d150 rfl) rfl (fun h113 => ?_) (fun h113 => absurd (I_eq (by have := g2.2.2.2.2 hk2; rw [← hd.2] at this; exact this)) h113)
    refine J_b 3 am_d150 rfl ?_
    refine J_iald (am_d150 rfl) rfl (vp_in_nI hp (by decide)) ?_
    rw [nI_c (n := p) (by omega)]
    show am_J X _ 150 126 _ (.int (M 121 p) :: _) _ N
    refine J_if_eq 132 (am_d150 rfl) rfl (fun h126 => ?_) (fun h126 => absurd (g3) h126)
    refine J_b 2 am_d150 rfl ?_
    refine lp150 hS5 eS (fun z => absurd z g4) (fun x hno => ?_) S 0 (Nat.zero_add _) _ rfl (fun c hc => absurd hc (by omega))
    refine J_b 3 am_d150 rfl ?_
    refine J_icmp_ne 211 (am_d150 rfl) rfl (fun h205 => absurd g5 h205) (fun h205 => ?_)
    refine J_b 1 am_d150 rfl ?_
    exact J_iret (am_d150 rfl) rfl rfl ⟨rfl, rfl, rfl⟩
theorem sp150c {X : am_X} {M : am_M} {N : am_N} {kd fi mn mr : Int32} {mo p S : Nat} (hp : p < 60) (hm : mo < 48) (hS5b : S < 5) (eS : M 120 22 = nI S) (g2 : (0 ≤ kd.toInt ∧ kd.toInt ≤ 3) ∧ c_nu fi mn ∧ c_mr kd mr) (g3 : M 121 p = 0) (g4 : ¬ (∃ c, c < S ∧ (M 141 c = mr / 100 ∧ fi < M 137 c + M 138 c ∧ M 137 c < fi + mn))) : am_J X (am_eq (some (.int (nI S))) (am_up (am_up (am_up (am_up (am_up (am_up (am_up (am_up M 136 S kd) 137 S fi) 138 S mn) 139 S (nI mo)) 140 S (nI p)) 141 S (mr / 100)) 142 S (mr - mr / 100 * 100)) 120 22 (nI S + 1)) N) 150 0 (am_en 150 [.ref 120, .int kd, .int fi, .int mn, .int (nI mo), .int (nI p), .int mr]) [] M N := by
  have i1 := nI_i (n := p) (by omega)
  have i2 := nI_i (n := mo) (by omega)
  have e10 : ((Int16.ofInt 10000).toInt32 - mn).toInt = 10000 - mn.toInt := by rw [I_sub (by have := g2.2.1.2.1; show -2147483648 ≤ (10000 : Int) - mn.toInt ∧ (10000 : Int) - mn.toInt < 2147483648; omega)]; rfl
  have hd := mr_d g2.2.2.1.1
  have hS5 : S ≤ 5 := by omega
  have hne : ¬ M 120 22 = 5 := by rw [eS]; intro z; have := nI_inj (a := S) (b := 5) (by omega) (by decide) z; omega
  have eS0 : (M) 120 22 = nI S := eS
  have eS1 : (am_up M 136 S kd) 120 22 = nI S := eS
  have eS2 : (am_up (am_up M 136 S kd) 137 S fi) 120 22 = nI S := eS
  have eS3 : (am_up (am_up (am_up M 136 S kd) 137 S fi) 138 S mn) 120 22 = nI S := eS
  have eS4 : (am_up (am_up (am_up (am_up M 136 S kd) 137 S fi) 138 S mn) 139 S (nI mo)) 120 22 = nI S := eS
  have eS5 : (am_up (am_up (am_up (am_up (am_up M 136 S kd) 137 S fi) 138 S mn) 139 S (nI mo)) 140 S (nI p)) 120 22 = nI S := eS
  have eS6 : (am_up (am_up (am_up (am_up (am_up (am_up M 136 S kd) 137 S fi) 138 S mn) 139 S (nI mo)) 140 S (nI p)) 141 S (mr / 100)) 120 22 = nI S := eS
  have eS7 : (am_up (am_up (am_up (am_up (am_up (am_up (am_up M 136 S kd) 137 S fi) 138 S mn) 139 S (nI mo)) 140 S (nI p)) 141 S (mr / 100)) 142 S (mr - mr / 100 * 100)) 120 22 = nI S := eS
  refine J_en (L := [.ref 120, .int kd, .int fi, .int mn, .int (nI mo), .int (nI p), .int mr, .retAddr 0]) rfl ?_
  by_cases hk2 : kd = 2
  · refine J_b 4 am_d150 rfl ?_
    refine J_S3s 140 (am_d150 rfl) rfl rfl (sp140) ?_
    refine J_if_eq 26 (am_d150 rfl) rfl (fun h10 => absurd h10 (am_bi1.mpr (by rw [Int32.toInt_toInt64, i1]; exact ⟨by show (0 : Int) ≤ p; omega, by show (p : Int) ≤ 59; omega⟩))) (fun h10 => ?_)
    refine J_b 4 am_d150 rfl ?_
    refine J_S3s 140 (am_d150 rfl) rfl rfl (sp140) ?_
    refine J_if_ne 28 (am_d150 rfl) rfl (fun h23 => ?_) (fun h23 => absurd h23 (am_bi1.mpr (by rw [Int32.toInt_toInt64, i2]; exact ⟨by show (0 : Int) ≤ mo; omega, by show (mo : Int) ≤ 47; omega⟩)))
    refine J_b 4 am_d150 rfl ?_
    refine J_S3s 140 (am_d150 rfl) rfl rfl (sp140) ?_
    refine J_if_eq 81 (am_d150 rfl) rfl (fun h37 => absurd h37 (am_bi1.mpr (by rw [Int32.toInt_toInt64]; exact g2.1))) (fun h37 => ?_)
    refine J_b 4 am_d150 rfl ?_
    refine J_S3s 140 (am_d150 rfl) rfl rfl (sp140) ?_
    refine J_if_eq 81 (am_d150 rfl) rfl (fun h49 => absurd h49 (am_bi1.mpr (by rw [Int32.toInt_toInt64]; exact g2.2.1.2.1))) (fun h49 => ?_)
    refine J_b 7 am_d150 rfl ?_
    refine J_S3s 140 (am_d150 rfl) rfl rfl (sp140) ?_
    refine J_if_eq 81 (am_d150 rfl) rfl (fun h64 => absurd h64 (am_bi1.mpr (by rw [Int32.toInt_toInt64, Int32.toInt_toInt64, e10]; exact ⟨g2.2.1.1.1, by have := g2.2.1.2.2; omega⟩))) (fun h64 => ?_)
    refine J_b 1 am_d150 rfl ?_
    refine J_if_lt 81 (am_d150 rfl) rfl (fun h69 => absurd (Int32.lt_iff_toInt_lt.mp h69) (Int.not_lt.mpr g2.2.2.1.1)) (fun h69 => ?_)
    refine J_b 4 am_d150 rfl ?_
    refine J_icmp_le 84 (am_d150 rfl) rfl (fun h78 => ?_) (fun h78 => absurd (Int32.le_iff_toInt_le.mpr (by show (mr / 100).toInt ≤ 3; have := g2.2.2.1.2; omega)) h78)
    refine J_b 2 am_d150 rfl ?_
    refine J_icmp_ne 108 (am_d150 rfl) rfl (fun h86 => absurd hk2 h86) (fun h86 => ?_)
    refine J_b 6 am_d150 rfl ?_
    refine J_S3s 140 (am_d150 rfl) rfl rfl (sp140) ?_
    refine J_if_ne 119 (am_d150 rfl) rfl (fun h102 => ?_) (fun h102 => absurd h102 (am_bi1.mpr (by rw [Int32.toInt_toInt64]; have := g2.2.2.2.1 hk2; rw [← hd.2] at this; exact this)))
    refine J_b 3 am_d150 rfl ?_
    refine J_iald (am_d150 rfl) rfl (vp_in_nI hp (by decide)) ?_
    rw [nI_c (n := p) (by omega)]
    show am_J X _ 150 126 _ (.int (M 121 p) :: _) _ N
    refine J_if_eq 132 (am_d150 rfl) rfl (fun h126 => ?_) (fun h126 => absurd (g3) h126)
    refine J_b 2 am_d150 rfl ?_
    refine lp150 hS5 eS (fun z => absurd z g4) (fun x hno => ?_) S 0 (Nat.zero_add _) _ rfl (fun c hc => absurd hc (by omega))
    refine J_b 3 am_d150 rfl ?_
    refine J_icmp_ne 211 (am_d150 rfl) rfl (fun h205 => ?_) (fun h205 => absurd h205 hne)
    refine J_b 5 am_d150 rfl ?_
    rw [eS0]
    refine J_iast (am_d150 rfl) rfl (vp_in_nI (show S < 5 by omega) (by decide)) ?_
    rw [nI_c (n := S) (by omega)]
    refine J_b 5 am_d150 rfl ?_
    rw [eS1]
    refine J_iast (am_d150 rfl) rfl (vp_in_nI (show S < 5 by omega) (by decide)) ?_
    rw [nI_c (n := S) (by omega)]
    refine J_b 5 am_d150 rfl ?_
    rw [eS2]
    refine J_iast (am_d150 rfl) rfl (vp_in_nI (show S < 5 by omega) (by decide)) ?_
    rw [nI_c (n := S) (by omega)]
    refine J_b 5 am_d150 rfl ?_
    rw [eS3]
    refine J_iast (am_d150 rfl) rfl (vp_in_nI (show S < 5 by omega) (by decide)) ?_
    rw [nI_c (n := S) (by omega)]
    refine J_b 5 am_d150 rfl ?_
    rw [eS4]
    refine J_iast (am_d150 rfl) rfl (vp_in_nI (show S < 5 by omega) (by decide)) ?_
    rw [nI_c (n := S) (by omega)]
    refine J_b 7 am_d150 rfl ?_
    show am_J X _ 150 276 _ (.int (mr / 100) :: _) _ N
    rw [eS5]
    refine J_iast (am_d150 rfl) rfl (vp_in_nI (show S < 5 by omega) (by decide)) ?_
    rw [nI_c (n := S) (by omega)]
    refine J_b 7 am_d150 rfl ?_
    show am_J X _ 150 290 _ (.int (mr - mr / 100 * 100) :: _) _ N
    rw [eS6]
    refine J_iast (am_d150 rfl) rfl (vp_in_nI (show S < 5 by omega) (by decide)) ?_
    rw [nI_c (n := S) (by omega)]
    refine J_b 5 am_d150 rfl ?_
    rw [eS7]
    refine J_puti (am_d150 rfl) rfl ?_
    refine J_b 4 am_d150 rfl ?_
    exact J_iret (am_d150 rfl) rfl rfl ⟨congrArg (fun z => some (Value.int z)) (Int32.add_sub_cancel (nI S) 1), rfl, rfl⟩
  · refine J_b 4 am_d150 rfl ?_
    refine J_S3s 140 (am_d150 rfl) rfl rfl (sp140) ?_
    refine J_if_eq 26 (am_d150 rfl) rfl (fun h10 => absurd h10 (am_bi1.mpr (by rw [Int32.toInt_toInt64, i1]; exact ⟨by show (0 : Int) ≤ p; omega, by show (p : Int) ≤ 59; omega⟩))) (fun h10 => ?_)
    refine J_b 4 am_d150 rfl ?_
    refine J_S3s 140 (am_d150 rfl) rfl rfl (sp140) ?_
    refine J_if_ne 28 (am_d150 rfl) rfl (fun h23 => ?_) (fun h23 => absurd h23 (am_bi1.mpr (by rw [Int32.toInt_toInt64, i2]; exact ⟨by show (0 : Int) ≤ mo; omega, by show (mo : Int) ≤ 47; omega⟩)))
    refine J_b 4 am_d150 rfl ?_
    refine J_S3s 140 (am_d150 rfl) rfl rfl (sp140) ?_
    refine J_if_eq 81 (am_d150 rfl) rfl (fun h37 => absurd h37 (am_bi1.mpr (by rw [Int32.toInt_toInt64]; exact g2.1))) (fun h37 => ?_)
    refine J_b 4 am_d150 rfl ?_
    refine J_S3s 140 (am_d150 rfl) rfl rfl (sp140) ?_
    refine J_if_eq 81 (am_d150 rfl) rfl (fun h49 => absurd h49 (am_bi1.mpr (by rw [Int32.toInt_toInt64]; exact g2.2.1.2.1))) (fun h49 => ?_)
    refine J_b 7 am_d150 rfl ?_
    refine J_S3s 140 (am_d150 rfl) rfl rfl (sp140) ?_
    refine J_if_eq 81 (am_d150 rfl) rfl (fun h64 => absurd h64 (am_bi1.mpr (by rw [Int32.toInt_toInt64, Int32.toInt_toInt64, e10]; exact ⟨g2.2.1.1.1, by have := g2.2.1.2.2; omega⟩))) (fun h64 => ?_)
    refine J_b 1 am_d150 rfl ?_
    refine J_if_lt 81 (am_d150 rfl) rfl (fun h69 => absurd (Int32.lt_iff_toInt_lt.mp h69) (Int.not_lt.mpr g2.2.2.1.1)) (fun h69 => ?_)
    refine J_b 4 am_d150 rfl ?_
    refine J_icmp_le 84 (am_d150 rfl) rfl (fun h78 => ?_) (fun h78 => absurd (Int32.le_iff_toInt_le.mpr (by show (mr / 100).toInt ≤ 3; have := g2.2.2.1.2; omega)) h78)
    refine J_b 2 am_d150 rfl ?_
    refine J_icmp_ne 108 (am_d150 rfl) rfl (fun h86 => ?_) (fun h86 => absurd h86 hk2)
    refine J_b 3 am_d150 rfl ?_
    refine J_if_eq 119 (am_d150 rfl) rfl (fun h113 => ?_) (fun h113 => absurd (I_eq (by have := g2.2.2.2.2 hk2; rw [← hd.2] at this; exact this)) h113)
    refine J_b 3 am_d150 rfl ?_
    refine J_iald (am_d150 rfl) rfl (vp_in_nI hp (by decide)) ?_
    rw [nI_c (n := p) (by omega)]
    show am_J X _ 150 126 _ (.int (M 121 p) :: _) _ N
    refine J_if_eq 132 (am_d150 rfl) rfl (fun h126 => ?_) (fun h126 => absurd (g3) h126)
    refine J_b 2 am_d150 rfl ?_
    refine lp150 hS5 eS (fun z => absurd z g4) (fun x hno => ?_) S 0 (Nat.zero_add _) _ rfl (fun c hc => absurd hc (by omega))
    refine J_b 3 am_d150 rfl ?_
    refine J_icmp_ne 211 (am_d150 rfl) rfl (fun h205 => ?_) (fun h205 => absurd h205 hne)
    refine J_b 5 am_d150 rfl ?_
    rw [eS0]
    refine J_iast (am_d150 rfl) rfl (vp_in_nI (show S < 5 by omega) (by decide)) ?_
    rw [nI_c (n := S) (by omega)]
    refine J_b 5 am_d150 rfl ?_
    rw [eS1]
    refine J_iast (am_d150 rfl) rfl (vp_in_nI (show S < 5 by omega) (by decide)) ?_
    rw [nI_c (n := S) (by omega)]
    refine J_b 5 am_d150 rfl ?_
    rw [eS2]
    refine J_iast (am_d150 rfl) rfl (vp_in_nI (show S < 5 by omega) (by decide)) ?_
    rw [nI_c (n := S) (by omega)]
    refine J_b 5 am_d150 rfl ?_
    rw [eS3]
    refine J_iast (am_d150 rfl) rfl (vp_in_nI (show S < 5 by omega) (by decide)) ?_
    rw [nI_c (n := S) (by omega)]
    refine J_b 5 am_d150 rfl ?_
    rw [eS4]
    refine J_iast (am_d150 rfl) rfl (vp_in_nI (show S < 5 by omega) (by decide)) ?_
    rw [nI_c (n := S) (by omega)]
    refine J_b 7 am_d150 rfl ?_
    show am_J X _ 150 276 _ (.int (mr / 100) :: _) _ N
    rw [eS5]
    refine J_iast (am_d150 rfl) rfl (vp_in_nI (show S < 5 by omega) (by decide)) ?_
    rw [nI_c (n := S) (by omega)]
    refine J_b 7 am_d150 rfl ?_
    show am_J X _ 150 290 _ (.int (mr - mr / 100 * 100) :: _) _ N
    rw [eS6]
    refine J_iast (am_d150 rfl) rfl (vp_in_nI (show S < 5 by omega) (by decide)) ?_
    rw [nI_c (n := S) (by omega)]
    refine J_b 5 am_d150 rfl ?_
    rw [eS7]
    refine J_puti (am_d150 rfl) rfl ?_
    refine J_b 4 am_d150 rfl ?_
    exact J_iret (am_d150 rfl) rfl rfl ⟨congrArg (fun z => some (Value.int z)) (Int32.add_sub_cancel (nI S) 1), rfl, rfl⟩
