/-! ===== prizes: what the class reads ===== -/
theorem wd_le {t : Nat → Int32} {n : Nat} {w : Nat → Int32} : ∀ m i a, a ≤ n → (wd t n w m i a).1 ≤ n := by
  intro m
  induction m with
  | zero => exact fun i a ha => ha
  | succ m ih =>
    intro i a ha
    rw [wd]
    split
    · rename_i h
      exact ih _ _ h.1
    · exact ha
theorem nc_le {t : Nat → Int32} {n : Nat} : ∀ m a v, a ≤ n → (nc t n m a v).1 ≤ n := by
  intro m
  induction m with
  | zero => exact fun a v ha => ha
  | succ m ih =>
    intro a v ha
    rw [nc]
    split
    · rename_i h
      exact ih _ _ h.1
    · exact ha
/-- a field's word: the place behind it, its number or -1 -/
def fw_ (t : Nat → Int32) (n s : Nat) (v : Int32) (a : Nat) : Nat × Int32 := ((wd t n (tx s) (tl s) 0 a).1, if (wd t n (tx s) (tl s) 0 a).2 = true then v else -1)
def fdc (t : Nat → Int32) (n a : Nat) : Nat × Int32 := if sg t n 109 a then fw_ t n 2 0 a else if sg t n 102 a then fw_ t n 3 1 a else if sg t n 107 a then fw_ t n 4 2 a else if sg t n 116 a then fw_ t n 5 3 a else fw_ t n 6 4 a
def sgc (t : Nat → Int32) (n a : Nat) : Nat × Int32 := if sg t n 61 a then (a + 1, 61) else if sg t n 60 a then (a + 1, 60) else if sg t n 62 a then (a + 1, 62) else (a, -1)
def nt1 (t : Nat → Int32) (n a : Nat) : Nat := if sg t n 33 a then a + 1 else a
def nt2 (t : Nat → Int32) (n a : Nat) : Int32 := if sg t n 33 a then 1 else 0
theorem fw_le {t : Nat → Int32} {n s a : Nat} {v : Int32} (ha : a ≤ n) : (fw_ t n s v a).1 ≤ n := wd_le _ _ _ ha
theorem fdc_le {t : Nat → Int32} {n a : Nat} (ha : a ≤ n) : (fdc t n a).1 ≤ n := by
  unfold fdc
  (repeat' split) <;> exact fw_le ha
theorem sgc_le {t : Nat → Int32} {n a : Nat} (ha : a ≤ n) : (sgc t n a).1 ≤ n := by
  unfold sgc
  split
  · rename_i h; exact h.1
  · split
    · rename_i h; exact h.1
    · split
      · rename_i h; exact h.1
      · exact ha
theorem nt1_le {t : Nat → Int32} {n a : Nat} (ha : a ≤ n) : nt1 t n a ≤ n := by
  unfold nt1
  split
  · rename_i h; exact h.1
  · exact ha
theorem bf_1 {b : Bool} (h : ¬ am_bi (b = true) = 0) : b = true := am_bi1.mp h
theorem bf_0 {b : Bool} (h : am_bi (b = true) = 0) : ¬ b = true := am_bi0.mp h
theorem sp121 {X : am_X} {M : am_M} {N : am_N} {n a : Nat} (hn : M 110 1 = nI n) (h120 : n ≤ 120) (ha : a ≤ n) : am_J X (am_eq (some (.int (fdc (M 111) n a).2)) (tp M (fdc (M 111) n a).1) N) 121 0 (am_en 121 [.ref 110]) [] (tp M a) N := by
  refine J_en (L := [.ref 110]) rfl ?_
  by_cases g0 : sg (M 111) n 109 a
  · refine J_b 2 am_d121 rfl ?_
    refine J_V1s 117 (am_d121 rfl) rfl rfl (sp117t hn h120 ha g0) ?_
    refine J_if_eq 24 (am_d121 rfl) rfl (fun h6 => absurd h6 (by decide)) (fun h6 => ?_)
    refine J_b 1 am_d121 rfl ?_
    refine J_ldS (n := 2) rfl (by decide) rfl (am_d121 rfl) ?_
    refine J_V1s 108 (am_d121 rfl) rfl rfl (sp108 (s := 2) hn h120 (by decide) ha) ?_
    refine J_if_eq 22 (am_d121 rfl) rfl (fun h15 => ?_) (fun h15 => ?_)
    · refine J_b 1 am_d121 rfl ?_
      exact J_iret (am_d121 rfl) rfl rfl ⟨congrArg (fun z => some (Value.int z)) (show _ = (fdc (M 111) n a).2 from by unfold fdc; rw [if_pos g0]; exact (if_neg (bf_0 h15)).symm), by unfold fdc; rw [if_pos g0]; rfl, rfl⟩
    · refine J_b 2 am_d121 rfl ?_
      exact J_iret (am_d121 rfl) rfl rfl ⟨congrArg (fun z => some (Value.int z)) (show _ = (fdc (M 111) n a).2 from by unfold fdc; rw [if_pos g0]; exact (if_pos (bf_1 h15)).symm), by unfold fdc; rw [if_pos g0]; rfl, rfl⟩
  · refine J_b 2 am_d121 rfl ?_
    refine J_V1s 117 (am_d121 rfl) rfl rfl (sp117f hn h120 ha g0) ?_
    refine J_if_eq 24 (am_d121 rfl) rfl (fun h6 => ?_) (fun h6 => absurd (rfl) h6)
    by_cases g1 : sg (M 111) n 102 a
    · refine J_b 2 am_d121 rfl ?_
      refine J_V1s 117 (am_d121 rfl) rfl rfl (sp117t hn h120 ha g1) ?_
      refine J_if_eq 48 (am_d121 rfl) rfl (fun h30 => absurd h30 (by decide)) (fun h30 => ?_)
      refine J_b 1 am_d121 rfl ?_
      refine J_ldS (n := 3) rfl (by decide) rfl (am_d121 rfl) ?_
      refine J_V1s 108 (am_d121 rfl) rfl rfl (sp108 (s := 3) hn h120 (by decide) ha) ?_
      refine J_if_eq 46 (am_d121 rfl) rfl (fun h39 => ?_) (fun h39 => ?_)
      · refine J_b 1 am_d121 rfl ?_
        exact J_iret (am_d121 rfl) rfl rfl ⟨congrArg (fun z => some (Value.int z)) (show _ = (fdc (M 111) n a).2 from by unfold fdc; rw [if_neg g0, if_pos g1]; exact (if_neg (bf_0 h39)).symm), by unfold fdc; rw [if_neg g0, if_pos g1]; rfl, rfl⟩
      · refine J_b 2 am_d121 rfl ?_
        exact J_iret (am_d121 rfl) rfl rfl ⟨congrArg (fun z => some (Value.int z)) (show _ = (fdc (M 111) n a).2 from by unfold fdc; rw [if_neg g0, if_pos g1]; exact (if_pos (bf_1 h39)).symm), by unfold fdc; rw [if_neg g0, if_pos g1]; rfl, rfl⟩
    · refine J_b 2 am_d121 rfl ?_
      refine J_V1s 117 (am_d121 rfl) rfl rfl (sp117f hn h120 ha g1) ?_
      refine J_if_eq 48 (am_d121 rfl) rfl (fun h30 => ?_) (fun h30 => absurd (rfl) h30)
      by_cases g2 : sg (M 111) n 107 a
      · refine J_b 2 am_d121 rfl ?_
        refine J_V1s 117 (am_d121 rfl) rfl rfl (sp117t hn h120 ha g2) ?_
        refine J_if_eq 72 (am_d121 rfl) rfl (fun h54 => absurd h54 (by decide)) (fun h54 => ?_)
        refine J_b 1 am_d121 rfl ?_
        refine J_ldS (n := 4) rfl (by decide) rfl (am_d121 rfl) ?_
        refine J_V1s 108 (am_d121 rfl) rfl rfl (sp108 (s := 4) hn h120 (by decide) ha) ?_
        refine J_if_eq 70 (am_d121 rfl) rfl (fun h63 => ?_) (fun h63 => ?_)
        · refine J_b 1 am_d121 rfl ?_
          exact J_iret (am_d121 rfl) rfl rfl ⟨congrArg (fun z => some (Value.int z)) (show _ = (fdc (M 111) n a).2 from by unfold fdc; rw [if_neg g0, if_neg g1, if_pos g2]; exact (if_neg (bf_0 h63)).symm), by unfold fdc; rw [if_neg g0, if_neg g1, if_pos g2]; rfl, rfl⟩
        · refine J_b 2 am_d121 rfl ?_
          exact J_iret (am_d121 rfl) rfl rfl ⟨congrArg (fun z => some (Value.int z)) (show _ = (fdc (M 111) n a).2 from by unfold fdc; rw [if_neg g0, if_neg g1, if_pos g2]; exact (if_pos (bf_1 h63)).symm), by unfold fdc; rw [if_neg g0, if_neg g1, if_pos g2]; rfl, rfl⟩
      · refine J_b 2 am_d121 rfl ?_
        refine J_V1s 117 (am_d121 rfl) rfl rfl (sp117f hn h120 ha g2) ?_
        refine J_if_eq 72 (am_d121 rfl) rfl (fun h54 => ?_) (fun h54 => absurd (rfl) h54)
        by_cases g3 : sg (M 111) n 116 a
        · refine J_b 2 am_d121 rfl ?_
          refine J_V1s 117 (am_d121 rfl) rfl rfl (sp117t hn h120 ha g3) ?_
          refine J_if_eq 96 (am_d121 rfl) rfl (fun h78 => absurd h78 (by decide)) (fun h78 => ?_)
          refine J_b 1 am_d121 rfl ?_
          refine J_ldS (n := 5) rfl (by decide) rfl (am_d121 rfl) ?_
          refine J_V1s 108 (am_d121 rfl) rfl rfl (sp108 (s := 5) hn h120 (by decide) ha) ?_
          refine J_if_eq 94 (am_d121 rfl) rfl (fun h87 => ?_) (fun h87 => ?_)
          · refine J_b 1 am_d121 rfl ?_
            exact J_iret (am_d121 rfl) rfl rfl ⟨congrArg (fun z => some (Value.int z)) (show _ = (fdc (M 111) n a).2 from by unfold fdc; rw [if_neg g0, if_neg g1, if_neg g2, if_pos g3]; exact (if_neg (bf_0 h87)).symm), by unfold fdc; rw [if_neg g0, if_neg g1, if_neg g2, if_pos g3]; rfl, rfl⟩
          · refine J_b 2 am_d121 rfl ?_
            exact J_iret (am_d121 rfl) rfl rfl ⟨congrArg (fun z => some (Value.int z)) (show _ = (fdc (M 111) n a).2 from by unfold fdc; rw [if_neg g0, if_neg g1, if_neg g2, if_pos g3]; exact (if_pos (bf_1 h87)).symm), by unfold fdc; rw [if_neg g0, if_neg g1, if_neg g2, if_pos g3]; rfl, rfl⟩
        · refine J_b 2 am_d121 rfl ?_
          refine J_V1s 117 (am_d121 rfl) rfl rfl (sp117f hn h120 ha g3) ?_
          refine J_if_eq 96 (am_d121 rfl) rfl (fun h78 => ?_) (fun h78 => absurd (rfl) h78)
          refine J_b 1 am_d121 rfl ?_
          refine J_ldS (n := 6) rfl (by decide) rfl (am_d121 rfl) ?_
          refine J_V1s 108 (am_d121 rfl) rfl rfl (sp108 (s := 6) hn h120 (by decide) ha) ?_
          refine J_if_eq 109 (am_d121 rfl) rfl (fun h102 => ?_) (fun h102 => ?_)
          · refine J_b 1 am_d121 rfl ?_
            exact J_iret (am_d121 rfl) rfl rfl ⟨congrArg (fun z => some (Value.int z)) (show _ = (fdc (M 111) n a).2 from by unfold fdc; rw [if_neg g0, if_neg g1, if_neg g2, if_neg g3]; exact (if_neg (bf_0 h102)).symm), by unfold fdc; rw [if_neg g0, if_neg g1, if_neg g2, if_neg g3]; rfl, rfl⟩
          · refine J_b 2 am_d121 rfl ?_
            exact J_iret (am_d121 rfl) rfl rfl ⟨congrArg (fun z => some (Value.int z)) (show _ = (fdc (M 111) n a).2 from by unfold fdc; rw [if_neg g0, if_neg g1, if_neg g2, if_neg g3]; exact (if_pos (bf_1 h102)).symm), by unfold fdc; rw [if_neg g0, if_neg g1, if_neg g2, if_neg g3]; rfl, rfl⟩
theorem sp122 {X : am_X} {M : am_M} {N : am_N} {n a : Nat} (hn : M 110 1 = nI n) (h120 : n ≤ 120) (ha : a ≤ n) : am_J X (am_eq (some (.int (sgc (M 111) n a).2)) (tp M (sgc (M 111) n a).1) N) 122 0 (am_en 122 [.ref 110]) [] (tp M a) N := by
  refine J_en (L := [.ref 110]) rfl ?_
  by_cases g0 : sg (M 111) n 61 a
  · refine J_b 2 am_d122 rfl ?_
    refine J_V1s 116 (am_d122 rfl) rfl rfl (sp116t hn h120 ha g0) ?_
    refine J_if_eq 12 (am_d122 rfl) rfl (fun h6 => absurd h6 (by decide)) (fun h6 => ?_)
    refine J_b 1 am_d122 rfl ?_
    exact J_iret (am_d122 rfl) rfl rfl ⟨by unfold sgc; rw [if_pos g0]; rfl, by unfold sgc; rw [if_pos g0], rfl⟩
  · refine J_b 2 am_d122 rfl ?_
    refine J_V1s 116 (am_d122 rfl) rfl rfl (sp116f hn h120 ha g0) ?_
    refine J_if_eq 12 (am_d122 rfl) rfl (fun h6 => ?_) (fun h6 => absurd (rfl) h6)
    by_cases g1 : sg (M 111) n 60 a
    · refine J_b 2 am_d122 rfl ?_
      refine J_V1s 116 (am_d122 rfl) rfl rfl (sp116t hn h120 ha g1) ?_
      refine J_if_eq 24 (am_d122 rfl) rfl (fun h18 => absurd h18 (by decide)) (fun h18 => ?_)
      refine J_b 1 am_d122 rfl ?_
      exact J_iret (am_d122 rfl) rfl rfl ⟨by unfold sgc; rw [if_neg g0, if_pos g1]; rfl, by unfold sgc; rw [if_neg g0, if_pos g1], rfl⟩
    · refine J_b 2 am_d122 rfl ?_
      refine J_V1s 116 (am_d122 rfl) rfl rfl (sp116f hn h120 ha g1) ?_
      refine J_if_eq 24 (am_d122 rfl) rfl (fun h18 => ?_) (fun h18 => absurd (rfl) h18)
      by_cases g2 : sg (M 111) n 62 a
      · refine J_b 2 am_d122 rfl ?_
        refine J_V1s 116 (am_d122 rfl) rfl rfl (sp116t hn h120 ha g2) ?_
        refine J_if_eq 38 (am_d122 rfl) rfl (fun h30 => absurd h30 (by decide)) (fun h30 => ?_)
        refine J_b 2 am_d122 rfl ?_
        exact J_iret (am_d122 rfl) rfl rfl ⟨by unfold sgc; rw [if_neg g0, if_neg g1, if_pos g2]; rfl, by unfold sgc; rw [if_neg g0, if_neg g1, if_pos g2], rfl⟩
      · refine J_b 2 am_d122 rfl ?_
        refine J_V1s 116 (am_d122 rfl) rfl rfl (sp116f hn h120 ha g2) ?_
        refine J_if_eq 38 (am_d122 rfl) rfl (fun h30 => ?_) (fun h30 => absurd (rfl) h30)
        refine J_b 1 am_d122 rfl ?_
        exact J_iret (am_d122 rfl) rfl rfl ⟨by unfold sgc; rw [if_neg g0, if_neg g1, if_neg g2]; rfl, by unfold sgc; rw [if_neg g0, if_neg g1, if_neg g2], rfl⟩
theorem sp116n {X : am_X} {M : am_M} {N : am_N} {n a : Nat} (hn : M 110 1 = nI n) (h120 : n ≤ 120) (ha : a ≤ n) : am_J X (am_eq (some (.int (nt2 (M 111) n a))) (tp M (nt1 (M 111) n a)) N) 116 0 (am_en 116 [.ref 110, .int 33]) [] (tp M a) N := by
  unfold nt1 nt2
  by_cases hs : sg (M 111) n 33 a
  · rw [if_pos hs, if_pos hs]
    exact sp116t hn h120 ha hs
  · rw [if_neg hs, if_neg hs]
    exact sp116f hn h120 ha hs
/-! a test -/
abbrev tT : Type := Int32 × Int32 × Int32 × Int32
def ts2 (t : Nat → Int32) (n a : Nat) : Nat × Int32 := fdc t n (nt1 t n a)
def ts3 (t : Nat → Int32) (n a : Nat) : Nat × Int32 := sgc t n (ts2 t n a).1
def ts4 (t : Nat → Int32) (n a : Nat) : Nat × Int32 := nc t n 4 (ts3 t n a).1 (-1)
abbrev tsk (t : Nat → Int32) (n a : Nat) : Prop := 0 ≤ (ts2 t n a).2 ∧ 0 ≤ (ts3 t n a).2 ∧ 0 ≤ (ts4 t n a).2
def tse (t : Nat → Int32) (n a : Nat) : Nat := if 0 ≤ (ts2 t n a).2 then (if 0 ≤ (ts3 t n a).2 then (ts4 t n a).1 else (ts3 t n a).1) else (ts2 t n a).1
def tsv (t : Nat → Int32) (n a : Nat) : tT := (nt2 t n a, (ts2 t n a).2, (ts3 t n a).2, (ts4 t n a).2)
theorem ts2_le {t : Nat → Int32} {n a : Nat} (ha : a ≤ n) : (ts2 t n a).1 ≤ n := fdc_le (nt1_le ha)
theorem ts3_le {t : Nat → Int32} {n a : Nat} (ha : a ≤ n) : (ts3 t n a).1 ≤ n := sgc_le (ts2_le ha)
theorem ts4_le {t : Nat → Int32} {n a : Nat} (ha : a ≤ n) : (ts4 t n a).1 ≤ n := nc_le _ _ _ (ts3_le ha)
theorem tse_le {t : Nat → Int32} {n a : Nat} (ha : a ≤ n) : tse t n a ≤ n := by
  unfold tse
  split
  · split
    · exact ts4_le ha
    · exact ts3_le ha
  · exact ts2_le ha
/-- only a test's places have changed -/
def fr (M M' : am_M) (k : Nat) : Prop := ∀ r j, ¬ ((115 ≤ r ∧ r ≤ 118) ∧ j = k) → M' r j = M r j
theorem fr_0 {M : am_M} {k : Nat} : fr M M k := fun _ _ _ => rfl
theorem fr_up {M M' : am_M} {k r : Nat} {v : Int32} (h : fr M M' k) (hr : 115 ≤ r ∧ r ≤ 118) : fr M (am_up M' r k v) k := by
  intro r' j' h'
  rw [← h r' j' h']
  unfold am_up
  split
  · split
    · rename_i e1 e2
      exact absurd ⟨by omega, e2⟩ h'
    · rfl
  · rfl
theorem fr_r {M M' : am_M} {k r : Nat} (h : fr M M' k) (hr : ¬ (115 ≤ r ∧ r ≤ 118)) : M' r = M r := funext fun j => h r j (fun z => hr z.1)
theorem nt2_b {t : Nat → Int32} {n a : Nat} : nt2 t n a = 0 ∨ nt2 t n a = 1 := by
  unfold nt2
  split
  · exact .inr rfl
  · exact .inl rfl
theorem nar_b {x : Int32} (h : x = 0 ∨ x = 1) : vp_nar .boolean x = x := by
  rcases h with rfl | rfl <;> decide
theorem sp120 {X : am_X} {M : am_M} {N : am_N} {n a k : Nat} (hn : M 110 1 = nI n) (h120 : n ≤ 120) (ha : a ≤ n) (hk : k < 24) : am_J X (q_p (some (.int (am_bi (tsk (M 111) n a)))) (fun M2 _ => ∃ M3, M2 = tp M3 (tse (M 111) n a) ∧ fr M M3 k ∧ (tsk (M 111) n a → M3 115 k = nt2 (M 111) n a ∧ M3 116 k = (ts2 (M 111) n a).2 ∧ M3 117 k = (ts3 (M 111) n a).2 ∧ M3 118 k = (ts4 (M 111) n a).2))) 120 0 (am_en 120 [.ref 112, .ref 110, .int (nI k)]) [] (tp M a) N := by
  refine J_en (L := [.ref 112, .ref 110, .int (nI k)]) rfl ?_
  refine J_b 5 am_d120 rfl ?_
  refine J_V1s 116 (am_d120 rfl) rfl rfl (sp116n hn h120 ha) ?_
  refine J_zast (am_d120 rfl) rfl (vp_in_nI hk (by decide)) ?_
  rw [nI_c (n := k) (by omega), nar_b nt2_b, tp_up (show (115 : Nat) ≠ 110 by decide)]
  refine J_b 4 am_d120 rfl ?_
  have q2 := sp121 (X := X) (N := N) (M := am_up M 115 k (nt2 (M 111) n a)) hn h120 (nt1_le (t := M 111) ha)
  refine J_S1s 121 (am_d120 rfl) rfl rfl q2 ?_
  show am_J X _ 120 21 _ (.int (ts2 (M 111) n a).2 :: _) (tp (am_up M 115 k (nt2 (M 111) n a)) (ts2 (M 111) n a).1) N
  refine J_iast (am_d120 rfl) rfl (vp_in_nI hk (by decide)) ?_
  rw [nI_c (n := k) (by omega), tp_up (show (116 : Nat) ≠ 110 by decide)]
  refine J_b 3 am_d120 rfl ?_
  refine J_iald (am_d120 rfl) rfl (vp_in_nI hk (by decide)) ?_
  rw [nI_c (n := k) (by omega), tp_n (show (116 : Nat) ≠ 110 by decide), up_r]
  refine J_if_ge 33 (am_d120 rfl) rfl (fun h28 => ?_) (fun h28 => ?_)
  · refine J_b 4 am_d120 rfl ?_
    have q3 := sp122 (X := X) (N := N) (M := am_up (am_up M 115 k (nt2 (M 111) n a)) 116 k (ts2 (M 111) n a).2) hn h120 (ts2_le (t := M 111) ha)
    refine J_S1s 122 (am_d120 rfl) rfl rfl q3 ?_
    show am_J X _ 120 42 _ (.int (ts3 (M 111) n a).2 :: _) (tp (am_up (am_up M 115 k (nt2 (M 111) n a)) 116 k (ts2 (M 111) n a).2) (ts3 (M 111) n a).1) N
    refine J_iast (am_d120 rfl) rfl (vp_in_nI hk (by decide)) ?_
    rw [nI_c (n := k) (by omega), tp_up (show (117 : Nat) ≠ 110 by decide)]
    refine J_b 3 am_d120 rfl ?_
    refine J_iald (am_d120 rfl) rfl (vp_in_nI hk (by decide)) ?_
    rw [nI_c (n := k) (by omega), tp_n (show (117 : Nat) ≠ 110 by decide), up_r]
    refine J_if_ge 54 (am_d120 rfl) rfl (fun h49 => ?_) (fun h49 => ?_)
    · refine J_b 4 am_d120 rfl ?_
      have q4 := sp118 (X := X) (N := N) (M := am_up (am_up (am_up M 115 k (nt2 (M 111) n a)) 116 k (ts2 (M 111) n a).2) 117 k (ts3 (M 111) n a).2) hn h120 (ts3_le (t := M 111) ha)
      refine J_V0s 118 (am_d120 rfl) rfl rfl q4 ?_
      show am_J X _ 120 63 _ (.int (ts4 (M 111) n a).2 :: _) (tp (am_up (am_up (am_up M 115 k (nt2 (M 111) n a)) 116 k (ts2 (M 111) n a).2) 117 k (ts3 (M 111) n a).2) (ts4 (M 111) n a).1) N
      refine J_iast (am_d120 rfl) rfl (vp_in_nI hk (by decide)) ?_
      rw [nI_c (n := k) (by omega), tp_up (show (118 : Nat) ≠ 110 by decide)]
      refine J_b 3 am_d120 rfl ?_
      refine J_iald (am_d120 rfl) rfl (vp_in_nI hk (by decide)) ?_
      rw [nI_c (n := k) (by omega), tp_n (show (118 : Nat) ≠ 110 by decide), up_r]
      refine J_if_lt 77 (am_d120 rfl) rfl (fun h70 => ?_) (fun h70 => ?_)
      · refine J_b 1 am_d120 rfl ?_
        exact J_iret (am_d120 rfl) rfl rfl ⟨congrArg (fun z => some (Value.int z)) (am_bif (fun z => absurd h70 (Int32.not_lt.mpr z.2.2))).symm, am_up (am_up (am_up (am_up M 115 k (nt2 (M 111) n a)) 116 k (ts2 (M 111) n a).2) 117 k (ts3 (M 111) n a).2) 118 k (ts4 (M 111) n a).2, by unfold tse; rw [if_pos h28, if_pos h49], fr_up (fr_up (fr_up (fr_up fr_0 (by omega)) (by omega)) (by omega)) (by omega), fun z => absurd h70 (Int32.not_lt.mpr z.2.2)⟩
      · refine J_b 2 am_d120 rfl ?_
        refine J_iret (am_d120 rfl) rfl rfl ⟨congrArg (fun z => some (Value.int z)) (am_bit ⟨h28, h49, Int32.not_lt.mp h70⟩).symm, am_up (am_up (am_up (am_up M 115 k (nt2 (M 111) n a)) 116 k (ts2 (M 111) n a).2) 117 k (ts3 (M 111) n a).2) 118 k (ts4 (M 111) n a).2, by unfold tse; rw [if_pos h28, if_pos h49], fr_up (fr_up (fr_up (fr_up fr_0 (by omega)) (by omega)) (by omega)) (by omega), fun _ => ⟨?_, ?_, ?_, up_r⟩⟩
        · rw [up_n (by decide), up_n (by decide), up_n (by decide), up_r]
        · rw [up_n (by decide), up_n (by decide), up_r]
        · rw [up_n (by decide), up_r]
    · refine J_b 1 am_d120 rfl ?_
      exact J_iret (am_d120 rfl) rfl rfl ⟨congrArg (fun z => some (Value.int z)) (am_bif (fun z => h49 z.2.1)).symm, am_up (am_up (am_up M 115 k (nt2 (M 111) n a)) 116 k (ts2 (M 111) n a).2) 117 k (ts3 (M 111) n a).2, by unfold tse; rw [if_pos h28, if_neg h49], fr_up (fr_up (fr_up fr_0 (by omega)) (by omega)) (by omega), fun z => absurd z.2.1 h49⟩
  · refine J_b 1 am_d120 rfl ?_
    exact J_iret (am_d120 rfl) rfl rfl ⟨congrArg (fun z => some (Value.int z)) (am_bif (fun z => h28 z.1)).symm, am_up (am_up M 115 k (nt2 (M 111) n a)) 116 k (ts2 (M 111) n a).2, by unfold tse; rw [if_neg h28], fr_up (fr_up fr_0 (by omega)) (by omega), fun z => absurd z.1 h28⟩
