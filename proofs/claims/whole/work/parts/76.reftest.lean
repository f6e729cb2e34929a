/-! ===== prizes: the reference reads what the class reads ===== -/
theorem wd_add {t : Nat → Int32} {n : Nat} {w : Nat → Int32} {m2 : Nat} : ∀ m1 i a, wd t n w (m1 + m2) i a = if (wd t n w m1 i a).2 = true then wd t n w m2 (i + m1) (wd t n w m1 i a).1 else wd t n w m1 i a := by
  intro m1
  induction m1 with
  | zero =>
    intro i a
    rw [Nat.zero_add]
    exact (if_pos rfl).symm
  | succ m ih =>
    intro i a
    rw [show m + 1 + m2 = m + m2 + 1 by omega, wd, wd]
    by_cases h : sg t n (w i) a
    · rw [if_pos h, if_pos h, ih, show i + 1 + m = i + (m + 1) by omega]
    · rw [if_neg h, if_neg h]
      exact (if_neg (show ¬ false = true by decide)).symm
theorem wd_c {t : Nat → Int32} {n : Nat} {w w' : Nat → Int32} : ∀ m i j a, (∀ k, k < m → w (i + k) = w' (j + k)) → wd t n w m i a = wd t n w' m j a := by
  intro m
  induction m with
  | zero => exact fun i j a h => rfl
  | succ m ih =>
    intro i j a h
    have h0 := h 0 (by omega)
    rw [Nat.add_zero, Nat.add_zero] at h0
    rw [wd, wd, h0, ih (i + 1) (j + 1) (a + 1) (fun k hk => by rw [show i + 1 + k = i + (k + 1) by omega, show j + 1 + k = j + (k + 1) by omega]; exact h (k + 1) (by omega))]
theorem wd_1 {t : Nat → Int32} {n i a : Nat} {w : Nat → Int32} : wd t n w 1 i a = if sg t n (w i) a then (a + 1, true) else (a, false) := rfl
theorem so_tx : ∀ w : Fin 7, ∀ k : Fin 6, (w.val = 0 → k.val < 5 → so 0 k.val = tx 0 k.val) ∧ (w.val = 1 → k.val < 2 → so 1 k.val = tx 1 (1 + k.val)) ∧ (2 ≤ w.val → rl w.val = tl w.val ∧ (k.val < rl w.val → so w.val k.val = tx w.val k.val)) := by
  decide +kernel
theorem wso {t : Nat → Int32} {n w a : Nat} (h1 : 2 ≤ w) (h2 : w < 7) : wd t n (so w) (rl w) 0 a = wd t n (tx w) (tl w) 0 a := by
  have e := ((so_tx ⟨w, h2⟩ ⟨0, by decide⟩).2.2 h1).1
  have e2 : rl w = tl w := e
  have h6 := (so_z h2).2.2
  rw [← e2]
  exact wd_c _ _ _ _ (fun k hk => by rw [Nat.zero_add]; exact ((so_tx ⟨w, h2⟩ ⟨k, by omega⟩).2.2 h1).2 hk)
theorem wr_1 {t : Nat → Int32} {n w a : Nat} (hw : w < 7) : wr t n 1 w a = ((wd t n (so w) (rl w) 0 a).1, if (wd t n (so w) (rl w) 0 a).2 = true then nI w else -1) := by
  have h1 := (so_z hw).2.1
  obtain ⟨m, hm⟩ : ∃ m, rl w = m + 1 := ⟨rl w - 1, by omega⟩
  rw [wr]
  by_cases h : sg t n (so w 0) a
  · rw [if_pos h]
  · rw [if_neg h, hm, wd, if_neg h]
    rfl
/-- the words prize and if, and the signs about them -/
def q1_ (t : Nat → Int32) (n : Nat) : Nat × Bool := wd t n (so 0) 5 0 0
def q2_ (t : Nat → Int32) (n a : Nat) : Nat × Bool := wd t n (so 1) 2 0 (a + 1)
theorem pz1_e {t : Nat → Int32} {n : Nat} : pz1 t n = if (q1_ t n).2 = true then (if sg t n 32 (q1_ t n).1 then ((q1_ t n).1 + 1, true) else ((q1_ t n).1, false)) else q1_ t n := by
  have e : wd t n (tx 0) 5 0 0 = q1_ t n := wd_c _ _ _ _ (fun k hk => by rw [Nat.zero_add]; exact ((so_tx ⟨0, by decide⟩ ⟨k, by omega⟩).1 rfl hk).symm)
  show wd t n (tx 0) (5 + 1) 0 0 = _
  rw [wd_add, e]
  rfl
theorem pz3_e {t : Nat → Int32} {n a : Nat} : wd t n (tx 1) (tl 1) 0 a = if sg t n 32 a then (if (q2_ t n a).2 = true then (if sg t n 32 (q2_ t n a).1 then ((q2_ t n a).1 + 1, true) else ((q2_ t n a).1, false)) else q2_ t n a) else (a, false) := by
  have e : wd t n (tx 1) 2 1 (a + 1) = q2_ t n a := wd_c _ _ _ _ (fun k hk => by rw [Nat.zero_add]; exact ((so_tx ⟨1, by decide⟩ ⟨k, by omega⟩).2.1 rfl hk).symm)
  show wd t n (tx 1) (3 + 1) 0 a = _
  rw [wd]
  show (if sg t n 32 a then wd t n (tx 1) (2 + 1) 1 (a + 1) else (a, false)) = _
  rw [wd_add, e]
  rfl
theorem fx_e {t : Nat → Int32} {n a w : Nat} {v : Int32} (h1 : 2 ≤ w) (h2 : w < 7) (hv : nI w - Int32.ofInt 2 = v) (h0 : 0 ≤ v) : ((wd t n (so w) (rl w) 0 a).1 = (fw_ t n w v a).1) ∧ (0 ≤ (fw_ t n w v a).2 ↔ 0 ≤ (if (wd t n (so w) (rl w) 0 a).2 = true then nI w else -1)) ∧ (0 ≤ (fw_ t n w v a).2 → (if (wd t n (so w) (rl w) 0 a).2 = true then nI w else -1) - Int32.ofInt 2 = (fw_ t n w v a).2) := by
  rw [wso h1 h2]
  unfold fw_
  refine ⟨rfl, ?_⟩
  show (0 ≤ (if (wd t n (tx w) (tl w) 0 a).2 = true then v else -1) ↔ 0 ≤ (if (wd t n (tx w) (tl w) 0 a).2 = true then nI w else -1)) ∧ (0 ≤ (if (wd t n (tx w) (tl w) 0 a).2 = true then v else -1) → (if (wd t n (tx w) (tl w) 0 a).2 = true then nI w else -1) - Int32.ofInt 2 = (if (wd t n (tx w) (tl w) 0 a).2 = true then v else -1))
  by_cases b : (wd t n (tx w) (tl w) 0 a).2 = true
  · rw [if_pos b, if_pos b]
    exact ⟨⟨fun _ => by rw [Int32.le_iff_toInt_le, nI_i (by omega)]; exact Int.natCast_nonneg _, fun _ => h0⟩, fun _ => hv⟩
  · rw [if_neg b, if_neg b]
    exact ⟨Iff.rfl, fun z => absurd z (by decide)⟩
theorem fdr_e {t : Nat → Int32} {n a : Nat} : (wr t n 5 2 a).1 = (fdc t n a).1 ∧ (0 ≤ (fdc t n a).2 ↔ 0 ≤ (wr t n 5 2 a).2) ∧ (0 ≤ (fdc t n a).2 → (wr t n 5 2 a).2 - Int32.ofInt 2 = (fdc t n a).2) := by
  have e : wr t n 5 2 a = (if sg t n 109 a then ((wd t n (so 2) (rl 2) 0 a).1, if (wd t n (so 2) (rl 2) 0 a).2 = true then nI 2 else -1) else (if sg t n 102 a then ((wd t n (so 3) (rl 3) 0 a).1, if (wd t n (so 3) (rl 3) 0 a).2 = true then nI 3 else -1) else (if sg t n 107 a then ((wd t n (so 4) (rl 4) 0 a).1, if (wd t n (so 4) (rl 4) 0 a).2 = true then nI 4 else -1) else (if sg t n 116 a then ((wd t n (so 5) (rl 5) 0 a).1, if (wd t n (so 5) (rl 5) 0 a).2 = true then nI 5 else -1) else (if sg t n 119 a then ((wd t n (so 6) (rl 6) 0 a).1, if (wd t n (so 6) (rl 6) 0 a).2 = true then nI 6 else -1) else (a, -1)))))) := rfl
  rw [e]
  unfold fdc
  by_cases g0 : sg t n 109 a
  · rw [if_pos g0, if_pos g0]
    exact fx_e (by decide) (by decide) (by decide) (by decide)
  rw [if_neg g0, if_neg g0]
  by_cases g1 : sg t n 102 a
  · rw [if_pos g1, if_pos g1]
    exact fx_e (by decide) (by decide) (by decide) (by decide)
  rw [if_neg g1, if_neg g1]
  by_cases g2 : sg t n 107 a
  · rw [if_pos g2, if_pos g2]
    exact fx_e (by decide) (by decide) (by decide) (by decide)
  rw [if_neg g2, if_neg g2]
  by_cases g3 : sg t n 116 a
  · rw [if_pos g3, if_pos g3]
    exact fx_e (by decide) (by decide) (by decide) (by decide)
  rw [if_neg g3, if_neg g3]
  by_cases g4 : sg t n 119 a
  · rw [if_pos g4]
    exact fx_e (by decide) (by decide) (by decide) (by decide)
  rw [if_neg g4]
  have e6 : fw_ t n 6 4 a = (a, -1) := by
    have e7 : wd t n (tx 6) (tl 6) 0 a = (a, false) := by
      show (if sg t n 119 a then _ else (a, false)) = _
      rw [if_neg g4]
    unfold fw_
    rw [e7]
    rfl
  rw [e6]
  exact ⟨rfl, Iff.rfl, fun z => absurd (show (0 : Int32) ≤ -1 from z) (by decide)⟩
/-- only a test's places, and the number read, have changed -/
def fx (M M' : am_M) (k : Nat) : Prop := ∀ r j, ¬ (r = 167 ∧ k ≤ j ∧ j < k + 4) → ¬ (r = 120 ∧ j = 58) → M' r j = M r j
theorem fx_0 {M : am_M} {k : Nat} : fx M M k := fun _ _ _ _ => rfl
theorem fx_up {M M' : am_M} {k j : Nat} {v : Int32} (h : fx M M' k) (hj : k ≤ j ∧ j < k + 4) : fx M (am_up M' 167 j v) k := by
  intro r' j' h1 h2
  rw [← h r' j' h1 h2]
  unfold am_up
  split
  · split
    · rename_i e1 e2
      exact absurd ⟨e1, by omega⟩ h1
    · rfl
  · rfl
theorem fx_58 {M M' : am_M} {k : Nat} {v : Int32} (h : fx M M' k) : fx M (am_up M' 120 58 v) k := by
  intro r' j' h1 h2
  rw [← h r' j' h1 h2]
  unfold am_up
  split
  · split
    · rename_i e1 e2
      exact absurd ⟨e1, e2⟩ h2
    · rfl
  · rfl
theorem sp199n {X : am_X} {M : am_M} {N : am_N} {n a : Nat} {t : Nat → Int32} (hn : M 120 55 = nI n) (h120 : n ≤ 120) (ht : M 164 = t) (ha : a ≤ n) : am_J X (am_eq (some (.int (nt2 t n a))) (ty M (nt1 t n a)) N) 199 0 (am_en 199 [.ref 120, .int 33]) [] (ty M a) N := by
  unfold nt1 nt2
  by_cases hs : sg t n 33 a
  · rw [if_pos hs, if_pos hs]
    exact sp199t hn h120 ht ha (by decide) hs
  · rw [if_neg hs, if_neg hs]
    exact sp199f hn h120 ht ha (by decide) hs
theorem up_j {M : am_M} {k i j : Nat} {x : Int32} (h : i ≠ j) : am_up M k j x k i = M k i := by
  rw [up_k]
  exact if_neg h
theorem t202b {X : am_X} {M : am_M} {N : am_N} {n a k : Nat} {t : Nat → Int32} {w op : Int32} (hn : M 120 55 = nI n) (h120 : n ≤ 120) (ht : M 164 = t) (ha : a ≤ n) (hk : k + 3 < 96) (e3 : ts3 t n a = ((ts2 t n a).1 + 1, op)) (h2 : 0 ≤ (ts2 t n a).2) (h3 : 0 ≤ (ts3 t n a).2) (hw2 : w - Int32.ofInt 2 = (ts2 t n a).2) : am_J X (q_p (some (.int (am_bi (tsk t n a)))) (fun M2 _ => ∃ M3, M2 = ty M3 (tse t n a) ∧ fx M M3 k ∧ (tsk t n a → M3 167 k = nt2 t n a ∧ M3 167 (k + 1) = (ts2 t n a).2 ∧ M3 167 (k + 2) = (ts3 t n a).2 ∧ M3 167 (k + 3) = (ts4 t n a).2))) 202 50 [.ref 120, .int (nI k), .int (nt2 t n a), .int w, .int (ts3 t n a).2] [] (ty M (ts2 t n a).1) N := by
  refine J_b 5 am_d202 rfl ?_
  rw [show (ty M (ts2 t n a).1) 120 57 = nI (ts2 t n a).1 from ty_2]
  refine J_puti (am_d202 rfl) rfl ?_
  rw [show nI (ts2 t n a).1 + Int32.ofInt 1 = nI ((ts2 t n a).1 + 1) from nI_1 _]
  refine J_mem ty_ty ?_
  rw [show (ts2 t n a).1 + 1 = (ts3 t n a).1 from by rw [e3]]
  by_cases hd : dg t n (ts3 t n a).1
  · have hk3 : tsk t n a := ⟨h2, h3, nc_dg.mpr hd⟩
    refine J_b 1 am_d202 rfl ?_
    have kn := sp200t (X := X) (N := N) (M := M) (a := (ts3 t n a).1) hn h120 ht (ts3_le ha) hd
    refine J_V0s 200 (am_d202 rfl) rfl rfl kn ?_
    show am_J X _ 202 64 _ _ (ty (am_up M 120 58 (ts4 t n a).2) (ts4 t n a).1) N
    refine J_if_ne 69 (am_d202 rfl) rfl (fun h64 => ?_) (fun h64 => absurd h64 (by decide))
    rcases nt2_b (t := t) (n := n) (a := a) with hb | hb
    · refine J_b 4 am_d202 rfl ?_
      refine J_if_eq 82 (am_d202 rfl) rfl (fun h75 => ?_) (fun h75 => absurd (hb) h75)
      refine J_b 1 am_d202 rfl ?_
      rw [show (Int32.ofInt 0 : Int32) = nt2 t n a from hb.symm]
      refine J_iast (am_d202 rfl) rfl (vp_in_nI (show k < 96 by omega) (by decide)) ?_
      rw [nI_c (n := k) (by omega)]
      refine J_mem (ty_up (by omega)) ?_
      refine J_b 5 am_d202 rfl ?_
      rw [show nI k + Int32.ofInt 1 = nI (k + 1) from nI_add k 1]
      refine J_b 1 am_d202 rfl ?_
      refine J_b 2 am_d202 rfl ?_
      rw [hw2]
      refine J_iast (am_d202 rfl) rfl (vp_in_nI (show k + 1 < 96 by omega) (by decide)) ?_
      rw [nI_c (n := k + 1) (by omega)]
      refine J_mem (ty_up (by omega)) ?_
      refine J_b 5 am_d202 rfl ?_
      rw [show nI k + Int32.ofInt 2 = nI (k + 2) from nI_add k 2]
      refine J_b 1 am_d202 rfl ?_
      refine J_iast (am_d202 rfl) rfl (vp_in_nI (show k + 2 < 96 by omega) (by decide)) ?_
      rw [nI_c (n := k + 2) (by omega)]
      refine J_mem (ty_up (by omega)) ?_
      refine J_b 5 am_d202 rfl ?_
      rw [show nI k + Int32.ofInt 3 = nI (k + 3) from nI_add k 3]
      refine J_b 1 am_d202 rfl ?_
      refine J_b 1 am_d202 rfl ?_
      rw [show (ty (am_up (am_up (am_up (am_up M 120 58 (ts4 t n a).2) 167 k (nt2 t n a)) 167 (k + 1) (ts2 t n a).2) 167 (k + 2) (ts3 t n a).2) (ts4 t n a).1) 120 58 = (ts4 t n a).2 from rfl]
      refine J_iast (am_d202 rfl) rfl (vp_in_nI (show k + 3 < 96 by omega) (by decide)) ?_
      rw [nI_c (n := k + 3) (by omega)]
      refine J_mem (ty_up (by omega)) ?_
      refine J_b 1 am_d202 rfl ?_
      refine J_iret (am_d202 rfl) rfl rfl ⟨congrArg (fun z => some (Value.int z)) (am_bit hk3).symm, (am_up (am_up (am_up (am_up (am_up M 120 58 (ts4 t n a).2) 167 k (nt2 t n a)) 167 (k + 1) (ts2 t n a).2) 167 (k + 2) (ts3 t n a).2) 167 (k + 3) (ts4 t n a).2), by unfold tse; rw [if_pos h2, if_pos h3], fx_up (fx_up (fx_up (fx_up (fx_58 fx_0) (by omega)) (by omega)) (by omega)) (by omega), fun _ => ⟨?_, ?_, ?_, up_r⟩⟩
      · rw [up_j (by omega), up_j (by omega), up_j (by omega), up_r]
      · rw [up_j (by omega), up_j (by omega), up_r]
      · rw [up_j (by omega), up_r]
    · refine J_b 4 am_d202 rfl ?_
      refine J_if_eq 82 (am_d202 rfl) rfl (fun h75 => absurd (hb.symm.trans h75) (by decide)) (fun h75 => ?_)
      refine J_b 2 am_d202 rfl ?_
      rw [show (Int32.ofInt 1 : Int32) = nt2 t n a from hb.symm]
      refine J_iast (am_d202 rfl) rfl (vp_in_nI (show k < 96 by omega) (by decide)) ?_
      rw [nI_c (n := k) (by omega)]
      refine J_mem (ty_up (by omega)) ?_
      refine J_b 5 am_d202 rfl ?_
      rw [show nI k + Int32.ofInt 1 = nI (k + 1) from nI_add k 1]
      refine J_b 1 am_d202 rfl ?_
      refine J_b 2 am_d202 rfl ?_
      rw [hw2]
      refine J_iast (am_d202 rfl) rfl (vp_in_nI (show k + 1 < 96 by omega) (by decide)) ?_
      rw [nI_c (n := k + 1) (by omega)]
      refine J_mem (ty_up (by omega)) ?_
      refine J_b 5 am_d202 rfl ?_
      rw [show nI k + Int32.ofInt 2 = nI (k + 2) from nI_add k 2]
      refine J_b 1 am_d202 rfl ?_
      refine J_iast (am_d202 rfl) rfl (vp_in_nI (show k + 2 < 96 by omega) (by decide)) ?_
      rw [nI_c (n := k + 2) (by omega)]
      refine J_mem (ty_up (by omega)) ?_
      refine J_b 5 am_d202 rfl ?_
      rw [show nI k + Int32.ofInt 3 = nI (k + 3) from nI_add k 3]
      refine J_b 1 am_d202 rfl ?_
      refine J_b 1 am_d202 rfl ?_
      rw [show (ty (am_up (am_up (am_up (am_up M 120 58 (ts4 t n a).2) 167 k (nt2 t n a)) 167 (k + 1) (ts2 t n a).2) 167 (k + 2) (ts3 t n a).2) (ts4 t n a).1) 120 58 = (ts4 t n a).2 from rfl]
      refine J_iast (am_d202 rfl) rfl (vp_in_nI (show k + 3 < 96 by omega) (by decide)) ?_
      rw [nI_c (n := k + 3) (by omega)]
      refine J_mem (ty_up (by omega)) ?_
      refine J_b 1 am_d202 rfl ?_
      refine J_iret (am_d202 rfl) rfl rfl ⟨congrArg (fun z => some (Value.int z)) (am_bit hk3).symm, (am_up (am_up (am_up (am_up (am_up M 120 58 (ts4 t n a).2) 167 k (nt2 t n a)) 167 (k + 1) (ts2 t n a).2) 167 (k + 2) (ts3 t n a).2) 167 (k + 3) (ts4 t n a).2), by unfold tse; rw [if_pos h2, if_pos h3], fx_up (fx_up (fx_up (fx_up (fx_58 fx_0) (by omega)) (by omega)) (by omega)) (by omega), fun _ => ⟨?_, ?_, ?_, up_r⟩⟩
      · rw [up_j (by omega), up_j (by omega), up_j (by omega), up_r]
      · rw [up_j (by omega), up_j (by omega), up_r]
      · rw [up_j (by omega), up_r]
  · have e4 : ts4 t n a = ((ts3 t n a).1, -1) := nc_ndg hd
    refine J_b 1 am_d202 rfl ?_
    refine J_V0s 200 (am_d202 rfl) rfl rfl (sp200f (M := M) (a := (ts3 t n a).1) hn h120 ht (ts3_le ha) hd) ?_
    refine J_if_ne 69 (am_d202 rfl) rfl (fun h64 => absurd rfl h64) (fun h64 => ?_)
    refine J_b 1 am_d202 rfl ?_
    exact J_iret (am_d202 rfl) rfl rfl ⟨congrArg (fun z => some (Value.int z)) (am_bif (fun z => hd (nc_dg.mp z.2.2))).symm, M, by unfold tse; rw [if_pos h2, if_pos h3, e4], fx_0, fun z => absurd (nc_dg.mp z.2.2) hd⟩
theorem sp202 {X : am_X} {M : am_M} {N : am_N} {n a k : Nat} {t : Nat → Int32} (hn : M 120 55 = nI n) (h120 : n ≤ 120) (ht : M 164 = t) (ha : a ≤ n) (hk : k + 3 < 96) : am_J X (q_p (some (.int (am_bi (tsk t n a)))) (fun M2 _ => ∃ M3, M2 = ty M3 (tse t n a) ∧ fx M M3 k ∧ (tsk t n a → M3 167 k = nt2 t n a ∧ M3 167 (k + 1) = (ts2 t n a).2 ∧ M3 167 (k + 2) = (ts3 t n a).2 ∧ M3 167 (k + 3) = (ts4 t n a).2))) 202 0 (am_en 202 [.ref 120, .int (nI k)]) [] (ty M a) N := by
  have hF := fdr_e (t := t) (n := n) (a := nt1 t n a)
  refine J_en (L := [.ref 120, .int (nI k), .retAddr 0, .retAddr 0, .retAddr 0]) rfl ?_
  refine J_b 2 am_d202 rfl ?_
  refine J_V1s 199 (am_d202 rfl) rfl rfl (sp199n hn h120 ht ha) ?_
  refine J_b 4 am_d202 rfl ?_
  have kw := sp196 (X := X) (N := N) (M := M) (f := 2) (T := 6) hn h120 ht (nt1_le (t := t) ha) (by decide) (by decide)
  refine J_V2s 196 (am_d202 rfl) rfl rfl kw ?_
  show am_J X _ 202 14 _ (.int (wr t n 5 2 (nt1 t n a)).2 :: _) (ty M (wr t n 5 2 (nt1 t n a)).1) N
  rw [hF.1]
  refine J_b 2 am_d202 rfl ?_
  refine J_if_ge 21 (am_d202 rfl) rfl (fun h16 => ?_) (fun h16 => ?_)
  · have h2 : 0 ≤ (ts2 t n a).2 := hF.2.1.mpr h16
    have hw2 := hF.2.2 h2
    show am_J X _ 202 21 [_, _, .int (nt2 t n a), .int (wr t n 5 2 (nt1 t n a)).2, _] _ (ty M (ts2 t n a).1) N
    by_cases g0 : sg t n 61 (ts2 t n a).1
    · refine J_b 1 am_d202 rfl ?_
      have ks := sp198 (X := X) (N := N) (M := M) (a := (ts2 t n a).1) hn h120 ht (ts2_le ha)
      refine J_V0s 198 (am_d202 rfl) rfl rfl ks ?_
      refine J_b 3 am_d202 rfl ?_
      refine J_icmp_eq 50 (am_d202 rfl) rfl (fun h31 => ?_) (fun h31 => absurd (rs_s g0) h31)
      have e3 : ts3 t n a = ((ts2 t n a).1 + 1, 61) := by unfold ts3 sgc; rw [if_pos g0]
      refine J_L (show _ = ([.ref 120, .int (nI k), .int (nt2 t n a), .int (wr t n 5 2 (nt1 t n a)).2, .int (ts3 t n a).2] : am_V) from by rw [e3, ← rs_s g0]; rfl) ?_
      exact t202b hn h120 ht ha hk e3 h2 (by rw [e3]; show (0 : Int32) ≤ 61; decide) hw2
    by_cases g1 : sg t n 60 (ts2 t n a).1
    · refine J_b 1 am_d202 rfl ?_
      have ks := sp198 (X := X) (N := N) (M := M) (a := (ts2 t n a).1) hn h120 ht (ts2_le ha)
      refine J_V0s 198 (am_d202 rfl) rfl rfl ks ?_
      refine J_b 3 am_d202 rfl ?_
      refine J_icmp_eq 50 (am_d202 rfl) rfl (fun h31 => absurd ((rs_i (by decide)).mp h31) g0) (fun h31 => ?_)
      refine J_b 2 am_d202 rfl ?_
      refine J_icmp_eq 50 (am_d202 rfl) rfl (fun h38 => ?_) (fun h38 => absurd (rs_s g1) h38)
      have e3 : ts3 t n a = ((ts2 t n a).1 + 1, 60) := by unfold ts3 sgc; rw [if_neg g0, if_pos g1]
      refine J_L (show _ = ([.ref 120, .int (nI k), .int (nt2 t n a), .int (wr t n 5 2 (nt1 t n a)).2, .int (ts3 t n a).2] : am_V) from by rw [e3, ← rs_s g1]; rfl) ?_
      exact t202b hn h120 ht ha hk e3 h2 (by rw [e3]; show (0 : Int32) ≤ 60; decide) hw2
    by_cases g2 : sg t n 62 (ts2 t n a).1
    · refine J_b 1 am_d202 rfl ?_
      have ks := sp198 (X := X) (N := N) (M := M) (a := (ts2 t n a).1) hn h120 ht (ts2_le ha)
      refine J_V0s 198 (am_d202 rfl) rfl rfl ks ?_
      refine J_b 3 am_d202 rfl ?_
      refine J_icmp_eq 50 (am_d202 rfl) rfl (fun h31 => absurd ((rs_i (by decide)).mp h31) g0) (fun h31 => ?_)
      refine J_b 2 am_d202 rfl ?_
      refine J_icmp_eq 50 (am_d202 rfl) rfl (fun h38 => absurd ((rs_i (by decide)).mp h38) g1) (fun h38 => ?_)
      refine J_b 2 am_d202 rfl ?_
      refine J_icmp_eq 50 (am_d202 rfl) rfl (fun h45 => ?_) (fun h45 => absurd (rs_s g2) h45)
      have e3 : ts3 t n a = ((ts2 t n a).1 + 1, 62) := by unfold ts3 sgc; rw [if_neg g0, if_neg g1, if_pos g2]
      refine J_L (show _ = ([.ref 120, .int (nI k), .int (nt2 t n a), .int (wr t n 5 2 (nt1 t n a)).2, .int (ts3 t n a).2] : am_V) from by rw [e3, ← rs_s g2]; rfl) ?_
      exact t202b hn h120 ht ha hk e3 h2 (by rw [e3]; show (0 : Int32) ≤ 62; decide) hw2
    have e3 : ts3 t n a = ((ts2 t n a).1, -1) := by unfold ts3 sgc; rw [if_neg g0, if_neg g1, if_neg g2]
    have n3 : ¬ 0 ≤ (ts3 t n a).2 := by rw [e3]; show ¬ (0 : Int32) ≤ -1; decide
    refine J_b 1 am_d202 rfl ?_
    have ks := sp198 (X := X) (N := N) (M := M) (a := (ts2 t n a).1) hn h120 ht (ts2_le ha)
    refine J_V0s 198 (am_d202 rfl) rfl rfl ks ?_
    refine J_b 3 am_d202 rfl ?_
    refine J_icmp_eq 50 (am_d202 rfl) rfl (fun h31 => absurd ((rs_i (by decide)).mp h31) g0) (fun h31 => ?_)
    refine J_b 2 am_d202 rfl ?_
    refine J_icmp_eq 50 (am_d202 rfl) rfl (fun h38 => absurd ((rs_i (by decide)).mp h38) g1) (fun h38 => ?_)
    refine J_b 2 am_d202 rfl ?_
    refine J_icmp_eq 50 (am_d202 rfl) rfl (fun h45 => absurd ((rs_i (by decide)).mp h45) g2) (fun h45 => ?_)
    refine J_b 1 am_d202 rfl ?_
    exact J_iret (am_d202 rfl) rfl rfl ⟨congrArg (fun z => some (Value.int z)) (am_bif (fun z => n3 z.2.1)).symm, M, by unfold tse; rw [if_pos h2, if_neg n3, e3], fx_0, fun z => absurd z.2.1 n3⟩
  · have n2 : ¬ 0 ≤ (ts2 t n a).2 := fun z => h16 (hF.2.1.mp z)
    refine J_b 1 am_d202 rfl ?_
    exact J_iret (am_d202 rfl) rfl rfl ⟨congrArg (fun z => some (Value.int z)) (am_bif (fun z => n2 z.1)).symm, M, by unfold tse; rw [if_neg n2]; rfl, fx_0, fun z => absurd z.1 n2⟩
