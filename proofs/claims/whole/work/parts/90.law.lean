theorem am_oi2 (n : Nat) : Int32.ofInt (n : Int) = nI n := by
  unfold nI
  first | rfl | exact Int32.ofInt_eq_ofNat | simp
set_option maxRecDepth 20000 in
set_option maxHeartbeats 4000000 in
theorem law_open {iv : am_Iv} {X : am_X} (hL : X.2.2.2.2.2.2.1 ≤ 3584) (hup : ∀ c M N, iv c M N → iv (c + 1) M N)
    (h_paint : ∀ (a0 : Int32) (a1 : Int32) (a2 : Int32) (a3 : Int32) (a4 : Int32), am_pI iv X 11 138 [.int a0, .int a1, .int a2, .int a3, .int a4])
    (h_cell : ∀ (a0 : Int32) (a1 : Int32) (a2 : Int32), am_pI iv X 17 144 [.int a0, .int a1, .int a2])
    (h_current : ∀ (a0 : Int32) (a1 : Int32) (a2 : Int32) (a3 : Int32), am_pI iv X 18 145 [.int a0, .int a1, .int a2, .int a3])
    (h_wind : ∀ (a0 : Int32) (a1 : Int32) (a2 : Int32), am_pI iv X 21 147 [.int a0, .int a1, .int a2])
    (h_storm : ∀ (a0 : Int32) (a1 : Int32) (a2 : Int32), am_pI iv X 24 148 [.int a0, .int a1, .int a2])
    (h_calm : ∀ (a0 : Int32), am_pI iv X 26 149 [.int a0])
    (h_cast : ∀ (a0 : Int32) (a1 : Int32) (a2 : Int32) (a3 : Int32) (a4 : Int32) (a5 : Int32), am_pI iv X 27 150 [.int a0, .int a1, .int a2, .int a3, .int a4, .int a5])
    (h_about : ∀ (a0 : Int32) (a1 : Int32), am_pI iv X 37 151 [.int a0, .int a1])
    (h_parts : ∀ (a0 : Int32) (a1 : Int32) (a2 : Int32), am_pI iv X 38 153 [.int a0, .int a1, .int a2])
    (h_partsAt : ∀ (a0 : Int32) (a1 : Int32) (a2 : Int32) (a3 : Int32) (a4 : Int32), am_pI iv X 56 160 [.int a0, .int a1, .int a2, .int a3, .int a4])
    (h_apart : ∀ (a0 : Int32) (a1 : Int32), am_pI iv X 59 161 [.int a0, .int a1])
    (h_name : ∀ (a0 : Int32) (a1 : Int32) (a2 : Int32), am_pI iv X 61 162 [.int a0, .int a1, .int a2])
    (h_find : ∀ (a0 : Int32) (a1 : Int32) (a2 : Int32) (a3 : Int32) (a4 : Int32), am_pI iv X 63 163 [.int a0, .int a1, .int a2, .int a3, .int a4])
    (h_clock : ∀ (a0 : Int32), am_pI iv X 67 166 [.int a0])
    (h_drop : ∀ (a0 : Int32) (a1 : Int32), am_pI iv X 68 167 [.int a0, .int a1])
    (h_weight : ∀ (a0 : Int32) (a1 : Int32), am_pI iv X 69 169 [.int a0, .int a1])
    (h_judge : ∀ (a0 : Int32), am_pI iv X 74 173 [.int a0])
    (h_best : ∀ (a0 : Int32), am_pI iv X 76 175 [.int a0])
    (h_cards : ∀ (a0 : Int32), am_pI iv X 78 177 [.int a0])
    (h_twin : ∀ (a0 : Int32), am_pI iv X 80 178 [.int a0])
    (h_got : ∀ (a0 : Int32) (a1 : Int32) (a2 : Int32), am_pI iv X 83 181 [.int a0, .int a1, .int a2])
    (h_move : ∀ (a0 : Int32) (a1 : Int32), am_pI iv X 86 184 [.int a0, .int a1])
    (h_fit : ∀ (a0 : Int32), am_pI iv X 87 185 [.int a0])
    (h_misfit : am_pL iv X 95 188 [])
    (h_misses : am_pL iv X 96 189 [])
    (h_doubt : ∀ (a0 : Int32), am_pI iv X 98 190 [.int a0])
    (h_tells : ∀ (a0 : Int32) (a1 : Int32) (a2 : Int32) (a3 : Int32), am_pI iv X 100 191 [.int a0, .int a1, .int a2, .int a3])
    (h_feed : ∀ (a0 : Int64) (a1 : Int32), am_pI iv X 104 193 [.long a0, .int a1])
    (h_prize : am_pI iv X 106 194 [])
    (h_pays : ∀ (a0 : Int32), am_pI iv X 125 203 [.int a0])
    (h_purse : ∀ (a0 : Int32), am_pI iv X 132 207 [.int a0])
    (h_letters : ∀ (a0 : Int32) (a1 : Int32), am_pI iv X 133 208 [.int a0, .int a1])
    (h_count : ∀ (a0 : Int32), am_pI iv X 134 209 [.int a0]) :
    ∀ (n c : Nat) (x : Int32) (M : am_M) (N : am_N), x = nI (7 * c) → 7 * c ≤ 3584 → 513 ≤ c + n → iv c M N → am_J X (fun r _ _ => r = some (.int 1)) 210 18 [.ref 1000000, .ref 0, .ref 120, .int x] [] M N := by
  intro n
  induction n with
  | zero => intro c x M N hx h1 h2; omega
  | succ n ih =>
    intro c x M N hx h1 h2 hi
    refine J_b 2 am_eH rfl ?_
    refine J_slen0 (am_eH rfl) ?_
    refine J_b 2 am_eH rfl ?_
    refine J_icmp_gt 1369 (am_eH rfl) rfl (fun hg => ?_) (fun hg => ?_)
    · refine J_b 1 am_eE rfl ?_
      exact J_iret (am_eE rfl) rfl rfl rfl
    · have hxt : x.toInt = (7 * c : Nat) := by rw [hx]; exact nI_toInt (by omega)
      have hle : 7 * c + 7 ≤ X.2.2.2.2.2.2.1 := by
        rw [Int32.lt_iff_toInt_lt] at hg
        have e : (Int32.ofNat X.2.2.2.2.2.2.1 - (Int8.ofInt 7).toInt32).toInt = (X.2.2.2.2.2.2.1 : Int) - 7 := pk_sub_toInt (a := X.2.2.2.2.2.2.1) (b := 7) (by omega) (by decide)
        rw [e] at hg
        omega
      have hv : ∀ k : Int, 1 ≤ k → k ≤ 6 → vp_in (x + Int32.ofInt k) X.2.2.2.2.2.2.1 := by
        intro k k1 k2
        obtain ⟨q, rfl⟩ : ∃ q : Nat, k = q := ⟨k.toNat, by omega⟩
        rw [hx, am_oi2, nI_add]
        exact vp_in_nI (by omega) (by omega)
      have hc : c < 512 := by omega
      have kk : ∀ M2 N2, iv (c + 1) M2 N2 → am_J X (fun r _ _ => r = some (.int 1)) 210 1363 [.ref 1000000, .ref 0, .ref 120, .int x] [] M2 N2 := by
        intro M2 N2 h3
        refine J_b 2 am_eE rfl ?_
        exact ih (c + 1) (x + Int32.ofInt 7) M2 N2 (by rw [hx, show (Int32.ofInt 7 : Int32) = nI 7 from rfl, nI_add]; congr 1) (by omega) (by omega) h3
      refine J_b 2 am_eH rfl ?_
      refine J_sld (am_eH rfl) (by rw [hx]; exact vp_in_nI (by omega) (by omega)) ?_
      refine J_b 2 am_eH rfl ?_
      generalize X.2.2.2.2.2.2.2 x.toNatClampNeg &&& (Int8.ofInt 63).toInt32 = y
      by_cases h32 : y.toInt < 0 ∨ 32 < y.toInt
      · exact J_tsOut 1363 (am_eH rfl) h32 rfl (kk M N (hup c M N hi))
      · have ht : y.toInt = 0 ∨ y.toInt = 1 ∨ y.toInt = 2 ∨ y.toInt = 3 ∨ y.toInt = 4 ∨ y.toInt = 5 ∨ y.toInt = 6 ∨ y.toInt = 7 ∨ y.toInt = 8 ∨ y.toInt = 9 ∨ y.toInt = 10 ∨ y.toInt = 11 ∨ y.toInt = 12 ∨ y.toInt = 13 ∨ y.toInt = 14 ∨ y.toInt = 15 ∨ y.toInt = 16 ∨ y.toInt = 17 ∨ y.toInt = 18 ∨ y.toInt = 19 ∨ y.toInt = 20 ∨ y.toInt = 21 ∨ y.toInt = 22 ∨ y.toInt = 23 ∨ y.toInt = 24 ∨ y.toInt = 25 ∨ y.toInt = 26 ∨ y.toInt = 27 ∨ y.toInt = 28 ∨ y.toInt = 29 ∨ y.toInt = 30 ∨ y.toInt = 31 ∨ y.toInt = 32 := by omega
        rcases ht with ht | ht | ht | ht | ht | ht | ht | ht | ht | ht | ht | ht | ht | ht | ht | ht | ht | ht | ht | ht | ht | ht | ht | ht | ht | ht | ht | ht | ht | ht | ht | ht | ht
        · exact J_tsIn 180 (am_eH rfl) (by omega) (by omega) (by rw [ht]; rfl) rfl (lw_paint (h_paint _ _ _ _ _) hc hi hv kk)
        · exact J_tsIn 243 (am_eH rfl) (by omega) (by omega) (by rw [ht]; rfl) rfl (lw_cell (h_cell _ _ _) hc hi hv kk)
        · exact J_tsIn 286 (am_eH rfl) (by omega) (by omega) (by rw [ht]; rfl) rfl (lw_current (h_current _ _ _ _) hc hi hv kk)
        · exact J_tsIn 339 (am_eH rfl) (by omega) (by omega) (by rw [ht]; rfl) rfl (lw_wind (h_wind _ _ _) hc hi hv kk)
        · exact J_tsIn 382 (am_eH rfl) (by omega) (by omega) (by rw [ht]; rfl) rfl (lw_storm (h_storm _ _ _) hc hi hv kk)
        · exact J_tsIn 425 (am_eH rfl) (by omega) (by omega) (by rw [ht]; rfl) rfl (lw_calm (h_calm _) hc hi hv kk)
        · exact J_tsIn 448 (am_eH rfl) (by omega) (by omega) (by rw [ht]; rfl) rfl (lw_cast (h_cast _ _ _ _ _ _) hc hi hv kk)
        · exact J_tsIn 523 (am_eH rfl) (by omega) (by omega) (by rw [ht]; rfl) rfl (lw_about (h_about _ _) hc hi hv kk)
        · exact J_tsIn 556 (am_eH rfl) (by omega) (by omega) (by rw [ht]; rfl) rfl (lw_parts (h_parts _ _ _) hc hi hv kk)
        · exact J_tsIn 599 (am_eH rfl) (by omega) (by omega) (by rw [ht]; rfl) rfl (lw_partsAt (h_partsAt _ _ _ _ _) hc hi hv kk)
        · exact J_tsIn 662 (am_eH rfl) (by omega) (by omega) (by rw [ht]; rfl) rfl (lw_apart (h_apart _ _) hc hi hv kk)
        · exact J_tsIn 695 (am_eH rfl) (by omega) (by omega) (by rw [ht]; rfl) rfl (lw_name (h_name _ _ _) hc hi hv kk)
        · exact J_tsIn 738 (am_eH rfl) (by omega) (by omega) (by rw [ht]; rfl) rfl (lw_find (h_find _ _ _ _ _) hc hi hv kk)
        · exact J_tsIn 801 (am_eH rfl) (by omega) (by omega) (by rw [ht]; rfl) rfl (lw_clock (h_clock _) hc hi hv kk)
        · exact J_tsIn 824 (am_eH rfl) (by omega) (by omega) (by rw [ht]; rfl) rfl (lw_drop (h_drop _ _) hc hi hv kk)
        · exact J_tsIn 857 (am_eH rfl) (by omega) (by omega) (by rw [ht]; rfl) rfl (lw_weight (h_weight _ _) hc hi hv kk)
        · exact J_tsIn 890 (am_eH rfl) (by omega) (by omega) (by rw [ht]; rfl) rfl (lw_judge (h_judge _) hc hi hv kk)
        · exact J_tsIn 913 (am_eH rfl) (by omega) (by omega) (by rw [ht]; rfl) rfl (lw_best (h_best _) hc hi hv kk)
        · exact J_tsIn 936 (am_eH rfl) (by omega) (by omega) (by rw [ht]; rfl) rfl (lw_cards (h_cards _) hc hi hv kk)
        · exact J_tsIn 959 (am_eH rfl) (by omega) (by omega) (by rw [ht]; rfl) rfl (lw_twin (h_twin _) hc hi hv kk)
        · exact J_tsIn 982 (am_eH rfl) (by omega) (by omega) (by rw [ht]; rfl) rfl (lw_got (h_got _ _ _) hc hi hv kk)
        · exact J_tsIn 1025 (am_eH rfl) (by omega) (by omega) (by rw [ht]; rfl) rfl (lw_move (h_move _ _) hc hi hv kk)
        · exact J_tsIn 1058 (am_eH rfl) (by omega) (by omega) (by rw [ht]; rfl) rfl (lw_fit (h_fit _) hc hi hv kk)
        · exact J_tsIn 1081 (am_eH rfl) (by omega) (by omega) (by rw [ht]; rfl) rfl (lw_misfit (h_misfit) hc hi hv kk)
        · exact J_tsIn 1095 (am_eH rfl) (by omega) (by omega) (by rw [ht]; rfl) rfl (lw_misses (h_misses) hc hi hv kk)
        · exact J_tsIn 1109 (am_eH rfl) (by omega) (by omega) (by rw [ht]; rfl) rfl (lw_doubt (h_doubt _) hc hi hv kk)
        · exact J_tsIn 1132 (am_eH rfl) (by omega) (by omega) (by rw [ht]; rfl) rfl (lw_tells (h_tells _ _ _ _) hc hi hv kk)
        · exact J_tsIn 1185 (am_eH rfl) (by omega) (by omega) (by rw [ht]; rfl) rfl (lw_feed (h_feed _ _) hc hi hv kk)
        · exact J_tsIn 1248 (am_eH rfl) (by omega) (by omega) (by rw [ht]; rfl) rfl (lw_prize (h_prize) hc hi hv kk)
        · exact J_tsIn 1261 (am_eH rfl) (by omega) (by omega) (by rw [ht]; rfl) rfl (lw_pays (h_pays _) hc hi hv kk)
        · exact J_tsIn 1284 (am_eH rfl) (by omega) (by omega) (by rw [ht]; rfl) rfl (lw_purse (h_purse _) hc hi hv kk)
        · exact J_tsIn 1307 (am_eH rfl) (by omega) (by omega) (by rw [ht]; rfl) rfl (lw_letters (h_letters _ _) hc hi hv kk)
        · exact J_tsIn 1340 (am_eH rfl) (by omega) (by omega) (by rw [ht]; rfl) rfl (lw_count (h_count _) hc hi hv kk)
