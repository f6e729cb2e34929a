/-! ===== what lies outside the world; new cells; copies ===== -/
set_option maxRecDepth 100000 in
set_option maxHeartbeats 4000000 in
theorem am_x1 : Cond.fieldLink (am_cn 10) 101 "DriftCards" "MOST_OF_MARK" "[I" ∈ am_tbl := am_tbl_in (am_pick_1 (gs := [495]) (by rfl)) rfl
set_option maxRecDepth 100000 in
set_option maxHeartbeats 4000000 in
theorem am_x2 : Cond.fieldLink (am_cn 14) 38 "java/lang/String" "COMPACT_STRINGS" "Z" ∈ am_tbl := am_tbl_in (am_pick_1 (gs := [903]) (by rfl)) rfl
set_option maxRecDepth 100000 in
set_option maxHeartbeats 4000000 in
theorem am_x3 : Cond.fieldLink (am_cn 14) 1053 "jdk/internal/util/Preconditions" "SIOOBE_FORMATTER" "Ljava/util/function/BiFunction;" ∈ am_tbl := am_tbl_in (am_pick_1 (gs := [919]) (by rfl)) rfl
set_option maxRecDepth 100000 in
set_option maxHeartbeats 4000000 in
theorem am_x4 : Cond.fieldLink (am_cn 14) 9 "java/lang/String" "value" "[B" ∈ am_tbl := am_tbl_in (am_pick_1 (gs := [1516]) (by rfl)) rfl
set_option maxRecDepth 100000 in
set_option maxHeartbeats 4000000 in
theorem am_x5 : Cond.fieldLink (am_cn 14) 15 "java/lang/String" "coder" "B" ∈ am_tbl := am_tbl_in (am_pick_1 (gs := [1517]) (by rfl)) rfl
theorem am_tfk : ((List.range 12).all fun ci => (List.range (am_nf ci)).all fun j => decide (am_tf ci j = .int) || (decide (am_tf ci j = .long) || refKind (am_tf ci j))) = true := by decide +kernel
theorem am_tfk_at {ci j : Nat} (hci : ci < 12) (hj : j < am_nf ci) : am_tf ci j = .int ∨ am_tf ci j = .long ∨ refKind (am_tf ci j) = true := by
  have h := List.all_eq_true.mp (List.all_eq_true.mp am_tfk ci (List.mem_range.mpr hci)) j (List.mem_range.mpr hj)
  simpa using h
theorem am_ad_sp {B : Nat} {sp : Nat → Nat} {k : Nat} (h : 1000000 ≤ k) : am_ad B sp k = sp k := if_neg (by omega)
theorem am_ad_lo {B : Nat} {sp : Nat → Nat} {k : Nat} (h : k < 1000000) : am_ad B sp k = B + k := if_pos h
section AMX
variable {l : Launch} {D : va_G} {G : am_G} {B : Nat} {sp : Nat → Nat} {fz : Value} {Lx : Nat} {xs : Nat → Int32} {Q : am_Q} {shE : List am_E} {i pc : Nat} {L S : am_V} {sh : List am_E} {M : am_M} {N : am_N}
/-- the script -/
theorem sw_sld {x : Int32} (hin : am_in i pc = some (.iaload, 1)) (hi : vp_in x Lx) (kk : am_SW l D G B sp fz Lx xs Q shE i (pc + 1) L (.int (xs x.toNatClampNeg) :: S) sh M N) : am_SW l D G B sp fz Lx xs Q shE i pc L (.int x :: .ref 1000000 :: S) sh M N := by
  refine ⟨kk.1, kk.2.1, fun p e R s m args below meth c H locs ls cells slots C St => ?_⟩
  have hX := C.2.2.2.2.2.2.2.2.2.1.2.1
  have hB := C.2.2.2.2.2.2.2.2.2.2.1
  have hlt : sp 1000000 < s.heap.size := Nat.lt_of_lt_of_le hX.2 hB
  have hnA : ¬ am_A B (sp 1000000) := Nat.not_le.mpr hX.2
  exact va_sld (A := am_A B) C.1 C.2.1 hX.1 hlt hnA St.2.2.2.2.1 hi (am_in_dec hin) (kk.2.2 p e R s m args below meth c H locs ls cells slots C St)
theorem sw_slen0 (hin : am_in i pc = some (.arraylength, 1)) (kk : am_SW l D G B sp fz Lx xs Q shE i (pc + 1) L (.int (Int32.ofNat Lx) :: S) sh M N) : am_SW l D G B sp fz Lx xs Q shE i pc L (.ref 1000000 :: S) sh M N := by
  refine ⟨kk.1, kk.2.1, fun p e R s m args below meth c H locs ls cells slots C St => ?_⟩
  have hX := C.2.2.2.2.2.2.2.2.2.1.2.1
  have hB := C.2.2.2.2.2.2.2.2.2.2.1
  have hlt : sp 1000000 < s.heap.size := Nat.lt_of_lt_of_le hX.2 hB
  have hnA : ¬ am_A B (sp 1000000) := Nat.not_le.mpr hX.2
  exact va_slen (A := am_A B) C.1 C.2.1 hX.1 hlt hnA St.2.2.2.2.1 (am_in_dec hin) (kk.2.2 p e R s m args below meth c H locs ls cells slots C St)
/-- a static row -/
theorem sw_gsM (ho : am_ow i = 10) (hin : am_in i pc = some (.getstatic 101, 3)) (kk : am_SW l D G B sp fz Lx xs Q shE i (pc + 3) L (.ref 1000001 :: S) sh M N) : am_SW l D G B sp fz Lx xs Q shE i pc L S sh M N := by
  refine ⟨kk.1, kk.2.1, fun p e R s m args below meth c H locs ls cells slots C St => ?_⟩
  have hX := C.2.2.2.2.2.2.2.2.2.1
  have hown := C.2.2.2.1
  rw [ho] at hown
  exact va_gets (A := am_A B) C.1 C.2.1 hX.2.2.1.1 St.2.2.2.2.1 hown (C.2.2.2.2.1 _ am_x1) (fun _ h => h) (am_in_dec hin) (kk.2.2 p e R s m args below meth c H locs ls cells slots C St)
theorem sw_tM {x : Int32} (hin : am_in i pc = some (.iaload, 1)) (hi : vp_in x 5) (kk : am_SW l D G B sp fz Lx xs Q shE i (pc + 1) L (.int (am_mom.getD x.toNatClampNeg 0) :: S) sh M N) : am_SW l D G B sp fz Lx xs Q shE i pc L (.int x :: .ref 1000001 :: S) sh M N := by
  refine ⟨kk.1, kk.2.1, fun p e R s m args below meth c H locs ls cells slots C St => ?_⟩
  have hX := C.2.2.2.2.2.2.2.2.2.1
  exact va_ti (A := am_A B) C.1 C.2.1 hX.2.2.1.2 St.2.2.2.2.1 hi rfl (am_in_dec hin) (kk.2.2 p e R s m args below meth c H locs ls cells slots C St)
/-- texts -/
theorem sw_gsC (ho : am_ow i = 14) (hin : am_in i pc = some (.getstatic 38, 3)) (kk : am_SW l D G B sp fz Lx xs Q shE i (pc + 3) L (.int 1 :: S) sh M N) : am_SW l D G B sp fz Lx xs Q shE i pc L S sh M N := by
  refine ⟨kk.1, kk.2.1, fun p e R s m args below meth c H locs ls cells slots C St => ?_⟩
  have hX := C.2.2.2.2.2.2.2.2.2.1
  have hown := C.2.2.2.1
  rw [ho] at hown
  exact va_gets (A := am_A B) C.1 C.2.1 hX.2.2.2.1 St.2.2.2.2.1 hown (C.2.2.2.2.1 _ am_x2) (fun _ h => h) (am_in_dec hin) (kk.2.2 p e R s m args below meth c H locs ls cells slots C St)
theorem sw_gsF (ho : am_ow i = 14) (hin : am_in i pc = some (.getstatic 1053, 3)) (kk : am_SW l D G B sp fz Lx xs Q shE i (pc + 3) L (.retAddr 7 :: S) sh M N) : am_SW l D G B sp fz Lx xs Q shE i pc L S sh M N := by
  refine ⟨kk.1, kk.2.1, fun p e R s m args below meth c H locs ls cells slots C St => ?_⟩
  have hX := C.2.2.2.2.2.2.2.2.2.1
  have hown := C.2.2.2.1
  rw [ho] at hown
  exact va_gets (A := am_A B) C.1 C.2.1 hX.2.2.2.2.1 St.2.2.2.2.1 hown (C.2.2.2.2.1 _ am_x3) (fun _ h => h) (am_in_dec hin) (kk.2.2 p e R s m args below meth c H locs ls cells slots C St)
theorem sw_ldS {n idx : Nat} (ho : am_ow i = 6) (hn : n < 7) (hx0 : am_sks.getD n 0 = idx) (hin : am_in i pc = some (.ldc idx, 2)) (kk : am_SW l D G B sp fz Lx xs Q shE i (pc + 2) L (.ref (1000010 + n) :: S) sh M N) : am_SW l D G B sp fz Lx xs Q shE i pc L S sh M N := by
  refine ⟨kk.1, kk.2.1, fun p e R s m args below meth c H locs ls cells slots C St => ?_⟩
  have hX := C.2.2.2.2.2.2.2.2.2.1
  have hown := C.2.2.2.1
  rw [ho] at hown
  have hk := kk.2.2 p e R s m args below meth c H locs ls cells slots C St
  rw [List.map_cons, show am_cv B sp fz (.ref (1000010 + n)) = .ref (sp (1000010 + n)) by show Value.ref (am_ad B sp _) = _; rw [am_ad_sp (by omega)]] at hk
  subst hx0
  exact va_ldcS C.1 C.2.1 hown (hX.2.2.2.2.2.2.1 n hn) (am_in_dec hin) hk
theorem sw_sval {n : Nat} (ho : am_ow i = 14) (hn : n < 7) (hin : am_in i pc = some (.getfield 9, 3)) (kk : am_SW l D G B sp fz Lx xs Q shE i (pc + 3) L (.ref (1000100 + n) :: S) sh M N) : am_SW l D G B sp fz Lx xs Q shE i pc L (.ref (1000010 + n) :: S) sh M N := by
  refine ⟨kk.1, kk.2.1, fun p e R s m args below meth c H locs ls cells slots C St => ?_⟩
  have hX := C.2.2.2.2.2.2.2.2.2.1
  have hown := C.2.2.2.1
  rw [ho] at hown
  have hk := kk.2.2 p e R s m args below meth c H locs ls cells slots C St
  rw [List.map_cons, show am_cv B sp fz (.ref (1000100 + n)) = .ref (sp (1000100 + n)) by show Value.ref (am_ad B sp _) = _; rw [am_ad_sp (by omega)]] at hk
  rw [List.map_cons, show am_cv B sp fz (.ref (1000010 + n)) = .ref (sp (1000010 + n)) by show Value.ref (am_ad B sp _) = _; rw [am_ad_sp (by omega)]]
  exact vk_getf C.1 C.2.1 (hX.2.2.2.2.2.1.1 n hn).2.2.1 St.2.2.2.2.1 hown (C.2.2.2.2.1 _ am_x4) (fun _ h => h) (am_in_dec hin) hk
theorem sw_scod {n : Nat} (ho : am_ow i = 14) (hn : n < 7) (hin : am_in i pc = some (.getfield 15, 3)) (kk : am_SW l D G B sp fz Lx xs Q shE i (pc + 3) L (.int 0 :: S) sh M N) : am_SW l D G B sp fz Lx xs Q shE i pc L (.ref (1000010 + n) :: S) sh M N := by
  refine ⟨kk.1, kk.2.1, fun p e R s m args below meth c H locs ls cells slots C St => ?_⟩
  have hX := C.2.2.2.2.2.2.2.2.2.1
  have hown := C.2.2.2.1
  rw [ho] at hown
  have hk := kk.2.2 p e R s m args below meth c H locs ls cells slots C St
  rw [List.map_cons, show am_cv B sp fz (.ref (1000010 + n)) = .ref (sp (1000010 + n)) by show Value.ref (am_ad B sp _) = _; rw [am_ad_sp (by omega)]]
  exact vk_getf C.1 C.2.1 (hX.2.2.2.2.2.1.1 n hn).2.1 St.2.2.2.2.1 hown (C.2.2.2.2.1 _ am_x5) (fun _ h => h) (am_in_dec hin) hk
theorem sw_slen {n : Nat} (hn : n < 7) (hin : am_in i pc = some (.arraylength, 1)) (kk : am_SW l D G B sp fz Lx xs Q shE i (pc + 1) L (.int (Int32.ofNat (am_slen.getD n 0)) :: S) sh M N) : am_SW l D G B sp fz Lx xs Q shE i pc L (.ref (1000100 + n) :: S) sh M N := by
  refine ⟨kk.1, kk.2.1, fun p e R s m args below meth c H locs ls cells slots C St => ?_⟩
  have hX := C.2.2.2.2.2.2.2.2.2.1
  have hk := kk.2.2 p e R s m args below meth c H locs ls cells slots C St
  rw [List.map_cons, show am_cv B sp fz (.ref (1000100 + n)) = .ref (sp (1000100 + n)) by show Value.ref (am_ad B sp _) = _; rw [am_ad_sp (by omega)]]
  exact va_tlen C.1 C.2.1 (hX.2.2.2.2.2.1.1 n hn).2.2.2 St.2.2.2.2.1 rfl (am_in_dec hin) hk
theorem sw_sbld {n : Nat} {x : Int32} (hn : n < 7) (hi : vp_in x (am_slen.getD n 0)) (hin : am_in i pc = some (.baload, 1)) (kk : am_SW l D G B sp fz Lx xs Q shE i (pc + 1) L (.int ((am_sbyt.getD n []).getD x.toNatClampNeg 0) :: S) sh M N) : am_SW l D G B sp fz Lx xs Q shE i pc L (.int x :: .ref (1000100 + n) :: S) sh M N := by
  refine ⟨kk.1, kk.2.1, fun p e R s m args below meth c H locs ls cells slots C St => ?_⟩
  have hX := C.2.2.2.2.2.2.2.2.2.1
  have hk := kk.2.2 p e R s m args below meth c H locs ls cells slots C St
  rw [List.map_cons, List.map_cons, show am_cv B sp fz (.ref (1000100 + n)) = .ref (sp (1000100 + n)) by show Value.ref (am_ad B sp _) = _; rw [am_ad_sp (by omega)]]
  exact va_tb C.1 C.2.1 (hX.2.2.2.2.2.1.1 n hn).2.2.2 St.2.2.2.2.1 hi rfl (am_in_dec hin) hk
/-- a call on a text -/
theorem sw_callT {j idx n : Nat} {As S0 : am_V} {Q1 : am_Q} {sh1 : List am_E} (hin : am_in i pc = some (.invokevirtual idx, 3)) (hc : am_cl i idx = some (j, false)) (hst : am_sta.contains j = false) (hin2 : am_ins.contains j = true) (hsel : am_sel.contains j = true) (hn : n < 7) (hS : S = As.reverse ++ .ref (1000010 + n) :: S0) (how : am_ow j = 14) (hok : am_cok i j (.ref (1000010 + n) :: As) S0) (hE : sh1.length ≤ shE.length ∧ am_sz sh1 ≤ am_sz shE) (k1 : am_SW l D G B sp fz Lx xs Q1 sh1 j 0 (am_en j (.ref (1000010 + n) :: As)) [] sh M N) (k2 : ∀ (r : Option Value) (M1 : am_M) (N1 : am_N), Q1 r M1 N1 → am_SW l D G B sp fz Lx xs Q shE i (pc + 3) L (r.toList ++ S0) sh1 M1 N1) : am_SW l D G B sp fz Lx xs Q shE i pc L S sh M N := by
  refine ⟨Nat.le_trans k1.1 hE.1, Nat.le_trans k1.2.1 hE.2, fun p e R s m args below meth c H locs ls cells slots C St => am_size fun hsz => ?_⟩
  have hj : j < 210 := am_cl_lt hc
  obtain ⟨o1, o2, o3, o4, o5, o6⟩ := hok
  rw [hst] at o1
  have hpre := am_pre_of (Av := (.ref (1000010 + n) :: As : am_V).map (am_cv B sp fz)) C St hsz
  have hC := id C
  obtain ⟨hx, hb, hml, hown, hts, hr, hlk, hnm, hK, hX, hB, hfr, hlo⟩ := C
  have a7 := St.2.2.2.2.2.2.1
  have a8 := St.2.2.2.2.2.2.2
  have a1 := St.1
  have a2 := St.2.1
  have hls : c.maxLocals = ls.size := by rw [hml, a7.2.1, a8]
  have hini : (Cond.initialized (am_y j).cls).before args s = true := by rw [am_own_at (j := j) (by omega)]; exact hts _ (am_ini_ok o6)
  have hrec := vk_recv hX.2.2.2.2.2.1 hn St.2.2.2.2.1
  have hcv : am_cv B sp fz (.ref (1000010 + n)) = .ref (sp (1000010 + n)) := by show Value.ref (am_ad B sp _) = _; rw [am_ad_sp (by omega)]
  rw [List.map_cons, hcv] at hpre
  have hm := am_met hj o2 k1
  rw [List.map_cons, hcv] at hm
  refine am_after k1.1 k1.2.1 k2 hC St (va_runV (y := am_y j) (C := (am_y j).cls) (n := am_na j) (b := sp (1000010 + n)) (As := As.map (am_cv B sp fz)) ⟨hx, hb, hls, hown, hts⟩ hm ⟨callB_of (am_na j) hts (am_good hj) rfl rfl rfl hini (hts _ (am_cl_ok hc)) ⟨(am_mh_at (by omega)).1, (am_mh_at (by omega)).2, am_par_at (by omega)⟩ ⟨Nat.le_trans o3 hfr, Nat.le_trans o4 hlo⟩, hts _ (am_ins_ok hin2), hts _ (am_sel_ok hsel)⟩ ⟨am_Pre.blind, by rw [am_own_at (j := j) (by omega), how]; exact hrec, hpre⟩ rfl ?_ rfl ?_ (lv_room ?_) (am_in_dec hin) ⟨?_, ?_⟩)
  · rw [List.length_map]
    simp only [List.length_cons, Bool.false_eq_true, if_false] at o1
    omega
  · show S.map _ = _
    rw [hS, List.map_append, List.map_reverse, List.map_cons, hcv]
  · rw [am_cat_map hX.1]; exact o5
  · have := k1.1; omega
  · have := k1.2.1; omega
/-- System.arraycopy between rows of ints -/
theorem sw_copy {k0 k1 n0 n1 idx : Nat} {sx dx nx : Int32} (hin : am_in i pc = some (.invokestatic idx, 3)) (hc : am_ac i idx = true) (hk0 : sh[k0]? = some (.inl (0, n0))) (hk1 : sh[k1]? = some (.inl (0, n1))) (h1 : ¬ sx < 0) (h2 : ¬ dx < 0) (h3 : ¬ nx < 0) (h4 : sx.toNatClampNeg + nx.toNatClampNeg ≤ n0) (h5 : dx.toNatClampNeg + nx.toNatClampNeg ≤ n1) (hfr1 : 1 ≤ am_fr i) (hlo1 : (S.map fun v => v.category).sum + 18 ≤ am_lo i) (kk : am_SW l D G B sp fz Lx xs Q shE i (pc + 3) L S sh (am_upR M k1 (va_cpy (M k0) (M k1) sx.toNatClampNeg dx.toNatClampNeg nx.toNatClampNeg)) N) : am_SW l D G B sp fz Lx xs Q shE i pc L (.int nx :: .int dx :: .ref k1 :: .int sx :: .ref k0 :: S) sh M N := by
  refine ⟨kk.1, kk.2.1, fun p e R s m args below meth c H locs ls cells slots C St => ?_⟩
  have hC := id C
  obtain ⟨hx, hb, hml, hown, hts, hr, hlk, hnm, hK, hX, hB, hfr, hlo⟩ := C
  obtain ⟨a1, a2, a3, a4, a5, a6, a7, a8⟩ := St
  refine va_copyi hx hb (by rw [hml, a7.2.1, a8]) hown (hts _ (am_tbl_in (am_kas (am_ow i) idx (by simpa [am_ac] using hc)) rfl)) (hts _ (am_tbl_in am_s3 rfl)) (hts _ (am_tbl_in am_s4 rfl)) (hts _ (am_tbl_in am_s5 rfl)) hK a3 a4 a5 k0 k1 0 0 (am_ws_get hk0) (am_ws_get hk1) rfl rfl rfl h1 h2 h3 h4 h5 (fun _ _ => rfl) (Nat.le_trans hfr1 hfr) (by rw [am_cat_map hX.1]; show _ + (7 + 11) ≤ _; omega) (am_in_dec hin) (fun H1 locs1 hP hD hS => ?_)
  have he : (am_ws G B sp sh M N).set k1 (am_ad B sp k1, .inl (G.1, n1, .inl (va_cpy (M k0) (M k1) sx.toNatClampNeg dx.toNatClampNeg nx.toNatClampNeg))) = am_ws G B sp sh (am_upR M k1 (va_cpy (M k0) (M k1) sx.toNatClampNeg dx.toNatClampNeg nx.toNatClampNeg)) N := by
    have h9 := am_ws_set (G := G) (B := B) (sp := sp) (M := M) (N := N) (N' := N) (M' := am_upR M k1 (va_cpy (M k0) (M k1) sx.toNatClampNeg dx.toNatClampNeg nx.toNatClampNeg)) hk1 (fun a ha => by simp [am_upR, ha]) (fun _ _ => rfl)
    rw [← h9]
    simp only [am_ce, am_upR, if_true]
  rw [he] at hP hD
  exact kk.2.2 p e R s m args below meth c H1 locs1 ls cells slots hC ⟨a1, a2, hP, hD, hS, a6, a7, a8⟩
/-! new cells -/
theorem am_hsz {H : Heap} (hP : va_P D vwCl (am_ws G B sp sh M N) H) (hl : sh.length < 1000000) (hB : B ≤ H.size) : B + sh.length ≤ H.size := by
  by_cases h0 : sh.length = 0
  · omega
  · have hk : sh.length - 1 < sh.length := by omega
    have h1 := (hP (sh.length - 1) _ (am_ws_get (List.getElem?_eq_getElem hk))).lt
    have h2 : am_ad B sp (sh.length - 1) = B + (sh.length - 1) := am_ad_lo (by omega)
    have h3 : am_ad B sp (sh.length - 1) < H.size := h1
    omega
theorem am_sz_push (sh : List am_E) (e : am_E) : am_sz (sh ++ [e]) = am_sz sh + am_sz [e] := by
  simp [am_sz]
theorem am_pushed {H H1 : Heap} {e9 : am_E} {M' : am_M} {N' : am_N} (hM : ∀ a, a ≠ sh.length → M' a = M a) (hN : ∀ a, a ≠ sh.length → N' a = N a) (hP : va_P D vwCl (am_ws G B sp sh M N) H) (hD : va_D (am_A B) (am_ws G B sp sh M N)) (hl : sh.length < 1000000) (hz : H.size = B + sh.length) (ho : ∀ q, q < H.size → H1[q]? = H[q]?) (hat : va_at D vwCl (am_ad B sp sh.length, am_ce G B sp M' N' sh.length e9) H1) : va_P D vwCl (am_ws G B sp (sh ++ [e9]) M' N') H1 ∧ va_D (am_A B) (am_ws G B sp (sh ++ [e9]) M' N') := by
  have had : am_ad B sp sh.length = H.size := by rw [am_ad_lo hl, hz]
  rw [am_ws_push hM hN]
  refine ⟨(hP.kept (fun k x hx => ho x.1 ((hP k x hx).lt))).app (fun k x hx => ?_), ?_⟩
  · have h0 : k < 1 := (List.getElem?_eq_some_iff.mp hx).1
    rw [show k = 0 by omega] at hx
    cases hx
    exact hat
  · exact hD.push hP had (by show B ≤ _; omega)
theorem sw_newa {t n : Nat} {at9 : ArrayType} {x : Int32} (hin : am_in i pc = some (.newarray at9, 2)) (hat : (at9 = .int ∧ t = 0) ∨ (at9 = .boolean ∧ t = 1)) (hx0 : ¬ x < 0) (hxn : x.toNatClampNeg = n) (hn : n ≤ 100000) (hl : sh.length < 1000000) (kk : am_SW l D G B sp fz Lx xs Q shE i (pc + 2) L (.ref sh.length :: S) (sh ++ [.inl (t, n)]) (am_upR M sh.length (fun _ => 0)) N) : am_SW l D G B sp fz Lx xs Q shE i pc L (.int x :: S) sh M N := by
  have k1 := kk.1
  have k2 := kk.2.1
  rw [am_sz_push] at k2
  have hs1 : am_sz [.inl (t, n)] = n := by simp [am_sz]
  rw [hs1] at k2
  rw [List.length_append, List.length_singleton] at k1
  refine ⟨by omega, by omega, fun p e R s m args below meth c H locs ls cells slots C St => am_size fun hsz => ?_⟩
  have hC := id C
  obtain ⟨hx, hb, hml, hown, hts, hr, hlk, hnm, hK, hX, hB, hfr, hlo⟩ := C
  obtain ⟨a1, a2, a3, a4, a5, a6, a7, a8⟩ := St
  have hBH : B ≤ H.size := Nat.le_trans hB a5.1
  have hge := am_hsz a3 hl hBH
  have hHs : H.size = B + sh.length := by omega
  have had : am_ad B sp sh.length = H.size := by rw [am_ad_lo hl, hHs]
  have goal : ∀ (H1 : Heap) (cA : ClassId), H1[H.size]? = some (arrV cA n (fun _ => .int 0)) → H1.size = H.size + 1 → (∀ q, q < H.size → H1[q]? = H[q]?) → (cA = if t = 0 then G.1 else G.2.1) → W p l e R s m args below meth c H1 locs (cells + 1) (slots + n) (MQ below (am_Qc D G B sp fz Q shE) args s R.cells R.slots (am_A B)) (F0 m (pc + 2) ls (.ref H.size :: S.map (am_cv B sp fz))) := by
    intro H1 cA e1 z1 o1 hcA
    have hat1 : va_at D vwCl (am_ad B sp sh.length, am_ce G B sp (am_upR M sh.length (fun _ => 0)) N sh.length (.inl (t, n))) H1 := by
      rcases hat with ⟨-, rfl⟩ | ⟨-, rfl⟩
      · show H1[am_ad B sp sh.length]? = some (vp_cell G.1 (n, .inl (am_upR M sh.length (fun _ => 0) sh.length)))
        rw [had, e1, hcA, vp_cell_i]
        simp [am_upR]
      · show H1[am_ad B sp sh.length]? = some (vp_cell G.2.1 (n, .inl (am_upR M sh.length (fun _ => 0) sh.length)))
        rw [had, e1, hcA, vp_cell_i]
        simp [am_upR]
    obtain ⟨hP1, hD1⟩ := am_pushed (N' := N) (fun a ha => by simp [am_upR, ha]) (fun _ _ => rfl) a3 a4 hl hHs o1 hat1
    have hS1 : va_S (am_A B) s.heap H1 locs := ⟨Nat.le_trans a5.1 (by omega), fun q h1 h2 => (o1 q (Nat.lt_of_lt_of_le h1 a5.1)).trans (a5.2.1 q h1 h2), a5.2.2⟩
    have hk := kk.2.2 p e R s m args below meth c H1 locs ls (cells + 1) (slots + n) hC ⟨by rw [List.length_append, List.length_singleton]; omega, by rw [am_sz_push, hs1]; omega, hP1, hD1, hS1, by rw [List.length_append, List.length_singleton]; omega, a7, a8⟩
    rw [List.map_cons, show am_cv B sp fz (.ref sh.length) = .ref H.size by show Value.ref (am_ad B sp _) = _; rw [had]] at hk
    exact hk
  rcases hat with ⟨rfl, rfl⟩ | ⟨rfl, rfl⟩
  · refine va_newaK (atype := .int) hx hb (hts _ (am_tbl_in am_s6 rfl)) rfl (am_in_dec hin) rfl hx0 hxn (by show n * 4 ≤ _; omega) (by omega) (by omega) rfl fun H1 cA e1 z1 o1 hAr hNm => ?_
    have hc9 : cA = G.1 := Option.some.inj (hNm.symm.trans (hK.2 0 _ rfl).2)
    exact goal H1 cA e1 z1 o1 hc9
  · refine va_newaK (atype := .boolean) hx hb (hts _ (am_tbl_in am_s7 rfl)) rfl (am_in_dec hin) rfl hx0 hxn (by show n * 1 ≤ _; omega) (by omega) (by omega) rfl fun H1 cA e1 z1 o1 hAr hNm => ?_
    have hc9 : cA = G.2.1 := Option.some.inj (hNm.symm.trans (hK.2 1 _ rfl).2)
    exact goal H1 cA e1 z1 o1 hc9
/-- a new object: its numbers are 0, its references null -/
theorem sw_new {idx ci : Nat} (hin : am_in i pc = some (.new idx, 3)) (hc : am_nw i idx = some ci) (hci : ci < 12) (hq1 : am_inq.contains ci = true) (hq2 : am_ini.contains ci = true) (hl : sh.length < 1000000) (kk : am_SW l D G B sp fz Lx xs Q shE i (pc + 3) L (.ref sh.length :: S) (sh ++ [.inr (ci, List.replicate (am_nf ci) none)]) (am_upR M sh.length (fun _ => 0)) (fun a => if a = sh.length then fun _ => 0 else N a)) : am_SW l D G B sp fz Lx xs Q shE i pc L S sh M N := by
  have k1 := kk.1
  have k2 := kk.2.1
  rw [am_sz_push] at k2
  have hs1 : am_sz [.inr (ci, List.replicate (am_nf ci) none)] = am_nf ci := by simp [am_sz]
  rw [hs1] at k2
  rw [List.length_append, List.length_singleton] at k1
  refine ⟨by omega, by omega, fun p e R s m args below meth c H locs ls cells slots C St => am_size fun hsz => ?_⟩
  have hC := id C
  obtain ⟨hx, hb, hml, hown, hts, hr, hlk, hnm, hK, hX, hB, hfr, hlo⟩ := C
  obtain ⟨a1, a2, a3, a4, a5, a6, a7, a8⟩ := St
  have hBH : B ≤ H.size := Nat.le_trans hB a5.1
  have hge := am_hsz a3 hl hBH
  have hHs : H.size = B + sh.length := by omega
  have had : am_ad B sp sh.length = H.size := by rw [am_ad_lo hl, hHs]
  have hKn := hK.1 ci _ (am_vw ci hci)
  refine W.newcK hx hb hown (hts _ (am_tbl_in (am_kws (am_ow i) (idx, ci) (am_look hc)) rfl)) (hts _ (am_tbl_in (am_pick_of am_inq_k ci (by simpa using hq1)) rfl)) (hts _ (am_ini_ok hq2)) rfl (am_in_dec hin) (by omega) (by omega) hKn.2.1 rfl fun H1 kC hkC e1 z1 o1 => ?_
  have hat1 : va_at D vwCl (am_ad B sp sh.length, am_ce G B sp (am_upR M sh.length (fun _ => 0)) (fun a => if a = sh.length then fun _ => 0 else N a) sh.length (.inr (ci, List.replicate (am_nf ci) none))) H1 := by
    refine ⟨_, am_vw ci hci, ?_⟩
    rw [had]
    refine (u_born (am_tf ci) hts (am_ly ci hci) hKn hkC e1 (am_tyok ci hci)).to (fun j hj => ?_)
    show _ = vp_V (am_fs _ _ _ _ _ _ _) j
    have hj : j < am_nf ci := hj
    unfold vp_V
    rw [List.getD, am_fs_get hj]
    have hg : (List.replicate (am_nf ci) (none : Option Nat)).getD j none = none := by simp [List.getD, List.getElem?_replicate, hj]
    rw [hg]
    simp only [Option.getD_some, am_fv, am_upR, if_true]
    have hty := am_tfk_at hci hj
    generalize am_tf ci j = ty at hty
    cases ty <;> first | rfl | (rcases hty with h | h | h <;> cases h)
  obtain ⟨hP1, hD1⟩ := am_pushed (fun a ha => by simp [am_upR, ha]) (fun a ha => by simp [ha]) a3 a4 hl hHs o1 hat1
  have hS1 : va_S (am_A B) s.heap H1 locs := ⟨Nat.le_trans a5.1 (by omega), fun q h1 h2 => (o1 q (Nat.lt_of_lt_of_le h1 a5.1)).trans (a5.2.1 q h1 h2), a5.2.2⟩
  have hk := kk.2.2 p e R s m args below meth c H1 locs ls (cells + 1) (slots + am_nf ci) hC ⟨by rw [List.length_append, List.length_singleton]; omega, by rw [am_sz_push, hs1]; omega, hP1, hD1, hS1, by rw [List.length_append, List.length_singleton]; omega, a7, a8⟩
  rw [List.map_cons, show am_cv B sp fz (.ref sh.length) = .ref H.size by show Value.ref (am_ad B sp _) = _; rw [had]] at hk
  exact hk
end AMX
