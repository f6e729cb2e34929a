def R_law : String := "DriftCardsLaw"
def lw_P (b : Addr) (xs : List Int32) (args : Array Value) (s : State) : Prop := args = #[.ref b] ∧ s.IntsAt b xs ∧ xs.length ≤ 3584 ∧ (Jvm.Cond.and given_1 narrow_1).before args s = true
def lw_Q (_ : Array Value) (s : State) (o : Outcome) (t : State) : Prop := o = .returned (some (.int 1)) ∧ Framed s o t [] 600000 7302249
def lw_Z (below : List Frame) (a : Array Value) (s : State) : State → Prop := fun t => ∃ o, t.status = .running ∧ Ended t below o ∧ lw_Q a s o t
/-- the law's own end, with 1 on the stack, nothing written that was there before, its room as the claim has it -/
theorem lw_ret {p : Program} {l : Launch} {e : Env} {s : State} {m : MethodId} {below : List Frame} {meth : Method} {c : Code} {b : Nat} (hx : p.tables.exec = Jvm.exec) (hb : c.code = code) (hr : meth.sig.returnType = ret) (hlocks : meth.locks = false) {pc : Nat} {H : Heap} {ls : Array Slot} (hdg : decode code pc = .ok (.ireturn, 1)) : W p l e room_1 s m #[Value.ref b] below meth c H [] 600000 7302249 (lw_Z below #[Value.ref b] s) (F0 m pc ls [.int 1]) := by
  intro T hT X
  obtain ⟨fs, hret, hrun, hended, hW, hframe⟩ := X.leave (v := some (.int 1)) (hlocks := hlocks) (fun h => by rw [hr] at h; cases h)
  have hmeth' : T.vm.method? m = some meth := X.method'
  refine ⟨T.setFrames fs, ?_, .returned (some (.int 1)), hrun, hended, rfl, ⟨_, rfl⟩, hW, hframe⟩
  jvm_step X.here [X.here.top, hx, hb, hdg, hmeth', hr, ret, narrow_b1]
  (try refine ⟨rfl, ?_⟩); (try refine ⟨rfl, ?_⟩)
  first | (intro acts; rw [hret _ acts rfl rfl rfl]) | rw [hret _ _ rfl rfl rfl]
  exact Steps.refl _
/-- what holds at the law's entry: the machine, the code, the tables' words (any of lw_tbl by 'hts w (by decide +kernel)'), the script of L ints xs at the cell b, what the Statement gives of the start (any of its parts by flat_of_before) -/
def lw_At (p : Program) (s : State) (m : MethodId) (meth : Method) (c : Code) (b L : Nat) (xs : Nat → Int32) : Prop :=
  p.tables.exec = Jvm.exec ∧ c.code = code ∧ meth.sig.returnType = ret ∧ c.maxLocals = 4 ∧ s.vm.findClass R_law = some m.cls ∧ (∀ w ∈ lw_tbl, w.before #[Value.ref b] s = true) ∧ va_X b L xs s s.heap ∧ b < s.heap.size ∧ meth.locks = false ∧ (Jvm.Cond.and given_1 narrow_1).before #[Value.ref b] s = true
def am_tm (i : Nat) : Term := .string "DriftCards$Prizes" (am_sks.getD i 0)
set_option maxRecDepth 100000 in
set_option maxHeartbeats 4000000 in
theorem am_n1 : (List.range 7).map (fun i => Cond.exactly (am_tm i) "java/lang/String") = am_pick [17, 9, 8, 11, 9, 11, 14] (flatC (Jvm.Cond.and given_1 narrow_1)) := by rfl
set_option maxRecDepth 100000 in
set_option maxHeartbeats 4000000 in
theorem am_n2 : (List.range 7).map (fun i => Cond.eq (.field (am_tm i) "java/lang/String" "coder" "B") (.int 0)) = am_pick [18, 9, 8, 11, 9, 11, 14] (flatC (Jvm.Cond.and given_1 narrow_1)) := by rfl
set_option maxRecDepth 100000 in
set_option maxHeartbeats 4000000 in
theorem am_n3 : (List.range 7).map (fun i => Cond.arrayOf (.field (am_tm i) "java/lang/String" "value" "[B") .byte) = am_pick [19, 9, 8, 11, 9, 11, 14] (flatC (Jvm.Cond.and given_1 narrow_1)) := by rfl
set_option maxRecDepth 100000 in
set_option maxHeartbeats 4000000 in
theorem am_n4 : (List.range 7).map (fun i => Cond.eq (.length (.field (am_tm i) "java/lang/String" "value" "[B")) (.int (Int32.ofNat (am_slen.getD i 0)))) = am_pick [20, 9, 8, 11, 9, 11, 14] (flatC (Jvm.Cond.and given_1 narrow_1)) := by rfl
def am_npr : List (Nat × Nat) := [(0, 0), (0, 1), (0, 2), (0, 3), (0, 4), (0, 5), (1, 0), (1, 1), (1, 2), (1, 3), (2, 0), (2, 1), (2, 2), (2, 3), (2, 4), (2, 5), (3, 0), (3, 1), (3, 2), (4, 0), (4, 1), (4, 2), (4, 3), (5, 0), (5, 1), (5, 2), (5, 3), (5, 4), (5, 5), (6, 0), (6, 1), (6, 2), (6, 3), (6, 4), (6, 5)]
set_option maxRecDepth 100000 in
set_option maxHeartbeats 4000000 in
theorem am_n5 : am_npr.map (fun q => Cond.eq (.elem (.field (am_tm q.1) "java/lang/String" "value" "[B") (.int (Int32.ofNat q.2))) (.int ((am_sbyt.getD q.1 []).getD q.2 0))) = am_pick [21, 0, 0, 0, 0, 0, 4, 0, 0, 0, 5, 0, 0, 0, 0, 0, 6, 0, 0, 7, 0, 0, 0, 8, 0, 0, 0, 0, 0, 9, 0, 0, 0, 0, 0] (flatC (Jvm.Cond.and given_1 narrow_1)) := by rfl
def am_nne : List (Nat × Nat) := [(0, 1), (0, 2), (1, 2), (0, 3), (1, 3), (2, 3), (0, 4), (1, 4), (2, 4), (3, 4), (0, 5), (1, 5), (2, 5), (3, 5), (4, 5), (0, 6), (1, 6), (2, 6), (3, 6), (4, 6), (5, 6)]
set_option maxRecDepth 100000 in
set_option maxHeartbeats 4000000 in
theorem am_n6 : am_nne.map (fun q => Cond.not (Cond.eq (am_tm q.1) (am_tm q.2))) = am_pick [35, 10, 0, 7, 0, 0, 8, 0, 0, 0, 10, 0, 0, 0, 0, 10, 0, 0, 0, 0, 0] (flatC (Jvm.Cond.and given_1 narrow_1)) := by rfl
set_option maxRecDepth 100000 in
set_option maxHeartbeats 4000000 in
theorem am_n7 : (List.range 5).map (fun j => Cond.eq (.elem (.static "DriftCards" "MOST_OF_MARK" "[I") (.int (Int32.ofNat j))) (.int (am_mom.getD j 0))) = am_pick [7, 0, 0, 0, 0] (flatC (Jvm.Cond.and given_1 narrow_1)) := by rfl
set_option maxRecDepth 100000 in
set_option maxHeartbeats 4000000 in
theorem am_n8 : Cond.arrayOf (.static "DriftCards" "MOST_OF_MARK" "[I") .int ∈ (flatC (Jvm.Cond.and given_1 narrow_1)) := am_pick_1 (gs := [5]) (by rfl)
set_option maxRecDepth 100000 in
set_option maxHeartbeats 4000000 in
theorem am_n9 : Cond.eq (.length (.static "DriftCards" "MOST_OF_MARK" "[I")) (.int 5) ∈ (flatC (Jvm.Cond.and given_1 narrow_1)) := am_pick_1 (gs := [6]) (by rfl)
set_option maxRecDepth 100000 in
set_option maxHeartbeats 4000000 in
theorem am_n10 : Cond.eq (.static "java/lang/String" "COMPACT_STRINGS" "Z") (.int 1) ∈ (flatC (Jvm.Cond.and given_1 narrow_1)) := am_pick_1 (gs := [12]) (by rfl)
set_option maxRecDepth 100000 in
set_option maxHeartbeats 4000000 in
theorem am_n11 : Cond.isRef (.static "jdk/internal/util/Preconditions" "SIOOBE_FORMATTER" "Ljava/util/function/BiFunction;") ∈ (flatC (Jvm.Cond.and given_1 narrow_1)) := am_pick_1 (gs := [13]) (by rfl)
set_option maxRecDepth 100000 in
set_option maxHeartbeats 4000000 in
theorem am_ls1 : Cond.laysStatic "DriftCards" "MOST_OF_MARK" "[I" ∈ lw_tbl := am_pick_1 (gs := [496]) (by rfl)
set_option maxRecDepth 100000 in
set_option maxHeartbeats 4000000 in
theorem am_ls1i : Cond.initialized "DriftCards" ∈ lw_tbl := am_pick_1 (gs := [42]) (by rfl)
set_option maxRecDepth 100000 in
set_option maxHeartbeats 4000000 in
theorem am_ls2 : Cond.laysStatic "java/lang/String" "COMPACT_STRINGS" "Z" ∈ lw_tbl := am_pick_1 (gs := [904]) (by rfl)
set_option maxRecDepth 100000 in
set_option maxHeartbeats 4000000 in
theorem am_ls2i : Cond.initialized "java/lang/String" ∈ lw_tbl := am_pick_1 (gs := [58]) (by rfl)
set_option maxRecDepth 100000 in
set_option maxHeartbeats 4000000 in
theorem am_ls3 : Cond.laysStatic "jdk/internal/util/Preconditions" "SIOOBE_FORMATTER" "Ljava/util/function/BiFunction;" ∈ lw_tbl := am_pick_1 (gs := [920]) (by rfl)
set_option maxRecDepth 100000 in
set_option maxHeartbeats 4000000 in
theorem am_ls3i : Cond.initialized "jdk/internal/util/Preconditions" ∈ lw_tbl := am_pick_1 (gs := [60]) (by rfl)
set_option maxRecDepth 100000 in
theorem am_srf : ∀ j : Nat, j < 7 → Cond.stringRef "DriftCards$Prizes" (am_sks.getD j 0) (am_sts.getD j "") ∈ lw_tbl := by
  have h : (List.range 7).map (fun j => Cond.stringRef "DriftCards$Prizes" (am_sks.getD j 0) (am_sts.getD j "")) = am_pick [890, 69, 9, 0, 0, 0, 0] lw_tbl := by rfl
  intro j hj
  exact am_pick_of h j (List.mem_range.mpr hj)
/-- an array of arrays, what the tables say -/
theorem am_over_spec {args : Array Value} {s : State} (h : (Cond.arrayOver (.array .int)).before args s = true) : ∃ (comp cA : ClassId) (kA : Class), s.vm.findClass (FieldType.array .int).toString = some comp ∧ s.vm.classes[cA]? = some kA ∧ kA.kind = .array comp (.array .int) ∧ s.vm.findClass ("[" ++ (FieldType.array .int).toString) = some cA := by
  simp only [Cond.before, Cond.holds, Cond.value, beq_iff_eq] at h
  cases hc : s.vm.findClass (FieldType.array .int).toString with
  | none => simp [hc] at h
  | some comp =>
    simp only [hc, Option.bind_some, Option.bind_eq_some_iff, Option.map_eq_some_iff] at h
    obtain ⟨c, hi, k, hk, hb⟩ := h
    obtain ⟨hlt, hp, -⟩ := Array.findIdx?_eq_some_iff_getElem.mp hi
    have hkk : s.vm.classes[c] = k := (Array.getElem?_eq_some_iff.mp hk).2
    rw [hkk] at hp
    cases hkind : k.kind with
    | array component ty =>
      rw [hkind] at hb hp
      simp at hb hp
      exact ⟨comp, c, k, rfl, hk, by rw [hkind, hp, hb.1], hb.2⟩
    | _ => rw [hkind] at hb; simp at hb
theorem am_world {args : Array Value} {s : State} (hts : ∀ w ∈ lw_tbl, w.before args s = true) : ∃ (D : va_G) (G : am_G), va_K D vwCl (am_tys G) s := by
  have htb : ∀ w ∈ am_tbl, w.before args s = true := fun w h => hts w (List.mem_filter.mp h).1
  have h1 : ∀ ci : Nat, ∃ q : ClassId × (Nat → Nat), ci < 12 → u_Kn s (am_cn ci) (am_Tf ci) (am_nf ci) q.1 q.2 := by
    intro ci
    by_cases hci : ci < 12
    · have hq : am_inq.contains ci = true := by
        have h9 : ((List.range 12).all fun ci => am_inq.contains ci) = true := by decide +kernel
        exact List.all_eq_true.mp h9 ci (List.mem_range.mpr hci)
      obtain ⟨cC, iS, hk⟩ := u_known (C := am_cn ci) (T := am_Tf ci) (N := am_nf ci) (n := am_nf ci) htb (am_ly ci hci) (htb _ (am_tbl_in (am_pick_of am_inq_k ci (by simpa using hq)) rfl))
      exact ⟨(cC, iS), fun _ => hk⟩
    · exact ⟨(0, fun _ => 0), fun h => absurd h hci⟩
  obtain ⟨f, hf⟩ := Classical.axiomOfChoice h1
  obtain ⟨cI, kI, ccI, i1, i2, i3⟩ := Cond.arrayClass_spec (hts _ am_s6)
  obtain ⟨cZ, kZ, ccZ, z1, z2, z3⟩ := Cond.arrayClass_spec (hts _ am_s7)
  obtain ⟨comp, cA, kA, g1, g2, g3, g4⟩ := am_over_spec (hts _ am_s8)
  refine ⟨(fun ci => (f ci).1, fun ci => (f ci).2), (cI, cZ, cA), fun c q hq => ?_, fun k q hk => ?_⟩
  · have hc : c < 12 := by
      have := (List.getElem?_eq_some_iff.mp hq).1
      exact this
    rw [am_vw c hc] at hq
    cases hq
    exact hf c hc
  · match k, hk with
    | 0, hk => cases hk; exact ⟨fun n z => ⟨fun k h => (by cases h), kI, i2, ccI, i3⟩, i1⟩
    | 1, hk => cases hk; exact ⟨fun n z => ⟨fun k h => (by cases h), kZ, z2, ccZ, z3⟩, z1⟩
    | 2, hk => cases hk; exact ⟨fun n z => ⟨fun k h => (by cases h), kA, g2, comp, g3⟩, g4⟩
    | k + 3, hk => simp [am_tys] at hk
theorem am_outside {b L : Nat} {xs : Nat → Int32} {s : State} (hts : ∀ w ∈ lw_tbl, w.before #[Value.ref b] s = true) (hX : va_X b L xs s s.heap) (hbl : b < s.heap.size) (hgv : (Jvm.Cond.and given_1 narrow_1).before #[Value.ref b] s = true) : ∃ (sp : Nat → Nat) (fz : Value), sp 1000000 = b ∧ am_Xt s.heap.size sp fz L xs s s.heap := by
  have hs := flat_of_before _ hgv
  have hA : ∀ a : Nat, a < s.heap.size → ¬ am_A s.heap.size a := fun a ha => Nat.not_le.mpr ha
  obtain ⟨t, ht, hT⟩ := va_Tof (tm := .static "DriftCards" "MOST_OF_MARK" "[I") (ty := .int) (N := 5) (f := fun j => .int (am_mom.getD j 0)) (A := am_A s.heap.size) (by decide) (hs _ am_n8) (va_eqt (hs _ am_n9)) (fun j hj => va_eqt (hs _ (am_pick_of am_n7 j (List.mem_range.mpr hj)))) hA
  have hZ1 := va_Zref (hts _ am_ls1) (hts _ am_ls1i) ht hA
  have hZ2 := va_Zof (hts _ am_ls2) (hts _ am_ls2i) (va_eqi (hs _ am_n10)) hA
  obtain ⟨fz, hfz, hZ3⟩ : ∃ fz : Value, fz.category = 1 ∧ va_Z "jdk/internal/util/Preconditions" "SIOOBE_FORMATTER" "Ljava/util/function/BiFunction;" fz (am_A s.heap.size) s s.heap := by
    rcases va_Zqof (hts _ am_ls3) (hts _ am_ls3i) (hs _ am_n11) hA with h | ⟨q, h⟩
    · exact ⟨.null, rfl, h⟩
    · exact ⟨.ref q, rfl, h⟩
  have hpr : ((List.range 7).all fun i => (List.range (am_slen.getD i 0)).all fun j => am_npr.contains (i, j)) = true := by decide +kernel
  have hnr : ((List.range 7).all fun i => (List.range 7).all fun j => (i == j) || (am_nne.contains (i, j) || am_nne.contains (j, i))) = true := by decide +kernel
  have hln : ((List.range 7).all fun i => decide (am_slen.getD i 0 < 2 ^ 31)) = true := by decide +kernel
  obtain ⟨adK, adV, hS, hev⟩ := vk_Sof (N := 7) (tm := am_tm) (len := am_slen) (byt := am_sbyt) (A := am_A s.heap.size) (args := #[Value.ref b]) (s := s) (fun i hi => by simpa using List.all_eq_true.mp hln i (List.mem_range.mpr hi)) (fun i hi => hs _ (am_pick_of am_n1 i (List.mem_range.mpr hi))) (fun i hi => hs _ (am_pick_of am_n2 i (List.mem_range.mpr hi))) (fun i hi => hs _ (am_pick_of am_n3 i (List.mem_range.mpr hi))) (fun i hi => hs _ (am_pick_of am_n4 i (List.mem_range.mpr hi)))
    (fun i hi j hj => hs _ (am_pick_of am_n5 (i, j) (by simpa using List.all_eq_true.mp (List.all_eq_true.mp hpr i (List.mem_range.mpr hi)) j (List.mem_range.mpr hj))))
    (fun i j hi hj hne => by
      have h := List.all_eq_true.mp (List.all_eq_true.mp hnr i (List.mem_range.mpr hi)) j (List.mem_range.mpr hj)
      simp only [Bool.or_eq_true, beq_iff_eq, List.contains_iff_mem] at h
      rcases h with h | h | h
      · exact absurd h hne
      · exact Or.inl (hs _ (am_pick_of am_n6 (i, j) h))
      · exact Or.inr (hs _ (am_pick_of am_n6 (j, i) h))) hA
  refine ⟨fun k => if k = 1000000 then b else if k = 1000001 then t else if k < 1000100 then adK (k - 1000010) else adV (k - 1000100), fz, rfl, hfz, ⟨hX, hbl⟩, ⟨hZ1, hT⟩, hZ2, hZ3, ?_, ?_, am_over_spec (hts _ am_s8), ?_⟩
  · have e1 : ∀ j : Nat, j < 7 → (if 1000010 + j = 1000000 then b else if 1000010 + j = 1000001 then t else if 1000010 + j < 1000100 then adK (1000010 + j - 1000010) else adV (1000010 + j - 1000100)) = adK j := fun j hj => by
      rw [if_neg (by omega), if_neg (by omega), if_pos (by omega), show 1000010 + j - 1000010 = j by omega]
    have e2 : ∀ j : Nat, j < 7 → (if 1000100 + j = 1000000 then b else if 1000100 + j = 1000001 then t else if 1000100 + j < 1000100 then adK (1000100 + j - 1000010) else adV (1000100 + j - 1000100)) = adV j := fun j hj => by
      rw [if_neg (by omega), if_neg (by omega), if_neg (by omega), show 1000100 + j - 1000100 = j by omega]
    refine ⟨fun j hj => ?_, fun i j hi hj hij => ?_⟩
    · have h := hS.1 j hj
      dsimp only
      rw [e1 j hj, e2 j hj]
      exact h
    · dsimp only at hij
      rw [e1 i hi, e1 j hj] at hij
      exact hS.2 i j hi hj hij
  · intro j hj
    dsimp only
    rw [if_neg (by omega), if_neg (by omega), if_pos (by omega), show 1000010 + j - 1000010 = j by omega]
    exact vk_R.of (A := #[Value.ref b]) (hts _ (am_srf j hj)) (hev j hj)
  · intro q hq
    exact va_Nw.of rfl (hts _ (am_pick_of am_kn q hq))
set_option maxRecDepth 100000 in
theorem am_start {X : am_X} (h : am_J X (fun r _ _ => r = some (.int 1)) 210 18 [.ref 1000000, .ref 0, .ref 120, .int 0] [] (am_mw am_ws2) am_zL) : am_SW X.1 X.2.1 X.2.2.1 X.2.2.2.1 X.2.2.2.2.1 X.2.2.2.2.2.1 X.2.2.2.2.2.2.1 X.2.2.2.2.2.2.2 (fun r _ _ => r = some (.int 1)) am_SH 210 0 (am_en 210 [.ref 1000000]) [] [] am_z am_zL := by
  have e1 : am_upR am_z 0 (fun _ => 0) = am_mw [] := by
    funext a
    by_cases ha : a = 0
    · subst ha; rfl
    · simp only [am_upR, if_neg ha]; rfl
  have e2 : (fun a => if a = 0 then fun _ => 0 else am_zL a) = am_zL := by
    funext a
    split <;> rfl
  have e3 : am_upR (am_mw am_ws1) 120 (fun _ => 0) = am_mw am_ws1 := by
    funext a
    by_cases ha : a = 120
    · subst ha
      simp only [am_upR, if_true]
      exact (am_mw_hi (n := 120) (by decide) (Nat.le_refl _)).symm
    · simp only [am_upR, if_neg ha]
  have e4 : (fun a => if a = 120 then fun _ => 0 else am_zL a) = am_zL := by
    funext a
    split <;> rfl
  refine sw_new (am_d210 rfl) rfl (by decide) (by decide) (by decide) (by decide) ?_
  rw [show ([] : List am_E).length = 0 from rfl, e1, e2]
  refine sw_q (am_d210 rfl) rfl ?_
  have r1 := am_cs_ok (l := X.1) (D := X.2.1) (G := X.2.2.1) (B := X.2.2.2.1) (sp := X.2.2.2.2.1) (fz := X.2.2.2.2.2.1) (Lx := X.2.2.2.2.2.2.1) (xs := X.2.2.2.2.2.2.2) 400 0 0 (am_en 0 [.ref 0]) [] [.inr (10, List.replicate (am_nf 10) none)] [] _ _ am_run1
  have r2 := am_cs_ok (l := X.1) (D := X.2.1) (G := X.2.2.1) (B := X.2.2.2.1) (sp := X.2.2.2.2.1) (fz := X.2.2.2.2.2.1) (Lx := X.2.2.2.2.2.2.1) (xs := X.2.2.2.2.2.2.2) 400 137 0 (am_en 137 [.ref 120]) [] (am_SH.take 120 ++ [.inr (11, List.replicate (am_nf 11) none)]) am_ws1 _ _ am_run2
  refine sw_callI (As := []) (S0 := [.ref 0]) (am_d210 rfl) rfl rfl rfl (am_cini_ok rfl) rfl rfl (am_ckr_ok rfl) ⟨by decide, by decide +kernel⟩ r1 (fun r M1 N1 hq => ?_)
  obtain ⟨rfl, rfl, rfl⟩ := hq
  refine sw_q (am_d210 rfl) rfl ?_
  refine sw_new (am_d210 rfl) rfl (by decide) (by decide) (by decide) (by decide) ?_
  rw [show (am_SH.take 120).length = 120 from rfl, e3, e4]
  refine sw_q (am_d210 rfl) rfl ?_
  refine sw_callI (As := []) (S0 := [.ref 120]) (am_d210 rfl) rfl rfl rfl (am_cini_ok rfl) rfl rfl (am_ckr_ok rfl) ⟨Nat.le_refl _, Nat.le_refl _⟩ r2 (fun r M1 N1 hq => ?_)
  obtain ⟨rfl, rfl, rfl⟩ := hq
  refine sw_q (am_d210 rfl) rfl ?_
  refine sw_q (am_d210 rfl) rfl ?_
  refine sw_q (am_d210 rfl) rfl ?_
  exact h
set_option maxHeartbeats 4000000 in
set_option maxRecDepth 100000 in
/-- from the entry, for every script of at most 3584 ints, the law comes to its end with true -/
theorem whole_start {p : Program} {e : Env} {s : State} {m : MethodId} {below : List Frame} {meth : Method} {c : Code} (l : Launch) {b L : Nat} {xs : Nat → Int32} (hL : L ≤ 3584) (C0 : lw_At p s m meth c b L xs) : W p l e room_1 s m #[Value.ref b] below meth c s.heap [] 0 0 (lw_Z below #[Value.ref b] s) (entryFrame m ([Value.ref b] : List Value).toArray 4) := by
  obtain ⟨hx, hb, hr, hml, hown, hts, hX, hbl, hlocks, hgv⟩ := id C0
  obtain ⟨D, G, hK⟩ := am_world hts
  obtain ⟨sp, fz, hsp, hXt⟩ := am_outside hts hX hbl hgv
  have hJ := am_start (X := (l, D, G, s.heap.size, sp, fz, L, xs)) (law_loop hL)
  have hcv : am_cv s.heap.size sp fz (.ref 1000000) = .ref b := by show Value.ref (sp 1000000) = _; rw [hsp]
  intro T hT X
  have hnm : (am_y 210).name = "<init>" → meth.name = "<init>" := fun h => absurd h (by decide)
  have hsame : (am_en 210 [.ref 1000000]).length = 4 := rfl
  rw [lg_entry_eq]
  have hlv := am_lv.entry (cv := am_cv s.heap.size sp fz) (am_cv_cat hXt.1) (i := 210) (As := [.ref 1000000]) (by decide)
  rw [show ([Value.ref 1000000] : List Value).map (am_cv s.heap.size sp fz) = [.ref b] by rw [List.map_cons, hcv]; rfl] at hlv
  have hmx : am_mx 210 = 4 := rfl
  rw [hmx] at hlv
  obtain ⟨t, a1, o, b1, b2, b3, L2, b4, b5⟩ := hJ.2.2 p e room_1 s m #[Value.ref b] below meth c s.heap [] _ 0 0 ⟨hx, hb, hml, hown, fun w h => hts w (List.mem_filter.mp h).1, hr, hlocks, hnm, hK, hXt, Nat.le_refl _, by decide, by decide⟩ ⟨by show 0 + am_SH.length ≤ 600000 + 0; decide, by show 0 + am_sz am_SH ≤ 7302249 + 0; decide +kernel, fun k q h => by simp [am_ws] at h, am_D (by decide), va_S.rf, by show s.heap.size + 0 ≤ s.heap.size + 0; omega, hlv, rfl⟩ T hT X
  refine ⟨t, a1, o, b1, b2, ?_, ?_⟩
  · obtain ⟨⟨r, M, N, hr9, hq, -, -⟩, -⟩ := b3
    rw [hq] at hr9
    exact hr9
  · exact ⟨b4.1, b4.2.1, b4.2.2.weaken (fun y hy hlt => absurd (b5 y hy) (Nat.not_le.mpr hlt)) (Nat.le_refl _) (Nat.le_refl _)⟩
-- ===== YOUR PART ENDS =====
set_option maxHeartbeats 4000000 in
theorem lw_walk (l : Launch) (b : Addr) (xs : List Int32) : MetFree l x (headSpec (Jvm.Cond.code x code maxLocals ret :: tables_1) room_1) (lw_P b xs) (fun _ _ _ _ _ => True) lw_Q := by
  refine MetFree.of_bodyS (code := code) (maxLocals := maxLocals) (ret := ret) (by decide) ?_ ?_
  · intro args s m h hn
    obtain ⟨meth, c, h1, h2, h3, h4, h5, h6, -, -⟩ := Cond.code_spec hn (atoms_spec (ws := Jvm.Cond.code x code maxLocals ret :: tables_1) h _ List.mem_cons_self)
    exact ⟨meth, c, h1, h2, h3, h4, h5, h6⟩
  · intro p e s m args below meth c s₁ B hml0 hP _
    obtain ⟨rfl, hx, hbd, hgv⟩ := hP
    obtain ⟨scr, harrAt, hlist, hof, hsmall⟩ := hx
    obtain ⟨hcb, hkn, -, -⟩ := State.arrayAt?_spec harrAt
    have hown : s.vm.findClass R_law = some m.cls := findClass_of_methodNamed B.named
    have hts0 : ∀ c ∈ (Jvm.Cond.code x code maxLocals ret :: tables_1), c.before #[Value.ref b] s = true := atoms_spec (ws := Jvm.Cond.code x code maxLocals ret :: tables_1) B.pre
    have hts : ∀ w ∈ lw_tbl, w.before #[Value.ref b] s = true := k2_hts_sels lw_privs (fun w hw => hts0 w (List.mem_cons_of_mem _ hw)) lw_privs_ok
    have hml : c.maxLocals = 4 := B.maxLocals_eq (hts0 _ List.mem_cons_self)
    have X₀ : Stand p l e room_1 s m #[Value.ref b] below meth c s₁ [] 0 0 := Stand.of_body B
    have hh0 : s₁.heap = s.heap := by rw [B.state]; rfl
    have hsz : scr.slots.size = xs.length := by rw [← Array.length_toList, hlist, List.length_map]
    have hval : ∀ j : Nat, j < xs.length → scr.slots[j]? = some (.int (xs.getD j 0)) := fun j hj => by
      rw [← Array.getElem?_toList, hlist]
      simp [hj]
    have hbl : b < s.heap.size := (Array.getElem?_eq_some_iff.mp hcb).1
    have hX : va_X b xs.length (fun j => xs.getD j 0) s s.heap := ⟨scr, hcb, hof, hkn, hsz, hval⟩
    have K : W p l e room_1 s m #[Value.ref b] below meth c s₁.heap [] 0 0 (lw_Z below #[Value.ref b] s) (entryFrame m ([Value.ref b] : List Value).toArray 4) := by
      rw [hh0]
      exact whole_start l hbd ⟨B.exec, B.bytes, B.returns, hml, hown, hts, hX, hbl, B.notSynchronized, hgv⟩
    obtain ⟨t, a1, o, b1, b2, b3⟩ := K s₁ rfl X₀
    exact ⟨t, o, a1, b1, b2, b3⟩
theorem lw_pre_spec {args : Array Value} {s : State} (h : (Jvm.Cond.and given_1 narrow_1).before args s = true) (hr : rest_1_c.before args s = true) : ∃ (b : Addr) (xs : List Int32), lw_P b xs args s := by
  have hs := flat_of_before _ h
  have hq := flat_of_before _ hr
  have hc : (Cond.count 1).before args s = true := hs _ (by decide +kernel)
  have harr : (Cond.arrayOf (.arg 0) .int).before args s = true := hs _ (by decide +kernel)
  have hle : (Cond.le (.length (.arg 0)) (.int 3584)).before args s = true := hs _ (by decide +kernel)
  have hlen : (Cond.isInt (.length (.arg 0))).before args s = true := hq _ (by decide +kernel)
  have hall : (Cond.all (.arg 0) (.isInt (.elem (.arg 0) (.index 0)))).before args s = true := hq _ (by decide +kernel)
  obtain ⟨b, xs, hb, hx⟩ := State.ints_of_pre rfl harr hlen hall
  have hsm : xs.length < 2 ^ 31 := hx.choose_spec.2.2.2
  have hev : (Term.length (.arg 0)).eval args s none [] s = some (.int xs.length.toInt32) := hx.length_eval hb
  have hv := Cond.le_ints hev (show (Term.int 3584).eval args s none [] s = some (.int 3584) from rfl)
  have hd : xs.length.toInt32 ≤ 3584 := by
    simpa [Cond.before, Cond.holds, hv] using hle
  have hN : xs.length ≤ 3584 := (Int32.ofNat_le_ofNat hsm (by decide)).mp (show Int32.ofNat xs.length ≤ Int32.ofNat 3584 from hd)
  exact ⟨b, xs, Cond.one_arg hc (show args[0]? = some (.ref b) from hb), hx, hN, h⟩
theorem lw_comes (l : Launch) : Comes l x (Jvm.Cond.code x code maxLocals ret :: tables_1) room_1 (fun tb e args s => Calls_1 tb e args s ∧ rest_1 tb e args s ∧ Pre_1 tb e args s)
    (fun _ _ args s o t => lw_Q args s o t) := by
  intro p e ha hc hk s m args below hf hfit hheap happ hpre
  obtain ⟨b, xs, hP⟩ := lw_pre_spec hpre.2.2 hpre.2.1
  obtain ⟨k, o, h1, h2, h3, hQ⟩ := lw_walk l b xs p e ha hc hk s m args below hf ((Spec.applies_iff_loose hf).mp happ).1 hP trivial
  exact ⟨k, o, h1, h2, h3, hQ⟩
theorem lw_frame {s t : State} {o : Outcome} {args : Array Value} (h : Framed s o t [] 600000 7302249) :
    Framed s o t (fieldLocs frame_1_writes args s ++ arrayLocs frame_1_arrays args s ++ staticLocs frame_1_statics s) 600000 7302249 := h
theorem lw_limb (L : Cond) (hL : ∀ (args : Array Value) (s t : State), L.after args s (.returned (some (.int 1))) t = true) :
    ArmFor flags0 classFile x code maxLocals ret World_1 tables_1 room_1 Calls_1 rest_1 Pre_1
      (fun tb e a s o t => postC L tb e a s o t ∧ Framed s o t (fieldLocs frame_1_writes a s ++ arrayLocs frame_1_arrays a s ++ staticLocs frame_1_statics s) 600000 7302249) := by
  intro l _ _ _ p e ha hc hk s m args below hf hfit hheap happ hpre
  obtain ⟨k, o, h1, h2, h3, rfl, hF⟩ := lw_comes l p e ha hc hk s m args below hf hfit hheap happ hpre
  exact ⟨k, _, h1, h2, h3, hL args s _, lw_frame hF⟩
theorem i_vc : Claimed_1_1 ∧ Claimed_1_2 := ⟨lw_limb limb_1_1 (fun args s t => by simp [limb_1_1, Cond.after, Cond.holds, Cond.value]), lw_limb limb_1_2 (fun args s t => Cond.after_iff.mpr (by
  first | (rw [show limb_1_2 = Cond.eq .result (.int 1) from rfl, Cond.eq_ints (x := 1) (y := 1) rfl rfl]; simp; done) | (simp [limb_1_2, Cond.value, Term.eval]; done)))⟩

