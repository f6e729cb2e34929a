/-! ===== calls ===== -/
def am_wl (j : Nat) : List Cond := Cond.code (am_y j) (am_c j) (am_mx j) (am_rt j) :: am_tbl
set_option maxRecDepth 100000 in
theorem am_ms_len : am_ms.length = 211 := by rfl
theorem am_m_get {j : Nat} (hj : j < 211) : am_ms[j]? = some (am_m j) := by
  have h : j < am_ms.length := by rw [am_ms_len]; exact hj
  unfold am_m
  simp [List.getD, h]
theorem am_code_in {j : Nat} (hj : j < 210) : Cond.code (am_y j) (am_c j) (am_mx j) (am_rt j) ∈ am_tbl := by
  refine am_tbl_in (am_pick_of am_kc (am_m j) (List.mem_of_getElem? (i := j) ?_)) rfl
  rw [List.getElem?_take_of_lt hj]
  exact am_m_get (by omega)
theorem am_own_at {j : Nat} (hj : j < 211) : (am_y j).cls = am_cn (am_ow j) := by
  have h := congrArg (fun l : List String => l[j]?) am_own
  simp only [List.getElem?_map, am_m_get hj, Option.map_some, Option.some.injEq] at h
  exact h
theorem am_par_at {j : Nat} (hj : j < 211) : (parseMethodDescriptor (am_y j).desc).map (fun d => d.parameters.length) = some (am_na j) := by
  have h := congrArg (fun l : List (Option Nat) => l[j]?) am_par
  simp only [List.getElem?_map, am_m_get hj, Option.map_some] at h
  unfold am_na
  cases hq : am_nas[j]? with
  | none => rw [hq] at h; cases h
  | some n =>
    rw [hq] at h
    simp only [Option.map_some, Option.some.injEq] at h
    rw [List.getD, hq]
    exact h
theorem am_pln_at {j : Nat} (hj : j < 211) : plainFor (am_y j) = true := List.all_eq_true.mp am_pln (am_m j) (List.mem_of_getElem? (am_m_get hj))
theorem am_ow_lt {j : Nat} (hj : j < 211) : am_ow j < 19 := by
  have h : (am_ms.all fun q => decide (q.2.2.2.2.1 < 19)) = true := by decide +kernel
  simpa [am_ow] using List.all_eq_true.mp h (am_m j) (List.mem_of_getElem? (am_m_get hj))
theorem am_mh_at {j : Nat} (hj : j < 211) : (am_y j).cls ≠ "java/lang/invoke/MethodHandle" ∧ (am_y j).cls ≠ "java/lang/invoke/VarHandle" := by
  rw [am_own_at hj]
  have h := List.all_eq_true.mp am_cnp (am_ow j) (List.mem_range.mpr (am_ow_lt hj))
  simp only [Bool.and_eq_true, decide_eq_true_eq] at h
  exact h
theorem am_good {j : Nat} (hj : j < 210) : GoodIn am_tbl (am_wl j) := by
  intro w hw
  rcases List.mem_cons.mp hw with rfl | hw
  · exact ⟨am_code_in hj, good_of_word rfl⟩
  · exact ⟨hw, good_of_word (List.mem_filter.mp hw).2⟩
theorem am_cl_lt {i idx j : Nat} {b : Bool} (h : am_cl i idx = some (j, b)) : j < 210 := by
  obtain ⟨r, hr, hq⟩ := am_getD_mem (am_look h)
  simpa using List.all_eq_true.mp (List.all_eq_true.mp am_kbb r hr) _ hq
theorem am_cl_ok {i idx j : Nat} (h : am_cl i idx = some (j, false)) : Cond.methodLink (am_cn (am_ow i)) idx (am_y j) ∈ am_tbl := am_tbl_in (am_kms (am_ow i) (idx, j, false) (List.mem_filter.mpr ⟨am_look h, rfl⟩)) rfl
theorem am_cl_nest {i idx j : Nat} (hi : am_ow i < 19) (h : am_cl i idx = some (j, true)) : (am_ow i, idx, j) ∈ am_nlk := by
  have h1 := List.all_eq_true.mp (List.all_eq_true.mp am_knb (am_ow i) (List.mem_range.mpr hi)) _ (am_look h)
  simpa using h1
theorem am_sta_ok {j : Nat} (h : am_sta.contains j = true) : Cond.static (am_y j) ∈ am_tbl := am_tbl_in (am_pick_of am_sta_k j (by simpa using h)) rfl
theorem am_ins_ok {j : Nat} (h : am_ins.contains j = true) : Cond.instanceMethod (am_y j) ∈ am_tbl := am_tbl_in (am_pick_of am_ins_k j (by simpa using h)) rfl
theorem am_sel_ok {j : Nat} (h : am_sel.contains j = true) : Cond.selects (am_y j).cls (am_y j) (am_y j) ∈ am_tbl := am_tbl_in (am_pick_of am_sel_k j (by simpa using h)) rfl
theorem am_ini_ok {o : Nat} (h : am_ini.contains o = true) : Cond.initialized (am_cn o) ∈ am_tbl := am_tbl_in (am_pick_of am_ini_k o (by simpa using h)) rfl
def am_Pre (D : va_G) (G : am_G) (B : Nat) (sp : Nat → Nat) (fz : Value) (Lx : Nat) (xs : Nat → Int32) (sh : List am_E) (M : am_M) (N : am_N) (U : State) : Prop :=
  va_P D vwCl (am_ws G B sp sh M N) U.heap ∧ va_D (am_A B) (am_ws G B sp sh M N) ∧ U.heap.size ≤ B + sh.length ∧ va_K D vwCl (am_tys G) U ∧ am_Xt B sp fz Lx xs U U.heap ∧ B ≤ U.heap.size
section AMC
variable {l : Launch} {D : va_G} {G : am_G} {B : Nat} {sp : Nat → Nat} {fz : Value} {Lx : Nat} {xs : Nat → Int32} {Q : am_Q} {shE : List am_E} {i pc : Nat} {L S : am_V} {sh : List am_E} {M : am_M} {N : am_N}
theorem am_Pre.blind {Av : List Value} : FrameBlind (va_Pc Av (am_Pre D G B sp fz Lx xs sh M N)) := by
  intro a U g mk hp
  obtain ⟨h0, h1, h2, h3, h4, h5, h6⟩ := hp
  exact ⟨h0, h1, h2, h3, va_K.moved (u := U) (U := U.calling g mk a) (Vm.Alike.refl U.vm) h4, am_Xt.blind (s := U) (U := U.calling g mk a) h5 rfl rfl, h6⟩
theorem am_met {j : Nat} {As : am_V} {Q1 : am_Q} {sh1 : List am_E} (hj : j < 210) (hen : (am_ent As).length ≤ am_mx j) (k : am_SW l D G B sp fz Lx xs Q1 sh1 j 0 (am_en j As) [] sh M N) :
    Met l (am_y j) (am_wl j) { frames := am_fr j, cells := sh1.length - sh.length, slots := am_sz sh1 - am_sz sh, locals := am_lo j } (va_Pc (As.map (am_cv B sp fz)) (am_Pre D G B sp fz Lx xs sh M N)) (am_Qc D G B sp fz Q1 sh1) (sh1.length - sh.length) (am_sz sh1 - am_sz sh) (am_A B) := by
  refine va_MetF (cc := am_c j) (maxL := am_mx j) (ret := am_rt j) (am_pln_at (by omega)) rfl ?_
  intro p e s m args below meth c s₁ Bd hml hv
  obtain ⟨rfl, hP, hD, hsz, hK, hX, hB⟩ := hv
  have hts := atoms_spec (ws := am_wl j) Bd.pre
  have hown : s.vm.findClass (am_cn (am_ow j)) = some m.cls := by
    rw [← am_own_at (j := j) (by omega)]
    exact findClass_of_methodNamed Bd.named
  rw [lg_entry_eq]
  obtain ⟨k1, k2, k3⟩ := k
  refine k3 p e _ s m _ below meth c s.heap [] _ 0 0 ⟨Bd.exec, Bd.bytes, hml, hown, fun w hw => hts w (List.mem_cons_of_mem _ hw), Bd.returns, Bd.notSynchronized, fun h9 => (name_of_methodNamed Bd.named Bd.method).1.trans h9, hK, hX, hB, Nat.le_refl _, Nat.le_refl _⟩ ⟨?_, ?_, hP, hD, va_S.rf, by omega, am_lv.entry (am_cv_cat hX.1) hen, am_en_len hen⟩
  · show 0 + sh1.length ≤ sh1.length - sh.length + sh.length
    omega
  · show 0 + am_sz sh1 ≤ am_sz sh1 - am_sz sh + am_sz sh
    omega
section AMW
variable {p : Program} {e : Env} {R : Room} {s : State} {m : MethodId} {args : Array Value} {below : List Frame} {meth : Method} {c : Code} {H : Heap} {locs : List Loc} {cells slots mc ms : Nat} {Qm : State → Prop} {ls : Array Slot} {st0 rest : List Value} {g : JFrame}
theorem am_size (k : H.size ≤ s.heap.size + cells → W p l e R s m args below meth c H locs cells slots Qm g) : W p l e R s m args below meth c H locs cells slots Qm g := fun T hT X => k (by rw [← hT]; exact X.same.2.2.1) T hT X
theorem am_callW {Qa : State → Outcome → State → Prop} {free : Addr → Prop} (hr : va_Run p l e R s m args below meth c H locs cells slots mc ms (F0 m pc ls st0) rest Qa free)
    (kk : ∀ (v : Option Value) (st₀ t : State) (L2 : List Loc), st₀.heap = H → Qa st₀ (.returned v) t → s.vm.Alike t.vm → (∀ q ∈ L2, free q.base) → W p l e R s m args below meth c t.heap (locs ++ L2) (cells + mc) (slots + ms) Qm (F0 m (pc + 3) ls (v.toList ++ rest))) : W p l e R s m args below meth c H locs cells slots Qm (F0 m pc ls st0) := by
  intro T hT X
  obtain ⟨v, st₀, t, T', L2, h0, X', hL, e1, e2, hq, st⟩ := hr T hT X
  obtain ⟨t2, a1, b1⟩ := kk v st₀ t L2 h0 hq (by rw [← e2]; exact X'.warmed.alike) hL T' e1 X'
  exact ⟨t2, st t2 a1, b1⟩
end AMW
theorem am_after {Q1 : am_Q} {sh1 : List am_E} {S0 : am_V} {Av : Array Value} (hle : sh.length ≤ sh1.length) (hlz : am_sz sh ≤ am_sz sh1) (k2 : ∀ (r : Option Value) (M1 : am_M) (N1 : am_N), Q1 r M1 N1 → am_SW l D G B sp fz Lx xs Q shE i (pc + 3) L (r.toList ++ S0) sh1 M1 N1)
    {p : Program} {e : Env} {R : Room} {s : State} {m : MethodId} {args : Array Value} {below : List Frame} {meth : Method} {c : Code} {H : Heap} {locs : List Loc} {ls : Array Slot} {cells slots : Nat} {st0 : List Value} (C : am_Cx D G B sp fz Lx xs i p R s m args meth c) (St : am_St D G B sp fz shE i R s H locs ls cells slots L sh M N)
    (hr : va_Run p l e R s m args below meth c H locs cells slots (sh1.length - sh.length) (am_sz sh1 - am_sz sh) (F0 m pc ls st0) (S0.map (am_cv B sp fz)) (am_Qc D G B sp fz Q1 sh1 Av) (am_A B)) :
    W p l e R s m args below meth c H locs cells slots (MQ below (am_Qc D G B sp fz Q shE) args s R.cells R.slots (am_A B)) (F0 m pc ls st0) := by
  obtain ⟨a1, a2, a3, a4, a5, a6, a7, a8⟩ := St
  refine am_callW hr (fun v st₀ t L2 h0 hq hvm hL => ?_)
  obtain ⟨⟨r, M1, N1, hrv, hq1, hP1, hD1⟩, hF⟩ := hq
  cases hrv
  have e9 : (r.map (am_cv B sp fz)).toList ++ S0.map (am_cv B sp fz) = (r.toList ++ S0).map (am_cv B sp fz) := by cases r <;> rfl
  rw [e9]
  have hS1 : va_S (am_A B) s.heap t.heap (locs ++ L2) := by
    refine ⟨Nat.le_trans a5.1 (by rw [← h0]; exact hF.1), fun q h1 h2 => ?_, fun q hq => ?_⟩
    · rw [hF.2 q (by rw [h0]; exact Nat.lt_of_lt_of_le h1 a5.1) h2, h0]
      exact a5.2.1 q h1 h2
    · rcases List.mem_append.mp hq with h | h
      · exact a5.2.2 q h
      · exact hL q h
  exact (k2 r M1 N1 hq1).2.2 p e R s m args below meth c t.heap (locs ++ L2) ls (cells + (sh1.length - sh.length)) (slots + (am_sz sh1 - am_sz sh)) C ⟨by omega, by omega, hP1, hD1, hS1, by omega, a7, a8⟩
theorem am_cat_map (hf : fz.category = 1) (S0 : am_V) : ((S0.map (am_cv B sp fz)).map fun v => v.category).sum = (S0.map fun v => v.category).sum := by
  rw [List.map_map]
  congr 1
  apply List.map_congr_left
  intro v _
  exact am_cv_cat hf v
theorem am_pre_of {p : Program} {R : Room} {s : State} {m : MethodId} {args : Array Value} {meth : Method} {c : Code} {H : Heap} {locs : List Loc} {ls : Array Slot} {cells slots : Nat} {Av : List Value} (C : am_Cx D G B sp fz Lx xs i p R s m args meth c) (St : am_St D G B sp fz shE i R s H locs ls cells slots L sh M N) (hsz : H.size ≤ s.heap.size + cells) : ∀ U : State, U.heap = H → s.WarmedH U.vm → va_Pc Av (am_Pre D G B sp fz Lx xs sh M N) Av.toArray U := by
  intro U hU hW
  obtain ⟨a1, a2, a3, a4, a5, a6, a7, a8⟩ := St
  obtain ⟨hx, hb, hml, hown, hts, hr, hlk, hnm, hK, hX, hB, hfr, hlo⟩ := C
  exact ⟨rfl, by rw [hU]; exact a3, a4, by rw [hU]; omega, va_K.moved hW.alike hK, am_Xt.pass hX hB a5 hU hW, by rw [hU]; exact Nat.le_trans hB a5.1⟩
/-- what the words and the room must be for a call of method j, with arguments As above S0 -/
def am_cok (i j : Nat) (As S0 : am_V) : Prop := As.length = am_na j + (if am_sta.contains j then 0 else 1) ∧ (am_ent As).length ≤ am_mx j ∧ am_fr j + 1 ≤ am_fr i ∧ 8 + (am_mx j + 11) + am_lo j ≤ am_lo i ∧ (S0.map fun v => v.category).sum ≤ 8 ∧ am_ini.contains (am_ow j) = true
theorem sw_callS {j idx : Nat} {As S0 : am_V} {Q1 : am_Q} {sh1 : List am_E} (hin : am_in i pc = some (.invokestatic idx, 3)) (hc : am_cl i idx = some (j, false)) (hst : am_sta.contains j = true) (hS : S = As.reverse ++ S0) (hok : am_cok i j As S0) (hE : sh1.length ≤ shE.length ∧ am_sz sh1 ≤ am_sz shE) (k1 : am_SW l D G B sp fz Lx xs Q1 sh1 j 0 (am_en j As) [] sh M N) (k2 : ∀ (r : Option Value) (M1 : am_M) (N1 : am_N), Q1 r M1 N1 → am_SW l D G B sp fz Lx xs Q shE i (pc + 3) L (r.toList ++ S0) sh1 M1 N1) : am_SW l D G B sp fz Lx xs Q shE i pc L S sh M N := by
  refine ⟨Nat.le_trans k1.1 hE.1, Nat.le_trans k1.2.1 hE.2, fun p e R s m args below meth c H locs ls cells slots C St => am_size fun hsz => ?_⟩
  have hj : j < 210 := am_cl_lt hc
  obtain ⟨o1, o2, o3, o4, o5, o6⟩ := hok
  rw [if_pos hst] at o1
  have hpre := am_pre_of (Av := As.map (am_cv B sp fz)) C St hsz
  have hC := id C
  obtain ⟨hx, hb, hml, hown, hts, hr, hlk, hnm, hK, hX, hB, hfr, hlo⟩ := C
  have a7 := St.2.2.2.2.2.2.1
  have a8 := St.2.2.2.2.2.2.2
  have a1 := St.1
  have a2 := St.2.1
  have hls : c.maxLocals = ls.size := by rw [hml, a7.2.1, a8]
  have hini : (Cond.initialized (am_y j).cls).before args s = true := by rw [am_own_at (j := j) (by omega)]; exact hts _ (am_ini_ok o6)
  refine am_after k1.1 k1.2.1 k2 hC St (va_runS (y := am_y j) (n := am_na j) (As := As.map (am_cv B sp fz)) ⟨hx, hb, hls, hown, hts⟩ (am_met hj o2 k1) ⟨callB_of (am_na j) hts (am_good hj) rfl rfl rfl hini (hts _ (am_cl_ok hc)) ⟨(am_mh_at (by omega)).1, (am_mh_at (by omega)).2, am_par_at (by omega)⟩ ⟨Nat.le_trans o3 hfr, Nat.le_trans o4 hlo⟩, hts _ (am_sta_ok hst)⟩ ⟨am_Pre.blind, hpre⟩ rfl ?_ rfl ?_ (lv_room ?_) (am_in_dec hin) ⟨?_, ?_⟩)
  · rw [List.length_map]; omega
  · show S.map _ = _
    rw [hS, List.map_append, List.map_reverse]
  · rw [am_cat_map hX.1]; exact o5
  · have := k1.1; omega
  · have := k1.2.1; omega
theorem sw_callSN {j idx : Nat} {As S0 : am_V} {Q1 : am_Q} {sh1 : List am_E} (hi : am_ow i < 19) (hin : am_in i pc = some (.invokestatic idx, 3)) (hc : am_cl i idx = some (j, true)) (hst : am_sta.contains j = true) (hS : S = As.reverse ++ S0) (hok : am_cok i j As S0) (hE : sh1.length ≤ shE.length ∧ am_sz sh1 ≤ am_sz shE) (k1 : am_SW l D G B sp fz Lx xs Q1 sh1 j 0 (am_en j As) [] sh M N) (k2 : ∀ (r : Option Value) (M1 : am_M) (N1 : am_N), Q1 r M1 N1 → am_SW l D G B sp fz Lx xs Q shE i (pc + 3) L (r.toList ++ S0) sh1 M1 N1) : am_SW l D G B sp fz Lx xs Q shE i pc L S sh M N := by
  refine ⟨Nat.le_trans k1.1 hE.1, Nat.le_trans k1.2.1 hE.2, fun p e R s m args below meth c H locs ls cells slots C St => am_size fun hsz => ?_⟩
  have hj : j < 210 := am_cl_lt hc
  obtain ⟨o1, o2, o3, o4, o5, o6⟩ := hok
  rw [if_pos hst] at o1
  have hpre := am_pre_of (Av := As.map (am_cv B sp fz)) C St hsz
  have hC := id C
  obtain ⟨hx, hb, hml, hown, hts, hr, hlk, hnm, hK, hX, hB, hfr, hlo⟩ := C
  have a7 := St.2.2.2.2.2.2.1
  have a8 := St.2.2.2.2.2.2.2
  have a1 := St.1
  have a2 := St.2.1
  have hls : c.maxLocals = ls.size := by rw [hml, a7.2.1, a8]
  have hini : (Cond.initialized (am_y j).cls).before args s = true := by rw [am_own_at (j := j) (by omega)]; exact hts _ (am_ini_ok o6)
  have hnl := hX.2.2.2.2.2.2.2.2 _ (am_cl_nest hi hc)
  refine am_after k1.1 k1.2.1 k2 hC St (va_runSN (y := am_y j) (n := am_na j) (host := "DriftCards") (As := As.map (am_cv B sp fz)) ⟨hx, hb, hls, hown, hts⟩ (am_met hj o2 k1) ⟨va_cnB (am_na j) hts (am_good hj) rfl rfl rfl hnl hini ⟨(am_mh_at (by omega)).1, (am_mh_at (by omega)).2, am_par_at (by omega)⟩ ⟨Nat.le_trans o3 hfr, Nat.le_trans o4 hlo⟩, hts _ (am_sta_ok hst), trivial⟩ ⟨am_Pre.blind, hpre⟩ rfl ?_ rfl ?_ (lv_room ?_) (am_in_dec hin) ⟨?_, ?_⟩)
  · rw [List.length_map]; omega
  · show S.map _ = _
    rw [hS, List.map_append, List.map_reverse]
  · rw [am_cat_map hX.1]; exact o5
  · have := k1.1; omega
  · have := k1.2.1; omega
/-- a call on an object of the world -/
theorem sw_callV {j idx b : Nat} {As S0 : am_V} {rs : List (Option Nat)} {Q1 : am_Q} {sh1 : List am_E} (hin : am_in i pc = some (.invokevirtual idx, 3)) (hc : am_cl i idx = some (j, false)) (hst : am_sta.contains j = false) (hin2 : am_ins.contains j = true) (hsel : am_sel.contains j = true) (hS : S = As.reverse ++ .ref b :: S0) (hb0 : sh[b]? = some (.inr (am_ow j, rs))) (how : am_ow j < 12) (hok : am_cok i j (.ref b :: As) S0) (hE : sh1.length ≤ shE.length ∧ am_sz sh1 ≤ am_sz shE) (k1 : am_SW l D G B sp fz Lx xs Q1 sh1 j 0 (am_en j (.ref b :: As)) [] sh M N) (k2 : ∀ (r : Option Value) (M1 : am_M) (N1 : am_N), Q1 r M1 N1 → am_SW l D G B sp fz Lx xs Q shE i (pc + 3) L (r.toList ++ S0) sh1 M1 N1) : am_SW l D G B sp fz Lx xs Q shE i pc L S sh M N := by
  refine ⟨Nat.le_trans k1.1 hE.1, Nat.le_trans k1.2.1 hE.2, fun p e R s m args below meth c H locs ls cells slots C St => am_size fun hsz => ?_⟩
  have hj : j < 210 := am_cl_lt hc
  obtain ⟨o1, o2, o3, o4, o5, o6⟩ := hok
  rw [hst] at o1
  have hpre := am_pre_of (Av := (.ref b :: As : am_V).map (am_cv B sp fz)) C St hsz
  have hC := id C
  obtain ⟨hx, hb, hml, hown, hts, hr, hlk, hnm, hK, hX, hB, hfr, hlo⟩ := C
  have a3 := St.2.2.1
  have a7 := St.2.2.2.2.2.2.1
  have a8 := St.2.2.2.2.2.2.2
  have a1 := St.1
  have a2 := St.2.1
  have hls : c.maxLocals = ls.size := by rw [hml, a7.2.1, a8]
  have hini : (Cond.initialized (am_y j).cls).before args s = true := by rw [am_own_at (j := j) (by omega)]; exact hts _ (am_ini_ok o6)
  have hrec := va_recv hK a3 (am_vw _ how) (am_ws_get (G := G) (B := B) (sp := sp) (M := M) (N := N) hb0)
  refine am_after k1.1 k1.2.1 k2 hC St (va_runV (y := am_y j) (C := (am_y j).cls) (n := am_na j) (b := am_ad B sp b) (As := As.map (am_cv B sp fz)) ⟨hx, hb, hls, hown, hts⟩ (am_met hj o2 k1) ⟨callB_of (am_na j) hts (am_good hj) rfl rfl rfl hini (hts _ (am_cl_ok hc)) ⟨(am_mh_at (by omega)).1, (am_mh_at (by omega)).2, am_par_at (by omega)⟩ ⟨Nat.le_trans o3 hfr, Nat.le_trans o4 hlo⟩, hts _ (am_ins_ok hin2), hts _ (am_sel_ok hsel)⟩ ⟨am_Pre.blind, by rw [am_own_at (j := j) (by omega)]; exact hrec, hpre⟩ rfl ?_ rfl ?_ (lv_room ?_) (am_in_dec hin) ⟨?_, ?_⟩)
  · rw [List.length_map]
    simp only [List.length_cons, Bool.false_eq_true, if_false] at o1
    omega
  · show S.map _ = _
    rw [hS, List.map_append, List.map_reverse]
    rfl
  · rw [am_cat_map hX.1]; exact o5
  · have := k1.1; omega
  · have := k1.2.1; omega
/-- constructors -/
theorem sw_callI {j idx b : Nat} {As S0 : am_V} {Q1 : am_Q} {sh1 : List am_E} (hin : am_in i pc = some (.invokespecial idx, 3)) (hc : am_cl i idx = some (j, false)) (hst : am_sta.contains j = false) (hin2 : am_ins.contains j = true) (hnm0 : (am_y j).name = "<init>") (hrt : am_rt j = none) (hS : S = As.reverse ++ .ref b :: S0) (hok : am_cok i j (.ref b :: As) S0) (hE : sh1.length ≤ shE.length ∧ am_sz sh1 ≤ am_sz shE) (k1 : am_SW l D G B sp fz Lx xs Q1 sh1 j 0 (am_en j (.ref b :: As)) [] sh M N) (k2 : ∀ (r : Option Value) (M1 : am_M) (N1 : am_N), Q1 r M1 N1 → am_SW l D G B sp fz Lx xs Q shE i (pc + 3) L (r.toList ++ S0) sh1 M1 N1) : am_SW l D G B sp fz Lx xs Q shE i pc L S sh M N := by
  refine ⟨Nat.le_trans k1.1 hE.1, Nat.le_trans k1.2.1 hE.2, fun p e R s m args below meth c H locs ls cells slots C St => am_size fun hsz => ?_⟩
  have hj : j < 210 := am_cl_lt hc
  obtain ⟨o1, o2, o3, o4, o5, o6⟩ := hok
  rw [hst] at o1
  have hpre := am_pre_of (Av := (.ref b :: As : am_V).map (am_cv B sp fz)) C St hsz
  have hC := id C
  obtain ⟨hx, hb, hml, hown, hts, hr, hlk, hnm, hK, hX, hB, hfr, hlo⟩ := C
  have a7 := St.2.2.2.2.2.2.1
  have a8 := St.2.2.2.2.2.2.2
  have a1 := St.1
  have a2 := St.2.1
  have hls : c.maxLocals = ls.size := by rw [hml, a7.2.1, a8]
  have hini : (Cond.initialized (am_y j).cls).before args s = true := by rw [am_own_at (j := j) (by omega)]; exact hts _ (am_ini_ok o6)
  have hw : am_wl j = Cond.code (am_y j) (am_c j) (am_mx j) none :: am_tbl := by unfold am_wl; rw [hrt]
  refine am_after k1.1 k1.2.1 k2 hC St (va_runI (y := am_y j) (n := am_na j) (b := am_ad B sp b) (As := As.map (am_cv B sp fz)) ⟨hx, hb, hls, hown, hts⟩ (am_met hj o2 k1) ⟨callB_of (am_na j) hts (am_good hj) hw rfl rfl hini (hts _ (am_cl_ok hc)) ⟨(am_mh_at (by omega)).1, (am_mh_at (by omega)).2, am_par_at (by omega)⟩ ⟨Nat.le_trans o3 hfr, Nat.le_trans o4 hlo⟩, hnm0, hts _ (am_ins_ok hin2)⟩ ⟨am_Pre.blind, hpre⟩ rfl ?_ rfl ?_ (lv_room ?_) (am_in_dec hin) ⟨?_, ?_⟩)
  · rw [List.length_map]
    simp only [List.length_cons, Bool.false_eq_true, if_false] at o1
    omega
  · show S.map _ = _
    rw [hS, List.map_append, List.map_reverse]
    rfl
  · rw [am_cat_map hX.1]; exact o5
  · have := k1.1; omega
  · have := k1.2.1; omega
theorem sw_callIN {j idx b : Nat} {As S0 : am_V} {Q1 : am_Q} {sh1 : List am_E} (hi : am_ow i < 19) (hin : am_in i pc = some (.invokespecial idx, 3)) (hc : am_cl i idx = some (j, true)) (hst : am_sta.contains j = false) (hin2 : am_ins.contains j = true) (hnm0 : (am_y j).name = "<init>") (hrt : am_rt j = none) (hS : S = As.reverse ++ .ref b :: S0) (hok : am_cok i j (.ref b :: As) S0) (hE : sh1.length ≤ shE.length ∧ am_sz sh1 ≤ am_sz shE) (k1 : am_SW l D G B sp fz Lx xs Q1 sh1 j 0 (am_en j (.ref b :: As)) [] sh M N) (k2 : ∀ (r : Option Value) (M1 : am_M) (N1 : am_N), Q1 r M1 N1 → am_SW l D G B sp fz Lx xs Q shE i (pc + 3) L (r.toList ++ S0) sh1 M1 N1) : am_SW l D G B sp fz Lx xs Q shE i pc L S sh M N := by
  refine ⟨Nat.le_trans k1.1 hE.1, Nat.le_trans k1.2.1 hE.2, fun p e R s m args below meth c H locs ls cells slots C St => am_size fun hsz => ?_⟩
  have hj : j < 210 := am_cl_lt hc
  obtain ⟨o1, o2, o3, o4, o5, o6⟩ := hok
  rw [hst] at o1
  have hpre := am_pre_of (Av := (.ref b :: As : am_V).map (am_cv B sp fz)) C St hsz
  have hC := id C
  obtain ⟨hx, hb, hml, hown, hts, hr, hlk, hnm, hK, hX, hB, hfr, hlo⟩ := C
  have a7 := St.2.2.2.2.2.2.1
  have a8 := St.2.2.2.2.2.2.2
  have a1 := St.1
  have a2 := St.2.1
  have hls : c.maxLocals = ls.size := by rw [hml, a7.2.1, a8]
  have hini : (Cond.initialized (am_y j).cls).before args s = true := by rw [am_own_at (j := j) (by omega)]; exact hts _ (am_ini_ok o6)
  have hw : am_wl j = Cond.code (am_y j) (am_c j) (am_mx j) none :: am_tbl := by unfold am_wl; rw [hrt]
  have hnl := hX.2.2.2.2.2.2.2.2 _ (am_cl_nest hi hc)
  refine am_after k1.1 k1.2.1 k2 hC St (va_runIN (y := am_y j) (n := am_na j) (host := "DriftCards") (b := am_ad B sp b) (As := As.map (am_cv B sp fz)) ⟨hx, hb, hls, hown, hts⟩ (am_met hj o2 k1) ⟨va_cnB (am_na j) hts (am_good hj) hw rfl rfl hnl hini ⟨(am_mh_at (by omega)).1, (am_mh_at (by omega)).2, am_par_at (by omega)⟩ ⟨Nat.le_trans o3 hfr, Nat.le_trans o4 hlo⟩, hnm0, hts _ (am_ins_ok hin2)⟩ ⟨am_Pre.blind, hpre⟩ rfl ?_ rfl ?_ (lv_room ?_) (am_in_dec hin) ⟨?_, ?_⟩)
  · rw [List.length_map]
    simp only [List.length_cons, Bool.false_eq_true, if_false] at o1
    omega
  · show S.map _ = _
    rw [hS, List.map_append, List.map_reverse]
    rfl
  · rw [am_cat_map hX.1]; exact o5
  · have := k1.1; omega
  · have := k1.2.1; omega
/-- Object() -/
theorem sw_oi {b idx : Nat} (hin : am_in i pc = some (.invokespecial idx, 3)) (hc : am_oi i idx = true) (hfr1 : 1 ≤ am_fr i) (hlo1 : (S.map fun v => v.category).sum + 12 ≤ am_lo i) (kk : am_SW l D G B sp fz Lx xs Q shE i (pc + 3) L S sh M N) : am_SW l D G B sp fz Lx xs Q shE i pc L (.ref b :: S) sh M N := by
  refine ⟨kk.1, kk.2.1, fun p e R s m args below meth c H locs ls cells slots C St => ?_⟩
  have hC := id C
  obtain ⟨hx, hb, hml, hown, hts, hr, hlk, hnm, hK, hX, hB, hfr, hlo⟩ := C
  have a7 := St.2.2.2.2.2.2.1
  have a8 := St.2.2.2.2.2.2.2
  exact W.objInit hx hb hown (hts _ (am_tbl_in (am_kos (am_ow i) idx (by simpa [am_oi] using hc)) rfl)) (hts _ (am_tbl_in am_s1 rfl)) (hts _ (am_tbl_in am_s2 rfl)) rfl (by show ls.size = _; rw [hml, a7.2.1, a8]) rfl (am_in_dec hin) (Nat.le_trans hfr1 hfr) (by show 2 * 0 + _ + 12 ≤ _; rw [am_cat_map hX.1]; omega) (kk.2.2 p e R s m args below meth c H locs ls cells slots hC St)
end AMC
