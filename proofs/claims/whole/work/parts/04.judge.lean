/-! ===== the world that the cells are; what holds in a method's frame; the machine's judgement SW ===== -/
def am_fv (B : Nat) (sp : Nat → Nat) (M : am_M) (N : am_N) (k : Nat) (t : FieldType) (j : Nat) (r : Option Nat) : Value := match t with
  | .int => .int (M k j)
  | .long => .long (N k j)
  | _ => va_rf (r.map (am_ad B sp))
def am_fs (B : Nat) (sp : Nat → Nat) (M : am_M) (N : am_N) (k ci : Nat) (rs : List (Option Nat)) : List Value := (List.range (am_nf ci)).map fun j => am_fv B sp M N k (am_tf ci j) j (rs.getD j none)
abbrev am_G : Type := ClassId × ClassId × ClassId
def am_ce (G : am_G) (B : Nat) (sp : Nat → Nat) (M : am_M) (N : am_N) (k : Nat) (e : am_E) : va_E := match e with
  | .inl (0, n) => .inl (G.1, n, .inl (M k))
  | .inl (1, n) => .inl (G.2.1, n, .inl (M k))
  | .inl (_, n) => .inl (G.2.2, n, .inr (.inr (.inr (.inr (fun j => some (am_ad B sp (k + 1 + j)))))))
  | .inr (ci, rs) => .inr (ci, am_fs B sp M N k ci rs)
def am_ws (G : am_G) (B : Nat) (sp : Nat → Nat) (sh : List am_E) (M : am_M) (N : am_N) : va_W := sh.mapIdx fun k e => (am_ad B sp k, am_ce G B sp M N k e)
theorem am_ws_get {G : am_G} {B : Nat} {sp : Nat → Nat} {sh : List am_E} {M : am_M} {N : am_N} {k : Nat} {e : am_E} (h : sh[k]? = some e) : (am_ws G B sp sh M N)[k]? = some (am_ad B sp k, am_ce G B sp M N k e) := by
  simp [am_ws, h]
theorem am_ce_eq {G : am_G} {B : Nat} {sp : Nat → Nat} {M M' : am_M} {N N' : am_N} {k : Nat} (h1 : M' k = M k) (h2 : N' k = N k) (e : am_E) : am_ce G B sp M' N' k e = am_ce G B sp M N k e := by
  match e with
  | .inl (0, n) => simp only [am_ce, h1]
  | .inl (1, n) => simp only [am_ce, h1]
  | .inl (t + 2, n) => rfl
  | .inr (ci, rs) => simp only [am_ce, am_fs, am_fv, h1, h2]
theorem am_ws_put {G : am_G} {B : Nat} {sp : Nat → Nat} {sh : List am_E} {M M' : am_M} {N N' : am_N} {k : Nat} {e : am_E} (h : sh[k]? = some e) (hM : ∀ a, a ≠ k → M' a = M a) (hN : ∀ a, a ≠ k → N' a = N a) (e' : am_E) : (am_ws G B sp sh M N).set k (am_ad B sp k, am_ce G B sp M' N' k e') = am_ws G B sp (sh.set k e') M' N' := by
  have hl : k < sh.length := (List.getElem?_eq_some_iff.mp h).1
  apply List.ext_getElem?
  intro j
  by_cases hj : j = k
  · subst hj
    rw [List.getElem?_set_self (by simp [am_ws, hl])]
    exact (am_ws_get (by rw [List.getElem?_set_self hl])).symm
  · rw [List.getElem?_set_ne (fun q => hj q.symm)]
    simp only [am_ws, List.getElem?_mapIdx]
    rw [List.getElem?_set_ne (fun q => hj q.symm)]
    cases sh[j]? with
    | none => rfl
    | some x => simp only [Option.map_some]; rw [am_ce_eq (hM j hj) (hN j hj)]
theorem am_ws_set {G : am_G} {B : Nat} {sp : Nat → Nat} {sh : List am_E} {M M' : am_M} {N N' : am_N} {k : Nat} {e : am_E} (h : sh[k]? = some e) (hM : ∀ a, a ≠ k → M' a = M a) (hN : ∀ a, a ≠ k → N' a = N a) : (am_ws G B sp sh M N).set k (am_ad B sp k, am_ce G B sp M' N' k e) = am_ws G B sp sh M' N' := by
  have h2 : sh.set k e = sh := by
    apply List.ext_getElem?
    intro j
    by_cases hj : j = k
    · subst hj
      rw [List.getElem?_set_self (List.getElem?_eq_some_iff.mp h).1, h]
    · rw [List.getElem?_set_ne (fun q => hj q.symm)]
  have := am_ws_put (G := G) (B := B) (sp := sp) h hM hN e
  rw [h2] at this
  exact this
theorem am_ws_push {G : am_G} {B : Nat} {sp : Nat → Nat} {sh : List am_E} {M M' : am_M} {N N' : am_N} (hM : ∀ a, a ≠ sh.length → M' a = M a) (hN : ∀ a, a ≠ sh.length → N' a = N a) (e : am_E) : am_ws G B sp (sh ++ [e]) M' N' = am_ws G B sp sh M N ++ [(am_ad B sp sh.length, am_ce G B sp M' N' sh.length e)] := by
  apply List.ext_getElem?
  intro j
  have hlen : (am_ws G B sp sh M N).length = sh.length := by simp [am_ws]
  by_cases hj : j < sh.length
  · rw [List.getElem?_append_left (by omega)]
    simp only [am_ws, List.getElem?_mapIdx]
    rw [List.getElem?_append_left hj]
    cases sh[j]? with
    | none => rfl
    | some x => simp only [Option.map_some]; rw [am_ce_eq (hM j (by omega)) (hN j (by omega))]
  · rw [List.getElem?_append_right (by omega), hlen]
    simp only [am_ws, List.getElem?_mapIdx]
    rw [List.getElem?_append_right (by omega)]
    by_cases h0 : j = sh.length
    · subst h0
      simp
    · have : 1 ≤ j - sh.length := by omega
      rw [List.getElem?_eq_none (by simpa using this), List.getElem?_eq_none (by simpa using this)]
      rfl
def am_A (B : Nat) : Nat → Prop := fun q => B ≤ q
def am_sz (sh : List am_E) : Nat := (sh.map fun e => match e with
  | .inl (_, n) => n
  | .inr (ci, _) => am_nf ci).sum
def am_tys (G : am_G) : List (ClassId × FieldType) := [(G.1, .int), (G.2.1, .boolean), (G.2.2, .array .int)]
def am_mom : List Int32 := [2, 2, 16, 16, 4095]
/-- what lies outside: the script, a static row, two statics, the texts, the links between nest mates -/
def am_Xt (B : Nat) (sp : Nat → Nat) (fz : Value) (Lx : Nat) (xs : Nat → Int32) (s : State) (H : Heap) : Prop :=
  fz.category = 1 ∧ (va_X (sp 1000000) Lx xs s H ∧ sp 1000000 < B) ∧ (va_Z "DriftCards" "MOST_OF_MARK" "[I" (.ref (sp 1000001)) (am_A B) s H ∧ va_T .int (sp 1000001) 5 (fun j => .int (am_mom.getD j 0)) (am_A B) s H) ∧
  va_Z "java/lang/String" "COMPACT_STRINGS" "Z" (.int 1) (am_A B) s H ∧ va_Z "jdk/internal/util/Preconditions" "SIOOBE_FORMATTER" "Ljava/util/function/BiFunction;" fz (am_A B) s H ∧
  vk_S 7 am_slen am_sbyt (fun j => sp (1000010 + j)) (fun j => sp (1000100 + j)) (am_A B) s H ∧ (∀ j, j < 7 → vk_R "DriftCards$Prizes" (am_sks.getD j 0) (am_sts.getD j "") (sp (1000010 + j)) s) ∧
  (∃ (comp cA : ClassId) (kA : Class), s.vm.findClass (FieldType.array .int).toString = some comp ∧ s.vm.classes[cA]? = some kA ∧ kA.kind = .array comp (.array .int) ∧ s.vm.findClass ("[" ++ (FieldType.array .int).toString) = some cA) ∧
  ∀ q ∈ am_nlk, va_Nw (.methodLinkNest (am_cn q.1) q.2.1 (am_y q.2.2) "DriftCards") s
theorem am_over_moved {s U : State} (hvm : s.vm.Alike U.vm) (h : ∃ (comp cA : ClassId) (kA : Class), s.vm.findClass (FieldType.array .int).toString = some comp ∧ s.vm.classes[cA]? = some kA ∧ kA.kind = .array comp (.array .int) ∧ s.vm.findClass ("[" ++ (FieldType.array .int).toString) = some cA) : ∃ (comp cA : ClassId) (kA : Class), U.vm.findClass (FieldType.array .int).toString = some comp ∧ U.vm.classes[cA]? = some kA ∧ kA.kind = .array comp (.array .int) ∧ U.vm.findClass ("[" ++ (FieldType.array .int).toString) = some cA := by
  obtain ⟨comp, cA, kA, h1, h2, h3, h4⟩ := h
  obtain ⟨k', hk', he⟩ := hvm.2.2 _ _ h2
  exact ⟨comp, cA, k', by rw [hvm.findClass]; exact h1, hk', by rw [he]; exact h3, by rw [hvm.findClass]; exact h4⟩
theorem am_Xt.pass {B : Nat} {sp : Nat → Nat} {fz : Value} {Lx : Nat} {xs : Nat → Int32} {s U : State} {H : Heap} {locs : List Loc} (h : am_Xt B sp fz Lx xs s s.heap) (hB : B ≤ s.heap.size) (hS : va_S (am_A B) s.heap H locs) (hU : U.heap = H) (hW : s.WarmedH U.vm) : am_Xt B sp fz Lx xs U U.heap := by
  obtain ⟨h0, ⟨h1, h1b⟩, ⟨h2, h3⟩, h4, h5, h6, h7, h8, h9⟩ := h
  have hal := hW.alike
  have hk : ∀ a : Nat, a < s.heap.size → ¬ am_A B a → U.heap[a]? = s.heap[a]? := fun a ha hn => by rw [hU]; exact hS.2.1 a ha hn
  exact ⟨h0, ⟨(h1.moved hal).kept (hk _ (by omega) (by show ¬ B ≤ _; omega)), h1b⟩, ⟨(h2.moved hal).kept hk, (h3.moved hal).kept hk⟩, (h4.moved hal).kept hk, (h5.moved hal).kept hk, (h6.moved hal).kept hk, fun j hj => (h7 j hj).warm hW, am_over_moved hal h8, fun q hq => va_Nw.warmM hW (h9 q hq)⟩
theorem am_Xt.blind {B : Nat} {sp : Nat → Nat} {fz : Value} {Lx : Nat} {xs : Nat → Int32} {s U : State} (h : am_Xt B sp fz Lx xs s s.heap) (hU : U.heap = s.heap) (hv : U.vm = s.vm) : am_Xt B sp fz Lx xs U U.heap := by
  obtain ⟨h0, ⟨h1, h1b⟩, ⟨h2, h3⟩, h4, h5, h6, h7, h8, h9⟩ := h
  have hal : s.vm.Alike U.vm := by rw [hv]; exact Vm.Alike.refl s.vm
  have hk : ∀ a : Nat, a < s.heap.size → ¬ am_A B a → U.heap[a]? = s.heap[a]? := fun a ha hn => by rw [hU]
  exact ⟨h0, ⟨(h1.moved hal).kept (by rw [hU]), h1b⟩, ⟨(h2.moved hal).kept hk, (h3.moved hal).kept hk⟩, (h4.moved hal).kept hk, (h5.moved hal).kept hk, (h6.moved hal).kept hk, fun j hj => (h7 j hj).same hv, am_over_moved hal h8, fun q hq => va_Nw.same rfl hv.symm (h9 q hq)⟩
/-- a method's frame: what does not change in it -/
def am_Cx (D : va_G) (G : am_G) (B : Nat) (sp : Nat → Nat) (fz : Value) (Lx : Nat) (xs : Nat → Int32) (i : Nat) (p : Program) (R : Room) (s : State) (m : MethodId) (args : Array Value) (meth : Method) (c : Code) : Prop :=
  p.tables.exec = Jvm.exec ∧ c.code = am_c i ∧ c.maxLocals = am_mx i ∧ s.vm.findClass (am_cn (am_ow i)) = some m.cls ∧ (∀ w ∈ am_tbl, w.before args s = true) ∧ meth.sig.returnType = am_rt i ∧ meth.locks = false ∧ ((am_y i).name = "<init>" → meth.name = "<init>") ∧ va_K D vwCl (am_tys G) s ∧ am_Xt B sp fz Lx xs s s.heap ∧ B ≤ s.heap.size ∧ am_fr i ≤ R.frames ∧ am_lo i ≤ R.locals
def am_St (D : va_G) (G : am_G) (B : Nat) (sp : Nat → Nat) (fz : Value) (shE : List am_E) (i : Nat) (R : Room) (s : State) (H : Heap) (locs : List Loc) (ls : Array Slot) (cells slots : Nat) (L : am_V) (sh : List am_E) (M : am_M) (N : am_N) : Prop :=
  cells + shE.length ≤ R.cells + sh.length ∧ slots + am_sz shE ≤ R.slots + am_sz sh ∧ va_P D vwCl (am_ws G B sp sh M N) H ∧ va_D (am_A B) (am_ws G B sp sh M N) ∧ va_S (am_A B) s.heap H locs ∧ s.heap.size + cells ≤ B + sh.length ∧ am_lv (am_cv B sp fz) ls L ∧ L.length = am_mx i
def am_Qc (D : va_G) (G : am_G) (B : Nat) (sp : Nat → Nat) (fz : Value) (Q : am_Q) (shE : List am_E) : Array Value → State → Outcome → State → Prop := fun _ st oc t =>
  (∃ (r : Option Value) (M : am_M) (N : am_N), oc = .returned (r.map (am_cv B sp fz)) ∧ Q r M N ∧ va_P D vwCl (am_ws G B sp shE M N) t.heap ∧ va_D (am_A B) (am_ws G B sp shE M N)) ∧ va_F (am_A B) st t
/-- the machine, from here on, comes to the method's end with Q, and with the cells' shapes shE -/
def am_SW (l : Launch) (D : va_G) (G : am_G) (B : Nat) (sp : Nat → Nat) (fz : Value) (Lx : Nat) (xs : Nat → Int32) (Q : am_Q) (shE : List am_E) (i pc : Nat) (L S : am_V) (sh : List am_E) (M : am_M) (N : am_N) : Prop :=
  sh.length ≤ shE.length ∧ am_sz sh ≤ am_sz shE ∧
  ∀ (p : Program) (e : Env) (R : Room) (s : State) (m : MethodId) (args : Array Value) (below : List Frame) (meth : Method) (c : Code) (H : Heap) (locs : List Loc) (ls : Array Slot) (cells slots : Nat),
    am_Cx D G B sp fz Lx xs i p R s m args meth c → am_St D G B sp fz shE i R s H locs ls cells slots L sh M N →
    W p l e R s m args below meth c H locs cells slots (MQ below (am_Qc D G B sp fz Q shE) args s R.cells R.slots (am_A B)) (F0 m pc ls (S.map (am_cv B sp fz)))
section AMS
variable {l : Launch} {D : va_G} {G : am_G} {B : Nat} {sp : Nat → Nat} {fz : Value} {Lx : Nat} {xs : Nat → Int32} {Q : am_Q} {shE : List am_E} {i pc : Nat} {L S : am_V} {sh : List am_E} {M : am_M} {N : am_N}
theorem sw_q {ins : Instr} {L' S' : am_V} (hin : am_in i pc = some (ins, am_ln ins)) (h : am_q ins L S = some (L', S')) (k : am_SW l D G B sp fz Lx xs Q shE i (pc + am_ln ins) L' S' sh M N) : am_SW l D G B sp fz Lx xs Q shE i pc L S sh M N := by
  refine ⟨k.1, k.2.1, fun p e R s m args below meth c H locs ls cells slots C St => ?_⟩
  obtain ⟨a1, a2, a3, a4, a5, a6, a7, a8⟩ := St
  exact am_W_all C.2.2.2.2.2.2.2.2.2.1.1 C.1 C.2.1 (am_in_dec hin) h a7 (fun ls2 h2 h3 => k.2.2 p e R s m args below meth c H locs ls2 cells slots C ⟨a1, a2, a3, a4, a5, a6, h2, h3.trans a8⟩)
theorem sw_fg (j : Nat) (k : am_SW l D G B sp fz Lx xs Q shE i pc (L.set j (.retAddr 0)) S sh M N) : am_SW l D G B sp fz Lx xs Q shE i pc L S sh M N := by
  refine ⟨k.1, k.2.1, fun p e R s m args below meth c H locs ls cells slots C St => ?_⟩
  obtain ⟨a1, a2, a3, a4, a5, a6, a7, a8⟩ := St
  exact k.2.2 p e R s m args below meth c H locs ls cells slots C ⟨a1, a2, a3, a4, a5, a6, a7.forget j, by rw [List.length_set]; exact a8⟩
theorem sw_if_eq {x : Int32} {off : Int} (tgt : Nat) (hin : am_in i pc = some (.ifCond .eq off, 3)) (ht : (pc : Int) + off = (tgt : Int)) (kt : x = 0 → am_SW l D G B sp fz Lx xs Q shE i tgt L S sh M N) (kf : ¬ x = 0 → am_SW l D G B sp fz Lx xs Q shE i (pc + 3) L S sh M N) : am_SW l D G B sp fz Lx xs Q shE i pc L (.int x :: S) sh M N := by
  by_cases hc : x = 0
  · refine ⟨(kt hc).1, (kt hc).2.1, fun p e R s m args below meth c H locs ls cells slots C St => ?_⟩
    exact lv_if_eq C.1 C.2.1 (am_in_dec hin) ht (fun _ => (kt hc).2.2 p e R s m args below meth c H locs ls cells slots C St) (fun q => absurd hc (by first | exact q | exact fun z => z q))
  · refine ⟨(kf (by first | exact hc | exact Decidable.not_not.mp hc)).1, (kf (by first | exact hc | exact Decidable.not_not.mp hc)).2.1, fun p e R s m args below meth c H locs ls cells slots C St => ?_⟩
    exact lv_if_eq C.1 C.2.1 (am_in_dec hin) ht (fun q => absurd q hc) (fun q => (kf q).2.2 p e R s m args below meth c H locs ls cells slots C St)
theorem sw_icmp_eq {x y : Int32} {off : Int} (tgt : Nat) (hin : am_in i pc = some (.if_icmp .eq off, 3)) (ht : (pc : Int) + off = (tgt : Int)) (kt : x = y → am_SW l D G B sp fz Lx xs Q shE i tgt L S sh M N) (kf : ¬ x = y → am_SW l D G B sp fz Lx xs Q shE i (pc + 3) L S sh M N) : am_SW l D G B sp fz Lx xs Q shE i pc L (.int y :: .int x :: S) sh M N := by
  by_cases hc : x = y
  · refine ⟨(kt hc).1, (kt hc).2.1, fun p e R s m args below meth c H locs ls cells slots C St => ?_⟩
    exact lv_icmp_eq C.1 C.2.1 (am_in_dec hin) ht (fun _ => (kt hc).2.2 p e R s m args below meth c H locs ls cells slots C St) (fun q => absurd hc (by first | exact q | exact fun z => z q))
  · refine ⟨(kf (by first | exact hc | exact Decidable.not_not.mp hc)).1, (kf (by first | exact hc | exact Decidable.not_not.mp hc)).2.1, fun p e R s m args below meth c H locs ls cells slots C St => ?_⟩
    exact lv_icmp_eq C.1 C.2.1 (am_in_dec hin) ht (fun q => absurd q hc) (fun q => (kf q).2.2 p e R s m args below meth c H locs ls cells slots C St)
theorem sw_if_ne {x : Int32} {off : Int} (tgt : Nat) (hin : am_in i pc = some (.ifCond .ne off, 3)) (ht : (pc : Int) + off = (tgt : Int)) (kt : ¬ x = 0 → am_SW l D G B sp fz Lx xs Q shE i tgt L S sh M N) (kf : x = 0 → am_SW l D G B sp fz Lx xs Q shE i (pc + 3) L S sh M N) : am_SW l D G B sp fz Lx xs Q shE i pc L (.int x :: S) sh M N := by
  by_cases hc : ¬ x = 0
  · refine ⟨(kt hc).1, (kt hc).2.1, fun p e R s m args below meth c H locs ls cells slots C St => ?_⟩
    exact lv_if_ne C.1 C.2.1 (am_in_dec hin) ht (fun _ => (kt hc).2.2 p e R s m args below meth c H locs ls cells slots C St) (fun q => absurd hc (by first | exact q | exact fun z => z q))
  · refine ⟨(kf (by first | exact hc | exact Decidable.not_not.mp hc)).1, (kf (by first | exact hc | exact Decidable.not_not.mp hc)).2.1, fun p e R s m args below meth c H locs ls cells slots C St => ?_⟩
    exact lv_if_ne C.1 C.2.1 (am_in_dec hin) ht (fun q => absurd q hc) (fun q => (kf q).2.2 p e R s m args below meth c H locs ls cells slots C St)
theorem sw_icmp_ne {x y : Int32} {off : Int} (tgt : Nat) (hin : am_in i pc = some (.if_icmp .ne off, 3)) (ht : (pc : Int) + off = (tgt : Int)) (kt : ¬ x = y → am_SW l D G B sp fz Lx xs Q shE i tgt L S sh M N) (kf : x = y → am_SW l D G B sp fz Lx xs Q shE i (pc + 3) L S sh M N) : am_SW l D G B sp fz Lx xs Q shE i pc L (.int y :: .int x :: S) sh M N := by
  by_cases hc : ¬ x = y
  · refine ⟨(kt hc).1, (kt hc).2.1, fun p e R s m args below meth c H locs ls cells slots C St => ?_⟩
    exact lv_icmp_ne C.1 C.2.1 (am_in_dec hin) ht (fun _ => (kt hc).2.2 p e R s m args below meth c H locs ls cells slots C St) (fun q => absurd hc (by first | exact q | exact fun z => z q))
  · refine ⟨(kf (by first | exact hc | exact Decidable.not_not.mp hc)).1, (kf (by first | exact hc | exact Decidable.not_not.mp hc)).2.1, fun p e R s m args below meth c H locs ls cells slots C St => ?_⟩
    exact lv_icmp_ne C.1 C.2.1 (am_in_dec hin) ht (fun q => absurd q hc) (fun q => (kf q).2.2 p e R s m args below meth c H locs ls cells slots C St)
theorem sw_if_lt {x : Int32} {off : Int} (tgt : Nat) (hin : am_in i pc = some (.ifCond .lt off, 3)) (ht : (pc : Int) + off = (tgt : Int)) (kt : x < 0 → am_SW l D G B sp fz Lx xs Q shE i tgt L S sh M N) (kf : ¬ x < 0 → am_SW l D G B sp fz Lx xs Q shE i (pc + 3) L S sh M N) : am_SW l D G B sp fz Lx xs Q shE i pc L (.int x :: S) sh M N := by
  by_cases hc : x < 0
  · refine ⟨(kt hc).1, (kt hc).2.1, fun p e R s m args below meth c H locs ls cells slots C St => ?_⟩
    exact lv_if_lt C.1 C.2.1 (am_in_dec hin) ht (fun _ => (kt hc).2.2 p e R s m args below meth c H locs ls cells slots C St) (fun q => absurd hc (by first | exact q | exact fun z => z q))
  · refine ⟨(kf (by first | exact hc | exact Decidable.not_not.mp hc)).1, (kf (by first | exact hc | exact Decidable.not_not.mp hc)).2.1, fun p e R s m args below meth c H locs ls cells slots C St => ?_⟩
    exact lv_if_lt C.1 C.2.1 (am_in_dec hin) ht (fun q => absurd q hc) (fun q => (kf q).2.2 p e R s m args below meth c H locs ls cells slots C St)
theorem sw_icmp_lt {x y : Int32} {off : Int} (tgt : Nat) (hin : am_in i pc = some (.if_icmp .lt off, 3)) (ht : (pc : Int) + off = (tgt : Int)) (kt : x < y → am_SW l D G B sp fz Lx xs Q shE i tgt L S sh M N) (kf : ¬ x < y → am_SW l D G B sp fz Lx xs Q shE i (pc + 3) L S sh M N) : am_SW l D G B sp fz Lx xs Q shE i pc L (.int y :: .int x :: S) sh M N := by
  by_cases hc : x < y
  · refine ⟨(kt hc).1, (kt hc).2.1, fun p e R s m args below meth c H locs ls cells slots C St => ?_⟩
    exact lv_icmp_lt C.1 C.2.1 (am_in_dec hin) ht (fun _ => (kt hc).2.2 p e R s m args below meth c H locs ls cells slots C St) (fun q => absurd hc (by first | exact q | exact fun z => z q))
  · refine ⟨(kf (by first | exact hc | exact Decidable.not_not.mp hc)).1, (kf (by first | exact hc | exact Decidable.not_not.mp hc)).2.1, fun p e R s m args below meth c H locs ls cells slots C St => ?_⟩
    exact lv_icmp_lt C.1 C.2.1 (am_in_dec hin) ht (fun q => absurd q hc) (fun q => (kf q).2.2 p e R s m args below meth c H locs ls cells slots C St)
theorem sw_if_ge {x : Int32} {off : Int} (tgt : Nat) (hin : am_in i pc = some (.ifCond .ge off, 3)) (ht : (pc : Int) + off = (tgt : Int)) (kt : 0 ≤ x → am_SW l D G B sp fz Lx xs Q shE i tgt L S sh M N) (kf : ¬ 0 ≤ x → am_SW l D G B sp fz Lx xs Q shE i (pc + 3) L S sh M N) : am_SW l D G B sp fz Lx xs Q shE i pc L (.int x :: S) sh M N := by
  by_cases hc : 0 ≤ x
  · refine ⟨(kt hc).1, (kt hc).2.1, fun p e R s m args below meth c H locs ls cells slots C St => ?_⟩
    exact lv_if_ge C.1 C.2.1 (am_in_dec hin) ht (fun _ => (kt hc).2.2 p e R s m args below meth c H locs ls cells slots C St) (fun q => absurd hc (by first | exact q | exact fun z => z q))
  · refine ⟨(kf (by first | exact hc | exact Decidable.not_not.mp hc)).1, (kf (by first | exact hc | exact Decidable.not_not.mp hc)).2.1, fun p e R s m args below meth c H locs ls cells slots C St => ?_⟩
    exact lv_if_ge C.1 C.2.1 (am_in_dec hin) ht (fun q => absurd q hc) (fun q => (kf q).2.2 p e R s m args below meth c H locs ls cells slots C St)
theorem sw_icmp_ge {x y : Int32} {off : Int} (tgt : Nat) (hin : am_in i pc = some (.if_icmp .ge off, 3)) (ht : (pc : Int) + off = (tgt : Int)) (kt : y ≤ x → am_SW l D G B sp fz Lx xs Q shE i tgt L S sh M N) (kf : ¬ y ≤ x → am_SW l D G B sp fz Lx xs Q shE i (pc + 3) L S sh M N) : am_SW l D G B sp fz Lx xs Q shE i pc L (.int y :: .int x :: S) sh M N := by
  by_cases hc : y ≤ x
  · refine ⟨(kt hc).1, (kt hc).2.1, fun p e R s m args below meth c H locs ls cells slots C St => ?_⟩
    exact lv_icmp_ge C.1 C.2.1 (am_in_dec hin) ht (fun _ => (kt hc).2.2 p e R s m args below meth c H locs ls cells slots C St) (fun q => absurd hc (by first | exact q | exact fun z => z q))
  · refine ⟨(kf (by first | exact hc | exact Decidable.not_not.mp hc)).1, (kf (by first | exact hc | exact Decidable.not_not.mp hc)).2.1, fun p e R s m args below meth c H locs ls cells slots C St => ?_⟩
    exact lv_icmp_ge C.1 C.2.1 (am_in_dec hin) ht (fun q => absurd q hc) (fun q => (kf q).2.2 p e R s m args below meth c H locs ls cells slots C St)
theorem sw_if_gt {x : Int32} {off : Int} (tgt : Nat) (hin : am_in i pc = some (.ifCond .gt off, 3)) (ht : (pc : Int) + off = (tgt : Int)) (kt : 0 < x → am_SW l D G B sp fz Lx xs Q shE i tgt L S sh M N) (kf : ¬ 0 < x → am_SW l D G B sp fz Lx xs Q shE i (pc + 3) L S sh M N) : am_SW l D G B sp fz Lx xs Q shE i pc L (.int x :: S) sh M N := by
  by_cases hc : 0 < x
  · refine ⟨(kt hc).1, (kt hc).2.1, fun p e R s m args below meth c H locs ls cells slots C St => ?_⟩
    exact lv_if_gt C.1 C.2.1 (am_in_dec hin) ht (fun _ => (kt hc).2.2 p e R s m args below meth c H locs ls cells slots C St) (fun q => absurd hc (by first | exact q | exact fun z => z q))
  · refine ⟨(kf (by first | exact hc | exact Decidable.not_not.mp hc)).1, (kf (by first | exact hc | exact Decidable.not_not.mp hc)).2.1, fun p e R s m args below meth c H locs ls cells slots C St => ?_⟩
    exact lv_if_gt C.1 C.2.1 (am_in_dec hin) ht (fun q => absurd q hc) (fun q => (kf q).2.2 p e R s m args below meth c H locs ls cells slots C St)
theorem sw_icmp_gt {x y : Int32} {off : Int} (tgt : Nat) (hin : am_in i pc = some (.if_icmp .gt off, 3)) (ht : (pc : Int) + off = (tgt : Int)) (kt : y < x → am_SW l D G B sp fz Lx xs Q shE i tgt L S sh M N) (kf : ¬ y < x → am_SW l D G B sp fz Lx xs Q shE i (pc + 3) L S sh M N) : am_SW l D G B sp fz Lx xs Q shE i pc L (.int y :: .int x :: S) sh M N := by
  by_cases hc : y < x
  · refine ⟨(kt hc).1, (kt hc).2.1, fun p e R s m args below meth c H locs ls cells slots C St => ?_⟩
    exact lv_icmp_gt C.1 C.2.1 (am_in_dec hin) ht (fun _ => (kt hc).2.2 p e R s m args below meth c H locs ls cells slots C St) (fun q => absurd hc (by first | exact q | exact fun z => z q))
  · refine ⟨(kf (by first | exact hc | exact Decidable.not_not.mp hc)).1, (kf (by first | exact hc | exact Decidable.not_not.mp hc)).2.1, fun p e R s m args below meth c H locs ls cells slots C St => ?_⟩
    exact lv_icmp_gt C.1 C.2.1 (am_in_dec hin) ht (fun q => absurd q hc) (fun q => (kf q).2.2 p e R s m args below meth c H locs ls cells slots C St)
theorem sw_if_le {x : Int32} {off : Int} (tgt : Nat) (hin : am_in i pc = some (.ifCond .le off, 3)) (ht : (pc : Int) + off = (tgt : Int)) (kt : x ≤ 0 → am_SW l D G B sp fz Lx xs Q shE i tgt L S sh M N) (kf : ¬ x ≤ 0 → am_SW l D G B sp fz Lx xs Q shE i (pc + 3) L S sh M N) : am_SW l D G B sp fz Lx xs Q shE i pc L (.int x :: S) sh M N := by
  by_cases hc : x ≤ 0
  · refine ⟨(kt hc).1, (kt hc).2.1, fun p e R s m args below meth c H locs ls cells slots C St => ?_⟩
    exact lv_if_le C.1 C.2.1 (am_in_dec hin) ht (fun _ => (kt hc).2.2 p e R s m args below meth c H locs ls cells slots C St) (fun q => absurd hc (by first | exact q | exact fun z => z q))
  · refine ⟨(kf (by first | exact hc | exact Decidable.not_not.mp hc)).1, (kf (by first | exact hc | exact Decidable.not_not.mp hc)).2.1, fun p e R s m args below meth c H locs ls cells slots C St => ?_⟩
    exact lv_if_le C.1 C.2.1 (am_in_dec hin) ht (fun q => absurd q hc) (fun q => (kf q).2.2 p e R s m args below meth c H locs ls cells slots C St)
theorem sw_icmp_le {x y : Int32} {off : Int} (tgt : Nat) (hin : am_in i pc = some (.if_icmp .le off, 3)) (ht : (pc : Int) + off = (tgt : Int)) (kt : x ≤ y → am_SW l D G B sp fz Lx xs Q shE i tgt L S sh M N) (kf : ¬ x ≤ y → am_SW l D G B sp fz Lx xs Q shE i (pc + 3) L S sh M N) : am_SW l D G B sp fz Lx xs Q shE i pc L (.int y :: .int x :: S) sh M N := by
  by_cases hc : x ≤ y
  · refine ⟨(kt hc).1, (kt hc).2.1, fun p e R s m args below meth c H locs ls cells slots C St => ?_⟩
    exact lv_icmp_le C.1 C.2.1 (am_in_dec hin) ht (fun _ => (kt hc).2.2 p e R s m args below meth c H locs ls cells slots C St) (fun q => absurd hc (by first | exact q | exact fun z => z q))
  · refine ⟨(kf (by first | exact hc | exact Decidable.not_not.mp hc)).1, (kf (by first | exact hc | exact Decidable.not_not.mp hc)).2.1, fun p e R s m args below meth c H locs ls cells slots C St => ?_⟩
    exact lv_icmp_le C.1 C.2.1 (am_in_dec hin) ht (fun q => absurd q hc) (fun q => (kf q).2.2 p e R s m args below meth c H locs ls cells slots C St)
theorem sw_goto {off : Int} (tgt : Nat) (hin : am_in i pc = some (.goto off, 3)) (ht : (pc : Int) + off = (tgt : Int)) (k : am_SW l D G B sp fz Lx xs Q shE i tgt L S sh M N) : am_SW l D G B sp fz Lx xs Q shE i pc L S sh M N :=
  ⟨k.1, k.2.1, fun p e R s m args below meth c H locs ls cells slots C St => lv_goto C.1 C.2.1 (am_in_dec hin) ht (k.2.2 p e R s m args below meth c H locs ls cells slots C St)⟩
theorem sw_tsIn {dflt lo hi : Int} {offs : Array Int} {len : Nat} {x : Int32} {off : Int} (tgt : Nat) (hin : am_in i pc = some (.tableswitch dflt lo hi offs, len)) (h1 : ¬ x.toInt < lo) (h2 : ¬ hi < x.toInt) (ho : offs[(x.toInt - lo).toNat]? = some off) (ht : (pc : Int) + off = (tgt : Int)) (k : am_SW l D G B sp fz Lx xs Q shE i tgt L S sh M N) : am_SW l D G B sp fz Lx xs Q shE i pc L (.int x :: S) sh M N :=
  ⟨k.1, k.2.1, fun p e R s m args below meth c H locs ls cells slots C St => lv_tableIn C.1 C.2.1 (am_in_dec hin) h1 h2 ho ht (k.2.2 p e R s m args below meth c H locs ls cells slots C St)⟩
theorem sw_tsOut {dflt lo hi : Int} {offs : Array Int} {len : Nat} {x : Int32} (tgt : Nat) (hin : am_in i pc = some (.tableswitch dflt lo hi offs, len)) (h : x.toInt < lo ∨ hi < x.toInt) (ht : (pc : Int) + dflt = (tgt : Int)) (k : am_SW l D G B sp fz Lx xs Q shE i tgt L S sh M N) : am_SW l D G B sp fz Lx xs Q shE i pc L (.int x :: S) sh M N :=
  ⟨k.1, k.2.1, fun p e R s m args below meth c H locs ls cells slots C St => lv_tableOut C.1 C.2.1 (am_in_dec hin) h ht (k.2.2 p e R s m args below meth c H locs ls cells slots C St)⟩
theorem sw_ls {dflt : Int} {ps : Array (Int × Int)} {len : Nat} {x : Int32} {off : Int} (tgt : Nat) (hin : am_in i pc = some (.lookupswitch dflt ps, len)) (hp : (ps.toList.zip (ps.toList.drop 1)).all (fun (a, next) => a.1 < next.1) = true) (ho : Op.lookupswitch.offset ps.toList dflt x.toInt = off) (ht : (pc : Int) + off = (tgt : Int)) (k : am_SW l D G B sp fz Lx xs Q shE i tgt L S sh M N) : am_SW l D G B sp fz Lx xs Q shE i pc L (.int x :: S) sh M N :=
  ⟨k.1, k.2.1, fun p e R s m args below meth c H locs ls cells slots C St => lv_lookup C.1 C.2.1 (am_in_dec hin) hp ho ht (k.2.2 p e R s m args below meth c H locs ls cells slots C St)⟩
/-! answers -/
theorem sw_ret (hin : am_in i pc = some (.return_, 1)) (hr : am_rt i = none) (hq : Q none M N) : am_SW l D G B sp fz Lx xs Q sh i pc L [] sh M N := by
  refine ⟨Nat.le_refl _, Nat.le_refl _, fun p e R s m args below meth c H locs ls cells slots C St => ?_⟩
  obtain ⟨a1, a2, a3, a4, a5, a6, a7, a8⟩ := St
  refine W.widen (k := R.cells) (n := R.slots) (by omega) (by omega) ?_
  exact W.vret C.1 C.2.1 (C.2.2.2.2.2.1.trans hr) (fun t ht hW => ⟨⟨none, M, N, rfl, hq, by rw [ht]; exact a3, a4⟩, a5.F ht⟩) a5.2.2 (am_in_dec hin) C.2.2.2.2.2.2.1
theorem sw_iret {v : Int32} {ty : FieldType} (hin : am_in i pc = some (.ireturn, 1)) (hr : am_rt i = some ty) (hn : narrow ty (.int v) = .int v) (hq : Q (some (.int v)) M N) : am_SW l D G B sp fz Lx xs Q sh i pc L [.int v] sh M N := by
  refine ⟨Nat.le_refl _, Nat.le_refl _, fun p e R s m args below meth c H locs ls cells slots C St => ?_⟩
  obtain ⟨a1, a2, a3, a4, a5, a6, a7, a8⟩ := St
  refine W.widen (k := R.cells) (n := R.slots) (by omega) (by omega) ?_
  exact W.zret C.1 C.2.1 (C.2.2.2.2.2.1.trans hr) hn (fun t ht hW => ⟨⟨some (.int v), M, N, rfl, hq, by rw [ht]; exact a3, a4⟩, a5.F ht⟩) a5.2.2 (am_in_dec hin) C.2.2.2.2.2.2.1
theorem sw_lret {v : Int64} (hin : am_in i pc = some (.lreturn, 1)) (hr : am_rt i = some .long) (hq : Q (some (.long v)) M N) : am_SW l D G B sp fz Lx xs Q sh i pc L [.long v] sh M N := by
  refine ⟨Nat.le_refl _, Nat.le_refl _, fun p e R s m args below meth c H locs ls cells slots C St => ?_⟩
  obtain ⟨a1, a2, a3, a4, a5, a6, a7, a8⟩ := St
  refine W.widen (k := R.cells) (n := R.slots) (by omega) (by omega) ?_
  exact W.lret C.1 C.2.1 (C.2.2.2.2.2.1.trans hr) (fun t ht hW => ⟨⟨some (.long v), M, N, rfl, hq, by rw [ht]; exact a3, a4⟩, a5.F ht⟩) a5.2.2 (am_in_dec hin) C.2.2.2.2.2.2.1
end AMS
