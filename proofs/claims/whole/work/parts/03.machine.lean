/-! ===== an abstract machine: cells are numbered, a memory of ints and of longs, references are numbers of cells ===== -/
abbrev am_M : Type := Nat → Nat → Int32
abbrev am_N : Type := Nat → Nat → Int64
/-- a cell's shape: an array (0 int, 1 boolean, 2 rows that lie behind it) of a length, or an object of a kind with its references -/
abbrev am_E : Type := (Nat × Nat) ⊕ (Nat × List (Option Nat))
abbrev am_V : Type := List Value
abbrev am_Q : Type := Option Value → am_M → am_N → Prop
def am_up (M : am_M) (k j : Nat) (x : Int32) : am_M := fun a b => if a = k then (if b = j then x else M a b) else M a b
def am_upL (N : am_N) (k j : Nat) (x : Int64) : am_N := fun a b => if a = k then (if b = j then x else N a b) else N a b
def am_upR (M : am_M) (k : Nat) (f : Nat → Int32) : am_M := fun a => if a = k then f else M a
def am_tbl : List Cond := lw_tbl.filter goodWord
theorem am_tbl_in {w : Cond} (h : w ∈ lw_tbl) (hg : goodWord w = true) : w ∈ am_tbl := List.mem_filter.mpr ⟨h, hg⟩
def am_in (i pc : Nat) : Option (Instr × Nat) := match decode (am_c i) pc with
  | .ok x => some x
  | .error _ => none
theorem am_in_dec {i pc : Nat} {x : Instr × Nat} (h : am_in i pc = some x) : decode (am_c i) pc = .ok x := by
  unfold am_in at h
  split at h
  · rename_i y hy
    cases h
    exact hy
  · cases h
def am_wide (v : Value) : Bool := match v with
  | .long _ => true
  | .double _ => true
  | _ => false
theorem am_wide_c {v : Value} (h : am_wide v = false) : v.category = 1 := by cases v <;> first | rfl | cases h
def am_unk (v : Value) : Bool := match v with
  | .retAddr _ => true
  | _ => false
def am_set (L : am_V) (i : Nat) (v : Value) : am_V := (match i with
  | 0 => L
  | j + 1 => match L[j]? with
    | some (.long _) => L.set j (.retAddr 0)
    | some (.double _) => L.set j (.retAddr 0)
    | _ => L).set i v
def am_set2 (L : am_V) (i : Nat) (v : Value) : am_V := (am_set L i v).set (i + 1) (.retAddr 0)
theorem am_set_len (L : am_V) (i : Nat) (v : Value) : (am_set L i v).length = L.length := by
  unfold am_set
  rw [List.length_set]
  split
  · rfl
  · split <;> simp
theorem am_set_ne {L : am_V} {i : Nat} {v : Value} {j : Nat} {w : Value} (hj : j ≠ i) (h : (am_set L i v)[j]? = some w) (hw : am_unk w = false) : L[j]? = some w ∧ ¬ (j + 1 = i ∧ w.category = 2) := by
  unfold am_set at h
  rw [List.getElem?_set_ne (fun q => hj q.symm)] at h
  cases i with
  | zero => exact ⟨h, fun q => absurd q.1 (by omega)⟩
  | succ k =>
    have aux : ∀ (l : am_V), (l = L ∧ (∀ z, L[k]? = some z → z.category = 1)) ∨ l = L.set k (.retAddr 0) → l[j]? = some w → L[j]? = some w ∧ ¬ (j + 1 = k + 1 ∧ w.category = 2) := by
      rintro l (⟨rfl, hz⟩ | rfl) h1
      · refine ⟨h1, fun q => ?_⟩
        have e : j = k := by omega
        subst e
        have := hz w h1
        omega
      · by_cases e : j = k
        · subst e
          exfalso
          by_cases hl : j < L.length
          · rw [List.getElem?_set_self hl] at h1
            cases h1
            cases hw
          · rw [List.getElem?_eq_none (by rw [List.length_set]; omega)] at h1
            cases h1
        · rw [List.getElem?_set_ne (fun q => e q.symm)] at h1
          exact ⟨h1, fun q => e (by omega)⟩
    refine aux _ ?_ h
    show ((match L[k]? with
    | some (.long _) => L.set k (.retAddr 0)
    | some (.double _) => L.set k (.retAddr 0)
    | _ => L) = L ∧ (∀ z, L[k]? = some z → z.category = 1)) ∨ (match L[k]? with
    | some (.long _) => L.set k (.retAddr 0)
    | some (.double _) => L.set k (.retAddr 0)
    | _ => L) = L.set k (.retAddr 0)
    cases hk : L[k]? with
    | none => exact Or.inl ⟨rfl, fun z hz => by cases hz⟩
    | some z => cases z <;> first | exact Or.inr rfl | exact Or.inl ⟨rfl, fun z hz => by cases hz; rfl⟩
theorem am_set_self {L : am_V} {i : Nat} {v : Value} (h : i < L.length) : (am_set L i v)[i]? = some v := by
  have h2 : i < (match i with
  | 0 => L
  | j + 1 => match L[j]? with
    | some (.long _) => L.set j (.retAddr 0)
    | some (.double _) => L.set j (.retAddr 0)
    | _ => L).length := by
    have h3 := am_set_len L i v
    unfold am_set at h3
    rw [List.length_set] at h3
    omega
  unfold am_set
  rw [List.getElem?_set_self h2]
/-! addresses, values, locals -/
def am_ad (B : Nat) (sp : Nat → Nat) (k : Nat) : Nat := if k < 1000000 then B + k else sp k
def am_cv (B : Nat) (sp : Nat → Nat) (fz : Value) (v : Value) : Value := match v with
  | .ref k => .ref (am_ad B sp k)
  | .retAddr _ => fz
  | v => v
theorem am_cv_cat {B : Nat} {sp : Nat → Nat} {fz : Value} (hf : fz.category = 1) (v : Value) : (am_cv B sp fz v).category = v.category := by
  cases v <;> first | rfl | exact hf
def am_lv (cv : Value → Value) (ls : Array Slot) (L : am_V) : Prop := lv_wf ls ∧ ls.size = L.length ∧ ∀ (i : Nat) (v : Value), L[i]? = some v → am_unk v = false → ls[i]? = some (.val (cv v))
def am_prs (cv : Value → Value) (L : am_V) : List (Nat × Value) := (List.range L.length).filterMap fun i => match L[i]? with
  | some v => if am_unk v then none else some (i, cv v)
  | none => none
theorem am_prs_in {cv : Value → Value} {L : am_V} {i : Nat} {v : Value} (h : L[i]? = some v) (hu : am_unk v = false) : (i, cv v) ∈ am_prs cv L := by
  refine List.mem_filterMap.mpr ⟨i, List.mem_range.mpr (List.getElem?_eq_some_iff.mp h).1, ?_⟩
  simp [h, hu]
theorem am_prs_of {cv : Value → Value} {L : am_V} {q : Nat × Value} (h : q ∈ am_prs cv L) : ∃ v, L[q.1]? = some v ∧ am_unk v = false ∧ q.2 = cv v := by
  obtain ⟨i, -, hi⟩ := List.mem_filterMap.mp h
  cases hk : L[i]? with
  | none => simp [hk] at hi
  | some v =>
    by_cases hu : am_unk v = true
    · simp [hk, hu] at hi
    · simp [hk, hu] at hi
      subst hi
      exact ⟨v, hk, by simpa using hu, rfl⟩
theorem am_lv.has {cv : Value → Value} {ls : Array Slot} {L : am_V} (h : am_lv cv ls L) : lv_has ls L.length (am_prs cv L) := by
  refine ⟨h.2.1, h.1, fun q hq => ?_⟩
  obtain ⟨v, h1, h2, h3⟩ := am_prs_of hq
  rw [h3]
  exact h.2.2 _ v h1 h2
theorem am_lv.st1 {cv : Value → Value} (hc : ∀ v, (cv v).category = v.category) {ls : Array Slot} {L : am_V} {i : Nat} {v : Value} (h : lv_has ls L.length ((i, cv v) :: (am_prs cv L).filter (fun q => !(q.1 == i) && !(q.1 + 1 == i && q.2.category == 2)))) (hi : i < L.length) : am_lv cv ls (am_set L i v) := by
  refine ⟨h.2.1, h.1.trans (am_set_len L i v).symm, fun j w hj hw => ?_⟩
  by_cases e : j = i
  · subst e
    rw [am_set_self hi] at hj
    cases hj
    exact h.2.2 (j, cv v) List.mem_cons_self
  · obtain ⟨h1, h2⟩ := am_set_ne e hj hw
    refine h.2.2 (j, cv w) (List.mem_cons_of_mem _ (List.mem_filter.mpr ⟨am_prs_in h1 hw, ?_⟩))
    have hcat := hc w
    by_cases e2 : j + 1 = i
    · have hn : ¬ w.category = 2 := fun q => h2 ⟨e2, q⟩
      simp [e, e2, hcat, hn]
    · simp [e, e2]
theorem am_lv.st2 {cv : Value → Value} (hc : ∀ v, (cv v).category = v.category) {ls : Array Slot} {L : am_V} {i : Nat} {v : Value} (h : lv_has ls L.length ((i, cv v) :: (am_prs cv L).filter (fun q => !(q.1 == i) && (!(q.1 == i + 1) && !(q.1 + 1 == i && q.2.category == 2))))) (hi : i < L.length) : am_lv cv ls (am_set2 L i v) := by
  refine ⟨h.2.1, by unfold am_set2; rw [List.length_set, am_set_len]; exact h.1, fun j w hj hw => ?_⟩
  unfold am_set2 at hj
  by_cases e1 : j = i + 1
  · subst e1
    exfalso
    by_cases hl : i + 1 < (am_set L i v).length
    · rw [List.getElem?_set_self hl] at hj
      cases hj
      cases hw
    · rw [List.getElem?_eq_none (by rw [List.length_set]; omega)] at hj
      cases hj
  · rw [List.getElem?_set_ne (fun q => e1 q.symm)] at hj
    by_cases e : j = i
    · subst e
      rw [am_set_self hi] at hj
      cases hj
      exact h.2.2 (j, cv v) List.mem_cons_self
    · obtain ⟨h1, h2⟩ := am_set_ne e hj hw
      refine h.2.2 (j, cv w) (List.mem_cons_of_mem _ (List.mem_filter.mpr ⟨am_prs_in h1 hw, ?_⟩))
      have hcat := hc w
      by_cases e2 : j + 1 = i
      · have hn : ¬ w.category = 2 := fun q => h2 ⟨e2, q⟩
        simp [e, e1, e2, hcat, hn]
      · simp [e, e1, e2]
theorem am_lv.forget {cv : Value → Value} {ls : Array Slot} {L : am_V} (h : am_lv cv ls L) (j : Nat) : am_lv cv ls (L.set j (.retAddr 0)) := by
  refine ⟨h.1, by rw [List.length_set]; exact h.2.1, fun i v hi hu => ?_⟩
  by_cases e : i = j
  · subst e
    exfalso
    by_cases hl : i < L.length
    · rw [List.getElem?_set_self hl] at hi
      cases hi
      cases hu
    · rw [List.getElem?_eq_none (by rw [List.length_set]; omega)] at hi
      cases hi
  · rw [List.getElem?_set_ne (fun q => e q.symm)] at hi
    exact h.2.2 i v hi hu
/-! a method's locals at its start -/
def am_ent : am_V → am_V
  | [] => []
  | .long x :: r => .long x :: .retAddr 0 :: am_ent r
  | .double x :: r => .double x :: .retAddr 0 :: am_ent r
  | v :: r => v :: am_ent r
def am_en (i : Nat) (As : am_V) : am_V := am_ent As ++ List.replicate (am_mx i - (am_ent As).length) (.retAddr 0)
theorem am_ent_args {cv : Value → Value} (hc : ∀ v, (cv v).category = v.category) : ∀ (As : am_V) (b j : Nat) (v : Value), (am_ent As)[j]? = some v → am_unk v = false → (b + j, cv v) ∈ lv_args b (As.map cv)
  | [], b, j, v, h, _ => by simp [am_ent] at h
  | a :: r, b, j, v, h, hu => by
    have one : a.category = 1 → (am_ent (a :: r)) = a :: am_ent r := fun hq => by cases a <;> first | rfl | cases hq
    have two : a.category = 2 → (am_ent (a :: r)) = a :: .retAddr 0 :: am_ent r := fun hq => by cases a <;> first | rfl | cases hq
    rw [List.map_cons, lv_args]
    rcases lv_cat a with hq | hq
    · rw [one hq] at h
      cases j with
      | zero =>
        cases h
        exact List.mem_cons_self
      | succ j =>
        rw [List.getElem?_cons_succ] at h
        have := am_ent_args hc r (b + 1) j v h hu
        rw [show b + (j + 1) = b + 1 + j by omega]
        refine List.mem_cons_of_mem _ ?_
        rw [if_neg (by rw [hc, hq]; decide)]
        exact this
    · rw [two hq] at h
      match j, h with
      | 0, h =>
        cases h
        exact List.mem_cons_self
      | 1, h =>
        cases h
        cases hu
      | j + 2, h =>
        rw [List.getElem?_cons_succ, List.getElem?_cons_succ] at h
        have := am_ent_args hc r (b + 2) j v h hu
        rw [show b + (j + 2) = b + 2 + j by omega]
        refine List.mem_cons_of_mem _ ?_
        rw [if_pos (by rw [hc, hq])]
        exact this
theorem am_ent_len {cv : Value → Value} (hc : ∀ v, (cv v).category = v.category) : ∀ As : am_V, (am_ent As).length = (lg_sl (As.map cv)).length
  | [] => rfl
  | a :: r => by
    have ih := am_ent_len hc r
    have h1 : (lg_sl ((a :: r).map cv)).length = (if (cv a).category = 2 then 2 else 1) + (lg_sl (r.map cv)).length := by
      simp only [lg_sl, List.map_cons, List.flatMap_cons, List.length_append]
      split <;> rfl
    rw [h1, hc, ← ih]
    cases a <;> simp [am_ent, Value.category] <;> omega
theorem am_lv.entry {cv : Value → Value} (hc : ∀ v, (cv v).category = v.category) {i : Nat} {As : am_V} (hn : (am_ent As).length ≤ am_mx i) : am_lv cv ((lg_sl (As.map cv) ++ List.replicate (am_mx i - (lg_sl (As.map cv)).length) Slot.unset).toArray) (am_en i As) := by
  have hlen := am_ent_len hc As
  obtain ⟨h1, h2, h3⟩ := lv_entry (As.map cv) (n := am_mx i) (by omega)
  refine ⟨h2, by rw [h1]; unfold am_en; simp; omega, fun j v hj hu => ?_⟩
  unfold am_en at hj
  by_cases hl : j < (am_ent As).length
  · rw [List.getElem?_append_left hl] at hj
    have := am_ent_args hc As 0 j v hj hu
    rw [Nat.zero_add] at this
    exact h3 _ this
  · rw [List.getElem?_append_right (by omega)] at hj
    rw [List.getElem?_replicate] at hj
    split at hj
    · cases hj
      cases hu
    · cases hj
theorem am_en_len {i : Nat} {As : am_V} (hn : (am_ent As).length ≤ am_mx i) : (am_en i As).length = am_mx i := by
  unfold am_en
  simp
  omega
def am_ln (ins : Instr) : Nat := match ins with
  | .bipush _ => 2
  | .sipush _ => 3
  | .iload _ => 2
  | .lload _ => 2
  | .aload _ => 2
  | .istore _ => 2
  | .lstore _ => 2
  | .astore _ => 2
  | .iinc _ _ => 3
  | _ => 1
def am_q (ins : Instr) (L S : am_V) : Option (am_V × am_V) := match ins with
  | .iconst k => some (L, .int (Int32.ofInt k) :: S)
  | .bipush k => some (L, .int (Int8.ofInt k).toInt32 :: S)
  | .sipush k => some (L, .int (Int16.ofInt k).toInt32 :: S)
  | .lconst k => some (L, .long (Int64.ofNat (k : Nat)) :: S)
  | .iload k => (match L[k]? with
    | some (.int x) => some (L, .int x :: S)
    | _ => none)
  | .iload_n k => (match L[(k : Nat)]? with
    | some (.int x) => some (L, .int x :: S)
    | _ => none)
  | .lload k => (match L[k]? with
    | some (.long x) => some (L, .long x :: S)
    | _ => none)
  | .lload_n k => (match L[(k : Nat)]? with
    | some (.long x) => some (L, .long x :: S)
    | _ => none)
  | .aload k => (match L[k]? with
    | some (.ref x) => some (L, .ref x :: S)
    | _ => none)
  | .aload_n k => (match L[(k : Nat)]? with
    | some (.ref x) => some (L, .ref x :: S)
    | _ => none)
  | .istore k => (match S with
    | .int x :: T => if k < L.length then some (am_set L k (.int x), T) else none
    | _ => none)
  | .istore_n k => (match S with
    | .int x :: T => if (k : Nat) < L.length then some (am_set L k (.int x), T) else none
    | _ => none)
  | .astore k => (match S with
    | .ref x :: T => if k < L.length then some (am_set L k (.ref x), T) else none
    | _ => none)
  | .astore_n k => (match S with
    | .ref x :: T => if (k : Nat) < L.length then some (am_set L k (.ref x), T) else none
    | _ => none)
  | .lstore k => (match S with
    | .long x :: T => if k + 1 < L.length then some (am_set2 L k (.long x), T) else none
    | _ => none)
  | .lstore_n k => (match S with
    | .long x :: T => if (k : Nat) + 1 < L.length then some (am_set2 L k (.long x), T) else none
    | _ => none)
  | .iinc k n => (match L[k]? with
    | some (.int x) => some (am_set L k (.int (x + Int32.ofInt n)), S)
    | _ => none)
  | .iadd => (match S with
    | .int y :: .int x :: T => some (L, .int (x + y) :: T)
    | _ => none)
  | .isub => (match S with
    | .int y :: .int x :: T => some (L, .int (x - y) :: T)
    | _ => none)
  | .imul => (match S with
    | .int y :: .int x :: T => some (L, .int (x * y) :: T)
    | _ => none)
  | .iand => (match S with
    | .int y :: .int x :: T => some (L, .int (x &&& y) :: T)
    | _ => none)
  | .ior => (match S with
    | .int y :: .int x :: T => some (L, .int (x ||| y) :: T)
    | _ => none)
  | .ishl => (match S with
    | .int y :: .int x :: T => some (L, .int (x <<< (y &&& 31)) :: T)
    | _ => none)
  | .ishr => (match S with
    | .int y :: .int x :: T => some (L, .int (x >>> (y &&& 31)) :: T)
    | _ => none)
  | .ladd => (match S with
    | .long y :: .long x :: T => some (L, .long (x + y) :: T)
    | _ => none)
  | .lsub => (match S with
    | .long y :: .long x :: T => some (L, .long (x - y) :: T)
    | _ => none)
  | .lmul => (match S with
    | .long y :: .long x :: T => some (L, .long (x * y) :: T)
    | _ => none)
  | .land => (match S with
    | .long y :: .long x :: T => some (L, .long (x &&& y) :: T)
    | _ => none)
  | .lor => (match S with
    | .long y :: .long x :: T => some (L, .long (x ||| y) :: T)
    | _ => none)
  | .iushr => (match S with
    | .int y :: .int x :: T => some (L, .int ((x.toUInt32 >>> (y.toUInt32 &&& Int32.toUInt32 31)).toInt32) :: T)
    | _ => none)
  | .lshl => (match S with
    | .int y :: .long x :: T => some (L, .long (x <<< (y.toInt64 &&& 63)) :: T)
    | _ => none)
  | .lshr => (match S with
    | .int y :: .long x :: T => some (L, .long (x >>> (y.toInt64 &&& 63)) :: T)
    | _ => none)
  | .idiv => (match S with
    | .int y :: .int x :: T => if y = 0 then none else some (L, .int (x / y) :: T)
    | _ => none)
  | .irem => (match S with
    | .int y :: .int x :: T => if y = 0 then none else some (L, .int (x - x / y * y) :: T)
    | _ => none)
  | .ldiv => (match S with
    | .long y :: .long x :: T => if y = 0 then none else some (L, .long (x / y) :: T)
    | _ => none)
  | .ineg => (match S with
    | .int x :: T => some (L, .int (-x) :: T)
    | _ => none)
  | .i2l => (match S with
    | .int x :: T => some (L, .long x.toInt64 :: T)
    | _ => none)
  | .l2i => (match S with
    | .long x :: T => some (L, .int x.toInt32 :: T)
    | _ => none)
  | .i2c => (match S with
    | .int x :: T => some (L, .int ((x.toUInt32 % 65536).toInt32) :: T)
    | _ => none)
  | .lcmp => (match S with
    | .long y :: .long x :: T => some (L, .int (lg_cmp x y) :: T)
    | _ => none)
  | .dup => (match S with
    | v :: T => if am_wide v then none else some (L, v :: v :: T)
    | _ => none)
  | .pop => (match S with
    | v :: T => if am_wide v then none else some (L, T)
    | _ => none)
  | .dup_x1 => (match S with
    | v :: w :: T => if am_wide v || am_wide w then none else some (L, v :: w :: v :: T)
    | _ => none)
  | .dup2 => (match S with
    | v :: w :: T => if am_wide v || am_wide w then none else some (L, v :: w :: v :: w :: T)
    | _ => none)
  | _ => none
section AMQ
variable {p : Program} {l : Launch} {e : Env} {R : Room} {s : State} {m : MethodId} {args : Array Value} {below : List Frame} {meth : Method} {c : Code} {H : Heap} {locs : List Loc} {cells slots : Nat} {Q : State → Prop}
variable {cc : ByteArray} {pc : Nat} {ls : Array Slot} {B : Nat} {sp : Nat → Nat} {fz : Value} {L S L' S' : am_V}
theorem am_W_iconst (hf : fz.category = 1) (hx : p.tables.exec = Jvm.exec) (hb : c.code = cc) {k : Int} (hd : decode cc pc = .ok (.iconst k, am_ln (.iconst k))) (h : am_q (.iconst k) L S = some (L', S')) (hl : am_lv (am_cv B sp fz) ls L) (kk : ∀ ls2 : Array Slot, am_lv (am_cv B sp fz) ls2 L' → L'.length = L.length → W p l e R s m args below meth c H locs cells slots Q (F0 m (pc + am_ln (.iconst k)) ls2 (S'.map (am_cv B sp fz)))) : W p l e R s m args below meth c H locs cells slots Q (F0 m pc ls (S.map (am_cv B sp fz))) := by
  simp only [am_q] at h
  cases h
  exact lv_iconst hx hb hd rfl (kk ls hl rfl)
theorem am_W_bipush (hf : fz.category = 1) (hx : p.tables.exec = Jvm.exec) (hb : c.code = cc) {k : Int} (hd : decode cc pc = .ok (.bipush k, am_ln (.bipush k))) (h : am_q (.bipush k) L S = some (L', S')) (hl : am_lv (am_cv B sp fz) ls L) (kk : ∀ ls2 : Array Slot, am_lv (am_cv B sp fz) ls2 L' → L'.length = L.length → W p l e R s m args below meth c H locs cells slots Q (F0 m (pc + am_ln (.bipush k)) ls2 (S'.map (am_cv B sp fz)))) : W p l e R s m args below meth c H locs cells slots Q (F0 m pc ls (S.map (am_cv B sp fz))) := by
  simp only [am_q] at h
  cases h
  exact lv_bipush hx hb hd rfl (kk ls hl rfl)
theorem am_W_sipush (hf : fz.category = 1) (hx : p.tables.exec = Jvm.exec) (hb : c.code = cc) {k : Int} (hd : decode cc pc = .ok (.sipush k, am_ln (.sipush k))) (h : am_q (.sipush k) L S = some (L', S')) (hl : am_lv (am_cv B sp fz) ls L) (kk : ∀ ls2 : Array Slot, am_lv (am_cv B sp fz) ls2 L' → L'.length = L.length → W p l e R s m args below meth c H locs cells slots Q (F0 m (pc + am_ln (.sipush k)) ls2 (S'.map (am_cv B sp fz)))) : W p l e R s m args below meth c H locs cells slots Q (F0 m pc ls (S.map (am_cv B sp fz))) := by
  simp only [am_q] at h
  cases h
  exact lv_sipush hx hb hd rfl (kk ls hl rfl)
theorem am_W_lconst (hf : fz.category = 1) (hx : p.tables.exec = Jvm.exec) (hb : c.code = cc) {k : Fin 2} (hd : decode cc pc = .ok (.lconst k, am_ln (.lconst k))) (h : am_q (.lconst k) L S = some (L', S')) (hl : am_lv (am_cv B sp fz) ls L) (kk : ∀ ls2 : Array Slot, am_lv (am_cv B sp fz) ls2 L' → L'.length = L.length → W p l e R s m args below meth c H locs cells slots Q (F0 m (pc + am_ln (.lconst k)) ls2 (S'.map (am_cv B sp fz)))) : W p l e R s m args below meth c H locs cells slots Q (F0 m pc ls (S.map (am_cv B sp fz))) := by
  simp only [am_q] at h
  cases h
  exact lv_lconst hx hb hd rfl (kk ls hl rfl)
theorem am_W_iload (hf : fz.category = 1) (hx : p.tables.exec = Jvm.exec) (hb : c.code = cc) {k : Nat} (hd : decode cc pc = .ok (.iload k, am_ln (.iload k))) (h : am_q (.iload k) L S = some (L', S')) (hl : am_lv (am_cv B sp fz) ls L) (kk : ∀ ls2 : Array Slot, am_lv (am_cv B sp fz) ls2 L' → L'.length = L.length → W p l e R s m args below meth c H locs cells slots Q (F0 m (pc + am_ln (.iload k)) ls2 (S'.map (am_cv B sp fz)))) : W p l e R s m args below meth c H locs cells slots Q (F0 m pc ls (S.map (am_cv B sp fz))) := by
  simp only [am_q] at h
  split at h
  · rename_i x hk
    cases h
    exact lv_iload hx hb hd (hl.2.2 _ _ hk rfl) (kk ls hl rfl)
  · cases h
theorem am_W_iload_n (hf : fz.category = 1) (hx : p.tables.exec = Jvm.exec) (hb : c.code = cc) {k : Fin 4} (hd : decode cc pc = .ok (.iload_n k, am_ln (.iload_n k))) (h : am_q (.iload_n k) L S = some (L', S')) (hl : am_lv (am_cv B sp fz) ls L) (kk : ∀ ls2 : Array Slot, am_lv (am_cv B sp fz) ls2 L' → L'.length = L.length → W p l e R s m args below meth c H locs cells slots Q (F0 m (pc + am_ln (.iload_n k)) ls2 (S'.map (am_cv B sp fz)))) : W p l e R s m args below meth c H locs cells slots Q (F0 m pc ls (S.map (am_cv B sp fz))) := by
  simp only [am_q] at h
  split at h
  · rename_i x hk
    cases h
    exact lv_iload_n hx hb hd rfl (hl.2.2 _ _ hk rfl) (kk ls hl rfl)
  · cases h
theorem am_W_lload (hf : fz.category = 1) (hx : p.tables.exec = Jvm.exec) (hb : c.code = cc) {k : Nat} (hd : decode cc pc = .ok (.lload k, am_ln (.lload k))) (h : am_q (.lload k) L S = some (L', S')) (hl : am_lv (am_cv B sp fz) ls L) (kk : ∀ ls2 : Array Slot, am_lv (am_cv B sp fz) ls2 L' → L'.length = L.length → W p l e R s m args below meth c H locs cells slots Q (F0 m (pc + am_ln (.lload k)) ls2 (S'.map (am_cv B sp fz)))) : W p l e R s m args below meth c H locs cells slots Q (F0 m pc ls (S.map (am_cv B sp fz))) := by
  simp only [am_q] at h
  split at h
  · rename_i x hk
    cases h
    exact lv_lload hx hb hd (hl.2.2 _ _ hk rfl) (kk ls hl rfl)
  · cases h
theorem am_W_lload_n (hf : fz.category = 1) (hx : p.tables.exec = Jvm.exec) (hb : c.code = cc) {k : Fin 4} (hd : decode cc pc = .ok (.lload_n k, am_ln (.lload_n k))) (h : am_q (.lload_n k) L S = some (L', S')) (hl : am_lv (am_cv B sp fz) ls L) (kk : ∀ ls2 : Array Slot, am_lv (am_cv B sp fz) ls2 L' → L'.length = L.length → W p l e R s m args below meth c H locs cells slots Q (F0 m (pc + am_ln (.lload_n k)) ls2 (S'.map (am_cv B sp fz)))) : W p l e R s m args below meth c H locs cells slots Q (F0 m pc ls (S.map (am_cv B sp fz))) := by
  simp only [am_q] at h
  split at h
  · rename_i x hk
    cases h
    exact lv_lload_n hx hb hd rfl (hl.2.2 _ _ hk rfl) (kk ls hl rfl)
  · cases h
theorem am_W_aload (hf : fz.category = 1) (hx : p.tables.exec = Jvm.exec) (hb : c.code = cc) {k : Nat} (hd : decode cc pc = .ok (.aload k, am_ln (.aload k))) (h : am_q (.aload k) L S = some (L', S')) (hl : am_lv (am_cv B sp fz) ls L) (kk : ∀ ls2 : Array Slot, am_lv (am_cv B sp fz) ls2 L' → L'.length = L.length → W p l e R s m args below meth c H locs cells slots Q (F0 m (pc + am_ln (.aload k)) ls2 (S'.map (am_cv B sp fz)))) : W p l e R s m args below meth c H locs cells slots Q (F0 m pc ls (S.map (am_cv B sp fz))) := by
  simp only [am_q] at h
  split at h
  · rename_i x hk
    cases h
    exact lv_aload hx hb hd (hl.2.2 _ _ hk rfl) (kk ls hl rfl)
  · cases h
theorem am_W_aload_n (hf : fz.category = 1) (hx : p.tables.exec = Jvm.exec) (hb : c.code = cc) {k : Fin 4} (hd : decode cc pc = .ok (.aload_n k, am_ln (.aload_n k))) (h : am_q (.aload_n k) L S = some (L', S')) (hl : am_lv (am_cv B sp fz) ls L) (kk : ∀ ls2 : Array Slot, am_lv (am_cv B sp fz) ls2 L' → L'.length = L.length → W p l e R s m args below meth c H locs cells slots Q (F0 m (pc + am_ln (.aload_n k)) ls2 (S'.map (am_cv B sp fz)))) : W p l e R s m args below meth c H locs cells slots Q (F0 m pc ls (S.map (am_cv B sp fz))) := by
  simp only [am_q] at h
  split at h
  · rename_i x hk
    cases h
    exact lv_aload_n hx hb hd rfl (hl.2.2 _ _ hk rfl) (kk ls hl rfl)
  · cases h
theorem am_W_istore (hf : fz.category = 1) (hx : p.tables.exec = Jvm.exec) (hb : c.code = cc) {k : Nat} (hd : decode cc pc = .ok (.istore k, am_ln (.istore k))) (h : am_q (.istore k) L S = some (L', S')) (hl : am_lv (am_cv B sp fz) ls L) (kk : ∀ ls2 : Array Slot, am_lv (am_cv B sp fz) ls2 L' → L'.length = L.length → W p l e R s m args below meth c H locs cells slots Q (F0 m (pc + am_ln (.istore k)) ls2 (S'.map (am_cv B sp fz)))) : W p l e R s m args below meth c H locs cells slots Q (F0 m pc ls (S.map (am_cv B sp fz))) := by
  simp only [am_q] at h
  split at h
  · rename_i x T
    split at h
    · rename_i hk
      cases h
      exact lv_istore hx hb hd hl.has hk rfl (fun ls2 h2 => kk ls2 (am_lv.st1 (am_cv_cat hf) h2 hk) (am_set_len _ _ _))
    · cases h
  · cases h
theorem am_W_istore_n (hf : fz.category = 1) (hx : p.tables.exec = Jvm.exec) (hb : c.code = cc) {k : Fin 4} (hd : decode cc pc = .ok (.istore_n k, am_ln (.istore_n k))) (h : am_q (.istore_n k) L S = some (L', S')) (hl : am_lv (am_cv B sp fz) ls L) (kk : ∀ ls2 : Array Slot, am_lv (am_cv B sp fz) ls2 L' → L'.length = L.length → W p l e R s m args below meth c H locs cells slots Q (F0 m (pc + am_ln (.istore_n k)) ls2 (S'.map (am_cv B sp fz)))) : W p l e R s m args below meth c H locs cells slots Q (F0 m pc ls (S.map (am_cv B sp fz))) := by
  simp only [am_q] at h
  split at h
  · rename_i x T
    split at h
    · rename_i hk
      cases h
      exact lv_istore_n hx hb hd rfl hl.has hk rfl (fun ls2 h2 => kk ls2 (am_lv.st1 (am_cv_cat hf) h2 hk) (am_set_len _ _ _))
    · cases h
  · cases h
theorem am_W_astore (hf : fz.category = 1) (hx : p.tables.exec = Jvm.exec) (hb : c.code = cc) {k : Nat} (hd : decode cc pc = .ok (.astore k, am_ln (.astore k))) (h : am_q (.astore k) L S = some (L', S')) (hl : am_lv (am_cv B sp fz) ls L) (kk : ∀ ls2 : Array Slot, am_lv (am_cv B sp fz) ls2 L' → L'.length = L.length → W p l e R s m args below meth c H locs cells slots Q (F0 m (pc + am_ln (.astore k)) ls2 (S'.map (am_cv B sp fz)))) : W p l e R s m args below meth c H locs cells slots Q (F0 m pc ls (S.map (am_cv B sp fz))) := by
  simp only [am_q] at h
  split at h
  · rename_i x T
    split at h
    · rename_i hk
      cases h
      exact lv_astore hx hb hd hl.has hk rfl (fun ls2 h2 => kk ls2 (am_lv.st1 (am_cv_cat hf) h2 hk) (am_set_len _ _ _))
    · cases h
  · cases h
theorem am_W_astore_n (hf : fz.category = 1) (hx : p.tables.exec = Jvm.exec) (hb : c.code = cc) {k : Fin 4} (hd : decode cc pc = .ok (.astore_n k, am_ln (.astore_n k))) (h : am_q (.astore_n k) L S = some (L', S')) (hl : am_lv (am_cv B sp fz) ls L) (kk : ∀ ls2 : Array Slot, am_lv (am_cv B sp fz) ls2 L' → L'.length = L.length → W p l e R s m args below meth c H locs cells slots Q (F0 m (pc + am_ln (.astore_n k)) ls2 (S'.map (am_cv B sp fz)))) : W p l e R s m args below meth c H locs cells slots Q (F0 m pc ls (S.map (am_cv B sp fz))) := by
  simp only [am_q] at h
  split at h
  · rename_i x T
    split at h
    · rename_i hk
      cases h
      exact lv_astore_n hx hb hd rfl hl.has hk rfl (fun ls2 h2 => kk ls2 (am_lv.st1 (am_cv_cat hf) h2 hk) (am_set_len _ _ _))
    · cases h
  · cases h
theorem am_W_lstore (hf : fz.category = 1) (hx : p.tables.exec = Jvm.exec) (hb : c.code = cc) {k : Nat} (hd : decode cc pc = .ok (.lstore k, am_ln (.lstore k))) (h : am_q (.lstore k) L S = some (L', S')) (hl : am_lv (am_cv B sp fz) ls L) (kk : ∀ ls2 : Array Slot, am_lv (am_cv B sp fz) ls2 L' → L'.length = L.length → W p l e R s m args below meth c H locs cells slots Q (F0 m (pc + am_ln (.lstore k)) ls2 (S'.map (am_cv B sp fz)))) : W p l e R s m args below meth c H locs cells slots Q (F0 m pc ls (S.map (am_cv B sp fz))) := by
  simp only [am_q] at h
  split at h
  · rename_i x T
    split at h
    · rename_i hk
      cases h
      exact lv_lstore hx hb hd hl.has hk rfl (fun ls2 h2 => kk ls2 (am_lv.st2 (am_cv_cat hf) h2 (by omega)) (by unfold am_set2; rw [List.length_set, am_set_len]))
    · cases h
  · cases h
theorem am_W_lstore_n (hf : fz.category = 1) (hx : p.tables.exec = Jvm.exec) (hb : c.code = cc) {k : Fin 4} (hd : decode cc pc = .ok (.lstore_n k, am_ln (.lstore_n k))) (h : am_q (.lstore_n k) L S = some (L', S')) (hl : am_lv (am_cv B sp fz) ls L) (kk : ∀ ls2 : Array Slot, am_lv (am_cv B sp fz) ls2 L' → L'.length = L.length → W p l e R s m args below meth c H locs cells slots Q (F0 m (pc + am_ln (.lstore_n k)) ls2 (S'.map (am_cv B sp fz)))) : W p l e R s m args below meth c H locs cells slots Q (F0 m pc ls (S.map (am_cv B sp fz))) := by
  simp only [am_q] at h
  split at h
  · rename_i x T
    split at h
    · rename_i hk
      cases h
      exact lv_lstore_n hx hb hd rfl hl.has hk rfl (fun ls2 h2 => kk ls2 (am_lv.st2 (am_cv_cat hf) h2 (by omega)) (by unfold am_set2; rw [List.length_set, am_set_len]))
    · cases h
  · cases h
theorem am_W_iinc (hf : fz.category = 1) (hx : p.tables.exec = Jvm.exec) (hb : c.code = cc) {k : Nat} {n : Int} (hd : decode cc pc = .ok (.iinc k n, am_ln (.iinc k n))) (h : am_q (.iinc k n) L S = some (L', S')) (hl : am_lv (am_cv B sp fz) ls L) (kk : ∀ ls2 : Array Slot, am_lv (am_cv B sp fz) ls2 L' → L'.length = L.length → W p l e R s m args below meth c H locs cells slots Q (F0 m (pc + am_ln (.iinc k n)) ls2 (S'.map (am_cv B sp fz)))) : W p l e R s m args below meth c H locs cells slots Q (F0 m pc ls (S.map (am_cv B sp fz))) := by
  simp only [am_q] at h
  split at h
  · rename_i x hk
    cases h
    have hin : (k, Value.int x) ∈ am_prs (am_cv B sp fz) L := am_prs_in (cv := am_cv B sp fz) hk rfl
    obtain ⟨j, hj⟩ := List.getElem?_of_mem hin
    have hkl : k < L.length := (List.getElem?_eq_some_iff.mp hk).1
    exact lv_iinc hx hb hd hl.has hj rfl hkl rfl (fun ls2 h2 => kk ls2 (am_lv.st1 (am_cv_cat hf) h2 hkl) (am_set_len _ _ _))
  · cases h
theorem am_W_iadd (hf : fz.category = 1) (hx : p.tables.exec = Jvm.exec) (hb : c.code = cc)  (hd : decode cc pc = .ok (.iadd, am_ln (.iadd))) (h : am_q (.iadd) L S = some (L', S')) (hl : am_lv (am_cv B sp fz) ls L) (kk : ∀ ls2 : Array Slot, am_lv (am_cv B sp fz) ls2 L' → L'.length = L.length → W p l e R s m args below meth c H locs cells slots Q (F0 m (pc + am_ln (.iadd)) ls2 (S'.map (am_cv B sp fz)))) : W p l e R s m args below meth c H locs cells slots Q (F0 m pc ls (S.map (am_cv B sp fz))) := by
  simp only [am_q] at h
  split at h
  · cases h
    exact lv_iadd hx hb hd (kk ls hl rfl)
  · cases h
theorem am_W_isub (hf : fz.category = 1) (hx : p.tables.exec = Jvm.exec) (hb : c.code = cc)  (hd : decode cc pc = .ok (.isub, am_ln (.isub))) (h : am_q (.isub) L S = some (L', S')) (hl : am_lv (am_cv B sp fz) ls L) (kk : ∀ ls2 : Array Slot, am_lv (am_cv B sp fz) ls2 L' → L'.length = L.length → W p l e R s m args below meth c H locs cells slots Q (F0 m (pc + am_ln (.isub)) ls2 (S'.map (am_cv B sp fz)))) : W p l e R s m args below meth c H locs cells slots Q (F0 m pc ls (S.map (am_cv B sp fz))) := by
  simp only [am_q] at h
  split at h
  · cases h
    exact lv_isub hx hb hd (kk ls hl rfl)
  · cases h
theorem am_W_imul (hf : fz.category = 1) (hx : p.tables.exec = Jvm.exec) (hb : c.code = cc)  (hd : decode cc pc = .ok (.imul, am_ln (.imul))) (h : am_q (.imul) L S = some (L', S')) (hl : am_lv (am_cv B sp fz) ls L) (kk : ∀ ls2 : Array Slot, am_lv (am_cv B sp fz) ls2 L' → L'.length = L.length → W p l e R s m args below meth c H locs cells slots Q (F0 m (pc + am_ln (.imul)) ls2 (S'.map (am_cv B sp fz)))) : W p l e R s m args below meth c H locs cells slots Q (F0 m pc ls (S.map (am_cv B sp fz))) := by
  simp only [am_q] at h
  split at h
  · cases h
    exact lv_imul hx hb hd (kk ls hl rfl)
  · cases h
theorem am_W_iand (hf : fz.category = 1) (hx : p.tables.exec = Jvm.exec) (hb : c.code = cc)  (hd : decode cc pc = .ok (.iand, am_ln (.iand))) (h : am_q (.iand) L S = some (L', S')) (hl : am_lv (am_cv B sp fz) ls L) (kk : ∀ ls2 : Array Slot, am_lv (am_cv B sp fz) ls2 L' → L'.length = L.length → W p l e R s m args below meth c H locs cells slots Q (F0 m (pc + am_ln (.iand)) ls2 (S'.map (am_cv B sp fz)))) : W p l e R s m args below meth c H locs cells slots Q (F0 m pc ls (S.map (am_cv B sp fz))) := by
  simp only [am_q] at h
  split at h
  · cases h
    exact lv_iand hx hb hd (kk ls hl rfl)
  · cases h
theorem am_W_ior (hf : fz.category = 1) (hx : p.tables.exec = Jvm.exec) (hb : c.code = cc)  (hd : decode cc pc = .ok (.ior, am_ln (.ior))) (h : am_q (.ior) L S = some (L', S')) (hl : am_lv (am_cv B sp fz) ls L) (kk : ∀ ls2 : Array Slot, am_lv (am_cv B sp fz) ls2 L' → L'.length = L.length → W p l e R s m args below meth c H locs cells slots Q (F0 m (pc + am_ln (.ior)) ls2 (S'.map (am_cv B sp fz)))) : W p l e R s m args below meth c H locs cells slots Q (F0 m pc ls (S.map (am_cv B sp fz))) := by
  simp only [am_q] at h
  split at h
  · cases h
    exact lv_ior hx hb hd (kk ls hl rfl)
  · cases h
theorem am_W_ishl (hf : fz.category = 1) (hx : p.tables.exec = Jvm.exec) (hb : c.code = cc)  (hd : decode cc pc = .ok (.ishl, am_ln (.ishl))) (h : am_q (.ishl) L S = some (L', S')) (hl : am_lv (am_cv B sp fz) ls L) (kk : ∀ ls2 : Array Slot, am_lv (am_cv B sp fz) ls2 L' → L'.length = L.length → W p l e R s m args below meth c H locs cells slots Q (F0 m (pc + am_ln (.ishl)) ls2 (S'.map (am_cv B sp fz)))) : W p l e R s m args below meth c H locs cells slots Q (F0 m pc ls (S.map (am_cv B sp fz))) := by
  simp only [am_q] at h
  split at h
  · cases h
    exact lv_ishl hx hb hd (kk ls hl rfl)
  · cases h
theorem am_W_ishr (hf : fz.category = 1) (hx : p.tables.exec = Jvm.exec) (hb : c.code = cc)  (hd : decode cc pc = .ok (.ishr, am_ln (.ishr))) (h : am_q (.ishr) L S = some (L', S')) (hl : am_lv (am_cv B sp fz) ls L) (kk : ∀ ls2 : Array Slot, am_lv (am_cv B sp fz) ls2 L' → L'.length = L.length → W p l e R s m args below meth c H locs cells slots Q (F0 m (pc + am_ln (.ishr)) ls2 (S'.map (am_cv B sp fz)))) : W p l e R s m args below meth c H locs cells slots Q (F0 m pc ls (S.map (am_cv B sp fz))) := by
  simp only [am_q] at h
  split at h
  · cases h
    exact lv_ishr hx hb hd (kk ls hl rfl)
  · cases h
theorem am_W_lcmp (hf : fz.category = 1) (hx : p.tables.exec = Jvm.exec) (hb : c.code = cc)  (hd : decode cc pc = .ok (.lcmp, am_ln (.lcmp))) (h : am_q (.lcmp) L S = some (L', S')) (hl : am_lv (am_cv B sp fz) ls L) (kk : ∀ ls2 : Array Slot, am_lv (am_cv B sp fz) ls2 L' → L'.length = L.length → W p l e R s m args below meth c H locs cells slots Q (F0 m (pc + am_ln (.lcmp)) ls2 (S'.map (am_cv B sp fz)))) : W p l e R s m args below meth c H locs cells slots Q (F0 m pc ls (S.map (am_cv B sp fz))) := by
  simp only [am_q] at h
  split at h
  · cases h
    exact W.lcmp hx hb hd (kk ls hl rfl)
  · cases h
theorem am_W_ladd (hf : fz.category = 1) (hx : p.tables.exec = Jvm.exec) (hb : c.code = cc)  (hd : decode cc pc = .ok (.ladd, am_ln (.ladd))) (h : am_q (.ladd) L S = some (L', S')) (hl : am_lv (am_cv B sp fz) ls L) (kk : ∀ ls2 : Array Slot, am_lv (am_cv B sp fz) ls2 L' → L'.length = L.length → W p l e R s m args below meth c H locs cells slots Q (F0 m (pc + am_ln (.ladd)) ls2 (S'.map (am_cv B sp fz)))) : W p l e R s m args below meth c H locs cells slots Q (F0 m pc ls (S.map (am_cv B sp fz))) := by
  simp only [am_q] at h
  split at h
  · cases h
    exact lv_ladd hx hb hd (kk ls hl rfl)
  · cases h
theorem am_W_lsub (hf : fz.category = 1) (hx : p.tables.exec = Jvm.exec) (hb : c.code = cc)  (hd : decode cc pc = .ok (.lsub, am_ln (.lsub))) (h : am_q (.lsub) L S = some (L', S')) (hl : am_lv (am_cv B sp fz) ls L) (kk : ∀ ls2 : Array Slot, am_lv (am_cv B sp fz) ls2 L' → L'.length = L.length → W p l e R s m args below meth c H locs cells slots Q (F0 m (pc + am_ln (.lsub)) ls2 (S'.map (am_cv B sp fz)))) : W p l e R s m args below meth c H locs cells slots Q (F0 m pc ls (S.map (am_cv B sp fz))) := by
  simp only [am_q] at h
  split at h
  · cases h
    exact lv_lsub hx hb hd (kk ls hl rfl)
  · cases h
theorem am_W_lmul (hf : fz.category = 1) (hx : p.tables.exec = Jvm.exec) (hb : c.code = cc)  (hd : decode cc pc = .ok (.lmul, am_ln (.lmul))) (h : am_q (.lmul) L S = some (L', S')) (hl : am_lv (am_cv B sp fz) ls L) (kk : ∀ ls2 : Array Slot, am_lv (am_cv B sp fz) ls2 L' → L'.length = L.length → W p l e R s m args below meth c H locs cells slots Q (F0 m (pc + am_ln (.lmul)) ls2 (S'.map (am_cv B sp fz)))) : W p l e R s m args below meth c H locs cells slots Q (F0 m pc ls (S.map (am_cv B sp fz))) := by
  simp only [am_q] at h
  split at h
  · cases h
    exact lv_lmul hx hb hd (kk ls hl rfl)
  · cases h
theorem am_W_land (hf : fz.category = 1) (hx : p.tables.exec = Jvm.exec) (hb : c.code = cc)  (hd : decode cc pc = .ok (.land, am_ln (.land))) (h : am_q (.land) L S = some (L', S')) (hl : am_lv (am_cv B sp fz) ls L) (kk : ∀ ls2 : Array Slot, am_lv (am_cv B sp fz) ls2 L' → L'.length = L.length → W p l e R s m args below meth c H locs cells slots Q (F0 m (pc + am_ln (.land)) ls2 (S'.map (am_cv B sp fz)))) : W p l e R s m args below meth c H locs cells slots Q (F0 m pc ls (S.map (am_cv B sp fz))) := by
  simp only [am_q] at h
  split at h
  · cases h
    exact lv_land hx hb hd (kk ls hl rfl)
  · cases h
theorem am_W_lor (hf : fz.category = 1) (hx : p.tables.exec = Jvm.exec) (hb : c.code = cc)  (hd : decode cc pc = .ok (.lor, am_ln (.lor))) (h : am_q (.lor) L S = some (L', S')) (hl : am_lv (am_cv B sp fz) ls L) (kk : ∀ ls2 : Array Slot, am_lv (am_cv B sp fz) ls2 L' → L'.length = L.length → W p l e R s m args below meth c H locs cells slots Q (F0 m (pc + am_ln (.lor)) ls2 (S'.map (am_cv B sp fz)))) : W p l e R s m args below meth c H locs cells slots Q (F0 m pc ls (S.map (am_cv B sp fz))) := by
  simp only [am_q] at h
  split at h
  · cases h
    exact lv_lor hx hb hd (kk ls hl rfl)
  · cases h
theorem am_W_iushr (hf : fz.category = 1) (hx : p.tables.exec = Jvm.exec) (hb : c.code = cc)  (hd : decode cc pc = .ok (.iushr, am_ln (.iushr))) (h : am_q (.iushr) L S = some (L', S')) (hl : am_lv (am_cv B sp fz) ls L) (kk : ∀ ls2 : Array Slot, am_lv (am_cv B sp fz) ls2 L' → L'.length = L.length → W p l e R s m args below meth c H locs cells slots Q (F0 m (pc + am_ln (.iushr)) ls2 (S'.map (am_cv B sp fz)))) : W p l e R s m args below meth c H locs cells slots Q (F0 m pc ls (S.map (am_cv B sp fz))) := by
  simp only [am_q] at h
  split at h
  · cases h
    exact lv_iushr hx hb hd rfl (kk ls hl rfl)
  · cases h
theorem am_W_lshl (hf : fz.category = 1) (hx : p.tables.exec = Jvm.exec) (hb : c.code = cc)  (hd : decode cc pc = .ok (.lshl, am_ln (.lshl))) (h : am_q (.lshl) L S = some (L', S')) (hl : am_lv (am_cv B sp fz) ls L) (kk : ∀ ls2 : Array Slot, am_lv (am_cv B sp fz) ls2 L' → L'.length = L.length → W p l e R s m args below meth c H locs cells slots Q (F0 m (pc + am_ln (.lshl)) ls2 (S'.map (am_cv B sp fz)))) : W p l e R s m args below meth c H locs cells slots Q (F0 m pc ls (S.map (am_cv B sp fz))) := by
  simp only [am_q] at h
  split at h
  · cases h
    exact lv_lshl hx hb hd rfl (kk ls hl rfl)
  · cases h
theorem am_W_lshr (hf : fz.category = 1) (hx : p.tables.exec = Jvm.exec) (hb : c.code = cc)  (hd : decode cc pc = .ok (.lshr, am_ln (.lshr))) (h : am_q (.lshr) L S = some (L', S')) (hl : am_lv (am_cv B sp fz) ls L) (kk : ∀ ls2 : Array Slot, am_lv (am_cv B sp fz) ls2 L' → L'.length = L.length → W p l e R s m args below meth c H locs cells slots Q (F0 m (pc + am_ln (.lshr)) ls2 (S'.map (am_cv B sp fz)))) : W p l e R s m args below meth c H locs cells slots Q (F0 m pc ls (S.map (am_cv B sp fz))) := by
  simp only [am_q] at h
  split at h
  · cases h
    exact lv_lshr hx hb hd rfl (kk ls hl rfl)
  · cases h
theorem am_W_i2l (hf : fz.category = 1) (hx : p.tables.exec = Jvm.exec) (hb : c.code = cc)  (hd : decode cc pc = .ok (.i2l, am_ln (.i2l))) (h : am_q (.i2l) L S = some (L', S')) (hl : am_lv (am_cv B sp fz) ls L) (kk : ∀ ls2 : Array Slot, am_lv (am_cv B sp fz) ls2 L' → L'.length = L.length → W p l e R s m args below meth c H locs cells slots Q (F0 m (pc + am_ln (.i2l)) ls2 (S'.map (am_cv B sp fz)))) : W p l e R s m args below meth c H locs cells slots Q (F0 m pc ls (S.map (am_cv B sp fz))) := by
  simp only [am_q] at h
  split at h
  · cases h
    exact lv_i2l hx hb hd rfl (kk ls hl rfl)
  · cases h
theorem am_W_l2i (hf : fz.category = 1) (hx : p.tables.exec = Jvm.exec) (hb : c.code = cc)  (hd : decode cc pc = .ok (.l2i, am_ln (.l2i))) (h : am_q (.l2i) L S = some (L', S')) (hl : am_lv (am_cv B sp fz) ls L) (kk : ∀ ls2 : Array Slot, am_lv (am_cv B sp fz) ls2 L' → L'.length = L.length → W p l e R s m args below meth c H locs cells slots Q (F0 m (pc + am_ln (.l2i)) ls2 (S'.map (am_cv B sp fz)))) : W p l e R s m args below meth c H locs cells slots Q (F0 m pc ls (S.map (am_cv B sp fz))) := by
  simp only [am_q] at h
  split at h
  · cases h
    exact lv_l2i hx hb hd rfl (kk ls hl rfl)
  · cases h
theorem am_W_i2c (hf : fz.category = 1) (hx : p.tables.exec = Jvm.exec) (hb : c.code = cc)  (hd : decode cc pc = .ok (.i2c, am_ln (.i2c))) (h : am_q (.i2c) L S = some (L', S')) (hl : am_lv (am_cv B sp fz) ls L) (kk : ∀ ls2 : Array Slot, am_lv (am_cv B sp fz) ls2 L' → L'.length = L.length → W p l e R s m args below meth c H locs cells slots Q (F0 m (pc + am_ln (.i2c)) ls2 (S'.map (am_cv B sp fz)))) : W p l e R s m args below meth c H locs cells slots Q (F0 m pc ls (S.map (am_cv B sp fz))) := by
  simp only [am_q] at h
  split at h
  · cases h
    exact lv_i2c hx hb hd rfl (kk ls hl rfl)
  · cases h
theorem am_W_ineg (hf : fz.category = 1) (hx : p.tables.exec = Jvm.exec) (hb : c.code = cc)  (hd : decode cc pc = .ok (.ineg, am_ln (.ineg))) (h : am_q (.ineg) L S = some (L', S')) (hl : am_lv (am_cv B sp fz) ls L) (kk : ∀ ls2 : Array Slot, am_lv (am_cv B sp fz) ls2 L' → L'.length = L.length → W p l e R s m args below meth c H locs cells slots Q (F0 m (pc + am_ln (.ineg)) ls2 (S'.map (am_cv B sp fz)))) : W p l e R s m args below meth c H locs cells slots Q (F0 m pc ls (S.map (am_cv B sp fz))) := by
  simp only [am_q] at h
  split at h
  · cases h
    exact lv_ineg hx hb hd (kk ls hl rfl)
  · cases h
theorem am_W_idiv (hf : fz.category = 1) (hx : p.tables.exec = Jvm.exec) (hb : c.code = cc)  (hd : decode cc pc = .ok (.idiv, am_ln (.idiv))) (h : am_q (.idiv) L S = some (L', S')) (hl : am_lv (am_cv B sp fz) ls L) (kk : ∀ ls2 : Array Slot, am_lv (am_cv B sp fz) ls2 L' → L'.length = L.length → W p l e R s m args below meth c H locs cells slots Q (F0 m (pc + am_ln (.idiv)) ls2 (S'.map (am_cv B sp fz)))) : W p l e R s m args below meth c H locs cells slots Q (F0 m pc ls (S.map (am_cv B sp fz))) := by
  simp only [am_q] at h
  split at h
  · split at h
    · cases h
    · rename_i hz
      cases h
      exact lv_idiv hx hb hd hz (kk ls hl rfl)
  · cases h
theorem am_W_irem (hf : fz.category = 1) (hx : p.tables.exec = Jvm.exec) (hb : c.code = cc)  (hd : decode cc pc = .ok (.irem, am_ln (.irem))) (h : am_q (.irem) L S = some (L', S')) (hl : am_lv (am_cv B sp fz) ls L) (kk : ∀ ls2 : Array Slot, am_lv (am_cv B sp fz) ls2 L' → L'.length = L.length → W p l e R s m args below meth c H locs cells slots Q (F0 m (pc + am_ln (.irem)) ls2 (S'.map (am_cv B sp fz)))) : W p l e R s m args below meth c H locs cells slots Q (F0 m pc ls (S.map (am_cv B sp fz))) := by
  simp only [am_q] at h
  split at h
  · split at h
    · cases h
    · rename_i hz
      cases h
      exact lv_irem hx hb hd hz (kk ls hl rfl)
  · cases h
theorem am_W_ldiv (hf : fz.category = 1) (hx : p.tables.exec = Jvm.exec) (hb : c.code = cc)  (hd : decode cc pc = .ok (.ldiv, am_ln (.ldiv))) (h : am_q (.ldiv) L S = some (L', S')) (hl : am_lv (am_cv B sp fz) ls L) (kk : ∀ ls2 : Array Slot, am_lv (am_cv B sp fz) ls2 L' → L'.length = L.length → W p l e R s m args below meth c H locs cells slots Q (F0 m (pc + am_ln (.ldiv)) ls2 (S'.map (am_cv B sp fz)))) : W p l e R s m args below meth c H locs cells slots Q (F0 m pc ls (S.map (am_cv B sp fz))) := by
  simp only [am_q] at h
  split at h
  · split at h
    · cases h
    · rename_i hz
      cases h
      exact lv_ldiv hx hb hd hz (kk ls hl rfl)
  · cases h
theorem am_W_dup (hf : fz.category = 1) (hx : p.tables.exec = Jvm.exec) (hb : c.code = cc)  (hd : decode cc pc = .ok (.dup, am_ln (.dup))) (h : am_q (.dup) L S = some (L', S')) (hl : am_lv (am_cv B sp fz) ls L) (kk : ∀ ls2 : Array Slot, am_lv (am_cv B sp fz) ls2 L' → L'.length = L.length → W p l e R s m args below meth c H locs cells slots Q (F0 m (pc + am_ln (.dup)) ls2 (S'.map (am_cv B sp fz)))) : W p l e R s m args below meth c H locs cells slots Q (F0 m pc ls (S.map (am_cv B sp fz))) := by
  simp only [am_q] at h
  split at h
  · rename_i v T
    split at h
    · cases h
    · rename_i hz
      cases h
      exact lv_dup hx hb hd (by rw [am_cv_cat hf]; exact am_wide_c (by simpa using hz)) (kk ls hl rfl)
  · cases h
theorem am_W_pop (hf : fz.category = 1) (hx : p.tables.exec = Jvm.exec) (hb : c.code = cc)  (hd : decode cc pc = .ok (.pop, am_ln (.pop))) (h : am_q (.pop) L S = some (L', S')) (hl : am_lv (am_cv B sp fz) ls L) (kk : ∀ ls2 : Array Slot, am_lv (am_cv B sp fz) ls2 L' → L'.length = L.length → W p l e R s m args below meth c H locs cells slots Q (F0 m (pc + am_ln (.pop)) ls2 (S'.map (am_cv B sp fz)))) : W p l e R s m args below meth c H locs cells slots Q (F0 m pc ls (S.map (am_cv B sp fz))) := by
  simp only [am_q] at h
  split at h
  · rename_i v T
    split at h
    · cases h
    · rename_i hz
      cases h
      exact lv_pop hx hb hd (by rw [am_cv_cat hf]; exact am_wide_c (by simpa using hz)) (kk ls hl rfl)
  · cases h
theorem am_W_dup_x1 (hf : fz.category = 1) (hx : p.tables.exec = Jvm.exec) (hb : c.code = cc)  (hd : decode cc pc = .ok (.dup_x1, am_ln (.dup_x1))) (h : am_q (.dup_x1) L S = some (L', S')) (hl : am_lv (am_cv B sp fz) ls L) (kk : ∀ ls2 : Array Slot, am_lv (am_cv B sp fz) ls2 L' → L'.length = L.length → W p l e R s m args below meth c H locs cells slots Q (F0 m (pc + am_ln (.dup_x1)) ls2 (S'.map (am_cv B sp fz)))) : W p l e R s m args below meth c H locs cells slots Q (F0 m pc ls (S.map (am_cv B sp fz))) := by
  simp only [am_q] at h
  split at h
  · rename_i v w T
    split at h
    · cases h
    · rename_i hz
      cases h
      simp only [Bool.or_eq_true, not_or, Bool.not_eq_true] at hz
      exact lv_dup_x1 hx hb hd (by rw [am_cv_cat hf]; exact am_wide_c hz.1) (by rw [am_cv_cat hf]; exact am_wide_c hz.2) (kk ls hl rfl)
  · cases h
theorem am_W_dup2 (hf : fz.category = 1) (hx : p.tables.exec = Jvm.exec) (hb : c.code = cc)  (hd : decode cc pc = .ok (.dup2, am_ln (.dup2))) (h : am_q (.dup2) L S = some (L', S')) (hl : am_lv (am_cv B sp fz) ls L) (kk : ∀ ls2 : Array Slot, am_lv (am_cv B sp fz) ls2 L' → L'.length = L.length → W p l e R s m args below meth c H locs cells slots Q (F0 m (pc + am_ln (.dup2)) ls2 (S'.map (am_cv B sp fz)))) : W p l e R s m args below meth c H locs cells slots Q (F0 m pc ls (S.map (am_cv B sp fz))) := by
  simp only [am_q] at h
  split at h
  · rename_i v w T
    split at h
    · cases h
    · rename_i hz
      cases h
      simp only [Bool.or_eq_true, not_or, Bool.not_eq_true] at hz
      exact lv_dup2_11 hx hb hd (by rw [am_cv_cat hf]; exact am_wide_c hz.1) (by rw [am_cv_cat hf]; exact am_wide_c hz.2) (kk ls hl rfl)
  · cases h
set_option maxHeartbeats 4000000 in
theorem am_W_all (hf : fz.category = 1) (hx : p.tables.exec = Jvm.exec) (hb : c.code = cc) {ins : Instr} (hd : decode cc pc = .ok (ins, am_ln (ins))) (h : am_q (ins) L S = some (L', S')) (hl : am_lv (am_cv B sp fz) ls L) (kk : ∀ ls2 : Array Slot, am_lv (am_cv B sp fz) ls2 L' → L'.length = L.length → W p l e R s m args below meth c H locs cells slots Q (F0 m (pc + am_ln (ins)) ls2 (S'.map (am_cv B sp fz)))) : W p l e R s m args below meth c H locs cells slots Q (F0 m pc ls (S.map (am_cv B sp fz))) := by
  cases ins with
  | iconst _ => exact am_W_iconst hf hx hb hd h hl kk
  | bipush _ => exact am_W_bipush hf hx hb hd h hl kk
  | sipush _ => exact am_W_sipush hf hx hb hd h hl kk
  | lconst _ => exact am_W_lconst hf hx hb hd h hl kk
  | iload _ => exact am_W_iload hf hx hb hd h hl kk
  | lload _ => exact am_W_lload hf hx hb hd h hl kk
  | aload _ => exact am_W_aload hf hx hb hd h hl kk
  | iload_n _ => exact am_W_iload_n hf hx hb hd h hl kk
  | lload_n _ => exact am_W_lload_n hf hx hb hd h hl kk
  | aload_n _ => exact am_W_aload_n hf hx hb hd h hl kk
  | istore _ => exact am_W_istore hf hx hb hd h hl kk
  | istore_n _ => exact am_W_istore_n hf hx hb hd h hl kk
  | astore _ => exact am_W_astore hf hx hb hd h hl kk
  | astore_n _ => exact am_W_astore_n hf hx hb hd h hl kk
  | lstore _ => exact am_W_lstore hf hx hb hd h hl kk
  | lstore_n _ => exact am_W_lstore_n hf hx hb hd h hl kk
  | iadd => exact am_W_iadd hf hx hb hd h hl kk
  | isub => exact am_W_isub hf hx hb hd h hl kk
  | imul => exact am_W_imul hf hx hb hd h hl kk
  | iand => exact am_W_iand hf hx hb hd h hl kk
  | ior => exact am_W_ior hf hx hb hd h hl kk
  | ishl => exact am_W_ishl hf hx hb hd h hl kk
  | ishr => exact am_W_ishr hf hx hb hd h hl kk
  | ladd => exact am_W_ladd hf hx hb hd h hl kk
  | lsub => exact am_W_lsub hf hx hb hd h hl kk
  | lmul => exact am_W_lmul hf hx hb hd h hl kk
  | land => exact am_W_land hf hx hb hd h hl kk
  | lor => exact am_W_lor hf hx hb hd h hl kk
  | iushr => exact am_W_iushr hf hx hb hd h hl kk
  | lshl => exact am_W_lshl hf hx hb hd h hl kk
  | lshr => exact am_W_lshr hf hx hb hd h hl kk
  | idiv => exact am_W_idiv hf hx hb hd h hl kk
  | irem => exact am_W_irem hf hx hb hd h hl kk
  | ldiv => exact am_W_ldiv hf hx hb hd h hl kk
  | ineg => exact am_W_ineg hf hx hb hd h hl kk
  | i2l => exact am_W_i2l hf hx hb hd h hl kk
  | l2i => exact am_W_l2i hf hx hb hd h hl kk
  | i2c => exact am_W_i2c hf hx hb hd h hl kk
  | lcmp => exact am_W_lcmp hf hx hb hd h hl kk
  | dup => exact am_W_dup hf hx hb hd h hl kk
  | pop => exact am_W_pop hf hx hb hd h hl kk
  | dup_x1 => exact am_W_dup_x1 hf hx hb hd h hl kk
  | dup2 => exact am_W_dup2 hf hx hb hd h hl kk
  | iinc _ _ => exact am_W_iinc hf hx hb hd h hl kk
  | _ => cases h
end AMQ
