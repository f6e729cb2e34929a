/-! ===== rows may be told anew behind an array's end; a drift's rows ===== -/
theorem ws_mr {D : va_G} {G : am_G} {B : Nat} {sp : Nat → Nat} {sh : List am_E} {M : am_M} {N : am_N} {k n : Nat} {f : Nat → Int32} {H : Heap} (hk : sh[k]? = some (.inl (0, n))) (hf : ∀ j, j < n → f j = M k j) (h : va_P D vwCl (am_ws G B sp sh M N) H) : va_P D vwCl (am_ws G B sp sh (am_upR M k f) N) H := by
  intro a q hq
  by_cases ha : a = k
  · subst ha
    rw [am_ws_get hk] at hq
    cases hq
    have h1 := h a _ (am_ws_get hk)
    have h2 : H[am_ad B sp a]? = some (vp_cell G.1 (n, .inl (M a))) := h1
    show H[am_ad B sp a]? = some (vp_cell G.1 (n, .inl (am_upR M a f a)))
    have e : (fun j : Fin n => Value.int (M a j.val)) = fun j : Fin n => Value.int (f j.val) := funext fun j => by rw [hf j.val j.isLt]
    have e2 : vp_cell G.1 (n, .inl (M a)) = vp_cell G.1 (n, .inl f) := congrArg (fun g : Fin n → Value => ({ cls := G.1, slots := Array.ofFn g, vm := .none } : Cell)) e
    rw [h2, e2, upR_r]
  · have e : (am_ws G B sp sh (am_upR M k f) N)[a]? = (am_ws G B sp sh M N)[a]? := by
      unfold am_ws
      rw [List.getElem?_mapIdx, List.getElem?_mapIdx]
      cases sh[a]? with
      | none => rfl
      | some x =>
        simp only [Option.map_some]
        rw [am_ce_eq (upR_n ha) rfl]
    rw [e] at hq
    exact h a q hq
theorem ws_D {G : am_G} {B : Nat} {sp : Nat → Nat} {sh : List am_E} {M M' : am_M} {N N' : am_N} (h : va_D (am_A B) (am_ws G B sp sh M N)) : va_D (am_A B) (am_ws G B sp sh M' N') := by
  have key : ∀ (i : Nat) (p : Nat × va_E), (am_ws G B sp sh M' N')[i]? = some p → ∃ e, (am_ws G B sp sh M N)[i]? = some (p.1, e) := by
    intro i p hp
    unfold am_ws at hp ⊢
    rw [List.getElem?_mapIdx] at hp ⊢
    cases hs : sh[i]? with
    | none =>
      rw [hs] at hp
      cases hp
    | some x =>
      rw [hs] at hp
      cases hp
      exact ⟨_, rfl⟩
  refine ⟨fun i j p q hp hq e => ?_, fun k q hq => ?_⟩
  · obtain ⟨e1, h1⟩ := key i p hp
    obtain ⟨e2, h2⟩ := key j q hq
    exact h.1 i j _ _ h1 h2 e
  · obtain ⟨e1, h1⟩ := key k q hq
    exact (h.2 k (q.1, e1) h1 : am_A B q.1)
theorem J_mr {X : am_X} {Q : am_Q} {i pc : Nat} {L S : am_V} {M : am_M} {N : am_N} (k : Nat) {n : Nat} (f : Nat → Int32) (hk : am_SH[k]? = some (.inl (0, n))) (hf : ∀ j, j < n → f j = M k j) (kk : am_J X Q i pc L S (am_upR M k f) N) : am_J X Q i pc L S M N := by
  refine ⟨kk.1, kk.2.1, fun p e R s m args below meth c H locs ls cells slots C St => ?_⟩
  obtain ⟨a1, a2, a3, a4, a5, a6, a7, a8⟩ := St
  exact kk.2.2 p e R s m args below meth c H locs ls cells slots C ⟨a1, a2, ws_mr hk hf a3, ws_D a4, a5, a6, a7, a8⟩
theorem J_mem {X : am_X} {Q : am_Q} {i pc : Nat} {L S : am_V} {M M' : am_M} {N : am_N} (e : M = M') (kk : am_J X Q i pc L S M' N) : am_J X Q i pc L S M N := by
  rw [e]
  exact kk
theorem I_ss (a b c : Int32) : a - (b + c) = a - b - c := by
  rw [Int32.sub_eq_add_neg, Int32.neg_add, Int32.sub_eq_add_neg, Int32.sub_eq_add_neg, Int32.sub_eq_add_neg, Int32.add_assoc]
/-- a drift in the cells b .. b + 5 -/
def dr_D (M : am_M) (b : Nat) (kd mo sk gn ew nw : Int32) (sh : Nat → Int32) (st : am_M) : am_M := fun r j =>
  if r = b then (if j = 6 then kd else if j = 7 then mo else if j = 8 then sk else if j = 9 then gn else if j = 10 then ew else if j = 11 then nw else if j = 12 then st 0 12 else if j = 13 then st 0 13 else if j = 14 then st 0 14 else M b j)
  else if r = b + 1 then st 1 j else if r = b + 2 then st 2 j else if r = b + 3 then st 3 j else if r = b + 4 then st 4 j else if r = b + 5 then sh j else M r j
/-- the reference's -/
def dr_R (M : am_M) (st : am_M) : am_M := fun r j =>
  if r = 120 then (if j = 27 then st 0 12 else if j = 28 then st 0 13 else if j = 29 then st 0 14 else M 120 j)
  else if r = 143 then st 1 j else if r = 144 then st 2 j else if r = 145 then st 3 j else if r = 146 then st 4 j else M r j
theorem D_st {M : am_M} {b : Nat} {kd mo sk gn ew nw : Int32} {sh : Nat → Int32} {st st' : am_M} (h1 : st 1 = st' 1) (h2 : st 2 = st' 2) (h3 : st 3 = st' 3) (h4 : st 4 = st' 4) (h5 : st 0 12 = st' 0 12) (h6 : st 0 13 = st' 0 13) (h7 : st 0 14 = st' 0 14) : dr_D M b kd mo sk gn ew nw sh st = dr_D M b kd mo sk gn ew nw sh st' := by
  unfold dr_D
  rw [h1, h2, h3, h4, h5, h6, h7]
theorem R_st {M : am_M} {st st' : am_M} (h1 : st 1 = st' 1) (h2 : st 2 = st' 2) (h3 : st 3 = st' 3) (h4 : st 4 = st' 4) (h5 : st 0 12 = st' 0 12) (h6 : st 0 13 = st' 0 13) (h7 : st 0 14 = st' 0 14) : dr_R M st = dr_R M st' := by
  unfold dr_R
  rw [h1, h2, h3, h4, h5, h6, h7]
theorem D_n {M : am_M} {b : Nat} {kd mo sk gn ew nw : Int32} {sh : Nat → Int32} {st : am_M} {r : Nat} (h : r < b ∨ b + 5 < r) : dr_D M b kd mo sk gn ew nw sh st r = M r := by
  funext j
  unfold dr_D
  rw [if_neg (by omega), if_neg (by omega), if_neg (by omega), if_neg (by omega), if_neg (by omega), if_neg (by omega)]
theorem R_n {M st : am_M} {r : Nat} (h : r ≠ 120 ∧ (r < 143 ∨ 146 < r)) : dr_R M st r = M r := by
  funext j
  unfold dr_R
  rw [if_neg (by omega), if_neg (by omega), if_neg (by omega), if_neg (by omega), if_neg (by omega)]
theorem R_120 {M st : am_M} {j : Nat} (h : j < 27 ∨ 29 < j) : dr_R M st 120 j = M 120 j := by
  unfold dr_R
  rw [if_pos rfl, if_neg (by omega), if_neg (by omega), if_neg (by omega)]
theorem D40_u1 {M : am_M} {kd mo sk gn ew nw : Int32} {sh : Nat → Int32} {st : am_M} {i : Nat} {x : Int32} : am_up (dr_D M 40 kd mo sk gn ew nw sh st) 41 i x = dr_D M 40 kd mo sk gn ew nw sh (am_up st 1 i x) := by
  funext r j
  by_cases h : r = 41
  · subst h
    rfl
  · unfold am_up dr_D
    simp [h]
theorem D40_r1 {M : am_M} {kd mo sk gn ew nw : Int32} {sh : Nat → Int32} {st : am_M} {f : Nat → Int32} : am_upR (dr_D M 40 kd mo sk gn ew nw sh st) 41 f = dr_D M 40 kd mo sk gn ew nw sh (am_upR st 1 f) := by
  funext r j
  by_cases h : r = 41
  · subst h
    rfl
  · unfold am_upR dr_D
    simp [h]
theorem D40_u2 {M : am_M} {kd mo sk gn ew nw : Int32} {sh : Nat → Int32} {st : am_M} {i : Nat} {x : Int32} : am_up (dr_D M 40 kd mo sk gn ew nw sh st) 42 i x = dr_D M 40 kd mo sk gn ew nw sh (am_up st 2 i x) := by
  funext r j
  by_cases h : r = 42
  · subst h
    rfl
  · unfold am_up dr_D
    simp [h]
theorem D40_r2 {M : am_M} {kd mo sk gn ew nw : Int32} {sh : Nat → Int32} {st : am_M} {f : Nat → Int32} : am_upR (dr_D M 40 kd mo sk gn ew nw sh st) 42 f = dr_D M 40 kd mo sk gn ew nw sh (am_upR st 2 f) := by
  funext r j
  by_cases h : r = 42
  · subst h
    rfl
  · unfold am_upR dr_D
    simp [h]
theorem D40_u3 {M : am_M} {kd mo sk gn ew nw : Int32} {sh : Nat → Int32} {st : am_M} {i : Nat} {x : Int32} : am_up (dr_D M 40 kd mo sk gn ew nw sh st) 43 i x = dr_D M 40 kd mo sk gn ew nw sh (am_up st 3 i x) := by
  funext r j
  by_cases h : r = 43
  · subst h
    rfl
  · unfold am_up dr_D
    simp [h]
theorem D40_r3 {M : am_M} {kd mo sk gn ew nw : Int32} {sh : Nat → Int32} {st : am_M} {f : Nat → Int32} : am_upR (dr_D M 40 kd mo sk gn ew nw sh st) 43 f = dr_D M 40 kd mo sk gn ew nw sh (am_upR st 3 f) := by
  funext r j
  by_cases h : r = 43
  · subst h
    rfl
  · unfold am_upR dr_D
    simp [h]
theorem D40_u4 {M : am_M} {kd mo sk gn ew nw : Int32} {sh : Nat → Int32} {st : am_M} {i : Nat} {x : Int32} : am_up (dr_D M 40 kd mo sk gn ew nw sh st) 44 i x = dr_D M 40 kd mo sk gn ew nw sh (am_up st 4 i x) := by
  funext r j
  by_cases h : r = 44
  · subst h
    rfl
  · unfold am_up dr_D
    simp [h]
theorem D40_r4 {M : am_M} {kd mo sk gn ew nw : Int32} {sh : Nat → Int32} {st : am_M} {f : Nat → Int32} : am_upR (dr_D M 40 kd mo sk gn ew nw sh st) 44 f = dr_D M 40 kd mo sk gn ew nw sh (am_upR st 4 f) := by
  funext r j
  by_cases h : r = 44
  · subst h
    rfl
  · unfold am_upR dr_D
    simp [h]
theorem D40_s {M : am_M} {kd mo sk gn ew nw : Int32} {sh : Nat → Int32} {st : am_M} {f : Nat → Int32} : am_upR (dr_D M 40 kd mo sk gn ew nw sh st) 45 f = dr_D M 40 kd mo sk gn ew nw f st := by
  funext r j
  by_cases h : r = 45
  · subst h
    rfl
  · unfold am_upR dr_D
    simp [h]
theorem D40_f6 {M : am_M} {kd mo sk gn ew nw : Int32} {sh : Nat → Int32} {st : am_M} {x : Int32} : am_up (dr_D M 40 kd mo sk gn ew nw sh st) 40 6 x = dr_D M 40 x mo sk gn ew nw sh st := by
  funext r j
  by_cases h : r = 40
  · subst h
    by_cases h2 : j = 6
    · subst h2
      rfl
    · unfold am_up dr_D
      simp [h2]
  · unfold am_up dr_D
    simp [h]
theorem D40_f7 {M : am_M} {kd mo sk gn ew nw : Int32} {sh : Nat → Int32} {st : am_M} {x : Int32} : am_up (dr_D M 40 kd mo sk gn ew nw sh st) 40 7 x = dr_D M 40 kd x sk gn ew nw sh st := by
  funext r j
  by_cases h : r = 40
  · subst h
    by_cases h2 : j = 7
    · subst h2
      rfl
    · unfold am_up dr_D
      simp [h2]
  · unfold am_up dr_D
    simp [h]
theorem D40_f8 {M : am_M} {kd mo sk gn ew nw : Int32} {sh : Nat → Int32} {st : am_M} {x : Int32} : am_up (dr_D M 40 kd mo sk gn ew nw sh st) 40 8 x = dr_D M 40 kd mo x gn ew nw sh st := by
  funext r j
  by_cases h : r = 40
  · subst h
    by_cases h2 : j = 8
    · subst h2
      rfl
    · unfold am_up dr_D
      simp [h2]
  · unfold am_up dr_D
    simp [h]
theorem D40_f9 {M : am_M} {kd mo sk gn ew nw : Int32} {sh : Nat → Int32} {st : am_M} {x : Int32} : am_up (dr_D M 40 kd mo sk gn ew nw sh st) 40 9 x = dr_D M 40 kd mo sk x ew nw sh st := by
  funext r j
  by_cases h : r = 40
  · subst h
    by_cases h2 : j = 9
    · subst h2
      rfl
    · unfold am_up dr_D
      simp [h2]
  · unfold am_up dr_D
    simp [h]
theorem D40_f10 {M : am_M} {kd mo sk gn ew nw : Int32} {sh : Nat → Int32} {st : am_M} {x : Int32} : am_up (dr_D M 40 kd mo sk gn ew nw sh st) 40 10 x = dr_D M 40 kd mo sk gn x nw sh st := by
  funext r j
  by_cases h : r = 40
  · subst h
    by_cases h2 : j = 10
    · subst h2
      rfl
    · unfold am_up dr_D
      simp [h2]
  · unfold am_up dr_D
    simp [h]
theorem D40_f11 {M : am_M} {kd mo sk gn ew nw : Int32} {sh : Nat → Int32} {st : am_M} {x : Int32} : am_up (dr_D M 40 kd mo sk gn ew nw sh st) 40 11 x = dr_D M 40 kd mo sk gn ew x sh st := by
  funext r j
  by_cases h : r = 40
  · subst h
    by_cases h2 : j = 11
    · subst h2
      rfl
    · unfold am_up dr_D
      simp [h2]
  · unfold am_up dr_D
    simp [h]
theorem D40_f12 {M : am_M} {kd mo sk gn ew nw : Int32} {sh : Nat → Int32} {st : am_M} {x : Int32} : am_up (dr_D M 40 kd mo sk gn ew nw sh st) 40 12 x = dr_D M 40 kd mo sk gn ew nw sh (am_up st 0 12 x) := by
  funext r j
  by_cases h : r = 40
  · subst h
    by_cases h2 : j = 12
    · subst h2
      rfl
    · unfold am_up dr_D
      simp [h2]
  · unfold am_up dr_D
    simp [h]
theorem D40_f13 {M : am_M} {kd mo sk gn ew nw : Int32} {sh : Nat → Int32} {st : am_M} {x : Int32} : am_up (dr_D M 40 kd mo sk gn ew nw sh st) 40 13 x = dr_D M 40 kd mo sk gn ew nw sh (am_up st 0 13 x) := by
  funext r j
  by_cases h : r = 40
  · subst h
    by_cases h2 : j = 13
    · subst h2
      rfl
    · unfold am_up dr_D
      simp [h2]
  · unfold am_up dr_D
    simp [h]
theorem D40_f14 {M : am_M} {kd mo sk gn ew nw : Int32} {sh : Nat → Int32} {st : am_M} {x : Int32} : am_up (dr_D M 40 kd mo sk gn ew nw sh st) 40 14 x = dr_D M 40 kd mo sk gn ew nw sh (am_up st 0 14 x) := by
  funext r j
  by_cases h : r = 40
  · subst h
    by_cases h2 : j = 14
    · subst h2
      rfl
    · unfold am_up dr_D
      simp [h2]
  · unfold am_up dr_D
    simp [h]
theorem D40_of (M : am_M) : M = dr_D M 40 (M 40 6) (M 40 7) (M 40 8) (M 40 9) (M 40 10) (M 40 11) (M 45) (fun k j => if k = 0 then M 40 j else M (40 + k) j) := by
  funext r j
  unfold dr_D
  (repeat' split) <;> subst_vars <;> rfl
theorem D46_u1 {M : am_M} {kd mo sk gn ew nw : Int32} {sh : Nat → Int32} {st : am_M} {i : Nat} {x : Int32} : am_up (dr_D M 46 kd mo sk gn ew nw sh st) 47 i x = dr_D M 46 kd mo sk gn ew nw sh (am_up st 1 i x) := by
  funext r j
  by_cases h : r = 47
  · subst h
    rfl
  · unfold am_up dr_D
    simp [h]
theorem D46_r1 {M : am_M} {kd mo sk gn ew nw : Int32} {sh : Nat → Int32} {st : am_M} {f : Nat → Int32} : am_upR (dr_D M 46 kd mo sk gn ew nw sh st) 47 f = dr_D M 46 kd mo sk gn ew nw sh (am_upR st 1 f) := by
  funext r j
  by_cases h : r = 47
  · subst h
    rfl
  · unfold am_upR dr_D
    simp [h]
theorem D46_u2 {M : am_M} {kd mo sk gn ew nw : Int32} {sh : Nat → Int32} {st : am_M} {i : Nat} {x : Int32} : am_up (dr_D M 46 kd mo sk gn ew nw sh st) 48 i x = dr_D M 46 kd mo sk gn ew nw sh (am_up st 2 i x) := by
  funext r j
  by_cases h : r = 48
  · subst h
    rfl
  · unfold am_up dr_D
    simp [h]
theorem D46_r2 {M : am_M} {kd mo sk gn ew nw : Int32} {sh : Nat → Int32} {st : am_M} {f : Nat → Int32} : am_upR (dr_D M 46 kd mo sk gn ew nw sh st) 48 f = dr_D M 46 kd mo sk gn ew nw sh (am_upR st 2 f) := by
  funext r j
  by_cases h : r = 48
  · subst h
    rfl
  · unfold am_upR dr_D
    simp [h]
theorem D46_u3 {M : am_M} {kd mo sk gn ew nw : Int32} {sh : Nat → Int32} {st : am_M} {i : Nat} {x : Int32} : am_up (dr_D M 46 kd mo sk gn ew nw sh st) 49 i x = dr_D M 46 kd mo sk gn ew nw sh (am_up st 3 i x) := by
  funext r j
  by_cases h : r = 49
  · subst h
    rfl
  · unfold am_up dr_D
    simp [h]
theorem D46_r3 {M : am_M} {kd mo sk gn ew nw : Int32} {sh : Nat → Int32} {st : am_M} {f : Nat → Int32} : am_upR (dr_D M 46 kd mo sk gn ew nw sh st) 49 f = dr_D M 46 kd mo sk gn ew nw sh (am_upR st 3 f) := by
  funext r j
  by_cases h : r = 49
  · subst h
    rfl
  · unfold am_upR dr_D
    simp [h]
theorem D46_u4 {M : am_M} {kd mo sk gn ew nw : Int32} {sh : Nat → Int32} {st : am_M} {i : Nat} {x : Int32} : am_up (dr_D M 46 kd mo sk gn ew nw sh st) 50 i x = dr_D M 46 kd mo sk gn ew nw sh (am_up st 4 i x) := by
  funext r j
  by_cases h : r = 50
  · subst h
    rfl
  · unfold am_up dr_D
    simp [h]
theorem D46_r4 {M : am_M} {kd mo sk gn ew nw : Int32} {sh : Nat → Int32} {st : am_M} {f : Nat → Int32} : am_upR (dr_D M 46 kd mo sk gn ew nw sh st) 50 f = dr_D M 46 kd mo sk gn ew nw sh (am_upR st 4 f) := by
  funext r j
  by_cases h : r = 50
  · subst h
    rfl
  · unfold am_upR dr_D
    simp [h]
theorem D46_s {M : am_M} {kd mo sk gn ew nw : Int32} {sh : Nat → Int32} {st : am_M} {f : Nat → Int32} : am_upR (dr_D M 46 kd mo sk gn ew nw sh st) 51 f = dr_D M 46 kd mo sk gn ew nw f st := by
  funext r j
  by_cases h : r = 51
  · subst h
    rfl
  · unfold am_upR dr_D
    simp [h]
theorem D46_f6 {M : am_M} {kd mo sk gn ew nw : Int32} {sh : Nat → Int32} {st : am_M} {x : Int32} : am_up (dr_D M 46 kd mo sk gn ew nw sh st) 46 6 x = dr_D M 46 x mo sk gn ew nw sh st := by
  funext r j
  by_cases h : r = 46
  · subst h
    by_cases h2 : j = 6
    · subst h2
      rfl
    · unfold am_up dr_D
      simp [h2]
  · unfold am_up dr_D
    simp [h]
theorem D46_f7 {M : am_M} {kd mo sk gn ew nw : Int32} {sh : Nat → Int32} {st : am_M} {x : Int32} : am_up (dr_D M 46 kd mo sk gn ew nw sh st) 46 7 x = dr_D M 46 kd x sk gn ew nw sh st := by
  funext r j
  by_cases h : r = 46
  · subst h
    by_cases h2 : j = 7
    · subst h2
      rfl
    · unfold am_up dr_D
      simp [h2]
  · unfold am_up dr_D
    simp [h]
theorem D46_f8 {M : am_M} {kd mo sk gn ew nw : Int32} {sh : Nat → Int32} {st : am_M} {x : Int32} : am_up (dr_D M 46 kd mo sk gn ew nw sh st) 46 8 x = dr_D M 46 kd mo x gn ew nw sh st := by
  funext r j
  by_cases h : r = 46
  · subst h
    by_cases h2 : j = 8
    · subst h2
      rfl
    · unfold am_up dr_D
      simp [h2]
  · unfold am_up dr_D
    simp [h]
theorem D46_f9 {M : am_M} {kd mo sk gn ew nw : Int32} {sh : Nat → Int32} {st : am_M} {x : Int32} : am_up (dr_D M 46 kd mo sk gn ew nw sh st) 46 9 x = dr_D M 46 kd mo sk x ew nw sh st := by
  funext r j
  by_cases h : r = 46
  · subst h
    by_cases h2 : j = 9
    · subst h2
      rfl
    · unfold am_up dr_D
      simp [h2]
  · unfold am_up dr_D
    simp [h]
theorem D46_f10 {M : am_M} {kd mo sk gn ew nw : Int32} {sh : Nat → Int32} {st : am_M} {x : Int32} : am_up (dr_D M 46 kd mo sk gn ew nw sh st) 46 10 x = dr_D M 46 kd mo sk gn x nw sh st := by
  funext r j
  by_cases h : r = 46
  · subst h
    by_cases h2 : j = 10
    · subst h2
      rfl
    · unfold am_up dr_D
      simp [h2]
  · unfold am_up dr_D
    simp [h]
theorem D46_f11 {M : am_M} {kd mo sk gn ew nw : Int32} {sh : Nat → Int32} {st : am_M} {x : Int32} : am_up (dr_D M 46 kd mo sk gn ew nw sh st) 46 11 x = dr_D M 46 kd mo sk gn ew x sh st := by
  funext r j
  by_cases h : r = 46
  · subst h
    by_cases h2 : j = 11
    · subst h2
      rfl
    · unfold am_up dr_D
      simp [h2]
  · unfold am_up dr_D
    simp [h]
theorem D46_f12 {M : am_M} {kd mo sk gn ew nw : Int32} {sh : Nat → Int32} {st : am_M} {x : Int32} : am_up (dr_D M 46 kd mo sk gn ew nw sh st) 46 12 x = dr_D M 46 kd mo sk gn ew nw sh (am_up st 0 12 x) := by
  funext r j
  by_cases h : r = 46
  · subst h
    by_cases h2 : j = 12
    · subst h2
      rfl
    · unfold am_up dr_D
      simp [h2]
  · unfold am_up dr_D
    simp [h]
theorem D46_f13 {M : am_M} {kd mo sk gn ew nw : Int32} {sh : Nat → Int32} {st : am_M} {x : Int32} : am_up (dr_D M 46 kd mo sk gn ew nw sh st) 46 13 x = dr_D M 46 kd mo sk gn ew nw sh (am_up st 0 13 x) := by
  funext r j
  by_cases h : r = 46
  · subst h
    by_cases h2 : j = 13
    · subst h2
      rfl
    · unfold am_up dr_D
      simp [h2]
  · unfold am_up dr_D
    simp [h]
theorem D46_f14 {M : am_M} {kd mo sk gn ew nw : Int32} {sh : Nat → Int32} {st : am_M} {x : Int32} : am_up (dr_D M 46 kd mo sk gn ew nw sh st) 46 14 x = dr_D M 46 kd mo sk gn ew nw sh (am_up st 0 14 x) := by
  funext r j
  by_cases h : r = 46
  · subst h
    by_cases h2 : j = 14
    · subst h2
      rfl
    · unfold am_up dr_D
      simp [h2]
  · unfold am_up dr_D
    simp [h]
theorem D46_of (M : am_M) : M = dr_D M 46 (M 46 6) (M 46 7) (M 46 8) (M 46 9) (M 46 10) (M 46 11) (M 51) (fun k j => if k = 0 then M 46 j else M (46 + k) j) := by
  funext r j
  unfold dr_D
  (repeat' split) <;> subst_vars <;> rfl
theorem R_u1 {M st : am_M} {i : Nat} {x : Int32} : am_up (dr_R M st) 143 i x = dr_R M (am_up st 1 i x) := by
  funext r j
  by_cases h : r = 143
  · subst h
    rfl
  · unfold am_up dr_R
    simp [h]
theorem R_r1 {M st : am_M} {f : Nat → Int32} : am_upR (dr_R M st) 143 f = dr_R M (am_upR st 1 f) := by
  funext r j
  by_cases h : r = 143
  · subst h
    rfl
  · unfold am_upR dr_R
    simp [h]
theorem R_u2 {M st : am_M} {i : Nat} {x : Int32} : am_up (dr_R M st) 144 i x = dr_R M (am_up st 2 i x) := by
  funext r j
  by_cases h : r = 144
  · subst h
    rfl
  · unfold am_up dr_R
    simp [h]
theorem R_r2 {M st : am_M} {f : Nat → Int32} : am_upR (dr_R M st) 144 f = dr_R M (am_upR st 2 f) := by
  funext r j
  by_cases h : r = 144
  · subst h
    rfl
  · unfold am_upR dr_R
    simp [h]
theorem R_u3 {M st : am_M} {i : Nat} {x : Int32} : am_up (dr_R M st) 145 i x = dr_R M (am_up st 3 i x) := by
  funext r j
  by_cases h : r = 145
  · subst h
    rfl
  · unfold am_up dr_R
    simp [h]
theorem R_r3 {M st : am_M} {f : Nat → Int32} : am_upR (dr_R M st) 145 f = dr_R M (am_upR st 3 f) := by
  funext r j
  by_cases h : r = 145
  · subst h
    rfl
  · unfold am_upR dr_R
    simp [h]
theorem R_u4 {M st : am_M} {i : Nat} {x : Int32} : am_up (dr_R M st) 146 i x = dr_R M (am_up st 4 i x) := by
  funext r j
  by_cases h : r = 146
  · subst h
    rfl
  · unfold am_up dr_R
    simp [h]
theorem R_r4 {M st : am_M} {f : Nat → Int32} : am_upR (dr_R M st) 146 f = dr_R M (am_upR st 4 f) := by
  funext r j
  by_cases h : r = 146
  · subst h
    rfl
  · unfold am_upR dr_R
    simp [h]
theorem R_f12 {M st : am_M} {x : Int32} : am_up (dr_R M st) 120 27 x = dr_R M (am_up st 0 12 x) := by
  funext r j
  by_cases h : r = 120
  · subst h
    by_cases h2 : j = 27
    · subst h2
      rfl
    · unfold am_up dr_R
      simp [h2]
  · unfold am_up dr_R
    simp [h]
theorem R_f13 {M st : am_M} {x : Int32} : am_up (dr_R M st) 120 28 x = dr_R M (am_up st 0 13 x) := by
  funext r j
  by_cases h : r = 120
  · subst h
    by_cases h2 : j = 28
    · subst h2
      rfl
    · unfold am_up dr_R
      simp [h2]
  · unfold am_up dr_R
    simp [h]
theorem R_f14 {M st : am_M} {x : Int32} : am_up (dr_R M st) 120 29 x = dr_R M (am_up st 0 14 x) := by
  funext r j
  by_cases h : r = 120
  · subst h
    by_cases h2 : j = 29
    · subst h2
      rfl
    · unfold am_up dr_R
      simp [h2]
  · unfold am_up dr_R
    simp [h]
theorem R_of (M : am_M) : M = dr_R M (fun k j => if k = 0 then M 120 (15 + j) else M (142 + k) j) := by
  funext r j
  unfold dr_R
  (repeat' split) <;> subst_vars <;> rfl
theorem up_il {g : Nat → Int32} {v : Int32} {i : Nat} : (fun b => if b = i then v else if b < i then v else g b) = fun b => if b < i + 1 then v else g b := by
  funext b
  by_cases h1 : b = i
  · rw [if_pos h1, if_pos (by omega)]
  · rw [if_neg h1]
    by_cases h2 : b < i
    · rw [if_pos h2, if_pos (by omega)]
    · rw [if_neg h2, if_neg (by omega)]
theorem J_r0 {X : am_X} {Q : am_Q} {i pc : Nat} {L S : am_V} {M : am_M} {N : am_N} (k : Nat) {g : Nat → Int32} (h : g = M k) (kk : am_J X Q i pc L S (am_upR M k g) N) : am_J X Q i pc L S M N := by
  subst h
  rw [upR_id] at kk
  exact kk
theorem lp41 {X : am_X} {M : am_M} {N : am_N} {v : Int32} {k n : Nat} (hk : am_SH[k]? = some (.inl (0, n))) (hn31 : n < 2147483648) : ∀ (m i : Nat), i + m = n → ∀ (x : Int32), x = nI i → ∀ (M1 : am_M), M1 = am_upR M k (fun j => if j < i then v else M k j) → am_J X (am_eq none (am_upR M k (fun _ => v)) N) 41 5 [.ref k, .int v, .int x, .int (nI n)] [] M1 N := by
  intro m
  induction m with
  | zero =>
    intro i hm x ex M1 em
    have e : i = n := by omega
    subst e
    subst em
    have hge : nI i ≤ x := by rw [ex]; exact Int32.le_refl _
    refine J_b 2 am_d41 rfl ?_
    refine J_icmp_ge 20 (am_d41 rfl) rfl (fun h7 => ?_) (fun h7 => absurd (hge) h7)
    refine J_mr k (fun _ => v) hk (fun j hj => ?_) ?_
    · rw [upR_r]
      show v = if j < _ then v else _
      rw [if_pos hj]
    · rw [upR_upR]
      exact J_ret (am_d41 rfl) rfl ⟨rfl, rfl, rfl⟩
  | succ m ih =>
    intro i hm x ex M1 em
    subst em
    have hi : i < n := by omega
    have hlt : ¬ nI n ≤ x := by rw [ex, Int32.le_iff_toInt_le, nI_i (by omega), nI_i (by omega)]; omega
    subst ex
    refine J_b 2 am_d41 rfl ?_
    refine J_icmp_ge 20 (am_d41 rfl) rfl (fun h7 => absurd h7 hlt) (fun h7 => ?_)
    refine J_b 3 am_d41 rfl ?_
    refine J_iast (am_d41 rfl) hk (vp_in_nI hi hn31) ?_
    refine J_b 2 am_d41 rfl ?_
    refine ih (i + 1) (by omega) _ ?_ _ ?_
    · exact nI_1 i
    · rw [nI_c (by omega), upR_up, up_il]
theorem sp41 {X : am_X} {M : am_M} {N : am_N} {k n : Nat} {v : Int32} (hk : am_SH[k]? = some (.inl (0, n))) (hn31 : n < 2147483648) : am_J X (am_eq (none) (am_upR M k (fun _ => v)) N) 41 0 (am_en 41 [.ref k, .int v]) [] M N := by
  refine J_en (L := [.ref k, .int v, .retAddr 0, .retAddr 0]) rfl ?_
  refine J_b 3 am_d41 rfl ?_
  refine J_alen (am_d41 rfl) hk ?_
  refine J_b 1 am_d41 rfl ?_
  refine lp41 hk hn31 n 0 (by omega) _ rfl _ ?_
  refine Eq.trans (upR_id (k := k)).symm ?_
  congr 1
theorem lp44 {X : am_X} {M : am_M} {N : am_N} {k n l : Nat} (hk : am_SH[k]? = some (.inl (0, l))) (hn : n ≤ l) (hn31 : l < 2147483648) : ∀ (m i : Nat), i + m = n → ∀ (x : Int32), x = nI i → ∀ (a : Int32), a = smI (M k) i → ∀ (z : Value), am_J X (am_eq (some (.int (smI (M k) n))) M N) 44 10 [.ref k, .int a, .ref k, .int (nI n), .int x, z] [] M N := by
  intro m
  induction m with
  | zero =>
    intro i hm x ex a ea z
    have e : i = n := by omega
    subst e
    subst ea
    have hge : nI i ≤ x := by rw [ex]; exact Int32.le_refl _
    refine J_b 2 am_d44 rfl ?_
    refine J_icmp_ge 33 (am_d44 rfl) rfl (fun h13 => ?_) (fun h13 => absurd (hge) h13)
    refine J_b 1 am_d44 rfl ?_
    exact J_iret (am_d44 rfl) rfl rfl ⟨rfl, rfl, rfl⟩
  | succ m ih =>
    intro i hm x ex a ea z
    have hlt : ¬ nI n ≤ x := by rw [ex, Int32.le_iff_toInt_le, nI_i (by omega), nI_i (by omega)]; omega
    subst ex
    subst ea
    refine J_b 2 am_d44 rfl ?_
    refine J_icmp_ge 33 (am_d44 rfl) rfl (fun h13 => absurd h13 hlt) (fun h13 => ?_)
    refine J_b 2 am_d44 rfl ?_
    refine J_iald (am_d44 rfl) hk (vp_in_nI (by omega) (by omega)) ?_
    refine J_b 7 am_d44 rfl ?_
    rw [nI_c (by omega)]
    refine ih (i + 1) (by omega) _ ?_ _ ?_ _
    · exact nI_1 i
    · rfl
theorem lp159 {X : am_X} {M : am_M} {N : am_N} {k n l : Nat} (hk : am_SH[k]? = some (.inl (0, l))) (hn : n ≤ l) (hn31 : l < 2147483648) : ∀ (m i : Nat), i + m = n → ∀ (x : Int32), x = nI i → ∀ (a : Int32), a = smI (M k) i → am_J X (am_eq (some (.int (smI (M k) n))) M N) 159 5 [.ref 120, .ref k, .int (nI n), .int a, .int x] [] M N := by
  intro m
  induction m with
  | zero =>
    intro i hm x ex a ea
    have e : i = n := by omega
    subst e
    subst ea
    have hge : nI i ≤ x := by rw [ex]; exact Int32.le_refl _
    refine J_b 2 am_d159 rfl ?_
    refine J_icmp_ge 24 (am_d159 rfl) rfl (fun h8 => ?_) (fun h8 => absurd (hge) h8)
    refine J_b 1 am_d159 rfl ?_
    exact J_iret (am_d159 rfl) rfl rfl ⟨rfl, rfl, rfl⟩
  | succ m ih =>
    intro i hm x ex a ea
    have hlt : ¬ nI n ≤ x := by rw [ex, Int32.le_iff_toInt_le, nI_i (by omega), nI_i (by omega)]; omega
    subst ex
    subst ea
    refine J_b 2 am_d159 rfl ?_
    refine J_icmp_ge 24 (am_d159 rfl) rfl (fun h8 => absurd h8 hlt) (fun h8 => ?_)
    refine J_b 3 am_d159 rfl ?_
    refine J_iald (am_d159 rfl) hk (vp_in_nI (by omega) (by omega)) ?_
    refine J_b 4 am_d159 rfl ?_
    rw [nI_c (by omega)]
    refine ih (i + 1) (by omega) _ ?_ _ ?_
    · exact nI_1 i
    · rfl
theorem sp44 {X : am_X} {M : am_M} {N : am_N} {k n : Nat} (hk : am_SH[k]? = some (.inl (0, n))) (hn31 : n < 2147483648) : am_J X (am_eq (some (.int (smI (M k) n))) (M) N) 44 0 (am_en 44 [.ref k]) [] M N := by
  refine J_en (L := [.ref k, .retAddr 0, .retAddr 0, .retAddr 0, .retAddr 0, .retAddr 0]) rfl ?_
  refine J_b 5 am_d44 rfl ?_
  refine J_alen (am_d44 rfl) hk ?_
  refine J_b 3 am_d44 rfl ?_
  exact lp44 hk (Nat.le_refl _) hn31 n 0 (by omega) _ rfl _ rfl _
theorem sp159 {X : am_X} {M : am_M} {N : am_N} {k n l : Nat} (hk : am_SH[k]? = some (.inl (0, l))) (hn : n ≤ l) (hn31 : l < 2147483648) : am_J X (am_eq (some (.int (smI (M k) n))) (M) N) 159 0 (am_en 159 [.ref 120, .ref k, .int (nI n)]) [] M N := by
  refine J_en (L := [.ref 120, .ref k, .int (nI n), .retAddr 0, .retAddr 0]) rfl ?_
  refine J_b 4 am_d159 rfl ?_
  exact lp159 hk hn hn31 n 0 (by omega) _ rfl _ rfl
