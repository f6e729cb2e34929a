/-! ===== the constructors, run once by an evaluator ===== -/
def am_z : am_M := fun _ _ => 0
def am_zL : am_N := fun _ _ => 0
def am_mw (ws : List (Nat × Nat × Int32)) : am_M := ws.foldr (fun q M => am_up M q.1 q.2.1 q.2.2) am_z
theorem am_mw_hi {ws : List (Nat × Nat × Int32)} {n k : Nat} (h : (ws.all fun q => decide (q.1 < n)) = true) (hk : n ≤ k) : am_mw ws k = fun _ => 0 := by
  induction ws with
  | nil => rfl
  | cons q r ih =>
    simp only [List.all_cons, Bool.and_eq_true, decide_eq_true_eq] at h
    show am_up (am_mw r) q.1 q.2.1 q.2.2 k = _
    funext b
    have hne : ¬ k = q.1 := by omega
    simp only [am_up, if_neg hne]
    rw [ih (by simpa using h.2)]
def am_cini : List Nat := [0, 1, 2, 3, 4, 5, 6, 7, 8, 9, 10, 137]
theorem am_cini_k : (am_cini.map fun j => (am_y j).name) = am_cini.map fun _ => "<init>" := by rfl
theorem am_cini_ok {j : Nat} (h : am_cini.contains j = true) : (am_y j).name = "<init>" := by
  have hm : j ∈ am_cini := by simpa using h
  obtain ⟨n, hn⟩ := List.getElem?_of_mem hm
  have h1 := congrArg (fun l : List String => l[n]?) am_cini_k
  simp only [List.getElem?_map, hn, Option.map_some, Option.some.injEq] at h1
  exact h1
theorem am_dcl : ∀ ci : Nat, ci < 12 → ∀ j, j < am_nf ci → (am_Tf ci j).1 = am_cn ci := by
  have h : ((List.range 12).map fun ci => (List.range (am_nf ci)).map fun j => (am_Tf ci j).1) = (List.range 12).map fun ci => (List.range (am_nf ci)).map fun _ => am_cn ci := by rfl
  intro ci hci j hj
  have h1 := congrArg (fun l : List (List String) => l[ci]?) h
  simp only [List.getElem?_map, List.getElem?_range hci, Option.map_some, Option.some.injEq] at h1
  have h2 := congrArg (fun l : List String => l[j]?) h1
  simp only [List.getElem?_map, List.getElem?_range hj, Option.map_some, Option.some.injEq] at h2
  exact h2
def am_ctb : List (Nat × List (Nat × Instr × Nat)) := [(0, am_t0), (1, am_t1), (2, am_t2), (3, am_t3), (4, am_t4), (5, am_t5), (6, am_t6), (7, am_t7), (8, am_t8), (9, am_t9), (10, am_t10), (137, am_t137)]
def am_ci0 (i pc : Nat) : Option (Instr × Nat) := match am_ctb.lookup i with
  | some t => t.lookup pc
  | none => none
theorem am_ctb_ok : ∀ q ∈ am_ctb, ∀ (pc : Nat) (x : Instr × Nat), q.2.lookup pc = some x → am_in q.1 pc = some x := by
  intro q hq pc x h
  simp only [am_ctb, List.mem_cons, List.not_mem_nil, or_false] at hq
  rcases hq with rfl | rfl | rfl | rfl | rfl | rfl | rfl | rfl | rfl | rfl | rfl | rfl
  · exact am_d0 h
  · exact am_d1 h
  · exact am_d2 h
  · exact am_d3 h
  · exact am_d4 h
  · exact am_d5 h
  · exact am_d6 h
  · exact am_d7 h
  · exact am_d8 h
  · exact am_d9 h
  · exact am_d10 h
  · exact am_d137 h
theorem am_ci0_in {i pc : Nat} {x : Instr × Nat} (h : am_ci0 i pc = some x) : am_in i pc = some x := by
  unfold am_ci0 at h
  split at h
  · rename_i t ht
    exact am_ctb_ok (i, t) (am_look ht) pc x h
  · cases h
def am_atk (a : ArrayType) : Option Nat := match a with
  | .int => some 0
  | .boolean => some 1
  | _ => none
theorem am_atk_ok {a : ArrayType} {t : Nat} (h : am_atk a = some t) : (a = .int ∧ t = 0) ∨ (a = .boolean ∧ t = 1) := by
  cases a <;> first | (cases h; exact Or.inl ⟨rfl, rfl⟩) | (cases h; exact Or.inr ⟨rfl, rfl⟩) | cases h
abbrev am_Wr : Type := List (Nat × Nat × Int32)
def am_fresh (sh : List am_E) (ws : am_Wr) : Bool := decide (sh.length < 900000) && ws.all fun q => decide (q.1 < sh.length)
def am_cs : Nat → Nat → Nat → am_V → am_V → List am_E → am_Wr → Option (List am_E × am_Wr)
  | 0, _, _, _, _, _, _ => none
  | n + 1, i, pc, L, S, sh, ws => match am_ci0 i pc with
    | none => none
    | some (ins, len) => match ins with
      | .return_ => if len = 1 ∧ am_rt i = none then (match S with
        | [] => some (sh, ws)
        | _ => none) else none
      | .newarray at9 => (match S with
        | .int x :: T => (match am_atk at9 with
          | some t => if len = 2 ∧ ¬ x < 0 ∧ x.toNatClampNeg ≤ 100000 ∧ am_fresh sh ws = true then am_cs n i (pc + 2) L (.ref sh.length :: T) (sh ++ [.inl (t, x.toNatClampNeg)]) ws else none
          | none => none)
        | _ => none)
      | .multianewarray idx dim => (match S with
        | .int y :: .int x :: T => if len = 4 ∧ dim = 2 ∧ am_gg i idx = true ∧ ¬ x < 0 ∧ ¬ y < 0 ∧ x.toNatClampNeg ≤ 1000 ∧ y.toNatClampNeg ≤ 1000 ∧ am_fresh sh ws = true then am_cs n i (pc + 4) L (.ref sh.length :: T) (sh ++ (.inl (2, x.toNatClampNeg) :: List.replicate x.toNatClampNeg (.inl (0, y.toNatClampNeg)))) ws else none
        | _ => none)
      | .new idx => (match am_nw i idx with
        | some ci => if len = 3 ∧ ci < 12 ∧ am_inq.contains ci = true ∧ am_ini.contains ci = true ∧ am_fresh sh ws = true then am_cs n i (pc + 3) L (.ref sh.length :: S) (sh ++ [.inr (ci, List.replicate (am_nf ci) none)]) ws else none
        | none => none)
      | .getfield idx => (match S with
        | .ref k :: T => (match am_fl i idx with
          | some (ci, j) => (match sh[k]? with
            | some (.inr (ci2, rs)) => if len = 3 ∧ ci2 = ci then (match am_rd (am_mw ws) am_zL k ci j rs with
              | some v => am_cs n i (pc + 3) L (v :: T) sh ws
              | none => none) else none
            | _ => none)
          | none => none)
        | _ => none)
      | .putfield idx => (match am_fl i idx with
        | some (ci, j) => (match S with
          | .ref t :: .ref k :: T => (match sh[k]? with
            | some (.inr (ci2, rs)) => if len = 3 ∧ ci2 = ci ∧ refKind (am_tf ci j) = true ∧ (am_Tf ci j).2.2.2 = true ∧ am_cini.contains i = true ∧ ci = am_ow i ∧ j < rs.length then am_cs n i (pc + 3) L T (sh.set k (.inr (ci, rs.set j (some t)))) ws else none
            | _ => none)
          | .int x :: .ref k :: T => (match sh[k]? with
            | some (.inr (ci2, rs)) => if len = 3 ∧ ci2 = ci ∧ am_tf ci j = .int ∧ (am_Tf ci j).2.2.2 = false then am_cs n i (pc + 3) L T sh ((k, j, x) :: ws) else none
            | _ => none)
          | _ => none)
        | none => none)
      | .invokespecial idx => if len = 3 then (if am_oi i idx = true then (match S with
          | .ref _ :: T => if 1 ≤ am_fr i ∧ (T.map fun v => v.category).sum + 12 ≤ am_lo i then am_cs n i (pc + 3) L T sh ws else none
          | _ => none)
        else (match am_cl i idx with
          | some (j, _) => (match (S.take (am_na j + 1)).reverse with
            | .ref b :: As => if am_sta.contains j = false ∧ am_ins.contains j = true ∧ am_cini.contains j = true ∧ am_rt j = none ∧ am_ckr i j (.ref b :: As) (S.drop (am_na j + 1)) = true ∧ am_ow i < 19 then (match am_cs n j 0 (am_en j (.ref b :: As)) [] sh ws with
              | some (sh1, ws1) => am_cs n i (pc + 3) L (S.drop (am_na j + 1)) sh1 ws1
              | none => none) else none
            | _ => none)
          | none => none)) else none
      | ins => if len = am_ln ins then (match am_q ins L S with
        | some (L2, S2) => am_cs n i (pc + len) L2 S2 sh ws
        | none => none) else none
def am_CQ (ws : am_Wr) : am_Q := fun r M N => r = none ∧ M = am_mw ws ∧ N = am_zL
theorem am_fresh_l {sh : List am_E} {ws : am_Wr} (h : am_fresh sh ws = true) : sh.length < 900000 ∧ (ws.all fun q => decide (q.1 < sh.length)) = true := by
  unfold am_fresh at h
  simpa using h
set_option maxHeartbeats 4000000 in
theorem am_cs_ok {l : Launch} {D : va_G} {G : am_G} {B : Nat} {sp : Nat → Nat} {fz : Value} {Lx : Nat} {xs : Nat → Int32} : ∀ (n i pc : Nat) (L S : am_V) (sh : List am_E) (ws : am_Wr) (sh1 : List am_E) (ws1 : am_Wr), am_cs n i pc L S sh ws = some (sh1, ws1) → am_SW l D G B sp fz Lx xs (am_CQ ws1) sh1 i pc L S sh (am_mw ws) am_zL := by
  intro n
  induction n with
  | zero => intro i pc L S sh ws sh1 ws1 h; cases h
  | succ n ih =>
    intro i pc L S sh ws sh1 ws1 h
    unfold am_cs at h
    split at h
    · cases h
    · rename_i ins len hl
      have d := am_ci0_in hl
      split at h
      · -- return
        split at h
        · rename_i hc
          obtain ⟨rfl, hr⟩ := hc
          split at h
          · cases h
            exact sw_ret d hr ⟨rfl, rfl, rfl⟩
          · cases h
        · cases h
      · -- newarray
        split at h
        · split at h
          · rename_i x T t ht
            split at h
            · rename_i hc
              obtain ⟨rfl, h1, h2, h3⟩ := hc
              obtain ⟨h4, h5⟩ := am_fresh_l h3
              have hat := am_atk_ok ht
              refine sw_newa d hat h1 rfl h2 (by omega) ?_
              have e : am_upR (am_mw ws) sh.length (fun _ => 0) = am_mw ws := by
                funext a
                by_cases ha : a = sh.length
                · subst ha
                  simp [am_upR, am_mw_hi h5 (Nat.le_refl _)]
                · simp [am_upR, ha]
              rw [e]
              exact ih _ _ _ _ _ _ _ _ h
            · cases h
          · cases h
        · cases h
      · -- multianewarray
        split at h
        · split at h
          · rename_i hc
            obtain ⟨rfl, rfl, h0, h1, h2, h3, h4, h5⟩ := hc
            obtain ⟨h6, h7⟩ := am_fresh_l h5
            refine sw_grid d h0 h1 h2 rfl rfl h3 h4 h6 ?_
            have e : (fun a => if sh.length ≤ a then fun _ => 0 else am_mw ws a) = am_mw ws := by
              funext a
              by_cases ha : sh.length ≤ a
              · rw [if_pos ha, am_mw_hi h7 ha]
              · rw [if_neg ha]
            rw [e]
            exact ih _ _ _ _ _ _ _ _ h
          · cases h
        · cases h
      · -- new
        split at h
        · rename_i ci hci
          split at h
          · rename_i hc
            obtain ⟨rfl, h0, h1, h2, h3⟩ := hc
            obtain ⟨h6, h7⟩ := am_fresh_l h3
            refine sw_new d hci h0 h1 h2 (by omega) ?_
            have e : am_upR (am_mw ws) sh.length (fun _ => 0) = am_mw ws := by
              funext a
              by_cases ha : a = sh.length
              · subst ha
                simp [am_upR, am_mw_hi h7 (Nat.le_refl _)]
              · simp [am_upR, ha]
            have e2 : (fun a => if a = sh.length then fun _ => 0 else am_zL a) = am_zL := by
              funext a
              split <;> rfl
            rw [e, e2]
            exact ih _ _ _ _ _ _ _ _ h
          · cases h
        · cases h
      · -- getfield
        split at h
        · split at h
          · rename_i ci j hf
            split at h
            · rename_i ci2 rs hk
              split at h
              · rename_i hc
                obtain ⟨rfl, rfl⟩ := hc
                split at h
                · rename_i v hv
                  exact sw_getf d hf hk hv (ih _ _ _ _ _ _ _ _ h)
                · cases h
              · cases h
            · cases h
          · cases h
        · cases h
      · -- putfield
        split at h
        · rename_i ci j hf
          obtain ⟨hj, hci⟩ := am_fl_b hf
          split at h
          · split at h
            · rename_i ci2 rs hk
              split at h
              · rename_i hc
                obtain ⟨rfl, rfl, h1, h2, h3, h4, h5⟩ := hc
                exact sw_putr d hf hk h1 h2 (am_cini_ok h3) (by rw [am_dcl _ hci _ hj, h4]) h5 (ih _ _ _ _ _ _ _ _ h)
              · cases h
            · cases h
          · split at h
            · rename_i ci2 rs hk
              split at h
              · rename_i hc
                obtain ⟨rfl, rfl, h1, h2⟩ := hc
                exact sw_puti d hf hk h1 h2 (ih _ _ _ _ _ _ _ _ h)
              · cases h
            · cases h
          · cases h
        · cases h
      · -- invokespecial
        split at h
        · rename_i hlen
          subst hlen
          split at h
          · rename_i ho
            split at h
            · split at h
              · rename_i hc
                exact sw_oi d ho hc.1 hc.2 (ih _ _ _ _ _ _ _ _ h)
              · cases h
            · cases h
          · split at h
            · rename_i j ne hcl
              have hS := am_split S (am_na j + 1)
              split at h
              · rename_i b As hAs
                rw [hAs, List.reverse_cons, List.append_assoc] at hS
                split at h
                · rename_i hc
                  obtain ⟨h1, h2, h3, h4, h5, h6⟩ := hc
                  split at h
                  · rename_i sh2 ws2 hr
                    have k1 := ih _ _ _ _ _ _ _ _ hr
                    have k2 := ih _ _ _ _ _ _ _ _ h
                    cases ne with
                    | false => exact sw_callI d hcl h1 h2 (am_cini_ok h3) h4 hS (am_ckr_ok h5) ⟨k2.1, k2.2.1⟩ k1 (fun r M1 N1 hq => by obtain ⟨rfl, rfl, rfl⟩ := hq; exact k2)
                    | true => exact sw_callIN h6 d hcl h1 h2 (am_cini_ok h3) h4 hS (am_ckr_ok h5) ⟨k2.1, k2.2.1⟩ k1 (fun r M1 N1 hq => by obtain ⟨rfl, rfl, rfl⟩ := hq; exact k2)
                  · cases h
                · cases h
              · cases h
            · cases h
        · cases h
      · -- the others
        split at h
        · rename_i hlen
          subst hlen
          split at h
          · rename_i hq
            exact sw_q d hq (ih _ _ _ _ _ _ _ _ h)
          · cases h
        · cases h
def am_ws1 : am_Wr := [(0, 11, 0), (112, 7, 0), (110, 2, 0), (110, 1, 0), (52, 4, 0), (32, 7, 0), (26, 5, 0), (18, 7, 0), (1, 11, 1)]
def am_ws2 : am_Wr := [(0, 11, 0), (112, 7, 0), (110, 2, 0), (110, 1, 0), (52, 4, 0), (32, 7, 0), (26, 5, 0), (18, 7, 0), (1, 11, 1)]
set_option maxRecDepth 100000 in
theorem am_run1 : am_cs 400 0 0 (am_en 0 [.ref 0]) [] [.inr (10, List.replicate (am_nf 10) none)] [] = some (am_SH.take 120, am_ws1) := by rfl
set_option maxRecDepth 100000 in
theorem am_run2 : am_cs 400 137 0 (am_en 137 [.ref 120]) [] (am_SH.take 120 ++ [.inr (11, List.replicate (am_nf 11) none)]) am_ws1 = some (am_SH, am_ws2) := by rfl
