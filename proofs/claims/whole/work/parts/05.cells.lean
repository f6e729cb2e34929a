/-! ===== rules that read and write cells, and make them ===== -/
theorem am_vw : ∀ ci : Nat, ci < 12 → vwCl[ci]? = some (am_cn ci, am_Tf ci, am_nf ci)
  | 0, _ => rfl
  | 1, _ => rfl
  | 2, _ => rfl
  | 3, _ => rfl
  | 4, _ => rfl
  | 5, _ => rfl
  | 6, _ => rfl
  | 7, _ => rfl
  | 8, _ => rfl
  | 9, _ => rfl
  | 10, _ => rfl
  | 11, _ => rfl
  | n + 12, h => absurd h (by omega)
theorem am_lay_good {C : String} {T : u_T} {N : Nat} : ∀ w ∈ u_ws C T N, goodWord w = true := by
  intro w hw
  obtain ⟨k, -, rfl⟩ := List.mem_map.mp hw
  unfold u_lay
  split <;> rfl
theorem am_ly_of {C : String} {T : u_T} {N : Nat} {gs : List Nat} (h : u_ws C T N = am_pick gs lw_tbl) : ∀ w ∈ u_ws C T N, w ∈ am_tbl := fun w hw => am_tbl_in (am_pick_mem gs lw_tbl w (by rw [← h]; exact hw)) (am_lay_good w hw)
theorem am_ly : ∀ ci : Nat, ci < 12 → ∀ w ∈ u_ws (am_cn ci) (am_Tf ci) (am_nf ci), w ∈ am_tbl
  | 0, _ => am_ly_of am_ly0
  | 1, _ => am_ly_of am_ly1
  | 2, _ => am_ly_of am_ly2
  | 3, _ => am_ly_of am_ly3
  | 4, _ => am_ly_of am_ly4
  | 5, _ => am_ly_of am_ly5
  | 6, _ => am_ly_of am_ly6
  | 7, _ => am_ly_of am_ly7
  | 8, _ => am_ly_of am_ly8
  | 9, _ => am_ly_of am_ly9
  | 10, _ => am_ly_of am_ly10
  | 11, _ => am_ly_of am_ly11
  | n + 12, h => absurd h (by omega)
theorem am_tyok : ∀ ci : Nat, ci < 12 → ∀ k, k < am_nf ci → parseFieldDescriptor (am_Tf ci k).2.2.1 = some (am_tf ci k)
  | 0, _ => tyX0_ok
  | 1, _ => tyX1_ok
  | 2, _ => tyX2_ok
  | 3, _ => tyX3_ok
  | 4, _ => tyX4_ok
  | 5, _ => tyX5_ok
  | 6, _ => tyX6_ok
  | 7, _ => tyX7_ok
  | 8, _ => tyX8_ok
  | 9, _ => tyX9_ok
  | 10, _ => tyX10_ok
  | 11, _ => tyX11_ok
  | n + 12, h => absurd h (by omega)
theorem am_nmok : ∀ ci : Nat, ci < 12 → ∀ a, a < am_nf ci → ∀ b, b < am_nf ci → a ≠ b → (am_Tf ci a).2.1 ≠ (am_Tf ci b).2.1
  | 0, _ => nmX0
  | 1, _ => nmX1
  | 2, _ => nmX2
  | 3, _ => nmX3
  | 4, _ => nmX4
  | 5, _ => nmX5
  | 6, _ => nmX6
  | 7, _ => nmX7
  | 8, _ => nmX8
  | 9, _ => nmX9
  | 10, _ => nmX10
  | 11, _ => nmX11
  | n + 12, h => absurd h (by omega)
theorem am_fl_mem {i idx ci j : Nat} (h : am_fl i idx = some (ci, j)) : (idx, ci, j) ∈ am_fls.getD (am_ow i) [] := am_look h
theorem am_getD_mem {α : Type} {l : List (List α)} {o : Nat} {q : α} (h : q ∈ l.getD o []) : ∃ r ∈ l, q ∈ r := by
  by_cases hl : o < l.length
  · refine ⟨l[o], List.getElem_mem hl, ?_⟩
    simpa [List.getD, hl] using h
  · rw [List.getD, List.getElem?_eq_none (by omega)] at h
    cases h
theorem am_fl_b {i idx ci j : Nat} (h : am_fl i idx = some (ci, j)) : j < am_nf ci ∧ ci < 12 := by
  obtain ⟨r, hr, hq⟩ := am_getD_mem (am_fl_mem h)
  have h1 := List.all_eq_true.mp (List.all_eq_true.mp am_kfb r hr) _ hq
  simpa using h1
theorem am_fl_ok {i idx ci j : Nat} (h : am_fl i idx = some (ci, j)) : Cond.fieldLink (am_cn (am_ow i)) idx (am_Tf ci j).1 (am_Tf ci j).2.1 (am_Tf ci j).2.2.1 ∈ am_tbl := am_tbl_in (am_kfs (am_ow i) _ (am_fl_mem h)) rfl
def am_rd (M : am_M) (N : am_N) (k ci j : Nat) (rs : List (Option Nat)) : Option Value := match am_tf ci j with
  | .int => some (.int (M k j))
  | .long => some (.long (N k j))
  | _ => match rs.getD j none with
    | some t => some (.ref t)
    | none => none
theorem am_fs_get {B : Nat} {sp : Nat → Nat} {M : am_M} {N : am_N} {k ci j : Nat} {rs : List (Option Nat)} (h : j < am_nf ci) : (am_fs B sp M N k ci rs)[j]? = some (am_fv B sp M N k (am_tf ci j) j (rs.getD j none)) := by
  unfold am_fs
  rw [List.getElem?_map, List.getElem?_range h]
  rfl
theorem am_rd_fv {B : Nat} {sp : Nat → Nat} {fz : Value} {M : am_M} {N : am_N} {k ci j : Nat} {rs : List (Option Nat)} {v : Value} (h : am_rd M N k ci j rs = some v) : am_fv B sp M N k (am_tf ci j) j (rs.getD j none) = am_cv B sp fz v := by
  unfold am_rd at h
  unfold am_fv
  generalize am_tf ci j = ty at h ⊢
  cases ty
  case int => cases h; rfl
  case long => cases h; rfl
  all_goals
    dsimp only at h ⊢
    split at h
    · rename_i t ht
      cases h
      rw [ht]
      rfl
    · cases h
section AMH
variable {l : Launch} {D : va_G} {G : am_G} {B : Nat} {sp : Nat → Nat} {fz : Value} {Lx : Nat} {xs : Nat → Int32} {Q : am_Q} {shE : List am_E} {i pc : Nat} {L S : am_V} {sh : List am_E} {M : am_M} {N : am_N}
theorem sw_getf {k ci j idx : Nat} {rs : List (Option Nat)} {v : Value} (hin : am_in i pc = some (.getfield idx, 3)) (hf : am_fl i idx = some (ci, j)) (hk : sh[k]? = some (.inr (ci, rs))) (hv : am_rd M N k ci j rs = some v) (kk : am_SW l D G B sp fz Lx xs Q shE i (pc + 3) L (v :: S) sh M N) : am_SW l D G B sp fz Lx xs Q shE i pc L (.ref k :: S) sh M N := by
  refine ⟨kk.1, kk.2.1, fun p e R s m args below meth c H locs ls cells slots C St => ?_⟩
  have St' := St
  obtain ⟨a1, a2, a3, a4, a5, a6, a7, a8⟩ := St
  obtain ⟨hx, hb, hml, hown, hts, hr, hlk, hnm, hK, hX, hB, hfr, hlo⟩ := id C
  obtain ⟨hj, hci⟩ := am_fl_b hf
  exact va_get (D := D) (ci := ci) (v := am_cv B sp fz v) (C := am_cn ci) (T := am_Tf ci) (N := am_nf ci) (ref := (am_Tf ci j).1) hx hb hts (am_ly ci hci) hown hK a3 k (am_ws_get hk) (am_vw ci hci) j hj (hts _ (am_fl_ok hf)) (fun _ h => h) (by rw [am_fs_get hj, am_rd_fv (fz := fz) hv]) (am_in_dec hin) (kk.2.2 p e R s m args below meth c H locs ls cells slots C St')
theorem sw_puti {k ci j idx : Nat} {rs : List (Option Nat)} {x : Int32} (hin : am_in i pc = some (.putfield idx, 3)) (hf : am_fl i idx = some (ci, j)) (hk : sh[k]? = some (.inr (ci, rs))) (ht : am_tf ci j = .int) (hfin : (am_Tf ci j).2.2.2 = false) (kk : am_SW l D G B sp fz Lx xs Q shE i (pc + 3) L S sh (am_up M k j x) N) : am_SW l D G B sp fz Lx xs Q shE i pc L (.int x :: .ref k :: S) sh M N := by
  refine ⟨kk.1, kk.2.1, fun p e R s m args below meth c H locs ls cells slots C St => ?_⟩
  obtain ⟨a1, a2, a3, a4, a5, a6, a7, a8⟩ := St
  obtain ⟨hx, hb, hml, hown, hts, hr, hlk, hnm, hK, hX, hB, hfr, hlo⟩ := id C
  obtain ⟨hj, hci⟩ := am_fl_b hf
  have hfs : (am_fs B sp M N k ci rs).set j (.int x) = am_fs B sp (am_up M k j x) N k ci rs := by
    apply List.ext_getElem?
    intro q
    by_cases hq : q = j
    · subst hq
      rw [List.getElem?_set_self (by simp [am_fs, hj]), am_fs_get hj, ht]
      simp [am_fv, am_up]
    · rw [List.getElem?_set_ne (fun z => hq z.symm)]
      by_cases hl : q < am_nf ci
      · rw [am_fs_get hl, am_fs_get hl]
        simp only [am_fv, am_up, if_true, if_neg hq]
      · rw [List.getElem?_eq_none (by simp [am_fs]; omega), List.getElem?_eq_none (by simp [am_fs]; omega)]
  have he : (am_ws G B sp sh M N).set k (am_ad B sp k, .inr (ci, (am_fs B sp M N k ci rs).set j (.int x))) = am_ws G B sp sh (am_up M k j x) N := by
    rw [hfs]
    exact am_ws_set hk (fun a ha => by funext b; simp [am_up, ha]) (fun _ _ => rfl)
  refine va_put (D := D) (ci := ci) (v := .int x) (ty := .int) (C := am_cn ci) (T := am_Tf ci) (N := am_nf ci) (ref := (am_Tf ci j).1) hx hb hts (am_ly ci hci) (am_tf ci) (am_tyok ci hci) (am_nmok ci hci) hown hK a3 a4 a5 k (am_ws_get hk) (am_vw ci hci) j hj (hts _ (am_fl_ok hf)) (fun _ h => h) hfin (by rw [am_tyok ci hci j hj, ht]) rfl rfl (by simp [am_fs, hj]) (am_in_dec hin) (fun H1 locs1 hP hD hS => ?_)
  rw [he] at hP hD
  exact kk.2.2 p e R s m args below meth c H1 locs1 ls cells slots C ⟨a1, a2, hP, hD, hS, a6, a7, a8⟩
theorem sw_putl {k ci j idx : Nat} {rs : List (Option Nat)} {x : Int64} (hin : am_in i pc = some (.putfield idx, 3)) (hf : am_fl i idx = some (ci, j)) (hk : sh[k]? = some (.inr (ci, rs))) (ht : am_tf ci j = .long) (hfin : (am_Tf ci j).2.2.2 = false) (kk : am_SW l D G B sp fz Lx xs Q shE i (pc + 3) L S sh M (am_upL N k j x)) : am_SW l D G B sp fz Lx xs Q shE i pc L (.long x :: .ref k :: S) sh M N := by
  refine ⟨kk.1, kk.2.1, fun p e R s m args below meth c H locs ls cells slots C St => ?_⟩
  obtain ⟨a1, a2, a3, a4, a5, a6, a7, a8⟩ := St
  obtain ⟨hx, hb, hml, hown, hts, hr, hlk, hnm, hK, hX, hB, hfr, hlo⟩ := id C
  obtain ⟨hj, hci⟩ := am_fl_b hf
  have hfs : (am_fs B sp M N k ci rs).set j (.long x) = am_fs B sp M (am_upL N k j x) k ci rs := by
    apply List.ext_getElem?
    intro q
    by_cases hq : q = j
    · subst hq
      rw [List.getElem?_set_self (by simp [am_fs, hj]), am_fs_get hj, ht]
      simp [am_fv, am_upL]
    · rw [List.getElem?_set_ne (fun z => hq z.symm)]
      by_cases hl : q < am_nf ci
      · rw [am_fs_get hl, am_fs_get hl]
        simp only [am_fv, am_upL, if_true, if_neg hq]
      · rw [List.getElem?_eq_none (by simp [am_fs]; omega), List.getElem?_eq_none (by simp [am_fs]; omega)]
  have he : (am_ws G B sp sh M N).set k (am_ad B sp k, .inr (ci, (am_fs B sp M N k ci rs).set j (.long x))) = am_ws G B sp sh M (am_upL N k j x) := by
    rw [hfs]
    exact am_ws_set hk (fun _ _ => rfl) (fun a ha => by funext b; simp [am_upL, ha])
  refine va_put (D := D) (ci := ci) (v := .long x) (ty := .long) (C := am_cn ci) (T := am_Tf ci) (N := am_nf ci) (ref := (am_Tf ci j).1) hx hb hts (am_ly ci hci) (am_tf ci) (am_tyok ci hci) (am_nmok ci hci) hown hK a3 a4 a5 k (am_ws_get hk) (am_vw ci hci) j hj (hts _ (am_fl_ok hf)) (fun _ h => h) hfin (by rw [am_tyok ci hci j hj, ht]) rfl rfl (by simp [am_fs, hj]) (am_in_dec hin) (fun H1 locs1 hP hD hS => ?_)
  rw [he] at hP hD
  exact kk.2.2 p e R s m args below meth c H1 locs1 ls cells slots C ⟨a1, a2, hP, hD, hS, a6, a7, a8⟩
/-- a reference into a final field, in the constructor of its own class -/
theorem sw_putr {k ci j idx t : Nat} {rs : List (Option Nat)} (hin : am_in i pc = some (.putfield idx, 3)) (hf : am_fl i idx = some (ci, j)) (hk : sh[k]? = some (.inr (ci, rs))) (ht : refKind (am_tf ci j) = true) (hfin : (am_Tf ci j).2.2.2 = true) (hini : (am_y i).name = "<init>") (hdecl : (am_Tf ci j).1 = am_cn (am_ow i)) (hj2 : j < rs.length) (kk : am_SW l D G B sp fz Lx xs Q shE i (pc + 3) L S (sh.set k (.inr (ci, rs.set j (some t)))) M N) : am_SW l D G B sp fz Lx xs Q shE i pc L (.ref t :: .ref k :: S) sh M N := by
  have hz : am_sz (sh.set k (.inr (ci, rs.set j (some t)))) = am_sz sh := by
    unfold am_sz
    congr 1
    apply List.ext_getElem?
    intro q
    rw [List.getElem?_map, List.getElem?_map]
    by_cases hq : q = k
    · subst hq
      rw [List.getElem?_set_self (List.getElem?_eq_some_iff.mp hk).1, hk]
      rfl
    · rw [List.getElem?_set_ne (fun z => hq z.symm)]
  have hzl : (sh.set k (.inr (ci, rs.set j (some t)))).length = sh.length := List.length_set
  refine ⟨by rw [← hzl]; exact kk.1, by rw [← hz]; exact kk.2.1, fun p e R s m args below meth c H locs ls cells slots C St => ?_⟩
  obtain ⟨a1, a2, a3, a4, a5, a6, a7, a8⟩ := St
  obtain ⟨hx, hb, hml, hown, hts, hr, hlk, hnm, hK, hX, hB, hfr, hlo⟩ := id C
  obtain ⟨hj, hci⟩ := am_fl_b hf
  have hfs : (am_fs B sp M N k ci rs).set j (.ref (am_ad B sp t)) = am_fs B sp M N k ci (rs.set j (some t)) := by
    apply List.ext_getElem?
    intro q
    by_cases hq : q = j
    · subst hq
      have hg : (rs.set q (some t)).getD q none = some t := by simp [List.getD, hj2]
      rw [List.getElem?_set_self (by simp [am_fs, hj]), am_fs_get hj, hg]
      cases hty : am_tf ci q <;> rw [hty] at ht <;> first | rfl | cases ht
    · rw [List.getElem?_set_ne (fun z => hq z.symm)]
      by_cases hl : q < am_nf ci
      · have hg : (rs.set j (some t)).getD q none = rs.getD q none := by
          simp only [List.getD]
          rw [List.getElem?_set_ne (fun z => hq z.symm)]
        rw [am_fs_get hl, am_fs_get hl, hg]
      · rw [List.getElem?_eq_none (by simp [am_fs]; omega), List.getElem?_eq_none (by simp [am_fs]; omega)]
  have he : (am_ws G B sp sh M N).set k (am_ad B sp k, .inr (ci, (am_fs B sp M N k ci rs).set j (.ref (am_ad B sp t)))) = am_ws G B sp (sh.set k (.inr (ci, rs.set j (some t)))) M N := by
    rw [hfs]
    exact am_ws_put hk (fun _ _ => rfl) (fun _ _ => rfl) (.inr (ci, rs.set j (some t)))
  refine va_putF (D := D) (ci := ci) (v := .ref (am_ad B sp t)) (ty := am_tf ci j) (C := am_cn ci) (T := am_Tf ci) (N := am_nf ci) (ref := (am_Tf ci j).1) hx hb hts (am_ly ci hci) (am_tf ci) (am_tyok ci hci) (am_nmok ci hci) hown hK a3 a4 a5 k (am_ws_get hk) (am_vw ci hci) j hj (hts _ (am_fl_ok hf)) (fun _ h => h) hfin (hnm hini) hdecl (am_tyok ci hci j hj) (by cases hty : am_tf ci j <;> rw [hty] at ht <;> first | rfl | cases ht) (by cases hty : am_tf ci j <;> rw [hty] at ht <;> first | rfl | cases ht) (by simp [am_fs, hj]) (am_in_dec hin) (fun H1 locs1 hP hD hS => ?_)
  rw [he] at hP hD
  exact kk.2.2 p e R s m args below meth c H1 locs1 ls cells slots C ⟨by rw [hzl]; exact a1, by rw [hz]; exact a2, hP, hD, hS, by rw [hzl]; exact a6, a7, a8⟩
theorem am_up_row (M : am_M) (k j : Nat) (x : Int32) : am_up M k j x k = upd (M k) j x := by
  funext b
  simp [am_up, upd]
theorem sw_iald {k n : Nat} {x : Int32} (hin : am_in i pc = some (.iaload, 1)) (hk : sh[k]? = some (.inl (0, n))) (hi : vp_in x n) (kk : am_SW l D G B sp fz Lx xs Q shE i (pc + 1) L (.int (M k x.toNatClampNeg) :: S) sh M N) : am_SW l D G B sp fz Lx xs Q shE i pc L (.int x :: .ref k :: S) sh M N := by
  refine ⟨kk.1, kk.2.1, fun p e R s m args below meth c H locs ls cells slots C St => ?_⟩
  exact va_iald C.1 C.2.1 C.2.2.2.2.2.2.2.2.1 St.2.2.1 k 0 (am_ws_get hk) rfl hi (am_in_dec hin) (kk.2.2 p e R s m args below meth c H locs ls cells slots C St)
theorem sw_zald {k n : Nat} {x : Int32} (hin : am_in i pc = some (.baload, 1)) (hk : sh[k]? = some (.inl (1, n))) (hi : vp_in x n) (kk : am_SW l D G B sp fz Lx xs Q shE i (pc + 1) L (.int (M k x.toNatClampNeg) :: S) sh M N) : am_SW l D G B sp fz Lx xs Q shE i pc L (.int x :: .ref k :: S) sh M N := by
  refine ⟨kk.1, kk.2.1, fun p e R s m args below meth c H locs ls cells slots C St => ?_⟩
  exact va_zald C.1 C.2.1 C.2.2.2.2.2.2.2.2.1 St.2.2.1 k 1 (am_ws_get hk) rfl hi (am_in_dec hin) (kk.2.2 p e R s m args below meth c H locs ls cells slots C St)
theorem sw_iast {k n : Nat} {x y : Int32} (hin : am_in i pc = some (.iastore, 1)) (hk : sh[k]? = some (.inl (0, n))) (hi : vp_in x n) (kk : am_SW l D G B sp fz Lx xs Q shE i (pc + 1) L S sh (am_up M k x.toNatClampNeg y) N) : am_SW l D G B sp fz Lx xs Q shE i pc L (.int y :: .int x :: .ref k :: S) sh M N := by
  refine ⟨kk.1, kk.2.1, fun p e R s m args below meth c H locs ls cells slots C St => ?_⟩
  obtain ⟨a1, a2, a3, a4, a5, a6, a7, a8⟩ := St
  refine va_iast C.1 C.2.1 C.2.2.2.2.2.2.2.2.1 a3 a4 a5 k 0 (am_ws_get hk) rfl hi (am_in_dec hin) (fun H1 locs1 hP hD hS => ?_)
  have he : (am_ws G B sp sh M N).set k (am_ad B sp k, .inl (G.1, n, .inl (upd (M k) x.toNatClampNeg y))) = am_ws G B sp sh (am_up M k x.toNatClampNeg y) N := by
    rw [← am_up_row]
    exact am_ws_set hk (fun a ha => by funext b; simp [am_up, ha]) (fun _ _ => rfl)
  rw [he] at hP hD
  exact kk.2.2 p e R s m args below meth c H1 locs1 ls cells slots C ⟨a1, a2, hP, hD, hS, a6, a7, a8⟩
theorem sw_zast {k n : Nat} {x y : Int32} (hin : am_in i pc = some (.bastore, 1)) (hk : sh[k]? = some (.inl (1, n))) (hi : vp_in x n) (kk : am_SW l D G B sp fz Lx xs Q shE i (pc + 1) L S sh (am_up M k x.toNatClampNeg (vp_nar .boolean y)) N) : am_SW l D G B sp fz Lx xs Q shE i pc L (.int y :: .int x :: .ref k :: S) sh M N := by
  refine ⟨kk.1, kk.2.1, fun p e R s m args below meth c H locs ls cells slots C St => ?_⟩
  obtain ⟨a1, a2, a3, a4, a5, a6, a7, a8⟩ := St
  refine va_zast C.1 C.2.1 C.2.2.2.2.2.2.2.2.1 a3 a4 a5 k 1 (am_ws_get hk) rfl hi (am_in_dec hin) (fun H1 locs1 hP hD hS => ?_)
  have he : (am_ws G B sp sh M N).set k (am_ad B sp k, .inl (G.2.1, n, .inl (upd (M k) x.toNatClampNeg (vp_nar .boolean y)))) = am_ws G B sp sh (am_up M k x.toNatClampNeg (vp_nar .boolean y)) N := by
    rw [← am_up_row]
    exact am_ws_set hk (fun a ha => by funext b; simp [am_up, ha]) (fun _ _ => rfl)
  rw [he] at hP hD
  exact kk.2.2 p e R s m args below meth c H1 locs1 ls cells slots C ⟨a1, a2, hP, hD, hS, a6, a7, a8⟩
theorem sw_aald {k n : Nat} {x : Int32} (hin : am_in i pc = some (.aaload, 1)) (hk : sh[k]? = some (.inl (2, n))) (hi : vp_in x n) (kk : am_SW l D G B sp fz Lx xs Q shE i (pc + 1) L (.ref (k + 1 + x.toNatClampNeg) :: S) sh M N) : am_SW l D G B sp fz Lx xs Q shE i pc L (.int x :: .ref k :: S) sh M N := by
  refine ⟨kk.1, kk.2.1, fun p e R s m args below meth c H locs ls cells slots C St => ?_⟩
  have hlt : x.toNatClampNeg < n := Nat.not_le.mp fun q => hi (Or.inr q)
  have hc := St.2.2.1 k _ (am_ws_get hk)
  exact W.aald (v := .ref (am_ad B sp (k + 1 + x.toNatClampNeg))) (ty := .array .int) C.1 C.2.1 hc ((C.2.2.2.2.2.2.2.2.1.2 2 _ rfl).1 n (fun j => va_rf (some (am_ad B sp (k + 1 + j))))) rfl (fun q => by cases q) (by show ¬ (x < 0 ∨ (arrV _ _ _).slots.size ≤ _); rw [arrV_size]; exact hi) (by show (arrV _ _ _).slots[_]? = _; rw [arrV_read _ _ hlt]; rfl) rfl rfl (am_in_dec hin) (kk.2.2 p e R s m args below meth c H locs ls cells slots C St)
theorem sw_alen {k t n : Nat} (hin : am_in i pc = some (.arraylength, 1)) (hk : sh[k]? = some (.inl (t, n))) (kk : am_SW l D G B sp fz Lx xs Q shE i (pc + 1) L (.int (Int32.ofNat n) :: S) sh M N) : am_SW l D G B sp fz Lx xs Q shE i pc L (.ref k :: S) sh M N := by
  refine ⟨kk.1, kk.2.1, fun p e R s m args below meth c H locs ls cells slots C St => ?_⟩
  match t, hk with
  | 0, hk => exact va_alen C.1 C.2.1 C.2.2.2.2.2.2.2.2.1 St.2.2.1 k 0 (am_ws_get hk) rfl rfl (am_in_dec hin) (kk.2.2 p e R s m args below meth c H locs ls cells slots C St)
  | 1, hk => exact va_alen C.1 C.2.1 C.2.2.2.2.2.2.2.2.1 St.2.2.1 k 1 (am_ws_get hk) rfl rfl (am_in_dec hin) (kk.2.2 p e R s m args below meth c H locs ls cells slots C St)
  | t + 2, hk => exact va_alen C.1 C.2.1 C.2.2.2.2.2.2.2.2.1 St.2.2.1 k 2 (am_ws_get hk) rfl rfl (am_in_dec hin) (kk.2.2 p e R s m args below meth c H locs ls cells slots C St)
/-- numbers of the pool -/
theorem sw_ldc {idx : Nat} {v : Int32} (hin : am_in i pc = some (.ldc idx, 2)) (hk : am_ki i idx = some v) (kk : am_SW l D G B sp fz Lx xs Q shE i (pc + 2) L (.int v :: S) sh M N) : am_SW l D G B sp fz Lx xs Q shE i pc L S sh M N :=
  ⟨kk.1, kk.2.1, fun p e R s m args below meth c H locs ls cells slots C St => lv_ldc C.1 C.2.1 C.2.2.2.1 (C.2.2.2.2.1 _ (am_tbl_in (am_kcis (am_ow i) (idx, v) (am_look hk)) rfl)) (am_in_dec hin) (kk.2.2 p e R s m args below meth c H locs ls cells slots C St)⟩
theorem sw_ldcw {idx : Nat} {v : Int32} (hin : am_in i pc = some (.ldc_w idx, 3)) (hk : am_ki i idx = some v) (kk : am_SW l D G B sp fz Lx xs Q shE i (pc + 3) L (.int v :: S) sh M N) : am_SW l D G B sp fz Lx xs Q shE i pc L S sh M N :=
  ⟨kk.1, kk.2.1, fun p e R s m args below meth c H locs ls cells slots C St => lv_ldcw C.1 C.2.1 C.2.2.2.1 (C.2.2.2.2.1 _ (am_tbl_in (am_kcis (am_ow i) (idx, v) (am_look hk)) rfl)) (am_in_dec hin) (kk.2.2 p e R s m args below meth c H locs ls cells slots C St)⟩
theorem sw_ldc2 {idx : Nat} {v : Int64} (hin : am_in i pc = some (.ldc2_w idx, 3)) (hk : am_kl i idx = some v) (kk : am_SW l D G B sp fz Lx xs Q shE i (pc + 3) L (.long v :: S) sh M N) : am_SW l D G B sp fz Lx xs Q shE i pc L S sh M N :=
  ⟨kk.1, kk.2.1, fun p e R s m args below meth c H locs ls cells slots C St => lv_ldc2 C.1 C.2.1 C.2.2.2.1 (C.2.2.2.2.1 _ (am_tbl_in (am_kcls (am_ow i) (idx, v) (am_look hk)) rfl)) (am_in_dec hin) (kk.2.2 p e R s m args below meth c H locs ls cells slots C St)⟩
end AMH
