/-! ===== the rule for new int[n][k] ===== -/
theorem am_nm1 : "[" ++ (FieldType.array .int).toString = "[[I" := by decide +kernel
theorem am_nm2 : "[" ++ FieldType.int.toString = (FieldType.array .int).toString := by decide +kernel
section AMG
variable {l : Launch} {D : va_G} {G : am_G} {B : Nat} {sp : Nat → Nat} {fz : Value} {Lx : Nat} {xs : Nat → Int32} {Q : am_Q} {shE : List am_E} {i pc : Nat} {L S : am_V} {sh : List am_E} {M : am_M} {N : am_N}
theorem am_D (h : sh.length ≤ 1000000) : va_D (am_A B) (am_ws G B sp sh M N) := by
  have key : ∀ (k : Nat) (q : Nat × va_E), (am_ws G B sp sh M N)[k]? = some q → k < sh.length ∧ q.1 = B + k := by
    intro k q hq
    have hk : k < sh.length := by
      have := (List.getElem?_eq_some_iff.mp hq).1
      simpa [am_ws] using this
    rw [am_ws_get (List.getElem?_eq_getElem hk)] at hq
    cases hq
    exact ⟨hk, am_ad_lo (by omega)⟩
  refine ⟨fun a b p q ha hb hab => ?_, fun k q hq => ?_⟩
  · have h1 := key a p ha
    have h2 := key b q hb
    omega
  · have h1 := key k q hq
    show B ≤ q.1
    omega
theorem am_sz_app (a b : List am_E) : am_sz (a ++ b) = am_sz a + am_sz b := by
  simp [am_sz]
theorem am_sz_rep (n k : Nat) : am_sz (List.replicate n (.inl (0, k))) = n * k := by
  simp [am_sz]
theorem sw_grid {idx n k : Nat} {x y : Int32} (hin : am_in i pc = some (.multianewarray idx 2, 4)) (hc : am_gg i idx = true) (hx0 : ¬ x < 0) (hy0 : ¬ y < 0) (hxn : x.toNatClampNeg = n) (hyn : y.toNatClampNeg = k) (hn : n ≤ 1000) (hk : k ≤ 1000) (hl : sh.length < 900000)
    (kk : am_SW l D G B sp fz Lx xs Q shE i (pc + 4) L (.ref sh.length :: S) (sh ++ (.inl (2, n) :: List.replicate n (.inl (0, k)))) (fun a => if sh.length ≤ a then fun _ => 0 else M a) N) : am_SW l D G B sp fz Lx xs Q shE i pc L (.int y :: .int x :: S) sh M N := by
  have k1 := kk.1
  have k2 := kk.2.1
  have hlen : (sh ++ (.inl (2, n) :: List.replicate n (.inl (0, k))) : List am_E).length = sh.length + 1 + n := by simp; omega
  have hsz0 : am_sz (sh ++ (.inl (2, n) :: List.replicate n (.inl (0, k)))) = am_sz sh + n + n * k := by
    rw [am_sz_app]
    have : am_sz (.inl (2, n) :: List.replicate n (.inl (0, k))) = n + n * k := by
      rw [← am_sz_rep]
      simp [am_sz]
    rw [this]
    omega
  rw [hlen] at k1
  rw [hsz0] at k2
  refine ⟨by omega, by omega, fun p e R s m args below meth c H locs ls cells slots C St => am_size fun hsz => ?_⟩
  have hC := id C
  obtain ⟨hx, hb, hml, hown, hts, hr, hlk, hnm, hK, hX, hB, hfr, hlo⟩ := C
  obtain ⟨a1, a2, a3, a4, a5, a6, a7, a8⟩ := St
  have hBH : B ≤ H.size := Nat.le_trans hB a5.1
  have hge := am_hsz a3 (by omega) hBH
  have hHs : H.size = B + sh.length := by omega
  obtain ⟨comp, cA, kA, g1, g2, g3, g4⟩ := hX.2.2.2.2.2.2.2.1
  have hG2 : cA = G.2.2 := Option.some.inj (g4.symm.trans (hK.2 2 _ rfl).2)
  have hG1 : comp = G.1 := by
    have h9 : s.vm.findClass ("[" ++ FieldType.int.toString) = some G.1 := (hK.2 0 _ rfl).2
    rw [am_nm2] at h9
    exact Option.some.inj (g1.symm.trans h9)
  subst hG2
  subst hG1
  rw [am_nm1] at g4
  obtain ⟨-, kI, hkI, cc, hkindI⟩ := (hK.2 0 _ rfl).1 0 (fun _ => .int 0)
  subst hxn
  subst hyn
  intro T hT X
  obtain ⟨vm₁, hw, X', st⟩ := mg_step X hx hown (hts _ (am_tbl_in (am_kgs (am_ow i) idx (by simpa [am_gg] using hc)) rfl)) g4 g2 g3 hkI hkindI (g := F0 m pc ls ((.int y :: .int x :: S).map (am_cv B sp fz))) rfl (by rw [hb]; exact am_in_dec hin) rfl hx0 hy0 (by omega) (by omega) (by omega) (by omega)
  have hTh : (T.setVm vm₁).heap = H := hT
  have hTs : T.heap.size = B + sh.length := by rw [hT, hHs]
  obtain ⟨f1, f2, -, -⟩ := mg_facts (T.setVm vm₁) G.2.2 G.1 x.toNatClampNeg y.toNatClampNeg x.toNatClampNeg
  have f3 : ∀ a, a < H.size → _ := fun a ha => mg_old (T.setVm vm₁) G.2.2 G.1 x.toNatClampNeg y.toNatClampNeg (a := a) (by rw [hTh]; exact ha) x.toNatClampNeg
  have f4 := mg_rows (T.setVm vm₁) G.2.2 G.1 x.toNatClampNeg y.toNatClampNeg x.toNatClampNeg
  rw [hTh] at f1 f2 f4
  generalize mg_st (T.setVm vm₁) G.2.2 G.1 x.toNatClampNeg y.toNatClampNeg x.toNatClampNeg = F at X' st f1 f2 f3 f4
  have hP1 : va_P D vwCl (am_ws G B sp (sh ++ (.inl (2, x.toNatClampNeg) :: List.replicate x.toNatClampNeg (.inl (0, y.toNatClampNeg)))) (fun a => if sh.length ≤ a then fun _ => 0 else M a) N) F.heap := by
    intro q w hq
    have hql : q < sh.length + 1 + x.toNatClampNeg := by
      have := (List.getElem?_eq_some_iff.mp hq).1
      rw [← hlen]
      simpa [am_ws] using this
    by_cases c1 : q < sh.length
    · have he : (sh ++ (.inl (2, x.toNatClampNeg) :: List.replicate x.toNatClampNeg (.inl (0, y.toNatClampNeg))) : List am_E)[q]? = some sh[q] := by rw [List.getElem?_append_left c1]; exact List.getElem?_eq_getElem c1
      rw [am_ws_get he] at hq
      cases hq
      have hold := a3 q _ (am_ws_get (List.getElem?_eq_getElem c1))
      rw [am_ce_eq (M := M) (N := N) (by simp [show ¬ sh.length ≤ q by omega]) rfl]
      exact hold.kept (by rw [f3 _ hold.lt, hTh])
    · by_cases c2 : q = sh.length
      · subst c2
        have he : (sh ++ (.inl (2, x.toNatClampNeg) :: List.replicate x.toNatClampNeg (.inl (0, y.toNatClampNeg))) : List am_E)[sh.length]? = some (.inl (2, x.toNatClampNeg)) := by simp
        rw [am_ws_get he] at hq
        cases hq
        show F.heap[am_ad B sp sh.length]? = some (vp_cell G.2.2 (x.toNatClampNeg, .inr (.inr (.inr (.inr (fun j => some (am_ad B sp (sh.length + 1 + j))))))))
        rw [am_ad_lo (by omega), ← hHs, f2, vp_cell_q]
        unfold mg_out arrV
        congr 1
        congr 1
        apply Array.ext
        · simp
        · intro j h1 h2
          have h3 : j < x.toNatClampNeg := by simpa using h1
          have h4 : am_ad B sp (sh.length + 1 + j) = H.size + 1 + j := by rw [am_ad_lo (by omega)]; omega
          simp only [Array.getElem_ofFn, h3, if_true, va_rf, h4]
      · obtain ⟨j, rfl⟩ : ∃ j, q = sh.length + 1 + j := ⟨q - sh.length - 1, by omega⟩
        have hj : j < x.toNatClampNeg := by omega
        have he : (sh ++ (.inl (2, x.toNatClampNeg) :: List.replicate x.toNatClampNeg (.inl (0, y.toNatClampNeg))) : List am_E)[sh.length + 1 + j]? = some (.inl (0, y.toNatClampNeg)) := by
          rw [List.getElem?_append_right (by omega), show sh.length + 1 + j - sh.length = j + 1 by omega, List.getElem?_cons_succ, List.getElem?_replicate, if_pos hj]
        rw [am_ws_get he] at hq
        cases hq
        show F.heap[am_ad B sp (sh.length + 1 + j)]? = some (vp_cell G.1 (y.toNatClampNeg, .inl (if sh.length ≤ sh.length + 1 + j then fun _ => 0 else M (sh.length + 1 + j))))
        rw [am_ad_lo (by omega), show B + (sh.length + 1 + j) = H.size + 1 + j by omega, f4 j hj, vp_cell_i, if_pos (by omega)]
        rfl
  have hS1 : va_S (am_A B) s.heap F.heap (locs ++ (List.range x.toNatClampNeg).map fun j => (⟨T.heap.size, j⟩ : Loc)) := by
    refine ⟨Nat.le_trans a5.1 (by omega), fun q h1 h2 => ?_, fun q hq => ?_⟩
    · rw [f3 q (Nat.lt_of_lt_of_le h1 a5.1), hTh]
      exact a5.2.1 q h1 h2
    · rcases List.mem_append.mp hq with h | h
      · exact a5.2.2 q h
      · obtain ⟨j, -, rfl⟩ := List.mem_map.mp h
        show B ≤ T.heap.size
        omega
  have hk := kk.2.2 p e R s m args below meth c F.heap _ ls (cells + 1 + x.toNatClampNeg) (slots + x.toNatClampNeg + x.toNatClampNeg * y.toNatClampNeg) hC ⟨by rw [hlen]; omega, by rw [hsz0]; omega, hP1, am_D (by rw [hlen]; omega), hS1, by rw [hlen]; omega, a7, a8⟩ F rfl X'
  obtain ⟨t, b1, b2⟩ := hk
  refine ⟨t, st t ?_, b2⟩
  rw [List.map_cons, show am_cv B sp fz (.ref sh.length) = .ref T.heap.size by show Value.ref (am_ad B sp _) = _; rw [am_ad_lo (by omega), hTs]] at b1
  exact b1
end AMG
