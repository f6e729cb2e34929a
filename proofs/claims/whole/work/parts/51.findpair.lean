/-! ===== the pair find ===== -/
theorem fs_sea {M : am_M} {row ca nm fr to : Int32} {F C : Nat} (h : iv_sea M) : iv_sea (am_up (am_up (am_up (am_up (am_up (am_up (am_up (m_cf (am_up (am_up (am_up (am_up (am_up (am_up (am_up (am_up M 33 F row) 34 F ca) 35 F nm) 36 F fr) 37 F to) 38 F (M 0 11)) 39 F (vp_nar .boolean 0)) 32 7 (nI F + 1)) F C) 153 F row) 154 F ca) 155 F nm) 156 F fr) 157 F to) 158 F (M 0 11)) 120 44 (nI F + 1)) := h
theorem fs_sb {M : am_M} {row ca nm fr to : Int32} {F C : Nat} (h : iv_sb M) : iv_sb (am_up (am_up (am_up (am_up (am_up (am_up (am_up (m_cf (am_up (am_up (am_up (am_up (am_up (am_up (am_up (am_up M 33 F row) 34 F ca) 35 F nm) 36 F fr) 37 F to) 38 F (M 0 11)) 39 F (vp_nar .boolean 0)) 32 7 (nI F + 1)) F C) 153 F row) 154 F ca) 155 F nm) 156 F fr) 157 F to) 158 F (M 0 11)) 120 44 (nI F + 1)) := h
theorem fs_ca {M : am_M} {row ca nm fr to : Int32} {F C : Nat} (h : iv_ca M) : iv_ca (am_up (am_up (am_up (am_up (am_up (am_up (am_up (m_cf (am_up (am_up (am_up (am_up (am_up (am_up (am_up (am_up M 33 F row) 34 F ca) 35 F nm) 36 F fr) 37 F to) 38 F (M 0 11)) 39 F (vp_nar .boolean 0)) 32 7 (nI F + 1)) F C) 153 F row) 154 F ca) 155 F nm) 156 F fr) 157 F to) 158 F (M 0 11)) 120 44 (nI F + 1)) := h
theorem fs_cb {M : am_M} {row ca nm fr to : Int32} {F C : Nat} (h : iv_cb M) : iv_cb (am_up (am_up (am_up (am_up (am_up (am_up (am_up (m_cf (am_up (am_up (am_up (am_up (am_up (am_up (am_up (am_up M 33 F row) 34 F ca) 35 F nm) 36 F fr) 37 F to) 38 F (M 0 11)) 39 F (vp_nar .boolean 0)) 32 7 (nI F + 1)) F C) 153 F row) 154 F ca) 155 F nm) 156 F fr) 157 F to) 158 F (M 0 11)) 120 44 (nI F + 1)) := h
theorem fs_na {M : am_M} {row ca nm fr to : Int32} {F C : Nat} (h : iv_na M) : iv_na (am_up (am_up (am_up (am_up (am_up (am_up (am_up (m_cf (am_up (am_up (am_up (am_up (am_up (am_up (am_up (am_up M 33 F row) 34 F ca) 35 F nm) 36 F fr) 37 F to) 38 F (M 0 11)) 39 F (vp_nar .boolean 0)) 32 7 (nI F + 1)) F C) 153 F row) 154 F ca) 155 F nm) 156 F fr) 157 F to) 158 F (M 0 11)) 120 44 (nI F + 1)) := h
theorem fs_nb {M : am_M} {row ca nm fr to : Int32} {F C : Nat} (h : iv_nb M) : iv_nb (am_up (am_up (am_up (am_up (am_up (am_up (am_up (m_cf (am_up (am_up (am_up (am_up (am_up (am_up (am_up (am_up M 33 F row) 34 F ca) 35 F nm) 36 F fr) 37 F to) 38 F (M 0 11)) 39 F (vp_nar .boolean 0)) 32 7 (nI F + 1)) F C) 153 F row) 154 F ca) 155 F nm) 156 F fr) 157 F to) 158 F (M 0 11)) 120 44 (nI F + 1)) := h
theorem fs_ta {M : am_M} {row ca nm fr to : Int32} {F C : Nat} (h : iv_ta M) : iv_ta (am_up (am_up (am_up (am_up (am_up (am_up (am_up (m_cf (am_up (am_up (am_up (am_up (am_up (am_up (am_up (am_up M 33 F row) 34 F ca) 35 F nm) 36 F fr) 37 F to) 38 F (M 0 11)) 39 F (vp_nar .boolean 0)) 32 7 (nI F + 1)) F C) 153 F row) 154 F ca) 155 F nm) 156 F fr) 157 F to) 158 F (M 0 11)) 120 44 (nI F + 1)) := h
theorem fs_pr {M : am_M} {row ca nm fr to : Int32} {F C : Nat} (h : iv_pr M) : iv_pr (am_up (am_up (am_up (am_up (am_up (am_up (am_up (m_cf (am_up (am_up (am_up (am_up (am_up (am_up (am_up (am_up M 33 F row) 34 F ca) 35 F nm) 36 F fr) 37 F to) 38 F (M 0 11)) 39 F (vp_nar .boolean 0)) 32 7 (nI F + 1)) F C) 153 F row) 154 F ca) 155 F nm) 156 F fr) 157 F to) 158 F (M 0 11)) 120 44 (nI F + 1)) := h
theorem fs_153 {M : am_M} {row ca nm fr to : Int32} {F C : Nat} (h : M 153 = M 33) : (am_up (am_up (am_up (am_up (am_up (am_up (am_up (m_cf (am_up (am_up (am_up (am_up (am_up (am_up (am_up (am_up M 33 F row) 34 F ca) 35 F nm) 36 F fr) 37 F to) 38 F (M 0 11)) 39 F (vp_nar .boolean 0)) 32 7 (nI F + 1)) F C) 153 F row) 154 F ca) 155 F nm) 156 F fr) 157 F to) 158 F (M 0 11)) 120 44 (nI F + 1)) 153 = (am_up (am_up (am_up (am_up (am_up (am_up (am_up (m_cf (am_up (am_up (am_up (am_up (am_up (am_up (am_up (am_up M 33 F row) 34 F ca) 35 F nm) 36 F fr) 37 F to) 38 F (M 0 11)) 39 F (vp_nar .boolean 0)) 32 7 (nI F + 1)) F C) 153 F row) 154 F ca) 155 F nm) 156 F fr) 157 F to) 158 F (M 0 11)) 120 44 (nI F + 1)) 33 := up_eq (j := F) (x := row) h
theorem fb_153 {M : am_M} {row ca nm fr to : Int32} {F C : Nat} {a b : Int} (h : ∀ j, b_in (M 33 j) a b) (h2 : b_in (row) a b) : ∀ j, b_in ((am_up (am_up (am_up (am_up (am_up (am_up (am_up (m_cf (am_up (am_up (am_up (am_up (am_up (am_up (am_up (am_up M 33 F row) 34 F ca) 35 F nm) 36 F fr) 37 F to) 38 F (M 0 11)) 39 F (vp_nar .boolean 0)) 32 7 (nI F + 1)) F C) 153 F row) 154 F ca) 155 F nm) 156 F fr) 157 F to) 158 F (M 0 11)) 120 44 (nI F + 1)) 33 j) a b := b_up h h2
theorem fs_154 {M : am_M} {row ca nm fr to : Int32} {F C : Nat} (h : M 154 = M 34) : (am_up (am_up (am_up (am_up (am_up (am_up (am_up (m_cf (am_up (am_up (am_up (am_up (am_up (am_up (am_up (am_up M 33 F row) 34 F ca) 35 F nm) 36 F fr) 37 F to) 38 F (M 0 11)) 39 F (vp_nar .boolean 0)) 32 7 (nI F + 1)) F C) 153 F row) 154 F ca) 155 F nm) 156 F fr) 157 F to) 158 F (M 0 11)) 120 44 (nI F + 1)) 154 = (am_up (am_up (am_up (am_up (am_up (am_up (am_up (m_cf (am_up (am_up (am_up (am_up (am_up (am_up (am_up (am_up M 33 F row) 34 F ca) 35 F nm) 36 F fr) 37 F to) 38 F (M 0 11)) 39 F (vp_nar .boolean 0)) 32 7 (nI F + 1)) F C) 153 F row) 154 F ca) 155 F nm) 156 F fr) 157 F to) 158 F (M 0 11)) 120 44 (nI F + 1)) 34 := up_eq (j := F) (x := ca) h
theorem fb_154 {M : am_M} {row ca nm fr to : Int32} {F C : Nat} {a b : Int} (h : ∀ j, b_in (M 34 j) a b) (h2 : b_in (ca) a b) : ∀ j, b_in ((am_up (am_up (am_up (am_up (am_up (am_up (am_up (m_cf (am_up (am_up (am_up (am_up (am_up (am_up (am_up (am_up M 33 F row) 34 F ca) 35 F nm) 36 F fr) 37 F to) 38 F (M 0 11)) 39 F (vp_nar .boolean 0)) 32 7 (nI F + 1)) F C) 153 F row) 154 F ca) 155 F nm) 156 F fr) 157 F to) 158 F (M 0 11)) 120 44 (nI F + 1)) 34 j) a b := b_up h h2
theorem fs_155 {M : am_M} {row ca nm fr to : Int32} {F C : Nat} (h : M 155 = M 35) : (am_up (am_up (am_up (am_up (am_up (am_up (am_up (m_cf (am_up (am_up (am_up (am_up (am_up (am_up (am_up (am_up M 33 F row) 34 F ca) 35 F nm) 36 F fr) 37 F to) 38 F (M 0 11)) 39 F (vp_nar .boolean 0)) 32 7 (nI F + 1)) F C) 153 F row) 154 F ca) 155 F nm) 156 F fr) 157 F to) 158 F (M 0 11)) 120 44 (nI F + 1)) 155 = (am_up (am_up (am_up (am_up (am_up (am_up (am_up (m_cf (am_up (am_up (am_up (am_up (am_up (am_up (am_up (am_up M 33 F row) 34 F ca) 35 F nm) 36 F fr) 37 F to) 38 F (M 0 11)) 39 F (vp_nar .boolean 0)) 32 7 (nI F + 1)) F C) 153 F row) 154 F ca) 155 F nm) 156 F fr) 157 F to) 158 F (M 0 11)) 120 44 (nI F + 1)) 35 := up_eq (j := F) (x := nm) h
theorem fb_155 {M : am_M} {row ca nm fr to : Int32} {F C : Nat} {a b : Int} (h : ∀ j, b_in (M 35 j) a b) (h2 : b_in (nm) a b) : ∀ j, b_in ((am_up (am_up (am_up (am_up (am_up (am_up (am_up (m_cf (am_up (am_up (am_up (am_up (am_up (am_up (am_up (am_up M 33 F row) 34 F ca) 35 F nm) 36 F fr) 37 F to) 38 F (M 0 11)) 39 F (vp_nar .boolean 0)) 32 7 (nI F + 1)) F C) 153 F row) 154 F ca) 155 F nm) 156 F fr) 157 F to) 158 F (M 0 11)) 120 44 (nI F + 1)) 35 j) a b := b_up h h2
theorem fs_156 {M : am_M} {row ca nm fr to : Int32} {F C : Nat} (h : M 156 = M 36) : (am_up (am_up (am_up (am_up (am_up (am_up (am_up (m_cf (am_up (am_up (am_up (am_up (am_up (am_up (am_up (am_up M 33 F row) 34 F ca) 35 F nm) 36 F fr) 37 F to) 38 F (M 0 11)) 39 F (vp_nar .boolean 0)) 32 7 (nI F + 1)) F C) 153 F row) 154 F ca) 155 F nm) 156 F fr) 157 F to) 158 F (M 0 11)) 120 44 (nI F + 1)) 156 = (am_up (am_up (am_up (am_up (am_up (am_up (am_up (m_cf (am_up (am_up (am_up (am_up (am_up (am_up (am_up (am_up M 33 F row) 34 F ca) 35 F nm) 36 F fr) 37 F to) 38 F (M 0 11)) 39 F (vp_nar .boolean 0)) 32 7 (nI F + 1)) F C) 153 F row) 154 F ca) 155 F nm) 156 F fr) 157 F to) 158 F (M 0 11)) 120 44 (nI F + 1)) 36 := up_eq (j := F) (x := fr) h
theorem fb_156 {M : am_M} {row ca nm fr to : Int32} {F C : Nat} {a b : Int} (h : ∀ j, b_in (M 36 j) a b) (h2 : b_in (fr) a b) : ∀ j, b_in ((am_up (am_up (am_up (am_up (am_up (am_up (am_up (m_cf (am_up (am_up (am_up (am_up (am_up (am_up (am_up (am_up M 33 F row) 34 F ca) 35 F nm) 36 F fr) 37 F to) 38 F (M 0 11)) 39 F (vp_nar .boolean 0)) 32 7 (nI F + 1)) F C) 153 F row) 154 F ca) 155 F nm) 156 F fr) 157 F to) 158 F (M 0 11)) 120 44 (nI F + 1)) 36 j) a b := b_up h h2
theorem fs_157 {M : am_M} {row ca nm fr to : Int32} {F C : Nat} (h : M 157 = M 37) : (am_up (am_up (am_up (am_up (am_up (am_up (am_up (m_cf (am_up (am_up (am_up (am_up (am_up (am_up (am_up (am_up M 33 F row) 34 F ca) 35 F nm) 36 F fr) 37 F to) 38 F (M 0 11)) 39 F (vp_nar .boolean 0)) 32 7 (nI F + 1)) F C) 153 F row) 154 F ca) 155 F nm) 156 F fr) 157 F to) 158 F (M 0 11)) 120 44 (nI F + 1)) 157 = (am_up (am_up (am_up (am_up (am_up (am_up (am_up (m_cf (am_up (am_up (am_up (am_up (am_up (am_up (am_up (am_up M 33 F row) 34 F ca) 35 F nm) 36 F fr) 37 F to) 38 F (M 0 11)) 39 F (vp_nar .boolean 0)) 32 7 (nI F + 1)) F C) 153 F row) 154 F ca) 155 F nm) 156 F fr) 157 F to) 158 F (M 0 11)) 120 44 (nI F + 1)) 37 := up_eq (j := F) (x := to) h
theorem fb_157 {M : am_M} {row ca nm fr to : Int32} {F C : Nat} {a b : Int} (h : ∀ j, b_in (M 37 j) a b) (h2 : b_in (to) a b) : ∀ j, b_in ((am_up (am_up (am_up (am_up (am_up (am_up (am_up (m_cf (am_up (am_up (am_up (am_up (am_up (am_up (am_up (am_up M 33 F row) 34 F ca) 35 F nm) 36 F fr) 37 F to) 38 F (M 0 11)) 39 F (vp_nar .boolean 0)) 32 7 (nI F + 1)) F C) 153 F row) 154 F ca) 155 F nm) 156 F fr) 157 F to) 158 F (M 0 11)) 120 44 (nI F + 1)) 37 j) a b := b_up h h2
theorem fs_158 {M : am_M} {row ca nm fr to : Int32} {F C : Nat} (h : M 158 = M 38) : (am_up (am_up (am_up (am_up (am_up (am_up (am_up (m_cf (am_up (am_up (am_up (am_up (am_up (am_up (am_up (am_up M 33 F row) 34 F ca) 35 F nm) 36 F fr) 37 F to) 38 F (M 0 11)) 39 F (vp_nar .boolean 0)) 32 7 (nI F + 1)) F C) 153 F row) 154 F ca) 155 F nm) 156 F fr) 157 F to) 158 F (M 0 11)) 120 44 (nI F + 1)) 158 = (am_up (am_up (am_up (am_up (am_up (am_up (am_up (m_cf (am_up (am_up (am_up (am_up (am_up (am_up (am_up (am_up M 33 F row) 34 F ca) 35 F nm) 36 F fr) 37 F to) 38 F (M 0 11)) 39 F (vp_nar .boolean 0)) 32 7 (nI F + 1)) F C) 153 F row) 154 F ca) 155 F nm) 156 F fr) 157 F to) 158 F (M 0 11)) 120 44 (nI F + 1)) 38 := up_eq (j := F) (x := M 0 11) h
theorem fb_158 {M : am_M} {row ca nm fr to : Int32} {F C : Nat} {a b : Int} (h : ∀ j, b_in (M 38 j) a b) (h2 : b_in (M 0 11) a b) : ∀ j, b_in ((am_up (am_up (am_up (am_up (am_up (am_up (am_up (m_cf (am_up (am_up (am_up (am_up (am_up (am_up (am_up (am_up M 33 F row) 34 F ca) 35 F nm) 36 F fr) 37 F to) 38 F (M 0 11)) 39 F (vp_nar .boolean 0)) 32 7 (nI F + 1)) F C) 153 F row) 154 F ca) 155 F nm) 156 F fr) 157 F to) 158 F (M 0 11)) 120 44 (nI F + 1)) 38 j) a b := b_up h h2
theorem fs_ti {M : am_M} {row ca nm fr to : Int32} {F C : Nat} (h : iv_ti M) : iv_ti (am_up (am_up (am_up (am_up (am_up (am_up (am_up (m_cf (am_up (am_up (am_up (am_up (am_up (am_up (am_up (am_up M 33 F row) 34 F ca) 35 F nm) 36 F fr) 37 F to) 38 F (M 0 11)) 39 F (vp_nar .boolean 0)) 32 7 (nI F + 1)) F C) 153 F row) 154 F ca) 155 F nm) 156 F fr) 157 F to) 158 F (M 0 11)) 120 44 (nI F + 1)) := ⟨h.1, h.2.1, fun j => by show (if j = F then M 0 11 else M 38 j).toInt ≤ 999; split; exact h.2.1; exact h.2.2 j⟩
theorem fs_39 {M : am_M} {row ca nm fr to : Int32} {F C : Nat} : (am_up (am_up (am_up (am_up (am_up (am_up (am_up (m_cf (am_up (am_up (am_up (am_up (am_up (am_up (am_up (am_up M 33 F row) 34 F ca) 35 F nm) 36 F fr) 37 F to) 38 F (M 0 11)) 39 F (vp_nar .boolean 0)) 32 7 (nI F + 1)) F C) 153 F row) 154 F ca) 155 F nm) 156 F fr) 157 F to) 158 F (M 0 11)) 120 44 (nI F + 1)) 39 = fun j => if j = F then 0 else M 39 j := rfl
theorem fs_159 {M : am_M} {row ca nm fr to : Int32} {F C : Nat} : (am_up (am_up (am_up (am_up (am_up (am_up (am_up (m_cf (am_up (am_up (am_up (am_up (am_up (am_up (am_up (am_up M 33 F row) 34 F ca) 35 F nm) 36 F fr) 37 F to) 38 F (M 0 11)) 39 F (vp_nar .boolean 0)) 32 7 (nI F + 1)) F C) 153 F row) 154 F ca) 155 F nm) 156 F fr) 157 F to) 158 F (M 0 11)) 120 44 (nI F + 1)) 159 = M 159 := rfl
theorem fs_44 {M : am_M} {row ca nm fr to : Int32} {F C : Nat} : (am_up (am_up (am_up (am_up (am_up (am_up (am_up (m_cf (am_up (am_up (am_up (am_up (am_up (am_up (am_up (am_up M 33 F row) 34 F ca) 35 F nm) 36 F fr) 37 F to) 38 F (M 0 11)) 39 F (vp_nar .boolean 0)) 32 7 (nI F + 1)) F C) 153 F row) 154 F ca) 155 F nm) 156 F fr) 157 F to) 158 F (M 0 11)) 120 44 (nI F + 1)) 120 44 = nI F + 1 := rfl
theorem fs_7 {M : am_M} {row ca nm fr to : Int32} {F C : Nat} : (am_up (am_up (am_up (am_up (am_up (am_up (am_up (m_cf (am_up (am_up (am_up (am_up (am_up (am_up (am_up (am_up M 33 F row) 34 F ca) 35 F nm) 36 F fr) 37 F to) 38 F (M 0 11)) 39 F (vp_nar .boolean 0)) 32 7 (nI F + 1)) F C) 153 F row) 154 F ca) 155 F nm) 156 F fr) 157 F to) 158 F (M 0 11)) 120 44 (nI F + 1)) 32 7 = nI F + 1 := rfl
theorem ch_eq2 {c : Nat} {M M' : am_M} (hch : iv_ch c M) (hkl : iv_kl M) (hkd : iv_kd M) (hcb : iv_cb M) (h1 : ∀ k, 54 ≤ k → k ≤ 58 → M' k = M k) (h2 : ∀ k, 80 ≤ k → k ≤ 106 → M' k = M k) (r : M' 52 4 = M 52 4 ∧ M' 1 11 = M 1 11 ∧ M' 107 = M 107 ∧ M' 18 7 = M 18 7 ∧ M' 26 5 = M 26 5) (rs : sC M' = sC M) (rc : M' 17 = M 17 ∧ M' 19 = M 19 ∧ M' 22 = M 22 ∧ M' 23 = M 23 ∧ M' 25 = M 25) (rn : M' 21 = M 21 ∧ M' 27 = M 27 ∧ M' 28 = M 28 ∧ M' 29 = M 29 ∧ M' 30 = M 30) : iv_ch (c + 1) M' ∧ iv_kl M' ∧ iv_kd M' := by
  obtain ⟨r1, r2, r3, r4, r5⟩ := r
  obtain ⟨c1, c2, c3, c4, c5⟩ := rc
  obtain ⟨n1, n2, n3, n4, n5⟩ := rn
  have ecf : ∀ sh c, c_cf (sC M') M' sh c = c_cf (sC M) M sh c := by
    intro sh c
    unfold c_cf
    rw [rs, c2, c3, c4, c5]
  have h5 := hcb.1.2
  obtain ⟨g1, g2, g3, g4⟩ := hch
  refine ⟨⟨by rw [r2]; omega, by rw [r2]; omega, by rw [r1, r2]; omega, fun a ha => by rw [r3, r2]; exact g4 a ha⟩, fun z cc hc j hj => ?_, fun a ha z cc n hc hn => ?_⟩
  · rw [r1, r2] at z
    rw [r4] at hc
    rw [h1 (54 + cc) (by omega) (by omega), ecf, c1]
    exact hkl z cc hc j hj
  · rw [r3, r2] at z
    rw [r4] at hc
    rw [r5] at hn
    rw [h2 (80 + a) (by omega) (by omega)]
    unfold c_du
    rw [ecf, n1, n2, n3, n4, n5]
    exact hkd a ha z cc n hc hn
theorem mcf_n {M : am_M} {f C r : Nat} (h : ¬ (61 ≤ r ∧ r < 77)) : m_cf M f C r = M r := by
  funext j
  unfold m_cf
  rw [if_neg h]
theorem fs_row {M : am_M} {row ca nm fr to : Int32} {F C : Nat} {r : Nat} (h : (54 ≤ r ∧ r ≤ 58) ∨ (80 ≤ r ∧ r ≤ 106)) : (am_up (am_up (am_up (am_up (am_up (am_up (am_up (m_cf (am_up (am_up (am_up (am_up (am_up (am_up (am_up (am_up M 33 F row) 34 F ca) 35 F nm) 36 F fr) 37 F to) 38 F (M 0 11)) 39 F (vp_nar .boolean 0)) 32 7 (nI F + 1)) F C) 153 F row) 154 F ca) 155 F nm) 156 F fr) 157 F to) 158 F (M 0 11)) 120 44 (nI F + 1)) r = M r := by
  rw [up_n (by omega), up_n (by omega), up_n (by omega), up_n (by omega), up_n (by omega), up_n (by omega), up_n (by omega), mcf_n (by omega), up_n (by omega), up_n (by omega), up_n (by omega), up_n (by omega), up_n (by omega), up_n (by omega), up_n (by omega), up_n (by omega)]
theorem fs_ch {M : am_M} {row ca nm fr to : Int32} {F C : Nat} {c : Nat} (hch : iv_ch c M) (hkl : iv_kl M) (hkd : iv_kd M) (hcb : iv_cb M) : iv_ch (c + 1) (am_up (am_up (am_up (am_up (am_up (am_up (am_up (m_cf (am_up (am_up (am_up (am_up (am_up (am_up (am_up (am_up M 33 F row) 34 F ca) 35 F nm) 36 F fr) 37 F to) 38 F (M 0 11)) 39 F (vp_nar .boolean 0)) 32 7 (nI F + 1)) F C) 153 F row) 154 F ca) 155 F nm) 156 F fr) 157 F to) 158 F (M 0 11)) 120 44 (nI F + 1)) ∧ iv_kl (am_up (am_up (am_up (am_up (am_up (am_up (am_up (m_cf (am_up (am_up (am_up (am_up (am_up (am_up (am_up (am_up M 33 F row) 34 F ca) 35 F nm) 36 F fr) 37 F to) 38 F (M 0 11)) 39 F (vp_nar .boolean 0)) 32 7 (nI F + 1)) F C) 153 F row) 154 F ca) 155 F nm) 156 F fr) 157 F to) 158 F (M 0 11)) 120 44 (nI F + 1)) ∧ iv_kd (am_up (am_up (am_up (am_up (am_up (am_up (am_up (m_cf (am_up (am_up (am_up (am_up (am_up (am_up (am_up (am_up M 33 F row) 34 F ca) 35 F nm) 36 F fr) 37 F to) 38 F (M 0 11)) 39 F (vp_nar .boolean 0)) 32 7 (nI F + 1)) F C) 153 F row) 154 F ca) 155 F nm) 156 F fr) 157 F to) 158 F (M 0 11)) 120 44 (nI F + 1)) :=
  ch_eq2 hch hkl hkd hcb (fun k h1 h2 => fs_row (.inl ⟨h1, h2⟩)) (fun k h1 h2 => fs_row (.inr ⟨h1, h2⟩)) ⟨rfl, rfl, rfl, rfl, rfl⟩ rfl ⟨rfl, rfl, rfl, rfl, rfl⟩ ⟨rfl, rfl, rfl, rfl, rfl⟩
theorem fs_cc {M : am_M} {row ca nm fr to : Int32} {F C : Nat} (hcc : iv_cc M) (hF : F < 16) (eF : M 32 7 = nI F) (hC : C ≤ 5) (eC : M 18 7 = nI C) : iv_cc (am_up (am_up (am_up (am_up (am_up (am_up (am_up (m_cf (am_up (am_up (am_up (am_up (am_up (am_up (am_up (am_up M 33 F row) 34 F ca) 35 F nm) 36 F fr) 37 F to) 38 F (M 0 11)) 39 F (vp_nar .boolean 0)) 32 7 (nI F + 1)) F C) 153 F row) 154 F ca) 155 F nm) 156 F fr) 157 F to) 158 F (M 0 11)) 120 44 (nI F + 1)) := by
  intro f c hf hc
  have hf2 : (f : Int) < (nI F + 1).toInt := hf
  have hc2 : (c : Int) < (M 18 7).toInt := hc
  rw [eC, nI_i (by omega)] at hc2
  rw [nI_1, nI_i (by omega)] at hf2
  rw [up_n (by omega), up_n (by omega), up_n (by omega), up_n (by omega), up_n (by omega), up_n (by omega), up_n (by omega)]
  unfold m_cf
  rw [if_pos (by omega)]
  by_cases e : f = F
  · subst e
    rw [if_pos ⟨rfl, by omega⟩]
    rfl
  · rw [if_neg (fun z => e (by omega)), up_n (by omega), up_n (by omega), up_n (by omega), up_n (by omega), up_n (by omega), up_n (by omega), up_n (by omega), up_n (by omega)]
    show M (61 + f) c = c_cards (if f = F then row else M 33 f) (if f = F then ca else M 34 f) (M 24 c) (M 20 c) (M 21 c)
    rw [if_neg e, if_neg e]
    exact hcc f c (by rw [eF, nI_i (by omega)]; omega) (by rw [eC, nI_i (by omega)]; omega)
theorem fs_fi {M : am_M} {row ca nm fr to : Int32} {F C : Nat} (h : iv_fi M) (hz : M 39 F = 0) : iv_fi (am_up (am_up (am_up (am_up (am_up (am_up (am_up (m_cf (am_up (am_up (am_up (am_up (am_up (am_up (am_up (am_up M 33 F row) 34 F ca) 35 F nm) 36 F fr) 37 F to) 38 F (M 0 11)) 39 F (vp_nar .boolean 0)) 32 7 (nI F + 1)) F C) 153 F row) 154 F ca) 155 F nm) 156 F fr) 157 F to) 158 F (M 0 11)) 120 44 (nI F + 1)) := by
  refine ⟨⟨fs_153 h.1.1, fs_154 h.1.2.1, fs_155 h.1.2.2.1, fs_156 h.1.2.2.2.1, fs_157 h.1.2.2.2.2.1, fs_158 h.1.2.2.2.2.2.1, ?_⟩, fs_44.trans fs_7.symm⟩
  rw [fs_159, fs_39, h.1.2.2.2.2.2.2]
  funext j
  by_cases e : j = F
  · rw [if_pos e, e, hz]
  · rw [if_neg e]
theorem fs_fb {M : am_M} {row ca nm fr to : Int32} {F C : Nat} (h : iv_fb M) (hF : F < 16) (eF : M 32 7 = nI F) (k1 : b_in nm 0 5) (k2 : b_in fr 0 60) (k3 : b_in to 0 60) : iv_fb (am_up (am_up (am_up (am_up (am_up (am_up (am_up (m_cf (am_up (am_up (am_up (am_up (am_up (am_up (am_up (am_up M 33 F row) 34 F ca) 35 F nm) 36 F fr) 37 F to) 38 F (M 0 11)) 39 F (vp_nar .boolean 0)) 32 7 (nI F + 1)) F C) 153 F row) 154 F ca) 155 F nm) 156 F fr) 157 F to) 158 F (M 0 11)) 120 44 (nI F + 1)) := by
  refine ⟨?_, fb_155 h.2.1 k1, fb_156 h.2.2.1 k2, fb_157 h.2.2.2.1 k3, fun j hj => ?_⟩
  · rw [fs_7]
    unfold b_in
    rw [nI_1, nI_i (by omega)]
    omega
  · rw [fs_7, nI_1, nI_i (by omega)] at hj
    rw [fs_39]
    show (if j = F then 0 else M 39 j) = 0
    rw [if_neg (by omega)]
    exact h.2.2.2.2 j (by rw [eF, nI_i (by omega)]; omega)
theorem pr_find {X : am_X} (row ca nm fr to : Int32) : am_pI iv X 63 163 [.int row, .int ca, .int nm, .int fr, .int to] := by
  intro c0 M N hc0 h
  have e43 : M 120 43 = M 26 5 := h.1.2.2.1.1.2
  have e44 : M 120 44 = M 32 7 := h.1.2.2.2.1.2
  have e45 : M 120 45 = M 0 11 := h.2.1.1.1
  have e5 := h.1.2.1.2.1
  have e6 := h.1.2.2.1.2.1
  have e16 := h.1.2.2.2.2.1
  unfold b_in at e5 e16 e6
  by_cases g1 : (0 ≤ nm.toInt ∧ nm.toInt < (M 26 5).toInt) ∧ 0 ≤ ca.toInt ∧ ca.toInt < 4
  rotate_left
  · exact pr_e (sp63a g1) (sp163a (by rw [e43]; exact g1)) (iv_up _ _ _ h)
  by_cases g2 : c_rw row ∧ 0 ≤ fr.toInt ∧ fr.toInt ≤ to.toInt ∧ to.toInt ≤ 60
  rotate_left
  · exact pr_e (sp63b g1 g2) (sp163b (by rw [e43]; exact g1) g2) (iv_up _ _ _ h)
  have eC : M 18 7 = nI (M 18 7).toNatClampNeg := I_nI e5.1
  have iC := I_cl e5.1
  have eF : M 32 7 = nI (M 32 7).toNatClampNeg := I_nI e16.1
  have iF := I_cl e16.1
  generalize (M 18 7).toNatClampNeg = C at eC iC
  generalize (M 32 7).toNatClampNeg = F at eF iF
  have hC : C ≤ 5 := by omega
  by_cases hF : F < 16
  rotate_left
  · have eF16 : F = 16 := by omega
    subst eF16
    exact pr_e (sp63d g1 g2 (by rw [eF]; decide)) (sp163d (by rw [e43]; exact g1) g2 (by rw [e44]; exact eF)) (iv_up _ _ _ h)
  have q := sp163c (X := X) (N := N) (M := (m_cf (am_up (am_up (am_up (am_up (am_up (am_up (am_up (am_up M 33 F row) 34 F ca) 35 F nm) 36 F fr) 37 F to) 38 F (M 0 11)) 39 F (vp_nar .boolean 0)) 32 7 (nI F + 1)) F C)) (row := row) (ca := ca) (nm := nm) (fr := fr) (to := to) (F := F) (by show (0 ≤ nm.toInt ∧ nm.toInt < (M 120 43).toInt) ∧ _; rw [e43]; exact g1) g2 hF (by show M 120 44 = nI F; rw [e44]; exact eF)
  rw [show (m_cf (am_up (am_up (am_up (am_up (am_up (am_up (am_up (am_up M 33 F row) 34 F ca) 35 F nm) 36 F fr) 37 F to) 38 F (M 0 11)) 39 F (vp_nar .boolean 0)) 32 7 (nI F + 1)) F C) 120 45 = M 0 11 from e45] at q
  refine pr_e (sp63c g1 g2 hF eF hC eC h.1.2.1.2.2.2.2.1) q ?_
  obtain ⟨⟨⟨hs, hb⟩, ⟨hca, hcb⟩, ⟨hna, hnb⟩, ⟨hfi, hfb⟩⟩, ⟨hti, hta, hpr⟩, hcc, hch, hkl, hkd⟩ := h
  obtain ⟨c1, c2, c3⟩ := fs_ch (row := row) (ca := ca) (nm := nm) (fr := fr) (to := to) (F := F) (C := C) hch hkl hkd hcb
  exact ⟨⟨⟨fs_sea hs, fs_sb hb⟩, ⟨fs_ca hca, fs_cb hcb⟩, ⟨fs_na hna, fs_nb hnb⟩, ⟨fs_fi hfi (hfb.2.2.2.2 F (by omega)), fs_fb hfb hF eF ⟨g1.1.1, by omega⟩ ⟨g2.2.1, by omega⟩ ⟨by omega, g2.2.2.2⟩⟩⟩, ⟨fs_ti hti, fs_ta hta, fs_pr hpr⟩, fs_cc hcc hF eF hC eC, c1, c2, c3⟩
