/-! ===== the pair cast ===== -/
theorem cc_cast {M : am_M} {kd fi mn mr : Int32} {mo p S F : Nat} (hcc : iv_cc M) (hF : F ≤ 16) (eF : M 32 7 = nI F) (hS : S < 5) (eS : M 18 7 = nI S) : iv_cc (am_up (am_up (am_up (am_up (am_up (am_up (am_up (am_up (am_up (m_cc (am_up (am_up (am_up (am_up (am_up (am_up (am_up (am_up M 19 S kd) 20 S fi) 21 S mn) 22 S (nI mo)) 23 S (nI p)) 24 S (mr / 100)) 25 S (mr - mr / 100 * 100)) 18 7 (nI S + 1)) S F) 1 11 (M 1 11 + 1)) 136 S kd) 137 S fi) 138 S mn) 139 S (nI mo)) 140 S (nI p)) 141 S (mr / 100)) 142 S (mr - mr / 100 * 100)) 120 22 (nI S + 1)) := by
  intro f c hf hc
  have hf2 : (f : Int) < (M 32 7).toInt := hf
  have hc2 : (c : Int) < (nI S + 1).toInt := hc
  rw [eF, nI_i (by omega)] at hf2
  rw [nI_1, nI_i (by omega)] at hc2
  rw [up_n (by omega), up_n (by omega), up_n (by omega), up_n (by omega), up_n (by omega), up_n (by omega), up_n (by omega), up_n (by omega), up_n (by omega)]
  unfold m_cc
  rw [if_pos (by omega)]
  by_cases e : c = S
  · subst e
    rw [if_pos ⟨by omega, rfl⟩, show 61 + f - 61 = f by omega]
    rfl
  · rw [if_neg (fun z => e z.2), up_n (by omega), up_n (by omega), up_n (by omega), up_n (by omega), up_n (by omega), up_n (by omega), up_n (by omega), up_n (by omega)]
    show M (61 + f) c = c_cards (M 33 f) (M 34 f) (if c = S then mr / 100 else M 24 c) (if c = S then fi else M 20 c) (if c = S then mn else M 21 c)
    rw [if_neg e, if_neg e, if_neg e]
    exact hcc f c (by rw [eF, nI_i (by omega)]; omega) (by rw [eS, nI_i (by omega)]; omega)
theorem cs_sea {M : am_M} {kd fi mn mr : Int32} {mo p S F : Nat} (h : iv_sea M) : iv_sea (am_up (am_up (am_up (am_up (am_up (am_up (am_up (am_up (am_up (m_cc (am_up (am_up (am_up (am_up (am_up (am_up (am_up (am_up M 19 S kd) 20 S fi) 21 S mn) 22 S (nI mo)) 23 S (nI p)) 24 S (mr / 100)) 25 S (mr - mr / 100 * 100)) 18 7 (nI S + 1)) S F) 1 11 (M 1 11 + 1)) 136 S kd) 137 S fi) 138 S mn) 139 S (nI mo)) 140 S (nI p)) 141 S (mr / 100)) 142 S (mr - mr / 100 * 100)) 120 22 (nI S + 1)) := h
theorem cs_sb {M : am_M} {kd fi mn mr : Int32} {mo p S F : Nat} (h : iv_sb M) : iv_sb (am_up (am_up (am_up (am_up (am_up (am_up (am_up (am_up (am_up (m_cc (am_up (am_up (am_up (am_up (am_up (am_up (am_up (am_up M 19 S kd) 20 S fi) 21 S mn) 22 S (nI mo)) 23 S (nI p)) 24 S (mr / 100)) 25 S (mr - mr / 100 * 100)) 18 7 (nI S + 1)) S F) 1 11 (M 1 11 + 1)) 136 S kd) 137 S fi) 138 S mn) 139 S (nI mo)) 140 S (nI p)) 141 S (mr / 100)) 142 S (mr - mr / 100 * 100)) 120 22 (nI S + 1)) := h
theorem cs_na {M : am_M} {kd fi mn mr : Int32} {mo p S F : Nat} (h : iv_na M) : iv_na (am_up (am_up (am_up (am_up (am_up (am_up (am_up (am_up (am_up (m_cc (am_up (am_up (am_up (am_up (am_up (am_up (am_up (am_up M 19 S kd) 20 S fi) 21 S mn) 22 S (nI mo)) 23 S (nI p)) 24 S (mr / 100)) 25 S (mr - mr / 100 * 100)) 18 7 (nI S + 1)) S F) 1 11 (M 1 11 + 1)) 136 S kd) 137 S fi) 138 S mn) 139 S (nI mo)) 140 S (nI p)) 141 S (mr / 100)) 142 S (mr - mr / 100 * 100)) 120 22 (nI S + 1)) := h
theorem cs_nb {M : am_M} {kd fi mn mr : Int32} {mo p S F : Nat} (h : iv_nb M) : iv_nb (am_up (am_up (am_up (am_up (am_up (am_up (am_up (am_up (am_up (m_cc (am_up (am_up (am_up (am_up (am_up (am_up (am_up (am_up M 19 S kd) 20 S fi) 21 S mn) 22 S (nI mo)) 23 S (nI p)) 24 S (mr / 100)) 25 S (mr - mr / 100 * 100)) 18 7 (nI S + 1)) S F) 1 11 (M 1 11 + 1)) 136 S kd) 137 S fi) 138 S mn) 139 S (nI mo)) 140 S (nI p)) 141 S (mr / 100)) 142 S (mr - mr / 100 * 100)) 120 22 (nI S + 1)) := h
theorem cs_fi {M : am_M} {kd fi mn mr : Int32} {mo p S F : Nat} (h : iv_fi M) : iv_fi (am_up (am_up (am_up (am_up (am_up (am_up (am_up (am_up (am_up (m_cc (am_up (am_up (am_up (am_up (am_up (am_up (am_up (am_up M 19 S kd) 20 S fi) 21 S mn) 22 S (nI mo)) 23 S (nI p)) 24 S (mr / 100)) 25 S (mr - mr / 100 * 100)) 18 7 (nI S + 1)) S F) 1 11 (M 1 11 + 1)) 136 S kd) 137 S fi) 138 S mn) 139 S (nI mo)) 140 S (nI p)) 141 S (mr / 100)) 142 S (mr - mr / 100 * 100)) 120 22 (nI S + 1)) := h
theorem cs_fb {M : am_M} {kd fi mn mr : Int32} {mo p S F : Nat} (h : iv_fb M) : iv_fb (am_up (am_up (am_up (am_up (am_up (am_up (am_up (am_up (am_up (m_cc (am_up (am_up (am_up (am_up (am_up (am_up (am_up (am_up M 19 S kd) 20 S fi) 21 S mn) 22 S (nI mo)) 23 S (nI p)) 24 S (mr / 100)) 25 S (mr - mr / 100 * 100)) 18 7 (nI S + 1)) S F) 1 11 (M 1 11 + 1)) 136 S kd) 137 S fi) 138 S mn) 139 S (nI mo)) 140 S (nI p)) 141 S (mr / 100)) 142 S (mr - mr / 100 * 100)) 120 22 (nI S + 1)) := h
theorem cs_ti {M : am_M} {kd fi mn mr : Int32} {mo p S F : Nat} (h : iv_ti M) : iv_ti (am_up (am_up (am_up (am_up (am_up (am_up (am_up (am_up (am_up (m_cc (am_up (am_up (am_up (am_up (am_up (am_up (am_up (am_up M 19 S kd) 20 S fi) 21 S mn) 22 S (nI mo)) 23 S (nI p)) 24 S (mr / 100)) 25 S (mr - mr / 100 * 100)) 18 7 (nI S + 1)) S F) 1 11 (M 1 11 + 1)) 136 S kd) 137 S fi) 138 S mn) 139 S (nI mo)) 140 S (nI p)) 141 S (mr / 100)) 142 S (mr - mr / 100 * 100)) 120 22 (nI S + 1)) := h
theorem cs_ta {M : am_M} {kd fi mn mr : Int32} {mo p S F : Nat} (h : iv_ta M) : iv_ta (am_up (am_up (am_up (am_up (am_up (am_up (am_up (am_up (am_up (m_cc (am_up (am_up (am_up (am_up (am_up (am_up (am_up (am_up M 19 S kd) 20 S fi) 21 S mn) 22 S (nI mo)) 23 S (nI p)) 24 S (mr / 100)) 25 S (mr - mr / 100 * 100)) 18 7 (nI S + 1)) S F) 1 11 (M 1 11 + 1)) 136 S kd) 137 S fi) 138 S mn) 139 S (nI mo)) 140 S (nI p)) 141 S (mr / 100)) 142 S (mr - mr / 100 * 100)) 120 22 (nI S + 1)) := h
theorem cs_pr {M : am_M} {kd fi mn mr : Int32} {mo p S F : Nat} (h : iv_pr M) : iv_pr (am_up (am_up (am_up (am_up (am_up (am_up (am_up (am_up (am_up (m_cc (am_up (am_up (am_up (am_up (am_up (am_up (am_up (am_up M 19 S kd) 20 S fi) 21 S mn) 22 S (nI mo)) 23 S (nI p)) 24 S (mr / 100)) 25 S (mr - mr / 100 * 100)) 18 7 (nI S + 1)) S F) 1 11 (M 1 11 + 1)) 136 S kd) 137 S fi) 138 S mn) 139 S (nI mo)) 140 S (nI p)) 141 S (mr / 100)) 142 S (mr - mr / 100 * 100)) 120 22 (nI S + 1)) := h
theorem cs_136 {M : am_M} {kd fi mn mr : Int32} {mo p S F : Nat} (h : M 136 = M 19) : (am_up (am_up (am_up (am_up (am_up (am_up (am_up (am_up (am_up (m_cc (am_up (am_up (am_up (am_up (am_up (am_up (am_up (am_up M 19 S kd) 20 S fi) 21 S mn) 22 S (nI mo)) 23 S (nI p)) 24 S (mr / 100)) 25 S (mr - mr / 100 * 100)) 18 7 (nI S + 1)) S F) 1 11 (M 1 11 + 1)) 136 S kd) 137 S fi) 138 S mn) 139 S (nI mo)) 140 S (nI p)) 141 S (mr / 100)) 142 S (mr - mr / 100 * 100)) 120 22 (nI S + 1)) 136 = (am_up (am_up (am_up (am_up (am_up (am_up (am_up (am_up (am_up (m_cc (am_up (am_up (am_up (am_up (am_up (am_up (am_up (am_up M 19 S kd) 20 S fi) 21 S mn) 22 S (nI mo)) 23 S (nI p)) 24 S (mr / 100)) 25 S (mr - mr / 100 * 100)) 18 7 (nI S + 1)) S F) 1 11 (M 1 11 + 1)) 136 S kd) 137 S fi) 138 S mn) 139 S (nI mo)) 140 S (nI p)) 141 S (mr / 100)) 142 S (mr - mr / 100 * 100)) 120 22 (nI S + 1)) 19 := up_eq (j := S) (x := kd) h
theorem cb_136 {M : am_M} {kd fi mn mr : Int32} {mo p S F : Nat} {a b : Int} (h : ∀ j, b_in (M 19 j) a b) (h2 : b_in (kd) a b) : ∀ j, b_in ((am_up (am_up (am_up (am_up (am_up (am_up (am_up (am_up (am_up (m_cc (am_up (am_up (am_up (am_up (am_up (am_up (am_up (am_up M 19 S kd) 20 S fi) 21 S mn) 22 S (nI mo)) 23 S (nI p)) 24 S (mr / 100)) 25 S (mr - mr / 100 * 100)) 18 7 (nI S + 1)) S F) 1 11 (M 1 11 + 1)) 136 S kd) 137 S fi) 138 S mn) 139 S (nI mo)) 140 S (nI p)) 141 S (mr / 100)) 142 S (mr - mr / 100 * 100)) 120 22 (nI S + 1)) 19 j) a b := b_up h h2
theorem cs_137 {M : am_M} {kd fi mn mr : Int32} {mo p S F : Nat} (h : M 137 = M 20) : (am_up (am_up (am_up (am_up (am_up (am_up (am_up (am_up (am_up (m_cc (am_up (am_up (am_up (am_up (am_up (am_up (am_up (am_up M 19 S kd) 20 S fi) 21 S mn) 22 S (nI mo)) 23 S (nI p)) 24 S (mr / 100)) 25 S (mr - mr / 100 * 100)) 18 7 (nI S + 1)) S F) 1 11 (M 1 11 + 1)) 136 S kd) 137 S fi) 138 S mn) 139 S (nI mo)) 140 S (nI p)) 141 S (mr / 100)) 142 S (mr - mr / 100 * 100)) 120 22 (nI S + 1)) 137 = (am_up (am_up (am_up (am_up (am_up (am_up (am_up (am_up (am_up (m_cc (am_up (am_up (am_up (am_up (am_up (am_up (am_up (am_up M 19 S kd) 20 S fi) 21 S mn) 22 S (nI mo)) 23 S (nI p)) 24 S (mr / 100)) 25 S (mr - mr / 100 * 100)) 18 7 (nI S + 1)) S F) 1 11 (M 1 11 + 1)) 136 S kd) 137 S fi) 138 S mn) 139 S (nI mo)) 140 S (nI p)) 141 S (mr / 100)) 142 S (mr - mr / 100 * 100)) 120 22 (nI S + 1)) 20 := up_eq (j := S) (x := fi) h
theorem cb_137 {M : am_M} {kd fi mn mr : Int32} {mo p S F : Nat} {a b : Int} (h : ∀ j, b_in (M 20 j) a b) (h2 : b_in (fi) a b) : ∀ j, b_in ((am_up (am_up (am_up (am_up (am_up (am_up (am_up (am_up (am_up (m_cc (am_up (am_up (am_up (am_up (am_up (am_up (am_up (am_up M 19 S kd) 20 S fi) 21 S mn) 22 S (nI mo)) 23 S (nI p)) 24 S (mr / 100)) 25 S (mr - mr / 100 * 100)) 18 7 (nI S + 1)) S F) 1 11 (M 1 11 + 1)) 136 S kd) 137 S fi) 138 S mn) 139 S (nI mo)) 140 S (nI p)) 141 S (mr / 100)) 142 S (mr - mr / 100 * 100)) 120 22 (nI S + 1)) 20 j) a b := b_up h h2
theorem cs_138 {M : am_M} {kd fi mn mr : Int32} {mo p S F : Nat} (h : M 138 = M 21) : (am_up (am_up (am_up (am_up (am_up (am_up (am_up (am_up (am_up (m_cc (am_up (am_up (am_up (am_up (am_up (am_up (am_up (am_up M 19 S kd) 20 S fi) 21 S mn) 22 S (nI mo)) 23 S (nI p)) 24 S (mr / 100)) 25 S (mr - mr / 100 * 100)) 18 7 (nI S + 1)) S F) 1 11 (M 1 11 + 1)) 136 S kd) 137 S fi) 138 S mn) 139 S (nI mo)) 140 S (nI p)) 141 S (mr / 100)) 142 S (mr - mr / 100 * 100)) 120 22 (nI S + 1)) 138 = (am_up (am_up (am_up (am_up (am_up (am_up (am_up (am_up (am_up (m_cc (am_up (am_up (am_up (am_up (am_up (am_up (am_up (am_up M 19 S kd) 20 S fi) 21 S mn) 22 S (nI mo)) 23 S (nI p)) 24 S (mr / 100)) 25 S (mr - mr / 100 * 100)) 18 7 (nI S + 1)) S F) 1 11 (M 1 11 + 1)) 136 S kd) 137 S fi) 138 S mn) 139 S (nI mo)) 140 S (nI p)) 141 S (mr / 100)) 142 S (mr - mr / 100 * 100)) 120 22 (nI S + 1)) 21 := up_eq (j := S) (x := mn) h
theorem cb_138 {M : am_M} {kd fi mn mr : Int32} {mo p S F : Nat} {a b : Int} (h : ∀ j, b_in (M 21 j) a b) (h2 : b_in (mn) a b) : ∀ j, b_in ((am_up (am_up (am_up (am_up (am_up (am_up (am_up (am_up (am_up (m_cc (am_up (am_up (am_up (am_up (am_up (am_up (am_up (am_up M 19 S kd) 20 S fi) 21 S mn) 22 S (nI mo)) 23 S (nI p)) 24 S (mr / 100)) 25 S (mr - mr / 100 * 100)) 18 7 (nI S + 1)) S F) 1 11 (M 1 11 + 1)) 136 S kd) 137 S fi) 138 S mn) 139 S (nI mo)) 140 S (nI p)) 141 S (mr / 100)) 142 S (mr - mr / 100 * 100)) 120 22 (nI S + 1)) 21 j) a b := b_up h h2
theorem cs_139 {M : am_M} {kd fi mn mr : Int32} {mo p S F : Nat} (h : M 139 = M 22) : (am_up (am_up (am_up (am_up (am_up (am_up (am_up (am_up (am_up (m_cc (am_up (am_up (am_up (am_up (am_up (am_up (am_up (am_up M 19 S kd) 20 S fi) 21 S mn) 22 S (nI mo)) 23 S (nI p)) 24 S (mr / 100)) 25 S (mr - mr / 100 * 100)) 18 7 (nI S + 1)) S F) 1 11 (M 1 11 + 1)) 136 S kd) 137 S fi) 138 S mn) 139 S (nI mo)) 140 S (nI p)) 141 S (mr / 100)) 142 S (mr - mr / 100 * 100)) 120 22 (nI S + 1)) 139 = (am_up (am_up (am_up (am_up (am_up (am_up (am_up (am_up (am_up (m_cc (am_up (am_up (am_up (am_up (am_up (am_up (am_up (am_up M 19 S kd) 20 S fi) 21 S mn) 22 S (nI mo)) 23 S (nI p)) 24 S (mr / 100)) 25 S (mr - mr / 100 * 100)) 18 7 (nI S + 1)) S F) 1 11 (M 1 11 + 1)) 136 S kd) 137 S fi) 138 S mn) 139 S (nI mo)) 140 S (nI p)) 141 S (mr / 100)) 142 S (mr - mr / 100 * 100)) 120 22 (nI S + 1)) 22 := up_eq (j := S) (x := nI mo) h
theorem cb_139 {M : am_M} {kd fi mn mr : Int32} {mo p S F : Nat} {a b : Int} (h : ∀ j, b_in (M 22 j) a b) (h2 : b_in (nI mo) a b) : ∀ j, b_in ((am_up (am_up (am_up (am_up (am_up (am_up (am_up (am_up (am_up (m_cc (am_up (am_up (am_up (am_up (am_up (am_up (am_up (am_up M 19 S kd) 20 S fi) 21 S mn) 22 S (nI mo)) 23 S (nI p)) 24 S (mr / 100)) 25 S (mr - mr / 100 * 100)) 18 7 (nI S + 1)) S F) 1 11 (M 1 11 + 1)) 136 S kd) 137 S fi) 138 S mn) 139 S (nI mo)) 140 S (nI p)) 141 S (mr / 100)) 142 S (mr - mr / 100 * 100)) 120 22 (nI S + 1)) 22 j) a b := b_up h h2
theorem cs_140 {M : am_M} {kd fi mn mr : Int32} {mo p S F : Nat} (h : M 140 = M 23) : (am_up (am_up (am_up (am_up (am_up (am_up (am_up (am_up (am_up (m_cc (am_up (am_up (am_up (am_up (am_up (am_up (am_up (am_up M 19 S kd) 20 S fi) 21 S mn) 22 S (nI mo)) 23 S (nI p)) 24 S (mr / 100)) 25 S (mr - mr / 100 * 100)) 18 7 (nI S + 1)) S F) 1 11 (M 1 11 + 1)) 136 S kd) 137 S fi) 138 S mn) 139 S (nI mo)) 140 S (nI p)) 141 S (mr / 100)) 142 S (mr - mr / 100 * 100)) 120 22 (nI S + 1)) 140 = (am_up (am_up (am_up (am_up (am_up (am_up (am_up (am_up (am_up (m_cc (am_up (am_up (am_up (am_up (am_up (am_up (am_up (am_up M 19 S kd) 20 S fi) 21 S mn) 22 S (nI mo)) 23 S (nI p)) 24 S (mr / 100)) 25 S (mr - mr / 100 * 100)) 18 7 (nI S + 1)) S F) 1 11 (M 1 11 + 1)) 136 S kd) 137 S fi) 138 S mn) 139 S (nI mo)) 140 S (nI p)) 141 S (mr / 100)) 142 S (mr - mr / 100 * 100)) 120 22 (nI S + 1)) 23 := up_eq (j := S) (x := nI p) h
theorem cb_140 {M : am_M} {kd fi mn mr : Int32} {mo p S F : Nat} {a b : Int} (h : ∀ j, b_in (M 23 j) a b) (h2 : b_in (nI p) a b) : ∀ j, b_in ((am_up (am_up (am_up (am_up (am_up (am_up (am_up (am_up (am_up (m_cc (am_up (am_up (am_up (am_up (am_up (am_up (am_up (am_up M 19 S kd) 20 S fi) 21 S mn) 22 S (nI mo)) 23 S (nI p)) 24 S (mr / 100)) 25 S (mr - mr / 100 * 100)) 18 7 (nI S + 1)) S F) 1 11 (M 1 11 + 1)) 136 S kd) 137 S fi) 138 S mn) 139 S (nI mo)) 140 S (nI p)) 141 S (mr / 100)) 142 S (mr - mr / 100 * 100)) 120 22 (nI S + 1)) 23 j) a b := b_up h h2
theorem cs_141 {M : am_M} {kd fi mn mr : Int32} {mo p S F : Nat} (h : M 141 = M 24) : (am_up (am_up (am_up (am_up (am_up (am_up (am_up (am_up (am_up (m_cc (am_up (am_up (am_up (am_up (am_up (am_up (am_up (am_up M 19 S kd) 20 S fi) 21 S mn) 22 S (nI mo)) 23 S (nI p)) 24 S (mr / 100)) 25 S (mr - mr / 100 * 100)) 18 7 (nI S + 1)) S F) 1 11 (M 1 11 + 1)) 136 S kd) 137 S fi) 138 S mn) 139 S (nI mo)) 140 S (nI p)) 141 S (mr / 100)) 142 S (mr - mr / 100 * 100)) 120 22 (nI S + 1)) 141 = (am_up (am_up (am_up (am_up (am_up (am_up (am_up (am_up (am_up (m_cc (am_up (am_up (am_up (am_up (am_up (am_up (am_up (am_up M 19 S kd) 20 S fi) 21 S mn) 22 S (nI mo)) 23 S (nI p)) 24 S (mr / 100)) 25 S (mr - mr / 100 * 100)) 18 7 (nI S + 1)) S F) 1 11 (M 1 11 + 1)) 136 S kd) 137 S fi) 138 S mn) 139 S (nI mo)) 140 S (nI p)) 141 S (mr / 100)) 142 S (mr - mr / 100 * 100)) 120 22 (nI S + 1)) 24 := up_eq (j := S) (x := mr / 100) h
theorem cb_141 {M : am_M} {kd fi mn mr : Int32} {mo p S F : Nat} {a b : Int} (h : ∀ j, b_in (M 24 j) a b) (h2 : b_in (mr / 100) a b) : ∀ j, b_in ((am_up (am_up (am_up (am_up (am_up (am_up (am_up (am_up (am_up (m_cc (am_up (am_up (am_up (am_up (am_up (am_up (am_up (am_up M 19 S kd) 20 S fi) 21 S mn) 22 S (nI mo)) 23 S (nI p)) 24 S (mr / 100)) 25 S (mr - mr / 100 * 100)) 18 7 (nI S + 1)) S F) 1 11 (M 1 11 + 1)) 136 S kd) 137 S fi) 138 S mn) 139 S (nI mo)) 140 S (nI p)) 141 S (mr / 100)) 142 S (mr - mr / 100 * 100)) 120 22 (nI S + 1)) 24 j) a b := b_up h h2
theorem cs_142 {M : am_M} {kd fi mn mr : Int32} {mo p S F : Nat} (h : M 142 = M 25) : (am_up (am_up (am_up (am_up (am_up (am_up (am_up (am_up (am_up (m_cc (am_up (am_up (am_up (am_up (am_up (am_up (am_up (am_up M 19 S kd) 20 S fi) 21 S mn) 22 S (nI mo)) 23 S (nI p)) 24 S (mr / 100)) 25 S (mr - mr / 100 * 100)) 18 7 (nI S + 1)) S F) 1 11 (M 1 11 + 1)) 136 S kd) 137 S fi) 138 S mn) 139 S (nI mo)) 140 S (nI p)) 141 S (mr / 100)) 142 S (mr - mr / 100 * 100)) 120 22 (nI S + 1)) 142 = (am_up (am_up (am_up (am_up (am_up (am_up (am_up (am_up (am_up (m_cc (am_up (am_up (am_up (am_up (am_up (am_up (am_up (am_up M 19 S kd) 20 S fi) 21 S mn) 22 S (nI mo)) 23 S (nI p)) 24 S (mr / 100)) 25 S (mr - mr / 100 * 100)) 18 7 (nI S + 1)) S F) 1 11 (M 1 11 + 1)) 136 S kd) 137 S fi) 138 S mn) 139 S (nI mo)) 140 S (nI p)) 141 S (mr / 100)) 142 S (mr - mr / 100 * 100)) 120 22 (nI S + 1)) 25 := up_eq (j := S) (x := mr - mr / 100 * 100) h
theorem cb_142 {M : am_M} {kd fi mn mr : Int32} {mo p S F : Nat} {a b : Int} (h : ∀ j, b_in (M 25 j) a b) (h2 : b_in (mr - mr / 100 * 100) a b) : ∀ j, b_in ((am_up (am_up (am_up (am_up (am_up (am_up (am_up (am_up (am_up (m_cc (am_up (am_up (am_up (am_up (am_up (am_up (am_up (am_up M 19 S kd) 20 S fi) 21 S mn) 22 S (nI mo)) 23 S (nI p)) 24 S (mr / 100)) 25 S (mr - mr / 100 * 100)) 18 7 (nI S + 1)) S F) 1 11 (M 1 11 + 1)) 136 S kd) 137 S fi) 138 S mn) 139 S (nI mo)) 140 S (nI p)) 141 S (mr / 100)) 142 S (mr - mr / 100 * 100)) 120 22 (nI S + 1)) 25 j) a b := b_up h h2
theorem cs_22 {M : am_M} {kd fi mn mr : Int32} {mo p S F : Nat} : (am_up (am_up (am_up (am_up (am_up (am_up (am_up (am_up (am_up (m_cc (am_up (am_up (am_up (am_up (am_up (am_up (am_up (am_up M 19 S kd) 20 S fi) 21 S mn) 22 S (nI mo)) 23 S (nI p)) 24 S (mr / 100)) 25 S (mr - mr / 100 * 100)) 18 7 (nI S + 1)) S F) 1 11 (M 1 11 + 1)) 136 S kd) 137 S fi) 138 S mn) 139 S (nI mo)) 140 S (nI p)) 141 S (mr / 100)) 142 S (mr - mr / 100 * 100)) 120 22 (nI S + 1)) 120 22 = nI S + 1 := rfl
theorem cs_7 {M : am_M} {kd fi mn mr : Int32} {mo p S F : Nat} : (am_up (am_up (am_up (am_up (am_up (am_up (am_up (am_up (am_up (m_cc (am_up (am_up (am_up (am_up (am_up (am_up (am_up (am_up M 19 S kd) 20 S fi) 21 S mn) 22 S (nI mo)) 23 S (nI p)) 24 S (mr / 100)) 25 S (mr - mr / 100 * 100)) 18 7 (nI S + 1)) S F) 1 11 (M 1 11 + 1)) 136 S kd) 137 S fi) 138 S mn) 139 S (nI mo)) 140 S (nI p)) 141 S (mr / 100)) 142 S (mr - mr / 100 * 100)) 120 22 (nI S + 1)) 18 7 = nI S + 1 := rfl
theorem cb_7 {M : am_M} {kd fi mn mr : Int32} {mo p S F : Nat} {a b : Int} (h : b_in (nI S + 1) a b) : b_in ((am_up (am_up (am_up (am_up (am_up (am_up (am_up (am_up (am_up (m_cc (am_up (am_up (am_up (am_up (am_up (am_up (am_up (am_up M 19 S kd) 20 S fi) 21 S mn) 22 S (nI mo)) 23 S (nI p)) 24 S (mr / 100)) 25 S (mr - mr / 100 * 100)) 18 7 (nI S + 1)) S F) 1 11 (M 1 11 + 1)) 136 S kd) 137 S fi) 138 S mn) 139 S (nI mo)) 140 S (nI p)) 141 S (mr / 100)) 142 S (mr - mr / 100 * 100)) 120 22 (nI S + 1)) 18 7) a b := h
theorem cs_ca {M : am_M} {kd fi mn mr : Int32} {mo p S F : Nat} (h : iv_ca M) : iv_ca (am_up (am_up (am_up (am_up (am_up (am_up (am_up (am_up (am_up (m_cc (am_up (am_up (am_up (am_up (am_up (am_up (am_up (am_up M 19 S kd) 20 S fi) 21 S mn) 22 S (nI mo)) 23 S (nI p)) 24 S (mr / 100)) 25 S (mr - mr / 100 * 100)) 18 7 (nI S + 1)) S F) 1 11 (M 1 11 + 1)) 136 S kd) 137 S fi) 138 S mn) 139 S (nI mo)) 140 S (nI p)) 141 S (mr / 100)) 142 S (mr - mr / 100 * 100)) 120 22 (nI S + 1)) := ⟨⟨cs_136 h.1.1, cs_137 h.1.2.1, cs_138 h.1.2.2.1, cs_139 h.1.2.2.2.1, cs_140 h.1.2.2.2.2.1, cs_141 h.1.2.2.2.2.2.1, cs_142 h.1.2.2.2.2.2.2⟩, cs_22.trans cs_7.symm⟩
theorem cs_cb {M : am_M} {kd fi mn mr : Int32} {mo p S F : Nat} (h : iv_cb M) (k0 : b_in (nI S + 1) 0 5) (k1 : b_in kd 0 3) (k2 : b_in fi 0 9999) (k3 : b_in mn 0 1000) (k4 : b_in (nI mo) 0 47) (k5 : b_in (nI p) 0 59) (k6 : b_in (mr - mr / 100 * 100) 0 12) : iv_cb (am_up (am_up (am_up (am_up (am_up (am_up (am_up (am_up (am_up (m_cc (am_up (am_up (am_up (am_up (am_up (am_up (am_up (am_up M 19 S kd) 20 S fi) 21 S mn) 22 S (nI mo)) 23 S (nI p)) 24 S (mr / 100)) 25 S (mr - mr / 100 * 100)) 18 7 (nI S + 1)) S F) 1 11 (M 1 11 + 1)) 136 S kd) 137 S fi) 138 S mn) 139 S (nI mo)) 140 S (nI p)) 141 S (mr / 100)) 142 S (mr - mr / 100 * 100)) 120 22 (nI S + 1)) := ⟨cb_7 k0, cb_136 h.2.1 k1, cb_137 h.2.2.1 k2, cb_138 h.2.2.2.1 k3, cb_139 h.2.2.2.2.1 k4, cb_140 h.2.2.2.2.2.1 k5, cb_142 h.2.2.2.2.2.2 k6⟩
theorem pr_cast {X : am_X} (kd fi mn mo p mr : Int32) : am_pI iv X 27 150 [.int kd, .int fi, .int mn, .int mo, .int p, .int mr] := by
  intro c0 M N hc0 h
  have e22 : M 120 22 = M 18 7 := h.1.2.1.1.2
  have e121 : M 121 = M 3 := h.1.1.1.1.1
  have e5 := h.1.2.1.2.1
  have e16 := h.1.2.2.2.2.1
  unfold b_in at e5 e16
  by_cases g1 : (0 ≤ p.toInt ∧ p.toInt < 60) ∧ 0 ≤ mo.toInt ∧ mo.toInt < 48
  rotate_left
  · exact pr_e (sp27a g1) (sp150a g1) (iv_up _ _ _ h)
  by_cases g2 : (0 ≤ kd.toInt ∧ kd.toInt ≤ 3) ∧ c_nu fi mn ∧ c_mr kd mr
  rotate_left
  · exact pr_e (sp27b g1 g2) (sp150b g1 g2) (iv_up _ _ _ h)
  have ep := I_nI g1.1.1
  have icp := I_cl g1.1.1
  have em := I_nI g1.2.1
  have icm := I_cl g1.2.1
  generalize p.toNatClampNeg = p at ep icp
  generalize mo.toNatClampNeg = mo at em icm
  subst ep
  subst em
  have hp : p < 60 := by omega
  have hm : mo < 48 := by omega
  have eS : M 18 7 = nI (M 18 7).toNatClampNeg := I_nI e5.1
  have iS := I_cl e5.1
  have eF : M 32 7 = nI (M 32 7).toNatClampNeg := I_nI e16.1
  have iF := I_cl e16.1
  generalize (M 18 7).toNatClampNeg = S at eS iS
  generalize (M 32 7).toNatClampNeg = F at eF iF
  have hS5 : S ≤ 5 := by omega
  have hF : F ≤ 16 := by omega
  have hr : (∃ c, c < S ∧ (M 141 c = mr / 100 ∧ fi < M 137 c + M 138 c ∧ M 137 c < fi + mn)) ↔ c_hn M S (mr / 100) fi mn := by
    obtain ⟨⟨a1, a2, a3, a4, a5, a6, a7⟩, _⟩ := h.1.2.1.1
    rw [a6, a2, a3]
  by_cases g3 : M 3 p = 0
  rotate_left
  · exact pr_e (sp27s hp hm hS5 eS g2 (fun z => g3 z.1)) (sp150w hp hm hS5 (by rw [e22]; exact eS) g2 (by rw [e121]; exact g3)) (iv_up _ _ _ h)
  by_cases g4 : c_hn M S (mr / 100) fi mn
  · exact pr_e (sp27s hp hm hS5 eS g2 (fun z => z.2 g4)) (sp150h hp hm hS5 (by rw [e22]; exact eS) g2 (by rw [e121]; exact g3) (hr.mpr g4)) (iv_up _ _ _ h)
  by_cases g5 : S < 5
  rotate_left
  · have eS5 : S = 5 := by omega
    subst eS5
    exact pr_e (sp27d hp hm hS5 eS g2 ⟨g3, g4⟩ (by rw [eS]; decide)) (sp150d hp hm hS5 (by rw [e22]; exact eS) g2 (by rw [e121]; exact g3) (fun z => g4 (hr.mp z)) (by rw [e22]; exact eS)) (iv_up _ _ _ h)
  have q := sp150c (X := X) (N := N) (M := (am_up (m_cc (am_up (am_up (am_up (am_up (am_up (am_up (am_up (am_up M 19 S kd) 20 S fi) 21 S mn) 22 S (nI mo)) 23 S (nI p)) 24 S (mr / 100)) 25 S (mr - mr / 100 * 100)) 18 7 (nI S + 1)) S F) 1 11 (M 1 11 + 1))) (S := S) hp hm g5 (by show M 120 22 = nI S; rw [e22]; exact eS) g2 (by show M 121 p = 0; rw [e121]; exact g3) (fun z => g4 (hr.mp z))
  refine pr_e (sp27c hp hm g5 eS g2 ⟨g3, g4⟩ hF eF) q ?_
  obtain ⟨⟨⟨hs, hb⟩, ⟨hca, hcb⟩, ⟨hna, hnb⟩, ⟨hfi, hfb⟩⟩, ⟨hti, hta, hpr⟩, hcc, hch, hkl, hkd⟩ := h
  have hcc2 := cc_cast (kd := kd) (fi := fi) (mn := mn) (mr := mr) (mo := mo) (p := p) hcc hF eF g5 eS
  obtain ⟨c1, c2, c3⟩ := ch_up (M' := am_up (am_up (am_up (am_up (am_up (am_up (am_up (am_up (am_up (m_cc (am_up (am_up (am_up (am_up (am_up (am_up (am_up (am_up M 19 S kd) 20 S fi) 21 S mn) 22 S (nI mo)) 23 S (nI p)) 24 S (mr / 100)) 25 S (mr - mr / 100 * 100)) 18 7 (nI S + 1)) S F) 1 11 (M 1 11 + 1)) 136 S kd) 137 S fi) 138 S mn) 139 S (nI mo)) 140 S (nI p)) 141 S (mr / 100)) 142 S (mr - mr / 100 * 100)) 120 22 (nI S + 1)) hc0 hch rfl rfl rfl
  have hd := mr_d g2.2.2.1.1
  have kS : b_in (nI S + 1) 0 5 := by
    unfold b_in
    rw [nI_1, nI_i (by omega)]
    omega
  have kmo : b_in (nI mo) 0 47 := by
    unfold b_in
    rw [nI_i (by omega)]
    omega
  have kp : b_in (nI p) 0 59 := by
    unfold b_in
    rw [nI_i (by omega)]
    omega
  have ksk : b_in (mr - mr / 100 * 100) 0 12 := by
    unfold b_in
    rw [hd.2]
    by_cases hk : kd = 2
    · have := g2.2.2.2.1 hk
      omega
    · have := g2.2.2.2.2 hk
      omega
  exact ⟨⟨⟨cs_sea hs, cs_sb hb⟩, ⟨cs_ca hca, cs_cb hcb kS g2.1 ⟨g2.2.1.1.1, g2.2.1.1.2⟩ ⟨by have := g2.2.1.2.1.1; omega, g2.2.1.2.1.2⟩ kmo kp ksk⟩, ⟨cs_na hna, cs_nb hnb⟩, ⟨cs_fi hfi, cs_fb hfb⟩⟩, ⟨cs_ti hti, cs_ta hta, cs_pr hpr⟩, hcc2, c1, c2, c3⟩
