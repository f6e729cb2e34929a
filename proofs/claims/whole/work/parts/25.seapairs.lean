/-! ===== the sea: pairs ===== -/
theorem pr_wind {X : am_X} (m e n : Int32) : am_pI iv X 21 147 [.int m, .int e, .int n] := by
  intro c M N hc h
  by_cases h1 : 0 ≤ m.toInt ∧ m.toInt < 12
  rotate_left
  · exact pr_e (sp21a h1) (sp147a h1) (iv_up _ _ _ h)
  by_cases h2 : (-3 ≤ e.toInt ∧ e.toInt ≤ 3) ∧ (-3 ≤ n.toInt ∧ n.toInt ≤ 3)
  rotate_left
  · exact pr_e (sp21b h1 h2) (sp147b h1 h2) (iv_up _ _ _ h)
  refine pr_e (sp21c h1 h2) (sp147c h1 h2) ?_
  obtain ⟨⟨⟨hs, hb⟩, ⟨hca, hcb⟩, ⟨hna, hnb⟩, ⟨hfi, hfb⟩⟩, ⟨hti, hta, hpr⟩, hcc, hch, hkl, hkd⟩ := h
  obtain ⟨⟨s1, s2, ⟨s3, s4, s5, s6⟩, s7⟩, ⟨b1, b2, b3, b4, b5, b6, b7, b8, b9, b10, b11, b12⟩⟩ := And.intro hs hb
  obtain ⟨g1, g2, g3⟩ := ch_up (M' := am_up (am_up (am_up (am_up (am_up M 12 m.toNatClampNeg e) 13 m.toNatClampNeg n) 1 11 (M 1 11 + 1)) 131 m.toNatClampNeg e) 132 m.toNatClampNeg n) hc hch rfl rfl rfl
  exact ⟨⟨⟨⟨s1, s2, ⟨up_eq (j := m.toNatClampNeg) (x := e) s3, up_eq (j := m.toNatClampNeg) (x := n) s4, s5, s6⟩, s7⟩, b1, b2, b3, b4, b5, b6, b7, b_up b8 h2.1, b_up b9 h2.2, b10, b11, b12⟩, ⟨hca, hcb⟩, ⟨hna, hnb⟩, ⟨hfi, hfb⟩⟩, ⟨hti, hta, hpr⟩, cc_of hcc hfb (fun k k1 k2 => by (repeat rw [up_n]) <;> omega) ⟨rfl, rfl, rfl, rfl, rfl, rfl, rfl⟩, g1, g2, g3⟩
theorem pr_storm {X : am_X} (m e n : Int32) : am_pI iv X 24 148 [.int m, .int e, .int n] := by
  intro c M N hc h
  by_cases h1 : 0 ≤ m.toInt ∧ m.toInt < 48
  rotate_left
  · exact pr_e (sp24a h1) (sp148a h1) (iv_up _ _ _ h)
  by_cases h2 : (-3 ≤ e.toInt ∧ e.toInt ≤ 3) ∧ (-3 ≤ n.toInt ∧ n.toInt ≤ 3)
  rotate_left
  · exact pr_e (sp24b h1 h2) (sp148b h1 h2) (iv_up _ _ _ h)
  obtain ⟨⟨⟨hs, hb⟩, ⟨hca, hcb⟩, ⟨hna, hnb⟩, ⟨hfi, hfb⟩⟩, ⟨hti, hta, hpr⟩, hcc, hch, hkl, hkd⟩ := h
  obtain ⟨⟨s1, s2, ⟨s3, s4, s5, s6⟩, s7⟩, ⟨b1, b2, b3, b4, b5, b6, b7, b8, b9, b10, b11, b12⟩⟩ := And.intro hs hb
  have q1 := sp24c (X := X) (M := M) (N := N) h1 h2
  rw [show (if M 14 m.toNatClampNeg = 0 then (0 : Int32) else 1) = (if M 135 m.toNatClampNeg = 0 then (0 : Int32) else 1) by rw [s5]] at q1
  refine pr_e q1 (sp148c h1 h2) ?_
  obtain ⟨g1, g2, g3⟩ := ch_up (M' := am_up (am_up (am_up (am_up (am_up (am_up (am_up M 14 m.toNatClampNeg (vp_nar .boolean 1)) 15 m.toNatClampNeg e) 16 m.toNatClampNeg n) 1 11 (M 1 11 + 1)) 135 m.toNatClampNeg (vp_nar .boolean 1)) 133 m.toNatClampNeg e) 134 m.toNatClampNeg n) hc hch rfl rfl rfl
  have s6' : ∀ j, am_up (am_up (am_up (am_up (am_up (am_up (am_up M 14 m.toNatClampNeg (vp_nar .boolean 1)) 15 m.toNatClampNeg e) 16 m.toNatClampNeg n) 1 11 (M 1 11 + 1)) 135 m.toNatClampNeg (vp_nar .boolean 1)) 133 m.toNatClampNeg e) 134 m.toNatClampNeg n 14 j ≠ 0 → am_up (am_up (am_up (am_up (am_up (am_up (am_up M 14 m.toNatClampNeg (vp_nar .boolean 1)) 15 m.toNatClampNeg e) 16 m.toNatClampNeg n) 1 11 (M 1 11 + 1)) 135 m.toNatClampNeg (vp_nar .boolean 1)) 133 m.toNatClampNeg e) 134 m.toNatClampNeg n 133 j = am_up (am_up (am_up (am_up (am_up (am_up (am_up M 14 m.toNatClampNeg (vp_nar .boolean 1)) 15 m.toNatClampNeg e) 16 m.toNatClampNeg n) 1 11 (M 1 11 + 1)) 135 m.toNatClampNeg (vp_nar .boolean 1)) 133 m.toNatClampNeg e) 134 m.toNatClampNeg n 15 j ∧ am_up (am_up (am_up (am_up (am_up (am_up (am_up M 14 m.toNatClampNeg (vp_nar .boolean 1)) 15 m.toNatClampNeg e) 16 m.toNatClampNeg n) 1 11 (M 1 11 + 1)) 135 m.toNatClampNeg (vp_nar .boolean 1)) 133 m.toNatClampNeg e) 134 m.toNatClampNeg n 134 j = am_up (am_up (am_up (am_up (am_up (am_up (am_up M 14 m.toNatClampNeg (vp_nar .boolean 1)) 15 m.toNatClampNeg e) 16 m.toNatClampNeg n) 1 11 (M 1 11 + 1)) 135 m.toNatClampNeg (vp_nar .boolean 1)) 133 m.toNatClampNeg e) 134 m.toNatClampNeg n 16 j := fun j hj => by
    show (if j = m.toNatClampNeg then _ else M 133 j) = (if j = m.toNatClampNeg then _ else M 15 j) ∧ (if j = m.toNatClampNeg then _ else M 134 j) = (if j = m.toNatClampNeg then _ else M 16 j)
    replace hj : (if j = m.toNatClampNeg then vp_nar .boolean 1 else M 14 j) ≠ 0 := hj
    by_cases z : j = m.toNatClampNeg
    · rw [if_pos z, if_pos z, if_pos z, if_pos z]
      exact ⟨rfl, rfl⟩
    · rw [if_neg z] at hj
      rw [if_neg z, if_neg z, if_neg z, if_neg z]
      exact s6 j hj
  exact ⟨⟨⟨⟨s1, s2, ⟨s3, s4, up_eq (j := m.toNatClampNeg) (x := vp_nar .boolean 1) s5, s6'⟩, s7⟩, b1, b2, b3, b4, b5, b6, b7, b8, b9, b_up b10 h2.1, b_up b11 h2.2, b12⟩, ⟨hca, hcb⟩, ⟨hna, hnb⟩, ⟨hfi, hfb⟩⟩, ⟨hti, hta, hpr⟩, cc_of hcc hfb (fun k k1 k2 => by (repeat rw [up_n]) <;> omega) ⟨rfl, rfl, rfl, rfl, rfl, rfl, rfl⟩, g1, g2, g3⟩
theorem pr_calm {X : am_X} (m : Int32) : am_pI iv X 26 149 [.int m] := by
  intro c M N hc h
  by_cases h1 : 0 ≤ m.toInt ∧ m.toInt < 48
  rotate_left
  · exact pr_e (sp26a h1) (sp149a h1) (iv_up _ _ _ h)
  obtain ⟨⟨⟨hs, hb⟩, ⟨hca, hcb⟩, ⟨hna, hnb⟩, ⟨hfi, hfb⟩⟩, ⟨hti, hta, hpr⟩, hcc, hch, hkl, hkd⟩ := h
  obtain ⟨⟨s1, s2, ⟨s3, s4, s5, s6⟩, s7⟩, ⟨b1, b2, b3, b4, b5, b6, b7, b8, b9, b10, b11, b12⟩⟩ := And.intro hs hb
  have q1 := sp26c (X := X) (M := M) (N := N) h1
  rw [show (if M 14 m.toNatClampNeg = 0 then (0 : Int32) else 1) = (if M 135 m.toNatClampNeg = 0 then (0 : Int32) else 1) by rw [s5]] at q1
  refine pr_e q1 (sp149c h1) ?_
  obtain ⟨g1, g2, g3⟩ := ch_up (M' := am_up (am_up (am_up (am_up (am_up M 14 m.toNatClampNeg (vp_nar .boolean 0)) 15 m.toNatClampNeg 0) 16 m.toNatClampNeg 0) 1 11 (M 1 11 + 1)) 135 m.toNatClampNeg (vp_nar .boolean 0)) hc hch rfl rfl rfl
  have s6' : ∀ j, (am_up (am_up (am_up (am_up (am_up M 14 m.toNatClampNeg (vp_nar .boolean 0)) 15 m.toNatClampNeg 0) 16 m.toNatClampNeg 0) 1 11 (M 1 11 + 1)) 135 m.toNatClampNeg (vp_nar .boolean 0)) 14 j ≠ 0 → (am_up (am_up (am_up (am_up (am_up M 14 m.toNatClampNeg (vp_nar .boolean 0)) 15 m.toNatClampNeg 0) 16 m.toNatClampNeg 0) 1 11 (M 1 11 + 1)) 135 m.toNatClampNeg (vp_nar .boolean 0)) 133 j = (am_up (am_up (am_up (am_up (am_up M 14 m.toNatClampNeg (vp_nar .boolean 0)) 15 m.toNatClampNeg 0) 16 m.toNatClampNeg 0) 1 11 (M 1 11 + 1)) 135 m.toNatClampNeg (vp_nar .boolean 0)) 15 j ∧ (am_up (am_up (am_up (am_up (am_up M 14 m.toNatClampNeg (vp_nar .boolean 0)) 15 m.toNatClampNeg 0) 16 m.toNatClampNeg 0) 1 11 (M 1 11 + 1)) 135 m.toNatClampNeg (vp_nar .boolean 0)) 134 j = (am_up (am_up (am_up (am_up (am_up M 14 m.toNatClampNeg (vp_nar .boolean 0)) 15 m.toNatClampNeg 0) 16 m.toNatClampNeg 0) 1 11 (M 1 11 + 1)) 135 m.toNatClampNeg (vp_nar .boolean 0)) 16 j := fun j hj => by
    show M 133 j = (if j = m.toNatClampNeg then _ else M 15 j) ∧ M 134 j = (if j = m.toNatClampNeg then _ else M 16 j)
    replace hj : (if j = m.toNatClampNeg then vp_nar .boolean 0 else M 14 j) ≠ 0 := hj
    by_cases z : j = m.toNatClampNeg
    · rw [if_pos z] at hj
      exact absurd rfl hj
    · rw [if_neg z] at hj
      rw [if_neg z, if_neg z]
      exact s6 j hj
  exact ⟨⟨⟨⟨s1, s2, ⟨s3, s4, up_eq (j := m.toNatClampNeg) (x := vp_nar .boolean 0) s5, s6'⟩, s7⟩, b1, b2, b3, b4, b5, b6, b7, b8, b9, b_up b10 (b_00 (by decide)), b_up b11 (b_00 (by decide)), b12⟩, ⟨hca, hcb⟩, ⟨hna, hnb⟩, ⟨hfi, hfb⟩⟩, ⟨hti, hta, hpr⟩, cc_of hcc hfb (fun k k1 k2 => by (repeat rw [up_n]) <;> omega) ⟨rfl, rfl, rfl, rfl, rfl, rfl, rfl⟩, g1, g2, g3⟩
theorem pr_current {X : am_X} (r m e n : Int32) : am_pI iv X 18 145 [.int r, .int m, .int e, .int n] := by
  intro c M N hc h
  by_cases h1 : (0 ≤ r.toInt ∧ r.toInt < 3) ∧ (0 ≤ m.toInt ∧ m.toInt < 12)
  rotate_left
  · exact pr_e (sp18a h1) (sp145a h1) (iv_up _ _ _ h)
  by_cases h2 : P_sp e ∧ P_sp n
  rotate_left
  · exact pr_e (sp18b h1 h2) (sp145b h1 h2) (iv_up _ _ _ h)
  obtain ⟨⟨⟨hs, hb⟩, ⟨hca, hcb⟩, ⟨hna, hnb⟩, ⟨hfi, hfb⟩⟩, ⟨hti, hta, hpr⟩, hcc, hch, hkl, hkd⟩ := h
  obtain ⟨⟨s1, ⟨s2, s3, s4, s5⟩, s6, s7⟩, ⟨b1, b2, b3, b4, b5, b6, b7, b8, b9, b10, b11, b12⟩⟩ := And.intro hs hb
  have q := sp145c (X := X) (M := am_up (am_up (am_up (am_up (am_up M 8 (r * 12 + m).toNatClampNeg (e / 10 - 3)) 9 (r * 12 + m).toNatClampNeg (e - e / 10 * 10 - 3)) 10 (r * 12 + m).toNatClampNeg (n / 10 - 3)) 11 (r * 12 + m).toNatClampNeg (n - n / 10 * 10 - 3)) 1 11 (M 1 11 + 1)) (N := N) h1 h2
  rw [show 12 * r + m = r * 12 + m by rw [Int32.mul_comm]] at q
  refine pr_e (sp18c h1 h2) q ?_
  obtain ⟨g1, g2, g3⟩ := ch_up (M' := am_up (am_up (am_up (am_up (am_up (am_up (am_up (am_up (am_up M 8 (r * 12 + m).toNatClampNeg (e / 10 - 3)) 9 (r * 12 + m).toNatClampNeg (e - e / 10 * 10 - 3)) 10 (r * 12 + m).toNatClampNeg (n / 10 - 3)) 11 (r * 12 + m).toNatClampNeg (n - n / 10 * 10 - 3)) 1 11 (M 1 11 + 1)) 126 (r * 12 + m).toNatClampNeg (e / 10 - 3)) 127 (r * 12 + m).toNatClampNeg (e - e / 10 * 10 - 3)) 128 (r * 12 + m).toNatClampNeg (n / 10 - 3)) 129 (r * 12 + m).toNatClampNeg (n - n / 10 * 10 - 3)) hc hch rfl rfl rfl
  obtain ⟨p1, p2⟩ := P_sp_b h2.1
  obtain ⟨p3, p4⟩ := P_sp_b h2.2
  exact ⟨⟨⟨⟨s1, ⟨up_eq (j := (r * 12 + m).toNatClampNeg) (x := e / 10 - 3) s2, up_eq (j := (r * 12 + m).toNatClampNeg) (x := e - e / 10 * 10 - 3) s3, up_eq (j := (r * 12 + m).toNatClampNeg) (x := n / 10 - 3) s4, up_eq (j := (r * 12 + m).toNatClampNeg) (x := n - n / 10 * 10 - 3) s5⟩, s6, s7⟩, b1, b2, b3, b_up b4 p1, b_up b5 p2, b_up b6 p3, b_up b7 p4, b8, b9, b10, b11, b12⟩, ⟨hca, hcb⟩, ⟨hna, hnb⟩, ⟨hfi, hfb⟩⟩, ⟨hti, hta, hpr⟩, cc_of hcc hfb (fun k k1 k2 => by (repeat rw [up_n]) <;> omega) ⟨rfl, rfl, rfl, rfl, rfl, rfl, rfl⟩, g1, g2, g3⟩
