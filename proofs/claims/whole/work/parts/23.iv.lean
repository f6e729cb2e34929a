/-! ===== what holds between the class's cells and the reference's, between calls ===== -/
def b_in (x : Int32) (a b : Int) : Prop := a ≤ x.toInt ∧ x.toInt ≤ b
def iv_sea (M : am_M) : Prop := (M 121 = M 3 ∧ M 122 = M 4 ∧ M 123 = M 5 ∧ M 124 = M 6 ∧ M 125 = M 7) ∧ (M 126 = M 8 ∧ M 127 = M 9 ∧ M 128 = M 10 ∧ M 129 = M 11) ∧ (M 131 = M 12 ∧ M 132 = M 13 ∧ M 135 = M 14 ∧ (∀ j, M 14 j ≠ 0 → M 133 j = M 15 j ∧ M 134 j = M 16 j)) ∧ M 130 = M 17
def iv_sb (M : am_M) : Prop := (∀ j, b_in (M 4 j) 0 2) ∧ (∀ j, b_in (M 5 j) 0 16) ∧ (∀ j, b_in (M 6 j) 0 16) ∧ (∀ j, b_in (M 8 j) (-3) 3) ∧ (∀ j, b_in (M 9 j) (-3) 3) ∧ (∀ j, b_in (M 10 j) (-3) 3) ∧ (∀ j, b_in (M 11 j) (-3) 3) ∧ (∀ j, b_in (M 12 j) (-3) 3) ∧ (∀ j, b_in (M 13 j) (-3) 3) ∧ (∀ j, b_in (M 15 j) (-3) 3) ∧ (∀ j, b_in (M 16 j) (-3) 3) ∧ (∀ j, b_in (M 17 j) (-1) 1)
def iv_ca (M : am_M) : Prop := (M 136 = M 19 ∧ M 137 = M 20 ∧ M 138 = M 21 ∧ M 139 = M 22 ∧ M 140 = M 23 ∧ M 141 = M 24 ∧ M 142 = M 25) ∧ M 120 22 = M 18 7
def iv_cb (M : am_M) : Prop := b_in (M 18 7) 0 5 ∧ (∀ j, b_in (M 19 j) 0 3) ∧ (∀ j, b_in (M 20 j) 0 9999) ∧ (∀ j, b_in (M 21 j) 0 1000) ∧ (∀ j, b_in (M 22 j) 0 47) ∧ (∀ j, b_in (M 23 j) 0 59) ∧ (∀ j, b_in (M 25 j) 0 12)
def iv_na (M : am_M) : Prop := (M 148 = M 27 ∧ M 149 = M 28 ∧ M 150 = M 29 ∧ M 151 = M 30 ∧ M 152 = M 31) ∧ M 120 43 = M 26 5
def iv_nb (M : am_M) : Prop := b_in (M 26 5) 0 6 ∧ (∀ j, b_in (M 27 j) 0 9) ∧ (∀ j, b_in (M 28 j) 0 9) ∧ (∀ j, b_in (M 29 j) 0 5) ∧ (∀ j, b_in (M 30 j) 0 5) ∧ (∀ j, (M 27 j).toInt ≤ (M 28 j).toInt ∧ (M 29 j).toInt ≤ (M 30 j).toInt)
def iv_fi (M : am_M) : Prop := (M 153 = M 33 ∧ M 154 = M 34 ∧ M 155 = M 35 ∧ M 156 = M 36 ∧ M 157 = M 37 ∧ M 158 = M 38 ∧ M 159 = M 39) ∧ M 120 44 = M 32 7
def iv_fb (M : am_M) : Prop := b_in (M 32 7) 0 16 ∧ (∀ j, b_in (M 35 j) 0 5) ∧ (∀ j, b_in (M 36 j) 0 60) ∧ (∀ j, b_in (M 37 j) 0 60) ∧ (∀ j : Nat, (M 32 7).toInt ≤ j → M 39 j = 0)
def iv_ti (M : am_M) : Prop := M 120 45 = M 0 11 ∧ (M 0 11).toInt ≤ 999 ∧ ∀ j, (M 38 j).toInt ≤ 999
def iv_ta (M : am_M) : Prop := M 164 = M 111 ∧ M 120 55 = M 110 1 ∧ b_in (M 110 1) 0 120 ∧ M 110 2 = 0
def iv_pr (M : am_M) : Prop := M 120 56 = M 112 7 ∧ b_in (M 112 7) 0 8 ∧ ∀ p : Nat, (p : Int) < (M 112 7).toInt → M 165 p = M 113 p ∧ M 166 p = M 114 p ∧ b_in (M 114 p) 0 3 ∧ ∀ t : Nat, (t : Int) < (M 114 p).toInt → (M 167 (12 * p + 4 * t) = 1 ↔ M 115 (3 * p + t) ≠ 0) ∧ M 167 (12 * p + 4 * t + 1) = M 116 (3 * p + t) ∧ M 167 (12 * p + 4 * t + 2) = M 117 (3 * p + t) ∧ M 167 (12 * p + 4 * t + 3) = M 118 (3 * p + t) ∧ b_in (M 116 (3 * p + t)) 0 4 ∧ (M 117 (3 * p + t) = 61 ∨ M 117 (3 * p + t) = 60 ∨ M 117 (3 * p + t) = 62) ∧ (M 115 (3 * p + t) = 0 ∨ M 115 (3 * p + t) = 1)
def iv_cc (M : am_M) : Prop := ∀ f c : Nat, (f : Int) < (M 32 7).toInt → (c : Int) < (M 18 7).toInt → M (61 + f) c = c_cd M f c
def iv_ch (c : Nat) (M : am_M) : Prop := 1 ≤ (M 1 11).toInt ∧ (M 1 11).toInt ≤ c + 1 ∧ (M 52 4).toInt ≤ (M 1 11).toInt ∧ ∀ a, a < 27 → (M 107 a).toInt ≤ (M 1 11).toInt
def iv_kl (M : am_M) : Prop := M 52 4 = M 1 11 → ∀ c : Nat, (c : Int) < (M 18 7).toInt → ∀ j, j < 720 → M (54 + c) j = c_cf (sC M) M (M 17) c j
def iv_kd (M : am_M) : Prop := ∀ a, a < 27 → M 107 a = M 1 11 → ∀ c n : Nat, (c : Int) < (M 18 7).toInt → (n : Int) < (M 26 5).toInt → M (80 + a) (6 * c + n) = c_du (sC M) M (c_sh a) c n
def iv : Nat → am_M → am_N → Prop := fun c M _ => ((iv_sea M ∧ iv_sb M) ∧ (iv_ca M ∧ iv_cb M) ∧ (iv_na M ∧ iv_nb M) ∧ (iv_fi M ∧ iv_fb M)) ∧ (iv_ti M ∧ iv_ta M ∧ iv_pr M) ∧ iv_cc M ∧ iv_ch c M ∧ iv_kl M ∧ iv_kd M
theorem iv_up : ∀ c M N, iv c M N → iv (c + 1) M N := by
  intro c M N h
  obtain ⟨h1, h2, h3, ⟨a, b, d, e⟩, h5⟩ := h
  exact ⟨h1, h2, h3, ⟨a, by omega, d, e⟩, h5⟩
theorem b_00 {a b : Int} (h : a ≤ 0 ∧ 0 ≤ b) : b_in 0 a b := h
theorem iv_0 : iv 0 (am_mw am_ws2) am_zL := by
  have hz : ∀ a b : Nat, (a, b) ≠ (1, 11) → am_mw am_ws2 a b = 0 := by
    intro a b h
    show am_up (am_up (am_up (am_up (am_up (am_up (am_up (am_up (am_up am_z 1 11 1) 18 7 0) 26 5 0) 32 7 0) 52 4 0) 110 1 0) 110 2 0) 112 7 0) 0 11 0 a b = 0
    simp only [am_up, am_z]
    have h2 : ¬ (a = 1 ∧ b = 11) := fun z => h (by rw [z.1, z.2])
    by_cases h3 : a = 1
    · by_cases h4 : b = 11
      · exact absurd ⟨h3, h4⟩ h2
      · subst h3
        simp [h4]
    · simp [h3]
  have hr : ∀ a, a ≠ 1 → am_mw am_ws2 a = fun _ => 0 := fun a ha => funext fun b => hz a b (fun z => ha (congrArg Prod.fst z))
  have e1 : (am_mw am_ws2) 1 11 = 1 := rfl
  generalize am_mw am_ws2 = M at hz hr e1
  have r : ∀ a, a ≠ 1 → ∀ j, M a j = 0 := fun a ha j => by rw [hr a ha]
  have hd : ∀ a b : Nat, a ≠ 1 → b ≠ 1 → M a = M b := fun a b ha hb => by rw [hr a ha, hr b hb]
  have hb : ∀ (a : Nat) (lo hi : Int), a ≠ 1 → lo ≤ 0 ∧ 0 ≤ hi → ∀ j, b_in (M a j) lo hi := fun a lo hi ha h j => by rw [r a ha]; exact b_00 h
  have d1 := fun a b (ha : a ≠ 1) (hb : b ≠ 1) => hd a b ha hb
  refine ⟨⟨⟨⟨⟨hd _ _ (by decide) (by decide), hd _ _ (by decide) (by decide), hd _ _ (by decide) (by decide), hd _ _ (by decide) (by decide), hd _ _ (by decide) (by decide)⟩, ⟨hd _ _ (by decide) (by decide), hd _ _ (by decide) (by decide), hd _ _ (by decide) (by decide), hd _ _ (by decide) (by decide)⟩, ⟨hd _ _ (by decide) (by decide), hd _ _ (by decide) (by decide), hd _ _ (by decide) (by decide), fun j h => absurd (r 14 (by decide) j) h⟩, hd _ _ (by decide) (by decide)⟩, ?_⟩, ⟨⟨⟨hd _ _ (by decide) (by decide), hd _ _ (by decide) (by decide), hd _ _ (by decide) (by decide), hd _ _ (by decide) (by decide), hd _ _ (by decide) (by decide), hd _ _ (by decide) (by decide), hd _ _ (by decide) (by decide)⟩, by rw [r 120 (by decide), r 18 (by decide)]⟩, ?_⟩, ⟨⟨⟨hd _ _ (by decide) (by decide), hd _ _ (by decide) (by decide), hd _ _ (by decide) (by decide), hd _ _ (by decide) (by decide), hd _ _ (by decide) (by decide)⟩, by rw [r 120 (by decide), r 26 (by decide)]⟩, ?_⟩, ⟨⟨⟨hd _ _ (by decide) (by decide), hd _ _ (by decide) (by decide), hd _ _ (by decide) (by decide), hd _ _ (by decide) (by decide), hd _ _ (by decide) (by decide), hd _ _ (by decide) (by decide), hd _ _ (by decide) (by decide)⟩, by rw [r 120 (by decide), r 32 (by decide)]⟩, ?_⟩⟩, ⟨?_, ?_, ?_⟩, ?_, ?_, ?_, ?_⟩
  · refine ⟨?_, ?_, ?_, ?_, ?_, ?_, ?_, ?_, ?_, ?_, ?_, ?_⟩ <;> exact hb _ _ _ (by decide) (by decide)
  · refine ⟨hb _ _ _ (by decide) (by decide) _, ?_, ?_, ?_, ?_, ?_, ?_⟩ <;> exact hb _ _ _ (by decide) (by decide)
  · refine ⟨hb _ _ _ (by decide) (by decide) _, hb _ _ _ (by decide) (by decide), hb _ _ _ (by decide) (by decide), hb _ _ _ (by decide) (by decide), hb _ _ _ (by decide) (by decide), fun j => ?_⟩
    rw [r 27 (by decide), r 28 (by decide), r 29 (by decide), r 30 (by decide)]
    exact ⟨Int.le_refl _, Int.le_refl _⟩
  · exact ⟨hb _ _ _ (by decide) (by decide) _, hb _ _ _ (by decide) (by decide), hb _ _ _ (by decide) (by decide), hb _ _ _ (by decide) (by decide), fun j _ => r 39 (by decide) j⟩
  · refine ⟨?_, ?_, fun j => ?_⟩
    · rw [r 120 (by decide), r 0 (by decide)]
    · rw [r 0 (by decide)]
      decide
    · rw [r 38 (by decide)]
      decide
  · exact ⟨hd _ _ (by decide) (by decide), by rw [r 120 (by decide), r 110 (by decide)], hb _ _ _ (by decide) (by decide) _, r 110 (by decide) _⟩
  · refine ⟨by rw [r 120 (by decide), r 112 (by decide)], hb _ _ _ (by decide) (by decide) _, fun p hp => ?_⟩
    rw [r 112 (by decide)] at hp
    have : (0 : Int32).toInt = 0 := rfl
    omega
  · intro f c hf hc
    rw [r 32 (by decide)] at hf
    have : (0 : Int32).toInt = 0 := rfl
    omega
  · refine ⟨by rw [e1]; decide, by rw [e1]; decide, by rw [e1, r 52 (by decide)]; decide, fun a _ => by rw [e1, r 107 (by decide)]; decide⟩
  · intro h
    rw [e1, r 52 (by decide)] at h
    exact absurd h (by decide)
  · intro a _ h
    rw [e1, r 107 (by decide)] at h
    exact absurd h (by decide)
abbrev am_Iv : Type := Nat → am_M → am_N → Prop
/-- a call of the class, and the same call of the reference behind it: the same answer, and the invariant goes on -/
def am_pI (iv : am_Iv) (X : am_X) (i j : Nat) (args : am_V) : Prop := ∀ (c : Nat) (M : am_M) (N : am_N), c < 512 → iv c M N → ∃ (v : Int32) (mid : am_M → am_N → Prop), am_J X (fun r M1 N1 => r = some (.int v) ∧ mid M1 N1) i 0 (am_en i (.ref 0 :: args)) [] M N ∧ ∀ M1 N1, mid M1 N1 → am_J X (fun r M2 N2 => r = some (.int v) ∧ iv (c + 1) M2 N2) j 0 (am_en j (.ref 120 :: args)) [] M1 N1
def am_pL (iv : am_Iv) (X : am_X) (i j : Nat) (args : am_V) : Prop := ∀ (c : Nat) (M : am_M) (N : am_N), c < 512 → iv c M N → ∃ (v : Int64) (mid : am_M → am_N → Prop), am_J X (fun r M1 N1 => r = some (.long v) ∧ mid M1 N1) i 0 (am_en i (.ref 0 :: args)) [] M N ∧ ∀ M1 N1, mid M1 N1 → am_J X (fun r M2 N2 => r = some (.long v) ∧ iv (c + 1) M2 N2) j 0 (am_en j (.ref 120 :: args)) [] M1 N1
theorem pr_e {X : am_X} {i j : Nat} {args : am_V} {v : Int32} {c : Nat} {M M1 M2 : am_M} {N N1 N2 : am_N} (h1 : am_J X (am_eq (some (.int v)) M1 N1) i 0 (am_en i (.ref 0 :: args)) [] M N) (h2 : am_J X (am_eq (some (.int v)) M2 N2) j 0 (am_en j (.ref 120 :: args)) [] M1 N1) (h3 : iv (c + 1) M2 N2) : ∃ (v : Int32) (mid : am_M → am_N → Prop), am_J X (fun r M1 N1 => r = some (.int v) ∧ mid M1 N1) i 0 (am_en i (.ref 0 :: args)) [] M N ∧ ∀ M1 N1, mid M1 N1 → am_J X (fun r M2 N2 => r = some (.int v) ∧ iv (c + 1) M2 N2) j 0 (am_en j (.ref 120 :: args)) [] M1 N1 :=
  ⟨v, fun a b => a = M1 ∧ b = N1, h1, fun a b h => by obtain ⟨rfl, rfl⟩ := h; exact J_eq h2 ⟨rfl, h3⟩⟩
theorem pr_l {X : am_X} {i j : Nat} {args : am_V} {v : Int64} {c : Nat} {M M1 M2 : am_M} {N N1 N2 : am_N} (h1 : am_J X (am_eq (some (.long v)) M1 N1) i 0 (am_en i (.ref 0 :: args)) [] M N) (h2 : am_J X (am_eq (some (.long v)) M2 N2) j 0 (am_en j (.ref 120 :: args)) [] M1 N1) (h3 : iv (c + 1) M2 N2) : ∃ (v : Int64) (mid : am_M → am_N → Prop), am_J X (fun r M1 N1 => r = some (.long v) ∧ mid M1 N1) i 0 (am_en i (.ref 0 :: args)) [] M N ∧ ∀ M1 N1, mid M1 N1 → am_J X (fun r M2 N2 => r = some (.long v) ∧ iv (c + 1) M2 N2) j 0 (am_en j (.ref 120 :: args)) [] M1 N1 :=
  ⟨v, fun a b => a = M1 ∧ b = N1, h1, fun a b h => by obtain ⟨rfl, rfl⟩ := h; exact J_eq h2 ⟨rfl, h3⟩⟩
theorem b_z {x : Int32} {a b : Int} (h : b_in x a b) : a ≤ x.toInt ∧ x.toInt ≤ b := h
theorem b_up {M : am_M} {k i : Nat} {x : Int32} {a b : Int} (h : ∀ j, b_in (M k j) a b) (hx : b_in x a b) : ∀ j, b_in (if j = i then x else M k j) a b := by
  intro j
  split
  · exact hx
  · exact h j
theorem ch_up {c : Nat} {M M' : am_M} (hc : c < 512) (h : iv_ch c M) (h1 : M' 1 11 = M 1 11 + 1) (h2 : M' 52 4 = M 52 4) (h3 : M' 107 = M 107) : iv_ch (c + 1) M' ∧ iv_kl M' ∧ iv_kd M' := by
  obtain ⟨a, b, d, e⟩ := h
  have e1 : (M' 1 11).toInt = (M 1 11).toInt + 1 := by
    rw [h1, I_add (by have : (1 : Int32).toInt = 1 := rfl; omega)]
    rfl
  refine ⟨⟨by omega, by omega, by rw [h2]; omega, fun x hx => by rw [h3]; have := e x hx; omega⟩, fun z => ?_, fun x hx z => ?_⟩
  · rw [h2] at z
    rw [z] at d
    omega
  · rw [h3] at z
    have := e x hx
    rw [z] at this
    omega
theorem cc_of {M M' : am_M} (h : iv_cc M) (hb : iv_fb M) (hh : ∀ k, 54 ≤ k → k ≤ 106 → M' k = M k) (hr : M' 33 = M 33 ∧ M' 34 = M 34 ∧ M' 24 = M 24 ∧ M' 20 = M 20 ∧ M' 21 = M 21 ∧ M' 32 7 = M 32 7 ∧ M' 18 7 = M 18 7) : iv_cc M' := by
  obtain ⟨r1, r2, r3, r4, r5, r6, r7⟩ := hr
  intro f c hf hc
  rw [r6] at hf
  rw [r7] at hc
  have := hb.1.2
  rw [hh (61 + f) (by omega) (by omega), h f c hf hc]
  unfold c_cd
  rw [r1, r2, r3, r4, r5]
theorem up_eq {r s : Nat → Int32} {j : Nat} {x : Int32} (h : r = s) : (fun b => if b = j then x else r b) = (fun b => if b = j then x else s b) := by rw [h]
theorem ch_eq {c : Nat} {M M' : am_M} (hch : iv_ch c M) (hkl : iv_kl M) (hkd : iv_kd M) (hcb : iv_cb M) (hh : ∀ k, 54 ≤ k → k ≤ 106 → M' k = M k) (r : M' 52 4 = M 52 4 ∧ M' 1 11 = M 1 11 ∧ M' 107 = M 107 ∧ M' 18 7 = M 18 7 ∧ M' 26 5 = M 26 5) (rs : sC M' = sC M) (rc : M' 17 = M 17 ∧ M' 19 = M 19 ∧ M' 22 = M 22 ∧ M' 23 = M 23 ∧ M' 25 = M 25) (rn : M' 21 = M 21 ∧ M' 27 = M 27 ∧ M' 28 = M 28 ∧ M' 29 = M 29 ∧ M' 30 = M 30) : iv_ch (c + 1) M' ∧ iv_kl M' ∧ iv_kd M' := by
  obtain ⟨r1, r2, r3, r4, r5⟩ := r
  obtain ⟨c1, c2, c3, c4, c5⟩ := rc
  obtain ⟨n1, n2, n3, n4, n5⟩ := rn
  have ecf : ∀ sh c, c_cf (sC M') M' sh c = c_cf (sC M) M sh c := by
    intro sh c
    unfold c_cf
    rw [rs, c2, c3, c4, c5]
  have h5 := hcb.1.2
  obtain ⟨g1, g2, g3, g4⟩ := hch
  refine ⟨⟨by rw [r2]; omega, by rw [r2]; omega, by rw [r1, r2]; omega, fun a ha => by rw [r3, r2]; exact g4 a ha⟩, fun z cc hc j hj => ?_, fun a ha z cc n hc hn => ?_⟩
  · rw [r1, r2] at z
    rw [r4] at hc
    rw [hh (54 + cc) (by omega) (by omega), ecf, c1]
    exact hkl z cc hc j hj
  · rw [r3, r2] at z
    rw [r4] at hc
    rw [r5] at hn
    rw [hh (80 + a) (by omega) (by omega)]
    unfold c_du
    rw [ecf, n1, n2, n3, n4, n5]
    exact hkd a ha z cc n hc hn
