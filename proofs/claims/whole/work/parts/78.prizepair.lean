/-! ===== prizes: the pair ===== -/
def gd (v : tT) : Prop := (v.1 = 0 ∨ v.1 = 1) ∧ b_in v.2.1 0 4 ∧ (v.2.2.1 = 61 ∨ v.2.2.1 = 60 ∨ v.2.2.1 = 62)
theorem fw_b_ {t : Nat → Int32} {n s a : Nat} {v : Int32} (hv : b_in v 0 4) (h : 0 ≤ (fw_ t n s v a).2) : b_in (fw_ t n s v a).2 0 4 := by
  unfold fw_ at h ⊢
  by_cases b : (wd t n (tx s) (tl s) 0 a).2 = true
  · show b_in (if (wd t n (tx s) (tl s) 0 a).2 = true then v else -1) 0 4
    rw [if_pos b]
    exact hv
  · exact absurd (show 0 ≤ (if (wd t n (tx s) (tl s) 0 a).2 = true then v else -1) from h) (by rw [if_neg b]; decide)
theorem b_4 {v : Int32} (h : v = 0 ∨ v = 1 ∨ v = 2 ∨ v = 3 ∨ v = 4) : b_in v 0 4 := by
  unfold b_in
  rcases h with rfl | rfl | rfl | rfl | rfl <;> decide
theorem fdc_b {t : Nat → Int32} {n a : Nat} (h : 0 ≤ (fdc t n a).2) : b_in (fdc t n a).2 0 4 := by
  unfold fdc at h ⊢
  by_cases g0 : sg t n 109 a
  · rw [if_pos g0] at h ⊢
    exact fw_b_ (b_4 (by decide)) h
  rw [if_neg g0] at h ⊢
  by_cases g1 : sg t n 102 a
  · rw [if_pos g1] at h ⊢
    exact fw_b_ (b_4 (by decide)) h
  rw [if_neg g1] at h ⊢
  by_cases g2 : sg t n 107 a
  · rw [if_pos g2] at h ⊢
    exact fw_b_ (b_4 (by decide)) h
  rw [if_neg g2] at h ⊢
  by_cases g3 : sg t n 116 a
  · rw [if_pos g3] at h ⊢
    exact fw_b_ (b_4 (by decide)) h
  rw [if_neg g3] at h ⊢
  exact fw_b_ (b_4 (by decide)) h
theorem sgc_b {t : Nat → Int32} {n a : Nat} (h : 0 ≤ (sgc t n a).2) : (sgc t n a).2 = 61 ∨ (sgc t n a).2 = 60 ∨ (sgc t n a).2 = 62 := by
  unfold sgc at h ⊢
  by_cases g0 : sg t n 61 a
  · rw [if_pos g0]
    exact .inl rfl
  rw [if_neg g0] at h ⊢
  by_cases g1 : sg t n 60 a
  · rw [if_pos g1]
    exact .inr (.inl rfl)
  rw [if_neg g1] at h ⊢
  by_cases g2 : sg t n 62 a
  · rw [if_pos g2]
    exact .inr (.inr rfl)
  rw [if_neg g2] at h
  exact absurd (show (0 : Int32) ≤ -1 from h) (by decide)
theorem tsv_gd {t : Nat → Int32} {n a : Nat} (h : tsk t n a) : gd (tsv t n a) := ⟨nt2_b, fdc_b h.1, sgc_b h.2.1⟩
theorem lo_ok {t : Nat → Int32} {n : Nat} : ∀ (m i : Nat) (f : Nat → tT) (a : Nat) (q : Nat × (Nat → tT)), i + m = 3 → (∀ j, j < i → gd (f j)) → (lo t n m i f a).2 = some q → q.1 ≤ 3 ∧ ∀ j, j < q.1 → gd (q.2 j) := by
  intro m
  induction m with
  | zero =>
    intro i f a q hi hf hq
    cases hq
  | succ m ih =>
    intro i f a q hi hf hq
    by_cases hsk : tsk t n a
    rotate_left
    · rw [lo_n hsk] at hq
      cases hq
    have hg : ∀ j, j < i + 1 → gd (sf f i (tsv t n a) j) := by
      intro j hj
      unfold sf
      by_cases e : j = i
      · rw [if_pos e]
        exact tsv_gd hsk
      · rw [if_neg e]
        exact hf j (by omega)
    by_cases he : tse t n a = n
    · rw [lo_e hsk he] at hq
      cases hq
      exact ⟨by show i + 1 ≤ 3; omega, hg⟩
    by_cases h3 : ¬ m = 0 ∧ sg t n 38 (tse t n a)
    · rw [lo_g hsk he h3] at hq
      exact ih _ _ _ _ (by omega) hg hq
    · rw [lo_f hsk he h3] at hq
      cases hq
theorem prz_ok {t : Nat → Int32} {n : Nat} {q : Nat × (Nat → tT)} (hq : (prz t n).2 = some q) : q.1 ≤ 3 ∧ ∀ j, j < q.1 → gd (q.2 j) := by
  unfold prz at hq
  by_cases c1 : (pz1 t n).2 = true
  rotate_left
  · rw [if_neg c1] at hq
    cases hq
  rw [if_pos c1] at hq
  by_cases c2 : 0 ≤ (pz2 t n).2
  rotate_left
  · rw [if_neg c2] at hq
    cases hq
  rw [if_pos c2] at hq
  by_cases c3 : (pz2 t n).1 = n
  · rw [if_pos c3] at hq
    cases hq
    exact ⟨by show 0 ≤ 3; omega, fun j hj => absurd hj (by show ¬ j < 0; omega)⟩
  rw [if_neg c3] at hq
  by_cases c4 : (pz3 t n).2 = true
  · rw [if_pos c4] at hq
    exact lo_ok 3 0 f0 _ q rfl (fun j hj => absurd hj (by omega)) hq
  · rw [if_neg c4] at hq
    cases hq
/-- what a prize leaves as it was -/
def gz (M M2 : am_M) (S : Nat) : Prop := ((∀ r, (r < 110 ∨ r = 111 ∨ r = 119 ∨ (121 ≤ r ∧ r ≤ 164) ∨ 167 < r) → M2 r = M r) ∧ M2 120 22 = M 120 22 ∧ M2 120 43 = M 120 43 ∧ M2 120 44 = M 120 44 ∧ M2 120 45 = M 120 45) ∧ (M2 120 55 = 0 ∧ M2 110 1 = 0 ∧ M2 110 2 = 0) ∧ (∀ p, p < S → M2 113 p = M 113 p ∧ M2 114 p = M 114 p ∧ M2 165 p = M 165 p ∧ M2 166 p = M 166 p) ∧ (∀ j, j < 3 * S → M2 115 j = M 115 j ∧ M2 116 j = M 116 j ∧ M2 117 j = M 117 j ∧ M2 118 j = M 118 j) ∧ ∀ j, j < 12 * S → M2 167 j = M 167 j
theorem iv_gz {c S : Nat} {M M2 : am_M} {N N2 : am_N} (h : iv c M N) (hS : M 112 7 = nI S) (h8 : S ≤ 8) (hg : gz M M2 S) (hp : iv_pr M2) : iv (c + 1) M2 N2 := by
  obtain ⟨⟨g, g22, g43, g44, g45⟩, ⟨g55, g1, g2⟩, _⟩ := hg
  obtain ⟨⟨⟨h_sea, h_sb⟩, ⟨h_ca, h_cb⟩, ⟨h_na, h_nb⟩, ⟨h_fi, h_fb⟩⟩, ⟨h_ti, h_ta, h_pr⟩, h_cc, h_ch, h_kl, h_kd⟩ := h
  have t_sea : iv_sea M2 := by
    unfold iv_sea
    rw [g 121 (by omega), g 122 (by omega), g 123 (by omega), g 124 (by omega), g 125 (by omega), g 126 (by omega), g 127 (by omega), g 128 (by omega), g 129 (by omega), g 131 (by omega), g 132 (by omega), g 135 (by omega), g 133 (by omega), g 134 (by omega), g 130 (by omega), g 3 (by omega), g 4 (by omega), g 5 (by omega), g 6 (by omega), g 7 (by omega), g 8 (by omega), g 9 (by omega), g 10 (by omega), g 11 (by omega), g 12 (by omega), g 13 (by omega), g 14 (by omega), g 15 (by omega), g 16 (by omega), g 17 (by omega)]
    exact h_sea
  have t_sb : iv_sb M2 := by
    unfold iv_sb
    rw [g 4 (by omega), g 5 (by omega), g 6 (by omega), g 8 (by omega), g 9 (by omega), g 10 (by omega), g 11 (by omega), g 12 (by omega), g 13 (by omega), g 15 (by omega), g 16 (by omega), g 17 (by omega)]
    exact h_sb
  have t_ca : iv_ca M2 := by
    unfold iv_ca
    rw [g 136 (by omega), g 137 (by omega), g 138 (by omega), g 139 (by omega), g 140 (by omega), g 141 (by omega), g 142 (by omega), g 19 (by omega), g 20 (by omega), g 21 (by omega), g 22 (by omega), g 23 (by omega), g 24 (by omega), g 25 (by omega), g 18 (by omega), g22]
    exact h_ca
  have t_cb : iv_cb M2 := by
    unfold iv_cb
    rw [g 18 (by omega), g 19 (by omega), g 20 (by omega), g 21 (by omega), g 22 (by omega), g 23 (by omega), g 25 (by omega)]
    exact h_cb
  have t_na : iv_na M2 := by
    unfold iv_na
    rw [g 148 (by omega), g 149 (by omega), g 150 (by omega), g 151 (by omega), g 152 (by omega), g 27 (by omega), g 28 (by omega), g 29 (by omega), g 30 (by omega), g 31 (by omega), g 26 (by omega), g43]
    exact h_na
  have t_nb : iv_nb M2 := by
    unfold iv_nb
    rw [g 26 (by omega), g 27 (by omega), g 28 (by omega), g 29 (by omega), g 30 (by omega)]
    exact h_nb
  have t_fi : iv_fi M2 := by
    unfold iv_fi
    rw [g 153 (by omega), g 154 (by omega), g 155 (by omega), g 156 (by omega), g 157 (by omega), g 158 (by omega), g 159 (by omega), g 33 (by omega), g 34 (by omega), g 35 (by omega), g 36 (by omega), g 37 (by omega), g 38 (by omega), g 39 (by omega), g 32 (by omega), g44]
    exact h_fi
  have t_fb : iv_fb M2 := by
    unfold iv_fb
    rw [g 32 (by omega), g 35 (by omega), g 36 (by omega), g 37 (by omega), g 39 (by omega)]
    exact h_fb
  have t_ti : iv_ti M2 := by
    unfold iv_ti
    rw [g 0 (by omega), g 38 (by omega), g45]
    exact h_ti
  have hh : ∀ k, 54 ≤ k → k ≤ 106 → M2 k = M k := fun k k1 k2 => g k (by omega)
  obtain ⟨a1, a2, a3⟩ := ch_eq (M' := M2) h_ch h_kl h_kd h_cb hh ⟨by rw [g 52 (by omega)], by rw [g 1 (by omega)], g 107 (by omega), by rw [g 18 (by omega)], by rw [g 26 (by omega)]⟩ (by unfold sC; rw [g 3 (by omega), g 4 (by omega), g 5 (by omega), g 6 (by omega), g 7 (by omega), g 8 (by omega), g 9 (by omega), g 10 (by omega), g 11 (by omega), g 12 (by omega), g 13 (by omega), g 14 (by omega), g 15 (by omega), g 16 (by omega)]) ⟨g 17 (by omega), g 19 (by omega), g 22 (by omega), g 23 (by omega), g 25 (by omega)⟩ ⟨g 21 (by omega), g 27 (by omega), g 28 (by omega), g 29 (by omega), g 30 (by omega)⟩
  refine ⟨⟨⟨t_sea, t_sb⟩, ⟨t_ca, t_cb⟩, ⟨t_na, t_nb⟩, ⟨t_fi, t_fb⟩⟩, ⟨t_ti, ⟨?_, by rw [g55, g1], by rw [g1]; exact b_00 (by decide), g2⟩, hp⟩, cc_of h_cc h_fb hh ⟨g 33 (by omega), g 34 (by omega), g 24 (by omega), g 20 (by omega), g 21 (by omega), by rw [g 32 (by omega)], by rw [g 18 (by omega)]⟩, a1, a2, a3⟩
  rw [g 164 (by omega), g 111 (by omega)]
  exact h_ta.1
theorem pr_old {c S : Nat} {M M2 : am_M} {N : am_N} (h : iv c M N) (hS : M 112 7 = nI S) (h8 : S ≤ 8) (hg : gz M M2 S) {p : Nat} (hp : p < S) : M2 165 p = M2 113 p ∧ M2 166 p = M2 114 p ∧ b_in (M2 114 p) 0 3 ∧ ∀ t : Nat, (t : Int) < (M2 114 p).toInt → (M2 167 (12 * p + 4 * t) = 1 ↔ M2 115 (3 * p + t) ≠ 0) ∧ M2 167 (12 * p + 4 * t + 1) = M2 116 (3 * p + t) ∧ M2 167 (12 * p + 4 * t + 2) = M2 117 (3 * p + t) ∧ M2 167 (12 * p + 4 * t + 3) = M2 118 (3 * p + t) ∧ b_in (M2 116 (3 * p + t)) 0 4 ∧ (M2 117 (3 * p + t) = 61 ∨ M2 117 (3 * p + t) = 60 ∨ M2 117 (3 * p + t) = 62) ∧ (M2 115 (3 * p + t) = 0 ∨ M2 115 (3 * p + t) = 1) := by
  obtain ⟨_, _, k1, k2, k3⟩ := hg
  obtain ⟨u1, u2, u3, u4⟩ := k1 p hp
  obtain ⟨_, _, hpr⟩ := h.2.1.2.2
  obtain ⟨b1, b2, b3, b4⟩ := hpr p (by rw [hS, nI_i (by omega)]; omega)
  rw [u1, u2, u3, u4]
  refine ⟨b1, b2, b3, fun t ht => ?_⟩
  have b3' := b3
  unfold b_in at b3'
  obtain ⟨w1, w2, w3, w4⟩ := k2 (3 * p + t) (by omega)
  rw [w1, w2, w3, w4, k3 _ (show 12 * p + 4 * t < 12 * S by omega), k3 _ (show 12 * p + 4 * t + 1 < 12 * S by omega), k3 _ (show 12 * p + 4 * t + 2 < 12 * S by omega), k3 _ (show 12 * p + 4 * t + 3 < 12 * S by omega)]
  exact b4 t ht
theorem te_n {M : am_M} {r : Nat} (h : r ≠ 110) : te M r = M r := by
  unfold te
  rw [up_n h, up_n h]
theorem te_1 {M : am_M} : te M 110 1 = 0 := by
  unfold te
  rw [up_j (by decide), up_r]
theorem te_2 {M : am_M} : te M 110 2 = 0 := up_r
theorem gz_of {S e : Nat} {M M1 M2 M3 M5 : am_M} (hz : fz M M3 S) (h1 : ∀ r, r ≠ 112 → M1 r = te M3 r) (hy : fy M1 M5 S) (h2 : ∀ r, r ≠ 120 → M2 r = M5 r) (h20 : ∀ j, j ≠ 55 → j ≠ 56 → j ≠ 57 → M2 120 j = M5 120 j) (h55 : M2 120 55 = 0) : gz M M2 S := by
  have r1 : ∀ r, r ≠ 110 → r ≠ 112 → M1 r = M3 r := fun r a b => (h1 r b).trans (te_n a)
  have r2 : ∀ r, (r < 120 ∨ (120 < r ∧ r < 165) ∨ 167 < r) → M2 r = M1 r := fun r hr => (h2 r (by omega)).trans (fy_r hy hr)
  have r3 : ∀ j, j ≠ 55 → j ≠ 56 → j ≠ 57 → j ≠ 58 → M2 120 j = M 120 j := fun j a b c d => by
    rw [h20 j a b c, hy 120 j (by omega) (by omega) (by omega), r1 120 (by omega) (by omega), fz_r hz (by omega)]
  refine ⟨⟨fun r hr => ?_, r3 22 (by decide) (by decide) (by decide) (by decide), r3 43 (by decide) (by decide) (by decide) (by decide), r3 44 (by decide) (by decide) (by decide) (by decide), r3 45 (by decide) (by decide) (by decide) (by decide)⟩, ⟨h55, ?_, ?_⟩, fun p hp => ⟨?_, ?_, ?_, ?_⟩, fun j hj => ⟨?_, ?_, ?_, ?_⟩, fun j hj => ?_⟩
  · rw [r2 r (by omega), r1 r (by omega) (by omega), fz_r hz (by omega)]
  · rw [r2 110 (by omega), h1 110 (by omega)]
    exact te_1
  · rw [r2 110 (by omega), h1 110 (by omega)]
    exact te_2
  · rw [r2 113 (by omega), r1 113 (by omega) (by omega)]
    exact hz 113 p (by omega) (by omega)
  · rw [r2 114 (by omega), r1 114 (by omega) (by omega)]
    exact hz 114 p (by omega) (by omega)
  · rw [h2 165 (by omega), hy 165 p (by omega) (by omega) (by omega), r1 165 (by omega) (by omega), fz_r hz (by omega)]
  · rw [h2 166 (by omega), hy 166 p (by omega) (by omega) (by omega), r1 166 (by omega) (by omega), fz_r hz (by omega)]
  · rw [r2 115 (by omega), r1 115 (by omega) (by omega)]
    exact hz 115 j (by omega) (by omega)
  · rw [r2 116 (by omega), r1 116 (by omega) (by omega)]
    exact hz 116 j (by omega) (by omega)
  · rw [r2 117 (by omega), r1 117 (by omega) (by omega)]
    exact hz 117 j (by omega) (by omega)
  · rw [r2 118 (by omega), r1 118 (by omega) (by omega)]
    exact hz 118 j (by omega) (by omega)
  · rw [h2 167 (by omega), hy 167 j (by omega) (by omega) (by omega), r1 167 (by omega) (by omega), fz_r hz (by omega)]
theorem pr_new {S : Nat} {M2 : am_M} {w : Int32} {q : Nat × (Nat → tT)} (h3 : q.1 ≤ 3 ∧ ∀ j, j < q.1 → gd (q.2 j)) (a1 : M2 113 S = w) (a2 : M2 114 S = nI q.1) (a3 : rt M2 S q.1 q.2) (b1 : M2 165 S = w) (b2 : M2 166 S = nI q.1) (b3 : ru M2 S q.1 q.2) : M2 165 S = M2 113 S ∧ M2 166 S = M2 114 S ∧ b_in (M2 114 S) 0 3 ∧ ∀ t : Nat, (t : Int) < (M2 114 S).toInt → (M2 167 (12 * S + 4 * t) = 1 ↔ M2 115 (3 * S + t) ≠ 0) ∧ M2 167 (12 * S + 4 * t + 1) = M2 116 (3 * S + t) ∧ M2 167 (12 * S + 4 * t + 2) = M2 117 (3 * S + t) ∧ M2 167 (12 * S + 4 * t + 3) = M2 118 (3 * S + t) ∧ b_in (M2 116 (3 * S + t)) 0 4 ∧ (M2 117 (3 * S + t) = 61 ∨ M2 117 (3 * S + t) = 60 ∨ M2 117 (3 * S + t) = 62) ∧ (M2 115 (3 * S + t) = 0 ∨ M2 115 (3 * S + t) = 1) := by
  have hq := h3.1
  rw [a1, a2, b1, b2]
  refine ⟨rfl, rfl, by unfold b_in; rw [nI_i (by omega)]; omega, fun t ht => ?_⟩
  rw [nI_i (by omega)] at ht
  obtain ⟨v1, v2, v3, v4⟩ := a3 t (by omega)
  obtain ⟨w1, w2, w3, w4⟩ := b3 t (by omega)
  obtain ⟨z1, z2, z3⟩ := h3.2 t (by omega)
  rw [v1, v2, v3, v4, w1, w2, w3, w4]
  refine ⟨?_, rfl, rfl, rfl, z2, z3, z1⟩
  rcases z1 with z | z
  · rw [z]
    exact ⟨fun y => absurd y (by decide), fun y => absurd rfl y⟩
  · rw [z]
    exact ⟨fun _ => by decide, fun _ => rfl⟩
theorem pr_prize {X : am_X} : am_pI iv X 106 194 [] := by
  intro c0 M N hc0 h
  have hta := h.2.1.2.1
  obtain ⟨e164, e55, b110, e2⟩ := hta
  obtain ⟨e56, b112, _⟩ := h.2.1.2.2
  unfold b_in at b110 b112
  have en := I_nI b110.1
  have in_ := I_cl b110.1
  generalize (M 110 1).toNatClampNeg = n at en in_
  have eS := I_nI b112.1
  have iS := I_cl b112.1
  generalize (M 112 7).toNatClampNeg = S at eS iS
  have h120 : n ≤ 120 := by omega
  by_cases h8 : S = 8
  · rw [h8] at eS
    exact pr_e (sp106d eS) (sp194d (e56.trans eS)) (iv_up _ _ _ h)
  have h7 : S ≤ 7 := by omega
  generalize ht : M 111 = t at e164
  -- the reference's start, behind the class's end
  have st : ∀ (M1 M3 : am_M), fz M M3 S → (∀ r, r ≠ 112 → M1 r = te M3 r) → M1 120 55 = nI n ∧ M1 164 = t ∧ M1 120 56 = nI S := by
    intro M1 M3 hz h1
    have r : ∀ r, 118 < r → M1 r = M r := fun r hr => by rw [h1 r (by omega), te_n (by omega), fz_r hz (by omega)]
    rw [r 120 (by omega), r 164 (by omega)]
    exact ⟨e55.trans en, e164, e56.trans eS⟩
  cases hp : (prz t n).2 with
  | none =>
    refine ⟨_, _, sp106a en h120 ht eS h7 e2 hp, fun M1 N1 hm => ?_⟩
    obtain ⟨M3, hz, rfl⟩ := hm
    obtain ⟨s1, s2, s3⟩ := st (te M3) M3 hz (fun _ _ => rfl)
    refine J_cq (sp194a s1 h120 s2 s3 h7 hp) (fun _ M2 N2 hq => ⟨hq.1, ?_⟩)
    obtain ⟨M5, e, hy, rfl⟩ := hq.2
    have hg : gz M (am_up (ty M5 e) 120 55 0) S := gz_of (e := e) hz (fun _ _ => rfl) hy (fun r hr => by rw [up_n hr, ty_n hr]) (fun j a b c => by rw [up_j a]; exact up_j c) up_r
    refine iv_gz h eS (by omega) hg ⟨?_, ?_, fun p hp2 => ?_⟩
    · rw [up_j (by decide)]
      show M5 120 56 = M5 112 7
      rw [hy 120 56 (by omega) (by omega) (by omega), hy 112 7 (by omega) (by omega) (by omega), te_n (by omega), te_n (by omega), hz 120 56 (by omega) (by omega), hz 112 7 (by omega) (by omega)]
      exact e56
    · show b_in (M5 112 7) 0 8
      rw [hy 112 7 (by omega) (by omega) (by omega), te_n (by omega), hz 112 7 (by omega) (by omega)]
      exact b112
    · refine pr_old h eS (by omega) hg ?_
      have q : (M5 112 7).toInt = (S : Int) := by
        rw [hy 112 7 (by omega) (by omega) (by omega), te_n (by omega), hz 112 7 (by omega) (by omega), eS, nI_i (by omega)]
      have hp3 : (p : Int) < (M5 112 7).toInt := hp2
      omega
  | some q =>
    have hok := prz_ok hp
    refine ⟨_, _, sp106b en h120 ht eS h7 e2 hp, fun M1 N1 hm => ?_⟩
    obtain ⟨M3, hz, rfl, a1, a2, a3⟩ := hm
    have h1 : ∀ r, r ≠ 112 → (am_up (te M3) 112 7 (nI (S + 1))) r = te M3 r := fun r hr => up_n hr
    obtain ⟨s1, s2, s3⟩ := st _ M3 hz h1
    refine J_cq (sp194b s1 h120 s2 s3 h7 hp) (fun _ M2 N2 hq => ⟨hq.1, ?_⟩)
    obtain ⟨M5, e, hy, rfl, b1, b2, b3⟩ := hq.2
    have r2 : ∀ r, r ≠ 120 → (am_up (am_up (ty M5 e) 120 55 0) 120 56 (nI (S + 1))) r = M5 r := fun r hr => by rw [up_n hr, up_n hr, ty_n hr]
    have hg : gz M (am_up (am_up (ty M5 e) 120 55 0) 120 56 (nI (S + 1))) S := gz_of (e := e) hz h1 hy r2 (fun j a b c => by rw [up_j b, up_j a]; exact up_j c) (by rw [up_j (by decide)]; exact up_r)
    have r5 : ∀ r, 112 < r → r < 120 → M5 r = M3 r := fun r x y => by rw [fy_r hy (by omega), h1 r (by omega), te_n (by omega)]
    have s7 : M5 112 7 = nI (S + 1) := by
      rw [hy 112 7 (by omega) (by omega) (by omega)]
      exact up_r
    refine iv_gz h eS (by omega) hg ⟨?_, ?_, fun p hp2 => ?_⟩
    · rw [up_r, r2 112 (by decide), s7]
    · rw [r2 112 (by decide), s7]
      unfold b_in
      rw [nI_i (by omega)]
      omega
    · rw [r2 112 (by decide), s7, nI_i (by omega)] at hp2
      by_cases e8 : p = S
      rotate_left
      · exact pr_old h eS (by omega) hg (by omega)
      · subst e8
        refine pr_new (w := (pz2 t n).2) hok ?_ ?_ ?_ ?_ ?_ ?_
        · rw [r2 113 (by decide), r5 113 (by decide) (by decide)]
          exact a1
        · rw [r2 114 (by decide), r5 114 (by decide) (by decide)]
          exact a2
        · intro j hj
          rw [r2 115 (by decide), r5 115 (by decide) (by decide), r2 116 (by decide), r5 116 (by decide) (by decide), r2 117 (by decide), r5 117 (by decide) (by decide), r2 118 (by decide), r5 118 (by decide) (by decide)]
          exact a3 j hj
        · rw [r2 165 (by decide)]
          exact b1
        · rw [r2 166 (by decide)]
          exact b2
        · intro j hj
          rw [r2 167 (by decide)]
          exact b3 j hj
