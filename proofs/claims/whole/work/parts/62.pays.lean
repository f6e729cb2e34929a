/-! ===== prizes paid: the reference; the pairs pays, purse ===== -/
/-- what the tables of tests say of a test -/
def tq (M : am_M) (p t : Nat) : Prop := (M 167 (12 * p + 4 * t) = 1 ↔ M 115 (3 * p + t) ≠ 0) ∧ M 167 (12 * p + 4 * t + 1) = M 116 (3 * p + t) ∧ M 167 (12 * p + 4 * t + 2) = M 117 (3 * p + t) ∧ M 167 (12 * p + 4 * t + 3) = M 118 (3 * p + t) ∧ b_in (M 116 (3 * p + t)) 0 4 ∧ (M 117 (3 * p + t) = 61 ∨ M 117 (3 * p + t) = 60 ∨ M 117 (3 * p + t) = 62) ∧ (M 115 (3 * p + t) = 0 ∨ M 115 (3 * p + t) = 1)
theorem tq_1 {M : am_M} {p t : Nat} (h : tq M p t) (h1 : M 167 (12 * p + 4 * t) = 1) : M 115 (3 * p + t) = 1 := h.2.2.2.2.2.2.elim (fun z => absurd z (h.1.mp h1)) id
theorem tq_0 {M : am_M} {p t : Nat} (h : tq M p t) (h1 : ¬ M 167 (12 * p + 4 * t) = 1) : M 115 (3 * p + t) = 0 := h.2.2.2.2.2.2.elim id (fun z => absurd (h.1.mpr (by rw [z]; decide)) h1)
theorem hd_T {M : am_M} {F : Nat → Int32} {p T : Nat} (eT : M 114 p = nI T) (hT : T ≤ 3) : c_hd M F p ↔ ∀ t, t < T → c_th M F p t := by
  unfold c_hd
  rw [eT, nI_c (by omega)]
theorem nI_p {a b : Nat} {x : Int32} (h : x = nI b) : nI a + x = nI (a + b) := by rw [h, nI_add]
theorem r204 {X : am_X} {Q : am_Q} {M M2 : am_M} {N : am_N} {f c p t : Nat} {a g v : Int32} {fl : Int32} {z8 : Value} (hp : p < 8) (ht : t < 3) (e167 : M2 167 = M 167) (hq : tq M p t) (hv : v = am_bi (c_tt (M 117 (3 * p + t)) (fa M f c (M 116 (3 * p + t)).toNatClampNeg) (M 118 (3 * p + t)))) (hg : ((g = 1 ∧ ∀ u, u < t → c_th M (fa M f c) p u) ∨ (g = 0 ∧ ∃ u, u < t ∧ ¬ c_th M (fa M f c) p u))) (kk : ∀ g z7 z8, ((g = 1 ∧ ∀ u, u < (t + 1) → c_th M (fa M f c) p u) ∨ (g = 0 ∧ ∃ u, u < (t + 1) ∧ ¬ c_th M (fa M f c) p u)) → am_J X Q 204 55 [.ref 120, .int (nI f), .int (nI c), .int a, .int (nI p), .int g, .int (nI (12 * p + 4 * (t + 1))), z7, z8] [] M2 N) : am_J X Q 204 183 [.ref 120, .int (nI f), .int (nI c), .int a, .int (nI p), .int g, .int (nI (12 * p + 4 * t)), .int fl, z8] [.int v] M2 N := by
  refine J_b 2 am_d204 rfl ?_
  refine J_if_eq 215 (am_d204 rfl) rfl (fun h187 => ?_) (fun h187 => ?_)
  · refine J_b 4 am_d204 rfl ?_
    rw [show nI (12 * p + 4 * t) + Int32.ofInt 4 = nI (12 * p + 4 * (t + 1)) from nI_p rfl]
    exact kk _ _ _ (and_0 h187 hg)
  · refine J_b 4 am_d204 rfl ?_
    refine J_iald (am_d204 rfl) rfl (vp_in_nI (by omega) (by decide)) ?_
    rw [nI_c (by omega), e167]
    refine J_b 1 am_d204 rfl ?_
    refine J_icmp_ne 207 (am_d204 rfl) rfl (fun h200 => ?_) (fun h200 => ?_)
    · refine J_b 1 am_d204 rfl ?_
      refine J_icmp_eq 215 (am_d204 rfl) rfl (fun h208 => ?_) (fun h208 => ?_)
      · refine J_b 4 am_d204 rfl ?_
        rw [show nI (12 * p + 4 * t) + Int32.ofInt 4 = nI (12 * p + 4 * (t + 1)) from nI_p rfl]
        exact kk _ _ _ (.inr ⟨rfl, t, by omega, fun z => z (by rw [← hv, tq_0 hq h200]; exact h208)⟩)
      · refine J_b 5 am_d204 rfl ?_
        rw [show nI (12 * p + 4 * t) + Int32.ofInt 4 = nI (12 * p + 4 * (t + 1)) from nI_p rfl]
        exact kk _ _ _ (and_1 h187 hg (fun z => h208 (by rw [hv]; exact z.trans (tq_0 hq h200))))
    · refine J_b 2 am_d204 rfl ?_
      refine J_icmp_eq 215 (am_d204 rfl) rfl (fun h208 => ?_) (fun h208 => ?_)
      · refine J_b 4 am_d204 rfl ?_
        rw [show nI (12 * p + 4 * t) + Int32.ofInt 4 = nI (12 * p + 4 * (t + 1)) from nI_p rfl]
        exact kk _ _ _ (.inr ⟨rfl, t, by omega, fun z => z (by rw [← hv, tq_1 hq h200]; exact h208)⟩)
      · refine J_b 5 am_d204 rfl ?_
        rw [show nI (12 * p + 4 * t) + Int32.ofInt 4 = nI (12 * p + 4 * (t + 1)) from nI_p rfl]
        exact kk _ _ _ (and_1 h187 hg (fun z => h208 (by rw [hv]; exact z.trans (tq_1 hq h200))))
theorem lp204i {X : am_X} {Q : am_Q} {M : am_M} {N N0 : am_N} {c0 f c p T : Nat} {a : Int32} (h : iv c0 M N0) (hf : f < 16) (hc5 : c < 5) (hp : p < 8) (eT : M 114 p = nI T) (e166 : M 166 p = M 114 p) (hT : T ≤ 3) (hw : ∀ t, t < T → tq M p t) (kk : ∀ g M2 z6 z7 z8, ((g = 1 ∧ ∀ u, u < T → c_th M (fa M f c) p u) ∨ (g = 0 ∧ ∃ u, u < T ∧ ¬ c_th M (fa M f c) p u)) → rd M M2 → am_J X Q 204 224 [.ref 120, .int (nI f), .int (nI c), .int a, .int (nI p), .int g, z6, z7, z8] [] M2 N) : ∀ (n t : Nat), t + n = T → ∀ (x : Int32), x = nI (12 * p + 4 * t) → ∀ (g : Int32), ((g = 1 ∧ ∀ u, u < t → c_th M (fa M f c) p u) ∨ (g = 0 ∧ ∃ u, u < t ∧ ¬ c_th M (fa M f c) p u)) → ∀ (M1 : am_M), rd M M1 → ∀ (z7 z8 : Value), am_J X Q 204 55 [.ref 120, .int (nI f), .int (nI c), .int a, .int (nI p), .int g, .int x, z7, z8] [] M1 N := by
  intro n
  induction n with
  | zero =>
    intro t hn x ex g hg M1 hr z7 z8
    have e : t = T := by omega
    subst ex
    have hge : nI (12 * p + 4 * T) ≤ nI (12 * p + 4 * t) := by rw [e]; exact Int32.le_refl _
    rw [e] at hg
    have hg2 := hg
    refine J_b 8 am_d204 rfl ?_
    refine J_iald (am_d204 rfl) rfl (vp_in_nI hp (by decide)) ?_
    rw [nI_c (n := p) (by omega), rd_n hr (by omega), e166, eT]
    refine J_b 1 am_d204 rfl ?_
    refine J_b 1 am_d204 rfl ?_
    rw [show (Int8.ofInt 12).toInt32 * nI p + Int32.ofInt 4 * nI T = nI (12 * p + 4 * T) from by rw [show (Int8.ofInt 12).toInt32 = nI 12 from rfl, show Int32.ofInt 4 = nI 4 from rfl, nI_mul, nI_mul, nI_add]]
    refine J_icmp_ge 224 (am_d204 rfl) rfl (fun h72 => ?_) (fun h72 => absurd (hge) h72)
    exact kk _ _ _ _ _ hg2 hr
  | succ n ih =>
    intro t hn x ex g hg M1 hr z7 z8
    subst ex
    have hlt : ¬ nI (12 * p + 4 * T) ≤ nI (12 * p + 4 * t) := nI_ngt (by omega) (by omega)
    have hq := hw t (by omega)
    have hb4 := hq.2.2.2.2.1
    unfold b_in at hb4
    have ic := I_cl hb4.1
    have ef := I_nI hb4.1
    refine J_b 8 am_d204 rfl ?_
    refine J_iald (am_d204 rfl) rfl (vp_in_nI hp (by decide)) ?_
    rw [nI_c (n := p) (by omega), rd_n hr (by omega), e166, eT]
    refine J_b 1 am_d204 rfl ?_
    refine J_b 1 am_d204 rfl ?_
    rw [show (Int8.ofInt 12).toInt32 * nI p + Int32.ofInt 4 * nI T = nI (12 * p + 4 * T) from by rw [show (Int8.ofInt 12).toInt32 = nI 12 from rfl, show Int32.ofInt 4 = nI 4 from rfl, nI_mul, nI_mul, nI_add]]
    refine J_icmp_ge 224 (am_d204 rfl) rfl (fun h72 => absurd h72 hlt) (fun h72 => ?_)
    refine J_b 6 am_d204 rfl ?_
    rw [show nI (12 * p + 4 * t) + Int32.ofInt 1 = nI (12 * p + 4 * t + 1) from nI_p rfl]
    refine J_iald (am_d204 rfl) rfl (vp_in_nI (by omega) (by decide)) ?_
    rw [nI_c (by omega), rd_n hr (by omega), hq.2.1]
    rw [ef]
    refine J_b 2 am_d204 rfl ?_
    refine J_V3sp 205 (am_d204 rfl) rfl rfl (sp205 (k := (M 116 (3 * p + t)).toNatClampNeg) (iv_s0 h (rd_sc hr) (N' := N0)) hf hc5 (by omega)) (fun M2 N2 hx => ?_)
    obtain ⟨hr2', rfl⟩ := hx
    have hr2 := rd_t hr hr2'
    rw [fa_md (md_sc (rd_sc hr))]
    refine J_b 6 am_d204 rfl ?_
    rw [show nI (12 * p + 4 * t) + Int32.ofInt 2 = nI (12 * p + 4 * t + 2) from nI_p rfl]
    refine J_iald (am_d204 rfl) rfl (vp_in_nI (by omega) (by decide)) ?_
    rw [nI_c (by omega), rd_n hr2 (by omega), hq.2.2.1]
    refine J_b 1 am_d204 rfl ?_
    refine J_icmp_ne 128 (am_d204 rfl) rfl (fun h103 => ?_) (fun h103 => ?_)
    · refine J_b 5 am_d204 rfl ?_
      rw [show nI (12 * p + 4 * t) + Int32.ofInt 2 = nI (12 * p + 4 * t + 2) from nI_p rfl]
      refine J_iald (am_d204 rfl) rfl (vp_in_nI (by omega) (by decide)) ?_
      rw [nI_c (by omega), rd_n hr2 (by omega), hq.2.2.1]
      refine J_b 1 am_d204 rfl ?_
      refine J_icmp_ne 164 (am_d204 rfl) rfl (fun h139 => ?_) (fun h139 => ?_)
      · refine J_b 6 am_d204 rfl ?_
        rw [show nI (12 * p + 4 * t) + Int32.ofInt 3 = nI (12 * p + 4 * t + 3) from nI_p rfl]
        refine J_iald (am_d204 rfl) rfl (vp_in_nI (by omega) (by decide)) ?_
        rw [nI_c (by omega), rd_n hr2 (by omega), hq.2.2.2.1]
        refine J_icmp_le 182 (am_d204 rfl) rfl (fun h175 => ?_) (fun h175 => ?_)
        · refine J_b 1 am_d204 rfl ?_
          exact r204 hp (by omega) (rd_n hr2 (by omega)) hq ((if_neg (fun z => z.elim (fun z => h103 z.1) (fun z => z.elim (fun z => h139 z.1) (fun z => absurd z.2 (Int32.not_lt.mpr h175))))).symm) hg (fun g z7 z8 hg2 => ih (t + 1) (by omega) _ rfl g hg2 M2 hr2 z7 z8)
        · refine J_b 2 am_d204 rfl ?_
          exact r204 hp (by omega) (rd_n hr2 (by omega)) hq ((if_pos (.inr (.inr ⟨hq.2.2.2.2.2.1.elim (fun z => absurd z h103) (fun z => z.elim (fun z => absurd z h139) id), Int32.not_le.mp h175⟩))).symm) hg (fun g z7 z8 hg2 => ih (t + 1) (by omega) _ rfl g hg2 M2 hr2 z7 z8)
      · refine J_b 6 am_d204 rfl ?_
        rw [show nI (12 * p + 4 * t) + Int32.ofInt 3 = nI (12 * p + 4 * t + 3) from nI_p rfl]
        refine J_iald (am_d204 rfl) rfl (vp_in_nI (by omega) (by decide)) ?_
        rw [nI_c (by omega), rd_n hr2 (by omega), hq.2.2.2.1]
        refine J_icmp_ge 160 (am_d204 rfl) rfl (fun h153 => ?_) (fun h153 => ?_)
        · refine J_b 2 am_d204 rfl ?_
          exact r204 hp (by omega) (rd_n hr2 (by omega)) hq ((if_neg (fun z => z.elim (fun z => h103 z.1) (fun z => z.elim (fun z => absurd z.2 (Int32.not_lt.mpr h153)) (fun z => absurd (z.1.symm.trans h139) (by decide))))).symm) hg (fun g z7 z8 hg2 => ih (t + 1) (by omega) _ rfl g hg2 M2 hr2 z7 z8)
        · refine J_b 2 am_d204 rfl ?_
          exact r204 hp (by omega) (rd_n hr2 (by omega)) hq ((if_pos (.inr (.inl ⟨h139, Int32.not_le.mp h153⟩))).symm) hg (fun g z7 z8 hg2 => ih (t + 1) (by omega) _ rfl g hg2 M2 hr2 z7 z8)
    · refine J_b 6 am_d204 rfl ?_
      rw [show nI (12 * p + 4 * t) + Int32.ofInt 3 = nI (12 * p + 4 * t + 3) from nI_p rfl]
      refine J_iald (am_d204 rfl) rfl (vp_in_nI (by omega) (by decide)) ?_
      rw [nI_c (by omega), rd_n hr2 (by omega), hq.2.2.2.1]
      refine J_icmp_ne 124 (am_d204 rfl) rfl (fun h117 => ?_) (fun h117 => ?_)
      · refine J_b 2 am_d204 rfl ?_
        exact r204 hp (by omega) (rd_n hr2 (by omega)) hq ((if_neg (fun z => z.elim (fun z => h117 z.2) (fun z => z.elim (fun z => absurd (z.1.symm.trans h103) (by decide)) (fun z => absurd (z.1.symm.trans h103) (by decide))))).symm) hg (fun g z7 z8 hg2 => ih (t + 1) (by omega) _ rfl g hg2 M2 hr2 z7 z8)
      · refine J_b 2 am_d204 rfl ?_
        exact r204 hp (by omega) (rd_n hr2 (by omega)) hq ((if_pos (.inl ⟨h103, h117⟩)).symm) hg (fun g z7 z8 hg2 => ih (t + 1) (by omega) _ rfl g hg2 M2 hr2 z7 z8)
def pq (M : am_M) (P : Nat) : Prop := M 120 56 = nI P ∧ ∀ p, p < P → M 165 p = M 113 p ∧ M 166 p = M 114 p ∧ ∃ T, M 114 p = nI T ∧ T ≤ 3 ∧ ∀ t, t < T → tq M p t
theorem pq_of {M : am_M} {P : Nat} (h : iv_pr M) (hz : pz M P) : pq M P := by
  obtain ⟨e56, hb, hp⟩ := h
  obtain ⟨hP, eP, _⟩ := hz
  refine ⟨e56.trans eP, fun p hpp => ?_⟩
  rw [eP, nI_i (by omega)] at hp
  obtain ⟨h1, h2, hb2, ht⟩ := hp p (by omega)
  unfold b_in at hb2
  have ic2 := I_cl hb2.1
  exact ⟨h1, h2, _, I_nI hb2.1, by omega, fun t h3 => ht t (by omega)⟩
theorem lp204 {X : am_X} {M : am_M} {N N0 : am_N} {c0 f c P : Nat} (h : iv c0 M N0) (hf : f < 16) (hc5 : c < 5) (hP : P ≤ 8) (hpq : pq M P) : ∀ (n i : Nat), i + n = P → ∀ (x : Int32), x = nI i → ∀ (a : Int32), a = c_wo M (fa M f c) i → ∀ (M1 : am_M), rd M M1 → ∀ (z5 z6 z7 z8 : Value), am_J X (q_p (some (.int (c_wo M (fa M f c) P))) (fun M2 N2 => rd M M2 ∧ N2 = N)) 204 32 [.ref 120, .int (nI f), .int (nI c), .int a, .int x, z5, z6, z7, z8] [] M1 N := by
  have hcn : ¬ nI c < 0 := by rw [Int32.lt_iff_toInt_lt, nI_i (by omega)]; have z0 : (0 : Int32).toInt = 0 := rfl; omega
  intro n
  induction n with
  | zero =>
    intro i hn x ex a ha M1 hr z5 z6 z7 z8
    have e : i = P := by omega
    subst e
    subst ex
    have hge : M1 120 56 ≤ nI i := by rw [(rd_sc hr).2.2.2.2.2.2, hpq.1]; exact Int32.le_refl _
    refine J_b 3 am_d204 rfl ?_
    refine J_icmp_ge 249 (am_d204 rfl) rfl (fun h38 => ?_) (fun h38 => absurd (hge) h38)
    refine J_b 1 am_d204 rfl ?_
    exact J_iret (am_d204 rfl) rfl rfl ⟨by rw [ha], hr, rfl⟩
  | succ n ih =>
    intro i hn x ex a ha M1 hr z5 z6 z7 z8
    subst ex
    have hlt : ¬ M1 120 56 ≤ nI i := by rw [(rd_sc hr).2.2.2.2.2.2, hpq.1]; exact nI_ngt (by omega) (by omega)
    obtain ⟨e113, e114, T, eT, hT, hw⟩ := hpq.2 i (by omega)
    refine J_b 3 am_d204 rfl ?_
    refine J_icmp_ge 249 (am_d204 rfl) rfl (fun h38 => absurd h38 hlt) (fun h38 => ?_)
    refine J_b 1 am_d204 rfl ?_
    refine J_if_lt 249 (am_d204 rfl) rfl (fun h42 => absurd h42 hcn) (fun h42 => ?_)
    refine J_b 6 am_d204 rfl ?_
    rw [show (Int8.ofInt 12).toInt32 * nI i = nI (12 * i + 4 * 0) from by rw [show (Int8.ofInt 12).toInt32 = nI 12 from rfl, nI_mul]; rfl]
    refine lp204i (p := i) (T := T) h hf hc5 (by omega) eT e114 hT hw (fun g M2 z6 z7 z8 hg hr2 => ?_) T 0 (Nat.zero_add _) _ rfl _ (.inl ⟨rfl, fun t ht => absurd ht (by omega)⟩) _ hr _ _
    refine J_b 2 am_d204 rfl ?_
    refine J_if_eq 240 (am_d204 rfl) rfl (fun h227 => ?_) (fun h227 => ?_)
    · refine J_b 5 am_d204 rfl ?_
      exact ih (i + 1) (by omega) _ (nI_1 i) _ (wo_n ha (fun z => (and_e hg).2 h227 ((hd_T eT hT).mp z))) _ hr2 _ _ _ _
    · refine J_b 3 am_d204 rfl ?_
      refine J_iald (am_d204 rfl) rfl (vp_in_nI (show i < 8 by omega) (by decide)) ?_
      rw [nI_c (n := i) (by omega), rd_n hr2 (by omega), e113]
      refine J_b 5 am_d204 rfl ?_
      exact ih (i + 1) (by omega) _ (nI_1 i) _ (wo_p ha ((hd_T eT hT).mpr ((and_e hg).1 h227))) _ hr2 _ _ _ _
theorem sp204 {X : am_X} {M : am_M} {N : am_N} {N0 : am_N} {c0 f S P : Nat} (h : iv c0 M N0) (hf : f < 16) (eS : M 120 22 = nI S) (hS : S ≤ 5) (hP : P ≤ 8) (hpq : pq M P) : am_J X (q_p (some (.int (py M S P f))) (fun M2 N2 => rd M M2 ∧ N2 = N)) 204 0 (am_en 204 [.ref 120, .int (nI f)]) [] M N := by
  obtain ⟨⟨f1, f2, _, _, _, _, f7⟩, _⟩ := h.1.2.2.2.1
  refine J_en (L := [.ref 120, .int (nI f), .retAddr 0, .retAddr 0, .retAddr 0, .retAddr 0, .retAddr 0, .retAddr 0, .retAddr 0]) rfl ?_
  refine J_b 3 am_d204 rfl ?_
  refine J_zald (am_d204 rfl) rfl (vp_in_nI hf (by decide)) ?_
  rw [nI_c (n := f) (by omega), f7]
  refine J_if_ne 17 (am_d204 rfl) rfl (fun h6 => ?_) (fun h6 => ?_)
  · refine J_b 7 am_d204 rfl ?_
    refine J_b 3 am_d204 rfl ?_
    refine J_icmp_ge 249 (am_d204 rfl) rfl (fun h38 => ?_) (fun h38 => ?_)
    · refine J_b 1 am_d204 rfl ?_
      exact J_iret (am_d204 rfl) rfl rfl ⟨by unfold py; rw [if_neg (fun z => h6 z.1)]; rfl, rd_0, rfl⟩
    · refine J_b 1 am_d204 rfl ?_
      refine J_if_lt 249 (am_d204 rfl) rfl (fun h42 => ?_) (fun h42 => absurd (by decide) h42)
      refine J_b 1 am_d204 rfl ?_
      exact J_iret (am_d204 rfl) rfl rfl ⟨by unfold py; rw [if_neg (fun z => h6 z.1)]; rfl, rd_0, rfl⟩
  · refine J_b 2 am_d204 rfl ?_
    refine J_V1s 179 (am_d204 rfl) rfl rfl (sp179 hf f1 f2 f7) ?_
    refine J_if_lt 21 (am_d204 rfl) rfl (fun h14 => ?_) (fun h14 => ?_)
    · have ht : t_of M f = -1 := (t_b hf).elim id (fun z => absurd h14 (Int32.not_lt.mpr z))
      refine J_b 2 am_d204 rfl ?_
      refine J_V1sp 176 (am_d204 rfl) rfl rfl (sp176 h hf eS hS) (fun M1 N1 hx => ?_)
      obtain ⟨hr, rfl⟩ := hx
      refine J_b 5 am_d204 rfl ?_
      by_cases hb : b_of M S f < 0
      · have hv : py M S P f = 0 := by unfold py; rw [if_pos ⟨h6, ht⟩, if_pos hb]
        rw [hv]
        refine J_b 3 am_d204 rfl ?_
        refine J_icmp_ge 249 (am_d204 rfl) rfl (fun h38 => ?_) (fun h38 => ?_)
        · refine J_b 1 am_d204 rfl ?_
          exact J_iret (am_d204 rfl) rfl rfl ⟨rfl, hr, rfl⟩
        · refine J_b 1 am_d204 rfl ?_
          refine J_if_lt 249 (am_d204 rfl) rfl (fun h42 => ?_) (fun h42 => absurd (hb) h42)
          refine J_b 1 am_d204 rfl ?_
          exact J_iret (am_d204 rfl) rfl rfl ⟨rfl, hr, rfl⟩
      · obtain ⟨k, hkS, ek⟩ := b_nn hS (Int32.not_lt.mp hb)
        have hv : py M S P f = c_wo M (fa M f k) P := by unfold py; rw [if_pos ⟨h6, ht⟩, if_neg hb, ek, nI_c (by omega)]
        rw [hv, ek]
        exact lp204 h hf (by omega) hP hpq P 0 (Nat.zero_add _) _ rfl _ rfl _ hr _ _ _ _
    · refine J_b 7 am_d204 rfl ?_
      refine J_b 3 am_d204 rfl ?_
      refine J_icmp_ge 249 (am_d204 rfl) rfl (fun h38 => ?_) (fun h38 => ?_)
      · refine J_b 1 am_d204 rfl ?_
        exact J_iret (am_d204 rfl) rfl rfl ⟨by unfold py; rw [if_neg (fun z => by rw [z.2] at h14; exact absurd (by decide) h14)]; rfl, rd_0, rfl⟩
      · refine J_b 1 am_d204 rfl ?_
        refine J_if_lt 249 (am_d204 rfl) rfl (fun h42 => ?_) (fun h42 => absurd (by decide) h42)
        refine J_b 1 am_d204 rfl ?_
        exact J_iret (am_d204 rfl) rfl rfl ⟨by unfold py; rw [if_neg (fun z => by rw [z.2] at h14; exact absurd (by decide) h14)]; rfl, rd_0, rfl⟩
theorem sp125a {X : am_X} {M : am_M} {N : am_N} {x : Int32} (g1 : ¬ (0 ≤ x.toInt ∧ x.toInt < (M 32 7).toInt)) : am_J X (am_eq (some (.int (-1))) (M) N) 125 0 (am_en 125 [.ref 0, .int x]) [] M N := by
  refine J_en (L := [.ref 0, .int x]) rfl ?_
  refine J_b 4 am_d125 rfl ?_
  refine J_S2s 13 (am_d125 rfl) rfl rfl (sp13) ?_
  refine J_if_ne 16 (am_d125 rfl) rfl (fun h11 => ?_) (fun h11 => ?_)
  · exact absurd (am_bi1.mp h11) g1
  · refine J_b 1 am_d125 rfl ?_
    exact J_iret (am_d125 rfl) rfl rfl ⟨rfl, rfl, rfl⟩
theorem sp203a {X : am_X} {M : am_M} {N : am_N} {x : Int32} (g1 : ¬ (0 ≤ x.toInt ∧ x.toInt < (M 120 44).toInt)) : am_J X (am_eq (some (.int (-1))) (M) N) 203 0 (am_en 203 [.ref 120, .int x]) [] M N := by
  refine J_en (L := [.ref 120, .int x]) rfl ?_
  refine J_b 2 am_d203 rfl ?_
  refine J_V1s 168 (am_d203 rfl) rfl rfl (sp168) ?_
  refine J_if_eq 16 (am_d203 rfl) rfl (fun h5 => ?_) (fun h5 => ?_)
  · refine J_b 1 am_d203 rfl ?_
    exact J_iret (am_d203 rfl) rfl rfl ⟨rfl, rfl, rfl⟩
  · exact absurd (am_bi1.mp h5) g1
theorem sp125c {X : am_X} {M : am_M} {N : am_N} {c0 f : Nat} (h : iv c0 M N) (hf : f < 16) (hfs : (f : Int) < (M 32 7).toInt) {S : Nat} (eS : M 18 7 = nI S) (hS : S ≤ 5) {P : Nat} (hpz : pz M P) : am_J X (q_p (some (.int (py M S P f))) (pm_ c0 M)) 125 0 (am_en 125 [.ref 0, .int (nI f)]) [] M N := by
  have i1 := nI_i (n := f) (by omega)
  refine J_en (L := [.ref 0, .int (nI f)]) rfl ?_
  refine J_b 4 am_d125 rfl ?_
  refine J_S2s 13 (am_d125 rfl) rfl rfl (sp13) ?_
  refine J_if_ne 16 (am_d125 rfl) rfl (fun h11 => ?_) (fun h11 => absurd h11 (am_bi1.mpr (by rw [i1]; omega)))
  refine J_b 2 am_d125 rfl ?_
  refine J_V0np 70 (am_d125 rfl) rfl rfl (sp70 h) (fun M1 N1 hl => ?_)
  obtain ⟨hm, hk, hi⟩ := hl
  have e32 : M1 32 7 = M 32 7 := by rw [hm.1 32 (by unfold rg_r sc_r; omega)]
  have e18 : M1 18 7 = M 18 7 := by rw [hm.1 18 (by unfold rg_r sc_r; omega)]
  refine J_b 2 am_d125 rfl ?_
  refine J_V1sp 126 (am_d125 rfl) rfl rfl (sp126 (hi N) hk hf (by rw [e32]; exact hfs) (by rw [e18]; exact eS) hS (pz_sc hm hpz)) (fun M2 N2 hs => ?_)
  rw [py_md hm]
  exact J_iret (am_d125 rfl) rfl rfl ⟨rfl, md_t hm (md_sc hs), fun _ => iv_s0 (hi N) hs⟩
theorem sp203c {X : am_X} {M : am_M} {N : am_N} {c0 f : Nat} {N0 : am_N} (h : iv c0 M N0) (hf : f < 16) (hfs : (f : Int) < (M 120 44).toInt) {S : Nat} (eS : M 120 22 = nI S) (hS : S ≤ 5) {P : Nat} (hP : P ≤ 8) (hpq : pq M P) : am_J X (q_p (some (.int (py M S P f))) (fun M2 _ => ∀ N, iv c0 M2 N)) 203 0 (am_en 203 [.ref 120, .int (nI f)]) [] M N := by
  have i1 := nI_i (n := f) (by omega)
  refine J_en (L := [.ref 120, .int (nI f)]) rfl ?_
  refine J_b 2 am_d203 rfl ?_
  refine J_V1s 168 (am_d203 rfl) rfl rfl (sp168) ?_
  refine J_if_eq 16 (am_d203 rfl) rfl (fun h5 => absurd h5 (am_bi1.mpr (by rw [i1]; omega))) (fun h5 => ?_)
  refine J_b 2 am_d203 rfl ?_
  refine J_V1sp 204 (am_d203 rfl) rfl rfl (sp204 h hf eS hS hP hpq) (fun M2 N2 hq => ?_)
  obtain ⟨hr, rfl⟩ := hq
  refine J_b 1 am_d203 rfl ?_
  exact J_iret (am_d203 rfl) rfl rfl ⟨rfl, iv_rd h hr⟩
theorem pr_pays {X : am_X} (x : Int32) : am_pI iv X 125 203 [.int x] := by
  intro c0 M N hc0 h
  have e22 : M 120 22 = M 18 7 := h.1.2.1.1.2
  have e44 : M 120 44 = M 32 7 := h.1.2.2.2.1.2
  have e5 := h.1.2.1.2.1
  have e16 := h.1.2.2.2.2.1
  unfold b_in at e5 e16
  by_cases g1 : 0 ≤ x.toInt ∧ x.toInt < (M 32 7).toInt
  rotate_left
  · exact pr_e (sp125a g1) (sp203a (by rw [e44]; exact g1)) (iv_up _ _ _ h)
  have ex := I_nI g1.1
  have icx := I_cl g1.1
  generalize x.toNatClampNeg = f at ex icx
  subst ex
  have hf : f < 16 := by omega
  have hfs : (f : Int) < (M 32 7).toInt := by omega
  have eS := I_nI e5.1
  have iS := I_cl e5.1
  generalize (M 18 7).toNatClampNeg = S at eS iS
  have hS : S ≤ 5 := by omega
  obtain ⟨P, hpz⟩ := pz_of h.2.1.2.2
  refine pr_m (sp125c h hf hfs eS hS hpz) (fun M1 N1 hm hi => ?_)
  rw [← py_md hm]
  exact sp203c (hi N) hf (by rw [hm.2.2.2.1, e44]; exact hfs) (by rw [hm.2.1, e22]; exact eS) hS hpz.1 (pq_of (hi N).2.1.2.2 (pz_sc hm hpz))
def c_ps (tl p : Nat → Int32) (as : Int32) (F : Nat) : Int32 := smI (fun f => if tl f ≤ as then p f else 0) F
theorem ps_p {tl p : Nat → Int32} {as a : Int32} {i : Nat} (ha : a = c_ps tl p as i) (h : tl i ≤ as) : a + p i = c_ps tl p as (i + 1) := by
  show a + p i = c_ps tl p as i + (if tl i ≤ as then p i else 0)
  rw [if_pos h, ha]
theorem ps_n {tl p : Nat → Int32} {as a : Int32} {i : Nat} (ha : a = c_ps tl p as i) (h : ¬ tl i ≤ as) : a + 0 = c_ps tl p as (i + 1) := by
  show a + 0 = c_ps tl p as i + (if tl i ≤ as then p i else 0)
  rw [if_neg h, ha]
theorem lp132 {X : am_X} {M : am_M} {N0 : am_N} {c0 S P F : Nat} {as : Int32} (h : iv c0 M N0) (hk : M 52 4 = M 1 11) (eS : M 18 7 = nI S) (hS : S ≤ 5) (eF : M 32 7 = nI F) (hF : F ≤ 16) (hpz : pz M P) : ∀ (n i : Nat), i + n = F → ∀ (x : Int32), x = nI i → ∀ (a : Int32), a = c_ps (M 38) (py M S P) as i → ∀ (M1 : am_M), sc_ok M M1 → ∀ (N : am_N), am_J X (q_p (some (.int (c_ps (M 38) (py M S P) as F))) (fun M2 _ => sc_ok M M2)) 132 21 [.ref 0, .int as, .int a, .int x] [] M1 N := by
  intro n
  induction n with
  | zero =>
    intro i hn x ex a ha M1 hs N
    have e : i = F := by omega
    subst e
    subst ex
    have hge : M1 32 7 ≤ nI i := by rw [hs.1 32 (by unfold sc_r; omega), eF]; exact Int32.le_refl _
    refine J_b 4 am_d132 rfl ?_
    refine J_icmp_ge 59 (am_d132 rfl) rfl (fun h29 => ?_) (fun h29 => absurd (hge) h29)
    refine J_b 1 am_d132 rfl ?_
    exact J_iret (am_d132 rfl) rfl rfl ⟨by rw [ha], hs⟩
  | succ n ih =>
    intro i hn x ex a ha M1 hs N
    subst ex
    have e32 : M1 32 7 = nI F := by rw [hs.1 32 (by unfold sc_r; omega)]; exact eF
    have hlt : ¬ M1 32 7 ≤ nI i := by rw [e32]; exact nI_ngt (by omega) (by omega)
    have hk1 : M1 52 4 = M1 1 11 := by rw [hs.1 52 (by unfold sc_r; omega), hs.1 1 (by unfold sc_r; omega)]; exact hk
    refine J_b 4 am_d132 rfl ?_
    refine J_icmp_ge 59 (am_d132 rfl) rfl (fun h29 => absurd h29 hlt) (fun h29 => ?_)
    refine J_b 4 am_d132 rfl ?_
    refine J_iald (am_d132 rfl) rfl (vp_in_nI (show i < 16 by omega) (by decide)) ?_
    rw [nI_c (n := i) (by omega)]
    show am_J X _ 132 41 _ (.int (M1 38 i) :: _) _ N
    rw [hs.1 38 (by unfold sc_r; omega)]
    refine J_b 1 am_d132 rfl ?_
    refine J_icmp_gt 53 (am_d132 rfl) rfl (fun h42 => ?_) (fun h42 => ?_)
    · refine J_b 2 am_d132 rfl ?_
      exact ih (i + 1) (by omega) _ (nI_1 i) _ ((Int32.add_zero _).symm.trans (ps_n ha (Int32.not_le.mpr h42))) _ hs _
    · refine J_b 3 am_d132 rfl ?_
      refine J_V1sp 126 (am_d132 rfl) rfl rfl (sp126 (iv_s0 h hs (N' := N0)) hk1 (show i < 16 by omega) (by rw [e32, nI_i (by omega)]; omega) (by rw [hs.1 18 (by unfold sc_r; omega)]; exact eS) hS (pz_sc (md_sc hs) hpz)) (fun M2 N2 hs2 => ?_)
      rw [py_md (md_sc hs)]
      refine J_b 4 am_d132 rfl ?_
      exact ih (i + 1) (by omega) _ (nI_1 i) _ (ps_p ha (Int32.not_lt.mp h42)) _ (sc_t hs hs2) _
theorem sp132b {X : am_X} {M : am_M} {N : am_N} {as : Int32} (g2 : ¬ (0 ≤ as.toInt ∧ as.toInt ≤ 999)) : am_J X (am_eq (some (.int (-2))) (M) N) 132 0 (am_en 132 [.ref 0, .int as]) [] M N := by
  refine J_en (L := [.ref 0, .int as, .retAddr 0, .retAddr 0]) rfl ?_
  refine J_b 1 am_d132 rfl ?_
  refine J_S1s 84 (am_d132 rfl) rfl rfl (sp84) ?_
  refine J_if_ne 10 (am_d132 rfl) rfl (fun h4 => absurd (am_bi1.mp h4) g2) (fun h4 => ?_)
  refine J_b 1 am_d132 rfl ?_
  exact J_iret (am_d132 rfl) rfl rfl ⟨rfl, rfl, rfl⟩
theorem sp132c {X : am_X} {M : am_M} {N : am_N} {as : Int32} {c0 S P F : Nat} (h : iv c0 M N) (eS : M 18 7 = nI S) (hS : S ≤ 5) (eF : M 32 7 = nI F) (hF : F ≤ 16) (hpz : pz M P) (g2 : 0 ≤ as.toInt ∧ as.toInt ≤ 999) : am_J X (q_p (some (.int (c_ps (M 38) (py M S P) as F))) (pm_ c0 M)) 132 0 (am_en 132 [.ref 0, .int as]) [] M N := by
  refine J_en (L := [.ref 0, .int as, .retAddr 0, .retAddr 0]) rfl ?_
  refine J_b 1 am_d132 rfl ?_
  refine J_S1s 84 (am_d132 rfl) rfl rfl (sp84) ?_
  refine J_if_ne 10 (am_d132 rfl) rfl (fun h4 => ?_) (fun h4 => absurd h4 (am_bi1.mpr g2))
  refine J_b 2 am_d132 rfl ?_
  refine J_V0np 70 (am_d132 rfl) rfl rfl (sp70 h) (fun M1 N1 hl => ?_)
  obtain ⟨hm, hk, hi⟩ := hl
  have e32 : M1 32 7 = M 32 7 := by rw [hm.1 32 (by unfold rg_r sc_r; omega)]
  have e18 : M1 18 7 = M 18 7 := by rw [hm.1 18 (by unfold rg_r sc_r; omega)]
  have hv : c_ps (M1 38) (py M1 S P) as F = c_ps (M 38) (py M S P) as F := by rw [hm.1 38 (by unfold rg_r sc_r; omega), show py M1 S P = py M S P from funext fun f => py_md hm]
  refine J_b 4 am_d132 rfl ?_
  rw [← hv]
  exact J_cq (lp132 (hi N) hk (by rw [e18]; exact eS) hS (by rw [e32]; exact eF) hF (pz_sc hm hpz) F 0 (Nat.zero_add _) _ rfl _ rfl _ sc_0 _) (fun r M2 N2 hq => ⟨hq.1, md_t hm (md_sc hq.2), fun _ => iv_s0 (hi N) hq.2⟩)
theorem sp207b {X : am_X} {M : am_M} {N : am_N} {as : Int32} (g2 : ¬ (0 ≤ as.toInt ∧ as.toInt ≤ 999)) : am_J X (am_eq (some (.int (-2))) (M) N) 207 0 (am_en 207 [.ref 120, .int as]) [] M N := by
  refine J_en (L := [.ref 120, .int as, .retAddr 0, .retAddr 0]) rfl ?_
  refine J_b 4 am_d207 rfl ?_
  refine J_S3s 140 (am_d207 rfl) rfl rfl (sp140) ?_
  refine J_if_ne 15 (am_d207 rfl) rfl (fun h9 => absurd (show 0 ≤ as.toInt ∧ as.toInt ≤ 999 from by have q := am_bi1.mp h9; rw [Int32.toInt_toInt64] at q; exact q) g2) (fun h9 => ?_)
  refine J_b 1 am_d207 rfl ?_
  exact J_iret (am_d207 rfl) rfl rfl ⟨rfl, rfl, rfl⟩
theorem lp207 {X : am_X} {M : am_M} {N N0 : am_N} {c0 S P F : Nat} {as : Int32} (h : iv c0 M N0) (eS : M 120 22 = nI S) (hS : S ≤ 5) (eF : M 120 44 = nI F) (hF : F ≤ 16) (hpz : pz M P) : ∀ (n i : Nat), i + n = F → ∀ (x : Int32), x = nI i → ∀ (a : Int32), a = c_ps (M 38) (py M S P) as i → ∀ (M1 : am_M), rd M M1 → am_J X (q_p (some (.int (c_ps (M 38) (py M S P) as F))) (fun M2 N2 => rd M M2 ∧ N2 = N)) 207 19 [.ref 120, .int as, .int a, .int x] [] M1 N := by
  have f6 : M 158 = M 38 := h.1.2.2.2.1.1.2.2.2.2.2.1
  intro n
  induction n with
  | zero =>
    intro i hn x ex a ha M1 hr
    have e : i = F := by omega
    subst e
    subst ex
    have hge : M1 120 44 ≤ nI i := by rw [(rd_sc hr).2.2.2.1, eF]; exact Int32.le_refl _
    refine J_b 3 am_d207 rfl ?_
    refine J_icmp_ge 55 (am_d207 rfl) rfl (fun h24 => ?_) (fun h24 => absurd (hge) h24)
    refine J_b 1 am_d207 rfl ?_
    exact J_iret (am_d207 rfl) rfl rfl ⟨by rw [ha], hr, rfl⟩
  | succ n ih =>
    intro i hn x ex a ha M1 hr
    subst ex
    have hlt : ¬ M1 120 44 ≤ nI i := by rw [(rd_sc hr).2.2.2.1, eF]; exact nI_ngt (by omega) (by omega)
    refine J_b 3 am_d207 rfl ?_
    refine J_icmp_ge 55 (am_d207 rfl) rfl (fun h24 => absurd h24 hlt) (fun h24 => ?_)
    refine J_b 4 am_d207 rfl ?_
    refine J_iald (am_d207 rfl) rfl (vp_in_nI (show i < 16 by omega) (by decide)) ?_
    rw [nI_c (n := i) (by omega)]
    show am_J X _ 207 34 _ (.int (M1 158 i) :: _) _ N
    rw [rd_n hr (by omega), f6]
    refine J_b 1 am_d207 rfl ?_
    refine J_icmp_gt 46 (am_d207 rfl) rfl (fun h35 => ?_) (fun h35 => ?_)
    · refine J_b 5 am_d207 rfl ?_
      exact ih (i + 1) (by omega) _ (nI_1 i) _ (ps_n ha (Int32.not_le.mpr h35)) _ hr
    · refine J_b 2 am_d207 rfl ?_
      refine J_V1sp 204 (am_d207 rfl) rfl rfl (sp204 (iv_s0 h (rd_sc hr) (N' := N0)) (show i < 16 by omega) ((rd_sc hr).2.1.trans eS) hS hpz.1 (pq_of (iv_s0 h (rd_sc hr) (N' := N0)).2.1.2.2 (pz_sc (md_sc (rd_sc hr)) hpz))) (fun M2 N2 hx => ?_)
      obtain ⟨hr2, rfl⟩ := hx
      rw [py_md (md_sc (rd_sc hr))]
      refine J_b 5 am_d207 rfl ?_
      exact ih (i + 1) (by omega) _ (nI_1 i) _ (ps_p ha (Int32.not_lt.mp h35)) _ (rd_t hr hr2)
theorem sp207c {X : am_X} {M : am_M} {N : am_N} {as : Int32} {c0 S P F : Nat} {N0 : am_N} (h : iv c0 M N0) (eS : M 120 22 = nI S) (hS : S ≤ 5) (eF : M 120 44 = nI F) (hF : F ≤ 16) (hpz : pz M P) (g2 : 0 ≤ as.toInt ∧ as.toInt ≤ 999) : am_J X (q_p (some (.int (c_ps (M 38) (py M S P) as F))) (fun M2 _ => ∀ N, iv c0 M2 N)) 207 0 (am_en 207 [.ref 120, .int as]) [] M N := by
  refine J_en (L := [.ref 120, .int as, .retAddr 0, .retAddr 0]) rfl ?_
  refine J_b 4 am_d207 rfl ?_
  refine J_S3s 140 (am_d207 rfl) rfl rfl (sp140) ?_
  refine J_if_ne 15 (am_d207 rfl) rfl (fun h9 => ?_) (fun h9 => absurd h9 (am_bi1.mpr (by rw [Int32.toInt_toInt64]; exact g2)))
  refine J_b 4 am_d207 rfl ?_
  exact J_cq (lp207 h eS hS eF hF hpz F 0 (Nat.zero_add _) _ rfl _ rfl _ rd_0) (fun r M2 N2 hq => ⟨hq.1, iv_rd h hq.2.1⟩)
theorem pr_purse {X : am_X} (as : Int32) : am_pI iv X 132 207 [.int as] := by
  intro c0 M N hc0 h
  have e22 : M 120 22 = M 18 7 := h.1.2.1.1.2
  have e44 : M 120 44 = M 32 7 := h.1.2.2.2.1.2
  have e5 := h.1.2.1.2.1
  have e16 := h.1.2.2.2.2.1
  unfold b_in at e5 e16
  by_cases g2 : 0 ≤ as.toInt ∧ as.toInt ≤ 999
  rotate_left
  · exact pr_e (sp132b g2) (sp207b g2) (iv_up _ _ _ h)
  have eS := I_nI e5.1
  have iS := I_cl e5.1
  generalize (M 18 7).toNatClampNeg = S at eS iS
  have hS : S ≤ 5 := by omega
  have eF := I_nI e16.1
  have iF := I_cl e16.1
  generalize (M 32 7).toNatClampNeg = F at eF iF
  have hF : F ≤ 16 := by omega
  obtain ⟨P, hpz⟩ := pz_of h.2.1.2.2
  refine pr_m (sp132c h eS hS eF hF hpz g2) (fun M1 N1 hm hi => ?_)
  rw [show c_ps (M 38) (py M S P) as F = c_ps (M1 38) (py M1 S P) as F from by rw [hm.1 38 (by unfold rg_r sc_r; omega), show py M1 S P = py M S P from funext fun f => py_md hm]]
  exact sp207c (hi N) (by rw [hm.2.1, e22]; exact eS) hS (by rw [hm.2.2.2.1, e44]; exact eF) hF (pz_sc hm hpz) g2
