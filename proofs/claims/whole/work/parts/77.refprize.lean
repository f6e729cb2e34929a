/-! ===== prizes: a whole text; the reference; the pair ===== -/
def fy (M M' : am_M) (S : Nat) : Prop := ∀ r j, ¬ ((r = 165 ∨ r = 166) ∧ j = S) → ¬ (r = 167 ∧ 12 * S ≤ j ∧ j < 12 * S + 12) → ¬ (r = 120 ∧ j = 58) → M' r j = M r j
theorem fy_0 {M : am_M} {S : Nat} : fy M M S := fun _ _ _ _ _ => rfl
theorem fy_up {M M' : am_M} {S r : Nat} {v : Int32} (h : fy M M' S) (hr : r = 165 ∨ r = 166) : fy M (am_up M' r S v) S := by
  intro r' j' h1 h2 h3
  rw [← h r' j' h1 h2 h3]
  unfold am_up
  split
  · split
    · rename_i e1 e2
      exact absurd ⟨by omega, e2⟩ h1
    · rfl
  · rfl
theorem fy_58 {M M' : am_M} {S : Nat} {v : Int32} (h : fy M M' S) : fy M (am_up M' 120 58 v) S := by
  intro r' j' h1 h2 h3
  rw [← h r' j' h1 h2 h3]
  unfold am_up
  split
  · split
    · rename_i e1 e2
      exact absurd ⟨e1, e2⟩ h3
    · rfl
  · rfl
theorem fy_fx {M M' M3 : am_M} {S k : Nat} (h : fy M M' S) (h2 : fx M' M3 k) (hk : 12 * S ≤ k ∧ k + 3 < 12 * S + 12) : fy M M3 S := by
  intro r' j' g1 g2 g3
  rw [h2 r' j' (fun z => g2 ⟨z.1, by omega⟩) g3, h r' j' g1 g2 g3]
theorem fy_r {M M' : am_M} {S r : Nat} (h : fy M M' S) (hr : r < 120 ∨ (120 < r ∧ r < 165) ∨ 167 < r) : M' r = M r := funext fun j => h r j (by omega) (by omega) (by omega)
def ru (M : am_M) (S i : Nat) (f : Nat → tT) : Prop := ∀ j, j < i → M 167 (12 * S + 4 * j) = (f j).1 ∧ M 167 (12 * S + 4 * j + 1) = (f j).2.1 ∧ M 167 (12 * S + 4 * j + 2) = (f j).2.2.1 ∧ M 167 (12 * S + 4 * j + 3) = (f j).2.2.2
theorem ru_s {M M3 : am_M} {S i : Nat} {f : Nat → tT} {v : tT} (h : ru M S i f) (hf : fx M M3 (12 * S + 4 * i)) (h1 : M3 167 (12 * S + 4 * i) = v.1) (h2 : M3 167 (12 * S + 4 * i + 1) = v.2.1) (h3 : M3 167 (12 * S + 4 * i + 2) = v.2.2.1) (h4 : M3 167 (12 * S + 4 * i + 3) = v.2.2.2) : ru M3 S (i + 1) (sf f i v) := by
  intro j hj
  unfold sf
  by_cases e : j = i
  · subst e
    rw [if_pos rfl]
    exact ⟨h1, h2, h3, h4⟩
  · rw [if_neg e, hf 167 _ (by omega) (by omega), hf 167 _ (by omega) (by omega), hf 167 _ (by omega) (by omega), hf 167 _ (by omega) (by omega)]
    exact h j (by omega)
theorem ru_up {M : am_M} {S i r : Nat} {f : Nat → tT} {v : Int32} (h : ru M S i f) (hr : r = 165 ∨ r = 166) : ru (am_up M r S v) S i f := by
  intro j hj
  rw [up_n (by omega)]
  exact h j hj
theorem slot12 {S i : Nat} : (Int8.ofInt 12).toInt32 * nI S + Int32.ofInt 4 * nI i = nI (12 * S + 4 * i) := by
  rw [show (Int8.ofInt 12).toInt32 = nI 12 from rfl, show Int32.ofInt 4 = nI 4 from rfl, nI_mul, nI_mul, nI_add]
theorem I_n3 {i : Nat} (h : i < 2) : ¬ nI (i + 1) = Int32.ofInt 3 := by
  intro z
  have := congrArg Int32.toInt z
  rw [nI_i (by omega)] at this
  have e : (Int32.ofInt 3).toInt = 3 := rfl
  omega
theorem lp195 {X : am_X} {M : am_M} {n S : Nat} {t : Nat → Int32} {w : Int32} (hn : M 120 55 = nI n) (h120 : n ≤ 120) (ht : M 164 = t) (hS : M 120 56 = nI S) (h7 : S ≤ 7) : ∀ (m i : Nat), i + m = 3 → ¬ m = 0 → ∀ (f : Nat → tT) (M1 : am_M), fy M M1 S → M1 165 S = w → M1 166 S = nI i → ru M1 S i f → ∀ (a : Nat), a ≤ n → ∀ (N : am_N), am_J X (q_p (some (.int (am_bi ((lo t n m i f a).2.isSome = true)))) (fun M2 _ => ∃ M3, M2 = ty M3 (lo t n m i f a).1 ∧ fy M M3 S ∧ ∀ q, (lo t n m i f a).2 = some q → M3 165 S = w ∧ M3 166 S = nI q.1 ∧ ru M3 S q.1 q.2)) 195 97 [.ref 120] [] (ty M1 a) N := by
  intro m
  induction m with
  | zero => exact fun i hi hm => absurd rfl hm
  | succ m ih =>
    intro i hi _ f M1 hz h165 h166 hru a ha N
    have e1 : M1 120 55 = nI n := (hz 120 55 (by omega) (by omega) (by omega)).trans hn
    have e164 : M1 164 = t := (fy_r hz (by omega)).trans ht
    have e56 : (ty M1 a) 120 56 = nI S := (hz 120 56 (by omega) (by omega) (by omega)).trans hS
    refine J_b 4 am_d195 rfl ?_
    rw [e56]
    refine J_b 1 am_d195 rfl ?_
    refine J_b 5 am_d195 rfl ?_
    rw [e56]
    refine J_iald (am_d195 rfl) rfl (vp_in_nI (show S < 8 by omega) (by decide)) ?_
    rw [nI_c (n := S) (by omega), show (ty M1 a) 166 S = nI i from h166]
    refine J_b 2 am_d195 rfl ?_
    rw [show (Int8.ofInt 12).toInt32 * nI S + Int32.ofInt 4 * nI i = nI (12 * S + 4 * i) from slot12]
    have k1 := sp202 (X := X) (M := M1) (N := N) (n := n) (a := a) (k := 12 * S + 4 * i) (t := t) e1 h120 e164 ha (by omega)
    refine J_V1sp 202 (am_d195 rfl) rfl rfl k1 (fun M2 N2 hq => ?_)
    obtain ⟨M3, rfl, hfr, hv⟩ := hq
    refine J_if_ne 125 (am_d195 rfl) rfl (fun h120x => ?_) (fun h120x => ?_)
    · have hz3 := fy_fx hz hfr (by omega)
      have i56 : (ty M3 (tse t n a)) 120 56 = nI S := (hz3 120 56 (by omega) (by omega) (by omega)).trans hS
      have i166 : (ty M3 (tse t n a)) 166 S = nI i := (hfr 166 S (by omega) (by omega)).trans h166
      have hsk : tsk t n a := am_bi1.mp h120x
      obtain ⟨v1, v2, v3, v4⟩ := hv hsk
      have hru3 := ru_up (v := nI (i + 1)) (ru_s (v := tsv t n a) hru hfr v1 v2 v3 v4) (.inr rfl : (166 : Nat) = 165 ∨ (166 : Nat) = 166)
      have hz4 : fy M (am_up M3 166 S (nI (i + 1))) S := fy_up hz3 (.inr rfl)
      have h165' : (am_up M3 166 S (nI (i + 1))) 165 S = w := (hfr 165 S (by omega) (by omega)).trans h165
      have e1' : (am_up M3 166 S (nI (i + 1))) 120 55 = nI n := (hz3 120 55 (by omega) (by omega) (by omega)).trans hn
      have e56' : (ty (am_up M3 166 S (nI (i + 1))) (tse t n a)) 120 56 = nI S := i56
      have e164' : (am_up M3 166 S (nI (i + 1))) 164 = t := (fy_r hz4 (by omega)).trans ht
      have hle := tse_le (t := t) (n := n) (a := a) ha
      have q57 : (ty (am_up M3 166 S (nI (i + 1))) (tse t n a)) 120 57 = nI (tse t n a) := ty_2
      have q55 : (ty (am_up M3 166 S (nI (i + 1))) (tse t n a)) 120 55 = nI n := ty_1.trans e1'
      refine J_b 5 am_d195 rfl ?_
      rw [i56]
      refine J_iald (am_d195 rfl) rfl (vp_in_nI (show S < 8 by omega) (by decide)) ?_
      rw [nI_c (n := S) (by omega), i166]
      refine J_b 2 am_d195 rfl ?_
      refine J_iast (am_d195 rfl) rfl (vp_in_nI (show S < 8 by omega) (by decide)) ?_
      rw [nI_c (n := S) (by omega), show nI i + Int32.ofInt 1 = nI (i + 1) from nI_1 i]
      refine J_mem (ty_up (by omega)) ?_
      by_cases he : tse t n a = n
      · refine J_b 4 am_d195 rfl ?_
        refine J_icmp_ne 151 (am_d195 rfl) rfl (fun h146 => absurd (by rw [q57, q55, he]) h146) (fun h146 => ?_)
        refine J_b 1 am_d195 rfl ?_
        exact J_iret (am_d195 rfl) rfl rfl ⟨by rw [lo_e hsk he]; rfl, _, by rw [lo_e hsk he], hz4, fun q hq => by rw [lo_e hsk he] at hq; cases hq; exact ⟨h165', up_r, hru3⟩⟩
      · refine J_b 4 am_d195 rfl ?_
        refine J_icmp_ne 151 (am_d195 rfl) rfl (fun h146 => ?_) (fun h146 => (he (nI_inj (by omega) (by omega) (by rw [q57, q55] at h146; exact h146))).elim)
        by_cases hm0 : m = 0
        · refine J_b 4 am_d195 rfl ?_
          rw [e56']
          refine J_iald (am_d195 rfl) rfl (vp_in_nI (show S < 8 by omega) (by decide)) ?_
          rw [nI_c (n := S) (by omega), show (ty (am_up M3 166 S (nI (i + 1))) (tse t n a)) 166 S = nI (i + 1) from (congrFun (ty_n (by decide)) S).trans up_r]
          refine J_b 1 am_d195 rfl ?_
          refine J_icmp_eq 173 (am_d195 rfl) rfl (fun h161 => ?_) (fun h161 => absurd (by rw [show i = 2 by omega]; rfl) h161)
          refine J_b 1 am_d195 rfl ?_
          exact J_iret (am_d195 rfl) rfl rfl ⟨by rw [lo_f hsk he (fun z => z.1 hm0)]; rfl, _, by rw [lo_f hsk he (fun z => z.1 hm0)], hz4, fun q hq => by rw [lo_f hsk he (fun z => z.1 hm0)] at hq; cases hq⟩
        · by_cases hs : sg t n 38 (tse t n a)
          · refine J_b 4 am_d195 rfl ?_
            rw [e56']
            refine J_iald (am_d195 rfl) rfl (vp_in_nI (show S < 8 by omega) (by decide)) ?_
            rw [nI_c (n := S) (by omega), show (ty (am_up M3 166 S (nI (i + 1))) (tse t n a)) 166 S = nI (i + 1) from (congrFun (ty_n (by decide)) S).trans up_r]
            refine J_b 1 am_d195 rfl ?_
            refine J_icmp_eq 173 (am_d195 rfl) rfl (fun h161 => absurd h161 (I_n3 (show i < 2 by omega))) (fun h161 => ?_)
            refine J_b 2 am_d195 rfl ?_
            have kt := sp199t (X := X) (N := N2) (b := 38) (M := am_up M3 166 S (nI (i + 1))) (a := tse t n a) e1' h120 e164' hle (by decide) hs
            refine J_V1s 199 (am_d195 rfl) rfl rfl kt ?_
            refine J_if_ne 97 (am_d195 rfl) rfl (fun h170 => ?_) (fun h170 => absurd h170 (by decide))
            rw [lo_g hsk he ⟨hm0, hs⟩]
            exact ih (i + 1) (by omega) hm0 _ _ hz4 h165' up_r hru3 _ hs.1 _
          · refine J_b 4 am_d195 rfl ?_
            rw [e56']
            refine J_iald (am_d195 rfl) rfl (vp_in_nI (show S < 8 by omega) (by decide)) ?_
            rw [nI_c (n := S) (by omega), show (ty (am_up M3 166 S (nI (i + 1))) (tse t n a)) 166 S = nI (i + 1) from (congrFun (ty_n (by decide)) S).trans up_r]
            refine J_b 1 am_d195 rfl ?_
            refine J_icmp_eq 173 (am_d195 rfl) rfl (fun h161 => absurd h161 (I_n3 (show i < 2 by omega))) (fun h161 => ?_)
            refine J_b 2 am_d195 rfl ?_
            have kt := sp199f (X := X) (N := N2) (b := 38) (M := am_up M3 166 S (nI (i + 1))) (a := tse t n a) e1' h120 e164' hle (by decide) hs
            refine J_V1s 199 (am_d195 rfl) rfl rfl kt ?_
            refine J_if_ne 97 (am_d195 rfl) rfl (fun h170 => absurd rfl h170) (fun h170 => ?_)
            refine J_b 1 am_d195 rfl ?_
            exact J_iret (am_d195 rfl) rfl rfl ⟨by rw [lo_f hsk he (fun z => hs z.2)]; rfl, _, by rw [lo_f hsk he (fun z => hs z.2)], hz4, fun q hq => by rw [lo_f hsk he (fun z => hs z.2)] at hq; cases hq⟩
    · refine J_b 1 am_d195 rfl ?_
      exact J_iret (am_d195 rfl) rfl rfl ⟨by rw [lo_n (am_bi0.mp h120x)]; rfl, M3, by rw [lo_n (am_bi0.mp h120x)], fy_fx hz hfr (by omega), fun q hq => by rw [lo_n (am_bi0.mp h120x)] at hq; cases hq⟩
theorem sp195 {X : am_X} {M : am_M} {N : am_N} {n S : Nat} {t : Nat → Int32} (hn : M 120 55 = nI n) (h120 : n ≤ 120) (ht : M 164 = t) (hS : M 120 56 = nI S) (h7 : S ≤ 7) : am_J X (q_p (some (.int (am_bi ((prz t n).2.isSome = true)))) (fun M2 _ => ∃ M3, M2 = ty M3 (prz t n).1 ∧ fy M M3 S ∧ ∀ q, (prz t n).2 = some q → M3 165 S = (pz2 t n).2 ∧ M3 166 S = nI q.1 ∧ ru M3 S q.1 q.2)) 195 0 (am_en 195 [.ref 120]) [] M N := by
  refine J_en (L := [.ref 120]) rfl ?_
  refine J_b 2 am_d195 rfl ?_
  refine J_puti (am_d195 rfl) rfl ?_
  show am_J X _ 195 5 _ _ (ty M 0) N
  refine J_b 3 am_d195 rfl ?_
  have kw := sp196 (X := X) (N := N) (M := M) (a := 0) (f := 0) (T := 0) hn h120 ht (Nat.zero_le _) (by decide) (Nat.le_refl _)
  rw [show 0 + 1 - 0 = 1 from rfl, wr_1 (by decide)] at kw
  refine J_V2s 196 (am_d195 rfl) rfl rfl kw ?_
  show am_J X _ 195 11 _ (.int (if (q1_ t n).2 = true then nI 0 else -1) :: _) (ty M (q1_ t n).1) N
  refine J_if_lt 30 (am_d195 rfl) rfl (fun h11 => ?_) (fun h11 => ?_)
  · have b1 : ¬ (q1_ t n).2 = true := fun z => absurd h11 (by rw [if_pos z]; decide)
    have e1 : pz1 t n = (q1_ t n) := by rw [pz1_e, if_neg b1]
    have c1 : ¬ (pz1 t n).2 = true := by rw [e1]; exact b1
    refine J_b 1 am_d195 rfl ?_
    exact J_iret (am_d195 rfl) rfl rfl ⟨by unfold prz; rw [if_neg c1]; rfl, M, by unfold prz; rw [if_neg c1]; rw [e1], fy_0, fun q hq => by unfold prz at hq; rw [if_neg c1] at hq; cases hq⟩
  · have b1 : (q1_ t n).2 = true := Decidable.byContradiction (fun z => absurd h11 (by rw [if_neg z]; decide))
    by_cases hs : sg t n 32 (q1_ t n).1
    · refine J_b 2 am_d195 rfl ?_
      refine J_V1s 199 (am_d195 rfl) rfl rfl (sp199t (b := 32) (M := M) (a := (q1_ t n).1) hn h120 ht (show (q1_ t n).1 ≤ n from wd_le _ _ _ (Nat.zero_le _)) (by decide) hs) ?_
      refine J_if_eq 30 (am_d195 rfl) rfl (fun h20 => absurd h20 (by decide)) (fun h20 => ?_)
      have e1 : pz1 t n = ((q1_ t n).1 + 1, true) := by rw [pz1_e, if_pos b1, if_pos hs]
      have c1 : (pz1 t n).2 = true := by rw [e1]
      have a1 : (q1_ t n).1 + 1 = (pz1 t n).1 := by rw [e1]
      have l1 : (pz1 t n).1 ≤ n := wd_le _ _ _ (Nat.zero_le _)
      rw [a1]
      by_cases hd : dg t n (pz1 t n).1
      · have c2 : 0 ≤ (pz2 t n).2 := nc_dg.mpr hd
        refine J_b 1 am_d195 rfl ?_
        have kn := sp200t (X := X) (N := N) (M := M) (a := (pz1 t n).1) hn h120 ht l1 hd
        refine J_V0s 200 (am_d195 rfl) rfl rfl kn ?_
        show am_J X _ 195 27 _ _ (ty (am_up M 120 58 (pz2 t n).2) (pz2 t n).1) N
        refine J_if_ne 32 (am_d195 rfl) rfl (fun h27 => ?_) (fun h27 => absurd h27 (by decide))
        refine J_b 4 am_d195 rfl ?_
        rw [show (ty (am_up M 120 58 (pz2 t n).2) (pz2 t n).1) 120 56 = nI S from hS]
        refine J_b 1 am_d195 rfl ?_
        refine J_b 1 am_d195 rfl ?_
        rw [show (ty (am_up M 120 58 (pz2 t n).2) (pz2 t n).1) 120 58 = (pz2 t n).2 from rfl]
        refine J_iast (am_d195 rfl) rfl (vp_in_nI (show S < 8 by omega) (by decide)) ?_
        rw [nI_c (n := S) (by omega)]
        refine J_mem (ty_up (by omega)) ?_
        refine J_b 4 am_d195 rfl ?_
        rw [show (ty (am_up (am_up M 120 58 (pz2 t n).2) 165 S (pz2 t n).2) (pz2 t n).1) 120 56 = nI S from hS]
        refine J_b 1 am_d195 rfl ?_
        refine J_iast (am_d195 rfl) rfl (vp_in_nI (show S < 8 by omega) (by decide)) ?_
        rw [nI_c (n := S) (by omega)]
        refine J_mem (ty_up (by omega)) ?_
        show am_J X _ 195 55 _ _ (ty (am_up (am_up (am_up M 120 58 (pz2 t n).2) 165 S (pz2 t n).2) 166 S 0) (pz2 t n).1) N
        have q57 : (ty (am_up (am_up (am_up M 120 58 (pz2 t n).2) 165 S (pz2 t n).2) 166 S 0) (pz2 t n).1) 120 57 = nI (pz2 t n).1 := ty_2
        have q55 : (ty (am_up (am_up (am_up M 120 58 (pz2 t n).2) 165 S (pz2 t n).2) 166 S 0) (pz2 t n).1) 120 55 = nI n := hn
        have l2 : (pz2 t n).1 ≤ n := nc_le _ _ _ l1
        by_cases he : (pz2 t n).1 = n
        · refine J_b 4 am_d195 rfl ?_
          refine J_icmp_ne 68 (am_d195 rfl) rfl (fun h63 => absurd (by rw [q57, q55, he]) h63) (fun h63 => ?_)
          refine J_b 1 am_d195 rfl ?_
          exact J_iret (am_d195 rfl) rfl rfl ⟨by unfold prz; rw [if_pos c1, if_pos c2, if_pos he]; rfl, (am_up (am_up (am_up M 120 58 (pz2 t n).2) 165 S (pz2 t n).2) 166 S 0), by unfold prz; rw [if_pos c1, if_pos c2, if_pos he], fy_up (fy_up (fy_58 fy_0) (.inl rfl)) (.inr rfl), fun q hq => by unfold prz at hq; rw [if_pos c1, if_pos c2, if_pos he] at hq; cases hq; exact ⟨(show (am_up (am_up M 120 58 (pz2 t n).2) 165 S (pz2 t n).2) 165 S = _ from up_r), up_r, fun j hj => absurd hj (by omega)⟩⟩
        · refine J_b 4 am_d195 rfl ?_
          refine J_icmp_ne 68 (am_d195 rfl) rfl (fun h63 => ?_) (fun h63 => (he (nI_inj (by omega) (by omega) (by rw [q57, q55] at h63; exact h63))).elim)
          by_cases s1 : sg t n 32 (pz2 t n).1
          · refine J_b 2 am_d195 rfl ?_
            refine J_V1s 199 (am_d195 rfl) rfl rfl (sp199t (b := 32) (M := (am_up (am_up (am_up M 120 58 (pz2 t n).2) 165 S (pz2 t n).2) 166 S 0)) (a := (pz2 t n).1) hn h120 ht l2 (by decide) s1) ?_
            refine J_if_eq 95 (am_d195 rfl) rfl (fun h74 => absurd h74 (by decide)) (fun h74 => ?_)
            refine J_b 3 am_d195 rfl ?_
            have kw := sp196 (X := X) (N := N) (M := (am_up (am_up (am_up M 120 58 (pz2 t n).2) 165 S (pz2 t n).2) 166 S 0)) (a := (pz2 t n).1 + 1) (f := 1) (T := 1) hn h120 ht s1.1 (by decide) (Nat.le_refl _)
            rw [show 1 + 1 - 1 = 1 from rfl, wr_1 (by decide)] at kw
            refine J_V2s 196 (am_d195 rfl) rfl rfl kw ?_
            show am_J X _ 195 83 _ (.int (if (q2_ t n (pz2 t n).1).2 = true then nI 1 else -1) :: _) (ty (am_up (am_up (am_up M 120 58 (pz2 t n).2) 165 S (pz2 t n).2) 166 S 0) (q2_ t n (pz2 t n).1).1) N
            refine J_if_lt 95 (am_d195 rfl) rfl (fun h83 => ?_) (fun h83 => ?_)
            · have b2 : ¬ (q2_ t n (pz2 t n).1).2 = true := fun z => absurd h83 (by rw [if_pos z]; decide)
              have e3 : pz3 t n = (q2_ t n (pz2 t n).1) := by unfold pz3; rw [pz3_e, if_pos s1, if_neg b2]
              have c3 : ¬ (pz3 t n).2 = true := by rw [e3]; exact b2
              refine J_b 1 am_d195 rfl ?_
              exact J_iret (am_d195 rfl) rfl rfl ⟨by unfold prz; rw [if_pos c1, if_pos c2, if_neg he, if_neg c3]; rfl, (am_up (am_up (am_up M 120 58 (pz2 t n).2) 165 S (pz2 t n).2) 166 S 0), by unfold prz; rw [if_pos c1, if_pos c2, if_neg he, if_neg c3]; rw [e3], fy_up (fy_up (fy_58 fy_0) (.inl rfl)) (.inr rfl), fun q hq => by unfold prz at hq; rw [if_pos c1, if_pos c2, if_neg he, if_neg c3] at hq; cases hq⟩
            · have b2 : (q2_ t n (pz2 t n).1).2 = true := Decidable.byContradiction (fun z => absurd h83 (by rw [if_neg z]; decide))
              by_cases s2 : sg t n 32 (q2_ t n (pz2 t n).1).1
              · refine J_b 2 am_d195 rfl ?_
                refine J_V1s 199 (am_d195 rfl) rfl rfl (sp199t (b := 32) (M := (am_up (am_up (am_up M 120 58 (pz2 t n).2) 165 S (pz2 t n).2) 166 S 0)) (a := (q2_ t n (pz2 t n).1).1) hn h120 ht (show (q2_ t n (pz2 t n).1).1 ≤ n from wd_le _ _ _ s1.1) (by decide) s2) ?_
                refine J_if_ne 97 (am_d195 rfl) rfl (fun h92 => ?_) (fun h92 => absurd h92 (by decide))
                have e3 : pz3 t n = ((q2_ t n (pz2 t n).1).1 + 1, true) := by unfold pz3; rw [pz3_e, if_pos s1, if_pos b2, if_pos s2]
                have c3 : (pz3 t n).2 = true := by rw [e3]
                have ep : prz t n = pzl t n := by unfold prz; rw [if_pos c1, if_pos c2, if_neg he, if_pos c3]
                rw [ep, show (q2_ t n (pz2 t n).1).1 + 1 = (pz3 t n).1 from by rw [e3]]
                exact lp195 (w := (pz2 t n).2) hn h120 ht hS h7 3 0 rfl (by decide) f0 (am_up (am_up (am_up M 120 58 (pz2 t n).2) 165 S (pz2 t n).2) 166 S 0) (fy_up (fy_up (fy_58 fy_0) (.inl rfl)) (.inr rfl)) (show (am_up (am_up M 120 58 (pz2 t n).2) 165 S (pz2 t n).2) 165 S = _ from up_r) up_r (fun j hj => absurd hj (by omega)) _ (wd_le _ _ _ l2) _
              · refine J_b 2 am_d195 rfl ?_
                refine J_V1s 199 (am_d195 rfl) rfl rfl (sp199f (b := 32) (M := (am_up (am_up (am_up M 120 58 (pz2 t n).2) 165 S (pz2 t n).2) 166 S 0)) (a := (q2_ t n (pz2 t n).1).1) hn h120 ht (show (q2_ t n (pz2 t n).1).1 ≤ n from wd_le _ _ _ s1.1) (by decide) s2) ?_
                refine J_if_ne 97 (am_d195 rfl) rfl (fun h92 => absurd rfl h92) (fun h92 => ?_)
                have e3 : pz3 t n = ((q2_ t n (pz2 t n).1).1, false) := by unfold pz3; rw [pz3_e, if_pos s1, if_pos b2, if_neg s2]
                have c3 : ¬ (pz3 t n).2 = true := by rw [e3]; exact fun z => absurd (show false = true from z) (by decide)
                refine J_b 1 am_d195 rfl ?_
                exact J_iret (am_d195 rfl) rfl rfl ⟨by unfold prz; rw [if_pos c1, if_pos c2, if_neg he, if_neg c3]; rfl, (am_up (am_up (am_up M 120 58 (pz2 t n).2) 165 S (pz2 t n).2) 166 S 0), by unfold prz; rw [if_pos c1, if_pos c2, if_neg he, if_neg c3]; rw [e3], fy_up (fy_up (fy_58 fy_0) (.inl rfl)) (.inr rfl), fun q hq => by unfold prz at hq; rw [if_pos c1, if_pos c2, if_neg he, if_neg c3] at hq; cases hq⟩
          · refine J_b 2 am_d195 rfl ?_
            refine J_V1s 199 (am_d195 rfl) rfl rfl (sp199f (b := 32) (M := (am_up (am_up (am_up M 120 58 (pz2 t n).2) 165 S (pz2 t n).2) 166 S 0)) (a := (pz2 t n).1) hn h120 ht l2 (by decide) s1) ?_
            refine J_if_eq 95 (am_d195 rfl) rfl (fun h74 => ?_) (fun h74 => absurd (rfl) h74)
            have e3 : pz3 t n = ((pz2 t n).1, false) := by unfold pz3; rw [pz3_e, if_neg s1]
            have c3 : ¬ (pz3 t n).2 = true := by rw [e3]; exact fun z => absurd (show false = true from z) (by decide)
            refine J_b 1 am_d195 rfl ?_
            exact J_iret (am_d195 rfl) rfl rfl ⟨by unfold prz; rw [if_pos c1, if_pos c2, if_neg he, if_neg c3]; rfl, (am_up (am_up (am_up M 120 58 (pz2 t n).2) 165 S (pz2 t n).2) 166 S 0), by unfold prz; rw [if_pos c1, if_pos c2, if_neg he, if_neg c3]; rw [e3], fy_up (fy_up (fy_58 fy_0) (.inl rfl)) (.inr rfl), fun q hq => by unfold prz at hq; rw [if_pos c1, if_pos c2, if_neg he, if_neg c3] at hq; cases hq⟩
      · have e2 : pz2 t n = ((pz1 t n).1, -1) := nc_ndg hd
        have c2 : ¬ 0 ≤ (pz2 t n).2 := by rw [e2]; show ¬ (0 : Int32) ≤ -1; decide
        refine J_b 1 am_d195 rfl ?_
        refine J_V0s 200 (am_d195 rfl) rfl rfl (sp200f (M := M) (a := (pz1 t n).1) hn h120 ht l1 hd) ?_
        refine J_if_ne 32 (am_d195 rfl) rfl (fun h27 => absurd rfl h27) (fun h27 => ?_)
        refine J_b 1 am_d195 rfl ?_
        exact J_iret (am_d195 rfl) rfl rfl ⟨by unfold prz; rw [if_pos c1, if_neg c2]; rfl, M, by unfold prz; rw [if_pos c1, if_neg c2]; rw [e2], fy_0, fun q hq => by unfold prz at hq; rw [if_pos c1, if_neg c2] at hq; cases hq⟩
    · refine J_b 2 am_d195 rfl ?_
      refine J_V1s 199 (am_d195 rfl) rfl rfl (sp199f (b := 32) (M := M) (a := (q1_ t n).1) hn h120 ht (show (q1_ t n).1 ≤ n from wd_le _ _ _ (Nat.zero_le _)) (by decide) hs) ?_
      refine J_if_eq 30 (am_d195 rfl) rfl (fun h20 => ?_) (fun h20 => absurd (rfl) h20)
      have e1 : pz1 t n = ((q1_ t n).1, false) := by rw [pz1_e, if_pos b1, if_neg hs]
      have c1 : ¬ (pz1 t n).2 = true := by rw [e1]; exact fun z => absurd (show false = true from z) (by decide)
      refine J_b 1 am_d195 rfl ?_
      exact J_iret (am_d195 rfl) rfl rfl ⟨by unfold prz; rw [if_neg c1]; rfl, M, by unfold prz; rw [if_neg c1]; rw [e1], fy_0, fun q hq => by unfold prz at hq; rw [if_neg c1] at hq; cases hq⟩
theorem sp194d {X : am_X} {M : am_M} {N : am_N} (g : M 120 56 = 8) : am_J X (am_eq (some (.int (-4))) M N) 194 0 (am_en 194 [.ref 120]) [] M N := by
  refine J_en (L := [.ref 120, .retAddr 0]) rfl ?_
  refine J_b 3 am_d194 rfl ?_
  refine J_icmp_ne 12 (am_d194 rfl) rfl (fun h6 => absurd g h6) (fun h6 => ?_)
  refine J_b 1 am_d194 rfl ?_
  exact J_iret (am_d194 rfl) rfl rfl ⟨rfl, rfl, rfl⟩
theorem nI_n8 {S : Nat} (h : S ≤ 7) : ¬ nI S = (Int8.ofInt 8).toInt32 := fun z => absurd (nI_inj (by omega) (by decide) (show nI S = nI 8 from z)) (by omega)
theorem sp194a {X : am_X} {M : am_M} {N : am_N} {n S : Nat} {t : Nat → Int32} (hn : M 120 55 = nI n) (h120 : n ≤ 120) (ht : M 164 = t) (hS : M 120 56 = nI S) (h7 : S ≤ 7) (hp : (prz t n).2 = none) : am_J X (q_p (some (.int ((Int8.ofInt (-10)).toInt32 - nI (prz t n).1))) (fun M2 _ => ∃ M3 e, fy M M3 S ∧ M2 = am_up (ty M3 e) 120 55 0)) 194 0 (am_en 194 [.ref 120]) [] M N := by
  refine J_en (L := [.ref 120, .retAddr 0]) rfl ?_
  refine J_b 3 am_d194 rfl ?_
  refine J_icmp_ne 12 (am_d194 rfl) rfl (fun h6 => ?_) (fun h6 => absurd (by rw [hS] at h6; exact h6) (nI_n8 h7))
  refine J_b 1 am_d194 rfl ?_
  have k1 := sp195 (X := X) (N := N) (M := M) hn h120 ht hS h7
  refine J_V0sp 195 (am_d194 rfl) rfl rfl k1 (fun M2 N2 hq => ?_)
  obtain ⟨M3, rfl, hz, hq⟩ := hq
  refine J_b 3 am_d194 rfl ?_
  refine J_puti (am_d194 rfl) rfl ?_
  refine J_b 1 am_d194 rfl ?_
  refine J_if_ne 34 (am_d194 rfl) rfl (fun h23 => absurd (show am_bi ((none : Option (Nat × (Nat → tT))).isSome = true) = 0 from rfl) (by rw [hp] at h23; exact h23)) (fun h23 => ?_)
  refine J_b 4 am_d194 rfl ?_
  exact J_iret (am_d194 rfl) rfl rfl ⟨rfl, M3, _, hz, rfl⟩
theorem nI_m1s (S : Nat) : nI (S + 1) - Int32.ofInt 1 = nI S := by
  rw [← nI_1 S]
  exact Int32.add_sub_cancel ..
theorem sp194b {X : am_X} {M : am_M} {N : am_N} {n S : Nat} {t : Nat → Int32} (hn : M 120 55 = nI n) (h120 : n ≤ 120) (ht : M 164 = t) (hS : M 120 56 = nI S) (h7 : S ≤ 7) {q : Nat × (Nat → tT)} (hp : (prz t n).2 = some q) : am_J X (q_p (some (.int (nI S))) (fun M2 _ => ∃ M3 e, fy M M3 S ∧ M2 = am_up (am_up (ty M3 e) 120 55 0) 120 56 (nI (S + 1)) ∧ M3 165 S = (pz2 t n).2 ∧ M3 166 S = nI q.1 ∧ ru M3 S q.1 q.2)) 194 0 (am_en 194 [.ref 120]) [] M N := by
  refine J_en (L := [.ref 120, .retAddr 0]) rfl ?_
  refine J_b 3 am_d194 rfl ?_
  refine J_icmp_ne 12 (am_d194 rfl) rfl (fun h6 => ?_) (fun h6 => absurd (by rw [hS] at h6; exact h6) (nI_n8 h7))
  refine J_b 1 am_d194 rfl ?_
  have k1 := sp195 (X := X) (N := N) (M := M) hn h120 ht hS h7
  refine J_V0sp 195 (am_d194 rfl) rfl rfl k1 (fun M2 N2 hq => ?_)
  obtain ⟨M3, rfl, hz, hq⟩ := hq
  obtain ⟨v1, v2, v3⟩ := hq q hp
  refine J_b 3 am_d194 rfl ?_
  refine J_puti (am_d194 rfl) rfl ?_
  refine J_b 1 am_d194 rfl ?_
  refine J_if_ne 34 (am_d194 rfl) rfl (fun h23 => ?_) (fun h23 => (am_bi0 (P := (some q).isSome = true)).mp (by rw [hp] at h23; exact h23) rfl |>.elim)
  refine J_b 5 am_d194 rfl ?_
  rw [show (am_up (ty M3 (prz t n).1) 120 55 (Int32.ofInt 0)) 120 56 = nI S from (hz 120 56 (by omega) (by omega) (by omega)).trans hS]
  refine J_puti (am_d194 rfl) rfl ?_
  rw [show nI S + Int32.ofInt 1 = nI (S + 1) from nI_1 S]
  refine J_b 4 am_d194 rfl ?_
  exact J_iret (am_d194 rfl) rfl rfl ⟨congrArg (fun z => some (Value.int z)) (show nI (S + 1) - Int32.ofInt 1 = nI S from nI_m1s S), M3, _, hz, rfl, v1, v2, v3⟩
