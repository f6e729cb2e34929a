/-! ===== prizes: a whole text; the class ===== -/
def sf (f : Nat → tT) (i : Nat) (v : tT) : Nat → tT := fun j => if j = i then v else f j
def lo (t : Nat → Int32) (n : Nat) : Nat → Nat → (Nat → tT) → Nat → Nat × Option (Nat × (Nat → tT))
  | 0, _, _, a => (a, none)
  | m + 1, i, f, a => if tsk t n a then (if tse t n a = n then (tse t n a, some (i + 1, sf f i (tsv t n a))) else if ¬ m = 0 ∧ sg t n 38 (tse t n a) then lo t n m (i + 1) (sf f i (tsv t n a)) (tse t n a + 1) else (tse t n a, none)) else (tse t n a, none)
def pz1 (t : Nat → Int32) (n : Nat) : Nat × Bool := wd t n (tx 0) (tl 0) 0 0
def pz2 (t : Nat → Int32) (n : Nat) : Nat × Int32 := nc t n 4 (pz1 t n).1 (-1)
def pz3 (t : Nat → Int32) (n : Nat) : Nat × Bool := wd t n (tx 1) (tl 1) 0 (pz2 t n).1
def f0 : Nat → tT := fun _ => (0, 0, 0, 0)
def pzl (t : Nat → Int32) (n : Nat) : Nat × Option (Nat × (Nat → tT)) := lo t n 3 0 f0 (pz3 t n).1
/-- where reading comes to an end; the tests, if it is a prize -/
def prz (t : Nat → Int32) (n : Nat) : Nat × Option (Nat × (Nat → tT)) := if (pz1 t n).2 = true then (if 0 ≤ (pz2 t n).2 then (if (pz2 t n).1 = n then ((pz2 t n).1, some (0, f0)) else if (pz3 t n).2 = true then pzl t n else ((pz3 t n).1, none)) else ((pz2 t n).1, none)) else ((pz1 t n).1, none)
/-- only the places of prize S have changed -/
def fz (M M' : am_M) (S : Nat) : Prop := ∀ r j, ¬ ((r = 113 ∨ r = 114) ∧ j = S) → ¬ ((115 ≤ r ∧ r ≤ 118) ∧ 3 * S ≤ j ∧ j < 3 * S + 3) → M' r j = M r j
theorem fz_0 {M : am_M} {S : Nat} : fz M M S := fun _ _ _ _ => rfl
theorem fz_up {M M' : am_M} {S r : Nat} {v : Int32} (h : fz M M' S) (hr : r = 113 ∨ r = 114) : fz M (am_up M' r S v) S := by
  intro r' j' h1 h2
  rw [← h r' j' h1 h2]
  unfold am_up
  split
  · split
    · rename_i e1 e2
      exact absurd ⟨by omega, e2⟩ h1
    · rfl
  · rfl
theorem fz_fr {M M' M3 : am_M} {S k : Nat} (h : fz M M' S) (h2 : fr M' M3 k) (hk : 3 * S ≤ k ∧ k < 3 * S + 3) : fz M M3 S := by
  intro r' j' g1 g2
  rw [h2 r' j' (fun z => g2 ⟨z.1, by omega⟩), h r' j' g1 g2]
theorem fz_r {M M' : am_M} {S r : Nat} (h : fz M M' S) (hr : r < 113 ∨ 118 < r) : M' r = M r := funext fun j => h r j (by omega) (by omega)
/-- the tests that have been read -/
def rt (M : am_M) (S i : Nat) (f : Nat → tT) : Prop := ∀ j, j < i → M 115 (3 * S + j) = (f j).1 ∧ M 116 (3 * S + j) = (f j).2.1 ∧ M 117 (3 * S + j) = (f j).2.2.1 ∧ M 118 (3 * S + j) = (f j).2.2.2
theorem rt_s {M M3 : am_M} {S i : Nat} {f : Nat → tT} {v : tT} (h : rt M S i f) (hf : fr M M3 (3 * S + i)) (h1 : M3 115 (3 * S + i) = v.1) (h2 : M3 116 (3 * S + i) = v.2.1) (h3 : M3 117 (3 * S + i) = v.2.2.1) (h4 : M3 118 (3 * S + i) = v.2.2.2) : rt M3 S (i + 1) (sf f i v) := by
  intro j hj
  unfold sf
  by_cases e : j = i
  · subst e
    rw [if_pos rfl]
    exact ⟨h1, h2, h3, h4⟩
  · rw [if_neg e, hf 115 _ (by omega), hf 116 _ (by omega), hf 117 _ (by omega), hf 118 _ (by omega)]
    exact h j (by omega)
theorem rt_up {M : am_M} {S i r : Nat} {f : Nat → tT} {v : Int32} (h : rt M S i f) (hr : r = 113 ∨ r = 114) : rt (am_up M r S v) S i f := by
  intro j hj
  rw [up_n (by omega), up_n (by omega), up_n (by omega), up_n (by omega)]
  exact h j hj
theorem slot3 {S i : Nat} : nI S * 3 + nI i = nI (3 * S + i) := by
  rw [show (3 : Int32) = nI 3 from rfl, nI_mul, nI_add, Nat.mul_comm]
theorem lo_n {t : Nat → Int32} {n m i a : Nat} {f : Nat → tT} (h : ¬ tsk t n a) : lo t n (m + 1) i f a = (tse t n a, none) := by rw [lo, if_neg h]
theorem lo_e {t : Nat → Int32} {n m i a : Nat} {f : Nat → tT} (h : tsk t n a) (he : tse t n a = n) : lo t n (m + 1) i f a = (tse t n a, some (i + 1, sf f i (tsv t n a))) := by rw [lo, if_pos h, if_pos he]
theorem lo_f {t : Nat → Int32} {n m i a : Nat} {f : Nat → tT} (h : tsk t n a) (he : ¬ tse t n a = n) (h3 : ¬ (¬ m = 0 ∧ sg t n 38 (tse t n a))) : lo t n (m + 1) i f a = (tse t n a, none) := by rw [lo, if_pos h, if_neg he, if_neg h3]
theorem lo_g {t : Nat → Int32} {n m i a : Nat} {f : Nat → tT} (h : tsk t n a) (he : ¬ tse t n a = n) (h3 : ¬ m = 0 ∧ sg t n 38 (tse t n a)) : lo t n (m + 1) i f a = lo t n m (i + 1) (sf f i (tsv t n a)) (tse t n a + 1) := by rw [lo, if_pos h, if_neg he, if_pos h3]
theorem I_n2 {i : Nat} (h : i < 2) : ¬ nI i = Int32.ofInt 2 := by
  intro z
  have := congrArg Int32.toInt z
  rw [nI_i (by omega)] at this
  have e : (Int32.ofInt 2).toInt = 2 := rfl
  omega
theorem lp107 {X : am_X} {M : am_M} {n S : Nat} {t : Nat → Int32} {w : Int32} (hn : M 110 1 = nI n) (h120 : n ≤ 120) (ht : M 111 = t) (hS : M 112 7 = nI S) (h7 : S ≤ 7) : ∀ (m i : Nat), i + m = 3 → ∀ (x : Int32), x = nI i → ∀ (f : Nat → tT) (M1 : am_M), fz M M1 S → M1 113 S = w → M1 114 S = nI i → rt M1 S i f → ∀ (a : Nat), a ≤ n → ∀ (N : am_N), am_J X (q_p (some (.int (am_bi ((lo t n m i f a).2.isSome = true)))) (fun M2 _ => ∃ M3, M2 = tp M3 (lo t n m i f a).1 ∧ fz M M3 S ∧ ∀ q, (lo t n m i f a).2 = some q → M3 113 S = w ∧ M3 114 S = nI q.1 ∧ rt M3 S q.1 q.2)) 107 70 [.ref 112, .ref 110, .int x] [] (tp M1 a) N := by
  intro m
  induction m with
  | zero =>
    intro i hi x ex f M1 hz h113 h114 hrt a ha N
    subst ex
    have hge : Int32.ofInt 3 ≤ nI i := by rw [show i = 3 by omega]; exact Int32.le_refl _
    refine J_b 2 am_d107 rfl ?_
    refine J_icmp_ge 137 (am_d107 rfl) rfl (fun h72 => ?_) (fun h72 => absurd (hge) h72)
    refine J_b 1 am_d107 rfl ?_
    exact J_iret (am_d107 rfl) rfl rfl ⟨rfl, M1, rfl, hz, fun q hq => by cases hq⟩
  | succ m ih =>
    intro i hi x ex f M1 hz h113 h114 hrt a ha N
    subst ex
    have e1 : M1 110 1 = nI n := (hz 110 1 (by omega) (by omega)).trans hn
    have e111 : M1 111 = t := (fz_r hz (by omega)).trans ht
    have e7 : (tp M1 a) 112 7 = nI S := (hz 112 7 (by omega) (by omega)).trans hS
    refine J_b 2 am_d107 rfl ?_
    refine J_icmp_ge 137 (am_d107 rfl) rfl (fun h72 => absurd h72 (nI_ngt (b := 3) (by omega) (by decide))) (fun h72 => ?_)
    refine J_b 8 am_d107 rfl ?_
    have e3 := slot3 (S := S) (i := i)
    rw [e7, show nI S * Int32.ofInt 3 + nI i = nI (3 * S + i) from slot3]
    have q1 := sp120 (X := X) (M := M1) (N := N) (n := n) (a := a) (k := 3 * S + i) e1 h120 ha (by omega)
    rw [e111] at q1
    refine J_V2sp 120 (am_d107 rfl) rfl rfl q1 (fun M2 N2 hq => ?_)
    obtain ⟨M3, rfl, hfr, hv⟩ := hq
    refine J_if_ne 93 (am_d107 rfl) rfl (fun h88 => ?_) (fun h88 => ?_)
    · have hz3 := fz_fr hz hfr (by omega)
      have i7 : (tp M3 (tse t n a)) 112 7 = nI S := (hz3 112 7 (by omega) (by omega)).trans hS
      have i114 : (tp M3 (tse t n a)) 114 S = nI i := (hfr 114 S (by omega)).trans h114
      have hsk : tsk t n a := am_bi1.mp h88
      obtain ⟨v1, v2, v3, v4⟩ := hv hsk
      have hrt3 := rt_up (v := nI (i + 1)) (rt_s (v := tsv t n a) hrt hfr v1 v2 v3 v4) (.inr rfl : (114 : Nat) = 113 ∨ (114 : Nat) = 114)
      have hz4 : fz M (am_up M3 114 S (nI (i + 1))) S := fz_up hz3 (.inr rfl)
      have h113' : (am_up M3 114 S (nI (i + 1))) 113 S = w := (hfr 113 S (by omega)).trans h113
      have e1' : (am_up M3 114 S (nI (i + 1))) 110 1 = nI n := (hz3 110 1 (by omega) (by omega)).trans hn
      have e111' : (am_up M3 114 S (nI (i + 1))) 111 = t := (fz_r hz4 (by omega)).trans ht
      have hle := tse_le (t := t) (n := n) (a := a) ha
      refine J_b 5 am_d107 rfl ?_
      rw [i7]
      refine J_iald (am_d107 rfl) rfl (vp_in_nI (show S < 8 by omega) (by decide)) ?_
      rw [nI_c (n := S) (by omega), i114]
      refine J_b 2 am_d107 rfl ?_
      refine J_iast (am_d107 rfl) rfl (vp_in_nI (show S < 8 by omega) (by decide)) ?_
      rw [nI_c (n := S) (by omega), show nI i + Int32.ofInt 1 = nI (i + 1) from nI_1 i]
      refine J_mem (tp_up (show (114 : Nat) ≠ 110 by decide)) ?_
      by_cases he : tse t n a = n
      · refine J_b 1 am_d107 rfl ?_
        refine J_V0s 119 (am_d107 rfl) rfl rfl (sp119t e1' h120 hle he) ?_
        refine J_if_eq 115 (am_d107 rfl) rfl (fun h110 => absurd h110 (by decide)) (fun h110 => ?_)
        refine J_b 1 am_d107 rfl ?_
        exact J_iret (am_d107 rfl) rfl rfl ⟨by rw [lo_e hsk he]; rfl, _, by rw [lo_e hsk he], hz4, fun q hq => by rw [lo_e hsk he] at hq; cases hq; exact ⟨h113', up_r, hrt3⟩⟩
      · refine J_b 1 am_d107 rfl ?_
        refine J_V0s 119 (am_d107 rfl) rfl rfl (sp119f e1' h120 hle he) ?_
        refine J_if_eq 115 (am_d107 rfl) rfl (fun h110 => ?_) (fun h110 => absurd (rfl) h110)
        by_cases hm0 : m = 0
        · refine J_b 2 am_d107 rfl ?_
          refine J_icmp_eq 129 (am_d107 rfl) rfl (fun h117 => ?_) (fun h117 => absurd (by rw [show i = 2 by omega]; rfl) h117)
          refine J_b 1 am_d107 rfl ?_
          exact J_iret (am_d107 rfl) rfl rfl ⟨by rw [lo_f hsk he (fun z => z.1 hm0)]; rfl, _, by rw [lo_f hsk he (fun z => z.1 hm0)], hz4, fun q hq => by rw [lo_f hsk he (fun z => z.1 hm0)] at hq; cases hq⟩
        · by_cases hs : sg t n 38 (tse t n a)
          · refine J_b 2 am_d107 rfl ?_
            refine J_icmp_eq 129 (am_d107 rfl) rfl (fun h117 => absurd h117 (I_n2 (show i < 2 by omega))) (fun h117 => ?_)
            refine J_b 2 am_d107 rfl ?_
            have kt := sp116t (X := X) (N := N2) (b := 38) (M := am_up M3 114 S (nI (i + 1))) (a := tse t n a) e1' h120 hle (by rw [e111']; exact hs)
            refine J_V1s 116 (am_d107 rfl) rfl rfl kt ?_
            refine J_if_ne 131 (am_d107 rfl) rfl (fun h126 => ?_) (fun h126 => absurd h126 (by decide))
            refine J_b 2 am_d107 rfl ?_
            rw [lo_g hsk he ⟨hm0, hs⟩]
            exact ih (i + 1) (by omega) _ (nI_1 i) _ _ hz4 h113' up_r hrt3 _ hs.1 _
          · refine J_b 2 am_d107 rfl ?_
            refine J_icmp_eq 129 (am_d107 rfl) rfl (fun h117 => absurd h117 (I_n2 (show i < 2 by omega))) (fun h117 => ?_)
            refine J_b 2 am_d107 rfl ?_
            have kt := sp116f (X := X) (N := N2) (b := 38) (M := am_up M3 114 S (nI (i + 1))) (a := tse t n a) e1' h120 hle (by rw [e111']; exact hs)
            refine J_V1s 116 (am_d107 rfl) rfl rfl kt ?_
            refine J_if_ne 131 (am_d107 rfl) rfl (fun h126 => absurd rfl h126) (fun h126 => ?_)
            refine J_b 1 am_d107 rfl ?_
            exact J_iret (am_d107 rfl) rfl rfl ⟨by rw [lo_f hsk he (fun z => hs z.2)]; rfl, _, by rw [lo_f hsk he (fun z => hs z.2)], hz4, fun q hq => by rw [lo_f hsk he (fun z => hs z.2)] at hq; cases hq⟩
    · refine J_b 1 am_d107 rfl ?_
      exact J_iret (am_d107 rfl) rfl rfl ⟨by rw [lo_n (am_bi0.mp h88)]; rfl, M3, by rw [lo_n (am_bi0.mp h88)], fz_fr hz hfr (by omega), fun q hq => by rw [lo_n (am_bi0.mp h88)] at hq; cases hq⟩
theorem sp107 {X : am_X} {M : am_M} {N : am_N} {n S : Nat} {t : Nat → Int32} (hn : M 110 1 = nI n) (h120 : n ≤ 120) (ht : M 111 = t) (hS : M 112 7 = nI S) (h7 : S ≤ 7) : am_J X (q_p (some (.int (am_bi ((prz t n).2.isSome = true)))) (fun M2 _ => ∃ M3, M2 = tp M3 (prz t n).1 ∧ fz M M3 S ∧ ∀ q, (prz t n).2 = some q → M3 113 S = (pz2 t n).2 ∧ M3 114 S = nI q.1 ∧ rt M3 S q.1 q.2)) 107 0 (am_en 107 [.ref 112, .ref 110]) [] (tp M 0) N := by
  refine J_en (L := [.ref 112, .ref 110, .retAddr 0]) rfl ?_
  refine J_b 4 am_d107 rfl ?_
  rw [show (tp M 0) 112 7 = nI S from hS]
  refine J_b 1 am_d107 rfl ?_
  refine J_iast (am_d107 rfl) rfl (vp_in_nI (show S < 8 by omega) (by decide)) ?_
  rw [nI_c (n := S) (by omega)]
  refine J_mem (tp_up (show (114 : Nat) ≠ 110 by decide)) ?_
  show am_J X _ 107 10 _ _ (tp (am_up M 114 S 0) 0) N
  refine J_b 1 am_d107 rfl ?_
  refine J_ldS (n := 0) rfl (by decide) rfl (am_d107 rfl) ?_
  have k1 := sp108 (X := X) (N := N) (M := (am_up M 114 S 0)) (s := 0) (a := 0) hn h120 (by decide) (by omega)
  refine J_V1s 108 (am_d107 rfl) rfl rfl k1 ?_
  show am_J X _ 107 16 _ (.int (am_bi ((pz1 (M 111) n).2 = true)) :: _) (tp (am_up M 114 S 0) (pz1 (M 111) n).1) N
  rw [ht]
  refine J_if_ne 21 (am_d107 rfl) rfl (fun h16 => ?_) (fun h16 => ?_)
  · refine J_b 4 am_d107 rfl ?_
    rw [show (tp (am_up M 114 S 0) (pz1 t n).1) 112 7 = nI S from hS]
    refine J_b 1 am_d107 rfl ?_
    have k2 := sp118 (X := X) (N := N) (M := (am_up M 114 S 0)) (a := (pz1 t n).1) hn h120 (wd_le _ _ _ (by omega))
    refine J_V0s 118 (am_d107 rfl) rfl rfl k2 ?_
    rw [show ((am_up M 114 S 0)) 111 = t from ht]
    show am_J X _ 107 33 _ (.int (pz2 t n).2 :: _) (tp (am_up M 114 S 0) (pz2 t n).1) N
    refine J_iast (am_d107 rfl) rfl (vp_in_nI (show S < 8 by omega) (by decide)) ?_
    rw [nI_c (n := S) (by omega)]
    refine J_mem (tp_up (show (113 : Nat) ≠ 110 by decide)) ?_
    refine J_b 4 am_d107 rfl ?_
    rw [show (tp (am_up (am_up M 114 S 0) 113 S (pz2 t n).2) (pz2 t n).1) 112 7 = nI S from hS]
    refine J_iald (am_d107 rfl) rfl (vp_in_nI (show S < 8 by omega) (by decide)) ?_
    rw [nI_c (n := S) (by omega), tp_n (show (113 : Nat) ≠ 110 by decide), up_r]
    refine J_if_ge 48 (am_d107 rfl) rfl (fun h43 => ?_) (fun h43 => ?_)
    · by_cases he : (pz2 t n).1 = n
      · refine J_b 1 am_d107 rfl ?_
        refine J_V0s 119 (am_d107 rfl) rfl rfl (sp119t (M := (am_up (am_up M 114 S 0) 113 S (pz2 t n).2)) (a := (pz2 t n).1) hn h120 (nc_le _ _ _ (wd_le _ _ _ (by omega))) he) ?_
        refine J_if_eq 57 (am_d107 rfl) rfl (fun h52 => absurd h52 (by decide)) (fun h52 => ?_)
        refine J_b 1 am_d107 rfl ?_
        exact J_iret (am_d107 rfl) rfl rfl ⟨by unfold prz; rw [if_pos (bf_1 h16), if_pos h43, if_pos he]; rfl, (am_up (am_up M 114 S 0) 113 S (pz2 t n).2), by unfold prz; rw [if_pos (bf_1 h16), if_pos h43, if_pos he], fz_up (fz_up fz_0 (.inr rfl)) (.inl rfl), fun q hq => by unfold prz at hq; rw [if_pos (bf_1 h16), if_pos h43, if_pos he] at hq; cases hq; exact ⟨up_r, (show (am_up M 114 S 0) 114 S = 0 from up_r), fun j hj => absurd hj (by omega)⟩⟩
      · refine J_b 1 am_d107 rfl ?_
        refine J_V0s 119 (am_d107 rfl) rfl rfl (sp119f (M := (am_up (am_up M 114 S 0) 113 S (pz2 t n).2)) (a := (pz2 t n).1) hn h120 (nc_le _ _ _ (wd_le _ _ _ (by omega))) he) ?_
        refine J_if_eq 57 (am_d107 rfl) rfl (fun h52 => ?_) (fun h52 => absurd (rfl) h52)
        refine J_b 1 am_d107 rfl ?_
        refine J_ldS (n := 1) rfl (by decide) rfl (am_d107 rfl) ?_
        have k3 := sp108 (X := X) (N := N) (M := (am_up (am_up M 114 S 0) 113 S (pz2 t n).2)) (s := 1) (a := (pz2 t n).1) hn h120 (by decide) (nc_le _ _ _ (wd_le _ _ _ (by omega)))
        rw [show ((am_up (am_up M 114 S 0) 113 S (pz2 t n).2)) 111 = t from ht] at k3
        refine J_V1s 108 (am_d107 rfl) rfl rfl k3 ?_
        show am_J X _ 107 63 _ (.int (am_bi ((pz3 t n).2 = true)) :: _) (tp (am_up (am_up M 114 S 0) 113 S (pz2 t n).2) (pz3 t n).1) N
        refine J_if_ne 68 (am_d107 rfl) rfl (fun h63 => ?_) (fun h63 => ?_)
        · have ep : prz t n = pzl t n := by unfold prz; rw [if_pos (bf_1 h16), if_pos h43, if_neg he, if_pos (bf_1 h63)]
          rw [ep]
          refine J_b 2 am_d107 rfl ?_
          exact lp107 (w := (pz2 t n).2) hn h120 ht hS h7 3 0 rfl _ rfl f0 (am_up (am_up M 114 S 0) 113 S (pz2 t n).2) (fz_up (fz_up fz_0 (.inr rfl)) (.inl rfl)) up_r (show (am_up M 114 S 0) 114 S = 0 from up_r) (fun j hj => absurd hj (by omega)) _ (wd_le _ _ _ (nc_le _ _ _ (wd_le _ _ _ (by omega)))) _
        · refine J_b 1 am_d107 rfl ?_
          exact J_iret (am_d107 rfl) rfl rfl ⟨by unfold prz; rw [if_pos (bf_1 h16), if_pos h43, if_neg he, if_neg (bf_0 h63)]; rfl, (am_up (am_up M 114 S 0) 113 S (pz2 t n).2), by unfold prz; rw [if_pos (bf_1 h16), if_pos h43, if_neg he, if_neg (bf_0 h63)], fz_up (fz_up fz_0 (.inr rfl)) (.inl rfl), fun q hq => by unfold prz at hq; rw [if_pos (bf_1 h16), if_pos h43, if_neg he, if_neg (bf_0 h63)] at hq; cases hq⟩
    · refine J_b 1 am_d107 rfl ?_
      exact J_iret (am_d107 rfl) rfl rfl ⟨by unfold prz; rw [if_pos (bf_1 h16), if_neg h43]; rfl, (am_up (am_up M 114 S 0) 113 S (pz2 t n).2), by unfold prz; rw [if_pos (bf_1 h16), if_neg h43], fz_up (fz_up fz_0 (.inr rfl)) (.inl rfl), fun q hq => by unfold prz at hq; rw [if_pos (bf_1 h16), if_neg h43] at hq; cases hq⟩
  · refine J_b 1 am_d107 rfl ?_
    exact J_iret (am_d107 rfl) rfl rfl ⟨by unfold prz; rw [if_neg (bf_0 h16)]; rfl, (am_up M 114 S 0), by unfold prz; rw [if_neg (bf_0 h16)], fz_up fz_0 (.inr rfl), fun q hq => by unfold prz at hq; rw [if_neg (bf_0 h16)] at hq; cases hq⟩
/-- the tape is empty again -/
def te (M : am_M) : am_M := am_up (am_up M 110 1 0) 110 2 0
theorem te_tp {M : am_M} {a : Nat} : te (tp M a) = te M := by
  unfold te tp
  funext r j
  unfold am_up
  by_cases h1 : r = 110
  · by_cases h2 : j = 2
    · simp [h1, h2]
    · simp [h1, h2]
  · simp [h1]
theorem sp123 {X : am_X} {M : am_M} {N : am_N}  : am_J X (am_eq (none) (te M) N) 123 0 (am_en 123 [.ref 110]) [] M N := by
  refine J_en (L := [.ref 110]) rfl ?_
  refine J_b 2 am_d123 rfl ?_
  refine J_puti (am_d123 rfl) rfl ?_
  refine J_b 2 am_d123 rfl ?_
  refine J_puti (am_d123 rfl) rfl ?_
  exact J_ret (am_d123 rfl) rfl ⟨rfl, rfl, rfl⟩
theorem sp124 {X : am_X} {M : am_M} {N : am_N} {S : Nat} (hS : M 112 7 = nI S) : am_J X (am_eq (some (.int (nI S))) (am_up M 112 7 (nI (S + 1))) N) 124 0 (am_en 124 [.ref 112]) [] M N := by
  refine J_en (L := [.ref 112]) rfl ?_
  refine J_b 6 am_d124 rfl ?_
  rw [hS]
  refine J_puti (am_d124 rfl) rfl ?_
  rw [show nI S + Int32.ofInt 1 = nI (S + 1) from nI_1 S]
  exact J_iret (am_d124 rfl) rfl rfl ⟨rfl, rfl, rfl⟩
theorem sp106d {X : am_X} {M : am_M} {N : am_N} (g : M 112 7 = 8) : am_J X (am_eq (some (.int (-4))) M N) 106 0 (am_en 106 [.ref 0]) [] M N := by
  refine J_en (L := [.ref 0, .retAddr 0, .retAddr 0]) rfl ?_
  refine J_b 4 am_d106 rfl ?_
  refine J_icmp_lt 15 (am_d106 rfl) rfl (fun h9 => absurd h9 (by rw [g]; decide)) (fun h9 => ?_)
  refine J_b 1 am_d106 rfl ?_
  exact J_iret (am_d106 rfl) rfl rfl ⟨rfl, rfl, rfl⟩
theorem nI_lt8 {S : Nat} (h : S ≤ 7) : nI S < (Int8.ofInt 8).toInt32 := by
  rw [Int32.lt_iff_toInt_lt, nI_i (by omega)]
  show (S : Int) < 8
  omega
theorem sp106a {X : am_X} {M : am_M} {N : am_N} {n S : Nat} {t : Nat → Int32} (hn : M 110 1 = nI n) (h120 : n ≤ 120) (ht : M 111 = t) (hS : M 112 7 = nI S) (h7 : S ≤ 7) (h2 : M 110 2 = 0) (hp : (prz t n).2 = none) : am_J X (q_p (some (.int ((Int8.ofInt (-10)).toInt32 - nI (prz t n).1))) (fun M2 _ => ∃ M3, fz M M3 S ∧ M2 = te M3)) 106 0 (am_en 106 [.ref 0]) [] M N := by
  refine J_en (L := [.ref 0, .retAddr 0, .retAddr 0]) rfl ?_
  refine J_b 4 am_d106 rfl ?_
  refine J_icmp_lt 15 (am_d106 rfl) rfl (fun h9 => ?_) (fun h9 => absurd (by rw [hS]; exact nI_lt8 h7) h9)
  refine J_b 4 am_d106 rfl ?_
  refine J_mem (tp_0 h2) ?_
  have k1 := sp107 (X := X) (N := N) (M := M) hn h120 ht hS h7
  refine J_V1sp 107 (am_d106 rfl) rfl rfl k1 (fun M2 N2 hq => ?_)
  obtain ⟨M3, rfl, hz, hq⟩ := hq
  refine J_b 7 am_d106 rfl ?_
  refine J_V0n 123 (am_d106 rfl) rfl rfl sp123 ?_
  refine J_mem te_tp ?_
  refine J_b 1 am_d106 rfl ?_
  refine J_if_eq 56 (am_d106 rfl) rfl (fun h43 => ?_) (fun h43 => absurd h43 (by rw [hp]; decide))
  refine J_b 3 am_d106 rfl ?_
  exact J_iret (am_d106 rfl) rfl rfl ⟨rfl, M3, hz, rfl⟩
theorem sp106b {X : am_X} {M : am_M} {N : am_N} {n S : Nat} {t : Nat → Int32} (hn : M 110 1 = nI n) (h120 : n ≤ 120) (ht : M 111 = t) (hS : M 112 7 = nI S) (h7 : S ≤ 7) (h2 : M 110 2 = 0) {q : Nat × (Nat → tT)} (hp : (prz t n).2 = some q) : am_J X (q_p (some (.int (nI S))) (fun M2 _ => ∃ M3, fz M M3 S ∧ M2 = am_up (te M3) 112 7 (nI (S + 1)) ∧ M3 113 S = (pz2 t n).2 ∧ M3 114 S = nI q.1 ∧ rt M3 S q.1 q.2)) 106 0 (am_en 106 [.ref 0]) [] M N := by
  refine J_en (L := [.ref 0, .retAddr 0, .retAddr 0]) rfl ?_
  refine J_b 4 am_d106 rfl ?_
  refine J_icmp_lt 15 (am_d106 rfl) rfl (fun h9 => ?_) (fun h9 => absurd (by rw [hS]; exact nI_lt8 h7) h9)
  refine J_b 4 am_d106 rfl ?_
  refine J_mem (tp_0 h2) ?_
  have k1 := sp107 (X := X) (N := N) (M := M) hn h120 ht hS h7
  refine J_V1sp 107 (am_d106 rfl) rfl rfl k1 (fun M2 N2 hq => ?_)
  obtain ⟨M3, rfl, hz, hq⟩ := hq
  obtain ⟨v1, v2, v3⟩ := hq q hp
  refine J_b 7 am_d106 rfl ?_
  refine J_V0n 123 (am_d106 rfl) rfl rfl sp123 ?_
  refine J_mem te_tp ?_
  refine J_b 1 am_d106 rfl ?_
  refine J_if_eq 56 (am_d106 rfl) rfl (fun h43 => ((am_bi0 (P := (some q).isSome = true)).mp (by rw [hp] at h43; exact h43) rfl).elim) (fun h43 => ?_)
  refine J_b 2 am_d106 rfl ?_
  refine J_V0s 124 (am_d106 rfl) rfl rfl (sp124 (show (te M3) 112 7 = nI S from (hz 112 7 (by omega) (by omega)).trans hS)) ?_
  refine J_b 1 am_d106 rfl ?_
  exact J_iret (am_d106 rfl) rfl rfl ⟨rfl, M3, hz, rfl, v1, v2, v3⟩
