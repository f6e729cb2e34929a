/-! ===== parts are never more than there were ===== -/
def zsu (f : Nat → Int) : Nat → Int
  | 0 => 0
  | n + 1 => zsu f n + f n
theorem zsu_c {f g : Nat → Int} {n : Nat} (h : ∀ j, j < n → f j = g j) : zsu f n = zsu g n := by
  induction n with
  | zero => rfl
  | succ n ih =>
    show zsu f n + f n = zsu g n + g n
    rw [ih (fun j hj => h j (by omega)), h n (by omega)]
theorem zsu_nn {f : Nat → Int} {n : Nat} (h : ∀ j, j < n → 0 ≤ f j) : 0 ≤ zsu f n := by
  induction n with
  | zero => exact Int.le_refl _
  | succ n ih =>
    have h1 := ih (fun j hj => h j (by omega))
    have h2 := h n (by omega)
    show 0 ≤ zsu f n + f n
    omega
theorem zsu_le {f g : Nat → Int} {n : Nat} (h : ∀ j, j < n → f j ≤ g j) : zsu f n ≤ zsu g n := by
  induction n with
  | zero => exact Int.le_refl _
  | succ n ih =>
    have h1 := ih (fun j hj => h j (by omega))
    have h2 := h n (by omega)
    show zsu f n + f n ≤ zsu g n + g n
    omega
theorem zsu_pl {f g : Nat → Int} {n : Nat} : zsu (fun j => f j + g j) n = zsu f n + zsu g n := by
  induction n with
  | zero => rfl
  | succ n ih =>
    show zsu (fun j => f j + g j) n + (f n + g n) = zsu f n + f n + (zsu g n + g n)
    omega
theorem zsu_mono {f : Nat → Int} {m n : Nat} (hm : m ≤ n) (h : ∀ j, j < n → 0 ≤ f j) : zsu f m ≤ zsu f n := by
  induction n with
  | zero =>
    have e : m = 0 := by omega
    subst e
    exact Int.le_refl _
  | succ n ih =>
    by_cases e : m = n + 1
    · subst e
      exact Int.le_refl _
    · have h1 := ih (by omega) (fun j hj => h j (by omega))
      have h2 := h n (by omega)
      show zsu f m ≤ zsu f n + f n
      omega
theorem zsu_one {f : Nat → Int} {n j : Nat} (hj : j < n) (h : ∀ j, j < n → 0 ≤ f j) : f j ≤ zsu f n := by
  have h1 := zsu_mono (m := j + 1) (n := n) (by omega) h
  have h2 := zsu_nn (n := j) (f := f) (fun k hk => h k (by omega))
  have h3 : zsu f (j + 1) = zsu f j + f j := rfl
  omega
theorem zsu_add {f : Nat → Int} (m n : Nat) : zsu f (m + n) = zsu f m + zsu (fun j => f (m + j)) n := by
  induction n with
  | zero => exact (Int.add_zero _).symm
  | succ n ih =>
    show zsu f (m + n) + f (m + n) = zsu f m + (zsu (fun j => f (m + j)) n + f (m + n))
    omega
theorem zsu_blk {f : Nat → Int} (m n : Nat) : zsu (fun x => zsu (fun y => f (m * x + y)) m) n = zsu f (m * n) := by
  induction n with
  | zero => rfl
  | succ n ih =>
    show zsu (fun x => zsu (fun y => f (m * x + y)) m) n + zsu (fun y => f (m * n + y)) m = zsu f (m * (n + 1))
    rw [ih, Nat.mul_succ, zsu_add]
theorem zsu_win {f : Nat → Int} {a m n : Nat} (h : ∀ j, j < n → 0 ≤ f j) (hm : a + m ≤ n) : zsu (fun q => f (a + q)) m ≤ zsu f n := by
  have h1 := zsu_add (f := f) a m
  have h2 := zsu_nn (n := a) (f := f) (fun k hk => h k (by omega))
  have h3 := zsu_mono hm h
  omega
theorem zsu_zero {f : Nat → Int} {n : Nat} (h : ∀ j, j < n → f j = 0) : zsu f n = 0 := by
  induction n with
  | zero => rfl
  | succ n ih =>
    show zsu f n + f n = 0
    rw [ih (fun j hj => h j (by omega)), h n (by omega)]
    rfl
theorem zsu_up {f : Nat → Int} {i n : Nat} {v : Int} : zsu (fun b => if b = i then v else f b) n = zsu f n + (if i < n then v - f i else 0) := by
  induction n with
  | zero => rfl
  | succ n ih =>
    show zsu (fun b => if b = i then v else f b) n + (if n = i then v else f n) = zsu f n + f n + (if i < n + 1 then v - f i else 0)
    rw [ih]
    by_cases h1 : n = i
    · subst h1
      rw [if_neg (Nat.lt_irrefl _), if_pos rfl, if_pos (Nat.lt_succ_self _)]
      omega
    · rw [if_neg h1]
      by_cases h2 : i < n
      · rw [if_pos h2, if_pos (by omega)]
        omega
      · rw [if_neg h2, if_neg (by omega)]
        omega
abbrev rs (f : Nat → Int32) (n : Nat) : Int := zsu (fun j => (f j).toInt) n
def nn (f : Nat → Int32) (n : Nat) : Prop := ∀ j, j < n → 0 ≤ (f j).toInt
theorem rs_nn {f : Nat → Int32} {n : Nat} (h : nn f n) : 0 ≤ rs f n := zsu_nn h
theorem smI_z {f : Nat → Int32} {n : Nat} (h : nn f n) (hb : rs f n ≤ 2000000000) : (smI f n).toInt = rs f n := by
  induction n with
  | zero => rfl
  | succ n ih =>
    have h0 : nn f n := fun j hj => h j (by omega)
    have h1 : rs f (n + 1) = rs f n + (f n).toInt := rfl
    have h2 := h n (by omega)
    have h3 := rs_nn h0
    have h4 := ih h0 (by omega)
    show (smI f n + f n).toInt = rs f (n + 1)
    rw [I_add (by omega), h4, h1]
theorem up_rs {f : Nat → Int32} {i : Nat} {n : Int32} (h : nn f 60) (hn : 0 ≤ n.toInt) (hb : rs f 60 + n.toInt ≤ 1000000) : nn (fun b => if b = i then f i + n else f b) 60 ∧ rs (fun b => if b = i then f i + n else f b) 60 ≤ rs f 60 + n.toInt := by
  have h0 := rs_nn h
  by_cases hi : i < 60
  · have h1 : (f i).toInt ≤ rs f 60 := zsu_one (f := fun j => (f j).toInt) hi h
    have h2 := h i hi
    have e : (f i + n).toInt = (f i).toInt + n.toInt := I_add (by omega)
    refine ⟨fun j hj => ?_, ?_⟩
    · show 0 ≤ (if j = i then f i + n else f j).toInt
      split
      · rw [e]
        omega
      · exact h j hj
    · have e2 : (fun j => ((if j = i then f i + n else f j) : Int32).toInt) = fun j => if j = i then (f i + n).toInt else (f j).toInt := by
        funext j
        split <;> rfl
      show zsu (fun j => ((if j = i then f i + n else f j) : Int32).toInt) 60 ≤ _
      rw [e2, zsu_up, if_pos hi, e]
      show rs f 60 + ((f i).toInt + n.toInt - (f i).toInt) ≤ rs f 60 + n.toInt
      omega
  · have e : ∀ j, j < 60 → (if j = i then f i + n else f j) = f j := fun j hj => if_neg (by omega)
    refine ⟨fun j hj => ?_, ?_⟩
    · show 0 ≤ (if j = i then f i + n else f j).toInt
      rw [e j hj]
      exact h j hj
    · have e2 : rs (fun b => if b = i then f i + n else f b) 60 = rs f 60 := zsu_c (fun j hj => by show (if j = i then f i + n else f j).toInt = _; rw [e j hj])
      omega
def cU (st : am_M) : Int := rs (st 2) 60 + rs (st 3) 60
theorem ap_U {o : Nat × Nat} {n : Int32} {st : am_M} (h2 : nn (st 2) 60) (h3 : nn (st 3) 60) (hn : 0 ≤ n.toInt) (hb : cU st + n.toInt ≤ 1000000) : nn (c_ap o n st 2) 60 ∧ nn (c_ap o n st 3) 60 ∧ cU (c_ap o n st) ≤ cU st + n.toInt := by
  have r2 := rs_nn h2
  have r3 := rs_nn h3
  unfold cU at hb ⊢
  unfold c_ap
  split
  · rw [up_n (by decide), up_n (by decide)]
    exact ⟨h2, h3, by omega⟩
  · split
    · rw [up_n (a := 2) (k := 3) (by decide), up_k]
      obtain ⟨a, b⟩ := up_rs (i := o.2) (n := n) h3 hn (by omega)
      exact ⟨h2, a, by omega⟩
    · rw [up_n (a := 3) (k := 2) (by decide), up_k]
      obtain ⟨a, b⟩ := up_rs (i := o.2) (n := n) h2 hn (by omega)
      exact ⟨a, h3, by omega⟩
theorem q_4 {w : Int32} (h : 0 ≤ w.toInt) : (w / 4).toInt = w.toInt / 4 ∧ (w - 2 * (w / 4)).toInt = w.toInt - 2 * (w.toInt / 4) := by
  have e := I_div4 h
  have hw := I_rng w
  have z : (2 : Int32).toInt = 2 := rfl
  have e2 : (2 * (w / 4)).toInt = 2 * (w.toInt / 4) := by rw [I_mul (by rw [z, e]; omega), z, e]
  exact ⟨e, by rw [I_sub (by rw [e2]; omega), e2]⟩
theorem gf_U {E : am_M} {sh : Nat → Int32} {kd : Int32} {m p : Nat} {w : Int32} {st : am_M} (h2 : nn (st 2) 60) (h3 : nn (st 3) 60) (hw : 0 ≤ w.toInt) (hb : cU st + w.toInt ≤ 1000000) : nn (c_gf E sh kd m p w st 2) 60 ∧ nn (c_gf E sh kd m p w st 3) 60 ∧ cU (c_gf E sh kd m p w st) ≤ cU st + w.toInt := by
  obtain ⟨e1, e2⟩ := q_4 hw
  have u0 : 0 ≤ cU st := by
    have := rs_nn h2
    have := rs_nn h3
    unfold cU
    omega
  unfold c_gf c_sd
  obtain ⟨a2, a3, a4⟩ := ap_U (o := c_pth (E 0) (c_sg (E 5 (c_k E m p) + (c_fl kd (c_wd E 9 12 m) + sh (E 1 p).toNatClampNeg))) (c_sg (E 7 (c_k E m p) + c_fl kd (c_wd E 10 13 m))) (E 5 (c_k E m p) + (c_fl kd (c_wd E 9 12 m) + sh (E 1 p).toNatClampNeg)).toInt.natAbs (E 7 (c_k E m p) + c_fl kd (c_wd E 10 13 m)).toInt.natAbs ((p / 6 : Nat) : Int) ((p % 6 : Nat) : Int)) (n := w / 4) h2 h3 (by omega) (by omega)
  obtain ⟨b2, b3, b4⟩ := ap_U (o := c_pth (E 0) (c_sg (E 6 (c_k E m p) + (c_fl kd (c_wd E 9 12 m) + sh (E 1 p).toNatClampNeg))) (c_sg (E 8 (c_k E m p) + c_fl kd (c_wd E 10 13 m))) (E 6 (c_k E m p) + (c_fl kd (c_wd E 9 12 m) + sh (E 1 p).toNatClampNeg)).toInt.natAbs (E 8 (c_k E m p) + c_fl kd (c_wd E 10 13 m)).toInt.natAbs ((p / 6 : Nat) : Int) ((p % 6 : Nat) : Int)) (n := w / 4) a2 a3 (by omega) (by omega)
  obtain ⟨d2, d3, d4⟩ := ap_U (o := c_pth (E 0) (c_sg ((E 5 (c_k E m p) + E 6 (c_k E m p)) / 2 + (c_fl kd (c_wd E 9 12 m) + sh (E 1 p).toNatClampNeg))) (c_sg ((E 7 (c_k E m p) + E 8 (c_k E m p)) / 2 + c_fl kd (c_wd E 10 13 m))) ((E 5 (c_k E m p) + E 6 (c_k E m p)) / 2 + (c_fl kd (c_wd E 9 12 m) + sh (E 1 p).toNatClampNeg)).toInt.natAbs ((E 7 (c_k E m p) + E 8 (c_k E m p)) / 2 + c_fl kd (c_wd E 10 13 m)).toInt.natAbs ((p / 6 : Nat) : Int) ((p % 6 : Nat) : Int)) (n := w - 2 * (w / 4)) b2 b3 (by omega) (by omega)
  exact ⟨d2, d3, by omega⟩
theorem go_1r {E : am_M} {sh : Nat → Int32} {kd : Int32} {m p : Nat} {st : am_M} : c_go E sh kd m p st 1 = st 1 := by
  unfold c_go
  split
  · rfl
  · split
    · exact up_n (by decide)
    · unfold c_gf c_sd
      rw [ap_1r, ap_1r, ap_1r]
theorem go_U {E : am_M} {sh : Nat → Int32} {kd : Int32} {m p : Nat} {st : am_M} (h2 : nn (st 2) 60) (h3 : nn (st 3) 60) (hw : 0 ≤ (st 1 p).toInt) (hb : cU st + (st 1 p).toInt ≤ 1000000) : nn (c_go E sh kd m p st 2) 60 ∧ nn (c_go E sh kd m p st 3) 60 ∧ cU (c_go E sh kd m p st) ≤ cU st + (st 1 p).toInt := by
  unfold c_go
  split
  · exact ⟨h2, h3, by omega⟩
  · split
    · have r3 := rs_nn h3
      unfold cU at hb ⊢
      rw [up_n (a := 3) (k := 2) (by decide), up_k]
      obtain ⟨a, b⟩ := up_rs (i := p) (n := st 1 p) h2 hw (by omega)
      exact ⟨a, h3, by omega⟩
    · exact gf_U h2 h3 hw hb
theorem gi_U {E : am_M} {sh : Nat → Int32} {kd : Int32} {m : Nat} {st : am_M} (h1 : nn (st 1) 60) (h2 : nn (st 2) 60) (h3 : nn (st 3) 60) (hb : cU st + rs (st 1) 60 ≤ 1000000) (n : Nat) (hn : n ≤ 60) : nn (itr (c_go E sh kd m) n st 2) 60 ∧ nn (itr (c_go E sh kd m) n st 3) 60 ∧ cU (itr (c_go E sh kd m) n st) ≤ cU st + rs (st 1) n ∧ itr (c_go E sh kd m) n st 1 = st 1 := by
  induction n with
  | zero => exact ⟨h2, h3, by show cU st ≤ cU st + 0; omega, rfl⟩
  | succ n ih =>
    obtain ⟨a, b, c, d⟩ := ih (by omega)
    have e : rs (st 1) (n + 1) = rs (st 1) n + (st 1 n).toInt := rfl
    have e2 := zsu_mono (f := fun j => (st 1 j).toInt) (m := n + 1) (n := 60) hn h1
    have e3 : rs (st 1) (n + 1) ≤ rs (st 1) 60 := e2
    have w := h1 n (by omega)
    obtain ⟨a2, b2, c2⟩ := go_U (E := E) (sh := sh) (kd := kd) (m := m) (p := n) a b (by rw [d]; exact w) (by rw [d]; omega)
    rw [d] at c2
    exact ⟨a2, b2, by rw [itr_s]; omega, by rw [itr_s, go_1r, d]⟩
/-- what a drift keeps, month by month -/
def cI (st : am_M) : Prop := nn (st 1) 60 ∧ nn (st 3) 60 ∧ nn (st 4) 720 ∧ rs (st 1) 60 + rs (st 3) 60 + rs (st 4) 720 ≤ 1000000
theorem z_nn {n : Nat} : nn c_z n := fun _ _ => Int.le_refl _
theorem z_rs {n : Nat} : rs c_z n = 0 := zsu_zero (fun _ _ => rfl)
theorem sk_I {kd sk : Int32} {t : Nat} {st : am_M} (h : cI st) : cI (c_sk kd sk t st) := by
  unfold c_sk
  split
  · obtain ⟨h1, h3, h4, hb⟩ := h
    have r1 := rs_nn h1
    unfold cI
    rw [upR_r, upR_n (a := 3) (by decide), upR_n (a := 4) (by decide), up_n (a := 3) (by decide), up_n (a := 4) (by decide)]
    exact ⟨z_nn, h3, h4, by rw [z_rs]; omega⟩
  · exact h
theorem gw_I {E : am_M} {sh : Nat → Int32} {kd : Int32} {m : Nat} {st : am_M} (h : cI st) : cI (c_gw E sh kd m st) := by
  obtain ⟨h1, h3, h4, hb⟩ := h
  have r4 := rs_nn h4
  have u : cU (am_upR st 2 c_z) = rs (st 3) 60 := by
    unfold cU
    rw [upR_r, upR_n (by decide), z_rs]
    omega
  obtain ⟨a, b, c, d⟩ := gi_U (E := E) (sh := sh) (kd := kd) (m := m) (st := am_upR st 2 c_z) (by rw [upR_n (by decide)]; exact h1) (by rw [upR_r]; exact z_nn) (by rw [upR_n (by decide)]; exact h3) (by rw [u, upR_n (by decide)]; omega) 60 (Nat.le_refl _)
  rw [u, upR_n (a := 1) (by decide)] at c
  have g4 := gi_4 (E := E) (sh := sh) (kd := kd) (m := m) (st := am_upR st 2 c_z) 60
  rw [upR_n (a := 4) (by decide)] at g4
  unfold c_gw c_wa
  generalize itr (c_go E sh kd m) 60 (am_upR st 2 c_z) = s at a b c d g4
  unfold cI
  rw [upR_r, upR_n (a := 3) (by decide), upR_n (a := 4) (by decide), g4]
  have e : ∀ j, j < 60 → (if j < 60 then s 2 j else s 1 j) = s 2 j := fun j hj => if_pos hj
  refine ⟨fun j hj => ?_, b, h4, ?_⟩
  · show 0 ≤ (if j < 60 then s 2 j else s 1 j).toInt
    rw [e j hj]
    exact a j hj
  · have e2 : rs (fun j => if j < 60 then s 2 j else s 1 j) 60 = rs (s 2) 60 := zsu_c (fun j hj => by show (if j < 60 then s 2 j else s 1 j).toInt = _; rw [e j hj])
    rw [e2]
    unfold cU at c
    omega
theorem tk_b {a w : Int32} (ha : 0 ≤ a.toInt ∧ a.toInt ≤ 1000000) (hw : 0 ≤ w.toInt ∧ w.toInt ≤ 16) : 0 ≤ (a * w / 16).toInt ∧ (a * w / 16).toInt ≤ a.toInt := by
  have h1 : a.toInt * w.toInt ≤ a.toInt * 16 := Int.mul_le_mul_of_nonneg_left hw.2 ha.1
  have h2 : 0 ≤ a.toInt * w.toInt := Int.mul_nonneg ha.1 hw.1
  have e : (a * w).toInt = a.toInt * w.toInt := I_mul (by omega)
  have e2 := I_div16 (a := a * w) (by omega)
  rw [e] at e2
  omega
theorem bw_I {E : am_M} {t : Nat} {st : am_M} (he2 : ∀ j, b_in (E 2 j) 0 16) (he3 : ∀ j, b_in (E 3 j) 0 16) (ht : t < 12) (h : cI st) : cI (c_bw E t st) := by
  obtain ⟨h1, h3, h4, hb⟩ := h
  have r1 := rs_nn h1
  have r3 := rs_nn h3
  have r4 := rs_nn h4
  have hc : ∀ c, c < 60 → (0 ≤ (c_tk E st c).toInt ∧ 0 ≤ (st 3 c - c_tk E st c - c_cv E st c).toInt) ∧ (c_tk E st c).toInt + (st 3 c - c_tk E st c - c_cv E st c).toInt ≤ (st 3 c).toInt := by
    intro c hc
    have a1 := h3 c hc
    have a2 : (st 3 c).toInt ≤ rs (st 3) 60 := zsu_one (f := fun j => (st 3 j).toInt) hc h3
    have k1 := tk_b (a := st 3 c) (w := E 3 c) ⟨a1, by omega⟩ (he3 c)
    have k2 : 0 ≤ (c_tk E st c).toInt ∧ (c_tk E st c).toInt ≤ (st 3 c).toInt := k1
    have e1 : (st 3 c - c_tk E st c).toInt = (st 3 c).toInt - (c_tk E st c).toInt := I_sub (by omega)
    have k3 := tk_b (a := st 3 c - c_tk E st c) (w := E 2 c) ⟨by omega, by omega⟩ (he2 c)
    have k4 : 0 ≤ (c_cv E st c).toInt ∧ (c_cv E st c).toInt ≤ (st 3 c - c_tk E st c).toInt := k3
    have e2 : (st 3 c - c_tk E st c - c_cv E st c).toInt = (st 3 c - c_tk E st c).toInt - (c_cv E st c).toInt := I_sub (by omega)
    omega
  have d4 : c_bw E t st 4 = fun k => if 60 * t ≤ k ∧ k < 60 * t + 60 then c_tk E st (k - 60 * t) else st 4 k := rfl
  have d3 : c_bw E t st 3 = fun c => if c < 60 then st 3 c - c_tk E st c - c_cv E st c else st 3 c := rfl
  have d1 : c_bw E t st 1 = st 1 := rfl
  unfold cI
  rw [d1, d3, d4]
  have n4 : ∀ k, k < 720 → 0 ≤ (if 60 * t ≤ k ∧ k < 60 * t + 60 then c_tk E st (k - 60 * t) else st 4 k).toInt := by
    intro k hk
    split
    · exact (hc (k - 60 * t) (by omega)).1.1
    · exact h4 k hk
  refine ⟨h1, fun c hcc => ?_, n4, ?_⟩
  · show 0 ≤ (if c < 60 then st 3 c - c_tk E st c - c_cv E st c else st 3 c).toInt
    rw [if_pos hcc]
    exact (hc c hcc).1.2
  · have s3 : rs (fun c => if c < 60 then st 3 c - c_tk E st c - c_cv E st c else st 3 c) 60 = zsu (fun c => (st 3 c - c_tk E st c - c_cv E st c).toInt) 60 := zsu_c (fun j hj => by show (if j < 60 then st 3 j - c_tk E st j - c_cv E st j else st 3 j).toInt = _; rw [if_pos hj])
    have q1 : zsu (fun c => (c_tk E st c).toInt) 60 + zsu (fun c => (st 3 c - c_tk E st c - c_cv E st c).toInt) 60 ≤ rs (st 3) 60 := by
      rw [← zsu_pl]
      exact zsu_le (fun c hcc => (hc c hcc).2)
    have q2 : rs (fun k => if 60 * t ≤ k ∧ k < 60 * t + 60 then c_tk E st (k - 60 * t) else st 4 k) 720 ≤ rs (st 4) 720 + zsu (fun k => if 60 * t ≤ k ∧ k < 60 * t + 60 then (c_tk E st (k - 60 * t)).toInt else 0) 720 := by
      rw [← zsu_pl]
      refine zsu_le (fun k hk => ?_)
      show (if 60 * t ≤ k ∧ k < 60 * t + 60 then c_tk E st (k - 60 * t) else st 4 k).toInt ≤ (st 4 k).toInt + (if 60 * t ≤ k ∧ k < 60 * t + 60 then (c_tk E st (k - 60 * t)).toInt else 0)
      have := h4 k hk
      split <;> omega
    have q3 : zsu (fun k => if 60 * t ≤ k ∧ k < 60 * t + 60 then (c_tk E st (k - 60 * t)).toInt else 0) 720 = zsu (fun c => (c_tk E st c).toInt) 60 := by
      have e : 720 = 60 * t + (60 + (660 - 60 * t)) := by omega
      rw [e, zsu_add, zsu_add, zsu_zero (n := 60 * t) (fun j hj => if_neg (by omega)), zsu_zero (n := 660 - 60 * t) (fun j hj => if_neg (by omega))]
      have e2 : zsu (fun j => if 60 * t ≤ 60 * t + j ∧ 60 * t + j < 60 * t + 60 then (c_tk E st (60 * t + j - 60 * t)).toInt else 0) 60 = zsu (fun c => (c_tk E st c).toInt) 60 := zsu_c (fun j hj => by rw [if_pos (by omega), Nat.add_sub_cancel_left])
      rw [e2]
      omega
    rw [s3]
    omega
theorem mo_I {E : am_M} {sh : Nat → Int32} {kd sk : Int32} {m t : Nat} {st : am_M} (he2 : ∀ j, b_in (E 2 j) 0 16) (he3 : ∀ j, b_in (E 3 j) 0 16) (ht : t < 12) (h : cI st) : cI (c_mo E sh kd m sk t st) := bw_I he2 he3 ht (gw_I (sk_I h))
theorem dr_I {E : am_M} {sh : Nat → Int32} {kd sk : Int32} {m p : Nat} {r : Nat → Int32} (he2 : ∀ j, b_in (E 2 j) 0 16) (he3 : ∀ j, b_in (E 3 j) 0 16) (hp : p < 60) : ∀ n, n ≤ 12 → cI (c_dr E sh kd m p sk r n) := by
  intro n
  induction n with
  | zero =>
    intro _
    have e1 : c_s0 p r 1 = fun j => if j = p then 1000000 else c_z j := by
      funext j
      unfold c_s0
      by_cases h : j = p
      · rw [if_pos ⟨rfl, h⟩, if_pos h]
      · rw [if_neg (fun z => h z.2), if_neg h, if_neg (by decide)]
        rfl
    have e3 : c_s0 p r 3 = c_z := by
      funext j
      rfl
    have e4 : c_s0 p r 4 = c_z := by
      funext j
      rfl
    show cI (c_s0 p r)
    unfold cI
    rw [e1, e3, e4, z_rs, z_rs]
    refine ⟨fun j hj => ?_, z_nn, z_nn, ?_⟩
    · show 0 ≤ (if j = p then (1000000 : Int32) else c_z j).toInt
      split
      · decide
      · exact Int.le_refl _
    · have e5 : (fun j => ((if j = p then (1000000 : Int32) else c_z j) : Int32).toInt) = fun j => if j = p then (1000000 : Int) else (c_z j).toInt := by
        funext j
        split <;> rfl
      have e6 : rs (fun j => if j = p then (1000000 : Int32) else c_z j) 60 = 1000000 := by
        show zsu (fun j => ((if j = p then (1000000 : Int32) else c_z j) : Int32).toInt) 60 = 1000000
        rw [e5, zsu_up, if_pos hp]
        show rs c_z 60 + (1000000 - (c_z p).toInt) = 1000000
        rw [z_rs]
        rfl
      omega
  | succ n ih =>
    intro hn
    exact mo_I he2 he3 (by omega) (ih (by omega))
theorem fw_b {fd : Nat → Int32} {x0 x1 y0 y1 : Nat} {a b : Int} (hx1 : x1 ≤ 9) (hx0 : x0 ≤ 9) (hy0 : y0 ≤ 5) (hy1 : y1 ≤ 5) (hn : nn fd 720) (hb : rs fd 720 ≤ 1000000) : 0 ≤ (c_fw fd (nI x0) (nI x1) (nI y0) (nI y1) a b).toInt ∧ (c_fw fd (nI x0) (nI x1) (nI y0) (nI y1) a b).toInt ≤ 1000000 := by
  have hblk : zsu (fun t => zsu (fun j => (fd (60 * t + j)).toInt) 60) 12 = rs fd 720 := zsu_blk (f := fun k => (fd k).toInt) 60 12
  have m1 : ∀ t, t < 12 → zsu (fun j => (fd (60 * t + j)).toInt) 60 ≤ rs fd 720 := fun t ht => zsu_win (f := fun k => (fd k).toInt) (a := 60 * t) hn (by omega)
  have n1 : ∀ t, t < 12 → ∀ j, j < 60 → 0 ≤ (fd (60 * t + j)).toInt := fun t ht j hj => hn _ (by omega)
  have col : ∀ t, t < 12 → ∀ i, i < x1 + 1 - x0 → nn (fun q => fd (60 * t + 6 * (x0 + i) + (y0 + q))) (y1 + 1 - y0) ∧ rs (fun q => fd (60 * t + 6 * (x0 + i) + (y0 + q))) (y1 + 1 - y0) ≤ zsu (fun y => (fd (60 * t + (6 * (x0 + i) + y))).toInt) 6 := by
    intro t ht i hi
    refine ⟨fun q hq => hn _ (by omega), ?_⟩
    have h1 := zsu_win (f := fun y => (fd (60 * t + (6 * (x0 + i) + y))).toInt) (a := y0) (m := y1 + 1 - y0) (n := 6) (fun j hj => hn _ (by omega)) (by omega)
    have h2 : rs (fun q => fd (60 * t + 6 * (x0 + i) + (y0 + q))) (y1 + 1 - y0) = zsu (fun q => (fd (60 * t + (6 * (x0 + i) + (y0 + q)))).toInt) (y1 + 1 - y0) := zsu_c (fun q hq => by show (fd (60 * t + 6 * (x0 + i) + (y0 + q))).toInt = _; rw [Nat.add_assoc])
    omega
  have rc : ∀ t, t < 12 → 0 ≤ (c_rc fd (nI x0) (nI x1) (nI y0) (nI y1) t).toInt ∧ (c_rc fd (nI x0) (nI x1) (nI y0) (nI y1) t).toInt ≤ zsu (fun j => (fd (60 * t + j)).toInt) 60 := by
    intro t ht
    rw [rc_e hx1 hx0 hy0 hy1]
    have c6 : zsu (fun x => zsu (fun y => (fd (60 * t + (6 * x + y))).toInt) 6) 10 = zsu (fun j => (fd (60 * t + j)).toInt) 60 := zsu_blk (f := fun j => (fd (60 * t + j)).toInt) 6 10
    have cn : ∀ x, x < 10 → 0 ≤ zsu (fun y => (fd (60 * t + (6 * x + y))).toInt) 6 := fun x hx => zsu_nn (fun y hy => hn _ (by omega))
    have cw := zsu_win (f := fun x => zsu (fun y => (fd (60 * t + (6 * x + y))).toInt) 6) (a := x0) (m := x1 + 1 - x0) (n := 10) cn (by omega)
    have mt := m1 t ht
    have cz : ∀ i, i < x1 + 1 - x0 → (smI (fun q => fd (60 * t + 6 * (x0 + i) + (y0 + q))) (y1 + 1 - y0)).toInt = rs (fun q => fd (60 * t + 6 * (x0 + i) + (y0 + q))) (y1 + 1 - y0) := by
      intro i hi
      obtain ⟨k1, k2⟩ := col t ht i hi
      have k3 := zsu_one (f := fun x => zsu (fun y => (fd (60 * t + (6 * x + y))).toInt) 6) (n := 10) (j := x0 + i) (by omega) cn
      have k4 : zsu (fun y => (fd (60 * t + (6 * (x0 + i) + y))).toInt) 6 ≤ zsu (fun x => zsu (fun y => (fd (60 * t + (6 * x + y))).toInt) 6) 10 := k3
      exact smI_z k1 (by omega)
    have nn1 : nn (fun i => smI (fun q => fd (60 * t + 6 * (x0 + i) + (y0 + q))) (y1 + 1 - y0)) (x1 + 1 - x0) := by
      intro i hi
      show 0 ≤ (smI (fun q => fd (60 * t + 6 * (x0 + i) + (y0 + q))) (y1 + 1 - y0)).toInt
      rw [cz i hi]
      exact rs_nn (col t ht i hi).1
    have le1 : rs (fun i => smI (fun q => fd (60 * t + 6 * (x0 + i) + (y0 + q))) (y1 + 1 - y0)) (x1 + 1 - x0) ≤ zsu (fun i => zsu (fun y => (fd (60 * t + (6 * (x0 + i) + y))).toInt) 6) (x1 + 1 - x0) := by
      refine zsu_le (fun i hi => ?_)
      show (smI (fun q => fd (60 * t + 6 * (x0 + i) + (y0 + q))) (y1 + 1 - y0)).toInt ≤ _
      rw [cz i hi]
      exact (col t ht i hi).2
    have z1 := smI_z nn1 (by omega)
    have z2 := rs_nn nn1
    omega
  unfold c_fw
  have nn2 : nn (fun t => if a ≤ (t : Int) ∧ (t : Int) ≤ b then c_rc fd (nI x0) (nI x1) (nI y0) (nI y1) t else 0) 12 := by
    intro t ht
    show 0 ≤ (if a ≤ (t : Int) ∧ (t : Int) ≤ b then c_rc fd (nI x0) (nI x1) (nI y0) (nI y1) t else 0).toInt
    split
    · exact (rc t ht).1
    · exact Int.le_refl _
  have le2 : rs (fun t => if a ≤ (t : Int) ∧ (t : Int) ≤ b then c_rc fd (nI x0) (nI x1) (nI y0) (nI y1) t else 0) 12 ≤ zsu (fun t => zsu (fun j => (fd (60 * t + j)).toInt) 60) 12 := by
    refine zsu_le (fun t ht => ?_)
    show (if a ≤ (t : Int) ∧ (t : Int) ≤ b then c_rc fd (nI x0) (nI x1) (nI y0) (nI y1) t else 0).toInt ≤ _
    split
    · exact (rc t ht).2
    · exact zsu_nn (n1 t ht)
  have z1 := smI_z nn2 (by omega)
  have z2 := rs_nn nn2
  omega
/-! a drift knows shifts of three regions only -/
theorem go_sh {E : am_M} {sh sh' : Nat → Int32} {kd : Int32} {m p : Nat} {st : am_M} (he : e_b E) (h : ∀ r, r < 3 → sh r = sh' r) : c_go E sh kd m p st = c_go E sh' kd m p st := by
  have hb := he.1 p
  unfold b_in at hb
  have ic := I_cl hb.1
  have e : sh (E 1 p).toNatClampNeg = sh' (E 1 p).toNatClampNeg := h _ (by omega)
  unfold c_go c_gf
  rw [e]
theorem gi_sh {E : am_M} {sh sh' : Nat → Int32} {kd : Int32} {m : Nat} (he : e_b E) (h : ∀ r, r < 3 → sh r = sh' r) (n : Nat) : ∀ s : am_M, itr (c_go E sh kd m) n s = itr (c_go E sh' kd m) n s := by
  induction n with
  | zero =>
    intro s
    have e1 : itr (c_go E sh kd m) 0 s = s := rfl
    have e2 : itr (c_go E sh' kd m) 0 s = s := rfl
    rw [e1, e2]
  | succ n ih =>
    intro s
    rw [itr_s, itr_s, ih, go_sh he h]
theorem gw_sh {E : am_M} {sh sh' : Nat → Int32} {kd : Int32} {m : Nat} {st : am_M} (he : e_b E) (h : ∀ r, r < 3 → sh r = sh' r) : c_gw E sh kd m st = c_gw E sh' kd m st := congrArg c_wa (gi_sh he h 60 _)
theorem dr_sh {E : am_M} {sh sh' : Nat → Int32} {kd sk : Int32} {m p : Nat} {r : Nat → Int32} (he : e_b E) (h : ∀ r, r < 3 → sh r = sh' r) : ∀ n, c_dr E sh kd m p sk r n = c_dr E sh' kd m p sk r n := by
  intro n
  induction n with
  | zero =>
    show c_s0 p r = c_s0 p r
    rfl
  | succ n ih =>
    show c_mo E sh kd m sk n (c_dr E sh kd m p sk r n) = c_mo E sh' kd m sk n (c_dr E sh' kd m p sk r n)
    rw [ih]
    unfold c_mo
    rw [gw_sh he h]
