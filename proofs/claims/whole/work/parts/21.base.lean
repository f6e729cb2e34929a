/-! ===== base: consequence, numbers, sums, rows ===== -/
theorem J_cq {X : am_X} {Q Q' : am_Q} {i pc : Nat} {L S : am_V} {M : am_M} {N : am_N} (h : am_J X Q i pc L S M N) (hq : ∀ r M1 N1, Q r M1 N1 → Q' r M1 N1) : am_J X Q' i pc L S M N := by
  refine ⟨h.1, h.2.1, fun p e R s m args below meth c H locs ls cells slots C St T hT hS => ?_⟩
  obtain ⟨t, h1, o, h2, h3, ⟨⟨r, M1, N1, a, b, c⟩, d⟩, h5⟩ := h.2.2 p e R s m args below meth c H locs ls cells slots C St T hT hS
  exact ⟨t, h1, o, h2, h3, ⟨⟨r, M1, N1, a, hq _ _ _ b, c⟩, d⟩, h5⟩
theorem J_eq {X : am_X} {Q : am_Q} {i pc : Nat} {L S : am_V} {M : am_M} {N : am_N} {v : Option Value} {M1 : am_M} {N1 : am_N} (h : am_J X (am_eq v M1 N1) i pc L S M N) (hq : Q v M1 N1) : am_J X Q i pc L S M N :=
  J_cq h (fun r M2 N2 h => by obtain ⟨rfl, rfl, rfl⟩ := h; exact hq)
theorem vp_of {x : Int32} {n : Nat} (h : 0 ≤ x.toInt ∧ x.toInt < n) : vp_in x n := vp_in_iff.mpr h
theorem I_cl {x : Int32} (h : 0 ≤ x.toInt) : (x.toNatClampNeg : Int) = x.toInt := by
  have : x.toNatClampNeg = x.toInt.toNat := rfl
  omega
theorem I_eq {x y : Int32} (h : x.toInt = y.toInt) : x = y := Int32.toInt_inj.mp h
theorem I_nI {x : Int32} (h : 0 ≤ x.toInt) : x = nI x.toNatClampNeg := by
  have h1 := I_cl h
  have h2 : x.toInt < 2147483648 := Int32.toInt_lt x
  refine I_eq ?_
  rw [nI_toInt (by omega)]
  omega
theorem nI_i {n : Nat} (h : n < 2147483648) : (nI n).toInt = (n : Int) := nI_toInt h
theorem nI_c {n : Nat} (h : n < 2147483648) : (nI n).toNatClampNeg = n := nI_clamp h
theorem nI_mul (a b : Nat) : nI a * nI b = nI (a * b) := by
  unfold nI
  exact (Int32.ofNat_mul a b).symm
def smI (f : Nat → Int32) : Nat → Int32
  | 0 => 0
  | n + 1 => smI f n + f n
theorem smI_congr {f g : Nat → Int32} {n : Nat} (h : ∀ j, j < n → f j = g j) : smI f n = smI g n := by
  induction n with
  | zero => rfl
  | succ n ih =>
    show smI f n + f n = smI g n + g n
    rw [ih (fun j hj => h j (by omega)), h n (by omega)]
theorem smI_zero {f : Nat → Int32} {n : Nat} (h : ∀ j, j < n → f j = 0) : smI f n = 0 := by
  induction n with
  | zero => rfl
  | succ n ih =>
    show smI f n + f n = 0
    rw [ih (fun j hj => h j (by omega)), h n (by omega)]
    rfl
def itr {α : Type} (f : Nat → α → α) : Nat → α → α
  | 0, a => a
  | n + 1, a => f n (itr f n a)
theorem up_r {M : am_M} {k j : Nat} {x : Int32} : am_up M k j x k j = x := by
  unfold am_up
  rw [if_pos rfl, if_pos rfl]
theorem up_n {M : am_M} {k j : Nat} {x : Int32} {a : Nat} (h : a ≠ k) : am_up M k j x a = M a := by
  funext b
  unfold am_up
  rw [if_neg h]
theorem up_k {M : am_M} {k j : Nat} {x : Int32} : am_up M k j x k = fun b => if b = j then x else M k b := by
  funext b
  unfold am_up
  rw [if_pos rfl]
theorem upR_r {M : am_M} {k : Nat} {f : Nat → Int32} : am_upR M k f k = f := by
  unfold am_upR
  rw [if_pos rfl]
theorem upR_n {M : am_M} {k : Nat} {f : Nat → Int32} {a : Nat} (h : a ≠ k) : am_upR M k f a = M a := by
  unfold am_upR
  rw [if_neg h]
theorem up_id {M : am_M} {k j : Nat} {x : Int32} (h : M k j = x) : am_up M k j x = M := by
  funext a b
  unfold am_up
  split
  · split
    · subst_vars
      rfl
    · rfl
  · rfl
theorem up_upR {M : am_M} {k j : Nat} {x : Int32} : am_up M k j x = am_upR M k (fun b => if b = j then x else M k b) := by
  funext a b
  unfold am_up am_upR
  split
  · subst_vars
    rfl
  · rfl
theorem upR_upR {M : am_M} {k : Nat} {f g : Nat → Int32} : am_upR (am_upR M k f) k g = am_upR M k g := by
  funext a
  unfold am_upR
  split <;> rfl
theorem upR_id {M : am_M} {k : Nat} : am_upR M k (M k) = M := by
  funext a
  unfold am_upR
  split
  · subst_vars
    rfl
  · rfl
/-! numbers without overflow -/
theorem bm_id {x : Int} (h : -2147483648 ≤ x ∧ x < 2147483648) : x.bmod (2 ^ 32) = x := by
  rw [Int.bmod_eq_of_le (by simp; omega) (by simp; omega)]
theorem I_add {a b : Int32} (h : -2147483648 ≤ a.toInt + b.toInt ∧ a.toInt + b.toInt < 2147483648) : (a + b).toInt = a.toInt + b.toInt := by
  rw [Int32.toInt_add, bm_id h]
theorem I_sub {a b : Int32} (h : -2147483648 ≤ a.toInt - b.toInt ∧ a.toInt - b.toInt < 2147483648) : (a - b).toInt = a.toInt - b.toInt := by
  rw [Int32.toInt_sub, bm_id h]
theorem I_mul {a b : Int32} (h : -2147483648 ≤ a.toInt * b.toInt ∧ a.toInt * b.toInt < 2147483648) : (a * b).toInt = a.toInt * b.toInt := by
  rw [Int32.toInt_mul, bm_id h]
theorem I_rng (a : Int32) : -2147483648 ≤ a.toInt ∧ a.toInt < 2147483648 := ⟨Int32.le_toInt a, Int32.toInt_lt a⟩
theorem I_divn {a : Int32} {n : Nat} (ha : 0 ≤ a.toInt) (hn : 0 < n) (hn2 : n < 2147483648) {b : Int32} (hb : b.toInt = n) : (a / b).toInt = a.toInt / n := by
  have h1 := I_rng a
  rw [Int32.toInt_div, hb, Int.tdiv_eq_ediv_of_nonneg ha, bm_id ⟨?_, ?_⟩]
  · have := Int.ediv_nonneg ha (show (0 : Int) ≤ n by omega)
    omega
  · have := Int.ediv_le_self (n : Int) ha
    omega
theorem I_div10 {a : Int32} (ha : 0 ≤ a.toInt) : (a / 10).toInt = a.toInt / 10 := I_divn (n := 10) ha (by decide) (by decide) rfl
theorem I_div100 {a : Int32} (ha : 0 ≤ a.toInt) : (a / 100).toInt = a.toInt / 100 := I_divn (n := 100) ha (by decide) (by decide) rfl
theorem I_div6 {a : Int32} (ha : 0 ≤ a.toInt) : (a / 6).toInt = a.toInt / 6 := I_divn (n := 6) ha (by decide) (by decide) rfl
theorem I_div12 {a : Int32} (ha : 0 ≤ a.toInt) : (a / 12).toInt = a.toInt / 12 := I_divn (n := 12) ha (by decide) (by decide) rfl
theorem I_div48 {a : Int32} (ha : 0 ≤ a.toInt) : (a / 48).toInt = a.toInt / 48 := I_divn (n := 48) ha (by decide) (by decide) rfl
theorem I_div4 {a : Int32} (ha : 0 ≤ a.toInt) : (a / 4).toInt = a.toInt / 4 := I_divn (n := 4) ha (by decide) (by decide) rfl
theorem I_div16 {a : Int32} (ha : 0 ≤ a.toInt) : (a / 16).toInt = a.toInt / 16 := I_divn (n := 16) ha (by decide) (by decide) rfl
theorem I_remn {a : Int32} {n : Nat} (ha : 0 ≤ a.toInt) (hn : 0 < n) (hn2 : n < 2147483648) {b : Int32} (hb : b.toInt = n) : (a - a / b * b).toInt = a.toInt % n := by
  have h1 := I_rng a
  have h2 := I_divn (a := a) ha hn hn2 hb
  have h3 : 0 ≤ a.toInt % n := Int.emod_nonneg _ (by omega)
  have h4 : a.toInt % n + a.toInt / n * n = a.toInt := by rw [Int.add_comm]; exact Int.ediv_mul_add_emod _ _
  have h5 : 0 ≤ a.toInt / n := Int.ediv_nonneg ha (by omega)
  have h6 : 0 ≤ a.toInt / n * n := Int.mul_nonneg h5 (by omega)
  have h7 : (a / b * b).toInt = a.toInt / n * n := by rw [I_mul (by rw [h2, hb]; omega), h2, hb]
  rw [I_sub (by rw [h7]; omega), h7]
  omega
theorem I_rem10 {a : Int32} (ha : 0 ≤ a.toInt) : (a - a / 10 * 10).toInt = a.toInt % 10 := I_remn (n := 10) ha (by decide) (by decide) rfl
theorem I_rem100 {a : Int32} (ha : 0 ≤ a.toInt) : (a - a / 100 * 100).toInt = a.toInt % 100 := I_remn (n := 100) ha (by decide) (by decide) rfl
theorem I_rem6 {a : Int32} (ha : 0 ≤ a.toInt) : (a - a / 6 * 6).toInt = a.toInt % 6 := I_remn (n := 6) ha (by decide) (by decide) rfl
theorem I_rem12 {a : Int32} (ha : 0 ≤ a.toInt) : (a - a / 12 * 12).toInt = a.toInt % 12 := I_remn (n := 12) ha (by decide) (by decide) rfl
theorem I_rem48 {a : Int32} (ha : 0 ≤ a.toInt) : (a - a / 48 * 48).toInt = a.toInt % 48 := I_remn (n := 48) ha (by decide) (by decide) rfl
theorem I_rem3 {a : Int32} (ha : 0 ≤ a.toInt) : (a - a / 3 * 3).toInt = a.toInt % 3 := I_remn (n := 3) ha (by decide) (by decide) rfl
theorem nI_divn {n d : Nat} (h : n < 2147483648) (hd : 0 < d) (hd2 : d < 2147483648) {b : Int32} (hb : b.toInt = d) : nI n / b = nI (n / d) := by
  have h1 : n / d ≤ n := Nat.div_le_self _ _
  refine I_eq ?_
  rw [I_divn (by rw [nI_i h]; omega) hd hd2 hb, nI_i h, nI_i (by omega)]
  exact (Int.natCast_ediv n d).symm
theorem nI_remn {n d : Nat} (h : n < 2147483648) (hd : 0 < d) (hd2 : d < 2147483648) {b : Int32} (hb : b.toInt = d) : nI n - nI n / b * b = nI (n % d) := by
  have h1 : n % d ≤ n := Nat.mod_le _ _
  refine I_eq ?_
  rw [I_remn (by rw [nI_i h]; omega) hd hd2 hb, nI_i h, nI_i (by omega)]
  exact (Int.natCast_emod n d).symm
/-! calls, by the number of arguments; the stack behind them stays as it is -/
section AMC
variable {X : am_X} {Q Q1 : am_Q} {i pc : Nat} {L T : am_V} {M : am_M} {N : am_N}
theorem J_en {i : Nat} {As : am_V} (h : am_en i As = L) (k : am_J X Q i 0 L [] M N) : am_J X Q i 0 (am_en i As) [] M N := by
  rw [h]
  exact k
theorem J_S0s {idx : Nat} {w : Value} {M1 : am_M} {N1 : am_N} (j : Nat) (d : am_in i pc = some (.invokestatic idx, 3)) (hc : am_ckS i idx j (T) = true) (hn : am_na j = 0) (k1 : am_J X (am_eq (some w) M1 N1) j 0 (am_en j []) [] M N) (k2 : am_J X Q i (pc + 3) L (w :: T) M1 N1) : am_J X Q i pc L (T) M N := J_Sf j d hc (by rw [hn]; exact k1) (by rw [hn]; exact k2)
theorem J_S0n {idx : Nat} {M1 : am_M} {N1 : am_N} (j : Nat) (d : am_in i pc = some (.invokestatic idx, 3)) (hc : am_ckS i idx j (T) = true) (hn : am_na j = 0) (k1 : am_J X (am_eq (none) M1 N1) j 0 (am_en j []) [] M N) (k2 : am_J X Q i (pc + 3) L (T) M1 N1) : am_J X Q i pc L (T) M N := J_Sf j d hc (by rw [hn]; exact k1) (by rw [hn]; exact k2)
theorem J_V0s {idx b : Nat} {w : Value} {M1 : am_M} {N1 : am_N} (j : Nat) (d : am_in i pc = some (.invokevirtual idx, 3)) (hc : am_ckV i idx j (.ref b :: T) = true) (hn : am_na j = 0) (k1 : am_J X (am_eq (some w) M1 N1) j 0 (am_en j [.ref b]) [] M N) (k2 : am_J X Q i (pc + 3) L (w :: T) M1 N1) : am_J X Q i pc L (.ref b :: T) M N := J_Vf j d hc (by rw [hn]; exact k1) (by rw [hn]; exact k2)
theorem J_V0n {idx b : Nat} {M1 : am_M} {N1 : am_N} (j : Nat) (d : am_in i pc = some (.invokevirtual idx, 3)) (hc : am_ckV i idx j (.ref b :: T) = true) (hn : am_na j = 0) (k1 : am_J X (am_eq (none) M1 N1) j 0 (am_en j [.ref b]) [] M N) (k2 : am_J X Q i (pc + 3) L (T) M1 N1) : am_J X Q i pc L (.ref b :: T) M N := J_Vf j d hc (by rw [hn]; exact k1) (by rw [hn]; exact k2)
theorem J_S1s {idx : Nat} {w : Value} {M1 : am_M} {N1 : am_N} {a0 : Value} (j : Nat) (d : am_in i pc = some (.invokestatic idx, 3)) (hc : am_ckS i idx j (a0 :: T) = true) (hn : am_na j = 1) (k1 : am_J X (am_eq (some w) M1 N1) j 0 (am_en j [a0]) [] M N) (k2 : am_J X Q i (pc + 3) L (w :: T) M1 N1) : am_J X Q i pc L (a0 :: T) M N := J_Sf j d hc (by rw [hn]; exact k1) (by rw [hn]; exact k2)
theorem J_S1n {idx : Nat} {M1 : am_M} {N1 : am_N} {a0 : Value} (j : Nat) (d : am_in i pc = some (.invokestatic idx, 3)) (hc : am_ckS i idx j (a0 :: T) = true) (hn : am_na j = 1) (k1 : am_J X (am_eq (none) M1 N1) j 0 (am_en j [a0]) [] M N) (k2 : am_J X Q i (pc + 3) L (T) M1 N1) : am_J X Q i pc L (a0 :: T) M N := J_Sf j d hc (by rw [hn]; exact k1) (by rw [hn]; exact k2)
theorem J_V1s {idx b : Nat} {w : Value} {M1 : am_M} {N1 : am_N} {a0 : Value} (j : Nat) (d : am_in i pc = some (.invokevirtual idx, 3)) (hc : am_ckV i idx j (a0 :: .ref b :: T) = true) (hn : am_na j = 1) (k1 : am_J X (am_eq (some w) M1 N1) j 0 (am_en j [.ref b, a0]) [] M N) (k2 : am_J X Q i (pc + 3) L (w :: T) M1 N1) : am_J X Q i pc L (a0 :: .ref b :: T) M N := J_Vf j d hc (by rw [hn]; exact k1) (by rw [hn]; exact k2)
theorem J_V1n {idx b : Nat} {M1 : am_M} {N1 : am_N} {a0 : Value} (j : Nat) (d : am_in i pc = some (.invokevirtual idx, 3)) (hc : am_ckV i idx j (a0 :: .ref b :: T) = true) (hn : am_na j = 1) (k1 : am_J X (am_eq (none) M1 N1) j 0 (am_en j [.ref b, a0]) [] M N) (k2 : am_J X Q i (pc + 3) L (T) M1 N1) : am_J X Q i pc L (a0 :: .ref b :: T) M N := J_Vf j d hc (by rw [hn]; exact k1) (by rw [hn]; exact k2)
theorem J_S2s {idx : Nat} {w : Value} {M1 : am_M} {N1 : am_N} {a0 a1 : Value} (j : Nat) (d : am_in i pc = some (.invokestatic idx, 3)) (hc : am_ckS i idx j (a1 :: a0 :: T) = true) (hn : am_na j = 2) (k1 : am_J X (am_eq (some w) M1 N1) j 0 (am_en j [a0, a1]) [] M N) (k2 : am_J X Q i (pc + 3) L (w :: T) M1 N1) : am_J X Q i pc L (a1 :: a0 :: T) M N := J_Sf j d hc (by rw [hn]; exact k1) (by rw [hn]; exact k2)
theorem J_S2n {idx : Nat} {M1 : am_M} {N1 : am_N} {a0 a1 : Value} (j : Nat) (d : am_in i pc = some (.invokestatic idx, 3)) (hc : am_ckS i idx j (a1 :: a0 :: T) = true) (hn : am_na j = 2) (k1 : am_J X (am_eq (none) M1 N1) j 0 (am_en j [a0, a1]) [] M N) (k2 : am_J X Q i (pc + 3) L (T) M1 N1) : am_J X Q i pc L (a1 :: a0 :: T) M N := J_Sf j d hc (by rw [hn]; exact k1) (by rw [hn]; exact k2)
theorem J_V2s {idx b : Nat} {w : Value} {M1 : am_M} {N1 : am_N} {a0 a1 : Value} (j : Nat) (d : am_in i pc = some (.invokevirtual idx, 3)) (hc : am_ckV i idx j (a1 :: a0 :: .ref b :: T) = true) (hn : am_na j = 2) (k1 : am_J X (am_eq (some w) M1 N1) j 0 (am_en j [.ref b, a0, a1]) [] M N) (k2 : am_J X Q i (pc + 3) L (w :: T) M1 N1) : am_J X Q i pc L (a1 :: a0 :: .ref b :: T) M N := J_Vf j d hc (by rw [hn]; exact k1) (by rw [hn]; exact k2)
theorem J_V2n {idx b : Nat} {M1 : am_M} {N1 : am_N} {a0 a1 : Value} (j : Nat) (d : am_in i pc = some (.invokevirtual idx, 3)) (hc : am_ckV i idx j (a1 :: a0 :: .ref b :: T) = true) (hn : am_na j = 2) (k1 : am_J X (am_eq (none) M1 N1) j 0 (am_en j [.ref b, a0, a1]) [] M N) (k2 : am_J X Q i (pc + 3) L (T) M1 N1) : am_J X Q i pc L (a1 :: a0 :: .ref b :: T) M N := J_Vf j d hc (by rw [hn]; exact k1) (by rw [hn]; exact k2)
theorem J_S3s {idx : Nat} {w : Value} {M1 : am_M} {N1 : am_N} {a0 a1 a2 : Value} (j : Nat) (d : am_in i pc = some (.invokestatic idx, 3)) (hc : am_ckS i idx j (a2 :: a1 :: a0 :: T) = true) (hn : am_na j = 3) (k1 : am_J X (am_eq (some w) M1 N1) j 0 (am_en j [a0, a1, a2]) [] M N) (k2 : am_J X Q i (pc + 3) L (w :: T) M1 N1) : am_J X Q i pc L (a2 :: a1 :: a0 :: T) M N := J_Sf j d hc (by rw [hn]; exact k1) (by rw [hn]; exact k2)
theorem J_S3n {idx : Nat} {M1 : am_M} {N1 : am_N} {a0 a1 a2 : Value} (j : Nat) (d : am_in i pc = some (.invokestatic idx, 3)) (hc : am_ckS i idx j (a2 :: a1 :: a0 :: T) = true) (hn : am_na j = 3) (k1 : am_J X (am_eq (none) M1 N1) j 0 (am_en j [a0, a1, a2]) [] M N) (k2 : am_J X Q i (pc + 3) L (T) M1 N1) : am_J X Q i pc L (a2 :: a1 :: a0 :: T) M N := J_Sf j d hc (by rw [hn]; exact k1) (by rw [hn]; exact k2)
theorem J_V3s {idx b : Nat} {w : Value} {M1 : am_M} {N1 : am_N} {a0 a1 a2 : Value} (j : Nat) (d : am_in i pc = some (.invokevirtual idx, 3)) (hc : am_ckV i idx j (a2 :: a1 :: a0 :: .ref b :: T) = true) (hn : am_na j = 3) (k1 : am_J X (am_eq (some w) M1 N1) j 0 (am_en j [.ref b, a0, a1, a2]) [] M N) (k2 : am_J X Q i (pc + 3) L (w :: T) M1 N1) : am_J X Q i pc L (a2 :: a1 :: a0 :: .ref b :: T) M N := J_Vf j d hc (by rw [hn]; exact k1) (by rw [hn]; exact k2)
theorem J_V3n {idx b : Nat} {M1 : am_M} {N1 : am_N} {a0 a1 a2 : Value} (j : Nat) (d : am_in i pc = some (.invokevirtual idx, 3)) (hc : am_ckV i idx j (a2 :: a1 :: a0 :: .ref b :: T) = true) (hn : am_na j = 3) (k1 : am_J X (am_eq (none) M1 N1) j 0 (am_en j [.ref b, a0, a1, a2]) [] M N) (k2 : am_J X Q i (pc + 3) L (T) M1 N1) : am_J X Q i pc L (a2 :: a1 :: a0 :: .ref b :: T) M N := J_Vf j d hc (by rw [hn]; exact k1) (by rw [hn]; exact k2)
theorem J_S4s {idx : Nat} {w : Value} {M1 : am_M} {N1 : am_N} {a0 a1 a2 a3 : Value} (j : Nat) (d : am_in i pc = some (.invokestatic idx, 3)) (hc : am_ckS i idx j (a3 :: a2 :: a1 :: a0 :: T) = true) (hn : am_na j = 4) (k1 : am_J X (am_eq (some w) M1 N1) j 0 (am_en j [a0, a1, a2, a3]) [] M N) (k2 : am_J X Q i (pc + 3) L (w :: T) M1 N1) : am_J X Q i pc L (a3 :: a2 :: a1 :: a0 :: T) M N := J_Sf j d hc (by rw [hn]; exact k1) (by rw [hn]; exact k2)
theorem J_S4n {idx : Nat} {M1 : am_M} {N1 : am_N} {a0 a1 a2 a3 : Value} (j : Nat) (d : am_in i pc = some (.invokestatic idx, 3)) (hc : am_ckS i idx j (a3 :: a2 :: a1 :: a0 :: T) = true) (hn : am_na j = 4) (k1 : am_J X (am_eq (none) M1 N1) j 0 (am_en j [a0, a1, a2, a3]) [] M N) (k2 : am_J X Q i (pc + 3) L (T) M1 N1) : am_J X Q i pc L (a3 :: a2 :: a1 :: a0 :: T) M N := J_Sf j d hc (by rw [hn]; exact k1) (by rw [hn]; exact k2)
theorem J_V4s {idx b : Nat} {w : Value} {M1 : am_M} {N1 : am_N} {a0 a1 a2 a3 : Value} (j : Nat) (d : am_in i pc = some (.invokevirtual idx, 3)) (hc : am_ckV i idx j (a3 :: a2 :: a1 :: a0 :: .ref b :: T) = true) (hn : am_na j = 4) (k1 : am_J X (am_eq (some w) M1 N1) j 0 (am_en j [.ref b, a0, a1, a2, a3]) [] M N) (k2 : am_J X Q i (pc + 3) L (w :: T) M1 N1) : am_J X Q i pc L (a3 :: a2 :: a1 :: a0 :: .ref b :: T) M N := J_Vf j d hc (by rw [hn]; exact k1) (by rw [hn]; exact k2)
theorem J_V4n {idx b : Nat} {M1 : am_M} {N1 : am_N} {a0 a1 a2 a3 : Value} (j : Nat) (d : am_in i pc = some (.invokevirtual idx, 3)) (hc : am_ckV i idx j (a3 :: a2 :: a1 :: a0 :: .ref b :: T) = true) (hn : am_na j = 4) (k1 : am_J X (am_eq (none) M1 N1) j 0 (am_en j [.ref b, a0, a1, a2, a3]) [] M N) (k2 : am_J X Q i (pc + 3) L (T) M1 N1) : am_J X Q i pc L (a3 :: a2 :: a1 :: a0 :: .ref b :: T) M N := J_Vf j d hc (by rw [hn]; exact k1) (by rw [hn]; exact k2)
theorem J_S5s {idx : Nat} {w : Value} {M1 : am_M} {N1 : am_N} {a0 a1 a2 a3 a4 : Value} (j : Nat) (d : am_in i pc = some (.invokestatic idx, 3)) (hc : am_ckS i idx j (a4 :: a3 :: a2 :: a1 :: a0 :: T) = true) (hn : am_na j = 5) (k1 : am_J X (am_eq (some w) M1 N1) j 0 (am_en j [a0, a1, a2, a3, a4]) [] M N) (k2 : am_J X Q i (pc + 3) L (w :: T) M1 N1) : am_J X Q i pc L (a4 :: a3 :: a2 :: a1 :: a0 :: T) M N := J_Sf j d hc (by rw [hn]; exact k1) (by rw [hn]; exact k2)
theorem J_S5n {idx : Nat} {M1 : am_M} {N1 : am_N} {a0 a1 a2 a3 a4 : Value} (j : Nat) (d : am_in i pc = some (.invokestatic idx, 3)) (hc : am_ckS i idx j (a4 :: a3 :: a2 :: a1 :: a0 :: T) = true) (hn : am_na j = 5) (k1 : am_J X (am_eq (none) M1 N1) j 0 (am_en j [a0, a1, a2, a3, a4]) [] M N) (k2 : am_J X Q i (pc + 3) L (T) M1 N1) : am_J X Q i pc L (a4 :: a3 :: a2 :: a1 :: a0 :: T) M N := J_Sf j d hc (by rw [hn]; exact k1) (by rw [hn]; exact k2)
theorem J_V5s {idx b : Nat} {w : Value} {M1 : am_M} {N1 : am_N} {a0 a1 a2 a3 a4 : Value} (j : Nat) (d : am_in i pc = some (.invokevirtual idx, 3)) (hc : am_ckV i idx j (a4 :: a3 :: a2 :: a1 :: a0 :: .ref b :: T) = true) (hn : am_na j = 5) (k1 : am_J X (am_eq (some w) M1 N1) j 0 (am_en j [.ref b, a0, a1, a2, a3, a4]) [] M N) (k2 : am_J X Q i (pc + 3) L (w :: T) M1 N1) : am_J X Q i pc L (a4 :: a3 :: a2 :: a1 :: a0 :: .ref b :: T) M N := J_Vf j d hc (by rw [hn]; exact k1) (by rw [hn]; exact k2)
theorem J_V5n {idx b : Nat} {M1 : am_M} {N1 : am_N} {a0 a1 a2 a3 a4 : Value} (j : Nat) (d : am_in i pc = some (.invokevirtual idx, 3)) (hc : am_ckV i idx j (a4 :: a3 :: a2 :: a1 :: a0 :: .ref b :: T) = true) (hn : am_na j = 5) (k1 : am_J X (am_eq (none) M1 N1) j 0 (am_en j [.ref b, a0, a1, a2, a3, a4]) [] M N) (k2 : am_J X Q i (pc + 3) L (T) M1 N1) : am_J X Q i pc L (a4 :: a3 :: a2 :: a1 :: a0 :: .ref b :: T) M N := J_Vf j d hc (by rw [hn]; exact k1) (by rw [hn]; exact k2)
theorem J_S6s {idx : Nat} {w : Value} {M1 : am_M} {N1 : am_N} {a0 a1 a2 a3 a4 a5 : Value} (j : Nat) (d : am_in i pc = some (.invokestatic idx, 3)) (hc : am_ckS i idx j (a5 :: a4 :: a3 :: a2 :: a1 :: a0 :: T) = true) (hn : am_na j = 6) (k1 : am_J X (am_eq (some w) M1 N1) j 0 (am_en j [a0, a1, a2, a3, a4, a5]) [] M N) (k2 : am_J X Q i (pc + 3) L (w :: T) M1 N1) : am_J X Q i pc L (a5 :: a4 :: a3 :: a2 :: a1 :: a0 :: T) M N := J_Sf j d hc (by rw [hn]; exact k1) (by rw [hn]; exact k2)
theorem J_S6n {idx : Nat} {M1 : am_M} {N1 : am_N} {a0 a1 a2 a3 a4 a5 : Value} (j : Nat) (d : am_in i pc = some (.invokestatic idx, 3)) (hc : am_ckS i idx j (a5 :: a4 :: a3 :: a2 :: a1 :: a0 :: T) = true) (hn : am_na j = 6) (k1 : am_J X (am_eq (none) M1 N1) j 0 (am_en j [a0, a1, a2, a3, a4, a5]) [] M N) (k2 : am_J X Q i (pc + 3) L (T) M1 N1) : am_J X Q i pc L (a5 :: a4 :: a3 :: a2 :: a1 :: a0 :: T) M N := J_Sf j d hc (by rw [hn]; exact k1) (by rw [hn]; exact k2)
theorem J_V6s {idx b : Nat} {w : Value} {M1 : am_M} {N1 : am_N} {a0 a1 a2 a3 a4 a5 : Value} (j : Nat) (d : am_in i pc = some (.invokevirtual idx, 3)) (hc : am_ckV i idx j (a5 :: a4 :: a3 :: a2 :: a1 :: a0 :: .ref b :: T) = true) (hn : am_na j = 6) (k1 : am_J X (am_eq (some w) M1 N1) j 0 (am_en j [.ref b, a0, a1, a2, a3, a4, a5]) [] M N) (k2 : am_J X Q i (pc + 3) L (w :: T) M1 N1) : am_J X Q i pc L (a5 :: a4 :: a3 :: a2 :: a1 :: a0 :: .ref b :: T) M N := J_Vf j d hc (by rw [hn]; exact k1) (by rw [hn]; exact k2)
theorem J_V6n {idx b : Nat} {M1 : am_M} {N1 : am_N} {a0 a1 a2 a3 a4 a5 : Value} (j : Nat) (d : am_in i pc = some (.invokevirtual idx, 3)) (hc : am_ckV i idx j (a5 :: a4 :: a3 :: a2 :: a1 :: a0 :: .ref b :: T) = true) (hn : am_na j = 6) (k1 : am_J X (am_eq (none) M1 N1) j 0 (am_en j [.ref b, a0, a1, a2, a3, a4, a5]) [] M N) (k2 : am_J X Q i (pc + 3) L (T) M1 N1) : am_J X Q i pc L (a5 :: a4 :: a3 :: a2 :: a1 :: a0 :: .ref b :: T) M N := J_Vf j d hc (by rw [hn]; exact k1) (by rw [hn]; exact k2)
theorem J_S7s {idx : Nat} {w : Value} {M1 : am_M} {N1 : am_N} {a0 a1 a2 a3 a4 a5 a6 : Value} (j : Nat) (d : am_in i pc = some (.invokestatic idx, 3)) (hc : am_ckS i idx j (a6 :: a5 :: a4 :: a3 :: a2 :: a1 :: a0 :: T) = true) (hn : am_na j = 7) (k1 : am_J X (am_eq (some w) M1 N1) j 0 (am_en j [a0, a1, a2, a3, a4, a5, a6]) [] M N) (k2 : am_J X Q i (pc + 3) L (w :: T) M1 N1) : am_J X Q i pc L (a6 :: a5 :: a4 :: a3 :: a2 :: a1 :: a0 :: T) M N := J_Sf j d hc (by rw [hn]; exact k1) (by rw [hn]; exact k2)
theorem J_S7n {idx : Nat} {M1 : am_M} {N1 : am_N} {a0 a1 a2 a3 a4 a5 a6 : Value} (j : Nat) (d : am_in i pc = some (.invokestatic idx, 3)) (hc : am_ckS i idx j (a6 :: a5 :: a4 :: a3 :: a2 :: a1 :: a0 :: T) = true) (hn : am_na j = 7) (k1 : am_J X (am_eq (none) M1 N1) j 0 (am_en j [a0, a1, a2, a3, a4, a5, a6]) [] M N) (k2 : am_J X Q i (pc + 3) L (T) M1 N1) : am_J X Q i pc L (a6 :: a5 :: a4 :: a3 :: a2 :: a1 :: a0 :: T) M N := J_Sf j d hc (by rw [hn]; exact k1) (by rw [hn]; exact k2)
theorem J_V7s {idx b : Nat} {w : Value} {M1 : am_M} {N1 : am_N} {a0 a1 a2 a3 a4 a5 a6 : Value} (j : Nat) (d : am_in i pc = some (.invokevirtual idx, 3)) (hc : am_ckV i idx j (a6 :: a5 :: a4 :: a3 :: a2 :: a1 :: a0 :: .ref b :: T) = true) (hn : am_na j = 7) (k1 : am_J X (am_eq (some w) M1 N1) j 0 (am_en j [.ref b, a0, a1, a2, a3, a4, a5, a6]) [] M N) (k2 : am_J X Q i (pc + 3) L (w :: T) M1 N1) : am_J X Q i pc L (a6 :: a5 :: a4 :: a3 :: a2 :: a1 :: a0 :: .ref b :: T) M N := J_Vf j d hc (by rw [hn]; exact k1) (by rw [hn]; exact k2)
theorem J_V7n {idx b : Nat} {M1 : am_M} {N1 : am_N} {a0 a1 a2 a3 a4 a5 a6 : Value} (j : Nat) (d : am_in i pc = some (.invokevirtual idx, 3)) (hc : am_ckV i idx j (a6 :: a5 :: a4 :: a3 :: a2 :: a1 :: a0 :: .ref b :: T) = true) (hn : am_na j = 7) (k1 : am_J X (am_eq (none) M1 N1) j 0 (am_en j [.ref b, a0, a1, a2, a3, a4, a5, a6]) [] M N) (k2 : am_J X Q i (pc + 3) L (T) M1 N1) : am_J X Q i pc L (a6 :: a5 :: a4 :: a3 :: a2 :: a1 :: a0 :: .ref b :: T) M N := J_Vf j d hc (by rw [hn]; exact k1) (by rw [hn]; exact k2)
end AMC
