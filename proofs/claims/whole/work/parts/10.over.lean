/-! ===== the cells once both objects are made; the judgement over them ===== -/
def am_SH : List am_E := [.inr (10, [some 1, some 18, some 26, some 32, some 40, some 46, some 52, some 59, some 77, some 110, some 112, none]), .inr (8, [some 2, some 8, some 9, some 10, some 11, some 12, some 13, some 14, some 15, some 16, some 17, none]), .inl (2, 5), .inl (0, 60), .inl (0, 60), .inl (0, 60), .inl (0, 60), .inl (0, 60), .inl (0, 36), .inl (0, 36), .inl (0, 36), .inl (0, 36), .inl (0, 12), .inl (0, 12), .inl (1, 48), .inl (0, 48), .inl (0, 48), .inl (0, 3), .inr (0, [some 19, some 20, some 21, some 22, some 23, some 24, some 25, none]), .inl (0, 5), .inl (0, 5), .inl (0, 5), .inl (0, 5), .inl (0, 5), .inl (0, 5), .inl (0, 5), .inr (5, [some 27, some 28, some 29, some 30, some 31, none]), .inl (0, 6), .inl (0, 6), .inl (0, 6), .inl (0, 6), .inl (0, 6), .inr (2, [some 33, some 34, some 35, some 36, some 37, some 38, some 39, none]), .inl (0, 16), .inl (0, 16), .inl (0, 16), .inl (0, 16), .inl (0, 16), .inl (0, 16), .inl (1, 16), .inr (1, [some 1, some 41, some 42, some 43, some 44, some 45, none, none, none, none, none, none, none, none, none]), .inl (0, 60), .inl (0, 60), .inl (0, 60), .inl (0, 720), .inl (0, 3), .inr (1, [some 1, some 47, some 48, some 49, some 50, some 51, none, none, none, none, none, none, none, none, none]), .inl (0, 60), .inl (0, 60), .inl (0, 60), .inl (0, 720), .inl (0, 3), .inr (4, [some 1, some 18, some 40, some 53, none]), .inl (2, 5), .inl (0, 720), .inl (0, 720), .inl (0, 720), .inl (0, 720), .inl (0, 720), .inr (7, [some 18, some 26, some 32, some 52, some 60]), .inl (2, 16), .inl (0, 5), .inl (0, 5), .inl (0, 5), .inl (0, 5), .inl (0, 5), .inl (0, 5), .inl (0, 5), .inl (0, 5), .inl (0, 5), .inl (0, 5), .inl (0, 5), .inl (0, 5), .inl (0, 5), .inl (0, 5), .inl (0, 5), .inl (0, 5), .inr (3, [some 1, some 18, some 26, some 32, some 52, some 59, some 40, some 78, some 79, some 107, some 108, some 109]), .inl (0, 3), .inl (2, 27), .inl (0, 30), .inl (0, 30), .inl (0, 30), .inl (0, 30), .inl (0, 30), .inl (0, 30), .inl (0, 30), .inl (0, 30), .inl (0, 30), .inl (0, 30), .inl (0, 30), .inl (0, 30), .inl (0, 30), .inl (0, 30), .inl (0, 30), .inl (0, 30), .inl (0, 30), .inl (0, 30), .inl (0, 30), .inl (0, 30), .inl (0, 30), .inl (0, 30), .inl (0, 30), .inl (0, 30), .inl (0, 30), .inl (0, 30), .inl (0, 30), .inl (0, 27), .inl (0, 30), .inl (0, 60), .inr (9, [some 111, none, none]), .inl (0, 120), .inr (6, [some 113, some 114, some 115, some 116, some 117, some 118, some 119, none]), .inl (0, 8), .inl (0, 8), .inl (1, 24), .inl (0, 24), .inl (0, 24), .inl (0, 24), .inl (0, 5), .inr (11, [some 121, some 122, some 123, some 124, some 125, some 126, some 127, some 128, some 129, some 130, some 131, some 132, some 133, some 134, some 135, some 136, some 137, some 138, some 139, some 140, some 141, some 142, none, some 143, some 144, some 145, some 146, none, none, none, some 147, some 148, some 149, some 150, some 151, some 152, some 153, some 154, some 155, some 156, some 157, some 158, some 159, none, none, none, some 160, some 161, some 162, none, some 163, some 164, some 165, some 166, some 167, none, none, none, none]), .inl (0, 60), .inl (0, 60), .inl (0, 60), .inl (0, 60), .inl (0, 60), .inl (0, 36), .inl (0, 36), .inl (0, 36), .inl (0, 36), .inl (0, 3), .inl (0, 12), .inl (0, 12), .inl (0, 48), .inl (0, 48), .inl (1, 48), .inl (0, 5), .inl (0, 5), .inl (0, 5), .inl (0, 5), .inl (0, 5), .inl (0, 5), .inl (0, 5), .inl (0, 60), .inl (0, 60), .inl (0, 60), .inl (0, 720), .inl (1, 60), .inl (0, 6), .inl (0, 6), .inl (0, 6), .inl (0, 6), .inl (0, 6), .inl (0, 16), .inl (0, 16), .inl (0, 16), .inl (0, 16), .inl (0, 16), .inl (0, 16), .inl (1, 16), .inl (0, 16), .inl (0, 3), .inl (0, 3), .inl (0, 60), .inl (0, 120), .inl (0, 8), .inl (0, 8), .inl (0, 96)]
abbrev am_X : Type := Launch × va_G × am_G × Nat × (Nat → Nat) × Value × Nat × (Nat → Int32)
def am_J (X : am_X) (Q : am_Q) (i pc : Nat) (L S : am_V) (M : am_M) (N : am_N) : Prop := am_SW X.1 X.2.1 X.2.2.1 X.2.2.2.1 X.2.2.2.2.1 X.2.2.2.2.2.1 X.2.2.2.2.2.2.1 X.2.2.2.2.2.2.2 Q am_SH i pc L S am_SH M N
def am_eq (v : Option Value) (M : am_M) (N : am_N) : am_Q := fun r M1 N1 => r = v ∧ M1 = M ∧ N1 = N
def am_gf (i idx k : Nat) (M : am_M) (N : am_N) : Option Value := match am_fl i idx with
  | some (ci, j) => match am_SH[k]? with
    | some (.inr (ci2, rs)) => if ci2 = ci then am_rd M N k ci j rs else none
    | _ => none
  | none => none
/-- one instruction that neither writes a cell, nor calls, nor parts the ways -/
def am_one (t : List (Nat × Instr × Nat)) (i pc : Nat) (L S : am_V) (M : am_M) (N : am_N) : Option (Nat × am_V × am_V) := match t.lookup pc with
  | none => none
  | some (ins, n) => match ins with
    | .goto off => if n = 3 then (if (0 : Int) ≤ (pc : Int) + off then some (((pc : Int) + off).toNat, L, S) else none) else none
    | .getfield idx => if n = 3 then (match S with
      | .ref k :: T => (match am_gf i idx k M N with
        | some v => some (pc + 3, L, v :: T)
        | none => none)
      | _ => none) else none
    | .ldc idx => if n = 2 then (match am_ki i idx with
      | some v => some (pc + 2, L, .int v :: S)
      | none => none) else none
    | .ldc_w idx => if n = 3 then (match am_ki i idx with
      | some v => some (pc + 3, L, .int v :: S)
      | none => none) else none
    | .ldc2_w idx => if n = 3 then (match am_kl i idx with
      | some v => some (pc + 3, L, .long v :: S)
      | none => none) else none
    | ins => if n = am_ln ins then (match am_q ins L S with
      | some (L2, S2) => some (pc + n, L2, S2)
      | none => none) else none
def am_b : Nat → List (Nat × Instr × Nat) → Nat → Nat → am_V → am_V → am_M → am_N → Option (Nat × am_V × am_V)
  | 0, _, _, pc, L, S, _, _ => some (pc, L, S)
  | n + 1, t, i, pc, L, S, M, N => match am_one t i pc L S M N with
    | some (pc2, L2, S2) => am_b n t i pc2 L2 S2 M N
    | none => none
section AMJ
variable {X : am_X} {Q Q1 : am_Q} {i pc : Nat} {L S : am_V} {M : am_M} {N : am_N}
theorem J_gf {idx k : Nat} {v : Value} (d : am_in i pc = some (.getfield idx, 3)) (h : am_gf i idx k M N = some v) (kk : am_J X Q i (pc + 3) L (v :: S) M N) : am_J X Q i pc L (.ref k :: S) M N := by
  unfold am_gf at h
  split at h
  · rename_i ci j hf
    split at h
    · rename_i ci2 rs hk
      split at h
      · rename_i e
        subst e
        exact sw_getf d hf hk h kk
      · cases h
    · cases h
  · cases h
theorem J_s1 {t : List (Nat × Instr × Nat)} (ht : ∀ {pc : Nat} {x : Instr × Nat}, t.lookup pc = some x → am_in i pc = some x) {pc2 : Nat} {L2 S2 : am_V} (h : am_one t i pc L S M N = some (pc2, L2, S2)) (kk : am_J X Q i pc2 L2 S2 M N) : am_J X Q i pc L S M N := by
  unfold am_one at h
  split at h
  · cases h
  · rename_i ins n hl
    have d := ht hl
    split at h
    · split at h
      · rename_i off hn
        subst hn
        split at h
        · rename_i h0
          cases h
          exact sw_goto _ d (by omega) kk
        · cases h
      · cases h
    · split at h
      · rename_i idx hn
        subst hn
        split at h
        · split at h
          · rename_i v hv
            cases h
            exact J_gf d hv kk
          · cases h
        · cases h
      · cases h
    · split at h
      · rename_i idx hn
        subst hn
        split at h
        · rename_i v hv
          cases h
          exact sw_ldc d hv kk
        · cases h
      · cases h
    · split at h
      · rename_i idx hn
        subst hn
        split at h
        · rename_i v hv
          cases h
          exact sw_ldcw d hv kk
        · cases h
      · cases h
    · split at h
      · rename_i idx hn
        subst hn
        split at h
        · rename_i v hv
          cases h
          exact sw_ldc2 d hv kk
        · cases h
      · cases h
    · split at h
      · rename_i hn
        subst hn
        split at h
        · rename_i hq
          cases h
          exact sw_q d hq kk
        · cases h
      · cases h
theorem J_b {t : List (Nat × Instr × Nat)} (n : Nat) (ht : ∀ {pc : Nat} {x : Instr × Nat}, t.lookup pc = some x → am_in i pc = some x) {pc2 : Nat} {L2 S2 : am_V} (h : am_b n t i pc L S M N = some (pc2, L2, S2)) (kk : am_J X Q i pc2 L2 S2 M N) : am_J X Q i pc L S M N := by
  induction n generalizing pc L S with
  | zero =>
    cases h
    exact kk
  | succ n ih =>
    unfold am_b at h
    split at h
    · rename_i h1
      exact J_s1 ht h1 (ih h)
    · cases h
theorem J_fg (j : Nat) (k : am_J X Q i pc (L.set j (.retAddr 0)) S M N) : am_J X Q i pc L S M N := sw_fg j k
theorem J_if_eq {x : Int32} {off : Int} (tgt : Nat) (d : am_in i pc = some (.ifCond .eq off, 3)) (ht : (pc : Int) + off = (tgt : Int)) (kt : x = 0 → am_J X Q i tgt L S M N) (kf : ¬ x = 0 → am_J X Q i (pc + 3) L S M N) : am_J X Q i pc L (.int x :: S) M N := sw_if_eq tgt d ht kt kf
theorem J_icmp_eq {x y : Int32} {off : Int} (tgt : Nat) (d : am_in i pc = some (.if_icmp .eq off, 3)) (ht : (pc : Int) + off = (tgt : Int)) (kt : x = y → am_J X Q i tgt L S M N) (kf : ¬ x = y → am_J X Q i (pc + 3) L S M N) : am_J X Q i pc L (.int y :: .int x :: S) M N := sw_icmp_eq tgt d ht kt kf
theorem J_if_ne {x : Int32} {off : Int} (tgt : Nat) (d : am_in i pc = some (.ifCond .ne off, 3)) (ht : (pc : Int) + off = (tgt : Int)) (kt : ¬ x = 0 → am_J X Q i tgt L S M N) (kf : x = 0 → am_J X Q i (pc + 3) L S M N) : am_J X Q i pc L (.int x :: S) M N := sw_if_ne tgt d ht kt kf
theorem J_icmp_ne {x y : Int32} {off : Int} (tgt : Nat) (d : am_in i pc = some (.if_icmp .ne off, 3)) (ht : (pc : Int) + off = (tgt : Int)) (kt : ¬ x = y → am_J X Q i tgt L S M N) (kf : x = y → am_J X Q i (pc + 3) L S M N) : am_J X Q i pc L (.int y :: .int x :: S) M N := sw_icmp_ne tgt d ht kt kf
theorem J_if_lt {x : Int32} {off : Int} (tgt : Nat) (d : am_in i pc = some (.ifCond .lt off, 3)) (ht : (pc : Int) + off = (tgt : Int)) (kt : x < 0 → am_J X Q i tgt L S M N) (kf : ¬ x < 0 → am_J X Q i (pc + 3) L S M N) : am_J X Q i pc L (.int x :: S) M N := sw_if_lt tgt d ht kt kf
theorem J_icmp_lt {x y : Int32} {off : Int} (tgt : Nat) (d : am_in i pc = some (.if_icmp .lt off, 3)) (ht : (pc : Int) + off = (tgt : Int)) (kt : x < y → am_J X Q i tgt L S M N) (kf : ¬ x < y → am_J X Q i (pc + 3) L S M N) : am_J X Q i pc L (.int y :: .int x :: S) M N := sw_icmp_lt tgt d ht kt kf
theorem J_if_ge {x : Int32} {off : Int} (tgt : Nat) (d : am_in i pc = some (.ifCond .ge off, 3)) (ht : (pc : Int) + off = (tgt : Int)) (kt : 0 ≤ x → am_J X Q i tgt L S M N) (kf : ¬ 0 ≤ x → am_J X Q i (pc + 3) L S M N) : am_J X Q i pc L (.int x :: S) M N := sw_if_ge tgt d ht kt kf
theorem J_icmp_ge {x y : Int32} {off : Int} (tgt : Nat) (d : am_in i pc = some (.if_icmp .ge off, 3)) (ht : (pc : Int) + off = (tgt : Int)) (kt : y ≤ x → am_J X Q i tgt L S M N) (kf : ¬ y ≤ x → am_J X Q i (pc + 3) L S M N) : am_J X Q i pc L (.int y :: .int x :: S) M N := sw_icmp_ge tgt d ht kt kf
theorem J_if_gt {x : Int32} {off : Int} (tgt : Nat) (d : am_in i pc = some (.ifCond .gt off, 3)) (ht : (pc : Int) + off = (tgt : Int)) (kt : 0 < x → am_J X Q i tgt L S M N) (kf : ¬ 0 < x → am_J X Q i (pc + 3) L S M N) : am_J X Q i pc L (.int x :: S) M N := sw_if_gt tgt d ht kt kf
theorem J_icmp_gt {x y : Int32} {off : Int} (tgt : Nat) (d : am_in i pc = some (.if_icmp .gt off, 3)) (ht : (pc : Int) + off = (tgt : Int)) (kt : y < x → am_J X Q i tgt L S M N) (kf : ¬ y < x → am_J X Q i (pc + 3) L S M N) : am_J X Q i pc L (.int y :: .int x :: S) M N := sw_icmp_gt tgt d ht kt kf
theorem J_if_le {x : Int32} {off : Int} (tgt : Nat) (d : am_in i pc = some (.ifCond .le off, 3)) (ht : (pc : Int) + off = (tgt : Int)) (kt : x ≤ 0 → am_J X Q i tgt L S M N) (kf : ¬ x ≤ 0 → am_J X Q i (pc + 3) L S M N) : am_J X Q i pc L (.int x :: S) M N := sw_if_le tgt d ht kt kf
theorem J_icmp_le {x y : Int32} {off : Int} (tgt : Nat) (d : am_in i pc = some (.if_icmp .le off, 3)) (ht : (pc : Int) + off = (tgt : Int)) (kt : x ≤ y → am_J X Q i tgt L S M N) (kf : ¬ x ≤ y → am_J X Q i (pc + 3) L S M N) : am_J X Q i pc L (.int y :: .int x :: S) M N := sw_icmp_le tgt d ht kt kf
theorem J_tsIn {dflt lo hi : Int} {offs : Array Int} {len : Nat} {x : Int32} {off : Int} (tgt : Nat) (d : am_in i pc = some (.tableswitch dflt lo hi offs, len)) (h1 : ¬ x.toInt < lo) (h2 : ¬ hi < x.toInt) (ho : offs[(x.toInt - lo).toNat]? = some off) (ht : (pc : Int) + off = (tgt : Int)) (k : am_J X Q i tgt L S M N) : am_J X Q i pc L (.int x :: S) M N := sw_tsIn tgt d h1 h2 ho ht k
theorem J_tsOut {dflt lo hi : Int} {offs : Array Int} {len : Nat} {x : Int32} (tgt : Nat) (d : am_in i pc = some (.tableswitch dflt lo hi offs, len)) (h : x.toInt < lo ∨ hi < x.toInt) (ht : (pc : Int) + dflt = (tgt : Int)) (k : am_J X Q i tgt L S M N) : am_J X Q i pc L (.int x :: S) M N := sw_tsOut tgt d h ht k
theorem J_ls {dflt : Int} {ps : Array (Int × Int)} {len : Nat} {x : Int32} {off : Int} (tgt : Nat) (d : am_in i pc = some (.lookupswitch dflt ps, len)) (hp : (ps.toList.zip (ps.toList.drop 1)).all (fun (a, next) => a.1 < next.1) = true) (ho : Op.lookupswitch.offset ps.toList dflt x.toInt = off) (ht : (pc : Int) + off = (tgt : Int)) (k : am_J X Q i tgt L S M N) : am_J X Q i pc L (.int x :: S) M N := sw_ls tgt d hp ho ht k
theorem J_ret (d : am_in i pc = some (.return_, 1)) (hr : am_rt i = none) (hq : Q none M N) : am_J X Q i pc L [] M N := sw_ret d hr hq
theorem J_iret {v : Int32} {ty : FieldType} (d : am_in i pc = some (.ireturn, 1)) (hr : am_rt i = some ty) (hn : narrow ty (.int v) = .int v) (hq : Q (some (.int v)) M N) : am_J X Q i pc L [.int v] M N := sw_iret d hr hn hq
theorem J_lret {v : Int64} (d : am_in i pc = some (.lreturn, 1)) (hr : am_rt i = some .long) (hq : Q (some (.long v)) M N) : am_J X Q i pc L [.long v] M N := sw_lret d hr hq
theorem J_iald {k n : Nat} {x : Int32} (d : am_in i pc = some (.iaload, 1)) (hk : am_SH[k]? = some (.inl (0, n))) (hi : vp_in x n) (kk : am_J X Q i (pc + 1) L (.int (M k x.toNatClampNeg) :: S) M N) : am_J X Q i pc L (.int x :: .ref k :: S) M N := sw_iald d hk hi kk
theorem J_zald {k n : Nat} {x : Int32} (d : am_in i pc = some (.baload, 1)) (hk : am_SH[k]? = some (.inl (1, n))) (hi : vp_in x n) (kk : am_J X Q i (pc + 1) L (.int (M k x.toNatClampNeg) :: S) M N) : am_J X Q i pc L (.int x :: .ref k :: S) M N := sw_zald d hk hi kk
theorem J_iast {k n : Nat} {x y : Int32} (d : am_in i pc = some (.iastore, 1)) (hk : am_SH[k]? = some (.inl (0, n))) (hi : vp_in x n) (kk : am_J X Q i (pc + 1) L S (am_up M k x.toNatClampNeg y) N) : am_J X Q i pc L (.int y :: .int x :: .ref k :: S) M N := sw_iast d hk hi kk
theorem J_zast {k n : Nat} {x y : Int32} (d : am_in i pc = some (.bastore, 1)) (hk : am_SH[k]? = some (.inl (1, n))) (hi : vp_in x n) (kk : am_J X Q i (pc + 1) L S (am_up M k x.toNatClampNeg (vp_nar .boolean y)) N) : am_J X Q i pc L (.int y :: .int x :: .ref k :: S) M N := sw_zast d hk hi kk
theorem J_aald {k n : Nat} {x : Int32} (d : am_in i pc = some (.aaload, 1)) (hk : am_SH[k]? = some (.inl (2, n))) (hi : vp_in x n) (kk : am_J X Q i (pc + 1) L (.ref (k + 1 + x.toNatClampNeg) :: S) M N) : am_J X Q i pc L (.int x :: .ref k :: S) M N := sw_aald d hk hi kk
theorem J_alen {k t n : Nat} (d : am_in i pc = some (.arraylength, 1)) (hk : am_SH[k]? = some (.inl (t, n))) (kk : am_J X Q i (pc + 1) L (.int (Int32.ofNat n) :: S) M N) : am_J X Q i pc L (.ref k :: S) M N := sw_alen d hk kk
def am_pf (i idx k : Nat) : Option (Nat × Bool) := match am_fl i idx with
  | some (ci, j) => match am_SH[k]? with
    | some (.inr (ci2, _)) => if ci2 = ci then (if (am_Tf ci j).2.2.2 then none else (match am_tf ci j with
      | .int => some (j, true)
      | .long => some (j, false)
      | _ => none)) else none
    | _ => none
  | none => none
theorem J_puti {idx k j : Nat} {x : Int32} (d : am_in i pc = some (.putfield idx, 3)) (h : am_pf i idx k = some (j, true)) (kk : am_J X Q i (pc + 3) L S (am_up M k j x) N) : am_J X Q i pc L (.int x :: .ref k :: S) M N := by
  unfold am_pf at h
  split at h
  · rename_i ci j2 hf
    split at h
    · rename_i ci2 rs hk
      split at h
      · rename_i e
        subst e
        split at h
        · cases h
        · rename_i hfin
          split at h
          · rename_i ht
            cases h
            exact sw_puti d hf hk ht (by simpa using hfin) kk
          · cases h
          · cases h
      · cases h
    · cases h
  · cases h
theorem J_putl {idx k j : Nat} {x : Int64} (d : am_in i pc = some (.putfield idx, 3)) (h : am_pf i idx k = some (j, false)) (kk : am_J X Q i (pc + 3) L S M (am_upL N k j x)) : am_J X Q i pc L (.long x :: .ref k :: S) M N := by
  unfold am_pf at h
  split at h
  · rename_i ci j2 hf
    split at h
    · rename_i ci2 rs hk
      split at h
      · rename_i e
        subst e
        split at h
        · cases h
        · rename_i hfin
          split at h
          · cases h
          · rename_i ht
            cases h
            exact sw_putl d hf hk ht (by simpa using hfin) kk
          · cases h
      · cases h
    · cases h
  · cases h
/-! calls: what a program decides of them -/
def am_ckr (i j : Nat) (As S0 : am_V) : Bool := decide (As.length = am_na j + (if am_sta.contains j then 0 else 1)) && (decide ((am_ent As).length ≤ am_mx j) && (decide (am_fr j + 1 ≤ am_fr i) && (decide (8 + (am_mx j + 11) + am_lo j ≤ am_lo i) && (decide ((S0.map fun v => v.category).sum ≤ 8) && am_ini.contains (am_ow j)))))
theorem am_ckr_ok {i j : Nat} {As S0 : am_V} (h : am_ckr i j As S0 = true) : am_cok i j As S0 := by
  unfold am_ckr at h
  simp only [Bool.and_eq_true, decide_eq_true_eq] at h
  exact h
def am_ckS (i idx j : Nat) (S : am_V) : Bool := (match am_cl i idx with
  | some (j2, _) => j2 == j
  | none => false) && (am_sta.contains j && (am_ckr i j (S.take (am_na j)).reverse (S.drop (am_na j)) && decide (am_ow i < 19)))
theorem am_split (S : am_V) (n : Nat) : S = ((S.take n).reverse).reverse ++ S.drop n := by rw [List.reverse_reverse, List.take_append_drop]
theorem J_S {idx : Nat} (j : Nat) (d : am_in i pc = some (.invokestatic idx, 3)) (hc : am_ckS i idx j S = true) (k1 : am_J X Q1 j 0 (am_en j (S.take (am_na j)).reverse) [] M N) (k2 : ∀ (r : Option Value) (M1 : am_M) (N1 : am_N), Q1 r M1 N1 → am_J X Q i (pc + 3) L (r.toList ++ S.drop (am_na j)) M1 N1) : am_J X Q i pc L S M N := by
  unfold am_ckS at hc
  simp only [Bool.and_eq_true, decide_eq_true_eq] at hc
  obtain ⟨h1, h2, h3, h4⟩ := hc
  split at h1
  · rename_i j2 b hl
    have e : j2 = j := by simpa using h1
    subst e
    cases b with
    | false => exact sw_callS d hl h2 (am_split S _) (am_ckr_ok h3) ⟨Nat.le_refl _, Nat.le_refl _⟩ k1 k2
    | true => exact sw_callSN h4 d hl h2 (am_split S _) (am_ckr_ok h3) ⟨Nat.le_refl _, Nat.le_refl _⟩ k1 k2
  · cases h1
def am_ckV (i idx j : Nat) (S : am_V) : Bool := (match am_cl i idx with
  | some (j2, false) => j2 == j
  | _ => false) && ((am_sta.contains j == false) && (am_ins.contains j && (am_sel.contains j && (am_ckr i j (S.take (am_na j + 1)).reverse (S.drop (am_na j + 1)) && ((match (S.take (am_na j + 1)).reverse with
    | .ref b :: _ => (match am_SH[b]? with
      | some (.inr (ci, _)) => (ci == am_ow j) && decide (am_ow j < 12)
      | _ => false)
    | _ => false))))))
theorem J_V {idx : Nat} (j : Nat) (d : am_in i pc = some (.invokevirtual idx, 3)) (hc : am_ckV i idx j S = true) (k1 : am_J X Q1 j 0 (am_en j (S.take (am_na j + 1)).reverse) [] M N) (k2 : ∀ (r : Option Value) (M1 : am_M) (N1 : am_N), Q1 r M1 N1 → am_J X Q i (pc + 3) L (r.toList ++ S.drop (am_na j + 1)) M1 N1) : am_J X Q i pc L S M N := by
  unfold am_ckV at hc
  simp only [Bool.and_eq_true, decide_eq_true_eq] at hc
  obtain ⟨h1, h2, h3, h4, h5, h6⟩ := hc
  have h2' : am_sta.contains j = false := by simpa using h2
  split at h1
  · rename_i j2 hl
    have e : j2 = j := by simpa using h1
    subst e
    have hS := am_split S (am_na j2 + 1)
    generalize (S.take (am_na j2 + 1)).reverse = As at hS h5 h6 k1
    split at h6
    · rename_i b As2
      split at h6
      · rename_i ci rs hk
        simp only [Bool.and_eq_true, decide_eq_true_eq, beq_iff_eq] at h6
        obtain ⟨rfl, h7⟩ := h6
        rw [List.reverse_cons, List.append_assoc] at hS
        exact sw_callV d hl h2' h3 h4 hS hk h7 (am_ckr_ok h5) ⟨Nat.le_refl _, Nat.le_refl _⟩ k1 k2
      · cases h6
    · cases h6
  · cases h1
/-- a call whose answer and whose cells behind it are known -/
theorem J_Sf {idx : Nat} {v : Option Value} {M1 : am_M} {N1 : am_N} (j : Nat) (d : am_in i pc = some (.invokestatic idx, 3)) (hc : am_ckS i idx j S = true) (k1 : am_J X (am_eq v M1 N1) j 0 (am_en j (S.take (am_na j)).reverse) [] M N) (k2 : am_J X Q i (pc + 3) L (v.toList ++ S.drop (am_na j)) M1 N1) : am_J X Q i pc L S M N := J_S j d hc k1 (fun r M2 N2 h => by obtain ⟨rfl, rfl, rfl⟩ := h; exact k2)
theorem J_Vf {idx : Nat} {v : Option Value} {M1 : am_M} {N1 : am_N} (j : Nat) (d : am_in i pc = some (.invokevirtual idx, 3)) (hc : am_ckV i idx j S = true) (k1 : am_J X (am_eq v M1 N1) j 0 (am_en j (S.take (am_na j + 1)).reverse) [] M N) (k2 : am_J X Q i (pc + 3) L (v.toList ++ S.drop (am_na j + 1)) M1 N1) : am_J X Q i pc L S M N := J_V j d hc k1 (fun r M2 N2 h => by obtain ⟨rfl, rfl, rfl⟩ := h; exact k2)
theorem J_copy {k0 k1 n0 n1 idx : Nat} {sx dx nx : Int32} (d : am_in i pc = some (.invokestatic idx, 3)) (hc : (am_ac i idx && (decide (1 ≤ am_fr i) && decide ((S.map fun v => v.category).sum + 18 ≤ am_lo i))) = true) (hk0 : am_SH[k0]? = some (.inl (0, n0))) (hk1 : am_SH[k1]? = some (.inl (0, n1))) (h1 : ¬ sx < 0) (h2 : ¬ dx < 0) (h3 : ¬ nx < 0) (h4 : sx.toNatClampNeg + nx.toNatClampNeg ≤ n0) (h5 : dx.toNatClampNeg + nx.toNatClampNeg ≤ n1) (kk : am_J X Q i (pc + 3) L S (am_upR M k1 (va_cpy (M k0) (M k1) sx.toNatClampNeg dx.toNatClampNeg nx.toNatClampNeg)) N) : am_J X Q i pc L (.int nx :: .int dx :: .ref k1 :: .int sx :: .ref k0 :: S) M N := by
  simp only [Bool.and_eq_true, decide_eq_true_eq] at hc
  exact sw_copy d hc.1 hk0 hk1 h1 h2 h3 h4 h5 hc.2.1 hc.2.2 kk
end AMJ
