/-! ===== calls with what holds behind them; tells, the class ===== -/
section AMQ
variable {X : am_X} {Q : am_Q} {i pc : Nat} {L T : am_V} {M : am_M} {N : am_N} {P : am_M → am_N → Prop}
theorem J_S0sp {idx : Nat} {w : Value} (j : Nat) (d : am_in i pc = some (.invokestatic idx, 3)) (hc : am_ckS i idx j (T) = true) (hn : am_na j = 0) (k1 : am_J X (q_p (some w) P) j 0 (am_en j []) [] M N) (k2 : ∀ (M1 : am_M) (N1 : am_N), P M1 N1 → am_J X Q i (pc + 3) L (w :: T) M1 N1) : am_J X Q i pc L (T) M N := J_S j d hc (by rw [hn]; exact k1) (fun r M1 N1 h => by obtain ⟨rfl, h⟩ := h; rw [hn]; exact k2 M1 N1 h)
theorem J_S0np {idx : Nat} (j : Nat) (d : am_in i pc = some (.invokestatic idx, 3)) (hc : am_ckS i idx j (T) = true) (hn : am_na j = 0) (k1 : am_J X (q_p (none) P) j 0 (am_en j []) [] M N) (k2 : ∀ (M1 : am_M) (N1 : am_N), P M1 N1 → am_J X Q i (pc + 3) L (T) M1 N1) : am_J X Q i pc L (T) M N := J_S j d hc (by rw [hn]; exact k1) (fun r M1 N1 h => by obtain ⟨rfl, h⟩ := h; rw [hn]; exact k2 M1 N1 h)
theorem J_V0sp {idx b : Nat} {w : Value} (j : Nat) (d : am_in i pc = some (.invokevirtual idx, 3)) (hc : am_ckV i idx j (.ref b :: T) = true) (hn : am_na j = 0) (k1 : am_J X (q_p (some w) P) j 0 (am_en j [.ref b]) [] M N) (k2 : ∀ (M1 : am_M) (N1 : am_N), P M1 N1 → am_J X Q i (pc + 3) L (w :: T) M1 N1) : am_J X Q i pc L (.ref b :: T) M N := J_V j d hc (by rw [hn]; exact k1) (fun r M1 N1 h => by obtain ⟨rfl, h⟩ := h; rw [hn]; exact k2 M1 N1 h)
theorem J_V0np {idx b : Nat} (j : Nat) (d : am_in i pc = some (.invokevirtual idx, 3)) (hc : am_ckV i idx j (.ref b :: T) = true) (hn : am_na j = 0) (k1 : am_J X (q_p (none) P) j 0 (am_en j [.ref b]) [] M N) (k2 : ∀ (M1 : am_M) (N1 : am_N), P M1 N1 → am_J X Q i (pc + 3) L (T) M1 N1) : am_J X Q i pc L (.ref b :: T) M N := J_V j d hc (by rw [hn]; exact k1) (fun r M1 N1 h => by obtain ⟨rfl, h⟩ := h; rw [hn]; exact k2 M1 N1 h)
theorem J_S1sp {idx : Nat} {w : Value} {a0 : Value} (j : Nat) (d : am_in i pc = some (.invokestatic idx, 3)) (hc : am_ckS i idx j (a0 :: T) = true) (hn : am_na j = 1) (k1 : am_J X (q_p (some w) P) j 0 (am_en j [a0]) [] M N) (k2 : ∀ (M1 : am_M) (N1 : am_N), P M1 N1 → am_J X Q i (pc + 3) L (w :: T) M1 N1) : am_J X Q i pc L (a0 :: T) M N := J_S j d hc (by rw [hn]; exact k1) (fun r M1 N1 h => by obtain ⟨rfl, h⟩ := h; rw [hn]; exact k2 M1 N1 h)
theorem J_S1np {idx : Nat} {a0 : Value} (j : Nat) (d : am_in i pc = some (.invokestatic idx, 3)) (hc : am_ckS i idx j (a0 :: T) = true) (hn : am_na j = 1) (k1 : am_J X (q_p (none) P) j 0 (am_en j [a0]) [] M N) (k2 : ∀ (M1 : am_M) (N1 : am_N), P M1 N1 → am_J X Q i (pc + 3) L (T) M1 N1) : am_J X Q i pc L (a0 :: T) M N := J_S j d hc (by rw [hn]; exact k1) (fun r M1 N1 h => by obtain ⟨rfl, h⟩ := h; rw [hn]; exact k2 M1 N1 h)
theorem J_V1sp {idx b : Nat} {w : Value} {a0 : Value} (j : Nat) (d : am_in i pc = some (.invokevirtual idx, 3)) (hc : am_ckV i idx j (a0 :: .ref b :: T) = true) (hn : am_na j = 1) (k1 : am_J X (q_p (some w) P) j 0 (am_en j [.ref b, a0]) [] M N) (k2 : ∀ (M1 : am_M) (N1 : am_N), P M1 N1 → am_J X Q i (pc + 3) L (w :: T) M1 N1) : am_J X Q i pc L (a0 :: .ref b :: T) M N := J_V j d hc (by rw [hn]; exact k1) (fun r M1 N1 h => by obtain ⟨rfl, h⟩ := h; rw [hn]; exact k2 M1 N1 h)
theorem J_V1np {idx b : Nat} {a0 : Value} (j : Nat) (d : am_in i pc = some (.invokevirtual idx, 3)) (hc : am_ckV i idx j (a0 :: .ref b :: T) = true) (hn : am_na j = 1) (k1 : am_J X (q_p (none) P) j 0 (am_en j [.ref b, a0]) [] M N) (k2 : ∀ (M1 : am_M) (N1 : am_N), P M1 N1 → am_J X Q i (pc + 3) L (T) M1 N1) : am_J X Q i pc L (a0 :: .ref b :: T) M N := J_V j d hc (by rw [hn]; exact k1) (fun r M1 N1 h => by obtain ⟨rfl, h⟩ := h; rw [hn]; exact k2 M1 N1 h)
theorem J_S2sp {idx : Nat} {w : Value} {a0 a1 : Value} (j : Nat) (d : am_in i pc = some (.invokestatic idx, 3)) (hc : am_ckS i idx j (a1 :: a0 :: T) = true) (hn : am_na j = 2) (k1 : am_J X (q_p (some w) P) j 0 (am_en j [a0, a1]) [] M N) (k2 : ∀ (M1 : am_M) (N1 : am_N), P M1 N1 → am_J X Q i (pc + 3) L (w :: T) M1 N1) : am_J X Q i pc L (a1 :: a0 :: T) M N := J_S j d hc (by rw [hn]; exact k1) (fun r M1 N1 h => by obtain ⟨rfl, h⟩ := h; rw [hn]; exact k2 M1 N1 h)
theorem J_S2np {idx : Nat} {a0 a1 : Value} (j : Nat) (d : am_in i pc = some (.invokestatic idx, 3)) (hc : am_ckS i idx j (a1 :: a0 :: T) = true) (hn : am_na j = 2) (k1 : am_J X (q_p (none) P) j 0 (am_en j [a0, a1]) [] M N) (k2 : ∀ (M1 : am_M) (N1 : am_N), P M1 N1 → am_J X Q i (pc + 3) L (T) M1 N1) : am_J X Q i pc L (a1 :: a0 :: T) M N := J_S j d hc (by rw [hn]; exact k1) (fun r M1 N1 h => by obtain ⟨rfl, h⟩ := h; rw [hn]; exact k2 M1 N1 h)
theorem J_V2sp {idx b : Nat} {w : Value} {a0 a1 : Value} (j : Nat) (d : am_in i pc = some (.invokevirtual idx, 3)) (hc : am_ckV i idx j (a1 :: a0 :: .ref b :: T) = true) (hn : am_na j = 2) (k1 : am_J X (q_p (some w) P) j 0 (am_en j [.ref b, a0, a1]) [] M N) (k2 : ∀ (M1 : am_M) (N1 : am_N), P M1 N1 → am_J X Q i (pc + 3) L (w :: T) M1 N1) : am_J X Q i pc L (a1 :: a0 :: .ref b :: T) M N := J_V j d hc (by rw [hn]; exact k1) (fun r M1 N1 h => by obtain ⟨rfl, h⟩ := h; rw [hn]; exact k2 M1 N1 h)
theorem J_V2np {idx b : Nat} {a0 a1 : Value} (j : Nat) (d : am_in i pc = some (.invokevirtual idx, 3)) (hc : am_ckV i idx j (a1 :: a0 :: .ref b :: T) = true) (hn : am_na j = 2) (k1 : am_J X (q_p (none) P) j 0 (am_en j [.ref b, a0, a1]) [] M N) (k2 : ∀ (M1 : am_M) (N1 : am_N), P M1 N1 → am_J X Q i (pc + 3) L (T) M1 N1) : am_J X Q i pc L (a1 :: a0 :: .ref b :: T) M N := J_V j d hc (by rw [hn]; exact k1) (fun r M1 N1 h => by obtain ⟨rfl, h⟩ := h; rw [hn]; exact k2 M1 N1 h)
theorem J_S3sp {idx : Nat} {w : Value} {a0 a1 a2 : Value} (j : Nat) (d : am_in i pc = some (.invokestatic idx, 3)) (hc : am_ckS i idx j (a2 :: a1 :: a0 :: T) = true) (hn : am_na j = 3) (k1 : am_J X (q_p (some w) P) j 0 (am_en j [a0, a1, a2]) [] M N) (k2 : ∀ (M1 : am_M) (N1 : am_N), P M1 N1 → am_J X Q i (pc + 3) L (w :: T) M1 N1) : am_J X Q i pc L (a2 :: a1 :: a0 :: T) M N := J_S j d hc (by rw [hn]; exact k1) (fun r M1 N1 h => by obtain ⟨rfl, h⟩ := h; rw [hn]; exact k2 M1 N1 h)
theorem J_S3np {idx : Nat} {a0 a1 a2 : Value} (j : Nat) (d : am_in i pc = some (.invokestatic idx, 3)) (hc : am_ckS i idx j (a2 :: a1 :: a0 :: T) = true) (hn : am_na j = 3) (k1 : am_J X (q_p (none) P) j 0 (am_en j [a0, a1, a2]) [] M N) (k2 : ∀ (M1 : am_M) (N1 : am_N), P M1 N1 → am_J X Q i (pc + 3) L (T) M1 N1) : am_J X Q i pc L (a2 :: a1 :: a0 :: T) M N := J_S j d hc (by rw [hn]; exact k1) (fun r M1 N1 h => by obtain ⟨rfl, h⟩ := h; rw [hn]; exact k2 M1 N1 h)
theorem J_V3sp {idx b : Nat} {w : Value} {a0 a1 a2 : Value} (j : Nat) (d : am_in i pc = some (.invokevirtual idx, 3)) (hc : am_ckV i idx j (a2 :: a1 :: a0 :: .ref b :: T) = true) (hn : am_na j = 3) (k1 : am_J X (q_p (some w) P) j 0 (am_en j [.ref b, a0, a1, a2]) [] M N) (k2 : ∀ (M1 : am_M) (N1 : am_N), P M1 N1 → am_J X Q i (pc + 3) L (w :: T) M1 N1) : am_J X Q i pc L (a2 :: a1 :: a0 :: .ref b :: T) M N := J_V j d hc (by rw [hn]; exact k1) (fun r M1 N1 h => by obtain ⟨rfl, h⟩ := h; rw [hn]; exact k2 M1 N1 h)
theorem J_V3np {idx b : Nat} {a0 a1 a2 : Value} (j : Nat) (d : am_in i pc = some (.invokevirtual idx, 3)) (hc : am_ckV i idx j (a2 :: a1 :: a0 :: .ref b :: T) = true) (hn : am_na j = 3) (k1 : am_J X (q_p (none) P) j 0 (am_en j [.ref b, a0, a1, a2]) [] M N) (k2 : ∀ (M1 : am_M) (N1 : am_N), P M1 N1 → am_J X Q i (pc + 3) L (T) M1 N1) : am_J X Q i pc L (a2 :: a1 :: a0 :: .ref b :: T) M N := J_V j d hc (by rw [hn]; exact k1) (fun r M1 N1 h => by obtain ⟨rfl, h⟩ := h; rw [hn]; exact k2 M1 N1 h)
theorem J_S4sp {idx : Nat} {w : Value} {a0 a1 a2 a3 : Value} (j : Nat) (d : am_in i pc = some (.invokestatic idx, 3)) (hc : am_ckS i idx j (a3 :: a2 :: a1 :: a0 :: T) = true) (hn : am_na j = 4) (k1 : am_J X (q_p (some w) P) j 0 (am_en j [a0, a1, a2, a3]) [] M N) (k2 : ∀ (M1 : am_M) (N1 : am_N), P M1 N1 → am_J X Q i (pc + 3) L (w :: T) M1 N1) : am_J X Q i pc L (a3 :: a2 :: a1 :: a0 :: T) M N := J_S j d hc (by rw [hn]; exact k1) (fun r M1 N1 h => by obtain ⟨rfl, h⟩ := h; rw [hn]; exact k2 M1 N1 h)
theorem J_S4np {idx : Nat} {a0 a1 a2 a3 : Value} (j : Nat) (d : am_in i pc = some (.invokestatic idx, 3)) (hc : am_ckS i idx j (a3 :: a2 :: a1 :: a0 :: T) = true) (hn : am_na j = 4) (k1 : am_J X (q_p (none) P) j 0 (am_en j [a0, a1, a2, a3]) [] M N) (k2 : ∀ (M1 : am_M) (N1 : am_N), P M1 N1 → am_J X Q i (pc + 3) L (T) M1 N1) : am_J X Q i pc L (a3 :: a2 :: a1 :: a0 :: T) M N := J_S j d hc (by rw [hn]; exact k1) (fun r M1 N1 h => by obtain ⟨rfl, h⟩ := h; rw [hn]; exact k2 M1 N1 h)
theorem J_V4sp {idx b : Nat} {w : Value} {a0 a1 a2 a3 : Value} (j : Nat) (d : am_in i pc = some (.invokevirtual idx, 3)) (hc : am_ckV i idx j (a3 :: a2 :: a1 :: a0 :: .ref b :: T) = true) (hn : am_na j = 4) (k1 : am_J X (q_p (some w) P) j 0 (am_en j [.ref b, a0, a1, a2, a3]) [] M N) (k2 : ∀ (M1 : am_M) (N1 : am_N), P M1 N1 → am_J X Q i (pc + 3) L (w :: T) M1 N1) : am_J X Q i pc L (a3 :: a2 :: a1 :: a0 :: .ref b :: T) M N := J_V j d hc (by rw [hn]; exact k1) (fun r M1 N1 h => by obtain ⟨rfl, h⟩ := h; rw [hn]; exact k2 M1 N1 h)
theorem J_V4np {idx b : Nat} {a0 a1 a2 a3 : Value} (j : Nat) (d : am_in i pc = some (.invokevirtual idx, 3)) (hc : am_ckV i idx j (a3 :: a2 :: a1 :: a0 :: .ref b :: T) = true) (hn : am_na j = 4) (k1 : am_J X (q_p (none) P) j 0 (am_en j [.ref b, a0, a1, a2, a3]) [] M N) (k2 : ∀ (M1 : am_M) (N1 : am_N), P M1 N1 → am_J X Q i (pc + 3) L (T) M1 N1) : am_J X Q i pc L (a3 :: a2 :: a1 :: a0 :: .ref b :: T) M N := J_V j d hc (by rw [hn]; exact k1) (fun r M1 N1 h => by obtain ⟨rfl, h⟩ := h; rw [hn]; exact k2 M1 N1 h)
theorem J_S5sp {idx : Nat} {w : Value} {a0 a1 a2 a3 a4 : Value} (j : Nat) (d : am_in i pc = some (.invokestatic idx, 3)) (hc : am_ckS i idx j (a4 :: a3 :: a2 :: a1 :: a0 :: T) = true) (hn : am_na j = 5) (k1 : am_J X (q_p (some w) P) j 0 (am_en j [a0, a1, a2, a3, a4]) [] M N) (k2 : ∀ (M1 : am_M) (N1 : am_N), P M1 N1 → am_J X Q i (pc + 3) L (w :: T) M1 N1) : am_J X Q i pc L (a4 :: a3 :: a2 :: a1 :: a0 :: T) M N := J_S j d hc (by rw [hn]; exact k1) (fun r M1 N1 h => by obtain ⟨rfl, h⟩ := h; rw [hn]; exact k2 M1 N1 h)
theorem J_S5np {idx : Nat} {a0 a1 a2 a3 a4 : Value} (j : Nat) (d : am_in i pc = some (.invokestatic idx, 3)) (hc : am_ckS i idx j (a4 :: a3 :: a2 :: a1 :: a0 :: T) = true) (hn : am_na j = 5) (k1 : am_J X (q_p (none) P) j 0 (am_en j [a0, a1, a2, a3, a4]) [] M N) (k2 : ∀ (M1 : am_M) (N1 : am_N), P M1 N1 → am_J X Q i (pc + 3) L (T) M1 N1) : am_J X Q i pc L (a4 :: a3 :: a2 :: a1 :: a0 :: T) M N := J_S j d hc (by rw [hn]; exact k1) (fun r M1 N1 h => by obtain ⟨rfl, h⟩ := h; rw [hn]; exact k2 M1 N1 h)
theorem J_V5sp {idx b : Nat} {w : Value} {a0 a1 a2 a3 a4 : Value} (j : Nat) (d : am_in i pc = some (.invokevirtual idx, 3)) (hc : am_ckV i idx j (a4 :: a3 :: a2 :: a1 :: a0 :: .ref b :: T) = true) (hn : am_na j = 5) (k1 : am_J X (q_p (some w) P) j 0 (am_en j [.ref b, a0, a1, a2, a3, a4]) [] M N) (k2 : ∀ (M1 : am_M) (N1 : am_N), P M1 N1 → am_J X Q i (pc + 3) L (w :: T) M1 N1) : am_J X Q i pc L (a4 :: a3 :: a2 :: a1 :: a0 :: .ref b :: T) M N := J_V j d hc (by rw [hn]; exact k1) (fun r M1 N1 h => by obtain ⟨rfl, h⟩ := h; rw [hn]; exact k2 M1 N1 h)
theorem J_V5np {idx b : Nat} {a0 a1 a2 a3 a4 : Value} (j : Nat) (d : am_in i pc = some (.invokevirtual idx, 3)) (hc : am_ckV i idx j (a4 :: a3 :: a2 :: a1 :: a0 :: .ref b :: T) = true) (hn : am_na j = 5) (k1 : am_J X (q_p (none) P) j 0 (am_en j [.ref b, a0, a1, a2, a3, a4]) [] M N) (k2 : ∀ (M1 : am_M) (N1 : am_N), P M1 N1 → am_J X Q i (pc + 3) L (T) M1 N1) : am_J X Q i pc L (a4 :: a3 :: a2 :: a1 :: a0 :: .ref b :: T) M N := J_V j d hc (by rw [hn]; exact k1) (fun r M1 N1 h => by obtain ⟨rfl, h⟩ := h; rw [hn]; exact k2 M1 N1 h)
theorem J_S6sp {idx : Nat} {w : Value} {a0 a1 a2 a3 a4 a5 : Value} (j : Nat) (d : am_in i pc = some (.invokestatic idx, 3)) (hc : am_ckS i idx j (a5 :: a4 :: a3 :: a2 :: a1 :: a0 :: T) = true) (hn : am_na j = 6) (k1 : am_J X (q_p (some w) P) j 0 (am_en j [a0, a1, a2, a3, a4, a5]) [] M N) (k2 : ∀ (M1 : am_M) (N1 : am_N), P M1 N1 → am_J X Q i (pc + 3) L (w :: T) M1 N1) : am_J X Q i pc L (a5 :: a4 :: a3 :: a2 :: a1 :: a0 :: T) M N := J_S j d hc (by rw [hn]; exact k1) (fun r M1 N1 h => by obtain ⟨rfl, h⟩ := h; rw [hn]; exact k2 M1 N1 h)
theorem J_S6np {idx : Nat} {a0 a1 a2 a3 a4 a5 : Value} (j : Nat) (d : am_in i pc = some (.invokestatic idx, 3)) (hc : am_ckS i idx j (a5 :: a4 :: a3 :: a2 :: a1 :: a0 :: T) = true) (hn : am_na j = 6) (k1 : am_J X (q_p (none) P) j 0 (am_en j [a0, a1, a2, a3, a4, a5]) [] M N) (k2 : ∀ (M1 : am_M) (N1 : am_N), P M1 N1 → am_J X Q i (pc + 3) L (T) M1 N1) : am_J X Q i pc L (a5 :: a4 :: a3 :: a2 :: a1 :: a0 :: T) M N := J_S j d hc (by rw [hn]; exact k1) (fun r M1 N1 h => by obtain ⟨rfl, h⟩ := h; rw [hn]; exact k2 M1 N1 h)
theorem J_V6sp {idx b : Nat} {w : Value} {a0 a1 a2 a3 a4 a5 : Value} (j : Nat) (d : am_in i pc = some (.invokevirtual idx, 3)) (hc : am_ckV i idx j (a5 :: a4 :: a3 :: a2 :: a1 :: a0 :: .ref b :: T) = true) (hn : am_na j = 6) (k1 : am_J X (q_p (some w) P) j 0 (am_en j [.ref b, a0, a1, a2, a3, a4, a5]) [] M N) (k2 : ∀ (M1 : am_M) (N1 : am_N), P M1 N1 → am_J X Q i (pc + 3) L (w :: T) M1 N1) : am_J X Q i pc L (a5 :: a4 :: a3 :: a2 :: a1 :: a0 :: .ref b :: T) M N := J_V j d hc (by rw [hn]; exact k1) (fun r M1 N1 h => by obtain ⟨rfl, h⟩ := h; rw [hn]; exact k2 M1 N1 h)
theorem J_V6np {idx b : Nat} {a0 a1 a2 a3 a4 a5 : Value} (j : Nat) (d : am_in i pc = some (.invokevirtual idx, 3)) (hc : am_ckV i idx j (a5 :: a4 :: a3 :: a2 :: a1 :: a0 :: .ref b :: T) = true) (hn : am_na j = 6) (k1 : am_J X (q_p (none) P) j 0 (am_en j [.ref b, a0, a1, a2, a3, a4, a5]) [] M N) (k2 : ∀ (M1 : am_M) (N1 : am_N), P M1 N1 → am_J X Q i (pc + 3) L (T) M1 N1) : am_J X Q i pc L (a5 :: a4 :: a3 :: a2 :: a1 :: a0 :: .ref b :: T) M N := J_V j d hc (by rw [hn]; exact k1) (fun r M1 N1 h => by obtain ⟨rfl, h⟩ := h; rw [hn]; exact k2 M1 N1 h)
end AMQ
theorem sp58g {X : am_X} {M : am_M} {N : am_N} {p : Nat} (hp : p < 60) : am_J X (am_eq (some (.int (smI (fun t => M 44 (60 * t + p)) 12))) M N) 58 0 (am_en 58 [.ref 40, .int (nI p)]) [] M N := by
  have q := sp58_40 (X := X) (N := N) (M := M) (kd := M 40 6) (mo := M 40 7) (sk := M 40 8) (gn := M 40 9) (ew := M 40 10) (nw := M 40 11) (sh := M 45) (st := fun k j => if k = 0 then M 40 j else M (40 + k) j) hp
  rw [← D40_of M] at q
  exact q
def c_shf (M : am_M) (r : Nat) (s : Int32) : Nat → Int32 := fun j => if j = r then s else M 17 j
def c_G (M : am_M) (kd : Int32) (m p r : Nat) (s : Int32) : Nat → Int32 := c_dr (sC M) (c_shf M r s) kd m p 0 c_z 12 4
def c_tf (M : am_M) (kd : Int32) (m p r : Nat) (s : Int32) (j : Nat) : Int32 := smI (fun t => c_G M kd m p r s (60 * t + j)) 12
def c_off (M : am_M) (kd : Int32) (m p r : Nat) (s : Int32) : Int32 := smI (fun j => i_ab (c_tf M kd m p r s j - c_tf M kd m p r (-1) j) / 10) 60
theorem G_sc {M M' : am_M} (h : sc_ok M M') {kd : Int32} {m p r : Nat} {s : Int32} : c_G M' kd m p r s = c_G M kd m p r s := by
  unfold c_G c_shf
  rw [sc_sC h, h.1 17 (by unfold sc_r; omega)]
theorem tf_sc {M M' : am_M} (h : sc_ok M M') {kd : Int32} {m p r : Nat} {s : Int32} {j : Nat} : c_tf M' kd m p r s j = c_tf M kd m p r s j := by
  unfold c_tf
  rw [G_sc h]
theorem off_sc {M M' : am_M} (h : sc_ok M M') {kd : Int32} {m p r : Nat} {s : Int32} : c_off M' kd m p r s = c_off M kd m p r s := by
  unfold c_off
  exact smI_congr (fun j _ => by rw [tf_sc h, tf_sc h])
theorem shf_b {M : am_M} {r : Nat} {s : Int32} (hb : iv_sb M) (hs : b_in s (-1) 1) : ∀ j, b_in (c_shf M r s j) (-1) 1 := by
  intro j
  unfold c_shf
  split
  · exact hs
  · exact hb.2.2.2.2.2.2.2.2.2.2.2 j
theorem sp101 {X : am_X} {M : am_M} {N : am_N} {kd s : Int32} {m p r : Nat} (hk : b_in kd 0 3) (hm : m < 48) (hp : p < 60) (hr : r < 3) (hs : b_in s (-1) 1) (hb : iv_sb M) : am_J X (q_p none (fun M1 _ => (sc_ok M M1 ∧ M1 109 = M 109) ∧ M1 44 = c_G M kd m p r s)) 101 0 (am_en 101 [.ref 77, .int kd, .int (nI m), .int (nI p), .int (nI r), .int s]) [] M N := by
  have hgo := sp42_40 (X := X) (N := N) (M := (am_upR M 78 (c_shf M r s))) (kd := kd) (sk := 0) (e0 := M 40 10) (n0 := M 40 11) (s0 := c_s0 p (M 42)) (sh := c_shf M r s) (mo := m) (cnt := 12) (t := 0) (by omega) hb hk (shf_b hb hs) s0_4 (by decide) (by decide)
  refine J_en (L := [.ref 77, .int kd, .int (nI m), .int (nI p), .int (nI r), .int s]) rfl ?_
  refine J_b 8 am_d101 rfl ?_
  refine J_copy (am_d101 rfl) rfl rfl rfl (by decide) (by decide) (by decide) (by decide) (by decide) ?_
  refine J_mr 78 (n := 3) (M 17) rfl (fun j hj => ?_) ?_
  · show M 17 j = va_cpy (M 17) (M 78) 0 0 3 j
    rw [cpy0]
    exact (if_pos hj).symm
  rw [upR_upR]
  refine J_b 4 am_d101 rfl ?_
  refine J_iast (am_d101 rfl) rfl (vp_in_nI hr (by decide)) ?_
  rw [nI_c (n := r) (by omega), upR_up]
  refine J_mem (show _ = (am_upR M 78 (c_shf M r s)) from rfl) ?_
  refine J_b 8 am_d101 rfl ?_
  refine J_V5n 40 (am_d101 rfl) rfl rfl (sp40_40_78 hp) ?_
  refine J_b 3 am_d101 rfl ?_
  refine J_V1n 42 (am_d101 rfl) rfl rfl (hgo) ?_
  exact J_ret (am_d101 rfl) rfl ⟨rfl, ⟨sc_t (sc_uR (by unfold sc_r; omega) (by decide)) sc_T40, rfl⟩, dr_row _ _ (by decide)⟩
theorem lp102 {X : am_X} {M : am_M} {N : am_N} : ∀ (n i : Nat), i + n = 60 → ∀ (x : Int32), x = nI i → ∀ (r : Nat → Int32), r = c_lt i (fun p => smI (fun t => M 44 (60 * t + p)) 12) (M 109) → am_J X (am_eq none (am_upR M 109 (c_lt 60 (fun p => smI (fun t => M 44 (60 * t + p)) 12) (M 109))) N) 102 2 [.ref 77, .int x] [] (am_upR M 109 r) N := by
  intro n
  induction n with
  | zero =>
    intro i hn x ex r es
    have e : i = 60 := by omega
    subst e
    subst ex
    refine J_b 2 am_d102 rfl ?_
    refine J_icmp_ge 28 (am_d102 rfl) rfl (fun h5 => ?_) (fun h5 => absurd (Int32.le_refl _) h5)
    exact J_ret (am_d102 rfl) rfl ⟨rfl, by rw [es], rfl⟩
  | succ n ih =>
    intro i hn x ex r es
    have hi : i < 60 := by omega
    subst ex
    refine J_b 2 am_d102 rfl ?_
    refine J_icmp_ge 28 (am_d102 rfl) rfl (fun h5 => absurd h5 (z_l hi)) (fun h5 => ?_)
    refine J_b 6 am_d102 rfl ?_
    refine J_V1s 58 (am_d102 rfl) rfl rfl (sp58g hi) ?_
    refine J_iast (am_d102 rfl) rfl (vp_in_nI hi (by decide)) ?_
    rw [nI_c (n := i) (by omega), upR_up]
    refine J_b 2 am_d102 rfl ?_
    refine ih (i + 1) (by omega) _ (nI_1 i) _ ?_
    rw [es]
    exact cl_s rfl
theorem sp102 {X : am_X} {M : am_M} {N : am_N}  : am_J X (am_eq (none) (am_upR M 109 (c_lt 60 (fun p => smI (fun t => M 44 (60 * t + p)) 12) (M 109))) N) 102 0 (am_en 102 [.ref 77]) [] M N := by
  refine J_en (L := [.ref 77, .retAddr 0]) rfl ?_
  refine J_b 2 am_d102 rfl ?_
  refine J_r0 109 rfl ?_
  exact lp102 60 0 rfl _ rfl _ cl_0.symm
theorem lp103 {X : am_X} {M : am_M} {N : am_N} : ∀ (n i : Nat), i + n = 60 → ∀ (x : Int32), x = nI i → ∀ (a : Int32), a = smI (fun j => i_ab (smI (fun t => M 44 (60 * t + j)) 12 - M 109 j) / 10) i → am_J X (am_eq (some (.int (smI (fun j => i_ab (smI (fun t => M 44 (60 * t + j)) 12 - M 109 j) / 10) 60))) M N) 103 4 [.ref 77, .int a, .int x] [] M N := by
  intro n
  induction n with
  | zero =>
    intro i hn x ex a ea
    have e : i = 60 := by omega
    subst e
    subst ex
    refine J_b 2 am_d103 rfl ?_
    refine J_icmp_ge 40 (am_d103 rfl) rfl (fun h7 => ?_) (fun h7 => absurd (Int32.le_refl _) h7)
    refine J_b 1 am_d103 rfl ?_
    exact J_iret (am_d103 rfl) rfl rfl ⟨by rw [ea], rfl, rfl⟩
  | succ n ih =>
    intro i hn x ex a ea
    have hi : i < 60 := by omega
    subst ex
    refine J_b 2 am_d103 rfl ?_
    refine J_icmp_ge 40 (am_d103 rfl) rfl (fun h7 => absurd h7 (z_l hi)) (fun h7 => ?_)
    refine J_b 4 am_d103 rfl ?_
    refine J_V1s 58 (am_d103 rfl) rfl rfl (sp58g hi) ?_
    refine J_b 3 am_d103 rfl ?_
    refine J_iald (am_d103 rfl) rfl (vp_in_nI hi (by decide)) ?_
    rw [nI_c (n := i) (by omega)]
    show am_J X _ 103 25 _ (.int (M 109 i) :: _) _ N
    refine J_b 1 am_d103 rfl ?_
    refine J_S1s 52 (am_d103 rfl) rfl rfl (sp52b) ?_
    refine J_b 6 am_d103 rfl ?_
    exact ih (i + 1) (by omega) _ (nI_1 i) _ (by rw [ea]; rfl)
theorem sp103 {X : am_X} {M : am_M} {N : am_N}  : am_J X (am_eq (some (.int (smI (fun j => i_ab (smI (fun t => M 44 (60 * t + j)) 12 - M 109 j) / 10) 60))) (M) N) 103 0 (am_en 103 [.ref 77]) [] M N := by
  refine J_en (L := [.ref 77, .retAddr 0, .retAddr 0]) rfl ?_
  refine J_b 4 am_d103 rfl ?_
  exact lp103 60 0 rfl _ rfl _ rfl
theorem sp30 {X : am_X} {M : am_M} {N : am_N} {p : Nat} (hp : p < 60) : am_J X (am_eq (some (.int (am_bi (M 3 p = 0)))) (M) N) 30 0 (am_en 30 [.ref 1, .int (nI p)]) [] M N := by
  refine J_en (L := [.ref 1, .int (nI p)]) rfl ?_
  refine J_b 3 am_d30 rfl ?_
  refine J_aaldk 3 (am_d30 rfl) rfl (am_vi rfl) rfl ?_
  refine J_b 1 am_d30 rfl ?_
  refine J_iald (am_d30 rfl) rfl (vp_in_nI hp (by decide)) ?_
  rw [nI_c (n := p) (by omega)]
  show am_J X _ 30 8 _ (.int (M 3 p) :: _) _ N
  refine J_if_ne 15 (am_d30 rfl) rfl (fun h8 => ?_) (fun h8 => ?_)
  · refine J_b 1 am_d30 rfl ?_
    exact J_iret (am_d30 rfl) rfl rfl ⟨congrArg (fun z => some (Value.int z)) (by first | exact (if_neg h8).symm | exact (if_pos h8).symm), rfl, rfl⟩
  · refine J_b 2 am_d30 rfl ?_
    exact J_iret (am_d30 rfl) rfl rfl ⟨congrArg (fun z => some (Value.int z)) (by first | exact (if_neg h8).symm | exact (if_pos h8).symm), rfl, rfl⟩
theorem off_of {M M1 : am_M} {kd : Int32} {m p r : Nat} {s : Int32} (h1 : M1 44 = c_G M kd m p r s) (h2 : ∀ j, j < 60 → M1 109 j = c_tf M kd m p r (-1) j) : smI (fun j => i_ab (smI (fun t => M1 44 (60 * t + j)) 12 - M1 109 j) / 10) 60 = c_off M kd m p r s := by
  unfold c_off
  refine smI_congr (fun j hj => ?_)
  rw [h1, h2 j hj]
  rfl
theorem sp100a {X : am_X} {M : am_M} {N : am_N} {kd m p r : Int32} (g1 : ¬ (((0 ≤ p.toInt ∧ p.toInt < 60) ∧ 0 ≤ m.toInt ∧ m.toInt < 48) ∧ 0 ≤ r.toInt ∧ r.toInt < 3)) : am_J X (am_eq (some (.int (-1))) (M) N) 100 0 (am_en 100 [.ref 0, .int kd, .int m, .int p, .int r]) [] M N := by
  refine J_en (L := [.ref 0, .int kd, .int m, .int p, .int r, .retAddr 0, .retAddr 0]) rfl ?_
  refine J_b 2 am_d100 rfl ?_
  refine J_S2s 13 (am_d100 rfl) rfl rfl (sp13) ?_
  refine J_if_eq 27 (am_d100 rfl) rfl (fun h6 => ?_) (fun h6 => ?_)
  · refine J_b 1 am_d100 rfl ?_
    exact J_iret (am_d100 rfl) rfl rfl ⟨rfl, rfl, rfl⟩
  · refine J_b 2 am_d100 rfl ?_
    refine J_S2s 13 (am_d100 rfl) rfl rfl (sp13) ?_
    refine J_if_eq 27 (am_d100 rfl) rfl (fun h15 => ?_) (fun h15 => ?_)
    · refine J_b 1 am_d100 rfl ?_
      exact J_iret (am_d100 rfl) rfl rfl ⟨rfl, rfl, rfl⟩
    · refine J_b 2 am_d100 rfl ?_
      refine J_S2s 13 (am_d100 rfl) rfl rfl (sp13) ?_
      refine J_if_ne 29 (am_d100 rfl) rfl (fun h24 => ?_) (fun h24 => ?_)
      · exact absurd (show ((0 ≤ p.toInt ∧ p.toInt < 60) ∧ 0 ≤ m.toInt ∧ m.toInt < 48) ∧ 0 ≤ r.toInt ∧ r.toInt < 3 from ⟨⟨am_bi1.mp h6, am_bi1.mp h15⟩, am_bi1.mp h24⟩) g1
      · refine J_b 1 am_d100 rfl ?_
        exact J_iret (am_d100 rfl) rfl rfl ⟨rfl, rfl, rfl⟩
theorem sp100b {X : am_X} {M : am_M} {N : am_N} {kd m p r : Int32} (g1 : ((0 ≤ p.toInt ∧ p.toInt < 60) ∧ 0 ≤ m.toInt ∧ m.toInt < 48) ∧ 0 ≤ r.toInt ∧ r.toInt < 3) (g2 : ¬ ((0 ≤ kd.toInt ∧ kd.toInt ≤ 3) ∧ ¬ kd = 2)) : am_J X (am_eq (some (.int (-2))) (M) N) 100 0 (am_en 100 [.ref 0, .int kd, .int m, .int p, .int r]) [] M N := by
  refine J_en (L := [.ref 0, .int kd, .int m, .int p, .int r, .retAddr 0, .retAddr 0]) rfl ?_
  refine J_b 2 am_d100 rfl ?_
  refine J_S2s 13 (am_d100 rfl) rfl rfl (sp13) ?_
  refine J_if_eq 27 (am_d100 rfl) rfl (fun h6 => absurd h6 (am_bi1.mpr g1.1.1)) (fun h6 => ?_)
  refine J_b 2 am_d100 rfl ?_
  refine J_S2s 13 (am_d100 rfl) rfl rfl (sp13) ?_
  refine J_if_eq 27 (am_d100 rfl) rfl (fun h15 => absurd h15 (am_bi1.mpr g1.1.2)) (fun h15 => ?_)
  refine J_b 2 am_d100 rfl ?_
  refine J_S2s 13 (am_d100 rfl) rfl rfl (sp13) ?_
  refine J_if_ne 29 (am_d100 rfl) rfl (fun h24 => ?_) (fun h24 => absurd h24 (am_bi1.mpr g1.2))
  refine J_b 3 am_d100 rfl ?_
  refine J_S3s 14 (am_d100 rfl) rfl rfl (sp14) ?_
  refine J_if_eq 43 (am_d100 rfl) rfl (fun h35 => ?_) (fun h35 => ?_)
  · refine J_b 1 am_d100 rfl ?_
    exact J_iret (am_d100 rfl) rfl rfl ⟨rfl, rfl, rfl⟩
  · refine J_b 2 am_d100 rfl ?_
    refine J_icmp_ne 46 (am_d100 rfl) rfl (fun h40 => ?_) (fun h40 => ?_)
    · exact absurd (show (0 ≤ kd.toInt ∧ kd.toInt ≤ 3) ∧ ¬ kd = 2 from ⟨am_bi1.mp h35, h40⟩) g2
    · refine J_b 1 am_d100 rfl ?_
      exact J_iret (am_d100 rfl) rfl rfl ⟨rfl, rfl, rfl⟩
theorem sp100d {X : am_X} {M : am_M} {N : am_N} {kd : Int32} {m p r : Nat} (hp : p < 60) (hm : m < 48) (hr : r < 3) (g2 : (0 ≤ kd.toInt ∧ kd.toInt ≤ 3) ∧ ¬ kd = 2) (g3 : ¬ M 3 p = 0) : am_J X (am_eq (some (.int (-3))) (M) N) 100 0 (am_en 100 [.ref 0, .int kd, .int (nI m), .int (nI p), .int (nI r)]) [] M N := by
  have i1 := nI_i (n := p) (by omega)
  have i2 := nI_i (n := m) (by omega)
  have i3 := nI_i (n := r) (by omega)
  refine J_en (L := [.ref 0, .int kd, .int (nI m), .int (nI p), .int (nI r), .retAddr 0, .retAddr 0]) rfl ?_
  refine J_b 2 am_d100 rfl ?_
  refine J_S2s 13 (am_d100 rfl) rfl rfl (sp13) ?_
  refine J_if_eq 27 (am_d100 rfl) rfl (fun h6 => absurd h6 (am_bi1.mpr (by rw [i1]; exact ⟨by omega, by show (p : Int) < 60; omega⟩))) (fun h6 => ?_)
  refine J_b 2 am_d100 rfl ?_
  refine J_S2s 13 (am_d100 rfl) rfl rfl (sp13) ?_
  refine J_if_eq 27 (am_d100 rfl) rfl (fun h15 => absurd h15 (am_bi1.mpr (by rw [i2]; exact ⟨by omega, by show (m : Int) < 48; omega⟩))) (fun h15 => ?_)
  refine J_b 2 am_d100 rfl ?_
  refine J_S2s 13 (am_d100 rfl) rfl rfl (sp13) ?_
  refine J_if_ne 29 (am_d100 rfl) rfl (fun h24 => ?_) (fun h24 => absurd h24 (am_bi1.mpr (by rw [i3]; exact ⟨by omega, by show (r : Int) < 3; omega⟩)))
  refine J_b 3 am_d100 rfl ?_
  refine J_S3s 14 (am_d100 rfl) rfl rfl (sp14) ?_
  refine J_if_eq 43 (am_d100 rfl) rfl (fun h35 => absurd h35 (am_bi1.mpr g2.1)) (fun h35 => ?_)
  refine J_b 2 am_d100 rfl ?_
  refine J_icmp_ne 46 (am_d100 rfl) rfl (fun h40 => ?_) (fun h40 => absurd h40 g2.2)
  refine J_b 3 am_d100 rfl ?_
  refine J_V1s 30 (am_d100 rfl) rfl rfl (sp30 hp) ?_
  refine J_if_ne 60 (am_d100 rfl) rfl (fun h54 => absurd (am_bi1.mp h54) g3) (fun h54 => ?_)
  refine J_b 1 am_d100 rfl ?_
  exact J_iret (am_d100 rfl) rfl rfl ⟨rfl, rfl, rfl⟩
theorem sb_sc {M M' : am_M} (h : sc_ok M M') (hb : iv_sb M) : iv_sb M' := by
  unfold iv_sb
  rw [h.1 4 (by unfold sc_r; omega), h.1 5 (by unfold sc_r; omega), h.1 6 (by unfold sc_r; omega), h.1 8 (by unfold sc_r; omega), h.1 9 (by unfold sc_r; omega), h.1 10 (by unfold sc_r; omega), h.1 11 (by unfold sc_r; omega), h.1 12 (by unfold sc_r; omega), h.1 13 (by unfold sc_r; omega), h.1 15 (by unfold sc_r; omega), h.1 16 (by unfold sc_r; omega), h.1 17 (by unfold sc_r; omega)]
  exact hb
theorem sp100c {X : am_X} {M : am_M} {N : am_N} {kd : Int32} {m p r : Nat} (hp : p < 60) (hm : m < 48) (hr : r < 3) (g2 : (0 ≤ kd.toInt ∧ kd.toInt ≤ 3) ∧ ¬ kd = 2) (g3 : M 3 p = 0) (hb : iv_sb M) : am_J X (q_p (some (.int ((0 + c_off M kd m p r 0) + c_off M kd m p r 1))) (fun M1 _ => sc_ok M M1)) 100 0 (am_en 100 [.ref 0, .int kd, .int (nI m), .int (nI p), .int (nI r)]) [] M N := by
  have i1 := nI_i (n := p) (by omega)
  have i2 := nI_i (n := m) (by omega)
  have i3 := nI_i (n := r) (by omega)
  refine J_en (L := [.ref 0, .int kd, .int (nI m), .int (nI p), .int (nI r), .retAddr 0, .retAddr 0]) rfl ?_
  refine J_b 2 am_d100 rfl ?_
  refine J_S2s 13 (am_d100 rfl) rfl rfl (sp13) ?_
  refine J_if_eq 27 (am_d100 rfl) rfl (fun h6 => absurd h6 (am_bi1.mpr (by rw [i1]; exact ⟨by omega, by show (p : Int) < 60; omega⟩))) (fun h6 => ?_)
  refine J_b 2 am_d100 rfl ?_
  refine J_S2s 13 (am_d100 rfl) rfl rfl (sp13) ?_
  refine J_if_eq 27 (am_d100 rfl) rfl (fun h15 => absurd h15 (am_bi1.mpr (by rw [i2]; exact ⟨by omega, by show (m : Int) < 48; omega⟩))) (fun h15 => ?_)
  refine J_b 2 am_d100 rfl ?_
  refine J_S2s 13 (am_d100 rfl) rfl rfl (sp13) ?_
  refine J_if_ne 29 (am_d100 rfl) rfl (fun h24 => ?_) (fun h24 => absurd h24 (am_bi1.mpr (by rw [i3]; exact ⟨by omega, by show (r : Int) < 3; omega⟩)))
  refine J_b 3 am_d100 rfl ?_
  refine J_S3s 14 (am_d100 rfl) rfl rfl (sp14) ?_
  refine J_if_eq 43 (am_d100 rfl) rfl (fun h35 => absurd h35 (am_bi1.mpr g2.1)) (fun h35 => ?_)
  refine J_b 2 am_d100 rfl ?_
  refine J_icmp_ne 46 (am_d100 rfl) rfl (fun h40 => ?_) (fun h40 => absurd h40 g2.2)
  refine J_b 3 am_d100 rfl ?_
  refine J_V1s 30 (am_d100 rfl) rfl rfl (sp30 hp) ?_
  refine J_if_ne 60 (am_d100 rfl) rfl (fun h54 => ?_) (fun h54 => absurd h54 (am_bi1.mpr g3))
  refine J_b 7 am_d100 rfl ?_
  refine J_V5np 101 (am_d100 rfl) rfl rfl (sp101 (s := -1) g2.1 hm hp hr (by unfold b_in; decide) hb) (fun M1 N1 hq => ?_)
  obtain ⟨⟨hs, h109⟩, h44⟩ := hq
  have qk := sp102 (X := X) (M := M1) (N := N1)
  rw [show (fun p => smI (fun t => M1 44 (60 * t + p)) 12) = c_tf M kd m p r (-1) from by rw [h44]; rfl] at qk
  have hs0 : sc_ok M (am_upR M1 109 (c_lt 60 (c_tf M kd m p r (-1)) (M1 109))) := sc_t hs (sc_uR (by unfold sc_r; omega) (by decide))
  have hb0 := sb_sc hs0 hb
  have k0 : am_upR M1 109 (c_lt 60 (c_tf M kd m p r (-1)) (M1 109)) 109 = c_lt 60 (c_tf M kd m p r (-1)) (M1 109) := rfl
  refine J_b 2 am_d100 rfl ?_
  refine J_V0n 102 (am_d100 rfl) rfl rfl (qk) ?_
  refine J_b 4 am_d100 rfl ?_
  refine J_b 2 am_d100 rfl ?_
  refine J_icmp_gt 124 (am_d100 rfl) rfl (fun h89 => absurd h89 (by decide)) (fun h89 => ?_)
  refine J_b 7 am_d100 rfl ?_
  refine J_V5np 101 (am_d100 rfl) rfl rfl (sp101 (s := 0) g2.1 hm hp hr (by unfold b_in; decide) hb0) (fun M3 N3 hq0 => ?_)
  obtain ⟨⟨hs1', h1091⟩, h441⟩ := hq0
  have hs1 := sc_t hs0 hs1'
  have hb1 : iv_sb M3 := sb_sc hs1 hb
  rw [G_sc hs0] at h441
  have k1 := h1091.trans k0
  refine J_b 3 am_d100 rfl ?_
  have qo := sp103 (X := X) (M := M3) (N := N3)
  rw [off_of (s := 0) h441 (fun j hj => by rw [k1]; exact cl_p hj)] at qo
  refine J_V0s 103 (am_d100 rfl) rfl rfl qo ?_
  refine J_b 4 am_d100 rfl ?_
  refine J_b 2 am_d100 rfl ?_
  refine J_icmp_gt 124 (am_d100 rfl) rfl (fun h89 => absurd h89 (by decide)) (fun h89 => ?_)
  refine J_b 7 am_d100 rfl ?_
  refine J_V5np 101 (am_d100 rfl) rfl rfl (sp101 (s := 1) g2.1 hm hp hr (by unfold b_in; decide) hb1) (fun M4 N4 hq1 => ?_)
  obtain ⟨⟨hs2', h1092⟩, h442⟩ := hq1
  have hs2 := sc_t hs1 hs2'
  have hb2 : iv_sb M4 := sb_sc hs2 hb
  rw [G_sc hs1] at h442
  have k2 := h1092.trans k1
  refine J_b 3 am_d100 rfl ?_
  have qo := sp103 (X := X) (M := M4) (N := N4)
  rw [off_of (s := 1) h442 (fun j hj => by rw [k2]; exact cl_p hj)] at qo
  refine J_V0s 103 (am_d100 rfl) rfl rfl qo ?_
  refine J_b 4 am_d100 rfl ?_
  refine J_b 2 am_d100 rfl ?_
  refine J_icmp_gt 124 (am_d100 rfl) rfl (fun h89 => ?_) (fun h89 => absurd (by decide) h89)
  refine J_b 1 am_d100 rfl ?_
  exact J_iret (am_d100 rfl) rfl rfl ⟨rfl, hs2⟩
