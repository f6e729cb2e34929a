/-- the law's loop -/
theorem law_loop {l : Launch} {D : va_G} {G : am_G} {B : Nat} {sp : Nat → Nat} {fz : Value} {Lx : Nat} {xs : Nat → Int32} (hL : Lx ≤ 3584) : am_J (l, D, G, B, sp, fz, Lx, xs) (fun r _ _ => r = some (.int 1)) 210 18 [.ref 1000000, .ref 0, .ref 120, .int 0] [] (am_mw am_ws2) am_zL := by
  sorry
