theorem am_d0 {pc : Nat} {x : Instr × Nat} (h : am_t0.lookup pc = some x) : am_in 0 pc = some x := by
  unfold am_in
  rw [show decode (am_c 0) pc = .ok x from am_kt0 _ (am_look h)]
theorem am_d1 {pc : Nat} {x : Instr × Nat} (h : am_t1.lookup pc = some x) : am_in 1 pc = some x := by
  unfold am_in
  rw [show decode (am_c 1) pc = .ok x from am_kt1 _ (am_look h)]
theorem am_d2 {pc : Nat} {x : Instr × Nat} (h : am_t2.lookup pc = some x) : am_in 2 pc = some x := by
  unfold am_in
  rw [show decode (am_c 2) pc = .ok x from am_kt2 _ (am_look h)]
theorem am_d3 {pc : Nat} {x : Instr × Nat} (h : am_t3.lookup pc = some x) : am_in 3 pc = some x := by
  unfold am_in
  rw [show decode (am_c 3) pc = .ok x from am_kt3 _ (am_look h)]
theorem am_d4 {pc : Nat} {x : Instr × Nat} (h : am_t4.lookup pc = some x) : am_in 4 pc = some x := by
  unfold am_in
  rw [show decode (am_c 4) pc = .ok x from am_kt4 _ (am_look h)]
theorem am_d5 {pc : Nat} {x : Instr × Nat} (h : am_t5.lookup pc = some x) : am_in 5 pc = some x := by
  unfold am_in
  rw [show decode (am_c 5) pc = .ok x from am_kt5 _ (am_look h)]
theorem am_d6 {pc : Nat} {x : Instr × Nat} (h : am_t6.lookup pc = some x) : am_in 6 pc = some x := by
  unfold am_in
  rw [show decode (am_c 6) pc = .ok x from am_kt6 _ (am_look h)]
theorem am_d7 {pc : Nat} {x : Instr × Nat} (h : am_t7.lookup pc = some x) : am_in 7 pc = some x := by
  unfold am_in
  rw [show decode (am_c 7) pc = .ok x from am_kt7 _ (am_look h)]
theorem am_d8 {pc : Nat} {x : Instr × Nat} (h : am_t8.lookup pc = some x) : am_in 8 pc = some x := by
  unfold am_in
  rw [show decode (am_c 8) pc = .ok x from am_kt8 _ (am_look h)]
theorem am_d9 {pc : Nat} {x : Instr × Nat} (h : am_t9.lookup pc = some x) : am_in 9 pc = some x := by
  unfold am_in
  rw [show decode (am_c 9) pc = .ok x from am_kt9 _ (am_look h)]
theorem am_d10 {pc : Nat} {x : Instr × Nat} (h : am_t10.lookup pc = some x) : am_in 10 pc = some x := by
  unfold am_in
  rw [show decode (am_c 10) pc = .ok x from am_kt10 _ (am_look h)]
theorem am_d11 {pc : Nat} {x : Instr × Nat} (h : am_t11.lookup pc = some x) : am_in 11 pc = some x := by
  unfold am_in
  rw [show decode (am_c 11) pc = .ok x from am_kt11 _ (am_look h)]
theorem am_d12 {pc : Nat} {x : Instr × Nat} (h : am_t12.lookup pc = some x) : am_in 12 pc = some x := by
  unfold am_in
  rw [show decode (am_c 12) pc = .ok x from am_kt12 _ (am_look h)]
theorem am_d13 {pc : Nat} {x : Instr × Nat} (h : am_t13.lookup pc = some x) : am_in 13 pc = some x := by
  unfold am_in
  rw [show decode (am_c 13) pc = .ok x from am_kt13 _ (am_look h)]
theorem am_d14 {pc : Nat} {x : Instr × Nat} (h : am_t14.lookup pc = some x) : am_in 14 pc = some x := by
  unfold am_in
  rw [show decode (am_c 14) pc = .ok x from am_kt14 _ (am_look h)]
theorem am_d15 {pc : Nat} {x : Instr × Nat} (h : am_t15.lookup pc = some x) : am_in 15 pc = some x := by
  unfold am_in
  rw [show decode (am_c 15) pc = .ok x from am_kt15 _ (am_look h)]
theorem am_d16 {pc : Nat} {x : Instr × Nat} (h : am_t16.lookup pc = some x) : am_in 16 pc = some x := by
  unfold am_in
  rw [show decode (am_c 16) pc = .ok x from am_kt16 _ (am_look h)]
theorem am_d17 {pc : Nat} {x : Instr × Nat} (h : am_t17.lookup pc = some x) : am_in 17 pc = some x := by
  unfold am_in
  rw [show decode (am_c 17) pc = .ok x from am_kt17 _ (am_look h)]
theorem am_d18 {pc : Nat} {x : Instr × Nat} (h : am_t18.lookup pc = some x) : am_in 18 pc = some x := by
  unfold am_in
  rw [show decode (am_c 18) pc = .ok x from am_kt18 _ (am_look h)]
theorem am_d19 {pc : Nat} {x : Instr × Nat} (h : am_t19.lookup pc = some x) : am_in 19 pc = some x := by
  unfold am_in
  rw [show decode (am_c 19) pc = .ok x from am_kt19 _ (am_look h)]
theorem am_d20 {pc : Nat} {x : Instr × Nat} (h : am_t20.lookup pc = some x) : am_in 20 pc = some x := by
  unfold am_in
  rw [show decode (am_c 20) pc = .ok x from am_kt20 _ (am_look h)]
theorem am_d21 {pc : Nat} {x : Instr × Nat} (h : am_t21.lookup pc = some x) : am_in 21 pc = some x := by
  unfold am_in
  rw [show decode (am_c 21) pc = .ok x from am_kt21 _ (am_look h)]
theorem am_d22 {pc : Nat} {x : Instr × Nat} (h : am_t22.lookup pc = some x) : am_in 22 pc = some x := by
  unfold am_in
  rw [show decode (am_c 22) pc = .ok x from am_kt22 _ (am_look h)]
theorem am_d23 {pc : Nat} {x : Instr × Nat} (h : am_t23.lookup pc = some x) : am_in 23 pc = some x := by
  unfold am_in
  rw [show decode (am_c 23) pc = .ok x from am_kt23 _ (am_look h)]
theorem am_d24 {pc : Nat} {x : Instr × Nat} (h : am_t24.lookup pc = some x) : am_in 24 pc = some x := by
  unfold am_in
  rw [show decode (am_c 24) pc = .ok x from am_kt24 _ (am_look h)]
theorem am_d25 {pc : Nat} {x : Instr × Nat} (h : am_t25.lookup pc = some x) : am_in 25 pc = some x := by
  unfold am_in
  rw [show decode (am_c 25) pc = .ok x from am_kt25 _ (am_look h)]
theorem am_d26 {pc : Nat} {x : Instr × Nat} (h : am_t26.lookup pc = some x) : am_in 26 pc = some x := by
  unfold am_in
  rw [show decode (am_c 26) pc = .ok x from am_kt26 _ (am_look h)]
theorem am_d27 {pc : Nat} {x : Instr × Nat} (h : am_t27.lookup pc = some x) : am_in 27 pc = some x := by
  unfold am_in
  rw [show decode (am_c 27) pc = .ok x from am_kt27 _ (am_look h)]
theorem am_d28 {pc : Nat} {x : Instr × Nat} (h : am_t28.lookup pc = some x) : am_in 28 pc = some x := by
  unfold am_in
  rw [show decode (am_c 28) pc = .ok x from am_kt28 _ (am_look h)]
theorem am_d29 {pc : Nat} {x : Instr × Nat} (h : am_t29.lookup pc = some x) : am_in 29 pc = some x := by
  unfold am_in
  rw [show decode (am_c 29) pc = .ok x from am_kt29 _ (am_look h)]
theorem am_d30 {pc : Nat} {x : Instr × Nat} (h : am_t30.lookup pc = some x) : am_in 30 pc = some x := by
  unfold am_in
  rw [show decode (am_c 30) pc = .ok x from am_kt30 _ (am_look h)]
theorem am_d31 {pc : Nat} {x : Instr × Nat} (h : am_t31.lookup pc = some x) : am_in 31 pc = some x := by
  unfold am_in
  rw [show decode (am_c 31) pc = .ok x from am_kt31 _ (am_look h)]
theorem am_d32 {pc : Nat} {x : Instr × Nat} (h : am_t32.lookup pc = some x) : am_in 32 pc = some x := by
  unfold am_in
  rw [show decode (am_c 32) pc = .ok x from am_kt32 _ (am_look h)]
theorem am_d33 {pc : Nat} {x : Instr × Nat} (h : am_t33.lookup pc = some x) : am_in 33 pc = some x := by
  unfold am_in
  rw [show decode (am_c 33) pc = .ok x from am_kt33 _ (am_look h)]
theorem am_d34 {pc : Nat} {x : Instr × Nat} (h : am_t34.lookup pc = some x) : am_in 34 pc = some x := by
  unfold am_in
  rw [show decode (am_c 34) pc = .ok x from am_kt34 _ (am_look h)]
theorem am_d35 {pc : Nat} {x : Instr × Nat} (h : am_t35.lookup pc = some x) : am_in 35 pc = some x := by
  unfold am_in
  rw [show decode (am_c 35) pc = .ok x from am_kt35 _ (am_look h)]
theorem am_d36 {pc : Nat} {x : Instr × Nat} (h : am_t36.lookup pc = some x) : am_in 36 pc = some x := by
  unfold am_in
  rw [show decode (am_c 36) pc = .ok x from am_kt36 _ (am_look h)]
theorem am_d37 {pc : Nat} {x : Instr × Nat} (h : am_t37.lookup pc = some x) : am_in 37 pc = some x := by
  unfold am_in
  rw [show decode (am_c 37) pc = .ok x from am_kt37 _ (am_look h)]
theorem am_d38 {pc : Nat} {x : Instr × Nat} (h : am_t38.lookup pc = some x) : am_in 38 pc = some x := by
  unfold am_in
  rw [show decode (am_c 38) pc = .ok x from am_kt38 _ (am_look h)]
theorem am_d39 {pc : Nat} {x : Instr × Nat} (h : am_t39.lookup pc = some x) : am_in 39 pc = some x := by
  unfold am_in
  rw [show decode (am_c 39) pc = .ok x from am_kt39 _ (am_look h)]
theorem am_d40 {pc : Nat} {x : Instr × Nat} (h : am_t40.lookup pc = some x) : am_in 40 pc = some x := by
  unfold am_in
  rw [show decode (am_c 40) pc = .ok x from am_kt40 _ (am_look h)]
theorem am_d41 {pc : Nat} {x : Instr × Nat} (h : am_t41.lookup pc = some x) : am_in 41 pc = some x := by
  unfold am_in
  rw [show decode (am_c 41) pc = .ok x from am_kt41 _ (am_look h)]
theorem am_d42 {pc : Nat} {x : Instr × Nat} (h : am_t42.lookup pc = some x) : am_in 42 pc = some x := by
  unfold am_in
  rw [show decode (am_c 42) pc = .ok x from am_kt42 _ (am_look h)]
theorem am_d43 {pc : Nat} {x : Instr × Nat} (h : am_t43.lookup pc = some x) : am_in 43 pc = some x := by
  unfold am_in
  rw [show decode (am_c 43) pc = .ok x from am_kt43 _ (am_look h)]
theorem am_d44 {pc : Nat} {x : Instr × Nat} (h : am_t44.lookup pc = some x) : am_in 44 pc = some x := by
  unfold am_in
  rw [show decode (am_c 44) pc = .ok x from am_kt44 _ (am_look h)]
theorem am_d45 {pc : Nat} {x : Instr × Nat} (h : am_t45.lookup pc = some x) : am_in 45 pc = some x := by
  unfold am_in
  rw [show decode (am_c 45) pc = .ok x from am_kt45 _ (am_look h)]
theorem am_d46 {pc : Nat} {x : Instr × Nat} (h : am_t46.lookup pc = some x) : am_in 46 pc = some x := by
  unfold am_in
  rw [show decode (am_c 46) pc = .ok x from am_kt46 _ (am_look h)]
theorem am_d47 {pc : Nat} {x : Instr × Nat} (h : am_t47.lookup pc = some x) : am_in 47 pc = some x := by
  unfold am_in
  rw [show decode (am_c 47) pc = .ok x from am_kt47 _ (am_look h)]
theorem am_d48 {pc : Nat} {x : Instr × Nat} (h : am_t48.lookup pc = some x) : am_in 48 pc = some x := by
  unfold am_in
  rw [show decode (am_c 48) pc = .ok x from am_kt48 _ (am_look h)]
theorem am_d49 {pc : Nat} {x : Instr × Nat} (h : am_t49.lookup pc = some x) : am_in 49 pc = some x := by
  unfold am_in
  rw [show decode (am_c 49) pc = .ok x from am_kt49 _ (am_look h)]
theorem am_d50 {pc : Nat} {x : Instr × Nat} (h : am_t50.lookup pc = some x) : am_in 50 pc = some x := by
  unfold am_in
  rw [show decode (am_c 50) pc = .ok x from am_kt50 _ (am_look h)]
theorem am_d51 {pc : Nat} {x : Instr × Nat} (h : am_t51.lookup pc = some x) : am_in 51 pc = some x := by
  unfold am_in
  rw [show decode (am_c 51) pc = .ok x from am_kt51 _ (am_look h)]
theorem am_d52 {pc : Nat} {x : Instr × Nat} (h : am_t52.lookup pc = some x) : am_in 52 pc = some x := by
  unfold am_in
  rw [show decode (am_c 52) pc = .ok x from am_kt52 _ (am_look h)]
theorem am_d53 {pc : Nat} {x : Instr × Nat} (h : am_t53.lookup pc = some x) : am_in 53 pc = some x := by
  unfold am_in
  rw [show decode (am_c 53) pc = .ok x from am_kt53 _ (am_look h)]
theorem am_d54 {pc : Nat} {x : Instr × Nat} (h : am_t54.lookup pc = some x) : am_in 54 pc = some x := by
  unfold am_in
  rw [show decode (am_c 54) pc = .ok x from am_kt54 _ (am_look h)]
theorem am_d55 {pc : Nat} {x : Instr × Nat} (h : am_t55.lookup pc = some x) : am_in 55 pc = some x := by
  unfold am_in
  rw [show decode (am_c 55) pc = .ok x from am_kt55 _ (am_look h)]
theorem am_d56 {pc : Nat} {x : Instr × Nat} (h : am_t56.lookup pc = some x) : am_in 56 pc = some x := by
  unfold am_in
  rw [show decode (am_c 56) pc = .ok x from am_kt56 _ (am_look h)]
theorem am_d57 {pc : Nat} {x : Instr × Nat} (h : am_t57.lookup pc = some x) : am_in 57 pc = some x := by
  unfold am_in
  rw [show decode (am_c 57) pc = .ok x from am_kt57 _ (am_look h)]
theorem am_d58 {pc : Nat} {x : Instr × Nat} (h : am_t58.lookup pc = some x) : am_in 58 pc = some x := by
  unfold am_in
  rw [show decode (am_c 58) pc = .ok x from am_kt58 _ (am_look h)]
theorem am_d59 {pc : Nat} {x : Instr × Nat} (h : am_t59.lookup pc = some x) : am_in 59 pc = some x := by
  unfold am_in
  rw [show decode (am_c 59) pc = .ok x from am_kt59 _ (am_look h)]
theorem am_d60 {pc : Nat} {x : Instr × Nat} (h : am_t60.lookup pc = some x) : am_in 60 pc = some x := by
  unfold am_in
  rw [show decode (am_c 60) pc = .ok x from am_kt60 _ (am_look h)]
theorem am_d61 {pc : Nat} {x : Instr × Nat} (h : am_t61.lookup pc = some x) : am_in 61 pc = some x := by
  unfold am_in
  rw [show decode (am_c 61) pc = .ok x from am_kt61 _ (am_look h)]
theorem am_d62 {pc : Nat} {x : Instr × Nat} (h : am_t62.lookup pc = some x) : am_in 62 pc = some x := by
  unfold am_in
  rw [show decode (am_c 62) pc = .ok x from am_kt62 _ (am_look h)]
theorem am_d63 {pc : Nat} {x : Instr × Nat} (h : am_t63.lookup pc = some x) : am_in 63 pc = some x := by
  unfold am_in
  rw [show decode (am_c 63) pc = .ok x from am_kt63 _ (am_look h)]
theorem am_d64 {pc : Nat} {x : Instr × Nat} (h : am_t64.lookup pc = some x) : am_in 64 pc = some x := by
  unfold am_in
  rw [show decode (am_c 64) pc = .ok x from am_kt64 _ (am_look h)]
theorem am_d65 {pc : Nat} {x : Instr × Nat} (h : am_t65.lookup pc = some x) : am_in 65 pc = some x := by
  unfold am_in
  rw [show decode (am_c 65) pc = .ok x from am_kt65 _ (am_look h)]
theorem am_d66 {pc : Nat} {x : Instr × Nat} (h : am_t66.lookup pc = some x) : am_in 66 pc = some x := by
  unfold am_in
  rw [show decode (am_c 66) pc = .ok x from am_kt66 _ (am_look h)]
theorem am_d67 {pc : Nat} {x : Instr × Nat} (h : am_t67.lookup pc = some x) : am_in 67 pc = some x := by
  unfold am_in
  rw [show decode (am_c 67) pc = .ok x from am_kt67 _ (am_look h)]
theorem am_d68 {pc : Nat} {x : Instr × Nat} (h : am_t68.lookup pc = some x) : am_in 68 pc = some x := by
  unfold am_in
  rw [show decode (am_c 68) pc = .ok x from am_kt68 _ (am_look h)]
theorem am_d69 {pc : Nat} {x : Instr × Nat} (h : am_t69.lookup pc = some x) : am_in 69 pc = some x := by
  unfold am_in
  rw [show decode (am_c 69) pc = .ok x from am_kt69 _ (am_look h)]
theorem am_d70 {pc : Nat} {x : Instr × Nat} (h : am_t70.lookup pc = some x) : am_in 70 pc = some x := by
  unfold am_in
  rw [show decode (am_c 70) pc = .ok x from am_kt70 _ (am_look h)]
theorem am_d71 {pc : Nat} {x : Instr × Nat} (h : am_t71.lookup pc = some x) : am_in 71 pc = some x := by
  unfold am_in
  rw [show decode (am_c 71) pc = .ok x from am_kt71 _ (am_look h)]
theorem am_d72 {pc : Nat} {x : Instr × Nat} (h : am_t72.lookup pc = some x) : am_in 72 pc = some x := by
  unfold am_in
  rw [show decode (am_c 72) pc = .ok x from am_kt72 _ (am_look h)]
theorem am_d73 {pc : Nat} {x : Instr × Nat} (h : am_t73.lookup pc = some x) : am_in 73 pc = some x := by
  unfold am_in
  rw [show decode (am_c 73) pc = .ok x from am_kt73 _ (am_look h)]
theorem am_d74 {pc : Nat} {x : Instr × Nat} (h : am_t74.lookup pc = some x) : am_in 74 pc = some x := by
  unfold am_in
  rw [show decode (am_c 74) pc = .ok x from am_kt74 _ (am_look h)]
theorem am_d75 {pc : Nat} {x : Instr × Nat} (h : am_t75.lookup pc = some x) : am_in 75 pc = some x := by
  unfold am_in
  rw [show decode (am_c 75) pc = .ok x from am_kt75 _ (am_look h)]
theorem am_d76 {pc : Nat} {x : Instr × Nat} (h : am_t76.lookup pc = some x) : am_in 76 pc = some x := by
  unfold am_in
  rw [show decode (am_c 76) pc = .ok x from am_kt76 _ (am_look h)]
theorem am_d77 {pc : Nat} {x : Instr × Nat} (h : am_t77.lookup pc = some x) : am_in 77 pc = some x := by
  unfold am_in
  rw [show decode (am_c 77) pc = .ok x from am_kt77 _ (am_look h)]
theorem am_d78 {pc : Nat} {x : Instr × Nat} (h : am_t78.lookup pc = some x) : am_in 78 pc = some x := by
  unfold am_in
  rw [show decode (am_c 78) pc = .ok x from am_kt78 _ (am_look h)]
theorem am_d79 {pc : Nat} {x : Instr × Nat} (h : am_t79.lookup pc = some x) : am_in 79 pc = some x := by
  unfold am_in
  rw [show decode (am_c 79) pc = .ok x from am_kt79 _ (am_look h)]
theorem am_d80 {pc : Nat} {x : Instr × Nat} (h : am_t80.lookup pc = some x) : am_in 80 pc = some x := by
  unfold am_in
  rw [show decode (am_c 80) pc = .ok x from am_kt80 _ (am_look h)]
theorem am_d81 {pc : Nat} {x : Instr × Nat} (h : am_t81.lookup pc = some x) : am_in 81 pc = some x := by
  unfold am_in
  rw [show decode (am_c 81) pc = .ok x from am_kt81 _ (am_look h)]
theorem am_d82 {pc : Nat} {x : Instr × Nat} (h : am_t82.lookup pc = some x) : am_in 82 pc = some x := by
  unfold am_in
  rw [show decode (am_c 82) pc = .ok x from am_kt82 _ (am_look h)]
theorem am_d83 {pc : Nat} {x : Instr × Nat} (h : am_t83.lookup pc = some x) : am_in 83 pc = some x := by
  unfold am_in
  rw [show decode (am_c 83) pc = .ok x from am_kt83 _ (am_look h)]
theorem am_d84 {pc : Nat} {x : Instr × Nat} (h : am_t84.lookup pc = some x) : am_in 84 pc = some x := by
  unfold am_in
  rw [show decode (am_c 84) pc = .ok x from am_kt84 _ (am_look h)]
theorem am_d85 {pc : Nat} {x : Instr × Nat} (h : am_t85.lookup pc = some x) : am_in 85 pc = some x := by
  unfold am_in
  rw [show decode (am_c 85) pc = .ok x from am_kt85 _ (am_look h)]
theorem am_d86 {pc : Nat} {x : Instr × Nat} (h : am_t86.lookup pc = some x) : am_in 86 pc = some x := by
  unfold am_in
  rw [show decode (am_c 86) pc = .ok x from am_kt86 _ (am_look h)]
theorem am_d87 {pc : Nat} {x : Instr × Nat} (h : am_t87.lookup pc = some x) : am_in 87 pc = some x := by
  unfold am_in
  rw [show decode (am_c 87) pc = .ok x from am_kt87 _ (am_look h)]
theorem am_d88 {pc : Nat} {x : Instr × Nat} (h : am_t88.lookup pc = some x) : am_in 88 pc = some x := by
  unfold am_in
  rw [show decode (am_c 88) pc = .ok x from am_kt88 _ (am_look h)]
theorem am_d89 {pc : Nat} {x : Instr × Nat} (h : am_t89.lookup pc = some x) : am_in 89 pc = some x := by
  unfold am_in
  rw [show decode (am_c 89) pc = .ok x from am_kt89 _ (am_look h)]
theorem am_d90 {pc : Nat} {x : Instr × Nat} (h : am_t90.lookup pc = some x) : am_in 90 pc = some x := by
  unfold am_in
  rw [show decode (am_c 90) pc = .ok x from am_kt90 _ (am_look h)]
theorem am_d91 {pc : Nat} {x : Instr × Nat} (h : am_t91.lookup pc = some x) : am_in 91 pc = some x := by
  unfold am_in
  rw [show decode (am_c 91) pc = .ok x from am_kt91 _ (am_look h)]
theorem am_d92 {pc : Nat} {x : Instr × Nat} (h : am_t92.lookup pc = some x) : am_in 92 pc = some x := by
  unfold am_in
  rw [show decode (am_c 92) pc = .ok x from am_kt92 _ (am_look h)]
theorem am_d93 {pc : Nat} {x : Instr × Nat} (h : am_t93.lookup pc = some x) : am_in 93 pc = some x := by
  unfold am_in
  rw [show decode (am_c 93) pc = .ok x from am_kt93 _ (am_look h)]
theorem am_d94 {pc : Nat} {x : Instr × Nat} (h : am_t94.lookup pc = some x) : am_in 94 pc = some x := by
  unfold am_in
  rw [show decode (am_c 94) pc = .ok x from am_kt94 _ (am_look h)]
theorem am_d95 {pc : Nat} {x : Instr × Nat} (h : am_t95.lookup pc = some x) : am_in 95 pc = some x := by
  unfold am_in
  rw [show decode (am_c 95) pc = .ok x from am_kt95 _ (am_look h)]
theorem am_d96 {pc : Nat} {x : Instr × Nat} (h : am_t96.lookup pc = some x) : am_in 96 pc = some x := by
  unfold am_in
  rw [show decode (am_c 96) pc = .ok x from am_kt96 _ (am_look h)]
theorem am_d97 {pc : Nat} {x : Instr × Nat} (h : am_t97.lookup pc = some x) : am_in 97 pc = some x := by
  unfold am_in
  rw [show decode (am_c 97) pc = .ok x from am_kt97 _ (am_look h)]
theorem am_d98 {pc : Nat} {x : Instr × Nat} (h : am_t98.lookup pc = some x) : am_in 98 pc = some x := by
  unfold am_in
  rw [show decode (am_c 98) pc = .ok x from am_kt98 _ (am_look h)]
theorem am_d99 {pc : Nat} {x : Instr × Nat} (h : am_t99.lookup pc = some x) : am_in 99 pc = some x := by
  unfold am_in
  rw [show decode (am_c 99) pc = .ok x from am_kt99 _ (am_look h)]
theorem am_d100 {pc : Nat} {x : Instr × Nat} (h : am_t100.lookup pc = some x) : am_in 100 pc = some x := by
  unfold am_in
  rw [show decode (am_c 100) pc = .ok x from am_kt100 _ (am_look h)]
theorem am_d101 {pc : Nat} {x : Instr × Nat} (h : am_t101.lookup pc = some x) : am_in 101 pc = some x := by
  unfold am_in
  rw [show decode (am_c 101) pc = .ok x from am_kt101 _ (am_look h)]
theorem am_d102 {pc : Nat} {x : Instr × Nat} (h : am_t102.lookup pc = some x) : am_in 102 pc = some x := by
  unfold am_in
  rw [show decode (am_c 102) pc = .ok x from am_kt102 _ (am_look h)]
theorem am_d103 {pc : Nat} {x : Instr × Nat} (h : am_t103.lookup pc = some x) : am_in 103 pc = some x := by
  unfold am_in
  rw [show decode (am_c 103) pc = .ok x from am_kt103 _ (am_look h)]
theorem am_d104 {pc : Nat} {x : Instr × Nat} (h : am_t104.lookup pc = some x) : am_in 104 pc = some x := by
  unfold am_in
  rw [show decode (am_c 104) pc = .ok x from am_kt104 _ (am_look h)]
theorem am_d105 {pc : Nat} {x : Instr × Nat} (h : am_t105.lookup pc = some x) : am_in 105 pc = some x := by
  unfold am_in
  rw [show decode (am_c 105) pc = .ok x from am_kt105 _ (am_look h)]
theorem am_d106 {pc : Nat} {x : Instr × Nat} (h : am_t106.lookup pc = some x) : am_in 106 pc = some x := by
  unfold am_in
  rw [show decode (am_c 106) pc = .ok x from am_kt106 _ (am_look h)]
theorem am_d107 {pc : Nat} {x : Instr × Nat} (h : am_t107.lookup pc = some x) : am_in 107 pc = some x := by
  unfold am_in
  rw [show decode (am_c 107) pc = .ok x from am_kt107 _ (am_look h)]
theorem am_d108 {pc : Nat} {x : Instr × Nat} (h : am_t108.lookup pc = some x) : am_in 108 pc = some x := by
  unfold am_in
  rw [show decode (am_c 108) pc = .ok x from am_kt108 _ (am_look h)]
theorem am_d109 {pc : Nat} {x : Instr × Nat} (h : am_t109.lookup pc = some x) : am_in 109 pc = some x := by
  unfold am_in
  rw [show decode (am_c 109) pc = .ok x from am_kt109 _ (am_look h)]
theorem am_d110 {pc : Nat} {x : Instr × Nat} (h : am_t110.lookup pc = some x) : am_in 110 pc = some x := by
  unfold am_in
  rw [show decode (am_c 110) pc = .ok x from am_kt110 _ (am_look h)]
theorem am_d111 {pc : Nat} {x : Instr × Nat} (h : am_t111.lookup pc = some x) : am_in 111 pc = some x := by
  unfold am_in
  rw [show decode (am_c 111) pc = .ok x from am_kt111 _ (am_look h)]
theorem am_d112 {pc : Nat} {x : Instr × Nat} (h : am_t112.lookup pc = some x) : am_in 112 pc = some x := by
  unfold am_in
  rw [show decode (am_c 112) pc = .ok x from am_kt112 _ (am_look h)]
theorem am_d113 {pc : Nat} {x : Instr × Nat} (h : am_t113.lookup pc = some x) : am_in 113 pc = some x := by
  unfold am_in
  rw [show decode (am_c 113) pc = .ok x from am_kt113 _ (am_look h)]
theorem am_d114 {pc : Nat} {x : Instr × Nat} (h : am_t114.lookup pc = some x) : am_in 114 pc = some x := by
  unfold am_in
  rw [show decode (am_c 114) pc = .ok x from am_kt114 _ (am_look h)]
theorem am_d115 {pc : Nat} {x : Instr × Nat} (h : am_t115.lookup pc = some x) : am_in 115 pc = some x := by
  unfold am_in
  rw [show decode (am_c 115) pc = .ok x from am_kt115 _ (am_look h)]
theorem am_d116 {pc : Nat} {x : Instr × Nat} (h : am_t116.lookup pc = some x) : am_in 116 pc = some x := by
  unfold am_in
  rw [show decode (am_c 116) pc = .ok x from am_kt116 _ (am_look h)]
theorem am_d117 {pc : Nat} {x : Instr × Nat} (h : am_t117.lookup pc = some x) : am_in 117 pc = some x := by
  unfold am_in
  rw [show decode (am_c 117) pc = .ok x from am_kt117 _ (am_look h)]
theorem am_d118 {pc : Nat} {x : Instr × Nat} (h : am_t118.lookup pc = some x) : am_in 118 pc = some x := by
  unfold am_in
  rw [show decode (am_c 118) pc = .ok x from am_kt118 _ (am_look h)]
theorem am_d119 {pc : Nat} {x : Instr × Nat} (h : am_t119.lookup pc = some x) : am_in 119 pc = some x := by
  unfold am_in
  rw [show decode (am_c 119) pc = .ok x from am_kt119 _ (am_look h)]
theorem am_d120 {pc : Nat} {x : Instr × Nat} (h : am_t120.lookup pc = some x) : am_in 120 pc = some x := by
  unfold am_in
  rw [show decode (am_c 120) pc = .ok x from am_kt120 _ (am_look h)]
theorem am_d121 {pc : Nat} {x : Instr × Nat} (h : am_t121.lookup pc = some x) : am_in 121 pc = some x := by
  unfold am_in
  rw [show decode (am_c 121) pc = .ok x from am_kt121 _ (am_look h)]
theorem am_d122 {pc : Nat} {x : Instr × Nat} (h : am_t122.lookup pc = some x) : am_in 122 pc = some x := by
  unfold am_in
  rw [show decode (am_c 122) pc = .ok x from am_kt122 _ (am_look h)]
theorem am_d123 {pc : Nat} {x : Instr × Nat} (h : am_t123.lookup pc = some x) : am_in 123 pc = some x := by
  unfold am_in
  rw [show decode (am_c 123) pc = .ok x from am_kt123 _ (am_look h)]
theorem am_d124 {pc : Nat} {x : Instr × Nat} (h : am_t124.lookup pc = some x) : am_in 124 pc = some x := by
  unfold am_in
  rw [show decode (am_c 124) pc = .ok x from am_kt124 _ (am_look h)]
theorem am_d125 {pc : Nat} {x : Instr × Nat} (h : am_t125.lookup pc = some x) : am_in 125 pc = some x := by
  unfold am_in
  rw [show decode (am_c 125) pc = .ok x from am_kt125 _ (am_look h)]
theorem am_d126 {pc : Nat} {x : Instr × Nat} (h : am_t126.lookup pc = some x) : am_in 126 pc = some x := by
  unfold am_in
  rw [show decode (am_c 126) pc = .ok x from am_kt126 _ (am_look h)]
theorem am_d127 {pc : Nat} {x : Instr × Nat} (h : am_t127.lookup pc = some x) : am_in 127 pc = some x := by
  unfold am_in
  rw [show decode (am_c 127) pc = .ok x from am_kt127 _ (am_look h)]
theorem am_d128 {pc : Nat} {x : Instr × Nat} (h : am_t128.lookup pc = some x) : am_in 128 pc = some x := by
  unfold am_in
  rw [show decode (am_c 128) pc = .ok x from am_kt128 _ (am_look h)]
theorem am_d129 {pc : Nat} {x : Instr × Nat} (h : am_t129.lookup pc = some x) : am_in 129 pc = some x := by
  unfold am_in
  rw [show decode (am_c 129) pc = .ok x from am_kt129 _ (am_look h)]
theorem am_d130 {pc : Nat} {x : Instr × Nat} (h : am_t130.lookup pc = some x) : am_in 130 pc = some x := by
  unfold am_in
  rw [show decode (am_c 130) pc = .ok x from am_kt130 _ (am_look h)]
theorem am_d131 {pc : Nat} {x : Instr × Nat} (h : am_t131.lookup pc = some x) : am_in 131 pc = some x := by
  unfold am_in
  rw [show decode (am_c 131) pc = .ok x from am_kt131 _ (am_look h)]
theorem am_d132 {pc : Nat} {x : Instr × Nat} (h : am_t132.lookup pc = some x) : am_in 132 pc = some x := by
  unfold am_in
  rw [show decode (am_c 132) pc = .ok x from am_kt132 _ (am_look h)]
theorem am_d133 {pc : Nat} {x : Instr × Nat} (h : am_t133.lookup pc = some x) : am_in 133 pc = some x := by
  unfold am_in
  rw [show decode (am_c 133) pc = .ok x from am_kt133 _ (am_look h)]
theorem am_d134 {pc : Nat} {x : Instr × Nat} (h : am_t134.lookup pc = some x) : am_in 134 pc = some x := by
  unfold am_in
  rw [show decode (am_c 134) pc = .ok x from am_kt134 _ (am_look h)]
theorem am_d135 {pc : Nat} {x : Instr × Nat} (h : am_t135.lookup pc = some x) : am_in 135 pc = some x := by
  unfold am_in
  rw [show decode (am_c 135) pc = .ok x from am_kt135 _ (am_look h)]
theorem am_d136 {pc : Nat} {x : Instr × Nat} (h : am_t136.lookup pc = some x) : am_in 136 pc = some x := by
  unfold am_in
  rw [show decode (am_c 136) pc = .ok x from am_kt136 _ (am_look h)]
theorem am_d137 {pc : Nat} {x : Instr × Nat} (h : am_t137.lookup pc = some x) : am_in 137 pc = some x := by
  unfold am_in
  rw [show decode (am_c 137) pc = .ok x from am_kt137 _ (am_look h)]
theorem am_d138 {pc : Nat} {x : Instr × Nat} (h : am_t138.lookup pc = some x) : am_in 138 pc = some x := by
  unfold am_in
  rw [show decode (am_c 138) pc = .ok x from am_kt138 _ (am_look h)]
theorem am_d139 {pc : Nat} {x : Instr × Nat} (h : am_t139.lookup pc = some x) : am_in 139 pc = some x := by
  unfold am_in
  rw [show decode (am_c 139) pc = .ok x from am_kt139 _ (am_look h)]
theorem am_d140 {pc : Nat} {x : Instr × Nat} (h : am_t140.lookup pc = some x) : am_in 140 pc = some x := by
  unfold am_in
  rw [show decode (am_c 140) pc = .ok x from am_kt140 _ (am_look h)]
theorem am_d141 {pc : Nat} {x : Instr × Nat} (h : am_t141.lookup pc = some x) : am_in 141 pc = some x := by
  unfold am_in
  rw [show decode (am_c 141) pc = .ok x from am_kt141 _ (am_look h)]
theorem am_d142 {pc : Nat} {x : Instr × Nat} (h : am_t142.lookup pc = some x) : am_in 142 pc = some x := by
  unfold am_in
  rw [show decode (am_c 142) pc = .ok x from am_kt142 _ (am_look h)]
theorem am_d143 {pc : Nat} {x : Instr × Nat} (h : am_t143.lookup pc = some x) : am_in 143 pc = some x := by
  unfold am_in
  rw [show decode (am_c 143) pc = .ok x from am_kt143 _ (am_look h)]
theorem am_d144 {pc : Nat} {x : Instr × Nat} (h : am_t144.lookup pc = some x) : am_in 144 pc = some x := by
  unfold am_in
  rw [show decode (am_c 144) pc = .ok x from am_kt144 _ (am_look h)]
theorem am_d145 {pc : Nat} {x : Instr × Nat} (h : am_t145.lookup pc = some x) : am_in 145 pc = some x := by
  unfold am_in
  rw [show decode (am_c 145) pc = .ok x from am_kt145 _ (am_look h)]
theorem am_d146 {pc : Nat} {x : Instr × Nat} (h : am_t146.lookup pc = some x) : am_in 146 pc = some x := by
  unfold am_in
  rw [show decode (am_c 146) pc = .ok x from am_kt146 _ (am_look h)]
theorem am_d147 {pc : Nat} {x : Instr × Nat} (h : am_t147.lookup pc = some x) : am_in 147 pc = some x := by
  unfold am_in
  rw [show decode (am_c 147) pc = .ok x from am_kt147 _ (am_look h)]
theorem am_d148 {pc : Nat} {x : Instr × Nat} (h : am_t148.lookup pc = some x) : am_in 148 pc = some x := by
  unfold am_in
  rw [show decode (am_c 148) pc = .ok x from am_kt148 _ (am_look h)]
theorem am_d149 {pc : Nat} {x : Instr × Nat} (h : am_t149.lookup pc = some x) : am_in 149 pc = some x := by
  unfold am_in
  rw [show decode (am_c 149) pc = .ok x from am_kt149 _ (am_look h)]
theorem am_d150 {pc : Nat} {x : Instr × Nat} (h : am_t150.lookup pc = some x) : am_in 150 pc = some x := by
  unfold am_in
  rw [show decode (am_c 150) pc = .ok x from am_kt150 _ (am_look h)]
theorem am_d151 {pc : Nat} {x : Instr × Nat} (h : am_t151.lookup pc = some x) : am_in 151 pc = some x := by
  unfold am_in
  rw [show decode (am_c 151) pc = .ok x from am_kt151 _ (am_look h)]
theorem am_d152 {pc : Nat} {x : Instr × Nat} (h : am_t152.lookup pc = some x) : am_in 152 pc = some x := by
  unfold am_in
  rw [show decode (am_c 152) pc = .ok x from am_kt152 _ (am_look h)]
theorem am_d153 {pc : Nat} {x : Instr × Nat} (h : am_t153.lookup pc = some x) : am_in 153 pc = some x := by
  unfold am_in
  rw [show decode (am_c 153) pc = .ok x from am_kt153 _ (am_look h)]
theorem am_d154 {pc : Nat} {x : Instr × Nat} (h : am_t154.lookup pc = some x) : am_in 154 pc = some x := by
  unfold am_in
  rw [show decode (am_c 154) pc = .ok x from am_kt154 _ (am_look h)]
theorem am_d155 {pc : Nat} {x : Instr × Nat} (h : am_t155.lookup pc = some x) : am_in 155 pc = some x := by
  unfold am_in
  rw [show decode (am_c 155) pc = .ok x from am_kt155 _ (am_look h)]
theorem am_d156 {pc : Nat} {x : Instr × Nat} (h : am_t156.lookup pc = some x) : am_in 156 pc = some x := by
  unfold am_in
  rw [show decode (am_c 156) pc = .ok x from am_kt156 _ (am_look h)]
theorem am_d157 {pc : Nat} {x : Instr × Nat} (h : am_t157.lookup pc = some x) : am_in 157 pc = some x := by
  unfold am_in
  rw [show decode (am_c 157) pc = .ok x from am_kt157 _ (am_look h)]
theorem am_d158 {pc : Nat} {x : Instr × Nat} (h : am_t158.lookup pc = some x) : am_in 158 pc = some x := by
  unfold am_in
  rw [show decode (am_c 158) pc = .ok x from am_kt158 _ (am_look h)]
theorem am_d159 {pc : Nat} {x : Instr × Nat} (h : am_t159.lookup pc = some x) : am_in 159 pc = some x := by
  unfold am_in
  rw [show decode (am_c 159) pc = .ok x from am_kt159 _ (am_look h)]
theorem am_d160 {pc : Nat} {x : Instr × Nat} (h : am_t160.lookup pc = some x) : am_in 160 pc = some x := by
  unfold am_in
  rw [show decode (am_c 160) pc = .ok x from am_kt160 _ (am_look h)]
theorem am_d161 {pc : Nat} {x : Instr × Nat} (h : am_t161.lookup pc = some x) : am_in 161 pc = some x := by
  unfold am_in
  rw [show decode (am_c 161) pc = .ok x from am_kt161 _ (am_look h)]
theorem am_d162 {pc : Nat} {x : Instr × Nat} (h : am_t162.lookup pc = some x) : am_in 162 pc = some x := by
  unfold am_in
  rw [show decode (am_c 162) pc = .ok x from am_kt162 _ (am_look h)]
theorem am_d163 {pc : Nat} {x : Instr × Nat} (h : am_t163.lookup pc = some x) : am_in 163 pc = some x := by
  unfold am_in
  rw [show decode (am_c 163) pc = .ok x from am_kt163 _ (am_look h)]
theorem am_d164 {pc : Nat} {x : Instr × Nat} (h : am_t164.lookup pc = some x) : am_in 164 pc = some x := by
  unfold am_in
  rw [show decode (am_c 164) pc = .ok x from am_kt164 _ (am_look h)]
theorem am_d165 {pc : Nat} {x : Instr × Nat} (h : am_t165.lookup pc = some x) : am_in 165 pc = some x := by
  unfold am_in
  rw [show decode (am_c 165) pc = .ok x from am_kt165 _ (am_look h)]
theorem am_d166 {pc : Nat} {x : Instr × Nat} (h : am_t166.lookup pc = some x) : am_in 166 pc = some x := by
  unfold am_in
  rw [show decode (am_c 166) pc = .ok x from am_kt166 _ (am_look h)]
theorem am_d167 {pc : Nat} {x : Instr × Nat} (h : am_t167.lookup pc = some x) : am_in 167 pc = some x := by
  unfold am_in
  rw [show decode (am_c 167) pc = .ok x from am_kt167 _ (am_look h)]
theorem am_d168 {pc : Nat} {x : Instr × Nat} (h : am_t168.lookup pc = some x) : am_in 168 pc = some x := by
  unfold am_in
  rw [show decode (am_c 168) pc = .ok x from am_kt168 _ (am_look h)]
theorem am_d169 {pc : Nat} {x : Instr × Nat} (h : am_t169.lookup pc = some x) : am_in 169 pc = some x := by
  unfold am_in
  rw [show decode (am_c 169) pc = .ok x from am_kt169 _ (am_look h)]
theorem am_d170 {pc : Nat} {x : Instr × Nat} (h : am_t170.lookup pc = some x) : am_in 170 pc = some x := by
  unfold am_in
  rw [show decode (am_c 170) pc = .ok x from am_kt170 _ (am_look h)]
theorem am_d171 {pc : Nat} {x : Instr × Nat} (h : am_t171.lookup pc = some x) : am_in 171 pc = some x := by
  unfold am_in
  rw [show decode (am_c 171) pc = .ok x from am_kt171 _ (am_look h)]
theorem am_d172 {pc : Nat} {x : Instr × Nat} (h : am_t172.lookup pc = some x) : am_in 172 pc = some x := by
  unfold am_in
  rw [show decode (am_c 172) pc = .ok x from am_kt172 _ (am_look h)]
theorem am_d173 {pc : Nat} {x : Instr × Nat} (h : am_t173.lookup pc = some x) : am_in 173 pc = some x := by
  unfold am_in
  rw [show decode (am_c 173) pc = .ok x from am_kt173 _ (am_look h)]
theorem am_d174 {pc : Nat} {x : Instr × Nat} (h : am_t174.lookup pc = some x) : am_in 174 pc = some x := by
  unfold am_in
  rw [show decode (am_c 174) pc = .ok x from am_kt174 _ (am_look h)]
theorem am_d175 {pc : Nat} {x : Instr × Nat} (h : am_t175.lookup pc = some x) : am_in 175 pc = some x := by
  unfold am_in
  rw [show decode (am_c 175) pc = .ok x from am_kt175 _ (am_look h)]
theorem am_d176 {pc : Nat} {x : Instr × Nat} (h : am_t176.lookup pc = some x) : am_in 176 pc = some x := by
  unfold am_in
  rw [show decode (am_c 176) pc = .ok x from am_kt176 _ (am_look h)]
theorem am_d177 {pc : Nat} {x : Instr × Nat} (h : am_t177.lookup pc = some x) : am_in 177 pc = some x := by
  unfold am_in
  rw [show decode (am_c 177) pc = .ok x from am_kt177 _ (am_look h)]
theorem am_d178 {pc : Nat} {x : Instr × Nat} (h : am_t178.lookup pc = some x) : am_in 178 pc = some x := by
  unfold am_in
  rw [show decode (am_c 178) pc = .ok x from am_kt178 _ (am_look h)]
theorem am_d179 {pc : Nat} {x : Instr × Nat} (h : am_t179.lookup pc = some x) : am_in 179 pc = some x := by
  unfold am_in
  rw [show decode (am_c 179) pc = .ok x from am_kt179 _ (am_look h)]
theorem am_d180 {pc : Nat} {x : Instr × Nat} (h : am_t180.lookup pc = some x) : am_in 180 pc = some x := by
  unfold am_in
  rw [show decode (am_c 180) pc = .ok x from am_kt180 _ (am_look h)]
theorem am_d181 {pc : Nat} {x : Instr × Nat} (h : am_t181.lookup pc = some x) : am_in 181 pc = some x := by
  unfold am_in
  rw [show decode (am_c 181) pc = .ok x from am_kt181 _ (am_look h)]
theorem am_d182 {pc : Nat} {x : Instr × Nat} (h : am_t182.lookup pc = some x) : am_in 182 pc = some x := by
  unfold am_in
  rw [show decode (am_c 182) pc = .ok x from am_kt182 _ (am_look h)]
theorem am_d183 {pc : Nat} {x : Instr × Nat} (h : am_t183.lookup pc = some x) : am_in 183 pc = some x := by
  unfold am_in
  rw [show decode (am_c 183) pc = .ok x from am_kt183 _ (am_look h)]
theorem am_d184 {pc : Nat} {x : Instr × Nat} (h : am_t184.lookup pc = some x) : am_in 184 pc = some x := by
  unfold am_in
  rw [show decode (am_c 184) pc = .ok x from am_kt184 _ (am_look h)]
theorem am_d185 {pc : Nat} {x : Instr × Nat} (h : am_t185.lookup pc = some x) : am_in 185 pc = some x := by
  unfold am_in
  rw [show decode (am_c 185) pc = .ok x from am_kt185 _ (am_look h)]
theorem am_d186 {pc : Nat} {x : Instr × Nat} (h : am_t186.lookup pc = some x) : am_in 186 pc = some x := by
  unfold am_in
  rw [show decode (am_c 186) pc = .ok x from am_kt186 _ (am_look h)]
theorem am_d187 {pc : Nat} {x : Instr × Nat} (h : am_t187.lookup pc = some x) : am_in 187 pc = some x := by
  unfold am_in
  rw [show decode (am_c 187) pc = .ok x from am_kt187 _ (am_look h)]
theorem am_d188 {pc : Nat} {x : Instr × Nat} (h : am_t188.lookup pc = some x) : am_in 188 pc = some x := by
  unfold am_in
  rw [show decode (am_c 188) pc = .ok x from am_kt188 _ (am_look h)]
theorem am_d189 {pc : Nat} {x : Instr × Nat} (h : am_t189.lookup pc = some x) : am_in 189 pc = some x := by
  unfold am_in
  rw [show decode (am_c 189) pc = .ok x from am_kt189 _ (am_look h)]
theorem am_d190 {pc : Nat} {x : Instr × Nat} (h : am_t190.lookup pc = some x) : am_in 190 pc = some x := by
  unfold am_in
  rw [show decode (am_c 190) pc = .ok x from am_kt190 _ (am_look h)]
theorem am_d191 {pc : Nat} {x : Instr × Nat} (h : am_t191.lookup pc = some x) : am_in 191 pc = some x := by
  unfold am_in
  rw [show decode (am_c 191) pc = .ok x from am_kt191 _ (am_look h)]
theorem am_d192 {pc : Nat} {x : Instr × Nat} (h : am_t192.lookup pc = some x) : am_in 192 pc = some x := by
  unfold am_in
  rw [show decode (am_c 192) pc = .ok x from am_kt192 _ (am_look h)]
theorem am_d193 {pc : Nat} {x : Instr × Nat} (h : am_t193.lookup pc = some x) : am_in 193 pc = some x := by
  unfold am_in
  rw [show decode (am_c 193) pc = .ok x from am_kt193 _ (am_look h)]
theorem am_d194 {pc : Nat} {x : Instr × Nat} (h : am_t194.lookup pc = some x) : am_in 194 pc = some x := by
  unfold am_in
  rw [show decode (am_c 194) pc = .ok x from am_kt194 _ (am_look h)]
theorem am_d195 {pc : Nat} {x : Instr × Nat} (h : am_t195.lookup pc = some x) : am_in 195 pc = some x := by
  unfold am_in
  rw [show decode (am_c 195) pc = .ok x from am_kt195 _ (am_look h)]
theorem am_d196 {pc : Nat} {x : Instr × Nat} (h : am_t196.lookup pc = some x) : am_in 196 pc = some x := by
  unfold am_in
  rw [show decode (am_c 196) pc = .ok x from am_kt196 _ (am_look h)]
theorem am_d197 {pc : Nat} {x : Instr × Nat} (h : am_t197.lookup pc = some x) : am_in 197 pc = some x := by
  unfold am_in
  rw [show decode (am_c 197) pc = .ok x from am_kt197 _ (am_look h)]
theorem am_d198 {pc : Nat} {x : Instr × Nat} (h : am_t198.lookup pc = some x) : am_in 198 pc = some x := by
  unfold am_in
  rw [show decode (am_c 198) pc = .ok x from am_kt198 _ (am_look h)]
theorem am_d199 {pc : Nat} {x : Instr × Nat} (h : am_t199.lookup pc = some x) : am_in 199 pc = some x := by
  unfold am_in
  rw [show decode (am_c 199) pc = .ok x from am_kt199 _ (am_look h)]
theorem am_d200 {pc : Nat} {x : Instr × Nat} (h : am_t200.lookup pc = some x) : am_in 200 pc = some x := by
  unfold am_in
  rw [show decode (am_c 200) pc = .ok x from am_kt200 _ (am_look h)]
theorem am_d201 {pc : Nat} {x : Instr × Nat} (h : am_t201.lookup pc = some x) : am_in 201 pc = some x := by
  unfold am_in
  rw [show decode (am_c 201) pc = .ok x from am_kt201 _ (am_look h)]
theorem am_d202 {pc : Nat} {x : Instr × Nat} (h : am_t202.lookup pc = some x) : am_in 202 pc = some x := by
  unfold am_in
  rw [show decode (am_c 202) pc = .ok x from am_kt202 _ (am_look h)]
theorem am_d203 {pc : Nat} {x : Instr × Nat} (h : am_t203.lookup pc = some x) : am_in 203 pc = some x := by
  unfold am_in
  rw [show decode (am_c 203) pc = .ok x from am_kt203 _ (am_look h)]
theorem am_d204 {pc : Nat} {x : Instr × Nat} (h : am_t204.lookup pc = some x) : am_in 204 pc = some x := by
  unfold am_in
  rw [show decode (am_c 204) pc = .ok x from am_kt204 _ (am_look h)]
theorem am_d205 {pc : Nat} {x : Instr × Nat} (h : am_t205.lookup pc = some x) : am_in 205 pc = some x := by
  unfold am_in
  rw [show decode (am_c 205) pc = .ok x from am_kt205 _ (am_look h)]
theorem am_d206 {pc : Nat} {x : Instr × Nat} (h : am_t206.lookup pc = some x) : am_in 206 pc = some x := by
  unfold am_in
  rw [show decode (am_c 206) pc = .ok x from am_kt206 _ (am_look h)]
theorem am_d207 {pc : Nat} {x : Instr × Nat} (h : am_t207.lookup pc = some x) : am_in 207 pc = some x := by
  unfold am_in
  rw [show decode (am_c 207) pc = .ok x from am_kt207 _ (am_look h)]
theorem am_d208 {pc : Nat} {x : Instr × Nat} (h : am_t208.lookup pc = some x) : am_in 208 pc = some x := by
  unfold am_in
  rw [show decode (am_c 208) pc = .ok x from am_kt208 _ (am_look h)]
theorem am_d209 {pc : Nat} {x : Instr × Nat} (h : am_t209.lookup pc = some x) : am_in 209 pc = some x := by
  unfold am_in
  rw [show decode (am_c 209) pc = .ok x from am_kt209 _ (am_look h)]
theorem am_d210 {pc : Nat} {x : Instr × Nat} (h : am_t210.lookup pc = some x) : am_in 210 pc = some x := by
  unfold am_in
  rw [show decode (am_c 210) pc = .ok x from am_kt210 _ (am_look h)]
