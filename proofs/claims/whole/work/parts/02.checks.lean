def am_pick : List Nat → List Cond → List Cond
  | [], _ => []
  | g :: gs, l => match l.drop g with
    | [] => []
    | c :: l' => c :: am_pick gs l'
theorem am_pick_mem : ∀ (gs : List Nat) (l : List Cond), ∀ w ∈ am_pick gs l, w ∈ l
  | [], _, w, h => by simp [am_pick] at h
  | g :: gs, l, w, h => by
    unfold am_pick at h
    cases hd : l.drop g with
    | nil => rw [hd] at h; simp at h
    | cons c l' =>
      rw [hd] at h
      rcases List.mem_cons.mp h with rfl | h
      · exact List.mem_of_mem_drop (i := g) (by rw [hd]; exact List.mem_cons_self)
      · exact List.mem_of_mem_drop (i := g) (by rw [hd]; exact List.mem_cons_of_mem _ (am_pick_mem gs l' w h))
theorem am_pick_of {α : Type} {l : List α} {f : α → Cond} {gs : List Nat} {t : List Cond} (h : l.map f = am_pick gs t) : ∀ q ∈ l, f q ∈ t := fun q hq => am_pick_mem gs t _ (by rw [← h]; exact List.mem_map_of_mem hq)
theorem am_pick_1 {w : Cond} {gs : List Nat} {t : List Cond} (h : [w] = am_pick gs t) : w ∈ t := am_pick_mem gs t _ (by rw [← h]; exact List.mem_cons_self)
theorem am_look {α : Type} {l : List (Nat × α)} {k : Nat} {v : α} (h : l.lookup k = some v) : (k, v) ∈ l := by
  induction l with
  | nil => cases h
  | cons q r ih =>
    rw [List.lookup_cons] at h
    split at h
    · rename_i e
      cases h
      have e2 : k = q.1 := by simpa using e
      rw [e2]
      exact List.mem_cons_self
    · exact List.mem_cons_of_mem _ (ih h)
set_option maxRecDepth 100000 in
set_option maxHeartbeats 4000000 in
theorem am_kc : (am_ms.take 210).map (fun q => Cond.code q.1 q.2.1 q.2.2.1 q.2.2.2.1) = am_pick [66, 7, 58, 49, 27, 44, 53, 23, 22, 43, 17, 68, 2, 2, 4, 3, 2, 3, 4, 2, 3, 3, 2, 3, 3, 3, 3, 3, 2, 2, 3, 3, 3, 3, 3, 2, 2, 3, 3, 3, 3, 2, 7, 3, 2, 3, 3, 3, 3, 3, 3, 3, 2, 2, 5, 3, 3, 3, 3, 3, 3, 3, 3, 3, 2, 5, 3, 3, 3, 3, 3, 6, 3, 2, 4, 3, 4, 3, 3, 3, 3, 3, 2, 4, 2, 3, 6, 3, 3, 4, 4, 3, 2, 6, 3, 5, 4, 4, 4, 3, 4, 3, 5, 4, 4, 3, 4, 3, 4, 3, 3, 5, 3, 2, 2, 4, 22, 3, 3, 4, 4, 3, 8, 3, 3, 4, 3, 4, 2, 3, 3, 3, 3, 3, 3, 3, 3, 4, 182, 2, 3, 2, 3, 3, 3, 3, 4, 3, 5, 4, 3, 6, 3, 3, 4, 3, 4, 2, 3, 3, 3, 3, 3, 3, 3, 2, 5, 4, 3, 3, 3, 3, 3, 3, 3, 3, 3, 3, 3, 3, 3, 3, 3, 3, 3, 4, 3, 3, 3, 3, 3, 3, 3, 3, 5, 3, 3, 2, 3, 3, 3, 2, 3, 3, 3, 3, 2, 3, 3, 3] lw_tbl := by rfl
set_option maxRecDepth 100000 in
set_option maxHeartbeats 4000000 in
theorem am_kf0 : (am_fls.getD 0 []).map (fun q => Cond.fieldLink (am_cn 0) q.1 (am_Tf q.2.1 q.2.2).1 (am_Tf q.2.1 q.2.2).2.1 (am_Tf q.2.1 q.2.2).2.2.1) = am_pick [135, 2, 2, 3, 3, 2, 2, 1] lw_tbl := by rfl
set_option maxRecDepth 100000 in
set_option maxHeartbeats 4000000 in
theorem am_kf1 : (am_fls.getD 1 []).map (fun q => Cond.fieldLink (am_cn 1) q.1 (am_Tf q.2.1 q.2.2).1 (am_Tf q.2.1 q.2.2).2.1 (am_Tf q.2.1 q.2.2).2.2.1) = am_pick [80, 1, 1, 1, 1, 47, 9, 3, 5, 101, 0, 0, 0, 0, 2, 0, 0, 0, 0, 0, 0, 0, 0, 0] lw_tbl := by rfl
set_option maxRecDepth 100000 in
set_option maxHeartbeats 4000000 in
theorem am_kf2 : (am_fls.getD 2 []).map (fun q => Cond.fieldLink (am_cn 2) q.1 (am_Tf q.2.1 q.2.2).1 (am_Tf q.2.1 q.2.2).2.1 (am_Tf q.2.1 q.2.2).2.2.1) = am_pick [213, 1, 1, 3, 2, 1, 1, 2] lw_tbl := by rfl
set_option maxRecDepth 100000 in
set_option maxHeartbeats 4000000 in
theorem am_kf3 : (am_fls.getD 3 []).map (fun q => Cond.fieldLink (am_cn 3) q.1 (am_Tf q.2.1 q.2.2).1 (am_Tf q.2.1 q.2.2).2.1 (am_Tf q.2.1 q.2.2).2.2.1) = am_pick [95, 4, 42, 17, 30, 25, 14, 30, 95, 0, 0, 0, 0, 0, 0, 0, 0, 0, 0, 0] lw_tbl := by rfl
set_option maxRecDepth 100000 in
set_option maxHeartbeats 4000000 in
theorem am_kf4 : (am_fls.getD 4 []).map (fun q => Cond.fieldLink (am_cn 4) q.1 (am_Tf q.2.1 q.2.2).1 (am_Tf q.2.1 q.2.2).2.1 (am_Tf q.2.1 q.2.2).2.2.1) = am_pick [96, 2, 58, 104, 49, 0, 0, 0, 1] lw_tbl := by rfl
set_option maxRecDepth 100000 in
set_option maxHeartbeats 4000000 in
theorem am_kf5 : (am_fls.getD 5 []).map (fun q => Cond.fieldLink (am_cn 5) q.1 (am_Tf q.2.1 q.2.2).1 (am_Tf q.2.1 q.2.2).2.1 (am_Tf q.2.1 q.2.2).2.2.1) = am_pick [185, 0, 0, 0, 0, 1] lw_tbl := by rfl
set_option maxRecDepth 100000 in
set_option maxHeartbeats 4000000 in
theorem am_kf6 : (am_fls.getD 6 []).map (fun q => Cond.fieldLink (am_cn 6) q.1 (am_Tf q.2.1 q.2.2).1 (am_Tf q.2.1 q.2.2).2.1 (am_Tf q.2.1 q.2.2).2.2.1) = am_pick [421, 0, 0, 0, 0, 0, 0, 1] lw_tbl := by rfl
set_option maxRecDepth 100000 in
set_option maxHeartbeats 4000000 in
theorem am_kf7 : (am_fls.getD 7 []).map (fun q => Cond.fieldLink (am_cn 7) q.1 (am_Tf q.2.1 q.2.2).1 (am_Tf q.2.1 q.2.2).2.1 (am_Tf q.2.1 q.2.2).2.2.1) = am_pick [139, 2, 4, 5, 6, 53, 1, 2, 2, 2, 3, 2, 84, 19, 0, 0, 0, 0] lw_tbl := by rfl
set_option maxRecDepth 100000 in
set_option maxHeartbeats 4000000 in
theorem am_kf8 : (am_fls.getD 8 []).map (fun q => Cond.fieldLink (am_cn 8) q.1 (am_Tf q.2.1 q.2.2).1 (am_Tf q.2.1 q.2.2).2.1 (am_Tf q.2.1 q.2.2).2.2.1) = am_pick [78, 2, 1, 1, 1, 1, 0, 0, 0, 0, 0, 3] lw_tbl := by rfl
set_option maxRecDepth 100000 in
set_option maxHeartbeats 4000000 in
theorem am_kf9 : (am_fls.getD 9 []).map (fun q => Cond.fieldLink (am_cn 9) q.1 (am_Tf q.2.1 q.2.2).1 (am_Tf q.2.1 q.2.2).2.1 (am_Tf q.2.1 q.2.2).2.2.1) = am_pick [403, 0, 1] lw_tbl := by rfl
set_option maxRecDepth 100000 in
set_option maxHeartbeats 4000000 in
theorem am_kf10 : (am_fls.getD 10 []).map (fun q => Cond.fieldLink (am_cn 10) q.1 (am_Tf q.2.1 q.2.2).1 (am_Tf q.2.1 q.2.2).2.1 (am_Tf q.2.1 q.2.2).2.2.1) = am_pick [79, 17, 3, 35, 2, 3, 3, 2, 2, 4, 30, 2, 26, 2, 3, 2, 3, 170, 1, 20, 1, 17, 0, 0, 0, 0, 0, 0, 0, 0, 0, 0, 0] lw_tbl := by rfl
set_option maxRecDepth 100000 in
set_option maxHeartbeats 4000000 in
theorem am_kf11 : (am_fls.getD 11 []).map (fun q => Cond.fieldLink (am_cn 11) q.1 (am_Tf q.2.1 q.2.2).1 (am_Tf q.2.1 q.2.2).2.1 (am_Tf q.2.1 q.2.2).2.2.1) = am_pick [1041, 0, 0, 0, 0, 0, 0, 0, 0, 0, 0, 0, 0, 0, 0, 0, 0, 0, 0, 0, 0, 0, 0, 0, 0, 0, 0, 0, 0, 0, 0, 0, 0, 0, 0, 0, 0, 0, 0, 0, 0, 0, 0, 0, 0, 0, 0, 0, 0, 0, 0, 0, 0, 0, 0, 0, 0, 0, 0] lw_tbl := by rfl
theorem am_kfs : ∀ (o : Nat), ∀ q ∈ am_fls.getD o [], Cond.fieldLink (am_cn o) q.1 (am_Tf q.2.1 q.2.2).1 (am_Tf q.2.1 q.2.2).2.1 (am_Tf q.2.1 q.2.2).2.2.1 ∈ lw_tbl := fun o => match o with
  | 0 => am_pick_of am_kf0
  | 1 => am_pick_of am_kf1
  | 2 => am_pick_of am_kf2
  | 3 => am_pick_of am_kf3
  | 4 => am_pick_of am_kf4
  | 5 => am_pick_of am_kf5
  | 6 => am_pick_of am_kf6
  | 7 => am_pick_of am_kf7
  | 8 => am_pick_of am_kf8
  | 9 => am_pick_of am_kf9
  | 10 => am_pick_of am_kf10
  | 11 => am_pick_of am_kf11
  | 12 => fun q hq => by cases hq
  | 13 => fun q hq => by cases hq
  | 14 => fun q hq => by cases hq
  | 15 => fun q hq => by cases hq
  | 16 => fun q hq => by cases hq
  | 17 => fun q hq => by cases hq
  | 18 => fun q hq => by cases hq
  | n + 19 => fun q hq => by cases hq
theorem am_kfb : (am_fls.all fun l => l.all fun q => decide (q.2.2 < am_nf q.2.1) && decide (q.2.1 < 12)) = true := by decide +kernel
set_option maxRecDepth 100000 in
set_option maxHeartbeats 4000000 in
theorem am_km1 : ((am_cls.getD 1 []).filter (fun q => !q.2.2)).map (fun q => Cond.methodLink (am_cn 1) q.1 (am_y q.2.1)) = am_pick [594, 3, 10, 3, 2, 3, 3, 3, 3, 3, 3, 3, 2, 4, 15] lw_tbl := by rfl
set_option maxRecDepth 100000 in
set_option maxHeartbeats 4000000 in
theorem am_km2 : ((am_cls.getD 2 []).filter (fun q => !q.2.2)).map (fun q => Cond.methodLink (am_cn 2) q.1 (am_y q.2.1)) = am_pick [769] lw_tbl := by rfl
set_option maxRecDepth 100000 in
set_option maxHeartbeats 4000000 in
theorem am_km3 : ((am_cls.getD 3 []).filter (fun q => !q.2.2)).map (fun q => Cond.methodLink (am_cn 3) q.1 (am_y q.2.1)) = am_pick [799, 0, 3, 0, 0, 2, 6, 0, 0, 4, 28, 9, 4, 4] lw_tbl := by rfl
set_option maxRecDepth 100000 in
set_option maxHeartbeats 4000000 in
theorem am_km4 : ((am_cls.getD 4 []).filter (fun q => !q.2.2)).map (fun q => Cond.methodLink (am_cn 4) q.1 (am_y q.2.1)) = am_pick [721, 0] lw_tbl := by rfl
set_option maxRecDepth 100000 in
set_option maxHeartbeats 4000000 in
theorem am_km5 : ((am_cls.getD 5 []).filter (fun q => !q.2.2)).map (fun q => Cond.methodLink (am_cn 5) q.1 (am_y q.2.1)) = am_pick [732, 267] lw_tbl := by rfl
set_option maxRecDepth 100000 in
set_option maxHeartbeats 4000000 in
theorem am_km6 : ((am_cls.getD 6 []).filter (fun q => !q.2.2)).map (fun q => Cond.methodLink (am_cn 6) q.1 (am_y q.2.1)) = am_pick [891, 59, 4, 4, 3, 0, 2, 5, 31, 3] lw_tbl := by rfl
set_option maxRecDepth 100000 in
set_option maxHeartbeats 4000000 in
theorem am_km7 : ((am_cls.getD 7 []).filter (fun q => !q.2.2)).map (fun q => Cond.methodLink (am_cn 7) q.1 (am_y q.2.1)) = am_pick [572, 3, 151, 15, 39, 0, 0] lw_tbl := by rfl
set_option maxRecDepth 100000 in
set_option maxHeartbeats 4000000 in
theorem am_km9 : ((am_cls.getD 9 []).filter (fun q => !q.2.2)).map (fun q => Cond.methodLink (am_cn 9) q.1 (am_y q.2.1)) = am_pick [895, 9, 37, 3, 7] lw_tbl := by rfl
set_option maxRecDepth 100000 in
set_option maxHeartbeats 4000000 in
theorem am_km10 : ((am_cls.getD 10 []).filter (fun q => !q.2.2)).map (fun q => Cond.methodLink (am_cn 10) q.1 (am_y q.2.1)) = am_pick [254, 53, 23, 22, 133, 2, 4, 2, 10, 4, 2, 7, 2, 7, 11, 2, 2, 3, 3, 3, 21, 14, 50, 7, 11, 7, 7, 3, 0, 3, 15, 6, 15, 8, 7, 7, 11, 2, 14, 23, 8, 4, 4, 0, 3, 4, 8, 5, 4, 8, 8, 91, 3, 8, 3, 0, 6, 23, 3] lw_tbl := by rfl
set_option maxRecDepth 100000 in
set_option maxHeartbeats 4000000 in
theorem am_km11 : ((am_cls.getD 11 []).filter (fun q => !q.2.2)).map (fun q => Cond.methodLink (am_cn 11) q.1 (am_y q.2.1)) = am_pick [1223, 3, 2, 2, 3, 13, 28, 8, 3, 4, 3, 2, 3, 19, 3, 13, 7, 3, 3, 7, 7, 11, 3, 7, 3, 12, 3, 19, 13, 3, 3, 2, 3, 3, 3, 2, 7, 3, 3] lw_tbl := by rfl
set_option maxRecDepth 100000 in
set_option maxHeartbeats 4000000 in
theorem am_km14 : ((am_cls.getD 14 []).filter (fun q => !q.2.2)).map (fun q => Cond.methodLink (am_cn 14) q.1 (am_y q.2.1)) = am_pick [899, 9, 3, 7] lw_tbl := by rfl
set_option maxRecDepth 100000 in
set_option maxHeartbeats 4000000 in
theorem am_km15 : ((am_cls.getD 15 []).filter (fun q => !q.2.2)).map (fun q => Cond.methodLink (am_cn 15) q.1 (am_y q.2.1)) = am_pick [916] lw_tbl := by rfl
set_option maxRecDepth 100000 in
set_option maxHeartbeats 4000000 in
theorem am_km18 : ((am_cls.getD 18 []).filter (fun q => !q.2.2)).map (fun q => Cond.methodLink (am_cn 18) q.1 (am_y q.2.1)) = am_pick [64, 420, 21, 4, 10, 10, 7, 3, 35, 3, 73, 11, 7, 7, 16, 3, 3, 22, 8, 7, 7, 11, 13, 3, 37, 4, 9, 8, 19, 8, 104, 27, 3, 3, 13, 181, 21, 3, 8, 5, 4, 3, 6, 7, 28, 3, 3, 3, 12, 4, 7, 15, 7, 7, 3, 11, 11, 4, 11, 3, 3, 3, 7, 5, 33, 14, 3, 3] lw_tbl := by rfl
theorem am_kms : ∀ (o : Nat), ∀ q ∈ (am_cls.getD o []).filter (fun q => !q.2.2), Cond.methodLink (am_cn o) q.1 (am_y q.2.1) ∈ lw_tbl := fun o => match o with
  | 0 => fun q hq => by cases hq
  | 1 => am_pick_of am_km1
  | 2 => am_pick_of am_km2
  | 3 => am_pick_of am_km3
  | 4 => am_pick_of am_km4
  | 5 => am_pick_of am_km5
  | 6 => am_pick_of am_km6
  | 7 => am_pick_of am_km7
  | 8 => fun q hq => by cases hq
  | 9 => am_pick_of am_km9
  | 10 => am_pick_of am_km10
  | 11 => am_pick_of am_km11
  | 12 => fun q hq => by cases hq
  | 13 => fun q hq => by cases hq
  | 14 => am_pick_of am_km14
  | 15 => am_pick_of am_km15
  | 16 => fun q hq => by cases hq
  | 17 => fun q hq => by cases hq
  | 18 => am_pick_of am_km18
  | n + 19 => fun q hq => by cases hq
def am_nlk : List (Nat × Nat × Nat) := [(10, 11, 1), (10, 18, 2), (10, 25, 3), (10, 32, 4), (10, 78, 9), (10, 85, 10), (8, 52, 16), (7, 63, 36), (1, 152, 12), (1, 155, 16), (5, 41, 16), (2, 42, 36), (3, 78, 92)]
set_option maxRecDepth 100000 in
set_option maxHeartbeats 4000000 in
theorem am_kn : am_nlk.map (fun q => Cond.methodLinkNest (am_cn q.1) q.2.1 (am_y q.2.2) "DriftCards") = am_pick [72, 58, 49, 27, 189, 17, 86, 74, 70, 0, 83, 36, 40] lw_tbl := by rfl
theorem am_kbb : (am_cls.all fun l => l.all fun q => decide (q.2.1 < 210)) = true := by decide +kernel
theorem am_knb : ((List.range 19).all fun o => (am_cls.getD o []).all fun q => !q.2.2 || am_nlk.contains (o, q.1, q.2.1)) = true := by decide +kernel
def am_sta : List Nat := [12, 13, 14, 16, 19, 22, 28, 29, 35, 36, 41, 44, 52, 53, 64, 73, 82, 84, 90, 92, 113, 114, 115, 121, 122, 128, 139, 140, 141, 146, 157, 165, 197, 201, 206]
set_option maxRecDepth 100000 in
set_option maxHeartbeats 4000000 in
theorem am_sta_k : am_sta.map (fun j => Cond.static (am_y j)) = am_pick [490, 2, 4, 6, 11, 10, 22, 2, 22, 2, 18, 14, 30, 2, 44, 39, 36, 7, 28, 6, 99, 2, 4, 44, 8, 24, 222, 3, 2, 20, 50, 30, 132, 14, 18] lw_tbl := by rfl
def am_ins : List Nat := [0, 1, 2, 3, 4, 5, 6, 7, 8, 9, 10, 11, 15, 17, 18, 20, 21, 23, 24, 25, 26, 27, 30, 31, 32, 33, 34, 37, 38, 39, 40, 42, 43, 45, 46, 47, 48, 49, 50, 51, 54, 55, 56, 57, 58, 59, 60, 61, 62, 63, 65, 66, 67, 68, 69, 70, 71, 72, 74, 75, 76, 77, 78, 79, 80, 81, 83, 85, 86, 87, 88, 89, 91, 93, 94, 95, 96, 97, 98, 99, 100, 101, 102, 103, 104, 105, 106, 107, 108, 109, 110, 111, 112, 116, 117, 118, 119, 120, 123, 124, 125, 126, 127, 129, 130, 131, 132, 133, 134, 135, 136, 137, 138, 142, 143, 144, 145, 147, 148, 149, 150, 151, 152, 153, 154, 155, 156, 158, 159, 160, 161, 162, 163, 164, 166, 167, 168, 169, 170, 171, 172, 173, 174, 175, 176, 177, 178, 179, 180, 181, 182, 183, 184, 185, 186, 187, 188, 189, 190, 191, 192, 193, 194, 195, 196, 198, 199, 200, 202, 203, 204, 205, 207, 208, 209]
set_option maxRecDepth 100000 in
set_option maxHeartbeats 4000000 in
theorem am_ins_k : am_ins.map (fun j => Cond.instanceMethod (am_y j)) = am_pick [65, 7, 58, 49, 27, 44, 53, 23, 22, 43, 17, 67, 14, 6, 4, 6, 3, 6, 3, 3, 3, 3, 9, 3, 3, 3, 4, 8, 3, 3, 3, 10, 4, 6, 2, 4, 2, 3, 4, 3, 11, 2, 3, 3, 3, 3, 3, 3, 3, 3, 8, 3, 3, 3, 3, 3, 6, 3, 7, 3, 4, 3, 3, 3, 3, 3, 7, 6, 6, 3, 3, 4, 8, 9, 3, 5, 4, 4, 4, 3, 4, 3, 5, 4, 4, 3, 4, 3, 4, 3, 3, 5, 3, 33, 3, 3, 4, 5, 15, 3, 4, 4, 3, 6, 4, 3, 2, 3, 3, 3, 3, 5, 181, 14, 3, 2, 3, 8, 5, 4, 3, 6, 4, 2, 5, 3, 4, 6, 3, 2, 3, 3, 3, 4, 7, 4, 4, 2, 4, 3, 3, 2, 4, 2, 4, 2, 3, 4, 3, 2, 4, 3, 2, 4, 4, 3, 2, 3, 3, 3, 4, 2, 5, 4, 3, 6, 3, 3, 6, 2, 4, 3, 5, 3, 3] lw_tbl := by rfl
def am_sel : List Nat := [34, 43, 45, 47, 50, 51, 54, 120, 126, 130, 131, 142, 143, 152, 154, 155, 156, 158, 159, 164, 168, 170, 171, 172, 174, 176, 179, 180, 182, 183, 186, 187, 192, 195, 196, 198, 199, 200, 202, 204, 205, 11, 15, 17, 18, 20, 21, 23, 24, 25, 26, 27, 30, 31, 32, 33, 37, 38, 39, 40, 42, 46, 48, 49, 55, 56, 57, 58, 59, 60, 61, 62, 63, 65, 66, 67, 68, 69, 70, 71, 72, 74, 75, 76, 77, 78, 79, 80, 81, 83, 85, 86, 87, 88, 89, 91, 93, 94, 95, 96, 97, 98, 99, 100, 101, 102, 103, 104, 105, 106, 107, 108, 109, 110, 111, 112, 116, 117, 118, 119, 123, 124, 125, 127, 129, 132, 133, 134, 135, 136, 138, 144, 145, 147, 148, 149, 150, 151, 153, 160, 161, 162, 163, 166, 167, 169, 173, 175, 177, 178, 181, 184, 185, 188, 189, 190, 191, 193, 194, 203, 207, 208, 209]
set_option maxRecDepth 100000 in
set_option maxHeartbeats 4000000 in
theorem am_sel_k : am_sel.map (fun j => Cond.selects (am_y j).cls (am_y j) (am_y j)) = am_pick [0, 0, 0, 0, 0, 0, 0, 0, 0, 0, 0, 0, 0, 0, 0, 0, 0, 0, 0, 0, 0, 0, 0, 0, 0, 0, 0, 0, 0, 0, 0, 0, 0, 0, 0, 0, 0, 0, 0, 0, 0, 446, 14, 6, 4, 6, 3, 6, 3, 3, 3, 3, 9, 3, 3, 3, 13, 3, 3, 3, 10, 14, 7, 3, 23, 3, 3, 3, 3, 3, 3, 3, 3, 8, 3, 3, 3, 3, 3, 6, 3, 7, 3, 4, 3, 3, 3, 3, 3, 7, 6, 6, 3, 3, 4, 8, 9, 3, 5, 4, 4, 4, 3, 4, 3, 5, 4, 4, 3, 4, 3, 4, 3, 3, 5, 3, 33, 3, 3, 4, 21, 3, 4, 8, 6, 11, 3, 3, 3, 3, 187, 21, 3, 8, 5, 4, 3, 6, 7, 28, 3, 3, 3, 12, 4, 7, 15, 7, 7, 3, 11, 11, 4, 11, 3, 3, 3, 7, 5, 33, 14, 3, 3] lw_tbl := by rfl
def am_ini : List Nat := [18, 10, 8, 0, 5, 2, 1, 4, 7, 3, 9, 6, 11, 16, 13, 12, 14, 15, 17]
set_option maxRecDepth 100000 in
set_option maxHeartbeats 4000000 in
theorem am_ini_k : am_ini.map (fun j => Cond.initialized (am_cn j)) = am_pick [41, 0, 0, 0, 0, 0, 0, 0, 0, 0, 0, 0, 0, 0, 1, 0, 0, 0, 0] lw_tbl := by rfl
set_option maxRecDepth 100000 in
set_option maxHeartbeats 4000000 in
theorem am_ly0 : u_ws RX0 TX0 8 = am_pick [162, 1, 1, 1, 1, 1, 1, 1] lw_tbl := by rfl
set_option maxRecDepth 100000 in
set_option maxHeartbeats 4000000 in
theorem am_ly1 : u_ws RX1 TX1 15 = am_pick [275, 1, 1, 1, 1, 1, 1, 1, 1, 1, 1, 1, 1, 1, 1] lw_tbl := by rfl
set_option maxRecDepth 100000 in
set_option maxHeartbeats 4000000 in
theorem am_ly2 : u_ws RX2 TX2 8 = am_pick [235, 1, 1, 1, 1, 1, 1, 1] lw_tbl := by rfl
set_option maxRecDepth 100000 in
set_option maxHeartbeats 4000000 in
theorem am_ly3 : u_ws RX3 TX3 12 = am_pick [372, 1, 1, 1, 1, 1, 1, 1, 1, 1, 1, 1] lw_tbl := by rfl
set_option maxRecDepth 100000 in
set_option maxHeartbeats 4000000 in
theorem am_ly4 : u_ws RX4 TX4 5 = am_pick [319, 1, 1, 1, 1] lw_tbl := by rfl
set_option maxRecDepth 100000 in
set_option maxHeartbeats 4000000 in
theorem am_ly5 : u_ws RX5 TX5 6 = am_pick [194, 1, 1, 1, 1, 1] lw_tbl := by rfl
set_option maxRecDepth 100000 in
set_option maxHeartbeats 4000000 in
theorem am_ly6 : u_ws RX6 TX6 8 = am_pick [431, 1, 1, 1, 1, 1, 1, 1] lw_tbl := by rfl
set_option maxRecDepth 100000 in
set_option maxHeartbeats 4000000 in
theorem am_ly7 : u_ws RX7 TX7 5 = am_pick [342, 1, 1, 1, 1] lw_tbl := by rfl
set_option maxRecDepth 100000 in
set_option maxHeartbeats 4000000 in
theorem am_ly8 : u_ws RX8 TX8 12 = am_pick [102, 1, 1, 1, 1, 1, 1, 1, 1, 1, 1, 1] lw_tbl := by rfl
set_option maxRecDepth 100000 in
set_option maxHeartbeats 4000000 in
theorem am_ly9 : u_ws RX9 TX9 3 = am_pick [408, 1, 1] lw_tbl := by rfl
set_option maxRecDepth 100000 in
set_option maxHeartbeats 4000000 in
theorem am_ly10 : u_ws RX10 TX10 12 = am_pick [460, 1, 1, 1, 1, 1, 1, 1, 1, 1, 1, 1] lw_tbl := by rfl
set_option maxRecDepth 100000 in
set_option maxHeartbeats 4000000 in
theorem am_ly11 : u_ws RX11 TX11 59 = am_pick [1100, 1, 1, 1, 1, 1, 1, 1, 1, 1, 1, 1, 1, 1, 1, 1, 1, 1, 1, 1, 1, 1, 1, 1, 1, 1, 1, 1, 1, 1, 1, 1, 1, 1, 1, 1, 1, 1, 1, 1, 1, 1, 1, 1, 1, 1, 1, 1, 1, 1, 1, 1, 1, 1, 1, 1, 1, 1, 1] lw_tbl := by rfl
def am_inq : List Nat := [10, 8, 0, 5, 2, 1, 4, 7, 3, 9, 6, 11]
set_option maxRecDepth 100000 in
set_option maxHeartbeats 4000000 in
theorem am_inq_k : am_inq.map (fun j => Cond.instantiable (am_cn j) (am_nf j)) = am_pick [63, 7, 58, 49, 27, 44, 53, 23, 22, 43, 17, 619] lw_tbl := by rfl
set_option maxRecDepth 100000 in
set_option maxHeartbeats 4000000 in
theorem am_kw10 : (am_nws.getD 10 []).map (fun q => Cond.classLink (am_cn 10) q.1 (am_cn q.2)) = am_pick [70, 58, 49, 27, 44, 53, 23, 22, 43, 17] lw_tbl := by rfl
set_option maxRecDepth 100000 in
set_option maxHeartbeats 4000000 in
theorem am_kw18 : (am_nws.getD 18 []).map (fun q => Cond.classLink (am_cn 18) q.1 (am_cn q.2)) = am_pick [62, 972] lw_tbl := by rfl
theorem am_kws : ∀ (o : Nat), ∀ q ∈ am_nws.getD o [], Cond.classLink (am_cn o) q.1 (am_cn q.2) ∈ lw_tbl := fun o => match o with
  | 0 => fun q hq => by cases hq
  | 1 => fun q hq => by cases hq
  | 2 => fun q hq => by cases hq
  | 3 => fun q hq => by cases hq
  | 4 => fun q hq => by cases hq
  | 5 => fun q hq => by cases hq
  | 6 => fun q hq => by cases hq
  | 7 => fun q hq => by cases hq
  | 8 => fun q hq => by cases hq
  | 9 => fun q hq => by cases hq
  | 10 => am_pick_of am_kw10
  | 11 => fun q hq => by cases hq
  | 12 => fun q hq => by cases hq
  | 13 => fun q hq => by cases hq
  | 14 => fun q hq => by cases hq
  | 15 => fun q hq => by cases hq
  | 16 => fun q hq => by cases hq
  | 17 => fun q hq => by cases hq
  | 18 => am_pick_of am_kw18
  | n + 19 => fun q hq => by cases hq
set_option maxRecDepth 100000 in
set_option maxHeartbeats 4000000 in
theorem am_kg3 : (am_ggs.getD 3 []).map (fun q => Cond.classLink (am_cn 3) q "[[I") = am_pick [359] lw_tbl := by rfl
set_option maxRecDepth 100000 in
set_option maxHeartbeats 4000000 in
theorem am_kg4 : (am_ggs.getD 4 []).map (fun q => Cond.classLink (am_cn 4) q "[[I") = am_pick [312] lw_tbl := by rfl
set_option maxRecDepth 100000 in
set_option maxHeartbeats 4000000 in
theorem am_kg7 : (am_ggs.getD 7 []).map (fun q => Cond.classLink (am_cn 7) q "[[I") = am_pick [336] lw_tbl := by rfl
set_option maxRecDepth 100000 in
set_option maxHeartbeats 4000000 in
theorem am_kg8 : (am_ggs.getD 8 []).map (fun q => Cond.classLink (am_cn 8) q "[[I") = am_pick [76] lw_tbl := by rfl
theorem am_kgs : ∀ (o : Nat), ∀ q ∈ am_ggs.getD o [], Cond.classLink (am_cn o) q "[[I" ∈ lw_tbl := fun o => match o with
  | 0 => fun q hq => by cases hq
  | 1 => fun q hq => by cases hq
  | 2 => fun q hq => by cases hq
  | 3 => am_pick_of am_kg3
  | 4 => am_pick_of am_kg4
  | 5 => fun q hq => by cases hq
  | 6 => fun q hq => by cases hq
  | 7 => am_pick_of am_kg7
  | 8 => am_pick_of am_kg8
  | 9 => fun q hq => by cases hq
  | 10 => fun q hq => by cases hq
  | 11 => fun q hq => by cases hq
  | 12 => fun q hq => by cases hq
  | 13 => fun q hq => by cases hq
  | 14 => fun q hq => by cases hq
  | 15 => fun q hq => by cases hq
  | 16 => fun q hq => by cases hq
  | 17 => fun q hq => by cases hq
  | 18 => fun q hq => by cases hq
  | n + 19 => fun q hq => by cases hq
set_option maxRecDepth 100000 in
set_option maxHeartbeats 4000000 in
theorem am_kci1 : (am_kis.getD 1 []).map (fun q => Cond.constant (am_cn 1) q.1 q.2) = am_pick [604] lw_tbl := by rfl
set_option maxRecDepth 100000 in
set_option maxHeartbeats 4000000 in
theorem am_kci10 : (am_kis.getD 10 []).map (fun q => Cond.constant (am_cn 10) q.1 q.2) = am_pick [695] lw_tbl := by rfl
set_option maxRecDepth 100000 in
set_option maxHeartbeats 4000000 in
theorem am_kci11 : (am_kis.getD 11 []).map (fun q => Cond.constant (am_cn 11) q.1 q.2) = am_pick [1297] lw_tbl := by rfl
theorem am_kcis : ∀ (o : Nat), ∀ q ∈ am_kis.getD o [], Cond.constant (am_cn o) q.1 q.2 ∈ lw_tbl := fun o => match o with
  | 0 => fun q hq => by cases hq
  | 1 => am_pick_of am_kci1
  | 2 => fun q hq => by cases hq
  | 3 => fun q hq => by cases hq
  | 4 => fun q hq => by cases hq
  | 5 => fun q hq => by cases hq
  | 6 => fun q hq => by cases hq
  | 7 => fun q hq => by cases hq
  | 8 => fun q hq => by cases hq
  | 9 => fun q hq => by cases hq
  | 10 => am_pick_of am_kci10
  | 11 => am_pick_of am_kci11
  | 12 => fun q hq => by cases hq
  | 13 => fun q hq => by cases hq
  | 14 => fun q hq => by cases hq
  | 15 => fun q hq => by cases hq
  | 16 => fun q hq => by cases hq
  | 17 => fun q hq => by cases hq
  | 18 => fun q hq => by cases hq
  | n + 19 => fun q hq => by cases hq
set_option maxRecDepth 100000 in
set_option maxHeartbeats 4000000 in
theorem am_kcl3 : (am_kls.getD 3 []).map (fun q => Cond.constantLong (am_cn 3) q.1 q.2) = am_pick [827] lw_tbl := by rfl
set_option maxRecDepth 100000 in
set_option maxHeartbeats 4000000 in
theorem am_kcl9 : (am_kls.getD 9 []).map (fun q => Cond.constantLong (am_cn 9) q.1 q.2) = am_pick [881] lw_tbl := by rfl
set_option maxRecDepth 100000 in
set_option maxHeartbeats 4000000 in
theorem am_kcl11 : (am_kls.getD 11 []).map (fun q => Cond.constantLong (am_cn 11) q.1 q.2) = am_pick [1226, 22, 0, 7, 0, 4, 8, 0, 0, 12, 47, 0, 4, 72, 36, 0] lw_tbl := by rfl
set_option maxRecDepth 100000 in
set_option maxHeartbeats 4000000 in
theorem am_kcl18 : (am_kls.getD 18 []).map (fun q => Cond.constantLong (am_cn 18) q.1 q.2) = am_pick [1515] lw_tbl := by rfl
theorem am_kcls : ∀ (o : Nat), ∀ q ∈ am_kls.getD o [], Cond.constantLong (am_cn o) q.1 q.2 ∈ lw_tbl := fun o => match o with
  | 0 => fun q hq => by cases hq
  | 1 => fun q hq => by cases hq
  | 2 => fun q hq => by cases hq
  | 3 => am_pick_of am_kcl3
  | 4 => fun q hq => by cases hq
  | 5 => fun q hq => by cases hq
  | 6 => fun q hq => by cases hq
  | 7 => fun q hq => by cases hq
  | 8 => fun q hq => by cases hq
  | 9 => am_pick_of am_kcl9
  | 10 => fun q hq => by cases hq
  | 11 => am_pick_of am_kcl11
  | 12 => fun q hq => by cases hq
  | 13 => fun q hq => by cases hq
  | 14 => fun q hq => by cases hq
  | 15 => fun q hq => by cases hq
  | 16 => fun q hq => by cases hq
  | 17 => fun q hq => by cases hq
  | 18 => am_pick_of am_kcl18
  | n + 19 => fun q hq => by cases hq
set_option maxRecDepth 100000 in
set_option maxHeartbeats 4000000 in
theorem am_ko0 : (am_ois.getD 0 []).map (fun q => Cond.methodLink (am_cn 0) q objectInit) = am_pick [134] lw_tbl := by rfl
set_option maxRecDepth 100000 in
set_option maxHeartbeats 4000000 in
theorem am_ko1 : (am_ois.getD 1 []).map (fun q => Cond.methodLink (am_cn 1) q objectInit) = am_pick [257] lw_tbl := by rfl
set_option maxRecDepth 100000 in
set_option maxHeartbeats 4000000 in
theorem am_ko2 : (am_ois.getD 2 []).map (fun q => Cond.methodLink (am_cn 2) q objectInit) = am_pick [212] lw_tbl := by rfl
set_option maxRecDepth 100000 in
set_option maxHeartbeats 4000000 in
theorem am_ko3 : (am_ois.getD 3 []).map (fun q => Cond.methodLink (am_cn 3) q objectInit) = am_pick [358] lw_tbl := by rfl
set_option maxRecDepth 100000 in
set_option maxHeartbeats 4000000 in
theorem am_ko4 : (am_ois.getD 4 []).map (fun q => Cond.methodLink (am_cn 4) q objectInit) = am_pick [311] lw_tbl := by rfl
set_option maxRecDepth 100000 in
set_option maxHeartbeats 4000000 in
theorem am_ko5 : (am_ois.getD 5 []).map (fun q => Cond.methodLink (am_cn 5) q objectInit) = am_pick [184] lw_tbl := by rfl
set_option maxRecDepth 100000 in
set_option maxHeartbeats 4000000 in
theorem am_ko6 : (am_ois.getD 6 []).map (fun q => Cond.methodLink (am_cn 6) q objectInit) = am_pick [420] lw_tbl := by rfl
set_option maxRecDepth 100000 in
set_option maxHeartbeats 4000000 in
theorem am_ko7 : (am_ois.getD 7 []).map (fun q => Cond.methodLink (am_cn 7) q objectInit) = am_pick [335] lw_tbl := by rfl
set_option maxRecDepth 100000 in
set_option maxHeartbeats 4000000 in
theorem am_ko8 : (am_ois.getD 8 []).map (fun q => Cond.methodLink (am_cn 8) q objectInit) = am_pick [75] lw_tbl := by rfl
set_option maxRecDepth 100000 in
set_option maxHeartbeats 4000000 in
theorem am_ko9 : (am_ois.getD 9 []).map (fun q => Cond.methodLink (am_cn 9) q objectInit) = am_pick [402] lw_tbl := by rfl
set_option maxRecDepth 100000 in
set_option maxHeartbeats 4000000 in
theorem am_ko10 : (am_ois.getD 10 []).map (fun q => Cond.methodLink (am_cn 10) q objectInit) = am_pick [67] lw_tbl := by rfl
set_option maxRecDepth 100000 in
set_option maxHeartbeats 4000000 in
theorem am_ko11 : (am_ois.getD 11 []).map (fun q => Cond.methodLink (am_cn 11) q objectInit) = am_pick [1040] lw_tbl := by rfl
theorem am_kos : ∀ (o : Nat), ∀ q ∈ am_ois.getD o [], Cond.methodLink (am_cn o) q objectInit ∈ lw_tbl := fun o => match o with
  | 0 => am_pick_of am_ko0
  | 1 => am_pick_of am_ko1
  | 2 => am_pick_of am_ko2
  | 3 => am_pick_of am_ko3
  | 4 => am_pick_of am_ko4
  | 5 => am_pick_of am_ko5
  | 6 => am_pick_of am_ko6
  | 7 => am_pick_of am_ko7
  | 8 => am_pick_of am_ko8
  | 9 => am_pick_of am_ko9
  | 10 => am_pick_of am_ko10
  | 11 => am_pick_of am_ko11
  | 12 => fun q hq => by cases hq
  | 13 => fun q hq => by cases hq
  | 14 => fun q hq => by cases hq
  | 15 => fun q hq => by cases hq
  | 16 => fun q hq => by cases hq
  | 17 => fun q hq => by cases hq
  | 18 => fun q hq => by cases hq
  | n + 19 => fun q hq => by cases hq
set_option maxRecDepth 100000 in
set_option maxHeartbeats 4000000 in
theorem am_ka1 : (am_acs.getD 1 []).map (fun q => Cond.methodLink (am_cn 1) q arraycopyName) = am_pick [601] lw_tbl := by rfl
set_option maxRecDepth 100000 in
set_option maxHeartbeats 4000000 in
theorem am_ka3 : (am_acs.getD 3 []).map (fun q => Cond.methodLink (am_cn 3) q arraycopyName) = am_pick [861] lw_tbl := by rfl
set_option maxRecDepth 100000 in
set_option maxHeartbeats 4000000 in
theorem am_ka4 : (am_acs.getD 4 []).map (fun q => Cond.methodLink (am_cn 4) q arraycopyName) = am_pick [723] lw_tbl := by rfl
theorem am_kas : ∀ (o : Nat), ∀ q ∈ am_acs.getD o [], Cond.methodLink (am_cn o) q arraycopyName ∈ lw_tbl := fun o => match o with
  | 0 => fun q hq => by cases hq
  | 1 => am_pick_of am_ka1
  | 2 => fun q hq => by cases hq
  | 3 => am_pick_of am_ka3
  | 4 => am_pick_of am_ka4
  | 5 => fun q hq => by cases hq
  | 6 => fun q hq => by cases hq
  | 7 => fun q hq => by cases hq
  | 8 => fun q hq => by cases hq
  | 9 => fun q hq => by cases hq
  | 10 => fun q hq => by cases hq
  | 11 => fun q hq => by cases hq
  | 12 => fun q hq => by cases hq
  | 13 => fun q hq => by cases hq
  | 14 => fun q hq => by cases hq
  | 15 => fun q hq => by cases hq
  | 16 => fun q hq => by cases hq
  | 17 => fun q hq => by cases hq
  | 18 => fun q hq => by cases hq
  | n + 19 => fun q hq => by cases hq
set_option maxRecDepth 100000 in
set_option maxHeartbeats 4000000 in
theorem am_s1 : Cond.instanceMethod objectInit ∈ lw_tbl := am_pick_1 (gs := [68]) (by rfl)
set_option maxRecDepth 100000 in
set_option maxHeartbeats 4000000 in
theorem am_s2 : Cond.code objectInit ⟨#[0xb1]⟩ 1 none ∈ lw_tbl := am_pick_1 (gs := [69]) (by rfl)
set_option maxRecDepth 100000 in
set_option maxHeartbeats 4000000 in
theorem am_s3 : Cond.native arraycopyName ∈ lw_tbl := am_pick_1 (gs := [603]) (by rfl)
set_option maxRecDepth 100000 in
set_option maxHeartbeats 4000000 in
theorem am_s4 : Cond.static arraycopyName ∈ lw_tbl := am_pick_1 (gs := [602]) (by rfl)
set_option maxRecDepth 100000 in
set_option maxHeartbeats 4000000 in
theorem am_s5 : Cond.initialized "java/lang/System" ∈ lw_tbl := am_pick_1 (gs := [55]) (by rfl)
set_option maxRecDepth 100000 in
set_option maxHeartbeats 4000000 in
theorem am_s6 : Cond.arrayClass .int ∈ lw_tbl := am_pick_1 (gs := [127]) (by rfl)
set_option maxRecDepth 100000 in
set_option maxHeartbeats 4000000 in
theorem am_s7 : Cond.arrayClass .boolean ∈ lw_tbl := am_pick_1 (gs := [128]) (by rfl)
set_option maxRecDepth 100000 in
set_option maxHeartbeats 4000000 in
theorem am_s8 : Cond.arrayOver (.array .int) ∈ lw_tbl := am_pick_1 (gs := [77]) (by rfl)
def am_nas : List Nat := [0, 0, 0, 0, 0, 1, 3, 4, 7, 0, 0, 5, 2, 2, 3, 5, 2, 3, 4, 1, 3, 3, 1, 3, 3, 4, 1, 6, 2, 2, 1, 3, 7, 1, 2, 2, 2, 2, 3, 3, 5, 2, 1, 0, 1, 1, 1, 1, 1, 2, 2, 4, 1, 1, 0, 1, 5, 2, 1, 2, 1, 3, 5, 5, 1, 6, 1, 1, 2, 2, 0, 2, 4, 2, 1, 1, 1, 1, 1, 2, 1, 1, 1, 3, 1, 1, 2, 1, 0, 0, 2, 1, 2, 0, 1, 0, 0, 0, 1, 1, 4, 5, 0, 0, 2, 2, 0, 1, 1, 0, 0, 1, 0, 2, 2, 3, 1, 1, 0, 0, 2, 1, 1, 0, 0, 1, 1, 2, 3, 0, 1, 1, 1, 2, 1, 0, 0, 0, 5, 2, 3, 1, 2, 3, 3, 4, 1, 3, 3, 1, 6, 2, 1, 3, 2, 5, 3, 2, 4, 2, 5, 2, 3, 5, 1, 1, 1, 2, 1, 2, 2, 2, 4, 1, 1, 1, 1, 1, 1, 1, 1, 3, 0, 4, 2, 1, 1, 1, 0, 0, 1, 4, 5, 2, 0, 0, 2, 2, 0, 1, 0, 1, 1, 1, 1, 3, 3, 1, 2, 1, 1]
def am_na (j : Nat) : Nat := am_nas.getD j 0
set_option maxRecDepth 100000 in
set_option maxHeartbeats 4000000 in
theorem am_own : am_ms.map (fun q => q.1.cls) = am_ms.map (fun q => am_cn q.2.2.2.2.1) := by rfl
theorem am_cnp : ((List.range 19).all fun o => decide (am_cn o ≠ "java/lang/invoke/MethodHandle") && decide (am_cn o ≠ "java/lang/invoke/VarHandle")) = true := by decide +kernel
theorem am_pln : (am_ms.all fun q => plainFor q.1) = true := by decide +kernel
theorem am_par : am_ms.map (fun q => (parseMethodDescriptor q.1.desc).map (fun d => d.parameters.length)) = am_nas.map some := by decide +kernel
