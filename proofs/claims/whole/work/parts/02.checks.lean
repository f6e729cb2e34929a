def am_pick : List Nat → List Cond → List Cond
  | [], _ => []
  | g :: gs, l => match l.drop g with
    | [] => []
    | c :: l' => c :: am_pick gs l'
theorem am_pick_mem : ∀ (gs : List Nat) (l : List Cond), ∀ w ∈ am_pick gs l, w ∈ l
  | [], _, w, h => by simp [am_pick] at h
  | g :: gs, l, w, h => by
    unfold am_pick at h
    cases hd : l.drop g with
    | nil => rw [hd] at h; simp at h
    | cons c l' =>
      rw [hd] at h
      rcases List.mem_cons.mp h with rfl | h
      · exact List.mem_of_mem_drop (i := g) (by rw [hd]; exact List.mem_cons_self)
      · exact List.mem_of_mem_drop (i := g) (by rw [hd]; exact List.mem_cons_of_mem _ (am_pick_mem gs l' w h))
set_option maxRecDepth 100000 in
set_option maxHeartbeats 4000000 in
theorem am_kc : (am_ms.take 210).map (fun q => Cond.code q.1 q.2.1 q.2.2.1 q.2.2.2.1) = am_pick [66, 7, 58, 49, 27, 44, 53, 23, 22, 43, 17, 68, 2, 2, 4, 3, 2, 3, 4, 2, 3, 3, 2, 3, 3, 3, 3, 3, 2, 2, 3, 3, 3, 3, 3, 2, 2, 3, 3, 3, 3, 2, 7, 3, 2, 3, 3, 3, 3, 3, 3, 3, 2, 2, 5, 3, 3, 3, 3, 3, 3, 3, 3, 3, 2, 5, 3, 3, 3, 3, 3, 6, 3, 2, 4, 3, 4, 3, 3, 3, 3, 3, 2, 4, 2, 3, 6, 3, 3, 4, 4, 3, 2, 6, 3, 5, 4, 4, 4, 3, 4, 3, 5, 4, 4, 3, 4, 3, 4, 3, 3, 5, 3, 2, 2, 4, 22, 3, 3, 4, 4, 3, 8, 3, 3, 4, 3, 4, 2, 3, 3, 3, 3, 3, 3, 3, 3, 4, 182, 2, 3, 2, 3, 3, 3, 3, 4, 3, 5, 4, 3, 6, 3, 3, 4, 3, 4, 2, 3, 3, 3, 3, 3, 3, 3, 2, 5, 4, 3, 3, 3, 3, 3, 3, 3, 3, 3, 3, 3, 3, 3, 3, 3, 3, 3, 4, 3, 3, 3, 3, 3, 3, 3, 3, 5, 3, 3, 2, 3, 3, 3, 2, 3, 3, 3, 3, 2, 3, 3, 3] lw_tbl := by rfl
