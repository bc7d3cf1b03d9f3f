set_option maxHeartbeats 4000000 in
set_option maxRecDepth 100000 in
theorem c_X5_near_no (l : Launch) (G : Gv) (sc : Sc) (ia : Ia) (la : La) (i : Int32) (hno : s_has i (sc 0) = false) (v : Int32)  : Ct l yX5_near wsX5_near ({ frames := 7, cells := 0, slots := 0, locals := 250 }) G [.ref (G.2.1 5), .int i, .int v] sc ia la (fI (-10101) sc ia la) := by
  have hU5 : ∀ w ∈ u_ws RX5 TX5 5, w ∈ wsX5_near := fun w h => List.mem_cons_of_mem _ (List.mem_append_left _ (List.mem_append_right _ h))
  refine z_of (maxL := 4) (own := RX5) [(0, .ref (G.2.1 5)), (1, .int i), (2, .int v)] rfl (by decide +kernel) rfl (Nat.le_of_ble_eq_true rfl) rfl (fun Z C E => ?_)
  refine z_aload_n (pc' := 1) C dX5_near_0 rfl 0 rfl rfl ?_
  refine z_get (pc' := 4) C hU5 5 (by decide) q_o5 rfl 0 (by decide) (by decide +kernel) (v := .ref (G.2.1 2)) rfl dX5_near_1 rfl ?_
  refine z_iload_n (pc' := 5) C dX5_near_4 rfl 1 rfl rfl ?_
  refine z_cV (n := 1) (pc' := 8) (As := [.int i]) (rest := []) C 2 (c_X2_has_no l G sc ia la i hno) gX5_near_X2_has rfl rfl rfl rfl (by decide +kernel) (by decide) rfl (by decide) q_o2 rfl rfl dX5_near_5 (Nat.le_of_ble_eq_true rfl) rfl (k_I ?_)
  show Z sc ia la [(0, .ref (G.2.1 5)), (1, .int i), (2, .int v)] 8 [.int 0]
  refine z_if_ne (pc' := 11) C 15 dX5_near_8 rfl rfl (fun h_8 => absurd h_8 (by decide)) (fun h_8 => ?_)
  refine z_sipush (v := -10101) (pc' := 14) C dX5_near_11 rfl rfl ?_
  exact z_iret (E := E) rfl dX5_near_14 ⟨(congrArg (fun z => some (Value.int z)) rfl), rfl, rfl, rfl⟩

set_option maxHeartbeats 4000000 in
set_option maxRecDepth 100000 in
theorem c_X5_tell_no (l : Launch) (G : Gv) (sc : Sc) (ia : Ia) (la : La) (i : Int32) (hno : s_has i (sc 0) = false) (v : Int32)  : Ct l yX5_tell wsX5_tell ({ frames := 7, cells := 0, slots := 0, locals := 250 }) G [.ref (G.2.1 5), .int i, .int v] sc ia la (fI (-10000001) sc ia la) := by
  have hU5 : ∀ w ∈ u_ws RX5 TX5 5, w ∈ wsX5_tell := fun w h => List.mem_cons_of_mem _ (List.mem_append_left _ (List.mem_append_right _ h))
  refine z_of (maxL := 4) (own := RX5) [(0, .ref (G.2.1 5)), (1, .int i), (2, .int v)] rfl (by decide +kernel) rfl (Nat.le_of_ble_eq_true rfl) rfl (fun Z C E => ?_)
  refine z_aload_n (pc' := 1) C dX5_tell_0 rfl 0 rfl rfl ?_
  refine z_get (pc' := 4) C hU5 5 (by decide) q_o5 rfl 0 (by decide) (by decide +kernel) (v := .ref (G.2.1 2)) rfl dX5_tell_1 rfl ?_
  refine z_iload_n (pc' := 5) C dX5_tell_4 rfl 1 rfl rfl ?_
  refine z_cV (n := 1) (pc' := 8) (As := [.int i]) (rest := []) C 2 (c_X2_has_no l G sc ia la i hno) gX5_tell_X2_has rfl rfl rfl rfl (by decide +kernel) (by decide) rfl (by decide) q_o2 rfl rfl dX5_tell_5 (Nat.le_of_ble_eq_true rfl) rfl (k_I ?_)
  show Z sc ia la [(0, .ref (G.2.1 5)), (1, .int i), (2, .int v)] 8 [.int 0]
  refine z_if_ne (pc' := 11) C 14 dX5_tell_8 rfl rfl (fun h_8 => absurd h_8 (by decide)) (fun h_8 => ?_)
  refine z_ldc (v := -10000001) (pc' := 13) C (by decide +kernel) dX5_tell_11 rfl ?_
  exact z_iret (E := E) rfl dX5_tell_13 ⟨(congrArg (fun z => some (Value.int z)) rfl), rfl, rfl, rfl⟩

set_option maxHeartbeats 4000000 in
set_option maxRecDepth 100000 in
theorem c_X5_probe_no (l : Launch) (G : Gv) (sc : Sc) (ia : Ia) (la : La) (i : Int32) (hno : s_has i (sc 0) = false) (v : Int32)  : Ct l yX5_probe wsX5_probe ({ frames := 7, cells := 0, slots := 0, locals := 250 }) G [.ref (G.2.1 5), .int i, .int v] sc ia la (fI (-101) sc ia la) := by
  have hU5 : ∀ w ∈ u_ws RX5 TX5 5, w ∈ wsX5_probe := fun w h => List.mem_cons_of_mem _ (List.mem_append_left _ (List.mem_append_right _ h))
  refine z_of (maxL := 4) (own := RX5) [(0, .ref (G.2.1 5)), (1, .int i), (2, .int v)] rfl (by decide +kernel) rfl (Nat.le_of_ble_eq_true rfl) rfl (fun Z C E => ?_)
  refine z_aload_n (pc' := 1) C dX5_probe_0 rfl 0 rfl rfl ?_
  refine z_get (pc' := 4) C hU5 5 (by decide) q_o5 rfl 0 (by decide) (by decide +kernel) (v := .ref (G.2.1 2)) rfl dX5_probe_1 rfl ?_
  refine z_iload_n (pc' := 5) C dX5_probe_4 rfl 1 rfl rfl ?_
  refine z_cV (n := 1) (pc' := 8) (As := [.int i]) (rest := []) C 2 (c_X2_has_no l G sc ia la i hno) gX5_probe_X2_has rfl rfl rfl rfl (by decide +kernel) (by decide) rfl (by decide) q_o2 rfl rfl dX5_probe_5 (Nat.le_of_ble_eq_true rfl) rfl (k_I ?_)
  show Z sc ia la [(0, .ref (G.2.1 5)), (1, .int i), (2, .int v)] 8 [.int 0]
  refine z_if_ne (pc' := 11) C 14 dX5_probe_8 rfl rfl (fun h_8 => absurd h_8 (by decide)) (fun h_8 => ?_)
  refine z_bipush (v := -101) (pc' := 13) C dX5_probe_11 rfl rfl ?_
  exact z_iret (E := E) rfl dX5_probe_13 ⟨(congrArg (fun z => some (Value.int z)) rfl), rfl, rfl, rfl⟩

set_option maxHeartbeats 4000000 in
set_option maxRecDepth 100000 in
theorem c_X5_limit_no (l : Launch) (G : Gv) (sc : Sc) (ia : Ia) (la : La) (i : Int32) (hno : s_has i (sc 0) = false) (v : Int32)  : Ct l yX5_limit wsX5_limit ({ frames := 7, cells := 0, slots := 0, locals := 250 }) G [.ref (G.2.1 5), .int i, .int v] sc ia la (fI (-101) sc ia la) := by
  have hU5 : ∀ w ∈ u_ws RX5 TX5 5, w ∈ wsX5_limit := fun w h => List.mem_cons_of_mem _ (List.mem_append_left _ (List.mem_append_right _ h))
  refine z_of (maxL := 4) (own := RX5) [(0, .ref (G.2.1 5)), (1, .int i), (2, .int v)] rfl (by decide +kernel) rfl (Nat.le_of_ble_eq_true rfl) rfl (fun Z C E => ?_)
  refine z_aload_n (pc' := 1) C dX5_limit_0 rfl 0 rfl rfl ?_
  refine z_get (pc' := 4) C hU5 5 (by decide) q_o5 rfl 0 (by decide) (by decide +kernel) (v := .ref (G.2.1 2)) rfl dX5_limit_1 rfl ?_
  refine z_iload_n (pc' := 5) C dX5_limit_4 rfl 1 rfl rfl ?_
  refine z_cV (n := 1) (pc' := 8) (As := [.int i]) (rest := []) C 2 (c_X2_has_no l G sc ia la i hno) gX5_limit_X2_has rfl rfl rfl rfl (by decide +kernel) (by decide) rfl (by decide) q_o2 rfl rfl dX5_limit_5 (Nat.le_of_ble_eq_true rfl) rfl (k_I ?_)
  show Z sc ia la [(0, .ref (G.2.1 5)), (1, .int i), (2, .int v)] 8 [.int 0]
  refine z_if_ne (pc' := 11) C 14 dX5_limit_8 rfl rfl (fun h_8 => absurd h_8 (by decide)) (fun h_8 => ?_)
  refine z_bipush (v := -101) (pc' := 13) C dX5_limit_11 rfl rfl ?_
  exact z_iret (E := E) rfl dX5_limit_13 ⟨(congrArg (fun z => some (Value.int z)) rfl), rfl, rfl, rfl⟩

set_option maxHeartbeats 4000000 in
set_option maxRecDepth 100000 in
theorem c_X5_far_no (l : Launch) (G : Gv) (sc : Sc) (ia : Ia) (la : La) (i : Int32) (hno : s_has i (sc 0) = false)   : Ct l yX5_far wsX5_far ({ frames := 7, cells := 0, slots := 0, locals := 250 }) G [.ref (G.2.1 5), .int i] sc ia la (fI (-1000001) sc ia la) := by
  have hU5 : ∀ w ∈ u_ws RX5 TX5 5, w ∈ wsX5_far := fun w h => List.mem_cons_of_mem _ (List.mem_append_left _ (List.mem_append_right _ h))
  refine z_of (maxL := 2) (own := RX5) [(0, .ref (G.2.1 5)), (1, .int i)] rfl (by decide +kernel) rfl (Nat.le_of_ble_eq_true rfl) rfl (fun Z C E => ?_)
  refine z_aload_n (pc' := 1) C dX5_far_0 rfl 0 rfl rfl ?_
  refine z_get (pc' := 4) C hU5 5 (by decide) q_o5 rfl 0 (by decide) (by decide +kernel) (v := .ref (G.2.1 2)) rfl dX5_far_1 rfl ?_
  refine z_iload_n (pc' := 5) C dX5_far_4 rfl 1 rfl rfl ?_
  refine z_cV (n := 1) (pc' := 8) (As := [.int i]) (rest := []) C 2 (c_X2_has_no l G sc ia la i hno) gX5_far_X2_has rfl rfl rfl rfl (by decide +kernel) (by decide) rfl (by decide) q_o2 rfl rfl dX5_far_5 (Nat.le_of_ble_eq_true rfl) rfl (k_I ?_)
  show Z sc ia la [(0, .ref (G.2.1 5)), (1, .int i)] 8 [.int 0]
  refine z_if_eq (pc' := 11) C 23 dX5_far_8 rfl rfl (fun h_8 => ?_) (fun h_8 => absurd h_8 (by decide))
  refine z_ldc (v := -1000001) (pc' := 25) C (by decide +kernel) dX5_far_23 rfl ?_
  exact z_iret (E := E) rfl dX5_far_25 ⟨(congrArg (fun z => some (Value.int z)) rfl), rfl, rfl, rfl⟩

set_option maxHeartbeats 4000000 in
set_option maxRecDepth 100000 in
theorem c_X5_seen_no (l : Launch) (G : Gv) (sc : Sc) (ia : Ia) (la : La) (i : Int32) (hno : s_has i (sc 0) = false)   : Ct l yX5_seen wsX5_seen ({ frames := 7, cells := 0, slots := 0, locals := 250 }) G [.ref (G.2.1 5), .int i] sc ia la (fI (-10000001) sc ia la) := by
  have hU5 : ∀ w ∈ u_ws RX5 TX5 5, w ∈ wsX5_seen := fun w h => List.mem_cons_of_mem _ (List.mem_append_left _ (List.mem_append_right _ h))
  refine z_of (maxL := 2) (own := RX5) [(0, .ref (G.2.1 5)), (1, .int i)] rfl (by decide +kernel) rfl (Nat.le_of_ble_eq_true rfl) rfl (fun Z C E => ?_)
  refine z_aload_n (pc' := 1) C dX5_seen_0 rfl 0 rfl rfl ?_
  refine z_get (pc' := 4) C hU5 5 (by decide) q_o5 rfl 0 (by decide) (by decide +kernel) (v := .ref (G.2.1 2)) rfl dX5_seen_1 rfl ?_
  refine z_iload_n (pc' := 5) C dX5_seen_4 rfl 1 rfl rfl ?_
  refine z_cV (n := 1) (pc' := 8) (As := [.int i]) (rest := []) C 2 (c_X2_has_no l G sc ia la i hno) gX5_seen_X2_has rfl rfl rfl rfl (by decide +kernel) (by decide) rfl (by decide) q_o2 rfl rfl dX5_seen_5 (Nat.le_of_ble_eq_true rfl) rfl (k_I ?_)
  show Z sc ia la [(0, .ref (G.2.1 5)), (1, .int i)] 8 [.int 0]
  refine z_if_eq (pc' := 11) C 33 dX5_seen_8 rfl rfl (fun h_8 => ?_) (fun h_8 => absurd h_8 (by decide))
  refine z_ldc (v := -10000001) (pc' := 35) C (by decide +kernel) dX5_seen_33 rfl ?_
  exact z_iret (E := E) rfl dX5_seen_35 ⟨(congrArg (fun z => some (Value.int z)) rfl), rfl, rfl, rfl⟩

set_option maxHeartbeats 4000000 in
set_option maxRecDepth 100000 in
theorem c_X5_gated_no (l : Launch) (G : Gv) (sc : Sc) (ia : Ia) (la : La) (i : Int32) (hno : s_has i (sc 0) = false) (m v : Int32)  : Ct l yX5_gated wsX5_gated ({ frames := 7, cells := 0, slots := 0, locals := 250 }) G [.ref (G.2.1 5), .int i, .int m, .int v] sc ia la (fI (-10000001) sc ia la) := by
  have hU5 : ∀ w ∈ u_ws RX5 TX5 5, w ∈ wsX5_gated := fun w h => List.mem_cons_of_mem _ (List.mem_append_left _ (List.mem_append_right _ h))
  refine z_of (maxL := 4) (own := RX5) [(0, .ref (G.2.1 5)), (1, .int i), (2, .int m), (3, .int v)] rfl (by decide +kernel) rfl (Nat.le_of_ble_eq_true rfl) rfl (fun Z C E => ?_)
  refine z_aload_n (pc' := 1) C dX5_gated_0 rfl 0 rfl rfl ?_
  refine z_get (pc' := 4) C hU5 5 (by decide) q_o5 rfl 0 (by decide) (by decide +kernel) (v := .ref (G.2.1 2)) rfl dX5_gated_1 rfl ?_
  refine z_iload_n (pc' := 5) C dX5_gated_4 rfl 1 rfl rfl ?_
  refine z_cV (n := 1) (pc' := 8) (As := [.int i]) (rest := []) C 2 (c_X2_has_no l G sc ia la i hno) gX5_gated_X2_has rfl rfl rfl rfl (by decide +kernel) (by decide) rfl (by decide) q_o2 rfl rfl dX5_gated_5 (Nat.le_of_ble_eq_true rfl) rfl (k_I ?_)
  show Z sc ia la [(0, .ref (G.2.1 5)), (1, .int i), (2, .int m), (3, .int v)] 8 [.int 0]
  refine z_if_ne (pc' := 11) C 14 dX5_gated_8 rfl rfl (fun h_8 => absurd h_8 (by decide)) (fun h_8 => ?_)
  refine z_ldc (v := -10000001) (pc' := 13) C (by decide +kernel) dX5_gated_11 rfl ?_
  exact z_iret (E := E) rfl dX5_gated_13 ⟨(congrArg (fun z => some (Value.int z)) rfl), rfl, rfl, rfl⟩

set_option maxHeartbeats 4000000 in
set_option maxRecDepth 100000 in
theorem c_X5_lose_no (l : Launch) (G : Gv) (sc : Sc) (ia : Ia) (la : La) (i : Int32) (hno : s_has i (sc 0) = false) (z : Bool)  : Ct l yX5_lose wsX5_lose ({ frames := 7, cells := 0, slots := 0, locals := 250 }) G [.ref (G.2.1 5), .int i, .int (bI (z))] sc ia la (fI (-101) sc ia la) := by
  have hU5 : ∀ w ∈ u_ws RX5 TX5 5, w ∈ wsX5_lose := fun w h => List.mem_cons_of_mem _ (List.mem_append_left _ (List.mem_append_right _ h))
  refine z_of (maxL := 4) (own := RX5) [(0, .ref (G.2.1 5)), (1, .int i), (2, .int (bI (z)))] rfl (by decide +kernel) rfl (Nat.le_of_ble_eq_true rfl) rfl (fun Z C E => ?_)
  refine z_aload_n (pc' := 1) C dX5_lose_0 rfl 0 rfl rfl ?_
  refine z_get (pc' := 4) C hU5 5 (by decide) q_o5 rfl 0 (by decide) (by decide +kernel) (v := .ref (G.2.1 2)) rfl dX5_lose_1 rfl ?_
  refine z_iload_n (pc' := 5) C dX5_lose_4 rfl 1 rfl rfl ?_
  refine z_cV (n := 1) (pc' := 8) (As := [.int i]) (rest := []) C 2 (c_X2_has_no l G sc ia la i hno) gX5_lose_X2_has rfl rfl rfl rfl (by decide +kernel) (by decide) rfl (by decide) q_o2 rfl rfl dX5_lose_5 (Nat.le_of_ble_eq_true rfl) rfl (k_I ?_)
  show Z sc ia la [(0, .ref (G.2.1 5)), (1, .int i), (2, .int (bI (z)))] 8 [.int 0]
  refine z_if_ne (pc' := 11) C 14 dX5_lose_8 rfl rfl (fun h_8 => absurd h_8 (by decide)) (fun h_8 => ?_)
  refine z_bipush (v := -101) (pc' := 13) C dX5_lose_11 rfl rfl ?_
  exact z_iret (E := E) rfl dX5_lose_13 ⟨(congrArg (fun z => some (Value.int z)) rfl), rfl, rfl, rfl⟩

set_option maxHeartbeats 4000000 in
set_option maxRecDepth 100000 in
theorem c_X5_measure_no (l : Launch) (G : Gv) (sc : Sc) (ia : Ia) (la : La) (i : Int32) (hno : s_has i (sc 0) = false) (v : Int32) (z : Bool)  : Ct l yX5_measure wsX5_measure ({ frames := 7, cells := 0, slots := 0, locals := 250 }) G [.ref (G.2.1 5), .int i, .int v, .int (bI (z))] sc ia la (fI (-101) sc ia la) := by
  have hU5 : ∀ w ∈ u_ws RX5 TX5 5, w ∈ wsX5_measure := fun w h => List.mem_cons_of_mem _ (List.mem_append_left _ (List.mem_append_right _ h))
  refine z_of (maxL := 5) (own := RX5) [(0, .ref (G.2.1 5)), (1, .int i), (2, .int v), (3, .int (bI (z)))] rfl (by decide +kernel) rfl (Nat.le_of_ble_eq_true rfl) rfl (fun Z C E => ?_)
  refine z_aload_n (pc' := 1) C dX5_measure_0 rfl 0 rfl rfl ?_
  refine z_get (pc' := 4) C hU5 5 (by decide) q_o5 rfl 0 (by decide) (by decide +kernel) (v := .ref (G.2.1 2)) rfl dX5_measure_1 rfl ?_
  refine z_iload_n (pc' := 5) C dX5_measure_4 rfl 1 rfl rfl ?_
  refine z_cV (n := 1) (pc' := 8) (As := [.int i]) (rest := []) C 2 (c_X2_has_no l G sc ia la i hno) gX5_measure_X2_has rfl rfl rfl rfl (by decide +kernel) (by decide) rfl (by decide) q_o2 rfl rfl dX5_measure_5 (Nat.le_of_ble_eq_true rfl) rfl (k_I ?_)
  show Z sc ia la [(0, .ref (G.2.1 5)), (1, .int i), (2, .int v), (3, .int (bI (z)))] 8 [.int 0]
  refine z_if_ne (pc' := 11) C 14 dX5_measure_8 rfl rfl (fun h_8 => absurd h_8 (by decide)) (fun h_8 => ?_)
  refine z_bipush (v := -101) (pc' := 13) C dX5_measure_11 rfl rfl ?_
  exact z_iret (E := E) rfl dX5_measure_13 ⟨(congrArg (fun z => some (Value.int z)) rfl), rfl, rfl, rfl⟩

set_option maxHeartbeats 4000000 in
set_option maxRecDepth 100000 in
theorem c_X5_near_out (l : Launch) (G : Gv) (sc : Sc) (ia : Ia) (la : La) (n : Nat) (hn : sc 0 = nI n) (hN : n ≤ 32) (j : Nat) (hj : j < n) (v : Int32) (ho : s_out v (-1000) 1000 = true)  : Ct l yX5_near wsX5_near ({ frames := 7, cells := 0, slots := 0, locals := 250 }) G [.ref (G.2.1 5), .int (nI j), .int v] sc ia la (fI (-10102) sc ia la) := by
  have hU5 : ∀ w ∈ u_ws RX5 TX5 5, w ∈ wsX5_near := fun w h => List.mem_cons_of_mem _ (List.mem_append_left _ (List.mem_append_right _ h))
  refine z_of (maxL := 4) (own := RX5) [(0, .ref (G.2.1 5)), (1, .int (nI j)), (2, .int v)] rfl (by decide +kernel) rfl (Nat.le_of_ble_eq_true rfl) rfl (fun Z C E => ?_)
  refine z_aload_n (pc' := 1) C dX5_near_0 rfl 0 rfl rfl ?_
  refine z_get (pc' := 4) C hU5 5 (by decide) q_o5 rfl 0 (by decide) (by decide +kernel) (v := .ref (G.2.1 2)) rfl dX5_near_1 rfl ?_
  refine z_iload_n (pc' := 5) C dX5_near_4 rfl 1 rfl rfl ?_
  refine z_cV (n := 1) (pc' := 8) (As := [.int (nI j)]) (rest := []) C 2 (c_X2_has_ok l G sc ia la n hn hN j hj) gX5_near_X2_has rfl rfl rfl rfl (by decide +kernel) (by decide) rfl (by decide) q_o2 rfl rfl dX5_near_5 (Nat.le_of_ble_eq_true rfl) rfl (k_I ?_)
  show Z sc ia la [(0, .ref (G.2.1 5)), (1, .int (nI j)), (2, .int v)] 8 [.int 1]
  refine z_if_ne (pc' := 11) C 15 dX5_near_8 rfl rfl (fun h_8 => ?_) (fun h_8 => absurd h_8 (by decide))
  refine z_iload_n (pc' := 16) C dX5_near_15 rfl 2 rfl rfl ?_
  refine z_sipush (v := -1000) (pc' := 19) C dX5_near_16 rfl rfl ?_
  refine z_sipush (v := 1000) (pc' := 22) C dX5_near_19 rfl rfl ?_
  refine z_cS (n := 3) (pc' := 25) (As := [.int v, .int (-1000), .int 1000]) (rest := []) C (c_X5_isOutsideB l G sc ia la v (-1000) 1000 true ho) gX5_near_X5_isOutside rfl rfl rfl (by decide +kernel) (by decide) rfl rfl dX5_near_22 (Nat.le_of_ble_eq_true rfl) rfl (k_I ?_)
  show Z sc ia la [(0, .ref (G.2.1 5)), (1, .int (nI j)), (2, .int v)] 25 [.int 1]
  refine z_if_eq (pc' := 28) C 32 dX5_near_25 rfl rfl (fun h_25 => absurd h_25 (by decide)) (fun h_25 => ?_)
  refine z_sipush (v := -10102) (pc' := 31) C dX5_near_28 rfl rfl ?_
  exact z_iret (E := E) rfl dX5_near_31 ⟨(congrArg (fun z => some (Value.int z)) rfl), rfl, rfl, rfl⟩

set_option maxHeartbeats 4000000 in
set_option maxRecDepth 100000 in
theorem c_X5_tell_out (l : Launch) (G : Gv) (sc : Sc) (ia : Ia) (la : La) (n : Nat) (hn : sc 0 = nI n) (hN : n ≤ 32) (j : Nat) (hj : j < n) (v : Int32) (ho : s_out v (-1000000) 1000000 = true)  : Ct l yX5_tell wsX5_tell ({ frames := 7, cells := 0, slots := 0, locals := 250 }) G [.ref (G.2.1 5), .int (nI j), .int v] sc ia la (fI (-10000002) sc ia la) := by
  have hU5 : ∀ w ∈ u_ws RX5 TX5 5, w ∈ wsX5_tell := fun w h => List.mem_cons_of_mem _ (List.mem_append_left _ (List.mem_append_right _ h))
  refine z_of (maxL := 4) (own := RX5) [(0, .ref (G.2.1 5)), (1, .int (nI j)), (2, .int v)] rfl (by decide +kernel) rfl (Nat.le_of_ble_eq_true rfl) rfl (fun Z C E => ?_)
  refine z_aload_n (pc' := 1) C dX5_tell_0 rfl 0 rfl rfl ?_
  refine z_get (pc' := 4) C hU5 5 (by decide) q_o5 rfl 0 (by decide) (by decide +kernel) (v := .ref (G.2.1 2)) rfl dX5_tell_1 rfl ?_
  refine z_iload_n (pc' := 5) C dX5_tell_4 rfl 1 rfl rfl ?_
  refine z_cV (n := 1) (pc' := 8) (As := [.int (nI j)]) (rest := []) C 2 (c_X2_has_ok l G sc ia la n hn hN j hj) gX5_tell_X2_has rfl rfl rfl rfl (by decide +kernel) (by decide) rfl (by decide) q_o2 rfl rfl dX5_tell_5 (Nat.le_of_ble_eq_true rfl) rfl (k_I ?_)
  show Z sc ia la [(0, .ref (G.2.1 5)), (1, .int (nI j)), (2, .int v)] 8 [.int 1]
  refine z_if_ne (pc' := 11) C 14 dX5_tell_8 rfl rfl (fun h_8 => ?_) (fun h_8 => absurd h_8 (by decide))
  refine z_iload_n (pc' := 15) C dX5_tell_14 rfl 2 rfl rfl ?_
  refine z_ldc (v := -1000000) (pc' := 17) C (by decide +kernel) dX5_tell_15 rfl ?_
  refine z_ldc (v := 1000000) (pc' := 19) C (by decide +kernel) dX5_tell_17 rfl ?_
  refine z_cS (n := 3) (pc' := 22) (As := [.int v, .int (-1000000), .int 1000000]) (rest := []) C (c_X5_isOutsideB l G sc ia la v (-1000000) 1000000 true ho) gX5_tell_X5_isOutside rfl rfl rfl (by decide +kernel) (by decide) rfl rfl dX5_tell_19 (Nat.le_of_ble_eq_true rfl) rfl (k_I ?_)
  show Z sc ia la [(0, .ref (G.2.1 5)), (1, .int (nI j)), (2, .int v)] 22 [.int 1]
  refine z_if_eq (pc' := 25) C 28 dX5_tell_22 rfl rfl (fun h_22 => absurd h_22 (by decide)) (fun h_22 => ?_)
  refine z_ldc (v := -10000002) (pc' := 27) C (by decide +kernel) dX5_tell_25 rfl ?_
  exact z_iret (E := E) rfl dX5_tell_27 ⟨(congrArg (fun z => some (Value.int z)) rfl), rfl, rfl, rfl⟩

set_option maxHeartbeats 4000000 in
set_option maxRecDepth 100000 in
theorem c_X5_limit_out (l : Launch) (G : Gv) (sc : Sc) (ia : Ia) (la : La) (n : Nat) (hn : sc 0 = nI n) (hN : n ≤ 32) (j : Nat) (hj : j < n) (v : Int32) (ho : s_out v 0 100000 = true)  : Ct l yX5_limit wsX5_limit ({ frames := 7, cells := 0, slots := 0, locals := 250 }) G [.ref (G.2.1 5), .int (nI j), .int v] sc ia la (fI (-102) sc ia la) := by
  have hU5 : ∀ w ∈ u_ws RX5 TX5 5, w ∈ wsX5_limit := fun w h => List.mem_cons_of_mem _ (List.mem_append_left _ (List.mem_append_right _ h))
  refine z_of (maxL := 4) (own := RX5) [(0, .ref (G.2.1 5)), (1, .int (nI j)), (2, .int v)] rfl (by decide +kernel) rfl (Nat.le_of_ble_eq_true rfl) rfl (fun Z C E => ?_)
  refine z_aload_n (pc' := 1) C dX5_limit_0 rfl 0 rfl rfl ?_
  refine z_get (pc' := 4) C hU5 5 (by decide) q_o5 rfl 0 (by decide) (by decide +kernel) (v := .ref (G.2.1 2)) rfl dX5_limit_1 rfl ?_
  refine z_iload_n (pc' := 5) C dX5_limit_4 rfl 1 rfl rfl ?_
  refine z_cV (n := 1) (pc' := 8) (As := [.int (nI j)]) (rest := []) C 2 (c_X2_has_ok l G sc ia la n hn hN j hj) gX5_limit_X2_has rfl rfl rfl rfl (by decide +kernel) (by decide) rfl (by decide) q_o2 rfl rfl dX5_limit_5 (Nat.le_of_ble_eq_true rfl) rfl (k_I ?_)
  show Z sc ia la [(0, .ref (G.2.1 5)), (1, .int (nI j)), (2, .int v)] 8 [.int 1]
  refine z_if_ne (pc' := 11) C 14 dX5_limit_8 rfl rfl (fun h_8 => ?_) (fun h_8 => absurd h_8 (by decide))
  refine z_iload_n (pc' := 15) C dX5_limit_14 rfl 2 rfl rfl ?_
  refine z_iconst (v := 0) (pc' := 16) C dX5_limit_15 rfl rfl ?_
  refine z_ldc (v := 100000) (pc' := 18) C (by decide +kernel) dX5_limit_16 rfl ?_
  refine z_cS (n := 3) (pc' := 21) (As := [.int v, .int 0, .int 100000]) (rest := []) C (c_X5_isOutsideB l G sc ia la v 0 100000 true ho) gX5_limit_X5_isOutside rfl rfl rfl (by decide +kernel) (by decide) rfl rfl dX5_limit_18 (Nat.le_of_ble_eq_true rfl) rfl (k_I ?_)
  show Z sc ia la [(0, .ref (G.2.1 5)), (1, .int (nI j)), (2, .int v)] 21 [.int 1]
  refine z_if_eq (pc' := 24) C 27 dX5_limit_21 rfl rfl (fun h_21 => absurd h_21 (by decide)) (fun h_21 => ?_)
  refine z_bipush (v := -102) (pc' := 26) C dX5_limit_24 rfl rfl ?_
  exact z_iret (E := E) rfl dX5_limit_26 ⟨(congrArg (fun z => some (Value.int z)) rfl), rfl, rfl, rfl⟩

set_option maxHeartbeats 4000000 in
set_option maxRecDepth 100000 in
theorem c_X5_near_ok (l : Launch) (G : Gv) (sc : Sc) (ia : Ia) (la : La) (n : Nat) (hn : sc 0 = nI n) (hN : n ≤ 32) (j : Nat) (hj : j < n) (v : Int32) (ho : s_out v (-1000) 1000 = false)  : Ct l yX5_near wsX5_near ({ frames := 7, cells := 0, slots := 0, locals := 250 }) G [.ref (G.2.1 5), .int (nI j), .int v] sc ia la (fI (ia 0 j) sc (s_set ia n j v) la) := by
  have hU2 : ∀ w ∈ u_ws RX2 TX2 9, w ∈ wsX5_near := fun w h => List.mem_cons_of_mem _ (List.mem_append_right _ h)
  have hU5 : ∀ w ∈ u_ws RX5 TX5 5, w ∈ wsX5_near := fun w h => List.mem_cons_of_mem _ (List.mem_append_left _ (List.mem_append_right _ h))
  refine z_of (maxL := 4) (own := RX5) [(0, .ref (G.2.1 5)), (1, .int (nI j)), (2, .int v)] rfl (by decide +kernel) rfl (Nat.le_of_ble_eq_true rfl) rfl (fun Z C E => ?_)
  refine z_aload_n (pc' := 1) C dX5_near_0 rfl 0 rfl rfl ?_
  refine z_get (pc' := 4) C hU5 5 (by decide) q_o5 rfl 0 (by decide) (by decide +kernel) (v := .ref (G.2.1 2)) rfl dX5_near_1 rfl ?_
  refine z_iload_n (pc' := 5) C dX5_near_4 rfl 1 rfl rfl ?_
  refine z_cV (n := 1) (pc' := 8) (As := [.int (nI j)]) (rest := []) C 2 (c_X2_has_ok l G sc ia la n hn hN j hj) gX5_near_X2_has rfl rfl rfl rfl (by decide +kernel) (by decide) rfl (by decide) q_o2 rfl rfl dX5_near_5 (Nat.le_of_ble_eq_true rfl) rfl (k_I ?_)
  show Z sc ia la [(0, .ref (G.2.1 5)), (1, .int (nI j)), (2, .int v)] 8 [.int 1]
  refine z_if_ne (pc' := 11) C 15 dX5_near_8 rfl rfl (fun h_8 => ?_) (fun h_8 => absurd h_8 (by decide))
  refine z_iload_n (pc' := 16) C dX5_near_15 rfl 2 rfl rfl ?_
  refine z_sipush (v := -1000) (pc' := 19) C dX5_near_16 rfl rfl ?_
  refine z_sipush (v := 1000) (pc' := 22) C dX5_near_19 rfl rfl ?_
  refine z_cS (n := 3) (pc' := 25) (As := [.int v, .int (-1000), .int 1000]) (rest := []) C (c_X5_isOutsideB l G sc ia la v (-1000) 1000 false ho) gX5_near_X5_isOutside rfl rfl rfl (by decide +kernel) (by decide) rfl rfl dX5_near_22 (Nat.le_of_ble_eq_true rfl) rfl (k_I ?_)
  show Z sc ia la [(0, .ref (G.2.1 5)), (1, .int (nI j)), (2, .int v)] 25 [.int 0]
  refine z_if_eq (pc' := 28) C 32 dX5_near_25 rfl rfl (fun h_25 => ?_) (fun h_25 => absurd h_25 (by decide))
  refine z_aload_n (pc' := 33) C dX5_near_32 rfl 0 rfl rfl ?_
  refine z_get (pc' := 36) C hU5 5 (by decide) q_o5 rfl 0 (by decide) (by decide +kernel) (v := .ref (G.2.1 2)) rfl dX5_near_33 rfl ?_
  refine z_get (pc' := 39) C hU2 2 (by decide) q_o2 rfl 1 (by decide) (by decide +kernel) (v := .ref (G.2.1 7)) rfl dX5_near_36 rfl ?_
  refine z_iload_n (pc' := 40) C dX5_near_39 rfl 1 rfl rfl ?_
  refine z_iald (pc' := 41) C 7 (by decide) (N := 32) (i := j) (f := ia 0) q_i0 (by omega) (by decide) dX5_near_40 rfl ?_
  refine z_istore_n (lv' := [(3, .int ((ia 0) j)), (0, .ref (G.2.1 5)), (1, .int (nI j)), (2, .int v)]) (pc' := 42) C dX5_near_41 rfl (by decide) rfl rfl ?_
  refine z_aload_n (pc' := 43) C dX5_near_42 rfl 1 rfl rfl ?_
  refine z_get (pc' := 46) C hU5 5 (by decide) q_o5 rfl 0 (by decide) (by decide +kernel) (v := .ref (G.2.1 2)) rfl dX5_near_43 rfl ?_
  refine z_iload_n (pc' := 47) C dX5_near_46 rfl 2 rfl rfl ?_
  refine z_iload_n (pc' := 48) C dX5_near_47 rfl 3 rfl rfl ?_
  refine z_cV (n := 2) (pc' := 51) (As := [.int (nI j), .int v]) (rest := []) C 2 (c_X2_setNear l G sc ia la n hn hN j (by omega) v) gX5_near_X2_setNear rfl rfl rfl rfl (by decide +kernel) (by decide) rfl (by decide) q_o2 rfl rfl dX5_near_48 (Nat.le_of_ble_eq_true rfl) rfl (k_V ?_)
  show Z sc (s_set ia n j v) la [(3, .int ((ia 0) j)), (0, .ref (G.2.1 5)), (1, .int (nI j)), (2, .int v)] 51 []
  refine z_iload_n (pc' := 52) C dX5_near_51 rfl 0 rfl rfl ?_
  exact z_iret (E := E) rfl dX5_near_52 ⟨(congrArg (fun z => some (Value.int z)) rfl), rfl, rfl, rfl⟩

set_option maxHeartbeats 4000000 in
set_option maxRecDepth 100000 in
theorem c_X5_tell_ok (l : Launch) (G : Gv) (sc : Sc) (ia : Ia) (la : La) (n : Nat) (hn : sc 0 = nI n) (hN : n ≤ 32) (j : Nat) (hj : j < n) (v : Int32) (ho : s_out v (-1000000) 1000000 = false)  : Ct l yX5_tell wsX5_tell ({ frames := 7, cells := 0, slots := 0, locals := 250 }) G [.ref (G.2.1 5), .int (nI j), .int v] sc ia la (fI (ia 3 j) sc (va_up ia 3 (upd (ia 3) j v)) la) := by
  have hU2 : ∀ w ∈ u_ws RX2 TX2 9, w ∈ wsX5_tell := fun w h => List.mem_cons_of_mem _ (List.mem_append_right _ h)
  have hU5 : ∀ w ∈ u_ws RX5 TX5 5, w ∈ wsX5_tell := fun w h => List.mem_cons_of_mem _ (List.mem_append_left _ (List.mem_append_right _ h))
  refine z_of (maxL := 4) (own := RX5) [(0, .ref (G.2.1 5)), (1, .int (nI j)), (2, .int v)] rfl (by decide +kernel) rfl (Nat.le_of_ble_eq_true rfl) rfl (fun Z C E => ?_)
  refine z_aload_n (pc' := 1) C dX5_tell_0 rfl 0 rfl rfl ?_
  refine z_get (pc' := 4) C hU5 5 (by decide) q_o5 rfl 0 (by decide) (by decide +kernel) (v := .ref (G.2.1 2)) rfl dX5_tell_1 rfl ?_
  refine z_iload_n (pc' := 5) C dX5_tell_4 rfl 1 rfl rfl ?_
  refine z_cV (n := 1) (pc' := 8) (As := [.int (nI j)]) (rest := []) C 2 (c_X2_has_ok l G sc ia la n hn hN j hj) gX5_tell_X2_has rfl rfl rfl rfl (by decide +kernel) (by decide) rfl (by decide) q_o2 rfl rfl dX5_tell_5 (Nat.le_of_ble_eq_true rfl) rfl (k_I ?_)
  show Z sc ia la [(0, .ref (G.2.1 5)), (1, .int (nI j)), (2, .int v)] 8 [.int 1]
  refine z_if_ne (pc' := 11) C 14 dX5_tell_8 rfl rfl (fun h_8 => ?_) (fun h_8 => absurd h_8 (by decide))
  refine z_iload_n (pc' := 15) C dX5_tell_14 rfl 2 rfl rfl ?_
  refine z_ldc (v := -1000000) (pc' := 17) C (by decide +kernel) dX5_tell_15 rfl ?_
  refine z_ldc (v := 1000000) (pc' := 19) C (by decide +kernel) dX5_tell_17 rfl ?_
  refine z_cS (n := 3) (pc' := 22) (As := [.int v, .int (-1000000), .int 1000000]) (rest := []) C (c_X5_isOutsideB l G sc ia la v (-1000000) 1000000 false ho) gX5_tell_X5_isOutside rfl rfl rfl (by decide +kernel) (by decide) rfl rfl dX5_tell_19 (Nat.le_of_ble_eq_true rfl) rfl (k_I ?_)
  show Z sc ia la [(0, .ref (G.2.1 5)), (1, .int (nI j)), (2, .int v)] 22 [.int 0]
  refine z_if_eq (pc' := 25) C 28 dX5_tell_22 rfl rfl (fun h_22 => ?_) (fun h_22 => absurd h_22 (by decide))
  refine z_aload_n (pc' := 29) C dX5_tell_28 rfl 0 rfl rfl ?_
  refine z_get (pc' := 32) C hU5 5 (by decide) q_o5 rfl 0 (by decide) (by decide +kernel) (v := .ref (G.2.1 2)) rfl dX5_tell_29 rfl ?_
  refine z_get (pc' := 35) C hU2 2 (by decide) q_o2 rfl 4 (by decide) (by decide +kernel) (v := .ref (G.2.1 10)) rfl dX5_tell_32 rfl ?_
  refine z_iload_n (pc' := 36) C dX5_tell_35 rfl 1 rfl rfl ?_
  refine z_iald (pc' := 37) C 10 (by decide) (N := 32) (i := j) (f := ia 3) q_i3 (by omega) (by decide) dX5_tell_36 rfl ?_
  refine z_istore_n (lv' := [(3, .int ((ia 3) j)), (0, .ref (G.2.1 5)), (1, .int (nI j)), (2, .int v)]) (pc' := 38) C dX5_tell_37 rfl (by decide) rfl rfl ?_
  refine z_aload_n (pc' := 39) C dX5_tell_38 rfl 1 rfl rfl ?_
  refine z_get (pc' := 42) C hU5 5 (by decide) q_o5 rfl 0 (by decide) (by decide +kernel) (v := .ref (G.2.1 2)) rfl dX5_tell_39 rfl ?_
  refine z_get (pc' := 45) C hU2 2 (by decide) q_o2 rfl 4 (by decide) (by decide +kernel) (v := .ref (G.2.1 10)) rfl dX5_tell_42 rfl ?_
  refine z_iload_n (pc' := 46) C dX5_tell_45 rfl 2 rfl rfl ?_
  refine z_iload_n (pc' := 47) C dX5_tell_46 rfl 3 rfl rfl ?_
  refine z_iast (pc' := 48) C 10 (by decide) (N := 32) (i := j) (f := ia 3) q_i3 (by omega) (by decide) (q_u3 _) dX5_tell_47 rfl ?_
  refine z_iload_n (pc' := 49) C dX5_tell_48 rfl 0 rfl rfl ?_
  exact z_iret (E := E) rfl dX5_tell_49 ⟨(congrArg (fun z => some (Value.int z)) rfl), rfl, rfl, rfl⟩

set_option maxHeartbeats 4000000 in
set_option maxRecDepth 100000 in
theorem c_X5_limit_ok (l : Launch) (G : Gv) (sc : Sc) (ia : Ia) (la : La) (n : Nat) (hn : sc 0 = nI n) (hN : n ≤ 32) (j : Nat) (hj : j < n) (v : Int32) (ho : s_out v 0 100000 = false)  : Ct l yX5_limit wsX5_limit ({ frames := 7, cells := 0, slots := 0, locals := 250 }) G [.ref (G.2.1 5), .int (nI j), .int v] sc ia la (fI (ia 5 j) sc (va_up ia 5 (upd (ia 5) j v)) la) := by
  have hU2 : ∀ w ∈ u_ws RX2 TX2 9, w ∈ wsX5_limit := fun w h => List.mem_cons_of_mem _ (List.mem_append_right _ h)
  have hU5 : ∀ w ∈ u_ws RX5 TX5 5, w ∈ wsX5_limit := fun w h => List.mem_cons_of_mem _ (List.mem_append_left _ (List.mem_append_right _ h))
  refine z_of (maxL := 4) (own := RX5) [(0, .ref (G.2.1 5)), (1, .int (nI j)), (2, .int v)] rfl (by decide +kernel) rfl (Nat.le_of_ble_eq_true rfl) rfl (fun Z C E => ?_)
  refine z_aload_n (pc' := 1) C dX5_limit_0 rfl 0 rfl rfl ?_
  refine z_get (pc' := 4) C hU5 5 (by decide) q_o5 rfl 0 (by decide) (by decide +kernel) (v := .ref (G.2.1 2)) rfl dX5_limit_1 rfl ?_
  refine z_iload_n (pc' := 5) C dX5_limit_4 rfl 1 rfl rfl ?_
  refine z_cV (n := 1) (pc' := 8) (As := [.int (nI j)]) (rest := []) C 2 (c_X2_has_ok l G sc ia la n hn hN j hj) gX5_limit_X2_has rfl rfl rfl rfl (by decide +kernel) (by decide) rfl (by decide) q_o2 rfl rfl dX5_limit_5 (Nat.le_of_ble_eq_true rfl) rfl (k_I ?_)
  show Z sc ia la [(0, .ref (G.2.1 5)), (1, .int (nI j)), (2, .int v)] 8 [.int 1]
  refine z_if_ne (pc' := 11) C 14 dX5_limit_8 rfl rfl (fun h_8 => ?_) (fun h_8 => absurd h_8 (by decide))
  refine z_iload_n (pc' := 15) C dX5_limit_14 rfl 2 rfl rfl ?_
  refine z_iconst (v := 0) (pc' := 16) C dX5_limit_15 rfl rfl ?_
  refine z_ldc (v := 100000) (pc' := 18) C (by decide +kernel) dX5_limit_16 rfl ?_
  refine z_cS (n := 3) (pc' := 21) (As := [.int v, .int 0, .int 100000]) (rest := []) C (c_X5_isOutsideB l G sc ia la v 0 100000 false ho) gX5_limit_X5_isOutside rfl rfl rfl (by decide +kernel) (by decide) rfl rfl dX5_limit_18 (Nat.le_of_ble_eq_true rfl) rfl (k_I ?_)
  show Z sc ia la [(0, .ref (G.2.1 5)), (1, .int (nI j)), (2, .int v)] 21 [.int 0]
  refine z_if_eq (pc' := 24) C 27 dX5_limit_21 rfl rfl (fun h_21 => ?_) (fun h_21 => absurd h_21 (by decide))
  refine z_aload_n (pc' := 28) C dX5_limit_27 rfl 0 rfl rfl ?_
  refine z_get (pc' := 31) C hU5 5 (by decide) q_o5 rfl 0 (by decide) (by decide +kernel) (v := .ref (G.2.1 2)) rfl dX5_limit_28 rfl ?_
  refine z_get (pc' := 34) C hU2 2 (by decide) q_o2 rfl 6 (by decide) (by decide +kernel) (v := .ref (G.2.1 12)) rfl dX5_limit_31 rfl ?_
  refine z_iload_n (pc' := 35) C dX5_limit_34 rfl 1 rfl rfl ?_
  refine z_iald (pc' := 36) C 12 (by decide) (N := 32) (i := j) (f := ia 5) q_i5 (by omega) (by decide) dX5_limit_35 rfl ?_
  refine z_istore_n (lv' := [(3, .int ((ia 5) j)), (0, .ref (G.2.1 5)), (1, .int (nI j)), (2, .int v)]) (pc' := 37) C dX5_limit_36 rfl (by decide) rfl rfl ?_
  refine z_aload_n (pc' := 38) C dX5_limit_37 rfl 1 rfl rfl ?_
  refine z_get (pc' := 41) C hU5 5 (by decide) q_o5 rfl 0 (by decide) (by decide +kernel) (v := .ref (G.2.1 2)) rfl dX5_limit_38 rfl ?_
  refine z_get (pc' := 44) C hU2 2 (by decide) q_o2 rfl 6 (by decide) (by decide +kernel) (v := .ref (G.2.1 12)) rfl dX5_limit_41 rfl ?_
  refine z_iload_n (pc' := 45) C dX5_limit_44 rfl 2 rfl rfl ?_
  refine z_iload_n (pc' := 46) C dX5_limit_45 rfl 3 rfl rfl ?_
  refine z_iast (pc' := 47) C 12 (by decide) (N := 32) (i := j) (f := ia 5) q_i5 (by omega) (by decide) (q_u5 _) dX5_limit_46 rfl ?_
  refine z_iload_n (pc' := 48) C dX5_limit_47 rfl 0 rfl rfl ?_
  exact z_iret (E := E) rfl dX5_limit_48 ⟨(congrArg (fun z => some (Value.int z)) rfl), rfl, rfl, rfl⟩

set_option maxHeartbeats 4000000 in
set_option maxRecDepth 100000 in
theorem c_X5_probe_zero (l : Launch) (G : Gv) (sc : Sc) (ia : Ia) (la : La) (n : Nat) (hn : sc 0 = nI n) (hN : n ≤ 32) (j : Nat) (hj : j < n)  : Ct l yX5_probe wsX5_probe ({ frames := 7, cells := 0, slots := 0, locals := 250 }) G [.ref (G.2.1 5), .int (nI j), .int 0] sc ia la (fI (-102) sc ia la) := by
  have hU5 : ∀ w ∈ u_ws RX5 TX5 5, w ∈ wsX5_probe := fun w h => List.mem_cons_of_mem _ (List.mem_append_left _ (List.mem_append_right _ h))
  refine z_of (maxL := 4) (own := RX5) [(0, .ref (G.2.1 5)), (1, .int (nI j)), (2, .int 0)] rfl (by decide +kernel) rfl (Nat.le_of_ble_eq_true rfl) rfl (fun Z C E => ?_)
  refine z_aload_n (pc' := 1) C dX5_probe_0 rfl 0 rfl rfl ?_
  refine z_get (pc' := 4) C hU5 5 (by decide) q_o5 rfl 0 (by decide) (by decide +kernel) (v := .ref (G.2.1 2)) rfl dX5_probe_1 rfl ?_
  refine z_iload_n (pc' := 5) C dX5_probe_4 rfl 1 rfl rfl ?_
  refine z_cV (n := 1) (pc' := 8) (As := [.int (nI j)]) (rest := []) C 2 (c_X2_has_ok l G sc ia la n hn hN j hj) gX5_probe_X2_has rfl rfl rfl rfl (by decide +kernel) (by decide) rfl (by decide) q_o2 rfl rfl dX5_probe_5 (Nat.le_of_ble_eq_true rfl) rfl (k_I ?_)
  show Z sc ia la [(0, .ref (G.2.1 5)), (1, .int (nI j)), (2, .int 0)] 8 [.int 1]
  refine z_if_ne (pc' := 11) C 14 dX5_probe_8 rfl rfl (fun h_8 => ?_) (fun h_8 => absurd h_8 (by decide))
  refine z_iload_n (pc' := 15) C dX5_probe_14 rfl 2 rfl rfl ?_
  refine z_if_eq (pc' := 18) C 29 dX5_probe_15 rfl rfl (fun h_15 => ?_) (fun h_15 => absurd h_15 (by decide))
  refine z_bipush (v := -102) (pc' := 31) C dX5_probe_29 rfl rfl ?_
  exact z_iret (E := E) rfl dX5_probe_31 ⟨(congrArg (fun z => some (Value.int z)) rfl), rfl, rfl, rfl⟩

set_option maxHeartbeats 4000000 in
set_option maxRecDepth 100000 in
theorem c_X5_probe_out (l : Launch) (G : Gv) (sc : Sc) (ia : Ia) (la : La) (n : Nat) (hn : sc 0 = nI n) (hN : n ≤ 32) (j : Nat) (hj : j < n) (v : Int32) (hz : ¬ v = 0) (ho : s_out v (-9) 9 = true)  : Ct l yX5_probe wsX5_probe ({ frames := 7, cells := 0, slots := 0, locals := 250 }) G [.ref (G.2.1 5), .int (nI j), .int v] sc ia la (fI (-102) sc ia la) := by
  have hU5 : ∀ w ∈ u_ws RX5 TX5 5, w ∈ wsX5_probe := fun w h => List.mem_cons_of_mem _ (List.mem_append_left _ (List.mem_append_right _ h))
  refine z_of (maxL := 4) (own := RX5) [(0, .ref (G.2.1 5)), (1, .int (nI j)), (2, .int v)] rfl (by decide +kernel) rfl (Nat.le_of_ble_eq_true rfl) rfl (fun Z C E => ?_)
  refine z_aload_n (pc' := 1) C dX5_probe_0 rfl 0 rfl rfl ?_
  refine z_get (pc' := 4) C hU5 5 (by decide) q_o5 rfl 0 (by decide) (by decide +kernel) (v := .ref (G.2.1 2)) rfl dX5_probe_1 rfl ?_
  refine z_iload_n (pc' := 5) C dX5_probe_4 rfl 1 rfl rfl ?_
  refine z_cV (n := 1) (pc' := 8) (As := [.int (nI j)]) (rest := []) C 2 (c_X2_has_ok l G sc ia la n hn hN j hj) gX5_probe_X2_has rfl rfl rfl rfl (by decide +kernel) (by decide) rfl (by decide) q_o2 rfl rfl dX5_probe_5 (Nat.le_of_ble_eq_true rfl) rfl (k_I ?_)
  show Z sc ia la [(0, .ref (G.2.1 5)), (1, .int (nI j)), (2, .int v)] 8 [.int 1]
  refine z_if_ne (pc' := 11) C 14 dX5_probe_8 rfl rfl (fun h_8 => ?_) (fun h_8 => absurd h_8 (by decide))
  refine z_iload_n (pc' := 15) C dX5_probe_14 rfl 2 rfl rfl ?_
  refine z_if_eq (pc' := 18) C 29 dX5_probe_15 rfl rfl (fun h_15 => absurd h_15 (by exact hz)) (fun h_15 => ?_)
  refine z_iload_n (pc' := 19) C dX5_probe_18 rfl 2 rfl rfl ?_
  refine z_bipush (v := -9) (pc' := 21) C dX5_probe_19 rfl rfl ?_
  refine z_bipush (v := 9) (pc' := 23) C dX5_probe_21 rfl rfl ?_
  refine z_cS (n := 3) (pc' := 26) (As := [.int v, .int (-9), .int 9]) (rest := []) C (c_X5_isOutsideB l G sc ia la v (-9) 9 true ho) gX5_probe_X5_isOutside rfl rfl rfl (by decide +kernel) (by decide) rfl rfl dX5_probe_23 (Nat.le_of_ble_eq_true rfl) rfl (k_I ?_)
  show Z sc ia la [(0, .ref (G.2.1 5)), (1, .int (nI j)), (2, .int v)] 26 [.int 1]
  refine z_if_eq (pc' := 29) C 32 dX5_probe_26 rfl rfl (fun h_26 => absurd h_26 (by decide)) (fun h_26 => ?_)
  refine z_bipush (v := -102) (pc' := 31) C dX5_probe_29 rfl rfl ?_
  exact z_iret (E := E) rfl dX5_probe_31 ⟨(congrArg (fun z => some (Value.int z)) rfl), rfl, rfl, rfl⟩

set_option maxHeartbeats 4000000 in
set_option maxRecDepth 100000 in
theorem c_X5_probe_ok (l : Launch) (G : Gv) (sc : Sc) (ia : Ia) (la : La) (n : Nat) (hn : sc 0 = nI n) (hN : n ≤ 32) (j : Nat) (hj : j < n) (v : Int32) (hz : ¬ v = 0) (ho : s_out v (-9) 9 = false)  : Ct l yX5_probe wsX5_probe ({ frames := 7, cells := 0, slots := 0, locals := 250 }) G [.ref (G.2.1 5), .int (nI j), .int v] sc ia la (fI (ia 2 j) sc (va_up ia 2 (upd (ia 2) j v)) la) := by
  have hU2 : ∀ w ∈ u_ws RX2 TX2 9, w ∈ wsX5_probe := fun w h => List.mem_cons_of_mem _ (List.mem_append_right _ h)
  have hU5 : ∀ w ∈ u_ws RX5 TX5 5, w ∈ wsX5_probe := fun w h => List.mem_cons_of_mem _ (List.mem_append_left _ (List.mem_append_right _ h))
  refine z_of (maxL := 4) (own := RX5) [(0, .ref (G.2.1 5)), (1, .int (nI j)), (2, .int v)] rfl (by decide +kernel) rfl (Nat.le_of_ble_eq_true rfl) rfl (fun Z C E => ?_)
  refine z_aload_n (pc' := 1) C dX5_probe_0 rfl 0 rfl rfl ?_
  refine z_get (pc' := 4) C hU5 5 (by decide) q_o5 rfl 0 (by decide) (by decide +kernel) (v := .ref (G.2.1 2)) rfl dX5_probe_1 rfl ?_
  refine z_iload_n (pc' := 5) C dX5_probe_4 rfl 1 rfl rfl ?_
  refine z_cV (n := 1) (pc' := 8) (As := [.int (nI j)]) (rest := []) C 2 (c_X2_has_ok l G sc ia la n hn hN j hj) gX5_probe_X2_has rfl rfl rfl rfl (by decide +kernel) (by decide) rfl (by decide) q_o2 rfl rfl dX5_probe_5 (Nat.le_of_ble_eq_true rfl) rfl (k_I ?_)
  show Z sc ia la [(0, .ref (G.2.1 5)), (1, .int (nI j)), (2, .int v)] 8 [.int 1]
  refine z_if_ne (pc' := 11) C 14 dX5_probe_8 rfl rfl (fun h_8 => ?_) (fun h_8 => absurd h_8 (by decide))
  refine z_iload_n (pc' := 15) C dX5_probe_14 rfl 2 rfl rfl ?_
  refine z_if_eq (pc' := 18) C 29 dX5_probe_15 rfl rfl (fun h_15 => absurd h_15 (by exact hz)) (fun h_15 => ?_)
  refine z_iload_n (pc' := 19) C dX5_probe_18 rfl 2 rfl rfl ?_
  refine z_bipush (v := -9) (pc' := 21) C dX5_probe_19 rfl rfl ?_
  refine z_bipush (v := 9) (pc' := 23) C dX5_probe_21 rfl rfl ?_
  refine z_cS (n := 3) (pc' := 26) (As := [.int v, .int (-9), .int 9]) (rest := []) C (c_X5_isOutsideB l G sc ia la v (-9) 9 false ho) gX5_probe_X5_isOutside rfl rfl rfl (by decide +kernel) (by decide) rfl rfl dX5_probe_23 (Nat.le_of_ble_eq_true rfl) rfl (k_I ?_)
  show Z sc ia la [(0, .ref (G.2.1 5)), (1, .int (nI j)), (2, .int v)] 26 [.int 0]
  refine z_if_eq (pc' := 29) C 32 dX5_probe_26 rfl rfl (fun h_26 => ?_) (fun h_26 => absurd h_26 (by decide))
  refine z_aload_n (pc' := 33) C dX5_probe_32 rfl 0 rfl rfl ?_
  refine z_get (pc' := 36) C hU5 5 (by decide) q_o5 rfl 0 (by decide) (by decide +kernel) (v := .ref (G.2.1 2)) rfl dX5_probe_33 rfl ?_
  refine z_get (pc' := 39) C hU2 2 (by decide) q_o2 rfl 3 (by decide) (by decide +kernel) (v := .ref (G.2.1 9)) rfl dX5_probe_36 rfl ?_
  refine z_iload_n (pc' := 40) C dX5_probe_39 rfl 1 rfl rfl ?_
  refine z_iald (pc' := 41) C 9 (by decide) (N := 32) (i := j) (f := ia 2) q_i2 (by omega) (by decide) dX5_probe_40 rfl ?_
  refine z_istore_n (lv' := [(3, .int ((ia 2) j)), (0, .ref (G.2.1 5)), (1, .int (nI j)), (2, .int v)]) (pc' := 42) C dX5_probe_41 rfl (by decide) rfl rfl ?_
  refine z_aload_n (pc' := 43) C dX5_probe_42 rfl 1 rfl rfl ?_
  refine z_get (pc' := 46) C hU5 5 (by decide) q_o5 rfl 0 (by decide) (by decide +kernel) (v := .ref (G.2.1 2)) rfl dX5_probe_43 rfl ?_
  refine z_get (pc' := 49) C hU2 2 (by decide) q_o2 rfl 3 (by decide) (by decide +kernel) (v := .ref (G.2.1 9)) rfl dX5_probe_46 rfl ?_
  refine z_iload_n (pc' := 50) C dX5_probe_49 rfl 2 rfl rfl ?_
  refine z_iload_n (pc' := 51) C dX5_probe_50 rfl 3 rfl rfl ?_
  refine z_iast (pc' := 52) C 9 (by decide) (N := 32) (i := j) (f := ia 2) q_i2 (by omega) (by decide) (q_u2 _) dX5_probe_51 rfl ?_
  refine z_iload_n (pc' := 53) C dX5_probe_52 rfl 0 rfl rfl ?_
  exact z_iret (E := E) rfl dX5_probe_53 ⟨(congrArg (fun z => some (Value.int z)) rfl), rfl, rfl, rfl⟩

set_option maxHeartbeats 4000000 in
set_option maxRecDepth 100000 in
theorem c_X5_far_ok (l : Launch) (G : Gv) (sc : Sc) (ia : Ia) (la : La) (n : Nat) (hn : sc 0 = nI n) (hN : n ≤ 32) (j : Nat) (hj : j < n)  : Ct l yX5_far wsX5_far ({ frames := 7, cells := 0, slots := 0, locals := 250 }) G [.ref (G.2.1 5), .int (nI j)] sc ia la (fI (ia 1 j) sc ia la) := by
  have hU2 : ∀ w ∈ u_ws RX2 TX2 9, w ∈ wsX5_far := fun w h => List.mem_cons_of_mem _ (List.mem_append_right _ h)
  have hU5 : ∀ w ∈ u_ws RX5 TX5 5, w ∈ wsX5_far := fun w h => List.mem_cons_of_mem _ (List.mem_append_left _ (List.mem_append_right _ h))
  refine z_of (maxL := 2) (own := RX5) [(0, .ref (G.2.1 5)), (1, .int (nI j))] rfl (by decide +kernel) rfl (Nat.le_of_ble_eq_true rfl) rfl (fun Z C E => ?_)
  refine z_aload_n (pc' := 1) C dX5_far_0 rfl 0 rfl rfl ?_
  refine z_get (pc' := 4) C hU5 5 (by decide) q_o5 rfl 0 (by decide) (by decide +kernel) (v := .ref (G.2.1 2)) rfl dX5_far_1 rfl ?_
  refine z_iload_n (pc' := 5) C dX5_far_4 rfl 1 rfl rfl ?_
  refine z_cV (n := 1) (pc' := 8) (As := [.int (nI j)]) (rest := []) C 2 (c_X2_has_ok l G sc ia la n hn hN j hj) gX5_far_X2_has rfl rfl rfl rfl (by decide +kernel) (by decide) rfl (by decide) q_o2 rfl rfl dX5_far_5 (Nat.le_of_ble_eq_true rfl) rfl (k_I ?_)
  show Z sc ia la [(0, .ref (G.2.1 5)), (1, .int (nI j))] 8 [.int 1]
  refine z_if_eq (pc' := 11) C 23 dX5_far_8 rfl rfl (fun h_8 => absurd h_8 (by decide)) (fun h_8 => ?_)
  refine z_aload_n (pc' := 12) C dX5_far_11 rfl 0 rfl rfl ?_
  refine z_get (pc' := 15) C hU5 5 (by decide) q_o5 rfl 0 (by decide) (by decide +kernel) (v := .ref (G.2.1 2)) rfl dX5_far_12 rfl ?_
  refine z_get (pc' := 18) C hU2 2 (by decide) q_o2 rfl 2 (by decide) (by decide +kernel) (v := .ref (G.2.1 8)) rfl dX5_far_15 rfl ?_
  refine z_iload_n (pc' := 19) C dX5_far_18 rfl 1 rfl rfl ?_
  refine z_iald (pc' := 20) C 8 (by decide) (N := 32) (i := j) (f := ia 1) q_i1 (by omega) (by decide) dX5_far_19 rfl ?_
  refine z_goto (pc' := 25) C dX5_far_20 rfl ?_
  exact z_iret (E := E) rfl dX5_far_25 ⟨(congrArg (fun z => some (Value.int z)) rfl), rfl, rfl, rfl⟩

set_option maxHeartbeats 4000000 in
set_option maxRecDepth 100000 in
theorem c_X5_seen_ok (l : Launch) (G : Gv) (sc : Sc) (ia : Ia) (la : La) (n : Nat) (hn : sc 0 = nI n) (hN : n ≤ 32) (j : Nat) (hj : j < n)  : Ct l yX5_seen wsX5_seen ({ frames := 7, cells := 0, slots := 0, locals := 250 }) G [.ref (G.2.1 5), .int (nI j)] sc ia la (fI (ia 1 j * ia 2 j) sc ia la) := by
  have hU2 : ∀ w ∈ u_ws RX2 TX2 9, w ∈ wsX5_seen := fun w h => List.mem_cons_of_mem _ (List.mem_append_right _ h)
  have hU5 : ∀ w ∈ u_ws RX5 TX5 5, w ∈ wsX5_seen := fun w h => List.mem_cons_of_mem _ (List.mem_append_left _ (List.mem_append_right _ h))
  refine z_of (maxL := 2) (own := RX5) [(0, .ref (G.2.1 5)), (1, .int (nI j))] rfl (by decide +kernel) rfl (Nat.le_of_ble_eq_true rfl) rfl (fun Z C E => ?_)
  refine z_aload_n (pc' := 1) C dX5_seen_0 rfl 0 rfl rfl ?_
  refine z_get (pc' := 4) C hU5 5 (by decide) q_o5 rfl 0 (by decide) (by decide +kernel) (v := .ref (G.2.1 2)) rfl dX5_seen_1 rfl ?_
  refine z_iload_n (pc' := 5) C dX5_seen_4 rfl 1 rfl rfl ?_
  refine z_cV (n := 1) (pc' := 8) (As := [.int (nI j)]) (rest := []) C 2 (c_X2_has_ok l G sc ia la n hn hN j hj) gX5_seen_X2_has rfl rfl rfl rfl (by decide +kernel) (by decide) rfl (by decide) q_o2 rfl rfl dX5_seen_5 (Nat.le_of_ble_eq_true rfl) rfl (k_I ?_)
  show Z sc ia la [(0, .ref (G.2.1 5)), (1, .int (nI j))] 8 [.int 1]
  refine z_if_eq (pc' := 11) C 33 dX5_seen_8 rfl rfl (fun h_8 => absurd h_8 (by decide)) (fun h_8 => ?_)
  refine z_aload_n (pc' := 12) C dX5_seen_11 rfl 0 rfl rfl ?_
  refine z_get (pc' := 15) C hU5 5 (by decide) q_o5 rfl 0 (by decide) (by decide +kernel) (v := .ref (G.2.1 2)) rfl dX5_seen_12 rfl ?_
  refine z_get (pc' := 18) C hU2 2 (by decide) q_o2 rfl 2 (by decide) (by decide +kernel) (v := .ref (G.2.1 8)) rfl dX5_seen_15 rfl ?_
  refine z_iload_n (pc' := 19) C dX5_seen_18 rfl 1 rfl rfl ?_
  refine z_iald (pc' := 20) C 8 (by decide) (N := 32) (i := j) (f := ia 1) q_i1 (by omega) (by decide) dX5_seen_19 rfl ?_
  refine z_aload_n (pc' := 21) C dX5_seen_20 rfl 0 rfl rfl ?_
  refine z_get (pc' := 24) C hU5 5 (by decide) q_o5 rfl 0 (by decide) (by decide +kernel) (v := .ref (G.2.1 2)) rfl dX5_seen_21 rfl ?_
  refine z_get (pc' := 27) C hU2 2 (by decide) q_o2 rfl 3 (by decide) (by decide +kernel) (v := .ref (G.2.1 9)) rfl dX5_seen_24 rfl ?_
  refine z_iload_n (pc' := 28) C dX5_seen_27 rfl 1 rfl rfl ?_
  refine z_iald (pc' := 29) C 9 (by decide) (N := 32) (i := j) (f := ia 2) q_i2 (by omega) (by decide) dX5_seen_28 rfl ?_
  refine z_imul (pc' := 30) C dX5_seen_29 rfl ?_
  refine z_goto (pc' := 35) C dX5_seen_30 rfl ?_
  exact z_iret (E := E) rfl dX5_seen_35 ⟨(congrArg (fun z => some (Value.int z)) rfl), rfl, rfl, rfl⟩

set_option maxHeartbeats 4000000 in
set_option maxRecDepth 100000 in
theorem c_X5_gated_out (l : Launch) (G : Gv) (sc : Sc) (ia : Ia) (la : La) (n : Nat) (hn : sc 0 = nI n) (hN : n ≤ 32) (j : Nat) (hj : j < n) (m v : Int32) (hg : s_gate m v = false)  : Ct l yX5_gated wsX5_gated ({ frames := 7, cells := 0, slots := 0, locals := 250 }) G [.ref (G.2.1 5), .int (nI j), .int m, .int v] sc ia la (fI (-10000002) sc ia la) := by
  have hU5 : ∀ w ∈ u_ws RX5 TX5 5, w ∈ wsX5_gated := fun w h => List.mem_cons_of_mem _ (List.mem_append_left _ (List.mem_append_right _ h))
  refine z_of (maxL := 4) (own := RX5) [(0, .ref (G.2.1 5)), (1, .int (nI j)), (2, .int m), (3, .int v)] rfl (by decide +kernel) rfl (Nat.le_of_ble_eq_true rfl) rfl (fun Z C E => ?_)
  refine z_aload_n (pc' := 1) C dX5_gated_0 rfl 0 rfl rfl ?_
  refine z_get (pc' := 4) C hU5 5 (by decide) q_o5 rfl 0 (by decide) (by decide +kernel) (v := .ref (G.2.1 2)) rfl dX5_gated_1 rfl ?_
  refine z_iload_n (pc' := 5) C dX5_gated_4 rfl 1 rfl rfl ?_
  refine z_cV (n := 1) (pc' := 8) (As := [.int (nI j)]) (rest := []) C 2 (c_X2_has_ok l G sc ia la n hn hN j hj) gX5_gated_X2_has rfl rfl rfl rfl (by decide +kernel) (by decide) rfl (by decide) q_o2 rfl rfl dX5_gated_5 (Nat.le_of_ble_eq_true rfl) rfl (k_I ?_)
  show Z sc ia la [(0, .ref (G.2.1 5)), (1, .int (nI j)), (2, .int m), (3, .int v)] 8 [.int 1]
  refine z_if_ne (pc' := 11) C 14 dX5_gated_8 rfl rfl (fun h_8 => ?_) (fun h_8 => absurd h_8 (by decide))
  refine z_iload_n (pc' := 15) C dX5_gated_14 rfl 2 rfl rfl ?_
  refine z_iload_n (pc' := 16) C dX5_gated_15 rfl 3 rfl rfl ?_
  refine z_cS (n := 2) (pc' := 19) (As := [.int m, .int v]) (rest := []) C (c_X5_isGateB l G sc ia la m v false hg) gX5_gated_X5_isGate rfl rfl rfl (by decide +kernel) (by decide) rfl rfl dX5_gated_16 (Nat.le_of_ble_eq_true rfl) rfl (k_I ?_)
  show Z sc ia la [(0, .ref (G.2.1 5)), (1, .int (nI j)), (2, .int m), (3, .int v)] 19 [.int 0]
  refine z_if_ne (pc' := 22) C 25 dX5_gated_19 rfl rfl (fun h_19 => absurd h_19 (by decide)) (fun h_19 => ?_)
  refine z_ldc (v := -10000002) (pc' := 24) C (by decide +kernel) dX5_gated_22 rfl ?_
  exact z_iret (E := E) rfl dX5_gated_24 ⟨(congrArg (fun z => some (Value.int z)) rfl), rfl, rfl, rfl⟩

set_option maxHeartbeats 4000000 in
set_option maxRecDepth 100000 in
theorem c_X5_gated_ok (l : Launch) (G : Gv) (sc : Sc) (ia : Ia) (la : La) (n : Nat) (hn : sc 0 = nI n) (hN : n ≤ 32) (j : Nat) (hj : j < n) (m v : Int32) (hg : s_gate m v = true)  : Ct l yX5_gated wsX5_gated ({ frames := 7, cells := 0, slots := 0, locals := 250 }) G [.ref (G.2.1 5), .int (nI j), .int m, .int v] sc ia la (fI (s_th ia (nI j) m v n) sc ia la) := by
  have hU5 : ∀ w ∈ u_ws RX5 TX5 5, w ∈ wsX5_gated := fun w h => List.mem_cons_of_mem _ (List.mem_append_left _ (List.mem_append_right _ h))
  refine z_of (maxL := 4) (own := RX5) [(0, .ref (G.2.1 5)), (1, .int (nI j)), (2, .int m), (3, .int v)] rfl (by decide +kernel) rfl (Nat.le_of_ble_eq_true rfl) rfl (fun Z C E => ?_)
  refine z_aload_n (pc' := 1) C dX5_gated_0 rfl 0 rfl rfl ?_
  refine z_get (pc' := 4) C hU5 5 (by decide) q_o5 rfl 0 (by decide) (by decide +kernel) (v := .ref (G.2.1 2)) rfl dX5_gated_1 rfl ?_
  refine z_iload_n (pc' := 5) C dX5_gated_4 rfl 1 rfl rfl ?_
  refine z_cV (n := 1) (pc' := 8) (As := [.int (nI j)]) (rest := []) C 2 (c_X2_has_ok l G sc ia la n hn hN j hj) gX5_gated_X2_has rfl rfl rfl rfl (by decide +kernel) (by decide) rfl (by decide) q_o2 rfl rfl dX5_gated_5 (Nat.le_of_ble_eq_true rfl) rfl (k_I ?_)
  show Z sc ia la [(0, .ref (G.2.1 5)), (1, .int (nI j)), (2, .int m), (3, .int v)] 8 [.int 1]
  refine z_if_ne (pc' := 11) C 14 dX5_gated_8 rfl rfl (fun h_8 => ?_) (fun h_8 => absurd h_8 (by decide))
  refine z_iload_n (pc' := 15) C dX5_gated_14 rfl 2 rfl rfl ?_
  refine z_iload_n (pc' := 16) C dX5_gated_15 rfl 3 rfl rfl ?_
  refine z_cS (n := 2) (pc' := 19) (As := [.int m, .int v]) (rest := []) C (c_X5_isGateB l G sc ia la m v true hg) gX5_gated_X5_isGate rfl rfl rfl (by decide +kernel) (by decide) rfl rfl dX5_gated_16 (Nat.le_of_ble_eq_true rfl) rfl (k_I ?_)
  show Z sc ia la [(0, .ref (G.2.1 5)), (1, .int (nI j)), (2, .int m), (3, .int v)] 19 [.int 1]
  refine z_if_ne (pc' := 22) C 25 dX5_gated_19 rfl rfl (fun h_19 => ?_) (fun h_19 => absurd h_19 (by decide))
  refine z_aload_n (pc' := 26) C dX5_gated_25 rfl 0 rfl rfl ?_
  refine z_get (pc' := 29) C hU5 5 (by decide) q_o5 rfl 0 (by decide) (by decide +kernel) (v := .ref (G.2.1 2)) rfl dX5_gated_26 rfl ?_
  refine z_iload_n (pc' := 30) C dX5_gated_29 rfl 1 rfl rfl ?_
  refine z_iload_n (pc' := 31) C dX5_gated_30 rfl 2 rfl rfl ?_
  refine z_iload_n (pc' := 32) C dX5_gated_31 rfl 3 rfl rfl ?_
  refine z_cV (n := 3) (pc' := 35) (As := [.int (nI j), .int m, .int v]) (rest := []) C 2 (c_X2_sumThrough l G sc ia la n hn hN (nI j) m v) gX5_gated_X2_sumThrough rfl rfl rfl rfl (by decide +kernel) (by decide) rfl (by decide) q_o2 rfl rfl dX5_gated_32 (Nat.le_of_ble_eq_true rfl) rfl (k_I ?_)
  show Z sc ia la [(0, .ref (G.2.1 5)), (1, .int (nI j)), (2, .int m), (3, .int v)] 35 [.int (s_th ia (nI j) m v n)]
  exact z_iret (E := E) rfl dX5_gated_35 ⟨(congrArg (fun z => some (Value.int z)) rfl), rfl, rfl, rfl⟩

set_option maxHeartbeats 4000000 in
set_option maxRecDepth 100000 in
theorem c_X5_power_out (l : Launch) (G : Gv) (sc : Sc) (ia : Ia) (la : La) (m v : Int32) (hg : s_gate m v = false)  : Ct l yX5_power wsX5_power ({ frames := 7, cells := 0, slots := 0, locals := 250 }) G [.ref (G.2.1 5), .int m, .int v] sc ia la (fL (-102) sc ia la) := by
  refine z_of (maxL := 3) (own := RX5) [(0, .ref (G.2.1 5)), (1, .int m), (2, .int v)] rfl (by decide +kernel) rfl (Nat.le_of_ble_eq_true rfl) rfl (fun Z C E => ?_)
  refine z_iload_n (pc' := 1) C dX5_power_0 rfl 1 rfl rfl ?_
  refine z_iload_n (pc' := 2) C dX5_power_1 rfl 2 rfl rfl ?_
  refine z_cS (n := 2) (pc' := 5) (As := [.int m, .int v]) (rest := []) C (c_X5_isGateB l G sc ia la m v false hg) gX5_power_X5_isGate rfl rfl rfl (by decide +kernel) (by decide) rfl rfl dX5_power_2 (Nat.le_of_ble_eq_true rfl) rfl (k_I ?_)
  show Z sc ia la [(0, .ref (G.2.1 5)), (1, .int m), (2, .int v)] 5 [.int 0]
  refine z_if_eq (pc' := 8) C 20 dX5_power_5 rfl rfl (fun h_5 => ?_) (fun h_5 => absurd h_5 (by decide))
  refine z_ldc2 (v := -102) (pc' := 23) C (by decide +kernel) dX5_power_20 rfl ?_
  exact z_lret (E := E) rfl dX5_power_23 ⟨(congrArg (fun z => some (Value.long z)) rfl), rfl, rfl, rfl⟩

set_option maxHeartbeats 4000000 in
set_option maxRecDepth 100000 in
theorem c_X5_power_ok (l : Launch) (G : Gv) (sc : Sc) (ia : Ia) (la : La) (n : Nat) (hn : sc 0 = nI n) (hN : n ≤ 32) (m v : Int32) (hg : s_gate m v = true)  : Ct l yX5_power wsX5_power ({ frames := 7, cells := 0, slots := 0, locals := 250 }) G [.ref (G.2.1 5), .int m, .int v] sc ia la (fL (s_sq ia m v n) sc ia la) := by
  have hU5 : ∀ w ∈ u_ws RX5 TX5 5, w ∈ wsX5_power := fun w h => List.mem_cons_of_mem _ (List.mem_append_left _ (List.mem_append_right _ h))
  refine z_of (maxL := 3) (own := RX5) [(0, .ref (G.2.1 5)), (1, .int m), (2, .int v)] rfl (by decide +kernel) rfl (Nat.le_of_ble_eq_true rfl) rfl (fun Z C E => ?_)
  refine z_iload_n (pc' := 1) C dX5_power_0 rfl 1 rfl rfl ?_
  refine z_iload_n (pc' := 2) C dX5_power_1 rfl 2 rfl rfl ?_
  refine z_cS (n := 2) (pc' := 5) (As := [.int m, .int v]) (rest := []) C (c_X5_isGateB l G sc ia la m v true hg) gX5_power_X5_isGate rfl rfl rfl (by decide +kernel) (by decide) rfl rfl dX5_power_2 (Nat.le_of_ble_eq_true rfl) rfl (k_I ?_)
  show Z sc ia la [(0, .ref (G.2.1 5)), (1, .int m), (2, .int v)] 5 [.int 1]
  refine z_if_eq (pc' := 8) C 20 dX5_power_5 rfl rfl (fun h_5 => absurd h_5 (by decide)) (fun h_5 => ?_)
  refine z_aload_n (pc' := 9) C dX5_power_8 rfl 0 rfl rfl ?_
  refine z_get (pc' := 12) C hU5 5 (by decide) q_o5 rfl 0 (by decide) (by decide +kernel) (v := .ref (G.2.1 2)) rfl dX5_power_9 rfl ?_
  refine z_iload_n (pc' := 13) C dX5_power_12 rfl 1 rfl rfl ?_
  refine z_iload_n (pc' := 14) C dX5_power_13 rfl 2 rfl rfl ?_
  refine z_cV (n := 2) (pc' := 17) (As := [.int m, .int v]) (rest := []) C 2 (c_X2_squaresThrough l G sc ia la n hn hN m v) gX5_power_X2_squaresThrough rfl rfl rfl rfl (by decide +kernel) (by decide) rfl (by decide) q_o2 rfl rfl dX5_power_14 (Nat.le_of_ble_eq_true rfl) rfl (k_L ?_)
  show Z sc ia la [(0, .ref (G.2.1 5)), (1, .int m), (2, .int v)] 17 [.long (s_sq ia m v n)]
  refine z_goto (pc' := 23) C dX5_power_17 rfl ?_
  exact z_lret (E := E) rfl dX5_power_23 ⟨(congrArg (fun z => some (Value.long z)) rfl), rfl, rfl, rfl⟩

set_option maxHeartbeats 4000000 in
set_option maxRecDepth 100000 in
theorem c_X5_back_ok (l : Launch) (G : Gv) (sc : Sc) (ia : Ia) (la : La) (n : Nat) (hn : sc 0 = nI n) (hN : n ≤ 32) (h1 : 1 ≤ n)  : Ct l yX5_back wsX5_back ({ frames := 7, cells := 0, slots := 0, locals := 250 }) G [.ref (G.2.1 5)] sc ia la (fI (bI (s_all (s_gb ia n) n)) sc (if s_all (s_gb ia n) n = true then s_tb ia n n else ia) la) := by
  have hU5 : ∀ w ∈ u_ws RX5 TX5 5, w ∈ wsX5_back := fun w h => List.mem_cons_of_mem _ (List.mem_append_left _ (List.mem_append_right _ h))
  refine z_of (maxL := 1) (own := RX5) [(0, .ref (G.2.1 5))] rfl (by decide +kernel) rfl (Nat.le_of_ble_eq_true rfl) rfl (fun Z C E => ?_)
  refine z_aload_n (pc' := 1) C dX5_back_0 rfl 0 rfl rfl ?_
  refine z_get (pc' := 4) C hU5 5 (by decide) q_o5 rfl 0 (by decide) (by decide +kernel) (v := .ref (G.2.1 2)) rfl dX5_back_1 rfl ?_
  refine z_cV (n := 0) (pc' := 7) (As := []) (rest := []) C 2 (c_X2_takeBack l G sc ia la n hn hN h1) gX5_back_X2_takeBack rfl rfl rfl rfl (by decide +kernel) (by decide) rfl (by decide) q_o2 rfl rfl dX5_back_4 (Nat.le_of_ble_eq_true rfl) rfl (k_I ?_)
  show Z sc (if s_all (s_gb ia n) n = true then s_tb ia n n else ia) la [(0, .ref (G.2.1 5))] 7 [.int (bI (s_all (s_gb ia n) n))]
  refine z_ifB_eq (pc' := 10) C 14 dX5_back_7 rfl rfl (fun h_7 => ?_) (fun h_7 => ?_)
  · refine z_iconst (v := 0) (pc' := 15) C dX5_back_14 rfl rfl ?_
    exact z_iret (E := E) rfl dX5_back_15 ⟨(congrArg (fun z => some (Value.int z)) (show _ = _ from (by first | rfl | (simp [bI, h_7])))), rfl, rfl, rfl⟩
  · refine z_iconst (v := 1) (pc' := 11) C dX5_back_10 rfl rfl ?_
    refine z_goto (pc' := 15) C dX5_back_11 rfl ?_
    exact z_iret (E := E) rfl dX5_back_15 ⟨(congrArg (fun z => some (Value.int z)) (show _ = _ from (by first | rfl | (simp [bI, h_7])))), rfl, rfl, rfl⟩

set_option maxHeartbeats 4000000 in
set_option maxRecDepth 100000 in
theorem c_X5_unprobe_ok (l : Launch) (G : Gv) (sc : Sc) (ia : Ia) (la : La) (n : Nat) (hn : sc 0 = nI n) (hN : n ≤ 32)  : Ct l yX5_unprobe wsX5_unprobe ({ frames := 7, cells := 0, slots := 0, locals := 250 }) G [.ref (G.2.1 5)] sc ia la (fI (bI (s_all (s_wp ia) n)) sc (if s_all (s_wp ia) n = true then va_up ia 3 (s_po ia n) else ia) la) := by
  have hU5 : ∀ w ∈ u_ws RX5 TX5 5, w ∈ wsX5_unprobe := fun w h => List.mem_cons_of_mem _ (List.mem_append_left _ (List.mem_append_right _ h))
  refine z_of (maxL := 1) (own := RX5) [(0, .ref (G.2.1 5))] rfl (by decide +kernel) rfl (Nat.le_of_ble_eq_true rfl) rfl (fun Z C E => ?_)
  refine z_aload_n (pc' := 1) C dX5_unprobe_0 rfl 0 rfl rfl ?_
  refine z_get (pc' := 4) C hU5 5 (by decide) q_o5 rfl 0 (by decide) (by decide +kernel) (v := .ref (G.2.1 2)) rfl dX5_unprobe_1 rfl ?_
  refine z_cV (n := 0) (pc' := 7) (As := []) (rest := []) C 2 (c_X2_takeProbeOff l G sc ia la n hn hN) gX5_unprobe_X2_takeProbeOff rfl rfl rfl rfl (by decide +kernel) (by decide) rfl (by decide) q_o2 rfl rfl dX5_unprobe_4 (Nat.le_of_ble_eq_true rfl) rfl (k_I ?_)
  show Z sc (if s_all (s_wp ia) n = true then va_up ia 3 (s_po ia n) else ia) la [(0, .ref (G.2.1 5))] 7 [.int (bI (s_all (s_wp ia) n))]
  refine z_ifB_eq (pc' := 10) C 14 dX5_unprobe_7 rfl rfl (fun h_7 => ?_) (fun h_7 => ?_)
  · refine z_iconst (v := 0) (pc' := 15) C dX5_unprobe_14 rfl rfl ?_
    exact z_iret (E := E) rfl dX5_unprobe_15 ⟨(congrArg (fun z => some (Value.int z)) (show _ = _ from (by first | rfl | (simp [bI, h_7])))), rfl, rfl, rfl⟩
  · refine z_iconst (v := 1) (pc' := 11) C dX5_unprobe_10 rfl rfl ?_
    refine z_goto (pc' := 15) C dX5_unprobe_11 rfl ?_
    exact z_iret (E := E) rfl dX5_unprobe_15 ⟨(congrArg (fun z => some (Value.int z)) (show _ = _ from (by first | rfl | (simp [bI, h_7])))), rfl, rfl, rfl⟩

set_option maxHeartbeats 4000000 in
set_option maxRecDepth 100000 in
theorem c_X5_lose_ok (l : Launch) (G : Gv) (sc : Sc) (ia : Ia) (la : La) (n : Nat) (hn : sc 0 = nI n) (hN : n ≤ 32) (j : Nat) (hj : j < n) (z : Bool)  : Ct l yX5_lose wsX5_lose ({ frames := 7, cells := 0, slots := 0, locals := 250 }) G [.ref (G.2.1 5), .int (nI j), .int (bI (z))] sc ia la (fI (if z = true ∧ ia 6 j = 0 ∧ ¬ s_ct (ia 6) 32 < 5 then -104 else if ia 6 j = 0 then 0 else 1) sc (if z = true ∧ ia 6 j = 0 ∧ ¬ s_ct (ia 6) 32 < 5 then ia else va_up ia 6 (upd (ia 6) j (bI z))) la) := by
  have hU2 : ∀ w ∈ u_ws RX2 TX2 9, w ∈ wsX5_lose := fun w h => List.mem_cons_of_mem _ (List.mem_append_right _ h)
  have hU5 : ∀ w ∈ u_ws RX5 TX5 5, w ∈ wsX5_lose := fun w h => List.mem_cons_of_mem _ (List.mem_append_left _ (List.mem_append_right _ h))
  refine z_of (maxL := 4) (own := RX5) [(0, .ref (G.2.1 5)), (1, .int (nI j)), (2, .int (bI (z)))] rfl (by decide +kernel) rfl (Nat.le_of_ble_eq_true rfl) rfl (fun Z C E => ?_)
  refine z_aload_n (pc' := 1) C dX5_lose_0 rfl 0 rfl rfl ?_
  refine z_get (pc' := 4) C hU5 5 (by decide) q_o5 rfl 0 (by decide) (by decide +kernel) (v := .ref (G.2.1 2)) rfl dX5_lose_1 rfl ?_
  refine z_iload_n (pc' := 5) C dX5_lose_4 rfl 1 rfl rfl ?_
  refine z_cV (n := 1) (pc' := 8) (As := [.int (nI j)]) (rest := []) C 2 (c_X2_has_ok l G sc ia la n hn hN j hj) gX5_lose_X2_has rfl rfl rfl rfl (by decide +kernel) (by decide) rfl (by decide) q_o2 rfl rfl dX5_lose_5 (Nat.le_of_ble_eq_true rfl) rfl (k_I ?_)
  show Z sc ia la [(0, .ref (G.2.1 5)), (1, .int (nI j)), (2, .int (bI (z)))] 8 [.int 1]
  refine z_if_ne (pc' := 11) C 14 dX5_lose_8 rfl rfl (fun h_8 => ?_) (fun h_8 => absurd h_8 (by decide))
  refine z_aload_n (pc' := 15) C dX5_lose_14 rfl 0 rfl rfl ?_
  refine z_get (pc' := 18) C hU5 5 (by decide) q_o5 rfl 0 (by decide) (by decide +kernel) (v := .ref (G.2.1 2)) rfl dX5_lose_15 rfl ?_
  refine z_get (pc' := 21) C hU2 2 (by decide) q_o2 rfl 7 (by decide) (by decide +kernel) (v := .ref (G.2.1 13)) rfl dX5_lose_18 rfl ?_
  refine z_iload_n (pc' := 22) C dX5_lose_21 rfl 1 rfl rfl ?_
  refine z_zald (pc' := 23) C 13 (by decide) (N := 32) (i := j) (f := ia 6) q_i6 (by omega) (by decide) dX5_lose_22 rfl ?_
  refine z_istore_n (lv' := [(3, .int ((ia 6) j)), (0, .ref (G.2.1 5)), (1, .int (nI j)), (2, .int (bI (z)))]) (pc' := 24) C dX5_lose_23 rfl (by decide) rfl rfl ?_
  refine z_iload_n (pc' := 25) C dX5_lose_24 rfl 3 rfl rfl ?_
  refine z_ifB_eq (pc' := 28) C 46 dX5_lose_25 rfl rfl (fun h_25 => ?_) (fun h_25 => ?_)
  · refine z_aload_n (pc' := 47) C dX5_lose_46 rfl 1 rfl rfl ?_
    refine z_get (pc' := 50) C hU5 5 (by decide) q_o5 rfl 0 (by decide) (by decide +kernel) (v := .ref (G.2.1 2)) rfl dX5_lose_47 rfl ?_
    refine z_get (pc' := 53) C hU2 2 (by decide) q_o2 rfl 7 (by decide) (by decide +kernel) (v := .ref (G.2.1 13)) rfl dX5_lose_50 rfl ?_
    refine z_iload_n (pc' := 54) C dX5_lose_53 rfl 2 rfl rfl ?_
    refine z_iload_n (pc' := 55) C dX5_lose_54 rfl 3 rfl rfl ?_
    refine z_zast (pc' := 56) C 13 (by decide) (N := 32) (i := j) (f := ia 6) (bI_vnar _) q_i6 (by omega) (by decide) (q_u6 _) dX5_lose_55 rfl ?_
    refine z_iload_n (pc' := 57) C dX5_lose_56 rfl 0 rfl rfl ?_
    refine z_if_eq (pc' := 60) C 64 dX5_lose_57 rfl rfl (fun h_57 => ?_) (fun h_57 => ?_)
    · refine z_iconst (v := 0) (pc' := 65) C dX5_lose_64 rfl rfl ?_
      exact z_iret (E := E) rfl dX5_lose_65 ⟨(congrArg (fun z => some (Value.int z)) (show _ = _ from (by first | rfl | (first | (exact absurd h_57 h_29) | (exact absurd h_29 h_57) | simp [h_25, h_57])))), rfl, (by first | rfl | (first | (exact absurd h_57 h_29) | (exact absurd h_29 h_57) | simp [h_25, h_57])), rfl⟩
    · refine z_iconst (v := 1) (pc' := 61) C dX5_lose_60 rfl rfl ?_
      refine z_goto (pc' := 65) C dX5_lose_61 rfl ?_
      exact z_iret (E := E) rfl dX5_lose_65 ⟨(congrArg (fun z => some (Value.int z)) (show _ = _ from (by first | rfl | (first | (exact absurd h_57 h_29) | (exact absurd h_29 h_57) | simp [h_25, h_57])))), rfl, (by first | rfl | (first | (exact absurd h_57 h_29) | (exact absurd h_29 h_57) | simp [h_25, h_57])), rfl⟩
  · refine z_iload_n (pc' := 29) C dX5_lose_28 rfl 0 rfl rfl ?_
    refine z_if_ne (pc' := 32) C 46 dX5_lose_29 rfl rfl (fun h_29 => ?_) (fun h_29 => ?_)
    · refine z_aload_n (pc' := 47) C dX5_lose_46 rfl 1 rfl rfl ?_
      refine z_get (pc' := 50) C hU5 5 (by decide) q_o5 rfl 0 (by decide) (by decide +kernel) (v := .ref (G.2.1 2)) rfl dX5_lose_47 rfl ?_
      refine z_get (pc' := 53) C hU2 2 (by decide) q_o2 rfl 7 (by decide) (by decide +kernel) (v := .ref (G.2.1 13)) rfl dX5_lose_50 rfl ?_
      refine z_iload_n (pc' := 54) C dX5_lose_53 rfl 2 rfl rfl ?_
      refine z_iload_n (pc' := 55) C dX5_lose_54 rfl 3 rfl rfl ?_
      refine z_zast (pc' := 56) C 13 (by decide) (N := 32) (i := j) (f := ia 6) (bI_vnar _) q_i6 (by omega) (by decide) (q_u6 _) dX5_lose_55 rfl ?_
      refine z_iload_n (pc' := 57) C dX5_lose_56 rfl 0 rfl rfl ?_
      refine z_if_eq (pc' := 60) C 64 dX5_lose_57 rfl rfl (fun h_57 => ?_) (fun h_57 => ?_)
      · refine z_iconst (v := 0) (pc' := 65) C dX5_lose_64 rfl rfl ?_
        exact z_iret (E := E) rfl dX5_lose_65 ⟨(congrArg (fun z => some (Value.int z)) (show _ = _ from (by first | rfl | (first | (exact absurd h_57 h_29) | (exact absurd h_29 h_57) | simp [h_25, h_29, h_57])))), rfl, (by first | rfl | (first | (exact absurd h_57 h_29) | (exact absurd h_29 h_57) | simp [h_25, h_29, h_57])), rfl⟩
      · refine z_iconst (v := 1) (pc' := 61) C dX5_lose_60 rfl rfl ?_
        refine z_goto (pc' := 65) C dX5_lose_61 rfl ?_
        exact z_iret (E := E) rfl dX5_lose_65 ⟨(congrArg (fun z => some (Value.int z)) (show _ = _ from (by first | rfl | (first | (exact absurd h_57 h_29) | (exact absurd h_29 h_57) | simp [h_25, h_29, h_57])))), rfl, (by first | rfl | (first | (exact absurd h_57 h_29) | (exact absurd h_29 h_57) | simp [h_25, h_29, h_57])), rfl⟩
    · refine z_aload_n (pc' := 33) C dX5_lose_32 rfl 1 rfl rfl ?_
      refine z_get (pc' := 36) C hU5 5 (by decide) q_o5 rfl 0 (by decide) (by decide +kernel) (v := .ref (G.2.1 2)) rfl dX5_lose_33 rfl ?_
      refine z_cV (n := 0) (pc' := 39) (As := []) (rest := []) C 2 (c_X2_countLost l G sc ia la) gX5_lose_X2_countLost rfl rfl rfl rfl (by decide +kernel) (by decide) rfl (by decide) q_o2 rfl rfl dX5_lose_36 (Nat.le_of_ble_eq_true rfl) rfl (k_I ?_)
      show Z sc ia la [(3, .int ((ia 6) j)), (0, .ref (G.2.1 5)), (1, .int (nI j)), (2, .int (bI (z)))] 39 [.int (s_ct (ia 6) 32)]
      refine z_iconst (v := 5) (pc' := 40) C dX5_lose_39 rfl rfl ?_
      refine z_icmp_lt (pc' := 43) C 46 dX5_lose_40 rfl rfl (fun h_40 => ?_) (fun h_40 => ?_)
      · refine z_aload_n (pc' := 47) C dX5_lose_46 rfl 1 rfl rfl ?_
        refine z_get (pc' := 50) C hU5 5 (by decide) q_o5 rfl 0 (by decide) (by decide +kernel) (v := .ref (G.2.1 2)) rfl dX5_lose_47 rfl ?_
        refine z_get (pc' := 53) C hU2 2 (by decide) q_o2 rfl 7 (by decide) (by decide +kernel) (v := .ref (G.2.1 13)) rfl dX5_lose_50 rfl ?_
        refine z_iload_n (pc' := 54) C dX5_lose_53 rfl 2 rfl rfl ?_
        refine z_iload_n (pc' := 55) C dX5_lose_54 rfl 3 rfl rfl ?_
        refine z_zast (pc' := 56) C 13 (by decide) (N := 32) (i := j) (f := ia 6) (bI_vnar _) q_i6 (by omega) (by decide) (q_u6 _) dX5_lose_55 rfl ?_
        refine z_iload_n (pc' := 57) C dX5_lose_56 rfl 0 rfl rfl ?_
        refine z_if_eq (pc' := 60) C 64 dX5_lose_57 rfl rfl (fun h_57 => ?_) (fun h_57 => ?_)
        · refine z_iconst (v := 0) (pc' := 65) C dX5_lose_64 rfl rfl ?_
          exact z_iret (E := E) rfl dX5_lose_65 ⟨(congrArg (fun z => some (Value.int z)) (show _ = _ from (by first | rfl | (first | (exact absurd h_57 h_29) | (exact absurd h_29 h_57) | simp [h_25, h_29, h_40, h_57])))), rfl, (by first | rfl | (first | (exact absurd h_57 h_29) | (exact absurd h_29 h_57) | simp [h_25, h_29, h_40, h_57])), rfl⟩
        · refine z_iconst (v := 1) (pc' := 61) C dX5_lose_60 rfl rfl ?_
          refine z_goto (pc' := 65) C dX5_lose_61 rfl ?_
          exact z_iret (E := E) rfl dX5_lose_65 ⟨(congrArg (fun z => some (Value.int z)) (show _ = _ from (by first | rfl | (first | (exact absurd h_57 h_29) | (exact absurd h_29 h_57) | simp [h_25, h_29, h_40, h_57])))), rfl, (by first | rfl | (first | (exact absurd h_57 h_29) | (exact absurd h_29 h_57) | simp [h_25, h_29, h_40, h_57])), rfl⟩
      · refine z_bipush (v := -104) (pc' := 45) C dX5_lose_43 rfl rfl ?_
        exact z_iret (E := E) rfl dX5_lose_45 ⟨(congrArg (fun z => some (Value.int z)) (show _ = _ from (by first | rfl | (first | (exact absurd h_57 h_29) | (exact absurd h_29 h_57) | simp [h_25, h_29, h_40])))), rfl, (by first | rfl | (first | (exact absurd h_57 h_29) | (exact absurd h_29 h_57) | simp [h_25, h_29, h_40])), rfl⟩

set_option maxHeartbeats 4000000 in
set_option maxRecDepth 100000 in
theorem c_X5_measure_out (l : Launch) (G : Gv) (sc : Sc) (ia : Ia) (la : La) (n : Nat) (hn : sc 0 = nI n) (hN : n ≤ 32) (j : Nat) (hj : j < n) (v : Int32) (z : Bool) (ho : s_out v (-1000000) 1000000 = true)  : Ct l yX5_measure wsX5_measure ({ frames := 7, cells := 0, slots := 0, locals := 250 }) G [.ref (G.2.1 5), .int (nI j), .int v, .int (bI (z))] sc ia la (fI (-102) sc ia la) := by
  have hU5 : ∀ w ∈ u_ws RX5 TX5 5, w ∈ wsX5_measure := fun w h => List.mem_cons_of_mem _ (List.mem_append_left _ (List.mem_append_right _ h))
  refine z_of (maxL := 5) (own := RX5) [(0, .ref (G.2.1 5)), (1, .int (nI j)), (2, .int v), (3, .int (bI (z)))] rfl (by decide +kernel) rfl (Nat.le_of_ble_eq_true rfl) rfl (fun Z C E => ?_)
  refine z_aload_n (pc' := 1) C dX5_measure_0 rfl 0 rfl rfl ?_
  refine z_get (pc' := 4) C hU5 5 (by decide) q_o5 rfl 0 (by decide) (by decide +kernel) (v := .ref (G.2.1 2)) rfl dX5_measure_1 rfl ?_
  refine z_iload_n (pc' := 5) C dX5_measure_4 rfl 1 rfl rfl ?_
  refine z_cV (n := 1) (pc' := 8) (As := [.int (nI j)]) (rest := []) C 2 (c_X2_has_ok l G sc ia la n hn hN j hj) gX5_measure_X2_has rfl rfl rfl rfl (by decide +kernel) (by decide) rfl (by decide) q_o2 rfl rfl dX5_measure_5 (Nat.le_of_ble_eq_true rfl) rfl (k_I ?_)
  show Z sc ia la [(0, .ref (G.2.1 5)), (1, .int (nI j)), (2, .int v), (3, .int (bI (z)))] 8 [.int 1]
  refine z_if_ne (pc' := 11) C 14 dX5_measure_8 rfl rfl (fun h_8 => ?_) (fun h_8 => absurd h_8 (by decide))
  refine z_iload_n (pc' := 15) C dX5_measure_14 rfl 2 rfl rfl ?_
  refine z_ldc (v := -1000000) (pc' := 17) C (by decide +kernel) dX5_measure_15 rfl ?_
  refine z_ldc (v := 1000000) (pc' := 19) C (by decide +kernel) dX5_measure_17 rfl ?_
  refine z_cS (n := 3) (pc' := 22) (As := [.int v, .int (-1000000), .int 1000000]) (rest := []) C (c_X5_isOutsideB l G sc ia la v (-1000000) 1000000 true ho) gX5_measure_X5_isOutside rfl rfl rfl (by decide +kernel) (by decide) rfl rfl dX5_measure_19 (Nat.le_of_ble_eq_true rfl) rfl (k_I ?_)
  show Z sc ia la [(0, .ref (G.2.1 5)), (1, .int (nI j)), (2, .int v), (3, .int (bI (z)))] 22 [.int 1]
  refine z_if_eq (pc' := 25) C 28 dX5_measure_22 rfl rfl (fun h_22 => absurd h_22 (by decide)) (fun h_22 => ?_)
  refine z_bipush (v := -102) (pc' := 27) C dX5_measure_25 rfl rfl ?_
  exact z_iret (E := E) rfl dX5_measure_27 ⟨(congrArg (fun z => some (Value.int z)) rfl), rfl, rfl, rfl⟩

set_option maxHeartbeats 4000000 in
set_option maxRecDepth 100000 in
theorem c_X5_measure_ok (l : Launch) (G : Gv) (sc : Sc) (ia : Ia) (la : La) (n : Nat) (hn : sc 0 = nI n) (hN : n ≤ 32) (j : Nat) (hj : j < n) (v : Int32) (z : Bool) (ho : s_out v (-1000000) 1000000 = false)  : Ct l yX5_measure wsX5_measure ({ frames := 7, cells := 0, slots := 0, locals := 250 }) G [.ref (G.2.1 5), .int (nI j), .int v, .int (bI (z))] sc ia la (fI (if ia 7 j = 0 then 0 else 1) sc (va_up (va_up ia 7 (upd (ia 7) j (bI z))) 4 (upd (ia 4) j (if z = true then v else 0))) la) := by
  have hU2 : ∀ w ∈ u_ws RX2 TX2 9, w ∈ wsX5_measure := fun w h => List.mem_cons_of_mem _ (List.mem_append_right _ h)
  have hU5 : ∀ w ∈ u_ws RX5 TX5 5, w ∈ wsX5_measure := fun w h => List.mem_cons_of_mem _ (List.mem_append_left _ (List.mem_append_right _ h))
  refine z_of (maxL := 5) (own := RX5) [(0, .ref (G.2.1 5)), (1, .int (nI j)), (2, .int v), (3, .int (bI (z)))] rfl (by decide +kernel) rfl (Nat.le_of_ble_eq_true rfl) rfl (fun Z C E => ?_)
  refine z_aload_n (pc' := 1) C dX5_measure_0 rfl 0 rfl rfl ?_
  refine z_get (pc' := 4) C hU5 5 (by decide) q_o5 rfl 0 (by decide) (by decide +kernel) (v := .ref (G.2.1 2)) rfl dX5_measure_1 rfl ?_
  refine z_iload_n (pc' := 5) C dX5_measure_4 rfl 1 rfl rfl ?_
  refine z_cV (n := 1) (pc' := 8) (As := [.int (nI j)]) (rest := []) C 2 (c_X2_has_ok l G sc ia la n hn hN j hj) gX5_measure_X2_has rfl rfl rfl rfl (by decide +kernel) (by decide) rfl (by decide) q_o2 rfl rfl dX5_measure_5 (Nat.le_of_ble_eq_true rfl) rfl (k_I ?_)
  show Z sc ia la [(0, .ref (G.2.1 5)), (1, .int (nI j)), (2, .int v), (3, .int (bI (z)))] 8 [.int 1]
  refine z_if_ne (pc' := 11) C 14 dX5_measure_8 rfl rfl (fun h_8 => ?_) (fun h_8 => absurd h_8 (by decide))
  refine z_iload_n (pc' := 15) C dX5_measure_14 rfl 2 rfl rfl ?_
  refine z_ldc (v := -1000000) (pc' := 17) C (by decide +kernel) dX5_measure_15 rfl ?_
  refine z_ldc (v := 1000000) (pc' := 19) C (by decide +kernel) dX5_measure_17 rfl ?_
  refine z_cS (n := 3) (pc' := 22) (As := [.int v, .int (-1000000), .int 1000000]) (rest := []) C (c_X5_isOutsideB l G sc ia la v (-1000000) 1000000 false ho) gX5_measure_X5_isOutside rfl rfl rfl (by decide +kernel) (by decide) rfl rfl dX5_measure_19 (Nat.le_of_ble_eq_true rfl) rfl (k_I ?_)
  show Z sc ia la [(0, .ref (G.2.1 5)), (1, .int (nI j)), (2, .int v), (3, .int (bI (z)))] 22 [.int 0]
  refine z_if_eq (pc' := 25) C 28 dX5_measure_22 rfl rfl (fun h_22 => ?_) (fun h_22 => absurd h_22 (by decide))
  refine z_aload_n (pc' := 29) C dX5_measure_28 rfl 0 rfl rfl ?_
  refine z_get (pc' := 32) C hU5 5 (by decide) q_o5 rfl 0 (by decide) (by decide +kernel) (v := .ref (G.2.1 2)) rfl dX5_measure_29 rfl ?_
  refine z_get (pc' := 35) C hU2 2 (by decide) q_o2 rfl 8 (by decide) (by decide +kernel) (v := .ref (G.2.1 14)) rfl dX5_measure_32 rfl ?_
  refine z_iload_n (pc' := 36) C dX5_measure_35 rfl 1 rfl rfl ?_
  refine z_zald (pc' := 37) C 14 (by decide) (N := 32) (i := j) (f := ia 7) q_i7 (by omega) (by decide) dX5_measure_36 rfl ?_
  refine z_istore (lv' := [(4, .int ((ia 7) j)), (0, .ref (G.2.1 5)), (1, .int (nI j)), (2, .int v), (3, .int (bI (z)))]) (pc' := 39) C dX5_measure_37 (by decide) rfl rfl ?_
  refine z_aload_n (pc' := 40) C dX5_measure_39 rfl 1 rfl rfl ?_
  refine z_get (pc' := 43) C hU5 5 (by decide) q_o5 rfl 0 (by decide) (by decide +kernel) (v := .ref (G.2.1 2)) rfl dX5_measure_40 rfl ?_
  refine z_get (pc' := 46) C hU2 2 (by decide) q_o2 rfl 8 (by decide) (by decide +kernel) (v := .ref (G.2.1 14)) rfl dX5_measure_43 rfl ?_
  refine z_iload_n (pc' := 47) C dX5_measure_46 rfl 2 rfl rfl ?_
  refine z_iload_n (pc' := 48) C dX5_measure_47 rfl 4 rfl rfl ?_
  refine z_zast (pc' := 49) C 14 (by decide) (N := 32) (i := j) (f := ia 7) (bI_vnar _) q_i7 (by omega) (by decide) (q_u7 _) dX5_measure_48 rfl ?_
  refine z_aload_n (pc' := 50) C dX5_measure_49 rfl 1 rfl rfl ?_
  refine z_get (pc' := 53) C hU5 5 (by decide) q_o5 rfl 0 (by decide) (by decide +kernel) (v := .ref (G.2.1 2)) rfl dX5_measure_50 rfl ?_
  refine z_get (pc' := 56) C hU2 2 (by decide) q_o2 rfl 5 (by decide) (by decide +kernel) (v := .ref (G.2.1 11)) rfl dX5_measure_53 rfl ?_
  refine z_iload_n (pc' := 57) C dX5_measure_56 rfl 2 rfl rfl ?_
  refine z_iload_n (pc' := 58) C dX5_measure_57 rfl 4 rfl rfl ?_
  have J66 : Z sc (va_up ia 7 (upd (ia 7) j (bI (z)))) la [(4, .int ((ia 7) j)), (0, .ref (G.2.1 5)), (1, .int (nI j)), (2, .int v), (3, .int (bI (z)))] 66 [.int (if z = true then v else 0), .int (nI j), .ref (G.2.1 11)] := by
    refine z_iast (pc' := 67) C 11 (by decide) (N := 32) (i := j) (f := ia 4) q_i4 (by omega) (by decide) (q_u4 _) dX5_measure_66 rfl ?_
    refine z_iload (pc' := 69) C dX5_measure_67 0 rfl rfl ?_
    refine z_if_eq (pc' := 72) C 76 dX5_measure_69 rfl rfl (fun h_69 => ?_) (fun h_69 => ?_)
    · refine z_iconst (v := 0) (pc' := 77) C dX5_measure_76 rfl rfl ?_
      exact z_iret (E := E) rfl dX5_measure_77 ⟨(congrArg (fun z => some (Value.int z)) (show _ = _ from (by first | rfl | (simp [h_69])))), rfl, rfl, rfl⟩
    · refine z_iconst (v := 1) (pc' := 73) C dX5_measure_72 rfl rfl ?_
      refine z_goto (pc' := 77) C dX5_measure_73 rfl ?_
      exact z_iret (E := E) rfl dX5_measure_77 ⟨(congrArg (fun z => some (Value.int z)) (show _ = _ from (by first | rfl | (simp [h_69])))), rfl, rfl, rfl⟩
  refine z_ifB_eq (pc' := 61) C 65 dX5_measure_58 rfl rfl (fun h_58 => ?_) (fun h_58 => ?_)
  · refine z_iconst (v := 0) (pc' := 66) C dX5_measure_65 rfl rfl ?_
    exact z_cast rfl rfl rfl rfl (by first | rfl | (simp [bI, h_58])) J66
  · refine z_iload_n (pc' := 62) C dX5_measure_61 rfl 3 rfl rfl ?_
    refine z_goto (pc' := 66) C dX5_measure_62 rfl ?_
    exact z_cast rfl rfl rfl rfl (by first | rfl | (simp [bI, h_58])) J66

set_option maxHeartbeats 4000000 in
set_option maxRecDepth 100000 in
theorem c_X5_mends_out (l : Launch) (G : Gv) (sc : Sc) (ia : Ia) (la : La) (m v : Int32) (hg : s_gate m v = false)  : Ct l yX5_mends wsX5_mends ({ frames := 7, cells := 0, slots := 0, locals := 250 }) G [.ref (G.2.1 5), .int m, .int v] sc ia la (fI (-102) sc ia la) := by
  refine z_of (maxL := 3) (own := RX5) [(0, .ref (G.2.1 5)), (1, .int m), (2, .int v)] rfl (by decide +kernel) rfl (Nat.le_of_ble_eq_true rfl) rfl (fun Z C E => ?_)
  refine z_iload_n (pc' := 1) C dX5_mends_0 rfl 1 rfl rfl ?_
  refine z_iload_n (pc' := 2) C dX5_mends_1 rfl 2 rfl rfl ?_
  refine z_cS (n := 2) (pc' := 5) (As := [.int m, .int v]) (rest := []) C (c_X5_isGateB l G sc ia la m v false hg) gX5_mends_X5_isGate rfl rfl rfl (by decide +kernel) (by decide) rfl rfl dX5_mends_2 (Nat.le_of_ble_eq_true rfl) rfl (k_I ?_)
  show Z sc ia la [(0, .ref (G.2.1 5)), (1, .int m), (2, .int v)] 5 [.int 0]
  refine z_if_eq (pc' := 8) C 24 dX5_mends_5 rfl rfl (fun h_5 => ?_) (fun h_5 => absurd h_5 (by decide))
  refine z_bipush (v := -102) (pc' := 26) C dX5_mends_24 rfl rfl ?_
  exact z_iret (E := E) rfl dX5_mends_26 ⟨(congrArg (fun z => some (Value.int z)) rfl), rfl, rfl, rfl⟩

set_option maxHeartbeats 4000000 in
set_option maxRecDepth 100000 in
theorem c_X5_mends_ok (l : Launch) (G : Gv) (sc : Sc) (ia : Ia) (la : La) (n : Nat) (hn : sc 0 = nI n) (hN : n ≤ 32) (w : Nat) (hwe : s_cn (s_lo ia) n = w) (hW : w ≤ 5) (u : Nat → Nat) (hue : ∀ c, c < w → s_ul ia n c = nI (u c) ∧ u c < 32) (m v : Int32) (h : Nat) (hhe : s_cn (s_np m v) n = h) (LA : La) (hLA : s_wes la (va_up ia 8 (s_ul ia n)) u w m v n = LA) (x : Nat × Int64 × La) (hx : s_rd LA w h w = x) (hg : s_gate m v = true)  : Ct l yX5_mends wsX5_mends ({ frames := 7, cells := 0, slots := 0, locals := 250 }) G [.ref (G.2.1 5), .int m, .int v] sc ia la (fI (s_vd x w h) (va_up (va_up sc 1 (nI w)) 2 (nI h)) (va_up ia 8 (s_ul ia n)) x.2.2) := by
  have hU5 : ∀ w ∈ u_ws RX5 TX5 5, w ∈ wsX5_mends := fun w h => List.mem_cons_of_mem _ (List.mem_append_left _ (List.mem_append_left _ (List.mem_append_right _ h)))
  refine z_of (maxL := 3) (own := RX5) [(0, .ref (G.2.1 5)), (1, .int m), (2, .int v)] rfl (by decide +kernel) rfl (Nat.le_of_ble_eq_true rfl) rfl (fun Z C E => ?_)
  refine z_iload_n (pc' := 1) C dX5_mends_0 rfl 1 rfl rfl ?_
  refine z_iload_n (pc' := 2) C dX5_mends_1 rfl 2 rfl rfl ?_
  refine z_cS (n := 2) (pc' := 5) (As := [.int m, .int v]) (rest := []) C (c_X5_isGateB l G sc ia la m v true hg) gX5_mends_X5_isGate rfl rfl rfl (by decide +kernel) (by decide) rfl rfl dX5_mends_2 (Nat.le_of_ble_eq_true rfl) rfl (k_I ?_)
  show Z sc ia la [(0, .ref (G.2.1 5)), (1, .int m), (2, .int v)] 5 [.int 1]
  refine z_if_eq (pc' := 8) C 24 dX5_mends_5 rfl rfl (fun h_5 => absurd h_5 (by decide)) (fun h_5 => ?_)
  refine z_aload_n (pc' := 9) C dX5_mends_8 rfl 0 rfl rfl ?_
  refine z_get (pc' := 12) C hU5 5 (by decide) q_o5 rfl 1 (by decide) (by decide +kernel) (v := .ref (G.2.1 1)) rfl dX5_mends_9 rfl ?_
  refine z_aload_n (pc' := 13) C dX5_mends_12 rfl 0 rfl rfl ?_
  refine z_get (pc' := 16) C hU5 5 (by decide) q_o5 rfl 0 (by decide) (by decide +kernel) (v := .ref (G.2.1 2)) rfl dX5_mends_13 rfl ?_
  refine z_iload_n (pc' := 17) C dX5_mends_16 rfl 1 rfl rfl ?_
  refine z_iload_n (pc' := 18) C dX5_mends_17 rfl 2 rfl rfl ?_
  refine z_cV (n := 3) (pc' := 21) (As := [.ref (G.2.1 2), .int m, .int v]) (rest := []) C 1 (c_X1_solve l G sc ia la n hn hN w hwe hW u hue m v h hhe LA hLA x hx) gX5_mends_X1_solve rfl rfl rfl rfl (by decide +kernel) (by decide) rfl (by decide) q_o1 rfl rfl dX5_mends_18 (Nat.le_of_ble_eq_true rfl) rfl (k_I ?_)
  show Z (va_up (va_up sc 1 (nI w)) 2 (nI h)) (va_up ia 8 (s_ul ia n)) x.2.2 [(0, .ref (G.2.1 5)), (1, .int m), (2, .int v)] 21 [.int (s_vd x w h)]
  refine z_goto (pc' := 26) C dX5_mends_21 rfl ?_
  exact z_iret (E := E) rfl dX5_mends_26 ⟨(congrArg (fun z => some (Value.int z)) rfl), rfl, rfl, rfl⟩

set_option maxHeartbeats 4000000 in
set_option maxRecDepth 100000 in
theorem c_X5_mend_no (l : Launch) (G : Gv) (sc : Sc) (ia : Ia) (la : La) (i : Int32) (hno : s_has i (sc 0) = false) (m v part : Int32)  : Ct l yX5_mend wsX5_mend ({ frames := 7, cells := 0, slots := 0, locals := 250 }) G [.ref (G.2.1 5), .int i, .int m, .int v, .int part] sc ia la (fL (-9000000000000000001) sc ia la) := by
  have hU5 : ∀ w ∈ u_ws RX5 TX5 5, w ∈ wsX5_mend := fun w h => List.mem_cons_of_mem _ (List.mem_append_left _ (List.mem_append_left _ (List.mem_append_right _ h)))
  refine z_of (maxL := 5) (own := RX5) [(0, .ref (G.2.1 5)), (1, .int i), (2, .int m), (3, .int v), (4, .int part)] rfl (by decide +kernel) rfl (Nat.le_of_ble_eq_true rfl) rfl (fun Z C E => ?_)
  refine z_aload_n (pc' := 1) C dX5_mend_0 rfl 0 rfl rfl ?_
  refine z_get (pc' := 4) C hU5 5 (by decide) q_o5 rfl 0 (by decide) (by decide +kernel) (v := .ref (G.2.1 2)) rfl dX5_mend_1 rfl ?_
  refine z_iload_n (pc' := 5) C dX5_mend_4 rfl 1 rfl rfl ?_
  refine z_cV (n := 1) (pc' := 8) (As := [.int i]) (rest := []) C 2 (c_X2_has_no l G sc ia la i hno) gX5_mend_X2_has rfl rfl rfl rfl (by decide +kernel) (by decide) rfl (by decide) q_o2 rfl rfl dX5_mend_5 (Nat.le_of_ble_eq_true rfl) rfl (k_I ?_)
  show Z sc ia la [(0, .ref (G.2.1 5)), (1, .int i), (2, .int m), (3, .int v), (4, .int part)] 8 [.int 0]
  refine z_if_eq (pc' := 11) C 23 dX5_mend_8 rfl rfl (fun h_8 => ?_) (fun h_8 => absurd h_8 (by decide))
  refine z_ldc2 (v := -9000000000000000001) (pc' := 26) C (by decide +kernel) dX5_mend_23 rfl ?_
  exact z_lret (E := E) rfl dX5_mend_26 ⟨(congrArg (fun z => some (Value.long z)) rfl), rfl, rfl, rfl⟩

set_option maxHeartbeats 4000000 in
set_option maxRecDepth 100000 in
theorem c_X5_mend_unl (l : Launch) (G : Gv) (sc : Sc) (ia : Ia) (la : La) (n : Nat) (hn : sc 0 = nI n) (hN : n ≤ 32) (j : Nat) (hj : j < n) (h0 : ia 6 j = 0) (m v part : Int32)  : Ct l yX5_mend wsX5_mend ({ frames := 7, cells := 0, slots := 0, locals := 250 }) G [.ref (G.2.1 5), .int (nI j), .int m, .int v, .int part] sc ia la (fL (-9000000000000000001) sc ia la) := by
  have hU2 : ∀ w ∈ u_ws RX2 TX2 9, w ∈ wsX5_mend := fun w h => List.mem_cons_of_mem _ (List.mem_append_left _ (List.mem_append_right _ h))
  have hU5 : ∀ w ∈ u_ws RX5 TX5 5, w ∈ wsX5_mend := fun w h => List.mem_cons_of_mem _ (List.mem_append_left _ (List.mem_append_left _ (List.mem_append_right _ h)))
  refine z_of (maxL := 5) (own := RX5) [(0, .ref (G.2.1 5)), (1, .int (nI j)), (2, .int m), (3, .int v), (4, .int part)] rfl (by decide +kernel) rfl (Nat.le_of_ble_eq_true rfl) rfl (fun Z C E => ?_)
  refine z_aload_n (pc' := 1) C dX5_mend_0 rfl 0 rfl rfl ?_
  refine z_get (pc' := 4) C hU5 5 (by decide) q_o5 rfl 0 (by decide) (by decide +kernel) (v := .ref (G.2.1 2)) rfl dX5_mend_1 rfl ?_
  refine z_iload_n (pc' := 5) C dX5_mend_4 rfl 1 rfl rfl ?_
  refine z_cV (n := 1) (pc' := 8) (As := [.int (nI j)]) (rest := []) C 2 (c_X2_has_ok l G sc ia la n hn hN j hj) gX5_mend_X2_has rfl rfl rfl rfl (by decide +kernel) (by decide) rfl (by decide) q_o2 rfl rfl dX5_mend_5 (Nat.le_of_ble_eq_true rfl) rfl (k_I ?_)
  show Z sc ia la [(0, .ref (G.2.1 5)), (1, .int (nI j)), (2, .int m), (3, .int v), (4, .int part)] 8 [.int 1]
  refine z_if_eq (pc' := 11) C 23 dX5_mend_8 rfl rfl (fun h_8 => absurd h_8 (by decide)) (fun h_8 => ?_)
  refine z_aload_n (pc' := 12) C dX5_mend_11 rfl 0 rfl rfl ?_
  refine z_get (pc' := 15) C hU5 5 (by decide) q_o5 rfl 0 (by decide) (by decide +kernel) (v := .ref (G.2.1 2)) rfl dX5_mend_12 rfl ?_
  refine z_get (pc' := 18) C hU2 2 (by decide) q_o2 rfl 7 (by decide) (by decide +kernel) (v := .ref (G.2.1 13)) rfl dX5_mend_15 rfl ?_
  refine z_iload_n (pc' := 19) C dX5_mend_18 rfl 1 rfl rfl ?_
  refine z_zald (pc' := 20) C 13 (by decide) (N := 32) (i := j) (f := ia 6) q_i6 (by omega) (by decide) dX5_mend_19 rfl ?_
  refine z_if_ne (pc' := 23) C 27 dX5_mend_20 rfl rfl (fun h_20 => absurd h_20 (by exact fun q => q h0)) (fun h_20 => ?_)
  refine z_ldc2 (v := -9000000000000000001) (pc' := 26) C (by decide +kernel) dX5_mend_23 rfl ?_
  exact z_lret (E := E) rfl dX5_mend_26 ⟨(congrArg (fun z => some (Value.long z)) rfl), rfl, rfl, rfl⟩

set_option maxHeartbeats 4000000 in
set_option maxRecDepth 100000 in
theorem c_X5_mend_gate (l : Launch) (G : Gv) (sc : Sc) (ia : Ia) (la : La) (n : Nat) (hn : sc 0 = nI n) (hN : n ≤ 32) (j : Nat) (hj : j < n) (h0 : ¬ ia 6 j = 0) (m v part : Int32) (hg : s_gate m v = false)  : Ct l yX5_mend wsX5_mend ({ frames := 7, cells := 0, slots := 0, locals := 250 }) G [.ref (G.2.1 5), .int (nI j), .int m, .int v, .int part] sc ia la (fL (-9000000000000000002) sc ia la) := by
  have hU2 : ∀ w ∈ u_ws RX2 TX2 9, w ∈ wsX5_mend := fun w h => List.mem_cons_of_mem _ (List.mem_append_left _ (List.mem_append_right _ h))
  have hU5 : ∀ w ∈ u_ws RX5 TX5 5, w ∈ wsX5_mend := fun w h => List.mem_cons_of_mem _ (List.mem_append_left _ (List.mem_append_left _ (List.mem_append_right _ h)))
  refine z_of (maxL := 5) (own := RX5) [(0, .ref (G.2.1 5)), (1, .int (nI j)), (2, .int m), (3, .int v), (4, .int part)] rfl (by decide +kernel) rfl (Nat.le_of_ble_eq_true rfl) rfl (fun Z C E => ?_)
  refine z_aload_n (pc' := 1) C dX5_mend_0 rfl 0 rfl rfl ?_
  refine z_get (pc' := 4) C hU5 5 (by decide) q_o5 rfl 0 (by decide) (by decide +kernel) (v := .ref (G.2.1 2)) rfl dX5_mend_1 rfl ?_
  refine z_iload_n (pc' := 5) C dX5_mend_4 rfl 1 rfl rfl ?_
  refine z_cV (n := 1) (pc' := 8) (As := [.int (nI j)]) (rest := []) C 2 (c_X2_has_ok l G sc ia la n hn hN j hj) gX5_mend_X2_has rfl rfl rfl rfl (by decide +kernel) (by decide) rfl (by decide) q_o2 rfl rfl dX5_mend_5 (Nat.le_of_ble_eq_true rfl) rfl (k_I ?_)
  show Z sc ia la [(0, .ref (G.2.1 5)), (1, .int (nI j)), (2, .int m), (3, .int v), (4, .int part)] 8 [.int 1]
  refine z_if_eq (pc' := 11) C 23 dX5_mend_8 rfl rfl (fun h_8 => absurd h_8 (by decide)) (fun h_8 => ?_)
  refine z_aload_n (pc' := 12) C dX5_mend_11 rfl 0 rfl rfl ?_
  refine z_get (pc' := 15) C hU5 5 (by decide) q_o5 rfl 0 (by decide) (by decide +kernel) (v := .ref (G.2.1 2)) rfl dX5_mend_12 rfl ?_
  refine z_get (pc' := 18) C hU2 2 (by decide) q_o2 rfl 7 (by decide) (by decide +kernel) (v := .ref (G.2.1 13)) rfl dX5_mend_15 rfl ?_
  refine z_iload_n (pc' := 19) C dX5_mend_18 rfl 1 rfl rfl ?_
  refine z_zald (pc' := 20) C 13 (by decide) (N := 32) (i := j) (f := ia 6) q_i6 (by omega) (by decide) dX5_mend_19 rfl ?_
  refine z_if_ne (pc' := 23) C 27 dX5_mend_20 rfl rfl (fun h_20 => ?_) (fun h_20 => absurd h_20 (by exact h0))
  refine z_iload_n (pc' := 28) C dX5_mend_27 rfl 2 rfl rfl ?_
  refine z_iload_n (pc' := 29) C dX5_mend_28 rfl 3 rfl rfl ?_
  refine z_cS (n := 2) (pc' := 32) (As := [.int m, .int v]) (rest := []) C (c_X5_isGateB l G sc ia la m v false hg) gX5_mend_X5_isGate rfl rfl rfl (by decide +kernel) (by decide) rfl rfl dX5_mend_29 (Nat.le_of_ble_eq_true rfl) rfl (k_I ?_)
  show Z sc ia la [(0, .ref (G.2.1 5)), (1, .int (nI j)), (2, .int m), (3, .int v), (4, .int part)] 32 [.int 0]
  refine z_if_eq (pc' := 35) C 45 dX5_mend_32 rfl rfl (fun h_32 => ?_) (fun h_32 => absurd h_32 (by decide))
  refine z_ldc2 (v := -9000000000000000002) (pc' := 48) C (by decide +kernel) dX5_mend_45 rfl ?_
  exact z_lret (E := E) rfl dX5_mend_48 ⟨(congrArg (fun z => some (Value.long z)) rfl), rfl, rfl, rfl⟩

set_option maxHeartbeats 4000000 in
set_option maxRecDepth 100000 in
theorem c_X5_mend_part (l : Launch) (G : Gv) (sc : Sc) (ia : Ia) (la : La) (n : Nat) (hn : sc 0 = nI n) (hN : n ≤ 32) (j : Nat) (hj : j < n) (h0 : ¬ ia 6 j = 0) (m v part : Int32) (hg : s_gate m v = true) (ho : s_out part 0 1 = true)  : Ct l yX5_mend wsX5_mend ({ frames := 7, cells := 0, slots := 0, locals := 250 }) G [.ref (G.2.1 5), .int (nI j), .int m, .int v, .int part] sc ia la (fL (-9000000000000000002) sc ia la) := by
  have hU2 : ∀ w ∈ u_ws RX2 TX2 9, w ∈ wsX5_mend := fun w h => List.mem_cons_of_mem _ (List.mem_append_left _ (List.mem_append_right _ h))
  have hU5 : ∀ w ∈ u_ws RX5 TX5 5, w ∈ wsX5_mend := fun w h => List.mem_cons_of_mem _ (List.mem_append_left _ (List.mem_append_left _ (List.mem_append_right _ h)))
  refine z_of (maxL := 5) (own := RX5) [(0, .ref (G.2.1 5)), (1, .int (nI j)), (2, .int m), (3, .int v), (4, .int part)] rfl (by decide +kernel) rfl (Nat.le_of_ble_eq_true rfl) rfl (fun Z C E => ?_)
  refine z_aload_n (pc' := 1) C dX5_mend_0 rfl 0 rfl rfl ?_
  refine z_get (pc' := 4) C hU5 5 (by decide) q_o5 rfl 0 (by decide) (by decide +kernel) (v := .ref (G.2.1 2)) rfl dX5_mend_1 rfl ?_
  refine z_iload_n (pc' := 5) C dX5_mend_4 rfl 1 rfl rfl ?_
  refine z_cV (n := 1) (pc' := 8) (As := [.int (nI j)]) (rest := []) C 2 (c_X2_has_ok l G sc ia la n hn hN j hj) gX5_mend_X2_has rfl rfl rfl rfl (by decide +kernel) (by decide) rfl (by decide) q_o2 rfl rfl dX5_mend_5 (Nat.le_of_ble_eq_true rfl) rfl (k_I ?_)
  show Z sc ia la [(0, .ref (G.2.1 5)), (1, .int (nI j)), (2, .int m), (3, .int v), (4, .int part)] 8 [.int 1]
  refine z_if_eq (pc' := 11) C 23 dX5_mend_8 rfl rfl (fun h_8 => absurd h_8 (by decide)) (fun h_8 => ?_)
  refine z_aload_n (pc' := 12) C dX5_mend_11 rfl 0 rfl rfl ?_
  refine z_get (pc' := 15) C hU5 5 (by decide) q_o5 rfl 0 (by decide) (by decide +kernel) (v := .ref (G.2.1 2)) rfl dX5_mend_12 rfl ?_
  refine z_get (pc' := 18) C hU2 2 (by decide) q_o2 rfl 7 (by decide) (by decide +kernel) (v := .ref (G.2.1 13)) rfl dX5_mend_15 rfl ?_
  refine z_iload_n (pc' := 19) C dX5_mend_18 rfl 1 rfl rfl ?_
  refine z_zald (pc' := 20) C 13 (by decide) (N := 32) (i := j) (f := ia 6) q_i6 (by omega) (by decide) dX5_mend_19 rfl ?_
  refine z_if_ne (pc' := 23) C 27 dX5_mend_20 rfl rfl (fun h_20 => ?_) (fun h_20 => absurd h_20 (by exact h0))
  refine z_iload_n (pc' := 28) C dX5_mend_27 rfl 2 rfl rfl ?_
  refine z_iload_n (pc' := 29) C dX5_mend_28 rfl 3 rfl rfl ?_
  refine z_cS (n := 2) (pc' := 32) (As := [.int m, .int v]) (rest := []) C (c_X5_isGateB l G sc ia la m v true hg) gX5_mend_X5_isGate rfl rfl rfl (by decide +kernel) (by decide) rfl rfl dX5_mend_29 (Nat.le_of_ble_eq_true rfl) rfl (k_I ?_)
  show Z sc ia la [(0, .ref (G.2.1 5)), (1, .int (nI j)), (2, .int m), (3, .int v), (4, .int part)] 32 [.int 1]
  refine z_if_eq (pc' := 35) C 45 dX5_mend_32 rfl rfl (fun h_32 => absurd h_32 (by decide)) (fun h_32 => ?_)
  refine z_iload (pc' := 37) C dX5_mend_35 4 rfl rfl ?_
  refine z_iconst (v := 0) (pc' := 38) C dX5_mend_37 rfl rfl ?_
  refine z_iconst (v := 1) (pc' := 39) C dX5_mend_38 rfl rfl ?_
  refine z_cS (n := 3) (pc' := 42) (As := [.int part, .int 0, .int 1]) (rest := []) C (c_X5_isOutsideB l G sc ia la part 0 1 true ho) gX5_mend_X5_isOutside rfl rfl rfl (by decide +kernel) (by decide) rfl rfl dX5_mend_39 (Nat.le_of_ble_eq_true rfl) rfl (k_I ?_)
  show Z sc ia la [(0, .ref (G.2.1 5)), (1, .int (nI j)), (2, .int m), (3, .int v), (4, .int part)] 42 [.int 1]
  refine z_if_eq (pc' := 45) C 49 dX5_mend_42 rfl rfl (fun h_42 => absurd h_42 (by decide)) (fun h_42 => ?_)
  refine z_ldc2 (v := -9000000000000000002) (pc' := 48) C (by decide +kernel) dX5_mend_45 rfl ?_
  exact z_lret (E := E) rfl dX5_mend_48 ⟨(congrArg (fun z => some (Value.long z)) rfl), rfl, rfl, rfl⟩

set_option maxHeartbeats 4000000 in
set_option maxRecDepth 100000 in
theorem c_X5_mend_state (l : Launch) (G : Gv) (sc : Sc) (ia : Ia) (la : La) (n : Nat) (hn : sc 0 = nI n) (hN : n ≤ 32) (w : Nat) (hwe : s_cn (s_lo ia) n = w) (hW : w ≤ 5) (u : Nat → Nat) (hue : ∀ c, c < w → s_ul ia n c = nI (u c) ∧ u c < 32) (m v : Int32) (h : Nat) (hhe : s_cn (s_np m v) n = h) (LA : La) (hLA : s_wes la (va_up ia 8 (s_ul ia n)) u w m v n = LA) (x : Nat × Int64 × La) (hx : s_rd LA w h w = x) (j : Nat) (hj : j < n) (h0 : ¬ ia 6 j = 0) (part : Int32) (hg : s_gate m v = true) (ho : s_out part 0 1 = false) (z : Int32) (hz : s_vd x w h = z) (hz1 : ¬ z = 1)  : Ct l yX5_mend wsX5_mend ({ frames := 7, cells := 0, slots := 0, locals := 250 }) G [.ref (G.2.1 5), .int (nI j), .int m, .int v, .int part] sc ia la (fL (-9000000000000000003) (va_up (va_up sc 1 (nI w)) 2 (nI h)) (va_up ia 8 (s_ul ia n)) x.2.2) := by
  have hU2 : ∀ w ∈ u_ws RX2 TX2 9, w ∈ wsX5_mend := fun w h => List.mem_cons_of_mem _ (List.mem_append_left _ (List.mem_append_right _ h))
  have hU5 : ∀ w ∈ u_ws RX5 TX5 5, w ∈ wsX5_mend := fun w h => List.mem_cons_of_mem _ (List.mem_append_left _ (List.mem_append_left _ (List.mem_append_right _ h)))
  refine z_of (maxL := 5) (own := RX5) [(0, .ref (G.2.1 5)), (1, .int (nI j)), (2, .int m), (3, .int v), (4, .int part)] rfl (by decide +kernel) rfl (Nat.le_of_ble_eq_true rfl) rfl (fun Z C E => ?_)
  refine z_aload_n (pc' := 1) C dX5_mend_0 rfl 0 rfl rfl ?_
  refine z_get (pc' := 4) C hU5 5 (by decide) q_o5 rfl 0 (by decide) (by decide +kernel) (v := .ref (G.2.1 2)) rfl dX5_mend_1 rfl ?_
  refine z_iload_n (pc' := 5) C dX5_mend_4 rfl 1 rfl rfl ?_
  refine z_cV (n := 1) (pc' := 8) (As := [.int (nI j)]) (rest := []) C 2 (c_X2_has_ok l G sc ia la n hn hN j hj) gX5_mend_X2_has rfl rfl rfl rfl (by decide +kernel) (by decide) rfl (by decide) q_o2 rfl rfl dX5_mend_5 (Nat.le_of_ble_eq_true rfl) rfl (k_I ?_)
  show Z sc ia la [(0, .ref (G.2.1 5)), (1, .int (nI j)), (2, .int m), (3, .int v), (4, .int part)] 8 [.int 1]
  refine z_if_eq (pc' := 11) C 23 dX5_mend_8 rfl rfl (fun h_8 => absurd h_8 (by decide)) (fun h_8 => ?_)
  refine z_aload_n (pc' := 12) C dX5_mend_11 rfl 0 rfl rfl ?_
  refine z_get (pc' := 15) C hU5 5 (by decide) q_o5 rfl 0 (by decide) (by decide +kernel) (v := .ref (G.2.1 2)) rfl dX5_mend_12 rfl ?_
  refine z_get (pc' := 18) C hU2 2 (by decide) q_o2 rfl 7 (by decide) (by decide +kernel) (v := .ref (G.2.1 13)) rfl dX5_mend_15 rfl ?_
  refine z_iload_n (pc' := 19) C dX5_mend_18 rfl 1 rfl rfl ?_
  refine z_zald (pc' := 20) C 13 (by decide) (N := 32) (i := j) (f := ia 6) q_i6 (by omega) (by decide) dX5_mend_19 rfl ?_
  refine z_if_ne (pc' := 23) C 27 dX5_mend_20 rfl rfl (fun h_20 => ?_) (fun h_20 => absurd h_20 (by exact h0))
  refine z_iload_n (pc' := 28) C dX5_mend_27 rfl 2 rfl rfl ?_
  refine z_iload_n (pc' := 29) C dX5_mend_28 rfl 3 rfl rfl ?_
  refine z_cS (n := 2) (pc' := 32) (As := [.int m, .int v]) (rest := []) C (c_X5_isGateB l G sc ia la m v true hg) gX5_mend_X5_isGate rfl rfl rfl (by decide +kernel) (by decide) rfl rfl dX5_mend_29 (Nat.le_of_ble_eq_true rfl) rfl (k_I ?_)
  show Z sc ia la [(0, .ref (G.2.1 5)), (1, .int (nI j)), (2, .int m), (3, .int v), (4, .int part)] 32 [.int 1]
  refine z_if_eq (pc' := 35) C 45 dX5_mend_32 rfl rfl (fun h_32 => absurd h_32 (by decide)) (fun h_32 => ?_)
  refine z_iload (pc' := 37) C dX5_mend_35 4 rfl rfl ?_
  refine z_iconst (v := 0) (pc' := 38) C dX5_mend_37 rfl rfl ?_
  refine z_iconst (v := 1) (pc' := 39) C dX5_mend_38 rfl rfl ?_
  refine z_cS (n := 3) (pc' := 42) (As := [.int part, .int 0, .int 1]) (rest := []) C (c_X5_isOutsideB l G sc ia la part 0 1 false ho) gX5_mend_X5_isOutside rfl rfl rfl (by decide +kernel) (by decide) rfl rfl dX5_mend_39 (Nat.le_of_ble_eq_true rfl) rfl (k_I ?_)
  show Z sc ia la [(0, .ref (G.2.1 5)), (1, .int (nI j)), (2, .int m), (3, .int v), (4, .int part)] 42 [.int 0]
  refine z_if_eq (pc' := 45) C 49 dX5_mend_42 rfl rfl (fun h_42 => ?_) (fun h_42 => absurd h_42 (by decide))
  refine z_aload_n (pc' := 50) C dX5_mend_49 rfl 0 rfl rfl ?_
  refine z_get (pc' := 53) C hU5 5 (by decide) q_o5 rfl 1 (by decide) (by decide +kernel) (v := .ref (G.2.1 1)) rfl dX5_mend_50 rfl ?_
  refine z_aload_n (pc' := 54) C dX5_mend_53 rfl 0 rfl rfl ?_
  refine z_get (pc' := 57) C hU5 5 (by decide) q_o5 rfl 0 (by decide) (by decide +kernel) (v := .ref (G.2.1 2)) rfl dX5_mend_54 rfl ?_
  refine z_iload_n (pc' := 58) C dX5_mend_57 rfl 2 rfl rfl ?_
  refine z_iload_n (pc' := 59) C dX5_mend_58 rfl 3 rfl rfl ?_
  refine z_cV (n := 3) (pc' := 62) (As := [.ref (G.2.1 2), .int m, .int v]) (rest := []) C 1 (c_X1_solveB l G sc ia la n hn hN w hwe hW u hue m v h hhe LA hLA x hx z hz) gX5_mend_X1_solve rfl rfl rfl rfl (by decide +kernel) (by decide) rfl (by decide) q_o1 rfl rfl dX5_mend_59 (Nat.le_of_ble_eq_true rfl) rfl (k_I ?_)
  show Z (va_up (va_up sc 1 (nI w)) 2 (nI h)) (va_up ia 8 (s_ul ia n)) x.2.2 [(0, .ref (G.2.1 5)), (1, .int (nI j)), (2, .int m), (3, .int v), (4, .int part)] 62 [.int z]
  refine z_iconst (v := 1) (pc' := 63) C dX5_mend_62 rfl rfl ?_
  refine z_icmp_eq (pc' := 66) C 70 dX5_mend_63 rfl rfl (fun h_63 => absurd h_63 (by exact hz1)) (fun h_63 => ?_)
  refine z_ldc2 (v := -9000000000000000003) (pc' := 69) C (by decide +kernel) dX5_mend_66 rfl ?_
  exact z_lret (E := E) rfl dX5_mend_69 ⟨(congrArg (fun z => some (Value.long z)) rfl), rfl, rfl, rfl⟩

set_option maxHeartbeats 4000000 in
set_option maxRecDepth 100000 in
theorem c_X5_mend_ok (l : Launch) (G : Gv) (sc : Sc) (ia : Ia) (la : La) (n : Nat) (hn : sc 0 = nI n) (hN : n ≤ 32) (w : Nat) (hwe : s_cn (s_lo ia) n = w) (hW : w ≤ 5) (u : Nat → Nat) (hue : ∀ c, c < w → s_ul ia n c = nI (u c) ∧ u c < 32) (m v : Int32) (h : Nat) (hhe : s_cn (s_np m v) n = h) (LA : La) (hLA : s_wes la (va_up ia 8 (s_ul ia n)) u w m v n = LA) (x : Nat × Int64 × La) (hx : s_rd LA w h w = x) (j : Nat) (hj : j < n) (h0 : ¬ ia 6 j = 0) (part : Int32) (hg : s_gate m v = true) (ho : s_out part 0 1 = false) (hz : s_vd x w h = 1)  : Ct l yX5_mend wsX5_mend ({ frames := 7, cells := 0, slots := 0, locals := 250 }) G [.ref (G.2.1 5), .int (nI j), .int m, .int v, .int part] sc ia la (fL (s_pt x.2.2 (va_up ia 8 (s_ul ia n)) w (nI j) part) (va_up (va_up sc 1 (nI w)) 2 (nI h)) (va_up ia 8 (s_ul ia n)) x.2.2) := by
  have hU2 : ∀ w ∈ u_ws RX2 TX2 9, w ∈ wsX5_mend := fun w h => List.mem_cons_of_mem _ (List.mem_append_left _ (List.mem_append_right _ h))
  have hU5 : ∀ w ∈ u_ws RX5 TX5 5, w ∈ wsX5_mend := fun w h => List.mem_cons_of_mem _ (List.mem_append_left _ (List.mem_append_left _ (List.mem_append_right _ h)))
  refine z_of (maxL := 5) (own := RX5) [(0, .ref (G.2.1 5)), (1, .int (nI j)), (2, .int m), (3, .int v), (4, .int part)] rfl (by decide +kernel) rfl (Nat.le_of_ble_eq_true rfl) rfl (fun Z C E => ?_)
  refine z_aload_n (pc' := 1) C dX5_mend_0 rfl 0 rfl rfl ?_
  refine z_get (pc' := 4) C hU5 5 (by decide) q_o5 rfl 0 (by decide) (by decide +kernel) (v := .ref (G.2.1 2)) rfl dX5_mend_1 rfl ?_
  refine z_iload_n (pc' := 5) C dX5_mend_4 rfl 1 rfl rfl ?_
  refine z_cV (n := 1) (pc' := 8) (As := [.int (nI j)]) (rest := []) C 2 (c_X2_has_ok l G sc ia la n hn hN j hj) gX5_mend_X2_has rfl rfl rfl rfl (by decide +kernel) (by decide) rfl (by decide) q_o2 rfl rfl dX5_mend_5 (Nat.le_of_ble_eq_true rfl) rfl (k_I ?_)
  show Z sc ia la [(0, .ref (G.2.1 5)), (1, .int (nI j)), (2, .int m), (3, .int v), (4, .int part)] 8 [.int 1]
  refine z_if_eq (pc' := 11) C 23 dX5_mend_8 rfl rfl (fun h_8 => absurd h_8 (by decide)) (fun h_8 => ?_)
  refine z_aload_n (pc' := 12) C dX5_mend_11 rfl 0 rfl rfl ?_
  refine z_get (pc' := 15) C hU5 5 (by decide) q_o5 rfl 0 (by decide) (by decide +kernel) (v := .ref (G.2.1 2)) rfl dX5_mend_12 rfl ?_
  refine z_get (pc' := 18) C hU2 2 (by decide) q_o2 rfl 7 (by decide) (by decide +kernel) (v := .ref (G.2.1 13)) rfl dX5_mend_15 rfl ?_
  refine z_iload_n (pc' := 19) C dX5_mend_18 rfl 1 rfl rfl ?_
  refine z_zald (pc' := 20) C 13 (by decide) (N := 32) (i := j) (f := ia 6) q_i6 (by omega) (by decide) dX5_mend_19 rfl ?_
  refine z_if_ne (pc' := 23) C 27 dX5_mend_20 rfl rfl (fun h_20 => ?_) (fun h_20 => absurd h_20 (by exact h0))
  refine z_iload_n (pc' := 28) C dX5_mend_27 rfl 2 rfl rfl ?_
  refine z_iload_n (pc' := 29) C dX5_mend_28 rfl 3 rfl rfl ?_
  refine z_cS (n := 2) (pc' := 32) (As := [.int m, .int v]) (rest := []) C (c_X5_isGateB l G sc ia la m v true hg) gX5_mend_X5_isGate rfl rfl rfl (by decide +kernel) (by decide) rfl rfl dX5_mend_29 (Nat.le_of_ble_eq_true rfl) rfl (k_I ?_)
  show Z sc ia la [(0, .ref (G.2.1 5)), (1, .int (nI j)), (2, .int m), (3, .int v), (4, .int part)] 32 [.int 1]
  refine z_if_eq (pc' := 35) C 45 dX5_mend_32 rfl rfl (fun h_32 => absurd h_32 (by decide)) (fun h_32 => ?_)
  refine z_iload (pc' := 37) C dX5_mend_35 4 rfl rfl ?_
  refine z_iconst (v := 0) (pc' := 38) C dX5_mend_37 rfl rfl ?_
  refine z_iconst (v := 1) (pc' := 39) C dX5_mend_38 rfl rfl ?_
  refine z_cS (n := 3) (pc' := 42) (As := [.int part, .int 0, .int 1]) (rest := []) C (c_X5_isOutsideB l G sc ia la part 0 1 false ho) gX5_mend_X5_isOutside rfl rfl rfl (by decide +kernel) (by decide) rfl rfl dX5_mend_39 (Nat.le_of_ble_eq_true rfl) rfl (k_I ?_)
  show Z sc ia la [(0, .ref (G.2.1 5)), (1, .int (nI j)), (2, .int m), (3, .int v), (4, .int part)] 42 [.int 0]
  refine z_if_eq (pc' := 45) C 49 dX5_mend_42 rfl rfl (fun h_42 => ?_) (fun h_42 => absurd h_42 (by decide))
  refine z_aload_n (pc' := 50) C dX5_mend_49 rfl 0 rfl rfl ?_
  refine z_get (pc' := 53) C hU5 5 (by decide) q_o5 rfl 1 (by decide) (by decide +kernel) (v := .ref (G.2.1 1)) rfl dX5_mend_50 rfl ?_
  refine z_aload_n (pc' := 54) C dX5_mend_53 rfl 0 rfl rfl ?_
  refine z_get (pc' := 57) C hU5 5 (by decide) q_o5 rfl 0 (by decide) (by decide +kernel) (v := .ref (G.2.1 2)) rfl dX5_mend_54 rfl ?_
  refine z_iload_n (pc' := 58) C dX5_mend_57 rfl 2 rfl rfl ?_
  refine z_iload_n (pc' := 59) C dX5_mend_58 rfl 3 rfl rfl ?_
  refine z_cV (n := 3) (pc' := 62) (As := [.ref (G.2.1 2), .int m, .int v]) (rest := []) C 1 (c_X1_solveB l G sc ia la n hn hN w hwe hW u hue m v h hhe LA hLA x hx 1 hz) gX5_mend_X1_solve rfl rfl rfl rfl (by decide +kernel) (by decide) rfl (by decide) q_o1 rfl rfl dX5_mend_59 (Nat.le_of_ble_eq_true rfl) rfl (k_I ?_)
  show Z (va_up (va_up sc 1 (nI w)) 2 (nI h)) (va_up ia 8 (s_ul ia n)) x.2.2 [(0, .ref (G.2.1 5)), (1, .int (nI j)), (2, .int m), (3, .int v), (4, .int part)] 62 [.int 1]
  refine z_iconst (v := 1) (pc' := 63) C dX5_mend_62 rfl rfl ?_
  refine z_icmpN_eq (a := 1) (b := 1) (pc' := 66) C 70 (by omega) (by omega) dX5_mend_63 rfl rfl (fun h_63 => ?_) (fun h_63 => absurd h_63 (by decide))
  refine z_aload_n (pc' := 71) C dX5_mend_70 rfl 0 rfl rfl ?_
  refine z_get (pc' := 74) C hU5 5 (by decide) q_o5 rfl 1 (by decide) (by decide +kernel) (v := .ref (G.2.1 1)) rfl dX5_mend_71 rfl ?_
  refine z_iload_n (pc' := 75) C dX5_mend_74 rfl 1 rfl rfl ?_
  refine z_iload (pc' := 77) C dX5_mend_75 4 rfl rfl ?_
  refine z_cV (n := 2) (pc' := 80) (As := [.int (nI j), .int part]) (rest := []) C 1 (c_X1_partOf l G (va_up (va_up sc 1 (nI w)) 2 (nI h)) (va_up ia 8 (s_ul ia n)) x.2.2 w rfl hW (nI j) part) gX5_mend_X1_partOf rfl rfl rfl rfl (by decide +kernel) (by decide) rfl (by decide) q_o1 rfl rfl dX5_mend_77 (Nat.le_of_ble_eq_true rfl) rfl (k_L ?_)
  show Z (va_up (va_up sc 1 (nI w)) 2 (nI h)) (va_up ia 8 (s_ul ia n)) x.2.2 [(0, .ref (G.2.1 5)), (1, .int (nI j)), (2, .int m), (3, .int v), (4, .int part)] 80 [.long (s_pt x.2.2 (va_up ia 8 (s_ul ia n)) w (nI j) part)]
  exact z_lret (E := E) rfl dX5_mend_80 ⟨(congrArg (fun z => some (Value.long z)) rfl), rfl, rfl, rfl⟩

set_option maxHeartbeats 4000000 in
set_option maxRecDepth 100000 in
theorem c_X5_cell_no (l : Launch) (G : Gv) (sc : Sc) (ia : Ia) (la : La) (r c v : Int32) (ho : s_hold r c (sc 3) (sc 4) = false)  : Ct l yX5_cell wsX5_cell ({ frames := 7, cells := 0, slots := 0, locals := 250 }) G [.ref (G.2.1 5), .int r, .int c, .int v] sc ia la (fI (-10101) sc ia la) := by
  have hU5 : ∀ w ∈ u_ws RX5 TX5 5, w ∈ wsX5_cell := fun w h => List.mem_cons_of_mem _ (List.mem_append_left _ (List.mem_append_right _ h))
  refine z_of (maxL := 5) (own := RX5) [(0, .ref (G.2.1 5)), (1, .int r), (2, .int c), (3, .int v)] rfl (by decide +kernel) rfl (Nat.le_of_ble_eq_true rfl) rfl (fun Z C E => ?_)
  refine z_aload_n (pc' := 1) C dX5_cell_0 rfl 0 rfl rfl ?_
  refine z_get (pc' := 4) C hU5 5 (by decide) q_o5 rfl 2 (by decide) (by decide +kernel) (v := .ref (G.2.1 4)) rfl dX5_cell_1 rfl ?_
  refine z_iload_n (pc' := 5) C dX5_cell_4 rfl 1 rfl rfl ?_
  refine z_iload_n (pc' := 6) C dX5_cell_5 rfl 2 rfl rfl ?_
  refine z_cV (n := 2) (pc' := 9) (As := [.int r, .int c]) (rest := []) C 4 (c_X4_holdsB l G sc ia la r c false ho) gX5_cell_X4_holds rfl rfl rfl rfl (by decide +kernel) (by decide) rfl (by decide) q_o4 rfl rfl dX5_cell_6 (Nat.le_of_ble_eq_true rfl) rfl (k_I ?_)
  show Z sc ia la [(0, .ref (G.2.1 5)), (1, .int r), (2, .int c), (3, .int v)] 9 [.int 0]
  refine z_if_ne (pc' := 12) C 16 dX5_cell_9 rfl rfl (fun h_9 => absurd h_9 (by decide)) (fun h_9 => ?_)
  refine z_sipush (v := -10101) (pc' := 15) C dX5_cell_12 rfl rfl ?_
  exact z_iret (E := E) rfl dX5_cell_15 ⟨(congrArg (fun z => some (Value.int z)) rfl), rfl, rfl, rfl⟩

set_option maxHeartbeats 4000000 in
set_option maxRecDepth 100000 in
theorem c_X5_cell_out (l : Launch) (G : Gv) (sc : Sc) (ia : Ia) (la : La) (a b : Nat) (ha : a < 9) (hb : b < 9) (hh : s_hold (nI a) (nI b) (sc 3) (sc 4) = true) (v : Int32) (ho : s_out v (-1000) 1000 = true)  : Ct l yX5_cell wsX5_cell ({ frames := 7, cells := 0, slots := 0, locals := 250 }) G [.ref (G.2.1 5), .int (nI a), .int (nI b), .int v] sc ia la (fI (-10102) sc ia la) := by
  have hU5 : ∀ w ∈ u_ws RX5 TX5 5, w ∈ wsX5_cell := fun w h => List.mem_cons_of_mem _ (List.mem_append_left _ (List.mem_append_right _ h))
  refine z_of (maxL := 5) (own := RX5) [(0, .ref (G.2.1 5)), (1, .int (nI a)), (2, .int (nI b)), (3, .int v)] rfl (by decide +kernel) rfl (Nat.le_of_ble_eq_true rfl) rfl (fun Z C E => ?_)
  refine z_aload_n (pc' := 1) C dX5_cell_0 rfl 0 rfl rfl ?_
  refine z_get (pc' := 4) C hU5 5 (by decide) q_o5 rfl 2 (by decide) (by decide +kernel) (v := .ref (G.2.1 4)) rfl dX5_cell_1 rfl ?_
  refine z_iload_n (pc' := 5) C dX5_cell_4 rfl 1 rfl rfl ?_
  refine z_iload_n (pc' := 6) C dX5_cell_5 rfl 2 rfl rfl ?_
  refine z_cV (n := 2) (pc' := 9) (As := [.int (nI a), .int (nI b)]) (rest := []) C 4 (c_X4_holdsB l G sc ia la (nI a) (nI b) true hh) gX5_cell_X4_holds rfl rfl rfl rfl (by decide +kernel) (by decide) rfl (by decide) q_o4 rfl rfl dX5_cell_6 (Nat.le_of_ble_eq_true rfl) rfl (k_I ?_)
  show Z sc ia la [(0, .ref (G.2.1 5)), (1, .int (nI a)), (2, .int (nI b)), (3, .int v)] 9 [.int 1]
  refine z_if_ne (pc' := 12) C 16 dX5_cell_9 rfl rfl (fun h_9 => ?_) (fun h_9 => absurd h_9 (by decide))
  refine z_iload_n (pc' := 17) C dX5_cell_16 rfl 3 rfl rfl ?_
  refine z_sipush (v := -1000) (pc' := 20) C dX5_cell_17 rfl rfl ?_
  refine z_sipush (v := 1000) (pc' := 23) C dX5_cell_20 rfl rfl ?_
  refine z_cS (n := 3) (pc' := 26) (As := [.int v, .int (-1000), .int 1000]) (rest := []) C (c_X5_isOutsideB l G sc ia la v (-1000) 1000 true ho) gX5_cell_X5_isOutside rfl rfl rfl (by decide +kernel) (by decide) rfl rfl dX5_cell_23 (Nat.le_of_ble_eq_true rfl) rfl (k_I ?_)
  show Z sc ia la [(0, .ref (G.2.1 5)), (1, .int (nI a)), (2, .int (nI b)), (3, .int v)] 26 [.int 1]
  refine z_if_eq (pc' := 29) C 33 dX5_cell_26 rfl rfl (fun h_26 => absurd h_26 (by decide)) (fun h_26 => ?_)
  refine z_sipush (v := -10102) (pc' := 32) C dX5_cell_29 rfl rfl ?_
  exact z_iret (E := E) rfl dX5_cell_32 ⟨(congrArg (fun z => some (Value.int z)) rfl), rfl, rfl, rfl⟩

set_option maxHeartbeats 4000000 in
set_option maxRecDepth 100000 in
theorem c_X5_cell_ok (l : Launch) (G : Gv) (sc : Sc) (ia : Ia) (la : La) (a b : Nat) (ha : a < 9) (hb : b < 9) (hh : s_hold (nI a) (nI b) (sc 3) (sc 4) = true) (v : Int32) (ho : s_out v (-1000) 1000 = false)  : Ct l yX5_cell wsX5_cell ({ frames := 7, cells := 0, slots := 0, locals := 250 }) G [.ref (G.2.1 5), .int (nI a), .int (nI b), .int v] sc ia la (fI (ia (10 + a) b) sc (va_up ia (10 + a) (upd (ia (10 + a)) b v)) la) := by
  have hU4 : ∀ w ∈ u_ws RX4 TX4 3, w ∈ wsX5_cell := fun w h => List.mem_cons_of_mem _ (List.mem_append_right _ h)
  have hU5 : ∀ w ∈ u_ws RX5 TX5 5, w ∈ wsX5_cell := fun w h => List.mem_cons_of_mem _ (List.mem_append_left _ (List.mem_append_right _ h))
  refine z_of (maxL := 5) (own := RX5) [(0, .ref (G.2.1 5)), (1, .int (nI a)), (2, .int (nI b)), (3, .int v)] rfl (by decide +kernel) rfl (Nat.le_of_ble_eq_true rfl) rfl (fun Z C E => ?_)
  refine z_aload_n (pc' := 1) C dX5_cell_0 rfl 0 rfl rfl ?_
  refine z_get (pc' := 4) C hU5 5 (by decide) q_o5 rfl 2 (by decide) (by decide +kernel) (v := .ref (G.2.1 4)) rfl dX5_cell_1 rfl ?_
  refine z_iload_n (pc' := 5) C dX5_cell_4 rfl 1 rfl rfl ?_
  refine z_iload_n (pc' := 6) C dX5_cell_5 rfl 2 rfl rfl ?_
  refine z_cV (n := 2) (pc' := 9) (As := [.int (nI a), .int (nI b)]) (rest := []) C 4 (c_X4_holdsB l G sc ia la (nI a) (nI b) true hh) gX5_cell_X4_holds rfl rfl rfl rfl (by decide +kernel) (by decide) rfl (by decide) q_o4 rfl rfl dX5_cell_6 (Nat.le_of_ble_eq_true rfl) rfl (k_I ?_)
  show Z sc ia la [(0, .ref (G.2.1 5)), (1, .int (nI a)), (2, .int (nI b)), (3, .int v)] 9 [.int 1]
  refine z_if_ne (pc' := 12) C 16 dX5_cell_9 rfl rfl (fun h_9 => ?_) (fun h_9 => absurd h_9 (by decide))
  refine z_iload_n (pc' := 17) C dX5_cell_16 rfl 3 rfl rfl ?_
  refine z_sipush (v := -1000) (pc' := 20) C dX5_cell_17 rfl rfl ?_
  refine z_sipush (v := 1000) (pc' := 23) C dX5_cell_20 rfl rfl ?_
  refine z_cS (n := 3) (pc' := 26) (As := [.int v, .int (-1000), .int 1000]) (rest := []) C (c_X5_isOutsideB l G sc ia la v (-1000) 1000 false ho) gX5_cell_X5_isOutside rfl rfl rfl (by decide +kernel) (by decide) rfl rfl dX5_cell_23 (Nat.le_of_ble_eq_true rfl) rfl (k_I ?_)
  show Z sc ia la [(0, .ref (G.2.1 5)), (1, .int (nI a)), (2, .int (nI b)), (3, .int v)] 26 [.int 0]
  refine z_if_eq (pc' := 29) C 33 dX5_cell_26 rfl rfl (fun h_26 => ?_) (fun h_26 => absurd h_26 (by decide))
  refine z_aload_n (pc' := 34) C dX5_cell_33 rfl 0 rfl rfl ?_
  refine z_get (pc' := 37) C hU5 5 (by decide) q_o5 rfl 2 (by decide) (by decide +kernel) (v := .ref (G.2.1 4)) rfl dX5_cell_34 rfl ?_
  refine z_get (pc' := 40) C hU4 4 (by decide) q_o4 rfl 2 (by decide) (by decide +kernel) (v := .ref (G.2.1 50)) rfl dX5_cell_37 rfl ?_
  refine z_iload_n (pc' := 41) C dX5_cell_40 rfl 1 rfl rfl ?_
  refine z_aald (pc' := 42) C 50 (by decide) (i := a) (a := G.2.1 (17 + a)) (ty := .int) rfl q_v50 (by omega) (by decide) (if_pos (by omega)) dX5_cell_41 rfl ?_
  refine z_iload_n (pc' := 43) C dX5_cell_42 rfl 2 rfl rfl ?_
  refine z_iald (pc' := 44) C (17 + a) (by omega) (N := 9) (i := b) (f := ia (10 + a)) (q_ir10 a (by omega)) (by omega) (by decide) dX5_cell_43 rfl ?_
  refine z_istore (lv' := [(4, .int ((ia (10 + a)) b)), (0, .ref (G.2.1 5)), (1, .int (nI a)), (2, .int (nI b)), (3, .int v)]) (pc' := 46) C dX5_cell_44 (by decide) rfl rfl ?_
  refine z_aload_n (pc' := 47) C dX5_cell_46 rfl 1 rfl rfl ?_
  refine z_get (pc' := 50) C hU5 5 (by decide) q_o5 rfl 2 (by decide) (by decide +kernel) (v := .ref (G.2.1 4)) rfl dX5_cell_47 rfl ?_
  refine z_get (pc' := 53) C hU4 4 (by decide) q_o4 rfl 2 (by decide) (by decide +kernel) (v := .ref (G.2.1 50)) rfl dX5_cell_50 rfl ?_
  refine z_iload_n (pc' := 54) C dX5_cell_53 rfl 2 rfl rfl ?_
  refine z_aald (pc' := 55) C 50 (by decide) (i := a) (a := G.2.1 (17 + a)) (ty := .int) rfl q_v50 (by omega) (by decide) (if_pos (by omega)) dX5_cell_54 rfl ?_
  refine z_iload_n (pc' := 56) C dX5_cell_55 rfl 3 rfl rfl ?_
  refine z_iload_n (pc' := 57) C dX5_cell_56 rfl 4 rfl rfl ?_
  refine z_iast (pc' := 58) C (17 + a) (by omega) (N := 9) (i := b) (f := ia (10 + a)) (q_ir10 a (by omega)) (by omega) (by decide) (q_ur10 a (by omega) _) dX5_cell_57 rfl ?_
  refine z_iload (pc' := 60) C dX5_cell_58 0 rfl rfl ?_
  exact z_iret (E := E) rfl dX5_cell_60 ⟨(congrArg (fun z => some (Value.int z)) rfl), rfl, rfl, rfl⟩

set_option maxHeartbeats 4000000 in
set_option maxRecDepth 100000 in
theorem c_X5_closed_row (l : Launch) (G : Gv) (sc : Sc) (ia : Ia) (la : La) (r c : Int32) (ho : s_out r 0 (sc 3) = true)  : Ct l yX5_closed wsX5_closed ({ frames := 7, cells := 0, slots := 0, locals := 250 }) G [.ref (G.2.1 5), .int r, .int c] sc ia la (fI (-10101) sc ia la) := by
  have hU4 : ∀ w ∈ u_ws RX4 TX4 3, w ∈ wsX5_closed := fun w h => List.mem_cons_of_mem _ (List.mem_append_right _ h)
  have hU5 : ∀ w ∈ u_ws RX5 TX5 5, w ∈ wsX5_closed := fun w h => List.mem_cons_of_mem _ (List.mem_append_left _ (List.mem_append_right _ h))
  refine z_of (maxL := 3) (own := RX5) [(0, .ref (G.2.1 5)), (1, .int r), (2, .int c)] rfl (by decide +kernel) rfl (Nat.le_of_ble_eq_true rfl) rfl (fun Z C E => ?_)
  refine z_iload_n (pc' := 1) C dX5_closed_0 rfl 1 rfl rfl ?_
  refine z_iconst (v := 0) (pc' := 2) C dX5_closed_1 rfl rfl ?_
  refine z_aload_n (pc' := 3) C dX5_closed_2 rfl 0 rfl rfl ?_
  refine z_get (pc' := 6) C hU5 5 (by decide) q_o5 rfl 2 (by decide) (by decide +kernel) (v := .ref (G.2.1 4)) rfl dX5_closed_3 rfl ?_
  refine z_get (pc' := 9) C hU4 4 (by decide) q_o4 rfl 0 (by decide) (by decide +kernel) (v := .int (sc 3)) rfl dX5_closed_6 rfl ?_
  refine z_cS (n := 3) (pc' := 12) (As := [.int r, .int 0, .int (sc 3)]) (rest := []) C (c_X5_isOutsideB l G sc ia la r 0 (sc 3) true ho) gX5_closed_X5_isOutside rfl rfl rfl (by decide +kernel) (by decide) rfl rfl dX5_closed_9 (Nat.le_of_ble_eq_true rfl) rfl (k_I ?_)
  show Z sc ia la [(0, .ref (G.2.1 5)), (1, .int r), (2, .int c)] 12 [.int 1]
  refine z_if_ne (pc' := 15) C 32 dX5_closed_12 rfl rfl (fun h_12 => ?_) (fun h_12 => absurd h_12 (by decide))
  refine z_sipush (v := -10101) (pc' := 35) C dX5_closed_32 rfl rfl ?_
  exact z_iret (E := E) rfl dX5_closed_35 ⟨(congrArg (fun z => some (Value.int z)) rfl), rfl, rfl, rfl⟩

set_option maxHeartbeats 4000000 in
set_option maxRecDepth 100000 in
theorem c_X5_closed_col (l : Launch) (G : Gv) (sc : Sc) (ia : Ia) (la : La) (r c : Int32) (ho : s_out r 0 (sc 3) = false) (hp : s_out c 0 (sc 4 - 1) = true)  : Ct l yX5_closed wsX5_closed ({ frames := 7, cells := 0, slots := 0, locals := 250 }) G [.ref (G.2.1 5), .int r, .int c] sc ia la (fI (-10101) sc ia la) := by
  have hU4 : ∀ w ∈ u_ws RX4 TX4 3, w ∈ wsX5_closed := fun w h => List.mem_cons_of_mem _ (List.mem_append_right _ h)
  have hU5 : ∀ w ∈ u_ws RX5 TX5 5, w ∈ wsX5_closed := fun w h => List.mem_cons_of_mem _ (List.mem_append_left _ (List.mem_append_right _ h))
  refine z_of (maxL := 3) (own := RX5) [(0, .ref (G.2.1 5)), (1, .int r), (2, .int c)] rfl (by decide +kernel) rfl (Nat.le_of_ble_eq_true rfl) rfl (fun Z C E => ?_)
  refine z_iload_n (pc' := 1) C dX5_closed_0 rfl 1 rfl rfl ?_
  refine z_iconst (v := 0) (pc' := 2) C dX5_closed_1 rfl rfl ?_
  refine z_aload_n (pc' := 3) C dX5_closed_2 rfl 0 rfl rfl ?_
  refine z_get (pc' := 6) C hU5 5 (by decide) q_o5 rfl 2 (by decide) (by decide +kernel) (v := .ref (G.2.1 4)) rfl dX5_closed_3 rfl ?_
  refine z_get (pc' := 9) C hU4 4 (by decide) q_o4 rfl 0 (by decide) (by decide +kernel) (v := .int (sc 3)) rfl dX5_closed_6 rfl ?_
  refine z_cS (n := 3) (pc' := 12) (As := [.int r, .int 0, .int (sc 3)]) (rest := []) C (c_X5_isOutsideB l G sc ia la r 0 (sc 3) false ho) gX5_closed_X5_isOutside rfl rfl rfl (by decide +kernel) (by decide) rfl rfl dX5_closed_9 (Nat.le_of_ble_eq_true rfl) rfl (k_I ?_)
  show Z sc ia la [(0, .ref (G.2.1 5)), (1, .int r), (2, .int c)] 12 [.int 0]
  refine z_if_ne (pc' := 15) C 32 dX5_closed_12 rfl rfl (fun h_12 => absurd h_12 (by decide)) (fun h_12 => ?_)
  refine z_iload_n (pc' := 16) C dX5_closed_15 rfl 2 rfl rfl ?_
  refine z_iconst (v := 0) (pc' := 17) C dX5_closed_16 rfl rfl ?_
  refine z_aload_n (pc' := 18) C dX5_closed_17 rfl 0 rfl rfl ?_
  refine z_get (pc' := 21) C hU5 5 (by decide) q_o5 rfl 2 (by decide) (by decide +kernel) (v := .ref (G.2.1 4)) rfl dX5_closed_18 rfl ?_
  refine z_get (pc' := 24) C hU4 4 (by decide) q_o4 rfl 1 (by decide) (by decide +kernel) (v := .int (sc 4)) rfl dX5_closed_21 rfl ?_
  refine z_iconst (v := 1) (pc' := 25) C dX5_closed_24 rfl rfl ?_
  refine z_isub (pc' := 26) C dX5_closed_25 rfl ?_
  refine z_cS (n := 3) (pc' := 29) (As := [.int c, .int 0, .int ((sc 4) - 1)]) (rest := []) C (c_X5_isOutsideB l G sc ia la c 0 ((sc 4) - 1) true hp) gX5_closed_X5_isOutside rfl rfl rfl (by decide +kernel) (by decide) rfl rfl dX5_closed_26 (Nat.le_of_ble_eq_true rfl) rfl (k_I ?_)
  show Z sc ia la [(0, .ref (G.2.1 5)), (1, .int r), (2, .int c)] 29 [.int 1]
  refine z_if_eq (pc' := 32) C 36 dX5_closed_29 rfl rfl (fun h_29 => absurd h_29 (by decide)) (fun h_29 => ?_)
  refine z_sipush (v := -10101) (pc' := 35) C dX5_closed_32 rfl rfl ?_
  exact z_iret (E := E) rfl dX5_closed_35 ⟨(congrArg (fun z => some (Value.int z)) rfl), rfl, rfl, rfl⟩

set_option maxHeartbeats 4000000 in
set_option maxRecDepth 100000 in
theorem c_X5_tied_row (l : Launch) (G : Gv) (sc : Sc) (ia : Ia) (la : La) (r c : Int32) (ho : s_out r 0 (sc 3 - 1) = true)  : Ct l yX5_tied wsX5_tied ({ frames := 7, cells := 0, slots := 0, locals := 250 }) G [.ref (G.2.1 5), .int r, .int c] sc ia la (fI (-10101) sc ia la) := by
  have hU4 : ∀ w ∈ u_ws RX4 TX4 3, w ∈ wsX5_tied := fun w h => List.mem_cons_of_mem _ (List.mem_append_right _ h)
  have hU5 : ∀ w ∈ u_ws RX5 TX5 5, w ∈ wsX5_tied := fun w h => List.mem_cons_of_mem _ (List.mem_append_left _ (List.mem_append_right _ h))
  refine z_of (maxL := 3) (own := RX5) [(0, .ref (G.2.1 5)), (1, .int r), (2, .int c)] rfl (by decide +kernel) rfl (Nat.le_of_ble_eq_true rfl) rfl (fun Z C E => ?_)
  refine z_iload_n (pc' := 1) C dX5_tied_0 rfl 1 rfl rfl ?_
  refine z_iconst (v := 0) (pc' := 2) C dX5_tied_1 rfl rfl ?_
  refine z_aload_n (pc' := 3) C dX5_tied_2 rfl 0 rfl rfl ?_
  refine z_get (pc' := 6) C hU5 5 (by decide) q_o5 rfl 2 (by decide) (by decide +kernel) (v := .ref (G.2.1 4)) rfl dX5_tied_3 rfl ?_
  refine z_get (pc' := 9) C hU4 4 (by decide) q_o4 rfl 0 (by decide) (by decide +kernel) (v := .int (sc 3)) rfl dX5_tied_6 rfl ?_
  refine z_iconst (v := 1) (pc' := 10) C dX5_tied_9 rfl rfl ?_
  refine z_isub (pc' := 11) C dX5_tied_10 rfl ?_
  refine z_cS (n := 3) (pc' := 14) (As := [.int r, .int 0, .int ((sc 3) - 1)]) (rest := []) C (c_X5_isOutsideB l G sc ia la r 0 ((sc 3) - 1) true ho) gX5_tied_X5_isOutside rfl rfl rfl (by decide +kernel) (by decide) rfl rfl dX5_tied_11 (Nat.le_of_ble_eq_true rfl) rfl (k_I ?_)
  show Z sc ia la [(0, .ref (G.2.1 5)), (1, .int r), (2, .int c)] 14 [.int 1]
  refine z_if_ne (pc' := 17) C 34 dX5_tied_14 rfl rfl (fun h_14 => ?_) (fun h_14 => absurd h_14 (by decide))
  refine z_sipush (v := -10101) (pc' := 37) C dX5_tied_34 rfl rfl ?_
  exact z_iret (E := E) rfl dX5_tied_37 ⟨(congrArg (fun z => some (Value.int z)) rfl), rfl, rfl, rfl⟩

set_option maxHeartbeats 4000000 in
set_option maxRecDepth 100000 in
theorem c_X5_tied_col (l : Launch) (G : Gv) (sc : Sc) (ia : Ia) (la : La) (r c : Int32) (ho : s_out r 0 (sc 3 - 1) = false) (hp : s_out c 0 (sc 4 - 1) = true)  : Ct l yX5_tied wsX5_tied ({ frames := 7, cells := 0, slots := 0, locals := 250 }) G [.ref (G.2.1 5), .int r, .int c] sc ia la (fI (-10101) sc ia la) := by
  have hU4 : ∀ w ∈ u_ws RX4 TX4 3, w ∈ wsX5_tied := fun w h => List.mem_cons_of_mem _ (List.mem_append_right _ h)
  have hU5 : ∀ w ∈ u_ws RX5 TX5 5, w ∈ wsX5_tied := fun w h => List.mem_cons_of_mem _ (List.mem_append_left _ (List.mem_append_right _ h))
  refine z_of (maxL := 3) (own := RX5) [(0, .ref (G.2.1 5)), (1, .int r), (2, .int c)] rfl (by decide +kernel) rfl (Nat.le_of_ble_eq_true rfl) rfl (fun Z C E => ?_)
  refine z_iload_n (pc' := 1) C dX5_tied_0 rfl 1 rfl rfl ?_
  refine z_iconst (v := 0) (pc' := 2) C dX5_tied_1 rfl rfl ?_
  refine z_aload_n (pc' := 3) C dX5_tied_2 rfl 0 rfl rfl ?_
  refine z_get (pc' := 6) C hU5 5 (by decide) q_o5 rfl 2 (by decide) (by decide +kernel) (v := .ref (G.2.1 4)) rfl dX5_tied_3 rfl ?_
  refine z_get (pc' := 9) C hU4 4 (by decide) q_o4 rfl 0 (by decide) (by decide +kernel) (v := .int (sc 3)) rfl dX5_tied_6 rfl ?_
  refine z_iconst (v := 1) (pc' := 10) C dX5_tied_9 rfl rfl ?_
  refine z_isub (pc' := 11) C dX5_tied_10 rfl ?_
  refine z_cS (n := 3) (pc' := 14) (As := [.int r, .int 0, .int ((sc 3) - 1)]) (rest := []) C (c_X5_isOutsideB l G sc ia la r 0 ((sc 3) - 1) false ho) gX5_tied_X5_isOutside rfl rfl rfl (by decide +kernel) (by decide) rfl rfl dX5_tied_11 (Nat.le_of_ble_eq_true rfl) rfl (k_I ?_)
  show Z sc ia la [(0, .ref (G.2.1 5)), (1, .int r), (2, .int c)] 14 [.int 0]
  refine z_if_ne (pc' := 17) C 34 dX5_tied_14 rfl rfl (fun h_14 => absurd h_14 (by decide)) (fun h_14 => ?_)
  refine z_iload_n (pc' := 18) C dX5_tied_17 rfl 2 rfl rfl ?_
  refine z_iconst (v := 0) (pc' := 19) C dX5_tied_18 rfl rfl ?_
  refine z_aload_n (pc' := 20) C dX5_tied_19 rfl 0 rfl rfl ?_
  refine z_get (pc' := 23) C hU5 5 (by decide) q_o5 rfl 2 (by decide) (by decide +kernel) (v := .ref (G.2.1 4)) rfl dX5_tied_20 rfl ?_
  refine z_get (pc' := 26) C hU4 4 (by decide) q_o4 rfl 1 (by decide) (by decide +kernel) (v := .int (sc 4)) rfl dX5_tied_23 rfl ?_
  refine z_iconst (v := 1) (pc' := 27) C dX5_tied_26 rfl rfl ?_
  refine z_isub (pc' := 28) C dX5_tied_27 rfl ?_
  refine z_cS (n := 3) (pc' := 31) (As := [.int c, .int 0, .int ((sc 4) - 1)]) (rest := []) C (c_X5_isOutsideB l G sc ia la c 0 ((sc 4) - 1) true hp) gX5_tied_X5_isOutside rfl rfl rfl (by decide +kernel) (by decide) rfl rfl dX5_tied_28 (Nat.le_of_ble_eq_true rfl) rfl (k_I ?_)
  show Z sc ia la [(0, .ref (G.2.1 5)), (1, .int r), (2, .int c)] 31 [.int 1]
  refine z_if_eq (pc' := 34) C 38 dX5_tied_31 rfl rfl (fun h_31 => absurd h_31 (by decide)) (fun h_31 => ?_)
  refine z_sipush (v := -10101) (pc' := 37) C dX5_tied_34 rfl rfl ?_
  exact z_iret (E := E) rfl dX5_tied_37 ⟨(congrArg (fun z => some (Value.int z)) rfl), rfl, rfl, rfl⟩

set_option maxHeartbeats 4000000 in
set_option maxRecDepth 100000 in
theorem c_X5_closed_ok (l : Launch) (G : Gv) (sc : Sc) (ia : Ia) (la : La) (R K : Nat) (hR : sc 3 = nI R) (hC : sc 4 = nI K) (hR1 : 1 ≤ R) (hR8 : R ≤ 8) (hC8 : K ≤ 8) (a b : Nat) (ha : a ≤ R) (hb : b < K) (ho : s_out (nI a) 0 (nI R) = false) (hp : s_out (nI b) 0 (nI K - 1) = false)  : Ct l yX5_closed wsX5_closed ({ frames := 7, cells := 0, slots := 0, locals := 250 }) G [.ref (G.2.1 5), .int (nI a), .int (nI b)] sc ia la (fI (s_clo ia R a b) sc ia la) := by
  have hU4 : ∀ w ∈ u_ws RX4 TX4 3, w ∈ wsX5_closed := fun w h => List.mem_cons_of_mem _ (List.mem_append_right _ h)
  have hU5 : ∀ w ∈ u_ws RX5 TX5 5, w ∈ wsX5_closed := fun w h => List.mem_cons_of_mem _ (List.mem_append_left _ (List.mem_append_right _ h))
  refine z_of (maxL := 3) (own := RX5) [(0, .ref (G.2.1 5)), (1, .int (nI a)), (2, .int (nI b))] rfl (by decide +kernel) rfl (Nat.le_of_ble_eq_true rfl) rfl (fun Z C E => ?_)
  refine z_iload_n (pc' := 1) C dX5_closed_0 rfl 1 rfl rfl ?_
  refine z_iconst (v := 0) (pc' := 2) C dX5_closed_1 rfl rfl ?_
  refine z_aload_n (pc' := 3) C dX5_closed_2 rfl 0 rfl rfl ?_
  refine z_get (pc' := 6) C hU5 5 (by decide) q_o5 rfl 2 (by decide) (by decide +kernel) (v := .ref (G.2.1 4)) rfl dX5_closed_3 rfl ?_
  refine z_get (pc' := 9) C hU4 4 (by decide) q_o4 rfl 0 (by decide) (by decide +kernel) (v := .int (sc 3)) rfl dX5_closed_6 rfl ?_
  refine z_cast (st' := [.int (nI R), .int 0, .int (nI a)]) rfl rfl rfl rfl (congrArg (fun z => Value.int z :: [.int 0, .int (nI a)]) hR) ?_
  refine z_cS (n := 3) (pc' := 12) (As := [.int (nI a), .int 0, .int (nI R)]) (rest := []) C (c_X5_isOutsideB l G sc ia la (nI a) 0 (nI R) false ho) gX5_closed_X5_isOutside rfl rfl rfl (by decide +kernel) (by decide) rfl rfl dX5_closed_9 (Nat.le_of_ble_eq_true rfl) rfl (k_I ?_)
  show Z sc ia la [(0, .ref (G.2.1 5)), (1, .int (nI a)), (2, .int (nI b))] 12 [.int 0]
  refine z_if_ne (pc' := 15) C 32 dX5_closed_12 rfl rfl (fun h_12 => absurd h_12 (by decide)) (fun h_12 => ?_)
  refine z_iload_n (pc' := 16) C dX5_closed_15 rfl 2 rfl rfl ?_
  refine z_iconst (v := 0) (pc' := 17) C dX5_closed_16 rfl rfl ?_
  refine z_aload_n (pc' := 18) C dX5_closed_17 rfl 0 rfl rfl ?_
  refine z_get (pc' := 21) C hU5 5 (by decide) q_o5 rfl 2 (by decide) (by decide +kernel) (v := .ref (G.2.1 4)) rfl dX5_closed_18 rfl ?_
  refine z_get (pc' := 24) C hU4 4 (by decide) q_o4 rfl 1 (by decide) (by decide +kernel) (v := .int (sc 4)) rfl dX5_closed_21 rfl ?_
  refine z_cast (st' := [.int (nI K), .int 0, .int (nI b)]) rfl rfl rfl rfl (congrArg (fun z => Value.int z :: [.int 0, .int (nI b)]) hC) ?_
  refine z_iconst (v := 1) (pc' := 25) C dX5_closed_24 rfl rfl ?_
  refine z_isub (pc' := 26) C dX5_closed_25 rfl ?_
  refine z_cS (n := 3) (pc' := 29) (As := [.int (nI b), .int 0, .int ((nI K) - 1)]) (rest := []) C (c_X5_isOutsideB l G sc ia la (nI b) 0 ((nI K) - 1) false hp) gX5_closed_X5_isOutside rfl rfl rfl (by decide +kernel) (by decide) rfl rfl dX5_closed_26 (Nat.le_of_ble_eq_true rfl) rfl (k_I ?_)
  show Z sc ia la [(0, .ref (G.2.1 5)), (1, .int (nI a)), (2, .int (nI b))] 29 [.int 0]
  refine z_if_eq (pc' := 32) C 36 dX5_closed_29 rfl rfl (fun h_29 => ?_) (fun h_29 => absurd h_29 (by decide))
  refine z_aload_n (pc' := 37) C dX5_closed_36 rfl 0 rfl rfl ?_
  refine z_get (pc' := 40) C hU5 5 (by decide) q_o5 rfl 2 (by decide) (by decide +kernel) (v := .ref (G.2.1 4)) rfl dX5_closed_37 rfl ?_
  refine z_iload_n (pc' := 41) C dX5_closed_40 rfl 1 rfl rfl ?_
  refine z_iload_n (pc' := 42) C dX5_closed_41 rfl 2 rfl rfl ?_
  refine z_cV (n := 2) (pc' := 45) (As := [.int (nI a), .int (nI b)]) (rest := []) C 4 (c_X4_closedCell l G sc ia la R K hR hC hR1 hR8 hC8 a b (by omega) (by omega)) gX5_closed_X4_closedCell rfl rfl rfl rfl (by decide +kernel) (by decide) rfl (by decide) q_o4 rfl rfl dX5_closed_42 (Nat.le_of_ble_eq_true rfl) rfl (k_I ?_)
  show Z sc ia la [(0, .ref (G.2.1 5)), (1, .int (nI a)), (2, .int (nI b))] 45 [.int (s_clo ia R a b)]
  exact z_iret (E := E) rfl dX5_closed_45 ⟨(congrArg (fun z => some (Value.int z)) rfl), rfl, rfl, rfl⟩

set_option maxHeartbeats 4000000 in
set_option maxRecDepth 100000 in
theorem c_X5_tied_ok (l : Launch) (G : Gv) (sc : Sc) (ia : Ia) (la : La) (R K : Nat) (hR : sc 3 = nI R) (hC : sc 4 = nI K) (hR1 : 1 ≤ R) (hR8 : R ≤ 8) (hC8 : K ≤ 8) (a b : Nat) (ha : a < R) (hb : b < K) (ho : s_out (nI a) 0 (nI R - 1) = false) (hp : s_out (nI b) 0 (nI K - 1) = false)  : Ct l yX5_tied wsX5_tied ({ frames := 7, cells := 0, slots := 0, locals := 250 }) G [.ref (G.2.1 5), .int (nI a), .int (nI b)] sc ia la (fI (s_tie ia K a b) sc ia la) := by
  have hU4 : ∀ w ∈ u_ws RX4 TX4 3, w ∈ wsX5_tied := fun w h => List.mem_cons_of_mem _ (List.mem_append_right _ h)
  have hU5 : ∀ w ∈ u_ws RX5 TX5 5, w ∈ wsX5_tied := fun w h => List.mem_cons_of_mem _ (List.mem_append_left _ (List.mem_append_right _ h))
  refine z_of (maxL := 3) (own := RX5) [(0, .ref (G.2.1 5)), (1, .int (nI a)), (2, .int (nI b))] rfl (by decide +kernel) rfl (Nat.le_of_ble_eq_true rfl) rfl (fun Z C E => ?_)
  refine z_iload_n (pc' := 1) C dX5_tied_0 rfl 1 rfl rfl ?_
  refine z_iconst (v := 0) (pc' := 2) C dX5_tied_1 rfl rfl ?_
  refine z_aload_n (pc' := 3) C dX5_tied_2 rfl 0 rfl rfl ?_
  refine z_get (pc' := 6) C hU5 5 (by decide) q_o5 rfl 2 (by decide) (by decide +kernel) (v := .ref (G.2.1 4)) rfl dX5_tied_3 rfl ?_
  refine z_get (pc' := 9) C hU4 4 (by decide) q_o4 rfl 0 (by decide) (by decide +kernel) (v := .int (sc 3)) rfl dX5_tied_6 rfl ?_
  refine z_cast (st' := [.int (nI R), .int 0, .int (nI a)]) rfl rfl rfl rfl (congrArg (fun z => Value.int z :: [.int 0, .int (nI a)]) hR) ?_
  refine z_iconst (v := 1) (pc' := 10) C dX5_tied_9 rfl rfl ?_
  refine z_isub (pc' := 11) C dX5_tied_10 rfl ?_
  refine z_cS (n := 3) (pc' := 14) (As := [.int (nI a), .int 0, .int ((nI R) - 1)]) (rest := []) C (c_X5_isOutsideB l G sc ia la (nI a) 0 ((nI R) - 1) false ho) gX5_tied_X5_isOutside rfl rfl rfl (by decide +kernel) (by decide) rfl rfl dX5_tied_11 (Nat.le_of_ble_eq_true rfl) rfl (k_I ?_)
  show Z sc ia la [(0, .ref (G.2.1 5)), (1, .int (nI a)), (2, .int (nI b))] 14 [.int 0]
  refine z_if_ne (pc' := 17) C 34 dX5_tied_14 rfl rfl (fun h_14 => absurd h_14 (by decide)) (fun h_14 => ?_)
  refine z_iload_n (pc' := 18) C dX5_tied_17 rfl 2 rfl rfl ?_
  refine z_iconst (v := 0) (pc' := 19) C dX5_tied_18 rfl rfl ?_
  refine z_aload_n (pc' := 20) C dX5_tied_19 rfl 0 rfl rfl ?_
  refine z_get (pc' := 23) C hU5 5 (by decide) q_o5 rfl 2 (by decide) (by decide +kernel) (v := .ref (G.2.1 4)) rfl dX5_tied_20 rfl ?_
  refine z_get (pc' := 26) C hU4 4 (by decide) q_o4 rfl 1 (by decide) (by decide +kernel) (v := .int (sc 4)) rfl dX5_tied_23 rfl ?_
  refine z_cast (st' := [.int (nI K), .int 0, .int (nI b)]) rfl rfl rfl rfl (congrArg (fun z => Value.int z :: [.int 0, .int (nI b)]) hC) ?_
  refine z_iconst (v := 1) (pc' := 27) C dX5_tied_26 rfl rfl ?_
  refine z_isub (pc' := 28) C dX5_tied_27 rfl ?_
  refine z_cS (n := 3) (pc' := 31) (As := [.int (nI b), .int 0, .int ((nI K) - 1)]) (rest := []) C (c_X5_isOutsideB l G sc ia la (nI b) 0 ((nI K) - 1) false hp) gX5_tied_X5_isOutside rfl rfl rfl (by decide +kernel) (by decide) rfl rfl dX5_tied_28 (Nat.le_of_ble_eq_true rfl) rfl (k_I ?_)
  show Z sc ia la [(0, .ref (G.2.1 5)), (1, .int (nI a)), (2, .int (nI b))] 31 [.int 0]
  refine z_if_eq (pc' := 34) C 38 dX5_tied_31 rfl rfl (fun h_31 => ?_) (fun h_31 => absurd h_31 (by decide))
  refine z_aload_n (pc' := 39) C dX5_tied_38 rfl 0 rfl rfl ?_
  refine z_get (pc' := 42) C hU5 5 (by decide) q_o5 rfl 2 (by decide) (by decide +kernel) (v := .ref (G.2.1 4)) rfl dX5_tied_39 rfl ?_
  refine z_iload_n (pc' := 43) C dX5_tied_42 rfl 1 rfl rfl ?_
  refine z_iload_n (pc' := 44) C dX5_tied_43 rfl 2 rfl rfl ?_
  refine z_cV (n := 2) (pc' := 47) (As := [.int (nI a), .int (nI b)]) (rest := []) C 4 (c_X4_tiedCell l G sc ia la R K hR hC hR1 hR8 hC8 a b (by omega) (by omega)) gX5_tied_X4_tiedCell rfl rfl rfl rfl (by decide +kernel) (by decide) rfl (by decide) q_o4 rfl rfl dX5_tied_44 (Nat.le_of_ble_eq_true rfl) rfl (k_I ?_)
  show Z sc ia la [(0, .ref (G.2.1 5)), (1, .int (nI a)), (2, .int (nI b))] 47 [.int (s_tie ia K a b)]
  exact z_iret (E := E) rfl dX5_tied_47 ⟨(congrArg (fun z => some (Value.int z)) rfl), rfl, rfl, rfl⟩

set_option maxHeartbeats 4000000 in
set_option maxRecDepth 100000 in
theorem c_X5_together_a (l : Launch) (G : Gv) (sc : Sc) (ia : Ia) (la : La) (a b v : Int32) (z : Bool) (ha : s_has a (sc 5) = false)  : Ct l yX5_together wsX5_together ({ frames := 7, cells := 0, slots := 0, locals := 250 }) G [.ref (G.2.1 5), .int a, .int b, .int v, .int (bI (z))] sc ia la (fI (-101) sc ia la) := by
  have hU5 : ∀ w ∈ u_ws RX5 TX5 5, w ∈ wsX5_together := fun w h => List.mem_cons_of_mem _ (List.mem_append_left _ (List.mem_append_right _ h))
  refine z_of (maxL := 6) (own := RX5) [(0, .ref (G.2.1 5)), (1, .int a), (2, .int b), (3, .int v), (4, .int (bI (z)))] rfl (by decide +kernel) rfl (Nat.le_of_ble_eq_true rfl) rfl (fun Z C E => ?_)
  refine z_aload_n (pc' := 1) C dX5_together_0 rfl 0 rfl rfl ?_
  refine z_get (pc' := 4) C hU5 5 (by decide) q_o5 rfl 3 (by decide) (by decide +kernel) (v := .ref (G.2.1 3)) rfl dX5_together_1 rfl ?_
  refine z_iload_n (pc' := 5) C dX5_together_4 rfl 1 rfl rfl ?_
  refine z_cV (n := 1) (pc' := 8) (As := [.int a]) (rest := []) C 3 (c_X3_has_no l G sc ia la a ha) gX5_together_X3_has rfl rfl rfl rfl (by decide +kernel) (by decide) rfl (by decide) q_o3 rfl rfl dX5_together_5 (Nat.le_of_ble_eq_true rfl) rfl (k_I ?_)
  show Z sc ia la [(0, .ref (G.2.1 5)), (1, .int a), (2, .int b), (3, .int v), (4, .int (bI (z)))] 8 [.int 0]
  refine z_if_eq (pc' := 11) C 27 dX5_together_8 rfl rfl (fun h_8 => ?_) (fun h_8 => absurd h_8 (by decide))
  refine z_bipush (v := -101) (pc' := 29) C dX5_together_27 rfl rfl ?_
  exact z_iret (E := E) rfl dX5_together_29 ⟨(congrArg (fun z => some (Value.int z)) rfl), rfl, rfl, rfl⟩

set_option maxHeartbeats 4000000 in
set_option maxRecDepth 100000 in
theorem c_X5_together_b (l : Launch) (G : Gv) (sc : Sc) (ia : Ia) (la : La) (m : Nat) (hm : sc 5 = nI m) (hM : m ≤ 5) (a : Nat) (haj : a < m) (b v : Int32) (z : Bool) (hb : s_has b (sc 5) = false)  : Ct l yX5_together wsX5_together ({ frames := 7, cells := 0, slots := 0, locals := 250 }) G [.ref (G.2.1 5), .int (nI a), .int b, .int v, .int (bI (z))] sc ia la (fI (-101) sc ia la) := by
  have hU5 : ∀ w ∈ u_ws RX5 TX5 5, w ∈ wsX5_together := fun w h => List.mem_cons_of_mem _ (List.mem_append_left _ (List.mem_append_right _ h))
  refine z_of (maxL := 6) (own := RX5) [(0, .ref (G.2.1 5)), (1, .int (nI a)), (2, .int b), (3, .int v), (4, .int (bI (z)))] rfl (by decide +kernel) rfl (Nat.le_of_ble_eq_true rfl) rfl (fun Z C E => ?_)
  refine z_aload_n (pc' := 1) C dX5_together_0 rfl 0 rfl rfl ?_
  refine z_get (pc' := 4) C hU5 5 (by decide) q_o5 rfl 3 (by decide) (by decide +kernel) (v := .ref (G.2.1 3)) rfl dX5_together_1 rfl ?_
  refine z_iload_n (pc' := 5) C dX5_together_4 rfl 1 rfl rfl ?_
  refine z_cV (n := 1) (pc' := 8) (As := [.int (nI a)]) (rest := []) C 3 (c_X3_has_ok l G sc ia la m hm hM a haj) gX5_together_X3_has rfl rfl rfl rfl (by decide +kernel) (by decide) rfl (by decide) q_o3 rfl rfl dX5_together_5 (Nat.le_of_ble_eq_true rfl) rfl (k_I ?_)
  show Z sc ia la [(0, .ref (G.2.1 5)), (1, .int (nI a)), (2, .int b), (3, .int v), (4, .int (bI (z)))] 8 [.int 1]
  refine z_if_eq (pc' := 11) C 27 dX5_together_8 rfl rfl (fun h_8 => absurd h_8 (by decide)) (fun h_8 => ?_)
  refine z_aload_n (pc' := 12) C dX5_together_11 rfl 0 rfl rfl ?_
  refine z_get (pc' := 15) C hU5 5 (by decide) q_o5 rfl 3 (by decide) (by decide +kernel) (v := .ref (G.2.1 3)) rfl dX5_together_12 rfl ?_
  refine z_iload_n (pc' := 16) C dX5_together_15 rfl 2 rfl rfl ?_
  refine z_cV (n := 1) (pc' := 19) (As := [.int b]) (rest := []) C 3 (c_X3_has_no l G sc ia la b hb) gX5_together_X3_has rfl rfl rfl rfl (by decide +kernel) (by decide) rfl (by decide) q_o3 rfl rfl dX5_together_16 (Nat.le_of_ble_eq_true rfl) rfl (k_I ?_)
  show Z sc ia la [(0, .ref (G.2.1 5)), (1, .int (nI a)), (2, .int b), (3, .int v), (4, .int (bI (z)))] 19 [.int 0]
  refine z_if_eq (pc' := 22) C 27 dX5_together_19 rfl rfl (fun h_19 => ?_) (fun h_19 => absurd h_19 (by decide))
  refine z_bipush (v := -101) (pc' := 29) C dX5_together_27 rfl rfl ?_
  exact z_iret (E := E) rfl dX5_together_29 ⟨(congrArg (fun z => some (Value.int z)) rfl), rfl, rfl, rfl⟩

set_option maxHeartbeats 4000000 in
set_option maxRecDepth 100000 in
theorem c_X5_together_same (l : Launch) (G : Gv) (sc : Sc) (ia : Ia) (la : La) (m : Nat) (hm : sc 5 = nI m) (hM : m ≤ 5) (a : Nat) (haj : a < m) (v : Int32) (z : Bool)  : Ct l yX5_together wsX5_together ({ frames := 7, cells := 0, slots := 0, locals := 250 }) G [.ref (G.2.1 5), .int (nI a), .int (nI a), .int v, .int (bI (z))] sc ia la (fI (-101) sc ia la) := by
  have hU5 : ∀ w ∈ u_ws RX5 TX5 5, w ∈ wsX5_together := fun w h => List.mem_cons_of_mem _ (List.mem_append_left _ (List.mem_append_right _ h))
  refine z_of (maxL := 6) (own := RX5) [(0, .ref (G.2.1 5)), (1, .int (nI a)), (2, .int (nI a)), (3, .int v), (4, .int (bI (z)))] rfl (by decide +kernel) rfl (Nat.le_of_ble_eq_true rfl) rfl (fun Z C E => ?_)
  refine z_aload_n (pc' := 1) C dX5_together_0 rfl 0 rfl rfl ?_
  refine z_get (pc' := 4) C hU5 5 (by decide) q_o5 rfl 3 (by decide) (by decide +kernel) (v := .ref (G.2.1 3)) rfl dX5_together_1 rfl ?_
  refine z_iload_n (pc' := 5) C dX5_together_4 rfl 1 rfl rfl ?_
  refine z_cV (n := 1) (pc' := 8) (As := [.int (nI a)]) (rest := []) C 3 (c_X3_has_ok l G sc ia la m hm hM a haj) gX5_together_X3_has rfl rfl rfl rfl (by decide +kernel) (by decide) rfl (by decide) q_o3 rfl rfl dX5_together_5 (Nat.le_of_ble_eq_true rfl) rfl (k_I ?_)
  show Z sc ia la [(0, .ref (G.2.1 5)), (1, .int (nI a)), (2, .int (nI a)), (3, .int v), (4, .int (bI (z)))] 8 [.int 1]
  refine z_if_eq (pc' := 11) C 27 dX5_together_8 rfl rfl (fun h_8 => absurd h_8 (by decide)) (fun h_8 => ?_)
  refine z_aload_n (pc' := 12) C dX5_together_11 rfl 0 rfl rfl ?_
  refine z_get (pc' := 15) C hU5 5 (by decide) q_o5 rfl 3 (by decide) (by decide +kernel) (v := .ref (G.2.1 3)) rfl dX5_together_12 rfl ?_
  refine z_iload_n (pc' := 16) C dX5_together_15 rfl 2 rfl rfl ?_
  refine z_cV (n := 1) (pc' := 19) (As := [.int (nI a)]) (rest := []) C 3 (c_X3_has_ok l G sc ia la m hm hM a haj) gX5_together_X3_has rfl rfl rfl rfl (by decide +kernel) (by decide) rfl (by decide) q_o3 rfl rfl dX5_together_16 (Nat.le_of_ble_eq_true rfl) rfl (k_I ?_)
  show Z sc ia la [(0, .ref (G.2.1 5)), (1, .int (nI a)), (2, .int (nI a)), (3, .int v), (4, .int (bI (z)))] 19 [.int 1]
  refine z_if_eq (pc' := 22) C 27 dX5_together_19 rfl rfl (fun h_19 => absurd h_19 (by decide)) (fun h_19 => ?_)
  refine z_iload_n (pc' := 23) C dX5_together_22 rfl 1 rfl rfl ?_
  refine z_iload_n (pc' := 24) C dX5_together_23 rfl 2 rfl rfl ?_
  refine z_icmpN_ne (a := a) (b := a) (pc' := 27) C 30 (by omega) (by omega) dX5_together_24 rfl rfl (fun h_24 => absurd h_24 (by exact fun q => q rfl)) (fun h_24 => ?_)
  refine z_bipush (v := -101) (pc' := 29) C dX5_together_27 rfl rfl ?_
  exact z_iret (E := E) rfl dX5_together_29 ⟨(congrArg (fun z => some (Value.int z)) rfl), rfl, rfl, rfl⟩

set_option maxHeartbeats 4000000 in
set_option maxRecDepth 100000 in
theorem c_X5_together_out (l : Launch) (G : Gv) (sc : Sc) (ia : Ia) (la : La) (m : Nat) (hm : sc 5 = nI m) (hM : m ≤ 5) (a b : Nat) (haj : a < m) (hbj : b < m) (hab : ¬ a = b) (v : Int32) (z : Bool) (ho : s_out v (-10000) 10000 = true)  : Ct l yX5_together wsX5_together ({ frames := 7, cells := 0, slots := 0, locals := 250 }) G [.ref (G.2.1 5), .int (nI a), .int (nI b), .int v, .int (bI (z))] sc ia la (fI (-102) sc ia la) := by
  have hU5 : ∀ w ∈ u_ws RX5 TX5 5, w ∈ wsX5_together := fun w h => List.mem_cons_of_mem _ (List.mem_append_left _ (List.mem_append_right _ h))
  refine z_of (maxL := 6) (own := RX5) [(0, .ref (G.2.1 5)), (1, .int (nI a)), (2, .int (nI b)), (3, .int v), (4, .int (bI (z)))] rfl (by decide +kernel) rfl (Nat.le_of_ble_eq_true rfl) rfl (fun Z C E => ?_)
  refine z_aload_n (pc' := 1) C dX5_together_0 rfl 0 rfl rfl ?_
  refine z_get (pc' := 4) C hU5 5 (by decide) q_o5 rfl 3 (by decide) (by decide +kernel) (v := .ref (G.2.1 3)) rfl dX5_together_1 rfl ?_
  refine z_iload_n (pc' := 5) C dX5_together_4 rfl 1 rfl rfl ?_
  refine z_cV (n := 1) (pc' := 8) (As := [.int (nI a)]) (rest := []) C 3 (c_X3_has_ok l G sc ia la m hm hM a haj) gX5_together_X3_has rfl rfl rfl rfl (by decide +kernel) (by decide) rfl (by decide) q_o3 rfl rfl dX5_together_5 (Nat.le_of_ble_eq_true rfl) rfl (k_I ?_)
  show Z sc ia la [(0, .ref (G.2.1 5)), (1, .int (nI a)), (2, .int (nI b)), (3, .int v), (4, .int (bI (z)))] 8 [.int 1]
  refine z_if_eq (pc' := 11) C 27 dX5_together_8 rfl rfl (fun h_8 => absurd h_8 (by decide)) (fun h_8 => ?_)
  refine z_aload_n (pc' := 12) C dX5_together_11 rfl 0 rfl rfl ?_
  refine z_get (pc' := 15) C hU5 5 (by decide) q_o5 rfl 3 (by decide) (by decide +kernel) (v := .ref (G.2.1 3)) rfl dX5_together_12 rfl ?_
  refine z_iload_n (pc' := 16) C dX5_together_15 rfl 2 rfl rfl ?_
  refine z_cV (n := 1) (pc' := 19) (As := [.int (nI b)]) (rest := []) C 3 (c_X3_has_ok l G sc ia la m hm hM b hbj) gX5_together_X3_has rfl rfl rfl rfl (by decide +kernel) (by decide) rfl (by decide) q_o3 rfl rfl dX5_together_16 (Nat.le_of_ble_eq_true rfl) rfl (k_I ?_)
  show Z sc ia la [(0, .ref (G.2.1 5)), (1, .int (nI a)), (2, .int (nI b)), (3, .int v), (4, .int (bI (z)))] 19 [.int 1]
  refine z_if_eq (pc' := 22) C 27 dX5_together_19 rfl rfl (fun h_19 => absurd h_19 (by decide)) (fun h_19 => ?_)
  refine z_iload_n (pc' := 23) C dX5_together_22 rfl 1 rfl rfl ?_
  refine z_iload_n (pc' := 24) C dX5_together_23 rfl 2 rfl rfl ?_
  refine z_icmpN_ne (a := a) (b := b) (pc' := 27) C 30 (by omega) (by omega) dX5_together_24 rfl rfl (fun h_24 => ?_) (fun h_24 => absurd h_24 (by exact hab))
  refine z_iload_n (pc' := 31) C dX5_together_30 rfl 3 rfl rfl ?_
  refine z_sipush (v := -10000) (pc' := 34) C dX5_together_31 rfl rfl ?_
  refine z_sipush (v := 10000) (pc' := 37) C dX5_together_34 rfl rfl ?_
  refine z_cS (n := 3) (pc' := 40) (As := [.int v, .int (-10000), .int 10000]) (rest := []) C (c_X5_isOutsideB l G sc ia la v (-10000) 10000 true ho) gX5_together_X5_isOutside rfl rfl rfl (by decide +kernel) (by decide) rfl rfl dX5_together_37 (Nat.le_of_ble_eq_true rfl) rfl (k_I ?_)
  show Z sc ia la [(0, .ref (G.2.1 5)), (1, .int (nI a)), (2, .int (nI b)), (3, .int v), (4, .int (bI (z)))] 40 [.int 1]
  refine z_if_eq (pc' := 43) C 46 dX5_together_40 rfl rfl (fun h_40 => absurd h_40 (by decide)) (fun h_40 => ?_)
  refine z_bipush (v := -102) (pc' := 45) C dX5_together_43 rfl rfl ?_
  exact z_iret (E := E) rfl dX5_together_45 ⟨(congrArg (fun z => some (Value.int z)) rfl), rfl, rfl, rfl⟩

set_option maxHeartbeats 4000000 in
set_option maxRecDepth 100000 in
theorem c_X5_together_ok (l : Launch) (G : Gv) (sc : Sc) (ia : Ia) (la : La) (m : Nat) (hm : sc 5 = nI m) (hM : m ≤ 5) (a b : Nat) (haj : a < m) (hbj : b < m) (hab : ¬ a = b) (v : Int32) (z : Bool) (ho : s_out v (-10000) 10000 = false)  : Ct l yX5_together wsX5_together ({ frames := 7, cells := 0, slots := 0, locals := 250 }) G [.ref (G.2.1 5), .int (nI a), .int (nI b), .int v, .int (bI (z))] sc ia la (fI (ia (19 + a) b) sc (s_put ia a b (bI z) (if z = true then v else 0)) la) := by
  have hU3 : ∀ w ∈ u_ws RX3 TX3 3, w ∈ wsX5_together := fun w h => List.mem_cons_of_mem _ (List.mem_append_right _ h)
  have hU5 : ∀ w ∈ u_ws RX5 TX5 5, w ∈ wsX5_together := fun w h => List.mem_cons_of_mem _ (List.mem_append_left _ (List.mem_append_right _ h))
  refine z_of (maxL := 6) (own := RX5) [(0, .ref (G.2.1 5)), (1, .int (nI a)), (2, .int (nI b)), (3, .int v), (4, .int (bI (z)))] rfl (by decide +kernel) rfl (Nat.le_of_ble_eq_true rfl) rfl (fun Z C E => ?_)
  refine z_aload_n (pc' := 1) C dX5_together_0 rfl 0 rfl rfl ?_
  refine z_get (pc' := 4) C hU5 5 (by decide) q_o5 rfl 3 (by decide) (by decide +kernel) (v := .ref (G.2.1 3)) rfl dX5_together_1 rfl ?_
  refine z_iload_n (pc' := 5) C dX5_together_4 rfl 1 rfl rfl ?_
  refine z_cV (n := 1) (pc' := 8) (As := [.int (nI a)]) (rest := []) C 3 (c_X3_has_ok l G sc ia la m hm hM a haj) gX5_together_X3_has rfl rfl rfl rfl (by decide +kernel) (by decide) rfl (by decide) q_o3 rfl rfl dX5_together_5 (Nat.le_of_ble_eq_true rfl) rfl (k_I ?_)
  show Z sc ia la [(0, .ref (G.2.1 5)), (1, .int (nI a)), (2, .int (nI b)), (3, .int v), (4, .int (bI (z)))] 8 [.int 1]
  refine z_if_eq (pc' := 11) C 27 dX5_together_8 rfl rfl (fun h_8 => absurd h_8 (by decide)) (fun h_8 => ?_)
  refine z_aload_n (pc' := 12) C dX5_together_11 rfl 0 rfl rfl ?_
  refine z_get (pc' := 15) C hU5 5 (by decide) q_o5 rfl 3 (by decide) (by decide +kernel) (v := .ref (G.2.1 3)) rfl dX5_together_12 rfl ?_
  refine z_iload_n (pc' := 16) C dX5_together_15 rfl 2 rfl rfl ?_
  refine z_cV (n := 1) (pc' := 19) (As := [.int (nI b)]) (rest := []) C 3 (c_X3_has_ok l G sc ia la m hm hM b hbj) gX5_together_X3_has rfl rfl rfl rfl (by decide +kernel) (by decide) rfl (by decide) q_o3 rfl rfl dX5_together_16 (Nat.le_of_ble_eq_true rfl) rfl (k_I ?_)
  show Z sc ia la [(0, .ref (G.2.1 5)), (1, .int (nI a)), (2, .int (nI b)), (3, .int v), (4, .int (bI (z)))] 19 [.int 1]
  refine z_if_eq (pc' := 22) C 27 dX5_together_19 rfl rfl (fun h_19 => absurd h_19 (by decide)) (fun h_19 => ?_)
  refine z_iload_n (pc' := 23) C dX5_together_22 rfl 1 rfl rfl ?_
  refine z_iload_n (pc' := 24) C dX5_together_23 rfl 2 rfl rfl ?_
  refine z_icmpN_ne (a := a) (b := b) (pc' := 27) C 30 (by omega) (by omega) dX5_together_24 rfl rfl (fun h_24 => ?_) (fun h_24 => absurd h_24 (by exact hab))
  refine z_iload_n (pc' := 31) C dX5_together_30 rfl 3 rfl rfl ?_
  refine z_sipush (v := -10000) (pc' := 34) C dX5_together_31 rfl rfl ?_
  refine z_sipush (v := 10000) (pc' := 37) C dX5_together_34 rfl rfl ?_
  refine z_cS (n := 3) (pc' := 40) (As := [.int v, .int (-10000), .int 10000]) (rest := []) C (c_X5_isOutsideB l G sc ia la v (-10000) 10000 false ho) gX5_together_X5_isOutside rfl rfl rfl (by decide +kernel) (by decide) rfl rfl dX5_together_37 (Nat.le_of_ble_eq_true rfl) rfl (k_I ?_)
  show Z sc ia la [(0, .ref (G.2.1 5)), (1, .int (nI a)), (2, .int (nI b)), (3, .int v), (4, .int (bI (z)))] 40 [.int 0]
  refine z_if_eq (pc' := 43) C 46 dX5_together_40 rfl rfl (fun h_40 => ?_) (fun h_40 => absurd h_40 (by decide))
  refine z_aload_n (pc' := 47) C dX5_together_46 rfl 0 rfl rfl ?_
  refine z_get (pc' := 50) C hU5 5 (by decide) q_o5 rfl 3 (by decide) (by decide +kernel) (v := .ref (G.2.1 3)) rfl dX5_together_47 rfl ?_
  refine z_get (pc' := 53) C hU3 3 (by decide) q_o3 rfl 1 (by decide) (by decide +kernel) (v := .ref (G.2.1 51)) rfl dX5_together_50 rfl ?_
  refine z_iload_n (pc' := 54) C dX5_together_53 rfl 1 rfl rfl ?_
  refine z_aald (pc' := 55) C 51 (by decide) (i := a) (a := G.2.1 (26 + a)) (ty := .int) rfl q_v51 (by omega) (by decide) (if_pos (by omega)) dX5_together_54 rfl ?_
  refine z_iload_n (pc' := 56) C dX5_together_55 rfl 2 rfl rfl ?_
  refine z_iald (pc' := 57) C (26 + a) (by omega) (N := 5) (i := b) (f := ia (19 + a)) (q_ir19 a (by omega)) (by omega) (by decide) dX5_together_56 rfl ?_
  refine z_istore (lv' := [(5, .int ((ia (19 + a)) b)), (0, .ref (G.2.1 5)), (1, .int (nI a)), (2, .int (nI b)), (3, .int v), (4, .int (bI (z)))]) (pc' := 59) C dX5_together_57 (by decide) rfl rfl ?_
  refine z_aload_n (pc' := 60) C dX5_together_59 rfl 1 rfl rfl ?_
  refine z_get (pc' := 63) C hU5 5 (by decide) q_o5 rfl 3 (by decide) (by decide +kernel) (v := .ref (G.2.1 3)) rfl dX5_together_60 rfl ?_
  refine z_iload_n (pc' := 64) C dX5_together_63 rfl 2 rfl rfl ?_
  refine z_iload_n (pc' := 65) C dX5_together_64 rfl 3 rfl rfl ?_
  refine z_iload_n (pc' := 66) C dX5_together_65 rfl 4 rfl rfl ?_
  refine z_iload (pc' := 68) C dX5_together_66 5 rfl rfl ?_
  refine z_cV (n := 4) (pc' := 71) (As := [.int (nI a), .int (nI b), .int v, .int (bI (z))]) (rest := []) C 3 (c_X3_put l G sc ia la a b v z (by omega) (by omega)) gX5_together_X3_put rfl rfl rfl rfl (by decide +kernel) (by decide) rfl (by decide) q_o3 rfl rfl dX5_together_68 (Nat.le_of_ble_eq_true rfl) rfl (k_V ?_)
  show Z sc (s_put ia a b (bI z) (if z = true then v else 0)) la [(5, .int ((ia (19 + a)) b)), (0, .ref (G.2.1 5)), (1, .int (nI a)), (2, .int (nI b)), (3, .int v), (4, .int (bI (z)))] 71 []
  refine z_iload (pc' := 73) C dX5_together_71 0 rfl rfl ?_
  exact z_iret (E := E) rfl dX5_together_73 ⟨(congrArg (fun z => some (Value.int z)) rfl), rfl, rfl, rfl⟩

set_option maxHeartbeats 4000000 in
set_option maxRecDepth 100000 in
theorem c_X5_gain_no (l : Launch) (G : Gv) (sc : Sc) (ia : Ia) (la : La) (a : Int32) (ha : s_has a (sc 5) = false)  : Ct l yX5_gain wsX5_gain ({ frames := 7, cells := 0, slots := 0, locals := 250 }) G [.ref (G.2.1 5), .int a] sc ia la (fI (-1000001) sc ia la) := by
  have hU5 : ∀ w ∈ u_ws RX5 TX5 5, w ∈ wsX5_gain := fun w h => List.mem_cons_of_mem _ (List.mem_append_left _ (List.mem_append_right _ h))
  refine z_of (maxL := 2) (own := RX5) [(0, .ref (G.2.1 5)), (1, .int a)] rfl (by decide +kernel) rfl (Nat.le_of_ble_eq_true rfl) rfl (fun Z C E => ?_)
  refine z_aload_n (pc' := 1) C dX5_gain_0 rfl 0 rfl rfl ?_
  refine z_get (pc' := 4) C hU5 5 (by decide) q_o5 rfl 3 (by decide) (by decide +kernel) (v := .ref (G.2.1 3)) rfl dX5_gain_1 rfl ?_
  refine z_iload_n (pc' := 5) C dX5_gain_4 rfl 1 rfl rfl ?_
  refine z_cV (n := 1) (pc' := 8) (As := [.int a]) (rest := []) C 3 (c_X3_has_no l G sc ia la a ha) gX5_gain_X3_has rfl rfl rfl rfl (by decide +kernel) (by decide) rfl (by decide) q_o3 rfl rfl dX5_gain_5 (Nat.le_of_ble_eq_true rfl) rfl (k_I ?_)
  show Z sc ia la [(0, .ref (G.2.1 5)), (1, .int a)] 8 [.int 0]
  refine z_if_eq (pc' := 11) C 22 dX5_gain_8 rfl rfl (fun h_8 => ?_) (fun h_8 => absurd h_8 (by decide))
  refine z_ldc (v := -1000001) (pc' := 24) C (by decide +kernel) dX5_gain_22 rfl ?_
  exact z_iret (E := E) rfl dX5_gain_24 ⟨(congrArg (fun z => some (Value.int z)) rfl), rfl, rfl, rfl⟩

set_option maxHeartbeats 4000000 in
set_option maxRecDepth 100000 in
theorem c_X5_gain_ok (l : Launch) (G : Gv) (sc : Sc) (ia : Ia) (la : La) (m : Nat) (hm : sc 5 = nI m) (hM : m ≤ 5) (a : Nat) (haj : a < m)  : Ct l yX5_gain wsX5_gain ({ frames := 7, cells := 0, slots := 0, locals := 250 }) G [.ref (G.2.1 5), .int (nI a)] sc ia la (fI (s_fg ia m a) sc ia la) := by
  have hU5 : ∀ w ∈ u_ws RX5 TX5 5, w ∈ wsX5_gain := fun w h => List.mem_cons_of_mem _ (List.mem_append_left _ (List.mem_append_right _ h))
  refine z_of (maxL := 2) (own := RX5) [(0, .ref (G.2.1 5)), (1, .int (nI a))] rfl (by decide +kernel) rfl (Nat.le_of_ble_eq_true rfl) rfl (fun Z C E => ?_)
  refine z_aload_n (pc' := 1) C dX5_gain_0 rfl 0 rfl rfl ?_
  refine z_get (pc' := 4) C hU5 5 (by decide) q_o5 rfl 3 (by decide) (by decide +kernel) (v := .ref (G.2.1 3)) rfl dX5_gain_1 rfl ?_
  refine z_iload_n (pc' := 5) C dX5_gain_4 rfl 1 rfl rfl ?_
  refine z_cV (n := 1) (pc' := 8) (As := [.int (nI a)]) (rest := []) C 3 (c_X3_has_ok l G sc ia la m hm hM a haj) gX5_gain_X3_has rfl rfl rfl rfl (by decide +kernel) (by decide) rfl (by decide) q_o3 rfl rfl dX5_gain_5 (Nat.le_of_ble_eq_true rfl) rfl (k_I ?_)
  show Z sc ia la [(0, .ref (G.2.1 5)), (1, .int (nI a))] 8 [.int 1]
  refine z_if_eq (pc' := 11) C 22 dX5_gain_8 rfl rfl (fun h_8 => absurd h_8 (by decide)) (fun h_8 => ?_)
  refine z_aload_n (pc' := 12) C dX5_gain_11 rfl 0 rfl rfl ?_
  refine z_get (pc' := 15) C hU5 5 (by decide) q_o5 rfl 3 (by decide) (by decide +kernel) (v := .ref (G.2.1 3)) rfl dX5_gain_12 rfl ?_
  refine z_iload_n (pc' := 16) C dX5_gain_15 rfl 1 rfl rfl ?_
  refine z_cV (n := 1) (pc' := 19) (As := [.int (nI a)]) (rest := []) C 3 (c_X3_firstGain l G sc ia la m hm hM a (by omega)) gX5_gain_X3_firstGain rfl rfl rfl rfl (by decide +kernel) (by decide) rfl (by decide) q_o3 rfl rfl dX5_gain_16 (Nat.le_of_ble_eq_true rfl) rfl (k_I ?_)
  show Z sc ia la [(0, .ref (G.2.1 5)), (1, .int (nI a))] 19 [.int (s_fg ia m a)]
  refine z_goto (pc' := 24) C dX5_gain_19 rfl ?_
  exact z_iret (E := E) rfl dX5_gain_24 ⟨(congrArg (fun z => some (Value.int z)) rfl), rfl, rfl, rfl⟩

def s_ls (ia : Ia) (m : Nat) : Nat → Int32
  | 0 => -1
  | a + 1 => if s_ls ia m a < s_spr ia m a then s_spr ia m a else s_ls ia m a
set_option maxHeartbeats 4000000 in
set_option maxRecDepth 100000 in
theorem c_X5_loose_ok (l : Launch) (G : Gv) (sc : Sc) (ia : Ia) (la : La) (m : Nat) (hm : sc 5 = nI m) (hM : m ≤ 5)  : Ct l yX5_loose wsX5_loose ({ frames := 7, cells := 0, slots := 0, locals := 250 }) G [.ref (G.2.1 5)] sc ia la (fI (s_ls ia m m) sc ia la) := by
  have hU3 : ∀ w ∈ u_ws RX3 TX3 3, w ∈ wsX5_loose := fun w h => List.mem_cons_of_mem _ (List.mem_append_right _ h)
  have hU5 : ∀ w ∈ u_ws RX5 TX5 5, w ∈ wsX5_loose := fun w h => List.mem_cons_of_mem _ (List.mem_append_left _ (List.mem_append_right _ h))
  refine z_of (maxL := 3) (own := RX5) [(0, .ref (G.2.1 5))] rfl (by decide +kernel) rfl (Nat.le_of_ble_eq_true rfl) rfl (fun Z C E => ?_)
  refine z_iconst (v := -1) (pc' := 1) C dX5_loose_0 rfl rfl ?_
  refine z_istore_n (lv' := [(1, .int (-1)), (0, .ref (G.2.1 5))]) (pc' := 2) C dX5_loose_1 rfl (by decide) rfl rfl ?_
  refine z_iconst (v := 0) (pc' := 3) C dX5_loose_2 rfl rfl ?_
  refine z_istore_n (lv' := [(2, .int 0), (1, .int (-1)), (0, .ref (G.2.1 5))]) (pc' := 4) C dX5_loose_3 rfl (by decide) rfl rfl ?_
  have L4 : ∀ (fuel : Nat) (a : Nat) (ha : a ≤ m), m - a < fuel → Z sc ia la [(2, .int (nI a)), (1, .int (s_ls ia m a)), (0, .ref (G.2.1 5))] 4 [] := by
    intro fuel
    induction fuel with
    | zero => intro a ha hm4; exact absurd hm4 (Nat.not_lt_zero _)
    | succ fuel ih4 =>
      intro a ha hm4
      refine z_iload_n (pc' := 5) C dX5_loose_4 rfl 0 rfl rfl ?_
      refine z_aload_n (pc' := 6) C dX5_loose_5 rfl 2 rfl rfl ?_
      refine z_get (pc' := 9) C hU5 5 (by decide) q_o5 rfl 3 (by decide) (by decide +kernel) (v := .ref (G.2.1 3)) rfl dX5_loose_6 rfl ?_
      refine z_get (pc' := 12) C hU3 3 (by decide) q_o3 rfl 0 (by decide) (by decide +kernel) (v := .int (sc 5)) rfl dX5_loose_9 rfl ?_
      refine z_cast (st' := [.int (nI m), .int (nI a)]) rfl rfl rfl rfl (congrArg (fun z => Value.int z :: [.int (nI a)]) hm) ?_
      refine z_icmpN_ge (a := a) (b := m) (pc' := 15) C 34 (by omega) (by omega) dX5_loose_12 rfl rfl (fun h_12 => ?_) (fun h_12 => ?_)
      · refine z_iload_n (pc' := 35) C dX5_loose_34 rfl 1 rfl rfl ?_
        exact z_iret (E := E) rfl dX5_loose_35 ⟨(congrArg (fun z => some (Value.int z)) (show _ = _ from (by first | rfl | (have e9 : a = m := (by omega); subst e9; rfl)))), rfl, rfl, rfl⟩
      · refine z_iload_n (pc' := 16) C dX5_loose_15 rfl 1 rfl rfl ?_
        refine z_aload_n (pc' := 17) C dX5_loose_16 rfl 2 rfl rfl ?_
        refine z_get (pc' := 20) C hU5 5 (by decide) q_o5 rfl 3 (by decide) (by decide +kernel) (v := .ref (G.2.1 3)) rfl dX5_loose_17 rfl ?_
        refine z_iload_n (pc' := 21) C dX5_loose_20 rfl 0 rfl rfl ?_
        refine z_cV (n := 1) (pc' := 24) (As := [.int (nI a)]) (rest := [.int (s_ls ia m a)]) C 3 (c_X3_spread l G sc ia la m hm hM a (by omega)) gX5_loose_X3_spread rfl rfl rfl rfl (by decide +kernel) (by decide) rfl (by decide) q_o3 rfl rfl dX5_loose_21 (Nat.le_of_ble_eq_true rfl) rfl (k_I ?_)
        show Z sc ia la [(2, .int (nI a)), (1, .int (s_ls ia m a)), (0, .ref (G.2.1 5))] 24 [.int (s_spr ia m a), .int (s_ls ia m a)]
        refine z_mmax (pc' := 27) C (by decide +kernel) (by decide +kernel) (by decide +kernel) (by decide +kernel) (by decide) (Nat.le_of_ble_eq_true rfl) dX5_loose_24 rfl ?_
        refine z_istore_n (lv' := [(1, .int (if (s_ls ia m a) < (s_spr ia m a) then (s_spr ia m a) else (s_ls ia m a))), (2, .int (nI a)), (0, .ref (G.2.1 5))]) (pc' := 28) C dX5_loose_27 rfl (by decide) rfl rfl ?_
        refine z_iinc (v := nI (a + 1)) (k9 := 1) (lv' := [(2, .int (nI (a + 1))), (1, .int (if (s_ls ia m a) < (s_spr ia m a) then (s_spr ia m a) else (s_ls ia m a))), (0, .ref (G.2.1 5))]) (pc' := 31) C dX5_loose_28 rfl (nI_1 a) (by decide) rfl rfl ?_
        refine z_goto (pc' := 4) C dX5_loose_31 rfl ?_
        exact z_cast rfl rfl rfl rfl rfl (ih4 (a + 1) (by omega) (by omega))
  exact z_cast rfl rfl rfl rfl rfl (L4 (_ + 1) 0 (by omega) (Nat.lt_succ_self _))

set_option maxHeartbeats 4000000 in
set_option maxRecDepth 100000 in
theorem c_X5_faults_ok (l : Launch) (G : Gv) (sc : Sc) (ia : Ia) (la : La) (n : Nat) (hn : sc 0 = nI n) (hN : n ≤ 32)  : Ct l yX5_faults wsX5_faults ({ frames := 7, cells := 0, slots := 0, locals := 250 }) G [.ref (G.2.1 5)] sc ia la (fI (if s_all (fun j => decide (s_off ia j = 0)) n = true then -1 else nI (s_cn (s_isf ia n) n)) sc ia la) := by
  have hU5 : ∀ w ∈ u_ws RX5 TX5 5, w ∈ wsX5_faults := fun w h => List.mem_cons_of_mem _ (List.mem_append_left _ (List.mem_append_right _ h))
  refine z_of (maxL := 1) (own := RX5) [(0, .ref (G.2.1 5))] rfl (by decide +kernel) rfl (Nat.le_of_ble_eq_true rfl) rfl (fun Z C E => ?_)
  refine z_aload_n (pc' := 1) C dX5_faults_0 rfl 0 rfl rfl ?_
  refine z_get (pc' := 4) C hU5 5 (by decide) q_o5 rfl 0 (by decide) (by decide +kernel) (v := .ref (G.2.1 2)) rfl dX5_faults_1 rfl ?_
  refine z_cV (n := 0) (pc' := 7) (As := []) (rest := []) C 2 (c_X2_isAnythingOff l G sc ia la n hn hN) gX5_faults_X2_isAnythingOff rfl rfl rfl rfl (by decide +kernel) (by decide) rfl (by decide) q_o2 rfl rfl dX5_faults_4 (Nat.le_of_ble_eq_true rfl) rfl (k_I ?_)
  show Z sc ia la [(0, .ref (G.2.1 5))] 7 [.int (bI (!s_all (fun j => decide (s_off ia j = 0)) n))]
  refine z_ifB_eq (pc' := 10) C 20 dX5_faults_7 rfl rfl (fun h_7 => ?_) (fun h_7 => ?_)
  · refine z_iconst (v := -1) (pc' := 21) C dX5_faults_20 rfl rfl ?_
    exact z_iret (E := E) rfl dX5_faults_21 ⟨(congrArg (fun z => some (Value.int z)) (show _ = _ from (by first | rfl | (simp at h_7; simp [h_7])))), rfl, rfl, rfl⟩
  · refine z_aload_n (pc' := 11) C dX5_faults_10 rfl 0 rfl rfl ?_
    refine z_get (pc' := 14) C hU5 5 (by decide) q_o5 rfl 0 (by decide) (by decide +kernel) (v := .ref (G.2.1 2)) rfl dX5_faults_11 rfl ?_
    refine z_cV (n := 0) (pc' := 17) (As := []) (rest := []) C 2 (c_X2_countFaults l G sc ia la n hn hN) gX5_faults_X2_countFaults rfl rfl rfl rfl (by decide +kernel) (by decide) rfl (by decide) q_o2 rfl rfl dX5_faults_14 (Nat.le_of_ble_eq_true rfl) rfl (k_I ?_)
    show Z sc ia la [(0, .ref (G.2.1 5))] 17 [.int (nI (s_cn (s_isf ia n) n))]
    refine z_goto (pc' := 21) C dX5_faults_17 rfl ?_
    exact z_iret (E := E) rfl dX5_faults_21 ⟨(congrArg (fun z => some (Value.int z)) (show _ = _ from (by first | rfl | (simp at h_7; simp [h_7])))), rfl, rfl, rfl⟩

set_option maxHeartbeats 4000000 in
set_option maxRecDepth 100000 in
theorem c_X5_fault_ok (l : Launch) (G : Gv) (sc : Sc) (ia : Ia) (la : La) (n : Nat) (hn : sc 0 = nI n) (hN : n ≤ 32) (k : Int32)  : Ct l yX5_fault wsX5_fault ({ frames := 7, cells := 0, slots := 0, locals := 250 }) G [.ref (G.2.1 5), .int k] sc ia la (fI (s_ef ia n k) sc ia la) := by
  have hU5 : ∀ w ∈ u_ws RX5 TX5 5, w ∈ wsX5_fault := fun w h => List.mem_cons_of_mem _ (List.mem_append_left _ (List.mem_append_right _ h))
  refine z_of (maxL := 2) (own := RX5) [(0, .ref (G.2.1 5)), (1, .int k)] rfl (by decide +kernel) rfl (Nat.le_of_ble_eq_true rfl) rfl (fun Z C E => ?_)
  refine z_aload_n (pc' := 1) C dX5_fault_0 rfl 0 rfl rfl ?_
  refine z_get (pc' := 4) C hU5 5 (by decide) q_o5 rfl 0 (by decide) (by decide +kernel) (v := .ref (G.2.1 2)) rfl dX5_fault_1 rfl ?_
  refine z_iload_n (pc' := 5) C dX5_fault_4 rfl 1 rfl rfl ?_
  refine z_cV (n := 1) (pc' := 8) (As := [.int k]) (rest := []) C 2 (c_X2_elementOfFault l G sc ia la n hn hN k) gX5_fault_X2_elementOfFault rfl rfl rfl rfl (by decide +kernel) (by decide) rfl (by decide) q_o2 rfl rfl dX5_fault_5 (Nat.le_of_ble_eq_true rfl) rfl (k_I ?_)
  show Z sc ia la [(0, .ref (G.2.1 5)), (1, .int k)] 8 [.int (s_ef ia n k)]
  exact z_iret (E := E) rfl dX5_fault_8 ⟨(congrArg (fun z => some (Value.int z)) rfl), rfl, rfl, rfl⟩

theorem c_X2_elementOfFaultN (l : Launch) (G : Gv) (sc : Sc) (ia : Ia) (la : La) (n : Nat) (hn : sc 0 = nI n) (hN : n ≤ 32) (k : Int32) (he : s_fi (fun i => s_isf ia n i && decide (nI (s_cn (s_isf ia n) i) = k)) n = none) : Ct l yX2_elementOfFault wsX2_elementOfFault ({ frames := 3, cells := 0, slots := 0, locals := 65 }) G [.ref (G.2.1 2), .int k] sc ia la (fI (-1) sc ia la) := by
  have h9 := c_X2_elementOfFault l G sc ia la n hn hN k
  unfold s_ef at h9
  rw [he] at h9
  exact h9
theorem c_X2_elementOfFaultS (l : Launch) (G : Gv) (sc : Sc) (ia : Ia) (la : La) (n : Nat) (hn : sc 0 = nI n) (hN : n ≤ 32) (k : Int32) (f : Nat) (he : s_fi (fun i => s_isf ia n i && decide (nI (s_cn (s_isf ia n) i) = k)) n = some f) : Ct l yX2_elementOfFault wsX2_elementOfFault ({ frames := 3, cells := 0, slots := 0, locals := 65 }) G [.ref (G.2.1 2), .int k] sc ia la (fI (nI f) sc ia la) := by
  have h9 := c_X2_elementOfFault l G sc ia la n hn hN k
  unfold s_ef at h9
  rw [he] at h9
  exact h9
set_option maxHeartbeats 4000000 in
set_option maxRecDepth 100000 in
theorem c_X5_by_none (l : Launch) (G : Gv) (sc : Sc) (ia : Ia) (la : La) (n : Nat) (hn : sc 0 = nI n) (hN : n ≤ 32) (k : Int32) (he : s_fi (fun i => s_isf ia n i && decide (nI (s_cn (s_isf ia n) i) = k)) n = none)  : Ct l yX5_by wsX5_by ({ frames := 7, cells := 0, slots := 0, locals := 250 }) G [.ref (G.2.1 5), .int k] sc ia la (fI 0 sc ia la) := by
  have hU5 : ∀ w ∈ u_ws RX5 TX5 5, w ∈ wsX5_by := fun w h => List.mem_cons_of_mem _ (List.mem_append_left _ (List.mem_append_right _ h))
  refine z_of (maxL := 3) (own := RX5) [(0, .ref (G.2.1 5)), (1, .int k)] rfl (by decide +kernel) rfl (Nat.le_of_ble_eq_true rfl) rfl (fun Z C E => ?_)
  refine z_aload_n (pc' := 1) C dX5_by_0 rfl 0 rfl rfl ?_
  refine z_get (pc' := 4) C hU5 5 (by decide) q_o5 rfl 0 (by decide) (by decide +kernel) (v := .ref (G.2.1 2)) rfl dX5_by_1 rfl ?_
  refine z_iload_n (pc' := 5) C dX5_by_4 rfl 1 rfl rfl ?_
  refine z_cV (n := 1) (pc' := 8) (As := [.int k]) (rest := []) C 2 (c_X2_elementOfFaultN l G sc ia la n hn hN k he) gX5_by_X2_elementOfFault rfl rfl rfl rfl (by decide +kernel) (by decide) rfl (by decide) q_o2 rfl rfl dX5_by_5 (Nat.le_of_ble_eq_true rfl) rfl (k_I ?_)
  show Z sc ia la [(0, .ref (G.2.1 5)), (1, .int k)] 8 [.int (-1)]
  refine z_istore_n (lv' := [(2, .int (-1)), (0, .ref (G.2.1 5)), (1, .int k)]) (pc' := 9) C dX5_by_8 rfl (by decide) rfl rfl ?_
  refine z_iload_n (pc' := 10) C dX5_by_9 rfl 0 rfl rfl ?_
  refine z_iconst (v := -1) (pc' := 11) C dX5_by_10 rfl rfl ?_
  refine z_icmp_ne (pc' := 14) C 18 dX5_by_11 rfl rfl (fun h_11 => absurd h_11 (by decide)) (fun h_11 => ?_)
  refine z_iconst (v := 0) (pc' := 15) C dX5_by_14 rfl rfl ?_
  refine z_goto (pc' := 26) C dX5_by_15 rfl ?_
  exact z_iret (E := E) rfl dX5_by_26 ⟨(congrArg (fun z => some (Value.int z)) rfl), rfl, rfl, rfl⟩

set_option maxHeartbeats 4000000 in
set_option maxRecDepth 100000 in
theorem c_X5_by_some (l : Launch) (G : Gv) (sc : Sc) (ia : Ia) (la : La) (n : Nat) (hn : sc 0 = nI n) (hN : n ≤ 32) (k : Int32) (f : Nat) (he : s_fi (fun i => s_isf ia n i && decide (nI (s_cn (s_isf ia n) i) = k)) n = some f)  : Ct l yX5_by wsX5_by ({ frames := 7, cells := 0, slots := 0, locals := 250 }) G [.ref (G.2.1 5), .int k] sc ia la (fI (s_flt ia n f) sc ia la) := by
  have hU5 : ∀ w ∈ u_ws RX5 TX5 5, w ∈ wsX5_by := fun w h => List.mem_cons_of_mem _ (List.mem_append_left _ (List.mem_append_right _ h))
  have hfl := (s_fi_lt he).1
  refine z_of (maxL := 3) (own := RX5) [(0, .ref (G.2.1 5)), (1, .int k)] rfl (by decide +kernel) rfl (Nat.le_of_ble_eq_true rfl) rfl (fun Z C E => ?_)
  refine z_aload_n (pc' := 1) C dX5_by_0 rfl 0 rfl rfl ?_
  refine z_get (pc' := 4) C hU5 5 (by decide) q_o5 rfl 0 (by decide) (by decide +kernel) (v := .ref (G.2.1 2)) rfl dX5_by_1 rfl ?_
  refine z_iload_n (pc' := 5) C dX5_by_4 rfl 1 rfl rfl ?_
  refine z_cV (n := 1) (pc' := 8) (As := [.int k]) (rest := []) C 2 (c_X2_elementOfFaultS l G sc ia la n hn hN k f he) gX5_by_X2_elementOfFault rfl rfl rfl rfl (by decide +kernel) (by decide) rfl (by decide) q_o2 rfl rfl dX5_by_5 (Nat.le_of_ble_eq_true rfl) rfl (k_I ?_)
  show Z sc ia la [(0, .ref (G.2.1 5)), (1, .int k)] 8 [.int (nI f)]
  refine z_istore_n (lv' := [(2, .int (nI f)), (0, .ref (G.2.1 5)), (1, .int k)]) (pc' := 9) C dX5_by_8 rfl (by decide) rfl rfl ?_
  refine z_iload_n (pc' := 10) C dX5_by_9 rfl 0 rfl rfl ?_
  refine z_iconst (v := -1) (pc' := 11) C dX5_by_10 rfl rfl ?_
  refine z_icmp_ne (pc' := 14) C 18 dX5_by_11 rfl rfl (fun h_11 => ?_) (fun h_11 => absurd h_11 (by intro h9; exact absurd (congrArg Int32.toInt h9) (by rw [nI_toInt (by omega)]; show ¬ (f : Int) = -1; omega)))
  refine z_aload_n (pc' := 19) C dX5_by_18 rfl 1 rfl rfl ?_
  refine z_get (pc' := 22) C hU5 5 (by decide) q_o5 rfl 0 (by decide) (by decide +kernel) (v := .ref (G.2.1 2)) rfl dX5_by_19 rfl ?_
  refine z_iload_n (pc' := 23) C dX5_by_22 rfl 0 rfl rfl ?_
  refine z_cV (n := 1) (pc' := 26) (As := [.int (nI f)]) (rest := []) C 2 (c_X2_faultOf l G sc ia la n hn hN f) gX5_by_X2_faultOf rfl rfl rfl rfl (by decide +kernel) (by decide) rfl (by decide) q_o2 rfl rfl dX5_by_23 (Nat.le_of_ble_eq_true rfl) rfl (k_I ?_)
  show Z sc ia la [(2, .int (nI f)), (0, .ref (G.2.1 5)), (1, .int k)] 26 [.int (s_flt ia n f)]
  exact z_iret (E := E) rfl dX5_by_26 ⟨(congrArg (fun z => some (Value.int z)) rfl), rfl, rfl, rfl⟩

set_option maxHeartbeats 4000000 in
set_option maxRecDepth 100000 in
theorem c_X5_broken_ok (l : Launch) (G : Gv) (sc : Sc) (ia : Ia) (la : La) (n : Nat) (hn : sc 0 = nI n) (hN : n ≤ 32)  : Ct l yX5_broken wsX5_broken ({ frames := 7, cells := 0, slots := 0, locals := 250 }) G [.ref (G.2.1 5)] sc ia la (fI (s_oi (s_fi (fun j => !decide (s_abs (ia 1 j) ≤ ia 5 j)) n)) sc ia la) := by
  have hU2 : ∀ w ∈ u_ws RX2 TX2 9, w ∈ wsX5_broken := fun w h => List.mem_cons_of_mem _ (List.mem_append_right _ h)
  have hU5 : ∀ w ∈ u_ws RX5 TX5 5, w ∈ wsX5_broken := fun w h => List.mem_cons_of_mem _ (List.mem_append_left _ (List.mem_append_right _ h))
  refine z_of (maxL := 2) (own := RX5) [(0, .ref (G.2.1 5))] rfl (by decide +kernel) rfl (Nat.le_of_ble_eq_true rfl) rfl (fun Z C E => ?_)
  refine z_iconst (v := 0) (pc' := 1) C dX5_broken_0 rfl rfl ?_
  refine z_istore_n (lv' := [(1, .int 0), (0, .ref (G.2.1 5))]) (pc' := 2) C dX5_broken_1 rfl (by decide) rfl rfl ?_
  have L2 : ∀ (fuel : Nat) (i : Nat) (hi : i ≤ n) (ha : ∀ j, j < i → (fun j => !decide (s_abs (ia 1 j) ≤ ia 5 j)) j = false), n - i < fuel → Z sc ia la [(1, .int (nI i)), (0, .ref (G.2.1 5))] 2 [] := by
    intro fuel
    induction fuel with
    | zero => intro i hi ha hm2; exact absurd hm2 (Nat.not_lt_zero _)
    | succ fuel ih2 =>
      intro i hi ha hm2
      refine z_iload_n (pc' := 3) C dX5_broken_2 rfl 0 rfl rfl ?_
      refine z_aload_n (pc' := 4) C dX5_broken_3 rfl 1 rfl rfl ?_
      refine z_get (pc' := 7) C hU5 5 (by decide) q_o5 rfl 0 (by decide) (by decide +kernel) (v := .ref (G.2.1 2)) rfl dX5_broken_4 rfl ?_
      refine z_get (pc' := 10) C hU2 2 (by decide) q_o2 rfl 0 (by decide) (by decide +kernel) (v := .int (sc 0)) rfl dX5_broken_7 rfl ?_
      refine z_cast (st' := [.int (nI n), .int (nI i)]) rfl rfl rfl rfl (congrArg (fun z => Value.int z :: [.int (nI i)]) hn) ?_
      refine z_icmpN_ge (a := i) (b := n) (pc' := 13) C 45 (by omega) (by omega) dX5_broken_10 rfl rfl (fun h_10 => ?_) (fun h_10 => ?_)
      · refine z_iconst (v := -1) (pc' := 46) C dX5_broken_45 rfl rfl ?_
        exact z_iret (E := E) rfl dX5_broken_46 ⟨(congrArg (fun z => some (Value.int z)) (show _ = _ from (by first | rfl | (have e9 : i = n := (by omega); subst e9; rw [s_fi_n ha]; rfl)))), rfl, rfl, rfl⟩
      · refine z_aload_n (pc' := 14) C dX5_broken_13 rfl 1 rfl rfl ?_
        refine z_get (pc' := 17) C hU5 5 (by decide) q_o5 rfl 0 (by decide) (by decide +kernel) (v := .ref (G.2.1 2)) rfl dX5_broken_14 rfl ?_
        refine z_get (pc' := 20) C hU2 2 (by decide) q_o2 rfl 2 (by decide) (by decide +kernel) (v := .ref (G.2.1 8)) rfl dX5_broken_17 rfl ?_
        refine z_iload_n (pc' := 21) C dX5_broken_20 rfl 0 rfl rfl ?_
        refine z_iald (pc' := 22) C 8 (by decide) (N := 32) (i := i) (f := ia 1) q_i1 (by omega) (by decide) dX5_broken_21 rfl ?_
        refine z_mabs (pc' := 25) C (by decide +kernel) (by decide +kernel) (by decide +kernel) (by decide +kernel) (by decide) (Nat.le_of_ble_eq_true rfl) dX5_broken_22 rfl ?_
        show Z sc ia la [(1, .int (nI i)), (0, .ref (G.2.1 5))] 25 [.int (s_abs ((ia 1) i))]
        refine z_aload_n (pc' := 26) C dX5_broken_25 rfl 1 rfl rfl ?_
        refine z_get (pc' := 29) C hU5 5 (by decide) q_o5 rfl 0 (by decide) (by decide +kernel) (v := .ref (G.2.1 2)) rfl dX5_broken_26 rfl ?_
        refine z_get (pc' := 32) C hU2 2 (by decide) q_o2 rfl 6 (by decide) (by decide +kernel) (v := .ref (G.2.1 12)) rfl dX5_broken_29 rfl ?_
        refine z_iload_n (pc' := 33) C dX5_broken_32 rfl 0 rfl rfl ?_
        refine z_iald (pc' := 34) C 12 (by decide) (N := 32) (i := i) (f := ia 5) q_i5 (by omega) (by decide) dX5_broken_33 rfl ?_
        refine z_icmp_le (pc' := 37) C 39 dX5_broken_34 rfl rfl (fun h_34 => ?_) (fun h_34 => ?_)
        · refine z_iinc (v := nI (i + 1)) (k9 := 0) (lv' := [(1, .int (nI (i + 1))), (0, .ref (G.2.1 5))]) (pc' := 42) C dX5_broken_39 rfl (nI_1 i) (by decide) rfl rfl ?_
          refine z_goto (pc' := 2) C dX5_broken_42 rfl ?_
          exact z_cast rfl rfl rfl rfl rfl (ih2 (i + 1) (by omega) (by exact s_lt_s ha (by simp [h_34])) (by omega))
        · refine z_iload_n (pc' := 38) C dX5_broken_37 rfl 0 rfl rfl ?_
          exact z_iret (E := E) rfl dX5_broken_38 ⟨(congrArg (fun z => some (Value.int z)) (show _ = _ from (by first | rfl | (rw [s_fi_s (i := i) ha (by omega) (by simp [h_34])]; rfl)))), rfl, rfl, rfl⟩
  exact z_cast rfl rfl rfl rfl rfl (L2 (_ + 1) 0 (by omega) (fun j h => absurd h (Nat.not_lt_zero j)) (Nat.lt_succ_self _))

set_option maxHeartbeats 4000000 in
set_option maxRecDepth 100000 in
theorem c_X5_doubt_out (l : Launch) (G : Gv) (sc : Sc) (ia : Ia) (la : La) (v : Int32) (ho : s_out v 0 10000 = true)  : Ct l yX5_doubt wsX5_doubt ({ frames := 7, cells := 0, slots := 0, locals := 250 }) G [.ref (G.2.1 5), .int v] sc ia la (fI (-102) sc ia la) := by
  refine z_of (maxL := 2) (own := RX5) [(0, .ref (G.2.1 5)), (1, .int v)] rfl (by decide +kernel) rfl (Nat.le_of_ble_eq_true rfl) rfl (fun Z C E => ?_)
  refine z_iload_n (pc' := 1) C dX5_doubt_0 rfl 1 rfl rfl ?_
  refine z_iconst (v := 0) (pc' := 2) C dX5_doubt_1 rfl rfl ?_
  refine z_sipush (v := 10000) (pc' := 5) C dX5_doubt_2 rfl rfl ?_
  refine z_cS (n := 3) (pc' := 8) (As := [.int v, .int 0, .int 10000]) (rest := []) C (c_X5_isOutsideB l G sc ia la v 0 10000 true ho) gX5_doubt_X5_isOutside rfl rfl rfl (by decide +kernel) (by decide) rfl rfl dX5_doubt_5 (Nat.le_of_ble_eq_true rfl) rfl (k_I ?_)
  show Z sc ia la [(0, .ref (G.2.1 5)), (1, .int v)] 8 [.int 1]
  refine z_if_eq (pc' := 11) C 14 dX5_doubt_8 rfl rfl (fun h_8 => absurd h_8 (by decide)) (fun h_8 => ?_)
  refine z_bipush (v := -102) (pc' := 13) C dX5_doubt_11 rfl rfl ?_
  exact z_iret (E := E) rfl dX5_doubt_13 ⟨(congrArg (fun z => some (Value.int z)) rfl), rfl, rfl, rfl⟩

set_option maxHeartbeats 4000000 in
set_option maxRecDepth 100000 in
theorem c_X5_doubt_full (l : Launch) (G : Gv) (sc : Sc) (ia : Ia) (la : La) (d : Nat) (hd : sc 6 = nI d) (hD : d = 18) (v : Int32) (ho : s_out v 0 10000 = false)  : Ct l yX5_doubt wsX5_doubt ({ frames := 7, cells := 0, slots := 0, locals := 250 }) G [.ref (G.2.1 5), .int v] sc ia la (fI (-104) sc ia la) := by
  have hU0 : ∀ w ∈ u_ws RX0 TX0 2, w ∈ wsX5_doubt := fun w h => List.mem_cons_of_mem _ (List.mem_append_right _ h)
  have hU5 : ∀ w ∈ u_ws RX5 TX5 5, w ∈ wsX5_doubt := fun w h => List.mem_cons_of_mem _ (List.mem_append_left _ (List.mem_append_right _ h))
  refine z_of (maxL := 2) (own := RX5) [(0, .ref (G.2.1 5)), (1, .int v)] rfl (by decide +kernel) rfl (Nat.le_of_ble_eq_true rfl) rfl (fun Z C E => ?_)
  refine z_iload_n (pc' := 1) C dX5_doubt_0 rfl 1 rfl rfl ?_
  refine z_iconst (v := 0) (pc' := 2) C dX5_doubt_1 rfl rfl ?_
  refine z_sipush (v := 10000) (pc' := 5) C dX5_doubt_2 rfl rfl ?_
  refine z_cS (n := 3) (pc' := 8) (As := [.int v, .int 0, .int 10000]) (rest := []) C (c_X5_isOutsideB l G sc ia la v 0 10000 false ho) gX5_doubt_X5_isOutside rfl rfl rfl (by decide +kernel) (by decide) rfl rfl dX5_doubt_5 (Nat.le_of_ble_eq_true rfl) rfl (k_I ?_)
  show Z sc ia la [(0, .ref (G.2.1 5)), (1, .int v)] 8 [.int 0]
  refine z_if_eq (pc' := 11) C 14 dX5_doubt_8 rfl rfl (fun h_8 => ?_) (fun h_8 => absurd h_8 (by decide))
  refine z_aload_n (pc' := 15) C dX5_doubt_14 rfl 0 rfl rfl ?_
  refine z_get (pc' := 18) C hU5 5 (by decide) q_o5 rfl 4 (by decide) (by decide +kernel) (v := .ref (G.2.1 0)) rfl dX5_doubt_15 rfl ?_
  refine z_get (pc' := 21) C hU0 0 (by decide) q_o0 rfl 0 (by decide) (by decide +kernel) (v := .int (sc 6)) rfl dX5_doubt_18 rfl ?_
  refine z_cast (st' := [.int (nI d)]) rfl rfl rfl rfl (congrArg (fun z => Value.int z :: []) hd) ?_
  refine z_bipush (v := 18) (pc' := 23) C dX5_doubt_21 rfl rfl ?_
  refine z_icmpN_lt (a := d) (b := 18) (pc' := 26) C 29 (by omega) (by omega) dX5_doubt_23 rfl rfl (fun h_23 => absurd h_23 (by omega)) (fun h_23 => ?_)
  refine z_bipush (v := -104) (pc' := 28) C dX5_doubt_26 rfl rfl ?_
  exact z_iret (E := E) rfl dX5_doubt_28 ⟨(congrArg (fun z => some (Value.int z)) rfl), rfl, rfl, rfl⟩

set_option maxHeartbeats 4000000 in
set_option maxRecDepth 100000 in
theorem c_X5_doubt_ok (l : Launch) (G : Gv) (sc : Sc) (ia : Ia) (la : La) (d : Nat) (hd : sc 6 = nI d) (hD : d < 18) (v : Int32) (ho : s_out v 0 10000 = false)  : Ct l yX5_doubt wsX5_doubt ({ frames := 7, cells := 0, slots := 0, locals := 250 }) G [.ref (G.2.1 5), .int v] sc ia la (fI (nI (d + 1)) (va_up sc 6 (nI (d + 1))) (va_up ia 9 (upd (ia 9) d v)) la) := by
  have hU0 : ∀ w ∈ u_ws RX0 TX0 2, w ∈ wsX5_doubt := fun w h => List.mem_cons_of_mem _ (List.mem_append_right _ h)
  have hU5 : ∀ w ∈ u_ws RX5 TX5 5, w ∈ wsX5_doubt := fun w h => List.mem_cons_of_mem _ (List.mem_append_left _ (List.mem_append_right _ h))
  refine z_of (maxL := 2) (own := RX5) [(0, .ref (G.2.1 5)), (1, .int v)] rfl (by decide +kernel) rfl (Nat.le_of_ble_eq_true rfl) rfl (fun Z C E => ?_)
  refine z_iload_n (pc' := 1) C dX5_doubt_0 rfl 1 rfl rfl ?_
  refine z_iconst (v := 0) (pc' := 2) C dX5_doubt_1 rfl rfl ?_
  refine z_sipush (v := 10000) (pc' := 5) C dX5_doubt_2 rfl rfl ?_
  refine z_cS (n := 3) (pc' := 8) (As := [.int v, .int 0, .int 10000]) (rest := []) C (c_X5_isOutsideB l G sc ia la v 0 10000 false ho) gX5_doubt_X5_isOutside rfl rfl rfl (by decide +kernel) (by decide) rfl rfl dX5_doubt_5 (Nat.le_of_ble_eq_true rfl) rfl (k_I ?_)
  show Z sc ia la [(0, .ref (G.2.1 5)), (1, .int v)] 8 [.int 0]
  refine z_if_eq (pc' := 11) C 14 dX5_doubt_8 rfl rfl (fun h_8 => ?_) (fun h_8 => absurd h_8 (by decide))
  refine z_aload_n (pc' := 15) C dX5_doubt_14 rfl 0 rfl rfl ?_
  refine z_get (pc' := 18) C hU5 5 (by decide) q_o5 rfl 4 (by decide) (by decide +kernel) (v := .ref (G.2.1 0)) rfl dX5_doubt_15 rfl ?_
  refine z_get (pc' := 21) C hU0 0 (by decide) q_o0 rfl 0 (by decide) (by decide +kernel) (v := .int (sc 6)) rfl dX5_doubt_18 rfl ?_
  refine z_cast (st' := [.int (nI d)]) rfl rfl rfl rfl (congrArg (fun z => Value.int z :: []) hd) ?_
  refine z_bipush (v := 18) (pc' := 23) C dX5_doubt_21 rfl rfl ?_
  refine z_icmpN_lt (a := d) (b := 18) (pc' := 26) C 29 (by omega) (by omega) dX5_doubt_23 rfl rfl (fun h_23 => ?_) (fun h_23 => absurd h_23 (by omega))
  refine z_aload_n (pc' := 30) C dX5_doubt_29 rfl 0 rfl rfl ?_
  refine z_get (pc' := 33) C hU5 5 (by decide) q_o5 rfl 4 (by decide) (by decide +kernel) (v := .ref (G.2.1 0)) rfl dX5_doubt_30 rfl ?_
  refine z_iload_n (pc' := 34) C dX5_doubt_33 rfl 1 rfl rfl ?_
  refine z_cV (n := 1) (pc' := 37) (As := [.int v]) (rest := []) C 0 (c_X0_add l G sc ia la d hd (by omega) v) gX5_doubt_X0_add rfl rfl rfl rfl (by decide +kernel) (by decide) rfl (by decide) q_o0 rfl rfl dX5_doubt_34 (Nat.le_of_ble_eq_true rfl) rfl (k_V ?_)
  show Z (va_up sc 6 (nI (d + 1))) (va_up ia 9 (upd (ia 9) d v)) la [(0, .ref (G.2.1 5)), (1, .int v)] 37 []
  refine z_aload_n (pc' := 38) C dX5_doubt_37 rfl 0 rfl rfl ?_
  refine z_get (pc' := 41) C hU5 5 (by decide) q_o5 rfl 4 (by decide) (by decide +kernel) (v := .ref (G.2.1 0)) rfl dX5_doubt_38 rfl ?_
  refine z_get (pc' := 44) C hU0 0 (by decide) q_o0 rfl 0 (by decide) (by decide +kernel) (v := .int (nI (d + 1))) rfl dX5_doubt_41 rfl ?_
  exact z_iret (E := E) rfl dX5_doubt_44 ⟨(congrArg (fun z => some (Value.int z)) rfl), rfl, rfl, rfl⟩

set_option maxHeartbeats 4000000 in
set_option maxRecDepth 100000 in
theorem c_X5_sure_ok (l : Launch) (G : Gv) (sc : Sc) (ia : Ia) (la : La)   : Ct l yX5_sure wsX5_sure ({ frames := 7, cells := 0, slots := 0, locals := 250 }) G [.ref (G.2.1 5)] sc ia la (fI (sc 6) (va_up sc 6 0) ia la) := by
  have hU0 : ∀ w ∈ u_ws RX0 TX0 2, w ∈ wsX5_sure := fun w h => List.mem_cons_of_mem _ (List.mem_append_right _ h)
  have hU5 : ∀ w ∈ u_ws RX5 TX5 5, w ∈ wsX5_sure := fun w h => List.mem_cons_of_mem _ (List.mem_append_left _ (List.mem_append_right _ h))
  refine z_of (maxL := 2) (own := RX5) [(0, .ref (G.2.1 5))] rfl (by decide +kernel) rfl (Nat.le_of_ble_eq_true rfl) rfl (fun Z C E => ?_)
  refine z_aload_n (pc' := 1) C dX5_sure_0 rfl 0 rfl rfl ?_
  refine z_get (pc' := 4) C hU5 5 (by decide) q_o5 rfl 4 (by decide) (by decide +kernel) (v := .ref (G.2.1 0)) rfl dX5_sure_1 rfl ?_
  refine z_get (pc' := 7) C hU0 0 (by decide) q_o0 rfl 0 (by decide) (by decide +kernel) (v := .int (sc 6)) rfl dX5_sure_4 rfl ?_
  refine z_istore_n (lv' := [(1, .int (sc 6)), (0, .ref (G.2.1 5))]) (pc' := 8) C dX5_sure_7 rfl (by decide) rfl rfl ?_
  refine z_aload_n (pc' := 9) C dX5_sure_8 rfl 1 rfl rfl ?_
  refine z_get (pc' := 12) C hU5 5 (by decide) q_o5 rfl 4 (by decide) (by decide +kernel) (v := .ref (G.2.1 0)) rfl dX5_sure_9 rfl ?_
  refine z_iconst (v := 0) (pc' := 13) C dX5_sure_12 rfl rfl ?_
  refine z_put (pc' := 16) C hU0 tyX0 tyX0_ok nmX0 0 (by decide) q_o0 rfl 0 (by decide) (by decide +kernel) rfl rfl (Nat.le_of_ble_eq_true rfl) (q_s6 _) dX5_sure_13 rfl ?_
  refine z_iload_n (pc' := 17) C dX5_sure_16 rfl 0 rfl rfl ?_
  exact z_iret (E := E) rfl dX5_sure_17 ⟨(congrArg (fun z => some (Value.int z)) rfl), rfl, rfl, rfl⟩

set_option maxHeartbeats 4000000 in
set_option maxRecDepth 100000 in
theorem c_X5_budget_ok (l : Launch) (G : Gv) (sc : Sc) (ia : Ia) (la : La) (d : Nat) (hd : sc 6 = nI d) (hD : d ≤ 18) (k : Int32)  : Ct l yX5_budget wsX5_budget ({ frames := 7, cells := 0, slots := 0, locals := 250 }) G [.ref (G.2.1 5), .int k] sc ia la (fI (if k.toInt = 0 then bx_sum (ia 9) d else if k.toInt = 1 then s_ru (s_dq (ia 9) d) else if k.toInt = 2 then s_gr (ia 9) d else -102) sc ia la) := by
  have hU5 : ∀ w ∈ u_ws RX5 TX5 5, w ∈ wsX5_budget := fun w h => List.mem_cons_of_mem _ (List.mem_append_left _ (List.mem_append_right _ h))
  refine z_of (maxL := 2) (own := RX5) [(0, .ref (G.2.1 5)), (1, .int k)] rfl (by decide +kernel) rfl (Nat.le_of_ble_eq_true rfl) rfl (fun Z C E => ?_)
  refine z_iload_n (pc' := 1) C dX5_budget_0 rfl 1 rfl rfl ?_
  by_cases h_1 : k.toInt < 0 ∨ 2 < k.toInt
  · refine z_tableOut C 55 dX5_budget_1 h_1 rfl ?_
    refine z_bipush (v := -102) (pc' := 57) C dX5_budget_55 rfl rfl ?_
    exact z_iret (E := E) rfl dX5_budget_57 ⟨(congrArg (fun z => some (Value.int z)) (show _ = _ from (by first | rfl | (first | simp [h_1v] | (have q0 : ¬ k.toInt = 0 := (by omega); have q1 : ¬ k.toInt = 1 := (by omega); have q2 : ¬ k.toInt = 2 := (by omega); simp [q0, q1, q2]))))), rfl, rfl, rfl⟩
  · have h_19 : k.toInt = 0 ∨ k.toInt = 1 ∨ k.toInt = 2 := by omega
    rcases h_19 with h_1v | h_1v | h_1v
    · refine z_tableIn C 28 (off := 27) dX5_budget_1 (by omega) (by omega) (by rw [h_1v]; rfl) rfl ?_
      refine z_aload_n (pc' := 29) C dX5_budget_28 rfl 0 rfl rfl ?_
      refine z_get (pc' := 32) C hU5 5 (by decide) q_o5 rfl 4 (by decide) (by decide +kernel) (v := .ref (G.2.1 0)) rfl dX5_budget_29 rfl ?_
      refine z_cV (n := 0) (pc' := 35) (As := []) (rest := []) C 0 (c_X0_sum l G sc ia la d hd hD) gX5_budget_X0_sum rfl rfl rfl rfl (by decide +kernel) (by decide) rfl (by decide) q_o0 rfl rfl dX5_budget_32 (Nat.le_of_ble_eq_true rfl) rfl (k_I ?_)
      show Z sc ia la [(0, .ref (G.2.1 5)), (1, .int k)] 35 [.int (bx_sum (ia 9) d)]
      exact z_iret (E := E) rfl dX5_budget_35 ⟨(congrArg (fun z => some (Value.int z)) (show _ = _ from (by first | rfl | (first | simp [h_1v] | (have q0 : ¬ k.toInt = 0 := (by omega); have q1 : ¬ k.toInt = 1 := (by omega); have q2 : ¬ k.toInt = 2 := (by omega); simp [q0, q1, q2]))))), rfl, rfl, rfl⟩
    · refine z_tableIn C 36 (off := 35) dX5_budget_1 (by omega) (by omega) (by rw [h_1v]; rfl) rfl ?_
      refine z_aload_n (pc' := 37) C dX5_budget_36 rfl 0 rfl rfl ?_
      refine z_get (pc' := 40) C hU5 5 (by decide) q_o5 rfl 4 (by decide) (by decide +kernel) (v := .ref (G.2.1 0)) rfl dX5_budget_37 rfl ?_
      refine z_cV (n := 0) (pc' := 43) (As := []) (rest := []) C 0 (c_X0_squares l G sc ia la d hd hD) gX5_budget_X0_squares rfl rfl rfl rfl (by decide +kernel) (by decide) rfl (by decide) q_o0 rfl rfl dX5_budget_40 (Nat.le_of_ble_eq_true rfl) rfl (k_L ?_)
      show Z sc ia la [(0, .ref (G.2.1 5)), (1, .int k)] 43 [.long (s_dq (ia 9) d)]
      refine z_cS (n := 1) (pc' := 46) (As := [.long (s_dq (ia 9) d)]) (rest := []) C (c_X5_rootUp l G sc ia la (s_dq (ia 9) d)) gX5_budget_X5_rootUp rfl rfl rfl (by decide +kernel) (by decide) rfl rfl dX5_budget_43 (Nat.le_of_ble_eq_true rfl) rfl (k_I ?_)
      show Z sc ia la [(0, .ref (G.2.1 5)), (1, .int k)] 46 [.int (s_ru (s_dq (ia 9) d))]
      exact z_iret (E := E) rfl dX5_budget_46 ⟨(congrArg (fun z => some (Value.int z)) (show _ = _ from (by first | rfl | (first | simp [h_1v] | (have q0 : ¬ k.toInt = 0 := (by omega); have q1 : ¬ k.toInt = 1 := (by omega); have q2 : ¬ k.toInt = 2 := (by omega); simp [q0, q1, q2]))))), rfl, rfl, rfl⟩
    · refine z_tableIn C 47 (off := 46) dX5_budget_1 (by omega) (by omega) (by rw [h_1v]; rfl) rfl ?_
      refine z_aload_n (pc' := 48) C dX5_budget_47 rfl 0 rfl rfl ?_
      refine z_get (pc' := 51) C hU5 5 (by decide) q_o5 rfl 4 (by decide) (by decide +kernel) (v := .ref (G.2.1 0)) rfl dX5_budget_48 rfl ?_
      refine z_cV (n := 0) (pc' := 54) (As := []) (rest := []) C 0 (c_X0_greatest l G sc ia la d hd hD) gX5_budget_X0_greatest rfl rfl rfl rfl (by decide +kernel) (by decide) rfl (by decide) q_o0 rfl rfl dX5_budget_51 (Nat.le_of_ble_eq_true rfl) rfl (k_I ?_)
      show Z sc ia la [(0, .ref (G.2.1 5)), (1, .int k)] 54 [.int (s_gr (ia 9) d)]
      exact z_iret (E := E) rfl dX5_budget_54 ⟨(congrArg (fun z => some (Value.int z)) (show _ = _ from (by first | rfl | (first | simp [h_1v] | (have q0 : ¬ k.toInt = 0 := (by omega); have q1 : ¬ k.toInt = 1 := (by omega); have q2 : ¬ k.toInt = 2 := (by omega); simp [q0, q1, q2]))))), rfl, rfl, rfl⟩

set_option maxHeartbeats 4000000 in
set_option maxRecDepth 100000 in
theorem c_X5_count_ok (l : Launch) (G : Gv) (sc : Sc) (ia : Ia) (la : La) (n : Nat) (hn : sc 0 = nI n) (m : Nat) (hm : sc 5 = nI m) (hM : m ≤ 5) (k : Int32)  : Ct l yX5_count wsX5_count ({ frames := 7, cells := 0, slots := 0, locals := 250 }) G [.ref (G.2.1 5), .int k] sc ia la (fI (if k.toInt = 0 then sc 0 else if k.toInt = 1 then s_ct (ia 6) 32 else if k.toInt = 2 then s_ct (ia 7) 32 else if k.toInt = 3 then sc 3 else if k.toInt = 4 then sc 4 else if k.toInt = 5 then sc 5 else if k.toInt = 6 then s_cko ia m m else if k.toInt = 7 then sc 6 else -102) sc ia la) := by
  have hU0 : ∀ w ∈ u_ws RX0 TX0 2, w ∈ wsX5_count := fun w h => List.mem_cons_of_mem _ (List.mem_append_right _ h)
  have hU2 : ∀ w ∈ u_ws RX2 TX2 9, w ∈ wsX5_count := fun w h => List.mem_cons_of_mem _ (List.mem_append_left _ (List.mem_append_left _ (List.mem_append_left _ (List.mem_append_right _ h))))
  have hU3 : ∀ w ∈ u_ws RX3 TX3 3, w ∈ wsX5_count := fun w h => List.mem_cons_of_mem _ (List.mem_append_left _ (List.mem_append_right _ h))
  have hU4 : ∀ w ∈ u_ws RX4 TX4 3, w ∈ wsX5_count := fun w h => List.mem_cons_of_mem _ (List.mem_append_left _ (List.mem_append_left _ (List.mem_append_right _ h)))
  have hU5 : ∀ w ∈ u_ws RX5 TX5 5, w ∈ wsX5_count := fun w h => List.mem_cons_of_mem _ (List.mem_append_left _ (List.mem_append_left _ (List.mem_append_left _ (List.mem_append_left _ (List.mem_append_right _ h)))))
  refine z_of (maxL := 2) (own := RX5) [(0, .ref (G.2.1 5)), (1, .int k)] rfl (by decide +kernel) rfl (Nat.le_of_ble_eq_true rfl) rfl (fun Z C E => ?_)
  refine z_iload_n (pc' := 1) C dX5_count_0 rfl 1 rfl rfl ?_
  by_cases h_1 : k.toInt < 0 ∨ 7 < k.toInt
  · refine z_tableOut C 112 dX5_count_1 h_1 rfl ?_
    refine z_bipush (v := -102) (pc' := 114) C dX5_count_112 rfl rfl ?_
    exact z_iret (E := E) rfl dX5_count_114 ⟨(congrArg (fun z => some (Value.int z)) (show _ = _ from (by first | rfl | (first | simp [h_1v] | (rw [if_neg (by omega), if_neg (by omega), if_neg (by omega), if_neg (by omega), if_neg (by omega), if_neg (by omega), if_neg (by omega), if_neg (by omega)]))))), rfl, rfl, rfl⟩
  · have h_19 : k.toInt = 0 ∨ k.toInt = 1 ∨ k.toInt = 2 ∨ k.toInt = 3 ∨ k.toInt = 4 ∨ k.toInt = 5 ∨ k.toInt = 6 ∨ k.toInt = 7 := by omega
    rcases h_19 with h_1v | h_1v | h_1v | h_1v | h_1v | h_1v | h_1v | h_1v
    · refine z_tableIn C 48 (off := 47) dX5_count_1 (by omega) (by omega) (by rw [h_1v]; rfl) rfl ?_
      refine z_aload_n (pc' := 49) C dX5_count_48 rfl 0 rfl rfl ?_
      refine z_get (pc' := 52) C hU5 5 (by decide) q_o5 rfl 0 (by decide) (by decide +kernel) (v := .ref (G.2.1 2)) rfl dX5_count_49 rfl ?_
      refine z_get (pc' := 55) C hU2 2 (by decide) q_o2 rfl 0 (by decide) (by decide +kernel) (v := .int (sc 0)) rfl dX5_count_52 rfl ?_
      exact z_iret (E := E) rfl dX5_count_55 ⟨(congrArg (fun z => some (Value.int z)) (show _ = _ from (by first | rfl | (first | simp [h_1v] | (rw [if_neg (by omega), if_neg (by omega), if_neg (by omega), if_neg (by omega), if_neg (by omega), if_neg (by omega), if_neg (by omega), if_neg (by omega)]))))), rfl, rfl, rfl⟩
    · refine z_tableIn C 56 (off := 55) dX5_count_1 (by omega) (by omega) (by rw [h_1v]; rfl) rfl ?_
      refine z_aload_n (pc' := 57) C dX5_count_56 rfl 0 rfl rfl ?_
      refine z_get (pc' := 60) C hU5 5 (by decide) q_o5 rfl 0 (by decide) (by decide +kernel) (v := .ref (G.2.1 2)) rfl dX5_count_57 rfl ?_
      refine z_cV (n := 0) (pc' := 63) (As := []) (rest := []) C 2 (c_X2_countLost l G sc ia la) gX5_count_X2_countLost rfl rfl rfl rfl (by decide +kernel) (by decide) rfl (by decide) q_o2 rfl rfl dX5_count_60 (Nat.le_of_ble_eq_true rfl) rfl (k_I ?_)
      show Z sc ia la [(0, .ref (G.2.1 5)), (1, .int k)] 63 [.int (s_ct (ia 6) 32)]
      exact z_iret (E := E) rfl dX5_count_63 ⟨(congrArg (fun z => some (Value.int z)) (show _ = _ from (by first | rfl | (first | simp [h_1v] | (rw [if_neg (by omega), if_neg (by omega), if_neg (by omega), if_neg (by omega), if_neg (by omega), if_neg (by omega), if_neg (by omega), if_neg (by omega)]))))), rfl, rfl, rfl⟩
    · refine z_tableIn C 64 (off := 63) dX5_count_1 (by omega) (by omega) (by rw [h_1v]; rfl) rfl ?_
      refine z_aload_n (pc' := 65) C dX5_count_64 rfl 0 rfl rfl ?_
      refine z_get (pc' := 68) C hU5 5 (by decide) q_o5 rfl 0 (by decide) (by decide +kernel) (v := .ref (G.2.1 2)) rfl dX5_count_65 rfl ?_
      refine z_cV (n := 0) (pc' := 71) (As := []) (rest := []) C 2 (c_X2_countMeasured l G sc ia la) gX5_count_X2_countMeasured rfl rfl rfl rfl (by decide +kernel) (by decide) rfl (by decide) q_o2 rfl rfl dX5_count_68 (Nat.le_of_ble_eq_true rfl) rfl (k_I ?_)
      show Z sc ia la [(0, .ref (G.2.1 5)), (1, .int k)] 71 [.int (s_ct (ia 7) 32)]
      exact z_iret (E := E) rfl dX5_count_71 ⟨(congrArg (fun z => some (Value.int z)) (show _ = _ from (by first | rfl | (first | simp [h_1v] | (rw [if_neg (by omega), if_neg (by omega), if_neg (by omega), if_neg (by omega), if_neg (by omega), if_neg (by omega), if_neg (by omega), if_neg (by omega)]))))), rfl, rfl, rfl⟩
    · refine z_tableIn C 72 (off := 71) dX5_count_1 (by omega) (by omega) (by rw [h_1v]; rfl) rfl ?_
      refine z_aload_n (pc' := 73) C dX5_count_72 rfl 0 rfl rfl ?_
      refine z_get (pc' := 76) C hU5 5 (by decide) q_o5 rfl 2 (by decide) (by decide +kernel) (v := .ref (G.2.1 4)) rfl dX5_count_73 rfl ?_
      refine z_get (pc' := 79) C hU4 4 (by decide) q_o4 rfl 0 (by decide) (by decide +kernel) (v := .int (sc 3)) rfl dX5_count_76 rfl ?_
      exact z_iret (E := E) rfl dX5_count_79 ⟨(congrArg (fun z => some (Value.int z)) (show _ = _ from (by first | rfl | (first | simp [h_1v] | (rw [if_neg (by omega), if_neg (by omega), if_neg (by omega), if_neg (by omega), if_neg (by omega), if_neg (by omega), if_neg (by omega), if_neg (by omega)]))))), rfl, rfl, rfl⟩
    · refine z_tableIn C 80 (off := 79) dX5_count_1 (by omega) (by omega) (by rw [h_1v]; rfl) rfl ?_
      refine z_aload_n (pc' := 81) C dX5_count_80 rfl 0 rfl rfl ?_
      refine z_get (pc' := 84) C hU5 5 (by decide) q_o5 rfl 2 (by decide) (by decide +kernel) (v := .ref (G.2.1 4)) rfl dX5_count_81 rfl ?_
      refine z_get (pc' := 87) C hU4 4 (by decide) q_o4 rfl 1 (by decide) (by decide +kernel) (v := .int (sc 4)) rfl dX5_count_84 rfl ?_
      exact z_iret (E := E) rfl dX5_count_87 ⟨(congrArg (fun z => some (Value.int z)) (show _ = _ from (by first | rfl | (first | simp [h_1v] | (rw [if_neg (by omega), if_neg (by omega), if_neg (by omega), if_neg (by omega), if_neg (by omega), if_neg (by omega), if_neg (by omega), if_neg (by omega)]))))), rfl, rfl, rfl⟩
    · refine z_tableIn C 88 (off := 87) dX5_count_1 (by omega) (by omega) (by rw [h_1v]; rfl) rfl ?_
      refine z_aload_n (pc' := 89) C dX5_count_88 rfl 0 rfl rfl ?_
      refine z_get (pc' := 92) C hU5 5 (by decide) q_o5 rfl 3 (by decide) (by decide +kernel) (v := .ref (G.2.1 3)) rfl dX5_count_89 rfl ?_
      refine z_get (pc' := 95) C hU3 3 (by decide) q_o3 rfl 0 (by decide) (by decide +kernel) (v := .int (sc 5)) rfl dX5_count_92 rfl ?_
      exact z_iret (E := E) rfl dX5_count_95 ⟨(congrArg (fun z => some (Value.int z)) (show _ = _ from (by first | rfl | (first | simp [h_1v] | (rw [if_neg (by omega), if_neg (by omega), if_neg (by omega), if_neg (by omega), if_neg (by omega), if_neg (by omega), if_neg (by omega), if_neg (by omega)]))))), rfl, rfl, rfl⟩
    · refine z_tableIn C 96 (off := 95) dX5_count_1 (by omega) (by omega) (by rw [h_1v]; rfl) rfl ?_
      refine z_aload_n (pc' := 97) C dX5_count_96 rfl 0 rfl rfl ?_
      refine z_get (pc' := 100) C hU5 5 (by decide) q_o5 rfl 3 (by decide) (by decide +kernel) (v := .ref (G.2.1 3)) rfl dX5_count_97 rfl ?_
      refine z_cV (n := 0) (pc' := 103) (As := []) (rest := []) C 3 (c_X3_countKnown l G sc ia la m hm hM) gX5_count_X3_countKnown rfl rfl rfl rfl (by decide +kernel) (by decide) rfl (by decide) q_o3 rfl rfl dX5_count_100 (Nat.le_of_ble_eq_true rfl) rfl (k_I ?_)
      show Z sc ia la [(0, .ref (G.2.1 5)), (1, .int k)] 103 [.int (s_cko ia m m)]
      exact z_iret (E := E) rfl dX5_count_103 ⟨(congrArg (fun z => some (Value.int z)) (show _ = _ from (by first | rfl | (first | simp [h_1v] | (rw [if_neg (by omega), if_neg (by omega), if_neg (by omega), if_neg (by omega), if_neg (by omega), if_neg (by omega), if_neg (by omega), if_neg (by omega)]))))), rfl, rfl, rfl⟩
    · refine z_tableIn C 104 (off := 103) dX5_count_1 (by omega) (by omega) (by rw [h_1v]; rfl) rfl ?_
      refine z_aload_n (pc' := 105) C dX5_count_104 rfl 0 rfl rfl ?_
      refine z_get (pc' := 108) C hU5 5 (by decide) q_o5 rfl 4 (by decide) (by decide +kernel) (v := .ref (G.2.1 0)) rfl dX5_count_105 rfl ?_
      refine z_get (pc' := 111) C hU0 0 (by decide) q_o0 rfl 0 (by decide) (by decide +kernel) (v := .int (sc 6)) rfl dX5_count_108 rfl ?_
      exact z_iret (E := E) rfl dX5_count_111 ⟨(congrArg (fun z => some (Value.int z)) (show _ = _ from (by first | rfl | (first | simp [h_1v] | (rw [if_neg (by omega), if_neg (by omega), if_neg (by omega), if_neg (by omega), if_neg (by omega), if_neg (by omega), if_neg (by omega), if_neg (by omega)]))))), rfl, rfl, rfl⟩

set_option maxHeartbeats 4000000 in
set_option maxRecDepth 100000 in
theorem c_X5_digest_ok (l : Launch) (G : Gv) (sc : Sc) (ia : Ia) (la : La) (n : Nat) (hn : sc 0 = nI n) (hN : n ≤ 32) (R K : Nat) (hR : sc 3 = nI R) (hC : sc 4 = nI K) (hR1 : 1 ≤ R) (hR8 : R ≤ 8) (hC8 : K ≤ 8) (m : Nat) (hm : sc 5 = nI m) (hM : m ≤ 5) (d : Nat) (hd : sc 6 = nI d) (hD : d ≤ 18)  : Ct l yX5_digest wsX5_digest ({ frames := 7, cells := 0, slots := 0, locals := 250 }) G [.ref (G.2.1 5)] sc ia la (fL (s_df (ia 9) (s_pfo ia m (s_fo (s_sf ia R K (s_nf ia (s_fo 191 (nI n).toInt64) n)) (nI m).toInt64) m) d) sc ia la) := by
  have hU5 : ∀ w ∈ u_ws RX5 TX5 5, w ∈ wsX5_digest := fun w h => List.mem_cons_of_mem _ (List.mem_append_left _ (List.mem_append_left _ (List.mem_append_left _ (List.mem_append_left _ (List.mem_append_right _ h)))))
  refine z_of (maxL := 3) (own := RX5) [(0, .ref (G.2.1 5))] rfl (by decide +kernel) rfl (Nat.le_of_ble_eq_true rfl) rfl (fun Z C E => ?_)
  refine z_aload_n (pc' := 1) C dX5_digest_0 rfl 0 rfl rfl ?_
  refine z_get (pc' := 4) C hU5 5 (by decide) q_o5 rfl 0 (by decide) (by decide +kernel) (v := .ref (G.2.1 2)) rfl dX5_digest_1 rfl ?_
  refine z_ldc2 (v := 191) (pc' := 7) C (by decide +kernel) dX5_digest_4 rfl ?_
  refine z_cV (n := 1) (pc' := 10) (As := [.long 191]) (rest := []) C 2 (c_X2_foldInto l G sc ia la n hn hN 191) gX5_digest_X2_foldInto rfl rfl rfl rfl (by decide +kernel) (by decide) rfl (by decide) q_o2 rfl rfl dX5_digest_7 (Nat.le_of_ble_eq_true rfl) rfl (k_L ?_)
  show Z sc ia la [(0, .ref (G.2.1 5))] 10 [.long (s_nf ia (s_fo 191 (nI n).toInt64) n)]
  refine z_lstore_n (lv' := [(1, .long (s_nf ia (s_fo 191 (nI n).toInt64) n)), (0, .ref (G.2.1 5))]) (pc' := 11) C dX5_digest_10 rfl (by decide) rfl rfl ?_
  refine z_aload_n (pc' := 12) C dX5_digest_11 rfl 1 rfl rfl ?_
  refine z_get (pc' := 15) C hU5 5 (by decide) q_o5 rfl 2 (by decide) (by decide +kernel) (v := .ref (G.2.1 4)) rfl dX5_digest_12 rfl ?_
  refine z_lload_n (pc' := 16) C dX5_digest_15 rfl 0 rfl rfl ?_
  refine z_cV (n := 1) (pc' := 19) (As := [.long (s_nf ia (s_fo 191 (nI n).toInt64) n)]) (rest := []) C 4 (c_X4_foldInto l G sc ia la R K hR hC hR1 hR8 hC8 (s_nf ia (s_fo 191 (nI n).toInt64) n)) gX5_digest_X4_foldInto rfl rfl rfl rfl (by decide +kernel) (by decide) rfl (by decide) q_o4 rfl rfl dX5_digest_16 (Nat.le_of_ble_eq_true rfl) rfl (k_L ?_)
  show Z sc ia la [(1, .long (s_nf ia (s_fo 191 (nI n).toInt64) n)), (0, .ref (G.2.1 5))] 19 [.long (s_sf ia R K (s_nf ia (s_fo 191 (nI n).toInt64) n))]
  refine z_lstore_n (lv' := [(1, .long (s_sf ia R K (s_nf ia (s_fo 191 (nI n).toInt64) n))), (0, .ref (G.2.1 5))]) (pc' := 20) C dX5_digest_19 rfl (by decide) rfl rfl ?_
  refine z_aload_n (pc' := 21) C dX5_digest_20 rfl 1 rfl rfl ?_
  refine z_get (pc' := 24) C hU5 5 (by decide) q_o5 rfl 3 (by decide) (by decide +kernel) (v := .ref (G.2.1 3)) rfl dX5_digest_21 rfl ?_
  refine z_lload_n (pc' := 25) C dX5_digest_24 rfl 0 rfl rfl ?_
  refine z_cV (n := 1) (pc' := 28) (As := [.long (s_sf ia R K (s_nf ia (s_fo 191 (nI n).toInt64) n))]) (rest := []) C 3 (c_X3_foldInto l G sc ia la m hm hM (s_sf ia R K (s_nf ia (s_fo 191 (nI n).toInt64) n))) gX5_digest_X3_foldInto rfl rfl rfl rfl (by decide +kernel) (by decide) rfl (by decide) q_o3 rfl rfl dX5_digest_25 (Nat.le_of_ble_eq_true rfl) rfl (k_L ?_)
  show Z sc ia la [(1, .long (s_sf ia R K (s_nf ia (s_fo 191 (nI n).toInt64) n))), (0, .ref (G.2.1 5))] 28 [.long (s_pfo ia m (s_fo (s_sf ia R K (s_nf ia (s_fo 191 (nI n).toInt64) n)) (nI m).toInt64) m)]
  refine z_lstore_n (lv' := [(1, .long (s_pfo ia m (s_fo (s_sf ia R K (s_nf ia (s_fo 191 (nI n).toInt64) n)) (nI m).toInt64) m)), (0, .ref (G.2.1 5))]) (pc' := 29) C dX5_digest_28 rfl (by decide) rfl rfl ?_
  refine z_aload_n (pc' := 30) C dX5_digest_29 rfl 1 rfl rfl ?_
  refine z_get (pc' := 33) C hU5 5 (by decide) q_o5 rfl 4 (by decide) (by decide +kernel) (v := .ref (G.2.1 0)) rfl dX5_digest_30 rfl ?_
  refine z_lload_n (pc' := 34) C dX5_digest_33 rfl 0 rfl rfl ?_
  refine z_cV (n := 1) (pc' := 37) (As := [.long (s_pfo ia m (s_fo (s_sf ia R K (s_nf ia (s_fo 191 (nI n).toInt64) n)) (nI m).toInt64) m)]) (rest := []) C 0 (c_X0_foldInto l G sc ia la d hd hD (s_pfo ia m (s_fo (s_sf ia R K (s_nf ia (s_fo 191 (nI n).toInt64) n)) (nI m).toInt64) m)) gX5_digest_X0_foldInto rfl rfl rfl rfl (by decide +kernel) (by decide) rfl (by decide) q_o0 rfl rfl dX5_digest_34 (Nat.le_of_ble_eq_true rfl) rfl (k_L ?_)
  show Z sc ia la [(1, .long (s_pfo ia m (s_fo (s_sf ia R K (s_nf ia (s_fo 191 (nI n).toInt64) n)) (nI m).toInt64) m)), (0, .ref (G.2.1 5))] 37 [.long (s_df (ia 9) (s_pfo ia m (s_fo (s_sf ia R K (s_nf ia (s_fo 191 (nI n).toInt64) n)) (nI m).toInt64) m) d)]
  exact z_lret (E := E) rfl dX5_digest_37 ⟨(congrArg (fun z => some (Value.long z)) rfl), rfl, rfl, rfl⟩

