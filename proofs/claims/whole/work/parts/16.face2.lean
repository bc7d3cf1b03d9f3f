theorem y_same {G : Gv} {sc sc' : Sc} {ia ia' : Ia} {la la' : La} {k : Nat} (h1 : k < 7 → q_ob G.2.1 sc' k = q_ob G.2.1 sc k) (h2 : ∀ a, k = 7 + a → ia' a = ia a) (h3 : ∀ r, k = 53 + r → la' r = la r) : q_val G sc' ia' la' k = q_val G sc ia la k := by
  unfold q_val
  by_cases a1 : k < 7
  · rw [if_pos a1, if_pos a1, h1 a1]
  · by_cases a2 : k < 49
    · rw [if_neg a1, if_neg a1, if_pos a2, if_pos a2, h2 (k - 7) (by omega)]
    · by_cases a3 : k < 53
      · rw [if_neg a1, if_neg a1, if_neg a2, if_neg a2, if_pos a3, if_pos a3]
      · rw [if_neg a1, if_neg a1, if_neg a2, if_neg a2, if_neg a3, if_neg a3, h3 (k - 53) (by omega)]
theorem c_X2_startAnew (l : Launch) (G : Gv) (sc : Sc) (ia : Ia) (la : La) (v : Int32) : Ct l yX2_startAnew wsX2_startAnew ({ frames := 0, cells := 0, slots := 0, locals := 0 }) G [.ref (G.2.1 2), .int v] sc ia la (fV (va_up sc 0 v) (a_net ia 32) la) := by
  refine y_full (I := I_net) (by decide) (by decide) (fun k hk hk2 => y_same (fun h7 => ?_) (fun a ha => ?_) (fun r hr => rfl)) (cy_X2_startAnew l G sc ia la v)
  · rcases (show k = 0 ∨ k = 1 ∨ k = 2 ∨ k = 3 ∨ k = 4 ∨ k = 5 ∨ k = 6 by omega) with rfl | rfl | rfl | rfl | rfl | rfl | rfl <;> first | rfl | exact absurd (by decide) hk2
  · subst ha
    simp [I_net] at hk2
    unfold a_net; rw [if_neg (by omega), if_neg (by omega), if_neg (by omega), if_neg (by omega), if_neg (by omega), if_neg (by omega), if_neg (by omega), if_neg (by omega)]
theorem c_X6_begin (l : Launch) (G : Gv) (sc : Sc) (ia : Ia) (la : La) (v : Int32) : Ct l yX6_begin wsX6_begin ({ frames := 0, cells := 0, slots := 0, locals := 0 }) G [.ref (G.2.1 6), .int v] sc ia la (fV (va_up sc 7 v) (a_mod ia 32) la) := by
  refine y_full (I := I_mod) (by decide) (by decide) (fun k hk hk2 => y_same (fun h7 => ?_) (fun a ha => ?_) (fun r hr => rfl)) (cy_X6_begin l G sc ia la v)
  · rcases (show k = 0 ∨ k = 1 ∨ k = 2 ∨ k = 3 ∨ k = 4 ∨ k = 5 ∨ k = 6 by omega) with rfl | rfl | rfl | rfl | rfl | rfl | rfl <;> first | rfl | exact absurd (by decide) hk2
  · subst ha
    simp [I_mod] at hk2
    unfold a_mod; rw [if_neg (by omega), if_neg (by omega), if_neg (by omega), if_neg (by omega), if_neg (by omega), if_neg (by omega), if_neg (by omega)]
theorem c_X4_startAnew (l : Launch) (G : Gv) (sc : Sc) (ia : Ia) (la : La) (v x : Int32) : Ct l yX4_startAnew wsX4_startAnew ({ frames := 0, cells := 0, slots := 0, locals := 0 }) G [.ref (G.2.1 4), .int v, .int x] sc ia la (fV (va_up (va_up sc 3 v) 4 x) (a_sh ia 9 0) la) := by
  refine y_full (I := I_sheet) (by decide) (by decide) (fun k hk hk2 => y_same (fun h7 => ?_) (fun a ha => ?_) (fun r hr => rfl)) (cy_X4_startAnew l G sc ia la v x)
  · rcases (show k = 0 ∨ k = 1 ∨ k = 2 ∨ k = 3 ∨ k = 4 ∨ k = 5 ∨ k = 6 by omega) with rfl | rfl | rfl | rfl | rfl | rfl | rfl <;> first | rfl | exact absurd (by decide) hk2
  · subst ha
    simp [I_sheet] at hk2
    unfold a_sh; rw [if_neg (by omega)]; split; rfl; rfl
theorem c_X3_startAnew (l : Launch) (G : Gv) (sc : Sc) (ia : Ia) (la : La) (v : Int32) : Ct l yX3_startAnew wsX3_startAnew ({ frames := 0, cells := 0, slots := 0, locals := 0 }) G [.ref (G.2.1 3), .int v] sc ia la (fV (va_up sc 5 v) (a_pr ia 5 0) la) := by
  refine y_full (I := I_pairs) (by decide) (by decide) (fun k hk hk2 => y_same (fun h7 => ?_) (fun a ha => ?_) (fun r hr => rfl)) (cy_X3_startAnew l G sc ia la v)
  · rcases (show k = 0 ∨ k = 1 ∨ k = 2 ∨ k = 3 ∨ k = 4 ∨ k = 5 ∨ k = 6 by omega) with rfl | rfl | rfl | rfl | rfl | rfl | rfl <;> first | rfl | exact absurd (by decide) hk2
  · subst ha
    simp [I_pairs] at hk2
    unfold a_pr; rw [if_neg (by omega)]; split; rfl; rfl
set_option maxHeartbeats 4000000 in
set_option maxRecDepth 100000 in
theorem c_X5_net_out (l : Launch) (G : Gv) (sc : Sc) (ia : Ia) (la : La) (k : Int32) (ho : s_out k 1 5 = true)  : Ct l yX5_net wsX5_net ({ frames := 7, cells := 0, slots := 0, locals := 250 }) G [.ref (G.2.1 5), .int k] sc ia la (fI (-102) sc ia la) := by
  refine z_of (maxL := 2) (own := RX5) [(0, .ref (G.2.1 5)), (1, .int k)] rfl (by decide +kernel) rfl (Nat.le_of_ble_eq_true rfl) rfl (fun Z C E => ?_)
  refine z_iload_n (pc' := 1) C dX5_net_0 rfl 1 rfl rfl ?_
  refine z_iconst (v := 1) (pc' := 2) C dX5_net_1 rfl rfl ?_
  refine z_iconst (v := 5) (pc' := 3) C dX5_net_2 rfl rfl ?_
  refine z_cS (n := 3) (pc' := 6) (As := [.int k, .int 1, .int 5]) (rest := []) C (c_X5_isOutsideB l G sc ia la k 1 5 true ho) gX5_net_X5_isOutside rfl rfl rfl (by decide +kernel) (by decide) rfl rfl dX5_net_3 (Nat.le_of_ble_eq_true rfl) rfl (k_I ?_)
  show Z sc ia la [(0, .ref (G.2.1 5)), (1, .int k)] 6 [.int 1]
  refine z_if_eq (pc' := 9) C 12 dX5_net_6 rfl rfl (fun h_6 => absurd h_6 (by decide)) (fun h_6 => ?_)
  refine z_bipush (v := -102) (pc' := 11) C dX5_net_9 rfl rfl ?_
  exact z_iret (E := E) rfl dX5_net_11 ⟨(congrArg (fun z => some (Value.int z)) rfl), rfl, rfl, rfl⟩

set_option maxHeartbeats 4000000 in
set_option maxRecDepth 100000 in
theorem c_X5_net_ok (l : Launch) (G : Gv) (sc : Sc) (ia : Ia) (la : La) (k : Int32) (ho : s_out k 1 5 = false)  : Ct l yX5_net wsX5_net ({ frames := 7, cells := 0, slots := 0, locals := 250 }) G [.ref (G.2.1 5), .int k] sc ia la (fI (1 <<< (k &&& 31)) (va_up sc 0 (1 <<< (k &&& 31))) (a_net ia 32) la) := by
  have hU2 : ∀ w ∈ u_ws RX2 TX2 9, w ∈ wsX5_net := fun w h => List.mem_cons_of_mem _ (List.mem_append_right _ h)
  have hU5 : ∀ w ∈ u_ws RX5 TX5 5, w ∈ wsX5_net := fun w h => List.mem_cons_of_mem _ (List.mem_append_left _ (List.mem_append_right _ h))
  refine z_of (maxL := 2) (own := RX5) [(0, .ref (G.2.1 5)), (1, .int k)] rfl (by decide +kernel) rfl (Nat.le_of_ble_eq_true rfl) rfl (fun Z C E => ?_)
  refine z_iload_n (pc' := 1) C dX5_net_0 rfl 1 rfl rfl ?_
  refine z_iconst (v := 1) (pc' := 2) C dX5_net_1 rfl rfl ?_
  refine z_iconst (v := 5) (pc' := 3) C dX5_net_2 rfl rfl ?_
  refine z_cS (n := 3) (pc' := 6) (As := [.int k, .int 1, .int 5]) (rest := []) C (c_X5_isOutsideB l G sc ia la k 1 5 false ho) gX5_net_X5_isOutside rfl rfl rfl (by decide +kernel) (by decide) rfl rfl dX5_net_3 (Nat.le_of_ble_eq_true rfl) rfl (k_I ?_)
  show Z sc ia la [(0, .ref (G.2.1 5)), (1, .int k)] 6 [.int 0]
  refine z_if_eq (pc' := 9) C 12 dX5_net_6 rfl rfl (fun h_6 => ?_) (fun h_6 => absurd h_6 (by decide))
  refine z_aload_n (pc' := 13) C dX5_net_12 rfl 0 rfl rfl ?_
  refine z_get (pc' := 16) C hU5 5 (by decide) q_o5 rfl 0 (by decide) (by decide +kernel) (v := .ref (G.2.1 2)) rfl dX5_net_13 rfl ?_
  refine z_iconst (v := 1) (pc' := 17) C dX5_net_16 rfl rfl ?_
  refine z_iload_n (pc' := 18) C dX5_net_17 rfl 1 rfl rfl ?_
  refine z_ishl (pc' := 19) C dX5_net_18 rfl ?_
  refine z_cV (n := 1) (pc' := 22) (As := [.int (1 <<< (k &&& 31))]) (rest := []) C 2 (c_X2_startAnew l G sc ia la (1 <<< (k &&& 31))) gX5_net_X2_startAnew rfl rfl rfl rfl (by decide +kernel) (by decide) rfl (by decide) q_o2 rfl rfl dX5_net_19 (Nat.le_of_ble_eq_true rfl) rfl (k_V ?_)
  show Z (va_up sc 0 (1 <<< (k &&& 31))) (a_net ia 32) la [(0, .ref (G.2.1 5)), (1, .int k)] 22 []
  refine z_aload_n (pc' := 23) C dX5_net_22 rfl 0 rfl rfl ?_
  refine z_get (pc' := 26) C hU5 5 (by decide) q_o5 rfl 0 (by decide) (by decide +kernel) (v := .ref (G.2.1 2)) rfl dX5_net_23 rfl ?_
  refine z_get (pc' := 29) C hU2 2 (by decide) q_o2 rfl 0 (by decide) (by decide +kernel) (v := .int (1 <<< (k &&& 31))) rfl dX5_net_26 rfl ?_
  exact z_iret (E := E) rfl dX5_net_29 ⟨(congrArg (fun z => some (Value.int z)) rfl), rfl, rfl, rfl⟩

set_option maxHeartbeats 4000000 in
set_option maxRecDepth 100000 in
theorem c_X5_sheet_row (l : Launch) (G : Gv) (sc : Sc) (ia : Ia) (la : La) (r c : Int32) (ho : s_out r 2 8 = true)  : Ct l yX5_sheet wsX5_sheet ({ frames := 7, cells := 0, slots := 0, locals := 250 }) G [.ref (G.2.1 5), .int r, .int c] sc ia la (fI (-102) sc ia la) := by
  refine z_of (maxL := 3) (own := RX5) [(0, .ref (G.2.1 5)), (1, .int r), (2, .int c)] rfl (by decide +kernel) rfl (Nat.le_of_ble_eq_true rfl) rfl (fun Z C E => ?_)
  refine z_iload_n (pc' := 1) C dX5_sheet_0 rfl 1 rfl rfl ?_
  refine z_iconst (v := 2) (pc' := 2) C dX5_sheet_1 rfl rfl ?_
  refine z_bipush (v := 8) (pc' := 4) C dX5_sheet_2 rfl rfl ?_
  refine z_cS (n := 3) (pc' := 7) (As := [.int r, .int 2, .int 8]) (rest := []) C (c_X5_isOutsideB l G sc ia la r 2 8 true ho) gX5_sheet_X5_isOutside rfl rfl rfl (by decide +kernel) (by decide) rfl rfl dX5_sheet_4 (Nat.le_of_ble_eq_true rfl) rfl (k_I ?_)
  show Z sc ia la [(0, .ref (G.2.1 5)), (1, .int r), (2, .int c)] 7 [.int 1]
  refine z_if_ne (pc' := 10) C 20 dX5_sheet_7 rfl rfl (fun h_7 => ?_) (fun h_7 => absurd h_7 (by decide))
  refine z_bipush (v := -102) (pc' := 22) C dX5_sheet_20 rfl rfl ?_
  exact z_iret (E := E) rfl dX5_sheet_22 ⟨(congrArg (fun z => some (Value.int z)) rfl), rfl, rfl, rfl⟩

set_option maxHeartbeats 4000000 in
set_option maxRecDepth 100000 in
theorem c_X5_sheet_col (l : Launch) (G : Gv) (sc : Sc) (ia : Ia) (la : La) (r c : Int32) (ho : s_out r 2 8 = false) (hp : s_out c 1 8 = true)  : Ct l yX5_sheet wsX5_sheet ({ frames := 7, cells := 0, slots := 0, locals := 250 }) G [.ref (G.2.1 5), .int r, .int c] sc ia la (fI (-102) sc ia la) := by
  refine z_of (maxL := 3) (own := RX5) [(0, .ref (G.2.1 5)), (1, .int r), (2, .int c)] rfl (by decide +kernel) rfl (Nat.le_of_ble_eq_true rfl) rfl (fun Z C E => ?_)
  refine z_iload_n (pc' := 1) C dX5_sheet_0 rfl 1 rfl rfl ?_
  refine z_iconst (v := 2) (pc' := 2) C dX5_sheet_1 rfl rfl ?_
  refine z_bipush (v := 8) (pc' := 4) C dX5_sheet_2 rfl rfl ?_
  refine z_cS (n := 3) (pc' := 7) (As := [.int r, .int 2, .int 8]) (rest := []) C (c_X5_isOutsideB l G sc ia la r 2 8 false ho) gX5_sheet_X5_isOutside rfl rfl rfl (by decide +kernel) (by decide) rfl rfl dX5_sheet_4 (Nat.le_of_ble_eq_true rfl) rfl (k_I ?_)
  show Z sc ia la [(0, .ref (G.2.1 5)), (1, .int r), (2, .int c)] 7 [.int 0]
  refine z_if_ne (pc' := 10) C 20 dX5_sheet_7 rfl rfl (fun h_7 => absurd h_7 (by decide)) (fun h_7 => ?_)
  refine z_iload_n (pc' := 11) C dX5_sheet_10 rfl 2 rfl rfl ?_
  refine z_iconst (v := 1) (pc' := 12) C dX5_sheet_11 rfl rfl ?_
  refine z_bipush (v := 8) (pc' := 14) C dX5_sheet_12 rfl rfl ?_
  refine z_cS (n := 3) (pc' := 17) (As := [.int c, .int 1, .int 8]) (rest := []) C (c_X5_isOutsideB l G sc ia la c 1 8 true hp) gX5_sheet_X5_isOutside rfl rfl rfl (by decide +kernel) (by decide) rfl rfl dX5_sheet_14 (Nat.le_of_ble_eq_true rfl) rfl (k_I ?_)
  show Z sc ia la [(0, .ref (G.2.1 5)), (1, .int r), (2, .int c)] 17 [.int 1]
  refine z_if_eq (pc' := 20) C 23 dX5_sheet_17 rfl rfl (fun h_17 => absurd h_17 (by decide)) (fun h_17 => ?_)
  refine z_bipush (v := -102) (pc' := 22) C dX5_sheet_20 rfl rfl ?_
  exact z_iret (E := E) rfl dX5_sheet_22 ⟨(congrArg (fun z => some (Value.int z)) rfl), rfl, rfl, rfl⟩

set_option maxHeartbeats 4000000 in
set_option maxRecDepth 100000 in
theorem c_X5_sheet_ok (l : Launch) (G : Gv) (sc : Sc) (ia : Ia) (la : La) (r c : Int32) (ho : s_out r 2 8 = false) (hp : s_out c 1 8 = false)  : Ct l yX5_sheet wsX5_sheet ({ frames := 7, cells := 0, slots := 0, locals := 250 }) G [.ref (G.2.1 5), .int r, .int c] sc ia la (fI (r * c) (va_up (va_up sc 3 r) 4 c) (a_sh ia 9 0) la) := by
  have hU5 : ∀ w ∈ u_ws RX5 TX5 5, w ∈ wsX5_sheet := fun w h => List.mem_cons_of_mem _ (List.mem_append_left _ (List.mem_append_right _ h))
  refine z_of (maxL := 3) (own := RX5) [(0, .ref (G.2.1 5)), (1, .int r), (2, .int c)] rfl (by decide +kernel) rfl (Nat.le_of_ble_eq_true rfl) rfl (fun Z C E => ?_)
  refine z_iload_n (pc' := 1) C dX5_sheet_0 rfl 1 rfl rfl ?_
  refine z_iconst (v := 2) (pc' := 2) C dX5_sheet_1 rfl rfl ?_
  refine z_bipush (v := 8) (pc' := 4) C dX5_sheet_2 rfl rfl ?_
  refine z_cS (n := 3) (pc' := 7) (As := [.int r, .int 2, .int 8]) (rest := []) C (c_X5_isOutsideB l G sc ia la r 2 8 false ho) gX5_sheet_X5_isOutside rfl rfl rfl (by decide +kernel) (by decide) rfl rfl dX5_sheet_4 (Nat.le_of_ble_eq_true rfl) rfl (k_I ?_)
  show Z sc ia la [(0, .ref (G.2.1 5)), (1, .int r), (2, .int c)] 7 [.int 0]
  refine z_if_ne (pc' := 10) C 20 dX5_sheet_7 rfl rfl (fun h_7 => absurd h_7 (by decide)) (fun h_7 => ?_)
  refine z_iload_n (pc' := 11) C dX5_sheet_10 rfl 2 rfl rfl ?_
  refine z_iconst (v := 1) (pc' := 12) C dX5_sheet_11 rfl rfl ?_
  refine z_bipush (v := 8) (pc' := 14) C dX5_sheet_12 rfl rfl ?_
  refine z_cS (n := 3) (pc' := 17) (As := [.int c, .int 1, .int 8]) (rest := []) C (c_X5_isOutsideB l G sc ia la c 1 8 false hp) gX5_sheet_X5_isOutside rfl rfl rfl (by decide +kernel) (by decide) rfl rfl dX5_sheet_14 (Nat.le_of_ble_eq_true rfl) rfl (k_I ?_)
  show Z sc ia la [(0, .ref (G.2.1 5)), (1, .int r), (2, .int c)] 17 [.int 0]
  refine z_if_eq (pc' := 20) C 23 dX5_sheet_17 rfl rfl (fun h_17 => ?_) (fun h_17 => absurd h_17 (by decide))
  refine z_aload_n (pc' := 24) C dX5_sheet_23 rfl 0 rfl rfl ?_
  refine z_get (pc' := 27) C hU5 5 (by decide) q_o5 rfl 2 (by decide) (by decide +kernel) (v := .ref (G.2.1 4)) rfl dX5_sheet_24 rfl ?_
  refine z_iload_n (pc' := 28) C dX5_sheet_27 rfl 1 rfl rfl ?_
  refine z_iload_n (pc' := 29) C dX5_sheet_28 rfl 2 rfl rfl ?_
  refine z_cV (n := 2) (pc' := 32) (As := [.int r, .int c]) (rest := []) C 4 (c_X4_startAnew l G sc ia la r c) gX5_sheet_X4_startAnew rfl rfl rfl rfl (by decide +kernel) (by decide) rfl (by decide) q_o4 rfl rfl dX5_sheet_29 (Nat.le_of_ble_eq_true rfl) rfl (k_V ?_)
  show Z (va_up (va_up sc 3 r) 4 c) (a_sh ia 9 0) la [(0, .ref (G.2.1 5)), (1, .int r), (2, .int c)] 32 []
  refine z_iload_n (pc' := 33) C dX5_sheet_32 rfl 1 rfl rfl ?_
  refine z_iload_n (pc' := 34) C dX5_sheet_33 rfl 2 rfl rfl ?_
  refine z_imul (pc' := 35) C dX5_sheet_34 rfl ?_
  exact z_iret (E := E) rfl dX5_sheet_35 ⟨(congrArg (fun z => some (Value.int z)) rfl), rfl, rfl, rfl⟩

set_option maxHeartbeats 4000000 in
set_option maxRecDepth 100000 in
theorem c_X5_antennas_out (l : Launch) (G : Gv) (sc : Sc) (ia : Ia) (la : La) (v : Int32) (ho : s_out v 3 5 = true)  : Ct l yX5_antennas wsX5_antennas ({ frames := 7, cells := 0, slots := 0, locals := 250 }) G [.ref (G.2.1 5), .int v] sc ia la (fI (-102) sc ia la) := by
  refine z_of (maxL := 2) (own := RX5) [(0, .ref (G.2.1 5)), (1, .int v)] rfl (by decide +kernel) rfl (Nat.le_of_ble_eq_true rfl) rfl (fun Z C E => ?_)
  refine z_iload_n (pc' := 1) C dX5_antennas_0 rfl 1 rfl rfl ?_
  refine z_iconst (v := 3) (pc' := 2) C dX5_antennas_1 rfl rfl ?_
  refine z_iconst (v := 5) (pc' := 3) C dX5_antennas_2 rfl rfl ?_
  refine z_cS (n := 3) (pc' := 6) (As := [.int v, .int 3, .int 5]) (rest := []) C (c_X5_isOutsideB l G sc ia la v 3 5 true ho) gX5_antennas_X5_isOutside rfl rfl rfl (by decide +kernel) (by decide) rfl rfl dX5_antennas_3 (Nat.le_of_ble_eq_true rfl) rfl (k_I ?_)
  show Z sc ia la [(0, .ref (G.2.1 5)), (1, .int v)] 6 [.int 1]
  refine z_if_eq (pc' := 9) C 12 dX5_antennas_6 rfl rfl (fun h_6 => absurd h_6 (by decide)) (fun h_6 => ?_)
  refine z_bipush (v := -102) (pc' := 11) C dX5_antennas_9 rfl rfl ?_
  exact z_iret (E := E) rfl dX5_antennas_11 ⟨(congrArg (fun z => some (Value.int z)) rfl), rfl, rfl, rfl⟩

set_option maxHeartbeats 4000000 in
set_option maxRecDepth 100000 in
theorem c_X5_antennas_ok (l : Launch) (G : Gv) (sc : Sc) (ia : Ia) (la : La) (v : Int32) (ho : s_out v 3 5 = false)  : Ct l yX5_antennas wsX5_antennas ({ frames := 7, cells := 0, slots := 0, locals := 250 }) G [.ref (G.2.1 5), .int v] sc ia la (fI v (va_up sc 5 v) (a_pr ia 5 0) la) := by
  have hU5 : ∀ w ∈ u_ws RX5 TX5 5, w ∈ wsX5_antennas := fun w h => List.mem_cons_of_mem _ (List.mem_append_left _ (List.mem_append_right _ h))
  refine z_of (maxL := 2) (own := RX5) [(0, .ref (G.2.1 5)), (1, .int v)] rfl (by decide +kernel) rfl (Nat.le_of_ble_eq_true rfl) rfl (fun Z C E => ?_)
  refine z_iload_n (pc' := 1) C dX5_antennas_0 rfl 1 rfl rfl ?_
  refine z_iconst (v := 3) (pc' := 2) C dX5_antennas_1 rfl rfl ?_
  refine z_iconst (v := 5) (pc' := 3) C dX5_antennas_2 rfl rfl ?_
  refine z_cS (n := 3) (pc' := 6) (As := [.int v, .int 3, .int 5]) (rest := []) C (c_X5_isOutsideB l G sc ia la v 3 5 false ho) gX5_antennas_X5_isOutside rfl rfl rfl (by decide +kernel) (by decide) rfl rfl dX5_antennas_3 (Nat.le_of_ble_eq_true rfl) rfl (k_I ?_)
  show Z sc ia la [(0, .ref (G.2.1 5)), (1, .int v)] 6 [.int 0]
  refine z_if_eq (pc' := 9) C 12 dX5_antennas_6 rfl rfl (fun h_6 => ?_) (fun h_6 => absurd h_6 (by decide))
  refine z_aload_n (pc' := 13) C dX5_antennas_12 rfl 0 rfl rfl ?_
  refine z_get (pc' := 16) C hU5 5 (by decide) q_o5 rfl 3 (by decide) (by decide +kernel) (v := .ref (G.2.1 3)) rfl dX5_antennas_13 rfl ?_
  refine z_iload_n (pc' := 17) C dX5_antennas_16 rfl 1 rfl rfl ?_
  refine z_cV (n := 1) (pc' := 20) (As := [.int v]) (rest := []) C 3 (c_X3_startAnew l G sc ia la v) gX5_antennas_X3_startAnew rfl rfl rfl rfl (by decide +kernel) (by decide) rfl (by decide) q_o3 rfl rfl dX5_antennas_17 (Nat.le_of_ble_eq_true rfl) rfl (k_V ?_)
  show Z (va_up sc 5 v) (a_pr ia 5 0) la [(0, .ref (G.2.1 5)), (1, .int v)] 20 []
  refine z_iload_n (pc' := 21) C dX5_antennas_20 rfl 1 rfl rfl ?_
  exact z_iret (E := E) rfl dX5_antennas_21 ⟨(congrArg (fun z => some (Value.int z)) rfl), rfl, rfl, rfl⟩

set_option maxHeartbeats 4000000 in
set_option maxRecDepth 100000 in
theorem c_X6_net_out (l : Launch) (G : Gv) (sc : Sc) (ia : Ia) (la : La) (k : Int32) (ho : s_out k 1 5 = true)  : Ct l yX6_net wsX6_net ({ frames := 7, cells := 0, slots := 0, locals := 250 }) G [.ref (G.2.1 6), .int k] sc ia la (fI (-102) sc ia la) := by
  refine z_of (maxL := 2) (own := RX6) [(0, .ref (G.2.1 6)), (1, .int k)] rfl (by decide +kernel) rfl (Nat.le_of_ble_eq_true rfl) rfl (fun Z C E => ?_)
  refine z_iload_n (pc' := 1) C dX6_net_0 rfl 1 rfl rfl ?_
  refine z_i2l (pc' := 2) C dX6_net_1 rfl ?_
  refine z_lconst (v := 1) (pc' := 3) C dX6_net_2 rfl rfl ?_
  refine z_ldc2 (v := 5) (pc' := 6) C (by decide +kernel) dX6_net_3 rfl ?_
  refine z_cS (n := 3) (pc' := 9) (As := [.long k.toInt64, .long 1, .long 5]) (rest := []) C (c_X6_inB l G sc ia la k 1 5 1 5 rfl rfl false ho) gX6_net_X6_in rfl rfl rfl (by decide +kernel) (by decide) rfl rfl dX6_net_6 (Nat.le_of_ble_eq_true rfl) rfl (k_I ?_)
  show Z sc ia la [(0, .ref (G.2.1 6)), (1, .int k)] 9 [.int 0]
  refine z_if_ne (pc' := 12) C 15 dX6_net_9 rfl rfl (fun h_9 => absurd h_9 (by decide)) (fun h_9 => ?_)
  refine z_bipush (v := -102) (pc' := 14) C dX6_net_12 rfl rfl ?_
  exact z_iret (E := E) rfl dX6_net_14 ⟨(congrArg (fun z => some (Value.int z)) rfl), rfl, rfl, rfl⟩

set_option maxHeartbeats 4000000 in
set_option maxRecDepth 100000 in
theorem c_X6_net_ok (l : Launch) (G : Gv) (sc : Sc) (ia : Ia) (la : La) (k : Int32) (ho : s_out k 1 5 = false)  : Ct l yX6_net wsX6_net ({ frames := 7, cells := 0, slots := 0, locals := 250 }) G [.ref (G.2.1 6), .int k] sc ia la (fI (1 <<< (k &&& 31)) (va_up sc 7 (1 <<< (k &&& 31))) (a_mod ia 32) la) := by
  have hU6 : ∀ w ∈ u_ws RX6 TX6 25, w ∈ wsX6_net := fun w h => List.mem_cons_of_mem _ (List.mem_append_right _ h)
  refine z_of (maxL := 2) (own := RX6) [(0, .ref (G.2.1 6)), (1, .int k)] rfl (by decide +kernel) rfl (Nat.le_of_ble_eq_true rfl) rfl (fun Z C E => ?_)
  refine z_iload_n (pc' := 1) C dX6_net_0 rfl 1 rfl rfl ?_
  refine z_i2l (pc' := 2) C dX6_net_1 rfl ?_
  refine z_lconst (v := 1) (pc' := 3) C dX6_net_2 rfl rfl ?_
  refine z_ldc2 (v := 5) (pc' := 6) C (by decide +kernel) dX6_net_3 rfl ?_
  refine z_cS (n := 3) (pc' := 9) (As := [.long k.toInt64, .long 1, .long 5]) (rest := []) C (c_X6_inB l G sc ia la k 1 5 1 5 rfl rfl true ho) gX6_net_X6_in rfl rfl rfl (by decide +kernel) (by decide) rfl rfl dX6_net_6 (Nat.le_of_ble_eq_true rfl) rfl (k_I ?_)
  show Z sc ia la [(0, .ref (G.2.1 6)), (1, .int k)] 9 [.int 1]
  refine z_if_ne (pc' := 12) C 15 dX6_net_9 rfl rfl (fun h_9 => ?_) (fun h_9 => absurd h_9 (by decide))
  refine z_aload_n (pc' := 16) C dX6_net_15 rfl 0 rfl rfl ?_
  refine z_iconst (v := 1) (pc' := 17) C dX6_net_16 rfl rfl ?_
  refine z_iload_n (pc' := 18) C dX6_net_17 rfl 1 rfl rfl ?_
  refine z_ishl (pc' := 19) C dX6_net_18 rfl ?_
  refine z_cV (n := 1) (pc' := 22) (As := [.int (1 <<< (k &&& 31))]) (rest := []) C 6 (c_X6_begin l G sc ia la (1 <<< (k &&& 31))) gX6_net_X6_begin rfl rfl rfl rfl (by decide +kernel) (by decide) rfl (by decide) q_o6 rfl rfl dX6_net_19 (Nat.le_of_ble_eq_true rfl) rfl (k_V ?_)
  show Z (va_up sc 7 (1 <<< (k &&& 31))) (a_mod ia 32) la [(0, .ref (G.2.1 6)), (1, .int k)] 22 []
  refine z_aload_n (pc' := 23) C dX6_net_22 rfl 0 rfl rfl ?_
  refine z_get (pc' := 26) C hU6 6 (by decide) q_o6 rfl 0 (by decide) (by decide +kernel) (v := .int (1 <<< (k &&& 31))) rfl dX6_net_23 rfl ?_
  exact z_iret (E := E) rfl dX6_net_26 ⟨(congrArg (fun z => some (Value.int z)) rfl), rfl, rfl, rfl⟩

