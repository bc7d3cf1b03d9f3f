
theorem c_X1_listLostW (l : Launch) (G : Gv) (sc : Sc) (ia : Ia) (la : La) (n : Nat) (hn : sc 0 = nI n) (hN : n ≤ 32) (w : Nat) (hwe : s_cn (s_lo ia) n = w) (hW : w ≤ 5) : Ct l yX1_listLost wsX1_listLost ({ frames := 0, cells := 0, slots := 0, locals := 0 }) G [.ref (G.2.1 1), .ref (G.2.1 2)] sc ia la (fV (va_up sc 1 (nI w)) (va_up ia 8 (s_ul ia n)) la) := by
  subst hwe
  exact c_X1_listLost l G sc ia la n hn hN hW
theorem c_X1_writeEquationsW (l : Launch) (G : Gv) (sc : Sc) (ia : Ia) (la : La) (n : Nat) (hn : sc 0 = nI n) (hN : n ≤ 32) (w : Nat) (hw : sc 1 = nI w) (hW : w ≤ 5) (u : Nat → Nat) (hu : ∀ c, c < w → ia 8 c = nI (u c) ∧ u c < 32) (m v : Int32) (h : Nat) (hhe : s_cn (s_np m v) n = h) (LA : La) (hLA : s_wes la ia u w m v n = LA) : Ct l yX1_writeEquations wsX1_writeEquations ({ frames := 3, cells := 0, slots := 0, locals := 68 }) G [.ref (G.2.1 1), .ref (G.2.1 2), .int m, .int v] sc ia la (fV (va_up sc 2 (nI h)) ia LA) := by
  subst hhe
  subst hLA
  exact c_X1_writeEquations l G sc ia la n hn hN w hw hW u hu m v
theorem c_X1_reduceW (l : Launch) (G : Gv) (sc : Sc) (ia : Ia) (la : La) (w h : Nat) (hw : sc 1 = nI w) (hh : sc 2 = nI h) (hW : w ≤ 5) (hH : h ≤ 32) (x : Nat × Int64 × La) (hx : s_rd la w h w = x) : Ct l yX1_reduce wsX1_reduce ({ frames := 1, cells := 0, slots := 0, locals := 32 }) G [.ref (G.2.1 1)] sc ia la (fI (nI x.1) sc ia x.2.2) := by
  subst hx
  exact c_X1_reduce l G sc ia la w h hw hh hW hH
set_option maxHeartbeats 4000000 in
set_option maxRecDepth 100000 in
theorem c_X1_solve (l : Launch) (G : Gv) (sc : Sc) (ia : Ia) (la : La) (n : Nat) (hn : sc 0 = nI n) (hN : n ≤ 32) (w : Nat) (hwe : s_cn (s_lo ia) n = w) (hW : w ≤ 5) (u : Nat → Nat) (hue : ∀ c, c < w → s_ul ia n c = nI (u c) ∧ u c < 32) (m v : Int32) (h : Nat) (hhe : s_cn (s_np m v) n = h) (LA : La) (hLA : s_wes la (va_up ia 8 (s_ul ia n)) u w m v n = LA) (x : Nat × Int64 × La) (hx : s_rd LA w h w = x)  : Ct l yX1_solve wsX1_solve ({ frames := 4, cells := 0, slots := 0, locals := 92 }) G [.ref (G.2.1 1), .ref (G.2.1 2), .int m, .int v] sc ia la (fI (s_vd x w h) (va_up (va_up sc 1 (nI w)) 2 (nI h)) (va_up ia 8 (s_ul ia n)) x.2.2) := by
  have hU1 : ∀ w ∈ u_ws RX1 TX1 4, w ∈ wsX1_solve := fun w h => List.mem_cons_of_mem _ (List.mem_append_left _ (List.mem_append_right _ h))
  have hH : h ≤ 32 := by have := s_cn_le (s_np m v) n; omega
  have hxl : x.1 ≤ w ∧ x.1 ≤ h := by rw [← hx]; exact s_rd_le LA w h w
  refine z_of (maxL := 6) (own := RX1) [(0, .ref (G.2.1 1)), (1, .ref (G.2.1 2)), (2, .int m), (3, .int v)] rfl (by decide +kernel) rfl (Nat.le_of_ble_eq_true rfl) rfl (fun Z C E => ?_)
  refine z_aload_n (pc' := 1) C dX1_solve_0 rfl 0 rfl rfl ?_
  refine z_aload_n (pc' := 2) C dX1_solve_1 rfl 1 rfl rfl ?_
  refine z_cV (n := 1) (pc' := 5) (As := [.ref (G.2.1 2)]) (rest := []) C 1 (c_X1_listLostW l G sc ia la n hn hN w hwe hW) gX1_solve_X1_listLost rfl rfl rfl rfl (by decide +kernel) (by decide) rfl (by decide) q_o1 rfl rfl dX1_solve_2 (Nat.le_of_ble_eq_true rfl) rfl (k_V ?_)
  show Z (va_up sc 1 (nI w)) (va_up ia 8 (s_ul ia n)) la [(0, .ref (G.2.1 1)), (1, .ref (G.2.1 2)), (2, .int m), (3, .int v)] 5 []
  refine z_aload_n (pc' := 6) C dX1_solve_5 rfl 0 rfl rfl ?_
  refine z_aload_n (pc' := 7) C dX1_solve_6 rfl 1 rfl rfl ?_
  refine z_iload_n (pc' := 8) C dX1_solve_7 rfl 2 rfl rfl ?_
  refine z_iload_n (pc' := 9) C dX1_solve_8 rfl 3 rfl rfl ?_
  refine z_cV (n := 3) (pc' := 12) (As := [.ref (G.2.1 2), .int m, .int v]) (rest := []) C 1 (c_X1_writeEquationsW l G (va_up sc 1 (nI w)) (va_up ia 8 (s_ul ia n)) la n hn hN w rfl hW u hue m v h hhe LA hLA) gX1_solve_X1_writeEquations rfl rfl rfl rfl (by decide +kernel) (by decide) rfl (by decide) q_o1 rfl rfl dX1_solve_9 (Nat.le_of_ble_eq_true rfl) rfl (k_V ?_)
  show Z (va_up (va_up sc 1 (nI w)) 2 (nI h)) (va_up ia 8 (s_ul ia n)) LA [(0, .ref (G.2.1 1)), (1, .ref (G.2.1 2)), (2, .int m), (3, .int v)] 12 []
  refine z_aload_n (pc' := 13) C dX1_solve_12 rfl 0 rfl rfl ?_
  refine z_cV (n := 0) (pc' := 16) (As := []) (rest := []) C 1 (c_X1_reduceW l G (va_up (va_up sc 1 (nI w)) 2 (nI h)) (va_up ia 8 (s_ul ia n)) LA w h rfl rfl hW hH x hx) gX1_solve_X1_reduce rfl rfl rfl rfl (by decide +kernel) (by decide) rfl (by decide) q_o1 rfl rfl dX1_solve_13 (Nat.le_of_ble_eq_true rfl) rfl (k_I ?_)
  show Z (va_up (va_up sc 1 (nI w)) 2 (nI h)) (va_up ia 8 (s_ul ia n)) x.2.2 [(0, .ref (G.2.1 1)), (1, .ref (G.2.1 2)), (2, .int m), (3, .int v)] 16 [.int (nI (x.1))]
  refine z_istore (lv' := [(4, .int (nI (x.1))), (0, .ref (G.2.1 1)), (1, .ref (G.2.1 2)), (2, .int m), (3, .int v)]) (pc' := 18) C dX1_solve_16 (by decide) rfl rfl ?_
  refine z_iload (pc' := 20) C dX1_solve_18 0 rfl rfl ?_
  refine z_istore (lv' := [(5, .int (nI (x.1))), (4, .int (nI (x.1))), (0, .ref (G.2.1 1)), (1, .ref (G.2.1 2)), (2, .int m), (3, .int v)]) (pc' := 22) C dX1_solve_20 (by decide) rfl rfl ?_
  have L22 : ∀ (fuel : Nat) (d : Nat) (hd : x.1 + d ≤ h) (ha : s_all (fun d => decide (x.2.2 (x.1 + d) w = 0)) d = true), h - (x.1 + d) < fuel → Z (va_up (va_up sc 1 (nI w)) 2 (nI h)) (va_up ia 8 (s_ul ia n)) x.2.2 [(5, .int (nI (x.1 + d))), (4, .int (nI (x.1))), (0, .ref (G.2.1 1))] 22 [] := by
    intro fuel
    induction fuel with
    | zero => intro d hd ha hm22; exact absurd hm22 (Nat.not_lt_zero _)
    | succ fuel ih22 =>
      intro d hd ha hm22
      refine z_iload (pc' := 24) C dX1_solve_22 0 rfl rfl ?_
      refine z_aload_n (pc' := 25) C dX1_solve_24 rfl 2 rfl rfl ?_
      refine z_get (pc' := 28) C hU1 1 (by decide) q_o1 rfl 3 (by decide) (by decide +kernel) (v := .int (nI h)) rfl dX1_solve_25 rfl ?_
      refine z_icmpN_ge (a := x.1 + d) (b := h) (pc' := 31) C 56 (by omega) (by omega) dX1_solve_28 rfl rfl (fun h_28 => ?_) (fun h_28 => ?_)
      · refine z_iload (pc' := 58) C dX1_solve_56 1 rfl rfl ?_
        refine z_aload_n (pc' := 59) C dX1_solve_58 rfl 2 rfl rfl ?_
        refine z_get (pc' := 62) C hU1 1 (by decide) q_o1 rfl 2 (by decide) (by decide +kernel) (v := .int (nI w)) rfl dX1_solve_59 rfl ?_
        refine z_icmpN_ne (a := x.1) (b := w) (pc' := 65) C 69 (by omega) (by omega) dX1_solve_62 rfl rfl (fun h_62 => ?_) (fun h_62 => ?_)
        · refine z_iconst (v := 2) (pc' := 70) C dX1_solve_69 rfl rfl ?_
          exact z_iret (E := E) rfl dX1_solve_70 ⟨(congrArg (fun z => some (Value.int z)) (show _ = _ from (by first | rfl | (have e9 : d = h - x.1 := (by omega); subst e9; unfold s_vd; rw [if_pos ha]; simp [h_62])))), rfl, rfl, rfl⟩
        · refine z_iconst (v := 1) (pc' := 66) C dX1_solve_65 rfl rfl ?_
          refine z_goto (pc' := 70) C dX1_solve_66 rfl ?_
          exact z_iret (E := E) rfl dX1_solve_70 ⟨(congrArg (fun z => some (Value.int z)) (show _ = _ from (by first | rfl | (have e9 : d = h - x.1 := (by omega); subst e9; unfold s_vd; rw [if_pos ha]; simp [h_62])))), rfl, rfl, rfl⟩
      · refine z_aload_n (pc' := 32) C dX1_solve_31 rfl 2 rfl rfl ?_
        refine z_get (pc' := 35) C hU1 1 (by decide) q_o1 rfl 0 (by decide) (by decide +kernel) (v := .ref (G.2.1 49)) rfl dX1_solve_32 rfl ?_
        refine z_iload (pc' := 37) C dX1_solve_35 0 rfl rfl ?_
        refine z_aald (pc' := 38) C 49 (by decide) (i := x.1 + d) (a := G.2.1 (53 + (x.1 + d))) (ty := .long) rfl q_v49 (by omega) (by decide) (if_pos (by omega)) dX1_solve_37 rfl ?_
        refine z_aload_n (pc' := 39) C dX1_solve_38 rfl 2 rfl rfl ?_
        refine z_get (pc' := 42) C hU1 1 (by decide) q_o1 rfl 2 (by decide) (by decide +kernel) (v := .int (nI w)) rfl dX1_solve_39 rfl ?_
        refine z_lald (pc' := 43) C (53 + (x.1 + d)) (by omega) (N := 6) (i := w) (f := x.2.2 (x.1 + d)) (q_lr (x.1 + d) (by omega)) (by omega) (by decide) dX1_solve_42 rfl ?_
        refine z_lconst (v := 0) (pc' := 44) C dX1_solve_43 rfl rfl ?_
        refine z_lcmp (pc' := 45) C dX1_solve_44 rfl ?_
        refine z_if_eq (pc' := 48) C 50 dX1_solve_45 rfl rfl (fun h_45 => ?_) (fun h_45 => ?_)
        · refine z_iinc (v := nI (x.1 + d + 1)) (k9 := 0) (lv' := [(5, .int (nI (x.1 + d + 1))), (4, .int (nI (x.1))), (0, .ref (G.2.1 1))]) (pc' := 53) C dX1_solve_50 rfl (nI_1 (x.1 + d)) (by decide) rfl rfl ?_
          refine z_goto (pc' := 22) C dX1_solve_53 rfl ?_
          exact z_cast rfl rfl rfl rfl rfl (ih22 (d + 1) (by omega) (by exact s_all_s ha (by rw [lg_cmp_eq] at h_45; simp [h_45])) (by omega))
        · refine z_iconst (v := 0) (pc' := 49) C dX1_solve_48 rfl rfl ?_
          exact z_iret (E := E) rfl dX1_solve_49 ⟨(congrArg (fun z => some (Value.int z)) (show _ = _ from (by first | rfl | (rw [lg_cmp_eq] at h_45; unfold s_vd; rw [s_all_f (i := d) (by omega) (by simp [h_45])]; rfl)))), rfl, rfl, rfl⟩
  refine z_sub (lv' := [(5, .int (nI (x.1))), (4, .int (nI (x.1))), (0, .ref (G.2.1 1))]) C [0, 1, 2] rfl ?_
  exact z_cast rfl rfl rfl rfl rfl (L22 (_ + 1) 0 (by omega) (by rfl) (Nat.lt_succ_self _))

theorem c_X1_solveB (l : Launch) (G : Gv) (sc : Sc) (ia : Ia) (la : La) (n : Nat) (hn : sc 0 = nI n) (hN : n ≤ 32) (w : Nat) (hwe : s_cn (s_lo ia) n = w) (hW : w ≤ 5) (u : Nat → Nat) (hue : ∀ c, c < w → s_ul ia n c = nI (u c) ∧ u c < 32) (m v : Int32) (h : Nat) (hhe : s_cn (s_np m v) n = h) (LA : La) (hLA : s_wes la (va_up ia 8 (s_ul ia n)) u w m v n = LA) (x : Nat × Int64 × La) (hx : s_rd LA w h w = x) (z : Int32) (hz : s_vd x w h = z) : Ct l yX1_solve wsX1_solve ({ frames := 4, cells := 0, slots := 0, locals := 92 }) G [.ref (G.2.1 1), .ref (G.2.1 2), .int m, .int v] sc ia la (fI z (va_up (va_up sc 1 (nI w)) 2 (nI h)) (va_up ia 8 (s_ul ia n)) x.2.2) := by
  subst hz
  exact c_X1_solve l G sc ia la n hn hN w hwe hW u hue m v h hhe LA hLA x hx
set_option maxHeartbeats 4000000 in
set_option maxRecDepth 100000 in
theorem c_X1_commonDivisor (l : Launch) (G : Gv) (sc : Sc) (ia : Ia) (la : La) (x y : Int64)  : Ct l yX1_commonDivisor wsX1_commonDivisor ({ frames := 1, cells := 0, slots := 0, locals := 15 }) G [.long x, .long y] sc ia la (fL (s_cd x y) sc ia la) := by
  refine z_of (maxL := 11) (own := RX1) [(0, .long x), (2, .long y)] rfl (by decide +kernel) rfl (Nat.le_of_ble_eq_true rfl) rfl (fun Z C E => ?_)
  refine z_lload_n (pc' := 1) C dX1_commonDivisor_0 rfl 0 rfl rfl ?_
  refine z_mabsL (pc' := 4) C (by decide +kernel) (by decide +kernel) (by decide +kernel) (by decide +kernel) (by decide) (Nat.le_of_ble_eq_true rfl) dX1_commonDivisor_1 rfl ?_
  show Z sc ia la [(0, .long x), (2, .long y)] 4 [.long (s_absl x)]
  refine z_lstore (lv' := [(4, .long (s_absl x)), (0, .long x), (2, .long y)]) (pc' := 6) C dX1_commonDivisor_4 (by decide) rfl rfl ?_
  refine z_lload_n (pc' := 7) C dX1_commonDivisor_6 rfl 2 rfl rfl ?_
  refine z_mabsL (pc' := 10) C (by decide +kernel) (by decide +kernel) (by decide +kernel) (by decide +kernel) (by decide) (Nat.le_of_ble_eq_true rfl) dX1_commonDivisor_7 rfl ?_
  show Z sc ia la [(4, .long (s_absl x)), (0, .long x), (2, .long y)] 10 [.long (s_absl y)]
  refine z_lstore (lv' := [(6, .long (s_absl y)), (4, .long (s_absl x)), (0, .long x), (2, .long y)]) (pc' := 12) C dX1_commonDivisor_10 (by decide) rfl rfl ?_
  refine z_iconst (v := 0) (pc' := 13) C dX1_commonDivisor_12 rfl rfl ?_
  refine z_istore (lv' := [(8, .int 0), (6, .long (s_absl y)), (4, .long (s_absl x)), (0, .long x), (2, .long y)]) (pc' := 15) C dX1_commonDivisor_13 (by decide) rfl rfl ?_
  have L15 : ∀ (fuel : Nat) (k : Nat) (a : Int64) (b : Int64) (hk : k ≤ 128) (he : s_eu (128 - k) a b = s_cd x y), 128 - k < fuel → Z sc ia la [(8, .int (nI k)), (6, .long b), (4, .long a)] 15 [] := by
    intro fuel
    induction fuel with
    | zero => intro k a b hk he hm15; exact absurd hm15 (Nat.not_lt_zero _)
    | succ fuel ih15 =>
      intro k a b hk he hm15
      refine z_iload (pc' := 17) C dX1_commonDivisor_15 0 rfl rfl ?_
      refine z_sipush (v := 128) (pc' := 20) C dX1_commonDivisor_17 rfl rfl ?_
      refine z_icmpN_ge (a := k) (b := 128) (pc' := 23) C 51 (by omega) (by omega) dX1_commonDivisor_20 rfl rfl (fun h_20 => ?_) (fun h_20 => ?_)
      · refine z_lload (pc' := 53) C dX1_commonDivisor_51 2 rfl rfl ?_
        exact z_lret (E := E) rfl dX1_commonDivisor_53 ⟨(congrArg (fun z => some (Value.long z)) (show _ = _ from (by first | rfl | (first | (have e9 : 128 - k = 0 := (by omega); rw [e9] at he; exact he) | (rw [lg_cmp_eq] at h_27; rw [show 128 - k = (128 - (k + 1)) + 1 by omega] at he; simp [s_eu, h_27] at he; exact he))))), rfl, rfl, rfl⟩
      · refine z_lload (pc' := 25) C dX1_commonDivisor_23 1 rfl rfl ?_
        refine z_lconst (v := 0) (pc' := 26) C dX1_commonDivisor_25 rfl rfl ?_
        refine z_lcmp (pc' := 27) C dX1_commonDivisor_26 rfl ?_
        refine z_if_eq (pc' := 30) C 51 dX1_commonDivisor_27 rfl rfl (fun h_27 => ?_) (fun h_27 => ?_)
        · refine z_lload (pc' := 53) C dX1_commonDivisor_51 2 rfl rfl ?_
          exact z_lret (E := E) rfl dX1_commonDivisor_53 ⟨(congrArg (fun z => some (Value.long z)) (show _ = _ from (by first | rfl | (first | (have e9 : 128 - k = 0 := (by omega); rw [e9] at he; exact he) | (rw [lg_cmp_eq] at h_27; rw [show 128 - k = (128 - (k + 1)) + 1 by omega] at he; simp [s_eu, h_27] at he; exact he))))), rfl, rfl, rfl⟩
        · refine z_lload (pc' := 32) C dX1_commonDivisor_30 2 rfl rfl ?_
          refine z_lload (pc' := 34) C dX1_commonDivisor_32 1 rfl rfl ?_
          refine z_lrem (pc' := 35) C dX1_commonDivisor_34 (by rw [lg_cmp_eq] at h_27; exact h_27) rfl ?_
          refine z_lstore (lv' := [(9, .long (a - a / b * b)), (8, .int (nI k)), (6, .long b), (4, .long a)]) (pc' := 37) C dX1_commonDivisor_35 (by decide) rfl rfl ?_
          refine z_lload (pc' := 39) C dX1_commonDivisor_37 2 rfl rfl ?_
          refine z_lstore (lv' := [(4, .long b), (9, .long (a - a / b * b)), (8, .int (nI k)), (6, .long b)]) (pc' := 41) C dX1_commonDivisor_39 (by decide) rfl rfl ?_
          refine z_lload (pc' := 43) C dX1_commonDivisor_41 1 rfl rfl ?_
          refine z_lstore (lv' := [(6, .long (a - a / b * b)), (4, .long b), (9, .long (a - a / b * b)), (8, .int (nI k))]) (pc' := 45) C dX1_commonDivisor_43 (by decide) rfl rfl ?_
          refine z_iinc (v := nI (k + 1)) (k9 := 3) (lv' := [(8, .int (nI (k + 1))), (6, .long (a - a / b * b)), (4, .long b), (9, .long (a - a / b * b))]) (pc' := 48) C dX1_commonDivisor_45 rfl (nI_1 k) (by decide) rfl rfl ?_
          refine z_goto (pc' := 15) C dX1_commonDivisor_48 rfl ?_
          refine z_sub (lv' := [(8, .int (nI (k + 1))), (6, .long (a - a / b * b)), (4, .long b)]) C [0, 1, 2] rfl ?_
          exact z_cast rfl rfl rfl rfl rfl (ih15 (k + 1) _ _ (by omega) (by rw [← he]; rw [lg_cmp_eq] at h_27; rw [show 128 - k = (128 - (k + 1)) + 1 by omega]; simp [s_eu, h_27]) (by omega))
  refine z_sub (lv' := [(8, .int 0), (6, .long (s_absl y)), (4, .long (s_absl x))]) C [0, 1, 2] rfl ?_
  exact z_cast rfl rfl rfl rfl rfl (L15 (_ + 1) 0 _ _ (by omega) (by rfl) (Nat.lt_succ_self _))

set_option maxHeartbeats 4000000 in
set_option maxRecDepth 100000 in
theorem c_X1_above (l : Launch) (G : Gv) (sc : Sc) (ia : Ia) (la : La) (w : Nat) (hw : sc 1 = nI w) (hW : w ≤ 5) (c : Nat) (hc : c < w)  : Ct l yX1_above wsX1_above ({ frames := 2, cells := 0, slots := 0, locals := 45 }) G [.ref (G.2.1 1), .int (nI c)] sc ia la (fL (s_abv la w c) sc ia la) := by
  have hU1 : ∀ w ∈ u_ws RX1 TX1 4, w ∈ wsX1_above := fun w h => List.mem_cons_of_mem _ (List.mem_append_right _ h)
  refine z_of (maxL := 8) (own := RX1) [(0, .ref (G.2.1 1)), (1, .int (nI c))] rfl (by decide +kernel) rfl (Nat.le_of_ble_eq_true rfl) rfl (fun Z C E => ?_)
  refine z_aload_n (pc' := 1) C dX1_above_0 rfl 0 rfl rfl ?_
  refine z_get (pc' := 4) C hU1 1 (by decide) q_o1 rfl 0 (by decide) (by decide +kernel) (v := .ref (G.2.1 49)) rfl dX1_above_1 rfl ?_
  refine z_iload_n (pc' := 5) C dX1_above_4 rfl 1 rfl rfl ?_
  refine z_aald (pc' := 6) C 49 (by decide) (i := c) (a := G.2.1 (53 + c)) (ty := .long) rfl q_v49 (by omega) (by decide) (if_pos (by omega)) dX1_above_5 rfl ?_
  refine z_iload_n (pc' := 7) C dX1_above_6 rfl 1 rfl rfl ?_
  refine z_lald (pc' := 8) C (53 + c) (by omega) (N := 6) (i := c) (f := la (c)) (q_lr c (by omega)) (by omega) (by decide) dX1_above_7 rfl ?_
  refine z_lstore_n (lv' := [(2, .long ((la (c)) c)), (0, .ref (G.2.1 1)), (1, .int (nI c))]) (pc' := 9) C dX1_above_8 rfl (by decide) rfl rfl ?_
  refine z_lload_n (pc' := 10) C dX1_above_9 rfl 0 rfl rfl ?_
  refine z_lconst (v := 0) (pc' := 11) C dX1_above_10 rfl rfl ?_
  refine z_lcmp (pc' := 12) C dX1_above_11 rfl ?_
  have J41 : Z sc ia la [(2, .long ((la (c)) c)), (0, .ref (G.2.1 1)), (1, .int (nI c))] 41 [.long (if 0 ≤ la c c then la c w else -(la c w))] := by
    refine z_lstore (lv' := [(4, .long (if 0 ≤ la c c then la c w else -(la c w))), (2, .long ((la (c)) c)), (0, .ref (G.2.1 1)), (1, .int (nI c))]) (pc' := 43) C dX1_above_41 (by decide) rfl rfl ?_
    refine z_lload (pc' := 45) C dX1_above_43 0 rfl rfl ?_
    refine z_lload_n (pc' := 46) C dX1_above_45 rfl 1 rfl rfl ?_
    refine z_cS (n := 2) (pc' := 49) (As := [.long (if 0 ≤ la c c then la c w else -(la c w)), .long ((la (c)) c)]) (rest := []) C (c_X1_commonDivisor l G sc ia la (if 0 ≤ la c c then la c w else -(la c w)) ((la (c)) c)) gX1_above_X1_commonDivisor rfl rfl rfl (by decide +kernel) (by decide) rfl rfl dX1_above_46 (Nat.le_of_ble_eq_true rfl) rfl (k_L ?_)
    show Z sc ia la [(4, .long (if 0 ≤ la c c then la c w else -(la c w))), (2, .long ((la (c)) c)), (0, .ref (G.2.1 1)), (1, .int (nI c))] 49 [.long (s_cd (if 0 ≤ la c c then la c w else -(la c w)) ((la (c)) c))]
    refine z_lstore (lv' := [(6, .long (s_cd (if 0 ≤ la c c then la c w else -(la c w)) ((la (c)) c))), (4, .long (if 0 ≤ la c c then la c w else -(la c w))), (2, .long ((la (c)) c)), (0, .ref (G.2.1 1)), (1, .int (nI c))]) (pc' := 51) C dX1_above_49 (by decide) rfl rfl ?_
    refine z_lload (pc' := 53) C dX1_above_51 0 rfl rfl ?_
    refine z_lconst (v := 0) (pc' := 54) C dX1_above_53 rfl rfl ?_
    refine z_lcmp (pc' := 55) C dX1_above_54 rfl ?_
    refine z_if_ne (pc' := 58) C 63 dX1_above_55 rfl rfl (fun h_55 => ?_) (fun h_55 => ?_)
    · refine z_lload (pc' := 65) C dX1_above_63 1 rfl rfl ?_
      refine z_lload (pc' := 67) C dX1_above_65 0 rfl rfl ?_
      refine z_ldiv (pc' := 68) C dX1_above_67 (by rw [lg_cmp_eq] at h_55; exact h_55) rfl ?_
      exact z_lret (E := E) rfl dX1_above_68 ⟨(congrArg (fun z => some (Value.long z)) (show _ = _ from (by first | rfl | (rw [lg_cmp_eq] at h_55; simp [s_abv, h_55])))), rfl, rfl, rfl⟩
    · refine z_lload (pc' := 60) C dX1_above_58 1 rfl rfl ?_
      refine z_goto (pc' := 68) C dX1_above_60 rfl ?_
      exact z_lret (E := E) rfl dX1_above_68 ⟨(congrArg (fun z => some (Value.long z)) (show _ = _ from (by first | rfl | (rw [lg_cmp_eq] at h_55; simp [s_abv, h_55])))), rfl, rfl, rfl⟩
  refine z_if_ge (pc' := 15) C 30 dX1_above_12 rfl rfl (fun h_12 => ?_) (fun h_12 => ?_)
  · refine z_aload_n (pc' := 31) C dX1_above_30 rfl 1 rfl rfl ?_
    refine z_get (pc' := 34) C hU1 1 (by decide) q_o1 rfl 0 (by decide) (by decide +kernel) (v := .ref (G.2.1 49)) rfl dX1_above_31 rfl ?_
    refine z_iload_n (pc' := 35) C dX1_above_34 rfl 2 rfl rfl ?_
    refine z_aald (pc' := 36) C 49 (by decide) (i := c) (a := G.2.1 (53 + c)) (ty := .long) rfl q_v49 (by omega) (by decide) (if_pos (by omega)) dX1_above_35 rfl ?_
    refine z_aload_n (pc' := 37) C dX1_above_36 rfl 1 rfl rfl ?_
    refine z_get (pc' := 40) C hU1 1 (by decide) q_o1 rfl 2 (by decide) (by decide +kernel) (v := .int (sc 1)) rfl dX1_above_37 rfl ?_
    refine z_cast (st' := [.int (nI w), .ref (G.2.1 (53 + c))]) rfl rfl rfl rfl (congrArg (fun z => Value.int z :: [.ref (G.2.1 (53 + c))]) hw) ?_
    refine z_lald (pc' := 41) C (53 + c) (by omega) (N := 6) (i := w) (f := la (c)) (q_lr c (by omega)) (by omega) (by decide) dX1_above_40 rfl ?_
    exact z_cast rfl rfl rfl rfl (by first | rfl | (rw [lg_cmp_ge] at h_12; simp [h_12])) J41
  · refine z_aload_n (pc' := 16) C dX1_above_15 rfl 1 rfl rfl ?_
    refine z_get (pc' := 19) C hU1 1 (by decide) q_o1 rfl 0 (by decide) (by decide +kernel) (v := .ref (G.2.1 49)) rfl dX1_above_16 rfl ?_
    refine z_iload_n (pc' := 20) C dX1_above_19 rfl 2 rfl rfl ?_
    refine z_aald (pc' := 21) C 49 (by decide) (i := c) (a := G.2.1 (53 + c)) (ty := .long) rfl q_v49 (by omega) (by decide) (if_pos (by omega)) dX1_above_20 rfl ?_
    refine z_aload_n (pc' := 22) C dX1_above_21 rfl 1 rfl rfl ?_
    refine z_get (pc' := 25) C hU1 1 (by decide) q_o1 rfl 2 (by decide) (by decide +kernel) (v := .int (sc 1)) rfl dX1_above_22 rfl ?_
    refine z_cast (st' := [.int (nI w), .ref (G.2.1 (53 + c))]) rfl rfl rfl rfl (congrArg (fun z => Value.int z :: [.ref (G.2.1 (53 + c))]) hw) ?_
    refine z_lald (pc' := 26) C (53 + c) (by omega) (N := 6) (i := w) (f := la (c)) (q_lr c (by omega)) (by omega) (by decide) dX1_above_25 rfl ?_
    refine z_lneg (pc' := 27) C dX1_above_26 rfl ?_
    refine z_goto (pc' := 41) C dX1_above_27 rfl ?_
    exact z_cast rfl rfl rfl rfl (by first | rfl | (rw [lg_cmp_ge] at h_12; simp [h_12])) J41

set_option maxHeartbeats 4000000 in
set_option maxRecDepth 100000 in
theorem c_X1_below (l : Launch) (G : Gv) (sc : Sc) (ia : Ia) (la : La) (w : Nat) (hw : sc 1 = nI w) (hW : w ≤ 5) (c : Nat) (hc : c < w)  : Ct l yX1_below wsX1_below ({ frames := 2, cells := 0, slots := 0, locals := 45 }) G [.ref (G.2.1 1), .int (nI c)] sc ia la (fL (s_bel la w c) sc ia la) := by
  have hU1 : ∀ w ∈ u_ws RX1 TX1 4, w ∈ wsX1_below := fun w h => List.mem_cons_of_mem _ (List.mem_append_right _ h)
  refine z_of (maxL := 6) (own := RX1) [(0, .ref (G.2.1 1)), (1, .int (nI c))] rfl (by decide +kernel) rfl (Nat.le_of_ble_eq_true rfl) rfl (fun Z C E => ?_)
  refine z_aload_n (pc' := 1) C dX1_below_0 rfl 0 rfl rfl ?_
  refine z_get (pc' := 4) C hU1 1 (by decide) q_o1 rfl 0 (by decide) (by decide +kernel) (v := .ref (G.2.1 49)) rfl dX1_below_1 rfl ?_
  refine z_iload_n (pc' := 5) C dX1_below_4 rfl 1 rfl rfl ?_
  refine z_aald (pc' := 6) C 49 (by decide) (i := c) (a := G.2.1 (53 + c)) (ty := .long) rfl q_v49 (by omega) (by decide) (if_pos (by omega)) dX1_below_5 rfl ?_
  refine z_iload_n (pc' := 7) C dX1_below_6 rfl 1 rfl rfl ?_
  refine z_lald (pc' := 8) C (53 + c) (by omega) (N := 6) (i := c) (f := la (c)) (q_lr c (by omega)) (by omega) (by decide) dX1_below_7 rfl ?_
  refine z_lstore_n (lv' := [(2, .long ((la (c)) c)), (0, .ref (G.2.1 1)), (1, .int (nI c))]) (pc' := 9) C dX1_below_8 rfl (by decide) rfl rfl ?_
  refine z_aload_n (pc' := 10) C dX1_below_9 rfl 1 rfl rfl ?_
  refine z_get (pc' := 13) C hU1 1 (by decide) q_o1 rfl 0 (by decide) (by decide +kernel) (v := .ref (G.2.1 49)) rfl dX1_below_10 rfl ?_
  refine z_iload_n (pc' := 14) C dX1_below_13 rfl 2 rfl rfl ?_
  refine z_aald (pc' := 15) C 49 (by decide) (i := c) (a := G.2.1 (53 + c)) (ty := .long) rfl q_v49 (by omega) (by decide) (if_pos (by omega)) dX1_below_14 rfl ?_
  refine z_aload_n (pc' := 16) C dX1_below_15 rfl 1 rfl rfl ?_
  refine z_get (pc' := 19) C hU1 1 (by decide) q_o1 rfl 2 (by decide) (by decide +kernel) (v := .int (sc 1)) rfl dX1_below_16 rfl ?_
  refine z_cast (st' := [.int (nI w), .ref (G.2.1 (53 + c))]) rfl rfl rfl rfl (congrArg (fun z => Value.int z :: [.ref (G.2.1 (53 + c))]) hw) ?_
  refine z_lald (pc' := 20) C (53 + c) (by omega) (N := 6) (i := w) (f := la (c)) (q_lr c (by omega)) (by omega) (by decide) dX1_below_19 rfl ?_
  refine z_lload_n (pc' := 21) C dX1_below_20 rfl 0 rfl rfl ?_
  refine z_cS (n := 2) (pc' := 24) (As := [.long ((la (c)) w), .long ((la (c)) c)]) (rest := []) C (c_X1_commonDivisor l G sc ia la ((la (c)) w) ((la (c)) c)) gX1_below_X1_commonDivisor rfl rfl rfl (by decide +kernel) (by decide) rfl rfl dX1_below_21 (Nat.le_of_ble_eq_true rfl) rfl (k_L ?_)
  show Z sc ia la [(2, .long ((la (c)) c)), (0, .ref (G.2.1 1)), (1, .int (nI c))] 24 [.long (s_cd ((la (c)) w) ((la (c)) c))]
  refine z_lstore (lv' := [(4, .long (s_cd ((la (c)) w) ((la (c)) c))), (2, .long ((la (c)) c)), (0, .ref (G.2.1 1)), (1, .int (nI c))]) (pc' := 26) C dX1_below_24 (by decide) rfl rfl ?_
  refine z_lload (pc' := 28) C dX1_below_26 0 rfl rfl ?_
  refine z_lconst (v := 0) (pc' := 29) C dX1_below_28 rfl rfl ?_
  refine z_lcmp (pc' := 30) C dX1_below_29 rfl ?_
  refine z_if_ne (pc' := 33) C 37 dX1_below_30 rfl rfl (fun h_30 => ?_) (fun h_30 => ?_)
  · refine z_lload_n (pc' := 38) C dX1_below_37 rfl 1 rfl rfl ?_
    refine z_mabsL (pc' := 41) C (by decide +kernel) (by decide +kernel) (by decide +kernel) (by decide +kernel) (by decide) (Nat.le_of_ble_eq_true rfl) dX1_below_38 rfl ?_
    show Z sc ia la [(4, .long (s_cd ((la (c)) w) ((la (c)) c))), (2, .long ((la (c)) c)), (0, .ref (G.2.1 1)), (1, .int (nI c))] 41 [.long (s_absl ((la (c)) c))]
    refine z_lload (pc' := 43) C dX1_below_41 0 rfl rfl ?_
    refine z_ldiv (pc' := 44) C dX1_below_43 (by rw [lg_cmp_eq] at h_30; exact h_30) rfl ?_
    exact z_lret (E := E) rfl dX1_below_44 ⟨(congrArg (fun z => some (Value.long z)) (show _ = _ from (by first | rfl | (rw [lg_cmp_eq] at h_30; simp [s_bel, h_30])))), rfl, rfl, rfl⟩
  · refine z_lconst (v := 1) (pc' := 34) C dX1_below_33 rfl rfl ?_
    refine z_goto (pc' := 44) C dX1_below_34 rfl ?_
    exact z_lret (E := E) rfl dX1_below_44 ⟨(congrArg (fun z => some (Value.long z)) (show _ = _ from (by first | rfl | (rw [lg_cmp_eq] at h_30; simp [s_bel, h_30])))), rfl, rfl, rfl⟩

set_option maxHeartbeats 4000000 in
set_option maxRecDepth 100000 in
theorem c_X1_partOf (l : Launch) (G : Gv) (sc : Sc) (ia : Ia) (la : La) (w : Nat) (hw : sc 1 = nI w) (hW : w ≤ 5) (pl part : Int32)  : Ct l yX1_partOf wsX1_partOf ({ frames := 3, cells := 0, slots := 0, locals := 72 }) G [.ref (G.2.1 1), .int pl, .int part] sc ia la (fL (s_pt la ia w pl part) sc ia la) := by
  have hU1 : ∀ w ∈ u_ws RX1 TX1 4, w ∈ wsX1_partOf := fun w h => List.mem_cons_of_mem _ (List.mem_append_right _ h)
  refine z_of (maxL := 4) (own := RX1) [(0, .ref (G.2.1 1)), (1, .int pl), (2, .int part)] rfl (by decide +kernel) rfl (Nat.le_of_ble_eq_true rfl) rfl (fun Z C E => ?_)
  refine z_iconst (v := 0) (pc' := 1) C dX1_partOf_0 rfl rfl ?_
  refine z_istore_n (lv' := [(3, .int 0), (0, .ref (G.2.1 1)), (1, .int pl), (2, .int part)]) (pc' := 2) C dX1_partOf_1 rfl (by decide) rfl rfl ?_
  have L2 : ∀ (fuel : Nat) (c : Nat) (hc : c ≤ w) (hcn : ∀ j, j < c → (fun c => decide (ia 8 c = pl)) j = false), w - c < fuel → Z sc ia la [(3, .int (nI c)), (0, .ref (G.2.1 1)), (1, .int pl), (2, .int part)] 2 [] := by
    intro fuel
    induction fuel with
    | zero => intro c hc hcn hm2; exact absurd hm2 (Nat.not_lt_zero _)
    | succ fuel ih2 =>
      intro c hc hcn hm2
      refine z_iload_n (pc' := 3) C dX1_partOf_2 rfl 0 rfl rfl ?_
      refine z_aload_n (pc' := 4) C dX1_partOf_3 rfl 1 rfl rfl ?_
      refine z_get (pc' := 7) C hU1 1 (by decide) q_o1 rfl 2 (by decide) (by decide +kernel) (v := .int (sc 1)) rfl dX1_partOf_4 rfl ?_
      refine z_cast (st' := [.int (nI w), .int (nI c)]) rfl rfl rfl rfl (congrArg (fun z => Value.int z :: [.int (nI c)]) hw) ?_
      refine z_icmpN_ge (a := c) (b := w) (pc' := 10) C 44 (by omega) (by omega) dX1_partOf_7 rfl rfl (fun h_7 => ?_) (fun h_7 => ?_)
      · refine z_ldc2 (v := -9000000000000000001) (pc' := 47) C (by decide +kernel) dX1_partOf_44 rfl ?_
        exact z_lret (E := E) rfl dX1_partOf_47 ⟨(congrArg (fun z => some (Value.long z)) (show _ = _ from (by first | rfl | (have e9 : c = w := (by omega); subst e9; simp [s_pt, s_fi_n hcn])))), rfl, rfl, rfl⟩
      · refine z_aload_n (pc' := 11) C dX1_partOf_10 rfl 1 rfl rfl ?_
        refine z_get (pc' := 14) C hU1 1 (by decide) q_o1 rfl 1 (by decide) (by decide +kernel) (v := .ref (G.2.1 15)) rfl dX1_partOf_11 rfl ?_
        refine z_iload_n (pc' := 15) C dX1_partOf_14 rfl 0 rfl rfl ?_
        refine z_iald (pc' := 16) C 15 (by decide) (N := 5) (i := c) (f := ia 8) q_i8 (by omega) (by decide) dX1_partOf_15 rfl ?_
        refine z_iload_n (pc' := 17) C dX1_partOf_16 rfl 2 rfl rfl ?_
        refine z_icmp_ne (pc' := 20) C 38 dX1_partOf_17 rfl rfl (fun h_17 => ?_) (fun h_17 => ?_)
        · refine z_iinc (v := nI (c + 1)) (k9 := 0) (lv' := [(3, .int (nI (c + 1))), (0, .ref (G.2.1 1)), (1, .int pl), (2, .int part)]) (pc' := 41) C dX1_partOf_38 rfl (nI_1 c) (by decide) rfl rfl ?_
          refine z_goto (pc' := 2) C dX1_partOf_41 rfl ?_
          exact z_cast rfl rfl rfl rfl rfl (ih2 (c + 1) (by omega) (by exact s_lt_s hcn (by simp [h_17])) (by omega))
        · refine z_iload_n (pc' := 21) C dX1_partOf_20 rfl 3 rfl rfl ?_
          refine z_if_ne (pc' := 24) C 32 dX1_partOf_21 rfl rfl (fun h_21 => ?_) (fun h_21 => ?_)
          · refine z_aload_n (pc' := 33) C dX1_partOf_32 rfl 1 rfl rfl ?_
            refine z_iload_n (pc' := 34) C dX1_partOf_33 rfl 0 rfl rfl ?_
            refine z_cV (n := 1) (pc' := 37) (As := [.int (nI c)]) (rest := []) C 1 (c_X1_below l G sc ia la w hw hW c (by omega)) gX1_partOf_X1_below rfl rfl rfl rfl (by decide +kernel) (by decide) rfl (by decide) q_o1 rfl rfl dX1_partOf_34 (Nat.le_of_ble_eq_true rfl) rfl (k_L ?_)
            show Z sc ia la [(3, .int (nI c)), (0, .ref (G.2.1 1)), (1, .int pl), (2, .int part)] 37 [.long (s_bel la w c)]
            exact z_lret (E := E) rfl dX1_partOf_37 ⟨(congrArg (fun z => some (Value.long z)) (show _ = _ from (by first | rfl | (have q9 : s_fi (fun c => decide (ia 8 c = pl)) w = some c := s_fi_s hcn (by omega) (by simp [h_17]); simp [s_pt, q9, h_21])))), rfl, rfl, rfl⟩
          · refine z_aload_n (pc' := 25) C dX1_partOf_24 rfl 1 rfl rfl ?_
            refine z_iload_n (pc' := 26) C dX1_partOf_25 rfl 0 rfl rfl ?_
            refine z_cV (n := 1) (pc' := 29) (As := [.int (nI c)]) (rest := []) C 1 (c_X1_above l G sc ia la w hw hW c (by omega)) gX1_partOf_X1_above rfl rfl rfl rfl (by decide +kernel) (by decide) rfl (by decide) q_o1 rfl rfl dX1_partOf_26 (Nat.le_of_ble_eq_true rfl) rfl (k_L ?_)
            show Z sc ia la [(3, .int (nI c)), (0, .ref (G.2.1 1)), (1, .int pl), (2, .int part)] 29 [.long (s_abv la w c)]
            refine z_goto (pc' := 37) C dX1_partOf_29 rfl ?_
            exact z_lret (E := E) rfl dX1_partOf_37 ⟨(congrArg (fun z => some (Value.long z)) (show _ = _ from (by first | rfl | (have q9 : s_fi (fun c => decide (ia 8 c = pl)) w = some c := s_fi_s hcn (by omega) (by simp [h_17]); simp [s_pt, q9, h_21])))), rfl, rfl, rfl⟩
  exact z_cast rfl rfl rfl rfl rfl (L2 (_ + 1) 0 (by omega) (fun j h => absurd h (Nat.not_lt_zero j)) (Nat.lt_succ_self _))

