
def r_ab (a : Int64) : Int64 := if 0 ≤ a then a else -a
theorem r_pos {x : Nat} (h : ¬ lg_cmp (lN x) 0 ≤ 0) : 0 < x := by
  rcases Nat.eq_zero_or_pos x with q | q
  · subst q; exact absurd (by decide) h
  · exact q
theorem r_ne0 {x : Nat} (h : ¬ lg_cmp (lN x) 0 ≤ 0) : ¬ lN x = 0 := fun q => h (by rw [q]; decide)
theorem r_zero {x : Nat} (hx : x < 2 ^ 63) (h : lg_cmp (lN x) 0 ≤ 0) : x = 0 := by
  rw [lg_cmp_le] at h
  have h2 : lN x ≤ lN 0 := h
  rw [pk_lLE hx (by decide)] at h2
  omega
theorem r_abN {g : Nat} (h : g < 2 ^ 63) : r_ab (lN g) = lN g := by
  unfold r_ab
  rw [if_pos]
  show lN 0 ≤ lN g
  rw [pk_lLE (by decide) h]
  omega
def r_tn (f : Nat → Int64) (a b : Nat) : Nat → (Nat → Int64)
  | 0 => f
  | c + 1 => vp_updL (vp_updL (r_tn f a b c) (6 * a + c) (r_tn f a b c (6 * b + c))) (6 * b + c) (r_tn f a b c (6 * a + c))
def r_inc (L c : Nat) : Bool := decide (c < L) || decide (c = 5)
def r_nw (F : Nat → Int64) (r t : Nat) (a b : Int64) (c : Nat) : Int64 := F (6 * r + c) * b - F (6 * t + c) * a
def r_c1 (f : Nat → Int64) (r t : Nat) (a b : Int64) (L : Nat) : Nat → (Nat → Int64)
  | 0 => f
  | c + 1 => if r_inc L c = true then vp_updL (r_c1 f r t a b L c) (6 * r + c) (r_nw (r_c1 f r t a b L c) r t a b c) else r_c1 f r t a b L c
def r_g (PV : Nat → Nat) (L : Nat) : Nat → Nat
  | 0 => 0
  | c + 1 => if r_inc L c = true then Nat.gcd (PV c) (r_g PV L c) else r_g PV L c
theorem r_g_lt (PV : Nat → Nat) (L : Nat) (h : ∀ c, c < 6 → r_inc L c = true → PV c < 2 ^ 62) : ∀ c, c ≤ 6 → r_g PV L c < 2 ^ 62
  | 0, _ => by show 0 < 2 ^ 62; decide
  | c + 1, hc => by
    have ih := r_g_lt PV L h c (by omega)
    unfold r_g
    by_cases q : r_inc L c = true
    · rw [if_pos q]
      have hp := h c (by omega) q
      rcases Nat.eq_zero_or_pos (r_g PV L c) with z | z
      · rw [z, Nat.gcd_zero_right]; exact hp
      · exact Nat.lt_of_le_of_lt (Nat.gcd_le_right _ z) ih
    · rw [if_neg q]; exact ih
def r_c2 (f : Nat → Int64) (r g L : Nat) : Nat → (Nat → Int64)
  | 0 => f
  | c + 1 => if r_inc L c = true then vp_updL (r_c2 f r g L c) (6 * r + c) (r_c2 f r g L c (6 * r + c) / lN g) else r_c2 f r g L c
def r_pv (f : Nat → Int64) (r t : Nat) (a b : Int64) (L c : Nat) : Nat := (r_nw (r_c1 f r t a b L c) r t a b c).toInt.natAbs
def r_good (f : Nat → Int64) (r t q L : Nat) : Prop := ∀ c, c < 6 → r_inc L c = true → r_ab (r_nw (r_c1 f r t (f (6 * r + q)) (f (6 * t + q)) L c) r t (f (6 * r + q)) (f (6 * t + q)) c) = lN (r_pv f r t (f (6 * r + q)) (f (6 * t + q)) L c) ∧ r_pv f r t (f (6 * r + q)) (f (6 * t + q)) L c < 2 ^ 62
def r_gg (f : Nat → Int64) (r t q L : Nat) : Nat := r_g (r_pv f r t (f (6 * r + q)) (f (6 * t + q)) L) L 6
def r_clr (f : Nat → Int64) (r t q L : Nat) : Nat → Int64 := if f (6 * r + q) = 0 then f else if 1 < r_gg f r t q L then r_c2 (r_c1 f r t (f (6 * r + q)) (f (6 * t + q)) L 6) r (r_gg f r t q L) L 6 else r_c1 f r t (f (6 * r + q)) (f (6 * t + q)) L 6

set_option maxHeartbeats 4000000 in
set_option maxRecDepth 100000 in
theorem c_X6_common (l : Launch) (G : Gv) (sc : Sc) (ia : Ia) (la : La) (a b : Int64) (p q : Nat) (hp : r_ab a = lN p) (hq : r_ab b = lN q) (hp6 : p < 2 ^ 63) (hq6 : q < 2 ^ 63)  : Ct l yX6_common wsX6_common ({ frames := 0, cells := 0, slots := 0, locals := 0 }) G [.long a, .long b] sc ia la (fL (lN (Nat.gcd p q)) sc ia la) := by
  refine z_of (maxL := 10) (own := RX6) [(0, .long a), (2, .long b)] rfl (by decide +kernel) rfl (Nat.le_of_ble_eq_true rfl) rfl (fun Z C E => ?_)
  refine z_lload_n (pc' := 1) C dX6_common_0 rfl 0 rfl rfl ?_
  refine z_lconst (v := 0) (pc' := 2) C dX6_common_1 rfl rfl ?_
  refine z_lcmp (pc' := 3) C dX6_common_2 rfl ?_
  have J12 : Z sc ia la [(0, .long a), (2, .long b)] 12 [.long (lN p)] := by
    refine z_lstore (lv' := [(4, .long (lN p)), (0, .long a), (2, .long b)]) (pc' := 14) C dX6_common_12 (by decide) rfl rfl ?_
    refine z_lload_n (pc' := 15) C dX6_common_14 rfl 2 rfl rfl ?_
    refine z_lconst (v := 0) (pc' := 16) C dX6_common_15 rfl rfl ?_
    refine z_lcmp (pc' := 17) C dX6_common_16 rfl ?_
    have J26 : Z sc ia la [(4, .long (lN p)), (0, .long a), (2, .long b)] 26 [.long (lN q)] := by
      refine z_lstore (lv' := [(6, .long (lN q)), (4, .long (lN p)), (0, .long a), (2, .long b)]) (pc' := 28) C dX6_common_26 (by decide) rfl rfl ?_
      have L28 : ∀ (fuel : Nat) (x : Nat) (y : Nat) (hx : x < 2 ^ 63) (hy : y < 2 ^ 63) (hg : Nat.gcd x y = Nat.gcd p q), x < fuel → Z sc ia la [(6, .long (lN y)), (4, .long (lN x))] 28 [] := by
        intro fuel
        induction fuel with
        | zero => intro x y hx hy hg hm28; exact absurd hm28 (Nat.not_lt_zero _)
        | succ fuel ih28 =>
          intro x y hx hy hg hm28
          refine z_lload (pc' := 30) C dX6_common_28 1 rfl rfl ?_
          refine z_lconst (v := 0) (pc' := 31) C dX6_common_30 rfl rfl ?_
          refine z_lcmp (pc' := 32) C dX6_common_31 rfl ?_
          refine z_if_le (pc' := 35) C 53 dX6_common_32 rfl rfl (fun h_32 => ?_) (fun h_32 => ?_)
          · refine z_lload (pc' := 55) C dX6_common_53 0 rfl rfl ?_
            exact z_lret (E := E) rfl dX6_common_55 ⟨(congrArg (fun z => some (Value.long z)) (show _ = _ from (by first | rfl | (have e9 := r_zero hx h_32; subst e9; rw [← hg, Nat.gcd_zero_left])))), rfl, rfl, rfl⟩
          · refine z_lload (pc' := 37) C dX6_common_35 0 rfl rfl ?_
            refine z_lload (pc' := 39) C dX6_common_37 1 rfl rfl ?_
            refine z_lrem (pc' := 40) C dX6_common_39 (r_ne0 h_32) rfl ?_
            refine z_cast (st' := [.long (lN (y % x))]) rfl rfl rfl rfl (congrArg (fun z => Value.long z :: []) (pk_lRem (a := y) (b := x) hy (r_pos h_32) hx)) ?_
            refine z_lstore (lv' := [(8, .long (lN (y % x))), (6, .long (lN y)), (4, .long (lN x))]) (pc' := 42) C dX6_common_40 (by decide) rfl rfl ?_
            refine z_lload (pc' := 44) C dX6_common_42 2 rfl rfl ?_
            refine z_lstore (lv' := [(6, .long (lN x)), (8, .long (lN (y % x))), (4, .long (lN x))]) (pc' := 46) C dX6_common_44 (by decide) rfl rfl ?_
            refine z_lload (pc' := 48) C dX6_common_46 1 rfl rfl ?_
            refine z_lstore (lv' := [(4, .long (lN (y % x))), (6, .long (lN x)), (8, .long (lN (y % x)))]) (pc' := 50) C dX6_common_48 (by decide) rfl rfl ?_
            refine z_goto (pc' := 28) C dX6_common_50 rfl ?_
            refine z_sub (lv' := [(6, .long (lN x)), (4, .long (lN (y % x)))]) C [1, 0] rfl ?_
            exact z_cast rfl rfl rfl rfl rfl (ih28 (y % x) x (by exact Nat.lt_trans (Nat.mod_lt _ (r_pos h_32)) hx) (by exact hx) (by rw [← hg]; exact (Nat.gcd_rec x y).symm) (by have := Nat.mod_lt y (r_pos h_32); omega))
      refine z_sub (lv' := [(6, .long (lN q)), (4, .long (lN p))]) C [0, 1] rfl ?_
      exact z_cast rfl rfl rfl rfl rfl (L28 (_ + 1) p q (by exact hp6) (by exact hq6) (by rfl) (Nat.lt_succ_self _))
    refine z_if_ge (pc' := 20) C 25 dX6_common_17 rfl rfl (fun h_17 => ?_) (fun h_17 => ?_)
    · refine z_lload_n (pc' := 26) C dX6_common_25 rfl 2 rfl rfl ?_
      exact z_cast rfl rfl rfl rfl (by first | rfl | (rw [← hq]; unfold r_ab; rw [lg_cmp_ge] at h_17; simp [h_17])) J26
    · refine z_lload_n (pc' := 21) C dX6_common_20 rfl 2 rfl rfl ?_
      refine z_lneg (pc' := 22) C dX6_common_21 rfl ?_
      refine z_goto (pc' := 26) C dX6_common_22 rfl ?_
      exact z_cast rfl rfl rfl rfl (by first | rfl | (rw [← hq]; unfold r_ab; rw [lg_cmp_ge] at h_17; simp [h_17])) J26
  refine z_if_ge (pc' := 6) C 11 dX6_common_3 rfl rfl (fun h_3 => ?_) (fun h_3 => ?_)
  · refine z_lload_n (pc' := 12) C dX6_common_11 rfl 0 rfl rfl ?_
    exact z_cast rfl rfl rfl rfl (by first | rfl | (rw [← hp]; unfold r_ab; rw [lg_cmp_ge] at h_3; simp [h_3])) J12
  · refine z_lload_n (pc' := 7) C dX6_common_6 rfl 0 rfl rfl ?_
    refine z_lneg (pc' := 8) C dX6_common_7 rfl ?_
    refine z_goto (pc' := 12) C dX6_common_8 rfl ?_
    exact z_cast rfl rfl rfl rfl (by first | rfl | (rw [← hp]; unfold r_ab; rw [lg_cmp_ge] at h_3; simp [h_3])) J12

set_option maxHeartbeats 4000000 in
set_option maxRecDepth 100000 in
theorem c_X6_turn (l : Launch) (G : Gv) (sc : Sc) (ia : Ia) (la : La) (a b : Nat) (ha : a < 32) (hb : b < 32)  : Ct l yX6_turn wsX6_turn ({ frames := 0, cells := 0, slots := 0, locals := 0 }) G [.ref (G.2.1 6), .int (nI a), .int (nI b)] sc ia la (fV sc ia (va_up la 32 (r_tn (la 32) a b 6))) := by
  have hU6 : ∀ w ∈ u_ws RX6 TX6 25, w ∈ wsX6_turn := fun w h => List.mem_cons_of_mem _ (List.mem_append_right _ h)
  refine z_of (maxL := 6) (own := RX6) [(0, .ref (G.2.1 6)), (1, .int (nI a)), (2, .int (nI b))] rfl (by decide +kernel) rfl (Nat.le_of_ble_eq_true rfl) rfl (fun Z C E => ?_)
  refine z_iconst (v := 0) (pc' := 1) C dX6_turn_0 rfl rfl ?_
  refine z_istore_n (lv' := [(3, .int 0), (0, .ref (G.2.1 6)), (1, .int (nI a)), (2, .int (nI b))]) (pc' := 2) C dX6_turn_1 rfl (by decide) rfl rfl ?_
  have L2 : ∀ (fuel : Nat) (c : Nat) (hc : c ≤ 6), 6 - c < fuel → Z sc ia (va_up la 32 (r_tn (la 32) a b c)) [(3, .int (nI c)), (0, .ref (G.2.1 6)), (1, .int (nI a)), (2, .int (nI b))] 2 [] := by
    intro fuel
    induction fuel with
    | zero => intro c hc hm2; exact absurd hm2 (Nat.not_lt_zero _)
    | succ fuel ih2 =>
      intro c hc hm2
      refine z_iload_n (pc' := 3) C dX6_turn_2 rfl 0 rfl rfl ?_
      refine z_bipush (v := 6) (pc' := 5) C dX6_turn_3 rfl rfl ?_
      refine z_icmpN_ge (a := c) (b := 6) (pc' := 8) C 62 (by omega) (by omega) dX6_turn_5 rfl rfl (fun h_5 => ?_) (fun h_5 => ?_)
      · exact z_vret (E := E) rfl dX6_turn_62 ⟨rfl, rfl, rfl, (by first | rfl | (have e9 : c = 6 := (by omega); subst e9; rfl))⟩
      · refine z_aload_n (pc' := 9) C dX6_turn_8 rfl 1 rfl rfl ?_
        refine z_get (pc' := 12) C hU6 6 (by decide) q_o6 rfl 8 (by decide) (by decide +kernel) (v := .ref (G.2.1 85)) rfl dX6_turn_9 rfl ?_
        refine z_bipush (v := 6) (pc' := 14) C dX6_turn_12 rfl rfl ?_
        refine z_iload_n (pc' := 15) C dX6_turn_14 rfl 2 rfl rfl ?_
        refine z_imul (pc' := 16) C dX6_turn_15 rfl ?_
        refine z_cast (st' := [.int (nI (6 * a)), .ref (G.2.1 85)]) rfl rfl rfl rfl (congrArg (fun z => Value.int z :: [.ref (G.2.1 85)]) (pk_mul _ _)) ?_
        refine z_iload_n (pc' := 17) C dX6_turn_16 rfl 0 rfl rfl ?_
        refine z_iadd (pc' := 18) C dX6_turn_17 rfl ?_
        refine z_cast (st' := [.int (nI (6 * a + c)), .ref (G.2.1 85)]) rfl rfl rfl rfl (congrArg (fun z => Value.int z :: [.ref (G.2.1 85)]) (nI_add _ _)) ?_
        refine z_lald (pc' := 19) C 85 (by decide) (N := 192) (i := 6 * a + c) (f := r_tn (la 32) a b c) q_l32 (by omega) (by decide) dX6_turn_18 rfl ?_
        refine z_lstore (lv' := [(4, .long ((r_tn (la 32) a b c) (6 * a + c))), (3, .int (nI c)), (0, .ref (G.2.1 6)), (1, .int (nI a)), (2, .int (nI b))]) (pc' := 21) C dX6_turn_19 (by decide) rfl rfl ?_
        refine z_aload_n (pc' := 22) C dX6_turn_21 rfl 2 rfl rfl ?_
        refine z_get (pc' := 25) C hU6 6 (by decide) q_o6 rfl 8 (by decide) (by decide +kernel) (v := .ref (G.2.1 85)) rfl dX6_turn_22 rfl ?_
        refine z_bipush (v := 6) (pc' := 27) C dX6_turn_25 rfl rfl ?_
        refine z_iload_n (pc' := 28) C dX6_turn_27 rfl 3 rfl rfl ?_
        refine z_imul (pc' := 29) C dX6_turn_28 rfl ?_
        refine z_cast (st' := [.int (nI (6 * a)), .ref (G.2.1 85)]) rfl rfl rfl rfl (congrArg (fun z => Value.int z :: [.ref (G.2.1 85)]) (pk_mul _ _)) ?_
        refine z_iload_n (pc' := 30) C dX6_turn_29 rfl 1 rfl rfl ?_
        refine z_iadd (pc' := 31) C dX6_turn_30 rfl ?_
        refine z_cast (st' := [.int (nI (6 * a + c)), .ref (G.2.1 85)]) rfl rfl rfl rfl (congrArg (fun z => Value.int z :: [.ref (G.2.1 85)]) (nI_add _ _)) ?_
        refine z_aload_n (pc' := 32) C dX6_turn_31 rfl 2 rfl rfl ?_
        refine z_get (pc' := 35) C hU6 6 (by decide) q_o6 rfl 8 (by decide) (by decide +kernel) (v := .ref (G.2.1 85)) rfl dX6_turn_32 rfl ?_
        refine z_bipush (v := 6) (pc' := 37) C dX6_turn_35 rfl rfl ?_
        refine z_iload_n (pc' := 38) C dX6_turn_37 rfl 4 rfl rfl ?_
        refine z_imul (pc' := 39) C dX6_turn_38 rfl ?_
        refine z_cast (st' := [.int (nI (6 * b)), .ref (G.2.1 85), .int (nI (6 * a + c)), .ref (G.2.1 85)]) rfl rfl rfl rfl (congrArg (fun z => Value.int z :: [.ref (G.2.1 85), .int (nI (6 * a + c)), .ref (G.2.1 85)]) (pk_mul _ _)) ?_
        refine z_iload_n (pc' := 40) C dX6_turn_39 rfl 1 rfl rfl ?_
        refine z_iadd (pc' := 41) C dX6_turn_40 rfl ?_
        refine z_cast (st' := [.int (nI (6 * b + c)), .ref (G.2.1 85), .int (nI (6 * a + c)), .ref (G.2.1 85)]) rfl rfl rfl rfl (congrArg (fun z => Value.int z :: [.ref (G.2.1 85), .int (nI (6 * a + c)), .ref (G.2.1 85)]) (nI_add _ _)) ?_
        refine z_lald (pc' := 42) C 85 (by decide) (N := 192) (i := 6 * b + c) (f := r_tn (la 32) a b c) q_l32 (by omega) (by decide) dX6_turn_41 rfl ?_
        refine z_last (pc' := 43) C 85 (by decide) (N := 192) (i := 6 * a + c) (f := r_tn (la 32) a b c) q_l32 (by omega) (by decide) (q_ulu32 _ _) dX6_turn_42 rfl ?_
        refine z_aload_n (pc' := 44) C dX6_turn_43 rfl 2 rfl rfl ?_
        refine z_get (pc' := 47) C hU6 6 (by decide) q_o6 rfl 8 (by decide) (by decide +kernel) (v := .ref (G.2.1 85)) rfl dX6_turn_44 rfl ?_
        refine z_bipush (v := 6) (pc' := 49) C dX6_turn_47 rfl rfl ?_
        refine z_iload_n (pc' := 50) C dX6_turn_49 rfl 4 rfl rfl ?_
        refine z_imul (pc' := 51) C dX6_turn_50 rfl ?_
        refine z_cast (st' := [.int (nI (6 * b)), .ref (G.2.1 85)]) rfl rfl rfl rfl (congrArg (fun z => Value.int z :: [.ref (G.2.1 85)]) (pk_mul _ _)) ?_
        refine z_iload_n (pc' := 52) C dX6_turn_51 rfl 1 rfl rfl ?_
        refine z_iadd (pc' := 53) C dX6_turn_52 rfl ?_
        refine z_cast (st' := [.int (nI (6 * b + c)), .ref (G.2.1 85)]) rfl rfl rfl rfl (congrArg (fun z => Value.int z :: [.ref (G.2.1 85)]) (nI_add _ _)) ?_
        refine z_lload (pc' := 55) C dX6_turn_53 0 rfl rfl ?_
        refine z_last (pc' := 56) C 85 (by decide) (N := 192) (i := 6 * b + c) (f := vp_updL (r_tn (la 32) a b c) (6 * a + c) ((r_tn (la 32) a b c) (6 * b + c))) q_l32 (by omega) (by decide) (q_ulu32 _ _) dX6_turn_55 rfl ?_
        refine z_iinc (v := nI (c + 1)) (k9 := 1) (lv' := [(3, .int (nI (c + 1))), (4, .long ((r_tn (la 32) a b c) (6 * a + c))), (0, .ref (G.2.1 6)), (1, .int (nI a)), (2, .int (nI b))]) (pc' := 59) C dX6_turn_56 rfl (nI_1 c) (by decide) rfl rfl ?_
        refine z_goto (pc' := 2) C dX6_turn_59 rfl ?_
        refine z_sub (lv' := [(3, .int (nI (c + 1))), (0, .ref (G.2.1 6)), (1, .int (nI a)), (2, .int (nI b))]) C [0, 2, 3, 4] rfl ?_
        exact z_cast rfl rfl rfl rfl rfl (ih2 (c + 1) (by omega) (by omega))
  exact z_cast rfl rfl (by first | rfl | (exact va_same _ 32)) rfl rfl (L2 (_ + 1) 0 (by omega) (Nat.lt_succ_self _))

set_option maxHeartbeats 4000000 in
set_option maxRecDepth 100000 in
theorem c_X6_clearN (l : Launch) (G : Gv) (sc : Sc) (ia : Ia) (la : La) (L : Nat) (hL : sc 9 = nI L) (hL5 : L ≤ 5) (r t q : Nat) (hr : r < 32) (ht : t < 32) (hq : q < 5) (h0 : ¬ la 32 (6 * r + q) = 0) (hg : r_good (la 32) r t q L)  : Ct l yX6_clear wsX6_clear ({ frames := 1, cells := 0, slots := 0, locals := 29 }) G [.ref (G.2.1 6), .int (nI r), .int (nI t), .int (nI q)] sc ia la (fV sc ia (va_up la 32 (r_clr (la 32) r t q L))) := by
  have hU6 : ∀ w ∈ u_ws RX6 TX6 25, w ∈ wsX6_clear := fun w h => List.mem_cons_of_mem _ (List.mem_append_right _ h)
  have hlt := r_g_lt (r_pv (la 32) r t (la 32 (6 * r + q)) (la 32 (6 * t + q)) L) L (fun c h1 h2 => (hg c h1 h2).2)
  refine z_of (maxL := 11) (own := RX6) [(0, .ref (G.2.1 6)), (1, .int (nI r)), (2, .int (nI t)), (3, .int (nI q))] rfl (by decide +kernel) rfl (Nat.le_of_ble_eq_true rfl) rfl (fun Z C E => ?_)
  refine z_aload_n (pc' := 1) C dX6_clear_0 rfl 0 rfl rfl ?_
  refine z_get (pc' := 4) C hU6 6 (by decide) q_o6 rfl 8 (by decide) (by decide +kernel) (v := .ref (G.2.1 85)) rfl dX6_clear_1 rfl ?_
  refine z_bipush (v := 6) (pc' := 6) C dX6_clear_4 rfl rfl ?_
  refine z_iload_n (pc' := 7) C dX6_clear_6 rfl 1 rfl rfl ?_
  refine z_imul (pc' := 8) C dX6_clear_7 rfl ?_
  refine z_cast (st' := [.int (nI (6 * r)), .ref (G.2.1 85)]) rfl rfl rfl rfl (congrArg (fun z => Value.int z :: [.ref (G.2.1 85)]) (pk_mul _ _)) ?_
  refine z_iload_n (pc' := 9) C dX6_clear_8 rfl 3 rfl rfl ?_
  refine z_iadd (pc' := 10) C dX6_clear_9 rfl ?_
  refine z_cast (st' := [.int (nI (6 * r + q)), .ref (G.2.1 85)]) rfl rfl rfl rfl (congrArg (fun z => Value.int z :: [.ref (G.2.1 85)]) (nI_add _ _)) ?_
  refine z_lald (pc' := 11) C 85 (by decide) (N := 192) (i := 6 * r + q) (f := la 32) q_l32 (by omega) (by decide) dX6_clear_10 rfl ?_
  refine z_lstore (lv' := [(4, .long ((la 32) (6 * r + q))), (0, .ref (G.2.1 6)), (1, .int (nI r)), (2, .int (nI t)), (3, .int (nI q))]) (pc' := 13) C dX6_clear_11 (by decide) rfl rfl ?_
  refine z_aload_n (pc' := 14) C dX6_clear_13 rfl 1 rfl rfl ?_
  refine z_get (pc' := 17) C hU6 6 (by decide) q_o6 rfl 8 (by decide) (by decide +kernel) (v := .ref (G.2.1 85)) rfl dX6_clear_14 rfl ?_
  refine z_bipush (v := 6) (pc' := 19) C dX6_clear_17 rfl rfl ?_
  refine z_iload_n (pc' := 20) C dX6_clear_19 rfl 3 rfl rfl ?_
  refine z_imul (pc' := 21) C dX6_clear_20 rfl ?_
  refine z_cast (st' := [.int (nI (6 * t)), .ref (G.2.1 85)]) rfl rfl rfl rfl (congrArg (fun z => Value.int z :: [.ref (G.2.1 85)]) (pk_mul _ _)) ?_
  refine z_iload_n (pc' := 22) C dX6_clear_21 rfl 4 rfl rfl ?_
  refine z_iadd (pc' := 23) C dX6_clear_22 rfl ?_
  refine z_cast (st' := [.int (nI (6 * t + q)), .ref (G.2.1 85)]) rfl rfl rfl rfl (congrArg (fun z => Value.int z :: [.ref (G.2.1 85)]) (nI_add _ _)) ?_
  refine z_lald (pc' := 24) C 85 (by decide) (N := 192) (i := 6 * t + q) (f := la 32) q_l32 (by omega) (by decide) dX6_clear_23 rfl ?_
  refine z_lstore (lv' := [(6, .long ((la 32) (6 * t + q))), (4, .long ((la 32) (6 * r + q))), (0, .ref (G.2.1 6)), (1, .int (nI r)), (2, .int (nI t)), (3, .int (nI q))]) (pc' := 26) C dX6_clear_24 (by decide) rfl rfl ?_
  refine z_lload (pc' := 28) C dX6_clear_26 1 rfl rfl ?_
  refine z_lconst (v := 0) (pc' := 29) C dX6_clear_28 rfl rfl ?_
  refine z_lcmp (pc' := 30) C dX6_clear_29 rfl ?_
  refine z_if_ne (pc' := 33) C 34 dX6_clear_30 rfl rfl (fun h_30 => ?_) (fun h_30 => absurd h_30 (by rw [lg_cmp_eq]; exact h0))
  refine z_lconst (v := 0) (pc' := 35) C dX6_clear_34 rfl rfl ?_
  refine z_lstore (lv' := [(8, .long 0), (6, .long ((la 32) (6 * t + q))), (4, .long ((la 32) (6 * r + q))), (0, .ref (G.2.1 6)), (1, .int (nI r)), (2, .int (nI t)), (3, .int (nI q))]) (pc' := 37) C dX6_clear_35 (by decide) rfl rfl ?_
  refine z_iconst (v := 0) (pc' := 38) C dX6_clear_37 rfl rfl ?_
  refine z_istore (lv' := [(10, .int 0), (8, .long 0), (6, .long ((la 32) (6 * t + q))), (4, .long ((la 32) (6 * r + q))), (0, .ref (G.2.1 6)), (1, .int (nI r)), (2, .int (nI t)), (3, .int (nI q))]) (pc' := 40) C dX6_clear_38 (by decide) rfl rfl ?_
  have L40 : ∀ (fuel : Nat) (c : Nat) (hc : c ≤ 6), 6 - c < fuel → Z sc ia (va_up la 32 (r_c1 (la 32) r t (la 32 (6 * r + q)) (la 32 (6 * t + q)) L c)) [(10, .int (nI c)), (8, .long (lN (r_g (r_pv (la 32) r t (la 32 (6 * r + q)) (la 32 (6 * t + q)) L) L c))), (6, .long (la 32 (6 * t + q))), (4, .long (la 32 (6 * r + q))), (0, .ref (G.2.1 6)), (1, .int (nI r)), (2, .int (nI t))] 40 [] := by
    intro fuel
    induction fuel with
    | zero => intro c hc hm40; exact absurd hm40 (Nat.not_lt_zero _)
    | succ fuel ih40 =>
      intro c hc hm40
      refine z_iload (pc' := 42) C dX6_clear_40 0 rfl rfl ?_
      refine z_bipush (v := 6) (pc' := 44) C dX6_clear_42 rfl rfl ?_
      refine z_icmpN_ge (a := c) (b := 6) (pc' := 47) C 130 (by omega) (by omega) dX6_clear_44 rfl rfl (fun h_44 => ?_) (fun h_44 => ?_)
      · refine z_iconst (v := 0) (pc' := 131) C dX6_clear_130 rfl rfl ?_
        refine z_istore (lv' := [(10, .int 0), (8, .long (lN (r_g (r_pv (la 32) r t (la 32 (6 * r + q)) (la 32 (6 * t + q)) L) L c))), (6, .long (la 32 (6 * t + q))), (4, .long (la 32 (6 * r + q))), (0, .ref (G.2.1 6)), (1, .int (nI r)), (2, .int (nI t))]) (pc' := 133) C dX6_clear_131 (by decide) rfl rfl ?_
        have L133 : ∀ (fuel : Nat) (c : Nat) (hc : c ≤ 6) (hz : c = 0 ∨ 1 < r_gg (la 32) r t q L), 6 - c < fuel → Z sc ia (va_up la 32 (r_c2 (r_c1 (la 32) r t (la 32 (6 * r + q)) (la 32 (6 * t + q)) L 6) r (r_gg (la 32) r t q L) L c)) [(10, .int (nI c)), (8, .long (lN (r_gg (la 32) r t q L))), (0, .ref (G.2.1 6)), (1, .int (nI r))] 133 [] := by
          intro fuel
          induction fuel with
          | zero => intro c hc hz hm133; exact absurd hm133 (Nat.not_lt_zero _)
          | succ fuel ih133 =>
            intro c hc hz hm133
            refine z_iload (pc' := 135) C dX6_clear_133 0 rfl rfl ?_
            refine z_bipush (v := 6) (pc' := 137) C dX6_clear_135 rfl rfl ?_
            refine z_icmpN_ge (a := c) (b := 6) (pc' := 140) C 185 (by omega) (by omega) dX6_clear_137 rfl rfl (fun h_137 => ?_) (fun h_137 => ?_)
            · exact z_vret (E := E) rfl dX6_clear_185 ⟨rfl, rfl, rfl, (by first | rfl | (unfold r_clr; rw [if_neg h0]; first | (have e9 : c = 6 := (by omega); subst e9; rcases hz with z | z; (exact absurd z (by decide)); rw [if_pos z]) | (rw [lg_cmp_le] at h_144; have hn9 : ¬ 1 < r_gg (la 32) r t q L := (fun z9 => Nat.not_le.mpr z9 ((pk_lLE (Nat.lt_trans (hlt 6 (by omega)) (by decide)) (by decide)).mp (show lN (r_gg (la 32) r t q L) ≤ lN 1 from h_144))); rcases hz with z | z; (subst z; rw [if_neg hn9]; rfl); exact absurd z hn9)))⟩
            · refine z_lload (pc' := 142) C dX6_clear_140 1 rfl rfl ?_
              refine z_lconst (v := 1) (pc' := 143) C dX6_clear_142 rfl rfl ?_
              refine z_lcmp (pc' := 144) C dX6_clear_143 rfl ?_
              refine z_if_le (pc' := 147) C 185 dX6_clear_144 rfl rfl (fun h_144 => ?_) (fun h_144 => ?_)
              · exact z_vret (E := E) rfl dX6_clear_185 ⟨rfl, rfl, rfl, (by first | rfl | (unfold r_clr; rw [if_neg h0]; first | (have e9 : c = 6 := (by omega); subst e9; rcases hz with z | z; (exact absurd z (by decide)); rw [if_pos z]) | (rw [lg_cmp_le] at h_144; have hn9 : ¬ 1 < r_gg (la 32) r t q L := (fun z9 => Nat.not_le.mpr z9 ((pk_lLE (Nat.lt_trans (hlt 6 (by omega)) (by decide)) (by decide)).mp (show lN (r_gg (la 32) r t q L) ≤ lN 1 from h_144))); rcases hz with z | z; (subst z; rw [if_neg hn9]; rfl); exact absurd z hn9)))⟩
              · refine z_iload (pc' := 149) C dX6_clear_147 0 rfl rfl ?_
                refine z_aload_n (pc' := 150) C dX6_clear_149 rfl 2 rfl rfl ?_
                refine z_get (pc' := 153) C hU6 6 (by decide) q_o6 rfl 11 (by decide) (by decide +kernel) (v := .int (sc 9)) rfl dX6_clear_150 rfl ?_
                refine z_cast (st' := [.int (nI L), .int (nI c)]) rfl rfl rfl rfl (congrArg (fun z => Value.int z :: [.int (nI c)]) hL) ?_
                refine z_icmpN_lt (a := c) (b := L) (pc' := 156) C 162 (by omega) (by omega) dX6_clear_153 rfl rfl (fun h_153 => ?_) (fun h_153 => ?_)
                · have hinc9 : r_inc L c = true := (by unfold r_inc; first | (rw [decide_eq_true h_153]; rfl) | (rw [decide_eq_true h_159]; simp))
                  refine z_aload_n (pc' := 163) C dX6_clear_162 rfl 2 rfl rfl ?_
                  refine z_get (pc' := 166) C hU6 6 (by decide) q_o6 rfl 8 (by decide) (by decide +kernel) (v := .ref (G.2.1 85)) rfl dX6_clear_163 rfl ?_
                  refine z_bipush (v := 6) (pc' := 168) C dX6_clear_166 rfl rfl ?_
                  refine z_iload_n (pc' := 169) C dX6_clear_168 rfl 3 rfl rfl ?_
                  refine z_imul (pc' := 170) C dX6_clear_169 rfl ?_
                  refine z_cast (st' := [.int (nI (6 * r)), .ref (G.2.1 85)]) rfl rfl rfl rfl (congrArg (fun z => Value.int z :: [.ref (G.2.1 85)]) (pk_mul _ _)) ?_
                  refine z_iload (pc' := 172) C dX6_clear_170 0 rfl rfl ?_
                  refine z_iadd (pc' := 173) C dX6_clear_172 rfl ?_
                  refine z_cast (st' := [.int (nI (6 * r + c)), .ref (G.2.1 85)]) rfl rfl rfl rfl (congrArg (fun z => Value.int z :: [.ref (G.2.1 85)]) (nI_add _ _)) ?_
                  refine z_dup2 (pc' := 174) C dX6_clear_173 rfl rfl rfl ?_
                  refine z_lald (pc' := 175) C 85 (by decide) (N := 192) (i := 6 * r + c) (f := r_c2 (r_c1 (la 32) r t (la 32 (6 * r + q)) (la 32 (6 * t + q)) L 6) r (r_gg (la 32) r t q L) L c) q_l32 (by omega) (by decide) dX6_clear_174 rfl ?_
                  refine z_lload (pc' := 177) C dX6_clear_175 1 rfl rfl ?_
                  refine z_ldiv (pc' := 178) C dX6_clear_177 (by rw [lg_cmp_le] at h_144; intro z9; rw [z9] at h_144; exact absurd (by decide) h_144) rfl ?_
                  refine z_last (pc' := 179) C 85 (by decide) (N := 192) (i := 6 * r + c) (f := r_c2 (r_c1 (la 32) r t (la 32 (6 * r + q)) (la 32 (6 * t + q)) L 6) r (r_gg (la 32) r t q L) L c) q_l32 (by omega) (by decide) (q_ulu32 _ _) dX6_clear_178 rfl ?_
                  refine z_iinc (v := nI (c + 1)) (k9 := 0) (lv' := [(10, .int (nI (c + 1))), (8, .long (lN (r_gg (la 32) r t q L))), (0, .ref (G.2.1 6)), (1, .int (nI r))]) (pc' := 182) C dX6_clear_179 rfl (nI_1 c) (by decide) rfl rfl ?_
                  refine z_goto (pc' := 133) C dX6_clear_182 rfl ?_
                  exact z_cast rfl rfl (by first | (simp only [r_c2, hinc9, if_true, ite_true]; done) | (simp only [r_c2, hinc9, if_true, ite_true]; rfl) | (have hn9 : ¬ r_inc L c = true := (by unfold r_inc; simp; omega); simp only [r_c2, if_neg hn9])) rfl rfl (ih133 (c + 1) (by omega) (by rw [lg_cmp_le] at h_144; right; rcases Nat.lt_or_ge 1 (r_gg (la 32) r t q L) with z9 | z9; exact z9; exact absurd (show lN (r_gg (la 32) r t q L) ≤ lN 1 from (pk_lLE (Nat.lt_trans (hlt 6 (by omega)) (by decide)) (by decide)).mpr z9) h_144) (by omega))
                · refine z_iload (pc' := 158) C dX6_clear_156 0 rfl rfl ?_
                  refine z_iconst (v := 5) (pc' := 159) C dX6_clear_158 rfl rfl ?_
                  refine z_icmpN_ne (a := c) (b := 5) (pc' := 162) C 179 (by omega) (by omega) dX6_clear_159 rfl rfl (fun h_159 => ?_) (fun h_159 => ?_)
                  · refine z_iinc (v := nI (c + 1)) (k9 := 0) (lv' := [(10, .int (nI (c + 1))), (8, .long (lN (r_gg (la 32) r t q L))), (0, .ref (G.2.1 6)), (1, .int (nI r))]) (pc' := 182) C dX6_clear_179 rfl (nI_1 c) (by decide) rfl rfl ?_
                    refine z_goto (pc' := 133) C dX6_clear_182 rfl ?_
                    exact z_cast rfl rfl (by first | (simp only [r_c2, hinc9, if_true, ite_true]; done) | (simp only [r_c2, hinc9, if_true, ite_true]; rfl) | (have hn9 : ¬ r_inc L c = true := (by unfold r_inc; simp; omega); simp only [r_c2, if_neg hn9])) rfl rfl (ih133 (c + 1) (by omega) (by rw [lg_cmp_le] at h_144; right; rcases Nat.lt_or_ge 1 (r_gg (la 32) r t q L) with z9 | z9; exact z9; exact absurd (show lN (r_gg (la 32) r t q L) ≤ lN 1 from (pk_lLE (Nat.lt_trans (hlt 6 (by omega)) (by decide)) (by decide)).mpr z9) h_144) (by omega))
                  · have hinc9 : r_inc L c = true := (by unfold r_inc; first | (rw [decide_eq_true h_153]; rfl) | (rw [decide_eq_true h_159]; simp))
                    refine z_aload_n (pc' := 163) C dX6_clear_162 rfl 2 rfl rfl ?_
                    refine z_get (pc' := 166) C hU6 6 (by decide) q_o6 rfl 8 (by decide) (by decide +kernel) (v := .ref (G.2.1 85)) rfl dX6_clear_163 rfl ?_
                    refine z_bipush (v := 6) (pc' := 168) C dX6_clear_166 rfl rfl ?_
                    refine z_iload_n (pc' := 169) C dX6_clear_168 rfl 3 rfl rfl ?_
                    refine z_imul (pc' := 170) C dX6_clear_169 rfl ?_
                    refine z_cast (st' := [.int (nI (6 * r)), .ref (G.2.1 85)]) rfl rfl rfl rfl (congrArg (fun z => Value.int z :: [.ref (G.2.1 85)]) (pk_mul _ _)) ?_
                    refine z_iload (pc' := 172) C dX6_clear_170 0 rfl rfl ?_
                    refine z_iadd (pc' := 173) C dX6_clear_172 rfl ?_
                    refine z_cast (st' := [.int (nI (6 * r + c)), .ref (G.2.1 85)]) rfl rfl rfl rfl (congrArg (fun z => Value.int z :: [.ref (G.2.1 85)]) (nI_add _ _)) ?_
                    refine z_dup2 (pc' := 174) C dX6_clear_173 rfl rfl rfl ?_
                    refine z_lald (pc' := 175) C 85 (by decide) (N := 192) (i := 6 * r + c) (f := r_c2 (r_c1 (la 32) r t (la 32 (6 * r + q)) (la 32 (6 * t + q)) L 6) r (r_gg (la 32) r t q L) L c) q_l32 (by omega) (by decide) dX6_clear_174 rfl ?_
                    refine z_lload (pc' := 177) C dX6_clear_175 1 rfl rfl ?_
                    refine z_ldiv (pc' := 178) C dX6_clear_177 (by rw [lg_cmp_le] at h_144; intro z9; rw [z9] at h_144; exact absurd (by decide) h_144) rfl ?_
                    refine z_last (pc' := 179) C 85 (by decide) (N := 192) (i := 6 * r + c) (f := r_c2 (r_c1 (la 32) r t (la 32 (6 * r + q)) (la 32 (6 * t + q)) L 6) r (r_gg (la 32) r t q L) L c) q_l32 (by omega) (by decide) (q_ulu32 _ _) dX6_clear_178 rfl ?_
                    refine z_iinc (v := nI (c + 1)) (k9 := 0) (lv' := [(10, .int (nI (c + 1))), (8, .long (lN (r_gg (la 32) r t q L))), (0, .ref (G.2.1 6)), (1, .int (nI r))]) (pc' := 182) C dX6_clear_179 rfl (nI_1 c) (by decide) rfl rfl ?_
                    refine z_goto (pc' := 133) C dX6_clear_182 rfl ?_
                    exact z_cast rfl rfl (by first | (simp only [r_c2, hinc9, if_true, ite_true]; done) | (simp only [r_c2, hinc9, if_true, ite_true]; rfl) | (have hn9 : ¬ r_inc L c = true := (by unfold r_inc; simp; omega); simp only [r_c2, if_neg hn9])) rfl rfl (ih133 (c + 1) (by omega) (by rw [lg_cmp_le] at h_144; right; rcases Nat.lt_or_ge 1 (r_gg (la 32) r t q L) with z9 | z9; exact z9; exact absurd (show lN (r_gg (la 32) r t q L) ≤ lN 1 from (pk_lLE (Nat.lt_trans (hlt 6 (by omega)) (by decide)) (by decide)).mpr z9) h_144) (by omega))
        refine z_sub (lv' := [(10, .int 0), (8, .long (lN (r_g (r_pv (la 32) r t (la 32 (6 * r + q)) (la 32 (6 * t + q)) L) L c))), (0, .ref (G.2.1 6)), (1, .int (nI r))]) C [0, 1, 4, 5] rfl ?_
        exact z_cast rfl rfl (by first | rfl | (have e9 : c = 6 := (by omega); subst e9; rfl)) (by first | rfl | (have e9 : c = 6 := (by omega); subst e9; rfl)) rfl (L133 (_ + 1) 0 (by omega) (by exact Or.inl rfl) (Nat.lt_succ_self _))
      · refine z_iload (pc' := 49) C dX6_clear_47 0 rfl rfl ?_
        refine z_aload_n (pc' := 50) C dX6_clear_49 rfl 4 rfl rfl ?_
        refine z_get (pc' := 53) C hU6 6 (by decide) q_o6 rfl 11 (by decide) (by decide +kernel) (v := .int (sc 9)) rfl dX6_clear_50 rfl ?_
        refine z_cast (st' := [.int (nI L), .int (nI c)]) rfl rfl rfl rfl (congrArg (fun z => Value.int z :: [.int (nI c)]) hL) ?_
        refine z_icmpN_lt (a := c) (b := L) (pc' := 56) C 62 (by omega) (by omega) dX6_clear_53 rfl rfl (fun h_53 => ?_) (fun h_53 => ?_)
        · have hinc9 : r_inc L c = true := (by unfold r_inc; first | (rw [decide_eq_true h_53]; rfl) | (rw [decide_eq_true h_59]; simp))
          refine z_aload_n (pc' := 63) C dX6_clear_62 rfl 4 rfl rfl ?_
          refine z_get (pc' := 66) C hU6 6 (by decide) q_o6 rfl 8 (by decide) (by decide +kernel) (v := .ref (G.2.1 85)) rfl dX6_clear_63 rfl ?_
          refine z_bipush (v := 6) (pc' := 68) C dX6_clear_66 rfl rfl ?_
          refine z_iload_n (pc' := 69) C dX6_clear_68 rfl 5 rfl rfl ?_
          refine z_imul (pc' := 70) C dX6_clear_69 rfl ?_
          refine z_cast (st' := [.int (nI (6 * r)), .ref (G.2.1 85)]) rfl rfl rfl rfl (congrArg (fun z => Value.int z :: [.ref (G.2.1 85)]) (pk_mul _ _)) ?_
          refine z_iload (pc' := 72) C dX6_clear_70 0 rfl rfl ?_
          refine z_iadd (pc' := 73) C dX6_clear_72 rfl ?_
          refine z_cast (st' := [.int (nI (6 * r + c)), .ref (G.2.1 85)]) rfl rfl rfl rfl (congrArg (fun z => Value.int z :: [.ref (G.2.1 85)]) (nI_add _ _)) ?_
          refine z_aload_n (pc' := 74) C dX6_clear_73 rfl 4 rfl rfl ?_
          refine z_get (pc' := 77) C hU6 6 (by decide) q_o6 rfl 8 (by decide) (by decide +kernel) (v := .ref (G.2.1 85)) rfl dX6_clear_74 rfl ?_
          refine z_bipush (v := 6) (pc' := 79) C dX6_clear_77 rfl rfl ?_
          refine z_iload_n (pc' := 80) C dX6_clear_79 rfl 5 rfl rfl ?_
          refine z_imul (pc' := 81) C dX6_clear_80 rfl ?_
          refine z_cast (st' := [.int (nI (6 * r)), .ref (G.2.1 85), .int (nI (6 * r + c)), .ref (G.2.1 85)]) rfl rfl rfl rfl (congrArg (fun z => Value.int z :: [.ref (G.2.1 85), .int (nI (6 * r + c)), .ref (G.2.1 85)]) (pk_mul _ _)) ?_
          refine z_iload (pc' := 83) C dX6_clear_81 0 rfl rfl ?_
          refine z_iadd (pc' := 84) C dX6_clear_83 rfl ?_
          refine z_cast (st' := [.int (nI (6 * r + c)), .ref (G.2.1 85), .int (nI (6 * r + c)), .ref (G.2.1 85)]) rfl rfl rfl rfl (congrArg (fun z => Value.int z :: [.ref (G.2.1 85), .int (nI (6 * r + c)), .ref (G.2.1 85)]) (nI_add _ _)) ?_
          refine z_lald (pc' := 85) C 85 (by decide) (N := 192) (i := 6 * r + c) (f := r_c1 (la 32) r t (la 32 (6 * r + q)) (la 32 (6 * t + q)) L c) q_l32 (by omega) (by decide) dX6_clear_84 rfl ?_
          refine z_lload (pc' := 87) C dX6_clear_85 2 rfl rfl ?_
          refine z_lmul (pc' := 88) C dX6_clear_87 rfl ?_
          refine z_aload_n (pc' := 89) C dX6_clear_88 rfl 4 rfl rfl ?_
          refine z_get (pc' := 92) C hU6 6 (by decide) q_o6 rfl 8 (by decide) (by decide +kernel) (v := .ref (G.2.1 85)) rfl dX6_clear_89 rfl ?_
          refine z_bipush (v := 6) (pc' := 94) C dX6_clear_92 rfl rfl ?_
          refine z_iload_n (pc' := 95) C dX6_clear_94 rfl 6 rfl rfl ?_
          refine z_imul (pc' := 96) C dX6_clear_95 rfl ?_
          refine z_cast (st' := [.int (nI (6 * t)), .ref (G.2.1 85), .long (((r_c1 (la 32) r t (la 32 (6 * r + q)) (la 32 (6 * t + q)) L c) (6 * r + c)) * (la 32 (6 * t + q))), .int (nI (6 * r + c)), .ref (G.2.1 85)]) rfl rfl rfl rfl (congrArg (fun z => Value.int z :: [.ref (G.2.1 85), .long (((r_c1 (la 32) r t (la 32 (6 * r + q)) (la 32 (6 * t + q)) L c) (6 * r + c)) * (la 32 (6 * t + q))), .int (nI (6 * r + c)), .ref (G.2.1 85)]) (pk_mul _ _)) ?_
          refine z_iload (pc' := 98) C dX6_clear_96 0 rfl rfl ?_
          refine z_iadd (pc' := 99) C dX6_clear_98 rfl ?_
          refine z_cast (st' := [.int (nI (6 * t + c)), .ref (G.2.1 85), .long (((r_c1 (la 32) r t (la 32 (6 * r + q)) (la 32 (6 * t + q)) L c) (6 * r + c)) * (la 32 (6 * t + q))), .int (nI (6 * r + c)), .ref (G.2.1 85)]) rfl rfl rfl rfl (congrArg (fun z => Value.int z :: [.ref (G.2.1 85), .long (((r_c1 (la 32) r t (la 32 (6 * r + q)) (la 32 (6 * t + q)) L c) (6 * r + c)) * (la 32 (6 * t + q))), .int (nI (6 * r + c)), .ref (G.2.1 85)]) (nI_add _ _)) ?_
          refine z_lald (pc' := 100) C 85 (by decide) (N := 192) (i := 6 * t + c) (f := r_c1 (la 32) r t (la 32 (6 * r + q)) (la 32 (6 * t + q)) L c) q_l32 (by omega) (by decide) dX6_clear_99 rfl ?_
          refine z_lload (pc' := 102) C dX6_clear_100 3 rfl rfl ?_
          refine z_lmul (pc' := 103) C dX6_clear_102 rfl ?_
          refine z_lsub (pc' := 104) C dX6_clear_103 rfl ?_
          refine z_last (pc' := 105) C 85 (by decide) (N := 192) (i := 6 * r + c) (f := r_c1 (la 32) r t (la 32 (6 * r + q)) (la 32 (6 * t + q)) L c) q_l32 (by omega) (by decide) (q_ulu32 _ _) dX6_clear_104 rfl ?_
          refine z_aload_n (pc' := 106) C dX6_clear_105 rfl 4 rfl rfl ?_
          refine z_get (pc' := 109) C hU6 6 (by decide) q_o6 rfl 8 (by decide) (by decide +kernel) (v := .ref (G.2.1 85)) rfl dX6_clear_106 rfl ?_
          refine z_bipush (v := 6) (pc' := 111) C dX6_clear_109 rfl rfl ?_
          refine z_iload_n (pc' := 112) C dX6_clear_111 rfl 5 rfl rfl ?_
          refine z_imul (pc' := 113) C dX6_clear_112 rfl ?_
          refine z_cast (st' := [.int (nI (6 * r)), .ref (G.2.1 85)]) rfl rfl rfl rfl (congrArg (fun z => Value.int z :: [.ref (G.2.1 85)]) (pk_mul _ _)) ?_
          refine z_iload (pc' := 115) C dX6_clear_113 0 rfl rfl ?_
          refine z_iadd (pc' := 116) C dX6_clear_115 rfl ?_
          refine z_cast (st' := [.int (nI (6 * r + c)), .ref (G.2.1 85)]) rfl rfl rfl rfl (congrArg (fun z => Value.int z :: [.ref (G.2.1 85)]) (nI_add _ _)) ?_
          refine z_lald (pc' := 117) C 85 (by decide) (N := 192) (i := 6 * r + c) (f := vp_updL (r_c1 (la 32) r t (la 32 (6 * r + q)) (la 32 (6 * t + q)) L c) (6 * r + c) ((((r_c1 (la 32) r t (la 32 (6 * r + q)) (la 32 (6 * t + q)) L c) (6 * r + c)) * (la 32 (6 * t + q))) - (((r_c1 (la 32) r t (la 32 (6 * r + q)) (la 32 (6 * t + q)) L c) (6 * t + c)) * (la 32 (6 * r + q))))) q_l32 (by omega) (by decide) dX6_clear_116 rfl ?_
          refine z_cast (st' := [.long (r_nw (r_c1 (la 32) r t (la 32 (6 * r + q)) (la 32 (6 * t + q)) L c) r t (la 32 (6 * r + q)) (la 32 (6 * t + q)) c)]) rfl rfl rfl rfl (congrArg (fun z => Value.long z :: []) (pk_uLs (f := r_c1 (la 32) r t (la 32 (6 * r + q)) (la 32 (6 * t + q)) L c) (k := 6 * r + c) (x := r_nw (r_c1 (la 32) r t (la 32 (6 * r + q)) (la 32 (6 * t + q)) L c) r t (la 32 (6 * r + q)) (la 32 (6 * t + q)) c))) ?_
          refine z_lload (pc' := 119) C dX6_clear_117 1 rfl rfl ?_
          refine z_cS (n := 2) (pc' := 122) (As := [.long (r_nw (r_c1 (la 32) r t (la 32 (6 * r + q)) (la 32 (6 * t + q)) L c) r t (la 32 (6 * r + q)) (la 32 (6 * t + q)) c), .long (lN (r_g (r_pv (la 32) r t (la 32 (6 * r + q)) (la 32 (6 * t + q)) L) L c))]) (rest := []) C (c_X6_common l G sc ia (va_up la 32 (vp_updL (r_c1 (la 32) r t (la 32 (6 * r + q)) (la 32 (6 * t + q)) L c) (6 * r + c) ((((r_c1 (la 32) r t (la 32 (6 * r + q)) (la 32 (6 * t + q)) L c) (6 * r + c)) * (la 32 (6 * t + q))) - (((r_c1 (la 32) r t (la 32 (6 * r + q)) (la 32 (6 * t + q)) L c) (6 * t + c)) * (la 32 (6 * r + q)))))) (r_nw (r_c1 (la 32) r t (la 32 (6 * r + q)) (la 32 (6 * t + q)) L c) r t (la 32 (6 * r + q)) (la 32 (6 * t + q)) c) (lN (r_g (r_pv (la 32) r t (la 32 (6 * r + q)) (la 32 (6 * t + q)) L) L c)) ((r_pv (la 32) r t (la 32 (6 * r + q)) (la 32 (6 * t + q)) L) c) (r_g (r_pv (la 32) r t (la 32 (6 * r + q)) (la 32 (6 * t + q)) L) L c) (hg c (by omega) hinc9).1 (r_abN (Nat.lt_trans (hlt c (by omega)) (by decide))) (Nat.lt_trans (hg c (by omega) hinc9).2 (by decide)) (Nat.lt_trans (hlt c (by omega)) (by decide))) gX6_clear_X6_common rfl rfl rfl (by decide +kernel) (by decide) rfl rfl dX6_clear_119 (Nat.le_of_ble_eq_true rfl) rfl (k_L ?_)
          show Z sc ia (va_up la 32 (vp_updL (r_c1 (la 32) r t (la 32 (6 * r + q)) (la 32 (6 * t + q)) L c) (6 * r + c) ((((r_c1 (la 32) r t (la 32 (6 * r + q)) (la 32 (6 * t + q)) L c) (6 * r + c)) * (la 32 (6 * t + q))) - (((r_c1 (la 32) r t (la 32 (6 * r + q)) (la 32 (6 * t + q)) L c) (6 * t + c)) * (la 32 (6 * r + q)))))) [(10, .int (nI c)), (8, .long (lN (r_g (r_pv (la 32) r t (la 32 (6 * r + q)) (la 32 (6 * t + q)) L) L c))), (6, .long (la 32 (6 * t + q))), (4, .long (la 32 (6 * r + q))), (0, .ref (G.2.1 6)), (1, .int (nI r)), (2, .int (nI t))] 122 [.long (lN (Nat.gcd ((r_pv (la 32) r t (la 32 (6 * r + q)) (la 32 (6 * t + q)) L) c) (r_g (r_pv (la 32) r t (la 32 (6 * r + q)) (la 32 (6 * t + q)) L) L c)))]
          refine z_lstore (lv' := [(8, .long (lN (Nat.gcd ((r_pv (la 32) r t (la 32 (6 * r + q)) (la 32 (6 * t + q)) L) c) (r_g (r_pv (la 32) r t (la 32 (6 * r + q)) (la 32 (6 * t + q)) L) L c)))), (10, .int (nI c)), (6, .long (la 32 (6 * t + q))), (4, .long (la 32 (6 * r + q))), (0, .ref (G.2.1 6)), (1, .int (nI r)), (2, .int (nI t))]) (pc' := 124) C dX6_clear_122 (by decide) rfl rfl ?_
          refine z_iinc (v := nI (c + 1)) (k9 := 1) (lv' := [(10, .int (nI (c + 1))), (8, .long (lN (Nat.gcd ((r_pv (la 32) r t (la 32 (6 * r + q)) (la 32 (6 * t + q)) L) c) (r_g (r_pv (la 32) r t (la 32 (6 * r + q)) (la 32 (6 * t + q)) L) L c)))), (6, .long (la 32 (6 * t + q))), (4, .long (la 32 (6 * r + q))), (0, .ref (G.2.1 6)), (1, .int (nI r)), (2, .int (nI t))]) (pc' := 127) C dX6_clear_124 rfl (nI_1 c) (by decide) rfl rfl ?_
          refine z_goto (pc' := 40) C dX6_clear_127 rfl ?_
          exact z_cast rfl rfl (by first | (simp only [r_c1, hinc9, if_true, ite_true]; done) | (simp only [r_c1, hinc9, if_true, ite_true]; rfl) | (have hn9 : ¬ r_inc L c = true := (by unfold r_inc; simp; omega); simp only [r_c1, if_neg hn9])) (by first | (simp only [r_g, hinc9, if_true, ite_true]) | (have hn9 : ¬ r_inc L c = true := (by unfold r_inc; simp; omega); simp only [r_g, if_neg hn9])) rfl (ih40 (c + 1) (by omega) (by omega))
        · refine z_iload (pc' := 58) C dX6_clear_56 0 rfl rfl ?_
          refine z_iconst (v := 5) (pc' := 59) C dX6_clear_58 rfl rfl ?_
          refine z_icmpN_ne (a := c) (b := 5) (pc' := 62) C 124 (by omega) (by omega) dX6_clear_59 rfl rfl (fun h_59 => ?_) (fun h_59 => ?_)
          · refine z_iinc (v := nI (c + 1)) (k9 := 0) (lv' := [(10, .int (nI (c + 1))), (8, .long (lN (r_g (r_pv (la 32) r t (la 32 (6 * r + q)) (la 32 (6 * t + q)) L) L c))), (6, .long (la 32 (6 * t + q))), (4, .long (la 32 (6 * r + q))), (0, .ref (G.2.1 6)), (1, .int (nI r)), (2, .int (nI t))]) (pc' := 127) C dX6_clear_124 rfl (nI_1 c) (by decide) rfl rfl ?_
            refine z_goto (pc' := 40) C dX6_clear_127 rfl ?_
            exact z_cast rfl rfl (by first | (simp only [r_c1, hinc9, if_true, ite_true]; done) | (simp only [r_c1, hinc9, if_true, ite_true]; rfl) | (have hn9 : ¬ r_inc L c = true := (by unfold r_inc; simp; omega); simp only [r_c1, if_neg hn9])) (by first | (simp only [r_g, hinc9, if_true, ite_true]) | (have hn9 : ¬ r_inc L c = true := (by unfold r_inc; simp; omega); simp only [r_g, if_neg hn9])) rfl (ih40 (c + 1) (by omega) (by omega))
          · have hinc9 : r_inc L c = true := (by unfold r_inc; first | (rw [decide_eq_true h_53]; rfl) | (rw [decide_eq_true h_59]; simp))
            refine z_aload_n (pc' := 63) C dX6_clear_62 rfl 4 rfl rfl ?_
            refine z_get (pc' := 66) C hU6 6 (by decide) q_o6 rfl 8 (by decide) (by decide +kernel) (v := .ref (G.2.1 85)) rfl dX6_clear_63 rfl ?_
            refine z_bipush (v := 6) (pc' := 68) C dX6_clear_66 rfl rfl ?_
            refine z_iload_n (pc' := 69) C dX6_clear_68 rfl 5 rfl rfl ?_
            refine z_imul (pc' := 70) C dX6_clear_69 rfl ?_
            refine z_cast (st' := [.int (nI (6 * r)), .ref (G.2.1 85)]) rfl rfl rfl rfl (congrArg (fun z => Value.int z :: [.ref (G.2.1 85)]) (pk_mul _ _)) ?_
            refine z_iload (pc' := 72) C dX6_clear_70 0 rfl rfl ?_
            refine z_iadd (pc' := 73) C dX6_clear_72 rfl ?_
            refine z_cast (st' := [.int (nI (6 * r + c)), .ref (G.2.1 85)]) rfl rfl rfl rfl (congrArg (fun z => Value.int z :: [.ref (G.2.1 85)]) (nI_add _ _)) ?_
            refine z_aload_n (pc' := 74) C dX6_clear_73 rfl 4 rfl rfl ?_
            refine z_get (pc' := 77) C hU6 6 (by decide) q_o6 rfl 8 (by decide) (by decide +kernel) (v := .ref (G.2.1 85)) rfl dX6_clear_74 rfl ?_
            refine z_bipush (v := 6) (pc' := 79) C dX6_clear_77 rfl rfl ?_
            refine z_iload_n (pc' := 80) C dX6_clear_79 rfl 5 rfl rfl ?_
            refine z_imul (pc' := 81) C dX6_clear_80 rfl ?_
            refine z_cast (st' := [.int (nI (6 * r)), .ref (G.2.1 85), .int (nI (6 * r + c)), .ref (G.2.1 85)]) rfl rfl rfl rfl (congrArg (fun z => Value.int z :: [.ref (G.2.1 85), .int (nI (6 * r + c)), .ref (G.2.1 85)]) (pk_mul _ _)) ?_
            refine z_iload (pc' := 83) C dX6_clear_81 0 rfl rfl ?_
            refine z_iadd (pc' := 84) C dX6_clear_83 rfl ?_
            refine z_cast (st' := [.int (nI (6 * r + c)), .ref (G.2.1 85), .int (nI (6 * r + c)), .ref (G.2.1 85)]) rfl rfl rfl rfl (congrArg (fun z => Value.int z :: [.ref (G.2.1 85), .int (nI (6 * r + c)), .ref (G.2.1 85)]) (nI_add _ _)) ?_
            refine z_lald (pc' := 85) C 85 (by decide) (N := 192) (i := 6 * r + c) (f := r_c1 (la 32) r t (la 32 (6 * r + q)) (la 32 (6 * t + q)) L c) q_l32 (by omega) (by decide) dX6_clear_84 rfl ?_
            refine z_lload (pc' := 87) C dX6_clear_85 2 rfl rfl ?_
            refine z_lmul (pc' := 88) C dX6_clear_87 rfl ?_
            refine z_aload_n (pc' := 89) C dX6_clear_88 rfl 4 rfl rfl ?_
            refine z_get (pc' := 92) C hU6 6 (by decide) q_o6 rfl 8 (by decide) (by decide +kernel) (v := .ref (G.2.1 85)) rfl dX6_clear_89 rfl ?_
            refine z_bipush (v := 6) (pc' := 94) C dX6_clear_92 rfl rfl ?_
            refine z_iload_n (pc' := 95) C dX6_clear_94 rfl 6 rfl rfl ?_
            refine z_imul (pc' := 96) C dX6_clear_95 rfl ?_
            refine z_cast (st' := [.int (nI (6 * t)), .ref (G.2.1 85), .long (((r_c1 (la 32) r t (la 32 (6 * r + q)) (la 32 (6 * t + q)) L c) (6 * r + c)) * (la 32 (6 * t + q))), .int (nI (6 * r + c)), .ref (G.2.1 85)]) rfl rfl rfl rfl (congrArg (fun z => Value.int z :: [.ref (G.2.1 85), .long (((r_c1 (la 32) r t (la 32 (6 * r + q)) (la 32 (6 * t + q)) L c) (6 * r + c)) * (la 32 (6 * t + q))), .int (nI (6 * r + c)), .ref (G.2.1 85)]) (pk_mul _ _)) ?_
            refine z_iload (pc' := 98) C dX6_clear_96 0 rfl rfl ?_
            refine z_iadd (pc' := 99) C dX6_clear_98 rfl ?_
            refine z_cast (st' := [.int (nI (6 * t + c)), .ref (G.2.1 85), .long (((r_c1 (la 32) r t (la 32 (6 * r + q)) (la 32 (6 * t + q)) L c) (6 * r + c)) * (la 32 (6 * t + q))), .int (nI (6 * r + c)), .ref (G.2.1 85)]) rfl rfl rfl rfl (congrArg (fun z => Value.int z :: [.ref (G.2.1 85), .long (((r_c1 (la 32) r t (la 32 (6 * r + q)) (la 32 (6 * t + q)) L c) (6 * r + c)) * (la 32 (6 * t + q))), .int (nI (6 * r + c)), .ref (G.2.1 85)]) (nI_add _ _)) ?_
            refine z_lald (pc' := 100) C 85 (by decide) (N := 192) (i := 6 * t + c) (f := r_c1 (la 32) r t (la 32 (6 * r + q)) (la 32 (6 * t + q)) L c) q_l32 (by omega) (by decide) dX6_clear_99 rfl ?_
            refine z_lload (pc' := 102) C dX6_clear_100 3 rfl rfl ?_
            refine z_lmul (pc' := 103) C dX6_clear_102 rfl ?_
            refine z_lsub (pc' := 104) C dX6_clear_103 rfl ?_
            refine z_last (pc' := 105) C 85 (by decide) (N := 192) (i := 6 * r + c) (f := r_c1 (la 32) r t (la 32 (6 * r + q)) (la 32 (6 * t + q)) L c) q_l32 (by omega) (by decide) (q_ulu32 _ _) dX6_clear_104 rfl ?_
            refine z_aload_n (pc' := 106) C dX6_clear_105 rfl 4 rfl rfl ?_
            refine z_get (pc' := 109) C hU6 6 (by decide) q_o6 rfl 8 (by decide) (by decide +kernel) (v := .ref (G.2.1 85)) rfl dX6_clear_106 rfl ?_
            refine z_bipush (v := 6) (pc' := 111) C dX6_clear_109 rfl rfl ?_
            refine z_iload_n (pc' := 112) C dX6_clear_111 rfl 5 rfl rfl ?_
            refine z_imul (pc' := 113) C dX6_clear_112 rfl ?_
            refine z_cast (st' := [.int (nI (6 * r)), .ref (G.2.1 85)]) rfl rfl rfl rfl (congrArg (fun z => Value.int z :: [.ref (G.2.1 85)]) (pk_mul _ _)) ?_
            refine z_iload (pc' := 115) C dX6_clear_113 0 rfl rfl ?_
            refine z_iadd (pc' := 116) C dX6_clear_115 rfl ?_
            refine z_cast (st' := [.int (nI (6 * r + c)), .ref (G.2.1 85)]) rfl rfl rfl rfl (congrArg (fun z => Value.int z :: [.ref (G.2.1 85)]) (nI_add _ _)) ?_
            refine z_lald (pc' := 117) C 85 (by decide) (N := 192) (i := 6 * r + c) (f := vp_updL (r_c1 (la 32) r t (la 32 (6 * r + q)) (la 32 (6 * t + q)) L c) (6 * r + c) ((((r_c1 (la 32) r t (la 32 (6 * r + q)) (la 32 (6 * t + q)) L c) (6 * r + c)) * (la 32 (6 * t + q))) - (((r_c1 (la 32) r t (la 32 (6 * r + q)) (la 32 (6 * t + q)) L c) (6 * t + c)) * (la 32 (6 * r + q))))) q_l32 (by omega) (by decide) dX6_clear_116 rfl ?_
            refine z_cast (st' := [.long (r_nw (r_c1 (la 32) r t (la 32 (6 * r + q)) (la 32 (6 * t + q)) L c) r t (la 32 (6 * r + q)) (la 32 (6 * t + q)) c)]) rfl rfl rfl rfl (congrArg (fun z => Value.long z :: []) (pk_uLs (f := r_c1 (la 32) r t (la 32 (6 * r + q)) (la 32 (6 * t + q)) L c) (k := 6 * r + c) (x := r_nw (r_c1 (la 32) r t (la 32 (6 * r + q)) (la 32 (6 * t + q)) L c) r t (la 32 (6 * r + q)) (la 32 (6 * t + q)) c))) ?_
            refine z_lload (pc' := 119) C dX6_clear_117 1 rfl rfl ?_
            refine z_cS (n := 2) (pc' := 122) (As := [.long (r_nw (r_c1 (la 32) r t (la 32 (6 * r + q)) (la 32 (6 * t + q)) L c) r t (la 32 (6 * r + q)) (la 32 (6 * t + q)) c), .long (lN (r_g (r_pv (la 32) r t (la 32 (6 * r + q)) (la 32 (6 * t + q)) L) L c))]) (rest := []) C (c_X6_common l G sc ia (va_up la 32 (vp_updL (r_c1 (la 32) r t (la 32 (6 * r + q)) (la 32 (6 * t + q)) L c) (6 * r + c) ((((r_c1 (la 32) r t (la 32 (6 * r + q)) (la 32 (6 * t + q)) L c) (6 * r + c)) * (la 32 (6 * t + q))) - (((r_c1 (la 32) r t (la 32 (6 * r + q)) (la 32 (6 * t + q)) L c) (6 * t + c)) * (la 32 (6 * r + q)))))) (r_nw (r_c1 (la 32) r t (la 32 (6 * r + q)) (la 32 (6 * t + q)) L c) r t (la 32 (6 * r + q)) (la 32 (6 * t + q)) c) (lN (r_g (r_pv (la 32) r t (la 32 (6 * r + q)) (la 32 (6 * t + q)) L) L c)) ((r_pv (la 32) r t (la 32 (6 * r + q)) (la 32 (6 * t + q)) L) c) (r_g (r_pv (la 32) r t (la 32 (6 * r + q)) (la 32 (6 * t + q)) L) L c) (hg c (by omega) hinc9).1 (r_abN (Nat.lt_trans (hlt c (by omega)) (by decide))) (Nat.lt_trans (hg c (by omega) hinc9).2 (by decide)) (Nat.lt_trans (hlt c (by omega)) (by decide))) gX6_clear_X6_common rfl rfl rfl (by decide +kernel) (by decide) rfl rfl dX6_clear_119 (Nat.le_of_ble_eq_true rfl) rfl (k_L ?_)
            show Z sc ia (va_up la 32 (vp_updL (r_c1 (la 32) r t (la 32 (6 * r + q)) (la 32 (6 * t + q)) L c) (6 * r + c) ((((r_c1 (la 32) r t (la 32 (6 * r + q)) (la 32 (6 * t + q)) L c) (6 * r + c)) * (la 32 (6 * t + q))) - (((r_c1 (la 32) r t (la 32 (6 * r + q)) (la 32 (6 * t + q)) L c) (6 * t + c)) * (la 32 (6 * r + q)))))) [(10, .int (nI c)), (8, .long (lN (r_g (r_pv (la 32) r t (la 32 (6 * r + q)) (la 32 (6 * t + q)) L) L c))), (6, .long (la 32 (6 * t + q))), (4, .long (la 32 (6 * r + q))), (0, .ref (G.2.1 6)), (1, .int (nI r)), (2, .int (nI t))] 122 [.long (lN (Nat.gcd ((r_pv (la 32) r t (la 32 (6 * r + q)) (la 32 (6 * t + q)) L) c) (r_g (r_pv (la 32) r t (la 32 (6 * r + q)) (la 32 (6 * t + q)) L) L c)))]
            refine z_lstore (lv' := [(8, .long (lN (Nat.gcd ((r_pv (la 32) r t (la 32 (6 * r + q)) (la 32 (6 * t + q)) L) c) (r_g (r_pv (la 32) r t (la 32 (6 * r + q)) (la 32 (6 * t + q)) L) L c)))), (10, .int (nI c)), (6, .long (la 32 (6 * t + q))), (4, .long (la 32 (6 * r + q))), (0, .ref (G.2.1 6)), (1, .int (nI r)), (2, .int (nI t))]) (pc' := 124) C dX6_clear_122 (by decide) rfl rfl ?_
            refine z_iinc (v := nI (c + 1)) (k9 := 1) (lv' := [(10, .int (nI (c + 1))), (8, .long (lN (Nat.gcd ((r_pv (la 32) r t (la 32 (6 * r + q)) (la 32 (6 * t + q)) L) c) (r_g (r_pv (la 32) r t (la 32 (6 * r + q)) (la 32 (6 * t + q)) L) L c)))), (6, .long (la 32 (6 * t + q))), (4, .long (la 32 (6 * r + q))), (0, .ref (G.2.1 6)), (1, .int (nI r)), (2, .int (nI t))]) (pc' := 127) C dX6_clear_124 rfl (nI_1 c) (by decide) rfl rfl ?_
            refine z_goto (pc' := 40) C dX6_clear_127 rfl ?_
            exact z_cast rfl rfl (by first | (simp only [r_c1, hinc9, if_true, ite_true]; done) | (simp only [r_c1, hinc9, if_true, ite_true]; rfl) | (have hn9 : ¬ r_inc L c = true := (by unfold r_inc; simp; omega); simp only [r_c1, if_neg hn9])) (by first | (simp only [r_g, hinc9, if_true, ite_true]) | (have hn9 : ¬ r_inc L c = true := (by unfold r_inc; simp; omega); simp only [r_g, if_neg hn9])) rfl (ih40 (c + 1) (by omega) (by omega))
  refine z_sub (lv' := [(10, .int 0), (8, .long 0), (6, .long ((la 32) (6 * t + q))), (4, .long ((la 32) (6 * r + q))), (0, .ref (G.2.1 6)), (1, .int (nI r)), (2, .int (nI t))]) C [0, 1, 2, 3, 4, 5, 6] rfl ?_
  exact z_cast rfl rfl (by first | rfl | (exact va_same _ 32)) rfl rfl (L40 (_ + 1) 0 (by omega) (Nat.lt_succ_self _))

set_option maxHeartbeats 4000000 in
set_option maxRecDepth 100000 in
theorem c_X6_clearZ (l : Launch) (G : Gv) (sc : Sc) (ia : Ia) (la : La) (L : Nat) (hL : sc 9 = nI L) (hL5 : L ≤ 5) (r t q : Nat) (hr : r < 32) (ht : t < 32) (hq : q < 5) (h0 : la 32 (6 * r + q) = 0)  : Ct l yX6_clear wsX6_clear ({ frames := 1, cells := 0, slots := 0, locals := 29 }) G [.ref (G.2.1 6), .int (nI r), .int (nI t), .int (nI q)] sc ia la (fV sc ia la) := by
  have hU6 : ∀ w ∈ u_ws RX6 TX6 25, w ∈ wsX6_clear := fun w h => List.mem_cons_of_mem _ (List.mem_append_right _ h)
  refine z_of (maxL := 11) (own := RX6) [(0, .ref (G.2.1 6)), (1, .int (nI r)), (2, .int (nI t)), (3, .int (nI q))] rfl (by decide +kernel) rfl (Nat.le_of_ble_eq_true rfl) rfl (fun Z C E => ?_)
  refine z_aload_n (pc' := 1) C dX6_clear_0 rfl 0 rfl rfl ?_
  refine z_get (pc' := 4) C hU6 6 (by decide) q_o6 rfl 8 (by decide) (by decide +kernel) (v := .ref (G.2.1 85)) rfl dX6_clear_1 rfl ?_
  refine z_bipush (v := 6) (pc' := 6) C dX6_clear_4 rfl rfl ?_
  refine z_iload_n (pc' := 7) C dX6_clear_6 rfl 1 rfl rfl ?_
  refine z_imul (pc' := 8) C dX6_clear_7 rfl ?_
  refine z_cast (st' := [.int (nI (6 * r)), .ref (G.2.1 85)]) rfl rfl rfl rfl (congrArg (fun z => Value.int z :: [.ref (G.2.1 85)]) (pk_mul _ _)) ?_
  refine z_iload_n (pc' := 9) C dX6_clear_8 rfl 3 rfl rfl ?_
  refine z_iadd (pc' := 10) C dX6_clear_9 rfl ?_
  refine z_cast (st' := [.int (nI (6 * r + q)), .ref (G.2.1 85)]) rfl rfl rfl rfl (congrArg (fun z => Value.int z :: [.ref (G.2.1 85)]) (nI_add _ _)) ?_
  refine z_lald (pc' := 11) C 85 (by decide) (N := 192) (i := 6 * r + q) (f := la 32) q_l32 (by omega) (by decide) dX6_clear_10 rfl ?_
  refine z_lstore (lv' := [(4, .long ((la 32) (6 * r + q))), (0, .ref (G.2.1 6)), (1, .int (nI r)), (2, .int (nI t)), (3, .int (nI q))]) (pc' := 13) C dX6_clear_11 (by decide) rfl rfl ?_
  refine z_aload_n (pc' := 14) C dX6_clear_13 rfl 1 rfl rfl ?_
  refine z_get (pc' := 17) C hU6 6 (by decide) q_o6 rfl 8 (by decide) (by decide +kernel) (v := .ref (G.2.1 85)) rfl dX6_clear_14 rfl ?_
  refine z_bipush (v := 6) (pc' := 19) C dX6_clear_17 rfl rfl ?_
  refine z_iload_n (pc' := 20) C dX6_clear_19 rfl 3 rfl rfl ?_
  refine z_imul (pc' := 21) C dX6_clear_20 rfl ?_
  refine z_cast (st' := [.int (nI (6 * t)), .ref (G.2.1 85)]) rfl rfl rfl rfl (congrArg (fun z => Value.int z :: [.ref (G.2.1 85)]) (pk_mul _ _)) ?_
  refine z_iload_n (pc' := 22) C dX6_clear_21 rfl 4 rfl rfl ?_
  refine z_iadd (pc' := 23) C dX6_clear_22 rfl ?_
  refine z_cast (st' := [.int (nI (6 * t + q)), .ref (G.2.1 85)]) rfl rfl rfl rfl (congrArg (fun z => Value.int z :: [.ref (G.2.1 85)]) (nI_add _ _)) ?_
  refine z_lald (pc' := 24) C 85 (by decide) (N := 192) (i := 6 * t + q) (f := la 32) q_l32 (by omega) (by decide) dX6_clear_23 rfl ?_
  refine z_lstore (lv' := [(6, .long ((la 32) (6 * t + q))), (4, .long ((la 32) (6 * r + q))), (0, .ref (G.2.1 6)), (1, .int (nI r)), (2, .int (nI t)), (3, .int (nI q))]) (pc' := 26) C dX6_clear_24 (by decide) rfl rfl ?_
  refine z_lload (pc' := 28) C dX6_clear_26 1 rfl rfl ?_
  refine z_lconst (v := 0) (pc' := 29) C dX6_clear_28 rfl rfl ?_
  refine z_lcmp (pc' := 30) C dX6_clear_29 rfl ?_
  refine z_if_ne (pc' := 33) C 34 dX6_clear_30 rfl rfl (fun h_30 => absurd h_30 (by rw [lg_cmp_eq]; exact fun z => z h0)) (fun h_30 => ?_)
  exact z_vret (E := E) rfl dX6_clear_33 ⟨rfl, rfl, rfl, rfl⟩

theorem c_X6_clear (l : Launch) (G : Gv) (sc : Sc) (ia : Ia) (la : La) (L : Nat) (hL : sc 9 = nI L) (hL5 : L ≤ 5) (r t q : Nat) (hr : r < 32) (ht : t < 32) (hq : q < 5) (hg : r_good (la 32) r t q L) : Ct l yX6_clear wsX6_clear ({ frames := 1, cells := 0, slots := 0, locals := 29 }) G [.ref (G.2.1 6), .int (nI r), .int (nI t), .int (nI q)] sc ia la (fV sc ia (va_up la 32 (r_clr (la 32) r t q L))) := by
  by_cases h0 : la 32 (6 * r + q) = 0
  · have e : va_up la 32 (r_clr (la 32) r t q L) = la := by
      unfold r_clr
      rw [if_pos h0]
      exact (va_same la 32).symm
    rw [e]
    exact c_X6_clearZ l G sc ia la L hL hL5 r t q hr ht hq h0
  · exact c_X6_clearN l G sc ia la L hL hL5 r t q hr ht hq h0 hg
