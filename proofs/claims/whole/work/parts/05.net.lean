
theorem va_same {α : Type} (f : Nat → α) (k : Nat) : f = va_up f k (f k) := by
  funext j
  unfold va_up
  by_cases h : j = k
  · rw [if_pos h, h]
  · rw [if_neg h]
def s_all (p : Nat → Bool) : Nat → Bool
  | 0 => true
  | n + 1 => s_all p n && p n
theorem s_all_f {p : Nat → Bool} {n i : Nat} (hi : i < n) (h : p i = false) : s_all p n = false := by
  induction n with
  | zero => omega
  | succ n ih =>
    show (s_all p n && p n) = false
    by_cases e : i = n
    · subst e; rw [h, Bool.and_false]
    · rw [ih (by omega), Bool.false_and]
theorem s_all_s {p : Nat → Bool} {n : Nat} (h : s_all p n = true) (h2 : p n = true) : s_all p (n + 1) = true := by
  show (s_all p n && p n) = true
  rw [h, h2]; rfl
def s_fi (p : Nat → Bool) : Nat → Option Nat
  | 0 => none
  | n + 1 => match s_fi p n with
    | some j => some j
    | none => if p n = true then some n else none
def s_oi (o : Option Nat) : Int32 := match o with
  | none => -1
  | some j => nI j
theorem s_fi_n {p : Nat → Bool} {n : Nat} (h : ∀ j, j < n → p j = false) : s_fi p n = none := by
  induction n with
  | zero => rfl
  | succ n ih =>
    have h1 := ih (fun j hj => h j (by omega))
    have h2 := h n (by omega)
    simp [s_fi, h1, h2]
theorem s_fi_s {p : Nat → Bool} {n i : Nat} (h : ∀ j, j < i → p j = false) (hi : i < n) (h2 : p i = true) : s_fi p n = some i := by
  induction n with
  | zero => omega
  | succ n ih =>
    by_cases e : i = n
    · subst e
      have h1 := s_fi_n (p := p) (n := i) h
      simp [s_fi, h1, h2]
    · have h1 := ih (by omega)
      simp [s_fi, h1]
theorem s_lt_s {p : Nat → Bool} {i : Nat} (h : ∀ j, j < i → p j = false) (h2 : p i = false) : ∀ j, j < i + 1 → p j = false := fun j hj => by
  by_cases e : j = i
  · rw [e]; exact h2
  · exact h j (by omega)
def s_cn (p : Nat → Bool) : Nat → Nat
  | 0 => 0
  | n + 1 => if p n = true then s_cn p n + 1 else s_cn p n
theorem s_cn_le (p : Nat → Bool) : ∀ n, s_cn p n ≤ n
  | 0 => Nat.le_refl 0
  | n + 1 => by
    have := s_cn_le p n
    unfold s_cn
    split <;> omega
def s_fs (far : Nat → Int32) (more : Int32) (a : Nat) : Nat → (Nat → Int32)
  | 0 => far
  | j + 1 => upd (s_fs far more a j) j (s_fs far more a j j + more * s_sgn (nI a) (nI j))
/-- NEAR of a becomes v; FAR follows -/
def s_set (ia : Ia) (n a : Nat) (v : Int32) : Ia := va_up (va_up ia 0 (upd (ia 0) a v)) 1 (s_fs (ia 1) (v - ia 0 a) a n)
def s_row (ia : Ia) (a : Nat) (k : Nat) : Int32 := bx_sum (fun j => ia 3 j * s_sgn (nI a) (nI j)) k
def s_gb (ia : Ia) (n : Nat) (i : Nat) : Bool := decide (s_row ia i n &&& (nI n - 1) = 0) && decide (s_abs (s_row ia i n) ≤ nI (1000 * n))
def s_tb (ia : Ia) (n : Nat) : Nat → Ia
  | 0 => ia
  | i + 1 => s_set (s_tb ia n i) n i (s_row (s_tb ia n i) i n / nI n)
def s_wp (ia : Ia) (j : Nat) : Bool := !decide (ia 2 j = 0) && decide (ia 3 j - ia 3 j / ia 2 j * ia 2 j = 0)
def s_po (ia : Ia) : Nat → (Nat → Int32)
  | 0 => ia 3
  | j + 1 => if ia 2 j = 0 then s_po ia j else upd (s_po ia j) j (s_po ia j j / ia 2 j)
def s_th (ia : Ia) (i m v : Int32) : Nat → Int32
  | 0 => 0
  | j + 1 => if s_pass (nI j) m v = true then s_th ia i m v j + ia 1 j * s_sgn i (nI j) else s_th ia i m v j
def s_sq (ia : Ia) (m v : Int32) : Nat → Int64
  | 0 => 0
  | j + 1 => if s_pass (nI j) m v = true then s_sq ia m v j + (ia 1 j).toInt64 * (ia 1 j).toInt64 else s_sq ia m v j
def s_ct (f : Nat → Int32) : Nat → Int32
  | 0 => 0
  | j + 1 => if f j = 0 then s_ct f j else s_ct f j + 1
def s_off (ia : Ia) (j : Nat) : Int32 := if ia 7 j = 0 then 0 else ia 4 j - ia 1 j
def s_ms (ia : Ia) (j : Nat) : Bool := !decide (ia 7 j = 0)
def s_fx (ia : Ia) (a f : Nat) : Int32 := s_off ia f * s_sgn (nI a) (nI f)
def s_fk2 (ia : Ia) (a f : Nat) (d : Nat) : Bool := decide (ia 7 (f + d) = 0) || decide (s_off ia (f + d) = s_fx ia a f * s_sgn (nI a) (nI (f + d)))
/-- the x by which element a may be the one fault -/
def s_flt (ia : Ia) (n a : Nat) : Int32 := match s_fi (s_ms ia) n with
  | none => 0
  | some f => if s_all (s_fk2 ia a f) (n - f) = true then s_fx ia a f else 0
def s_isf (ia : Ia) (n a : Nat) : Bool := !decide (s_flt ia n a = 0)
def s_ef (ia : Ia) (n : Nat) (k : Int32) : Int32 := s_oi (s_fi (fun i => s_isf ia n i && decide (nI (s_cn (s_isf ia n) i) = k)) n)
def s_nf1 (ia : Ia) (h : Int64) (i : Nat) : Int64 := s_fo (s_fk (s_fo (s_fo (s_fo (s_fo h (ia 0 i).toInt64) (ia 2 i).toInt64) (ia 3 i).toInt64) (if ia 6 i = 0 then 0 else 1)) (ia 7 i) (ia 4 i)) (ia 5 i).toInt64
def s_nf (ia : Ia) (h : Int64) : Nat → Int64
  | 0 => h
  | i + 1 => s_nf1 ia (s_nf ia h i) i

set_option maxHeartbeats 4000000 in
set_option maxRecDepth 100000 in
theorem c_X2_has (l : Launch) (G : Gv) (sc : Sc) (ia : Ia) (la : La) (i : Int32)  : Ct l yX2_has wsX2_has ({ frames := 0, cells := 0, slots := 0, locals := 0 }) G [.ref (G.2.1 2), .int i] sc ia la (fI (bI (s_has i (sc 0))) sc ia la) := by
  have hU2 : ∀ w ∈ u_ws RX2 TX2 9, w ∈ wsX2_has := fun w h => List.mem_cons_of_mem _ (List.mem_append_right _ h)
  refine z_of (maxL := 2) (own := RX2) [(0, .ref (G.2.1 2)), (1, .int i)] rfl (by decide +kernel) rfl (Nat.le_of_ble_eq_true rfl) rfl (fun Z C E => ?_)
  refine z_iload_n (pc' := 1) C dX2_has_0 rfl 1 rfl rfl ?_
  refine z_if_lt (pc' := 4) C 16 dX2_has_1 rfl rfl (fun h_1 => ?_) (fun h_1 => ?_)
  · refine z_iconst (v := 0) (pc' := 17) C dX2_has_16 rfl rfl ?_
    exact z_zret (E := E) rfl dX2_has_17 (rfl) ⟨(congrArg (fun z => some (Value.int z)) (show _ = _ from (by first | rfl | (simp [s_has, bI, h_1])))), rfl, rfl, rfl⟩
  · refine z_iload_n (pc' := 5) C dX2_has_4 rfl 1 rfl rfl ?_
    refine z_aload_n (pc' := 6) C dX2_has_5 rfl 0 rfl rfl ?_
    refine z_get (pc' := 9) C hU2 2 (by decide) q_o2 rfl 0 (by decide) (by decide +kernel) (v := .int (sc 0)) rfl dX2_has_6 rfl ?_
    refine z_icmp_ge (pc' := 12) C 16 dX2_has_9 rfl rfl (fun h_9 => ?_) (fun h_9 => ?_)
    · refine z_iconst (v := 0) (pc' := 17) C dX2_has_16 rfl rfl ?_
      exact z_zret (E := E) rfl dX2_has_17 (rfl) ⟨(congrArg (fun z => some (Value.int z)) (show _ = _ from (by first | rfl | (simp [s_has, bI, h_1, h_9])))), rfl, rfl, rfl⟩
    · refine z_iconst (v := 1) (pc' := 13) C dX2_has_12 rfl rfl ?_
      refine z_goto (pc' := 17) C dX2_has_13 rfl ?_
      exact z_zret (E := E) rfl dX2_has_17 (rfl) ⟨(congrArg (fun z => some (Value.int z)) (show _ = _ from (by first | rfl | (simp [s_has, bI, h_1, h_9])))), rfl, rfl, rfl⟩

theorem c_X2_has_no (l : Launch) (G : Gv) (sc : Sc) (ia : Ia) (la : La) (i : Int32) (h : s_has i (sc 0) = false) : Ct l yX2_has wsX2_has ({ frames := 0, cells := 0, slots := 0, locals := 0 }) G [.ref (G.2.1 2), .int i] sc ia la (fI 0 sc ia la) := by
  have h9 := c_X2_has l G sc ia la i
  rw [h] at h9
  exact h9
theorem s_has_ok {n j : Nat} (hN : n ≤ 32) (hj : j < n) : s_has (nI j) (nI n) = true := by
  have h1 : ¬ nI j < 0 := nI_pos (by omega)
  have h2 : ¬ nI n ≤ nI j := fun h => by
    have := (nI_leI (a := n) (b := j) (by omega) (by omega)).mp h
    omega
  simp [s_has, h1, h2]
theorem c_X2_has_ok (l : Launch) (G : Gv) (sc : Sc) (ia : Ia) (la : La) (n : Nat) (hn : sc 0 = nI n) (hN : n ≤ 32) (j : Nat) (hj : j < n) : Ct l yX2_has wsX2_has ({ frames := 0, cells := 0, slots := 0, locals := 0 }) G [.ref (G.2.1 2), .int (nI j)] sc ia la (fI 1 sc ia la) := by
  have h9 := c_X2_has l G sc ia la (nI j)
  rw [hn, s_has_ok hN hj] at h9
  exact h9
set_option maxHeartbeats 4000000 in
set_option maxRecDepth 100000 in
theorem c_X2_setNear (l : Launch) (G : Gv) (sc : Sc) (ia : Ia) (la : La) (n : Nat) (hn : sc 0 = nI n) (hN : n ≤ 32) (a : Nat)  (ha : a < n) (v : Int32) : Ct l yX2_setNear wsX2_setNear ({ frames := 2, cells := 0, slots := 0, locals := 41 }) G [.ref (G.2.1 2), .int (nI a), .int v] sc ia la (fV sc (s_set ia n a v) la) := by
  have hU2 : ∀ w ∈ u_ws RX2 TX2 9, w ∈ wsX2_setNear := fun w h => List.mem_cons_of_mem _ (List.mem_append_right _ h)
  refine z_of (maxL := 5) (own := RX2) [(0, .ref (G.2.1 2)), (1, .int (nI a)), (2, .int v)] rfl (by decide +kernel) rfl (Nat.le_of_ble_eq_true rfl) rfl (fun Z C E => ?_)
  refine z_iload_n (pc' := 1) C dX2_setNear_0 rfl 2 rfl rfl ?_
  refine z_aload_n (pc' := 2) C dX2_setNear_1 rfl 0 rfl rfl ?_
  refine z_get (pc' := 5) C hU2 2 (by decide) q_o2 rfl 1 (by decide) (by decide +kernel) (v := .ref (G.2.1 7)) rfl dX2_setNear_2 rfl ?_
  refine z_iload_n (pc' := 6) C dX2_setNear_5 rfl 1 rfl rfl ?_
  refine z_iald (pc' := 7) C 7 (by decide) (N := 32) (i := a) (f := ia 0) q_i0 (by omega) (by decide) dX2_setNear_6 rfl ?_
  refine z_isub (pc' := 8) C dX2_setNear_7 rfl ?_
  refine z_istore_n (lv' := [(3, .int (v - ((ia 0) a))), (0, .ref (G.2.1 2)), (1, .int (nI a)), (2, .int v)]) (pc' := 9) C dX2_setNear_8 rfl (by decide) rfl rfl ?_
  refine z_aload_n (pc' := 10) C dX2_setNear_9 rfl 1 rfl rfl ?_
  refine z_get (pc' := 13) C hU2 2 (by decide) q_o2 rfl 1 (by decide) (by decide +kernel) (v := .ref (G.2.1 7)) rfl dX2_setNear_10 rfl ?_
  refine z_iload_n (pc' := 14) C dX2_setNear_13 rfl 2 rfl rfl ?_
  refine z_iload_n (pc' := 15) C dX2_setNear_14 rfl 3 rfl rfl ?_
  refine z_iast (pc' := 16) C 7 (by decide) (N := 32) (i := a) (f := ia 0) q_i0 (by omega) (by decide) (q_u0 _) dX2_setNear_15 rfl ?_
  refine z_iconst (v := 0) (pc' := 17) C dX2_setNear_16 rfl rfl ?_
  refine z_istore (lv' := [(4, .int 0), (3, .int (v - ((ia 0) a))), (0, .ref (G.2.1 2)), (1, .int (nI a)), (2, .int v)]) (pc' := 19) C dX2_setNear_17 (by decide) rfl rfl ?_
  have L19 : ∀ (fuel : Nat) (j : Nat) (hj : j ≤ n), n - j < fuel → Z sc (va_up (va_up ia 0 (upd (ia 0) a v)) 1 (s_fs (ia 1) (v - ia 0 a) a j)) la [(4, .int (nI j)), (3, .int (v - ia 0 a)), (0, .ref (G.2.1 2)), (1, .int (nI a))] 19 [] := by
    intro fuel
    induction fuel with
    | zero => intro j hj hm19; exact absurd hm19 (Nat.not_lt_zero _)
    | succ fuel ih19 =>
      intro j hj hm19
      refine z_iload (pc' := 21) C dX2_setNear_19 0 rfl rfl ?_
      refine z_aload_n (pc' := 22) C dX2_setNear_21 rfl 2 rfl rfl ?_
      refine z_get (pc' := 25) C hU2 2 (by decide) q_o2 rfl 0 (by decide) (by decide +kernel) (v := .int (sc 0)) rfl dX2_setNear_22 rfl ?_
      refine z_cast (st' := [.int (nI n), .int (nI j)]) rfl rfl rfl rfl (congrArg (fun z => Value.int z :: [.int (nI j)]) hn) ?_
      refine z_icmpN_ge (a := j) (b := n) (pc' := 28) C 52 (by omega) (by omega) dX2_setNear_25 rfl rfl (fun h_25 => ?_) (fun h_25 => ?_)
      · exact z_vret (E := E) rfl dX2_setNear_52 ⟨rfl, rfl, (by first | rfl | (have e9 : j = n := (by omega); subst e9; rfl)), rfl⟩
      · refine z_aload_n (pc' := 29) C dX2_setNear_28 rfl 2 rfl rfl ?_
        refine z_get (pc' := 32) C hU2 2 (by decide) q_o2 rfl 2 (by decide) (by decide +kernel) (v := .ref (G.2.1 8)) rfl dX2_setNear_29 rfl ?_
        refine z_iload (pc' := 34) C dX2_setNear_32 0 rfl rfl ?_
        refine z_dup2 (pc' := 35) C dX2_setNear_34 rfl rfl rfl ?_
        refine z_iald (pc' := 36) C 8 (by decide) (N := 32) (i := j) (f := s_fs (ia 1) (v - ia 0 a) a j) q_i1 (by omega) (by decide) dX2_setNear_35 rfl ?_
        refine z_iload_n (pc' := 37) C dX2_setNear_36 rfl 1 rfl rfl ?_
        refine z_iload_n (pc' := 38) C dX2_setNear_37 rfl 3 rfl rfl ?_
        refine z_iload (pc' := 40) C dX2_setNear_38 0 rfl rfl ?_
        refine z_cN (n := 2) (pc' := 43) (As := [.int (nI a), .int (nI j)]) (rest := [.int (v - ia 0 a), .int ((s_fs (ia 1) (v - ia 0 a) a j) j), .int (nI j), .ref (G.2.1 8)]) C (c_X5_signOf l G sc (va_up (va_up ia 0 (upd (ia 0) a v)) 1 (s_fs (ia 1) (v - ia 0 a) a j)) la (nI a) (nI j)) gX2_setNear_X5_signOf_n46 rfl rfl rfl (by decide +kernel) (by decide +kernel) (by decide +kernel) (by decide +kernel) (by decide) rfl rfl dX2_setNear_40 (Nat.le_of_ble_eq_true rfl) rfl (k_I ?_)
        show Z sc (va_up (va_up ia 0 (upd (ia 0) a v)) 1 (s_fs (ia 1) (v - ia 0 a) a j)) la [(4, .int (nI j)), (3, .int (v - ia 0 a)), (0, .ref (G.2.1 2)), (1, .int (nI a))] 43 [.int (s_sgn (nI a) (nI j)), .int (v - ia 0 a), .int ((s_fs (ia 1) (v - ia 0 a) a j) j), .int (nI j), .ref (G.2.1 8)]
        refine z_imul (pc' := 44) C dX2_setNear_43 rfl ?_
        refine z_iadd (pc' := 45) C dX2_setNear_44 rfl ?_
        refine z_iast (pc' := 46) C 8 (by decide) (N := 32) (i := j) (f := s_fs (ia 1) (v - ia 0 a) a j) q_i1 (by omega) (by decide) (q_uu1 _ _) dX2_setNear_45 rfl ?_
        refine z_iinc (v := nI (j + 1)) (k9 := 0) (lv' := [(4, .int (nI (j + 1))), (3, .int (v - ia 0 a)), (0, .ref (G.2.1 2)), (1, .int (nI a))]) (pc' := 49) C dX2_setNear_46 rfl (nI_1 j) (by decide) rfl rfl ?_
        refine z_goto (pc' := 19) C dX2_setNear_49 rfl ?_
        exact z_cast rfl rfl rfl rfl rfl (ih19 (j + 1) (by omega) (by omega))
  refine z_sub (lv' := [(4, .int 0), (3, .int (v - ((ia 0) a))), (0, .ref (G.2.1 2)), (1, .int (nI a))]) C [0, 1, 2, 3] rfl ?_
  exact z_cast rfl (by first | rfl | (exact va_same _ 1)) rfl rfl rfl (L19 (_ + 1) 0 (by omega) (Nat.lt_succ_self _))

set_option maxHeartbeats 4000000 in
set_option maxRecDepth 100000 in
theorem c_X2_rowThroughTo (l : Launch) (G : Gv) (sc : Sc) (ia : Ia) (la : La) (n : Nat) (hn : sc 0 = nI n) (hN : n ≤ 32) (a : Nat)   : Ct l yX2_rowThroughTo wsX2_rowThroughTo ({ frames := 2, cells := 0, slots := 0, locals := 41 }) G [.ref (G.2.1 2), .int (nI a)] sc ia la (fI (s_row ia a n) sc ia la) := by
  have hU2 : ∀ w ∈ u_ws RX2 TX2 9, w ∈ wsX2_rowThroughTo := fun w h => List.mem_cons_of_mem _ (List.mem_append_right _ h)
  refine z_of (maxL := 4) (own := RX2) [(0, .ref (G.2.1 2)), (1, .int (nI a))] rfl (by decide +kernel) rfl (Nat.le_of_ble_eq_true rfl) rfl (fun Z C E => ?_)
  refine z_iconst (v := 0) (pc' := 1) C dX2_rowThroughTo_0 rfl rfl ?_
  refine z_istore_n (lv' := [(2, .int 0), (0, .ref (G.2.1 2)), (1, .int (nI a))]) (pc' := 2) C dX2_rowThroughTo_1 rfl (by decide) rfl rfl ?_
  refine z_iconst (v := 0) (pc' := 3) C dX2_rowThroughTo_2 rfl rfl ?_
  refine z_istore_n (lv' := [(3, .int 0), (2, .int 0), (0, .ref (G.2.1 2)), (1, .int (nI a))]) (pc' := 4) C dX2_rowThroughTo_3 rfl (by decide) rfl rfl ?_
  have L4 : ∀ (fuel : Nat) (j : Nat) (hj : j ≤ n), n - j < fuel → Z sc ia la [(3, .int (nI j)), (2, .int (s_row ia a j)), (0, .ref (G.2.1 2)), (1, .int (nI a))] 4 [] := by
    intro fuel
    induction fuel with
    | zero => intro j hj hm4; exact absurd hm4 (Nat.not_lt_zero _)
    | succ fuel ih4 =>
      intro j hj hm4
      refine z_iload_n (pc' := 5) C dX2_rowThroughTo_4 rfl 0 rfl rfl ?_
      refine z_aload_n (pc' := 6) C dX2_rowThroughTo_5 rfl 2 rfl rfl ?_
      refine z_get (pc' := 9) C hU2 2 (by decide) q_o2 rfl 0 (by decide) (by decide +kernel) (v := .int (sc 0)) rfl dX2_rowThroughTo_6 rfl ?_
      refine z_cast (st' := [.int (nI n), .int (nI j)]) rfl rfl rfl rfl (congrArg (fun z => Value.int z :: [.int (nI j)]) hn) ?_
      refine z_icmpN_ge (a := j) (b := n) (pc' := 12) C 33 (by omega) (by omega) dX2_rowThroughTo_9 rfl rfl (fun h_9 => ?_) (fun h_9 => ?_)
      · refine z_iload_n (pc' := 34) C dX2_rowThroughTo_33 rfl 1 rfl rfl ?_
        exact z_iret (E := E) rfl dX2_rowThroughTo_34 ⟨(congrArg (fun z => some (Value.int z)) (show _ = _ from (by first | rfl | (have e9 : j = n := (by omega); subst e9; rfl)))), rfl, rfl, rfl⟩
      · refine z_iload_n (pc' := 13) C dX2_rowThroughTo_12 rfl 1 rfl rfl ?_
        refine z_aload_n (pc' := 14) C dX2_rowThroughTo_13 rfl 2 rfl rfl ?_
        refine z_get (pc' := 17) C hU2 2 (by decide) q_o2 rfl 4 (by decide) (by decide +kernel) (v := .ref (G.2.1 10)) rfl dX2_rowThroughTo_14 rfl ?_
        refine z_iload_n (pc' := 18) C dX2_rowThroughTo_17 rfl 0 rfl rfl ?_
        refine z_iald (pc' := 19) C 10 (by decide) (N := 32) (i := j) (f := ia 3) q_i3 (by omega) (by decide) dX2_rowThroughTo_18 rfl ?_
        refine z_iload_n (pc' := 20) C dX2_rowThroughTo_19 rfl 3 rfl rfl ?_
        refine z_iload_n (pc' := 21) C dX2_rowThroughTo_20 rfl 0 rfl rfl ?_
        refine z_cN (n := 2) (pc' := 24) (As := [.int (nI a), .int (nI j)]) (rest := [.int ((ia 3) j), .int (s_row ia a j)]) C (c_X5_signOf l G sc ia la (nI a) (nI j)) gX2_rowThroughTo_X5_signOf_n46 rfl rfl rfl (by decide +kernel) (by decide +kernel) (by decide +kernel) (by decide +kernel) (by decide) rfl rfl dX2_rowThroughTo_21 (Nat.le_of_ble_eq_true rfl) rfl (k_I ?_)
        show Z sc ia la [(3, .int (nI j)), (2, .int (s_row ia a j)), (0, .ref (G.2.1 2)), (1, .int (nI a))] 24 [.int (s_sgn (nI a) (nI j)), .int ((ia 3) j), .int (s_row ia a j)]
        refine z_imul (pc' := 25) C dX2_rowThroughTo_24 rfl ?_
        refine z_iadd (pc' := 26) C dX2_rowThroughTo_25 rfl ?_
        refine z_istore_n (lv' := [(2, .int ((s_row ia a j) + (((ia 3) j) * (s_sgn (nI a) (nI j))))), (3, .int (nI j)), (0, .ref (G.2.1 2)), (1, .int (nI a))]) (pc' := 27) C dX2_rowThroughTo_26 rfl (by decide) rfl rfl ?_
        refine z_iinc (v := nI (j + 1)) (k9 := 1) (lv' := [(3, .int (nI (j + 1))), (2, .int ((s_row ia a j) + (((ia 3) j) * (s_sgn (nI a) (nI j))))), (0, .ref (G.2.1 2)), (1, .int (nI a))]) (pc' := 30) C dX2_rowThroughTo_27 rfl (nI_1 j) (by decide) rfl rfl ?_
        refine z_goto (pc' := 4) C dX2_rowThroughTo_30 rfl ?_
        exact z_cast rfl rfl rfl rfl rfl (ih4 (j + 1) (by omega) (by omega))
  exact z_cast rfl rfl rfl rfl rfl (L4 (_ + 1) 0 (by omega) (Nat.lt_succ_self _))

set_option maxHeartbeats 4000000 in
set_option maxRecDepth 100000 in
theorem c_X2_goesBack (l : Launch) (G : Gv) (sc : Sc) (ia : Ia) (la : La) (n : Nat) (hn : sc 0 = nI n) (hN : n ≤ 32)    : Ct l yX2_goesBack wsX2_goesBack ({ frames := 3, cells := 0, slots := 0, locals := 64 }) G [.ref (G.2.1 2)] sc ia la (fI (bI (s_all (s_gb ia n) n)) sc ia la) := by
  have hU2 : ∀ w ∈ u_ws RX2 TX2 9, w ∈ wsX2_goesBack := fun w h => List.mem_cons_of_mem _ (List.mem_append_right _ h)
  refine z_of (maxL := 3) (own := RX2) [(0, .ref (G.2.1 2))] rfl (by decide +kernel) rfl (Nat.le_of_ble_eq_true rfl) rfl (fun Z C E => ?_)
  refine z_iconst (v := 0) (pc' := 1) C dX2_goesBack_0 rfl rfl ?_
  refine z_istore_n (lv' := [(1, .int 0), (0, .ref (G.2.1 2))]) (pc' := 2) C dX2_goesBack_1 rfl (by decide) rfl rfl ?_
  have L2 : ∀ (fuel : Nat) (i : Nat) (hi : i ≤ n) (ha : s_all (s_gb ia n) i = true), n - i < fuel → Z sc ia la [(1, .int (nI i)), (0, .ref (G.2.1 2))] 2 [] := by
    intro fuel
    induction fuel with
    | zero => intro i hi ha hm2; exact absurd hm2 (Nat.not_lt_zero _)
    | succ fuel ih2 =>
      intro i hi ha hm2
      refine z_iload_n (pc' := 3) C dX2_goesBack_2 rfl 0 rfl rfl ?_
      refine z_aload_n (pc' := 4) C dX2_goesBack_3 rfl 1 rfl rfl ?_
      refine z_get (pc' := 7) C hU2 2 (by decide) q_o2 rfl 0 (by decide) (by decide +kernel) (v := .int (sc 0)) rfl dX2_goesBack_4 rfl ?_
      refine z_cast (st' := [.int (nI n), .int (nI i)]) rfl rfl rfl rfl (congrArg (fun z => Value.int z :: [.int (nI i)]) hn) ?_
      refine z_icmpN_ge (a := i) (b := n) (pc' := 10) C 50 (by omega) (by omega) dX2_goesBack_7 rfl rfl (fun h_7 => ?_) (fun h_7 => ?_)
      · refine z_iconst (v := 1) (pc' := 51) C dX2_goesBack_50 rfl rfl ?_
        exact z_zret (E := E) rfl dX2_goesBack_51 (rfl) ⟨(congrArg (fun z => some (Value.int z)) (show _ = _ from (by first | rfl | (have e9 : i = n := (by omega); subst e9; rw [ha]; rfl)))), rfl, rfl, rfl⟩
      · refine z_aload_n (pc' := 11) C dX2_goesBack_10 rfl 1 rfl rfl ?_
        refine z_iload_n (pc' := 12) C dX2_goesBack_11 rfl 0 rfl rfl ?_
        refine z_cV (n := 1) (pc' := 15) (As := [.int (nI i)]) (rest := []) C 2 (c_X2_rowThroughTo l G sc ia la n hn hN i) gX2_goesBack_X2_rowThroughTo rfl rfl rfl rfl (by decide +kernel) (by decide) rfl (by decide) q_o2 rfl rfl dX2_goesBack_12 (Nat.le_of_ble_eq_true rfl) rfl (k_I ?_)
        show Z sc ia la [(1, .int (nI i)), (0, .ref (G.2.1 2))] 15 [.int (s_row ia i n)]
        refine z_istore_n (lv' := [(2, .int (s_row ia i n)), (1, .int (nI i)), (0, .ref (G.2.1 2))]) (pc' := 16) C dX2_goesBack_15 rfl (by decide) rfl rfl ?_
        refine z_iload_n (pc' := 17) C dX2_goesBack_16 rfl 0 rfl rfl ?_
        refine z_aload_n (pc' := 18) C dX2_goesBack_17 rfl 2 rfl rfl ?_
        refine z_get (pc' := 21) C hU2 2 (by decide) q_o2 rfl 0 (by decide) (by decide +kernel) (v := .int (sc 0)) rfl dX2_goesBack_18 rfl ?_
        refine z_cast (st' := [.int (nI n), .int (s_row ia i n)]) rfl rfl rfl rfl (congrArg (fun z => Value.int z :: [.int (s_row ia i n)]) hn) ?_
        refine z_iconst (v := 1) (pc' := 22) C dX2_goesBack_21 rfl rfl ?_
        refine z_isub (pc' := 23) C dX2_goesBack_22 rfl ?_
        refine z_iand (pc' := 24) C dX2_goesBack_23 rfl ?_
        refine z_if_ne (pc' := 27) C 42 dX2_goesBack_24 rfl rfl (fun h_24 => ?_) (fun h_24 => ?_)
        · refine z_iconst (v := 0) (pc' := 43) C dX2_goesBack_42 rfl rfl ?_
          exact z_zret (E := E) rfl dX2_goesBack_43 (rfl) ⟨(congrArg (fun z => some (Value.int z)) (show _ = _ from (by first | rfl | (rw [s_all_f (i := i) (by omega) (by simp [s_gb, hi, ha, h_7, h_24])]; rfl)))), rfl, rfl, rfl⟩
        · refine z_iload_n (pc' := 28) C dX2_goesBack_27 rfl 0 rfl rfl ?_
          refine z_mabs (pc' := 31) C (by decide +kernel) (by decide +kernel) (by decide +kernel) (by decide +kernel) (by decide) (Nat.le_of_ble_eq_true rfl) dX2_goesBack_28 rfl ?_
          show Z sc ia la [(2, .int (s_row ia i n)), (1, .int (nI i)), (0, .ref (G.2.1 2))] 31 [.int (s_abs (s_row ia i n))]
          refine z_sipush (v := 1000) (pc' := 34) C dX2_goesBack_31 rfl rfl ?_
          refine z_aload_n (pc' := 35) C dX2_goesBack_34 rfl 2 rfl rfl ?_
          refine z_get (pc' := 38) C hU2 2 (by decide) q_o2 rfl 0 (by decide) (by decide +kernel) (v := .int (sc 0)) rfl dX2_goesBack_35 rfl ?_
          refine z_cast (st' := [.int (nI n), .int 1000, .int (s_abs (s_row ia i n))]) rfl rfl rfl rfl (congrArg (fun z => Value.int z :: [.int 1000, .int (s_abs (s_row ia i n))]) hn) ?_
          refine z_imul (pc' := 39) C dX2_goesBack_38 rfl ?_
          refine z_cast (st' := [.int (nI (1000 * n)), .int (s_abs (s_row ia i n))]) rfl rfl rfl rfl (congrArg (fun z => Value.int z :: [.int (s_abs (s_row ia i n))]) (pk_mul _ _)) ?_
          refine z_icmp_le (pc' := 42) C 44 dX2_goesBack_39 rfl rfl (fun h_39 => ?_) (fun h_39 => ?_)
          · refine z_iinc (v := nI (i + 1)) (k9 := 1) (lv' := [(1, .int (nI (i + 1))), (2, .int (s_row ia i n)), (0, .ref (G.2.1 2))]) (pc' := 47) C dX2_goesBack_44 rfl (nI_1 i) (by decide) rfl rfl ?_
            refine z_goto (pc' := 2) C dX2_goesBack_47 rfl ?_
            refine z_sub (lv' := [(1, .int (nI (i + 1))), (0, .ref (G.2.1 2))]) C [0, 2] rfl ?_
            exact z_cast rfl rfl rfl rfl rfl (ih2 (i + 1) (by omega) (by exact s_all_s ha (by simp [s_gb, hi, ha, h_7, h_24, h_39])) (by omega))
          · refine z_iconst (v := 0) (pc' := 43) C dX2_goesBack_42 rfl rfl ?_
            exact z_zret (E := E) rfl dX2_goesBack_43 (rfl) ⟨(congrArg (fun z => some (Value.int z)) (show _ = _ from (by first | rfl | (rw [s_all_f (i := i) (by omega) (by simp [s_gb, hi, ha, h_7, h_24, h_39])]; rfl)))), rfl, rfl, rfl⟩
  exact z_cast rfl rfl rfl rfl rfl (L2 (_ + 1) 0 (by omega) (by rfl) (Nat.lt_succ_self _))

set_option maxHeartbeats 4000000 in
set_option maxRecDepth 100000 in
theorem c_X2_takeBack (l : Launch) (G : Gv) (sc : Sc) (ia : Ia) (la : La) (n : Nat) (hn : sc 0 = nI n) (hN : n ≤ 32)   (h1 : 1 ≤ n) : Ct l yX2_takeBack wsX2_takeBack ({ frames := 4, cells := 0, slots := 0, locals := 86 }) G [.ref (G.2.1 2)] sc ia la (fI (bI (s_all (s_gb ia n) n)) sc (if s_all (s_gb ia n) n = true then s_tb ia n n else ia) la) := by
  have hU2 : ∀ w ∈ u_ws RX2 TX2 9, w ∈ wsX2_takeBack := fun w h => List.mem_cons_of_mem _ (List.mem_append_right _ h)
  refine z_of (maxL := 2) (own := RX2) [(0, .ref (G.2.1 2))] rfl (by decide +kernel) rfl (Nat.le_of_ble_eq_true rfl) rfl (fun Z C E => ?_)
  refine z_aload_n (pc' := 1) C dX2_takeBack_0 rfl 0 rfl rfl ?_
  refine z_get (pc' := 4) C hU2 2 (by decide) q_o2 rfl 0 (by decide) (by decide +kernel) (v := .int (sc 0)) rfl dX2_takeBack_1 rfl ?_
  refine z_cast (st' := [.int (nI n)]) rfl rfl rfl rfl (congrArg (fun z => Value.int z :: []) hn) ?_
  refine z_iconst (v := 1) (pc' := 5) C dX2_takeBack_4 rfl rfl ?_
  refine z_icmpN_lt (a := n) (b := 1) (pc' := 8) C 15 (by omega) (by omega) dX2_takeBack_5 rfl rfl (fun h_5 => absurd h_5 (by omega)) (fun h_5 => ?_)
  refine z_aload_n (pc' := 9) C dX2_takeBack_8 rfl 0 rfl rfl ?_
  refine z_cV (n := 0) (pc' := 12) (As := []) (rest := []) C 2 (c_X2_goesBack l G sc ia la n hn hN) gX2_takeBack_X2_goesBack rfl rfl rfl rfl (by decide +kernel) (by decide) rfl (by decide) q_o2 rfl rfl dX2_takeBack_9 (Nat.le_of_ble_eq_true rfl) rfl (k_I ?_)
  show Z sc ia la [(0, .ref (G.2.1 2))] 12 [.int (bI (s_all (s_gb ia n) n))]
  refine z_ifB_ne (pc' := 15) C 17 dX2_takeBack_12 rfl rfl (fun h_12 => ?_) (fun h_12 => ?_)
  · refine z_iconst (v := 0) (pc' := 18) C dX2_takeBack_17 rfl rfl ?_
    refine z_istore_n (lv' := [(1, .int 0), (0, .ref (G.2.1 2))]) (pc' := 19) C dX2_takeBack_18 rfl (by decide) rfl rfl ?_
    have L19 : ∀ (fuel : Nat) (i : Nat) (hi : i ≤ n), n - i < fuel → Z sc (s_tb ia n i) la [(1, .int (nI i)), (0, .ref (G.2.1 2))] 19 [] := by
      intro fuel
      induction fuel with
      | zero => intro i hi hm19; exact absurd hm19 (Nat.not_lt_zero _)
      | succ fuel ih19 =>
        intro i hi hm19
        refine z_iload_n (pc' := 20) C dX2_takeBack_19 rfl 0 rfl rfl ?_
        refine z_aload_n (pc' := 21) C dX2_takeBack_20 rfl 1 rfl rfl ?_
        refine z_get (pc' := 24) C hU2 2 (by decide) q_o2 rfl 0 (by decide) (by decide +kernel) (v := .int (sc 0)) rfl dX2_takeBack_21 rfl ?_
        refine z_cast (st' := [.int (nI n), .int (nI i)]) rfl rfl rfl rfl (congrArg (fun z => Value.int z :: [.int (nI i)]) hn) ?_
        refine z_icmpN_ge (a := i) (b := n) (pc' := 27) C 48 (by omega) (by omega) dX2_takeBack_24 rfl rfl (fun h_24 => ?_) (fun h_24 => ?_)
        · refine z_iconst (v := 1) (pc' := 49) C dX2_takeBack_48 rfl rfl ?_
          exact z_zret (E := E) rfl dX2_takeBack_49 (rfl) ⟨(congrArg (fun z => some (Value.int z)) (show _ = _ from (by first | rfl | (rw [h_12]; rfl)))), rfl, (by first | rfl | (have e9 : i = n := (by omega); subst e9; rw [if_pos h_12])), rfl⟩
        · refine z_aload_n (pc' := 28) C dX2_takeBack_27 rfl 1 rfl rfl ?_
          refine z_iload_n (pc' := 29) C dX2_takeBack_28 rfl 0 rfl rfl ?_
          refine z_aload_n (pc' := 30) C dX2_takeBack_29 rfl 1 rfl rfl ?_
          refine z_iload_n (pc' := 31) C dX2_takeBack_30 rfl 0 rfl rfl ?_
          refine z_cV (n := 1) (pc' := 34) (As := [.int (nI i)]) (rest := [.int (nI i), .ref (G.2.1 2)]) C 2 (c_X2_rowThroughTo l G sc (s_tb ia n i) la n hn hN i) gX2_takeBack_X2_rowThroughTo rfl rfl rfl rfl (by decide +kernel) (by decide) rfl (by decide) q_o2 rfl rfl dX2_takeBack_31 (Nat.le_of_ble_eq_true rfl) rfl (k_I ?_)
          show Z sc (s_tb ia n i) la [(1, .int (nI i)), (0, .ref (G.2.1 2))] 34 [.int (s_row (s_tb ia n i) i n), .int (nI i), .ref (G.2.1 2)]
          refine z_aload_n (pc' := 35) C dX2_takeBack_34 rfl 1 rfl rfl ?_
          refine z_get (pc' := 38) C hU2 2 (by decide) q_o2 rfl 0 (by decide) (by decide +kernel) (v := .int (sc 0)) rfl dX2_takeBack_35 rfl ?_
          refine z_cast (st' := [.int (nI n), .int (s_row (s_tb ia n i) i n), .int (nI i), .ref (G.2.1 2)]) rfl rfl rfl rfl (congrArg (fun z => Value.int z :: [.int (s_row (s_tb ia n i) i n), .int (nI i), .ref (G.2.1 2)]) hn) ?_
          refine z_idiv (pc' := 39) C dX2_takeBack_38 (nI_ne0 (by omega) (by omega)) rfl ?_
          refine z_cV (n := 2) (pc' := 42) (As := [.int (nI i), .int ((s_row (s_tb ia n i) i n) / (nI n))]) (rest := []) C 2 (c_X2_setNear l G sc (s_tb ia n i) la n hn hN i (by omega) ((s_row (s_tb ia n i) i n) / (nI n))) gX2_takeBack_X2_setNear rfl rfl rfl rfl (by decide +kernel) (by decide) rfl (by decide) q_o2 rfl rfl dX2_takeBack_39 (Nat.le_of_ble_eq_true rfl) rfl (k_V ?_)
          show Z sc (s_set (s_tb ia n i) n i ((s_row (s_tb ia n i) i n) / (nI n))) la [(1, .int (nI i)), (0, .ref (G.2.1 2))] 42 []
          refine z_iinc (v := nI (i + 1)) (k9 := 0) (lv' := [(1, .int (nI (i + 1))), (0, .ref (G.2.1 2))]) (pc' := 45) C dX2_takeBack_42 rfl (nI_1 i) (by decide) rfl rfl ?_
          refine z_goto (pc' := 19) C dX2_takeBack_45 rfl ?_
          exact z_cast rfl rfl rfl rfl rfl (ih19 (i + 1) (by omega) (by omega))
    exact z_cast rfl rfl rfl rfl rfl (L19 (_ + 1) 0 (by omega) (Nat.lt_succ_self _))
  · refine z_iconst (v := 0) (pc' := 16) C dX2_takeBack_15 rfl rfl ?_
    exact z_zret (E := E) rfl dX2_takeBack_16 (rfl) ⟨(congrArg (fun z => some (Value.int z)) (show _ = _ from (by first | rfl | (rw [h_12]; rfl)))), rfl, (by first | rfl | (rw [h_12]; rfl)), rfl⟩

set_option maxHeartbeats 4000000 in
set_option maxRecDepth 100000 in
theorem c_X2_isWholeWithoutProbe (l : Launch) (G : Gv) (sc : Sc) (ia : Ia) (la : La) (n : Nat) (hn : sc 0 = nI n) (hN : n ≤ 32)    : Ct l yX2_isWholeWithoutProbe wsX2_isWholeWithoutProbe ({ frames := 0, cells := 0, slots := 0, locals := 0 }) G [.ref (G.2.1 2)] sc ia la (fI (bI (s_all (s_wp ia) n)) sc ia la) := by
  have hU2 : ∀ w ∈ u_ws RX2 TX2 9, w ∈ wsX2_isWholeWithoutProbe := fun w h => List.mem_cons_of_mem _ (List.mem_append_right _ h)
  refine z_of (maxL := 2) (own := RX2) [(0, .ref (G.2.1 2))] rfl (by decide +kernel) rfl (Nat.le_of_ble_eq_true rfl) rfl (fun Z C E => ?_)
  refine z_iconst (v := 0) (pc' := 1) C dX2_isWholeWithoutProbe_0 rfl rfl ?_
  refine z_istore_n (lv' := [(1, .int 0), (0, .ref (G.2.1 2))]) (pc' := 2) C dX2_isWholeWithoutProbe_1 rfl (by decide) rfl rfl ?_
  have L2 : ∀ (fuel : Nat) (i : Nat) (hi : i ≤ n) (ha : s_all (s_wp ia) i = true), n - i < fuel → Z sc ia la [(1, .int (nI i)), (0, .ref (G.2.1 2))] 2 [] := by
    intro fuel
    induction fuel with
    | zero => intro i hi ha hm2; exact absurd hm2 (Nat.not_lt_zero _)
    | succ fuel ih2 =>
      intro i hi ha hm2
      refine z_iload_n (pc' := 3) C dX2_isWholeWithoutProbe_2 rfl 0 rfl rfl ?_
      refine z_aload_n (pc' := 4) C dX2_isWholeWithoutProbe_3 rfl 1 rfl rfl ?_
      refine z_get (pc' := 7) C hU2 2 (by decide) q_o2 rfl 0 (by decide) (by decide +kernel) (v := .int (sc 0)) rfl dX2_isWholeWithoutProbe_4 rfl ?_
      refine z_cast (st' := [.int (nI n), .int (nI i)]) rfl rfl rfl rfl (congrArg (fun z => Value.int z :: [.int (nI i)]) hn) ?_
      refine z_icmpN_ge (a := i) (b := n) (pc' := 10) C 43 (by omega) (by omega) dX2_isWholeWithoutProbe_7 rfl rfl (fun h_7 => ?_) (fun h_7 => ?_)
      · refine z_iconst (v := 1) (pc' := 44) C dX2_isWholeWithoutProbe_43 rfl rfl ?_
        exact z_zret (E := E) rfl dX2_isWholeWithoutProbe_44 (rfl) ⟨(congrArg (fun z => some (Value.int z)) (show _ = _ from (by first | rfl | (have e9 : i = n := (by omega); subst e9; rw [ha]; rfl)))), rfl, rfl, rfl⟩
      · refine z_aload_n (pc' := 11) C dX2_isWholeWithoutProbe_10 rfl 1 rfl rfl ?_
        refine z_get (pc' := 14) C hU2 2 (by decide) q_o2 rfl 3 (by decide) (by decide +kernel) (v := .ref (G.2.1 9)) rfl dX2_isWholeWithoutProbe_11 rfl ?_
        refine z_iload_n (pc' := 15) C dX2_isWholeWithoutProbe_14 rfl 0 rfl rfl ?_
        refine z_iald (pc' := 16) C 9 (by decide) (N := 32) (i := i) (f := ia 2) q_i2 (by omega) (by decide) dX2_isWholeWithoutProbe_15 rfl ?_
        refine z_if_eq (pc' := 19) C 35 dX2_isWholeWithoutProbe_16 rfl rfl (fun h_16 => ?_) (fun h_16 => ?_)
        · refine z_iconst (v := 0) (pc' := 36) C dX2_isWholeWithoutProbe_35 rfl rfl ?_
          exact z_zret (E := E) rfl dX2_isWholeWithoutProbe_36 (rfl) ⟨(congrArg (fun z => some (Value.int z)) (show _ = _ from (by first | rfl | (rw [s_all_f (i := i) (by omega) (by simp [s_wp, hi, ha, h_7, h_16])]; rfl)))), rfl, rfl, rfl⟩
        · refine z_aload_n (pc' := 20) C dX2_isWholeWithoutProbe_19 rfl 1 rfl rfl ?_
          refine z_get (pc' := 23) C hU2 2 (by decide) q_o2 rfl 4 (by decide) (by decide +kernel) (v := .ref (G.2.1 10)) rfl dX2_isWholeWithoutProbe_20 rfl ?_
          refine z_iload_n (pc' := 24) C dX2_isWholeWithoutProbe_23 rfl 0 rfl rfl ?_
          refine z_iald (pc' := 25) C 10 (by decide) (N := 32) (i := i) (f := ia 3) q_i3 (by omega) (by decide) dX2_isWholeWithoutProbe_24 rfl ?_
          refine z_aload_n (pc' := 26) C dX2_isWholeWithoutProbe_25 rfl 1 rfl rfl ?_
          refine z_get (pc' := 29) C hU2 2 (by decide) q_o2 rfl 3 (by decide) (by decide +kernel) (v := .ref (G.2.1 9)) rfl dX2_isWholeWithoutProbe_26 rfl ?_
          refine z_iload_n (pc' := 30) C dX2_isWholeWithoutProbe_29 rfl 0 rfl rfl ?_
          refine z_iald (pc' := 31) C 9 (by decide) (N := 32) (i := i) (f := ia 2) q_i2 (by omega) (by decide) dX2_isWholeWithoutProbe_30 rfl ?_
          refine z_irem (pc' := 32) C dX2_isWholeWithoutProbe_31 (h_16) rfl ?_
          refine z_if_eq (pc' := 35) C 37 dX2_isWholeWithoutProbe_32 rfl rfl (fun h_32 => ?_) (fun h_32 => ?_)
          · refine z_iinc (v := nI (i + 1)) (k9 := 0) (lv' := [(1, .int (nI (i + 1))), (0, .ref (G.2.1 2))]) (pc' := 40) C dX2_isWholeWithoutProbe_37 rfl (nI_1 i) (by decide) rfl rfl ?_
            refine z_goto (pc' := 2) C dX2_isWholeWithoutProbe_40 rfl ?_
            exact z_cast rfl rfl rfl rfl rfl (ih2 (i + 1) (by omega) (by exact s_all_s ha (by simp [s_wp, hi, ha, h_7, h_16, h_32])) (by omega))
          · refine z_iconst (v := 0) (pc' := 36) C dX2_isWholeWithoutProbe_35 rfl rfl ?_
            exact z_zret (E := E) rfl dX2_isWholeWithoutProbe_36 (rfl) ⟨(congrArg (fun z => some (Value.int z)) (show _ = _ from (by first | rfl | (rw [s_all_f (i := i) (by omega) (by simp [s_wp, hi, ha, h_7, h_16, h_32])]; rfl)))), rfl, rfl, rfl⟩
  exact z_cast rfl rfl rfl rfl rfl (L2 (_ + 1) 0 (by omega) (by rfl) (Nat.lt_succ_self _))

set_option maxHeartbeats 4000000 in
set_option maxRecDepth 100000 in
theorem c_X2_takeProbeOff (l : Launch) (G : Gv) (sc : Sc) (ia : Ia) (la : La) (n : Nat) (hn : sc 0 = nI n) (hN : n ≤ 32)    : Ct l yX2_takeProbeOff wsX2_takeProbeOff ({ frames := 1, cells := 0, slots := 0, locals := 21 }) G [.ref (G.2.1 2)] sc ia la (fI (bI (s_all (s_wp ia) n)) sc (if s_all (s_wp ia) n = true then va_up ia 3 (s_po ia n) else ia) la) := by
  have hU2 : ∀ w ∈ u_ws RX2 TX2 9, w ∈ wsX2_takeProbeOff := fun w h => List.mem_cons_of_mem _ (List.mem_append_right _ h)
  refine z_of (maxL := 2) (own := RX2) [(0, .ref (G.2.1 2))] rfl (by decide +kernel) rfl (Nat.le_of_ble_eq_true rfl) rfl (fun Z C E => ?_)
  refine z_aload_n (pc' := 1) C dX2_takeProbeOff_0 rfl 0 rfl rfl ?_
  refine z_cV (n := 0) (pc' := 4) (As := []) (rest := []) C 2 (c_X2_isWholeWithoutProbe l G sc ia la n hn hN) gX2_takeProbeOff_X2_isWholeWithoutProbe rfl rfl rfl rfl (by decide +kernel) (by decide) rfl (by decide) q_o2 rfl rfl dX2_takeProbeOff_1 (Nat.le_of_ble_eq_true rfl) rfl (k_I ?_)
  show Z sc ia la [(0, .ref (G.2.1 2))] 4 [.int (bI (s_all (s_wp ia) n))]
  refine z_ifB_ne (pc' := 7) C 9 dX2_takeProbeOff_4 rfl rfl (fun h_4 => ?_) (fun h_4 => ?_)
  · refine z_iconst (v := 0) (pc' := 10) C dX2_takeProbeOff_9 rfl rfl ?_
    refine z_istore_n (lv' := [(1, .int 0), (0, .ref (G.2.1 2))]) (pc' := 11) C dX2_takeProbeOff_10 rfl (by decide) rfl rfl ?_
    have L11 : ∀ (fuel : Nat) (i : Nat) (hi : i ≤ n), n - i < fuel → Z sc (va_up ia 3 (s_po ia i)) la [(1, .int (nI i)), (0, .ref (G.2.1 2))] 11 [] := by
      intro fuel
      induction fuel with
      | zero => intro i hi hm11; exact absurd hm11 (Nat.not_lt_zero _)
      | succ fuel ih11 =>
        intro i hi hm11
        refine z_iload_n (pc' := 12) C dX2_takeProbeOff_11 rfl 0 rfl rfl ?_
        refine z_aload_n (pc' := 13) C dX2_takeProbeOff_12 rfl 1 rfl rfl ?_
        refine z_get (pc' := 16) C hU2 2 (by decide) q_o2 rfl 0 (by decide) (by decide +kernel) (v := .int (sc 0)) rfl dX2_takeProbeOff_13 rfl ?_
        refine z_cast (st' := [.int (nI n), .int (nI i)]) rfl rfl rfl rfl (congrArg (fun z => Value.int z :: [.int (nI i)]) hn) ?_
        refine z_icmpN_ge (a := i) (b := n) (pc' := 19) C 53 (by omega) (by omega) dX2_takeProbeOff_16 rfl rfl (fun h_16 => ?_) (fun h_16 => ?_)
        · refine z_iconst (v := 1) (pc' := 54) C dX2_takeProbeOff_53 rfl rfl ?_
          exact z_zret (E := E) rfl dX2_takeProbeOff_54 (rfl) ⟨(congrArg (fun z => some (Value.int z)) (show _ = _ from (by first | rfl | (rw [h_4]; rfl)))), rfl, (by first | rfl | (have e9 : i = n := (by omega); subst e9; rw [if_pos h_4])), rfl⟩
        · refine z_aload_n (pc' := 20) C dX2_takeProbeOff_19 rfl 1 rfl rfl ?_
          refine z_get (pc' := 23) C hU2 2 (by decide) q_o2 rfl 3 (by decide) (by decide +kernel) (v := .ref (G.2.1 9)) rfl dX2_takeProbeOff_20 rfl ?_
          refine z_iload_n (pc' := 24) C dX2_takeProbeOff_23 rfl 0 rfl rfl ?_
          refine z_iald (pc' := 25) C 9 (by decide) (N := 32) (i := i) (f := ia 2) q_i2 (by omega) (by decide) dX2_takeProbeOff_24 rfl ?_
          refine z_if_eq (pc' := 28) C 47 dX2_takeProbeOff_25 rfl rfl (fun h_25 => ?_) (fun h_25 => ?_)
          · refine z_iinc (v := nI (i + 1)) (k9 := 0) (lv' := [(1, .int (nI (i + 1))), (0, .ref (G.2.1 2))]) (pc' := 50) C dX2_takeProbeOff_47 rfl (nI_1 i) (by decide) rfl rfl ?_
            refine z_goto (pc' := 11) C dX2_takeProbeOff_50 rfl ?_
            exact z_cast rfl (by first | rfl | (simp [s_po, h_25])) rfl rfl rfl (ih11 (i + 1) (by omega) (by omega))
          · refine z_aload_n (pc' := 29) C dX2_takeProbeOff_28 rfl 1 rfl rfl ?_
            refine z_get (pc' := 32) C hU2 2 (by decide) q_o2 rfl 4 (by decide) (by decide +kernel) (v := .ref (G.2.1 10)) rfl dX2_takeProbeOff_29 rfl ?_
            refine z_iload_n (pc' := 33) C dX2_takeProbeOff_32 rfl 0 rfl rfl ?_
            refine z_aload_n (pc' := 34) C dX2_takeProbeOff_33 rfl 1 rfl rfl ?_
            refine z_get (pc' := 37) C hU2 2 (by decide) q_o2 rfl 4 (by decide) (by decide +kernel) (v := .ref (G.2.1 10)) rfl dX2_takeProbeOff_34 rfl ?_
            refine z_iload_n (pc' := 38) C dX2_takeProbeOff_37 rfl 0 rfl rfl ?_
            refine z_iald (pc' := 39) C 10 (by decide) (N := 32) (i := i) (f := s_po ia i) q_i3 (by omega) (by decide) dX2_takeProbeOff_38 rfl ?_
            refine z_aload_n (pc' := 40) C dX2_takeProbeOff_39 rfl 1 rfl rfl ?_
            refine z_get (pc' := 43) C hU2 2 (by decide) q_o2 rfl 3 (by decide) (by decide +kernel) (v := .ref (G.2.1 9)) rfl dX2_takeProbeOff_40 rfl ?_
            refine z_iload_n (pc' := 44) C dX2_takeProbeOff_43 rfl 0 rfl rfl ?_
            refine z_iald (pc' := 45) C 9 (by decide) (N := 32) (i := i) (f := ia 2) q_i2 (by omega) (by decide) dX2_takeProbeOff_44 rfl ?_
            refine z_idiv (pc' := 46) C dX2_takeProbeOff_45 (h_25) rfl ?_
            refine z_iast (pc' := 47) C 10 (by decide) (N := 32) (i := i) (f := s_po ia i) q_i3 (by omega) (by decide) (q_uu3 _ _) dX2_takeProbeOff_46 rfl ?_
            refine z_iinc (v := nI (i + 1)) (k9 := 0) (lv' := [(1, .int (nI (i + 1))), (0, .ref (G.2.1 2))]) (pc' := 50) C dX2_takeProbeOff_47 rfl (nI_1 i) (by decide) rfl rfl ?_
            refine z_goto (pc' := 11) C dX2_takeProbeOff_50 rfl ?_
            exact z_cast rfl (by first | rfl | (simp [s_po, h_25])) rfl rfl rfl (ih11 (i + 1) (by omega) (by omega))
    exact z_cast rfl (by first | rfl | (exact va_same _ 3)) rfl rfl rfl (L11 (_ + 1) 0 (by omega) (Nat.lt_succ_self _))
  · refine z_iconst (v := 0) (pc' := 8) C dX2_takeProbeOff_7 rfl rfl ?_
    exact z_zret (E := E) rfl dX2_takeProbeOff_8 (rfl) ⟨(congrArg (fun z => some (Value.int z)) (show _ = _ from (by first | rfl | (rw [h_4]; rfl)))), rfl, (by first | rfl | (rw [h_4]; rfl)), rfl⟩

set_option maxHeartbeats 4000000 in
set_option maxRecDepth 100000 in
theorem c_X2_sumThrough (l : Launch) (G : Gv) (sc : Sc) (ia : Ia) (la : La) (n : Nat) (hn : sc 0 = nI n) (hN : n ≤ 32) (i m v : Int32)   : Ct l yX2_sumThrough wsX2_sumThrough ({ frames := 2, cells := 0, slots := 0, locals := 41 }) G [.ref (G.2.1 2), .int i, .int m, .int v] sc ia la (fI (s_th ia i m v n) sc ia la) := by
  have hU2 : ∀ w ∈ u_ws RX2 TX2 9, w ∈ wsX2_sumThrough := fun w h => List.mem_cons_of_mem _ (List.mem_append_right _ h)
  refine z_of (maxL := 6) (own := RX2) [(0, .ref (G.2.1 2)), (1, .int i), (2, .int m), (3, .int v)] rfl (by decide +kernel) rfl (Nat.le_of_ble_eq_true rfl) rfl (fun Z C E => ?_)
  refine z_iconst (v := 0) (pc' := 1) C dX2_sumThrough_0 rfl rfl ?_
  refine z_istore (lv' := [(4, .int 0), (0, .ref (G.2.1 2)), (1, .int i), (2, .int m), (3, .int v)]) (pc' := 3) C dX2_sumThrough_1 (by decide) rfl rfl ?_
  refine z_iconst (v := 0) (pc' := 4) C dX2_sumThrough_3 rfl rfl ?_
  refine z_istore (lv' := [(5, .int 0), (4, .int 0), (0, .ref (G.2.1 2)), (1, .int i), (2, .int m), (3, .int v)]) (pc' := 6) C dX2_sumThrough_4 (by decide) rfl rfl ?_
  have L6 : ∀ (fuel : Nat) (j : Nat) (hj : j ≤ n), n - j < fuel → Z sc ia la [(5, .int (nI j)), (4, .int (s_th ia i m v j)), (0, .ref (G.2.1 2)), (1, .int i), (2, .int m), (3, .int v)] 6 [] := by
    intro fuel
    induction fuel with
    | zero => intro j hj hm6; exact absurd hm6 (Nat.not_lt_zero _)
    | succ fuel ih6 =>
      intro j hj hm6
      refine z_iload (pc' := 8) C dX2_sumThrough_6 0 rfl rfl ?_
      refine z_aload_n (pc' := 9) C dX2_sumThrough_8 rfl 2 rfl rfl ?_
      refine z_get (pc' := 12) C hU2 2 (by decide) q_o2 rfl 0 (by decide) (by decide +kernel) (v := .int (sc 0)) rfl dX2_sumThrough_9 rfl ?_
      refine z_cast (st' := [.int (nI n), .int (nI j)]) rfl rfl rfl rfl (congrArg (fun z => Value.int z :: [.int (nI j)]) hn) ?_
      refine z_icmpN_ge (a := j) (b := n) (pc' := 15) C 50 (by omega) (by omega) dX2_sumThrough_12 rfl rfl (fun h_12 => ?_) (fun h_12 => ?_)
      · refine z_iload (pc' := 52) C dX2_sumThrough_50 1 rfl rfl ?_
        exact z_iret (E := E) rfl dX2_sumThrough_52 ⟨(congrArg (fun z => some (Value.int z)) (show _ = _ from (by first | rfl | (have e9 : j = n := (by omega); subst e9; rfl)))), rfl, rfl, rfl⟩
      · refine z_iload (pc' := 17) C dX2_sumThrough_15 0 rfl rfl ?_
        refine z_iload_n (pc' := 18) C dX2_sumThrough_17 rfl 4 rfl rfl ?_
        refine z_iload_n (pc' := 19) C dX2_sumThrough_18 rfl 5 rfl rfl ?_
        refine z_cN (n := 3) (pc' := 22) (As := [.int (nI j), .int m, .int v]) (rest := []) C (c_X5_passes l G sc ia la (nI j) m v) gX2_sumThrough_X5_passes_n70 rfl rfl rfl (by decide +kernel) (by decide +kernel) (by decide +kernel) (by decide +kernel) (by decide) rfl rfl dX2_sumThrough_19 (Nat.le_of_ble_eq_true rfl) rfl (k_I ?_)
        show Z sc ia la [(5, .int (nI j)), (4, .int (s_th ia i m v j)), (0, .ref (G.2.1 2)), (1, .int i), (2, .int m), (3, .int v)] 22 [.int (bI (s_pass (nI j) m v))]
        refine z_ifB_eq (pc' := 25) C 44 dX2_sumThrough_22 rfl rfl (fun h_22 => ?_) (fun h_22 => ?_)
        · refine z_iinc (v := nI (j + 1)) (k9 := 0) (lv' := [(5, .int (nI (j + 1))), (4, .int (s_th ia i m v j)), (0, .ref (G.2.1 2)), (1, .int i), (2, .int m), (3, .int v)]) (pc' := 47) C dX2_sumThrough_44 rfl (nI_1 j) (by decide) rfl rfl ?_
          refine z_goto (pc' := 6) C dX2_sumThrough_47 rfl ?_
          exact z_cast rfl rfl rfl (by first | rfl | (simp [s_th, h_22])) rfl (ih6 (j + 1) (by omega) (by omega))
        · refine z_iload (pc' := 27) C dX2_sumThrough_25 1 rfl rfl ?_
          refine z_aload_n (pc' := 28) C dX2_sumThrough_27 rfl 2 rfl rfl ?_
          refine z_get (pc' := 31) C hU2 2 (by decide) q_o2 rfl 2 (by decide) (by decide +kernel) (v := .ref (G.2.1 8)) rfl dX2_sumThrough_28 rfl ?_
          refine z_iload (pc' := 33) C dX2_sumThrough_31 0 rfl rfl ?_
          refine z_iald (pc' := 34) C 8 (by decide) (N := 32) (i := j) (f := ia 1) q_i1 (by omega) (by decide) dX2_sumThrough_33 rfl ?_
          refine z_iload_n (pc' := 35) C dX2_sumThrough_34 rfl 3 rfl rfl ?_
          refine z_iload (pc' := 37) C dX2_sumThrough_35 0 rfl rfl ?_
          refine z_cN (n := 2) (pc' := 40) (As := [.int i, .int (nI j)]) (rest := [.int ((ia 1) j), .int (s_th ia i m v j)]) C (c_X5_signOf l G sc ia la i (nI j)) gX2_sumThrough_X5_signOf_n46 rfl rfl rfl (by decide +kernel) (by decide +kernel) (by decide +kernel) (by decide +kernel) (by decide) rfl rfl dX2_sumThrough_37 (Nat.le_of_ble_eq_true rfl) rfl (k_I ?_)
          show Z sc ia la [(5, .int (nI j)), (4, .int (s_th ia i m v j)), (0, .ref (G.2.1 2)), (1, .int i), (2, .int m), (3, .int v)] 40 [.int (s_sgn i (nI j)), .int ((ia 1) j), .int (s_th ia i m v j)]
          refine z_imul (pc' := 41) C dX2_sumThrough_40 rfl ?_
          refine z_iadd (pc' := 42) C dX2_sumThrough_41 rfl ?_
          refine z_istore (lv' := [(4, .int ((s_th ia i m v j) + (((ia 1) j) * (s_sgn i (nI j))))), (5, .int (nI j)), (0, .ref (G.2.1 2)), (1, .int i), (2, .int m), (3, .int v)]) (pc' := 44) C dX2_sumThrough_42 (by decide) rfl rfl ?_
          refine z_iinc (v := nI (j + 1)) (k9 := 1) (lv' := [(5, .int (nI (j + 1))), (4, .int ((s_th ia i m v j) + (((ia 1) j) * (s_sgn i (nI j))))), (0, .ref (G.2.1 2)), (1, .int i), (2, .int m), (3, .int v)]) (pc' := 47) C dX2_sumThrough_44 rfl (nI_1 j) (by decide) rfl rfl ?_
          refine z_goto (pc' := 6) C dX2_sumThrough_47 rfl ?_
          exact z_cast rfl rfl rfl (by first | rfl | (simp [s_th, h_22])) rfl (ih6 (j + 1) (by omega) (by omega))
  exact z_cast rfl rfl rfl rfl rfl (L6 (_ + 1) 0 (by omega) (Nat.lt_succ_self _))

set_option maxHeartbeats 4000000 in
set_option maxRecDepth 100000 in
theorem c_X2_squaresThrough (l : Launch) (G : Gv) (sc : Sc) (ia : Ia) (la : La) (n : Nat) (hn : sc 0 = nI n) (hN : n ≤ 32) (m v : Int32)   : Ct l yX2_squaresThrough wsX2_squaresThrough ({ frames := 1, cells := 0, slots := 0, locals := 22 }) G [.ref (G.2.1 2), .int m, .int v] sc ia la (fL (s_sq ia m v n) sc ia la) := by
  have hU2 : ∀ w ∈ u_ws RX2 TX2 9, w ∈ wsX2_squaresThrough := fun w h => List.mem_cons_of_mem _ (List.mem_append_right _ h)
  refine z_of (maxL := 6) (own := RX2) [(0, .ref (G.2.1 2)), (1, .int m), (2, .int v)] rfl (by decide +kernel) rfl (Nat.le_of_ble_eq_true rfl) rfl (fun Z C E => ?_)
  refine z_lconst (v := 0) (pc' := 1) C dX2_squaresThrough_0 rfl rfl ?_
  refine z_lstore_n (lv' := [(3, .long 0), (0, .ref (G.2.1 2)), (1, .int m), (2, .int v)]) (pc' := 2) C dX2_squaresThrough_1 rfl (by decide) rfl rfl ?_
  refine z_iconst (v := 0) (pc' := 3) C dX2_squaresThrough_2 rfl rfl ?_
  refine z_istore (lv' := [(5, .int 0), (3, .long 0), (0, .ref (G.2.1 2)), (1, .int m), (2, .int v)]) (pc' := 5) C dX2_squaresThrough_3 (by decide) rfl rfl ?_
  have L5 : ∀ (fuel : Nat) (j : Nat) (hj : j ≤ n), n - j < fuel → Z sc ia la [(5, .int (nI j)), (3, .long (s_sq ia m v j)), (0, .ref (G.2.1 2)), (1, .int m), (2, .int v)] 5 [] := by
    intro fuel
    induction fuel with
    | zero => intro j hj hm5; exact absurd hm5 (Nat.not_lt_zero _)
    | succ fuel ih5 =>
      intro j hj hm5
      refine z_iload (pc' := 7) C dX2_squaresThrough_5 0 rfl rfl ?_
      refine z_aload_n (pc' := 8) C dX2_squaresThrough_7 rfl 2 rfl rfl ?_
      refine z_get (pc' := 11) C hU2 2 (by decide) q_o2 rfl 0 (by decide) (by decide +kernel) (v := .int (sc 0)) rfl dX2_squaresThrough_8 rfl ?_
      refine z_cast (st' := [.int (nI n), .int (nI j)]) rfl rfl rfl rfl (congrArg (fun z => Value.int z :: [.int (nI j)]) hn) ?_
      refine z_icmpN_ge (a := j) (b := n) (pc' := 14) C 50 (by omega) (by omega) dX2_squaresThrough_11 rfl rfl (fun h_11 => ?_) (fun h_11 => ?_)
      · refine z_lload_n (pc' := 51) C dX2_squaresThrough_50 rfl 1 rfl rfl ?_
        exact z_lret (E := E) rfl dX2_squaresThrough_51 ⟨(congrArg (fun z => some (Value.long z)) (show _ = _ from (by first | rfl | (have e9 : j = n := (by omega); subst e9; rfl)))), rfl, rfl, rfl⟩
      · refine z_iload (pc' := 16) C dX2_squaresThrough_14 0 rfl rfl ?_
        refine z_iload_n (pc' := 17) C dX2_squaresThrough_16 rfl 3 rfl rfl ?_
        refine z_iload_n (pc' := 18) C dX2_squaresThrough_17 rfl 4 rfl rfl ?_
        refine z_cN (n := 3) (pc' := 21) (As := [.int (nI j), .int m, .int v]) (rest := []) C (c_X5_passes l G sc ia la (nI j) m v) gX2_squaresThrough_X5_passes_n70 rfl rfl rfl (by decide +kernel) (by decide +kernel) (by decide +kernel) (by decide +kernel) (by decide) rfl rfl dX2_squaresThrough_18 (Nat.le_of_ble_eq_true rfl) rfl (k_I ?_)
        show Z sc ia la [(5, .int (nI j)), (3, .long (s_sq ia m v j)), (0, .ref (G.2.1 2)), (1, .int m), (2, .int v)] 21 [.int (bI (s_pass (nI j) m v))]
        refine z_ifB_eq (pc' := 24) C 44 dX2_squaresThrough_21 rfl rfl (fun h_21 => ?_) (fun h_21 => ?_)
        · refine z_iinc (v := nI (j + 1)) (k9 := 0) (lv' := [(5, .int (nI (j + 1))), (3, .long (s_sq ia m v j)), (0, .ref (G.2.1 2)), (1, .int m), (2, .int v)]) (pc' := 47) C dX2_squaresThrough_44 rfl (nI_1 j) (by decide) rfl rfl ?_
          refine z_goto (pc' := 5) C dX2_squaresThrough_47 rfl ?_
          exact z_cast rfl rfl rfl (by first | rfl | (simp [s_sq, h_21])) rfl (ih5 (j + 1) (by omega) (by omega))
        · refine z_lload_n (pc' := 25) C dX2_squaresThrough_24 rfl 1 rfl rfl ?_
          refine z_aload_n (pc' := 26) C dX2_squaresThrough_25 rfl 2 rfl rfl ?_
          refine z_get (pc' := 29) C hU2 2 (by decide) q_o2 rfl 2 (by decide) (by decide +kernel) (v := .ref (G.2.1 8)) rfl dX2_squaresThrough_26 rfl ?_
          refine z_iload (pc' := 31) C dX2_squaresThrough_29 0 rfl rfl ?_
          refine z_iald (pc' := 32) C 8 (by decide) (N := 32) (i := j) (f := ia 1) q_i1 (by omega) (by decide) dX2_squaresThrough_31 rfl ?_
          refine z_i2l (pc' := 33) C dX2_squaresThrough_32 rfl ?_
          refine z_aload_n (pc' := 34) C dX2_squaresThrough_33 rfl 2 rfl rfl ?_
          refine z_get (pc' := 37) C hU2 2 (by decide) q_o2 rfl 2 (by decide) (by decide +kernel) (v := .ref (G.2.1 8)) rfl dX2_squaresThrough_34 rfl ?_
          refine z_iload (pc' := 39) C dX2_squaresThrough_37 0 rfl rfl ?_
          refine z_iald (pc' := 40) C 8 (by decide) (N := 32) (i := j) (f := ia 1) q_i1 (by omega) (by decide) dX2_squaresThrough_39 rfl ?_
          refine z_i2l (pc' := 41) C dX2_squaresThrough_40 rfl ?_
          refine z_lmul (pc' := 42) C dX2_squaresThrough_41 rfl ?_
          refine z_ladd (pc' := 43) C dX2_squaresThrough_42 rfl ?_
          refine z_lstore_n (lv' := [(3, .long ((s_sq ia m v j) + ((((ia 1) j).toInt64) * (((ia 1) j).toInt64)))), (5, .int (nI j)), (0, .ref (G.2.1 2)), (1, .int m), (2, .int v)]) (pc' := 44) C dX2_squaresThrough_43 rfl (by decide) rfl rfl ?_
          refine z_iinc (v := nI (j + 1)) (k9 := 1) (lv' := [(5, .int (nI (j + 1))), (3, .long ((s_sq ia m v j) + ((((ia 1) j).toInt64) * (((ia 1) j).toInt64)))), (0, .ref (G.2.1 2)), (1, .int m), (2, .int v)]) (pc' := 47) C dX2_squaresThrough_44 rfl (nI_1 j) (by decide) rfl rfl ?_
          refine z_goto (pc' := 5) C dX2_squaresThrough_47 rfl ?_
          exact z_cast rfl rfl rfl (by first | rfl | (simp [s_sq, h_21])) rfl (ih5 (j + 1) (by omega) (by omega))
  exact z_cast rfl rfl rfl rfl rfl (L5 (_ + 1) 0 (by omega) (Nat.lt_succ_self _))

set_option maxHeartbeats 4000000 in
set_option maxRecDepth 100000 in
theorem c_X2_countTrue6 (l : Launch) (G : Gv) (sc : Sc) (ia : Ia) (la : La)   : Ct l yX2_countTrue wsX2_countTrue ({ frames := 0, cells := 0, slots := 0, locals := 0 }) G [.ref (G.2.1 13)] sc ia la (fI (s_ct (ia 6) 32) sc ia la) := by
  refine z_of (maxL := 6) (own := RX2) [(0, .ref (G.2.1 13))] rfl (by decide +kernel) rfl (Nat.le_of_ble_eq_true rfl) rfl (fun Z C E => ?_)
  refine z_iconst (v := 0) (pc' := 1) C dX2_countTrue_0 rfl rfl ?_
  refine z_istore_n (lv' := [(1, .int 0), (0, .ref (G.2.1 13))]) (pc' := 2) C dX2_countTrue_1 rfl (by decide) rfl rfl ?_
  refine z_aload_n (pc' := 3) C dX2_countTrue_2 rfl 1 rfl rfl ?_
  refine z_astore_n (lv' := [(2, .ref (G.2.1 13)), (1, .int 0), (0, .ref (G.2.1 13))]) (pc' := 4) C dX2_countTrue_3 rfl (by decide) rfl rfl ?_
  refine z_aload_n (pc' := 5) C dX2_countTrue_4 rfl 0 rfl rfl ?_
  refine z_alen (pc' := 6) C 13 (by decide) (t0 := 2) rfl q_i6 dX2_countTrue_5 rfl ?_
  refine z_istore_n (lv' := [(3, .int 32), (2, .ref (G.2.1 13)), (1, .int 0), (0, .ref (G.2.1 13))]) (pc' := 7) C dX2_countTrue_6 rfl (by decide) rfl rfl ?_
  refine z_iconst (v := 0) (pc' := 8) C dX2_countTrue_7 rfl rfl ?_
  refine z_istore (lv' := [(4, .int 0), (3, .int 32), (2, .ref (G.2.1 13)), (1, .int 0), (0, .ref (G.2.1 13))]) (pc' := 10) C dX2_countTrue_8 (by decide) rfl rfl ?_
  have L10 : ∀ (fuel : Nat) (j : Nat) (hj : j ≤ 32), 32 - j < fuel → Z sc ia la [(4, .int (nI j)), (3, .int 32), (2, .ref (G.2.1 13)), (1, .int (s_ct (ia 6) j))] 10 [] := by
    intro fuel
    induction fuel with
    | zero => intro j hj hm10; exact absurd hm10 (Nat.not_lt_zero _)
    | succ fuel ih10 =>
      intro j hj hm10
      refine z_iload (pc' := 12) C dX2_countTrue_10 0 rfl rfl ?_
      refine z_iload_n (pc' := 13) C dX2_countTrue_12 rfl 1 rfl rfl ?_
      refine z_icmpN_ge (a := j) (b := 32) (pc' := 16) C 36 (by omega) (by omega) dX2_countTrue_13 rfl rfl (fun h_13 => ?_) (fun h_13 => ?_)
      · refine z_iload_n (pc' := 37) C dX2_countTrue_36 rfl 3 rfl rfl ?_
        exact z_iret (E := E) rfl dX2_countTrue_37 ⟨(congrArg (fun z => some (Value.int z)) (show _ = _ from (by first | rfl | (have e9 : j = 32 := (by omega); subst e9; rfl)))), rfl, rfl, rfl⟩
      · refine z_aload_n (pc' := 17) C dX2_countTrue_16 rfl 2 rfl rfl ?_
        refine z_iload (pc' := 19) C dX2_countTrue_17 0 rfl rfl ?_
        refine z_zald (pc' := 20) C 13 (by decide) (N := 32) (i := j) (f := ia 6) q_i6 (by omega) (by decide) dX2_countTrue_19 rfl ?_
        refine z_istore (lv' := [(5, .int ((ia 6) j)), (4, .int (nI j)), (3, .int 32), (2, .ref (G.2.1 13)), (1, .int (s_ct (ia 6) j))]) (pc' := 22) C dX2_countTrue_20 (by decide) rfl rfl ?_
        refine z_iload (pc' := 24) C dX2_countTrue_22 0 rfl rfl ?_
        refine z_if_eq (pc' := 27) C 30 dX2_countTrue_24 rfl rfl (fun h_24 => ?_) (fun h_24 => ?_)
        · refine z_iinc (v := nI (j + 1)) (k9 := 1) (lv' := [(4, .int (nI (j + 1))), (5, .int ((ia 6) j)), (3, .int 32), (2, .ref (G.2.1 13)), (1, .int (s_ct (ia 6) j))]) (pc' := 33) C dX2_countTrue_30 rfl (nI_1 j) (by decide) rfl rfl ?_
          refine z_goto (pc' := 10) C dX2_countTrue_33 rfl ?_
          refine z_sub (lv' := [(4, .int (nI (j + 1))), (3, .int 32), (2, .ref (G.2.1 13)), (1, .int (s_ct (ia 6) j))]) C [0, 2, 3, 4] rfl ?_
          exact z_cast rfl rfl rfl (by first | rfl | (simp [s_ct, h_24])) rfl (ih10 (j + 1) (by omega) (by omega))
        · refine z_iinc (v := (s_ct (ia 6) j) + 1) (k9 := 4) (lv' := [(1, .int ((s_ct (ia 6) j) + 1)), (5, .int ((ia 6) j)), (4, .int (nI j)), (3, .int 32), (2, .ref (G.2.1 13))]) (pc' := 30) C dX2_countTrue_27 rfl rfl (by decide) rfl rfl ?_
          refine z_iinc (v := nI (j + 1)) (k9 := 2) (lv' := [(4, .int (nI (j + 1))), (1, .int ((s_ct (ia 6) j) + 1)), (5, .int ((ia 6) j)), (3, .int 32), (2, .ref (G.2.1 13))]) (pc' := 33) C dX2_countTrue_30 rfl (nI_1 j) (by decide) rfl rfl ?_
          refine z_goto (pc' := 10) C dX2_countTrue_33 rfl ?_
          refine z_sub (lv' := [(4, .int (nI (j + 1))), (3, .int 32), (2, .ref (G.2.1 13)), (1, .int ((s_ct (ia 6) j) + 1))]) C [0, 3, 4, 1] rfl ?_
          exact z_cast rfl rfl rfl (by first | rfl | (simp [s_ct, h_24])) rfl (ih10 (j + 1) (by omega) (by omega))
  refine z_sub (lv' := [(4, .int 0), (3, .int 32), (2, .ref (G.2.1 13)), (1, .int 0)]) C [0, 1, 2, 3] rfl ?_
  exact z_cast rfl rfl rfl rfl rfl (L10 (_ + 1) 0 (by omega) (Nat.lt_succ_self _))

set_option maxHeartbeats 4000000 in
set_option maxRecDepth 100000 in
theorem c_X2_countTrue7 (l : Launch) (G : Gv) (sc : Sc) (ia : Ia) (la : La)   : Ct l yX2_countTrue wsX2_countTrue ({ frames := 0, cells := 0, slots := 0, locals := 0 }) G [.ref (G.2.1 14)] sc ia la (fI (s_ct (ia 7) 32) sc ia la) := by
  refine z_of (maxL := 6) (own := RX2) [(0, .ref (G.2.1 14))] rfl (by decide +kernel) rfl (Nat.le_of_ble_eq_true rfl) rfl (fun Z C E => ?_)
  refine z_iconst (v := 0) (pc' := 1) C dX2_countTrue_0 rfl rfl ?_
  refine z_istore_n (lv' := [(1, .int 0), (0, .ref (G.2.1 14))]) (pc' := 2) C dX2_countTrue_1 rfl (by decide) rfl rfl ?_
  refine z_aload_n (pc' := 3) C dX2_countTrue_2 rfl 1 rfl rfl ?_
  refine z_astore_n (lv' := [(2, .ref (G.2.1 14)), (1, .int 0), (0, .ref (G.2.1 14))]) (pc' := 4) C dX2_countTrue_3 rfl (by decide) rfl rfl ?_
  refine z_aload_n (pc' := 5) C dX2_countTrue_4 rfl 0 rfl rfl ?_
  refine z_alen (pc' := 6) C 14 (by decide) (t0 := 2) rfl q_i7 dX2_countTrue_5 rfl ?_
  refine z_istore_n (lv' := [(3, .int 32), (2, .ref (G.2.1 14)), (1, .int 0), (0, .ref (G.2.1 14))]) (pc' := 7) C dX2_countTrue_6 rfl (by decide) rfl rfl ?_
  refine z_iconst (v := 0) (pc' := 8) C dX2_countTrue_7 rfl rfl ?_
  refine z_istore (lv' := [(4, .int 0), (3, .int 32), (2, .ref (G.2.1 14)), (1, .int 0), (0, .ref (G.2.1 14))]) (pc' := 10) C dX2_countTrue_8 (by decide) rfl rfl ?_
  have L10 : ∀ (fuel : Nat) (j : Nat) (hj : j ≤ 32), 32 - j < fuel → Z sc ia la [(4, .int (nI j)), (3, .int 32), (2, .ref (G.2.1 14)), (1, .int (s_ct (ia 7) j))] 10 [] := by
    intro fuel
    induction fuel with
    | zero => intro j hj hm10; exact absurd hm10 (Nat.not_lt_zero _)
    | succ fuel ih10 =>
      intro j hj hm10
      refine z_iload (pc' := 12) C dX2_countTrue_10 0 rfl rfl ?_
      refine z_iload_n (pc' := 13) C dX2_countTrue_12 rfl 1 rfl rfl ?_
      refine z_icmpN_ge (a := j) (b := 32) (pc' := 16) C 36 (by omega) (by omega) dX2_countTrue_13 rfl rfl (fun h_13 => ?_) (fun h_13 => ?_)
      · refine z_iload_n (pc' := 37) C dX2_countTrue_36 rfl 3 rfl rfl ?_
        exact z_iret (E := E) rfl dX2_countTrue_37 ⟨(congrArg (fun z => some (Value.int z)) (show _ = _ from (by first | rfl | (have e9 : j = 32 := (by omega); subst e9; rfl)))), rfl, rfl, rfl⟩
      · refine z_aload_n (pc' := 17) C dX2_countTrue_16 rfl 2 rfl rfl ?_
        refine z_iload (pc' := 19) C dX2_countTrue_17 0 rfl rfl ?_
        refine z_zald (pc' := 20) C 14 (by decide) (N := 32) (i := j) (f := ia 7) q_i7 (by omega) (by decide) dX2_countTrue_19 rfl ?_
        refine z_istore (lv' := [(5, .int ((ia 7) j)), (4, .int (nI j)), (3, .int 32), (2, .ref (G.2.1 14)), (1, .int (s_ct (ia 7) j))]) (pc' := 22) C dX2_countTrue_20 (by decide) rfl rfl ?_
        refine z_iload (pc' := 24) C dX2_countTrue_22 0 rfl rfl ?_
        refine z_if_eq (pc' := 27) C 30 dX2_countTrue_24 rfl rfl (fun h_24 => ?_) (fun h_24 => ?_)
        · refine z_iinc (v := nI (j + 1)) (k9 := 1) (lv' := [(4, .int (nI (j + 1))), (5, .int ((ia 7) j)), (3, .int 32), (2, .ref (G.2.1 14)), (1, .int (s_ct (ia 7) j))]) (pc' := 33) C dX2_countTrue_30 rfl (nI_1 j) (by decide) rfl rfl ?_
          refine z_goto (pc' := 10) C dX2_countTrue_33 rfl ?_
          refine z_sub (lv' := [(4, .int (nI (j + 1))), (3, .int 32), (2, .ref (G.2.1 14)), (1, .int (s_ct (ia 7) j))]) C [0, 2, 3, 4] rfl ?_
          exact z_cast rfl rfl rfl (by first | rfl | (simp [s_ct, h_24])) rfl (ih10 (j + 1) (by omega) (by omega))
        · refine z_iinc (v := (s_ct (ia 7) j) + 1) (k9 := 4) (lv' := [(1, .int ((s_ct (ia 7) j) + 1)), (5, .int ((ia 7) j)), (4, .int (nI j)), (3, .int 32), (2, .ref (G.2.1 14))]) (pc' := 30) C dX2_countTrue_27 rfl rfl (by decide) rfl rfl ?_
          refine z_iinc (v := nI (j + 1)) (k9 := 2) (lv' := [(4, .int (nI (j + 1))), (1, .int ((s_ct (ia 7) j) + 1)), (5, .int ((ia 7) j)), (3, .int 32), (2, .ref (G.2.1 14))]) (pc' := 33) C dX2_countTrue_30 rfl (nI_1 j) (by decide) rfl rfl ?_
          refine z_goto (pc' := 10) C dX2_countTrue_33 rfl ?_
          refine z_sub (lv' := [(4, .int (nI (j + 1))), (3, .int 32), (2, .ref (G.2.1 14)), (1, .int ((s_ct (ia 7) j) + 1))]) C [0, 3, 4, 1] rfl ?_
          exact z_cast rfl rfl rfl (by first | rfl | (simp [s_ct, h_24])) rfl (ih10 (j + 1) (by omega) (by omega))
  refine z_sub (lv' := [(4, .int 0), (3, .int 32), (2, .ref (G.2.1 14)), (1, .int 0)]) C [0, 1, 2, 3] rfl ?_
  exact z_cast rfl rfl rfl rfl rfl (L10 (_ + 1) 0 (by omega) (Nat.lt_succ_self _))

set_option maxHeartbeats 4000000 in
set_option maxRecDepth 100000 in
theorem c_X2_countLost (l : Launch) (G : Gv) (sc : Sc) (ia : Ia) (la : La)   : Ct l yX2_countLost wsX2_countLost ({ frames := 1, cells := 0, slots := 0, locals := 25 }) G [.ref (G.2.1 2)] sc ia la (fI (s_ct (ia 6) 32) sc ia la) := by
  have hU2 : ∀ w ∈ u_ws RX2 TX2 9, w ∈ wsX2_countLost := fun w h => List.mem_cons_of_mem _ (List.mem_append_right _ h)
  refine z_of (maxL := 1) (own := RX2) [(0, .ref (G.2.1 2))] rfl (by decide +kernel) rfl (Nat.le_of_ble_eq_true rfl) rfl (fun Z C E => ?_)
  refine z_aload_n (pc' := 1) C dX2_countLost_0 rfl 0 rfl rfl ?_
  refine z_get (pc' := 4) C hU2 2 (by decide) q_o2 rfl 7 (by decide) (by decide +kernel) (v := .ref (G.2.1 13)) rfl dX2_countLost_1 rfl ?_
  refine z_cS (n := 1) (pc' := 7) (As := [.ref (G.2.1 13)]) (rest := []) C (c_X2_countTrue6 l G sc ia la) gX2_countLost_X2_countTrue rfl rfl rfl (by decide +kernel) (by decide) rfl rfl dX2_countLost_4 (Nat.le_of_ble_eq_true rfl) rfl (k_I ?_)
  show Z sc ia la [(0, .ref (G.2.1 2))] 7 [.int (s_ct (ia 6) 32)]
  exact z_iret (E := E) rfl dX2_countLost_7 ⟨(congrArg (fun z => some (Value.int z)) rfl), rfl, rfl, rfl⟩

set_option maxHeartbeats 4000000 in
set_option maxRecDepth 100000 in
theorem c_X2_countMeasured (l : Launch) (G : Gv) (sc : Sc) (ia : Ia) (la : La)   : Ct l yX2_countMeasured wsX2_countMeasured ({ frames := 1, cells := 0, slots := 0, locals := 25 }) G [.ref (G.2.1 2)] sc ia la (fI (s_ct (ia 7) 32) sc ia la) := by
  have hU2 : ∀ w ∈ u_ws RX2 TX2 9, w ∈ wsX2_countMeasured := fun w h => List.mem_cons_of_mem _ (List.mem_append_right _ h)
  refine z_of (maxL := 1) (own := RX2) [(0, .ref (G.2.1 2))] rfl (by decide +kernel) rfl (Nat.le_of_ble_eq_true rfl) rfl (fun Z C E => ?_)
  refine z_aload_n (pc' := 1) C dX2_countMeasured_0 rfl 0 rfl rfl ?_
  refine z_get (pc' := 4) C hU2 2 (by decide) q_o2 rfl 8 (by decide) (by decide +kernel) (v := .ref (G.2.1 14)) rfl dX2_countMeasured_1 rfl ?_
  refine z_cS (n := 1) (pc' := 7) (As := [.ref (G.2.1 14)]) (rest := []) C (c_X2_countTrue7 l G sc ia la) gX2_countMeasured_X2_countTrue rfl rfl rfl (by decide +kernel) (by decide) rfl rfl dX2_countMeasured_4 (Nat.le_of_ble_eq_true rfl) rfl (k_I ?_)
  show Z sc ia la [(0, .ref (G.2.1 2))] 7 [.int (s_ct (ia 7) 32)]
  exact z_iret (E := E) rfl dX2_countMeasured_7 ⟨(congrArg (fun z => some (Value.int z)) rfl), rfl, rfl, rfl⟩

set_option maxHeartbeats 4000000 in
set_option maxRecDepth 100000 in
theorem c_X2_offAt (l : Launch) (G : Gv) (sc : Sc) (ia : Ia) (la : La) (a : Nat) (ha : a < 32)  : Ct l yX2_offAt wsX2_offAt ({ frames := 0, cells := 0, slots := 0, locals := 0 }) G [.ref (G.2.1 2), .int (nI a)] sc ia la (fI (s_off ia a) sc ia la) := by
  have hU2 : ∀ w ∈ u_ws RX2 TX2 9, w ∈ wsX2_offAt := fun w h => List.mem_cons_of_mem _ (List.mem_append_right _ h)
  refine z_of (maxL := 2) (own := RX2) [(0, .ref (G.2.1 2)), (1, .int (nI a))] rfl (by decide +kernel) rfl (Nat.le_of_ble_eq_true rfl) rfl (fun Z C E => ?_)
  refine z_aload_n (pc' := 1) C dX2_offAt_0 rfl 0 rfl rfl ?_
  refine z_get (pc' := 4) C hU2 2 (by decide) q_o2 rfl 8 (by decide) (by decide +kernel) (v := .ref (G.2.1 14)) rfl dX2_offAt_1 rfl ?_
  refine z_iload_n (pc' := 5) C dX2_offAt_4 rfl 1 rfl rfl ?_
  refine z_zald (pc' := 6) C 14 (by decide) (N := 32) (i := a) (f := ia 7) q_i7 (by omega) (by decide) dX2_offAt_5 rfl ?_
  refine z_if_eq (pc' := 9) C 25 dX2_offAt_6 rfl rfl (fun h_6 => ?_) (fun h_6 => ?_)
  · refine z_iconst (v := 0) (pc' := 26) C dX2_offAt_25 rfl rfl ?_
    exact z_iret (E := E) rfl dX2_offAt_26 ⟨(congrArg (fun z => some (Value.int z)) (show _ = _ from (by first | rfl | (simp [s_off, h_6])))), rfl, rfl, rfl⟩
  · refine z_aload_n (pc' := 10) C dX2_offAt_9 rfl 0 rfl rfl ?_
    refine z_get (pc' := 13) C hU2 2 (by decide) q_o2 rfl 5 (by decide) (by decide +kernel) (v := .ref (G.2.1 11)) rfl dX2_offAt_10 rfl ?_
    refine z_iload_n (pc' := 14) C dX2_offAt_13 rfl 1 rfl rfl ?_
    refine z_iald (pc' := 15) C 11 (by decide) (N := 32) (i := a) (f := ia 4) q_i4 (by omega) (by decide) dX2_offAt_14 rfl ?_
    refine z_aload_n (pc' := 16) C dX2_offAt_15 rfl 0 rfl rfl ?_
    refine z_get (pc' := 19) C hU2 2 (by decide) q_o2 rfl 2 (by decide) (by decide +kernel) (v := .ref (G.2.1 8)) rfl dX2_offAt_16 rfl ?_
    refine z_iload_n (pc' := 20) C dX2_offAt_19 rfl 1 rfl rfl ?_
    refine z_iald (pc' := 21) C 8 (by decide) (N := 32) (i := a) (f := ia 1) q_i1 (by omega) (by decide) dX2_offAt_20 rfl ?_
    refine z_isub (pc' := 22) C dX2_offAt_21 rfl ?_
    refine z_goto (pc' := 26) C dX2_offAt_22 rfl ?_
    exact z_iret (E := E) rfl dX2_offAt_26 ⟨(congrArg (fun z => some (Value.int z)) (show _ = _ from (by first | rfl | (simp [s_off, h_6])))), rfl, rfl, rfl⟩

set_option maxHeartbeats 4000000 in
set_option maxRecDepth 100000 in
theorem c_X2_isAnythingOff (l : Launch) (G : Gv) (sc : Sc) (ia : Ia) (la : La) (n : Nat) (hn : sc 0 = nI n) (hN : n ≤ 32)    : Ct l yX2_isAnythingOff wsX2_isAnythingOff ({ frames := 1, cells := 0, slots := 0, locals := 21 }) G [.ref (G.2.1 2)] sc ia la (fI (bI (!s_all (fun j => decide (s_off ia j = 0)) n)) sc ia la) := by
  have hU2 : ∀ w ∈ u_ws RX2 TX2 9, w ∈ wsX2_isAnythingOff := fun w h => List.mem_cons_of_mem _ (List.mem_append_right _ h)
  refine z_of (maxL := 2) (own := RX2) [(0, .ref (G.2.1 2))] rfl (by decide +kernel) rfl (Nat.le_of_ble_eq_true rfl) rfl (fun Z C E => ?_)
  refine z_iconst (v := 0) (pc' := 1) C dX2_isAnythingOff_0 rfl rfl ?_
  refine z_istore_n (lv' := [(1, .int 0), (0, .ref (G.2.1 2))]) (pc' := 2) C dX2_isAnythingOff_1 rfl (by decide) rfl rfl ?_
  have L2 : ∀ (fuel : Nat) (i : Nat) (hi : i ≤ n) (ha : s_all (fun j => decide (s_off ia j = 0)) i = true), n - i < fuel → Z sc ia la [(1, .int (nI i)), (0, .ref (G.2.1 2))] 2 [] := by
    intro fuel
    induction fuel with
    | zero => intro i hi ha hm2; exact absurd hm2 (Nat.not_lt_zero _)
    | succ fuel ih2 =>
      intro i hi ha hm2
      refine z_iload_n (pc' := 3) C dX2_isAnythingOff_2 rfl 0 rfl rfl ?_
      refine z_aload_n (pc' := 4) C dX2_isAnythingOff_3 rfl 1 rfl rfl ?_
      refine z_get (pc' := 7) C hU2 2 (by decide) q_o2 rfl 0 (by decide) (by decide +kernel) (v := .int (sc 0)) rfl dX2_isAnythingOff_4 rfl ?_
      refine z_cast (st' := [.int (nI n), .int (nI i)]) rfl rfl rfl rfl (congrArg (fun z => Value.int z :: [.int (nI i)]) hn) ?_
      refine z_icmpN_ge (a := i) (b := n) (pc' := 10) C 26 (by omega) (by omega) dX2_isAnythingOff_7 rfl rfl (fun h_7 => ?_) (fun h_7 => ?_)
      · refine z_iconst (v := 0) (pc' := 27) C dX2_isAnythingOff_26 rfl rfl ?_
        exact z_zret (E := E) rfl dX2_isAnythingOff_27 (rfl) ⟨(congrArg (fun z => some (Value.int z)) (show _ = _ from (by first | rfl | (have e9 : i = n := (by omega); subst e9; rw [ha]; rfl)))), rfl, rfl, rfl⟩
      · refine z_aload_n (pc' := 11) C dX2_isAnythingOff_10 rfl 1 rfl rfl ?_
        refine z_iload_n (pc' := 12) C dX2_isAnythingOff_11 rfl 0 rfl rfl ?_
        refine z_cV (n := 1) (pc' := 15) (As := [.int (nI i)]) (rest := []) C 2 (c_X2_offAt l G sc ia la i (by omega)) gX2_isAnythingOff_X2_offAt rfl rfl rfl rfl (by decide +kernel) (by decide) rfl (by decide) q_o2 rfl rfl dX2_isAnythingOff_12 (Nat.le_of_ble_eq_true rfl) rfl (k_I ?_)
        show Z sc ia la [(1, .int (nI i)), (0, .ref (G.2.1 2))] 15 [.int (s_off ia i)]
        refine z_if_eq (pc' := 18) C 20 dX2_isAnythingOff_15 rfl rfl (fun h_15 => ?_) (fun h_15 => ?_)
        · refine z_iinc (v := nI (i + 1)) (k9 := 0) (lv' := [(1, .int (nI (i + 1))), (0, .ref (G.2.1 2))]) (pc' := 23) C dX2_isAnythingOff_20 rfl (nI_1 i) (by decide) rfl rfl ?_
          refine z_goto (pc' := 2) C dX2_isAnythingOff_23 rfl ?_
          exact z_cast rfl rfl rfl rfl rfl (ih2 (i + 1) (by omega) (by exact s_all_s ha (by simp [hi, ha, h_7, h_15])) (by omega))
        · refine z_iconst (v := 1) (pc' := 19) C dX2_isAnythingOff_18 rfl rfl ?_
          exact z_zret (E := E) rfl dX2_isAnythingOff_19 (rfl) ⟨(congrArg (fun z => some (Value.int z)) (show _ = _ from (by first | rfl | (rw [s_all_f (i := i) (by omega) (by simp [hi, ha, h_7, h_15])]; rfl)))), rfl, rfl, rfl⟩
  exact z_cast rfl rfl rfl rfl rfl (L2 (_ + 1) 0 (by omega) (by rfl) (Nat.lt_succ_self _))

set_option maxHeartbeats 4000000 in
set_option maxRecDepth 100000 in
theorem c_X2_firstMeasured (l : Launch) (G : Gv) (sc : Sc) (ia : Ia) (la : La) (n : Nat) (hn : sc 0 = nI n) (hN : n ≤ 32)    : Ct l yX2_firstMeasured wsX2_firstMeasured ({ frames := 0, cells := 0, slots := 0, locals := 0 }) G [.ref (G.2.1 2)] sc ia la (fI (s_oi (s_fi (s_ms ia) n)) sc ia la) := by
  have hU2 : ∀ w ∈ u_ws RX2 TX2 9, w ∈ wsX2_firstMeasured := fun w h => List.mem_cons_of_mem _ (List.mem_append_right _ h)
  refine z_of (maxL := 2) (own := RX2) [(0, .ref (G.2.1 2))] rfl (by decide +kernel) rfl (Nat.le_of_ble_eq_true rfl) rfl (fun Z C E => ?_)
  refine z_iconst (v := 0) (pc' := 1) C dX2_firstMeasured_0 rfl rfl ?_
  refine z_istore_n (lv' := [(1, .int 0), (0, .ref (G.2.1 2))]) (pc' := 2) C dX2_firstMeasured_1 rfl (by decide) rfl rfl ?_
  have L2 : ∀ (fuel : Nat) (i : Nat) (hi : i ≤ n) (ha : ∀ j, j < i → s_ms ia j = false), n - i < fuel → Z sc ia la [(1, .int (nI i)), (0, .ref (G.2.1 2))] 2 [] := by
    intro fuel
    induction fuel with
    | zero => intro i hi ha hm2; exact absurd hm2 (Nat.not_lt_zero _)
    | succ fuel ih2 =>
      intro i hi ha hm2
      refine z_iload_n (pc' := 3) C dX2_firstMeasured_2 rfl 0 rfl rfl ?_
      refine z_aload_n (pc' := 4) C dX2_firstMeasured_3 rfl 1 rfl rfl ?_
      refine z_get (pc' := 7) C hU2 2 (by decide) q_o2 rfl 0 (by decide) (by decide +kernel) (v := .int (sc 0)) rfl dX2_firstMeasured_4 rfl ?_
      refine z_cast (st' := [.int (nI n), .int (nI i)]) rfl rfl rfl rfl (congrArg (fun z => Value.int z :: [.int (nI i)]) hn) ?_
      refine z_icmpN_ge (a := i) (b := n) (pc' := 10) C 27 (by omega) (by omega) dX2_firstMeasured_7 rfl rfl (fun h_7 => ?_) (fun h_7 => ?_)
      · refine z_iconst (v := -1) (pc' := 28) C dX2_firstMeasured_27 rfl rfl ?_
        exact z_iret (E := E) rfl dX2_firstMeasured_28 ⟨(congrArg (fun z => some (Value.int z)) (show _ = _ from (by first | rfl | (have e9 : i = n := (by omega); subst e9; rw [s_fi_n ha]; rfl)))), rfl, rfl, rfl⟩
      · refine z_aload_n (pc' := 11) C dX2_firstMeasured_10 rfl 1 rfl rfl ?_
        refine z_get (pc' := 14) C hU2 2 (by decide) q_o2 rfl 8 (by decide) (by decide +kernel) (v := .ref (G.2.1 14)) rfl dX2_firstMeasured_11 rfl ?_
        refine z_iload_n (pc' := 15) C dX2_firstMeasured_14 rfl 0 rfl rfl ?_
        refine z_zald (pc' := 16) C 14 (by decide) (N := 32) (i := i) (f := ia 7) q_i7 (by omega) (by decide) dX2_firstMeasured_15 rfl ?_
        refine z_if_eq (pc' := 19) C 21 dX2_firstMeasured_16 rfl rfl (fun h_16 => ?_) (fun h_16 => ?_)
        · refine z_iinc (v := nI (i + 1)) (k9 := 0) (lv' := [(1, .int (nI (i + 1))), (0, .ref (G.2.1 2))]) (pc' := 24) C dX2_firstMeasured_21 rfl (nI_1 i) (by decide) rfl rfl ?_
          refine z_goto (pc' := 2) C dX2_firstMeasured_24 rfl ?_
          exact z_cast rfl rfl rfl rfl rfl (ih2 (i + 1) (by omega) (by exact s_lt_s ha (by simp [s_ms, hi, ha, h_7, h_16])) (by omega))
        · refine z_iload_n (pc' := 20) C dX2_firstMeasured_19 rfl 0 rfl rfl ?_
          exact z_iret (E := E) rfl dX2_firstMeasured_20 ⟨(congrArg (fun z => some (Value.int z)) (show _ = _ from (by first | rfl | (rw [s_fi_s (i := i) ha (by omega) (by simp [s_ms, h_16])]; rfl)))), rfl, rfl, rfl⟩
  exact z_cast rfl rfl rfl rfl rfl (L2 (_ + 1) 0 (by omega) (fun j h => absurd h (Nat.not_lt_zero j)) (Nat.lt_succ_self _))

theorem c_X2_firstMeasuredN (l : Launch) (G : Gv) (sc : Sc) (ia : Ia) (la : La) (n : Nat) (hn : sc 0 = nI n) (hN : n ≤ 32) (hf : s_fi (s_ms ia) n = none) : Ct l yX2_firstMeasured wsX2_firstMeasured ({ frames := 0, cells := 0, slots := 0, locals := 0 }) G [.ref (G.2.1 2)] sc ia la (fI (-1) sc ia la) := by
  have h9 := c_X2_firstMeasured l G sc ia la n hn hN
  rw [hf] at h9
  exact h9
theorem c_X2_firstMeasuredS (l : Launch) (G : Gv) (sc : Sc) (ia : Ia) (la : La) (n : Nat) (hn : sc 0 = nI n) (hN : n ≤ 32) (f : Nat) (hf : s_fi (s_ms ia) n = some f) : Ct l yX2_firstMeasured wsX2_firstMeasured ({ frames := 0, cells := 0, slots := 0, locals := 0 }) G [.ref (G.2.1 2)] sc ia la (fI (nI f) sc ia la) := by
  have h9 := c_X2_firstMeasured l G sc ia la n hn hN
  rw [hf] at h9
  exact h9
theorem s_fi_lt {p : Nat → Bool} {n f : Nat} (h : s_fi p n = some f) : f < n ∧ p f = true ∧ ∀ j, j < f → p j = false := by
  induction n with
  | zero => cases h
  | succ n ih =>
    unfold s_fi at h
    cases e : s_fi p n with
    | some j =>
      rw [e] at h
      cases h
      obtain ⟨a, b⟩ := ih e
      exact ⟨by omega, b⟩
    | none =>
      rw [e] at h
      by_cases hp : p n = true
      · simp [hp] at h
        subst h
        refine ⟨by omega, hp, fun j hj => ?_⟩
        cases q : p j with
        | false => rfl
        | true =>
          exfalso
          obtain ⟨i, hi⟩ : ∃ i, s_fi p n = some i := by
            clear e ih hp
            induction n with
            | zero => omega
            | succ m ihm =>
              by_cases ej : j = m
              · subst ej
                cases e2 : s_fi p j with
                | some z => exact ⟨z, by simp [s_fi, e2]⟩
                | none => exact ⟨j, by simp [s_fi, e2, q]⟩
              · obtain ⟨z, hz⟩ := ihm (by omega)
                exact ⟨z, by simp [s_fi, hz]⟩
          rw [e] at hi
          cases hi
      · simp [hp] at h
set_option maxHeartbeats 4000000 in
set_option maxRecDepth 100000 in
theorem c_X2_faultOfS (l : Launch) (G : Gv) (sc : Sc) (ia : Ia) (la : La) (n : Nat) (hn : sc 0 = nI n) (hN : n ≤ 32) (a : Nat)  (f : Nat) (hf : s_fi (s_ms ia) n = some f) : Ct l yX2_faultOf wsX2_faultOf ({ frames := 2, cells := 0, slots := 0, locals := 41 }) G [.ref (G.2.1 2), .int (nI a)] sc ia la (fI (if s_all (s_fk2 ia a f) (n - f) = true then s_fx ia a f else 0) sc ia la) := by
  have hU2 : ∀ w ∈ u_ws RX2 TX2 9, w ∈ wsX2_faultOf := fun w h => List.mem_cons_of_mem _ (List.mem_append_right _ h)
  have hfn : f < n := (s_fi_lt hf).1
  refine z_of (maxL := 5) (own := RX2) [(0, .ref (G.2.1 2)), (1, .int (nI a))] rfl (by decide +kernel) rfl (Nat.le_of_ble_eq_true rfl) rfl (fun Z C E => ?_)
  refine z_aload_n (pc' := 1) C dX2_faultOf_0 rfl 0 rfl rfl ?_
  refine z_cV (n := 0) (pc' := 4) (As := []) (rest := []) C 2 (c_X2_firstMeasuredS l G sc ia la n hn hN f hf) gX2_faultOf_X2_firstMeasured rfl rfl rfl rfl (by decide +kernel) (by decide) rfl (by decide) q_o2 rfl rfl dX2_faultOf_1 (Nat.le_of_ble_eq_true rfl) rfl (k_I ?_)
  show Z sc ia la [(0, .ref (G.2.1 2)), (1, .int (nI a))] 4 [.int (nI f)]
  refine z_istore_n (lv' := [(2, .int (nI f)), (0, .ref (G.2.1 2)), (1, .int (nI a))]) (pc' := 5) C dX2_faultOf_4 rfl (by decide) rfl rfl ?_
  refine z_iload_n (pc' := 6) C dX2_faultOf_5 rfl 0 rfl rfl ?_
  refine z_iconst (v := -1) (pc' := 7) C dX2_faultOf_6 rfl rfl ?_
  refine z_icmp_ne (pc' := 10) C 12 dX2_faultOf_7 rfl rfl (fun h_7 => ?_) (fun h_7 => absurd h_7 (by intro h9; exact absurd (congrArg Int32.toInt h9) (by rw [nI_toInt (by omega)]; show ¬ (f : Int) = -1; omega)))
  refine z_aload_n (pc' := 13) C dX2_faultOf_12 rfl 1 rfl rfl ?_
  refine z_iload_n (pc' := 14) C dX2_faultOf_13 rfl 0 rfl rfl ?_
  refine z_cV (n := 1) (pc' := 17) (As := [.int (nI f)]) (rest := []) C 2 (c_X2_offAt l G sc ia la f (by omega)) gX2_faultOf_X2_offAt rfl rfl rfl rfl (by decide +kernel) (by decide) rfl (by decide) q_o2 rfl rfl dX2_faultOf_14 (Nat.le_of_ble_eq_true rfl) rfl (k_I ?_)
  show Z sc ia la [(2, .int (nI f)), (0, .ref (G.2.1 2)), (1, .int (nI a))] 17 [.int (s_off ia f)]
  refine z_iload_n (pc' := 18) C dX2_faultOf_17 rfl 2 rfl rfl ?_
  refine z_iload_n (pc' := 19) C dX2_faultOf_18 rfl 0 rfl rfl ?_
  refine z_cN (n := 2) (pc' := 22) (As := [.int (nI a), .int (nI f)]) (rest := [.int (s_off ia f)]) C (c_X5_signOf l G sc ia la (nI a) (nI f)) gX2_faultOf_X5_signOf_n46 rfl rfl rfl (by decide +kernel) (by decide +kernel) (by decide +kernel) (by decide +kernel) (by decide) rfl rfl dX2_faultOf_19 (Nat.le_of_ble_eq_true rfl) rfl (k_I ?_)
  show Z sc ia la [(2, .int (nI f)), (0, .ref (G.2.1 2)), (1, .int (nI a))] 22 [.int (s_sgn (nI a) (nI f)), .int (s_off ia f)]
  refine z_imul (pc' := 23) C dX2_faultOf_22 rfl ?_
  refine z_istore_n (lv' := [(3, .int ((s_off ia f) * (s_sgn (nI a) (nI f)))), (2, .int (nI f)), (0, .ref (G.2.1 2)), (1, .int (nI a))]) (pc' := 24) C dX2_faultOf_23 rfl (by decide) rfl rfl ?_
  refine z_iload_n (pc' := 25) C dX2_faultOf_24 rfl 1 rfl rfl ?_
  refine z_istore (lv' := [(4, .int (nI f)), (3, .int ((s_off ia f) * (s_sgn (nI a) (nI f)))), (2, .int (nI f)), (0, .ref (G.2.1 2)), (1, .int (nI a))]) (pc' := 27) C dX2_faultOf_25 (by decide) rfl rfl ?_
  have L27 : ∀ (fuel : Nat) (d : Nat) (hd : f + d ≤ n) (ha : s_all (s_fk2 ia a f) d = true), n - (f + d) < fuel → Z sc ia la [(4, .int (nI (f + d))), (3, .int (s_fx ia a f)), (0, .ref (G.2.1 2)), (1, .int (nI a))] 27 [] := by
    intro fuel
    induction fuel with
    | zero => intro d hd ha hm27; exact absurd hm27 (Nat.not_lt_zero _)
    | succ fuel ih27 =>
      intro d hd ha hm27
      refine z_iload (pc' := 29) C dX2_faultOf_27 0 rfl rfl ?_
      refine z_aload_n (pc' := 30) C dX2_faultOf_29 rfl 2 rfl rfl ?_
      refine z_get (pc' := 33) C hU2 2 (by decide) q_o2 rfl 0 (by decide) (by decide +kernel) (v := .int (sc 0)) rfl dX2_faultOf_30 rfl ?_
      refine z_cast (st' := [.int (nI n), .int (nI (f + d))]) rfl rfl rfl rfl (congrArg (fun z => Value.int z :: [.int (nI (f + d))]) hn) ?_
      refine z_icmpN_ge (a := f + d) (b := n) (pc' := 36) C 71 (by omega) (by omega) dX2_faultOf_33 rfl rfl (fun h_33 => ?_) (fun h_33 => ?_)
      · refine z_iload_n (pc' := 72) C dX2_faultOf_71 rfl 1 rfl rfl ?_
        exact z_iret (E := E) rfl dX2_faultOf_72 ⟨(congrArg (fun z => some (Value.int z)) (show _ = _ from (by first | rfl | (have e9 : d = n - f := (by omega); subst e9; rw [if_pos ha])))), rfl, rfl, rfl⟩
      · refine z_aload_n (pc' := 37) C dX2_faultOf_36 rfl 2 rfl rfl ?_
        refine z_get (pc' := 40) C hU2 2 (by decide) q_o2 rfl 8 (by decide) (by decide +kernel) (v := .ref (G.2.1 14)) rfl dX2_faultOf_37 rfl ?_
        refine z_iload (pc' := 42) C dX2_faultOf_40 0 rfl rfl ?_
        refine z_zald (pc' := 43) C 14 (by decide) (N := 32) (i := f + d) (f := ia 7) q_i7 (by omega) (by decide) dX2_faultOf_42 rfl ?_
        refine z_if_eq (pc' := 46) C 65 dX2_faultOf_43 rfl rfl (fun h_43 => ?_) (fun h_43 => ?_)
        · refine z_iinc (v := nI (f + d + 1)) (k9 := 0) (lv' := [(4, .int (nI (f + d + 1))), (3, .int (s_fx ia a f)), (0, .ref (G.2.1 2)), (1, .int (nI a))]) (pc' := 68) C dX2_faultOf_65 rfl (nI_1 (f + d)) (by decide) rfl rfl ?_
          refine z_goto (pc' := 27) C dX2_faultOf_68 rfl ?_
          exact z_cast rfl rfl rfl rfl rfl (ih27 (d + 1) (by omega) (by exact s_all_s ha (by simp [s_fk2, h_7, hd, ha, h_33, h_43])) (by omega))
        · refine z_aload_n (pc' := 47) C dX2_faultOf_46 rfl 2 rfl rfl ?_
          refine z_iload (pc' := 49) C dX2_faultOf_47 0 rfl rfl ?_
          refine z_cV (n := 1) (pc' := 52) (As := [.int (nI (f + d))]) (rest := []) C 2 (c_X2_offAt l G sc ia la (f + d) (by omega)) gX2_faultOf_X2_offAt rfl rfl rfl rfl (by decide +kernel) (by decide) rfl (by decide) q_o2 rfl rfl dX2_faultOf_49 (Nat.le_of_ble_eq_true rfl) rfl (k_I ?_)
          show Z sc ia la [(4, .int (nI (f + d))), (3, .int (s_fx ia a f)), (0, .ref (G.2.1 2)), (1, .int (nI a))] 52 [.int (s_off ia (f + d))]
          refine z_iload_n (pc' := 53) C dX2_faultOf_52 rfl 1 rfl rfl ?_
          refine z_iload_n (pc' := 54) C dX2_faultOf_53 rfl 3 rfl rfl ?_
          refine z_iload (pc' := 56) C dX2_faultOf_54 0 rfl rfl ?_
          refine z_cN (n := 2) (pc' := 59) (As := [.int (nI a), .int (nI (f + d))]) (rest := [.int (s_fx ia a f), .int (s_off ia (f + d))]) C (c_X5_signOf l G sc ia la (nI a) (nI (f + d))) gX2_faultOf_X5_signOf_n46 rfl rfl rfl (by decide +kernel) (by decide +kernel) (by decide +kernel) (by decide +kernel) (by decide) rfl rfl dX2_faultOf_56 (Nat.le_of_ble_eq_true rfl) rfl (k_I ?_)
          show Z sc ia la [(4, .int (nI (f + d))), (3, .int (s_fx ia a f)), (0, .ref (G.2.1 2)), (1, .int (nI a))] 59 [.int (s_sgn (nI a) (nI (f + d))), .int (s_fx ia a f), .int (s_off ia (f + d))]
          refine z_imul (pc' := 60) C dX2_faultOf_59 rfl ?_
          refine z_icmp_eq (pc' := 63) C 65 dX2_faultOf_60 rfl rfl (fun h_60 => ?_) (fun h_60 => ?_)
          · refine z_iinc (v := nI (f + d + 1)) (k9 := 0) (lv' := [(4, .int (nI (f + d + 1))), (3, .int (s_fx ia a f)), (0, .ref (G.2.1 2)), (1, .int (nI a))]) (pc' := 68) C dX2_faultOf_65 rfl (nI_1 (f + d)) (by decide) rfl rfl ?_
            refine z_goto (pc' := 27) C dX2_faultOf_68 rfl ?_
            exact z_cast rfl rfl rfl rfl rfl (ih27 (d + 1) (by omega) (by exact s_all_s ha (by simp [s_fk2, h_7, hd, ha, h_33, h_43, h_60])) (by omega))
          · refine z_iconst (v := 0) (pc' := 64) C dX2_faultOf_63 rfl rfl ?_
            exact z_iret (E := E) rfl dX2_faultOf_64 ⟨(congrArg (fun z => some (Value.int z)) (show _ = _ from (by first | rfl | (rw [s_all_f (i := d) (by omega) (by simp [s_fk2, h_7, hd, ha, h_33, h_43, h_60])]; rfl)))), rfl, rfl, rfl⟩
  refine z_sub (lv' := [(4, .int (nI f)), (3, .int ((s_off ia f) * (s_sgn (nI a) (nI f)))), (0, .ref (G.2.1 2)), (1, .int (nI a))]) C [0, 1, 3, 4] rfl ?_
  exact z_cast rfl rfl rfl rfl rfl (L27 (_ + 1) 0 (by omega) (by rfl) (Nat.lt_succ_self _))

set_option maxHeartbeats 4000000 in
set_option maxRecDepth 100000 in
theorem c_X2_faultOfN (l : Launch) (G : Gv) (sc : Sc) (ia : Ia) (la : La) (n : Nat) (hn : sc 0 = nI n) (hN : n ≤ 32) (a : Nat)  (hf : s_fi (s_ms ia) n = none) : Ct l yX2_faultOf wsX2_faultOf ({ frames := 2, cells := 0, slots := 0, locals := 41 }) G [.ref (G.2.1 2), .int (nI a)] sc ia la (fI 0 sc ia la) := by
  refine z_of (maxL := 5) (own := RX2) [(0, .ref (G.2.1 2)), (1, .int (nI a))] rfl (by decide +kernel) rfl (Nat.le_of_ble_eq_true rfl) rfl (fun Z C E => ?_)
  refine z_aload_n (pc' := 1) C dX2_faultOf_0 rfl 0 rfl rfl ?_
  refine z_cV (n := 0) (pc' := 4) (As := []) (rest := []) C 2 (c_X2_firstMeasuredN l G sc ia la n hn hN hf) gX2_faultOf_X2_firstMeasured rfl rfl rfl rfl (by decide +kernel) (by decide) rfl (by decide) q_o2 rfl rfl dX2_faultOf_1 (Nat.le_of_ble_eq_true rfl) rfl (k_I ?_)
  show Z sc ia la [(0, .ref (G.2.1 2)), (1, .int (nI a))] 4 [.int (-1)]
  refine z_istore_n (lv' := [(2, .int (-1)), (0, .ref (G.2.1 2)), (1, .int (nI a))]) (pc' := 5) C dX2_faultOf_4 rfl (by decide) rfl rfl ?_
  refine z_iload_n (pc' := 6) C dX2_faultOf_5 rfl 0 rfl rfl ?_
  refine z_iconst (v := -1) (pc' := 7) C dX2_faultOf_6 rfl rfl ?_
  refine z_icmp_ne (pc' := 10) C 12 dX2_faultOf_7 rfl rfl (fun h_7 => absurd h_7 (by decide)) (fun h_7 => ?_)
  refine z_iconst (v := 0) (pc' := 11) C dX2_faultOf_10 rfl rfl ?_
  exact z_iret (E := E) rfl dX2_faultOf_11 ⟨(congrArg (fun z => some (Value.int z)) rfl), rfl, rfl, rfl⟩

theorem c_X2_faultOf (l : Launch) (G : Gv) (sc : Sc) (ia : Ia) (la : La) (n : Nat) (hn : sc 0 = nI n) (hN : n ≤ 32) (a : Nat) : Ct l yX2_faultOf wsX2_faultOf ({ frames := 2, cells := 0, slots := 0, locals := 41 }) G [.ref (G.2.1 2), .int (nI a)] sc ia la (fI (s_flt ia n a) sc ia la) := by
  unfold s_flt
  cases hf : s_fi (s_ms ia) n with
  | none => exact c_X2_faultOfN l G sc ia la n hn hN a hf
  | some f => exact c_X2_faultOfS l G sc ia la n hn hN a f hf
set_option maxHeartbeats 4000000 in
set_option maxRecDepth 100000 in
theorem c_X2_countFaults (l : Launch) (G : Gv) (sc : Sc) (ia : Ia) (la : La) (n : Nat) (hn : sc 0 = nI n) (hN : n ≤ 32)    : Ct l yX2_countFaults wsX2_countFaults ({ frames := 3, cells := 0, slots := 0, locals := 65 }) G [.ref (G.2.1 2)] sc ia la (fI (nI (s_cn (s_isf ia n) n)) sc ia la) := by
  have hU2 : ∀ w ∈ u_ws RX2 TX2 9, w ∈ wsX2_countFaults := fun w h => List.mem_cons_of_mem _ (List.mem_append_right _ h)
  refine z_of (maxL := 3) (own := RX2) [(0, .ref (G.2.1 2))] rfl (by decide +kernel) rfl (Nat.le_of_ble_eq_true rfl) rfl (fun Z C E => ?_)
  refine z_iconst (v := 0) (pc' := 1) C dX2_countFaults_0 rfl rfl ?_
  refine z_istore_n (lv' := [(1, .int 0), (0, .ref (G.2.1 2))]) (pc' := 2) C dX2_countFaults_1 rfl (by decide) rfl rfl ?_
  refine z_iconst (v := 0) (pc' := 3) C dX2_countFaults_2 rfl rfl ?_
  refine z_istore_n (lv' := [(2, .int 0), (1, .int 0), (0, .ref (G.2.1 2))]) (pc' := 4) C dX2_countFaults_3 rfl (by decide) rfl rfl ?_
  have L4 : ∀ (fuel : Nat) (i : Nat) (hi : i ≤ n), n - i < fuel → Z sc ia la [(2, .int (nI i)), (1, .int (nI (s_cn (s_isf ia n) i))), (0, .ref (G.2.1 2))] 4 [] := by
    intro fuel
    induction fuel with
    | zero => intro i hi hm4; exact absurd hm4 (Nat.not_lt_zero _)
    | succ fuel ih4 =>
      intro i hi hm4
      refine z_iload_n (pc' := 5) C dX2_countFaults_4 rfl 0 rfl rfl ?_
      refine z_aload_n (pc' := 6) C dX2_countFaults_5 rfl 2 rfl rfl ?_
      refine z_get (pc' := 9) C hU2 2 (by decide) q_o2 rfl 0 (by decide) (by decide +kernel) (v := .int (sc 0)) rfl dX2_countFaults_6 rfl ?_
      refine z_cast (st' := [.int (nI n), .int (nI i)]) rfl rfl rfl rfl (congrArg (fun z => Value.int z :: [.int (nI i)]) hn) ?_
      refine z_icmpN_ge (a := i) (b := n) (pc' := 12) C 29 (by omega) (by omega) dX2_countFaults_9 rfl rfl (fun h_9 => ?_) (fun h_9 => ?_)
      · refine z_iload_n (pc' := 30) C dX2_countFaults_29 rfl 1 rfl rfl ?_
        exact z_iret (E := E) rfl dX2_countFaults_30 ⟨(congrArg (fun z => some (Value.int z)) (show _ = _ from (by first | rfl | (have e9 : i = n := (by omega); subst e9; rfl)))), rfl, rfl, rfl⟩
      · refine z_aload_n (pc' := 13) C dX2_countFaults_12 rfl 2 rfl rfl ?_
        refine z_iload_n (pc' := 14) C dX2_countFaults_13 rfl 0 rfl rfl ?_
        refine z_cV (n := 1) (pc' := 17) (As := [.int (nI i)]) (rest := []) C 2 (c_X2_faultOf l G sc ia la n hn hN i) gX2_countFaults_X2_faultOf rfl rfl rfl rfl (by decide +kernel) (by decide) rfl (by decide) q_o2 rfl rfl dX2_countFaults_14 (Nat.le_of_ble_eq_true rfl) rfl (k_I ?_)
        show Z sc ia la [(2, .int (nI i)), (1, .int (nI (s_cn (s_isf ia n) i))), (0, .ref (G.2.1 2))] 17 [.int (s_flt ia n i)]
        refine z_if_eq (pc' := 20) C 23 dX2_countFaults_17 rfl rfl (fun h_17 => ?_) (fun h_17 => ?_)
        · refine z_iinc (v := nI (i + 1)) (k9 := 0) (lv' := [(2, .int (nI (i + 1))), (1, .int (nI (s_cn (s_isf ia n) i))), (0, .ref (G.2.1 2))]) (pc' := 26) C dX2_countFaults_23 rfl (nI_1 i) (by decide) rfl rfl ?_
          refine z_goto (pc' := 4) C dX2_countFaults_26 rfl ?_
          exact z_cast rfl rfl rfl (by first | rfl | (simp [s_cn, s_isf, h_17])) rfl (ih4 (i + 1) (by omega) (by omega))
        · refine z_iinc (v := nI (s_cn (s_isf ia n) i + 1)) (k9 := 1) (lv' := [(1, .int (nI (s_cn (s_isf ia n) i + 1))), (2, .int (nI i)), (0, .ref (G.2.1 2))]) (pc' := 23) C dX2_countFaults_20 rfl (nI_1 (s_cn (s_isf ia n) i)) (by decide) rfl rfl ?_
          refine z_iinc (v := nI (i + 1)) (k9 := 1) (lv' := [(2, .int (nI (i + 1))), (1, .int (nI (s_cn (s_isf ia n) i + 1))), (0, .ref (G.2.1 2))]) (pc' := 26) C dX2_countFaults_23 rfl (nI_1 i) (by decide) rfl rfl ?_
          refine z_goto (pc' := 4) C dX2_countFaults_26 rfl ?_
          exact z_cast rfl rfl rfl (by first | rfl | (simp [s_cn, s_isf, h_17])) rfl (ih4 (i + 1) (by omega) (by omega))
  exact z_cast rfl rfl rfl rfl rfl (L4 (_ + 1) 0 (by omega) (Nat.lt_succ_self _))

set_option maxHeartbeats 4000000 in
set_option maxRecDepth 100000 in
theorem c_X2_elementOfFault (l : Launch) (G : Gv) (sc : Sc) (ia : Ia) (la : La) (n : Nat) (hn : sc 0 = nI n) (hN : n ≤ 32) (k : Int32)   : Ct l yX2_elementOfFault wsX2_elementOfFault ({ frames := 3, cells := 0, slots := 0, locals := 65 }) G [.ref (G.2.1 2), .int k] sc ia la (fI (s_ef ia n k) sc ia la) := by
  have hU2 : ∀ w ∈ u_ws RX2 TX2 9, w ∈ wsX2_elementOfFault := fun w h => List.mem_cons_of_mem _ (List.mem_append_right _ h)
  refine z_of (maxL := 4) (own := RX2) [(0, .ref (G.2.1 2)), (1, .int k)] rfl (by decide +kernel) rfl (Nat.le_of_ble_eq_true rfl) rfl (fun Z C E => ?_)
  refine z_iconst (v := 0) (pc' := 1) C dX2_elementOfFault_0 rfl rfl ?_
  refine z_istore_n (lv' := [(2, .int 0), (0, .ref (G.2.1 2)), (1, .int k)]) (pc' := 2) C dX2_elementOfFault_1 rfl (by decide) rfl rfl ?_
  refine z_iconst (v := 0) (pc' := 3) C dX2_elementOfFault_2 rfl rfl ?_
  refine z_istore_n (lv' := [(3, .int 0), (2, .int 0), (0, .ref (G.2.1 2)), (1, .int k)]) (pc' := 4) C dX2_elementOfFault_3 rfl (by decide) rfl rfl ?_
  have L4 : ∀ (fuel : Nat) (i : Nat) (hi : i ≤ n) (ha : ∀ j, j < i → (fun i => s_isf ia n i && decide (nI (s_cn (s_isf ia n) i) = k)) j = false), n - i < fuel → Z sc ia la [(3, .int (nI i)), (2, .int (nI (s_cn (s_isf ia n) i))), (0, .ref (G.2.1 2)), (1, .int k)] 4 [] := by
    intro fuel
    induction fuel with
    | zero => intro i hi ha hm4; exact absurd hm4 (Nat.not_lt_zero _)
    | succ fuel ih4 =>
      intro i hi ha hm4
      refine z_iload_n (pc' := 5) C dX2_elementOfFault_4 rfl 0 rfl rfl ?_
      refine z_aload_n (pc' := 6) C dX2_elementOfFault_5 rfl 2 rfl rfl ?_
      refine z_get (pc' := 9) C hU2 2 (by decide) q_o2 rfl 0 (by decide) (by decide +kernel) (v := .int (sc 0)) rfl dX2_elementOfFault_6 rfl ?_
      refine z_cast (st' := [.int (nI n), .int (nI i)]) rfl rfl rfl rfl (congrArg (fun z => Value.int z :: [.int (nI i)]) hn) ?_
      refine z_icmpN_ge (a := i) (b := n) (pc' := 12) C 36 (by omega) (by omega) dX2_elementOfFault_9 rfl rfl (fun h_9 => ?_) (fun h_9 => ?_)
      · refine z_iconst (v := -1) (pc' := 37) C dX2_elementOfFault_36 rfl rfl ?_
        exact z_iret (E := E) rfl dX2_elementOfFault_37 ⟨(congrArg (fun z => some (Value.int z)) (show _ = _ from (by first | rfl | (have e9 : i = n := (by omega); subst e9; show _ = s_oi _; rw [s_fi_n ha]; rfl)))), rfl, rfl, rfl⟩
      · refine z_aload_n (pc' := 13) C dX2_elementOfFault_12 rfl 2 rfl rfl ?_
        refine z_iload_n (pc' := 14) C dX2_elementOfFault_13 rfl 0 rfl rfl ?_
        refine z_cV (n := 1) (pc' := 17) (As := [.int (nI i)]) (rest := []) C 2 (c_X2_faultOf l G sc ia la n hn hN i) gX2_elementOfFault_X2_faultOf rfl rfl rfl rfl (by decide +kernel) (by decide) rfl (by decide) q_o2 rfl rfl dX2_elementOfFault_14 (Nat.le_of_ble_eq_true rfl) rfl (k_I ?_)
        show Z sc ia la [(3, .int (nI i)), (2, .int (nI (s_cn (s_isf ia n) i))), (0, .ref (G.2.1 2)), (1, .int k)] 17 [.int (s_flt ia n i)]
        refine z_if_eq (pc' := 20) C 30 dX2_elementOfFault_17 rfl rfl (fun h_17 => ?_) (fun h_17 => ?_)
        · refine z_iinc (v := nI (i + 1)) (k9 := 0) (lv' := [(3, .int (nI (i + 1))), (2, .int (nI (s_cn (s_isf ia n) i))), (0, .ref (G.2.1 2)), (1, .int k)]) (pc' := 33) C dX2_elementOfFault_30 rfl (nI_1 i) (by decide) rfl rfl ?_
          refine z_goto (pc' := 4) C dX2_elementOfFault_33 rfl ?_
          exact z_cast rfl rfl rfl (by first | rfl | (simp [s_cn, s_isf, h_17])) rfl (ih4 (i + 1) (by omega) (by exact s_lt_s ha (by simp [s_isf, hi, ha, h_9, h_17])) (by omega))
        · refine z_iload_n (pc' := 21) C dX2_elementOfFault_20 rfl 1 rfl rfl ?_
          refine z_iload_n (pc' := 22) C dX2_elementOfFault_21 rfl 3 rfl rfl ?_
          refine z_icmp_ne (pc' := 25) C 27 dX2_elementOfFault_22 rfl rfl (fun h_22 => ?_) (fun h_22 => ?_)
          · refine z_iinc (v := nI (s_cn (s_isf ia n) i + 1)) (k9 := 1) (lv' := [(2, .int (nI (s_cn (s_isf ia n) i + 1))), (3, .int (nI i)), (0, .ref (G.2.1 2)), (1, .int k)]) (pc' := 30) C dX2_elementOfFault_27 rfl (nI_1 (s_cn (s_isf ia n) i)) (by decide) rfl rfl ?_
            refine z_iinc (v := nI (i + 1)) (k9 := 1) (lv' := [(3, .int (nI (i + 1))), (2, .int (nI (s_cn (s_isf ia n) i + 1))), (0, .ref (G.2.1 2)), (1, .int k)]) (pc' := 33) C dX2_elementOfFault_30 rfl (nI_1 i) (by decide) rfl rfl ?_
            refine z_goto (pc' := 4) C dX2_elementOfFault_33 rfl ?_
            exact z_cast rfl rfl rfl (by first | rfl | (simp [s_cn, s_isf, h_17])) rfl (ih4 (i + 1) (by omega) (by exact s_lt_s ha (by simp [s_isf, hi, ha, h_9, h_17, h_22])) (by omega))
          · refine z_iload_n (pc' := 26) C dX2_elementOfFault_25 rfl 0 rfl rfl ?_
            exact z_iret (E := E) rfl dX2_elementOfFault_26 ⟨(congrArg (fun z => some (Value.int z)) (show _ = _ from (by first | rfl | (show _ = s_oi _; rw [s_fi_s (i := i) ha (by omega) (by simp [s_isf, h_17, h_22])]; rfl)))), rfl, rfl, rfl⟩
  exact z_cast rfl rfl rfl rfl rfl (L4 (_ + 1) 0 (by omega) (fun j h => absurd h (Nat.not_lt_zero j)) (Nat.lt_succ_self _))

set_option maxHeartbeats 4000000 in
set_option maxRecDepth 100000 in
theorem c_X2_foldInto (l : Launch) (G : Gv) (sc : Sc) (ia : Ia) (la : La) (n : Nat) (hn : sc 0 = nI n) (hN : n ≤ 32) (h : Int64)   : Ct l yX2_foldInto wsX2_foldInto ({ frames := 2, cells := 0, slots := 0, locals := 46 }) G [.ref (G.2.1 2), .long h] sc ia la (fL (s_nf ia (s_fo h (nI n).toInt64) n) sc ia la) := by
  have hU2 : ∀ w ∈ u_ws RX2 TX2 9, w ∈ wsX2_foldInto := fun w h => List.mem_cons_of_mem _ (List.mem_append_right _ h)
  refine z_of (maxL := 6) (own := RX2) [(0, .ref (G.2.1 2)), (1, .long h)] rfl (by decide +kernel) rfl (Nat.le_of_ble_eq_true rfl) rfl (fun Z C E => ?_)
  refine z_lload_n (pc' := 1) C dX2_foldInto_0 rfl 1 rfl rfl ?_
  refine z_aload_n (pc' := 2) C dX2_foldInto_1 rfl 0 rfl rfl ?_
  refine z_get (pc' := 5) C hU2 2 (by decide) q_o2 rfl 0 (by decide) (by decide +kernel) (v := .int (sc 0)) rfl dX2_foldInto_2 rfl ?_
  refine z_cast (st' := [.int (nI n), .long h]) rfl rfl rfl rfl (congrArg (fun z => Value.int z :: [.long h]) hn) ?_
  refine z_i2l (pc' := 6) C dX2_foldInto_5 rfl ?_
  refine z_cN (n := 2) (pc' := 9) (As := [.long h, .long ((nI n).toInt64)]) (rest := []) C (c_X5_fold l G sc ia la h ((nI n).toInt64)) gX2_foldInto_X5_fold_n88 rfl rfl rfl (by decide +kernel) (by decide +kernel) (by decide +kernel) (by decide +kernel) (by decide) rfl rfl dX2_foldInto_6 (Nat.le_of_ble_eq_true rfl) rfl (k_L ?_)
  show Z sc ia la [(0, .ref (G.2.1 2)), (1, .long h)] 9 [.long (s_fo h ((nI n).toInt64))]
  refine z_lstore_n (lv' := [(3, .long (s_fo h ((nI n).toInt64))), (0, .ref (G.2.1 2)), (1, .long h)]) (pc' := 10) C dX2_foldInto_9 rfl (by decide) rfl rfl ?_
  refine z_iconst (v := 0) (pc' := 11) C dX2_foldInto_10 rfl rfl ?_
  refine z_istore (lv' := [(5, .int 0), (3, .long (s_fo h ((nI n).toInt64))), (0, .ref (G.2.1 2)), (1, .long h)]) (pc' := 13) C dX2_foldInto_11 (by decide) rfl rfl ?_
  have L13 : ∀ (fuel : Nat) (i : Nat) (hi : i ≤ n), n - i < fuel → Z sc ia la [(5, .int (nI i)), (3, .long (s_nf ia (s_fo h (nI n).toInt64) i)), (0, .ref (G.2.1 2))] 13 [] := by
    intro fuel
    induction fuel with
    | zero => intro i hi hm13; exact absurd hm13 (Nat.not_lt_zero _)
    | succ fuel ih13 =>
      intro i hi hm13
      refine z_iload (pc' := 15) C dX2_foldInto_13 0 rfl rfl ?_
      refine z_aload_n (pc' := 16) C dX2_foldInto_15 rfl 2 rfl rfl ?_
      refine z_get (pc' := 19) C hU2 2 (by decide) q_o2 rfl 0 (by decide) (by decide +kernel) (v := .int (sc 0)) rfl dX2_foldInto_16 rfl ?_
      refine z_cast (st' := [.int (nI n), .int (nI i)]) rfl rfl rfl rfl (congrArg (fun z => Value.int z :: [.int (nI i)]) hn) ?_
      refine z_icmpN_ge (a := i) (b := n) (pc' := 22) C 119 (by omega) (by omega) dX2_foldInto_19 rfl rfl (fun h_19 => ?_) (fun h_19 => ?_)
      · refine z_lload_n (pc' := 120) C dX2_foldInto_119 rfl 1 rfl rfl ?_
        exact z_lret (E := E) rfl dX2_foldInto_120 ⟨(congrArg (fun z => some (Value.long z)) (show _ = _ from (by first | rfl | (have e9 : i = n := (by omega); subst e9; rfl)))), rfl, rfl, rfl⟩
      · refine z_lload_n (pc' := 23) C dX2_foldInto_22 rfl 1 rfl rfl ?_
        refine z_aload_n (pc' := 24) C dX2_foldInto_23 rfl 2 rfl rfl ?_
        refine z_get (pc' := 27) C hU2 2 (by decide) q_o2 rfl 1 (by decide) (by decide +kernel) (v := .ref (G.2.1 7)) rfl dX2_foldInto_24 rfl ?_
        refine z_iload (pc' := 29) C dX2_foldInto_27 0 rfl rfl ?_
        refine z_iald (pc' := 30) C 7 (by decide) (N := 32) (i := i) (f := ia 0) q_i0 (by omega) (by decide) dX2_foldInto_29 rfl ?_
        refine z_i2l (pc' := 31) C dX2_foldInto_30 rfl ?_
        refine z_cN (n := 2) (pc' := 34) (As := [.long (s_nf ia (s_fo h (nI n).toInt64) i), .long (((ia 0) i).toInt64)]) (rest := []) C (c_X5_fold l G sc ia la (s_nf ia (s_fo h (nI n).toInt64) i) (((ia 0) i).toInt64)) gX2_foldInto_X5_fold_n88 rfl rfl rfl (by decide +kernel) (by decide +kernel) (by decide +kernel) (by decide +kernel) (by decide) rfl rfl dX2_foldInto_31 (Nat.le_of_ble_eq_true rfl) rfl (k_L ?_)
        show Z sc ia la [(5, .int (nI i)), (3, .long (s_nf ia (s_fo h (nI n).toInt64) i)), (0, .ref (G.2.1 2))] 34 [.long (s_fo (s_nf ia (s_fo h (nI n).toInt64) i) (((ia 0) i).toInt64))]
        refine z_lstore_n (lv' := [(3, .long (s_fo (s_nf ia (s_fo h (nI n).toInt64) i) (((ia 0) i).toInt64))), (5, .int (nI i)), (0, .ref (G.2.1 2))]) (pc' := 35) C dX2_foldInto_34 rfl (by decide) rfl rfl ?_
        refine z_lload_n (pc' := 36) C dX2_foldInto_35 rfl 0 rfl rfl ?_
        refine z_aload_n (pc' := 37) C dX2_foldInto_36 rfl 2 rfl rfl ?_
        refine z_get (pc' := 40) C hU2 2 (by decide) q_o2 rfl 3 (by decide) (by decide +kernel) (v := .ref (G.2.1 9)) rfl dX2_foldInto_37 rfl ?_
        refine z_iload (pc' := 42) C dX2_foldInto_40 1 rfl rfl ?_
        refine z_iald (pc' := 43) C 9 (by decide) (N := 32) (i := i) (f := ia 2) q_i2 (by omega) (by decide) dX2_foldInto_42 rfl ?_
        refine z_i2l (pc' := 44) C dX2_foldInto_43 rfl ?_
        refine z_cN (n := 2) (pc' := 47) (As := [.long (s_fo (s_nf ia (s_fo h (nI n).toInt64) i) (((ia 0) i).toInt64)), .long (((ia 2) i).toInt64)]) (rest := []) C (c_X5_fold l G sc ia la (s_fo (s_nf ia (s_fo h (nI n).toInt64) i) (((ia 0) i).toInt64)) (((ia 2) i).toInt64)) gX2_foldInto_X5_fold_n88 rfl rfl rfl (by decide +kernel) (by decide +kernel) (by decide +kernel) (by decide +kernel) (by decide) rfl rfl dX2_foldInto_44 (Nat.le_of_ble_eq_true rfl) rfl (k_L ?_)
        show Z sc ia la [(3, .long (s_fo (s_nf ia (s_fo h (nI n).toInt64) i) (((ia 0) i).toInt64))), (5, .int (nI i)), (0, .ref (G.2.1 2))] 47 [.long (s_fo (s_fo (s_nf ia (s_fo h (nI n).toInt64) i) (((ia 0) i).toInt64)) (((ia 2) i).toInt64))]
        refine z_lstore_n (lv' := [(3, .long (s_fo (s_fo (s_nf ia (s_fo h (nI n).toInt64) i) (((ia 0) i).toInt64)) (((ia 2) i).toInt64))), (5, .int (nI i)), (0, .ref (G.2.1 2))]) (pc' := 48) C dX2_foldInto_47 rfl (by decide) rfl rfl ?_
        refine z_lload_n (pc' := 49) C dX2_foldInto_48 rfl 0 rfl rfl ?_
        refine z_aload_n (pc' := 50) C dX2_foldInto_49 rfl 2 rfl rfl ?_
        refine z_get (pc' := 53) C hU2 2 (by decide) q_o2 rfl 4 (by decide) (by decide +kernel) (v := .ref (G.2.1 10)) rfl dX2_foldInto_50 rfl ?_
        refine z_iload (pc' := 55) C dX2_foldInto_53 1 rfl rfl ?_
        refine z_iald (pc' := 56) C 10 (by decide) (N := 32) (i := i) (f := ia 3) q_i3 (by omega) (by decide) dX2_foldInto_55 rfl ?_
        refine z_i2l (pc' := 57) C dX2_foldInto_56 rfl ?_
        refine z_cN (n := 2) (pc' := 60) (As := [.long (s_fo (s_fo (s_nf ia (s_fo h (nI n).toInt64) i) (((ia 0) i).toInt64)) (((ia 2) i).toInt64)), .long (((ia 3) i).toInt64)]) (rest := []) C (c_X5_fold l G sc ia la (s_fo (s_fo (s_nf ia (s_fo h (nI n).toInt64) i) (((ia 0) i).toInt64)) (((ia 2) i).toInt64)) (((ia 3) i).toInt64)) gX2_foldInto_X5_fold_n88 rfl rfl rfl (by decide +kernel) (by decide +kernel) (by decide +kernel) (by decide +kernel) (by decide) rfl rfl dX2_foldInto_57 (Nat.le_of_ble_eq_true rfl) rfl (k_L ?_)
        show Z sc ia la [(3, .long (s_fo (s_fo (s_nf ia (s_fo h (nI n).toInt64) i) (((ia 0) i).toInt64)) (((ia 2) i).toInt64))), (5, .int (nI i)), (0, .ref (G.2.1 2))] 60 [.long (s_fo (s_fo (s_fo (s_nf ia (s_fo h (nI n).toInt64) i) (((ia 0) i).toInt64)) (((ia 2) i).toInt64)) (((ia 3) i).toInt64))]
        refine z_lstore_n (lv' := [(3, .long (s_fo (s_fo (s_fo (s_nf ia (s_fo h (nI n).toInt64) i) (((ia 0) i).toInt64)) (((ia 2) i).toInt64)) (((ia 3) i).toInt64))), (5, .int (nI i)), (0, .ref (G.2.1 2))]) (pc' := 61) C dX2_foldInto_60 rfl (by decide) rfl rfl ?_
        refine z_lload_n (pc' := 62) C dX2_foldInto_61 rfl 0 rfl rfl ?_
        refine z_aload_n (pc' := 63) C dX2_foldInto_62 rfl 2 rfl rfl ?_
        refine z_get (pc' := 66) C hU2 2 (by decide) q_o2 rfl 7 (by decide) (by decide +kernel) (v := .ref (G.2.1 13)) rfl dX2_foldInto_63 rfl ?_
        refine z_iload (pc' := 68) C dX2_foldInto_66 1 rfl rfl ?_
        refine z_zald (pc' := 69) C 13 (by decide) (N := 32) (i := i) (f := ia 6) q_i6 (by omega) (by decide) dX2_foldInto_68 rfl ?_
        have J77 : Z sc ia la [(3, .long (s_fo (s_fo (s_fo (s_nf ia (s_fo h (nI n).toInt64) i) (((ia 0) i).toInt64)) (((ia 2) i).toInt64)) (((ia 3) i).toInt64))), (5, .int (nI i)), (0, .ref (G.2.1 2))] 77 [.long (if ia 6 i = 0 then 0 else 1), .long (s_fo (s_fo (s_fo (s_nf ia (s_fo h (nI n).toInt64) i) (((ia 0) i).toInt64)) (((ia 2) i).toInt64)) (((ia 3) i).toInt64))] := by
          refine z_cN (n := 2) (pc' := 80) (As := [.long (s_fo (s_fo (s_fo (s_nf ia (s_fo h (nI n).toInt64) i) (((ia 0) i).toInt64)) (((ia 2) i).toInt64)) (((ia 3) i).toInt64)), .long (if ia 6 i = 0 then 0 else 1)]) (rest := []) C (c_X5_fold l G sc ia la (s_fo (s_fo (s_fo (s_nf ia (s_fo h (nI n).toInt64) i) (((ia 0) i).toInt64)) (((ia 2) i).toInt64)) (((ia 3) i).toInt64)) (if ia 6 i = 0 then 0 else 1)) gX2_foldInto_X5_fold_n88 rfl rfl rfl (by decide +kernel) (by decide +kernel) (by decide +kernel) (by decide +kernel) (by decide) rfl rfl dX2_foldInto_77 (Nat.le_of_ble_eq_true rfl) rfl (k_L ?_)
          show Z sc ia la [(3, .long (s_fo (s_fo (s_fo (s_nf ia (s_fo h (nI n).toInt64) i) (((ia 0) i).toInt64)) (((ia 2) i).toInt64)) (((ia 3) i).toInt64))), (5, .int (nI i)), (0, .ref (G.2.1 2))] 80 [.long (s_fo (s_fo (s_fo (s_fo (s_nf ia (s_fo h (nI n).toInt64) i) (((ia 0) i).toInt64)) (((ia 2) i).toInt64)) (((ia 3) i).toInt64)) (if ia 6 i = 0 then 0 else 1))]
          refine z_lstore_n (lv' := [(3, .long (s_fo (s_fo (s_fo (s_fo (s_nf ia (s_fo h (nI n).toInt64) i) (((ia 0) i).toInt64)) (((ia 2) i).toInt64)) (((ia 3) i).toInt64)) (if ia 6 i = 0 then 0 else 1))), (5, .int (nI i)), (0, .ref (G.2.1 2))]) (pc' := 81) C dX2_foldInto_80 rfl (by decide) rfl rfl ?_
          refine z_lload_n (pc' := 82) C dX2_foldInto_81 rfl 0 rfl rfl ?_
          refine z_aload_n (pc' := 83) C dX2_foldInto_82 rfl 2 rfl rfl ?_
          refine z_get (pc' := 86) C hU2 2 (by decide) q_o2 rfl 8 (by decide) (by decide +kernel) (v := .ref (G.2.1 14)) rfl dX2_foldInto_83 rfl ?_
          refine z_iload (pc' := 88) C dX2_foldInto_86 1 rfl rfl ?_
          refine z_zald (pc' := 89) C 14 (by decide) (N := 32) (i := i) (f := ia 7) q_i7 (by omega) (by decide) dX2_foldInto_88 rfl ?_
          refine z_aload_n (pc' := 90) C dX2_foldInto_89 rfl 2 rfl rfl ?_
          refine z_get (pc' := 93) C hU2 2 (by decide) q_o2 rfl 5 (by decide) (by decide +kernel) (v := .ref (G.2.1 11)) rfl dX2_foldInto_90 rfl ?_
          refine z_iload (pc' := 95) C dX2_foldInto_93 1 rfl rfl ?_
          refine z_iald (pc' := 96) C 11 (by decide) (N := 32) (i := i) (f := ia 4) q_i4 (by omega) (by decide) dX2_foldInto_95 rfl ?_
          refine z_cN (n := 3) (pc' := 99) (As := [.long (s_fo (s_fo (s_fo (s_fo (s_nf ia (s_fo h (nI n).toInt64) i) (((ia 0) i).toInt64)) (((ia 2) i).toInt64)) (((ia 3) i).toInt64)) (if ia 6 i = 0 then 0 else 1)), .int ((ia 7) i), .int ((ia 4) i)]) (rest := []) C (c_X5_foldIfKnown l G sc ia la (s_fo (s_fo (s_fo (s_fo (s_nf ia (s_fo h (nI n).toInt64) i) (((ia 0) i).toInt64)) (((ia 2) i).toInt64)) (((ia 3) i).toInt64)) (if ia 6 i = 0 then 0 else 1)) ((ia 7) i) ((ia 4) i)) gX2_foldInto_X5_foldIfKnown_n92 rfl rfl rfl (by decide +kernel) (by decide +kernel) (by decide +kernel) (by decide +kernel) (by decide) rfl rfl dX2_foldInto_96 (Nat.le_of_ble_eq_true rfl) rfl (k_L ?_)
          show Z sc ia la [(3, .long (s_fo (s_fo (s_fo (s_fo (s_nf ia (s_fo h (nI n).toInt64) i) (((ia 0) i).toInt64)) (((ia 2) i).toInt64)) (((ia 3) i).toInt64)) (if ia 6 i = 0 then 0 else 1))), (5, .int (nI i)), (0, .ref (G.2.1 2))] 99 [.long (s_fk (s_fo (s_fo (s_fo (s_fo (s_nf ia (s_fo h (nI n).toInt64) i) (((ia 0) i).toInt64)) (((ia 2) i).toInt64)) (((ia 3) i).toInt64)) (if ia 6 i = 0 then 0 else 1)) ((ia 7) i) ((ia 4) i))]
          refine z_lstore_n (lv' := [(3, .long (s_fk (s_fo (s_fo (s_fo (s_fo (s_nf ia (s_fo h (nI n).toInt64) i) (((ia 0) i).toInt64)) (((ia 2) i).toInt64)) (((ia 3) i).toInt64)) (if ia 6 i = 0 then 0 else 1)) ((ia 7) i) ((ia 4) i))), (5, .int (nI i)), (0, .ref (G.2.1 2))]) (pc' := 100) C dX2_foldInto_99 rfl (by decide) rfl rfl ?_
          refine z_lload_n (pc' := 101) C dX2_foldInto_100 rfl 0 rfl rfl ?_
          refine z_aload_n (pc' := 102) C dX2_foldInto_101 rfl 2 rfl rfl ?_
          refine z_get (pc' := 105) C hU2 2 (by decide) q_o2 rfl 6 (by decide) (by decide +kernel) (v := .ref (G.2.1 12)) rfl dX2_foldInto_102 rfl ?_
          refine z_iload (pc' := 107) C dX2_foldInto_105 1 rfl rfl ?_
          refine z_iald (pc' := 108) C 12 (by decide) (N := 32) (i := i) (f := ia 5) q_i5 (by omega) (by decide) dX2_foldInto_107 rfl ?_
          refine z_i2l (pc' := 109) C dX2_foldInto_108 rfl ?_
          refine z_cN (n := 2) (pc' := 112) (As := [.long (s_fk (s_fo (s_fo (s_fo (s_fo (s_nf ia (s_fo h (nI n).toInt64) i) (((ia 0) i).toInt64)) (((ia 2) i).toInt64)) (((ia 3) i).toInt64)) (if ia 6 i = 0 then 0 else 1)) ((ia 7) i) ((ia 4) i)), .long (((ia 5) i).toInt64)]) (rest := []) C (c_X5_fold l G sc ia la (s_fk (s_fo (s_fo (s_fo (s_fo (s_nf ia (s_fo h (nI n).toInt64) i) (((ia 0) i).toInt64)) (((ia 2) i).toInt64)) (((ia 3) i).toInt64)) (if ia 6 i = 0 then 0 else 1)) ((ia 7) i) ((ia 4) i)) (((ia 5) i).toInt64)) gX2_foldInto_X5_fold_n88 rfl rfl rfl (by decide +kernel) (by decide +kernel) (by decide +kernel) (by decide +kernel) (by decide) rfl rfl dX2_foldInto_109 (Nat.le_of_ble_eq_true rfl) rfl (k_L ?_)
          show Z sc ia la [(3, .long (s_fk (s_fo (s_fo (s_fo (s_fo (s_nf ia (s_fo h (nI n).toInt64) i) (((ia 0) i).toInt64)) (((ia 2) i).toInt64)) (((ia 3) i).toInt64)) (if ia 6 i = 0 then 0 else 1)) ((ia 7) i) ((ia 4) i))), (5, .int (nI i)), (0, .ref (G.2.1 2))] 112 [.long (s_fo (s_fk (s_fo (s_fo (s_fo (s_fo (s_nf ia (s_fo h (nI n).toInt64) i) (((ia 0) i).toInt64)) (((ia 2) i).toInt64)) (((ia 3) i).toInt64)) (if ia 6 i = 0 then 0 else 1)) ((ia 7) i) ((ia 4) i)) (((ia 5) i).toInt64))]
          refine z_lstore_n (lv' := [(3, .long (s_fo (s_fk (s_fo (s_fo (s_fo (s_fo (s_nf ia (s_fo h (nI n).toInt64) i) (((ia 0) i).toInt64)) (((ia 2) i).toInt64)) (((ia 3) i).toInt64)) (if ia 6 i = 0 then 0 else 1)) ((ia 7) i) ((ia 4) i)) (((ia 5) i).toInt64))), (5, .int (nI i)), (0, .ref (G.2.1 2))]) (pc' := 113) C dX2_foldInto_112 rfl (by decide) rfl rfl ?_
          refine z_iinc (v := nI (i + 1)) (k9 := 1) (lv' := [(5, .int (nI (i + 1))), (3, .long (s_fo (s_fk (s_fo (s_fo (s_fo (s_fo (s_nf ia (s_fo h (nI n).toInt64) i) (((ia 0) i).toInt64)) (((ia 2) i).toInt64)) (((ia 3) i).toInt64)) (if ia 6 i = 0 then 0 else 1)) ((ia 7) i) ((ia 4) i)) (((ia 5) i).toInt64))), (0, .ref (G.2.1 2))]) (pc' := 116) C dX2_foldInto_113 rfl (nI_1 i) (by decide) rfl rfl ?_
          refine z_goto (pc' := 13) C dX2_foldInto_116 rfl ?_
          exact z_cast rfl rfl rfl rfl rfl (ih13 (i + 1) (by omega) (by omega))
        refine z_if_eq (pc' := 72) C 76 dX2_foldInto_69 rfl rfl (fun h_69 => ?_) (fun h_69 => ?_)
        · refine z_lconst (v := 0) (pc' := 77) C dX2_foldInto_76 rfl rfl ?_
          exact z_cast rfl rfl rfl rfl (by first | rfl | (simp [bI, hi, h_19, h_69])) J77
        · refine z_lconst (v := 1) (pc' := 73) C dX2_foldInto_72 rfl rfl ?_
          refine z_goto (pc' := 77) C dX2_foldInto_73 rfl ?_
          exact z_cast rfl rfl rfl rfl (by first | rfl | (simp [bI, hi, h_19, h_69])) J77
  refine z_sub (lv' := [(5, .int 0), (3, .long (s_fo h ((nI n).toInt64))), (0, .ref (G.2.1 2))]) C [0, 1, 2] rfl ?_
  exact z_cast rfl rfl rfl rfl rfl (L13 (_ + 1) 0 (by omega) (Nat.lt_succ_self _))

