
theorem vs_eq {α : Type} (f : Nat → α) (k : Nat) (v : α) : va_up f k v k = v := if_pos rfl
def s_lo (ia : Ia) (i : Nat) : Bool := !decide (ia 6 i = 0)
def s_ul (ia : Ia) : Nat → (Nat → Int32)
  | 0 => ia 8
  | i + 1 => if s_lo ia i = true then upd (s_ul ia i) (s_cn (s_lo ia) i) (nI i) else s_ul ia i
theorem s_cn_mono (p : Nat → Bool) {i n : Nat} (h : i ≤ n) : s_cn p i ≤ s_cn p n := by
  induction n with
  | zero => rw [Nat.le_zero.mp h]; exact Nat.le_refl _
  | succ n ih =>
    by_cases e : i = n + 1
    · rw [e]; exact Nat.le_refl _
    · have := ih (by omega)
      have h2 : s_cn p (n + 1) = if p n = true then s_cn p n + 1 else s_cn p n := rfl
      rw [h2]
      split <;> omega
theorem s_ul_same (ia : Ia) {i n : Nat} (h : i ≤ n) (hc : s_cn (s_lo ia) n = s_cn (s_lo ia) i) : s_ul ia n = s_ul ia i := by
  induction n with
  | zero => rw [Nat.le_zero.mp h]
  | succ n ih =>
    by_cases e : i = n + 1
    · rw [e]
    · have h1 := s_cn_mono (s_lo ia) (show i ≤ n by omega)
      by_cases hp : s_lo ia n = true
      · have h2 : s_cn (s_lo ia) (n + 1) = s_cn (s_lo ia) n + 1 := by simp [s_cn, hp]
        omega
      · have h2 : s_cn (s_lo ia) (n + 1) = s_cn (s_lo ia) n := by simp [s_cn, hp]
        have h3 : s_ul ia (n + 1) = s_ul ia n := by simp [s_ul, hp]
        rw [h3]
        exact ih (by omega) (by omega)
/-- the right side of an equation, c lost places taken off -/
def s_wr (ia : Ia) (u : Nat → Nat) (j : Nat) : Nat → Int64
  | 0 => (ia 1 j).toInt64
  | c + 1 => s_wr ia u j c - (ia 0 (u c)).toInt64 * (s_sgn (nI (u c)) (nI j)).toInt64
def s_we (la : La) (u : Nat → Nat) (r j : Nat) : Nat → La
  | 0 => la
  | c + 1 => va_up (s_we la u r j c) r (vp_updL (s_we la u r j c r) c (s_sgn (nI (u c)) (nI j)).toInt64)
def s_weq (la : La) (ia : Ia) (u : Nat → Nat) (w r j : Nat) : La := va_up (s_we la u r j w) r (vp_updL (s_we la u r j w r) w (-(s_wr ia u j w)))
def s_np (m v : Int32) (j : Nat) : Bool := !s_pass (nI j) m v
def s_wes (la : La) (ia : Ia) (u : Nat → Nat) (w : Nat) (m v : Int32) : Nat → La
  | 0 => la
  | j + 1 => if s_np m v j = true then s_weq (s_wes la ia u w m v j) ia u w (s_cn (s_np m v) j) j else s_wes la ia u w m v j
def s_fp (la : La) (f c h : Nat) : Option Nat := s_fi (fun d => !decide (la (f + d) c = 0)) (h - f)
def s_sw (la : La) (r s : Nat) : Nat → La
  | 0 => la
  | c + 1 =>
    let L := s_sw la r s c
    let L1 : La := va_up L r (vp_updL (L r) c (L s c))
    va_up L1 s (vp_updL (L1 s) c (L r c))
def s_dv (x b : Int64) : Int64 := if b = 0 then x else x / b
def s_cr (la : La) (pr r : Nat) (piv fac bef : Int64) : Nat → La
  | 0 => la
  | c + 1 => va_up (s_cr la pr r piv fac bef c) r (vp_updL (s_cr la pr r piv fac bef c r) c (s_dv (piv * s_cr la pr r piv fac bef c r c - fac * s_cr la pr r piv fac bef c pr c) bef))
def s_cc (la : La) (pr q w : Nat) (bef : Int64) : Nat → La
  | 0 => la
  | r + 1 => if r = pr then s_cc la pr q w bef r else s_cr (s_cc la pr q w bef r) pr r (la pr q) (s_cc la pr q w bef r r q) bef (w + 1)
/-- the elimination behind c columns: the rank, the pivot before, the rows -/
def s_rd (la : La) (w h : Nat) : Nat → Nat × Int64 × La
  | 0 => (0, 1, la)
  | c + 1 =>
    let x := s_rd la w h c
    match s_fp x.2.2 x.1 c h with
    | none => x
    | some d =>
      let L := s_cc (s_sw x.2.2 x.1 (x.1 + d) (w + 1)) x.1 c w x.2.1 h
      (x.1 + 1, L x.1 c, L)
theorem s_rd_le (la : La) (w h : Nat) : ∀ c, (s_rd la w h c).1 ≤ c ∧ (s_rd la w h c).1 ≤ h
  | 0 => ⟨Nat.le_refl 0, Nat.zero_le _⟩
  | c + 1 => by
    obtain ⟨h1, h2⟩ := s_rd_le la w h c
    unfold s_rd
    dsimp only
    cases e : s_fp (s_rd la w h c).2.2 (s_rd la w h c).1 c h with
    | none => exact ⟨by dsimp only; omega, h2⟩
    | some d =>
      have := (s_fi_lt e).1
      exact ⟨by dsimp only; omega, by dsimp only; omega⟩
theorem s_rd_n {la : La} {w h c : Nat} (e : s_fp (s_rd la w h c).2.2 (s_rd la w h c).1 c h = none) : s_rd la w h (c + 1) = s_rd la w h c := by
  conv => lhs; unfold s_rd
  dsimp only
  rw [e]
theorem s_rd_s {la : La} {w h c d : Nat} (e : s_fp (s_rd la w h c).2.2 (s_rd la w h c).1 c h = some d) : s_rd la w h (c + 1) = ((s_rd la w h c).1 + 1, s_cc (s_sw (s_rd la w h c).2.2 (s_rd la w h c).1 ((s_rd la w h c).1 + d) (w + 1)) (s_rd la w h c).1 c w (s_rd la w h c).2.1 h (s_rd la w h c).1 c, s_cc (s_sw (s_rd la w h c).2.2 (s_rd la w h c).1 ((s_rd la w h c).1 + d) (w + 1)) (s_rd la w h c).1 c w (s_rd la w h c).2.1 h) := by
  conv => lhs; unfold s_rd
  dsimp only
  rw [e]
def s_vd (x : Nat × Int64 × La) (w h : Nat) : Int32 := if s_all (fun d => decide (x.2.2 (x.1 + d) w = 0)) (h - x.1) = true then (if x.1 = w then 1 else 2) else 0
def s_absl (x : Int64) : Int64 := if 0 < x then x else -x
def s_eu : Nat → Int64 → Int64 → Int64
  | 0, a, _ => a
  | k + 1, a, b => if b = 0 then a else s_eu k b (a - a / b * b)
def s_cd (a b : Int64) : Int64 := s_eu 128 (s_absl a) (s_absl b)
def s_abv (la : La) (w c : Nat) : Int64 :=
  let v := if 0 ≤ la c c then la c w else -(la c w)
  if s_cd v (la c c) = 0 then v else v / s_cd v (la c c)
def s_bel (la : La) (w c : Nat) : Int64 := if s_cd (la c w) (la c c) = 0 then 1 else s_absl (la c c) / s_cd (la c w) (la c c)
def s_pt (la : La) (ia : Ia) (w : Nat) (pl part : Int32) : Int64 := match s_fi (fun c => decide (ia 8 c = pl)) w with
  | none => -9000000000000000001
  | some c => if part = 0 then s_abv la w c else s_bel la w c

set_option maxHeartbeats 4000000 in
set_option maxRecDepth 100000 in
theorem c_X1_listLost (l : Launch) (G : Gv) (sc : Sc) (ia : Ia) (la : La) (n : Nat) (hn : sc 0 = nI n) (hN : n ≤ 32) (hL : s_cn (s_lo ia) n ≤ 5)  : Ct l yX1_listLost wsX1_listLost ({ frames := 0, cells := 0, slots := 0, locals := 0 }) G [.ref (G.2.1 1), .ref (G.2.1 2)] sc ia la (fV (va_up sc 1 (nI (s_cn (s_lo ia) n))) (va_up ia 8 (s_ul ia n)) la) := by
  have hU1 : ∀ w ∈ u_ws RX1 TX1 4, w ∈ wsX1_listLost := fun w h => List.mem_cons_of_mem _ (List.mem_append_left _ (List.mem_append_right _ h))
  have hU2 : ∀ w ∈ u_ws RX2 TX2 9, w ∈ wsX1_listLost := fun w h => List.mem_cons_of_mem _ (List.mem_append_right _ h)
  refine z_of (maxL := 3) (own := RX1) [(0, .ref (G.2.1 1)), (1, .ref (G.2.1 2))] rfl (by decide +kernel) rfl (Nat.le_of_ble_eq_true rfl) rfl (fun Z C E => ?_)
  refine z_aload_n (pc' := 1) C dX1_listLost_0 rfl 0 rfl rfl ?_
  refine z_iconst (v := 0) (pc' := 2) C dX1_listLost_1 rfl rfl ?_
  refine z_put (pc' := 5) C hU1 tyX1 tyX1_ok nmX1 1 (by decide) q_o1 rfl 2 (by decide) (by decide +kernel) rfl rfl (Nat.le_of_ble_eq_true rfl) (q_s1 _) dX1_listLost_2 rfl ?_
  refine z_iconst (v := 0) (pc' := 6) C dX1_listLost_5 rfl rfl ?_
  refine z_istore_n (lv' := [(2, .int 0), (0, .ref (G.2.1 1)), (1, .ref (G.2.1 2))]) (pc' := 7) C dX1_listLost_6 rfl (by decide) rfl rfl ?_
  have L7 : ∀ (fuel : Nat) (i : Nat) (hi : i ≤ n), n - i < fuel → Z (va_up sc 1 (nI (s_cn (s_lo ia) i))) (va_up ia 8 (s_ul ia i)) la [(2, .int (nI i)), (0, .ref (G.2.1 1)), (1, .ref (G.2.1 2))] 7 [] := by
    intro fuel
    induction fuel with
    | zero => intro i hi hm7; exact absurd hm7 (Nat.not_lt_zero _)
    | succ fuel ih7 =>
      intro i hi hm7
      have hcl := s_cn_mono (s_lo ia) hi
      refine z_iload_n (pc' := 8) C dX1_listLost_7 rfl 0 rfl rfl ?_
      refine z_aload_n (pc' := 9) C dX1_listLost_8 rfl 2 rfl rfl ?_
      refine z_get (pc' := 12) C hU2 2 (by decide) q_o2 rfl 0 (by decide) (by decide +kernel) (v := .int (sc 0)) rfl dX1_listLost_9 rfl ?_
      refine z_cast (st' := [.int (nI n), .int (nI i)]) rfl rfl rfl rfl (congrArg (fun z => Value.int z :: [.int (nI i)]) hn) ?_
      refine z_icmpN_ge (a := i) (b := n) (pc' := 15) C 58 (by omega) (by omega) dX1_listLost_12 rfl rfl (fun h_12 => ?_) (fun h_12 => ?_)
      · exact z_vret (E := E) rfl dX1_listLost_58 ⟨rfl, (by first | rfl | (have e9 : s_cn (s_lo ia) i = s_cn (s_lo ia) n := (by first | (have e8 : i = n := (by omega); rw [e8]) | omega); rw [e9])), (by first | rfl | (have e9 : s_cn (s_lo ia) n = s_cn (s_lo ia) i := (by first | (have e8 : i = n := (by omega); rw [e8]) | omega); rw [s_ul_same ia hi e9])), rfl⟩
      · refine z_aload_n (pc' := 16) C dX1_listLost_15 rfl 1 rfl rfl ?_
        refine z_get (pc' := 19) C hU1 1 (by decide) q_o1 rfl 2 (by decide) (by decide +kernel) (v := .int (nI (s_cn (s_lo ia) i))) rfl dX1_listLost_16 rfl ?_
        refine z_iconst (v := 5) (pc' := 20) C dX1_listLost_19 rfl rfl ?_
        refine z_icmpN_ge (a := s_cn (s_lo ia) i) (b := 5) (pc' := 23) C 58 (by omega) (by omega) dX1_listLost_20 rfl rfl (fun h_20 => ?_) (fun h_20 => ?_)
        · exact z_vret (E := E) rfl dX1_listLost_58 ⟨rfl, (by first | rfl | (have e9 : s_cn (s_lo ia) i = s_cn (s_lo ia) n := (by first | (have e8 : i = n := (by omega); rw [e8]) | omega); rw [e9])), (by first | rfl | (have e9 : s_cn (s_lo ia) n = s_cn (s_lo ia) i := (by first | (have e8 : i = n := (by omega); rw [e8]) | omega); rw [s_ul_same ia hi e9])), rfl⟩
        · refine z_aload_n (pc' := 24) C dX1_listLost_23 rfl 2 rfl rfl ?_
          refine z_get (pc' := 27) C hU2 2 (by decide) q_o2 rfl 7 (by decide) (by decide +kernel) (v := .ref (G.2.1 13)) rfl dX1_listLost_24 rfl ?_
          refine z_iload_n (pc' := 28) C dX1_listLost_27 rfl 0 rfl rfl ?_
          refine z_zald (pc' := 29) C 13 (by decide) (N := 32) (i := i) (f := ia 6) q_i6 (by omega) (by decide) dX1_listLost_28 rfl ?_
          refine z_if_eq (pc' := 32) C 52 dX1_listLost_29 rfl rfl (fun h_29 => ?_) (fun h_29 => ?_)
          · refine z_iinc (v := nI (i + 1)) (k9 := 0) (lv' := [(2, .int (nI (i + 1))), (0, .ref (G.2.1 1)), (1, .ref (G.2.1 2))]) (pc' := 55) C dX1_listLost_52 rfl (nI_1 i) (by decide) rfl rfl ?_
            refine z_goto (pc' := 7) C dX1_listLost_55 rfl ?_
            exact z_cast (by first | rfl | (simp [s_cn, s_lo, h_29])) (by first | rfl | (simp [s_ul, s_lo, h_29])) rfl rfl rfl (ih7 (i + 1) (by omega) (by omega))
          · refine z_aload_n (pc' := 33) C dX1_listLost_32 rfl 1 rfl rfl ?_
            refine z_get (pc' := 36) C hU1 1 (by decide) q_o1 rfl 1 (by decide) (by decide +kernel) (v := .ref (G.2.1 15)) rfl dX1_listLost_33 rfl ?_
            refine z_aload_n (pc' := 37) C dX1_listLost_36 rfl 1 rfl rfl ?_
            refine z_get (pc' := 40) C hU1 1 (by decide) q_o1 rfl 2 (by decide) (by decide +kernel) (v := .int (nI (s_cn (s_lo ia) i))) rfl dX1_listLost_37 rfl ?_
            refine z_iload_n (pc' := 41) C dX1_listLost_40 rfl 0 rfl rfl ?_
            refine z_iast (pc' := 42) C 15 (by decide) (N := 5) (i := s_cn (s_lo ia) i) (f := s_ul ia i) q_i8 (by omega) (by decide) (q_uu8 _ _) dX1_listLost_41 rfl ?_
            refine z_aload_n (pc' := 43) C dX1_listLost_42 rfl 1 rfl rfl ?_
            refine z_dup (pc' := 44) C dX1_listLost_43 rfl rfl ?_
            refine z_get (pc' := 47) C hU1 1 (by decide) q_o1 rfl 2 (by decide) (by decide +kernel) (v := .int (nI (s_cn (s_lo ia) i))) rfl dX1_listLost_44 rfl ?_
            refine z_iconst (v := 1) (pc' := 48) C dX1_listLost_47 rfl rfl ?_
            refine z_iadd (pc' := 49) C dX1_listLost_48 rfl ?_
            refine z_cast (st' := [.int (nI (s_cn (s_lo ia) i + 1)), .ref (G.2.1 1)]) rfl rfl rfl rfl (congrArg (fun z => Value.int z :: [.ref (G.2.1 1)]) (nI_add _ _)) ?_
            refine z_put (pc' := 52) C hU1 tyX1 tyX1_ok nmX1 1 (by decide) q_o1 rfl 2 (by decide) (by decide +kernel) rfl rfl (Nat.le_of_ble_eq_true rfl) (q_ss1 _ _) dX1_listLost_49 rfl ?_
            refine z_iinc (v := nI (i + 1)) (k9 := 0) (lv' := [(2, .int (nI (i + 1))), (0, .ref (G.2.1 1)), (1, .ref (G.2.1 2))]) (pc' := 55) C dX1_listLost_52 rfl (nI_1 i) (by decide) rfl rfl ?_
            refine z_goto (pc' := 7) C dX1_listLost_55 rfl ?_
            exact z_cast (by first | rfl | (simp [s_cn, s_lo, h_29])) (by first | rfl | (simp [s_ul, s_lo, h_29])) rfl rfl rfl (ih7 (i + 1) (by omega) (by omega))
  exact z_cast rfl (by first | rfl | (exact va_same _ 8)) rfl rfl rfl (L7 (_ + 1) 0 (by omega) (Nat.lt_succ_self _))

set_option maxHeartbeats 4000000 in
set_option maxRecDepth 100000 in
theorem c_X1_writeEquation (l : Launch) (G : Gv) (sc : Sc) (ia : Ia) (la : La) (w : Nat) (hw : sc 1 = nI w) (hW : w ≤ 5) (u : Nat → Nat) (hu : ∀ c, c < w → ia 8 c = nI (u c) ∧ u c < 32) (r j : Nat) (hr : r < 32) (hj : j < 32)  : Ct l yX1_writeEquation wsX1_writeEquation ({ frames := 2, cells := 0, slots := 0, locals := 41 }) G [.ref (G.2.1 1), .ref (G.2.1 (53 + r)), .ref (G.2.1 2), .int (nI j)] sc ia la (fV sc ia (s_weq la ia u w r j)) := by
  have hU1 : ∀ w ∈ u_ws RX1 TX1 4, w ∈ wsX1_writeEquation := fun w h => List.mem_cons_of_mem _ (List.mem_append_right _ h)
  have hU2 : ∀ w ∈ u_ws RX2 TX2 9, w ∈ wsX1_writeEquation := fun w h => List.mem_cons_of_mem _ (List.mem_append_left _ (List.mem_append_right _ h))
  refine z_of (maxL := 8) (own := RX1) [(0, .ref (G.2.1 1)), (1, .ref (G.2.1 (53 + r))), (2, .ref (G.2.1 2)), (3, .int (nI j))] rfl (by decide +kernel) rfl (Nat.le_of_ble_eq_true rfl) rfl (fun Z C E => ?_)
  refine z_aload_n (pc' := 1) C dX1_writeEquation_0 rfl 2 rfl rfl ?_
  refine z_get (pc' := 4) C hU2 2 (by decide) q_o2 rfl 2 (by decide) (by decide +kernel) (v := .ref (G.2.1 8)) rfl dX1_writeEquation_1 rfl ?_
  refine z_iload_n (pc' := 5) C dX1_writeEquation_4 rfl 3 rfl rfl ?_
  refine z_iald (pc' := 6) C 8 (by decide) (N := 32) (i := j) (f := ia 1) q_i1 (by omega) (by decide) dX1_writeEquation_5 rfl ?_
  refine z_i2l (pc' := 7) C dX1_writeEquation_6 rfl ?_
  refine z_lstore (lv' := [(4, .long (((ia 1) j).toInt64)), (0, .ref (G.2.1 1)), (1, .ref (G.2.1 (53 + r))), (2, .ref (G.2.1 2)), (3, .int (nI j))]) (pc' := 9) C dX1_writeEquation_7 (by decide) rfl rfl ?_
  refine z_iconst (v := 0) (pc' := 10) C dX1_writeEquation_9 rfl rfl ?_
  refine z_istore (lv' := [(6, .int 0), (4, .long (((ia 1) j).toInt64)), (0, .ref (G.2.1 1)), (1, .ref (G.2.1 (53 + r))), (2, .ref (G.2.1 2)), (3, .int (nI j))]) (pc' := 12) C dX1_writeEquation_10 (by decide) rfl rfl ?_
  have L12 : ∀ (fuel : Nat) (c : Nat) (hc : c ≤ w), w - c < fuel → Z sc ia (s_we la u r j c) [(6, .int (nI c)), (4, .long (s_wr ia u j c)), (0, .ref (G.2.1 1)), (1, .ref (G.2.1 (53 + r))), (2, .ref (G.2.1 2)), (3, .int (nI j))] 12 [] := by
    intro fuel
    induction fuel with
    | zero => intro c hc hm12; exact absurd hm12 (Nat.not_lt_zero _)
    | succ fuel ih12 =>
      intro c hc hm12
      refine z_iload (pc' := 14) C dX1_writeEquation_12 0 rfl rfl ?_
      refine z_aload_n (pc' := 15) C dX1_writeEquation_14 rfl 2 rfl rfl ?_
      refine z_get (pc' := 18) C hU1 1 (by decide) q_o1 rfl 2 (by decide) (by decide +kernel) (v := .int (sc 1)) rfl dX1_writeEquation_15 rfl ?_
      refine z_cast (st' := [.int (nI w), .int (nI c)]) rfl rfl rfl rfl (congrArg (fun z => Value.int z :: [.int (nI c)]) hw) ?_
      refine z_icmpN_ge (a := c) (b := w) (pc' := 21) C 69 (by omega) (by omega) dX1_writeEquation_18 rfl rfl (fun h_18 => ?_) (fun h_18 => ?_)
      · refine z_aload_n (pc' := 70) C dX1_writeEquation_69 rfl 3 rfl rfl ?_
        refine z_aload_n (pc' := 71) C dX1_writeEquation_70 rfl 2 rfl rfl ?_
        refine z_get (pc' := 74) C hU1 1 (by decide) q_o1 rfl 2 (by decide) (by decide +kernel) (v := .int (sc 1)) rfl dX1_writeEquation_71 rfl ?_
        refine z_cast (st' := [.int (nI w), .ref (G.2.1 (53 + r))]) rfl rfl rfl rfl (congrArg (fun z => Value.int z :: [.ref (G.2.1 (53 + r))]) hw) ?_
        refine z_lload (pc' := 76) C dX1_writeEquation_74 1 rfl rfl ?_
        refine z_lneg (pc' := 77) C dX1_writeEquation_76 rfl ?_
        refine z_last (pc' := 78) C (53 + r) (by omega) (N := 6) (i := w) (f := (s_we la u r j c) (r)) (q_lr r (by omega)) (by omega) (by decide) (q_ulr r (by omega) _) dX1_writeEquation_77 rfl ?_
        exact z_vret (E := E) rfl dX1_writeEquation_78 ⟨rfl, rfl, rfl, (by first | rfl | (have e9 : c = w := (by omega); subst e9; rfl))⟩
      · refine z_aload_n (pc' := 22) C dX1_writeEquation_21 rfl 2 rfl rfl ?_
        refine z_get (pc' := 25) C hU1 1 (by decide) q_o1 rfl 1 (by decide) (by decide +kernel) (v := .ref (G.2.1 15)) rfl dX1_writeEquation_22 rfl ?_
        refine z_iload (pc' := 27) C dX1_writeEquation_25 0 rfl rfl ?_
        refine z_iald (pc' := 28) C 15 (by decide) (N := 5) (i := c) (f := ia 8) q_i8 (by omega) (by decide) dX1_writeEquation_27 rfl ?_
        refine z_cast (st' := [.int (nI (u c))]) rfl rfl rfl rfl (congrArg (fun z => Value.int z :: []) (hu c (by omega)).1) ?_
        refine z_iload_n (pc' := 29) C dX1_writeEquation_28 rfl 5 rfl rfl ?_
        refine z_cN (n := 2) (pc' := 32) (As := [.int (nI (u c)), .int (nI j)]) (rest := []) C (c_X5_signOf l G sc ia (s_we la u r j c) (nI (u c)) (nI j)) gX1_writeEquation_X5_signOf_n68 rfl rfl rfl (by decide +kernel) (by decide +kernel) (by decide +kernel) (by decide +kernel) (by decide) rfl rfl dX1_writeEquation_29 (Nat.le_of_ble_eq_true rfl) rfl (k_I ?_)
        show Z sc ia (s_we la u r j c) [(6, .int (nI c)), (4, .long (s_wr ia u j c)), (0, .ref (G.2.1 1)), (1, .ref (G.2.1 (53 + r))), (2, .ref (G.2.1 2)), (3, .int (nI j))] 32 [.int (s_sgn (nI (u c)) (nI j))]
        refine z_istore (lv' := [(7, .int (s_sgn (nI (u c)) (nI j))), (6, .int (nI c)), (4, .long (s_wr ia u j c)), (0, .ref (G.2.1 1)), (1, .ref (G.2.1 (53 + r))), (2, .ref (G.2.1 2)), (3, .int (nI j))]) (pc' := 34) C dX1_writeEquation_32 (by decide) rfl rfl ?_
        refine z_aload_n (pc' := 35) C dX1_writeEquation_34 rfl 4 rfl rfl ?_
        refine z_iload (pc' := 37) C dX1_writeEquation_35 1 rfl rfl ?_
        refine z_iload (pc' := 39) C dX1_writeEquation_37 0 rfl rfl ?_
        refine z_i2l (pc' := 40) C dX1_writeEquation_39 rfl ?_
        refine z_last (pc' := 41) C (53 + r) (by omega) (N := 6) (i := c) (f := (s_we la u r j c) (r)) (q_lr r (by omega)) (by omega) (by decide) (q_ulr r (by omega) _) dX1_writeEquation_40 rfl ?_
        refine z_lload (pc' := 43) C dX1_writeEquation_41 2 rfl rfl ?_
        refine z_aload_n (pc' := 44) C dX1_writeEquation_43 rfl 5 rfl rfl ?_
        refine z_get (pc' := 47) C hU2 2 (by decide) q_o2 rfl 1 (by decide) (by decide +kernel) (v := .ref (G.2.1 7)) rfl dX1_writeEquation_44 rfl ?_
        refine z_aload_n (pc' := 48) C dX1_writeEquation_47 rfl 3 rfl rfl ?_
        refine z_get (pc' := 51) C hU1 1 (by decide) q_o1 rfl 1 (by decide) (by decide +kernel) (v := .ref (G.2.1 15)) rfl dX1_writeEquation_48 rfl ?_
        refine z_iload (pc' := 53) C dX1_writeEquation_51 1 rfl rfl ?_
        refine z_iald (pc' := 54) C 15 (by decide) (N := 5) (i := c) (f := ia 8) q_i8 (by omega) (by decide) dX1_writeEquation_53 rfl ?_
        refine z_cast (st' := [.int (nI (u c)), .ref (G.2.1 7), .long (s_wr ia u j c)]) rfl rfl rfl rfl (congrArg (fun z => Value.int z :: [.ref (G.2.1 7), .long (s_wr ia u j c)]) (hu c (by omega)).1) ?_
        refine z_iald (pc' := 55) C 7 (by decide) (N := 32) (i := u c) (f := ia 0) q_i0 ((hu c (by omega)).2) (by decide) dX1_writeEquation_54 rfl ?_
        refine z_i2l (pc' := 56) C dX1_writeEquation_55 rfl ?_
        refine z_iload (pc' := 58) C dX1_writeEquation_56 0 rfl rfl ?_
        refine z_i2l (pc' := 59) C dX1_writeEquation_58 rfl ?_
        refine z_lmul (pc' := 60) C dX1_writeEquation_59 rfl ?_
        refine z_lsub (pc' := 61) C dX1_writeEquation_60 rfl ?_
        refine z_lstore (lv' := [(4, .long ((s_wr ia u j c) - ((((ia 0) (u c)).toInt64) * ((s_sgn (nI (u c)) (nI j)).toInt64)))), (7, .int (s_sgn (nI (u c)) (nI j))), (6, .int (nI c)), (0, .ref (G.2.1 1)), (1, .ref (G.2.1 (53 + r))), (2, .ref (G.2.1 2)), (3, .int (nI j))]) (pc' := 63) C dX1_writeEquation_61 (by decide) rfl rfl ?_
        refine z_iinc (v := nI (c + 1)) (k9 := 2) (lv' := [(6, .int (nI (c + 1))), (4, .long ((s_wr ia u j c) - ((((ia 0) (u c)).toInt64) * ((s_sgn (nI (u c)) (nI j)).toInt64)))), (7, .int (s_sgn (nI (u c)) (nI j))), (0, .ref (G.2.1 1)), (1, .ref (G.2.1 (53 + r))), (2, .ref (G.2.1 2)), (3, .int (nI j))]) (pc' := 66) C dX1_writeEquation_63 rfl (nI_1 c) (by decide) rfl rfl ?_
        refine z_goto (pc' := 12) C dX1_writeEquation_66 rfl ?_
        refine z_sub (lv' := [(6, .int (nI (c + 1))), (4, .long ((s_wr ia u j c) - ((((ia 0) (u c)).toInt64) * ((s_sgn (nI (u c)) (nI j)).toInt64)))), (0, .ref (G.2.1 1)), (1, .ref (G.2.1 (53 + r))), (2, .ref (G.2.1 2)), (3, .int (nI j))]) C [0, 1, 3, 4, 5, 6] rfl ?_
        exact z_cast rfl rfl rfl rfl rfl (ih12 (c + 1) (by omega) (by omega))
  exact z_cast rfl rfl rfl rfl rfl (L12 (_ + 1) 0 (by omega) (Nat.lt_succ_self _))

set_option maxHeartbeats 4000000 in
set_option maxRecDepth 100000 in
theorem c_X1_writeEquations (l : Launch) (G : Gv) (sc : Sc) (ia : Ia) (la : La) (n : Nat) (hn : sc 0 = nI n) (hN : n ≤ 32) (w : Nat) (hw : sc 1 = nI w) (hW : w ≤ 5) (u : Nat → Nat) (hu : ∀ c, c < w → ia 8 c = nI (u c) ∧ u c < 32) (m v : Int32)  : Ct l yX1_writeEquations wsX1_writeEquations ({ frames := 3, cells := 0, slots := 0, locals := 68 }) G [.ref (G.2.1 1), .ref (G.2.1 2), .int m, .int v] sc ia la (fV (va_up sc 2 (nI (s_cn (s_np m v) n))) ia (s_wes la ia u w m v n)) := by
  have hU1 : ∀ w ∈ u_ws RX1 TX1 4, w ∈ wsX1_writeEquations := fun w h => List.mem_cons_of_mem _ (List.mem_append_left _ (List.mem_append_right _ h))
  have hU2 : ∀ w ∈ u_ws RX2 TX2 9, w ∈ wsX1_writeEquations := fun w h => List.mem_cons_of_mem _ (List.mem_append_right _ h)
  refine z_of (maxL := 5) (own := RX1) [(0, .ref (G.2.1 1)), (1, .ref (G.2.1 2)), (2, .int m), (3, .int v)] rfl (by decide +kernel) rfl (Nat.le_of_ble_eq_true rfl) rfl (fun Z C E => ?_)
  refine z_aload_n (pc' := 1) C dX1_writeEquations_0 rfl 0 rfl rfl ?_
  refine z_iconst (v := 0) (pc' := 2) C dX1_writeEquations_1 rfl rfl ?_
  refine z_put (pc' := 5) C hU1 tyX1 tyX1_ok nmX1 1 (by decide) q_o1 rfl 3 (by decide) (by decide +kernel) rfl rfl (Nat.le_of_ble_eq_true rfl) (q_s2 _) dX1_writeEquations_2 rfl ?_
  refine z_iconst (v := 0) (pc' := 6) C dX1_writeEquations_5 rfl rfl ?_
  refine z_istore (lv' := [(4, .int 0), (0, .ref (G.2.1 1)), (1, .ref (G.2.1 2)), (2, .int m), (3, .int v)]) (pc' := 8) C dX1_writeEquations_6 (by decide) rfl rfl ?_
  have L8 : ∀ (fuel : Nat) (j : Nat) (hj : j ≤ n), n - j < fuel → Z (va_up sc 2 (nI (s_cn (s_np m v) j))) ia (s_wes la ia u w m v j) [(4, .int (nI j)), (0, .ref (G.2.1 1)), (1, .ref (G.2.1 2)), (2, .int m), (3, .int v)] 8 [] := by
    intro fuel
    induction fuel with
    | zero => intro j hj hm8; exact absurd hm8 (Nat.not_lt_zero _)
    | succ fuel ih8 =>
      intro j hj hm8
      have hcl := s_cn_le (s_np m v) j
      refine z_iload (pc' := 10) C dX1_writeEquations_8 0 rfl rfl ?_
      refine z_aload_n (pc' := 11) C dX1_writeEquations_10 rfl 2 rfl rfl ?_
      refine z_get (pc' := 14) C hU2 2 (by decide) q_o2 rfl 0 (by decide) (by decide +kernel) (v := .int (sc 0)) rfl dX1_writeEquations_11 rfl ?_
      refine z_cast (st' := [.int (nI n), .int (nI j)]) rfl rfl rfl rfl (congrArg (fun z => Value.int z :: [.int (nI j)]) hn) ?_
      refine z_icmpN_ge (a := j) (b := n) (pc' := 17) C 59 (by omega) (by omega) dX1_writeEquations_14 rfl rfl (fun h_14 => ?_) (fun h_14 => ?_)
      · exact z_vret (E := E) rfl dX1_writeEquations_59 ⟨rfl, (by first | rfl | (have e9 : j = n := (by omega); subst e9; rfl)), rfl, (by first | rfl | (have e9 : j = n := (by omega); subst e9; rfl))⟩
      · refine z_iload (pc' := 19) C dX1_writeEquations_17 0 rfl rfl ?_
        refine z_iload_n (pc' := 20) C dX1_writeEquations_19 rfl 3 rfl rfl ?_
        refine z_iload_n (pc' := 21) C dX1_writeEquations_20 rfl 4 rfl rfl ?_
        refine z_cN (n := 3) (pc' := 24) (As := [.int (nI j), .int m, .int v]) (rest := []) C (c_X5_passes l G (va_up sc 2 (nI (s_cn (s_np m v) j))) ia (s_wes la ia u w m v j) (nI j) m v) gX1_writeEquations_X5_passes_n57 rfl rfl rfl (by decide +kernel) (by decide +kernel) (by decide +kernel) (by decide +kernel) (by decide) rfl rfl dX1_writeEquations_21 (Nat.le_of_ble_eq_true rfl) rfl (k_I ?_)
        show Z (va_up sc 2 (nI (s_cn (s_np m v) j))) ia (s_wes la ia u w m v j) [(4, .int (nI j)), (0, .ref (G.2.1 1)), (1, .ref (G.2.1 2)), (2, .int m), (3, .int v)] 24 [.int (bI (s_pass (nI j) m v))]
        refine z_ifB_ne (pc' := 27) C 53 dX1_writeEquations_24 rfl rfl (fun h_24 => ?_) (fun h_24 => ?_)
        · refine z_iinc (v := nI (j + 1)) (k9 := 0) (lv' := [(4, .int (nI (j + 1))), (0, .ref (G.2.1 1)), (1, .ref (G.2.1 2)), (2, .int m), (3, .int v)]) (pc' := 56) C dX1_writeEquations_53 rfl (nI_1 j) (by decide) rfl rfl ?_
          refine z_goto (pc' := 8) C dX1_writeEquations_56 rfl ?_
          exact z_cast (by first | rfl | (simp [s_cn, s_np, h_24])) rfl (by first | rfl | (simp [s_wes, s_np, h_24])) rfl rfl (ih8 (j + 1) (by omega) (by omega))
        · refine z_aload_n (pc' := 28) C dX1_writeEquations_27 rfl 1 rfl rfl ?_
          refine z_aload_n (pc' := 29) C dX1_writeEquations_28 rfl 1 rfl rfl ?_
          refine z_get (pc' := 32) C hU1 1 (by decide) q_o1 rfl 0 (by decide) (by decide +kernel) (v := .ref (G.2.1 49)) rfl dX1_writeEquations_29 rfl ?_
          refine z_aload_n (pc' := 33) C dX1_writeEquations_32 rfl 1 rfl rfl ?_
          refine z_get (pc' := 36) C hU1 1 (by decide) q_o1 rfl 3 (by decide) (by decide +kernel) (v := .int (nI (s_cn (s_np m v) j))) rfl dX1_writeEquations_33 rfl ?_
          refine z_aald (pc' := 37) C 49 (by decide) (i := s_cn (s_np m v) j) (a := G.2.1 (53 + (s_cn (s_np m v) j))) (ty := .long) rfl q_v49 (by omega) (by decide) (if_pos (by omega)) dX1_writeEquations_36 rfl ?_
          refine z_aload_n (pc' := 38) C dX1_writeEquations_37 rfl 2 rfl rfl ?_
          refine z_iload (pc' := 40) C dX1_writeEquations_38 0 rfl rfl ?_
          refine z_cV (n := 3) (pc' := 43) (As := [.ref (G.2.1 (53 + (s_cn (s_np m v) j))), .ref (G.2.1 2), .int (nI j)]) (rest := []) C 1 (c_X1_writeEquation l G (va_up sc 2 (nI (s_cn (s_np m v) j))) ia (s_wes la ia u w m v j) w hw hW u hu ((s_cn (s_np m v) j)) j (by omega) (by omega)) gX1_writeEquations_X1_writeEquation rfl rfl rfl rfl (by decide +kernel) (by decide) rfl (by decide) q_o1 rfl rfl dX1_writeEquations_40 (Nat.le_of_ble_eq_true rfl) rfl (k_V ?_)
          show Z (va_up sc 2 (nI (s_cn (s_np m v) j))) ia (s_weq (s_wes la ia u w m v j) ia u w ((s_cn (s_np m v) j)) j) [(4, .int (nI j)), (0, .ref (G.2.1 1)), (1, .ref (G.2.1 2)), (2, .int m), (3, .int v)] 43 []
          refine z_aload_n (pc' := 44) C dX1_writeEquations_43 rfl 1 rfl rfl ?_
          refine z_dup (pc' := 45) C dX1_writeEquations_44 rfl rfl ?_
          refine z_get (pc' := 48) C hU1 1 (by decide) q_o1 rfl 3 (by decide) (by decide +kernel) (v := .int (nI (s_cn (s_np m v) j))) rfl dX1_writeEquations_45 rfl ?_
          refine z_iconst (v := 1) (pc' := 49) C dX1_writeEquations_48 rfl rfl ?_
          refine z_iadd (pc' := 50) C dX1_writeEquations_49 rfl ?_
          refine z_cast (st' := [.int (nI (s_cn (s_np m v) j + 1)), .ref (G.2.1 1)]) rfl rfl rfl rfl (congrArg (fun z => Value.int z :: [.ref (G.2.1 1)]) (nI_add _ _)) ?_
          refine z_put (pc' := 53) C hU1 tyX1 tyX1_ok nmX1 1 (by decide) q_o1 rfl 3 (by decide) (by decide +kernel) rfl rfl (Nat.le_of_ble_eq_true rfl) (q_ss2 _ _) dX1_writeEquations_50 rfl ?_
          refine z_iinc (v := nI (j + 1)) (k9 := 0) (lv' := [(4, .int (nI (j + 1))), (0, .ref (G.2.1 1)), (1, .ref (G.2.1 2)), (2, .int m), (3, .int v)]) (pc' := 56) C dX1_writeEquations_53 rfl (nI_1 j) (by decide) rfl rfl ?_
          refine z_goto (pc' := 8) C dX1_writeEquations_56 rfl ?_
          exact z_cast (by first | rfl | (simp [s_cn, s_np, h_24])) rfl (by first | rfl | (simp [s_wes, s_np, h_24])) rfl rfl (ih8 (j + 1) (by omega) (by omega))
  exact z_cast rfl rfl rfl rfl rfl (L8 (_ + 1) 0 (by omega) (Nat.lt_succ_self _))

set_option maxHeartbeats 4000000 in
set_option maxRecDepth 100000 in
theorem c_X1_findPivot (l : Launch) (G : Gv) (sc : Sc) (ia : Ia) (la : La) (w h : Nat) (hw : sc 1 = nI w) (hh : sc 2 = nI h) (hW : w ≤ 5) (hH : h ≤ 32) (f c : Nat) (hc : c < 6) (hf : f ≤ h)  : Ct l yX1_findPivot wsX1_findPivot ({ frames := 0, cells := 0, slots := 0, locals := 0 }) G [.ref (G.2.1 1), .int (nI f), .int (nI c)] sc ia la (fI ((match s_fp la f c h with | none => -1 | some d => nI (f + d))) sc ia la) := by
  have hU1 : ∀ w ∈ u_ws RX1 TX1 4, w ∈ wsX1_findPivot := fun w h => List.mem_cons_of_mem _ (List.mem_append_right _ h)
  refine z_of (maxL := 4) (own := RX1) [(0, .ref (G.2.1 1)), (1, .int (nI f)), (2, .int (nI c))] rfl (by decide +kernel) rfl (Nat.le_of_ble_eq_true rfl) rfl (fun Z C E => ?_)
  refine z_iload_n (pc' := 1) C dX1_findPivot_0 rfl 1 rfl rfl ?_
  refine z_istore_n (lv' := [(3, .int (nI f)), (0, .ref (G.2.1 1)), (1, .int (nI f)), (2, .int (nI c))]) (pc' := 2) C dX1_findPivot_1 rfl (by decide) rfl rfl ?_
  have L2 : ∀ (fuel : Nat) (d : Nat) (hd : d ≤ h - f) (hdn : ∀ j, j < d → (fun d => !decide (la (f + d) c = 0)) j = false), h - (f + d) < fuel → Z sc ia la [(3, .int (nI (f + d))), (0, .ref (G.2.1 1)), (2, .int (nI c))] 2 [] := by
    intro fuel
    induction fuel with
    | zero => intro d hd hdn hm2; exact absurd hm2 (Nat.not_lt_zero _)
    | succ fuel ih2 =>
      intro d hd hdn hm2
      refine z_iload_n (pc' := 3) C dX1_findPivot_2 rfl 0 rfl rfl ?_
      refine z_aload_n (pc' := 4) C dX1_findPivot_3 rfl 1 rfl rfl ?_
      refine z_get (pc' := 7) C hU1 1 (by decide) q_o1 rfl 3 (by decide) (by decide +kernel) (v := .int (sc 2)) rfl dX1_findPivot_4 rfl ?_
      refine z_cast (st' := [.int (nI h), .int (nI (f + d))]) rfl rfl rfl rfl (congrArg (fun z => Value.int z :: [.int (nI (f + d))]) hh) ?_
      refine z_icmpN_ge (a := f + d) (b := h) (pc' := 10) C 31 (by omega) (by omega) dX1_findPivot_7 rfl rfl (fun h_7 => ?_) (fun h_7 => ?_)
      · refine z_iconst (v := -1) (pc' := 32) C dX1_findPivot_31 rfl rfl ?_
        exact z_iret (E := E) rfl dX1_findPivot_32 ⟨(congrArg (fun z => some (Value.int z)) (show _ = _ from (by first | rfl | (have e9 : d = h - f := (by omega); subst e9; have q9 : s_fp la f c h = none := s_fi_n hdn; rw [q9])))), rfl, rfl, rfl⟩
      · refine z_aload_n (pc' := 11) C dX1_findPivot_10 rfl 1 rfl rfl ?_
        refine z_get (pc' := 14) C hU1 1 (by decide) q_o1 rfl 0 (by decide) (by decide +kernel) (v := .ref (G.2.1 49)) rfl dX1_findPivot_11 rfl ?_
        refine z_iload_n (pc' := 15) C dX1_findPivot_14 rfl 0 rfl rfl ?_
        refine z_aald (pc' := 16) C 49 (by decide) (i := f + d) (a := G.2.1 (53 + (f + d))) (ty := .long) rfl q_v49 (by omega) (by decide) (if_pos (by omega)) dX1_findPivot_15 rfl ?_
        refine z_iload_n (pc' := 17) C dX1_findPivot_16 rfl 2 rfl rfl ?_
        refine z_lald (pc' := 18) C (53 + (f + d)) (by omega) (N := 6) (i := c) (f := la (f + d)) (q_lr (f + d) (by omega)) (by omega) (by decide) dX1_findPivot_17 rfl ?_
        refine z_lconst (v := 0) (pc' := 19) C dX1_findPivot_18 rfl rfl ?_
        refine z_lcmp (pc' := 20) C dX1_findPivot_19 rfl ?_
        refine z_if_eq (pc' := 23) C 25 dX1_findPivot_20 rfl rfl (fun h_20 => ?_) (fun h_20 => ?_)
        · refine z_iinc (v := nI (f + d + 1)) (k9 := 0) (lv' := [(3, .int (nI (f + d + 1))), (0, .ref (G.2.1 1)), (2, .int (nI c))]) (pc' := 28) C dX1_findPivot_25 rfl (nI_1 (f + d)) (by decide) rfl rfl ?_
          refine z_goto (pc' := 2) C dX1_findPivot_28 rfl ?_
          exact z_cast rfl rfl rfl rfl rfl (ih2 (d + 1) (by omega) (by exact s_lt_s hdn (by simp [lg_cmp_eq] at h_20; simp [h_20])) (by omega))
        · refine z_iload_n (pc' := 24) C dX1_findPivot_23 rfl 0 rfl rfl ?_
          exact z_iret (E := E) rfl dX1_findPivot_24 ⟨(congrArg (fun z => some (Value.int z)) (show _ = _ from (by first | rfl | (have q9 : s_fp la f c h = some d := s_fi_s hdn (by omega) (by simp [lg_cmp_eq] at h_20; simp [h_20]); rw [q9])))), rfl, rfl, rfl⟩
  refine z_sub (lv' := [(3, .int (nI f)), (0, .ref (G.2.1 1)), (2, .int (nI c))]) C [0, 1, 3] rfl ?_
  exact z_cast rfl rfl rfl rfl rfl (L2 (_ + 1) 0 (by omega) (fun j h => absurd h (Nat.not_lt_zero j)) (Nat.lt_succ_self _))

theorem c_X1_findPivotN (l : Launch) (G : Gv) (sc : Sc) (ia : Ia) (la : La) (w h : Nat) (hw : sc 1 = nI w) (hh : sc 2 = nI h) (hW : w ≤ 5) (hH : h ≤ 32) (f c : Nat) (hc : c < 6) (hfh : f ≤ h) (hf : s_fp la f c h = none) : Ct l yX1_findPivot wsX1_findPivot ({ frames := 0, cells := 0, slots := 0, locals := 0 }) G [.ref (G.2.1 1), .int (nI f), .int (nI c)] sc ia la (fI (-1) sc ia la) := by
  have h9 := c_X1_findPivot l G sc ia la w h hw hh hW hH f c hc hfh
  rw [hf] at h9
  exact h9
theorem c_X1_findPivotS (l : Launch) (G : Gv) (sc : Sc) (ia : Ia) (la : La) (w h : Nat) (hw : sc 1 = nI w) (hh : sc 2 = nI h) (hW : w ≤ 5) (hH : h ≤ 32) (f c : Nat) (hc : c < 6) (hfh : f ≤ h) (d : Nat) (hf : s_fp la f c h = some d) : Ct l yX1_findPivot wsX1_findPivot ({ frames := 0, cells := 0, slots := 0, locals := 0 }) G [.ref (G.2.1 1), .int (nI f), .int (nI c)] sc ia la (fI (nI (f + d)) sc ia la) := by
  have h9 := c_X1_findPivot l G sc ia la w h hw hh hW hH f c hc hfh
  rw [hf] at h9
  exact h9
set_option maxHeartbeats 4000000 in
set_option maxRecDepth 100000 in
theorem c_X1_swapRows (l : Launch) (G : Gv) (sc : Sc) (ia : Ia) (la : La) (w h : Nat) (hw : sc 1 = nI w) (hh : sc 2 = nI h) (hW : w ≤ 5) (hH : h ≤ 32) (r s : Nat) (hr : r < 32) (hs : s < 32)  : Ct l yX1_swapRows wsX1_swapRows ({ frames := 0, cells := 0, slots := 0, locals := 0 }) G [.ref (G.2.1 1), .int (nI r), .int (nI s)] sc ia la (fV sc ia (s_sw la r s (w + 1))) := by
  have hU1 : ∀ w ∈ u_ws RX1 TX1 4, w ∈ wsX1_swapRows := fun w h => List.mem_cons_of_mem _ (List.mem_append_right _ h)
  refine z_of (maxL := 6) (own := RX1) [(0, .ref (G.2.1 1)), (1, .int (nI r)), (2, .int (nI s))] rfl (by decide +kernel) rfl (Nat.le_of_ble_eq_true rfl) rfl (fun Z C E => ?_)
  refine z_iconst (v := 0) (pc' := 1) C dX1_swapRows_0 rfl rfl ?_
  refine z_istore_n (lv' := [(3, .int 0), (0, .ref (G.2.1 1)), (1, .int (nI r)), (2, .int (nI s))]) (pc' := 2) C dX1_swapRows_1 rfl (by decide) rfl rfl ?_
  have L2 : ∀ (fuel : Nat) (c : Nat) (hc : c ≤ w + 1), w + 1 - c < fuel → Z sc ia (s_sw la r s c) [(3, .int (nI c)), (0, .ref (G.2.1 1)), (1, .int (nI r)), (2, .int (nI s))] 2 [] := by
    intro fuel
    induction fuel with
    | zero => intro c hc hm2; exact absurd hm2 (Nat.not_lt_zero _)
    | succ fuel ih2 =>
      intro c hc hm2
      refine z_iload_n (pc' := 3) C dX1_swapRows_2 rfl 0 rfl rfl ?_
      refine z_aload_n (pc' := 4) C dX1_swapRows_3 rfl 1 rfl rfl ?_
      refine z_get (pc' := 7) C hU1 1 (by decide) q_o1 rfl 2 (by decide) (by decide +kernel) (v := .int (sc 1)) rfl dX1_swapRows_4 rfl ?_
      refine z_cast (st' := [.int (nI w), .int (nI c)]) rfl rfl rfl rfl (congrArg (fun z => Value.int z :: [.int (nI c)]) hw) ?_
      refine z_icmpN_gt (a := c) (b := w) (pc' := 10) C 52 (by omega) (by omega) dX1_swapRows_7 rfl rfl (fun h_7 => ?_) (fun h_7 => ?_)
      · exact z_vret (E := E) rfl dX1_swapRows_52 ⟨rfl, rfl, rfl, (by first | rfl | (have e9 : c = w + 1 := (by omega); subst e9; rfl))⟩
      · refine z_aload_n (pc' := 11) C dX1_swapRows_10 rfl 1 rfl rfl ?_
        refine z_get (pc' := 14) C hU1 1 (by decide) q_o1 rfl 0 (by decide) (by decide +kernel) (v := .ref (G.2.1 49)) rfl dX1_swapRows_11 rfl ?_
        refine z_iload_n (pc' := 15) C dX1_swapRows_14 rfl 2 rfl rfl ?_
        refine z_aald (pc' := 16) C 49 (by decide) (i := r) (a := G.2.1 (53 + r)) (ty := .long) rfl q_v49 (by omega) (by decide) (if_pos (by omega)) dX1_swapRows_15 rfl ?_
        refine z_iload_n (pc' := 17) C dX1_swapRows_16 rfl 0 rfl rfl ?_
        refine z_lald (pc' := 18) C (53 + r) (by omega) (N := 6) (i := c) (f := (s_sw la r s c) (r)) (q_lr r (by omega)) (by omega) (by decide) dX1_swapRows_17 rfl ?_
        refine z_lstore (lv' := [(4, .long (((s_sw la r s c) (r)) c)), (3, .int (nI c)), (0, .ref (G.2.1 1)), (1, .int (nI r)), (2, .int (nI s))]) (pc' := 20) C dX1_swapRows_18 (by decide) rfl rfl ?_
        refine z_aload_n (pc' := 21) C dX1_swapRows_20 rfl 2 rfl rfl ?_
        refine z_get (pc' := 24) C hU1 1 (by decide) q_o1 rfl 0 (by decide) (by decide +kernel) (v := .ref (G.2.1 49)) rfl dX1_swapRows_21 rfl ?_
        refine z_iload_n (pc' := 25) C dX1_swapRows_24 rfl 3 rfl rfl ?_
        refine z_aald (pc' := 26) C 49 (by decide) (i := r) (a := G.2.1 (53 + r)) (ty := .long) rfl q_v49 (by omega) (by decide) (if_pos (by omega)) dX1_swapRows_25 rfl ?_
        refine z_iload_n (pc' := 27) C dX1_swapRows_26 rfl 1 rfl rfl ?_
        refine z_aload_n (pc' := 28) C dX1_swapRows_27 rfl 2 rfl rfl ?_
        refine z_get (pc' := 31) C hU1 1 (by decide) q_o1 rfl 0 (by decide) (by decide +kernel) (v := .ref (G.2.1 49)) rfl dX1_swapRows_28 rfl ?_
        refine z_iload_n (pc' := 32) C dX1_swapRows_31 rfl 4 rfl rfl ?_
        refine z_aald (pc' := 33) C 49 (by decide) (i := s) (a := G.2.1 (53 + s)) (ty := .long) rfl q_v49 (by omega) (by decide) (if_pos (by omega)) dX1_swapRows_32 rfl ?_
        refine z_iload_n (pc' := 34) C dX1_swapRows_33 rfl 1 rfl rfl ?_
        refine z_lald (pc' := 35) C (53 + s) (by omega) (N := 6) (i := c) (f := (s_sw la r s c) (s)) (q_lr s (by omega)) (by omega) (by decide) dX1_swapRows_34 rfl ?_
        refine z_last (pc' := 36) C (53 + r) (by omega) (N := 6) (i := c) (f := (s_sw la r s c) (r)) (q_lr r (by omega)) (by omega) (by decide) (q_ulr r (by omega) _) dX1_swapRows_35 rfl ?_
        refine z_aload_n (pc' := 37) C dX1_swapRows_36 rfl 2 rfl rfl ?_
        refine z_get (pc' := 40) C hU1 1 (by decide) q_o1 rfl 0 (by decide) (by decide +kernel) (v := .ref (G.2.1 49)) rfl dX1_swapRows_37 rfl ?_
        refine z_iload_n (pc' := 41) C dX1_swapRows_40 rfl 4 rfl rfl ?_
        refine z_aald (pc' := 42) C 49 (by decide) (i := s) (a := G.2.1 (53 + s)) (ty := .long) rfl q_v49 (by omega) (by decide) (if_pos (by omega)) dX1_swapRows_41 rfl ?_
        refine z_iload_n (pc' := 43) C dX1_swapRows_42 rfl 1 rfl rfl ?_
        refine z_lload (pc' := 45) C dX1_swapRows_43 0 rfl rfl ?_
        refine z_last (pc' := 46) C (53 + s) (by omega) (N := 6) (i := c) (f := (va_up (s_sw la r s c) (r) (vp_updL ((s_sw la r s c) (r)) c (((s_sw la r s c) (s)) c))) (s)) (q_lr s (by omega)) (by omega) (by decide) (q_ulr s (by omega) _) dX1_swapRows_45 rfl ?_
        refine z_iinc (v := nI (c + 1)) (k9 := 1) (lv' := [(3, .int (nI (c + 1))), (4, .long (((s_sw la r s c) (r)) c)), (0, .ref (G.2.1 1)), (1, .int (nI r)), (2, .int (nI s))]) (pc' := 49) C dX1_swapRows_46 rfl (nI_1 c) (by decide) rfl rfl ?_
        refine z_goto (pc' := 2) C dX1_swapRows_49 rfl ?_
        refine z_sub (lv' := [(3, .int (nI (c + 1))), (0, .ref (G.2.1 1)), (1, .int (nI r)), (2, .int (nI s))]) C [0, 2, 3, 4] rfl ?_
        exact z_cast rfl rfl rfl rfl rfl (ih2 (c + 1) (by omega) (by omega))
  exact z_cast rfl rfl rfl rfl rfl (L2 (_ + 1) 0 (by omega) (Nat.lt_succ_self _))

set_option maxHeartbeats 4000000 in
set_option maxRecDepth 100000 in
theorem c_X1_clearColumn (l : Launch) (G : Gv) (sc : Sc) (ia : Ia) (la : La) (w h : Nat) (hw : sc 1 = nI w) (hh : sc 2 = nI h) (hW : w ≤ 5) (hH : h ≤ 32) (pr q : Nat) (bef : Int64) (hp : pr < 32) (hq : q < 6)  : Ct l yX1_clearColumn wsX1_clearColumn ({ frames := 0, cells := 0, slots := 0, locals := 0 }) G [.ref (G.2.1 1), .int (nI pr), .int (nI q), .long bef] sc ia la (fV sc ia (s_cc la pr q w bef h)) := by
  have hU1 : ∀ w ∈ u_ws RX1 TX1 4, w ∈ wsX1_clearColumn := fun w h => List.mem_cons_of_mem _ (List.mem_append_right _ h)
  refine z_of (maxL := 13) (own := RX1) [(0, .ref (G.2.1 1)), (1, .int (nI pr)), (2, .int (nI q)), (3, .long bef)] rfl (by decide +kernel) rfl (Nat.le_of_ble_eq_true rfl) rfl (fun Z C E => ?_)
  refine z_aload_n (pc' := 1) C dX1_clearColumn_0 rfl 0 rfl rfl ?_
  refine z_get (pc' := 4) C hU1 1 (by decide) q_o1 rfl 0 (by decide) (by decide +kernel) (v := .ref (G.2.1 49)) rfl dX1_clearColumn_1 rfl ?_
  refine z_iload_n (pc' := 5) C dX1_clearColumn_4 rfl 1 rfl rfl ?_
  refine z_aald (pc' := 6) C 49 (by decide) (i := pr) (a := G.2.1 (53 + pr)) (ty := .long) rfl q_v49 (by omega) (by decide) (if_pos (by omega)) dX1_clearColumn_5 rfl ?_
  refine z_iload_n (pc' := 7) C dX1_clearColumn_6 rfl 2 rfl rfl ?_
  refine z_lald (pc' := 8) C (53 + pr) (by omega) (N := 6) (i := q) (f := la (pr)) (q_lr pr (by omega)) (by omega) (by decide) dX1_clearColumn_7 rfl ?_
  refine z_lstore (lv' := [(5, .long ((la (pr)) q)), (0, .ref (G.2.1 1)), (1, .int (nI pr)), (2, .int (nI q)), (3, .long bef)]) (pc' := 10) C dX1_clearColumn_8 (by decide) rfl rfl ?_
  refine z_iconst (v := 0) (pc' := 11) C dX1_clearColumn_10 rfl rfl ?_
  refine z_istore (lv' := [(7, .int 0), (5, .long ((la (pr)) q)), (0, .ref (G.2.1 1)), (1, .int (nI pr)), (2, .int (nI q)), (3, .long bef)]) (pc' := 13) C dX1_clearColumn_11 (by decide) rfl rfl ?_
  have L13 : ∀ (fuel : Nat) (r : Nat) (hr : r ≤ h), h - r < fuel → Z sc ia (s_cc la pr q w bef r) [(7, .int (nI r)), (5, .long (la pr q)), (0, .ref (G.2.1 1)), (1, .int (nI pr)), (2, .int (nI q)), (3, .long bef)] 13 [] := by
    intro fuel
    induction fuel with
    | zero => intro r hr hm13; exact absurd hm13 (Nat.not_lt_zero _)
    | succ fuel ih13 =>
      intro r hr hm13
      refine z_iload (pc' := 15) C dX1_clearColumn_13 0 rfl rfl ?_
      refine z_aload_n (pc' := 16) C dX1_clearColumn_15 rfl 2 rfl rfl ?_
      refine z_get (pc' := 19) C hU1 1 (by decide) q_o1 rfl 3 (by decide) (by decide +kernel) (v := .int (sc 2)) rfl dX1_clearColumn_16 rfl ?_
      refine z_cast (st' := [.int (nI h), .int (nI r)]) rfl rfl rfl rfl (congrArg (fun z => Value.int z :: [.int (nI r)]) hh) ?_
      refine z_icmpN_ge (a := r) (b := h) (pc' := 22) C 116 (by omega) (by omega) dX1_clearColumn_19 rfl rfl (fun h_19 => ?_) (fun h_19 => ?_)
      · exact z_vret (E := E) rfl dX1_clearColumn_116 ⟨rfl, rfl, rfl, (by first | rfl | (have e9 : r = h := (by omega); subst e9; rfl))⟩
      · refine z_iload (pc' := 24) C dX1_clearColumn_22 0 rfl rfl ?_
        refine z_iload_n (pc' := 25) C dX1_clearColumn_24 rfl 3 rfl rfl ?_
        refine z_icmpN_eq (a := r) (b := pr) (pc' := 28) C 110 (by omega) (by omega) dX1_clearColumn_25 rfl rfl (fun h_25 => ?_) (fun h_25 => ?_)
        · refine z_iinc (v := nI (r + 1)) (k9 := 0) (lv' := [(7, .int (nI (r + 1))), (5, .long (la pr q)), (0, .ref (G.2.1 1)), (1, .int (nI pr)), (2, .int (nI q)), (3, .long bef)]) (pc' := 113) C dX1_clearColumn_110 rfl (nI_1 r) (by decide) rfl rfl ?_
          refine z_goto (pc' := 13) C dX1_clearColumn_113 rfl ?_
          exact z_cast rfl rfl (by first | rfl | (first | (have e9 : c = w + 1 := (by omega); subst e9; simp [s_cc, h_25]; done) | simp [s_cc, h_25])) rfl rfl (ih13 (r + 1) (by omega) (by omega))
        · refine z_aload_n (pc' := 29) C dX1_clearColumn_28 rfl 2 rfl rfl ?_
          refine z_get (pc' := 32) C hU1 1 (by decide) q_o1 rfl 0 (by decide) (by decide +kernel) (v := .ref (G.2.1 49)) rfl dX1_clearColumn_29 rfl ?_
          refine z_iload (pc' := 34) C dX1_clearColumn_32 0 rfl rfl ?_
          refine z_aald (pc' := 35) C 49 (by decide) (i := r) (a := G.2.1 (53 + r)) (ty := .long) rfl q_v49 (by omega) (by decide) (if_pos (by omega)) dX1_clearColumn_34 rfl ?_
          refine z_iload_n (pc' := 36) C dX1_clearColumn_35 rfl 4 rfl rfl ?_
          refine z_lald (pc' := 37) C (53 + r) (by omega) (N := 6) (i := q) (f := (s_cc la pr q w bef r) (r)) (q_lr r (by omega)) (by omega) (by decide) dX1_clearColumn_36 rfl ?_
          refine z_lstore (lv' := [(8, .long (((s_cc la pr q w bef r) (r)) q)), (7, .int (nI r)), (5, .long (la pr q)), (0, .ref (G.2.1 1)), (1, .int (nI pr)), (2, .int (nI q)), (3, .long bef)]) (pc' := 39) C dX1_clearColumn_37 (by decide) rfl rfl ?_
          refine z_iconst (v := 0) (pc' := 40) C dX1_clearColumn_39 rfl rfl ?_
          refine z_istore (lv' := [(10, .int 0), (8, .long (((s_cc la pr q w bef r) (r)) q)), (7, .int (nI r)), (5, .long (la pr q)), (0, .ref (G.2.1 1)), (1, .int (nI pr)), (2, .int (nI q)), (3, .long bef)]) (pc' := 42) C dX1_clearColumn_40 (by decide) rfl rfl ?_
          have L42 : ∀ (fuel : Nat) (c : Nat) (hc : c ≤ w + 1), w + 1 - c < fuel → Z sc ia (s_cr (s_cc la pr q w bef r) pr r (la pr q) (s_cc la pr q w bef r r q) bef c) [(10, .int (nI c)), (8, .long (s_cc la pr q w bef r r q)), (7, .int (nI r)), (5, .long (la pr q)), (0, .ref (G.2.1 1)), (1, .int (nI pr)), (2, .int (nI q)), (3, .long bef)] 42 [] := by
            intro fuel
            induction fuel with
            | zero => intro c hc hm42; exact absurd hm42 (Nat.not_lt_zero _)
            | succ fuel ih42 =>
              intro c hc hm42
              refine z_iload (pc' := 44) C dX1_clearColumn_42 0 rfl rfl ?_
              refine z_aload_n (pc' := 45) C dX1_clearColumn_44 rfl 4 rfl rfl ?_
              refine z_get (pc' := 48) C hU1 1 (by decide) q_o1 rfl 2 (by decide) (by decide +kernel) (v := .int (sc 1)) rfl dX1_clearColumn_45 rfl ?_
              refine z_cast (st' := [.int (nI w), .int (nI c)]) rfl rfl rfl rfl (congrArg (fun z => Value.int z :: [.int (nI c)]) hw) ?_
              refine z_icmpN_gt (a := c) (b := w) (pc' := 51) C 110 (by omega) (by omega) dX1_clearColumn_48 rfl rfl (fun h_48 => ?_) (fun h_48 => ?_)
              · refine z_iinc (v := nI (r + 1)) (k9 := 2) (lv' := [(7, .int (nI (r + 1))), (10, .int (nI c)), (8, .long (s_cc la pr q w bef r r q)), (5, .long (la pr q)), (0, .ref (G.2.1 1)), (1, .int (nI pr)), (2, .int (nI q)), (3, .long bef)]) (pc' := 113) C dX1_clearColumn_110 rfl (nI_1 r) (by decide) rfl rfl ?_
                refine z_goto (pc' := 13) C dX1_clearColumn_113 rfl ?_
                refine z_sub (lv' := [(7, .int (nI (r + 1))), (5, .long (la pr q)), (0, .ref (G.2.1 1)), (1, .int (nI pr)), (2, .int (nI q)), (3, .long bef)]) C [0, 3, 4, 5, 6, 7] rfl ?_
                exact z_cast rfl rfl (by first | rfl | (first | (have e9 : c = w + 1 := (by omega); subst e9; simp [s_cc, h_25]; done) | simp [s_cc, h_25])) rfl rfl (ih13 (r + 1) (by omega) (by omega))
              · refine z_lload (pc' := 53) C dX1_clearColumn_51 3 rfl rfl ?_
                refine z_aload_n (pc' := 54) C dX1_clearColumn_53 rfl 4 rfl rfl ?_
                refine z_get (pc' := 57) C hU1 1 (by decide) q_o1 rfl 0 (by decide) (by decide +kernel) (v := .ref (G.2.1 49)) rfl dX1_clearColumn_54 rfl ?_
                refine z_iload (pc' := 59) C dX1_clearColumn_57 2 rfl rfl ?_
                refine z_aald (pc' := 60) C 49 (by decide) (i := r) (a := G.2.1 (53 + r)) (ty := .long) rfl q_v49 (by omega) (by decide) (if_pos (by omega)) dX1_clearColumn_59 rfl ?_
                refine z_iload (pc' := 62) C dX1_clearColumn_60 0 rfl rfl ?_
                refine z_lald (pc' := 63) C (53 + r) (by omega) (N := 6) (i := c) (f := (s_cr (s_cc la pr q w bef r) pr r (la pr q) (s_cc la pr q w bef r r q) bef c) (r)) (q_lr r (by omega)) (by omega) (by decide) dX1_clearColumn_62 rfl ?_
                refine z_lmul (pc' := 64) C dX1_clearColumn_63 rfl ?_
                refine z_lload (pc' := 66) C dX1_clearColumn_64 1 rfl rfl ?_
                refine z_aload_n (pc' := 67) C dX1_clearColumn_66 rfl 4 rfl rfl ?_
                refine z_get (pc' := 70) C hU1 1 (by decide) q_o1 rfl 0 (by decide) (by decide +kernel) (v := .ref (G.2.1 49)) rfl dX1_clearColumn_67 rfl ?_
                refine z_iload_n (pc' := 71) C dX1_clearColumn_70 rfl 5 rfl rfl ?_
                refine z_aald (pc' := 72) C 49 (by decide) (i := pr) (a := G.2.1 (53 + pr)) (ty := .long) rfl q_v49 (by omega) (by decide) (if_pos (by omega)) dX1_clearColumn_71 rfl ?_
                refine z_iload (pc' := 74) C dX1_clearColumn_72 0 rfl rfl ?_
                refine z_lald (pc' := 75) C (53 + pr) (by omega) (N := 6) (i := c) (f := (s_cr (s_cc la pr q w bef r) pr r (la pr q) (s_cc la pr q w bef r r q) bef c) (pr)) (q_lr pr (by omega)) (by omega) (by decide) dX1_clearColumn_74 rfl ?_
                refine z_lmul (pc' := 76) C dX1_clearColumn_75 rfl ?_
                refine z_lsub (pc' := 77) C dX1_clearColumn_76 rfl ?_
                refine z_lstore (lv' := [(11, .long (((la pr q) * (((s_cr (s_cc la pr q w bef r) pr r (la pr q) (s_cc la pr q w bef r r q) bef c) (r)) c)) - ((s_cc la pr q w bef r r q) * (((s_cr (s_cc la pr q w bef r) pr r (la pr q) (s_cc la pr q w bef r r q) bef c) (pr)) c)))), (10, .int (nI c)), (8, .long (s_cc la pr q w bef r r q)), (7, .int (nI r)), (5, .long (la pr q)), (0, .ref (G.2.1 1)), (1, .int (nI pr)), (2, .int (nI q)), (3, .long bef)]) (pc' := 79) C dX1_clearColumn_77 (by decide) rfl rfl ?_
                refine z_aload_n (pc' := 80) C dX1_clearColumn_79 rfl 5 rfl rfl ?_
                refine z_get (pc' := 83) C hU1 1 (by decide) q_o1 rfl 0 (by decide) (by decide +kernel) (v := .ref (G.2.1 49)) rfl dX1_clearColumn_80 rfl ?_
                refine z_iload (pc' := 85) C dX1_clearColumn_83 3 rfl rfl ?_
                refine z_aald (pc' := 86) C 49 (by decide) (i := r) (a := G.2.1 (53 + r)) (ty := .long) rfl q_v49 (by omega) (by decide) (if_pos (by omega)) dX1_clearColumn_85 rfl ?_
                refine z_iload (pc' := 88) C dX1_clearColumn_86 1 rfl rfl ?_
                refine z_lload_n (pc' := 89) C dX1_clearColumn_88 rfl 8 rfl rfl ?_
                refine z_lconst (v := 0) (pc' := 90) C dX1_clearColumn_89 rfl rfl ?_
                refine z_lcmp (pc' := 91) C dX1_clearColumn_90 rfl ?_
                have J103 : Z sc ia (s_cr (s_cc la pr q w bef r) pr r (la pr q) (s_cc la pr q w bef r r q) bef c) [(11, .long (((la pr q) * (((s_cr (s_cc la pr q w bef r) pr r (la pr q) (s_cc la pr q w bef r r q) bef c) (r)) c)) - ((s_cc la pr q w bef r r q) * (((s_cr (s_cc la pr q w bef r) pr r (la pr q) (s_cc la pr q w bef r r q) bef c) (pr)) c)))), (10, .int (nI c)), (8, .long (s_cc la pr q w bef r r q)), (7, .int (nI r)), (5, .long (la pr q)), (0, .ref (G.2.1 1)), (1, .int (nI pr)), (2, .int (nI q)), (3, .long bef)] 103 [.long (s_dv ((la pr q) * (((s_cr (s_cc la pr q w bef r) pr r (la pr q) (s_cc la pr q w bef r r q) bef c) r) c) - (s_cc la pr q w bef r r q) * (((s_cr (s_cc la pr q w bef r) pr r (la pr q) (s_cc la pr q w bef r r q) bef c) pr) c)) bef), .int (nI c), .ref (G.2.1 (53 + r))] := by
                  refine z_last (pc' := 104) C (53 + r) (by omega) (N := 6) (i := c) (f := (s_cr (s_cc la pr q w bef r) pr r (la pr q) (s_cc la pr q w bef r r q) bef c) (r)) (q_lr r (by omega)) (by omega) (by decide) (q_ulr r (by omega) _) dX1_clearColumn_103 rfl ?_
                  refine z_iinc (v := nI (c + 1)) (k9 := 1) (lv' := [(10, .int (nI (c + 1))), (11, .long (((la pr q) * (((s_cr (s_cc la pr q w bef r) pr r (la pr q) (s_cc la pr q w bef r r q) bef c) (r)) c)) - ((s_cc la pr q w bef r r q) * (((s_cr (s_cc la pr q w bef r) pr r (la pr q) (s_cc la pr q w bef r r q) bef c) (pr)) c)))), (8, .long (s_cc la pr q w bef r r q)), (7, .int (nI r)), (5, .long (la pr q)), (0, .ref (G.2.1 1)), (1, .int (nI pr)), (2, .int (nI q)), (3, .long bef)]) (pc' := 107) C dX1_clearColumn_104 rfl (nI_1 c) (by decide) rfl rfl ?_
                  refine z_goto (pc' := 42) C dX1_clearColumn_107 rfl ?_
                  refine z_sub (lv' := [(10, .int (nI (c + 1))), (8, .long (s_cc la pr q w bef r r q)), (7, .int (nI r)), (5, .long (la pr q)), (0, .ref (G.2.1 1)), (1, .int (nI pr)), (2, .int (nI q)), (3, .long bef)]) C [0, 2, 3, 4, 5, 6, 7, 8] rfl ?_
                  exact z_cast rfl rfl rfl rfl rfl (ih42 (c + 1) (by omega) (by omega))
                refine z_if_ne (pc' := 94) C 99 dX1_clearColumn_91 rfl rfl (fun h_91 => ?_) (fun h_91 => ?_)
                · refine z_lload (pc' := 101) C dX1_clearColumn_99 0 rfl rfl ?_
                  refine z_lload_n (pc' := 102) C dX1_clearColumn_101 rfl 8 rfl rfl ?_
                  refine z_ldiv (pc' := 103) C dX1_clearColumn_102 (by rw [lg_cmp_eq] at h_91; exact h_91) rfl ?_
                  exact z_cast rfl rfl rfl rfl (by first | rfl | (rw [lg_cmp_eq] at h_91; simp [s_dv, h_91])) J103
                · refine z_lload (pc' := 96) C dX1_clearColumn_94 0 rfl rfl ?_
                  refine z_goto (pc' := 103) C dX1_clearColumn_96 rfl ?_
                  exact z_cast rfl rfl rfl rfl (by first | rfl | (rw [lg_cmp_eq] at h_91; simp [s_dv, h_91])) J103
          exact z_cast rfl rfl rfl rfl rfl (L42 (_ + 1) 0 (by omega) (Nat.lt_succ_self _))
  exact z_cast rfl rfl rfl rfl rfl (L13 (_ + 1) 0 (by omega) (Nat.lt_succ_self _))

set_option maxHeartbeats 4000000 in
set_option maxRecDepth 100000 in
theorem c_X1_reduce (l : Launch) (G : Gv) (sc : Sc) (ia : Ia) (la : La) (w h : Nat) (hw : sc 1 = nI w) (hh : sc 2 = nI h) (hW : w ≤ 5) (hH : h ≤ 32)  : Ct l yX1_reduce wsX1_reduce ({ frames := 1, cells := 0, slots := 0, locals := 32 }) G [.ref (G.2.1 1)] sc ia la (fI (nI (s_rd la w h w).1) sc ia ((s_rd la w h w).2.2)) := by
  have hU1 : ∀ w ∈ u_ws RX1 TX1 4, w ∈ wsX1_reduce := fun w h => List.mem_cons_of_mem _ (List.mem_append_right _ h)
  refine z_of (maxL := 6) (own := RX1) [(0, .ref (G.2.1 1))] rfl (by decide +kernel) rfl (Nat.le_of_ble_eq_true rfl) rfl (fun Z C E => ?_)
  refine z_iconst (v := 0) (pc' := 1) C dX1_reduce_0 rfl rfl ?_
  refine z_istore_n (lv' := [(1, .int 0), (0, .ref (G.2.1 1))]) (pc' := 2) C dX1_reduce_1 rfl (by decide) rfl rfl ?_
  refine z_lconst (v := 1) (pc' := 3) C dX1_reduce_2 rfl rfl ?_
  refine z_lstore_n (lv' := [(2, .long 1), (1, .int 0), (0, .ref (G.2.1 1))]) (pc' := 4) C dX1_reduce_3 rfl (by decide) rfl rfl ?_
  refine z_iconst (v := 0) (pc' := 5) C dX1_reduce_4 rfl rfl ?_
  refine z_istore (lv' := [(4, .int 0), (2, .long 1), (1, .int 0), (0, .ref (G.2.1 1))]) (pc' := 7) C dX1_reduce_5 (by decide) rfl rfl ?_
  have L7 : ∀ (fuel : Nat) (c : Nat) (hc : c ≤ w), w - c < fuel → Z sc ia ((s_rd la w h c).2.2) [(4, .int (nI c)), (2, .long ((s_rd la w h c).2.1)), (1, .int (nI ((s_rd la w h c).1))), (0, .ref (G.2.1 1))] 7 [] := by
    intro fuel
    induction fuel with
    | zero => intro c hc hm7; exact absurd hm7 (Nat.not_lt_zero _)
    | succ fuel ih7 =>
      intro c hc hm7
      have hrl := s_rd_le la w h c
      refine z_iload (pc' := 9) C dX1_reduce_7 0 rfl rfl ?_
      refine z_aload_n (pc' := 10) C dX1_reduce_9 rfl 3 rfl rfl ?_
      refine z_get (pc' := 13) C hU1 1 (by decide) q_o1 rfl 2 (by decide) (by decide +kernel) (v := .int (sc 1)) rfl dX1_reduce_10 rfl ?_
      refine z_cast (st' := [.int (nI w), .int (nI c)]) rfl rfl rfl rfl (congrArg (fun z => Value.int z :: [.int (nI c)]) hw) ?_
      refine z_icmpN_ge (a := c) (b := w) (pc' := 16) C 65 (by omega) (by omega) dX1_reduce_13 rfl rfl (fun h_13 => ?_) (fun h_13 => ?_)
      · refine z_iload_n (pc' := 66) C dX1_reduce_65 rfl 2 rfl rfl ?_
        exact z_iret (E := E) rfl dX1_reduce_66 ⟨(congrArg (fun z => some (Value.int z)) (show _ = _ from (by first | rfl | (have e9 : c = w := (by omega); subst e9; rfl)))), rfl, rfl, (by first | rfl | (have e9 : c = w := (by omega); subst e9; rfl))⟩
      · refine z_aload_n (pc' := 17) C dX1_reduce_16 rfl 3 rfl rfl ?_
        refine z_iload_n (pc' := 18) C dX1_reduce_17 rfl 2 rfl rfl ?_
        refine z_iload (pc' := 20) C dX1_reduce_18 0 rfl rfl ?_
        rcases hf9 : s_fp (s_rd la w h c).2.2 (s_rd la w h c).1 c h with _ | d
        · refine z_cV (n := 2) (pc' := 23) (As := [.int (nI ((s_rd la w h c).1)), .int (nI c)]) (rest := []) C 1 (c_X1_findPivotN l G sc ia ((s_rd la w h c).2.2) w h hw hh hW hH ((s_rd la w h c).1) c (by omega) (by omega) hf9) gX1_reduce_X1_findPivot rfl rfl rfl rfl (by decide +kernel) (by decide) rfl (by decide) q_o1 rfl rfl dX1_reduce_20 (Nat.le_of_ble_eq_true rfl) rfl (k_I ?_)
          show Z sc ia ((s_rd la w h c).2.2) [(4, .int (nI c)), (2, .long ((s_rd la w h c).2.1)), (1, .int (nI ((s_rd la w h c).1))), (0, .ref (G.2.1 1))] 23 [.int (-1)]
          refine z_istore (lv' := [(5, .int (-1)), (4, .int (nI c)), (2, .long ((s_rd la w h c).2.1)), (1, .int (nI ((s_rd la w h c).1))), (0, .ref (G.2.1 1))]) (pc' := 25) C dX1_reduce_23 (by decide) rfl rfl ?_
          refine z_iload (pc' := 27) C dX1_reduce_25 0 rfl rfl ?_
          refine z_iconst (v := -1) (pc' := 28) C dX1_reduce_27 rfl rfl ?_
          refine z_icmp_eq (pc' := 31) C 59 dX1_reduce_28 rfl rfl (fun h_28 => ?_) (fun h_28 => absurd h_28 (by decide))
          refine z_iinc (v := nI (c + 1)) (k9 := 1) (lv' := [(4, .int (nI (c + 1))), (5, .int (-1)), (2, .long ((s_rd la w h c).2.1)), (1, .int (nI ((s_rd la w h c).1))), (0, .ref (G.2.1 1))]) (pc' := 62) C dX1_reduce_59 rfl (nI_1 c) (by decide) rfl rfl ?_
          refine z_goto (pc' := 7) C dX1_reduce_62 rfl ?_
          refine z_sub (lv' := [(4, .int (nI (c + 1))), (2, .long ((s_rd la w h c).2.1)), (1, .int (nI ((s_rd la w h c).1))), (0, .ref (G.2.1 1))]) C [0, 2, 3, 4] rfl ?_
          exact z_cast rfl rfl (by first | rfl | (first | (rw [s_rd_n hf9]; done) | (rw [s_rd_s hf9]; done))) (by first | rfl | (first | (rw [s_rd_n hf9]; done) | (rw [s_rd_s hf9]; done))) rfl (ih7 (c + 1) (by omega) (by omega))
        · have hdl := (s_fi_lt hf9).1
          refine z_cV (n := 2) (pc' := 23) (As := [.int (nI ((s_rd la w h c).1)), .int (nI c)]) (rest := []) C 1 (c_X1_findPivotS l G sc ia ((s_rd la w h c).2.2) w h hw hh hW hH ((s_rd la w h c).1) c (by omega) (by omega) d hf9) gX1_reduce_X1_findPivot rfl rfl rfl rfl (by decide +kernel) (by decide) rfl (by decide) q_o1 rfl rfl dX1_reduce_20 (Nat.le_of_ble_eq_true rfl) rfl (k_I ?_)
          show Z sc ia ((s_rd la w h c).2.2) [(4, .int (nI c)), (2, .long ((s_rd la w h c).2.1)), (1, .int (nI ((s_rd la w h c).1))), (0, .ref (G.2.1 1))] 23 [.int (nI ((s_rd la w h c).1 + d))]
          refine z_istore (lv' := [(5, .int (nI ((s_rd la w h c).1 + d))), (4, .int (nI c)), (2, .long ((s_rd la w h c).2.1)), (1, .int (nI ((s_rd la w h c).1))), (0, .ref (G.2.1 1))]) (pc' := 25) C dX1_reduce_23 (by decide) rfl rfl ?_
          refine z_iload (pc' := 27) C dX1_reduce_25 0 rfl rfl ?_
          refine z_iconst (v := -1) (pc' := 28) C dX1_reduce_27 rfl rfl ?_
          refine z_icmp_eq (pc' := 31) C 59 dX1_reduce_28 rfl rfl (fun h_28 => absurd h_28 (by intro h9; exact absurd (congrArg Int32.toInt h9) (by rw [nI_toInt (by omega)]; show ¬ ((((s_rd la w h c).1 + d : Nat)) : Int) = -1; omega))) (fun h_28 => ?_)
          refine z_aload_n (pc' := 32) C dX1_reduce_31 rfl 4 rfl rfl ?_
          refine z_iload_n (pc' := 33) C dX1_reduce_32 rfl 3 rfl rfl ?_
          refine z_iload (pc' := 35) C dX1_reduce_33 0 rfl rfl ?_
          refine z_cV (n := 2) (pc' := 38) (As := [.int (nI ((s_rd la w h c).1)), .int (nI ((s_rd la w h c).1 + d))]) (rest := []) C 1 (c_X1_swapRows l G sc ia ((s_rd la w h c).2.2) w h hw hh hW hH ((s_rd la w h c).1) ((s_rd la w h c).1 + d) (by omega) (by omega)) gX1_reduce_X1_swapRows rfl rfl rfl rfl (by decide +kernel) (by decide) rfl (by decide) q_o1 rfl rfl dX1_reduce_35 (Nat.le_of_ble_eq_true rfl) rfl (k_V ?_)
          show Z sc ia (s_sw ((s_rd la w h c).2.2) ((s_rd la w h c).1) ((s_rd la w h c).1 + d) (w + 1)) [(5, .int (nI ((s_rd la w h c).1 + d))), (4, .int (nI c)), (2, .long ((s_rd la w h c).2.1)), (1, .int (nI ((s_rd la w h c).1))), (0, .ref (G.2.1 1))] 38 []
          refine z_aload_n (pc' := 39) C dX1_reduce_38 rfl 4 rfl rfl ?_
          refine z_iload_n (pc' := 40) C dX1_reduce_39 rfl 3 rfl rfl ?_
          refine z_iload (pc' := 42) C dX1_reduce_40 1 rfl rfl ?_
          refine z_lload_n (pc' := 43) C dX1_reduce_42 rfl 2 rfl rfl ?_
          refine z_cV (n := 3) (pc' := 46) (As := [.int (nI ((s_rd la w h c).1)), .int (nI c), .long ((s_rd la w h c).2.1)]) (rest := []) C 1 (c_X1_clearColumn l G sc ia (s_sw ((s_rd la w h c).2.2) ((s_rd la w h c).1) ((s_rd la w h c).1 + d) (w + 1)) w h hw hh hW hH ((s_rd la w h c).1) c ((s_rd la w h c).2.1) (by omega) (by omega)) gX1_reduce_X1_clearColumn rfl rfl rfl rfl (by decide +kernel) (by decide) rfl (by decide) q_o1 rfl rfl dX1_reduce_43 (Nat.le_of_ble_eq_true rfl) rfl (k_V ?_)
          show Z sc ia (s_cc (s_sw ((s_rd la w h c).2.2) ((s_rd la w h c).1) ((s_rd la w h c).1 + d) (w + 1)) ((s_rd la w h c).1) c w ((s_rd la w h c).2.1) h) [(5, .int (nI ((s_rd la w h c).1 + d))), (4, .int (nI c)), (2, .long ((s_rd la w h c).2.1)), (1, .int (nI ((s_rd la w h c).1))), (0, .ref (G.2.1 1))] 46 []
          refine z_aload_n (pc' := 47) C dX1_reduce_46 rfl 4 rfl rfl ?_
          refine z_get (pc' := 50) C hU1 1 (by decide) q_o1 rfl 0 (by decide) (by decide +kernel) (v := .ref (G.2.1 49)) rfl dX1_reduce_47 rfl ?_
          refine z_iload_n (pc' := 51) C dX1_reduce_50 rfl 3 rfl rfl ?_
          refine z_aald (pc' := 52) C 49 (by decide) (i := (s_rd la w h c).1) (a := G.2.1 (53 + ((s_rd la w h c).1))) (ty := .long) rfl q_v49 (by omega) (by decide) (if_pos (by omega)) dX1_reduce_51 rfl ?_
          refine z_iload (pc' := 54) C dX1_reduce_52 1 rfl rfl ?_
          refine z_lald (pc' := 55) C (53 + ((s_rd la w h c).1)) (by omega) (N := 6) (i := c) (f := (s_cc (s_sw ((s_rd la w h c).2.2) ((s_rd la w h c).1) ((s_rd la w h c).1 + d) (w + 1)) ((s_rd la w h c).1) c w ((s_rd la w h c).2.1) h) ((s_rd la w h c).1)) (q_lr ((s_rd la w h c).1) (by omega)) (by omega) (by decide) dX1_reduce_54 rfl ?_
          refine z_lstore_n (lv' := [(2, .long (((s_cc (s_sw ((s_rd la w h c).2.2) ((s_rd la w h c).1) ((s_rd la w h c).1 + d) (w + 1)) ((s_rd la w h c).1) c w ((s_rd la w h c).2.1) h) ((s_rd la w h c).1)) c)), (5, .int (nI ((s_rd la w h c).1 + d))), (4, .int (nI c)), (1, .int (nI ((s_rd la w h c).1))), (0, .ref (G.2.1 1))]) (pc' := 56) C dX1_reduce_55 rfl (by decide) rfl rfl ?_
          refine z_iinc (v := nI ((s_rd la w h c).1 + 1)) (k9 := 3) (lv' := [(1, .int (nI ((s_rd la w h c).1 + 1))), (2, .long (((s_cc (s_sw ((s_rd la w h c).2.2) ((s_rd la w h c).1) ((s_rd la w h c).1 + d) (w + 1)) ((s_rd la w h c).1) c w ((s_rd la w h c).2.1) h) ((s_rd la w h c).1)) c)), (5, .int (nI ((s_rd la w h c).1 + d))), (4, .int (nI c)), (0, .ref (G.2.1 1))]) (pc' := 59) C dX1_reduce_56 rfl (nI_1 ((s_rd la w h c).1)) (by decide) rfl rfl ?_
          refine z_iinc (v := nI (c + 1)) (k9 := 3) (lv' := [(4, .int (nI (c + 1))), (1, .int (nI ((s_rd la w h c).1 + 1))), (2, .long (((s_cc (s_sw ((s_rd la w h c).2.2) ((s_rd la w h c).1) ((s_rd la w h c).1 + d) (w + 1)) ((s_rd la w h c).1) c w ((s_rd la w h c).2.1) h) ((s_rd la w h c).1)) c)), (5, .int (nI ((s_rd la w h c).1 + d))), (0, .ref (G.2.1 1))]) (pc' := 62) C dX1_reduce_59 rfl (nI_1 c) (by decide) rfl rfl ?_
          refine z_goto (pc' := 7) C dX1_reduce_62 rfl ?_
          refine z_sub (lv' := [(4, .int (nI (c + 1))), (2, .long (((s_cc (s_sw ((s_rd la w h c).2.2) ((s_rd la w h c).1) ((s_rd la w h c).1 + d) (w + 1)) ((s_rd la w h c).1) c w ((s_rd la w h c).2.1) h) ((s_rd la w h c).1)) c)), (1, .int (nI ((s_rd la w h c).1 + 1))), (0, .ref (G.2.1 1))]) C [0, 2, 1, 4] rfl ?_
          exact z_cast rfl rfl (by first | rfl | (first | (rw [s_rd_n hf9]; done) | (rw [s_rd_s hf9]; done))) (by first | rfl | (first | (rw [s_rd_n hf9]; done) | (rw [s_rd_s hf9]; done))) rfl (ih7 (c + 1) (by omega) (by omega))
  exact z_cast rfl rfl rfl rfl rfl (L7 (_ + 1) 0 (by omega) (Nat.lt_succ_self _))

