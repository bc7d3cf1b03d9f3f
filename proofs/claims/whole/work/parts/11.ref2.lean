
def r_of (ia : Ia) (n a j : Nat) : Int32 := (ia 34 j - r_fa (ia 29) j n) * s_sgn (nI a) (nI j)
def r_ms (ia : Ia) (j : Nat) : Bool := !decide (ia 33 j = 0)
def r_ok (ia : Ia) (n a f d : Nat) : Bool := decide (ia 33 (f + d) = 0) || decide (r_of ia n a (f + d) = r_of ia n a f)
def r_ob (ia : Ia) (n a : Nat) : Int32 := match s_fi (r_ms ia) n with
  | none => 0
  | some f => if s_all (r_ok ia n a f) (n - f) = true then r_of ia n a f else 0
theorem s_fi_none {p : Nat → Bool} {n : Nat} (h : s_fi p n = none) : ∀ j, j < n → p j = false := by
  induction n with
  | zero => intro j hj; omega
  | succ n ih =>
    intro j hj
    cases e : s_fi p n with
    | some i => simp [s_fi, e] at h
    | none =>
      by_cases q : p n = true
      · simp [s_fi, e, q] at h
      · by_cases ej : j = n
        · rw [ej]; exact (by cases h9 : p n with | true => exact absurd h9 q | false => rfl)
        · exact ih e j (by omega)
theorem r_tri {j f : Nat} {x t o : Int32} {P : Prop} (hv : (j ≤ f ∧ x = 0 ∧ t = 1) ∨ (f < j ∧ x = o ∧ t = 0 ∧ P)) : (j < f ∧ x = 0 ∧ t = 1) ∨ (j = f ∧ x = 0 ∧ t = 1) ∨ (f < j ∧ x = o ∧ t = 0 ∧ P) := by
  rcases hv with ⟨a, b, c⟩ | h
  · rcases Nat.lt_or_eq_of_le a with q | q
    · exact Or.inl ⟨q, b, c⟩
    · exact Or.inr (Or.inl ⟨q, b, c⟩)
  · exact Or.inr (Or.inr h)
def r_on (ia : Ia) (n j : Nat) : Bool := decide (ia 33 j = 0) || decide (ia 34 j = r_fa (ia 29) j n)
def r_isf (ia : Ia) (n a : Nat) : Bool := !decide (r_ob ia n a = 0)
def r_fat (ia : Ia) (n : Nat) (k : Int32) : Option Nat := if k < 0 then none else s_fi (fun i => r_isf ia n i && decide (k - nI (s_cn (r_isf ia n) i) = 0)) n
theorem r_dec (k : Int32) (c : Nat) : k - nI c + (-1) = k - nI (c + 1) := by
  rw [← nI_1, Int32.sub_eq_add_neg, Int32.sub_eq_add_neg, Int32.neg_add, Int32.add_assoc, Int32.sub_eq_add_neg]
def r_br (ia : Ia) (n j : Nat) : Bool := decide (ia 35 j < r_fa (ia 29) j n) || !decide (-(r_fa (ia 29) j n) ≤ ia 35 j)
def r_z (f : Nat → Int32) : Nat → (Nat → Int32)
  | 0 => f
  | k + 1 => upd (r_z f k) k 0
theorem up_4 {α : Type} (f : Nat → α) {a b : Nat} (h : a ≠ b) (x y x' y' : α) : va_up (va_up (va_up (va_up f a x) b y) a x') b y' = va_up (va_up f a x') b y' := by
  funext j
  unfold va_up
  by_cases h1 : j = b
  · simp [h1]
  · by_cases h2 : j = a
    · simp [h1, h2]
    · simp [h1, h2]
def r_hold (r c R K : Int32) : Bool := r_in r.toInt64 0 R.toInt64 && r_in c.toInt64 0 K.toInt64 && !(decide (r = R) && decide (c = K))
theorem s_out_ok {a b : Nat} (h : a ≤ b) (hb : b < 2 ^ 31) : s_out (nI a) 0 (nI b) = false := by
  have h1 : ¬ nI a < 0 := nI_pos (by omega)
  have h2 : nI a ≤ nI b := nI_le h hb
  simp [s_out, h1, h2]
theorem s_out_ok1 {a b : Nat} (h : a < b) (hb : b < 2 ^ 31) : s_out (nI a) 0 (nI b - 1) = false := by
  rw [nI_m1 (by omega)]
  exact s_out_ok (by omega) (by omega)
theorem s_out_pl (i : Int32) {n : Nat} (h1 : 1 ≤ n) (hN : n ≤ 32) : s_out i 0 (nI n - 1) = !s_has i (nI n) := by
  have h := r_place i h1 hN
  have e : r_in i.toInt64 0 (nI n - 1).toInt64 = !s_out i 0 (nI n - 1) := r_in32 i 0 (nI n - 1)
  rw [e] at h
  rw [← h, Bool.not_not]
def r_wh (h : Nat → Int32) (a b c : Nat) : Bool := !decide (a = b) && !decide (a = c) && !decide (h (5 * a + b) = 0) && !decide (h (5 * a + c) = 0) && !decide (h (5 * b + c) = 0)
def r_ga (p : Nat → Int32) (a b c : Nat) : Int32 := p (5 * a + b) + p (5 * a + c) - p (5 * b + c)
abbrev Q4 : Type := Int32 × Int32 × Int32 × Int32
def r_t1 (h p : Nat → Int32) (a b c : Nat) (x : Q4) : Q4 := if r_wh h a b c = true then (x.1 + 1, (if x.1 = 0 then r_ga p a b c else x.2.1), (if x.1 = 0 ∨ r_ga p a b c < x.2.2.1 then r_ga p a b c else x.2.2.1), (if x.1 = 0 ∨ x.2.2.2 < r_ga p a b c then r_ga p a b c else x.2.2.2)) else x
def r_ti (h p : Nat → Int32) (a b : Nat) (x : Q4) : Nat → Q4
  | 0 => x
  | d + 1 => r_t1 h p a b (b + 1 + d) (r_ti h p a b x d)
def r_to (h p : Nat → Int32) (m a : Nat) (x : Q4) : Nat → Q4
  | 0 => x
  | b + 1 => r_ti h p a b (r_to h p m a x b) (m - (b + 1))
/-- the state behind findThrees -/
def r_ft (sc : Sc) (x : Q4) : Sc := va_up (va_up (va_up (va_up sc 13 x.1) 14 x.2.1) 15 x.2.2.1) 16 x.2.2.2
def r_x0 (sc : Sc) : Q4 := (0, sc 14, sc 15, sc 16)
def r_tt (sc : Sc) (h p : Nat → Int32) (m a : Nat) : Q4 := r_to h p m a (r_x0 sc) m

set_option maxHeartbeats 4000000 in
set_option maxRecDepth 100000 in
theorem c_X6_offByS (l : Launch) (G : Gv) (sc : Sc) (ia : Ia) (la : La) (n : Nat) (hn : sc 7 = nI n) (hN : n ≤ 32) (a : Nat) (ha : a < 32) (f : Nat) (hf : s_fi (r_ms ia) n = some f)  : Ct l yX6_offBy wsX6_offBy ({ frames := 2, cells := 0, slots := 0, locals := 46 }) G [.ref (G.2.1 6), .int (nI a)] sc ia la (fI (if s_all (r_ok ia n a f) (n - f) = true then r_of ia n a f else 0) sc ia la) := by
  have hU6 : ∀ w ∈ u_ws RX6 TX6 25, w ∈ wsX6_offBy := fun w h => List.mem_cons_of_mem _ (List.mem_append_right _ h)
  obtain ⟨hfn, hfm, hfb⟩ := s_fi_lt hf
  refine z_of (maxL := 6) (own := RX6) [(0, .ref (G.2.1 6)), (1, .int (nI a))] rfl (by decide +kernel) rfl (Nat.le_of_ble_eq_true rfl) rfl (fun Z C E => ?_)
  refine z_iconst (v := 0) (pc' := 1) C dX6_offBy_0 rfl rfl ?_
  refine z_istore_n (lv' := [(2, .int 0), (0, .ref (G.2.1 6)), (1, .int (nI a))]) (pc' := 2) C dX6_offBy_1 rfl (by decide) rfl rfl ?_
  refine z_iconst (v := 1) (pc' := 3) C dX6_offBy_2 rfl rfl ?_
  refine z_istore_n (lv' := [(3, .int 1), (2, .int 0), (0, .ref (G.2.1 6)), (1, .int (nI a))]) (pc' := 4) C dX6_offBy_3 rfl (by decide) rfl rfl ?_
  refine z_iconst (v := 0) (pc' := 5) C dX6_offBy_4 rfl rfl ?_
  refine z_istore (lv' := [(4, .int 0), (3, .int 1), (2, .int 0), (0, .ref (G.2.1 6)), (1, .int (nI a))]) (pc' := 7) C dX6_offBy_5 (by decide) rfl rfl ?_
  have L7 : ∀ (fuel : Nat) (j : Nat) (x : Int32) (t : Int32) (hj : j ≤ n) (hv : (j ≤ f ∧ x = 0 ∧ t = 1) ∨ (f < j ∧ x = r_of ia n a f ∧ t = 0 ∧ s_all (r_ok ia n a f) (j - f) = true)), n - j < fuel → Z sc ia la [(4, .int (nI j)), (3, .int t), (2, .int x), (0, .ref (G.2.1 6)), (1, .int (nI a))] 7 [] := by
    intro fuel
    induction fuel with
    | zero => intro j x t hj hv hm7; exact absurd hm7 (Nat.not_lt_zero _)
    | succ fuel ih7 =>
      intro j x t hj hv hm7
      refine z_iload (pc' := 9) C dX6_offBy_7 0 rfl rfl ?_
      refine z_aload_n (pc' := 10) C dX6_offBy_9 rfl 3 rfl rfl ?_
      refine z_get (pc' := 13) C hU6 6 (by decide) q_o6 rfl 0 (by decide) (by decide +kernel) (v := .int (sc 7)) rfl dX6_offBy_10 rfl ?_
      refine z_cast (st' := [.int (nI n), .int (nI j)]) rfl rfl rfl rfl (congrArg (fun z => Value.int z :: [.int (nI j)]) hn) ?_
      refine z_icmpN_ge (a := j) (b := n) (pc' := 16) C 72 (by omega) (by omega) dX6_offBy_13 rfl rfl (fun h_13 => ?_) (fun h_13 => ?_)
      · refine z_iload_n (pc' := 73) C dX6_offBy_72 rfl 2 rfl rfl ?_
        exact z_iret (E := E) rfl dX6_offBy_73 ⟨(congrArg (fun z => some (Value.int z)) (show _ = _ from (by first | rfl | (rcases hv with ⟨q, _⟩ | ⟨q, q1, q2, q3⟩; (exact absurd q (by omega)); have e9 : j = n := (by omega); subst e9; rw [if_pos q3]; exact q1)))), rfl, rfl, rfl⟩
      · rcases r_tri hv with ⟨hlt, rfl, rfl⟩ | ⟨hjf, rfl, rfl⟩ | ⟨hgt, rfl, rfl, hal⟩
        · refine z_aload_n (pc' := 17) C dX6_offBy_16 rfl 3 rfl rfl ?_
          refine z_get (pc' := 20) C hU6 6 (by decide) q_o6 rfl 5 (by decide) (by decide +kernel) (v := .ref (G.2.1 40)) rfl dX6_offBy_17 rfl ?_
          refine z_iload (pc' := 22) C dX6_offBy_20 0 rfl rfl ?_
          refine z_zald (pc' := 23) C 40 (by decide) (N := 32) (i := j) (f := ia 33) q_i33 (by omega) (by decide) dX6_offBy_22 rfl ?_
          refine z_if_eq (pc' := 26) C 66 dX6_offBy_23 rfl rfl (fun h_23 => ?_) (fun h_23 => absurd h_23 (by have q := hfb j hlt; simp [r_ms] at q; exact fun z => z q))
          refine z_iinc (v := nI (j + 1)) (k9 := 0) (lv' := [(4, .int (nI (j + 1))), (3, .int 1), (2, .int 0), (0, .ref (G.2.1 6)), (1, .int (nI a))]) (pc' := 69) C dX6_offBy_66 rfl (nI_1 j) (by decide) rfl rfl ?_
          refine z_goto (pc' := 7) C dX6_offBy_69 rfl ?_
          exact z_cast rfl rfl rfl rfl rfl (ih7 (j + 1) _ _ (by omega) (by first | exact Or.inl ⟨by omega, rfl, rfl⟩ | exact Or.inr ⟨by omega, by subst hjf; rfl, rfl, by subst hjf; rw [show j + 1 - j = 0 + 1 by omega]; exact s_all_s rfl (by simp [r_ok])⟩ | exact Or.inr ⟨by omega, rfl, rfl, by rw [show j + 1 - f = (j - f) + 1 by omega]; exact s_all_s hal (by have e8 : f + (j - f) = j := (by omega); unfold r_ok; rw [e8]; first | (simp [h_23]; done) | (rw [Bool.or_eq_true]; exact Or.inr (decide_eq_true h_61)))⟩) (by omega))
        · refine z_aload_n (pc' := 17) C dX6_offBy_16 rfl 3 rfl rfl ?_
          refine z_get (pc' := 20) C hU6 6 (by decide) q_o6 rfl 5 (by decide) (by decide +kernel) (v := .ref (G.2.1 40)) rfl dX6_offBy_17 rfl ?_
          refine z_iload (pc' := 22) C dX6_offBy_20 0 rfl rfl ?_
          refine z_zald (pc' := 23) C 40 (by decide) (N := 32) (i := j) (f := ia 33) q_i33 (by omega) (by decide) dX6_offBy_22 rfl ?_
          refine z_if_eq (pc' := 26) C 66 dX6_offBy_23 rfl rfl (fun h_23 => absurd h_23 (by subst hjf; simp [r_ms] at hfm; exact hfm)) (fun h_23 => ?_)
          refine z_aload_n (pc' := 27) C dX6_offBy_26 rfl 3 rfl rfl ?_
          refine z_get (pc' := 30) C hU6 6 (by decide) q_o6 rfl 6 (by decide) (by decide +kernel) (v := .ref (G.2.1 41)) rfl dX6_offBy_27 rfl ?_
          refine z_iload (pc' := 32) C dX6_offBy_30 0 rfl rfl ?_
          refine z_iald (pc' := 33) C 41 (by decide) (N := 32) (i := j) (f := ia 34) q_i34 (by omega) (by decide) dX6_offBy_32 rfl ?_
          refine z_aload_n (pc' := 34) C dX6_offBy_33 rfl 3 rfl rfl ?_
          refine z_iload (pc' := 36) C dX6_offBy_34 0 rfl rfl ?_
          refine z_cV (n := 1) (pc' := 39) (As := [.int (nI j)]) (rest := [.int ((ia 34) j)]) C 6 (c_X6_farOf l G sc ia la n hn hN j (by omega)) gX6_offBy_X6_farOf rfl rfl rfl rfl (by decide +kernel) (by decide) rfl (by decide) q_o6 rfl rfl dX6_offBy_36 (Nat.le_of_ble_eq_true rfl) rfl (k_I ?_)
          show Z sc ia la [(4, .int (nI j)), (3, .int 1), (2, .int 0), (0, .ref (G.2.1 6)), (1, .int (nI a))] 39 [.int (r_fa (ia 29) j n), .int ((ia 34) j)]
          refine z_isub (pc' := 40) C dX6_offBy_39 rfl ?_
          refine z_iload_n (pc' := 41) C dX6_offBy_40 rfl 4 rfl rfl ?_
          refine z_iload (pc' := 43) C dX6_offBy_41 0 rfl rfl ?_
          refine z_cS (n := 2) (pc' := 46) (As := [.int (nI a), .int (nI j)]) (rest := [.int (((ia 34) j) - (r_fa (ia 29) j n))]) C (c_X6_sign l G sc ia la a j (by omega) (by omega) ) gX6_offBy_X6_sign rfl rfl rfl (by decide +kernel) (by decide) rfl rfl dX6_offBy_43 (Nat.le_of_ble_eq_true rfl) rfl (k_I ?_)
          show Z sc ia la [(4, .int (nI j)), (3, .int 1), (2, .int 0), (0, .ref (G.2.1 6)), (1, .int (nI a))] 46 [.int (s_sgn (nI a) (nI j)), .int (((ia 34) j) - (r_fa (ia 29) j n))]
          refine z_imul (pc' := 47) C dX6_offBy_46 rfl ?_
          refine z_istore (lv' := [(5, .int ((((ia 34) j) - (r_fa (ia 29) j n)) * (s_sgn (nI a) (nI j)))), (4, .int (nI j)), (3, .int 1), (2, .int 0), (0, .ref (G.2.1 6)), (1, .int (nI a))]) (pc' := 49) C dX6_offBy_47 (by decide) rfl rfl ?_
          refine z_iload_n (pc' := 50) C dX6_offBy_49 rfl 2 rfl rfl ?_
          refine z_if_eq (pc' := 53) C 58 dX6_offBy_50 rfl rfl (fun h_50 => absurd h_50 (by decide)) (fun h_50 => ?_)
          refine z_iload (pc' := 55) C dX6_offBy_53 0 rfl rfl ?_
          refine z_istore_n (lv' := [(2, .int ((((ia 34) j) - (r_fa (ia 29) j n)) * (s_sgn (nI a) (nI j)))), (5, .int ((((ia 34) j) - (r_fa (ia 29) j n)) * (s_sgn (nI a) (nI j)))), (4, .int (nI j)), (3, .int 1), (0, .ref (G.2.1 6)), (1, .int (nI a))]) (pc' := 56) C dX6_offBy_55 rfl (by decide) rfl rfl ?_
          refine z_iconst (v := 0) (pc' := 57) C dX6_offBy_56 rfl rfl ?_
          refine z_istore_n (lv' := [(3, .int 0), (2, .int ((((ia 34) j) - (r_fa (ia 29) j n)) * (s_sgn (nI a) (nI j)))), (5, .int ((((ia 34) j) - (r_fa (ia 29) j n)) * (s_sgn (nI a) (nI j)))), (4, .int (nI j)), (0, .ref (G.2.1 6)), (1, .int (nI a))]) (pc' := 58) C dX6_offBy_57 rfl (by decide) rfl rfl ?_
          refine z_iload (pc' := 60) C dX6_offBy_58 2 rfl rfl ?_
          refine z_iload_n (pc' := 61) C dX6_offBy_60 rfl 1 rfl rfl ?_
          refine z_icmp_eq (pc' := 64) C 66 dX6_offBy_61 rfl rfl (fun h_61 => ?_) (fun h_61 => absurd h_61 (by exact fun q => q rfl))
          refine z_iinc (v := nI (j + 1)) (k9 := 3) (lv' := [(4, .int (nI (j + 1))), (3, .int 0), (2, .int ((((ia 34) j) - (r_fa (ia 29) j n)) * (s_sgn (nI a) (nI j)))), (5, .int ((((ia 34) j) - (r_fa (ia 29) j n)) * (s_sgn (nI a) (nI j)))), (0, .ref (G.2.1 6)), (1, .int (nI a))]) (pc' := 69) C dX6_offBy_66 rfl (nI_1 j) (by decide) rfl rfl ?_
          refine z_goto (pc' := 7) C dX6_offBy_69 rfl ?_
          refine z_sub (lv' := [(4, .int (nI (j + 1))), (3, .int 0), (2, .int ((((ia 34) j) - (r_fa (ia 29) j n)) * (s_sgn (nI a) (nI j)))), (0, .ref (G.2.1 6)), (1, .int (nI a))]) C [0, 1, 2, 4, 5] rfl ?_
          exact z_cast rfl rfl rfl rfl rfl (ih7 (j + 1) _ _ (by omega) (by first | exact Or.inl ⟨by omega, rfl, rfl⟩ | exact Or.inr ⟨by omega, by subst hjf; rfl, rfl, by subst hjf; rw [show j + 1 - j = 0 + 1 by omega]; exact s_all_s rfl (by simp [r_ok])⟩ | exact Or.inr ⟨by omega, rfl, rfl, by rw [show j + 1 - f = (j - f) + 1 by omega]; exact s_all_s hal (by have e8 : f + (j - f) = j := (by omega); unfold r_ok; rw [e8]; first | (simp [h_23]; done) | (rw [Bool.or_eq_true]; exact Or.inr (decide_eq_true h_61)))⟩) (by omega))
        · refine z_aload_n (pc' := 17) C dX6_offBy_16 rfl 3 rfl rfl ?_
          refine z_get (pc' := 20) C hU6 6 (by decide) q_o6 rfl 5 (by decide) (by decide +kernel) (v := .ref (G.2.1 40)) rfl dX6_offBy_17 rfl ?_
          refine z_iload (pc' := 22) C dX6_offBy_20 0 rfl rfl ?_
          refine z_zald (pc' := 23) C 40 (by decide) (N := 32) (i := j) (f := ia 33) q_i33 (by omega) (by decide) dX6_offBy_22 rfl ?_
          refine z_if_eq (pc' := 26) C 66 dX6_offBy_23 rfl rfl (fun h_23 => ?_) (fun h_23 => ?_)
          · refine z_iinc (v := nI (j + 1)) (k9 := 0) (lv' := [(4, .int (nI (j + 1))), (3, .int 0), (2, .int (r_of ia n a f)), (0, .ref (G.2.1 6)), (1, .int (nI a))]) (pc' := 69) C dX6_offBy_66 rfl (nI_1 j) (by decide) rfl rfl ?_
            refine z_goto (pc' := 7) C dX6_offBy_69 rfl ?_
            exact z_cast rfl rfl rfl rfl rfl (ih7 (j + 1) _ _ (by omega) (by first | exact Or.inl ⟨by omega, rfl, rfl⟩ | exact Or.inr ⟨by omega, by subst hjf; rfl, rfl, by subst hjf; rw [show j + 1 - j = 0 + 1 by omega]; exact s_all_s rfl (by simp [r_ok])⟩ | exact Or.inr ⟨by omega, rfl, rfl, by rw [show j + 1 - f = (j - f) + 1 by omega]; exact s_all_s hal (by have e8 : f + (j - f) = j := (by omega); unfold r_ok; rw [e8]; first | (simp [h_23]; done) | (rw [Bool.or_eq_true]; exact Or.inr (decide_eq_true h_61)))⟩) (by omega))
          · refine z_aload_n (pc' := 27) C dX6_offBy_26 rfl 3 rfl rfl ?_
            refine z_get (pc' := 30) C hU6 6 (by decide) q_o6 rfl 6 (by decide) (by decide +kernel) (v := .ref (G.2.1 41)) rfl dX6_offBy_27 rfl ?_
            refine z_iload (pc' := 32) C dX6_offBy_30 0 rfl rfl ?_
            refine z_iald (pc' := 33) C 41 (by decide) (N := 32) (i := j) (f := ia 34) q_i34 (by omega) (by decide) dX6_offBy_32 rfl ?_
            refine z_aload_n (pc' := 34) C dX6_offBy_33 rfl 3 rfl rfl ?_
            refine z_iload (pc' := 36) C dX6_offBy_34 0 rfl rfl ?_
            refine z_cV (n := 1) (pc' := 39) (As := [.int (nI j)]) (rest := [.int ((ia 34) j)]) C 6 (c_X6_farOf l G sc ia la n hn hN j (by omega)) gX6_offBy_X6_farOf rfl rfl rfl rfl (by decide +kernel) (by decide) rfl (by decide) q_o6 rfl rfl dX6_offBy_36 (Nat.le_of_ble_eq_true rfl) rfl (k_I ?_)
            show Z sc ia la [(4, .int (nI j)), (3, .int 0), (2, .int (r_of ia n a f)), (0, .ref (G.2.1 6)), (1, .int (nI a))] 39 [.int (r_fa (ia 29) j n), .int ((ia 34) j)]
            refine z_isub (pc' := 40) C dX6_offBy_39 rfl ?_
            refine z_iload_n (pc' := 41) C dX6_offBy_40 rfl 4 rfl rfl ?_
            refine z_iload (pc' := 43) C dX6_offBy_41 0 rfl rfl ?_
            refine z_cS (n := 2) (pc' := 46) (As := [.int (nI a), .int (nI j)]) (rest := [.int (((ia 34) j) - (r_fa (ia 29) j n))]) C (c_X6_sign l G sc ia la a j (by omega) (by omega) ) gX6_offBy_X6_sign rfl rfl rfl (by decide +kernel) (by decide) rfl rfl dX6_offBy_43 (Nat.le_of_ble_eq_true rfl) rfl (k_I ?_)
            show Z sc ia la [(4, .int (nI j)), (3, .int 0), (2, .int (r_of ia n a f)), (0, .ref (G.2.1 6)), (1, .int (nI a))] 46 [.int (s_sgn (nI a) (nI j)), .int (((ia 34) j) - (r_fa (ia 29) j n))]
            refine z_imul (pc' := 47) C dX6_offBy_46 rfl ?_
            refine z_istore (lv' := [(5, .int ((((ia 34) j) - (r_fa (ia 29) j n)) * (s_sgn (nI a) (nI j)))), (4, .int (nI j)), (3, .int 0), (2, .int (r_of ia n a f)), (0, .ref (G.2.1 6)), (1, .int (nI a))]) (pc' := 49) C dX6_offBy_47 (by decide) rfl rfl ?_
            refine z_iload_n (pc' := 50) C dX6_offBy_49 rfl 2 rfl rfl ?_
            refine z_if_eq (pc' := 53) C 58 dX6_offBy_50 rfl rfl (fun h_50 => ?_) (fun h_50 => absurd h_50 (by decide))
            refine z_iload (pc' := 60) C dX6_offBy_58 0 rfl rfl ?_
            refine z_iload_n (pc' := 61) C dX6_offBy_60 rfl 3 rfl rfl ?_
            refine z_icmp_eq (pc' := 64) C 66 dX6_offBy_61 rfl rfl (fun h_61 => ?_) (fun h_61 => ?_)
            · refine z_iinc (v := nI (j + 1)) (k9 := 1) (lv' := [(4, .int (nI (j + 1))), (5, .int ((((ia 34) j) - (r_fa (ia 29) j n)) * (s_sgn (nI a) (nI j)))), (3, .int 0), (2, .int (r_of ia n a f)), (0, .ref (G.2.1 6)), (1, .int (nI a))]) (pc' := 69) C dX6_offBy_66 rfl (nI_1 j) (by decide) rfl rfl ?_
              refine z_goto (pc' := 7) C dX6_offBy_69 rfl ?_
              refine z_sub (lv' := [(4, .int (nI (j + 1))), (3, .int 0), (2, .int (r_of ia n a f)), (0, .ref (G.2.1 6)), (1, .int (nI a))]) C [0, 2, 3, 4, 5] rfl ?_
              exact z_cast rfl rfl rfl rfl rfl (ih7 (j + 1) _ _ (by omega) (by first | exact Or.inl ⟨by omega, rfl, rfl⟩ | exact Or.inr ⟨by omega, by subst hjf; rfl, rfl, by subst hjf; rw [show j + 1 - j = 0 + 1 by omega]; exact s_all_s rfl (by simp [r_ok])⟩ | exact Or.inr ⟨by omega, rfl, rfl, by rw [show j + 1 - f = (j - f) + 1 by omega]; exact s_all_s hal (by have e8 : f + (j - f) = j := (by omega); unfold r_ok; rw [e8]; first | (simp [h_23]; done) | (rw [Bool.or_eq_true]; exact Or.inr (decide_eq_true h_61)))⟩) (by omega))
            · refine z_iconst (v := 0) (pc' := 65) C dX6_offBy_64 rfl rfl ?_
              exact z_iret (E := E) rfl dX6_offBy_65 ⟨(congrArg (fun z => some (Value.int z)) (show _ = _ from (by first | rfl | (rw [s_all_f (p := r_ok ia n a f) (i := j - f) (by omega) (by have e8 : f + (j - f) = j := (by omega); unfold r_ok; rw [e8]; simp [h_23]; exact h_61)]; rfl)))), rfl, rfl, rfl⟩
  exact z_cast rfl rfl rfl rfl rfl (L7 (_ + 1) 0 _ _ (by omega) (by exact Or.inl ⟨Nat.zero_le _, rfl, rfl⟩) (Nat.lt_succ_self _))

set_option maxHeartbeats 4000000 in
set_option maxRecDepth 100000 in
theorem c_X6_offByN (l : Launch) (G : Gv) (sc : Sc) (ia : Ia) (la : La) (n : Nat) (hn : sc 7 = nI n) (hN : n ≤ 32) (a : Nat) (ha : a < 32) (hf : s_fi (r_ms ia) n = none)  : Ct l yX6_offBy wsX6_offBy ({ frames := 2, cells := 0, slots := 0, locals := 46 }) G [.ref (G.2.1 6), .int (nI a)] sc ia la (fI 0 sc ia la) := by
  have hU6 : ∀ w ∈ u_ws RX6 TX6 25, w ∈ wsX6_offBy := fun w h => List.mem_cons_of_mem _ (List.mem_append_right _ h)
  have hno := s_fi_none hf
  refine z_of (maxL := 6) (own := RX6) [(0, .ref (G.2.1 6)), (1, .int (nI a))] rfl (by decide +kernel) rfl (Nat.le_of_ble_eq_true rfl) rfl (fun Z C E => ?_)
  refine z_iconst (v := 0) (pc' := 1) C dX6_offBy_0 rfl rfl ?_
  refine z_istore_n (lv' := [(2, .int 0), (0, .ref (G.2.1 6)), (1, .int (nI a))]) (pc' := 2) C dX6_offBy_1 rfl (by decide) rfl rfl ?_
  refine z_iconst (v := 1) (pc' := 3) C dX6_offBy_2 rfl rfl ?_
  refine z_istore_n (lv' := [(3, .int 1), (2, .int 0), (0, .ref (G.2.1 6)), (1, .int (nI a))]) (pc' := 4) C dX6_offBy_3 rfl (by decide) rfl rfl ?_
  refine z_iconst (v := 0) (pc' := 5) C dX6_offBy_4 rfl rfl ?_
  refine z_istore (lv' := [(4, .int 0), (3, .int 1), (2, .int 0), (0, .ref (G.2.1 6)), (1, .int (nI a))]) (pc' := 7) C dX6_offBy_5 (by decide) rfl rfl ?_
  have L7 : ∀ (fuel : Nat) (j : Nat) (hj : j ≤ n), n - j < fuel → Z sc ia la [(4, .int (nI j)), (3, .int 1), (2, .int 0), (0, .ref (G.2.1 6)), (1, .int (nI a))] 7 [] := by
    intro fuel
    induction fuel with
    | zero => intro j hj hm7; exact absurd hm7 (Nat.not_lt_zero _)
    | succ fuel ih7 =>
      intro j hj hm7
      refine z_iload (pc' := 9) C dX6_offBy_7 0 rfl rfl ?_
      refine z_aload_n (pc' := 10) C dX6_offBy_9 rfl 3 rfl rfl ?_
      refine z_get (pc' := 13) C hU6 6 (by decide) q_o6 rfl 0 (by decide) (by decide +kernel) (v := .int (sc 7)) rfl dX6_offBy_10 rfl ?_
      refine z_cast (st' := [.int (nI n), .int (nI j)]) rfl rfl rfl rfl (congrArg (fun z => Value.int z :: [.int (nI j)]) hn) ?_
      refine z_icmpN_ge (a := j) (b := n) (pc' := 16) C 72 (by omega) (by omega) dX6_offBy_13 rfl rfl (fun h_13 => ?_) (fun h_13 => ?_)
      · refine z_iload_n (pc' := 73) C dX6_offBy_72 rfl 2 rfl rfl ?_
        exact z_iret (E := E) rfl dX6_offBy_73 ⟨(congrArg (fun z => some (Value.int z)) rfl), rfl, rfl, rfl⟩
      · refine z_aload_n (pc' := 17) C dX6_offBy_16 rfl 3 rfl rfl ?_
        refine z_get (pc' := 20) C hU6 6 (by decide) q_o6 rfl 5 (by decide) (by decide +kernel) (v := .ref (G.2.1 40)) rfl dX6_offBy_17 rfl ?_
        refine z_iload (pc' := 22) C dX6_offBy_20 0 rfl rfl ?_
        refine z_zald (pc' := 23) C 40 (by decide) (N := 32) (i := j) (f := ia 33) q_i33 (by omega) (by decide) dX6_offBy_22 rfl ?_
        refine z_if_eq (pc' := 26) C 66 dX6_offBy_23 rfl rfl (fun h_23 => ?_) (fun h_23 => absurd h_23 (by have q := hno j (by omega); simp [r_ms] at q; exact fun z => z q))
        refine z_iinc (v := nI (j + 1)) (k9 := 0) (lv' := [(4, .int (nI (j + 1))), (3, .int 1), (2, .int 0), (0, .ref (G.2.1 6)), (1, .int (nI a))]) (pc' := 69) C dX6_offBy_66 rfl (nI_1 j) (by decide) rfl rfl ?_
        refine z_goto (pc' := 7) C dX6_offBy_69 rfl ?_
        exact z_cast rfl rfl rfl rfl rfl (ih7 (j + 1) (by omega) (by omega))
  exact z_cast rfl rfl rfl rfl rfl (L7 (_ + 1) 0 (by omega) (Nat.lt_succ_self _))

theorem c_X6_offBy (l : Launch) (G : Gv) (sc : Sc) (ia : Ia) (la : La) (n : Nat) (hn : sc 7 = nI n) (hN : n ≤ 32) (a : Nat) (ha : a < 32) : Ct l yX6_offBy wsX6_offBy ({ frames := 2, cells := 0, slots := 0, locals := 46 }) G [.ref (G.2.1 6), .int (nI a)] sc ia la (fI (r_ob ia n a) sc ia la) := by
  unfold r_ob
  cases hf : s_fi (r_ms ia) n with
  | none => exact c_X6_offByN l G sc ia la n hn hN a ha hf
  | some f => exact c_X6_offByS l G sc ia la n hn hN a ha f hf
set_option maxHeartbeats 4000000 in
set_option maxRecDepth 100000 in
theorem c_X6_isOff (l : Launch) (G : Gv) (sc : Sc) (ia : Ia) (la : La) (n : Nat) (hn : sc 7 = nI n) (hN : n ≤ 32)  : Ct l yX6_isOff wsX6_isOff ({ frames := 2, cells := 0, slots := 0, locals := 46 }) G [.ref (G.2.1 6)] sc ia la (fI (bI (!s_all (r_on ia n) n)) sc ia la) := by
  have hU6 : ∀ w ∈ u_ws RX6 TX6 25, w ∈ wsX6_isOff := fun w h => List.mem_cons_of_mem _ (List.mem_append_right _ h)
  refine z_of (maxL := 3) (own := RX6) [(0, .ref (G.2.1 6))] rfl (by decide +kernel) rfl (Nat.le_of_ble_eq_true rfl) rfl (fun Z C E => ?_)
  refine z_iconst (v := 0) (pc' := 1) C dX6_isOff_0 rfl rfl ?_
  refine z_istore_n (lv' := [(1, .int 0), (0, .ref (G.2.1 6))]) (pc' := 2) C dX6_isOff_1 rfl (by decide) rfl rfl ?_
  refine z_iconst (v := 0) (pc' := 3) C dX6_isOff_2 rfl rfl ?_
  refine z_istore_n (lv' := [(2, .int 0), (1, .int 0), (0, .ref (G.2.1 6))]) (pc' := 4) C dX6_isOff_3 rfl (by decide) rfl rfl ?_
  have L4 : ∀ (fuel : Nat) (i : Nat) (hi : i ≤ n), n - i < fuel → Z sc ia la [(2, .int (nI i)), (1, .int (bI (!s_all (r_on ia n) i))), (0, .ref (G.2.1 6))] 4 [] := by
    intro fuel
    induction fuel with
    | zero => intro i hi hm4; exact absurd hm4 (Nat.not_lt_zero _)
    | succ fuel ih4 =>
      intro i hi hm4
      refine z_iload_n (pc' := 5) C dX6_isOff_4 rfl 0 rfl rfl ?_
      refine z_aload_n (pc' := 6) C dX6_isOff_5 rfl 2 rfl rfl ?_
      refine z_get (pc' := 9) C hU6 6 (by decide) q_o6 rfl 0 (by decide) (by decide +kernel) (v := .int (sc 7)) rfl dX6_isOff_6 rfl ?_
      refine z_cast (st' := [.int (nI n), .int (nI i)]) rfl rfl rfl rfl (congrArg (fun z => Value.int z :: [.int (nI i)]) hn) ?_
      refine z_icmpN_ge (a := i) (b := n) (pc' := 12) C 51 (by omega) (by omega) dX6_isOff_9 rfl rfl (fun h_9 => ?_) (fun h_9 => ?_)
      · refine z_iload_n (pc' := 52) C dX6_isOff_51 rfl 1 rfl rfl ?_
        exact z_zret (E := E) rfl dX6_isOff_52 (bI_nar _) ⟨(congrArg (fun z => some (Value.int z)) (show _ = _ from (by first | rfl | (have e9 : i = n := (by omega); subst e9; rfl)))), rfl, rfl, rfl⟩
      · refine z_iload_n (pc' := 13) C dX6_isOff_12 rfl 1 rfl rfl ?_
        refine z_ifB_ne (pc' := 16) C 39 dX6_isOff_13 rfl rfl (fun h_13 => ?_) (fun h_13 => ?_)
        · refine z_iconst (v := 1) (pc' := 40) C dX6_isOff_39 rfl rfl ?_
          refine z_goto (pc' := 44) C dX6_isOff_40 rfl ?_
          refine z_istore_n (lv' := [(1, .int 1), (2, .int (nI i)), (0, .ref (G.2.1 6))]) (pc' := 45) C dX6_isOff_44 rfl (by decide) rfl rfl ?_
          refine z_iinc (v := nI (i + 1)) (k9 := 1) (lv' := [(2, .int (nI (i + 1))), (1, .int 1), (0, .ref (G.2.1 6))]) (pc' := 48) C dX6_isOff_45 rfl (nI_1 i) (by decide) rfl rfl ?_
          refine z_goto (pc' := 4) C dX6_isOff_48 rfl ?_
          exact z_cast rfl rfl rfl (by first | rfl | (simp [s_all, r_on, bI, hi, h_9, h_13]; try (simp at h_13; simp [h_13]))) rfl (ih4 (i + 1) (by omega) (by omega))
        · refine z_aload_n (pc' := 17) C dX6_isOff_16 rfl 2 rfl rfl ?_
          refine z_get (pc' := 20) C hU6 6 (by decide) q_o6 rfl 5 (by decide) (by decide +kernel) (v := .ref (G.2.1 40)) rfl dX6_isOff_17 rfl ?_
          refine z_iload_n (pc' := 21) C dX6_isOff_20 rfl 0 rfl rfl ?_
          refine z_zald (pc' := 22) C 40 (by decide) (N := 32) (i := i) (f := ia 33) q_i33 (by omega) (by decide) dX6_isOff_21 rfl ?_
          refine z_if_eq (pc' := 25) C 43 dX6_isOff_22 rfl rfl (fun h_22 => ?_) (fun h_22 => ?_)
          · refine z_iconst (v := 0) (pc' := 44) C dX6_isOff_43 rfl rfl ?_
            refine z_istore_n (lv' := [(1, .int 0), (2, .int (nI i)), (0, .ref (G.2.1 6))]) (pc' := 45) C dX6_isOff_44 rfl (by decide) rfl rfl ?_
            refine z_iinc (v := nI (i + 1)) (k9 := 1) (lv' := [(2, .int (nI (i + 1))), (1, .int 0), (0, .ref (G.2.1 6))]) (pc' := 48) C dX6_isOff_45 rfl (nI_1 i) (by decide) rfl rfl ?_
            refine z_goto (pc' := 4) C dX6_isOff_48 rfl ?_
            exact z_cast rfl rfl rfl (by first | rfl | (simp [s_all, r_on, bI, hi, h_9, h_13, h_22]; try (simp at h_13; simp [h_13]))) rfl (ih4 (i + 1) (by omega) (by omega))
          · refine z_aload_n (pc' := 26) C dX6_isOff_25 rfl 2 rfl rfl ?_
            refine z_get (pc' := 29) C hU6 6 (by decide) q_o6 rfl 6 (by decide) (by decide +kernel) (v := .ref (G.2.1 41)) rfl dX6_isOff_26 rfl ?_
            refine z_iload_n (pc' := 30) C dX6_isOff_29 rfl 0 rfl rfl ?_
            refine z_iald (pc' := 31) C 41 (by decide) (N := 32) (i := i) (f := ia 34) q_i34 (by omega) (by decide) dX6_isOff_30 rfl ?_
            refine z_aload_n (pc' := 32) C dX6_isOff_31 rfl 2 rfl rfl ?_
            refine z_iload_n (pc' := 33) C dX6_isOff_32 rfl 0 rfl rfl ?_
            refine z_cV (n := 1) (pc' := 36) (As := [.int (nI i)]) (rest := [.int ((ia 34) i)]) C 6 (c_X6_farOf l G sc ia la n hn hN i (by omega)) gX6_isOff_X6_farOf rfl rfl rfl rfl (by decide +kernel) (by decide) rfl (by decide) q_o6 rfl rfl dX6_isOff_33 (Nat.le_of_ble_eq_true rfl) rfl (k_I ?_)
            show Z sc ia la [(2, .int (nI i)), (1, .int (bI (!s_all (r_on ia n) i))), (0, .ref (G.2.1 6))] 36 [.int (r_fa (ia 29) i n), .int ((ia 34) i)]
            have J44 : Z sc ia la [(2, .int (nI i)), (1, .int (bI (!s_all (r_on ia n) i))), (0, .ref (G.2.1 6))] 44 [.int (bI (decide (¬ ((ia 34) i) = (r_fa (ia 29) i n))))] := by
              refine z_istore_n (lv' := [(1, .int (bI (decide (¬ ((ia 34) i) = (r_fa (ia 29) i n))))), (2, .int (nI i)), (0, .ref (G.2.1 6))]) (pc' := 45) C dX6_isOff_44 rfl (by decide) rfl rfl ?_
              refine z_iinc (v := nI (i + 1)) (k9 := 1) (lv' := [(2, .int (nI (i + 1))), (1, .int (bI (decide (¬ ((ia 34) i) = (r_fa (ia 29) i n))))), (0, .ref (G.2.1 6))]) (pc' := 48) C dX6_isOff_45 rfl (nI_1 i) (by decide) rfl rfl ?_
              refine z_goto (pc' := 4) C dX6_isOff_48 rfl ?_
              exact z_cast rfl rfl rfl (by first | rfl | (simp [s_all, r_on, bI, hi, h_9, h_13, h_22]; try (simp at h_13; simp [h_13]))) rfl (ih4 (i + 1) (by omega) (by omega))
            refine z_icmp_eq (pc' := 39) C 43 dX6_isOff_36 rfl rfl (fun h_36 => ?_) (fun h_36 => ?_)
            · refine z_iconst (v := 0) (pc' := 44) C dX6_isOff_43 rfl rfl ?_
              exact z_cast rfl rfl rfl rfl (by first | rfl | (simp [bI, hi, h_9, h_13, h_22, h_36])) J44
            · refine z_iconst (v := 1) (pc' := 40) C dX6_isOff_39 rfl rfl ?_
              refine z_goto (pc' := 44) C dX6_isOff_40 rfl ?_
              exact z_cast rfl rfl rfl rfl (by first | rfl | (simp [bI, hi, h_9, h_13, h_22, h_36])) J44
  exact z_cast rfl rfl rfl rfl rfl (L4 (_ + 1) 0 (by omega) (Nat.lt_succ_self _))

set_option maxHeartbeats 4000000 in
set_option maxRecDepth 100000 in
theorem c_X6_faults_ok (l : Launch) (G : Gv) (sc : Sc) (ia : Ia) (la : La) (n : Nat) (hn : sc 7 = nI n) (hN : n ≤ 32)  : Ct l yX6_faults wsX6_faults ({ frames := 7, cells := 0, slots := 0, locals := 250 }) G [.ref (G.2.1 6)] sc ia la (fI (if s_all (r_on ia n) n = true then -1 else nI (s_cn (r_isf ia n) n)) sc ia la) := by
  have hU6 : ∀ w ∈ u_ws RX6 TX6 25, w ∈ wsX6_faults := fun w h => List.mem_cons_of_mem _ (List.mem_append_right _ h)
  refine z_of (maxL := 3) (own := RX6) [(0, .ref (G.2.1 6))] rfl (by decide +kernel) rfl (Nat.le_of_ble_eq_true rfl) rfl (fun Z C E => ?_)
  refine z_aload_n (pc' := 1) C dX6_faults_0 rfl 0 rfl rfl ?_
  refine z_cV (n := 0) (pc' := 4) (As := []) (rest := []) C 6 (c_X6_isOff l G sc ia la n hn hN) gX6_faults_X6_isOff rfl rfl rfl rfl (by decide +kernel) (by decide) rfl (by decide) q_o6 rfl rfl dX6_faults_1 (Nat.le_of_ble_eq_true rfl) rfl (k_I ?_)
  show Z sc ia la [(0, .ref (G.2.1 6))] 4 [.int (bI (!s_all (r_on ia n) n))]
  refine z_ifB_ne (pc' := 7) C 9 dX6_faults_4 rfl rfl (fun h_4 => ?_) (fun h_4 => ?_)
  · refine z_iconst (v := 0) (pc' := 10) C dX6_faults_9 rfl rfl ?_
    refine z_istore_n (lv' := [(1, .int 0), (0, .ref (G.2.1 6))]) (pc' := 11) C dX6_faults_10 rfl (by decide) rfl rfl ?_
    refine z_iconst (v := 0) (pc' := 12) C dX6_faults_11 rfl rfl ?_
    refine z_istore_n (lv' := [(2, .int 0), (1, .int 0), (0, .ref (G.2.1 6))]) (pc' := 13) C dX6_faults_12 rfl (by decide) rfl rfl ?_
    have L13 : ∀ (fuel : Nat) (i : Nat) (hi : i ≤ n), n - i < fuel → Z sc ia la [(2, .int (nI i)), (1, .int (nI (s_cn (r_isf ia n) i))), (0, .ref (G.2.1 6))] 13 [] := by
      intro fuel
      induction fuel with
      | zero => intro i hi hm13; exact absurd hm13 (Nat.not_lt_zero _)
      | succ fuel ih13 =>
        intro i hi hm13
        refine z_iload_n (pc' := 14) C dX6_faults_13 rfl 0 rfl rfl ?_
        refine z_aload_n (pc' := 15) C dX6_faults_14 rfl 2 rfl rfl ?_
        refine z_get (pc' := 18) C hU6 6 (by decide) q_o6 rfl 0 (by decide) (by decide +kernel) (v := .int (sc 7)) rfl dX6_faults_15 rfl ?_
        refine z_cast (st' := [.int (nI n), .int (nI i)]) rfl rfl rfl rfl (congrArg (fun z => Value.int z :: [.int (nI i)]) hn) ?_
        refine z_icmpN_ge (a := i) (b := n) (pc' := 21) C 43 (by omega) (by omega) dX6_faults_18 rfl rfl (fun h_18 => ?_) (fun h_18 => ?_)
        · refine z_iload_n (pc' := 44) C dX6_faults_43 rfl 1 rfl rfl ?_
          exact z_iret (E := E) rfl dX6_faults_44 ⟨(congrArg (fun z => some (Value.int z)) (show _ = _ from (by first | rfl | (simp at h_4; have e9 : i = n := (by omega); subst e9; simp [h_4])))), rfl, rfl, rfl⟩
        · refine z_iload_n (pc' := 22) C dX6_faults_21 rfl 1 rfl rfl ?_
          refine z_aload_n (pc' := 23) C dX6_faults_22 rfl 2 rfl rfl ?_
          refine z_iload_n (pc' := 24) C dX6_faults_23 rfl 0 rfl rfl ?_
          refine z_cV (n := 1) (pc' := 27) (As := [.int (nI i)]) (rest := [.int (nI (s_cn (r_isf ia n) i))]) C 6 (c_X6_offBy l G sc ia la n hn hN i (by omega)) gX6_faults_X6_offBy rfl rfl rfl rfl (by decide +kernel) (by decide) rfl (by decide) q_o6 rfl rfl dX6_faults_24 (Nat.le_of_ble_eq_true rfl) rfl (k_I ?_)
          show Z sc ia la [(2, .int (nI i)), (1, .int (nI (s_cn (r_isf ia n) i))), (0, .ref (G.2.1 6))] 27 [.int (r_ob ia n i), .int (nI (s_cn (r_isf ia n) i))]
          refine z_if_ne (pc' := 30) C 34 dX6_faults_27 rfl rfl (fun h_27 => ?_) (fun h_27 => ?_)
          · refine z_iconst (v := 1) (pc' := 35) C dX6_faults_34 rfl rfl ?_
            refine z_iadd (pc' := 36) C dX6_faults_35 rfl ?_
            refine z_cast (st' := [.int (nI (s_cn (r_isf ia n) i + 1))]) rfl rfl rfl rfl (congrArg (fun z => Value.int z :: []) (nI_add _ _)) ?_
            refine z_istore_n (lv' := [(1, .int (nI (s_cn (r_isf ia n) i + 1))), (2, .int (nI i)), (0, .ref (G.2.1 6))]) (pc' := 37) C dX6_faults_36 rfl (by decide) rfl rfl ?_
            refine z_iinc (v := nI (i + 1)) (k9 := 1) (lv' := [(2, .int (nI (i + 1))), (1, .int (nI (s_cn (r_isf ia n) i + 1))), (0, .ref (G.2.1 6))]) (pc' := 40) C dX6_faults_37 rfl (nI_1 i) (by decide) rfl rfl ?_
            refine z_goto (pc' := 13) C dX6_faults_40 rfl ?_
            exact z_cast rfl rfl rfl (by first | rfl | (simp [s_cn, r_isf, h_27])) rfl (ih13 (i + 1) (by omega) (by omega))
          · refine z_iconst (v := 0) (pc' := 31) C dX6_faults_30 rfl rfl ?_
            refine z_goto (pc' := 35) C dX6_faults_31 rfl ?_
            refine z_iadd (pc' := 36) C dX6_faults_35 rfl ?_
            refine z_cast (st' := [.int (nI (s_cn (r_isf ia n) i + 0))]) rfl rfl rfl rfl (congrArg (fun z => Value.int z :: []) (nI_add _ _)) ?_
            refine z_istore_n (lv' := [(1, .int (nI (s_cn (r_isf ia n) i + 0))), (2, .int (nI i)), (0, .ref (G.2.1 6))]) (pc' := 37) C dX6_faults_36 rfl (by decide) rfl rfl ?_
            refine z_iinc (v := nI (i + 1)) (k9 := 1) (lv' := [(2, .int (nI (i + 1))), (1, .int (nI (s_cn (r_isf ia n) i + 0))), (0, .ref (G.2.1 6))]) (pc' := 40) C dX6_faults_37 rfl (nI_1 i) (by decide) rfl rfl ?_
            refine z_goto (pc' := 13) C dX6_faults_40 rfl ?_
            exact z_cast rfl rfl rfl (by first | rfl | (simp [s_cn, r_isf, h_27])) rfl (ih13 (i + 1) (by omega) (by omega))
    exact z_cast rfl rfl rfl rfl rfl (L13 (_ + 1) 0 (by omega) (Nat.lt_succ_self _))
  · refine z_iconst (v := -1) (pc' := 8) C dX6_faults_7 rfl rfl ?_
    exact z_iret (E := E) rfl dX6_faults_8 ⟨(congrArg (fun z => some (Value.int z)) (show _ = _ from (by first | rfl | (simp at h_4; simp [h_4])))), rfl, rfl, rfl⟩

set_option maxHeartbeats 4000000 in
set_option maxRecDepth 100000 in
theorem c_X6_faultAt (l : Launch) (G : Gv) (sc : Sc) (ia : Ia) (la : La) (n : Nat) (hn : sc 7 = nI n) (hN : n ≤ 32) (k : Int32)  : Ct l yX6_faultAt wsX6_faultAt ({ frames := 3, cells := 0, slots := 0, locals := 71 }) G [.ref (G.2.1 6), .int k] sc ia la (fI (s_oi (r_fat ia n k)) sc ia la) := by
  have hU6 : ∀ w ∈ u_ws RX6 TX6 25, w ∈ wsX6_faultAt := fun w h => List.mem_cons_of_mem _ (List.mem_append_right _ h)
  refine z_of (maxL := 4) (own := RX6) [(0, .ref (G.2.1 6)), (1, .int k)] rfl (by decide +kernel) rfl (Nat.le_of_ble_eq_true rfl) rfl (fun Z C E => ?_)
  refine z_iload_n (pc' := 1) C dX6_faultAt_0 rfl 1 rfl rfl ?_
  refine z_istore_n (lv' := [(2, .int k), (0, .ref (G.2.1 6)), (1, .int k)]) (pc' := 2) C dX6_faultAt_1 rfl (by decide) rfl rfl ?_
  refine z_iconst (v := 0) (pc' := 3) C dX6_faultAt_2 rfl rfl ?_
  refine z_istore_n (lv' := [(3, .int 0), (2, .int k), (0, .ref (G.2.1 6)), (1, .int k)]) (pc' := 4) C dX6_faultAt_3 rfl (by decide) rfl rfl ?_
  have L4 : ∀ (fuel : Nat) (i : Nat) (hi : i ≤ n) (ha : ∀ j, j < i → (fun i => r_isf ia n i && decide (k - nI (s_cn (r_isf ia n) i) = 0)) j = false), n - i < fuel → Z sc ia la [(3, .int (nI i)), (2, .int (k - nI (s_cn (r_isf ia n) i))), (0, .ref (G.2.1 6)), (1, .int k)] 4 [] := by
    intro fuel
    induction fuel with
    | zero => intro i hi ha hm4; exact absurd hm4 (Nat.not_lt_zero _)
    | succ fuel ih4 =>
      intro i hi ha hm4
      refine z_iload_n (pc' := 5) C dX6_faultAt_4 rfl 0 rfl rfl ?_
      refine z_aload_n (pc' := 6) C dX6_faultAt_5 rfl 2 rfl rfl ?_
      refine z_get (pc' := 9) C hU6 6 (by decide) q_o6 rfl 0 (by decide) (by decide +kernel) (v := .int (sc 7)) rfl dX6_faultAt_6 rfl ?_
      refine z_cast (st' := [.int (nI n), .int (nI i)]) rfl rfl rfl rfl (congrArg (fun z => Value.int z :: [.int (nI i)]) hn) ?_
      refine z_icmpN_ge (a := i) (b := n) (pc' := 12) C 39 (by omega) (by omega) dX6_faultAt_9 rfl rfl (fun h_9 => ?_) (fun h_9 => ?_)
      · refine z_iconst (v := -1) (pc' := 40) C dX6_faultAt_39 rfl rfl ?_
        exact z_iret (E := E) rfl dX6_faultAt_40 ⟨(congrArg (fun z => some (Value.int z)) (show _ = _ from (by first | rfl | (unfold r_fat; first | (rw [if_pos h_13]; rfl) | (have e9 : i = n := (by omega); subst e9; split; rfl; rw [s_fi_n ha]; rfl))))), rfl, rfl, rfl⟩
      · refine z_iload_n (pc' := 13) C dX6_faultAt_12 rfl 3 rfl rfl ?_
        refine z_if_lt (pc' := 16) C 39 dX6_faultAt_13 rfl rfl (fun h_13 => ?_) (fun h_13 => ?_)
        · refine z_iconst (v := -1) (pc' := 40) C dX6_faultAt_39 rfl rfl ?_
          exact z_iret (E := E) rfl dX6_faultAt_40 ⟨(congrArg (fun z => some (Value.int z)) (show _ = _ from (by first | rfl | (unfold r_fat; first | (rw [if_pos h_13]; rfl) | (have e9 : i = n := (by omega); subst e9; split; rfl; rw [s_fi_n ha]; rfl))))), rfl, rfl, rfl⟩
        · refine z_aload_n (pc' := 17) C dX6_faultAt_16 rfl 2 rfl rfl ?_
          refine z_iload_n (pc' := 18) C dX6_faultAt_17 rfl 0 rfl rfl ?_
          refine z_cV (n := 1) (pc' := 21) (As := [.int (nI i)]) (rest := []) C 6 (c_X6_offBy l G sc ia la n hn hN i (by omega)) gX6_faultAt_X6_offBy rfl rfl rfl rfl (by decide +kernel) (by decide) rfl (by decide) q_o6 rfl rfl dX6_faultAt_18 (Nat.le_of_ble_eq_true rfl) rfl (k_I ?_)
          show Z sc ia la [(3, .int (nI i)), (2, .int (k - nI (s_cn (r_isf ia n) i))), (0, .ref (G.2.1 6)), (1, .int k)] 21 [.int (r_ob ia n i)]
          refine z_if_eq (pc' := 24) C 33 dX6_faultAt_21 rfl rfl (fun h_21 => ?_) (fun h_21 => ?_)
          · refine z_iinc (v := nI (i + 1)) (k9 := 0) (lv' := [(3, .int (nI (i + 1))), (2, .int (k - nI (s_cn (r_isf ia n) i))), (0, .ref (G.2.1 6)), (1, .int k)]) (pc' := 36) C dX6_faultAt_33 rfl (nI_1 i) (by decide) rfl rfl ?_
            refine z_goto (pc' := 4) C dX6_faultAt_36 rfl ?_
            exact z_cast rfl rfl rfl (by first | (rw [r_dec]; simp [s_cn, r_isf, h_21]; done) | (simp [s_cn, r_isf, h_21]; done)) rfl (ih4 (i + 1) (by omega) (by exact s_lt_s ha (by first | (simp [r_isf, h_21]; done) | (simp [r_isf, h_21]; exact h_25))) (by omega))
          · refine z_iload_n (pc' := 25) C dX6_faultAt_24 rfl 1 rfl rfl ?_
            refine z_if_ne (pc' := 28) C 30 dX6_faultAt_25 rfl rfl (fun h_25 => ?_) (fun h_25 => ?_)
            · refine z_iinc (v := (k - nI (s_cn (r_isf ia n) i)) + (-1)) (k9 := 1) (lv' := [(2, .int ((k - nI (s_cn (r_isf ia n) i)) + (-1))), (3, .int (nI i)), (0, .ref (G.2.1 6)), (1, .int k)]) (pc' := 33) C dX6_faultAt_30 rfl rfl (by decide) rfl rfl ?_
              refine z_iinc (v := nI (i + 1)) (k9 := 1) (lv' := [(3, .int (nI (i + 1))), (2, .int ((k - nI (s_cn (r_isf ia n) i)) + (-1))), (0, .ref (G.2.1 6)), (1, .int k)]) (pc' := 36) C dX6_faultAt_33 rfl (nI_1 i) (by decide) rfl rfl ?_
              refine z_goto (pc' := 4) C dX6_faultAt_36 rfl ?_
              exact z_cast rfl rfl rfl (by first | (rw [r_dec]; simp [s_cn, r_isf, h_21]; done) | (simp [s_cn, r_isf, h_21]; done)) rfl (ih4 (i + 1) (by omega) (by exact s_lt_s ha (by first | (simp [r_isf, h_21]; done) | (simp [r_isf, h_21]; exact h_25))) (by omega))
            · refine z_iload_n (pc' := 29) C dX6_faultAt_28 rfl 0 rfl rfl ?_
              exact z_iret (E := E) rfl dX6_faultAt_29 ⟨(congrArg (fun z => some (Value.int z)) (show _ = _ from (by first | rfl | (unfold r_fat; rw [if_neg h_13, s_fi_s (i := i) ha (by omega) (by simp [r_isf, h_21, h_25])]; rfl)))), rfl, rfl, rfl⟩
  exact z_cast rfl rfl rfl (by first | rfl | (simp [s_cn, nI_0])) rfl (L4 (_ + 1) 0 (by omega) (fun j h => absurd h (Nat.not_lt_zero j)) (Nat.lt_succ_self _))

theorem c_X6_faultAtB (l : Launch) (G : Gv) (sc : Sc) (ia : Ia) (la : La) (n : Nat) (hn : sc 7 = nI n) (hN : n ≤ 32) (k : Int32) (o : Option Nat) (h : r_fat ia n k = o) : Ct l yX6_faultAt wsX6_faultAt ({ frames := 3, cells := 0, slots := 0, locals := 71 }) G [.ref (G.2.1 6), .int k] sc ia la (fI (s_oi o) sc ia la) := h ▸ c_X6_faultAt l G sc ia la n hn hN k
set_option maxHeartbeats 4000000 in
set_option maxRecDepth 100000 in
theorem c_X6_fault_ok (l : Launch) (G : Gv) (sc : Sc) (ia : Ia) (la : La) (n : Nat) (hn : sc 7 = nI n) (hN : n ≤ 32) (k : Int32)  : Ct l yX6_fault wsX6_fault ({ frames := 7, cells := 0, slots := 0, locals := 250 }) G [.ref (G.2.1 6), .int k] sc ia la (fI (s_oi (r_fat ia n k)) sc ia la) := by
  refine z_of (maxL := 2) (own := RX6) [(0, .ref (G.2.1 6)), (1, .int k)] rfl (by decide +kernel) rfl (Nat.le_of_ble_eq_true rfl) rfl (fun Z C E => ?_)
  refine z_aload_n (pc' := 1) C dX6_fault_0 rfl 0 rfl rfl ?_
  refine z_iload_n (pc' := 2) C dX6_fault_1 rfl 1 rfl rfl ?_
  refine z_cV (n := 1) (pc' := 5) (As := [.int k]) (rest := []) C 6 (c_X6_faultAt l G sc ia la n hn hN k) gX6_fault_X6_faultAt rfl rfl rfl rfl (by decide +kernel) (by decide) rfl (by decide) q_o6 rfl rfl dX6_fault_2 (Nat.le_of_ble_eq_true rfl) rfl (k_I ?_)
  show Z sc ia la [(0, .ref (G.2.1 6)), (1, .int k)] 5 [.int (s_oi (r_fat ia n k))]
  exact z_iret (E := E) rfl dX6_fault_5 ⟨(congrArg (fun z => some (Value.int z)) rfl), rfl, rfl, rfl⟩

set_option maxHeartbeats 4000000 in
set_option maxRecDepth 100000 in
theorem c_X6_by_none (l : Launch) (G : Gv) (sc : Sc) (ia : Ia) (la : La) (n : Nat) (hn : sc 7 = nI n) (hN : n ≤ 32) (k : Int32) (he : r_fat ia n k = none)  : Ct l yX6_by wsX6_by ({ frames := 7, cells := 0, slots := 0, locals := 250 }) G [.ref (G.2.1 6), .int k] sc ia la (fI 0 sc ia la) := by
  refine z_of (maxL := 3) (own := RX6) [(0, .ref (G.2.1 6)), (1, .int k)] rfl (by decide +kernel) rfl (Nat.le_of_ble_eq_true rfl) rfl (fun Z C E => ?_)
  refine z_aload_n (pc' := 1) C dX6_by_0 rfl 0 rfl rfl ?_
  refine z_iload_n (pc' := 2) C dX6_by_1 rfl 1 rfl rfl ?_
  refine z_cV (n := 1) (pc' := 5) (As := [.int k]) (rest := []) C 6 (c_X6_faultAtB l G sc ia la n hn hN k none he) gX6_by_X6_faultAt rfl rfl rfl rfl (by decide +kernel) (by decide) rfl (by decide) q_o6 rfl rfl dX6_by_2 (Nat.le_of_ble_eq_true rfl) rfl (k_I ?_)
  show Z sc ia la [(0, .ref (G.2.1 6)), (1, .int k)] 5 [.int (-1)]
  refine z_istore_n (lv' := [(2, .int (-1)), (0, .ref (G.2.1 6)), (1, .int k)]) (pc' := 6) C dX6_by_5 rfl (by decide) rfl rfl ?_
  refine z_iload_n (pc' := 7) C dX6_by_6 rfl 0 rfl rfl ?_
  refine z_iconst (v := -1) (pc' := 8) C dX6_by_7 rfl rfl ?_
  refine z_icmp_ne (pc' := 11) C 15 dX6_by_8 rfl rfl (fun h_8 => absurd h_8 (by decide)) (fun h_8 => ?_)
  refine z_iconst (v := 0) (pc' := 12) C dX6_by_11 rfl rfl ?_
  refine z_goto (pc' := 20) C dX6_by_12 rfl ?_
  exact z_iret (E := E) rfl dX6_by_20 ⟨(congrArg (fun z => some (Value.int z)) rfl), rfl, rfl, rfl⟩

set_option maxHeartbeats 4000000 in
set_option maxRecDepth 100000 in
theorem c_X6_by_some (l : Launch) (G : Gv) (sc : Sc) (ia : Ia) (la : La) (n : Nat) (hn : sc 7 = nI n) (hN : n ≤ 32) (k : Int32) (f : Nat) (hfn : f < n) (he : r_fat ia n k = some f)  : Ct l yX6_by wsX6_by ({ frames := 7, cells := 0, slots := 0, locals := 250 }) G [.ref (G.2.1 6), .int k] sc ia la (fI (r_ob ia n f) sc ia la) := by
  refine z_of (maxL := 3) (own := RX6) [(0, .ref (G.2.1 6)), (1, .int k)] rfl (by decide +kernel) rfl (Nat.le_of_ble_eq_true rfl) rfl (fun Z C E => ?_)
  refine z_aload_n (pc' := 1) C dX6_by_0 rfl 0 rfl rfl ?_
  refine z_iload_n (pc' := 2) C dX6_by_1 rfl 1 rfl rfl ?_
  refine z_cV (n := 1) (pc' := 5) (As := [.int k]) (rest := []) C 6 (c_X6_faultAtB l G sc ia la n hn hN k (some f) he) gX6_by_X6_faultAt rfl rfl rfl rfl (by decide +kernel) (by decide) rfl (by decide) q_o6 rfl rfl dX6_by_2 (Nat.le_of_ble_eq_true rfl) rfl (k_I ?_)
  show Z sc ia la [(0, .ref (G.2.1 6)), (1, .int k)] 5 [.int (nI f)]
  refine z_istore_n (lv' := [(2, .int (nI f)), (0, .ref (G.2.1 6)), (1, .int k)]) (pc' := 6) C dX6_by_5 rfl (by decide) rfl rfl ?_
  refine z_iload_n (pc' := 7) C dX6_by_6 rfl 0 rfl rfl ?_
  refine z_iconst (v := -1) (pc' := 8) C dX6_by_7 rfl rfl ?_
  refine z_icmp_ne (pc' := 11) C 15 dX6_by_8 rfl rfl (fun h_8 => ?_) (fun h_8 => absurd h_8 (by intro h9; exact absurd (congrArg Int32.toInt h9) (by rw [nI_toInt (by omega)]; show ¬ (f : Int) = -1; omega)))
  refine z_aload_n (pc' := 16) C dX6_by_15 rfl 1 rfl rfl ?_
  refine z_iload_n (pc' := 17) C dX6_by_16 rfl 0 rfl rfl ?_
  refine z_cV (n := 1) (pc' := 20) (As := [.int (nI f)]) (rest := []) C 6 (c_X6_offBy l G sc ia la n hn hN f (by omega)) gX6_by_X6_offBy rfl rfl rfl rfl (by decide +kernel) (by decide) rfl (by decide) q_o6 rfl rfl dX6_by_17 (Nat.le_of_ble_eq_true rfl) rfl (k_I ?_)
  show Z sc ia la [(2, .int (nI f)), (0, .ref (G.2.1 6)), (1, .int k)] 20 [.int (r_ob ia n f)]
  exact z_iret (E := E) rfl dX6_by_20 ⟨(congrArg (fun z => some (Value.int z)) rfl), rfl, rfl, rfl⟩

set_option maxHeartbeats 4000000 in
set_option maxRecDepth 100000 in
theorem c_X6_broken_ok (l : Launch) (G : Gv) (sc : Sc) (ia : Ia) (la : La) (n : Nat) (hn : sc 7 = nI n) (hN : n ≤ 32)  : Ct l yX6_broken wsX6_broken ({ frames := 7, cells := 0, slots := 0, locals := 250 }) G [.ref (G.2.1 6)] sc ia la (fI (s_oi (s_fi (r_br ia n) n)) sc ia la) := by
  have hU6 : ∀ w ∈ u_ws RX6 TX6 25, w ∈ wsX6_broken := fun w h => List.mem_cons_of_mem _ (List.mem_append_right _ h)
  refine z_of (maxL := 3) (own := RX6) [(0, .ref (G.2.1 6))] rfl (by decide +kernel) rfl (Nat.le_of_ble_eq_true rfl) rfl (fun Z C E => ?_)
  refine z_iconst (v := 0) (pc' := 1) C dX6_broken_0 rfl rfl ?_
  refine z_istore_n (lv' := [(1, .int 0), (0, .ref (G.2.1 6))]) (pc' := 2) C dX6_broken_1 rfl (by decide) rfl rfl ?_
  have L2 : ∀ (fuel : Nat) (i : Nat) (hi : i ≤ n) (ha : ∀ j, j < i → r_br ia n j = false), n - i < fuel → Z sc ia la [(1, .int (nI i)), (0, .ref (G.2.1 6))] 2 [] := by
    intro fuel
    induction fuel with
    | zero => intro i hi ha hm2; exact absurd hm2 (Nat.not_lt_zero _)
    | succ fuel ih2 =>
      intro i hi ha hm2
      refine z_iload_n (pc' := 3) C dX6_broken_2 rfl 0 rfl rfl ?_
      refine z_aload_n (pc' := 4) C dX6_broken_3 rfl 1 rfl rfl ?_
      refine z_get (pc' := 7) C hU6 6 (by decide) q_o6 rfl 0 (by decide) (by decide +kernel) (v := .int (sc 7)) rfl dX6_broken_4 rfl ?_
      refine z_cast (st' := [.int (nI n), .int (nI i)]) rfl rfl rfl rfl (congrArg (fun z => Value.int z :: [.int (nI i)]) hn) ?_
      refine z_icmpN_ge (a := i) (b := n) (pc' := 10) C 45 (by omega) (by omega) dX6_broken_7 rfl rfl (fun h_7 => ?_) (fun h_7 => ?_)
      · refine z_iconst (v := -1) (pc' := 46) C dX6_broken_45 rfl rfl ?_
        exact z_iret (E := E) rfl dX6_broken_46 ⟨(congrArg (fun z => some (Value.int z)) (show _ = _ from (by first | rfl | (have e9 : i = n := (by omega); subst e9; rw [s_fi_n ha]; rfl)))), rfl, rfl, rfl⟩
      · refine z_aload_n (pc' := 11) C dX6_broken_10 rfl 1 rfl rfl ?_
        refine z_iload_n (pc' := 12) C dX6_broken_11 rfl 0 rfl rfl ?_
        refine z_cV (n := 1) (pc' := 15) (As := [.int (nI i)]) (rest := []) C 6 (c_X6_farOf l G sc ia la n hn hN i (by omega)) gX6_broken_X6_farOf rfl rfl rfl rfl (by decide +kernel) (by decide) rfl (by decide) q_o6 rfl rfl dX6_broken_12 (Nat.le_of_ble_eq_true rfl) rfl (k_I ?_)
        show Z sc ia la [(1, .int (nI i)), (0, .ref (G.2.1 6))] 15 [.int (r_fa (ia 29) i n)]
        refine z_istore_n (lv' := [(2, .int (r_fa (ia 29) i n)), (1, .int (nI i)), (0, .ref (G.2.1 6))]) (pc' := 16) C dX6_broken_15 rfl (by decide) rfl rfl ?_
        refine z_iload_n (pc' := 17) C dX6_broken_16 rfl 0 rfl rfl ?_
        refine z_aload_n (pc' := 18) C dX6_broken_17 rfl 2 rfl rfl ?_
        refine z_get (pc' := 21) C hU6 6 (by decide) q_o6 rfl 7 (by decide) (by decide +kernel) (v := .ref (G.2.1 42)) rfl dX6_broken_18 rfl ?_
        refine z_iload_n (pc' := 22) C dX6_broken_21 rfl 1 rfl rfl ?_
        refine z_iald (pc' := 23) C 42 (by decide) (N := 32) (i := i) (f := ia 35) q_i35 (by omega) (by decide) dX6_broken_22 rfl ?_
        refine z_icmp_gt (pc' := 26) C 37 dX6_broken_23 rfl rfl (fun h_23 => ?_) (fun h_23 => ?_)
        · refine z_iload_n (pc' := 38) C dX6_broken_37 rfl 1 rfl rfl ?_
          exact z_iret (E := E) rfl dX6_broken_38 ⟨(congrArg (fun z => some (Value.int z)) (show _ = _ from (by first | rfl | (have hb9 : r_br ia n i = true := (by unfold r_br; first | (rw [decide_eq_true h_23]; rfl) | (rw [decide_eq_false h_34]; simp)); rw [s_fi_s (i := i) ha (by omega) hb9]; rfl)))), rfl, rfl, rfl⟩
        · refine z_iload_n (pc' := 27) C dX6_broken_26 rfl 0 rfl rfl ?_
          refine z_ineg (pc' := 28) C dX6_broken_27 rfl ?_
          refine z_aload_n (pc' := 29) C dX6_broken_28 rfl 2 rfl rfl ?_
          refine z_get (pc' := 32) C hU6 6 (by decide) q_o6 rfl 7 (by decide) (by decide +kernel) (v := .ref (G.2.1 42)) rfl dX6_broken_29 rfl ?_
          refine z_iload_n (pc' := 33) C dX6_broken_32 rfl 1 rfl rfl ?_
          refine z_iald (pc' := 34) C 42 (by decide) (N := 32) (i := i) (f := ia 35) q_i35 (by omega) (by decide) dX6_broken_33 rfl ?_
          refine z_icmp_le (pc' := 37) C 39 dX6_broken_34 rfl rfl (fun h_34 => ?_) (fun h_34 => ?_)
          · refine z_iinc (v := nI (i + 1)) (k9 := 1) (lv' := [(1, .int (nI (i + 1))), (2, .int (r_fa (ia 29) i n)), (0, .ref (G.2.1 6))]) (pc' := 42) C dX6_broken_39 rfl (nI_1 i) (by decide) rfl rfl ?_
            refine z_goto (pc' := 2) C dX6_broken_42 rfl ?_
            refine z_sub (lv' := [(1, .int (nI (i + 1))), (0, .ref (G.2.1 6))]) C [0, 2] rfl ?_
            exact z_cast rfl rfl rfl rfl rfl (ih2 (i + 1) (by omega) (by exact s_lt_s ha (by simp [r_br, h_23, h_34])) (by omega))
          · refine z_iload_n (pc' := 38) C dX6_broken_37 rfl 1 rfl rfl ?_
            exact z_iret (E := E) rfl dX6_broken_38 ⟨(congrArg (fun z => some (Value.int z)) (show _ = _ from (by first | rfl | (have hb9 : r_br ia n i = true := (by unfold r_br; first | (rw [decide_eq_true h_23]; rfl) | (rw [decide_eq_false h_34]; simp)); rw [s_fi_s (i := i) ha (by omega) hb9]; rfl)))), rfl, rfl, rfl⟩
  exact z_cast rfl rfl rfl rfl rfl (L2 (_ + 1) 0 (by omega) (fun j h => absurd h (Nat.not_lt_zero j)) (Nat.lt_succ_self _))

set_option maxHeartbeats 4000000 in
set_option maxRecDepth 100000 in
theorem c_X6_doubt_out (l : Launch) (G : Gv) (sc : Sc) (ia : Ia) (la : La) (v : Int32) (ho : s_out v 0 10000 = true)  : Ct l yX6_doubt wsX6_doubt ({ frames := 7, cells := 0, slots := 0, locals := 250 }) G [.ref (G.2.1 6), .int v] sc ia la (fI (-102) sc ia la) := by
  refine z_of (maxL := 2) (own := RX6) [(0, .ref (G.2.1 6)), (1, .int v)] rfl (by decide +kernel) rfl (Nat.le_of_ble_eq_true rfl) rfl (fun Z C E => ?_)
  refine z_iload_n (pc' := 1) C dX6_doubt_0 rfl 1 rfl rfl ?_
  refine z_i2l (pc' := 2) C dX6_doubt_1 rfl ?_
  refine z_lconst (v := 0) (pc' := 3) C dX6_doubt_2 rfl rfl ?_
  refine z_ldc2 (v := 10000) (pc' := 6) C (by decide +kernel) dX6_doubt_3 rfl ?_
  refine z_cS (n := 3) (pc' := 9) (As := [.long v.toInt64, .long 0, .long 10000]) (rest := []) C (c_X6_inB l G sc ia la v 0 10000 0 10000 rfl rfl false ho) gX6_doubt_X6_in rfl rfl rfl (by decide +kernel) (by decide) rfl rfl dX6_doubt_6 (Nat.le_of_ble_eq_true rfl) rfl (k_I ?_)
  show Z sc ia la [(0, .ref (G.2.1 6)), (1, .int v)] 9 [.int 0]
  refine z_if_ne (pc' := 12) C 15 dX6_doubt_9 rfl rfl (fun h_9 => absurd h_9 (by decide)) (fun h_9 => ?_)
  refine z_bipush (v := -102) (pc' := 14) C dX6_doubt_12 rfl rfl ?_
  exact z_iret (E := E) rfl dX6_doubt_14 ⟨(congrArg (fun z => some (Value.int z)) rfl), rfl, rfl, rfl⟩

set_option maxHeartbeats 4000000 in
set_option maxRecDepth 100000 in
theorem c_X6_doubt_full (l : Launch) (G : Gv) (sc : Sc) (ia : Ia) (la : La) (d : Nat) (hd : sc 17 = nI d) (hD : d = 18) (v : Int32) (ho : s_out v 0 10000 = false)  : Ct l yX6_doubt wsX6_doubt ({ frames := 7, cells := 0, slots := 0, locals := 250 }) G [.ref (G.2.1 6), .int v] sc ia la (fI (-104) sc ia la) := by
  have hU6 : ∀ w ∈ u_ws RX6 TX6 25, w ∈ wsX6_doubt := fun w h => List.mem_cons_of_mem _ (List.mem_append_right _ h)
  refine z_of (maxL := 2) (own := RX6) [(0, .ref (G.2.1 6)), (1, .int v)] rfl (by decide +kernel) rfl (Nat.le_of_ble_eq_true rfl) rfl (fun Z C E => ?_)
  refine z_iload_n (pc' := 1) C dX6_doubt_0 rfl 1 rfl rfl ?_
  refine z_i2l (pc' := 2) C dX6_doubt_1 rfl ?_
  refine z_lconst (v := 0) (pc' := 3) C dX6_doubt_2 rfl rfl ?_
  refine z_ldc2 (v := 10000) (pc' := 6) C (by decide +kernel) dX6_doubt_3 rfl ?_
  refine z_cS (n := 3) (pc' := 9) (As := [.long v.toInt64, .long 0, .long 10000]) (rest := []) C (c_X6_inB l G sc ia la v 0 10000 0 10000 rfl rfl true ho) gX6_doubt_X6_in rfl rfl rfl (by decide +kernel) (by decide) rfl rfl dX6_doubt_6 (Nat.le_of_ble_eq_true rfl) rfl (k_I ?_)
  show Z sc ia la [(0, .ref (G.2.1 6)), (1, .int v)] 9 [.int 1]
  refine z_if_ne (pc' := 12) C 15 dX6_doubt_9 rfl rfl (fun h_9 => ?_) (fun h_9 => absurd h_9 (by decide))
  refine z_aload_n (pc' := 16) C dX6_doubt_15 rfl 0 rfl rfl ?_
  refine z_get (pc' := 19) C hU6 6 (by decide) q_o6 rfl 23 (by decide) (by decide +kernel) (v := .int (sc 17)) rfl dX6_doubt_16 rfl ?_
  refine z_cast (st' := [.int (nI d)]) rfl rfl rfl rfl (congrArg (fun z => Value.int z :: []) hd) ?_
  refine z_bipush (v := 18) (pc' := 21) C dX6_doubt_19 rfl rfl ?_
  refine z_icmpN_ne (a := d) (b := 18) (pc' := 24) C 27 (by omega) (by omega) dX6_doubt_21 rfl rfl (fun h_21 => absurd h_21 (by exact fun q => q hD)) (fun h_21 => ?_)
  refine z_bipush (v := -104) (pc' := 26) C dX6_doubt_24 rfl rfl ?_
  exact z_iret (E := E) rfl dX6_doubt_26 ⟨(congrArg (fun z => some (Value.int z)) rfl), rfl, rfl, rfl⟩

set_option maxHeartbeats 4000000 in
set_option maxRecDepth 100000 in
theorem c_X6_doubt_ok (l : Launch) (G : Gv) (sc : Sc) (ia : Ia) (la : La) (d : Nat) (hd : sc 17 = nI d) (hD : d < 18) (v : Int32) (ho : s_out v 0 10000 = false)  : Ct l yX6_doubt wsX6_doubt ({ frames := 7, cells := 0, slots := 0, locals := 250 }) G [.ref (G.2.1 6), .int v] sc ia la (fI (nI (d + 1)) (va_up sc 17 (nI (d + 1))) (va_up ia 41 (upd (ia 41) d v)) la) := by
  have hU6 : ∀ w ∈ u_ws RX6 TX6 25, w ∈ wsX6_doubt := fun w h => List.mem_cons_of_mem _ (List.mem_append_right _ h)
  refine z_of (maxL := 2) (own := RX6) [(0, .ref (G.2.1 6)), (1, .int v)] rfl (by decide +kernel) rfl (Nat.le_of_ble_eq_true rfl) rfl (fun Z C E => ?_)
  refine z_iload_n (pc' := 1) C dX6_doubt_0 rfl 1 rfl rfl ?_
  refine z_i2l (pc' := 2) C dX6_doubt_1 rfl ?_
  refine z_lconst (v := 0) (pc' := 3) C dX6_doubt_2 rfl rfl ?_
  refine z_ldc2 (v := 10000) (pc' := 6) C (by decide +kernel) dX6_doubt_3 rfl ?_
  refine z_cS (n := 3) (pc' := 9) (As := [.long v.toInt64, .long 0, .long 10000]) (rest := []) C (c_X6_inB l G sc ia la v 0 10000 0 10000 rfl rfl true ho) gX6_doubt_X6_in rfl rfl rfl (by decide +kernel) (by decide) rfl rfl dX6_doubt_6 (Nat.le_of_ble_eq_true rfl) rfl (k_I ?_)
  show Z sc ia la [(0, .ref (G.2.1 6)), (1, .int v)] 9 [.int 1]
  refine z_if_ne (pc' := 12) C 15 dX6_doubt_9 rfl rfl (fun h_9 => ?_) (fun h_9 => absurd h_9 (by decide))
  refine z_aload_n (pc' := 16) C dX6_doubt_15 rfl 0 rfl rfl ?_
  refine z_get (pc' := 19) C hU6 6 (by decide) q_o6 rfl 23 (by decide) (by decide +kernel) (v := .int (sc 17)) rfl dX6_doubt_16 rfl ?_
  refine z_cast (st' := [.int (nI d)]) rfl rfl rfl rfl (congrArg (fun z => Value.int z :: []) hd) ?_
  refine z_bipush (v := 18) (pc' := 21) C dX6_doubt_19 rfl rfl ?_
  refine z_icmpN_ne (a := d) (b := 18) (pc' := 24) C 27 (by omega) (by omega) dX6_doubt_21 rfl rfl (fun h_21 => ?_) (fun h_21 => absurd h_21 (by omega))
  refine z_aload_n (pc' := 28) C dX6_doubt_27 rfl 0 rfl rfl ?_
  refine z_get (pc' := 31) C hU6 6 (by decide) q_o6 rfl 24 (by decide) (by decide +kernel) (v := .ref (G.2.1 48)) rfl dX6_doubt_28 rfl ?_
  refine z_aload_n (pc' := 32) C dX6_doubt_31 rfl 0 rfl rfl ?_
  refine z_get (pc' := 35) C hU6 6 (by decide) q_o6 rfl 23 (by decide) (by decide +kernel) (v := .int (sc 17)) rfl dX6_doubt_32 rfl ?_
  refine z_cast (st' := [.int (nI d), .ref (G.2.1 48)]) rfl rfl rfl rfl (congrArg (fun z => Value.int z :: [.ref (G.2.1 48)]) hd) ?_
  refine z_iload_n (pc' := 36) C dX6_doubt_35 rfl 1 rfl rfl ?_
  refine z_iast (pc' := 37) C 48 (by decide) (N := 18) (i := d) (f := ia 41) q_i41 (by omega) (by decide) (q_u41 _) dX6_doubt_36 rfl ?_
  refine z_aload_n (pc' := 38) C dX6_doubt_37 rfl 0 rfl rfl ?_
  refine z_dup (pc' := 39) C dX6_doubt_38 rfl rfl ?_
  refine z_get (pc' := 42) C hU6 6 (by decide) q_o6 rfl 23 (by decide) (by decide +kernel) (v := .int (sc 17)) rfl dX6_doubt_39 rfl ?_
  refine z_cast (st' := [.int (nI d), .ref (G.2.1 6)]) rfl rfl rfl rfl (congrArg (fun z => Value.int z :: [.ref (G.2.1 6)]) hd) ?_
  refine z_iconst (v := 1) (pc' := 43) C dX6_doubt_42 rfl rfl ?_
  refine z_iadd (pc' := 44) C dX6_doubt_43 rfl ?_
  refine z_cast (st' := [.int (nI (d + 1)), .ref (G.2.1 6)]) rfl rfl rfl rfl (congrArg (fun z => Value.int z :: [.ref (G.2.1 6)]) (nI_add _ _)) ?_
  refine z_put (pc' := 47) C hU6 tyX6 tyX6_ok nmX6 6 (by decide) q_o6 rfl 23 (by decide) (by decide +kernel) rfl rfl (Nat.le_of_ble_eq_true rfl) (q_s17 _) dX6_doubt_44 rfl ?_
  refine z_aload_n (pc' := 48) C dX6_doubt_47 rfl 0 rfl rfl ?_
  refine z_get (pc' := 51) C hU6 6 (by decide) q_o6 rfl 23 (by decide) (by decide +kernel) (v := .int (nI (d + 1))) rfl dX6_doubt_48 rfl ?_
  exact z_iret (E := E) rfl dX6_doubt_51 ⟨(congrArg (fun z => some (Value.int z)) rfl), rfl, rfl, rfl⟩

set_option maxHeartbeats 4000000 in
set_option maxRecDepth 100000 in
theorem c_X6_sure_ok (l : Launch) (G : Gv) (sc : Sc) (ia : Ia) (la : La)   : Ct l yX6_sure wsX6_sure ({ frames := 7, cells := 0, slots := 0, locals := 250 }) G [.ref (G.2.1 6)] sc ia la (fI (sc 17) (va_up sc 17 0) ia la) := by
  have hU6 : ∀ w ∈ u_ws RX6 TX6 25, w ∈ wsX6_sure := fun w h => List.mem_cons_of_mem _ (List.mem_append_right _ h)
  refine z_of (maxL := 2) (own := RX6) [(0, .ref (G.2.1 6))] rfl (by decide +kernel) rfl (Nat.le_of_ble_eq_true rfl) rfl (fun Z C E => ?_)
  refine z_aload_n (pc' := 1) C dX6_sure_0 rfl 0 rfl rfl ?_
  refine z_get (pc' := 4) C hU6 6 (by decide) q_o6 rfl 23 (by decide) (by decide +kernel) (v := .int (sc 17)) rfl dX6_sure_1 rfl ?_
  refine z_istore_n (lv' := [(1, .int (sc 17)), (0, .ref (G.2.1 6))]) (pc' := 5) C dX6_sure_4 rfl (by decide) rfl rfl ?_
  refine z_aload_n (pc' := 6) C dX6_sure_5 rfl 1 rfl rfl ?_
  refine z_iconst (v := 0) (pc' := 7) C dX6_sure_6 rfl rfl ?_
  refine z_put (pc' := 10) C hU6 tyX6 tyX6_ok nmX6 6 (by decide) q_o6 rfl 23 (by decide) (by decide +kernel) rfl rfl (Nat.le_of_ble_eq_true rfl) (q_s17 _) dX6_sure_7 rfl ?_
  refine z_iload_n (pc' := 11) C dX6_sure_10 rfl 0 rfl rfl ?_
  exact z_iret (E := E) rfl dX6_sure_11 ⟨(congrArg (fun z => some (Value.int z)) rfl), rfl, rfl, rfl⟩

set_option maxHeartbeats 4000000 in
set_option maxRecDepth 100000 in
theorem c_X6_budget_out (l : Launch) (G : Gv) (sc : Sc) (ia : Ia) (la : La) (k : Int32) (ho : s_out k 0 2 = true)  : Ct l yX6_budget wsX6_budget ({ frames := 7, cells := 0, slots := 0, locals := 250 }) G [.ref (G.2.1 6), .int k] sc ia la (fI (-102) sc ia la) := by
  refine z_of (maxL := 8) (own := RX6) [(0, .ref (G.2.1 6)), (1, .int k)] rfl (by decide +kernel) rfl (Nat.le_of_ble_eq_true rfl) rfl (fun Z C E => ?_)
  refine z_iload_n (pc' := 1) C dX6_budget_0 rfl 1 rfl rfl ?_
  refine z_i2l (pc' := 2) C dX6_budget_1 rfl ?_
  refine z_lconst (v := 0) (pc' := 3) C dX6_budget_2 rfl rfl ?_
  refine z_ldc2 (v := 2) (pc' := 6) C (by decide +kernel) dX6_budget_3 rfl ?_
  refine z_cS (n := 3) (pc' := 9) (As := [.long k.toInt64, .long 0, .long 2]) (rest := []) C (c_X6_inB l G sc ia la k 0 2 0 2 rfl rfl false ho) gX6_budget_X6_in rfl rfl rfl (by decide +kernel) (by decide) rfl rfl dX6_budget_6 (Nat.le_of_ble_eq_true rfl) rfl (k_I ?_)
  show Z sc ia la [(0, .ref (G.2.1 6)), (1, .int k)] 9 [.int 0]
  refine z_if_ne (pc' := 12) C 15 dX6_budget_9 rfl rfl (fun h_9 => absurd h_9 (by decide)) (fun h_9 => ?_)
  refine z_bipush (v := -102) (pc' := 14) C dX6_budget_12 rfl rfl ?_
  exact z_iret (E := E) rfl dX6_budget_14 ⟨(congrArg (fun z => some (Value.int z)) rfl), rfl, rfl, rfl⟩

set_option maxHeartbeats 4000000 in
set_option maxRecDepth 100000 in
theorem c_X6_budget_0 (l : Launch) (G : Gv) (sc : Sc) (ia : Ia) (la : La) (d : Nat) (hd : sc 17 = nI d) (hD : d ≤ 18)  : Ct l yX6_budget wsX6_budget ({ frames := 7, cells := 0, slots := 0, locals := 250 }) G [.ref (G.2.1 6), .int 0] sc ia la (fI (bx_sum (ia 41) d) sc ia la) := by
  have hU6 : ∀ w ∈ u_ws RX6 TX6 25, w ∈ wsX6_budget := fun w h => List.mem_cons_of_mem _ (List.mem_append_right _ h)
  refine z_of (maxL := 8) (own := RX6) [(0, .ref (G.2.1 6)), (1, .int 0)] rfl (by decide +kernel) rfl (Nat.le_of_ble_eq_true rfl) rfl (fun Z C E => ?_)
  refine z_iload_n (pc' := 1) C dX6_budget_0 rfl 1 rfl rfl ?_
  refine z_i2l (pc' := 2) C dX6_budget_1 rfl ?_
  refine z_lconst (v := 0) (pc' := 3) C dX6_budget_2 rfl rfl ?_
  refine z_ldc2 (v := 2) (pc' := 6) C (by decide +kernel) dX6_budget_3 rfl ?_
  refine z_cS (n := 3) (pc' := 9) (As := [.long ((0 : Int32).toInt64), .long 0, .long 2]) (rest := []) C (c_X6_inB l G sc ia la (0 : Int32) 0 2 0 2 rfl rfl true (by decide)) gX6_budget_X6_in rfl rfl rfl (by decide +kernel) (by decide) rfl rfl dX6_budget_6 (Nat.le_of_ble_eq_true rfl) rfl (k_I ?_)
  show Z sc ia la [(0, .ref (G.2.1 6)), (1, .int 0)] 9 [.int 1]
  refine z_if_ne (pc' := 12) C 15 dX6_budget_9 rfl rfl (fun h_9 => ?_) (fun h_9 => absurd h_9 (by decide))
  refine z_iconst (v := 0) (pc' := 16) C dX6_budget_15 rfl rfl ?_
  refine z_istore_n (lv' := [(2, .int 0), (0, .ref (G.2.1 6)), (1, .int 0)]) (pc' := 17) C dX6_budget_16 rfl (by decide) rfl rfl ?_
  refine z_iconst (v := 0) (pc' := 18) C dX6_budget_17 rfl rfl ?_
  refine z_istore_n (lv' := [(3, .int 0), (2, .int 0), (0, .ref (G.2.1 6)), (1, .int 0)]) (pc' := 19) C dX6_budget_18 rfl (by decide) rfl rfl ?_
  refine z_lconst (v := 0) (pc' := 20) C dX6_budget_19 rfl rfl ?_
  refine z_lstore (lv' := [(4, .long 0), (3, .int 0), (2, .int 0), (0, .ref (G.2.1 6)), (1, .int 0)]) (pc' := 22) C dX6_budget_20 (by decide) rfl rfl ?_
  refine z_iconst (v := 0) (pc' := 23) C dX6_budget_22 rfl rfl ?_
  refine z_istore (lv' := [(6, .int 0), (4, .long 0), (3, .int 0), (2, .int 0), (0, .ref (G.2.1 6)), (1, .int 0)]) (pc' := 25) C dX6_budget_23 (by decide) rfl rfl ?_
  have L25 : ∀ (fuel : Nat) (i : Nat) (hi : i ≤ d), d - i < fuel → Z sc ia la [(6, .int (nI i)), (4, .long (s_dq (ia 41) i)), (3, .int (s_gr (ia 41) i)), (2, .int (bx_sum (ia 41) i)), (0, .ref (G.2.1 6)), (1, .int 0)] 25 [] := by
    intro fuel
    induction fuel with
    | zero => intro i hi hm25; exact absurd hm25 (Nat.not_lt_zero _)
    | succ fuel ih25 =>
      intro i hi hm25
      refine z_iload (pc' := 27) C dX6_budget_25 0 rfl rfl ?_
      refine z_aload_n (pc' := 28) C dX6_budget_27 rfl 4 rfl rfl ?_
      refine z_get (pc' := 31) C hU6 6 (by decide) q_o6 rfl 23 (by decide) (by decide +kernel) (v := .int (sc 17)) rfl dX6_budget_28 rfl ?_
      refine z_cast (st' := [.int (nI d), .int (nI i)]) rfl rfl rfl rfl (congrArg (fun z => Value.int z :: [.int (nI i)]) hd) ?_
      refine z_icmpN_ge (a := i) (b := d) (pc' := 34) C 95 (by omega) (by omega) dX6_budget_31 rfl rfl (fun h_31 => ?_) (fun h_31 => ?_)
      · refine z_iload_n (pc' := 96) C dX6_budget_95 rfl 5 rfl rfl ?_
        refine z_iconst (v := 1) (pc' := 97) C dX6_budget_96 rfl rfl ?_
        refine z_icmpN_eq (a := 0) (b := 1) (pc' := 100) C 110 (by omega) (by omega) dX6_budget_97 rfl rfl (fun h_97 => absurd h_97 (by decide)) (fun h_97 => ?_)
        refine z_iload_n (pc' := 101) C dX6_budget_100 rfl 5 rfl rfl ?_
        refine z_if_ne (pc' := 104) C 108 dX6_budget_101 rfl rfl (fun h_101 => absurd h_101 (by decide)) (fun h_101 => ?_)
        refine z_iload_n (pc' := 105) C dX6_budget_104 rfl 3 rfl rfl ?_
        refine z_goto (pc' := 109) C dX6_budget_105 rfl ?_
        exact z_iret (E := E) rfl dX6_budget_109 ⟨(congrArg (fun z => some (Value.int z)) (show _ = _ from (by first | rfl | (have e9 : i = d := (by omega); subst e9; rfl)))), rfl, rfl, rfl⟩
      · refine z_iload_n (pc' := 35) C dX6_budget_34 rfl 3 rfl rfl ?_
        refine z_aload_n (pc' := 36) C dX6_budget_35 rfl 4 rfl rfl ?_
        refine z_get (pc' := 39) C hU6 6 (by decide) q_o6 rfl 24 (by decide) (by decide +kernel) (v := .ref (G.2.1 48)) rfl dX6_budget_36 rfl ?_
        refine z_iload (pc' := 41) C dX6_budget_39 0 rfl rfl ?_
        refine z_iald (pc' := 42) C 48 (by decide) (N := 18) (i := i) (f := ia 41) q_i41 (by omega) (by decide) dX6_budget_41 rfl ?_
        refine z_iadd (pc' := 43) C dX6_budget_42 rfl ?_
        refine z_istore_n (lv' := [(2, .int ((bx_sum (ia 41) i) + ((ia 41) i))), (6, .int (nI i)), (4, .long (s_dq (ia 41) i)), (3, .int (s_gr (ia 41) i)), (0, .ref (G.2.1 6)), (1, .int 0)]) (pc' := 44) C dX6_budget_43 rfl (by decide) rfl rfl ?_
        refine z_aload_n (pc' := 45) C dX6_budget_44 rfl 4 rfl rfl ?_
        refine z_get (pc' := 48) C hU6 6 (by decide) q_o6 rfl 24 (by decide) (by decide +kernel) (v := .ref (G.2.1 48)) rfl dX6_budget_45 rfl ?_
        refine z_iload (pc' := 50) C dX6_budget_48 1 rfl rfl ?_
        refine z_iald (pc' := 51) C 48 (by decide) (N := 18) (i := i) (f := ia 41) q_i41 (by omega) (by decide) dX6_budget_50 rfl ?_
        refine z_iload_n (pc' := 52) C dX6_budget_51 rfl 3 rfl rfl ?_
        have J66 : Z sc ia la [(2, .int ((bx_sum (ia 41) i) + ((ia 41) i))), (6, .int (nI i)), (4, .long (s_dq (ia 41) i)), (3, .int (s_gr (ia 41) i)), (0, .ref (G.2.1 6)), (1, .int 0)] 66 [.int (if s_gr (ia 41) i < ia 41 i then ia 41 i else s_gr (ia 41) i)] := by
          refine z_istore_n (lv' := [(3, .int (if s_gr (ia 41) i < ia 41 i then ia 41 i else s_gr (ia 41) i)), (2, .int ((bx_sum (ia 41) i) + ((ia 41) i))), (6, .int (nI i)), (4, .long (s_dq (ia 41) i)), (0, .ref (G.2.1 6)), (1, .int 0)]) (pc' := 67) C dX6_budget_66 rfl (by decide) rfl rfl ?_
          refine z_lload (pc' := 69) C dX6_budget_67 3 rfl rfl ?_
          refine z_aload_n (pc' := 70) C dX6_budget_69 rfl 4 rfl rfl ?_
          refine z_get (pc' := 73) C hU6 6 (by decide) q_o6 rfl 24 (by decide) (by decide +kernel) (v := .ref (G.2.1 48)) rfl dX6_budget_70 rfl ?_
          refine z_iload (pc' := 75) C dX6_budget_73 2 rfl rfl ?_
          refine z_iald (pc' := 76) C 48 (by decide) (N := 18) (i := i) (f := ia 41) q_i41 (by omega) (by decide) dX6_budget_75 rfl ?_
          refine z_i2l (pc' := 77) C dX6_budget_76 rfl ?_
          refine z_aload_n (pc' := 78) C dX6_budget_77 rfl 4 rfl rfl ?_
          refine z_get (pc' := 81) C hU6 6 (by decide) q_o6 rfl 24 (by decide) (by decide +kernel) (v := .ref (G.2.1 48)) rfl dX6_budget_78 rfl ?_
          refine z_iload (pc' := 83) C dX6_budget_81 2 rfl rfl ?_
          refine z_iald (pc' := 84) C 48 (by decide) (N := 18) (i := i) (f := ia 41) q_i41 (by omega) (by decide) dX6_budget_83 rfl ?_
          refine z_i2l (pc' := 85) C dX6_budget_84 rfl ?_
          refine z_lmul (pc' := 86) C dX6_budget_85 rfl ?_
          refine z_ladd (pc' := 87) C dX6_budget_86 rfl ?_
          refine z_lstore (lv' := [(4, .long ((s_dq (ia 41) i) + ((((ia 41) i).toInt64) * (((ia 41) i).toInt64)))), (3, .int (if s_gr (ia 41) i < ia 41 i then ia 41 i else s_gr (ia 41) i)), (2, .int ((bx_sum (ia 41) i) + ((ia 41) i))), (6, .int (nI i)), (0, .ref (G.2.1 6)), (1, .int 0)]) (pc' := 89) C dX6_budget_87 (by decide) rfl rfl ?_
          refine z_iinc (v := nI (i + 1)) (k9 := 3) (lv' := [(6, .int (nI (i + 1))), (4, .long ((s_dq (ia 41) i) + ((((ia 41) i).toInt64) * (((ia 41) i).toInt64)))), (3, .int (if s_gr (ia 41) i < ia 41 i then ia 41 i else s_gr (ia 41) i)), (2, .int ((bx_sum (ia 41) i) + ((ia 41) i))), (0, .ref (G.2.1 6)), (1, .int 0)]) (pc' := 92) C dX6_budget_89 rfl (nI_1 i) (by decide) rfl rfl ?_
          refine z_goto (pc' := 25) C dX6_budget_92 rfl ?_
          exact z_cast rfl rfl rfl rfl rfl (ih25 (i + 1) (by omega) (by omega))
        refine z_icmp_le (pc' := 55) C 65 dX6_budget_52 rfl rfl (fun h_52 => ?_) (fun h_52 => ?_)
        · refine z_iload_n (pc' := 66) C dX6_budget_65 rfl 3 rfl rfl ?_
          exact z_cast rfl rfl rfl rfl (by first | rfl | (simp [← Int32.not_le, h_52])) J66
        · refine z_aload_n (pc' := 56) C dX6_budget_55 rfl 4 rfl rfl ?_
          refine z_get (pc' := 59) C hU6 6 (by decide) q_o6 rfl 24 (by decide) (by decide +kernel) (v := .ref (G.2.1 48)) rfl dX6_budget_56 rfl ?_
          refine z_iload (pc' := 61) C dX6_budget_59 1 rfl rfl ?_
          refine z_iald (pc' := 62) C 48 (by decide) (N := 18) (i := i) (f := ia 41) q_i41 (by omega) (by decide) dX6_budget_61 rfl ?_
          refine z_goto (pc' := 66) C dX6_budget_62 rfl ?_
          exact z_cast rfl rfl rfl rfl (by first | rfl | (simp [← Int32.not_le, h_52])) J66
  exact z_cast rfl rfl rfl rfl rfl (L25 (_ + 1) 0 (by omega) (Nat.lt_succ_self _))

set_option maxHeartbeats 4000000 in
set_option maxRecDepth 100000 in
theorem c_X6_budget_2 (l : Launch) (G : Gv) (sc : Sc) (ia : Ia) (la : La) (d : Nat) (hd : sc 17 = nI d) (hD : d ≤ 18)  : Ct l yX6_budget wsX6_budget ({ frames := 7, cells := 0, slots := 0, locals := 250 }) G [.ref (G.2.1 6), .int 2] sc ia la (fI (s_gr (ia 41) d) sc ia la) := by
  have hU6 : ∀ w ∈ u_ws RX6 TX6 25, w ∈ wsX6_budget := fun w h => List.mem_cons_of_mem _ (List.mem_append_right _ h)
  refine z_of (maxL := 8) (own := RX6) [(0, .ref (G.2.1 6)), (1, .int 2)] rfl (by decide +kernel) rfl (Nat.le_of_ble_eq_true rfl) rfl (fun Z C E => ?_)
  refine z_iload_n (pc' := 1) C dX6_budget_0 rfl 1 rfl rfl ?_
  refine z_i2l (pc' := 2) C dX6_budget_1 rfl ?_
  refine z_lconst (v := 0) (pc' := 3) C dX6_budget_2 rfl rfl ?_
  refine z_ldc2 (v := 2) (pc' := 6) C (by decide +kernel) dX6_budget_3 rfl ?_
  refine z_cS (n := 3) (pc' := 9) (As := [.long ((2 : Int32).toInt64), .long 0, .long 2]) (rest := []) C (c_X6_inB l G sc ia la (2 : Int32) 0 2 0 2 rfl rfl true (by decide)) gX6_budget_X6_in rfl rfl rfl (by decide +kernel) (by decide) rfl rfl dX6_budget_6 (Nat.le_of_ble_eq_true rfl) rfl (k_I ?_)
  show Z sc ia la [(0, .ref (G.2.1 6)), (1, .int 2)] 9 [.int 1]
  refine z_if_ne (pc' := 12) C 15 dX6_budget_9 rfl rfl (fun h_9 => ?_) (fun h_9 => absurd h_9 (by decide))
  refine z_iconst (v := 0) (pc' := 16) C dX6_budget_15 rfl rfl ?_
  refine z_istore_n (lv' := [(2, .int 0), (0, .ref (G.2.1 6)), (1, .int 2)]) (pc' := 17) C dX6_budget_16 rfl (by decide) rfl rfl ?_
  refine z_iconst (v := 0) (pc' := 18) C dX6_budget_17 rfl rfl ?_
  refine z_istore_n (lv' := [(3, .int 0), (2, .int 0), (0, .ref (G.2.1 6)), (1, .int 2)]) (pc' := 19) C dX6_budget_18 rfl (by decide) rfl rfl ?_
  refine z_lconst (v := 0) (pc' := 20) C dX6_budget_19 rfl rfl ?_
  refine z_lstore (lv' := [(4, .long 0), (3, .int 0), (2, .int 0), (0, .ref (G.2.1 6)), (1, .int 2)]) (pc' := 22) C dX6_budget_20 (by decide) rfl rfl ?_
  refine z_iconst (v := 0) (pc' := 23) C dX6_budget_22 rfl rfl ?_
  refine z_istore (lv' := [(6, .int 0), (4, .long 0), (3, .int 0), (2, .int 0), (0, .ref (G.2.1 6)), (1, .int 2)]) (pc' := 25) C dX6_budget_23 (by decide) rfl rfl ?_
  have L25 : ∀ (fuel : Nat) (i : Nat) (hi : i ≤ d), d - i < fuel → Z sc ia la [(6, .int (nI i)), (4, .long (s_dq (ia 41) i)), (3, .int (s_gr (ia 41) i)), (2, .int (bx_sum (ia 41) i)), (0, .ref (G.2.1 6)), (1, .int 2)] 25 [] := by
    intro fuel
    induction fuel with
    | zero => intro i hi hm25; exact absurd hm25 (Nat.not_lt_zero _)
    | succ fuel ih25 =>
      intro i hi hm25
      refine z_iload (pc' := 27) C dX6_budget_25 0 rfl rfl ?_
      refine z_aload_n (pc' := 28) C dX6_budget_27 rfl 4 rfl rfl ?_
      refine z_get (pc' := 31) C hU6 6 (by decide) q_o6 rfl 23 (by decide) (by decide +kernel) (v := .int (sc 17)) rfl dX6_budget_28 rfl ?_
      refine z_cast (st' := [.int (nI d), .int (nI i)]) rfl rfl rfl rfl (congrArg (fun z => Value.int z :: [.int (nI i)]) hd) ?_
      refine z_icmpN_ge (a := i) (b := d) (pc' := 34) C 95 (by omega) (by omega) dX6_budget_31 rfl rfl (fun h_31 => ?_) (fun h_31 => ?_)
      · refine z_iload_n (pc' := 96) C dX6_budget_95 rfl 5 rfl rfl ?_
        refine z_iconst (v := 1) (pc' := 97) C dX6_budget_96 rfl rfl ?_
        refine z_icmpN_eq (a := 2) (b := 1) (pc' := 100) C 110 (by omega) (by omega) dX6_budget_97 rfl rfl (fun h_97 => absurd h_97 (by decide)) (fun h_97 => ?_)
        refine z_iload_n (pc' := 101) C dX6_budget_100 rfl 5 rfl rfl ?_
        refine z_if_ne (pc' := 104) C 108 dX6_budget_101 rfl rfl (fun h_101 => ?_) (fun h_101 => absurd h_101 (by decide))
        refine z_iload_n (pc' := 109) C dX6_budget_108 rfl 2 rfl rfl ?_
        exact z_iret (E := E) rfl dX6_budget_109 ⟨(congrArg (fun z => some (Value.int z)) (show _ = _ from (by first | rfl | (have e9 : i = d := (by omega); subst e9; rfl)))), rfl, rfl, rfl⟩
      · refine z_iload_n (pc' := 35) C dX6_budget_34 rfl 3 rfl rfl ?_
        refine z_aload_n (pc' := 36) C dX6_budget_35 rfl 4 rfl rfl ?_
        refine z_get (pc' := 39) C hU6 6 (by decide) q_o6 rfl 24 (by decide) (by decide +kernel) (v := .ref (G.2.1 48)) rfl dX6_budget_36 rfl ?_
        refine z_iload (pc' := 41) C dX6_budget_39 0 rfl rfl ?_
        refine z_iald (pc' := 42) C 48 (by decide) (N := 18) (i := i) (f := ia 41) q_i41 (by omega) (by decide) dX6_budget_41 rfl ?_
        refine z_iadd (pc' := 43) C dX6_budget_42 rfl ?_
        refine z_istore_n (lv' := [(2, .int ((bx_sum (ia 41) i) + ((ia 41) i))), (6, .int (nI i)), (4, .long (s_dq (ia 41) i)), (3, .int (s_gr (ia 41) i)), (0, .ref (G.2.1 6)), (1, .int 2)]) (pc' := 44) C dX6_budget_43 rfl (by decide) rfl rfl ?_
        refine z_aload_n (pc' := 45) C dX6_budget_44 rfl 4 rfl rfl ?_
        refine z_get (pc' := 48) C hU6 6 (by decide) q_o6 rfl 24 (by decide) (by decide +kernel) (v := .ref (G.2.1 48)) rfl dX6_budget_45 rfl ?_
        refine z_iload (pc' := 50) C dX6_budget_48 1 rfl rfl ?_
        refine z_iald (pc' := 51) C 48 (by decide) (N := 18) (i := i) (f := ia 41) q_i41 (by omega) (by decide) dX6_budget_50 rfl ?_
        refine z_iload_n (pc' := 52) C dX6_budget_51 rfl 3 rfl rfl ?_
        have J66 : Z sc ia la [(2, .int ((bx_sum (ia 41) i) + ((ia 41) i))), (6, .int (nI i)), (4, .long (s_dq (ia 41) i)), (3, .int (s_gr (ia 41) i)), (0, .ref (G.2.1 6)), (1, .int 2)] 66 [.int (if s_gr (ia 41) i < ia 41 i then ia 41 i else s_gr (ia 41) i)] := by
          refine z_istore_n (lv' := [(3, .int (if s_gr (ia 41) i < ia 41 i then ia 41 i else s_gr (ia 41) i)), (2, .int ((bx_sum (ia 41) i) + ((ia 41) i))), (6, .int (nI i)), (4, .long (s_dq (ia 41) i)), (0, .ref (G.2.1 6)), (1, .int 2)]) (pc' := 67) C dX6_budget_66 rfl (by decide) rfl rfl ?_
          refine z_lload (pc' := 69) C dX6_budget_67 3 rfl rfl ?_
          refine z_aload_n (pc' := 70) C dX6_budget_69 rfl 4 rfl rfl ?_
          refine z_get (pc' := 73) C hU6 6 (by decide) q_o6 rfl 24 (by decide) (by decide +kernel) (v := .ref (G.2.1 48)) rfl dX6_budget_70 rfl ?_
          refine z_iload (pc' := 75) C dX6_budget_73 2 rfl rfl ?_
          refine z_iald (pc' := 76) C 48 (by decide) (N := 18) (i := i) (f := ia 41) q_i41 (by omega) (by decide) dX6_budget_75 rfl ?_
          refine z_i2l (pc' := 77) C dX6_budget_76 rfl ?_
          refine z_aload_n (pc' := 78) C dX6_budget_77 rfl 4 rfl rfl ?_
          refine z_get (pc' := 81) C hU6 6 (by decide) q_o6 rfl 24 (by decide) (by decide +kernel) (v := .ref (G.2.1 48)) rfl dX6_budget_78 rfl ?_
          refine z_iload (pc' := 83) C dX6_budget_81 2 rfl rfl ?_
          refine z_iald (pc' := 84) C 48 (by decide) (N := 18) (i := i) (f := ia 41) q_i41 (by omega) (by decide) dX6_budget_83 rfl ?_
          refine z_i2l (pc' := 85) C dX6_budget_84 rfl ?_
          refine z_lmul (pc' := 86) C dX6_budget_85 rfl ?_
          refine z_ladd (pc' := 87) C dX6_budget_86 rfl ?_
          refine z_lstore (lv' := [(4, .long ((s_dq (ia 41) i) + ((((ia 41) i).toInt64) * (((ia 41) i).toInt64)))), (3, .int (if s_gr (ia 41) i < ia 41 i then ia 41 i else s_gr (ia 41) i)), (2, .int ((bx_sum (ia 41) i) + ((ia 41) i))), (6, .int (nI i)), (0, .ref (G.2.1 6)), (1, .int 2)]) (pc' := 89) C dX6_budget_87 (by decide) rfl rfl ?_
          refine z_iinc (v := nI (i + 1)) (k9 := 3) (lv' := [(6, .int (nI (i + 1))), (4, .long ((s_dq (ia 41) i) + ((((ia 41) i).toInt64) * (((ia 41) i).toInt64)))), (3, .int (if s_gr (ia 41) i < ia 41 i then ia 41 i else s_gr (ia 41) i)), (2, .int ((bx_sum (ia 41) i) + ((ia 41) i))), (0, .ref (G.2.1 6)), (1, .int 2)]) (pc' := 92) C dX6_budget_89 rfl (nI_1 i) (by decide) rfl rfl ?_
          refine z_goto (pc' := 25) C dX6_budget_92 rfl ?_
          exact z_cast rfl rfl rfl rfl rfl (ih25 (i + 1) (by omega) (by omega))
        refine z_icmp_le (pc' := 55) C 65 dX6_budget_52 rfl rfl (fun h_52 => ?_) (fun h_52 => ?_)
        · refine z_iload_n (pc' := 66) C dX6_budget_65 rfl 3 rfl rfl ?_
          exact z_cast rfl rfl rfl rfl (by first | rfl | (simp [← Int32.not_le, h_52])) J66
        · refine z_aload_n (pc' := 56) C dX6_budget_55 rfl 4 rfl rfl ?_
          refine z_get (pc' := 59) C hU6 6 (by decide) q_o6 rfl 24 (by decide) (by decide +kernel) (v := .ref (G.2.1 48)) rfl dX6_budget_56 rfl ?_
          refine z_iload (pc' := 61) C dX6_budget_59 1 rfl rfl ?_
          refine z_iald (pc' := 62) C 48 (by decide) (N := 18) (i := i) (f := ia 41) q_i41 (by omega) (by decide) dX6_budget_61 rfl ?_
          refine z_goto (pc' := 66) C dX6_budget_62 rfl ?_
          exact z_cast rfl rfl rfl rfl (by first | rfl | (simp [← Int32.not_le, h_52])) J66
  exact z_cast rfl rfl rfl rfl rfl (L25 (_ + 1) 0 (by omega) (Nat.lt_succ_self _))

set_option maxHeartbeats 4000000 in
set_option maxRecDepth 100000 in
theorem c_X6_budget_1 (l : Launch) (G : Gv) (sc : Sc) (ia : Ia) (la : La) (d : Nat) (hd : sc 17 = nI d) (hD : d ≤ 18) (mo SQ T : Nat) (hmo : (s_gr (ia 41) d).toInt64 = lN mo) (hsq : s_dq (ia 41) d = lN SQ) (hSQ : SQ < 2 ^ 40) (hT : SQ ≤ T * T) (hT2 : ∀ s, s < T → s * s < SQ) (hmT : mo ≤ T) (hT20 : T < 2 ^ 20)  : Ct l yX6_budget wsX6_budget ({ frames := 7, cells := 0, slots := 0, locals := 250 }) G [.ref (G.2.1 6), .int 1] sc ia la (fI (nI T) sc ia la) := by
  have hU6 : ∀ w ∈ u_ws RX6 TX6 25, w ∈ wsX6_budget := fun w h => List.mem_cons_of_mem _ (List.mem_append_right _ h)
  refine z_of (maxL := 8) (own := RX6) [(0, .ref (G.2.1 6)), (1, .int 1)] rfl (by decide +kernel) rfl (Nat.le_of_ble_eq_true rfl) rfl (fun Z C E => ?_)
  refine z_iload_n (pc' := 1) C dX6_budget_0 rfl 1 rfl rfl ?_
  refine z_i2l (pc' := 2) C dX6_budget_1 rfl ?_
  refine z_lconst (v := 0) (pc' := 3) C dX6_budget_2 rfl rfl ?_
  refine z_ldc2 (v := 2) (pc' := 6) C (by decide +kernel) dX6_budget_3 rfl ?_
  refine z_cS (n := 3) (pc' := 9) (As := [.long ((1 : Int32).toInt64), .long 0, .long 2]) (rest := []) C (c_X6_inB l G sc ia la (1 : Int32) 0 2 0 2 rfl rfl true (by decide)) gX6_budget_X6_in rfl rfl rfl (by decide +kernel) (by decide) rfl rfl dX6_budget_6 (Nat.le_of_ble_eq_true rfl) rfl (k_I ?_)
  show Z sc ia la [(0, .ref (G.2.1 6)), (1, .int 1)] 9 [.int 1]
  refine z_if_ne (pc' := 12) C 15 dX6_budget_9 rfl rfl (fun h_9 => ?_) (fun h_9 => absurd h_9 (by decide))
  refine z_iconst (v := 0) (pc' := 16) C dX6_budget_15 rfl rfl ?_
  refine z_istore_n (lv' := [(2, .int 0), (0, .ref (G.2.1 6)), (1, .int 1)]) (pc' := 17) C dX6_budget_16 rfl (by decide) rfl rfl ?_
  refine z_iconst (v := 0) (pc' := 18) C dX6_budget_17 rfl rfl ?_
  refine z_istore_n (lv' := [(3, .int 0), (2, .int 0), (0, .ref (G.2.1 6)), (1, .int 1)]) (pc' := 19) C dX6_budget_18 rfl (by decide) rfl rfl ?_
  refine z_lconst (v := 0) (pc' := 20) C dX6_budget_19 rfl rfl ?_
  refine z_lstore (lv' := [(4, .long 0), (3, .int 0), (2, .int 0), (0, .ref (G.2.1 6)), (1, .int 1)]) (pc' := 22) C dX6_budget_20 (by decide) rfl rfl ?_
  refine z_iconst (v := 0) (pc' := 23) C dX6_budget_22 rfl rfl ?_
  refine z_istore (lv' := [(6, .int 0), (4, .long 0), (3, .int 0), (2, .int 0), (0, .ref (G.2.1 6)), (1, .int 1)]) (pc' := 25) C dX6_budget_23 (by decide) rfl rfl ?_
  have L25 : ∀ (fuel : Nat) (i : Nat) (hi : i ≤ d), d - i < fuel → Z sc ia la [(6, .int (nI i)), (4, .long (s_dq (ia 41) i)), (3, .int (s_gr (ia 41) i)), (2, .int (bx_sum (ia 41) i)), (0, .ref (G.2.1 6)), (1, .int 1)] 25 [] := by
    intro fuel
    induction fuel with
    | zero => intro i hi hm25; exact absurd hm25 (Nat.not_lt_zero _)
    | succ fuel ih25 =>
      intro i hi hm25
      refine z_iload (pc' := 27) C dX6_budget_25 0 rfl rfl ?_
      refine z_aload_n (pc' := 28) C dX6_budget_27 rfl 4 rfl rfl ?_
      refine z_get (pc' := 31) C hU6 6 (by decide) q_o6 rfl 23 (by decide) (by decide +kernel) (v := .int (sc 17)) rfl dX6_budget_28 rfl ?_
      refine z_cast (st' := [.int (nI d), .int (nI i)]) rfl rfl rfl rfl (congrArg (fun z => Value.int z :: [.int (nI i)]) hd) ?_
      refine z_icmpN_ge (a := i) (b := d) (pc' := 34) C 95 (by omega) (by omega) dX6_budget_31 rfl rfl (fun h_31 => ?_) (fun h_31 => ?_)
      · refine z_iload_n (pc' := 96) C dX6_budget_95 rfl 5 rfl rfl ?_
        refine z_iconst (v := 1) (pc' := 97) C dX6_budget_96 rfl rfl ?_
        refine z_icmpN_eq (a := 1) (b := 1) (pc' := 100) C 110 (by omega) (by omega) dX6_budget_97 rfl rfl (fun h_97 => ?_) (fun h_97 => absurd h_97 (by decide))
        refine z_iload_n (pc' := 111) C dX6_budget_110 rfl 2 rfl rfl ?_
        refine z_i2l (pc' := 112) C dX6_budget_111 rfl ?_
        refine z_lstore (lv' := [(6, .long ((s_gr (ia 41) i).toInt64)), (4, .long (s_dq (ia 41) i)), (3, .int (s_gr (ia 41) i)), (2, .int (bx_sum (ia 41) i)), (0, .ref (G.2.1 6)), (1, .int 1)]) (pc' := 114) C dX6_budget_112 (by decide) rfl rfl ?_
        have L114 : ∀ (fuel : Nat) (t : Nat) (ht : t ≤ T) (hmt : mo ≤ t), T - t < fuel → Z sc ia la [(6, .long (lN t)), (4, .long (s_dq (ia 41) d))] 114 [] := by
          intro fuel
          induction fuel with
          | zero => intro t ht hmt hm114; exact absurd hm114 (Nat.not_lt_zero _)
          | succ fuel ih114 =>
            intro t ht hmt hm114
            refine z_lload (pc' := 116) C dX6_budget_114 0 rfl rfl ?_
            refine z_lload (pc' := 118) C dX6_budget_116 0 rfl rfl ?_
            refine z_lmul (pc' := 119) C dX6_budget_118 rfl ?_
            refine z_lload (pc' := 121) C dX6_budget_119 1 rfl rfl ?_
            refine z_lcmp (pc' := 122) C dX6_budget_121 rfl ?_
            refine z_if_ge (pc' := 125) C 134 dX6_budget_122 rfl rfl (fun h_122 => ?_) (fun h_122 => ?_)
            · refine z_lload (pc' := 136) C dX6_budget_134 0 rfl rfl ?_
              refine z_l2i (pc' := 137) C dX6_budget_136 rfl ?_
              exact z_iret (E := E) rfl dX6_budget_137 ⟨(congrArg (fun z => some (Value.int z)) (show _ = _ from (by first | rfl | (rw [lg_cmp_ge, hsq, lN_mul, pk_lLE (by omega) (by have q := Nat.mul_le_mul ht ht; have q2 := Nat.mul_le_mul (Nat.le_of_lt hT20) (Nat.le_of_lt hT20); omega)] at h_122; rcases Nat.lt_or_ge t T with q | q; (exact absurd (hT2 t q) (by omega)); have e8 : t = T := (by omega); subst e8; exact lN_i t)))), rfl, rfl, rfl⟩
            · refine z_lload (pc' := 127) C dX6_budget_125 0 rfl rfl ?_
              refine z_lconst (v := 1) (pc' := 128) C dX6_budget_127 rfl rfl ?_
              refine z_ladd (pc' := 129) C dX6_budget_128 rfl ?_
              refine z_lstore (lv' := [(6, .long ((lN t) + 1)), (4, .long (s_dq (ia 41) d))]) (pc' := 131) C dX6_budget_129 (by decide) rfl rfl ?_
              refine z_goto (pc' := 114) C dX6_budget_131 rfl ?_
              exact z_cast rfl rfl rfl (by first | rfl | (rw [lN_1])) rfl (ih114 (t + 1) (by rw [lg_cmp_ge, hsq, lN_mul, pk_lLE (by omega) (by have q := Nat.mul_le_mul ht ht; have q2 := Nat.mul_le_mul (Nat.le_of_lt hT20) (Nat.le_of_lt hT20); omega)] at h_122; rcases Nat.lt_or_ge t T with q | q; omega; have e8 : t = T := (by omega); subst e8; exact absurd hT h_122) (by omega) (by rw [lg_cmp_ge, hsq, lN_mul, pk_lLE (by omega) (by have q := Nat.mul_le_mul ht ht; have q2 := Nat.mul_le_mul (Nat.le_of_lt hT20) (Nat.le_of_lt hT20); omega)] at h_122; rcases Nat.lt_or_ge t T with q | q; omega; have e8 : t = T := (by omega); subst e8; exact absurd hT h_122))
        refine z_sub (lv' := [(6, .long ((s_gr (ia 41) i).toInt64)), (4, .long (s_dq (ia 41) i))]) C [0, 1] rfl ?_
        exact z_cast rfl rfl rfl (by first | rfl | (have e9 : i = d := (by omega); subst e9; rw [hmo])) rfl (L114 (_ + 1) mo (by omega) (by omega) (Nat.lt_succ_self _))
      · refine z_iload_n (pc' := 35) C dX6_budget_34 rfl 3 rfl rfl ?_
        refine z_aload_n (pc' := 36) C dX6_budget_35 rfl 4 rfl rfl ?_
        refine z_get (pc' := 39) C hU6 6 (by decide) q_o6 rfl 24 (by decide) (by decide +kernel) (v := .ref (G.2.1 48)) rfl dX6_budget_36 rfl ?_
        refine z_iload (pc' := 41) C dX6_budget_39 0 rfl rfl ?_
        refine z_iald (pc' := 42) C 48 (by decide) (N := 18) (i := i) (f := ia 41) q_i41 (by omega) (by decide) dX6_budget_41 rfl ?_
        refine z_iadd (pc' := 43) C dX6_budget_42 rfl ?_
        refine z_istore_n (lv' := [(2, .int ((bx_sum (ia 41) i) + ((ia 41) i))), (6, .int (nI i)), (4, .long (s_dq (ia 41) i)), (3, .int (s_gr (ia 41) i)), (0, .ref (G.2.1 6)), (1, .int 1)]) (pc' := 44) C dX6_budget_43 rfl (by decide) rfl rfl ?_
        refine z_aload_n (pc' := 45) C dX6_budget_44 rfl 4 rfl rfl ?_
        refine z_get (pc' := 48) C hU6 6 (by decide) q_o6 rfl 24 (by decide) (by decide +kernel) (v := .ref (G.2.1 48)) rfl dX6_budget_45 rfl ?_
        refine z_iload (pc' := 50) C dX6_budget_48 1 rfl rfl ?_
        refine z_iald (pc' := 51) C 48 (by decide) (N := 18) (i := i) (f := ia 41) q_i41 (by omega) (by decide) dX6_budget_50 rfl ?_
        refine z_iload_n (pc' := 52) C dX6_budget_51 rfl 3 rfl rfl ?_
        have J66 : Z sc ia la [(2, .int ((bx_sum (ia 41) i) + ((ia 41) i))), (6, .int (nI i)), (4, .long (s_dq (ia 41) i)), (3, .int (s_gr (ia 41) i)), (0, .ref (G.2.1 6)), (1, .int 1)] 66 [.int (if s_gr (ia 41) i < ia 41 i then ia 41 i else s_gr (ia 41) i)] := by
          refine z_istore_n (lv' := [(3, .int (if s_gr (ia 41) i < ia 41 i then ia 41 i else s_gr (ia 41) i)), (2, .int ((bx_sum (ia 41) i) + ((ia 41) i))), (6, .int (nI i)), (4, .long (s_dq (ia 41) i)), (0, .ref (G.2.1 6)), (1, .int 1)]) (pc' := 67) C dX6_budget_66 rfl (by decide) rfl rfl ?_
          refine z_lload (pc' := 69) C dX6_budget_67 3 rfl rfl ?_
          refine z_aload_n (pc' := 70) C dX6_budget_69 rfl 4 rfl rfl ?_
          refine z_get (pc' := 73) C hU6 6 (by decide) q_o6 rfl 24 (by decide) (by decide +kernel) (v := .ref (G.2.1 48)) rfl dX6_budget_70 rfl ?_
          refine z_iload (pc' := 75) C dX6_budget_73 2 rfl rfl ?_
          refine z_iald (pc' := 76) C 48 (by decide) (N := 18) (i := i) (f := ia 41) q_i41 (by omega) (by decide) dX6_budget_75 rfl ?_
          refine z_i2l (pc' := 77) C dX6_budget_76 rfl ?_
          refine z_aload_n (pc' := 78) C dX6_budget_77 rfl 4 rfl rfl ?_
          refine z_get (pc' := 81) C hU6 6 (by decide) q_o6 rfl 24 (by decide) (by decide +kernel) (v := .ref (G.2.1 48)) rfl dX6_budget_78 rfl ?_
          refine z_iload (pc' := 83) C dX6_budget_81 2 rfl rfl ?_
          refine z_iald (pc' := 84) C 48 (by decide) (N := 18) (i := i) (f := ia 41) q_i41 (by omega) (by decide) dX6_budget_83 rfl ?_
          refine z_i2l (pc' := 85) C dX6_budget_84 rfl ?_
          refine z_lmul (pc' := 86) C dX6_budget_85 rfl ?_
          refine z_ladd (pc' := 87) C dX6_budget_86 rfl ?_
          refine z_lstore (lv' := [(4, .long ((s_dq (ia 41) i) + ((((ia 41) i).toInt64) * (((ia 41) i).toInt64)))), (3, .int (if s_gr (ia 41) i < ia 41 i then ia 41 i else s_gr (ia 41) i)), (2, .int ((bx_sum (ia 41) i) + ((ia 41) i))), (6, .int (nI i)), (0, .ref (G.2.1 6)), (1, .int 1)]) (pc' := 89) C dX6_budget_87 (by decide) rfl rfl ?_
          refine z_iinc (v := nI (i + 1)) (k9 := 3) (lv' := [(6, .int (nI (i + 1))), (4, .long ((s_dq (ia 41) i) + ((((ia 41) i).toInt64) * (((ia 41) i).toInt64)))), (3, .int (if s_gr (ia 41) i < ia 41 i then ia 41 i else s_gr (ia 41) i)), (2, .int ((bx_sum (ia 41) i) + ((ia 41) i))), (0, .ref (G.2.1 6)), (1, .int 1)]) (pc' := 92) C dX6_budget_89 rfl (nI_1 i) (by decide) rfl rfl ?_
          refine z_goto (pc' := 25) C dX6_budget_92 rfl ?_
          exact z_cast rfl rfl rfl rfl rfl (ih25 (i + 1) (by omega) (by omega))
        refine z_icmp_le (pc' := 55) C 65 dX6_budget_52 rfl rfl (fun h_52 => ?_) (fun h_52 => ?_)
        · refine z_iload_n (pc' := 66) C dX6_budget_65 rfl 3 rfl rfl ?_
          exact z_cast rfl rfl rfl rfl (by first | rfl | (simp [← Int32.not_le, h_52])) J66
        · refine z_aload_n (pc' := 56) C dX6_budget_55 rfl 4 rfl rfl ?_
          refine z_get (pc' := 59) C hU6 6 (by decide) q_o6 rfl 24 (by decide) (by decide +kernel) (v := .ref (G.2.1 48)) rfl dX6_budget_56 rfl ?_
          refine z_iload (pc' := 61) C dX6_budget_59 1 rfl rfl ?_
          refine z_iald (pc' := 62) C 48 (by decide) (N := 18) (i := i) (f := ia 41) q_i41 (by omega) (by decide) dX6_budget_61 rfl ?_
          refine z_goto (pc' := 66) C dX6_budget_62 rfl ?_
          exact z_cast rfl rfl rfl rfl (by first | rfl | (simp [← Int32.not_le, h_52])) J66
  exact z_cast rfl rfl rfl rfl rfl (L25 (_ + 1) 0 (by omega) (Nat.lt_succ_self _))

set_option maxHeartbeats 4000000 in
set_option maxRecDepth 100000 in
theorem c_X6_sheet_row (l : Launch) (G : Gv) (sc : Sc) (ia : Ia) (la : La) (r c : Int32) (ho : s_out r 2 8 = true)  : Ct l yX6_sheet wsX6_sheet ({ frames := 7, cells := 0, slots := 0, locals := 250 }) G [.ref (G.2.1 6), .int r, .int c] sc ia la (fI (-102) sc ia la) := by
  refine z_of (maxL := 4) (own := RX6) [(0, .ref (G.2.1 6)), (1, .int r), (2, .int c)] rfl (by decide +kernel) rfl (Nat.le_of_ble_eq_true rfl) rfl (fun Z C E => ?_)
  refine z_iload_n (pc' := 1) C dX6_sheet_0 rfl 1 rfl rfl ?_
  refine z_i2l (pc' := 2) C dX6_sheet_1 rfl ?_
  refine z_ldc2 (v := 2) (pc' := 5) C (by decide +kernel) dX6_sheet_2 rfl ?_
  refine z_ldc2 (v := 8) (pc' := 8) C (by decide +kernel) dX6_sheet_5 rfl ?_
  refine z_cS (n := 3) (pc' := 11) (As := [.long r.toInt64, .long 2, .long 8]) (rest := []) C (c_X6_inB l G sc ia la r 2 8 2 8 rfl rfl false ho) gX6_sheet_X6_in rfl rfl rfl (by decide +kernel) (by decide) rfl rfl dX6_sheet_8 (Nat.le_of_ble_eq_true rfl) rfl (k_I ?_)
  show Z sc ia la [(0, .ref (G.2.1 6)), (1, .int r), (2, .int c)] 11 [.int 0]
  refine z_if_eq (pc' := 14) C 26 dX6_sheet_11 rfl rfl (fun h_11 => ?_) (fun h_11 => absurd h_11 (by decide))
  refine z_bipush (v := -102) (pc' := 28) C dX6_sheet_26 rfl rfl ?_
  exact z_iret (E := E) rfl dX6_sheet_28 ⟨(congrArg (fun z => some (Value.int z)) rfl), rfl, rfl, rfl⟩

set_option maxHeartbeats 4000000 in
set_option maxRecDepth 100000 in
theorem c_X6_sheet_col (l : Launch) (G : Gv) (sc : Sc) (ia : Ia) (la : La) (r c : Int32) (ho : s_out r 2 8 = false) (hp : s_out c 1 8 = true)  : Ct l yX6_sheet wsX6_sheet ({ frames := 7, cells := 0, slots := 0, locals := 250 }) G [.ref (G.2.1 6), .int r, .int c] sc ia la (fI (-102) sc ia la) := by
  refine z_of (maxL := 4) (own := RX6) [(0, .ref (G.2.1 6)), (1, .int r), (2, .int c)] rfl (by decide +kernel) rfl (Nat.le_of_ble_eq_true rfl) rfl (fun Z C E => ?_)
  refine z_iload_n (pc' := 1) C dX6_sheet_0 rfl 1 rfl rfl ?_
  refine z_i2l (pc' := 2) C dX6_sheet_1 rfl ?_
  refine z_ldc2 (v := 2) (pc' := 5) C (by decide +kernel) dX6_sheet_2 rfl ?_
  refine z_ldc2 (v := 8) (pc' := 8) C (by decide +kernel) dX6_sheet_5 rfl ?_
  refine z_cS (n := 3) (pc' := 11) (As := [.long r.toInt64, .long 2, .long 8]) (rest := []) C (c_X6_inB l G sc ia la r 2 8 2 8 rfl rfl true ho) gX6_sheet_X6_in rfl rfl rfl (by decide +kernel) (by decide) rfl rfl dX6_sheet_8 (Nat.le_of_ble_eq_true rfl) rfl (k_I ?_)
  show Z sc ia la [(0, .ref (G.2.1 6)), (1, .int r), (2, .int c)] 11 [.int 1]
  refine z_if_eq (pc' := 14) C 26 dX6_sheet_11 rfl rfl (fun h_11 => absurd h_11 (by decide)) (fun h_11 => ?_)
  refine z_iload_n (pc' := 15) C dX6_sheet_14 rfl 2 rfl rfl ?_
  refine z_i2l (pc' := 16) C dX6_sheet_15 rfl ?_
  refine z_lconst (v := 1) (pc' := 17) C dX6_sheet_16 rfl rfl ?_
  refine z_ldc2 (v := 8) (pc' := 20) C (by decide +kernel) dX6_sheet_17 rfl ?_
  refine z_cS (n := 3) (pc' := 23) (As := [.long c.toInt64, .long 1, .long 8]) (rest := []) C (c_X6_inB l G sc ia la c 1 8 1 8 rfl rfl false hp) gX6_sheet_X6_in rfl rfl rfl (by decide +kernel) (by decide) rfl rfl dX6_sheet_20 (Nat.le_of_ble_eq_true rfl) rfl (k_I ?_)
  show Z sc ia la [(0, .ref (G.2.1 6)), (1, .int r), (2, .int c)] 23 [.int 0]
  refine z_if_ne (pc' := 26) C 29 dX6_sheet_23 rfl rfl (fun h_23 => absurd h_23 (by decide)) (fun h_23 => ?_)
  refine z_bipush (v := -102) (pc' := 28) C dX6_sheet_26 rfl rfl ?_
  exact z_iret (E := E) rfl dX6_sheet_28 ⟨(congrArg (fun z => some (Value.int z)) rfl), rfl, rfl, rfl⟩

set_option maxHeartbeats 4000000 in
set_option maxRecDepth 100000 in
theorem c_X6_sheet_ok (l : Launch) (G : Gv) (sc : Sc) (ia : Ia) (la : La) (r c : Int32) (ho : s_out r 2 8 = false) (hp : s_out c 1 8 = false)  : Ct l yX6_sheet wsX6_sheet ({ frames := 7, cells := 0, slots := 0, locals := 250 }) G [.ref (G.2.1 6), .int r, .int c] sc ia la (fI (r * c) (va_up (va_up sc 10 r) 11 c) (va_up ia 38 (r_z (ia 38) 81)) la) := by
  have hU6 : ∀ w ∈ u_ws RX6 TX6 25, w ∈ wsX6_sheet := fun w h => List.mem_cons_of_mem _ (List.mem_append_right _ h)
  refine z_of (maxL := 4) (own := RX6) [(0, .ref (G.2.1 6)), (1, .int r), (2, .int c)] rfl (by decide +kernel) rfl (Nat.le_of_ble_eq_true rfl) rfl (fun Z C E => ?_)
  refine z_iload_n (pc' := 1) C dX6_sheet_0 rfl 1 rfl rfl ?_
  refine z_i2l (pc' := 2) C dX6_sheet_1 rfl ?_
  refine z_ldc2 (v := 2) (pc' := 5) C (by decide +kernel) dX6_sheet_2 rfl ?_
  refine z_ldc2 (v := 8) (pc' := 8) C (by decide +kernel) dX6_sheet_5 rfl ?_
  refine z_cS (n := 3) (pc' := 11) (As := [.long r.toInt64, .long 2, .long 8]) (rest := []) C (c_X6_inB l G sc ia la r 2 8 2 8 rfl rfl true ho) gX6_sheet_X6_in rfl rfl rfl (by decide +kernel) (by decide) rfl rfl dX6_sheet_8 (Nat.le_of_ble_eq_true rfl) rfl (k_I ?_)
  show Z sc ia la [(0, .ref (G.2.1 6)), (1, .int r), (2, .int c)] 11 [.int 1]
  refine z_if_eq (pc' := 14) C 26 dX6_sheet_11 rfl rfl (fun h_11 => absurd h_11 (by decide)) (fun h_11 => ?_)
  refine z_iload_n (pc' := 15) C dX6_sheet_14 rfl 2 rfl rfl ?_
  refine z_i2l (pc' := 16) C dX6_sheet_15 rfl ?_
  refine z_lconst (v := 1) (pc' := 17) C dX6_sheet_16 rfl rfl ?_
  refine z_ldc2 (v := 8) (pc' := 20) C (by decide +kernel) dX6_sheet_17 rfl ?_
  refine z_cS (n := 3) (pc' := 23) (As := [.long c.toInt64, .long 1, .long 8]) (rest := []) C (c_X6_inB l G sc ia la c 1 8 1 8 rfl rfl true hp) gX6_sheet_X6_in rfl rfl rfl (by decide +kernel) (by decide) rfl rfl dX6_sheet_20 (Nat.le_of_ble_eq_true rfl) rfl (k_I ?_)
  show Z sc ia la [(0, .ref (G.2.1 6)), (1, .int r), (2, .int c)] 23 [.int 1]
  refine z_if_ne (pc' := 26) C 29 dX6_sheet_23 rfl rfl (fun h_23 => ?_) (fun h_23 => absurd h_23 (by decide))
  refine z_aload_n (pc' := 30) C dX6_sheet_29 rfl 0 rfl rfl ?_
  refine z_iload_n (pc' := 31) C dX6_sheet_30 rfl 1 rfl rfl ?_
  refine z_put (pc' := 34) C hU6 tyX6 tyX6_ok nmX6 6 (by decide) q_o6 rfl 13 (by decide) (by decide +kernel) rfl rfl (Nat.le_of_ble_eq_true rfl) (q_s10 _) dX6_sheet_31 rfl ?_
  refine z_aload_n (pc' := 35) C dX6_sheet_34 rfl 0 rfl rfl ?_
  refine z_iload_n (pc' := 36) C dX6_sheet_35 rfl 2 rfl rfl ?_
  refine z_put (pc' := 39) C hU6 tyX6 tyX6_ok nmX6 6 (by decide) q_o6 rfl 14 (by decide) (by decide +kernel) rfl rfl (Nat.le_of_ble_eq_true rfl) (q_s11 _) dX6_sheet_36 rfl ?_
  refine z_iconst (v := 0) (pc' := 40) C dX6_sheet_39 rfl rfl ?_
  refine z_istore_n (lv' := [(3, .int 0), (0, .ref (G.2.1 6)), (1, .int r), (2, .int c)]) (pc' := 41) C dX6_sheet_40 rfl (by decide) rfl rfl ?_
  have L41 : ∀ (fuel : Nat) (k : Nat) (hk : k ≤ 81), 81 - k < fuel → Z (va_up (va_up sc 10 r) 11 c) (va_up ia 38 (r_z (ia 38) k)) la [(3, .int (nI k)), (0, .ref (G.2.1 6)), (1, .int r), (2, .int c)] 41 [] := by
    intro fuel
    induction fuel with
    | zero => intro k hk hm41; exact absurd hm41 (Nat.not_lt_zero _)
    | succ fuel ih41 =>
      intro k hk hm41
      refine z_iload_n (pc' := 42) C dX6_sheet_41 rfl 0 rfl rfl ?_
      refine z_bipush (v := 81) (pc' := 44) C dX6_sheet_42 rfl rfl ?_
      refine z_icmpN_ge (a := k) (b := 81) (pc' := 47) C 60 (by omega) (by omega) dX6_sheet_44 rfl rfl (fun h_44 => ?_) (fun h_44 => ?_)
      · refine z_iload_n (pc' := 61) C dX6_sheet_60 rfl 2 rfl rfl ?_
        refine z_iload_n (pc' := 62) C dX6_sheet_61 rfl 3 rfl rfl ?_
        refine z_imul (pc' := 63) C dX6_sheet_62 rfl ?_
        exact z_iret (E := E) rfl dX6_sheet_63 ⟨(congrArg (fun z => some (Value.int z)) rfl), rfl, (by first | rfl | (have e9 : k = 81 := (by omega); subst e9; rfl)), rfl⟩
      · refine z_aload_n (pc' := 48) C dX6_sheet_47 rfl 1 rfl rfl ?_
        refine z_get (pc' := 51) C hU6 6 (by decide) q_o6 rfl 15 (by decide) (by decide +kernel) (v := .ref (G.2.1 45)) rfl dX6_sheet_48 rfl ?_
        refine z_iload_n (pc' := 52) C dX6_sheet_51 rfl 0 rfl rfl ?_
        refine z_iconst (v := 0) (pc' := 53) C dX6_sheet_52 rfl rfl ?_
        refine z_iast (pc' := 54) C 45 (by decide) (N := 81) (i := k) (f := r_z (ia 38) k) q_i38 (by omega) (by decide) (q_uu38 _ _) dX6_sheet_53 rfl ?_
        refine z_iinc (v := nI (k + 1)) (k9 := 0) (lv' := [(3, .int (nI (k + 1))), (0, .ref (G.2.1 6)), (1, .int r), (2, .int c)]) (pc' := 57) C dX6_sheet_54 rfl (nI_1 k) (by decide) rfl rfl ?_
        refine z_goto (pc' := 41) C dX6_sheet_57 rfl ?_
        exact z_cast rfl rfl rfl rfl rfl (ih41 (k + 1) (by omega) (by omega))
  exact z_cast rfl (by first | rfl | (exact va_same _ 38)) rfl rfl rfl (L41 (_ + 1) 0 (by omega) (Nat.lt_succ_self _))

set_option maxHeartbeats 4000000 in
set_option maxRecDepth 100000 in
theorem c_X6_cell_no (l : Launch) (G : Gv) (sc : Sc) (ia : Ia) (la : La) (r c v : Int32) (ho : r_hold r c (sc 10) (sc 11) = false)  : Ct l yX6_cell wsX6_cell ({ frames := 7, cells := 0, slots := 0, locals := 250 }) G [.ref (G.2.1 6), .int r, .int c, .int v] sc ia la (fI (-10101) sc ia la) := by
  have hU6 : ∀ w ∈ u_ws RX6 TX6 25, w ∈ wsX6_cell := fun w h => List.mem_cons_of_mem _ (List.mem_append_right _ h)
  refine z_of (maxL := 5) (own := RX6) [(0, .ref (G.2.1 6)), (1, .int r), (2, .int c), (3, .int v)] rfl (by decide +kernel) rfl (Nat.le_of_ble_eq_true rfl) rfl (fun Z C E => ?_)
  refine z_iload_n (pc' := 1) C dX6_cell_0 rfl 1 rfl rfl ?_
  refine z_i2l (pc' := 2) C dX6_cell_1 rfl ?_
  refine z_lconst (v := 0) (pc' := 3) C dX6_cell_2 rfl rfl ?_
  refine z_aload_n (pc' := 4) C dX6_cell_3 rfl 0 rfl rfl ?_
  refine z_get (pc' := 7) C hU6 6 (by decide) q_o6 rfl 13 (by decide) (by decide +kernel) (v := .int (sc 10)) rfl dX6_cell_4 rfl ?_
  refine z_i2l (pc' := 8) C dX6_cell_7 rfl ?_
  refine z_cS (n := 3) (pc' := 11) (As := [.long r.toInt64, .long 0, .long ((sc 10).toInt64)]) (rest := []) C (c_X6_in l G sc ia la r.toInt64 0 ((sc 10).toInt64)) gX6_cell_X6_in rfl rfl rfl (by decide +kernel) (by decide) rfl rfl dX6_cell_8 (Nat.le_of_ble_eq_true rfl) rfl (k_I ?_)
  show Z sc ia la [(0, .ref (G.2.1 6)), (1, .int r), (2, .int c), (3, .int v)] 11 [.int (bI (r_in r.toInt64 0 ((sc 10).toInt64)))]
  refine z_ifB_eq (pc' := 14) C 44 dX6_cell_11 rfl rfl (fun h_11 => ?_) (fun h_11 => ?_)
  · refine z_sipush (v := -10101) (pc' := 47) C dX6_cell_44 rfl rfl ?_
    exact z_iret (E := E) rfl dX6_cell_47 ⟨(congrArg (fun z => some (Value.int z)) rfl), rfl, rfl, rfl⟩
  · refine z_iload_n (pc' := 15) C dX6_cell_14 rfl 2 rfl rfl ?_
    refine z_i2l (pc' := 16) C dX6_cell_15 rfl ?_
    refine z_lconst (v := 0) (pc' := 17) C dX6_cell_16 rfl rfl ?_
    refine z_aload_n (pc' := 18) C dX6_cell_17 rfl 0 rfl rfl ?_
    refine z_get (pc' := 21) C hU6 6 (by decide) q_o6 rfl 14 (by decide) (by decide +kernel) (v := .int (sc 11)) rfl dX6_cell_18 rfl ?_
    refine z_i2l (pc' := 22) C dX6_cell_21 rfl ?_
    refine z_cS (n := 3) (pc' := 25) (As := [.long c.toInt64, .long 0, .long ((sc 11).toInt64)]) (rest := []) C (c_X6_in l G sc ia la c.toInt64 0 ((sc 11).toInt64)) gX6_cell_X6_in rfl rfl rfl (by decide +kernel) (by decide) rfl rfl dX6_cell_22 (Nat.le_of_ble_eq_true rfl) rfl (k_I ?_)
    show Z sc ia la [(0, .ref (G.2.1 6)), (1, .int r), (2, .int c), (3, .int v)] 25 [.int (bI (r_in c.toInt64 0 ((sc 11).toInt64)))]
    refine z_ifB_eq (pc' := 28) C 44 dX6_cell_25 rfl rfl (fun h_25 => ?_) (fun h_25 => ?_)
    · refine z_sipush (v := -10101) (pc' := 47) C dX6_cell_44 rfl rfl ?_
      exact z_iret (E := E) rfl dX6_cell_47 ⟨(congrArg (fun z => some (Value.int z)) rfl), rfl, rfl, rfl⟩
    · refine z_iload_n (pc' := 29) C dX6_cell_28 rfl 1 rfl rfl ?_
      refine z_aload_n (pc' := 30) C dX6_cell_29 rfl 0 rfl rfl ?_
      refine z_get (pc' := 33) C hU6 6 (by decide) q_o6 rfl 13 (by decide) (by decide +kernel) (v := .int (sc 10)) rfl dX6_cell_30 rfl ?_
      refine z_icmp_ne (pc' := 36) C 48 dX6_cell_33 rfl rfl (fun h_33 => absurd h_33 (by intro q; have z9 : r_hold r c (sc 10) (sc 11) = true := (by unfold r_hold; rw [h_11, h_25]; simp [q]); rw [z9] at ho; exact absurd ho (by decide))) (fun h_33 => ?_)
      refine z_iload_n (pc' := 37) C dX6_cell_36 rfl 2 rfl rfl ?_
      refine z_aload_n (pc' := 38) C dX6_cell_37 rfl 0 rfl rfl ?_
      refine z_get (pc' := 41) C hU6 6 (by decide) q_o6 rfl 14 (by decide) (by decide +kernel) (v := .int (sc 11)) rfl dX6_cell_38 rfl ?_
      refine z_icmp_ne (pc' := 44) C 48 dX6_cell_41 rfl rfl (fun h_41 => absurd h_41 (by intro q; have z9 : r_hold r c (sc 10) (sc 11) = true := (by unfold r_hold; rw [h_11, h_25]; simp [q]); rw [z9] at ho; exact absurd ho (by decide))) (fun h_41 => ?_)
      refine z_sipush (v := -10101) (pc' := 47) C dX6_cell_44 rfl rfl ?_
      exact z_iret (E := E) rfl dX6_cell_47 ⟨(congrArg (fun z => some (Value.int z)) rfl), rfl, rfl, rfl⟩

set_option maxHeartbeats 4000000 in
set_option maxRecDepth 100000 in
theorem c_X6_cell_out (l : Launch) (G : Gv) (sc : Sc) (ia : Ia) (la : La) (R K : Nat) (hR : sc 10 = nI R) (hC : sc 11 = nI K) (hR1 : 1 ≤ R) (hR8 : R ≤ 8) (hK1 : 1 ≤ K) (hC8 : K ≤ 8) (a b : Nat) (ha : a ≤ R) (hb : b ≤ K) (hab : ¬ (a = R ∧ b = K)) (v : Int32) (ho : s_out v (-1000) 1000 = true)  : Ct l yX6_cell wsX6_cell ({ frames := 7, cells := 0, slots := 0, locals := 250 }) G [.ref (G.2.1 6), .int (nI a), .int (nI b), .int v] sc ia la (fI (-10102) sc ia la) := by
  have hU6 : ∀ w ∈ u_ws RX6 TX6 25, w ∈ wsX6_cell := fun w h => List.mem_cons_of_mem _ (List.mem_append_right _ h)
  refine z_of (maxL := 5) (own := RX6) [(0, .ref (G.2.1 6)), (1, .int (nI a)), (2, .int (nI b)), (3, .int v)] rfl (by decide +kernel) rfl (Nat.le_of_ble_eq_true rfl) rfl (fun Z C E => ?_)
  refine z_iload_n (pc' := 1) C dX6_cell_0 rfl 1 rfl rfl ?_
  refine z_i2l (pc' := 2) C dX6_cell_1 rfl ?_
  refine z_lconst (v := 0) (pc' := 3) C dX6_cell_2 rfl rfl ?_
  refine z_aload_n (pc' := 4) C dX6_cell_3 rfl 0 rfl rfl ?_
  refine z_get (pc' := 7) C hU6 6 (by decide) q_o6 rfl 13 (by decide) (by decide +kernel) (v := .int (sc 10)) rfl dX6_cell_4 rfl ?_
  refine z_cast (st' := [.int (nI R), .long 0, .long ((nI a).toInt64)]) rfl rfl rfl rfl (congrArg (fun z => Value.int z :: [.long 0, .long ((nI a).toInt64)]) hR) ?_
  refine z_i2l (pc' := 8) C dX6_cell_7 rfl ?_
  refine z_cS (n := 3) (pc' := 11) (As := [.long ((nI a).toInt64), .long 0, .long ((nI R).toInt64)]) (rest := []) C (c_X6_inB l G sc ia la (nI a) 0 (nI R) 0 ((nI R).toInt64) rfl rfl true (s_out_ok (by omega) (by omega))) gX6_cell_X6_in rfl rfl rfl (by decide +kernel) (by decide) rfl rfl dX6_cell_8 (Nat.le_of_ble_eq_true rfl) rfl (k_I ?_)
  show Z sc ia la [(0, .ref (G.2.1 6)), (1, .int (nI a)), (2, .int (nI b)), (3, .int v)] 11 [.int 1]
  refine z_if_eq (pc' := 14) C 44 dX6_cell_11 rfl rfl (fun h_11 => absurd h_11 (by decide)) (fun h_11 => ?_)
  refine z_iload_n (pc' := 15) C dX6_cell_14 rfl 2 rfl rfl ?_
  refine z_i2l (pc' := 16) C dX6_cell_15 rfl ?_
  refine z_lconst (v := 0) (pc' := 17) C dX6_cell_16 rfl rfl ?_
  refine z_aload_n (pc' := 18) C dX6_cell_17 rfl 0 rfl rfl ?_
  refine z_get (pc' := 21) C hU6 6 (by decide) q_o6 rfl 14 (by decide) (by decide +kernel) (v := .int (sc 11)) rfl dX6_cell_18 rfl ?_
  refine z_cast (st' := [.int (nI K), .long 0, .long ((nI b).toInt64)]) rfl rfl rfl rfl (congrArg (fun z => Value.int z :: [.long 0, .long ((nI b).toInt64)]) hC) ?_
  refine z_i2l (pc' := 22) C dX6_cell_21 rfl ?_
  refine z_cS (n := 3) (pc' := 25) (As := [.long ((nI b).toInt64), .long 0, .long ((nI K).toInt64)]) (rest := []) C (c_X6_inB l G sc ia la (nI b) 0 (nI K) 0 ((nI K).toInt64) rfl rfl true (s_out_ok (by omega) (by omega))) gX6_cell_X6_in rfl rfl rfl (by decide +kernel) (by decide) rfl rfl dX6_cell_22 (Nat.le_of_ble_eq_true rfl) rfl (k_I ?_)
  show Z sc ia la [(0, .ref (G.2.1 6)), (1, .int (nI a)), (2, .int (nI b)), (3, .int v)] 25 [.int 1]
  refine z_if_eq (pc' := 28) C 44 dX6_cell_25 rfl rfl (fun h_25 => absurd h_25 (by decide)) (fun h_25 => ?_)
  refine z_iload_n (pc' := 29) C dX6_cell_28 rfl 1 rfl rfl ?_
  refine z_aload_n (pc' := 30) C dX6_cell_29 rfl 0 rfl rfl ?_
  refine z_get (pc' := 33) C hU6 6 (by decide) q_o6 rfl 13 (by decide) (by decide +kernel) (v := .int (sc 10)) rfl dX6_cell_30 rfl ?_
  refine z_cast (st' := [.int (nI R), .int (nI a)]) rfl rfl rfl rfl (congrArg (fun z => Value.int z :: [.int (nI a)]) hR) ?_
  refine z_icmpN_ne (a := a) (b := R) (pc' := 36) C 48 (by omega) (by omega) dX6_cell_33 rfl rfl (fun h_33 => ?_) (fun h_33 => ?_)
  · refine z_iload_n (pc' := 49) C dX6_cell_48 rfl 3 rfl rfl ?_
    refine z_i2l (pc' := 50) C dX6_cell_49 rfl ?_
    refine z_ldc2 (v := -1000) (pc' := 53) C (by decide +kernel) dX6_cell_50 rfl ?_
    refine z_ldc2 (v := 1000) (pc' := 56) C (by decide +kernel) dX6_cell_53 rfl ?_
    refine z_cS (n := 3) (pc' := 59) (As := [.long v.toInt64, .long (-1000), .long 1000]) (rest := []) C (c_X6_inB l G sc ia la v (-1000) 1000 (-1000) 1000 rfl rfl false ho) gX6_cell_X6_in rfl rfl rfl (by decide +kernel) (by decide) rfl rfl dX6_cell_56 (Nat.le_of_ble_eq_true rfl) rfl (k_I ?_)
    show Z sc ia la [(0, .ref (G.2.1 6)), (1, .int (nI a)), (2, .int (nI b)), (3, .int v)] 59 [.int 0]
    refine z_if_ne (pc' := 62) C 66 dX6_cell_59 rfl rfl (fun h_59 => absurd h_59 (by decide)) (fun h_59 => ?_)
    refine z_sipush (v := -10102) (pc' := 65) C dX6_cell_62 rfl rfl ?_
    exact z_iret (E := E) rfl dX6_cell_65 ⟨(congrArg (fun z => some (Value.int z)) rfl), rfl, rfl, rfl⟩
  · refine z_iload_n (pc' := 37) C dX6_cell_36 rfl 2 rfl rfl ?_
    refine z_aload_n (pc' := 38) C dX6_cell_37 rfl 0 rfl rfl ?_
    refine z_get (pc' := 41) C hU6 6 (by decide) q_o6 rfl 14 (by decide) (by decide +kernel) (v := .int (sc 11)) rfl dX6_cell_38 rfl ?_
    refine z_cast (st' := [.int (nI K), .int (nI b)]) rfl rfl rfl rfl (congrArg (fun z => Value.int z :: [.int (nI b)]) hC) ?_
    refine z_icmpN_ne (a := b) (b := K) (pc' := 44) C 48 (by omega) (by omega) dX6_cell_41 rfl rfl (fun h_41 => ?_) (fun h_41 => absurd h_41 (by exact fun q => hab ⟨h_33, q⟩))
    refine z_iload_n (pc' := 49) C dX6_cell_48 rfl 3 rfl rfl ?_
    refine z_i2l (pc' := 50) C dX6_cell_49 rfl ?_
    refine z_ldc2 (v := -1000) (pc' := 53) C (by decide +kernel) dX6_cell_50 rfl ?_
    refine z_ldc2 (v := 1000) (pc' := 56) C (by decide +kernel) dX6_cell_53 rfl ?_
    refine z_cS (n := 3) (pc' := 59) (As := [.long v.toInt64, .long (-1000), .long 1000]) (rest := []) C (c_X6_inB l G sc ia la v (-1000) 1000 (-1000) 1000 rfl rfl false ho) gX6_cell_X6_in rfl rfl rfl (by decide +kernel) (by decide) rfl rfl dX6_cell_56 (Nat.le_of_ble_eq_true rfl) rfl (k_I ?_)
    show Z sc ia la [(0, .ref (G.2.1 6)), (1, .int (nI a)), (2, .int (nI b)), (3, .int v)] 59 [.int 0]
    refine z_if_ne (pc' := 62) C 66 dX6_cell_59 rfl rfl (fun h_59 => absurd h_59 (by decide)) (fun h_59 => ?_)
    refine z_sipush (v := -10102) (pc' := 65) C dX6_cell_62 rfl rfl ?_
    exact z_iret (E := E) rfl dX6_cell_65 ⟨(congrArg (fun z => some (Value.int z)) rfl), rfl, rfl, rfl⟩

set_option maxHeartbeats 4000000 in
set_option maxRecDepth 100000 in
theorem c_X6_cell_ok (l : Launch) (G : Gv) (sc : Sc) (ia : Ia) (la : La) (R K : Nat) (hR : sc 10 = nI R) (hC : sc 11 = nI K) (hR1 : 1 ≤ R) (hR8 : R ≤ 8) (hK1 : 1 ≤ K) (hC8 : K ≤ 8) (a b : Nat) (ha : a ≤ R) (hb : b ≤ K) (hab : ¬ (a = R ∧ b = K)) (v : Int32) (ho : s_out v (-1000) 1000 = false)  : Ct l yX6_cell wsX6_cell ({ frames := 7, cells := 0, slots := 0, locals := 250 }) G [.ref (G.2.1 6), .int (nI a), .int (nI b), .int v] sc ia la (fI (ia 38 (9 * a + b)) sc (va_up ia 38 (upd (ia 38) (9 * a + b) v)) la) := by
  have hU6 : ∀ w ∈ u_ws RX6 TX6 25, w ∈ wsX6_cell := fun w h => List.mem_cons_of_mem _ (List.mem_append_right _ h)
  refine z_of (maxL := 5) (own := RX6) [(0, .ref (G.2.1 6)), (1, .int (nI a)), (2, .int (nI b)), (3, .int v)] rfl (by decide +kernel) rfl (Nat.le_of_ble_eq_true rfl) rfl (fun Z C E => ?_)
  refine z_iload_n (pc' := 1) C dX6_cell_0 rfl 1 rfl rfl ?_
  refine z_i2l (pc' := 2) C dX6_cell_1 rfl ?_
  refine z_lconst (v := 0) (pc' := 3) C dX6_cell_2 rfl rfl ?_
  refine z_aload_n (pc' := 4) C dX6_cell_3 rfl 0 rfl rfl ?_
  refine z_get (pc' := 7) C hU6 6 (by decide) q_o6 rfl 13 (by decide) (by decide +kernel) (v := .int (sc 10)) rfl dX6_cell_4 rfl ?_
  refine z_cast (st' := [.int (nI R), .long 0, .long ((nI a).toInt64)]) rfl rfl rfl rfl (congrArg (fun z => Value.int z :: [.long 0, .long ((nI a).toInt64)]) hR) ?_
  refine z_i2l (pc' := 8) C dX6_cell_7 rfl ?_
  refine z_cS (n := 3) (pc' := 11) (As := [.long ((nI a).toInt64), .long 0, .long ((nI R).toInt64)]) (rest := []) C (c_X6_inB l G sc ia la (nI a) 0 (nI R) 0 ((nI R).toInt64) rfl rfl true (s_out_ok (by omega) (by omega))) gX6_cell_X6_in rfl rfl rfl (by decide +kernel) (by decide) rfl rfl dX6_cell_8 (Nat.le_of_ble_eq_true rfl) rfl (k_I ?_)
  show Z sc ia la [(0, .ref (G.2.1 6)), (1, .int (nI a)), (2, .int (nI b)), (3, .int v)] 11 [.int 1]
  refine z_if_eq (pc' := 14) C 44 dX6_cell_11 rfl rfl (fun h_11 => absurd h_11 (by decide)) (fun h_11 => ?_)
  refine z_iload_n (pc' := 15) C dX6_cell_14 rfl 2 rfl rfl ?_
  refine z_i2l (pc' := 16) C dX6_cell_15 rfl ?_
  refine z_lconst (v := 0) (pc' := 17) C dX6_cell_16 rfl rfl ?_
  refine z_aload_n (pc' := 18) C dX6_cell_17 rfl 0 rfl rfl ?_
  refine z_get (pc' := 21) C hU6 6 (by decide) q_o6 rfl 14 (by decide) (by decide +kernel) (v := .int (sc 11)) rfl dX6_cell_18 rfl ?_
  refine z_cast (st' := [.int (nI K), .long 0, .long ((nI b).toInt64)]) rfl rfl rfl rfl (congrArg (fun z => Value.int z :: [.long 0, .long ((nI b).toInt64)]) hC) ?_
  refine z_i2l (pc' := 22) C dX6_cell_21 rfl ?_
  refine z_cS (n := 3) (pc' := 25) (As := [.long ((nI b).toInt64), .long 0, .long ((nI K).toInt64)]) (rest := []) C (c_X6_inB l G sc ia la (nI b) 0 (nI K) 0 ((nI K).toInt64) rfl rfl true (s_out_ok (by omega) (by omega))) gX6_cell_X6_in rfl rfl rfl (by decide +kernel) (by decide) rfl rfl dX6_cell_22 (Nat.le_of_ble_eq_true rfl) rfl (k_I ?_)
  show Z sc ia la [(0, .ref (G.2.1 6)), (1, .int (nI a)), (2, .int (nI b)), (3, .int v)] 25 [.int 1]
  refine z_if_eq (pc' := 28) C 44 dX6_cell_25 rfl rfl (fun h_25 => absurd h_25 (by decide)) (fun h_25 => ?_)
  refine z_iload_n (pc' := 29) C dX6_cell_28 rfl 1 rfl rfl ?_
  refine z_aload_n (pc' := 30) C dX6_cell_29 rfl 0 rfl rfl ?_
  refine z_get (pc' := 33) C hU6 6 (by decide) q_o6 rfl 13 (by decide) (by decide +kernel) (v := .int (sc 10)) rfl dX6_cell_30 rfl ?_
  refine z_cast (st' := [.int (nI R), .int (nI a)]) rfl rfl rfl rfl (congrArg (fun z => Value.int z :: [.int (nI a)]) hR) ?_
  refine z_icmpN_ne (a := a) (b := R) (pc' := 36) C 48 (by omega) (by omega) dX6_cell_33 rfl rfl (fun h_33 => ?_) (fun h_33 => ?_)
  · refine z_iload_n (pc' := 49) C dX6_cell_48 rfl 3 rfl rfl ?_
    refine z_i2l (pc' := 50) C dX6_cell_49 rfl ?_
    refine z_ldc2 (v := -1000) (pc' := 53) C (by decide +kernel) dX6_cell_50 rfl ?_
    refine z_ldc2 (v := 1000) (pc' := 56) C (by decide +kernel) dX6_cell_53 rfl ?_
    refine z_cS (n := 3) (pc' := 59) (As := [.long v.toInt64, .long (-1000), .long 1000]) (rest := []) C (c_X6_inB l G sc ia la v (-1000) 1000 (-1000) 1000 rfl rfl true ho) gX6_cell_X6_in rfl rfl rfl (by decide +kernel) (by decide) rfl rfl dX6_cell_56 (Nat.le_of_ble_eq_true rfl) rfl (k_I ?_)
    show Z sc ia la [(0, .ref (G.2.1 6)), (1, .int (nI a)), (2, .int (nI b)), (3, .int v)] 59 [.int 1]
    refine z_if_ne (pc' := 62) C 66 dX6_cell_59 rfl rfl (fun h_59 => ?_) (fun h_59 => absurd h_59 (by decide))
    refine z_aload_n (pc' := 67) C dX6_cell_66 rfl 0 rfl rfl ?_
    refine z_get (pc' := 70) C hU6 6 (by decide) q_o6 rfl 15 (by decide) (by decide +kernel) (v := .ref (G.2.1 45)) rfl dX6_cell_67 rfl ?_
    refine z_bipush (v := 9) (pc' := 72) C dX6_cell_70 rfl rfl ?_
    refine z_iload_n (pc' := 73) C dX6_cell_72 rfl 1 rfl rfl ?_
    refine z_imul (pc' := 74) C dX6_cell_73 rfl ?_
    refine z_cast (st' := [.int (nI (9 * a)), .ref (G.2.1 45)]) rfl rfl rfl rfl (congrArg (fun z => Value.int z :: [.ref (G.2.1 45)]) (pk_mul _ _)) ?_
    refine z_iload_n (pc' := 75) C dX6_cell_74 rfl 2 rfl rfl ?_
    refine z_iadd (pc' := 76) C dX6_cell_75 rfl ?_
    refine z_cast (st' := [.int (nI (9 * a + b)), .ref (G.2.1 45)]) rfl rfl rfl rfl (congrArg (fun z => Value.int z :: [.ref (G.2.1 45)]) (nI_add _ _)) ?_
    refine z_iald (pc' := 77) C 45 (by decide) (N := 81) (i := 9 * a + b) (f := ia 38) q_i38 (by omega) (by decide) dX6_cell_76 rfl ?_
    refine z_istore (lv' := [(4, .int ((ia 38) (9 * a + b))), (0, .ref (G.2.1 6)), (1, .int (nI a)), (2, .int (nI b)), (3, .int v)]) (pc' := 79) C dX6_cell_77 (by decide) rfl rfl ?_
    refine z_aload_n (pc' := 80) C dX6_cell_79 rfl 1 rfl rfl ?_
    refine z_get (pc' := 83) C hU6 6 (by decide) q_o6 rfl 15 (by decide) (by decide +kernel) (v := .ref (G.2.1 45)) rfl dX6_cell_80 rfl ?_
    refine z_bipush (v := 9) (pc' := 85) C dX6_cell_83 rfl rfl ?_
    refine z_iload_n (pc' := 86) C dX6_cell_85 rfl 2 rfl rfl ?_
    refine z_imul (pc' := 87) C dX6_cell_86 rfl ?_
    refine z_cast (st' := [.int (nI (9 * a)), .ref (G.2.1 45)]) rfl rfl rfl rfl (congrArg (fun z => Value.int z :: [.ref (G.2.1 45)]) (pk_mul _ _)) ?_
    refine z_iload_n (pc' := 88) C dX6_cell_87 rfl 3 rfl rfl ?_
    refine z_iadd (pc' := 89) C dX6_cell_88 rfl ?_
    refine z_cast (st' := [.int (nI (9 * a + b)), .ref (G.2.1 45)]) rfl rfl rfl rfl (congrArg (fun z => Value.int z :: [.ref (G.2.1 45)]) (nI_add _ _)) ?_
    refine z_iload_n (pc' := 90) C dX6_cell_89 rfl 4 rfl rfl ?_
    refine z_iast (pc' := 91) C 45 (by decide) (N := 81) (i := 9 * a + b) (f := ia 38) q_i38 (by omega) (by decide) (q_u38 _) dX6_cell_90 rfl ?_
    refine z_iload (pc' := 93) C dX6_cell_91 0 rfl rfl ?_
    exact z_iret (E := E) rfl dX6_cell_93 ⟨(congrArg (fun z => some (Value.int z)) rfl), rfl, rfl, rfl⟩
  · refine z_iload_n (pc' := 37) C dX6_cell_36 rfl 2 rfl rfl ?_
    refine z_aload_n (pc' := 38) C dX6_cell_37 rfl 0 rfl rfl ?_
    refine z_get (pc' := 41) C hU6 6 (by decide) q_o6 rfl 14 (by decide) (by decide +kernel) (v := .int (sc 11)) rfl dX6_cell_38 rfl ?_
    refine z_cast (st' := [.int (nI K), .int (nI b)]) rfl rfl rfl rfl (congrArg (fun z => Value.int z :: [.int (nI b)]) hC) ?_
    refine z_icmpN_ne (a := b) (b := K) (pc' := 44) C 48 (by omega) (by omega) dX6_cell_41 rfl rfl (fun h_41 => ?_) (fun h_41 => absurd h_41 (by exact fun q => hab ⟨h_33, q⟩))
    refine z_iload_n (pc' := 49) C dX6_cell_48 rfl 3 rfl rfl ?_
    refine z_i2l (pc' := 50) C dX6_cell_49 rfl ?_
    refine z_ldc2 (v := -1000) (pc' := 53) C (by decide +kernel) dX6_cell_50 rfl ?_
    refine z_ldc2 (v := 1000) (pc' := 56) C (by decide +kernel) dX6_cell_53 rfl ?_
    refine z_cS (n := 3) (pc' := 59) (As := [.long v.toInt64, .long (-1000), .long 1000]) (rest := []) C (c_X6_inB l G sc ia la v (-1000) 1000 (-1000) 1000 rfl rfl true ho) gX6_cell_X6_in rfl rfl rfl (by decide +kernel) (by decide) rfl rfl dX6_cell_56 (Nat.le_of_ble_eq_true rfl) rfl (k_I ?_)
    show Z sc ia la [(0, .ref (G.2.1 6)), (1, .int (nI a)), (2, .int (nI b)), (3, .int v)] 59 [.int 1]
    refine z_if_ne (pc' := 62) C 66 dX6_cell_59 rfl rfl (fun h_59 => ?_) (fun h_59 => absurd h_59 (by decide))
    refine z_aload_n (pc' := 67) C dX6_cell_66 rfl 0 rfl rfl ?_
    refine z_get (pc' := 70) C hU6 6 (by decide) q_o6 rfl 15 (by decide) (by decide +kernel) (v := .ref (G.2.1 45)) rfl dX6_cell_67 rfl ?_
    refine z_bipush (v := 9) (pc' := 72) C dX6_cell_70 rfl rfl ?_
    refine z_iload_n (pc' := 73) C dX6_cell_72 rfl 1 rfl rfl ?_
    refine z_imul (pc' := 74) C dX6_cell_73 rfl ?_
    refine z_cast (st' := [.int (nI (9 * a)), .ref (G.2.1 45)]) rfl rfl rfl rfl (congrArg (fun z => Value.int z :: [.ref (G.2.1 45)]) (pk_mul _ _)) ?_
    refine z_iload_n (pc' := 75) C dX6_cell_74 rfl 2 rfl rfl ?_
    refine z_iadd (pc' := 76) C dX6_cell_75 rfl ?_
    refine z_cast (st' := [.int (nI (9 * a + b)), .ref (G.2.1 45)]) rfl rfl rfl rfl (congrArg (fun z => Value.int z :: [.ref (G.2.1 45)]) (nI_add _ _)) ?_
    refine z_iald (pc' := 77) C 45 (by decide) (N := 81) (i := 9 * a + b) (f := ia 38) q_i38 (by omega) (by decide) dX6_cell_76 rfl ?_
    refine z_istore (lv' := [(4, .int ((ia 38) (9 * a + b))), (0, .ref (G.2.1 6)), (1, .int (nI a)), (2, .int (nI b)), (3, .int v)]) (pc' := 79) C dX6_cell_77 (by decide) rfl rfl ?_
    refine z_aload_n (pc' := 80) C dX6_cell_79 rfl 1 rfl rfl ?_
    refine z_get (pc' := 83) C hU6 6 (by decide) q_o6 rfl 15 (by decide) (by decide +kernel) (v := .ref (G.2.1 45)) rfl dX6_cell_80 rfl ?_
    refine z_bipush (v := 9) (pc' := 85) C dX6_cell_83 rfl rfl ?_
    refine z_iload_n (pc' := 86) C dX6_cell_85 rfl 2 rfl rfl ?_
    refine z_imul (pc' := 87) C dX6_cell_86 rfl ?_
    refine z_cast (st' := [.int (nI (9 * a)), .ref (G.2.1 45)]) rfl rfl rfl rfl (congrArg (fun z => Value.int z :: [.ref (G.2.1 45)]) (pk_mul _ _)) ?_
    refine z_iload_n (pc' := 88) C dX6_cell_87 rfl 3 rfl rfl ?_
    refine z_iadd (pc' := 89) C dX6_cell_88 rfl ?_
    refine z_cast (st' := [.int (nI (9 * a + b)), .ref (G.2.1 45)]) rfl rfl rfl rfl (congrArg (fun z => Value.int z :: [.ref (G.2.1 45)]) (nI_add _ _)) ?_
    refine z_iload_n (pc' := 90) C dX6_cell_89 rfl 4 rfl rfl ?_
    refine z_iast (pc' := 91) C 45 (by decide) (N := 81) (i := 9 * a + b) (f := ia 38) q_i38 (by omega) (by decide) (q_u38 _) dX6_cell_90 rfl ?_
    refine z_iload (pc' := 93) C dX6_cell_91 0 rfl rfl ?_
    exact z_iret (E := E) rfl dX6_cell_93 ⟨(congrArg (fun z => some (Value.int z)) rfl), rfl, rfl, rfl⟩

set_option maxHeartbeats 4000000 in
set_option maxRecDepth 100000 in
theorem c_X6_closed_row (l : Launch) (G : Gv) (sc : Sc) (ia : Ia) (la : La) (r c : Int32) (ho : s_out r 0 (sc 10) = true)  : Ct l yX6_closed wsX6_closed ({ frames := 7, cells := 0, slots := 0, locals := 250 }) G [.ref (G.2.1 6), .int r, .int c] sc ia la (fI (-10101) sc ia la) := by
  have hU6 : ∀ w ∈ u_ws RX6 TX6 25, w ∈ wsX6_closed := fun w h => List.mem_cons_of_mem _ (List.mem_append_right _ h)
  refine z_of (maxL := 4) (own := RX6) [(0, .ref (G.2.1 6)), (1, .int r), (2, .int c)] rfl (by decide +kernel) rfl (Nat.le_of_ble_eq_true rfl) rfl (fun Z C E => ?_)
  refine z_iload_n (pc' := 1) C dX6_closed_0 rfl 1 rfl rfl ?_
  refine z_i2l (pc' := 2) C dX6_closed_1 rfl ?_
  refine z_lconst (v := 0) (pc' := 3) C dX6_closed_2 rfl rfl ?_
  refine z_aload_n (pc' := 4) C dX6_closed_3 rfl 0 rfl rfl ?_
  refine z_get (pc' := 7) C hU6 6 (by decide) q_o6 rfl 13 (by decide) (by decide +kernel) (v := .int (sc 10)) rfl dX6_closed_4 rfl ?_
  refine z_i2l (pc' := 8) C dX6_closed_7 rfl ?_
  refine z_cS (n := 3) (pc' := 11) (As := [.long r.toInt64, .long 0, .long ((sc 10).toInt64)]) (rest := []) C (c_X6_inB l G sc ia la r 0 (sc 10) 0 ((sc 10).toInt64) rfl rfl false ho) gX6_closed_X6_in rfl rfl rfl (by decide +kernel) (by decide) rfl rfl dX6_closed_8 (Nat.le_of_ble_eq_true rfl) rfl (k_I ?_)
  show Z sc ia la [(0, .ref (G.2.1 6)), (1, .int r), (2, .int c)] 11 [.int 0]
  refine z_if_eq (pc' := 14) C 30 dX6_closed_11 rfl rfl (fun h_11 => ?_) (fun h_11 => absurd h_11 (by decide))
  refine z_sipush (v := -10101) (pc' := 33) C dX6_closed_30 rfl rfl ?_
  exact z_iret (E := E) rfl dX6_closed_33 ⟨(congrArg (fun z => some (Value.int z)) rfl), rfl, rfl, rfl⟩

set_option maxHeartbeats 4000000 in
set_option maxRecDepth 100000 in
theorem c_X6_closed_col (l : Launch) (G : Gv) (sc : Sc) (ia : Ia) (la : La) (r c : Int32) (ho : s_out r 0 (sc 10) = false) (hp : s_out c 0 (sc 11 - 1) = true)  : Ct l yX6_closed wsX6_closed ({ frames := 7, cells := 0, slots := 0, locals := 250 }) G [.ref (G.2.1 6), .int r, .int c] sc ia la (fI (-10101) sc ia la) := by
  have hU6 : ∀ w ∈ u_ws RX6 TX6 25, w ∈ wsX6_closed := fun w h => List.mem_cons_of_mem _ (List.mem_append_right _ h)
  refine z_of (maxL := 4) (own := RX6) [(0, .ref (G.2.1 6)), (1, .int r), (2, .int c)] rfl (by decide +kernel) rfl (Nat.le_of_ble_eq_true rfl) rfl (fun Z C E => ?_)
  refine z_iload_n (pc' := 1) C dX6_closed_0 rfl 1 rfl rfl ?_
  refine z_i2l (pc' := 2) C dX6_closed_1 rfl ?_
  refine z_lconst (v := 0) (pc' := 3) C dX6_closed_2 rfl rfl ?_
  refine z_aload_n (pc' := 4) C dX6_closed_3 rfl 0 rfl rfl ?_
  refine z_get (pc' := 7) C hU6 6 (by decide) q_o6 rfl 13 (by decide) (by decide +kernel) (v := .int (sc 10)) rfl dX6_closed_4 rfl ?_
  refine z_i2l (pc' := 8) C dX6_closed_7 rfl ?_
  refine z_cS (n := 3) (pc' := 11) (As := [.long r.toInt64, .long 0, .long ((sc 10).toInt64)]) (rest := []) C (c_X6_inB l G sc ia la r 0 (sc 10) 0 ((sc 10).toInt64) rfl rfl true ho) gX6_closed_X6_in rfl rfl rfl (by decide +kernel) (by decide) rfl rfl dX6_closed_8 (Nat.le_of_ble_eq_true rfl) rfl (k_I ?_)
  show Z sc ia la [(0, .ref (G.2.1 6)), (1, .int r), (2, .int c)] 11 [.int 1]
  refine z_if_eq (pc' := 14) C 30 dX6_closed_11 rfl rfl (fun h_11 => absurd h_11 (by decide)) (fun h_11 => ?_)
  refine z_iload_n (pc' := 15) C dX6_closed_14 rfl 2 rfl rfl ?_
  refine z_i2l (pc' := 16) C dX6_closed_15 rfl ?_
  refine z_lconst (v := 0) (pc' := 17) C dX6_closed_16 rfl rfl ?_
  refine z_aload_n (pc' := 18) C dX6_closed_17 rfl 0 rfl rfl ?_
  refine z_get (pc' := 21) C hU6 6 (by decide) q_o6 rfl 14 (by decide) (by decide +kernel) (v := .int (sc 11)) rfl dX6_closed_18 rfl ?_
  refine z_iconst (v := 1) (pc' := 22) C dX6_closed_21 rfl rfl ?_
  refine z_isub (pc' := 23) C dX6_closed_22 rfl ?_
  refine z_i2l (pc' := 24) C dX6_closed_23 rfl ?_
  refine z_cS (n := 3) (pc' := 27) (As := [.long c.toInt64, .long 0, .long (((sc 11) - 1).toInt64)]) (rest := []) C (c_X6_inB l G sc ia la c 0 (sc 11 - 1) 0 (((sc 11) - 1).toInt64) rfl rfl false hp) gX6_closed_X6_in rfl rfl rfl (by decide +kernel) (by decide) rfl rfl dX6_closed_24 (Nat.le_of_ble_eq_true rfl) rfl (k_I ?_)
  show Z sc ia la [(0, .ref (G.2.1 6)), (1, .int r), (2, .int c)] 27 [.int 0]
  refine z_if_ne (pc' := 30) C 34 dX6_closed_27 rfl rfl (fun h_27 => absurd h_27 (by decide)) (fun h_27 => ?_)
  refine z_sipush (v := -10101) (pc' := 33) C dX6_closed_30 rfl rfl ?_
  exact z_iret (E := E) rfl dX6_closed_33 ⟨(congrArg (fun z => some (Value.int z)) rfl), rfl, rfl, rfl⟩

set_option maxHeartbeats 4000000 in
set_option maxRecDepth 100000 in
theorem c_X6_tied_row (l : Launch) (G : Gv) (sc : Sc) (ia : Ia) (la : La) (r c : Int32) (ho : s_out r 0 (sc 10 - 1) = true)  : Ct l yX6_tied wsX6_tied ({ frames := 7, cells := 0, slots := 0, locals := 250 }) G [.ref (G.2.1 6), .int r, .int c] sc ia la (fI (-10101) sc ia la) := by
  have hU6 : ∀ w ∈ u_ws RX6 TX6 25, w ∈ wsX6_tied := fun w h => List.mem_cons_of_mem _ (List.mem_append_right _ h)
  refine z_of (maxL := 3) (own := RX6) [(0, .ref (G.2.1 6)), (1, .int r), (2, .int c)] rfl (by decide +kernel) rfl (Nat.le_of_ble_eq_true rfl) rfl (fun Z C E => ?_)
  refine z_iload_n (pc' := 1) C dX6_tied_0 rfl 1 rfl rfl ?_
  refine z_i2l (pc' := 2) C dX6_tied_1 rfl ?_
  refine z_lconst (v := 0) (pc' := 3) C dX6_tied_2 rfl rfl ?_
  refine z_aload_n (pc' := 4) C dX6_tied_3 rfl 0 rfl rfl ?_
  refine z_get (pc' := 7) C hU6 6 (by decide) q_o6 rfl 13 (by decide) (by decide +kernel) (v := .int (sc 10)) rfl dX6_tied_4 rfl ?_
  refine z_iconst (v := 1) (pc' := 8) C dX6_tied_7 rfl rfl ?_
  refine z_isub (pc' := 9) C dX6_tied_8 rfl ?_
  refine z_i2l (pc' := 10) C dX6_tied_9 rfl ?_
  refine z_cS (n := 3) (pc' := 13) (As := [.long r.toInt64, .long 0, .long (((sc 10) - 1).toInt64)]) (rest := []) C (c_X6_inB l G sc ia la r 0 (sc 10 - 1) 0 (((sc 10) - 1).toInt64) rfl rfl false ho) gX6_tied_X6_in rfl rfl rfl (by decide +kernel) (by decide) rfl rfl dX6_tied_10 (Nat.le_of_ble_eq_true rfl) rfl (k_I ?_)
  show Z sc ia la [(0, .ref (G.2.1 6)), (1, .int r), (2, .int c)] 13 [.int 0]
  refine z_if_eq (pc' := 16) C 32 dX6_tied_13 rfl rfl (fun h_13 => ?_) (fun h_13 => absurd h_13 (by decide))
  refine z_sipush (v := -10101) (pc' := 35) C dX6_tied_32 rfl rfl ?_
  exact z_iret (E := E) rfl dX6_tied_35 ⟨(congrArg (fun z => some (Value.int z)) rfl), rfl, rfl, rfl⟩

set_option maxHeartbeats 4000000 in
set_option maxRecDepth 100000 in
theorem c_X6_tied_col (l : Launch) (G : Gv) (sc : Sc) (ia : Ia) (la : La) (r c : Int32) (ho : s_out r 0 (sc 10 - 1) = false) (hp : s_out c 0 (sc 11 - 1) = true)  : Ct l yX6_tied wsX6_tied ({ frames := 7, cells := 0, slots := 0, locals := 250 }) G [.ref (G.2.1 6), .int r, .int c] sc ia la (fI (-10101) sc ia la) := by
  have hU6 : ∀ w ∈ u_ws RX6 TX6 25, w ∈ wsX6_tied := fun w h => List.mem_cons_of_mem _ (List.mem_append_right _ h)
  refine z_of (maxL := 3) (own := RX6) [(0, .ref (G.2.1 6)), (1, .int r), (2, .int c)] rfl (by decide +kernel) rfl (Nat.le_of_ble_eq_true rfl) rfl (fun Z C E => ?_)
  refine z_iload_n (pc' := 1) C dX6_tied_0 rfl 1 rfl rfl ?_
  refine z_i2l (pc' := 2) C dX6_tied_1 rfl ?_
  refine z_lconst (v := 0) (pc' := 3) C dX6_tied_2 rfl rfl ?_
  refine z_aload_n (pc' := 4) C dX6_tied_3 rfl 0 rfl rfl ?_
  refine z_get (pc' := 7) C hU6 6 (by decide) q_o6 rfl 13 (by decide) (by decide +kernel) (v := .int (sc 10)) rfl dX6_tied_4 rfl ?_
  refine z_iconst (v := 1) (pc' := 8) C dX6_tied_7 rfl rfl ?_
  refine z_isub (pc' := 9) C dX6_tied_8 rfl ?_
  refine z_i2l (pc' := 10) C dX6_tied_9 rfl ?_
  refine z_cS (n := 3) (pc' := 13) (As := [.long r.toInt64, .long 0, .long (((sc 10) - 1).toInt64)]) (rest := []) C (c_X6_inB l G sc ia la r 0 (sc 10 - 1) 0 (((sc 10) - 1).toInt64) rfl rfl true ho) gX6_tied_X6_in rfl rfl rfl (by decide +kernel) (by decide) rfl rfl dX6_tied_10 (Nat.le_of_ble_eq_true rfl) rfl (k_I ?_)
  show Z sc ia la [(0, .ref (G.2.1 6)), (1, .int r), (2, .int c)] 13 [.int 1]
  refine z_if_eq (pc' := 16) C 32 dX6_tied_13 rfl rfl (fun h_13 => absurd h_13 (by decide)) (fun h_13 => ?_)
  refine z_iload_n (pc' := 17) C dX6_tied_16 rfl 2 rfl rfl ?_
  refine z_i2l (pc' := 18) C dX6_tied_17 rfl ?_
  refine z_lconst (v := 0) (pc' := 19) C dX6_tied_18 rfl rfl ?_
  refine z_aload_n (pc' := 20) C dX6_tied_19 rfl 0 rfl rfl ?_
  refine z_get (pc' := 23) C hU6 6 (by decide) q_o6 rfl 14 (by decide) (by decide +kernel) (v := .int (sc 11)) rfl dX6_tied_20 rfl ?_
  refine z_iconst (v := 1) (pc' := 24) C dX6_tied_23 rfl rfl ?_
  refine z_isub (pc' := 25) C dX6_tied_24 rfl ?_
  refine z_i2l (pc' := 26) C dX6_tied_25 rfl ?_
  refine z_cS (n := 3) (pc' := 29) (As := [.long c.toInt64, .long 0, .long (((sc 11) - 1).toInt64)]) (rest := []) C (c_X6_inB l G sc ia la c 0 (sc 11 - 1) 0 (((sc 11) - 1).toInt64) rfl rfl false hp) gX6_tied_X6_in rfl rfl rfl (by decide +kernel) (by decide) rfl rfl dX6_tied_26 (Nat.le_of_ble_eq_true rfl) rfl (k_I ?_)
  show Z sc ia la [(0, .ref (G.2.1 6)), (1, .int r), (2, .int c)] 29 [.int 0]
  refine z_if_ne (pc' := 32) C 36 dX6_tied_29 rfl rfl (fun h_29 => absurd h_29 (by decide)) (fun h_29 => ?_)
  refine z_sipush (v := -10101) (pc' := 35) C dX6_tied_32 rfl rfl ?_
  exact z_iret (E := E) rfl dX6_tied_35 ⟨(congrArg (fun z => some (Value.int z)) rfl), rfl, rfl, rfl⟩

set_option maxHeartbeats 4000000 in
set_option maxRecDepth 100000 in
theorem c_X6_closed_ok (l : Launch) (G : Gv) (sc : Sc) (ia : Ia) (la : La) (R K : Nat) (hR : sc 10 = nI R) (hC : sc 11 = nI K) (hR1 : 1 ≤ R) (hR8 : R ≤ 8) (hK1 : 1 ≤ K) (hC8 : K ≤ 8) (a b : Nat) (ha : a ≤ R) (hb : b < K)  : Ct l yX6_closed wsX6_closed ({ frames := 7, cells := 0, slots := 0, locals := 250 }) G [.ref (G.2.1 6), .int (nI a), .int (nI b)] sc ia la (fI (ia 38 (9 * a + b) - r_fl ((ia 38 (9 * R + b) - ia 38 b) * nI a) (nI R)) sc ia la) := by
  have hU6 : ∀ w ∈ u_ws RX6 TX6 25, w ∈ wsX6_closed := fun w h => List.mem_cons_of_mem _ (List.mem_append_right _ h)
  refine z_of (maxL := 4) (own := RX6) [(0, .ref (G.2.1 6)), (1, .int (nI a)), (2, .int (nI b))] rfl (by decide +kernel) rfl (Nat.le_of_ble_eq_true rfl) rfl (fun Z C E => ?_)
  refine z_iload_n (pc' := 1) C dX6_closed_0 rfl 1 rfl rfl ?_
  refine z_i2l (pc' := 2) C dX6_closed_1 rfl ?_
  refine z_lconst (v := 0) (pc' := 3) C dX6_closed_2 rfl rfl ?_
  refine z_aload_n (pc' := 4) C dX6_closed_3 rfl 0 rfl rfl ?_
  refine z_get (pc' := 7) C hU6 6 (by decide) q_o6 rfl 13 (by decide) (by decide +kernel) (v := .int (sc 10)) rfl dX6_closed_4 rfl ?_
  refine z_cast (st' := [.int (nI R), .long 0, .long ((nI a).toInt64)]) rfl rfl rfl rfl (congrArg (fun z => Value.int z :: [.long 0, .long ((nI a).toInt64)]) hR) ?_
  refine z_i2l (pc' := 8) C dX6_closed_7 rfl ?_
  refine z_cS (n := 3) (pc' := 11) (As := [.long ((nI a).toInt64), .long 0, .long ((nI R).toInt64)]) (rest := []) C (c_X6_inB l G sc ia la (nI a) 0 (nI R) 0 ((nI R).toInt64) rfl rfl true (s_out_ok (by omega) (by omega))) gX6_closed_X6_in rfl rfl rfl (by decide +kernel) (by decide) rfl rfl dX6_closed_8 (Nat.le_of_ble_eq_true rfl) rfl (k_I ?_)
  show Z sc ia la [(0, .ref (G.2.1 6)), (1, .int (nI a)), (2, .int (nI b))] 11 [.int 1]
  refine z_if_eq (pc' := 14) C 30 dX6_closed_11 rfl rfl (fun h_11 => absurd h_11 (by decide)) (fun h_11 => ?_)
  refine z_iload_n (pc' := 15) C dX6_closed_14 rfl 2 rfl rfl ?_
  refine z_i2l (pc' := 16) C dX6_closed_15 rfl ?_
  refine z_lconst (v := 0) (pc' := 17) C dX6_closed_16 rfl rfl ?_
  refine z_aload_n (pc' := 18) C dX6_closed_17 rfl 0 rfl rfl ?_
  refine z_get (pc' := 21) C hU6 6 (by decide) q_o6 rfl 14 (by decide) (by decide +kernel) (v := .int (sc 11)) rfl dX6_closed_18 rfl ?_
  refine z_cast (st' := [.int (nI K), .long 0, .long ((nI b).toInt64)]) rfl rfl rfl rfl (congrArg (fun z => Value.int z :: [.long 0, .long ((nI b).toInt64)]) hC) ?_
  refine z_iconst (v := 1) (pc' := 22) C dX6_closed_21 rfl rfl ?_
  refine z_isub (pc' := 23) C dX6_closed_22 rfl ?_
  refine z_i2l (pc' := 24) C dX6_closed_23 rfl ?_
  refine z_cS (n := 3) (pc' := 27) (As := [.long ((nI b).toInt64), .long 0, .long (((nI K) - 1).toInt64)]) (rest := []) C (c_X6_inB l G sc ia la (nI b) 0 (nI K - 1) 0 (((nI K) - 1).toInt64) rfl rfl true (s_out_ok1 (by omega) (by omega))) gX6_closed_X6_in rfl rfl rfl (by decide +kernel) (by decide) rfl rfl dX6_closed_24 (Nat.le_of_ble_eq_true rfl) rfl (k_I ?_)
  show Z sc ia la [(0, .ref (G.2.1 6)), (1, .int (nI a)), (2, .int (nI b))] 27 [.int 1]
  refine z_if_ne (pc' := 30) C 34 dX6_closed_27 rfl rfl (fun h_27 => ?_) (fun h_27 => absurd h_27 (by decide))
  refine z_aload_n (pc' := 35) C dX6_closed_34 rfl 0 rfl rfl ?_
  refine z_get (pc' := 38) C hU6 6 (by decide) q_o6 rfl 15 (by decide) (by decide +kernel) (v := .ref (G.2.1 45)) rfl dX6_closed_35 rfl ?_
  refine z_bipush (v := 9) (pc' := 40) C dX6_closed_38 rfl rfl ?_
  refine z_aload_n (pc' := 41) C dX6_closed_40 rfl 0 rfl rfl ?_
  refine z_get (pc' := 44) C hU6 6 (by decide) q_o6 rfl 13 (by decide) (by decide +kernel) (v := .int (sc 10)) rfl dX6_closed_41 rfl ?_
  refine z_cast (st' := [.int (nI R), .int 9, .ref (G.2.1 45)]) rfl rfl rfl rfl (congrArg (fun z => Value.int z :: [.int 9, .ref (G.2.1 45)]) hR) ?_
  refine z_imul (pc' := 45) C dX6_closed_44 rfl ?_
  refine z_cast (st' := [.int (nI (9 * R)), .ref (G.2.1 45)]) rfl rfl rfl rfl (congrArg (fun z => Value.int z :: [.ref (G.2.1 45)]) (pk_mul _ _)) ?_
  refine z_iload_n (pc' := 46) C dX6_closed_45 rfl 2 rfl rfl ?_
  refine z_iadd (pc' := 47) C dX6_closed_46 rfl ?_
  refine z_cast (st' := [.int (nI (9 * R + b)), .ref (G.2.1 45)]) rfl rfl rfl rfl (congrArg (fun z => Value.int z :: [.ref (G.2.1 45)]) (nI_add _ _)) ?_
  refine z_iald (pc' := 48) C 45 (by decide) (N := 81) (i := 9 * R + b) (f := ia 38) q_i38 (by omega) (by decide) dX6_closed_47 rfl ?_
  refine z_aload_n (pc' := 49) C dX6_closed_48 rfl 0 rfl rfl ?_
  refine z_get (pc' := 52) C hU6 6 (by decide) q_o6 rfl 15 (by decide) (by decide +kernel) (v := .ref (G.2.1 45)) rfl dX6_closed_49 rfl ?_
  refine z_iload_n (pc' := 53) C dX6_closed_52 rfl 2 rfl rfl ?_
  refine z_iald (pc' := 54) C 45 (by decide) (N := 81) (i := b) (f := ia 38) q_i38 (by omega) (by decide) dX6_closed_53 rfl ?_
  refine z_isub (pc' := 55) C dX6_closed_54 rfl ?_
  refine z_istore_n (lv' := [(3, .int (((ia 38) (9 * R + b)) - ((ia 38) b))), (0, .ref (G.2.1 6)), (1, .int (nI a)), (2, .int (nI b))]) (pc' := 56) C dX6_closed_55 rfl (by decide) rfl rfl ?_
  refine z_aload_n (pc' := 57) C dX6_closed_56 rfl 1 rfl rfl ?_
  refine z_get (pc' := 60) C hU6 6 (by decide) q_o6 rfl 15 (by decide) (by decide +kernel) (v := .ref (G.2.1 45)) rfl dX6_closed_57 rfl ?_
  refine z_bipush (v := 9) (pc' := 62) C dX6_closed_60 rfl rfl ?_
  refine z_iload_n (pc' := 63) C dX6_closed_62 rfl 2 rfl rfl ?_
  refine z_imul (pc' := 64) C dX6_closed_63 rfl ?_
  refine z_cast (st' := [.int (nI (9 * a)), .ref (G.2.1 45)]) rfl rfl rfl rfl (congrArg (fun z => Value.int z :: [.ref (G.2.1 45)]) (pk_mul _ _)) ?_
  refine z_iload_n (pc' := 65) C dX6_closed_64 rfl 3 rfl rfl ?_
  refine z_iadd (pc' := 66) C dX6_closed_65 rfl ?_
  refine z_cast (st' := [.int (nI (9 * a + b)), .ref (G.2.1 45)]) rfl rfl rfl rfl (congrArg (fun z => Value.int z :: [.ref (G.2.1 45)]) (nI_add _ _)) ?_
  refine z_iald (pc' := 67) C 45 (by decide) (N := 81) (i := 9 * a + b) (f := ia 38) q_i38 (by omega) (by decide) dX6_closed_66 rfl ?_
  refine z_iload_n (pc' := 68) C dX6_closed_67 rfl 0 rfl rfl ?_
  refine z_iload_n (pc' := 69) C dX6_closed_68 rfl 2 rfl rfl ?_
  refine z_imul (pc' := 70) C dX6_closed_69 rfl ?_
  refine z_aload_n (pc' := 71) C dX6_closed_70 rfl 1 rfl rfl ?_
  refine z_get (pc' := 74) C hU6 6 (by decide) q_o6 rfl 13 (by decide) (by decide +kernel) (v := .int (sc 10)) rfl dX6_closed_71 rfl ?_
  refine z_cast (st' := [.int (nI R), .int ((((ia 38) (9 * R + b)) - ((ia 38) b)) * (nI a)), .int ((ia 38) (9 * a + b))]) rfl rfl rfl rfl (congrArg (fun z => Value.int z :: [.int ((((ia 38) (9 * R + b)) - ((ia 38) b)) * (nI a)), .int ((ia 38) (9 * a + b))]) hR) ?_
  refine z_cS (n := 2) (pc' := 77) (As := [.int ((((ia 38) (9 * R + b)) - ((ia 38) b)) * (nI a)), .int (nI R)]) (rest := [.int ((ia 38) (9 * a + b))]) C (c_X6_floor l G sc ia la ((((ia 38) (9 * R + b)) - ((ia 38) b)) * (nI a)) (nI R) (by exact nI_ne0 (by omega) (by omega))) gX6_closed_X6_floor rfl rfl rfl (by decide +kernel) (by decide) rfl rfl dX6_closed_74 (Nat.le_of_ble_eq_true rfl) rfl (k_I ?_)
  show Z sc ia la [(3, .int (((ia 38) (9 * R + b)) - ((ia 38) b))), (0, .ref (G.2.1 6)), (1, .int (nI a)), (2, .int (nI b))] 77 [.int (r_fl ((((ia 38) (9 * R + b)) - ((ia 38) b)) * (nI a)) (nI R)), .int ((ia 38) (9 * a + b))]
  refine z_isub (pc' := 78) C dX6_closed_77 rfl ?_
  exact z_iret (E := E) rfl dX6_closed_78 ⟨(congrArg (fun z => some (Value.int z)) rfl), rfl, rfl, rfl⟩

set_option maxHeartbeats 4000000 in
set_option maxRecDepth 100000 in
theorem c_X6_tied_ok (l : Launch) (G : Gv) (sc : Sc) (ia : Ia) (la : La) (R K : Nat) (hR : sc 10 = nI R) (hC : sc 11 = nI K) (hR1 : 1 ≤ R) (hR8 : R ≤ 8) (hK1 : 1 ≤ K) (hC8 : K ≤ 8) (a b : Nat) (ha : a < R) (hb : b < K)  : Ct l yX6_tied wsX6_tied ({ frames := 7, cells := 0, slots := 0, locals := 250 }) G [.ref (G.2.1 6), .int (nI a), .int (nI b)] sc ia la (fI (ia 38 (9 * a + b) + ia 38 (9 * a + K) - ia 38 (9 * a)) sc ia la) := by
  have hU6 : ∀ w ∈ u_ws RX6 TX6 25, w ∈ wsX6_tied := fun w h => List.mem_cons_of_mem _ (List.mem_append_right _ h)
  refine z_of (maxL := 3) (own := RX6) [(0, .ref (G.2.1 6)), (1, .int (nI a)), (2, .int (nI b))] rfl (by decide +kernel) rfl (Nat.le_of_ble_eq_true rfl) rfl (fun Z C E => ?_)
  refine z_iload_n (pc' := 1) C dX6_tied_0 rfl 1 rfl rfl ?_
  refine z_i2l (pc' := 2) C dX6_tied_1 rfl ?_
  refine z_lconst (v := 0) (pc' := 3) C dX6_tied_2 rfl rfl ?_
  refine z_aload_n (pc' := 4) C dX6_tied_3 rfl 0 rfl rfl ?_
  refine z_get (pc' := 7) C hU6 6 (by decide) q_o6 rfl 13 (by decide) (by decide +kernel) (v := .int (sc 10)) rfl dX6_tied_4 rfl ?_
  refine z_cast (st' := [.int (nI R), .long 0, .long ((nI a).toInt64)]) rfl rfl rfl rfl (congrArg (fun z => Value.int z :: [.long 0, .long ((nI a).toInt64)]) hR) ?_
  refine z_iconst (v := 1) (pc' := 8) C dX6_tied_7 rfl rfl ?_
  refine z_isub (pc' := 9) C dX6_tied_8 rfl ?_
  refine z_i2l (pc' := 10) C dX6_tied_9 rfl ?_
  refine z_cS (n := 3) (pc' := 13) (As := [.long ((nI a).toInt64), .long 0, .long (((nI R) - 1).toInt64)]) (rest := []) C (c_X6_inB l G sc ia la (nI a) 0 (nI R - 1) 0 (((nI R) - 1).toInt64) rfl rfl true (s_out_ok1 (by omega) (by omega))) gX6_tied_X6_in rfl rfl rfl (by decide +kernel) (by decide) rfl rfl dX6_tied_10 (Nat.le_of_ble_eq_true rfl) rfl (k_I ?_)
  show Z sc ia la [(0, .ref (G.2.1 6)), (1, .int (nI a)), (2, .int (nI b))] 13 [.int 1]
  refine z_if_eq (pc' := 16) C 32 dX6_tied_13 rfl rfl (fun h_13 => absurd h_13 (by decide)) (fun h_13 => ?_)
  refine z_iload_n (pc' := 17) C dX6_tied_16 rfl 2 rfl rfl ?_
  refine z_i2l (pc' := 18) C dX6_tied_17 rfl ?_
  refine z_lconst (v := 0) (pc' := 19) C dX6_tied_18 rfl rfl ?_
  refine z_aload_n (pc' := 20) C dX6_tied_19 rfl 0 rfl rfl ?_
  refine z_get (pc' := 23) C hU6 6 (by decide) q_o6 rfl 14 (by decide) (by decide +kernel) (v := .int (sc 11)) rfl dX6_tied_20 rfl ?_
  refine z_cast (st' := [.int (nI K), .long 0, .long ((nI b).toInt64)]) rfl rfl rfl rfl (congrArg (fun z => Value.int z :: [.long 0, .long ((nI b).toInt64)]) hC) ?_
  refine z_iconst (v := 1) (pc' := 24) C dX6_tied_23 rfl rfl ?_
  refine z_isub (pc' := 25) C dX6_tied_24 rfl ?_
  refine z_i2l (pc' := 26) C dX6_tied_25 rfl ?_
  refine z_cS (n := 3) (pc' := 29) (As := [.long ((nI b).toInt64), .long 0, .long (((nI K) - 1).toInt64)]) (rest := []) C (c_X6_inB l G sc ia la (nI b) 0 (nI K - 1) 0 (((nI K) - 1).toInt64) rfl rfl true (s_out_ok1 (by omega) (by omega))) gX6_tied_X6_in rfl rfl rfl (by decide +kernel) (by decide) rfl rfl dX6_tied_26 (Nat.le_of_ble_eq_true rfl) rfl (k_I ?_)
  show Z sc ia la [(0, .ref (G.2.1 6)), (1, .int (nI a)), (2, .int (nI b))] 29 [.int 1]
  refine z_if_ne (pc' := 32) C 36 dX6_tied_29 rfl rfl (fun h_29 => ?_) (fun h_29 => absurd h_29 (by decide))
  refine z_aload_n (pc' := 37) C dX6_tied_36 rfl 0 rfl rfl ?_
  refine z_get (pc' := 40) C hU6 6 (by decide) q_o6 rfl 15 (by decide) (by decide +kernel) (v := .ref (G.2.1 45)) rfl dX6_tied_37 rfl ?_
  refine z_bipush (v := 9) (pc' := 42) C dX6_tied_40 rfl rfl ?_
  refine z_iload_n (pc' := 43) C dX6_tied_42 rfl 1 rfl rfl ?_
  refine z_imul (pc' := 44) C dX6_tied_43 rfl ?_
  refine z_cast (st' := [.int (nI (9 * a)), .ref (G.2.1 45)]) rfl rfl rfl rfl (congrArg (fun z => Value.int z :: [.ref (G.2.1 45)]) (pk_mul _ _)) ?_
  refine z_iload_n (pc' := 45) C dX6_tied_44 rfl 2 rfl rfl ?_
  refine z_iadd (pc' := 46) C dX6_tied_45 rfl ?_
  refine z_cast (st' := [.int (nI (9 * a + b)), .ref (G.2.1 45)]) rfl rfl rfl rfl (congrArg (fun z => Value.int z :: [.ref (G.2.1 45)]) (nI_add _ _)) ?_
  refine z_iald (pc' := 47) C 45 (by decide) (N := 81) (i := 9 * a + b) (f := ia 38) q_i38 (by omega) (by decide) dX6_tied_46 rfl ?_
  refine z_aload_n (pc' := 48) C dX6_tied_47 rfl 0 rfl rfl ?_
  refine z_get (pc' := 51) C hU6 6 (by decide) q_o6 rfl 15 (by decide) (by decide +kernel) (v := .ref (G.2.1 45)) rfl dX6_tied_48 rfl ?_
  refine z_bipush (v := 9) (pc' := 53) C dX6_tied_51 rfl rfl ?_
  refine z_iload_n (pc' := 54) C dX6_tied_53 rfl 1 rfl rfl ?_
  refine z_imul (pc' := 55) C dX6_tied_54 rfl ?_
  refine z_cast (st' := [.int (nI (9 * a)), .ref (G.2.1 45), .int ((ia 38) (9 * a + b))]) rfl rfl rfl rfl (congrArg (fun z => Value.int z :: [.ref (G.2.1 45), .int ((ia 38) (9 * a + b))]) (pk_mul _ _)) ?_
  refine z_aload_n (pc' := 56) C dX6_tied_55 rfl 0 rfl rfl ?_
  refine z_get (pc' := 59) C hU6 6 (by decide) q_o6 rfl 14 (by decide) (by decide +kernel) (v := .int (sc 11)) rfl dX6_tied_56 rfl ?_
  refine z_cast (st' := [.int (nI K), .int (nI (9 * a)), .ref (G.2.1 45), .int ((ia 38) (9 * a + b))]) rfl rfl rfl rfl (congrArg (fun z => Value.int z :: [.int (nI (9 * a)), .ref (G.2.1 45), .int ((ia 38) (9 * a + b))]) hC) ?_
  refine z_iadd (pc' := 60) C dX6_tied_59 rfl ?_
  refine z_cast (st' := [.int (nI (9 * a + K)), .ref (G.2.1 45), .int ((ia 38) (9 * a + b))]) rfl rfl rfl rfl (congrArg (fun z => Value.int z :: [.ref (G.2.1 45), .int ((ia 38) (9 * a + b))]) (nI_add _ _)) ?_
  refine z_iald (pc' := 61) C 45 (by decide) (N := 81) (i := 9 * a + K) (f := ia 38) q_i38 (by omega) (by decide) dX6_tied_60 rfl ?_
  refine z_iadd (pc' := 62) C dX6_tied_61 rfl ?_
  refine z_aload_n (pc' := 63) C dX6_tied_62 rfl 0 rfl rfl ?_
  refine z_get (pc' := 66) C hU6 6 (by decide) q_o6 rfl 15 (by decide) (by decide +kernel) (v := .ref (G.2.1 45)) rfl dX6_tied_63 rfl ?_
  refine z_bipush (v := 9) (pc' := 68) C dX6_tied_66 rfl rfl ?_
  refine z_iload_n (pc' := 69) C dX6_tied_68 rfl 1 rfl rfl ?_
  refine z_imul (pc' := 70) C dX6_tied_69 rfl ?_
  refine z_cast (st' := [.int (nI (9 * a)), .ref (G.2.1 45), .int (((ia 38) (9 * a + b)) + ((ia 38) (9 * a + K)))]) rfl rfl rfl rfl (congrArg (fun z => Value.int z :: [.ref (G.2.1 45), .int (((ia 38) (9 * a + b)) + ((ia 38) (9 * a + K)))]) (pk_mul _ _)) ?_
  refine z_iald (pc' := 71) C 45 (by decide) (N := 81) (i := 9 * a) (f := ia 38) q_i38 (by omega) (by decide) dX6_tied_70 rfl ?_
  refine z_isub (pc' := 72) C dX6_tied_71 rfl ?_
  exact z_iret (E := E) rfl dX6_tied_72 ⟨(congrArg (fun z => some (Value.int z)) rfl), rfl, rfl, rfl⟩

set_option maxHeartbeats 4000000 in
set_option maxRecDepth 100000 in
theorem c_X6_antennas_out (l : Launch) (G : Gv) (sc : Sc) (ia : Ia) (la : La) (v : Int32) (ho : s_out v 3 5 = true)  : Ct l yX6_antennas wsX6_antennas ({ frames := 7, cells := 0, slots := 0, locals := 250 }) G [.ref (G.2.1 6), .int v] sc ia la (fI (-102) sc ia la) := by
  refine z_of (maxL := 3) (own := RX6) [(0, .ref (G.2.1 6)), (1, .int v)] rfl (by decide +kernel) rfl (Nat.le_of_ble_eq_true rfl) rfl (fun Z C E => ?_)
  refine z_iload_n (pc' := 1) C dX6_antennas_0 rfl 1 rfl rfl ?_
  refine z_i2l (pc' := 2) C dX6_antennas_1 rfl ?_
  refine z_ldc2 (v := 3) (pc' := 5) C (by decide +kernel) dX6_antennas_2 rfl ?_
  refine z_ldc2 (v := 5) (pc' := 8) C (by decide +kernel) dX6_antennas_5 rfl ?_
  refine z_cS (n := 3) (pc' := 11) (As := [.long v.toInt64, .long 3, .long 5]) (rest := []) C (c_X6_inB l G sc ia la v 3 5 3 5 rfl rfl false ho) gX6_antennas_X6_in rfl rfl rfl (by decide +kernel) (by decide) rfl rfl dX6_antennas_8 (Nat.le_of_ble_eq_true rfl) rfl (k_I ?_)
  show Z sc ia la [(0, .ref (G.2.1 6)), (1, .int v)] 11 [.int 0]
  refine z_if_ne (pc' := 14) C 17 dX6_antennas_11 rfl rfl (fun h_11 => absurd h_11 (by decide)) (fun h_11 => ?_)
  refine z_bipush (v := -102) (pc' := 16) C dX6_antennas_14 rfl rfl ?_
  exact z_iret (E := E) rfl dX6_antennas_16 ⟨(congrArg (fun z => some (Value.int z)) rfl), rfl, rfl, rfl⟩

set_option maxHeartbeats 4000000 in
set_option maxRecDepth 100000 in
theorem c_X6_antennas_ok (l : Launch) (G : Gv) (sc : Sc) (ia : Ia) (la : La) (v : Int32) (ho : s_out v 3 5 = false)  : Ct l yX6_antennas wsX6_antennas ({ frames := 7, cells := 0, slots := 0, locals := 250 }) G [.ref (G.2.1 6), .int v] sc ia la (fI v (va_up sc 12 v) (va_up (va_up ia 39 (r_z (ia 39) 25)) 40 (r_z (ia 40) 25)) la) := by
  have hU6 : ∀ w ∈ u_ws RX6 TX6 25, w ∈ wsX6_antennas := fun w h => List.mem_cons_of_mem _ (List.mem_append_right _ h)
  refine z_of (maxL := 3) (own := RX6) [(0, .ref (G.2.1 6)), (1, .int v)] rfl (by decide +kernel) rfl (Nat.le_of_ble_eq_true rfl) rfl (fun Z C E => ?_)
  refine z_iload_n (pc' := 1) C dX6_antennas_0 rfl 1 rfl rfl ?_
  refine z_i2l (pc' := 2) C dX6_antennas_1 rfl ?_
  refine z_ldc2 (v := 3) (pc' := 5) C (by decide +kernel) dX6_antennas_2 rfl ?_
  refine z_ldc2 (v := 5) (pc' := 8) C (by decide +kernel) dX6_antennas_5 rfl ?_
  refine z_cS (n := 3) (pc' := 11) (As := [.long v.toInt64, .long 3, .long 5]) (rest := []) C (c_X6_inB l G sc ia la v 3 5 3 5 rfl rfl true ho) gX6_antennas_X6_in rfl rfl rfl (by decide +kernel) (by decide) rfl rfl dX6_antennas_8 (Nat.le_of_ble_eq_true rfl) rfl (k_I ?_)
  show Z sc ia la [(0, .ref (G.2.1 6)), (1, .int v)] 11 [.int 1]
  refine z_if_ne (pc' := 14) C 17 dX6_antennas_11 rfl rfl (fun h_11 => ?_) (fun h_11 => absurd h_11 (by decide))
  refine z_aload_n (pc' := 18) C dX6_antennas_17 rfl 0 rfl rfl ?_
  refine z_iload_n (pc' := 19) C dX6_antennas_18 rfl 1 rfl rfl ?_
  refine z_put (pc' := 22) C hU6 tyX6 tyX6_ok nmX6 6 (by decide) q_o6 rfl 16 (by decide) (by decide +kernel) rfl rfl (Nat.le_of_ble_eq_true rfl) (q_s12 _) dX6_antennas_19 rfl ?_
  refine z_iconst (v := 0) (pc' := 23) C dX6_antennas_22 rfl rfl ?_
  refine z_istore_n (lv' := [(2, .int 0), (0, .ref (G.2.1 6)), (1, .int v)]) (pc' := 24) C dX6_antennas_23 rfl (by decide) rfl rfl ?_
  have L24 : ∀ (fuel : Nat) (k : Nat) (hk : k ≤ 25), 25 - k < fuel → Z (va_up sc 12 v) (va_up (va_up ia 39 (r_z (ia 39) k)) 40 (r_z (ia 40) k)) la [(2, .int (nI k)), (0, .ref (G.2.1 6)), (1, .int v)] 24 [] := by
    intro fuel
    induction fuel with
    | zero => intro k hk hm24; exact absurd hm24 (Nat.not_lt_zero _)
    | succ fuel ih24 =>
      intro k hk hm24
      refine z_iload_n (pc' := 25) C dX6_antennas_24 rfl 0 rfl rfl ?_
      refine z_bipush (v := 25) (pc' := 27) C dX6_antennas_25 rfl rfl ?_
      refine z_icmpN_ge (a := k) (b := 25) (pc' := 30) C 50 (by omega) (by omega) dX6_antennas_27 rfl rfl (fun h_27 => ?_) (fun h_27 => ?_)
      · refine z_iload_n (pc' := 51) C dX6_antennas_50 rfl 2 rfl rfl ?_
        exact z_iret (E := E) rfl dX6_antennas_51 ⟨(congrArg (fun z => some (Value.int z)) rfl), rfl, (by first | rfl | (have e9 : k = 25 := (by omega); subst e9; rfl)), rfl⟩
      · refine z_aload_n (pc' := 31) C dX6_antennas_30 rfl 1 rfl rfl ?_
        refine z_get (pc' := 34) C hU6 6 (by decide) q_o6 rfl 17 (by decide) (by decide +kernel) (v := .ref (G.2.1 46)) rfl dX6_antennas_31 rfl ?_
        refine z_iload_n (pc' := 35) C dX6_antennas_34 rfl 0 rfl rfl ?_
        refine z_iconst (v := 0) (pc' := 36) C dX6_antennas_35 rfl rfl ?_
        refine z_zast (pc' := 37) C 46 (by decide) (N := 25) (i := k) (f := r_z (ia 39) k) (rfl) q_i39 (by omega) (by decide) (q_u39 _) dX6_antennas_36 rfl ?_
        refine z_aload_n (pc' := 38) C dX6_antennas_37 rfl 1 rfl rfl ?_
        refine z_get (pc' := 41) C hU6 6 (by decide) q_o6 rfl 18 (by decide) (by decide +kernel) (v := .ref (G.2.1 47)) rfl dX6_antennas_38 rfl ?_
        refine z_iload_n (pc' := 42) C dX6_antennas_41 rfl 0 rfl rfl ?_
        refine z_iconst (v := 0) (pc' := 43) C dX6_antennas_42 rfl rfl ?_
        refine z_iast (pc' := 44) C 47 (by decide) (N := 25) (i := k) (f := r_z (ia 40) k) q_i40 (by omega) (by decide) (q_u40 _) dX6_antennas_43 rfl ?_
        refine z_iinc (v := nI (k + 1)) (k9 := 0) (lv' := [(2, .int (nI (k + 1))), (0, .ref (G.2.1 6)), (1, .int v)]) (pc' := 47) C dX6_antennas_44 rfl (nI_1 k) (by decide) rfl rfl ?_
        refine z_goto (pc' := 24) C dX6_antennas_47 rfl ?_
        exact z_cast rfl (by first | rfl | (exact up_4 ia (by decide) _ _ _ _)) rfl rfl rfl (ih24 (k + 1) (by omega) (by omega))
  exact z_cast rfl (by first | rfl | (funext j; unfold va_up; by_cases q1 : j = 40; (subst q1; rfl); (by_cases q2 : j = 39; (subst q2; rfl); simp [q1, q2]))) rfl rfl rfl (L24 (_ + 1) 0 (by omega) (Nat.lt_succ_self _))

set_option maxHeartbeats 4000000 in
set_option maxRecDepth 100000 in
theorem c_X6_together_a (l : Launch) (G : Gv) (sc : Sc) (ia : Ia) (la : La) (m : Nat) (hm : sc 12 = nI m) (hm1 : 1 ≤ m) (hM : m ≤ 5) (a b v : Int32) (z : Bool) (ha : s_has a (nI m) = false)  : Ct l yX6_together wsX6_together ({ frames := 7, cells := 0, slots := 0, locals := 250 }) G [.ref (G.2.1 6), .int a, .int b, .int v, .int (bI (z))] sc ia la (fI (-101) sc ia la) := by
  have hU6 : ∀ w ∈ u_ws RX6 TX6 25, w ∈ wsX6_together := fun w h => List.mem_cons_of_mem _ (List.mem_append_right _ h)
  refine z_of (maxL := 6) (own := RX6) [(0, .ref (G.2.1 6)), (1, .int a), (2, .int b), (3, .int v), (4, .int (bI (z)))] rfl (by decide +kernel) rfl (Nat.le_of_ble_eq_true rfl) rfl (fun Z C E => ?_)
  refine z_iload_n (pc' := 1) C dX6_together_0 rfl 1 rfl rfl ?_
  refine z_i2l (pc' := 2) C dX6_together_1 rfl ?_
  refine z_lconst (v := 0) (pc' := 3) C dX6_together_2 rfl rfl ?_
  refine z_aload_n (pc' := 4) C dX6_together_3 rfl 0 rfl rfl ?_
  refine z_get (pc' := 7) C hU6 6 (by decide) q_o6 rfl 16 (by decide) (by decide +kernel) (v := .int (sc 12)) rfl dX6_together_4 rfl ?_
  refine z_cast (st' := [.int (nI m), .long 0, .long a.toInt64]) rfl rfl rfl rfl (congrArg (fun z => Value.int z :: [.long 0, .long a.toInt64]) hm) ?_
  refine z_iconst (v := 1) (pc' := 8) C dX6_together_7 rfl rfl ?_
  refine z_isub (pc' := 9) C dX6_together_8 rfl ?_
  refine z_i2l (pc' := 10) C dX6_together_9 rfl ?_
  refine z_cS (n := 3) (pc' := 13) (As := [.long a.toInt64, .long 0, .long (((nI m) - 1).toInt64)]) (rest := []) C (c_X6_inB l G sc ia la a 0 (nI m - 1) 0 (((nI m) - 1).toInt64) rfl rfl false (by rw [s_out_pl _ hm1 (by omega), ha])) gX6_together_X6_in rfl rfl rfl (by decide +kernel) (by decide) rfl rfl dX6_together_10 (Nat.le_of_ble_eq_true rfl) rfl (k_I ?_)
  show Z sc ia la [(0, .ref (G.2.1 6)), (1, .int a), (2, .int b), (3, .int v), (4, .int (bI (z)))] 13 [.int 0]
  refine z_if_eq (pc' := 16) C 37 dX6_together_13 rfl rfl (fun h_13 => ?_) (fun h_13 => absurd h_13 (by decide))
  refine z_bipush (v := -101) (pc' := 39) C dX6_together_37 rfl rfl ?_
  exact z_iret (E := E) rfl dX6_together_39 ⟨(congrArg (fun z => some (Value.int z)) rfl), rfl, rfl, rfl⟩

set_option maxHeartbeats 4000000 in
set_option maxRecDepth 100000 in
theorem c_X6_together_b (l : Launch) (G : Gv) (sc : Sc) (ia : Ia) (la : La) (m : Nat) (hm : sc 12 = nI m) (hm1 : 1 ≤ m) (hM : m ≤ 5) (a : Nat) (haj : a < m) (b v : Int32) (z : Bool) (hb : s_has b (nI m) = false)  : Ct l yX6_together wsX6_together ({ frames := 7, cells := 0, slots := 0, locals := 250 }) G [.ref (G.2.1 6), .int (nI a), .int b, .int v, .int (bI (z))] sc ia la (fI (-101) sc ia la) := by
  have hU6 : ∀ w ∈ u_ws RX6 TX6 25, w ∈ wsX6_together := fun w h => List.mem_cons_of_mem _ (List.mem_append_right _ h)
  refine z_of (maxL := 6) (own := RX6) [(0, .ref (G.2.1 6)), (1, .int (nI a)), (2, .int b), (3, .int v), (4, .int (bI (z)))] rfl (by decide +kernel) rfl (Nat.le_of_ble_eq_true rfl) rfl (fun Z C E => ?_)
  refine z_iload_n (pc' := 1) C dX6_together_0 rfl 1 rfl rfl ?_
  refine z_i2l (pc' := 2) C dX6_together_1 rfl ?_
  refine z_lconst (v := 0) (pc' := 3) C dX6_together_2 rfl rfl ?_
  refine z_aload_n (pc' := 4) C dX6_together_3 rfl 0 rfl rfl ?_
  refine z_get (pc' := 7) C hU6 6 (by decide) q_o6 rfl 16 (by decide) (by decide +kernel) (v := .int (sc 12)) rfl dX6_together_4 rfl ?_
  refine z_cast (st' := [.int (nI m), .long 0, .long ((nI a).toInt64)]) rfl rfl rfl rfl (congrArg (fun z => Value.int z :: [.long 0, .long ((nI a).toInt64)]) hm) ?_
  refine z_iconst (v := 1) (pc' := 8) C dX6_together_7 rfl rfl ?_
  refine z_isub (pc' := 9) C dX6_together_8 rfl ?_
  refine z_i2l (pc' := 10) C dX6_together_9 rfl ?_
  refine z_cS (n := 3) (pc' := 13) (As := [.long ((nI a).toInt64), .long 0, .long (((nI m) - 1).toInt64)]) (rest := []) C (c_X6_inB l G sc ia la (nI a) 0 (nI m - 1) 0 (((nI m) - 1).toInt64) rfl rfl true (s_out_ok1 (by omega) (by omega))) gX6_together_X6_in rfl rfl rfl (by decide +kernel) (by decide) rfl rfl dX6_together_10 (Nat.le_of_ble_eq_true rfl) rfl (k_I ?_)
  show Z sc ia la [(0, .ref (G.2.1 6)), (1, .int (nI a)), (2, .int b), (3, .int v), (4, .int (bI (z)))] 13 [.int 1]
  refine z_if_eq (pc' := 16) C 37 dX6_together_13 rfl rfl (fun h_13 => absurd h_13 (by decide)) (fun h_13 => ?_)
  refine z_iload_n (pc' := 17) C dX6_together_16 rfl 2 rfl rfl ?_
  refine z_i2l (pc' := 18) C dX6_together_17 rfl ?_
  refine z_lconst (v := 0) (pc' := 19) C dX6_together_18 rfl rfl ?_
  refine z_aload_n (pc' := 20) C dX6_together_19 rfl 0 rfl rfl ?_
  refine z_get (pc' := 23) C hU6 6 (by decide) q_o6 rfl 16 (by decide) (by decide +kernel) (v := .int (sc 12)) rfl dX6_together_20 rfl ?_
  refine z_cast (st' := [.int (nI m), .long 0, .long b.toInt64]) rfl rfl rfl rfl (congrArg (fun z => Value.int z :: [.long 0, .long b.toInt64]) hm) ?_
  refine z_iconst (v := 1) (pc' := 24) C dX6_together_23 rfl rfl ?_
  refine z_isub (pc' := 25) C dX6_together_24 rfl ?_
  refine z_i2l (pc' := 26) C dX6_together_25 rfl ?_
  refine z_cS (n := 3) (pc' := 29) (As := [.long b.toInt64, .long 0, .long (((nI m) - 1).toInt64)]) (rest := []) C (c_X6_inB l G sc ia la b 0 (nI m - 1) 0 (((nI m) - 1).toInt64) rfl rfl false (by rw [s_out_pl _ hm1 (by omega), hb])) gX6_together_X6_in rfl rfl rfl (by decide +kernel) (by decide) rfl rfl dX6_together_26 (Nat.le_of_ble_eq_true rfl) rfl (k_I ?_)
  show Z sc ia la [(0, .ref (G.2.1 6)), (1, .int (nI a)), (2, .int b), (3, .int v), (4, .int (bI (z)))] 29 [.int 0]
  refine z_if_eq (pc' := 32) C 37 dX6_together_29 rfl rfl (fun h_29 => ?_) (fun h_29 => absurd h_29 (by decide))
  refine z_bipush (v := -101) (pc' := 39) C dX6_together_37 rfl rfl ?_
  exact z_iret (E := E) rfl dX6_together_39 ⟨(congrArg (fun z => some (Value.int z)) rfl), rfl, rfl, rfl⟩

set_option maxHeartbeats 4000000 in
set_option maxRecDepth 100000 in
theorem c_X6_together_same (l : Launch) (G : Gv) (sc : Sc) (ia : Ia) (la : La) (m : Nat) (hm : sc 12 = nI m) (hm1 : 1 ≤ m) (hM : m ≤ 5) (a : Nat) (haj : a < m) (v : Int32) (z : Bool)  : Ct l yX6_together wsX6_together ({ frames := 7, cells := 0, slots := 0, locals := 250 }) G [.ref (G.2.1 6), .int (nI a), .int (nI a), .int v, .int (bI (z))] sc ia la (fI (-101) sc ia la) := by
  have hU6 : ∀ w ∈ u_ws RX6 TX6 25, w ∈ wsX6_together := fun w h => List.mem_cons_of_mem _ (List.mem_append_right _ h)
  refine z_of (maxL := 6) (own := RX6) [(0, .ref (G.2.1 6)), (1, .int (nI a)), (2, .int (nI a)), (3, .int v), (4, .int (bI (z)))] rfl (by decide +kernel) rfl (Nat.le_of_ble_eq_true rfl) rfl (fun Z C E => ?_)
  refine z_iload_n (pc' := 1) C dX6_together_0 rfl 1 rfl rfl ?_
  refine z_i2l (pc' := 2) C dX6_together_1 rfl ?_
  refine z_lconst (v := 0) (pc' := 3) C dX6_together_2 rfl rfl ?_
  refine z_aload_n (pc' := 4) C dX6_together_3 rfl 0 rfl rfl ?_
  refine z_get (pc' := 7) C hU6 6 (by decide) q_o6 rfl 16 (by decide) (by decide +kernel) (v := .int (sc 12)) rfl dX6_together_4 rfl ?_
  refine z_cast (st' := [.int (nI m), .long 0, .long ((nI a).toInt64)]) rfl rfl rfl rfl (congrArg (fun z => Value.int z :: [.long 0, .long ((nI a).toInt64)]) hm) ?_
  refine z_iconst (v := 1) (pc' := 8) C dX6_together_7 rfl rfl ?_
  refine z_isub (pc' := 9) C dX6_together_8 rfl ?_
  refine z_i2l (pc' := 10) C dX6_together_9 rfl ?_
  refine z_cS (n := 3) (pc' := 13) (As := [.long ((nI a).toInt64), .long 0, .long (((nI m) - 1).toInt64)]) (rest := []) C (c_X6_inB l G sc ia la (nI a) 0 (nI m - 1) 0 (((nI m) - 1).toInt64) rfl rfl true (s_out_ok1 (by omega) (by omega))) gX6_together_X6_in rfl rfl rfl (by decide +kernel) (by decide) rfl rfl dX6_together_10 (Nat.le_of_ble_eq_true rfl) rfl (k_I ?_)
  show Z sc ia la [(0, .ref (G.2.1 6)), (1, .int (nI a)), (2, .int (nI a)), (3, .int v), (4, .int (bI (z)))] 13 [.int 1]
  refine z_if_eq (pc' := 16) C 37 dX6_together_13 rfl rfl (fun h_13 => absurd h_13 (by decide)) (fun h_13 => ?_)
  refine z_iload_n (pc' := 17) C dX6_together_16 rfl 2 rfl rfl ?_
  refine z_i2l (pc' := 18) C dX6_together_17 rfl ?_
  refine z_lconst (v := 0) (pc' := 19) C dX6_together_18 rfl rfl ?_
  refine z_aload_n (pc' := 20) C dX6_together_19 rfl 0 rfl rfl ?_
  refine z_get (pc' := 23) C hU6 6 (by decide) q_o6 rfl 16 (by decide) (by decide +kernel) (v := .int (sc 12)) rfl dX6_together_20 rfl ?_
  refine z_cast (st' := [.int (nI m), .long 0, .long ((nI a).toInt64)]) rfl rfl rfl rfl (congrArg (fun z => Value.int z :: [.long 0, .long ((nI a).toInt64)]) hm) ?_
  refine z_iconst (v := 1) (pc' := 24) C dX6_together_23 rfl rfl ?_
  refine z_isub (pc' := 25) C dX6_together_24 rfl ?_
  refine z_i2l (pc' := 26) C dX6_together_25 rfl ?_
  refine z_cS (n := 3) (pc' := 29) (As := [.long ((nI a).toInt64), .long 0, .long (((nI m) - 1).toInt64)]) (rest := []) C (c_X6_inB l G sc ia la (nI a) 0 (nI m - 1) 0 (((nI m) - 1).toInt64) rfl rfl true (s_out_ok1 (by omega) (by omega))) gX6_together_X6_in rfl rfl rfl (by decide +kernel) (by decide) rfl rfl dX6_together_26 (Nat.le_of_ble_eq_true rfl) rfl (k_I ?_)
  show Z sc ia la [(0, .ref (G.2.1 6)), (1, .int (nI a)), (2, .int (nI a)), (3, .int v), (4, .int (bI (z)))] 29 [.int 1]
  refine z_if_eq (pc' := 32) C 37 dX6_together_29 rfl rfl (fun h_29 => absurd h_29 (by decide)) (fun h_29 => ?_)
  refine z_iload_n (pc' := 33) C dX6_together_32 rfl 1 rfl rfl ?_
  refine z_iload_n (pc' := 34) C dX6_together_33 rfl 2 rfl rfl ?_
  refine z_icmpN_ne (a := a) (b := a) (pc' := 37) C 40 (by omega) (by omega) dX6_together_34 rfl rfl (fun h_34 => absurd h_34 (by exact fun q => q rfl)) (fun h_34 => ?_)
  refine z_bipush (v := -101) (pc' := 39) C dX6_together_37 rfl rfl ?_
  exact z_iret (E := E) rfl dX6_together_39 ⟨(congrArg (fun z => some (Value.int z)) rfl), rfl, rfl, rfl⟩

set_option maxHeartbeats 4000000 in
set_option maxRecDepth 100000 in
theorem c_X6_together_out (l : Launch) (G : Gv) (sc : Sc) (ia : Ia) (la : La) (m : Nat) (hm : sc 12 = nI m) (hm1 : 1 ≤ m) (hM : m ≤ 5) (a b : Nat) (haj : a < m) (hbj : b < m) (hab : ¬ a = b) (v : Int32) (z : Bool) (ho : s_out v (-10000) 10000 = true)  : Ct l yX6_together wsX6_together ({ frames := 7, cells := 0, slots := 0, locals := 250 }) G [.ref (G.2.1 6), .int (nI a), .int (nI b), .int v, .int (bI (z))] sc ia la (fI (-102) sc ia la) := by
  have hU6 : ∀ w ∈ u_ws RX6 TX6 25, w ∈ wsX6_together := fun w h => List.mem_cons_of_mem _ (List.mem_append_right _ h)
  refine z_of (maxL := 6) (own := RX6) [(0, .ref (G.2.1 6)), (1, .int (nI a)), (2, .int (nI b)), (3, .int v), (4, .int (bI (z)))] rfl (by decide +kernel) rfl (Nat.le_of_ble_eq_true rfl) rfl (fun Z C E => ?_)
  refine z_iload_n (pc' := 1) C dX6_together_0 rfl 1 rfl rfl ?_
  refine z_i2l (pc' := 2) C dX6_together_1 rfl ?_
  refine z_lconst (v := 0) (pc' := 3) C dX6_together_2 rfl rfl ?_
  refine z_aload_n (pc' := 4) C dX6_together_3 rfl 0 rfl rfl ?_
  refine z_get (pc' := 7) C hU6 6 (by decide) q_o6 rfl 16 (by decide) (by decide +kernel) (v := .int (sc 12)) rfl dX6_together_4 rfl ?_
  refine z_cast (st' := [.int (nI m), .long 0, .long ((nI a).toInt64)]) rfl rfl rfl rfl (congrArg (fun z => Value.int z :: [.long 0, .long ((nI a).toInt64)]) hm) ?_
  refine z_iconst (v := 1) (pc' := 8) C dX6_together_7 rfl rfl ?_
  refine z_isub (pc' := 9) C dX6_together_8 rfl ?_
  refine z_i2l (pc' := 10) C dX6_together_9 rfl ?_
  refine z_cS (n := 3) (pc' := 13) (As := [.long ((nI a).toInt64), .long 0, .long (((nI m) - 1).toInt64)]) (rest := []) C (c_X6_inB l G sc ia la (nI a) 0 (nI m - 1) 0 (((nI m) - 1).toInt64) rfl rfl true (s_out_ok1 (by omega) (by omega))) gX6_together_X6_in rfl rfl rfl (by decide +kernel) (by decide) rfl rfl dX6_together_10 (Nat.le_of_ble_eq_true rfl) rfl (k_I ?_)
  show Z sc ia la [(0, .ref (G.2.1 6)), (1, .int (nI a)), (2, .int (nI b)), (3, .int v), (4, .int (bI (z)))] 13 [.int 1]
  refine z_if_eq (pc' := 16) C 37 dX6_together_13 rfl rfl (fun h_13 => absurd h_13 (by decide)) (fun h_13 => ?_)
  refine z_iload_n (pc' := 17) C dX6_together_16 rfl 2 rfl rfl ?_
  refine z_i2l (pc' := 18) C dX6_together_17 rfl ?_
  refine z_lconst (v := 0) (pc' := 19) C dX6_together_18 rfl rfl ?_
  refine z_aload_n (pc' := 20) C dX6_together_19 rfl 0 rfl rfl ?_
  refine z_get (pc' := 23) C hU6 6 (by decide) q_o6 rfl 16 (by decide) (by decide +kernel) (v := .int (sc 12)) rfl dX6_together_20 rfl ?_
  refine z_cast (st' := [.int (nI m), .long 0, .long ((nI b).toInt64)]) rfl rfl rfl rfl (congrArg (fun z => Value.int z :: [.long 0, .long ((nI b).toInt64)]) hm) ?_
  refine z_iconst (v := 1) (pc' := 24) C dX6_together_23 rfl rfl ?_
  refine z_isub (pc' := 25) C dX6_together_24 rfl ?_
  refine z_i2l (pc' := 26) C dX6_together_25 rfl ?_
  refine z_cS (n := 3) (pc' := 29) (As := [.long ((nI b).toInt64), .long 0, .long (((nI m) - 1).toInt64)]) (rest := []) C (c_X6_inB l G sc ia la (nI b) 0 (nI m - 1) 0 (((nI m) - 1).toInt64) rfl rfl true (s_out_ok1 (by omega) (by omega))) gX6_together_X6_in rfl rfl rfl (by decide +kernel) (by decide) rfl rfl dX6_together_26 (Nat.le_of_ble_eq_true rfl) rfl (k_I ?_)
  show Z sc ia la [(0, .ref (G.2.1 6)), (1, .int (nI a)), (2, .int (nI b)), (3, .int v), (4, .int (bI (z)))] 29 [.int 1]
  refine z_if_eq (pc' := 32) C 37 dX6_together_29 rfl rfl (fun h_29 => absurd h_29 (by decide)) (fun h_29 => ?_)
  refine z_iload_n (pc' := 33) C dX6_together_32 rfl 1 rfl rfl ?_
  refine z_iload_n (pc' := 34) C dX6_together_33 rfl 2 rfl rfl ?_
  refine z_icmpN_ne (a := a) (b := b) (pc' := 37) C 40 (by omega) (by omega) dX6_together_34 rfl rfl (fun h_34 => ?_) (fun h_34 => absurd h_34 (by exact hab))
  refine z_iload_n (pc' := 41) C dX6_together_40 rfl 3 rfl rfl ?_
  refine z_i2l (pc' := 42) C dX6_together_41 rfl ?_
  refine z_ldc2 (v := -10000) (pc' := 45) C (by decide +kernel) dX6_together_42 rfl ?_
  refine z_ldc2 (v := 10000) (pc' := 48) C (by decide +kernel) dX6_together_45 rfl ?_
  refine z_cS (n := 3) (pc' := 51) (As := [.long v.toInt64, .long (-10000), .long 10000]) (rest := []) C (c_X6_inB l G sc ia la v (-10000) 10000 (-10000) 10000 rfl rfl false ho) gX6_together_X6_in rfl rfl rfl (by decide +kernel) (by decide) rfl rfl dX6_together_48 (Nat.le_of_ble_eq_true rfl) rfl (k_I ?_)
  show Z sc ia la [(0, .ref (G.2.1 6)), (1, .int (nI a)), (2, .int (nI b)), (3, .int v), (4, .int (bI (z)))] 51 [.int 0]
  refine z_if_ne (pc' := 54) C 57 dX6_together_51 rfl rfl (fun h_51 => absurd h_51 (by decide)) (fun h_51 => ?_)
  refine z_bipush (v := -102) (pc' := 56) C dX6_together_54 rfl rfl ?_
  exact z_iret (E := E) rfl dX6_together_56 ⟨(congrArg (fun z => some (Value.int z)) rfl), rfl, rfl, rfl⟩

set_option maxHeartbeats 4000000 in
set_option maxRecDepth 100000 in
theorem c_X6_together_ok (l : Launch) (G : Gv) (sc : Sc) (ia : Ia) (la : La) (m : Nat) (hm : sc 12 = nI m) (hm1 : 1 ≤ m) (hM : m ≤ 5) (a b : Nat) (haj : a < m) (hbj : b < m) (hab : ¬ a = b) (v : Int32) (z : Bool) (ho : s_out v (-10000) 10000 = false)  : Ct l yX6_together wsX6_together ({ frames := 7, cells := 0, slots := 0, locals := 250 }) G [.ref (G.2.1 6), .int (nI a), .int (nI b), .int v, .int (bI (z))] sc ia la (fI (if ia 39 (5 * a + b) = 0 then 0 else 1) sc (va_up (va_up ia 39 (upd (upd (ia 39) (5 * a + b) (bI z)) (5 * b + a) (bI z))) 40 (upd (upd (ia 40) (5 * a + b) (if z = true then v else 0)) (5 * b + a) (if z = true then v else 0))) la) := by
  have hU6 : ∀ w ∈ u_ws RX6 TX6 25, w ∈ wsX6_together := fun w h => List.mem_cons_of_mem _ (List.mem_append_right _ h)
  refine z_of (maxL := 6) (own := RX6) [(0, .ref (G.2.1 6)), (1, .int (nI a)), (2, .int (nI b)), (3, .int v), (4, .int (bI (z)))] rfl (by decide +kernel) rfl (Nat.le_of_ble_eq_true rfl) rfl (fun Z C E => ?_)
  refine z_iload_n (pc' := 1) C dX6_together_0 rfl 1 rfl rfl ?_
  refine z_i2l (pc' := 2) C dX6_together_1 rfl ?_
  refine z_lconst (v := 0) (pc' := 3) C dX6_together_2 rfl rfl ?_
  refine z_aload_n (pc' := 4) C dX6_together_3 rfl 0 rfl rfl ?_
  refine z_get (pc' := 7) C hU6 6 (by decide) q_o6 rfl 16 (by decide) (by decide +kernel) (v := .int (sc 12)) rfl dX6_together_4 rfl ?_
  refine z_cast (st' := [.int (nI m), .long 0, .long ((nI a).toInt64)]) rfl rfl rfl rfl (congrArg (fun z => Value.int z :: [.long 0, .long ((nI a).toInt64)]) hm) ?_
  refine z_iconst (v := 1) (pc' := 8) C dX6_together_7 rfl rfl ?_
  refine z_isub (pc' := 9) C dX6_together_8 rfl ?_
  refine z_i2l (pc' := 10) C dX6_together_9 rfl ?_
  refine z_cS (n := 3) (pc' := 13) (As := [.long ((nI a).toInt64), .long 0, .long (((nI m) - 1).toInt64)]) (rest := []) C (c_X6_inB l G sc ia la (nI a) 0 (nI m - 1) 0 (((nI m) - 1).toInt64) rfl rfl true (s_out_ok1 (by omega) (by omega))) gX6_together_X6_in rfl rfl rfl (by decide +kernel) (by decide) rfl rfl dX6_together_10 (Nat.le_of_ble_eq_true rfl) rfl (k_I ?_)
  show Z sc ia la [(0, .ref (G.2.1 6)), (1, .int (nI a)), (2, .int (nI b)), (3, .int v), (4, .int (bI (z)))] 13 [.int 1]
  refine z_if_eq (pc' := 16) C 37 dX6_together_13 rfl rfl (fun h_13 => absurd h_13 (by decide)) (fun h_13 => ?_)
  refine z_iload_n (pc' := 17) C dX6_together_16 rfl 2 rfl rfl ?_
  refine z_i2l (pc' := 18) C dX6_together_17 rfl ?_
  refine z_lconst (v := 0) (pc' := 19) C dX6_together_18 rfl rfl ?_
  refine z_aload_n (pc' := 20) C dX6_together_19 rfl 0 rfl rfl ?_
  refine z_get (pc' := 23) C hU6 6 (by decide) q_o6 rfl 16 (by decide) (by decide +kernel) (v := .int (sc 12)) rfl dX6_together_20 rfl ?_
  refine z_cast (st' := [.int (nI m), .long 0, .long ((nI b).toInt64)]) rfl rfl rfl rfl (congrArg (fun z => Value.int z :: [.long 0, .long ((nI b).toInt64)]) hm) ?_
  refine z_iconst (v := 1) (pc' := 24) C dX6_together_23 rfl rfl ?_
  refine z_isub (pc' := 25) C dX6_together_24 rfl ?_
  refine z_i2l (pc' := 26) C dX6_together_25 rfl ?_
  refine z_cS (n := 3) (pc' := 29) (As := [.long ((nI b).toInt64), .long 0, .long (((nI m) - 1).toInt64)]) (rest := []) C (c_X6_inB l G sc ia la (nI b) 0 (nI m - 1) 0 (((nI m) - 1).toInt64) rfl rfl true (s_out_ok1 (by omega) (by omega))) gX6_together_X6_in rfl rfl rfl (by decide +kernel) (by decide) rfl rfl dX6_together_26 (Nat.le_of_ble_eq_true rfl) rfl (k_I ?_)
  show Z sc ia la [(0, .ref (G.2.1 6)), (1, .int (nI a)), (2, .int (nI b)), (3, .int v), (4, .int (bI (z)))] 29 [.int 1]
  refine z_if_eq (pc' := 32) C 37 dX6_together_29 rfl rfl (fun h_29 => absurd h_29 (by decide)) (fun h_29 => ?_)
  refine z_iload_n (pc' := 33) C dX6_together_32 rfl 1 rfl rfl ?_
  refine z_iload_n (pc' := 34) C dX6_together_33 rfl 2 rfl rfl ?_
  refine z_icmpN_ne (a := a) (b := b) (pc' := 37) C 40 (by omega) (by omega) dX6_together_34 rfl rfl (fun h_34 => ?_) (fun h_34 => absurd h_34 (by exact hab))
  refine z_iload_n (pc' := 41) C dX6_together_40 rfl 3 rfl rfl ?_
  refine z_i2l (pc' := 42) C dX6_together_41 rfl ?_
  refine z_ldc2 (v := -10000) (pc' := 45) C (by decide +kernel) dX6_together_42 rfl ?_
  refine z_ldc2 (v := 10000) (pc' := 48) C (by decide +kernel) dX6_together_45 rfl ?_
  refine z_cS (n := 3) (pc' := 51) (As := [.long v.toInt64, .long (-10000), .long 10000]) (rest := []) C (c_X6_inB l G sc ia la v (-10000) 10000 (-10000) 10000 rfl rfl true ho) gX6_together_X6_in rfl rfl rfl (by decide +kernel) (by decide) rfl rfl dX6_together_48 (Nat.le_of_ble_eq_true rfl) rfl (k_I ?_)
  show Z sc ia la [(0, .ref (G.2.1 6)), (1, .int (nI a)), (2, .int (nI b)), (3, .int v), (4, .int (bI (z)))] 51 [.int 1]
  refine z_if_ne (pc' := 54) C 57 dX6_together_51 rfl rfl (fun h_51 => ?_) (fun h_51 => absurd h_51 (by decide))
  refine z_aload_n (pc' := 58) C dX6_together_57 rfl 0 rfl rfl ?_
  refine z_get (pc' := 61) C hU6 6 (by decide) q_o6 rfl 17 (by decide) (by decide +kernel) (v := .ref (G.2.1 46)) rfl dX6_together_58 rfl ?_
  refine z_iconst (v := 5) (pc' := 62) C dX6_together_61 rfl rfl ?_
  refine z_iload_n (pc' := 63) C dX6_together_62 rfl 1 rfl rfl ?_
  refine z_imul (pc' := 64) C dX6_together_63 rfl ?_
  refine z_cast (st' := [.int (nI (5 * a)), .ref (G.2.1 46)]) rfl rfl rfl rfl (congrArg (fun z => Value.int z :: [.ref (G.2.1 46)]) (pk_mul _ _)) ?_
  refine z_iload_n (pc' := 65) C dX6_together_64 rfl 2 rfl rfl ?_
  refine z_iadd (pc' := 66) C dX6_together_65 rfl ?_
  refine z_cast (st' := [.int (nI (5 * a + b)), .ref (G.2.1 46)]) rfl rfl rfl rfl (congrArg (fun z => Value.int z :: [.ref (G.2.1 46)]) (nI_add _ _)) ?_
  refine z_zald (pc' := 67) C 46 (by decide) (N := 25) (i := 5 * a + b) (f := ia 39) q_i39 (by omega) (by decide) dX6_together_66 rfl ?_
  have J75 : Z sc ia la [(0, .ref (G.2.1 6)), (1, .int (nI a)), (2, .int (nI b)), (3, .int v), (4, .int (bI (z)))] 75 [.int (if ia 39 (5 * a + b) = 0 then 0 else 1)] := by
    refine z_istore (lv' := [(5, .int (if ia 39 (5 * a + b) = 0 then 0 else 1)), (0, .ref (G.2.1 6)), (1, .int (nI a)), (2, .int (nI b)), (3, .int v), (4, .int (bI (z)))]) (pc' := 77) C dX6_together_75 (by decide) rfl rfl ?_
    refine z_aload_n (pc' := 78) C dX6_together_77 rfl 1 rfl rfl ?_
    refine z_get (pc' := 81) C hU6 6 (by decide) q_o6 rfl 17 (by decide) (by decide +kernel) (v := .ref (G.2.1 46)) rfl dX6_together_78 rfl ?_
    refine z_iconst (v := 5) (pc' := 82) C dX6_together_81 rfl rfl ?_
    refine z_iload_n (pc' := 83) C dX6_together_82 rfl 2 rfl rfl ?_
    refine z_imul (pc' := 84) C dX6_together_83 rfl ?_
    refine z_cast (st' := [.int (nI (5 * a)), .ref (G.2.1 46)]) rfl rfl rfl rfl (congrArg (fun z => Value.int z :: [.ref (G.2.1 46)]) (pk_mul _ _)) ?_
    refine z_iload_n (pc' := 85) C dX6_together_84 rfl 3 rfl rfl ?_
    refine z_iadd (pc' := 86) C dX6_together_85 rfl ?_
    refine z_cast (st' := [.int (nI (5 * a + b)), .ref (G.2.1 46)]) rfl rfl rfl rfl (congrArg (fun z => Value.int z :: [.ref (G.2.1 46)]) (nI_add _ _)) ?_
    refine z_iload (pc' := 88) C dX6_together_86 5 rfl rfl ?_
    refine z_zast (pc' := 89) C 46 (by decide) (N := 25) (i := 5 * a + b) (f := ia 39) (bI_vnar _) q_i39 (by omega) (by decide) (q_u39 _) dX6_together_88 rfl ?_
    refine z_aload_n (pc' := 90) C dX6_together_89 rfl 1 rfl rfl ?_
    refine z_get (pc' := 93) C hU6 6 (by decide) q_o6 rfl 17 (by decide) (by decide +kernel) (v := .ref (G.2.1 46)) rfl dX6_together_90 rfl ?_
    refine z_iconst (v := 5) (pc' := 94) C dX6_together_93 rfl rfl ?_
    refine z_iload_n (pc' := 95) C dX6_together_94 rfl 3 rfl rfl ?_
    refine z_imul (pc' := 96) C dX6_together_95 rfl ?_
    refine z_cast (st' := [.int (nI (5 * b)), .ref (G.2.1 46)]) rfl rfl rfl rfl (congrArg (fun z => Value.int z :: [.ref (G.2.1 46)]) (pk_mul _ _)) ?_
    refine z_iload_n (pc' := 97) C dX6_together_96 rfl 2 rfl rfl ?_
    refine z_iadd (pc' := 98) C dX6_together_97 rfl ?_
    refine z_cast (st' := [.int (nI (5 * b + a)), .ref (G.2.1 46)]) rfl rfl rfl rfl (congrArg (fun z => Value.int z :: [.ref (G.2.1 46)]) (nI_add _ _)) ?_
    refine z_iload (pc' := 100) C dX6_together_98 5 rfl rfl ?_
    refine z_zast (pc' := 101) C 46 (by decide) (N := 25) (i := 5 * b + a) (f := upd (ia 39) (5 * a + b) (bI (z))) (bI_vnar _) q_i39 (by omega) (by decide) (q_uu39 _ _) dX6_together_100 rfl ?_
    refine z_aload_n (pc' := 102) C dX6_together_101 rfl 1 rfl rfl ?_
    refine z_get (pc' := 105) C hU6 6 (by decide) q_o6 rfl 18 (by decide) (by decide +kernel) (v := .ref (G.2.1 47)) rfl dX6_together_102 rfl ?_
    refine z_iconst (v := 5) (pc' := 106) C dX6_together_105 rfl rfl ?_
    refine z_iload_n (pc' := 107) C dX6_together_106 rfl 2 rfl rfl ?_
    refine z_imul (pc' := 108) C dX6_together_107 rfl ?_
    refine z_cast (st' := [.int (nI (5 * a)), .ref (G.2.1 47)]) rfl rfl rfl rfl (congrArg (fun z => Value.int z :: [.ref (G.2.1 47)]) (pk_mul _ _)) ?_
    refine z_iload_n (pc' := 109) C dX6_together_108 rfl 3 rfl rfl ?_
    refine z_iadd (pc' := 110) C dX6_together_109 rfl ?_
    refine z_cast (st' := [.int (nI (5 * a + b)), .ref (G.2.1 47)]) rfl rfl rfl rfl (congrArg (fun z => Value.int z :: [.ref (G.2.1 47)]) (nI_add _ _)) ?_
    refine z_iload (pc' := 112) C dX6_together_110 5 rfl rfl ?_
    have J120 : Z sc (va_up ia 39 (upd (upd (ia 39) (5 * a + b) (bI (z))) (5 * b + a) (bI (z)))) la [(5, .int (if ia 39 (5 * a + b) = 0 then 0 else 1)), (0, .ref (G.2.1 6)), (1, .int (nI a)), (2, .int (nI b)), (3, .int v), (4, .int (bI (z)))] 120 [.int (if z = true then v else 0), .int (nI (5 * a + b)), .ref (G.2.1 47)] := by
      refine z_iast (pc' := 121) C 47 (by decide) (N := 25) (i := 5 * a + b) (f := ia 40) q_i40 (by omega) (by decide) (q_u40 _) dX6_together_120 rfl ?_
      refine z_aload_n (pc' := 122) C dX6_together_121 rfl 1 rfl rfl ?_
      refine z_get (pc' := 125) C hU6 6 (by decide) q_o6 rfl 18 (by decide) (by decide +kernel) (v := .ref (G.2.1 47)) rfl dX6_together_122 rfl ?_
      refine z_iconst (v := 5) (pc' := 126) C dX6_together_125 rfl rfl ?_
      refine z_iload_n (pc' := 127) C dX6_together_126 rfl 3 rfl rfl ?_
      refine z_imul (pc' := 128) C dX6_together_127 rfl ?_
      refine z_cast (st' := [.int (nI (5 * b)), .ref (G.2.1 47)]) rfl rfl rfl rfl (congrArg (fun z => Value.int z :: [.ref (G.2.1 47)]) (pk_mul _ _)) ?_
      refine z_iload_n (pc' := 129) C dX6_together_128 rfl 2 rfl rfl ?_
      refine z_iadd (pc' := 130) C dX6_together_129 rfl ?_
      refine z_cast (st' := [.int (nI (5 * b + a)), .ref (G.2.1 47)]) rfl rfl rfl rfl (congrArg (fun z => Value.int z :: [.ref (G.2.1 47)]) (nI_add _ _)) ?_
      refine z_iload (pc' := 132) C dX6_together_130 5 rfl rfl ?_
      have J140 : Z sc (va_up (va_up ia 39 (upd (upd (ia 39) (5 * a + b) (bI (z))) (5 * b + a) (bI (z)))) 40 (upd (ia 40) (5 * a + b) (if z = true then v else 0))) la [(5, .int (if ia 39 (5 * a + b) = 0 then 0 else 1)), (0, .ref (G.2.1 6)), (1, .int (nI a)), (2, .int (nI b)), (3, .int v), (4, .int (bI (z)))] 140 [.int (if z = true then v else 0), .int (nI (5 * b + a)), .ref (G.2.1 47)] := by
        refine z_iast (pc' := 141) C 47 (by decide) (N := 25) (i := 5 * b + a) (f := upd (ia 40) (5 * a + b) (if z = true then v else 0)) q_i40 (by omega) (by decide) (q_uu40 _ _) dX6_together_140 rfl ?_
        refine z_iload (pc' := 143) C dX6_together_141 0 rfl rfl ?_
        exact z_iret (E := E) rfl dX6_together_143 ⟨(congrArg (fun z => some (Value.int z)) rfl), rfl, rfl, rfl⟩
      refine z_ifB_eq (pc' := 135) C 139 dX6_together_132 rfl rfl (fun h_132 => ?_) (fun h_132 => ?_)
      · refine z_iconst (v := 0) (pc' := 140) C dX6_together_139 rfl rfl ?_
        exact z_cast rfl rfl rfl rfl (by first | rfl | (simp [bI, h_34, h_132])) J140
      · refine z_iload_n (pc' := 136) C dX6_together_135 rfl 4 rfl rfl ?_
        refine z_goto (pc' := 140) C dX6_together_136 rfl ?_
        exact z_cast rfl rfl rfl rfl (by first | rfl | (simp [bI, h_34, h_132])) J140
    refine z_ifB_eq (pc' := 115) C 119 dX6_together_112 rfl rfl (fun h_112 => ?_) (fun h_112 => ?_)
    · refine z_iconst (v := 0) (pc' := 120) C dX6_together_119 rfl rfl ?_
      exact z_cast rfl rfl rfl rfl (by first | rfl | (simp [bI, h_34, h_112])) J120
    · refine z_iload_n (pc' := 116) C dX6_together_115 rfl 4 rfl rfl ?_
      refine z_goto (pc' := 120) C dX6_together_116 rfl ?_
      exact z_cast rfl rfl rfl rfl (by first | rfl | (simp [bI, h_34, h_112])) J120
  refine z_if_eq (pc' := 70) C 74 dX6_together_67 rfl rfl (fun h_67 => ?_) (fun h_67 => ?_)
  · refine z_iconst (v := 0) (pc' := 75) C dX6_together_74 rfl rfl ?_
    exact z_cast rfl rfl rfl rfl (by first | rfl | (simp [bI, h_34, h_67])) J75
  · refine z_iconst (v := 1) (pc' := 71) C dX6_together_70 rfl rfl ?_
    refine z_goto (pc' := 75) C dX6_together_71 rfl ?_
    exact z_cast rfl rfl rfl rfl (by first | rfl | (simp [bI, h_34, h_67])) J75

