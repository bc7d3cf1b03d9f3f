
def r_in (x a b : Int64) : Bool := !decide (x < a) && !decide (b < x)
theorem w_lt (a b : Int32) : a.toInt64 < b.toInt64 ↔ a < b := by
  rw [Int64.lt_iff_toInt_lt, Int32.lt_iff_toInt_lt, Int32.toInt_toInt64, Int32.toInt_toInt64]
theorem r_in32 (v a b : Int32) : r_in v.toInt64 a.toInt64 b.toInt64 = !s_out v a b := by
  have h : (b < v) ↔ ¬ v ≤ b := by rw [Int32.not_le]
  by_cases h1 : v < a <;> by_cases h2 : v ≤ b <;> simp [r_in, s_out, w_lt, h, h1, h2]
theorem nI_m1 {n : Nat} (h1 : 1 ≤ n) : nI n - 1 = nI (n - 1) := by
  obtain ⟨k, rfl⟩ : ∃ k, n = k + 1 := ⟨n - 1, by omega⟩
  rw [nI_pred]
  rfl
theorem r_place (i : Int32) {n : Nat} (h1 : 1 ≤ n) (hN : n ≤ 32) : r_in i.toInt64 0 (nI n - 1).toInt64 = s_has i (nI n) := by
  have e : r_in i.toInt64 0 (nI n - 1).toInt64 = !s_out i 0 (nI n - 1) := r_in32 i 0 (nI n - 1)
  rw [e, nI_m1 h1]
  have h : (i ≤ nI (n - 1)) ↔ ¬ nI n ≤ i := by
    rw [Int32.le_iff_toInt_le, Int32.le_iff_toInt_le, nI_toInt (by omega), nI_toInt (by omega)]
    omega
  by_cases h1 : i < 0 <;> by_cases h2 : nI n ≤ i <;> simp [s_out, s_has, h, h1, h2]
def r_gate (m v : Int32) : Bool := r_in m.toInt64 0 31 && r_in v.toInt64 0 31
theorem r_gate_eq (m v : Int32) : r_gate m v = s_gate m v := by
  have h1 : r_in m.toInt64 0 31 = !s_out m 0 31 := r_in32 m 0 31
  have h2 : r_in v.toInt64 0 31 = !s_out v 0 31 := r_in32 v 0 31
  unfold r_gate s_gate
  rw [h1, h2]
theorem r_pass_eq (j m v : Int32) : decide (j &&& m = v &&& m) = s_pass j m v := by
  unfold s_pass
  congr 1
  apply propext
  constructor
  · intro h
    have h2 : (j ^^^ v) &&& m = (j &&& m) ^^^ (v &&& m) := by
      apply Int32.toBitVec_inj.mp
      apply BitVec.eq_of_getLsbD_eq
      intro i hi
      simp
      cases j.toBitVec.getLsbD i <;> cases v.toBitVec.getLsbD i <;> cases m.toBitVec.getLsbD i <;> rfl
    rw [h2, h, Int32.xor_self]
  · intro h
    have h2 : (j &&& m) = (v &&& m) ^^^ ((j ^^^ v) &&& m) := by
      apply Int32.toBitVec_inj.mp
      apply BitVec.eq_of_getLsbD_eq
      intro i hi
      simp
      cases j.toBitVec.getLsbD i <;> cases v.toBitVec.getLsbD i <;> cases m.toBitVec.getLsbD i <;> rfl
    rw [h2, h, Int32.xor_zero]
theorem nI_and (a b : Nat) : nI a &&& nI b = nI (a &&& b) := by
  apply Int32.toBitVec_inj.mp
  show BitVec.ofNat 32 a &&& BitVec.ofNat 32 b = BitVec.ofNat 32 (a &&& b)
  rw [BitVec.ofNat_and]
def r_sg : Nat → Nat → Int32 → Int32
  | 0, _, s => s
  | f + 1, t, s => if t = 0 then s else r_sg f (t / 2) (if t % 2 = 1 then -s else s)
theorem r_sg_eq : ∀ a, a < 32 → ∀ b, b < 32 → r_sg 6 (a &&& b) 1 = s_sgn (nI a) (nI b) := by decide +kernel
theorem r_sg_0 (f : Nat) (s : Int32) : r_sg f 0 s = s := by cases f <;> rfl
/-- the sum over j below k of f j, with the half turns of a -/
def r_su (f : Nat → Int32) (a k : Nat) : Int32 := bx_sum (fun j => f j * s_sgn (nI a) (nI j)) k
def r_fa (f : Nat → Int32) (a k : Nat) : Int32 := bx_sum (fun i => f i * s_sgn (nI i) (nI a)) k
def r_wp (h p : Nat → Int32) (j : Nat) : Bool := decide (h j - h j / p j * p j = 0)
def r_po (h p : Nat → Int32) : Nat → (Nat → Int32)
  | 0 => h
  | j + 1 => upd (r_po h p j) j (r_po h p j j / p j)
def r_gb (h : Nat → Int32) (n i : Nat) : Bool := decide (r_su h i n - r_su h i n / nI n * nI n = 0) && r_in (r_su h i n / nI n).toInt64 (-1000) 1000
def r_bk (ne h : Nat → Int32) (n : Nat) : Nat → (Nat → Int32)
  | 0 => ne
  | i + 1 => upd (r_bk ne h n i) i (r_su h i n / nI n)
def r_gt (ne : Nat → Int32) (n i : Nat) (m v : Int32) : Nat → Int32
  | 0 => 0
  | j + 1 => r_gt ne n i m v j + (if s_pass (nI j) m v = true then r_fa ne j n * s_sgn (nI i) (nI j) else 0)
def r_pw (ne : Nat → Int32) (n : Nat) (m v : Int32) : Nat → Int64
  | 0 => 0
  | j + 1 => r_pw ne n m v j + (if s_pass (nI j) m v = true then (r_fa ne j n).toInt64 * (r_fa ne j n).toInt64 else 0)
def r_ct (f : Nat → Int32) : Nat → Int32
  | 0 => 0
  | j + 1 => r_ct f j + (if f j = 0 then 0 else 1)
def r_fl (a b : Int32) : Int32 := if 0 ≤ a then a / b else if a - a / b * b = 0 then a / b else a / b - 1

set_option maxHeartbeats 4000000 in
set_option maxRecDepth 100000 in
theorem c_X6_in (l : Launch) (G : Gv) (sc : Sc) (ia : Ia) (la : La) (x a b : Int64)  : Ct l yX6_in wsX6_in ({ frames := 0, cells := 0, slots := 0, locals := 0 }) G [.long x, .long a, .long b] sc ia la (fI (bI (r_in x a b)) sc ia la) := by
  refine z_of (maxL := 6) (own := RX6) [(0, .long x), (2, .long a), (4, .long b)] rfl (by decide +kernel) rfl (Nat.le_of_ble_eq_true rfl) rfl (fun Z C E => ?_)
  refine z_lload_n (pc' := 1) C dX6_in_0 rfl 0 rfl rfl ?_
  refine z_lload_n (pc' := 2) C dX6_in_1 rfl 1 rfl rfl ?_
  refine z_lcmp (pc' := 3) C dX6_in_2 rfl ?_
  refine z_if_lt (pc' := 6) C 17 dX6_in_3 rfl rfl (fun h_3 => ?_) (fun h_3 => ?_)
  · refine z_iconst (v := 0) (pc' := 18) C dX6_in_17 rfl rfl ?_
    exact z_zret (E := E) rfl dX6_in_18 (rfl) ⟨(congrArg (fun z => some (Value.int z)) (show _ = _ from (by first | rfl | ((try rw [lg_cmp_lt] at h_3); (try rw [lg_cmp_gt] at h_10); simp [r_in, bI, h_3])))), rfl, rfl, rfl⟩
  · refine z_lload_n (pc' := 7) C dX6_in_6 rfl 0 rfl rfl ?_
    refine z_lload (pc' := 9) C dX6_in_7 2 rfl rfl ?_
    refine z_lcmp (pc' := 10) C dX6_in_9 rfl ?_
    refine z_if_gt (pc' := 13) C 17 dX6_in_10 rfl rfl (fun h_10 => ?_) (fun h_10 => ?_)
    · refine z_iconst (v := 0) (pc' := 18) C dX6_in_17 rfl rfl ?_
      exact z_zret (E := E) rfl dX6_in_18 (rfl) ⟨(congrArg (fun z => some (Value.int z)) (show _ = _ from (by first | rfl | ((try rw [lg_cmp_lt] at h_3); (try rw [lg_cmp_gt] at h_10); simp [r_in, bI, h_3, h_10])))), rfl, rfl, rfl⟩
    · refine z_iconst (v := 1) (pc' := 14) C dX6_in_13 rfl rfl ?_
      refine z_goto (pc' := 18) C dX6_in_14 rfl ?_
      exact z_zret (E := E) rfl dX6_in_18 (rfl) ⟨(congrArg (fun z => some (Value.int z)) (show _ = _ from (by first | rfl | ((try rw [lg_cmp_lt] at h_3); (try rw [lg_cmp_gt] at h_10); simp [r_in, bI, h_3, h_10])))), rfl, rfl, rfl⟩

theorem c_X6_inB (l : Launch) (G : Gv) (sc : Sc) (ia : Ia) (la : La) (v a b : Int32) (L H : Int64) (hL : a.toInt64 = L) (hH : b.toInt64 = H) (z : Bool) (h : s_out v a b = !z) : Ct l yX6_in wsX6_in ({ frames := 0, cells := 0, slots := 0, locals := 0 }) G [.long v.toInt64, .long L, .long H] sc ia la (fI (bI z) sc ia la) := by
  subst hL
  subst hH
  have h9 := c_X6_in l G sc ia la v.toInt64 a.toInt64 b.toInt64
  rw [r_in32, h, Bool.not_not] at h9
  exact h9
set_option maxHeartbeats 4000000 in
set_option maxRecDepth 100000 in
theorem c_X6_floor (l : Launch) (G : Gv) (sc : Sc) (ia : Ia) (la : La) (a b : Int32) (hb : ¬ b = 0)  : Ct l yX6_floor wsX6_floor ({ frames := 0, cells := 0, slots := 0, locals := 0 }) G [.int a, .int b] sc ia la (fI (r_fl a b) sc ia la) := by
  refine z_of (maxL := 3) (own := RX6) [(0, .int a), (1, .int b)] rfl (by decide +kernel) rfl (Nat.le_of_ble_eq_true rfl) rfl (fun Z C E => ?_)
  refine z_iload_n (pc' := 1) C dX6_floor_0 rfl 0 rfl rfl ?_
  refine z_iload_n (pc' := 2) C dX6_floor_1 rfl 1 rfl rfl ?_
  refine z_idiv (pc' := 3) C dX6_floor_2 (hb) rfl ?_
  refine z_istore_n (lv' := [(2, .int (a / b)), (0, .int a), (1, .int b)]) (pc' := 4) C dX6_floor_3 rfl (by decide) rfl rfl ?_
  refine z_iload_n (pc' := 5) C dX6_floor_4 rfl 1 rfl rfl ?_
  refine z_if_ge (pc' := 8) C 20 dX6_floor_5 rfl rfl (fun h_5 => ?_) (fun h_5 => ?_)
  · refine z_iload_n (pc' := 21) C dX6_floor_20 rfl 0 rfl rfl ?_
    exact z_iret (E := E) rfl dX6_floor_21 ⟨(congrArg (fun z => some (Value.int z)) (show _ = _ from (by first | rfl | (simp [r_fl, h_5])))), rfl, rfl, rfl⟩
  · refine z_iload_n (pc' := 9) C dX6_floor_8 rfl 1 rfl rfl ?_
    refine z_iload_n (pc' := 10) C dX6_floor_9 rfl 2 rfl rfl ?_
    refine z_irem (pc' := 11) C dX6_floor_10 (hb) rfl ?_
    refine z_if_eq (pc' := 14) C 20 dX6_floor_11 rfl rfl (fun h_11 => ?_) (fun h_11 => ?_)
    · refine z_iload_n (pc' := 21) C dX6_floor_20 rfl 0 rfl rfl ?_
      exact z_iret (E := E) rfl dX6_floor_21 ⟨(congrArg (fun z => some (Value.int z)) (show _ = _ from (by first | rfl | (simp [r_fl, h_5, h_11])))), rfl, rfl, rfl⟩
    · refine z_iload_n (pc' := 15) C dX6_floor_14 rfl 0 rfl rfl ?_
      refine z_iconst (v := 1) (pc' := 16) C dX6_floor_15 rfl rfl ?_
      refine z_isub (pc' := 17) C dX6_floor_16 rfl ?_
      refine z_goto (pc' := 21) C dX6_floor_17 rfl ?_
      exact z_iret (E := E) rfl dX6_floor_21 ⟨(congrArg (fun z => some (Value.int z)) (show _ = _ from (by first | rfl | (simp [r_fl, h_5, h_11])))), rfl, rfl, rfl⟩

set_option maxHeartbeats 4000000 in
set_option maxRecDepth 100000 in
theorem c_X6_isPlace (l : Launch) (G : Gv) (sc : Sc) (ia : Ia) (la : La) (i : Int32)  : Ct l yX6_isPlace wsX6_isPlace ({ frames := 1, cells := 0, slots := 0, locals := 25 }) G [.ref (G.2.1 6), .int i] sc ia la (fI (bI (r_in i.toInt64 0 (sc 7 - 1).toInt64)) sc ia la) := by
  have hU6 : ∀ w ∈ u_ws RX6 TX6 25, w ∈ wsX6_isPlace := fun w h => List.mem_cons_of_mem _ (List.mem_append_right _ h)
  refine z_of (maxL := 2) (own := RX6) [(0, .ref (G.2.1 6)), (1, .int i)] rfl (by decide +kernel) rfl (Nat.le_of_ble_eq_true rfl) rfl (fun Z C E => ?_)
  refine z_iload_n (pc' := 1) C dX6_isPlace_0 rfl 1 rfl rfl ?_
  refine z_i2l (pc' := 2) C dX6_isPlace_1 rfl ?_
  refine z_lconst (v := 0) (pc' := 3) C dX6_isPlace_2 rfl rfl ?_
  refine z_aload_n (pc' := 4) C dX6_isPlace_3 rfl 0 rfl rfl ?_
  refine z_get (pc' := 7) C hU6 6 (by decide) q_o6 rfl 0 (by decide) (by decide +kernel) (v := .int (sc 7)) rfl dX6_isPlace_4 rfl ?_
  refine z_iconst (v := 1) (pc' := 8) C dX6_isPlace_7 rfl rfl ?_
  refine z_isub (pc' := 9) C dX6_isPlace_8 rfl ?_
  refine z_i2l (pc' := 10) C dX6_isPlace_9 rfl ?_
  refine z_cS (n := 3) (pc' := 13) (As := [.long i.toInt64, .long 0, .long (((sc 7) - 1).toInt64)]) (rest := []) C (c_X6_in l G sc ia la i.toInt64 0 (((sc 7) - 1).toInt64)) gX6_isPlace_X6_in rfl rfl rfl (by decide +kernel) (by decide) rfl rfl dX6_isPlace_10 (Nat.le_of_ble_eq_true rfl) rfl (k_I ?_)
  show Z sc ia la [(0, .ref (G.2.1 6)), (1, .int i)] 13 [.int (bI (r_in i.toInt64 0 (((sc 7) - 1).toInt64)))]
  exact z_zret (E := E) rfl dX6_isPlace_13 (bI_nar _) ⟨(congrArg (fun z => some (Value.int z)) rfl), rfl, rfl, rfl⟩

theorem c_X6_isPlace_ok (l : Launch) (G : Gv) (sc : Sc) (ia : Ia) (la : La) (n : Nat) (hn : sc 7 = nI n) (hN : n ≤ 32) (h1 : 1 ≤ n) (j : Nat) (hj : j < n) : Ct l yX6_isPlace wsX6_isPlace ({ frames := 1, cells := 0, slots := 0, locals := 25 }) G [.ref (G.2.1 6), .int (nI j)] sc ia la (fI 1 sc ia la) := by
  have h9 := c_X6_isPlace l G sc ia la (nI j)
  rw [hn, r_place (nI j) h1 hN, s_has_ok hN hj] at h9
  exact h9
theorem c_X6_isPlace_no (l : Launch) (G : Gv) (sc : Sc) (ia : Ia) (la : La) (n : Nat) (hn : sc 7 = nI n) (hN : n ≤ 32) (h1 : 1 ≤ n) (i : Int32) (hi : s_has i (nI n) = false) : Ct l yX6_isPlace wsX6_isPlace ({ frames := 1, cells := 0, slots := 0, locals := 25 }) G [.ref (G.2.1 6), .int i] sc ia la (fI 0 sc ia la) := by
  have h9 := c_X6_isPlace l G sc ia la i
  rw [hn, r_place i h1 hN, hi] at h9
  exact h9
set_option maxHeartbeats 4000000 in
set_option maxRecDepth 100000 in
theorem c_X6_sign (l : Launch) (G : Gv) (sc : Sc) (ia : Ia) (la : La) (a b : Nat) (ha : a < 32) (hb : b < 32)  : Ct l yX6_sign wsX6_sign ({ frames := 0, cells := 0, slots := 0, locals := 0 }) G [.int (nI a), .int (nI b)] sc ia la (fI (s_sgn (nI a) (nI b)) sc ia la) := by
  have hab : a &&& b < 32 := Nat.lt_of_le_of_lt Nat.and_le_left ha
  refine z_of (maxL := 4) (own := RX6) [(0, .int (nI a)), (1, .int (nI b))] rfl (by decide +kernel) rfl (Nat.le_of_ble_eq_true rfl) rfl (fun Z C E => ?_)
  refine z_iload_n (pc' := 1) C dX6_sign_0 rfl 0 rfl rfl ?_
  refine z_iload_n (pc' := 2) C dX6_sign_1 rfl 1 rfl rfl ?_
  refine z_iand (pc' := 3) C dX6_sign_2 rfl ?_
  refine z_cast (st' := [.int (nI (a &&& b))]) rfl rfl rfl rfl (congrArg (fun z => Value.int z :: []) (nI_and a b)) ?_
  refine z_istore_n (lv' := [(2, .int (nI (a &&& b))), (0, .int (nI a)), (1, .int (nI b))]) (pc' := 4) C dX6_sign_3 rfl (by decide) rfl rfl ?_
  refine z_iconst (v := 1) (pc' := 5) C dX6_sign_4 rfl rfl ?_
  refine z_istore_n (lv' := [(3, .int 1), (2, .int (nI (a &&& b))), (0, .int (nI a)), (1, .int (nI b))]) (pc' := 6) C dX6_sign_5 rfl (by decide) rfl rfl ?_
  have L6 : ∀ (fuel : Nat) (t : Nat) (x : Int32) (f : Nat) (ht : t < 32) (hf : t < 2 ^ f) (he : r_sg f t x = r_sg 6 (a &&& b) 1), t < fuel → Z sc ia la [(3, .int x), (2, .int (nI t))] 6 [] := by
    intro fuel
    induction fuel with
    | zero => intro t x f ht hf he hm6; exact absurd hm6 (Nat.not_lt_zero _)
    | succ fuel ih6 =>
      intro t x f ht hf he hm6
      refine z_iload_n (pc' := 7) C dX6_sign_6 rfl 1 rfl rfl ?_
      refine z_if_le (pc' := 10) C 31 dX6_sign_7 rfl rfl (fun h_7 => ?_) (fun h_7 => ?_)
      · refine z_iload_n (pc' := 32) C dX6_sign_31 rfl 0 rfl rfl ?_
        exact z_iret (E := E) rfl dX6_sign_32 ⟨(congrArg (fun z => some (Value.int z)) (show _ = _ from (by first | rfl | (have ht0 : t = 0 := (by cases t with | zero => rfl | succ k => exact absurd h_7 (nI_nle (by omega) (by omega))); subst ht0; rw [← r_sg_eq a ha b hb, ← he, r_sg_0])))), rfl, rfl, rfl⟩
      · refine z_iload_n (pc' := 11) C dX6_sign_10 rfl 1 rfl rfl ?_
        refine z_iconst (v := 2) (pc' := 12) C dX6_sign_11 rfl rfl ?_
        refine z_irem (pc' := 13) C dX6_sign_12 (by decide) rfl ?_
        refine z_cast (st' := [.int (nI (t % 2))]) rfl rfl rfl rfl (congrArg (fun z => Value.int z :: []) (pk_rem (a := t) (d := 2) (by omega) (by omega) (by omega))) ?_
        refine z_iconst (v := 1) (pc' := 14) C dX6_sign_13 rfl rfl ?_
        have J23 : Z sc ia la [(3, .int x), (2, .int (nI t))] 23 [.int (if t % 2 = 1 then -x else x)] := by
          refine z_istore_n (lv' := [(3, .int (if t % 2 = 1 then -x else x)), (2, .int (nI t))]) (pc' := 24) C dX6_sign_23 rfl (by decide) rfl rfl ?_
          refine z_iload_n (pc' := 25) C dX6_sign_24 rfl 1 rfl rfl ?_
          refine z_iconst (v := 2) (pc' := 26) C dX6_sign_25 rfl rfl ?_
          refine z_idiv (pc' := 27) C dX6_sign_26 (by decide) rfl ?_
          refine z_cast (st' := [.int (nI (t / 2))]) rfl rfl rfl rfl (congrArg (fun z => Value.int z :: []) (pk_div (a := t) (d := 2) (by omega) (by omega) (by omega))) ?_
          refine z_istore_n (lv' := [(2, .int (nI (t / 2))), (3, .int (if t % 2 = 1 then -x else x))]) (pc' := 28) C dX6_sign_27 rfl (by decide) rfl rfl ?_
          refine z_goto (pc' := 6) C dX6_sign_28 rfl ?_
          refine z_sub (lv' := [(3, .int (if t % 2 = 1 then -x else x)), (2, .int (nI (t / 2)))]) C [1, 0] rfl ?_
          exact z_cast rfl rfl rfl rfl rfl (ih6 (t / 2) _ (f - 1) (by omega) (by have hp : t / 2 < 2 ^ (f - 1) := (by cases f with | zero => (simp at hf; omega) | succ k => (rw [Nat.pow_succ] at hf; simp; omega)); exact hp) (by rw [← he]; have hp : ¬ nI t ≤ 0 := h_7; have ht0 : ¬ t = 0 := (fun q => hp (by rw [q]; decide)); cases f with | zero => (simp at hf; omega) | succ k => (simp [r_sg, ht0])) (by have ht0 : ¬ t = 0 := (fun q => h_7 (by rw [q]; decide)); omega))
        refine z_icmpN_ne (a := t % 2) (b := 1) (pc' := 17) C 22 (by omega) (by omega) dX6_sign_14 rfl rfl (fun h_14 => ?_) (fun h_14 => ?_)
        · refine z_iload_n (pc' := 23) C dX6_sign_22 rfl 0 rfl rfl ?_
          exact z_cast rfl rfl rfl rfl (by first | rfl | (simp [h_14])) J23
        · refine z_iload_n (pc' := 18) C dX6_sign_17 rfl 0 rfl rfl ?_
          refine z_ineg (pc' := 19) C dX6_sign_18 rfl ?_
          refine z_goto (pc' := 23) C dX6_sign_19 rfl ?_
          exact z_cast rfl rfl rfl rfl (by first | rfl | (simp [h_14])) J23
  refine z_sub (lv' := [(3, .int 1), (2, .int (nI (a &&& b)))]) C [0, 1] rfl ?_
  exact z_cast rfl rfl rfl rfl rfl (L6 (_ + 1) (a &&& b) _ 6 (by omega) (by exact Nat.lt_of_lt_of_le hab (by decide)) (by rfl) (Nat.lt_succ_self _))

set_option maxHeartbeats 4000000 in
set_option maxRecDepth 100000 in
theorem c_X6_farOf (l : Launch) (G : Gv) (sc : Sc) (ia : Ia) (la : La) (n : Nat) (hn : sc 7 = nI n) (hN : n ≤ 32) (j : Nat) (hj : j < 32)  : Ct l yX6_farOf wsX6_farOf ({ frames := 1, cells := 0, slots := 0, locals := 23 }) G [.ref (G.2.1 6), .int (nI j)] sc ia la (fI (r_fa (ia 29) j n) sc ia la) := by
  have hU6 : ∀ w ∈ u_ws RX6 TX6 25, w ∈ wsX6_farOf := fun w h => List.mem_cons_of_mem _ (List.mem_append_right _ h)
  refine z_of (maxL := 4) (own := RX6) [(0, .ref (G.2.1 6)), (1, .int (nI j))] rfl (by decide +kernel) rfl (Nat.le_of_ble_eq_true rfl) rfl (fun Z C E => ?_)
  refine z_iconst (v := 0) (pc' := 1) C dX6_farOf_0 rfl rfl ?_
  refine z_istore_n (lv' := [(2, .int 0), (0, .ref (G.2.1 6)), (1, .int (nI j))]) (pc' := 2) C dX6_farOf_1 rfl (by decide) rfl rfl ?_
  refine z_iconst (v := 0) (pc' := 3) C dX6_farOf_2 rfl rfl ?_
  refine z_istore_n (lv' := [(3, .int 0), (2, .int 0), (0, .ref (G.2.1 6)), (1, .int (nI j))]) (pc' := 4) C dX6_farOf_3 rfl (by decide) rfl rfl ?_
  have L4 : ∀ (fuel : Nat) (i : Nat) (hi : i ≤ n), n - i < fuel → Z sc ia la [(3, .int (nI i)), (2, .int (r_fa (ia 29) j i)), (0, .ref (G.2.1 6)), (1, .int (nI j))] 4 [] := by
    intro fuel
    induction fuel with
    | zero => intro i hi hm4; exact absurd hm4 (Nat.not_lt_zero _)
    | succ fuel ih4 =>
      intro i hi hm4
      refine z_iload_n (pc' := 5) C dX6_farOf_4 rfl 0 rfl rfl ?_
      refine z_aload_n (pc' := 6) C dX6_farOf_5 rfl 2 rfl rfl ?_
      refine z_get (pc' := 9) C hU6 6 (by decide) q_o6 rfl 0 (by decide) (by decide +kernel) (v := .int (sc 7)) rfl dX6_farOf_6 rfl ?_
      refine z_cast (st' := [.int (nI n), .int (nI i)]) rfl rfl rfl rfl (congrArg (fun z => Value.int z :: [.int (nI i)]) hn) ?_
      refine z_icmpN_ge (a := i) (b := n) (pc' := 12) C 33 (by omega) (by omega) dX6_farOf_9 rfl rfl (fun h_9 => ?_) (fun h_9 => ?_)
      · refine z_iload_n (pc' := 34) C dX6_farOf_33 rfl 1 rfl rfl ?_
        exact z_iret (E := E) rfl dX6_farOf_34 ⟨(congrArg (fun z => some (Value.int z)) (show _ = _ from (by first | rfl | (have e9 : i = n := (by omega); subst e9; rfl)))), rfl, rfl, rfl⟩
      · refine z_iload_n (pc' := 13) C dX6_farOf_12 rfl 1 rfl rfl ?_
        refine z_aload_n (pc' := 14) C dX6_farOf_13 rfl 2 rfl rfl ?_
        refine z_get (pc' := 17) C hU6 6 (by decide) q_o6 rfl 1 (by decide) (by decide +kernel) (v := .ref (G.2.1 36)) rfl dX6_farOf_14 rfl ?_
        refine z_iload_n (pc' := 18) C dX6_farOf_17 rfl 0 rfl rfl ?_
        refine z_iald (pc' := 19) C 36 (by decide) (N := 32) (i := i) (f := ia 29) q_i29 (by omega) (by decide) dX6_farOf_18 rfl ?_
        refine z_iload_n (pc' := 20) C dX6_farOf_19 rfl 0 rfl rfl ?_
        refine z_iload_n (pc' := 21) C dX6_farOf_20 rfl 3 rfl rfl ?_
        refine z_cS (n := 2) (pc' := 24) (As := [.int (nI i), .int (nI j)]) (rest := [.int ((ia 29) i), .int (r_fa (ia 29) j i)]) C (c_X6_sign l G sc ia la i j (by omega) (by omega) ) gX6_farOf_X6_sign rfl rfl rfl (by decide +kernel) (by decide) rfl rfl dX6_farOf_21 (Nat.le_of_ble_eq_true rfl) rfl (k_I ?_)
        show Z sc ia la [(3, .int (nI i)), (2, .int (r_fa (ia 29) j i)), (0, .ref (G.2.1 6)), (1, .int (nI j))] 24 [.int (s_sgn (nI i) (nI j)), .int ((ia 29) i), .int (r_fa (ia 29) j i)]
        refine z_imul (pc' := 25) C dX6_farOf_24 rfl ?_
        refine z_iadd (pc' := 26) C dX6_farOf_25 rfl ?_
        refine z_istore_n (lv' := [(2, .int ((r_fa (ia 29) j i) + (((ia 29) i) * (s_sgn (nI i) (nI j))))), (3, .int (nI i)), (0, .ref (G.2.1 6)), (1, .int (nI j))]) (pc' := 27) C dX6_farOf_26 rfl (by decide) rfl rfl ?_
        refine z_iinc (v := nI (i + 1)) (k9 := 1) (lv' := [(3, .int (nI (i + 1))), (2, .int ((r_fa (ia 29) j i) + (((ia 29) i) * (s_sgn (nI i) (nI j))))), (0, .ref (G.2.1 6)), (1, .int (nI j))]) (pc' := 30) C dX6_farOf_27 rfl (nI_1 i) (by decide) rfl rfl ?_
        refine z_goto (pc' := 4) C dX6_farOf_30 rfl ?_
        exact z_cast rfl rfl rfl rfl rfl (ih4 (i + 1) (by omega) (by omega))
  exact z_cast rfl rfl rfl rfl rfl (L4 (_ + 1) 0 (by omega) (Nat.lt_succ_self _))

set_option maxHeartbeats 4000000 in
set_option maxRecDepth 100000 in
theorem c_X6_backOf (l : Launch) (G : Gv) (sc : Sc) (ia : Ia) (la : La) (n : Nat) (hn : sc 7 = nI n) (hN : n ≤ 32) (i : Nat) (hi : i < 32)  : Ct l yX6_backOf wsX6_backOf ({ frames := 1, cells := 0, slots := 0, locals := 23 }) G [.ref (G.2.1 6), .int (nI i)] sc ia la (fI (r_su (ia 30) i n) sc ia la) := by
  have hU6 : ∀ w ∈ u_ws RX6 TX6 25, w ∈ wsX6_backOf := fun w h => List.mem_cons_of_mem _ (List.mem_append_right _ h)
  refine z_of (maxL := 4) (own := RX6) [(0, .ref (G.2.1 6)), (1, .int (nI i))] rfl (by decide +kernel) rfl (Nat.le_of_ble_eq_true rfl) rfl (fun Z C E => ?_)
  refine z_iconst (v := 0) (pc' := 1) C dX6_backOf_0 rfl rfl ?_
  refine z_istore_n (lv' := [(2, .int 0), (0, .ref (G.2.1 6)), (1, .int (nI i))]) (pc' := 2) C dX6_backOf_1 rfl (by decide) rfl rfl ?_
  refine z_iconst (v := 0) (pc' := 3) C dX6_backOf_2 rfl rfl ?_
  refine z_istore_n (lv' := [(3, .int 0), (2, .int 0), (0, .ref (G.2.1 6)), (1, .int (nI i))]) (pc' := 4) C dX6_backOf_3 rfl (by decide) rfl rfl ?_
  have L4 : ∀ (fuel : Nat) (j : Nat) (hj : j ≤ n), n - j < fuel → Z sc ia la [(3, .int (nI j)), (2, .int (r_su (ia 30) i j)), (0, .ref (G.2.1 6)), (1, .int (nI i))] 4 [] := by
    intro fuel
    induction fuel with
    | zero => intro j hj hm4; exact absurd hm4 (Nat.not_lt_zero _)
    | succ fuel ih4 =>
      intro j hj hm4
      refine z_iload_n (pc' := 5) C dX6_backOf_4 rfl 0 rfl rfl ?_
      refine z_aload_n (pc' := 6) C dX6_backOf_5 rfl 2 rfl rfl ?_
      refine z_get (pc' := 9) C hU6 6 (by decide) q_o6 rfl 0 (by decide) (by decide +kernel) (v := .int (sc 7)) rfl dX6_backOf_6 rfl ?_
      refine z_cast (st' := [.int (nI n), .int (nI j)]) rfl rfl rfl rfl (congrArg (fun z => Value.int z :: [.int (nI j)]) hn) ?_
      refine z_icmpN_ge (a := j) (b := n) (pc' := 12) C 33 (by omega) (by omega) dX6_backOf_9 rfl rfl (fun h_9 => ?_) (fun h_9 => ?_)
      · refine z_iload_n (pc' := 34) C dX6_backOf_33 rfl 1 rfl rfl ?_
        exact z_iret (E := E) rfl dX6_backOf_34 ⟨(congrArg (fun z => some (Value.int z)) (show _ = _ from (by first | rfl | (have e9 : j = n := (by omega); subst e9; rfl)))), rfl, rfl, rfl⟩
      · refine z_iload_n (pc' := 13) C dX6_backOf_12 rfl 1 rfl rfl ?_
        refine z_aload_n (pc' := 14) C dX6_backOf_13 rfl 2 rfl rfl ?_
        refine z_get (pc' := 17) C hU6 6 (by decide) q_o6 rfl 2 (by decide) (by decide +kernel) (v := .ref (G.2.1 37)) rfl dX6_backOf_14 rfl ?_
        refine z_iload_n (pc' := 18) C dX6_backOf_17 rfl 0 rfl rfl ?_
        refine z_iald (pc' := 19) C 37 (by decide) (N := 32) (i := j) (f := ia 30) q_i30 (by omega) (by decide) dX6_backOf_18 rfl ?_
        refine z_iload_n (pc' := 20) C dX6_backOf_19 rfl 3 rfl rfl ?_
        refine z_iload_n (pc' := 21) C dX6_backOf_20 rfl 0 rfl rfl ?_
        refine z_cS (n := 2) (pc' := 24) (As := [.int (nI i), .int (nI j)]) (rest := [.int ((ia 30) j), .int (r_su (ia 30) i j)]) C (c_X6_sign l G sc ia la i j (by omega) (by omega) ) gX6_backOf_X6_sign rfl rfl rfl (by decide +kernel) (by decide) rfl rfl dX6_backOf_21 (Nat.le_of_ble_eq_true rfl) rfl (k_I ?_)
        show Z sc ia la [(3, .int (nI j)), (2, .int (r_su (ia 30) i j)), (0, .ref (G.2.1 6)), (1, .int (nI i))] 24 [.int (s_sgn (nI i) (nI j)), .int ((ia 30) j), .int (r_su (ia 30) i j)]
        refine z_imul (pc' := 25) C dX6_backOf_24 rfl ?_
        refine z_iadd (pc' := 26) C dX6_backOf_25 rfl ?_
        refine z_istore_n (lv' := [(2, .int ((r_su (ia 30) i j) + (((ia 30) j) * (s_sgn (nI i) (nI j))))), (3, .int (nI j)), (0, .ref (G.2.1 6)), (1, .int (nI i))]) (pc' := 27) C dX6_backOf_26 rfl (by decide) rfl rfl ?_
        refine z_iinc (v := nI (j + 1)) (k9 := 1) (lv' := [(3, .int (nI (j + 1))), (2, .int ((r_su (ia 30) i j) + (((ia 30) j) * (s_sgn (nI i) (nI j))))), (0, .ref (G.2.1 6)), (1, .int (nI i))]) (pc' := 30) C dX6_backOf_27 rfl (nI_1 j) (by decide) rfl rfl ?_
        refine z_goto (pc' := 4) C dX6_backOf_30 rfl ?_
        exact z_cast rfl rfl rfl rfl rfl (ih4 (j + 1) (by omega) (by omega))
  exact z_cast rfl rfl rfl rfl rfl (L4 (_ + 1) 0 (by omega) (Nat.lt_succ_self _))

set_option maxHeartbeats 4000000 in
set_option maxRecDepth 100000 in
theorem c_X6_near_no (l : Launch) (G : Gv) (sc : Sc) (ia : Ia) (la : La) (n : Nat) (hn : sc 7 = nI n) (hN : n ≤ 32) (h1 : 1 ≤ n) (i : Int32) (hno : s_has i (nI n) = false) (v : Int32)  : Ct l yX6_near wsX6_near ({ frames := 7, cells := 0, slots := 0, locals := 250 }) G [.ref (G.2.1 6), .int i, .int v] sc ia la (fI (-10101) sc ia la) := by
  refine z_of (maxL := 4) (own := RX6) [(0, .ref (G.2.1 6)), (1, .int i), (2, .int v)] rfl (by decide +kernel) rfl (Nat.le_of_ble_eq_true rfl) rfl (fun Z C E => ?_)
  refine z_aload_n (pc' := 1) C dX6_near_0 rfl 0 rfl rfl ?_
  refine z_iload_n (pc' := 2) C dX6_near_1 rfl 1 rfl rfl ?_
  refine z_cV (n := 1) (pc' := 5) (As := [.int i]) (rest := []) C 6 (c_X6_isPlace_no l G sc ia la n hn hN h1 i hno) gX6_near_X6_isPlace rfl rfl rfl rfl (by decide +kernel) (by decide) rfl (by decide) q_o6 rfl rfl dX6_near_2 (Nat.le_of_ble_eq_true rfl) rfl (k_I ?_)
  show Z sc ia la [(0, .ref (G.2.1 6)), (1, .int i), (2, .int v)] 5 [.int 0]
  refine z_if_ne (pc' := 8) C 12 dX6_near_5 rfl rfl (fun h_5 => absurd h_5 (by decide)) (fun h_5 => ?_)
  refine z_sipush (v := -10101) (pc' := 11) C dX6_near_8 rfl rfl ?_
  exact z_iret (E := E) rfl dX6_near_11 ⟨(congrArg (fun z => some (Value.int z)) rfl), rfl, rfl, rfl⟩

set_option maxHeartbeats 4000000 in
set_option maxRecDepth 100000 in
theorem c_X6_tell_no (l : Launch) (G : Gv) (sc : Sc) (ia : Ia) (la : La) (n : Nat) (hn : sc 7 = nI n) (hN : n ≤ 32) (h1 : 1 ≤ n) (i : Int32) (hno : s_has i (nI n) = false) (v : Int32)  : Ct l yX6_tell wsX6_tell ({ frames := 7, cells := 0, slots := 0, locals := 250 }) G [.ref (G.2.1 6), .int i, .int v] sc ia la (fI (-10000001) sc ia la) := by
  refine z_of (maxL := 4) (own := RX6) [(0, .ref (G.2.1 6)), (1, .int i), (2, .int v)] rfl (by decide +kernel) rfl (Nat.le_of_ble_eq_true rfl) rfl (fun Z C E => ?_)
  refine z_aload_n (pc' := 1) C dX6_tell_0 rfl 0 rfl rfl ?_
  refine z_iload_n (pc' := 2) C dX6_tell_1 rfl 1 rfl rfl ?_
  refine z_cV (n := 1) (pc' := 5) (As := [.int i]) (rest := []) C 6 (c_X6_isPlace_no l G sc ia la n hn hN h1 i hno) gX6_tell_X6_isPlace rfl rfl rfl rfl (by decide +kernel) (by decide) rfl (by decide) q_o6 rfl rfl dX6_tell_2 (Nat.le_of_ble_eq_true rfl) rfl (k_I ?_)
  show Z sc ia la [(0, .ref (G.2.1 6)), (1, .int i), (2, .int v)] 5 [.int 0]
  refine z_if_ne (pc' := 8) C 11 dX6_tell_5 rfl rfl (fun h_5 => absurd h_5 (by decide)) (fun h_5 => ?_)
  refine z_ldc (v := -10000001) (pc' := 10) C (by decide +kernel) dX6_tell_8 rfl ?_
  exact z_iret (E := E) rfl dX6_tell_10 ⟨(congrArg (fun z => some (Value.int z)) rfl), rfl, rfl, rfl⟩

set_option maxHeartbeats 4000000 in
set_option maxRecDepth 100000 in
theorem c_X6_probe_no (l : Launch) (G : Gv) (sc : Sc) (ia : Ia) (la : La) (n : Nat) (hn : sc 7 = nI n) (hN : n ≤ 32) (h1 : 1 ≤ n) (i : Int32) (hno : s_has i (nI n) = false) (v : Int32)  : Ct l yX6_probe wsX6_probe ({ frames := 7, cells := 0, slots := 0, locals := 250 }) G [.ref (G.2.1 6), .int i, .int v] sc ia la (fI (-101) sc ia la) := by
  refine z_of (maxL := 4) (own := RX6) [(0, .ref (G.2.1 6)), (1, .int i), (2, .int v)] rfl (by decide +kernel) rfl (Nat.le_of_ble_eq_true rfl) rfl (fun Z C E => ?_)
  refine z_aload_n (pc' := 1) C dX6_probe_0 rfl 0 rfl rfl ?_
  refine z_iload_n (pc' := 2) C dX6_probe_1 rfl 1 rfl rfl ?_
  refine z_cV (n := 1) (pc' := 5) (As := [.int i]) (rest := []) C 6 (c_X6_isPlace_no l G sc ia la n hn hN h1 i hno) gX6_probe_X6_isPlace rfl rfl rfl rfl (by decide +kernel) (by decide) rfl (by decide) q_o6 rfl rfl dX6_probe_2 (Nat.le_of_ble_eq_true rfl) rfl (k_I ?_)
  show Z sc ia la [(0, .ref (G.2.1 6)), (1, .int i), (2, .int v)] 5 [.int 0]
  refine z_if_ne (pc' := 8) C 11 dX6_probe_5 rfl rfl (fun h_5 => absurd h_5 (by decide)) (fun h_5 => ?_)
  refine z_bipush (v := -101) (pc' := 10) C dX6_probe_8 rfl rfl ?_
  exact z_iret (E := E) rfl dX6_probe_10 ⟨(congrArg (fun z => some (Value.int z)) rfl), rfl, rfl, rfl⟩

set_option maxHeartbeats 4000000 in
set_option maxRecDepth 100000 in
theorem c_X6_limit_no (l : Launch) (G : Gv) (sc : Sc) (ia : Ia) (la : La) (n : Nat) (hn : sc 7 = nI n) (hN : n ≤ 32) (h1 : 1 ≤ n) (i : Int32) (hno : s_has i (nI n) = false) (v : Int32)  : Ct l yX6_limit wsX6_limit ({ frames := 7, cells := 0, slots := 0, locals := 250 }) G [.ref (G.2.1 6), .int i, .int v] sc ia la (fI (-101) sc ia la) := by
  refine z_of (maxL := 4) (own := RX6) [(0, .ref (G.2.1 6)), (1, .int i), (2, .int v)] rfl (by decide +kernel) rfl (Nat.le_of_ble_eq_true rfl) rfl (fun Z C E => ?_)
  refine z_aload_n (pc' := 1) C dX6_limit_0 rfl 0 rfl rfl ?_
  refine z_iload_n (pc' := 2) C dX6_limit_1 rfl 1 rfl rfl ?_
  refine z_cV (n := 1) (pc' := 5) (As := [.int i]) (rest := []) C 6 (c_X6_isPlace_no l G sc ia la n hn hN h1 i hno) gX6_limit_X6_isPlace rfl rfl rfl rfl (by decide +kernel) (by decide) rfl (by decide) q_o6 rfl rfl dX6_limit_2 (Nat.le_of_ble_eq_true rfl) rfl (k_I ?_)
  show Z sc ia la [(0, .ref (G.2.1 6)), (1, .int i), (2, .int v)] 5 [.int 0]
  refine z_if_ne (pc' := 8) C 11 dX6_limit_5 rfl rfl (fun h_5 => absurd h_5 (by decide)) (fun h_5 => ?_)
  refine z_bipush (v := -101) (pc' := 10) C dX6_limit_8 rfl rfl ?_
  exact z_iret (E := E) rfl dX6_limit_10 ⟨(congrArg (fun z => some (Value.int z)) rfl), rfl, rfl, rfl⟩

set_option maxHeartbeats 4000000 in
set_option maxRecDepth 100000 in
theorem c_X6_far_no (l : Launch) (G : Gv) (sc : Sc) (ia : Ia) (la : La) (n : Nat) (hn : sc 7 = nI n) (hN : n ≤ 32) (h1 : 1 ≤ n) (i : Int32) (hno : s_has i (nI n) = false)   : Ct l yX6_far wsX6_far ({ frames := 7, cells := 0, slots := 0, locals := 250 }) G [.ref (G.2.1 6), .int i] sc ia la (fI (-1000001) sc ia la) := by
  refine z_of (maxL := 2) (own := RX6) [(0, .ref (G.2.1 6)), (1, .int i)] rfl (by decide +kernel) rfl (Nat.le_of_ble_eq_true rfl) rfl (fun Z C E => ?_)
  refine z_aload_n (pc' := 1) C dX6_far_0 rfl 0 rfl rfl ?_
  refine z_iload_n (pc' := 2) C dX6_far_1 rfl 1 rfl rfl ?_
  refine z_cV (n := 1) (pc' := 5) (As := [.int i]) (rest := []) C 6 (c_X6_isPlace_no l G sc ia la n hn hN h1 i hno) gX6_far_X6_isPlace rfl rfl rfl rfl (by decide +kernel) (by decide) rfl (by decide) q_o6 rfl rfl dX6_far_2 (Nat.le_of_ble_eq_true rfl) rfl (k_I ?_)
  show Z sc ia la [(0, .ref (G.2.1 6)), (1, .int i)] 5 [.int 0]
  refine z_if_eq (pc' := 8) C 16 dX6_far_5 rfl rfl (fun h_5 => ?_) (fun h_5 => absurd h_5 (by decide))
  refine z_ldc (v := -1000001) (pc' := 18) C (by decide +kernel) dX6_far_16 rfl ?_
  exact z_iret (E := E) rfl dX6_far_18 ⟨(congrArg (fun z => some (Value.int z)) rfl), rfl, rfl, rfl⟩

set_option maxHeartbeats 4000000 in
set_option maxRecDepth 100000 in
theorem c_X6_seen_no (l : Launch) (G : Gv) (sc : Sc) (ia : Ia) (la : La) (n : Nat) (hn : sc 7 = nI n) (hN : n ≤ 32) (h1 : 1 ≤ n) (i : Int32) (hno : s_has i (nI n) = false)   : Ct l yX6_seen wsX6_seen ({ frames := 7, cells := 0, slots := 0, locals := 250 }) G [.ref (G.2.1 6), .int i] sc ia la (fI (-10000001) sc ia la) := by
  refine z_of (maxL := 2) (own := RX6) [(0, .ref (G.2.1 6)), (1, .int i)] rfl (by decide +kernel) rfl (Nat.le_of_ble_eq_true rfl) rfl (fun Z C E => ?_)
  refine z_aload_n (pc' := 1) C dX6_seen_0 rfl 0 rfl rfl ?_
  refine z_iload_n (pc' := 2) C dX6_seen_1 rfl 1 rfl rfl ?_
  refine z_cV (n := 1) (pc' := 5) (As := [.int i]) (rest := []) C 6 (c_X6_isPlace_no l G sc ia la n hn hN h1 i hno) gX6_seen_X6_isPlace rfl rfl rfl rfl (by decide +kernel) (by decide) rfl (by decide) q_o6 rfl rfl dX6_seen_2 (Nat.le_of_ble_eq_true rfl) rfl (k_I ?_)
  show Z sc ia la [(0, .ref (G.2.1 6)), (1, .int i)] 5 [.int 0]
  refine z_if_eq (pc' := 8) C 23 dX6_seen_5 rfl rfl (fun h_5 => ?_) (fun h_5 => absurd h_5 (by decide))
  refine z_ldc (v := -10000001) (pc' := 25) C (by decide +kernel) dX6_seen_23 rfl ?_
  exact z_iret (E := E) rfl dX6_seen_25 ⟨(congrArg (fun z => some (Value.int z)) rfl), rfl, rfl, rfl⟩

set_option maxHeartbeats 4000000 in
set_option maxRecDepth 100000 in
theorem c_X6_gated_no (l : Launch) (G : Gv) (sc : Sc) (ia : Ia) (la : La) (n : Nat) (hn : sc 7 = nI n) (hN : n ≤ 32) (h1 : 1 ≤ n) (i : Int32) (hno : s_has i (nI n) = false) (m v : Int32)  : Ct l yX6_gated wsX6_gated ({ frames := 7, cells := 0, slots := 0, locals := 250 }) G [.ref (G.2.1 6), .int i, .int m, .int v] sc ia la (fI (-10000001) sc ia la) := by
  refine z_of (maxL := 6) (own := RX6) [(0, .ref (G.2.1 6)), (1, .int i), (2, .int m), (3, .int v)] rfl (by decide +kernel) rfl (Nat.le_of_ble_eq_true rfl) rfl (fun Z C E => ?_)
  refine z_aload_n (pc' := 1) C dX6_gated_0 rfl 0 rfl rfl ?_
  refine z_iload_n (pc' := 2) C dX6_gated_1 rfl 1 rfl rfl ?_
  refine z_cV (n := 1) (pc' := 5) (As := [.int i]) (rest := []) C 6 (c_X6_isPlace_no l G sc ia la n hn hN h1 i hno) gX6_gated_X6_isPlace rfl rfl rfl rfl (by decide +kernel) (by decide) rfl (by decide) q_o6 rfl rfl dX6_gated_2 (Nat.le_of_ble_eq_true rfl) rfl (k_I ?_)
  show Z sc ia la [(0, .ref (G.2.1 6)), (1, .int i), (2, .int m), (3, .int v)] 5 [.int 0]
  refine z_if_ne (pc' := 8) C 11 dX6_gated_5 rfl rfl (fun h_5 => absurd h_5 (by decide)) (fun h_5 => ?_)
  refine z_ldc (v := -10000001) (pc' := 10) C (by decide +kernel) dX6_gated_8 rfl ?_
  exact z_iret (E := E) rfl dX6_gated_10 ⟨(congrArg (fun z => some (Value.int z)) rfl), rfl, rfl, rfl⟩

set_option maxHeartbeats 4000000 in
set_option maxRecDepth 100000 in
theorem c_X6_lose_no (l : Launch) (G : Gv) (sc : Sc) (ia : Ia) (la : La) (n : Nat) (hn : sc 7 = nI n) (hN : n ≤ 32) (h1 : 1 ≤ n) (i : Int32) (hno : s_has i (nI n) = false) (z : Bool)  : Ct l yX6_lose wsX6_lose ({ frames := 7, cells := 0, slots := 0, locals := 250 }) G [.ref (G.2.1 6), .int i, .int (bI (z))] sc ia la (fI (-101) sc ia la) := by
  refine z_of (maxL := 4) (own := RX6) [(0, .ref (G.2.1 6)), (1, .int i), (2, .int (bI (z)))] rfl (by decide +kernel) rfl (Nat.le_of_ble_eq_true rfl) rfl (fun Z C E => ?_)
  refine z_aload_n (pc' := 1) C dX6_lose_0 rfl 0 rfl rfl ?_
  refine z_iload_n (pc' := 2) C dX6_lose_1 rfl 1 rfl rfl ?_
  refine z_cV (n := 1) (pc' := 5) (As := [.int i]) (rest := []) C 6 (c_X6_isPlace_no l G sc ia la n hn hN h1 i hno) gX6_lose_X6_isPlace rfl rfl rfl rfl (by decide +kernel) (by decide) rfl (by decide) q_o6 rfl rfl dX6_lose_2 (Nat.le_of_ble_eq_true rfl) rfl (k_I ?_)
  show Z sc ia la [(0, .ref (G.2.1 6)), (1, .int i), (2, .int (bI (z)))] 5 [.int 0]
  refine z_if_ne (pc' := 8) C 11 dX6_lose_5 rfl rfl (fun h_5 => absurd h_5 (by decide)) (fun h_5 => ?_)
  refine z_bipush (v := -101) (pc' := 10) C dX6_lose_8 rfl rfl ?_
  exact z_iret (E := E) rfl dX6_lose_10 ⟨(congrArg (fun z => some (Value.int z)) rfl), rfl, rfl, rfl⟩

set_option maxHeartbeats 4000000 in
set_option maxRecDepth 100000 in
theorem c_X6_measure_no (l : Launch) (G : Gv) (sc : Sc) (ia : Ia) (la : La) (n : Nat) (hn : sc 7 = nI n) (hN : n ≤ 32) (h1 : 1 ≤ n) (i : Int32) (hno : s_has i (nI n) = false) (v : Int32) (z : Bool)  : Ct l yX6_measure wsX6_measure ({ frames := 7, cells := 0, slots := 0, locals := 250 }) G [.ref (G.2.1 6), .int i, .int v, .int (bI (z))] sc ia la (fI (-101) sc ia la) := by
  refine z_of (maxL := 5) (own := RX6) [(0, .ref (G.2.1 6)), (1, .int i), (2, .int v), (3, .int (bI (z)))] rfl (by decide +kernel) rfl (Nat.le_of_ble_eq_true rfl) rfl (fun Z C E => ?_)
  refine z_aload_n (pc' := 1) C dX6_measure_0 rfl 0 rfl rfl ?_
  refine z_iload_n (pc' := 2) C dX6_measure_1 rfl 1 rfl rfl ?_
  refine z_cV (n := 1) (pc' := 5) (As := [.int i]) (rest := []) C 6 (c_X6_isPlace_no l G sc ia la n hn hN h1 i hno) gX6_measure_X6_isPlace rfl rfl rfl rfl (by decide +kernel) (by decide) rfl (by decide) q_o6 rfl rfl dX6_measure_2 (Nat.le_of_ble_eq_true rfl) rfl (k_I ?_)
  show Z sc ia la [(0, .ref (G.2.1 6)), (1, .int i), (2, .int v), (3, .int (bI (z)))] 5 [.int 0]
  refine z_if_ne (pc' := 8) C 11 dX6_measure_5 rfl rfl (fun h_5 => absurd h_5 (by decide)) (fun h_5 => ?_)
  refine z_bipush (v := -101) (pc' := 10) C dX6_measure_8 rfl rfl ?_
  exact z_iret (E := E) rfl dX6_measure_10 ⟨(congrArg (fun z => some (Value.int z)) rfl), rfl, rfl, rfl⟩

set_option maxHeartbeats 4000000 in
set_option maxRecDepth 100000 in
theorem c_X6_near_out (l : Launch) (G : Gv) (sc : Sc) (ia : Ia) (la : La) (n : Nat) (hn : sc 7 = nI n) (hN : n ≤ 32) (h1 : 1 ≤ n) (j : Nat) (hj : j < n) (v : Int32) (ho : s_out v (-1000) 1000 = true)  : Ct l yX6_near wsX6_near ({ frames := 7, cells := 0, slots := 0, locals := 250 }) G [.ref (G.2.1 6), .int (nI j), .int v] sc ia la (fI (-10102) sc ia la) := by
  refine z_of (maxL := 4) (own := RX6) [(0, .ref (G.2.1 6)), (1, .int (nI j)), (2, .int v)] rfl (by decide +kernel) rfl (Nat.le_of_ble_eq_true rfl) rfl (fun Z C E => ?_)
  refine z_aload_n (pc' := 1) C dX6_near_0 rfl 0 rfl rfl ?_
  refine z_iload_n (pc' := 2) C dX6_near_1 rfl 1 rfl rfl ?_
  refine z_cV (n := 1) (pc' := 5) (As := [.int (nI j)]) (rest := []) C 6 (c_X6_isPlace_ok l G sc ia la n hn hN h1 j hj) gX6_near_X6_isPlace rfl rfl rfl rfl (by decide +kernel) (by decide) rfl (by decide) q_o6 rfl rfl dX6_near_2 (Nat.le_of_ble_eq_true rfl) rfl (k_I ?_)
  show Z sc ia la [(0, .ref (G.2.1 6)), (1, .int (nI j)), (2, .int v)] 5 [.int 1]
  refine z_if_ne (pc' := 8) C 12 dX6_near_5 rfl rfl (fun h_5 => ?_) (fun h_5 => absurd h_5 (by decide))
  refine z_iload_n (pc' := 13) C dX6_near_12 rfl 2 rfl rfl ?_
  refine z_i2l (pc' := 14) C dX6_near_13 rfl ?_
  refine z_ldc2 (v := -1000) (pc' := 17) C (by decide +kernel) dX6_near_14 rfl ?_
  refine z_ldc2 (v := 1000) (pc' := 20) C (by decide +kernel) dX6_near_17 rfl ?_
  refine z_cS (n := 3) (pc' := 23) (As := [.long v.toInt64, .long (-1000), .long 1000]) (rest := []) C (c_X6_inB l G sc ia la v (-1000) 1000 (-1000) 1000 rfl rfl false ho) gX6_near_X6_in rfl rfl rfl (by decide +kernel) (by decide) rfl rfl dX6_near_20 (Nat.le_of_ble_eq_true rfl) rfl (k_I ?_)
  show Z sc ia la [(0, .ref (G.2.1 6)), (1, .int (nI j)), (2, .int v)] 23 [.int 0]
  refine z_if_ne (pc' := 26) C 30 dX6_near_23 rfl rfl (fun h_23 => absurd h_23 (by decide)) (fun h_23 => ?_)
  refine z_sipush (v := -10102) (pc' := 29) C dX6_near_26 rfl rfl ?_
  exact z_iret (E := E) rfl dX6_near_29 ⟨(congrArg (fun z => some (Value.int z)) rfl), rfl, rfl, rfl⟩

set_option maxHeartbeats 4000000 in
set_option maxRecDepth 100000 in
theorem c_X6_near_ok (l : Launch) (G : Gv) (sc : Sc) (ia : Ia) (la : La) (n : Nat) (hn : sc 7 = nI n) (hN : n ≤ 32) (h1 : 1 ≤ n) (j : Nat) (hj : j < n) (v : Int32) (ho : s_out v (-1000) 1000 = false)  : Ct l yX6_near wsX6_near ({ frames := 7, cells := 0, slots := 0, locals := 250 }) G [.ref (G.2.1 6), .int (nI j), .int v] sc ia la (fI (ia 29 j) sc (va_up ia 29 (upd (ia 29) j v)) la) := by
  have hU6 : ∀ w ∈ u_ws RX6 TX6 25, w ∈ wsX6_near := fun w h => List.mem_cons_of_mem _ (List.mem_append_right _ h)
  refine z_of (maxL := 4) (own := RX6) [(0, .ref (G.2.1 6)), (1, .int (nI j)), (2, .int v)] rfl (by decide +kernel) rfl (Nat.le_of_ble_eq_true rfl) rfl (fun Z C E => ?_)
  refine z_aload_n (pc' := 1) C dX6_near_0 rfl 0 rfl rfl ?_
  refine z_iload_n (pc' := 2) C dX6_near_1 rfl 1 rfl rfl ?_
  refine z_cV (n := 1) (pc' := 5) (As := [.int (nI j)]) (rest := []) C 6 (c_X6_isPlace_ok l G sc ia la n hn hN h1 j hj) gX6_near_X6_isPlace rfl rfl rfl rfl (by decide +kernel) (by decide) rfl (by decide) q_o6 rfl rfl dX6_near_2 (Nat.le_of_ble_eq_true rfl) rfl (k_I ?_)
  show Z sc ia la [(0, .ref (G.2.1 6)), (1, .int (nI j)), (2, .int v)] 5 [.int 1]
  refine z_if_ne (pc' := 8) C 12 dX6_near_5 rfl rfl (fun h_5 => ?_) (fun h_5 => absurd h_5 (by decide))
  refine z_iload_n (pc' := 13) C dX6_near_12 rfl 2 rfl rfl ?_
  refine z_i2l (pc' := 14) C dX6_near_13 rfl ?_
  refine z_ldc2 (v := -1000) (pc' := 17) C (by decide +kernel) dX6_near_14 rfl ?_
  refine z_ldc2 (v := 1000) (pc' := 20) C (by decide +kernel) dX6_near_17 rfl ?_
  refine z_cS (n := 3) (pc' := 23) (As := [.long v.toInt64, .long (-1000), .long 1000]) (rest := []) C (c_X6_inB l G sc ia la v (-1000) 1000 (-1000) 1000 rfl rfl true ho) gX6_near_X6_in rfl rfl rfl (by decide +kernel) (by decide) rfl rfl dX6_near_20 (Nat.le_of_ble_eq_true rfl) rfl (k_I ?_)
  show Z sc ia la [(0, .ref (G.2.1 6)), (1, .int (nI j)), (2, .int v)] 23 [.int 1]
  refine z_if_ne (pc' := 26) C 30 dX6_near_23 rfl rfl (fun h_23 => ?_) (fun h_23 => absurd h_23 (by decide))
  refine z_aload_n (pc' := 31) C dX6_near_30 rfl 0 rfl rfl ?_
  refine z_get (pc' := 34) C hU6 6 (by decide) q_o6 rfl 1 (by decide) (by decide +kernel) (v := .ref (G.2.1 36)) rfl dX6_near_31 rfl ?_
  refine z_iload_n (pc' := 35) C dX6_near_34 rfl 1 rfl rfl ?_
  refine z_iald (pc' := 36) C 36 (by decide) (N := 32) (i := j) (f := ia 29) q_i29 (by omega) (by decide) dX6_near_35 rfl ?_
  refine z_istore_n (lv' := [(3, .int ((ia 29) j)), (0, .ref (G.2.1 6)), (1, .int (nI j)), (2, .int v)]) (pc' := 37) C dX6_near_36 rfl (by decide) rfl rfl ?_
  refine z_aload_n (pc' := 38) C dX6_near_37 rfl 1 rfl rfl ?_
  refine z_get (pc' := 41) C hU6 6 (by decide) q_o6 rfl 1 (by decide) (by decide +kernel) (v := .ref (G.2.1 36)) rfl dX6_near_38 rfl ?_
  refine z_iload_n (pc' := 42) C dX6_near_41 rfl 2 rfl rfl ?_
  refine z_iload_n (pc' := 43) C dX6_near_42 rfl 3 rfl rfl ?_
  refine z_iast (pc' := 44) C 36 (by decide) (N := 32) (i := j) (f := ia 29) q_i29 (by omega) (by decide) (q_u29 _) dX6_near_43 rfl ?_
  refine z_iload_n (pc' := 45) C dX6_near_44 rfl 0 rfl rfl ?_
  exact z_iret (E := E) rfl dX6_near_45 ⟨(congrArg (fun z => some (Value.int z)) rfl), rfl, rfl, rfl⟩

set_option maxHeartbeats 4000000 in
set_option maxRecDepth 100000 in
theorem c_X6_tell_out (l : Launch) (G : Gv) (sc : Sc) (ia : Ia) (la : La) (n : Nat) (hn : sc 7 = nI n) (hN : n ≤ 32) (h1 : 1 ≤ n) (j : Nat) (hj : j < n) (v : Int32) (ho : s_out v (-1000000) 1000000 = true)  : Ct l yX6_tell wsX6_tell ({ frames := 7, cells := 0, slots := 0, locals := 250 }) G [.ref (G.2.1 6), .int (nI j), .int v] sc ia la (fI (-10000002) sc ia la) := by
  refine z_of (maxL := 4) (own := RX6) [(0, .ref (G.2.1 6)), (1, .int (nI j)), (2, .int v)] rfl (by decide +kernel) rfl (Nat.le_of_ble_eq_true rfl) rfl (fun Z C E => ?_)
  refine z_aload_n (pc' := 1) C dX6_tell_0 rfl 0 rfl rfl ?_
  refine z_iload_n (pc' := 2) C dX6_tell_1 rfl 1 rfl rfl ?_
  refine z_cV (n := 1) (pc' := 5) (As := [.int (nI j)]) (rest := []) C 6 (c_X6_isPlace_ok l G sc ia la n hn hN h1 j hj) gX6_tell_X6_isPlace rfl rfl rfl rfl (by decide +kernel) (by decide) rfl (by decide) q_o6 rfl rfl dX6_tell_2 (Nat.le_of_ble_eq_true rfl) rfl (k_I ?_)
  show Z sc ia la [(0, .ref (G.2.1 6)), (1, .int (nI j)), (2, .int v)] 5 [.int 1]
  refine z_if_ne (pc' := 8) C 11 dX6_tell_5 rfl rfl (fun h_5 => ?_) (fun h_5 => absurd h_5 (by decide))
  refine z_iload_n (pc' := 12) C dX6_tell_11 rfl 2 rfl rfl ?_
  refine z_i2l (pc' := 13) C dX6_tell_12 rfl ?_
  refine z_ldc2 (v := -1000000) (pc' := 16) C (by decide +kernel) dX6_tell_13 rfl ?_
  refine z_ldc2 (v := 1000000) (pc' := 19) C (by decide +kernel) dX6_tell_16 rfl ?_
  refine z_cS (n := 3) (pc' := 22) (As := [.long v.toInt64, .long (-1000000), .long 1000000]) (rest := []) C (c_X6_inB l G sc ia la v (-1000000) 1000000 (-1000000) 1000000 rfl rfl false ho) gX6_tell_X6_in rfl rfl rfl (by decide +kernel) (by decide) rfl rfl dX6_tell_19 (Nat.le_of_ble_eq_true rfl) rfl (k_I ?_)
  show Z sc ia la [(0, .ref (G.2.1 6)), (1, .int (nI j)), (2, .int v)] 22 [.int 0]
  refine z_if_ne (pc' := 25) C 28 dX6_tell_22 rfl rfl (fun h_22 => absurd h_22 (by decide)) (fun h_22 => ?_)
  refine z_ldc (v := -10000002) (pc' := 27) C (by decide +kernel) dX6_tell_25 rfl ?_
  exact z_iret (E := E) rfl dX6_tell_27 ⟨(congrArg (fun z => some (Value.int z)) rfl), rfl, rfl, rfl⟩

set_option maxHeartbeats 4000000 in
set_option maxRecDepth 100000 in
theorem c_X6_tell_ok (l : Launch) (G : Gv) (sc : Sc) (ia : Ia) (la : La) (n : Nat) (hn : sc 7 = nI n) (hN : n ≤ 32) (h1 : 1 ≤ n) (j : Nat) (hj : j < n) (v : Int32) (ho : s_out v (-1000000) 1000000 = false)  : Ct l yX6_tell wsX6_tell ({ frames := 7, cells := 0, slots := 0, locals := 250 }) G [.ref (G.2.1 6), .int (nI j), .int v] sc ia la (fI (ia 30 j) sc (va_up ia 30 (upd (ia 30) j v)) la) := by
  have hU6 : ∀ w ∈ u_ws RX6 TX6 25, w ∈ wsX6_tell := fun w h => List.mem_cons_of_mem _ (List.mem_append_right _ h)
  refine z_of (maxL := 4) (own := RX6) [(0, .ref (G.2.1 6)), (1, .int (nI j)), (2, .int v)] rfl (by decide +kernel) rfl (Nat.le_of_ble_eq_true rfl) rfl (fun Z C E => ?_)
  refine z_aload_n (pc' := 1) C dX6_tell_0 rfl 0 rfl rfl ?_
  refine z_iload_n (pc' := 2) C dX6_tell_1 rfl 1 rfl rfl ?_
  refine z_cV (n := 1) (pc' := 5) (As := [.int (nI j)]) (rest := []) C 6 (c_X6_isPlace_ok l G sc ia la n hn hN h1 j hj) gX6_tell_X6_isPlace rfl rfl rfl rfl (by decide +kernel) (by decide) rfl (by decide) q_o6 rfl rfl dX6_tell_2 (Nat.le_of_ble_eq_true rfl) rfl (k_I ?_)
  show Z sc ia la [(0, .ref (G.2.1 6)), (1, .int (nI j)), (2, .int v)] 5 [.int 1]
  refine z_if_ne (pc' := 8) C 11 dX6_tell_5 rfl rfl (fun h_5 => ?_) (fun h_5 => absurd h_5 (by decide))
  refine z_iload_n (pc' := 12) C dX6_tell_11 rfl 2 rfl rfl ?_
  refine z_i2l (pc' := 13) C dX6_tell_12 rfl ?_
  refine z_ldc2 (v := -1000000) (pc' := 16) C (by decide +kernel) dX6_tell_13 rfl ?_
  refine z_ldc2 (v := 1000000) (pc' := 19) C (by decide +kernel) dX6_tell_16 rfl ?_
  refine z_cS (n := 3) (pc' := 22) (As := [.long v.toInt64, .long (-1000000), .long 1000000]) (rest := []) C (c_X6_inB l G sc ia la v (-1000000) 1000000 (-1000000) 1000000 rfl rfl true ho) gX6_tell_X6_in rfl rfl rfl (by decide +kernel) (by decide) rfl rfl dX6_tell_19 (Nat.le_of_ble_eq_true rfl) rfl (k_I ?_)
  show Z sc ia la [(0, .ref (G.2.1 6)), (1, .int (nI j)), (2, .int v)] 22 [.int 1]
  refine z_if_ne (pc' := 25) C 28 dX6_tell_22 rfl rfl (fun h_22 => ?_) (fun h_22 => absurd h_22 (by decide))
  refine z_aload_n (pc' := 29) C dX6_tell_28 rfl 0 rfl rfl ?_
  refine z_get (pc' := 32) C hU6 6 (by decide) q_o6 rfl 2 (by decide) (by decide +kernel) (v := .ref (G.2.1 37)) rfl dX6_tell_29 rfl ?_
  refine z_iload_n (pc' := 33) C dX6_tell_32 rfl 1 rfl rfl ?_
  refine z_iald (pc' := 34) C 37 (by decide) (N := 32) (i := j) (f := ia 30) q_i30 (by omega) (by decide) dX6_tell_33 rfl ?_
  refine z_istore_n (lv' := [(3, .int ((ia 30) j)), (0, .ref (G.2.1 6)), (1, .int (nI j)), (2, .int v)]) (pc' := 35) C dX6_tell_34 rfl (by decide) rfl rfl ?_
  refine z_aload_n (pc' := 36) C dX6_tell_35 rfl 1 rfl rfl ?_
  refine z_get (pc' := 39) C hU6 6 (by decide) q_o6 rfl 2 (by decide) (by decide +kernel) (v := .ref (G.2.1 37)) rfl dX6_tell_36 rfl ?_
  refine z_iload_n (pc' := 40) C dX6_tell_39 rfl 2 rfl rfl ?_
  refine z_iload_n (pc' := 41) C dX6_tell_40 rfl 3 rfl rfl ?_
  refine z_iast (pc' := 42) C 37 (by decide) (N := 32) (i := j) (f := ia 30) q_i30 (by omega) (by decide) (q_u30 _) dX6_tell_41 rfl ?_
  refine z_iload_n (pc' := 43) C dX6_tell_42 rfl 0 rfl rfl ?_
  exact z_iret (E := E) rfl dX6_tell_43 ⟨(congrArg (fun z => some (Value.int z)) rfl), rfl, rfl, rfl⟩

set_option maxHeartbeats 4000000 in
set_option maxRecDepth 100000 in
theorem c_X6_limit_out (l : Launch) (G : Gv) (sc : Sc) (ia : Ia) (la : La) (n : Nat) (hn : sc 7 = nI n) (hN : n ≤ 32) (h1 : 1 ≤ n) (j : Nat) (hj : j < n) (v : Int32) (ho : s_out v 0 100000 = true)  : Ct l yX6_limit wsX6_limit ({ frames := 7, cells := 0, slots := 0, locals := 250 }) G [.ref (G.2.1 6), .int (nI j), .int v] sc ia la (fI (-102) sc ia la) := by
  refine z_of (maxL := 4) (own := RX6) [(0, .ref (G.2.1 6)), (1, .int (nI j)), (2, .int v)] rfl (by decide +kernel) rfl (Nat.le_of_ble_eq_true rfl) rfl (fun Z C E => ?_)
  refine z_aload_n (pc' := 1) C dX6_limit_0 rfl 0 rfl rfl ?_
  refine z_iload_n (pc' := 2) C dX6_limit_1 rfl 1 rfl rfl ?_
  refine z_cV (n := 1) (pc' := 5) (As := [.int (nI j)]) (rest := []) C 6 (c_X6_isPlace_ok l G sc ia la n hn hN h1 j hj) gX6_limit_X6_isPlace rfl rfl rfl rfl (by decide +kernel) (by decide) rfl (by decide) q_o6 rfl rfl dX6_limit_2 (Nat.le_of_ble_eq_true rfl) rfl (k_I ?_)
  show Z sc ia la [(0, .ref (G.2.1 6)), (1, .int (nI j)), (2, .int v)] 5 [.int 1]
  refine z_if_ne (pc' := 8) C 11 dX6_limit_5 rfl rfl (fun h_5 => ?_) (fun h_5 => absurd h_5 (by decide))
  refine z_iload_n (pc' := 12) C dX6_limit_11 rfl 2 rfl rfl ?_
  refine z_i2l (pc' := 13) C dX6_limit_12 rfl ?_
  refine z_lconst (v := 0) (pc' := 14) C dX6_limit_13 rfl rfl ?_
  refine z_ldc2 (v := 100000) (pc' := 17) C (by decide +kernel) dX6_limit_14 rfl ?_
  refine z_cS (n := 3) (pc' := 20) (As := [.long v.toInt64, .long 0, .long 100000]) (rest := []) C (c_X6_inB l G sc ia la v 0 100000 0 100000 rfl rfl false ho) gX6_limit_X6_in rfl rfl rfl (by decide +kernel) (by decide) rfl rfl dX6_limit_17 (Nat.le_of_ble_eq_true rfl) rfl (k_I ?_)
  show Z sc ia la [(0, .ref (G.2.1 6)), (1, .int (nI j)), (2, .int v)] 20 [.int 0]
  refine z_if_ne (pc' := 23) C 26 dX6_limit_20 rfl rfl (fun h_20 => absurd h_20 (by decide)) (fun h_20 => ?_)
  refine z_bipush (v := -102) (pc' := 25) C dX6_limit_23 rfl rfl ?_
  exact z_iret (E := E) rfl dX6_limit_25 ⟨(congrArg (fun z => some (Value.int z)) rfl), rfl, rfl, rfl⟩

set_option maxHeartbeats 4000000 in
set_option maxRecDepth 100000 in
theorem c_X6_limit_ok (l : Launch) (G : Gv) (sc : Sc) (ia : Ia) (la : La) (n : Nat) (hn : sc 7 = nI n) (hN : n ≤ 32) (h1 : 1 ≤ n) (j : Nat) (hj : j < n) (v : Int32) (ho : s_out v 0 100000 = false)  : Ct l yX6_limit wsX6_limit ({ frames := 7, cells := 0, slots := 0, locals := 250 }) G [.ref (G.2.1 6), .int (nI j), .int v] sc ia la (fI (ia 35 j) sc (va_up ia 35 (upd (ia 35) j v)) la) := by
  have hU6 : ∀ w ∈ u_ws RX6 TX6 25, w ∈ wsX6_limit := fun w h => List.mem_cons_of_mem _ (List.mem_append_right _ h)
  refine z_of (maxL := 4) (own := RX6) [(0, .ref (G.2.1 6)), (1, .int (nI j)), (2, .int v)] rfl (by decide +kernel) rfl (Nat.le_of_ble_eq_true rfl) rfl (fun Z C E => ?_)
  refine z_aload_n (pc' := 1) C dX6_limit_0 rfl 0 rfl rfl ?_
  refine z_iload_n (pc' := 2) C dX6_limit_1 rfl 1 rfl rfl ?_
  refine z_cV (n := 1) (pc' := 5) (As := [.int (nI j)]) (rest := []) C 6 (c_X6_isPlace_ok l G sc ia la n hn hN h1 j hj) gX6_limit_X6_isPlace rfl rfl rfl rfl (by decide +kernel) (by decide) rfl (by decide) q_o6 rfl rfl dX6_limit_2 (Nat.le_of_ble_eq_true rfl) rfl (k_I ?_)
  show Z sc ia la [(0, .ref (G.2.1 6)), (1, .int (nI j)), (2, .int v)] 5 [.int 1]
  refine z_if_ne (pc' := 8) C 11 dX6_limit_5 rfl rfl (fun h_5 => ?_) (fun h_5 => absurd h_5 (by decide))
  refine z_iload_n (pc' := 12) C dX6_limit_11 rfl 2 rfl rfl ?_
  refine z_i2l (pc' := 13) C dX6_limit_12 rfl ?_
  refine z_lconst (v := 0) (pc' := 14) C dX6_limit_13 rfl rfl ?_
  refine z_ldc2 (v := 100000) (pc' := 17) C (by decide +kernel) dX6_limit_14 rfl ?_
  refine z_cS (n := 3) (pc' := 20) (As := [.long v.toInt64, .long 0, .long 100000]) (rest := []) C (c_X6_inB l G sc ia la v 0 100000 0 100000 rfl rfl true ho) gX6_limit_X6_in rfl rfl rfl (by decide +kernel) (by decide) rfl rfl dX6_limit_17 (Nat.le_of_ble_eq_true rfl) rfl (k_I ?_)
  show Z sc ia la [(0, .ref (G.2.1 6)), (1, .int (nI j)), (2, .int v)] 20 [.int 1]
  refine z_if_ne (pc' := 23) C 26 dX6_limit_20 rfl rfl (fun h_20 => ?_) (fun h_20 => absurd h_20 (by decide))
  refine z_aload_n (pc' := 27) C dX6_limit_26 rfl 0 rfl rfl ?_
  refine z_get (pc' := 30) C hU6 6 (by decide) q_o6 rfl 7 (by decide) (by decide +kernel) (v := .ref (G.2.1 42)) rfl dX6_limit_27 rfl ?_
  refine z_iload_n (pc' := 31) C dX6_limit_30 rfl 1 rfl rfl ?_
  refine z_iald (pc' := 32) C 42 (by decide) (N := 32) (i := j) (f := ia 35) q_i35 (by omega) (by decide) dX6_limit_31 rfl ?_
  refine z_istore_n (lv' := [(3, .int ((ia 35) j)), (0, .ref (G.2.1 6)), (1, .int (nI j)), (2, .int v)]) (pc' := 33) C dX6_limit_32 rfl (by decide) rfl rfl ?_
  refine z_aload_n (pc' := 34) C dX6_limit_33 rfl 1 rfl rfl ?_
  refine z_get (pc' := 37) C hU6 6 (by decide) q_o6 rfl 7 (by decide) (by decide +kernel) (v := .ref (G.2.1 42)) rfl dX6_limit_34 rfl ?_
  refine z_iload_n (pc' := 38) C dX6_limit_37 rfl 2 rfl rfl ?_
  refine z_iload_n (pc' := 39) C dX6_limit_38 rfl 3 rfl rfl ?_
  refine z_iast (pc' := 40) C 42 (by decide) (N := 32) (i := j) (f := ia 35) q_i35 (by omega) (by decide) (q_u35 _) dX6_limit_39 rfl ?_
  refine z_iload_n (pc' := 41) C dX6_limit_40 rfl 0 rfl rfl ?_
  exact z_iret (E := E) rfl dX6_limit_41 ⟨(congrArg (fun z => some (Value.int z)) rfl), rfl, rfl, rfl⟩

set_option maxHeartbeats 4000000 in
set_option maxRecDepth 100000 in
theorem c_X6_probe_zero (l : Launch) (G : Gv) (sc : Sc) (ia : Ia) (la : La) (n : Nat) (hn : sc 7 = nI n) (hN : n ≤ 32) (h1 : 1 ≤ n) (j : Nat) (hj : j < n)  : Ct l yX6_probe wsX6_probe ({ frames := 7, cells := 0, slots := 0, locals := 250 }) G [.ref (G.2.1 6), .int (nI j), .int 0] sc ia la (fI (-102) sc ia la) := by
  refine z_of (maxL := 4) (own := RX6) [(0, .ref (G.2.1 6)), (1, .int (nI j)), (2, .int 0)] rfl (by decide +kernel) rfl (Nat.le_of_ble_eq_true rfl) rfl (fun Z C E => ?_)
  refine z_aload_n (pc' := 1) C dX6_probe_0 rfl 0 rfl rfl ?_
  refine z_iload_n (pc' := 2) C dX6_probe_1 rfl 1 rfl rfl ?_
  refine z_cV (n := 1) (pc' := 5) (As := [.int (nI j)]) (rest := []) C 6 (c_X6_isPlace_ok l G sc ia la n hn hN h1 j hj) gX6_probe_X6_isPlace rfl rfl rfl rfl (by decide +kernel) (by decide) rfl (by decide) q_o6 rfl rfl dX6_probe_2 (Nat.le_of_ble_eq_true rfl) rfl (k_I ?_)
  show Z sc ia la [(0, .ref (G.2.1 6)), (1, .int (nI j)), (2, .int 0)] 5 [.int 1]
  refine z_if_ne (pc' := 8) C 11 dX6_probe_5 rfl rfl (fun h_5 => ?_) (fun h_5 => absurd h_5 (by decide))
  refine z_iload_n (pc' := 12) C dX6_probe_11 rfl 2 rfl rfl ?_
  refine z_i2l (pc' := 13) C dX6_probe_12 rfl ?_
  refine z_ldc2 (v := -9) (pc' := 16) C (by decide +kernel) dX6_probe_13 rfl ?_
  refine z_ldc2 (v := 9) (pc' := 19) C (by decide +kernel) dX6_probe_16 rfl ?_
  refine z_cS (n := 3) (pc' := 22) (As := [.long ((0 : Int32).toInt64), .long (-9), .long 9]) (rest := []) C (c_X6_inB l G sc ia la (0 : Int32) (-9) 9 (-9) 9 rfl rfl true (by decide)) gX6_probe_X6_in rfl rfl rfl (by decide +kernel) (by decide) rfl rfl dX6_probe_19 (Nat.le_of_ble_eq_true rfl) rfl (k_I ?_)
  show Z sc ia la [(0, .ref (G.2.1 6)), (1, .int (nI j)), (2, .int 0)] 22 [.int 1]
  refine z_if_eq (pc' := 25) C 29 dX6_probe_22 rfl rfl (fun h_22 => absurd h_22 (by decide)) (fun h_22 => ?_)
  refine z_iload_n (pc' := 26) C dX6_probe_25 rfl 2 rfl rfl ?_
  refine z_if_ne (pc' := 29) C 32 dX6_probe_26 rfl rfl (fun h_26 => absurd h_26 (by decide)) (fun h_26 => ?_)
  refine z_bipush (v := -102) (pc' := 31) C dX6_probe_29 rfl rfl ?_
  exact z_iret (E := E) rfl dX6_probe_31 ⟨(congrArg (fun z => some (Value.int z)) rfl), rfl, rfl, rfl⟩

set_option maxHeartbeats 4000000 in
set_option maxRecDepth 100000 in
theorem c_X6_probe_out (l : Launch) (G : Gv) (sc : Sc) (ia : Ia) (la : La) (n : Nat) (hn : sc 7 = nI n) (hN : n ≤ 32) (h1 : 1 ≤ n) (j : Nat) (hj : j < n) (v : Int32) (ho : s_out v (-9) 9 = true)  : Ct l yX6_probe wsX6_probe ({ frames := 7, cells := 0, slots := 0, locals := 250 }) G [.ref (G.2.1 6), .int (nI j), .int v] sc ia la (fI (-102) sc ia la) := by
  refine z_of (maxL := 4) (own := RX6) [(0, .ref (G.2.1 6)), (1, .int (nI j)), (2, .int v)] rfl (by decide +kernel) rfl (Nat.le_of_ble_eq_true rfl) rfl (fun Z C E => ?_)
  refine z_aload_n (pc' := 1) C dX6_probe_0 rfl 0 rfl rfl ?_
  refine z_iload_n (pc' := 2) C dX6_probe_1 rfl 1 rfl rfl ?_
  refine z_cV (n := 1) (pc' := 5) (As := [.int (nI j)]) (rest := []) C 6 (c_X6_isPlace_ok l G sc ia la n hn hN h1 j hj) gX6_probe_X6_isPlace rfl rfl rfl rfl (by decide +kernel) (by decide) rfl (by decide) q_o6 rfl rfl dX6_probe_2 (Nat.le_of_ble_eq_true rfl) rfl (k_I ?_)
  show Z sc ia la [(0, .ref (G.2.1 6)), (1, .int (nI j)), (2, .int v)] 5 [.int 1]
  refine z_if_ne (pc' := 8) C 11 dX6_probe_5 rfl rfl (fun h_5 => ?_) (fun h_5 => absurd h_5 (by decide))
  refine z_iload_n (pc' := 12) C dX6_probe_11 rfl 2 rfl rfl ?_
  refine z_i2l (pc' := 13) C dX6_probe_12 rfl ?_
  refine z_ldc2 (v := -9) (pc' := 16) C (by decide +kernel) dX6_probe_13 rfl ?_
  refine z_ldc2 (v := 9) (pc' := 19) C (by decide +kernel) dX6_probe_16 rfl ?_
  refine z_cS (n := 3) (pc' := 22) (As := [.long v.toInt64, .long (-9), .long 9]) (rest := []) C (c_X6_inB l G sc ia la v (-9) 9 (-9) 9 rfl rfl false ho) gX6_probe_X6_in rfl rfl rfl (by decide +kernel) (by decide) rfl rfl dX6_probe_19 (Nat.le_of_ble_eq_true rfl) rfl (k_I ?_)
  show Z sc ia la [(0, .ref (G.2.1 6)), (1, .int (nI j)), (2, .int v)] 22 [.int 0]
  refine z_if_eq (pc' := 25) C 29 dX6_probe_22 rfl rfl (fun h_22 => ?_) (fun h_22 => absurd h_22 (by decide))
  refine z_bipush (v := -102) (pc' := 31) C dX6_probe_29 rfl rfl ?_
  exact z_iret (E := E) rfl dX6_probe_31 ⟨(congrArg (fun z => some (Value.int z)) rfl), rfl, rfl, rfl⟩

set_option maxHeartbeats 4000000 in
set_option maxRecDepth 100000 in
theorem c_X6_probe_ok (l : Launch) (G : Gv) (sc : Sc) (ia : Ia) (la : La) (n : Nat) (hn : sc 7 = nI n) (hN : n ≤ 32) (h1 : 1 ≤ n) (j : Nat) (hj : j < n) (v : Int32) (hz : ¬ v = 0) (ho : s_out v (-9) 9 = false)  : Ct l yX6_probe wsX6_probe ({ frames := 7, cells := 0, slots := 0, locals := 250 }) G [.ref (G.2.1 6), .int (nI j), .int v] sc ia la (fI (ia 31 j) sc (va_up ia 31 (upd (ia 31) j v)) la) := by
  have hU6 : ∀ w ∈ u_ws RX6 TX6 25, w ∈ wsX6_probe := fun w h => List.mem_cons_of_mem _ (List.mem_append_right _ h)
  refine z_of (maxL := 4) (own := RX6) [(0, .ref (G.2.1 6)), (1, .int (nI j)), (2, .int v)] rfl (by decide +kernel) rfl (Nat.le_of_ble_eq_true rfl) rfl (fun Z C E => ?_)
  refine z_aload_n (pc' := 1) C dX6_probe_0 rfl 0 rfl rfl ?_
  refine z_iload_n (pc' := 2) C dX6_probe_1 rfl 1 rfl rfl ?_
  refine z_cV (n := 1) (pc' := 5) (As := [.int (nI j)]) (rest := []) C 6 (c_X6_isPlace_ok l G sc ia la n hn hN h1 j hj) gX6_probe_X6_isPlace rfl rfl rfl rfl (by decide +kernel) (by decide) rfl (by decide) q_o6 rfl rfl dX6_probe_2 (Nat.le_of_ble_eq_true rfl) rfl (k_I ?_)
  show Z sc ia la [(0, .ref (G.2.1 6)), (1, .int (nI j)), (2, .int v)] 5 [.int 1]
  refine z_if_ne (pc' := 8) C 11 dX6_probe_5 rfl rfl (fun h_5 => ?_) (fun h_5 => absurd h_5 (by decide))
  refine z_iload_n (pc' := 12) C dX6_probe_11 rfl 2 rfl rfl ?_
  refine z_i2l (pc' := 13) C dX6_probe_12 rfl ?_
  refine z_ldc2 (v := -9) (pc' := 16) C (by decide +kernel) dX6_probe_13 rfl ?_
  refine z_ldc2 (v := 9) (pc' := 19) C (by decide +kernel) dX6_probe_16 rfl ?_
  refine z_cS (n := 3) (pc' := 22) (As := [.long v.toInt64, .long (-9), .long 9]) (rest := []) C (c_X6_inB l G sc ia la v (-9) 9 (-9) 9 rfl rfl true ho) gX6_probe_X6_in rfl rfl rfl (by decide +kernel) (by decide) rfl rfl dX6_probe_19 (Nat.le_of_ble_eq_true rfl) rfl (k_I ?_)
  show Z sc ia la [(0, .ref (G.2.1 6)), (1, .int (nI j)), (2, .int v)] 22 [.int 1]
  refine z_if_eq (pc' := 25) C 29 dX6_probe_22 rfl rfl (fun h_22 => absurd h_22 (by decide)) (fun h_22 => ?_)
  refine z_iload_n (pc' := 26) C dX6_probe_25 rfl 2 rfl rfl ?_
  refine z_if_ne (pc' := 29) C 32 dX6_probe_26 rfl rfl (fun h_26 => ?_) (fun h_26 => absurd h_26 (by exact hz))
  refine z_aload_n (pc' := 33) C dX6_probe_32 rfl 0 rfl rfl ?_
  refine z_get (pc' := 36) C hU6 6 (by decide) q_o6 rfl 3 (by decide) (by decide +kernel) (v := .ref (G.2.1 38)) rfl dX6_probe_33 rfl ?_
  refine z_iload_n (pc' := 37) C dX6_probe_36 rfl 1 rfl rfl ?_
  refine z_iald (pc' := 38) C 38 (by decide) (N := 32) (i := j) (f := ia 31) q_i31 (by omega) (by decide) dX6_probe_37 rfl ?_
  refine z_istore_n (lv' := [(3, .int ((ia 31) j)), (0, .ref (G.2.1 6)), (1, .int (nI j)), (2, .int v)]) (pc' := 39) C dX6_probe_38 rfl (by decide) rfl rfl ?_
  refine z_aload_n (pc' := 40) C dX6_probe_39 rfl 1 rfl rfl ?_
  refine z_get (pc' := 43) C hU6 6 (by decide) q_o6 rfl 3 (by decide) (by decide +kernel) (v := .ref (G.2.1 38)) rfl dX6_probe_40 rfl ?_
  refine z_iload_n (pc' := 44) C dX6_probe_43 rfl 2 rfl rfl ?_
  refine z_iload_n (pc' := 45) C dX6_probe_44 rfl 3 rfl rfl ?_
  refine z_iast (pc' := 46) C 38 (by decide) (N := 32) (i := j) (f := ia 31) q_i31 (by omega) (by decide) (q_u31 _) dX6_probe_45 rfl ?_
  refine z_iload_n (pc' := 47) C dX6_probe_46 rfl 0 rfl rfl ?_
  exact z_iret (E := E) rfl dX6_probe_47 ⟨(congrArg (fun z => some (Value.int z)) rfl), rfl, rfl, rfl⟩

set_option maxHeartbeats 4000000 in
set_option maxRecDepth 100000 in
theorem c_X6_far_ok (l : Launch) (G : Gv) (sc : Sc) (ia : Ia) (la : La) (n : Nat) (hn : sc 7 = nI n) (hN : n ≤ 32) (h1 : 1 ≤ n) (j : Nat) (hj : j < n)  : Ct l yX6_far wsX6_far ({ frames := 7, cells := 0, slots := 0, locals := 250 }) G [.ref (G.2.1 6), .int (nI j)] sc ia la (fI (r_fa (ia 29) j n) sc ia la) := by
  refine z_of (maxL := 2) (own := RX6) [(0, .ref (G.2.1 6)), (1, .int (nI j))] rfl (by decide +kernel) rfl (Nat.le_of_ble_eq_true rfl) rfl (fun Z C E => ?_)
  refine z_aload_n (pc' := 1) C dX6_far_0 rfl 0 rfl rfl ?_
  refine z_iload_n (pc' := 2) C dX6_far_1 rfl 1 rfl rfl ?_
  refine z_cV (n := 1) (pc' := 5) (As := [.int (nI j)]) (rest := []) C 6 (c_X6_isPlace_ok l G sc ia la n hn hN h1 j hj) gX6_far_X6_isPlace rfl rfl rfl rfl (by decide +kernel) (by decide) rfl (by decide) q_o6 rfl rfl dX6_far_2 (Nat.le_of_ble_eq_true rfl) rfl (k_I ?_)
  show Z sc ia la [(0, .ref (G.2.1 6)), (1, .int (nI j))] 5 [.int 1]
  refine z_if_eq (pc' := 8) C 16 dX6_far_5 rfl rfl (fun h_5 => absurd h_5 (by decide)) (fun h_5 => ?_)
  refine z_aload_n (pc' := 9) C dX6_far_8 rfl 0 rfl rfl ?_
  refine z_iload_n (pc' := 10) C dX6_far_9 rfl 1 rfl rfl ?_
  refine z_cV (n := 1) (pc' := 13) (As := [.int (nI j)]) (rest := []) C 6 (c_X6_farOf l G sc ia la n hn hN j (by omega)) gX6_far_X6_farOf rfl rfl rfl rfl (by decide +kernel) (by decide) rfl (by decide) q_o6 rfl rfl dX6_far_10 (Nat.le_of_ble_eq_true rfl) rfl (k_I ?_)
  show Z sc ia la [(0, .ref (G.2.1 6)), (1, .int (nI j))] 13 [.int (r_fa (ia 29) j n)]
  refine z_goto (pc' := 18) C dX6_far_13 rfl ?_
  exact z_iret (E := E) rfl dX6_far_18 ⟨(congrArg (fun z => some (Value.int z)) rfl), rfl, rfl, rfl⟩

set_option maxHeartbeats 4000000 in
set_option maxRecDepth 100000 in
theorem c_X6_seen_ok (l : Launch) (G : Gv) (sc : Sc) (ia : Ia) (la : La) (n : Nat) (hn : sc 7 = nI n) (hN : n ≤ 32) (h1 : 1 ≤ n) (j : Nat) (hj : j < n)  : Ct l yX6_seen wsX6_seen ({ frames := 7, cells := 0, slots := 0, locals := 250 }) G [.ref (G.2.1 6), .int (nI j)] sc ia la (fI (r_fa (ia 29) j n * ia 31 j) sc ia la) := by
  have hU6 : ∀ w ∈ u_ws RX6 TX6 25, w ∈ wsX6_seen := fun w h => List.mem_cons_of_mem _ (List.mem_append_right _ h)
  refine z_of (maxL := 2) (own := RX6) [(0, .ref (G.2.1 6)), (1, .int (nI j))] rfl (by decide +kernel) rfl (Nat.le_of_ble_eq_true rfl) rfl (fun Z C E => ?_)
  refine z_aload_n (pc' := 1) C dX6_seen_0 rfl 0 rfl rfl ?_
  refine z_iload_n (pc' := 2) C dX6_seen_1 rfl 1 rfl rfl ?_
  refine z_cV (n := 1) (pc' := 5) (As := [.int (nI j)]) (rest := []) C 6 (c_X6_isPlace_ok l G sc ia la n hn hN h1 j hj) gX6_seen_X6_isPlace rfl rfl rfl rfl (by decide +kernel) (by decide) rfl (by decide) q_o6 rfl rfl dX6_seen_2 (Nat.le_of_ble_eq_true rfl) rfl (k_I ?_)
  show Z sc ia la [(0, .ref (G.2.1 6)), (1, .int (nI j))] 5 [.int 1]
  refine z_if_eq (pc' := 8) C 23 dX6_seen_5 rfl rfl (fun h_5 => absurd h_5 (by decide)) (fun h_5 => ?_)
  refine z_aload_n (pc' := 9) C dX6_seen_8 rfl 0 rfl rfl ?_
  refine z_iload_n (pc' := 10) C dX6_seen_9 rfl 1 rfl rfl ?_
  refine z_cV (n := 1) (pc' := 13) (As := [.int (nI j)]) (rest := []) C 6 (c_X6_farOf l G sc ia la n hn hN j (by omega)) gX6_seen_X6_farOf rfl rfl rfl rfl (by decide +kernel) (by decide) rfl (by decide) q_o6 rfl rfl dX6_seen_10 (Nat.le_of_ble_eq_true rfl) rfl (k_I ?_)
  show Z sc ia la [(0, .ref (G.2.1 6)), (1, .int (nI j))] 13 [.int (r_fa (ia 29) j n)]
  refine z_aload_n (pc' := 14) C dX6_seen_13 rfl 0 rfl rfl ?_
  refine z_get (pc' := 17) C hU6 6 (by decide) q_o6 rfl 3 (by decide) (by decide +kernel) (v := .ref (G.2.1 38)) rfl dX6_seen_14 rfl ?_
  refine z_iload_n (pc' := 18) C dX6_seen_17 rfl 1 rfl rfl ?_
  refine z_iald (pc' := 19) C 38 (by decide) (N := 32) (i := j) (f := ia 31) q_i31 (by omega) (by decide) dX6_seen_18 rfl ?_
  refine z_imul (pc' := 20) C dX6_seen_19 rfl ?_
  refine z_goto (pc' := 25) C dX6_seen_20 rfl ?_
  exact z_iret (E := E) rfl dX6_seen_25 ⟨(congrArg (fun z => some (Value.int z)) rfl), rfl, rfl, rfl⟩

set_option maxHeartbeats 4000000 in
set_option maxRecDepth 100000 in
theorem c_X6_unprobe_ok (l : Launch) (G : Gv) (sc : Sc) (ia : Ia) (la : La) (n : Nat) (hn : sc 7 = nI n) (hN : n ≤ 32) (h1 : 1 ≤ n) (hp : ∀ j, j < n → ¬ ia 31 j = 0)  : Ct l yX6_unprobe wsX6_unprobe ({ frames := 7, cells := 0, slots := 0, locals := 250 }) G [.ref (G.2.1 6)] sc ia la (fI (bI (s_all (r_wp (ia 30) (ia 31)) n)) sc (if s_all (r_wp (ia 30) (ia 31)) n = true then va_up ia 30 (r_po (ia 30) (ia 31) n) else ia) la) := by
  have hU6 : ∀ w ∈ u_ws RX6 TX6 25, w ∈ wsX6_unprobe := fun w h => List.mem_cons_of_mem _ (List.mem_append_right _ h)
  refine z_of (maxL := 3) (own := RX6) [(0, .ref (G.2.1 6))] rfl (by decide +kernel) rfl (Nat.le_of_ble_eq_true rfl) rfl (fun Z C E => ?_)
  refine z_iconst (v := 1) (pc' := 1) C dX6_unprobe_0 rfl rfl ?_
  refine z_istore_n (lv' := [(1, .int 1), (0, .ref (G.2.1 6))]) (pc' := 2) C dX6_unprobe_1 rfl (by decide) rfl rfl ?_
  refine z_iconst (v := 0) (pc' := 3) C dX6_unprobe_2 rfl rfl ?_
  refine z_istore_n (lv' := [(2, .int 0), (1, .int 1), (0, .ref (G.2.1 6))]) (pc' := 4) C dX6_unprobe_3 rfl (by decide) rfl rfl ?_
  have L4 : ∀ (fuel : Nat) (i : Nat) (hi : i ≤ n), n - i < fuel → Z sc ia la [(2, .int (nI i)), (1, .int (bI (s_all (r_wp (ia 30) (ia 31)) i))), (0, .ref (G.2.1 6))] 4 [] := by
    intro fuel
    induction fuel with
    | zero => intro i hi hm4; exact absurd hm4 (Nat.not_lt_zero _)
    | succ fuel ih4 =>
      intro i hi hm4
      refine z_iload_n (pc' := 5) C dX6_unprobe_4 rfl 0 rfl rfl ?_
      refine z_aload_n (pc' := 6) C dX6_unprobe_5 rfl 2 rfl rfl ?_
      refine z_get (pc' := 9) C hU6 6 (by decide) q_o6 rfl 0 (by decide) (by decide +kernel) (v := .int (sc 7)) rfl dX6_unprobe_6 rfl ?_
      refine z_cast (st' := [.int (nI n), .int (nI i)]) rfl rfl rfl rfl (congrArg (fun z => Value.int z :: [.int (nI i)]) hn) ?_
      refine z_icmpN_ge (a := i) (b := n) (pc' := 12) C 44 (by omega) (by omega) dX6_unprobe_9 rfl rfl (fun h_9 => ?_) (fun h_9 => ?_)
      · refine z_iconst (v := 0) (pc' := 45) C dX6_unprobe_44 rfl rfl ?_
        refine z_istore_n (lv' := [(2, .int 0), (1, .int (bI (s_all (r_wp (ia 30) (ia 31)) i))), (0, .ref (G.2.1 6))]) (pc' := 46) C dX6_unprobe_45 rfl (by decide) rfl rfl ?_
        have L46 : ∀ (fuel : Nat) (k : Nat) (hk : k ≤ n) (hz : k = 0 ∨ s_all (r_wp (ia 30) (ia 31)) n = true), n - k < fuel → Z sc (va_up ia 30 (r_po (ia 30) (ia 31) k)) la [(2, .int (nI k)), (1, .int (bI (s_all (r_wp (ia 30) (ia 31)) n))), (0, .ref (G.2.1 6))] 46 [] := by
          intro fuel
          induction fuel with
          | zero => intro k hk hz hm46; exact absurd hm46 (Nat.not_lt_zero _)
          | succ fuel ih46 =>
            intro k hk hz hm46
            refine z_iload_n (pc' := 47) C dX6_unprobe_46 rfl 0 rfl rfl ?_
            refine z_aload_n (pc' := 48) C dX6_unprobe_47 rfl 2 rfl rfl ?_
            refine z_get (pc' := 51) C hU6 6 (by decide) q_o6 rfl 0 (by decide) (by decide +kernel) (v := .int (sc 7)) rfl dX6_unprobe_48 rfl ?_
            refine z_cast (st' := [.int (nI n), .int (nI k)]) rfl rfl rfl rfl (congrArg (fun z => Value.int z :: [.int (nI k)]) hn) ?_
            refine z_icmpN_ge (a := k) (b := n) (pc' := 54) C 79 (by omega) (by omega) dX6_unprobe_51 rfl rfl (fun h_51 => ?_) (fun h_51 => ?_)
            · refine z_iload_n (pc' := 80) C dX6_unprobe_79 rfl 1 rfl rfl ?_
              refine z_ifB_eq (pc' := 83) C 87 dX6_unprobe_80 rfl rfl (fun h_80 => ?_) (fun h_80 => ?_)
              · refine z_iconst (v := 0) (pc' := 88) C dX6_unprobe_87 rfl rfl ?_
                exact z_iret (E := E) rfl dX6_unprobe_88 ⟨(congrArg (fun z => some (Value.int z)) (show _ = _ from (by first | rfl | (simp [bI, h_80])))), rfl, (by first | rfl | (first | (exact absurd (h_80.symm.trans h_55) (by decide)) | (have e9 : k = n := (by omega); subst e9; rw [if_pos h_80]; done) | (have e9 : k = 0 := (by first | omega | (rcases hz with q | q; exact q; exact absurd (q.symm.trans h_55) (by decide))); subst e9; rw [if_neg (by simp [h_80])]; exact (va_same _ 30).symm) | (rcases hz with q | q; (subst q; rw [if_neg (by simp [h_80])]; exact (va_same _ 30).symm); exact absurd (q.symm.trans h_80) (by decide)))), rfl⟩
              · refine z_iconst (v := 1) (pc' := 84) C dX6_unprobe_83 rfl rfl ?_
                refine z_goto (pc' := 88) C dX6_unprobe_84 rfl ?_
                exact z_iret (E := E) rfl dX6_unprobe_88 ⟨(congrArg (fun z => some (Value.int z)) (show _ = _ from (by first | rfl | (simp [bI, h_80])))), rfl, (by first | rfl | (first | (exact absurd (h_80.symm.trans h_55) (by decide)) | (have e9 : k = n := (by omega); subst e9; rw [if_pos h_80]; done) | (have e9 : k = 0 := (by first | omega | (rcases hz with q | q; exact q; exact absurd (q.symm.trans h_55) (by decide))); subst e9; rw [if_neg (by simp [h_80])]; exact (va_same _ 30).symm) | (rcases hz with q | q; (subst q; rw [if_neg (by simp [h_80])]; exact (va_same _ 30).symm); exact absurd (q.symm.trans h_80) (by decide)))), rfl⟩
            · refine z_iload_n (pc' := 55) C dX6_unprobe_54 rfl 1 rfl rfl ?_
              refine z_ifB_eq (pc' := 58) C 79 dX6_unprobe_55 rfl rfl (fun h_55 => ?_) (fun h_55 => ?_)
              · refine z_iload_n (pc' := 80) C dX6_unprobe_79 rfl 1 rfl rfl ?_
                refine z_ifB_eq (pc' := 83) C 87 dX6_unprobe_80 rfl rfl (fun h_80 => ?_) (fun h_80 => ?_)
                · refine z_iconst (v := 0) (pc' := 88) C dX6_unprobe_87 rfl rfl ?_
                  exact z_iret (E := E) rfl dX6_unprobe_88 ⟨(congrArg (fun z => some (Value.int z)) (show _ = _ from (by first | rfl | (simp [bI, h_80])))), rfl, (by first | rfl | (first | (exact absurd (h_80.symm.trans h_55) (by decide)) | (have e9 : k = n := (by omega); subst e9; rw [if_pos h_80]; done) | (have e9 : k = 0 := (by first | omega | (rcases hz with q | q; exact q; exact absurd (q.symm.trans h_55) (by decide))); subst e9; rw [if_neg (by simp [h_80])]; exact (va_same _ 30).symm) | (rcases hz with q | q; (subst q; rw [if_neg (by simp [h_80])]; exact (va_same _ 30).symm); exact absurd (q.symm.trans h_80) (by decide)))), rfl⟩
                · refine z_iconst (v := 1) (pc' := 84) C dX6_unprobe_83 rfl rfl ?_
                  refine z_goto (pc' := 88) C dX6_unprobe_84 rfl ?_
                  exact z_iret (E := E) rfl dX6_unprobe_88 ⟨(congrArg (fun z => some (Value.int z)) (show _ = _ from (by first | rfl | (simp [bI, h_80])))), rfl, (by first | rfl | (first | (exact absurd (h_80.symm.trans h_55) (by decide)) | (have e9 : k = n := (by omega); subst e9; rw [if_pos h_80]; done) | (have e9 : k = 0 := (by first | omega | (rcases hz with q | q; exact q; exact absurd (q.symm.trans h_55) (by decide))); subst e9; rw [if_neg (by simp [h_80])]; exact (va_same _ 30).symm) | (rcases hz with q | q; (subst q; rw [if_neg (by simp [h_80])]; exact (va_same _ 30).symm); exact absurd (q.symm.trans h_80) (by decide)))), rfl⟩
              · refine z_aload_n (pc' := 59) C dX6_unprobe_58 rfl 2 rfl rfl ?_
                refine z_get (pc' := 62) C hU6 6 (by decide) q_o6 rfl 2 (by decide) (by decide +kernel) (v := .ref (G.2.1 37)) rfl dX6_unprobe_59 rfl ?_
                refine z_iload_n (pc' := 63) C dX6_unprobe_62 rfl 0 rfl rfl ?_
                refine z_dup2 (pc' := 64) C dX6_unprobe_63 rfl rfl rfl ?_
                refine z_iald (pc' := 65) C 37 (by decide) (N := 32) (i := k) (f := r_po (ia 30) (ia 31) k) q_i30 (by omega) (by decide) dX6_unprobe_64 rfl ?_
                refine z_aload_n (pc' := 66) C dX6_unprobe_65 rfl 2 rfl rfl ?_
                refine z_get (pc' := 69) C hU6 6 (by decide) q_o6 rfl 3 (by decide) (by decide +kernel) (v := .ref (G.2.1 38)) rfl dX6_unprobe_66 rfl ?_
                refine z_iload_n (pc' := 70) C dX6_unprobe_69 rfl 0 rfl rfl ?_
                refine z_iald (pc' := 71) C 38 (by decide) (N := 32) (i := k) (f := ia 31) q_i31 (by omega) (by decide) dX6_unprobe_70 rfl ?_
                refine z_idiv (pc' := 72) C dX6_unprobe_71 (hp k (by omega)) rfl ?_
                refine z_iast (pc' := 73) C 37 (by decide) (N := 32) (i := k) (f := r_po (ia 30) (ia 31) k) q_i30 (by omega) (by decide) (q_uu30 _ _) dX6_unprobe_72 rfl ?_
                refine z_iinc (v := nI (k + 1)) (k9 := 0) (lv' := [(2, .int (nI (k + 1))), (1, .int (bI (s_all (r_wp (ia 30) (ia 31)) n))), (0, .ref (G.2.1 6))]) (pc' := 76) C dX6_unprobe_73 rfl (nI_1 k) (by decide) rfl rfl ?_
                refine z_goto (pc' := 46) C dX6_unprobe_76 rfl ?_
                exact z_cast rfl rfl rfl rfl rfl (ih46 (k + 1) (by omega) (by exact Or.inr h_55) (by omega))
        exact z_cast rfl (by first | rfl | (exact va_same _ 30)) rfl (by first | rfl | (have e9 : i = n := (by omega); subst e9; rfl)) rfl (L46 (_ + 1) 0 (by omega) (by exact Or.inl rfl) (Nat.lt_succ_self _))
      · refine z_iload_n (pc' := 13) C dX6_unprobe_12 rfl 1 rfl rfl ?_
        refine z_ifB_eq (pc' := 16) C 36 dX6_unprobe_13 rfl rfl (fun h_13 => ?_) (fun h_13 => ?_)
        · refine z_iconst (v := 0) (pc' := 37) C dX6_unprobe_36 rfl rfl ?_
          refine z_istore_n (lv' := [(1, .int 0), (2, .int (nI i)), (0, .ref (G.2.1 6))]) (pc' := 38) C dX6_unprobe_37 rfl (by decide) rfl rfl ?_
          refine z_iinc (v := nI (i + 1)) (k9 := 1) (lv' := [(2, .int (nI (i + 1))), (1, .int 0), (0, .ref (G.2.1 6))]) (pc' := 41) C dX6_unprobe_38 rfl (nI_1 i) (by decide) rfl rfl ?_
          refine z_goto (pc' := 4) C dX6_unprobe_41 rfl ?_
          exact z_cast rfl rfl rfl (by first | rfl | (simp [s_all, r_wp, bI, hi, h_9, h_13])) rfl (ih4 (i + 1) (by omega) (by omega))
        · refine z_aload_n (pc' := 17) C dX6_unprobe_16 rfl 2 rfl rfl ?_
          refine z_get (pc' := 20) C hU6 6 (by decide) q_o6 rfl 2 (by decide) (by decide +kernel) (v := .ref (G.2.1 37)) rfl dX6_unprobe_17 rfl ?_
          refine z_iload_n (pc' := 21) C dX6_unprobe_20 rfl 0 rfl rfl ?_
          refine z_iald (pc' := 22) C 37 (by decide) (N := 32) (i := i) (f := ia 30) q_i30 (by omega) (by decide) dX6_unprobe_21 rfl ?_
          refine z_aload_n (pc' := 23) C dX6_unprobe_22 rfl 2 rfl rfl ?_
          refine z_get (pc' := 26) C hU6 6 (by decide) q_o6 rfl 3 (by decide) (by decide +kernel) (v := .ref (G.2.1 38)) rfl dX6_unprobe_23 rfl ?_
          refine z_iload_n (pc' := 27) C dX6_unprobe_26 rfl 0 rfl rfl ?_
          refine z_iald (pc' := 28) C 38 (by decide) (N := 32) (i := i) (f := ia 31) q_i31 (by omega) (by decide) dX6_unprobe_27 rfl ?_
          refine z_irem (pc' := 29) C dX6_unprobe_28 (hp i (by omega)) rfl ?_
          have J37 : Z sc ia la [(2, .int (nI i)), (1, .int (bI (s_all (r_wp (ia 30) (ia 31)) i))), (0, .ref (G.2.1 6))] 37 [.int (bI (decide ((((ia 30) i) - ((ia 30) i) / ((ia 31) i) * ((ia 31) i)) = 0)))] := by
            refine z_istore_n (lv' := [(1, .int (bI (decide ((((ia 30) i) - ((ia 30) i) / ((ia 31) i) * ((ia 31) i)) = 0)))), (2, .int (nI i)), (0, .ref (G.2.1 6))]) (pc' := 38) C dX6_unprobe_37 rfl (by decide) rfl rfl ?_
            refine z_iinc (v := nI (i + 1)) (k9 := 1) (lv' := [(2, .int (nI (i + 1))), (1, .int (bI (decide ((((ia 30) i) - ((ia 30) i) / ((ia 31) i) * ((ia 31) i)) = 0)))), (0, .ref (G.2.1 6))]) (pc' := 41) C dX6_unprobe_38 rfl (nI_1 i) (by decide) rfl rfl ?_
            refine z_goto (pc' := 4) C dX6_unprobe_41 rfl ?_
            exact z_cast rfl rfl rfl (by first | rfl | (simp [s_all, r_wp, bI, hi, h_9, h_13])) rfl (ih4 (i + 1) (by omega) (by omega))
          refine z_if_ne (pc' := 32) C 36 dX6_unprobe_29 rfl rfl (fun h_29 => ?_) (fun h_29 => ?_)
          · refine z_iconst (v := 0) (pc' := 37) C dX6_unprobe_36 rfl rfl ?_
            exact z_cast rfl rfl rfl rfl (by first | rfl | (simp [bI, hi, h_9, h_13, h_29])) J37
          · refine z_iconst (v := 1) (pc' := 33) C dX6_unprobe_32 rfl rfl ?_
            refine z_goto (pc' := 37) C dX6_unprobe_33 rfl ?_
            exact z_cast rfl rfl rfl rfl (by first | rfl | (simp [bI, hi, h_9, h_13, h_29])) J37
  exact z_cast rfl rfl rfl rfl rfl (L4 (_ + 1) 0 (by omega) (Nat.lt_succ_self _))

set_option maxHeartbeats 4000000 in
set_option maxRecDepth 100000 in
theorem c_X6_back_ok (l : Launch) (G : Gv) (sc : Sc) (ia : Ia) (la : La) (n : Nat) (hn : sc 7 = nI n) (hN : n ≤ 32) (h1 : 1 ≤ n)  : Ct l yX6_back wsX6_back ({ frames := 7, cells := 0, slots := 0, locals := 250 }) G [.ref (G.2.1 6)] sc ia la (fI (bI (s_all (r_gb (ia 30) n) n)) sc (if s_all (r_gb (ia 30) n) n = true then va_up ia 29 (r_bk (ia 29) (ia 30) n n) else ia) la) := by
  have hU6 : ∀ w ∈ u_ws RX6 TX6 25, w ∈ wsX6_back := fun w h => List.mem_cons_of_mem _ (List.mem_append_right _ h)
  refine z_of (maxL := 4) (own := RX6) [(0, .ref (G.2.1 6))] rfl (by decide +kernel) rfl (Nat.le_of_ble_eq_true rfl) rfl (fun Z C E => ?_)
  refine z_iconst (v := 1) (pc' := 1) C dX6_back_0 rfl rfl ?_
  refine z_istore_n (lv' := [(1, .int 1), (0, .ref (G.2.1 6))]) (pc' := 2) C dX6_back_1 rfl (by decide) rfl rfl ?_
  refine z_iconst (v := 0) (pc' := 3) C dX6_back_2 rfl rfl ?_
  refine z_istore_n (lv' := [(2, .int 0), (1, .int 1), (0, .ref (G.2.1 6))]) (pc' := 4) C dX6_back_3 rfl (by decide) rfl rfl ?_
  have L4 : ∀ (fuel : Nat) (i : Nat) (hi : i ≤ n), n - i < fuel → Z sc ia la [(2, .int (nI i)), (1, .int (bI (s_all (r_gb (ia 30) n) i))), (0, .ref (G.2.1 6))] 4 [] := by
    intro fuel
    induction fuel with
    | zero => intro i hi hm4; exact absurd hm4 (Nat.not_lt_zero _)
    | succ fuel ih4 =>
      intro i hi hm4
      refine z_iload_n (pc' := 5) C dX6_back_4 rfl 0 rfl rfl ?_
      refine z_aload_n (pc' := 6) C dX6_back_5 rfl 2 rfl rfl ?_
      refine z_get (pc' := 9) C hU6 6 (by decide) q_o6 rfl 0 (by decide) (by decide +kernel) (v := .int (sc 7)) rfl dX6_back_6 rfl ?_
      refine z_cast (st' := [.int (nI n), .int (nI i)]) rfl rfl rfl rfl (congrArg (fun z => Value.int z :: [.int (nI i)]) hn) ?_
      refine z_icmpN_ge (a := i) (b := n) (pc' := 12) C 62 (by omega) (by omega) dX6_back_9 rfl rfl (fun h_9 => ?_) (fun h_9 => ?_)
      · refine z_iconst (v := 0) (pc' := 63) C dX6_back_62 rfl rfl ?_
        refine z_istore_n (lv' := [(2, .int 0), (1, .int (bI (s_all (r_gb (ia 30) n) i))), (0, .ref (G.2.1 6))]) (pc' := 64) C dX6_back_63 rfl (by decide) rfl rfl ?_
        have L64 : ∀ (fuel : Nat) (k : Nat) (hk : k ≤ n) (hz : k = 0 ∨ s_all (r_gb (ia 30) n) n = true), n - k < fuel → Z sc (va_up ia 29 (r_bk (ia 29) (ia 30) n k)) la [(2, .int (nI k)), (1, .int (bI (s_all (r_gb (ia 30) n) n))), (0, .ref (G.2.1 6))] 64 [] := by
          intro fuel
          induction fuel with
          | zero => intro k hk hz hm64; exact absurd hm64 (Nat.not_lt_zero _)
          | succ fuel ih64 =>
            intro k hk hz hm64
            refine z_iload_n (pc' := 65) C dX6_back_64 rfl 0 rfl rfl ?_
            refine z_aload_n (pc' := 66) C dX6_back_65 rfl 2 rfl rfl ?_
            refine z_get (pc' := 69) C hU6 6 (by decide) q_o6 rfl 0 (by decide) (by decide +kernel) (v := .int (sc 7)) rfl dX6_back_66 rfl ?_
            refine z_cast (st' := [.int (nI n), .int (nI k)]) rfl rfl rfl rfl (congrArg (fun z => Value.int z :: [.int (nI k)]) hn) ?_
            refine z_icmpN_ge (a := k) (b := n) (pc' := 72) C 98 (by omega) (by omega) dX6_back_69 rfl rfl (fun h_69 => ?_) (fun h_69 => ?_)
            · refine z_iload_n (pc' := 99) C dX6_back_98 rfl 1 rfl rfl ?_
              refine z_ifB_eq (pc' := 102) C 106 dX6_back_99 rfl rfl (fun h_99 => ?_) (fun h_99 => ?_)
              · refine z_iconst (v := 0) (pc' := 107) C dX6_back_106 rfl rfl ?_
                exact z_iret (E := E) rfl dX6_back_107 ⟨(congrArg (fun z => some (Value.int z)) (show _ = _ from (by first | rfl | (simp [bI, h_99])))), rfl, (by first | rfl | (first | (exact absurd (h_99.symm.trans h_73) (by decide)) | (have e9 : k = n := (by omega); subst e9; rw [if_pos h_99]; done) | (rcases hz with q | q; (subst q; rw [if_neg (by simp [h_99])]; exact (va_same _ 29).symm); exact absurd (q.symm.trans h_99) (by decide)))), rfl⟩
              · refine z_iconst (v := 1) (pc' := 103) C dX6_back_102 rfl rfl ?_
                refine z_goto (pc' := 107) C dX6_back_103 rfl ?_
                exact z_iret (E := E) rfl dX6_back_107 ⟨(congrArg (fun z => some (Value.int z)) (show _ = _ from (by first | rfl | (simp [bI, h_99])))), rfl, (by first | rfl | (first | (exact absurd (h_99.symm.trans h_73) (by decide)) | (have e9 : k = n := (by omega); subst e9; rw [if_pos h_99]; done) | (rcases hz with q | q; (subst q; rw [if_neg (by simp [h_99])]; exact (va_same _ 29).symm); exact absurd (q.symm.trans h_99) (by decide)))), rfl⟩
            · refine z_iload_n (pc' := 73) C dX6_back_72 rfl 1 rfl rfl ?_
              refine z_ifB_eq (pc' := 76) C 98 dX6_back_73 rfl rfl (fun h_73 => ?_) (fun h_73 => ?_)
              · refine z_iload_n (pc' := 99) C dX6_back_98 rfl 1 rfl rfl ?_
                refine z_ifB_eq (pc' := 102) C 106 dX6_back_99 rfl rfl (fun h_99 => ?_) (fun h_99 => ?_)
                · refine z_iconst (v := 0) (pc' := 107) C dX6_back_106 rfl rfl ?_
                  exact z_iret (E := E) rfl dX6_back_107 ⟨(congrArg (fun z => some (Value.int z)) (show _ = _ from (by first | rfl | (simp [bI, h_99])))), rfl, (by first | rfl | (first | (exact absurd (h_99.symm.trans h_73) (by decide)) | (have e9 : k = n := (by omega); subst e9; rw [if_pos h_99]; done) | (rcases hz with q | q; (subst q; rw [if_neg (by simp [h_99])]; exact (va_same _ 29).symm); exact absurd (q.symm.trans h_99) (by decide)))), rfl⟩
                · refine z_iconst (v := 1) (pc' := 103) C dX6_back_102 rfl rfl ?_
                  refine z_goto (pc' := 107) C dX6_back_103 rfl ?_
                  exact z_iret (E := E) rfl dX6_back_107 ⟨(congrArg (fun z => some (Value.int z)) (show _ = _ from (by first | rfl | (simp [bI, h_99])))), rfl, (by first | rfl | (first | (exact absurd (h_99.symm.trans h_73) (by decide)) | (have e9 : k = n := (by omega); subst e9; rw [if_pos h_99]; done) | (rcases hz with q | q; (subst q; rw [if_neg (by simp [h_99])]; exact (va_same _ 29).symm); exact absurd (q.symm.trans h_99) (by decide)))), rfl⟩
              · refine z_aload_n (pc' := 77) C dX6_back_76 rfl 2 rfl rfl ?_
                refine z_get (pc' := 80) C hU6 6 (by decide) q_o6 rfl 1 (by decide) (by decide +kernel) (v := .ref (G.2.1 36)) rfl dX6_back_77 rfl ?_
                refine z_iload_n (pc' := 81) C dX6_back_80 rfl 0 rfl rfl ?_
                refine z_aload_n (pc' := 82) C dX6_back_81 rfl 2 rfl rfl ?_
                refine z_iload_n (pc' := 83) C dX6_back_82 rfl 0 rfl rfl ?_
                refine z_cV (n := 1) (pc' := 86) (As := [.int (nI k)]) (rest := [.int (nI k), .ref (G.2.1 36)]) C 6 (c_X6_backOf l G sc (va_up ia 29 (r_bk (ia 29) (ia 30) n k)) la n hn hN k (by omega)) gX6_back_X6_backOf rfl rfl rfl rfl (by decide +kernel) (by decide) rfl (by decide) q_o6 rfl rfl dX6_back_83 (Nat.le_of_ble_eq_true rfl) rfl (k_I ?_)
                show Z sc (va_up ia 29 (r_bk (ia 29) (ia 30) n k)) la [(2, .int (nI k)), (1, .int (bI (s_all (r_gb (ia 30) n) n))), (0, .ref (G.2.1 6))] 86 [.int (r_su (ia 30) k n), .int (nI k), .ref (G.2.1 36)]
                refine z_aload_n (pc' := 87) C dX6_back_86 rfl 2 rfl rfl ?_
                refine z_get (pc' := 90) C hU6 6 (by decide) q_o6 rfl 0 (by decide) (by decide +kernel) (v := .int (sc 7)) rfl dX6_back_87 rfl ?_
                refine z_cast (st' := [.int (nI n), .int (r_su (ia 30) k n), .int (nI k), .ref (G.2.1 36)]) rfl rfl rfl rfl (congrArg (fun z => Value.int z :: [.int (r_su (ia 30) k n), .int (nI k), .ref (G.2.1 36)]) hn) ?_
                refine z_idiv (pc' := 91) C dX6_back_90 (nI_ne0 (by omega) (by omega)) rfl ?_
                refine z_iast (pc' := 92) C 36 (by decide) (N := 32) (i := k) (f := r_bk (ia 29) (ia 30) n k) q_i29 (by omega) (by decide) (q_uu29 _ _) dX6_back_91 rfl ?_
                refine z_iinc (v := nI (k + 1)) (k9 := 0) (lv' := [(2, .int (nI (k + 1))), (1, .int (bI (s_all (r_gb (ia 30) n) n))), (0, .ref (G.2.1 6))]) (pc' := 95) C dX6_back_92 rfl (nI_1 k) (by decide) rfl rfl ?_
                refine z_goto (pc' := 64) C dX6_back_95 rfl ?_
                exact z_cast rfl rfl rfl rfl rfl (ih64 (k + 1) (by omega) (by exact Or.inr h_73) (by omega))
        exact z_cast rfl (by first | rfl | (exact va_same _ 29)) rfl (by first | rfl | (have e9 : i = n := (by omega); subst e9; rfl)) rfl (L64 (_ + 1) 0 (by omega) (by exact Or.inl rfl) (Nat.lt_succ_self _))
      · refine z_aload_n (pc' := 13) C dX6_back_12 rfl 2 rfl rfl ?_
        refine z_iload_n (pc' := 14) C dX6_back_13 rfl 0 rfl rfl ?_
        refine z_cV (n := 1) (pc' := 17) (As := [.int (nI i)]) (rest := []) C 6 (c_X6_backOf l G sc ia la n hn hN i (by omega)) gX6_back_X6_backOf rfl rfl rfl rfl (by decide +kernel) (by decide) rfl (by decide) q_o6 rfl rfl dX6_back_14 (Nat.le_of_ble_eq_true rfl) rfl (k_I ?_)
        show Z sc ia la [(2, .int (nI i)), (1, .int (bI (s_all (r_gb (ia 30) n) i))), (0, .ref (G.2.1 6))] 17 [.int (r_su (ia 30) i n)]
        refine z_istore_n (lv' := [(3, .int (r_su (ia 30) i n)), (2, .int (nI i)), (1, .int (bI (s_all (r_gb (ia 30) n) i))), (0, .ref (G.2.1 6))]) (pc' := 18) C dX6_back_17 rfl (by decide) rfl rfl ?_
        refine z_iload_n (pc' := 19) C dX6_back_18 rfl 2 rfl rfl ?_
        refine z_ifB_eq (pc' := 22) C 54 dX6_back_19 rfl rfl (fun h_19 => ?_) (fun h_19 => ?_)
        · refine z_iconst (v := 0) (pc' := 55) C dX6_back_54 rfl rfl ?_
          refine z_istore_n (lv' := [(1, .int 0), (3, .int (r_su (ia 30) i n)), (2, .int (nI i)), (0, .ref (G.2.1 6))]) (pc' := 56) C dX6_back_55 rfl (by decide) rfl rfl ?_
          refine z_iinc (v := nI (i + 1)) (k9 := 2) (lv' := [(2, .int (nI (i + 1))), (1, .int 0), (3, .int (r_su (ia 30) i n)), (0, .ref (G.2.1 6))]) (pc' := 59) C dX6_back_56 rfl (nI_1 i) (by decide) rfl rfl ?_
          refine z_goto (pc' := 4) C dX6_back_59 rfl ?_
          refine z_sub (lv' := [(2, .int (nI (i + 1))), (1, .int 0), (0, .ref (G.2.1 6))]) C [0, 1, 3] rfl ?_
          exact z_cast rfl rfl rfl (by first | rfl | (simp [s_all, r_gb, bI, hi, h_9, h_19])) rfl (ih4 (i + 1) (by omega) (by omega))
        · refine z_iload_n (pc' := 23) C dX6_back_22 rfl 0 rfl rfl ?_
          refine z_aload_n (pc' := 24) C dX6_back_23 rfl 3 rfl rfl ?_
          refine z_get (pc' := 27) C hU6 6 (by decide) q_o6 rfl 0 (by decide) (by decide +kernel) (v := .int (sc 7)) rfl dX6_back_24 rfl ?_
          refine z_cast (st' := [.int (nI n), .int (r_su (ia 30) i n)]) rfl rfl rfl rfl (congrArg (fun z => Value.int z :: [.int (r_su (ia 30) i n)]) hn) ?_
          refine z_irem (pc' := 28) C dX6_back_27 (nI_ne0 (by omega) (by omega)) rfl ?_
          refine z_if_ne (pc' := 31) C 54 dX6_back_28 rfl rfl (fun h_28 => ?_) (fun h_28 => ?_)
          · refine z_iconst (v := 0) (pc' := 55) C dX6_back_54 rfl rfl ?_
            refine z_istore_n (lv' := [(1, .int 0), (3, .int (r_su (ia 30) i n)), (2, .int (nI i)), (0, .ref (G.2.1 6))]) (pc' := 56) C dX6_back_55 rfl (by decide) rfl rfl ?_
            refine z_iinc (v := nI (i + 1)) (k9 := 2) (lv' := [(2, .int (nI (i + 1))), (1, .int 0), (3, .int (r_su (ia 30) i n)), (0, .ref (G.2.1 6))]) (pc' := 59) C dX6_back_56 rfl (nI_1 i) (by decide) rfl rfl ?_
            refine z_goto (pc' := 4) C dX6_back_59 rfl ?_
            refine z_sub (lv' := [(2, .int (nI (i + 1))), (1, .int 0), (0, .ref (G.2.1 6))]) C [0, 1, 3] rfl ?_
            exact z_cast rfl rfl rfl (by first | rfl | (simp [s_all, r_gb, bI, hi, h_9, h_19, h_28])) rfl (ih4 (i + 1) (by omega) (by omega))
          · refine z_iload_n (pc' := 32) C dX6_back_31 rfl 0 rfl rfl ?_
            refine z_aload_n (pc' := 33) C dX6_back_32 rfl 3 rfl rfl ?_
            refine z_get (pc' := 36) C hU6 6 (by decide) q_o6 rfl 0 (by decide) (by decide +kernel) (v := .int (sc 7)) rfl dX6_back_33 rfl ?_
            refine z_cast (st' := [.int (nI n), .int (r_su (ia 30) i n)]) rfl rfl rfl rfl (congrArg (fun z => Value.int z :: [.int (r_su (ia 30) i n)]) hn) ?_
            refine z_idiv (pc' := 37) C dX6_back_36 (nI_ne0 (by omega) (by omega)) rfl ?_
            refine z_i2l (pc' := 38) C dX6_back_37 rfl ?_
            refine z_ldc2 (v := -1000) (pc' := 41) C (by decide +kernel) dX6_back_38 rfl ?_
            refine z_ldc2 (v := 1000) (pc' := 44) C (by decide +kernel) dX6_back_41 rfl ?_
            refine z_cS (n := 3) (pc' := 47) (As := [.long (((r_su (ia 30) i n) / (nI n)).toInt64), .long (-1000), .long 1000]) (rest := []) C (c_X6_in l G sc ia la (((r_su (ia 30) i n) / (nI n)).toInt64) (-1000) 1000) gX6_back_X6_in rfl rfl rfl (by decide +kernel) (by decide) rfl rfl dX6_back_44 (Nat.le_of_ble_eq_true rfl) rfl (k_I ?_)
            show Z sc ia la [(3, .int (r_su (ia 30) i n)), (2, .int (nI i)), (1, .int (bI (s_all (r_gb (ia 30) n) i))), (0, .ref (G.2.1 6))] 47 [.int (bI (r_in (((r_su (ia 30) i n) / (nI n)).toInt64) (-1000) 1000))]
            have J55 : Z sc ia la [(3, .int (r_su (ia 30) i n)), (2, .int (nI i)), (1, .int (bI (s_all (r_gb (ia 30) n) i))), (0, .ref (G.2.1 6))] 55 [.int (bI (decide ((r_in (((r_su (ia 30) i n) / (nI n)).toInt64) (-1000) 1000) = true)))] := by
              refine z_istore_n (lv' := [(1, .int (bI (decide ((r_in (((r_su (ia 30) i n) / (nI n)).toInt64) (-1000) 1000) = true)))), (3, .int (r_su (ia 30) i n)), (2, .int (nI i)), (0, .ref (G.2.1 6))]) (pc' := 56) C dX6_back_55 rfl (by decide) rfl rfl ?_
              refine z_iinc (v := nI (i + 1)) (k9 := 2) (lv' := [(2, .int (nI (i + 1))), (1, .int (bI (decide ((r_in (((r_su (ia 30) i n) / (nI n)).toInt64) (-1000) 1000) = true)))), (3, .int (r_su (ia 30) i n)), (0, .ref (G.2.1 6))]) (pc' := 59) C dX6_back_56 rfl (nI_1 i) (by decide) rfl rfl ?_
              refine z_goto (pc' := 4) C dX6_back_59 rfl ?_
              refine z_sub (lv' := [(2, .int (nI (i + 1))), (1, .int (bI (decide ((r_in (((r_su (ia 30) i n) / (nI n)).toInt64) (-1000) 1000) = true)))), (0, .ref (G.2.1 6))]) C [0, 1, 3] rfl ?_
              exact z_cast rfl rfl rfl (by first | rfl | (simp [s_all, r_gb, bI, hi, h_9, h_19, h_28])) rfl (ih4 (i + 1) (by omega) (by omega))
            refine z_ifB_eq (pc' := 50) C 54 dX6_back_47 rfl rfl (fun h_47 => ?_) (fun h_47 => ?_)
            · refine z_iconst (v := 0) (pc' := 55) C dX6_back_54 rfl rfl ?_
              exact z_cast rfl rfl rfl rfl (by first | rfl | (simp [bI, hi, h_9, h_19, h_28, h_47])) J55
            · refine z_iconst (v := 1) (pc' := 51) C dX6_back_50 rfl rfl ?_
              refine z_goto (pc' := 55) C dX6_back_51 rfl ?_
              exact z_cast rfl rfl rfl rfl (by first | rfl | (simp [bI, hi, h_9, h_19, h_28, h_47])) J55
  exact z_cast rfl rfl rfl rfl rfl (L4 (_ + 1) 0 (by omega) (Nat.lt_succ_self _))

set_option maxHeartbeats 4000000 in
set_option maxRecDepth 100000 in
theorem c_X6_isGate (l : Launch) (G : Gv) (sc : Sc) (ia : Ia) (la : La) (m v : Int32)  : Ct l yX6_isGate wsX6_isGate ({ frames := 1, cells := 0, slots := 0, locals := 25 }) G [.int m, .int v] sc ia la (fI (bI (r_gate m v)) sc ia la) := by
  refine z_of (maxL := 2) (own := RX6) [(0, .int m), (1, .int v)] rfl (by decide +kernel) rfl (Nat.le_of_ble_eq_true rfl) rfl (fun Z C E => ?_)
  refine z_iload_n (pc' := 1) C dX6_isGate_0 rfl 0 rfl rfl ?_
  refine z_i2l (pc' := 2) C dX6_isGate_1 rfl ?_
  refine z_lconst (v := 0) (pc' := 3) C dX6_isGate_2 rfl rfl ?_
  refine z_ldc2 (v := 31) (pc' := 6) C (by decide +kernel) dX6_isGate_3 rfl ?_
  refine z_cS (n := 3) (pc' := 9) (As := [.long m.toInt64, .long 0, .long 31]) (rest := []) C (c_X6_in l G sc ia la m.toInt64 0 31) gX6_isGate_X6_in rfl rfl rfl (by decide +kernel) (by decide) rfl rfl dX6_isGate_6 (Nat.le_of_ble_eq_true rfl) rfl (k_I ?_)
  show Z sc ia la [(0, .int m), (1, .int v)] 9 [.int (bI (r_in m.toInt64 0 31))]
  refine z_ifB_eq (pc' := 12) C 28 dX6_isGate_9 rfl rfl (fun h_9 => ?_) (fun h_9 => ?_)
  · refine z_iconst (v := 0) (pc' := 29) C dX6_isGate_28 rfl rfl ?_
    exact z_zret (E := E) rfl dX6_isGate_29 (rfl) ⟨(congrArg (fun z => some (Value.int z)) (show _ = _ from (by first | rfl | (simp [r_gate, bI, h_9])))), rfl, rfl, rfl⟩
  · refine z_iload_n (pc' := 13) C dX6_isGate_12 rfl 1 rfl rfl ?_
    refine z_i2l (pc' := 14) C dX6_isGate_13 rfl ?_
    refine z_lconst (v := 0) (pc' := 15) C dX6_isGate_14 rfl rfl ?_
    refine z_ldc2 (v := 31) (pc' := 18) C (by decide +kernel) dX6_isGate_15 rfl ?_
    refine z_cS (n := 3) (pc' := 21) (As := [.long v.toInt64, .long 0, .long 31]) (rest := []) C (c_X6_in l G sc ia la v.toInt64 0 31) gX6_isGate_X6_in rfl rfl rfl (by decide +kernel) (by decide) rfl rfl dX6_isGate_18 (Nat.le_of_ble_eq_true rfl) rfl (k_I ?_)
    show Z sc ia la [(0, .int m), (1, .int v)] 21 [.int (bI (r_in v.toInt64 0 31))]
    refine z_ifB_eq (pc' := 24) C 28 dX6_isGate_21 rfl rfl (fun h_21 => ?_) (fun h_21 => ?_)
    · refine z_iconst (v := 0) (pc' := 29) C dX6_isGate_28 rfl rfl ?_
      exact z_zret (E := E) rfl dX6_isGate_29 (rfl) ⟨(congrArg (fun z => some (Value.int z)) (show _ = _ from (by first | rfl | (simp [r_gate, bI, h_9, h_21])))), rfl, rfl, rfl⟩
    · refine z_iconst (v := 1) (pc' := 25) C dX6_isGate_24 rfl rfl ?_
      refine z_goto (pc' := 29) C dX6_isGate_25 rfl ?_
      exact z_zret (E := E) rfl dX6_isGate_29 (rfl) ⟨(congrArg (fun z => some (Value.int z)) (show _ = _ from (by first | rfl | (simp [r_gate, bI, h_9, h_21])))), rfl, rfl, rfl⟩

theorem c_X6_isGateB (l : Launch) (G : Gv) (sc : Sc) (ia : Ia) (la : La) (m v : Int32) (z : Bool) (h : s_gate m v = z) : Ct l yX6_isGate wsX6_isGate ({ frames := 1, cells := 0, slots := 0, locals := 25 }) G [.int m, .int v] sc ia la (fI (bI z) sc ia la) := by
  have h9 := c_X6_isGate l G sc ia la m v
  rw [r_gate_eq, h] at h9
  exact h9
set_option maxHeartbeats 4000000 in
set_option maxRecDepth 100000 in
theorem c_X6_passes (l : Launch) (G : Gv) (sc : Sc) (ia : Ia) (la : La) (j m v : Int32)  : Ct l yX6_passes wsX6_passes ({ frames := 0, cells := 0, slots := 0, locals := 0 }) G [.int j, .int m, .int v] sc ia la (fI (bI (s_pass j m v)) sc ia la) := by
  refine z_of (maxL := 3) (own := RX6) [(0, .int j), (1, .int m), (2, .int v)] rfl (by decide +kernel) rfl (Nat.le_of_ble_eq_true rfl) rfl (fun Z C E => ?_)
  refine z_iload_n (pc' := 1) C dX6_passes_0 rfl 0 rfl rfl ?_
  refine z_iload_n (pc' := 2) C dX6_passes_1 rfl 1 rfl rfl ?_
  refine z_iand (pc' := 3) C dX6_passes_2 rfl ?_
  refine z_iload_n (pc' := 4) C dX6_passes_3 rfl 2 rfl rfl ?_
  refine z_iload_n (pc' := 5) C dX6_passes_4 rfl 1 rfl rfl ?_
  refine z_iand (pc' := 6) C dX6_passes_5 rfl ?_
  refine z_icmp_ne (pc' := 9) C 13 dX6_passes_6 rfl rfl (fun h_6 => ?_) (fun h_6 => ?_)
  · refine z_iconst (v := 0) (pc' := 14) C dX6_passes_13 rfl rfl ?_
    exact z_zret (E := E) rfl dX6_passes_14 (rfl) ⟨(congrArg (fun z => some (Value.int z)) (show _ = _ from (by first | rfl | (rw [← r_pass_eq]; simp [bI, h_6])))), rfl, rfl, rfl⟩
  · refine z_iconst (v := 1) (pc' := 10) C dX6_passes_9 rfl rfl ?_
    refine z_goto (pc' := 14) C dX6_passes_10 rfl ?_
    exact z_zret (E := E) rfl dX6_passes_14 (rfl) ⟨(congrArg (fun z => some (Value.int z)) (show _ = _ from (by first | rfl | (rw [← r_pass_eq]; simp [bI, h_6])))), rfl, rfl, rfl⟩

set_option maxHeartbeats 4000000 in
set_option maxRecDepth 100000 in
theorem c_X6_gated_out (l : Launch) (G : Gv) (sc : Sc) (ia : Ia) (la : La) (n : Nat) (hn : sc 7 = nI n) (hN : n ≤ 32) (h1 : 1 ≤ n) (j : Nat) (hj : j < n) (m v : Int32) (hg : s_gate m v = false)  : Ct l yX6_gated wsX6_gated ({ frames := 7, cells := 0, slots := 0, locals := 250 }) G [.ref (G.2.1 6), .int (nI j), .int m, .int v] sc ia la (fI (-10000002) sc ia la) := by
  refine z_of (maxL := 6) (own := RX6) [(0, .ref (G.2.1 6)), (1, .int (nI j)), (2, .int m), (3, .int v)] rfl (by decide +kernel) rfl (Nat.le_of_ble_eq_true rfl) rfl (fun Z C E => ?_)
  refine z_aload_n (pc' := 1) C dX6_gated_0 rfl 0 rfl rfl ?_
  refine z_iload_n (pc' := 2) C dX6_gated_1 rfl 1 rfl rfl ?_
  refine z_cV (n := 1) (pc' := 5) (As := [.int (nI j)]) (rest := []) C 6 (c_X6_isPlace_ok l G sc ia la n hn hN h1 j hj) gX6_gated_X6_isPlace rfl rfl rfl rfl (by decide +kernel) (by decide) rfl (by decide) q_o6 rfl rfl dX6_gated_2 (Nat.le_of_ble_eq_true rfl) rfl (k_I ?_)
  show Z sc ia la [(0, .ref (G.2.1 6)), (1, .int (nI j)), (2, .int m), (3, .int v)] 5 [.int 1]
  refine z_if_ne (pc' := 8) C 11 dX6_gated_5 rfl rfl (fun h_5 => ?_) (fun h_5 => absurd h_5 (by decide))
  refine z_iload_n (pc' := 12) C dX6_gated_11 rfl 2 rfl rfl ?_
  refine z_iload_n (pc' := 13) C dX6_gated_12 rfl 3 rfl rfl ?_
  refine z_cS (n := 2) (pc' := 16) (As := [.int m, .int v]) (rest := []) C (c_X6_isGateB l G sc ia la m v false hg) gX6_gated_X6_isGate rfl rfl rfl (by decide +kernel) (by decide) rfl rfl dX6_gated_13 (Nat.le_of_ble_eq_true rfl) rfl (k_I ?_)
  show Z sc ia la [(0, .ref (G.2.1 6)), (1, .int (nI j)), (2, .int m), (3, .int v)] 16 [.int 0]
  refine z_if_ne (pc' := 19) C 22 dX6_gated_16 rfl rfl (fun h_16 => absurd h_16 (by decide)) (fun h_16 => ?_)
  refine z_ldc (v := -10000002) (pc' := 21) C (by decide +kernel) dX6_gated_19 rfl ?_
  exact z_iret (E := E) rfl dX6_gated_21 ⟨(congrArg (fun z => some (Value.int z)) rfl), rfl, rfl, rfl⟩

set_option maxHeartbeats 4000000 in
set_option maxRecDepth 100000 in
theorem c_X6_gated_ok (l : Launch) (G : Gv) (sc : Sc) (ia : Ia) (la : La) (n : Nat) (hn : sc 7 = nI n) (hN : n ≤ 32) (h1 : 1 ≤ n) (j : Nat) (hj : j < n) (m v : Int32) (hg : s_gate m v = true)  : Ct l yX6_gated wsX6_gated ({ frames := 7, cells := 0, slots := 0, locals := 250 }) G [.ref (G.2.1 6), .int (nI j), .int m, .int v] sc ia la (fI (r_gt (ia 29) n j m v n) sc ia la) := by
  have hU6 : ∀ w ∈ u_ws RX6 TX6 25, w ∈ wsX6_gated := fun w h => List.mem_cons_of_mem _ (List.mem_append_right _ h)
  refine z_of (maxL := 6) (own := RX6) [(0, .ref (G.2.1 6)), (1, .int (nI j)), (2, .int m), (3, .int v)] rfl (by decide +kernel) rfl (Nat.le_of_ble_eq_true rfl) rfl (fun Z C E => ?_)
  refine z_aload_n (pc' := 1) C dX6_gated_0 rfl 0 rfl rfl ?_
  refine z_iload_n (pc' := 2) C dX6_gated_1 rfl 1 rfl rfl ?_
  refine z_cV (n := 1) (pc' := 5) (As := [.int (nI j)]) (rest := []) C 6 (c_X6_isPlace_ok l G sc ia la n hn hN h1 j hj) gX6_gated_X6_isPlace rfl rfl rfl rfl (by decide +kernel) (by decide) rfl (by decide) q_o6 rfl rfl dX6_gated_2 (Nat.le_of_ble_eq_true rfl) rfl (k_I ?_)
  show Z sc ia la [(0, .ref (G.2.1 6)), (1, .int (nI j)), (2, .int m), (3, .int v)] 5 [.int 1]
  refine z_if_ne (pc' := 8) C 11 dX6_gated_5 rfl rfl (fun h_5 => ?_) (fun h_5 => absurd h_5 (by decide))
  refine z_iload_n (pc' := 12) C dX6_gated_11 rfl 2 rfl rfl ?_
  refine z_iload_n (pc' := 13) C dX6_gated_12 rfl 3 rfl rfl ?_
  refine z_cS (n := 2) (pc' := 16) (As := [.int m, .int v]) (rest := []) C (c_X6_isGateB l G sc ia la m v true hg) gX6_gated_X6_isGate rfl rfl rfl (by decide +kernel) (by decide) rfl rfl dX6_gated_13 (Nat.le_of_ble_eq_true rfl) rfl (k_I ?_)
  show Z sc ia la [(0, .ref (G.2.1 6)), (1, .int (nI j)), (2, .int m), (3, .int v)] 16 [.int 1]
  refine z_if_ne (pc' := 19) C 22 dX6_gated_16 rfl rfl (fun h_16 => ?_) (fun h_16 => absurd h_16 (by decide))
  refine z_iconst (v := 0) (pc' := 23) C dX6_gated_22 rfl rfl ?_
  refine z_istore (lv' := [(4, .int 0), (0, .ref (G.2.1 6)), (1, .int (nI j)), (2, .int m), (3, .int v)]) (pc' := 25) C dX6_gated_23 (by decide) rfl rfl ?_
  refine z_iconst (v := 0) (pc' := 26) C dX6_gated_25 rfl rfl ?_
  refine z_istore (lv' := [(5, .int 0), (4, .int 0), (0, .ref (G.2.1 6)), (1, .int (nI j)), (2, .int m), (3, .int v)]) (pc' := 28) C dX6_gated_26 (by decide) rfl rfl ?_
  have L28 : ∀ (fuel : Nat) (k : Nat) (hk : k ≤ n), n - k < fuel → Z sc ia la [(5, .int (nI k)), (4, .int (r_gt (ia 29) n j m v k)), (0, .ref (G.2.1 6)), (1, .int (nI j)), (2, .int m), (3, .int v)] 28 [] := by
    intro fuel
    induction fuel with
    | zero => intro k hk hm28; exact absurd hm28 (Nat.not_lt_zero _)
    | succ fuel ih28 =>
      intro k hk hm28
      refine z_iload (pc' := 30) C dX6_gated_28 0 rfl rfl ?_
      refine z_aload_n (pc' := 31) C dX6_gated_30 rfl 2 rfl rfl ?_
      refine z_get (pc' := 34) C hU6 6 (by decide) q_o6 rfl 0 (by decide) (by decide +kernel) (v := .int (sc 7)) rfl dX6_gated_31 rfl ?_
      refine z_cast (st' := [.int (nI n), .int (nI k)]) rfl rfl rfl rfl (congrArg (fun z => Value.int z :: [.int (nI k)]) hn) ?_
      refine z_icmpN_ge (a := k) (b := n) (pc' := 37) C 75 (by omega) (by omega) dX6_gated_34 rfl rfl (fun h_34 => ?_) (fun h_34 => ?_)
      · refine z_iload (pc' := 77) C dX6_gated_75 1 rfl rfl ?_
        exact z_iret (E := E) rfl dX6_gated_77 ⟨(congrArg (fun z => some (Value.int z)) (show _ = _ from (by first | rfl | (have e9 : k = n := (by omega); subst e9; rfl)))), rfl, rfl, rfl⟩
      · refine z_iload (pc' := 39) C dX6_gated_37 1 rfl rfl ?_
        refine z_iload (pc' := 41) C dX6_gated_39 0 rfl rfl ?_
        refine z_iload_n (pc' := 42) C dX6_gated_41 rfl 4 rfl rfl ?_
        refine z_iload_n (pc' := 43) C dX6_gated_42 rfl 5 rfl rfl ?_
        refine z_cS (n := 3) (pc' := 46) (As := [.int (nI k), .int m, .int v]) (rest := [.int (r_gt (ia 29) n j m v k)]) C (c_X6_passes l G sc ia la (nI k) m v) gX6_gated_X6_passes rfl rfl rfl (by decide +kernel) (by decide) rfl rfl dX6_gated_43 (Nat.le_of_ble_eq_true rfl) rfl (k_I ?_)
        show Z sc ia la [(5, .int (nI k)), (4, .int (r_gt (ia 29) n j m v k)), (0, .ref (G.2.1 6)), (1, .int (nI j)), (2, .int m), (3, .int v)] 46 [.int (bI (s_pass (nI k) m v)), .int (r_gt (ia 29) n j m v k)]
        have J66 : Z sc ia la [(5, .int (nI k)), (4, .int (r_gt (ia 29) n j m v k)), (0, .ref (G.2.1 6)), (1, .int (nI j)), (2, .int m), (3, .int v)] 66 [.int (if s_pass (nI k) m v = true then r_fa (ia 29) k n * s_sgn (nI j) (nI k) else 0), .int (r_gt (ia 29) n j m v k)] := by
          refine z_iadd (pc' := 67) C dX6_gated_66 rfl ?_
          refine z_istore (lv' := [(4, .int ((r_gt (ia 29) n j m v k) + (if s_pass (nI k) m v = true then r_fa (ia 29) k n * s_sgn (nI j) (nI k) else 0))), (5, .int (nI k)), (0, .ref (G.2.1 6)), (1, .int (nI j)), (2, .int m), (3, .int v)]) (pc' := 69) C dX6_gated_67 (by decide) rfl rfl ?_
          refine z_iinc (v := nI (k + 1)) (k9 := 1) (lv' := [(5, .int (nI (k + 1))), (4, .int ((r_gt (ia 29) n j m v k) + (if s_pass (nI k) m v = true then r_fa (ia 29) k n * s_sgn (nI j) (nI k) else 0))), (0, .ref (G.2.1 6)), (1, .int (nI j)), (2, .int m), (3, .int v)]) (pc' := 72) C dX6_gated_69 rfl (nI_1 k) (by decide) rfl rfl ?_
          refine z_goto (pc' := 28) C dX6_gated_72 rfl ?_
          exact z_cast rfl rfl rfl rfl rfl (ih28 (k + 1) (by omega) (by omega))
        refine z_ifB_eq (pc' := 49) C 65 dX6_gated_46 rfl rfl (fun h_46 => ?_) (fun h_46 => ?_)
        · refine z_iconst (v := 0) (pc' := 66) C dX6_gated_65 rfl rfl ?_
          exact z_cast rfl rfl rfl rfl (by first | rfl | (simp [h_46])) J66
        · refine z_aload_n (pc' := 50) C dX6_gated_49 rfl 2 rfl rfl ?_
          refine z_iload (pc' := 52) C dX6_gated_50 0 rfl rfl ?_
          refine z_cV (n := 1) (pc' := 55) (As := [.int (nI k)]) (rest := [.int (r_gt (ia 29) n j m v k)]) C 6 (c_X6_farOf l G sc ia la n hn hN k (by omega)) gX6_gated_X6_farOf rfl rfl rfl rfl (by decide +kernel) (by decide) rfl (by decide) q_o6 rfl rfl dX6_gated_52 (Nat.le_of_ble_eq_true rfl) rfl (k_I ?_)
          show Z sc ia la [(5, .int (nI k)), (4, .int (r_gt (ia 29) n j m v k)), (0, .ref (G.2.1 6)), (1, .int (nI j)), (2, .int m), (3, .int v)] 55 [.int (r_fa (ia 29) k n), .int (r_gt (ia 29) n j m v k)]
          refine z_iload_n (pc' := 56) C dX6_gated_55 rfl 3 rfl rfl ?_
          refine z_iload (pc' := 58) C dX6_gated_56 0 rfl rfl ?_
          refine z_cS (n := 2) (pc' := 61) (As := [.int (nI j), .int (nI k)]) (rest := [.int (r_fa (ia 29) k n), .int (r_gt (ia 29) n j m v k)]) C (c_X6_sign l G sc ia la j k (by omega) (by omega) ) gX6_gated_X6_sign rfl rfl rfl (by decide +kernel) (by decide) rfl rfl dX6_gated_58 (Nat.le_of_ble_eq_true rfl) rfl (k_I ?_)
          show Z sc ia la [(5, .int (nI k)), (4, .int (r_gt (ia 29) n j m v k)), (0, .ref (G.2.1 6)), (1, .int (nI j)), (2, .int m), (3, .int v)] 61 [.int (s_sgn (nI j) (nI k)), .int (r_fa (ia 29) k n), .int (r_gt (ia 29) n j m v k)]
          refine z_imul (pc' := 62) C dX6_gated_61 rfl ?_
          refine z_goto (pc' := 66) C dX6_gated_62 rfl ?_
          exact z_cast rfl rfl rfl rfl (by first | rfl | (simp [h_46])) J66
  exact z_cast rfl rfl rfl rfl rfl (L28 (_ + 1) 0 (by omega) (Nat.lt_succ_self _))

set_option maxHeartbeats 4000000 in
set_option maxRecDepth 100000 in
theorem c_X6_power_out (l : Launch) (G : Gv) (sc : Sc) (ia : Ia) (la : La) (m v : Int32) (hg : s_gate m v = false)  : Ct l yX6_power wsX6_power ({ frames := 7, cells := 0, slots := 0, locals := 250 }) G [.ref (G.2.1 6), .int m, .int v] sc ia la (fL (-102) sc ia la) := by
  refine z_of (maxL := 8) (own := RX6) [(0, .ref (G.2.1 6)), (1, .int m), (2, .int v)] rfl (by decide +kernel) rfl (Nat.le_of_ble_eq_true rfl) rfl (fun Z C E => ?_)
  refine z_iload_n (pc' := 1) C dX6_power_0 rfl 1 rfl rfl ?_
  refine z_iload_n (pc' := 2) C dX6_power_1 rfl 2 rfl rfl ?_
  refine z_cS (n := 2) (pc' := 5) (As := [.int m, .int v]) (rest := []) C (c_X6_isGateB l G sc ia la m v false hg) gX6_power_X6_isGate rfl rfl rfl (by decide +kernel) (by decide) rfl rfl dX6_power_2 (Nat.le_of_ble_eq_true rfl) rfl (k_I ?_)
  show Z sc ia la [(0, .ref (G.2.1 6)), (1, .int m), (2, .int v)] 5 [.int 0]
  refine z_if_ne (pc' := 8) C 12 dX6_power_5 rfl rfl (fun h_5 => absurd h_5 (by decide)) (fun h_5 => ?_)
  refine z_ldc2 (v := -102) (pc' := 11) C (by decide +kernel) dX6_power_8 rfl ?_
  exact z_lret (E := E) rfl dX6_power_11 ⟨(congrArg (fun z => some (Value.long z)) rfl), rfl, rfl, rfl⟩

set_option maxHeartbeats 4000000 in
set_option maxRecDepth 100000 in
theorem c_X6_power_ok (l : Launch) (G : Gv) (sc : Sc) (ia : Ia) (la : La) (n : Nat) (hn : sc 7 = nI n) (hN : n ≤ 32) (h1 : 1 ≤ n) (m v : Int32) (hg : s_gate m v = true)  : Ct l yX6_power wsX6_power ({ frames := 7, cells := 0, slots := 0, locals := 250 }) G [.ref (G.2.1 6), .int m, .int v] sc ia la (fL (r_pw (ia 29) n m v n) sc ia la) := by
  have hU6 : ∀ w ∈ u_ws RX6 TX6 25, w ∈ wsX6_power := fun w h => List.mem_cons_of_mem _ (List.mem_append_right _ h)
  refine z_of (maxL := 8) (own := RX6) [(0, .ref (G.2.1 6)), (1, .int m), (2, .int v)] rfl (by decide +kernel) rfl (Nat.le_of_ble_eq_true rfl) rfl (fun Z C E => ?_)
  refine z_iload_n (pc' := 1) C dX6_power_0 rfl 1 rfl rfl ?_
  refine z_iload_n (pc' := 2) C dX6_power_1 rfl 2 rfl rfl ?_
  refine z_cS (n := 2) (pc' := 5) (As := [.int m, .int v]) (rest := []) C (c_X6_isGateB l G sc ia la m v true hg) gX6_power_X6_isGate rfl rfl rfl (by decide +kernel) (by decide) rfl rfl dX6_power_2 (Nat.le_of_ble_eq_true rfl) rfl (k_I ?_)
  show Z sc ia la [(0, .ref (G.2.1 6)), (1, .int m), (2, .int v)] 5 [.int 1]
  refine z_if_ne (pc' := 8) C 12 dX6_power_5 rfl rfl (fun h_5 => ?_) (fun h_5 => absurd h_5 (by decide))
  refine z_lconst (v := 0) (pc' := 13) C dX6_power_12 rfl rfl ?_
  refine z_lstore_n (lv' := [(3, .long 0), (0, .ref (G.2.1 6)), (1, .int m), (2, .int v)]) (pc' := 14) C dX6_power_13 rfl (by decide) rfl rfl ?_
  refine z_iconst (v := 0) (pc' := 15) C dX6_power_14 rfl rfl ?_
  refine z_istore (lv' := [(5, .int 0), (3, .long 0), (0, .ref (G.2.1 6)), (1, .int m), (2, .int v)]) (pc' := 17) C dX6_power_15 (by decide) rfl rfl ?_
  have L17 : ∀ (fuel : Nat) (k : Nat) (hk : k ≤ n), n - k < fuel → Z sc ia la [(5, .int (nI k)), (3, .long (r_pw (ia 29) n m v k)), (0, .ref (G.2.1 6)), (1, .int m), (2, .int v)] 17 [] := by
    intro fuel
    induction fuel with
    | zero => intro k hk hm17; exact absurd hm17 (Nat.not_lt_zero _)
    | succ fuel ih17 =>
      intro k hk hm17
      refine z_iload (pc' := 19) C dX6_power_17 0 rfl rfl ?_
      refine z_aload_n (pc' := 20) C dX6_power_19 rfl 2 rfl rfl ?_
      refine z_get (pc' := 23) C hU6 6 (by decide) q_o6 rfl 0 (by decide) (by decide +kernel) (v := .int (sc 7)) rfl dX6_power_20 rfl ?_
      refine z_cast (st' := [.int (nI n), .int (nI k)]) rfl rfl rfl rfl (congrArg (fun z => Value.int z :: [.int (nI k)]) hn) ?_
      refine z_icmpN_ge (a := k) (b := n) (pc' := 26) C 63 (by omega) (by omega) dX6_power_23 rfl rfl (fun h_23 => ?_) (fun h_23 => ?_)
      · refine z_lload_n (pc' := 64) C dX6_power_63 rfl 1 rfl rfl ?_
        exact z_lret (E := E) rfl dX6_power_64 ⟨(congrArg (fun z => some (Value.long z)) (show _ = _ from (by first | rfl | (have e9 : k = n := (by omega); subst e9; rfl)))), rfl, rfl, rfl⟩
      · refine z_aload_n (pc' := 27) C dX6_power_26 rfl 2 rfl rfl ?_
        refine z_iload (pc' := 29) C dX6_power_27 0 rfl rfl ?_
        refine z_cV (n := 1) (pc' := 32) (As := [.int (nI k)]) (rest := []) C 6 (c_X6_farOf l G sc ia la n hn hN k (by omega)) gX6_power_X6_farOf rfl rfl rfl rfl (by decide +kernel) (by decide) rfl (by decide) q_o6 rfl rfl dX6_power_29 (Nat.le_of_ble_eq_true rfl) rfl (k_I ?_)
        show Z sc ia la [(5, .int (nI k)), (3, .long (r_pw (ia 29) n m v k)), (0, .ref (G.2.1 6)), (1, .int m), (2, .int v)] 32 [.int (r_fa (ia 29) k n)]
        refine z_i2l (pc' := 33) C dX6_power_32 rfl ?_
        refine z_lstore (lv' := [(6, .long ((r_fa (ia 29) k n).toInt64)), (5, .int (nI k)), (3, .long (r_pw (ia 29) n m v k)), (0, .ref (G.2.1 6)), (1, .int m), (2, .int v)]) (pc' := 35) C dX6_power_33 (by decide) rfl rfl ?_
        refine z_lload_n (pc' := 36) C dX6_power_35 rfl 2 rfl rfl ?_
        refine z_iload (pc' := 38) C dX6_power_36 1 rfl rfl ?_
        refine z_iload_n (pc' := 39) C dX6_power_38 rfl 4 rfl rfl ?_
        refine z_iload_n (pc' := 40) C dX6_power_39 rfl 5 rfl rfl ?_
        refine z_cS (n := 3) (pc' := 43) (As := [.int (nI k), .int m, .int v]) (rest := [.long (r_pw (ia 29) n m v k)]) C (c_X6_passes l G sc ia la (nI k) m v) gX6_power_X6_passes rfl rfl rfl (by decide +kernel) (by decide) rfl rfl dX6_power_40 (Nat.le_of_ble_eq_true rfl) rfl (k_I ?_)
        show Z sc ia la [(6, .long ((r_fa (ia 29) k n).toInt64)), (5, .int (nI k)), (3, .long (r_pw (ia 29) n m v k)), (0, .ref (G.2.1 6)), (1, .int m), (2, .int v)] 43 [.int (bI (s_pass (nI k) m v)), .long (r_pw (ia 29) n m v k)]
        have J55 : Z sc ia la [(6, .long ((r_fa (ia 29) k n).toInt64)), (5, .int (nI k)), (3, .long (r_pw (ia 29) n m v k)), (0, .ref (G.2.1 6)), (1, .int m), (2, .int v)] 55 [.long (if s_pass (nI k) m v = true then (r_fa (ia 29) k n).toInt64 * (r_fa (ia 29) k n).toInt64 else 0), .long (r_pw (ia 29) n m v k)] := by
          refine z_ladd (pc' := 56) C dX6_power_55 rfl ?_
          refine z_lstore_n (lv' := [(3, .long ((r_pw (ia 29) n m v k) + (if s_pass (nI k) m v = true then (r_fa (ia 29) k n).toInt64 * (r_fa (ia 29) k n).toInt64 else 0))), (6, .long ((r_fa (ia 29) k n).toInt64)), (5, .int (nI k)), (0, .ref (G.2.1 6)), (1, .int m), (2, .int v)]) (pc' := 57) C dX6_power_56 rfl (by decide) rfl rfl ?_
          refine z_iinc (v := nI (k + 1)) (k9 := 2) (lv' := [(5, .int (nI (k + 1))), (3, .long ((r_pw (ia 29) n m v k) + (if s_pass (nI k) m v = true then (r_fa (ia 29) k n).toInt64 * (r_fa (ia 29) k n).toInt64 else 0))), (6, .long ((r_fa (ia 29) k n).toInt64)), (0, .ref (G.2.1 6)), (1, .int m), (2, .int v)]) (pc' := 60) C dX6_power_57 rfl (nI_1 k) (by decide) rfl rfl ?_
          refine z_goto (pc' := 17) C dX6_power_60 rfl ?_
          refine z_sub (lv' := [(5, .int (nI (k + 1))), (3, .long ((r_pw (ia 29) n m v k) + (if s_pass (nI k) m v = true then (r_fa (ia 29) k n).toInt64 * (r_fa (ia 29) k n).toInt64 else 0))), (0, .ref (G.2.1 6)), (1, .int m), (2, .int v)]) C [0, 1, 3, 4, 5] rfl ?_
          exact z_cast rfl rfl rfl rfl rfl (ih17 (k + 1) (by omega) (by omega))
        refine z_ifB_eq (pc' := 46) C 54 dX6_power_43 rfl rfl (fun h_43 => ?_) (fun h_43 => ?_)
        · refine z_lconst (v := 0) (pc' := 55) C dX6_power_54 rfl rfl ?_
          exact z_cast rfl rfl rfl rfl (by first | rfl | (simp [h_43])) J55
        · refine z_lload (pc' := 48) C dX6_power_46 0 rfl rfl ?_
          refine z_lload (pc' := 50) C dX6_power_48 0 rfl rfl ?_
          refine z_lmul (pc' := 51) C dX6_power_50 rfl ?_
          refine z_goto (pc' := 55) C dX6_power_51 rfl ?_
          exact z_cast rfl rfl rfl rfl (by first | rfl | (simp [h_43])) J55
  exact z_cast rfl rfl rfl rfl rfl (L17 (_ + 1) 0 (by omega) (Nat.lt_succ_self _))

set_option maxHeartbeats 4000000 in
set_option maxRecDepth 100000 in
theorem c_X6_lostMany (l : Launch) (G : Gv) (sc : Sc) (ia : Ia) (la : La) (n : Nat) (hn : sc 7 = nI n) (hN : n ≤ 32)  : Ct l yX6_lostMany wsX6_lostMany ({ frames := 0, cells := 0, slots := 0, locals := 0 }) G [.ref (G.2.1 6)] sc ia la (fI (r_ct (ia 32) n) sc ia la) := by
  have hU6 : ∀ w ∈ u_ws RX6 TX6 25, w ∈ wsX6_lostMany := fun w h => List.mem_cons_of_mem _ (List.mem_append_right _ h)
  refine z_of (maxL := 3) (own := RX6) [(0, .ref (G.2.1 6))] rfl (by decide +kernel) rfl (Nat.le_of_ble_eq_true rfl) rfl (fun Z C E => ?_)
  refine z_iconst (v := 0) (pc' := 1) C dX6_lostMany_0 rfl rfl ?_
  refine z_istore_n (lv' := [(1, .int 0), (0, .ref (G.2.1 6))]) (pc' := 2) C dX6_lostMany_1 rfl (by decide) rfl rfl ?_
  refine z_iconst (v := 0) (pc' := 3) C dX6_lostMany_2 rfl rfl ?_
  refine z_istore_n (lv' := [(2, .int 0), (1, .int 0), (0, .ref (G.2.1 6))]) (pc' := 4) C dX6_lostMany_3 rfl (by decide) rfl rfl ?_
  have L4 : ∀ (fuel : Nat) (i : Nat) (hi : i ≤ n), n - i < fuel → Z sc ia la [(2, .int (nI i)), (1, .int (r_ct (ia 32) i)), (0, .ref (G.2.1 6))] 4 [] := by
    intro fuel
    induction fuel with
    | zero => intro i hi hm4; exact absurd hm4 (Nat.not_lt_zero _)
    | succ fuel ih4 =>
      intro i hi hm4
      refine z_iload_n (pc' := 5) C dX6_lostMany_4 rfl 0 rfl rfl ?_
      refine z_aload_n (pc' := 6) C dX6_lostMany_5 rfl 2 rfl rfl ?_
      refine z_get (pc' := 9) C hU6 6 (by decide) q_o6 rfl 0 (by decide) (by decide +kernel) (v := .int (sc 7)) rfl dX6_lostMany_6 rfl ?_
      refine z_cast (st' := [.int (nI n), .int (nI i)]) rfl rfl rfl rfl (congrArg (fun z => Value.int z :: [.int (nI i)]) hn) ?_
      refine z_icmpN_ge (a := i) (b := n) (pc' := 12) C 35 (by omega) (by omega) dX6_lostMany_9 rfl rfl (fun h_9 => ?_) (fun h_9 => ?_)
      · refine z_iload_n (pc' := 36) C dX6_lostMany_35 rfl 1 rfl rfl ?_
        exact z_iret (E := E) rfl dX6_lostMany_36 ⟨(congrArg (fun z => some (Value.int z)) (show _ = _ from (by first | rfl | (have e9 : i = n := (by omega); subst e9; rfl)))), rfl, rfl, rfl⟩
      · refine z_iload_n (pc' := 13) C dX6_lostMany_12 rfl 1 rfl rfl ?_
        refine z_aload_n (pc' := 14) C dX6_lostMany_13 rfl 2 rfl rfl ?_
        refine z_get (pc' := 17) C hU6 6 (by decide) q_o6 rfl 4 (by decide) (by decide +kernel) (v := .ref (G.2.1 39)) rfl dX6_lostMany_14 rfl ?_
        refine z_iload_n (pc' := 18) C dX6_lostMany_17 rfl 0 rfl rfl ?_
        refine z_zald (pc' := 19) C 39 (by decide) (N := 32) (i := i) (f := ia 32) q_i32 (by omega) (by decide) dX6_lostMany_18 rfl ?_
        have J27 : Z sc ia la [(2, .int (nI i)), (1, .int (r_ct (ia 32) i)), (0, .ref (G.2.1 6))] 27 [.int (if ia 32 i = 0 then 0 else 1), .int (r_ct (ia 32) i)] := by
          refine z_iadd (pc' := 28) C dX6_lostMany_27 rfl ?_
          refine z_istore_n (lv' := [(1, .int ((r_ct (ia 32) i) + (if ia 32 i = 0 then 0 else 1))), (2, .int (nI i)), (0, .ref (G.2.1 6))]) (pc' := 29) C dX6_lostMany_28 rfl (by decide) rfl rfl ?_
          refine z_iinc (v := nI (i + 1)) (k9 := 1) (lv' := [(2, .int (nI (i + 1))), (1, .int ((r_ct (ia 32) i) + (if ia 32 i = 0 then 0 else 1))), (0, .ref (G.2.1 6))]) (pc' := 32) C dX6_lostMany_29 rfl (nI_1 i) (by decide) rfl rfl ?_
          refine z_goto (pc' := 4) C dX6_lostMany_32 rfl ?_
          exact z_cast rfl rfl rfl rfl rfl (ih4 (i + 1) (by omega) (by omega))
        refine z_if_eq (pc' := 22) C 26 dX6_lostMany_19 rfl rfl (fun h_19 => ?_) (fun h_19 => ?_)
        · refine z_iconst (v := 0) (pc' := 27) C dX6_lostMany_26 rfl rfl ?_
          exact z_cast rfl rfl rfl rfl (by first | rfl | (simp [bI, hi, h_9, h_19])) J27
        · refine z_iconst (v := 1) (pc' := 23) C dX6_lostMany_22 rfl rfl ?_
          refine z_goto (pc' := 27) C dX6_lostMany_23 rfl ?_
          exact z_cast rfl rfl rfl rfl (by first | rfl | (simp [bI, hi, h_9, h_19])) J27
  exact z_cast rfl rfl rfl rfl rfl (L4 (_ + 1) 0 (by omega) (Nat.lt_succ_self _))

set_option maxHeartbeats 4000000 in
set_option maxRecDepth 100000 in
theorem c_X6_lose_ok (l : Launch) (G : Gv) (sc : Sc) (ia : Ia) (la : La) (n : Nat) (hn : sc 7 = nI n) (hN : n ≤ 32) (h1 : 1 ≤ n) (j : Nat) (hj : j < n) (z : Bool)  : Ct l yX6_lose wsX6_lose ({ frames := 7, cells := 0, slots := 0, locals := 250 }) G [.ref (G.2.1 6), .int (nI j), .int (bI (z))] sc ia la (fI (if z = true ∧ ia 32 j = 0 ∧ r_ct (ia 32) n = 5 then -104 else if ia 32 j = 0 then 0 else 1) sc (if z = true ∧ ia 32 j = 0 ∧ r_ct (ia 32) n = 5 then ia else va_up ia 32 (upd (ia 32) j (bI z))) la) := by
  have hU6 : ∀ w ∈ u_ws RX6 TX6 25, w ∈ wsX6_lose := fun w h => List.mem_cons_of_mem _ (List.mem_append_right _ h)
  refine z_of (maxL := 4) (own := RX6) [(0, .ref (G.2.1 6)), (1, .int (nI j)), (2, .int (bI (z)))] rfl (by decide +kernel) rfl (Nat.le_of_ble_eq_true rfl) rfl (fun Z C E => ?_)
  refine z_aload_n (pc' := 1) C dX6_lose_0 rfl 0 rfl rfl ?_
  refine z_iload_n (pc' := 2) C dX6_lose_1 rfl 1 rfl rfl ?_
  refine z_cV (n := 1) (pc' := 5) (As := [.int (nI j)]) (rest := []) C 6 (c_X6_isPlace_ok l G sc ia la n hn hN h1 j hj) gX6_lose_X6_isPlace rfl rfl rfl rfl (by decide +kernel) (by decide) rfl (by decide) q_o6 rfl rfl dX6_lose_2 (Nat.le_of_ble_eq_true rfl) rfl (k_I ?_)
  show Z sc ia la [(0, .ref (G.2.1 6)), (1, .int (nI j)), (2, .int (bI (z)))] 5 [.int 1]
  refine z_if_ne (pc' := 8) C 11 dX6_lose_5 rfl rfl (fun h_5 => ?_) (fun h_5 => absurd h_5 (by decide))
  refine z_iload_n (pc' := 12) C dX6_lose_11 rfl 2 rfl rfl ?_
  refine z_ifB_eq (pc' := 15) C 35 dX6_lose_12 rfl rfl (fun h_12 => ?_) (fun h_12 => ?_)
  · refine z_aload_n (pc' := 36) C dX6_lose_35 rfl 0 rfl rfl ?_
    refine z_get (pc' := 39) C hU6 6 (by decide) q_o6 rfl 4 (by decide) (by decide +kernel) (v := .ref (G.2.1 39)) rfl dX6_lose_36 rfl ?_
    refine z_iload_n (pc' := 40) C dX6_lose_39 rfl 1 rfl rfl ?_
    refine z_zald (pc' := 41) C 39 (by decide) (N := 32) (i := j) (f := ia 32) q_i32 (by omega) (by decide) dX6_lose_40 rfl ?_
    refine z_if_eq (pc' := 44) C 48 dX6_lose_41 rfl rfl (fun h_41 => ?_) (fun h_41 => ?_)
    · refine z_iconst (v := 0) (pc' := 49) C dX6_lose_48 rfl rfl ?_
      refine z_istore_n (lv' := [(3, .int 0), (0, .ref (G.2.1 6)), (1, .int (nI j)), (2, .int (bI (z)))]) (pc' := 50) C dX6_lose_49 rfl (by decide) rfl rfl ?_
      refine z_aload_n (pc' := 51) C dX6_lose_50 rfl 1 rfl rfl ?_
      refine z_get (pc' := 54) C hU6 6 (by decide) q_o6 rfl 4 (by decide) (by decide +kernel) (v := .ref (G.2.1 39)) rfl dX6_lose_51 rfl ?_
      refine z_iload_n (pc' := 55) C dX6_lose_54 rfl 2 rfl rfl ?_
      refine z_iload_n (pc' := 56) C dX6_lose_55 rfl 3 rfl rfl ?_
      refine z_zast (pc' := 57) C 39 (by decide) (N := 32) (i := j) (f := ia 32) (bI_vnar _) q_i32 (by omega) (by decide) (q_u32 _) dX6_lose_56 rfl ?_
      refine z_iload_n (pc' := 58) C dX6_lose_57 rfl 0 rfl rfl ?_
      exact z_iret (E := E) rfl dX6_lose_58 ⟨(congrArg (fun z => some (Value.int z)) (show _ = _ from (by first | rfl | (first | (exact absurd h_41 h_21) | (exact absurd h_21 h_41) | simp [h_12, h_41])))), rfl, (by first | rfl | (first | (exact absurd h_41 h_21) | (exact absurd h_21 h_41) | simp [h_12, h_41])), rfl⟩
    · refine z_iconst (v := 1) (pc' := 45) C dX6_lose_44 rfl rfl ?_
      refine z_goto (pc' := 49) C dX6_lose_45 rfl ?_
      refine z_istore_n (lv' := [(3, .int 1), (0, .ref (G.2.1 6)), (1, .int (nI j)), (2, .int (bI (z)))]) (pc' := 50) C dX6_lose_49 rfl (by decide) rfl rfl ?_
      refine z_aload_n (pc' := 51) C dX6_lose_50 rfl 1 rfl rfl ?_
      refine z_get (pc' := 54) C hU6 6 (by decide) q_o6 rfl 4 (by decide) (by decide +kernel) (v := .ref (G.2.1 39)) rfl dX6_lose_51 rfl ?_
      refine z_iload_n (pc' := 55) C dX6_lose_54 rfl 2 rfl rfl ?_
      refine z_iload_n (pc' := 56) C dX6_lose_55 rfl 3 rfl rfl ?_
      refine z_zast (pc' := 57) C 39 (by decide) (N := 32) (i := j) (f := ia 32) (bI_vnar _) q_i32 (by omega) (by decide) (q_u32 _) dX6_lose_56 rfl ?_
      refine z_iload_n (pc' := 58) C dX6_lose_57 rfl 0 rfl rfl ?_
      exact z_iret (E := E) rfl dX6_lose_58 ⟨(congrArg (fun z => some (Value.int z)) (show _ = _ from (by first | rfl | (first | (exact absurd h_41 h_21) | (exact absurd h_21 h_41) | simp [h_12, h_41])))), rfl, (by first | rfl | (first | (exact absurd h_41 h_21) | (exact absurd h_21 h_41) | simp [h_12, h_41])), rfl⟩
  · refine z_aload_n (pc' := 16) C dX6_lose_15 rfl 0 rfl rfl ?_
    refine z_get (pc' := 19) C hU6 6 (by decide) q_o6 rfl 4 (by decide) (by decide +kernel) (v := .ref (G.2.1 39)) rfl dX6_lose_16 rfl ?_
    refine z_iload_n (pc' := 20) C dX6_lose_19 rfl 1 rfl rfl ?_
    refine z_zald (pc' := 21) C 39 (by decide) (N := 32) (i := j) (f := ia 32) q_i32 (by omega) (by decide) dX6_lose_20 rfl ?_
    refine z_if_ne (pc' := 24) C 35 dX6_lose_21 rfl rfl (fun h_21 => ?_) (fun h_21 => ?_)
    · refine z_aload_n (pc' := 36) C dX6_lose_35 rfl 0 rfl rfl ?_
      refine z_get (pc' := 39) C hU6 6 (by decide) q_o6 rfl 4 (by decide) (by decide +kernel) (v := .ref (G.2.1 39)) rfl dX6_lose_36 rfl ?_
      refine z_iload_n (pc' := 40) C dX6_lose_39 rfl 1 rfl rfl ?_
      refine z_zald (pc' := 41) C 39 (by decide) (N := 32) (i := j) (f := ia 32) q_i32 (by omega) (by decide) dX6_lose_40 rfl ?_
      refine z_if_eq (pc' := 44) C 48 dX6_lose_41 rfl rfl (fun h_41 => ?_) (fun h_41 => ?_)
      · refine z_iconst (v := 0) (pc' := 49) C dX6_lose_48 rfl rfl ?_
        refine z_istore_n (lv' := [(3, .int 0), (0, .ref (G.2.1 6)), (1, .int (nI j)), (2, .int (bI (z)))]) (pc' := 50) C dX6_lose_49 rfl (by decide) rfl rfl ?_
        refine z_aload_n (pc' := 51) C dX6_lose_50 rfl 1 rfl rfl ?_
        refine z_get (pc' := 54) C hU6 6 (by decide) q_o6 rfl 4 (by decide) (by decide +kernel) (v := .ref (G.2.1 39)) rfl dX6_lose_51 rfl ?_
        refine z_iload_n (pc' := 55) C dX6_lose_54 rfl 2 rfl rfl ?_
        refine z_iload_n (pc' := 56) C dX6_lose_55 rfl 3 rfl rfl ?_
        refine z_zast (pc' := 57) C 39 (by decide) (N := 32) (i := j) (f := ia 32) (bI_vnar _) q_i32 (by omega) (by decide) (q_u32 _) dX6_lose_56 rfl ?_
        refine z_iload_n (pc' := 58) C dX6_lose_57 rfl 0 rfl rfl ?_
        exact z_iret (E := E) rfl dX6_lose_58 ⟨(congrArg (fun z => some (Value.int z)) (show _ = _ from (by first | rfl | (first | (exact absurd h_41 h_21) | (exact absurd h_21 h_41) | simp [h_12, h_21, h_41])))), rfl, (by first | rfl | (first | (exact absurd h_41 h_21) | (exact absurd h_21 h_41) | simp [h_12, h_21, h_41])), rfl⟩
      · refine z_iconst (v := 1) (pc' := 45) C dX6_lose_44 rfl rfl ?_
        refine z_goto (pc' := 49) C dX6_lose_45 rfl ?_
        refine z_istore_n (lv' := [(3, .int 1), (0, .ref (G.2.1 6)), (1, .int (nI j)), (2, .int (bI (z)))]) (pc' := 50) C dX6_lose_49 rfl (by decide) rfl rfl ?_
        refine z_aload_n (pc' := 51) C dX6_lose_50 rfl 1 rfl rfl ?_
        refine z_get (pc' := 54) C hU6 6 (by decide) q_o6 rfl 4 (by decide) (by decide +kernel) (v := .ref (G.2.1 39)) rfl dX6_lose_51 rfl ?_
        refine z_iload_n (pc' := 55) C dX6_lose_54 rfl 2 rfl rfl ?_
        refine z_iload_n (pc' := 56) C dX6_lose_55 rfl 3 rfl rfl ?_
        refine z_zast (pc' := 57) C 39 (by decide) (N := 32) (i := j) (f := ia 32) (bI_vnar _) q_i32 (by omega) (by decide) (q_u32 _) dX6_lose_56 rfl ?_
        refine z_iload_n (pc' := 58) C dX6_lose_57 rfl 0 rfl rfl ?_
        exact z_iret (E := E) rfl dX6_lose_58 ⟨(congrArg (fun z => some (Value.int z)) (show _ = _ from (by first | rfl | (first | (exact absurd h_41 h_21) | (exact absurd h_21 h_41) | simp [h_12, h_21, h_41])))), rfl, (by first | rfl | (first | (exact absurd h_41 h_21) | (exact absurd h_21 h_41) | simp [h_12, h_21, h_41])), rfl⟩
    · refine z_aload_n (pc' := 25) C dX6_lose_24 rfl 0 rfl rfl ?_
      refine z_cV (n := 0) (pc' := 28) (As := []) (rest := []) C 6 (c_X6_lostMany l G sc ia la n hn hN) gX6_lose_X6_lostMany rfl rfl rfl rfl (by decide +kernel) (by decide) rfl (by decide) q_o6 rfl rfl dX6_lose_25 (Nat.le_of_ble_eq_true rfl) rfl (k_I ?_)
      show Z sc ia la [(0, .ref (G.2.1 6)), (1, .int (nI j)), (2, .int (bI (z)))] 28 [.int (r_ct (ia 32) n)]
      refine z_iconst (v := 5) (pc' := 29) C dX6_lose_28 rfl rfl ?_
      refine z_icmp_ne (pc' := 32) C 35 dX6_lose_29 rfl rfl (fun h_29 => ?_) (fun h_29 => ?_)
      · refine z_aload_n (pc' := 36) C dX6_lose_35 rfl 0 rfl rfl ?_
        refine z_get (pc' := 39) C hU6 6 (by decide) q_o6 rfl 4 (by decide) (by decide +kernel) (v := .ref (G.2.1 39)) rfl dX6_lose_36 rfl ?_
        refine z_iload_n (pc' := 40) C dX6_lose_39 rfl 1 rfl rfl ?_
        refine z_zald (pc' := 41) C 39 (by decide) (N := 32) (i := j) (f := ia 32) q_i32 (by omega) (by decide) dX6_lose_40 rfl ?_
        refine z_if_eq (pc' := 44) C 48 dX6_lose_41 rfl rfl (fun h_41 => ?_) (fun h_41 => ?_)
        · refine z_iconst (v := 0) (pc' := 49) C dX6_lose_48 rfl rfl ?_
          refine z_istore_n (lv' := [(3, .int 0), (0, .ref (G.2.1 6)), (1, .int (nI j)), (2, .int (bI (z)))]) (pc' := 50) C dX6_lose_49 rfl (by decide) rfl rfl ?_
          refine z_aload_n (pc' := 51) C dX6_lose_50 rfl 1 rfl rfl ?_
          refine z_get (pc' := 54) C hU6 6 (by decide) q_o6 rfl 4 (by decide) (by decide +kernel) (v := .ref (G.2.1 39)) rfl dX6_lose_51 rfl ?_
          refine z_iload_n (pc' := 55) C dX6_lose_54 rfl 2 rfl rfl ?_
          refine z_iload_n (pc' := 56) C dX6_lose_55 rfl 3 rfl rfl ?_
          refine z_zast (pc' := 57) C 39 (by decide) (N := 32) (i := j) (f := ia 32) (bI_vnar _) q_i32 (by omega) (by decide) (q_u32 _) dX6_lose_56 rfl ?_
          refine z_iload_n (pc' := 58) C dX6_lose_57 rfl 0 rfl rfl ?_
          exact z_iret (E := E) rfl dX6_lose_58 ⟨(congrArg (fun z => some (Value.int z)) (show _ = _ from (by first | rfl | (first | (exact absurd h_41 h_21) | (exact absurd h_21 h_41) | simp [h_12, h_21, h_29, h_41])))), rfl, (by first | rfl | (first | (exact absurd h_41 h_21) | (exact absurd h_21 h_41) | simp [h_12, h_21, h_29, h_41])), rfl⟩
        · refine z_iconst (v := 1) (pc' := 45) C dX6_lose_44 rfl rfl ?_
          refine z_goto (pc' := 49) C dX6_lose_45 rfl ?_
          refine z_istore_n (lv' := [(3, .int 1), (0, .ref (G.2.1 6)), (1, .int (nI j)), (2, .int (bI (z)))]) (pc' := 50) C dX6_lose_49 rfl (by decide) rfl rfl ?_
          refine z_aload_n (pc' := 51) C dX6_lose_50 rfl 1 rfl rfl ?_
          refine z_get (pc' := 54) C hU6 6 (by decide) q_o6 rfl 4 (by decide) (by decide +kernel) (v := .ref (G.2.1 39)) rfl dX6_lose_51 rfl ?_
          refine z_iload_n (pc' := 55) C dX6_lose_54 rfl 2 rfl rfl ?_
          refine z_iload_n (pc' := 56) C dX6_lose_55 rfl 3 rfl rfl ?_
          refine z_zast (pc' := 57) C 39 (by decide) (N := 32) (i := j) (f := ia 32) (bI_vnar _) q_i32 (by omega) (by decide) (q_u32 _) dX6_lose_56 rfl ?_
          refine z_iload_n (pc' := 58) C dX6_lose_57 rfl 0 rfl rfl ?_
          exact z_iret (E := E) rfl dX6_lose_58 ⟨(congrArg (fun z => some (Value.int z)) (show _ = _ from (by first | rfl | (first | (exact absurd h_41 h_21) | (exact absurd h_21 h_41) | simp [h_12, h_21, h_29, h_41])))), rfl, (by first | rfl | (first | (exact absurd h_41 h_21) | (exact absurd h_21 h_41) | simp [h_12, h_21, h_29, h_41])), rfl⟩
      · refine z_bipush (v := -104) (pc' := 34) C dX6_lose_32 rfl rfl ?_
        exact z_iret (E := E) rfl dX6_lose_34 ⟨(congrArg (fun z => some (Value.int z)) (show _ = _ from (by first | rfl | (first | (exact absurd h_41 h_21) | (exact absurd h_21 h_41) | simp [h_12, h_21, h_29])))), rfl, (by first | rfl | (first | (exact absurd h_41 h_21) | (exact absurd h_21 h_41) | simp [h_12, h_21, h_29])), rfl⟩

set_option maxHeartbeats 4000000 in
set_option maxRecDepth 100000 in
theorem c_X6_measure_out (l : Launch) (G : Gv) (sc : Sc) (ia : Ia) (la : La) (n : Nat) (hn : sc 7 = nI n) (hN : n ≤ 32) (h1 : 1 ≤ n) (j : Nat) (hj : j < n) (v : Int32) (z : Bool) (ho : s_out v (-1000000) 1000000 = true)  : Ct l yX6_measure wsX6_measure ({ frames := 7, cells := 0, slots := 0, locals := 250 }) G [.ref (G.2.1 6), .int (nI j), .int v, .int (bI (z))] sc ia la (fI (-102) sc ia la) := by
  refine z_of (maxL := 5) (own := RX6) [(0, .ref (G.2.1 6)), (1, .int (nI j)), (2, .int v), (3, .int (bI (z)))] rfl (by decide +kernel) rfl (Nat.le_of_ble_eq_true rfl) rfl (fun Z C E => ?_)
  refine z_aload_n (pc' := 1) C dX6_measure_0 rfl 0 rfl rfl ?_
  refine z_iload_n (pc' := 2) C dX6_measure_1 rfl 1 rfl rfl ?_
  refine z_cV (n := 1) (pc' := 5) (As := [.int (nI j)]) (rest := []) C 6 (c_X6_isPlace_ok l G sc ia la n hn hN h1 j hj) gX6_measure_X6_isPlace rfl rfl rfl rfl (by decide +kernel) (by decide) rfl (by decide) q_o6 rfl rfl dX6_measure_2 (Nat.le_of_ble_eq_true rfl) rfl (k_I ?_)
  show Z sc ia la [(0, .ref (G.2.1 6)), (1, .int (nI j)), (2, .int v), (3, .int (bI (z)))] 5 [.int 1]
  refine z_if_ne (pc' := 8) C 11 dX6_measure_5 rfl rfl (fun h_5 => ?_) (fun h_5 => absurd h_5 (by decide))
  refine z_iload_n (pc' := 12) C dX6_measure_11 rfl 2 rfl rfl ?_
  refine z_i2l (pc' := 13) C dX6_measure_12 rfl ?_
  refine z_ldc2 (v := -1000000) (pc' := 16) C (by decide +kernel) dX6_measure_13 rfl ?_
  refine z_ldc2 (v := 1000000) (pc' := 19) C (by decide +kernel) dX6_measure_16 rfl ?_
  refine z_cS (n := 3) (pc' := 22) (As := [.long v.toInt64, .long (-1000000), .long 1000000]) (rest := []) C (c_X6_inB l G sc ia la v (-1000000) 1000000 (-1000000) 1000000 rfl rfl false ho) gX6_measure_X6_in rfl rfl rfl (by decide +kernel) (by decide) rfl rfl dX6_measure_19 (Nat.le_of_ble_eq_true rfl) rfl (k_I ?_)
  show Z sc ia la [(0, .ref (G.2.1 6)), (1, .int (nI j)), (2, .int v), (3, .int (bI (z)))] 22 [.int 0]
  refine z_if_ne (pc' := 25) C 28 dX6_measure_22 rfl rfl (fun h_22 => absurd h_22 (by decide)) (fun h_22 => ?_)
  refine z_bipush (v := -102) (pc' := 27) C dX6_measure_25 rfl rfl ?_
  exact z_iret (E := E) rfl dX6_measure_27 ⟨(congrArg (fun z => some (Value.int z)) rfl), rfl, rfl, rfl⟩

set_option maxHeartbeats 4000000 in
set_option maxRecDepth 100000 in
theorem c_X6_measure_ok (l : Launch) (G : Gv) (sc : Sc) (ia : Ia) (la : La) (n : Nat) (hn : sc 7 = nI n) (hN : n ≤ 32) (h1 : 1 ≤ n) (j : Nat) (hj : j < n) (v : Int32) (z : Bool) (ho : s_out v (-1000000) 1000000 = false)  : Ct l yX6_measure wsX6_measure ({ frames := 7, cells := 0, slots := 0, locals := 250 }) G [.ref (G.2.1 6), .int (nI j), .int v, .int (bI (z))] sc ia la (fI (if ia 33 j = 0 then 0 else 1) sc (va_up (va_up ia 33 (upd (ia 33) j (bI z))) 34 (upd (ia 34) j (if z = true then v else 0))) la) := by
  have hU6 : ∀ w ∈ u_ws RX6 TX6 25, w ∈ wsX6_measure := fun w h => List.mem_cons_of_mem _ (List.mem_append_right _ h)
  refine z_of (maxL := 5) (own := RX6) [(0, .ref (G.2.1 6)), (1, .int (nI j)), (2, .int v), (3, .int (bI (z)))] rfl (by decide +kernel) rfl (Nat.le_of_ble_eq_true rfl) rfl (fun Z C E => ?_)
  refine z_aload_n (pc' := 1) C dX6_measure_0 rfl 0 rfl rfl ?_
  refine z_iload_n (pc' := 2) C dX6_measure_1 rfl 1 rfl rfl ?_
  refine z_cV (n := 1) (pc' := 5) (As := [.int (nI j)]) (rest := []) C 6 (c_X6_isPlace_ok l G sc ia la n hn hN h1 j hj) gX6_measure_X6_isPlace rfl rfl rfl rfl (by decide +kernel) (by decide) rfl (by decide) q_o6 rfl rfl dX6_measure_2 (Nat.le_of_ble_eq_true rfl) rfl (k_I ?_)
  show Z sc ia la [(0, .ref (G.2.1 6)), (1, .int (nI j)), (2, .int v), (3, .int (bI (z)))] 5 [.int 1]
  refine z_if_ne (pc' := 8) C 11 dX6_measure_5 rfl rfl (fun h_5 => ?_) (fun h_5 => absurd h_5 (by decide))
  refine z_iload_n (pc' := 12) C dX6_measure_11 rfl 2 rfl rfl ?_
  refine z_i2l (pc' := 13) C dX6_measure_12 rfl ?_
  refine z_ldc2 (v := -1000000) (pc' := 16) C (by decide +kernel) dX6_measure_13 rfl ?_
  refine z_ldc2 (v := 1000000) (pc' := 19) C (by decide +kernel) dX6_measure_16 rfl ?_
  refine z_cS (n := 3) (pc' := 22) (As := [.long v.toInt64, .long (-1000000), .long 1000000]) (rest := []) C (c_X6_inB l G sc ia la v (-1000000) 1000000 (-1000000) 1000000 rfl rfl true ho) gX6_measure_X6_in rfl rfl rfl (by decide +kernel) (by decide) rfl rfl dX6_measure_19 (Nat.le_of_ble_eq_true rfl) rfl (k_I ?_)
  show Z sc ia la [(0, .ref (G.2.1 6)), (1, .int (nI j)), (2, .int v), (3, .int (bI (z)))] 22 [.int 1]
  refine z_if_ne (pc' := 25) C 28 dX6_measure_22 rfl rfl (fun h_22 => ?_) (fun h_22 => absurd h_22 (by decide))
  refine z_aload_n (pc' := 29) C dX6_measure_28 rfl 0 rfl rfl ?_
  refine z_get (pc' := 32) C hU6 6 (by decide) q_o6 rfl 5 (by decide) (by decide +kernel) (v := .ref (G.2.1 40)) rfl dX6_measure_29 rfl ?_
  refine z_iload_n (pc' := 33) C dX6_measure_32 rfl 1 rfl rfl ?_
  refine z_zald (pc' := 34) C 40 (by decide) (N := 32) (i := j) (f := ia 33) q_i33 (by omega) (by decide) dX6_measure_33 rfl ?_
  have J42 : Z sc ia la [(0, .ref (G.2.1 6)), (1, .int (nI j)), (2, .int v), (3, .int (bI (z)))] 42 [.int (if ia 33 j = 0 then 0 else 1)] := by
    refine z_istore (lv' := [(4, .int (if ia 33 j = 0 then 0 else 1)), (0, .ref (G.2.1 6)), (1, .int (nI j)), (2, .int v), (3, .int (bI (z)))]) (pc' := 44) C dX6_measure_42 (by decide) rfl rfl ?_
    refine z_aload_n (pc' := 45) C dX6_measure_44 rfl 1 rfl rfl ?_
    refine z_get (pc' := 48) C hU6 6 (by decide) q_o6 rfl 5 (by decide) (by decide +kernel) (v := .ref (G.2.1 40)) rfl dX6_measure_45 rfl ?_
    refine z_iload_n (pc' := 49) C dX6_measure_48 rfl 2 rfl rfl ?_
    refine z_iload_n (pc' := 50) C dX6_measure_49 rfl 4 rfl rfl ?_
    refine z_zast (pc' := 51) C 40 (by decide) (N := 32) (i := j) (f := ia 33) (bI_vnar _) q_i33 (by omega) (by decide) (q_u33 _) dX6_measure_50 rfl ?_
    refine z_aload_n (pc' := 52) C dX6_measure_51 rfl 1 rfl rfl ?_
    refine z_get (pc' := 55) C hU6 6 (by decide) q_o6 rfl 6 (by decide) (by decide +kernel) (v := .ref (G.2.1 41)) rfl dX6_measure_52 rfl ?_
    refine z_iload_n (pc' := 56) C dX6_measure_55 rfl 2 rfl rfl ?_
    refine z_iload_n (pc' := 57) C dX6_measure_56 rfl 4 rfl rfl ?_
    have J65 : Z sc (va_up ia 33 (upd (ia 33) j (bI (z)))) la [(4, .int (if ia 33 j = 0 then 0 else 1)), (0, .ref (G.2.1 6)), (1, .int (nI j)), (2, .int v), (3, .int (bI (z)))] 65 [.int (if z = true then v else 0), .int (nI j), .ref (G.2.1 41)] := by
      refine z_iast (pc' := 66) C 41 (by decide) (N := 32) (i := j) (f := ia 34) q_i34 (by omega) (by decide) (q_u34 _) dX6_measure_65 rfl ?_
      refine z_iload (pc' := 68) C dX6_measure_66 0 rfl rfl ?_
      exact z_iret (E := E) rfl dX6_measure_68 ⟨(congrArg (fun z => some (Value.int z)) rfl), rfl, rfl, rfl⟩
    refine z_ifB_eq (pc' := 60) C 64 dX6_measure_57 rfl rfl (fun h_57 => ?_) (fun h_57 => ?_)
    · refine z_iconst (v := 0) (pc' := 65) C dX6_measure_64 rfl rfl ?_
      exact z_cast rfl rfl rfl rfl (by first | rfl | (simp [bI, h_57])) J65
    · refine z_iload_n (pc' := 61) C dX6_measure_60 rfl 3 rfl rfl ?_
      refine z_goto (pc' := 65) C dX6_measure_61 rfl ?_
      exact z_cast rfl rfl rfl rfl (by first | rfl | (simp [bI, h_57])) J65
  refine z_if_eq (pc' := 37) C 41 dX6_measure_34 rfl rfl (fun h_34 => ?_) (fun h_34 => ?_)
  · refine z_iconst (v := 0) (pc' := 42) C dX6_measure_41 rfl rfl ?_
    exact z_cast rfl rfl rfl rfl (by first | rfl | (simp [bI, h_34])) J42
  · refine z_iconst (v := 1) (pc' := 38) C dX6_measure_37 rfl rfl ?_
    refine z_goto (pc' := 42) C dX6_measure_38 rfl ?_
    exact z_cast rfl rfl rfl rfl (by first | rfl | (simp [bI, h_34])) J42

