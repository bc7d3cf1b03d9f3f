/-! more operations -/
theorem wp_eq {ia : Ia} (h2 : ∀ j, j < 32 → ¬ ia 2 j = 0) : ∀ k, k ≤ 32 → s_all (r_wp (ia 3) (ia 2)) k = s_all (s_wp ia) k
  | 0, _ => rfl
  | k + 1, h => by
    show (s_all (r_wp (ia 3) (ia 2)) k && r_wp (ia 3) (ia 2) k) = (s_all (s_wp ia) k && s_wp ia k)
    rw [wp_eq h2 k (by omega)]
    congr 1
    have := h2 k (by omega)
    simp [r_wp, s_wp, this]
theorem po_eq {ia : Ia} (h2 : ∀ j, j < 32 → ¬ ia 2 j = 0) : ∀ k, k ≤ 32 → r_po (ia 3) (ia 2) k = s_po ia k
  | 0, _ => rfl
  | k + 1, h => by
    show upd (r_po (ia 3) (ia 2) k) k _ = if ia 2 k = 0 then _ else _
    rw [if_neg (h2 k (by omega)), po_eq h2 k (by omega)]
theorem div_bd {x y : Int32} {B : Int} (hy : ¬ y = 0) (hx : -B ≤ x.toInt ∧ x.toInt ≤ B) (hB : B < 2 ^ 30) : -B ≤ (x / y).toInt ∧ (x / y).toInt ≤ B := by
  have hy0 : y.toInt ≠ 0 := fun q => hy (Int32.toInt_inj.mp (by rw [q]; decide))
  have h1 : (x.toInt.tdiv y.toInt).natAbs ≤ x.toInt.natAbs := Int.natAbs_tdiv_le_natAbs _ _
  rw [Int32.toInt_div]
  have h2 : -B ≤ x.toInt.tdiv y.toInt ∧ x.toInt.tdiv y.toInt ≤ B := by omega
  rw [Int.bmod_eq_of_le (by omega) (by omega)]
  exact h2
theorem po_bd {ia : Ia} (h2 : ∀ j, j < 32 → ¬ ia 2 j = 0) (h3 : ∀ j, j < 32 → -1000000 ≤ (ia 3 j).toInt ∧ (ia 3 j).toInt ≤ 1000000) : ∀ k, k ≤ 32 → ∀ j, j < 32 → -1000000 ≤ (s_po ia k j).toInt ∧ (s_po ia k j).toInt ≤ 1000000
  | 0, _ => h3
  | k + 1, h => by
    intro j hj
    have e9 : s_po ia (k + 1) = upd (s_po ia k) k (s_po ia k k / ia 2 k) := if_neg (h2 k (by omega))
    rw [e9]
    by_cases e : j = k
    · subst e
      rw [pk_us]
      exact div_bd (h2 j (by omega)) (po_bd h2 h3 j (by omega) j hj) (by decide)
    · rw [pk_un e]
      exact po_bd h2 h3 k (by omega) j hj
theorem op_unprobe {l : Launch} {G : Gv} {sc : Sc} {ia : Ia} {la : La} (hR : Rel sc ia) : OpI l G yX5_unprobe wsX5_unprobe yX6_unprobe wsX6_unprobe [] sc ia la := by
  obtain ⟨n, R, K, m, d, hS, hN, hSh, hPa, hDb⟩ := id hR
  obtain ⟨hn1, hn32⟩ := hN.1.le
  obtain ⟨g1, ⟨e1, e2, e3, e4, e5, e6, e7⟩, g3, g4, g5, g6, g7, g8, g9⟩ := id hN
  have A := c_X5_unprobe_ok l G sc ia la n hS.1 hn32
  rcases o_bool (s_all (s_wp ia) n) with h | h
  · rw [h] at A
    have B := c_X6_unprobe_ok l G sc ia la n hS.2.1 hn32 hn1 (fun j hj => by rw [e3]; exact g5 j (by omega))
    rw [e2, e3, wp_eq g5 n hn32, h] at B
    exact opI A B rfl hR
  · rw [h, if_pos rfl] at A
    have B := c_X6_unprobe_ok l G sc (va_up ia 3 (s_po ia n)) la n hS.2.1 hn32 hn1 (fun j hj => by show ¬ ia 31 j = 0; rw [e3]; exact g5 j (by omega))
    have q30 : (va_up ia 3 (s_po ia n)) 30 = ia 3 := e2
    have q31 : (va_up ia 3 (s_po ia n)) 31 = ia 2 := e3
    rw [q30, q31, wp_eq g5 n hn32, h, if_pos rfl, po_eq g5 n hn32] at B
    refine opI A B rfl (Rel.up hS hSh hPa hDb (by omega) (by omega) ?_)
    exact ⟨g1, ⟨e1, rfl, e3, e4, e5, e6, e7⟩, g3, g4, g5, po_bd g5 g6 n hn32, g7, g8, g9⟩
/-! back -/
theorem sgI (a b : Int32) : (s_sgn a b).toInt = 1 ∨ (s_sgn a b).toInt = -1 := by
  unfold s_sgn; split
  · exact Or.inl (by decide)
  · exact Or.inr (by decide)
theorem mulsg {x : Int32} {B : Int} (a b : Int32) (hx : -B ≤ x.toInt ∧ x.toInt ≤ B) (hB : B < 2 ^ 30) : -B ≤ (x * s_sgn a b).toInt ∧ (x * s_sgn a b).toInt ≤ B := by
  rw [Int32.toInt_mul]
  rcases sgI a b with h | h <;> rw [h] <;> rw [Int.bmod_eq_of_le (by omega) (by omega)] <;> omega
theorem sum_bd {f : Nat → Int32} {B : Nat} (n : Nat) (hf : ∀ j, j < n → -(B : Int) ≤ (f j).toInt ∧ (f j).toInt ≤ B) (hB : n * B < 2 ^ 30) : ∀ k, k ≤ n → -((k * B : Nat) : Int) ≤ (bx_sum f k).toInt ∧ (bx_sum f k).toInt ≤ ((k * B : Nat) : Int)
  | 0, _ => by simp [bx_sum]
  | k + 1, h => by
    have ih := sum_bd n hf hB k (by omega)
    have h1 := hf k (by omega)
    have hm : (k + 1) * B ≤ n * B := Nat.mul_le_mul_right B h
    have he : (k + 1) * B = k * B + B := Nat.succ_mul k B
    show -(((k + 1) * B : Nat) : Int) ≤ (bx_sum f k + f k).toInt ∧ (bx_sum f k + f k).toInt ≤ (((k + 1) * B : Nat) : Int)
    rw [Int32.toInt_add, Int.bmod_eq_of_le (by omega) (by omega)]
    omega
theorem R_nt.rowb {n : Nat} {ia : Ia} (h : R_nt n ia) (i : Nat) : -32000000 ≤ (s_row ia i n).toInt ∧ (s_row ia i n).toInt ≤ 32000000 := by
  obtain ⟨hn1, hn32⟩ := h.1.le
  have hb : n * 1000000 < 2 ^ 30 := by omega
  have := sum_bd (f := fun j => ia 3 j * s_sgn (nI i) (nI j)) (B := 1000000) n (fun j hj => mulsg _ _ (h.2.2.2.2.2.1 j (by omega)) (by decide)) hb n (Nat.le_refl n)
  unfold s_row
  omega
theorem absI {x : Int32} (h : -(2 : Int) ^ 30 ≤ x.toInt ∧ x.toInt ≤ 2 ^ 30) : (s_abs x).toInt = if 0 ≤ x.toInt then x.toInt else -x.toInt := by
  unfold s_abs
  have h0 : (0 : Int32).toInt = 0 := by decide
  by_cases q : 0 ≤ x
  · rw [if_pos q]
    rw [Int32.le_iff_toInt_le, h0] at q
    rw [if_pos q]
  · rw [if_neg q]
    rw [Int32.le_iff_toInt_le, h0] at q
    rw [if_neg q, Int32.toInt_sub, h0, Int.bmod_eq_of_le (by omega) (by omega)]
    omega
theorem and_pow (x : Int32) (k : Nat) (hk : k = 1 ∨ k = 2 ∨ k = 3 ∨ k = 4 ∨ k = 5) : (x &&& (nI (2 ^ k) - 1) = 0) ↔ x.toInt % (2 ^ k : Nat) = 0 := by
  have hm : (nI (2 ^ k) - 1).toBitVec.toNat = 2 ^ k - 1 := by rcases hk with rfl | rfl | rfl | rfl | rfl <;> decide
  rw [pk_and x k hm]
  have hx : x.toInt = if 2 * x.toBitVec.toNat < 2 ^ 32 then (x.toBitVec.toNat : Int) else (x.toBitVec.toNat : Int) - (2 ^ 32 : Nat) := BitVec.toInt_eq_toNat_cond x.toBitVec
  have hl : x.toBitVec.toNat % 2 ^ k < 2 ^ 31 := Nat.lt_of_lt_of_le (Nat.mod_lt _ (Nat.two_pow_pos k)) (Nat.pow_le_pow_right (by decide) (by omega))
  have h0 : (nI (x.toBitVec.toNat % 2 ^ k) = 0) ↔ x.toBitVec.toNat % 2 ^ k = 0 := by
    have := nI_eq (a := x.toBitVec.toNat % 2 ^ k) (b := 0) hl (by decide)
    rw [nI_0] at this
    exact this
  rw [h0, hx]
  rcases hk with rfl | rfl | rfl | rfl | rfl <;> split <;> omega
theorem rem_tmod (x : Int32) {n : Nat} (h0 : 0 < n) (hn : n < 2 ^ 30) (hx : -(2 : Int) ^ 30 ≤ x.toInt ∧ x.toInt ≤ 2 ^ 30) : (x / nI n).toInt = x.toInt.tdiv n ∧ ((x - x / nI n * nI n = 0) ↔ x.toInt % n = 0) := by
  have hd : (x / nI n).toInt = x.toInt.tdiv n := by
    rw [Int32.toInt_div, nI_toInt (by omega)]
    have h1 : (x.toInt.tdiv n).natAbs ≤ x.toInt.natAbs := Int.natAbs_tdiv_le_natAbs _ _
    rw [Int.bmod_eq_of_le (by omega) (by omega)]
  refine ⟨hd, ?_⟩
  have e : x.toInt.tdiv n * n = x.toInt - x.toInt.tmod n := by
    have := Int.tmod_add_mul_tdiv x.toInt n
    grind
  have hm : (x.toInt.tmod n).natAbs ≤ x.toInt.natAbs := by
    have := Int.natAbs_tmod x.toInt n
    rw [this]
    exact Nat.mod_le _ _
  have hm2 : (x.toInt.tmod n).natAbs < n := by
    have := Int.natAbs_tmod x.toInt n
    rw [this]
    exact Nat.mod_lt _ (by omega)
  have hs : (x - x / nI n * nI n).toInt = x.toInt.tmod n := by
    rw [Int32.toInt_sub, Int32.toInt_mul, hd, nI_toInt (by omega), e, Int.bmod_eq_of_le (n := x.toInt - x.toInt.tmod n) (by omega) (by omega), Int.bmod_eq_of_le (by omega) (by omega)]
    omega
  have h9 : (x - x / nI n * nI n = 0) ↔ x.toInt.tmod n = 0 := by
    rw [← hs]
    exact ⟨fun q => by rw [q]; decide, fun q => Int32.toInt_inj.mp (by rw [q]; decide)⟩
  rw [h9]
  rw [← Int.dvd_iff_tmod_eq_zero, ← Int.dvd_iff_emod_eq_zero]
theorem gb_eq {n : Nat} {ia : Ia} (h : R_nt n ia) (i : Nat) : r_gb (ia 3) n i = s_gb ia n i := by
  have hb := h.rowb i
  obtain ⟨hn1, hn32⟩ := h.1.le
  have hr : r_su (ia 3) i n = s_row ia i n := rfl
  unfold r_gb s_gb
  rw [hr]
  generalize s_row ia i n = x at hb
  obtain ⟨h1, h2⟩ := rem_tmod x (n := n) (by omega) (by omega) (by omega)
  have h3 : (x &&& (nI n - 1) = 0) ↔ x.toInt % n = 0 := by
    rcases h.1 with rfl | rfl | rfl | rfl | rfl
    · exact and_pow x 1 (by omega)
    · exact and_pow x 2 (by omega)
    · exact and_pow x 3 (by omega)
    · exact and_pow x 4 (by omega)
    · exact and_pow x 5 (by omega)
  by_cases hz : x.toInt % n = 0
  · have q1 : decide (x - x / nI n * nI n = 0) = true := decide_eq_true (h2.mpr hz)
    have q2 : decide (x &&& (nI n - 1) = 0) = true := decide_eq_true (h3.mpr hz)
    rw [q1, q2]
    have ha : (s_abs x ≤ nI (1000 * n)) ↔ (-1000 ≤ x.toInt.tdiv n ∧ x.toInt.tdiv n ≤ 1000) := by
      rw [Int32.le_iff_toInt_le, nI_toInt (by omega), absI (by omega)]
      obtain ⟨k, hk⟩ := Int.dvd_of_emod_eq_zero hz
      have hk2 : x.toInt.tdiv n = k := by rw [hk]; exact Int.mul_tdiv_cancel_left k (by omega)
      rw [hk2]
      rcases h.1 with rfl | rfl | rfl | rfl | rfl <;> split <;> omega
    have hi : r_in (x / nI n).toInt64 (-1000) 1000 = decide (-1000 ≤ x.toInt.tdiv n ∧ x.toInt.tdiv n ≤ 1000) := by
      have c1 : ((x / nI n).toInt64 < -1000) ↔ x.toInt.tdiv n < -1000 := by
        rw [Int64.lt_iff_toInt_lt, Int32.toInt_toInt64, h1]
        exact Iff.rfl
      have c2 : ((1000 : Int64) < (x / nI n).toInt64) ↔ 1000 < x.toInt.tdiv n := by
        rw [Int64.lt_iff_toInt_lt, Int32.toInt_toInt64, h1]
        exact Iff.rfl
      unfold r_in
      rw [decide_eq_decide.mpr c1, decide_eq_decide.mpr c2]
      by_cases z1 : x.toInt.tdiv n < -1000
      · rw [decide_eq_true z1, decide_eq_false (show ¬ (-1000 ≤ x.toInt.tdiv n ∧ x.toInt.tdiv n ≤ 1000) by omega)]; rfl
      · by_cases z2 : 1000 < x.toInt.tdiv n
        · rw [decide_eq_false z1, decide_eq_true z2, decide_eq_false (show ¬ (-1000 ≤ x.toInt.tdiv n ∧ x.toInt.tdiv n ≤ 1000) by omega)]; rfl
        · rw [decide_eq_false z1, decide_eq_false z2, decide_eq_true (show (-1000 ≤ x.toInt.tdiv n ∧ x.toInt.tdiv n ≤ 1000) by omega)]; rfl
    rw [hi]
    exact congrArg _ (decide_eq_decide.mpr ha.symm)
  · have q1 : decide (x - x / nI n * nI n = 0) = false := decide_eq_false (fun q => hz (h2.mp q))
    have q2 : decide (x &&& (nI n - 1) = 0) = false := decide_eq_false (fun q => hz (h3.mp q))
    rw [q1, q2]; rfl
theorem all_cong {p q : Nat → Bool} {n : Nat} (h : ∀ j, j < n → p j = q j) : s_all p n = s_all q n := by
  induction n with
  | zero => rfl
  | succ n ih =>
    show (s_all p n && p n) = (s_all q n && q n)
    rw [ih (fun j hj => h j (by omega)), h n (by omega)]
theorem all_at {p : Nat → Bool} {n j : Nat} (h : s_all p n = true) (hj : j < n) : p j = true := by
  cases hp : p j with
  | true => rfl
  | false => rw [s_all_f hj hp] at h; cases h
theorem gb_bd {n : Nat} {ia : Ia} (h : R_nt n ia) (i : Nat) (hg : r_gb (ia 3) n i = true) : -1000 ≤ (s_row ia i n / nI n).toInt ∧ (s_row ia i n / nI n).toInt ≤ 1000 := by
  have hr : r_su (ia 3) i n = s_row ia i n := rfl
  unfold r_gb r_in at hg
  rw [hr] at hg
  simp only [Bool.and_eq_true, decide_eq_true_eq, Bool.not_eq_true', decide_eq_false_iff_not, Int64.lt_iff_toInt_lt, Int32.toInt_toInt64] at hg
  have a : (-1000 : Int64).toInt = -1000 := by decide
  have b : (1000 : Int64).toInt = 1000 := by decide
  omega
theorem tb_at {n : Nat} {ia : Ia} (hN : R_nt n ia) (hg : ∀ i, i < n → r_gb (ia 3) n i = true) : ∀ k, k ≤ n → (∀ a, a ≠ 0 → a ≠ 1 → s_tb ia n k a = ia a) ∧ s_tb ia n k 0 = r_bk (ia 0) (ia 3) n k ∧ (∀ j, j < 32 → -1000 ≤ (s_tb ia n k 0 j).toInt ∧ (s_tb ia n k 0 j).toInt ≤ 1000) ∧ (∀ j, j < n → s_tb ia n k 1 j = r_fa (s_tb ia n k 0) j n)
  | 0, _ => ⟨fun a _ _ => rfl, rfl, hN.2.2.1, hN.2.2.2.1⟩
  | k + 1, h => by
    obtain ⟨i1, i2, i3, i4⟩ := tb_at hN hg k (by omega)
    have hrow : s_row (s_tb ia n k) k n = s_row ia k n := by unfold s_row; rw [i1 3 (by omega) (by omega)]
    have e0 : s_tb ia n (k + 1) = s_set (s_tb ia n k) n k (s_row ia k n / nI n) := by
      show s_set (s_tb ia n k) n k (s_row (s_tb ia n k) k n / nI n) = _
      rw [hrow]
    have hbd := gb_bd hN k (hg k (by omega))
    rw [e0]
    refine ⟨fun a h0 h1 => ?_, ?_, ?_, ?_⟩
    · unfold s_set
      rw [up_ne2 h0 h1]
      exact i1 a h0 h1
    · show upd (s_tb ia n k 0) k (s_row ia k n / nI n) = upd (r_bk (ia 0) (ia 3) n k) k (r_su (ia 3) k n / nI n)
      rw [i2]; rfl
    · intro j hj
      show -1000 ≤ (upd (s_tb ia n k 0) k (s_row ia k n / nI n) j).toInt ∧ (upd (s_tb ia n k 0) k (s_row ia k n / nI n) j).toInt ≤ 1000
      by_cases e : j = k
      · subst e; rw [pk_us]; exact hbd
      · rw [pk_un e]; exact i3 j hj
    · intro j hj
      show s_fs (s_tb ia n k 1) (s_row ia k n / nI n - s_tb ia n k 0 k) k n j = r_fa (upd (s_tb ia n k 0) k (s_row ia k n / nI n)) j n
      rw [fs_at, if_pos hj, fa_upd, if_pos (by omega), i4 j hj]
theorem op_back {l : Launch} {G : Gv} {sc : Sc} {ia : Ia} {la : La} (hR : Rel sc ia) : OpI l G yX5_back wsX5_back yX6_back wsX6_back [] sc ia la := by
  obtain ⟨n, R, K, m, d, hS, hN, hSh, hPa, hDb⟩ := id hR
  obtain ⟨hn1, hn32⟩ := hN.1.le
  obtain ⟨g1, ⟨e1, e2, e3, e4, e5, e6, e7⟩, g3, g4, g5, g6, g7, g8, g9⟩ := id hN
  have A := c_X5_back_ok l G sc ia la n hS.1 hn32 hn1
  have ha : s_all (r_gb (ia 3) n) n = s_all (s_gb ia n) n := all_cong (fun j _ => gb_eq hN j)
  rcases o_bool (s_all (s_gb ia n) n) with h | h
  · rw [h] at A
    have B := c_X6_back_ok l G sc ia la n hS.2.1 hn32 hn1
    rw [e2, ha, h] at B
    exact opI A B rfl hR
  · rw [h, if_pos rfl] at A
    obtain ⟨t1, t2, t3, t4⟩ := tb_at hN (fun i hi => by rw [gb_eq hN i]; exact all_at h hi) n (Nat.le_refl n)
    have B := c_X6_back_ok l G sc (s_tb ia n n) la n hS.2.1 hn32 hn1
    rw [t1 30 (by omega) (by omega), t1 29 (by omega) (by omega), e2, e1, ha, h, if_pos rfl, ← t2] at B
    refine opI A B rfl ⟨n, R, K, m, d, hS, ?_, ?_, ?_, ?_⟩
    · have q : ∀ a, a ≠ 0 → a ≠ 1 → a ≠ 29 → (va_up (s_tb ia n n) 29 (s_tb ia n n 0)) a = ia a := fun a h0 h1 h2 => by rw [va_up_ne _ _ h2]; exact t1 a h0 h1
      refine ⟨g1, ⟨rfl, ?_, ?_, ?_, ?_, ?_, ?_⟩, t3, t4, ?_, ?_, ?_, ?_, ?_⟩
      · rw [q 30 (by omega) (by omega) (by omega), q 3 (by omega) (by omega) (by omega)]; exact e2
      · rw [q 31 (by omega) (by omega) (by omega), q 2 (by omega) (by omega) (by omega)]; exact e3
      · rw [q 32 (by omega) (by omega) (by omega), q 6 (by omega) (by omega) (by omega)]; exact e4
      · rw [q 33 (by omega) (by omega) (by omega), q 7 (by omega) (by omega) (by omega)]; exact e5
      · rw [q 34 (by omega) (by omega) (by omega), q 4 (by omega) (by omega) (by omega)]; exact e6
      · rw [q 35 (by omega) (by omega) (by omega), q 5 (by omega) (by omega) (by omega)]; exact e7
      · rw [q 2 (by omega) (by omega) (by omega)]; exact g5
      · rw [q 3 (by omega) (by omega) (by omega)]; exact g6
      · rw [q 6 (by omega) (by omega) (by omega)]; exact g7
      · rw [q 7 (by omega) (by omega) (by omega)]; exact g8
      · rw [q 6 (by omega) (by omega) (by omega)]; exact g9
    · exact hSh.keep (fun a h => by rw [va_up_ne _ _ (by omega)]; exact t1 a (by omega) (by omega))
    · exact hPa.keep (fun a h => by rw [va_up_ne _ _ (by omega)]; exact t1 a (by omega) (by omega))
    · exact hDb.keep (fun a h => by rw [va_up_ne _ _ (by omega)]; exact t1 a (by omega) (by omega))
