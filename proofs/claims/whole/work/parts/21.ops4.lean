/-! faults -/
theorem fi_cong {p q : Nat → Bool} : ∀ n, (∀ j, j < n → p j = q j) → s_fi p n = s_fi q n
  | 0, _ => rfl
  | n + 1, h => by
    have e : ∀ p : Nat → Bool, s_fi p (n + 1) = match s_fi p n with
      | some j => some j
      | none => if p n = true then some n else none := fun _ => rfl
    rw [e, e, fi_cong n (fun j hj => h j (by omega)), h n (by omega)]
theorem sg_sw {x y s : Int32} (h : s * s = 1) : (x * s = y) ↔ (x = y * s) := by
  constructor
  · intro e; grind
  · intro e; grind
section FL
variable {n : Nat} {ia : Ia}
theorem off_eq (h : R_nt n ia) {j : Nat} (hj : j < n) (hm : ¬ ia 7 j = 0) (a : Nat) : r_of ia n a j = s_off ia j * s_sgn (nI a) (nI j) := by
  obtain ⟨g1, ⟨e1, e2, e3, e4, e5, e6, e7⟩, g3, g4, g5, g6, g7, g8, g9⟩ := h
  unfold r_of s_off
  rw [e6, e1, if_neg hm, g4 j hj]
theorem ob_eq (h : R_nt n ia) (a : Nat) : r_ob ia n a = s_flt ia n a := by
  obtain ⟨g1, ⟨e1, e2, e3, e4, e5, e6, e7⟩, g3, g4, g5, g6, g7, g8, g9⟩ := id h
  have hms : r_ms ia = s_ms ia := by funext j; unfold r_ms s_ms; rw [e5]
  unfold r_ob s_flt
  rw [hms]
  cases hf : s_fi (s_ms ia) n with
  | none => rfl
  | some f =>
    obtain ⟨f1, f2, f3⟩ := s_fi_lt hf
    have hmf : ¬ ia 7 f = 0 := by simpa [s_ms] using f2
    dsimp only
    have hof : r_of ia n a f = s_fx ia a f := off_eq h f1 hmf a
    have hall : s_all (r_ok ia n a f) (n - f) = s_all (s_fk2 ia a f) (n - f) := all_cong (fun d hd => by
      unfold r_ok s_fk2
      rw [e5]
      by_cases q : ia 7 (f + d) = 0
      · simp [q]
      · rw [off_eq h (show f + d < n by omega) q a, hof]
        have := sg_sw (x := s_off ia (f + d)) (y := s_fx ia a f) (sg2 (nI a) (nI (f + d)))
        rw [decide_eq_decide.mpr this])
    rw [hall, hof]
theorem isf_eq (h : R_nt n ia) : r_isf ia n = s_isf ia n := by
  funext a
  unfold r_isf s_isf
  rw [ob_eq h a]
theorem on_eq (h : R_nt n ia) : s_all (r_on ia n) n = s_all (fun j => decide (s_off ia j = 0)) n := by
  obtain ⟨g1, ⟨e1, e2, e3, e4, e5, e6, e7⟩, g3, g4, g5, g6, g7, g8, g9⟩ := id h
  refine all_cong (fun j hj => ?_)
  unfold r_on s_off
  rw [e5, e6, e1, ← g4 j hj]
  by_cases q : ia 7 j = 0
  · simp [q]
  · rw [if_neg q, decide_eq_false q, Bool.false_or]
    refine decide_eq_decide.mpr ?_
    constructor
    · intro e; grind
    · intro e; grind
theorem fat_eq (h : R_nt n ia) (k : Int32) : r_fat ia n k = s_fi (fun i => s_isf ia n i && decide (nI (s_cn (s_isf ia n) i) = k)) n := by
  obtain ⟨hn1, hn32⟩ := h.1.le
  unfold r_fat
  rw [isf_eq h]
  by_cases hk : k < 0
  · rw [if_pos hk]
    refine (s_fi_n (fun j hj => ?_)).symm
    have hc := s_cn_le (s_isf ia n) j
    have : ¬ nI (s_cn (s_isf ia n) j) = k := fun e => by
      rw [← e] at hk
      exact nI_pos (by omega) hk
    simp [this]
  · rw [if_neg hk]
    refine fi_cong n (fun j hj => ?_)
    congr 1
    refine decide_eq_decide.mpr ?_
    constructor
    · intro e; grind
    · intro e; grind
end FL
theorem op_faults {l : Launch} {G : Gv} {sc : Sc} {ia : Ia} {la : La} (hR : Rel sc ia) : OpI l G yX5_faults wsX5_faults yX6_faults wsX6_faults [] sc ia la := by
  obtain ⟨n, R, K, m, d, hS, hN, hSh, hPa, hDb⟩ := id hR
  obtain ⟨hn1, hn32⟩ := hN.1.le
  exact opI (c_X5_faults_ok l G sc ia la n hS.1 hn32) (c_X6_faults_ok l G sc ia la n hS.2.1 hn32) (by rw [on_eq hN, isf_eq hN]) hR
theorem op_fault {l : Launch} {G : Gv} {sc : Sc} {ia : Ia} {la : La} (hR : Rel sc ia) (k : Int32) : OpI l G yX5_fault wsX5_fault yX6_fault wsX6_fault [.int k] sc ia la := by
  obtain ⟨n, R, K, m, d, hS, hN, hSh, hPa, hDb⟩ := id hR
  obtain ⟨hn1, hn32⟩ := hN.1.le
  exact opI (c_X5_fault_ok l G sc ia la n hS.1 hn32 k) (c_X6_fault_ok l G sc ia la n hS.2.1 hn32 k) (by rw [fat_eq hN]; rfl) hR
theorem op_by {l : Launch} {G : Gv} {sc : Sc} {ia : Ia} {la : La} (hR : Rel sc ia) (k : Int32) : OpI l G yX5_by wsX5_by yX6_by wsX6_by [.int k] sc ia la := by
  obtain ⟨n, R, K, m, d, hS, hN, hSh, hPa, hDb⟩ := id hR
  obtain ⟨hn1, hn32⟩ := hN.1.le
  cases hf : s_fi (fun i => s_isf ia n i && decide (nI (s_cn (s_isf ia n) i) = k)) n with
  | none => exact opI (c_X5_by_none l G sc ia la n hS.1 hn32 k hf) (c_X6_by_none l G sc ia la n hS.2.1 hn32 k (by rw [fat_eq hN]; exact hf)) rfl hR
  | some f => exact opI (c_X5_by_some l G sc ia la n hS.1 hn32 k f hf) (c_X6_by_some l G sc ia la n hS.2.1 hn32 k f (s_fi_lt hf).1 (by rw [fat_eq hN]; exact hf)) (ob_eq hN f) hR
theorem fa_bd {n : Nat} {ia : Ia} (h : R_nt n ia) (j : Nat) : -32000 ≤ (r_fa (ia 0) j n).toInt ∧ (r_fa (ia 0) j n).toInt ≤ 32000 := by
  obtain ⟨hn1, hn32⟩ := h.1.le
  have hb : n * 1000 < 2 ^ 30 := by omega
  have := sum_bd (f := fun i => ia 0 i * s_sgn (nI i) (nI j)) (B := 1000) n (fun i hi => mulsg _ _ (h.2.2.1 i (by omega)) (by decide)) hb n (Nat.le_refl n)
  unfold r_fa
  omega
theorem op_broken {l : Launch} {G : Gv} {sc : Sc} {ia : Ia} {la : La} (hR : Rel sc ia) : OpI l G yX5_broken wsX5_broken yX6_broken wsX6_broken [] sc ia la := by
  obtain ⟨n, R, K, m, d, hS, hN, hSh, hPa, hDb⟩ := id hR
  obtain ⟨hn1, hn32⟩ := hN.1.le
  obtain ⟨g1, ⟨e1, e2, e3, e4, e5, e6, e7⟩, g3, g4, g5, g6, g7, g8, g9⟩ := id hN
  refine opI (c_X5_broken_ok l G sc ia la n hS.1 hn32) (c_X6_broken_ok l G sc ia la n hS.2.1 hn32) ?_ hR
  congr 1
  refine fi_cong n (fun j hj => ?_)
  unfold r_br
  rw [e7, e1, g4 j hj]
  have hb := fa_bd hN j
  generalize r_fa (ia 0) j n = x at hb
  generalize ia 5 j = L
  have hneg : (-x).toInt = -x.toInt := by
    rw [Int32.toInt_neg, Int.bmod_eq_of_le (by omega) (by omega)]
  have ha := absI (x := x) (by omega)
  rw [Bool.eq_iff_iff]
  simp only [Bool.or_eq_true, Bool.not_eq_true', decide_eq_true_eq, decide_eq_false_iff_not, Int32.lt_iff_toInt_lt, Int32.le_iff_toInt_le, hneg, ha]
  split <;> omega
/-! doubts -/
theorem op_doubt {l : Launch} {G : Gv} {sc : Sc} {ia : Ia} {la : La} (hR : Rel sc ia) (v : Int32) : OpI l G yX5_doubt wsX5_doubt yX6_doubt wsX6_doubt [.int v] sc ia la := by
  obtain ⟨n, R, K, m, d, hS, hN, hSh, hPa, hDb⟩ := id hR
  obtain ⟨s0, s7, s3, s10, s4, s11, s5, s12, s6, s17⟩ := id hS
  obtain ⟨d1, d2, d3⟩ := id hDb
  rcases o_bool (s_out v 0 10000) with h | h
  · by_cases hd : d = 18
    · exact opI (c_X5_doubt_full l G sc ia la d s6 hd v h) (c_X6_doubt_full l G sc ia la d s17 hd v h) rfl hR
    · refine opI (c_X5_doubt_ok l G sc ia la d s6 (by omega) v h) (c_X6_doubt_ok l G (va_up sc 6 (nI (d + 1))) (va_up ia 9 (upd (ia 9) d v)) la d s17 (by omega) v h) rfl ⟨n, R, K, m, d + 1, ⟨s0, s7, s3, s10, s4, s11, s5, s12, rfl, rfl⟩, ?_, ?_, ?_, ⟨by omega, ?_, fun j hj => ?_⟩⟩
      · exact hN.keep (fun a h => up_ne2 (by omega) (by omega))
      · exact hSh.keep (fun a h => up_ne2 (by omega) (by omega))
      · exact hPa.keep (fun a h => up_ne2 (by omega) (by omega))
      · show upd (ia 41) d v = upd (ia 9) d v
        rw [d2]
      · show 0 ≤ (upd (ia 9) d v j).toInt ∧ (upd (ia 9) d v j).toInt ≤ 10000
        by_cases e : j = d
        · subst e; rw [pk_us]; exact o_outI (A := 0) (B := 10000) (by decide) (by decide) h
        · rw [pk_un e]; exact d3 j (by omega)
  · exact opI (c_X5_doubt_out l G sc ia la v h) (c_X6_doubt_out l G sc ia la v h) rfl hR
theorem op_sure {l : Launch} {G : Gv} {sc : Sc} {ia : Ia} {la : La} (hR : Rel sc ia) : OpI l G yX5_sure wsX5_sure yX6_sure wsX6_sure [] sc ia la := by
  obtain ⟨n, R, K, m, d, hS, hN, hSh, hPa, hDb⟩ := id hR
  obtain ⟨s0, s7, s3, s10, s4, s11, s5, s12, s6, s17⟩ := id hS
  refine opI (c_X5_sure_ok l G sc ia la) (c_X6_sure_ok l G _ ia la) ?_ ⟨n, R, K, m, 0, ⟨s0, s7, s3, s10, s4, s11, s5, s12, rfl, rfl⟩, hN, hSh, hPa, ⟨by omega, hDb.2.1, fun j hj => by omega⟩⟩
  show sc 17 = sc 6
  rw [s17, s6]
def t_sq (f : Nat → Int32) : Nat → Nat
  | 0 => 0
  | k + 1 => t_sq f k + (f k).toInt.toNat * (f k).toInt.toNat
theorem dq_eq {f : Nat → Int32} {d : Nat} (hd : d ≤ 18) (h : ∀ j, j < d → 0 ≤ (f j).toInt ∧ (f j).toInt ≤ 10000) : ∀ k, k ≤ d → s_dq f k = lN (t_sq f k) ∧ t_sq f k ≤ k * 100000000
  | 0, _ => ⟨rfl, Nat.le_refl _⟩
  | k + 1, hk => by
    obtain ⟨i1, i2⟩ := dq_eq hd h k (by omega)
    obtain ⟨b1, b2⟩ := h k (by omega)
    obtain ⟨x, hx⟩ : ∃ x : Nat, (f k).toInt = x := ⟨(f k).toInt.toNat, by omega⟩
    have hf : (f k).toInt64 = lN x := Int64.toInt_inj.mp (by rw [Int32.toInt_toInt64, hx, pk_lT (by omega)])
    have hx1 : x ≤ 10000 := by omega
    have hxx : x * x ≤ 10000 * 10000 := Nat.mul_le_mul hx1 hx1
    have ht : (f k).toInt.toNat = x := by omega
    constructor
    · show s_dq f k + (f k).toInt64 * (f k).toInt64 = lN (t_sq f k + (f k).toInt.toNat * (f k).toInt.toNat)
      rw [i1, hf, lN_mul, lN_add, ht]
    · show t_sq f k + (f k).toInt.toNat * (f k).toInt.toNat ≤ (k + 1) * 100000000
      rw [ht]; omega
theorem gr_eq {f : Nat → Int32} {d : Nat} (h : ∀ j, j < d → 0 ≤ (f j).toInt ∧ (f j).toInt ≤ 10000) : ∀ k, k ≤ d → ∃ mo : Nat, (s_gr f k).toInt = mo ∧ mo ≤ 10000 ∧ mo * mo ≤ t_sq f k
  | 0, _ => ⟨0, rfl, by omega, by omega⟩
  | k + 1, hk => by
    obtain ⟨mo, i1, i2, i3⟩ := gr_eq h k (by omega)
    obtain ⟨b1, b2⟩ := h k (by omega)
    show ∃ mo : Nat, (if s_gr f k < f k then f k else s_gr f k).toInt = mo ∧ mo ≤ 10000 ∧ mo * mo ≤ t_sq f k + (f k).toInt.toNat * (f k).toInt.toNat
    split
    · exact ⟨(f k).toInt.toNat, by omega, by omega, Nat.le_add_left _ _⟩
    · exact ⟨mo, i1, i2, Nat.le_trans i3 (Nat.le_add_right _ _)⟩
theorem sh_pow : ∀ t, t < 17 → (1 : Int64) <<< ((nI t).toInt64 &&& 63) = lN (2 ^ t) := by decide +kernel
theorem rt_eq {SQ : Nat} (hS : SQ < 2 ^ 31) : ∀ t b, t ≤ 17 → b + 2 ^ t ≤ 2 ^ 17 → b * b < SQ → SQ ≤ (b + 2 ^ t) * (b + 2 ^ t) → ∃ c : Nat, s_rt (lN SQ) t (lN b) = lN c ∧ c < 2 ^ 17 ∧ c * c < SQ ∧ SQ ≤ (c + 1) * (c + 1)
  | 0, b, _, hb, h1, h2 => ⟨b, rfl, by omega, h1, h2⟩
  | t + 1, b, ht, hb, h1, h2 => by
    have e : s_rt (lN SQ) (t + 1) (lN b) = s_rt (lN SQ) t (if lN SQ ≤ (lN b + (1 <<< ((nI t).toInt64 &&& 63))) * (lN b + (1 <<< ((nI t).toInt64 &&& 63))) then lN b else lN b + (1 <<< ((nI t).toInt64 &&& 63))) := rfl
    rw [e, sh_pow t (by omega), lN_add, lN_mul]
    have hp : 2 ^ (t + 1) = 2 ^ t + 2 ^ t := by rw [Nat.pow_succ]; omega
    have hq : 0 < 2 ^ t := Nat.two_pow_pos t
    have hc : b + 2 ^ t ≤ 2 ^ 17 := by omega
    have hm : (b + 2 ^ t) * (b + 2 ^ t) ≤ 2 ^ 17 * 2 ^ 17 := Nat.mul_le_mul hc hc
    have hle : (lN SQ ≤ lN ((b + 2 ^ t) * (b + 2 ^ t))) ↔ SQ ≤ (b + 2 ^ t) * (b + 2 ^ t) := pk_lLE (by omega) (by omega)
    by_cases q : SQ ≤ (b + 2 ^ t) * (b + 2 ^ t)
    · rw [if_pos (hle.mpr q)]
      exact rt_eq hS t b (by omega) hc h1 q
    · rw [if_neg (fun z => q (hle.mp z))]
      rw [hp, ← Nat.add_assoc] at h2
      exact rt_eq hS t (b + 2 ^ t) (by omega) (by omega) (by omega) h2
theorem op_budget {l : Launch} {G : Gv} {sc : Sc} {ia : Ia} {la : La} (hR : Rel sc ia) (k : Int32) : OpI l G yX5_budget wsX5_budget yX6_budget wsX6_budget [.int k] sc ia la := by
  obtain ⟨n, R, K, m, d, hS, hN, hSh, hPa, hDb⟩ := id hR
  obtain ⟨s0, s7, s3, s10, s4, s11, s5, s12, s6, s17⟩ := id hS
  obtain ⟨d1, d2, d3⟩ := id hDb
  have A := c_X5_budget_ok l G sc ia la d s6 d1 k
  rcases o_bool (s_out k 0 2) with h | h
  · obtain ⟨t, t1, t2, rfl⟩ := o_out (a := 0) (b := 2) (by decide) (by decide) h
    rw [nI_toInt (by omega)] at A
    rcases (show t = 0 ∨ t = 1 ∨ t = 2 by omega) with rfl | rfl | rfl
    · rw [if_pos (by decide)] at A
      exact opI A (c_X6_budget_0 l G sc ia la d s17 d1) (by rw [d2]) hR
    · rw [if_neg (by decide), if_pos (by decide)] at A
      obtain ⟨q1, q2⟩ := dq_eq d1 d3 d (Nat.le_refl d)
      obtain ⟨mo, m1, m2, m3⟩ := gr_eq d3 d (Nat.le_refl d)
      have hmo : (s_gr (ia 9) d).toInt64 = lN mo := Int64.toInt_inj.mp (by rw [Int32.toInt_toInt64, m1, pk_lT (by omega)])
      have hSQ : t_sq (ia 9) d < 2 ^ 31 := by omega
      rw [q1] at A
      rcases Nat.eq_zero_or_pos (t_sq (ia 9) d) with z | z
      · have B := c_X6_budget_1 l G sc ia la d s17 d1 mo (t_sq (ia 9) d) 0 (by rw [d2]; exact hmo) (by rw [d2]; exact q1) (by omega) (by omega) (fun s hs => by omega) (by
          rcases Nat.eq_zero_or_pos mo with y | y
          · omega
          · have := Nat.mul_pos y y; omega) (by decide)
        refine opI A B ?_ hR
        rw [z]; decide
      · obtain ⟨c, c1, c2, c3, c4⟩ := rt_eq hSQ 17 0 (by decide) (by decide) (by omega) (Nat.le_trans (Nat.le_of_lt hSQ) (by decide))
        have B := c_X6_budget_1 l G sc ia la d s17 d1 mo (t_sq (ia 9) d) (c + 1) (by rw [d2]; exact hmo) (by rw [d2]; exact q1) (by omega) c4 (fun s hs => Nat.lt_of_le_of_lt (Nat.mul_le_mul (show s ≤ c by omega) (show s ≤ c by omega)) c3) (by
          rcases Nat.lt_or_ge (c + 1) mo with y | y
          · exact absurd (Nat.mul_lt_mul_of_lt_of_lt y y) (by omega)
          · exact y) (by omega)
        refine opI A B ?_ hR
        unfold s_ru
        have hz : (0 : Int64) < lN (t_sq (ia 9) d) := (pk_lLT (a := 0) (by omega) (by omega)).mpr z
        rw [if_pos hz]
        have c1' : s_rt (lN (t_sq (ia 9) d)) 17 0 = lN c := c1
        rw [c1', lN_1, lN_i]
    · rw [if_neg (by decide), if_neg (by decide), if_pos (by decide)] at A
      exact opI A (c_X6_budget_2 l G sc ia la d s17 d1) (by rw [d2]) hR
  · have hk : ¬ (0 ≤ k.toInt ∧ k.toInt ≤ 2) := by
      intro q
      simp only [s_out, Bool.or_eq_true, decide_eq_true_eq, Bool.not_eq_true', decide_eq_false_iff_not, Int32.lt_iff_toInt_lt, Int32.le_iff_toInt_le] at h
      have z0 : (0 : Int32).toInt = 0 := by decide
      have z2 : (2 : Int32).toInt = 2 := by decide
      omega
    rw [if_neg (by omega), if_neg (by omega), if_neg (by omega)] at A
    exact opI A (c_X6_budget_out l G sc ia la k h) rfl hR
