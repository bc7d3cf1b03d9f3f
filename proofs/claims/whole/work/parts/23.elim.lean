/-! THE TWO ELIMINATIONS, entry by entry -/
def t_sg (f s r : Nat) : Nat := if r = f then s else if r = s then f else r
theorem upL_at (f : Nat → Int64) (k : Nat) (x : Int64) (j : Nat) : vp_updL f k x j = if j = k then x else f j := rfl
theorem sw_at (la : La) (r s : Nat) : ∀ k i c, s_sw la r s k i c = if c < k then la (t_sg r s i) c else la i c
  | 0, i, c => by simp [s_sw]
  | k + 1, i, c => by
    have ih := sw_at la r s k
    show va_up (va_up (s_sw la r s k) r (vp_updL (s_sw la r s k r) k (s_sw la r s k s k))) s (vp_updL (va_up (s_sw la r s k) r (vp_updL (s_sw la r s k r) k (s_sw la r s k s k)) s) k (s_sw la r s k r k)) i c = _
    have h0 : ∀ i, s_sw la r s k i k = la i k := fun i => by rw [ih, if_neg (by omega)]
    rw [h0, h0]
    by_cases e : c = k
    · subst e
      rw [if_pos (by omega)]
      unfold t_sg
      by_cases es : i = s
      · subst es
        rw [va_up_self, pk_uLs]
        by_cases er : i = r
        · subst er; rw [if_pos rfl]
        · rw [if_neg er, if_pos rfl]
      · rw [va_up_ne _ _ es]
        by_cases er : i = r
        · subst er; rw [va_up_self, pk_uLs, if_pos rfl]
        · rw [va_up_ne _ _ er, h0, if_neg er, if_neg es]
    · have q : ∀ i, va_up (s_sw la r s k) r (vp_updL (s_sw la r s k r) k (la s k)) i c = s_sw la r s k i c := by
        intro i
        by_cases er : i = r
        · subst er; rw [va_up_self, pk_uLn e]
        · rw [va_up_ne _ _ er]
      have q2 : va_up (va_up (s_sw la r s k) r (vp_updL (s_sw la r s k r) k (la s k))) s (vp_updL (va_up (s_sw la r s k) r (vp_updL (s_sw la r s k r) k (la s k)) s) k (la r k)) i c = s_sw la r s k i c := by
        by_cases es : i = s
        · subst es; rw [va_up_self, pk_uLn e, q]
        · rw [va_up_ne _ _ es, q]
      rw [q2, ih]
      by_cases hc : c < k
      · rw [if_pos hc, if_pos (by omega)]
      · rw [if_neg hc, if_neg (by omega)]
theorem cr_at (la : La) {pr r : Nat} (hpr : r ≠ pr) (piv fac bef : Int64) : ∀ k i c, s_cr la pr r piv fac bef k i c = if i = r ∧ c < k then s_dv (piv * la r c - fac * la pr c) bef else la i c
  | 0, i, c => by simp [s_cr]
  | k + 1, i, c => by
    have ih := cr_at la hpr piv fac bef k
    show va_up (s_cr la pr r piv fac bef k) r (vp_updL (s_cr la pr r piv fac bef k r) k (s_dv (piv * s_cr la pr r piv fac bef k r k - fac * s_cr la pr r piv fac bef k pr k) bef)) i c = _
    rw [ih r k, if_neg (by omega), ih pr k, if_neg (fun z => hpr z.1.symm)]
    by_cases er : i = r
    · subst er
      rw [va_up_self]
      by_cases e : c = k
      · subst e; rw [pk_uLs, if_pos ⟨rfl, by omega⟩]
      · rw [pk_uLn e, ih i c]
        by_cases hc : c < k
        · rw [if_pos ⟨rfl, hc⟩, if_pos ⟨rfl, by omega⟩]
        · rw [if_neg (fun z => hc z.2), if_neg (by omega)]
    · rw [va_up_ne _ _ er, ih i c, if_neg (fun z => er z.1), if_neg (fun z => er z.1)]
theorem cc_at (la : La) (pr q w : Nat) (bef : Int64) : ∀ k i c, s_cc la pr q w bef k i c = if i < k ∧ i ≠ pr ∧ c < w + 1 then s_dv (la pr q * la i c - la i q * la pr c) bef else la i c
  | 0, i, c => by simp [s_cc]
  | k + 1, i, c => by
    have ih := cc_at la pr q w bef k
    show (if k = pr then s_cc la pr q w bef k else s_cr (s_cc la pr q w bef k) pr k (la pr q) (s_cc la pr q w bef k k q) bef (w + 1)) i c = _
    by_cases ek : k = pr
    · rw [if_pos ek, ih i c]
      by_cases h1 : i < k ∧ i ≠ pr ∧ c < w + 1
      · rw [if_pos h1, if_pos ⟨by omega, h1.2⟩]
      · rw [if_neg h1, if_neg (by omega)]
    · have h0 : s_cc la pr q w bef k k q = la k q := by rw [ih k q, if_neg (by omega)]
      rw [if_neg ek, cr_at _ ek, h0]
      by_cases ei : i = k
      · subst ei
        by_cases hc : c < w + 1
        · rw [if_pos ⟨rfl, hc⟩, if_pos ⟨by omega, ek, hc⟩, ih i c, if_neg (by omega), ih pr c, if_neg (by omega)]
        · rw [if_neg (by omega), if_neg (by omega), ih i c, if_neg (by omega)]
      · rw [if_neg (fun z => ei z.1), ih i c]
        by_cases h1 : i < k ∧ i ≠ pr ∧ c < w + 1
        · rw [if_pos h1, if_pos ⟨by omega, h1.2⟩]
        · rw [if_neg h1, if_neg (by omega)]
/-! the reference's -/
theorem tn_at (f : Nat → Int64) (a b : Nat) : ∀ k i c, c < 6 → k ≤ 6 → r_tn f a b k (6 * i + c) = if c < k then f (6 * (t_sg b a i) + c) else f (6 * i + c)
  | 0, i, c, _, _ => by simp [r_tn]
  | k + 1, i, c, hc6, hk => by
    have ih := tn_at f a b k
    show vp_updL (vp_updL (r_tn f a b k) (6 * a + k) (r_tn f a b k (6 * b + k))) (6 * b + k) (r_tn f a b k (6 * a + k)) (6 * i + c) = _
    rw [ih b k (by omega) (by omega), if_neg (by omega), ih a k (by omega) (by omega), if_neg (by omega), upL_at, upL_at]
    by_cases e : c = k
    · subst e
      rw [if_pos (show c < c + 1 by omega)]
      unfold t_sg
      by_cases eb : i = b
      · subst eb; rw [if_pos rfl, if_pos rfl]
      · rw [if_neg (show ¬ 6 * i + c = 6 * b + c by omega), if_neg eb]
        by_cases ea : i = a
        · subst ea; rw [if_pos rfl, if_pos rfl]
        · rw [if_neg (show ¬ 6 * i + c = 6 * a + c by omega), if_neg ea, ih i c (by omega) (by omega), if_neg (by omega)]
    · rw [if_neg (show ¬ 6 * i + c = 6 * b + k by omega), if_neg (show ¬ 6 * i + c = 6 * a + k by omega), ih i c hc6 (by omega)]
      by_cases h1 : c < k
      · rw [if_pos h1, if_pos (show c < k + 1 by omega)]
      · rw [if_neg h1, if_neg (show ¬ c < k + 1 by omega)]
theorem c1_at (f : Nat → Int64) {r t : Nat} (hrt : r ≠ t) (a b : Int64) (L : Nat) : ∀ k i c, c < 6 → k ≤ 6 → r_c1 f r t a b L k (6 * i + c) = if i = r ∧ c < k ∧ r_inc L c = true then f (6 * r + c) * b - f (6 * t + c) * a else f (6 * i + c)
  | 0, i, c, _, _ => by simp [r_c1]
  | k + 1, i, c, hc6, hk => by
    have ih := c1_at f hrt a b L k
    show (if r_inc L k = true then vp_updL (r_c1 f r t a b L k) (6 * r + k) (r_c1 f r t a b L k (6 * r + k) * b - r_c1 f r t a b L k (6 * t + k) * a) else r_c1 f r t a b L k) (6 * i + c) = _
    by_cases hi : r_inc L k = true
    · rw [if_pos hi, ih r k (by omega) (by omega), if_neg (by omega), ih t k (by omega) (by omega), if_neg (by omega), upL_at]
      by_cases e : i = r ∧ c = k
      · obtain ⟨rfl, rfl⟩ := e
        rw [if_pos rfl, if_pos ⟨rfl, by omega, hi⟩]
      · rw [if_neg (by omega), ih i c hc6 (by omega)]
        by_cases h1 : i = r ∧ c < k ∧ r_inc L c = true
        · rw [if_pos h1, if_pos ⟨h1.1, by omega, h1.2.2⟩]
        · rw [if_neg h1, if_neg (fun z => h1 ⟨z.1, by omega, z.2.2⟩)]
    · rw [if_neg hi, ih i c hc6 (by omega)]
      by_cases h1 : i = r ∧ c < k ∧ r_inc L c = true
      · rw [if_pos h1, if_pos ⟨h1.1, by omega, h1.2.2⟩]
      · rw [if_neg h1, if_neg (fun z => h1 ⟨z.1, by
          rcases Nat.lt_or_ge c k with y | y
          · exact y
          · exact absurd (show r_inc L k = true from (show c = k by omega) ▸ z.2.2) hi, z.2.2⟩)]
theorem c2_at (f : Nat → Int64) (r g L : Nat) : ∀ k i c, c < 6 → k ≤ 6 → r_c2 f r g L k (6 * i + c) = if i = r ∧ c < k ∧ r_inc L c = true then f (6 * r + c) / lN g else f (6 * i + c)
  | 0, i, c, _, _ => by simp [r_c2]
  | k + 1, i, c, hc6, hk => by
    have ih := c2_at f r g L k
    show (if r_inc L k = true then vp_updL (r_c2 f r g L k) (6 * r + k) (r_c2 f r g L k (6 * r + k) / lN g) else r_c2 f r g L k) (6 * i + c) = _
    by_cases hi : r_inc L k = true
    · rw [if_pos hi, ih r k (by omega) (by omega), if_neg (by omega), upL_at]
      by_cases e : i = r ∧ c = k
      · obtain ⟨rfl, rfl⟩ := e
        rw [if_pos rfl, if_pos ⟨rfl, by omega, hi⟩]
      · rw [if_neg (by omega), ih i c hc6 (by omega)]
        by_cases h1 : i = r ∧ c < k ∧ r_inc L c = true
        · rw [if_pos h1, if_pos ⟨h1.1, by omega, h1.2.2⟩]
        · rw [if_neg h1, if_neg (fun z => h1 ⟨z.1, by omega, z.2.2⟩)]
    · rw [if_neg hi, ih i c hc6 (by omega)]
      by_cases h1 : i = r ∧ c < k ∧ r_inc L c = true
      · rw [if_pos h1, if_pos ⟨h1.1, by omega, h1.2.2⟩]
      · rw [if_neg h1, if_neg (fun z => h1 ⟨z.1, by
          rcases Nat.lt_or_ge c k with y | y
          · exact y
          · exact absurd (show r_inc L k = true from (show c = k by omega) ▸ z.2.2) hi, z.2.2⟩)]
/-! longs without overflow -/
theorem l_lin {a b c d : Int64} (h1 : (a.toInt * b.toInt).natAbs ≤ 2 ^ 60) (h2 : (c.toInt * d.toInt).natAbs ≤ 2 ^ 60) : (a * b - c * d).toInt = a.toInt * b.toInt - c.toInt * d.toInt := by
  rw [Int64.toInt_sub, Int64.toInt_mul, Int64.toInt_mul]
  generalize a.toInt * b.toInt = x at h1
  generalize c.toInt * d.toInt = y at h2
  rw [Int.bmod_eq_of_le (n := x) (by omega) (by omega), Int.bmod_eq_of_le (n := y) (by omega) (by omega), Int.bmod_eq_of_le (by omega) (by omega)]
theorem l_div {x b : Int64} {y : Int} (hb : b.toInt ≠ 0) (h : x.toInt = b.toInt * y) (hx : x.toInt.natAbs ≤ 2 ^ 62) : (x / b).toInt = y := by
  rw [Int64.toInt_div, h, Int.mul_tdiv_cancel_left y hb]
  have hy : y.natAbs ≤ x.toInt.natAbs := by
    rw [h, Int.natAbs_mul]
    exact Nat.le_mul_of_pos_left _ (by omega)
  rw [Int.bmod_eq_of_le (by omega) (by omega)]
theorem l_z (x : Int64) : (x = 0) ↔ x.toInt = 0 := ⟨fun h => by rw [h]; rfl, fun h => Int64.toInt_inj.mp (by rw [h]; rfl)⟩
theorem l_ab {x : Int64} (h : x.toInt.natAbs < 2 ^ 62) : r_ab x = lN x.toInt.natAbs := by
  have h0 : (0 : Int64).toInt = 0 := by decide
  apply Int64.toInt_inj.mp
  rw [pk_lT (by omega)]
  unfold r_ab
  by_cases q : 0 ≤ x
  · rw [if_pos q]
    rw [Int64.le_iff_toInt_le, h0] at q
    omega
  · rw [if_neg q]
    rw [Int64.le_iff_toInt_le, h0] at q
    rw [Int64.toInt_neg, Int.bmod_eq_of_le (by omega) (by omega)]
    omega
theorem l_of (x : Int64) {n : Nat} (h : x.toInt = n) : x = lN n := by
  have hb := Int64.toInt_lt x
  apply Int64.toInt_inj.mp
  rw [h, pk_lT (by omega)]
