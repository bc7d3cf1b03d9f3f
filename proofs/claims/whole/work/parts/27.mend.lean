/-! FRACTIONS in lowest terms -/
theorem eu_0 (k a : Nat) (hk : 1 ≤ k) : s_eu k (lN a) (lN 0) = lN a := by
  obtain ⟨k, rfl⟩ : ∃ k', k = k' + 1 := ⟨k - 1, by omega⟩
  show (if lN 0 = 0 then lN a else _) = lN a
  rw [if_pos (by decide)]
theorem eu_s (k : Nat) {a b : Nat} (ha : a < 2 ^ 63) (hb : b < 2 ^ 63) (h0 : 0 < b) : s_eu (k + 1) (lN a) (lN b) = s_eu k (lN b) (lN (a % b)) := by
  show (if lN b = 0 then lN a else s_eu k (lN b) (lN a - lN a / lN b * lN b)) = _
  have hz : ¬ lN b = 0 := fun z => by
    have := (pk_lEQ hb (show 0 < 2 ^ 63 by decide)).mp (show lN b = lN 0 from z)
    omega
  rw [if_neg hz, pk_lRem ha h0 hb]
theorem eu_gcd : ∀ j k a b, b < 2 ^ j → 2 * j + 1 ≤ k → a < 2 ^ 63 → b < 2 ^ 63 → s_eu k (lN a) (lN b) = lN (Nat.gcd a b)
  | 0, k, a, b, hb, hk, ha, hb6 => by
    have : b = 0 := by omega
    subst this
    rw [eu_0 k a (by omega), Nat.gcd_zero_right]
  | j + 1, k, a, b, hb, hk, ha, hb6 => by
    obtain ⟨k, rfl⟩ : ∃ k', k = k' + 2 := ⟨k - 2, by omega⟩
    rcases Nat.eq_zero_or_pos b with z | z
    · subst z; rw [eu_0 _ a (by omega), Nat.gcd_zero_right]
    · rw [eu_s (k + 1) ha hb6 z]
      have hr := Nat.mod_lt a z
      have hg : Nat.gcd a b = Nat.gcd b (a % b) := by rw [Nat.gcd_comm a b, Nat.gcd_rec b a, Nat.gcd_comm]
      rw [hg]
      rcases Nat.eq_zero_or_pos (a % b) with y | y
      · rw [y, eu_0 _ b (by omega), Nat.gcd_zero_right]
      · rw [eu_s k hb6 (by omega) y]
        generalize a % b = r at hr y
        have hg2 : Nat.gcd b r = Nat.gcd r (b % r) := by rw [Nat.gcd_comm b r, Nat.gcd_rec r b, Nat.gcd_comm]
        rw [hg2]
        have hp : 2 ^ (j + 1) = 2 ^ j + 2 ^ j := by rw [Nat.pow_succ]; omega
        have hlt : b % r < 2 ^ j := by
          rcases Nat.lt_or_ge (2 ^ j) r with q | q
          · rw [Nat.mod_eq_sub_mod (Nat.le_of_lt hr), Nat.mod_eq_of_lt (by omega)]; omega
          · exact Nat.lt_of_lt_of_le (Nat.mod_lt b y) q
        exact eu_gcd j k r (b % r) hlt (by omega) (by omega) (by have := Nat.mod_lt b y; omega)
theorem absl_eq {x : Int64} (h : x.toInt.natAbs < 2 ^ 62) : s_absl x = lN x.toInt.natAbs := by
  have h0 : (0 : Int64).toInt = 0 := by decide
  apply Int64.toInt_inj.mp
  rw [pk_lT (by omega)]
  unfold s_absl
  by_cases q : 0 < x
  · rw [if_pos q]
    rw [Int64.lt_iff_toInt_lt, h0] at q
    omega
  · rw [if_neg q]
    rw [Int64.lt_iff_toInt_lt, h0] at q
    rw [Int64.toInt_neg, Int.bmod_eq_of_le (by omega) (by omega)]
    omega
theorem cd_eq {a b : Int64} (ha : a.toInt.natAbs < 2 ^ 62) (hb : b.toInt.natAbs < 2 ^ 62) : s_cd a b = lN (Nat.gcd a.toInt.natAbs b.toInt.natAbs) := by
  unfold s_cd
  rw [absl_eq ha, absl_eq hb]
  exact eu_gcd 62 128 _ _ hb (by decide) (by omega) (by omega)
/-- the sign's own -/
def sgz (b x : Int) : Int := if 0 ≤ b then x else -x
theorem sgz_abs (b x : Int) : (sgz b x).natAbs = x.natAbs := by unfold sgz; split <;> omega
theorem sgz_self (b : Int) : sgz b b = (b.natAbs : Int) := by unfold sgz; split <;> omega
theorem neg_v {b : Int64} {x : Int64} (hx : x.toInt.natAbs < 2 ^ 62) : (if 0 ≤ b then x else -x).toInt = sgz b.toInt x.toInt := by
  have h0 : (0 : Int64).toInt = 0 := by decide
  unfold sgz
  by_cases q : 0 ≤ b
  · rw [if_pos q]
    rw [Int64.le_iff_toInt_le, h0] at q
    rw [if_pos q]
  · rw [if_neg q]
    rw [Int64.le_iff_toInt_le, h0] at q
    rw [if_neg q, Int64.toInt_neg, Int.bmod_eq_of_le (by omega) (by omega)]
/-- the class's fraction -/
theorem c_frac {la : La} {w c : Nat} (ha : (la c w).toInt.natAbs < 2 ^ 62) (hb : (la c c).toInt.natAbs < 2 ^ 62) (h0 : (la c c).toInt ≠ 0) : ∃ y z : Int, (s_abv la w c).toInt = y ∧ (s_bel la w c).toInt = z ∧ sgz (la c c).toInt (la c w).toInt = (Nat.gcd (la c w).toInt.natAbs (la c c).toInt.natAbs : Int) * y ∧ ((la c c).toInt.natAbs : Int) = (Nat.gcd (la c w).toInt.natAbs (la c c).toInt.natAbs : Int) * z := by
  have hg : 0 < Nat.gcd (la c w).toInt.natAbs (la c c).toInt.natAbs := Nat.gcd_pos_of_pos_right _ (by omega)
  have hgl : Nat.gcd (la c w).toInt.natAbs (la c c).toInt.natAbs < 2 ^ 62 := Nat.lt_of_le_of_lt (Nat.gcd_le_right _ (by omega)) hb
  have hne : ¬ lN (Nat.gcd (la c w).toInt.natAbs (la c c).toInt.natAbs) = 0 := fun z => by
    have := (pk_lEQ (by omega) (show 0 < 2 ^ 63 by decide)).mp (show lN (Nat.gcd (la c w).toInt.natAbs (la c c).toInt.natAbs) = lN 0 from z)
    omega
  have hv := neg_v (b := la c c) (x := la c w) ha
  have hva : (if 0 ≤ la c c then la c w else -(la c w)).toInt.natAbs = (la c w).toInt.natAbs := by rw [hv, sgz_abs]
  have e1 : s_abv la w c = (if 0 ≤ la c c then la c w else -(la c w)) / lN (Nat.gcd (la c w).toInt.natAbs (la c c).toInt.natAbs) := by
    unfold s_abv
    dsimp only
    have := cd_eq (a := if 0 ≤ la c c then la c w else -(la c w)) (b := la c c) (by rw [hva]; exact ha) hb
    rw [hva] at this
    rw [this, if_neg hne]
  have e2 : s_bel la w c = lN (la c c).toInt.natAbs / lN (Nat.gcd (la c w).toInt.natAbs (la c c).toInt.natAbs) := by
    unfold s_bel
    rw [cd_eq ha hb, if_neg hne, absl_eq hb]
  have ht : (lN (Nat.gcd (la c w).toInt.natAbs (la c c).toInt.natAbs)).toInt = (Nat.gcd (la c w).toInt.natAbs (la c c).toInt.natAbs : Int) := pk_lT (by omega)
  obtain ⟨y, hy⟩ : (Nat.gcd (la c w).toInt.natAbs (la c c).toInt.natAbs : Int) ∣ sgz (la c c).toInt (la c w).toInt := Int.natAbs_dvd_natAbs.mp (by rw [sgz_abs, Int.natAbs_natCast]; exact Nat.gcd_dvd_left _ _)
  obtain ⟨z, hz⟩ : (Nat.gcd (la c w).toInt.natAbs (la c c).toInt.natAbs : Int) ∣ ((la c c).toInt.natAbs : Int) := Int.natCast_dvd_natCast.mpr (Nat.gcd_dvd_right _ _)
  refine ⟨y, z, ?_, ?_, hy, hz⟩
  · rw [e1]
    exact l_div (by rw [ht]; omega) (by rw [ht, hv]; exact hy) (by rw [hva]; exact Nat.le_of_lt ha)
  · rw [e2]
    have hB : (lN (la c c).toInt.natAbs).toInt = ((la c c).toInt.natAbs : Int) := pk_lT (by omega)
    exact l_div (by rw [ht]; omega) (by rw [ht, hB]; exact hz) (by rw [hB, Int.natAbs_natCast]; exact Nat.le_of_lt hb)
/-- the reference's -/
theorem r_frac {P Q : Int64} (hp : P.toInt.natAbs < 2 ^ 62) (hq : Q.toInt.natAbs < 2 ^ 62) (h0 : Q.toInt ≠ 0) : ∃ y z : Int, (P / (if 0 ≤ Q then lN (Nat.gcd P.toInt.natAbs Q.toInt.natAbs) else -(lN (Nat.gcd P.toInt.natAbs Q.toInt.natAbs)))).toInt = y ∧ (Q / (if 0 ≤ Q then lN (Nat.gcd P.toInt.natAbs Q.toInt.natAbs) else -(lN (Nat.gcd P.toInt.natAbs Q.toInt.natAbs)))).toInt = z ∧ sgz Q.toInt P.toInt = (Nat.gcd P.toInt.natAbs Q.toInt.natAbs : Int) * y ∧ (Q.toInt.natAbs : Int) = (Nat.gcd P.toInt.natAbs Q.toInt.natAbs : Int) * z := by
  have hg : 0 < Nat.gcd P.toInt.natAbs Q.toInt.natAbs := Nat.gcd_pos_of_pos_right _ (by omega)
  have hgl : Nat.gcd P.toInt.natAbs Q.toInt.natAbs < 2 ^ 62 := Nat.lt_of_le_of_lt (Nat.gcd_le_right _ (by omega)) hq
  have ht : (lN (Nat.gcd P.toInt.natAbs Q.toInt.natAbs)).toInt = (Nat.gcd P.toInt.natAbs Q.toInt.natAbs : Int) := pk_lT (by omega)
  have hv := neg_v (b := Q) (x := lN (Nat.gcd P.toInt.natAbs Q.toInt.natAbs)) (by rw [ht, Int.natAbs_natCast]; exact hgl)
  rw [ht] at hv
  obtain ⟨y, hy⟩ : (Nat.gcd P.toInt.natAbs Q.toInt.natAbs : Int) ∣ sgz Q.toInt P.toInt := Int.natAbs_dvd_natAbs.mp (by rw [sgz_abs, Int.natAbs_natCast]; exact Nat.gcd_dvd_left _ _)
  obtain ⟨z, hz⟩ : (Nat.gcd P.toInt.natAbs Q.toInt.natAbs : Int) ∣ (Q.toInt.natAbs : Int) := Int.natCast_dvd_natCast.mpr (Nat.gcd_dvd_right _ _)
  generalize Nat.gcd P.toInt.natAbs Q.toInt.natAbs = g at *
  have hs : sgz Q.toInt (g : Int) ≠ 0 := by
    have := sgz_abs Q.toInt (g : Int)
    omega
  have hy2 : P.toInt = sgz Q.toInt (g : Int) * y := by
    unfold sgz at hy ⊢
    split
    · rename_i q; rw [if_pos q] at hy; exact hy
    · rename_i q; rw [if_neg q] at hy; grind
  have hz2 : Q.toInt = sgz Q.toInt (g : Int) * z := by
    have := sgz_self Q.toInt
    rw [← this] at hz
    unfold sgz at hz ⊢
    split
    · rename_i q; rw [if_pos q] at hz; exact hz
    · rename_i q; rw [if_neg q] at hz; grind
  refine ⟨y, z, ?_, ?_, hy, hz⟩
  · exact l_div (by rw [hv]; exact hs) (by rw [hv]; exact hy2) (Nat.le_of_lt hp)
  · exact l_div (by rw [hv]; exact hs) (by rw [hv]; exact hz2) (Nat.le_of_lt hq)
theorem frac_eq {a b p q α β y z y' z' : Int} (ha : α ≠ 0) (hβ : β ≠ 0) (h1 : α * a = β * p) (h2 : α * b = β * q) (hb : b ≠ 0) (hq : q ≠ 0) (e1 : sgz b a = (Nat.gcd a.natAbs b.natAbs : Int) * y) (e2 : (b.natAbs : Int) = (Nat.gcd a.natAbs b.natAbs : Int) * z) (e3 : sgz q p = (Nat.gcd p.natAbs q.natAbs : Int) * y') (e4 : (q.natAbs : Int) = (Nat.gcd p.natAbs q.natAbs : Int) * z') : y' = y ∧ z' = z := by
  have g0 : 0 < Nat.gcd a.natAbs b.natAbs := Nat.gcd_pos_of_pos_right _ (by omega)
  have g0' : 0 < Nat.gcd p.natAbs q.natAbs := Nat.gcd_pos_of_pos_right _ (by omega)
  have n1 : α.natAbs * a.natAbs = β.natAbs * p.natAbs := by rw [← Int.natAbs_mul, ← Int.natAbs_mul, h1]
  have n2 : α.natAbs * b.natAbs = β.natAbs * q.natAbs := by rw [← Int.natAbs_mul, ← Int.natAbs_mul, h2]
  have hg : α.natAbs * Nat.gcd a.natAbs b.natAbs = β.natAbs * Nat.gcd p.natAbs q.natAbs := by
    rw [← Nat.gcd_mul_left, ← Nat.gcd_mul_left, n1, n2]
  generalize hG : Nat.gcd a.natAbs b.natAbs = g at *
  generalize hG' : Nat.gcd p.natAbs q.natAbs = g' at *
  have hgI : (α.natAbs : Int) * g = (β.natAbs : Int) * g' := by exact_mod_cast hg
  have n2I : (α.natAbs : Int) * b.natAbs = (β.natAbs : Int) * q.natAbs := by exact_mod_cast n2
  have hA : (α.natAbs : Int) ≠ 0 := by omega
  have hz : z' = z := by
    rw [e2, e4] at n2I
    have k : ((α.natAbs : Int) * g) * z' = ((α.natAbs : Int) * g) * z := by
      calc ((α.natAbs : Int) * g) * z' = ((β.natAbs : Int) * g') * z' := by rw [hgI]
        _ = (β.natAbs : Int) * (g' * z') := by grind
        _ = (α.natAbs : Int) * (g * z) := n2I.symm
        _ = ((α.natAbs : Int) * g) * z := by grind
    exact Int.eq_of_mul_eq_mul_left (Int.mul_ne_zero hA (by omega)) k
  refine ⟨?_, hz⟩
  have hz0 : z ≠ 0 := by
    intro e
    rw [e, Int.mul_zero] at e2
    omega
  have cr : a * q = b * p := by
    have k : (α * β) * (a * q) = (α * β) * (b * p) := by
      calc (α * β) * (a * q) = (α * a) * (β * q) := by grind
        _ = (β * p) * (α * b) := by rw [h1, h2]
        _ = (α * β) * (b * p) := by grind
    exact Int.eq_of_mul_eq_mul_left (Int.mul_ne_zero ha hβ) k
  have cs : sgz b a * (q.natAbs : Int) = (b.natAbs : Int) * sgz q p := by
    rw [← sgz_self q, ← sgz_self b]
    unfold sgz
    split <;> split <;> grind
  rw [e1, e2, e3, e4, hz] at cs
  have k : ((g : Int) * g' * z) * y' = ((g : Int) * g' * z) * y := by grind
  exact Int.eq_of_mul_eq_mul_left (Int.mul_ne_zero (Int.mul_ne_zero (by omega) (by omega)) hz0) k
/-! mends, mend -/
theorem R_sc.m4 {sc : Sc} {n R K m d : Nat} (h : R_sc sc n R K m d) (a b e g : Int32) : R_sc (va_up (va_up (va_up (va_up sc 1 a) 2 b) 9 e) 8 g) n R K m d := h
theorem Rel.m4 {n R K m d : Nat} {sc : Sc} {ia : Ia} (hS : R_sc sc n R K m d) (hN : R_nt n ia) (hSh : R_sh R K ia) (hPa : R_pa m ia) (hDb : R_db d ia) (a b e g : Int32) (f1 f2 f3 : Nat → Int32) : Rel (va_up (va_up (va_up (va_up sc 1 a) 2 b) 9 e) 8 g) (va_up (va_up (va_up ia 8 f1) 36 f2) 37 f3) :=
  ⟨n, R, K, m, d, hS.m4 a b e g, hN.keep (fun a h => up_ne3 (by omega) (by omega) (by omega)), hSh.keep (fun a h => up_ne3 (by omega) (by omega) (by omega)), hPa.keep (fun a h => up_ne3 (by omega) (by omega) (by omega)), hDb.keep (fun a h => up_ne3 (by omega) (by omega) (by omega))⟩
/-- all that both sides' solving needs -/
theorem both {n : Nat} {ia : Ia} (hN : R_nt n ia) (la : La) (m v : Int32) : ∃ (w : Nat) (u : Nat → Nat) (h : Nat) (LA : La) (x : Nat × Int64 × La) (FA : Nat → Int64) (y : E3), s_cn (s_lo ia) n = w ∧ w ≤ 5 ∧ (∀ c, c < w → s_ul ia n c = nI (u c) ∧ u c < 32) ∧ s_cn (s_np m v) n = h ∧ s_wes la (va_up ia 8 (s_ul ia n)) u w m v n = LA ∧ s_rd LA w h w = x ∧ s_cn (r_lt (va_up ia 8 (s_ul ia n))) n = w ∧ (∀ c, c < w → r_ul (va_up ia 8 (s_ul ia n)) n c = nI (u c) ∧ u c < 32) ∧ r_tbl (x.2.2 32) (va_up ia 8 (s_ul ia n)) n u w m v n = FA ∧ r_el ((va_up ia 8 (s_ul ia n)) 37) FA w h w = y ∧ r_allgood ((va_up ia 8 (s_ul ia n)) 37) FA w h ∧ Inv w h x y w := by
  obtain ⟨hn1, hn32⟩ := hN.1.le
  obtain ⟨g1, ⟨e1, e2, e3, e4, e5, e6, e7⟩, g3, g4, g5, g6, g7, g8, g9⟩ := id hN
  have hw : s_cn (s_lo ia) n ≤ 5 := g9
  have hlt : r_lt (va_up ia 8 (s_ul ia n)) = s_lo ia := by
    funext i
    show (!decide (ia 32 i = 0)) = !decide (ia 6 i = 0)
    rw [e4]
  have hu : ∀ c, c < s_cn (s_lo ia) n → s_ul ia n c = nI ((s_ul ia n c).toInt.toNat) ∧ (s_ul ia n c).toInt.toNat < 32 := by
    intro c hc
    obtain ⟨i, i1, i2, i3, i4⟩ := ul_at ia n c hc
    rw [i4, nI_toInt (by omega)]
    exact ⟨by simp, by omega⟩
  have hu2 : ∀ i, i < n → s_lo ia i = true → (s_ul ia n (s_cn (s_lo ia) i)).toInt.toNat = i := by
    intro i hi hl
    rw [(ul_of ia hl n hi).2, nI_toInt (by omega)]
    omega
  refine ⟨s_cn (s_lo ia) n, fun c => (s_ul ia n c).toInt.toNat, s_cn (s_np m v) n, _, _, _, _, rfl, hw, hu, rfl, rfl, rfl, by rw [hlt], fun c hc => ?_, rfl, rfl, ?_⟩
  · rw [rul_eq hlt n c hc]; exact hu c hc
  · have key : ∀ r, r < s_cn (s_np m v) n → ∃ j, j < n ∧ (∀ c, c < s_cn (s_lo ia) n → s_wes la (va_up ia 8 (s_ul ia n)) (fun c => (s_ul ia n c).toInt.toNat) (s_cn (s_lo ia) n) m v n r c = (s_sgn (nI ((s_ul ia n c).toInt.toNat)) (nI j)).toInt64 ∧ r_tbl ((s_rd (s_wes la (va_up ia 8 (s_ul ia n)) (fun c => (s_ul ia n c).toInt.toNat) (s_cn (s_lo ia) n) m v n) (s_cn (s_lo ia) n) (s_cn (s_np m v) n) (s_cn (s_lo ia) n)).2.2 32) (va_up ia 8 (s_ul ia n)) n (fun c => (s_ul ia n c).toInt.toNat) (s_cn (s_lo ia) n) m v n (6 * r + c) = (s_sgn (nI ((s_ul ia n c).toInt.toNat)) (nI j)).toInt64) ∧ s_wes la (va_up ia 8 (s_ul ia n)) (fun c => (s_ul ia n c).toInt.toNat) (s_cn (s_lo ia) n) m v n r (s_cn (s_lo ia) n) = -(s_wr (va_up ia 8 (s_ul ia n)) (fun c => (s_ul ia n c).toInt.toNat) j (s_cn (s_lo ia) n)) ∧ r_tbl ((s_rd (s_wes la (va_up ia 8 (s_ul ia n)) (fun c => (s_ul ia n c).toInt.toNat) (s_cn (s_lo ia) n) m v n) (s_cn (s_lo ia) n) (s_cn (s_np m v) n) (s_cn (s_lo ia) n)).2.2 32) (va_up ia 8 (s_ul ia n)) n (fun c => (s_ul ia n c).toInt.toNat) (s_cn (s_lo ia) n) m v n (6 * r + 5) = r_du (va_up ia 8 (s_ul ia n)) j n := tab_rows la (va_up ia 8 (s_ul ia n)) _ hw m v _ _ n n
    have hN' : R_nt n (va_up ia 8 (s_ul ia n)) := hN.keep (fun a h => va_up_ne _ _ (by omega))
    have hlo' : s_lo (va_up ia 8 (s_ul ia n)) = s_lo ia := rfl
    have hrhs : ∀ j, j < n → (-(s_wr (va_up ia 8 (s_ul ia n)) (fun c => (s_ul ia n c).toInt.toNat) j (s_cn (s_lo ia) n))).toInt = -(zs (gn (va_up ia 8 (s_ul ia n)) j) n) ∧ (r_du (va_up ia 8 (s_ul ia n)) j n).toInt = -(zs (gn (va_up ia 8 (s_ul ia n)) j) n) ∧ (zs (gn (va_up ia 8 (s_ul ia n)) j) n).natAbs ≤ 32000 := fun j hj => rhs_eq (ib := va_up ia 8 (s_ul ia n)) hN' e1 e4 hj rfl hw (fun c hc => (hu c hc).2) hu2
    have h0 : ∀ r, r < s_cn (s_np m v) n → (∀ c, c < s_cn (s_lo ia) n → pm1 (mZ (s_wes la (va_up ia 8 (s_ul ia n)) (fun c => (s_ul ia n c).toInt.toNat) (s_cn (s_lo ia) n) m v n) r c)) ∧ (∀ c, c ≤ s_cn (s_lo ia) n → mZ (s_wes la (va_up ia 8 (s_ul ia n)) (fun c => (s_ul ia n c).toInt.toNat) (s_cn (s_lo ia) n) m v n) r c = fZ (s_cn (s_lo ia) n) (r_tbl ((s_rd (s_wes la (va_up ia 8 (s_ul ia n)) (fun c => (s_ul ia n c).toInt.toNat) (s_cn (s_lo ia) n) m v n) (s_cn (s_lo ia) n) (s_cn (s_np m v) n) (s_cn (s_lo ia) n)).2.2 32) (va_up ia 8 (s_ul ia n)) n (fun c => (s_ul ia n c).toInt.toNat) (s_cn (s_lo ia) n) m v n) r c) ∧ (mZ (s_wes la (va_up ia 8 (s_ul ia n)) (fun c => (s_ul ia n c).toInt.toNat) (s_cn (s_lo ia) n) m v n) r (s_cn (s_lo ia) n)).natAbs ≤ 32768 := by
      intro r hr
      obtain ⟨j, j1, j2, j3, j4⟩ := key r hr
      obtain ⟨q1, q2, q3⟩ := hrhs j j1
      refine ⟨fun c hc => ?_, fun c hc => ?_, ?_⟩
      · unfold mZ
        rw [(j2 c hc).1, Int32.toInt_toInt64]
        exact sgI _ _
      · unfold mZ fZ
        by_cases e : c = s_cn (s_lo ia) n
        · subst e
          rw [show cm (s_cn (s_lo ia) n) (s_cn (s_lo ia) n) = 5 from by unfold cm; rw [if_pos rfl], j3, j4, q1, q2]
        · rw [cm_q (by omega), (j2 c (by omega)).1, (j2 c (by omega)).2]
      · unfold mZ
        rw [j3, q1]
        omega
    have hp : ∀ r, r < s_cn (s_np m v) n → ∀ s, s < s_cn (s_np m v) n → (2 : Int) ∣ mZ (s_wes la (va_up ia 8 (s_ul ia n)) (fun c => (s_ul ia n c).toInt.toNat) (s_cn (s_lo ia) n) m v n) r (s_cn (s_lo ia) n) - mZ (s_wes la (va_up ia 8 (s_ul ia n)) (fun c => (s_ul ia n c).toInt.toNat) (s_cn (s_lo ia) n) m v n) s (s_cn (s_lo ia) n) := by
      intro r hr s hs
      obtain ⟨j, j1, j2, j3, j4⟩ := key r hr
      obtain ⟨k, k1, k2, k3, k4⟩ := key s hs
      unfold mZ
      rw [j3, k3, (hrhs j j1).1, (hrhs k k1).1]
      have := zs_par (f := gn (va_up ia 8 (s_ul ia n)) j) (g := gn (va_up ia 8 (s_ul ia n)) k) n (fun i _ => gn_par i j k)
      omega
    exact ⟨all_good hw h0 hp, inv_all hw h0 hp _ (Nat.le_refl _)⟩
theorem op_mends {l : Launch} {G : Gv} {sc : Sc} {ia : Ia} {la : La} (hR : Rel sc ia) (p v : Int32) : OpI l G yX5_mends wsX5_mends yX6_mends wsX6_mends [.int p, .int v] sc ia la := by
  obtain ⟨n, R, K, m, d, hS, hN, hSh, hPa, hDb⟩ := id hR
  obtain ⟨hn1, hn32⟩ := hN.1.le
  rcases o_bool (s_gate p v) with h | h
  · exact opI (c_X5_mends_out l G sc ia la p v h) (c_X6_mends_out l G sc ia la p v h) rfl hR
  · obtain ⟨w, u, t, LA, x, FA, y, b1, b2, b3, b4, b5, b6, b7, b8, b9, b10, b11, I⟩ := both hN la p v
    exact opI (c_X5_mends_ok l G sc ia la n hS.1 hn32 w b1 b2 u b3 p v t b4 LA b5 x b6 h) (c_X6_mends_ok l G (va_up (va_up sc 1 (nI w)) 2 (nI t)) (va_up ia 8 (s_ul ia n)) x.2.2 n hS.2.1 hn32 w b7 b2 u b8 p v t b4 FA b9 y b10 b11 h) (vd_eq I) (Rel.m4 hS hN hSh hPa hDb _ _ _ _ _ _ _)
theorem op_mend {l : Launch} {G : Gv} {sc : Sc} {ia : Ia} {la : La} (hR : Rel sc ia) (i p v part : Int32) : OpL l G yX5_mend wsX5_mend yX6_mend wsX6_mend [.int i, .int p, .int v, .int part] sc ia la := by
  obtain ⟨n, R, K, m, d, hS, hN, hSh, hPa, hDb⟩ := id hR
  obtain ⟨hn1, hn32⟩ := hN.1.le
  have e4 : ia 32 = ia 6 := hN.2.1.2.2.2.1
  rcases o_has i (n := n) (by omega) with h | ⟨j, hj, rfl⟩
  · exact opL (c_X5_mend_no l G sc ia la i (by rw [hS.1]; exact h) p v part) (c_X6_mend_no l G sc ia la n hS.2.1 hn32 hn1 i h p v part) rfl hR
  · by_cases h0 : ia 6 j = 0
    · exact opL (c_X5_mend_unl l G sc ia la n hS.1 hn32 j hj h0 p v part) (c_X6_mend_unl l G sc ia la n hS.2.1 hn32 hn1 j hj (by rw [e4]; exact h0) p v part) rfl hR
    · rcases o_bool (s_gate p v) with h | h
      · exact opL (c_X5_mend_gate l G sc ia la n hS.1 hn32 j hj h0 p v part h) (c_X6_mend_gate l G sc ia la n hS.2.1 hn32 hn1 j hj (by rw [e4]; exact h0) p v part h) rfl hR
      · rcases o_bool (s_out part 0 1) with ho | ho
        · obtain ⟨w, u, t, LA, x, FA, y, b1, b2, b3, b4, b5, b6, b7, b8, b9, b10, b11, I⟩ := both hN la p v
          by_cases hv : s_vd x w t = 1
          · have hvr : r_vd y w t = 1 := by rw [vd_eq I]; exact hv
            have hl : s_lo ia j = true := by simp [s_lo, h0]
            obtain ⟨l1, l2⟩ := ul_of ia hl n hj
            rw [b1] at l1
            have hfi : ∃ c0, s_fi (fun c => decide ((va_up ia 8 (s_ul ia n)) 8 c = nI j)) w = some c0 := by
              cases hf : s_fi (fun c => decide ((va_up ia 8 (s_ul ia n)) 8 c = nI j)) w with
              | some c0 => exact ⟨c0, rfl⟩
              | none =>
                have := s_fi_none hf _ l1
                rw [show (va_up ia 8 (s_ul ia n)) 8 = s_ul ia n from va_up_self _ _ _, l2] at this
                simp at this
            obtain ⟨c0, hc0⟩ := hfi
            obtain ⟨c1, c2, c3⟩ := s_fi_lt hc0
            rw [show (va_up ia 8 (s_ul ia n)) 8 = s_ul ia n from va_up_self _ _ _] at c2 c3
            have huj : u c0 = j := by
              obtain ⟨q1, q2⟩ := b3 c0 c1
              rw [q1] at c2
              exact (nI_eq (by omega) (by omega)).mp (of_decide_eq_true c2)
            have hub : ∀ c, c < c0 → ¬ u c = j := by
              intro c hc e
              have q := c3 c hc
              rw [(b3 c (by omega)).1, e] at q
              simp at q
            obtain ⟨i1, i2, i3, i4, i5, i6, i7, i8⟩ := id I
            have hxw : x.1 = w := by
              unfold s_vd at hv
              split at hv
              · split at hv
                · assumption
                · exact absurd hv (by decide)
              · exact absurd hv (by decide)
            obtain ⟨k1, k2, k3⟩ := i8 hxw c0 c1
            have hct : c0 < t := by omega
            obtain ⟨α, β, ha, hb, he⟩ := i7 c0 hct
            obtain ⟨z1, z2⟩ := m5 (show x.1 ≤ 5 by omega)
            have hA : (x.2.2 c0 w).toInt.natAbs < 2 ^ 62 := Nat.lt_of_le_of_lt (Nat.le_trans (i5 c0 hct).2 z2) (by decide)
            have hB : (x.2.2 c0 c0).toInt.natAbs < 2 ^ 62 := Nat.lt_of_le_of_lt (Nat.le_trans ((i5 c0 hct).1 c0 c1) z1) (by decide)
            have hfw : fZ w y.2.2 c0 w = (y.2.2 (6 * c0 + 5)).toInt := by unfold fZ cm; rw [if_pos rfl]
            have hfc : fZ w y.2.2 c0 c0 = (y.2.2 (6 * c0 + c0)).toInt := by unfold fZ; rw [cm_q c1]
            have hP : (y.2.2 (6 * c0 + 5)).toInt.natAbs < 2 ^ 62 := by rw [← hfw]; exact Nat.lt_of_le_of_lt (Nat.le_trans (i6 c0 hct).2 z2) (by decide)
            have hQ : (y.2.2 (6 * c0 + c0)).toInt.natAbs < 2 ^ 62 := by rw [← hfc]; exact Nat.lt_of_le_of_lt (Nat.le_trans ((i6 c0 hct).1 c0 c1) z1) (by decide)
            have hQ0 : (y.2.2 (6 * c0 + c0)).toInt ≠ 0 := by
              rw [← hfc]
              intro e
              exact k2 ((i7.z hct (by omega)).mpr e)
            have hA1 := he w (Nat.le_refl w)
            have hA2 := he c0 (by omega)
            rw [hfw] at hA1
            rw [hfc] at hA2
            obtain ⟨y1, zz1, f1, f2, f3, f4⟩ := c_frac (la := x.2.2) (w := w) (c := c0) hA hB k2
            obtain ⟨y2, zz2, f5, f6, f7, f8⟩ := r_frac hP hQ hQ0
            obtain ⟨r1, r2⟩ := frac_eq ha hb hA1 hA2 k2 hQ0 f3 f4 f7 f8
            refine opL (c_X5_mend_ok l G sc ia la n hS.1 hn32 w b1 b2 u b3 p v t b4 LA b5 x b6 j hj h0 part h ho hv) (c_X6_mend_ok l G (va_up (va_up sc 1 (nI w)) 2 (nI t)) (va_up ia 8 (s_ul ia n)) x.2.2 n hS.2.1 hn32 w b7 b2 u b8 p v t b4 FA b9 y b10 b11 hn1 j hj (by show ¬ ia 32 j = 0; rw [e4]; exact h0) part h ho hvr c0 c1 huj hub k1 _ _ (l_ab hP) (l_ab hQ) hP hQ (by omega)) ?_ (Rel.m4 hS hN hSh hPa hDb _ _ _ _ _ _ _)
            unfold s_pt
            rw [hc0]
            dsimp only
            split
            · exact Int64.toInt_inj.mp (by rw [f5, f1, r1])
            · exact Int64.toInt_inj.mp (by rw [f6, f2, r2])
          · have hvr : ¬ s_vd x w t = 1 := hv
            exact opL (c_X5_mend_state l G sc ia la n hS.1 hn32 w b1 b2 u b3 p v t b4 LA b5 x b6 j hj h0 part h ho (s_vd x w t) rfl hv) (c_X6_mend_state l G (va_up (va_up sc 1 (nI w)) 2 (nI t)) (va_up ia 8 (s_ul ia n)) x.2.2 n hS.2.1 hn32 w b7 b2 u b8 p v t b4 FA b9 y b10 b11 hn1 j hj (by show ¬ ia 32 j = 0; rw [e4]; exact h0) part h ho (r_vd y w t) rfl (by rw [vd_eq I]; exact hv)) rfl (Rel.m4 hS hN hSh hPa hDb _ _ _ _ _ _ _)
        · exact opL (c_X5_mend_part l G sc ia la n hS.1 hn32 j hj h0 p v part h ho) (c_X6_mend_part l G sc ia la n hS.2.1 hn32 hn1 j hj (by rw [e4]; exact h0) p v part h ho) rfl hR
