/-! THE EQUATIONS: both tables hold the same -/
theorem ul_at (ia : Ia) : ∀ n c, c < s_cn (s_lo ia) n → ∃ i, i < n ∧ s_lo ia i = true ∧ s_cn (s_lo ia) i = c ∧ s_ul ia n c = nI i
  | 0, c, h => by simp [s_cn] at h
  | n + 1, c, h => by
    have e : s_cn (s_lo ia) (n + 1) = if s_lo ia n = true then s_cn (s_lo ia) n + 1 else s_cn (s_lo ia) n := rfl
    have e2 : s_ul ia (n + 1) = if s_lo ia n = true then upd (s_ul ia n) (s_cn (s_lo ia) n) (nI n) else s_ul ia n := rfl
    by_cases q : s_lo ia n = true
    · rw [e, if_pos q] at h
      rw [e2, if_pos q]
      by_cases ec : c = s_cn (s_lo ia) n
      · exact ⟨n, by omega, q, ec.symm, by rw [ec, pk_us]⟩
      · obtain ⟨i, i1, i2, i3, i4⟩ := ul_at ia n c (by omega)
        exact ⟨i, by omega, i2, i3, by rw [pk_un ec]; exact i4⟩
    · rw [e, if_neg q] at h
      rw [e2, if_neg q]
      obtain ⟨i, i1, i2, i3, i4⟩ := ul_at ia n c h
      exact ⟨i, by omega, i2, i3, i4⟩
theorem ul_of (ia : Ia) {j : Nat} (hl : s_lo ia j = true) : ∀ n, j < n → s_cn (s_lo ia) j < s_cn (s_lo ia) n ∧ s_ul ia n (s_cn (s_lo ia) j) = nI j
  | 0, h => by omega
  | n + 1, h => by
    have e : s_cn (s_lo ia) (n + 1) = if s_lo ia n = true then s_cn (s_lo ia) n + 1 else s_cn (s_lo ia) n := rfl
    have e2 : s_ul ia (n + 1) = if s_lo ia n = true then upd (s_ul ia n) (s_cn (s_lo ia) n) (nI n) else s_ul ia n := rfl
    by_cases ej : j = n
    · subst ej
      rw [e, e2, if_pos hl, if_pos hl, pk_us]
      exact ⟨by omega, rfl⟩
    · obtain ⟨i1, i2⟩ := ul_of ia hl n (by omega)
      rw [e, e2]
      by_cases q : s_lo ia n = true
      · rw [if_pos q, if_pos q, pk_un (by omega)]
        exact ⟨by omega, i2⟩
      · rw [if_neg q, if_neg q]
        exact ⟨i1, i2⟩
theorem rul_eq {ia ia' : Ia} (hl : r_lt ia' = s_lo ia) : ∀ n c, c < s_cn (s_lo ia) n → r_ul ia' n c = s_ul ia n c
  | 0, c, h => by simp [s_cn] at h
  | n + 1, c, h => by
    have e : s_cn (s_lo ia) (n + 1) = if s_lo ia n = true then s_cn (s_lo ia) n + 1 else s_cn (s_lo ia) n := rfl
    have e2 : s_ul ia (n + 1) = if s_lo ia n = true then upd (s_ul ia n) (s_cn (s_lo ia) n) (nI n) else s_ul ia n := rfl
    have e3 : r_ul ia' (n + 1) = if r_lt ia' n = true then upd (r_ul ia' n) (s_cn (r_lt ia') n) (nI n) else r_ul ia' n := rfl
    rw [e2, e3, hl]
    by_cases q : s_lo ia n = true
    · rw [e, if_pos q] at h
      rw [if_pos q, if_pos q]
      by_cases ec : c = s_cn (s_lo ia) n
      · rw [ec, pk_us, pk_us]
      · rw [pk_un ec, pk_un ec]; exact rul_eq hl n c (by omega)
    · rw [e, if_neg q] at h
      rw [if_neg q, if_neg q]
      exact rul_eq hl n c h
theorem we_at (la : La) (u : Nat → Nat) (r j : Nat) : ∀ k i c, s_we la u r j k i c = if i = r ∧ c < k then (s_sgn (nI (u c)) (nI j)).toInt64 else la i c
  | 0, i, c => by simp [s_we]
  | k + 1, i, c => by
    have ih := we_at la u r j k
    show va_up (s_we la u r j k) r (vp_updL (s_we la u r j k r) k (s_sgn (nI (u k)) (nI j)).toInt64) i c = _
    by_cases er : i = r
    · subst er
      rw [va_up_self]
      by_cases ec : c = k
      · subst ec; rw [pk_uLs, if_pos ⟨rfl, by omega⟩]
      · rw [pk_uLn ec, ih]
        by_cases h : c < k
        · rw [if_pos ⟨rfl, h⟩, if_pos ⟨rfl, by omega⟩]
        · rw [if_neg (fun z => h z.2), if_neg (by omega)]
    · rw [va_up_ne _ _ er, ih, if_neg (fun z => er z.1), if_neg (fun z => er z.1)]
theorem sn_at (f : Nat → Int64) (t : Nat) (u : Nat → Nat) (j : Nat) : ∀ k i c, c < 6 → k ≤ 6 → r_sn f t u j k (6 * i + c) = if i = t ∧ c < k then (s_sgn (nI (u c)) (nI j)).toInt64 else f (6 * i + c)
  | 0, i, c, _, _ => by simp [r_sn]
  | k + 1, i, c, hc, hk => by
    have ih := sn_at f t u j k
    show vp_updL (r_sn f t u j k) (6 * t + k) (s_sgn (nI (u k)) (nI j)).toInt64 (6 * i + c) = _
    rw [upL_at]
    by_cases e : i = t ∧ c = k
    · obtain ⟨rfl, rfl⟩ := e
      rw [if_pos rfl, if_pos ⟨rfl, by omega⟩]
    · rw [if_neg (by omega), ih i c hc (by omega)]
      by_cases h : i = t ∧ c < k
      · rw [if_pos h, if_pos ⟨h.1, by omega⟩]
      · rw [if_neg h, if_neg (by omega)]
theorem tab_rows (la : La) (ia : Ia) (u : Nat → Nat) {w : Nat} (hw : w ≤ 5) (m v : Int32) (f : Nat → Int64) (ib : Ia) (n : Nat) : ∀ k r, r < s_cn (s_np m v) k → ∃ j, j < k ∧ (∀ c, c < w → s_wes la ia u w m v k r c = (s_sgn (nI (u c)) (nI j)).toInt64 ∧ r_tbl f ib n u w m v k (6 * r + c) = (s_sgn (nI (u c)) (nI j)).toInt64) ∧ s_wes la ia u w m v k r w = -(s_wr ia u j w) ∧ r_tbl f ib n u w m v k (6 * r + 5) = r_du ib j n
  | 0, r, h => by simp [s_cn] at h
  | k + 1, r, h => by
    have e : s_cn (s_np m v) (k + 1) = if s_np m v k = true then s_cn (s_np m v) k + 1 else s_cn (s_np m v) k := rfl
    have e1 : s_wes la ia u w m v (k + 1) = if s_np m v k = true then s_weq (s_wes la ia u w m v k) ia u w (s_cn (s_np m v) k) k else s_wes la ia u w m v k := rfl
    have e2 : r_tbl f ib n u w m v (k + 1) = if s_np m v k = true then r_rw ib (r_tbl f ib n u w m v k) n u w (s_cn (s_np m v) k) k else r_tbl f ib n u w m v k := rfl
    by_cases q : s_np m v k = true
    · rw [e, if_pos q] at h
      rw [e1, e2, if_pos q, if_pos q]
      unfold s_weq r_rw
      by_cases er : r = s_cn (s_np m v) k
      · refine ⟨k, by omega, fun c hc => ⟨?_, ?_⟩, ?_, ?_⟩
        · rw [er, va_up_self, pk_uLn (by omega), we_at, if_pos ⟨rfl, hc⟩]
        · rw [pk_uLn (by omega), sn_at _ _ _ _ w r c (by omega) (by omega), if_pos ⟨er, hc⟩]
        · rw [er, va_up_self, pk_uLs]
        · rw [er, pk_uLs]
      · obtain ⟨j, j1, j2, j3, j4⟩ := tab_rows la ia u hw m v f ib n k r (by omega)
        refine ⟨j, by omega, fun c hc => ⟨?_, ?_⟩, ?_, ?_⟩
        · rw [va_up_ne _ _ er, we_at, if_neg (fun z => er z.1)]; exact (j2 c hc).1
        · rw [pk_uLn (by omega), sn_at _ _ _ _ w r c (by omega) (by omega), if_neg (fun z => er z.1)]; exact (j2 c hc).2
        · rw [va_up_ne _ _ er, we_at, if_neg (fun z => er z.1)]; exact j3
        · rw [pk_uLn (by omega), sn_at _ _ _ _ w r 5 (by omega) (by omega), if_neg (fun z => er z.1)]; exact j4
    · rw [e, if_neg q] at h
      rw [e1, e2, if_neg q, if_neg q]
      obtain ⟨j, j1, j2⟩ := tab_rows la ia u hw m v f ib n k r h
      exact ⟨j, by omega, j2⟩
/-! the right side -/
def zs (f : Nat → Int) : Nat → Int
  | 0 => 0
  | k + 1 => zs f k + f k
theorem zs_bd {f : Nat → Int} {B : Nat} {n : Nat} (hf : ∀ j, j < n → (f j).natAbs ≤ B) : ∀ k, k ≤ n → (zs f k).natAbs ≤ k * B
  | 0, _ => by simp [zs]
  | k + 1, h => by
    have ih := zs_bd hf k (by omega)
    have h1 := hf k (by omega)
    have he : (k + 1) * B = k * B + B := Nat.succ_mul k B
    show (zs f k + f k).natAbs ≤ (k + 1) * B
    omega
theorem zs_cong {f g : Nat → Int} : ∀ k, (∀ j, j < k → f j = g j) → zs f k = zs g k
  | 0, _ => rfl
  | k + 1, h => by
    show zs f k + f k = zs g k + g k
    rw [zs_cong k (fun j hj => h j (by omega)), h k (by omega)]
theorem zs_sub {f g e : Nat → Int} : ∀ k, (∀ j, j < k → f j = g j + e j) → zs f k = zs g k + zs e k
  | 0, _ => rfl
  | k + 1, h => by
    have := zs_sub k (fun j hj => h j (by omega))
    have h1 := h k (by omega)
    show zs f k + f k = (zs g k + g k) + (zs e k + e k)
    omega
theorem zs_par {f g : Nat → Int} : ∀ k, (∀ j, j < k → (2 : Int) ∣ f j - g j) → (2 : Int) ∣ zs f k - zs g k
  | 0, _ => ⟨0, rfl⟩
  | k + 1, h => by
    have := zs_par k (fun j hj => h j (by omega))
    have h1 := h k (by omega)
    show (2 : Int) ∣ (zs f k + f k) - (zs g k + g k)
    omega
theorem zs_lost {p : Nat → Bool} {g : Nat → Int} {u : Nat → Nat} : ∀ k, (∀ i, i < k → p i = true → u (s_cn p i) = i) → zs (fun c => g (u c)) (s_cn p k) = zs (fun i => if p i = true then g i else 0) k
  | 0, _ => rfl
  | k + 1, h => by
    have ih := zs_lost (g := g) k (fun i hi => h i (by omega))
    have e : s_cn p (k + 1) = if p k = true then s_cn p k + 1 else s_cn p k := rfl
    show _ = zs (fun i => if p i = true then g i else 0) k + (if p k = true then g k else 0)
    by_cases q : p k = true
    · rw [e, if_pos q, if_pos q]
      show zs (fun c => g (u c)) (s_cn p k) + g (u (s_cn p k)) = _
      rw [ih, h k (by omega) q]
    · rw [e, if_neg q, if_neg q, ih, Int.add_zero]
def gg (ia : Ia) (j i : Nat) : Int := (ia 0 i).toInt * (s_sgn (nI i) (nI j)).toInt
theorem gg_bd {ia : Ia} {i : Nat} (h : -1000 ≤ (ia 0 i).toInt ∧ (ia 0 i).toInt ≤ 1000) (j : Nat) : (gg ia j i).natAbs ≤ 1000 ∧ (ia 0 i * s_sgn (nI i) (nI j)).toInt = gg ia j i ∧ ((ia 0 i).toInt64 * (s_sgn (nI i) (nI j)).toInt64).toInt = gg ia j i := by
  unfold gg
  rw [Int32.toInt_mul, Int64.toInt_mul, Int32.toInt_toInt64, Int32.toInt_toInt64]
  rcases sgI (nI i) (nI j) with q | q <;> rw [q]
  · rw [Int.mul_one]
    exact ⟨by omega, Int.bmod_eq_of_le (by omega) (by omega), Int.bmod_eq_of_le (by omega) (by omega)⟩
  · rw [Int.mul_neg, Int.mul_one]
    exact ⟨by omega, Int.bmod_eq_of_le (by omega) (by omega), Int.bmod_eq_of_le (by omega) (by omega)⟩
theorem fa_zs {n : Nat} {ia : Ia} (h : R_nt n ia) (j : Nat) : ∀ k, k ≤ n → (r_fa (ia 0) j k).toInt = zs (gg ia j) k
  | 0, _ => (by decide : (0 : Int32).toInt = 0)
  | k + 1, hk => by
    obtain ⟨hn1, hn32⟩ := h.1.le
    have ih := fa_zs h j k (by omega)
    have b := zs_bd (f := gg ia j) (B := 1000) (n := n) (fun i hi => (gg_bd (h.2.2.1 i (by omega)) j).1) k (by omega)
    obtain ⟨g1, g2, g3⟩ := gg_bd (h.2.2.1 k (by omega)) j
    show (r_fa (ia 0) j k + ia 0 k * s_sgn (nI k) (nI j)).toInt = zs (gg ia j) k + gg ia j k
    rw [Int32.toInt_add, ih, g2, Int.bmod_eq_of_le (by omega) (by omega)]
theorem wr_zs {n : Nat} {ia : Ia} (h : R_nt n ia) {j : Nat} (hj : j < n) {u : Nat → Nat} {w : Nat} (hw : w ≤ 5) (hu : ∀ c, c < w → u c < 32) : ∀ k, k ≤ w → (s_wr ia u j k).toInt = (ia 1 j).toInt - zs (fun c => gg ia j (u c)) k
  | 0, _ => by
    show (ia 1 j).toInt64.toInt = (ia 1 j).toInt - 0
    rw [Int32.toInt_toInt64, Int.sub_zero]
  | k + 1, hk => by
    have ih := wr_zs h hj hw hu k (by omega)
    have b := zs_bd (f := fun c => gg ia j (u c)) (B := 1000) (n := w) (fun c hc => (gg_bd (h.2.2.1 (u c) (hu c hc)) j).1) k (by omega)
    obtain ⟨g1, g2, g3⟩ := gg_bd (h.2.2.1 (u k) (hu k (by omega))) j
    have f := fa_bd h j
    rw [← h.2.2.2.1 j hj] at f
    show (s_wr ia u j k - (ia 0 (u k)).toInt64 * (s_sgn (nI (u k)) (nI j)).toInt64).toInt = (ia 1 j).toInt - (zs (fun c => gg ia j (u c)) k + gg ia j (u k))
    rw [Int64.toInt_sub, ih, g3, Int.bmod_eq_of_le (by omega) (by omega)]
    omega
def gn (ia : Ia) (j i : Nat) : Int := if s_lo ia i = true then 0 else gg ia j i
theorem gn_bd {n : Nat} {ia : Ia} (h : R_nt n ia) (j : Nat) {i : Nat} (hi : i < 32) : (gn ia j i).natAbs ≤ 1000 := by
  unfold gn
  split
  · decide
  · exact (gg_bd (h.2.2.1 i hi) j).1
theorem du_zs {n : Nat} {ia ib : Ia} (h : R_nt n ia) (e29 : ib 29 = ia 0) (e32 : ib 32 = ia 6) (j : Nat) : ∀ k, k ≤ n → (r_du ib j k).toInt = -(zs (gn ia j) k)
  | 0, _ => by
    show (0 : Int64).toInt = -(0 : Int)
    decide
  | k + 1, hk => by
    obtain ⟨hn1, hn32⟩ := h.1.le
    have ih := du_zs h e29 e32 j k (by omega)
    have b := zs_bd (f := gn ia j) (B := 1000) (n := n) (fun i hi => gn_bd h j (by omega)) k (by omega)
    obtain ⟨g1, g2, g3⟩ := gg_bd (h.2.2.1 k (by omega)) j
    show (r_du ib j k - (if ib 32 k = 0 then (ib 29 k * s_sgn (nI k) (nI j)).toInt64 else 0)).toInt = -(zs (gn ia j) k + gn ia j k)
    rw [e29, e32, Int64.toInt_sub, ih]
    unfold gn s_lo
    by_cases q : ia 6 k = 0
    · rw [if_pos q, Int32.toInt_toInt64, g2]
      rw [if_neg (by simp [q])]
      unfold gn s_lo at b
      rw [Int.bmod_eq_of_le (by omega) (by omega)]
      omega
    · rw [if_neg q, if_pos (by simp [q])]
      unfold gn s_lo at b
      rw [show (0 : Int64).toInt = 0 from rfl, Int.bmod_eq_of_le (by omega) (by omega)]
      omega
theorem rhs_eq {n : Nat} {ia ib : Ia} (h : R_nt n ia) (e29 : ib 29 = ia 0) (e32 : ib 32 = ia 6) {j : Nat} (hj : j < n) {u : Nat → Nat} {w : Nat} (hwe : s_cn (s_lo ia) n = w) (hw : w ≤ 5) (hu : ∀ c, c < w → u c < 32) (hu2 : ∀ i, i < n → s_lo ia i = true → u (s_cn (s_lo ia) i) = i) : (-(s_wr ia u j w)).toInt = -(zs (gn ia j) n) ∧ (r_du ib j n).toInt = -(zs (gn ia j) n) ∧ (zs (gn ia j) n).natAbs ≤ 32000 := by
  obtain ⟨hn1, hn32⟩ := h.1.le
  have b := zs_bd (f := gn ia j) (B := 1000) (n := n) (fun i hi => gn_bd h j (by omega)) n (Nat.le_refl n)
  have k1 := wr_zs h hj hw hu w (Nat.le_refl w)
  have k2 : zs (fun c => gg ia j (u c)) w = zs (fun i => if s_lo ia i = true then gg ia j i else 0) n := by rw [← hwe]; exact zs_lost n hu2
  have k3 := fa_zs h j n (Nat.le_refl n)
  have k4 : zs (gg ia j) n = zs (gn ia j) n + zs (fun i => if s_lo ia i = true then gg ia j i else 0) n := zs_sub n (fun i _ => by unfold gn; split <;> omega)
  rw [h.2.2.2.1 j hj, k3, k2, k4] at k1
  refine ⟨?_, du_zs h e29 e32 j n (Nat.le_refl n), by omega⟩
  have k5 : (s_wr ia u j w).toInt = zs (gn ia j) n := by omega
  rw [Int64.toInt_neg, k5, Int.bmod_eq_of_le (by omega) (by omega)]
theorem gn_par {ia : Ia} (i j k : Nat) : (2 : Int) ∣ gn ia j i - gn ia k i := by
  unfold gn gg
  split
  · exact ⟨0, rfl⟩
  · rcases sgI (nI i) (nI j) with q | q <;> rcases sgI (nI i) (nI k) with p | p <;> rw [q, p] <;> omega
