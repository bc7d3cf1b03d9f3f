/-! counts -/
theorem ct_cn (f : Nat → Int32) : ∀ k, s_ct f k = nI (s_cn (nz f) k)
  | 0 => rfl
  | k + 1 => by
    show (if f k = 0 then s_ct f k else s_ct f k + 1) = nI (if nz f k = true then s_cn (nz f) k + 1 else s_cn (nz f) k)
    rw [ct_cn f k]
    by_cases h : f k = 0
    · rw [if_pos h, if_neg (by simp [nz, h])]
    · rw [if_neg h, if_pos (by simp [nz, h]), nI_1]
theorem rct_cn (f : Nat → Int32) : ∀ k, r_ct f k = nI (s_cn (nz f) k)
  | 0 => rfl
  | k + 1 => by
    show r_ct f k + (if f k = 0 then 0 else 1) = nI (if nz f k = true then s_cn (nz f) k + 1 else s_cn (nz f) k)
    rw [rct_cn f k]
    by_cases h : f k = 0
    · rw [if_pos h, if_neg (by simp [nz, h])]; simp
    · rw [if_neg h, if_pos (by simp [nz, h]), nI_1]
theorem cn_beyond {p : Nat → Bool} {n : Nat} : ∀ k, (∀ j, n ≤ j → j < n + k → p j = false) → s_cn p (n + k) = s_cn p n
  | 0, _ => rfl
  | k + 1, h => by
    show (if p (n + k) = true then _ else s_cn p (n + k)) = _
    rw [if_neg (by rw [h (n + k) (by omega) (by omega)]; simp), cn_beyond k (fun j h1 h2 => h j h1 (by omega))]
theorem cn_32 {f : Nat → Int32} {n : Nat} (hn : n ≤ 32) (h : ∀ j, n ≤ j → j < 32 → f j = 0) : s_cn (nz f) 32 = s_cn (nz f) n := by
  have := cn_beyond (p := nz f) (n := n) (32 - n) (fun j h1 h2 => by simp [nz, h j h1 (by omega)])
  rw [show n + (32 - n) = 32 by omega] at this
  exact this
theorem cn_cong {p q : Nat → Bool} : ∀ n, (∀ j, j < n → p j = q j) → s_cn p n = s_cn q n
  | 0, _ => rfl
  | n + 1, h => by
    show (if p n = true then _ else _) = if q n = true then _ else _
    rw [cn_cong n (fun j hj => h j (by omega)), h n (by omega)]
theorem cn_upd (f : Nat → Int32) (a : Nat) (v : Int32) : ∀ n, s_cn (nz (upd f a v)) n + (if a < n ∧ f a ≠ 0 then 1 else 0) = s_cn (nz f) n + (if a < n ∧ v ≠ 0 then 1 else 0)
  | 0 => by simp [s_cn]
  | n + 1 => by
    have ih := cn_upd f a v n
    show (if nz (upd f a v) n = true then s_cn (nz (upd f a v)) n + 1 else s_cn (nz (upd f a v)) n) + _ = (if nz f n = true then s_cn (nz f) n + 1 else s_cn (nz f) n) + _
    by_cases e : n = a
    · subst e
      have q1 : nz (upd f n v) n = nz (fun _ => v) n := by simp [nz, pk_us]
      rw [q1]
      have l0 : ¬ n < n := by omega
      have l1 : n < n + 1 := by omega
      simp only [l0, l1, false_and, true_and, if_false] at ih ⊢
      by_cases hv : v = 0 <;> by_cases hf : f n = 0 <;> simp [nz, hv, hf] at ih ⊢ <;> omega
    · have q1 : nz (upd f a v) n = nz f n := by simp [nz, pk_un e]
      rw [q1]
      have l : (a < n + 1) ↔ (a < n) := by omega
      simp only [l]
      split <;> omega
theorem R_nt.lost {n : Nat} {ia : Ia} (h : R_nt n ia) {j : Nat} (hj : j < n) {v : Int32} (hc : s_cn (nz (upd (ia 6) j v)) n ≤ 5) : R_nt n (va_up (va_up ia 6 (upd (ia 6) j v)) 32 (upd (ia 32) j v)) := by
  obtain ⟨g1, ⟨e1, e2, e3, e4, e5, e6, e7⟩, g3, g4, g5, g6, g7, g8, g9⟩ := h
  refine ⟨g1, ⟨e1, e2, e3, ?_, e5, e6, e7⟩, g3, g4, g5, g6, ?_, g8, hc⟩
  · show upd (ia 32) j v = upd (ia 6) j v
    rw [e4]
  · intro k h1 h2
    show upd (ia 6) j v k = 0
    rw [pk_un (by omega)]
    exact g7 k h1 h2
theorem op_lose {l : Launch} {G : Gv} {sc : Sc} {ia : Ia} {la : La} (hR : Rel sc ia) (i : Int32) (z : Bool) : OpI l G yX5_lose wsX5_lose yX6_lose wsX6_lose [.int i, .int (bI z)] sc ia la := by
  obtain ⟨n, R, K, m, d, hS, hN, hSh, hPa, hDb⟩ := id hR
  obtain ⟨hn1, hn32⟩ := hN.1.le
  obtain ⟨g1, ⟨e1, e2, e3, e4, e5, e6, e7⟩, g3, g4, g5, g6, g7, g8, g9⟩ := id hN
  rcases o_has i (n := n) (by omega) with h | ⟨j, hj, rfl⟩
  · exact opI (c_X5_lose_no l G sc ia la i (by rw [hS.1]; exact h) z) (c_X6_lose_no l G sc ia la n hS.2.1 hn32 hn1 i h z) rfl hR
  · have A := c_X5_lose_ok l G sc ia la n hS.1 hn32 j hj z
    have hc : (¬ s_ct (ia 6) 32 < 5) ↔ s_cn (nz (ia 6)) n = 5 := by
      rw [ct_cn, cn_32 hn32 g7, show (5 : Int32) = nI 5 from rfl, nI_ltI (by omega) (by omega)]
      omega
    have hd9 : (r_ct (ia 6) n = 5) ↔ s_cn (nz (ia 6)) n = 5 := by
      rw [rct_cn, show (5 : Int32) = nI 5 from rfl, nI_eq (by omega) (by omega)]
    by_cases q : z = true ∧ ia 6 j = 0 ∧ s_cn (nz (ia 6)) n = 5
    · have q1 : z = true ∧ ia 6 j = 0 ∧ ¬ s_ct (ia 6) 32 < 5 := ⟨q.1, q.2.1, hc.mpr q.2.2⟩
      rw [if_pos q1, if_pos q1] at A
      have B := c_X6_lose_ok l G sc ia la n hS.2.1 hn32 hn1 j hj z
      have q2 : z = true ∧ ia 32 j = 0 ∧ r_ct (ia 32) n = 5 := by rw [e4]; exact ⟨q.1, q.2.1, hd9.mpr q.2.2⟩
      rw [if_pos q2, if_pos q2] at B
      exact opI A B rfl hR
    · have q1 : ¬ (z = true ∧ ia 6 j = 0 ∧ ¬ s_ct (ia 6) 32 < 5) := fun t => q ⟨t.1, t.2.1, hc.mp t.2.2⟩
      rw [if_neg q1, if_neg q1] at A
      have B := c_X6_lose_ok l G sc (va_up ia 6 (upd (ia 6) j (bI z))) la n hS.2.1 hn32 hn1 j hj z
      rw [show (va_up ia 6 (upd (ia 6) j (bI z))) 32 = ia 6 from e4] at B
      have q2 : ¬ (z = true ∧ ia 6 j = 0 ∧ r_ct (ia 6) n = 5) := fun t => q ⟨t.1, t.2.1, hd9.mp t.2.2⟩
      rw [if_neg q2, if_neg q2] at B
      refine opI A B rfl (Rel.up hS hSh hPa hDb (by omega) (by omega) ?_)
      have := hN.lost hj (v := bI z) (by
        have hu := cn_upd (ia 6) j (bI z) n
        by_cases hz : z = true
        · by_cases h0 : ia 6 j = 0
          · have : ¬ s_cn (nz (ia 6)) n = 5 := fun t => q ⟨hz, h0, t⟩
            split at hu <;> split at hu <;> omega
          · rw [if_pos ⟨hj, h0⟩] at hu
            split at hu <;> omega
        · have : z = false := by cases z <;> simp_all
          subst this
          rw [if_neg (c := j < n ∧ bI false ≠ 0) (fun t => t.2 rfl)] at hu
          omega)
      rw [e4] at this
      exact this
theorem op_measure {l : Launch} {G : Gv} {sc : Sc} {ia : Ia} {la : La} (hR : Rel sc ia) (i v : Int32) (z : Bool) : OpI l G yX5_measure wsX5_measure yX6_measure wsX6_measure [.int i, .int v, .int (bI z)] sc ia la := by
  obtain ⟨n, R, K, m, d, hS, hN, hSh, hPa, hDb⟩ := id hR
  obtain ⟨hn1, hn32⟩ := hN.1.le
  obtain ⟨g1, ⟨e1, e2, e3, e4, e5, e6, e7⟩, g3, g4, g5, g6, g7, g8, g9⟩ := id hN
  rcases o_has i (n := n) (by omega) with h | ⟨j, hj, rfl⟩
  · exact opI (c_X5_measure_no l G sc ia la i (by rw [hS.1]; exact h) v z) (c_X6_measure_no l G sc ia la n hS.2.1 hn32 hn1 i h v z) rfl hR
  · rcases o_bool (s_out v (-1000000) 1000000) with h | h
    · refine opI (c_X5_measure_ok l G sc ia la n hS.1 hn32 j hj v z h) (c_X6_measure_ok l G sc _ la n hS.2.1 hn32 hn1 j hj v z h) ?_ ⟨n, R, K, m, d, hS, ?_, ?_, ?_, ?_⟩
      · show (if ia 33 j = 0 then (0 : Int32) else 1) = if ia 7 j = 0 then 0 else 1
        rw [e5]
      · refine ⟨g1, ⟨e1, e2, e3, e4, ?_, ?_, e7⟩, g3, g4, g5, g6, g7, ?_, g9⟩
        · show upd (ia 33) j (bI z) = upd (ia 7) j (bI z)
          rw [e5]
        · show upd (ia 34) j _ = upd (ia 4) j _
          rw [e6]
        · intro k h1 h2
          show upd (ia 7) j (bI z) k = 0
          rw [pk_un (by omega)]
          exact g8 k h1 h2
      · exact hSh.keep (fun a h => by rw [up_ne2 (by omega) (by omega), up_ne2 (by omega) (by omega)])
      · exact hPa.keep (fun a h => by rw [up_ne2 (by omega) (by omega), up_ne2 (by omega) (by omega)])
      · exact hDb.keep (fun a h => by rw [up_ne2 (by omega) (by omega), up_ne2 (by omega) (by omega)])
    · exact opI (c_X5_measure_out l G sc ia la n hS.1 hn32 j hj v z h) (c_X6_measure_out l G sc ia la n hS.2.1 hn32 hn1 j hj v z h) rfl hR
/-! net -/
theorem fill_eq {f : Nat → Int32} {k : Nat} {v : Int32} (j : Nat) : f_fill v f k j = if j < k then v else f j := by
  by_cases h : j < k
  · rw [if_pos h, f_fill_at v f h]
  · rw [if_neg h, f_fill_ge v f (by omega)]
theorem fa_0 {f : Nat → Int32} (j : Nat) : ∀ k, (∀ i, i < k → f i = 0) → r_fa f j k = 0
  | 0, _ => rfl
  | k + 1, h => by
    show r_fa f j k + f k * _ = 0
    rw [fa_0 j k (fun i hi => h i (by omega)), h k (by omega)]
    simp
theorem cn_0 {p : Nat → Bool} : ∀ n, (∀ j, j < n → p j = false) → s_cn p n = 0
  | 0, _ => rfl
  | n + 1, h => by
    show (if p n = true then _ else s_cn p n) = 0
    rw [h n (by omega), cn_0 n (fun j hj => h j (by omega))]
    simp
theorem op_net {l : Launch} {G : Gv} {sc : Sc} {ia : Ia} {la : La} (hR : Rel sc ia) (k : Int32) : OpI l G yX5_net wsX5_net yX6_net wsX6_net [.int k] sc ia la := by
  obtain ⟨n, R, K, m, d, hS, hN, hSh, hPa, hDb⟩ := id hR
  obtain ⟨g1, ⟨e1, e2, e3, e4, e5, e6, e7⟩, g3, g4, g5, g6, g7, g8, g9⟩ := id hN
  rcases o_bool (s_out k 1 5) with h | h
  · obtain ⟨t, t1, t5, rfl⟩ := o_out (a := 1) (b := 5) (by decide) (by decide) h
    have hsh : ∃ n', R_num n' ∧ (1 : Int32) <<< (nI t &&& 31) = nI n' := by
      rcases (show t = 1 ∨ t = 2 ∨ t = 3 ∨ t = 4 ∨ t = 5 by omega) with rfl | rfl | rfl | rfl | rfl
      · exact ⟨2, by unfold R_num; omega, by decide⟩
      · exact ⟨4, by unfold R_num; omega, by decide⟩
      · exact ⟨8, by unfold R_num; omega, by decide⟩
      · exact ⟨16, by unfold R_num; omega, by decide⟩
      · exact ⟨32, by unfold R_num; omega, by decide⟩
    obtain ⟨n', hn', hs⟩ := hsh
    have hl := hn'.le
    refine opI (c_X5_net_ok l G sc ia la (nI t) h) (c_X6_net_ok l G _ _ la (nI t) h) rfl ⟨n', R, K, m, d, ⟨hs, hs, hS.2.2⟩, ?_, ?_, ?_, ?_⟩
    · refine ⟨hn', ⟨?_, ?_, ?_, ?_, ?_, ?_, ?_⟩, ?_, ?_, ?_, ?_, ?_, ?_, ?_⟩
      · show f_fill 0 (ia 29) 32 = f_fill 0 (ia 0) 32
        rw [e1]
      · show f_fill 0 (ia 30) 32 = f_fill 0 (ia 3) 32
        rw [e2]
      · show f_fill 1 (ia 31) 32 = f_fill 1 (ia 2) 32
        rw [e3]
      · show f_fill 0 (ia 32) 32 = f_fill 0 (ia 6) 32
        rw [e4]
      · show f_fill 0 (ia 33) 32 = f_fill 0 (ia 7) 32
        rw [e5]
      · show f_fill 0 (ia 34) 32 = f_fill 0 (ia 4) 32
        rw [e6]
      · show f_fill 100000 (ia 35) 32 = f_fill 100000 (ia 5) 32
        rw [e7]
      · intro j hj
        show -1000 ≤ (f_fill 0 (ia 0) 32 j).toInt ∧ (f_fill 0 (ia 0) 32 j).toInt ≤ 1000
        rw [f_fill_at 0 (ia 0) hj]; decide
      · intro j hj
        show f_fill 0 (ia 1) 32 j = r_fa (f_fill 0 (ia 0) 32) j n'
        rw [f_fill_at 0 (ia 1) (by omega), fa_0 j n' (fun i hi => f_fill_at 0 (ia 0) (by omega))]
      · intro j hj
        show ¬ f_fill 1 (ia 2) 32 j = 0
        rw [f_fill_at 1 (ia 2) hj]; decide
      · intro j hj
        show -1000000 ≤ (f_fill 0 (ia 3) 32 j).toInt ∧ (f_fill 0 (ia 3) 32 j).toInt ≤ 1000000
        rw [f_fill_at 0 (ia 3) hj]; decide
      · exact fun j _ hj => f_fill_at 0 (ia 6) hj
      · exact fun j _ hj => f_fill_at 0 (ia 7) hj
      · have : s_cn (nz (f_fill 0 (ia 6) 32)) n' = 0 := cn_0 n' (fun j hj => by simp [nz, f_fill_at 0 (ia 6) (show j < 32 by omega)])
        show s_cn (nz (f_fill 0 (ia 6) 32)) n' ≤ 5
        omega
    · exact hSh.keep (fun a h => by unfold a_mod a_net; rw [if_neg (by omega), if_neg (by omega), if_neg (by omega), if_neg (by omega), if_neg (by omega), if_neg (by omega), if_neg (by omega)]; rw [if_neg (by omega), if_neg (by omega), if_neg (by omega), if_neg (by omega), if_neg (by omega), if_neg (by omega), if_neg (by omega), if_neg (by omega)])
    · exact hPa.keep (fun a h => by unfold a_mod a_net; rw [if_neg (by omega), if_neg (by omega), if_neg (by omega), if_neg (by omega), if_neg (by omega), if_neg (by omega), if_neg (by omega)]; rw [if_neg (by omega), if_neg (by omega), if_neg (by omega), if_neg (by omega), if_neg (by omega), if_neg (by omega), if_neg (by omega), if_neg (by omega)])
    · exact hDb.keep (fun a h => by unfold a_mod a_net; rw [if_neg (by omega), if_neg (by omega), if_neg (by omega), if_neg (by omega), if_neg (by omega), if_neg (by omega), if_neg (by omega)]; rw [if_neg (by omega), if_neg (by omega), if_neg (by omega), if_neg (by omega), if_neg (by omega), if_neg (by omega), if_neg (by omega), if_neg (by omega)])
  · exact opI (c_X5_net_out l G sc ia la k h) (c_X6_net_out l G sc ia la k h) rfl hR
/-! sheet -/
theorem rz_eq {f : Nat → Int32} : ∀ k j, r_z f k j = if j < k then 0 else f j
  | 0, j => by simp [r_z]
  | k + 1, j => by
    show upd (r_z f k) k 0 j = _
    by_cases e : j = k
    · subst e; rw [pk_us]; simp
    · rw [pk_un e, rz_eq k j]
      by_cases h : j < k
      · rw [if_pos h, if_pos (by omega)]
      · rw [if_neg h, if_neg (by omega)]
theorem op_sheet {l : Launch} {G : Gv} {sc : Sc} {ia : Ia} {la : La} (hR : Rel sc ia) (r c : Int32) : OpI l G yX5_sheet wsX5_sheet yX6_sheet wsX6_sheet [.int r, .int c] sc ia la := by
  obtain ⟨n, R, K, m, d, hS, hN, hSh, hPa, hDb⟩ := id hR
  rcases o_bool (s_out r 2 8) with h | h
  · rcases o_bool (s_out c 1 8) with h2 | h2
    · obtain ⟨R', r1, r2, rfl⟩ := o_out (a := 2) (b := 8) (by decide) (by decide) h
      obtain ⟨K', k1, k2, rfl⟩ := o_out (a := 1) (b := 8) (by decide) (by decide) h2
      have hk : ∀ a, ¬ (10 ≤ a ∧ a < 19) → a_sh ia 9 0 a = ia a := fun a h => by
        unfold a_sh; rw [if_neg (by omega)]; split <;> rfl
      refine opI (c_X5_sheet_ok l G sc ia la _ _ h h2) (c_X6_sheet_ok l G _ _ la _ _ h h2) rfl ⟨n, R', K', m, d, ⟨hS.1, hS.2.1, rfl, rfl, rfl, rfl, hS.2.2.2.2.2.2⟩, ?_, ⟨r1, r2, k1, k2, fun r hr c hc => ?_⟩, ?_, ?_⟩
      · exact hN.keep (fun a h => by rw [va_up_ne _ _ (by omega)]; exact hk a (by omega))
      · show r_z (a_sh ia 9 0 38) 81 (9 * r + c) = _
        rw [rz_eq, if_pos (by omega), va_up_ne _ _ (by omega)]
        unfold a_sh
        rw [if_pos (by omega), f_fill_at 0 _ hc]
      · exact hPa.keep (fun a h => by rw [va_up_ne _ _ (by omega)]; exact hk a (by omega))
      · exact hDb.keep (fun a h => by rw [va_up_ne _ _ (by omega)]; exact hk a (by omega))
    · exact opI (c_X5_sheet_col l G sc ia la r c h h2) (c_X6_sheet_col l G sc ia la r c h h2) rfl hR
  · exact opI (c_X5_sheet_row l G sc ia la r c h) (c_X6_sheet_row l G sc ia la r c h) rfl hR
theorem hold_cases (r c : Int32) {R K : Nat} (hR : R ≤ 8) (hK : K ≤ 8) : (s_hold r c (nI R) (nI K) = false ∧ r_hold r c (nI R) (nI K) = false) ∨ ∃ a b, a ≤ R ∧ b ≤ K ∧ ¬ (a = R ∧ b = K) ∧ r = nI a ∧ c = nI b ∧ s_hold r c (nI R) (nI K) = true := by
  have z0 : (0 : Int32).toInt = 0 := by decide
  have z1 : (0 : Int64).toInt = 0 := by decide
  have key : ∀ b : Bool, s_hold r c (nI R) (nI K) = b ↔ decide (0 ≤ r.toInt ∧ r.toInt ≤ R ∧ 0 ≤ c.toInt ∧ c.toInt ≤ K ∧ ¬ (r.toInt = R ∧ c.toInt = K)) = b := by
    intro b
    have : s_hold r c (nI R) (nI K) = decide (0 ≤ r.toInt ∧ r.toInt ≤ R ∧ 0 ≤ c.toInt ∧ c.toInt ≤ K ∧ ¬ (r.toInt = R ∧ c.toInt = K)) := by
      rw [Bool.eq_iff_iff]
      unfold s_hold
      simp only [Bool.and_eq_true, Bool.or_eq_true, Bool.not_eq_true', decide_eq_true_eq, decide_eq_false_iff_not, Int32.lt_iff_toInt_lt, Int32.le_iff_toInt_le, nI_toInt (show R < 2 ^ 31 by omega), nI_toInt (show K < 2 ^ 31 by omega), z0]
      omega
    rw [this]
  have key2 : r_hold r c (nI R) (nI K) = decide (0 ≤ r.toInt ∧ r.toInt ≤ R ∧ 0 ≤ c.toInt ∧ c.toInt ≤ K ∧ ¬ (r.toInt = R ∧ c.toInt = K)) := by
    have er : (r = nI R) ↔ r.toInt = R := by rw [← Int32.toInt_inj, nI_toInt (show R < 2 ^ 31 by omega)]
    have ec : (c = nI K) ↔ c.toInt = K := by rw [← Int32.toInt_inj, nI_toInt (show K < 2 ^ 31 by omega)]
    rw [Bool.eq_iff_iff]
    unfold r_hold r_in
    simp only [Bool.and_eq_true, Bool.not_eq_true', Bool.and_eq_false_iff, decide_eq_true_eq, decide_eq_false_iff_not, Int64.lt_iff_toInt_lt, Int32.toInt_toInt64, nI_toInt (show R < 2 ^ 31 by omega), nI_toInt (show K < 2 ^ 31 by omega), z1, er, ec]
    omega
  by_cases q : 0 ≤ r.toInt ∧ r.toInt ≤ R ∧ 0 ≤ c.toInt ∧ c.toInt ≤ K ∧ ¬ (r.toInt = R ∧ c.toInt = K)
  · right
    refine ⟨r.toInt.toNat, c.toInt.toNat, by omega, by omega, by omega, ?_, ?_, (key true).mpr (decide_eq_true q)⟩
    · exact Int32.toInt_inj.mp (by rw [nI_toInt (by omega)]; omega)
    · exact Int32.toInt_inj.mp (by rw [nI_toInt (by omega)]; omega)
  · left
    exact ⟨(key false).mpr (decide_eq_false q), key2.trans (decide_eq_false q)⟩
theorem op_cell {l : Launch} {G : Gv} {sc : Sc} {ia : Ia} {la : La} (hR : Rel sc ia) (r c v : Int32) : OpI l G yX5_cell wsX5_cell yX6_cell wsX6_cell [.int r, .int c, .int v] sc ia la := by
  obtain ⟨n, R, K, m, d, hS, hN, hSh, hPa, hDb⟩ := id hR
  obtain ⟨s0, s7, s3, s10, s4, s11, s5, s12, s6, s17⟩ := id hS
  obtain ⟨r2, r8, k1, k8, hc⟩ := id hSh
  rcases hold_cases r c r8 k8 with ⟨h1, h2⟩ | ⟨a, b, ha, hb, hab, rfl, rfl, h1⟩
  · exact opI (c_X5_cell_no l G sc ia la r c v (by rw [s3, s4]; exact h1)) (c_X6_cell_no l G sc ia la r c v (by rw [s10, s11]; exact h2)) rfl hR
  · rcases o_bool (s_out v (-1000) 1000) with h | h
    · refine opI (c_X5_cell_ok l G sc ia la a b (by omega) (by omega) (by rw [s3, s4]; exact h1) v h) (c_X6_cell_ok l G sc _ la R K s10 s11 (by omega) r8 k1 k8 a b ha hb hab v h) ?_ ⟨n, R, K, m, d, hS, ?_, ⟨r2, r8, k1, k8, fun r hr c9 hc9 => ?_⟩, ?_, ?_⟩
      · rw [va_up_ne _ _ (by omega)]
        exact hc a (by omega) b (by omega)
      · exact hN.keep (fun x h => up_ne2 (by omega) (by omega))
      · rw [show (va_up (va_up ia (10 + a) (upd (ia (10 + a)) b v)) 38 (upd (va_up ia (10 + a) (upd (ia (10 + a)) b v) 38) (9 * a + b) v)) 38 = upd (va_up ia (10 + a) (upd (ia (10 + a)) b v) 38) (9 * a + b) v from va_up_self _ _ _, va_up_ne _ _ (show 38 ≠ 10 + a by omega), va_up_ne _ _ (show 10 + r ≠ 38 by omega)]
        by_cases e : r = a
        · subst e
          rw [va_up_self]
          by_cases e2 : c9 = b
          · subst e2; rw [pk_us, pk_us]
          · rw [pk_un (by omega), pk_un e2]; exact hc r hr c9 hc9
        · rw [pk_un (by omega), va_up_ne _ _ (by omega)]
          exact hc r hr c9 hc9
      · exact hPa.keep (fun x h => up_ne2 (by omega) (by omega))
      · exact hDb.keep (fun x h => up_ne2 (by omega) (by omega))
    · exact opI (c_X5_cell_out l G sc ia la a b (by omega) (by omega) (by rw [s3, s4]; exact h1) v h) (c_X6_cell_out l G sc ia la R K s10 s11 (by omega) r8 k1 k8 a b ha hb hab v h) rfl hR
theorem xor_sign (x y : Int32) (hy : 0 ≤ y) : (0 ≤ x ^^^ y) ↔ 0 ≤ x := by
  have h : ∀ z : Int32, (0 ≤ z) ↔ z.toBitVec.msb = false := by
    intro z
    rw [Int32.le_iff_toBitVec_sle]
    exact BitVec.zero_sle_iff_msb_eq_false
  rw [h] at hy ⊢
  rw [h, Int32.toBitVec_xor, BitVec.msb_xor, hy, Bool.xor_false]
theorem fd_fl (x y : Int32) (hy : 0 ≤ y) : r_fl x y = s_fd x y := by
  unfold r_fl s_fd
  by_cases h : 0 ≤ x
  · rw [if_pos h, if_pos ((xor_sign x y hy).mpr h)]
  · rw [if_neg h, if_neg (fun q => h ((xor_sign x y hy).mp q))]
    have : (x - x / y * y = 0) ↔ (x / y * y = x) := by
      constructor
      · intro q; grind
      · intro q; grind
    by_cases q : x / y * y = x
    · rw [if_pos q, if_pos (this.mpr q)]
    · rw [if_neg q, if_neg (fun t => q (this.mp t))]
theorem op_closed {l : Launch} {G : Gv} {sc : Sc} {ia : Ia} {la : La} (hR : Rel sc ia) (r c : Int32) : OpI l G yX5_closed wsX5_closed yX6_closed wsX6_closed [.int r, .int c] sc ia la := by
  obtain ⟨n, R, K, m, d, hS, hN, hSh, hPa, hDb⟩ := id hR
  obtain ⟨s0, s7, s3, s10, s4, s11, s5, s12, s6, s17⟩ := id hS
  obtain ⟨r2, r8, k1, k8, hc⟩ := id hSh
  rcases o_bool (s_out r 0 (nI R)) with h | h
  · rcases o_bool (s_out c 0 (nI K - 1)) with h2 | h2
    · obtain ⟨a, a1, a2, rfl⟩ := o_out (a := 0) (b := R) (by decide) (by omega) h
      have h2' : s_out c (nI 0) (nI (K - 1)) = false := by rw [← pk_sub (show 1 ≤ K from k1)]; exact h2
      obtain ⟨b, b1, b2, rfl⟩ := o_out (a := 0) (b := K - 1) (by decide) (by omega) h2'
      refine opI (c_X5_closed_ok l G sc ia la R K s3 s4 (by omega) r8 k8 a b a2 (by omega) h h2) (c_X6_closed_ok l G sc ia la R K s10 s11 (by omega) r8 k1 k8 a b a2 (by omega)) ?_ hR
      unfold s_clo
      have q := hc 0 (by omega) b (by omega)
      rw [show 9 * 0 + b = b by omega] at q
      rw [hc a (by omega) b (by omega), hc R (by omega) b (by omega), q, fd_fl _ _ (nI_pos' (by omega))]
    · exact opI (c_X5_closed_col l G sc ia la r c (by rw [s3]; exact h) (by rw [s4]; exact h2)) (c_X6_closed_col l G sc ia la r c (by rw [s10]; exact h) (by rw [s11]; exact h2)) rfl hR
  · exact opI (c_X5_closed_row l G sc ia la r c (by rw [s3]; exact h)) (c_X6_closed_row l G sc ia la r c (by rw [s10]; exact h)) rfl hR
theorem op_tied {l : Launch} {G : Gv} {sc : Sc} {ia : Ia} {la : La} (hR : Rel sc ia) (r c : Int32) : OpI l G yX5_tied wsX5_tied yX6_tied wsX6_tied [.int r, .int c] sc ia la := by
  obtain ⟨n, R, K, m, d, hS, hN, hSh, hPa, hDb⟩ := id hR
  obtain ⟨s0, s7, s3, s10, s4, s11, s5, s12, s6, s17⟩ := id hS
  obtain ⟨r2, r8, k1, k8, hc⟩ := id hSh
  rcases o_bool (s_out r 0 (nI R - 1)) with h | h
  · rcases o_bool (s_out c 0 (nI K - 1)) with h2 | h2
    · have h' : s_out r (nI 0) (nI (R - 1)) = false := by rw [← pk_sub (show 1 ≤ R by omega)]; exact h
      obtain ⟨a, a1, a2, rfl⟩ := o_out (a := 0) (b := R - 1) (by decide) (by omega) h'
      have h2' : s_out c (nI 0) (nI (K - 1)) = false := by rw [← pk_sub (show 1 ≤ K from k1)]; exact h2
      obtain ⟨b, b1, b2, rfl⟩ := o_out (a := 0) (b := K - 1) (by decide) (by omega) h2'
      refine opI (c_X5_tied_ok l G sc ia la R K s3 s4 (by omega) r8 k8 a b (by omega) (by omega) h h2) (c_X6_tied_ok l G sc ia la R K s10 s11 (by omega) r8 k1 k8 a b (by omega) (by omega)) ?_ hR
      unfold s_tie
      have q := hc a (by omega) 0 (by omega)
      rw [show 9 * a + 0 = 9 * a by omega] at q
      rw [hc a (by omega) b (by omega), hc a (by omega) K (by omega), q]
    · exact opI (c_X5_tied_col l G sc ia la r c (by rw [s3]; exact h) (by rw [s4]; exact h2)) (c_X6_tied_col l G sc ia la r c (by rw [s10]; exact h) (by rw [s11]; exact h2)) rfl hR
  · exact opI (c_X5_tied_row l G sc ia la r c (by rw [s3]; exact h)) (c_X6_tied_row l G sc ia la r c (by rw [s10]; exact h)) rfl hR
