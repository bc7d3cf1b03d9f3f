/-! counts of pairs -/
def t_e (ia : Ia) (a b : Nat) : Nat := if ia (19 + a) b = 0 then 0 else 1
theorem cn_s (p : Nat → Bool) (n : Nat) : s_cn p (n + 1) = s_cn p n + (if p n = true then 1 else 0) := by
  show (if p n = true then _ else _) = _
  split <;> rfl
theorem cn_5 (p : Nat → Bool) (n : Nat) : s_cn p (n + 5) = s_cn p n + (if p n = true then 1 else 0) + (if p (n + 1) = true then 1 else 0) + (if p (n + 2) = true then 1 else 0) + (if p (n + 3) = true then 1 else 0) + (if p (n + 4) = true then 1 else 0) := by
  rw [show n + 5 = n + 4 + 1 from rfl, cn_s, show n + 4 = n + 3 + 1 from rfl, cn_s, show n + 3 = n + 2 + 1 from rfl, cn_s, show n + 2 = n + 1 + 1 from rfl, cn_s, cn_s]
theorem cki_eq {m : Nat} {ia : Ia} (h : R_pa m ia) {a : Nat} (ha : a < 5) (x : Nat) : ∀ k, a + 1 + k ≤ 5 → s_cki ia a (nI x) k = nI (x + (match k with | 0 => 0 | 1 => t_e ia a (a + 1) | 2 => t_e ia a (a + 1) + t_e ia a (a + 2) | 3 => t_e ia a (a + 1) + t_e ia a (a + 2) + t_e ia a (a + 3) | _ => t_e ia a (a + 1) + t_e ia a (a + 2) + t_e ia a (a + 3) + t_e ia a (a + 4))) := by
  have hv : ∀ b, b < 5 → ia (19 + a) b = nI (t_e ia a b) := by
    intro b hb
    obtain ⟨-, -, q, -⟩ := h.2.2 a ha b hb
    unfold t_e
    rcases q with q | q <;> rw [q] <;> decide
  intro k hk
  rcases (show k = 0 ∨ k = 1 ∨ k = 2 ∨ k = 3 ∨ k = 4 by omega) with rfl | rfl | rfl | rfl | rfl
  · rfl
  · show nI x + ia (19 + a) (a + 1 + 0) = nI (x + t_e ia a (a + 1))
    rw [show a + 1 + 0 = a + 1 from rfl, hv (a + 1) (by omega), nI_add]
  · show nI x + ia (19 + a) (a + 1 + 0) + ia (19 + a) (a + 1 + 1) = nI (x + (t_e ia a (a + 1) + t_e ia a (a + 2)))
    rw [show a + 1 + 0 = a + 1 from rfl, show a + 1 + 1 = a + 2 from rfl, hv (a + 1) (by omega), hv (a + 2) (by omega), nI_add, nI_add, Nat.add_assoc]
  · show nI x + ia (19 + a) (a + 1 + 0) + ia (19 + a) (a + 1 + 1) + ia (19 + a) (a + 1 + 2) = nI (x + (t_e ia a (a + 1) + t_e ia a (a + 2) + t_e ia a (a + 3)))
    rw [show a + 1 + 0 = a + 1 from rfl, show a + 1 + 1 = a + 2 from rfl, show a + 1 + 2 = a + 3 from rfl, hv (a + 1) (by omega), hv (a + 2) (by omega), hv (a + 3) (by omega), nI_add, nI_add, nI_add]
    congr 1; omega
  · show nI x + ia (19 + a) (a + 1 + 0) + ia (19 + a) (a + 1 + 1) + ia (19 + a) (a + 1 + 2) + ia (19 + a) (a + 1 + 3) = nI (x + (t_e ia a (a + 1) + t_e ia a (a + 2) + t_e ia a (a + 3) + t_e ia a (a + 4)))
    rw [show a + 1 + 0 = a + 1 from rfl, show a + 1 + 1 = a + 2 from rfl, show a + 1 + 2 = a + 3 from rfl, show a + 1 + 3 = a + 4 from rfl, hv (a + 1) (by omega), hv (a + 2) (by omega), hv (a + 3) (by omega), hv (a + 4) (by omega), nI_add, nI_add, nI_add, nI_add]
    congr 1; omega
theorem cko_eq {m : Nat} {ia : Ia} (h : R_pa m ia) : r_ct (ia 39) 25 / 2 = s_cko ia m m := by
  obtain ⟨m3, m5, hp⟩ := id h
  have e2 : ∀ a b, a < 5 → b < 5 → t_e ia a b = t_e ia b a ∧ (a = b → t_e ia a b = 0) ∧ (m ≤ b → t_e ia a b = 0) ∧ t_e ia a b ≤ 1 ∧ (if nz (ia 39) (5 * a + b) = true then 1 else 0) = t_e ia a b := by
    intro a b ha hb
    obtain ⟨q1, q2, q3, q4, q5, q6⟩ := hp a ha b hb
    unfold t_e
    rw [← q4]
    refine ⟨rfl, fun z => by rw [q5 z]; rfl, fun z => by rw [q6 z]; rfl, by split <;> omega, ?_⟩
    simp only [nz, q1]
    by_cases z : ia (19 + a) b = 0 <;> simp [z]
  rw [rct_cn]
  have c25 : s_cn (nz (ia 39)) 25 = 2 * (t_e ia 0 1 + t_e ia 0 2 + t_e ia 0 3 + t_e ia 0 4 + t_e ia 1 2 + t_e ia 1 3 + t_e ia 1 4 + t_e ia 2 3 + t_e ia 2 4 + t_e ia 3 4) := by
    have f : ∀ a b, a < 5 → b < 5 → (if nz (ia 39) (5 * a + b) = true then 1 else 0) = t_e ia a b := fun a b ha hb => (e2 a b ha hb).2.2.2.2
    have z0 := cn_5 (nz (ia 39)) 0
    have z1 := cn_5 (nz (ia 39)) 5
    have z2 := cn_5 (nz (ia 39)) 10
    have z3 := cn_5 (nz (ia 39)) 15
    have z4 := cn_5 (nz (ia 39)) 20
    have f00 := f 0 0 (by omega) (by omega)
    have f01 := f 0 1 (by omega) (by omega)
    have f02 := f 0 2 (by omega) (by omega)
    have f03 := f 0 3 (by omega) (by omega)
    have f04 := f 0 4 (by omega) (by omega)
    have f10 := f 1 0 (by omega) (by omega)
    have f11 := f 1 1 (by omega) (by omega)
    have f12 := f 1 2 (by omega) (by omega)
    have f13 := f 1 3 (by omega) (by omega)
    have f14 := f 1 4 (by omega) (by omega)
    have f20 := f 2 0 (by omega) (by omega)
    have f21 := f 2 1 (by omega) (by omega)
    have f22 := f 2 2 (by omega) (by omega)
    have f23 := f 2 3 (by omega) (by omega)
    have f24 := f 2 4 (by omega) (by omega)
    have f30 := f 3 0 (by omega) (by omega)
    have f31 := f 3 1 (by omega) (by omega)
    have f32 := f 3 2 (by omega) (by omega)
    have f33 := f 3 3 (by omega) (by omega)
    have f34 := f 3 4 (by omega) (by omega)
    have f40 := f 4 0 (by omega) (by omega)
    have f41 := f 4 1 (by omega) (by omega)
    have f42 := f 4 2 (by omega) (by omega)
    have f43 := f 4 3 (by omega) (by omega)
    have f44 := f 4 4 (by omega) (by omega)
    have s01 := (e2 0 1 (by omega) (by omega)).1
    have s02 := (e2 0 2 (by omega) (by omega)).1
    have s03 := (e2 0 3 (by omega) (by omega)).1
    have s04 := (e2 0 4 (by omega) (by omega)).1
    have s12 := (e2 1 2 (by omega) (by omega)).1
    have s13 := (e2 1 3 (by omega) (by omega)).1
    have s14 := (e2 1 4 (by omega) (by omega)).1
    have s23 := (e2 2 3 (by omega) (by omega)).1
    have s24 := (e2 2 4 (by omega) (by omega)).1
    have s34 := (e2 3 4 (by omega) (by omega)).1
    have d0 := (e2 0 0 (by omega) (by omega)).2.1 rfl
    have d1 := (e2 1 1 (by omega) (by omega)).2.1 rfl
    have d2 := (e2 2 2 (by omega) (by omega)).2.1 rfl
    have d3 := (e2 3 3 (by omega) (by omega)).2.1 rfl
    have d4 := (e2 4 4 (by omega) (by omega)).2.1 rfl
    have n0 : s_cn (nz (ia 39)) 0 = 0 := rfl
    simp only [Nat.reduceMul, Nat.reduceAdd, Nat.zero_add, Nat.add_zero] at *
    omega
  have b01 := (e2 0 1 (by omega) (by omega)).2.2.2.1
  have b02 := (e2 0 2 (by omega) (by omega)).2.2.2.1
  have b03 := (e2 0 3 (by omega) (by omega)).2.2.2.1
  have b04 := (e2 0 4 (by omega) (by omega)).2.2.2.1
  have b12 := (e2 1 2 (by omega) (by omega)).2.2.2.1
  have b13 := (e2 1 3 (by omega) (by omega)).2.2.2.1
  have b14 := (e2 1 4 (by omega) (by omega)).2.2.2.1
  have b23 := (e2 2 3 (by omega) (by omega)).2.2.2.1
  have b24 := (e2 2 4 (by omega) (by omega)).2.2.2.1
  have b34 := (e2 3 4 (by omega) (by omega)).2.2.2.1
  rw [show (2 : Int32) = nI 2 from rfl, pk_div (by omega) (by omega) (by omega), c25, Nat.mul_div_cancel_left _ (by omega)]
  rcases (show m = 3 ∨ m = 4 ∨ m = 5 by omega) with rfl | rfl | rfl
  · show _ = s_cki ia 2 (s_cki ia 1 (s_cki ia 0 (nI 0) 2) 1) 0
    rw [cki_eq h (by omega) 0 2 (by omega), cki_eq h (by omega) _ 1 (by omega), cki_eq h (by omega) _ 0 (by omega)]
    have z03 := (e2 0 3 (by omega) (by omega)).2.2.1 (by omega)
    have z04 := (e2 0 4 (by omega) (by omega)).2.2.1 (by omega)
    have z13 := (e2 1 3 (by omega) (by omega)).2.2.1 (by omega)
    have z14 := (e2 1 4 (by omega) (by omega)).2.2.1 (by omega)
    have z23 := (e2 2 3 (by omega) (by omega)).2.2.1 (by omega)
    have z24 := (e2 2 4 (by omega) (by omega)).2.2.1 (by omega)
    have z34 := (e2 3 4 (by omega) (by omega)).2.2.1 (by omega)
    congr 1
    simp only [Nat.reduceAdd, Nat.zero_add]
    omega
  · show _ = s_cki ia 3 (s_cki ia 2 (s_cki ia 1 (s_cki ia 0 (nI 0) 3) 2) 1) 0
    rw [cki_eq h (by omega) 0 3 (by omega), cki_eq h (by omega) _ 2 (by omega), cki_eq h (by omega) _ 1 (by omega), cki_eq h (by omega) _ 0 (by omega)]
    have z04 := (e2 0 4 (by omega) (by omega)).2.2.1 (by omega)
    have z14 := (e2 1 4 (by omega) (by omega)).2.2.1 (by omega)
    have z24 := (e2 2 4 (by omega) (by omega)).2.2.1 (by omega)
    have z34 := (e2 3 4 (by omega) (by omega)).2.2.1 (by omega)
    congr 1
    simp only [Nat.reduceAdd, Nat.zero_add]
    omega
  · show _ = s_cki ia 4 (s_cki ia 3 (s_cki ia 2 (s_cki ia 1 (s_cki ia 0 (nI 0) 4) 3) 2) 1) 0
    rw [cki_eq h (by omega) 0 4 (by omega), cki_eq h (by omega) _ 3 (by omega), cki_eq h (by omega) _ 2 (by omega), cki_eq h (by omega) _ 1 (by omega), cki_eq h (by omega) _ 0 (by omega)]
    congr 1
    simp only [Nat.reduceAdd, Nat.zero_add]
    omega
theorem op_count {l : Launch} {G : Gv} {sc : Sc} {ia : Ia} {la : La} (hR : Rel sc ia) (k : Int32) : OpI l G yX5_count wsX5_count yX6_count wsX6_count [.int k] sc ia la := by
  obtain ⟨n, R, K, m, d, hS, hN, hSh, hPa, hDb⟩ := id hR
  obtain ⟨hn1, hn32⟩ := hN.1.le
  obtain ⟨s0, s7, s3, s10, s4, s11, s5, s12, s6, s17⟩ := id hS
  obtain ⟨g1, ⟨e1, e2, e3, e4, e5, e6, e7⟩, g3, g4, g5, g6, g7, g8, g9⟩ := id hN
  refine opI (c_X5_count_ok l G sc ia la n s0 m s5 hPa.2.1 k) (c_X6_count_ok l G sc ia la n s7 hn32 k) ?_ hR
  have q1 : r_ct (ia 32) n = s_ct (ia 6) 32 := by rw [e4, rct_cn, ct_cn, cn_32 hn32 g7]
  have q2 : r_ct (ia 33) n = s_ct (ia 7) 32 := by rw [e5, rct_cn, ct_cn, cn_32 hn32 g8]
  rw [q1, q2, cko_eq hPa, s0, s7, s3, s10, s4, s11, s5, s12, s6, s17]
/-! digest -/
theorem nf_eq {ia : Ia} (h : R_e7 ia) (x : Int64) : ∀ k, r_nf ia x k = s_nf ia x k
  | 0 => rfl
  | k + 1 => by
    obtain ⟨e1, e2, e3, e4, e5, e6, e7⟩ := h
    show r_nf1 ia (r_nf ia x k) k = s_nf1 ia (s_nf ia x k) k
    rw [nf_eq ⟨e1, e2, e3, e4, e5, e6, e7⟩ x k]
    unfold r_nf1 s_nf1 s_fk
    dsimp only
    rw [e1, e2, e3, e4, e5, e6, e7]
    have z0 : (0 : Int32).toInt64 = 0 := by decide
    have z1 : (1 : Int32).toInt64 = 1 := by decide
    by_cases q : ia 7 k = 0 <;> by_cases q2 : ia 6 k = 0 <;> simp only [q, q2, if_true, if_false, z0, z1]
theorem sfc_eq {R K : Nat} {ia : Ia} (h : R_sh R K ia) {r : Nat} (hr : r < 9) (x : Int64) : ∀ k, k ≤ 9 → r_sfc (ia 38) r x k = s_sfc ia r x k
  | 0, _ => rfl
  | k + 1, hk => by
    show s_fo (r_sfc (ia 38) r x k) (ia 38 (9 * r + k)).toInt64 = s_fo (s_sfc ia r x k) (ia (10 + r) k).toInt64
    rw [sfc_eq h hr x k (by omega), h.2.2.2.2 r hr k (by omega)]
theorem sfr_eq {R K : Nat} {ia : Ia} (h : R_sh R K ia) (x : Int64) : ∀ k, k ≤ 9 → r_sfr (ia 38) K x k = s_sfr ia K x k
  | 0, _ => rfl
  | k + 1, hk => by
    show r_sfc (ia 38) k (r_sfr (ia 38) K x k) K = s_sfc ia k (s_sfr ia K x k) K
    rw [sfr_eq h x k (by omega), sfc_eq h (by omega) _ K (by have := h.2.2.2.1; omega)]
theorem sft_eq {R K : Nat} {ia : Ia} (h : R_sh R K ia) (x : Int64) : ∀ k, k ≤ 9 → r_sft (ia 38) K x k = s_sft ia K x k
  | 0, _ => rfl
  | k + 1, hk => by
    show s_fo (r_sft (ia 38) K x k) (ia 38 (9 * k + K)).toInt64 = s_fo (s_sft ia K x k) (ia (10 + k) K).toInt64
    rw [sft_eq h x k (by omega), h.2.2.2.2 k (by omega) K (by have := h.2.2.2.1; omega)]
theorem pfi_eq {m : Nat} {ia : Ia} (h : R_pa m ia) {a : Nat} (ha : a < 5) (x : Int64) : ∀ k, a + 1 + k ≤ 5 → r_pfi (ia 39) (ia 40) a x k = s_pfi ia a x k
  | 0, _ => rfl
  | k + 1, hk => by
    show r_pf1 (ia 39) (ia 40) (r_pfi (ia 39) (ia 40) a x k) (5 * a + (a + 1 + k)) = s_fk (s_pfi ia a x k) (bI (decide (ia (19 + a) (a + 1 + k) = 1))) (ia (24 + a) (a + 1 + k))
    rw [pfi_eq h ha x k (by omega)]
    obtain ⟨q1, q2, q3, q4, q5, q6⟩ := h.2.2 a ha (a + 1 + k) (by omega)
    unfold r_pf1 s_fk
    rw [q1, q2]
    rcases q3 with q | q <;> rw [q]
    · rfl
    · rfl
theorem pfo_eq {m : Nat} {ia : Ia} (h : R_pa m ia) (x : Int64) : ∀ k, k ≤ m → r_pfo (ia 39) (ia 40) m x k = s_pfo ia m x k
  | 0, _ => rfl
  | k + 1, hk => by
    have m5 := h.2.1
    show r_pfi (ia 39) (ia 40) k (r_pfo (ia 39) (ia 40) m x k) (m - (k + 1)) = s_pfi ia k (s_pfo ia m x k) (m - (k + 1))
    rw [pfo_eq h x k (by omega), pfi_eq h (by omega) _ _ (by omega)]
theorem op_digest {l : Launch} {G : Gv} {sc : Sc} {ia : Ia} {la : La} (hR : Rel sc ia) : OpL l G yX5_digest wsX5_digest yX6_digest wsX6_digest [] sc ia la := by
  obtain ⟨n, R, K, m, d, hS, hN, hSh, hPa, hDb⟩ := id hR
  obtain ⟨hn1, hn32⟩ := hN.1.le
  obtain ⟨s0, s7, s3, s10, s4, s11, s5, s12, s6, s17⟩ := id hS
  obtain ⟨r2, r8, k1, k8, hc⟩ := id hSh
  refine opL (c_X5_digest_ok l G sc ia la n s0 hn32 R K s3 s4 (by omega) r8 k8 m s5 hPa.2.1 d s6 hDb.1) (c_X6_digest_ok l G sc ia la n s7 hn32 R K s10 s11 (by omega) r8 k1 k8 m s12 (by have := hPa.1; omega) hPa.2.1 d s17 hDb.1) ?_ hR
  rw [hDb.2.1, pfo_eq hPa _ m (Nat.le_refl m), sft_eq hSh _ R (by omega), sfr_eq hSh _ (R + 1) (by omega), nf_eq hN.2.1]
  rfl
