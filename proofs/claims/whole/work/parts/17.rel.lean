/-! THE RELATION between class and reference, and what an operation owes -/
def R_num (n : Nat) : Prop := n = 2 ∨ n = 4 ∨ n = 8 ∨ n = 16 ∨ n = 32
def R_sc (sc : Sc) (n R K m d : Nat) : Prop := sc 0 = nI n ∧ sc 7 = nI n ∧ sc 3 = nI R ∧ sc 10 = nI R ∧ sc 4 = nI K ∧ sc 11 = nI K ∧ sc 5 = nI m ∧ sc 12 = nI m ∧ sc 6 = nI d ∧ sc 17 = nI d
abbrev nz (f : Nat → Int32) : Nat → Bool := fun j => !decide (f j = 0)
def R_e7 (ia : Ia) : Prop := ia 29 = ia 0 ∧ ia 30 = ia 3 ∧ ia 31 = ia 2 ∧ ia 32 = ia 6 ∧ ia 33 = ia 7 ∧ ia 34 = ia 4 ∧ ia 35 = ia 5
def R_nt (n : Nat) (ia : Ia) : Prop := R_num n ∧ R_e7 ia ∧ (∀ j, j < 32 → -1000 ≤ (ia 0 j).toInt ∧ (ia 0 j).toInt ≤ 1000) ∧ (∀ j, j < n → ia 1 j = r_fa (ia 0) j n) ∧ (∀ j, j < 32 → ¬ ia 2 j = 0) ∧ (∀ j, j < 32 → -1000000 ≤ (ia 3 j).toInt ∧ (ia 3 j).toInt ≤ 1000000) ∧ (∀ j, n ≤ j → j < 32 → ia 6 j = 0) ∧ (∀ j, n ≤ j → j < 32 → ia 7 j = 0) ∧ s_cn (nz (ia 6)) n ≤ 5
def R_sh (R K : Nat) (ia : Ia) : Prop := 2 ≤ R ∧ R ≤ 8 ∧ 1 ≤ K ∧ K ≤ 8 ∧ ∀ r, r < 9 → ∀ c, c < 9 → ia 38 (9 * r + c) = ia (10 + r) c
def R_pa (m : Nat) (ia : Ia) : Prop := 3 ≤ m ∧ m ≤ 5 ∧ ∀ a, a < 5 → ∀ b, b < 5 → ia 39 (5 * a + b) = ia (19 + a) b ∧ ia 40 (5 * a + b) = ia (24 + a) b ∧ (ia (19 + a) b = 0 ∨ ia (19 + a) b = 1) ∧ ia (19 + a) b = ia (19 + b) a ∧ (a = b → ia (19 + a) b = 0) ∧ (m ≤ b → ia (19 + a) b = 0)
def R_db (d : Nat) (ia : Ia) : Prop := d ≤ 18 ∧ ia 41 = ia 9 ∧ ∀ j, j < d → 0 ≤ (ia 9 j).toInt ∧ (ia 9 j).toInt ≤ 10000
def Rel (sc : Sc) (ia : Ia) : Prop := ∃ n R K m d, R_sc sc n R K m d ∧ R_nt n ia ∧ R_sh R K ia ∧ R_pa m ia ∧ R_db d ia
abbrev RM : Room := { frames := 7, cells := 0, slots := 0, locals := 250 }
def OpI (l : Launch) (G : Gv) (y5 : MethodName) (w5 : List Cond) (y6 : MethodName) (w6 : List Cond) (a : List Value) (sc : Sc) (ia : Ia) (la : La) : Prop := ∃ (r : Int32) (sc1 : Sc) (ia1 : Ia) (la1 : La) (sc2 : Sc) (ia2 : Ia) (la2 : La), Ct l y5 w5 RM G (.ref (G.2.1 5) :: a) sc ia la (fI r sc1 ia1 la1) ∧ Ct l y6 w6 RM G (.ref (G.2.1 6) :: a) sc1 ia1 la1 (fI r sc2 ia2 la2) ∧ Rel sc2 ia2
def OpL (l : Launch) (G : Gv) (y5 : MethodName) (w5 : List Cond) (y6 : MethodName) (w6 : List Cond) (a : List Value) (sc : Sc) (ia : Ia) (la : La) : Prop := ∃ (r : Int64) (sc1 : Sc) (ia1 : Ia) (la1 : La) (sc2 : Sc) (ia2 : Ia) (la2 : La), Ct l y5 w5 RM G (.ref (G.2.1 5) :: a) sc ia la (fL r sc1 ia1 la1) ∧ Ct l y6 w6 RM G (.ref (G.2.1 6) :: a) sc1 ia1 la1 (fL r sc2 ia2 la2) ∧ Rel sc2 ia2
theorem opI {l : Launch} {G : Gv} {y5 : MethodName} {w5 : List Cond} {y6 : MethodName} {w6 : List Cond} {a : List Value} {sc : Sc} {ia : Ia} {la : La} {r r' : Int32} {sc1 : Sc} {ia1 : Ia} {la1 : La} {sc2 : Sc} {ia2 : Ia} {la2 : La} (h1 : Ct l y5 w5 RM G (.ref (G.2.1 5) :: a) sc ia la (fI r sc1 ia1 la1)) (h2 : Ct l y6 w6 RM G (.ref (G.2.1 6) :: a) sc1 ia1 la1 (fI r' sc2 ia2 la2)) (e : r' = r) (hR : Rel sc2 ia2) : OpI l G y5 w5 y6 w6 a sc ia la := by
  subst e
  exact ⟨_, _, _, _, _, _, _, h1, h2, hR⟩
theorem opL {l : Launch} {G : Gv} {y5 : MethodName} {w5 : List Cond} {y6 : MethodName} {w6 : List Cond} {a : List Value} {sc : Sc} {ia : Ia} {la : La} {r r' : Int64} {sc1 : Sc} {ia1 : Ia} {la1 : La} {sc2 : Sc} {ia2 : Ia} {la2 : La} (h1 : Ct l y5 w5 RM G (.ref (G.2.1 5) :: a) sc ia la (fL r sc1 ia1 la1)) (h2 : Ct l y6 w6 RM G (.ref (G.2.1 6) :: a) sc1 ia1 la1 (fL r' sc2 ia2 la2)) (e : r' = r) (hR : Rel sc2 ia2) : OpL l G y5 w5 y6 w6 a sc ia la := by
  subst e
  exact ⟨_, _, _, _, _, _, _, h1, h2, hR⟩
/-! frames -/
theorem R_sh.keep {R K : Nat} {ia ia' : Ia} (h : R_sh R K ia) (hk : ∀ a, (10 ≤ a ∧ a < 19) ∨ a = 38 → ia' a = ia a) : R_sh R K ia' := by
  obtain ⟨h1, h2, h3, h4, h5⟩ := h
  refine ⟨h1, h2, h3, h4, fun r hr c hc => ?_⟩
  rw [hk 38 (by omega), hk (10 + r) (by omega)]
  exact h5 r hr c hc
theorem R_pa.keep {m : Nat} {ia ia' : Ia} (h : R_pa m ia) (hk : ∀ a, (19 ≤ a ∧ a < 29) ∨ a = 39 ∨ a = 40 → ia' a = ia a) : R_pa m ia' := by
  obtain ⟨h1, h2, h3⟩ := h
  refine ⟨h1, h2, fun a ha b hb => ?_⟩
  rw [hk 39 (by omega), hk 40 (by omega), hk (19 + a) (by omega), hk (24 + a) (by omega), hk (19 + b) (by omega)]
  exact h3 a ha b hb
theorem R_db.keep {d : Nat} {ia ia' : Ia} (h : R_db d ia) (hk : ∀ a, a = 9 ∨ a = 41 → ia' a = ia a) : R_db d ia' := by
  obtain ⟨h1, h2, h3⟩ := h
  refine ⟨h1, ?_, ?_⟩
  · rw [hk 41 (by omega), hk 9 (by omega)]; exact h2
  · rw [hk 9 (by omega)]; exact h3
theorem R_nt.keep {n : Nat} {ia ia' : Ia} (h : R_nt n ia) (hk : ∀ a, a < 8 ∨ (29 ≤ a ∧ a < 36) → ia' a = ia a) : R_nt n ia' := by
  obtain ⟨h1, ⟨e1, e2, e3, e4, e5, e6, e7⟩, h3, h4, h5, h6, h7, h8, h9⟩ := h
  refine ⟨h1, ⟨?_, ?_, ?_, ?_, ?_, ?_, ?_⟩, ?_, ?_, ?_, ?_, ?_, ?_, ?_⟩
  · rw [hk 29 (by omega), hk 0 (by omega)]; exact e1
  · rw [hk 30 (by omega), hk 3 (by omega)]; exact e2
  · rw [hk 31 (by omega), hk 2 (by omega)]; exact e3
  · rw [hk 32 (by omega), hk 6 (by omega)]; exact e4
  · rw [hk 33 (by omega), hk 7 (by omega)]; exact e5
  · rw [hk 34 (by omega), hk 4 (by omega)]; exact e6
  · rw [hk 35 (by omega), hk 5 (by omega)]; exact e7
  · rw [hk 0 (by omega)]; exact h3
  · rw [hk 1 (by omega), hk 0 (by omega)]; exact h4
  · rw [hk 2 (by omega)]; exact h5
  · rw [hk 3 (by omega)]; exact h6
  · rw [hk 6 (by omega)]; exact h7
  · rw [hk 7 (by omega)]; exact h8
  · rw [hk 6 (by omega)]; exact h9
theorem R_num.le {n : Nat} (h : R_num n) : 1 ≤ n ∧ n ≤ 32 := by unfold R_num at h; omega
/-! numbers -/
theorem o_has (i : Int32) {n : Nat} (hn : n < 2 ^ 31) : s_has i (nI n) = false ∨ ∃ j, j < n ∧ i = nI j := by
  rcases pk_ix i hn with h | h | h
  · exact Or.inl (by simp [s_has, h])
  · exact Or.inl (by simp [s_has, h])
  · exact Or.inr h
theorem o_out {v : Int32} {a b : Nat} (ha : a < 2 ^ 31) (hb : b < 2 ^ 31) (h : s_out v (nI a) (nI b) = false) : ∃ k, a ≤ k ∧ k ≤ b ∧ v = nI k := by
  simp only [s_out, Bool.or_eq_false_iff, decide_eq_false_iff_not, Bool.not_eq_false', decide_eq_true_eq] at h
  obtain ⟨h1, h2⟩ := h
  have h0 : ¬ v < 0 := by
    intro q
    apply h1
    rw [Int32.lt_iff_toInt_lt] at q ⊢
    rw [nI_toInt ha]
    have : (0 : Int32).toInt = 0 := by decide
    omega
  obtain ⟨k, hk, rfl⟩ := nI_of h0
  exact ⟨k, Nat.not_lt.mp (fun q => h1 ((nI_ltI hk ha).mpr q)), (nI_leI hk hb).mp h2, rfl⟩
theorem o_outI {v a b : Int32} {A B : Int} (ha : a.toInt = A) (hb : b.toInt = B) (h : s_out v a b = false) : A ≤ v.toInt ∧ v.toInt ≤ B := by
  simp only [s_out, Bool.or_eq_false_iff, decide_eq_false_iff_not, Bool.not_eq_false', decide_eq_true_eq, Int32.lt_iff_toInt_lt, Int32.le_iff_toInt_le] at h
  omega
theorem o_bool (b : Bool) : b = false ∨ b = true := by cases b <;> simp
theorem sg2 (a b : Int32) : s_sgn a b * s_sgn a b = 1 := by
  unfold s_sgn; split <;> decide
/-! sums -/
theorem fs_at (far : Nat → Int32) (more : Int32) (a : Nat) : ∀ k j, s_fs far more a k j = if j < k then far j + more * s_sgn (nI a) (nI j) else far j
  | 0, j => by simp [s_fs]
  | k + 1, j => by
    show upd (s_fs far more a k) k _ j = _
    by_cases h : j = k
    · subst h
      rw [pk_us, fs_at far more a j j]
      simp
    · rw [pk_un h, fs_at far more a k j]
      by_cases h2 : j < k
      · rw [if_pos h2, if_pos (by omega)]
      · rw [if_neg h2, if_neg (by omega)]
theorem fa_upd (ne : Nat → Int32) (a : Nat) (v : Int32) (j : Nat) : ∀ k, r_fa (upd ne a v) j k = if a < k then r_fa ne j k + (v - ne a) * s_sgn (nI a) (nI j) else r_fa ne j k
  | 0 => by simp [r_fa, bx_sum]
  | k + 1 => by
    have ih := fa_upd ne a v j k
    show r_fa (upd ne a v) j k + upd ne a v k * s_sgn (nI k) (nI j) = _
    rw [ih]
    show _ = if a < k + 1 then (r_fa ne j k + ne k * s_sgn (nI k) (nI j)) + _ else (r_fa ne j k + ne k * s_sgn (nI k) (nI j))
    by_cases h : a = k
    · subst h
      rw [if_neg (by omega), if_pos (by omega), pk_us]
      grind
    · rw [pk_un (Ne.symm h)]
      by_cases h2 : a < k
      · rw [if_pos h2, if_pos (by omega)]; grind
      · rw [if_neg h2, if_neg (by omega)]
/-- what set keeps of the net -/
theorem R_nt.set {n a : Nat} {ia ia' : Ia} {v : Int32} (h : R_nt n ia) (ha : a < n) (hv : -1000 ≤ v.toInt ∧ v.toInt ≤ 1000) (h0 : ia' 0 = upd (ia 0) a v) (h1 : ia' 1 = s_fs (ia 1) (v - ia 0 a) a n) (h29 : ia' 29 = upd (ia 0) a v) (hk : ∀ b, (2 ≤ b ∧ b < 8) ∨ (30 ≤ b ∧ b < 36) → ia' b = ia b) : R_nt n ia' := by
  obtain ⟨g1, ⟨e1, e2, e3, e4, e5, e6, e7⟩, g3, g4, g5, g6, g7, g8, g9⟩ := h
  refine ⟨g1, ⟨?_, ?_, ?_, ?_, ?_, ?_, ?_⟩, ?_, ?_, ?_, ?_, ?_, ?_, ?_⟩
  · rw [h29, h0]
  · rw [hk 30 (by omega), hk 3 (by omega)]; exact e2
  · rw [hk 31 (by omega), hk 2 (by omega)]; exact e3
  · rw [hk 32 (by omega), hk 6 (by omega)]; exact e4
  · rw [hk 33 (by omega), hk 7 (by omega)]; exact e5
  · rw [hk 34 (by omega), hk 4 (by omega)]; exact e6
  · rw [hk 35 (by omega), hk 5 (by omega)]; exact e7
  · intro j hj
    rw [h0]
    by_cases e : j = a
    · subst e; rw [pk_us]; exact hv
    · rw [pk_un e]; exact g3 j hj
  · intro j hj
    rw [h1, h0, fs_at, if_pos hj, fa_upd, if_pos ha, g4 j hj]
  · rw [hk 2 (by omega)]; exact g5
  · rw [hk 3 (by omega)]; exact g6
  · rw [hk 6 (by omega)]; exact g7
  · rw [hk 7 (by omega)]; exact g8
  · rw [hk 6 (by omega)]; exact g9
theorem up_ne2 {α : Type} {f : Nat → α} {i j a : Nat} {x y : α} (h1 : a ≠ i) (h2 : a ≠ j) : va_up (va_up f i x) j y a = f a := by
  rw [va_up_ne _ _ h2, va_up_ne _ _ h1]
theorem up_ne3 {α : Type} {f : Nat → α} {i j k a : Nat} {x y z : α} (h1 : a ≠ i) (h2 : a ≠ j) (h3 : a ≠ k) : va_up (va_up (va_up f i x) j y) k z a = f a := by
  rw [va_up_ne _ _ h3, up_ne2 h1 h2]
/-- a row of the class and its row of the reference, both changed, nothing else -/
theorem Rel.up {n R K m d i k : Nat} {sc : Sc} {ia : Ia} {f g : Nat → Int32} (hS : R_sc sc n R K m d) (hSh : R_sh R K ia) (hPa : R_pa m ia) (hDb : R_db d ia) (hi : i < 8) (hk : 29 ≤ k ∧ k < 36) (hN : R_nt n (va_up (va_up ia i f) k g)) : Rel sc (va_up (va_up ia i f) k g) :=
  ⟨n, R, K, m, d, hS, hN, hSh.keep (fun a h => up_ne2 (by omega) (by omega)), hPa.keep (fun a h => up_ne2 (by omega) (by omega)), hDb.keep (fun a h => up_ne2 (by omega) (by omega))⟩
theorem op_near {l : Launch} {G : Gv} {sc : Sc} {ia : Ia} {la : La} (hR : Rel sc ia) (i v : Int32) : OpI l G yX5_near wsX5_near yX6_near wsX6_near [.int i, .int v] sc ia la := by
  obtain ⟨n, R, K, m, d, hS, hN, hSh, hPa, hDb⟩ := id hR
  obtain ⟨hn1, hn32⟩ := hN.1.le
  rcases o_has i (n := n) (by omega) with h | ⟨j, hj, rfl⟩
  · exact opI (c_X5_near_no l G sc ia la i (by rw [hS.1]; exact h) v) (c_X6_near_no l G sc ia la n hS.2.1 hn32 hn1 i h v) rfl hR
  · rcases o_bool (s_out v (-1000) 1000) with h | h
    · refine opI (c_X5_near_ok l G sc ia la n hS.1 hn32 j hj v h) (c_X6_near_ok l G sc _ la n hS.2.1 hn32 hn1 j hj v h) ?_ ⟨n, R, K, m, d, hS, ?_, ?_, ?_, ?_⟩
      · show ia 29 j = ia 0 j
        rw [hN.2.1.1]
      · refine hN.set hj (o_outI (A := -1000) (B := 1000) (by decide) (by decide) h) rfl rfl ?_ (fun b hb => ?_)
        · show upd (ia 29) j v = _
          rw [hN.2.1.1]
        · unfold s_set; exact up_ne3 (by omega) (by omega) (by omega)
      · exact hSh.keep (fun a h => by unfold s_set; exact up_ne3 (by omega) (by omega) (by omega))
      · exact hPa.keep (fun a h => by unfold s_set; exact up_ne3 (by omega) (by omega) (by omega))
      · exact hDb.keep (fun a h => by unfold s_set; exact up_ne3 (by omega) (by omega) (by omega))
    · exact opI (c_X5_near_out l G sc ia la n hS.1 hn32 j hj v h) (c_X6_near_out l G sc ia la n hS.2.1 hn32 hn1 j hj v h) rfl hR
theorem op_far {l : Launch} {G : Gv} {sc : Sc} {ia : Ia} {la : La} (hR : Rel sc ia) (i : Int32) : OpI l G yX5_far wsX5_far yX6_far wsX6_far [.int i] sc ia la := by
  obtain ⟨n, R, K, m, d, hS, hN, hSh, hPa, hDb⟩ := id hR
  obtain ⟨hn1, hn32⟩ := hN.1.le
  rcases o_has i (n := n) (by omega) with h | ⟨j, hj, rfl⟩
  · exact opI (c_X5_far_no l G sc ia la i (by rw [hS.1]; exact h)) (c_X6_far_no l G sc ia la n hS.2.1 hn32 hn1 i h) rfl hR
  · exact opI (c_X5_far_ok l G sc ia la n hS.1 hn32 j hj) (c_X6_far_ok l G sc _ la n hS.2.1 hn32 hn1 j hj) (by rw [hN.2.2.2.1 j hj, hN.2.1.1]) hR
theorem op_seen {l : Launch} {G : Gv} {sc : Sc} {ia : Ia} {la : La} (hR : Rel sc ia) (i : Int32) : OpI l G yX5_seen wsX5_seen yX6_seen wsX6_seen [.int i] sc ia la := by
  obtain ⟨n, R, K, m, d, hS, hN, hSh, hPa, hDb⟩ := id hR
  obtain ⟨hn1, hn32⟩ := hN.1.le
  rcases o_has i (n := n) (by omega) with h | ⟨j, hj, rfl⟩
  · exact opI (c_X5_seen_no l G sc ia la i (by rw [hS.1]; exact h)) (c_X6_seen_no l G sc ia la n hS.2.1 hn32 hn1 i h) rfl hR
  · exact opI (c_X5_seen_ok l G sc ia la n hS.1 hn32 j hj) (c_X6_seen_ok l G sc _ la n hS.2.1 hn32 hn1 j hj) (by rw [hN.2.2.2.1 j hj, hN.2.1.1, hN.2.1.2.2.1]) hR
theorem op_tell {l : Launch} {G : Gv} {sc : Sc} {ia : Ia} {la : La} (hR : Rel sc ia) (i v : Int32) : OpI l G yX5_tell wsX5_tell yX6_tell wsX6_tell [.int i, .int v] sc ia la := by
  obtain ⟨n, R, K, m, d, hS, hN, hSh, hPa, hDb⟩ := id hR
  obtain ⟨hn1, hn32⟩ := hN.1.le
  rcases o_has i (n := n) (by omega) with h | ⟨j, hj, rfl⟩
  · exact opI (c_X5_tell_no l G sc ia la i (by rw [hS.1]; exact h) v) (c_X6_tell_no l G sc ia la n hS.2.1 hn32 hn1 i h v) rfl hR
  · rcases o_bool (s_out v (-1000000) 1000000) with h | h
    · refine opI (c_X5_tell_ok l G sc ia la n hS.1 hn32 j hj v h) (c_X6_tell_ok l G sc _ la n hS.2.1 hn32 hn1 j hj v h) ?_ (Rel.up hS hSh hPa hDb (by omega) (by omega) ?_)
      · show ia 30 j = ia 3 j
        rw [hN.2.1.2.1]
      · have hv := o_outI (A := -1000000) (B := 1000000) (by decide) (by decide) h
        obtain ⟨g1, ⟨e1, e2, e3, e4, e5, e6, e7⟩, g3, g4, g5, g6, g7, g8, g9⟩ := hN
        refine ⟨g1, ⟨e1, ?_, e3, e4, e5, e6, e7⟩, g3, g4, g5, ?_, g7, g8, g9⟩
        · show upd (ia 30) j v = upd (ia 3) j v
          rw [e2]
        · intro k hk
          show -1000000 ≤ (upd (ia 3) j v k).toInt ∧ (upd (ia 3) j v k).toInt ≤ 1000000
          by_cases e : k = j
          · subst e; rw [pk_us]; exact hv
          · rw [pk_un e]; exact g6 k hk
    · exact opI (c_X5_tell_out l G sc ia la n hS.1 hn32 j hj v h) (c_X6_tell_out l G sc ia la n hS.2.1 hn32 hn1 j hj v h) rfl hR
theorem op_limit {l : Launch} {G : Gv} {sc : Sc} {ia : Ia} {la : La} (hR : Rel sc ia) (i v : Int32) : OpI l G yX5_limit wsX5_limit yX6_limit wsX6_limit [.int i, .int v] sc ia la := by
  obtain ⟨n, R, K, m, d, hS, hN, hSh, hPa, hDb⟩ := id hR
  obtain ⟨hn1, hn32⟩ := hN.1.le
  rcases o_has i (n := n) (by omega) with h | ⟨j, hj, rfl⟩
  · exact opI (c_X5_limit_no l G sc ia la i (by rw [hS.1]; exact h) v) (c_X6_limit_no l G sc ia la n hS.2.1 hn32 hn1 i h v) rfl hR
  · rcases o_bool (s_out v 0 100000) with h | h
    · refine opI (c_X5_limit_ok l G sc ia la n hS.1 hn32 j hj v h) (c_X6_limit_ok l G sc _ la n hS.2.1 hn32 hn1 j hj v h) ?_ (Rel.up hS hSh hPa hDb (by omega) (by omega) ?_)
      · show ia 35 j = ia 5 j
        rw [hN.2.1.2.2.2.2.2.2]
      · obtain ⟨g1, ⟨e1, e2, e3, e4, e5, e6, e7⟩, g3, g4, g5, g6, g7, g8, g9⟩ := hN
        refine ⟨g1, ⟨e1, e2, e3, e4, e5, e6, ?_⟩, g3, g4, g5, g6, g7, g8, g9⟩
        show upd (ia 35) j v = upd (ia 5) j v
        rw [e7]
    · exact opI (c_X5_limit_out l G sc ia la n hS.1 hn32 j hj v h) (c_X6_limit_out l G sc ia la n hS.2.1 hn32 hn1 j hj v h) rfl hR
theorem op_probe {l : Launch} {G : Gv} {sc : Sc} {ia : Ia} {la : La} (hR : Rel sc ia) (i v : Int32) : OpI l G yX5_probe wsX5_probe yX6_probe wsX6_probe [.int i, .int v] sc ia la := by
  obtain ⟨n, R, K, m, d, hS, hN, hSh, hPa, hDb⟩ := id hR
  obtain ⟨hn1, hn32⟩ := hN.1.le
  rcases o_has i (n := n) (by omega) with h | ⟨j, hj, rfl⟩
  · exact opI (c_X5_probe_no l G sc ia la i (by rw [hS.1]; exact h) v) (c_X6_probe_no l G sc ia la n hS.2.1 hn32 hn1 i h v) rfl hR
  · by_cases hz : v = 0
    · subst hz
      exact opI (c_X5_probe_zero l G sc ia la n hS.1 hn32 j hj) (c_X6_probe_zero l G sc ia la n hS.2.1 hn32 hn1 j hj) rfl hR
    · rcases o_bool (s_out v (-9) 9) with h | h
      · refine opI (c_X5_probe_ok l G sc ia la n hS.1 hn32 j hj v hz h) (c_X6_probe_ok l G sc _ la n hS.2.1 hn32 hn1 j hj v hz h) ?_ (Rel.up hS hSh hPa hDb (by omega) (by omega) ?_)
        · show ia 31 j = ia 2 j
          rw [hN.2.1.2.2.1]
        · obtain ⟨g1, ⟨e1, e2, e3, e4, e5, e6, e7⟩, g3, g4, g5, g6, g7, g8, g9⟩ := hN
          refine ⟨g1, ⟨e1, e2, ?_, e4, e5, e6, e7⟩, g3, g4, ?_, g6, g7, g8, g9⟩
          · show upd (ia 31) j v = upd (ia 2) j v
            rw [e3]
          · intro k hk
            show ¬ upd (ia 2) j v k = 0
            by_cases e : k = j
            · subst e; rw [pk_us]; exact hz
            · rw [pk_un e]; exact g5 k hk
      · exact opI (c_X5_probe_out l G sc ia la n hS.1 hn32 j hj v hz h) (c_X6_probe_out l G sc ia la n hS.2.1 hn32 hn1 j hj v h) rfl hR
theorem th_gt {ia : Ia} {n : Nat} (hf : ∀ j, j < n → ia 1 j = r_fa (ia 0) j n) (i : Nat) (m v : Int32) : ∀ k, k ≤ n → r_gt (ia 0) n i m v k = s_th ia (nI i) m v k
  | 0, _ => rfl
  | k + 1, h => by
    show r_gt (ia 0) n i m v k + _ = if _ then s_th ia (nI i) m v k + _ else s_th ia (nI i) m v k
    rw [th_gt hf i m v k (by omega), hf k (by omega)]
    split <;> simp
theorem sq_pw {ia : Ia} {n : Nat} (hf : ∀ j, j < n → ia 1 j = r_fa (ia 0) j n) (m v : Int32) : ∀ k, k ≤ n → r_pw (ia 0) n m v k = s_sq ia m v k
  | 0, _ => rfl
  | k + 1, h => by
    show r_pw (ia 0) n m v k + _ = if _ then s_sq ia m v k + _ else s_sq ia m v k
    rw [sq_pw hf m v k (by omega), hf k (by omega)]
    split <;> simp
theorem op_gated {l : Launch} {G : Gv} {sc : Sc} {ia : Ia} {la : La} (hR : Rel sc ia) (i p v : Int32) : OpI l G yX5_gated wsX5_gated yX6_gated wsX6_gated [.int i, .int p, .int v] sc ia la := by
  obtain ⟨n, R, K, m, d, hS, hN, hSh, hPa, hDb⟩ := id hR
  obtain ⟨hn1, hn32⟩ := hN.1.le
  rcases o_has i (n := n) (by omega) with h | ⟨j, hj, rfl⟩
  · exact opI (c_X5_gated_no l G sc ia la i (by rw [hS.1]; exact h) p v) (c_X6_gated_no l G sc ia la n hS.2.1 hn32 hn1 i h p v) rfl hR
  · rcases o_bool (s_gate p v) with h | h
    · exact opI (c_X5_gated_out l G sc ia la n hS.1 hn32 j hj p v h) (c_X6_gated_out l G sc ia la n hS.2.1 hn32 hn1 j hj p v h) rfl hR
    · exact opI (c_X5_gated_ok l G sc ia la n hS.1 hn32 j hj p v h) (c_X6_gated_ok l G sc ia la n hS.2.1 hn32 hn1 j hj p v h) (by rw [hN.2.1.1, th_gt hN.2.2.2.1 j p v n (Nat.le_refl n)]) hR
theorem op_power {l : Launch} {G : Gv} {sc : Sc} {ia : Ia} {la : La} (hR : Rel sc ia) (p v : Int32) : OpL l G yX5_power wsX5_power yX6_power wsX6_power [.int p, .int v] sc ia la := by
  obtain ⟨n, R, K, m, d, hS, hN, hSh, hPa, hDb⟩ := id hR
  obtain ⟨hn1, hn32⟩ := hN.1.le
  rcases o_bool (s_gate p v) with h | h
  · exact opL (c_X5_power_out l G sc ia la p v h) (c_X6_power_out l G sc ia la p v h) rfl hR
  · exact opL (c_X5_power_ok l G sc ia la n hS.1 hn32 p v h) (c_X6_power_ok l G sc ia la n hS.2.1 hn32 hn1 p v h) (by rw [hN.2.1.1, sq_pw hN.2.2.2.1 p v n (Nat.le_refl n)]) hR
