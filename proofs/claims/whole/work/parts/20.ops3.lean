/-! pairs -/
theorem put_at (ia : Ia) {a b : Nat} (F V : Int32) (ha : a < 5) (hb : b < 5) (hab : ¬ a = b) : (∀ x, x < 5 → ∀ y, s_put ia a b F V (19 + x) y = if (x = a ∧ y = b) ∨ (x = b ∧ y = a) then F else ia (19 + x) y) ∧ (∀ x, x < 5 → ∀ y, s_put ia a b F V (24 + x) y = if (x = a ∧ y = b) ∨ (x = b ∧ y = a) then V else ia (24 + x) y) ∧ (∀ x, x < 19 ∨ 29 ≤ x → s_put ia a b F V x = ia x) := by
  have j1 : ∀ (f : Ia) (W : Int32) (o : Nat), va_up (va_up f (o + a) (upd (f (o + a)) b W)) (o + b) (upd (va_up f (o + a) (upd (f (o + a)) b W) (o + b)) a W) = fun k => fun y => if (k = o + a ∧ y = b) ∨ (k = o + b ∧ y = a) then W else f k y := by
    intro f W o
    funext k y
    by_cases e1 : k = o + b
    · subst e1
      rw [va_up_self, va_up_ne _ _ (by omega)]
      by_cases e2 : y = a
      · subst e2; rw [pk_us, if_pos (Or.inr ⟨rfl, rfl⟩)]
      · rw [pk_un e2, if_neg (by omega)]
    · rw [va_up_ne _ _ e1]
      by_cases e3 : k = o + a
      · subst e3
        rw [va_up_self]
        by_cases e2 : y = b
        · subst e2; rw [pk_us, if_pos (Or.inl ⟨rfl, rfl⟩)]
        · rw [pk_un e2, if_neg (by omega)]
      · rw [va_up_ne _ _ e3, if_neg (by omega)]
  have j2 : s_put ia a b F V = fun k => fun y => if (k = 24 + a ∧ y = b) ∨ (k = 24 + b ∧ y = a) then V else if (k = 19 + a ∧ y = b) ∨ (k = 19 + b ∧ y = a) then F else ia k y := by
    unfold s_put
    rw [j1, j1]
  rw [j2]
  refine ⟨fun x hx y => ?_, fun x hx y => ?_, fun x hx => ?_⟩
  · dsimp only
    rw [if_neg (by omega)]
    by_cases e : (x = a ∧ y = b) ∨ (x = b ∧ y = a)
    · rw [if_pos e, if_pos (by omega)]
    · rw [if_neg e, if_neg (by omega)]
  · dsimp only
    by_cases e : (x = a ∧ y = b) ∨ (x = b ∧ y = a)
    · rw [if_pos e, if_pos (by omega)]
    · rw [if_neg e, if_neg (by omega), if_neg (by omega)]
  · funext y
    dsimp only
    rw [if_neg (by omega), if_neg (by omega)]
theorem op_antennas {l : Launch} {G : Gv} {sc : Sc} {ia : Ia} {la : La} (hR : Rel sc ia) (v : Int32) : OpI l G yX5_antennas wsX5_antennas yX6_antennas wsX6_antennas [.int v] sc ia la := by
  obtain ⟨n, R, K, m, d, hS, hN, hSh, hPa, hDb⟩ := id hR
  obtain ⟨s0, s7, s3, s10, s4, s11, s5, s12, s6, s17⟩ := id hS
  rcases o_bool (s_out v 3 5) with h | h
  · obtain ⟨k, k3, k5, rfl⟩ := o_out (a := 3) (b := 5) (by decide) (by decide) h
    have hk : ∀ a, ¬ (19 ≤ a ∧ a < 29) → a_pr ia 5 0 a = ia a := fun a h => by
      unfold a_pr; rw [if_neg (by omega)]; split <;> rfl
    have hz : ∀ a, 19 ≤ a ∧ a < 29 → ∀ j, j < 5 → a_pr ia 5 0 a j = 0 := fun a h j hj => by
      unfold a_pr; rw [if_pos (by omega), f_fill_at 0 _ hj]
    refine opI (c_X5_antennas_ok l G sc ia la _ h) (c_X6_antennas_ok l G _ _ la _ h) rfl ⟨n, R, K, k, d, ⟨s0, s7, s3, s10, s4, s11, rfl, rfl, s6, s17⟩, ?_, ?_, ⟨k3, k5, fun a ha b hb => ?_⟩, ?_⟩
    · exact hN.keep (fun a h => by rw [up_ne2 (by omega) (by omega)]; exact hk a (by omega))
    · exact hSh.keep (fun a h => by rw [up_ne2 (by omega) (by omega)]; exact hk a (by omega))
    · rw [up_ne2 (show 19 + a ≠ 39 by omega) (show 19 + a ≠ 40 by omega), up_ne2 (show 24 + a ≠ 39 by omega) (show 24 + a ≠ 40 by omega), up_ne2 (show 19 + b ≠ 39 by omega) (show 19 + b ≠ 40 by omega), hz (19 + a) (by omega) b hb, hz (24 + a) (by omega) b hb, hz (19 + b) (by omega) a ha]
      refine ⟨?_, ?_, Or.inl rfl, rfl, fun _ => rfl, fun _ => rfl⟩
      · show r_z _ 25 (5 * a + b) = 0
        rw [rz_eq, if_pos (by omega)]
      · show r_z _ 25 (5 * a + b) = 0
        rw [rz_eq, if_pos (by omega)]
    · exact hDb.keep (fun a h => by rw [up_ne2 (by omega) (by omega)]; exact hk a (by omega))
  · exact opI (c_X5_antennas_out l G sc ia la v h) (c_X6_antennas_out l G sc ia la v h) rfl hR
theorem op_together {l : Launch} {G : Gv} {sc : Sc} {ia : Ia} {la : La} (hR : Rel sc ia) (i j v : Int32) (z : Bool) : OpI l G yX5_together wsX5_together yX6_together wsX6_together [.int i, .int j, .int v, .int (bI z)] sc ia la := by
  obtain ⟨n, R, K, m, d, hS, hN, hSh, hPa, hDb⟩ := id hR
  obtain ⟨s0, s7, s3, s10, s4, s11, s5, s12, s6, s17⟩ := id hS
  obtain ⟨m3, m5, hp⟩ := id hPa
  rcases o_has i (n := m) (by omega) with h | ⟨a, ha, rfl⟩
  · exact opI (c_X5_together_a l G sc ia la i j v z (by rw [s5]; exact h)) (c_X6_together_a l G sc ia la m s12 (by omega) m5 i j v z h) rfl hR
  · rcases o_has j (n := m) (by omega) with h | ⟨b, hb, rfl⟩
    · exact opI (c_X5_together_b l G sc ia la m s5 m5 a ha j v z (by rw [s5]; exact h)) (c_X6_together_b l G sc ia la m s12 (by omega) m5 a ha j v z h) rfl hR
    · by_cases hab : a = b
      · subst hab
        exact opI (c_X5_together_same l G sc ia la m s5 m5 a ha v z) (c_X6_together_same l G sc ia la m s12 (by omega) m5 a ha v z) rfl hR
      · rcases o_bool (s_out v (-10000) 10000) with h | h
        · obtain ⟨p1, p2, p3⟩ := put_at ia (a := a) (b := b) (bI z) (if z = true then v else 0) (by omega) (by omega) hab
          refine opI (c_X5_together_ok l G sc ia la m s5 m5 a b ha hb hab v z h) (c_X6_together_ok l G sc _ la m s12 (by omega) m5 a b ha hb hab v z h) ?_ ⟨n, R, K, m, d, hS, ?_, ?_, ⟨m3, m5, fun x hx y hy => ?_⟩, ?_⟩
          · rw [p3 39 (by omega)]
            obtain ⟨q1, q2, q3, -⟩ := hp a (by omega) b (by omega)
            rw [q1]
            rcases q3 with q | q <;> rw [q] <;> decide
          · exact hN.keep (fun x h => by rw [up_ne2 (by omega) (by omega)]; exact p3 x (by omega))
          · exact hSh.keep (fun x h => by rw [up_ne2 (by omega) (by omega)]; exact p3 x (by omega))
          · rw [up_ne2 (show 19 + x ≠ 39 by omega) (show 19 + x ≠ 40 by omega), up_ne2 (show 24 + x ≠ 39 by omega) (show 24 + x ≠ 40 by omega), up_ne2 (show 19 + y ≠ 39 by omega) (show 19 + y ≠ 40 by omega), p1 x hx y, p2 x hx y, p1 y hy x]
            obtain ⟨q1, q2, q3, q4, q5, q6⟩ := hp x hx y hy
            refine ⟨?_, ?_, ?_, ?_, ?_, ?_⟩
            · show upd (upd (s_put ia a b (bI z) _ 39) (5 * a + b) (bI z)) (5 * b + a) (bI z) (5 * x + y) = _
              rw [p3 39 (by omega)]
              simp only [upd]
              by_cases e1 : x = a ∧ y = b
              · rw [if_pos (Or.inl e1), if_pos (show 5 * x + y = 5 * a + b by omega)]; split <;> rfl
              · by_cases e2 : x = b ∧ y = a
                · rw [if_pos (Or.inr e2), if_pos (show 5 * x + y = 5 * b + a by omega)]
                · rw [if_neg (by omega), if_neg (by omega), if_neg (by omega)]; exact q1
            · show upd (upd (s_put ia a b (bI z) _ 40) (5 * a + b) _) (5 * b + a) _ (5 * x + y) = _
              rw [p3 40 (by omega)]
              simp only [upd]
              by_cases e1 : x = a ∧ y = b
              · rw [if_pos (Or.inl e1), if_pos (show 5 * x + y = 5 * a + b by omega)]; split <;> rfl
              · by_cases e2 : x = b ∧ y = a
                · rw [if_pos (Or.inr e2), if_pos (show 5 * x + y = 5 * b + a by omega)]
                · rw [if_neg (by omega), if_neg (by omega), if_neg (by omega)]; exact q2
            · split
              · cases z
                · exact Or.inl rfl
                · exact Or.inr rfl
              · exact q3
            · by_cases e1 : (x = a ∧ y = b) ∨ (x = b ∧ y = a)
              · rw [if_pos e1, if_pos (by omega)]
              · rw [if_neg e1, if_neg (by omega)]; exact q4
            · intro e
              rw [if_neg (by omega)]; exact q5 e
            · intro e
              rw [if_neg (by omega)]; exact q6 e
          · exact hDb.keep (fun x h => by rw [up_ne2 (by omega) (by omega)]; exact p3 x (by omega))
        · exact opI (c_X5_together_out l G sc ia la m s5 m5 a b ha hb hab v z h) (c_X6_together_out l G sc ia la m s12 (by omega) m5 a b ha hb hab v z h) rfl hR
theorem wh_eq {m : Nat} {ia : Ia} (h : R_pa m ia) {a b c : Nat} (ha : a < 5) (hb : b < 5) (hc : c < 5) : r_wh (ia 39) a b c = s_wh ia a b c ∧ r_ga (ia 40) a b c = s_ga ia a b c := by
  obtain ⟨m3, m5, hp⟩ := h
  obtain ⟨q1, q2, q3, q4, q5, q6⟩ := hp a ha b hb
  obtain ⟨r1, r2, r3, r4, r5, r6⟩ := hp a ha c hc
  obtain ⟨t1, t2, t3, t4, t5, t6⟩ := hp b hb c hc
  constructor
  · unfold r_wh s_wh
    rw [q1, r1, t1]
    have n10 : ¬ ((1 : Int32) = 0) := by decide
    have n01 : ¬ ((0 : Int32) = 1) := by decide
    by_cases e1 : a = b
    · have := q5 e1
      rw [this]; simp [e1]
    · by_cases e2 : a = c
      · have := r5 e2
        rw [this]; simp [e2]
      · rcases q3 with q | q <;> rcases r3 with r | r <;> rcases t3 with t | t <;> rw [q, r, t] <;> simp [e1, e2]
  · unfold r_ga s_ga
    rw [q2, r2, t2]
/-- what the reference's count of threes holds beside the class's first and spread -/
theorem t1_eq {m : Nat} {ia : Ia} (h : R_pa m ia) {a b c : Nat} (ha : a < 5) (hb : b < 5) (hc : c < 5) {x : Q4} {t : Nat} (hx : x.1 = nI t) (ht : t < 1000) :
    (s_wh ia a b c = false → r_t1 (ia 39) (ia 40) a b c x = x) ∧ (s_wh ia a b c = true → (r_t1 (ia 39) (ia 40) a b c x).1 = nI (t + 1) ∧ (r_t1 (ia 39) (ia 40) a b c x).2.1 = (if t = 0 then s_ga ia a b c else x.2.1) ∧ (r_t1 (ia 39) (ia 40) a b c x).2.2.1 = (if t = 0 ∨ s_ga ia a b c < x.2.2.1 then s_ga ia a b c else x.2.2.1) ∧ (r_t1 (ia 39) (ia 40) a b c x).2.2.2 = (if t = 0 ∨ x.2.2.2 < s_ga ia a b c then s_ga ia a b c else x.2.2.2)) := by
  obtain ⟨w1, w2⟩ := wh_eq h ha hb hc
  have h0 : (x.1 = 0) ↔ t = 0 := by
    rw [hx]
    have := nI_eq (a := t) (b := 0) (by omega) (by decide)
    rw [nI_0] at this
    exact this
  constructor
  · intro hw
    unfold r_t1
    rw [w1, hw]; rfl
  · intro hw
    unfold r_t1
    rw [w1, hw, if_pos rfl, w2]
    simp only [h0]
    refine ⟨?_, ?_⟩
    · rw [hx, nI_1]
    · simp
/-- first gain, count: the inner row -/
theorem ti_first {m : Nat} {ia : Ia} (h : R_pa m ia) {a b : Nat} (ha : a < 5) (hb : b < 5) {x : Q4} {t : Nat} (hx : x.1 = nI t) (ht : t < 100) : ∀ k, b + 1 + k ≤ 5 → ∃ t', t' ≤ t + k ∧ (r_ti (ia 39) (ia 40) a b x k).1 = nI t' ∧ (0 < t → 0 < t' ∧ (r_ti (ia 39) (ia 40) a b x k).2.1 = x.2.1) ∧ (t = 0 → ((t' = 0 ∧ s_fi (fun d => s_wh ia a b (b + 1 + d)) k = none) ∨ ∃ d, 0 < t' ∧ s_fi (fun d => s_wh ia a b (b + 1 + d)) k = some d ∧ (r_ti (ia 39) (ia 40) a b x k).2.1 = s_ga ia a b (b + 1 + d)))
  | 0, _ => ⟨t, by omega, hx, fun q => ⟨q, rfl⟩, fun q => Or.inl ⟨q, rfl⟩⟩
  | k + 1, hk => by
    obtain ⟨t', i1, i2, i3, i4⟩ := ti_first h ha hb hx ht k (by omega)
    obtain ⟨u1, u2⟩ := t1_eq h ha hb (show b + 1 + k < 5 by omega) i2 (by omega)
    show ∃ t'', t'' ≤ t + (k + 1) ∧ (r_t1 (ia 39) (ia 40) a b (b + 1 + k) (r_ti (ia 39) (ia 40) a b x k)).1 = nI t'' ∧ (0 < t → 0 < t'' ∧ (r_t1 (ia 39) (ia 40) a b (b + 1 + k) (r_ti (ia 39) (ia 40) a b x k)).2.1 = x.2.1) ∧ (t = 0 → ((t'' = 0 ∧ s_fi (fun d => s_wh ia a b (b + 1 + d)) (k + 1) = none) ∨ ∃ d, 0 < t'' ∧ s_fi (fun d => s_wh ia a b (b + 1 + d)) (k + 1) = some d ∧ (r_t1 (ia 39) (ia 40) a b (b + 1 + k) (r_ti (ia 39) (ia 40) a b x k)).2.1 = s_ga ia a b (b + 1 + d)))
    have hfi : s_fi (fun d => s_wh ia a b (b + 1 + d)) (k + 1) = match s_fi (fun d => s_wh ia a b (b + 1 + d)) k with
      | some j => some j
      | none => if s_wh ia a b (b + 1 + k) = true then some k else none := rfl
    rcases o_bool (s_wh ia a b (b + 1 + k)) with w | w
    · rw [u1 w]
      refine ⟨t', by omega, i2, i3, fun q => ?_⟩
      rcases i4 q with ⟨z1, z2⟩ | ⟨d, z1, z2, z3⟩
      · left; rw [hfi, z2, w]; exact ⟨z1, rfl⟩
      · right; rw [hfi, z2]; exact ⟨d, z1, rfl, z3⟩
    · obtain ⟨v1, v2, v3, v4⟩ := u2 w
      refine ⟨t' + 1, by omega, v1, fun q => ⟨by omega, ?_⟩, fun q => ?_⟩
      · rw [v2, if_neg (by have := (i3 q).1; omega), (i3 q).2]
      · right
        rcases i4 q with ⟨z1, z2⟩ | ⟨d, z1, z2, z3⟩
        · exact ⟨k, by omega, by rw [hfi, z2, w]; rfl, by rw [v2, if_pos z1]⟩
        · exact ⟨d, by omega, by rw [hfi, z2], by rw [v2, if_neg (by omega), z3]⟩
theorem to_first {m : Nat} {ia : Ia} (h : R_pa m ia) {a : Nat} (ha : a < 5) {x : Q4} (hx : x.1 = 0) : ∀ k, k ≤ m → ∃ t, t ≤ 5 * k ∧ (r_to (ia 39) (ia 40) m a x k).1 = nI t ∧ ((t = 0 ∧ s_fi (fun b => (s_g1 ia m a b).isSome) k = none) ∨ ∃ b d, 0 < t ∧ s_fi (fun b => (s_g1 ia m a b).isSome) k = some b ∧ s_g1 ia m a b = some d ∧ (r_to (ia 39) (ia 40) m a x k).2.1 = s_ga ia a b (b + 1 + d))
  | 0, _ => ⟨0, by omega, hx, Or.inl ⟨rfl, rfl⟩⟩
  | k + 1, hk => by
    have m5 := h.2.1
    obtain ⟨t, i1, i2, i3⟩ := to_first h ha hx k (by omega)
    obtain ⟨t', j1, j2, j3, j4⟩ := ti_first h ha (show k < 5 by omega) i2 (by omega) (m - (k + 1)) (by omega)
    have hfi : s_fi (fun b => (s_g1 ia m a b).isSome) (k + 1) = match s_fi (fun b => (s_g1 ia m a b).isSome) k with
      | some j => some j
      | none => if (s_g1 ia m a k).isSome = true then some k else none := rfl
    refine ⟨t', by omega, j2, ?_⟩
    rcases i3 with ⟨z1, z2⟩ | ⟨b, d, z1, z2, z3, z4⟩
    · rcases j4 z1 with ⟨y1, y2⟩ | ⟨d, y1, y2, y3⟩
      · left
        refine ⟨y1, ?_⟩
        have : s_g1 ia m a k = none := y2
        rw [hfi, z2, this]; rfl
      · right
        have : s_g1 ia m a k = some d := y2
        exact ⟨k, d, y1, by rw [hfi, z2, this]; rfl, this, y3⟩
    · right
      obtain ⟨y1, y2⟩ := j3 z1
      exact ⟨b, d, y1, by rw [hfi, z2], z3, by rw [← z4]; exact y2⟩
theorem R_sc.ft {sc sc' : Sc} {n R K m d : Nat} (h : R_sc sc n R K m d) (hk : ∀ j, j < 13 ∨ 17 ≤ j → sc' j = sc j) : R_sc sc' n R K m d := by
  obtain ⟨s0, s7, s3, s10, s4, s11, s5, s12, s6, s17⟩ := h
  unfold R_sc
  rw [hk 0 (by omega), hk 7 (by omega), hk 3 (by omega), hk 10 (by omega), hk 4 (by omega), hk 11 (by omega), hk 5 (by omega), hk 12 (by omega), hk 6 (by omega), hk 17 (by omega)]
  exact ⟨s0, s7, s3, s10, s4, s11, s5, s12, s6, s17⟩
theorem ft_keep (sc : Sc) (x : Q4) (j : Nat) (h : j < 13 ∨ 17 ≤ j) : r_ft sc x j = sc j := by
  unfold r_ft
  rw [va_up_ne _ _ (by omega), va_up_ne _ _ (by omega), up_ne2 (by omega) (by omega)]
theorem op_gain {l : Launch} {G : Gv} {sc : Sc} {ia : Ia} {la : La} (hR : Rel sc ia) (i : Int32) : OpI l G yX5_gain wsX5_gain yX6_gain wsX6_gain [.int i] sc ia la := by
  obtain ⟨n, R, K, m, d, hS, hN, hSh, hPa, hDb⟩ := id hR
  obtain ⟨s0, s7, s3, s10, s4, s11, s5, s12, s6, s17⟩ := id hS
  obtain ⟨m3, m5, hp⟩ := id hPa
  rcases o_has i (n := m) (by omega) with h | ⟨a, ha, rfl⟩
  · exact opI (c_X5_gain_no l G sc ia la i (by rw [s5]; exact h)) (c_X6_gain_no l G sc ia la m s12 (by omega) m5 i h) rfl hR
  · refine opI (c_X5_gain_ok l G sc ia la m s5 m5 a ha) (c_X6_gain_ok l G sc ia la m s12 (by omega) m5 a ha) ?_ ⟨n, R, K, m, d, hS.ft (ft_keep sc _), hN, hSh, hPa, hDb⟩
    obtain ⟨t, t1, t2, t3⟩ := to_first hPa (show a < 5 by omega) (x := r_x0 sc) rfl m (Nat.le_refl m)
    unfold r_tt s_fg
    have h0 : ((r_to (ia 39) (ia 40) m a (r_x0 sc) m).1 = 0) ↔ t = 0 := by
      rw [t2]
      have := nI_eq (a := t) (b := 0) (by omega) (by decide)
      rw [nI_0] at this
      exact this
    rcases t3 with ⟨z1, z2⟩ | ⟨b, d, z1, z2, z3, z4⟩
    · rw [if_pos (h0.mpr z1), z2]
    · rw [if_neg (fun q => by have := h0.mp q; omega), z2, z4]
      dsimp only
      rw [z3]
/-- least and most -/
def t_R (s : Int32 × Int32 × Int32) (x : Q4) : Prop := ∃ t, t < 100 ∧ x.1 = nI t ∧ ((t = 0 ∧ s.1 = 0) ∨ (0 < t ∧ s.1 = 1 ∧ s.2.1 = x.2.2.1 ∧ s.2.2 = x.2.2.2))
theorem sp_step {m : Nat} {ia : Ia} (h : R_pa m ia) {a b c : Nat} (ha : a < 5) (hb : b < 5) (hc : c < 5) {s : Int32 × Int32 × Int32} {x : Q4} {t : Nat} (ht : t < 99) (hx : x.1 = nI t) (hr : (t = 0 ∧ s.1 = 0) ∨ (0 < t ∧ s.1 = 1 ∧ s.2.1 = x.2.2.1 ∧ s.2.2 = x.2.2.2)) : ∃ t', t' ≤ t + 1 ∧ (r_t1 (ia 39) (ia 40) a b c x).1 = nI t' ∧ ((t' = 0 ∧ (s_sp1 ia a b c s).1 = 0) ∨ (0 < t' ∧ (s_sp1 ia a b c s).1 = 1 ∧ (s_sp1 ia a b c s).2.1 = (r_t1 (ia 39) (ia 40) a b c x).2.2.1 ∧ (s_sp1 ia a b c s).2.2 = (r_t1 (ia 39) (ia 40) a b c x).2.2.2)) := by
  obtain ⟨u1, u2⟩ := t1_eq h ha hb hc hx (by omega)
  rcases o_bool (s_wh ia a b c) with w | w
  · rw [u1 w]
    have : s_sp1 ia a b c s = s := by unfold s_sp1; rw [w]; rfl
    rw [this]
    exact ⟨t, by omega, hx, hr⟩
  · obtain ⟨v1, v2, v3, v4⟩ := u2 w
    refine ⟨t + 1, by omega, v1, Or.inr ⟨by omega, ?_⟩⟩
    rw [v3, v4]
    unfold s_sp1
    rw [w, if_pos rfl]
    refine ⟨rfl, ?_, ?_⟩
    · rcases hr with ⟨z1, z2⟩ | ⟨z1, z2, z3, z4⟩
      · rw [if_pos (Or.inl z1)]; dsimp only; rw [if_pos z2]
      · dsimp only
        rw [if_neg (show ¬ s.1 = 0 by rw [z2]; decide), z3]
        by_cases q : s_ga ia a b c < x.2.2.1
        · rw [if_pos q, if_pos (Or.inr q)]
        · rw [if_neg q, if_neg (by rintro (q1 | q1); omega; exact q q1)]
    · rcases hr with ⟨z1, z2⟩ | ⟨z1, z2, z3, z4⟩
      · rw [if_pos (Or.inl z1)]; dsimp only; rw [if_pos z2]
      · dsimp only
        rw [if_neg (show ¬ s.1 = 0 by rw [z2]; decide), z4]
        by_cases q : x.2.2.2 < s_ga ia a b c
        · rw [if_pos q, if_pos (Or.inr q)]
        · rw [if_neg q, if_neg (by rintro (q1 | q1); omega; exact q q1)]
theorem spi_R {m : Nat} {ia : Ia} (h : R_pa m ia) {a b : Nat} (ha : a < 5) (hb : b < 5) {s : Int32 × Int32 × Int32} {x : Q4} {t : Nat} (ht : t < 90) (hx : x.1 = nI t) (hr : (t = 0 ∧ s.1 = 0) ∨ (0 < t ∧ s.1 = 1 ∧ s.2.1 = x.2.2.1 ∧ s.2.2 = x.2.2.2)) : ∀ k, b + 1 + k ≤ 5 → ∃ t', t' ≤ t + k ∧ (r_ti (ia 39) (ia 40) a b x k).1 = nI t' ∧ ((t' = 0 ∧ (s_spi ia a b s k).1 = 0) ∨ (0 < t' ∧ (s_spi ia a b s k).1 = 1 ∧ (s_spi ia a b s k).2.1 = (r_ti (ia 39) (ia 40) a b x k).2.2.1 ∧ (s_spi ia a b s k).2.2 = (r_ti (ia 39) (ia 40) a b x k).2.2.2))
  | 0, _ => ⟨t, by omega, hx, hr⟩
  | k + 1, hk => by
    obtain ⟨t', i1, i2, i3⟩ := spi_R h ha hb ht hx hr k (by omega)
    obtain ⟨t'', j1, j2, j3⟩ := sp_step h ha hb (show b + 1 + k < 5 by omega) (by omega) i2 i3
    exact ⟨t'', by omega, j2, j3⟩
theorem spo_R {m : Nat} {ia : Ia} (h : R_pa m ia) {a : Nat} (ha : a < 5) {x : Q4} (hx : x.1 = 0) : ∀ k, k ≤ m → ∃ t', t' ≤ 5 * k ∧ (r_to (ia 39) (ia 40) m a x k).1 = nI t' ∧ ((t' = 0 ∧ (s_spo ia m a k).1 = 0) ∨ (0 < t' ∧ (s_spo ia m a k).1 = 1 ∧ (s_spo ia m a k).2.1 = (r_to (ia 39) (ia 40) m a x k).2.2.1 ∧ (s_spo ia m a k).2.2 = (r_to (ia 39) (ia 40) m a x k).2.2.2))
  | 0, _ => ⟨0, by omega, hx, Or.inl ⟨rfl, rfl⟩⟩
  | k + 1, hk => by
    have m5 := h.2.1
    obtain ⟨t', i1, i2, i3⟩ := spo_R h ha hx k (by omega)
    obtain ⟨t'', j1, j2, j3⟩ := spi_R h ha (show k < 5 by omega) (by omega) i2 i3 (m - (k + 1)) (by omega)
    exact ⟨t'', by omega, j2, j3⟩
theorem lo_R {m : Nat} {ia : Ia} (h : R_pa m ia) (sc : Sc) : ∀ k, k ≤ m → (r_lo sc (ia 39) (ia 40) m k).2 = s_ls ia m k ∧ -1 ≤ (s_ls ia m k).toInt ∧ ∀ j, j < 13 ∨ 17 ≤ j → (r_lo sc (ia 39) (ia 40) m k).1 j = sc j
  | 0, _ => ⟨rfl, (by decide : -1 ≤ (-1 : Int32).toInt), fun _ _ => rfl⟩
  | k + 1, hk => by
    have m5 := h.2.1
    obtain ⟨i1, i2, i3⟩ := lo_R h sc k (by omega)
    obtain ⟨t, t1, t2, t3⟩ := spo_R h (show k < 5 by omega) (x := r_x0 (r_lo sc (ia 39) (ia 40) m k).1) rfl m (Nat.le_refl m)
    have e : r_lo sc (ia 39) (ia 40) m (k + 1) = (r_ft (r_lo sc (ia 39) (ia 40) m k).1 (r_tt (r_lo sc (ia 39) (ia 40) m k).1 (ia 39) (ia 40) m k), if ¬ (r_tt (r_lo sc (ia 39) (ia 40) m k).1 (ia 39) (ia 40) m k).1 ≤ 0 ∧ ¬ (r_tt (r_lo sc (ia 39) (ia 40) m k).1 (ia 39) (ia 40) m k).2.2.2 - (r_tt (r_lo sc (ia 39) (ia 40) m k).1 (ia 39) (ia 40) m k).2.2.1 ≤ (r_lo sc (ia 39) (ia 40) m k).2 then (r_tt (r_lo sc (ia 39) (ia 40) m k).1 (ia 39) (ia 40) m k).2.2.2 - (r_tt (r_lo sc (ia 39) (ia 40) m k).1 (ia 39) (ia 40) m k).2.2.1 else (r_lo sc (ia 39) (ia 40) m k).2) := rfl
    have et : r_tt (r_lo sc (ia 39) (ia 40) m k).1 (ia 39) (ia 40) m k = r_to (ia 39) (ia 40) m k (r_x0 (r_lo sc (ia 39) (ia 40) m k).1) m := rfl
    rw [e, et]
    generalize r_to (ia 39) (ia 40) m k (r_x0 (r_lo sc (ia 39) (ia 40) m k).1) m = X at t2 t3
    have es : s_ls ia m (k + 1) = if s_ls ia m k < s_spr ia m k then s_spr ia m k else s_ls ia m k := rfl
    have h1 : (-1 : Int32).toInt = -1 := by decide
    refine ⟨?_, ?_, fun j hj => ?_⟩
    · dsimp only
      rw [i1, es]
      rcases t3 with ⟨z1, z2⟩ | ⟨z1, z2, z3, z4⟩
      · have q : s_spr ia m k = -1 := by unfold s_spr; rw [if_pos z2]
        rw [q, t2, z1, if_neg (by intro q9; exact q9.1 (by decide)), if_neg (by rw [Int32.lt_iff_toInt_lt, h1]; omega)]
      · have q : s_spr ia m k = X.2.2.2 - X.2.2.1 := by unfold s_spr; rw [if_neg (by rw [z2]; decide), z3, z4]
        have q0 : ¬ X.1 ≤ 0 := by rw [t2]; exact nI_nle z1 (by omega)
        rw [q]
        by_cases q2 : s_ls ia m k < X.2.2.2 - X.2.2.1
        · rw [if_pos q2, if_pos ⟨q0, Int32.not_le.mpr q2⟩]
        · rw [if_neg q2, if_neg (fun z => q2 (Int32.not_le.mp z.2))]
    · rw [es]
      split
      · rename_i q
        rw [Int32.lt_iff_toInt_lt] at q
        omega
      · exact i2
    · dsimp only
      rw [ft_keep _ _ j hj]
      exact i3 j hj
theorem op_loose {l : Launch} {G : Gv} {sc : Sc} {ia : Ia} {la : La} (hR : Rel sc ia) : OpI l G yX5_loose wsX5_loose yX6_loose wsX6_loose [] sc ia la := by
  obtain ⟨n, R, K, m, d, hS, hN, hSh, hPa, hDb⟩ := id hR
  obtain ⟨s0, s7, s3, s10, s4, s11, s5, s12, s6, s17⟩ := id hS
  obtain ⟨m3, m5, hp⟩ := id hPa
  obtain ⟨h1, h2, h3⟩ := lo_R hPa sc m (Nat.le_refl m)
  exact opI (c_X5_loose_ok l G sc ia la m s5 m5) (c_X6_loose_ok l G sc ia la m s12 (by omega) m5) h1 ⟨n, R, K, m, d, hS.ft h3, hN, hSh, hPa, hDb⟩
