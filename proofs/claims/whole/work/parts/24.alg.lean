/-! THE ALGEBRA of the fraction-free elimination over rows of +-1 -/
def pm1 (x : Int) : Prop := x = 1 ∨ x = -1
def D2 (a b : Nat → Int) (p x : Nat) : Int := a p * b x - b p * a x
def D3 (a b e : Nat → Int) (p q x : Nat) : Int := a p * (b q * e x - e q * b x) - b p * (a q * e x - e q * a x) + e p * (a q * b x - b q * a x)
def D4 (a b e g : Nat → Int) (p q s x : Nat) : Int := a p * D3 b e g q s x - b p * D3 a e g q s x + e p * D3 a b g q s x - g p * D3 a b e q s x
theorem id3 (a b e : Nat → Int) (p q x : Nat) : D2 a b p q * D2 a e p x - D2 a e p q * D2 a b p x = a p * D3 a b e p q x := by
  unfold D2 D3
  grind
set_option maxHeartbeats 4000000 in
theorem id4 (a b e g : Nat → Int) (p q s x : Nat) : D3 a b e p q s * D3 a b g p q x - D3 a b g p q s * D3 a b e p q x = D2 a b p q * D4 a b e g p q s x := by
  unfold D4 D2 D3
  generalize a p = ap
  generalize a q = aq
  generalize a s = as
  generalize a x = ax
  generalize b p = bp
  generalize b q = bq
  generalize b s = bs
  generalize b x = bx
  generalize e p = ep
  generalize e q = eq
  generalize e s = es
  generalize e x = ex
  generalize g p = gp
  generalize g q = gq
  generalize g s = gs
  generalize g x = gx
  grind
def pmB (b : Bool) : Int := if b then 1 else -1
theorem pm_B {x : Int} (h : pm1 x) : ∃ b, x = pmB b := by
  rcases h with h | h
  · exact ⟨true, h⟩
  · exact ⟨false, h⟩
theorem d3_bd : ∀ a1 a2 a3 b1 b2 b3 c1 c2 c3 : Bool, (pmB a1 * (pmB b2 * pmB c3 - pmB c2 * pmB b3) - pmB b1 * (pmB a2 * pmB c3 - pmB c2 * pmB a3) + pmB c1 * (pmB a2 * pmB b3 - pmB b2 * pmB a3)).natAbs ≤ 4 := by decide +kernel
theorem D3_bd {a b e : Nat → Int} {p q x : Nat} (ha : pm1 (a p) ∧ pm1 (a q) ∧ pm1 (a x)) (hb : pm1 (b p) ∧ pm1 (b q) ∧ pm1 (b x)) (he : pm1 (e p) ∧ pm1 (e q) ∧ pm1 (e x)) : (D3 a b e p q x).natAbs ≤ 4 := by
  obtain ⟨a1, e1⟩ := pm_B ha.1
  obtain ⟨a2, e2⟩ := pm_B ha.2.1
  obtain ⟨a3, e3⟩ := pm_B ha.2.2
  obtain ⟨b1, f1⟩ := pm_B hb.1
  obtain ⟨b2, f2⟩ := pm_B hb.2.1
  obtain ⟨b3, f3⟩ := pm_B hb.2.2
  obtain ⟨c1, g1⟩ := pm_B he.1
  obtain ⟨c2, g2⟩ := pm_B he.2.1
  obtain ⟨c3, g3⟩ := pm_B he.2.2
  unfold D3
  rw [e1, e2, e3, f1, f2, f3, g1, g2, g3]
  exact d3_bd a1 a2 a3 b1 b2 b3 c1 c2 c3
theorem D2_bd {a b : Nat → Int} {p x : Nat} (ha : pm1 (a p) ∧ pm1 (a x)) (hb : pm1 (b p) ∧ pm1 (b x)) : (D2 a b p x).natAbs ≤ 2 := by
  unfold D2
  rcases ha.1 with h1 | h1 <;> rcases ha.2 with h2 | h2 <;> rcases hb.1 with h3 | h3 <;> rcases hb.2 with h4 | h4 <;> rw [h1, h2, h3, h4] <;> decide
theorem pm_mul {x y : Int} (h : pm1 x) : (x * y).natAbs = y.natAbs := by
  rcases h with h | h <;> rw [h] <;> omega
theorem D4_bd {a b e g : Nat → Int} {p q s x : Nat} (ha : pm1 (a p) ∧ pm1 (a q) ∧ pm1 (a s) ∧ pm1 (a x)) (hb : pm1 (b p) ∧ pm1 (b q) ∧ pm1 (b s) ∧ pm1 (b x)) (he : pm1 (e p) ∧ pm1 (e q) ∧ pm1 (e s) ∧ pm1 (e x)) (hg : pm1 (g p) ∧ pm1 (g q) ∧ pm1 (g s) ∧ pm1 (g x)) : (D4 a b e g p q s x).natAbs ≤ 16 := by
  have k1 := D3_bd hb.2 he.2 hg.2
  have k2 := D3_bd ha.2 he.2 hg.2
  have k3 := D3_bd ha.2 hb.2 hg.2
  have k4 := D3_bd ha.2 hb.2 he.2
  have l1 := pm_mul (y := D3 b e g q s x) ha.1
  have l2 := pm_mul (y := D3 a e g q s x) hb.1
  have l3 := pm_mul (y := D3 a b g q s x) he.1
  have l4 := pm_mul (y := D3 a b e q s x) hg.1
  unfold D4
  generalize a p * D3 b e g q s x = z1 at l1 ⊢
  generalize b p * D3 a e g q s x = z2 at l2 ⊢
  generalize e p * D3 a b g q s x = z3 at l3 ⊢
  generalize g p * D3 a b e q s x = z4 at l4 ⊢
  omega
/-- what holds of the class's rows X behind k pivots, b the last one -/
def Cc (w h : Nat) (X : Nat → Nat → Int) (b : Int) : Nat → Prop
  | 0 => b = 1 ∧ (∀ r, r < h → ∀ c, c < w → pm1 (X r c)) ∧ (∀ r, r < h → ∀ s, s < h → (2 : Int) ∣ X r w - X s w)
  | 1 => ∃ (a : Nat → Int) (A : Nat → Nat → Int) (p : Nat), p < w ∧ (∀ c, c < w → pm1 (a c)) ∧ (∀ r, r < h → ∀ c, c < w → pm1 (A r c)) ∧ b = a p ∧ (∀ r, 1 ≤ r → r < h → ∀ x, x ≤ w → X r x = D2 a (A r) p x ∧ (2 : Int) ∣ X r x)
  | 2 => ∃ (a e : Nat → Int) (A : Nat → Nat → Int) (p q : Nat), p < w ∧ q < w ∧ (∀ c, c < w → pm1 (a c)) ∧ (∀ c, c < w → pm1 (e c)) ∧ (∀ r, r < h → ∀ c, c < w → pm1 (A r c)) ∧ b = D2 a e p q ∧ (b = 2 ∨ b = -2) ∧ (∀ r, 2 ≤ r → r < h → ∀ x, x ≤ w → X r x = D3 a e (A r) p q x ∧ (4 : Int) ∣ X r x) ∧ (∀ r, r < 2 → ∀ x, x ≤ w → (2 : Int) ∣ X r x)
  | 3 => ∃ (a e g : Nat → Int) (A : Nat → Nat → Int) (p q s : Nat), p < w ∧ q < w ∧ s < w ∧ (∀ c, c < w → pm1 (a c)) ∧ (∀ c, c < w → pm1 (e c)) ∧ (∀ c, c < w → pm1 (g c)) ∧ (∀ r, r < h → ∀ c, c < w → pm1 (A r c)) ∧ (b = 4 ∨ b = -4) ∧ (∀ r, 3 ≤ r → r < h → ∀ x, x ≤ w → X r x = D4 a e g (A r) p q s x ∧ (8 : Int) ∣ X r x) ∧ (∀ r, r < 3 → ∀ x, x ≤ w → (4 : Int) ∣ X r x)
  | 4 => (b = 8 ∨ b = -8 ∨ b = 16 ∨ b = -16) ∧ (∀ r, 4 ≤ r → r < h → ∀ x, x ≤ w → (16 : Int) ∣ X r x) ∧ (∀ r, r < 4 → ∀ x, x ≤ w → (8 : Int) ∣ X r x)
  | _ => True
/-- the class's step: every other row cleared of column q by row f -/
def ElimC (w h f q : Nat) (b : Int) (X X' : Nat → Nat → Int) : Prop := (∀ c, c ≤ w → X' f c = X f c) ∧ ∀ r, r < h → r ≠ f → ∀ c, c ≤ w → b * X' r c = X f q * X r c - X r q * X f c
theorem dv_mul {m n a b c d : Int} (h1 : m ∣ a) (h2 : n ∣ b) (h3 : n ∣ c) (h4 : m ∣ d) : m * n ∣ a * b - c * d := by
  obtain ⟨a, rfl⟩ := h1
  obtain ⟨b, rfl⟩ := h2
  obtain ⟨c, rfl⟩ := h3
  obtain ⟨d, rfl⟩ := h4
  exact ⟨a * b - c * d, by grind⟩
theorem dv_can {m b n x y : Int} (h : m ∣ y) (e : b * x = y) (hb : (b = n ∨ b = -n)) (hn : n ≠ 0) (k : Int) (hm : m = n * k) : k ∣ x := by
  obtain ⟨z, rfl⟩ := h
  subst hm
  rcases hb with rfl | rfl
  · exact ⟨z, Int.eq_of_mul_eq_mul_left hn (by grind)⟩
  · exact ⟨-z, Int.eq_of_mul_eq_mul_left hn (by grind)⟩
section ST
variable {w h q : Nat} {X X' : Nat → Nat → Int} {b : Int}
theorem Cc_0 (C : Cc w h X b 0) (hf : 0 < h) (hq : q < w) (E : ElimC w h 0 q b X X') : Cc w h X' (X 0 q) 1 := by
  obtain ⟨hb, h1, h2⟩ := C
  subst hb
  obtain ⟨E1, E2⟩ := E
  refine ⟨X 0, X, q, hq, h1 0 hf, h1, rfl, fun r hr1 hr x hx => ?_⟩
  have e := E2 r hr (by omega) x hx
  have e' : X' r x = X 0 q * X r x - X r q * X 0 x := by omega
  refine ⟨e', ?_⟩
  rw [e']
  rcases Nat.lt_or_ge x w with hw | hw
  · rcases h1 0 hf q hq with a1 | a1 <;> rcases h1 r hr q hq with a2 | a2 <;> rcases h1 0 hf x hw with a3 | a3 <;> rcases h1 r hr x hw with a4 | a4 <;> rw [a1, a2, a3, a4] <;> decide
  · have e9 : x = w := by omega
    subst e9
    have k := h2 r hr 0 hf
    rcases h1 0 hf q hq with a1 | a1 <;> rcases h1 r hr q hq with a2 | a2 <;> rw [a1, a2] <;> omega
theorem Cc_1 (C : Cc w h X b 1) (hf : 1 < h) (hq : q < w) (hz : X 1 q ≠ 0) (E : ElimC w h 1 q b X X') : Cc w h X' (X 1 q) 2 := by
  obtain ⟨a, A, p, hp, ha, hA, hb, hX⟩ := C
  obtain ⟨E1, E2⟩ := E
  have hb1 : b = 1 ∨ b = -1 := by rw [hb]; exact ha p hp
  have hX1 := fun x hx => hX 1 (by omega) hf x hx
  have hD : X 1 q = 2 ∨ X 1 q = -2 := by
    have k1 := D2_bd (a := a) (b := A 1) (p := p) (x := q) ⟨ha p hp, ha q hq⟩ ⟨hA 1 hf p hp, hA 1 hf q hq⟩
    obtain ⟨k2, k3⟩ := hX1 q (by omega)
    rw [← k2] at k1
    omega
  refine ⟨a, A 1, A, p, q, hp, hq, ha, hA 1 hf, hA, (hX1 q (by omega)).1, hD, fun r hr2 hr x hx => ?_, fun r hr x hx => ?_⟩
  · have e := E2 r hr (by omega) x hx
    obtain ⟨r1, r2⟩ := hX r (by omega) hr x hx
    obtain ⟨q1, q2⟩ := hX r (by omega) hr q (by omega)
    refine ⟨?_, ?_⟩
    · have k := id3 a (A 1) (A r) p q x
      rw [← (hX1 q (by omega)).1, ← r1, ← q1, ← (hX1 x hx).1, ← hb, ← e] at k
      exact Int.eq_of_mul_eq_mul_left (by omega) k
    · exact dv_can (n := 1) (dv_mul (m := 2) (n := 2) (hX1 q (by omega)).2 r2 q2 (hX1 x hx).2) e hb1 (by decide) 4 (by decide)
  · rcases (show r = 0 ∨ r = 1 by omega) with rfl | rfl
    · have e := E2 0 (by omega) (by omega) x hx
      exact dv_can (n := 1) (dv_mul (m := 2) (n := 1) (hX1 q (by omega)).2 (Int.one_dvd _) (Int.one_dvd _) (hX1 x hx).2) e hb1 (by decide) 2 (by decide)
    · rw [E1 x hx]; exact (hX1 x hx).2
theorem Cc_2 (C : Cc w h X b 2) (hf : 2 < h) (hq : q < w) (hz : X 2 q ≠ 0) (E : ElimC w h 2 q b X X') : Cc w h X' (X 2 q) 3 := by
  obtain ⟨a, e0, A, p, p2, hp, hp2, ha, he, hA, hb, hb2, hX, hY⟩ := C
  obtain ⟨E1, E2⟩ := E
  have hX2 := fun x hx => hX 2 (by omega) hf x hx
  have hD : X 2 q = 4 ∨ X 2 q = -4 := by
    have k1 := D3_bd (a := a) (b := e0) (e := A 2) (p := p) (q := p2) (x := q) ⟨ha p hp, ha p2 hp2, ha q hq⟩ ⟨he p hp, he p2 hp2, he q hq⟩ ⟨hA 2 hf p hp, hA 2 hf p2 hp2, hA 2 hf q hq⟩
    obtain ⟨k2, k3⟩ := hX2 q (by omega)
    rw [← k2] at k1
    omega
  refine ⟨a, e0, A 2, A, p, p2, q, hp, hp2, hq, ha, he, hA 2 hf, hA, hD, fun r hr2 hr x hx => ?_, fun r hr x hx => ?_⟩
  · have e := E2 r hr (by omega) x hx
    obtain ⟨r1, r2⟩ := hX r (by omega) hr x hx
    obtain ⟨q1, q2⟩ := hX r (by omega) hr q (by omega)
    refine ⟨?_, ?_⟩
    · have k := id4 a e0 (A 2) (A r) p p2 q x
      rw [← (hX2 q (by omega)).1, ← r1, ← q1, ← (hX2 x hx).1, ← hb, ← e] at k
      exact Int.eq_of_mul_eq_mul_left (by omega) k
    · exact dv_can (n := 2) (dv_mul (m := 4) (n := 4) (hX2 q (by omega)).2 r2 q2 (hX2 x hx).2) e hb2 (by decide) 8 (by decide)
  · by_cases h2 : r = 2
    · subst h2; rw [E1 x hx]; exact (hX2 x hx).2
    · have e := E2 r (by omega) h2 x hx
      exact dv_can (n := 2) (dv_mul (m := 4) (n := 2) (hX2 q (by omega)).2 (hY r (by omega) x hx) (hY r (by omega) q (by omega)) (hX2 x hx).2) e hb2 (by decide) 4 (by decide)
theorem Cc_3 (C : Cc w h X b 3) (hf : 3 < h) (hq : q < w) (hz : X 3 q ≠ 0) (E : ElimC w h 3 q b X X') : Cc w h X' (X 3 q) 4 := by
  obtain ⟨a, e0, g, A, p, p2, p3, hp, hp2, hp3, ha, he, hg, hA, hb2, hX, hY⟩ := C
  obtain ⟨E1, E2⟩ := E
  have hX3 := fun x hx => hX 3 (by omega) hf x hx
  have hD : X 3 q = 8 ∨ X 3 q = -8 ∨ X 3 q = 16 ∨ X 3 q = -16 := by
    have k1 := D4_bd (a := a) (b := e0) (e := g) (g := A 3) (p := p) (q := p2) (s := p3) (x := q) ⟨ha p hp, ha p2 hp2, ha p3 hp3, ha q hq⟩ ⟨he p hp, he p2 hp2, he p3 hp3, he q hq⟩ ⟨hg p hp, hg p2 hp2, hg p3 hp3, hg q hq⟩ ⟨hA 3 hf p hp, hA 3 hf p2 hp2, hA 3 hf p3 hp3, hA 3 hf q hq⟩
    obtain ⟨k2, k3⟩ := hX3 q (by omega)
    rw [← k2] at k1
    omega
  refine ⟨hD, fun r hr2 hr x hx => ?_, fun r hr x hx => ?_⟩
  · have e := E2 r hr (by omega) x hx
    exact dv_can (n := 4) (dv_mul (m := 8) (n := 8) (hX3 q (by omega)).2 (hX r (by omega) hr x hx).2 (hX r (by omega) hr q (by omega)).2 (hX3 x hx).2) e hb2 (by decide) 16 (by decide)
  · by_cases h2 : r = 3
    · subst h2; rw [E1 x hx]; exact (hX3 x hx).2
    · have e := E2 r (by omega) h2 x hx
      exact dv_can (n := 4) (dv_mul (m := 8) (n := 4) (hX3 q (by omega)).2 (hY r (by omega) x hx) (hY r (by omega) q (by omega)) (hX3 x hx).2) e hb2 (by decide) 8 (by decide)
theorem Cc_step {k : Nat} (hk : k < 5) (C : Cc w h X b k) (hf : k < h) (hq : q < w) (hz : X k q ≠ 0) (E : ElimC w h k q b X X') : Cc w h X' (X k q) (k + 1) := by
  rcases (show k = 0 ∨ k = 1 ∨ k = 2 ∨ k = 3 ∨ k = 4 by omega) with rfl | rfl | rfl | rfl | rfl
  · exact Cc_0 C hf hq E
  · exact Cc_1 C hf hq hz E
  · exact Cc_2 C hf hq hz E
  · exact Cc_3 C hf hq hz E
  · exact trivial
/-- the division is exact -/
theorem Cc_ex {k : Nat} (hk : k < 5) (C : Cc w h X b k) (hf : k < h) (hq : q < w) : b ≠ 0 ∧ ∀ r, r < h → r ≠ k → ∀ x, x ≤ w → b ∣ X k q * X r x - X r q * X k x := by
  rcases (show k = 0 ∨ k = 1 ∨ k = 2 ∨ k = 3 ∨ k = 4 by omega) with rfl | rfl | rfl | rfl | rfl
  · obtain ⟨hb, -⟩ := C
    subst hb
    exact ⟨by decide, fun r _ _ x _ => Int.one_dvd _⟩
  · obtain ⟨a, A, p, hp, ha, hA, hb, hX⟩ := C
    have hb1 : b = 1 ∨ b = -1 := by rw [hb]; exact ha p hp
    refine ⟨by omega, fun r _ _ x _ => ?_⟩
    rcases hb1 with e | e <;> rw [e]
    · exact Int.one_dvd _
    · exact Int.neg_dvd.mpr (Int.one_dvd _)
  · obtain ⟨a, e0, A, p, p2, hp, hp2, ha, he, hA, hb, hb2, hX, hY⟩ := C
    refine ⟨by omega, fun r hr hne x hx => ?_⟩
    have hr2 : ∀ y, y ≤ w → (2 : Int) ∣ X r y := fun y hy => by
      rcases Nat.lt_or_ge r 2 with z | z
      · exact hY r z y hy
      · exact Int.dvd_trans (by decide) (hX r z hr y hy).2
    have hd := dv_mul (m := 4) (n := 2) (hX 2 (by omega) hf q (by omega)).2 (hr2 x hx) (hr2 q (by omega)) (hX 2 (by omega) hf x hx).2
    rcases hb2 with e | e <;> rw [e]
    · exact Int.dvd_trans (by decide) hd
    · exact Int.dvd_trans (by decide) hd
  · obtain ⟨a, e0, g, A, p, p2, p3, hp, hp2, hp3, ha, he, hg, hA, hb2, hX, hY⟩ := C
    refine ⟨by omega, fun r hr hne x hx => ?_⟩
    have hr2 : ∀ y, y ≤ w → (4 : Int) ∣ X r y := fun y hy => by
      rcases Nat.lt_or_ge r 3 with z | z
      · exact hY r z y hy
      · exact Int.dvd_trans (by decide) (hX r z hr y hy).2
    have hd := dv_mul (m := 8) (n := 4) (hX 3 (by omega) hf q (by omega)).2 (hr2 x hx) (hr2 q (by omega)) (hX 3 (by omega) hf x hx).2
    rcases hb2 with e | e <;> rw [e]
    · exact Int.dvd_trans (by decide) hd
    · exact Int.dvd_trans (by decide) hd
  · obtain ⟨hb, hX, hY⟩ := C
    refine ⟨by omega, fun r hr hne x hx => ?_⟩
    have hr2 : ∀ y, y ≤ w → (8 : Int) ∣ X r y := fun y hy => by
      rcases Nat.lt_or_ge r 4 with z | z
      · exact hY r z y hy
      · exact Int.dvd_trans (by decide) (hX r z hr y hy)
    have hd := dv_mul (m := 16) (n := 8) (hX 4 (by omega) hf q (by omega)) (hr2 x hx) (hr2 q (by omega)) (hX 4 (by omega) hf x hx)
    rcases hb with e | e | e | e <;> rw [e] <;> exact Int.dvd_trans (by decide) hd
theorem sg_lt {f s r k : Nat} (hf : k ≤ f) (hs : k ≤ s) (hr : r < k) : t_sg f s r = r := by
  unfold t_sg; rw [if_neg (by omega), if_neg (by omega)]
theorem sg_ge {f s r k : Nat} (hf : k ≤ f) (hs : k ≤ s) (hr : k ≤ r) : k ≤ t_sg f s r := by
  unfold t_sg; split; exact hs; split; exact hf; exact hr
theorem sg_h {f s r : Nat} (hf : f < h) (hs : s < h) (hr : r < h) : t_sg f s r < h := by
  unfold t_sg; split; exact hs; split; exact hf; exact hr
theorem Cc_swap {k f s : Nat} (C : Cc w h X b k) (hkf : k ≤ f) (hks : k ≤ s) (hf : f < h) (hs : s < h) (hX : ∀ r, r < h → ∀ c, c ≤ w → X' r c = X (t_sg f s r) c) : Cc w h X' b k := by
  have lo : ∀ r, r < k → ∀ c, c ≤ w → X' r c = X r c := fun r hr c hc => by rw [hX r (by omega) c hc, sg_lt hkf hks hr]
  match k, C, hkf, hks, lo with
  | 0, C, hkf, hks, lo =>
    obtain ⟨c1, c2, c3⟩ := C
    refine ⟨c1, fun r hr c hc => ?_, fun r hr t ht => ?_⟩
    · rw [hX r hr c (by omega)]; exact c2 _ (sg_h hf hs hr) c hc
    · rw [hX r hr w (by omega), hX t ht w (by omega)]; exact c3 _ (sg_h hf hs hr) _ (sg_h hf hs ht)
  | 1, C, hkf, hks, lo =>
    obtain ⟨a, A, p, hp, ha, hA, hb, hY⟩ := C
    refine ⟨a, fun r => A (t_sg f s r), p, hp, ha, fun r hr => hA _ (sg_h hf hs hr), hb, fun r hr1 hr x hx => ?_⟩
    rw [hX r hr x hx]; exact hY _ (sg_ge hkf hks hr1) (sg_h hf hs hr) x hx
  | 2, C, hkf, hks, lo =>
    obtain ⟨a, e0, A, p, p2, hp, hp2, ha, he, hA, hb, hb2, hY, hZ⟩ := C
    refine ⟨a, e0, fun r => A (t_sg f s r), p, p2, hp, hp2, ha, he, fun r hr => hA _ (sg_h hf hs hr), hb, hb2, fun r hr1 hr x hx => ?_, fun r hr x hx => ?_⟩
    · rw [hX r hr x hx]; exact hY _ (sg_ge hkf hks hr1) (sg_h hf hs hr) x hx
    · rw [lo r hr x hx]; exact hZ r hr x hx
  | 3, C, hkf, hks, lo =>
    obtain ⟨a, e0, g, A, p, p2, p3, hp, hp2, hp3, ha, he, hg, hA, hb2, hY, hZ⟩ := C
    refine ⟨a, e0, g, fun r => A (t_sg f s r), p, p2, p3, hp, hp2, hp3, ha, he, hg, fun r hr => hA _ (sg_h hf hs hr), hb2, fun r hr1 hr x hx => ?_, fun r hr x hx => ?_⟩
    · rw [hX r hr x hx]; exact hY _ (sg_ge hkf hks hr1) (sg_h hf hs hr) x hx
    · rw [lo r hr x hx]; exact hZ r hr x hx
  | 4, C, hkf, hks, lo =>
    obtain ⟨hb, hY, hZ⟩ := C
    refine ⟨hb, fun r hr1 hr x hx => ?_, fun r hr x hx => ?_⟩
    · rw [hX r hr x hx]; exact hY _ (sg_ge hkf hks hr1) (sg_h hf hs hr) x hx
    · rw [lo r hr x hx]; exact hZ r hr x hx
  | k + 5, C, hkf, hks, lo => exact trivial
end ST
/-! bounds, and rows that say the same -/
def mL : Nat → Nat
  | 0 => 1
  | k + 1 => 2 * mL k * mL k
def mR : Nat → Nat
  | 0 => 32768
  | k + 1 => 2 * mL k * mR k
def mB (w h k : Nat) (X : Nat → Nat → Int) : Prop := ∀ r, r < h → (∀ c, c < w → (X r c).natAbs ≤ mL k) ∧ (X r w).natAbs ≤ mR k
theorem mL_pos : ∀ k, 1 ≤ mL k
  | 0 => Nat.le_refl 1
  | k + 1 => by
    have := mL_pos k
    have h2 : 1 * 1 ≤ mL k * mL k := Nat.mul_le_mul this this
    show 1 ≤ 2 * mL k * mL k
    rw [Nat.mul_assoc]; omega
theorem mL_le (k : Nat) : mL k ≤ mL (k + 1) := by
  have h1 := mL_pos k
  have h2 : 1 * mL k ≤ mL k * mL k := Nat.mul_le_mul_right _ h1
  show mL k ≤ 2 * mL k * mL k
  rw [Nat.mul_assoc]; omega
theorem mR_le (k : Nat) : mR k ≤ mR (k + 1) := by
  have h1 := mL_pos k
  have h2 : 1 * mR k ≤ mL k * mR k := Nat.mul_le_mul_right _ h1
  show mR k ≤ 2 * mL k * mR k
  rw [Nat.mul_assoc]; omega
/-- a step of either side: row f stands; of every other row a multiple is the row cleared by row f (or, where it was clear, itself) -/
def ElimR (w h f q : Nat) (X X' : Nat → Nat → Int) : Prop := (∀ c, c ≤ w → X' f c = X f c) ∧ ∀ r, r < h → r ≠ f → ∃ g : Int, g ≠ 0 ∧ ((∀ c, c ≤ w → g * X' r c = X f q * X r c - X r q * X f c) ∨ (X r q = 0 ∧ ∀ c, c ≤ w → g * X' r c = X r c))
theorem ElimC.toR {w h f q : Nat} {b : Int} {X X' : Nat → Nat → Int} (hb : b ≠ 0) (E : ElimC w h f q b X X') : ElimR w h f q X X' := ⟨E.1, fun r hr hn => ⟨b, hb, Or.inl (E.2 r hr hn)⟩⟩
theorem abs_g {g x y : Int} (hg : g ≠ 0) (h : g * x = y) : x.natAbs ≤ y.natAbs := by
  rw [← h, Int.natAbs_mul]
  exact Nat.le_mul_of_pos_left _ (by omega)
theorem abs_lin {a b c d : Int} {P Q : Nat} (ha : a.natAbs ≤ P) (hb : b.natAbs ≤ Q) (hc : c.natAbs ≤ P) (hd : d.natAbs ≤ Q) : (a * b - c * d).natAbs ≤ 2 * P * Q := by
  have h1 : (a * b).natAbs ≤ P * Q := by rw [Int.natAbs_mul]; exact Nat.mul_le_mul ha hb
  have h2 : (c * d).natAbs ≤ P * Q := by rw [Int.natAbs_mul]; exact Nat.mul_le_mul hc hd
  generalize a * b = x at h1
  generalize c * d = y at h2
  rw [Nat.mul_assoc]
  generalize P * Q = z at h1 h2
  omega
theorem ElimR.bd {w h f q k : Nat} {X X' : Nat → Nat → Int} (E : ElimR w h f q X X') (hf : f < h) (hq : q < w) (hB : mB w h k X) : mB w h (k + 1) X' := by
  obtain ⟨E1, E2⟩ := E
  intro r hr
  by_cases e : r = f
  · subst e
    refine ⟨fun c hc => ?_, ?_⟩
    · rw [E1 c (by omega)]; exact Nat.le_trans ((hB r hr).1 c hc) (mL_le k)
    · rw [E1 w (by omega)]; exact Nat.le_trans (hB r hr).2 (mR_le k)
  · obtain ⟨g, hg, h1 | ⟨h0, h1⟩⟩ := E2 r hr e
    · refine ⟨fun c hc => ?_, ?_⟩
      · exact Nat.le_trans (abs_g hg (h1 c (by omega))) (abs_lin ((hB f hf).1 q hq) ((hB r hr).1 c hc) ((hB r hr).1 q hq) ((hB f hf).1 c hc))
      · exact Nat.le_trans (abs_g hg (h1 w (by omega))) (abs_lin ((hB f hf).1 q hq) (hB r hr).2 ((hB r hr).1 q hq) (hB f hf).2)
    · refine ⟨fun c hc => ?_, ?_⟩
      · exact Nat.le_trans (Nat.le_trans (abs_g hg (h1 c (by omega))) ((hB r hr).1 c hc)) (mL_le k)
      · exact Nat.le_trans (Nat.le_trans (abs_g hg (h1 w (by omega))) (hB r hr).2) (mR_le k)
def Same (w h : Nat) (X Y : Nat → Nat → Int) : Prop := ∀ r, r < h → ∃ α β : Int, α ≠ 0 ∧ β ≠ 0 ∧ ∀ c, c ≤ w → α * X r c = β * Y r c
theorem Same.z {w h : Nat} {X Y : Nat → Nat → Int} (S : Same w h X Y) {r c : Nat} (hr : r < h) (hc : c ≤ w) : X r c = 0 ↔ Y r c = 0 := by
  obtain ⟨α, β, ha, hb, e⟩ := S r hr
  have e := e c hc
  constructor
  · intro q
    rw [q, Int.mul_zero] at e
    rcases Int.mul_eq_zero.mp e.symm with z | z
    · exact absurd z hb
    · exact z
  · intro q
    rw [q, Int.mul_zero] at e
    rcases Int.mul_eq_zero.mp e with z | z
    · exact absurd z ha
    · exact z
theorem Same.swap {w h f s : Nat} {X Y X' Y' : Nat → Nat → Int} (S : Same w h X Y) (hf : f < h) (hs : s < h) (hX : ∀ r, r < h → ∀ c, c ≤ w → X' r c = X (t_sg f s r) c) (hY : ∀ r, r < h → ∀ c, c ≤ w → Y' r c = Y (t_sg f s r) c) : Same w h X' Y' := by
  intro r hr
  obtain ⟨α, β, ha, hb, e⟩ := S (t_sg f s r) (sg_h hf hs hr)
  exact ⟨α, β, ha, hb, fun c hc => by rw [hX r hr c hc, hY r hr c hc]; exact e c hc⟩
theorem mB.swap {w h f s k : Nat} {X X' : Nat → Nat → Int} (B : mB w h k X) (hf : f < h) (hs : s < h) (hX : ∀ r, r < h → ∀ c, c ≤ w → X' r c = X (t_sg f s r) c) : mB w h k X' := by
  intro r hr
  obtain ⟨b1, b2⟩ := B (t_sg f s r) (sg_h hf hs hr)
  exact ⟨fun c hc => by rw [hX r hr c (by omega)]; exact b1 c hc, by rw [hX r hr w (by omega)]; exact b2⟩
theorem Same.elim {w h f q : Nat} {b : Int} {X X' Y Y' : Nat → Nat → Int} (S : Same w h X Y) (hf : f < h) (hq : q < w) (hz : X f q ≠ 0) (hb : b ≠ 0) (EX : ElimC w h f q b X X') (EY : ElimR w h f q Y Y') : Same w h X' Y' := by
  intro r hr
  obtain ⟨x1, x2⟩ := EX
  obtain ⟨y1, y2⟩ := EY
  obtain ⟨α', β', ha', hb', e'⟩ := S f hf
  by_cases er : r = f
  · subst er
    exact ⟨α', β', ha', hb', fun c hc => by rw [x1 c hc, y1 c hc]; exact e' c hc⟩
  · obtain ⟨α, β, ha, hβ, e⟩ := S r hr
    obtain ⟨g, hg, h1 | ⟨h0, h1⟩⟩ := y2 r hr er
    · refine ⟨α * α' * b, β * β' * g, Int.mul_ne_zero (Int.mul_ne_zero ha ha') hb, Int.mul_ne_zero (Int.mul_ne_zero hβ hb') hg, fun c hc => ?_⟩
      have k1 := x2 r hr er c hc
      have k2 := h1 c hc
      have k3 := e c hc
      have k4 := e q (by omega)
      have k5 := e' c hc
      have k6 := e' q (by omega)
      calc α * α' * b * X' r c = α * α' * (b * X' r c) := by grind
        _ = (α' * X f q) * (α * X r c) - (α * X r q) * (α' * X f c) := by rw [k1]; grind
        _ = (β' * Y f q) * (β * Y r c) - (β * Y r q) * (β' * Y f c) := by rw [k3, k4, k5, k6]
        _ = β * β' * (g * Y' r c) := by rw [k2]; grind
        _ = β * β' * g * Y' r c := by grind
    · have hx0 : X r q = 0 := (S.z hr (by omega)).mpr h0
      refine ⟨α * b, X f q * β * g, Int.mul_ne_zero ha hb, Int.mul_ne_zero (Int.mul_ne_zero hz hβ) hg, fun c hc => ?_⟩
      have k1 := x2 r hr er c hc
      have k2 := h1 c hc
      have k3 := e c hc
      rw [hx0] at k1
      calc α * b * X' r c = α * (b * X' r c) := by grind
        _ = X f q * (α * X r c) := by rw [k1]; grind
        _ = X f q * β * Y r c := by rw [k3]; grind
        _ = X f q * β * g * Y' r c := by rw [← k2]; grind
