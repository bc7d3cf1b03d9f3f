/-! BOTH ELIMINATIONS, column by column -/
def cm (w c : Nat) : Nat := if c = w then 5 else c
def mZ (la : La) : Nat → Nat → Int := fun r c => (la r c).toInt
def fZ (w : Nat) (F : Nat → Int64) : Nat → Nat → Int := fun r c => (F (6 * r + cm w c)).toInt
theorem cm_lt {w c : Nat} (hw : w ≤ 5) (hc : c ≤ w) : cm w c < 6 ∧ r_inc w (cm w c) = true := by
  unfold cm r_inc
  by_cases e : c = w
  · rw [if_pos e]; simp
  · rw [if_neg e]
    refine ⟨by omega, ?_⟩
    have : c < w := by omega
    simp [this]
theorem cm_of {w c : Nat} (hc : c < 6) (hi : r_inc w c = true) : ∃ e, e ≤ w ∧ cm w e = c := by
  unfold r_inc at hi
  simp only [Bool.or_eq_true, decide_eq_true_eq] at hi
  by_cases h : c < w
  · exact ⟨c, by omega, by unfold cm; rw [if_neg (by omega)]⟩
  · exact ⟨w, by omega, by unfold cm; rw [if_pos rfl]; omega⟩
theorem cm_q {w q : Nat} (h : q < w) : cm w q = q := by unfold cm; rw [if_neg (by omega)]
theorem g_dvd (PV : Nat → Nat) (L : Nat) : ∀ k c, c < k → r_inc L c = true → r_g PV L k ∣ PV c
  | 0, c, h, _ => by omega
  | k + 1, c, h, hi => by
    unfold r_g
    by_cases q : r_inc L k = true
    · rw [if_pos q]
      by_cases e : c = k
      · subst e; exact Nat.gcd_dvd_left _ _
      · exact Nat.dvd_trans (Nat.gcd_dvd_right _ _) (g_dvd PV L k c (by omega) hi)
    · rw [if_neg q]
      exact g_dvd PV L k c (by
        rcases Nat.lt_or_ge c k with z | z
        · exact z
        · exact absurd ((show c = k by omega) ▸ hi) q) hi
def RowR (w q t r : Nat) (X X' : Nat → Nat → Int) : Prop := ∃ g : Int, g ≠ 0 ∧ ((∀ c, c ≤ w → g * X' r c = X t q * X r c - X r q * X t c) ∨ (X r q = 0 ∧ ∀ c, c ≤ w → g * X' r c = X r c))
theorem clr_row {F : Nat → Int64} {r t q w : Nat} (hw : w ≤ 5) (hrt : r ≠ t) (hq : q < w) (hB : ∀ c, c ≤ w → (fZ w F r c * fZ w F t q).natAbs ≤ 2 ^ 60 ∧ (fZ w F t c * fZ w F r q).natAbs ≤ 2 ^ 60) : r_good F r t q w ∧ (∀ i c, i ≠ r → c < 6 → r_clr F r t q w (6 * i + c) = F (6 * i + c)) ∧ RowR w q t r (fZ w F) (fZ w (r_clr F r t q w)) := by
  have hnew : ∀ c, c ≤ w → (F (6 * r + cm w c) * F (6 * t + q) - F (6 * t + cm w c) * F (6 * r + q)).toInt = fZ w F r c * fZ w F t q - fZ w F t c * fZ w F r q ∧ (F (6 * r + cm w c) * F (6 * t + q) - F (6 * t + cm w c) * F (6 * r + q)).toInt.natAbs < 2 ^ 62 := by
    intro c hc
    obtain ⟨b1, b2⟩ := hB c hc
    unfold fZ at b1 b2
    rw [cm_q hq] at b1 b2
    have e := l_lin b1 b2
    unfold fZ
    rw [cm_q hq, e]
    refine ⟨rfl, ?_⟩
    generalize (F (6 * r + cm w c)).toInt * (F (6 * t + q)).toInt = x at b1
    generalize (F (6 * t + cm w c)).toInt * (F (6 * r + q)).toInt = y at b2
    omega
  have hnw : ∀ c, c < 6 → r_nw (r_c1 F r t (F (6 * r + q)) (F (6 * t + q)) w c) r t (F (6 * r + q)) (F (6 * t + q)) c = F (6 * r + c) * F (6 * t + q) - F (6 * t + c) * F (6 * r + q) := by
    intro c hc
    unfold r_nw
    rw [c1_at F hrt _ _ w c r c hc (by omega), if_neg (by omega), c1_at F hrt _ _ w c t c hc (by omega), if_neg (by omega)]
  have hgood : r_good F r t q w := by
    intro c hc hi
    obtain ⟨e, he, rfl⟩ := cm_of hc hi
    have h1 := (hnew e he).2
    unfold r_pv
    rw [hnw _ hc]
    exact ⟨l_ab h1, h1⟩
  have hgl : r_gg F r t q w < 2 ^ 62 := r_g_lt _ w (fun c hc hi => (hgood c hc hi).2) 6 (Nat.le_refl 6)
  refine ⟨hgood, fun i c hi hc => ?_, ?_⟩
  · unfold r_clr
    split
    · rfl
    · split
      · rw [c2_at _ r _ w 6 i c hc (by omega), if_neg (fun z => hi z.1), c1_at F hrt _ _ w 6 i c hc (by omega), if_neg (fun z => hi z.1)]
      · rw [c1_at F hrt _ _ w 6 i c hc (by omega), if_neg (fun z => hi z.1)]
  · by_cases h0 : F (6 * r + q) = 0
    · refine ⟨1, by decide, Or.inr ⟨?_, fun c hc => ?_⟩⟩
      · unfold fZ; rw [cm_q hq]; exact (l_z _).mp h0
      · have : r_clr F r t q w = F := by unfold r_clr; rw [if_pos h0]
        rw [this, Int.one_mul]
    · have hc1 : ∀ c, c ≤ w → r_c1 F r t (F (6 * r + q)) (F (6 * t + q)) w 6 (6 * r + cm w c) = F (6 * r + cm w c) * F (6 * t + q) - F (6 * t + cm w c) * F (6 * r + q) := by
        intro c hc
        obtain ⟨k1, k2⟩ := cm_lt hw hc
        rw [c1_at F hrt _ _ w 6 r _ k1 (by omega), if_pos ⟨rfl, k1, k2⟩]
      by_cases hg : 1 < r_gg F r t q w
      · have e : r_clr F r t q w = r_c2 (r_c1 F r t (F (6 * r + q)) (F (6 * t + q)) w 6) r (r_gg F r t q w) w 6 := by unfold r_clr; rw [if_neg h0, if_pos hg]
        refine ⟨(r_gg F r t q w : Int), by omega, Or.inl (fun c hc => ?_)⟩
        obtain ⟨k1, k2⟩ := cm_lt hw hc
        rw [e]
        unfold fZ
        rw [c2_at _ r _ w 6 r _ k1 (by omega), if_pos ⟨rfl, k1, k2⟩, hc1 c hc]
        have hd : r_gg F r t q w ∣ (F (6 * r + cm w c) * F (6 * t + q) - F (6 * t + cm w c) * F (6 * r + q)).toInt.natAbs := by
          have := g_dvd (r_pv F r t (F (6 * r + q)) (F (6 * t + q)) w) w 6 (cm w c) k1 k2
          unfold r_pv at this
          rw [hnw _ k1] at this
          exact this
        obtain ⟨y, hy⟩ := Int.natAbs_dvd_natAbs.mp (show ((r_gg F r t q w : Int)).natAbs ∣ _ from hd)
        have ht : (lN (r_gg F r t q w)).toInt = (r_gg F r t q w : Int) := pk_lT (by omega)
        have hdv := l_div (x := F (6 * r + cm w c) * F (6 * t + q) - F (6 * t + cm w c) * F (6 * r + q)) (b := lN (r_gg F r t q w)) (y := y) (by rw [ht]; omega) (by rw [ht]; exact hy) (Nat.le_of_lt (hnew c hc).2)
        rw [hdv, ← hy, (hnew c hc).1]
        unfold fZ
        rw [Int.mul_comm (F (6 * r + cm w c)).toInt, Int.mul_comm (F (6 * t + cm w c)).toInt]
      · have e : r_clr F r t q w = r_c1 F r t (F (6 * r + q)) (F (6 * t + q)) w 6 := by unfold r_clr; rw [if_neg h0, if_neg hg]
        refine ⟨1, by decide, Or.inl (fun c hc => ?_)⟩
        rw [e, Int.one_mul]
        show (r_c1 F r t (F (6 * r + q)) (F (6 * t + q)) w 6 (6 * r + cm w c)).toInt = _
        rw [hc1 c hc, (hnew c hc).1, Int.mul_comm (fZ w F r c), Int.mul_comm (fZ w F t c)]
theorem cs_rows {F : Nat → Int64} {t q w h : Nat} (hw : w ≤ 5) (hq : q < w) (hB : ∀ r, r < h → ∀ c, c ≤ w → (fZ w F r c * fZ w F t q).natAbs ≤ 2 ^ 60 ∧ (fZ w F t c * fZ w F r q).natAbs ≤ 2 ^ 60) : ∀ k, k ≤ h → (∀ i c, c < 6 → (k ≤ i ∨ i = t) → r_cs F t q w k (6 * i + c) = F (6 * i + c)) ∧ (∀ i, i < k → i ≠ t → RowR w q t i (fZ w F) (fZ w (r_cs F t q w k))) ∧ (k < h → k ≠ t → r_good (r_cs F t q w k) k t q w) := by
  have key : ∀ k, k < h → k ≠ t → (∀ i c, c < 6 → (k ≤ i ∨ i = t) → r_cs F t q w k (6 * i + c) = F (6 * i + c)) → r_good (r_cs F t q w k) k t q w ∧ (∀ i c, i ≠ k → c < 6 → r_clr (r_cs F t q w k) k t q w (6 * i + c) = r_cs F t q w k (6 * i + c)) ∧ RowR w q t k (fZ w F) (fZ w (r_clr (r_cs F t q w k) k t q w)) := by
    intro k hk hkt h1
    have hz : ∀ i, (k ≤ i ∨ i = t) → ∀ c, c ≤ w → fZ w (r_cs F t q w k) i c = fZ w F i c := fun i hi c hc => by
      unfold fZ; rw [h1 i _ (cm_lt hw hc).1 hi]
    have r := clr_row (F := r_cs F t q w k) (r := k) (t := t) (q := q) (w := w) hw hkt hq (fun c hc => by
      rw [hz k (by omega) c hc, hz t (by omega) q (by omega), hz t (by omega) c hc, hz k (by omega) q (by omega)]
      exact hB k hk c hc)
    refine ⟨r.1, r.2.1, ?_⟩
    obtain ⟨g, hg, r1⟩ := r.2.2
    refine ⟨g, hg, ?_⟩
    rcases r1 with r1 | ⟨r0, r1⟩
    · left
      intro c hc
      rw [r1 c hc, hz k (by omega) c hc, hz t (by omega) q (by omega), hz t (by omega) c hc, hz k (by omega) q (by omega)]
    · right
      refine ⟨by rw [← hz k (by omega) q (by omega)]; exact r0, fun c hc => ?_⟩
      rw [r1 c hc, hz k (by omega) c hc]
  intro k
  induction k with
  | zero =>
    intro _
    refine ⟨fun i c _ _ => rfl, fun i hi => by omega, fun h1 h2 => (key 0 h1 h2 (fun i c _ _ => rfl)).1⟩
  | succ k ih =>
    intro hk
    obtain ⟨i1, i2, i3⟩ := ih (by omega)
    have e : r_cs F t q w (k + 1) = if k = t then r_cs F t q w k else r_clr (r_cs F t q w k) k t q w := rfl
    have A : (∀ i c, c < 6 → (k + 1 ≤ i ∨ i = t) → r_cs F t q w (k + 1) (6 * i + c) = F (6 * i + c)) ∧ (∀ i, i < k + 1 → i ≠ t → RowR w q t i (fZ w F) (fZ w (r_cs F t q w (k + 1)))) := by
      by_cases ek : k = t
      · rw [e, if_pos ek]
        exact ⟨fun i c hc hi => i1 i c hc (by omega), fun i hi hit => i2 i (by omega) hit⟩
      · obtain ⟨k1, k2, k3⟩ := key k (by omega) ek i1
        rw [e, if_neg ek]
        refine ⟨fun i c hc hi => by rw [k2 i c (by omega) hc]; exact i1 i c hc (by omega), fun i hi hit => ?_⟩
        by_cases ei : i = k
        · subst ei; exact k3
        · obtain ⟨g, hg, r1⟩ := i2 i (by omega) hit
          have hz : ∀ c, c ≤ w → fZ w (r_clr (r_cs F t q w k) k t q w) i c = fZ w (r_cs F t q w k) i c := fun c hc => by
            unfold fZ; rw [k2 i _ ei (cm_lt hw hc).1]
          refine ⟨g, hg, ?_⟩
          rcases r1 with r1 | ⟨r0, r1⟩
          · left; intro c hc; rw [hz c hc]; exact r1 c hc
          · right; exact ⟨r0, fun c hc => by rw [hz c hc]; exact r1 c hc⟩
    exact ⟨A.1, A.2, fun h1 h2 => (key (k + 1) h1 h2 A.1).1⟩
theorem m4 {k : Nat} (h : k < 5) : mL k ≤ 32768 ∧ mR k ≤ 2 ^ 30 := by
  rcases (show k = 0 ∨ k = 1 ∨ k = 2 ∨ k = 3 ∨ k = 4 by omega) with rfl | rfl | rfl | rfl | rfl <;> decide
theorem m5 {k : Nat} (h : k ≤ 5) : mL k ≤ 2 ^ 31 ∧ mR k ≤ 2 ^ 46 := by
  rcases (show k = 0 ∨ k = 1 ∨ k = 2 ∨ k = 3 ∨ k = 4 ∨ k = 5 by omega) with rfl | rfl | rfl | rfl | rfl | rfl <;> decide
theorem mB.prod {w h k r f q c : Nat} {X : Nat → Nat → Int} (B : mB w h k X) (hk : k < 5) (hr : r < h) (hf : f < h) (hq : q < w) (hc : c ≤ w) : (X r c * X f q).natAbs ≤ 2 ^ 60 ∧ (X f q * X r c).natAbs ≤ 2 ^ 60 := by
  obtain ⟨l1, l2⟩ := m4 hk
  have h1 : (X f q).natAbs ≤ 32768 := Nat.le_trans ((B f hf).1 q hq) l1
  have h2 : (X r c).natAbs ≤ 2 ^ 30 := by
    rcases Nat.lt_or_ge c w with z | z
    · exact Nat.le_trans ((B r hr).1 c z) (Nat.le_trans l1 (by decide))
    · have : c = w := by omega
      subst this
      exact Nat.le_trans (B r hr).2 l2
  rw [Int.natAbs_mul, Int.natAbs_mul]
  exact ⟨Nat.le_trans (Nat.mul_le_mul h2 h1) (by decide), Nat.le_trans (Nat.mul_le_mul h1 h2) (by decide)⟩
def Inv (w h : Nat) (x : Nat × Int64 × La) (y : E3) (c : Nat) : Prop := x.1 = y.1 ∧ x.1 ≤ c ∧ x.1 ≤ h ∧ Cc w h (mZ x.2.2) x.2.1.toInt x.1 ∧ mB w h x.1 (mZ x.2.2) ∧ mB w h x.1 (fZ w y.2.2) ∧ Same w h (mZ x.2.2) (fZ w y.2.2) ∧ (x.1 = c → ∀ i, i < c → y.2.1 i = nI i ∧ mZ x.2.2 i i ≠ 0 ∧ ∀ r, r < h → r ≠ i → mZ x.2.2 r i = 0)
/-- the class's step in longs -/
theorem cc_elim {la : La} {f q w h k : Nat} {b : Int64} (hk : k < 5) (hf : f < h) (hq : q < w) (hB : mB w h k (mZ la)) (hb : b.toInt ≠ 0) (hd : ∀ r, r < h → r ≠ f → ∀ x, x ≤ w → b.toInt ∣ mZ la f q * mZ la r x - mZ la r q * mZ la f x) : ElimC w h f q b.toInt (mZ la) (mZ (s_cc la f q w b h)) := by
  refine ⟨fun c hc => ?_, fun r hr hn c hc => ?_⟩
  · unfold mZ; rw [cc_at, if_neg (fun z => z.2.1 rfl)]
  · obtain ⟨y, hy⟩ := hd r hr hn c hc
    have p1 := (hB.prod hk hr hf hq hc).2
    have p2 := (hB.prod hk hf hr hq hc).2
    have e : (la f q * la r c - la r q * la f c).toInt = mZ la f q * mZ la r c - mZ la r q * mZ la f c := l_lin p1 p2
    have hx : (la f q * la r c - la r q * la f c).toInt.natAbs ≤ 2 ^ 62 := by
      rw [e]
      generalize mZ la f q * mZ la r c = u at p1
      generalize mZ la r q * mZ la f c = v at p2
      omega
    have h9 : mZ (s_cc la f q w b h) r c = y := by
      unfold mZ
      rw [cc_at, if_pos ⟨hr, hn, by omega⟩]
      unfold s_dv
      rw [if_neg (fun z => hb ((l_z b).mp z))]
      exact l_div hb (by rw [e]; exact hy) hx
    rw [h9]; exact hy.symm
theorem inv_fp {w h c : Nat} {x : Nat × Int64 × La} {y : E3} (I : Inv w h x y c) (hc : c < w) : r_fp y.2.2 y.1 c h = s_fp x.2.2 x.1 c h := by
  obtain ⟨i1, i2, i3, i4, i5, i6, i7, i8⟩ := I
  unfold r_fp s_fp
  rw [i1]
  refine fi_cong _ (fun d hd => ?_)
  have hz := i7.z (r := y.1 + d) (c := c) (by omega) (by omega)
  unfold mZ fZ at hz
  rw [cm_q hc, ← l_z, ← l_z] at hz
  congr 1
  exact decide_eq_decide.mpr hz.symm
section SP
variable {w h c d : Nat} {x : Nat × Int64 × La} {y : E3}
theorem inv_sw (I : Inv w h x y c) (hw : w ≤ 5) (hc : c < w) (hd : s_fp x.2.2 x.1 c h = some d) :
    (∀ r, r < h → ∀ e, e ≤ w → mZ (s_sw x.2.2 x.1 (x.1 + d) (w + 1)) r e = mZ x.2.2 (t_sg x.1 (x.1 + d) r) e) ∧ (∀ r, r < h → ∀ e, e ≤ w → fZ w (r_tn y.2.2 (y.1 + d) y.1 6) r e = fZ w y.2.2 (t_sg x.1 (x.1 + d) r) e) ∧ x.1 + d < h ∧ mZ (s_sw x.2.2 x.1 (x.1 + d) (w + 1)) x.1 c ≠ 0 := by
  obtain ⟨i1, i2, i3, i4, i5, i6, i7, i8⟩ := I
  obtain ⟨d1, d2, d3⟩ := s_fi_lt hd
  have hA : ∀ r, r < h → ∀ e, e ≤ w → mZ (s_sw x.2.2 x.1 (x.1 + d) (w + 1)) r e = mZ x.2.2 (t_sg x.1 (x.1 + d) r) e := fun r hr e he => by
    unfold mZ; rw [sw_at, if_pos (by omega)]
  refine ⟨hA, fun r hr e he => ?_, by omega, ?_⟩
  · unfold fZ
    rw [tn_at _ _ _ 6 r _ (cm_lt hw he).1 (by omega), if_pos (cm_lt hw he).1, i1]
  · rw [hA _ (by omega) c (by omega)]
    unfold t_sg mZ
    rw [if_pos rfl]
    intro z
    rw [← l_z] at z
    simp [z] at d2
theorem inv_good (I : Inv w h x y c) (hw : w ≤ 5) (hc : c < w) (hd : s_fp x.2.2 x.1 c h = some d) :
    ElimR w h y.1 c (fZ w (r_tn y.2.2 (y.1 + d) y.1 6)) (fZ w (r_cs (r_tn y.2.2 (y.1 + d) y.1 6) y.1 c w h)) ∧ ∀ r, r < h → r ≠ y.1 → r_good (r_cs (r_tn y.2.2 (y.1 + d) y.1 6) y.1 c w r) r y.1 c w := by
  obtain ⟨s1, s2, s3, s4⟩ := inv_sw I hw hc hd
  obtain ⟨i1, i2, i3, i4, i5, i6, i7, i8⟩ := I
  have hB : mB w h x.1 (fZ w (r_tn y.2.2 (y.1 + d) y.1 6)) := i6.swap (f := x.1) (s := x.1 + d) (by omega) s3 s2
  have hk : x.1 < 5 := by omega
  have R := cs_rows (F := r_tn y.2.2 (y.1 + d) y.1 6) (t := y.1) (q := c) (w := w) (h := h) hw hc (fun r hr e he => ⟨(hB.prod hk hr (by omega) hc he).1, (hB.prod hk (by omega) hr hc he).1⟩)
  refine ⟨⟨fun e he => ?_, fun r hr hn => ?_⟩, fun r hr hn => (R r (by omega)).2.2 hr hn⟩
  · unfold fZ
    rw [(R h (Nat.le_refl h)).1 y.1 _ (cm_lt hw he).1 (Or.inr rfl)]
  · exact (R h (Nat.le_refl h)).2.1 r hr hn
theorem inv_step (I : Inv w h x y c) (hw : w ≤ 5) (hc : c < w) (hd : s_fp x.2.2 x.1 c h = some d) : Inv w h (x.1 + 1, s_cc (s_sw x.2.2 x.1 (x.1 + d) (w + 1)) x.1 c w x.2.1 h x.1 c, s_cc (s_sw x.2.2 x.1 (x.1 + d) (w + 1)) x.1 c w x.2.1 h) (y.1 + 1, upd (upd y.2.1 c (-1)) c (nI y.1), r_cs (r_tn y.2.2 (y.1 + d) y.1 6) y.1 c w h) (c + 1) := by
  obtain ⟨s1, s2, s3, s4⟩ := inv_sw I hw hc hd
  obtain ⟨ER, -⟩ := inv_good I hw hc hd
  obtain ⟨i1, i2, i3, i4, i5, i6, i7, i8⟩ := I
  have hk : x.1 < 5 := by omega
  have hf : x.1 < h := by omega
  have hC := Cc_swap i4 (Nat.le_refl x.1) (Nat.le_add_right x.1 d) hf s3 s1
  have hBx := i5.swap (f := x.1) (s := x.1 + d) hf s3 s1
  have hBy := i6.swap (f := x.1) (s := x.1 + d) hf s3 s2
  have hSm := i7.swap (f := x.1) (s := x.1 + d) hf s3 s1 s2
  obtain ⟨hb, hdv⟩ := Cc_ex hk hC hf hc
  have EC := cc_elim (b := x.2.1) hk hf hc hBx hb hdv
  rw [← i1] at ER
  have hpv : mZ (s_cc (s_sw x.2.2 x.1 (x.1 + d) (w + 1)) x.1 c w x.2.1 h) x.1 c = mZ (s_sw x.2.2 x.1 (x.1 + d) (w + 1)) x.1 c := EC.1 c (by omega)
  refine ⟨by show x.1 + 1 = y.1 + 1; omega, by show x.1 + 1 ≤ c + 1; omega, by show x.1 + 1 ≤ h; omega, ?_, ?_, ?_, ?_, ?_⟩
  · have := Cc_step hk hC hf hc s4 EC
    rw [← hpv] at this
    exact this
  · exact (EC.toR hb).bd hf hc hBx
  · show mB w h (x.1 + 1) (fZ w (r_cs (r_tn y.2.2 (y.1 + d) y.1 6) y.1 c w h))
    rw [← i1] at hBy ⊢
    exact ER.bd hf hc hBy
  · show Same w h _ (fZ w (r_cs (r_tn y.2.2 (y.1 + d) y.1 6) y.1 c w h))
    rw [← i1] at hSm ⊢
    exact hSm.elim hf hc s4 hb EC ER
  · intro e i hi
    have e : x.1 = c := by have : x.1 + 1 = c + 1 := e; omega
    have old := i8 e
    show upd (upd y.2.1 c (-1)) c (nI y.1) i = nI i ∧ mZ (s_cc (s_sw x.2.2 x.1 (x.1 + d) (w + 1)) x.1 c w x.2.1 h) i i ≠ 0 ∧ ∀ r, r < h → r ≠ i → mZ (s_cc (s_sw x.2.2 x.1 (x.1 + d) (w + 1)) x.1 c w x.2.1 h) r i = 0
    obtain ⟨E1, E2⟩ := EC
    by_cases ei : i = c
    · subst ei
      refine ⟨by rw [pk_us, ← i1, e], ?_, fun r hr hn => ?_⟩
      · have : mZ (s_cc (s_sw x.2.2 x.1 (x.1 + d) (w + 1)) x.1 i w x.2.1 h) i i = mZ (s_cc (s_sw x.2.2 x.1 (x.1 + d) (w + 1)) x.1 i w x.2.1 h) x.1 i := by rw [e]
        rw [this, hpv]; exact s4
      · have k := E2 r hr (by omega) i (by omega)
        rw [show ∀ a b : Int, a * b - b * a = 0 from fun a b => by grind] at k
        rcases Int.mul_eq_zero.mp k with z | z
        · exact absurd z hb
        · exact z
    · have hi' : i < c := by omega
      obtain ⟨o1, o2, o3⟩ := old i hi'
      have hrow : mZ (s_sw x.2.2 x.1 (x.1 + d) (w + 1)) x.1 i = 0 := by
        rw [s1 _ hf i (by omega)]
        unfold t_sg
        rw [if_pos rfl]
        exact o3 _ s3 (by omega)
      have hii : mZ (s_sw x.2.2 x.1 (x.1 + d) (w + 1)) i i = mZ x.2.2 i i := by
        rw [s1 i (by omega) i (by omega), sg_lt (k := x.1) (Nat.le_refl _) (Nat.le_add_right _ _) (by omega)]
      refine ⟨by rw [pk_un ei, pk_un ei]; exact o1, ?_, fun r hr hn => ?_⟩
      · have k := E2 i (by omega) (by omega) i (by omega)
        rw [hrow, hii, Int.mul_zero, Int.sub_zero] at k
        intro z
        rw [z, Int.mul_zero] at k
        rcases Int.mul_eq_zero.mp k.symm with z1 | z1
        · exact s4 z1
        · exact o2 z1
      · by_cases er : r = x.1
        · subst er; rw [E1 i (by omega)]; exact hrow
        · have k := E2 r hr er i (by omega)
          have hri : mZ (s_sw x.2.2 x.1 (x.1 + d) (w + 1)) r i = 0 := by
            rw [s1 r hr i (by omega)]
            refine o3 _ (sg_h hf s3 hr) ?_
            unfold t_sg
            split
            · omega
            · split
              · omega
              · exact hn
          rw [hrow, hri, Int.mul_zero, Int.mul_zero, Int.sub_zero] at k
          rcases Int.mul_eq_zero.mp k with z | z
          · exact absurd z hb
          · exact z
end SP
theorem rd_s {la : La} {w h c d : Nat} (e : s_fp (s_rd la w h c).2.2 (s_rd la w h c).1 c h = some d) : s_rd la w h (c + 1) = ((s_rd la w h c).1 + 1, s_cc (s_sw (s_rd la w h c).2.2 (s_rd la w h c).1 ((s_rd la w h c).1 + d) (w + 1)) (s_rd la w h c).1 c w (s_rd la w h c).2.1 h (s_rd la w h c).1 c, s_cc (s_sw (s_rd la w h c).2.2 (s_rd la w h c).1 ((s_rd la w h c).1 + d) (w + 1)) (s_rd la w h c).1 c w (s_rd la w h c).2.1 h) := by
  conv => lhs; unfold s_rd
  dsimp only
  rw [e]
theorem rd_n {la : La} {w h c : Nat} (e : s_fp (s_rd la w h c).2.2 (s_rd la w h c).1 c h = none) : s_rd la w h (c + 1) = s_rd la w h c := by
  conv => lhs; unfold s_rd
  dsimp only
  rw [e]
theorem inv_all {la : La} {F : Nat → Int64} {st : Nat → Int32} {w h : Nat} (hw : w ≤ 5) (h0 : ∀ r, r < h → (∀ c, c < w → pm1 (mZ la r c)) ∧ (∀ c, c ≤ w → mZ la r c = fZ w F r c) ∧ (mZ la r w).natAbs ≤ 32768) (hp : ∀ r, r < h → ∀ s, s < h → (2 : Int) ∣ mZ la r w - mZ la s w) : ∀ c, c ≤ w → Inv w h (s_rd la w h c) (r_el st F w h c) c
  | 0, _ => by
    have hb : mB w h 0 (mZ la) := fun r hr => ⟨fun c hc => by
      have := (h0 r hr).1 c hc
      show _ ≤ 1
      rcases this with e | e <;> rw [e] <;> decide, (h0 r hr).2.2⟩
    refine ⟨rfl, Nat.le_refl _, Nat.zero_le _, ⟨(by decide : (1 : Int64).toInt = 1), fun r hr => (h0 r hr).1, hp⟩, hb, fun r hr => ?_, fun r hr => ⟨1, 1, by decide, by decide, fun c hc => ?_⟩, fun _ i hi => by omega⟩
    · obtain ⟨b1, b2⟩ := hb r hr
      show (∀ c, c < w → (fZ w F r c).natAbs ≤ _) ∧ (fZ w F r w).natAbs ≤ _
      exact ⟨fun c hc => by rw [← (h0 r hr).2.1 c (by omega)]; exact b1 c hc, by rw [← (h0 r hr).2.1 w (by omega)]; exact b2⟩
    · show 1 * mZ la r c = 1 * fZ w F r c
      rw [(h0 r hr).2.1 c hc]
  | c + 1, hc => by
    have I := inv_all hw h0 hp (st := st) c (by omega)
    have hfp := inv_fp I (by omega)
    cases e : s_fp (s_rd la w h c).2.2 (s_rd la w h c).1 c h with
    | none =>
      rw [e] at hfp
      rw [rd_n e, r_el_n hfp]
      obtain ⟨i1, i2, i3, i4, i5, i6, i7, i8⟩ := I
      exact ⟨i1, by omega, i3, i4, i5, i6, i7, fun z => by omega⟩
    | some d =>
      rw [e] at hfp
      rw [rd_s e, r_el_s hfp]
      exact inv_step I hw (by omega) e
theorem all_good {la : La} {F : Nat → Int64} {st : Nat → Int32} {w h : Nat} (hw : w ≤ 5) (h0 : ∀ r, r < h → (∀ c, c < w → pm1 (mZ la r c)) ∧ (∀ c, c ≤ w → mZ la r c = fZ w F r c) ∧ (mZ la r w).natAbs ≤ 32768) (hp : ∀ r, r < h → ∀ s, s < h → (2 : Int) ∣ mZ la r w - mZ la s w) : r_allgood st F w h := by
  intro c hc d hd r hr hn
  have I := inv_all (st := st) hw h0 hp c (by omega)
  rw [inv_fp I hc] at hd
  exact (inv_good I hw hc hd).2 r hr hn
theorem vd_eq {w h : Nat} {x : Nat × Int64 × La} {y : E3} (I : Inv w h x y w) : r_vd y w h = s_vd x w h := by
  obtain ⟨i1, i2, i3, i4, i5, i6, i7, i8⟩ := I
  unfold r_vd s_vd
  rw [← i1]
  have : s_all (fun d => decide (y.2.2 (6 * (x.1 + d) + 5) = 0)) (h - x.1) = s_all (fun d => decide (x.2.2 (x.1 + d) w = 0)) (h - x.1) := by
    refine all_cong (fun d hd => decide_eq_decide.mpr ?_)
    have hz := i7.z (r := x.1 + d) (c := w) (by omega) (Nat.le_refl w)
    unfold mZ fZ at hz
    rw [show cm w w = 5 from by unfold cm; rw [if_pos rfl], ← l_z, ← l_z] at hz
    exact hz.symm
  rw [this]
