/-! WORLDS SIDE BY SIDE -/
def q_refs (k : Nat) : List Nat := match k with
  | 0 => [16]
  | 1 => [49, 15]
  | 2 => [7, 8, 9, 10, 11, 12, 13, 14]
  | 3 => [51, 52]
  | 4 => [50]
  | 5 => [2, 1, 4, 3, 0]
  | 6 => [36, 37, 38, 39, 40, 41, 42, 85, 43, 44, 45, 46, 47, 48]
  | k => if 49 ≤ k ∧ k < 53 then (List.range (q_ol k)).map (fun i => q_os k + i) else []
theorem q_obc {f g : Nat → Nat} {sc : Sc} (k : Nat) (hk : k < 7) (h : ∀ j, j ∈ q_refs k → f j = g j) : q_ob f sc k = q_ob g sc k := by
  rcases (show k = 0 ∨ k = 1 ∨ k = 2 ∨ k = 3 ∨ k = 4 ∨ k = 5 ∨ k = 6 by omega) with rfl | rfl | rfl | rfl | rfl | rfl | rfl
  · simp only [q_ob, h 16 (by decide)]
  · simp only [q_ob, h 49 (by decide), h 15 (by decide)]
  · simp only [q_ob, h 7 (by decide), h 8 (by decide), h 9 (by decide), h 10 (by decide), h 11 (by decide), h 12 (by decide), h 13 (by decide), h 14 (by decide)]
  · simp only [q_ob, h 51 (by decide), h 52 (by decide)]
  · simp only [q_ob, h 50 (by decide)]
  · simp only [q_ob, h 2 (by decide), h 1 (by decide), h 4 (by decide), h 3 (by decide), h 0 (by decide)]
  · simp only [q_ob, h 36 (by decide), h 37 (by decide), h 38 (by decide), h 39 (by decide), h 40 (by decide), h 41 (by decide), h 42 (by decide), h 85 (by decide), h 43 (by decide), h 44 (by decide), h 45 (by decide), h 46 (by decide), h 47 (by decide), h 48 (by decide)]
theorem q_refs_out (k : Nat) (h1 : 49 ≤ k) (h2 : k < 53) : q_refs k = (List.range (q_ol k)).map (fun i => q_os k + i) := by
  rcases (show k = 49 ∨ k = 50 ∨ k = 51 ∨ k = 52 by omega) with rfl | rfl | rfl | rfl <;> rfl
theorem q_cong {D : va_G} {cid : Nat → ClassId} {f g : Nat → Nat} {sc : Sc} {ia : Ia} {la : La} (k : Nat) (h : ∀ j, j ∈ q_refs k → f j = g j) : q_val ((D, (f, cid)) : Gv) sc ia la k = q_val ((D, (g, cid)) : Gv) sc ia la k := by
  by_cases h1 : k < 7
  · unfold q_val
    rw [if_pos h1, if_pos h1]
    exact congrArg (fun z => Sum.inr (k, z)) (q_obc k h1 h)
  · by_cases h2 : 49 ≤ k ∧ k < 53
    · rw [q_out (G := ((D, (g, cid)) : Gv)) k h2.1 h2.2 (fun i => g (q_os k + i)) (fun i _ => rfl)]
      refine q_out k h2.1 h2.2 _ (fun i hi => ?_)
      exact h _ (by rw [q_refs_out k h2.1 h2.2]; exact List.mem_map.mpr ⟨i, List.mem_range.mpr hi, rfl⟩)
    · unfold q_val
      by_cases h3 : k < 49
      · rw [if_neg h1, if_neg h1, if_pos h3, if_pos h3]
      · rw [if_neg h1, if_neg h1, if_neg h3, if_neg h3, if_neg (by omega), if_neg (by omega)]
def mg (I : List Nat) (f g : Nat → Nat) : Nat → Nat := fun k => if k ∈ I then f k else g k
theorem mg_in {I : List Nat} {f g : Nat → Nat} {k : Nat} (h : k ∈ I) : mg I f g k = f k := if_pos h
theorem mg_out {I : List Nat} {f g : Nat → Nat} {k : Nat} (h : k ∉ I) : mg I f g k = g k := if_neg h
def clo (I : List Nat) : Prop := ∀ k, k ∈ I → ∀ j, j ∈ q_refs k → j ∈ I
theorem y_agree {I : List Nat} {D : va_G} {cid : Nat → ClassId} {f g : Nat → Nat} {sc : Sc} {ia : Ia} {la : La} (hc : clo I) (h : ∀ k, k ∈ I → f k = g k) : y_W I ((D, (f, cid)) : Gv) sc ia la = y_W I ((D, (g, cid)) : Gv) sc ia la := by
  refine List.map_congr_left (fun k hk => ?_)
  show (f k, _) = (g k, _)
  rw [h k hk, q_cong k (fun j hj => h j (hc k hk j hj))]
theorem ym {I1 I2 : List Nat} {D : va_G} {cid : Nat → ClassId} {f g : Nat → Nat} {sc : Sc} {ia : Ia} {la : La} (h1 : clo I1) (h2 : clo I2) (hd : ∀ k, k ∈ I2 → k ∉ I1) : y_W I1 ((D, (f, cid)) : Gv) sc ia la ++ y_W I2 ((D, (g, cid)) : Gv) sc ia la = y_W (I1 ++ I2) ((D, (mg I1 f g, cid)) : Gv) sc ia la := by
  rw [y_agree (g := mg I1 f g) h1 (fun k hk => (mg_in hk).symm), y_agree (f := g) (g := mg I1 f g) h2 (fun k hk => (mg_out (hd k hk)).symm)]
  exact (List.map_append ..).symm
def J1 : List Nat := I_net ++ I_men
def J2 : List Nat := J1 ++ I_sheet
def J3 : List Nat := J2 ++ I_pairs
def J4 : List Nat := J3 ++ I_dou
def I_all5 : List Nat := 5 :: J4
theorem clo_net : clo I_net := by unfold clo; decide +kernel
theorem clo_men : clo I_men := by unfold clo; decide +kernel
theorem clo_sheet : clo I_sheet := by unfold clo; decide +kernel
theorem clo_pairs : clo I_pairs := by unfold clo; decide +kernel
theorem clo_dou : clo I_dou := by unfold clo; decide +kernel
theorem clo_mod : clo I_mod := by unfold clo; decide +kernel
theorem clo_J1 : clo J1 := by unfold clo; decide +kernel
theorem clo_J2 : clo J2 := by unfold clo; decide +kernel
theorem clo_J3 : clo J3 := by unfold clo; decide +kernel
theorem clo_J4 : clo J4 := by unfold clo; decide +kernel
theorem clo_all5 : clo I_all5 := by unfold clo; decide +kernel
def aJ (f2 f1 f4 f3 f0 : Nat → Nat) : Nat → Nat := mg J3 (mg J2 (mg J1 (mg I_net f2 f1) f4) f3) f0
def a5 (h0 : Nat) (F : Nat → Nat) : Nat → Nat := fun k => if k = 5 then h0 else F k
theorem y_J4 {D : va_G} {cid : Nat → ClassId} {f2 f1 f4 f3 f0 : Nat → Nat} {sc : Sc} {ia : Ia} {la : La} : (((y_W I_net ((D, (f2, cid)) : Gv) sc ia la ++ y_W I_men ((D, (f1, cid)) : Gv) sc ia la) ++ y_W I_sheet ((D, (f4, cid)) : Gv) sc ia la) ++ y_W I_pairs ((D, (f3, cid)) : Gv) sc ia la) ++ y_W I_dou ((D, (f0, cid)) : Gv) sc ia la = y_W J4 ((D, (aJ f2 f1 f4 f3 f0, cid)) : Gv) sc ia la := by
  rw [ym clo_net clo_men (by decide +kernel), ym (I1 := I_net ++ I_men) clo_J1 clo_sheet (by decide +kernel), ym (I1 := (I_net ++ I_men) ++ I_sheet) clo_J2 clo_pairs (by decide +kernel), ym (I1 := ((I_net ++ I_men) ++ I_sheet) ++ I_pairs) clo_J3 clo_dou (by decide +kernel)]
  rfl
theorem y_all5 {D : va_G} {cid : Nat → ClassId} {h0 : Nat} {F : Nat → Nat} {sc : Sc} {ia : Ia} {la : La} : (h0, .inr (5, [.ref (F 2), .ref (F 1), .ref (F 4), .ref (F 3), .ref (F 0)])) :: y_W J4 ((D, (F, cid)) : Gv) sc ia la = y_W I_all5 ((D, (a5 h0 F, cid)) : Gv) sc ia la := by
  rw [y_agree (g := a5 h0 F) clo_J4 (fun k hk => ?_)]
  · rfl
  · have h5 : k ≠ 5 := by
      rintro rfl
      exact absurd hk (by decide +kernel)
    exact (if_neg h5).symm
theorem n_X5_init (l : Launch) (D : va_G) (cid : Nat → ClassId) : CtN l yX5_init wsX5_init ({ frames := 2, cells := 70, slots := 674, locals := 60 }) D cid 5 [.null, .null, .null, .null, .null] I_all5 70 674 scI iaI zl := by
  refine n_of rfl (by decide) rfl rfl (fun Y A h0 C fin => ?_)
  refine nj_aload (pc' := 1) C dX5_init_0 rfl rfl ?_
  refine nj_objInit (pc' := 4) C (by decide +kernel) (by decide +kernel) (by decide +kernel) dX5_init_1 (by decide) rfl ?_
  refine nj_aload (pc' := 5) C dX5_init_4 rfl rfl ?_
  refine nj_new (pc' := 8) (ci := 2) (fs := [.int 0, .null, .null, .null, .null, .null, .null, .null, .null]) (N := 9) (T := TX2) (Cn := RX2) C wn_X52 tyX2 tyX2_ok (by decide +kernel) (by decide +kernel) (by decide +kernel) rfl (fun j hj => by rcases (show j = 0 ∨ j = 1 ∨ j = 2 ∨ j = 3 ∨ j = 4 ∨ j = 5 ∨ j = 6 ∨ j = 7 ∨ j = 8 by omega) with rfl | rfl | rfl | rfl | rfl | rfl | rfl | rfl | rfl <;> rfl) (by decide) (by decide) dX5_init_5 rfl (fun q2 => ?_)
  refine nj_dup (pc' := 9) C dX5_init_8 rfl ?_
  refine nj_callI (pc' := 12) (wr := ((h0, .inr (5, [.null, .null, .null, .null, .null])) :: [])) (rest := [.ref q2, .ref h0]) C (n_X2_init l D cid) gX5_init_X2_init rfl rfl rfl (by decide +kernel) (by decide +kernel) (by decide +kernel) rfl (by decide +kernel) (by decide) (Nat.le_of_ble_eq_true rfl) (by decide) (by decide) dX5_init_9 rfl (fun f2 hf2 => ?_)
  refine nj_putF (pc' := 15) (tl := (y_W I_net ((D, (f2, cid)) : Gv) scI iaI zl)) (fs := [.null, .null, .null, .null, .null]) (fs' := [.ref q2, .null, .null, .null, .null]) (N := 5) (ci := 5) (h0 := h0) (T := TX5) C (by decide) wn_X5 tyX5 tyX5_ok nmX5 rfl 0 (by decide) (by decide +kernel) rfl rfl rfl rfl rfl (Nat.le_of_ble_eq_true rfl) dX5_init_12 rfl rfl ?_
  refine nj_aload (pc' := 16) C dX5_init_15 rfl rfl ?_
  refine nj_new (pc' := 19) (ci := 1) (fs := [.null, .null, .int 0, .int 0]) (N := 4) (T := TX1) (Cn := RX1) C wn_X51 tyX1 tyX1_ok (by decide +kernel) (by decide +kernel) (by decide +kernel) rfl (fun j hj => by rcases (show j = 0 ∨ j = 1 ∨ j = 2 ∨ j = 3 by omega) with rfl | rfl | rfl | rfl <;> rfl) (by decide) (by decide) dX5_init_16 rfl (fun q1 => ?_)
  refine nj_dup (pc' := 20) C dX5_init_19 rfl ?_
  refine nj_callN (pc' := 23) (wr := ((h0, .inr (5, [.ref q2, .null, .null, .null, .null])) :: (y_W I_net ((D, (f2, cid)) : Gv) scI iaI zl))) (host := RX5) (rest := [.ref q1, .ref h0]) C (n_X1_init l D cid) gX5_init_X1_init_n18 rfl rfl rfl (by decide +kernel) (fun _ h => h.2.2.1) (by decide +kernel) rfl (by decide +kernel) (by decide) (Nat.le_of_ble_eq_true rfl) (by decide) (by decide) dX5_init_20 rfl (fun f1 hf1 => ?_)
  refine nj_putF (pc' := 26) (tl := ((y_W I_net ((D, (f2, cid)) : Gv) scI iaI zl) ++ y_W I_men ((D, (f1, cid)) : Gv) scI iaI zl)) (fs := [.ref q2, .null, .null, .null, .null]) (fs' := [.ref q2, .ref q1, .null, .null, .null]) (N := 5) (ci := 5) (h0 := h0) (T := TX5) C (by decide) wn_X5 tyX5 tyX5_ok nmX5 rfl 1 (by decide) (by decide +kernel) rfl rfl rfl rfl rfl (Nat.le_of_ble_eq_true rfl) dX5_init_23 rfl rfl ?_
  refine nj_aload (pc' := 27) C dX5_init_26 rfl rfl ?_
  refine nj_new (pc' := 30) (ci := 4) (fs := [.int 0, .int 0, .null]) (N := 3) (T := TX4) (Cn := RX4) C wn_X54 tyX4 tyX4_ok (by decide +kernel) (by decide +kernel) (by decide +kernel) rfl (fun j hj => by rcases (show j = 0 ∨ j = 1 ∨ j = 2 by omega) with rfl | rfl | rfl <;> rfl) (by decide) (by decide) dX5_init_27 rfl (fun q4 => ?_)
  refine nj_dup (pc' := 31) C dX5_init_30 rfl ?_
  refine nj_callI (pc' := 34) (wr := ((h0, .inr (5, [.ref q2, .ref q1, .null, .null, .null])) :: ((y_W I_net ((D, (f2, cid)) : Gv) scI iaI zl) ++ y_W I_men ((D, (f1, cid)) : Gv) scI iaI zl))) (rest := [.ref q4, .ref h0]) C (n_X4_init l D cid) gX5_init_X4_init rfl rfl rfl (by decide +kernel) (by decide +kernel) (by decide +kernel) rfl (by decide +kernel) (by decide) (Nat.le_of_ble_eq_true rfl) (by decide) (by decide) dX5_init_31 rfl (fun f4 hf4 => ?_)
  refine nj_putF (pc' := 37) (tl := (((y_W I_net ((D, (f2, cid)) : Gv) scI iaI zl) ++ y_W I_men ((D, (f1, cid)) : Gv) scI iaI zl) ++ y_W I_sheet ((D, (f4, cid)) : Gv) scI iaI zl)) (fs := [.ref q2, .ref q1, .null, .null, .null]) (fs' := [.ref q2, .ref q1, .ref q4, .null, .null]) (N := 5) (ci := 5) (h0 := h0) (T := TX5) C (by decide) wn_X5 tyX5 tyX5_ok nmX5 rfl 2 (by decide) (by decide +kernel) rfl rfl rfl rfl rfl (Nat.le_of_ble_eq_true rfl) dX5_init_34 rfl rfl ?_
  refine nj_aload (pc' := 38) C dX5_init_37 rfl rfl ?_
  refine nj_new (pc' := 41) (ci := 3) (fs := [.int 0, .null, .null]) (N := 3) (T := TX3) (Cn := RX3) C wn_X53 tyX3 tyX3_ok (by decide +kernel) (by decide +kernel) (by decide +kernel) rfl (fun j hj => by rcases (show j = 0 ∨ j = 1 ∨ j = 2 by omega) with rfl | rfl | rfl <;> rfl) (by decide) (by decide) dX5_init_38 rfl (fun q3 => ?_)
  refine nj_dup (pc' := 42) C dX5_init_41 rfl ?_
  refine nj_callI (pc' := 45) (wr := ((h0, .inr (5, [.ref q2, .ref q1, .ref q4, .null, .null])) :: (((y_W I_net ((D, (f2, cid)) : Gv) scI iaI zl) ++ y_W I_men ((D, (f1, cid)) : Gv) scI iaI zl) ++ y_W I_sheet ((D, (f4, cid)) : Gv) scI iaI zl))) (rest := [.ref q3, .ref h0]) C (n_X3_init l D cid) gX5_init_X3_init rfl rfl rfl (by decide +kernel) (by decide +kernel) (by decide +kernel) rfl (by decide +kernel) (by decide) (Nat.le_of_ble_eq_true rfl) (by decide) (by decide) dX5_init_42 rfl (fun f3 hf3 => ?_)
  refine nj_putF (pc' := 48) (tl := ((((y_W I_net ((D, (f2, cid)) : Gv) scI iaI zl) ++ y_W I_men ((D, (f1, cid)) : Gv) scI iaI zl) ++ y_W I_sheet ((D, (f4, cid)) : Gv) scI iaI zl) ++ y_W I_pairs ((D, (f3, cid)) : Gv) scI iaI zl)) (fs := [.ref q2, .ref q1, .ref q4, .null, .null]) (fs' := [.ref q2, .ref q1, .ref q4, .ref q3, .null]) (N := 5) (ci := 5) (h0 := h0) (T := TX5) C (by decide) wn_X5 tyX5 tyX5_ok nmX5 rfl 3 (by decide) (by decide +kernel) rfl rfl rfl rfl rfl (Nat.le_of_ble_eq_true rfl) dX5_init_45 rfl rfl ?_
  refine nj_aload (pc' := 49) C dX5_init_48 rfl rfl ?_
  refine nj_new (pc' := 52) (ci := 0) (fs := [.int 0, .null]) (N := 2) (T := TX0) (Cn := RX0) C wn_X50 tyX0 tyX0_ok (by decide +kernel) (by decide +kernel) (by decide +kernel) rfl (fun j hj => by rcases (show j = 0 ∨ j = 1 by omega) with rfl | rfl <;> rfl) (by decide) (by decide) dX5_init_49 rfl (fun q0 => ?_)
  refine nj_dup (pc' := 53) C dX5_init_52 rfl ?_
  refine nj_callN (pc' := 56) (wr := ((h0, .inr (5, [.ref q2, .ref q1, .ref q4, .ref q3, .null])) :: ((((y_W I_net ((D, (f2, cid)) : Gv) scI iaI zl) ++ y_W I_men ((D, (f1, cid)) : Gv) scI iaI zl) ++ y_W I_sheet ((D, (f4, cid)) : Gv) scI iaI zl) ++ y_W I_pairs ((D, (f3, cid)) : Gv) scI iaI zl))) (host := RX5) (rest := [.ref q0, .ref h0]) C (n_X0_init l D cid) gX5_init_X0_init_n39 rfl rfl rfl (by decide +kernel) (fun _ h => h.2.2.2.1) (by decide +kernel) rfl (by decide +kernel) (by decide) (Nat.le_of_ble_eq_true rfl) (by decide) (by decide) dX5_init_53 rfl (fun f0 hf0 => ?_)
  refine nj_putF (pc' := 59) (tl := (((((y_W I_net ((D, (f2, cid)) : Gv) scI iaI zl) ++ y_W I_men ((D, (f1, cid)) : Gv) scI iaI zl) ++ y_W I_sheet ((D, (f4, cid)) : Gv) scI iaI zl) ++ y_W I_pairs ((D, (f3, cid)) : Gv) scI iaI zl) ++ y_W I_dou ((D, (f0, cid)) : Gv) scI iaI zl)) (fs := [.ref q2, .ref q1, .ref q4, .ref q3, .null]) (fs' := [.ref q2, .ref q1, .ref q4, .ref q3, .ref q0]) (N := 5) (ci := 5) (h0 := h0) (T := TX5) C (by decide) wn_X5 tyX5 tyX5_ok nmX5 rfl 4 (by decide) (by decide +kernel) rfl rfl rfl rfl rfl (Nat.le_of_ble_eq_true rfl) dX5_init_56 rfl rfl ?_
  have key := fin (a5 h0 (aJ f2 f1 f4 f3 f0)) 59 dX5_init_59 rfl
  rw [← y_all5, ← y_J4] at key
  have e2 : aJ f2 f1 f4 f3 f0 2 = q2 := by
    unfold aJ
    rw [mg_in (by decide), mg_in (by decide), mg_in (by decide), mg_in (by decide)]
    exact hf2
  have e1 : aJ f2 f1 f4 f3 f0 1 = q1 := by
    unfold aJ
    rw [mg_in (by decide), mg_in (by decide), mg_in (by decide), mg_out (by decide)]
    exact hf1
  have e4 : aJ f2 f1 f4 f3 f0 4 = q4 := by
    unfold aJ
    rw [mg_in (by decide), mg_in (by decide), mg_out (by decide)]
    exact hf4
  have e3 : aJ f2 f1 f4 f3 f0 3 = q3 := by
    unfold aJ
    rw [mg_in (by decide), mg_out (by decide)]
    exact hf3
  have e0 : aJ f2 f1 f4 f3 f0 0 = q0 := by
    unfold aJ
    rw [mg_out (by decide)]
    exact hf0
  rw [e2, e1, e4, e3, e0] at key
  exact key
def I_all : List Nat := I_all5 ++ I_mod
theorem I_all_nd : I_all.Nodup := by decide +kernel
theorem I_all_mem : ∀ k, k < 86 → k ∈ I_all := by decide +kernel
theorem y_fullP {G : Gv} {sc : Sc} {ia : Ia} {la : La} {H : Heap} {A : Nat → Prop} (hP : va_P G.1 vwCl (y_W I_all G sc ia la) H) (hD : va_D A (y_W I_all G sc ia la)) : va_P G.1 vwCl (q_W G sc ia la) H ∧ qInj G.2.1 ∧ ∀ q, qA G.2.1 q → A q := by
  refine ⟨fun k x hx => ?_, fun i j hi hj hij => ?_, fun q hq => ?_⟩
  · have hk : k < 86 := by
      have := (List.getElem?_eq_some_iff.mp hx).1
      unfold q_W at this
      simpa using this
    rw [q_at hk] at hx
    cases hx
    obtain ⟨pos, -, h2⟩ := y_atE (G := G) (sc := sc) (ia := ia) (la := la) (I_all_mem k hk) rfl
    exact hP pos _ h2
  · exact (y_injD I_all_nd hD).2 i j (I_all_mem i hi) (I_all_mem j hj) hij
  · obtain ⟨k, hk, rfl⟩ := hq
    exact y_aD hD _ ⟨k, I_all_mem k hk, rfl⟩
