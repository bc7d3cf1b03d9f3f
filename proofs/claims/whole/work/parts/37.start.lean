/-! THE START -/
theorem f0_z (a k j : Nat) : f_fill 0 (za a) k j = 0 := by
  rw [fill_eq]
  split <;> rfl
theorem iaI_sh (r c : Nat) (hr : r < 9) : iaI (10 + r) c = 0 := by
  unfold iaI
  rw [if_neg (by omega), if_neg (by omega), if_pos (by omega)]
  unfold a_sh
  rw [if_pos (by omega)]
  exact f0_z _ _ _
theorem iaI_p (a b : Nat) (ha : a < 5) : iaI (19 + a) b = 0 := by
  unfold iaI
  rw [if_neg (by omega), if_neg (by omega), if_neg (by omega), if_pos (by omega)]
  unfold a_pr
  rw [if_pos (by omega)]
  exact f0_z _ _ _
theorem iaI_q (a b : Nat) (ha : a < 5) : iaI (24 + a) b = 0 := by
  unfold iaI
  rw [if_neg (by omega), if_neg (by omega), if_neg (by omega), if_pos (by omega)]
  unfold a_pr
  rw [if_pos (by omega)]
  exact f0_z _ _ _
theorem rel_init : Rel scI iaI := by
  refine ⟨2, 2, 1, 3, 0, ⟨by decide, by decide, by decide, by decide, by decide, by decide, by decide, by decide, by decide, by decide⟩, ⟨Or.inl rfl, ⟨rfl, rfl, rfl, rfl, rfl, rfl, rfl⟩, ?_, ?_, ?_, ?_, ?_, ?_, ?_⟩, ⟨by decide, by decide, by decide, by decide, ?_⟩, ⟨by decide, by decide, ?_⟩, ⟨by decide, rfl, fun j hj => absurd hj (Nat.not_lt_zero _)⟩⟩
  · intro j hj
    show -1000 ≤ (f_fill 0 (za 0) 32 j).toInt ∧ (f_fill 0 (za 0) 32 j).toInt ≤ 1000
    rw [f0_z]; decide
  · intro j hj
    show f_fill 0 (za 1) 32 j = r_fa (f_fill 0 (za 0) 32) j 2
    rw [f0_z, fa_0 j 2 (fun i hi => f0_z _ _ _)]
  · intro j hj
    show ¬ f_fill 1 (za 2) 32 j = 0
    rw [f_fill_at 1 (za 2) hj]; decide
  · intro j hj
    show -1000000 ≤ (f_fill 0 (za 3) 32 j).toInt ∧ (f_fill 0 (za 3) 32 j).toInt ≤ 1000000
    rw [f0_z]; decide
  · exact fun j _ hj => f0_z _ _ _
  · exact fun j _ hj => f0_z _ _ _
  · have : s_cn (nz (f_fill 0 (za 6) 32)) 2 = 0 := cn_0 2 (fun j hj => by simp [nz, f0_z])
    show s_cn (nz (f_fill 0 (za 6) 32)) 2 ≤ 5
    omega
  · intro r hr c hc
    rw [iaI_sh r c hr]
    rfl
  · intro a ha b hb
    rw [iaI_p a b ha, iaI_q a b ha, iaI_p b a hb]
    exact ⟨rfl, rfl, Or.inl rfl, rfl, fun _ => rfl, fun _ => rfl⟩
theorem va_any9 {t : FieldType} {A : Array Value} {U : State} (h : (Cond.arrayOver (.array t)).before A U = true) : va_AOA t U := h
theorem ke_of {s : State} {args : Array Value} (hts : ∀ w ∈ lw_tbl, w.before args s = true) : ∃ (D : va_G) (cid : Nat → ClassId), KE D cid s := by
  obtain ⟨c0, i0, h0⟩ := u_known (C := RX0) (T := TX0) (N := 2) (n := 2) hts (fun w h => (in_wsX00 w h).1) (hts (.instantiable RX0 2) (List.mem_of_getElem? (i := 171) (by decide +kernel)))
  obtain ⟨c1, i1, h1⟩ := u_known (C := RX1) (T := TX1) (N := 4) (n := 4) hts (fun w h => (in_wsX10 w h).1) (hts (.instantiable RX1 4) (List.mem_of_getElem? (i := 101) (by decide +kernel)))
  obtain ⟨c2, i2, h2⟩ := u_known (C := RX2) (T := TX2) (N := 9) (n := 9) hts (fun w h => (in_wsX20 w h).1) (hts (.instantiable RX2 9) (List.mem_of_getElem? (i := 47) (by decide +kernel)))
  obtain ⟨c3, i3, h3⟩ := u_known (C := RX3) (T := TX3) (N := 3) (n := 3) hts (fun w h => (in_wsX30 w h).1) (hts (.instantiable RX3 3) (List.mem_of_getElem? (i := 148) (by decide +kernel)))
  obtain ⟨c4, i4, h4⟩ := u_known (C := RX4) (T := TX4) (N := 3) (n := 3) hts (fun w h => (in_wsX40 w h).1) (hts (.instantiable RX4 3) (List.mem_of_getElem? (i := 123) (by decide +kernel)))
  obtain ⟨c5, i5, h5⟩ := u_known (C := RX5) (T := TX5) (N := 5) (n := 5) hts (fun w h => (in_wsX50 w h).1) (hts (.instantiable RX5 5) (List.mem_of_getElem? (i := 39) (by decide +kernel)))
  obtain ⟨c6, i6, h6⟩ := u_known (C := RX6) (T := TX6) (N := 25) (n := 25) hts (fun w h => (in_wsX60 w h).1) (hts (.instantiable RX6 25) (List.mem_of_getElem? (i := 590) (by decide +kernel)))
  obtain ⟨a0, kA0, m0, f0, g0, e0⟩ := Cond.arrayClass_spec (hts (.arrayClass .int) (List.mem_of_getElem? (i := 98) (by decide +kernel)))
  obtain ⟨a1, kA1, m1, f1, g1, e1⟩ := Cond.arrayClass_spec (hts (.arrayClass .long) (List.mem_of_getElem? (i := 121) (by decide +kernel)))
  obtain ⟨a2, kA2, m2, f2, g2, e2⟩ := Cond.arrayClass_spec (hts (.arrayClass .boolean) (List.mem_of_getElem? (i := 99) (by decide +kernel)))
  obtain ⟨m3, a3, kA3, p3, g3, e3, f3⟩ := Cond.arrayOver_specA (hts (.arrayOver (.array .int)) (List.mem_of_getElem? (i := 129) (by decide +kernel)))
  obtain ⟨m4, a4, kA4, p4, g4, e4, f4⟩ := Cond.arrayOver_specA (hts (.arrayOver (.array .long)) (List.mem_of_getElem? (i := 107) (by decide +kernel)))
  refine ⟨(fun k => if k = 0 then c0 else if k = 1 then c1 else if k = 2 then c2 else if k = 3 then c3 else if k = 4 then c4 else if k = 5 then c5 else c6, fun k => if k = 0 then i0 else if k = 1 then i1 else if k = 2 then i2 else if k = 3 then i3 else if k = 4 then i4 else if k = 5 then i5 else i6), fun k => if k = 0 then a0 else if k = 1 then a1 else if k = 2 then a2 else if k = 3 then a3 else a4, ⟨?_, ?_⟩, ?_⟩
  · intro k q hq
    match k, hq with
    | 0, hq => cases hq; exact h0
    | 1, hq => cases hq; exact h1
    | 2, hq => cases hq; exact h2
    | 3, hq => cases hq; exact h3
    | 4, hq => cases hq; exact h4
    | 5, hq => cases hq; exact h5
    | 6, hq => cases hq; exact h6
    | k + 7, hq => simp [vwCl] at hq
  · intro k q hq
    match k, hq with
    | 0, hq => cases hq; exact ⟨fun n z => ⟨fun k9 h9 => (by cases h9), kA0, g0, m0, e0⟩, f0⟩
    | 1, hq => cases hq; exact ⟨fun n z => ⟨fun k9 h9 => (by cases h9), kA1, g1, m1, e1⟩, f1⟩
    | 2, hq => cases hq; exact ⟨fun n z => ⟨fun k9 h9 => (by cases h9), kA2, g2, m2, e2⟩, f2⟩
    | 3, hq => cases hq; exact ⟨fun n z => ⟨fun k9 h9 => (by cases h9), kA3, g3, m3, e3⟩, f3⟩
    | 4, hq => cases hq; exact ⟨fun n z => ⟨fun k9 h9 => (by cases h9), kA4, g4, m4, e4⟩, f4⟩
    | k + 5, hq => simp at hq
  · refine ⟨(show va_AOA .int s from va_any9 (hts (.arrayOver (.array .int)) (List.mem_of_getElem? (i := 129) (by decide +kernel)))), (show va_AOA .long s from va_any9 (hts (.arrayOver (.array .long)) (List.mem_of_getElem? (i := 107) (by decide +kernel)))), va_Nw.of rfl (hts (.methodLinkNest RX5 18 yX1_init RX5) (List.mem_of_getElem? (i := 102) (by decide +kernel))), va_Nw.of rfl (hts (.methodLinkNest RX5 39 yX0_init RX5) (List.mem_of_getElem? (i := 172) (by decide +kernel))), ?_⟩
    intro x hx
    simp only [q_Nl, List.mem_cons, List.not_mem_nil, or_false] at hx
    rcases hx with rfl | rfl | rfl | rfl | rfl | rfl | rfl | rfl | rfl | rfl
    · exact va_Nw.of rfl (hts (.methodLinkNest RX0 25 yX5_fold RX5) (List.mem_of_getElem? (i := 588) (by decide +kernel)))
    · exact va_Nw.of rfl (hts (.methodLinkNest RX1 57 yX5_passes RX5) (List.mem_of_getElem? (i := 332) (by decide +kernel)))
    · exact va_Nw.of rfl (hts (.methodLinkNest RX1 68 yX5_signOf RX5) (List.mem_of_getElem? (i := 337) (by decide +kernel)))
    · exact va_Nw.of rfl (hts (.methodLinkNest RX2 46 yX5_signOf RX5) (List.mem_of_getElem? (i := 220) (by decide +kernel)))
    · exact va_Nw.of rfl (hts (.methodLinkNest RX2 70 yX5_passes RX5) (List.mem_of_getElem? (i := 293) (by decide +kernel)))
    · exact va_Nw.of rfl (hts (.methodLinkNest RX2 88 yX5_fold RX5) (List.mem_of_getElem? (i := 565) (by decide +kernel)))
    · exact va_Nw.of rfl (hts (.methodLinkNest RX2 92 yX5_foldIfKnown RX5) (List.mem_of_getElem? (i := 569) (by decide +kernel)))
    · exact va_Nw.of rfl (hts (.methodLinkNest RX3 45 yX5_fold RX5) (List.mem_of_getElem? (i := 582) (by decide +kernel)))
    · exact va_Nw.of rfl (hts (.methodLinkNest RX3 49 yX5_foldIfKnown RX5) (List.mem_of_getElem? (i := 583) (by decide +kernel)))
    · exact va_Nw.of rfl (hts (.methodLinkNest RX4 33 yX5_fold RX5) (List.mem_of_getElem? (i := 577) (by decide +kernel)))
theorem inlX5 : ∀ w ∈ wsX50, w ∈ wsL_law := fun _ h => List.mem_append_left _ (List.mem_append_left _ (List.mem_append_left _ (List.mem_append_left _ (List.mem_append_left _ (List.mem_append_left _ (List.mem_append_left _ (List.mem_append_right _ h)))))))
theorem inlX6 : ∀ w ∈ wsX60, w ∈ wsL_law := fun _ h => List.mem_append_left _ (List.mem_append_left _ (List.mem_append_left _ (List.mem_append_left _ (List.mem_append_left _ (List.mem_append_left _ (List.mem_append_right _ h))))))
theorem ws_1 {Y : YT} {D : va_G} {cid : Nat → ClassId} {A : Nat → Prop} {lv0 : List (Nat × Value)} {l : Launch} (C : NC Y cL_law wsL_law RL D cid 4 room_1 A lv0 l) (k : ∀ f : Nat → Nat, Y (y_W I_all5 ((D, (f, cid)) : Gv) scI iaI zl) 71 679 7 [.ref (f 5)]) : Y [] 0 0 0 [] := by
  refine nj_new (pc' := 3) (ci := 5) (fs := [.null, .null, .null, .null, .null]) (N := 5) (T := TX5) (Cn := RX5) C inlX5 tyX5 tyX5_ok (List.mem_of_getElem? (i := 0) (by decide +kernel)) (List.mem_of_getElem? (i := 1) (by decide +kernel)) (List.mem_of_getElem? (i := 2) (by decide +kernel)) rfl (fun j hj => by rcases (show j = 0 ∨ j = 1 ∨ j = 2 ∨ j = 3 ∨ j = 4 by omega) with rfl | rfl | rfl | rfl | rfl <;> rfl) (by decide) (by decide) dL_law_0 rfl (fun q => ?_)
  refine nj_dup (pc' := 4) C dL_law_3 rfl ?_
  refine nj_callI (pc' := 7) (wr := []) (rest := [.ref q]) C (n_X5_init l D cid) gL_law_X5_init rfl rfl rfl (List.mem_of_getElem? (i := 2) (by decide +kernel)) (List.mem_of_getElem? (i := 6) (by decide +kernel)) (List.mem_of_getElem? (i := 7) (by decide +kernel)) rfl (by decide +kernel) (by decide) (Nat.le_of_ble_eq_true rfl) (by decide) (by decide) dL_law_4 rfl (fun f hf => ?_)
  subst hf
  exact k f
theorem ws_2 {Y : YT} {D : va_G} {cid : Nat → ClassId} {A : Nat → Prop} {lv0 : List (Nat × Value)} {l : Launch} {f5 : Nat → Nat} (C : NC Y cL_law wsL_law RL D cid 4 room_1 A lv0 l) (k : ∀ f6 : Nat → Nat, Y (y_W I_all ((D, (mg I_all5 f5 f6, cid)) : Gv) scI iaI zl) 86 1279 15 [.ref (f6 6)]) : Y (y_W I_all5 ((D, (f5, cid)) : Gv) scI iaI zl) 71 679 8 [] := by
  refine nj_new (pc' := 11) (ci := 6) (fs := [.int 0, .null, .null, .null, .null, .null, .null, .null, .null, .int 0, .null, .int 0, .null, .int 0, .int 0, .null, .int 0, .null, .null, .int 0, .int 0, .int 0, .int 0, .int 0, .null]) (N := 25) (T := TX6) (Cn := RX6) C inlX6 tyX6 tyX6_ok (List.mem_of_getElem? (i := 3) (by decide +kernel)) (List.mem_of_getElem? (i := 4) (by decide +kernel)) (List.mem_of_getElem? (i := 5) (by decide +kernel)) rfl (fun j hj => by rcases (show j = 0 ∨ j = 1 ∨ j = 2 ∨ j = 3 ∨ j = 4 ∨ j = 5 ∨ j = 6 ∨ j = 7 ∨ j = 8 ∨ j = 9 ∨ j = 10 ∨ j = 11 ∨ j = 12 ∨ j = 13 ∨ j = 14 ∨ j = 15 ∨ j = 16 ∨ j = 17 ∨ j = 18 ∨ j = 19 ∨ j = 20 ∨ j = 21 ∨ j = 22 ∨ j = 23 ∨ j = 24 by omega) with rfl | rfl | rfl | rfl | rfl | rfl | rfl | rfl | rfl | rfl | rfl | rfl | rfl | rfl | rfl | rfl | rfl | rfl | rfl | rfl | rfl | rfl | rfl | rfl | rfl <;> rfl) (by decide) (by decide) dL_law_8 rfl (fun q => ?_)
  refine nj_dup (pc' := 12) C dL_law_11 rfl ?_
  refine nj_callI (pc' := 15) (wr := y_W I_all5 ((D, (f5, cid)) : Gv) scI iaI zl) (rest := [.ref q]) C (n_X6_init l D cid) gL_law_X6_init rfl rfl rfl (List.mem_of_getElem? (i := 5) (by decide +kernel)) (List.mem_of_getElem? (i := 87) (by decide +kernel)) (List.mem_of_getElem? (i := 88) (by decide +kernel)) rfl (by decide +kernel) (by decide) (Nat.le_of_ble_eq_true rfl) (by decide) (by decide) dL_law_12 rfl (fun f6 hf => ?_)
  subst hf
  rw [ym clo_all5 clo_mod (by decide +kernel)]
  exact k f6
