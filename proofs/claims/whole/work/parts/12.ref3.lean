
theorem r_ft0 (sc : Sc) : va_up sc 13 0 = r_ft sc (r_x0 sc) := by
  funext j
  unfold r_ft r_x0 va_up
  by_cases h1 : j = 13 <;> by_cases h2 : j = 14 <;> by_cases h3 : j = 15 <;> by_cases h4 : j = 16 <;> simp_all
theorem r_ftu (sc : Sc) (x : Q4) (a b c t : Int32) : va_up (va_up (va_up (va_up (r_ft sc x) 14 a) 15 b) 16 c) 13 t = r_ft sc (t, a, b, c) := by
  funext j
  unfold r_ft va_up
  by_cases h1 : j = 13 <;> by_cases h2 : j = 14 <;> by_cases h3 : j = 15 <;> by_cases h4 : j = 16 <;> simp_all
def r_lo (sc : Sc) (h p : Nat → Int32) (m : Nat) : Nat → Sc × Int32
  | 0 => (sc, -1)
  | a + 1 =>
    let S := (r_lo sc h p m a).1
    let X := r_tt S h p m a
    (r_ft S X, if ¬ X.1 ≤ 0 ∧ ¬ X.2.2.2 - X.2.2.1 ≤ (r_lo sc h p m a).2 then X.2.2.2 - X.2.2.1 else (r_lo sc h p m a).2)
theorem r_lo12 (sc : Sc) (h p : Nat → Int32) (m : Nat) {z : Int32} (hz : sc 12 = z) : ∀ a, (r_lo sc h p m a).1 12 = z
  | 0 => hz
  | a + 1 => r_lo12 sc h p m hz a
def r_nf1 (ia : Ia) (h : Int64) (i : Nat) : Int64 :=
  let h3 := s_fo (s_fo (s_fo h (ia 29 i).toInt64) (ia 31 i).toInt64) (ia 30 i).toInt64
  let h4 := s_fo h3 (if ia 32 i = 0 then 0 else 1 : Int32).toInt64
  let h5 := s_fo h4 (if ia 33 i = 0 then 0 else 1 : Int32).toInt64
  s_fo (if ia 33 i = 0 then h5 else s_fo h5 (ia 34 i).toInt64) (ia 35 i).toInt64
def r_nf (ia : Ia) (h : Int64) : Nat → Int64
  | 0 => h
  | i + 1 => r_nf1 ia (r_nf ia h i) i
def r_sfc (f : Nat → Int32) (r : Nat) (h : Int64) : Nat → Int64
  | 0 => h
  | c + 1 => s_fo (r_sfc f r h c) (f (9 * r + c)).toInt64
def r_sfr (f : Nat → Int32) (K : Nat) (h : Int64) : Nat → Int64
  | 0 => h
  | r + 1 => r_sfc f r (r_sfr f K h r) K
def r_sft (f : Nat → Int32) (K : Nat) (h : Int64) : Nat → Int64
  | 0 => h
  | r + 1 => s_fo (r_sft f K h r) (f (9 * r + K)).toInt64
def r_pf1 (hp p : Nat → Int32) (h : Int64) (k : Nat) : Int64 := if hp k = 0 then s_fo h 0 else s_fo (s_fo h 1) (p k).toInt64
def r_pfi (hp p : Nat → Int32) (a : Nat) (h : Int64) : Nat → Int64
  | 0 => h
  | d + 1 => r_pf1 hp p (r_pfi hp p a h d) (5 * a + (a + 1 + d))
def r_pfo (hp p : Nat → Int32) (m : Nat) (h : Int64) : Nat → Int64
  | 0 => h
  | a + 1 => r_pfi hp p a (r_pfo hp p m h a) (m - (a + 1))

set_option maxHeartbeats 4000000 in
set_option maxRecDepth 100000 in
theorem c_X6_findThrees (l : Launch) (G : Gv) (sc : Sc) (ia : Ia) (la : La) (m : Nat) (hm : sc 12 = nI m) (hm1 : 1 ≤ m) (hM : m ≤ 5) (a : Nat) (ha : a < 5)  : Ct l yX6_findThrees wsX6_findThrees ({ frames := 0, cells := 0, slots := 0, locals := 0 }) G [.ref (G.2.1 6), .int (nI a)] sc ia la (fV (r_ft sc (r_tt sc (ia 39) (ia 40) m a)) ia la) := by
  have hU6 : ∀ w ∈ u_ws RX6 TX6 25, w ∈ wsX6_findThrees := fun w h => List.mem_cons_of_mem _ (List.mem_append_right _ h)
  refine z_of (maxL := 5) (own := RX6) [(0, .ref (G.2.1 6)), (1, .int (nI a))] rfl (by decide +kernel) rfl (Nat.le_of_ble_eq_true rfl) rfl (fun Z C E => ?_)
  refine z_aload_n (pc' := 1) C dX6_findThrees_0 rfl 0 rfl rfl ?_
  refine z_iconst (v := 0) (pc' := 2) C dX6_findThrees_1 rfl rfl ?_
  refine z_put (pc' := 5) C hU6 tyX6 tyX6_ok nmX6 6 (by decide) q_o6 rfl 19 (by decide) (by decide +kernel) rfl rfl (Nat.le_of_ble_eq_true rfl) (q_s13 _) dX6_findThrees_2 rfl ?_
  refine z_iconst (v := 0) (pc' := 6) C dX6_findThrees_5 rfl rfl ?_
  refine z_istore_n (lv' := [(2, .int 0), (0, .ref (G.2.1 6)), (1, .int (nI a))]) (pc' := 7) C dX6_findThrees_6 rfl (by decide) rfl rfl ?_
  have L7 : ∀ (fuel : Nat) (b : Nat) (hb : b ≤ m), m - b < fuel → Z (r_ft sc (r_to (ia 39) (ia 40) m a (r_x0 sc) b)) ia la [(2, .int (nI b)), (0, .ref (G.2.1 6)), (1, .int (nI a))] 7 [] := by
    intro fuel
    induction fuel with
    | zero => intro b hb hm7; exact absurd hm7 (Nat.not_lt_zero _)
    | succ fuel ih7 =>
      intro b hb hm7
      refine z_iload_n (pc' := 8) C dX6_findThrees_7 rfl 0 rfl rfl ?_
      refine z_aload_n (pc' := 9) C dX6_findThrees_8 rfl 1 rfl rfl ?_
      refine z_get (pc' := 12) C hU6 6 (by decide) q_o6 rfl 16 (by decide) (by decide +kernel) (v := .int (sc 12)) rfl dX6_findThrees_9 rfl ?_
      refine z_cast (st' := [.int (nI m), .int (nI b)]) rfl rfl rfl rfl (congrArg (fun z => Value.int z :: [.int (nI b)]) hm) ?_
      refine z_icmpN_ge (a := b) (b := m) (pc' := 15) C 210 (by omega) (by omega) dX6_findThrees_12 rfl rfl (fun h_12 => ?_) (fun h_12 => ?_)
      · exact z_vret (E := E) rfl dX6_findThrees_210 ⟨rfl, (by first | rfl | (have e9 : b = m := (by omega); subst e9; rfl)), rfl, rfl⟩
      · refine z_iload_n (pc' := 16) C dX6_findThrees_15 rfl 0 rfl rfl ?_
        refine z_iconst (v := 1) (pc' := 17) C dX6_findThrees_16 rfl rfl ?_
        refine z_iadd (pc' := 18) C dX6_findThrees_17 rfl ?_
        refine z_cast (st' := [.int (nI (b + 1))]) rfl rfl rfl rfl (congrArg (fun z => Value.int z :: []) (nI_add _ _)) ?_
        refine z_istore_n (lv' := [(3, .int (nI (b + 1))), (2, .int (nI b)), (0, .ref (G.2.1 6)), (1, .int (nI a))]) (pc' := 19) C dX6_findThrees_18 rfl (by decide) rfl rfl ?_
        have L19 : ∀ (fuel : Nat) (d : Nat) (hd : b + 1 + d ≤ m), m - (b + 1 + d) < fuel → Z (r_ft sc (r_ti (ia 39) (ia 40) a b (r_to (ia 39) (ia 40) m a (r_x0 sc) b) d)) ia la [(3, .int (nI (b + 1 + d))), (2, .int (nI b)), (0, .ref (G.2.1 6)), (1, .int (nI a))] 19 [] := by
          intro fuel
          induction fuel with
          | zero => intro d hd hm19; exact absurd hm19 (Nat.not_lt_zero _)
          | succ fuel ih19 =>
            intro d hd hm19
            refine z_iload_n (pc' := 20) C dX6_findThrees_19 rfl 0 rfl rfl ?_
            refine z_aload_n (pc' := 21) C dX6_findThrees_20 rfl 2 rfl rfl ?_
            refine z_get (pc' := 24) C hU6 6 (by decide) q_o6 rfl 16 (by decide) (by decide +kernel) (v := .int (sc 12)) rfl dX6_findThrees_21 rfl ?_
            refine z_cast (st' := [.int (nI m), .int (nI (b + 1 + d))]) rfl rfl rfl rfl (congrArg (fun z => Value.int z :: [.int (nI (b + 1 + d))]) hm) ?_
            refine z_icmpN_ge (a := b + 1 + d) (b := m) (pc' := 27) C 204 (by omega) (by omega) dX6_findThrees_24 rfl rfl (fun h_24 => ?_) (fun h_24 => ?_)
            · refine z_iinc (v := nI (b + 1)) (k9 := 1) (lv' := [(2, .int (nI (b + 1))), (3, .int (nI (b + 1 + d))), (0, .ref (G.2.1 6)), (1, .int (nI a))]) (pc' := 207) C dX6_findThrees_204 rfl (nI_1 b) (by decide) rfl rfl ?_
              refine z_goto (pc' := 7) C dX6_findThrees_207 rfl ?_
              refine z_sub (lv' := [(2, .int (nI (b + 1))), (0, .ref (G.2.1 6)), (1, .int (nI a))]) C [0, 2, 3] rfl ?_
              exact z_cast (by first | rfl | (have e9 : d = m - (b + 1) := (by omega); subst e9; rfl)) rfl rfl rfl rfl (ih7 (b + 1) (by omega) (by omega))
            · refine z_iload_n (pc' := 28) C dX6_findThrees_27 rfl 3 rfl rfl ?_
              refine z_iload_n (pc' := 29) C dX6_findThrees_28 rfl 1 rfl rfl ?_
              refine z_icmpN_eq (a := a) (b := b) (pc' := 32) C 198 (by omega) (by omega) dX6_findThrees_29 rfl rfl (fun h_29 => ?_) (fun h_29 => ?_)
              · refine z_iinc (v := nI (b + 1 + d + 1)) (k9 := 0) (lv' := [(3, .int (nI (b + 1 + d + 1))), (2, .int (nI b)), (0, .ref (G.2.1 6)), (1, .int (nI a))]) (pc' := 201) C dX6_findThrees_198 rfl (nI_1 (b + 1 + d)) (by decide) rfl rfl ?_
                refine z_goto (pc' := 19) C dX6_findThrees_201 rfl ?_
                exact z_cast (by first | (rw [r_ftu]; simp [r_ti, r_t1, r_wh, r_ga, h_29, h_34, h_47, h_60, h_73]; done) | (simp [r_ti, r_t1, r_wh, h_29]; done) | (simp [r_ti, r_t1, r_wh, h_34]; done) | (simp [r_ti, r_t1, r_wh, h_47]; done) | (simp [r_ti, r_t1, r_wh, h_60]; done) | (simp [r_ti, r_t1, r_wh, h_73]; done)) rfl rfl rfl rfl (ih19 (d + 1) (by omega) (by omega))
              · refine z_iload_n (pc' := 33) C dX6_findThrees_32 rfl 3 rfl rfl ?_
                refine z_iload_n (pc' := 34) C dX6_findThrees_33 rfl 0 rfl rfl ?_
                refine z_icmpN_eq (a := a) (b := b + 1 + d) (pc' := 37) C 198 (by omega) (by omega) dX6_findThrees_34 rfl rfl (fun h_34 => ?_) (fun h_34 => ?_)
                · refine z_iinc (v := nI (b + 1 + d + 1)) (k9 := 0) (lv' := [(3, .int (nI (b + 1 + d + 1))), (2, .int (nI b)), (0, .ref (G.2.1 6)), (1, .int (nI a))]) (pc' := 201) C dX6_findThrees_198 rfl (nI_1 (b + 1 + d)) (by decide) rfl rfl ?_
                  refine z_goto (pc' := 19) C dX6_findThrees_201 rfl ?_
                  exact z_cast (by first | (rw [r_ftu]; simp [r_ti, r_t1, r_wh, r_ga, h_29, h_34, h_47, h_60, h_73]; done) | (simp [r_ti, r_t1, r_wh, h_29]; done) | (simp [r_ti, r_t1, r_wh, h_34]; done) | (simp [r_ti, r_t1, r_wh, h_47]; done) | (simp [r_ti, r_t1, r_wh, h_60]; done) | (simp [r_ti, r_t1, r_wh, h_73]; done)) rfl rfl rfl rfl (ih19 (d + 1) (by omega) (by omega))
                · refine z_aload_n (pc' := 38) C dX6_findThrees_37 rfl 2 rfl rfl ?_
                  refine z_get (pc' := 41) C hU6 6 (by decide) q_o6 rfl 17 (by decide) (by decide +kernel) (v := .ref (G.2.1 46)) rfl dX6_findThrees_38 rfl ?_
                  refine z_iconst (v := 5) (pc' := 42) C dX6_findThrees_41 rfl rfl ?_
                  refine z_iload_n (pc' := 43) C dX6_findThrees_42 rfl 3 rfl rfl ?_
                  refine z_imul (pc' := 44) C dX6_findThrees_43 rfl ?_
                  refine z_cast (st' := [.int (nI (5 * a)), .ref (G.2.1 46)]) rfl rfl rfl rfl (congrArg (fun z => Value.int z :: [.ref (G.2.1 46)]) (pk_mul _ _)) ?_
                  refine z_iload_n (pc' := 45) C dX6_findThrees_44 rfl 1 rfl rfl ?_
                  refine z_iadd (pc' := 46) C dX6_findThrees_45 rfl ?_
                  refine z_cast (st' := [.int (nI (5 * a + b)), .ref (G.2.1 46)]) rfl rfl rfl rfl (congrArg (fun z => Value.int z :: [.ref (G.2.1 46)]) (nI_add _ _)) ?_
                  refine z_zald (pc' := 47) C 46 (by decide) (N := 25) (i := 5 * a + b) (f := ia 39) q_i39 (by omega) (by decide) dX6_findThrees_46 rfl ?_
                  refine z_if_eq (pc' := 50) C 198 dX6_findThrees_47 rfl rfl (fun h_47 => ?_) (fun h_47 => ?_)
                  · refine z_iinc (v := nI (b + 1 + d + 1)) (k9 := 0) (lv' := [(3, .int (nI (b + 1 + d + 1))), (2, .int (nI b)), (0, .ref (G.2.1 6)), (1, .int (nI a))]) (pc' := 201) C dX6_findThrees_198 rfl (nI_1 (b + 1 + d)) (by decide) rfl rfl ?_
                    refine z_goto (pc' := 19) C dX6_findThrees_201 rfl ?_
                    exact z_cast (by first | (rw [r_ftu]; simp [r_ti, r_t1, r_wh, r_ga, h_29, h_34, h_47, h_60, h_73]; done) | (simp [r_ti, r_t1, r_wh, h_29]; done) | (simp [r_ti, r_t1, r_wh, h_34]; done) | (simp [r_ti, r_t1, r_wh, h_47]; done) | (simp [r_ti, r_t1, r_wh, h_60]; done) | (simp [r_ti, r_t1, r_wh, h_73]; done)) rfl rfl rfl rfl (ih19 (d + 1) (by omega) (by omega))
                  · refine z_aload_n (pc' := 51) C dX6_findThrees_50 rfl 2 rfl rfl ?_
                    refine z_get (pc' := 54) C hU6 6 (by decide) q_o6 rfl 17 (by decide) (by decide +kernel) (v := .ref (G.2.1 46)) rfl dX6_findThrees_51 rfl ?_
                    refine z_iconst (v := 5) (pc' := 55) C dX6_findThrees_54 rfl rfl ?_
                    refine z_iload_n (pc' := 56) C dX6_findThrees_55 rfl 3 rfl rfl ?_
                    refine z_imul (pc' := 57) C dX6_findThrees_56 rfl ?_
                    refine z_cast (st' := [.int (nI (5 * a)), .ref (G.2.1 46)]) rfl rfl rfl rfl (congrArg (fun z => Value.int z :: [.ref (G.2.1 46)]) (pk_mul _ _)) ?_
                    refine z_iload_n (pc' := 58) C dX6_findThrees_57 rfl 0 rfl rfl ?_
                    refine z_iadd (pc' := 59) C dX6_findThrees_58 rfl ?_
                    refine z_cast (st' := [.int (nI (5 * a + (b + 1 + d))), .ref (G.2.1 46)]) rfl rfl rfl rfl (congrArg (fun z => Value.int z :: [.ref (G.2.1 46)]) (nI_add _ _)) ?_
                    refine z_zald (pc' := 60) C 46 (by decide) (N := 25) (i := 5 * a + (b + 1 + d)) (f := ia 39) q_i39 (by omega) (by decide) dX6_findThrees_59 rfl ?_
                    refine z_if_eq (pc' := 63) C 198 dX6_findThrees_60 rfl rfl (fun h_60 => ?_) (fun h_60 => ?_)
                    · refine z_iinc (v := nI (b + 1 + d + 1)) (k9 := 0) (lv' := [(3, .int (nI (b + 1 + d + 1))), (2, .int (nI b)), (0, .ref (G.2.1 6)), (1, .int (nI a))]) (pc' := 201) C dX6_findThrees_198 rfl (nI_1 (b + 1 + d)) (by decide) rfl rfl ?_
                      refine z_goto (pc' := 19) C dX6_findThrees_201 rfl ?_
                      exact z_cast (by first | (rw [r_ftu]; simp [r_ti, r_t1, r_wh, r_ga, h_29, h_34, h_47, h_60, h_73]; done) | (simp [r_ti, r_t1, r_wh, h_29]; done) | (simp [r_ti, r_t1, r_wh, h_34]; done) | (simp [r_ti, r_t1, r_wh, h_47]; done) | (simp [r_ti, r_t1, r_wh, h_60]; done) | (simp [r_ti, r_t1, r_wh, h_73]; done)) rfl rfl rfl rfl (ih19 (d + 1) (by omega) (by omega))
                    · refine z_aload_n (pc' := 64) C dX6_findThrees_63 rfl 2 rfl rfl ?_
                      refine z_get (pc' := 67) C hU6 6 (by decide) q_o6 rfl 17 (by decide) (by decide +kernel) (v := .ref (G.2.1 46)) rfl dX6_findThrees_64 rfl ?_
                      refine z_iconst (v := 5) (pc' := 68) C dX6_findThrees_67 rfl rfl ?_
                      refine z_iload_n (pc' := 69) C dX6_findThrees_68 rfl 1 rfl rfl ?_
                      refine z_imul (pc' := 70) C dX6_findThrees_69 rfl ?_
                      refine z_cast (st' := [.int (nI (5 * b)), .ref (G.2.1 46)]) rfl rfl rfl rfl (congrArg (fun z => Value.int z :: [.ref (G.2.1 46)]) (pk_mul _ _)) ?_
                      refine z_iload_n (pc' := 71) C dX6_findThrees_70 rfl 0 rfl rfl ?_
                      refine z_iadd (pc' := 72) C dX6_findThrees_71 rfl ?_
                      refine z_cast (st' := [.int (nI (5 * b + (b + 1 + d))), .ref (G.2.1 46)]) rfl rfl rfl rfl (congrArg (fun z => Value.int z :: [.ref (G.2.1 46)]) (nI_add _ _)) ?_
                      refine z_zald (pc' := 73) C 46 (by decide) (N := 25) (i := 5 * b + (b + 1 + d)) (f := ia 39) q_i39 (by omega) (by decide) dX6_findThrees_72 rfl ?_
                      refine z_if_eq (pc' := 76) C 198 dX6_findThrees_73 rfl rfl (fun h_73 => ?_) (fun h_73 => ?_)
                      · refine z_iinc (v := nI (b + 1 + d + 1)) (k9 := 0) (lv' := [(3, .int (nI (b + 1 + d + 1))), (2, .int (nI b)), (0, .ref (G.2.1 6)), (1, .int (nI a))]) (pc' := 201) C dX6_findThrees_198 rfl (nI_1 (b + 1 + d)) (by decide) rfl rfl ?_
                        refine z_goto (pc' := 19) C dX6_findThrees_201 rfl ?_
                        exact z_cast (by first | (rw [r_ftu]; simp [r_ti, r_t1, r_wh, r_ga, h_29, h_34, h_47, h_60, h_73]; done) | (simp [r_ti, r_t1, r_wh, h_29]; done) | (simp [r_ti, r_t1, r_wh, h_34]; done) | (simp [r_ti, r_t1, r_wh, h_47]; done) | (simp [r_ti, r_t1, r_wh, h_60]; done) | (simp [r_ti, r_t1, r_wh, h_73]; done)) rfl rfl rfl rfl (ih19 (d + 1) (by omega) (by omega))
                      · refine z_aload_n (pc' := 77) C dX6_findThrees_76 rfl 2 rfl rfl ?_
                        refine z_get (pc' := 80) C hU6 6 (by decide) q_o6 rfl 18 (by decide) (by decide +kernel) (v := .ref (G.2.1 47)) rfl dX6_findThrees_77 rfl ?_
                        refine z_iconst (v := 5) (pc' := 81) C dX6_findThrees_80 rfl rfl ?_
                        refine z_iload_n (pc' := 82) C dX6_findThrees_81 rfl 3 rfl rfl ?_
                        refine z_imul (pc' := 83) C dX6_findThrees_82 rfl ?_
                        refine z_cast (st' := [.int (nI (5 * a)), .ref (G.2.1 47)]) rfl rfl rfl rfl (congrArg (fun z => Value.int z :: [.ref (G.2.1 47)]) (pk_mul _ _)) ?_
                        refine z_iload_n (pc' := 84) C dX6_findThrees_83 rfl 1 rfl rfl ?_
                        refine z_iadd (pc' := 85) C dX6_findThrees_84 rfl ?_
                        refine z_cast (st' := [.int (nI (5 * a + b)), .ref (G.2.1 47)]) rfl rfl rfl rfl (congrArg (fun z => Value.int z :: [.ref (G.2.1 47)]) (nI_add _ _)) ?_
                        refine z_iald (pc' := 86) C 47 (by decide) (N := 25) (i := 5 * a + b) (f := ia 40) q_i40 (by omega) (by decide) dX6_findThrees_85 rfl ?_
                        refine z_aload_n (pc' := 87) C dX6_findThrees_86 rfl 2 rfl rfl ?_
                        refine z_get (pc' := 90) C hU6 6 (by decide) q_o6 rfl 18 (by decide) (by decide +kernel) (v := .ref (G.2.1 47)) rfl dX6_findThrees_87 rfl ?_
                        refine z_iconst (v := 5) (pc' := 91) C dX6_findThrees_90 rfl rfl ?_
                        refine z_iload_n (pc' := 92) C dX6_findThrees_91 rfl 3 rfl rfl ?_
                        refine z_imul (pc' := 93) C dX6_findThrees_92 rfl ?_
                        refine z_cast (st' := [.int (nI (5 * a)), .ref (G.2.1 47), .int ((ia 40) (5 * a + b))]) rfl rfl rfl rfl (congrArg (fun z => Value.int z :: [.ref (G.2.1 47), .int ((ia 40) (5 * a + b))]) (pk_mul _ _)) ?_
                        refine z_iload_n (pc' := 94) C dX6_findThrees_93 rfl 0 rfl rfl ?_
                        refine z_iadd (pc' := 95) C dX6_findThrees_94 rfl ?_
                        refine z_cast (st' := [.int (nI (5 * a + (b + 1 + d))), .ref (G.2.1 47), .int ((ia 40) (5 * a + b))]) rfl rfl rfl rfl (congrArg (fun z => Value.int z :: [.ref (G.2.1 47), .int ((ia 40) (5 * a + b))]) (nI_add _ _)) ?_
                        refine z_iald (pc' := 96) C 47 (by decide) (N := 25) (i := 5 * a + (b + 1 + d)) (f := ia 40) q_i40 (by omega) (by decide) dX6_findThrees_95 rfl ?_
                        refine z_iadd (pc' := 97) C dX6_findThrees_96 rfl ?_
                        refine z_aload_n (pc' := 98) C dX6_findThrees_97 rfl 2 rfl rfl ?_
                        refine z_get (pc' := 101) C hU6 6 (by decide) q_o6 rfl 18 (by decide) (by decide +kernel) (v := .ref (G.2.1 47)) rfl dX6_findThrees_98 rfl ?_
                        refine z_iconst (v := 5) (pc' := 102) C dX6_findThrees_101 rfl rfl ?_
                        refine z_iload_n (pc' := 103) C dX6_findThrees_102 rfl 1 rfl rfl ?_
                        refine z_imul (pc' := 104) C dX6_findThrees_103 rfl ?_
                        refine z_cast (st' := [.int (nI (5 * b)), .ref (G.2.1 47), .int (((ia 40) (5 * a + b)) + ((ia 40) (5 * a + (b + 1 + d))))]) rfl rfl rfl rfl (congrArg (fun z => Value.int z :: [.ref (G.2.1 47), .int (((ia 40) (5 * a + b)) + ((ia 40) (5 * a + (b + 1 + d))))]) (pk_mul _ _)) ?_
                        refine z_iload_n (pc' := 105) C dX6_findThrees_104 rfl 0 rfl rfl ?_
                        refine z_iadd (pc' := 106) C dX6_findThrees_105 rfl ?_
                        refine z_cast (st' := [.int (nI (5 * b + (b + 1 + d))), .ref (G.2.1 47), .int (((ia 40) (5 * a + b)) + ((ia 40) (5 * a + (b + 1 + d))))]) rfl rfl rfl rfl (congrArg (fun z => Value.int z :: [.ref (G.2.1 47), .int (((ia 40) (5 * a + b)) + ((ia 40) (5 * a + (b + 1 + d))))]) (nI_add _ _)) ?_
                        refine z_iald (pc' := 107) C 47 (by decide) (N := 25) (i := 5 * b + (b + 1 + d)) (f := ia 40) q_i40 (by omega) (by decide) dX6_findThrees_106 rfl ?_
                        refine z_isub (pc' := 108) C dX6_findThrees_107 rfl ?_
                        refine z_istore (lv' := [(4, .int ((((ia 40) (5 * a + b)) + ((ia 40) (5 * a + (b + 1 + d)))) - ((ia 40) (5 * b + (b + 1 + d))))), (3, .int (nI (b + 1 + d))), (2, .int (nI b)), (0, .ref (G.2.1 6)), (1, .int (nI a))]) (pc' := 110) C dX6_findThrees_108 (by decide) rfl rfl ?_
                        refine z_aload_n (pc' := 111) C dX6_findThrees_110 rfl 3 rfl rfl ?_
                        refine z_aload_n (pc' := 112) C dX6_findThrees_111 rfl 3 rfl rfl ?_
                        refine z_get (pc' := 115) C hU6 6 (by decide) q_o6 rfl 19 (by decide) (by decide +kernel) (v := .int ((r_ti (ia 39) (ia 40) a b (r_to (ia 39) (ia 40) m a (r_x0 sc) b) d).1)) rfl dX6_findThrees_112 rfl ?_
                        have J127 : Z (r_ft sc (r_ti (ia 39) (ia 40) a b (r_to (ia 39) (ia 40) m a (r_x0 sc) b) d)) ia la [(4, .int ((((ia 40) (5 * a + b)) + ((ia 40) (5 * a + (b + 1 + d)))) - ((ia 40) (5 * b + (b + 1 + d))))), (3, .int (nI (b + 1 + d))), (2, .int (nI b)), (0, .ref (G.2.1 6)), (1, .int (nI a))] 127 [.int (if (r_ti (ia 39) (ia 40) a b (r_to (ia 39) (ia 40) m a (r_x0 sc) b) d).1 = 0 then r_ga (ia 40) a b (b + 1 + d) else (r_ti (ia 39) (ia 40) a b (r_to (ia 39) (ia 40) m a (r_x0 sc) b) d).2.1), .ref (G.2.1 6)] := by
                          refine z_put (pc' := 130) C hU6 tyX6 tyX6_ok nmX6 6 (by decide) q_o6 rfl 20 (by decide) (by decide +kernel) rfl rfl (Nat.le_of_ble_eq_true rfl) (q_s14 _) dX6_findThrees_127 rfl ?_
                          refine z_aload_n (pc' := 131) C dX6_findThrees_130 rfl 3 rfl rfl ?_
                          refine z_aload_n (pc' := 132) C dX6_findThrees_131 rfl 3 rfl rfl ?_
                          refine z_get (pc' := 135) C hU6 6 (by decide) q_o6 rfl 19 (by decide) (by decide +kernel) (v := .int ((r_ti (ia 39) (ia 40) a b (r_to (ia 39) (ia 40) m a (r_x0 sc) b) d).1)) rfl dX6_findThrees_132 rfl ?_
                          have J156 : Z (va_up (r_ft sc (r_ti (ia 39) (ia 40) a b (r_to (ia 39) (ia 40) m a (r_x0 sc) b) d)) 14 (if (r_ti (ia 39) (ia 40) a b (r_to (ia 39) (ia 40) m a (r_x0 sc) b) d).1 = 0 then r_ga (ia 40) a b (b + 1 + d) else (r_ti (ia 39) (ia 40) a b (r_to (ia 39) (ia 40) m a (r_x0 sc) b) d).2.1)) ia la [(4, .int ((((ia 40) (5 * a + b)) + ((ia 40) (5 * a + (b + 1 + d)))) - ((ia 40) (5 * b + (b + 1 + d))))), (3, .int (nI (b + 1 + d))), (2, .int (nI b)), (0, .ref (G.2.1 6)), (1, .int (nI a))] 156 [.int (if (r_ti (ia 39) (ia 40) a b (r_to (ia 39) (ia 40) m a (r_x0 sc) b) d).1 = 0 ∨ r_ga (ia 40) a b (b + 1 + d) < (r_ti (ia 39) (ia 40) a b (r_to (ia 39) (ia 40) m a (r_x0 sc) b) d).2.2.1 then r_ga (ia 40) a b (b + 1 + d) else (r_ti (ia 39) (ia 40) a b (r_to (ia 39) (ia 40) m a (r_x0 sc) b) d).2.2.1), .ref (G.2.1 6)] := by
                            refine z_put (pc' := 159) C hU6 tyX6 tyX6_ok nmX6 6 (by decide) q_o6 rfl 21 (by decide) (by decide +kernel) rfl rfl (Nat.le_of_ble_eq_true rfl) (q_s15 _) dX6_findThrees_156 rfl ?_
                            refine z_aload_n (pc' := 160) C dX6_findThrees_159 rfl 3 rfl rfl ?_
                            refine z_aload_n (pc' := 161) C dX6_findThrees_160 rfl 3 rfl rfl ?_
                            refine z_get (pc' := 164) C hU6 6 (by decide) q_o6 rfl 19 (by decide) (by decide +kernel) (v := .int ((r_ti (ia 39) (ia 40) a b (r_to (ia 39) (ia 40) m a (r_x0 sc) b) d).1)) rfl dX6_findThrees_161 rfl ?_
                            have J185 : Z (va_up (va_up (r_ft sc (r_ti (ia 39) (ia 40) a b (r_to (ia 39) (ia 40) m a (r_x0 sc) b) d)) 14 (if (r_ti (ia 39) (ia 40) a b (r_to (ia 39) (ia 40) m a (r_x0 sc) b) d).1 = 0 then r_ga (ia 40) a b (b + 1 + d) else (r_ti (ia 39) (ia 40) a b (r_to (ia 39) (ia 40) m a (r_x0 sc) b) d).2.1)) 15 (if (r_ti (ia 39) (ia 40) a b (r_to (ia 39) (ia 40) m a (r_x0 sc) b) d).1 = 0 ∨ r_ga (ia 40) a b (b + 1 + d) < (r_ti (ia 39) (ia 40) a b (r_to (ia 39) (ia 40) m a (r_x0 sc) b) d).2.2.1 then r_ga (ia 40) a b (b + 1 + d) else (r_ti (ia 39) (ia 40) a b (r_to (ia 39) (ia 40) m a (r_x0 sc) b) d).2.2.1)) ia la [(4, .int ((((ia 40) (5 * a + b)) + ((ia 40) (5 * a + (b + 1 + d)))) - ((ia 40) (5 * b + (b + 1 + d))))), (3, .int (nI (b + 1 + d))), (2, .int (nI b)), (0, .ref (G.2.1 6)), (1, .int (nI a))] 185 [.int (if (r_ti (ia 39) (ia 40) a b (r_to (ia 39) (ia 40) m a (r_x0 sc) b) d).1 = 0 ∨ (r_ti (ia 39) (ia 40) a b (r_to (ia 39) (ia 40) m a (r_x0 sc) b) d).2.2.2 < r_ga (ia 40) a b (b + 1 + d) then r_ga (ia 40) a b (b + 1 + d) else (r_ti (ia 39) (ia 40) a b (r_to (ia 39) (ia 40) m a (r_x0 sc) b) d).2.2.2), .ref (G.2.1 6)] := by
                              refine z_put (pc' := 188) C hU6 tyX6 tyX6_ok nmX6 6 (by decide) q_o6 rfl 22 (by decide) (by decide +kernel) rfl rfl (Nat.le_of_ble_eq_true rfl) (q_s16 _) dX6_findThrees_185 rfl ?_
                              refine z_aload_n (pc' := 189) C dX6_findThrees_188 rfl 3 rfl rfl ?_
                              refine z_dup (pc' := 190) C dX6_findThrees_189 rfl rfl ?_
                              refine z_get (pc' := 193) C hU6 6 (by decide) q_o6 rfl 19 (by decide) (by decide +kernel) (v := .int ((r_ti (ia 39) (ia 40) a b (r_to (ia 39) (ia 40) m a (r_x0 sc) b) d).1)) rfl dX6_findThrees_190 rfl ?_
                              refine z_iconst (v := 1) (pc' := 194) C dX6_findThrees_193 rfl rfl ?_
                              refine z_iadd (pc' := 195) C dX6_findThrees_194 rfl ?_
                              refine z_put (pc' := 198) C hU6 tyX6 tyX6_ok nmX6 6 (by decide) q_o6 rfl 19 (by decide) (by decide +kernel) rfl rfl (Nat.le_of_ble_eq_true rfl) (q_s13 _) dX6_findThrees_195 rfl ?_
                              refine z_iinc (v := nI (b + 1 + d + 1)) (k9 := 1) (lv' := [(3, .int (nI (b + 1 + d + 1))), (4, .int ((((ia 40) (5 * a + b)) + ((ia 40) (5 * a + (b + 1 + d)))) - ((ia 40) (5 * b + (b + 1 + d))))), (2, .int (nI b)), (0, .ref (G.2.1 6)), (1, .int (nI a))]) (pc' := 201) C dX6_findThrees_198 rfl (nI_1 (b + 1 + d)) (by decide) rfl rfl ?_
                              refine z_goto (pc' := 19) C dX6_findThrees_201 rfl ?_
                              refine z_sub (lv' := [(3, .int (nI (b + 1 + d + 1))), (2, .int (nI b)), (0, .ref (G.2.1 6)), (1, .int (nI a))]) C [0, 2, 3, 4] rfl ?_
                              exact z_cast (by first | (rw [r_ftu]; simp [r_ti, r_t1, r_wh, r_ga, h_29, h_34, h_47, h_60, h_73]; done) | (simp [r_ti, r_t1, r_wh, h_29]; done) | (simp [r_ti, r_t1, r_wh, h_34]; done) | (simp [r_ti, r_t1, r_wh, h_47]; done) | (simp [r_ti, r_t1, r_wh, h_60]; done) | (simp [r_ti, r_t1, r_wh, h_73]; done)) rfl rfl rfl rfl (ih19 (d + 1) (by omega) (by omega))
                            refine z_if_eq (pc' := 167) C 176 dX6_findThrees_164 rfl rfl (fun h_164 => ?_) (fun h_164 => ?_)
                            · refine z_iload (pc' := 178) C dX6_findThrees_176 0 rfl rfl ?_
                              refine z_goto (pc' := 185) C dX6_findThrees_178 rfl ?_
                              exact z_cast rfl rfl rfl rfl (by first | rfl | (have hG9 : r_ga (ia 40) a b (b + 1 + d) = (ia 40) (5 * a + b) + (ia 40) (5 * a + (b + 1 + d)) - (ia 40) (5 * b + (b + 1 + d)) := rfl; rw [hG9]; first | (simp [h_164]; done) | (simp [h_164, ← Int32.not_le, h_173]; done))) J185
                            · refine z_iload (pc' := 169) C dX6_findThrees_167 0 rfl rfl ?_
                              refine z_aload_n (pc' := 170) C dX6_findThrees_169 rfl 3 rfl rfl ?_
                              refine z_get (pc' := 173) C hU6 6 (by decide) q_o6 rfl 22 (by decide) (by decide +kernel) (v := .int ((r_ti (ia 39) (ia 40) a b (r_to (ia 39) (ia 40) m a (r_x0 sc) b) d).2.2.2)) rfl dX6_findThrees_170 rfl ?_
                              refine z_icmp_le (pc' := 176) C 181 dX6_findThrees_173 rfl rfl (fun h_173 => ?_) (fun h_173 => ?_)
                              · refine z_aload_n (pc' := 182) C dX6_findThrees_181 rfl 3 rfl rfl ?_
                                refine z_get (pc' := 185) C hU6 6 (by decide) q_o6 rfl 22 (by decide) (by decide +kernel) (v := .int ((r_ti (ia 39) (ia 40) a b (r_to (ia 39) (ia 40) m a (r_x0 sc) b) d).2.2.2)) rfl dX6_findThrees_182 rfl ?_
                                exact z_cast rfl rfl rfl rfl (by first | rfl | (have hG9 : r_ga (ia 40) a b (b + 1 + d) = (ia 40) (5 * a + b) + (ia 40) (5 * a + (b + 1 + d)) - (ia 40) (5 * b + (b + 1 + d)) := rfl; rw [hG9]; first | (simp [h_164]; done) | (simp [h_164, ← Int32.not_le, h_173]; done))) J185
                              · refine z_iload (pc' := 178) C dX6_findThrees_176 0 rfl rfl ?_
                                refine z_goto (pc' := 185) C dX6_findThrees_178 rfl ?_
                                exact z_cast rfl rfl rfl rfl (by first | rfl | (have hG9 : r_ga (ia 40) a b (b + 1 + d) = (ia 40) (5 * a + b) + (ia 40) (5 * a + (b + 1 + d)) - (ia 40) (5 * b + (b + 1 + d)) := rfl; rw [hG9]; first | (simp [h_164]; done) | (simp [h_164, ← Int32.not_le, h_173]; done))) J185
                          refine z_if_eq (pc' := 138) C 147 dX6_findThrees_135 rfl rfl (fun h_135 => ?_) (fun h_135 => ?_)
                          · refine z_iload (pc' := 149) C dX6_findThrees_147 0 rfl rfl ?_
                            refine z_goto (pc' := 156) C dX6_findThrees_149 rfl ?_
                            exact z_cast rfl rfl rfl rfl (by first | rfl | (have hG9 : r_ga (ia 40) a b (b + 1 + d) = (ia 40) (5 * a + b) + (ia 40) (5 * a + (b + 1 + d)) - (ia 40) (5 * b + (b + 1 + d)) := rfl; rw [hG9]; first | (simp [h_135]; done) | (simp [h_135, ← Int32.not_le, h_144]; done))) J156
                          · refine z_iload (pc' := 140) C dX6_findThrees_138 0 rfl rfl ?_
                            refine z_aload_n (pc' := 141) C dX6_findThrees_140 rfl 3 rfl rfl ?_
                            refine z_get (pc' := 144) C hU6 6 (by decide) q_o6 rfl 21 (by decide) (by decide +kernel) (v := .int ((r_ti (ia 39) (ia 40) a b (r_to (ia 39) (ia 40) m a (r_x0 sc) b) d).2.2.1)) rfl dX6_findThrees_141 rfl ?_
                            refine z_icmp_ge (pc' := 147) C 152 dX6_findThrees_144 rfl rfl (fun h_144 => ?_) (fun h_144 => ?_)
                            · refine z_aload_n (pc' := 153) C dX6_findThrees_152 rfl 3 rfl rfl ?_
                              refine z_get (pc' := 156) C hU6 6 (by decide) q_o6 rfl 21 (by decide) (by decide +kernel) (v := .int ((r_ti (ia 39) (ia 40) a b (r_to (ia 39) (ia 40) m a (r_x0 sc) b) d).2.2.1)) rfl dX6_findThrees_153 rfl ?_
                              exact z_cast rfl rfl rfl rfl (by first | rfl | (have hG9 : r_ga (ia 40) a b (b + 1 + d) = (ia 40) (5 * a + b) + (ia 40) (5 * a + (b + 1 + d)) - (ia 40) (5 * b + (b + 1 + d)) := rfl; rw [hG9]; first | (simp [h_135]; done) | (simp [h_135, ← Int32.not_le, h_144]; done))) J156
                            · refine z_iload (pc' := 149) C dX6_findThrees_147 0 rfl rfl ?_
                              refine z_goto (pc' := 156) C dX6_findThrees_149 rfl ?_
                              exact z_cast rfl rfl rfl rfl (by first | rfl | (have hG9 : r_ga (ia 40) a b (b + 1 + d) = (ia 40) (5 * a + b) + (ia 40) (5 * a + (b + 1 + d)) - (ia 40) (5 * b + (b + 1 + d)) := rfl; rw [hG9]; first | (simp [h_135]; done) | (simp [h_135, ← Int32.not_le, h_144]; done))) J156
                        refine z_if_ne (pc' := 118) C 123 dX6_findThrees_115 rfl rfl (fun h_115 => ?_) (fun h_115 => ?_)
                        · refine z_aload_n (pc' := 124) C dX6_findThrees_123 rfl 3 rfl rfl ?_
                          refine z_get (pc' := 127) C hU6 6 (by decide) q_o6 rfl 20 (by decide) (by decide +kernel) (v := .int ((r_ti (ia 39) (ia 40) a b (r_to (ia 39) (ia 40) m a (r_x0 sc) b) d).2.1)) rfl dX6_findThrees_124 rfl ?_
                          exact z_cast rfl rfl rfl rfl (by first | rfl | (first | (simp [h_115]; rfl) | (simp [h_115]; done))) J127
                        · refine z_iload (pc' := 120) C dX6_findThrees_118 0 rfl rfl ?_
                          refine z_goto (pc' := 127) C dX6_findThrees_120 rfl ?_
                          exact z_cast rfl rfl rfl rfl (by first | rfl | (first | (simp [h_115]; rfl) | (simp [h_115]; done))) J127
        exact z_cast rfl rfl rfl rfl rfl (L19 (_ + 1) 0 (by omega) (Nat.lt_succ_self _))
  exact z_cast (by first | rfl | (exact r_ft0 sc)) rfl rfl rfl rfl (L7 (_ + 1) 0 (by omega) (Nat.lt_succ_self _))

set_option maxHeartbeats 4000000 in
set_option maxRecDepth 100000 in
theorem c_X6_gain_no (l : Launch) (G : Gv) (sc : Sc) (ia : Ia) (la : La) (m : Nat) (hm : sc 12 = nI m) (hm1 : 1 ≤ m) (hM : m ≤ 5) (a : Int32) (ha : s_has a (nI m) = false)  : Ct l yX6_gain wsX6_gain ({ frames := 7, cells := 0, slots := 0, locals := 250 }) G [.ref (G.2.1 6), .int a] sc ia la (fI (-1000001) sc ia la) := by
  have hU6 : ∀ w ∈ u_ws RX6 TX6 25, w ∈ wsX6_gain := fun w h => List.mem_cons_of_mem _ (List.mem_append_right _ h)
  refine z_of (maxL := 2) (own := RX6) [(0, .ref (G.2.1 6)), (1, .int a)] rfl (by decide +kernel) rfl (Nat.le_of_ble_eq_true rfl) rfl (fun Z C E => ?_)
  refine z_iload_n (pc' := 1) C dX6_gain_0 rfl 1 rfl rfl ?_
  refine z_i2l (pc' := 2) C dX6_gain_1 rfl ?_
  refine z_lconst (v := 0) (pc' := 3) C dX6_gain_2 rfl rfl ?_
  refine z_aload_n (pc' := 4) C dX6_gain_3 rfl 0 rfl rfl ?_
  refine z_get (pc' := 7) C hU6 6 (by decide) q_o6 rfl 16 (by decide) (by decide +kernel) (v := .int (sc 12)) rfl dX6_gain_4 rfl ?_
  refine z_cast (st' := [.int (nI m), .long 0, .long a.toInt64]) rfl rfl rfl rfl (congrArg (fun z => Value.int z :: [.long 0, .long a.toInt64]) hm) ?_
  refine z_iconst (v := 1) (pc' := 8) C dX6_gain_7 rfl rfl ?_
  refine z_isub (pc' := 9) C dX6_gain_8 rfl ?_
  refine z_i2l (pc' := 10) C dX6_gain_9 rfl ?_
  refine z_cS (n := 3) (pc' := 13) (As := [.long a.toInt64, .long 0, .long (((nI m) - 1).toInt64)]) (rest := []) C (c_X6_inB l G sc ia la a 0 (nI m - 1) 0 (((nI m) - 1).toInt64) rfl rfl false (by rw [s_out_pl _ hm1 (by omega), ha])) gX6_gain_X6_in rfl rfl rfl (by decide +kernel) (by decide) rfl rfl dX6_gain_10 (Nat.le_of_ble_eq_true rfl) rfl (k_I ?_)
  show Z sc ia la [(0, .ref (G.2.1 6)), (1, .int a)] 13 [.int 0]
  refine z_if_ne (pc' := 16) C 19 dX6_gain_13 rfl rfl (fun h_13 => absurd h_13 (by decide)) (fun h_13 => ?_)
  refine z_ldc (v := -1000001) (pc' := 18) C (by decide +kernel) dX6_gain_16 rfl ?_
  exact z_iret (E := E) rfl dX6_gain_18 ⟨(congrArg (fun z => some (Value.int z)) rfl), rfl, rfl, rfl⟩

set_option maxHeartbeats 4000000 in
set_option maxRecDepth 100000 in
theorem c_X6_gain_ok (l : Launch) (G : Gv) (sc : Sc) (ia : Ia) (la : La) (m : Nat) (hm : sc 12 = nI m) (hm1 : 1 ≤ m) (hM : m ≤ 5) (a : Nat) (haj : a < m)  : Ct l yX6_gain wsX6_gain ({ frames := 7, cells := 0, slots := 0, locals := 250 }) G [.ref (G.2.1 6), .int (nI a)] sc ia la (fI (if (r_tt sc (ia 39) (ia 40) m a).1 = 0 then -1000003 else (r_tt sc (ia 39) (ia 40) m a).2.1) (r_ft sc (r_tt sc (ia 39) (ia 40) m a)) ia la) := by
  have hU6 : ∀ w ∈ u_ws RX6 TX6 25, w ∈ wsX6_gain := fun w h => List.mem_cons_of_mem _ (List.mem_append_right _ h)
  refine z_of (maxL := 2) (own := RX6) [(0, .ref (G.2.1 6)), (1, .int (nI a))] rfl (by decide +kernel) rfl (Nat.le_of_ble_eq_true rfl) rfl (fun Z C E => ?_)
  refine z_iload_n (pc' := 1) C dX6_gain_0 rfl 1 rfl rfl ?_
  refine z_i2l (pc' := 2) C dX6_gain_1 rfl ?_
  refine z_lconst (v := 0) (pc' := 3) C dX6_gain_2 rfl rfl ?_
  refine z_aload_n (pc' := 4) C dX6_gain_3 rfl 0 rfl rfl ?_
  refine z_get (pc' := 7) C hU6 6 (by decide) q_o6 rfl 16 (by decide) (by decide +kernel) (v := .int (sc 12)) rfl dX6_gain_4 rfl ?_
  refine z_cast (st' := [.int (nI m), .long 0, .long ((nI a).toInt64)]) rfl rfl rfl rfl (congrArg (fun z => Value.int z :: [.long 0, .long ((nI a).toInt64)]) hm) ?_
  refine z_iconst (v := 1) (pc' := 8) C dX6_gain_7 rfl rfl ?_
  refine z_isub (pc' := 9) C dX6_gain_8 rfl ?_
  refine z_i2l (pc' := 10) C dX6_gain_9 rfl ?_
  refine z_cS (n := 3) (pc' := 13) (As := [.long ((nI a).toInt64), .long 0, .long (((nI m) - 1).toInt64)]) (rest := []) C (c_X6_inB l G sc ia la (nI a) 0 (nI m - 1) 0 (((nI m) - 1).toInt64) rfl rfl true (s_out_ok1 (by omega) (by omega))) gX6_gain_X6_in rfl rfl rfl (by decide +kernel) (by decide) rfl rfl dX6_gain_10 (Nat.le_of_ble_eq_true rfl) rfl (k_I ?_)
  show Z sc ia la [(0, .ref (G.2.1 6)), (1, .int (nI a))] 13 [.int 1]
  refine z_if_ne (pc' := 16) C 19 dX6_gain_13 rfl rfl (fun h_13 => ?_) (fun h_13 => absurd h_13 (by decide))
  refine z_aload_n (pc' := 20) C dX6_gain_19 rfl 0 rfl rfl ?_
  refine z_iload_n (pc' := 21) C dX6_gain_20 rfl 1 rfl rfl ?_
  refine z_cV (n := 1) (pc' := 24) (As := [.int (nI a)]) (rest := []) C 6 (c_X6_findThrees l G sc ia la m hm hm1 hM a (by omega)) gX6_gain_X6_findThrees rfl rfl rfl rfl (by decide +kernel) (by decide) rfl (by decide) q_o6 rfl rfl dX6_gain_21 (Nat.le_of_ble_eq_true rfl) rfl (k_V ?_)
  show Z (r_ft sc (r_tt sc (ia 39) (ia 40) m a)) ia la [(0, .ref (G.2.1 6)), (1, .int (nI a))] 24 []
  refine z_aload_n (pc' := 25) C dX6_gain_24 rfl 0 rfl rfl ?_
  refine z_get (pc' := 28) C hU6 6 (by decide) q_o6 rfl 19 (by decide) (by decide +kernel) (v := .int ((r_tt sc (ia 39) (ia 40) m a).1)) rfl dX6_gain_25 rfl ?_
  refine z_if_ne (pc' := 31) C 36 dX6_gain_28 rfl rfl (fun h_28 => ?_) (fun h_28 => ?_)
  · refine z_aload_n (pc' := 37) C dX6_gain_36 rfl 0 rfl rfl ?_
    refine z_get (pc' := 40) C hU6 6 (by decide) q_o6 rfl 20 (by decide) (by decide +kernel) (v := .int ((r_tt sc (ia 39) (ia 40) m a).2.1)) rfl dX6_gain_37 rfl ?_
    exact z_iret (E := E) rfl dX6_gain_40 ⟨(congrArg (fun z => some (Value.int z)) (show _ = _ from (by first | rfl | (simp [h_28])))), rfl, rfl, rfl⟩
  · refine z_ldc (v := -1000003) (pc' := 33) C (by decide +kernel) dX6_gain_31 rfl ?_
    refine z_goto (pc' := 40) C dX6_gain_33 rfl ?_
    exact z_iret (E := E) rfl dX6_gain_40 ⟨(congrArg (fun z => some (Value.int z)) (show _ = _ from (by first | rfl | (simp [h_28])))), rfl, rfl, rfl⟩

set_option maxHeartbeats 4000000 in
set_option maxRecDepth 100000 in
theorem c_X6_loose_ok (l : Launch) (G : Gv) (sc : Sc) (ia : Ia) (la : La) (m : Nat) (hm : sc 12 = nI m) (hm1 : 1 ≤ m) (hM : m ≤ 5)  : Ct l yX6_loose wsX6_loose ({ frames := 7, cells := 0, slots := 0, locals := 250 }) G [.ref (G.2.1 6)] sc ia la (fI ((r_lo sc (ia 39) (ia 40) m m).2) ((r_lo sc (ia 39) (ia 40) m m).1) ia la) := by
  have hU6 : ∀ w ∈ u_ws RX6 TX6 25, w ∈ wsX6_loose := fun w h => List.mem_cons_of_mem _ (List.mem_append_right _ h)
  refine z_of (maxL := 3) (own := RX6) [(0, .ref (G.2.1 6))] rfl (by decide +kernel) rfl (Nat.le_of_ble_eq_true rfl) rfl (fun Z C E => ?_)
  refine z_iconst (v := -1) (pc' := 1) C dX6_loose_0 rfl rfl ?_
  refine z_istore_n (lv' := [(1, .int (-1)), (0, .ref (G.2.1 6))]) (pc' := 2) C dX6_loose_1 rfl (by decide) rfl rfl ?_
  refine z_iconst (v := 0) (pc' := 3) C dX6_loose_2 rfl rfl ?_
  refine z_istore_n (lv' := [(2, .int 0), (1, .int (-1)), (0, .ref (G.2.1 6))]) (pc' := 4) C dX6_loose_3 rfl (by decide) rfl rfl ?_
  have L4 : ∀ (fuel : Nat) (a : Nat) (ha : a ≤ m), m - a < fuel → Z ((r_lo sc (ia 39) (ia 40) m a).1) ia la [(2, .int (nI a)), (1, .int ((r_lo sc (ia 39) (ia 40) m a).2)), (0, .ref (G.2.1 6))] 4 [] := by
    intro fuel
    induction fuel with
    | zero => intro a ha hm4; exact absurd hm4 (Nat.not_lt_zero _)
    | succ fuel ih4 =>
      intro a ha hm4
      refine z_iload_n (pc' := 5) C dX6_loose_4 rfl 0 rfl rfl ?_
      refine z_aload_n (pc' := 6) C dX6_loose_5 rfl 2 rfl rfl ?_
      refine z_get (pc' := 9) C hU6 6 (by decide) q_o6 rfl 16 (by decide) (by decide +kernel) (v := .int (((r_lo sc (ia 39) (ia 40) m a).1) 12)) rfl dX6_loose_6 rfl ?_
      refine z_cast (st' := [.int (nI m), .int (nI a)]) rfl rfl rfl rfl (congrArg (fun z => Value.int z :: [.int (nI a)]) (r_lo12 sc (ia 39) (ia 40) m hm a)) ?_
      refine z_icmpN_ge (a := a) (b := m) (pc' := 12) C 53 (by omega) (by omega) dX6_loose_9 rfl rfl (fun h_9 => ?_) (fun h_9 => ?_)
      · refine z_iload_n (pc' := 54) C dX6_loose_53 rfl 1 rfl rfl ?_
        exact z_iret (E := E) rfl dX6_loose_54 ⟨(congrArg (fun z => some (Value.int z)) (show _ = _ from (by first | rfl | (have e9 : a = m := (by omega); subst e9; rfl)))), (by first | rfl | (have e9 : a = m := (by omega); subst e9; rfl)), rfl, rfl⟩
      · refine z_aload_n (pc' := 13) C dX6_loose_12 rfl 2 rfl rfl ?_
        refine z_iload_n (pc' := 14) C dX6_loose_13 rfl 0 rfl rfl ?_
        refine z_cV (n := 1) (pc' := 17) (As := [.int (nI a)]) (rest := []) C 6 (c_X6_findThrees l G ((r_lo sc (ia 39) (ia 40) m a).1) ia la m (r_lo12 sc (ia 39) (ia 40) m hm a) hm1 hM a (by omega)) gX6_loose_X6_findThrees rfl rfl rfl rfl (by decide +kernel) (by decide) rfl (by decide) q_o6 rfl rfl dX6_loose_14 (Nat.le_of_ble_eq_true rfl) rfl (k_V ?_)
        show Z (r_ft ((r_lo sc (ia 39) (ia 40) m a).1) (r_tt ((r_lo sc (ia 39) (ia 40) m a).1) (ia 39) (ia 40) m a)) ia la [(2, .int (nI a)), (1, .int ((r_lo sc (ia 39) (ia 40) m a).2)), (0, .ref (G.2.1 6))] 17 []
        refine z_aload_n (pc' := 18) C dX6_loose_17 rfl 2 rfl rfl ?_
        refine z_get (pc' := 21) C hU6 6 (by decide) q_o6 rfl 19 (by decide) (by decide +kernel) (v := .int ((r_tt ((r_lo sc (ia 39) (ia 40) m a).1) (ia 39) (ia 40) m a).1)) rfl dX6_loose_18 rfl ?_
        refine z_if_le (pc' := 24) C 47 dX6_loose_21 rfl rfl (fun h_21 => ?_) (fun h_21 => ?_)
        · refine z_iinc (v := nI (a + 1)) (k9 := 0) (lv' := [(2, .int (nI (a + 1))), (1, .int ((r_lo sc (ia 39) (ia 40) m a).2)), (0, .ref (G.2.1 6))]) (pc' := 50) C dX6_loose_47 rfl (nI_1 a) (by decide) rfl rfl ?_
          refine z_goto (pc' := 4) C dX6_loose_50 rfl ?_
          exact z_cast rfl rfl rfl (by first | (simp [r_lo, h_21]; done) | (simp [r_lo, h_21, h_34]; done)) rfl (ih4 (a + 1) (by omega) (by omega))
        · refine z_aload_n (pc' := 25) C dX6_loose_24 rfl 2 rfl rfl ?_
          refine z_get (pc' := 28) C hU6 6 (by decide) q_o6 rfl 22 (by decide) (by decide +kernel) (v := .int ((r_tt ((r_lo sc (ia 39) (ia 40) m a).1) (ia 39) (ia 40) m a).2.2.2)) rfl dX6_loose_25 rfl ?_
          refine z_aload_n (pc' := 29) C dX6_loose_28 rfl 2 rfl rfl ?_
          refine z_get (pc' := 32) C hU6 6 (by decide) q_o6 rfl 21 (by decide) (by decide +kernel) (v := .int ((r_tt ((r_lo sc (ia 39) (ia 40) m a).1) (ia 39) (ia 40) m a).2.2.1)) rfl dX6_loose_29 rfl ?_
          refine z_isub (pc' := 33) C dX6_loose_32 rfl ?_
          refine z_iload_n (pc' := 34) C dX6_loose_33 rfl 1 rfl rfl ?_
          refine z_icmp_le (pc' := 37) C 47 dX6_loose_34 rfl rfl (fun h_34 => ?_) (fun h_34 => ?_)
          · refine z_iinc (v := nI (a + 1)) (k9 := 0) (lv' := [(2, .int (nI (a + 1))), (1, .int ((r_lo sc (ia 39) (ia 40) m a).2)), (0, .ref (G.2.1 6))]) (pc' := 50) C dX6_loose_47 rfl (nI_1 a) (by decide) rfl rfl ?_
            refine z_goto (pc' := 4) C dX6_loose_50 rfl ?_
            exact z_cast rfl rfl rfl (by first | (simp [r_lo, h_21]; done) | (simp [r_lo, h_21, h_34]; done)) rfl (ih4 (a + 1) (by omega) (by omega))
          · refine z_aload_n (pc' := 38) C dX6_loose_37 rfl 2 rfl rfl ?_
            refine z_get (pc' := 41) C hU6 6 (by decide) q_o6 rfl 22 (by decide) (by decide +kernel) (v := .int ((r_tt ((r_lo sc (ia 39) (ia 40) m a).1) (ia 39) (ia 40) m a).2.2.2)) rfl dX6_loose_38 rfl ?_
            refine z_aload_n (pc' := 42) C dX6_loose_41 rfl 2 rfl rfl ?_
            refine z_get (pc' := 45) C hU6 6 (by decide) q_o6 rfl 21 (by decide) (by decide +kernel) (v := .int ((r_tt ((r_lo sc (ia 39) (ia 40) m a).1) (ia 39) (ia 40) m a).2.2.1)) rfl dX6_loose_42 rfl ?_
            refine z_isub (pc' := 46) C dX6_loose_45 rfl ?_
            refine z_istore_n (lv' := [(1, .int (((r_tt ((r_lo sc (ia 39) (ia 40) m a).1) (ia 39) (ia 40) m a).2.2.2) - ((r_tt ((r_lo sc (ia 39) (ia 40) m a).1) (ia 39) (ia 40) m a).2.2.1))), (2, .int (nI a)), (0, .ref (G.2.1 6))]) (pc' := 47) C dX6_loose_46 rfl (by decide) rfl rfl ?_
            refine z_iinc (v := nI (a + 1)) (k9 := 1) (lv' := [(2, .int (nI (a + 1))), (1, .int (((r_tt ((r_lo sc (ia 39) (ia 40) m a).1) (ia 39) (ia 40) m a).2.2.2) - ((r_tt ((r_lo sc (ia 39) (ia 40) m a).1) (ia 39) (ia 40) m a).2.2.1))), (0, .ref (G.2.1 6))]) (pc' := 50) C dX6_loose_47 rfl (nI_1 a) (by decide) rfl rfl ?_
            refine z_goto (pc' := 4) C dX6_loose_50 rfl ?_
            exact z_cast rfl rfl rfl (by first | (simp [r_lo, h_21]; done) | (simp [r_lo, h_21, h_34]; done)) rfl (ih4 (a + 1) (by omega) (by omega))
  exact z_cast rfl rfl rfl rfl rfl (L4 (_ + 1) 0 (by omega) (Nat.lt_succ_self _))

set_option maxHeartbeats 4000000 in
set_option maxRecDepth 100000 in
theorem c_X6_count_ok (l : Launch) (G : Gv) (sc : Sc) (ia : Ia) (la : La) (n : Nat) (hn : sc 7 = nI n) (hN : n ≤ 32) (k : Int32)  : Ct l yX6_count wsX6_count ({ frames := 7, cells := 0, slots := 0, locals := 250 }) G [.ref (G.2.1 6), .int k] sc ia la (fI (if k.toInt = 0 then sc 7 else if k.toInt = 1 then r_ct (ia 32) n else if k.toInt = 2 then r_ct (ia 33) n else if k.toInt = 3 then sc 10 else if k.toInt = 4 then sc 11 else if k.toInt = 5 then sc 12 else if k.toInt = 6 then r_ct (ia 39) 25 / 2 else if k.toInt = 7 then sc 17 else -102) sc ia la) := by
  have hU6 : ∀ w ∈ u_ws RX6 TX6 25, w ∈ wsX6_count := fun w h => List.mem_cons_of_mem _ (List.mem_append_right _ h)
  refine z_of (maxL := 4) (own := RX6) [(0, .ref (G.2.1 6)), (1, .int k)] rfl (by decide +kernel) rfl (Nat.le_of_ble_eq_true rfl) rfl (fun Z C E => ?_)
  refine z_iconst (v := 0) (pc' := 1) C dX6_count_0 rfl rfl ?_
  refine z_istore_n (lv' := [(2, .int 0), (0, .ref (G.2.1 6)), (1, .int k)]) (pc' := 2) C dX6_count_1 rfl (by decide) rfl rfl ?_
  refine z_iload_n (pc' := 3) C dX6_count_2 rfl 2 rfl rfl ?_
  by_cases h_3 : k.toInt < 0 ∨ 7 < k.toInt
  · refine z_tableOut C 148 dX6_count_3 h_3 rfl ?_
    refine z_bipush (v := -102) (pc' := 150) C dX6_count_148 rfl rfl ?_
    exact z_iret (E := E) rfl dX6_count_150 ⟨(congrArg (fun z => some (Value.int z)) (show _ = _ from (by first | rfl | (first | simp [h_3v] | (rw [if_neg (by omega), if_neg (by omega), if_neg (by omega), if_neg (by omega), if_neg (by omega), if_neg (by omega), if_neg (by omega), if_neg (by omega)]))))), rfl, rfl, rfl⟩
  · have h_39 : k.toInt = 0 ∨ k.toInt = 1 ∨ k.toInt = 2 ∨ k.toInt = 3 ∨ k.toInt = 4 ∨ k.toInt = 5 ∨ k.toInt = 6 ∨ k.toInt = 7 := by omega
    rcases h_39 with h_3v | h_3v | h_3v | h_3v | h_3v | h_3v | h_3v | h_3v
    · refine z_tableIn C 48 (off := 45) dX6_count_3 (by omega) (by omega) (by rw [h_3v]; rfl) rfl ?_
      refine z_aload_n (pc' := 49) C dX6_count_48 rfl 1 rfl rfl ?_
      refine z_get (pc' := 52) C hU6 6 (by decide) q_o6 rfl 0 (by decide) (by decide +kernel) (v := .int (sc 7)) rfl dX6_count_49 rfl ?_
      refine z_cast (st' := [.int (nI n)]) rfl rfl rfl rfl (congrArg (fun z => Value.int z :: []) hn) ?_
      exact z_iret (E := E) rfl dX6_count_52 ⟨(congrArg (fun z => some (Value.int z)) (show _ = _ from (by first | rfl | (rw [hn]; simp [h_3v])))), rfl, rfl, rfl⟩
    · refine z_tableIn C 53 (off := 50) dX6_count_3 (by omega) (by omega) (by rw [h_3v]; rfl) rfl ?_
      refine z_aload_n (pc' := 54) C dX6_count_53 rfl 1 rfl rfl ?_
      refine z_cV (n := 0) (pc' := 57) (As := []) (rest := []) C 6 (c_X6_lostMany l G sc ia la n hn hN) gX6_count_X6_lostMany rfl rfl rfl rfl (by decide +kernel) (by decide) rfl (by decide) q_o6 rfl rfl dX6_count_54 (Nat.le_of_ble_eq_true rfl) rfl (k_I ?_)
      show Z sc ia la [(2, .int 0), (0, .ref (G.2.1 6)), (1, .int k)] 57 [.int (r_ct (ia 32) n)]
      exact z_iret (E := E) rfl dX6_count_57 ⟨(congrArg (fun z => some (Value.int z)) (show _ = _ from (by first | rfl | (first | simp [h_3v] | (rw [if_neg (by omega), if_neg (by omega), if_neg (by omega), if_neg (by omega), if_neg (by omega), if_neg (by omega), if_neg (by omega), if_neg (by omega)]))))), rfl, rfl, rfl⟩
    · refine z_tableIn C 58 (off := 55) dX6_count_3 (by omega) (by omega) (by rw [h_3v]; rfl) rfl ?_
      refine z_iconst (v := 0) (pc' := 59) C dX6_count_58 rfl rfl ?_
      refine z_istore_n (lv' := [(3, .int 0), (2, .int 0), (0, .ref (G.2.1 6)), (1, .int k)]) (pc' := 60) C dX6_count_59 rfl (by decide) rfl rfl ?_
      have L60 : ∀ (fuel : Nat) (i : Nat) (hi : i ≤ n), n - i < fuel → Z sc ia la [(3, .int (nI i)), (2, .int (r_ct (ia 33) i)), (0, .ref (G.2.1 6))] 60 [] := by
        intro fuel
        induction fuel with
        | zero => intro i hi hm60; exact absurd hm60 (Nat.not_lt_zero _)
        | succ fuel ih60 =>
          intro i hi hm60
          refine z_iload_n (pc' := 61) C dX6_count_60 rfl 0 rfl rfl ?_
          refine z_aload_n (pc' := 62) C dX6_count_61 rfl 2 rfl rfl ?_
          refine z_get (pc' := 65) C hU6 6 (by decide) q_o6 rfl 0 (by decide) (by decide +kernel) (v := .int (sc 7)) rfl dX6_count_62 rfl ?_
          refine z_cast (st' := [.int (nI n), .int (nI i)]) rfl rfl rfl rfl (congrArg (fun z => Value.int z :: [.int (nI i)]) hn) ?_
          refine z_icmpN_ge (a := i) (b := n) (pc' := 68) C 91 (by omega) (by omega) dX6_count_65 rfl rfl (fun h_65 => ?_) (fun h_65 => ?_)
          · refine z_iload_n (pc' := 92) C dX6_count_91 rfl 1 rfl rfl ?_
            exact z_iret (E := E) rfl dX6_count_92 ⟨(congrArg (fun z => some (Value.int z)) (show _ = _ from (by first | rfl | (have e9 : i = n := (by omega); subst e9; simp [h_3v])))), rfl, rfl, rfl⟩
          · refine z_iload_n (pc' := 69) C dX6_count_68 rfl 1 rfl rfl ?_
            refine z_aload_n (pc' := 70) C dX6_count_69 rfl 2 rfl rfl ?_
            refine z_get (pc' := 73) C hU6 6 (by decide) q_o6 rfl 5 (by decide) (by decide +kernel) (v := .ref (G.2.1 40)) rfl dX6_count_70 rfl ?_
            refine z_iload_n (pc' := 74) C dX6_count_73 rfl 0 rfl rfl ?_
            refine z_zald (pc' := 75) C 40 (by decide) (N := 32) (i := i) (f := ia 33) q_i33 (by omega) (by decide) dX6_count_74 rfl ?_
            have J83 : Z sc ia la [(3, .int (nI i)), (2, .int (r_ct (ia 33) i)), (0, .ref (G.2.1 6))] 83 [.int (if ia 33 i = 0 then 0 else 1), .int (r_ct (ia 33) i)] := by
              refine z_iadd (pc' := 84) C dX6_count_83 rfl ?_
              refine z_istore_n (lv' := [(2, .int ((r_ct (ia 33) i) + (if ia 33 i = 0 then 0 else 1))), (3, .int (nI i)), (0, .ref (G.2.1 6))]) (pc' := 85) C dX6_count_84 rfl (by decide) rfl rfl ?_
              refine z_iinc (v := nI (i + 1)) (k9 := 1) (lv' := [(3, .int (nI (i + 1))), (2, .int ((r_ct (ia 33) i) + (if ia 33 i = 0 then 0 else 1))), (0, .ref (G.2.1 6))]) (pc' := 88) C dX6_count_85 rfl (nI_1 i) (by decide) rfl rfl ?_
              refine z_goto (pc' := 60) C dX6_count_88 rfl ?_
              exact z_cast rfl rfl rfl rfl rfl (ih60 (i + 1) (by omega) (by omega))
            refine z_if_eq (pc' := 78) C 82 dX6_count_75 rfl rfl (fun h_75 => ?_) (fun h_75 => ?_)
            · refine z_iconst (v := 0) (pc' := 83) C dX6_count_82 rfl rfl ?_
              exact z_cast rfl rfl rfl rfl (by first | rfl | (simp [bI, h_3v, hi, h_65, h_75])) J83
            · refine z_iconst (v := 1) (pc' := 79) C dX6_count_78 rfl rfl ?_
              refine z_goto (pc' := 83) C dX6_count_79 rfl ?_
              exact z_cast rfl rfl rfl rfl (by first | rfl | (simp [bI, h_3v, hi, h_65, h_75])) J83
      refine z_sub (lv' := [(3, .int 0), (2, .int 0), (0, .ref (G.2.1 6))]) C [0, 1, 2] rfl ?_
      exact z_cast rfl rfl rfl rfl rfl (L60 (_ + 1) 0 (by omega) (Nat.lt_succ_self _))
    · refine z_tableIn C 93 (off := 90) dX6_count_3 (by omega) (by omega) (by rw [h_3v]; rfl) rfl ?_
      refine z_aload_n (pc' := 94) C dX6_count_93 rfl 1 rfl rfl ?_
      refine z_get (pc' := 97) C hU6 6 (by decide) q_o6 rfl 13 (by decide) (by decide +kernel) (v := .int (sc 10)) rfl dX6_count_94 rfl ?_
      exact z_iret (E := E) rfl dX6_count_97 ⟨(congrArg (fun z => some (Value.int z)) (show _ = _ from (by first | rfl | (first | simp [h_3v] | (rw [if_neg (by omega), if_neg (by omega), if_neg (by omega), if_neg (by omega), if_neg (by omega), if_neg (by omega), if_neg (by omega), if_neg (by omega)]))))), rfl, rfl, rfl⟩
    · refine z_tableIn C 98 (off := 95) dX6_count_3 (by omega) (by omega) (by rw [h_3v]; rfl) rfl ?_
      refine z_aload_n (pc' := 99) C dX6_count_98 rfl 1 rfl rfl ?_
      refine z_get (pc' := 102) C hU6 6 (by decide) q_o6 rfl 14 (by decide) (by decide +kernel) (v := .int (sc 11)) rfl dX6_count_99 rfl ?_
      exact z_iret (E := E) rfl dX6_count_102 ⟨(congrArg (fun z => some (Value.int z)) (show _ = _ from (by first | rfl | (first | simp [h_3v] | (rw [if_neg (by omega), if_neg (by omega), if_neg (by omega), if_neg (by omega), if_neg (by omega), if_neg (by omega), if_neg (by omega), if_neg (by omega)]))))), rfl, rfl, rfl⟩
    · refine z_tableIn C 103 (off := 100) dX6_count_3 (by omega) (by omega) (by rw [h_3v]; rfl) rfl ?_
      refine z_aload_n (pc' := 104) C dX6_count_103 rfl 1 rfl rfl ?_
      refine z_get (pc' := 107) C hU6 6 (by decide) q_o6 rfl 16 (by decide) (by decide +kernel) (v := .int (sc 12)) rfl dX6_count_104 rfl ?_
      exact z_iret (E := E) rfl dX6_count_107 ⟨(congrArg (fun z => some (Value.int z)) (show _ = _ from (by first | rfl | (first | simp [h_3v] | (rw [if_neg (by omega), if_neg (by omega), if_neg (by omega), if_neg (by omega), if_neg (by omega), if_neg (by omega), if_neg (by omega), if_neg (by omega)]))))), rfl, rfl, rfl⟩
    · refine z_tableIn C 108 (off := 105) dX6_count_3 (by omega) (by omega) (by rw [h_3v]; rfl) rfl ?_
      refine z_iconst (v := 0) (pc' := 109) C dX6_count_108 rfl rfl ?_
      refine z_istore_n (lv' := [(3, .int 0), (2, .int 0), (0, .ref (G.2.1 6)), (1, .int k)]) (pc' := 110) C dX6_count_109 rfl (by decide) rfl rfl ?_
      have L110 : ∀ (fuel : Nat) (i : Nat) (hi : i ≤ 25), 25 - i < fuel → Z sc ia la [(3, .int (nI i)), (2, .int (r_ct (ia 39) i)), (0, .ref (G.2.1 6))] 110 [] := by
        intro fuel
        induction fuel with
        | zero => intro i hi hm110; exact absurd hm110 (Nat.not_lt_zero _)
        | succ fuel ih110 =>
          intro i hi hm110
          refine z_iload_n (pc' := 111) C dX6_count_110 rfl 0 rfl rfl ?_
          refine z_bipush (v := 25) (pc' := 113) C dX6_count_111 rfl rfl ?_
          refine z_icmpN_ge (a := i) (b := 25) (pc' := 116) C 139 (by omega) (by omega) dX6_count_113 rfl rfl (fun h_113 => ?_) (fun h_113 => ?_)
          · refine z_iload_n (pc' := 140) C dX6_count_139 rfl 1 rfl rfl ?_
            refine z_iconst (v := 2) (pc' := 141) C dX6_count_140 rfl rfl ?_
            refine z_idiv (pc' := 142) C dX6_count_141 (by decide) rfl ?_
            exact z_iret (E := E) rfl dX6_count_142 ⟨(congrArg (fun z => some (Value.int z)) (show _ = _ from (by first | rfl | (have e9 : i = 25 := (by omega); subst e9; simp [h_3v])))), rfl, rfl, rfl⟩
          · refine z_iload_n (pc' := 117) C dX6_count_116 rfl 1 rfl rfl ?_
            refine z_aload_n (pc' := 118) C dX6_count_117 rfl 2 rfl rfl ?_
            refine z_get (pc' := 121) C hU6 6 (by decide) q_o6 rfl 17 (by decide) (by decide +kernel) (v := .ref (G.2.1 46)) rfl dX6_count_118 rfl ?_
            refine z_iload_n (pc' := 122) C dX6_count_121 rfl 0 rfl rfl ?_
            refine z_zald (pc' := 123) C 46 (by decide) (N := 25) (i := i) (f := ia 39) q_i39 (by omega) (by decide) dX6_count_122 rfl ?_
            have J131 : Z sc ia la [(3, .int (nI i)), (2, .int (r_ct (ia 39) i)), (0, .ref (G.2.1 6))] 131 [.int (if ia 39 i = 0 then 0 else 1), .int (r_ct (ia 39) i)] := by
              refine z_iadd (pc' := 132) C dX6_count_131 rfl ?_
              refine z_istore_n (lv' := [(2, .int ((r_ct (ia 39) i) + (if ia 39 i = 0 then 0 else 1))), (3, .int (nI i)), (0, .ref (G.2.1 6))]) (pc' := 133) C dX6_count_132 rfl (by decide) rfl rfl ?_
              refine z_iinc (v := nI (i + 1)) (k9 := 1) (lv' := [(3, .int (nI (i + 1))), (2, .int ((r_ct (ia 39) i) + (if ia 39 i = 0 then 0 else 1))), (0, .ref (G.2.1 6))]) (pc' := 136) C dX6_count_133 rfl (nI_1 i) (by decide) rfl rfl ?_
              refine z_goto (pc' := 110) C dX6_count_136 rfl ?_
              exact z_cast rfl rfl rfl rfl rfl (ih110 (i + 1) (by omega) (by omega))
            refine z_if_eq (pc' := 126) C 130 dX6_count_123 rfl rfl (fun h_123 => ?_) (fun h_123 => ?_)
            · refine z_iconst (v := 0) (pc' := 131) C dX6_count_130 rfl rfl ?_
              exact z_cast rfl rfl rfl rfl (by first | rfl | (simp [bI, h_3v, hi, h_113, h_123])) J131
            · refine z_iconst (v := 1) (pc' := 127) C dX6_count_126 rfl rfl ?_
              refine z_goto (pc' := 131) C dX6_count_127 rfl ?_
              exact z_cast rfl rfl rfl rfl (by first | rfl | (simp [bI, h_3v, hi, h_113, h_123])) J131
      refine z_sub (lv' := [(3, .int 0), (2, .int 0), (0, .ref (G.2.1 6))]) C [0, 1, 2] rfl ?_
      exact z_cast rfl rfl rfl rfl rfl (L110 (_ + 1) 0 (by omega) (Nat.lt_succ_self _))
    · refine z_tableIn C 143 (off := 140) dX6_count_3 (by omega) (by omega) (by rw [h_3v]; rfl) rfl ?_
      refine z_aload_n (pc' := 144) C dX6_count_143 rfl 1 rfl rfl ?_
      refine z_get (pc' := 147) C hU6 6 (by decide) q_o6 rfl 23 (by decide) (by decide +kernel) (v := .int (sc 17)) rfl dX6_count_144 rfl ?_
      exact z_iret (E := E) rfl dX6_count_147 ⟨(congrArg (fun z => some (Value.int z)) (show _ = _ from (by first | rfl | (first | simp [h_3v] | (rw [if_neg (by omega), if_neg (by omega), if_neg (by omega), if_neg (by omega), if_neg (by omega), if_neg (by omega), if_neg (by omega), if_neg (by omega)]))))), rfl, rfl, rfl⟩

set_option maxHeartbeats 4000000 in
set_option maxRecDepth 100000 in
theorem c_X6_digest_ok (l : Launch) (G : Gv) (sc : Sc) (ia : Ia) (la : La) (n : Nat) (hn : sc 7 = nI n) (hN : n ≤ 32) (R K : Nat) (hR : sc 10 = nI R) (hC : sc 11 = nI K) (hR1 : 1 ≤ R) (hR8 : R ≤ 8) (hK1 : 1 ≤ K) (hC8 : K ≤ 8) (m : Nat) (hm : sc 12 = nI m) (hm1 : 1 ≤ m) (hM : m ≤ 5) (d : Nat) (hd : sc 17 = nI d) (hD : d ≤ 18)  : Ct l yX6_digest wsX6_digest ({ frames := 7, cells := 0, slots := 0, locals := 250 }) G [.ref (G.2.1 6)] sc ia la (fL (s_df (ia 41) (r_pfo (ia 39) (ia 40) m (s_fo (r_sft (ia 38) K (r_sfr (ia 38) K (s_fo (s_fo (r_nf ia (s_fo 191 (nI n).toInt64) n) (nI R).toInt64) (nI K).toInt64) (R + 1)) R) (nI m).toInt64) m) d) sc ia la) := by
  have hU6 : ∀ w ∈ u_ws RX6 TX6 25, w ∈ wsX6_digest := fun w h => List.mem_cons_of_mem _ (List.mem_append_right _ h)
  refine z_of (maxL := 5) (own := RX6) [(0, .ref (G.2.1 6))] rfl (by decide +kernel) rfl (Nat.le_of_ble_eq_true rfl) rfl (fun Z C E => ?_)
  refine z_ldc2 (v := 191) (pc' := 3) C (by decide +kernel) dX6_digest_0 rfl ?_
  refine z_lstore_n (lv' := [(1, .long 191), (0, .ref (G.2.1 6))]) (pc' := 4) C dX6_digest_3 rfl (by decide) rfl rfl ?_
  refine z_ldc2 (v := 31) (pc' := 7) C (by decide +kernel) dX6_digest_4 rfl ?_
  refine z_lload_n (pc' := 8) C dX6_digest_7 rfl 0 rfl rfl ?_
  refine z_lmul (pc' := 9) C dX6_digest_8 rfl ?_
  refine z_aload_n (pc' := 10) C dX6_digest_9 rfl 1 rfl rfl ?_
  refine z_get (pc' := 13) C hU6 6 (by decide) q_o6 rfl 0 (by decide) (by decide +kernel) (v := .int (sc 7)) rfl dX6_digest_10 rfl ?_
  refine z_cast (st' := [.int (nI n), .long (31 * 191)]) rfl rfl rfl rfl (congrArg (fun z => Value.int z :: [.long (31 * 191)]) hn) ?_
  refine z_i2l (pc' := 14) C dX6_digest_13 rfl ?_
  refine z_ladd (pc' := 15) C dX6_digest_14 rfl ?_
  refine z_lstore_n (lv' := [(1, .long ((31 * 191) + ((nI n).toInt64))), (0, .ref (G.2.1 6))]) (pc' := 16) C dX6_digest_15 rfl (by decide) rfl rfl ?_
  refine z_iconst (v := 0) (pc' := 17) C dX6_digest_16 rfl rfl ?_
  refine z_istore_n (lv' := [(3, .int 0), (1, .long ((31 * 191) + ((nI n).toInt64))), (0, .ref (G.2.1 6))]) (pc' := 18) C dX6_digest_17 rfl (by decide) rfl rfl ?_
  have L18 : ∀ (fuel : Nat) (i : Nat) (hi : i ≤ n), n - i < fuel → Z sc ia la [(3, .int (nI i)), (1, .long (r_nf ia (s_fo 191 (nI n).toInt64) i)), (0, .ref (G.2.1 6))] 18 [] := by
    intro fuel
    induction fuel with
    | zero => intro i hi hm18; exact absurd hm18 (Nat.not_lt_zero _)
    | succ fuel ih18 =>
      intro i hi hm18
      refine z_iload_n (pc' := 19) C dX6_digest_18 rfl 0 rfl rfl ?_
      refine z_aload_n (pc' := 20) C dX6_digest_19 rfl 2 rfl rfl ?_
      refine z_get (pc' := 23) C hU6 6 (by decide) q_o6 rfl 0 (by decide) (by decide +kernel) (v := .int (sc 7)) rfl dX6_digest_20 rfl ?_
      refine z_cast (st' := [.int (nI n), .int (nI i)]) rfl rfl rfl rfl (congrArg (fun z => Value.int z :: [.int (nI i)]) hn) ?_
      refine z_icmpN_ge (a := i) (b := n) (pc' := 26) C 155 (by omega) (by omega) dX6_digest_23 rfl rfl (fun h_23 => ?_) (fun h_23 => ?_)
      · refine z_ldc2 (v := 31) (pc' := 158) C (by decide +kernel) dX6_digest_155 rfl ?_
        refine z_lload_n (pc' := 159) C dX6_digest_158 rfl 1 rfl rfl ?_
        refine z_lmul (pc' := 160) C dX6_digest_159 rfl ?_
        refine z_aload_n (pc' := 161) C dX6_digest_160 rfl 2 rfl rfl ?_
        refine z_get (pc' := 164) C hU6 6 (by decide) q_o6 rfl 13 (by decide) (by decide +kernel) (v := .int (sc 10)) rfl dX6_digest_161 rfl ?_
        refine z_cast (st' := [.int (nI R), .long (31 * (r_nf ia (s_fo 191 (nI n).toInt64) i))]) rfl rfl rfl rfl (congrArg (fun z => Value.int z :: [.long (31 * (r_nf ia (s_fo 191 (nI n).toInt64) i))]) hR) ?_
        refine z_i2l (pc' := 165) C dX6_digest_164 rfl ?_
        refine z_ladd (pc' := 166) C dX6_digest_165 rfl ?_
        refine z_lstore_n (lv' := [(1, .long ((31 * (r_nf ia (s_fo 191 (nI n).toInt64) i)) + ((nI R).toInt64))), (3, .int (nI i)), (0, .ref (G.2.1 6))]) (pc' := 167) C dX6_digest_166 rfl (by decide) rfl rfl ?_
        refine z_ldc2 (v := 31) (pc' := 170) C (by decide +kernel) dX6_digest_167 rfl ?_
        refine z_lload_n (pc' := 171) C dX6_digest_170 rfl 0 rfl rfl ?_
        refine z_lmul (pc' := 172) C dX6_digest_171 rfl ?_
        refine z_aload_n (pc' := 173) C dX6_digest_172 rfl 2 rfl rfl ?_
        refine z_get (pc' := 176) C hU6 6 (by decide) q_o6 rfl 14 (by decide) (by decide +kernel) (v := .int (sc 11)) rfl dX6_digest_173 rfl ?_
        refine z_cast (st' := [.int (nI K), .long (31 * ((31 * (r_nf ia (s_fo 191 (nI n).toInt64) i)) + ((nI R).toInt64)))]) rfl rfl rfl rfl (congrArg (fun z => Value.int z :: [.long (31 * ((31 * (r_nf ia (s_fo 191 (nI n).toInt64) i)) + ((nI R).toInt64)))]) hC) ?_
        refine z_i2l (pc' := 177) C dX6_digest_176 rfl ?_
        refine z_ladd (pc' := 178) C dX6_digest_177 rfl ?_
        refine z_lstore_n (lv' := [(1, .long ((31 * ((31 * (r_nf ia (s_fo 191 (nI n).toInt64) i)) + ((nI R).toInt64))) + ((nI K).toInt64))), (3, .int (nI i)), (0, .ref (G.2.1 6))]) (pc' := 179) C dX6_digest_178 rfl (by decide) rfl rfl ?_
        refine z_iconst (v := 0) (pc' := 180) C dX6_digest_179 rfl rfl ?_
        refine z_istore_n (lv' := [(3, .int 0), (1, .long ((31 * ((31 * (r_nf ia (s_fo 191 (nI n).toInt64) i)) + ((nI R).toInt64))) + ((nI K).toInt64))), (0, .ref (G.2.1 6))]) (pc' := 181) C dX6_digest_180 rfl (by decide) rfl rfl ?_
        have L181 : ∀ (fuel : Nat) (r : Nat) (hr : r ≤ R + 1), R + 1 - r < fuel → Z sc ia la [(3, .int (nI r)), (1, .long (r_sfr (ia 38) K (s_fo (s_fo (r_nf ia (s_fo 191 (nI n).toInt64) n) (nI R).toInt64) (nI K).toInt64) r)), (0, .ref (G.2.1 6))] 181 [] := by
          intro fuel
          induction fuel with
          | zero => intro r hr hm181; exact absurd hm181 (Nat.not_lt_zero _)
          | succ fuel ih181 =>
            intro r hr hm181
            refine z_iload_n (pc' := 182) C dX6_digest_181 rfl 0 rfl rfl ?_
            refine z_aload_n (pc' := 183) C dX6_digest_182 rfl 2 rfl rfl ?_
            refine z_get (pc' := 186) C hU6 6 (by decide) q_o6 rfl 13 (by decide) (by decide +kernel) (v := .int (sc 10)) rfl dX6_digest_183 rfl ?_
            refine z_cast (st' := [.int (nI R), .int (nI r)]) rfl rfl rfl rfl (congrArg (fun z => Value.int z :: [.int (nI r)]) hR) ?_
            refine z_icmpN_gt (a := r) (b := R) (pc' := 189) C 233 (by omega) (by omega) dX6_digest_186 rfl rfl (fun h_186 => ?_) (fun h_186 => ?_)
            · refine z_iconst (v := 0) (pc' := 234) C dX6_digest_233 rfl rfl ?_
              refine z_istore_n (lv' := [(3, .int 0), (1, .long (r_sfr (ia 38) K (s_fo (s_fo (r_nf ia (s_fo 191 (nI n).toInt64) n) (nI R).toInt64) (nI K).toInt64) r)), (0, .ref (G.2.1 6))]) (pc' := 235) C dX6_digest_234 rfl (by decide) rfl rfl ?_
              have L235 : ∀ (fuel : Nat) (r2 : Nat) (hr2 : r2 ≤ R), R - r2 < fuel → Z sc ia la [(3, .int (nI r2)), (1, .long (r_sft (ia 38) K (r_sfr (ia 38) K (s_fo (s_fo (r_nf ia (s_fo 191 (nI n).toInt64) n) (nI R).toInt64) (nI K).toInt64) (R + 1)) r2)), (0, .ref (G.2.1 6))] 235 [] := by
                intro fuel
                induction fuel with
                | zero => intro r2 hr2 hm235; exact absurd hm235 (Nat.not_lt_zero _)
                | succ fuel ih235 =>
                  intro r2 hr2 hm235
                  refine z_iload_n (pc' := 236) C dX6_digest_235 rfl 0 rfl rfl ?_
                  refine z_aload_n (pc' := 237) C dX6_digest_236 rfl 2 rfl rfl ?_
                  refine z_get (pc' := 240) C hU6 6 (by decide) q_o6 rfl 13 (by decide) (by decide +kernel) (v := .int (sc 10)) rfl dX6_digest_237 rfl ?_
                  refine z_cast (st' := [.int (nI R), .int (nI r2)]) rfl rfl rfl rfl (congrArg (fun z => Value.int z :: [.int (nI r2)]) hR) ?_
                  refine z_icmpN_ge (a := r2) (b := R) (pc' := 243) C 271 (by omega) (by omega) dX6_digest_240 rfl rfl (fun h_240 => ?_) (fun h_240 => ?_)
                  · refine z_ldc2 (v := 31) (pc' := 274) C (by decide +kernel) dX6_digest_271 rfl ?_
                    refine z_lload_n (pc' := 275) C dX6_digest_274 rfl 1 rfl rfl ?_
                    refine z_lmul (pc' := 276) C dX6_digest_275 rfl ?_
                    refine z_aload_n (pc' := 277) C dX6_digest_276 rfl 2 rfl rfl ?_
                    refine z_get (pc' := 280) C hU6 6 (by decide) q_o6 rfl 16 (by decide) (by decide +kernel) (v := .int (sc 12)) rfl dX6_digest_277 rfl ?_
                    refine z_cast (st' := [.int (nI m), .long (31 * (r_sft (ia 38) K (r_sfr (ia 38) K (s_fo (s_fo (r_nf ia (s_fo 191 (nI n).toInt64) n) (nI R).toInt64) (nI K).toInt64) (R + 1)) r2))]) rfl rfl rfl rfl (congrArg (fun z => Value.int z :: [.long (31 * (r_sft (ia 38) K (r_sfr (ia 38) K (s_fo (s_fo (r_nf ia (s_fo 191 (nI n).toInt64) n) (nI R).toInt64) (nI K).toInt64) (R + 1)) r2))]) hm) ?_
                    refine z_i2l (pc' := 281) C dX6_digest_280 rfl ?_
                    refine z_ladd (pc' := 282) C dX6_digest_281 rfl ?_
                    refine z_lstore_n (lv' := [(1, .long ((31 * (r_sft (ia 38) K (r_sfr (ia 38) K (s_fo (s_fo (r_nf ia (s_fo 191 (nI n).toInt64) n) (nI R).toInt64) (nI K).toInt64) (R + 1)) r2)) + ((nI m).toInt64))), (3, .int (nI r2)), (0, .ref (G.2.1 6))]) (pc' := 283) C dX6_digest_282 rfl (by decide) rfl rfl ?_
                    refine z_iconst (v := 0) (pc' := 284) C dX6_digest_283 rfl rfl ?_
                    refine z_istore_n (lv' := [(3, .int 0), (1, .long ((31 * (r_sft (ia 38) K (r_sfr (ia 38) K (s_fo (s_fo (r_nf ia (s_fo 191 (nI n).toInt64) n) (nI R).toInt64) (nI K).toInt64) (R + 1)) r2)) + ((nI m).toInt64))), (0, .ref (G.2.1 6))]) (pc' := 285) C dX6_digest_284 rfl (by decide) rfl rfl ?_
                    have L285 : ∀ (fuel : Nat) (a : Nat) (ha : a ≤ m), m - a < fuel → Z sc ia la [(3, .int (nI a)), (1, .long (r_pfo (ia 39) (ia 40) m (s_fo (r_sft (ia 38) K (r_sfr (ia 38) K (s_fo (s_fo (r_nf ia (s_fo 191 (nI n).toInt64) n) (nI R).toInt64) (nI K).toInt64) (R + 1)) R) (nI m).toInt64) a)), (0, .ref (G.2.1 6))] 285 [] := by
                      intro fuel
                      induction fuel with
                      | zero => intro a ha hm285; exact absurd hm285 (Nat.not_lt_zero _)
                      | succ fuel ih285 =>
                        intro a ha hm285
                        refine z_iload_n (pc' := 286) C dX6_digest_285 rfl 0 rfl rfl ?_
                        refine z_aload_n (pc' := 287) C dX6_digest_286 rfl 2 rfl rfl ?_
                        refine z_get (pc' := 290) C hU6 6 (by decide) q_o6 rfl 16 (by decide) (by decide +kernel) (v := .int (sc 12)) rfl dX6_digest_287 rfl ?_
                        refine z_cast (st' := [.int (nI m), .int (nI a)]) rfl rfl rfl rfl (congrArg (fun z => Value.int z :: [.int (nI a)]) hm) ?_
                        refine z_icmpN_ge (a := a) (b := m) (pc' := 293) C 379 (by omega) (by omega) dX6_digest_290 rfl rfl (fun h_290 => ?_) (fun h_290 => ?_)
                        · refine z_iconst (v := 0) (pc' := 380) C dX6_digest_379 rfl rfl ?_
                          refine z_istore_n (lv' := [(3, .int 0), (1, .long (r_pfo (ia 39) (ia 40) m (s_fo (r_sft (ia 38) K (r_sfr (ia 38) K (s_fo (s_fo (r_nf ia (s_fo 191 (nI n).toInt64) n) (nI R).toInt64) (nI K).toInt64) (R + 1)) R) (nI m).toInt64) a)), (0, .ref (G.2.1 6))]) (pc' := 381) C dX6_digest_380 rfl (by decide) rfl rfl ?_
                          have L381 : ∀ (fuel : Nat) (k : Nat) (hk : k ≤ d), d - k < fuel → Z sc ia la [(3, .int (nI k)), (1, .long (s_df (ia 41) (r_pfo (ia 39) (ia 40) m (s_fo (r_sft (ia 38) K (r_sfr (ia 38) K (s_fo (s_fo (r_nf ia (s_fo 191 (nI n).toInt64) n) (nI R).toInt64) (nI K).toInt64) (R + 1)) R) (nI m).toInt64) m) k)), (0, .ref (G.2.1 6))] 381 [] := by
                            intro fuel
                            induction fuel with
                            | zero => intro k hk hm381; exact absurd hm381 (Nat.not_lt_zero _)
                            | succ fuel ih381 =>
                              intro k hk hm381
                              refine z_iload_n (pc' := 382) C dX6_digest_381 rfl 0 rfl rfl ?_
                              refine z_aload_n (pc' := 383) C dX6_digest_382 rfl 2 rfl rfl ?_
                              refine z_get (pc' := 386) C hU6 6 (by decide) q_o6 rfl 23 (by decide) (by decide +kernel) (v := .int (sc 17)) rfl dX6_digest_383 rfl ?_
                              refine z_cast (st' := [.int (nI d), .int (nI k)]) rfl rfl rfl rfl (congrArg (fun z => Value.int z :: [.int (nI k)]) hd) ?_
                              refine z_icmpN_ge (a := k) (b := d) (pc' := 389) C 409 (by omega) (by omega) dX6_digest_386 rfl rfl (fun h_386 => ?_) (fun h_386 => ?_)
                              · refine z_lload_n (pc' := 410) C dX6_digest_409 rfl 1 rfl rfl ?_
                                exact z_lret (E := E) rfl dX6_digest_410 ⟨(congrArg (fun z => some (Value.long z)) (show _ = _ from (by first | rfl | (have e9 : k = d := (by omega); subst e9; rfl)))), rfl, rfl, rfl⟩
                              · refine z_ldc2 (v := 31) (pc' := 392) C (by decide +kernel) dX6_digest_389 rfl ?_
                                refine z_lload_n (pc' := 393) C dX6_digest_392 rfl 1 rfl rfl ?_
                                refine z_lmul (pc' := 394) C dX6_digest_393 rfl ?_
                                refine z_aload_n (pc' := 395) C dX6_digest_394 rfl 2 rfl rfl ?_
                                refine z_get (pc' := 398) C hU6 6 (by decide) q_o6 rfl 24 (by decide) (by decide +kernel) (v := .ref (G.2.1 48)) rfl dX6_digest_395 rfl ?_
                                refine z_iload_n (pc' := 399) C dX6_digest_398 rfl 0 rfl rfl ?_
                                refine z_iald (pc' := 400) C 48 (by decide) (N := 18) (i := k) (f := ia 41) q_i41 (by omega) (by decide) dX6_digest_399 rfl ?_
                                refine z_i2l (pc' := 401) C dX6_digest_400 rfl ?_
                                refine z_ladd (pc' := 402) C dX6_digest_401 rfl ?_
                                refine z_lstore_n (lv' := [(1, .long ((31 * (s_df (ia 41) (r_pfo (ia 39) (ia 40) m (s_fo (r_sft (ia 38) K (r_sfr (ia 38) K (s_fo (s_fo (r_nf ia (s_fo 191 (nI n).toInt64) n) (nI R).toInt64) (nI K).toInt64) (R + 1)) R) (nI m).toInt64) m) k)) + (((ia 41) k).toInt64))), (3, .int (nI k)), (0, .ref (G.2.1 6))]) (pc' := 403) C dX6_digest_402 rfl (by decide) rfl rfl ?_
                                refine z_iinc (v := nI (k + 1)) (k9 := 1) (lv' := [(3, .int (nI (k + 1))), (1, .long ((31 * (s_df (ia 41) (r_pfo (ia 39) (ia 40) m (s_fo (r_sft (ia 38) K (r_sfr (ia 38) K (s_fo (s_fo (r_nf ia (s_fo 191 (nI n).toInt64) n) (nI R).toInt64) (nI K).toInt64) (R + 1)) R) (nI m).toInt64) m) k)) + (((ia 41) k).toInt64))), (0, .ref (G.2.1 6))]) (pc' := 406) C dX6_digest_403 rfl (nI_1 k) (by decide) rfl rfl ?_
                                refine z_goto (pc' := 381) C dX6_digest_406 rfl ?_
                                exact z_cast rfl rfl rfl rfl rfl (ih381 (k + 1) (by omega) (by omega))
                          exact z_cast rfl rfl rfl (by first | rfl | (have e9 : a = m := (by omega); subst e9; rfl)) rfl (L381 (_ + 1) 0 (by omega) (Nat.lt_succ_self _))
                        · refine z_iload_n (pc' := 294) C dX6_digest_293 rfl 0 rfl rfl ?_
                          refine z_iconst (v := 1) (pc' := 295) C dX6_digest_294 rfl rfl ?_
                          refine z_iadd (pc' := 296) C dX6_digest_295 rfl ?_
                          refine z_cast (st' := [.int (nI (a + 1))]) rfl rfl rfl rfl (congrArg (fun z => Value.int z :: []) (nI_add _ _)) ?_
                          refine z_istore (lv' := [(4, .int (nI (a + 1))), (3, .int (nI a)), (1, .long (r_pfo (ia 39) (ia 40) m (s_fo (r_sft (ia 38) K (r_sfr (ia 38) K (s_fo (s_fo (r_nf ia (s_fo 191 (nI n).toInt64) n) (nI R).toInt64) (nI K).toInt64) (R + 1)) R) (nI m).toInt64) a)), (0, .ref (G.2.1 6))]) (pc' := 298) C dX6_digest_296 (by decide) rfl rfl ?_
                          have L298 : ∀ (fuel : Nat) (e : Nat) (he : a + 1 + e ≤ m), m - (a + 1 + e) < fuel → Z sc ia la [(4, .int (nI (a + 1 + e))), (3, .int (nI a)), (1, .long (r_pfi (ia 39) (ia 40) a (r_pfo (ia 39) (ia 40) m (s_fo (r_sft (ia 38) K (r_sfr (ia 38) K (s_fo (s_fo (r_nf ia (s_fo 191 (nI n).toInt64) n) (nI R).toInt64) (nI K).toInt64) (R + 1)) R) (nI m).toInt64) a) e)), (0, .ref (G.2.1 6))] 298 [] := by
                            intro fuel
                            induction fuel with
                            | zero => intro e he hm298; exact absurd hm298 (Nat.not_lt_zero _)
                            | succ fuel ih298 =>
                              intro e he hm298
                              refine z_iload (pc' := 300) C dX6_digest_298 0 rfl rfl ?_
                              refine z_aload_n (pc' := 301) C dX6_digest_300 rfl 3 rfl rfl ?_
                              refine z_get (pc' := 304) C hU6 6 (by decide) q_o6 rfl 16 (by decide) (by decide +kernel) (v := .int (sc 12)) rfl dX6_digest_301 rfl ?_
                              refine z_cast (st' := [.int (nI m), .int (nI (a + 1 + e))]) rfl rfl rfl rfl (congrArg (fun z => Value.int z :: [.int (nI (a + 1 + e))]) hm) ?_
                              refine z_icmpN_ge (a := a + 1 + e) (b := m) (pc' := 307) C 373 (by omega) (by omega) dX6_digest_304 rfl rfl (fun h_304 => ?_) (fun h_304 => ?_)
                              · refine z_iinc (v := nI (a + 1)) (k9 := 1) (lv' := [(3, .int (nI (a + 1))), (4, .int (nI (a + 1 + e))), (1, .long (r_pfi (ia 39) (ia 40) a (r_pfo (ia 39) (ia 40) m (s_fo (r_sft (ia 38) K (r_sfr (ia 38) K (s_fo (s_fo (r_nf ia (s_fo 191 (nI n).toInt64) n) (nI R).toInt64) (nI K).toInt64) (R + 1)) R) (nI m).toInt64) a) e)), (0, .ref (G.2.1 6))]) (pc' := 376) C dX6_digest_373 rfl (nI_1 a) (by decide) rfl rfl ?_
                                refine z_goto (pc' := 285) C dX6_digest_376 rfl ?_
                                refine z_sub (lv' := [(3, .int (nI (a + 1))), (1, .long (r_pfi (ia 39) (ia 40) a (r_pfo (ia 39) (ia 40) m (s_fo (r_sft (ia 38) K (r_sfr (ia 38) K (s_fo (s_fo (r_nf ia (s_fo 191 (nI n).toInt64) n) (nI R).toInt64) (nI K).toInt64) (R + 1)) R) (nI m).toInt64) a) e)), (0, .ref (G.2.1 6))]) C [0, 2, 3] rfl ?_
                                exact z_cast rfl rfl rfl (by first | rfl | (have e9 : e = m - (a + 1) := (by omega); subst e9; rfl)) rfl (ih285 (a + 1) (by omega) (by omega))
                              · refine z_ldc2 (v := 31) (pc' := 310) C (by decide +kernel) dX6_digest_307 rfl ?_
                                refine z_lload_n (pc' := 311) C dX6_digest_310 rfl 2 rfl rfl ?_
                                refine z_lmul (pc' := 312) C dX6_digest_311 rfl ?_
                                refine z_aload_n (pc' := 313) C dX6_digest_312 rfl 3 rfl rfl ?_
                                refine z_get (pc' := 316) C hU6 6 (by decide) q_o6 rfl 17 (by decide) (by decide +kernel) (v := .ref (G.2.1 46)) rfl dX6_digest_313 rfl ?_
                                refine z_iconst (v := 5) (pc' := 317) C dX6_digest_316 rfl rfl ?_
                                refine z_iload_n (pc' := 318) C dX6_digest_317 rfl 1 rfl rfl ?_
                                refine z_imul (pc' := 319) C dX6_digest_318 rfl ?_
                                refine z_cast (st' := [.int (nI (5 * a)), .ref (G.2.1 46), .long (31 * (r_pfi (ia 39) (ia 40) a (r_pfo (ia 39) (ia 40) m (s_fo (r_sft (ia 38) K (r_sfr (ia 38) K (s_fo (s_fo (r_nf ia (s_fo 191 (nI n).toInt64) n) (nI R).toInt64) (nI K).toInt64) (R + 1)) R) (nI m).toInt64) a) e))]) rfl rfl rfl rfl (congrArg (fun z => Value.int z :: [.ref (G.2.1 46), .long (31 * (r_pfi (ia 39) (ia 40) a (r_pfo (ia 39) (ia 40) m (s_fo (r_sft (ia 38) K (r_sfr (ia 38) K (s_fo (s_fo (r_nf ia (s_fo 191 (nI n).toInt64) n) (nI R).toInt64) (nI K).toInt64) (R + 1)) R) (nI m).toInt64) a) e))]) (pk_mul _ _)) ?_
                                refine z_iload (pc' := 321) C dX6_digest_319 0 rfl rfl ?_
                                refine z_iadd (pc' := 322) C dX6_digest_321 rfl ?_
                                refine z_cast (st' := [.int (nI (5 * a + (a + 1 + e))), .ref (G.2.1 46), .long (31 * (r_pfi (ia 39) (ia 40) a (r_pfo (ia 39) (ia 40) m (s_fo (r_sft (ia 38) K (r_sfr (ia 38) K (s_fo (s_fo (r_nf ia (s_fo 191 (nI n).toInt64) n) (nI R).toInt64) (nI K).toInt64) (R + 1)) R) (nI m).toInt64) a) e))]) rfl rfl rfl rfl (congrArg (fun z => Value.int z :: [.ref (G.2.1 46), .long (31 * (r_pfi (ia 39) (ia 40) a (r_pfo (ia 39) (ia 40) m (s_fo (r_sft (ia 38) K (r_sfr (ia 38) K (s_fo (s_fo (r_nf ia (s_fo 191 (nI n).toInt64) n) (nI R).toInt64) (nI K).toInt64) (R + 1)) R) (nI m).toInt64) a) e))]) (nI_add _ _)) ?_
                                refine z_zald (pc' := 323) C 46 (by decide) (N := 25) (i := 5 * a + (a + 1 + e)) (f := ia 39) q_i39 (by omega) (by decide) dX6_digest_322 rfl ?_
                                have J331 : Z sc ia la [(4, .int (nI (a + 1 + e))), (3, .int (nI a)), (1, .long (r_pfi (ia 39) (ia 40) a (r_pfo (ia 39) (ia 40) m (s_fo (r_sft (ia 38) K (r_sfr (ia 38) K (s_fo (s_fo (r_nf ia (s_fo 191 (nI n).toInt64) n) (nI R).toInt64) (nI K).toInt64) (R + 1)) R) (nI m).toInt64) a) e)), (0, .ref (G.2.1 6))] 331 [.int (if ia 39 (5 * a + (a + 1 + e)) = 0 then 0 else 1), .long (31 * (r_pfi (ia 39) (ia 40) a (r_pfo (ia 39) (ia 40) m (s_fo (r_sft (ia 38) K (r_sfr (ia 38) K (s_fo (s_fo (r_nf ia (s_fo 191 (nI n).toInt64) n) (nI R).toInt64) (nI K).toInt64) (R + 1)) R) (nI m).toInt64) a) e))] := by
                                  refine z_i2l (pc' := 332) C dX6_digest_331 rfl ?_
                                  refine z_ladd (pc' := 333) C dX6_digest_332 rfl ?_
                                  refine z_lstore_n (lv' := [(1, .long ((31 * (r_pfi (ia 39) (ia 40) a (r_pfo (ia 39) (ia 40) m (s_fo (r_sft (ia 38) K (r_sfr (ia 38) K (s_fo (s_fo (r_nf ia (s_fo 191 (nI n).toInt64) n) (nI R).toInt64) (nI K).toInt64) (R + 1)) R) (nI m).toInt64) a) e)) + ((if ia 39 (5 * a + (a + 1 + e)) = 0 then 0 else 1 : Int32).toInt64))), (4, .int (nI (a + 1 + e))), (3, .int (nI a)), (0, .ref (G.2.1 6))]) (pc' := 334) C dX6_digest_333 rfl (by decide) rfl rfl ?_
                                  refine z_aload_n (pc' := 335) C dX6_digest_334 rfl 3 rfl rfl ?_
                                  refine z_get (pc' := 338) C hU6 6 (by decide) q_o6 rfl 17 (by decide) (by decide +kernel) (v := .ref (G.2.1 46)) rfl dX6_digest_335 rfl ?_
                                  refine z_iconst (v := 5) (pc' := 339) C dX6_digest_338 rfl rfl ?_
                                  refine z_iload_n (pc' := 340) C dX6_digest_339 rfl 2 rfl rfl ?_
                                  refine z_imul (pc' := 341) C dX6_digest_340 rfl ?_
                                  refine z_cast (st' := [.int (nI (5 * a)), .ref (G.2.1 46)]) rfl rfl rfl rfl (congrArg (fun z => Value.int z :: [.ref (G.2.1 46)]) (pk_mul _ _)) ?_
                                  refine z_iload (pc' := 343) C dX6_digest_341 1 rfl rfl ?_
                                  refine z_iadd (pc' := 344) C dX6_digest_343 rfl ?_
                                  refine z_cast (st' := [.int (nI (5 * a + (a + 1 + e))), .ref (G.2.1 46)]) rfl rfl rfl rfl (congrArg (fun z => Value.int z :: [.ref (G.2.1 46)]) (nI_add _ _)) ?_
                                  refine z_zald (pc' := 345) C 46 (by decide) (N := 25) (i := 5 * a + (a + 1 + e)) (f := ia 39) q_i39 (by omega) (by decide) dX6_digest_344 rfl ?_
                                  refine z_if_eq (pc' := 348) C 367 dX6_digest_345 rfl rfl (fun h_345 => ?_) (fun h_345 => ?_)
                                  · refine z_iinc (v := nI (a + 1 + e + 1)) (k9 := 1) (lv' := [(4, .int (nI (a + 1 + e + 1))), (1, .long ((31 * (r_pfi (ia 39) (ia 40) a (r_pfo (ia 39) (ia 40) m (s_fo (r_sft (ia 38) K (r_sfr (ia 38) K (s_fo (s_fo (r_nf ia (s_fo 191 (nI n).toInt64) n) (nI R).toInt64) (nI K).toInt64) (R + 1)) R) (nI m).toInt64) a) e)) + ((if ia 39 (5 * a + (a + 1 + e)) = 0 then 0 else 1 : Int32).toInt64))), (3, .int (nI a)), (0, .ref (G.2.1 6))]) (pc' := 370) C dX6_digest_367 rfl (nI_1 (a + 1 + e)) (by decide) rfl rfl ?_
                                    refine z_goto (pc' := 298) C dX6_digest_370 rfl ?_
                                    refine z_sub (lv' := [(4, .int (nI (a + 1 + e + 1))), (3, .int (nI a)), (1, .long ((31 * (r_pfi (ia 39) (ia 40) a (r_pfo (ia 39) (ia 40) m (s_fo (r_sft (ia 38) K (r_sfr (ia 38) K (s_fo (s_fo (r_nf ia (s_fo 191 (nI n).toInt64) n) (nI R).toInt64) (nI K).toInt64) (R + 1)) R) (nI m).toInt64) a) e)) + ((if ia 39 (5 * a + (a + 1 + e)) = 0 then 0 else 1 : Int32).toInt64))), (0, .ref (G.2.1 6))]) C [0, 2, 1, 3] rfl ?_
                                    exact z_cast rfl rfl rfl (by simp [r_pfi, r_pf1, s_fo, h_345]; rfl) rfl (ih298 (e + 1) (by omega) (by omega))
                                  · refine z_ldc2 (v := 31) (pc' := 351) C (by decide +kernel) dX6_digest_348 rfl ?_
                                    refine z_lload_n (pc' := 352) C dX6_digest_351 rfl 0 rfl rfl ?_
                                    refine z_lmul (pc' := 353) C dX6_digest_352 rfl ?_
                                    refine z_aload_n (pc' := 354) C dX6_digest_353 rfl 3 rfl rfl ?_
                                    refine z_get (pc' := 357) C hU6 6 (by decide) q_o6 rfl 18 (by decide) (by decide +kernel) (v := .ref (G.2.1 47)) rfl dX6_digest_354 rfl ?_
                                    refine z_iconst (v := 5) (pc' := 358) C dX6_digest_357 rfl rfl ?_
                                    refine z_iload_n (pc' := 359) C dX6_digest_358 rfl 2 rfl rfl ?_
                                    refine z_imul (pc' := 360) C dX6_digest_359 rfl ?_
                                    refine z_cast (st' := [.int (nI (5 * a)), .ref (G.2.1 47), .long (31 * ((31 * (r_pfi (ia 39) (ia 40) a (r_pfo (ia 39) (ia 40) m (s_fo (r_sft (ia 38) K (r_sfr (ia 38) K (s_fo (s_fo (r_nf ia (s_fo 191 (nI n).toInt64) n) (nI R).toInt64) (nI K).toInt64) (R + 1)) R) (nI m).toInt64) a) e)) + ((if ia 39 (5 * a + (a + 1 + e)) = 0 then 0 else 1 : Int32).toInt64)))]) rfl rfl rfl rfl (congrArg (fun z => Value.int z :: [.ref (G.2.1 47), .long (31 * ((31 * (r_pfi (ia 39) (ia 40) a (r_pfo (ia 39) (ia 40) m (s_fo (r_sft (ia 38) K (r_sfr (ia 38) K (s_fo (s_fo (r_nf ia (s_fo 191 (nI n).toInt64) n) (nI R).toInt64) (nI K).toInt64) (R + 1)) R) (nI m).toInt64) a) e)) + ((if ia 39 (5 * a + (a + 1 + e)) = 0 then 0 else 1 : Int32).toInt64)))]) (pk_mul _ _)) ?_
                                    refine z_iload (pc' := 362) C dX6_digest_360 1 rfl rfl ?_
                                    refine z_iadd (pc' := 363) C dX6_digest_362 rfl ?_
                                    refine z_cast (st' := [.int (nI (5 * a + (a + 1 + e))), .ref (G.2.1 47), .long (31 * ((31 * (r_pfi (ia 39) (ia 40) a (r_pfo (ia 39) (ia 40) m (s_fo (r_sft (ia 38) K (r_sfr (ia 38) K (s_fo (s_fo (r_nf ia (s_fo 191 (nI n).toInt64) n) (nI R).toInt64) (nI K).toInt64) (R + 1)) R) (nI m).toInt64) a) e)) + ((if ia 39 (5 * a + (a + 1 + e)) = 0 then 0 else 1 : Int32).toInt64)))]) rfl rfl rfl rfl (congrArg (fun z => Value.int z :: [.ref (G.2.1 47), .long (31 * ((31 * (r_pfi (ia 39) (ia 40) a (r_pfo (ia 39) (ia 40) m (s_fo (r_sft (ia 38) K (r_sfr (ia 38) K (s_fo (s_fo (r_nf ia (s_fo 191 (nI n).toInt64) n) (nI R).toInt64) (nI K).toInt64) (R + 1)) R) (nI m).toInt64) a) e)) + ((if ia 39 (5 * a + (a + 1 + e)) = 0 then 0 else 1 : Int32).toInt64)))]) (nI_add _ _)) ?_
                                    refine z_iald (pc' := 364) C 47 (by decide) (N := 25) (i := 5 * a + (a + 1 + e)) (f := ia 40) q_i40 (by omega) (by decide) dX6_digest_363 rfl ?_
                                    refine z_i2l (pc' := 365) C dX6_digest_364 rfl ?_
                                    refine z_ladd (pc' := 366) C dX6_digest_365 rfl ?_
                                    refine z_lstore_n (lv' := [(1, .long ((31 * ((31 * (r_pfi (ia 39) (ia 40) a (r_pfo (ia 39) (ia 40) m (s_fo (r_sft (ia 38) K (r_sfr (ia 38) K (s_fo (s_fo (r_nf ia (s_fo 191 (nI n).toInt64) n) (nI R).toInt64) (nI K).toInt64) (R + 1)) R) (nI m).toInt64) a) e)) + ((if ia 39 (5 * a + (a + 1 + e)) = 0 then 0 else 1 : Int32).toInt64))) + (((ia 40) (5 * a + (a + 1 + e))).toInt64))), (4, .int (nI (a + 1 + e))), (3, .int (nI a)), (0, .ref (G.2.1 6))]) (pc' := 367) C dX6_digest_366 rfl (by decide) rfl rfl ?_
                                    refine z_iinc (v := nI (a + 1 + e + 1)) (k9 := 1) (lv' := [(4, .int (nI (a + 1 + e + 1))), (1, .long ((31 * ((31 * (r_pfi (ia 39) (ia 40) a (r_pfo (ia 39) (ia 40) m (s_fo (r_sft (ia 38) K (r_sfr (ia 38) K (s_fo (s_fo (r_nf ia (s_fo 191 (nI n).toInt64) n) (nI R).toInt64) (nI K).toInt64) (R + 1)) R) (nI m).toInt64) a) e)) + ((if ia 39 (5 * a + (a + 1 + e)) = 0 then 0 else 1 : Int32).toInt64))) + (((ia 40) (5 * a + (a + 1 + e))).toInt64))), (3, .int (nI a)), (0, .ref (G.2.1 6))]) (pc' := 370) C dX6_digest_367 rfl (nI_1 (a + 1 + e)) (by decide) rfl rfl ?_
                                    refine z_goto (pc' := 298) C dX6_digest_370 rfl ?_
                                    refine z_sub (lv' := [(4, .int (nI (a + 1 + e + 1))), (3, .int (nI a)), (1, .long ((31 * ((31 * (r_pfi (ia 39) (ia 40) a (r_pfo (ia 39) (ia 40) m (s_fo (r_sft (ia 38) K (r_sfr (ia 38) K (s_fo (s_fo (r_nf ia (s_fo 191 (nI n).toInt64) n) (nI R).toInt64) (nI K).toInt64) (R + 1)) R) (nI m).toInt64) a) e)) + ((if ia 39 (5 * a + (a + 1 + e)) = 0 then 0 else 1 : Int32).toInt64))) + (((ia 40) (5 * a + (a + 1 + e))).toInt64))), (0, .ref (G.2.1 6))]) C [0, 2, 1, 3] rfl ?_
                                    exact z_cast rfl rfl rfl (by simp [r_pfi, r_pf1, s_fo, h_345]; rfl) rfl (ih298 (e + 1) (by omega) (by omega))
                                refine z_if_eq (pc' := 326) C 330 dX6_digest_323 rfl rfl (fun h_323 => ?_) (fun h_323 => ?_)
                                · refine z_iconst (v := 0) (pc' := 331) C dX6_digest_330 rfl rfl ?_
                                  exact z_cast rfl rfl rfl rfl (by first | rfl | (simp [bI, hi, h_23, hr, h_186, hr2, h_240, ha, h_290, he, h_304, h_323])) J331
                                · refine z_iconst (v := 1) (pc' := 327) C dX6_digest_326 rfl rfl ?_
                                  refine z_goto (pc' := 331) C dX6_digest_327 rfl ?_
                                  exact z_cast rfl rfl rfl rfl (by first | rfl | (simp [bI, hi, h_23, hr, h_186, hr2, h_240, ha, h_290, he, h_304, h_323])) J331
                          exact z_cast rfl rfl rfl rfl rfl (L298 (_ + 1) 0 (by omega) (Nat.lt_succ_self _))
                    exact z_cast rfl rfl rfl (by first | rfl | (have e9 : r2 = R := (by omega); subst e9; rfl)) rfl (L285 (_ + 1) 0 (by omega) (Nat.lt_succ_self _))
                  · refine z_ldc2 (v := 31) (pc' := 246) C (by decide +kernel) dX6_digest_243 rfl ?_
                    refine z_lload_n (pc' := 247) C dX6_digest_246 rfl 1 rfl rfl ?_
                    refine z_lmul (pc' := 248) C dX6_digest_247 rfl ?_
                    refine z_aload_n (pc' := 249) C dX6_digest_248 rfl 2 rfl rfl ?_
                    refine z_get (pc' := 252) C hU6 6 (by decide) q_o6 rfl 15 (by decide) (by decide +kernel) (v := .ref (G.2.1 45)) rfl dX6_digest_249 rfl ?_
                    refine z_bipush (v := 9) (pc' := 254) C dX6_digest_252 rfl rfl ?_
                    refine z_iload_n (pc' := 255) C dX6_digest_254 rfl 0 rfl rfl ?_
                    refine z_imul (pc' := 256) C dX6_digest_255 rfl ?_
                    refine z_cast (st' := [.int (nI (9 * r2)), .ref (G.2.1 45), .long (31 * (r_sft (ia 38) K (r_sfr (ia 38) K (s_fo (s_fo (r_nf ia (s_fo 191 (nI n).toInt64) n) (nI R).toInt64) (nI K).toInt64) (R + 1)) r2))]) rfl rfl rfl rfl (congrArg (fun z => Value.int z :: [.ref (G.2.1 45), .long (31 * (r_sft (ia 38) K (r_sfr (ia 38) K (s_fo (s_fo (r_nf ia (s_fo 191 (nI n).toInt64) n) (nI R).toInt64) (nI K).toInt64) (R + 1)) r2))]) (pk_mul _ _)) ?_
                    refine z_aload_n (pc' := 257) C dX6_digest_256 rfl 2 rfl rfl ?_
                    refine z_get (pc' := 260) C hU6 6 (by decide) q_o6 rfl 14 (by decide) (by decide +kernel) (v := .int (sc 11)) rfl dX6_digest_257 rfl ?_
                    refine z_cast (st' := [.int (nI K), .int (nI (9 * r2)), .ref (G.2.1 45), .long (31 * (r_sft (ia 38) K (r_sfr (ia 38) K (s_fo (s_fo (r_nf ia (s_fo 191 (nI n).toInt64) n) (nI R).toInt64) (nI K).toInt64) (R + 1)) r2))]) rfl rfl rfl rfl (congrArg (fun z => Value.int z :: [.int (nI (9 * r2)), .ref (G.2.1 45), .long (31 * (r_sft (ia 38) K (r_sfr (ia 38) K (s_fo (s_fo (r_nf ia (s_fo 191 (nI n).toInt64) n) (nI R).toInt64) (nI K).toInt64) (R + 1)) r2))]) hC) ?_
                    refine z_iadd (pc' := 261) C dX6_digest_260 rfl ?_
                    refine z_cast (st' := [.int (nI (9 * r2 + K)), .ref (G.2.1 45), .long (31 * (r_sft (ia 38) K (r_sfr (ia 38) K (s_fo (s_fo (r_nf ia (s_fo 191 (nI n).toInt64) n) (nI R).toInt64) (nI K).toInt64) (R + 1)) r2))]) rfl rfl rfl rfl (congrArg (fun z => Value.int z :: [.ref (G.2.1 45), .long (31 * (r_sft (ia 38) K (r_sfr (ia 38) K (s_fo (s_fo (r_nf ia (s_fo 191 (nI n).toInt64) n) (nI R).toInt64) (nI K).toInt64) (R + 1)) r2))]) (nI_add _ _)) ?_
                    refine z_iald (pc' := 262) C 45 (by decide) (N := 81) (i := 9 * r2 + K) (f := ia 38) q_i38 (by omega) (by decide) dX6_digest_261 rfl ?_
                    refine z_i2l (pc' := 263) C dX6_digest_262 rfl ?_
                    refine z_ladd (pc' := 264) C dX6_digest_263 rfl ?_
                    refine z_lstore_n (lv' := [(1, .long ((31 * (r_sft (ia 38) K (r_sfr (ia 38) K (s_fo (s_fo (r_nf ia (s_fo 191 (nI n).toInt64) n) (nI R).toInt64) (nI K).toInt64) (R + 1)) r2)) + (((ia 38) (9 * r2 + K)).toInt64))), (3, .int (nI r2)), (0, .ref (G.2.1 6))]) (pc' := 265) C dX6_digest_264 rfl (by decide) rfl rfl ?_
                    refine z_iinc (v := nI (r2 + 1)) (k9 := 1) (lv' := [(3, .int (nI (r2 + 1))), (1, .long ((31 * (r_sft (ia 38) K (r_sfr (ia 38) K (s_fo (s_fo (r_nf ia (s_fo 191 (nI n).toInt64) n) (nI R).toInt64) (nI K).toInt64) (R + 1)) r2)) + (((ia 38) (9 * r2 + K)).toInt64))), (0, .ref (G.2.1 6))]) (pc' := 268) C dX6_digest_265 rfl (nI_1 r2) (by decide) rfl rfl ?_
                    refine z_goto (pc' := 235) C dX6_digest_268 rfl ?_
                    exact z_cast rfl rfl rfl rfl rfl (ih235 (r2 + 1) (by omega) (by omega))
              exact z_cast rfl rfl rfl (by first | rfl | (have e9 : r = R + 1 := (by omega); subst e9; rfl)) rfl (L235 (_ + 1) 0 (by omega) (Nat.lt_succ_self _))
            · refine z_iconst (v := 0) (pc' := 190) C dX6_digest_189 rfl rfl ?_
              refine z_istore (lv' := [(4, .int 0), (3, .int (nI r)), (1, .long (r_sfr (ia 38) K (s_fo (s_fo (r_nf ia (s_fo 191 (nI n).toInt64) n) (nI R).toInt64) (nI K).toInt64) r)), (0, .ref (G.2.1 6))]) (pc' := 192) C dX6_digest_190 (by decide) rfl rfl ?_
              have L192 : ∀ (fuel : Nat) (c : Nat) (hc : c ≤ K), K - c < fuel → Z sc ia la [(4, .int (nI c)), (3, .int (nI r)), (1, .long (r_sfc (ia 38) r (r_sfr (ia 38) K (s_fo (s_fo (r_nf ia (s_fo 191 (nI n).toInt64) n) (nI R).toInt64) (nI K).toInt64) r) c)), (0, .ref (G.2.1 6))] 192 [] := by
                intro fuel
                induction fuel with
                | zero => intro c hc hm192; exact absurd hm192 (Nat.not_lt_zero _)
                | succ fuel ih192 =>
                  intro c hc hm192
                  refine z_iload (pc' := 194) C dX6_digest_192 0 rfl rfl ?_
                  refine z_aload_n (pc' := 195) C dX6_digest_194 rfl 3 rfl rfl ?_
                  refine z_get (pc' := 198) C hU6 6 (by decide) q_o6 rfl 14 (by decide) (by decide +kernel) (v := .int (sc 11)) rfl dX6_digest_195 rfl ?_
                  refine z_cast (st' := [.int (nI K), .int (nI c)]) rfl rfl rfl rfl (congrArg (fun z => Value.int z :: [.int (nI c)]) hC) ?_
                  refine z_icmpN_ge (a := c) (b := K) (pc' := 201) C 227 (by omega) (by omega) dX6_digest_198 rfl rfl (fun h_198 => ?_) (fun h_198 => ?_)
                  · refine z_iinc (v := nI (r + 1)) (k9 := 1) (lv' := [(3, .int (nI (r + 1))), (4, .int (nI c)), (1, .long (r_sfc (ia 38) r (r_sfr (ia 38) K (s_fo (s_fo (r_nf ia (s_fo 191 (nI n).toInt64) n) (nI R).toInt64) (nI K).toInt64) r) c)), (0, .ref (G.2.1 6))]) (pc' := 230) C dX6_digest_227 rfl (nI_1 r) (by decide) rfl rfl ?_
                    refine z_goto (pc' := 181) C dX6_digest_230 rfl ?_
                    refine z_sub (lv' := [(3, .int (nI (r + 1))), (1, .long (r_sfc (ia 38) r (r_sfr (ia 38) K (s_fo (s_fo (r_nf ia (s_fo 191 (nI n).toInt64) n) (nI R).toInt64) (nI K).toInt64) r) c)), (0, .ref (G.2.1 6))]) C [0, 2, 3] rfl ?_
                    exact z_cast rfl rfl rfl (by first | rfl | (have e9 : c = K := (by omega); subst e9; rfl)) rfl (ih181 (r + 1) (by omega) (by omega))
                  · refine z_ldc2 (v := 31) (pc' := 204) C (by decide +kernel) dX6_digest_201 rfl ?_
                    refine z_lload_n (pc' := 205) C dX6_digest_204 rfl 2 rfl rfl ?_
                    refine z_lmul (pc' := 206) C dX6_digest_205 rfl ?_
                    refine z_aload_n (pc' := 207) C dX6_digest_206 rfl 3 rfl rfl ?_
                    refine z_get (pc' := 210) C hU6 6 (by decide) q_o6 rfl 15 (by decide) (by decide +kernel) (v := .ref (G.2.1 45)) rfl dX6_digest_207 rfl ?_
                    refine z_bipush (v := 9) (pc' := 212) C dX6_digest_210 rfl rfl ?_
                    refine z_iload_n (pc' := 213) C dX6_digest_212 rfl 1 rfl rfl ?_
                    refine z_imul (pc' := 214) C dX6_digest_213 rfl ?_
                    refine z_cast (st' := [.int (nI (9 * r)), .ref (G.2.1 45), .long (31 * (r_sfc (ia 38) r (r_sfr (ia 38) K (s_fo (s_fo (r_nf ia (s_fo 191 (nI n).toInt64) n) (nI R).toInt64) (nI K).toInt64) r) c))]) rfl rfl rfl rfl (congrArg (fun z => Value.int z :: [.ref (G.2.1 45), .long (31 * (r_sfc (ia 38) r (r_sfr (ia 38) K (s_fo (s_fo (r_nf ia (s_fo 191 (nI n).toInt64) n) (nI R).toInt64) (nI K).toInt64) r) c))]) (pk_mul _ _)) ?_
                    refine z_iload (pc' := 216) C dX6_digest_214 0 rfl rfl ?_
                    refine z_iadd (pc' := 217) C dX6_digest_216 rfl ?_
                    refine z_cast (st' := [.int (nI (9 * r + c)), .ref (G.2.1 45), .long (31 * (r_sfc (ia 38) r (r_sfr (ia 38) K (s_fo (s_fo (r_nf ia (s_fo 191 (nI n).toInt64) n) (nI R).toInt64) (nI K).toInt64) r) c))]) rfl rfl rfl rfl (congrArg (fun z => Value.int z :: [.ref (G.2.1 45), .long (31 * (r_sfc (ia 38) r (r_sfr (ia 38) K (s_fo (s_fo (r_nf ia (s_fo 191 (nI n).toInt64) n) (nI R).toInt64) (nI K).toInt64) r) c))]) (nI_add _ _)) ?_
                    refine z_iald (pc' := 218) C 45 (by decide) (N := 81) (i := 9 * r + c) (f := ia 38) q_i38 (by omega) (by decide) dX6_digest_217 rfl ?_
                    refine z_i2l (pc' := 219) C dX6_digest_218 rfl ?_
                    refine z_ladd (pc' := 220) C dX6_digest_219 rfl ?_
                    refine z_lstore_n (lv' := [(1, .long ((31 * (r_sfc (ia 38) r (r_sfr (ia 38) K (s_fo (s_fo (r_nf ia (s_fo 191 (nI n).toInt64) n) (nI R).toInt64) (nI K).toInt64) r) c)) + (((ia 38) (9 * r + c)).toInt64))), (4, .int (nI c)), (3, .int (nI r)), (0, .ref (G.2.1 6))]) (pc' := 221) C dX6_digest_220 rfl (by decide) rfl rfl ?_
                    refine z_iinc (v := nI (c + 1)) (k9 := 1) (lv' := [(4, .int (nI (c + 1))), (1, .long ((31 * (r_sfc (ia 38) r (r_sfr (ia 38) K (s_fo (s_fo (r_nf ia (s_fo 191 (nI n).toInt64) n) (nI R).toInt64) (nI K).toInt64) r) c)) + (((ia 38) (9 * r + c)).toInt64))), (3, .int (nI r)), (0, .ref (G.2.1 6))]) (pc' := 224) C dX6_digest_221 rfl (nI_1 c) (by decide) rfl rfl ?_
                    refine z_goto (pc' := 192) C dX6_digest_224 rfl ?_
                    refine z_sub (lv' := [(4, .int (nI (c + 1))), (3, .int (nI r)), (1, .long ((31 * (r_sfc (ia 38) r (r_sfr (ia 38) K (s_fo (s_fo (r_nf ia (s_fo 191 (nI n).toInt64) n) (nI R).toInt64) (nI K).toInt64) r) c)) + (((ia 38) (9 * r + c)).toInt64))), (0, .ref (G.2.1 6))]) C [0, 2, 1, 3] rfl ?_
                    exact z_cast rfl rfl rfl rfl rfl (ih192 (c + 1) (by omega) (by omega))
              exact z_cast rfl rfl rfl rfl rfl (L192 (_ + 1) 0 (by omega) (Nat.lt_succ_self _))
        exact z_cast rfl rfl rfl (by first | rfl | (have e9 : i = n := (by omega); subst e9; rfl)) rfl (L181 (_ + 1) 0 (by omega) (Nat.lt_succ_self _))
      · refine z_ldc2 (v := 31) (pc' := 29) C (by decide +kernel) dX6_digest_26 rfl ?_
        refine z_lload_n (pc' := 30) C dX6_digest_29 rfl 1 rfl rfl ?_
        refine z_lmul (pc' := 31) C dX6_digest_30 rfl ?_
        refine z_aload_n (pc' := 32) C dX6_digest_31 rfl 2 rfl rfl ?_
        refine z_get (pc' := 35) C hU6 6 (by decide) q_o6 rfl 1 (by decide) (by decide +kernel) (v := .ref (G.2.1 36)) rfl dX6_digest_32 rfl ?_
        refine z_iload_n (pc' := 36) C dX6_digest_35 rfl 0 rfl rfl ?_
        refine z_iald (pc' := 37) C 36 (by decide) (N := 32) (i := i) (f := ia 29) q_i29 (by omega) (by decide) dX6_digest_36 rfl ?_
        refine z_i2l (pc' := 38) C dX6_digest_37 rfl ?_
        refine z_ladd (pc' := 39) C dX6_digest_38 rfl ?_
        refine z_lstore_n (lv' := [(1, .long ((31 * (r_nf ia (s_fo 191 (nI n).toInt64) i)) + (((ia 29) i).toInt64))), (3, .int (nI i)), (0, .ref (G.2.1 6))]) (pc' := 40) C dX6_digest_39 rfl (by decide) rfl rfl ?_
        refine z_ldc2 (v := 31) (pc' := 43) C (by decide +kernel) dX6_digest_40 rfl ?_
        refine z_lload_n (pc' := 44) C dX6_digest_43 rfl 0 rfl rfl ?_
        refine z_lmul (pc' := 45) C dX6_digest_44 rfl ?_
        refine z_aload_n (pc' := 46) C dX6_digest_45 rfl 2 rfl rfl ?_
        refine z_get (pc' := 49) C hU6 6 (by decide) q_o6 rfl 3 (by decide) (by decide +kernel) (v := .ref (G.2.1 38)) rfl dX6_digest_46 rfl ?_
        refine z_iload_n (pc' := 50) C dX6_digest_49 rfl 1 rfl rfl ?_
        refine z_iald (pc' := 51) C 38 (by decide) (N := 32) (i := i) (f := ia 31) q_i31 (by omega) (by decide) dX6_digest_50 rfl ?_
        refine z_i2l (pc' := 52) C dX6_digest_51 rfl ?_
        refine z_ladd (pc' := 53) C dX6_digest_52 rfl ?_
        refine z_lstore_n (lv' := [(1, .long ((31 * ((31 * (r_nf ia (s_fo 191 (nI n).toInt64) i)) + (((ia 29) i).toInt64))) + (((ia 31) i).toInt64))), (3, .int (nI i)), (0, .ref (G.2.1 6))]) (pc' := 54) C dX6_digest_53 rfl (by decide) rfl rfl ?_
        refine z_ldc2 (v := 31) (pc' := 57) C (by decide +kernel) dX6_digest_54 rfl ?_
        refine z_lload_n (pc' := 58) C dX6_digest_57 rfl 0 rfl rfl ?_
        refine z_lmul (pc' := 59) C dX6_digest_58 rfl ?_
        refine z_aload_n (pc' := 60) C dX6_digest_59 rfl 2 rfl rfl ?_
        refine z_get (pc' := 63) C hU6 6 (by decide) q_o6 rfl 2 (by decide) (by decide +kernel) (v := .ref (G.2.1 37)) rfl dX6_digest_60 rfl ?_
        refine z_iload_n (pc' := 64) C dX6_digest_63 rfl 1 rfl rfl ?_
        refine z_iald (pc' := 65) C 37 (by decide) (N := 32) (i := i) (f := ia 30) q_i30 (by omega) (by decide) dX6_digest_64 rfl ?_
        refine z_i2l (pc' := 66) C dX6_digest_65 rfl ?_
        refine z_ladd (pc' := 67) C dX6_digest_66 rfl ?_
        refine z_lstore_n (lv' := [(1, .long ((31 * ((31 * ((31 * (r_nf ia (s_fo 191 (nI n).toInt64) i)) + (((ia 29) i).toInt64))) + (((ia 31) i).toInt64))) + (((ia 30) i).toInt64))), (3, .int (nI i)), (0, .ref (G.2.1 6))]) (pc' := 68) C dX6_digest_67 rfl (by decide) rfl rfl ?_
        refine z_ldc2 (v := 31) (pc' := 71) C (by decide +kernel) dX6_digest_68 rfl ?_
        refine z_lload_n (pc' := 72) C dX6_digest_71 rfl 0 rfl rfl ?_
        refine z_lmul (pc' := 73) C dX6_digest_72 rfl ?_
        refine z_aload_n (pc' := 74) C dX6_digest_73 rfl 2 rfl rfl ?_
        refine z_get (pc' := 77) C hU6 6 (by decide) q_o6 rfl 4 (by decide) (by decide +kernel) (v := .ref (G.2.1 39)) rfl dX6_digest_74 rfl ?_
        refine z_iload_n (pc' := 78) C dX6_digest_77 rfl 1 rfl rfl ?_
        refine z_zald (pc' := 79) C 39 (by decide) (N := 32) (i := i) (f := ia 32) q_i32 (by omega) (by decide) dX6_digest_78 rfl ?_
        have J87 : Z sc ia la [(1, .long ((31 * ((31 * ((31 * (r_nf ia (s_fo 191 (nI n).toInt64) i)) + (((ia 29) i).toInt64))) + (((ia 31) i).toInt64))) + (((ia 30) i).toInt64))), (3, .int (nI i)), (0, .ref (G.2.1 6))] 87 [.int (if ia 32 i = 0 then 0 else 1), .long (31 * ((31 * ((31 * ((31 * (r_nf ia (s_fo 191 (nI n).toInt64) i)) + (((ia 29) i).toInt64))) + (((ia 31) i).toInt64))) + (((ia 30) i).toInt64)))] := by
          refine z_i2l (pc' := 88) C dX6_digest_87 rfl ?_
          refine z_ladd (pc' := 89) C dX6_digest_88 rfl ?_
          refine z_lstore_n (lv' := [(1, .long ((31 * ((31 * ((31 * ((31 * (r_nf ia (s_fo 191 (nI n).toInt64) i)) + (((ia 29) i).toInt64))) + (((ia 31) i).toInt64))) + (((ia 30) i).toInt64))) + ((if ia 32 i = 0 then 0 else 1 : Int32).toInt64))), (3, .int (nI i)), (0, .ref (G.2.1 6))]) (pc' := 90) C dX6_digest_89 rfl (by decide) rfl rfl ?_
          refine z_ldc2 (v := 31) (pc' := 93) C (by decide +kernel) dX6_digest_90 rfl ?_
          refine z_lload_n (pc' := 94) C dX6_digest_93 rfl 0 rfl rfl ?_
          refine z_lmul (pc' := 95) C dX6_digest_94 rfl ?_
          refine z_aload_n (pc' := 96) C dX6_digest_95 rfl 2 rfl rfl ?_
          refine z_get (pc' := 99) C hU6 6 (by decide) q_o6 rfl 5 (by decide) (by decide +kernel) (v := .ref (G.2.1 40)) rfl dX6_digest_96 rfl ?_
          refine z_iload_n (pc' := 100) C dX6_digest_99 rfl 1 rfl rfl ?_
          refine z_zald (pc' := 101) C 40 (by decide) (N := 32) (i := i) (f := ia 33) q_i33 (by omega) (by decide) dX6_digest_100 rfl ?_
          have J109 : Z sc ia la [(1, .long ((31 * ((31 * ((31 * ((31 * (r_nf ia (s_fo 191 (nI n).toInt64) i)) + (((ia 29) i).toInt64))) + (((ia 31) i).toInt64))) + (((ia 30) i).toInt64))) + ((if ia 32 i = 0 then 0 else 1 : Int32).toInt64))), (3, .int (nI i)), (0, .ref (G.2.1 6))] 109 [.int (if ia 33 i = 0 then 0 else 1), .long (31 * ((31 * ((31 * ((31 * ((31 * (r_nf ia (s_fo 191 (nI n).toInt64) i)) + (((ia 29) i).toInt64))) + (((ia 31) i).toInt64))) + (((ia 30) i).toInt64))) + ((if ia 32 i = 0 then 0 else 1 : Int32).toInt64)))] := by
            refine z_i2l (pc' := 110) C dX6_digest_109 rfl ?_
            refine z_ladd (pc' := 111) C dX6_digest_110 rfl ?_
            refine z_lstore_n (lv' := [(1, .long ((31 * ((31 * ((31 * ((31 * ((31 * (r_nf ia (s_fo 191 (nI n).toInt64) i)) + (((ia 29) i).toInt64))) + (((ia 31) i).toInt64))) + (((ia 30) i).toInt64))) + ((if ia 32 i = 0 then 0 else 1 : Int32).toInt64))) + ((if ia 33 i = 0 then 0 else 1 : Int32).toInt64))), (3, .int (nI i)), (0, .ref (G.2.1 6))]) (pc' := 112) C dX6_digest_111 rfl (by decide) rfl rfl ?_
            refine z_aload_n (pc' := 113) C dX6_digest_112 rfl 2 rfl rfl ?_
            refine z_get (pc' := 116) C hU6 6 (by decide) q_o6 rfl 5 (by decide) (by decide +kernel) (v := .ref (G.2.1 40)) rfl dX6_digest_113 rfl ?_
            refine z_iload_n (pc' := 117) C dX6_digest_116 rfl 1 rfl rfl ?_
            refine z_zald (pc' := 118) C 40 (by decide) (N := 32) (i := i) (f := ia 33) q_i33 (by omega) (by decide) dX6_digest_117 rfl ?_
            refine z_if_eq (pc' := 121) C 135 dX6_digest_118 rfl rfl (fun h_118 => ?_) (fun h_118 => ?_)
            · refine z_ldc2 (v := 31) (pc' := 138) C (by decide +kernel) dX6_digest_135 rfl ?_
              refine z_lload_n (pc' := 139) C dX6_digest_138 rfl 0 rfl rfl ?_
              refine z_lmul (pc' := 140) C dX6_digest_139 rfl ?_
              refine z_aload_n (pc' := 141) C dX6_digest_140 rfl 2 rfl rfl ?_
              refine z_get (pc' := 144) C hU6 6 (by decide) q_o6 rfl 7 (by decide) (by decide +kernel) (v := .ref (G.2.1 42)) rfl dX6_digest_141 rfl ?_
              refine z_iload_n (pc' := 145) C dX6_digest_144 rfl 1 rfl rfl ?_
              refine z_iald (pc' := 146) C 42 (by decide) (N := 32) (i := i) (f := ia 35) q_i35 (by omega) (by decide) dX6_digest_145 rfl ?_
              refine z_i2l (pc' := 147) C dX6_digest_146 rfl ?_
              refine z_ladd (pc' := 148) C dX6_digest_147 rfl ?_
              refine z_lstore_n (lv' := [(1, .long ((31 * ((31 * ((31 * ((31 * ((31 * ((31 * (r_nf ia (s_fo 191 (nI n).toInt64) i)) + (((ia 29) i).toInt64))) + (((ia 31) i).toInt64))) + (((ia 30) i).toInt64))) + ((if ia 32 i = 0 then 0 else 1 : Int32).toInt64))) + ((if ia 33 i = 0 then 0 else 1 : Int32).toInt64))) + (((ia 35) i).toInt64))), (3, .int (nI i)), (0, .ref (G.2.1 6))]) (pc' := 149) C dX6_digest_148 rfl (by decide) rfl rfl ?_
              refine z_iinc (v := nI (i + 1)) (k9 := 1) (lv' := [(3, .int (nI (i + 1))), (1, .long ((31 * ((31 * ((31 * ((31 * ((31 * ((31 * (r_nf ia (s_fo 191 (nI n).toInt64) i)) + (((ia 29) i).toInt64))) + (((ia 31) i).toInt64))) + (((ia 30) i).toInt64))) + ((if ia 32 i = 0 then 0 else 1 : Int32).toInt64))) + ((if ia 33 i = 0 then 0 else 1 : Int32).toInt64))) + (((ia 35) i).toInt64))), (0, .ref (G.2.1 6))]) (pc' := 152) C dX6_digest_149 rfl (nI_1 i) (by decide) rfl rfl ?_
              refine z_goto (pc' := 18) C dX6_digest_152 rfl ?_
              exact z_cast rfl rfl rfl (by simp [r_nf, r_nf1, s_fo, h_118]) rfl (ih18 (i + 1) (by omega) (by omega))
            · refine z_ldc2 (v := 31) (pc' := 124) C (by decide +kernel) dX6_digest_121 rfl ?_
              refine z_lload_n (pc' := 125) C dX6_digest_124 rfl 0 rfl rfl ?_
              refine z_lmul (pc' := 126) C dX6_digest_125 rfl ?_
              refine z_aload_n (pc' := 127) C dX6_digest_126 rfl 2 rfl rfl ?_
              refine z_get (pc' := 130) C hU6 6 (by decide) q_o6 rfl 6 (by decide) (by decide +kernel) (v := .ref (G.2.1 41)) rfl dX6_digest_127 rfl ?_
              refine z_iload_n (pc' := 131) C dX6_digest_130 rfl 1 rfl rfl ?_
              refine z_iald (pc' := 132) C 41 (by decide) (N := 32) (i := i) (f := ia 34) q_i34 (by omega) (by decide) dX6_digest_131 rfl ?_
              refine z_i2l (pc' := 133) C dX6_digest_132 rfl ?_
              refine z_ladd (pc' := 134) C dX6_digest_133 rfl ?_
              refine z_lstore_n (lv' := [(1, .long ((31 * ((31 * ((31 * ((31 * ((31 * ((31 * (r_nf ia (s_fo 191 (nI n).toInt64) i)) + (((ia 29) i).toInt64))) + (((ia 31) i).toInt64))) + (((ia 30) i).toInt64))) + ((if ia 32 i = 0 then 0 else 1 : Int32).toInt64))) + ((if ia 33 i = 0 then 0 else 1 : Int32).toInt64))) + (((ia 34) i).toInt64))), (3, .int (nI i)), (0, .ref (G.2.1 6))]) (pc' := 135) C dX6_digest_134 rfl (by decide) rfl rfl ?_
              refine z_ldc2 (v := 31) (pc' := 138) C (by decide +kernel) dX6_digest_135 rfl ?_
              refine z_lload_n (pc' := 139) C dX6_digest_138 rfl 0 rfl rfl ?_
              refine z_lmul (pc' := 140) C dX6_digest_139 rfl ?_
              refine z_aload_n (pc' := 141) C dX6_digest_140 rfl 2 rfl rfl ?_
              refine z_get (pc' := 144) C hU6 6 (by decide) q_o6 rfl 7 (by decide) (by decide +kernel) (v := .ref (G.2.1 42)) rfl dX6_digest_141 rfl ?_
              refine z_iload_n (pc' := 145) C dX6_digest_144 rfl 1 rfl rfl ?_
              refine z_iald (pc' := 146) C 42 (by decide) (N := 32) (i := i) (f := ia 35) q_i35 (by omega) (by decide) dX6_digest_145 rfl ?_
              refine z_i2l (pc' := 147) C dX6_digest_146 rfl ?_
              refine z_ladd (pc' := 148) C dX6_digest_147 rfl ?_
              refine z_lstore_n (lv' := [(1, .long ((31 * ((31 * ((31 * ((31 * ((31 * ((31 * ((31 * (r_nf ia (s_fo 191 (nI n).toInt64) i)) + (((ia 29) i).toInt64))) + (((ia 31) i).toInt64))) + (((ia 30) i).toInt64))) + ((if ia 32 i = 0 then 0 else 1 : Int32).toInt64))) + ((if ia 33 i = 0 then 0 else 1 : Int32).toInt64))) + (((ia 34) i).toInt64))) + (((ia 35) i).toInt64))), (3, .int (nI i)), (0, .ref (G.2.1 6))]) (pc' := 149) C dX6_digest_148 rfl (by decide) rfl rfl ?_
              refine z_iinc (v := nI (i + 1)) (k9 := 1) (lv' := [(3, .int (nI (i + 1))), (1, .long ((31 * ((31 * ((31 * ((31 * ((31 * ((31 * ((31 * (r_nf ia (s_fo 191 (nI n).toInt64) i)) + (((ia 29) i).toInt64))) + (((ia 31) i).toInt64))) + (((ia 30) i).toInt64))) + ((if ia 32 i = 0 then 0 else 1 : Int32).toInt64))) + ((if ia 33 i = 0 then 0 else 1 : Int32).toInt64))) + (((ia 34) i).toInt64))) + (((ia 35) i).toInt64))), (0, .ref (G.2.1 6))]) (pc' := 152) C dX6_digest_149 rfl (nI_1 i) (by decide) rfl rfl ?_
              refine z_goto (pc' := 18) C dX6_digest_152 rfl ?_
              exact z_cast rfl rfl rfl (by simp [r_nf, r_nf1, s_fo, h_118]) rfl (ih18 (i + 1) (by omega) (by omega))
          refine z_if_eq (pc' := 104) C 108 dX6_digest_101 rfl rfl (fun h_101 => ?_) (fun h_101 => ?_)
          · refine z_iconst (v := 0) (pc' := 109) C dX6_digest_108 rfl rfl ?_
            exact z_cast rfl rfl rfl rfl (by first | rfl | (simp [bI, hi, h_23, h_101])) J109
          · refine z_iconst (v := 1) (pc' := 105) C dX6_digest_104 rfl rfl ?_
            refine z_goto (pc' := 109) C dX6_digest_105 rfl ?_
            exact z_cast rfl rfl rfl rfl (by first | rfl | (simp [bI, hi, h_23, h_101])) J109
        refine z_if_eq (pc' := 82) C 86 dX6_digest_79 rfl rfl (fun h_79 => ?_) (fun h_79 => ?_)
        · refine z_iconst (v := 0) (pc' := 87) C dX6_digest_86 rfl rfl ?_
          exact z_cast rfl rfl rfl rfl (by first | rfl | (simp [bI, hi, h_23, h_79])) J87
        · refine z_iconst (v := 1) (pc' := 83) C dX6_digest_82 rfl rfl ?_
          refine z_goto (pc' := 87) C dX6_digest_83 rfl ?_
          exact z_cast rfl rfl rfl rfl (by first | rfl | (simp [bI, hi, h_23, h_79])) J87
  exact z_cast rfl rfl rfl rfl rfl (L18 (_ + 1) 0 (by omega) (Nat.lt_succ_self _))

