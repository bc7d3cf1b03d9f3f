
def r_lt (ia : Ia) (i : Nat) : Bool := !decide (ia 32 i = 0)
def r_ul (ia : Ia) : Nat → (Nat → Int32)
  | 0 => ia 36
  | i + 1 => if r_lt ia i = true then upd (r_ul ia i) (s_cn (r_lt ia) i) (nI i) else r_ul ia i
def r_du (ia : Ia) (j : Nat) : Nat → Int64
  | 0 => 0
  | i + 1 => r_du ia j i - (if ia 32 i = 0 then (ia 29 i * s_sgn (nI i) (nI j)).toInt64 else 0)
def r_sn (f : Nat → Int64) (t : Nat) (u : Nat → Nat) (j : Nat) : Nat → (Nat → Int64)
  | 0 => f
  | c + 1 => vp_updL (r_sn f t u j c) (6 * t + c) (s_sgn (nI (u c)) (nI j)).toInt64
def r_rw (ia : Ia) (f : Nat → Int64) (n : Nat) (u : Nat → Nat) (w t j : Nat) : Nat → Int64 := vp_updL (r_sn f t u j w) (6 * t + 5) (r_du ia j n)
def r_tbl (f : Nat → Int64) (ia : Ia) (n : Nat) (u : Nat → Nat) (w : Nat) (m v : Int32) : Nat → (Nat → Int64)
  | 0 => f
  | j + 1 => if s_np m v j = true then r_rw ia (r_tbl f ia n u w m v j) n u w (s_cn (s_np m v) j) j else r_tbl f ia n u w m v j
def r_fp (F : Nat → Int64) (f c h : Nat) : Option Nat := s_fi (fun d => !decide (F (6 * (f + d) + c) = 0)) (h - f)
theorem r_fp_some {F : Nat → Int64} {f c h d : Nat} (hdn : ∀ j, j < d → (fun d => !decide (F (6 * (f + d) + c) = 0)) j = false) (hd : f + d < h) (hz : ¬ lg_cmp (F (6 * (f + d) + c)) 0 = 0) : r_fp F f c h = some d := by
  rw [lg_cmp_eq] at hz
  exact s_fi_s hdn (by omega) (by simp [hz])
theorem r_fp_none {F : Nat → Int64} {f c h d : Nat} (hdn : ∀ j, j < d → (fun d => !decide (F (6 * (f + d) + c) = 0)) j = false) (hd : h ≤ f + d) : r_fp F f c h = none := s_fi_n (fun j hj => hdn j (by omega))
def r_cs (F : Nat → Int64) (t q L : Nat) : Nat → (Nat → Int64)
  | 0 => F
  | r + 1 => if r = t then r_cs F t q L r else r_clr (r_cs F t q L r) r t q L
abbrev E3 : Type := Nat × (Nat → Int32) × (Nat → Int64)
def r_el (st : Nat → Int32) (F : Nat → Int64) (w h : Nat) : Nat → E3
  | 0 => (0, st, F)
  | c + 1 =>
    let x := r_el st F w h c
    match r_fp x.2.2 x.1 c h with
    | none => (x.1, upd x.2.1 c (-1), x.2.2)
    | some d => (x.1 + 1, upd (upd x.2.1 c (-1)) c (nI x.1), r_cs (r_tn x.2.2 (x.1 + d) x.1 6) x.1 c w h)
theorem r_el_n {st : Nat → Int32} {F : Nat → Int64} {w h c : Nat} (e : r_fp (r_el st F w h c).2.2 (r_el st F w h c).1 c h = none) : r_el st F w h (c + 1) = ((r_el st F w h c).1, upd (r_el st F w h c).2.1 c (-1), (r_el st F w h c).2.2) := by
  conv => lhs; unfold r_el
  dsimp only
  rw [e]
theorem r_el_s {st : Nat → Int32} {F : Nat → Int64} {w h c d : Nat} (e : r_fp (r_el st F w h c).2.2 (r_el st F w h c).1 c h = some d) : r_el st F w h (c + 1) = ((r_el st F w h c).1 + 1, upd (upd (r_el st F w h c).2.1 c (-1)) c (nI (r_el st F w h c).1), r_cs (r_tn (r_el st F w h c).2.2 ((r_el st F w h c).1 + d) (r_el st F w h c).1 6) (r_el st F w h c).1 c w h) := by
  conv => lhs; unfold r_el
  dsimp only
  rw [e]
theorem r_el_le (st : Nat → Int32) (F : Nat → Int64) (w h : Nat) : ∀ c, (r_el st F w h c).1 ≤ c ∧ (r_el st F w h c).1 ≤ h
  | 0 => ⟨Nat.le_refl 0, Nat.zero_le _⟩
  | c + 1 => by
    obtain ⟨h1, h2⟩ := r_el_le st F w h c
    cases e : r_fp (r_el st F w h c).2.2 (r_el st F w h c).1 c h with
    | none => rw [r_el_n e]; exact ⟨by dsimp only; omega, h2⟩
    | some d =>
      have := (s_fi_lt e).1
      rw [r_el_s e]
      exact ⟨by dsimp only; omega, by dsimp only; omega⟩
def r_vd (x : E3) (w h : Nat) : Int32 := if s_all (fun d => decide (x.2.2 (6 * (x.1 + d) + 5) = 0)) (h - x.1) = true then (if x.1 = w then 1 else 2) else 0
def r_allgood (st : Nat → Int32) (LA : Nat → Int64) (w h : Nat) : Prop := ∀ c, c < w → ∀ d, r_fp (r_el st LA w h c).2.2 (r_el st LA w h c).1 c h = some d → ∀ r, r < h → ¬ r = (r_el st LA w h c).1 → r_good (r_cs (r_tn (r_el st LA w h c).2.2 ((r_el st LA w h c).1 + d) (r_el st LA w h c).1 6) (r_el st LA w h c).1 c w r) r (r_el st LA w h c).1 c w

set_option maxHeartbeats 4000000 in
set_option maxRecDepth 100000 in
theorem c_X6_solve (l : Launch) (G : Gv) (sc : Sc) (ia : Ia) (la : La) (n : Nat) (hn : sc 7 = nI n) (hN : n ≤ 32) (w : Nat) (hwe : s_cn (r_lt ia) n = w) (hW : w ≤ 5) (u : Nat → Nat) (hue : ∀ c, c < w → r_ul ia n c = nI (u c) ∧ u c < 32) (m v : Int32) (h : Nat) (hhe : s_cn (s_np m v) n = h) (LA : Nat → Int64) (hLA : r_tbl (la 32) ia n u w m v n = LA) (x : E3) (hx : r_el (ia 37) LA w h w = x) (hgood : r_allgood (ia 37) LA w h)  : Ct l yX6_solve wsX6_solve ({ frames := 2, cells := 0, slots := 0, locals := 59 }) G [.ref (G.2.1 6), .int m, .int v] sc ia la (fI (r_vd x w h) (va_up (va_up sc 9 (nI w)) 8 (nI h)) (va_up (va_up ia 36 (r_ul ia n)) 37 x.2.1) (va_up la 32 x.2.2)) := by
  have hU6 : ∀ w ∈ u_ws RX6 TX6 25, w ∈ wsX6_solve := fun w h => List.mem_cons_of_mem _ (List.mem_append_right _ h)
  have hH : h ≤ 32 := by have := s_cn_le (s_np m v) n; omega
  have hxl : x.1 ≤ w ∧ x.1 ≤ h := by rw [← hx]; exact r_el_le (ia 37) LA w h w
  refine z_of (maxL := 7) (own := RX6) [(0, .ref (G.2.1 6)), (1, .int m), (2, .int v)] rfl (by decide +kernel) rfl (Nat.le_of_ble_eq_true rfl) rfl (fun Z C E => ?_)
  have J330 : Z (va_up (va_up sc 9 (nI w)) 8 (nI h)) (va_up (va_up ia 36 (r_ul ia n)) 37 x.2.1) (va_up la 32 x.2.2) [(0, .ref (G.2.1 6)), (3, .int (nI (x.1)))] 330 [] := by
    refine z_iload_n (pc' := 331) C dX6_solve_330 rfl 1 rfl rfl ?_
    refine z_istore (lv' := [(4, .int (nI (x.1))), (0, .ref (G.2.1 6)), (3, .int (nI (x.1)))]) (pc' := 333) C dX6_solve_331 (by decide) rfl rfl ?_
    have L333 : ∀ (fuel : Nat) (d : Nat) (hd : x.1 + d ≤ h) (ha : s_all (fun d => decide (x.2.2 (6 * (x.1 + d) + 5) = 0)) d = true), h - (x.1 + d) < fuel → Z (va_up (va_up sc 9 (nI w)) 8 (nI h)) (va_up (va_up ia 36 (r_ul ia n)) 37 x.2.1) (va_up la 32 x.2.2) [(4, .int (nI (x.1 + d))), (0, .ref (G.2.1 6)), (3, .int (nI (x.1)))] 333 [] := by
      intro fuel
      induction fuel with
      | zero => intro d hd ha hm333; exact absurd hm333 (Nat.not_lt_zero _)
      | succ fuel ih333 =>
        intro d hd ha hm333
        refine z_iload (pc' := 335) C dX6_solve_333 0 rfl rfl ?_
        refine z_aload_n (pc' := 336) C dX6_solve_335 rfl 1 rfl rfl ?_
        refine z_get (pc' := 339) C hU6 6 (by decide) q_o6 rfl 9 (by decide) (by decide +kernel) (v := .int (nI h)) rfl dX6_solve_336 rfl ?_
        refine z_icmpN_ge (a := x.1 + d) (b := h) (pc' := 342) C 367 (by omega) (by omega) dX6_solve_339 rfl rfl (fun h_339 => ?_) (fun h_339 => ?_)
        · refine z_iload_n (pc' := 368) C dX6_solve_367 rfl 2 rfl rfl ?_
          refine z_aload_n (pc' := 369) C dX6_solve_368 rfl 1 rfl rfl ?_
          refine z_get (pc' := 372) C hU6 6 (by decide) q_o6 rfl 11 (by decide) (by decide +kernel) (v := .int (nI w)) rfl dX6_solve_369 rfl ?_
          refine z_icmpN_ne (a := x.1) (b := w) (pc' := 375) C 379 (by omega) (by omega) dX6_solve_372 rfl rfl (fun h_372 => ?_) (fun h_372 => ?_)
          · refine z_iconst (v := 2) (pc' := 380) C dX6_solve_379 rfl rfl ?_
            exact z_iret (E := E) rfl dX6_solve_380 ⟨(congrArg (fun z => some (Value.int z)) (show _ = _ from (by first | rfl | (have e9 : d = h - x.1 := (by omega); subst e9; unfold r_vd; rw [if_pos ha]; simp [h_372])))), rfl, rfl, rfl⟩
          · refine z_iconst (v := 1) (pc' := 376) C dX6_solve_375 rfl rfl ?_
            refine z_goto (pc' := 380) C dX6_solve_376 rfl ?_
            exact z_iret (E := E) rfl dX6_solve_380 ⟨(congrArg (fun z => some (Value.int z)) (show _ = _ from (by first | rfl | (have e9 : d = h - x.1 := (by omega); subst e9; unfold r_vd; rw [if_pos ha]; simp [h_372])))), rfl, rfl, rfl⟩
        · refine z_aload_n (pc' := 343) C dX6_solve_342 rfl 1 rfl rfl ?_
          refine z_get (pc' := 346) C hU6 6 (by decide) q_o6 rfl 8 (by decide) (by decide +kernel) (v := .ref (G.2.1 85)) rfl dX6_solve_343 rfl ?_
          refine z_bipush (v := 6) (pc' := 348) C dX6_solve_346 rfl rfl ?_
          refine z_iload (pc' := 350) C dX6_solve_348 0 rfl rfl ?_
          refine z_imul (pc' := 351) C dX6_solve_350 rfl ?_
          refine z_cast (st' := [.int (nI (6 * (x.1 + d))), .ref (G.2.1 85)]) rfl rfl rfl rfl (congrArg (fun z => Value.int z :: [.ref (G.2.1 85)]) (pk_mul _ _)) ?_
          refine z_iconst (v := 5) (pc' := 352) C dX6_solve_351 rfl rfl ?_
          refine z_iadd (pc' := 353) C dX6_solve_352 rfl ?_
          refine z_cast (st' := [.int (nI (6 * (x.1 + d) + 5)), .ref (G.2.1 85)]) rfl rfl rfl rfl (congrArg (fun z => Value.int z :: [.ref (G.2.1 85)]) (nI_add _ _)) ?_
          refine z_lald (pc' := 354) C 85 (by decide) (N := 192) (i := 6 * (x.1 + d) + 5) (f := x.2.2) q_l32 (by omega) (by decide) dX6_solve_353 rfl ?_
          refine z_lconst (v := 0) (pc' := 355) C dX6_solve_354 rfl rfl ?_
          refine z_lcmp (pc' := 356) C dX6_solve_355 rfl ?_
          refine z_if_eq (pc' := 359) C 361 dX6_solve_356 rfl rfl (fun h_356 => ?_) (fun h_356 => ?_)
          · refine z_iinc (v := nI (x.1 + d + 1)) (k9 := 0) (lv' := [(4, .int (nI (x.1 + d + 1))), (0, .ref (G.2.1 6)), (3, .int (nI (x.1)))]) (pc' := 364) C dX6_solve_361 rfl (nI_1 (x.1 + d)) (by decide) rfl rfl ?_
            refine z_goto (pc' := 333) C dX6_solve_364 rfl ?_
            exact z_cast rfl rfl rfl rfl rfl (ih333 (d + 1) (by omega) (by exact s_all_s ha (by rw [lg_cmp_eq] at h_356; simp [h_356])) (by omega))
          · refine z_iconst (v := 0) (pc' := 360) C dX6_solve_359 rfl rfl ?_
            exact z_iret (E := E) rfl dX6_solve_360 ⟨(congrArg (fun z => some (Value.int z)) (show _ = _ from (by first | rfl | (rw [lg_cmp_eq] at h_356; unfold r_vd; rw [s_all_f (i := d) (by omega) (by simp [h_356])]; rfl)))), rfl, rfl, rfl⟩
    exact z_cast rfl rfl rfl rfl rfl (L333 (_ + 1) 0 (by omega) (by rfl) (Nat.lt_succ_self _))
  have J206 : Z (va_up (va_up sc 9 (nI w)) 8 (nI h)) (va_up ia 36 (r_ul ia n)) (va_up la 32 LA) [(0, .ref (G.2.1 6))] 206 [] := by
    refine z_iconst (v := 0) (pc' := 207) C dX6_solve_206 rfl rfl ?_
    refine z_istore_n (lv' := [(3, .int 0), (0, .ref (G.2.1 6))]) (pc' := 208) C dX6_solve_207 rfl (by decide) rfl rfl ?_
    refine z_iconst (v := 0) (pc' := 209) C dX6_solve_208 rfl rfl ?_
    refine z_istore (lv' := [(4, .int 0), (3, .int 0), (0, .ref (G.2.1 6))]) (pc' := 211) C dX6_solve_209 (by decide) rfl rfl ?_
    have L211 : ∀ (fuel : Nat) (c : Nat) (hc : c ≤ w), w - c < fuel → Z (va_up (va_up sc 9 (nI w)) 8 (nI h)) (va_up (va_up ia 36 (r_ul ia n)) 37 (r_el (ia 37) LA w h c).2.1) (va_up la 32 (r_el (ia 37) LA w h c).2.2) [(4, .int (nI c)), (3, .int (nI ((r_el (ia 37) LA w h c).1))), (0, .ref (G.2.1 6))] 211 [] := by
      intro fuel
      induction fuel with
      | zero => intro c hc hm211; exact absurd hm211 (Nat.not_lt_zero _)
      | succ fuel ih211 =>
        intro c hc hm211
        have hrl := r_el_le (ia 37) LA w h c
        refine z_iload (pc' := 213) C dX6_solve_211 0 rfl rfl ?_
        refine z_aload_n (pc' := 214) C dX6_solve_213 rfl 2 rfl rfl ?_
        refine z_get (pc' := 217) C hU6 6 (by decide) q_o6 rfl 11 (by decide) (by decide +kernel) (v := .int (nI w)) rfl dX6_solve_214 rfl ?_
        refine z_icmpN_ge (a := c) (b := w) (pc' := 220) C 330 (by omega) (by omega) dX6_solve_217 rfl rfl (fun h_217 => ?_) (fun h_217 => ?_)
        · refine z_sub (lv' := [(0, .ref (G.2.1 6)), (3, .int (nI ((r_el (ia 37) LA w h c).1)))]) C [2, 1] rfl ?_
          exact z_cast rfl (by first | rfl | (have e9 : c = w := (by omega); subst e9; rw [hx])) (by first | rfl | (have e9 : c = w := (by omega); subst e9; rw [hx])) (by first | rfl | (have e9 : c = w := (by omega); subst e9; rw [hx])) rfl J330
        · refine z_aload_n (pc' := 221) C dX6_solve_220 rfl 2 rfl rfl ?_
          refine z_get (pc' := 224) C hU6 6 (by decide) q_o6 rfl 12 (by decide) (by decide +kernel) (v := .ref (G.2.1 44)) rfl dX6_solve_221 rfl ?_
          refine z_iload (pc' := 226) C dX6_solve_224 0 rfl rfl ?_
          refine z_iconst (v := -1) (pc' := 227) C dX6_solve_226 rfl rfl ?_
          refine z_iast (pc' := 228) C 44 (by decide) (N := 5) (i := c) (f := (r_el (ia 37) LA w h c).2.1) q_i37 (by omega) (by decide) (q_uu37 _ _) dX6_solve_227 rfl ?_
          refine z_iload_n (pc' := 229) C dX6_solve_228 rfl 1 rfl rfl ?_
          refine z_istore (lv' := [(5, .int (nI ((r_el (ia 37) LA w h c).1))), (4, .int (nI c)), (3, .int (nI ((r_el (ia 37) LA w h c).1))), (0, .ref (G.2.1 6))]) (pc' := 231) C dX6_solve_229 (by decide) rfl rfl ?_
          have L231 : ∀ (fuel : Nat) (d : Nat) (hd : d ≤ h - (r_el (ia 37) LA w h c).1) (hdn : ∀ j, j < d → (fun d => !decide ((r_el (ia 37) LA w h c).2.2 (6 * ((r_el (ia 37) LA w h c).1 + d) + c) = 0)) j = false), h - ((r_el (ia 37) LA w h c).1 + d) < fuel → Z (va_up (va_up sc 9 (nI w)) 8 (nI h)) (va_up (va_up ia 36 (r_ul ia n)) 37 (upd ((r_el (ia 37) LA w h c).2.1) c (-1))) (va_up la 32 (r_el (ia 37) LA w h c).2.2) [(5, .int (nI ((r_el (ia 37) LA w h c).1 + d))), (4, .int (nI c)), (3, .int (nI ((r_el (ia 37) LA w h c).1))), (0, .ref (G.2.1 6))] 231 [] := by
            intro fuel
            induction fuel with
            | zero => intro d hd hdn hm231; exact absurd hm231 (Nat.not_lt_zero _)
            | succ fuel ih231 =>
              intro d hd hdn hm231
              refine z_iload (pc' := 233) C dX6_solve_231 0 rfl rfl ?_
              refine z_aload_n (pc' := 234) C dX6_solve_233 rfl 3 rfl rfl ?_
              refine z_get (pc' := 237) C hU6 6 (by decide) q_o6 rfl 9 (by decide) (by decide +kernel) (v := .int (nI h)) rfl dX6_solve_234 rfl ?_
              refine z_icmpN_ge (a := (r_el (ia 37) LA w h c).1 + d) (b := h) (pc' := 240) C 264 (by omega) (by omega) dX6_solve_237 rfl rfl (fun h_237 => ?_) (fun h_237 => ?_)
              · refine z_iload (pc' := 266) C dX6_solve_264 0 rfl rfl ?_
                refine z_aload_n (pc' := 267) C dX6_solve_266 rfl 3 rfl rfl ?_
                refine z_get (pc' := 270) C hU6 6 (by decide) q_o6 rfl 9 (by decide) (by decide +kernel) (v := .int (nI h)) rfl dX6_solve_267 rfl ?_
                refine z_icmpN_ge (a := (r_el (ia 37) LA w h c).1 + d) (b := h) (pc' := 273) C 324 (by omega) (by omega) dX6_solve_270 rfl rfl (fun h_270 => ?_) (fun h_270 => absurd h_270 (by omega))
                refine z_iinc (v := nI (c + 1)) (k9 := 1) (lv' := [(4, .int (nI (c + 1))), (5, .int (nI ((r_el (ia 37) LA w h c).1 + d))), (3, .int (nI ((r_el (ia 37) LA w h c).1))), (0, .ref (G.2.1 6))]) (pc' := 327) C dX6_solve_324 rfl (nI_1 c) (by decide) rfl rfl ?_
                refine z_goto (pc' := 211) C dX6_solve_327 rfl ?_
                refine z_sub (lv' := [(4, .int (nI (c + 1))), (3, .int (nI ((r_el (ia 37) LA w h c).1))), (0, .ref (G.2.1 6))]) C [0, 2, 3] rfl ?_
                exact z_cast rfl (by first | (rw [r_el_s hf9]; done) | (rw [r_el_n (r_fp_none hdn h_270)]; done)) (by first | (have e9 : r = h := (by omega); rw [r_el_s hf9, e9]; done) | (rw [r_el_n (r_fp_none hdn h_270)]; done)) (by first | (rw [r_el_s hf9]; done) | (rw [r_el_n (r_fp_none hdn h_270)]; done)) rfl (ih211 (c + 1) (by omega) (by omega))
              · refine z_aload_n (pc' := 241) C dX6_solve_240 rfl 3 rfl rfl ?_
                refine z_get (pc' := 244) C hU6 6 (by decide) q_o6 rfl 8 (by decide) (by decide +kernel) (v := .ref (G.2.1 85)) rfl dX6_solve_241 rfl ?_
                refine z_bipush (v := 6) (pc' := 246) C dX6_solve_244 rfl rfl ?_
                refine z_iload (pc' := 248) C dX6_solve_246 0 rfl rfl ?_
                refine z_imul (pc' := 249) C dX6_solve_248 rfl ?_
                refine z_cast (st' := [.int (nI (6 * ((r_el (ia 37) LA w h c).1 + d))), .ref (G.2.1 85)]) rfl rfl rfl rfl (congrArg (fun z => Value.int z :: [.ref (G.2.1 85)]) (pk_mul _ _)) ?_
                refine z_iload (pc' := 251) C dX6_solve_249 1 rfl rfl ?_
                refine z_iadd (pc' := 252) C dX6_solve_251 rfl ?_
                refine z_cast (st' := [.int (nI (6 * ((r_el (ia 37) LA w h c).1 + d) + c)), .ref (G.2.1 85)]) rfl rfl rfl rfl (congrArg (fun z => Value.int z :: [.ref (G.2.1 85)]) (nI_add _ _)) ?_
                refine z_lald (pc' := 253) C 85 (by decide) (N := 192) (i := 6 * ((r_el (ia 37) LA w h c).1 + d) + c) (f := (r_el (ia 37) LA w h c).2.2) q_l32 (by omega) (by decide) dX6_solve_252 rfl ?_
                refine z_lconst (v := 0) (pc' := 254) C dX6_solve_253 rfl rfl ?_
                refine z_lcmp (pc' := 255) C dX6_solve_254 rfl ?_
                refine z_if_ne (pc' := 258) C 264 dX6_solve_255 rfl rfl (fun h_255 => ?_) (fun h_255 => ?_)
                · refine z_iload (pc' := 266) C dX6_solve_264 0 rfl rfl ?_
                  refine z_aload_n (pc' := 267) C dX6_solve_266 rfl 3 rfl rfl ?_
                  refine z_get (pc' := 270) C hU6 6 (by decide) q_o6 rfl 9 (by decide) (by decide +kernel) (v := .int (nI h)) rfl dX6_solve_267 rfl ?_
                  refine z_icmpN_ge (a := (r_el (ia 37) LA w h c).1 + d) (b := h) (pc' := 273) C 324 (by omega) (by omega) dX6_solve_270 rfl rfl (fun h_270 => absurd h_270 (by omega)) (fun h_270 => ?_)
                  have hf9 : r_fp (r_el (ia 37) LA w h c).2.2 (r_el (ia 37) LA w h c).1 c h = some d := r_fp_some hdn (by omega) h_255
                  refine z_aload_n (pc' := 274) C dX6_solve_273 rfl 3 rfl rfl ?_
                  refine z_iload (pc' := 276) C dX6_solve_274 0 rfl rfl ?_
                  refine z_iload_n (pc' := 277) C dX6_solve_276 rfl 2 rfl rfl ?_
                  refine z_cV (n := 2) (pc' := 280) (As := [.int (nI ((r_el (ia 37) LA w h c).1 + d)), .int (nI ((r_el (ia 37) LA w h c).1))]) (rest := []) C 6 (c_X6_turn l G (va_up (va_up sc 9 (nI w)) 8 (nI h)) (va_up (va_up ia 36 (r_ul ia n)) 37 (upd ((r_el (ia 37) LA w h c).2.1) c (-1))) (va_up la 32 (r_el (ia 37) LA w h c).2.2) ((r_el (ia 37) LA w h c).1 + d) ((r_el (ia 37) LA w h c).1) (by omega) (by omega)) gX6_solve_X6_turn rfl rfl rfl rfl (by decide +kernel) (by decide) rfl (by decide) q_o6 rfl rfl dX6_solve_277 (Nat.le_of_ble_eq_true rfl) rfl (k_V ?_)
                  refine z_cast (la' := (va_up la 32 (r_tn ((r_el (ia 37) LA w h c).2.2) ((r_el (ia 37) LA w h c).1 + d) ((r_el (ia 37) LA w h c).1) 6))) rfl rfl (bx_uu _ _ _ _) rfl rfl ?_
                  show Z (va_up (va_up sc 9 (nI w)) 8 (nI h)) (va_up (va_up ia 36 (r_ul ia n)) 37 (upd ((r_el (ia 37) LA w h c).2.1) c (-1))) (va_up la 32 (r_tn ((r_el (ia 37) LA w h c).2.2) ((r_el (ia 37) LA w h c).1 + d) ((r_el (ia 37) LA w h c).1) 6)) [(5, .int (nI ((r_el (ia 37) LA w h c).1 + d))), (4, .int (nI c)), (3, .int (nI ((r_el (ia 37) LA w h c).1))), (0, .ref (G.2.1 6))] 280 []
                  refine z_iconst (v := 0) (pc' := 281) C dX6_solve_280 rfl rfl ?_
                  refine z_istore (lv' := [(6, .int 0), (5, .int (nI ((r_el (ia 37) LA w h c).1 + d))), (4, .int (nI c)), (3, .int (nI ((r_el (ia 37) LA w h c).1))), (0, .ref (G.2.1 6))]) (pc' := 283) C dX6_solve_281 (by decide) rfl rfl ?_
                  have L283 : ∀ (fuel : Nat) (r : Nat) (hr : r ≤ h), h - r < fuel → Z (va_up (va_up sc 9 (nI w)) 8 (nI h)) (va_up (va_up ia 36 (r_ul ia n)) 37 (upd ((r_el (ia 37) LA w h c).2.1) c (-1))) (va_up la 32 (r_cs (r_tn (r_el (ia 37) LA w h c).2.2 ((r_el (ia 37) LA w h c).1 + d) (r_el (ia 37) LA w h c).1 6) (r_el (ia 37) LA w h c).1 c w r)) [(6, .int (nI r)), (4, .int (nI c)), (3, .int (nI ((r_el (ia 37) LA w h c).1))), (0, .ref (G.2.1 6))] 283 [] := by
                    intro fuel
                    induction fuel with
                    | zero => intro r hr hm283; exact absurd hm283 (Nat.not_lt_zero _)
                    | succ fuel ih283 =>
                      intro r hr hm283
                      refine z_iload (pc' := 285) C dX6_solve_283 0 rfl rfl ?_
                      refine z_aload_n (pc' := 286) C dX6_solve_285 rfl 3 rfl rfl ?_
                      refine z_get (pc' := 289) C hU6 6 (by decide) q_o6 rfl 9 (by decide) (by decide +kernel) (v := .int (nI h)) rfl dX6_solve_286 rfl ?_
                      refine z_icmpN_ge (a := r) (b := h) (pc' := 292) C 313 (by omega) (by omega) dX6_solve_289 rfl rfl (fun h_289 => ?_) (fun h_289 => ?_)
                      · refine z_aload_n (pc' := 314) C dX6_solve_313 rfl 3 rfl rfl ?_
                        refine z_get (pc' := 317) C hU6 6 (by decide) q_o6 rfl 12 (by decide) (by decide +kernel) (v := .ref (G.2.1 44)) rfl dX6_solve_314 rfl ?_
                        refine z_iload (pc' := 319) C dX6_solve_317 1 rfl rfl ?_
                        refine z_iload_n (pc' := 320) C dX6_solve_319 rfl 2 rfl rfl ?_
                        refine z_iast (pc' := 321) C 44 (by decide) (N := 5) (i := c) (f := upd ((r_el (ia 37) LA w h c).2.1) c (-1)) q_i37 (by omega) (by decide) (q_uu37 _ _) dX6_solve_320 rfl ?_
                        refine z_iinc (v := nI ((r_el (ia 37) LA w h c).1 + 1)) (k9 := 2) (lv' := [(3, .int (nI ((r_el (ia 37) LA w h c).1 + 1))), (6, .int (nI r)), (4, .int (nI c)), (0, .ref (G.2.1 6))]) (pc' := 324) C dX6_solve_321 rfl (nI_1 ((r_el (ia 37) LA w h c).1)) (by decide) rfl rfl ?_
                        refine z_iinc (v := nI (c + 1)) (k9 := 2) (lv' := [(4, .int (nI (c + 1))), (3, .int (nI ((r_el (ia 37) LA w h c).1 + 1))), (6, .int (nI r)), (0, .ref (G.2.1 6))]) (pc' := 327) C dX6_solve_324 rfl (nI_1 c) (by decide) rfl rfl ?_
                        refine z_goto (pc' := 211) C dX6_solve_327 rfl ?_
                        refine z_sub (lv' := [(4, .int (nI (c + 1))), (3, .int (nI ((r_el (ia 37) LA w h c).1 + 1))), (0, .ref (G.2.1 6))]) C [0, 1, 3] rfl ?_
                        exact z_cast rfl (by first | (rw [r_el_s hf9]; done) | (rw [r_el_n (r_fp_none hdn h_270)]; done)) (by first | (have e9 : r = h := (by omega); rw [r_el_s hf9, e9]; done) | (rw [r_el_n (r_fp_none hdn h_270)]; done)) (by first | (rw [r_el_s hf9]; done) | (rw [r_el_n (r_fp_none hdn h_270)]; done)) rfl (ih211 (c + 1) (by omega) (by omega))
                      · refine z_iload (pc' := 294) C dX6_solve_292 0 rfl rfl ?_
                        refine z_iload_n (pc' := 295) C dX6_solve_294 rfl 2 rfl rfl ?_
                        refine z_icmpN_eq (a := r) (b := (r_el (ia 37) LA w h c).1) (pc' := 298) C 307 (by omega) (by omega) dX6_solve_295 rfl rfl (fun h_295 => ?_) (fun h_295 => ?_)
                        · refine z_iinc (v := nI (r + 1)) (k9 := 0) (lv' := [(6, .int (nI (r + 1))), (4, .int (nI c)), (3, .int (nI ((r_el (ia 37) LA w h c).1))), (0, .ref (G.2.1 6))]) (pc' := 310) C dX6_solve_307 rfl (nI_1 r) (by decide) rfl rfl ?_
                          refine z_goto (pc' := 283) C dX6_solve_310 rfl ?_
                          exact z_cast rfl rfl (by first | rfl | (simp [r_cs, h_295])) rfl rfl (ih283 (r + 1) (by omega) (by omega))
                        · refine z_aload_n (pc' := 299) C dX6_solve_298 rfl 3 rfl rfl ?_
                          refine z_iload (pc' := 301) C dX6_solve_299 0 rfl rfl ?_
                          refine z_iload_n (pc' := 302) C dX6_solve_301 rfl 2 rfl rfl ?_
                          refine z_iload (pc' := 304) C dX6_solve_302 1 rfl rfl ?_
                          refine z_cV (n := 3) (pc' := 307) (As := [.int (nI r), .int (nI ((r_el (ia 37) LA w h c).1)), .int (nI c)]) (rest := []) C 6 (c_X6_clear l G (va_up (va_up sc 9 (nI w)) 8 (nI h)) (va_up (va_up ia 36 (r_ul ia n)) 37 (upd ((r_el (ia 37) LA w h c).2.1) c (-1))) (va_up la 32 (r_cs (r_tn (r_el (ia 37) LA w h c).2.2 ((r_el (ia 37) LA w h c).1 + d) (r_el (ia 37) LA w h c).1 6) (r_el (ia 37) LA w h c).1 c w r)) w rfl hW r ((r_el (ia 37) LA w h c).1) c (by omega) (by omega) (by omega) (hgood c (by omega) d hf9 r (by omega) h_295)) gX6_solve_X6_clear rfl rfl rfl rfl (by decide +kernel) (by decide) rfl (by decide) q_o6 rfl rfl dX6_solve_304 (Nat.le_of_ble_eq_true rfl) rfl (k_V ?_)
                          refine z_cast (la' := (va_up la 32 (r_clr (r_cs (r_tn (r_el (ia 37) LA w h c).2.2 ((r_el (ia 37) LA w h c).1 + d) (r_el (ia 37) LA w h c).1 6) (r_el (ia 37) LA w h c).1 c w r) r ((r_el (ia 37) LA w h c).1) c w))) rfl rfl (bx_uu _ _ _ _) rfl rfl ?_
                          show Z (va_up (va_up sc 9 (nI w)) 8 (nI h)) (va_up (va_up ia 36 (r_ul ia n)) 37 (upd ((r_el (ia 37) LA w h c).2.1) c (-1))) (va_up la 32 (r_clr (r_cs (r_tn (r_el (ia 37) LA w h c).2.2 ((r_el (ia 37) LA w h c).1 + d) (r_el (ia 37) LA w h c).1 6) (r_el (ia 37) LA w h c).1 c w r) r ((r_el (ia 37) LA w h c).1) c w)) [(6, .int (nI r)), (4, .int (nI c)), (3, .int (nI ((r_el (ia 37) LA w h c).1))), (0, .ref (G.2.1 6))] 307 []
                          refine z_iinc (v := nI (r + 1)) (k9 := 0) (lv' := [(6, .int (nI (r + 1))), (4, .int (nI c)), (3, .int (nI ((r_el (ia 37) LA w h c).1))), (0, .ref (G.2.1 6))]) (pc' := 310) C dX6_solve_307 rfl (nI_1 r) (by decide) rfl rfl ?_
                          refine z_goto (pc' := 283) C dX6_solve_310 rfl ?_
                          exact z_cast rfl rfl (by first | rfl | (simp [r_cs, h_295])) rfl rfl (ih283 (r + 1) (by omega) (by omega))
                  refine z_sub (lv' := [(6, .int 0), (4, .int (nI c)), (3, .int (nI ((r_el (ia 37) LA w h c).1))), (0, .ref (G.2.1 6))]) C [0, 2, 3, 4] rfl ?_
                  exact z_cast rfl rfl rfl rfl rfl (L283 (_ + 1) 0 (by omega) (Nat.lt_succ_self _))
                · refine z_iinc (v := nI ((r_el (ia 37) LA w h c).1 + d + 1)) (k9 := 0) (lv' := [(5, .int (nI ((r_el (ia 37) LA w h c).1 + d + 1))), (4, .int (nI c)), (3, .int (nI ((r_el (ia 37) LA w h c).1))), (0, .ref (G.2.1 6))]) (pc' := 261) C dX6_solve_258 rfl (nI_1 ((r_el (ia 37) LA w h c).1 + d)) (by decide) rfl rfl ?_
                  refine z_goto (pc' := 231) C dX6_solve_261 rfl ?_
                  exact z_cast rfl rfl rfl rfl rfl (ih231 (d + 1) (by omega) (by exact s_lt_s hdn (by rw [lg_cmp_eq] at h_255; simp [h_255])) (by omega))
          exact z_cast rfl rfl rfl rfl rfl (L231 (_ + 1) 0 (by omega) (fun j h => absurd h (Nat.not_lt_zero j)) (Nat.lt_succ_self _))
    exact z_cast rfl (by first | rfl | (exact va_same _ 37)) rfl rfl rfl (L211 (_ + 1) 0 (by omega) (Nat.lt_succ_self _))
  have J50 : Z (va_up sc 9 (nI w)) (va_up ia 36 (r_ul ia n)) la [(0, .ref (G.2.1 6)), (1, .int m), (2, .int v)] 50 [] := by
    refine z_aload_n (pc' := 51) C dX6_solve_50 rfl 0 rfl rfl ?_
    refine z_iconst (v := 0) (pc' := 52) C dX6_solve_51 rfl rfl ?_
    refine z_put (pc' := 55) C hU6 tyX6 tyX6_ok nmX6 6 (by decide) q_o6 rfl 9 (by decide) (by decide +kernel) rfl rfl (Nat.le_of_ble_eq_true rfl) (q_s8 _) dX6_solve_52 rfl ?_
    refine z_iconst (v := 0) (pc' := 56) C dX6_solve_55 rfl rfl ?_
    refine z_istore_n (lv' := [(3, .int 0), (0, .ref (G.2.1 6)), (1, .int m), (2, .int v)]) (pc' := 57) C dX6_solve_56 rfl (by decide) rfl rfl ?_
    have L57 : ∀ (fuel : Nat) (j : Nat) (hj : j ≤ n), n - j < fuel → Z (va_up (va_up sc 9 (nI w)) 8 (nI (s_cn (s_np m v) j))) (va_up ia 36 (r_ul ia n)) (va_up la 32 (r_tbl (la 32) ia n u w m v j)) [(3, .int (nI j)), (0, .ref (G.2.1 6)), (1, .int m), (2, .int v)] 57 [] := by
      intro fuel
      induction fuel with
      | zero => intro j hj hm57; exact absurd hm57 (Nat.not_lt_zero _)
      | succ fuel ih57 =>
        intro j hj hm57
        have hcl := s_cn_le (s_np m v) j
        refine z_iload_n (pc' := 58) C dX6_solve_57 rfl 0 rfl rfl ?_
        refine z_aload_n (pc' := 59) C dX6_solve_58 rfl 1 rfl rfl ?_
        refine z_get (pc' := 62) C hU6 6 (by decide) q_o6 rfl 0 (by decide) (by decide +kernel) (v := .int (sc 7)) rfl dX6_solve_59 rfl ?_
        refine z_cast (st' := [.int (nI n), .int (nI j)]) rfl rfl rfl rfl (congrArg (fun z => Value.int z :: [.int (nI j)]) hn) ?_
        refine z_icmpN_ge (a := j) (b := n) (pc' := 65) C 206 (by omega) (by omega) dX6_solve_62 rfl rfl (fun h_62 => ?_) (fun h_62 => ?_)
        · refine z_sub (lv' := [(0, .ref (G.2.1 6))]) C [1] rfl ?_
          exact z_cast (by first | rfl | (have e9 : j = n := (by omega); subst e9; first | (rw [hhe]; done) | (rw [hLA]; done))) rfl (by first | rfl | (have e9 : j = n := (by omega); subst e9; first | (rw [hhe]; done) | (rw [hLA]; done))) rfl rfl J206
        · refine z_iload_n (pc' := 66) C dX6_solve_65 rfl 0 rfl rfl ?_
          refine z_iload_n (pc' := 67) C dX6_solve_66 rfl 2 rfl rfl ?_
          refine z_iload_n (pc' := 68) C dX6_solve_67 rfl 3 rfl rfl ?_
          refine z_cS (n := 3) (pc' := 71) (As := [.int (nI j), .int m, .int v]) (rest := []) C (c_X6_passes l G (va_up (va_up sc 9 (nI w)) 8 (nI (s_cn (s_np m v) j))) (va_up ia 36 (r_ul ia n)) (va_up la 32 (r_tbl (la 32) ia n u w m v j)) (nI j) m v) gX6_solve_X6_passes rfl rfl rfl (by decide +kernel) (by decide) rfl rfl dX6_solve_68 (Nat.le_of_ble_eq_true rfl) rfl (k_I ?_)
          show Z (va_up (va_up sc 9 (nI w)) 8 (nI (s_cn (s_np m v) j))) (va_up ia 36 (r_ul ia n)) (va_up la 32 (r_tbl (la 32) ia n u w m v j)) [(3, .int (nI j)), (0, .ref (G.2.1 6)), (1, .int m), (2, .int v)] 71 [.int (bI (s_pass (nI j) m v))]
          refine z_ifB_ne (pc' := 74) C 200 dX6_solve_71 rfl rfl (fun h_71 => ?_) (fun h_71 => ?_)
          · refine z_iinc (v := nI (j + 1)) (k9 := 0) (lv' := [(3, .int (nI (j + 1))), (0, .ref (G.2.1 6)), (1, .int m), (2, .int v)]) (pc' := 203) C dX6_solve_200 rfl (nI_1 j) (by decide) rfl rfl ?_
            refine z_goto (pc' := 57) C dX6_solve_203 rfl ?_
            exact z_cast (by first | rfl | (simp [s_cn, s_np, h_71])) rfl (by first | rfl | (first | (have e9 : c = w := (by omega); subst e9; simp [r_tbl, s_np, h_71]; rfl) | (simp [r_tbl, s_np, h_71]; done))) rfl rfl (ih57 (j + 1) (by omega) (by omega))
          · refine z_lconst (v := 0) (pc' := 75) C dX6_solve_74 rfl rfl ?_
            refine z_lstore (lv' := [(4, .long 0), (3, .int (nI j)), (0, .ref (G.2.1 6)), (1, .int m), (2, .int v)]) (pc' := 77) C dX6_solve_75 (by decide) rfl rfl ?_
            refine z_iconst (v := 0) (pc' := 78) C dX6_solve_77 rfl rfl ?_
            refine z_istore (lv' := [(6, .int 0), (4, .long 0), (3, .int (nI j)), (0, .ref (G.2.1 6)), (1, .int m), (2, .int v)]) (pc' := 80) C dX6_solve_78 (by decide) rfl rfl ?_
            have L80 : ∀ (fuel : Nat) (i : Nat) (hi : i ≤ n), n - i < fuel → Z (va_up (va_up sc 9 (nI w)) 8 (nI (s_cn (s_np m v) j))) (va_up ia 36 (r_ul ia n)) (va_up la 32 (r_tbl (la 32) ia n u w m v j)) [(6, .int (nI i)), (4, .long (r_du ia j i)), (3, .int (nI j)), (0, .ref (G.2.1 6)), (1, .int m), (2, .int v)] 80 [] := by
              intro fuel
              induction fuel with
              | zero => intro i hi hm80; exact absurd hm80 (Nat.not_lt_zero _)
              | succ fuel ih80 =>
                intro i hi hm80
                refine z_iload (pc' := 82) C dX6_solve_80 0 rfl rfl ?_
                refine z_aload_n (pc' := 83) C dX6_solve_82 rfl 3 rfl rfl ?_
                refine z_get (pc' := 86) C hU6 6 (by decide) q_o6 rfl 0 (by decide) (by decide +kernel) (v := .int (sc 7)) rfl dX6_solve_83 rfl ?_
                refine z_cast (st' := [.int (nI n), .int (nI i)]) rfl rfl rfl rfl (congrArg (fun z => Value.int z :: [.int (nI i)]) hn) ?_
                refine z_icmpN_ge (a := i) (b := n) (pc' := 89) C 129 (by omega) (by omega) dX6_solve_86 rfl rfl (fun h_86 => ?_) (fun h_86 => ?_)
                · refine z_iconst (v := 0) (pc' := 130) C dX6_solve_129 rfl rfl ?_
                  refine z_istore (lv' := [(6, .int 0), (4, .long (r_du ia j i)), (3, .int (nI j)), (0, .ref (G.2.1 6)), (1, .int m), (2, .int v)]) (pc' := 132) C dX6_solve_130 (by decide) rfl rfl ?_
                  have L132 : ∀ (fuel : Nat) (c : Nat) (hc : c ≤ w), w - c < fuel → Z (va_up (va_up sc 9 (nI w)) 8 (nI (s_cn (s_np m v) j))) (va_up ia 36 (r_ul ia n)) (va_up la 32 (r_sn (r_tbl (la 32) ia n u w m v j) (s_cn (s_np m v) j) u j c)) [(6, .int (nI c)), (4, .long (r_du ia j n)), (3, .int (nI j)), (0, .ref (G.2.1 6)), (1, .int m), (2, .int v)] 132 [] := by
                    intro fuel
                    induction fuel with
                    | zero => intro c hc hm132; exact absurd hm132 (Nat.not_lt_zero _)
                    | succ fuel ih132 =>
                      intro c hc hm132
                      refine z_iload (pc' := 134) C dX6_solve_132 0 rfl rfl ?_
                      refine z_aload_n (pc' := 135) C dX6_solve_134 rfl 3 rfl rfl ?_
                      refine z_get (pc' := 138) C hU6 6 (by decide) q_o6 rfl 11 (by decide) (by decide +kernel) (v := .int (nI w)) rfl dX6_solve_135 rfl ?_
                      refine z_icmpN_ge (a := c) (b := w) (pc' := 141) C 174 (by omega) (by omega) dX6_solve_138 rfl rfl (fun h_138 => ?_) (fun h_138 => ?_)
                      · refine z_aload_n (pc' := 175) C dX6_solve_174 rfl 3 rfl rfl ?_
                        refine z_get (pc' := 178) C hU6 6 (by decide) q_o6 rfl 8 (by decide) (by decide +kernel) (v := .ref (G.2.1 85)) rfl dX6_solve_175 rfl ?_
                        refine z_bipush (v := 6) (pc' := 180) C dX6_solve_178 rfl rfl ?_
                        refine z_aload_n (pc' := 181) C dX6_solve_180 rfl 3 rfl rfl ?_
                        refine z_get (pc' := 184) C hU6 6 (by decide) q_o6 rfl 9 (by decide) (by decide +kernel) (v := .int (nI (s_cn (s_np m v) j))) rfl dX6_solve_181 rfl ?_
                        refine z_imul (pc' := 185) C dX6_solve_184 rfl ?_
                        refine z_cast (st' := [.int (nI (6 * (s_cn (s_np m v) j))), .ref (G.2.1 85)]) rfl rfl rfl rfl (congrArg (fun z => Value.int z :: [.ref (G.2.1 85)]) (pk_mul _ _)) ?_
                        refine z_iconst (v := 5) (pc' := 186) C dX6_solve_185 rfl rfl ?_
                        refine z_iadd (pc' := 187) C dX6_solve_186 rfl ?_
                        refine z_cast (st' := [.int (nI (6 * (s_cn (s_np m v) j) + 5)), .ref (G.2.1 85)]) rfl rfl rfl rfl (congrArg (fun z => Value.int z :: [.ref (G.2.1 85)]) (nI_add _ _)) ?_
                        refine z_lload (pc' := 189) C dX6_solve_187 1 rfl rfl ?_
                        refine z_last (pc' := 190) C 85 (by decide) (N := 192) (i := 6 * (s_cn (s_np m v) j) + 5) (f := r_sn (r_tbl (la 32) ia n u w m v j) (s_cn (s_np m v) j) u j c) q_l32 (by omega) (by decide) (q_ulu32 _ _) dX6_solve_189 rfl ?_
                        refine z_aload_n (pc' := 191) C dX6_solve_190 rfl 3 rfl rfl ?_
                        refine z_dup (pc' := 192) C dX6_solve_191 rfl rfl ?_
                        refine z_get (pc' := 195) C hU6 6 (by decide) q_o6 rfl 9 (by decide) (by decide +kernel) (v := .int (nI (s_cn (s_np m v) j))) rfl dX6_solve_192 rfl ?_
                        refine z_iconst (v := 1) (pc' := 196) C dX6_solve_195 rfl rfl ?_
                        refine z_iadd (pc' := 197) C dX6_solve_196 rfl ?_
                        refine z_cast (st' := [.int (nI (s_cn (s_np m v) j + 1)), .ref (G.2.1 6)]) rfl rfl rfl rfl (congrArg (fun z => Value.int z :: [.ref (G.2.1 6)]) (nI_add _ _)) ?_
                        refine z_put (pc' := 200) C hU6 tyX6 tyX6_ok nmX6 6 (by decide) q_o6 rfl 9 (by decide) (by decide +kernel) rfl rfl (Nat.le_of_ble_eq_true rfl) (q_ss8 _ _) dX6_solve_197 rfl ?_
                        refine z_iinc (v := nI (j + 1)) (k9 := 2) (lv' := [(3, .int (nI (j + 1))), (6, .int (nI c)), (4, .long (r_du ia j n)), (0, .ref (G.2.1 6)), (1, .int m), (2, .int v)]) (pc' := 203) C dX6_solve_200 rfl (nI_1 j) (by decide) rfl rfl ?_
                        refine z_goto (pc' := 57) C dX6_solve_203 rfl ?_
                        refine z_sub (lv' := [(3, .int (nI (j + 1))), (0, .ref (G.2.1 6)), (1, .int m), (2, .int v)]) C [0, 3, 4, 5] rfl ?_
                        exact z_cast (by first | rfl | (simp [s_cn, s_np, h_71])) rfl (by first | rfl | (first | (have e9 : c = w := (by omega); subst e9; simp [r_tbl, s_np, h_71]; rfl) | (simp [r_tbl, s_np, h_71]; done))) rfl rfl (ih57 (j + 1) (by omega) (by omega))
                      · refine z_aload_n (pc' := 142) C dX6_solve_141 rfl 3 rfl rfl ?_
                        refine z_get (pc' := 145) C hU6 6 (by decide) q_o6 rfl 8 (by decide) (by decide +kernel) (v := .ref (G.2.1 85)) rfl dX6_solve_142 rfl ?_
                        refine z_bipush (v := 6) (pc' := 147) C dX6_solve_145 rfl rfl ?_
                        refine z_aload_n (pc' := 148) C dX6_solve_147 rfl 3 rfl rfl ?_
                        refine z_get (pc' := 151) C hU6 6 (by decide) q_o6 rfl 9 (by decide) (by decide +kernel) (v := .int (nI (s_cn (s_np m v) j))) rfl dX6_solve_148 rfl ?_
                        refine z_imul (pc' := 152) C dX6_solve_151 rfl ?_
                        refine z_cast (st' := [.int (nI (6 * (s_cn (s_np m v) j))), .ref (G.2.1 85)]) rfl rfl rfl rfl (congrArg (fun z => Value.int z :: [.ref (G.2.1 85)]) (pk_mul _ _)) ?_
                        refine z_iload (pc' := 154) C dX6_solve_152 0 rfl rfl ?_
                        refine z_iadd (pc' := 155) C dX6_solve_154 rfl ?_
                        refine z_cast (st' := [.int (nI (6 * (s_cn (s_np m v) j) + c)), .ref (G.2.1 85)]) rfl rfl rfl rfl (congrArg (fun z => Value.int z :: [.ref (G.2.1 85)]) (nI_add _ _)) ?_
                        refine z_aload_n (pc' := 156) C dX6_solve_155 rfl 3 rfl rfl ?_
                        refine z_get (pc' := 159) C hU6 6 (by decide) q_o6 rfl 10 (by decide) (by decide +kernel) (v := .ref (G.2.1 43)) rfl dX6_solve_156 rfl ?_
                        refine z_iload (pc' := 161) C dX6_solve_159 0 rfl rfl ?_
                        refine z_iald (pc' := 162) C 43 (by decide) (N := 5) (i := c) (f := r_ul ia n) q_i36 (by omega) (by decide) dX6_solve_161 rfl ?_
                        refine z_cast (st' := [.int (nI (u c)), .int (nI (6 * (s_cn (s_np m v) j) + c)), .ref (G.2.1 85)]) rfl rfl rfl rfl (congrArg (fun z => Value.int z :: [.int (nI (6 * (s_cn (s_np m v) j) + c)), .ref (G.2.1 85)]) (hue c (by omega)).1) ?_
                        refine z_iload_n (pc' := 163) C dX6_solve_162 rfl 2 rfl rfl ?_
                        refine z_cS (n := 2) (pc' := 166) (As := [.int (nI (u c)), .int (nI j)]) (rest := [.int (nI (6 * (s_cn (s_np m v) j) + c)), .ref (G.2.1 85)]) C (c_X6_sign l G (va_up (va_up sc 9 (nI w)) 8 (nI (s_cn (s_np m v) j))) (va_up ia 36 (r_ul ia n)) (va_up la 32 (r_sn (r_tbl (la 32) ia n u w m v j) (s_cn (s_np m v) j) u j c)) (u c) j (hue c (by omega)).2 (by omega) ) gX6_solve_X6_sign rfl rfl rfl (by decide +kernel) (by decide) rfl rfl dX6_solve_163 (Nat.le_of_ble_eq_true rfl) rfl (k_I ?_)
                        show Z (va_up (va_up sc 9 (nI w)) 8 (nI (s_cn (s_np m v) j))) (va_up ia 36 (r_ul ia n)) (va_up la 32 (r_sn (r_tbl (la 32) ia n u w m v j) (s_cn (s_np m v) j) u j c)) [(6, .int (nI c)), (4, .long (r_du ia j n)), (3, .int (nI j)), (0, .ref (G.2.1 6)), (1, .int m), (2, .int v)] 166 [.int (s_sgn (nI (u c)) (nI j)), .int (nI (6 * (s_cn (s_np m v) j) + c)), .ref (G.2.1 85)]
                        refine z_i2l (pc' := 167) C dX6_solve_166 rfl ?_
                        refine z_last (pc' := 168) C 85 (by decide) (N := 192) (i := 6 * (s_cn (s_np m v) j) + c) (f := r_sn (r_tbl (la 32) ia n u w m v j) (s_cn (s_np m v) j) u j c) q_l32 (by omega) (by decide) (q_ulu32 _ _) dX6_solve_167 rfl ?_
                        refine z_iinc (v := nI (c + 1)) (k9 := 0) (lv' := [(6, .int (nI (c + 1))), (4, .long (r_du ia j n)), (3, .int (nI j)), (0, .ref (G.2.1 6)), (1, .int m), (2, .int v)]) (pc' := 171) C dX6_solve_168 rfl (nI_1 c) (by decide) rfl rfl ?_
                        refine z_goto (pc' := 132) C dX6_solve_171 rfl ?_
                        exact z_cast rfl rfl rfl rfl rfl (ih132 (c + 1) (by omega) (by omega))
                  exact z_cast rfl rfl rfl (by first | rfl | (have e9 : i = n := (by omega); subst e9; rfl)) rfl (L132 (_ + 1) 0 (by omega) (Nat.lt_succ_self _))
                · refine z_lload (pc' := 91) C dX6_solve_89 1 rfl rfl ?_
                  refine z_aload_n (pc' := 92) C dX6_solve_91 rfl 3 rfl rfl ?_
                  refine z_get (pc' := 95) C hU6 6 (by decide) q_o6 rfl 4 (by decide) (by decide +kernel) (v := .ref (G.2.1 39)) rfl dX6_solve_92 rfl ?_
                  refine z_iload (pc' := 97) C dX6_solve_95 0 rfl rfl ?_
                  refine z_zald (pc' := 98) C 39 (by decide) (N := 32) (i := i) (f := ia 32) q_i32 (by omega) (by decide) dX6_solve_97 rfl ?_
                  have J120 : Z (va_up (va_up sc 9 (nI w)) 8 (nI (s_cn (s_np m v) j))) (va_up ia 36 (r_ul ia n)) (va_up la 32 (r_tbl (la 32) ia n u w m v j)) [(6, .int (nI i)), (4, .long (r_du ia j i)), (3, .int (nI j)), (0, .ref (G.2.1 6)), (1, .int m), (2, .int v)] 120 [.long (if ia 32 i = 0 then (ia 29 i * s_sgn (nI i) (nI j)).toInt64 else 0), .long (r_du ia j i)] := by
                    refine z_lsub (pc' := 121) C dX6_solve_120 rfl ?_
                    refine z_lstore (lv' := [(4, .long ((r_du ia j i) - (if ia 32 i = 0 then (ia 29 i * s_sgn (nI i) (nI j)).toInt64 else 0))), (6, .int (nI i)), (3, .int (nI j)), (0, .ref (G.2.1 6)), (1, .int m), (2, .int v)]) (pc' := 123) C dX6_solve_121 (by decide) rfl rfl ?_
                    refine z_iinc (v := nI (i + 1)) (k9 := 1) (lv' := [(6, .int (nI (i + 1))), (4, .long ((r_du ia j i) - (if ia 32 i = 0 then (ia 29 i * s_sgn (nI i) (nI j)).toInt64 else 0))), (3, .int (nI j)), (0, .ref (G.2.1 6)), (1, .int m), (2, .int v)]) (pc' := 126) C dX6_solve_123 rfl (nI_1 i) (by decide) rfl rfl ?_
                    refine z_goto (pc' := 80) C dX6_solve_126 rfl ?_
                    exact z_cast rfl rfl rfl rfl rfl (ih80 (i + 1) (by omega) (by omega))
                  refine z_if_eq (pc' := 101) C 105 dX6_solve_98 rfl rfl (fun h_98 => ?_) (fun h_98 => ?_)
                  · refine z_aload_n (pc' := 106) C dX6_solve_105 rfl 3 rfl rfl ?_
                    refine z_get (pc' := 109) C hU6 6 (by decide) q_o6 rfl 1 (by decide) (by decide +kernel) (v := .ref (G.2.1 36)) rfl dX6_solve_106 rfl ?_
                    refine z_iload (pc' := 111) C dX6_solve_109 0 rfl rfl ?_
                    refine z_iald (pc' := 112) C 36 (by decide) (N := 32) (i := i) (f := ia 29) q_i29 (by omega) (by decide) dX6_solve_111 rfl ?_
                    refine z_iload (pc' := 114) C dX6_solve_112 0 rfl rfl ?_
                    refine z_iload_n (pc' := 115) C dX6_solve_114 rfl 2 rfl rfl ?_
                    refine z_cS (n := 2) (pc' := 118) (As := [.int (nI i), .int (nI j)]) (rest := [.int ((ia 29) i), .long (r_du ia j i)]) C (c_X6_sign l G (va_up (va_up sc 9 (nI w)) 8 (nI (s_cn (s_np m v) j))) (va_up ia 36 (r_ul ia n)) (va_up la 32 (r_tbl (la 32) ia n u w m v j)) i j (by omega) (by omega) ) gX6_solve_X6_sign rfl rfl rfl (by decide +kernel) (by decide) rfl rfl dX6_solve_115 (Nat.le_of_ble_eq_true rfl) rfl (k_I ?_)
                    show Z (va_up (va_up sc 9 (nI w)) 8 (nI (s_cn (s_np m v) j))) (va_up ia 36 (r_ul ia n)) (va_up la 32 (r_tbl (la 32) ia n u w m v j)) [(6, .int (nI i)), (4, .long (r_du ia j i)), (3, .int (nI j)), (0, .ref (G.2.1 6)), (1, .int m), (2, .int v)] 118 [.int (s_sgn (nI i) (nI j)), .int ((ia 29) i), .long (r_du ia j i)]
                    refine z_imul (pc' := 119) C dX6_solve_118 rfl ?_
                    refine z_i2l (pc' := 120) C dX6_solve_119 rfl ?_
                    exact z_cast rfl rfl rfl rfl (by first | rfl | (simp [h_98])) J120
                  · refine z_lconst (v := 0) (pc' := 102) C dX6_solve_101 rfl rfl ?_
                    refine z_goto (pc' := 120) C dX6_solve_102 rfl ?_
                    exact z_cast rfl rfl rfl rfl (by first | rfl | (simp [h_98])) J120
            exact z_cast rfl rfl rfl rfl rfl (L80 (_ + 1) 0 (by omega) (Nat.lt_succ_self _))
    exact z_cast rfl rfl (by first | rfl | (exact va_same _ 32)) rfl rfl (L57 (_ + 1) 0 (by omega) (Nat.lt_succ_self _))
  refine z_aload_n (pc' := 1) C dX6_solve_0 rfl 0 rfl rfl ?_
  refine z_iconst (v := 0) (pc' := 2) C dX6_solve_1 rfl rfl ?_
  refine z_put (pc' := 5) C hU6 tyX6 tyX6_ok nmX6 6 (by decide) q_o6 rfl 11 (by decide) (by decide +kernel) rfl rfl (Nat.le_of_ble_eq_true rfl) (q_s9 _) dX6_solve_2 rfl ?_
  refine z_iconst (v := 0) (pc' := 6) C dX6_solve_5 rfl rfl ?_
  refine z_istore_n (lv' := [(3, .int 0), (0, .ref (G.2.1 6)), (1, .int m), (2, .int v)]) (pc' := 7) C dX6_solve_6 rfl (by decide) rfl rfl ?_
  have L7 : ∀ (fuel : Nat) (i : Nat) (hi : i ≤ n), n - i < fuel → Z (va_up sc 9 (nI (s_cn (r_lt ia) i))) (va_up ia 36 (r_ul ia i)) la [(3, .int (nI i)), (0, .ref (G.2.1 6)), (1, .int m), (2, .int v)] 7 [] := by
    intro fuel
    induction fuel with
    | zero => intro i hi hm7; exact absurd hm7 (Nat.not_lt_zero _)
    | succ fuel ih7 =>
      intro i hi hm7
      have hcl := s_cn_mono (r_lt ia) hi
      have hcs : i < n → s_cn (r_lt ia) (i + 1) ≤ w := fun q => by rw [← hwe]; exact s_cn_mono (r_lt ia) q
      refine z_iload_n (pc' := 8) C dX6_solve_7 rfl 0 rfl rfl ?_
      refine z_aload_n (pc' := 9) C dX6_solve_8 rfl 1 rfl rfl ?_
      refine z_get (pc' := 12) C hU6 6 (by decide) q_o6 rfl 0 (by decide) (by decide +kernel) (v := .int (sc 7)) rfl dX6_solve_9 rfl ?_
      refine z_cast (st' := [.int (nI n), .int (nI i)]) rfl rfl rfl rfl (congrArg (fun z => Value.int z :: [.int (nI i)]) hn) ?_
      refine z_icmpN_ge (a := i) (b := n) (pc' := 15) C 50 (by omega) (by omega) dX6_solve_12 rfl rfl (fun h_12 => ?_) (fun h_12 => ?_)
      · refine z_sub (lv' := [(0, .ref (G.2.1 6)), (1, .int m), (2, .int v)]) C [1, 2, 3] rfl ?_
        exact z_cast (by first | rfl | (have e9 : i = n := (by omega); subst e9; first | rfl | (rw [hwe]; done))) (by first | rfl | (have e9 : i = n := (by omega); subst e9; first | rfl | (rw [hwe]; done))) rfl rfl rfl J50
      · refine z_aload_n (pc' := 16) C dX6_solve_15 rfl 1 rfl rfl ?_
        refine z_get (pc' := 19) C hU6 6 (by decide) q_o6 rfl 4 (by decide) (by decide +kernel) (v := .ref (G.2.1 39)) rfl dX6_solve_16 rfl ?_
        refine z_iload_n (pc' := 20) C dX6_solve_19 rfl 0 rfl rfl ?_
        refine z_zald (pc' := 21) C 39 (by decide) (N := 32) (i := i) (f := ia 32) q_i32 (by omega) (by decide) dX6_solve_20 rfl ?_
        refine z_if_eq (pc' := 24) C 44 dX6_solve_21 rfl rfl (fun h_21 => ?_) (fun h_21 => ?_)
        · refine z_iinc (v := nI (i + 1)) (k9 := 0) (lv' := [(3, .int (nI (i + 1))), (0, .ref (G.2.1 6)), (1, .int m), (2, .int v)]) (pc' := 47) C dX6_solve_44 rfl (nI_1 i) (by decide) rfl rfl ?_
          refine z_goto (pc' := 7) C dX6_solve_47 rfl ?_
          exact z_cast (by first | rfl | (simp [s_cn, r_lt, h_21])) (by first | rfl | (simp [r_ul, r_lt, h_21])) rfl rfl rfl (ih7 (i + 1) (by omega) (by omega))
        · have hcz : s_cn (r_lt ia) (i + 1) = s_cn (r_lt ia) i + 1 := (by simp [s_cn, r_lt, h_21])
          have hcy := hcs (by omega)
          refine z_aload_n (pc' := 25) C dX6_solve_24 rfl 1 rfl rfl ?_
          refine z_get (pc' := 28) C hU6 6 (by decide) q_o6 rfl 10 (by decide) (by decide +kernel) (v := .ref (G.2.1 43)) rfl dX6_solve_25 rfl ?_
          refine z_aload_n (pc' := 29) C dX6_solve_28 rfl 1 rfl rfl ?_
          refine z_get (pc' := 32) C hU6 6 (by decide) q_o6 rfl 11 (by decide) (by decide +kernel) (v := .int (nI (s_cn (r_lt ia) i))) rfl dX6_solve_29 rfl ?_
          refine z_iload_n (pc' := 33) C dX6_solve_32 rfl 0 rfl rfl ?_
          refine z_iast (pc' := 34) C 43 (by decide) (N := 5) (i := s_cn (r_lt ia) i) (f := r_ul ia i) q_i36 (by omega) (by decide) (q_uu36 _ _) dX6_solve_33 rfl ?_
          refine z_aload_n (pc' := 35) C dX6_solve_34 rfl 1 rfl rfl ?_
          refine z_dup (pc' := 36) C dX6_solve_35 rfl rfl ?_
          refine z_get (pc' := 39) C hU6 6 (by decide) q_o6 rfl 11 (by decide) (by decide +kernel) (v := .int (nI (s_cn (r_lt ia) i))) rfl dX6_solve_36 rfl ?_
          refine z_iconst (v := 1) (pc' := 40) C dX6_solve_39 rfl rfl ?_
          refine z_iadd (pc' := 41) C dX6_solve_40 rfl ?_
          refine z_cast (st' := [.int (nI (s_cn (r_lt ia) i + 1)), .ref (G.2.1 6)]) rfl rfl rfl rfl (congrArg (fun z => Value.int z :: [.ref (G.2.1 6)]) (nI_add _ _)) ?_
          refine z_put (pc' := 44) C hU6 tyX6 tyX6_ok nmX6 6 (by decide) q_o6 rfl 11 (by decide) (by decide +kernel) rfl rfl (Nat.le_of_ble_eq_true rfl) (q_ss9 _ _) dX6_solve_41 rfl ?_
          refine z_iinc (v := nI (i + 1)) (k9 := 0) (lv' := [(3, .int (nI (i + 1))), (0, .ref (G.2.1 6)), (1, .int m), (2, .int v)]) (pc' := 47) C dX6_solve_44 rfl (nI_1 i) (by decide) rfl rfl ?_
          refine z_goto (pc' := 7) C dX6_solve_47 rfl ?_
          exact z_cast (by first | rfl | (simp [s_cn, r_lt, h_21])) (by first | rfl | (simp [r_ul, r_lt, h_21])) rfl rfl rfl (ih7 (i + 1) (by omega) (by omega))
  exact z_cast rfl (by first | rfl | (exact va_same _ 36)) rfl rfl rfl (L7 (_ + 1) 0 (by omega) (Nat.lt_succ_self _))

theorem c_X6_solveB (l : Launch) (G : Gv) (sc : Sc) (ia : Ia) (la : La) (n : Nat) (hn : sc 7 = nI n) (hN : n ≤ 32) (w : Nat) (hwe : s_cn (r_lt ia) n = w) (hW : w ≤ 5) (u : Nat → Nat) (hue : ∀ c, c < w → r_ul ia n c = nI (u c) ∧ u c < 32) (m v : Int32) (h : Nat) (hhe : s_cn (s_np m v) n = h) (LA : Nat → Int64) (hLA : r_tbl (la 32) ia n u w m v n = LA) (x : E3) (hx : r_el (ia 37) LA w h w = x) (hgood : r_allgood (ia 37) LA w h) (z : Int32) (hz : r_vd x w h = z) : Ct l yX6_solve wsX6_solve ({ frames := 2, cells := 0, slots := 0, locals := 59 }) G [.ref (G.2.1 6), .int m, .int v] sc ia la (fI z (va_up (va_up sc 9 (nI w)) 8 (nI h)) (va_up (va_up ia 36 (r_ul ia n)) 37 x.2.1) (va_up la 32 x.2.2)) := by
  subst hz
  exact c_X6_solve l G sc ia la n hn hN w hwe hW u hue m v h hhe LA hLA x hx hgood
set_option maxHeartbeats 4000000 in
set_option maxRecDepth 100000 in
theorem c_X6_mends_out (l : Launch) (G : Gv) (sc : Sc) (ia : Ia) (la : La) (m v : Int32) (hg : s_gate m v = false)  : Ct l yX6_mends wsX6_mends ({ frames := 7, cells := 0, slots := 0, locals := 250 }) G [.ref (G.2.1 6), .int m, .int v] sc ia la (fI (-102) sc ia la) := by
  refine z_of (maxL := 3) (own := RX6) [(0, .ref (G.2.1 6)), (1, .int m), (2, .int v)] rfl (by decide +kernel) rfl (Nat.le_of_ble_eq_true rfl) rfl (fun Z C E => ?_)
  refine z_iload_n (pc' := 1) C dX6_mends_0 rfl 1 rfl rfl ?_
  refine z_iload_n (pc' := 2) C dX6_mends_1 rfl 2 rfl rfl ?_
  refine z_cS (n := 2) (pc' := 5) (As := [.int m, .int v]) (rest := []) C (c_X6_isGateB l G sc ia la m v false hg) gX6_mends_X6_isGate rfl rfl rfl (by decide +kernel) (by decide) rfl rfl dX6_mends_2 (Nat.le_of_ble_eq_true rfl) rfl (k_I ?_)
  show Z sc ia la [(0, .ref (G.2.1 6)), (1, .int m), (2, .int v)] 5 [.int 0]
  refine z_if_eq (pc' := 8) C 17 dX6_mends_5 rfl rfl (fun h_5 => ?_) (fun h_5 => absurd h_5 (by decide))
  refine z_bipush (v := -102) (pc' := 19) C dX6_mends_17 rfl rfl ?_
  exact z_iret (E := E) rfl dX6_mends_19 ⟨(congrArg (fun z => some (Value.int z)) rfl), rfl, rfl, rfl⟩

set_option maxHeartbeats 4000000 in
set_option maxRecDepth 100000 in
theorem c_X6_mends_ok (l : Launch) (G : Gv) (sc : Sc) (ia : Ia) (la : La) (n : Nat) (hn : sc 7 = nI n) (hN : n ≤ 32) (w : Nat) (hwe : s_cn (r_lt ia) n = w) (hW : w ≤ 5) (u : Nat → Nat) (hue : ∀ c, c < w → r_ul ia n c = nI (u c) ∧ u c < 32) (m v : Int32) (h : Nat) (hhe : s_cn (s_np m v) n = h) (LA : Nat → Int64) (hLA : r_tbl (la 32) ia n u w m v n = LA) (x : E3) (hx : r_el (ia 37) LA w h w = x) (hgood : r_allgood (ia 37) LA w h) (hg : s_gate m v = true)  : Ct l yX6_mends wsX6_mends ({ frames := 7, cells := 0, slots := 0, locals := 250 }) G [.ref (G.2.1 6), .int m, .int v] sc ia la (fI (r_vd x w h) (va_up (va_up sc 9 (nI w)) 8 (nI h)) (va_up (va_up ia 36 (r_ul ia n)) 37 x.2.1) (va_up la 32 x.2.2)) := by
  refine z_of (maxL := 3) (own := RX6) [(0, .ref (G.2.1 6)), (1, .int m), (2, .int v)] rfl (by decide +kernel) rfl (Nat.le_of_ble_eq_true rfl) rfl (fun Z C E => ?_)
  refine z_iload_n (pc' := 1) C dX6_mends_0 rfl 1 rfl rfl ?_
  refine z_iload_n (pc' := 2) C dX6_mends_1 rfl 2 rfl rfl ?_
  refine z_cS (n := 2) (pc' := 5) (As := [.int m, .int v]) (rest := []) C (c_X6_isGateB l G sc ia la m v true hg) gX6_mends_X6_isGate rfl rfl rfl (by decide +kernel) (by decide) rfl rfl dX6_mends_2 (Nat.le_of_ble_eq_true rfl) rfl (k_I ?_)
  show Z sc ia la [(0, .ref (G.2.1 6)), (1, .int m), (2, .int v)] 5 [.int 1]
  refine z_if_eq (pc' := 8) C 17 dX6_mends_5 rfl rfl (fun h_5 => absurd h_5 (by decide)) (fun h_5 => ?_)
  refine z_aload_n (pc' := 9) C dX6_mends_8 rfl 0 rfl rfl ?_
  refine z_iload_n (pc' := 10) C dX6_mends_9 rfl 1 rfl rfl ?_
  refine z_iload_n (pc' := 11) C dX6_mends_10 rfl 2 rfl rfl ?_
  refine z_cV (n := 2) (pc' := 14) (As := [.int m, .int v]) (rest := []) C 6 (c_X6_solve l G sc ia la n hn hN w hwe hW u hue m v h hhe LA hLA x hx hgood) gX6_mends_X6_solve rfl rfl rfl rfl (by decide +kernel) (by decide) rfl (by decide) q_o6 rfl rfl dX6_mends_11 (Nat.le_of_ble_eq_true rfl) rfl (k_I ?_)
  show Z (va_up (va_up sc 9 (nI w)) 8 (nI h)) (va_up (va_up ia 36 (r_ul ia n)) 37 x.2.1) (va_up la 32 x.2.2) [(0, .ref (G.2.1 6)), (1, .int m), (2, .int v)] 14 [.int (r_vd x w h)]
  refine z_goto (pc' := 19) C dX6_mends_14 rfl ?_
  exact z_iret (E := E) rfl dX6_mends_19 ⟨(congrArg (fun z => some (Value.int z)) rfl), rfl, rfl, rfl⟩

set_option maxHeartbeats 4000000 in
set_option maxRecDepth 100000 in
theorem c_X6_mend_no (l : Launch) (G : Gv) (sc : Sc) (ia : Ia) (la : La) (n : Nat) (hn : sc 7 = nI n) (hN : n ≤ 32) (h1 : 1 ≤ n) (i : Int32) (hno : s_has i (nI n) = false) (m v part : Int32)  : Ct l yX6_mend wsX6_mend ({ frames := 7, cells := 0, slots := 0, locals := 250 }) G [.ref (G.2.1 6), .int i, .int m, .int v, .int part] sc ia la (fL (-9000000000000000001) sc ia la) := by
  refine z_of (maxL := 12) (own := RX6) [(0, .ref (G.2.1 6)), (1, .int i), (2, .int m), (3, .int v), (4, .int part)] rfl (by decide +kernel) rfl (Nat.le_of_ble_eq_true rfl) rfl (fun Z C E => ?_)
  refine z_aload_n (pc' := 1) C dX6_mend_0 rfl 0 rfl rfl ?_
  refine z_iload_n (pc' := 2) C dX6_mend_1 rfl 1 rfl rfl ?_
  refine z_cV (n := 1) (pc' := 5) (As := [.int i]) (rest := []) C 6 (c_X6_isPlace_no l G sc ia la n hn hN h1 i hno) gX6_mend_X6_isPlace rfl rfl rfl rfl (by decide +kernel) (by decide) rfl (by decide) q_o6 rfl rfl dX6_mend_2 (Nat.le_of_ble_eq_true rfl) rfl (k_I ?_)
  show Z sc ia la [(0, .ref (G.2.1 6)), (1, .int i), (2, .int m), (3, .int v), (4, .int part)] 5 [.int 0]
  refine z_if_eq (pc' := 8) C 17 dX6_mend_5 rfl rfl (fun h_5 => ?_) (fun h_5 => absurd h_5 (by decide))
  refine z_ldc2 (v := -9000000000000000001) (pc' := 20) C (by decide +kernel) dX6_mend_17 rfl ?_
  exact z_lret (E := E) rfl dX6_mend_20 ⟨(congrArg (fun z => some (Value.long z)) rfl), rfl, rfl, rfl⟩

set_option maxHeartbeats 4000000 in
set_option maxRecDepth 100000 in
theorem c_X6_mend_unl (l : Launch) (G : Gv) (sc : Sc) (ia : Ia) (la : La) (n : Nat) (hn : sc 7 = nI n) (hN : n ≤ 32) (h1 : 1 ≤ n) (j : Nat) (hj : j < n) (h0 : ia 32 j = 0) (m v part : Int32)  : Ct l yX6_mend wsX6_mend ({ frames := 7, cells := 0, slots := 0, locals := 250 }) G [.ref (G.2.1 6), .int (nI j), .int m, .int v, .int part] sc ia la (fL (-9000000000000000001) sc ia la) := by
  have hU6 : ∀ w ∈ u_ws RX6 TX6 25, w ∈ wsX6_mend := fun w h => List.mem_cons_of_mem _ (List.mem_append_right _ h)
  refine z_of (maxL := 12) (own := RX6) [(0, .ref (G.2.1 6)), (1, .int (nI j)), (2, .int m), (3, .int v), (4, .int part)] rfl (by decide +kernel) rfl (Nat.le_of_ble_eq_true rfl) rfl (fun Z C E => ?_)
  refine z_aload_n (pc' := 1) C dX6_mend_0 rfl 0 rfl rfl ?_
  refine z_iload_n (pc' := 2) C dX6_mend_1 rfl 1 rfl rfl ?_
  refine z_cV (n := 1) (pc' := 5) (As := [.int (nI j)]) (rest := []) C 6 (c_X6_isPlace_ok l G sc ia la n hn hN h1 j hj) gX6_mend_X6_isPlace rfl rfl rfl rfl (by decide +kernel) (by decide) rfl (by decide) q_o6 rfl rfl dX6_mend_2 (Nat.le_of_ble_eq_true rfl) rfl (k_I ?_)
  show Z sc ia la [(0, .ref (G.2.1 6)), (1, .int (nI j)), (2, .int m), (3, .int v), (4, .int part)] 5 [.int 1]
  refine z_if_eq (pc' := 8) C 17 dX6_mend_5 rfl rfl (fun h_5 => absurd h_5 (by decide)) (fun h_5 => ?_)
  refine z_aload_n (pc' := 9) C dX6_mend_8 rfl 0 rfl rfl ?_
  refine z_get (pc' := 12) C hU6 6 (by decide) q_o6 rfl 4 (by decide) (by decide +kernel) (v := .ref (G.2.1 39)) rfl dX6_mend_9 rfl ?_
  refine z_iload_n (pc' := 13) C dX6_mend_12 rfl 1 rfl rfl ?_
  refine z_zald (pc' := 14) C 39 (by decide) (N := 32) (i := j) (f := ia 32) q_i32 (by omega) (by decide) dX6_mend_13 rfl ?_
  refine z_if_ne (pc' := 17) C 21 dX6_mend_14 rfl rfl (fun h_14 => absurd h_14 (by exact fun q => q h0)) (fun h_14 => ?_)
  refine z_ldc2 (v := -9000000000000000001) (pc' := 20) C (by decide +kernel) dX6_mend_17 rfl ?_
  exact z_lret (E := E) rfl dX6_mend_20 ⟨(congrArg (fun z => some (Value.long z)) rfl), rfl, rfl, rfl⟩

set_option maxHeartbeats 4000000 in
set_option maxRecDepth 100000 in
theorem c_X6_mend_gate (l : Launch) (G : Gv) (sc : Sc) (ia : Ia) (la : La) (n : Nat) (hn : sc 7 = nI n) (hN : n ≤ 32) (h1 : 1 ≤ n) (j : Nat) (hj : j < n) (h0 : ¬ ia 32 j = 0) (m v part : Int32) (hg : s_gate m v = false)  : Ct l yX6_mend wsX6_mend ({ frames := 7, cells := 0, slots := 0, locals := 250 }) G [.ref (G.2.1 6), .int (nI j), .int m, .int v, .int part] sc ia la (fL (-9000000000000000002) sc ia la) := by
  have hU6 : ∀ w ∈ u_ws RX6 TX6 25, w ∈ wsX6_mend := fun w h => List.mem_cons_of_mem _ (List.mem_append_right _ h)
  refine z_of (maxL := 12) (own := RX6) [(0, .ref (G.2.1 6)), (1, .int (nI j)), (2, .int m), (3, .int v), (4, .int part)] rfl (by decide +kernel) rfl (Nat.le_of_ble_eq_true rfl) rfl (fun Z C E => ?_)
  refine z_aload_n (pc' := 1) C dX6_mend_0 rfl 0 rfl rfl ?_
  refine z_iload_n (pc' := 2) C dX6_mend_1 rfl 1 rfl rfl ?_
  refine z_cV (n := 1) (pc' := 5) (As := [.int (nI j)]) (rest := []) C 6 (c_X6_isPlace_ok l G sc ia la n hn hN h1 j hj) gX6_mend_X6_isPlace rfl rfl rfl rfl (by decide +kernel) (by decide) rfl (by decide) q_o6 rfl rfl dX6_mend_2 (Nat.le_of_ble_eq_true rfl) rfl (k_I ?_)
  show Z sc ia la [(0, .ref (G.2.1 6)), (1, .int (nI j)), (2, .int m), (3, .int v), (4, .int part)] 5 [.int 1]
  refine z_if_eq (pc' := 8) C 17 dX6_mend_5 rfl rfl (fun h_5 => absurd h_5 (by decide)) (fun h_5 => ?_)
  refine z_aload_n (pc' := 9) C dX6_mend_8 rfl 0 rfl rfl ?_
  refine z_get (pc' := 12) C hU6 6 (by decide) q_o6 rfl 4 (by decide) (by decide +kernel) (v := .ref (G.2.1 39)) rfl dX6_mend_9 rfl ?_
  refine z_iload_n (pc' := 13) C dX6_mend_12 rfl 1 rfl rfl ?_
  refine z_zald (pc' := 14) C 39 (by decide) (N := 32) (i := j) (f := ia 32) q_i32 (by omega) (by decide) dX6_mend_13 rfl ?_
  refine z_if_ne (pc' := 17) C 21 dX6_mend_14 rfl rfl (fun h_14 => ?_) (fun h_14 => absurd h_14 (by exact h0))
  refine z_iload_n (pc' := 22) C dX6_mend_21 rfl 2 rfl rfl ?_
  refine z_iload_n (pc' := 23) C dX6_mend_22 rfl 3 rfl rfl ?_
  refine z_cS (n := 2) (pc' := 26) (As := [.int m, .int v]) (rest := []) C (c_X6_isGateB l G sc ia la m v false hg) gX6_mend_X6_isGate rfl rfl rfl (by decide +kernel) (by decide) rfl rfl dX6_mend_23 (Nat.le_of_ble_eq_true rfl) rfl (k_I ?_)
  show Z sc ia la [(0, .ref (G.2.1 6)), (1, .int (nI j)), (2, .int m), (3, .int v), (4, .int part)] 26 [.int 0]
  refine z_if_eq (pc' := 29) C 40 dX6_mend_26 rfl rfl (fun h_26 => ?_) (fun h_26 => absurd h_26 (by decide))
  refine z_ldc2 (v := -9000000000000000002) (pc' := 43) C (by decide +kernel) dX6_mend_40 rfl ?_
  exact z_lret (E := E) rfl dX6_mend_43 ⟨(congrArg (fun z => some (Value.long z)) rfl), rfl, rfl, rfl⟩

set_option maxHeartbeats 4000000 in
set_option maxRecDepth 100000 in
theorem c_X6_mend_part (l : Launch) (G : Gv) (sc : Sc) (ia : Ia) (la : La) (n : Nat) (hn : sc 7 = nI n) (hN : n ≤ 32) (h1 : 1 ≤ n) (j : Nat) (hj : j < n) (h0 : ¬ ia 32 j = 0) (m v part : Int32) (hg : s_gate m v = true) (ho : s_out part 0 1 = true)  : Ct l yX6_mend wsX6_mend ({ frames := 7, cells := 0, slots := 0, locals := 250 }) G [.ref (G.2.1 6), .int (nI j), .int m, .int v, .int part] sc ia la (fL (-9000000000000000002) sc ia la) := by
  have hU6 : ∀ w ∈ u_ws RX6 TX6 25, w ∈ wsX6_mend := fun w h => List.mem_cons_of_mem _ (List.mem_append_right _ h)
  refine z_of (maxL := 12) (own := RX6) [(0, .ref (G.2.1 6)), (1, .int (nI j)), (2, .int m), (3, .int v), (4, .int part)] rfl (by decide +kernel) rfl (Nat.le_of_ble_eq_true rfl) rfl (fun Z C E => ?_)
  refine z_aload_n (pc' := 1) C dX6_mend_0 rfl 0 rfl rfl ?_
  refine z_iload_n (pc' := 2) C dX6_mend_1 rfl 1 rfl rfl ?_
  refine z_cV (n := 1) (pc' := 5) (As := [.int (nI j)]) (rest := []) C 6 (c_X6_isPlace_ok l G sc ia la n hn hN h1 j hj) gX6_mend_X6_isPlace rfl rfl rfl rfl (by decide +kernel) (by decide) rfl (by decide) q_o6 rfl rfl dX6_mend_2 (Nat.le_of_ble_eq_true rfl) rfl (k_I ?_)
  show Z sc ia la [(0, .ref (G.2.1 6)), (1, .int (nI j)), (2, .int m), (3, .int v), (4, .int part)] 5 [.int 1]
  refine z_if_eq (pc' := 8) C 17 dX6_mend_5 rfl rfl (fun h_5 => absurd h_5 (by decide)) (fun h_5 => ?_)
  refine z_aload_n (pc' := 9) C dX6_mend_8 rfl 0 rfl rfl ?_
  refine z_get (pc' := 12) C hU6 6 (by decide) q_o6 rfl 4 (by decide) (by decide +kernel) (v := .ref (G.2.1 39)) rfl dX6_mend_9 rfl ?_
  refine z_iload_n (pc' := 13) C dX6_mend_12 rfl 1 rfl rfl ?_
  refine z_zald (pc' := 14) C 39 (by decide) (N := 32) (i := j) (f := ia 32) q_i32 (by omega) (by decide) dX6_mend_13 rfl ?_
  refine z_if_ne (pc' := 17) C 21 dX6_mend_14 rfl rfl (fun h_14 => ?_) (fun h_14 => absurd h_14 (by exact h0))
  refine z_iload_n (pc' := 22) C dX6_mend_21 rfl 2 rfl rfl ?_
  refine z_iload_n (pc' := 23) C dX6_mend_22 rfl 3 rfl rfl ?_
  refine z_cS (n := 2) (pc' := 26) (As := [.int m, .int v]) (rest := []) C (c_X6_isGateB l G sc ia la m v true hg) gX6_mend_X6_isGate rfl rfl rfl (by decide +kernel) (by decide) rfl rfl dX6_mend_23 (Nat.le_of_ble_eq_true rfl) rfl (k_I ?_)
  show Z sc ia la [(0, .ref (G.2.1 6)), (1, .int (nI j)), (2, .int m), (3, .int v), (4, .int part)] 26 [.int 1]
  refine z_if_eq (pc' := 29) C 40 dX6_mend_26 rfl rfl (fun h_26 => absurd h_26 (by decide)) (fun h_26 => ?_)
  refine z_iload (pc' := 31) C dX6_mend_29 4 rfl rfl ?_
  refine z_i2l (pc' := 32) C dX6_mend_31 rfl ?_
  refine z_lconst (v := 0) (pc' := 33) C dX6_mend_32 rfl rfl ?_
  refine z_lconst (v := 1) (pc' := 34) C dX6_mend_33 rfl rfl ?_
  refine z_cS (n := 3) (pc' := 37) (As := [.long part.toInt64, .long 0, .long 1]) (rest := []) C (c_X6_inB l G sc ia la part 0 1 0 1 rfl rfl false ho) gX6_mend_X6_in rfl rfl rfl (by decide +kernel) (by decide) rfl rfl dX6_mend_34 (Nat.le_of_ble_eq_true rfl) rfl (k_I ?_)
  show Z sc ia la [(0, .ref (G.2.1 6)), (1, .int (nI j)), (2, .int m), (3, .int v), (4, .int part)] 37 [.int 0]
  refine z_if_ne (pc' := 40) C 44 dX6_mend_37 rfl rfl (fun h_37 => absurd h_37 (by decide)) (fun h_37 => ?_)
  refine z_ldc2 (v := -9000000000000000002) (pc' := 43) C (by decide +kernel) dX6_mend_40 rfl ?_
  exact z_lret (E := E) rfl dX6_mend_43 ⟨(congrArg (fun z => some (Value.long z)) rfl), rfl, rfl, rfl⟩

set_option maxHeartbeats 4000000 in
set_option maxRecDepth 100000 in
theorem c_X6_mend_state (l : Launch) (G : Gv) (sc : Sc) (ia : Ia) (la : La) (n : Nat) (hn : sc 7 = nI n) (hN : n ≤ 32) (w : Nat) (hwe : s_cn (r_lt ia) n = w) (hW : w ≤ 5) (u : Nat → Nat) (hue : ∀ c, c < w → r_ul ia n c = nI (u c) ∧ u c < 32) (m v : Int32) (h : Nat) (hhe : s_cn (s_np m v) n = h) (LA : Nat → Int64) (hLA : r_tbl (la 32) ia n u w m v n = LA) (x : E3) (hx : r_el (ia 37) LA w h w = x) (hgood : r_allgood (ia 37) LA w h) (h1 : 1 ≤ n) (j : Nat) (hj : j < n) (h0 : ¬ ia 32 j = 0) (part : Int32) (hg : s_gate m v = true) (ho : s_out part 0 1 = false) (z : Int32) (hz : r_vd x w h = z) (hz1 : ¬ z = 1)  : Ct l yX6_mend wsX6_mend ({ frames := 7, cells := 0, slots := 0, locals := 250 }) G [.ref (G.2.1 6), .int (nI j), .int m, .int v, .int part] sc ia la (fL (-9000000000000000003) (va_up (va_up sc 9 (nI w)) 8 (nI h)) (va_up (va_up ia 36 (r_ul ia n)) 37 x.2.1) (va_up la 32 x.2.2)) := by
  have hU6 : ∀ w ∈ u_ws RX6 TX6 25, w ∈ wsX6_mend := fun w h => List.mem_cons_of_mem _ (List.mem_append_right _ h)
  refine z_of (maxL := 12) (own := RX6) [(0, .ref (G.2.1 6)), (1, .int (nI j)), (2, .int m), (3, .int v), (4, .int part)] rfl (by decide +kernel) rfl (Nat.le_of_ble_eq_true rfl) rfl (fun Z C E => ?_)
  refine z_aload_n (pc' := 1) C dX6_mend_0 rfl 0 rfl rfl ?_
  refine z_iload_n (pc' := 2) C dX6_mend_1 rfl 1 rfl rfl ?_
  refine z_cV (n := 1) (pc' := 5) (As := [.int (nI j)]) (rest := []) C 6 (c_X6_isPlace_ok l G sc ia la n hn hN h1 j hj) gX6_mend_X6_isPlace rfl rfl rfl rfl (by decide +kernel) (by decide) rfl (by decide) q_o6 rfl rfl dX6_mend_2 (Nat.le_of_ble_eq_true rfl) rfl (k_I ?_)
  show Z sc ia la [(0, .ref (G.2.1 6)), (1, .int (nI j)), (2, .int m), (3, .int v), (4, .int part)] 5 [.int 1]
  refine z_if_eq (pc' := 8) C 17 dX6_mend_5 rfl rfl (fun h_5 => absurd h_5 (by decide)) (fun h_5 => ?_)
  refine z_aload_n (pc' := 9) C dX6_mend_8 rfl 0 rfl rfl ?_
  refine z_get (pc' := 12) C hU6 6 (by decide) q_o6 rfl 4 (by decide) (by decide +kernel) (v := .ref (G.2.1 39)) rfl dX6_mend_9 rfl ?_
  refine z_iload_n (pc' := 13) C dX6_mend_12 rfl 1 rfl rfl ?_
  refine z_zald (pc' := 14) C 39 (by decide) (N := 32) (i := j) (f := ia 32) q_i32 (by omega) (by decide) dX6_mend_13 rfl ?_
  refine z_if_ne (pc' := 17) C 21 dX6_mend_14 rfl rfl (fun h_14 => ?_) (fun h_14 => absurd h_14 (by exact h0))
  refine z_iload_n (pc' := 22) C dX6_mend_21 rfl 2 rfl rfl ?_
  refine z_iload_n (pc' := 23) C dX6_mend_22 rfl 3 rfl rfl ?_
  refine z_cS (n := 2) (pc' := 26) (As := [.int m, .int v]) (rest := []) C (c_X6_isGateB l G sc ia la m v true hg) gX6_mend_X6_isGate rfl rfl rfl (by decide +kernel) (by decide) rfl rfl dX6_mend_23 (Nat.le_of_ble_eq_true rfl) rfl (k_I ?_)
  show Z sc ia la [(0, .ref (G.2.1 6)), (1, .int (nI j)), (2, .int m), (3, .int v), (4, .int part)] 26 [.int 1]
  refine z_if_eq (pc' := 29) C 40 dX6_mend_26 rfl rfl (fun h_26 => absurd h_26 (by decide)) (fun h_26 => ?_)
  refine z_iload (pc' := 31) C dX6_mend_29 4 rfl rfl ?_
  refine z_i2l (pc' := 32) C dX6_mend_31 rfl ?_
  refine z_lconst (v := 0) (pc' := 33) C dX6_mend_32 rfl rfl ?_
  refine z_lconst (v := 1) (pc' := 34) C dX6_mend_33 rfl rfl ?_
  refine z_cS (n := 3) (pc' := 37) (As := [.long part.toInt64, .long 0, .long 1]) (rest := []) C (c_X6_inB l G sc ia la part 0 1 0 1 rfl rfl true ho) gX6_mend_X6_in rfl rfl rfl (by decide +kernel) (by decide) rfl rfl dX6_mend_34 (Nat.le_of_ble_eq_true rfl) rfl (k_I ?_)
  show Z sc ia la [(0, .ref (G.2.1 6)), (1, .int (nI j)), (2, .int m), (3, .int v), (4, .int part)] 37 [.int 1]
  refine z_if_ne (pc' := 40) C 44 dX6_mend_37 rfl rfl (fun h_37 => ?_) (fun h_37 => absurd h_37 (by decide))
  refine z_aload_n (pc' := 45) C dX6_mend_44 rfl 0 rfl rfl ?_
  refine z_iload_n (pc' := 46) C dX6_mend_45 rfl 2 rfl rfl ?_
  refine z_iload_n (pc' := 47) C dX6_mend_46 rfl 3 rfl rfl ?_
  refine z_cV (n := 2) (pc' := 50) (As := [.int m, .int v]) (rest := []) C 6 (c_X6_solveB l G sc ia la n hn hN w hwe hW u hue m v h hhe LA hLA x hx hgood z hz) gX6_mend_X6_solve rfl rfl rfl rfl (by decide +kernel) (by decide) rfl (by decide) q_o6 rfl rfl dX6_mend_47 (Nat.le_of_ble_eq_true rfl) rfl (k_I ?_)
  show Z (va_up (va_up sc 9 (nI w)) 8 (nI h)) (va_up (va_up ia 36 (r_ul ia n)) 37 x.2.1) (va_up la 32 x.2.2) [(0, .ref (G.2.1 6)), (1, .int (nI j)), (2, .int m), (3, .int v), (4, .int part)] 50 [.int z]
  refine z_iconst (v := 1) (pc' := 51) C dX6_mend_50 rfl rfl ?_
  refine z_icmp_eq (pc' := 54) C 58 dX6_mend_51 rfl rfl (fun h_51 => absurd h_51 (by exact hz1)) (fun h_51 => ?_)
  refine z_ldc2 (v := -9000000000000000003) (pc' := 57) C (by decide +kernel) dX6_mend_54 rfl ?_
  exact z_lret (E := E) rfl dX6_mend_57 ⟨(congrArg (fun z => some (Value.long z)) rfl), rfl, rfl, rfl⟩

set_option maxHeartbeats 4000000 in
set_option maxRecDepth 100000 in
theorem c_X6_mend_ok (l : Launch) (G : Gv) (sc : Sc) (ia : Ia) (la : La) (n : Nat) (hn : sc 7 = nI n) (hN : n ≤ 32) (w : Nat) (hwe : s_cn (r_lt ia) n = w) (hW : w ≤ 5) (u : Nat → Nat) (hue : ∀ c, c < w → r_ul ia n c = nI (u c) ∧ u c < 32) (m v : Int32) (h : Nat) (hhe : s_cn (s_np m v) n = h) (LA : Nat → Int64) (hLA : r_tbl (la 32) ia n u w m v n = LA) (x : E3) (hx : r_el (ia 37) LA w h w = x) (hgood : r_allgood (ia 37) LA w h) (h1 : 1 ≤ n) (j : Nat) (hj : j < n) (h0 : ¬ ia 32 j = 0) (part : Int32) (hg : s_gate m v = true) (ho : s_out part 0 1 = false) (hz : r_vd x w h = 1) (c0 : Nat) (hc0 : c0 < w) (hu0 : u c0 = j) (hub : ∀ c, c < c0 → ¬ u c = j) (hst : x.2.1 c0 = nI c0) (p q : Nat) (hp : r_ab (x.2.2 (6 * c0 + 5)) = lN p) (hq : r_ab (x.2.2 (6 * c0 + c0)) = lN q) (hp6 : p < 2 ^ 62) (hq6 : q < 2 ^ 62) (hq0 : 0 < q)  : Ct l yX6_mend wsX6_mend ({ frames := 7, cells := 0, slots := 0, locals := 250 }) G [.ref (G.2.1 6), .int (nI j), .int m, .int v, .int part] sc ia la (fL (if part = 0 then x.2.2 (6 * c0 + 5) / (if 0 ≤ x.2.2 (6 * c0 + c0) then lN (Nat.gcd p q) else -(lN (Nat.gcd p q))) else x.2.2 (6 * c0 + c0) / (if 0 ≤ x.2.2 (6 * c0 + c0) then lN (Nat.gcd p q) else -(lN (Nat.gcd p q)))) (va_up (va_up sc 9 (nI w)) 8 (nI h)) (va_up (va_up ia 36 (r_ul ia n)) 37 x.2.1) (va_up la 32 x.2.2)) := by
  have hU6 : ∀ w ∈ u_ws RX6 TX6 25, w ∈ wsX6_mend := fun w h => List.mem_cons_of_mem _ (List.mem_append_right _ h)
  have hu9 : ∀ c, c ≤ c0 → u c < 32 := fun c hc => (hue c (by omega)).2
  have hj32 : j < 32 := by omega
  have hgp : 0 < Nat.gcd p q := Nat.gcd_pos_of_pos_right p hq0
  have hgl : Nat.gcd p q < 2 ^ 63 := Nat.lt_of_le_of_lt (Nat.gcd_le_right p hq0) (Nat.lt_trans hq6 (by decide))
  have hne1 : ¬ lN (Nat.gcd p q) = 0 := fun z9 => absurd ((pk_lEQ hgl (by decide)).mp (show lN (Nat.gcd p q) = lN 0 from z9)) (by omega)
  have hne2 : ¬ (if 0 ≤ x.2.2 (6 * c0 + c0) then lN (Nat.gcd p q) else -(lN (Nat.gcd p q))) = 0 := by split; exact hne1; exact fun z9 => hne1 (by have z8 := congrArg (fun t => -t) z9; simpa using z8)
  refine z_of (maxL := 12) (own := RX6) [(0, .ref (G.2.1 6)), (1, .int (nI j)), (2, .int m), (3, .int v), (4, .int part)] rfl (by decide +kernel) rfl (Nat.le_of_ble_eq_true rfl) rfl (fun Z C E => ?_)
  refine z_aload_n (pc' := 1) C dX6_mend_0 rfl 0 rfl rfl ?_
  refine z_iload_n (pc' := 2) C dX6_mend_1 rfl 1 rfl rfl ?_
  refine z_cV (n := 1) (pc' := 5) (As := [.int (nI j)]) (rest := []) C 6 (c_X6_isPlace_ok l G sc ia la n hn hN h1 j hj) gX6_mend_X6_isPlace rfl rfl rfl rfl (by decide +kernel) (by decide) rfl (by decide) q_o6 rfl rfl dX6_mend_2 (Nat.le_of_ble_eq_true rfl) rfl (k_I ?_)
  show Z sc ia la [(0, .ref (G.2.1 6)), (1, .int (nI j)), (2, .int m), (3, .int v), (4, .int part)] 5 [.int 1]
  refine z_if_eq (pc' := 8) C 17 dX6_mend_5 rfl rfl (fun h_5 => absurd h_5 (by decide)) (fun h_5 => ?_)
  refine z_aload_n (pc' := 9) C dX6_mend_8 rfl 0 rfl rfl ?_
  refine z_get (pc' := 12) C hU6 6 (by decide) q_o6 rfl 4 (by decide) (by decide +kernel) (v := .ref (G.2.1 39)) rfl dX6_mend_9 rfl ?_
  refine z_iload_n (pc' := 13) C dX6_mend_12 rfl 1 rfl rfl ?_
  refine z_zald (pc' := 14) C 39 (by decide) (N := 32) (i := j) (f := ia 32) q_i32 (by omega) (by decide) dX6_mend_13 rfl ?_
  refine z_if_ne (pc' := 17) C 21 dX6_mend_14 rfl rfl (fun h_14 => ?_) (fun h_14 => absurd h_14 (by exact h0))
  refine z_iload_n (pc' := 22) C dX6_mend_21 rfl 2 rfl rfl ?_
  refine z_iload_n (pc' := 23) C dX6_mend_22 rfl 3 rfl rfl ?_
  refine z_cS (n := 2) (pc' := 26) (As := [.int m, .int v]) (rest := []) C (c_X6_isGateB l G sc ia la m v true hg) gX6_mend_X6_isGate rfl rfl rfl (by decide +kernel) (by decide) rfl rfl dX6_mend_23 (Nat.le_of_ble_eq_true rfl) rfl (k_I ?_)
  show Z sc ia la [(0, .ref (G.2.1 6)), (1, .int (nI j)), (2, .int m), (3, .int v), (4, .int part)] 26 [.int 1]
  refine z_if_eq (pc' := 29) C 40 dX6_mend_26 rfl rfl (fun h_26 => absurd h_26 (by decide)) (fun h_26 => ?_)
  refine z_iload (pc' := 31) C dX6_mend_29 4 rfl rfl ?_
  refine z_i2l (pc' := 32) C dX6_mend_31 rfl ?_
  refine z_lconst (v := 0) (pc' := 33) C dX6_mend_32 rfl rfl ?_
  refine z_lconst (v := 1) (pc' := 34) C dX6_mend_33 rfl rfl ?_
  refine z_cS (n := 3) (pc' := 37) (As := [.long part.toInt64, .long 0, .long 1]) (rest := []) C (c_X6_inB l G sc ia la part 0 1 0 1 rfl rfl true ho) gX6_mend_X6_in rfl rfl rfl (by decide +kernel) (by decide) rfl rfl dX6_mend_34 (Nat.le_of_ble_eq_true rfl) rfl (k_I ?_)
  show Z sc ia la [(0, .ref (G.2.1 6)), (1, .int (nI j)), (2, .int m), (3, .int v), (4, .int part)] 37 [.int 1]
  refine z_if_ne (pc' := 40) C 44 dX6_mend_37 rfl rfl (fun h_37 => ?_) (fun h_37 => absurd h_37 (by decide))
  refine z_aload_n (pc' := 45) C dX6_mend_44 rfl 0 rfl rfl ?_
  refine z_iload_n (pc' := 46) C dX6_mend_45 rfl 2 rfl rfl ?_
  refine z_iload_n (pc' := 47) C dX6_mend_46 rfl 3 rfl rfl ?_
  refine z_cV (n := 2) (pc' := 50) (As := [.int m, .int v]) (rest := []) C 6 (c_X6_solveB l G sc ia la n hn hN w hwe hW u hue m v h hhe LA hLA x hx hgood 1 hz) gX6_mend_X6_solve rfl rfl rfl rfl (by decide +kernel) (by decide) rfl (by decide) q_o6 rfl rfl dX6_mend_47 (Nat.le_of_ble_eq_true rfl) rfl (k_I ?_)
  show Z (va_up (va_up sc 9 (nI w)) 8 (nI h)) (va_up (va_up ia 36 (r_ul ia n)) 37 x.2.1) (va_up la 32 x.2.2) [(0, .ref (G.2.1 6)), (1, .int (nI j)), (2, .int m), (3, .int v), (4, .int part)] 50 [.int 1]
  refine z_iconst (v := 1) (pc' := 51) C dX6_mend_50 rfl rfl ?_
  refine z_icmpN_eq (a := 1) (b := 1) (pc' := 54) C 58 (by omega) (by omega) dX6_mend_51 rfl rfl (fun h_51 => ?_) (fun h_51 => absurd h_51 (by decide))
  refine z_iconst (v := 0) (pc' := 59) C dX6_mend_58 rfl rfl ?_
  refine z_istore (lv' := [(5, .int 0), (0, .ref (G.2.1 6)), (1, .int (nI j)), (2, .int m), (3, .int v), (4, .int part)]) (pc' := 61) C dX6_mend_59 (by decide) rfl rfl ?_
  have L61 : ∀ (fuel : Nat) (c : Nat) (hc : c ≤ c0), c0 - c < fuel → Z (va_up (va_up sc 9 (nI w)) 8 (nI h)) (va_up (va_up ia 36 (r_ul ia n)) 37 x.2.1) (va_up la 32 x.2.2) [(5, .int (nI c)), (0, .ref (G.2.1 6)), (1, .int (nI j)), (4, .int part)] 61 [] := by
    intro fuel
    induction fuel with
    | zero => intro c hc hm61; exact absurd hm61 (Nat.not_lt_zero _)
    | succ fuel ih61 =>
      intro c hc hm61
      have hu8 := hu9 c hc
      refine z_aload_n (pc' := 62) C dX6_mend_61 rfl 1 rfl rfl ?_
      refine z_get (pc' := 65) C hU6 6 (by decide) q_o6 rfl 10 (by decide) (by decide +kernel) (v := .ref (G.2.1 43)) rfl dX6_mend_62 rfl ?_
      refine z_iload (pc' := 67) C dX6_mend_65 0 rfl rfl ?_
      refine z_iald (pc' := 68) C 43 (by decide) (N := 5) (i := c) (f := r_ul ia n) q_i36 (by omega) (by decide) dX6_mend_67 rfl ?_
      refine z_cast (st' := [.int (nI (u c))]) rfl rfl rfl rfl (congrArg (fun z => Value.int z :: []) (hue c (by omega)).1) ?_
      refine z_iload_n (pc' := 69) C dX6_mend_68 rfl 2 rfl rfl ?_
      refine z_icmpN_eq (a := u c) (b := j) (pc' := 72) C 78 (by omega) (by omega) dX6_mend_69 rfl rfl (fun h_69 => ?_) (fun h_69 => ?_)
      · have e7 : c = c0 := (by rcases Nat.lt_or_ge c c0 with z9 | z9; (exact absurd h_69 (hub c z9)); omega)
        have hst9 : x.2.1 c = nI c := (by rw [e7]; exact hst)
        have hp9 : r_ab (x.2.2 (6 * c + 5)) = lN p := (by rw [e7]; exact hp)
        have hq9 : r_ab (x.2.2 (6 * c + c)) = lN q := (by rw [e7]; exact hq)
        have hne9 : ¬ (if 0 ≤ x.2.2 (6 * c + c) then lN (Nat.gcd p q) else -(lN (Nat.gcd p q))) = 0 := (by rw [e7]; exact hne2)
        refine z_aload_n (pc' := 79) C dX6_mend_78 rfl 1 rfl rfl ?_
        refine z_get (pc' := 82) C hU6 6 (by decide) q_o6 rfl 8 (by decide) (by decide +kernel) (v := .ref (G.2.1 85)) rfl dX6_mend_79 rfl ?_
        refine z_bipush (v := 6) (pc' := 84) C dX6_mend_82 rfl rfl ?_
        refine z_aload_n (pc' := 85) C dX6_mend_84 rfl 1 rfl rfl ?_
        refine z_get (pc' := 88) C hU6 6 (by decide) q_o6 rfl 12 (by decide) (by decide +kernel) (v := .ref (G.2.1 44)) rfl dX6_mend_85 rfl ?_
        refine z_iload (pc' := 90) C dX6_mend_88 0 rfl rfl ?_
        refine z_iald (pc' := 91) C 44 (by decide) (N := 5) (i := c) (f := x.2.1) q_i37 (by omega) (by decide) dX6_mend_90 rfl ?_
        refine z_cast (st' := [.int (nI c), .int 6, .ref (G.2.1 85)]) rfl rfl rfl rfl (congrArg (fun z => Value.int z :: [.int 6, .ref (G.2.1 85)]) hst9) ?_
        refine z_imul (pc' := 92) C dX6_mend_91 rfl ?_
        refine z_cast (st' := [.int (nI (6 * c)), .ref (G.2.1 85)]) rfl rfl rfl rfl (congrArg (fun z => Value.int z :: [.ref (G.2.1 85)]) (pk_mul _ _)) ?_
        refine z_iload (pc' := 94) C dX6_mend_92 0 rfl rfl ?_
        refine z_iadd (pc' := 95) C dX6_mend_94 rfl ?_
        refine z_cast (st' := [.int (nI (6 * c + c)), .ref (G.2.1 85)]) rfl rfl rfl rfl (congrArg (fun z => Value.int z :: [.ref (G.2.1 85)]) (nI_add _ _)) ?_
        refine z_lald (pc' := 96) C 85 (by decide) (N := 192) (i := 6 * c + c) (f := x.2.2) q_l32 (by omega) (by decide) dX6_mend_95 rfl ?_
        refine z_lstore (lv' := [(6, .long (x.2.2 (6 * c + c))), (5, .int (nI c)), (0, .ref (G.2.1 6)), (1, .int (nI j)), (4, .int part)]) (pc' := 98) C dX6_mend_96 (by decide) rfl rfl ?_
        refine z_aload_n (pc' := 99) C dX6_mend_98 rfl 2 rfl rfl ?_
        refine z_get (pc' := 102) C hU6 6 (by decide) q_o6 rfl 8 (by decide) (by decide +kernel) (v := .ref (G.2.1 85)) rfl dX6_mend_99 rfl ?_
        refine z_bipush (v := 6) (pc' := 104) C dX6_mend_102 rfl rfl ?_
        refine z_aload_n (pc' := 105) C dX6_mend_104 rfl 2 rfl rfl ?_
        refine z_get (pc' := 108) C hU6 6 (by decide) q_o6 rfl 12 (by decide) (by decide +kernel) (v := .ref (G.2.1 44)) rfl dX6_mend_105 rfl ?_
        refine z_iload (pc' := 110) C dX6_mend_108 1 rfl rfl ?_
        refine z_iald (pc' := 111) C 44 (by decide) (N := 5) (i := c) (f := x.2.1) q_i37 (by omega) (by decide) dX6_mend_110 rfl ?_
        refine z_cast (st' := [.int (nI c), .int 6, .ref (G.2.1 85)]) rfl rfl rfl rfl (congrArg (fun z => Value.int z :: [.int 6, .ref (G.2.1 85)]) hst9) ?_
        refine z_imul (pc' := 112) C dX6_mend_111 rfl ?_
        refine z_cast (st' := [.int (nI (6 * c)), .ref (G.2.1 85)]) rfl rfl rfl rfl (congrArg (fun z => Value.int z :: [.ref (G.2.1 85)]) (pk_mul _ _)) ?_
        refine z_iconst (v := 5) (pc' := 113) C dX6_mend_112 rfl rfl ?_
        refine z_iadd (pc' := 114) C dX6_mend_113 rfl ?_
        refine z_cast (st' := [.int (nI (6 * c + 5)), .ref (G.2.1 85)]) rfl rfl rfl rfl (congrArg (fun z => Value.int z :: [.ref (G.2.1 85)]) (nI_add _ _)) ?_
        refine z_lald (pc' := 115) C 85 (by decide) (N := 192) (i := 6 * c + 5) (f := x.2.2) q_l32 (by omega) (by decide) dX6_mend_114 rfl ?_
        refine z_lstore (lv' := [(8, .long (x.2.2 (6 * c + 5))), (6, .long (x.2.2 (6 * c + c))), (5, .int (nI c)), (0, .ref (G.2.1 6)), (1, .int (nI j)), (4, .int part)]) (pc' := 117) C dX6_mend_115 (by decide) rfl rfl ?_
        refine z_lload (pc' := 119) C dX6_mend_117 0 rfl rfl ?_
        refine z_lload (pc' := 121) C dX6_mend_119 1 rfl rfl ?_
        refine z_cS (n := 2) (pc' := 124) (As := [.long (x.2.2 (6 * c + 5)), .long (x.2.2 (6 * c + c))]) (rest := []) C (c_X6_common l G (va_up (va_up sc 9 (nI w)) 8 (nI h)) (va_up (va_up ia 36 (r_ul ia n)) 37 x.2.1) (va_up la 32 x.2.2) (x.2.2 (6 * c + 5)) (x.2.2 (6 * c + c)) p q hp9 hq9 (Nat.lt_trans hp6 (by decide)) (Nat.lt_trans hq6 (by decide))) gX6_mend_X6_common rfl rfl rfl (by decide +kernel) (by decide) rfl rfl dX6_mend_121 (Nat.le_of_ble_eq_true rfl) rfl (k_L ?_)
        show Z (va_up (va_up sc 9 (nI w)) 8 (nI h)) (va_up (va_up ia 36 (r_ul ia n)) 37 x.2.1) (va_up la 32 x.2.2) [(8, .long (x.2.2 (6 * c + 5))), (6, .long (x.2.2 (6 * c + c))), (5, .int (nI c)), (0, .ref (G.2.1 6)), (1, .int (nI j)), (4, .int part)] 124 [.long (lN (Nat.gcd p q))]
        refine z_lstore (lv' := [(10, .long (lN (Nat.gcd p q))), (8, .long (x.2.2 (6 * c + 5))), (6, .long (x.2.2 (6 * c + c))), (5, .int (nI c)), (0, .ref (G.2.1 6)), (1, .int (nI j)), (4, .int part)]) (pc' := 126) C dX6_mend_124 (by decide) rfl rfl ?_
        refine z_lload (pc' := 128) C dX6_mend_126 2 rfl rfl ?_
        refine z_lconst (v := 0) (pc' := 129) C dX6_mend_128 rfl rfl ?_
        refine z_lcmp (pc' := 130) C dX6_mend_129 rfl ?_
        have J141 : Z (va_up (va_up sc 9 (nI w)) 8 (nI h)) (va_up (va_up ia 36 (r_ul ia n)) 37 x.2.1) (va_up la 32 x.2.2) [(10, .long (lN (Nat.gcd p q))), (8, .long (x.2.2 (6 * c + 5))), (6, .long (x.2.2 (6 * c + c))), (5, .int (nI c)), (0, .ref (G.2.1 6)), (1, .int (nI j)), (4, .int part)] 141 [.long (if 0 ≤ x.2.2 (6 * c + c) then lN (Nat.gcd p q) else -(lN (Nat.gcd p q)))] := by
          refine z_lstore (lv' := [(10, .long (if 0 ≤ x.2.2 (6 * c + c) then lN (Nat.gcd p q) else -(lN (Nat.gcd p q)))), (8, .long (x.2.2 (6 * c + 5))), (6, .long (x.2.2 (6 * c + c))), (5, .int (nI c)), (0, .ref (G.2.1 6)), (1, .int (nI j)), (4, .int part)]) (pc' := 143) C dX6_mend_141 (by decide) rfl rfl ?_
          refine z_iload (pc' := 145) C dX6_mend_143 6 rfl rfl ?_
          refine z_if_ne (pc' := 148) C 156 dX6_mend_145 rfl rfl (fun h_145 => ?_) (fun h_145 => ?_)
          · refine z_lload (pc' := 158) C dX6_mend_156 2 rfl rfl ?_
            refine z_lload (pc' := 160) C dX6_mend_158 0 rfl rfl ?_
            refine z_ldiv (pc' := 161) C dX6_mend_160 (hne9) rfl ?_
            exact z_lret (E := E) rfl dX6_mend_161 ⟨(congrArg (fun z => some (Value.long z)) (show _ = _ from (by first | rfl | (subst e7; simp [h_145])))), rfl, rfl, rfl⟩
          · refine z_lload (pc' := 150) C dX6_mend_148 1 rfl rfl ?_
            refine z_lload (pc' := 152) C dX6_mend_150 0 rfl rfl ?_
            refine z_ldiv (pc' := 153) C dX6_mend_152 (hne9) rfl ?_
            refine z_goto (pc' := 161) C dX6_mend_153 rfl ?_
            exact z_lret (E := E) rfl dX6_mend_161 ⟨(congrArg (fun z => some (Value.long z)) (show _ = _ from (by first | rfl | (subst e7; simp [h_145])))), rfl, rfl, rfl⟩
        refine z_if_ge (pc' := 133) C 139 dX6_mend_130 rfl rfl (fun h_130 => ?_) (fun h_130 => ?_)
        · refine z_lload (pc' := 141) C dX6_mend_139 0 rfl rfl ?_
          exact z_cast rfl rfl rfl rfl (by first | rfl | (rw [lg_cmp_ge] at h_130; simp [h_130])) J141
        · refine z_lload (pc' := 135) C dX6_mend_133 0 rfl rfl ?_
          refine z_lneg (pc' := 136) C dX6_mend_135 rfl ?_
          refine z_goto (pc' := 141) C dX6_mend_136 rfl ?_
          exact z_cast rfl rfl rfl rfl (by first | rfl | (rw [lg_cmp_ge] at h_130; simp [h_130])) J141
      · refine z_iinc (v := nI (c + 1)) (k9 := 0) (lv' := [(5, .int (nI (c + 1))), (0, .ref (G.2.1 6)), (1, .int (nI j)), (4, .int part)]) (pc' := 75) C dX6_mend_72 rfl (nI_1 c) (by decide) rfl rfl ?_
        refine z_goto (pc' := 61) C dX6_mend_75 rfl ?_
        exact z_cast rfl rfl rfl rfl rfl (ih61 (c + 1) (by rcases Nat.lt_or_ge c c0 with z9 | z9; omega; exact absurd (show u c = j from (by rw [show c = c0 by omega]; exact hu0)) h_69) (by rcases Nat.lt_or_ge c c0 with z9 | z9; omega; exact absurd (show u c = j from (by rw [show c = c0 by omega]; exact hu0)) h_69))
  refine z_sub (lv' := [(5, .int 0), (0, .ref (G.2.1 6)), (1, .int (nI j)), (4, .int part)]) C [0, 1, 2, 5] rfl ?_
  exact z_cast rfl rfl rfl rfl rfl (L61 (_ + 1) 0 (by omega) (Nat.lt_succ_self _))

