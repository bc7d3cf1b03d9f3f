
theorem Met_ofWF {l : Launch} {y : MethodName} {ws ws' : List Cond} {rm : Room} {Pc : Array Value → State → Prop} {Qc : Array Value → State → Outcome → State → Prop} {mc ms : Nat} {free : Addr → Prop} {cc : ByteArray} {maxL : Nat} {ret : Option FieldType}
    (hy : plainFor y = true) (hw : ws = Cond.code y cc maxL ret :: ws')
    (body : ∀ p e s m args below meth c s₁, BodyLoose p l y (headSpec ws rm) cc maxL ret e s m args below meth c s₁ → c.maxLocals = maxL → Pc args s →
      W p l e (headSpec ws rm).room s m args below meth c s.heap [] 0 0 (MQ below Qc args s mc ms free) (entryFrame m args maxL)) : Met l y ws rm Pc Qc mc ms free := by
  refine MetFree.of_bodySF (code := cc) (maxLocals := maxL) (ret := ret) hy ?_ ?_
  · intro args s m h hn
    obtain ⟨meth, c, h1, h2, h3, h4, h5, h6, -, -⟩ := Cond.code_spec hn (atoms_spec (ws := ws) h _ (by rw [hw]; exact List.mem_cons_self))
    exact ⟨meth, c, h1, h2, h3, h4, h5, h6⟩
  · intro p e s m args below meth c s₁ B hml hP _
    have hh0 : s₁.heap = s.heap := by rw [B.state]; rfl
    obtain ⟨t, a1, o, b1, b2, b3⟩ := body p e s m args below meth c s₁ B hml hP s₁ hh0 (Stand.of_body B)
    exact ⟨t, o, a1, b1, b2, ⟨b3.1, b3.2⟩⟩
theorem z_ofF {l : Launch} {y : MethodName} {ws ws' : List Cond} {rm : Room} {G : Gv} {av : List Value} {sc : Sc} {ia : Ia} {la : La} {Fn : FinT} {cc : ByteArray} {maxL : Nat} {ret : Option FieldType} {own : String} (lv : List (Nat × Value)) (hw : ws = Cond.code y cc maxL ret :: ws') (hy : plainFor y = true) (ho : y.cls = own) (hlen : (lg_sl av).length ≤ maxL) (hlv : lv_args 0 av = lv) (body : ∀ Z : ZT, CC Z cc ws own G maxL rm l → CE Z cc Fn ret → Z sc ia la lv 0 []) : Ct l y ws rm G av sc ia la Fn := by
  subst hlv
  subst ho
  refine Met_ofWF (cc := cc) (maxL := maxL) (ret := ret) hy hw ?_
  intro p e s m args below meth c s₁ B hml hv
  obtain ⟨rfl, hP, hK, hJ, hN⟩ := hv
  have hx := B.exec
  have hb := B.bytes
  have hr := B.returns
  have hts := atoms_spec (ws := ws) B.pre
  have hown : s.vm.findClass y.cls = some m.cls := findClass_of_methodNamed B.named
  have hlocks := B.notSynchronized
  rw [lg_entry_eq]
  refine body (qJ p l e rm s m av.toArray below meth c 0 0 (MQ below (q_Q G Fn) av.toArray s 0 0 (qA G.2.1)) G maxL) ⟨p, e, s, m, _, below, meth, c, 0, 0, _, rfl, hx, hb, hml, hown, hts, hK, hJ, hN, Nat.zero_le _, Nat.zero_le _⟩ ⟨?_, ?_, ?_⟩ s.heap [] _ hP va_S.rf (lv_entry av hlen)
  · intro ty sc ia la lv pc v hret hdg hn hF H locs ls hP hS hl
    exact W.zret (v := v) (ty := ty) hx hb (by rw [hr]; exact hret) hn (fun t ht hW => ⟨⟨_, sc, ia, la, rfl, hF, InW.moved hK hJ hN hP ht hW⟩, hS.F ht⟩) hS.2.2 hdg
  · intro sc ia la lv pc v hret hdg hF H locs ls hP hS hl
    exact W.lret (v := v) hx hb (by rw [hr]; exact hret) (fun t ht hW => ⟨⟨_, sc, ia, la, rfl, hF, InW.moved hK hJ hN hP ht hW⟩, hS.F ht⟩) hS.2.2 hdg
  · intro sc ia la lv pc hret hdg hF H locs ls hP hS hl
    exact W.vret hx hb (by rw [hr]; exact hret) (fun t ht hW => ⟨⟨_, sc, ia, la, rfl, hF, InW.moved hK hJ hN hP ht hW⟩, hS.F ht⟩) hS.2.2 hdg
def s_dq (f : Nat → Int32) : Nat → Int64
  | 0 => 0
  | k + 1 => s_dq f k + (f k).toInt64 * (f k).toInt64
def s_gr (f : Nat → Int32) : Nat → Int32
  | 0 => 0
  | k + 1 => if s_gr f k < f k then f k else s_gr f k
def s_df (f : Nat → Int32) (h : Int64) : Nat → Int64
  | 0 => h
  | k + 1 => s_fo (s_df f h k) (f k).toInt64
def s_fd (x y : Int32) : Int32 := if 0 ≤ x ^^^ y then x / y else if x / y * y = x then x / y else x / y - 1
def s_hold (r c R C : Int32) : Bool := !decide (r < 0) && !decide (R < r) && !decide (c < 0) && !decide (C < c) && (decide (r < R) || !decide (C ≤ c))
def s_clo (ia : Ia) (R a b : Nat) : Int32 := ia (10 + a) b - s_fd ((ia (10 + R) b - ia 10 b) * nI a) (nI R)
def s_tie (ia : Ia) (C a b : Nat) : Int32 := ia (10 + a) b + ia (10 + a) C - ia (10 + a) 0
def s_sfc (ia : Ia) (r : Nat) (h : Int64) : Nat → Int64
  | 0 => h
  | c + 1 => s_fo (s_sfc ia r h c) (ia (10 + r) c).toInt64
def s_sfr (ia : Ia) (C : Nat) (h : Int64) : Nat → Int64
  | 0 => h
  | r + 1 => s_sfc ia r (s_sfr ia C h r) C
def s_sft (ia : Ia) (C : Nat) (h : Int64) : Nat → Int64
  | 0 => h
  | r + 1 => s_fo (s_sft ia C h r) (ia (10 + r) C).toInt64
def s_sf (ia : Ia) (R C : Nat) (h : Int64) : Int64 := s_sft ia C (s_sfr ia C (s_fo (s_fo h (nI R).toInt64) (nI C).toInt64) (R + 1)) R
def s_put (ia : Ia) (a b : Nat) (F V : Int32) : Ia :=
  let i1 : Ia := va_up ia (19 + a) (upd (ia (19 + a)) b F)
  let i2 : Ia := va_up i1 (19 + b) (upd (i1 (19 + b)) a F)
  let i3 : Ia := va_up i2 (24 + a) (upd (i2 (24 + a)) b V)
  va_up i3 (24 + b) (upd (i3 (24 + b)) a V)
def s_wh (ia : Ia) (a b c : Nat) : Bool := decide (ia (19 + a) b = 1) && decide (ia (19 + a) c = 1) && decide (ia (19 + b) c = 1)
def s_ga (ia : Ia) (a b c : Nat) : Int32 := ia (24 + a) b + ia (24 + a) c - ia (24 + b) c
def s_g1 (ia : Ia) (m a b : Nat) : Option Nat := s_fi (fun d => s_wh ia a b (b + 1 + d)) (m - (b + 1))
def s_fg (ia : Ia) (m a : Nat) : Int32 := match s_fi (fun b => (s_g1 ia m a b).isSome) m with
  | none => -1000003
  | some b => match s_g1 ia m a b with
    | none => -1000003
    | some d => s_ga ia a b (b + 1 + d)
def s_sp1 (ia : Ia) (a b c : Nat) (x : Int32 × Int32 × Int32) : Int32 × Int32 × Int32 := if s_wh ia a b c = true then (1, (if x.1 = 0 then s_ga ia a b c else if s_ga ia a b c < x.2.1 then s_ga ia a b c else x.2.1), (if x.1 = 0 then s_ga ia a b c else if x.2.2 < s_ga ia a b c then s_ga ia a b c else x.2.2)) else x
def s_spi (ia : Ia) (a b : Nat) (x : Int32 × Int32 × Int32) : Nat → Int32 × Int32 × Int32
  | 0 => x
  | d + 1 => s_sp1 ia a b (b + 1 + d) (s_spi ia a b x d)
def s_spo (ia : Ia) (m a : Nat) : Nat → Int32 × Int32 × Int32
  | 0 => (0, 0, 0)
  | b + 1 => s_spi ia a b (s_spo ia m a b) (m - (b + 1))
def s_spr (ia : Ia) (m a : Nat) : Int32 := if (s_spo ia m a m).1 = 0 then -1 else (s_spo ia m a m).2.2 - (s_spo ia m a m).2.1
def s_cki (ia : Ia) (a : Nat) (x : Int32) : Nat → Int32
  | 0 => x
  | d + 1 => s_cki ia a x d + ia (19 + a) (a + 1 + d)
def s_cko (ia : Ia) (m : Nat) : Nat → Int32
  | 0 => 0
  | a + 1 => s_cki ia a (s_cko ia m a) (m - (a + 1))
def s_pfi (ia : Ia) (a : Nat) (h : Int64) : Nat → Int64
  | 0 => h
  | d + 1 => s_fk (s_pfi ia a h d) (bI (decide (ia (19 + a) (a + 1 + d) = 1))) (ia (24 + a) (a + 1 + d))
def s_pfo (ia : Ia) (m : Nat) (h : Int64) : Nat → Int64
  | 0 => h
  | a + 1 => s_pfi ia a (s_pfo ia m h a) (m - (a + 1))
def s_b (t : Nat) : Int32 := match t with
  | 0 => -1
  | b + 1 => nI b
theorem s_b_pos {x : Int32} {t : Nat} (hx : x = s_b t) (h : ¬ x < 0) : ∃ b, t = b + 1 ∧ x = nI b ∧ x + (-1) = s_b b := by
  cases t with
  | zero => rw [hx] at h; exact absurd (by decide) h
  | succ b =>
    refine ⟨b, rfl, hx, ?_⟩
    rw [hx]
    cases b with
    | zero => decide
    | succ c => exact pk_m1 c
def s_rt (sq : Int64) : Nat → Int64 → Int64
  | 0, b => b
  | t + 1, b => s_rt sq t (if sq ≤ (b + (1 <<< ((nI t).toInt64 &&& 63))) * (b + (1 <<< ((nI t).toInt64 &&& 63))) then b else b + (1 <<< ((nI t).toInt64 &&& 63)))
def s_ru (sq : Int64) : Int32 := if 0 < sq then (s_rt sq 17 0 + 1).toInt32 else 0

set_option maxHeartbeats 4000000 in
set_option maxRecDepth 100000 in
theorem c_X0_add (l : Launch) (G : Gv) (sc : Sc) (ia : Ia) (la : La) (d : Nat) (hd : sc 6 = nI d) (hD : d < 18) (v : Int32)  : Ct l yX0_add wsX0_add ({ frames := 0, cells := 0, slots := 0, locals := 0 }) G [.ref (G.2.1 0), .int v] sc ia la (fV (va_up sc 6 (nI (d + 1))) (va_up ia 9 (upd (ia 9) d v)) la) := by
  have hU0 : ∀ w ∈ u_ws RX0 TX0 2, w ∈ wsX0_add := fun w h => List.mem_cons_of_mem _ (List.mem_append_right _ h)
  refine z_of (maxL := 2) (own := RX0) [(0, .ref (G.2.1 0)), (1, .int v)] rfl (by decide +kernel) rfl (Nat.le_of_ble_eq_true rfl) rfl (fun Z C E => ?_)
  refine z_aload_n (pc' := 1) C dX0_add_0 rfl 0 rfl rfl ?_
  refine z_get (pc' := 4) C hU0 0 (by decide) q_o0 rfl 0 (by decide) (by decide +kernel) (v := .int (sc 6)) rfl dX0_add_1 rfl ?_
  refine z_cast (st' := [.int (nI d)]) rfl rfl rfl rfl (congrArg (fun z => Value.int z :: []) hd) ?_
  refine z_if_lt (pc' := 7) C 36 dX0_add_4 rfl rfl (fun h_4 => absurd h_4 (by exact nI_pos (by omega))) (fun h_4 => ?_)
  refine z_aload_n (pc' := 8) C dX0_add_7 rfl 0 rfl rfl ?_
  refine z_get (pc' := 11) C hU0 0 (by decide) q_o0 rfl 0 (by decide) (by decide +kernel) (v := .int (sc 6)) rfl dX0_add_8 rfl ?_
  refine z_cast (st' := [.int (nI d)]) rfl rfl rfl rfl (congrArg (fun z => Value.int z :: []) hd) ?_
  refine z_bipush (v := 18) (pc' := 13) C dX0_add_11 rfl rfl ?_
  refine z_icmpN_ge (a := d) (b := 18) (pc' := 16) C 36 (by omega) (by omega) dX0_add_13 rfl rfl (fun h_13 => absurd h_13 (by omega)) (fun h_13 => ?_)
  refine z_aload_n (pc' := 17) C dX0_add_16 rfl 0 rfl rfl ?_
  refine z_get (pc' := 20) C hU0 0 (by decide) q_o0 rfl 1 (by decide) (by decide +kernel) (v := .ref (G.2.1 16)) rfl dX0_add_17 rfl ?_
  refine z_aload_n (pc' := 21) C dX0_add_20 rfl 0 rfl rfl ?_
  refine z_get (pc' := 24) C hU0 0 (by decide) q_o0 rfl 0 (by decide) (by decide +kernel) (v := .int (sc 6)) rfl dX0_add_21 rfl ?_
  refine z_cast (st' := [.int (nI d), .ref (G.2.1 16)]) rfl rfl rfl rfl (congrArg (fun z => Value.int z :: [.ref (G.2.1 16)]) hd) ?_
  refine z_iload_n (pc' := 25) C dX0_add_24 rfl 1 rfl rfl ?_
  refine z_iast (pc' := 26) C 16 (by decide) (N := 18) (i := d) (f := ia 9) q_i9 (by omega) (by decide) (q_u9 _) dX0_add_25 rfl ?_
  refine z_aload_n (pc' := 27) C dX0_add_26 rfl 0 rfl rfl ?_
  refine z_dup (pc' := 28) C dX0_add_27 rfl rfl ?_
  refine z_get (pc' := 31) C hU0 0 (by decide) q_o0 rfl 0 (by decide) (by decide +kernel) (v := .int (sc 6)) rfl dX0_add_28 rfl ?_
  refine z_cast (st' := [.int (nI d), .ref (G.2.1 0)]) rfl rfl rfl rfl (congrArg (fun z => Value.int z :: [.ref (G.2.1 0)]) hd) ?_
  refine z_iconst (v := 1) (pc' := 32) C dX0_add_31 rfl rfl ?_
  refine z_iadd (pc' := 33) C dX0_add_32 rfl ?_
  refine z_cast (st' := [.int (nI (d + 1)), .ref (G.2.1 0)]) rfl rfl rfl rfl (congrArg (fun z => Value.int z :: [.ref (G.2.1 0)]) (nI_add _ _)) ?_
  refine z_put (pc' := 36) C hU0 tyX0 tyX0_ok nmX0 0 (by decide) q_o0 rfl 0 (by decide) (by decide +kernel) rfl rfl (Nat.le_of_ble_eq_true rfl) (q_s6 _) dX0_add_33 rfl ?_
  exact z_vret (E := E) rfl dX0_add_36 ⟨rfl, rfl, rfl, rfl⟩

set_option maxHeartbeats 4000000 in
set_option maxRecDepth 100000 in
theorem c_X0_sum (l : Launch) (G : Gv) (sc : Sc) (ia : Ia) (la : La) (d : Nat) (hd : sc 6 = nI d) (hD : d ≤ 18)  : Ct l yX0_sum wsX0_sum ({ frames := 0, cells := 0, slots := 0, locals := 0 }) G [.ref (G.2.1 0)] sc ia la (fI (bx_sum (ia 9) d) sc ia la) := by
  have hU0 : ∀ w ∈ u_ws RX0 TX0 2, w ∈ wsX0_sum := fun w h => List.mem_cons_of_mem _ (List.mem_append_right _ h)
  refine z_of (maxL := 3) (own := RX0) [(0, .ref (G.2.1 0))] rfl (by decide +kernel) rfl (Nat.le_of_ble_eq_true rfl) rfl (fun Z C E => ?_)
  refine z_iconst (v := 0) (pc' := 1) C dX0_sum_0 rfl rfl ?_
  refine z_istore_n (lv' := [(1, .int 0), (0, .ref (G.2.1 0))]) (pc' := 2) C dX0_sum_1 rfl (by decide) rfl rfl ?_
  refine z_iconst (v := 0) (pc' := 3) C dX0_sum_2 rfl rfl ?_
  refine z_istore_n (lv' := [(2, .int 0), (1, .int 0), (0, .ref (G.2.1 0))]) (pc' := 4) C dX0_sum_3 rfl (by decide) rfl rfl ?_
  have L4 : ∀ (fuel : Nat) (k : Nat) (hk : k ≤ d), d - k < fuel → Z sc ia la [(2, .int (nI k)), (1, .int (bx_sum (ia 9) k)), (0, .ref (G.2.1 0))] 4 [] := by
    intro fuel
    induction fuel with
    | zero => intro k hk hm4; exact absurd hm4 (Nat.not_lt_zero _)
    | succ fuel ih4 =>
      intro k hk hm4
      refine z_iload_n (pc' := 5) C dX0_sum_4 rfl 0 rfl rfl ?_
      refine z_aload_n (pc' := 6) C dX0_sum_5 rfl 2 rfl rfl ?_
      refine z_get (pc' := 9) C hU0 0 (by decide) q_o0 rfl 0 (by decide) (by decide +kernel) (v := .int (sc 6)) rfl dX0_sum_6 rfl ?_
      refine z_cast (st' := [.int (nI d), .int (nI k)]) rfl rfl rfl rfl (congrArg (fun z => Value.int z :: [.int (nI k)]) hd) ?_
      refine z_icmpN_ge (a := k) (b := d) (pc' := 12) C 27 (by omega) (by omega) dX0_sum_9 rfl rfl (fun h_9 => ?_) (fun h_9 => ?_)
      · refine z_iload_n (pc' := 28) C dX0_sum_27 rfl 1 rfl rfl ?_
        exact z_iret (E := E) rfl dX0_sum_28 ⟨(congrArg (fun z => some (Value.int z)) (show _ = _ from (by first | rfl | (have e9 : k = d := (by omega); subst e9; rfl)))), rfl, rfl, rfl⟩
      · refine z_iload_n (pc' := 13) C dX0_sum_12 rfl 1 rfl rfl ?_
        refine z_aload_n (pc' := 14) C dX0_sum_13 rfl 2 rfl rfl ?_
        refine z_get (pc' := 17) C hU0 0 (by decide) q_o0 rfl 1 (by decide) (by decide +kernel) (v := .ref (G.2.1 16)) rfl dX0_sum_14 rfl ?_
        refine z_iload_n (pc' := 18) C dX0_sum_17 rfl 0 rfl rfl ?_
        refine z_iald (pc' := 19) C 16 (by decide) (N := 18) (i := k) (f := ia 9) q_i9 (by omega) (by decide) dX0_sum_18 rfl ?_
        refine z_iadd (pc' := 20) C dX0_sum_19 rfl ?_
        refine z_istore_n (lv' := [(1, .int ((bx_sum (ia 9) k) + ((ia 9) k))), (2, .int (nI k)), (0, .ref (G.2.1 0))]) (pc' := 21) C dX0_sum_20 rfl (by decide) rfl rfl ?_
        refine z_iinc (v := nI (k + 1)) (k9 := 1) (lv' := [(2, .int (nI (k + 1))), (1, .int ((bx_sum (ia 9) k) + ((ia 9) k))), (0, .ref (G.2.1 0))]) (pc' := 24) C dX0_sum_21 rfl (nI_1 k) (by decide) rfl rfl ?_
        refine z_goto (pc' := 4) C dX0_sum_24 rfl ?_
        exact z_cast rfl rfl rfl rfl rfl (ih4 (k + 1) (by omega) (by omega))
  exact z_cast rfl rfl rfl rfl rfl (L4 (_ + 1) 0 (by omega) (Nat.lt_succ_self _))

set_option maxHeartbeats 4000000 in
set_option maxRecDepth 100000 in
theorem c_X0_squares (l : Launch) (G : Gv) (sc : Sc) (ia : Ia) (la : La) (d : Nat) (hd : sc 6 = nI d) (hD : d ≤ 18)  : Ct l yX0_squares wsX0_squares ({ frames := 0, cells := 0, slots := 0, locals := 0 }) G [.ref (G.2.1 0)] sc ia la (fL (s_dq (ia 9) d) sc ia la) := by
  have hU0 : ∀ w ∈ u_ws RX0 TX0 2, w ∈ wsX0_squares := fun w h => List.mem_cons_of_mem _ (List.mem_append_right _ h)
  refine z_of (maxL := 4) (own := RX0) [(0, .ref (G.2.1 0))] rfl (by decide +kernel) rfl (Nat.le_of_ble_eq_true rfl) rfl (fun Z C E => ?_)
  refine z_lconst (v := 0) (pc' := 1) C dX0_squares_0 rfl rfl ?_
  refine z_lstore_n (lv' := [(1, .long 0), (0, .ref (G.2.1 0))]) (pc' := 2) C dX0_squares_1 rfl (by decide) rfl rfl ?_
  refine z_iconst (v := 0) (pc' := 3) C dX0_squares_2 rfl rfl ?_
  refine z_istore_n (lv' := [(3, .int 0), (1, .long 0), (0, .ref (G.2.1 0))]) (pc' := 4) C dX0_squares_3 rfl (by decide) rfl rfl ?_
  have L4 : ∀ (fuel : Nat) (k : Nat) (hk : k ≤ d), d - k < fuel → Z sc ia la [(3, .int (nI k)), (1, .long (s_dq (ia 9) k)), (0, .ref (G.2.1 0))] 4 [] := by
    intro fuel
    induction fuel with
    | zero => intro k hk hm4; exact absurd hm4 (Nat.not_lt_zero _)
    | succ fuel ih4 =>
      intro k hk hm4
      refine z_iload_n (pc' := 5) C dX0_squares_4 rfl 0 rfl rfl ?_
      refine z_aload_n (pc' := 6) C dX0_squares_5 rfl 2 rfl rfl ?_
      refine z_get (pc' := 9) C hU0 0 (by decide) q_o0 rfl 0 (by decide) (by decide +kernel) (v := .int (sc 6)) rfl dX0_squares_6 rfl ?_
      refine z_cast (st' := [.int (nI d), .int (nI k)]) rfl rfl rfl rfl (congrArg (fun z => Value.int z :: [.int (nI k)]) hd) ?_
      refine z_icmpN_ge (a := k) (b := d) (pc' := 12) C 36 (by omega) (by omega) dX0_squares_9 rfl rfl (fun h_9 => ?_) (fun h_9 => ?_)
      · refine z_lload_n (pc' := 37) C dX0_squares_36 rfl 1 rfl rfl ?_
        exact z_lret (E := E) rfl dX0_squares_37 ⟨(congrArg (fun z => some (Value.long z)) (show _ = _ from (by first | rfl | (have e9 : k = d := (by omega); subst e9; rfl)))), rfl, rfl, rfl⟩
      · refine z_lload_n (pc' := 13) C dX0_squares_12 rfl 1 rfl rfl ?_
        refine z_aload_n (pc' := 14) C dX0_squares_13 rfl 2 rfl rfl ?_
        refine z_get (pc' := 17) C hU0 0 (by decide) q_o0 rfl 1 (by decide) (by decide +kernel) (v := .ref (G.2.1 16)) rfl dX0_squares_14 rfl ?_
        refine z_iload_n (pc' := 18) C dX0_squares_17 rfl 0 rfl rfl ?_
        refine z_iald (pc' := 19) C 16 (by decide) (N := 18) (i := k) (f := ia 9) q_i9 (by omega) (by decide) dX0_squares_18 rfl ?_
        refine z_i2l (pc' := 20) C dX0_squares_19 rfl ?_
        refine z_aload_n (pc' := 21) C dX0_squares_20 rfl 2 rfl rfl ?_
        refine z_get (pc' := 24) C hU0 0 (by decide) q_o0 rfl 1 (by decide) (by decide +kernel) (v := .ref (G.2.1 16)) rfl dX0_squares_21 rfl ?_
        refine z_iload_n (pc' := 25) C dX0_squares_24 rfl 0 rfl rfl ?_
        refine z_iald (pc' := 26) C 16 (by decide) (N := 18) (i := k) (f := ia 9) q_i9 (by omega) (by decide) dX0_squares_25 rfl ?_
        refine z_i2l (pc' := 27) C dX0_squares_26 rfl ?_
        refine z_lmul (pc' := 28) C dX0_squares_27 rfl ?_
        refine z_ladd (pc' := 29) C dX0_squares_28 rfl ?_
        refine z_lstore_n (lv' := [(1, .long ((s_dq (ia 9) k) + ((((ia 9) k).toInt64) * (((ia 9) k).toInt64)))), (3, .int (nI k)), (0, .ref (G.2.1 0))]) (pc' := 30) C dX0_squares_29 rfl (by decide) rfl rfl ?_
        refine z_iinc (v := nI (k + 1)) (k9 := 1) (lv' := [(3, .int (nI (k + 1))), (1, .long ((s_dq (ia 9) k) + ((((ia 9) k).toInt64) * (((ia 9) k).toInt64)))), (0, .ref (G.2.1 0))]) (pc' := 33) C dX0_squares_30 rfl (nI_1 k) (by decide) rfl rfl ?_
        refine z_goto (pc' := 4) C dX0_squares_33 rfl ?_
        exact z_cast rfl rfl rfl rfl rfl (ih4 (k + 1) (by omega) (by omega))
  exact z_cast rfl rfl rfl rfl rfl (L4 (_ + 1) 0 (by omega) (Nat.lt_succ_self _))

set_option maxHeartbeats 4000000 in
set_option maxRecDepth 100000 in
theorem c_X0_greatest (l : Launch) (G : Gv) (sc : Sc) (ia : Ia) (la : La) (d : Nat) (hd : sc 6 = nI d) (hD : d ≤ 18)  : Ct l yX0_greatest wsX0_greatest ({ frames := 1, cells := 0, slots := 0, locals := 14 }) G [.ref (G.2.1 0)] sc ia la (fI (s_gr (ia 9) d) sc ia la) := by
  have hU0 : ∀ w ∈ u_ws RX0 TX0 2, w ∈ wsX0_greatest := fun w h => List.mem_cons_of_mem _ (List.mem_append_right _ h)
  refine z_of (maxL := 3) (own := RX0) [(0, .ref (G.2.1 0))] rfl (by decide +kernel) rfl (Nat.le_of_ble_eq_true rfl) rfl (fun Z C E => ?_)
  refine z_iconst (v := 0) (pc' := 1) C dX0_greatest_0 rfl rfl ?_
  refine z_istore_n (lv' := [(1, .int 0), (0, .ref (G.2.1 0))]) (pc' := 2) C dX0_greatest_1 rfl (by decide) rfl rfl ?_
  refine z_iconst (v := 0) (pc' := 3) C dX0_greatest_2 rfl rfl ?_
  refine z_istore_n (lv' := [(2, .int 0), (1, .int 0), (0, .ref (G.2.1 0))]) (pc' := 4) C dX0_greatest_3 rfl (by decide) rfl rfl ?_
  have L4 : ∀ (fuel : Nat) (k : Nat) (hk : k ≤ d), d - k < fuel → Z sc ia la [(2, .int (nI k)), (1, .int (s_gr (ia 9) k)), (0, .ref (G.2.1 0))] 4 [] := by
    intro fuel
    induction fuel with
    | zero => intro k hk hm4; exact absurd hm4 (Nat.not_lt_zero _)
    | succ fuel ih4 =>
      intro k hk hm4
      refine z_iload_n (pc' := 5) C dX0_greatest_4 rfl 0 rfl rfl ?_
      refine z_aload_n (pc' := 6) C dX0_greatest_5 rfl 2 rfl rfl ?_
      refine z_get (pc' := 9) C hU0 0 (by decide) q_o0 rfl 0 (by decide) (by decide +kernel) (v := .int (sc 6)) rfl dX0_greatest_6 rfl ?_
      refine z_cast (st' := [.int (nI d), .int (nI k)]) rfl rfl rfl rfl (congrArg (fun z => Value.int z :: [.int (nI k)]) hd) ?_
      refine z_icmpN_ge (a := k) (b := d) (pc' := 12) C 29 (by omega) (by omega) dX0_greatest_9 rfl rfl (fun h_9 => ?_) (fun h_9 => ?_)
      · refine z_iload_n (pc' := 30) C dX0_greatest_29 rfl 1 rfl rfl ?_
        exact z_iret (E := E) rfl dX0_greatest_30 ⟨(congrArg (fun z => some (Value.int z)) (show _ = _ from (by first | rfl | (have e9 : k = d := (by omega); subst e9; rfl)))), rfl, rfl, rfl⟩
      · refine z_iload_n (pc' := 13) C dX0_greatest_12 rfl 1 rfl rfl ?_
        refine z_aload_n (pc' := 14) C dX0_greatest_13 rfl 2 rfl rfl ?_
        refine z_get (pc' := 17) C hU0 0 (by decide) q_o0 rfl 1 (by decide) (by decide +kernel) (v := .ref (G.2.1 16)) rfl dX0_greatest_14 rfl ?_
        refine z_iload_n (pc' := 18) C dX0_greatest_17 rfl 0 rfl rfl ?_
        refine z_iald (pc' := 19) C 16 (by decide) (N := 18) (i := k) (f := ia 9) q_i9 (by omega) (by decide) dX0_greatest_18 rfl ?_
        refine z_mmax (pc' := 22) C (by decide +kernel) (by decide +kernel) (by decide +kernel) (by decide +kernel) (by decide) (Nat.le_of_ble_eq_true rfl) dX0_greatest_19 rfl ?_
        refine z_istore_n (lv' := [(1, .int (if (s_gr (ia 9) k) < ((ia 9) k) then ((ia 9) k) else (s_gr (ia 9) k))), (2, .int (nI k)), (0, .ref (G.2.1 0))]) (pc' := 23) C dX0_greatest_22 rfl (by decide) rfl rfl ?_
        refine z_iinc (v := nI (k + 1)) (k9 := 1) (lv' := [(2, .int (nI (k + 1))), (1, .int (if (s_gr (ia 9) k) < ((ia 9) k) then ((ia 9) k) else (s_gr (ia 9) k))), (0, .ref (G.2.1 0))]) (pc' := 26) C dX0_greatest_23 rfl (nI_1 k) (by decide) rfl rfl ?_
        refine z_goto (pc' := 4) C dX0_greatest_26 rfl ?_
        exact z_cast rfl rfl rfl rfl rfl (ih4 (k + 1) (by omega) (by omega))
  exact z_cast rfl rfl rfl rfl rfl (L4 (_ + 1) 0 (by omega) (Nat.lt_succ_self _))

set_option maxHeartbeats 4000000 in
set_option maxRecDepth 100000 in
theorem c_X0_foldInto (l : Launch) (G : Gv) (sc : Sc) (ia : Ia) (la : La) (d : Nat) (hd : sc 6 = nI d) (hD : d ≤ 18) (h : Int64)  : Ct l yX0_foldInto wsX0_foldInto ({ frames := 1, cells := 0, slots := 0, locals := 23 }) G [.ref (G.2.1 0), .long h] sc ia la (fL (s_df (ia 9) h d) sc ia la) := by
  have hU0 : ∀ w ∈ u_ws RX0 TX0 2, w ∈ wsX0_foldInto := fun w h => List.mem_cons_of_mem _ (List.mem_append_right _ h)
  refine z_of (maxL := 6) (own := RX0) [(0, .ref (G.2.1 0)), (1, .long h)] rfl (by decide +kernel) rfl (Nat.le_of_ble_eq_true rfl) rfl (fun Z C E => ?_)
  refine z_lload_n (pc' := 1) C dX0_foldInto_0 rfl 1 rfl rfl ?_
  refine z_lstore_n (lv' := [(3, .long h), (0, .ref (G.2.1 0)), (1, .long h)]) (pc' := 2) C dX0_foldInto_1 rfl (by decide) rfl rfl ?_
  refine z_iconst (v := 0) (pc' := 3) C dX0_foldInto_2 rfl rfl ?_
  refine z_istore (lv' := [(5, .int 0), (3, .long h), (0, .ref (G.2.1 0)), (1, .long h)]) (pc' := 5) C dX0_foldInto_3 (by decide) rfl rfl ?_
  have L5 : ∀ (fuel : Nat) (k : Nat) (hk : k ≤ d), d - k < fuel → Z sc ia la [(5, .int (nI k)), (3, .long (s_df (ia 9) h k)), (0, .ref (G.2.1 0))] 5 [] := by
    intro fuel
    induction fuel with
    | zero => intro k hk hm5; exact absurd hm5 (Nat.not_lt_zero _)
    | succ fuel ih5 =>
      intro k hk hm5
      refine z_iload (pc' := 7) C dX0_foldInto_5 0 rfl rfl ?_
      refine z_aload_n (pc' := 8) C dX0_foldInto_7 rfl 2 rfl rfl ?_
      refine z_get (pc' := 11) C hU0 0 (by decide) q_o0 rfl 0 (by decide) (by decide +kernel) (v := .int (sc 6)) rfl dX0_foldInto_8 rfl ?_
      refine z_cast (st' := [.int (nI d), .int (nI k)]) rfl rfl rfl rfl (congrArg (fun z => Value.int z :: [.int (nI k)]) hd) ?_
      refine z_icmpN_ge (a := k) (b := d) (pc' := 14) C 33 (by omega) (by omega) dX0_foldInto_11 rfl rfl (fun h_11 => ?_) (fun h_11 => ?_)
      · refine z_lload_n (pc' := 34) C dX0_foldInto_33 rfl 1 rfl rfl ?_
        exact z_lret (E := E) rfl dX0_foldInto_34 ⟨(congrArg (fun z => some (Value.long z)) (show _ = _ from (by first | rfl | (have e9 : k = d := (by omega); subst e9; rfl)))), rfl, rfl, rfl⟩
      · refine z_lload_n (pc' := 15) C dX0_foldInto_14 rfl 1 rfl rfl ?_
        refine z_aload_n (pc' := 16) C dX0_foldInto_15 rfl 2 rfl rfl ?_
        refine z_get (pc' := 19) C hU0 0 (by decide) q_o0 rfl 1 (by decide) (by decide +kernel) (v := .ref (G.2.1 16)) rfl dX0_foldInto_16 rfl ?_
        refine z_iload (pc' := 21) C dX0_foldInto_19 0 rfl rfl ?_
        refine z_iald (pc' := 22) C 16 (by decide) (N := 18) (i := k) (f := ia 9) q_i9 (by omega) (by decide) dX0_foldInto_21 rfl ?_
        refine z_i2l (pc' := 23) C dX0_foldInto_22 rfl ?_
        refine z_cN (n := 2) (pc' := 26) (As := [.long (s_df (ia 9) h k), .long (((ia 9) k).toInt64)]) (rest := []) C (c_X5_fold l G sc ia la (s_df (ia 9) h k) (((ia 9) k).toInt64)) gX0_foldInto_X5_fold_n25 rfl rfl rfl (by decide +kernel) (by decide +kernel) (by decide +kernel) (by decide +kernel) (by decide) rfl rfl dX0_foldInto_23 (Nat.le_of_ble_eq_true rfl) rfl (k_L ?_)
        show Z sc ia la [(5, .int (nI k)), (3, .long (s_df (ia 9) h k)), (0, .ref (G.2.1 0))] 26 [.long (s_fo (s_df (ia 9) h k) (((ia 9) k).toInt64))]
        refine z_lstore_n (lv' := [(3, .long (s_fo (s_df (ia 9) h k) (((ia 9) k).toInt64))), (5, .int (nI k)), (0, .ref (G.2.1 0))]) (pc' := 27) C dX0_foldInto_26 rfl (by decide) rfl rfl ?_
        refine z_iinc (v := nI (k + 1)) (k9 := 1) (lv' := [(5, .int (nI (k + 1))), (3, .long (s_fo (s_df (ia 9) h k) (((ia 9) k).toInt64))), (0, .ref (G.2.1 0))]) (pc' := 30) C dX0_foldInto_27 rfl (nI_1 k) (by decide) rfl rfl ?_
        refine z_goto (pc' := 5) C dX0_foldInto_30 rfl ?_
        exact z_cast rfl rfl rfl rfl rfl (ih5 (k + 1) (by omega) (by omega))
  refine z_sub (lv' := [(5, .int 0), (3, .long h), (0, .ref (G.2.1 0))]) C [0, 1, 2] rfl ?_
  exact z_cast rfl rfl rfl rfl rfl (L5 (_ + 1) 0 (by omega) (Nat.lt_succ_self _))

set_option maxHeartbeats 4000000 in
set_option maxRecDepth 100000 in
theorem c_J9_floorDiv_7cf53 (l : Launch) (G : Gv) (sc : Sc) (ia : Ia) (la : La) (x y : Int32) (hy : ¬ y = 0)  : Ct l yJ9_floorDiv_7cf53 wsJ9_floorDiv_7cf53 ({ frames := 0, cells := 0, slots := 0, locals := 0 }) G [.int x, .int y] sc ia la (fI (s_fd x y) sc ia la) := by
  refine z_ofF (maxL := 3) (own := RJ9) [(0, .int x), (1, .int y)] rfl (by decide +kernel) rfl (Nat.le_of_ble_eq_true rfl) rfl (fun Z C E => ?_)
  refine z_iload_n (pc' := 1) C dJ9_floorDiv_7cf53_0 rfl 0 rfl rfl ?_
  refine z_iload_n (pc' := 2) C dJ9_floorDiv_7cf53_1 rfl 1 rfl rfl ?_
  refine z_idiv (pc' := 3) C dJ9_floorDiv_7cf53_2 (hy) rfl ?_
  refine z_istore_n (lv' := [(2, .int (x / y)), (0, .int x), (1, .int y)]) (pc' := 4) C dJ9_floorDiv_7cf53_3 rfl (by decide) rfl rfl ?_
  refine z_iload_n (pc' := 5) C dJ9_floorDiv_7cf53_4 rfl 1 rfl rfl ?_
  refine z_iload_n (pc' := 6) C dJ9_floorDiv_7cf53_5 rfl 2 rfl rfl ?_
  refine z_ixor (pc' := 7) C dJ9_floorDiv_7cf53_6 rfl ?_
  refine z_if_ge (pc' := 10) C 21 dJ9_floorDiv_7cf53_7 rfl rfl (fun h_7 => ?_) (fun h_7 => ?_)
  · refine z_iload_n (pc' := 22) C dJ9_floorDiv_7cf53_21 rfl 0 rfl rfl ?_
    exact z_iret (E := E) rfl dJ9_floorDiv_7cf53_22 ⟨(congrArg (fun z => some (Value.int z)) (show _ = _ from (by first | rfl | (simp [s_fd, h_7])))), rfl, rfl, rfl⟩
  · refine z_iload_n (pc' := 11) C dJ9_floorDiv_7cf53_10 rfl 0 rfl rfl ?_
    refine z_iload_n (pc' := 12) C dJ9_floorDiv_7cf53_11 rfl 2 rfl rfl ?_
    refine z_imul (pc' := 13) C dJ9_floorDiv_7cf53_12 rfl ?_
    refine z_iload_n (pc' := 14) C dJ9_floorDiv_7cf53_13 rfl 1 rfl rfl ?_
    refine z_icmp_eq (pc' := 17) C 21 dJ9_floorDiv_7cf53_14 rfl rfl (fun h_14 => ?_) (fun h_14 => ?_)
    · refine z_iload_n (pc' := 22) C dJ9_floorDiv_7cf53_21 rfl 0 rfl rfl ?_
      exact z_iret (E := E) rfl dJ9_floorDiv_7cf53_22 ⟨(congrArg (fun z => some (Value.int z)) (show _ = _ from (by first | rfl | (simp [s_fd, h_7, h_14])))), rfl, rfl, rfl⟩
    · refine z_iload_n (pc' := 18) C dJ9_floorDiv_7cf53_17 rfl 0 rfl rfl ?_
      refine z_iconst (v := 1) (pc' := 19) C dJ9_floorDiv_7cf53_18 rfl rfl ?_
      refine z_isub (pc' := 20) C dJ9_floorDiv_7cf53_19 rfl ?_
      exact z_iret (E := E) rfl dJ9_floorDiv_7cf53_20 ⟨(congrArg (fun z => some (Value.int z)) (show _ = _ from (by first | rfl | (simp [s_fd, h_7, h_14])))), rfl, rfl, rfl⟩

set_option maxHeartbeats 4000000 in
set_option maxRecDepth 100000 in
theorem c_X4_holds (l : Launch) (G : Gv) (sc : Sc) (ia : Ia) (la : La) (r c : Int32)  : Ct l yX4_holds wsX4_holds ({ frames := 0, cells := 0, slots := 0, locals := 0 }) G [.ref (G.2.1 4), .int r, .int c] sc ia la (fI (bI (s_hold r c (sc 3) (sc 4))) sc ia la) := by
  have hU4 : ∀ w ∈ u_ws RX4 TX4 3, w ∈ wsX4_holds := fun w h => List.mem_cons_of_mem _ (List.mem_append_right _ h)
  refine z_of (maxL := 3) (own := RX4) [(0, .ref (G.2.1 4)), (1, .int r), (2, .int c)] rfl (by decide +kernel) rfl (Nat.le_of_ble_eq_true rfl) rfl (fun Z C E => ?_)
  refine z_iload_n (pc' := 1) C dX4_holds_0 rfl 1 rfl rfl ?_
  refine z_if_lt (pc' := 4) C 44 dX4_holds_1 rfl rfl (fun h_1 => ?_) (fun h_1 => ?_)
  · refine z_iconst (v := 0) (pc' := 45) C dX4_holds_44 rfl rfl ?_
    exact z_zret (E := E) rfl dX4_holds_45 (rfl) ⟨(congrArg (fun z => some (Value.int z)) (show _ = _ from (by first | rfl | (simp [s_hold, bI, h_1])))), rfl, rfl, rfl⟩
  · refine z_iload_n (pc' := 5) C dX4_holds_4 rfl 1 rfl rfl ?_
    refine z_aload_n (pc' := 6) C dX4_holds_5 rfl 0 rfl rfl ?_
    refine z_get (pc' := 9) C hU4 4 (by decide) q_o4 rfl 0 (by decide) (by decide +kernel) (v := .int (sc 3)) rfl dX4_holds_6 rfl ?_
    refine z_icmp_gt (pc' := 12) C 44 dX4_holds_9 rfl rfl (fun h_9 => ?_) (fun h_9 => ?_)
    · refine z_iconst (v := 0) (pc' := 45) C dX4_holds_44 rfl rfl ?_
      exact z_zret (E := E) rfl dX4_holds_45 (rfl) ⟨(congrArg (fun z => some (Value.int z)) (show _ = _ from (by first | rfl | (simp [s_hold, bI, h_1, h_9])))), rfl, rfl, rfl⟩
    · refine z_iload_n (pc' := 13) C dX4_holds_12 rfl 2 rfl rfl ?_
      refine z_if_lt (pc' := 16) C 44 dX4_holds_13 rfl rfl (fun h_13 => ?_) (fun h_13 => ?_)
      · refine z_iconst (v := 0) (pc' := 45) C dX4_holds_44 rfl rfl ?_
        exact z_zret (E := E) rfl dX4_holds_45 (rfl) ⟨(congrArg (fun z => some (Value.int z)) (show _ = _ from (by first | rfl | (simp [s_hold, bI, h_1, h_9, h_13])))), rfl, rfl, rfl⟩
      · refine z_iload_n (pc' := 17) C dX4_holds_16 rfl 2 rfl rfl ?_
        refine z_aload_n (pc' := 18) C dX4_holds_17 rfl 0 rfl rfl ?_
        refine z_get (pc' := 21) C hU4 4 (by decide) q_o4 rfl 1 (by decide) (by decide +kernel) (v := .int (sc 4)) rfl dX4_holds_18 rfl ?_
        refine z_icmp_gt (pc' := 24) C 44 dX4_holds_21 rfl rfl (fun h_21 => ?_) (fun h_21 => ?_)
        · refine z_iconst (v := 0) (pc' := 45) C dX4_holds_44 rfl rfl ?_
          exact z_zret (E := E) rfl dX4_holds_45 (rfl) ⟨(congrArg (fun z => some (Value.int z)) (show _ = _ from (by first | rfl | (simp [s_hold, bI, h_1, h_9, h_13, h_21])))), rfl, rfl, rfl⟩
        · refine z_iload_n (pc' := 25) C dX4_holds_24 rfl 1 rfl rfl ?_
          refine z_aload_n (pc' := 26) C dX4_holds_25 rfl 0 rfl rfl ?_
          refine z_get (pc' := 29) C hU4 4 (by decide) q_o4 rfl 0 (by decide) (by decide +kernel) (v := .int (sc 3)) rfl dX4_holds_26 rfl ?_
          refine z_icmp_lt (pc' := 32) C 40 dX4_holds_29 rfl rfl (fun h_29 => ?_) (fun h_29 => ?_)
          · refine z_iconst (v := 1) (pc' := 41) C dX4_holds_40 rfl rfl ?_
            refine z_goto (pc' := 45) C dX4_holds_41 rfl ?_
            exact z_zret (E := E) rfl dX4_holds_45 (rfl) ⟨(congrArg (fun z => some (Value.int z)) (show _ = _ from (by first | rfl | (simp [s_hold, bI, h_1, h_9, h_13, h_21, h_29])))), rfl, rfl, rfl⟩
          · refine z_iload_n (pc' := 33) C dX4_holds_32 rfl 2 rfl rfl ?_
            refine z_aload_n (pc' := 34) C dX4_holds_33 rfl 0 rfl rfl ?_
            refine z_get (pc' := 37) C hU4 4 (by decide) q_o4 rfl 1 (by decide) (by decide +kernel) (v := .int (sc 4)) rfl dX4_holds_34 rfl ?_
            refine z_icmp_ge (pc' := 40) C 44 dX4_holds_37 rfl rfl (fun h_37 => ?_) (fun h_37 => ?_)
            · refine z_iconst (v := 0) (pc' := 45) C dX4_holds_44 rfl rfl ?_
              exact z_zret (E := E) rfl dX4_holds_45 (rfl) ⟨(congrArg (fun z => some (Value.int z)) (show _ = _ from (by first | rfl | (simp [s_hold, bI, h_1, h_9, h_13, h_21, h_29, h_37])))), rfl, rfl, rfl⟩
            · refine z_iconst (v := 1) (pc' := 41) C dX4_holds_40 rfl rfl ?_
              refine z_goto (pc' := 45) C dX4_holds_41 rfl ?_
              exact z_zret (E := E) rfl dX4_holds_45 (rfl) ⟨(congrArg (fun z => some (Value.int z)) (show _ = _ from (by first | rfl | (simp [s_hold, bI, h_1, h_9, h_13, h_21, h_29, h_37])))), rfl, rfl, rfl⟩

theorem c_X4_holdsB (l : Launch) (G : Gv) (sc : Sc) (ia : Ia) (la : La) (r c : Int32) (z : Bool) (h : s_hold r c (sc 3) (sc 4) = z) : Ct l yX4_holds wsX4_holds ({ frames := 0, cells := 0, slots := 0, locals := 0 }) G [.ref (G.2.1 4), .int r, .int c] sc ia la (fI (bI z) sc ia la) := h ▸ c_X4_holds l G sc ia la r c
set_option maxHeartbeats 4000000 in
set_option maxRecDepth 100000 in
theorem c_X4_closedCell (l : Launch) (G : Gv) (sc : Sc) (ia : Ia) (la : La) (R K : Nat) (hR : sc 3 = nI R) (hC : sc 4 = nI K) (hR1 : 1 ≤ R) (hR8 : R ≤ 8) (hC8 : K ≤ 8) (a b : Nat) (ha : a ≤ R) (hb : b < K)  : Ct l yX4_closedCell wsX4_closedCell ({ frames := 1, cells := 0, slots := 0, locals := 22 }) G [.ref (G.2.1 4), .int (nI a), .int (nI b)] sc ia la (fI (s_clo ia R a b) sc ia la) := by
  have hU4 : ∀ w ∈ u_ws RX4 TX4 3, w ∈ wsX4_closedCell := fun w h => List.mem_cons_of_mem _ (List.mem_append_right _ h)
  refine z_of (maxL := 4) (own := RX4) [(0, .ref (G.2.1 4)), (1, .int (nI a)), (2, .int (nI b))] rfl (by decide +kernel) rfl (Nat.le_of_ble_eq_true rfl) rfl (fun Z C E => ?_)
  refine z_aload_n (pc' := 1) C dX4_closedCell_0 rfl 0 rfl rfl ?_
  refine z_get (pc' := 4) C hU4 4 (by decide) q_o4 rfl 2 (by decide) (by decide +kernel) (v := .ref (G.2.1 50)) rfl dX4_closedCell_1 rfl ?_
  refine z_aload_n (pc' := 5) C dX4_closedCell_4 rfl 0 rfl rfl ?_
  refine z_get (pc' := 8) C hU4 4 (by decide) q_o4 rfl 0 (by decide) (by decide +kernel) (v := .int (sc 3)) rfl dX4_closedCell_5 rfl ?_
  refine z_cast (st' := [.int (nI R), .ref (G.2.1 50)]) rfl rfl rfl rfl (congrArg (fun z => Value.int z :: [.ref (G.2.1 50)]) hR) ?_
  refine z_aald (pc' := 9) C 50 (by decide) (i := R) (a := G.2.1 (17 + R)) (ty := .int) rfl q_v50 (by omega) (by decide) (if_pos (by omega)) dX4_closedCell_8 rfl ?_
  refine z_iload_n (pc' := 10) C dX4_closedCell_9 rfl 2 rfl rfl ?_
  refine z_iald (pc' := 11) C (17 + R) (by omega) (N := 9) (i := b) (f := ia (10 + R)) (q_ir10 R (by omega)) (by omega) (by decide) dX4_closedCell_10 rfl ?_
  refine z_aload_n (pc' := 12) C dX4_closedCell_11 rfl 0 rfl rfl ?_
  refine z_get (pc' := 15) C hU4 4 (by decide) q_o4 rfl 2 (by decide) (by decide +kernel) (v := .ref (G.2.1 50)) rfl dX4_closedCell_12 rfl ?_
  refine z_iconst (v := 0) (pc' := 16) C dX4_closedCell_15 rfl rfl ?_
  refine z_aald (pc' := 17) C 50 (by decide) (i := 0) (a := G.2.1 17) (ty := .int) rfl q_v50 (by omega) (by decide) (if_pos (by omega)) dX4_closedCell_16 rfl ?_
  refine z_iload_n (pc' := 18) C dX4_closedCell_17 rfl 2 rfl rfl ?_
  refine z_iald (pc' := 19) C 17 (by decide) (N := 9) (i := b) (f := ia 10) q_i10 (by omega) (by decide) dX4_closedCell_18 rfl ?_
  refine z_isub (pc' := 20) C dX4_closedCell_19 rfl ?_
  refine z_iload_n (pc' := 21) C dX4_closedCell_20 rfl 1 rfl rfl ?_
  refine z_imul (pc' := 22) C dX4_closedCell_21 rfl ?_
  refine z_istore_n (lv' := [(3, .int ((((ia (10 + R)) b) - ((ia 10) b)) * (nI a))), (0, .ref (G.2.1 4)), (1, .int (nI a)), (2, .int (nI b))]) (pc' := 23) C dX4_closedCell_22 rfl (by decide) rfl rfl ?_
  refine z_aload_n (pc' := 24) C dX4_closedCell_23 rfl 1 rfl rfl ?_
  refine z_get (pc' := 27) C hU4 4 (by decide) q_o4 rfl 0 (by decide) (by decide +kernel) (v := .int (sc 3)) rfl dX4_closedCell_24 rfl ?_
  refine z_cast (st' := [.int (nI R)]) rfl rfl rfl rfl (congrArg (fun z => Value.int z :: []) hR) ?_
  refine z_if_ne (pc' := 30) C 41 dX4_closedCell_27 rfl rfl (fun h_27 => ?_) (fun h_27 => absurd h_27 (by exact nI_ne0 (by omega) (by omega)))
  refine z_aload_n (pc' := 42) C dX4_closedCell_41 rfl 1 rfl rfl ?_
  refine z_get (pc' := 45) C hU4 4 (by decide) q_o4 rfl 2 (by decide) (by decide +kernel) (v := .ref (G.2.1 50)) rfl dX4_closedCell_42 rfl ?_
  refine z_iload_n (pc' := 46) C dX4_closedCell_45 rfl 2 rfl rfl ?_
  refine z_aald (pc' := 47) C 50 (by decide) (i := a) (a := G.2.1 (17 + a)) (ty := .int) rfl q_v50 (by omega) (by decide) (if_pos (by omega)) dX4_closedCell_46 rfl ?_
  refine z_iload_n (pc' := 48) C dX4_closedCell_47 rfl 3 rfl rfl ?_
  refine z_iald (pc' := 49) C (17 + a) (by omega) (N := 9) (i := b) (f := ia (10 + a)) (q_ir10 a (by omega)) (by omega) (by decide) dX4_closedCell_48 rfl ?_
  refine z_iload_n (pc' := 50) C dX4_closedCell_49 rfl 0 rfl rfl ?_
  refine z_aload_n (pc' := 51) C dX4_closedCell_50 rfl 1 rfl rfl ?_
  refine z_get (pc' := 54) C hU4 4 (by decide) q_o4 rfl 0 (by decide) (by decide +kernel) (v := .int (sc 3)) rfl dX4_closedCell_51 rfl ?_
  refine z_cast (st' := [.int (nI R), .int ((((ia (10 + R)) b) - ((ia 10) b)) * (nI a)), .int ((ia (10 + a)) b)]) rfl rfl rfl rfl (congrArg (fun z => Value.int z :: [.int ((((ia (10 + R)) b) - ((ia 10) b)) * (nI a)), .int ((ia (10 + a)) b)]) hR) ?_
  refine z_cS (n := 2) (pc' := 57) (As := [.int ((((ia (10 + R)) b) - ((ia 10) b)) * (nI a)), .int (nI R)]) (rest := [.int ((ia (10 + a)) b)]) C (c_J9_floorDiv_7cf53 l G sc ia la ((((ia (10 + R)) b) - ((ia 10) b)) * (nI a)) (nI R) (by exact nI_ne0 (by omega) (by omega))) gX4_closedCell_J9_floorDiv_7cf53 rfl rfl rfl (by decide +kernel) (by decide) rfl rfl dX4_closedCell_54 (Nat.le_of_ble_eq_true rfl) rfl (k_I ?_)
  show Z sc ia la [(3, .int ((((ia (10 + R)) b) - ((ia 10) b)) * (nI a))), (0, .ref (G.2.1 4)), (1, .int (nI a)), (2, .int (nI b))] 57 [.int (s_fd ((((ia (10 + R)) b) - ((ia 10) b)) * (nI a)) (nI R)), .int ((ia (10 + a)) b)]
  refine z_isub (pc' := 58) C dX4_closedCell_57 rfl ?_
  exact z_iret (E := E) rfl dX4_closedCell_58 ⟨(congrArg (fun z => some (Value.int z)) rfl), rfl, rfl, rfl⟩

set_option maxHeartbeats 4000000 in
set_option maxRecDepth 100000 in
theorem c_X4_tiedCell (l : Launch) (G : Gv) (sc : Sc) (ia : Ia) (la : La) (R K : Nat) (hR : sc 3 = nI R) (hC : sc 4 = nI K) (hR1 : 1 ≤ R) (hR8 : R ≤ 8) (hC8 : K ≤ 8) (a b : Nat) (ha : a < R) (hb : b < K)  : Ct l yX4_tiedCell wsX4_tiedCell ({ frames := 0, cells := 0, slots := 0, locals := 0 }) G [.ref (G.2.1 4), .int (nI a), .int (nI b)] sc ia la (fI (s_tie ia K a b) sc ia la) := by
  have hU4 : ∀ w ∈ u_ws RX4 TX4 3, w ∈ wsX4_tiedCell := fun w h => List.mem_cons_of_mem _ (List.mem_append_right _ h)
  refine z_of (maxL := 3) (own := RX4) [(0, .ref (G.2.1 4)), (1, .int (nI a)), (2, .int (nI b))] rfl (by decide +kernel) rfl (Nat.le_of_ble_eq_true rfl) rfl (fun Z C E => ?_)
  refine z_aload_n (pc' := 1) C dX4_tiedCell_0 rfl 0 rfl rfl ?_
  refine z_get (pc' := 4) C hU4 4 (by decide) q_o4 rfl 2 (by decide) (by decide +kernel) (v := .ref (G.2.1 50)) rfl dX4_tiedCell_1 rfl ?_
  refine z_iload_n (pc' := 5) C dX4_tiedCell_4 rfl 1 rfl rfl ?_
  refine z_aald (pc' := 6) C 50 (by decide) (i := a) (a := G.2.1 (17 + a)) (ty := .int) rfl q_v50 (by omega) (by decide) (if_pos (by omega)) dX4_tiedCell_5 rfl ?_
  refine z_iload_n (pc' := 7) C dX4_tiedCell_6 rfl 2 rfl rfl ?_
  refine z_iald (pc' := 8) C (17 + a) (by omega) (N := 9) (i := b) (f := ia (10 + a)) (q_ir10 a (by omega)) (by omega) (by decide) dX4_tiedCell_7 rfl ?_
  refine z_aload_n (pc' := 9) C dX4_tiedCell_8 rfl 0 rfl rfl ?_
  refine z_get (pc' := 12) C hU4 4 (by decide) q_o4 rfl 2 (by decide) (by decide +kernel) (v := .ref (G.2.1 50)) rfl dX4_tiedCell_9 rfl ?_
  refine z_iload_n (pc' := 13) C dX4_tiedCell_12 rfl 1 rfl rfl ?_
  refine z_aald (pc' := 14) C 50 (by decide) (i := a) (a := G.2.1 (17 + a)) (ty := .int) rfl q_v50 (by omega) (by decide) (if_pos (by omega)) dX4_tiedCell_13 rfl ?_
  refine z_aload_n (pc' := 15) C dX4_tiedCell_14 rfl 0 rfl rfl ?_
  refine z_get (pc' := 18) C hU4 4 (by decide) q_o4 rfl 1 (by decide) (by decide +kernel) (v := .int (sc 4)) rfl dX4_tiedCell_15 rfl ?_
  refine z_cast (st' := [.int (nI K), .ref (G.2.1 (17 + a)), .int ((ia (10 + a)) b)]) rfl rfl rfl rfl (congrArg (fun z => Value.int z :: [.ref (G.2.1 (17 + a)), .int ((ia (10 + a)) b)]) hC) ?_
  refine z_iald (pc' := 19) C (17 + a) (by omega) (N := 9) (i := K) (f := ia (10 + a)) (q_ir10 a (by omega)) (by omega) (by decide) dX4_tiedCell_18 rfl ?_
  refine z_iadd (pc' := 20) C dX4_tiedCell_19 rfl ?_
  refine z_aload_n (pc' := 21) C dX4_tiedCell_20 rfl 0 rfl rfl ?_
  refine z_get (pc' := 24) C hU4 4 (by decide) q_o4 rfl 2 (by decide) (by decide +kernel) (v := .ref (G.2.1 50)) rfl dX4_tiedCell_21 rfl ?_
  refine z_iload_n (pc' := 25) C dX4_tiedCell_24 rfl 1 rfl rfl ?_
  refine z_aald (pc' := 26) C 50 (by decide) (i := a) (a := G.2.1 (17 + a)) (ty := .int) rfl q_v50 (by omega) (by decide) (if_pos (by omega)) dX4_tiedCell_25 rfl ?_
  refine z_iconst (v := 0) (pc' := 27) C dX4_tiedCell_26 rfl rfl ?_
  refine z_iald (pc' := 28) C (17 + a) (by omega) (N := 9) (i := 0) (f := ia (10 + a)) (q_ir10 a (by omega)) (by omega) (by decide) dX4_tiedCell_27 rfl ?_
  refine z_isub (pc' := 29) C dX4_tiedCell_28 rfl ?_
  exact z_iret (E := E) rfl dX4_tiedCell_29 ⟨(congrArg (fun z => some (Value.int z)) rfl), rfl, rfl, rfl⟩

set_option maxHeartbeats 4000000 in
set_option maxRecDepth 100000 in
theorem c_X4_foldInto (l : Launch) (G : Gv) (sc : Sc) (ia : Ia) (la : La) (R K : Nat) (hR : sc 3 = nI R) (hC : sc 4 = nI K) (hR1 : 1 ≤ R) (hR8 : R ≤ 8) (hC8 : K ≤ 8) (h : Int64)  : Ct l yX4_foldInto wsX4_foldInto ({ frames := 1, cells := 0, slots := 0, locals := 23 }) G [.ref (G.2.1 4), .long h] sc ia la (fL (s_sf ia R K h) sc ia la) := by
  have hU4 : ∀ w ∈ u_ws RX4 TX4 3, w ∈ wsX4_foldInto := fun w h => List.mem_cons_of_mem _ (List.mem_append_right _ h)
  refine z_of (maxL := 7) (own := RX4) [(0, .ref (G.2.1 4)), (1, .long h)] rfl (by decide +kernel) rfl (Nat.le_of_ble_eq_true rfl) rfl (fun Z C E => ?_)
  refine z_lload_n (pc' := 1) C dX4_foldInto_0 rfl 1 rfl rfl ?_
  refine z_aload_n (pc' := 2) C dX4_foldInto_1 rfl 0 rfl rfl ?_
  refine z_get (pc' := 5) C hU4 4 (by decide) q_o4 rfl 0 (by decide) (by decide +kernel) (v := .int (sc 3)) rfl dX4_foldInto_2 rfl ?_
  refine z_cast (st' := [.int (nI R), .long h]) rfl rfl rfl rfl (congrArg (fun z => Value.int z :: [.long h]) hR) ?_
  refine z_i2l (pc' := 6) C dX4_foldInto_5 rfl ?_
  refine z_cN (n := 2) (pc' := 9) (As := [.long h, .long ((nI R).toInt64)]) (rest := []) C (c_X5_fold l G sc ia la h ((nI R).toInt64)) gX4_foldInto_X5_fold_n33 rfl rfl rfl (by decide +kernel) (by decide +kernel) (by decide +kernel) (by decide +kernel) (by decide) rfl rfl dX4_foldInto_6 (Nat.le_of_ble_eq_true rfl) rfl (k_L ?_)
  show Z sc ia la [(0, .ref (G.2.1 4)), (1, .long h)] 9 [.long (s_fo h ((nI R).toInt64))]
  refine z_aload_n (pc' := 10) C dX4_foldInto_9 rfl 0 rfl rfl ?_
  refine z_get (pc' := 13) C hU4 4 (by decide) q_o4 rfl 1 (by decide) (by decide +kernel) (v := .int (sc 4)) rfl dX4_foldInto_10 rfl ?_
  refine z_cast (st' := [.int (nI K), .long (s_fo h ((nI R).toInt64))]) rfl rfl rfl rfl (congrArg (fun z => Value.int z :: [.long (s_fo h ((nI R).toInt64))]) hC) ?_
  refine z_i2l (pc' := 14) C dX4_foldInto_13 rfl ?_
  refine z_cN (n := 2) (pc' := 17) (As := [.long (s_fo h ((nI R).toInt64)), .long ((nI K).toInt64)]) (rest := []) C (c_X5_fold l G sc ia la (s_fo h ((nI R).toInt64)) ((nI K).toInt64)) gX4_foldInto_X5_fold_n33 rfl rfl rfl (by decide +kernel) (by decide +kernel) (by decide +kernel) (by decide +kernel) (by decide) rfl rfl dX4_foldInto_14 (Nat.le_of_ble_eq_true rfl) rfl (k_L ?_)
  show Z sc ia la [(0, .ref (G.2.1 4)), (1, .long h)] 17 [.long (s_fo (s_fo h ((nI R).toInt64)) ((nI K).toInt64))]
  refine z_lstore_n (lv' := [(3, .long (s_fo (s_fo h ((nI R).toInt64)) ((nI K).toInt64))), (0, .ref (G.2.1 4)), (1, .long h)]) (pc' := 18) C dX4_foldInto_17 rfl (by decide) rfl rfl ?_
  refine z_iconst (v := 0) (pc' := 19) C dX4_foldInto_18 rfl rfl ?_
  refine z_istore (lv' := [(5, .int 0), (3, .long (s_fo (s_fo h ((nI R).toInt64)) ((nI K).toInt64))), (0, .ref (G.2.1 4)), (1, .long h)]) (pc' := 21) C dX4_foldInto_19 (by decide) rfl rfl ?_
  have L21 : ∀ (fuel : Nat) (r : Nat) (hr : r ≤ R + 1), R + 1 - r < fuel → Z sc ia la [(5, .int (nI r)), (3, .long (s_sfr ia K (s_fo (s_fo h (nI R).toInt64) (nI K).toInt64) r)), (0, .ref (G.2.1 4))] 21 [] := by
    intro fuel
    induction fuel with
    | zero => intro r hr hm21; exact absurd hm21 (Nat.not_lt_zero _)
    | succ fuel ih21 =>
      intro r hr hm21
      refine z_iload (pc' := 23) C dX4_foldInto_21 0 rfl rfl ?_
      refine z_aload_n (pc' := 24) C dX4_foldInto_23 rfl 2 rfl rfl ?_
      refine z_get (pc' := 27) C hU4 4 (by decide) q_o4 rfl 0 (by decide) (by decide +kernel) (v := .int (sc 3)) rfl dX4_foldInto_24 rfl ?_
      refine z_cast (st' := [.int (nI R), .int (nI r)]) rfl rfl rfl rfl (congrArg (fun z => Value.int z :: [.int (nI r)]) hR) ?_
      refine z_icmpN_gt (a := r) (b := R) (pc' := 30) C 70 (by omega) (by omega) dX4_foldInto_27 rfl rfl (fun h_27 => ?_) (fun h_27 => ?_)
      · refine z_iconst (v := 0) (pc' := 71) C dX4_foldInto_70 rfl rfl ?_
        refine z_istore (lv' := [(5, .int 0), (3, .long (s_sfr ia K (s_fo (s_fo h (nI R).toInt64) (nI K).toInt64) r)), (0, .ref (G.2.1 4))]) (pc' := 73) C dX4_foldInto_71 (by decide) rfl rfl ?_
        have L73 : ∀ (fuel : Nat) (r2 : Nat) (hr2 : r2 ≤ R), R - r2 < fuel → Z sc ia la [(5, .int (nI r2)), (3, .long (s_sft ia K (s_sfr ia K (s_fo (s_fo h (nI R).toInt64) (nI K).toInt64) (R + 1)) r2)), (0, .ref (G.2.1 4))] 73 [] := by
          intro fuel
          induction fuel with
          | zero => intro r2 hr2 hm73; exact absurd hm73 (Nat.not_lt_zero _)
          | succ fuel ih73 =>
            intro r2 hr2 hm73
            refine z_iload (pc' := 75) C dX4_foldInto_73 0 rfl rfl ?_
            refine z_aload_n (pc' := 76) C dX4_foldInto_75 rfl 2 rfl rfl ?_
            refine z_get (pc' := 79) C hU4 4 (by decide) q_o4 rfl 0 (by decide) (by decide +kernel) (v := .int (sc 3)) rfl dX4_foldInto_76 rfl ?_
            refine z_cast (st' := [.int (nI R), .int (nI r2)]) rfl rfl rfl rfl (congrArg (fun z => Value.int z :: [.int (nI r2)]) hR) ?_
            refine z_icmpN_ge (a := r2) (b := R) (pc' := 82) C 106 (by omega) (by omega) dX4_foldInto_79 rfl rfl (fun h_79 => ?_) (fun h_79 => ?_)
            · refine z_lload_n (pc' := 107) C dX4_foldInto_106 rfl 1 rfl rfl ?_
              exact z_lret (E := E) rfl dX4_foldInto_107 ⟨(congrArg (fun z => some (Value.long z)) (show _ = _ from (by first | rfl | (have e9 : r2 = R := (by omega); subst e9; rfl)))), rfl, rfl, rfl⟩
            · refine z_lload_n (pc' := 83) C dX4_foldInto_82 rfl 1 rfl rfl ?_
              refine z_aload_n (pc' := 84) C dX4_foldInto_83 rfl 2 rfl rfl ?_
              refine z_get (pc' := 87) C hU4 4 (by decide) q_o4 rfl 2 (by decide) (by decide +kernel) (v := .ref (G.2.1 50)) rfl dX4_foldInto_84 rfl ?_
              refine z_iload (pc' := 89) C dX4_foldInto_87 0 rfl rfl ?_
              refine z_aald (pc' := 90) C 50 (by decide) (i := r2) (a := G.2.1 (17 + r2)) (ty := .int) rfl q_v50 (by omega) (by decide) (if_pos (by omega)) dX4_foldInto_89 rfl ?_
              refine z_aload_n (pc' := 91) C dX4_foldInto_90 rfl 2 rfl rfl ?_
              refine z_get (pc' := 94) C hU4 4 (by decide) q_o4 rfl 1 (by decide) (by decide +kernel) (v := .int (sc 4)) rfl dX4_foldInto_91 rfl ?_
              refine z_cast (st' := [.int (nI K), .ref (G.2.1 (17 + r2)), .long (s_sft ia K (s_sfr ia K (s_fo (s_fo h (nI R).toInt64) (nI K).toInt64) (R + 1)) r2)]) rfl rfl rfl rfl (congrArg (fun z => Value.int z :: [.ref (G.2.1 (17 + r2)), .long (s_sft ia K (s_sfr ia K (s_fo (s_fo h (nI R).toInt64) (nI K).toInt64) (R + 1)) r2)]) hC) ?_
              refine z_iald (pc' := 95) C (17 + r2) (by omega) (N := 9) (i := K) (f := ia (10 + r2)) (q_ir10 r2 (by omega)) (by omega) (by decide) dX4_foldInto_94 rfl ?_
              refine z_i2l (pc' := 96) C dX4_foldInto_95 rfl ?_
              refine z_cN (n := 2) (pc' := 99) (As := [.long (s_sft ia K (s_sfr ia K (s_fo (s_fo h (nI R).toInt64) (nI K).toInt64) (R + 1)) r2), .long (((ia (10 + r2)) K).toInt64)]) (rest := []) C (c_X5_fold l G sc ia la (s_sft ia K (s_sfr ia K (s_fo (s_fo h (nI R).toInt64) (nI K).toInt64) (R + 1)) r2) (((ia (10 + r2)) K).toInt64)) gX4_foldInto_X5_fold_n33 rfl rfl rfl (by decide +kernel) (by decide +kernel) (by decide +kernel) (by decide +kernel) (by decide) rfl rfl dX4_foldInto_96 (Nat.le_of_ble_eq_true rfl) rfl (k_L ?_)
              show Z sc ia la [(5, .int (nI r2)), (3, .long (s_sft ia K (s_sfr ia K (s_fo (s_fo h (nI R).toInt64) (nI K).toInt64) (R + 1)) r2)), (0, .ref (G.2.1 4))] 99 [.long (s_fo (s_sft ia K (s_sfr ia K (s_fo (s_fo h (nI R).toInt64) (nI K).toInt64) (R + 1)) r2) (((ia (10 + r2)) K).toInt64))]
              refine z_lstore_n (lv' := [(3, .long (s_fo (s_sft ia K (s_sfr ia K (s_fo (s_fo h (nI R).toInt64) (nI K).toInt64) (R + 1)) r2) (((ia (10 + r2)) K).toInt64))), (5, .int (nI r2)), (0, .ref (G.2.1 4))]) (pc' := 100) C dX4_foldInto_99 rfl (by decide) rfl rfl ?_
              refine z_iinc (v := nI (r2 + 1)) (k9 := 1) (lv' := [(5, .int (nI (r2 + 1))), (3, .long (s_fo (s_sft ia K (s_sfr ia K (s_fo (s_fo h (nI R).toInt64) (nI K).toInt64) (R + 1)) r2) (((ia (10 + r2)) K).toInt64))), (0, .ref (G.2.1 4))]) (pc' := 103) C dX4_foldInto_100 rfl (nI_1 r2) (by decide) rfl rfl ?_
              refine z_goto (pc' := 73) C dX4_foldInto_103 rfl ?_
              exact z_cast rfl rfl rfl rfl rfl (ih73 (r2 + 1) (by omega) (by omega))
        exact z_cast rfl rfl rfl (by first | rfl | (have e9 : r = R + 1 := (by omega); subst e9; rfl)) rfl (L73 (_ + 1) 0 (by omega) (Nat.lt_succ_self _))
      · refine z_iconst (v := 0) (pc' := 31) C dX4_foldInto_30 rfl rfl ?_
        refine z_istore (lv' := [(6, .int 0), (5, .int (nI r)), (3, .long (s_sfr ia K (s_fo (s_fo h (nI R).toInt64) (nI K).toInt64) r)), (0, .ref (G.2.1 4))]) (pc' := 33) C dX4_foldInto_31 (by decide) rfl rfl ?_
        have L33 : ∀ (fuel : Nat) (c : Nat) (hc : c ≤ K), K - c < fuel → Z sc ia la [(6, .int (nI c)), (5, .int (nI r)), (3, .long (s_sfc ia r (s_sfr ia K (s_fo (s_fo h (nI R).toInt64) (nI K).toInt64) r) c)), (0, .ref (G.2.1 4))] 33 [] := by
          intro fuel
          induction fuel with
          | zero => intro c hc hm33; exact absurd hm33 (Nat.not_lt_zero _)
          | succ fuel ih33 =>
            intro c hc hm33
            refine z_iload (pc' := 35) C dX4_foldInto_33 0 rfl rfl ?_
            refine z_aload_n (pc' := 36) C dX4_foldInto_35 rfl 3 rfl rfl ?_
            refine z_get (pc' := 39) C hU4 4 (by decide) q_o4 rfl 1 (by decide) (by decide +kernel) (v := .int (sc 4)) rfl dX4_foldInto_36 rfl ?_
            refine z_cast (st' := [.int (nI K), .int (nI c)]) rfl rfl rfl rfl (congrArg (fun z => Value.int z :: [.int (nI c)]) hC) ?_
            refine z_icmpN_ge (a := c) (b := K) (pc' := 42) C 64 (by omega) (by omega) dX4_foldInto_39 rfl rfl (fun h_39 => ?_) (fun h_39 => ?_)
            · refine z_iinc (v := nI (r + 1)) (k9 := 1) (lv' := [(5, .int (nI (r + 1))), (6, .int (nI c)), (3, .long (s_sfc ia r (s_sfr ia K (s_fo (s_fo h (nI R).toInt64) (nI K).toInt64) r) c)), (0, .ref (G.2.1 4))]) (pc' := 67) C dX4_foldInto_64 rfl (nI_1 r) (by decide) rfl rfl ?_
              refine z_goto (pc' := 21) C dX4_foldInto_67 rfl ?_
              refine z_sub (lv' := [(5, .int (nI (r + 1))), (3, .long (s_sfc ia r (s_sfr ia K (s_fo (s_fo h (nI R).toInt64) (nI K).toInt64) r) c)), (0, .ref (G.2.1 4))]) C [0, 2, 3] rfl ?_
              exact z_cast rfl rfl rfl (by first | rfl | (have e9 : c = K := (by omega); subst e9; rfl)) rfl (ih21 (r + 1) (by omega) (by omega))
            · refine z_lload_n (pc' := 43) C dX4_foldInto_42 rfl 2 rfl rfl ?_
              refine z_aload_n (pc' := 44) C dX4_foldInto_43 rfl 3 rfl rfl ?_
              refine z_get (pc' := 47) C hU4 4 (by decide) q_o4 rfl 2 (by decide) (by decide +kernel) (v := .ref (G.2.1 50)) rfl dX4_foldInto_44 rfl ?_
              refine z_iload (pc' := 49) C dX4_foldInto_47 1 rfl rfl ?_
              refine z_aald (pc' := 50) C 50 (by decide) (i := r) (a := G.2.1 (17 + r)) (ty := .int) rfl q_v50 (by omega) (by decide) (if_pos (by omega)) dX4_foldInto_49 rfl ?_
              refine z_iload (pc' := 52) C dX4_foldInto_50 0 rfl rfl ?_
              refine z_iald (pc' := 53) C (17 + r) (by omega) (N := 9) (i := c) (f := ia (10 + r)) (q_ir10 r (by omega)) (by omega) (by decide) dX4_foldInto_52 rfl ?_
              refine z_i2l (pc' := 54) C dX4_foldInto_53 rfl ?_
              refine z_cN (n := 2) (pc' := 57) (As := [.long (s_sfc ia r (s_sfr ia K (s_fo (s_fo h (nI R).toInt64) (nI K).toInt64) r) c), .long (((ia (10 + r)) c).toInt64)]) (rest := []) C (c_X5_fold l G sc ia la (s_sfc ia r (s_sfr ia K (s_fo (s_fo h (nI R).toInt64) (nI K).toInt64) r) c) (((ia (10 + r)) c).toInt64)) gX4_foldInto_X5_fold_n33 rfl rfl rfl (by decide +kernel) (by decide +kernel) (by decide +kernel) (by decide +kernel) (by decide) rfl rfl dX4_foldInto_54 (Nat.le_of_ble_eq_true rfl) rfl (k_L ?_)
              show Z sc ia la [(6, .int (nI c)), (5, .int (nI r)), (3, .long (s_sfc ia r (s_sfr ia K (s_fo (s_fo h (nI R).toInt64) (nI K).toInt64) r) c)), (0, .ref (G.2.1 4))] 57 [.long (s_fo (s_sfc ia r (s_sfr ia K (s_fo (s_fo h (nI R).toInt64) (nI K).toInt64) r) c) (((ia (10 + r)) c).toInt64))]
              refine z_lstore_n (lv' := [(3, .long (s_fo (s_sfc ia r (s_sfr ia K (s_fo (s_fo h (nI R).toInt64) (nI K).toInt64) r) c) (((ia (10 + r)) c).toInt64))), (6, .int (nI c)), (5, .int (nI r)), (0, .ref (G.2.1 4))]) (pc' := 58) C dX4_foldInto_57 rfl (by decide) rfl rfl ?_
              refine z_iinc (v := nI (c + 1)) (k9 := 1) (lv' := [(6, .int (nI (c + 1))), (3, .long (s_fo (s_sfc ia r (s_sfr ia K (s_fo (s_fo h (nI R).toInt64) (nI K).toInt64) r) c) (((ia (10 + r)) c).toInt64))), (5, .int (nI r)), (0, .ref (G.2.1 4))]) (pc' := 61) C dX4_foldInto_58 rfl (nI_1 c) (by decide) rfl rfl ?_
              refine z_goto (pc' := 33) C dX4_foldInto_61 rfl ?_
              refine z_sub (lv' := [(6, .int (nI (c + 1))), (5, .int (nI r)), (3, .long (s_fo (s_sfc ia r (s_sfr ia K (s_fo (s_fo h (nI R).toInt64) (nI K).toInt64) r) c) (((ia (10 + r)) c).toInt64))), (0, .ref (G.2.1 4))]) C [0, 2, 1, 3] rfl ?_
              exact z_cast rfl rfl rfl rfl rfl (ih33 (c + 1) (by omega) (by omega))
        exact z_cast rfl rfl rfl rfl rfl (L33 (_ + 1) 0 (by omega) (Nat.lt_succ_self _))
  refine z_sub (lv' := [(5, .int 0), (3, .long (s_fo (s_fo h ((nI R).toInt64)) ((nI K).toInt64))), (0, .ref (G.2.1 4))]) C [0, 1, 2] rfl ?_
  exact z_cast rfl rfl rfl rfl rfl (L21 (_ + 1) 0 (by omega) (Nat.lt_succ_self _))

set_option maxHeartbeats 4000000 in
set_option maxRecDepth 100000 in
theorem c_X3_has (l : Launch) (G : Gv) (sc : Sc) (ia : Ia) (la : La) (i : Int32)  : Ct l yX3_has wsX3_has ({ frames := 0, cells := 0, slots := 0, locals := 0 }) G [.ref (G.2.1 3), .int i] sc ia la (fI (bI (s_has i (sc 5))) sc ia la) := by
  have hU3 : ∀ w ∈ u_ws RX3 TX3 3, w ∈ wsX3_has := fun w h => List.mem_cons_of_mem _ (List.mem_append_right _ h)
  refine z_of (maxL := 2) (own := RX3) [(0, .ref (G.2.1 3)), (1, .int i)] rfl (by decide +kernel) rfl (Nat.le_of_ble_eq_true rfl) rfl (fun Z C E => ?_)
  refine z_iload_n (pc' := 1) C dX3_has_0 rfl 1 rfl rfl ?_
  refine z_if_lt (pc' := 4) C 16 dX3_has_1 rfl rfl (fun h_1 => ?_) (fun h_1 => ?_)
  · refine z_iconst (v := 0) (pc' := 17) C dX3_has_16 rfl rfl ?_
    exact z_zret (E := E) rfl dX3_has_17 (rfl) ⟨(congrArg (fun z => some (Value.int z)) (show _ = _ from (by first | rfl | (simp [s_has, bI, h_1])))), rfl, rfl, rfl⟩
  · refine z_iload_n (pc' := 5) C dX3_has_4 rfl 1 rfl rfl ?_
    refine z_aload_n (pc' := 6) C dX3_has_5 rfl 0 rfl rfl ?_
    refine z_get (pc' := 9) C hU3 3 (by decide) q_o3 rfl 0 (by decide) (by decide +kernel) (v := .int (sc 5)) rfl dX3_has_6 rfl ?_
    refine z_icmp_ge (pc' := 12) C 16 dX3_has_9 rfl rfl (fun h_9 => ?_) (fun h_9 => ?_)
    · refine z_iconst (v := 0) (pc' := 17) C dX3_has_16 rfl rfl ?_
      exact z_zret (E := E) rfl dX3_has_17 (rfl) ⟨(congrArg (fun z => some (Value.int z)) (show _ = _ from (by first | rfl | (simp [s_has, bI, h_1, h_9])))), rfl, rfl, rfl⟩
    · refine z_iconst (v := 1) (pc' := 13) C dX3_has_12 rfl rfl ?_
      refine z_goto (pc' := 17) C dX3_has_13 rfl ?_
      exact z_zret (E := E) rfl dX3_has_17 (rfl) ⟨(congrArg (fun z => some (Value.int z)) (show _ = _ from (by first | rfl | (simp [s_has, bI, h_1, h_9])))), rfl, rfl, rfl⟩

theorem c_X3_has_no (l : Launch) (G : Gv) (sc : Sc) (ia : Ia) (la : La) (i : Int32) (h : s_has i (sc 5) = false) : Ct l yX3_has wsX3_has ({ frames := 0, cells := 0, slots := 0, locals := 0 }) G [.ref (G.2.1 3), .int i] sc ia la (fI 0 sc ia la) := by
  have h9 := c_X3_has l G sc ia la i
  rw [h] at h9
  exact h9
theorem c_X3_has_ok (l : Launch) (G : Gv) (sc : Sc) (ia : Ia) (la : La) (m : Nat) (hm : sc 5 = nI m) (hM : m ≤ 5) (j : Nat) (hj : j < m) : Ct l yX3_has wsX3_has ({ frames := 0, cells := 0, slots := 0, locals := 0 }) G [.ref (G.2.1 3), .int (nI j)] sc ia la (fI 1 sc ia la) := by
  have h9 := c_X3_has l G sc ia la (nI j)
  rw [hm, s_has_ok (by omega) hj] at h9
  exact h9
set_option maxHeartbeats 4000000 in
set_option maxRecDepth 100000 in
theorem c_X3_put (l : Launch) (G : Gv) (sc : Sc) (ia : Ia) (la : La) (a b : Nat) (v : Int32) (z : Bool) (ha : a < 5) (hb : b < 5)  : Ct l yX3_put wsX3_put ({ frames := 0, cells := 0, slots := 0, locals := 0 }) G [.ref (G.2.1 3), .int (nI a), .int (nI b), .int v, .int (bI (z))] sc ia la (fV sc (s_put ia a b (bI z) (if z = true then v else 0)) la) := by
  have hU3 : ∀ w ∈ u_ws RX3 TX3 3, w ∈ wsX3_put := fun w h => List.mem_cons_of_mem _ (List.mem_append_right _ h)
  refine z_of (maxL := 7) (own := RX3) [(0, .ref (G.2.1 3)), (1, .int (nI a)), (2, .int (nI b)), (3, .int v), (4, .int (bI (z)))] rfl (by decide +kernel) rfl (Nat.le_of_ble_eq_true rfl) rfl (fun Z C E => ?_)
  refine z_iload (pc' := 2) C dX3_put_0 4 rfl rfl ?_
  have J10 : Z sc ia la [(0, .ref (G.2.1 3)), (1, .int (nI a)), (2, .int (nI b)), (3, .int v), (4, .int (bI (z)))] 10 [.int (bI (z))] := by
    refine z_istore (lv' := [(5, .int (bI (z))), (0, .ref (G.2.1 3)), (1, .int (nI a)), (2, .int (nI b)), (3, .int v), (4, .int (bI (z)))]) (pc' := 12) C dX3_put_10 (by decide) rfl rfl ?_
    refine z_iload (pc' := 14) C dX3_put_12 5 rfl rfl ?_
    have J22 : Z sc ia la [(5, .int (bI (z))), (0, .ref (G.2.1 3)), (1, .int (nI a)), (2, .int (nI b)), (3, .int v), (4, .int (bI (z)))] 22 [.int (if z = true then v else 0)] := by
      refine z_istore (lv' := [(6, .int (if z = true then v else 0)), (5, .int (bI (z))), (0, .ref (G.2.1 3)), (1, .int (nI a)), (2, .int (nI b)), (3, .int v), (4, .int (bI (z)))]) (pc' := 24) C dX3_put_22 (by decide) rfl rfl ?_
      refine z_aload_n (pc' := 25) C dX3_put_24 rfl 2 rfl rfl ?_
      refine z_get (pc' := 28) C hU3 3 (by decide) q_o3 rfl 1 (by decide) (by decide +kernel) (v := .ref (G.2.1 51)) rfl dX3_put_25 rfl ?_
      refine z_iload_n (pc' := 29) C dX3_put_28 rfl 3 rfl rfl ?_
      refine z_aald (pc' := 30) C 51 (by decide) (i := a) (a := G.2.1 (26 + a)) (ty := .int) rfl q_v51 (by omega) (by decide) (if_pos (by omega)) dX3_put_29 rfl ?_
      refine z_iload_n (pc' := 31) C dX3_put_30 rfl 4 rfl rfl ?_
      refine z_iload (pc' := 33) C dX3_put_31 1 rfl rfl ?_
      refine z_iast (pc' := 34) C (26 + a) (by omega) (N := 5) (i := b) (f := ia (19 + a)) (q_ir19 a (by omega)) (by omega) (by decide) (q_ur19 a (by omega) _) dX3_put_33 rfl ?_
      refine z_aload_n (pc' := 35) C dX3_put_34 rfl 2 rfl rfl ?_
      refine z_get (pc' := 38) C hU3 3 (by decide) q_o3 rfl 1 (by decide) (by decide +kernel) (v := .ref (G.2.1 51)) rfl dX3_put_35 rfl ?_
      refine z_iload_n (pc' := 39) C dX3_put_38 rfl 4 rfl rfl ?_
      refine z_aald (pc' := 40) C 51 (by decide) (i := b) (a := G.2.1 (26 + b)) (ty := .int) rfl q_v51 (by omega) (by decide) (if_pos (by omega)) dX3_put_39 rfl ?_
      refine z_iload_n (pc' := 41) C dX3_put_40 rfl 3 rfl rfl ?_
      refine z_iload (pc' := 43) C dX3_put_41 1 rfl rfl ?_
      refine z_iast (pc' := 44) C (26 + b) (by omega) (N := 5) (i := a) (f := (va_up ia (19 + a) (upd (ia (19 + a)) b (bI (z)))) (19 + b)) (q_ir19 b (by omega)) (by omega) (by decide) (q_ur19 b (by omega) _) dX3_put_43 rfl ?_
      refine z_aload_n (pc' := 45) C dX3_put_44 rfl 2 rfl rfl ?_
      refine z_get (pc' := 48) C hU3 3 (by decide) q_o3 rfl 2 (by decide) (by decide +kernel) (v := .ref (G.2.1 52)) rfl dX3_put_45 rfl ?_
      refine z_iload_n (pc' := 49) C dX3_put_48 rfl 3 rfl rfl ?_
      refine z_aald (pc' := 50) C 52 (by decide) (i := a) (a := G.2.1 (31 + a)) (ty := .int) rfl q_v52 (by omega) (by decide) (if_pos (by omega)) dX3_put_49 rfl ?_
      refine z_iload_n (pc' := 51) C dX3_put_50 rfl 4 rfl rfl ?_
      refine z_iload (pc' := 53) C dX3_put_51 0 rfl rfl ?_
      refine z_iast (pc' := 54) C (31 + a) (by omega) (N := 5) (i := b) (f := (va_up (va_up ia (19 + a) (upd (ia (19 + a)) b (bI (z)))) (19 + b) (upd ((va_up ia (19 + a) (upd (ia (19 + a)) b (bI (z)))) (19 + b)) a (bI (z)))) (24 + a)) (q_ir24 a (by omega)) (by omega) (by decide) (q_ur24 a (by omega) _) dX3_put_53 rfl ?_
      refine z_aload_n (pc' := 55) C dX3_put_54 rfl 2 rfl rfl ?_
      refine z_get (pc' := 58) C hU3 3 (by decide) q_o3 rfl 2 (by decide) (by decide +kernel) (v := .ref (G.2.1 52)) rfl dX3_put_55 rfl ?_
      refine z_iload_n (pc' := 59) C dX3_put_58 rfl 4 rfl rfl ?_
      refine z_aald (pc' := 60) C 52 (by decide) (i := b) (a := G.2.1 (31 + b)) (ty := .int) rfl q_v52 (by omega) (by decide) (if_pos (by omega)) dX3_put_59 rfl ?_
      refine z_iload_n (pc' := 61) C dX3_put_60 rfl 3 rfl rfl ?_
      refine z_iload (pc' := 63) C dX3_put_61 0 rfl rfl ?_
      refine z_iast (pc' := 64) C (31 + b) (by omega) (N := 5) (i := a) (f := (va_up (va_up (va_up ia (19 + a) (upd (ia (19 + a)) b (bI (z)))) (19 + b) (upd ((va_up ia (19 + a) (upd (ia (19 + a)) b (bI (z)))) (19 + b)) a (bI (z)))) (24 + a) (upd ((va_up (va_up ia (19 + a) (upd (ia (19 + a)) b (bI (z)))) (19 + b) (upd ((va_up ia (19 + a) (upd (ia (19 + a)) b (bI (z)))) (19 + b)) a (bI (z)))) (24 + a)) b (if z = true then v else 0))) (24 + b)) (q_ir24 b (by omega)) (by omega) (by decide) (q_ur24 b (by omega) _) dX3_put_63 rfl ?_
      exact z_vret (E := E) rfl dX3_put_64 ⟨rfl, rfl, rfl, rfl⟩
    refine z_ifB_eq (pc' := 17) C 21 dX3_put_14 rfl rfl (fun h_14 => ?_) (fun h_14 => ?_)
    · refine z_iconst (v := 0) (pc' := 22) C dX3_put_21 rfl rfl ?_
      exact z_cast rfl rfl rfl rfl (by first | rfl | (simp [bI, h_14])) J22
    · refine z_iload_n (pc' := 18) C dX3_put_17 rfl 4 rfl rfl ?_
      refine z_goto (pc' := 22) C dX3_put_18 rfl ?_
      exact z_cast rfl rfl rfl rfl (by first | rfl | (simp [bI, h_14])) J22
  refine z_ifB_eq (pc' := 5) C 9 dX3_put_2 rfl rfl (fun h_2 => ?_) (fun h_2 => ?_)
  · refine z_iconst (v := 0) (pc' := 10) C dX3_put_9 rfl rfl ?_
    exact z_cast rfl rfl rfl rfl (by first | rfl | (simp [bI, h_2])) J10
  · refine z_iconst (v := 1) (pc' := 6) C dX3_put_5 rfl rfl ?_
    refine z_goto (pc' := 10) C dX3_put_6 rfl ?_
    exact z_cast rfl rfl rfl rfl (by first | rfl | (simp [bI, h_2])) J10

set_option maxHeartbeats 4000000 in
set_option maxRecDepth 100000 in
theorem c_X3_isWhole (l : Launch) (G : Gv) (sc : Sc) (ia : Ia) (la : La) (a b c : Nat) (ha : a < 5) (hb : b < 5) (hc : c < 5)  : Ct l yX3_isWhole wsX3_isWhole ({ frames := 0, cells := 0, slots := 0, locals := 0 }) G [.ref (G.2.1 3), .int (nI a), .int (nI b), .int (nI c)] sc ia la (fI (bI (s_wh ia a b c)) sc ia la) := by
  have hU3 : ∀ w ∈ u_ws RX3 TX3 3, w ∈ wsX3_isWhole := fun w h => List.mem_cons_of_mem _ (List.mem_append_right _ h)
  refine z_of (maxL := 4) (own := RX3) [(0, .ref (G.2.1 3)), (1, .int (nI a)), (2, .int (nI b)), (3, .int (nI c))] rfl (by decide +kernel) rfl (Nat.le_of_ble_eq_true rfl) rfl (fun Z C E => ?_)
  refine z_aload_n (pc' := 1) C dX3_isWhole_0 rfl 0 rfl rfl ?_
  refine z_get (pc' := 4) C hU3 3 (by decide) q_o3 rfl 1 (by decide) (by decide +kernel) (v := .ref (G.2.1 51)) rfl dX3_isWhole_1 rfl ?_
  refine z_iload_n (pc' := 5) C dX3_isWhole_4 rfl 1 rfl rfl ?_
  refine z_aald (pc' := 6) C 51 (by decide) (i := a) (a := G.2.1 (26 + a)) (ty := .int) rfl q_v51 (by omega) (by decide) (if_pos (by omega)) dX3_isWhole_5 rfl ?_
  refine z_iload_n (pc' := 7) C dX3_isWhole_6 rfl 2 rfl rfl ?_
  refine z_iald (pc' := 8) C (26 + a) (by omega) (N := 5) (i := b) (f := ia (19 + a)) (q_ir19 a (by omega)) (by omega) (by decide) dX3_isWhole_7 rfl ?_
  refine z_iconst (v := 1) (pc' := 9) C dX3_isWhole_8 rfl rfl ?_
  refine z_icmp_ne (pc' := 12) C 40 dX3_isWhole_9 rfl rfl (fun h_9 => ?_) (fun h_9 => ?_)
  · refine z_iconst (v := 0) (pc' := 41) C dX3_isWhole_40 rfl rfl ?_
    exact z_zret (E := E) rfl dX3_isWhole_41 (rfl) ⟨(congrArg (fun z => some (Value.int z)) (show _ = _ from (by first | rfl | (simp [s_wh, bI, h_9])))), rfl, rfl, rfl⟩
  · refine z_aload_n (pc' := 13) C dX3_isWhole_12 rfl 0 rfl rfl ?_
    refine z_get (pc' := 16) C hU3 3 (by decide) q_o3 rfl 1 (by decide) (by decide +kernel) (v := .ref (G.2.1 51)) rfl dX3_isWhole_13 rfl ?_
    refine z_iload_n (pc' := 17) C dX3_isWhole_16 rfl 1 rfl rfl ?_
    refine z_aald (pc' := 18) C 51 (by decide) (i := a) (a := G.2.1 (26 + a)) (ty := .int) rfl q_v51 (by omega) (by decide) (if_pos (by omega)) dX3_isWhole_17 rfl ?_
    refine z_iload_n (pc' := 19) C dX3_isWhole_18 rfl 3 rfl rfl ?_
    refine z_iald (pc' := 20) C (26 + a) (by omega) (N := 5) (i := c) (f := ia (19 + a)) (q_ir19 a (by omega)) (by omega) (by decide) dX3_isWhole_19 rfl ?_
    refine z_iconst (v := 1) (pc' := 21) C dX3_isWhole_20 rfl rfl ?_
    refine z_icmp_ne (pc' := 24) C 40 dX3_isWhole_21 rfl rfl (fun h_21 => ?_) (fun h_21 => ?_)
    · refine z_iconst (v := 0) (pc' := 41) C dX3_isWhole_40 rfl rfl ?_
      exact z_zret (E := E) rfl dX3_isWhole_41 (rfl) ⟨(congrArg (fun z => some (Value.int z)) (show _ = _ from (by first | rfl | (simp [s_wh, bI, h_9, h_21])))), rfl, rfl, rfl⟩
    · refine z_aload_n (pc' := 25) C dX3_isWhole_24 rfl 0 rfl rfl ?_
      refine z_get (pc' := 28) C hU3 3 (by decide) q_o3 rfl 1 (by decide) (by decide +kernel) (v := .ref (G.2.1 51)) rfl dX3_isWhole_25 rfl ?_
      refine z_iload_n (pc' := 29) C dX3_isWhole_28 rfl 2 rfl rfl ?_
      refine z_aald (pc' := 30) C 51 (by decide) (i := b) (a := G.2.1 (26 + b)) (ty := .int) rfl q_v51 (by omega) (by decide) (if_pos (by omega)) dX3_isWhole_29 rfl ?_
      refine z_iload_n (pc' := 31) C dX3_isWhole_30 rfl 3 rfl rfl ?_
      refine z_iald (pc' := 32) C (26 + b) (by omega) (N := 5) (i := c) (f := ia (19 + b)) (q_ir19 b (by omega)) (by omega) (by decide) dX3_isWhole_31 rfl ?_
      refine z_iconst (v := 1) (pc' := 33) C dX3_isWhole_32 rfl rfl ?_
      refine z_icmp_ne (pc' := 36) C 40 dX3_isWhole_33 rfl rfl (fun h_33 => ?_) (fun h_33 => ?_)
      · refine z_iconst (v := 0) (pc' := 41) C dX3_isWhole_40 rfl rfl ?_
        exact z_zret (E := E) rfl dX3_isWhole_41 (rfl) ⟨(congrArg (fun z => some (Value.int z)) (show _ = _ from (by first | rfl | (simp [s_wh, bI, h_9, h_21, h_33])))), rfl, rfl, rfl⟩
      · refine z_iconst (v := 1) (pc' := 37) C dX3_isWhole_36 rfl rfl ?_
        refine z_goto (pc' := 41) C dX3_isWhole_37 rfl ?_
        exact z_zret (E := E) rfl dX3_isWhole_41 (rfl) ⟨(congrArg (fun z => some (Value.int z)) (show _ = _ from (by first | rfl | (simp [s_wh, bI, h_9, h_21, h_33])))), rfl, rfl, rfl⟩

set_option maxHeartbeats 4000000 in
set_option maxRecDepth 100000 in
theorem c_X3_gainBy (l : Launch) (G : Gv) (sc : Sc) (ia : Ia) (la : La) (a b c : Nat) (ha : a < 5) (hb : b < 5) (hc : c < 5)  : Ct l yX3_gainBy wsX3_gainBy ({ frames := 0, cells := 0, slots := 0, locals := 0 }) G [.ref (G.2.1 3), .int (nI a), .int (nI b), .int (nI c)] sc ia la (fI (s_ga ia a b c) sc ia la) := by
  have hU3 : ∀ w ∈ u_ws RX3 TX3 3, w ∈ wsX3_gainBy := fun w h => List.mem_cons_of_mem _ (List.mem_append_right _ h)
  refine z_of (maxL := 4) (own := RX3) [(0, .ref (G.2.1 3)), (1, .int (nI a)), (2, .int (nI b)), (3, .int (nI c))] rfl (by decide +kernel) rfl (Nat.le_of_ble_eq_true rfl) rfl (fun Z C E => ?_)
  refine z_aload_n (pc' := 1) C dX3_gainBy_0 rfl 0 rfl rfl ?_
  refine z_get (pc' := 4) C hU3 3 (by decide) q_o3 rfl 2 (by decide) (by decide +kernel) (v := .ref (G.2.1 52)) rfl dX3_gainBy_1 rfl ?_
  refine z_iload_n (pc' := 5) C dX3_gainBy_4 rfl 1 rfl rfl ?_
  refine z_aald (pc' := 6) C 52 (by decide) (i := a) (a := G.2.1 (31 + a)) (ty := .int) rfl q_v52 (by omega) (by decide) (if_pos (by omega)) dX3_gainBy_5 rfl ?_
  refine z_iload_n (pc' := 7) C dX3_gainBy_6 rfl 2 rfl rfl ?_
  refine z_iald (pc' := 8) C (31 + a) (by omega) (N := 5) (i := b) (f := ia (24 + a)) (q_ir24 a (by omega)) (by omega) (by decide) dX3_gainBy_7 rfl ?_
  refine z_aload_n (pc' := 9) C dX3_gainBy_8 rfl 0 rfl rfl ?_
  refine z_get (pc' := 12) C hU3 3 (by decide) q_o3 rfl 2 (by decide) (by decide +kernel) (v := .ref (G.2.1 52)) rfl dX3_gainBy_9 rfl ?_
  refine z_iload_n (pc' := 13) C dX3_gainBy_12 rfl 1 rfl rfl ?_
  refine z_aald (pc' := 14) C 52 (by decide) (i := a) (a := G.2.1 (31 + a)) (ty := .int) rfl q_v52 (by omega) (by decide) (if_pos (by omega)) dX3_gainBy_13 rfl ?_
  refine z_iload_n (pc' := 15) C dX3_gainBy_14 rfl 3 rfl rfl ?_
  refine z_iald (pc' := 16) C (31 + a) (by omega) (N := 5) (i := c) (f := ia (24 + a)) (q_ir24 a (by omega)) (by omega) (by decide) dX3_gainBy_15 rfl ?_
  refine z_iadd (pc' := 17) C dX3_gainBy_16 rfl ?_
  refine z_aload_n (pc' := 18) C dX3_gainBy_17 rfl 0 rfl rfl ?_
  refine z_get (pc' := 21) C hU3 3 (by decide) q_o3 rfl 2 (by decide) (by decide +kernel) (v := .ref (G.2.1 52)) rfl dX3_gainBy_18 rfl ?_
  refine z_iload_n (pc' := 22) C dX3_gainBy_21 rfl 2 rfl rfl ?_
  refine z_aald (pc' := 23) C 52 (by decide) (i := b) (a := G.2.1 (31 + b)) (ty := .int) rfl q_v52 (by omega) (by decide) (if_pos (by omega)) dX3_gainBy_22 rfl ?_
  refine z_iload_n (pc' := 24) C dX3_gainBy_23 rfl 3 rfl rfl ?_
  refine z_iald (pc' := 25) C (31 + b) (by omega) (N := 5) (i := c) (f := ia (24 + b)) (q_ir24 b (by omega)) (by omega) (by decide) dX3_gainBy_24 rfl ?_
  refine z_isub (pc' := 26) C dX3_gainBy_25 rfl ?_
  exact z_iret (E := E) rfl dX3_gainBy_26 ⟨(congrArg (fun z => some (Value.int z)) rfl), rfl, rfl, rfl⟩

set_option maxHeartbeats 4000000 in
set_option maxRecDepth 100000 in
theorem c_X3_firstGain (l : Launch) (G : Gv) (sc : Sc) (ia : Ia) (la : La) (m : Nat) (hm : sc 5 = nI m) (hM : m ≤ 5) (a : Nat) (ha : a < 5)  : Ct l yX3_firstGain wsX3_firstGain ({ frames := 1, cells := 0, slots := 0, locals := 23 }) G [.ref (G.2.1 3), .int (nI a)] sc ia la (fI (s_fg ia m a) sc ia la) := by
  have hU3 : ∀ w ∈ u_ws RX3 TX3 3, w ∈ wsX3_firstGain := fun w h => List.mem_cons_of_mem _ (List.mem_append_right _ h)
  refine z_of (maxL := 4) (own := RX3) [(0, .ref (G.2.1 3)), (1, .int (nI a))] rfl (by decide +kernel) rfl (Nat.le_of_ble_eq_true rfl) rfl (fun Z C E => ?_)
  refine z_iconst (v := 0) (pc' := 1) C dX3_firstGain_0 rfl rfl ?_
  refine z_istore_n (lv' := [(2, .int 0), (0, .ref (G.2.1 3)), (1, .int (nI a))]) (pc' := 2) C dX3_firstGain_1 rfl (by decide) rfl rfl ?_
  have L2 : ∀ (fuel : Nat) (b : Nat) (hb : b ≤ m) (hbn : ∀ j, j < b → (fun b => (s_g1 ia m a b).isSome) j = false), m - b < fuel → Z sc ia la [(2, .int (nI b)), (0, .ref (G.2.1 3)), (1, .int (nI a))] 2 [] := by
    intro fuel
    induction fuel with
    | zero => intro b hb hbn hm2; exact absurd hm2 (Nat.not_lt_zero _)
    | succ fuel ih2 =>
      intro b hb hbn hm2
      refine z_iload_n (pc' := 3) C dX3_firstGain_2 rfl 0 rfl rfl ?_
      refine z_aload_n (pc' := 4) C dX3_firstGain_3 rfl 1 rfl rfl ?_
      refine z_get (pc' := 7) C hU3 3 (by decide) q_o3 rfl 0 (by decide) (by decide +kernel) (v := .int (sc 5)) rfl dX3_firstGain_4 rfl ?_
      refine z_cast (st' := [.int (nI m), .int (nI b)]) rfl rfl rfl rfl (congrArg (fun z => Value.int z :: [.int (nI b)]) hm) ?_
      refine z_icmpN_ge (a := b) (b := m) (pc' := 10) C 52 (by omega) (by omega) dX3_firstGain_7 rfl rfl (fun h_7 => ?_) (fun h_7 => ?_)
      · refine z_ldc (v := -1000003) (pc' := 54) C (by decide +kernel) dX3_firstGain_52 rfl ?_
        exact z_iret (E := E) rfl dX3_firstGain_54 ⟨(congrArg (fun z => some (Value.int z)) (show _ = _ from (by first | rfl | (have e9 : b = m := (by omega); subst e9; unfold s_fg; rw [s_fi_n hbn])))), rfl, rfl, rfl⟩
      · refine z_iload_n (pc' := 11) C dX3_firstGain_10 rfl 0 rfl rfl ?_
        refine z_iconst (v := 1) (pc' := 12) C dX3_firstGain_11 rfl rfl ?_
        refine z_iadd (pc' := 13) C dX3_firstGain_12 rfl ?_
        refine z_cast (st' := [.int (nI (b + 1))]) rfl rfl rfl rfl (congrArg (fun z => Value.int z :: []) (nI_add _ _)) ?_
        refine z_istore_n (lv' := [(3, .int (nI (b + 1))), (2, .int (nI b)), (0, .ref (G.2.1 3)), (1, .int (nI a))]) (pc' := 14) C dX3_firstGain_13 rfl (by decide) rfl rfl ?_
        have L14 : ∀ (fuel : Nat) (d : Nat) (hd : b + 1 + d ≤ m) (hdn : ∀ j, j < d → (fun d => s_wh ia a b (b + 1 + d)) j = false), m - (b + 1 + d) < fuel → Z sc ia la [(3, .int (nI (b + 1 + d))), (2, .int (nI b)), (0, .ref (G.2.1 3)), (1, .int (nI a))] 14 [] := by
          intro fuel
          induction fuel with
          | zero => intro d hd hdn hm14; exact absurd hm14 (Nat.not_lt_zero _)
          | succ fuel ih14 =>
            intro d hd hdn hm14
            refine z_iload_n (pc' := 15) C dX3_firstGain_14 rfl 0 rfl rfl ?_
            refine z_aload_n (pc' := 16) C dX3_firstGain_15 rfl 2 rfl rfl ?_
            refine z_get (pc' := 19) C hU3 3 (by decide) q_o3 rfl 0 (by decide) (by decide +kernel) (v := .int (sc 5)) rfl dX3_firstGain_16 rfl ?_
            refine z_cast (st' := [.int (nI m), .int (nI (b + 1 + d))]) rfl rfl rfl rfl (congrArg (fun z => Value.int z :: [.int (nI (b + 1 + d))]) hm) ?_
            refine z_icmpN_ge (a := b + 1 + d) (b := m) (pc' := 22) C 46 (by omega) (by omega) dX3_firstGain_19 rfl rfl (fun h_19 => ?_) (fun h_19 => ?_)
            · refine z_iinc (v := nI (b + 1)) (k9 := 1) (lv' := [(2, .int (nI (b + 1))), (3, .int (nI (b + 1 + d))), (0, .ref (G.2.1 3)), (1, .int (nI a))]) (pc' := 49) C dX3_firstGain_46 rfl (nI_1 b) (by decide) rfl rfl ?_
              refine z_goto (pc' := 2) C dX3_firstGain_49 rfl ?_
              refine z_sub (lv' := [(2, .int (nI (b + 1))), (0, .ref (G.2.1 3)), (1, .int (nI a))]) C [0, 2, 3] rfl ?_
              exact z_cast rfl rfl rfl rfl rfl (ih2 (b + 1) (by omega) (by exact s_lt_s hbn (by have e9 : d = m - (b + 1) := (by omega); subst e9; simp [s_g1, s_fi_n hdn])) (by omega))
            · refine z_aload_n (pc' := 23) C dX3_firstGain_22 rfl 2 rfl rfl ?_
              refine z_iload_n (pc' := 24) C dX3_firstGain_23 rfl 3 rfl rfl ?_
              refine z_iload_n (pc' := 25) C dX3_firstGain_24 rfl 1 rfl rfl ?_
              refine z_iload_n (pc' := 26) C dX3_firstGain_25 rfl 0 rfl rfl ?_
              refine z_cV (n := 3) (pc' := 29) (As := [.int (nI a), .int (nI b), .int (nI (b + 1 + d))]) (rest := []) C 3 (c_X3_isWhole l G sc ia la a b (b + 1 + d) (by omega) (by omega) (by omega)) gX3_firstGain_X3_isWhole rfl rfl rfl rfl (by decide +kernel) (by decide) rfl (by decide) q_o3 rfl rfl dX3_firstGain_26 (Nat.le_of_ble_eq_true rfl) rfl (k_I ?_)
              show Z sc ia la [(3, .int (nI (b + 1 + d))), (2, .int (nI b)), (0, .ref (G.2.1 3)), (1, .int (nI a))] 29 [.int (bI (s_wh ia a b (b + 1 + d)))]
              refine z_ifB_eq (pc' := 32) C 40 dX3_firstGain_29 rfl rfl (fun h_29 => ?_) (fun h_29 => ?_)
              · refine z_iinc (v := nI (b + 1 + d + 1)) (k9 := 0) (lv' := [(3, .int (nI (b + 1 + d + 1))), (2, .int (nI b)), (0, .ref (G.2.1 3)), (1, .int (nI a))]) (pc' := 43) C dX3_firstGain_40 rfl (nI_1 (b + 1 + d)) (by decide) rfl rfl ?_
                refine z_goto (pc' := 14) C dX3_firstGain_43 rfl ?_
                exact z_cast rfl rfl rfl rfl rfl (ih14 (d + 1) (by omega) (by exact s_lt_s hdn h_29) (by omega))
              · refine z_aload_n (pc' := 33) C dX3_firstGain_32 rfl 2 rfl rfl ?_
                refine z_iload_n (pc' := 34) C dX3_firstGain_33 rfl 3 rfl rfl ?_
                refine z_iload_n (pc' := 35) C dX3_firstGain_34 rfl 1 rfl rfl ?_
                refine z_iload_n (pc' := 36) C dX3_firstGain_35 rfl 0 rfl rfl ?_
                refine z_cV (n := 3) (pc' := 39) (As := [.int (nI a), .int (nI b), .int (nI (b + 1 + d))]) (rest := []) C 3 (c_X3_gainBy l G sc ia la a b (b + 1 + d) (by omega) (by omega) (by omega)) gX3_firstGain_X3_gainBy rfl rfl rfl rfl (by decide +kernel) (by decide) rfl (by decide) q_o3 rfl rfl dX3_firstGain_36 (Nat.le_of_ble_eq_true rfl) rfl (k_I ?_)
                show Z sc ia la [(3, .int (nI (b + 1 + d))), (2, .int (nI b)), (0, .ref (G.2.1 3)), (1, .int (nI a))] 39 [.int (s_ga ia a b (b + 1 + d))]
                exact z_iret (E := E) rfl dX3_firstGain_39 ⟨(congrArg (fun z => some (Value.int z)) (show _ = _ from (by first | rfl | (have q1 : s_g1 ia m a b = some d := s_fi_s hdn (by omega) h_29; have q2 : s_fi (fun b => (s_g1 ia m a b).isSome) m = some b := s_fi_s hbn (by omega) (by simp [q1]); unfold s_fg; rw [q2]; show _ = (match s_g1 ia m a b with | none => -1000003 | some d => s_ga ia a b (b + 1 + d)); rw [q1])))), rfl, rfl, rfl⟩
        exact z_cast rfl rfl rfl rfl rfl (L14 (_ + 1) 0 (by omega) (fun j h => absurd h (Nat.not_lt_zero j)) (Nat.lt_succ_self _))
  exact z_cast rfl rfl rfl rfl rfl (L2 (_ + 1) 0 (by omega) (fun j h => absurd h (Nat.not_lt_zero j)) (Nat.lt_succ_self _))

set_option maxHeartbeats 4000000 in
set_option maxRecDepth 100000 in
theorem c_X3_spread (l : Launch) (G : Gv) (sc : Sc) (ia : Ia) (la : La) (m : Nat) (hm : sc 5 = nI m) (hM : m ≤ 5) (a : Nat) (ha : a < 5)  : Ct l yX3_spread wsX3_spread ({ frames := 1, cells := 0, slots := 0, locals := 23 }) G [.ref (G.2.1 3), .int (nI a)] sc ia la (fI (s_spr ia m a) sc ia la) := by
  have hU3 : ∀ w ∈ u_ws RX3 TX3 3, w ∈ wsX3_spread := fun w h => List.mem_cons_of_mem _ (List.mem_append_right _ h)
  refine z_of (maxL := 8) (own := RX3) [(0, .ref (G.2.1 3)), (1, .int (nI a))] rfl (by decide +kernel) rfl (Nat.le_of_ble_eq_true rfl) rfl (fun Z C E => ?_)
  refine z_iconst (v := 0) (pc' := 1) C dX3_spread_0 rfl rfl ?_
  refine z_istore_n (lv' := [(2, .int 0), (0, .ref (G.2.1 3)), (1, .int (nI a))]) (pc' := 2) C dX3_spread_1 rfl (by decide) rfl rfl ?_
  refine z_iconst (v := 0) (pc' := 3) C dX3_spread_2 rfl rfl ?_
  refine z_istore_n (lv' := [(3, .int 0), (2, .int 0), (0, .ref (G.2.1 3)), (1, .int (nI a))]) (pc' := 4) C dX3_spread_3 rfl (by decide) rfl rfl ?_
  refine z_iconst (v := 0) (pc' := 5) C dX3_spread_4 rfl rfl ?_
  refine z_istore (lv' := [(4, .int 0), (3, .int 0), (2, .int 0), (0, .ref (G.2.1 3)), (1, .int (nI a))]) (pc' := 7) C dX3_spread_5 (by decide) rfl rfl ?_
  refine z_iconst (v := 0) (pc' := 8) C dX3_spread_7 rfl rfl ?_
  refine z_istore (lv' := [(5, .int 0), (4, .int 0), (3, .int 0), (2, .int 0), (0, .ref (G.2.1 3)), (1, .int (nI a))]) (pc' := 10) C dX3_spread_8 (by decide) rfl rfl ?_
  have L10 : ∀ (fuel : Nat) (b : Nat) (hb : b ≤ m), m - b < fuel → Z sc ia la [(5, .int (nI b)), (4, .int ((s_spo ia m a b).2.2)), (3, .int ((s_spo ia m a b).2.1)), (2, .int ((s_spo ia m a b).1)), (0, .ref (G.2.1 3)), (1, .int (nI a))] 10 [] := by
    intro fuel
    induction fuel with
    | zero => intro b hb hm10; exact absurd hm10 (Nat.not_lt_zero _)
    | succ fuel ih10 =>
      intro b hb hm10
      refine z_iload (pc' := 12) C dX3_spread_10 0 rfl rfl ?_
      refine z_aload_n (pc' := 13) C dX3_spread_12 rfl 4 rfl rfl ?_
      refine z_get (pc' := 16) C hU3 3 (by decide) q_o3 rfl 0 (by decide) (by decide +kernel) (v := .int (sc 5)) rfl dX3_spread_13 rfl ?_
      refine z_cast (st' := [.int (nI m), .int (nI b)]) rfl rfl rfl rfl (congrArg (fun z => Value.int z :: [.int (nI b)]) hm) ?_
      refine z_icmpN_ge (a := b) (b := m) (pc' := 19) C 105 (by omega) (by omega) dX3_spread_16 rfl rfl (fun h_16 => ?_) (fun h_16 => ?_)
      · refine z_iload_n (pc' := 106) C dX3_spread_105 rfl 3 rfl rfl ?_
        refine z_if_eq (pc' := 109) C 116 dX3_spread_106 rfl rfl (fun h_106 => ?_) (fun h_106 => ?_)
        · refine z_iconst (v := -1) (pc' := 117) C dX3_spread_116 rfl rfl ?_
          exact z_iret (E := E) rfl dX3_spread_117 ⟨(congrArg (fun z => some (Value.int z)) (show _ = _ from (by first | rfl | (have e9 : b = m := (by omega); subst e9; simp [s_spr, hb, h_16, h_106])))), rfl, rfl, rfl⟩
        · refine z_iload (pc' := 111) C dX3_spread_109 1 rfl rfl ?_
          refine z_iload_n (pc' := 112) C dX3_spread_111 rfl 2 rfl rfl ?_
          refine z_isub (pc' := 113) C dX3_spread_112 rfl ?_
          refine z_goto (pc' := 117) C dX3_spread_113 rfl ?_
          exact z_iret (E := E) rfl dX3_spread_117 ⟨(congrArg (fun z => some (Value.int z)) (show _ = _ from (by first | rfl | (have e9 : b = m := (by omega); subst e9; simp [s_spr, hb, h_16, h_106])))), rfl, rfl, rfl⟩
      · refine z_iload (pc' := 21) C dX3_spread_19 0 rfl rfl ?_
        refine z_iconst (v := 1) (pc' := 22) C dX3_spread_21 rfl rfl ?_
        refine z_iadd (pc' := 23) C dX3_spread_22 rfl ?_
        refine z_cast (st' := [.int (nI (b + 1))]) rfl rfl rfl rfl (congrArg (fun z => Value.int z :: []) (nI_add _ _)) ?_
        refine z_istore (lv' := [(6, .int (nI (b + 1))), (5, .int (nI b)), (4, .int ((s_spo ia m a b).2.2)), (3, .int ((s_spo ia m a b).2.1)), (2, .int ((s_spo ia m a b).1)), (0, .ref (G.2.1 3)), (1, .int (nI a))]) (pc' := 25) C dX3_spread_23 (by decide) rfl rfl ?_
        have L25 : ∀ (fuel : Nat) (d : Nat) (hd : b + 1 + d ≤ m), m - (b + 1 + d) < fuel → Z sc ia la [(6, .int (nI (b + 1 + d))), (5, .int (nI b)), (4, .int ((s_spi ia a b (s_spo ia m a b) d).2.2)), (3, .int ((s_spi ia a b (s_spo ia m a b) d).2.1)), (2, .int ((s_spi ia a b (s_spo ia m a b) d).1)), (0, .ref (G.2.1 3)), (1, .int (nI a))] 25 [] := by
          intro fuel
          induction fuel with
          | zero => intro d hd hm25; exact absurd hm25 (Nat.not_lt_zero _)
          | succ fuel ih25 =>
            intro d hd hm25
            refine z_iload (pc' := 27) C dX3_spread_25 0 rfl rfl ?_
            refine z_aload_n (pc' := 28) C dX3_spread_27 rfl 5 rfl rfl ?_
            refine z_get (pc' := 31) C hU3 3 (by decide) q_o3 rfl 0 (by decide) (by decide +kernel) (v := .int (sc 5)) rfl dX3_spread_28 rfl ?_
            refine z_cast (st' := [.int (nI m), .int (nI (b + 1 + d))]) rfl rfl rfl rfl (congrArg (fun z => Value.int z :: [.int (nI (b + 1 + d))]) hm) ?_
            refine z_icmpN_ge (a := b + 1 + d) (b := m) (pc' := 34) C 99 (by omega) (by omega) dX3_spread_31 rfl rfl (fun h_31 => ?_) (fun h_31 => ?_)
            · refine z_iinc (v := nI (b + 1)) (k9 := 1) (lv' := [(5, .int (nI (b + 1))), (6, .int (nI (b + 1 + d))), (4, .int ((s_spi ia a b (s_spo ia m a b) d).2.2)), (3, .int ((s_spi ia a b (s_spo ia m a b) d).2.1)), (2, .int ((s_spi ia a b (s_spo ia m a b) d).1)), (0, .ref (G.2.1 3)), (1, .int (nI a))]) (pc' := 102) C dX3_spread_99 rfl (nI_1 b) (by decide) rfl rfl ?_
              refine z_goto (pc' := 10) C dX3_spread_102 rfl ?_
              refine z_sub (lv' := [(5, .int (nI (b + 1))), (4, .int ((s_spi ia a b (s_spo ia m a b) d).2.2)), (3, .int ((s_spi ia a b (s_spo ia m a b) d).2.1)), (2, .int ((s_spi ia a b (s_spo ia m a b) d).1)), (0, .ref (G.2.1 3)), (1, .int (nI a))]) C [0, 2, 3, 4, 5, 6] rfl ?_
              exact z_cast rfl rfl rfl (by first | rfl | (have e9 : d = m - (b + 1) := (by omega); subst e9; rfl)) rfl (ih10 (b + 1) (by omega) (by omega))
            · refine z_aload_n (pc' := 35) C dX3_spread_34 rfl 5 rfl rfl ?_
              refine z_iload_n (pc' := 36) C dX3_spread_35 rfl 6 rfl rfl ?_
              refine z_iload (pc' := 38) C dX3_spread_36 1 rfl rfl ?_
              refine z_iload (pc' := 40) C dX3_spread_38 0 rfl rfl ?_
              refine z_cV (n := 3) (pc' := 43) (As := [.int (nI a), .int (nI b), .int (nI (b + 1 + d))]) (rest := []) C 3 (c_X3_isWhole l G sc ia la a b (b + 1 + d) (by omega) (by omega) (by omega)) gX3_spread_X3_isWhole rfl rfl rfl rfl (by decide +kernel) (by decide) rfl (by decide) q_o3 rfl rfl dX3_spread_40 (Nat.le_of_ble_eq_true rfl) rfl (k_I ?_)
              show Z sc ia la [(6, .int (nI (b + 1 + d))), (5, .int (nI b)), (4, .int ((s_spi ia a b (s_spo ia m a b) d).2.2)), (3, .int ((s_spi ia a b (s_spo ia m a b) d).2.1)), (2, .int ((s_spi ia a b (s_spo ia m a b) d).1)), (0, .ref (G.2.1 3)), (1, .int (nI a))] 43 [.int (bI (s_wh ia a b (b + 1 + d)))]
              refine z_ifB_eq (pc' := 46) C 93 dX3_spread_43 rfl rfl (fun h_43 => ?_) (fun h_43 => ?_)
              · refine z_iinc (v := nI (b + 1 + d + 1)) (k9 := 0) (lv' := [(6, .int (nI (b + 1 + d + 1))), (5, .int (nI b)), (4, .int ((s_spi ia a b (s_spo ia m a b) d).2.2)), (3, .int ((s_spi ia a b (s_spo ia m a b) d).2.1)), (2, .int ((s_spi ia a b (s_spo ia m a b) d).1)), (0, .ref (G.2.1 3)), (1, .int (nI a))]) (pc' := 96) C dX3_spread_93 rfl (nI_1 (b + 1 + d)) (by decide) rfl rfl ?_
                refine z_goto (pc' := 25) C dX3_spread_96 rfl ?_
                exact z_cast rfl rfl rfl (by first | rfl | (simp [s_spi, s_sp1, h_43]; rfl)) rfl (ih25 (d + 1) (by omega) (by omega))
              · refine z_aload_n (pc' := 47) C dX3_spread_46 rfl 5 rfl rfl ?_
                refine z_iload_n (pc' := 48) C dX3_spread_47 rfl 6 rfl rfl ?_
                refine z_iload (pc' := 50) C dX3_spread_48 1 rfl rfl ?_
                refine z_iload (pc' := 52) C dX3_spread_50 0 rfl rfl ?_
                refine z_cV (n := 3) (pc' := 55) (As := [.int (nI a), .int (nI b), .int (nI (b + 1 + d))]) (rest := []) C 3 (c_X3_gainBy l G sc ia la a b (b + 1 + d) (by omega) (by omega) (by omega)) gX3_spread_X3_gainBy rfl rfl rfl rfl (by decide +kernel) (by decide) rfl (by decide) q_o3 rfl rfl dX3_spread_52 (Nat.le_of_ble_eq_true rfl) rfl (k_I ?_)
                show Z sc ia la [(6, .int (nI (b + 1 + d))), (5, .int (nI b)), (4, .int ((s_spi ia a b (s_spo ia m a b) d).2.2)), (3, .int ((s_spi ia a b (s_spo ia m a b) d).2.1)), (2, .int ((s_spi ia a b (s_spo ia m a b) d).1)), (0, .ref (G.2.1 3)), (1, .int (nI a))] 55 [.int (s_ga ia a b (b + 1 + d))]
                refine z_istore (lv' := [(7, .int (s_ga ia a b (b + 1 + d))), (6, .int (nI (b + 1 + d))), (5, .int (nI b)), (4, .int ((s_spi ia a b (s_spo ia m a b) d).2.2)), (3, .int ((s_spi ia a b (s_spo ia m a b) d).2.1)), (2, .int ((s_spi ia a b (s_spo ia m a b) d).1)), (0, .ref (G.2.1 3)), (1, .int (nI a))]) (pc' := 57) C dX3_spread_55 (by decide) rfl rfl ?_
                refine z_iload_n (pc' := 58) C dX3_spread_57 rfl 5 rfl rfl ?_
                have J72 : Z sc ia la [(7, .int (s_ga ia a b (b + 1 + d))), (6, .int (nI (b + 1 + d))), (5, .int (nI b)), (4, .int ((s_spi ia a b (s_spo ia m a b) d).2.2)), (3, .int ((s_spi ia a b (s_spo ia m a b) d).2.1)), (2, .int ((s_spi ia a b (s_spo ia m a b) d).1)), (0, .ref (G.2.1 3)), (1, .int (nI a))] 72 [.int (if (s_spi ia a b (s_spo ia m a b) d).1 = 0 then s_ga ia a b (b + 1 + d) else if s_ga ia a b (b + 1 + d) < (s_spi ia a b (s_spo ia m a b) d).2.1 then s_ga ia a b (b + 1 + d) else (s_spi ia a b (s_spo ia m a b) d).2.1)] := by
                  refine z_istore_n (lv' := [(3, .int (if (s_spi ia a b (s_spo ia m a b) d).1 = 0 then s_ga ia a b (b + 1 + d) else if s_ga ia a b (b + 1 + d) < (s_spi ia a b (s_spo ia m a b) d).2.1 then s_ga ia a b (b + 1 + d) else (s_spi ia a b (s_spo ia m a b) d).2.1)), (7, .int (s_ga ia a b (b + 1 + d))), (6, .int (nI (b + 1 + d))), (5, .int (nI b)), (4, .int ((s_spi ia a b (s_spo ia m a b) d).2.2)), (2, .int ((s_spi ia a b (s_spo ia m a b) d).1)), (0, .ref (G.2.1 3)), (1, .int (nI a))]) (pc' := 73) C dX3_spread_72 rfl (by decide) rfl rfl ?_
                  refine z_iload_n (pc' := 74) C dX3_spread_73 rfl 5 rfl rfl ?_
                  have J89 : Z sc ia la [(3, .int (if (s_spi ia a b (s_spo ia m a b) d).1 = 0 then s_ga ia a b (b + 1 + d) else if s_ga ia a b (b + 1 + d) < (s_spi ia a b (s_spo ia m a b) d).2.1 then s_ga ia a b (b + 1 + d) else (s_spi ia a b (s_spo ia m a b) d).2.1)), (7, .int (s_ga ia a b (b + 1 + d))), (6, .int (nI (b + 1 + d))), (5, .int (nI b)), (4, .int ((s_spi ia a b (s_spo ia m a b) d).2.2)), (2, .int ((s_spi ia a b (s_spo ia m a b) d).1)), (0, .ref (G.2.1 3)), (1, .int (nI a))] 89 [.int (if (s_spi ia a b (s_spo ia m a b) d).1 = 0 then s_ga ia a b (b + 1 + d) else if (s_spi ia a b (s_spo ia m a b) d).2.2 < s_ga ia a b (b + 1 + d) then s_ga ia a b (b + 1 + d) else (s_spi ia a b (s_spo ia m a b) d).2.2)] := by
                    refine z_istore (lv' := [(4, .int (if (s_spi ia a b (s_spo ia m a b) d).1 = 0 then s_ga ia a b (b + 1 + d) else if (s_spi ia a b (s_spo ia m a b) d).2.2 < s_ga ia a b (b + 1 + d) then s_ga ia a b (b + 1 + d) else (s_spi ia a b (s_spo ia m a b) d).2.2)), (3, .int (if (s_spi ia a b (s_spo ia m a b) d).1 = 0 then s_ga ia a b (b + 1 + d) else if s_ga ia a b (b + 1 + d) < (s_spi ia a b (s_spo ia m a b) d).2.1 then s_ga ia a b (b + 1 + d) else (s_spi ia a b (s_spo ia m a b) d).2.1)), (7, .int (s_ga ia a b (b + 1 + d))), (6, .int (nI (b + 1 + d))), (5, .int (nI b)), (2, .int ((s_spi ia a b (s_spo ia m a b) d).1)), (0, .ref (G.2.1 3)), (1, .int (nI a))]) (pc' := 91) C dX3_spread_89 (by decide) rfl rfl ?_
                    refine z_iconst (v := 1) (pc' := 92) C dX3_spread_91 rfl rfl ?_
                    refine z_istore_n (lv' := [(2, .int 1), (4, .int (if (s_spi ia a b (s_spo ia m a b) d).1 = 0 then s_ga ia a b (b + 1 + d) else if (s_spi ia a b (s_spo ia m a b) d).2.2 < s_ga ia a b (b + 1 + d) then s_ga ia a b (b + 1 + d) else (s_spi ia a b (s_spo ia m a b) d).2.2)), (3, .int (if (s_spi ia a b (s_spo ia m a b) d).1 = 0 then s_ga ia a b (b + 1 + d) else if s_ga ia a b (b + 1 + d) < (s_spi ia a b (s_spo ia m a b) d).2.1 then s_ga ia a b (b + 1 + d) else (s_spi ia a b (s_spo ia m a b) d).2.1)), (7, .int (s_ga ia a b (b + 1 + d))), (6, .int (nI (b + 1 + d))), (5, .int (nI b)), (0, .ref (G.2.1 3)), (1, .int (nI a))]) (pc' := 93) C dX3_spread_92 rfl (by decide) rfl rfl ?_
                    refine z_iinc (v := nI (b + 1 + d + 1)) (k9 := 4) (lv' := [(6, .int (nI (b + 1 + d + 1))), (2, .int 1), (4, .int (if (s_spi ia a b (s_spo ia m a b) d).1 = 0 then s_ga ia a b (b + 1 + d) else if (s_spi ia a b (s_spo ia m a b) d).2.2 < s_ga ia a b (b + 1 + d) then s_ga ia a b (b + 1 + d) else (s_spi ia a b (s_spo ia m a b) d).2.2)), (3, .int (if (s_spi ia a b (s_spo ia m a b) d).1 = 0 then s_ga ia a b (b + 1 + d) else if s_ga ia a b (b + 1 + d) < (s_spi ia a b (s_spo ia m a b) d).2.1 then s_ga ia a b (b + 1 + d) else (s_spi ia a b (s_spo ia m a b) d).2.1)), (7, .int (s_ga ia a b (b + 1 + d))), (5, .int (nI b)), (0, .ref (G.2.1 3)), (1, .int (nI a))]) (pc' := 96) C dX3_spread_93 rfl (nI_1 (b + 1 + d)) (by decide) rfl rfl ?_
                    refine z_goto (pc' := 25) C dX3_spread_96 rfl ?_
                    refine z_sub (lv' := [(6, .int (nI (b + 1 + d + 1))), (5, .int (nI b)), (4, .int (if (s_spi ia a b (s_spo ia m a b) d).1 = 0 then s_ga ia a b (b + 1 + d) else if (s_spi ia a b (s_spo ia m a b) d).2.2 < s_ga ia a b (b + 1 + d) then s_ga ia a b (b + 1 + d) else (s_spi ia a b (s_spo ia m a b) d).2.2)), (3, .int (if (s_spi ia a b (s_spo ia m a b) d).1 = 0 then s_ga ia a b (b + 1 + d) else if s_ga ia a b (b + 1 + d) < (s_spi ia a b (s_spo ia m a b) d).2.1 then s_ga ia a b (b + 1 + d) else (s_spi ia a b (s_spo ia m a b) d).2.1)), (2, .int 1), (0, .ref (G.2.1 3)), (1, .int (nI a))]) C [0, 5, 2, 3, 1, 6, 7] rfl ?_
                    exact z_cast rfl rfl rfl (by first | rfl | (simp [s_spi, s_sp1, h_43]; rfl)) rfl (ih25 (d + 1) (by omega) (by omega))
                  refine z_if_eq (pc' := 77) C 87 dX3_spread_74 rfl rfl (fun h_74 => ?_) (fun h_74 => ?_)
                  · refine z_iload (pc' := 89) C dX3_spread_87 1 rfl rfl ?_
                    exact z_cast rfl rfl rfl rfl (by first | rfl | (simp [bI, hb, h_16, hd, h_31, h_43, h_74])) J89
                  · refine z_iload (pc' := 79) C dX3_spread_77 4 rfl rfl ?_
                    refine z_iload (pc' := 81) C dX3_spread_79 1 rfl rfl ?_
                    refine z_mmax (pc' := 84) C (by decide +kernel) (by decide +kernel) (by decide +kernel) (by decide +kernel) (by decide) (Nat.le_of_ble_eq_true rfl) dX3_spread_81 rfl ?_
                    refine z_goto (pc' := 89) C dX3_spread_84 rfl ?_
                    exact z_cast rfl rfl rfl rfl (by first | rfl | (simp [bI, hb, h_16, hd, h_31, h_43, h_74])) J89
                refine z_if_eq (pc' := 61) C 70 dX3_spread_58 rfl rfl (fun h_58 => ?_) (fun h_58 => ?_)
                · refine z_iload (pc' := 72) C dX3_spread_70 0 rfl rfl ?_
                  exact z_cast rfl rfl rfl rfl (by first | rfl | (simp [bI, hb, h_16, hd, h_31, h_43, h_58])) J72
                · refine z_iload_n (pc' := 62) C dX3_spread_61 rfl 4 rfl rfl ?_
                  refine z_iload (pc' := 64) C dX3_spread_62 0 rfl rfl ?_
                  refine z_mmin (pc' := 67) C (by decide +kernel) (by decide +kernel) (by decide +kernel) (by decide +kernel) (by decide) (Nat.le_of_ble_eq_true rfl) dX3_spread_64 rfl ?_
                  refine z_goto (pc' := 72) C dX3_spread_67 rfl ?_
                  exact z_cast rfl rfl rfl rfl (by first | rfl | (simp [bI, hb, h_16, hd, h_31, h_43, h_58])) J72
        exact z_cast rfl rfl rfl rfl rfl (L25 (_ + 1) 0 (by omega) (Nat.lt_succ_self _))
  exact z_cast rfl rfl rfl rfl rfl (L10 (_ + 1) 0 (by omega) (Nat.lt_succ_self _))

set_option maxHeartbeats 4000000 in
set_option maxRecDepth 100000 in
theorem c_X3_countKnown (l : Launch) (G : Gv) (sc : Sc) (ia : Ia) (la : La) (m : Nat) (hm : sc 5 = nI m) (hM : m ≤ 5)  : Ct l yX3_countKnown wsX3_countKnown ({ frames := 0, cells := 0, slots := 0, locals := 0 }) G [.ref (G.2.1 3)] sc ia la (fI (s_cko ia m m) sc ia la) := by
  have hU3 : ∀ w ∈ u_ws RX3 TX3 3, w ∈ wsX3_countKnown := fun w h => List.mem_cons_of_mem _ (List.mem_append_right _ h)
  refine z_of (maxL := 4) (own := RX3) [(0, .ref (G.2.1 3))] rfl (by decide +kernel) rfl (Nat.le_of_ble_eq_true rfl) rfl (fun Z C E => ?_)
  refine z_iconst (v := 0) (pc' := 1) C dX3_countKnown_0 rfl rfl ?_
  refine z_istore_n (lv' := [(1, .int 0), (0, .ref (G.2.1 3))]) (pc' := 2) C dX3_countKnown_1 rfl (by decide) rfl rfl ?_
  refine z_iconst (v := 0) (pc' := 3) C dX3_countKnown_2 rfl rfl ?_
  refine z_istore_n (lv' := [(2, .int 0), (1, .int 0), (0, .ref (G.2.1 3))]) (pc' := 4) C dX3_countKnown_3 rfl (by decide) rfl rfl ?_
  have L4 : ∀ (fuel : Nat) (a : Nat) (ha : a ≤ m), m - a < fuel → Z sc ia la [(2, .int (nI a)), (1, .int (s_cko ia m a)), (0, .ref (G.2.1 3))] 4 [] := by
    intro fuel
    induction fuel with
    | zero => intro a ha hm4; exact absurd hm4 (Nat.not_lt_zero _)
    | succ fuel ih4 =>
      intro a ha hm4
      refine z_iload_n (pc' := 5) C dX3_countKnown_4 rfl 0 rfl rfl ?_
      refine z_aload_n (pc' := 6) C dX3_countKnown_5 rfl 2 rfl rfl ?_
      refine z_get (pc' := 9) C hU3 3 (by decide) q_o3 rfl 0 (by decide) (by decide +kernel) (v := .int (sc 5)) rfl dX3_countKnown_6 rfl ?_
      refine z_cast (st' := [.int (nI m), .int (nI a)]) rfl rfl rfl rfl (congrArg (fun z => Value.int z :: [.int (nI a)]) hm) ?_
      refine z_icmpN_ge (a := a) (b := m) (pc' := 12) C 47 (by omega) (by omega) dX3_countKnown_9 rfl rfl (fun h_9 => ?_) (fun h_9 => ?_)
      · refine z_iload_n (pc' := 48) C dX3_countKnown_47 rfl 1 rfl rfl ?_
        exact z_iret (E := E) rfl dX3_countKnown_48 ⟨(congrArg (fun z => some (Value.int z)) (show _ = _ from (by first | rfl | (have e9 : a = m := (by omega); subst e9; rfl)))), rfl, rfl, rfl⟩
      · refine z_iload_n (pc' := 13) C dX3_countKnown_12 rfl 0 rfl rfl ?_
        refine z_iconst (v := 1) (pc' := 14) C dX3_countKnown_13 rfl rfl ?_
        refine z_iadd (pc' := 15) C dX3_countKnown_14 rfl ?_
        refine z_cast (st' := [.int (nI (a + 1))]) rfl rfl rfl rfl (congrArg (fun z => Value.int z :: []) (nI_add _ _)) ?_
        refine z_istore_n (lv' := [(3, .int (nI (a + 1))), (2, .int (nI a)), (1, .int (s_cko ia m a)), (0, .ref (G.2.1 3))]) (pc' := 16) C dX3_countKnown_15 rfl (by decide) rfl rfl ?_
        have L16 : ∀ (fuel : Nat) (d : Nat) (hd : a + 1 + d ≤ m), m - (a + 1 + d) < fuel → Z sc ia la [(3, .int (nI (a + 1 + d))), (2, .int (nI a)), (1, .int (s_cki ia a (s_cko ia m a) d)), (0, .ref (G.2.1 3))] 16 [] := by
          intro fuel
          induction fuel with
          | zero => intro d hd hm16; exact absurd hm16 (Nat.not_lt_zero _)
          | succ fuel ih16 =>
            intro d hd hm16
            refine z_iload_n (pc' := 17) C dX3_countKnown_16 rfl 0 rfl rfl ?_
            refine z_aload_n (pc' := 18) C dX3_countKnown_17 rfl 3 rfl rfl ?_
            refine z_get (pc' := 21) C hU3 3 (by decide) q_o3 rfl 0 (by decide) (by decide +kernel) (v := .int (sc 5)) rfl dX3_countKnown_18 rfl ?_
            refine z_cast (st' := [.int (nI m), .int (nI (a + 1 + d))]) rfl rfl rfl rfl (congrArg (fun z => Value.int z :: [.int (nI (a + 1 + d))]) hm) ?_
            refine z_icmpN_ge (a := a + 1 + d) (b := m) (pc' := 24) C 41 (by omega) (by omega) dX3_countKnown_21 rfl rfl (fun h_21 => ?_) (fun h_21 => ?_)
            · refine z_iinc (v := nI (a + 1)) (k9 := 1) (lv' := [(2, .int (nI (a + 1))), (3, .int (nI (a + 1 + d))), (1, .int (s_cki ia a (s_cko ia m a) d)), (0, .ref (G.2.1 3))]) (pc' := 44) C dX3_countKnown_41 rfl (nI_1 a) (by decide) rfl rfl ?_
              refine z_goto (pc' := 4) C dX3_countKnown_44 rfl ?_
              refine z_sub (lv' := [(2, .int (nI (a + 1))), (1, .int (s_cki ia a (s_cko ia m a) d)), (0, .ref (G.2.1 3))]) C [0, 2, 3] rfl ?_
              exact z_cast rfl rfl rfl (by first | rfl | (have e9 : d = m - (a + 1) := (by omega); subst e9; rfl)) rfl (ih4 (a + 1) (by omega) (by omega))
            · refine z_iload_n (pc' := 25) C dX3_countKnown_24 rfl 2 rfl rfl ?_
              refine z_aload_n (pc' := 26) C dX3_countKnown_25 rfl 3 rfl rfl ?_
              refine z_get (pc' := 29) C hU3 3 (by decide) q_o3 rfl 1 (by decide) (by decide +kernel) (v := .ref (G.2.1 51)) rfl dX3_countKnown_26 rfl ?_
              refine z_iload_n (pc' := 30) C dX3_countKnown_29 rfl 1 rfl rfl ?_
              refine z_aald (pc' := 31) C 51 (by decide) (i := a) (a := G.2.1 (26 + a)) (ty := .int) rfl q_v51 (by omega) (by decide) (if_pos (by omega)) dX3_countKnown_30 rfl ?_
              refine z_iload_n (pc' := 32) C dX3_countKnown_31 rfl 0 rfl rfl ?_
              refine z_iald (pc' := 33) C (26 + a) (by omega) (N := 5) (i := a + 1 + d) (f := ia (19 + a)) (q_ir19 a (by omega)) (by omega) (by decide) dX3_countKnown_32 rfl ?_
              refine z_iadd (pc' := 34) C dX3_countKnown_33 rfl ?_
              refine z_istore_n (lv' := [(1, .int ((s_cki ia a (s_cko ia m a) d) + ((ia (19 + a)) (a + 1 + d)))), (3, .int (nI (a + 1 + d))), (2, .int (nI a)), (0, .ref (G.2.1 3))]) (pc' := 35) C dX3_countKnown_34 rfl (by decide) rfl rfl ?_
              refine z_iinc (v := nI (a + 1 + d + 1)) (k9 := 1) (lv' := [(3, .int (nI (a + 1 + d + 1))), (1, .int ((s_cki ia a (s_cko ia m a) d) + ((ia (19 + a)) (a + 1 + d)))), (2, .int (nI a)), (0, .ref (G.2.1 3))]) (pc' := 38) C dX3_countKnown_35 rfl (nI_1 (a + 1 + d)) (by decide) rfl rfl ?_
              refine z_goto (pc' := 16) C dX3_countKnown_38 rfl ?_
              refine z_sub (lv' := [(3, .int (nI (a + 1 + d + 1))), (2, .int (nI a)), (1, .int ((s_cki ia a (s_cko ia m a) d) + ((ia (19 + a)) (a + 1 + d)))), (0, .ref (G.2.1 3))]) C [0, 2, 1, 3] rfl ?_
              exact z_cast rfl rfl rfl rfl rfl (ih16 (d + 1) (by omega) (by omega))
        exact z_cast rfl rfl rfl rfl rfl (L16 (_ + 1) 0 (by omega) (Nat.lt_succ_self _))
  exact z_cast rfl rfl rfl rfl rfl (L4 (_ + 1) 0 (by omega) (Nat.lt_succ_self _))

set_option maxHeartbeats 4000000 in
set_option maxRecDepth 100000 in
theorem c_X3_foldInto (l : Launch) (G : Gv) (sc : Sc) (ia : Ia) (la : La) (m : Nat) (hm : sc 5 = nI m) (hM : m ≤ 5) (h : Int64)  : Ct l yX3_foldInto wsX3_foldInto ({ frames := 2, cells := 0, slots := 0, locals := 46 }) G [.ref (G.2.1 3), .long h] sc ia la (fL (s_pfo ia m (s_fo h (nI m).toInt64) m) sc ia la) := by
  have hU3 : ∀ w ∈ u_ws RX3 TX3 3, w ∈ wsX3_foldInto := fun w h => List.mem_cons_of_mem _ (List.mem_append_right _ h)
  refine z_of (maxL := 7) (own := RX3) [(0, .ref (G.2.1 3)), (1, .long h)] rfl (by decide +kernel) rfl (Nat.le_of_ble_eq_true rfl) rfl (fun Z C E => ?_)
  refine z_lload_n (pc' := 1) C dX3_foldInto_0 rfl 1 rfl rfl ?_
  refine z_aload_n (pc' := 2) C dX3_foldInto_1 rfl 0 rfl rfl ?_
  refine z_get (pc' := 5) C hU3 3 (by decide) q_o3 rfl 0 (by decide) (by decide +kernel) (v := .int (sc 5)) rfl dX3_foldInto_2 rfl ?_
  refine z_cast (st' := [.int (nI m), .long h]) rfl rfl rfl rfl (congrArg (fun z => Value.int z :: [.long h]) hm) ?_
  refine z_i2l (pc' := 6) C dX3_foldInto_5 rfl ?_
  refine z_cN (n := 2) (pc' := 9) (As := [.long h, .long ((nI m).toInt64)]) (rest := []) C (c_X5_fold l G sc ia la h ((nI m).toInt64)) gX3_foldInto_X5_fold_n45 rfl rfl rfl (by decide +kernel) (by decide +kernel) (by decide +kernel) (by decide +kernel) (by decide) rfl rfl dX3_foldInto_6 (Nat.le_of_ble_eq_true rfl) rfl (k_L ?_)
  show Z sc ia la [(0, .ref (G.2.1 3)), (1, .long h)] 9 [.long (s_fo h ((nI m).toInt64))]
  refine z_lstore_n (lv' := [(3, .long (s_fo h ((nI m).toInt64))), (0, .ref (G.2.1 3)), (1, .long h)]) (pc' := 10) C dX3_foldInto_9 rfl (by decide) rfl rfl ?_
  refine z_iconst (v := 0) (pc' := 11) C dX3_foldInto_10 rfl rfl ?_
  refine z_istore (lv' := [(5, .int 0), (3, .long (s_fo h ((nI m).toInt64))), (0, .ref (G.2.1 3)), (1, .long h)]) (pc' := 13) C dX3_foldInto_11 (by decide) rfl rfl ?_
  have L13 : ∀ (fuel : Nat) (a : Nat) (ha : a ≤ m), m - a < fuel → Z sc ia la [(5, .int (nI a)), (3, .long (s_pfo ia m (s_fo h (nI m).toInt64) a)), (0, .ref (G.2.1 3))] 13 [] := by
    intro fuel
    induction fuel with
    | zero => intro a ha hm13; exact absurd hm13 (Nat.not_lt_zero _)
    | succ fuel ih13 =>
      intro a ha hm13
      refine z_iload (pc' := 15) C dX3_foldInto_13 0 rfl rfl ?_
      refine z_aload_n (pc' := 16) C dX3_foldInto_15 rfl 2 rfl rfl ?_
      refine z_get (pc' := 19) C hU3 3 (by decide) q_o3 rfl 0 (by decide) (by decide +kernel) (v := .int (sc 5)) rfl dX3_foldInto_16 rfl ?_
      refine z_cast (st' := [.int (nI m), .int (nI a)]) rfl rfl rfl rfl (congrArg (fun z => Value.int z :: [.int (nI a)]) hm) ?_
      refine z_icmpN_ge (a := a) (b := m) (pc' := 22) C 83 (by omega) (by omega) dX3_foldInto_19 rfl rfl (fun h_19 => ?_) (fun h_19 => ?_)
      · refine z_lload_n (pc' := 84) C dX3_foldInto_83 rfl 1 rfl rfl ?_
        exact z_lret (E := E) rfl dX3_foldInto_84 ⟨(congrArg (fun z => some (Value.long z)) (show _ = _ from (by first | rfl | (have e9 : a = m := (by omega); subst e9; rfl)))), rfl, rfl, rfl⟩
      · refine z_iload (pc' := 24) C dX3_foldInto_22 0 rfl rfl ?_
        refine z_iconst (v := 1) (pc' := 25) C dX3_foldInto_24 rfl rfl ?_
        refine z_iadd (pc' := 26) C dX3_foldInto_25 rfl ?_
        refine z_cast (st' := [.int (nI (a + 1))]) rfl rfl rfl rfl (congrArg (fun z => Value.int z :: []) (nI_add _ _)) ?_
        refine z_istore (lv' := [(6, .int (nI (a + 1))), (5, .int (nI a)), (3, .long (s_pfo ia m (s_fo h (nI m).toInt64) a)), (0, .ref (G.2.1 3))]) (pc' := 28) C dX3_foldInto_26 (by decide) rfl rfl ?_
        have L28 : ∀ (fuel : Nat) (d : Nat) (hd : a + 1 + d ≤ m), m - (a + 1 + d) < fuel → Z sc ia la [(6, .int (nI (a + 1 + d))), (5, .int (nI a)), (3, .long (s_pfi ia a (s_pfo ia m (s_fo h (nI m).toInt64) a) d)), (0, .ref (G.2.1 3))] 28 [] := by
          intro fuel
          induction fuel with
          | zero => intro d hd hm28; exact absurd hm28 (Nat.not_lt_zero _)
          | succ fuel ih28 =>
            intro d hd hm28
            refine z_iload (pc' := 30) C dX3_foldInto_28 0 rfl rfl ?_
            refine z_aload_n (pc' := 31) C dX3_foldInto_30 rfl 3 rfl rfl ?_
            refine z_get (pc' := 34) C hU3 3 (by decide) q_o3 rfl 0 (by decide) (by decide +kernel) (v := .int (sc 5)) rfl dX3_foldInto_31 rfl ?_
            refine z_cast (st' := [.int (nI m), .int (nI (a + 1 + d))]) rfl rfl rfl rfl (congrArg (fun z => Value.int z :: [.int (nI (a + 1 + d))]) hm) ?_
            refine z_icmpN_ge (a := a + 1 + d) (b := m) (pc' := 37) C 77 (by omega) (by omega) dX3_foldInto_34 rfl rfl (fun h_34 => ?_) (fun h_34 => ?_)
            · refine z_iinc (v := nI (a + 1)) (k9 := 1) (lv' := [(5, .int (nI (a + 1))), (6, .int (nI (a + 1 + d))), (3, .long (s_pfi ia a (s_pfo ia m (s_fo h (nI m).toInt64) a) d)), (0, .ref (G.2.1 3))]) (pc' := 80) C dX3_foldInto_77 rfl (nI_1 a) (by decide) rfl rfl ?_
              refine z_goto (pc' := 13) C dX3_foldInto_80 rfl ?_
              refine z_sub (lv' := [(5, .int (nI (a + 1))), (3, .long (s_pfi ia a (s_pfo ia m (s_fo h (nI m).toInt64) a) d)), (0, .ref (G.2.1 3))]) C [0, 2, 3] rfl ?_
              exact z_cast rfl rfl rfl (by first | rfl | (have e9 : d = m - (a + 1) := (by omega); subst e9; rfl)) rfl (ih13 (a + 1) (by omega) (by omega))
            · refine z_lload_n (pc' := 38) C dX3_foldInto_37 rfl 2 rfl rfl ?_
              refine z_aload_n (pc' := 39) C dX3_foldInto_38 rfl 3 rfl rfl ?_
              refine z_get (pc' := 42) C hU3 3 (by decide) q_o3 rfl 1 (by decide) (by decide +kernel) (v := .ref (G.2.1 51)) rfl dX3_foldInto_39 rfl ?_
              refine z_iload (pc' := 44) C dX3_foldInto_42 1 rfl rfl ?_
              refine z_aald (pc' := 45) C 51 (by decide) (i := a) (a := G.2.1 (26 + a)) (ty := .int) rfl q_v51 (by omega) (by decide) (if_pos (by omega)) dX3_foldInto_44 rfl ?_
              refine z_iload (pc' := 47) C dX3_foldInto_45 0 rfl rfl ?_
              refine z_iald (pc' := 48) C (26 + a) (by omega) (N := 5) (i := a + 1 + d) (f := ia (19 + a)) (q_ir19 a (by omega)) (by omega) (by decide) dX3_foldInto_47 rfl ?_
              refine z_iconst (v := 1) (pc' := 49) C dX3_foldInto_48 rfl rfl ?_
              have J57 : Z sc ia la [(6, .int (nI (a + 1 + d))), (5, .int (nI a)), (3, .long (s_pfi ia a (s_pfo ia m (s_fo h (nI m).toInt64) a) d)), (0, .ref (G.2.1 3))] 57 [.int (bI (decide (ia (19 + a) (a + 1 + d) = 1))), .long (s_pfi ia a (s_pfo ia m (s_fo h (nI m).toInt64) a) d)] := by
                refine z_aload_n (pc' := 58) C dX3_foldInto_57 rfl 3 rfl rfl ?_
                refine z_get (pc' := 61) C hU3 3 (by decide) q_o3 rfl 2 (by decide) (by decide +kernel) (v := .ref (G.2.1 52)) rfl dX3_foldInto_58 rfl ?_
                refine z_iload (pc' := 63) C dX3_foldInto_61 1 rfl rfl ?_
                refine z_aald (pc' := 64) C 52 (by decide) (i := a) (a := G.2.1 (31 + a)) (ty := .int) rfl q_v52 (by omega) (by decide) (if_pos (by omega)) dX3_foldInto_63 rfl ?_
                refine z_iload (pc' := 66) C dX3_foldInto_64 0 rfl rfl ?_
                refine z_iald (pc' := 67) C (31 + a) (by omega) (N := 5) (i := a + 1 + d) (f := ia (24 + a)) (q_ir24 a (by omega)) (by omega) (by decide) dX3_foldInto_66 rfl ?_
                refine z_cN (n := 3) (pc' := 70) (As := [.long (s_pfi ia a (s_pfo ia m (s_fo h (nI m).toInt64) a) d), .int (bI (decide (ia (19 + a) (a + 1 + d) = 1))), .int ((ia (24 + a)) (a + 1 + d))]) (rest := []) C (c_X5_foldIfKnown l G sc ia la (s_pfi ia a (s_pfo ia m (s_fo h (nI m).toInt64) a) d) (bI (decide (ia (19 + a) (a + 1 + d) = 1))) ((ia (24 + a)) (a + 1 + d))) gX3_foldInto_X5_foldIfKnown_n49 rfl rfl rfl (by decide +kernel) (by decide +kernel) (by decide +kernel) (by decide +kernel) (by decide) rfl rfl dX3_foldInto_67 (Nat.le_of_ble_eq_true rfl) rfl (k_L ?_)
                show Z sc ia la [(6, .int (nI (a + 1 + d))), (5, .int (nI a)), (3, .long (s_pfi ia a (s_pfo ia m (s_fo h (nI m).toInt64) a) d)), (0, .ref (G.2.1 3))] 70 [.long (s_fk (s_pfi ia a (s_pfo ia m (s_fo h (nI m).toInt64) a) d) (bI (decide (ia (19 + a) (a + 1 + d) = 1))) ((ia (24 + a)) (a + 1 + d)))]
                refine z_lstore_n (lv' := [(3, .long (s_fk (s_pfi ia a (s_pfo ia m (s_fo h (nI m).toInt64) a) d) (bI (decide (ia (19 + a) (a + 1 + d) = 1))) ((ia (24 + a)) (a + 1 + d)))), (6, .int (nI (a + 1 + d))), (5, .int (nI a)), (0, .ref (G.2.1 3))]) (pc' := 71) C dX3_foldInto_70 rfl (by decide) rfl rfl ?_
                refine z_iinc (v := nI (a + 1 + d + 1)) (k9 := 1) (lv' := [(6, .int (nI (a + 1 + d + 1))), (3, .long (s_fk (s_pfi ia a (s_pfo ia m (s_fo h (nI m).toInt64) a) d) (bI (decide (ia (19 + a) (a + 1 + d) = 1))) ((ia (24 + a)) (a + 1 + d)))), (5, .int (nI a)), (0, .ref (G.2.1 3))]) (pc' := 74) C dX3_foldInto_71 rfl (nI_1 (a + 1 + d)) (by decide) rfl rfl ?_
                refine z_goto (pc' := 28) C dX3_foldInto_74 rfl ?_
                refine z_sub (lv' := [(6, .int (nI (a + 1 + d + 1))), (5, .int (nI a)), (3, .long (s_fk (s_pfi ia a (s_pfo ia m (s_fo h (nI m).toInt64) a) d) (bI (decide (ia (19 + a) (a + 1 + d) = 1))) ((ia (24 + a)) (a + 1 + d)))), (0, .ref (G.2.1 3))]) C [0, 2, 1, 3] rfl ?_
                exact z_cast rfl rfl rfl rfl rfl (ih28 (d + 1) (by omega) (by omega))
              refine z_icmp_ne (pc' := 52) C 56 dX3_foldInto_49 rfl rfl (fun h_49 => ?_) (fun h_49 => ?_)
              · refine z_iconst (v := 0) (pc' := 57) C dX3_foldInto_56 rfl rfl ?_
                exact z_cast rfl rfl rfl rfl (by first | rfl | (simp [bI, ha, h_19, hd, h_34, h_49])) J57
              · refine z_iconst (v := 1) (pc' := 53) C dX3_foldInto_52 rfl rfl ?_
                refine z_goto (pc' := 57) C dX3_foldInto_53 rfl ?_
                exact z_cast rfl rfl rfl rfl (by first | rfl | (simp [bI, ha, h_19, hd, h_34, h_49])) J57
        exact z_cast rfl rfl rfl rfl rfl (L28 (_ + 1) 0 (by omega) (Nat.lt_succ_self _))
  refine z_sub (lv' := [(5, .int 0), (3, .long (s_fo h ((nI m).toInt64))), (0, .ref (G.2.1 3))]) C [0, 1, 2] rfl ?_
  exact z_cast rfl rfl rfl rfl rfl (L13 (_ + 1) 0 (by omega) (Nat.lt_succ_self _))

set_option maxHeartbeats 4000000 in
set_option maxRecDepth 100000 in
theorem c_X5_rootUp (l : Launch) (G : Gv) (sc : Sc) (ia : Ia) (la : La) (sq : Int64)  : Ct l yX5_rootUp wsX5_rootUp ({ frames := 0, cells := 0, slots := 0, locals := 0 }) G [.long sq] sc ia la (fI (s_ru sq) sc ia la) := by
  refine z_of (maxL := 7) (own := RX5) [(0, .long sq)] rfl (by decide +kernel) rfl (Nat.le_of_ble_eq_true rfl) rfl (fun Z C E => ?_)
  refine z_lload_n (pc' := 1) C dX5_rootUp_0 rfl 0 rfl rfl ?_
  refine z_lconst (v := 0) (pc' := 2) C dX5_rootUp_1 rfl rfl ?_
  refine z_lcmp (pc' := 3) C dX5_rootUp_2 rfl ?_
  refine z_if_gt (pc' := 6) C 8 dX5_rootUp_3 rfl rfl (fun h_3 => ?_) (fun h_3 => ?_)
  · refine z_lconst (v := 0) (pc' := 9) C dX5_rootUp_8 rfl rfl ?_
    refine z_lstore_n (lv' := [(2, .long 0), (0, .long sq)]) (pc' := 10) C dX5_rootUp_9 rfl (by decide) rfl rfl ?_
    refine z_bipush (v := 16) (pc' := 12) C dX5_rootUp_10 rfl rfl ?_
    refine z_istore (lv' := [(4, .int 16), (2, .long 0), (0, .long sq)]) (pc' := 14) C dX5_rootUp_12 (by decide) rfl rfl ?_
    have L14 : ∀ (fuel : Nat) (t : Nat) (y : Int64) (x : Int32) (ht : t ≤ 17) (hx : x = s_b t) (hy : s_rt sq t y = s_rt sq 17 0), t < fuel → Z sc ia la [(4, .int x), (2, .long y), (0, .long sq)] 14 [] := by
      intro fuel
      induction fuel with
      | zero => intro t y x ht hx hy hm14; exact absurd hm14 (Nat.not_lt_zero _)
      | succ fuel ih14 =>
        intro t y x ht hx hy hm14
        refine z_iload (pc' := 16) C dX5_rootUp_14 0 rfl rfl ?_
        refine z_if_lt (pc' := 19) C 46 dX5_rootUp_16 rfl rfl (fun h_16 => ?_) (fun h_16 => ?_)
        · refine z_lload_n (pc' := 47) C dX5_rootUp_46 rfl 1 rfl rfl ?_
          refine z_lconst (v := 1) (pc' := 48) C dX5_rootUp_47 rfl rfl ?_
          refine z_ladd (pc' := 49) C dX5_rootUp_48 rfl ?_
          refine z_l2i (pc' := 50) C dX5_rootUp_49 rfl ?_
          exact z_iret (E := E) rfl dX5_rootUp_50 ⟨(congrArg (fun z => some (Value.int z)) (show _ = _ from (by first | rfl | (rw [lg_cmp_gt] at h_3; have e9 : t = 0 := (by cases t with | zero => rfl | succ b => exact absurd h_16 (by rw [hx]; exact nI_pos (by omega))); subst e9; rw [s_ru, if_pos h_3, ← hy]; rfl)))), rfl, rfl, rfl⟩
        · refine z_lload_n (pc' := 20) C dX5_rootUp_19 rfl 1 rfl rfl ?_
          refine z_lconst (v := 1) (pc' := 21) C dX5_rootUp_20 rfl rfl ?_
          refine z_iload (pc' := 23) C dX5_rootUp_21 0 rfl rfl ?_
          refine z_lshl (pc' := 24) C dX5_rootUp_23 rfl ?_
          refine z_ladd (pc' := 25) C dX5_rootUp_24 rfl ?_
          refine z_lstore (lv' := [(5, .long (y + (1 <<< (x.toInt64 &&& 63)))), (4, .int x), (2, .long y), (0, .long sq)]) (pc' := 27) C dX5_rootUp_25 (by decide) rfl rfl ?_
          refine z_lload (pc' := 29) C dX5_rootUp_27 0 rfl rfl ?_
          refine z_lload (pc' := 31) C dX5_rootUp_29 0 rfl rfl ?_
          refine z_lmul (pc' := 32) C dX5_rootUp_31 rfl ?_
          refine z_lload_n (pc' := 33) C dX5_rootUp_32 rfl 3 rfl rfl ?_
          refine z_lcmp (pc' := 34) C dX5_rootUp_33 rfl ?_
          refine z_if_ge (pc' := 37) C 40 dX5_rootUp_34 rfl rfl (fun h_34 => ?_) (fun h_34 => ?_)
          · refine z_iinc (v := x + (-1)) (k9 := 1) (lv' := [(4, .int (x + (-1))), (5, .long (y + (1 <<< (x.toInt64 &&& 63)))), (2, .long y), (0, .long sq)]) (pc' := 43) C dX5_rootUp_40 rfl rfl (by decide) rfl rfl ?_
            refine z_goto (pc' := 14) C dX5_rootUp_43 rfl ?_
            refine z_sub (lv' := [(4, .int (x + (-1))), (2, .long y), (0, .long sq)]) C [0, 2, 3] rfl ?_
            exact z_cast rfl rfl rfl rfl rfl (ih14 (t - 1) _ _ (by omega) (by obtain ⟨b9, e1, e2, e3⟩ := s_b_pos hx h_16; subst e1; exact e3) (by obtain ⟨b9, e1, e2, e3⟩ := s_b_pos hx h_16; subst e1; subst e2; rw [← hy]; rw [lg_cmp_ge] at h_34; simp [s_rt, h_34]) (by obtain ⟨b9, e1, e2, e3⟩ := s_b_pos hx h_16; omega))
          · refine z_lload (pc' := 39) C dX5_rootUp_37 0 rfl rfl ?_
            refine z_lstore_n (lv' := [(2, .long (y + (1 <<< (x.toInt64 &&& 63)))), (5, .long (y + (1 <<< (x.toInt64 &&& 63)))), (4, .int x), (0, .long sq)]) (pc' := 40) C dX5_rootUp_39 rfl (by decide) rfl rfl ?_
            refine z_iinc (v := x + (-1)) (k9 := 2) (lv' := [(4, .int (x + (-1))), (2, .long (y + (1 <<< (x.toInt64 &&& 63)))), (5, .long (y + (1 <<< (x.toInt64 &&& 63)))), (0, .long sq)]) (pc' := 43) C dX5_rootUp_40 rfl rfl (by decide) rfl rfl ?_
            refine z_goto (pc' := 14) C dX5_rootUp_43 rfl ?_
            refine z_sub (lv' := [(4, .int (x + (-1))), (2, .long (y + (1 <<< (x.toInt64 &&& 63)))), (0, .long sq)]) C [0, 1, 3] rfl ?_
            exact z_cast rfl rfl rfl rfl rfl (ih14 (t - 1) _ _ (by omega) (by obtain ⟨b9, e1, e2, e3⟩ := s_b_pos hx h_16; subst e1; exact e3) (by obtain ⟨b9, e1, e2, e3⟩ := s_b_pos hx h_16; subst e1; subst e2; rw [← hy]; rw [lg_cmp_ge] at h_34; simp [s_rt, h_34]) (by obtain ⟨b9, e1, e2, e3⟩ := s_b_pos hx h_16; omega))
    exact z_cast rfl rfl rfl rfl rfl (L14 (_ + 1) 17 _ _ (by omega) (by rfl) (by rfl) (Nat.lt_succ_self _))
  · refine z_iconst (v := 0) (pc' := 7) C dX5_rootUp_6 rfl rfl ?_
    exact z_iret (E := E) rfl dX5_rootUp_7 ⟨(congrArg (fun z => some (Value.int z)) (show _ = _ from (by first | rfl | (rw [lg_cmp_gt] at h_3; simp [s_ru, h_3])))), rfl, rfl, rfl⟩

