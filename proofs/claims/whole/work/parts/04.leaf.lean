
theorem k_I {Z : ZT} {E : Int32} {sc : Sc} {ia : Ia} {la : La} {lv : List (Nat × Value)} {pc : Nat} {rest : List Value} (k : Z sc ia la lv pc (.int E :: rest)) : ∀ (v : Option Value) (a : Sc) (b : Ia) (c : La), fI E sc ia la v a b c → Z a b c lv pc (v.toList ++ rest) := by
  rintro v a b c ⟨rfl, rfl, rfl, rfl⟩
  exact k
theorem k_L {Z : ZT} {E : Int64} {sc : Sc} {ia : Ia} {la : La} {lv : List (Nat × Value)} {pc : Nat} {rest : List Value} (k : Z sc ia la lv pc (.long E :: rest)) : ∀ (v : Option Value) (a : Sc) (b : Ia) (c : La), fL E sc ia la v a b c → Z a b c lv pc (v.toList ++ rest) := by
  rintro v a b c ⟨rfl, rfl, rfl, rfl⟩
  exact k
theorem k_V {Z : ZT} {sc : Sc} {ia : Ia} {la : La} {lv : List (Nat × Value)} {pc : Nat} {rest : List Value} (k : Z sc ia la lv pc rest) : ∀ (v : Option Value) (a : Sc) (b : Ia) (c : La), fV sc ia la v a b c → Z a b c lv pc (v.toList ++ rest) := by
  rintro v a b c ⟨rfl, rfl, rfl, rfl⟩
  exact k
def s_out (v a b : Int32) : Bool := decide (v < a) || !decide (v ≤ b)
def s_gate (m v : Int32) : Bool := !s_out m 0 31 && !s_out v 0 31
def s_pass (j m v : Int32) : Bool := decide ((j ^^^ v) &&& m = 0)
def s_has (i n : Int32) : Bool := !decide (i < 0) && !decide (n ≤ i)
def s_bc (x : Int32) : Int32 :=
  let a := x - ((x.toUInt32 >>> ((1 : Int32).toUInt32 &&& Int32.toUInt32 31)).toInt32 &&& 1431655765)
  let b := (a &&& 858993459) + ((a.toUInt32 >>> ((2 : Int32).toUInt32 &&& Int32.toUInt32 31)).toInt32 &&& 858993459)
  let c := (b + (b.toUInt32 >>> ((4 : Int32).toUInt32 &&& Int32.toUInt32 31)).toInt32) &&& 252645135
  let d := c + (c.toUInt32 >>> ((8 : Int32).toUInt32 &&& Int32.toUInt32 31)).toInt32
  let f := d + (d.toUInt32 >>> ((16 : Int32).toUInt32 &&& Int32.toUInt32 31)).toInt32
  f &&& 63
def s_sgn (i j : Int32) : Int32 := if s_bc (i &&& j) &&& 1 = 0 then 1 else -1
def s_abs (x : Int32) : Int32 := if 0 ≤ x then x else 0 - x
def s_fo (h x : Int64) : Int64 := 31 * h + x
def s_fk (h : Int64) (k : Int32) (x : Int32) : Int64 := if k = 0 then s_fo h 0 else s_fo (s_fo h 1) x.toInt64

set_option maxHeartbeats 4000000 in
set_option maxRecDepth 100000 in
theorem c_X5_isOutside (l : Launch) (G : Gv) (sc : Sc) (ia : Ia) (la : La) (v a b : Int32)  : Ct l yX5_isOutside wsX5_isOutside ({ frames := 0, cells := 0, slots := 0, locals := 0 }) G [.int v, .int a, .int b] sc ia la (fI (bI (s_out v a b)) sc ia la) := by
  refine z_of (maxL := 3) (own := RX5) [(0, .int v), (1, .int a), (2, .int b)] rfl (by decide +kernel) rfl (Nat.le_of_ble_eq_true rfl) rfl (fun Z C E => ?_)
  refine z_iload_n (pc' := 1) C dX5_isOutside_0 rfl 0 rfl rfl ?_
  refine z_iload_n (pc' := 2) C dX5_isOutside_1 rfl 1 rfl rfl ?_
  refine z_icmp_lt (pc' := 5) C 10 dX5_isOutside_2 rfl rfl (fun h_2 => ?_) (fun h_2 => ?_)
  · refine z_iconst (v := 1) (pc' := 11) C dX5_isOutside_10 rfl rfl ?_
    refine z_goto (pc' := 15) C dX5_isOutside_11 rfl ?_
    exact z_zret (E := E) rfl dX5_isOutside_15 (rfl) ⟨(congrArg (fun z => some (Value.int z)) (show _ = _ from (by first | rfl | (simp [s_out, bI, h_2])))), rfl, rfl, rfl⟩
  · refine z_iload_n (pc' := 6) C dX5_isOutside_5 rfl 0 rfl rfl ?_
    refine z_iload_n (pc' := 7) C dX5_isOutside_6 rfl 2 rfl rfl ?_
    refine z_icmp_le (pc' := 10) C 14 dX5_isOutside_7 rfl rfl (fun h_7 => ?_) (fun h_7 => ?_)
    · refine z_iconst (v := 0) (pc' := 15) C dX5_isOutside_14 rfl rfl ?_
      exact z_zret (E := E) rfl dX5_isOutside_15 (rfl) ⟨(congrArg (fun z => some (Value.int z)) (show _ = _ from (by first | rfl | (simp [s_out, bI, h_2, h_7])))), rfl, rfl, rfl⟩
    · refine z_iconst (v := 1) (pc' := 11) C dX5_isOutside_10 rfl rfl ?_
      refine z_goto (pc' := 15) C dX5_isOutside_11 rfl ?_
      exact z_zret (E := E) rfl dX5_isOutside_15 (rfl) ⟨(congrArg (fun z => some (Value.int z)) (show _ = _ from (by first | rfl | (simp [s_out, bI, h_2, h_7])))), rfl, rfl, rfl⟩

theorem c_X5_isOutsideB (l : Launch) (G : Gv) (sc : Sc) (ia : Ia) (la : La) (v a b : Int32) (z : Bool) (h : s_out v a b = z) : Ct l yX5_isOutside wsX5_isOutside ({ frames := 0, cells := 0, slots := 0, locals := 0 }) G [.int v, .int a, .int b] sc ia la (fI (bI z) sc ia la) := h ▸ c_X5_isOutside l G sc ia la v a b
set_option maxHeartbeats 4000000 in
set_option maxRecDepth 100000 in
theorem c_X5_isGate (l : Launch) (G : Gv) (sc : Sc) (ia : Ia) (la : La) (m v : Int32)  : Ct l yX5_isGate wsX5_isGate ({ frames := 1, cells := 0, slots := 0, locals := 22 }) G [.int m, .int v] sc ia la (fI (bI (s_gate m v)) sc ia la) := by
  refine z_of (maxL := 2) (own := RX5) [(0, .int m), (1, .int v)] rfl (by decide +kernel) rfl (Nat.le_of_ble_eq_true rfl) rfl (fun Z C E => ?_)
  refine z_iload_n (pc' := 1) C dX5_isGate_0 rfl 0 rfl rfl ?_
  refine z_iconst (v := 0) (pc' := 2) C dX5_isGate_1 rfl rfl ?_
  refine z_bipush (v := 31) (pc' := 4) C dX5_isGate_2 rfl rfl ?_
  refine z_cS (n := 3) (pc' := 7) (As := [.int m, .int 0, .int 31]) (rest := []) C (c_X5_isOutside l G sc ia la m 0 31) gX5_isGate_X5_isOutside rfl rfl rfl (by decide +kernel) (by decide) rfl rfl dX5_isGate_4 (Nat.le_of_ble_eq_true rfl) rfl (k_I ?_)
  show Z sc ia la [(0, .int m), (1, .int v)] 7 [.int (bI (s_out m 0 31))]
  refine z_ifB_ne (pc' := 10) C 24 dX5_isGate_7 rfl rfl (fun h_7 => ?_) (fun h_7 => ?_)
  · refine z_iconst (v := 0) (pc' := 25) C dX5_isGate_24 rfl rfl ?_
    exact z_zret (E := E) rfl dX5_isGate_25 (rfl) ⟨(congrArg (fun z => some (Value.int z)) (show _ = _ from (by first | rfl | (simp [s_gate, bI, h_7])))), rfl, rfl, rfl⟩
  · refine z_iload_n (pc' := 11) C dX5_isGate_10 rfl 1 rfl rfl ?_
    refine z_iconst (v := 0) (pc' := 12) C dX5_isGate_11 rfl rfl ?_
    refine z_bipush (v := 31) (pc' := 14) C dX5_isGate_12 rfl rfl ?_
    refine z_cS (n := 3) (pc' := 17) (As := [.int v, .int 0, .int 31]) (rest := []) C (c_X5_isOutside l G sc ia la v 0 31) gX5_isGate_X5_isOutside rfl rfl rfl (by decide +kernel) (by decide) rfl rfl dX5_isGate_14 (Nat.le_of_ble_eq_true rfl) rfl (k_I ?_)
    show Z sc ia la [(0, .int m), (1, .int v)] 17 [.int (bI (s_out v 0 31))]
    refine z_ifB_ne (pc' := 20) C 24 dX5_isGate_17 rfl rfl (fun h_17 => ?_) (fun h_17 => ?_)
    · refine z_iconst (v := 0) (pc' := 25) C dX5_isGate_24 rfl rfl ?_
      exact z_zret (E := E) rfl dX5_isGate_25 (rfl) ⟨(congrArg (fun z => some (Value.int z)) (show _ = _ from (by first | rfl | (simp [s_gate, bI, h_7, h_17])))), rfl, rfl, rfl⟩
    · refine z_iconst (v := 1) (pc' := 21) C dX5_isGate_20 rfl rfl ?_
      refine z_goto (pc' := 25) C dX5_isGate_21 rfl ?_
      exact z_zret (E := E) rfl dX5_isGate_25 (rfl) ⟨(congrArg (fun z => some (Value.int z)) (show _ = _ from (by first | rfl | (simp [s_gate, bI, h_7, h_17])))), rfl, rfl, rfl⟩

theorem c_X5_isGateB (l : Launch) (G : Gv) (sc : Sc) (ia : Ia) (la : La) (m v : Int32) (z : Bool) (h : s_gate m v = z) : Ct l yX5_isGate wsX5_isGate ({ frames := 1, cells := 0, slots := 0, locals := 22 }) G [.int m, .int v] sc ia la (fI (bI z) sc ia la) := h ▸ c_X5_isGate l G sc ia la m v
set_option maxHeartbeats 4000000 in
set_option maxRecDepth 100000 in
theorem c_X5_passes (l : Launch) (G : Gv) (sc : Sc) (ia : Ia) (la : La) (j m v : Int32)  : Ct l yX5_passes wsX5_passes ({ frames := 0, cells := 0, slots := 0, locals := 0 }) G [.int j, .int m, .int v] sc ia la (fI (bI (s_pass j m v)) sc ia la) := by
  refine z_of (maxL := 3) (own := RX5) [(0, .int j), (1, .int m), (2, .int v)] rfl (by decide +kernel) rfl (Nat.le_of_ble_eq_true rfl) rfl (fun Z C E => ?_)
  refine z_iload_n (pc' := 1) C dX5_passes_0 rfl 0 rfl rfl ?_
  refine z_iload_n (pc' := 2) C dX5_passes_1 rfl 2 rfl rfl ?_
  refine z_ixor (pc' := 3) C dX5_passes_2 rfl ?_
  refine z_iload_n (pc' := 4) C dX5_passes_3 rfl 1 rfl rfl ?_
  refine z_iand (pc' := 5) C dX5_passes_4 rfl ?_
  refine z_if_ne (pc' := 8) C 12 dX5_passes_5 rfl rfl (fun h_5 => ?_) (fun h_5 => ?_)
  · refine z_iconst (v := 0) (pc' := 13) C dX5_passes_12 rfl rfl ?_
    exact z_zret (E := E) rfl dX5_passes_13 (rfl) ⟨(congrArg (fun z => some (Value.int z)) (show _ = _ from (by first | rfl | (simp [s_pass, bI, h_5])))), rfl, rfl, rfl⟩
  · refine z_iconst (v := 1) (pc' := 9) C dX5_passes_8 rfl rfl ?_
    refine z_goto (pc' := 13) C dX5_passes_9 rfl ?_
    exact z_zret (E := E) rfl dX5_passes_13 (rfl) ⟨(congrArg (fun z => some (Value.int z)) (show _ = _ from (by first | rfl | (simp [s_pass, bI, h_5])))), rfl, rfl, rfl⟩

set_option maxHeartbeats 4000000 in
set_option maxRecDepth 100000 in
theorem c_J6_bitCount_0f7a4 (l : Launch) (G : Gv) (sc : Sc) (ia : Ia) (la : La) (x : Int32)  : Ct l yJ6_bitCount_0f7a4 wsJ6_bitCount_0f7a4 ({ frames := 0, cells := 0, slots := 0, locals := 0 }) G [.int x] sc ia la (fI (s_bc x) sc ia la) := by
  refine z_of (maxL := 1) (own := RJ6) [(0, .int x)] rfl (by decide +kernel) rfl (Nat.le_of_ble_eq_true rfl) rfl (fun Z C E => ?_)
  refine z_iload_n (pc' := 1) C dJ6_bitCount_0f7a4_0 rfl 0 rfl rfl ?_
  refine z_iload_n (pc' := 2) C dJ6_bitCount_0f7a4_1 rfl 0 rfl rfl ?_
  refine z_iconst (v := 1) (pc' := 3) C dJ6_bitCount_0f7a4_2 rfl rfl ?_
  refine z_iushr (pc' := 4) C dJ6_bitCount_0f7a4_3 rfl ?_
  refine z_ldcw (v := 1431655765) (pc' := 7) C (by decide +kernel) dJ6_bitCount_0f7a4_4 rfl ?_
  refine z_iand (pc' := 8) C dJ6_bitCount_0f7a4_7 rfl ?_
  refine z_isub (pc' := 9) C dJ6_bitCount_0f7a4_8 rfl ?_
  refine z_istore_n (lv' := [(0, .int (x - (((x.toUInt32 >>> ((1 : Int32).toUInt32 &&& Int32.toUInt32 31)).toInt32) &&& 1431655765)))]) (pc' := 10) C dJ6_bitCount_0f7a4_9 rfl (by decide) rfl rfl ?_
  refine z_iload_n (pc' := 11) C dJ6_bitCount_0f7a4_10 rfl 0 rfl rfl ?_
  refine z_ldcw (v := 858993459) (pc' := 14) C (by decide +kernel) dJ6_bitCount_0f7a4_11 rfl ?_
  refine z_iand (pc' := 15) C dJ6_bitCount_0f7a4_14 rfl ?_
  refine z_iload_n (pc' := 16) C dJ6_bitCount_0f7a4_15 rfl 0 rfl rfl ?_
  refine z_iconst (v := 2) (pc' := 17) C dJ6_bitCount_0f7a4_16 rfl rfl ?_
  refine z_iushr (pc' := 18) C dJ6_bitCount_0f7a4_17 rfl ?_
  refine z_ldcw (v := 858993459) (pc' := 21) C (by decide +kernel) dJ6_bitCount_0f7a4_18 rfl ?_
  refine z_iand (pc' := 22) C dJ6_bitCount_0f7a4_21 rfl ?_
  refine z_iadd (pc' := 23) C dJ6_bitCount_0f7a4_22 rfl ?_
  refine z_istore_n (lv' := [(0, .int (((x - (((x.toUInt32 >>> ((1 : Int32).toUInt32 &&& Int32.toUInt32 31)).toInt32) &&& 1431655765)) &&& 858993459) + ((((x - (((x.toUInt32 >>> ((1 : Int32).toUInt32 &&& Int32.toUInt32 31)).toInt32) &&& 1431655765)).toUInt32 >>> ((2 : Int32).toUInt32 &&& Int32.toUInt32 31)).toInt32) &&& 858993459)))]) (pc' := 24) C dJ6_bitCount_0f7a4_23 rfl (by decide) rfl rfl ?_
  refine z_iload_n (pc' := 25) C dJ6_bitCount_0f7a4_24 rfl 0 rfl rfl ?_
  refine z_iload_n (pc' := 26) C dJ6_bitCount_0f7a4_25 rfl 0 rfl rfl ?_
  refine z_iconst (v := 4) (pc' := 27) C dJ6_bitCount_0f7a4_26 rfl rfl ?_
  refine z_iushr (pc' := 28) C dJ6_bitCount_0f7a4_27 rfl ?_
  refine z_iadd (pc' := 29) C dJ6_bitCount_0f7a4_28 rfl ?_
  refine z_ldcw (v := 252645135) (pc' := 32) C (by decide +kernel) dJ6_bitCount_0f7a4_29 rfl ?_
  refine z_iand (pc' := 33) C dJ6_bitCount_0f7a4_32 rfl ?_
  refine z_istore_n (lv' := [(0, .int (((((x - (((x.toUInt32 >>> ((1 : Int32).toUInt32 &&& Int32.toUInt32 31)).toInt32) &&& 1431655765)) &&& 858993459) + ((((x - (((x.toUInt32 >>> ((1 : Int32).toUInt32 &&& Int32.toUInt32 31)).toInt32) &&& 1431655765)).toUInt32 >>> ((2 : Int32).toUInt32 &&& Int32.toUInt32 31)).toInt32) &&& 858993459)) + (((((x - (((x.toUInt32 >>> ((1 : Int32).toUInt32 &&& Int32.toUInt32 31)).toInt32) &&& 1431655765)) &&& 858993459) + ((((x - (((x.toUInt32 >>> ((1 : Int32).toUInt32 &&& Int32.toUInt32 31)).toInt32) &&& 1431655765)).toUInt32 >>> ((2 : Int32).toUInt32 &&& Int32.toUInt32 31)).toInt32) &&& 858993459)).toUInt32 >>> ((4 : Int32).toUInt32 &&& Int32.toUInt32 31)).toInt32)) &&& 252645135))]) (pc' := 34) C dJ6_bitCount_0f7a4_33 rfl (by decide) rfl rfl ?_
  refine z_iload_n (pc' := 35) C dJ6_bitCount_0f7a4_34 rfl 0 rfl rfl ?_
  refine z_iload_n (pc' := 36) C dJ6_bitCount_0f7a4_35 rfl 0 rfl rfl ?_
  refine z_bipush (v := 8) (pc' := 38) C dJ6_bitCount_0f7a4_36 rfl rfl ?_
  refine z_iushr (pc' := 39) C dJ6_bitCount_0f7a4_38 rfl ?_
  refine z_iadd (pc' := 40) C dJ6_bitCount_0f7a4_39 rfl ?_
  refine z_istore_n (lv' := [(0, .int ((((((x - (((x.toUInt32 >>> ((1 : Int32).toUInt32 &&& Int32.toUInt32 31)).toInt32) &&& 1431655765)) &&& 858993459) + ((((x - (((x.toUInt32 >>> ((1 : Int32).toUInt32 &&& Int32.toUInt32 31)).toInt32) &&& 1431655765)).toUInt32 >>> ((2 : Int32).toUInt32 &&& Int32.toUInt32 31)).toInt32) &&& 858993459)) + (((((x - (((x.toUInt32 >>> ((1 : Int32).toUInt32 &&& Int32.toUInt32 31)).toInt32) &&& 1431655765)) &&& 858993459) + ((((x - (((x.toUInt32 >>> ((1 : Int32).toUInt32 &&& Int32.toUInt32 31)).toInt32) &&& 1431655765)).toUInt32 >>> ((2 : Int32).toUInt32 &&& Int32.toUInt32 31)).toInt32) &&& 858993459)).toUInt32 >>> ((4 : Int32).toUInt32 &&& Int32.toUInt32 31)).toInt32)) &&& 252645135) + (((((((x - (((x.toUInt32 >>> ((1 : Int32).toUInt32 &&& Int32.toUInt32 31)).toInt32) &&& 1431655765)) &&& 858993459) + ((((x - (((x.toUInt32 >>> ((1 : Int32).toUInt32 &&& Int32.toUInt32 31)).toInt32) &&& 1431655765)).toUInt32 >>> ((2 : Int32).toUInt32 &&& Int32.toUInt32 31)).toInt32) &&& 858993459)) + (((((x - (((x.toUInt32 >>> ((1 : Int32).toUInt32 &&& Int32.toUInt32 31)).toInt32) &&& 1431655765)) &&& 858993459) + ((((x - (((x.toUInt32 >>> ((1 : Int32).toUInt32 &&& Int32.toUInt32 31)).toInt32) &&& 1431655765)).toUInt32 >>> ((2 : Int32).toUInt32 &&& Int32.toUInt32 31)).toInt32) &&& 858993459)).toUInt32 >>> ((4 : Int32).toUInt32 &&& Int32.toUInt32 31)).toInt32)) &&& 252645135).toUInt32 >>> ((8 : Int32).toUInt32 &&& Int32.toUInt32 31)).toInt32)))]) (pc' := 41) C dJ6_bitCount_0f7a4_40 rfl (by decide) rfl rfl ?_
  refine z_iload_n (pc' := 42) C dJ6_bitCount_0f7a4_41 rfl 0 rfl rfl ?_
  refine z_iload_n (pc' := 43) C dJ6_bitCount_0f7a4_42 rfl 0 rfl rfl ?_
  refine z_bipush (v := 16) (pc' := 45) C dJ6_bitCount_0f7a4_43 rfl rfl ?_
  refine z_iushr (pc' := 46) C dJ6_bitCount_0f7a4_45 rfl ?_
  refine z_iadd (pc' := 47) C dJ6_bitCount_0f7a4_46 rfl ?_
  refine z_istore_n (lv' := [(0, .int (((((((x - (((x.toUInt32 >>> ((1 : Int32).toUInt32 &&& Int32.toUInt32 31)).toInt32) &&& 1431655765)) &&& 858993459) + ((((x - (((x.toUInt32 >>> ((1 : Int32).toUInt32 &&& Int32.toUInt32 31)).toInt32) &&& 1431655765)).toUInt32 >>> ((2 : Int32).toUInt32 &&& Int32.toUInt32 31)).toInt32) &&& 858993459)) + (((((x - (((x.toUInt32 >>> ((1 : Int32).toUInt32 &&& Int32.toUInt32 31)).toInt32) &&& 1431655765)) &&& 858993459) + ((((x - (((x.toUInt32 >>> ((1 : Int32).toUInt32 &&& Int32.toUInt32 31)).toInt32) &&& 1431655765)).toUInt32 >>> ((2 : Int32).toUInt32 &&& Int32.toUInt32 31)).toInt32) &&& 858993459)).toUInt32 >>> ((4 : Int32).toUInt32 &&& Int32.toUInt32 31)).toInt32)) &&& 252645135) + (((((((x - (((x.toUInt32 >>> ((1 : Int32).toUInt32 &&& Int32.toUInt32 31)).toInt32) &&& 1431655765)) &&& 858993459) + ((((x - (((x.toUInt32 >>> ((1 : Int32).toUInt32 &&& Int32.toUInt32 31)).toInt32) &&& 1431655765)).toUInt32 >>> ((2 : Int32).toUInt32 &&& Int32.toUInt32 31)).toInt32) &&& 858993459)) + (((((x - (((x.toUInt32 >>> ((1 : Int32).toUInt32 &&& Int32.toUInt32 31)).toInt32) &&& 1431655765)) &&& 858993459) + ((((x - (((x.toUInt32 >>> ((1 : Int32).toUInt32 &&& Int32.toUInt32 31)).toInt32) &&& 1431655765)).toUInt32 >>> ((2 : Int32).toUInt32 &&& Int32.toUInt32 31)).toInt32) &&& 858993459)).toUInt32 >>> ((4 : Int32).toUInt32 &&& Int32.toUInt32 31)).toInt32)) &&& 252645135).toUInt32 >>> ((8 : Int32).toUInt32 &&& Int32.toUInt32 31)).toInt32)) + ((((((((x - (((x.toUInt32 >>> ((1 : Int32).toUInt32 &&& Int32.toUInt32 31)).toInt32) &&& 1431655765)) &&& 858993459) + ((((x - (((x.toUInt32 >>> ((1 : Int32).toUInt32 &&& Int32.toUInt32 31)).toInt32) &&& 1431655765)).toUInt32 >>> ((2 : Int32).toUInt32 &&& Int32.toUInt32 31)).toInt32) &&& 858993459)) + (((((x - (((x.toUInt32 >>> ((1 : Int32).toUInt32 &&& Int32.toUInt32 31)).toInt32) &&& 1431655765)) &&& 858993459) + ((((x - (((x.toUInt32 >>> ((1 : Int32).toUInt32 &&& Int32.toUInt32 31)).toInt32) &&& 1431655765)).toUInt32 >>> ((2 : Int32).toUInt32 &&& Int32.toUInt32 31)).toInt32) &&& 858993459)).toUInt32 >>> ((4 : Int32).toUInt32 &&& Int32.toUInt32 31)).toInt32)) &&& 252645135) + (((((((x - (((x.toUInt32 >>> ((1 : Int32).toUInt32 &&& Int32.toUInt32 31)).toInt32) &&& 1431655765)) &&& 858993459) + ((((x - (((x.toUInt32 >>> ((1 : Int32).toUInt32 &&& Int32.toUInt32 31)).toInt32) &&& 1431655765)).toUInt32 >>> ((2 : Int32).toUInt32 &&& Int32.toUInt32 31)).toInt32) &&& 858993459)) + (((((x - (((x.toUInt32 >>> ((1 : Int32).toUInt32 &&& Int32.toUInt32 31)).toInt32) &&& 1431655765)) &&& 858993459) + ((((x - (((x.toUInt32 >>> ((1 : Int32).toUInt32 &&& Int32.toUInt32 31)).toInt32) &&& 1431655765)).toUInt32 >>> ((2 : Int32).toUInt32 &&& Int32.toUInt32 31)).toInt32) &&& 858993459)).toUInt32 >>> ((4 : Int32).toUInt32 &&& Int32.toUInt32 31)).toInt32)) &&& 252645135).toUInt32 >>> ((8 : Int32).toUInt32 &&& Int32.toUInt32 31)).toInt32)).toUInt32 >>> ((16 : Int32).toUInt32 &&& Int32.toUInt32 31)).toInt32)))]) (pc' := 48) C dJ6_bitCount_0f7a4_47 rfl (by decide) rfl rfl ?_
  refine z_iload_n (pc' := 49) C dJ6_bitCount_0f7a4_48 rfl 0 rfl rfl ?_
  refine z_bipush (v := 63) (pc' := 51) C dJ6_bitCount_0f7a4_49 rfl rfl ?_
  refine z_iand (pc' := 52) C dJ6_bitCount_0f7a4_51 rfl ?_
  exact z_iret (E := E) rfl dJ6_bitCount_0f7a4_52 ⟨(congrArg (fun z => some (Value.int z)) rfl), rfl, rfl, rfl⟩

set_option maxHeartbeats 4000000 in
set_option maxRecDepth 100000 in
theorem c_X5_signOf (l : Launch) (G : Gv) (sc : Sc) (ia : Ia) (la : La) (i j : Int32)  : Ct l yX5_signOf wsX5_signOf ({ frames := 1, cells := 0, slots := 0, locals := 20 }) G [.int i, .int j] sc ia la (fI (s_sgn i j) sc ia la) := by
  refine z_of (maxL := 2) (own := RX5) [(0, .int i), (1, .int j)] rfl (by decide +kernel) rfl (Nat.le_of_ble_eq_true rfl) rfl (fun Z C E => ?_)
  refine z_iload_n (pc' := 1) C dX5_signOf_0 rfl 0 rfl rfl ?_
  refine z_iload_n (pc' := 2) C dX5_signOf_1 rfl 1 rfl rfl ?_
  refine z_iand (pc' := 3) C dX5_signOf_2 rfl ?_
  refine z_cS (n := 1) (pc' := 6) (As := [.int (i &&& j)]) (rest := []) C (c_J6_bitCount_0f7a4 l G sc ia la (i &&& j)) gX5_signOf_J6_bitCount_0f7a4 rfl rfl rfl (by decide +kernel) (by decide) rfl rfl dX5_signOf_3 (Nat.le_of_ble_eq_true rfl) rfl (k_I ?_)
  show Z sc ia la [(0, .int i), (1, .int j)] 6 [.int (s_bc (i &&& j))]
  refine z_iconst (v := 1) (pc' := 7) C dX5_signOf_6 rfl rfl ?_
  refine z_iand (pc' := 8) C dX5_signOf_7 rfl ?_
  refine z_if_ne (pc' := 11) C 15 dX5_signOf_8 rfl rfl (fun h_8 => ?_) (fun h_8 => ?_)
  · refine z_iconst (v := -1) (pc' := 16) C dX5_signOf_15 rfl rfl ?_
    exact z_iret (E := E) rfl dX5_signOf_16 ⟨(congrArg (fun z => some (Value.int z)) (show _ = _ from (by first | rfl | (simp [s_sgn, h_8])))), rfl, rfl, rfl⟩
  · refine z_iconst (v := 1) (pc' := 12) C dX5_signOf_11 rfl rfl ?_
    refine z_goto (pc' := 16) C dX5_signOf_12 rfl ?_
    exact z_iret (E := E) rfl dX5_signOf_16 ⟨(congrArg (fun z => some (Value.int z)) (show _ = _ from (by first | rfl | (simp [s_sgn, h_8])))), rfl, rfl, rfl⟩

set_option maxHeartbeats 4000000 in
set_option maxRecDepth 100000 in
theorem c_X5_fold (l : Launch) (G : Gv) (sc : Sc) (ia : Ia) (la : La) (h x : Int64)  : Ct l yX5_fold wsX5_fold ({ frames := 0, cells := 0, slots := 0, locals := 0 }) G [.long h, .long x] sc ia la (fL (s_fo h x) sc ia la) := by
  refine z_of (maxL := 4) (own := RX5) [(0, .long h), (2, .long x)] rfl (by decide +kernel) rfl (Nat.le_of_ble_eq_true rfl) rfl (fun Z C E => ?_)
  refine z_ldc2 (v := 31) (pc' := 3) C (by decide +kernel) dX5_fold_0 rfl ?_
  refine z_lload_n (pc' := 4) C dX5_fold_3 rfl 0 rfl rfl ?_
  refine z_lmul (pc' := 5) C dX5_fold_4 rfl ?_
  refine z_lload_n (pc' := 6) C dX5_fold_5 rfl 1 rfl rfl ?_
  refine z_ladd (pc' := 7) C dX5_fold_6 rfl ?_
  exact z_lret (E := E) rfl dX5_fold_7 ⟨(congrArg (fun z => some (Value.long z)) rfl), rfl, rfl, rfl⟩

set_option maxHeartbeats 4000000 in
set_option maxRecDepth 100000 in
theorem c_X5_foldIfKnown (l : Launch) (G : Gv) (sc : Sc) (ia : Ia) (la : La) (h : Int64) (k x : Int32)  : Ct l yX5_foldIfKnown wsX5_foldIfKnown ({ frames := 1, cells := 0, slots := 0, locals := 23 }) G [.long h, .int k, .int x] sc ia la (fL (s_fk h k x) sc ia la) := by
  refine z_of (maxL := 4) (own := RX5) [(0, .long h), (2, .int k), (3, .int x)] rfl (by decide +kernel) rfl (Nat.le_of_ble_eq_true rfl) rfl (fun Z C E => ?_)
  refine z_iload_n (pc' := 1) C dX5_foldIfKnown_0 rfl 1 rfl rfl ?_
  refine z_if_eq (pc' := 4) C 17 dX5_foldIfKnown_1 rfl rfl (fun h_1 => ?_) (fun h_1 => ?_)
  · refine z_lload_n (pc' := 18) C dX5_foldIfKnown_17 rfl 0 rfl rfl ?_
    refine z_lconst (v := 0) (pc' := 19) C dX5_foldIfKnown_18 rfl rfl ?_
    refine z_cS (n := 2) (pc' := 22) (As := [.long h, .long 0]) (rest := []) C (c_X5_fold l G sc ia la h 0) gX5_foldIfKnown_X5_fold rfl rfl rfl (by decide +kernel) (by decide) rfl rfl dX5_foldIfKnown_19 (Nat.le_of_ble_eq_true rfl) rfl (k_L ?_)
    show Z sc ia la [(0, .long h), (2, .int k), (3, .int x)] 22 [.long (s_fo h 0)]
    exact z_lret (E := E) rfl dX5_foldIfKnown_22 ⟨(congrArg (fun z => some (Value.long z)) (show _ = _ from (by first | rfl | (simp [s_fk, h_1])))), rfl, rfl, rfl⟩
  · refine z_lload_n (pc' := 5) C dX5_foldIfKnown_4 rfl 0 rfl rfl ?_
    refine z_lconst (v := 1) (pc' := 6) C dX5_foldIfKnown_5 rfl rfl ?_
    refine z_cS (n := 2) (pc' := 9) (As := [.long h, .long 1]) (rest := []) C (c_X5_fold l G sc ia la h 1) gX5_foldIfKnown_X5_fold rfl rfl rfl (by decide +kernel) (by decide) rfl rfl dX5_foldIfKnown_6 (Nat.le_of_ble_eq_true rfl) rfl (k_L ?_)
    show Z sc ia la [(0, .long h), (2, .int k), (3, .int x)] 9 [.long (s_fo h 1)]
    refine z_iload_n (pc' := 10) C dX5_foldIfKnown_9 rfl 2 rfl rfl ?_
    refine z_i2l (pc' := 11) C dX5_foldIfKnown_10 rfl ?_
    refine z_cS (n := 2) (pc' := 14) (As := [.long (s_fo h 1), .long x.toInt64]) (rest := []) C (c_X5_fold l G sc ia la (s_fo h 1) x.toInt64) gX5_foldIfKnown_X5_fold rfl rfl rfl (by decide +kernel) (by decide) rfl rfl dX5_foldIfKnown_11 (Nat.le_of_ble_eq_true rfl) rfl (k_L ?_)
    show Z sc ia la [(0, .long h), (2, .int k), (3, .int x)] 14 [.long (s_fo (s_fo h 1) x.toInt64)]
    refine z_goto (pc' := 22) C dX5_foldIfKnown_14 rfl ?_
    exact z_lret (E := E) rfl dX5_foldIfKnown_22 ⟨(congrArg (fun z => some (Value.long z)) (show _ = _ from (by first | rfl | (simp [s_fk, h_1])))), rfl, rfl, rfl⟩

