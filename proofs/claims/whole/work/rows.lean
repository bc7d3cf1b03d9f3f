section
-- ===== PART A: goes FIRST, ahead of the names: the tables' words, and 'selects' of the private methods out of them =====
/-- a private method of a class that the tables say can be made, by its rows of tables_1 -/
def lw_okq (q : MethodName × Nat) : Prop := (q.1.cls ≠ "java/lang/invoke/MethodHandle" ∧ q.1.cls ≠ "java/lang/invoke/VarHandle") ∧ Cond.instantiable q.1.cls q.2 ∈ tables_1 ∧ Cond.privateMethod q.1 ∈ tables_1 ∧ Cond.instanceMethod q.1 ∈ tables_1
theorem lw_p0 : lw_okq (⟨"AntennaHall$Net", "goesBack", "()Z"⟩, 9) := ⟨⟨by decide +kernel, by decide +kernel⟩, List.mem_of_getElem? (i := 19) (by decide +kernel), List.mem_of_getElem? (i := 215) (by decide +kernel), List.mem_of_getElem? (i := 216) (by decide +kernel)⟩
theorem lw_p1 : lw_okq (⟨"AntennaHall$Net", "rowThroughTo", "(I)I"⟩, 9) := ⟨⟨by decide +kernel, by decide +kernel⟩, List.mem_of_getElem? (i := 19) (by decide +kernel), List.mem_of_getElem? (i := 219) (by decide +kernel), List.mem_of_getElem? (i := 220) (by decide +kernel)⟩
theorem lw_p2 : lw_okq (⟨"AntennaHall$Net", "isWholeWithoutProbe", "()Z"⟩, 9) := ⟨⟨by decide +kernel, by decide +kernel⟩, List.mem_of_getElem? (i := 19) (by decide +kernel), List.mem_of_getElem? (i := 251) (by decide +kernel), List.mem_of_getElem? (i := 252) (by decide +kernel)⟩
theorem lw_p3 : lw_okq (⟨"AntennaHall$Mender", "listLost", "(LAntennaHall$Net;)V"⟩, 4) := ⟨⟨by decide +kernel, by decide +kernel⟩, List.mem_of_getElem? (i := 73) (by decide +kernel), List.mem_of_getElem? (i := 297) (by decide +kernel), List.mem_of_getElem? (i := 298) (by decide +kernel)⟩
theorem lw_p4 : lw_okq (⟨"AntennaHall$Mender", "writeEquations", "(LAntennaHall$Net;II)V"⟩, 4) := ⟨⟨by decide +kernel, by decide +kernel⟩, List.mem_of_getElem? (i := 73) (by decide +kernel), List.mem_of_getElem? (i := 301) (by decide +kernel), List.mem_of_getElem? (i := 302) (by decide +kernel)⟩
theorem lw_p5 : lw_okq (⟨"AntennaHall$Mender", "writeEquation", "([JLAntennaHall$Net;I)V"⟩, 4) := ⟨⟨by decide +kernel, by decide +kernel⟩, List.mem_of_getElem? (i := 73) (by decide +kernel), List.mem_of_getElem? (i := 306) (by decide +kernel), List.mem_of_getElem? (i := 307) (by decide +kernel)⟩
theorem lw_p6 : lw_okq (⟨"AntennaHall$Mender", "reduce", "()I"⟩, 4) := ⟨⟨by decide +kernel, by decide +kernel⟩, List.mem_of_getElem? (i := 73) (by decide +kernel), List.mem_of_getElem? (i := 311) (by decide +kernel), List.mem_of_getElem? (i := 312) (by decide +kernel)⟩
theorem lw_p7 : lw_okq (⟨"AntennaHall$Mender", "findPivot", "(II)I"⟩, 4) := ⟨⟨by decide +kernel, by decide +kernel⟩, List.mem_of_getElem? (i := 73) (by decide +kernel), List.mem_of_getElem? (i := 315) (by decide +kernel), List.mem_of_getElem? (i := 316) (by decide +kernel)⟩
theorem lw_p8 : lw_okq (⟨"AntennaHall$Mender", "swapRows", "(II)V"⟩, 4) := ⟨⟨by decide +kernel, by decide +kernel⟩, List.mem_of_getElem? (i := 73) (by decide +kernel), List.mem_of_getElem? (i := 319) (by decide +kernel), List.mem_of_getElem? (i := 320) (by decide +kernel)⟩
theorem lw_p9 : lw_okq (⟨"AntennaHall$Mender", "clearColumn", "(IIJ)V"⟩, 4) := ⟨⟨by decide +kernel, by decide +kernel⟩, List.mem_of_getElem? (i := 73) (by decide +kernel), List.mem_of_getElem? (i := 323) (by decide +kernel), List.mem_of_getElem? (i := 324) (by decide +kernel)⟩
theorem lw_p10 : lw_okq (⟨"AntennaHall$Mender", "above", "(I)J"⟩, 4) := ⟨⟨by decide +kernel, by decide +kernel⟩, List.mem_of_getElem? (i := 73) (by decide +kernel), List.mem_of_getElem? (i := 338) (by decide +kernel), List.mem_of_getElem? (i := 339) (by decide +kernel)⟩
theorem lw_p11 : lw_okq (⟨"AntennaHall$Mender", "below", "(I)J"⟩, 4) := ⟨⟨by decide +kernel, by decide +kernel⟩, List.mem_of_getElem? (i := 73) (by decide +kernel), List.mem_of_getElem? (i := 348) (by decide +kernel), List.mem_of_getElem? (i := 349) (by decide +kernel)⟩
theorem lw_p12 : lw_okq (⟨"AntennaHall$Pairs", "isWhole", "(III)Z"⟩, 3) := ⟨⟨by decide +kernel, by decide +kernel⟩, List.mem_of_getElem? (i := 120) (by decide +kernel), List.mem_of_getElem? (i := 410) (by decide +kernel), List.mem_of_getElem? (i := 411) (by decide +kernel)⟩
theorem lw_p13 : lw_okq (⟨"AntennaHall$Pairs", "gainBy", "(III)I"⟩, 3) := ⟨⟨by decide +kernel, by decide +kernel⟩, List.mem_of_getElem? (i := 120) (by decide +kernel), List.mem_of_getElem? (i := 414) (by decide +kernel), List.mem_of_getElem? (i := 415) (by decide +kernel)⟩
theorem lw_p14 : lw_okq (⟨"AntennaHall$Net", "offAt", "(I)I"⟩, 9) := ⟨⟨by decide +kernel, by decide +kernel⟩, List.mem_of_getElem? (i := 19) (by decide +kernel), List.mem_of_getElem? (i := 446) (by decide +kernel), List.mem_of_getElem? (i := 447) (by decide +kernel)⟩
theorem lw_p15 : lw_okq (⟨"AntennaHall$Net", "firstMeasured", "()I"⟩, 9) := ⟨⟨by decide +kernel, by decide +kernel⟩, List.mem_of_getElem? (i := 19) (by decide +kernel), List.mem_of_getElem? (i := 458) (by decide +kernel), List.mem_of_getElem? (i := 459) (by decide +kernel)⟩
def lw_privs_1 : List (MethodName × Nat) := [(⟨"AntennaHall$Net", "goesBack", "()Z"⟩, 9), (⟨"AntennaHall$Net", "rowThroughTo", "(I)I"⟩, 9), (⟨"AntennaHall$Net", "isWholeWithoutProbe", "()Z"⟩, 9), (⟨"AntennaHall$Mender", "listLost", "(LAntennaHall$Net;)V"⟩, 4), (⟨"AntennaHall$Mender", "writeEquations", "(LAntennaHall$Net;II)V"⟩, 4), (⟨"AntennaHall$Mender", "writeEquation", "([JLAntennaHall$Net;I)V"⟩, 4), (⟨"AntennaHall$Mender", "reduce", "()I"⟩, 4), (⟨"AntennaHall$Mender", "findPivot", "(II)I"⟩, 4), (⟨"AntennaHall$Mender", "swapRows", "(II)V"⟩, 4), (⟨"AntennaHall$Mender", "clearColumn", "(IIJ)V"⟩, 4), (⟨"AntennaHall$Mender", "above", "(I)J"⟩, 4), (⟨"AntennaHall$Mender", "below", "(I)J"⟩, 4), (⟨"AntennaHall$Pairs", "isWhole", "(III)Z"⟩, 3), (⟨"AntennaHall$Pairs", "gainBy", "(III)I"⟩, 3), (⟨"AntennaHall$Net", "offAt", "(I)I"⟩, 9), (⟨"AntennaHall$Net", "firstMeasured", "()I"⟩, 9)]
theorem lw_r1 : ∀ q ∈ lw_privs_1, lw_okq q := List.forall_mem_cons.mpr ⟨lw_p0, List.forall_mem_cons.mpr ⟨lw_p1, List.forall_mem_cons.mpr ⟨lw_p2, List.forall_mem_cons.mpr ⟨lw_p3, List.forall_mem_cons.mpr ⟨lw_p4, List.forall_mem_cons.mpr ⟨lw_p5, List.forall_mem_cons.mpr ⟨lw_p6, List.forall_mem_cons.mpr ⟨lw_p7, List.forall_mem_cons.mpr ⟨lw_p8, List.forall_mem_cons.mpr ⟨lw_p9, List.forall_mem_cons.mpr ⟨lw_p10, List.forall_mem_cons.mpr ⟨lw_p11, List.forall_mem_cons.mpr ⟨lw_p12, List.forall_mem_cons.mpr ⟨lw_p13, List.forall_mem_cons.mpr ⟨lw_p14, List.forall_mem_cons.mpr ⟨lw_p15, fun _ h => absurd h List.not_mem_nil⟩⟩⟩⟩⟩⟩⟩⟩⟩⟩⟩⟩⟩⟩⟩⟩
theorem lw_p16 : lw_okq (⟨"AntennaHallModel", "begin", "(I)V"⟩, 25) := ⟨⟨by decide +kernel, by decide +kernel⟩, List.mem_of_getElem? (i := 562) (by decide +kernel), List.mem_of_getElem? (i := 568) (by decide +kernel), List.mem_of_getElem? (i := 569) (by decide +kernel)⟩
theorem lw_p17 : lw_okq (⟨"AntennaHallModel", "isPlace", "(I)Z"⟩, 25) := ⟨⟨by decide +kernel, by decide +kernel⟩, List.mem_of_getElem? (i := 562) (by decide +kernel), List.mem_of_getElem? (i := 661) (by decide +kernel), List.mem_of_getElem? (i := 662) (by decide +kernel)⟩
theorem lw_p18 : lw_okq (⟨"AntennaHallModel", "farOf", "(I)I"⟩, 25) := ⟨⟨by decide +kernel, by decide +kernel⟩, List.mem_of_getElem? (i := 562) (by decide +kernel), List.mem_of_getElem? (i := 671) (by decide +kernel), List.mem_of_getElem? (i := 672) (by decide +kernel)⟩
theorem lw_p19 : lw_okq (⟨"AntennaHallModel", "backOf", "(I)I"⟩, 25) := ⟨⟨by decide +kernel, by decide +kernel⟩, List.mem_of_getElem? (i := 562) (by decide +kernel), List.mem_of_getElem? (i := 683) (by decide +kernel), List.mem_of_getElem? (i := 684) (by decide +kernel)⟩
theorem lw_p20 : lw_okq (⟨"AntennaHallModel", "lostMany", "()I"⟩, 25) := ⟨⟨by decide +kernel, by decide +kernel⟩, List.mem_of_getElem? (i := 562) (by decide +kernel), List.mem_of_getElem? (i := 729) (by decide +kernel), List.mem_of_getElem? (i := 730) (by decide +kernel)⟩
theorem lw_p21 : lw_okq (⟨"AntennaHallModel", "solve", "(II)I"⟩, 25) := ⟨⟨by decide +kernel, by decide +kernel⟩, List.mem_of_getElem? (i := 562) (by decide +kernel), List.mem_of_getElem? (i := 737) (by decide +kernel), List.mem_of_getElem? (i := 738) (by decide +kernel)⟩
theorem lw_p22 : lw_okq (⟨"AntennaHallModel", "turn", "(II)V"⟩, 25) := ⟨⟨by decide +kernel, by decide +kernel⟩, List.mem_of_getElem? (i := 562) (by decide +kernel), List.mem_of_getElem? (i := 741) (by decide +kernel), List.mem_of_getElem? (i := 742) (by decide +kernel)⟩
theorem lw_p23 : lw_okq (⟨"AntennaHallModel", "clear", "(III)V"⟩, 25) := ⟨⟨by decide +kernel, by decide +kernel⟩, List.mem_of_getElem? (i := 562) (by decide +kernel), List.mem_of_getElem? (i := 745) (by decide +kernel), List.mem_of_getElem? (i := 746) (by decide +kernel)⟩
theorem lw_p24 : lw_okq (⟨"AntennaHallModel", "findThrees", "(I)V"⟩, 25) := ⟨⟨by decide +kernel, by decide +kernel⟩, List.mem_of_getElem? (i := 562) (by decide +kernel), List.mem_of_getElem? (i := 795) (by decide +kernel), List.mem_of_getElem? (i := 796) (by decide +kernel)⟩
theorem lw_p25 : lw_okq (⟨"AntennaHallModel", "isOff", "()Z"⟩, 25) := ⟨⟨by decide +kernel, by decide +kernel⟩, List.mem_of_getElem? (i := 562) (by decide +kernel), List.mem_of_getElem? (i := 812) (by decide +kernel), List.mem_of_getElem? (i := 813) (by decide +kernel)⟩
theorem lw_p26 : lw_okq (⟨"AntennaHallModel", "offBy", "(I)I"⟩, 25) := ⟨⟨by decide +kernel, by decide +kernel⟩, List.mem_of_getElem? (i := 562) (by decide +kernel), List.mem_of_getElem? (i := 816) (by decide +kernel), List.mem_of_getElem? (i := 817) (by decide +kernel)⟩
theorem lw_p27 : lw_okq (⟨"AntennaHallModel", "faultAt", "(I)I"⟩, 25) := ⟨⟨by decide +kernel, by decide +kernel⟩, List.mem_of_getElem? (i := 562) (by decide +kernel), List.mem_of_getElem? (i := 824) (by decide +kernel), List.mem_of_getElem? (i := 825) (by decide +kernel)⟩
def lw_privs_2 : List (MethodName × Nat) := [(⟨"AntennaHallModel", "begin", "(I)V"⟩, 25), (⟨"AntennaHallModel", "isPlace", "(I)Z"⟩, 25), (⟨"AntennaHallModel", "farOf", "(I)I"⟩, 25), (⟨"AntennaHallModel", "backOf", "(I)I"⟩, 25), (⟨"AntennaHallModel", "lostMany", "()I"⟩, 25), (⟨"AntennaHallModel", "solve", "(II)I"⟩, 25), (⟨"AntennaHallModel", "turn", "(II)V"⟩, 25), (⟨"AntennaHallModel", "clear", "(III)V"⟩, 25), (⟨"AntennaHallModel", "findThrees", "(I)V"⟩, 25), (⟨"AntennaHallModel", "isOff", "()Z"⟩, 25), (⟨"AntennaHallModel", "offBy", "(I)I"⟩, 25), (⟨"AntennaHallModel", "faultAt", "(I)I"⟩, 25)]
theorem lw_r2 : ∀ q ∈ lw_privs_2, lw_okq q := List.forall_mem_cons.mpr ⟨lw_p16, List.forall_mem_cons.mpr ⟨lw_p17, List.forall_mem_cons.mpr ⟨lw_p18, List.forall_mem_cons.mpr ⟨lw_p19, List.forall_mem_cons.mpr ⟨lw_p20, List.forall_mem_cons.mpr ⟨lw_p21, List.forall_mem_cons.mpr ⟨lw_p22, List.forall_mem_cons.mpr ⟨lw_p23, List.forall_mem_cons.mpr ⟨lw_p24, List.forall_mem_cons.mpr ⟨lw_p25, List.forall_mem_cons.mpr ⟨lw_p26, List.forall_mem_cons.mpr ⟨lw_p27, fun _ h => absurd h List.not_mem_nil⟩⟩⟩⟩⟩⟩⟩⟩⟩⟩⟩⟩
def lw_privs : List (MethodName × Nat) := lw_privs_1 ++ (lw_privs_2)
def lw_tbl : List Cond := k2_sels lw_privs ++ tables_1
theorem lw_privs_ok : ∀ q ∈ lw_privs, lw_okq q := by
  show ∀ q ∈ lw_privs_1 ++ (lw_privs_2), lw_okq q
  exact List.forall_mem_append.mpr ⟨lw_r1, lw_r2⟩
end
section
/-! ===== BEGIN words of one list among another's, by their places ===== -/
theorem goodIn_r {big : List Cond} (ws : List Cond) (ps : List Nat) (hp : ws = ps.filterMap (fun i => big[i]?)) (h : ws.all goodWord = true) : GoodIn big ws := by
  intro w hw
  have h1 := List.all_eq_true.mp h w hw
  rw [hp] at hw
  obtain ⟨i, -, hi⟩ := List.mem_filterMap.mp hw
  have hm : w ∈ big := by first | exact List.mem_of_getElem? hi | exact List.getElem?_mem hi
  exact ⟨hm, good_of_word h1⟩
theorem goodIn_app {big a b : List Cond} (ha : GoodIn big a) (hb : GoodIn big b) : GoodIn big (a ++ b) := fun w h => (List.mem_append.mp h).elim (ha w) (hb w)
theorem goodIn_ca {big a b : List Cond} {c : Cond} (ha : GoodIn big (c :: a)) (hb : GoodIn big b) : GoodIn big (c :: (a ++ b)) := fun w h => (List.mem_cons.mp h).elim (fun e => ha w (List.mem_cons.mpr (Or.inl e))) (fun h => (List.mem_append.mp h).elim (fun h => ha w (List.mem_cons.mpr (Or.inr h))) (hb w))
theorem goodIn_sub {big ws : List Cond} (hm : ∀ w ∈ ws, w ∈ big) (h : ws.all goodWord = true) : GoodIn big ws := fun w hw => ⟨hm w hw, good_of_word (List.all_eq_true.mp h w hw)⟩
/-! ===== END ===== -/

/-! ===== BEGIN printed: names, fields, word lists, decode rows ===== -/
def RX0 : String := "AntennaHall$Doubts"
def TX0 : u_T := fun k => match k with
  | 0 => ("AntennaHall$Doubts", "count", "I", false)
  | _ => ("AntennaHall$Doubts", "values", "[I", true)
def tyX0 : Nat → FieldType := fun k => match k with
  | 0 => .int
  | _ => .array .int
abbrev wsX00 : List Cond := u_ws RX0 TX0 2
theorem nmX0 : ∀ a, a < 2 → ∀ b, b < 2 → a ≠ b → (TX0 a).2.1 ≠ (TX0 b).2.1 := by decide +kernel
theorem tyX0_ok : ∀ k, k < 2 → parseFieldDescriptor (TX0 k).2.2.1 = some (tyX0 k) := by decide +kernel
abbrev cX0_init : ByteArray := prog_2_method_1_code
def yX0_init : MethodName := ⟨RX0, "<init>", "()V"⟩
abbrev cX0_add : ByteArray := prog_2_method_2_code
def yX0_add : MethodName := ⟨RX0, "add", "(I)V"⟩
abbrev cX0_sum : ByteArray := prog_2_method_3_code
def yX0_sum : MethodName := ⟨RX0, "sum", "()I"⟩
abbrev cX0_squares : ByteArray := prog_2_method_4_code
def yX0_squares : MethodName := ⟨RX0, "squares", "()J"⟩
abbrev cX0_greatest : ByteArray := prog_2_method_5_code
def yX0_greatest : MethodName := ⟨RX0, "greatest", "()I"⟩
abbrev cX0_foldInto : ByteArray := prog_2_method_6_code
def yX0_foldInto : MethodName := ⟨RX0, "foldInto", "(J)J"⟩
def RX1 : String := "AntennaHall$Mender"
def TX1 : u_T := fun k => match k with
  | 0 => ("AntennaHall$Mender", "cells", "[[J", true)
  | 1 => ("AntennaHall$Mender", "unknowns", "[I", true)
  | 2 => ("AntennaHall$Mender", "width", "I", false)
  | _ => ("AntennaHall$Mender", "height", "I", false)
def tyX1 : Nat → FieldType := fun k => match k with
  | 0 => .array (.array .long)
  | 1 => .array .int
  | 2 => .int
  | _ => .int
abbrev wsX10 : List Cond := u_ws RX1 TX1 4
theorem nmX1 : ∀ a, a < 4 → ∀ b, b < 4 → a ≠ b → (TX1 a).2.1 ≠ (TX1 b).2.1 := by decide +kernel
theorem tyX1_ok : ∀ k, k < 4 → parseFieldDescriptor (TX1 k).2.2.1 = some (tyX1 k) := by decide +kernel
abbrev cX1_init : ByteArray := prog_3_method_1_code
def yX1_init : MethodName := ⟨RX1, "<init>", "()V"⟩
abbrev cX1_solve : ByteArray := prog_3_method_2_code
def yX1_solve : MethodName := ⟨RX1, "solve", "(LAntennaHall$Net;II)I"⟩
abbrev cX1_partOf : ByteArray := prog_3_method_3_code
def yX1_partOf : MethodName := ⟨RX1, "partOf", "(II)J"⟩
abbrev cX1_listLost : ByteArray := prog_3_method_4_code
def yX1_listLost : MethodName := ⟨RX1, "listLost", "(LAntennaHall$Net;)V"⟩
abbrev cX1_writeEquations : ByteArray := prog_3_method_5_code
def yX1_writeEquations : MethodName := ⟨RX1, "writeEquations", "(LAntennaHall$Net;II)V"⟩
abbrev cX1_writeEquation : ByteArray := prog_3_method_6_code
def yX1_writeEquation : MethodName := ⟨RX1, "writeEquation", "([JLAntennaHall$Net;I)V"⟩
abbrev cX1_reduce : ByteArray := prog_3_method_7_code
def yX1_reduce : MethodName := ⟨RX1, "reduce", "()I"⟩
abbrev cX1_findPivot : ByteArray := prog_3_method_8_code
def yX1_findPivot : MethodName := ⟨RX1, "findPivot", "(II)I"⟩
abbrev cX1_swapRows : ByteArray := prog_3_method_9_code
def yX1_swapRows : MethodName := ⟨RX1, "swapRows", "(II)V"⟩
abbrev cX1_clearColumn : ByteArray := prog_3_method_10_code
def yX1_clearColumn : MethodName := ⟨RX1, "clearColumn", "(IIJ)V"⟩
abbrev cX1_above : ByteArray := prog_3_method_11_code
def yX1_above : MethodName := ⟨RX1, "above", "(I)J"⟩
abbrev cX1_below : ByteArray := prog_3_method_12_code
def yX1_below : MethodName := ⟨RX1, "below", "(I)J"⟩
abbrev cX1_commonDivisor : ByteArray := prog_3_method_13_code
def yX1_commonDivisor : MethodName := ⟨RX1, "commonDivisor", "(JJ)J"⟩
def RX2 : String := "AntennaHall$Net"
def TX2 : u_T := fun k => match k with
  | 0 => ("AntennaHall$Net", "n", "I", false)
  | 1 => ("AntennaHall$Net", "near", "[I", true)
  | 2 => ("AntennaHall$Net", "far", "[I", true)
  | 3 => ("AntennaHall$Net", "probes", "[I", true)
  | 4 => ("AntennaHall$Net", "row", "[I", true)
  | 5 => ("AntennaHall$Net", "measured", "[I", true)
  | 6 => ("AntennaHall$Net", "limits", "[I", true)
  | 7 => ("AntennaHall$Net", "lost", "[Z", true)
  | _ => ("AntennaHall$Net", "isMeasured", "[Z", true)
def tyX2 : Nat → FieldType := fun k => match k with
  | 0 => .int
  | 1 => .array .int
  | 2 => .array .int
  | 3 => .array .int
  | 4 => .array .int
  | 5 => .array .int
  | 6 => .array .int
  | 7 => .array .boolean
  | _ => .array .boolean
abbrev wsX20 : List Cond := u_ws RX2 TX2 9
theorem nmX2 : ∀ a, a < 9 → ∀ b, b < 9 → a ≠ b → (TX2 a).2.1 ≠ (TX2 b).2.1 := by decide +kernel
theorem tyX2_ok : ∀ k, k < 9 → parseFieldDescriptor (TX2 k).2.2.1 = some (tyX2 k) := by decide +kernel
abbrev cX2_init : ByteArray := prog_4_method_1_code
def yX2_init : MethodName := ⟨RX2, "<init>", "()V"⟩
abbrev cX2_startAnew : ByteArray := prog_4_method_2_code
def yX2_startAnew : MethodName := ⟨RX2, "startAnew", "(I)V"⟩
abbrev cX2_has : ByteArray := prog_4_method_3_code
def yX2_has : MethodName := ⟨RX2, "has", "(I)Z"⟩
abbrev cX2_setNear : ByteArray := prog_4_method_4_code
def yX2_setNear : MethodName := ⟨RX2, "setNear", "(II)V"⟩
abbrev cX2_rowThroughTo : ByteArray := prog_4_method_5_code
def yX2_rowThroughTo : MethodName := ⟨RX2, "rowThroughTo", "(I)I"⟩
abbrev cX2_goesBack : ByteArray := prog_4_method_6_code
def yX2_goesBack : MethodName := ⟨RX2, "goesBack", "()Z"⟩
abbrev cX2_takeBack : ByteArray := prog_4_method_7_code
def yX2_takeBack : MethodName := ⟨RX2, "takeBack", "()Z"⟩
abbrev cX2_isWholeWithoutProbe : ByteArray := prog_4_method_8_code
def yX2_isWholeWithoutProbe : MethodName := ⟨RX2, "isWholeWithoutProbe", "()Z"⟩
abbrev cX2_takeProbeOff : ByteArray := prog_4_method_9_code
def yX2_takeProbeOff : MethodName := ⟨RX2, "takeProbeOff", "()Z"⟩
abbrev cX2_sumThrough : ByteArray := prog_4_method_10_code
def yX2_sumThrough : MethodName := ⟨RX2, "sumThrough", "(III)I"⟩
abbrev cX2_squaresThrough : ByteArray := prog_4_method_11_code
def yX2_squaresThrough : MethodName := ⟨RX2, "squaresThrough", "(II)J"⟩
abbrev cX2_countLost : ByteArray := prog_4_method_12_code
def yX2_countLost : MethodName := ⟨RX2, "countLost", "()I"⟩
abbrev cX2_countMeasured : ByteArray := prog_4_method_13_code
def yX2_countMeasured : MethodName := ⟨RX2, "countMeasured", "()I"⟩
abbrev cX2_countTrue : ByteArray := prog_4_method_14_code
def yX2_countTrue : MethodName := ⟨RX2, "countTrue", "([Z)I"⟩
abbrev cX2_offAt : ByteArray := prog_4_method_15_code
def yX2_offAt : MethodName := ⟨RX2, "offAt", "(I)I"⟩
abbrev cX2_isAnythingOff : ByteArray := prog_4_method_16_code
def yX2_isAnythingOff : MethodName := ⟨RX2, "isAnythingOff", "()Z"⟩
abbrev cX2_firstMeasured : ByteArray := prog_4_method_17_code
def yX2_firstMeasured : MethodName := ⟨RX2, "firstMeasured", "()I"⟩
abbrev cX2_faultOf : ByteArray := prog_4_method_18_code
def yX2_faultOf : MethodName := ⟨RX2, "faultOf", "(I)I"⟩
abbrev cX2_countFaults : ByteArray := prog_4_method_19_code
def yX2_countFaults : MethodName := ⟨RX2, "countFaults", "()I"⟩
abbrev cX2_elementOfFault : ByteArray := prog_4_method_20_code
def yX2_elementOfFault : MethodName := ⟨RX2, "elementOfFault", "(I)I"⟩
abbrev cX2_foldInto : ByteArray := prog_4_method_21_code
def yX2_foldInto : MethodName := ⟨RX2, "foldInto", "(J)J"⟩
def RX3 : String := "AntennaHall$Pairs"
def TX3 : u_T := fun k => match k with
  | 0 => ("AntennaHall$Pairs", "m", "I", false)
  | 1 => ("AntennaHall$Pairs", "known", "[[I", true)
  | _ => ("AntennaHall$Pairs", "values", "[[I", true)
def tyX3 : Nat → FieldType := fun k => match k with
  | 0 => .int
  | 1 => .array (.array .int)
  | _ => .array (.array .int)
abbrev wsX30 : List Cond := u_ws RX3 TX3 3
theorem nmX3 : ∀ a, a < 3 → ∀ b, b < 3 → a ≠ b → (TX3 a).2.1 ≠ (TX3 b).2.1 := by decide +kernel
theorem tyX3_ok : ∀ k, k < 3 → parseFieldDescriptor (TX3 k).2.2.1 = some (tyX3 k) := by decide +kernel
abbrev cX3_init : ByteArray := prog_5_method_1_code
def yX3_init : MethodName := ⟨RX3, "<init>", "()V"⟩
abbrev cX3_startAnew : ByteArray := prog_5_method_2_code
def yX3_startAnew : MethodName := ⟨RX3, "startAnew", "(I)V"⟩
abbrev cX3_has : ByteArray := prog_5_method_3_code
def yX3_has : MethodName := ⟨RX3, "has", "(I)Z"⟩
abbrev cX3_put : ByteArray := prog_5_method_4_code
def yX3_put : MethodName := ⟨RX3, "put", "(IIIZ)V"⟩
abbrev cX3_isWhole : ByteArray := prog_5_method_5_code
def yX3_isWhole : MethodName := ⟨RX3, "isWhole", "(III)Z"⟩
abbrev cX3_gainBy : ByteArray := prog_5_method_6_code
def yX3_gainBy : MethodName := ⟨RX3, "gainBy", "(III)I"⟩
abbrev cX3_firstGain : ByteArray := prog_5_method_7_code
def yX3_firstGain : MethodName := ⟨RX3, "firstGain", "(I)I"⟩
abbrev cX3_spread : ByteArray := prog_5_method_8_code
def yX3_spread : MethodName := ⟨RX3, "spread", "(I)I"⟩
abbrev cX3_countKnown : ByteArray := prog_5_method_9_code
def yX3_countKnown : MethodName := ⟨RX3, "countKnown", "()I"⟩
abbrev cX3_foldInto : ByteArray := prog_5_method_10_code
def yX3_foldInto : MethodName := ⟨RX3, "foldInto", "(J)J"⟩
def RX4 : String := "AntennaHall$Sheet"
def TX4 : u_T := fun k => match k with
  | 0 => ("AntennaHall$Sheet", "rows", "I", false)
  | 1 => ("AntennaHall$Sheet", "columns", "I", false)
  | _ => ("AntennaHall$Sheet", "cells", "[[I", true)
def tyX4 : Nat → FieldType := fun k => match k with
  | 0 => .int
  | 1 => .int
  | _ => .array (.array .int)
abbrev wsX40 : List Cond := u_ws RX4 TX4 3
theorem nmX4 : ∀ a, a < 3 → ∀ b, b < 3 → a ≠ b → (TX4 a).2.1 ≠ (TX4 b).2.1 := by decide +kernel
theorem tyX4_ok : ∀ k, k < 3 → parseFieldDescriptor (TX4 k).2.2.1 = some (tyX4 k) := by decide +kernel
abbrev cX4_init : ByteArray := prog_6_method_1_code
def yX4_init : MethodName := ⟨RX4, "<init>", "()V"⟩
abbrev cX4_startAnew : ByteArray := prog_6_method_2_code
def yX4_startAnew : MethodName := ⟨RX4, "startAnew", "(II)V"⟩
abbrev cX4_holds : ByteArray := prog_6_method_3_code
def yX4_holds : MethodName := ⟨RX4, "holds", "(II)Z"⟩
abbrev cX4_closedCell : ByteArray := prog_6_method_4_code
def yX4_closedCell : MethodName := ⟨RX4, "closedCell", "(II)I"⟩
abbrev cX4_tiedCell : ByteArray := prog_6_method_5_code
def yX4_tiedCell : MethodName := ⟨RX4, "tiedCell", "(II)I"⟩
abbrev cX4_foldInto : ByteArray := prog_6_method_6_code
def yX4_foldInto : MethodName := ⟨RX4, "foldInto", "(J)J"⟩
def RX5 : String := "AntennaHall"
def TX5 : u_T := fun k => match k with
  | 0 => ("AntennaHall", "places", "LAntennaHall$Net;", true)
  | 1 => ("AntennaHall", "mender", "LAntennaHall$Mender;", true)
  | 2 => ("AntennaHall", "drift", "LAntennaHall$Sheet;", true)
  | 3 => ("AntennaHall", "pairs", "LAntennaHall$Pairs;", true)
  | _ => ("AntennaHall", "doubts", "LAntennaHall$Doubts;", true)
def tyX5 : Nat → FieldType := fun k => match k with
  | 0 => .object "AntennaHall$Net"
  | 1 => .object "AntennaHall$Mender"
  | 2 => .object "AntennaHall$Sheet"
  | 3 => .object "AntennaHall$Pairs"
  | _ => .object "AntennaHall$Doubts"
abbrev wsX50 : List Cond := u_ws RX5 TX5 5
theorem nmX5 : ∀ a, a < 5 → ∀ b, b < 5 → a ≠ b → (TX5 a).2.1 ≠ (TX5 b).2.1 := by decide +kernel
theorem tyX5_ok : ∀ k, k < 5 → parseFieldDescriptor (TX5 k).2.2.1 = some (tyX5 k) := by decide +kernel
abbrev cX5_init : ByteArray := prog_1_method_1_code
def yX5_init : MethodName := ⟨RX5, "<init>", "()V"⟩
abbrev cX5_net : ByteArray := prog_1_method_2_code
def yX5_net : MethodName := ⟨RX5, "net", "(I)I"⟩
abbrev cX5_near : ByteArray := prog_1_method_3_code
def yX5_near : MethodName := ⟨RX5, "near", "(II)I"⟩
abbrev cX5_far : ByteArray := prog_1_method_4_code
def yX5_far : MethodName := ⟨RX5, "far", "(I)I"⟩
abbrev cX5_back : ByteArray := prog_1_method_5_code
def yX5_back : MethodName := ⟨RX5, "back", "()I"⟩
abbrev cX5_tell : ByteArray := prog_1_method_6_code
def yX5_tell : MethodName := ⟨RX5, "tell", "(II)I"⟩
abbrev cX5_probe : ByteArray := prog_1_method_7_code
def yX5_probe : MethodName := ⟨RX5, "probe", "(II)I"⟩
abbrev cX5_seen : ByteArray := prog_1_method_8_code
def yX5_seen : MethodName := ⟨RX5, "seen", "(I)I"⟩
abbrev cX5_unprobe : ByteArray := prog_1_method_9_code
def yX5_unprobe : MethodName := ⟨RX5, "unprobe", "()I"⟩
abbrev cX5_gated : ByteArray := prog_1_method_10_code
def yX5_gated : MethodName := ⟨RX5, "gated", "(III)I"⟩
abbrev cX5_power : ByteArray := prog_1_method_11_code
def yX5_power : MethodName := ⟨RX5, "power", "(II)J"⟩
abbrev cX5_lose : ByteArray := prog_1_method_12_code
def yX5_lose : MethodName := ⟨RX5, "lose", "(IZ)I"⟩
abbrev cX5_mends : ByteArray := prog_1_method_13_code
def yX5_mends : MethodName := ⟨RX5, "mends", "(II)I"⟩
abbrev cX5_mend : ByteArray := prog_1_method_14_code
def yX5_mend : MethodName := ⟨RX5, "mend", "(IIII)J"⟩
abbrev cX5_sheet : ByteArray := prog_1_method_15_code
def yX5_sheet : MethodName := ⟨RX5, "sheet", "(II)I"⟩
abbrev cX5_cell : ByteArray := prog_1_method_16_code
def yX5_cell : MethodName := ⟨RX5, "cell", "(III)I"⟩
abbrev cX5_closed : ByteArray := prog_1_method_17_code
def yX5_closed : MethodName := ⟨RX5, "closed", "(II)I"⟩
abbrev cX5_tied : ByteArray := prog_1_method_18_code
def yX5_tied : MethodName := ⟨RX5, "tied", "(II)I"⟩
abbrev cX5_antennas : ByteArray := prog_1_method_19_code
def yX5_antennas : MethodName := ⟨RX5, "antennas", "(I)I"⟩
abbrev cX5_together : ByteArray := prog_1_method_20_code
def yX5_together : MethodName := ⟨RX5, "together", "(IIIZ)I"⟩
abbrev cX5_gain : ByteArray := prog_1_method_21_code
def yX5_gain : MethodName := ⟨RX5, "gain", "(I)I"⟩
abbrev cX5_loose : ByteArray := prog_1_method_22_code
def yX5_loose : MethodName := ⟨RX5, "loose", "()I"⟩
abbrev cX5_measure : ByteArray := prog_1_method_23_code
def yX5_measure : MethodName := ⟨RX5, "measure", "(IIZ)I"⟩
abbrev cX5_faults : ByteArray := prog_1_method_24_code
def yX5_faults : MethodName := ⟨RX5, "faults", "()I"⟩
abbrev cX5_fault : ByteArray := prog_1_method_25_code
def yX5_fault : MethodName := ⟨RX5, "fault", "(I)I"⟩
abbrev cX5_by : ByteArray := prog_1_method_26_code
def yX5_by : MethodName := ⟨RX5, "by", "(I)I"⟩
abbrev cX5_limit : ByteArray := prog_1_method_27_code
def yX5_limit : MethodName := ⟨RX5, "limit", "(II)I"⟩
abbrev cX5_broken : ByteArray := prog_1_method_28_code
def yX5_broken : MethodName := ⟨RX5, "broken", "()I"⟩
abbrev cX5_doubt : ByteArray := prog_1_method_29_code
def yX5_doubt : MethodName := ⟨RX5, "doubt", "(I)I"⟩
abbrev cX5_budget : ByteArray := prog_1_method_30_code
def yX5_budget : MethodName := ⟨RX5, "budget", "(I)I"⟩
abbrev cX5_sure : ByteArray := prog_1_method_31_code
def yX5_sure : MethodName := ⟨RX5, "sure", "()I"⟩
abbrev cX5_count : ByteArray := prog_1_method_32_code
def yX5_count : MethodName := ⟨RX5, "count", "(I)I"⟩
abbrev cX5_digest : ByteArray := prog_1_method_33_code
def yX5_digest : MethodName := ⟨RX5, "digest", "()J"⟩
abbrev cX5_isOutside : ByteArray := prog_1_method_34_code
def yX5_isOutside : MethodName := ⟨RX5, "isOutside", "(III)Z"⟩
abbrev cX5_isGate : ByteArray := prog_1_method_35_code
def yX5_isGate : MethodName := ⟨RX5, "isGate", "(II)Z"⟩
abbrev cX5_passes : ByteArray := prog_1_method_36_code
def yX5_passes : MethodName := ⟨RX5, "passes", "(III)Z"⟩
abbrev cX5_signOf : ByteArray := prog_1_method_37_code
def yX5_signOf : MethodName := ⟨RX5, "signOf", "(II)I"⟩
abbrev cX5_fold : ByteArray := prog_1_method_38_code
def yX5_fold : MethodName := ⟨RX5, "fold", "(JJ)J"⟩
abbrev cX5_foldIfKnown : ByteArray := prog_1_method_39_code
def yX5_foldIfKnown : MethodName := ⟨RX5, "foldIfKnown", "(JZI)J"⟩
abbrev cX5_rootUp : ByteArray := prog_1_method_40_code
def yX5_rootUp : MethodName := ⟨RX5, "rootUp", "(J)I"⟩
def RX6 : String := "AntennaHallModel"
def TX6 : u_T := fun k => match k with
  | 0 => ("AntennaHallModel", "n", "I", false)
  | 1 => ("AntennaHallModel", "near", "[I", true)
  | 2 => ("AntennaHallModel", "hand", "[I", true)
  | 3 => ("AntennaHallModel", "probe", "[I", true)
  | 4 => ("AntennaHallModel", "isLost", "[Z", true)
  | 5 => ("AntennaHallModel", "isMeasured", "[Z", true)
  | 6 => ("AntennaHallModel", "measured", "[I", true)
  | 7 => ("AntennaHallModel", "limits", "[I", true)
  | 8 => ("AntennaHallModel", "table", "[J", true)
  | 9 => ("AntennaHallModel", "tableRows", "I", false)
  | 10 => ("AntennaHallModel", "lost", "[I", true)
  | 11 => ("AntennaHallModel", "losts", "I", false)
  | 12 => ("AntennaHallModel", "stepOf", "[I", true)
  | 13 => ("AntennaHallModel", "rows", "I", false)
  | 14 => ("AntennaHallModel", "columns", "I", false)
  | 15 => ("AntennaHallModel", "sheet", "[I", true)
  | 16 => ("AntennaHallModel", "antennas", "I", false)
  | 17 => ("AntennaHallModel", "hasPair", "[Z", true)
  | 18 => ("AntennaHallModel", "pairs", "[I", true)
  | 19 => ("AntennaHallModel", "threes", "I", false)
  | 20 => ("AntennaHallModel", "firstGain", "I", false)
  | 21 => ("AntennaHallModel", "leastGain", "I", false)
  | 22 => ("AntennaHallModel", "mostGain", "I", false)
  | 23 => ("AntennaHallModel", "doubts", "I", false)
  | _ => ("AntennaHallModel", "doubt", "[I", true)
def tyX6 : Nat → FieldType := fun k => match k with
  | 0 => .int
  | 1 => .array .int
  | 2 => .array .int
  | 3 => .array .int
  | 4 => .array .boolean
  | 5 => .array .boolean
  | 6 => .array .int
  | 7 => .array .int
  | 8 => .array .long
  | 9 => .int
  | 10 => .array .int
  | 11 => .int
  | 12 => .array .int
  | 13 => .int
  | 14 => .int
  | 15 => .array .int
  | 16 => .int
  | 17 => .array .boolean
  | 18 => .array .int
  | 19 => .int
  | 20 => .int
  | 21 => .int
  | 22 => .int
  | 23 => .int
  | _ => .array .int
abbrev wsX60 : List Cond := u_ws RX6 TX6 25
theorem nmX6 : ∀ a, a < 25 → ∀ b, b < 25 → a ≠ b → (TX6 a).2.1 ≠ (TX6 b).2.1 := by decide +kernel
theorem tyX6_ok : ∀ k, k < 25 → parseFieldDescriptor (TX6 k).2.2.1 = some (tyX6 k) := by decide +kernel
abbrev cX6_init : ByteArray := prog_8_method_1_code
def yX6_init : MethodName := ⟨RX6, "<init>", "()V"⟩
abbrev cX6_in : ByteArray := prog_8_method_2_code
def yX6_in : MethodName := ⟨RX6, "in", "(JJJ)Z"⟩
abbrev cX6_floor : ByteArray := prog_8_method_3_code
def yX6_floor : MethodName := ⟨RX6, "floor", "(II)I"⟩
abbrev cX6_begin : ByteArray := prog_8_method_4_code
def yX6_begin : MethodName := ⟨RX6, "begin", "(I)V"⟩
abbrev cX6_net : ByteArray := prog_8_method_5_code
def yX6_net : MethodName := ⟨RX6, "net", "(I)I"⟩
abbrev cX6_isPlace : ByteArray := prog_8_method_6_code
def yX6_isPlace : MethodName := ⟨RX6, "isPlace", "(I)Z"⟩
abbrev cX6_sign : ByteArray := prog_8_method_7_code
def yX6_sign : MethodName := ⟨RX6, "sign", "(II)I"⟩
abbrev cX6_near : ByteArray := prog_8_method_8_code
def yX6_near : MethodName := ⟨RX6, "near", "(II)I"⟩
abbrev cX6_farOf : ByteArray := prog_8_method_9_code
def yX6_farOf : MethodName := ⟨RX6, "farOf", "(I)I"⟩
abbrev cX6_far : ByteArray := prog_8_method_10_code
def yX6_far : MethodName := ⟨RX6, "far", "(I)I"⟩
abbrev cX6_backOf : ByteArray := prog_8_method_11_code
def yX6_backOf : MethodName := ⟨RX6, "backOf", "(I)I"⟩
abbrev cX6_back : ByteArray := prog_8_method_12_code
def yX6_back : MethodName := ⟨RX6, "back", "()I"⟩
abbrev cX6_tell : ByteArray := prog_8_method_13_code
def yX6_tell : MethodName := ⟨RX6, "tell", "(II)I"⟩
abbrev cX6_probe : ByteArray := prog_8_method_14_code
def yX6_probe : MethodName := ⟨RX6, "probe", "(II)I"⟩
abbrev cX6_seen : ByteArray := prog_8_method_15_code
def yX6_seen : MethodName := ⟨RX6, "seen", "(I)I"⟩
abbrev cX6_unprobe : ByteArray := prog_8_method_16_code
def yX6_unprobe : MethodName := ⟨RX6, "unprobe", "()I"⟩
abbrev cX6_isGate : ByteArray := prog_8_method_17_code
def yX6_isGate : MethodName := ⟨RX6, "isGate", "(II)Z"⟩
abbrev cX6_passes : ByteArray := prog_8_method_18_code
def yX6_passes : MethodName := ⟨RX6, "passes", "(III)Z"⟩
abbrev cX6_gated : ByteArray := prog_8_method_19_code
def yX6_gated : MethodName := ⟨RX6, "gated", "(III)I"⟩
abbrev cX6_power : ByteArray := prog_8_method_20_code
def yX6_power : MethodName := ⟨RX6, "power", "(II)J"⟩
abbrev cX6_lostMany : ByteArray := prog_8_method_21_code
def yX6_lostMany : MethodName := ⟨RX6, "lostMany", "()I"⟩
abbrev cX6_lose : ByteArray := prog_8_method_22_code
def yX6_lose : MethodName := ⟨RX6, "lose", "(IZ)I"⟩
abbrev cX6_solve : ByteArray := prog_8_method_23_code
def yX6_solve : MethodName := ⟨RX6, "solve", "(II)I"⟩
abbrev cX6_turn : ByteArray := prog_8_method_24_code
def yX6_turn : MethodName := ⟨RX6, "turn", "(II)V"⟩
abbrev cX6_clear : ByteArray := prog_8_method_25_code
def yX6_clear : MethodName := ⟨RX6, "clear", "(III)V"⟩
abbrev cX6_common : ByteArray := prog_8_method_26_code
def yX6_common : MethodName := ⟨RX6, "common", "(JJ)J"⟩
abbrev cX6_mends : ByteArray := prog_8_method_27_code
def yX6_mends : MethodName := ⟨RX6, "mends", "(II)I"⟩
abbrev cX6_mend : ByteArray := prog_8_method_28_code
def yX6_mend : MethodName := ⟨RX6, "mend", "(IIII)J"⟩
abbrev cX6_sheet : ByteArray := prog_8_method_29_code
def yX6_sheet : MethodName := ⟨RX6, "sheet", "(II)I"⟩
abbrev cX6_cell : ByteArray := prog_8_method_30_code
def yX6_cell : MethodName := ⟨RX6, "cell", "(III)I"⟩
abbrev cX6_closed : ByteArray := prog_8_method_31_code
def yX6_closed : MethodName := ⟨RX6, "closed", "(II)I"⟩
abbrev cX6_tied : ByteArray := prog_8_method_32_code
def yX6_tied : MethodName := ⟨RX6, "tied", "(II)I"⟩
abbrev cX6_antennas : ByteArray := prog_8_method_33_code
def yX6_antennas : MethodName := ⟨RX6, "antennas", "(I)I"⟩
abbrev cX6_together : ByteArray := prog_8_method_34_code
def yX6_together : MethodName := ⟨RX6, "together", "(IIIZ)I"⟩
abbrev cX6_findThrees : ByteArray := prog_8_method_35_code
def yX6_findThrees : MethodName := ⟨RX6, "findThrees", "(I)V"⟩
abbrev cX6_gain : ByteArray := prog_8_method_36_code
def yX6_gain : MethodName := ⟨RX6, "gain", "(I)I"⟩
abbrev cX6_loose : ByteArray := prog_8_method_37_code
def yX6_loose : MethodName := ⟨RX6, "loose", "()I"⟩
abbrev cX6_measure : ByteArray := prog_8_method_38_code
def yX6_measure : MethodName := ⟨RX6, "measure", "(IIZ)I"⟩
abbrev cX6_offBy : ByteArray := prog_8_method_39_code
def yX6_offBy : MethodName := ⟨RX6, "offBy", "(I)I"⟩
abbrev cX6_isOff : ByteArray := prog_8_method_40_code
def yX6_isOff : MethodName := ⟨RX6, "isOff", "()Z"⟩
abbrev cX6_faults : ByteArray := prog_8_method_41_code
def yX6_faults : MethodName := ⟨RX6, "faults", "()I"⟩
abbrev cX6_faultAt : ByteArray := prog_8_method_42_code
def yX6_faultAt : MethodName := ⟨RX6, "faultAt", "(I)I"⟩
abbrev cX6_fault : ByteArray := prog_8_method_43_code
def yX6_fault : MethodName := ⟨RX6, "fault", "(I)I"⟩
abbrev cX6_by : ByteArray := prog_8_method_44_code
def yX6_by : MethodName := ⟨RX6, "by", "(I)I"⟩
abbrev cX6_limit : ByteArray := prog_8_method_45_code
def yX6_limit : MethodName := ⟨RX6, "limit", "(II)I"⟩
abbrev cX6_broken : ByteArray := prog_8_method_46_code
def yX6_broken : MethodName := ⟨RX6, "broken", "()I"⟩
abbrev cX6_doubt : ByteArray := prog_8_method_47_code
def yX6_doubt : MethodName := ⟨RX6, "doubt", "(I)I"⟩
abbrev cX6_budget : ByteArray := prog_8_method_48_code
def yX6_budget : MethodName := ⟨RX6, "budget", "(I)I"⟩
abbrev cX6_sure : ByteArray := prog_8_method_49_code
def yX6_sure : MethodName := ⟨RX6, "sure", "()I"⟩
abbrev cX6_count : ByteArray := prog_8_method_50_code
def yX6_count : MethodName := ⟨RX6, "count", "(I)I"⟩
abbrev cX6_digest : ByteArray := prog_8_method_51_code
def yX6_digest : MethodName := ⟨RX6, "digest", "()J"⟩
def RJ6 : String := "java/lang/Integer"
def TJ6 : u_T := fun k => match k with
  | _ => ("", "", "", false)
def tyJ6 : Nat → FieldType := fun k => match k with
  | _ => .int
abbrev wsJ60 : List Cond := u_ws RJ6 TJ6 0
theorem nmJ6 : ∀ a, a < 0 → ∀ b, b < 0 → a ≠ b → (TJ6 a).2.1 ≠ (TJ6 b).2.1 := by decide +kernel
theorem tyJ6_ok : ∀ k, k < 0 → parseFieldDescriptor (TJ6 k).2.2.1 = some (tyJ6 k) := by decide +kernel
abbrev cJ6_bitCount_0f7a4 : ByteArray := prog_9_method_49_code
def yJ6_bitCount_0f7a4 : MethodName := ⟨RJ6, "bitCount", "(I)I"⟩
def RJ9 : String := "java/lang/Math"
def TJ9 : u_T := fun k => match k with
  | _ => ("", "", "", false)
def tyJ9 : Nat → FieldType := fun k => match k with
  | _ => .int
abbrev wsJ90 : List Cond := u_ws RJ9 TJ9 0
theorem nmJ9 : ∀ a, a < 0 → ∀ b, b < 0 → a ≠ b → (TJ9 a).2.1 ≠ (TJ9 b).2.1 := by decide +kernel
theorem tyJ9_ok : ∀ k, k < 0 → parseFieldDescriptor (TJ9 k).2.2.1 = some (tyJ9 k) := by decide +kernel
abbrev cJ9_floorDiv_7cf53 : ByteArray := prog_10_method_47_code
def yJ9_floorDiv_7cf53 : MethodName := ⟨RJ9, "floorDiv", "(II)I"⟩
abbrev cJ9_abs_0f7a4 : ByteArray := prog_10_method_59_code
def yJ9_abs_0f7a4 : MethodName := ⟨RJ9, "abs", "(I)I"⟩
abbrev cJ9_abs_067f4 : ByteArray := prog_10_method_61_code
def yJ9_abs_067f4 : MethodName := ⟨RJ9, "abs", "(J)J"⟩
abbrev cJ9_max_7cf53 : ByteArray := prog_10_method_65_code
def yJ9_max_7cf53 : MethodName := ⟨RJ9, "max", "(II)I"⟩
abbrev cJ9_min_7cf53 : ByteArray := prog_10_method_69_code
def yJ9_min_7cf53 : MethodName := ⟨RJ9, "min", "(II)I"⟩
def RL : String := "AntennaHallLaw"
abbrev cL_law : ByteArray := code
def yL_law : MethodName := ⟨RL, "law", "([I)Z"⟩
def wsX0_init : List Cond := .code yX0_init cX0_init 1 none :: ([.methodLink RX0 3 objectInit, .instanceMethod objectInit, .code objectInit ⟨#[0xb1]⟩ 1 none, .arrayClass .int, .fieldLink RX0 9 "AntennaHall$Doubts" "values" "[I"] ++ wsX00)
def wsX0_add : List Cond := .code yX0_add cX0_add 2 none :: ([.fieldLink RX0 15 "AntennaHall$Doubts" "count" "I", .fieldLink RX0 9 "AntennaHall$Doubts" "values" "[I"] ++ wsX00)
def wsX0_sum : List Cond := .code yX0_sum cX0_sum 3 (some .int) :: ([.fieldLink RX0 15 "AntennaHall$Doubts" "count" "I", .fieldLink RX0 9 "AntennaHall$Doubts" "values" "[I"] ++ wsX00)
def wsX0_squares : List Cond := .code yX0_squares cX0_squares 4 (some .long) :: ([.fieldLink RX0 15 "AntennaHall$Doubts" "count" "I", .fieldLink RX0 9 "AntennaHall$Doubts" "values" "[I"] ++ wsX00)
def wsX0_greatest : List Cond := .code yX0_greatest cX0_greatest 3 (some .int) :: ([.fieldLink RX0 15 "AntennaHall$Doubts" "count" "I", .fieldLink RX0 9 "AntennaHall$Doubts" "values" "[I", .methodLink RX0 19 Lib.Math.max.name, .static Lib.Math.max.name, .initialized "java/lang/Math", .code Lib.Math.max.name Lib.Math.max.code 2 (some .int)] ++ wsX00)
def wsX5_fold : List Cond := .code yX5_fold cX5_fold 4 (some .long) :: ([.constantLong RX5 235 (31)])
def wsX0_foldInto : List Cond := .code yX0_foldInto cX0_foldInto 6 (some .long) :: ([.fieldLink RX0 15 "AntennaHall$Doubts" "count" "I", .fieldLink RX0 9 "AntennaHall$Doubts" "values" "[I", .static yX5_fold, .initialized RX5, .code yX5_fold cX5_fold 4 (some .long), .constantLong RX5 235 (31)] ++ wsX00)
def wsX1_init : List Cond := .code yX1_init cX1_init 1 none :: ([.methodLink RX1 3 objectInit, .instanceMethod objectInit, .code objectInit ⟨#[0xb1]⟩ 1 none, .classLink RX1 9 "[[J", .arrayClass .long, .fieldLink RX1 11 "AntennaHall$Mender" "cells" "[[J", .arrayClass .int, .fieldLink RX1 16 "AntennaHall$Mender" "unknowns" "[I"] ++ wsX10)
def wsX1_listLost : List Cond := .code yX1_listLost cX1_listLost 3 none :: ([.fieldLink RX1 36 "AntennaHall$Mender" "width" "I", .fieldLink RX1 48 "AntennaHall$Net" "n" "I", .fieldLink RX1 53 "AntennaHall$Net" "lost" "[Z", .fieldLink RX1 16 "AntennaHall$Mender" "unknowns" "[I"] ++ wsX10 ++ wsX20)
def wsX5_passes : List Cond := .code yX5_passes cX5_passes 3 (some .boolean) :: ([])
def wsJ6_bitCount_0f7a4 : List Cond := .code yJ6_bitCount_0f7a4 cJ6_bitCount_0f7a4 1 (some .int) :: ([.constant RJ6 265 (1431655765), .constant RJ6 266 (858993459), .constant RJ6 267 (252645135)])
def wsX5_signOf : List Cond := .code yX5_signOf cX5_signOf 2 (some .int) :: ([.methodLink RX5 230 yJ6_bitCount_0f7a4, .static yJ6_bitCount_0f7a4, .initialized RJ6, .code yJ6_bitCount_0f7a4 cJ6_bitCount_0f7a4 1 (some .int), .constant RJ6 265 (1431655765), .constant RJ6 266 (858993459), .constant RJ6 267 (252645135)])
def wsX1_writeEquation : List Cond := .code yX1_writeEquation cX1_writeEquation 8 none :: ([.fieldLink RX1 65 "AntennaHall$Net" "far" "[I", .fieldLink RX1 36 "AntennaHall$Mender" "width" "I", .fieldLink RX1 16 "AntennaHall$Mender" "unknowns" "[I", .fieldLink RX1 72 "AntennaHall$Net" "near" "[I", .static yX5_signOf, .initialized RX5, .code yX5_signOf cX5_signOf 2 (some .int), .methodLink RX5 230 yJ6_bitCount_0f7a4, .static yJ6_bitCount_0f7a4, .initialized RJ6, .code yJ6_bitCount_0f7a4 cJ6_bitCount_0f7a4 1 (some .int), .constant RJ6 265 (1431655765), .constant RJ6 266 (858993459), .constant RJ6 267 (252645135)] ++ wsX20 ++ wsX10)
def wsX1_writeEquations : List Cond := .code yX1_writeEquations cX1_writeEquations 5 none :: ([.fieldLink RX1 32 "AntennaHall$Mender" "height" "I", .fieldLink RX1 48 "AntennaHall$Net" "n" "I", .fieldLink RX1 11 "AntennaHall$Mender" "cells" "[[J", .static yX5_passes, .initialized RX5, .code yX5_passes cX5_passes 3 (some .boolean), .methodLink RX1 61 yX1_writeEquation, .instanceMethod yX1_writeEquation, .selects RX1 yX1_writeEquation yX1_writeEquation, .initialized RX1, .code yX1_writeEquation cX1_writeEquation 8 none, .fieldLink RX1 65 "AntennaHall$Net" "far" "[I", .fieldLink RX1 36 "AntennaHall$Mender" "width" "I", .fieldLink RX1 16 "AntennaHall$Mender" "unknowns" "[I", .fieldLink RX1 72 "AntennaHall$Net" "near" "[I", .static yX5_signOf, .code yX5_signOf cX5_signOf 2 (some .int), .methodLink RX5 230 yJ6_bitCount_0f7a4, .static yJ6_bitCount_0f7a4, .initialized RJ6, .code yJ6_bitCount_0f7a4 cJ6_bitCount_0f7a4 1 (some .int), .constant RJ6 265 (1431655765), .constant RJ6 266 (858993459), .constant RJ6 267 (252645135)] ++ wsX10 ++ wsX20)
def wsX1_findPivot : List Cond := .code yX1_findPivot cX1_findPivot 4 (some .int) :: ([.fieldLink RX1 32 "AntennaHall$Mender" "height" "I", .fieldLink RX1 11 "AntennaHall$Mender" "cells" "[[J"] ++ wsX10)
def wsX1_swapRows : List Cond := .code yX1_swapRows cX1_swapRows 6 none :: ([.fieldLink RX1 36 "AntennaHall$Mender" "width" "I", .fieldLink RX1 11 "AntennaHall$Mender" "cells" "[[J"] ++ wsX10)
def wsX1_clearColumn : List Cond := .code yX1_clearColumn cX1_clearColumn 13 none :: ([.fieldLink RX1 11 "AntennaHall$Mender" "cells" "[[J", .fieldLink RX1 32 "AntennaHall$Mender" "height" "I", .fieldLink RX1 36 "AntennaHall$Mender" "width" "I"] ++ wsX10)
def wsX1_reduce : List Cond := .code yX1_reduce cX1_reduce 6 (some .int) :: ([.fieldLink RX1 36 "AntennaHall$Mender" "width" "I", .fieldLink RX1 11 "AntennaHall$Mender" "cells" "[[J", .methodLink RX1 75 yX1_findPivot, .instanceMethod yX1_findPivot, .selects RX1 yX1_findPivot yX1_findPivot, .initialized RX1, .code yX1_findPivot cX1_findPivot 4 (some .int), .fieldLink RX1 32 "AntennaHall$Mender" "height" "I", .methodLink RX1 78 yX1_swapRows, .instanceMethod yX1_swapRows, .selects RX1 yX1_swapRows yX1_swapRows, .code yX1_swapRows cX1_swapRows 6 none, .methodLink RX1 82 yX1_clearColumn, .instanceMethod yX1_clearColumn, .selects RX1 yX1_clearColumn yX1_clearColumn, .code yX1_clearColumn cX1_clearColumn 13 none] ++ wsX10)
def wsX1_solve_r1 : List Cond := [Cond.fieldLink RX1 32 "AntennaHall$Mender" "height" "I", Cond.fieldLink RX1 11 "AntennaHall$Mender" "cells" "[[J", Cond.fieldLink RX1 36 "AntennaHall$Mender" "width" "I", Cond.methodLink RX1 20 yX1_listLost, Cond.instanceMethod yX1_listLost, Cond.selects RX1 yX1_listLost yX1_listLost, Cond.initialized RX1, Cond.code yX1_listLost cX1_listLost 3 none, Cond.fieldLink RX1 48 "AntennaHall$Net" "n" "I", Cond.fieldLink RX1 53 "AntennaHall$Net" "lost" "[Z", Cond.fieldLink RX1 16 "AntennaHall$Mender" "unknowns" "[I", Cond.methodLink RX1 24 yX1_writeEquations, Cond.instanceMethod yX1_writeEquations, Cond.selects RX1 yX1_writeEquations yX1_writeEquations, Cond.code yX1_writeEquations cX1_writeEquations 5 none, Cond.static yX5_passes, Cond.initialized RX5, Cond.code yX5_passes cX5_passes 3 (some .boolean), Cond.methodLink RX1 61 yX1_writeEquation, Cond.instanceMethod yX1_writeEquation, Cond.selects RX1 yX1_writeEquation yX1_writeEquation, Cond.code yX1_writeEquation cX1_writeEquation 8 none, Cond.fieldLink RX1 65 "AntennaHall$Net" "far" "[I", Cond.fieldLink RX1 72 "AntennaHall$Net" "near" "[I"]
def wsX1_solve_r2 : List Cond := [Cond.static yX5_signOf, Cond.code yX5_signOf cX5_signOf 2 (some .int), Cond.methodLink RX5 230 yJ6_bitCount_0f7a4, Cond.static yJ6_bitCount_0f7a4, Cond.initialized RJ6, Cond.code yJ6_bitCount_0f7a4 cJ6_bitCount_0f7a4 1 (some .int), Cond.constant RJ6 265 (1431655765), Cond.constant RJ6 266 (858993459), Cond.constant RJ6 267 (252645135), Cond.methodLink RX1 28 yX1_reduce, Cond.instanceMethod yX1_reduce, Cond.selects RX1 yX1_reduce yX1_reduce, Cond.code yX1_reduce cX1_reduce 6 (some .int), Cond.methodLink RX1 75 yX1_findPivot, Cond.instanceMethod yX1_findPivot, Cond.selects RX1 yX1_findPivot yX1_findPivot, Cond.code yX1_findPivot cX1_findPivot 4 (some .int), Cond.methodLink RX1 78 yX1_swapRows, Cond.instanceMethod yX1_swapRows, Cond.selects RX1 yX1_swapRows yX1_swapRows, Cond.code yX1_swapRows cX1_swapRows 6 none, Cond.methodLink RX1 82 yX1_clearColumn, Cond.instanceMethod yX1_clearColumn, Cond.selects RX1 yX1_clearColumn yX1_clearColumn]
def wsX1_solve_r3 : List Cond := [Cond.code yX1_clearColumn cX1_clearColumn 13 none]
def wsX1_solve : List Cond := .code yX1_solve cX1_solve 6 (some .int) :: ((wsX1_solve_r1 ++ (wsX1_solve_r2 ++ wsX1_solve_r3)) ++ wsX10 ++ wsX20)
def wsX1_commonDivisor : List Cond := .code yX1_commonDivisor cX1_commonDivisor 11 (some .long) :: ([.methodLink RX1 90 Lib.MathLoose.abs_long.x, .static Lib.MathLoose.abs_long.x, .initialized "java/lang/Math", .code Lib.MathLoose.abs_long.x Lib.MathLoose.abs_long.code 2 (some .long)])
def wsX1_above : List Cond := .code yX1_above cX1_above 8 (some .long) :: ([.fieldLink RX1 11 "AntennaHall$Mender" "cells" "[[J", .fieldLink RX1 36 "AntennaHall$Mender" "width" "I", .methodLink RX1 86 yX1_commonDivisor, .static yX1_commonDivisor, .initialized RX1, .code yX1_commonDivisor cX1_commonDivisor 11 (some .long), .methodLink RX1 90 Lib.MathLoose.abs_long.x, .static Lib.MathLoose.abs_long.x, .initialized "java/lang/Math", .code Lib.MathLoose.abs_long.x Lib.MathLoose.abs_long.code 2 (some .long)] ++ wsX10)
def wsX1_below : List Cond := .code yX1_below cX1_below 6 (some .long) :: ([.fieldLink RX1 11 "AntennaHall$Mender" "cells" "[[J", .fieldLink RX1 36 "AntennaHall$Mender" "width" "I", .methodLink RX1 90 Lib.MathLoose.abs_long.x, .static Lib.MathLoose.abs_long.x, .initialized "java/lang/Math", .code Lib.MathLoose.abs_long.x Lib.MathLoose.abs_long.code 2 (some .long), .methodLink RX1 86 yX1_commonDivisor, .static yX1_commonDivisor, .initialized RX1, .code yX1_commonDivisor cX1_commonDivisor 11 (some .long)] ++ wsX10)
def wsX1_partOf : List Cond := .code yX1_partOf cX1_partOf 4 (some .long) :: ([.fieldLink RX1 36 "AntennaHall$Mender" "width" "I", .fieldLink RX1 16 "AntennaHall$Mender" "unknowns" "[I", .constantLong RX1 46 (-9000000000000000001), .methodLink RX1 39 yX1_above, .instanceMethod yX1_above, .selects RX1 yX1_above yX1_above, .initialized RX1, .code yX1_above cX1_above 8 (some .long), .fieldLink RX1 11 "AntennaHall$Mender" "cells" "[[J", .methodLink RX1 86 yX1_commonDivisor, .static yX1_commonDivisor, .code yX1_commonDivisor cX1_commonDivisor 11 (some .long), .methodLink RX1 90 Lib.MathLoose.abs_long.x, .static Lib.MathLoose.abs_long.x, .initialized "java/lang/Math", .code Lib.MathLoose.abs_long.x Lib.MathLoose.abs_long.code 2 (some .long), .methodLink RX1 43 yX1_below, .instanceMethod yX1_below, .selects RX1 yX1_below yX1_below, .code yX1_below cX1_below 6 (some .long)] ++ wsX10)
def wsX2_startAnew : List Cond := .code yX2_startAnew cX2_startAnew 3 none :: ([.fieldLink RX2 41 "AntennaHall$Net" "n" "I", .fieldLink RX2 9 "AntennaHall$Net" "near" "[I", .fieldLink RX2 15 "AntennaHall$Net" "far" "[I", .fieldLink RX2 18 "AntennaHall$Net" "probes" "[I", .fieldLink RX2 21 "AntennaHall$Net" "row" "[I", .fieldLink RX2 24 "AntennaHall$Net" "measured" "[I", .fieldLink RX2 27 "AntennaHall$Net" "limits" "[I", .constant RX2 45 (100000), .fieldLink RX2 30 "AntennaHall$Net" "lost" "[Z", .fieldLink RX2 34 "AntennaHall$Net" "isMeasured" "[Z"] ++ wsX20)
def wsX2_init : List Cond := .code yX2_init cX2_init 1 none :: ([.methodLink RX2 3 objectInit, .instanceMethod objectInit, .code objectInit ⟨#[0xb1]⟩ 1 none, .arrayClass .int, .fieldLink RX2 9 "AntennaHall$Net" "near" "[I", .fieldLink RX2 15 "AntennaHall$Net" "far" "[I", .fieldLink RX2 18 "AntennaHall$Net" "probes" "[I", .fieldLink RX2 21 "AntennaHall$Net" "row" "[I", .fieldLink RX2 24 "AntennaHall$Net" "measured" "[I", .fieldLink RX2 27 "AntennaHall$Net" "limits" "[I", .arrayClass .boolean, .fieldLink RX2 30 "AntennaHall$Net" "lost" "[Z", .fieldLink RX2 34 "AntennaHall$Net" "isMeasured" "[Z", .methodLink RX2 37 yX2_startAnew, .instanceMethod yX2_startAnew, .selects RX2 yX2_startAnew yX2_startAnew, .initialized RX2, .code yX2_startAnew cX2_startAnew 3 none, .fieldLink RX2 41 "AntennaHall$Net" "n" "I", .constant RX2 45 (100000)] ++ wsX20)
def wsX2_has : List Cond := .code yX2_has cX2_has 2 (some .boolean) :: ([.fieldLink RX2 41 "AntennaHall$Net" "n" "I"] ++ wsX20)
def wsX2_setNear : List Cond := .code yX2_setNear cX2_setNear 5 none :: ([.fieldLink RX2 9 "AntennaHall$Net" "near" "[I", .fieldLink RX2 41 "AntennaHall$Net" "n" "I", .fieldLink RX2 15 "AntennaHall$Net" "far" "[I", .static yX5_signOf, .initialized RX5, .code yX5_signOf cX5_signOf 2 (some .int), .methodLink RX5 230 yJ6_bitCount_0f7a4, .static yJ6_bitCount_0f7a4, .initialized RJ6, .code yJ6_bitCount_0f7a4 cJ6_bitCount_0f7a4 1 (some .int), .constant RJ6 265 (1431655765), .constant RJ6 266 (858993459), .constant RJ6 267 (252645135)] ++ wsX20)
def wsX2_rowThroughTo : List Cond := .code yX2_rowThroughTo cX2_rowThroughTo 4 (some .int) :: ([.fieldLink RX2 41 "AntennaHall$Net" "n" "I", .fieldLink RX2 21 "AntennaHall$Net" "row" "[I", .static yX5_signOf, .initialized RX5, .code yX5_signOf cX5_signOf 2 (some .int), .methodLink RX5 230 yJ6_bitCount_0f7a4, .static yJ6_bitCount_0f7a4, .initialized RJ6, .code yJ6_bitCount_0f7a4 cJ6_bitCount_0f7a4 1 (some .int), .constant RJ6 265 (1431655765), .constant RJ6 266 (858993459), .constant RJ6 267 (252645135)] ++ wsX20)
def wsX2_goesBack : List Cond := .code yX2_goesBack cX2_goesBack 3 (some .boolean) :: ([.fieldLink RX2 41 "AntennaHall$Net" "n" "I", .methodLink RX2 54 Lib.Math.abs.name, .static Lib.Math.abs.name, .initialized "java/lang/Math", .code Lib.Math.abs.name Lib.Math.abs.code 1 (some .int), .methodLink RX2 50 yX2_rowThroughTo, .instanceMethod yX2_rowThroughTo, .selects RX2 yX2_rowThroughTo yX2_rowThroughTo, .initialized RX2, .code yX2_rowThroughTo cX2_rowThroughTo 4 (some .int), .fieldLink RX2 21 "AntennaHall$Net" "row" "[I", .static yX5_signOf, .initialized RX5, .code yX5_signOf cX5_signOf 2 (some .int), .methodLink RX5 230 yJ6_bitCount_0f7a4, .static yJ6_bitCount_0f7a4, .initialized RJ6, .code yJ6_bitCount_0f7a4 cJ6_bitCount_0f7a4 1 (some .int), .constant RJ6 265 (1431655765), .constant RJ6 266 (858993459), .constant RJ6 267 (252645135)] ++ wsX20)
def wsX2_takeBack_r1 : List Cond := [Cond.fieldLink RX2 41 "AntennaHall$Net" "n" "I", Cond.methodLink RX2 59 yX2_goesBack, Cond.instanceMethod yX2_goesBack, Cond.selects RX2 yX2_goesBack yX2_goesBack, Cond.initialized RX2, Cond.code yX2_goesBack cX2_goesBack 3 (some .boolean), Cond.methodLink RX2 54 Lib.Math.abs.name, Cond.static Lib.Math.abs.name, Cond.initialized "java/lang/Math", Cond.code Lib.Math.abs.name Lib.Math.abs.code 1 (some .int), Cond.methodLink RX2 50 yX2_rowThroughTo, Cond.instanceMethod yX2_rowThroughTo, Cond.selects RX2 yX2_rowThroughTo yX2_rowThroughTo, Cond.code yX2_rowThroughTo cX2_rowThroughTo 4 (some .int), Cond.fieldLink RX2 21 "AntennaHall$Net" "row" "[I", Cond.static yX5_signOf, Cond.initialized RX5, Cond.code yX5_signOf cX5_signOf 2 (some .int), Cond.methodLink RX5 230 yJ6_bitCount_0f7a4, Cond.static yJ6_bitCount_0f7a4, Cond.initialized RJ6, Cond.code yJ6_bitCount_0f7a4 cJ6_bitCount_0f7a4 1 (some .int), Cond.constant RJ6 265 (1431655765), Cond.constant RJ6 266 (858993459)]
def wsX2_takeBack_r2 : List Cond := [Cond.constant RJ6 267 (252645135), Cond.methodLink RX2 63 yX2_setNear, Cond.instanceMethod yX2_setNear, Cond.selects RX2 yX2_setNear yX2_setNear, Cond.code yX2_setNear cX2_setNear 5 none, Cond.fieldLink RX2 9 "AntennaHall$Net" "near" "[I", Cond.fieldLink RX2 15 "AntennaHall$Net" "far" "[I"]
def wsX2_takeBack : List Cond := .code yX2_takeBack cX2_takeBack 2 (some .boolean) :: ((wsX2_takeBack_r1 ++ wsX2_takeBack_r2) ++ wsX20)
def wsX2_isWholeWithoutProbe : List Cond := .code yX2_isWholeWithoutProbe cX2_isWholeWithoutProbe 2 (some .boolean) :: ([.fieldLink RX2 41 "AntennaHall$Net" "n" "I", .fieldLink RX2 18 "AntennaHall$Net" "probes" "[I", .fieldLink RX2 21 "AntennaHall$Net" "row" "[I"] ++ wsX20)
def wsX2_takeProbeOff : List Cond := .code yX2_takeProbeOff cX2_takeProbeOff 2 (some .boolean) :: ([.fieldLink RX2 41 "AntennaHall$Net" "n" "I", .fieldLink RX2 18 "AntennaHall$Net" "probes" "[I", .fieldLink RX2 21 "AntennaHall$Net" "row" "[I", .methodLink RX2 67 yX2_isWholeWithoutProbe, .instanceMethod yX2_isWholeWithoutProbe, .selects RX2 yX2_isWholeWithoutProbe yX2_isWholeWithoutProbe, .initialized RX2, .code yX2_isWholeWithoutProbe cX2_isWholeWithoutProbe 2 (some .boolean)] ++ wsX20)
def wsX2_sumThrough : List Cond := .code yX2_sumThrough cX2_sumThrough 6 (some .int) :: ([.fieldLink RX2 41 "AntennaHall$Net" "n" "I", .fieldLink RX2 15 "AntennaHall$Net" "far" "[I", .static yX5_passes, .initialized RX5, .code yX5_passes cX5_passes 3 (some .boolean), .static yX5_signOf, .code yX5_signOf cX5_signOf 2 (some .int), .methodLink RX5 230 yJ6_bitCount_0f7a4, .static yJ6_bitCount_0f7a4, .initialized RJ6, .code yJ6_bitCount_0f7a4 cJ6_bitCount_0f7a4 1 (some .int), .constant RJ6 265 (1431655765), .constant RJ6 266 (858993459), .constant RJ6 267 (252645135)] ++ wsX20)
def wsX2_squaresThrough : List Cond := .code yX2_squaresThrough cX2_squaresThrough 6 (some .long) :: ([.fieldLink RX2 41 "AntennaHall$Net" "n" "I", .fieldLink RX2 15 "AntennaHall$Net" "far" "[I", .static yX5_passes, .initialized RX5, .code yX5_passes cX5_passes 3 (some .boolean)] ++ wsX20)
def wsX2_countTrue : List Cond := .code yX2_countTrue cX2_countTrue 6 (some .int) :: ([])
def wsX2_countLost : List Cond := .code yX2_countLost cX2_countLost 1 (some .int) :: ([.fieldLink RX2 30 "AntennaHall$Net" "lost" "[Z", .methodLink RX2 74 yX2_countTrue, .static yX2_countTrue, .initialized RX2, .code yX2_countTrue cX2_countTrue 6 (some .int)] ++ wsX20)
def wsX2_countMeasured : List Cond := .code yX2_countMeasured cX2_countMeasured 1 (some .int) :: ([.fieldLink RX2 34 "AntennaHall$Net" "isMeasured" "[Z", .methodLink RX2 74 yX2_countTrue, .static yX2_countTrue, .initialized RX2, .code yX2_countTrue cX2_countTrue 6 (some .int)] ++ wsX20)
def wsX2_offAt : List Cond := .code yX2_offAt cX2_offAt 2 (some .int) :: ([.fieldLink RX2 34 "AntennaHall$Net" "isMeasured" "[Z", .fieldLink RX2 24 "AntennaHall$Net" "measured" "[I", .fieldLink RX2 15 "AntennaHall$Net" "far" "[I"] ++ wsX20)
def wsX2_isAnythingOff : List Cond := .code yX2_isAnythingOff cX2_isAnythingOff 2 (some .boolean) :: ([.fieldLink RX2 41 "AntennaHall$Net" "n" "I", .methodLink RX2 78 yX2_offAt, .instanceMethod yX2_offAt, .selects RX2 yX2_offAt yX2_offAt, .initialized RX2, .code yX2_offAt cX2_offAt 2 (some .int), .fieldLink RX2 34 "AntennaHall$Net" "isMeasured" "[Z", .fieldLink RX2 24 "AntennaHall$Net" "measured" "[I", .fieldLink RX2 15 "AntennaHall$Net" "far" "[I"] ++ wsX20)
def wsX2_firstMeasured : List Cond := .code yX2_firstMeasured cX2_firstMeasured 2 (some .int) :: ([.fieldLink RX2 41 "AntennaHall$Net" "n" "I", .fieldLink RX2 34 "AntennaHall$Net" "isMeasured" "[Z"] ++ wsX20)
def wsX2_faultOf : List Cond := .code yX2_faultOf cX2_faultOf 5 (some .int) :: ([.fieldLink RX2 41 "AntennaHall$Net" "n" "I", .fieldLink RX2 34 "AntennaHall$Net" "isMeasured" "[Z", .methodLink RX2 81 yX2_firstMeasured, .instanceMethod yX2_firstMeasured, .selects RX2 yX2_firstMeasured yX2_firstMeasured, .initialized RX2, .code yX2_firstMeasured cX2_firstMeasured 2 (some .int), .methodLink RX2 78 yX2_offAt, .instanceMethod yX2_offAt, .selects RX2 yX2_offAt yX2_offAt, .code yX2_offAt cX2_offAt 2 (some .int), .fieldLink RX2 24 "AntennaHall$Net" "measured" "[I", .fieldLink RX2 15 "AntennaHall$Net" "far" "[I", .static yX5_signOf, .initialized RX5, .code yX5_signOf cX5_signOf 2 (some .int), .methodLink RX5 230 yJ6_bitCount_0f7a4, .static yJ6_bitCount_0f7a4, .initialized RJ6, .code yJ6_bitCount_0f7a4 cJ6_bitCount_0f7a4 1 (some .int), .constant RJ6 265 (1431655765), .constant RJ6 266 (858993459), .constant RJ6 267 (252645135)] ++ wsX20)
def wsX2_countFaults_r1 : List Cond := [Cond.fieldLink RX2 41 "AntennaHall$Net" "n" "I", Cond.methodLink RX2 85 yX2_faultOf, Cond.instanceMethod yX2_faultOf, Cond.selects RX2 yX2_faultOf yX2_faultOf, Cond.initialized RX2, Cond.code yX2_faultOf cX2_faultOf 5 (some .int), Cond.fieldLink RX2 34 "AntennaHall$Net" "isMeasured" "[Z", Cond.methodLink RX2 81 yX2_firstMeasured, Cond.instanceMethod yX2_firstMeasured, Cond.selects RX2 yX2_firstMeasured yX2_firstMeasured, Cond.code yX2_firstMeasured cX2_firstMeasured 2 (some .int), Cond.methodLink RX2 78 yX2_offAt, Cond.instanceMethod yX2_offAt, Cond.selects RX2 yX2_offAt yX2_offAt, Cond.code yX2_offAt cX2_offAt 2 (some .int), Cond.fieldLink RX2 24 "AntennaHall$Net" "measured" "[I", Cond.fieldLink RX2 15 "AntennaHall$Net" "far" "[I", Cond.static yX5_signOf, Cond.initialized RX5, Cond.code yX5_signOf cX5_signOf 2 (some .int), Cond.methodLink RX5 230 yJ6_bitCount_0f7a4, Cond.static yJ6_bitCount_0f7a4, Cond.initialized RJ6, Cond.code yJ6_bitCount_0f7a4 cJ6_bitCount_0f7a4 1 (some .int)]
def wsX2_countFaults_r2 : List Cond := [Cond.constant RJ6 265 (1431655765), Cond.constant RJ6 266 (858993459), Cond.constant RJ6 267 (252645135)]
def wsX2_countFaults : List Cond := .code yX2_countFaults cX2_countFaults 3 (some .int) :: ((wsX2_countFaults_r1 ++ wsX2_countFaults_r2) ++ wsX20)
def wsX2_elementOfFault_r1 : List Cond := [Cond.fieldLink RX2 41 "AntennaHall$Net" "n" "I", Cond.methodLink RX2 85 yX2_faultOf, Cond.instanceMethod yX2_faultOf, Cond.selects RX2 yX2_faultOf yX2_faultOf, Cond.initialized RX2, Cond.code yX2_faultOf cX2_faultOf 5 (some .int), Cond.fieldLink RX2 34 "AntennaHall$Net" "isMeasured" "[Z", Cond.methodLink RX2 81 yX2_firstMeasured, Cond.instanceMethod yX2_firstMeasured, Cond.selects RX2 yX2_firstMeasured yX2_firstMeasured, Cond.code yX2_firstMeasured cX2_firstMeasured 2 (some .int), Cond.methodLink RX2 78 yX2_offAt, Cond.instanceMethod yX2_offAt, Cond.selects RX2 yX2_offAt yX2_offAt, Cond.code yX2_offAt cX2_offAt 2 (some .int), Cond.fieldLink RX2 24 "AntennaHall$Net" "measured" "[I", Cond.fieldLink RX2 15 "AntennaHall$Net" "far" "[I", Cond.static yX5_signOf, Cond.initialized RX5, Cond.code yX5_signOf cX5_signOf 2 (some .int), Cond.methodLink RX5 230 yJ6_bitCount_0f7a4, Cond.static yJ6_bitCount_0f7a4, Cond.initialized RJ6, Cond.code yJ6_bitCount_0f7a4 cJ6_bitCount_0f7a4 1 (some .int)]
def wsX2_elementOfFault_r2 : List Cond := [Cond.constant RJ6 265 (1431655765), Cond.constant RJ6 266 (858993459), Cond.constant RJ6 267 (252645135)]
def wsX2_elementOfFault : List Cond := .code yX2_elementOfFault cX2_elementOfFault 4 (some .int) :: ((wsX2_elementOfFault_r1 ++ wsX2_elementOfFault_r2) ++ wsX20)
def wsX5_foldIfKnown : List Cond := .code yX5_foldIfKnown cX5_foldIfKnown 4 (some .long) :: ([.methodLink RX5 237 yX5_fold, .static yX5_fold, .initialized RX5, .code yX5_fold cX5_fold 4 (some .long), .constantLong RX5 235 (31)])
def wsX2_foldInto : List Cond := .code yX2_foldInto cX2_foldInto 6 (some .long) :: ([.fieldLink RX2 41 "AntennaHall$Net" "n" "I", .fieldLink RX2 9 "AntennaHall$Net" "near" "[I", .fieldLink RX2 18 "AntennaHall$Net" "probes" "[I", .fieldLink RX2 21 "AntennaHall$Net" "row" "[I", .fieldLink RX2 30 "AntennaHall$Net" "lost" "[Z", .fieldLink RX2 34 "AntennaHall$Net" "isMeasured" "[Z", .fieldLink RX2 24 "AntennaHall$Net" "measured" "[I", .fieldLink RX2 27 "AntennaHall$Net" "limits" "[I", .static yX5_fold, .initialized RX5, .code yX5_fold cX5_fold 4 (some .long), .constantLong RX5 235 (31), .static yX5_foldIfKnown, .code yX5_foldIfKnown cX5_foldIfKnown 4 (some .long), .methodLink RX5 237 yX5_fold] ++ wsX20)
def wsX3_startAnew : List Cond := .code yX3_startAnew cX3_startAnew 4 none :: ([.fieldLink RX3 23 "AntennaHall$Pairs" "m" "I", .fieldLink RX3 11 "AntennaHall$Pairs" "known" "[[I", .fieldLink RX3 16 "AntennaHall$Pairs" "values" "[[I"] ++ wsX30)
def wsX3_init : List Cond := .code yX3_init cX3_init 1 none :: ([.methodLink RX3 3 objectInit, .instanceMethod objectInit, .code objectInit ⟨#[0xb1]⟩ 1 none, .classLink RX3 9 "[[I", .arrayClass .int, .fieldLink RX3 11 "AntennaHall$Pairs" "known" "[[I", .fieldLink RX3 16 "AntennaHall$Pairs" "values" "[[I", .methodLink RX3 19 yX3_startAnew, .instanceMethod yX3_startAnew, .selects RX3 yX3_startAnew yX3_startAnew, .initialized RX3, .code yX3_startAnew cX3_startAnew 4 none, .fieldLink RX3 23 "AntennaHall$Pairs" "m" "I"] ++ wsX30)
def wsX3_has : List Cond := .code yX3_has cX3_has 2 (some .boolean) :: ([.fieldLink RX3 23 "AntennaHall$Pairs" "m" "I"] ++ wsX30)
def wsX3_put : List Cond := .code yX3_put cX3_put 7 none :: ([.fieldLink RX3 11 "AntennaHall$Pairs" "known" "[[I", .fieldLink RX3 16 "AntennaHall$Pairs" "values" "[[I"] ++ wsX30)
def wsX3_isWhole : List Cond := .code yX3_isWhole cX3_isWhole 4 (some .boolean) :: ([.fieldLink RX3 11 "AntennaHall$Pairs" "known" "[[I"] ++ wsX30)
def wsX3_gainBy : List Cond := .code yX3_gainBy cX3_gainBy 4 (some .int) :: ([.fieldLink RX3 16 "AntennaHall$Pairs" "values" "[[I"] ++ wsX30)
def wsX3_firstGain : List Cond := .code yX3_firstGain cX3_firstGain 4 (some .int) :: ([.fieldLink RX3 23 "AntennaHall$Pairs" "m" "I", .constant RX3 35 (-1000003), .methodLink RX3 27 yX3_isWhole, .instanceMethod yX3_isWhole, .selects RX3 yX3_isWhole yX3_isWhole, .initialized RX3, .code yX3_isWhole cX3_isWhole 4 (some .boolean), .fieldLink RX3 11 "AntennaHall$Pairs" "known" "[[I", .methodLink RX3 31 yX3_gainBy, .instanceMethod yX3_gainBy, .selects RX3 yX3_gainBy yX3_gainBy, .code yX3_gainBy cX3_gainBy 4 (some .int), .fieldLink RX3 16 "AntennaHall$Pairs" "values" "[[I"] ++ wsX30)
def wsX3_spread : List Cond := .code yX3_spread cX3_spread 8 (some .int) :: ([.fieldLink RX3 23 "AntennaHall$Pairs" "m" "I", .methodLink RX3 36 Lib.Math.min.name, .static Lib.Math.min.name, .initialized "java/lang/Math", .code Lib.Math.min.name Lib.Math.min.code 2 (some .int), .methodLink RX3 42 Lib.Math.max.name, .static Lib.Math.max.name, .code Lib.Math.max.name Lib.Math.max.code 2 (some .int), .methodLink RX3 27 yX3_isWhole, .instanceMethod yX3_isWhole, .selects RX3 yX3_isWhole yX3_isWhole, .initialized RX3, .code yX3_isWhole cX3_isWhole 4 (some .boolean), .fieldLink RX3 11 "AntennaHall$Pairs" "known" "[[I", .methodLink RX3 31 yX3_gainBy, .instanceMethod yX3_gainBy, .selects RX3 yX3_gainBy yX3_gainBy, .code yX3_gainBy cX3_gainBy 4 (some .int), .fieldLink RX3 16 "AntennaHall$Pairs" "values" "[[I"] ++ wsX30)
def wsX3_countKnown : List Cond := .code yX3_countKnown cX3_countKnown 4 (some .int) :: ([.fieldLink RX3 23 "AntennaHall$Pairs" "m" "I", .fieldLink RX3 11 "AntennaHall$Pairs" "known" "[[I"] ++ wsX30)
def wsX3_foldInto : List Cond := .code yX3_foldInto cX3_foldInto 7 (some .long) :: ([.fieldLink RX3 23 "AntennaHall$Pairs" "m" "I", .fieldLink RX3 11 "AntennaHall$Pairs" "known" "[[I", .fieldLink RX3 16 "AntennaHall$Pairs" "values" "[[I", .static yX5_fold, .initialized RX5, .code yX5_fold cX5_fold 4 (some .long), .constantLong RX5 235 (31), .static yX5_foldIfKnown, .code yX5_foldIfKnown cX5_foldIfKnown 4 (some .long), .methodLink RX5 237 yX5_fold] ++ wsX30)
def wsX4_startAnew : List Cond := .code yX4_startAnew cX4_startAnew 5 none :: ([.fieldLink RX4 20 "AntennaHall$Sheet" "rows" "I", .fieldLink RX4 24 "AntennaHall$Sheet" "columns" "I", .fieldLink RX4 11 "AntennaHall$Sheet" "cells" "[[I"] ++ wsX40)
def wsX4_init : List Cond := .code yX4_init cX4_init 1 none :: ([.methodLink RX4 3 objectInit, .instanceMethod objectInit, .code objectInit ⟨#[0xb1]⟩ 1 none, .classLink RX4 9 "[[I", .arrayClass .int, .fieldLink RX4 11 "AntennaHall$Sheet" "cells" "[[I", .methodLink RX4 16 yX4_startAnew, .instanceMethod yX4_startAnew, .selects RX4 yX4_startAnew yX4_startAnew, .initialized RX4, .code yX4_startAnew cX4_startAnew 5 none, .fieldLink RX4 20 "AntennaHall$Sheet" "rows" "I", .fieldLink RX4 24 "AntennaHall$Sheet" "columns" "I"] ++ wsX40)
def wsX4_holds : List Cond := .code yX4_holds cX4_holds 3 (some .boolean) :: ([.fieldLink RX4 20 "AntennaHall$Sheet" "rows" "I", .fieldLink RX4 24 "AntennaHall$Sheet" "columns" "I"] ++ wsX40)
def wsJ9_floorDiv_7cf53 : List Cond := .code yJ9_floorDiv_7cf53 cJ9_floorDiv_7cf53 3 (some .int) :: ([])
def wsX4_closedCell : List Cond := .code yX4_closedCell cX4_closedCell 4 (some .int) :: ([.fieldLink RX4 11 "AntennaHall$Sheet" "cells" "[[I", .fieldLink RX4 20 "AntennaHall$Sheet" "rows" "I", .methodLink RX4 27 yJ9_floorDiv_7cf53, .static yJ9_floorDiv_7cf53, .initialized RJ9, .code yJ9_floorDiv_7cf53 cJ9_floorDiv_7cf53 3 (some .int)] ++ wsX40)
def wsX4_tiedCell : List Cond := .code yX4_tiedCell cX4_tiedCell 3 (some .int) :: ([.fieldLink RX4 11 "AntennaHall$Sheet" "cells" "[[I", .fieldLink RX4 24 "AntennaHall$Sheet" "columns" "I"] ++ wsX40)
def wsX4_foldInto : List Cond := .code yX4_foldInto cX4_foldInto 7 (some .long) :: ([.fieldLink RX4 20 "AntennaHall$Sheet" "rows" "I", .fieldLink RX4 24 "AntennaHall$Sheet" "columns" "I", .fieldLink RX4 11 "AntennaHall$Sheet" "cells" "[[I", .static yX5_fold, .initialized RX5, .code yX5_fold cX5_fold 4 (some .long), .constantLong RX5 235 (31)] ++ wsX40)
def wsX5_init_r1 : List Cond := [Cond.methodLink RX5 1 objectInit, Cond.instanceMethod objectInit, Cond.code objectInit ⟨#[0xb1]⟩ 1 none, Cond.classLink RX5 7 RX2, Cond.instantiable RX2 9, Cond.initialized RX2, Cond.fieldLink RX5 10 "AntennaHall" "places" "LAntennaHall$Net;", Cond.classLink RX5 16 RX1, Cond.instantiable RX1 4, Cond.initialized RX1, Cond.fieldLink RX5 19 "AntennaHall" "mender" "LAntennaHall$Mender;", Cond.classLink RX5 23 RX4, Cond.instantiable RX4 3, Cond.initialized RX4, Cond.fieldLink RX5 26 "AntennaHall" "drift" "LAntennaHall$Sheet;", Cond.classLink RX5 30 RX3, Cond.instantiable RX3 3, Cond.initialized RX3, Cond.fieldLink RX5 33 "AntennaHall" "pairs" "LAntennaHall$Pairs;", Cond.classLink RX5 37 RX0, Cond.instantiable RX0 2, Cond.initialized RX0, Cond.fieldLink RX5 40 "AntennaHall" "doubts" "LAntennaHall$Doubts;", Cond.methodLink RX5 9 yX2_init]
def wsX5_init_r2 : List Cond := [Cond.instanceMethod yX2_init, Cond.code yX2_init cX2_init 1 none, Cond.methodLink RX2 3 objectInit, Cond.arrayClass .int, Cond.fieldLink RX2 9 "AntennaHall$Net" "near" "[I", Cond.fieldLink RX2 15 "AntennaHall$Net" "far" "[I", Cond.fieldLink RX2 18 "AntennaHall$Net" "probes" "[I", Cond.fieldLink RX2 21 "AntennaHall$Net" "row" "[I", Cond.fieldLink RX2 24 "AntennaHall$Net" "measured" "[I", Cond.fieldLink RX2 27 "AntennaHall$Net" "limits" "[I", Cond.arrayClass .boolean, Cond.fieldLink RX2 30 "AntennaHall$Net" "lost" "[Z", Cond.fieldLink RX2 34 "AntennaHall$Net" "isMeasured" "[Z", Cond.methodLink RX2 37 yX2_startAnew, Cond.instanceMethod yX2_startAnew, Cond.selects RX2 yX2_startAnew yX2_startAnew, Cond.code yX2_startAnew cX2_startAnew 3 none, Cond.fieldLink RX2 41 "AntennaHall$Net" "n" "I", Cond.constant RX2 45 (100000), Cond.instanceMethod yX1_init, Cond.code yX1_init cX1_init 1 none, Cond.methodLink RX1 3 objectInit, Cond.classLink RX1 9 "[[J", Cond.arrayClass .long]
def wsX5_init_r3 : List Cond := [Cond.fieldLink RX1 11 "AntennaHall$Mender" "cells" "[[J", Cond.fieldLink RX1 16 "AntennaHall$Mender" "unknowns" "[I", Cond.methodLink RX5 25 yX4_init, Cond.instanceMethod yX4_init, Cond.code yX4_init cX4_init 1 none, Cond.methodLink RX4 3 objectInit, Cond.classLink RX4 9 "[[I", Cond.fieldLink RX4 11 "AntennaHall$Sheet" "cells" "[[I", Cond.methodLink RX4 16 yX4_startAnew, Cond.instanceMethod yX4_startAnew, Cond.selects RX4 yX4_startAnew yX4_startAnew, Cond.code yX4_startAnew cX4_startAnew 5 none, Cond.fieldLink RX4 20 "AntennaHall$Sheet" "rows" "I", Cond.fieldLink RX4 24 "AntennaHall$Sheet" "columns" "I", Cond.methodLink RX5 32 yX3_init, Cond.instanceMethod yX3_init, Cond.code yX3_init cX3_init 1 none, Cond.methodLink RX3 3 objectInit, Cond.classLink RX3 9 "[[I", Cond.fieldLink RX3 11 "AntennaHall$Pairs" "known" "[[I", Cond.fieldLink RX3 16 "AntennaHall$Pairs" "values" "[[I", Cond.methodLink RX3 19 yX3_startAnew, Cond.instanceMethod yX3_startAnew, Cond.selects RX3 yX3_startAnew yX3_startAnew]
def wsX5_init_r4 : List Cond := [Cond.code yX3_startAnew cX3_startAnew 4 none, Cond.fieldLink RX3 23 "AntennaHall$Pairs" "m" "I", Cond.instanceMethod yX0_init, Cond.code yX0_init cX0_init 1 none, Cond.methodLink RX0 3 objectInit, Cond.fieldLink RX0 9 "AntennaHall$Doubts" "values" "[I"]
def wsX5_init : List Cond := .code yX5_init cX5_init 1 none :: ((wsX5_init_r1 ++ (wsX5_init_r2 ++ (wsX5_init_r3 ++ wsX5_init_r4))) ++ wsX20 ++ wsX50 ++ wsX10 ++ wsX40 ++ wsX30 ++ wsX00)
def wsX5_isOutside : List Cond := .code yX5_isOutside cX5_isOutside 3 (some .boolean) :: ([])
def wsX5_net : List Cond := .code yX5_net cX5_net 2 (some .int) :: ([.fieldLink RX5 10 "AntennaHall" "places" "LAntennaHall$Net;", .fieldLink RX5 52 "AntennaHall$Net" "n" "I", .methodLink RX5 44 yX5_isOutside, .static yX5_isOutside, .initialized RX5, .code yX5_isOutside cX5_isOutside 3 (some .boolean), .methodLink RX5 48 yX2_startAnew, .instanceMethod yX2_startAnew, .selects RX2 yX2_startAnew yX2_startAnew, .initialized RX2, .code yX2_startAnew cX2_startAnew 3 none, .fieldLink RX2 41 "AntennaHall$Net" "n" "I", .fieldLink RX2 9 "AntennaHall$Net" "near" "[I", .fieldLink RX2 15 "AntennaHall$Net" "far" "[I", .fieldLink RX2 18 "AntennaHall$Net" "probes" "[I", .fieldLink RX2 21 "AntennaHall$Net" "row" "[I", .fieldLink RX2 24 "AntennaHall$Net" "measured" "[I", .fieldLink RX2 27 "AntennaHall$Net" "limits" "[I", .constant RX2 45 (100000), .fieldLink RX2 30 "AntennaHall$Net" "lost" "[Z", .fieldLink RX2 34 "AntennaHall$Net" "isMeasured" "[Z"] ++ wsX50 ++ wsX20)
def wsX5_near_r1 : List Cond := [Cond.fieldLink RX5 10 "AntennaHall" "places" "LAntennaHall$Net;", Cond.fieldLink RX5 60 "AntennaHall$Net" "near" "[I", Cond.methodLink RX5 56 yX2_has, Cond.instanceMethod yX2_has, Cond.selects RX2 yX2_has yX2_has, Cond.initialized RX2, Cond.code yX2_has cX2_has 2 (some .boolean), Cond.fieldLink RX2 41 "AntennaHall$Net" "n" "I", Cond.methodLink RX5 44 yX5_isOutside, Cond.static yX5_isOutside, Cond.initialized RX5, Cond.code yX5_isOutside cX5_isOutside 3 (some .boolean), Cond.methodLink RX5 64 yX2_setNear, Cond.instanceMethod yX2_setNear, Cond.selects RX2 yX2_setNear yX2_setNear, Cond.code yX2_setNear cX2_setNear 5 none, Cond.fieldLink RX2 9 "AntennaHall$Net" "near" "[I", Cond.fieldLink RX2 15 "AntennaHall$Net" "far" "[I", Cond.static yX5_signOf, Cond.code yX5_signOf cX5_signOf 2 (some .int), Cond.methodLink RX5 230 yJ6_bitCount_0f7a4, Cond.static yJ6_bitCount_0f7a4, Cond.initialized RJ6, Cond.code yJ6_bitCount_0f7a4 cJ6_bitCount_0f7a4 1 (some .int)]
def wsX5_near_r2 : List Cond := [Cond.constant RJ6 265 (1431655765), Cond.constant RJ6 266 (858993459), Cond.constant RJ6 267 (252645135)]
def wsX5_near : List Cond := .code yX5_near cX5_near 4 (some .int) :: ((wsX5_near_r1 ++ wsX5_near_r2) ++ wsX50 ++ wsX20)
def wsX5_far : List Cond := .code yX5_far cX5_far 2 (some .int) :: ([.fieldLink RX5 10 "AntennaHall" "places" "LAntennaHall$Net;", .fieldLink RX5 68 "AntennaHall$Net" "far" "[I", .constant RX5 71 (-1000001), .methodLink RX5 56 yX2_has, .instanceMethod yX2_has, .selects RX2 yX2_has yX2_has, .initialized RX2, .code yX2_has cX2_has 2 (some .boolean), .fieldLink RX2 41 "AntennaHall$Net" "n" "I"] ++ wsX50 ++ wsX20)
def wsX5_back_r1 : List Cond := [Cond.fieldLink RX5 10 "AntennaHall" "places" "LAntennaHall$Net;", Cond.methodLink RX5 72 yX2_takeBack, Cond.instanceMethod yX2_takeBack, Cond.selects RX2 yX2_takeBack yX2_takeBack, Cond.initialized RX2, Cond.code yX2_takeBack cX2_takeBack 2 (some .boolean), Cond.fieldLink RX2 41 "AntennaHall$Net" "n" "I", Cond.methodLink RX2 59 yX2_goesBack, Cond.instanceMethod yX2_goesBack, Cond.selects RX2 yX2_goesBack yX2_goesBack, Cond.code yX2_goesBack cX2_goesBack 3 (some .boolean), Cond.methodLink RX2 54 Lib.Math.abs.name, Cond.static Lib.Math.abs.name, Cond.initialized "java/lang/Math", Cond.code Lib.Math.abs.name Lib.Math.abs.code 1 (some .int), Cond.methodLink RX2 50 yX2_rowThroughTo, Cond.instanceMethod yX2_rowThroughTo, Cond.selects RX2 yX2_rowThroughTo yX2_rowThroughTo, Cond.code yX2_rowThroughTo cX2_rowThroughTo 4 (some .int), Cond.fieldLink RX2 21 "AntennaHall$Net" "row" "[I", Cond.static yX5_signOf, Cond.initialized RX5, Cond.code yX5_signOf cX5_signOf 2 (some .int), Cond.methodLink RX5 230 yJ6_bitCount_0f7a4]
def wsX5_back_r2 : List Cond := [Cond.static yJ6_bitCount_0f7a4, Cond.initialized RJ6, Cond.code yJ6_bitCount_0f7a4 cJ6_bitCount_0f7a4 1 (some .int), Cond.constant RJ6 265 (1431655765), Cond.constant RJ6 266 (858993459), Cond.constant RJ6 267 (252645135), Cond.methodLink RX2 63 yX2_setNear, Cond.instanceMethod yX2_setNear, Cond.selects RX2 yX2_setNear yX2_setNear, Cond.code yX2_setNear cX2_setNear 5 none, Cond.fieldLink RX2 9 "AntennaHall$Net" "near" "[I", Cond.fieldLink RX2 15 "AntennaHall$Net" "far" "[I"]
def wsX5_back : List Cond := .code yX5_back cX5_back 1 (some .int) :: ((wsX5_back_r1 ++ wsX5_back_r2) ++ wsX50 ++ wsX20)
def wsX5_tell : List Cond := .code yX5_tell cX5_tell 4 (some .int) :: ([.fieldLink RX5 10 "AntennaHall" "places" "LAntennaHall$Net;", .constant RX5 76 (-10000001), .constant RX5 77 (-1000000), .constant RX5 78 (1000000), .constant RX5 79 (-10000002), .fieldLink RX5 80 "AntennaHall$Net" "row" "[I", .methodLink RX5 56 yX2_has, .instanceMethod yX2_has, .selects RX2 yX2_has yX2_has, .initialized RX2, .code yX2_has cX2_has 2 (some .boolean), .fieldLink RX2 41 "AntennaHall$Net" "n" "I", .methodLink RX5 44 yX5_isOutside, .static yX5_isOutside, .initialized RX5, .code yX5_isOutside cX5_isOutside 3 (some .boolean)] ++ wsX50 ++ wsX20)
def wsX5_probe : List Cond := .code yX5_probe cX5_probe 4 (some .int) :: ([.fieldLink RX5 10 "AntennaHall" "places" "LAntennaHall$Net;", .fieldLink RX5 83 "AntennaHall$Net" "probes" "[I", .methodLink RX5 56 yX2_has, .instanceMethod yX2_has, .selects RX2 yX2_has yX2_has, .initialized RX2, .code yX2_has cX2_has 2 (some .boolean), .fieldLink RX2 41 "AntennaHall$Net" "n" "I", .methodLink RX5 44 yX5_isOutside, .static yX5_isOutside, .initialized RX5, .code yX5_isOutside cX5_isOutside 3 (some .boolean)] ++ wsX50 ++ wsX20)
def wsX5_seen : List Cond := .code yX5_seen cX5_seen 2 (some .int) :: ([.fieldLink RX5 10 "AntennaHall" "places" "LAntennaHall$Net;", .fieldLink RX5 68 "AntennaHall$Net" "far" "[I", .fieldLink RX5 83 "AntennaHall$Net" "probes" "[I", .constant RX5 76 (-10000001), .methodLink RX5 56 yX2_has, .instanceMethod yX2_has, .selects RX2 yX2_has yX2_has, .initialized RX2, .code yX2_has cX2_has 2 (some .boolean), .fieldLink RX2 41 "AntennaHall$Net" "n" "I"] ++ wsX50 ++ wsX20)
def wsX5_unprobe : List Cond := .code yX5_unprobe cX5_unprobe 1 (some .int) :: ([.fieldLink RX5 10 "AntennaHall" "places" "LAntennaHall$Net;", .methodLink RX5 86 yX2_takeProbeOff, .instanceMethod yX2_takeProbeOff, .selects RX2 yX2_takeProbeOff yX2_takeProbeOff, .initialized RX2, .code yX2_takeProbeOff cX2_takeProbeOff 2 (some .boolean), .fieldLink RX2 41 "AntennaHall$Net" "n" "I", .fieldLink RX2 18 "AntennaHall$Net" "probes" "[I", .fieldLink RX2 21 "AntennaHall$Net" "row" "[I", .methodLink RX2 67 yX2_isWholeWithoutProbe, .instanceMethod yX2_isWholeWithoutProbe, .selects RX2 yX2_isWholeWithoutProbe yX2_isWholeWithoutProbe, .code yX2_isWholeWithoutProbe cX2_isWholeWithoutProbe 2 (some .boolean)] ++ wsX50 ++ wsX20)
def wsX5_isGate : List Cond := .code yX5_isGate cX5_isGate 2 (some .boolean) :: ([.methodLink RX5 44 yX5_isOutside, .static yX5_isOutside, .initialized RX5, .code yX5_isOutside cX5_isOutside 3 (some .boolean)])
def wsX5_gated_r1 : List Cond := [Cond.fieldLink RX5 10 "AntennaHall" "places" "LAntennaHall$Net;", Cond.constant RX5 76 (-10000001), Cond.constant RX5 79 (-10000002), Cond.methodLink RX5 56 yX2_has, Cond.instanceMethod yX2_has, Cond.selects RX2 yX2_has yX2_has, Cond.initialized RX2, Cond.code yX2_has cX2_has 2 (some .boolean), Cond.fieldLink RX2 41 "AntennaHall$Net" "n" "I", Cond.methodLink RX5 89 yX5_isGate, Cond.static yX5_isGate, Cond.initialized RX5, Cond.code yX5_isGate cX5_isGate 2 (some .boolean), Cond.methodLink RX5 44 yX5_isOutside, Cond.static yX5_isOutside, Cond.code yX5_isOutside cX5_isOutside 3 (some .boolean), Cond.methodLink RX5 93 yX2_sumThrough, Cond.instanceMethod yX2_sumThrough, Cond.selects RX2 yX2_sumThrough yX2_sumThrough, Cond.code yX2_sumThrough cX2_sumThrough 6 (some .int), Cond.fieldLink RX2 15 "AntennaHall$Net" "far" "[I", Cond.static yX5_passes, Cond.code yX5_passes cX5_passes 3 (some .boolean), Cond.static yX5_signOf]
def wsX5_gated_r2 : List Cond := [Cond.code yX5_signOf cX5_signOf 2 (some .int), Cond.methodLink RX5 230 yJ6_bitCount_0f7a4, Cond.static yJ6_bitCount_0f7a4, Cond.initialized RJ6, Cond.code yJ6_bitCount_0f7a4 cJ6_bitCount_0f7a4 1 (some .int), Cond.constant RJ6 265 (1431655765), Cond.constant RJ6 266 (858993459), Cond.constant RJ6 267 (252645135)]
def wsX5_gated : List Cond := .code yX5_gated cX5_gated 4 (some .int) :: ((wsX5_gated_r1 ++ wsX5_gated_r2) ++ wsX50 ++ wsX20)
def wsX5_power : List Cond := .code yX5_power cX5_power 3 (some .long) :: ([.fieldLink RX5 10 "AntennaHall" "places" "LAntennaHall$Net;", .constantLong RX5 101 (-102), .methodLink RX5 89 yX5_isGate, .static yX5_isGate, .initialized RX5, .code yX5_isGate cX5_isGate 2 (some .boolean), .methodLink RX5 44 yX5_isOutside, .static yX5_isOutside, .code yX5_isOutside cX5_isOutside 3 (some .boolean), .methodLink RX5 97 yX2_squaresThrough, .instanceMethod yX2_squaresThrough, .selects RX2 yX2_squaresThrough yX2_squaresThrough, .initialized RX2, .code yX2_squaresThrough cX2_squaresThrough 6 (some .long), .fieldLink RX2 41 "AntennaHall$Net" "n" "I", .fieldLink RX2 15 "AntennaHall$Net" "far" "[I", .static yX5_passes, .code yX5_passes cX5_passes 3 (some .boolean)] ++ wsX50 ++ wsX20)
def wsX5_lose : List Cond := .code yX5_lose cX5_lose 4 (some .int) :: ([.fieldLink RX5 10 "AntennaHall" "places" "LAntennaHall$Net;", .fieldLink RX5 103 "AntennaHall$Net" "lost" "[Z", .methodLink RX5 56 yX2_has, .instanceMethod yX2_has, .selects RX2 yX2_has yX2_has, .initialized RX2, .code yX2_has cX2_has 2 (some .boolean), .fieldLink RX2 41 "AntennaHall$Net" "n" "I", .methodLink RX5 107 yX2_countLost, .instanceMethod yX2_countLost, .selects RX2 yX2_countLost yX2_countLost, .code yX2_countLost cX2_countLost 1 (some .int), .fieldLink RX2 30 "AntennaHall$Net" "lost" "[Z", .methodLink RX2 74 yX2_countTrue, .static yX2_countTrue, .code yX2_countTrue cX2_countTrue 6 (some .int)] ++ wsX50 ++ wsX20)
def wsX5_mends_r1 : List Cond := [Cond.fieldLink RX5 19 "AntennaHall" "mender" "LAntennaHall$Mender;", Cond.fieldLink RX5 10 "AntennaHall" "places" "LAntennaHall$Net;", Cond.methodLink RX5 89 yX5_isGate, Cond.static yX5_isGate, Cond.initialized RX5, Cond.code yX5_isGate cX5_isGate 2 (some .boolean), Cond.methodLink RX5 44 yX5_isOutside, Cond.static yX5_isOutside, Cond.code yX5_isOutside cX5_isOutside 3 (some .boolean), Cond.methodLink RX5 111 yX1_solve, Cond.instanceMethod yX1_solve, Cond.selects RX1 yX1_solve yX1_solve, Cond.initialized RX1, Cond.code yX1_solve cX1_solve 6 (some .int), Cond.fieldLink RX1 32 "AntennaHall$Mender" "height" "I", Cond.fieldLink RX1 11 "AntennaHall$Mender" "cells" "[[J", Cond.fieldLink RX1 36 "AntennaHall$Mender" "width" "I", Cond.methodLink RX1 20 yX1_listLost, Cond.instanceMethod yX1_listLost, Cond.selects RX1 yX1_listLost yX1_listLost, Cond.code yX1_listLost cX1_listLost 3 none, Cond.fieldLink RX1 48 "AntennaHall$Net" "n" "I", Cond.fieldLink RX1 53 "AntennaHall$Net" "lost" "[Z", Cond.fieldLink RX1 16 "AntennaHall$Mender" "unknowns" "[I"]
def wsX5_mends_r2 : List Cond := [Cond.methodLink RX1 24 yX1_writeEquations, Cond.instanceMethod yX1_writeEquations, Cond.selects RX1 yX1_writeEquations yX1_writeEquations, Cond.code yX1_writeEquations cX1_writeEquations 5 none, Cond.static yX5_passes, Cond.code yX5_passes cX5_passes 3 (some .boolean), Cond.methodLink RX1 61 yX1_writeEquation, Cond.instanceMethod yX1_writeEquation, Cond.selects RX1 yX1_writeEquation yX1_writeEquation, Cond.code yX1_writeEquation cX1_writeEquation 8 none, Cond.fieldLink RX1 65 "AntennaHall$Net" "far" "[I", Cond.fieldLink RX1 72 "AntennaHall$Net" "near" "[I", Cond.static yX5_signOf, Cond.code yX5_signOf cX5_signOf 2 (some .int), Cond.methodLink RX5 230 yJ6_bitCount_0f7a4, Cond.static yJ6_bitCount_0f7a4, Cond.initialized RJ6, Cond.code yJ6_bitCount_0f7a4 cJ6_bitCount_0f7a4 1 (some .int), Cond.constant RJ6 265 (1431655765), Cond.constant RJ6 266 (858993459), Cond.constant RJ6 267 (252645135), Cond.methodLink RX1 28 yX1_reduce, Cond.instanceMethod yX1_reduce, Cond.selects RX1 yX1_reduce yX1_reduce]
def wsX5_mends_r3 : List Cond := [Cond.code yX1_reduce cX1_reduce 6 (some .int), Cond.methodLink RX1 75 yX1_findPivot, Cond.instanceMethod yX1_findPivot, Cond.selects RX1 yX1_findPivot yX1_findPivot, Cond.code yX1_findPivot cX1_findPivot 4 (some .int), Cond.methodLink RX1 78 yX1_swapRows, Cond.instanceMethod yX1_swapRows, Cond.selects RX1 yX1_swapRows yX1_swapRows, Cond.code yX1_swapRows cX1_swapRows 6 none, Cond.methodLink RX1 82 yX1_clearColumn, Cond.instanceMethod yX1_clearColumn, Cond.selects RX1 yX1_clearColumn yX1_clearColumn, Cond.code yX1_clearColumn cX1_clearColumn 13 none]
def wsX5_mends : List Cond := .code yX5_mends cX5_mends 3 (some .int) :: ((wsX5_mends_r1 ++ (wsX5_mends_r2 ++ wsX5_mends_r3)) ++ wsX50 ++ wsX10 ++ wsX20)
def wsX5_mend_r1 : List Cond := [Cond.fieldLink RX5 10 "AntennaHall" "places" "LAntennaHall$Net;", Cond.fieldLink RX5 103 "AntennaHall$Net" "lost" "[Z", Cond.constantLong RX5 115 (-9000000000000000001), Cond.constantLong RX5 117 (-9000000000000000002), Cond.fieldLink RX5 19 "AntennaHall" "mender" "LAntennaHall$Mender;", Cond.constantLong RX5 119 (-9000000000000000003), Cond.methodLink RX5 56 yX2_has, Cond.instanceMethod yX2_has, Cond.selects RX2 yX2_has yX2_has, Cond.initialized RX2, Cond.code yX2_has cX2_has 2 (some .boolean), Cond.fieldLink RX2 41 "AntennaHall$Net" "n" "I", Cond.methodLink RX5 89 yX5_isGate, Cond.static yX5_isGate, Cond.initialized RX5, Cond.code yX5_isGate cX5_isGate 2 (some .boolean), Cond.methodLink RX5 44 yX5_isOutside, Cond.static yX5_isOutside, Cond.code yX5_isOutside cX5_isOutside 3 (some .boolean), Cond.methodLink RX5 111 yX1_solve, Cond.instanceMethod yX1_solve, Cond.selects RX1 yX1_solve yX1_solve, Cond.initialized RX1, Cond.code yX1_solve cX1_solve 6 (some .int)]
def wsX5_mend_r2 : List Cond := [Cond.fieldLink RX1 32 "AntennaHall$Mender" "height" "I", Cond.fieldLink RX1 11 "AntennaHall$Mender" "cells" "[[J", Cond.fieldLink RX1 36 "AntennaHall$Mender" "width" "I", Cond.methodLink RX1 20 yX1_listLost, Cond.instanceMethod yX1_listLost, Cond.selects RX1 yX1_listLost yX1_listLost, Cond.code yX1_listLost cX1_listLost 3 none, Cond.fieldLink RX1 48 "AntennaHall$Net" "n" "I", Cond.fieldLink RX1 53 "AntennaHall$Net" "lost" "[Z", Cond.fieldLink RX1 16 "AntennaHall$Mender" "unknowns" "[I", Cond.methodLink RX1 24 yX1_writeEquations, Cond.instanceMethod yX1_writeEquations, Cond.selects RX1 yX1_writeEquations yX1_writeEquations, Cond.code yX1_writeEquations cX1_writeEquations 5 none, Cond.static yX5_passes, Cond.code yX5_passes cX5_passes 3 (some .boolean), Cond.methodLink RX1 61 yX1_writeEquation, Cond.instanceMethod yX1_writeEquation, Cond.selects RX1 yX1_writeEquation yX1_writeEquation, Cond.code yX1_writeEquation cX1_writeEquation 8 none, Cond.fieldLink RX1 65 "AntennaHall$Net" "far" "[I", Cond.fieldLink RX1 72 "AntennaHall$Net" "near" "[I", Cond.static yX5_signOf, Cond.code yX5_signOf cX5_signOf 2 (some .int)]
def wsX5_mend_r3 : List Cond := [Cond.methodLink RX5 230 yJ6_bitCount_0f7a4, Cond.static yJ6_bitCount_0f7a4, Cond.initialized RJ6, Cond.code yJ6_bitCount_0f7a4 cJ6_bitCount_0f7a4 1 (some .int), Cond.constant RJ6 265 (1431655765), Cond.constant RJ6 266 (858993459), Cond.constant RJ6 267 (252645135), Cond.methodLink RX1 28 yX1_reduce, Cond.instanceMethod yX1_reduce, Cond.selects RX1 yX1_reduce yX1_reduce, Cond.code yX1_reduce cX1_reduce 6 (some .int), Cond.methodLink RX1 75 yX1_findPivot, Cond.instanceMethod yX1_findPivot, Cond.selects RX1 yX1_findPivot yX1_findPivot, Cond.code yX1_findPivot cX1_findPivot 4 (some .int), Cond.methodLink RX1 78 yX1_swapRows, Cond.instanceMethod yX1_swapRows, Cond.selects RX1 yX1_swapRows yX1_swapRows, Cond.code yX1_swapRows cX1_swapRows 6 none, Cond.methodLink RX1 82 yX1_clearColumn, Cond.instanceMethod yX1_clearColumn, Cond.selects RX1 yX1_clearColumn yX1_clearColumn, Cond.code yX1_clearColumn cX1_clearColumn 13 none, Cond.methodLink RX5 121 yX1_partOf]
def wsX5_mend_r4 : List Cond := [Cond.instanceMethod yX1_partOf, Cond.selects RX1 yX1_partOf yX1_partOf, Cond.code yX1_partOf cX1_partOf 4 (some .long), Cond.constantLong RX1 46 (-9000000000000000001), Cond.methodLink RX1 39 yX1_above, Cond.instanceMethod yX1_above, Cond.selects RX1 yX1_above yX1_above, Cond.code yX1_above cX1_above 8 (some .long), Cond.methodLink RX1 86 yX1_commonDivisor, Cond.static yX1_commonDivisor, Cond.code yX1_commonDivisor cX1_commonDivisor 11 (some .long), Cond.methodLink RX1 90 Lib.MathLoose.abs_long.x, Cond.static Lib.MathLoose.abs_long.x, Cond.initialized "java/lang/Math", Cond.code Lib.MathLoose.abs_long.x Lib.MathLoose.abs_long.code 2 (some .long), Cond.methodLink RX1 43 yX1_below, Cond.instanceMethod yX1_below, Cond.selects RX1 yX1_below yX1_below, Cond.code yX1_below cX1_below 6 (some .long)]
def wsX5_mend : List Cond := .code yX5_mend cX5_mend 5 (some .long) :: ((wsX5_mend_r1 ++ (wsX5_mend_r2 ++ (wsX5_mend_r3 ++ wsX5_mend_r4))) ++ wsX50 ++ wsX20 ++ wsX10)
def wsX5_sheet : List Cond := .code yX5_sheet cX5_sheet 3 (some .int) :: ([.fieldLink RX5 26 "AntennaHall" "drift" "LAntennaHall$Sheet;", .methodLink RX5 44 yX5_isOutside, .static yX5_isOutside, .initialized RX5, .code yX5_isOutside cX5_isOutside 3 (some .boolean), .methodLink RX5 124 yX4_startAnew, .instanceMethod yX4_startAnew, .selects RX4 yX4_startAnew yX4_startAnew, .initialized RX4, .code yX4_startAnew cX4_startAnew 5 none, .fieldLink RX4 20 "AntennaHall$Sheet" "rows" "I", .fieldLink RX4 24 "AntennaHall$Sheet" "columns" "I", .fieldLink RX4 11 "AntennaHall$Sheet" "cells" "[[I"] ++ wsX50 ++ wsX40)
def wsX5_cell : List Cond := .code yX5_cell cX5_cell 5 (some .int) :: ([.fieldLink RX5 26 "AntennaHall" "drift" "LAntennaHall$Sheet;", .fieldLink RX5 129 "AntennaHall$Sheet" "cells" "[[I", .methodLink RX5 126 yX4_holds, .instanceMethod yX4_holds, .selects RX4 yX4_holds yX4_holds, .initialized RX4, .code yX4_holds cX4_holds 3 (some .boolean), .fieldLink RX4 20 "AntennaHall$Sheet" "rows" "I", .fieldLink RX4 24 "AntennaHall$Sheet" "columns" "I", .methodLink RX5 44 yX5_isOutside, .static yX5_isOutside, .initialized RX5, .code yX5_isOutside cX5_isOutside 3 (some .boolean)] ++ wsX50 ++ wsX40)
def wsX5_closed : List Cond := .code yX5_closed cX5_closed 3 (some .int) :: ([.fieldLink RX5 26 "AntennaHall" "drift" "LAntennaHall$Sheet;", .fieldLink RX5 133 "AntennaHall$Sheet" "rows" "I", .fieldLink RX5 136 "AntennaHall$Sheet" "columns" "I", .methodLink RX5 44 yX5_isOutside, .static yX5_isOutside, .initialized RX5, .code yX5_isOutside cX5_isOutside 3 (some .boolean), .methodLink RX5 139 yX4_closedCell, .instanceMethod yX4_closedCell, .selects RX4 yX4_closedCell yX4_closedCell, .initialized RX4, .code yX4_closedCell cX4_closedCell 4 (some .int), .fieldLink RX4 11 "AntennaHall$Sheet" "cells" "[[I", .fieldLink RX4 20 "AntennaHall$Sheet" "rows" "I", .methodLink RX4 27 yJ9_floorDiv_7cf53, .static yJ9_floorDiv_7cf53, .initialized RJ9, .code yJ9_floorDiv_7cf53 cJ9_floorDiv_7cf53 3 (some .int)] ++ wsX50 ++ wsX40)
def wsX5_tied : List Cond := .code yX5_tied cX5_tied 3 (some .int) :: ([.fieldLink RX5 26 "AntennaHall" "drift" "LAntennaHall$Sheet;", .fieldLink RX5 133 "AntennaHall$Sheet" "rows" "I", .fieldLink RX5 136 "AntennaHall$Sheet" "columns" "I", .methodLink RX5 44 yX5_isOutside, .static yX5_isOutside, .initialized RX5, .code yX5_isOutside cX5_isOutside 3 (some .boolean), .methodLink RX5 143 yX4_tiedCell, .instanceMethod yX4_tiedCell, .selects RX4 yX4_tiedCell yX4_tiedCell, .initialized RX4, .code yX4_tiedCell cX4_tiedCell 3 (some .int), .fieldLink RX4 11 "AntennaHall$Sheet" "cells" "[[I", .fieldLink RX4 24 "AntennaHall$Sheet" "columns" "I"] ++ wsX50 ++ wsX40)
def wsX5_antennas : List Cond := .code yX5_antennas cX5_antennas 2 (some .int) :: ([.fieldLink RX5 33 "AntennaHall" "pairs" "LAntennaHall$Pairs;", .methodLink RX5 44 yX5_isOutside, .static yX5_isOutside, .initialized RX5, .code yX5_isOutside cX5_isOutside 3 (some .boolean), .methodLink RX5 146 yX3_startAnew, .instanceMethod yX3_startAnew, .selects RX3 yX3_startAnew yX3_startAnew, .initialized RX3, .code yX3_startAnew cX3_startAnew 4 none, .fieldLink RX3 23 "AntennaHall$Pairs" "m" "I", .fieldLink RX3 11 "AntennaHall$Pairs" "known" "[[I", .fieldLink RX3 16 "AntennaHall$Pairs" "values" "[[I"] ++ wsX50 ++ wsX30)
def wsX5_together : List Cond := .code yX5_together cX5_together 6 (some .int) :: ([.fieldLink RX5 33 "AntennaHall" "pairs" "LAntennaHall$Pairs;", .fieldLink RX5 148 "AntennaHall$Pairs" "known" "[[I", .methodLink RX5 147 yX3_has, .instanceMethod yX3_has, .selects RX3 yX3_has yX3_has, .initialized RX3, .code yX3_has cX3_has 2 (some .boolean), .fieldLink RX3 23 "AntennaHall$Pairs" "m" "I", .methodLink RX5 44 yX5_isOutside, .static yX5_isOutside, .initialized RX5, .code yX5_isOutside cX5_isOutside 3 (some .boolean), .methodLink RX5 151 yX3_put, .instanceMethod yX3_put, .selects RX3 yX3_put yX3_put, .code yX3_put cX3_put 7 none, .fieldLink RX3 11 "AntennaHall$Pairs" "known" "[[I", .fieldLink RX3 16 "AntennaHall$Pairs" "values" "[[I"] ++ wsX50 ++ wsX30)
def wsX5_gain : List Cond := .code yX5_gain cX5_gain 2 (some .int) :: ([.fieldLink RX5 33 "AntennaHall" "pairs" "LAntennaHall$Pairs;", .constant RX5 71 (-1000001), .methodLink RX5 147 yX3_has, .instanceMethod yX3_has, .selects RX3 yX3_has yX3_has, .initialized RX3, .code yX3_has cX3_has 2 (some .boolean), .fieldLink RX3 23 "AntennaHall$Pairs" "m" "I", .methodLink RX5 155 yX3_firstGain, .instanceMethod yX3_firstGain, .selects RX3 yX3_firstGain yX3_firstGain, .code yX3_firstGain cX3_firstGain 4 (some .int), .constant RX3 35 (-1000003), .methodLink RX3 27 yX3_isWhole, .instanceMethod yX3_isWhole, .selects RX3 yX3_isWhole yX3_isWhole, .code yX3_isWhole cX3_isWhole 4 (some .boolean), .fieldLink RX3 11 "AntennaHall$Pairs" "known" "[[I", .methodLink RX3 31 yX3_gainBy, .instanceMethod yX3_gainBy, .selects RX3 yX3_gainBy yX3_gainBy, .code yX3_gainBy cX3_gainBy 4 (some .int), .fieldLink RX3 16 "AntennaHall$Pairs" "values" "[[I"] ++ wsX50 ++ wsX30)
def wsX5_loose_r1 : List Cond := [Cond.fieldLink RX5 33 "AntennaHall" "pairs" "LAntennaHall$Pairs;", Cond.fieldLink RX5 159 "AntennaHall$Pairs" "m" "I", Cond.methodLink RX5 165 Lib.Math.max.name, Cond.static Lib.Math.max.name, Cond.initialized "java/lang/Math", Cond.code Lib.Math.max.name Lib.Math.max.code 2 (some .int), Cond.methodLink RX5 162 yX3_spread, Cond.instanceMethod yX3_spread, Cond.selects RX3 yX3_spread yX3_spread, Cond.initialized RX3, Cond.code yX3_spread cX3_spread 8 (some .int), Cond.fieldLink RX3 23 "AntennaHall$Pairs" "m" "I", Cond.methodLink RX3 36 Lib.Math.min.name, Cond.static Lib.Math.min.name, Cond.code Lib.Math.min.name Lib.Math.min.code 2 (some .int), Cond.methodLink RX3 42 Lib.Math.max.name, Cond.methodLink RX3 27 yX3_isWhole, Cond.instanceMethod yX3_isWhole, Cond.selects RX3 yX3_isWhole yX3_isWhole, Cond.code yX3_isWhole cX3_isWhole 4 (some .boolean), Cond.fieldLink RX3 11 "AntennaHall$Pairs" "known" "[[I", Cond.methodLink RX3 31 yX3_gainBy, Cond.instanceMethod yX3_gainBy, Cond.selects RX3 yX3_gainBy yX3_gainBy]
def wsX5_loose_r2 : List Cond := [Cond.code yX3_gainBy cX3_gainBy 4 (some .int), Cond.fieldLink RX3 16 "AntennaHall$Pairs" "values" "[[I"]
def wsX5_loose : List Cond := .code yX5_loose cX5_loose 3 (some .int) :: ((wsX5_loose_r1 ++ wsX5_loose_r2) ++ wsX50 ++ wsX30)
def wsX5_measure : List Cond := .code yX5_measure cX5_measure 5 (some .int) :: ([.fieldLink RX5 10 "AntennaHall" "places" "LAntennaHall$Net;", .constant RX5 77 (-1000000), .constant RX5 78 (1000000), .fieldLink RX5 170 "AntennaHall$Net" "isMeasured" "[Z", .fieldLink RX5 173 "AntennaHall$Net" "measured" "[I", .methodLink RX5 56 yX2_has, .instanceMethod yX2_has, .selects RX2 yX2_has yX2_has, .initialized RX2, .code yX2_has cX2_has 2 (some .boolean), .fieldLink RX2 41 "AntennaHall$Net" "n" "I", .methodLink RX5 44 yX5_isOutside, .static yX5_isOutside, .initialized RX5, .code yX5_isOutside cX5_isOutside 3 (some .boolean)] ++ wsX50 ++ wsX20)
def wsX5_faults_r1 : List Cond := [Cond.fieldLink RX5 10 "AntennaHall" "places" "LAntennaHall$Net;", Cond.methodLink RX5 176 yX2_isAnythingOff, Cond.instanceMethod yX2_isAnythingOff, Cond.selects RX2 yX2_isAnythingOff yX2_isAnythingOff, Cond.initialized RX2, Cond.code yX2_isAnythingOff cX2_isAnythingOff 2 (some .boolean), Cond.fieldLink RX2 41 "AntennaHall$Net" "n" "I", Cond.methodLink RX2 78 yX2_offAt, Cond.instanceMethod yX2_offAt, Cond.selects RX2 yX2_offAt yX2_offAt, Cond.code yX2_offAt cX2_offAt 2 (some .int), Cond.fieldLink RX2 34 "AntennaHall$Net" "isMeasured" "[Z", Cond.fieldLink RX2 24 "AntennaHall$Net" "measured" "[I", Cond.fieldLink RX2 15 "AntennaHall$Net" "far" "[I", Cond.methodLink RX5 179 yX2_countFaults, Cond.instanceMethod yX2_countFaults, Cond.selects RX2 yX2_countFaults yX2_countFaults, Cond.code yX2_countFaults cX2_countFaults 3 (some .int), Cond.methodLink RX2 85 yX2_faultOf, Cond.instanceMethod yX2_faultOf, Cond.selects RX2 yX2_faultOf yX2_faultOf, Cond.code yX2_faultOf cX2_faultOf 5 (some .int), Cond.methodLink RX2 81 yX2_firstMeasured, Cond.instanceMethod yX2_firstMeasured]
def wsX5_faults_r2 : List Cond := [Cond.selects RX2 yX2_firstMeasured yX2_firstMeasured, Cond.code yX2_firstMeasured cX2_firstMeasured 2 (some .int), Cond.static yX5_signOf, Cond.initialized RX5, Cond.code yX5_signOf cX5_signOf 2 (some .int), Cond.methodLink RX5 230 yJ6_bitCount_0f7a4, Cond.static yJ6_bitCount_0f7a4, Cond.initialized RJ6, Cond.code yJ6_bitCount_0f7a4 cJ6_bitCount_0f7a4 1 (some .int), Cond.constant RJ6 265 (1431655765), Cond.constant RJ6 266 (858993459), Cond.constant RJ6 267 (252645135)]
def wsX5_faults : List Cond := .code yX5_faults cX5_faults 1 (some .int) :: ((wsX5_faults_r1 ++ wsX5_faults_r2) ++ wsX50 ++ wsX20)
def wsX5_fault_r1 : List Cond := [Cond.fieldLink RX5 10 "AntennaHall" "places" "LAntennaHall$Net;", Cond.methodLink RX5 182 yX2_elementOfFault, Cond.instanceMethod yX2_elementOfFault, Cond.selects RX2 yX2_elementOfFault yX2_elementOfFault, Cond.initialized RX2, Cond.code yX2_elementOfFault cX2_elementOfFault 4 (some .int), Cond.fieldLink RX2 41 "AntennaHall$Net" "n" "I", Cond.methodLink RX2 85 yX2_faultOf, Cond.instanceMethod yX2_faultOf, Cond.selects RX2 yX2_faultOf yX2_faultOf, Cond.code yX2_faultOf cX2_faultOf 5 (some .int), Cond.fieldLink RX2 34 "AntennaHall$Net" "isMeasured" "[Z", Cond.methodLink RX2 81 yX2_firstMeasured, Cond.instanceMethod yX2_firstMeasured, Cond.selects RX2 yX2_firstMeasured yX2_firstMeasured, Cond.code yX2_firstMeasured cX2_firstMeasured 2 (some .int), Cond.methodLink RX2 78 yX2_offAt, Cond.instanceMethod yX2_offAt, Cond.selects RX2 yX2_offAt yX2_offAt, Cond.code yX2_offAt cX2_offAt 2 (some .int), Cond.fieldLink RX2 24 "AntennaHall$Net" "measured" "[I", Cond.fieldLink RX2 15 "AntennaHall$Net" "far" "[I", Cond.static yX5_signOf, Cond.initialized RX5]
def wsX5_fault_r2 : List Cond := [Cond.code yX5_signOf cX5_signOf 2 (some .int), Cond.methodLink RX5 230 yJ6_bitCount_0f7a4, Cond.static yJ6_bitCount_0f7a4, Cond.initialized RJ6, Cond.code yJ6_bitCount_0f7a4 cJ6_bitCount_0f7a4 1 (some .int), Cond.constant RJ6 265 (1431655765), Cond.constant RJ6 266 (858993459), Cond.constant RJ6 267 (252645135)]
def wsX5_fault : List Cond := .code yX5_fault cX5_fault 2 (some .int) :: ((wsX5_fault_r1 ++ wsX5_fault_r2) ++ wsX50 ++ wsX20)
def wsX5_by_r1 : List Cond := [Cond.fieldLink RX5 10 "AntennaHall" "places" "LAntennaHall$Net;", Cond.methodLink RX5 182 yX2_elementOfFault, Cond.instanceMethod yX2_elementOfFault, Cond.selects RX2 yX2_elementOfFault yX2_elementOfFault, Cond.initialized RX2, Cond.code yX2_elementOfFault cX2_elementOfFault 4 (some .int), Cond.fieldLink RX2 41 "AntennaHall$Net" "n" "I", Cond.methodLink RX2 85 yX2_faultOf, Cond.instanceMethod yX2_faultOf, Cond.selects RX2 yX2_faultOf yX2_faultOf, Cond.code yX2_faultOf cX2_faultOf 5 (some .int), Cond.fieldLink RX2 34 "AntennaHall$Net" "isMeasured" "[Z", Cond.methodLink RX2 81 yX2_firstMeasured, Cond.instanceMethod yX2_firstMeasured, Cond.selects RX2 yX2_firstMeasured yX2_firstMeasured, Cond.code yX2_firstMeasured cX2_firstMeasured 2 (some .int), Cond.methodLink RX2 78 yX2_offAt, Cond.instanceMethod yX2_offAt, Cond.selects RX2 yX2_offAt yX2_offAt, Cond.code yX2_offAt cX2_offAt 2 (some .int), Cond.fieldLink RX2 24 "AntennaHall$Net" "measured" "[I", Cond.fieldLink RX2 15 "AntennaHall$Net" "far" "[I", Cond.static yX5_signOf, Cond.initialized RX5]
def wsX5_by_r2 : List Cond := [Cond.code yX5_signOf cX5_signOf 2 (some .int), Cond.methodLink RX5 230 yJ6_bitCount_0f7a4, Cond.static yJ6_bitCount_0f7a4, Cond.initialized RJ6, Cond.code yJ6_bitCount_0f7a4 cJ6_bitCount_0f7a4 1 (some .int), Cond.constant RJ6 265 (1431655765), Cond.constant RJ6 266 (858993459), Cond.constant RJ6 267 (252645135), Cond.methodLink RX5 185 yX2_faultOf]
def wsX5_by : List Cond := .code yX5_by cX5_by 3 (some .int) :: ((wsX5_by_r1 ++ wsX5_by_r2) ++ wsX50 ++ wsX20)
def wsX5_limit : List Cond := .code yX5_limit cX5_limit 4 (some .int) :: ([.fieldLink RX5 10 "AntennaHall" "places" "LAntennaHall$Net;", .constant RX5 188 (100000), .fieldLink RX5 189 "AntennaHall$Net" "limits" "[I", .methodLink RX5 56 yX2_has, .instanceMethod yX2_has, .selects RX2 yX2_has yX2_has, .initialized RX2, .code yX2_has cX2_has 2 (some .boolean), .fieldLink RX2 41 "AntennaHall$Net" "n" "I", .methodLink RX5 44 yX5_isOutside, .static yX5_isOutside, .initialized RX5, .code yX5_isOutside cX5_isOutside 3 (some .boolean)] ++ wsX50 ++ wsX20)
def wsX5_broken : List Cond := .code yX5_broken cX5_broken 2 (some .int) :: ([.fieldLink RX5 10 "AntennaHall" "places" "LAntennaHall$Net;", .fieldLink RX5 52 "AntennaHall$Net" "n" "I", .fieldLink RX5 68 "AntennaHall$Net" "far" "[I", .methodLink RX5 192 Lib.Math.abs.name, .static Lib.Math.abs.name, .initialized "java/lang/Math", .code Lib.Math.abs.name Lib.Math.abs.code 1 (some .int), .fieldLink RX5 189 "AntennaHall$Net" "limits" "[I"] ++ wsX50 ++ wsX20)
def wsX5_doubt : List Cond := .code yX5_doubt cX5_doubt 2 (some .int) :: ([.fieldLink RX5 40 "AntennaHall" "doubts" "LAntennaHall$Doubts;", .fieldLink RX5 195 "AntennaHall$Doubts" "count" "I", .methodLink RX5 44 yX5_isOutside, .static yX5_isOutside, .initialized RX5, .code yX5_isOutside cX5_isOutside 3 (some .boolean), .methodLink RX5 198 yX0_add, .instanceMethod yX0_add, .selects RX0 yX0_add yX0_add, .initialized RX0, .code yX0_add cX0_add 2 none, .fieldLink RX0 15 "AntennaHall$Doubts" "count" "I", .fieldLink RX0 9 "AntennaHall$Doubts" "values" "[I"] ++ wsX50 ++ wsX00)
def wsX5_rootUp : List Cond := .code yX5_rootUp cX5_rootUp 7 (some .int) :: ([])
def wsX5_budget : List Cond := .code yX5_budget cX5_budget 2 (some .int) :: ([.fieldLink RX5 40 "AntennaHall" "doubts" "LAntennaHall$Doubts;", .methodLink RX5 201 yX0_sum, .instanceMethod yX0_sum, .selects RX0 yX0_sum yX0_sum, .initialized RX0, .code yX0_sum cX0_sum 3 (some .int), .fieldLink RX0 15 "AntennaHall$Doubts" "count" "I", .fieldLink RX0 9 "AntennaHall$Doubts" "values" "[I", .methodLink RX5 204 yX0_squares, .instanceMethod yX0_squares, .selects RX0 yX0_squares yX0_squares, .code yX0_squares cX0_squares 4 (some .long), .methodLink RX5 208 yX5_rootUp, .static yX5_rootUp, .initialized RX5, .code yX5_rootUp cX5_rootUp 7 (some .int), .methodLink RX5 212 yX0_greatest, .instanceMethod yX0_greatest, .selects RX0 yX0_greatest yX0_greatest, .code yX0_greatest cX0_greatest 3 (some .int), .methodLink RX0 19 Lib.Math.max.name, .static Lib.Math.max.name, .initialized "java/lang/Math", .code Lib.Math.max.name Lib.Math.max.code 2 (some .int)] ++ wsX50 ++ wsX00)
def wsX5_sure : List Cond := .code yX5_sure cX5_sure 2 (some .int) :: ([.fieldLink RX5 40 "AntennaHall" "doubts" "LAntennaHall$Doubts;", .fieldLink RX5 195 "AntennaHall$Doubts" "count" "I"] ++ wsX50 ++ wsX00)
def wsX5_count_r1 : List Cond := [Cond.fieldLink RX5 10 "AntennaHall" "places" "LAntennaHall$Net;", Cond.fieldLink RX5 52 "AntennaHall$Net" "n" "I", Cond.fieldLink RX5 26 "AntennaHall" "drift" "LAntennaHall$Sheet;", Cond.fieldLink RX5 133 "AntennaHall$Sheet" "rows" "I", Cond.fieldLink RX5 136 "AntennaHall$Sheet" "columns" "I", Cond.fieldLink RX5 33 "AntennaHall" "pairs" "LAntennaHall$Pairs;", Cond.fieldLink RX5 159 "AntennaHall$Pairs" "m" "I", Cond.fieldLink RX5 40 "AntennaHall" "doubts" "LAntennaHall$Doubts;", Cond.fieldLink RX5 195 "AntennaHall$Doubts" "count" "I", Cond.methodLink RX5 107 yX2_countLost, Cond.instanceMethod yX2_countLost, Cond.selects RX2 yX2_countLost yX2_countLost, Cond.initialized RX2, Cond.code yX2_countLost cX2_countLost 1 (some .int), Cond.fieldLink RX2 30 "AntennaHall$Net" "lost" "[Z", Cond.methodLink RX2 74 yX2_countTrue, Cond.static yX2_countTrue, Cond.code yX2_countTrue cX2_countTrue 6 (some .int), Cond.methodLink RX5 215 yX2_countMeasured, Cond.instanceMethod yX2_countMeasured, Cond.selects RX2 yX2_countMeasured yX2_countMeasured, Cond.code yX2_countMeasured cX2_countMeasured 1 (some .int), Cond.fieldLink RX2 34 "AntennaHall$Net" "isMeasured" "[Z", Cond.methodLink RX5 218 yX3_countKnown]
def wsX5_count_r2 : List Cond := [Cond.instanceMethod yX3_countKnown, Cond.selects RX3 yX3_countKnown yX3_countKnown, Cond.initialized RX3, Cond.code yX3_countKnown cX3_countKnown 4 (some .int), Cond.fieldLink RX3 23 "AntennaHall$Pairs" "m" "I", Cond.fieldLink RX3 11 "AntennaHall$Pairs" "known" "[[I"]
def wsX5_count : List Cond := .code yX5_count cX5_count 2 (some .int) :: ((wsX5_count_r1 ++ wsX5_count_r2) ++ wsX50 ++ wsX20 ++ wsX40 ++ wsX30 ++ wsX00)
def wsX5_digest_r1 : List Cond := [Cond.fieldLink RX5 10 "AntennaHall" "places" "LAntennaHall$Net;", Cond.constantLong RX5 221 (191), Cond.fieldLink RX5 26 "AntennaHall" "drift" "LAntennaHall$Sheet;", Cond.fieldLink RX5 33 "AntennaHall" "pairs" "LAntennaHall$Pairs;", Cond.fieldLink RX5 40 "AntennaHall" "doubts" "LAntennaHall$Doubts;", Cond.methodLink RX5 223 yX2_foldInto, Cond.instanceMethod yX2_foldInto, Cond.selects RX2 yX2_foldInto yX2_foldInto, Cond.initialized RX2, Cond.code yX2_foldInto cX2_foldInto 6 (some .long), Cond.fieldLink RX2 41 "AntennaHall$Net" "n" "I", Cond.fieldLink RX2 9 "AntennaHall$Net" "near" "[I", Cond.fieldLink RX2 18 "AntennaHall$Net" "probes" "[I", Cond.fieldLink RX2 21 "AntennaHall$Net" "row" "[I", Cond.fieldLink RX2 30 "AntennaHall$Net" "lost" "[Z", Cond.fieldLink RX2 34 "AntennaHall$Net" "isMeasured" "[Z", Cond.fieldLink RX2 24 "AntennaHall$Net" "measured" "[I", Cond.fieldLink RX2 27 "AntennaHall$Net" "limits" "[I", Cond.static yX5_fold, Cond.initialized RX5, Cond.code yX5_fold cX5_fold 4 (some .long), Cond.constantLong RX5 235 (31), Cond.static yX5_foldIfKnown, Cond.code yX5_foldIfKnown cX5_foldIfKnown 4 (some .long)]
def wsX5_digest_r2 : List Cond := [Cond.methodLink RX5 237 yX5_fold, Cond.methodLink RX5 227 yX4_foldInto, Cond.instanceMethod yX4_foldInto, Cond.selects RX4 yX4_foldInto yX4_foldInto, Cond.initialized RX4, Cond.code yX4_foldInto cX4_foldInto 7 (some .long), Cond.fieldLink RX4 20 "AntennaHall$Sheet" "rows" "I", Cond.fieldLink RX4 24 "AntennaHall$Sheet" "columns" "I", Cond.fieldLink RX4 11 "AntennaHall$Sheet" "cells" "[[I", Cond.methodLink RX5 228 yX3_foldInto, Cond.instanceMethod yX3_foldInto, Cond.selects RX3 yX3_foldInto yX3_foldInto, Cond.initialized RX3, Cond.code yX3_foldInto cX3_foldInto 7 (some .long), Cond.fieldLink RX3 23 "AntennaHall$Pairs" "m" "I", Cond.fieldLink RX3 11 "AntennaHall$Pairs" "known" "[[I", Cond.fieldLink RX3 16 "AntennaHall$Pairs" "values" "[[I", Cond.methodLink RX5 229 yX0_foldInto, Cond.instanceMethod yX0_foldInto, Cond.selects RX0 yX0_foldInto yX0_foldInto, Cond.initialized RX0, Cond.code yX0_foldInto cX0_foldInto 6 (some .long), Cond.fieldLink RX0 15 "AntennaHall$Doubts" "count" "I", Cond.fieldLink RX0 9 "AntennaHall$Doubts" "values" "[I"]
def wsX5_digest : List Cond := .code yX5_digest cX5_digest 3 (some .long) :: ((wsX5_digest_r1 ++ wsX5_digest_r2) ++ wsX50 ++ wsX20 ++ wsX40 ++ wsX30 ++ wsX00)
def wsX6_begin : List Cond := .code yX6_begin cX6_begin 3 none :: ([.fieldLink RX6 68 "AntennaHallModel" "n" "I", .fieldLink RX6 7 "AntennaHallModel" "near" "[I", .fieldLink RX6 13 "AntennaHallModel" "hand" "[I", .fieldLink RX6 16 "AntennaHallModel" "probe" "[I", .fieldLink RX6 19 "AntennaHallModel" "isLost" "[Z", .fieldLink RX6 23 "AntennaHallModel" "isMeasured" "[Z", .fieldLink RX6 26 "AntennaHallModel" "measured" "[I", .fieldLink RX6 29 "AntennaHallModel" "limits" "[I", .constant RX6 71 (100000)] ++ wsX60)
def wsX6_init_r1 : List Cond := [Cond.methodLink RX6 1 objectInit, Cond.instanceMethod objectInit, Cond.code objectInit ⟨#[0xb1]⟩ 1 none, Cond.arrayClass .int, Cond.fieldLink RX6 7 "AntennaHallModel" "near" "[I", Cond.fieldLink RX6 13 "AntennaHallModel" "hand" "[I", Cond.fieldLink RX6 16 "AntennaHallModel" "probe" "[I", Cond.arrayClass .boolean, Cond.fieldLink RX6 19 "AntennaHallModel" "isLost" "[Z", Cond.fieldLink RX6 23 "AntennaHallModel" "isMeasured" "[Z", Cond.fieldLink RX6 26 "AntennaHallModel" "measured" "[I", Cond.fieldLink RX6 29 "AntennaHallModel" "limits" "[I", Cond.arrayClass .long, Cond.fieldLink RX6 32 "AntennaHallModel" "table" "[J", Cond.fieldLink RX6 36 "AntennaHallModel" "lost" "[I", Cond.fieldLink RX6 39 "AntennaHallModel" "stepOf" "[I", Cond.fieldLink RX6 42 "AntennaHallModel" "sheet" "[I", Cond.fieldLink RX6 45 "AntennaHallModel" "hasPair" "[Z", Cond.fieldLink RX6 48 "AntennaHallModel" "pairs" "[I", Cond.fieldLink RX6 51 "AntennaHallModel" "doubt" "[I", Cond.fieldLink RX6 58 "AntennaHallModel" "rows" "I", Cond.fieldLink RX6 62 "AntennaHallModel" "columns" "I", Cond.fieldLink RX6 65 "AntennaHallModel" "antennas" "I", Cond.methodLink RX6 54 yX6_begin]
def wsX6_init_r2 : List Cond := [Cond.instanceMethod yX6_begin, Cond.selects RX6 yX6_begin yX6_begin, Cond.initialized RX6, Cond.code yX6_begin cX6_begin 3 none, Cond.fieldLink RX6 68 "AntennaHallModel" "n" "I", Cond.constant RX6 71 (100000)]
def wsX6_init : List Cond := .code yX6_init cX6_init 1 none :: ((wsX6_init_r1 ++ wsX6_init_r2) ++ wsX60)
def wsX6_in : List Cond := .code yX6_in cX6_in 6 (some .boolean) :: ([])
def wsX6_floor : List Cond := .code yX6_floor cX6_floor 3 (some .int) :: ([])
def wsX6_net : List Cond := .code yX6_net cX6_net 2 (some .int) :: ([.constantLong RX6 72 (5), .fieldLink RX6 68 "AntennaHallModel" "n" "I", .methodLink RX6 74 yX6_in, .static yX6_in, .initialized RX6, .code yX6_in cX6_in 6 (some .boolean), .methodLink RX6 54 yX6_begin, .instanceMethod yX6_begin, .selects RX6 yX6_begin yX6_begin, .code yX6_begin cX6_begin 3 none, .fieldLink RX6 7 "AntennaHallModel" "near" "[I", .fieldLink RX6 13 "AntennaHallModel" "hand" "[I", .fieldLink RX6 16 "AntennaHallModel" "probe" "[I", .fieldLink RX6 19 "AntennaHallModel" "isLost" "[Z", .fieldLink RX6 23 "AntennaHallModel" "isMeasured" "[Z", .fieldLink RX6 26 "AntennaHallModel" "measured" "[I", .fieldLink RX6 29 "AntennaHallModel" "limits" "[I", .constant RX6 71 (100000)] ++ wsX60)
def wsX6_isPlace : List Cond := .code yX6_isPlace cX6_isPlace 2 (some .boolean) :: ([.fieldLink RX6 68 "AntennaHallModel" "n" "I", .methodLink RX6 74 yX6_in, .static yX6_in, .initialized RX6, .code yX6_in cX6_in 6 (some .boolean)] ++ wsX60)
def wsX6_sign : List Cond := .code yX6_sign cX6_sign 4 (some .int) :: ([])
def wsX6_near : List Cond := .code yX6_near cX6_near 4 (some .int) :: ([.constantLong RX6 82 (-1000), .constantLong RX6 84 (1000), .fieldLink RX6 7 "AntennaHallModel" "near" "[I", .methodLink RX6 78 yX6_isPlace, .instanceMethod yX6_isPlace, .selects RX6 yX6_isPlace yX6_isPlace, .initialized RX6, .code yX6_isPlace cX6_isPlace 2 (some .boolean), .fieldLink RX6 68 "AntennaHallModel" "n" "I", .methodLink RX6 74 yX6_in, .static yX6_in, .code yX6_in cX6_in 6 (some .boolean)] ++ wsX60)
def wsX6_farOf : List Cond := .code yX6_farOf cX6_farOf 4 (some .int) :: ([.fieldLink RX6 68 "AntennaHallModel" "n" "I", .fieldLink RX6 7 "AntennaHallModel" "near" "[I", .methodLink RX6 86 yX6_sign, .static yX6_sign, .initialized RX6, .code yX6_sign cX6_sign 4 (some .int)] ++ wsX60)
def wsX6_far : List Cond := .code yX6_far cX6_far 2 (some .int) :: ([.constant RX6 94 (-1000001), .methodLink RX6 78 yX6_isPlace, .instanceMethod yX6_isPlace, .selects RX6 yX6_isPlace yX6_isPlace, .initialized RX6, .code yX6_isPlace cX6_isPlace 2 (some .boolean), .fieldLink RX6 68 "AntennaHallModel" "n" "I", .methodLink RX6 74 yX6_in, .static yX6_in, .code yX6_in cX6_in 6 (some .boolean), .methodLink RX6 90 yX6_farOf, .instanceMethod yX6_farOf, .selects RX6 yX6_farOf yX6_farOf, .code yX6_farOf cX6_farOf 4 (some .int), .fieldLink RX6 7 "AntennaHallModel" "near" "[I", .methodLink RX6 86 yX6_sign, .static yX6_sign, .code yX6_sign cX6_sign 4 (some .int)] ++ wsX60)
def wsX6_backOf : List Cond := .code yX6_backOf cX6_backOf 4 (some .int) :: ([.fieldLink RX6 68 "AntennaHallModel" "n" "I", .fieldLink RX6 13 "AntennaHallModel" "hand" "[I", .methodLink RX6 86 yX6_sign, .static yX6_sign, .initialized RX6, .code yX6_sign cX6_sign 4 (some .int)] ++ wsX60)
def wsX6_back : List Cond := .code yX6_back cX6_back 4 (some .int) :: ([.fieldLink RX6 68 "AntennaHallModel" "n" "I", .constantLong RX6 82 (-1000), .constantLong RX6 84 (1000), .fieldLink RX6 7 "AntennaHallModel" "near" "[I", .methodLink RX6 95 yX6_backOf, .instanceMethod yX6_backOf, .selects RX6 yX6_backOf yX6_backOf, .initialized RX6, .code yX6_backOf cX6_backOf 4 (some .int), .fieldLink RX6 13 "AntennaHallModel" "hand" "[I", .methodLink RX6 86 yX6_sign, .static yX6_sign, .code yX6_sign cX6_sign 4 (some .int), .methodLink RX6 74 yX6_in, .static yX6_in, .code yX6_in cX6_in 6 (some .boolean)] ++ wsX60)
def wsX6_tell : List Cond := .code yX6_tell cX6_tell 4 (some .int) :: ([.constant RX6 98 (-10000001), .constantLong RX6 99 (-1000000), .constantLong RX6 101 (1000000), .constant RX6 103 (-10000002), .fieldLink RX6 13 "AntennaHallModel" "hand" "[I", .methodLink RX6 78 yX6_isPlace, .instanceMethod yX6_isPlace, .selects RX6 yX6_isPlace yX6_isPlace, .initialized RX6, .code yX6_isPlace cX6_isPlace 2 (some .boolean), .fieldLink RX6 68 "AntennaHallModel" "n" "I", .methodLink RX6 74 yX6_in, .static yX6_in, .code yX6_in cX6_in 6 (some .boolean)] ++ wsX60)
def wsX6_probe : List Cond := .code yX6_probe cX6_probe 4 (some .int) :: ([.constantLong RX6 104 (-9), .constantLong RX6 106 (9), .fieldLink RX6 16 "AntennaHallModel" "probe" "[I", .methodLink RX6 78 yX6_isPlace, .instanceMethod yX6_isPlace, .selects RX6 yX6_isPlace yX6_isPlace, .initialized RX6, .code yX6_isPlace cX6_isPlace 2 (some .boolean), .fieldLink RX6 68 "AntennaHallModel" "n" "I", .methodLink RX6 74 yX6_in, .static yX6_in, .code yX6_in cX6_in 6 (some .boolean)] ++ wsX60)
def wsX6_seen : List Cond := .code yX6_seen cX6_seen 2 (some .int) :: ([.fieldLink RX6 16 "AntennaHallModel" "probe" "[I", .constant RX6 98 (-10000001), .methodLink RX6 78 yX6_isPlace, .instanceMethod yX6_isPlace, .selects RX6 yX6_isPlace yX6_isPlace, .initialized RX6, .code yX6_isPlace cX6_isPlace 2 (some .boolean), .fieldLink RX6 68 "AntennaHallModel" "n" "I", .methodLink RX6 74 yX6_in, .static yX6_in, .code yX6_in cX6_in 6 (some .boolean), .methodLink RX6 90 yX6_farOf, .instanceMethod yX6_farOf, .selects RX6 yX6_farOf yX6_farOf, .code yX6_farOf cX6_farOf 4 (some .int), .fieldLink RX6 7 "AntennaHallModel" "near" "[I", .methodLink RX6 86 yX6_sign, .static yX6_sign, .code yX6_sign cX6_sign 4 (some .int)] ++ wsX60)
def wsX6_unprobe : List Cond := .code yX6_unprobe cX6_unprobe 3 (some .int) :: ([.fieldLink RX6 68 "AntennaHallModel" "n" "I", .fieldLink RX6 13 "AntennaHallModel" "hand" "[I", .fieldLink RX6 16 "AntennaHallModel" "probe" "[I"] ++ wsX60)
def wsX6_isGate : List Cond := .code yX6_isGate cX6_isGate 2 (some .boolean) :: ([.constantLong RX6 108 (31), .methodLink RX6 74 yX6_in, .static yX6_in, .initialized RX6, .code yX6_in cX6_in 6 (some .boolean)])
def wsX6_passes : List Cond := .code yX6_passes cX6_passes 3 (some .boolean) :: ([])
def wsX6_gated_r1 : List Cond := [Cond.constant RX6 98 (-10000001), Cond.constant RX6 103 (-10000002), Cond.fieldLink RX6 68 "AntennaHallModel" "n" "I", Cond.methodLink RX6 78 yX6_isPlace, Cond.instanceMethod yX6_isPlace, Cond.selects RX6 yX6_isPlace yX6_isPlace, Cond.initialized RX6, Cond.code yX6_isPlace cX6_isPlace 2 (some .boolean), Cond.methodLink RX6 74 yX6_in, Cond.static yX6_in, Cond.code yX6_in cX6_in 6 (some .boolean), Cond.methodLink RX6 110 yX6_isGate, Cond.static yX6_isGate, Cond.code yX6_isGate cX6_isGate 2 (some .boolean), Cond.constantLong RX6 108 (31), Cond.methodLink RX6 114 yX6_passes, Cond.static yX6_passes, Cond.code yX6_passes cX6_passes 3 (some .boolean), Cond.methodLink RX6 90 yX6_farOf, Cond.instanceMethod yX6_farOf, Cond.selects RX6 yX6_farOf yX6_farOf, Cond.code yX6_farOf cX6_farOf 4 (some .int), Cond.fieldLink RX6 7 "AntennaHallModel" "near" "[I", Cond.methodLink RX6 86 yX6_sign]
def wsX6_gated_r2 : List Cond := [Cond.static yX6_sign, Cond.code yX6_sign cX6_sign 4 (some .int)]
def wsX6_gated : List Cond := .code yX6_gated cX6_gated 6 (some .int) :: ((wsX6_gated_r1 ++ wsX6_gated_r2) ++ wsX60)
def wsX6_power : List Cond := .code yX6_power cX6_power 8 (some .long) :: ([.constantLong RX6 118 (-102), .fieldLink RX6 68 "AntennaHallModel" "n" "I", .methodLink RX6 110 yX6_isGate, .static yX6_isGate, .initialized RX6, .code yX6_isGate cX6_isGate 2 (some .boolean), .constantLong RX6 108 (31), .methodLink RX6 74 yX6_in, .static yX6_in, .code yX6_in cX6_in 6 (some .boolean), .methodLink RX6 90 yX6_farOf, .instanceMethod yX6_farOf, .selects RX6 yX6_farOf yX6_farOf, .code yX6_farOf cX6_farOf 4 (some .int), .fieldLink RX6 7 "AntennaHallModel" "near" "[I", .methodLink RX6 86 yX6_sign, .static yX6_sign, .code yX6_sign cX6_sign 4 (some .int), .methodLink RX6 114 yX6_passes, .static yX6_passes, .code yX6_passes cX6_passes 3 (some .boolean)] ++ wsX60)
def wsX6_lostMany : List Cond := .code yX6_lostMany cX6_lostMany 3 (some .int) :: ([.fieldLink RX6 68 "AntennaHallModel" "n" "I", .fieldLink RX6 19 "AntennaHallModel" "isLost" "[Z"] ++ wsX60)
def wsX6_lose : List Cond := .code yX6_lose cX6_lose 4 (some .int) :: ([.fieldLink RX6 19 "AntennaHallModel" "isLost" "[Z", .methodLink RX6 78 yX6_isPlace, .instanceMethod yX6_isPlace, .selects RX6 yX6_isPlace yX6_isPlace, .initialized RX6, .code yX6_isPlace cX6_isPlace 2 (some .boolean), .fieldLink RX6 68 "AntennaHallModel" "n" "I", .methodLink RX6 74 yX6_in, .static yX6_in, .code yX6_in cX6_in 6 (some .boolean), .methodLink RX6 120 yX6_lostMany, .instanceMethod yX6_lostMany, .selects RX6 yX6_lostMany yX6_lostMany, .code yX6_lostMany cX6_lostMany 3 (some .int)] ++ wsX60)
def wsX6_turn : List Cond := .code yX6_turn cX6_turn 6 none :: ([.fieldLink RX6 32 "AntennaHallModel" "table" "[J"] ++ wsX60)
def wsX6_common : List Cond := .code yX6_common cX6_common 10 (some .long) :: ([])
def wsX6_clear : List Cond := .code yX6_clear cX6_clear 11 none :: ([.fieldLink RX6 32 "AntennaHallModel" "table" "[J", .fieldLink RX6 124 "AntennaHallModel" "losts" "I", .methodLink RX6 138 yX6_common, .static yX6_common, .initialized RX6, .code yX6_common cX6_common 10 (some .long)] ++ wsX60)
def wsX6_solve_r1 : List Cond := [Cond.fieldLink RX6 124 "AntennaHallModel" "losts" "I", Cond.fieldLink RX6 68 "AntennaHallModel" "n" "I", Cond.fieldLink RX6 19 "AntennaHallModel" "isLost" "[Z", Cond.fieldLink RX6 36 "AntennaHallModel" "lost" "[I", Cond.fieldLink RX6 127 "AntennaHallModel" "tableRows" "I", Cond.fieldLink RX6 7 "AntennaHallModel" "near" "[I", Cond.fieldLink RX6 32 "AntennaHallModel" "table" "[J", Cond.fieldLink RX6 39 "AntennaHallModel" "stepOf" "[I", Cond.methodLink RX6 114 yX6_passes, Cond.static yX6_passes, Cond.initialized RX6, Cond.code yX6_passes cX6_passes 3 (some .boolean), Cond.methodLink RX6 86 yX6_sign, Cond.static yX6_sign, Cond.code yX6_sign cX6_sign 4 (some .int), Cond.methodLink RX6 130 yX6_turn, Cond.instanceMethod yX6_turn, Cond.selects RX6 yX6_turn yX6_turn, Cond.code yX6_turn cX6_turn 6 none, Cond.methodLink RX6 134 yX6_clear, Cond.instanceMethod yX6_clear, Cond.selects RX6 yX6_clear yX6_clear, Cond.code yX6_clear cX6_clear 11 none, Cond.methodLink RX6 138 yX6_common]
def wsX6_solve_r2 : List Cond := [Cond.static yX6_common, Cond.code yX6_common cX6_common 10 (some .long)]
def wsX6_solve : List Cond := .code yX6_solve cX6_solve 7 (some .int) :: ((wsX6_solve_r1 ++ wsX6_solve_r2) ++ wsX60)
def wsX6_mends_r1 : List Cond := [Cond.methodLink RX6 110 yX6_isGate, Cond.static yX6_isGate, Cond.initialized RX6, Cond.code yX6_isGate cX6_isGate 2 (some .boolean), Cond.constantLong RX6 108 (31), Cond.methodLink RX6 74 yX6_in, Cond.static yX6_in, Cond.code yX6_in cX6_in 6 (some .boolean), Cond.methodLink RX6 142 yX6_solve, Cond.instanceMethod yX6_solve, Cond.selects RX6 yX6_solve yX6_solve, Cond.code yX6_solve cX6_solve 7 (some .int), Cond.fieldLink RX6 124 "AntennaHallModel" "losts" "I", Cond.fieldLink RX6 68 "AntennaHallModel" "n" "I", Cond.fieldLink RX6 19 "AntennaHallModel" "isLost" "[Z", Cond.fieldLink RX6 36 "AntennaHallModel" "lost" "[I", Cond.fieldLink RX6 127 "AntennaHallModel" "tableRows" "I", Cond.fieldLink RX6 7 "AntennaHallModel" "near" "[I", Cond.fieldLink RX6 32 "AntennaHallModel" "table" "[J", Cond.fieldLink RX6 39 "AntennaHallModel" "stepOf" "[I", Cond.methodLink RX6 114 yX6_passes, Cond.static yX6_passes, Cond.code yX6_passes cX6_passes 3 (some .boolean), Cond.methodLink RX6 86 yX6_sign]
def wsX6_mends_r2 : List Cond := [Cond.static yX6_sign, Cond.code yX6_sign cX6_sign 4 (some .int), Cond.methodLink RX6 130 yX6_turn, Cond.instanceMethod yX6_turn, Cond.selects RX6 yX6_turn yX6_turn, Cond.code yX6_turn cX6_turn 6 none, Cond.methodLink RX6 134 yX6_clear, Cond.instanceMethod yX6_clear, Cond.selects RX6 yX6_clear yX6_clear, Cond.code yX6_clear cX6_clear 11 none, Cond.methodLink RX6 138 yX6_common, Cond.static yX6_common, Cond.code yX6_common cX6_common 10 (some .long)]
def wsX6_mends : List Cond := .code yX6_mends cX6_mends 3 (some .int) :: ((wsX6_mends_r1 ++ wsX6_mends_r2) ++ wsX60)
def wsX6_mend_r1 : List Cond := [Cond.fieldLink RX6 19 "AntennaHallModel" "isLost" "[Z", Cond.constantLong RX6 145 (-9000000000000000001), Cond.constantLong RX6 147 (-9000000000000000002), Cond.constantLong RX6 149 (-9000000000000000003), Cond.fieldLink RX6 36 "AntennaHallModel" "lost" "[I", Cond.fieldLink RX6 32 "AntennaHallModel" "table" "[J", Cond.fieldLink RX6 39 "AntennaHallModel" "stepOf" "[I", Cond.methodLink RX6 78 yX6_isPlace, Cond.instanceMethod yX6_isPlace, Cond.selects RX6 yX6_isPlace yX6_isPlace, Cond.initialized RX6, Cond.code yX6_isPlace cX6_isPlace 2 (some .boolean), Cond.fieldLink RX6 68 "AntennaHallModel" "n" "I", Cond.methodLink RX6 74 yX6_in, Cond.static yX6_in, Cond.code yX6_in cX6_in 6 (some .boolean), Cond.methodLink RX6 110 yX6_isGate, Cond.static yX6_isGate, Cond.code yX6_isGate cX6_isGate 2 (some .boolean), Cond.constantLong RX6 108 (31), Cond.methodLink RX6 142 yX6_solve, Cond.instanceMethod yX6_solve, Cond.selects RX6 yX6_solve yX6_solve, Cond.code yX6_solve cX6_solve 7 (some .int)]
def wsX6_mend_r2 : List Cond := [Cond.fieldLink RX6 124 "AntennaHallModel" "losts" "I", Cond.fieldLink RX6 127 "AntennaHallModel" "tableRows" "I", Cond.fieldLink RX6 7 "AntennaHallModel" "near" "[I", Cond.methodLink RX6 114 yX6_passes, Cond.static yX6_passes, Cond.code yX6_passes cX6_passes 3 (some .boolean), Cond.methodLink RX6 86 yX6_sign, Cond.static yX6_sign, Cond.code yX6_sign cX6_sign 4 (some .int), Cond.methodLink RX6 130 yX6_turn, Cond.instanceMethod yX6_turn, Cond.selects RX6 yX6_turn yX6_turn, Cond.code yX6_turn cX6_turn 6 none, Cond.methodLink RX6 134 yX6_clear, Cond.instanceMethod yX6_clear, Cond.selects RX6 yX6_clear yX6_clear, Cond.code yX6_clear cX6_clear 11 none, Cond.methodLink RX6 138 yX6_common, Cond.static yX6_common, Cond.code yX6_common cX6_common 10 (some .long)]
def wsX6_mend : List Cond := .code yX6_mend cX6_mend 12 (some .long) :: ((wsX6_mend_r1 ++ wsX6_mend_r2) ++ wsX60)
def wsX6_sheet : List Cond := .code yX6_sheet cX6_sheet 4 (some .int) :: ([.constantLong RX6 151 (2), .constantLong RX6 153 (8), .fieldLink RX6 58 "AntennaHallModel" "rows" "I", .fieldLink RX6 62 "AntennaHallModel" "columns" "I", .fieldLink RX6 42 "AntennaHallModel" "sheet" "[I", .methodLink RX6 74 yX6_in, .static yX6_in, .initialized RX6, .code yX6_in cX6_in 6 (some .boolean)] ++ wsX60)
def wsX6_cell : List Cond := .code yX6_cell cX6_cell 5 (some .int) :: ([.fieldLink RX6 58 "AntennaHallModel" "rows" "I", .fieldLink RX6 62 "AntennaHallModel" "columns" "I", .constantLong RX6 82 (-1000), .constantLong RX6 84 (1000), .fieldLink RX6 42 "AntennaHallModel" "sheet" "[I", .methodLink RX6 74 yX6_in, .static yX6_in, .initialized RX6, .code yX6_in cX6_in 6 (some .boolean)] ++ wsX60)
def wsX6_closed : List Cond := .code yX6_closed cX6_closed 4 (some .int) :: ([.fieldLink RX6 58 "AntennaHallModel" "rows" "I", .fieldLink RX6 62 "AntennaHallModel" "columns" "I", .fieldLink RX6 42 "AntennaHallModel" "sheet" "[I", .methodLink RX6 74 yX6_in, .static yX6_in, .initialized RX6, .code yX6_in cX6_in 6 (some .boolean), .methodLink RX6 155 yX6_floor, .static yX6_floor, .code yX6_floor cX6_floor 3 (some .int)] ++ wsX60)
def wsX6_tied : List Cond := .code yX6_tied cX6_tied 3 (some .int) :: ([.fieldLink RX6 58 "AntennaHallModel" "rows" "I", .fieldLink RX6 62 "AntennaHallModel" "columns" "I", .fieldLink RX6 42 "AntennaHallModel" "sheet" "[I", .methodLink RX6 74 yX6_in, .static yX6_in, .initialized RX6, .code yX6_in cX6_in 6 (some .boolean)] ++ wsX60)
def wsX6_antennas : List Cond := .code yX6_antennas cX6_antennas 3 (some .int) :: ([.constantLong RX6 158 (3), .constantLong RX6 72 (5), .fieldLink RX6 65 "AntennaHallModel" "antennas" "I", .fieldLink RX6 45 "AntennaHallModel" "hasPair" "[Z", .fieldLink RX6 48 "AntennaHallModel" "pairs" "[I", .methodLink RX6 74 yX6_in, .static yX6_in, .initialized RX6, .code yX6_in cX6_in 6 (some .boolean)] ++ wsX60)
def wsX6_together : List Cond := .code yX6_together cX6_together 6 (some .int) :: ([.fieldLink RX6 65 "AntennaHallModel" "antennas" "I", .constantLong RX6 160 (-10000), .constantLong RX6 162 (10000), .fieldLink RX6 45 "AntennaHallModel" "hasPair" "[Z", .fieldLink RX6 48 "AntennaHallModel" "pairs" "[I", .methodLink RX6 74 yX6_in, .static yX6_in, .initialized RX6, .code yX6_in cX6_in 6 (some .boolean)] ++ wsX60)
def wsX6_findThrees : List Cond := .code yX6_findThrees cX6_findThrees 5 none :: ([.fieldLink RX6 164 "AntennaHallModel" "threes" "I", .fieldLink RX6 65 "AntennaHallModel" "antennas" "I", .fieldLink RX6 45 "AntennaHallModel" "hasPair" "[Z", .fieldLink RX6 48 "AntennaHallModel" "pairs" "[I", .fieldLink RX6 167 "AntennaHallModel" "firstGain" "I", .fieldLink RX6 170 "AntennaHallModel" "leastGain" "I", .fieldLink RX6 173 "AntennaHallModel" "mostGain" "I"] ++ wsX60)
def wsX6_gain : List Cond := .code yX6_gain cX6_gain 2 (some .int) :: ([.fieldLink RX6 65 "AntennaHallModel" "antennas" "I", .constant RX6 94 (-1000001), .fieldLink RX6 164 "AntennaHallModel" "threes" "I", .constant RX6 179 (-1000003), .fieldLink RX6 167 "AntennaHallModel" "firstGain" "I", .methodLink RX6 74 yX6_in, .static yX6_in, .initialized RX6, .code yX6_in cX6_in 6 (some .boolean), .methodLink RX6 176 yX6_findThrees, .instanceMethod yX6_findThrees, .selects RX6 yX6_findThrees yX6_findThrees, .code yX6_findThrees cX6_findThrees 5 none, .fieldLink RX6 45 "AntennaHallModel" "hasPair" "[Z", .fieldLink RX6 48 "AntennaHallModel" "pairs" "[I", .fieldLink RX6 170 "AntennaHallModel" "leastGain" "I", .fieldLink RX6 173 "AntennaHallModel" "mostGain" "I"] ++ wsX60)
def wsX6_loose : List Cond := .code yX6_loose cX6_loose 3 (some .int) :: ([.fieldLink RX6 65 "AntennaHallModel" "antennas" "I", .fieldLink RX6 164 "AntennaHallModel" "threes" "I", .fieldLink RX6 173 "AntennaHallModel" "mostGain" "I", .fieldLink RX6 170 "AntennaHallModel" "leastGain" "I", .methodLink RX6 176 yX6_findThrees, .instanceMethod yX6_findThrees, .selects RX6 yX6_findThrees yX6_findThrees, .initialized RX6, .code yX6_findThrees cX6_findThrees 5 none, .fieldLink RX6 45 "AntennaHallModel" "hasPair" "[Z", .fieldLink RX6 48 "AntennaHallModel" "pairs" "[I", .fieldLink RX6 167 "AntennaHallModel" "firstGain" "I"] ++ wsX60)
def wsX6_measure : List Cond := .code yX6_measure cX6_measure 5 (some .int) :: ([.constantLong RX6 99 (-1000000), .constantLong RX6 101 (1000000), .fieldLink RX6 23 "AntennaHallModel" "isMeasured" "[Z", .fieldLink RX6 26 "AntennaHallModel" "measured" "[I", .methodLink RX6 78 yX6_isPlace, .instanceMethod yX6_isPlace, .selects RX6 yX6_isPlace yX6_isPlace, .initialized RX6, .code yX6_isPlace cX6_isPlace 2 (some .boolean), .fieldLink RX6 68 "AntennaHallModel" "n" "I", .methodLink RX6 74 yX6_in, .static yX6_in, .code yX6_in cX6_in 6 (some .boolean)] ++ wsX60)
def wsX6_offBy : List Cond := .code yX6_offBy cX6_offBy 6 (some .int) :: ([.fieldLink RX6 68 "AntennaHallModel" "n" "I", .fieldLink RX6 23 "AntennaHallModel" "isMeasured" "[Z", .fieldLink RX6 26 "AntennaHallModel" "measured" "[I", .methodLink RX6 90 yX6_farOf, .instanceMethod yX6_farOf, .selects RX6 yX6_farOf yX6_farOf, .initialized RX6, .code yX6_farOf cX6_farOf 4 (some .int), .fieldLink RX6 7 "AntennaHallModel" "near" "[I", .methodLink RX6 86 yX6_sign, .static yX6_sign, .code yX6_sign cX6_sign 4 (some .int)] ++ wsX60)
def wsX6_isOff : List Cond := .code yX6_isOff cX6_isOff 3 (some .boolean) :: ([.fieldLink RX6 68 "AntennaHallModel" "n" "I", .fieldLink RX6 23 "AntennaHallModel" "isMeasured" "[Z", .fieldLink RX6 26 "AntennaHallModel" "measured" "[I", .methodLink RX6 90 yX6_farOf, .instanceMethod yX6_farOf, .selects RX6 yX6_farOf yX6_farOf, .initialized RX6, .code yX6_farOf cX6_farOf 4 (some .int), .fieldLink RX6 7 "AntennaHallModel" "near" "[I", .methodLink RX6 86 yX6_sign, .static yX6_sign, .code yX6_sign cX6_sign 4 (some .int)] ++ wsX60)
def wsX6_faults : List Cond := .code yX6_faults cX6_faults 3 (some .int) :: ([.fieldLink RX6 68 "AntennaHallModel" "n" "I", .methodLink RX6 180 yX6_isOff, .instanceMethod yX6_isOff, .selects RX6 yX6_isOff yX6_isOff, .initialized RX6, .code yX6_isOff cX6_isOff 3 (some .boolean), .fieldLink RX6 23 "AntennaHallModel" "isMeasured" "[Z", .fieldLink RX6 26 "AntennaHallModel" "measured" "[I", .methodLink RX6 90 yX6_farOf, .instanceMethod yX6_farOf, .selects RX6 yX6_farOf yX6_farOf, .code yX6_farOf cX6_farOf 4 (some .int), .fieldLink RX6 7 "AntennaHallModel" "near" "[I", .methodLink RX6 86 yX6_sign, .static yX6_sign, .code yX6_sign cX6_sign 4 (some .int), .methodLink RX6 184 yX6_offBy, .instanceMethod yX6_offBy, .selects RX6 yX6_offBy yX6_offBy, .code yX6_offBy cX6_offBy 6 (some .int)] ++ wsX60)
def wsX6_faultAt : List Cond := .code yX6_faultAt cX6_faultAt 4 (some .int) :: ([.fieldLink RX6 68 "AntennaHallModel" "n" "I", .methodLink RX6 184 yX6_offBy, .instanceMethod yX6_offBy, .selects RX6 yX6_offBy yX6_offBy, .initialized RX6, .code yX6_offBy cX6_offBy 6 (some .int), .fieldLink RX6 23 "AntennaHallModel" "isMeasured" "[Z", .fieldLink RX6 26 "AntennaHallModel" "measured" "[I", .methodLink RX6 90 yX6_farOf, .instanceMethod yX6_farOf, .selects RX6 yX6_farOf yX6_farOf, .code yX6_farOf cX6_farOf 4 (some .int), .fieldLink RX6 7 "AntennaHallModel" "near" "[I", .methodLink RX6 86 yX6_sign, .static yX6_sign, .code yX6_sign cX6_sign 4 (some .int)] ++ wsX60)
def wsX6_fault : List Cond := .code yX6_fault cX6_fault 2 (some .int) :: ([.methodLink RX6 187 yX6_faultAt, .instanceMethod yX6_faultAt, .selects RX6 yX6_faultAt yX6_faultAt, .initialized RX6, .code yX6_faultAt cX6_faultAt 4 (some .int), .fieldLink RX6 68 "AntennaHallModel" "n" "I", .methodLink RX6 184 yX6_offBy, .instanceMethod yX6_offBy, .selects RX6 yX6_offBy yX6_offBy, .code yX6_offBy cX6_offBy 6 (some .int), .fieldLink RX6 23 "AntennaHallModel" "isMeasured" "[Z", .fieldLink RX6 26 "AntennaHallModel" "measured" "[I", .methodLink RX6 90 yX6_farOf, .instanceMethod yX6_farOf, .selects RX6 yX6_farOf yX6_farOf, .code yX6_farOf cX6_farOf 4 (some .int), .fieldLink RX6 7 "AntennaHallModel" "near" "[I", .methodLink RX6 86 yX6_sign, .static yX6_sign, .code yX6_sign cX6_sign 4 (some .int)] ++ wsX60)
def wsX6_by : List Cond := .code yX6_by cX6_by 3 (some .int) :: ([.methodLink RX6 187 yX6_faultAt, .instanceMethod yX6_faultAt, .selects RX6 yX6_faultAt yX6_faultAt, .initialized RX6, .code yX6_faultAt cX6_faultAt 4 (some .int), .fieldLink RX6 68 "AntennaHallModel" "n" "I", .methodLink RX6 184 yX6_offBy, .instanceMethod yX6_offBy, .selects RX6 yX6_offBy yX6_offBy, .code yX6_offBy cX6_offBy 6 (some .int), .fieldLink RX6 23 "AntennaHallModel" "isMeasured" "[Z", .fieldLink RX6 26 "AntennaHallModel" "measured" "[I", .methodLink RX6 90 yX6_farOf, .instanceMethod yX6_farOf, .selects RX6 yX6_farOf yX6_farOf, .code yX6_farOf cX6_farOf 4 (some .int), .fieldLink RX6 7 "AntennaHallModel" "near" "[I", .methodLink RX6 86 yX6_sign, .static yX6_sign, .code yX6_sign cX6_sign 4 (some .int)] ++ wsX60)
def wsX6_limit : List Cond := .code yX6_limit cX6_limit 4 (some .int) :: ([.constantLong RX6 190 (100000), .fieldLink RX6 29 "AntennaHallModel" "limits" "[I", .methodLink RX6 78 yX6_isPlace, .instanceMethod yX6_isPlace, .selects RX6 yX6_isPlace yX6_isPlace, .initialized RX6, .code yX6_isPlace cX6_isPlace 2 (some .boolean), .fieldLink RX6 68 "AntennaHallModel" "n" "I", .methodLink RX6 74 yX6_in, .static yX6_in, .code yX6_in cX6_in 6 (some .boolean)] ++ wsX60)
def wsX6_broken : List Cond := .code yX6_broken cX6_broken 3 (some .int) :: ([.fieldLink RX6 68 "AntennaHallModel" "n" "I", .fieldLink RX6 29 "AntennaHallModel" "limits" "[I", .methodLink RX6 90 yX6_farOf, .instanceMethod yX6_farOf, .selects RX6 yX6_farOf yX6_farOf, .initialized RX6, .code yX6_farOf cX6_farOf 4 (some .int), .fieldLink RX6 7 "AntennaHallModel" "near" "[I", .methodLink RX6 86 yX6_sign, .static yX6_sign, .code yX6_sign cX6_sign 4 (some .int)] ++ wsX60)
def wsX6_doubt : List Cond := .code yX6_doubt cX6_doubt 2 (some .int) :: ([.constantLong RX6 162 (10000), .fieldLink RX6 192 "AntennaHallModel" "doubts" "I", .fieldLink RX6 51 "AntennaHallModel" "doubt" "[I", .methodLink RX6 74 yX6_in, .static yX6_in, .initialized RX6, .code yX6_in cX6_in 6 (some .boolean)] ++ wsX60)
def wsX6_budget : List Cond := .code yX6_budget cX6_budget 8 (some .int) :: ([.constantLong RX6 151 (2), .fieldLink RX6 192 "AntennaHallModel" "doubts" "I", .fieldLink RX6 51 "AntennaHallModel" "doubt" "[I", .methodLink RX6 74 yX6_in, .static yX6_in, .initialized RX6, .code yX6_in cX6_in 6 (some .boolean)] ++ wsX60)
def wsX6_sure : List Cond := .code yX6_sure cX6_sure 2 (some .int) :: ([.fieldLink RX6 192 "AntennaHallModel" "doubts" "I"] ++ wsX60)
def wsX6_count : List Cond := .code yX6_count cX6_count 4 (some .int) :: ([.fieldLink RX6 68 "AntennaHallModel" "n" "I", .fieldLink RX6 23 "AntennaHallModel" "isMeasured" "[Z", .fieldLink RX6 58 "AntennaHallModel" "rows" "I", .fieldLink RX6 62 "AntennaHallModel" "columns" "I", .fieldLink RX6 65 "AntennaHallModel" "antennas" "I", .fieldLink RX6 45 "AntennaHallModel" "hasPair" "[Z", .fieldLink RX6 192 "AntennaHallModel" "doubts" "I", .methodLink RX6 120 yX6_lostMany, .instanceMethod yX6_lostMany, .selects RX6 yX6_lostMany yX6_lostMany, .initialized RX6, .code yX6_lostMany cX6_lostMany 3 (some .int), .fieldLink RX6 19 "AntennaHallModel" "isLost" "[Z"] ++ wsX60)
def wsX6_digest : List Cond := .code yX6_digest cX6_digest 5 (some .long) :: ([.constantLong RX6 195 (191), .constantLong RX6 108 (31), .fieldLink RX6 68 "AntennaHallModel" "n" "I", .fieldLink RX6 7 "AntennaHallModel" "near" "[I", .fieldLink RX6 16 "AntennaHallModel" "probe" "[I", .fieldLink RX6 13 "AntennaHallModel" "hand" "[I", .fieldLink RX6 19 "AntennaHallModel" "isLost" "[Z", .fieldLink RX6 23 "AntennaHallModel" "isMeasured" "[Z", .fieldLink RX6 26 "AntennaHallModel" "measured" "[I", .fieldLink RX6 29 "AntennaHallModel" "limits" "[I", .fieldLink RX6 58 "AntennaHallModel" "rows" "I", .fieldLink RX6 62 "AntennaHallModel" "columns" "I", .fieldLink RX6 42 "AntennaHallModel" "sheet" "[I", .fieldLink RX6 65 "AntennaHallModel" "antennas" "I", .fieldLink RX6 45 "AntennaHallModel" "hasPair" "[Z", .fieldLink RX6 48 "AntennaHallModel" "pairs" "[I", .fieldLink RX6 192 "AntennaHallModel" "doubts" "I", .fieldLink RX6 51 "AntennaHallModel" "doubt" "[I"] ++ wsX60)
def wsJ9_abs_0f7a4 : List Cond := .code yJ9_abs_0f7a4 cJ9_abs_0f7a4 1 (some .int) :: ([])
def wsJ9_abs_067f4 : List Cond := .code yJ9_abs_067f4 cJ9_abs_067f4 2 (some .long) :: ([])
def wsJ9_max_7cf53 : List Cond := .code yJ9_max_7cf53 cJ9_max_7cf53 2 (some .int) :: ([])
def wsJ9_min_7cf53 : List Cond := .code yJ9_min_7cf53 cJ9_min_7cf53 2 (some .int) :: ([])
abbrev vwCl : List vw_C := [(RX0, TX0, 2), (RX1, TX1, 4), (RX2, TX2, 9), (RX3, TX3, 3), (RX4, TX4, 3), (RX5, TX5, 5), (RX6, TX6, 25)]
theorem dX0_init_0 : decode cX0_init 0 = .ok (.aload_n 0, 1) := by decide +kernel
theorem dX0_init_1 : decode cX0_init 1 = .ok (.invokespecial 3, 3) := by decide +kernel
theorem dX0_init_4 : decode cX0_init 4 = .ok (.aload_n 0, 1) := by decide +kernel
theorem dX0_init_5 : decode cX0_init 5 = .ok (.bipush 18, 2) := by decide +kernel
theorem dX0_init_7 : decode cX0_init 7 = .ok (.newarray .int, 2) := by decide +kernel
theorem dX0_init_9 : decode cX0_init 9 = .ok (.putfield 9, 3) := by decide +kernel
theorem dX0_init_12 : decode cX0_init 12 = .ok (.return_, 1) := by decide +kernel
theorem dX0_add_0 : decode cX0_add 0 = .ok (.aload_n 0, 1) := by decide +kernel
theorem dX0_add_1 : decode cX0_add 1 = .ok (.getfield 15, 3) := by decide +kernel
theorem dX0_add_4 : decode cX0_add 4 = .ok (.ifCond .lt 32, 3) := by decide +kernel
theorem dX0_add_7 : decode cX0_add 7 = .ok (.aload_n 0, 1) := by decide +kernel
theorem dX0_add_8 : decode cX0_add 8 = .ok (.getfield 15, 3) := by decide +kernel
theorem dX0_add_11 : decode cX0_add 11 = .ok (.bipush 18, 2) := by decide +kernel
theorem dX0_add_13 : decode cX0_add 13 = .ok (.if_icmp .ge 23, 3) := by decide +kernel
theorem dX0_add_16 : decode cX0_add 16 = .ok (.aload_n 0, 1) := by decide +kernel
theorem dX0_add_17 : decode cX0_add 17 = .ok (.getfield 9, 3) := by decide +kernel
theorem dX0_add_20 : decode cX0_add 20 = .ok (.aload_n 0, 1) := by decide +kernel
theorem dX0_add_21 : decode cX0_add 21 = .ok (.getfield 15, 3) := by decide +kernel
theorem dX0_add_24 : decode cX0_add 24 = .ok (.iload_n 1, 1) := by decide +kernel
theorem dX0_add_25 : decode cX0_add 25 = .ok (.iastore, 1) := by decide +kernel
theorem dX0_add_26 : decode cX0_add 26 = .ok (.aload_n 0, 1) := by decide +kernel
theorem dX0_add_27 : decode cX0_add 27 = .ok (.dup, 1) := by decide +kernel
theorem dX0_add_28 : decode cX0_add 28 = .ok (.getfield 15, 3) := by decide +kernel
theorem dX0_add_31 : decode cX0_add 31 = .ok (.iconst 1, 1) := by decide +kernel
theorem dX0_add_32 : decode cX0_add 32 = .ok (.iadd, 1) := by decide +kernel
theorem dX0_add_33 : decode cX0_add 33 = .ok (.putfield 15, 3) := by decide +kernel
theorem dX0_add_36 : decode cX0_add 36 = .ok (.return_, 1) := by decide +kernel
theorem dX0_sum_0 : decode cX0_sum 0 = .ok (.iconst 0, 1) := by decide +kernel
theorem dX0_sum_1 : decode cX0_sum 1 = .ok (.istore_n 1, 1) := by decide +kernel
theorem dX0_sum_2 : decode cX0_sum 2 = .ok (.iconst 0, 1) := by decide +kernel
theorem dX0_sum_3 : decode cX0_sum 3 = .ok (.istore_n 2, 1) := by decide +kernel
theorem dX0_sum_4 : decode cX0_sum 4 = .ok (.iload_n 2, 1) := by decide +kernel
theorem dX0_sum_5 : decode cX0_sum 5 = .ok (.aload_n 0, 1) := by decide +kernel
theorem dX0_sum_6 : decode cX0_sum 6 = .ok (.getfield 15, 3) := by decide +kernel
theorem dX0_sum_9 : decode cX0_sum 9 = .ok (.if_icmp .ge 18, 3) := by decide +kernel
theorem dX0_sum_12 : decode cX0_sum 12 = .ok (.iload_n 1, 1) := by decide +kernel
theorem dX0_sum_13 : decode cX0_sum 13 = .ok (.aload_n 0, 1) := by decide +kernel
theorem dX0_sum_14 : decode cX0_sum 14 = .ok (.getfield 9, 3) := by decide +kernel
theorem dX0_sum_17 : decode cX0_sum 17 = .ok (.iload_n 2, 1) := by decide +kernel
theorem dX0_sum_18 : decode cX0_sum 18 = .ok (.iaload, 1) := by decide +kernel
theorem dX0_sum_19 : decode cX0_sum 19 = .ok (.iadd, 1) := by decide +kernel
theorem dX0_sum_20 : decode cX0_sum 20 = .ok (.istore_n 1, 1) := by decide +kernel
theorem dX0_sum_21 : decode cX0_sum 21 = .ok (.iinc 2 1, 3) := by decide +kernel
theorem dX0_sum_24 : decode cX0_sum 24 = .ok (.goto (-20), 3) := by decide +kernel
theorem dX0_sum_27 : decode cX0_sum 27 = .ok (.iload_n 1, 1) := by decide +kernel
theorem dX0_sum_28 : decode cX0_sum 28 = .ok (.ireturn, 1) := by decide +kernel
theorem dX0_squares_0 : decode cX0_squares 0 = .ok (.lconst 0, 1) := by decide +kernel
theorem dX0_squares_1 : decode cX0_squares 1 = .ok (.lstore_n 1, 1) := by decide +kernel
theorem dX0_squares_2 : decode cX0_squares 2 = .ok (.iconst 0, 1) := by decide +kernel
theorem dX0_squares_3 : decode cX0_squares 3 = .ok (.istore_n 3, 1) := by decide +kernel
theorem dX0_squares_4 : decode cX0_squares 4 = .ok (.iload_n 3, 1) := by decide +kernel
theorem dX0_squares_5 : decode cX0_squares 5 = .ok (.aload_n 0, 1) := by decide +kernel
theorem dX0_squares_6 : decode cX0_squares 6 = .ok (.getfield 15, 3) := by decide +kernel
theorem dX0_squares_9 : decode cX0_squares 9 = .ok (.if_icmp .ge 27, 3) := by decide +kernel
theorem dX0_squares_12 : decode cX0_squares 12 = .ok (.lload_n 1, 1) := by decide +kernel
theorem dX0_squares_13 : decode cX0_squares 13 = .ok (.aload_n 0, 1) := by decide +kernel
theorem dX0_squares_14 : decode cX0_squares 14 = .ok (.getfield 9, 3) := by decide +kernel
theorem dX0_squares_17 : decode cX0_squares 17 = .ok (.iload_n 3, 1) := by decide +kernel
theorem dX0_squares_18 : decode cX0_squares 18 = .ok (.iaload, 1) := by decide +kernel
theorem dX0_squares_19 : decode cX0_squares 19 = .ok (.i2l, 1) := by decide +kernel
theorem dX0_squares_20 : decode cX0_squares 20 = .ok (.aload_n 0, 1) := by decide +kernel
theorem dX0_squares_21 : decode cX0_squares 21 = .ok (.getfield 9, 3) := by decide +kernel
theorem dX0_squares_24 : decode cX0_squares 24 = .ok (.iload_n 3, 1) := by decide +kernel
theorem dX0_squares_25 : decode cX0_squares 25 = .ok (.iaload, 1) := by decide +kernel
theorem dX0_squares_26 : decode cX0_squares 26 = .ok (.i2l, 1) := by decide +kernel
theorem dX0_squares_27 : decode cX0_squares 27 = .ok (.lmul, 1) := by decide +kernel
theorem dX0_squares_28 : decode cX0_squares 28 = .ok (.ladd, 1) := by decide +kernel
theorem dX0_squares_29 : decode cX0_squares 29 = .ok (.lstore_n 1, 1) := by decide +kernel
theorem dX0_squares_30 : decode cX0_squares 30 = .ok (.iinc 3 1, 3) := by decide +kernel
theorem dX0_squares_33 : decode cX0_squares 33 = .ok (.goto (-29), 3) := by decide +kernel
theorem dX0_squares_36 : decode cX0_squares 36 = .ok (.lload_n 1, 1) := by decide +kernel
theorem dX0_squares_37 : decode cX0_squares 37 = .ok (.lreturn, 1) := by decide +kernel
theorem dX0_greatest_0 : decode cX0_greatest 0 = .ok (.iconst 0, 1) := by decide +kernel
theorem dX0_greatest_1 : decode cX0_greatest 1 = .ok (.istore_n 1, 1) := by decide +kernel
theorem dX0_greatest_2 : decode cX0_greatest 2 = .ok (.iconst 0, 1) := by decide +kernel
theorem dX0_greatest_3 : decode cX0_greatest 3 = .ok (.istore_n 2, 1) := by decide +kernel
theorem dX0_greatest_4 : decode cX0_greatest 4 = .ok (.iload_n 2, 1) := by decide +kernel
theorem dX0_greatest_5 : decode cX0_greatest 5 = .ok (.aload_n 0, 1) := by decide +kernel
theorem dX0_greatest_6 : decode cX0_greatest 6 = .ok (.getfield 15, 3) := by decide +kernel
theorem dX0_greatest_9 : decode cX0_greatest 9 = .ok (.if_icmp .ge 20, 3) := by decide +kernel
theorem dX0_greatest_12 : decode cX0_greatest 12 = .ok (.iload_n 1, 1) := by decide +kernel
theorem dX0_greatest_13 : decode cX0_greatest 13 = .ok (.aload_n 0, 1) := by decide +kernel
theorem dX0_greatest_14 : decode cX0_greatest 14 = .ok (.getfield 9, 3) := by decide +kernel
theorem dX0_greatest_17 : decode cX0_greatest 17 = .ok (.iload_n 2, 1) := by decide +kernel
theorem dX0_greatest_18 : decode cX0_greatest 18 = .ok (.iaload, 1) := by decide +kernel
theorem dX0_greatest_19 : decode cX0_greatest 19 = .ok (.invokestatic 19, 3) := by decide +kernel
theorem dX0_greatest_22 : decode cX0_greatest 22 = .ok (.istore_n 1, 1) := by decide +kernel
theorem dX0_greatest_23 : decode cX0_greatest 23 = .ok (.iinc 2 1, 3) := by decide +kernel
theorem dX0_greatest_26 : decode cX0_greatest 26 = .ok (.goto (-22), 3) := by decide +kernel
theorem dX0_greatest_29 : decode cX0_greatest 29 = .ok (.iload_n 1, 1) := by decide +kernel
theorem dX0_greatest_30 : decode cX0_greatest 30 = .ok (.ireturn, 1) := by decide +kernel
set_option maxRecDepth 20000 in
theorem ggX0_foldInto_X5_fold : GoodIn wsX0_foldInto wsX5_fold := goodIn_r _ [5, 6] (by decide +kernel) (by decide +kernel)
set_option maxRecDepth 20000 in
theorem gX0_foldInto_X5_fold_n25 : GoodIn wsX0_foldInto (wsX5_fold) := ggX0_foldInto_X5_fold
theorem dX0_foldInto_0 : decode cX0_foldInto 0 = .ok (.lload_n 1, 1) := by decide +kernel
theorem dX0_foldInto_1 : decode cX0_foldInto 1 = .ok (.lstore_n 3, 1) := by decide +kernel
theorem dX0_foldInto_2 : decode cX0_foldInto 2 = .ok (.iconst 0, 1) := by decide +kernel
theorem dX0_foldInto_3 : decode cX0_foldInto 3 = .ok (.istore 5, 2) := by decide +kernel
theorem dX0_foldInto_5 : decode cX0_foldInto 5 = .ok (.iload 5, 2) := by decide +kernel
theorem dX0_foldInto_7 : decode cX0_foldInto 7 = .ok (.aload_n 0, 1) := by decide +kernel
theorem dX0_foldInto_8 : decode cX0_foldInto 8 = .ok (.getfield 15, 3) := by decide +kernel
theorem dX0_foldInto_11 : decode cX0_foldInto 11 = .ok (.if_icmp .ge 22, 3) := by decide +kernel
theorem dX0_foldInto_14 : decode cX0_foldInto 14 = .ok (.lload_n 3, 1) := by decide +kernel
theorem dX0_foldInto_15 : decode cX0_foldInto 15 = .ok (.aload_n 0, 1) := by decide +kernel
theorem dX0_foldInto_16 : decode cX0_foldInto 16 = .ok (.getfield 9, 3) := by decide +kernel
theorem dX0_foldInto_19 : decode cX0_foldInto 19 = .ok (.iload 5, 2) := by decide +kernel
theorem dX0_foldInto_21 : decode cX0_foldInto 21 = .ok (.iaload, 1) := by decide +kernel
theorem dX0_foldInto_22 : decode cX0_foldInto 22 = .ok (.i2l, 1) := by decide +kernel
theorem dX0_foldInto_23 : decode cX0_foldInto 23 = .ok (.invokestatic 25, 3) := by decide +kernel
theorem dX0_foldInto_26 : decode cX0_foldInto 26 = .ok (.lstore_n 3, 1) := by decide +kernel
theorem dX0_foldInto_27 : decode cX0_foldInto 27 = .ok (.iinc 5 1, 3) := by decide +kernel
theorem dX0_foldInto_30 : decode cX0_foldInto 30 = .ok (.goto (-25), 3) := by decide +kernel
theorem dX0_foldInto_33 : decode cX0_foldInto 33 = .ok (.lload_n 3, 1) := by decide +kernel
theorem dX0_foldInto_34 : decode cX0_foldInto 34 = .ok (.lreturn, 1) := by decide +kernel
theorem dX1_init_0 : decode cX1_init 0 = .ok (.aload_n 0, 1) := by decide +kernel
theorem dX1_init_1 : decode cX1_init 1 = .ok (.invokespecial 3, 3) := by decide +kernel
theorem dX1_init_4 : decode cX1_init 4 = .ok (.aload_n 0, 1) := by decide +kernel
theorem dX1_init_5 : decode cX1_init 5 = .ok (.bipush 32, 2) := by decide +kernel
theorem dX1_init_7 : decode cX1_init 7 = .ok (.bipush 6, 2) := by decide +kernel
theorem dX1_init_9 : decode cX1_init 9 = .ok (.multianewarray 9 2, 4) := by decide +kernel
theorem dX1_init_13 : decode cX1_init 13 = .ok (.putfield 11, 3) := by decide +kernel
theorem dX1_init_16 : decode cX1_init 16 = .ok (.aload_n 0, 1) := by decide +kernel
theorem dX1_init_17 : decode cX1_init 17 = .ok (.iconst 5, 1) := by decide +kernel
theorem dX1_init_18 : decode cX1_init 18 = .ok (.newarray .int, 2) := by decide +kernel
theorem dX1_init_20 : decode cX1_init 20 = .ok (.putfield 16, 3) := by decide +kernel
theorem dX1_init_23 : decode cX1_init 23 = .ok (.return_, 1) := by decide +kernel
set_option maxRecDepth 20000 in
theorem ggX1_solve_X1_listLost : GoodIn wsX1_solve wsX1_listLost := goodIn_r _ [8, 3, 9, 10, 11, 50, 51, 52, 53, 54, 55, 56, 57, 58, 59, 60, 61, 62] (by decide +kernel) (by decide +kernel)
set_option maxRecDepth 20000 in
theorem gX1_solve_X1_listLost : GoodIn wsX1_solve (wsV RX1 20 RX1 yX1_listLost wsX1_listLost) := goodIn_app (goodIn_of _ (by decide +kernel)) ggX1_solve_X1_listLost
set_option maxRecDepth 20000 in
theorem ggX1_solve_X1_writeEquations : GoodIn wsX1_solve wsX1_writeEquations := goodIn_r _ [15, 1, 9, 2, 16, 17, 18, 19, 20, 21, 7, 22, 23, 3, 11, 24, 25, 26, 27, 28, 29, 30, 31, 32, 33, 50, 51, 52, 53, 54, 55, 56, 57, 58, 59, 60, 61, 62] (by decide +kernel) (by decide +kernel)
set_option maxRecDepth 20000 in
theorem gX1_solve_X1_writeEquations : GoodIn wsX1_solve (wsV RX1 24 RX1 yX1_writeEquations wsX1_writeEquations) := goodIn_app (goodIn_of _ (by decide +kernel)) ggX1_solve_X1_writeEquations
set_option maxRecDepth 20000 in
theorem ggX1_solve_X1_reduce : GoodIn wsX1_solve wsX1_reduce := goodIn_r _ [37, 3, 2, 38, 39, 40, 7, 41, 1, 42, 43, 44, 45, 46, 47, 48, 49, 50, 51, 52, 53] (by decide +kernel) (by decide +kernel)
set_option maxRecDepth 20000 in
theorem gX1_solve_X1_reduce : GoodIn wsX1_solve (wsV RX1 28 RX1 yX1_reduce wsX1_reduce) := goodIn_app (goodIn_of _ (by decide +kernel)) ggX1_solve_X1_reduce
theorem dX1_solve_0 : decode cX1_solve 0 = .ok (.aload_n 0, 1) := by decide +kernel
theorem dX1_solve_1 : decode cX1_solve 1 = .ok (.aload_n 1, 1) := by decide +kernel
theorem dX1_solve_2 : decode cX1_solve 2 = .ok (.invokevirtual 20, 3) := by decide +kernel
theorem dX1_solve_5 : decode cX1_solve 5 = .ok (.aload_n 0, 1) := by decide +kernel
theorem dX1_solve_6 : decode cX1_solve 6 = .ok (.aload_n 1, 1) := by decide +kernel
theorem dX1_solve_7 : decode cX1_solve 7 = .ok (.iload_n 2, 1) := by decide +kernel
theorem dX1_solve_8 : decode cX1_solve 8 = .ok (.iload_n 3, 1) := by decide +kernel
theorem dX1_solve_9 : decode cX1_solve 9 = .ok (.invokevirtual 24, 3) := by decide +kernel
theorem dX1_solve_12 : decode cX1_solve 12 = .ok (.aload_n 0, 1) := by decide +kernel
theorem dX1_solve_13 : decode cX1_solve 13 = .ok (.invokevirtual 28, 3) := by decide +kernel
theorem dX1_solve_16 : decode cX1_solve 16 = .ok (.istore 4, 2) := by decide +kernel
theorem dX1_solve_18 : decode cX1_solve 18 = .ok (.iload 4, 2) := by decide +kernel
theorem dX1_solve_20 : decode cX1_solve 20 = .ok (.istore 5, 2) := by decide +kernel
theorem dX1_solve_22 : decode cX1_solve 22 = .ok (.iload 5, 2) := by decide +kernel
theorem dX1_solve_24 : decode cX1_solve 24 = .ok (.aload_n 0, 1) := by decide +kernel
theorem dX1_solve_25 : decode cX1_solve 25 = .ok (.getfield 32, 3) := by decide +kernel
theorem dX1_solve_28 : decode cX1_solve 28 = .ok (.if_icmp .ge 28, 3) := by decide +kernel
theorem dX1_solve_31 : decode cX1_solve 31 = .ok (.aload_n 0, 1) := by decide +kernel
theorem dX1_solve_32 : decode cX1_solve 32 = .ok (.getfield 11, 3) := by decide +kernel
theorem dX1_solve_35 : decode cX1_solve 35 = .ok (.iload 5, 2) := by decide +kernel
theorem dX1_solve_37 : decode cX1_solve 37 = .ok (.aaload, 1) := by decide +kernel
theorem dX1_solve_38 : decode cX1_solve 38 = .ok (.aload_n 0, 1) := by decide +kernel
theorem dX1_solve_39 : decode cX1_solve 39 = .ok (.getfield 36, 3) := by decide +kernel
theorem dX1_solve_42 : decode cX1_solve 42 = .ok (.laload, 1) := by decide +kernel
theorem dX1_solve_43 : decode cX1_solve 43 = .ok (.lconst 0, 1) := by decide +kernel
theorem dX1_solve_44 : decode cX1_solve 44 = .ok (.lcmp, 1) := by decide +kernel
theorem dX1_solve_45 : decode cX1_solve 45 = .ok (.ifCond .eq 5, 3) := by decide +kernel
theorem dX1_solve_48 : decode cX1_solve 48 = .ok (.iconst 0, 1) := by decide +kernel
theorem dX1_solve_49 : decode cX1_solve 49 = .ok (.ireturn, 1) := by decide +kernel
theorem dX1_solve_50 : decode cX1_solve 50 = .ok (.iinc 5 1, 3) := by decide +kernel
theorem dX1_solve_53 : decode cX1_solve 53 = .ok (.goto (-31), 3) := by decide +kernel
theorem dX1_solve_56 : decode cX1_solve 56 = .ok (.iload 4, 2) := by decide +kernel
theorem dX1_solve_58 : decode cX1_solve 58 = .ok (.aload_n 0, 1) := by decide +kernel
theorem dX1_solve_59 : decode cX1_solve 59 = .ok (.getfield 36, 3) := by decide +kernel
theorem dX1_solve_62 : decode cX1_solve 62 = .ok (.if_icmp .ne 7, 3) := by decide +kernel
theorem dX1_solve_65 : decode cX1_solve 65 = .ok (.iconst 1, 1) := by decide +kernel
theorem dX1_solve_66 : decode cX1_solve 66 = .ok (.goto 4, 3) := by decide +kernel
theorem dX1_solve_69 : decode cX1_solve 69 = .ok (.iconst 2, 1) := by decide +kernel
theorem dX1_solve_70 : decode cX1_solve 70 = .ok (.ireturn, 1) := by decide +kernel
set_option maxRecDepth 20000 in
theorem ggX1_partOf_X1_above : GoodIn wsX1_partOf wsX1_above := goodIn_r _ [8, 9, 1, 10, 11, 7, 12, 13, 14, 15, 16, 21, 22, 23, 24] (by decide +kernel) (by decide +kernel)
set_option maxRecDepth 20000 in
theorem gX1_partOf_X1_above : GoodIn wsX1_partOf (wsV RX1 39 RX1 yX1_above wsX1_above) := goodIn_app (goodIn_of _ (by decide +kernel)) ggX1_partOf_X1_above
set_option maxRecDepth 20000 in
theorem ggX1_partOf_X1_below : GoodIn wsX1_partOf wsX1_below := goodIn_r _ [20, 9, 1, 13, 14, 15, 16, 10, 11, 7, 12, 21, 22, 23, 24] (by decide +kernel) (by decide +kernel)
set_option maxRecDepth 20000 in
theorem gX1_partOf_X1_below : GoodIn wsX1_partOf (wsV RX1 43 RX1 yX1_below wsX1_below) := goodIn_app (goodIn_of _ (by decide +kernel)) ggX1_partOf_X1_below
theorem dX1_partOf_0 : decode cX1_partOf 0 = .ok (.iconst 0, 1) := by decide +kernel
theorem dX1_partOf_1 : decode cX1_partOf 1 = .ok (.istore_n 3, 1) := by decide +kernel
theorem dX1_partOf_2 : decode cX1_partOf 2 = .ok (.iload_n 3, 1) := by decide +kernel
theorem dX1_partOf_3 : decode cX1_partOf 3 = .ok (.aload_n 0, 1) := by decide +kernel
theorem dX1_partOf_4 : decode cX1_partOf 4 = .ok (.getfield 36, 3) := by decide +kernel
theorem dX1_partOf_7 : decode cX1_partOf 7 = .ok (.if_icmp .ge 37, 3) := by decide +kernel
theorem dX1_partOf_10 : decode cX1_partOf 10 = .ok (.aload_n 0, 1) := by decide +kernel
theorem dX1_partOf_11 : decode cX1_partOf 11 = .ok (.getfield 16, 3) := by decide +kernel
theorem dX1_partOf_14 : decode cX1_partOf 14 = .ok (.iload_n 3, 1) := by decide +kernel
theorem dX1_partOf_15 : decode cX1_partOf 15 = .ok (.iaload, 1) := by decide +kernel
theorem dX1_partOf_16 : decode cX1_partOf 16 = .ok (.iload_n 1, 1) := by decide +kernel
theorem dX1_partOf_17 : decode cX1_partOf 17 = .ok (.if_icmp .ne 21, 3) := by decide +kernel
theorem dX1_partOf_20 : decode cX1_partOf 20 = .ok (.iload_n 2, 1) := by decide +kernel
theorem dX1_partOf_21 : decode cX1_partOf 21 = .ok (.ifCond .ne 11, 3) := by decide +kernel
theorem dX1_partOf_24 : decode cX1_partOf 24 = .ok (.aload_n 0, 1) := by decide +kernel
theorem dX1_partOf_25 : decode cX1_partOf 25 = .ok (.iload_n 3, 1) := by decide +kernel
theorem dX1_partOf_26 : decode cX1_partOf 26 = .ok (.invokevirtual 39, 3) := by decide +kernel
theorem dX1_partOf_29 : decode cX1_partOf 29 = .ok (.goto 8, 3) := by decide +kernel
theorem dX1_partOf_32 : decode cX1_partOf 32 = .ok (.aload_n 0, 1) := by decide +kernel
theorem dX1_partOf_33 : decode cX1_partOf 33 = .ok (.iload_n 3, 1) := by decide +kernel
theorem dX1_partOf_34 : decode cX1_partOf 34 = .ok (.invokevirtual 43, 3) := by decide +kernel
theorem dX1_partOf_37 : decode cX1_partOf 37 = .ok (.lreturn, 1) := by decide +kernel
theorem dX1_partOf_38 : decode cX1_partOf 38 = .ok (.iinc 3 1, 3) := by decide +kernel
theorem dX1_partOf_41 : decode cX1_partOf 41 = .ok (.goto (-39), 3) := by decide +kernel
theorem dX1_partOf_44 : decode cX1_partOf 44 = .ok (.ldc2_w 46, 3) := by decide +kernel
theorem dX1_partOf_47 : decode cX1_partOf 47 = .ok (.lreturn, 1) := by decide +kernel
theorem dX1_listLost_0 : decode cX1_listLost 0 = .ok (.aload_n 0, 1) := by decide +kernel
theorem dX1_listLost_1 : decode cX1_listLost 1 = .ok (.iconst 0, 1) := by decide +kernel
theorem dX1_listLost_2 : decode cX1_listLost 2 = .ok (.putfield 36, 3) := by decide +kernel
theorem dX1_listLost_5 : decode cX1_listLost 5 = .ok (.iconst 0, 1) := by decide +kernel
theorem dX1_listLost_6 : decode cX1_listLost 6 = .ok (.istore_n 2, 1) := by decide +kernel
theorem dX1_listLost_7 : decode cX1_listLost 7 = .ok (.iload_n 2, 1) := by decide +kernel
theorem dX1_listLost_8 : decode cX1_listLost 8 = .ok (.aload_n 1, 1) := by decide +kernel
theorem dX1_listLost_9 : decode cX1_listLost 9 = .ok (.getfield 48, 3) := by decide +kernel
theorem dX1_listLost_12 : decode cX1_listLost 12 = .ok (.if_icmp .ge 46, 3) := by decide +kernel
theorem dX1_listLost_15 : decode cX1_listLost 15 = .ok (.aload_n 0, 1) := by decide +kernel
theorem dX1_listLost_16 : decode cX1_listLost 16 = .ok (.getfield 36, 3) := by decide +kernel
theorem dX1_listLost_19 : decode cX1_listLost 19 = .ok (.iconst 5, 1) := by decide +kernel
theorem dX1_listLost_20 : decode cX1_listLost 20 = .ok (.if_icmp .ge 38, 3) := by decide +kernel
theorem dX1_listLost_23 : decode cX1_listLost 23 = .ok (.aload_n 1, 1) := by decide +kernel
theorem dX1_listLost_24 : decode cX1_listLost 24 = .ok (.getfield 53, 3) := by decide +kernel
theorem dX1_listLost_27 : decode cX1_listLost 27 = .ok (.iload_n 2, 1) := by decide +kernel
theorem dX1_listLost_28 : decode cX1_listLost 28 = .ok (.baload, 1) := by decide +kernel
theorem dX1_listLost_29 : decode cX1_listLost 29 = .ok (.ifCond .eq 23, 3) := by decide +kernel
theorem dX1_listLost_32 : decode cX1_listLost 32 = .ok (.aload_n 0, 1) := by decide +kernel
theorem dX1_listLost_33 : decode cX1_listLost 33 = .ok (.getfield 16, 3) := by decide +kernel
theorem dX1_listLost_36 : decode cX1_listLost 36 = .ok (.aload_n 0, 1) := by decide +kernel
theorem dX1_listLost_37 : decode cX1_listLost 37 = .ok (.getfield 36, 3) := by decide +kernel
theorem dX1_listLost_40 : decode cX1_listLost 40 = .ok (.iload_n 2, 1) := by decide +kernel
theorem dX1_listLost_41 : decode cX1_listLost 41 = .ok (.iastore, 1) := by decide +kernel
theorem dX1_listLost_42 : decode cX1_listLost 42 = .ok (.aload_n 0, 1) := by decide +kernel
theorem dX1_listLost_43 : decode cX1_listLost 43 = .ok (.dup, 1) := by decide +kernel
theorem dX1_listLost_44 : decode cX1_listLost 44 = .ok (.getfield 36, 3) := by decide +kernel
theorem dX1_listLost_47 : decode cX1_listLost 47 = .ok (.iconst 1, 1) := by decide +kernel
theorem dX1_listLost_48 : decode cX1_listLost 48 = .ok (.iadd, 1) := by decide +kernel
theorem dX1_listLost_49 : decode cX1_listLost 49 = .ok (.putfield 36, 3) := by decide +kernel
theorem dX1_listLost_52 : decode cX1_listLost 52 = .ok (.iinc 2 1, 3) := by decide +kernel
theorem dX1_listLost_55 : decode cX1_listLost 55 = .ok (.goto (-48), 3) := by decide +kernel
theorem dX1_listLost_58 : decode cX1_listLost 58 = .ok (.return_, 1) := by decide +kernel
set_option maxRecDepth 20000 in
theorem ggX1_writeEquations_X5_passes : GoodIn wsX1_writeEquations wsX5_passes := goodIn_r _ [6] (by decide +kernel) (by decide +kernel)
set_option maxRecDepth 20000 in
theorem gX1_writeEquations_X5_passes_n57 : GoodIn wsX1_writeEquations (wsX5_passes) := ggX1_writeEquations_X5_passes
set_option maxRecDepth 20000 in
theorem ggX1_writeEquations_X1_writeEquation : GoodIn wsX1_writeEquations wsX1_writeEquation := goodIn_r _ [11, 12, 13, 14, 15, 16, 5, 17, 18, 19, 20, 21, 22, 23, 24, 29, 30, 31, 32, 33, 34, 35, 36, 37, 25, 26, 27, 28] (by decide +kernel) (by decide +kernel)
set_option maxRecDepth 20000 in
theorem gX1_writeEquations_X1_writeEquation : GoodIn wsX1_writeEquations (wsV RX1 61 RX1 yX1_writeEquation wsX1_writeEquation) := goodIn_app (goodIn_of _ (by decide +kernel)) ggX1_writeEquations_X1_writeEquation
theorem dX1_writeEquations_0 : decode cX1_writeEquations 0 = .ok (.aload_n 0, 1) := by decide +kernel
theorem dX1_writeEquations_1 : decode cX1_writeEquations 1 = .ok (.iconst 0, 1) := by decide +kernel
theorem dX1_writeEquations_2 : decode cX1_writeEquations 2 = .ok (.putfield 32, 3) := by decide +kernel
theorem dX1_writeEquations_5 : decode cX1_writeEquations 5 = .ok (.iconst 0, 1) := by decide +kernel
theorem dX1_writeEquations_6 : decode cX1_writeEquations 6 = .ok (.istore 4, 2) := by decide +kernel
theorem dX1_writeEquations_8 : decode cX1_writeEquations 8 = .ok (.iload 4, 2) := by decide +kernel
theorem dX1_writeEquations_10 : decode cX1_writeEquations 10 = .ok (.aload_n 1, 1) := by decide +kernel
theorem dX1_writeEquations_11 : decode cX1_writeEquations 11 = .ok (.getfield 48, 3) := by decide +kernel
theorem dX1_writeEquations_14 : decode cX1_writeEquations 14 = .ok (.if_icmp .ge 45, 3) := by decide +kernel
theorem dX1_writeEquations_17 : decode cX1_writeEquations 17 = .ok (.iload 4, 2) := by decide +kernel
theorem dX1_writeEquations_19 : decode cX1_writeEquations 19 = .ok (.iload_n 2, 1) := by decide +kernel
theorem dX1_writeEquations_20 : decode cX1_writeEquations 20 = .ok (.iload_n 3, 1) := by decide +kernel
theorem dX1_writeEquations_21 : decode cX1_writeEquations 21 = .ok (.invokestatic 57, 3) := by decide +kernel
theorem dX1_writeEquations_24 : decode cX1_writeEquations 24 = .ok (.ifCond .ne 29, 3) := by decide +kernel
theorem dX1_writeEquations_27 : decode cX1_writeEquations 27 = .ok (.aload_n 0, 1) := by decide +kernel
theorem dX1_writeEquations_28 : decode cX1_writeEquations 28 = .ok (.aload_n 0, 1) := by decide +kernel
theorem dX1_writeEquations_29 : decode cX1_writeEquations 29 = .ok (.getfield 11, 3) := by decide +kernel
theorem dX1_writeEquations_32 : decode cX1_writeEquations 32 = .ok (.aload_n 0, 1) := by decide +kernel
theorem dX1_writeEquations_33 : decode cX1_writeEquations 33 = .ok (.getfield 32, 3) := by decide +kernel
theorem dX1_writeEquations_36 : decode cX1_writeEquations 36 = .ok (.aaload, 1) := by decide +kernel
theorem dX1_writeEquations_37 : decode cX1_writeEquations 37 = .ok (.aload_n 1, 1) := by decide +kernel
theorem dX1_writeEquations_38 : decode cX1_writeEquations 38 = .ok (.iload 4, 2) := by decide +kernel
theorem dX1_writeEquations_40 : decode cX1_writeEquations 40 = .ok (.invokevirtual 61, 3) := by decide +kernel
theorem dX1_writeEquations_43 : decode cX1_writeEquations 43 = .ok (.aload_n 0, 1) := by decide +kernel
theorem dX1_writeEquations_44 : decode cX1_writeEquations 44 = .ok (.dup, 1) := by decide +kernel
theorem dX1_writeEquations_45 : decode cX1_writeEquations 45 = .ok (.getfield 32, 3) := by decide +kernel
theorem dX1_writeEquations_48 : decode cX1_writeEquations 48 = .ok (.iconst 1, 1) := by decide +kernel
theorem dX1_writeEquations_49 : decode cX1_writeEquations 49 = .ok (.iadd, 1) := by decide +kernel
theorem dX1_writeEquations_50 : decode cX1_writeEquations 50 = .ok (.putfield 32, 3) := by decide +kernel
theorem dX1_writeEquations_53 : decode cX1_writeEquations 53 = .ok (.iinc 4 1, 3) := by decide +kernel
theorem dX1_writeEquations_56 : decode cX1_writeEquations 56 = .ok (.goto (-48), 3) := by decide +kernel
theorem dX1_writeEquations_59 : decode cX1_writeEquations 59 = .ok (.return_, 1) := by decide +kernel
set_option maxRecDepth 20000 in
theorem ggX1_writeEquation_X5_signOf : GoodIn wsX1_writeEquation wsX5_signOf := goodIn_r _ [7, 8, 9, 10, 11, 12, 13, 14] (by decide +kernel) (by decide +kernel)
set_option maxRecDepth 20000 in
theorem gX1_writeEquation_X5_signOf_n68 : GoodIn wsX1_writeEquation (wsX5_signOf) := ggX1_writeEquation_X5_signOf
theorem dX1_writeEquation_0 : decode cX1_writeEquation 0 = .ok (.aload_n 2, 1) := by decide +kernel
theorem dX1_writeEquation_1 : decode cX1_writeEquation 1 = .ok (.getfield 65, 3) := by decide +kernel
theorem dX1_writeEquation_4 : decode cX1_writeEquation 4 = .ok (.iload_n 3, 1) := by decide +kernel
theorem dX1_writeEquation_5 : decode cX1_writeEquation 5 = .ok (.iaload, 1) := by decide +kernel
theorem dX1_writeEquation_6 : decode cX1_writeEquation 6 = .ok (.i2l, 1) := by decide +kernel
theorem dX1_writeEquation_7 : decode cX1_writeEquation 7 = .ok (.lstore 4, 2) := by decide +kernel
theorem dX1_writeEquation_9 : decode cX1_writeEquation 9 = .ok (.iconst 0, 1) := by decide +kernel
theorem dX1_writeEquation_10 : decode cX1_writeEquation 10 = .ok (.istore 6, 2) := by decide +kernel
theorem dX1_writeEquation_12 : decode cX1_writeEquation 12 = .ok (.iload 6, 2) := by decide +kernel
theorem dX1_writeEquation_14 : decode cX1_writeEquation 14 = .ok (.aload_n 0, 1) := by decide +kernel
theorem dX1_writeEquation_15 : decode cX1_writeEquation 15 = .ok (.getfield 36, 3) := by decide +kernel
theorem dX1_writeEquation_18 : decode cX1_writeEquation 18 = .ok (.if_icmp .ge 51, 3) := by decide +kernel
theorem dX1_writeEquation_21 : decode cX1_writeEquation 21 = .ok (.aload_n 0, 1) := by decide +kernel
theorem dX1_writeEquation_22 : decode cX1_writeEquation 22 = .ok (.getfield 16, 3) := by decide +kernel
theorem dX1_writeEquation_25 : decode cX1_writeEquation 25 = .ok (.iload 6, 2) := by decide +kernel
theorem dX1_writeEquation_27 : decode cX1_writeEquation 27 = .ok (.iaload, 1) := by decide +kernel
theorem dX1_writeEquation_28 : decode cX1_writeEquation 28 = .ok (.iload_n 3, 1) := by decide +kernel
theorem dX1_writeEquation_29 : decode cX1_writeEquation 29 = .ok (.invokestatic 68, 3) := by decide +kernel
theorem dX1_writeEquation_32 : decode cX1_writeEquation 32 = .ok (.istore 7, 2) := by decide +kernel
theorem dX1_writeEquation_34 : decode cX1_writeEquation 34 = .ok (.aload_n 1, 1) := by decide +kernel
theorem dX1_writeEquation_35 : decode cX1_writeEquation 35 = .ok (.iload 6, 2) := by decide +kernel
theorem dX1_writeEquation_37 : decode cX1_writeEquation 37 = .ok (.iload 7, 2) := by decide +kernel
theorem dX1_writeEquation_39 : decode cX1_writeEquation 39 = .ok (.i2l, 1) := by decide +kernel
theorem dX1_writeEquation_40 : decode cX1_writeEquation 40 = .ok (.lastore, 1) := by decide +kernel
theorem dX1_writeEquation_41 : decode cX1_writeEquation 41 = .ok (.lload 4, 2) := by decide +kernel
theorem dX1_writeEquation_43 : decode cX1_writeEquation 43 = .ok (.aload_n 2, 1) := by decide +kernel
theorem dX1_writeEquation_44 : decode cX1_writeEquation 44 = .ok (.getfield 72, 3) := by decide +kernel
theorem dX1_writeEquation_47 : decode cX1_writeEquation 47 = .ok (.aload_n 0, 1) := by decide +kernel
theorem dX1_writeEquation_48 : decode cX1_writeEquation 48 = .ok (.getfield 16, 3) := by decide +kernel
theorem dX1_writeEquation_51 : decode cX1_writeEquation 51 = .ok (.iload 6, 2) := by decide +kernel
theorem dX1_writeEquation_53 : decode cX1_writeEquation 53 = .ok (.iaload, 1) := by decide +kernel
theorem dX1_writeEquation_54 : decode cX1_writeEquation 54 = .ok (.iaload, 1) := by decide +kernel
theorem dX1_writeEquation_55 : decode cX1_writeEquation 55 = .ok (.i2l, 1) := by decide +kernel
theorem dX1_writeEquation_56 : decode cX1_writeEquation 56 = .ok (.iload 7, 2) := by decide +kernel
theorem dX1_writeEquation_58 : decode cX1_writeEquation 58 = .ok (.i2l, 1) := by decide +kernel
theorem dX1_writeEquation_59 : decode cX1_writeEquation 59 = .ok (.lmul, 1) := by decide +kernel
theorem dX1_writeEquation_60 : decode cX1_writeEquation 60 = .ok (.lsub, 1) := by decide +kernel
theorem dX1_writeEquation_61 : decode cX1_writeEquation 61 = .ok (.lstore 4, 2) := by decide +kernel
theorem dX1_writeEquation_63 : decode cX1_writeEquation 63 = .ok (.iinc 6 1, 3) := by decide +kernel
theorem dX1_writeEquation_66 : decode cX1_writeEquation 66 = .ok (.goto (-54), 3) := by decide +kernel
theorem dX1_writeEquation_69 : decode cX1_writeEquation 69 = .ok (.aload_n 1, 1) := by decide +kernel
theorem dX1_writeEquation_70 : decode cX1_writeEquation 70 = .ok (.aload_n 0, 1) := by decide +kernel
theorem dX1_writeEquation_71 : decode cX1_writeEquation 71 = .ok (.getfield 36, 3) := by decide +kernel
theorem dX1_writeEquation_74 : decode cX1_writeEquation 74 = .ok (.lload 4, 2) := by decide +kernel
theorem dX1_writeEquation_76 : decode cX1_writeEquation 76 = .ok (.lneg, 1) := by decide +kernel
theorem dX1_writeEquation_77 : decode cX1_writeEquation 77 = .ok (.lastore, 1) := by decide +kernel
theorem dX1_writeEquation_78 : decode cX1_writeEquation 78 = .ok (.return_, 1) := by decide +kernel
set_option maxRecDepth 20000 in
theorem ggX1_reduce_X1_findPivot : GoodIn wsX1_reduce wsX1_findPivot := goodIn_r _ [7, 8, 2, 17, 18, 19, 20] (by decide +kernel) (by decide +kernel)
set_option maxRecDepth 20000 in
theorem gX1_reduce_X1_findPivot : GoodIn wsX1_reduce (wsV RX1 75 RX1 yX1_findPivot wsX1_findPivot) := goodIn_app (goodIn_of _ (by decide +kernel)) ggX1_reduce_X1_findPivot
set_option maxRecDepth 20000 in
theorem ggX1_reduce_X1_swapRows : GoodIn wsX1_reduce wsX1_swapRows := goodIn_r _ [12, 1, 2, 17, 18, 19, 20] (by decide +kernel) (by decide +kernel)
set_option maxRecDepth 20000 in
theorem gX1_reduce_X1_swapRows : GoodIn wsX1_reduce (wsV RX1 78 RX1 yX1_swapRows wsX1_swapRows) := goodIn_app (goodIn_of _ (by decide +kernel)) ggX1_reduce_X1_swapRows
set_option maxRecDepth 20000 in
theorem ggX1_reduce_X1_clearColumn : GoodIn wsX1_reduce wsX1_clearColumn := goodIn_r _ [16, 2, 8, 1, 17, 18, 19, 20] (by decide +kernel) (by decide +kernel)
set_option maxRecDepth 20000 in
theorem gX1_reduce_X1_clearColumn : GoodIn wsX1_reduce (wsV RX1 82 RX1 yX1_clearColumn wsX1_clearColumn) := goodIn_app (goodIn_of _ (by decide +kernel)) ggX1_reduce_X1_clearColumn
theorem dX1_reduce_0 : decode cX1_reduce 0 = .ok (.iconst 0, 1) := by decide +kernel
theorem dX1_reduce_1 : decode cX1_reduce 1 = .ok (.istore_n 1, 1) := by decide +kernel
theorem dX1_reduce_2 : decode cX1_reduce 2 = .ok (.lconst 1, 1) := by decide +kernel
theorem dX1_reduce_3 : decode cX1_reduce 3 = .ok (.lstore_n 2, 1) := by decide +kernel
theorem dX1_reduce_4 : decode cX1_reduce 4 = .ok (.iconst 0, 1) := by decide +kernel
theorem dX1_reduce_5 : decode cX1_reduce 5 = .ok (.istore 4, 2) := by decide +kernel
theorem dX1_reduce_7 : decode cX1_reduce 7 = .ok (.iload 4, 2) := by decide +kernel
theorem dX1_reduce_9 : decode cX1_reduce 9 = .ok (.aload_n 0, 1) := by decide +kernel
theorem dX1_reduce_10 : decode cX1_reduce 10 = .ok (.getfield 36, 3) := by decide +kernel
theorem dX1_reduce_13 : decode cX1_reduce 13 = .ok (.if_icmp .ge 52, 3) := by decide +kernel
theorem dX1_reduce_16 : decode cX1_reduce 16 = .ok (.aload_n 0, 1) := by decide +kernel
theorem dX1_reduce_17 : decode cX1_reduce 17 = .ok (.iload_n 1, 1) := by decide +kernel
theorem dX1_reduce_18 : decode cX1_reduce 18 = .ok (.iload 4, 2) := by decide +kernel
theorem dX1_reduce_20 : decode cX1_reduce 20 = .ok (.invokevirtual 75, 3) := by decide +kernel
theorem dX1_reduce_23 : decode cX1_reduce 23 = .ok (.istore 5, 2) := by decide +kernel
theorem dX1_reduce_25 : decode cX1_reduce 25 = .ok (.iload 5, 2) := by decide +kernel
theorem dX1_reduce_27 : decode cX1_reduce 27 = .ok (.iconst (-1), 1) := by decide +kernel
theorem dX1_reduce_28 : decode cX1_reduce 28 = .ok (.if_icmp .eq 31, 3) := by decide +kernel
theorem dX1_reduce_31 : decode cX1_reduce 31 = .ok (.aload_n 0, 1) := by decide +kernel
theorem dX1_reduce_32 : decode cX1_reduce 32 = .ok (.iload_n 1, 1) := by decide +kernel
theorem dX1_reduce_33 : decode cX1_reduce 33 = .ok (.iload 5, 2) := by decide +kernel
theorem dX1_reduce_35 : decode cX1_reduce 35 = .ok (.invokevirtual 78, 3) := by decide +kernel
theorem dX1_reduce_38 : decode cX1_reduce 38 = .ok (.aload_n 0, 1) := by decide +kernel
theorem dX1_reduce_39 : decode cX1_reduce 39 = .ok (.iload_n 1, 1) := by decide +kernel
theorem dX1_reduce_40 : decode cX1_reduce 40 = .ok (.iload 4, 2) := by decide +kernel
theorem dX1_reduce_42 : decode cX1_reduce 42 = .ok (.lload_n 2, 1) := by decide +kernel
theorem dX1_reduce_43 : decode cX1_reduce 43 = .ok (.invokevirtual 82, 3) := by decide +kernel
theorem dX1_reduce_46 : decode cX1_reduce 46 = .ok (.aload_n 0, 1) := by decide +kernel
theorem dX1_reduce_47 : decode cX1_reduce 47 = .ok (.getfield 11, 3) := by decide +kernel
theorem dX1_reduce_50 : decode cX1_reduce 50 = .ok (.iload_n 1, 1) := by decide +kernel
theorem dX1_reduce_51 : decode cX1_reduce 51 = .ok (.aaload, 1) := by decide +kernel
theorem dX1_reduce_52 : decode cX1_reduce 52 = .ok (.iload 4, 2) := by decide +kernel
theorem dX1_reduce_54 : decode cX1_reduce 54 = .ok (.laload, 1) := by decide +kernel
theorem dX1_reduce_55 : decode cX1_reduce 55 = .ok (.lstore_n 2, 1) := by decide +kernel
theorem dX1_reduce_56 : decode cX1_reduce 56 = .ok (.iinc 1 1, 3) := by decide +kernel
theorem dX1_reduce_59 : decode cX1_reduce 59 = .ok (.iinc 4 1, 3) := by decide +kernel
theorem dX1_reduce_62 : decode cX1_reduce 62 = .ok (.goto (-55), 3) := by decide +kernel
theorem dX1_reduce_65 : decode cX1_reduce 65 = .ok (.iload_n 1, 1) := by decide +kernel
theorem dX1_reduce_66 : decode cX1_reduce 66 = .ok (.ireturn, 1) := by decide +kernel
theorem dX1_findPivot_0 : decode cX1_findPivot 0 = .ok (.iload_n 1, 1) := by decide +kernel
theorem dX1_findPivot_1 : decode cX1_findPivot 1 = .ok (.istore_n 3, 1) := by decide +kernel
theorem dX1_findPivot_2 : decode cX1_findPivot 2 = .ok (.iload_n 3, 1) := by decide +kernel
theorem dX1_findPivot_3 : decode cX1_findPivot 3 = .ok (.aload_n 0, 1) := by decide +kernel
theorem dX1_findPivot_4 : decode cX1_findPivot 4 = .ok (.getfield 32, 3) := by decide +kernel
theorem dX1_findPivot_7 : decode cX1_findPivot 7 = .ok (.if_icmp .ge 24, 3) := by decide +kernel
theorem dX1_findPivot_10 : decode cX1_findPivot 10 = .ok (.aload_n 0, 1) := by decide +kernel
theorem dX1_findPivot_11 : decode cX1_findPivot 11 = .ok (.getfield 11, 3) := by decide +kernel
theorem dX1_findPivot_14 : decode cX1_findPivot 14 = .ok (.iload_n 3, 1) := by decide +kernel
theorem dX1_findPivot_15 : decode cX1_findPivot 15 = .ok (.aaload, 1) := by decide +kernel
theorem dX1_findPivot_16 : decode cX1_findPivot 16 = .ok (.iload_n 2, 1) := by decide +kernel
theorem dX1_findPivot_17 : decode cX1_findPivot 17 = .ok (.laload, 1) := by decide +kernel
theorem dX1_findPivot_18 : decode cX1_findPivot 18 = .ok (.lconst 0, 1) := by decide +kernel
theorem dX1_findPivot_19 : decode cX1_findPivot 19 = .ok (.lcmp, 1) := by decide +kernel
theorem dX1_findPivot_20 : decode cX1_findPivot 20 = .ok (.ifCond .eq 5, 3) := by decide +kernel
theorem dX1_findPivot_23 : decode cX1_findPivot 23 = .ok (.iload_n 3, 1) := by decide +kernel
theorem dX1_findPivot_24 : decode cX1_findPivot 24 = .ok (.ireturn, 1) := by decide +kernel
theorem dX1_findPivot_25 : decode cX1_findPivot 25 = .ok (.iinc 3 1, 3) := by decide +kernel
theorem dX1_findPivot_28 : decode cX1_findPivot 28 = .ok (.goto (-26), 3) := by decide +kernel
theorem dX1_findPivot_31 : decode cX1_findPivot 31 = .ok (.iconst (-1), 1) := by decide +kernel
theorem dX1_findPivot_32 : decode cX1_findPivot 32 = .ok (.ireturn, 1) := by decide +kernel
theorem dX1_swapRows_0 : decode cX1_swapRows 0 = .ok (.iconst 0, 1) := by decide +kernel
theorem dX1_swapRows_1 : decode cX1_swapRows 1 = .ok (.istore_n 3, 1) := by decide +kernel
theorem dX1_swapRows_2 : decode cX1_swapRows 2 = .ok (.iload_n 3, 1) := by decide +kernel
theorem dX1_swapRows_3 : decode cX1_swapRows 3 = .ok (.aload_n 0, 1) := by decide +kernel
theorem dX1_swapRows_4 : decode cX1_swapRows 4 = .ok (.getfield 36, 3) := by decide +kernel
theorem dX1_swapRows_7 : decode cX1_swapRows 7 = .ok (.if_icmp .gt 45, 3) := by decide +kernel
theorem dX1_swapRows_10 : decode cX1_swapRows 10 = .ok (.aload_n 0, 1) := by decide +kernel
theorem dX1_swapRows_11 : decode cX1_swapRows 11 = .ok (.getfield 11, 3) := by decide +kernel
theorem dX1_swapRows_14 : decode cX1_swapRows 14 = .ok (.iload_n 1, 1) := by decide +kernel
theorem dX1_swapRows_15 : decode cX1_swapRows 15 = .ok (.aaload, 1) := by decide +kernel
theorem dX1_swapRows_16 : decode cX1_swapRows 16 = .ok (.iload_n 3, 1) := by decide +kernel
theorem dX1_swapRows_17 : decode cX1_swapRows 17 = .ok (.laload, 1) := by decide +kernel
theorem dX1_swapRows_18 : decode cX1_swapRows 18 = .ok (.lstore 4, 2) := by decide +kernel
theorem dX1_swapRows_20 : decode cX1_swapRows 20 = .ok (.aload_n 0, 1) := by decide +kernel
theorem dX1_swapRows_21 : decode cX1_swapRows 21 = .ok (.getfield 11, 3) := by decide +kernel
theorem dX1_swapRows_24 : decode cX1_swapRows 24 = .ok (.iload_n 1, 1) := by decide +kernel
theorem dX1_swapRows_25 : decode cX1_swapRows 25 = .ok (.aaload, 1) := by decide +kernel
theorem dX1_swapRows_26 : decode cX1_swapRows 26 = .ok (.iload_n 3, 1) := by decide +kernel
theorem dX1_swapRows_27 : decode cX1_swapRows 27 = .ok (.aload_n 0, 1) := by decide +kernel
theorem dX1_swapRows_28 : decode cX1_swapRows 28 = .ok (.getfield 11, 3) := by decide +kernel
theorem dX1_swapRows_31 : decode cX1_swapRows 31 = .ok (.iload_n 2, 1) := by decide +kernel
theorem dX1_swapRows_32 : decode cX1_swapRows 32 = .ok (.aaload, 1) := by decide +kernel
theorem dX1_swapRows_33 : decode cX1_swapRows 33 = .ok (.iload_n 3, 1) := by decide +kernel
theorem dX1_swapRows_34 : decode cX1_swapRows 34 = .ok (.laload, 1) := by decide +kernel
theorem dX1_swapRows_35 : decode cX1_swapRows 35 = .ok (.lastore, 1) := by decide +kernel
theorem dX1_swapRows_36 : decode cX1_swapRows 36 = .ok (.aload_n 0, 1) := by decide +kernel
theorem dX1_swapRows_37 : decode cX1_swapRows 37 = .ok (.getfield 11, 3) := by decide +kernel
theorem dX1_swapRows_40 : decode cX1_swapRows 40 = .ok (.iload_n 2, 1) := by decide +kernel
theorem dX1_swapRows_41 : decode cX1_swapRows 41 = .ok (.aaload, 1) := by decide +kernel
theorem dX1_swapRows_42 : decode cX1_swapRows 42 = .ok (.iload_n 3, 1) := by decide +kernel
theorem dX1_swapRows_43 : decode cX1_swapRows 43 = .ok (.lload 4, 2) := by decide +kernel
theorem dX1_swapRows_45 : decode cX1_swapRows 45 = .ok (.lastore, 1) := by decide +kernel
theorem dX1_swapRows_46 : decode cX1_swapRows 46 = .ok (.iinc 3 1, 3) := by decide +kernel
theorem dX1_swapRows_49 : decode cX1_swapRows 49 = .ok (.goto (-47), 3) := by decide +kernel
theorem dX1_swapRows_52 : decode cX1_swapRows 52 = .ok (.return_, 1) := by decide +kernel
theorem dX1_clearColumn_0 : decode cX1_clearColumn 0 = .ok (.aload_n 0, 1) := by decide +kernel
theorem dX1_clearColumn_1 : decode cX1_clearColumn 1 = .ok (.getfield 11, 3) := by decide +kernel
theorem dX1_clearColumn_4 : decode cX1_clearColumn 4 = .ok (.iload_n 1, 1) := by decide +kernel
theorem dX1_clearColumn_5 : decode cX1_clearColumn 5 = .ok (.aaload, 1) := by decide +kernel
theorem dX1_clearColumn_6 : decode cX1_clearColumn 6 = .ok (.iload_n 2, 1) := by decide +kernel
theorem dX1_clearColumn_7 : decode cX1_clearColumn 7 = .ok (.laload, 1) := by decide +kernel
theorem dX1_clearColumn_8 : decode cX1_clearColumn 8 = .ok (.lstore 5, 2) := by decide +kernel
theorem dX1_clearColumn_10 : decode cX1_clearColumn 10 = .ok (.iconst 0, 1) := by decide +kernel
theorem dX1_clearColumn_11 : decode cX1_clearColumn 11 = .ok (.istore 7, 2) := by decide +kernel
theorem dX1_clearColumn_13 : decode cX1_clearColumn 13 = .ok (.iload 7, 2) := by decide +kernel
theorem dX1_clearColumn_15 : decode cX1_clearColumn 15 = .ok (.aload_n 0, 1) := by decide +kernel
theorem dX1_clearColumn_16 : decode cX1_clearColumn 16 = .ok (.getfield 32, 3) := by decide +kernel
theorem dX1_clearColumn_19 : decode cX1_clearColumn 19 = .ok (.if_icmp .ge 97, 3) := by decide +kernel
theorem dX1_clearColumn_22 : decode cX1_clearColumn 22 = .ok (.iload 7, 2) := by decide +kernel
theorem dX1_clearColumn_24 : decode cX1_clearColumn 24 = .ok (.iload_n 1, 1) := by decide +kernel
theorem dX1_clearColumn_25 : decode cX1_clearColumn 25 = .ok (.if_icmp .eq 85, 3) := by decide +kernel
theorem dX1_clearColumn_28 : decode cX1_clearColumn 28 = .ok (.aload_n 0, 1) := by decide +kernel
theorem dX1_clearColumn_29 : decode cX1_clearColumn 29 = .ok (.getfield 11, 3) := by decide +kernel
theorem dX1_clearColumn_32 : decode cX1_clearColumn 32 = .ok (.iload 7, 2) := by decide +kernel
theorem dX1_clearColumn_34 : decode cX1_clearColumn 34 = .ok (.aaload, 1) := by decide +kernel
theorem dX1_clearColumn_35 : decode cX1_clearColumn 35 = .ok (.iload_n 2, 1) := by decide +kernel
theorem dX1_clearColumn_36 : decode cX1_clearColumn 36 = .ok (.laload, 1) := by decide +kernel
theorem dX1_clearColumn_37 : decode cX1_clearColumn 37 = .ok (.lstore 8, 2) := by decide +kernel
theorem dX1_clearColumn_39 : decode cX1_clearColumn 39 = .ok (.iconst 0, 1) := by decide +kernel
theorem dX1_clearColumn_40 : decode cX1_clearColumn 40 = .ok (.istore 10, 2) := by decide +kernel
theorem dX1_clearColumn_42 : decode cX1_clearColumn 42 = .ok (.iload 10, 2) := by decide +kernel
theorem dX1_clearColumn_44 : decode cX1_clearColumn 44 = .ok (.aload_n 0, 1) := by decide +kernel
theorem dX1_clearColumn_45 : decode cX1_clearColumn 45 = .ok (.getfield 36, 3) := by decide +kernel
theorem dX1_clearColumn_48 : decode cX1_clearColumn 48 = .ok (.if_icmp .gt 62, 3) := by decide +kernel
theorem dX1_clearColumn_51 : decode cX1_clearColumn 51 = .ok (.lload 5, 2) := by decide +kernel
theorem dX1_clearColumn_53 : decode cX1_clearColumn 53 = .ok (.aload_n 0, 1) := by decide +kernel
theorem dX1_clearColumn_54 : decode cX1_clearColumn 54 = .ok (.getfield 11, 3) := by decide +kernel
theorem dX1_clearColumn_57 : decode cX1_clearColumn 57 = .ok (.iload 7, 2) := by decide +kernel
theorem dX1_clearColumn_59 : decode cX1_clearColumn 59 = .ok (.aaload, 1) := by decide +kernel
theorem dX1_clearColumn_60 : decode cX1_clearColumn 60 = .ok (.iload 10, 2) := by decide +kernel
theorem dX1_clearColumn_62 : decode cX1_clearColumn 62 = .ok (.laload, 1) := by decide +kernel
theorem dX1_clearColumn_63 : decode cX1_clearColumn 63 = .ok (.lmul, 1) := by decide +kernel
theorem dX1_clearColumn_64 : decode cX1_clearColumn 64 = .ok (.lload 8, 2) := by decide +kernel
theorem dX1_clearColumn_66 : decode cX1_clearColumn 66 = .ok (.aload_n 0, 1) := by decide +kernel
theorem dX1_clearColumn_67 : decode cX1_clearColumn 67 = .ok (.getfield 11, 3) := by decide +kernel
theorem dX1_clearColumn_70 : decode cX1_clearColumn 70 = .ok (.iload_n 1, 1) := by decide +kernel
theorem dX1_clearColumn_71 : decode cX1_clearColumn 71 = .ok (.aaload, 1) := by decide +kernel
theorem dX1_clearColumn_72 : decode cX1_clearColumn 72 = .ok (.iload 10, 2) := by decide +kernel
theorem dX1_clearColumn_74 : decode cX1_clearColumn 74 = .ok (.laload, 1) := by decide +kernel
theorem dX1_clearColumn_75 : decode cX1_clearColumn 75 = .ok (.lmul, 1) := by decide +kernel
theorem dX1_clearColumn_76 : decode cX1_clearColumn 76 = .ok (.lsub, 1) := by decide +kernel
theorem dX1_clearColumn_77 : decode cX1_clearColumn 77 = .ok (.lstore 11, 2) := by decide +kernel
theorem dX1_clearColumn_79 : decode cX1_clearColumn 79 = .ok (.aload_n 0, 1) := by decide +kernel
theorem dX1_clearColumn_80 : decode cX1_clearColumn 80 = .ok (.getfield 11, 3) := by decide +kernel
theorem dX1_clearColumn_83 : decode cX1_clearColumn 83 = .ok (.iload 7, 2) := by decide +kernel
theorem dX1_clearColumn_85 : decode cX1_clearColumn 85 = .ok (.aaload, 1) := by decide +kernel
theorem dX1_clearColumn_86 : decode cX1_clearColumn 86 = .ok (.iload 10, 2) := by decide +kernel
theorem dX1_clearColumn_88 : decode cX1_clearColumn 88 = .ok (.lload_n 3, 1) := by decide +kernel
theorem dX1_clearColumn_89 : decode cX1_clearColumn 89 = .ok (.lconst 0, 1) := by decide +kernel
theorem dX1_clearColumn_90 : decode cX1_clearColumn 90 = .ok (.lcmp, 1) := by decide +kernel
theorem dX1_clearColumn_91 : decode cX1_clearColumn 91 = .ok (.ifCond .ne 8, 3) := by decide +kernel
theorem dX1_clearColumn_94 : decode cX1_clearColumn 94 = .ok (.lload 11, 2) := by decide +kernel
theorem dX1_clearColumn_96 : decode cX1_clearColumn 96 = .ok (.goto 7, 3) := by decide +kernel
theorem dX1_clearColumn_99 : decode cX1_clearColumn 99 = .ok (.lload 11, 2) := by decide +kernel
theorem dX1_clearColumn_101 : decode cX1_clearColumn 101 = .ok (.lload_n 3, 1) := by decide +kernel
theorem dX1_clearColumn_102 : decode cX1_clearColumn 102 = .ok (.ldiv, 1) := by decide +kernel
theorem dX1_clearColumn_103 : decode cX1_clearColumn 103 = .ok (.lastore, 1) := by decide +kernel
theorem dX1_clearColumn_104 : decode cX1_clearColumn 104 = .ok (.iinc 10 1, 3) := by decide +kernel
theorem dX1_clearColumn_107 : decode cX1_clearColumn 107 = .ok (.goto (-65), 3) := by decide +kernel
theorem dX1_clearColumn_110 : decode cX1_clearColumn 110 = .ok (.iinc 7 1, 3) := by decide +kernel
theorem dX1_clearColumn_113 : decode cX1_clearColumn 113 = .ok (.goto (-100), 3) := by decide +kernel
theorem dX1_clearColumn_116 : decode cX1_clearColumn 116 = .ok (.return_, 1) := by decide +kernel
set_option maxRecDepth 20000 in
theorem ggX1_above_X1_commonDivisor : GoodIn wsX1_above wsX1_commonDivisor := goodIn_r _ [6, 7, 8, 9, 10] (by decide +kernel) (by decide +kernel)
set_option maxRecDepth 20000 in
theorem gX1_above_X1_commonDivisor : GoodIn wsX1_above (va_wsS RX1 86 yX1_commonDivisor wsX1_commonDivisor) := goodIn_app (goodIn_of _ (by decide +kernel)) ggX1_above_X1_commonDivisor
theorem dX1_above_0 : decode cX1_above 0 = .ok (.aload_n 0, 1) := by decide +kernel
theorem dX1_above_1 : decode cX1_above 1 = .ok (.getfield 11, 3) := by decide +kernel
theorem dX1_above_4 : decode cX1_above 4 = .ok (.iload_n 1, 1) := by decide +kernel
theorem dX1_above_5 : decode cX1_above 5 = .ok (.aaload, 1) := by decide +kernel
theorem dX1_above_6 : decode cX1_above 6 = .ok (.iload_n 1, 1) := by decide +kernel
theorem dX1_above_7 : decode cX1_above 7 = .ok (.laload, 1) := by decide +kernel
theorem dX1_above_8 : decode cX1_above 8 = .ok (.lstore_n 2, 1) := by decide +kernel
theorem dX1_above_9 : decode cX1_above 9 = .ok (.lload_n 2, 1) := by decide +kernel
theorem dX1_above_10 : decode cX1_above 10 = .ok (.lconst 0, 1) := by decide +kernel
theorem dX1_above_11 : decode cX1_above 11 = .ok (.lcmp, 1) := by decide +kernel
theorem dX1_above_12 : decode cX1_above 12 = .ok (.ifCond .ge 18, 3) := by decide +kernel
theorem dX1_above_15 : decode cX1_above 15 = .ok (.aload_n 0, 1) := by decide +kernel
theorem dX1_above_16 : decode cX1_above 16 = .ok (.getfield 11, 3) := by decide +kernel
theorem dX1_above_19 : decode cX1_above 19 = .ok (.iload_n 1, 1) := by decide +kernel
theorem dX1_above_20 : decode cX1_above 20 = .ok (.aaload, 1) := by decide +kernel
theorem dX1_above_21 : decode cX1_above 21 = .ok (.aload_n 0, 1) := by decide +kernel
theorem dX1_above_22 : decode cX1_above 22 = .ok (.getfield 36, 3) := by decide +kernel
theorem dX1_above_25 : decode cX1_above 25 = .ok (.laload, 1) := by decide +kernel
theorem dX1_above_26 : decode cX1_above 26 = .ok (.lneg, 1) := by decide +kernel
theorem dX1_above_27 : decode cX1_above 27 = .ok (.goto 14, 3) := by decide +kernel
theorem dX1_above_30 : decode cX1_above 30 = .ok (.aload_n 0, 1) := by decide +kernel
theorem dX1_above_31 : decode cX1_above 31 = .ok (.getfield 11, 3) := by decide +kernel
theorem dX1_above_34 : decode cX1_above 34 = .ok (.iload_n 1, 1) := by decide +kernel
theorem dX1_above_35 : decode cX1_above 35 = .ok (.aaload, 1) := by decide +kernel
theorem dX1_above_36 : decode cX1_above 36 = .ok (.aload_n 0, 1) := by decide +kernel
theorem dX1_above_37 : decode cX1_above 37 = .ok (.getfield 36, 3) := by decide +kernel
theorem dX1_above_40 : decode cX1_above 40 = .ok (.laload, 1) := by decide +kernel
theorem dX1_above_41 : decode cX1_above 41 = .ok (.lstore 4, 2) := by decide +kernel
theorem dX1_above_43 : decode cX1_above 43 = .ok (.lload 4, 2) := by decide +kernel
theorem dX1_above_45 : decode cX1_above 45 = .ok (.lload_n 2, 1) := by decide +kernel
theorem dX1_above_46 : decode cX1_above 46 = .ok (.invokestatic 86, 3) := by decide +kernel
theorem dX1_above_49 : decode cX1_above 49 = .ok (.lstore 6, 2) := by decide +kernel
theorem dX1_above_51 : decode cX1_above 51 = .ok (.lload 6, 2) := by decide +kernel
theorem dX1_above_53 : decode cX1_above 53 = .ok (.lconst 0, 1) := by decide +kernel
theorem dX1_above_54 : decode cX1_above 54 = .ok (.lcmp, 1) := by decide +kernel
theorem dX1_above_55 : decode cX1_above 55 = .ok (.ifCond .ne 8, 3) := by decide +kernel
theorem dX1_above_58 : decode cX1_above 58 = .ok (.lload 4, 2) := by decide +kernel
theorem dX1_above_60 : decode cX1_above 60 = .ok (.goto 8, 3) := by decide +kernel
theorem dX1_above_63 : decode cX1_above 63 = .ok (.lload 4, 2) := by decide +kernel
theorem dX1_above_65 : decode cX1_above 65 = .ok (.lload 6, 2) := by decide +kernel
theorem dX1_above_67 : decode cX1_above 67 = .ok (.ldiv, 1) := by decide +kernel
theorem dX1_above_68 : decode cX1_above 68 = .ok (.lreturn, 1) := by decide +kernel
set_option maxRecDepth 20000 in
theorem ggX1_below_X1_commonDivisor : GoodIn wsX1_below wsX1_commonDivisor := goodIn_r _ [10, 3, 4, 5, 6] (by decide +kernel) (by decide +kernel)
set_option maxRecDepth 20000 in
theorem gX1_below_X1_commonDivisor : GoodIn wsX1_below (va_wsS RX1 86 yX1_commonDivisor wsX1_commonDivisor) := goodIn_app (goodIn_of _ (by decide +kernel)) ggX1_below_X1_commonDivisor
theorem dX1_below_0 : decode cX1_below 0 = .ok (.aload_n 0, 1) := by decide +kernel
theorem dX1_below_1 : decode cX1_below 1 = .ok (.getfield 11, 3) := by decide +kernel
theorem dX1_below_4 : decode cX1_below 4 = .ok (.iload_n 1, 1) := by decide +kernel
theorem dX1_below_5 : decode cX1_below 5 = .ok (.aaload, 1) := by decide +kernel
theorem dX1_below_6 : decode cX1_below 6 = .ok (.iload_n 1, 1) := by decide +kernel
theorem dX1_below_7 : decode cX1_below 7 = .ok (.laload, 1) := by decide +kernel
theorem dX1_below_8 : decode cX1_below 8 = .ok (.lstore_n 2, 1) := by decide +kernel
theorem dX1_below_9 : decode cX1_below 9 = .ok (.aload_n 0, 1) := by decide +kernel
theorem dX1_below_10 : decode cX1_below 10 = .ok (.getfield 11, 3) := by decide +kernel
theorem dX1_below_13 : decode cX1_below 13 = .ok (.iload_n 1, 1) := by decide +kernel
theorem dX1_below_14 : decode cX1_below 14 = .ok (.aaload, 1) := by decide +kernel
theorem dX1_below_15 : decode cX1_below 15 = .ok (.aload_n 0, 1) := by decide +kernel
theorem dX1_below_16 : decode cX1_below 16 = .ok (.getfield 36, 3) := by decide +kernel
theorem dX1_below_19 : decode cX1_below 19 = .ok (.laload, 1) := by decide +kernel
theorem dX1_below_20 : decode cX1_below 20 = .ok (.lload_n 2, 1) := by decide +kernel
theorem dX1_below_21 : decode cX1_below 21 = .ok (.invokestatic 86, 3) := by decide +kernel
theorem dX1_below_24 : decode cX1_below 24 = .ok (.lstore 4, 2) := by decide +kernel
theorem dX1_below_26 : decode cX1_below 26 = .ok (.lload 4, 2) := by decide +kernel
theorem dX1_below_28 : decode cX1_below 28 = .ok (.lconst 0, 1) := by decide +kernel
theorem dX1_below_29 : decode cX1_below 29 = .ok (.lcmp, 1) := by decide +kernel
theorem dX1_below_30 : decode cX1_below 30 = .ok (.ifCond .ne 7, 3) := by decide +kernel
theorem dX1_below_33 : decode cX1_below 33 = .ok (.lconst 1, 1) := by decide +kernel
theorem dX1_below_34 : decode cX1_below 34 = .ok (.goto 10, 3) := by decide +kernel
theorem dX1_below_37 : decode cX1_below 37 = .ok (.lload_n 2, 1) := by decide +kernel
theorem dX1_below_38 : decode cX1_below 38 = .ok (.invokestatic 90, 3) := by decide +kernel
theorem dX1_below_41 : decode cX1_below 41 = .ok (.lload 4, 2) := by decide +kernel
theorem dX1_below_43 : decode cX1_below 43 = .ok (.ldiv, 1) := by decide +kernel
theorem dX1_below_44 : decode cX1_below 44 = .ok (.lreturn, 1) := by decide +kernel
theorem dX1_commonDivisor_0 : decode cX1_commonDivisor 0 = .ok (.lload_n 0, 1) := by decide +kernel
theorem dX1_commonDivisor_1 : decode cX1_commonDivisor 1 = .ok (.invokestatic 90, 3) := by decide +kernel
theorem dX1_commonDivisor_4 : decode cX1_commonDivisor 4 = .ok (.lstore 4, 2) := by decide +kernel
theorem dX1_commonDivisor_6 : decode cX1_commonDivisor 6 = .ok (.lload_n 2, 1) := by decide +kernel
theorem dX1_commonDivisor_7 : decode cX1_commonDivisor 7 = .ok (.invokestatic 90, 3) := by decide +kernel
theorem dX1_commonDivisor_10 : decode cX1_commonDivisor 10 = .ok (.lstore 6, 2) := by decide +kernel
theorem dX1_commonDivisor_12 : decode cX1_commonDivisor 12 = .ok (.iconst 0, 1) := by decide +kernel
theorem dX1_commonDivisor_13 : decode cX1_commonDivisor 13 = .ok (.istore 8, 2) := by decide +kernel
theorem dX1_commonDivisor_15 : decode cX1_commonDivisor 15 = .ok (.iload 8, 2) := by decide +kernel
theorem dX1_commonDivisor_17 : decode cX1_commonDivisor 17 = .ok (.sipush 128, 3) := by decide +kernel
theorem dX1_commonDivisor_20 : decode cX1_commonDivisor 20 = .ok (.if_icmp .ge 31, 3) := by decide +kernel
theorem dX1_commonDivisor_23 : decode cX1_commonDivisor 23 = .ok (.lload 6, 2) := by decide +kernel
theorem dX1_commonDivisor_25 : decode cX1_commonDivisor 25 = .ok (.lconst 0, 1) := by decide +kernel
theorem dX1_commonDivisor_26 : decode cX1_commonDivisor 26 = .ok (.lcmp, 1) := by decide +kernel
theorem dX1_commonDivisor_27 : decode cX1_commonDivisor 27 = .ok (.ifCond .eq 24, 3) := by decide +kernel
theorem dX1_commonDivisor_30 : decode cX1_commonDivisor 30 = .ok (.lload 4, 2) := by decide +kernel
theorem dX1_commonDivisor_32 : decode cX1_commonDivisor 32 = .ok (.lload 6, 2) := by decide +kernel
theorem dX1_commonDivisor_34 : decode cX1_commonDivisor 34 = .ok (.lrem, 1) := by decide +kernel
theorem dX1_commonDivisor_35 : decode cX1_commonDivisor 35 = .ok (.lstore 9, 2) := by decide +kernel
theorem dX1_commonDivisor_37 : decode cX1_commonDivisor 37 = .ok (.lload 6, 2) := by decide +kernel
theorem dX1_commonDivisor_39 : decode cX1_commonDivisor 39 = .ok (.lstore 4, 2) := by decide +kernel
theorem dX1_commonDivisor_41 : decode cX1_commonDivisor 41 = .ok (.lload 9, 2) := by decide +kernel
theorem dX1_commonDivisor_43 : decode cX1_commonDivisor 43 = .ok (.lstore 6, 2) := by decide +kernel
theorem dX1_commonDivisor_45 : decode cX1_commonDivisor 45 = .ok (.iinc 8 1, 3) := by decide +kernel
theorem dX1_commonDivisor_48 : decode cX1_commonDivisor 48 = .ok (.goto (-33), 3) := by decide +kernel
theorem dX1_commonDivisor_51 : decode cX1_commonDivisor 51 = .ok (.lload 4, 2) := by decide +kernel
theorem dX1_commonDivisor_53 : decode cX1_commonDivisor 53 = .ok (.lreturn, 1) := by decide +kernel
set_option maxRecDepth 20000 in
theorem ggX2_init_X2_startAnew : GoodIn wsX2_init wsX2_startAnew := goodIn_r _ [18, 19, 5, 6, 7, 8, 9, 10, 20, 12, 13, 21, 22, 23, 24, 25, 26, 27, 28, 29] (by decide +kernel) (by decide +kernel)
set_option maxRecDepth 20000 in
theorem gX2_init_X2_startAnew : GoodIn wsX2_init (wsV RX2 37 RX2 yX2_startAnew wsX2_startAnew) := goodIn_app (goodIn_of _ (by decide +kernel)) ggX2_init_X2_startAnew
theorem dX2_init_0 : decode cX2_init 0 = .ok (.aload_n 0, 1) := by decide +kernel
theorem dX2_init_1 : decode cX2_init 1 = .ok (.invokespecial 3, 3) := by decide +kernel
theorem dX2_init_4 : decode cX2_init 4 = .ok (.aload_n 0, 1) := by decide +kernel
theorem dX2_init_5 : decode cX2_init 5 = .ok (.bipush 32, 2) := by decide +kernel
theorem dX2_init_7 : decode cX2_init 7 = .ok (.newarray .int, 2) := by decide +kernel
theorem dX2_init_9 : decode cX2_init 9 = .ok (.putfield 9, 3) := by decide +kernel
theorem dX2_init_12 : decode cX2_init 12 = .ok (.aload_n 0, 1) := by decide +kernel
theorem dX2_init_13 : decode cX2_init 13 = .ok (.bipush 32, 2) := by decide +kernel
theorem dX2_init_15 : decode cX2_init 15 = .ok (.newarray .int, 2) := by decide +kernel
theorem dX2_init_17 : decode cX2_init 17 = .ok (.putfield 15, 3) := by decide +kernel
theorem dX2_init_20 : decode cX2_init 20 = .ok (.aload_n 0, 1) := by decide +kernel
theorem dX2_init_21 : decode cX2_init 21 = .ok (.bipush 32, 2) := by decide +kernel
theorem dX2_init_23 : decode cX2_init 23 = .ok (.newarray .int, 2) := by decide +kernel
theorem dX2_init_25 : decode cX2_init 25 = .ok (.putfield 18, 3) := by decide +kernel
theorem dX2_init_28 : decode cX2_init 28 = .ok (.aload_n 0, 1) := by decide +kernel
theorem dX2_init_29 : decode cX2_init 29 = .ok (.bipush 32, 2) := by decide +kernel
theorem dX2_init_31 : decode cX2_init 31 = .ok (.newarray .int, 2) := by decide +kernel
theorem dX2_init_33 : decode cX2_init 33 = .ok (.putfield 21, 3) := by decide +kernel
theorem dX2_init_36 : decode cX2_init 36 = .ok (.aload_n 0, 1) := by decide +kernel
theorem dX2_init_37 : decode cX2_init 37 = .ok (.bipush 32, 2) := by decide +kernel
theorem dX2_init_39 : decode cX2_init 39 = .ok (.newarray .int, 2) := by decide +kernel
theorem dX2_init_41 : decode cX2_init 41 = .ok (.putfield 24, 3) := by decide +kernel
theorem dX2_init_44 : decode cX2_init 44 = .ok (.aload_n 0, 1) := by decide +kernel
theorem dX2_init_45 : decode cX2_init 45 = .ok (.bipush 32, 2) := by decide +kernel
theorem dX2_init_47 : decode cX2_init 47 = .ok (.newarray .int, 2) := by decide +kernel
theorem dX2_init_49 : decode cX2_init 49 = .ok (.putfield 27, 3) := by decide +kernel
theorem dX2_init_52 : decode cX2_init 52 = .ok (.aload_n 0, 1) := by decide +kernel
theorem dX2_init_53 : decode cX2_init 53 = .ok (.bipush 32, 2) := by decide +kernel
theorem dX2_init_55 : decode cX2_init 55 = .ok (.newarray .boolean, 2) := by decide +kernel
theorem dX2_init_57 : decode cX2_init 57 = .ok (.putfield 30, 3) := by decide +kernel
theorem dX2_init_60 : decode cX2_init 60 = .ok (.aload_n 0, 1) := by decide +kernel
theorem dX2_init_61 : decode cX2_init 61 = .ok (.bipush 32, 2) := by decide +kernel
theorem dX2_init_63 : decode cX2_init 63 = .ok (.newarray .boolean, 2) := by decide +kernel
theorem dX2_init_65 : decode cX2_init 65 = .ok (.putfield 34, 3) := by decide +kernel
theorem dX2_init_68 : decode cX2_init 68 = .ok (.aload_n 0, 1) := by decide +kernel
theorem dX2_init_69 : decode cX2_init 69 = .ok (.iconst 2, 1) := by decide +kernel
theorem dX2_init_70 : decode cX2_init 70 = .ok (.invokevirtual 37, 3) := by decide +kernel
theorem dX2_init_73 : decode cX2_init 73 = .ok (.return_, 1) := by decide +kernel
theorem dX2_startAnew_0 : decode cX2_startAnew 0 = .ok (.aload_n 0, 1) := by decide +kernel
theorem dX2_startAnew_1 : decode cX2_startAnew 1 = .ok (.iload_n 1, 1) := by decide +kernel
theorem dX2_startAnew_2 : decode cX2_startAnew 2 = .ok (.putfield 41, 3) := by decide +kernel
theorem dX2_startAnew_5 : decode cX2_startAnew 5 = .ok (.iconst 0, 1) := by decide +kernel
theorem dX2_startAnew_6 : decode cX2_startAnew 6 = .ok (.istore_n 2, 1) := by decide +kernel
theorem dX2_startAnew_7 : decode cX2_startAnew 7 = .ok (.iload_n 2, 1) := by decide +kernel
theorem dX2_startAnew_8 : decode cX2_startAnew 8 = .ok (.bipush 32, 2) := by decide +kernel
theorem dX2_startAnew_10 : decode cX2_startAnew 10 = .ok (.if_icmp .ge 66, 3) := by decide +kernel
theorem dX2_startAnew_13 : decode cX2_startAnew 13 = .ok (.aload_n 0, 1) := by decide +kernel
theorem dX2_startAnew_14 : decode cX2_startAnew 14 = .ok (.getfield 9, 3) := by decide +kernel
theorem dX2_startAnew_17 : decode cX2_startAnew 17 = .ok (.iload_n 2, 1) := by decide +kernel
theorem dX2_startAnew_18 : decode cX2_startAnew 18 = .ok (.iconst 0, 1) := by decide +kernel
theorem dX2_startAnew_19 : decode cX2_startAnew 19 = .ok (.iastore, 1) := by decide +kernel
theorem dX2_startAnew_20 : decode cX2_startAnew 20 = .ok (.aload_n 0, 1) := by decide +kernel
theorem dX2_startAnew_21 : decode cX2_startAnew 21 = .ok (.getfield 15, 3) := by decide +kernel
theorem dX2_startAnew_24 : decode cX2_startAnew 24 = .ok (.iload_n 2, 1) := by decide +kernel
theorem dX2_startAnew_25 : decode cX2_startAnew 25 = .ok (.iconst 0, 1) := by decide +kernel
theorem dX2_startAnew_26 : decode cX2_startAnew 26 = .ok (.iastore, 1) := by decide +kernel
theorem dX2_startAnew_27 : decode cX2_startAnew 27 = .ok (.aload_n 0, 1) := by decide +kernel
theorem dX2_startAnew_28 : decode cX2_startAnew 28 = .ok (.getfield 18, 3) := by decide +kernel
theorem dX2_startAnew_31 : decode cX2_startAnew 31 = .ok (.iload_n 2, 1) := by decide +kernel
theorem dX2_startAnew_32 : decode cX2_startAnew 32 = .ok (.iconst 1, 1) := by decide +kernel
theorem dX2_startAnew_33 : decode cX2_startAnew 33 = .ok (.iastore, 1) := by decide +kernel
theorem dX2_startAnew_34 : decode cX2_startAnew 34 = .ok (.aload_n 0, 1) := by decide +kernel
theorem dX2_startAnew_35 : decode cX2_startAnew 35 = .ok (.getfield 21, 3) := by decide +kernel
theorem dX2_startAnew_38 : decode cX2_startAnew 38 = .ok (.iload_n 2, 1) := by decide +kernel
theorem dX2_startAnew_39 : decode cX2_startAnew 39 = .ok (.iconst 0, 1) := by decide +kernel
theorem dX2_startAnew_40 : decode cX2_startAnew 40 = .ok (.iastore, 1) := by decide +kernel
theorem dX2_startAnew_41 : decode cX2_startAnew 41 = .ok (.aload_n 0, 1) := by decide +kernel
theorem dX2_startAnew_42 : decode cX2_startAnew 42 = .ok (.getfield 24, 3) := by decide +kernel
theorem dX2_startAnew_45 : decode cX2_startAnew 45 = .ok (.iload_n 2, 1) := by decide +kernel
theorem dX2_startAnew_46 : decode cX2_startAnew 46 = .ok (.iconst 0, 1) := by decide +kernel
theorem dX2_startAnew_47 : decode cX2_startAnew 47 = .ok (.iastore, 1) := by decide +kernel
theorem dX2_startAnew_48 : decode cX2_startAnew 48 = .ok (.aload_n 0, 1) := by decide +kernel
theorem dX2_startAnew_49 : decode cX2_startAnew 49 = .ok (.getfield 27, 3) := by decide +kernel
theorem dX2_startAnew_52 : decode cX2_startAnew 52 = .ok (.iload_n 2, 1) := by decide +kernel
theorem dX2_startAnew_53 : decode cX2_startAnew 53 = .ok (.ldc 45, 2) := by decide +kernel
theorem dX2_startAnew_55 : decode cX2_startAnew 55 = .ok (.iastore, 1) := by decide +kernel
theorem dX2_startAnew_56 : decode cX2_startAnew 56 = .ok (.aload_n 0, 1) := by decide +kernel
theorem dX2_startAnew_57 : decode cX2_startAnew 57 = .ok (.getfield 30, 3) := by decide +kernel
theorem dX2_startAnew_60 : decode cX2_startAnew 60 = .ok (.iload_n 2, 1) := by decide +kernel
theorem dX2_startAnew_61 : decode cX2_startAnew 61 = .ok (.iconst 0, 1) := by decide +kernel
theorem dX2_startAnew_62 : decode cX2_startAnew 62 = .ok (.bastore, 1) := by decide +kernel
theorem dX2_startAnew_63 : decode cX2_startAnew 63 = .ok (.aload_n 0, 1) := by decide +kernel
theorem dX2_startAnew_64 : decode cX2_startAnew 64 = .ok (.getfield 34, 3) := by decide +kernel
theorem dX2_startAnew_67 : decode cX2_startAnew 67 = .ok (.iload_n 2, 1) := by decide +kernel
theorem dX2_startAnew_68 : decode cX2_startAnew 68 = .ok (.iconst 0, 1) := by decide +kernel
theorem dX2_startAnew_69 : decode cX2_startAnew 69 = .ok (.bastore, 1) := by decide +kernel
theorem dX2_startAnew_70 : decode cX2_startAnew 70 = .ok (.iinc 2 1, 3) := by decide +kernel
theorem dX2_startAnew_73 : decode cX2_startAnew 73 = .ok (.goto (-66), 3) := by decide +kernel
theorem dX2_startAnew_76 : decode cX2_startAnew 76 = .ok (.return_, 1) := by decide +kernel
theorem dX2_has_0 : decode cX2_has 0 = .ok (.iload_n 1, 1) := by decide +kernel
theorem dX2_has_1 : decode cX2_has 1 = .ok (.ifCond .lt 15, 3) := by decide +kernel
theorem dX2_has_4 : decode cX2_has 4 = .ok (.iload_n 1, 1) := by decide +kernel
theorem dX2_has_5 : decode cX2_has 5 = .ok (.aload_n 0, 1) := by decide +kernel
theorem dX2_has_6 : decode cX2_has 6 = .ok (.getfield 41, 3) := by decide +kernel
theorem dX2_has_9 : decode cX2_has 9 = .ok (.if_icmp .ge 7, 3) := by decide +kernel
theorem dX2_has_12 : decode cX2_has 12 = .ok (.iconst 1, 1) := by decide +kernel
theorem dX2_has_13 : decode cX2_has 13 = .ok (.goto 4, 3) := by decide +kernel
theorem dX2_has_16 : decode cX2_has 16 = .ok (.iconst 0, 1) := by decide +kernel
theorem dX2_has_17 : decode cX2_has 17 = .ok (.ireturn, 1) := by decide +kernel
set_option maxRecDepth 20000 in
theorem ggX2_setNear_X5_signOf : GoodIn wsX2_setNear wsX5_signOf := goodIn_r _ [6, 7, 8, 9, 10, 11, 12, 13] (by decide +kernel) (by decide +kernel)
set_option maxRecDepth 20000 in
theorem gX2_setNear_X5_signOf_n46 : GoodIn wsX2_setNear (wsX5_signOf) := ggX2_setNear_X5_signOf
theorem dX2_setNear_0 : decode cX2_setNear 0 = .ok (.iload_n 2, 1) := by decide +kernel
theorem dX2_setNear_1 : decode cX2_setNear 1 = .ok (.aload_n 0, 1) := by decide +kernel
theorem dX2_setNear_2 : decode cX2_setNear 2 = .ok (.getfield 9, 3) := by decide +kernel
theorem dX2_setNear_5 : decode cX2_setNear 5 = .ok (.iload_n 1, 1) := by decide +kernel
theorem dX2_setNear_6 : decode cX2_setNear 6 = .ok (.iaload, 1) := by decide +kernel
theorem dX2_setNear_7 : decode cX2_setNear 7 = .ok (.isub, 1) := by decide +kernel
theorem dX2_setNear_8 : decode cX2_setNear 8 = .ok (.istore_n 3, 1) := by decide +kernel
theorem dX2_setNear_9 : decode cX2_setNear 9 = .ok (.aload_n 0, 1) := by decide +kernel
theorem dX2_setNear_10 : decode cX2_setNear 10 = .ok (.getfield 9, 3) := by decide +kernel
theorem dX2_setNear_13 : decode cX2_setNear 13 = .ok (.iload_n 1, 1) := by decide +kernel
theorem dX2_setNear_14 : decode cX2_setNear 14 = .ok (.iload_n 2, 1) := by decide +kernel
theorem dX2_setNear_15 : decode cX2_setNear 15 = .ok (.iastore, 1) := by decide +kernel
theorem dX2_setNear_16 : decode cX2_setNear 16 = .ok (.iconst 0, 1) := by decide +kernel
theorem dX2_setNear_17 : decode cX2_setNear 17 = .ok (.istore 4, 2) := by decide +kernel
theorem dX2_setNear_19 : decode cX2_setNear 19 = .ok (.iload 4, 2) := by decide +kernel
theorem dX2_setNear_21 : decode cX2_setNear 21 = .ok (.aload_n 0, 1) := by decide +kernel
theorem dX2_setNear_22 : decode cX2_setNear 22 = .ok (.getfield 41, 3) := by decide +kernel
theorem dX2_setNear_25 : decode cX2_setNear 25 = .ok (.if_icmp .ge 27, 3) := by decide +kernel
theorem dX2_setNear_28 : decode cX2_setNear 28 = .ok (.aload_n 0, 1) := by decide +kernel
theorem dX2_setNear_29 : decode cX2_setNear 29 = .ok (.getfield 15, 3) := by decide +kernel
theorem dX2_setNear_32 : decode cX2_setNear 32 = .ok (.iload 4, 2) := by decide +kernel
theorem dX2_setNear_34 : decode cX2_setNear 34 = .ok (.dup2, 1) := by decide +kernel
theorem dX2_setNear_35 : decode cX2_setNear 35 = .ok (.iaload, 1) := by decide +kernel
theorem dX2_setNear_36 : decode cX2_setNear 36 = .ok (.iload_n 3, 1) := by decide +kernel
theorem dX2_setNear_37 : decode cX2_setNear 37 = .ok (.iload_n 1, 1) := by decide +kernel
theorem dX2_setNear_38 : decode cX2_setNear 38 = .ok (.iload 4, 2) := by decide +kernel
theorem dX2_setNear_40 : decode cX2_setNear 40 = .ok (.invokestatic 46, 3) := by decide +kernel
theorem dX2_setNear_43 : decode cX2_setNear 43 = .ok (.imul, 1) := by decide +kernel
theorem dX2_setNear_44 : decode cX2_setNear 44 = .ok (.iadd, 1) := by decide +kernel
theorem dX2_setNear_45 : decode cX2_setNear 45 = .ok (.iastore, 1) := by decide +kernel
theorem dX2_setNear_46 : decode cX2_setNear 46 = .ok (.iinc 4 1, 3) := by decide +kernel
theorem dX2_setNear_49 : decode cX2_setNear 49 = .ok (.goto (-30), 3) := by decide +kernel
theorem dX2_setNear_52 : decode cX2_setNear 52 = .ok (.return_, 1) := by decide +kernel
set_option maxRecDepth 20000 in
theorem ggX2_rowThroughTo_X5_signOf : GoodIn wsX2_rowThroughTo wsX5_signOf := goodIn_r _ [5, 6, 7, 8, 9, 10, 11, 12] (by decide +kernel) (by decide +kernel)
set_option maxRecDepth 20000 in
theorem gX2_rowThroughTo_X5_signOf_n46 : GoodIn wsX2_rowThroughTo (wsX5_signOf) := ggX2_rowThroughTo_X5_signOf
theorem dX2_rowThroughTo_0 : decode cX2_rowThroughTo 0 = .ok (.iconst 0, 1) := by decide +kernel
theorem dX2_rowThroughTo_1 : decode cX2_rowThroughTo 1 = .ok (.istore_n 2, 1) := by decide +kernel
theorem dX2_rowThroughTo_2 : decode cX2_rowThroughTo 2 = .ok (.iconst 0, 1) := by decide +kernel
theorem dX2_rowThroughTo_3 : decode cX2_rowThroughTo 3 = .ok (.istore_n 3, 1) := by decide +kernel
theorem dX2_rowThroughTo_4 : decode cX2_rowThroughTo 4 = .ok (.iload_n 3, 1) := by decide +kernel
theorem dX2_rowThroughTo_5 : decode cX2_rowThroughTo 5 = .ok (.aload_n 0, 1) := by decide +kernel
theorem dX2_rowThroughTo_6 : decode cX2_rowThroughTo 6 = .ok (.getfield 41, 3) := by decide +kernel
theorem dX2_rowThroughTo_9 : decode cX2_rowThroughTo 9 = .ok (.if_icmp .ge 24, 3) := by decide +kernel
theorem dX2_rowThroughTo_12 : decode cX2_rowThroughTo 12 = .ok (.iload_n 2, 1) := by decide +kernel
theorem dX2_rowThroughTo_13 : decode cX2_rowThroughTo 13 = .ok (.aload_n 0, 1) := by decide +kernel
theorem dX2_rowThroughTo_14 : decode cX2_rowThroughTo 14 = .ok (.getfield 21, 3) := by decide +kernel
theorem dX2_rowThroughTo_17 : decode cX2_rowThroughTo 17 = .ok (.iload_n 3, 1) := by decide +kernel
theorem dX2_rowThroughTo_18 : decode cX2_rowThroughTo 18 = .ok (.iaload, 1) := by decide +kernel
theorem dX2_rowThroughTo_19 : decode cX2_rowThroughTo 19 = .ok (.iload_n 1, 1) := by decide +kernel
theorem dX2_rowThroughTo_20 : decode cX2_rowThroughTo 20 = .ok (.iload_n 3, 1) := by decide +kernel
theorem dX2_rowThroughTo_21 : decode cX2_rowThroughTo 21 = .ok (.invokestatic 46, 3) := by decide +kernel
theorem dX2_rowThroughTo_24 : decode cX2_rowThroughTo 24 = .ok (.imul, 1) := by decide +kernel
theorem dX2_rowThroughTo_25 : decode cX2_rowThroughTo 25 = .ok (.iadd, 1) := by decide +kernel
theorem dX2_rowThroughTo_26 : decode cX2_rowThroughTo 26 = .ok (.istore_n 2, 1) := by decide +kernel
theorem dX2_rowThroughTo_27 : decode cX2_rowThroughTo 27 = .ok (.iinc 3 1, 3) := by decide +kernel
theorem dX2_rowThroughTo_30 : decode cX2_rowThroughTo 30 = .ok (.goto (-26), 3) := by decide +kernel
theorem dX2_rowThroughTo_33 : decode cX2_rowThroughTo 33 = .ok (.iload_n 2, 1) := by decide +kernel
theorem dX2_rowThroughTo_34 : decode cX2_rowThroughTo 34 = .ok (.ireturn, 1) := by decide +kernel
set_option maxRecDepth 20000 in
theorem ggX2_goesBack_X2_rowThroughTo : GoodIn wsX2_goesBack wsX2_rowThroughTo := goodIn_r _ [10, 1, 11, 12, 13, 14, 15, 16, 17, 18, 19, 20, 21, 22, 23, 24, 25, 26, 27, 28, 29, 30] (by decide +kernel) (by decide +kernel)
set_option maxRecDepth 20000 in
theorem gX2_goesBack_X2_rowThroughTo : GoodIn wsX2_goesBack (wsV RX2 50 RX2 yX2_rowThroughTo wsX2_rowThroughTo) := goodIn_app (goodIn_of _ (by decide +kernel)) ggX2_goesBack_X2_rowThroughTo
theorem dX2_goesBack_0 : decode cX2_goesBack 0 = .ok (.iconst 0, 1) := by decide +kernel
theorem dX2_goesBack_1 : decode cX2_goesBack 1 = .ok (.istore_n 1, 1) := by decide +kernel
theorem dX2_goesBack_2 : decode cX2_goesBack 2 = .ok (.iload_n 1, 1) := by decide +kernel
theorem dX2_goesBack_3 : decode cX2_goesBack 3 = .ok (.aload_n 0, 1) := by decide +kernel
theorem dX2_goesBack_4 : decode cX2_goesBack 4 = .ok (.getfield 41, 3) := by decide +kernel
theorem dX2_goesBack_7 : decode cX2_goesBack 7 = .ok (.if_icmp .ge 43, 3) := by decide +kernel
theorem dX2_goesBack_10 : decode cX2_goesBack 10 = .ok (.aload_n 0, 1) := by decide +kernel
theorem dX2_goesBack_11 : decode cX2_goesBack 11 = .ok (.iload_n 1, 1) := by decide +kernel
theorem dX2_goesBack_12 : decode cX2_goesBack 12 = .ok (.invokevirtual 50, 3) := by decide +kernel
theorem dX2_goesBack_15 : decode cX2_goesBack 15 = .ok (.istore_n 2, 1) := by decide +kernel
theorem dX2_goesBack_16 : decode cX2_goesBack 16 = .ok (.iload_n 2, 1) := by decide +kernel
theorem dX2_goesBack_17 : decode cX2_goesBack 17 = .ok (.aload_n 0, 1) := by decide +kernel
theorem dX2_goesBack_18 : decode cX2_goesBack 18 = .ok (.getfield 41, 3) := by decide +kernel
theorem dX2_goesBack_21 : decode cX2_goesBack 21 = .ok (.iconst 1, 1) := by decide +kernel
theorem dX2_goesBack_22 : decode cX2_goesBack 22 = .ok (.isub, 1) := by decide +kernel
theorem dX2_goesBack_23 : decode cX2_goesBack 23 = .ok (.iand, 1) := by decide +kernel
theorem dX2_goesBack_24 : decode cX2_goesBack 24 = .ok (.ifCond .ne 18, 3) := by decide +kernel
theorem dX2_goesBack_27 : decode cX2_goesBack 27 = .ok (.iload_n 2, 1) := by decide +kernel
theorem dX2_goesBack_28 : decode cX2_goesBack 28 = .ok (.invokestatic 54, 3) := by decide +kernel
theorem dX2_goesBack_31 : decode cX2_goesBack 31 = .ok (.sipush 1000, 3) := by decide +kernel
theorem dX2_goesBack_34 : decode cX2_goesBack 34 = .ok (.aload_n 0, 1) := by decide +kernel
theorem dX2_goesBack_35 : decode cX2_goesBack 35 = .ok (.getfield 41, 3) := by decide +kernel
theorem dX2_goesBack_38 : decode cX2_goesBack 38 = .ok (.imul, 1) := by decide +kernel
theorem dX2_goesBack_39 : decode cX2_goesBack 39 = .ok (.if_icmp .le 5, 3) := by decide +kernel
theorem dX2_goesBack_42 : decode cX2_goesBack 42 = .ok (.iconst 0, 1) := by decide +kernel
theorem dX2_goesBack_43 : decode cX2_goesBack 43 = .ok (.ireturn, 1) := by decide +kernel
theorem dX2_goesBack_44 : decode cX2_goesBack 44 = .ok (.iinc 1 1, 3) := by decide +kernel
theorem dX2_goesBack_47 : decode cX2_goesBack 47 = .ok (.goto (-45), 3) := by decide +kernel
theorem dX2_goesBack_50 : decode cX2_goesBack 50 = .ok (.iconst 1, 1) := by decide +kernel
theorem dX2_goesBack_51 : decode cX2_goesBack 51 = .ok (.ireturn, 1) := by decide +kernel
set_option maxRecDepth 20000 in
theorem ggX2_takeBack_X2_goesBack : GoodIn wsX2_takeBack wsX2_goesBack := goodIn_r _ [6, 1, 7, 8, 9, 10, 11, 12, 13, 5, 14, 15, 16, 17, 18, 19, 20, 21, 22, 23, 24, 25, 32, 33, 34, 35, 36, 37, 38, 39, 40] (by decide +kernel) (by decide +kernel)
set_option maxRecDepth 20000 in
theorem gX2_takeBack_X2_goesBack : GoodIn wsX2_takeBack (wsV RX2 59 RX2 yX2_goesBack wsX2_goesBack) := goodIn_app (goodIn_of _ (by decide +kernel)) ggX2_takeBack_X2_goesBack
set_option maxRecDepth 20000 in
theorem ggX2_takeBack_X2_rowThroughTo : GoodIn wsX2_takeBack wsX2_rowThroughTo := goodIn_r _ [14, 1, 15, 16, 17, 18, 19, 20, 21, 22, 23, 24, 25, 32, 33, 34, 35, 36, 37, 38, 39, 40] (by decide +kernel) (by decide +kernel)
set_option maxRecDepth 20000 in
theorem gX2_takeBack_X2_rowThroughTo : GoodIn wsX2_takeBack (wsV RX2 50 RX2 yX2_rowThroughTo wsX2_rowThroughTo) := goodIn_app (goodIn_of _ (by decide +kernel)) ggX2_takeBack_X2_rowThroughTo
set_option maxRecDepth 20000 in
theorem ggX2_takeBack_X2_setNear : GoodIn wsX2_takeBack wsX2_setNear := goodIn_r _ [29, 30, 1, 31, 16, 17, 18, 19, 20, 21, 22, 23, 24, 25, 32, 33, 34, 35, 36, 37, 38, 39, 40] (by decide +kernel) (by decide +kernel)
set_option maxRecDepth 20000 in
theorem gX2_takeBack_X2_setNear : GoodIn wsX2_takeBack (wsV RX2 63 RX2 yX2_setNear wsX2_setNear) := goodIn_app (goodIn_of _ (by decide +kernel)) ggX2_takeBack_X2_setNear
theorem dX2_takeBack_0 : decode cX2_takeBack 0 = .ok (.aload_n 0, 1) := by decide +kernel
theorem dX2_takeBack_1 : decode cX2_takeBack 1 = .ok (.getfield 41, 3) := by decide +kernel
theorem dX2_takeBack_4 : decode cX2_takeBack 4 = .ok (.iconst 1, 1) := by decide +kernel
theorem dX2_takeBack_5 : decode cX2_takeBack 5 = .ok (.if_icmp .lt 10, 3) := by decide +kernel
theorem dX2_takeBack_8 : decode cX2_takeBack 8 = .ok (.aload_n 0, 1) := by decide +kernel
theorem dX2_takeBack_9 : decode cX2_takeBack 9 = .ok (.invokevirtual 59, 3) := by decide +kernel
theorem dX2_takeBack_12 : decode cX2_takeBack 12 = .ok (.ifCond .ne 5, 3) := by decide +kernel
theorem dX2_takeBack_15 : decode cX2_takeBack 15 = .ok (.iconst 0, 1) := by decide +kernel
theorem dX2_takeBack_16 : decode cX2_takeBack 16 = .ok (.ireturn, 1) := by decide +kernel
theorem dX2_takeBack_17 : decode cX2_takeBack 17 = .ok (.iconst 0, 1) := by decide +kernel
theorem dX2_takeBack_18 : decode cX2_takeBack 18 = .ok (.istore_n 1, 1) := by decide +kernel
theorem dX2_takeBack_19 : decode cX2_takeBack 19 = .ok (.iload_n 1, 1) := by decide +kernel
theorem dX2_takeBack_20 : decode cX2_takeBack 20 = .ok (.aload_n 0, 1) := by decide +kernel
theorem dX2_takeBack_21 : decode cX2_takeBack 21 = .ok (.getfield 41, 3) := by decide +kernel
theorem dX2_takeBack_24 : decode cX2_takeBack 24 = .ok (.if_icmp .ge 24, 3) := by decide +kernel
theorem dX2_takeBack_27 : decode cX2_takeBack 27 = .ok (.aload_n 0, 1) := by decide +kernel
theorem dX2_takeBack_28 : decode cX2_takeBack 28 = .ok (.iload_n 1, 1) := by decide +kernel
theorem dX2_takeBack_29 : decode cX2_takeBack 29 = .ok (.aload_n 0, 1) := by decide +kernel
theorem dX2_takeBack_30 : decode cX2_takeBack 30 = .ok (.iload_n 1, 1) := by decide +kernel
theorem dX2_takeBack_31 : decode cX2_takeBack 31 = .ok (.invokevirtual 50, 3) := by decide +kernel
theorem dX2_takeBack_34 : decode cX2_takeBack 34 = .ok (.aload_n 0, 1) := by decide +kernel
theorem dX2_takeBack_35 : decode cX2_takeBack 35 = .ok (.getfield 41, 3) := by decide +kernel
theorem dX2_takeBack_38 : decode cX2_takeBack 38 = .ok (.idiv, 1) := by decide +kernel
theorem dX2_takeBack_39 : decode cX2_takeBack 39 = .ok (.invokevirtual 63, 3) := by decide +kernel
theorem dX2_takeBack_42 : decode cX2_takeBack 42 = .ok (.iinc 1 1, 3) := by decide +kernel
theorem dX2_takeBack_45 : decode cX2_takeBack 45 = .ok (.goto (-26), 3) := by decide +kernel
theorem dX2_takeBack_48 : decode cX2_takeBack 48 = .ok (.iconst 1, 1) := by decide +kernel
theorem dX2_takeBack_49 : decode cX2_takeBack 49 = .ok (.ireturn, 1) := by decide +kernel
theorem dX2_isWholeWithoutProbe_0 : decode cX2_isWholeWithoutProbe 0 = .ok (.iconst 0, 1) := by decide +kernel
theorem dX2_isWholeWithoutProbe_1 : decode cX2_isWholeWithoutProbe 1 = .ok (.istore_n 1, 1) := by decide +kernel
theorem dX2_isWholeWithoutProbe_2 : decode cX2_isWholeWithoutProbe 2 = .ok (.iload_n 1, 1) := by decide +kernel
theorem dX2_isWholeWithoutProbe_3 : decode cX2_isWholeWithoutProbe 3 = .ok (.aload_n 0, 1) := by decide +kernel
theorem dX2_isWholeWithoutProbe_4 : decode cX2_isWholeWithoutProbe 4 = .ok (.getfield 41, 3) := by decide +kernel
theorem dX2_isWholeWithoutProbe_7 : decode cX2_isWholeWithoutProbe 7 = .ok (.if_icmp .ge 36, 3) := by decide +kernel
theorem dX2_isWholeWithoutProbe_10 : decode cX2_isWholeWithoutProbe 10 = .ok (.aload_n 0, 1) := by decide +kernel
theorem dX2_isWholeWithoutProbe_11 : decode cX2_isWholeWithoutProbe 11 = .ok (.getfield 18, 3) := by decide +kernel
theorem dX2_isWholeWithoutProbe_14 : decode cX2_isWholeWithoutProbe 14 = .ok (.iload_n 1, 1) := by decide +kernel
theorem dX2_isWholeWithoutProbe_15 : decode cX2_isWholeWithoutProbe 15 = .ok (.iaload, 1) := by decide +kernel
theorem dX2_isWholeWithoutProbe_16 : decode cX2_isWholeWithoutProbe 16 = .ok (.ifCond .eq 19, 3) := by decide +kernel
theorem dX2_isWholeWithoutProbe_19 : decode cX2_isWholeWithoutProbe 19 = .ok (.aload_n 0, 1) := by decide +kernel
theorem dX2_isWholeWithoutProbe_20 : decode cX2_isWholeWithoutProbe 20 = .ok (.getfield 21, 3) := by decide +kernel
theorem dX2_isWholeWithoutProbe_23 : decode cX2_isWholeWithoutProbe 23 = .ok (.iload_n 1, 1) := by decide +kernel
theorem dX2_isWholeWithoutProbe_24 : decode cX2_isWholeWithoutProbe 24 = .ok (.iaload, 1) := by decide +kernel
theorem dX2_isWholeWithoutProbe_25 : decode cX2_isWholeWithoutProbe 25 = .ok (.aload_n 0, 1) := by decide +kernel
theorem dX2_isWholeWithoutProbe_26 : decode cX2_isWholeWithoutProbe 26 = .ok (.getfield 18, 3) := by decide +kernel
theorem dX2_isWholeWithoutProbe_29 : decode cX2_isWholeWithoutProbe 29 = .ok (.iload_n 1, 1) := by decide +kernel
theorem dX2_isWholeWithoutProbe_30 : decode cX2_isWholeWithoutProbe 30 = .ok (.iaload, 1) := by decide +kernel
theorem dX2_isWholeWithoutProbe_31 : decode cX2_isWholeWithoutProbe 31 = .ok (.irem, 1) := by decide +kernel
theorem dX2_isWholeWithoutProbe_32 : decode cX2_isWholeWithoutProbe 32 = .ok (.ifCond .eq 5, 3) := by decide +kernel
theorem dX2_isWholeWithoutProbe_35 : decode cX2_isWholeWithoutProbe 35 = .ok (.iconst 0, 1) := by decide +kernel
theorem dX2_isWholeWithoutProbe_36 : decode cX2_isWholeWithoutProbe 36 = .ok (.ireturn, 1) := by decide +kernel
theorem dX2_isWholeWithoutProbe_37 : decode cX2_isWholeWithoutProbe 37 = .ok (.iinc 1 1, 3) := by decide +kernel
theorem dX2_isWholeWithoutProbe_40 : decode cX2_isWholeWithoutProbe 40 = .ok (.goto (-38), 3) := by decide +kernel
theorem dX2_isWholeWithoutProbe_43 : decode cX2_isWholeWithoutProbe 43 = .ok (.iconst 1, 1) := by decide +kernel
theorem dX2_isWholeWithoutProbe_44 : decode cX2_isWholeWithoutProbe 44 = .ok (.ireturn, 1) := by decide +kernel
set_option maxRecDepth 20000 in
theorem ggX2_takeProbeOff_X2_isWholeWithoutProbe : GoodIn wsX2_takeProbeOff wsX2_isWholeWithoutProbe := goodIn_r _ [8, 1, 2, 3, 9, 10, 11, 12, 13, 14, 15, 16, 17] (by decide +kernel) (by decide +kernel)
set_option maxRecDepth 20000 in
theorem gX2_takeProbeOff_X2_isWholeWithoutProbe : GoodIn wsX2_takeProbeOff (wsV RX2 67 RX2 yX2_isWholeWithoutProbe wsX2_isWholeWithoutProbe) := goodIn_app (goodIn_of _ (by decide +kernel)) ggX2_takeProbeOff_X2_isWholeWithoutProbe
theorem dX2_takeProbeOff_0 : decode cX2_takeProbeOff 0 = .ok (.aload_n 0, 1) := by decide +kernel
theorem dX2_takeProbeOff_1 : decode cX2_takeProbeOff 1 = .ok (.invokevirtual 67, 3) := by decide +kernel
theorem dX2_takeProbeOff_4 : decode cX2_takeProbeOff 4 = .ok (.ifCond .ne 5, 3) := by decide +kernel
theorem dX2_takeProbeOff_7 : decode cX2_takeProbeOff 7 = .ok (.iconst 0, 1) := by decide +kernel
theorem dX2_takeProbeOff_8 : decode cX2_takeProbeOff 8 = .ok (.ireturn, 1) := by decide +kernel
theorem dX2_takeProbeOff_9 : decode cX2_takeProbeOff 9 = .ok (.iconst 0, 1) := by decide +kernel
theorem dX2_takeProbeOff_10 : decode cX2_takeProbeOff 10 = .ok (.istore_n 1, 1) := by decide +kernel
theorem dX2_takeProbeOff_11 : decode cX2_takeProbeOff 11 = .ok (.iload_n 1, 1) := by decide +kernel
theorem dX2_takeProbeOff_12 : decode cX2_takeProbeOff 12 = .ok (.aload_n 0, 1) := by decide +kernel
theorem dX2_takeProbeOff_13 : decode cX2_takeProbeOff 13 = .ok (.getfield 41, 3) := by decide +kernel
theorem dX2_takeProbeOff_16 : decode cX2_takeProbeOff 16 = .ok (.if_icmp .ge 37, 3) := by decide +kernel
theorem dX2_takeProbeOff_19 : decode cX2_takeProbeOff 19 = .ok (.aload_n 0, 1) := by decide +kernel
theorem dX2_takeProbeOff_20 : decode cX2_takeProbeOff 20 = .ok (.getfield 18, 3) := by decide +kernel
theorem dX2_takeProbeOff_23 : decode cX2_takeProbeOff 23 = .ok (.iload_n 1, 1) := by decide +kernel
theorem dX2_takeProbeOff_24 : decode cX2_takeProbeOff 24 = .ok (.iaload, 1) := by decide +kernel
theorem dX2_takeProbeOff_25 : decode cX2_takeProbeOff 25 = .ok (.ifCond .eq 22, 3) := by decide +kernel
theorem dX2_takeProbeOff_28 : decode cX2_takeProbeOff 28 = .ok (.aload_n 0, 1) := by decide +kernel
theorem dX2_takeProbeOff_29 : decode cX2_takeProbeOff 29 = .ok (.getfield 21, 3) := by decide +kernel
theorem dX2_takeProbeOff_32 : decode cX2_takeProbeOff 32 = .ok (.iload_n 1, 1) := by decide +kernel
theorem dX2_takeProbeOff_33 : decode cX2_takeProbeOff 33 = .ok (.aload_n 0, 1) := by decide +kernel
theorem dX2_takeProbeOff_34 : decode cX2_takeProbeOff 34 = .ok (.getfield 21, 3) := by decide +kernel
theorem dX2_takeProbeOff_37 : decode cX2_takeProbeOff 37 = .ok (.iload_n 1, 1) := by decide +kernel
theorem dX2_takeProbeOff_38 : decode cX2_takeProbeOff 38 = .ok (.iaload, 1) := by decide +kernel
theorem dX2_takeProbeOff_39 : decode cX2_takeProbeOff 39 = .ok (.aload_n 0, 1) := by decide +kernel
theorem dX2_takeProbeOff_40 : decode cX2_takeProbeOff 40 = .ok (.getfield 18, 3) := by decide +kernel
theorem dX2_takeProbeOff_43 : decode cX2_takeProbeOff 43 = .ok (.iload_n 1, 1) := by decide +kernel
theorem dX2_takeProbeOff_44 : decode cX2_takeProbeOff 44 = .ok (.iaload, 1) := by decide +kernel
theorem dX2_takeProbeOff_45 : decode cX2_takeProbeOff 45 = .ok (.idiv, 1) := by decide +kernel
theorem dX2_takeProbeOff_46 : decode cX2_takeProbeOff 46 = .ok (.iastore, 1) := by decide +kernel
theorem dX2_takeProbeOff_47 : decode cX2_takeProbeOff 47 = .ok (.iinc 1 1, 3) := by decide +kernel
theorem dX2_takeProbeOff_50 : decode cX2_takeProbeOff 50 = .ok (.goto (-39), 3) := by decide +kernel
theorem dX2_takeProbeOff_53 : decode cX2_takeProbeOff 53 = .ok (.iconst 1, 1) := by decide +kernel
theorem dX2_takeProbeOff_54 : decode cX2_takeProbeOff 54 = .ok (.ireturn, 1) := by decide +kernel
set_option maxRecDepth 20000 in
theorem ggX2_sumThrough_X5_passes : GoodIn wsX2_sumThrough wsX5_passes := goodIn_r _ [5] (by decide +kernel) (by decide +kernel)
set_option maxRecDepth 20000 in
theorem gX2_sumThrough_X5_passes_n70 : GoodIn wsX2_sumThrough (wsX5_passes) := ggX2_sumThrough_X5_passes
set_option maxRecDepth 20000 in
theorem ggX2_sumThrough_X5_signOf : GoodIn wsX2_sumThrough wsX5_signOf := goodIn_r _ [7, 8, 9, 10, 11, 12, 13, 14] (by decide +kernel) (by decide +kernel)
set_option maxRecDepth 20000 in
theorem gX2_sumThrough_X5_signOf_n46 : GoodIn wsX2_sumThrough (wsX5_signOf) := ggX2_sumThrough_X5_signOf
theorem dX2_sumThrough_0 : decode cX2_sumThrough 0 = .ok (.iconst 0, 1) := by decide +kernel
theorem dX2_sumThrough_1 : decode cX2_sumThrough 1 = .ok (.istore 4, 2) := by decide +kernel
theorem dX2_sumThrough_3 : decode cX2_sumThrough 3 = .ok (.iconst 0, 1) := by decide +kernel
theorem dX2_sumThrough_4 : decode cX2_sumThrough 4 = .ok (.istore 5, 2) := by decide +kernel
theorem dX2_sumThrough_6 : decode cX2_sumThrough 6 = .ok (.iload 5, 2) := by decide +kernel
theorem dX2_sumThrough_8 : decode cX2_sumThrough 8 = .ok (.aload_n 0, 1) := by decide +kernel
theorem dX2_sumThrough_9 : decode cX2_sumThrough 9 = .ok (.getfield 41, 3) := by decide +kernel
theorem dX2_sumThrough_12 : decode cX2_sumThrough 12 = .ok (.if_icmp .ge 38, 3) := by decide +kernel
theorem dX2_sumThrough_15 : decode cX2_sumThrough 15 = .ok (.iload 5, 2) := by decide +kernel
theorem dX2_sumThrough_17 : decode cX2_sumThrough 17 = .ok (.iload_n 2, 1) := by decide +kernel
theorem dX2_sumThrough_18 : decode cX2_sumThrough 18 = .ok (.iload_n 3, 1) := by decide +kernel
theorem dX2_sumThrough_19 : decode cX2_sumThrough 19 = .ok (.invokestatic 70, 3) := by decide +kernel
theorem dX2_sumThrough_22 : decode cX2_sumThrough 22 = .ok (.ifCond .eq 22, 3) := by decide +kernel
theorem dX2_sumThrough_25 : decode cX2_sumThrough 25 = .ok (.iload 4, 2) := by decide +kernel
theorem dX2_sumThrough_27 : decode cX2_sumThrough 27 = .ok (.aload_n 0, 1) := by decide +kernel
theorem dX2_sumThrough_28 : decode cX2_sumThrough 28 = .ok (.getfield 15, 3) := by decide +kernel
theorem dX2_sumThrough_31 : decode cX2_sumThrough 31 = .ok (.iload 5, 2) := by decide +kernel
theorem dX2_sumThrough_33 : decode cX2_sumThrough 33 = .ok (.iaload, 1) := by decide +kernel
theorem dX2_sumThrough_34 : decode cX2_sumThrough 34 = .ok (.iload_n 1, 1) := by decide +kernel
theorem dX2_sumThrough_35 : decode cX2_sumThrough 35 = .ok (.iload 5, 2) := by decide +kernel
theorem dX2_sumThrough_37 : decode cX2_sumThrough 37 = .ok (.invokestatic 46, 3) := by decide +kernel
theorem dX2_sumThrough_40 : decode cX2_sumThrough 40 = .ok (.imul, 1) := by decide +kernel
theorem dX2_sumThrough_41 : decode cX2_sumThrough 41 = .ok (.iadd, 1) := by decide +kernel
theorem dX2_sumThrough_42 : decode cX2_sumThrough 42 = .ok (.istore 4, 2) := by decide +kernel
theorem dX2_sumThrough_44 : decode cX2_sumThrough 44 = .ok (.iinc 5 1, 3) := by decide +kernel
theorem dX2_sumThrough_47 : decode cX2_sumThrough 47 = .ok (.goto (-41), 3) := by decide +kernel
theorem dX2_sumThrough_50 : decode cX2_sumThrough 50 = .ok (.iload 4, 2) := by decide +kernel
theorem dX2_sumThrough_52 : decode cX2_sumThrough 52 = .ok (.ireturn, 1) := by decide +kernel
set_option maxRecDepth 20000 in
theorem ggX2_squaresThrough_X5_passes : GoodIn wsX2_squaresThrough wsX5_passes := goodIn_r _ [5] (by decide +kernel) (by decide +kernel)
set_option maxRecDepth 20000 in
theorem gX2_squaresThrough_X5_passes_n70 : GoodIn wsX2_squaresThrough (wsX5_passes) := ggX2_squaresThrough_X5_passes
theorem dX2_squaresThrough_0 : decode cX2_squaresThrough 0 = .ok (.lconst 0, 1) := by decide +kernel
theorem dX2_squaresThrough_1 : decode cX2_squaresThrough 1 = .ok (.lstore_n 3, 1) := by decide +kernel
theorem dX2_squaresThrough_2 : decode cX2_squaresThrough 2 = .ok (.iconst 0, 1) := by decide +kernel
theorem dX2_squaresThrough_3 : decode cX2_squaresThrough 3 = .ok (.istore 5, 2) := by decide +kernel
theorem dX2_squaresThrough_5 : decode cX2_squaresThrough 5 = .ok (.iload 5, 2) := by decide +kernel
theorem dX2_squaresThrough_7 : decode cX2_squaresThrough 7 = .ok (.aload_n 0, 1) := by decide +kernel
theorem dX2_squaresThrough_8 : decode cX2_squaresThrough 8 = .ok (.getfield 41, 3) := by decide +kernel
theorem dX2_squaresThrough_11 : decode cX2_squaresThrough 11 = .ok (.if_icmp .ge 39, 3) := by decide +kernel
theorem dX2_squaresThrough_14 : decode cX2_squaresThrough 14 = .ok (.iload 5, 2) := by decide +kernel
theorem dX2_squaresThrough_16 : decode cX2_squaresThrough 16 = .ok (.iload_n 1, 1) := by decide +kernel
theorem dX2_squaresThrough_17 : decode cX2_squaresThrough 17 = .ok (.iload_n 2, 1) := by decide +kernel
theorem dX2_squaresThrough_18 : decode cX2_squaresThrough 18 = .ok (.invokestatic 70, 3) := by decide +kernel
theorem dX2_squaresThrough_21 : decode cX2_squaresThrough 21 = .ok (.ifCond .eq 23, 3) := by decide +kernel
theorem dX2_squaresThrough_24 : decode cX2_squaresThrough 24 = .ok (.lload_n 3, 1) := by decide +kernel
theorem dX2_squaresThrough_25 : decode cX2_squaresThrough 25 = .ok (.aload_n 0, 1) := by decide +kernel
theorem dX2_squaresThrough_26 : decode cX2_squaresThrough 26 = .ok (.getfield 15, 3) := by decide +kernel
theorem dX2_squaresThrough_29 : decode cX2_squaresThrough 29 = .ok (.iload 5, 2) := by decide +kernel
theorem dX2_squaresThrough_31 : decode cX2_squaresThrough 31 = .ok (.iaload, 1) := by decide +kernel
theorem dX2_squaresThrough_32 : decode cX2_squaresThrough 32 = .ok (.i2l, 1) := by decide +kernel
theorem dX2_squaresThrough_33 : decode cX2_squaresThrough 33 = .ok (.aload_n 0, 1) := by decide +kernel
theorem dX2_squaresThrough_34 : decode cX2_squaresThrough 34 = .ok (.getfield 15, 3) := by decide +kernel
theorem dX2_squaresThrough_37 : decode cX2_squaresThrough 37 = .ok (.iload 5, 2) := by decide +kernel
theorem dX2_squaresThrough_39 : decode cX2_squaresThrough 39 = .ok (.iaload, 1) := by decide +kernel
theorem dX2_squaresThrough_40 : decode cX2_squaresThrough 40 = .ok (.i2l, 1) := by decide +kernel
theorem dX2_squaresThrough_41 : decode cX2_squaresThrough 41 = .ok (.lmul, 1) := by decide +kernel
theorem dX2_squaresThrough_42 : decode cX2_squaresThrough 42 = .ok (.ladd, 1) := by decide +kernel
theorem dX2_squaresThrough_43 : decode cX2_squaresThrough 43 = .ok (.lstore_n 3, 1) := by decide +kernel
theorem dX2_squaresThrough_44 : decode cX2_squaresThrough 44 = .ok (.iinc 5 1, 3) := by decide +kernel
theorem dX2_squaresThrough_47 : decode cX2_squaresThrough 47 = .ok (.goto (-42), 3) := by decide +kernel
theorem dX2_squaresThrough_50 : decode cX2_squaresThrough 50 = .ok (.lload_n 3, 1) := by decide +kernel
theorem dX2_squaresThrough_51 : decode cX2_squaresThrough 51 = .ok (.lreturn, 1) := by decide +kernel
set_option maxRecDepth 20000 in
theorem ggX2_countLost_X2_countTrue : GoodIn wsX2_countLost wsX2_countTrue := goodIn_r _ [5] (by decide +kernel) (by decide +kernel)
set_option maxRecDepth 20000 in
theorem gX2_countLost_X2_countTrue : GoodIn wsX2_countLost (va_wsS RX2 74 yX2_countTrue wsX2_countTrue) := goodIn_app (goodIn_of _ (by decide +kernel)) ggX2_countLost_X2_countTrue
theorem dX2_countLost_0 : decode cX2_countLost 0 = .ok (.aload_n 0, 1) := by decide +kernel
theorem dX2_countLost_1 : decode cX2_countLost 1 = .ok (.getfield 30, 3) := by decide +kernel
theorem dX2_countLost_4 : decode cX2_countLost 4 = .ok (.invokestatic 74, 3) := by decide +kernel
theorem dX2_countLost_7 : decode cX2_countLost 7 = .ok (.ireturn, 1) := by decide +kernel
set_option maxRecDepth 20000 in
theorem ggX2_countMeasured_X2_countTrue : GoodIn wsX2_countMeasured wsX2_countTrue := goodIn_r _ [5] (by decide +kernel) (by decide +kernel)
set_option maxRecDepth 20000 in
theorem gX2_countMeasured_X2_countTrue : GoodIn wsX2_countMeasured (va_wsS RX2 74 yX2_countTrue wsX2_countTrue) := goodIn_app (goodIn_of _ (by decide +kernel)) ggX2_countMeasured_X2_countTrue
theorem dX2_countMeasured_0 : decode cX2_countMeasured 0 = .ok (.aload_n 0, 1) := by decide +kernel
theorem dX2_countMeasured_1 : decode cX2_countMeasured 1 = .ok (.getfield 34, 3) := by decide +kernel
theorem dX2_countMeasured_4 : decode cX2_countMeasured 4 = .ok (.invokestatic 74, 3) := by decide +kernel
theorem dX2_countMeasured_7 : decode cX2_countMeasured 7 = .ok (.ireturn, 1) := by decide +kernel
theorem dX2_countTrue_0 : decode cX2_countTrue 0 = .ok (.iconst 0, 1) := by decide +kernel
theorem dX2_countTrue_1 : decode cX2_countTrue 1 = .ok (.istore_n 1, 1) := by decide +kernel
theorem dX2_countTrue_2 : decode cX2_countTrue 2 = .ok (.aload_n 0, 1) := by decide +kernel
theorem dX2_countTrue_3 : decode cX2_countTrue 3 = .ok (.astore_n 2, 1) := by decide +kernel
theorem dX2_countTrue_4 : decode cX2_countTrue 4 = .ok (.aload_n 2, 1) := by decide +kernel
theorem dX2_countTrue_5 : decode cX2_countTrue 5 = .ok (.arraylength, 1) := by decide +kernel
theorem dX2_countTrue_6 : decode cX2_countTrue 6 = .ok (.istore_n 3, 1) := by decide +kernel
theorem dX2_countTrue_7 : decode cX2_countTrue 7 = .ok (.iconst 0, 1) := by decide +kernel
theorem dX2_countTrue_8 : decode cX2_countTrue 8 = .ok (.istore 4, 2) := by decide +kernel
theorem dX2_countTrue_10 : decode cX2_countTrue 10 = .ok (.iload 4, 2) := by decide +kernel
theorem dX2_countTrue_12 : decode cX2_countTrue 12 = .ok (.iload_n 3, 1) := by decide +kernel
theorem dX2_countTrue_13 : decode cX2_countTrue 13 = .ok (.if_icmp .ge 23, 3) := by decide +kernel
theorem dX2_countTrue_16 : decode cX2_countTrue 16 = .ok (.aload_n 2, 1) := by decide +kernel
theorem dX2_countTrue_17 : decode cX2_countTrue 17 = .ok (.iload 4, 2) := by decide +kernel
theorem dX2_countTrue_19 : decode cX2_countTrue 19 = .ok (.baload, 1) := by decide +kernel
theorem dX2_countTrue_20 : decode cX2_countTrue 20 = .ok (.istore 5, 2) := by decide +kernel
theorem dX2_countTrue_22 : decode cX2_countTrue 22 = .ok (.iload 5, 2) := by decide +kernel
theorem dX2_countTrue_24 : decode cX2_countTrue 24 = .ok (.ifCond .eq 6, 3) := by decide +kernel
theorem dX2_countTrue_27 : decode cX2_countTrue 27 = .ok (.iinc 1 1, 3) := by decide +kernel
theorem dX2_countTrue_30 : decode cX2_countTrue 30 = .ok (.iinc 4 1, 3) := by decide +kernel
theorem dX2_countTrue_33 : decode cX2_countTrue 33 = .ok (.goto (-23), 3) := by decide +kernel
theorem dX2_countTrue_36 : decode cX2_countTrue 36 = .ok (.iload_n 1, 1) := by decide +kernel
theorem dX2_countTrue_37 : decode cX2_countTrue 37 = .ok (.ireturn, 1) := by decide +kernel
theorem dX2_offAt_0 : decode cX2_offAt 0 = .ok (.aload_n 0, 1) := by decide +kernel
theorem dX2_offAt_1 : decode cX2_offAt 1 = .ok (.getfield 34, 3) := by decide +kernel
theorem dX2_offAt_4 : decode cX2_offAt 4 = .ok (.iload_n 1, 1) := by decide +kernel
theorem dX2_offAt_5 : decode cX2_offAt 5 = .ok (.baload, 1) := by decide +kernel
theorem dX2_offAt_6 : decode cX2_offAt 6 = .ok (.ifCond .eq 19, 3) := by decide +kernel
theorem dX2_offAt_9 : decode cX2_offAt 9 = .ok (.aload_n 0, 1) := by decide +kernel
theorem dX2_offAt_10 : decode cX2_offAt 10 = .ok (.getfield 24, 3) := by decide +kernel
theorem dX2_offAt_13 : decode cX2_offAt 13 = .ok (.iload_n 1, 1) := by decide +kernel
theorem dX2_offAt_14 : decode cX2_offAt 14 = .ok (.iaload, 1) := by decide +kernel
theorem dX2_offAt_15 : decode cX2_offAt 15 = .ok (.aload_n 0, 1) := by decide +kernel
theorem dX2_offAt_16 : decode cX2_offAt 16 = .ok (.getfield 15, 3) := by decide +kernel
theorem dX2_offAt_19 : decode cX2_offAt 19 = .ok (.iload_n 1, 1) := by decide +kernel
theorem dX2_offAt_20 : decode cX2_offAt 20 = .ok (.iaload, 1) := by decide +kernel
theorem dX2_offAt_21 : decode cX2_offAt 21 = .ok (.isub, 1) := by decide +kernel
theorem dX2_offAt_22 : decode cX2_offAt 22 = .ok (.goto 4, 3) := by decide +kernel
theorem dX2_offAt_25 : decode cX2_offAt 25 = .ok (.iconst 0, 1) := by decide +kernel
theorem dX2_offAt_26 : decode cX2_offAt 26 = .ok (.ireturn, 1) := by decide +kernel
set_option maxRecDepth 20000 in
theorem ggX2_isAnythingOff_X2_offAt : GoodIn wsX2_isAnythingOff wsX2_offAt := goodIn_r _ [6, 7, 8, 9, 10, 11, 12, 13, 14, 15, 16, 17, 18] (by decide +kernel) (by decide +kernel)
set_option maxRecDepth 20000 in
theorem gX2_isAnythingOff_X2_offAt : GoodIn wsX2_isAnythingOff (wsV RX2 78 RX2 yX2_offAt wsX2_offAt) := goodIn_app (goodIn_of _ (by decide +kernel)) ggX2_isAnythingOff_X2_offAt
theorem dX2_isAnythingOff_0 : decode cX2_isAnythingOff 0 = .ok (.iconst 0, 1) := by decide +kernel
theorem dX2_isAnythingOff_1 : decode cX2_isAnythingOff 1 = .ok (.istore_n 1, 1) := by decide +kernel
theorem dX2_isAnythingOff_2 : decode cX2_isAnythingOff 2 = .ok (.iload_n 1, 1) := by decide +kernel
theorem dX2_isAnythingOff_3 : decode cX2_isAnythingOff 3 = .ok (.aload_n 0, 1) := by decide +kernel
theorem dX2_isAnythingOff_4 : decode cX2_isAnythingOff 4 = .ok (.getfield 41, 3) := by decide +kernel
theorem dX2_isAnythingOff_7 : decode cX2_isAnythingOff 7 = .ok (.if_icmp .ge 19, 3) := by decide +kernel
theorem dX2_isAnythingOff_10 : decode cX2_isAnythingOff 10 = .ok (.aload_n 0, 1) := by decide +kernel
theorem dX2_isAnythingOff_11 : decode cX2_isAnythingOff 11 = .ok (.iload_n 1, 1) := by decide +kernel
theorem dX2_isAnythingOff_12 : decode cX2_isAnythingOff 12 = .ok (.invokevirtual 78, 3) := by decide +kernel
theorem dX2_isAnythingOff_15 : decode cX2_isAnythingOff 15 = .ok (.ifCond .eq 5, 3) := by decide +kernel
theorem dX2_isAnythingOff_18 : decode cX2_isAnythingOff 18 = .ok (.iconst 1, 1) := by decide +kernel
theorem dX2_isAnythingOff_19 : decode cX2_isAnythingOff 19 = .ok (.ireturn, 1) := by decide +kernel
theorem dX2_isAnythingOff_20 : decode cX2_isAnythingOff 20 = .ok (.iinc 1 1, 3) := by decide +kernel
theorem dX2_isAnythingOff_23 : decode cX2_isAnythingOff 23 = .ok (.goto (-21), 3) := by decide +kernel
theorem dX2_isAnythingOff_26 : decode cX2_isAnythingOff 26 = .ok (.iconst 0, 1) := by decide +kernel
theorem dX2_isAnythingOff_27 : decode cX2_isAnythingOff 27 = .ok (.ireturn, 1) := by decide +kernel
theorem dX2_firstMeasured_0 : decode cX2_firstMeasured 0 = .ok (.iconst 0, 1) := by decide +kernel
theorem dX2_firstMeasured_1 : decode cX2_firstMeasured 1 = .ok (.istore_n 1, 1) := by decide +kernel
theorem dX2_firstMeasured_2 : decode cX2_firstMeasured 2 = .ok (.iload_n 1, 1) := by decide +kernel
theorem dX2_firstMeasured_3 : decode cX2_firstMeasured 3 = .ok (.aload_n 0, 1) := by decide +kernel
theorem dX2_firstMeasured_4 : decode cX2_firstMeasured 4 = .ok (.getfield 41, 3) := by decide +kernel
theorem dX2_firstMeasured_7 : decode cX2_firstMeasured 7 = .ok (.if_icmp .ge 20, 3) := by decide +kernel
theorem dX2_firstMeasured_10 : decode cX2_firstMeasured 10 = .ok (.aload_n 0, 1) := by decide +kernel
theorem dX2_firstMeasured_11 : decode cX2_firstMeasured 11 = .ok (.getfield 34, 3) := by decide +kernel
theorem dX2_firstMeasured_14 : decode cX2_firstMeasured 14 = .ok (.iload_n 1, 1) := by decide +kernel
theorem dX2_firstMeasured_15 : decode cX2_firstMeasured 15 = .ok (.baload, 1) := by decide +kernel
theorem dX2_firstMeasured_16 : decode cX2_firstMeasured 16 = .ok (.ifCond .eq 5, 3) := by decide +kernel
theorem dX2_firstMeasured_19 : decode cX2_firstMeasured 19 = .ok (.iload_n 1, 1) := by decide +kernel
theorem dX2_firstMeasured_20 : decode cX2_firstMeasured 20 = .ok (.ireturn, 1) := by decide +kernel
theorem dX2_firstMeasured_21 : decode cX2_firstMeasured 21 = .ok (.iinc 1 1, 3) := by decide +kernel
theorem dX2_firstMeasured_24 : decode cX2_firstMeasured 24 = .ok (.goto (-22), 3) := by decide +kernel
theorem dX2_firstMeasured_27 : decode cX2_firstMeasured 27 = .ok (.iconst (-1), 1) := by decide +kernel
theorem dX2_firstMeasured_28 : decode cX2_firstMeasured 28 = .ok (.ireturn, 1) := by decide +kernel
set_option maxRecDepth 20000 in
theorem ggX2_faultOf_X2_firstMeasured : GoodIn wsX2_faultOf wsX2_firstMeasured := goodIn_r _ [7, 1, 2, 24, 25, 26, 27, 28, 29, 30, 31, 32] (by decide +kernel) (by decide +kernel)
set_option maxRecDepth 20000 in
theorem gX2_faultOf_X2_firstMeasured : GoodIn wsX2_faultOf (wsV RX2 81 RX2 yX2_firstMeasured wsX2_firstMeasured) := goodIn_app (goodIn_of _ (by decide +kernel)) ggX2_faultOf_X2_firstMeasured
set_option maxRecDepth 20000 in
theorem ggX2_faultOf_X2_offAt : GoodIn wsX2_faultOf wsX2_offAt := goodIn_r _ [11, 2, 12, 13, 24, 25, 26, 27, 28, 29, 30, 31, 32] (by decide +kernel) (by decide +kernel)
set_option maxRecDepth 20000 in
theorem gX2_faultOf_X2_offAt : GoodIn wsX2_faultOf (wsV RX2 78 RX2 yX2_offAt wsX2_offAt) := goodIn_app (goodIn_of _ (by decide +kernel)) ggX2_faultOf_X2_offAt
set_option maxRecDepth 20000 in
theorem ggX2_faultOf_X5_signOf : GoodIn wsX2_faultOf wsX5_signOf := goodIn_r _ [16, 17, 18, 19, 20, 21, 22, 23] (by decide +kernel) (by decide +kernel)
set_option maxRecDepth 20000 in
theorem gX2_faultOf_X5_signOf_n46 : GoodIn wsX2_faultOf (wsX5_signOf) := ggX2_faultOf_X5_signOf
theorem dX2_faultOf_0 : decode cX2_faultOf 0 = .ok (.aload_n 0, 1) := by decide +kernel
theorem dX2_faultOf_1 : decode cX2_faultOf 1 = .ok (.invokevirtual 81, 3) := by decide +kernel
theorem dX2_faultOf_4 : decode cX2_faultOf 4 = .ok (.istore_n 2, 1) := by decide +kernel
theorem dX2_faultOf_5 : decode cX2_faultOf 5 = .ok (.iload_n 2, 1) := by decide +kernel
theorem dX2_faultOf_6 : decode cX2_faultOf 6 = .ok (.iconst (-1), 1) := by decide +kernel
theorem dX2_faultOf_7 : decode cX2_faultOf 7 = .ok (.if_icmp .ne 5, 3) := by decide +kernel
theorem dX2_faultOf_10 : decode cX2_faultOf 10 = .ok (.iconst 0, 1) := by decide +kernel
theorem dX2_faultOf_11 : decode cX2_faultOf 11 = .ok (.ireturn, 1) := by decide +kernel
theorem dX2_faultOf_12 : decode cX2_faultOf 12 = .ok (.aload_n 0, 1) := by decide +kernel
theorem dX2_faultOf_13 : decode cX2_faultOf 13 = .ok (.iload_n 2, 1) := by decide +kernel
theorem dX2_faultOf_14 : decode cX2_faultOf 14 = .ok (.invokevirtual 78, 3) := by decide +kernel
theorem dX2_faultOf_17 : decode cX2_faultOf 17 = .ok (.iload_n 1, 1) := by decide +kernel
theorem dX2_faultOf_18 : decode cX2_faultOf 18 = .ok (.iload_n 2, 1) := by decide +kernel
theorem dX2_faultOf_19 : decode cX2_faultOf 19 = .ok (.invokestatic 46, 3) := by decide +kernel
theorem dX2_faultOf_22 : decode cX2_faultOf 22 = .ok (.imul, 1) := by decide +kernel
theorem dX2_faultOf_23 : decode cX2_faultOf 23 = .ok (.istore_n 3, 1) := by decide +kernel
theorem dX2_faultOf_24 : decode cX2_faultOf 24 = .ok (.iload_n 2, 1) := by decide +kernel
theorem dX2_faultOf_25 : decode cX2_faultOf 25 = .ok (.istore 4, 2) := by decide +kernel
theorem dX2_faultOf_27 : decode cX2_faultOf 27 = .ok (.iload 4, 2) := by decide +kernel
theorem dX2_faultOf_29 : decode cX2_faultOf 29 = .ok (.aload_n 0, 1) := by decide +kernel
theorem dX2_faultOf_30 : decode cX2_faultOf 30 = .ok (.getfield 41, 3) := by decide +kernel
theorem dX2_faultOf_33 : decode cX2_faultOf 33 = .ok (.if_icmp .ge 38, 3) := by decide +kernel
theorem dX2_faultOf_36 : decode cX2_faultOf 36 = .ok (.aload_n 0, 1) := by decide +kernel
theorem dX2_faultOf_37 : decode cX2_faultOf 37 = .ok (.getfield 34, 3) := by decide +kernel
theorem dX2_faultOf_40 : decode cX2_faultOf 40 = .ok (.iload 4, 2) := by decide +kernel
theorem dX2_faultOf_42 : decode cX2_faultOf 42 = .ok (.baload, 1) := by decide +kernel
theorem dX2_faultOf_43 : decode cX2_faultOf 43 = .ok (.ifCond .eq 22, 3) := by decide +kernel
theorem dX2_faultOf_46 : decode cX2_faultOf 46 = .ok (.aload_n 0, 1) := by decide +kernel
theorem dX2_faultOf_47 : decode cX2_faultOf 47 = .ok (.iload 4, 2) := by decide +kernel
theorem dX2_faultOf_49 : decode cX2_faultOf 49 = .ok (.invokevirtual 78, 3) := by decide +kernel
theorem dX2_faultOf_52 : decode cX2_faultOf 52 = .ok (.iload_n 3, 1) := by decide +kernel
theorem dX2_faultOf_53 : decode cX2_faultOf 53 = .ok (.iload_n 1, 1) := by decide +kernel
theorem dX2_faultOf_54 : decode cX2_faultOf 54 = .ok (.iload 4, 2) := by decide +kernel
theorem dX2_faultOf_56 : decode cX2_faultOf 56 = .ok (.invokestatic 46, 3) := by decide +kernel
theorem dX2_faultOf_59 : decode cX2_faultOf 59 = .ok (.imul, 1) := by decide +kernel
theorem dX2_faultOf_60 : decode cX2_faultOf 60 = .ok (.if_icmp .eq 5, 3) := by decide +kernel
theorem dX2_faultOf_63 : decode cX2_faultOf 63 = .ok (.iconst 0, 1) := by decide +kernel
theorem dX2_faultOf_64 : decode cX2_faultOf 64 = .ok (.ireturn, 1) := by decide +kernel
theorem dX2_faultOf_65 : decode cX2_faultOf 65 = .ok (.iinc 4 1, 3) := by decide +kernel
theorem dX2_faultOf_68 : decode cX2_faultOf 68 = .ok (.goto (-41), 3) := by decide +kernel
theorem dX2_faultOf_71 : decode cX2_faultOf 71 = .ok (.iload_n 3, 1) := by decide +kernel
theorem dX2_faultOf_72 : decode cX2_faultOf 72 = .ok (.ireturn, 1) := by decide +kernel
set_option maxRecDepth 20000 in
theorem ggX2_countFaults_X2_faultOf : GoodIn wsX2_countFaults wsX2_faultOf := goodIn_r _ [6, 1, 7, 8, 9, 10, 5, 11, 12, 13, 14, 15, 16, 17, 18, 19, 20, 21, 22, 23, 24, 25, 26, 27, 28, 29, 30, 31, 32, 33, 34, 35, 36] (by decide +kernel) (by decide +kernel)
set_option maxRecDepth 20000 in
theorem gX2_countFaults_X2_faultOf : GoodIn wsX2_countFaults (wsV RX2 85 RX2 yX2_faultOf wsX2_faultOf) := goodIn_app (goodIn_of _ (by decide +kernel)) ggX2_countFaults_X2_faultOf
theorem dX2_countFaults_0 : decode cX2_countFaults 0 = .ok (.iconst 0, 1) := by decide +kernel
theorem dX2_countFaults_1 : decode cX2_countFaults 1 = .ok (.istore_n 1, 1) := by decide +kernel
theorem dX2_countFaults_2 : decode cX2_countFaults 2 = .ok (.iconst 0, 1) := by decide +kernel
theorem dX2_countFaults_3 : decode cX2_countFaults 3 = .ok (.istore_n 2, 1) := by decide +kernel
theorem dX2_countFaults_4 : decode cX2_countFaults 4 = .ok (.iload_n 2, 1) := by decide +kernel
theorem dX2_countFaults_5 : decode cX2_countFaults 5 = .ok (.aload_n 0, 1) := by decide +kernel
theorem dX2_countFaults_6 : decode cX2_countFaults 6 = .ok (.getfield 41, 3) := by decide +kernel
theorem dX2_countFaults_9 : decode cX2_countFaults 9 = .ok (.if_icmp .ge 20, 3) := by decide +kernel
theorem dX2_countFaults_12 : decode cX2_countFaults 12 = .ok (.aload_n 0, 1) := by decide +kernel
theorem dX2_countFaults_13 : decode cX2_countFaults 13 = .ok (.iload_n 2, 1) := by decide +kernel
theorem dX2_countFaults_14 : decode cX2_countFaults 14 = .ok (.invokevirtual 85, 3) := by decide +kernel
theorem dX2_countFaults_17 : decode cX2_countFaults 17 = .ok (.ifCond .eq 6, 3) := by decide +kernel
theorem dX2_countFaults_20 : decode cX2_countFaults 20 = .ok (.iinc 1 1, 3) := by decide +kernel
theorem dX2_countFaults_23 : decode cX2_countFaults 23 = .ok (.iinc 2 1, 3) := by decide +kernel
theorem dX2_countFaults_26 : decode cX2_countFaults 26 = .ok (.goto (-22), 3) := by decide +kernel
theorem dX2_countFaults_29 : decode cX2_countFaults 29 = .ok (.iload_n 1, 1) := by decide +kernel
theorem dX2_countFaults_30 : decode cX2_countFaults 30 = .ok (.ireturn, 1) := by decide +kernel
set_option maxRecDepth 20000 in
theorem ggX2_elementOfFault_X2_faultOf : GoodIn wsX2_elementOfFault wsX2_faultOf := goodIn_r _ [6, 1, 7, 8, 9, 10, 5, 11, 12, 13, 14, 15, 16, 17, 18, 19, 20, 21, 22, 23, 24, 25, 26, 27, 28, 29, 30, 31, 32, 33, 34, 35, 36] (by decide +kernel) (by decide +kernel)
set_option maxRecDepth 20000 in
theorem gX2_elementOfFault_X2_faultOf : GoodIn wsX2_elementOfFault (wsV RX2 85 RX2 yX2_faultOf wsX2_faultOf) := goodIn_app (goodIn_of _ (by decide +kernel)) ggX2_elementOfFault_X2_faultOf
theorem dX2_elementOfFault_0 : decode cX2_elementOfFault 0 = .ok (.iconst 0, 1) := by decide +kernel
theorem dX2_elementOfFault_1 : decode cX2_elementOfFault 1 = .ok (.istore_n 2, 1) := by decide +kernel
theorem dX2_elementOfFault_2 : decode cX2_elementOfFault 2 = .ok (.iconst 0, 1) := by decide +kernel
theorem dX2_elementOfFault_3 : decode cX2_elementOfFault 3 = .ok (.istore_n 3, 1) := by decide +kernel
theorem dX2_elementOfFault_4 : decode cX2_elementOfFault 4 = .ok (.iload_n 3, 1) := by decide +kernel
theorem dX2_elementOfFault_5 : decode cX2_elementOfFault 5 = .ok (.aload_n 0, 1) := by decide +kernel
theorem dX2_elementOfFault_6 : decode cX2_elementOfFault 6 = .ok (.getfield 41, 3) := by decide +kernel
theorem dX2_elementOfFault_9 : decode cX2_elementOfFault 9 = .ok (.if_icmp .ge 27, 3) := by decide +kernel
theorem dX2_elementOfFault_12 : decode cX2_elementOfFault 12 = .ok (.aload_n 0, 1) := by decide +kernel
theorem dX2_elementOfFault_13 : decode cX2_elementOfFault 13 = .ok (.iload_n 3, 1) := by decide +kernel
theorem dX2_elementOfFault_14 : decode cX2_elementOfFault 14 = .ok (.invokevirtual 85, 3) := by decide +kernel
theorem dX2_elementOfFault_17 : decode cX2_elementOfFault 17 = .ok (.ifCond .eq 13, 3) := by decide +kernel
theorem dX2_elementOfFault_20 : decode cX2_elementOfFault 20 = .ok (.iload_n 2, 1) := by decide +kernel
theorem dX2_elementOfFault_21 : decode cX2_elementOfFault 21 = .ok (.iload_n 1, 1) := by decide +kernel
theorem dX2_elementOfFault_22 : decode cX2_elementOfFault 22 = .ok (.if_icmp .ne 5, 3) := by decide +kernel
theorem dX2_elementOfFault_25 : decode cX2_elementOfFault 25 = .ok (.iload_n 3, 1) := by decide +kernel
theorem dX2_elementOfFault_26 : decode cX2_elementOfFault 26 = .ok (.ireturn, 1) := by decide +kernel
theorem dX2_elementOfFault_27 : decode cX2_elementOfFault 27 = .ok (.iinc 2 1, 3) := by decide +kernel
theorem dX2_elementOfFault_30 : decode cX2_elementOfFault 30 = .ok (.iinc 3 1, 3) := by decide +kernel
theorem dX2_elementOfFault_33 : decode cX2_elementOfFault 33 = .ok (.goto (-29), 3) := by decide +kernel
theorem dX2_elementOfFault_36 : decode cX2_elementOfFault 36 = .ok (.iconst (-1), 1) := by decide +kernel
theorem dX2_elementOfFault_37 : decode cX2_elementOfFault 37 = .ok (.ireturn, 1) := by decide +kernel
set_option maxRecDepth 20000 in
theorem ggX2_foldInto_X5_fold : GoodIn wsX2_foldInto wsX5_fold := goodIn_r _ [11, 12] (by decide +kernel) (by decide +kernel)
set_option maxRecDepth 20000 in
theorem gX2_foldInto_X5_fold_n88 : GoodIn wsX2_foldInto (wsX5_fold) := ggX2_foldInto_X5_fold
set_option maxRecDepth 20000 in
theorem ggX2_foldInto_X5_foldIfKnown : GoodIn wsX2_foldInto wsX5_foldIfKnown := goodIn_r _ [14, 15, 9, 10, 11, 12] (by decide +kernel) (by decide +kernel)
set_option maxRecDepth 20000 in
theorem gX2_foldInto_X5_foldIfKnown_n92 : GoodIn wsX2_foldInto (wsX5_foldIfKnown) := ggX2_foldInto_X5_foldIfKnown
theorem dX2_foldInto_0 : decode cX2_foldInto 0 = .ok (.lload_n 1, 1) := by decide +kernel
theorem dX2_foldInto_1 : decode cX2_foldInto 1 = .ok (.aload_n 0, 1) := by decide +kernel
theorem dX2_foldInto_2 : decode cX2_foldInto 2 = .ok (.getfield 41, 3) := by decide +kernel
theorem dX2_foldInto_5 : decode cX2_foldInto 5 = .ok (.i2l, 1) := by decide +kernel
theorem dX2_foldInto_6 : decode cX2_foldInto 6 = .ok (.invokestatic 88, 3) := by decide +kernel
theorem dX2_foldInto_9 : decode cX2_foldInto 9 = .ok (.lstore_n 3, 1) := by decide +kernel
theorem dX2_foldInto_10 : decode cX2_foldInto 10 = .ok (.iconst 0, 1) := by decide +kernel
theorem dX2_foldInto_11 : decode cX2_foldInto 11 = .ok (.istore 5, 2) := by decide +kernel
theorem dX2_foldInto_13 : decode cX2_foldInto 13 = .ok (.iload 5, 2) := by decide +kernel
theorem dX2_foldInto_15 : decode cX2_foldInto 15 = .ok (.aload_n 0, 1) := by decide +kernel
theorem dX2_foldInto_16 : decode cX2_foldInto 16 = .ok (.getfield 41, 3) := by decide +kernel
theorem dX2_foldInto_19 : decode cX2_foldInto 19 = .ok (.if_icmp .ge 100, 3) := by decide +kernel
theorem dX2_foldInto_22 : decode cX2_foldInto 22 = .ok (.lload_n 3, 1) := by decide +kernel
theorem dX2_foldInto_23 : decode cX2_foldInto 23 = .ok (.aload_n 0, 1) := by decide +kernel
theorem dX2_foldInto_24 : decode cX2_foldInto 24 = .ok (.getfield 9, 3) := by decide +kernel
theorem dX2_foldInto_27 : decode cX2_foldInto 27 = .ok (.iload 5, 2) := by decide +kernel
theorem dX2_foldInto_29 : decode cX2_foldInto 29 = .ok (.iaload, 1) := by decide +kernel
theorem dX2_foldInto_30 : decode cX2_foldInto 30 = .ok (.i2l, 1) := by decide +kernel
theorem dX2_foldInto_31 : decode cX2_foldInto 31 = .ok (.invokestatic 88, 3) := by decide +kernel
theorem dX2_foldInto_34 : decode cX2_foldInto 34 = .ok (.lstore_n 3, 1) := by decide +kernel
theorem dX2_foldInto_35 : decode cX2_foldInto 35 = .ok (.lload_n 3, 1) := by decide +kernel
theorem dX2_foldInto_36 : decode cX2_foldInto 36 = .ok (.aload_n 0, 1) := by decide +kernel
theorem dX2_foldInto_37 : decode cX2_foldInto 37 = .ok (.getfield 18, 3) := by decide +kernel
theorem dX2_foldInto_40 : decode cX2_foldInto 40 = .ok (.iload 5, 2) := by decide +kernel
theorem dX2_foldInto_42 : decode cX2_foldInto 42 = .ok (.iaload, 1) := by decide +kernel
theorem dX2_foldInto_43 : decode cX2_foldInto 43 = .ok (.i2l, 1) := by decide +kernel
theorem dX2_foldInto_44 : decode cX2_foldInto 44 = .ok (.invokestatic 88, 3) := by decide +kernel
theorem dX2_foldInto_47 : decode cX2_foldInto 47 = .ok (.lstore_n 3, 1) := by decide +kernel
theorem dX2_foldInto_48 : decode cX2_foldInto 48 = .ok (.lload_n 3, 1) := by decide +kernel
theorem dX2_foldInto_49 : decode cX2_foldInto 49 = .ok (.aload_n 0, 1) := by decide +kernel
theorem dX2_foldInto_50 : decode cX2_foldInto 50 = .ok (.getfield 21, 3) := by decide +kernel
theorem dX2_foldInto_53 : decode cX2_foldInto 53 = .ok (.iload 5, 2) := by decide +kernel
theorem dX2_foldInto_55 : decode cX2_foldInto 55 = .ok (.iaload, 1) := by decide +kernel
theorem dX2_foldInto_56 : decode cX2_foldInto 56 = .ok (.i2l, 1) := by decide +kernel
theorem dX2_foldInto_57 : decode cX2_foldInto 57 = .ok (.invokestatic 88, 3) := by decide +kernel
theorem dX2_foldInto_60 : decode cX2_foldInto 60 = .ok (.lstore_n 3, 1) := by decide +kernel
theorem dX2_foldInto_61 : decode cX2_foldInto 61 = .ok (.lload_n 3, 1) := by decide +kernel
theorem dX2_foldInto_62 : decode cX2_foldInto 62 = .ok (.aload_n 0, 1) := by decide +kernel
theorem dX2_foldInto_63 : decode cX2_foldInto 63 = .ok (.getfield 30, 3) := by decide +kernel
theorem dX2_foldInto_66 : decode cX2_foldInto 66 = .ok (.iload 5, 2) := by decide +kernel
theorem dX2_foldInto_68 : decode cX2_foldInto 68 = .ok (.baload, 1) := by decide +kernel
theorem dX2_foldInto_69 : decode cX2_foldInto 69 = .ok (.ifCond .eq 7, 3) := by decide +kernel
theorem dX2_foldInto_72 : decode cX2_foldInto 72 = .ok (.lconst 1, 1) := by decide +kernel
theorem dX2_foldInto_73 : decode cX2_foldInto 73 = .ok (.goto 4, 3) := by decide +kernel
theorem dX2_foldInto_76 : decode cX2_foldInto 76 = .ok (.lconst 0, 1) := by decide +kernel
theorem dX2_foldInto_77 : decode cX2_foldInto 77 = .ok (.invokestatic 88, 3) := by decide +kernel
theorem dX2_foldInto_80 : decode cX2_foldInto 80 = .ok (.lstore_n 3, 1) := by decide +kernel
theorem dX2_foldInto_81 : decode cX2_foldInto 81 = .ok (.lload_n 3, 1) := by decide +kernel
theorem dX2_foldInto_82 : decode cX2_foldInto 82 = .ok (.aload_n 0, 1) := by decide +kernel
theorem dX2_foldInto_83 : decode cX2_foldInto 83 = .ok (.getfield 34, 3) := by decide +kernel
theorem dX2_foldInto_86 : decode cX2_foldInto 86 = .ok (.iload 5, 2) := by decide +kernel
theorem dX2_foldInto_88 : decode cX2_foldInto 88 = .ok (.baload, 1) := by decide +kernel
theorem dX2_foldInto_89 : decode cX2_foldInto 89 = .ok (.aload_n 0, 1) := by decide +kernel
theorem dX2_foldInto_90 : decode cX2_foldInto 90 = .ok (.getfield 24, 3) := by decide +kernel
theorem dX2_foldInto_93 : decode cX2_foldInto 93 = .ok (.iload 5, 2) := by decide +kernel
theorem dX2_foldInto_95 : decode cX2_foldInto 95 = .ok (.iaload, 1) := by decide +kernel
theorem dX2_foldInto_96 : decode cX2_foldInto 96 = .ok (.invokestatic 92, 3) := by decide +kernel
theorem dX2_foldInto_99 : decode cX2_foldInto 99 = .ok (.lstore_n 3, 1) := by decide +kernel
theorem dX2_foldInto_100 : decode cX2_foldInto 100 = .ok (.lload_n 3, 1) := by decide +kernel
theorem dX2_foldInto_101 : decode cX2_foldInto 101 = .ok (.aload_n 0, 1) := by decide +kernel
theorem dX2_foldInto_102 : decode cX2_foldInto 102 = .ok (.getfield 27, 3) := by decide +kernel
theorem dX2_foldInto_105 : decode cX2_foldInto 105 = .ok (.iload 5, 2) := by decide +kernel
theorem dX2_foldInto_107 : decode cX2_foldInto 107 = .ok (.iaload, 1) := by decide +kernel
theorem dX2_foldInto_108 : decode cX2_foldInto 108 = .ok (.i2l, 1) := by decide +kernel
theorem dX2_foldInto_109 : decode cX2_foldInto 109 = .ok (.invokestatic 88, 3) := by decide +kernel
theorem dX2_foldInto_112 : decode cX2_foldInto 112 = .ok (.lstore_n 3, 1) := by decide +kernel
theorem dX2_foldInto_113 : decode cX2_foldInto 113 = .ok (.iinc 5 1, 3) := by decide +kernel
theorem dX2_foldInto_116 : decode cX2_foldInto 116 = .ok (.goto (-103), 3) := by decide +kernel
theorem dX2_foldInto_119 : decode cX2_foldInto 119 = .ok (.lload_n 3, 1) := by decide +kernel
theorem dX2_foldInto_120 : decode cX2_foldInto 120 = .ok (.lreturn, 1) := by decide +kernel
set_option maxRecDepth 20000 in
theorem ggX3_init_X3_startAnew : GoodIn wsX3_init wsX3_startAnew := goodIn_r _ [12, 13, 6, 7, 14, 15, 16] (by decide +kernel) (by decide +kernel)
set_option maxRecDepth 20000 in
theorem gX3_init_X3_startAnew : GoodIn wsX3_init (wsV RX3 19 RX3 yX3_startAnew wsX3_startAnew) := goodIn_app (goodIn_of _ (by decide +kernel)) ggX3_init_X3_startAnew
theorem dX3_init_0 : decode cX3_init 0 = .ok (.aload_n 0, 1) := by decide +kernel
theorem dX3_init_1 : decode cX3_init 1 = .ok (.invokespecial 3, 3) := by decide +kernel
theorem dX3_init_4 : decode cX3_init 4 = .ok (.aload_n 0, 1) := by decide +kernel
theorem dX3_init_5 : decode cX3_init 5 = .ok (.iconst 5, 1) := by decide +kernel
theorem dX3_init_6 : decode cX3_init 6 = .ok (.iconst 5, 1) := by decide +kernel
theorem dX3_init_7 : decode cX3_init 7 = .ok (.multianewarray 9 2, 4) := by decide +kernel
theorem dX3_init_11 : decode cX3_init 11 = .ok (.putfield 11, 3) := by decide +kernel
theorem dX3_init_14 : decode cX3_init 14 = .ok (.aload_n 0, 1) := by decide +kernel
theorem dX3_init_15 : decode cX3_init 15 = .ok (.iconst 5, 1) := by decide +kernel
theorem dX3_init_16 : decode cX3_init 16 = .ok (.iconst 5, 1) := by decide +kernel
theorem dX3_init_17 : decode cX3_init 17 = .ok (.multianewarray 9 2, 4) := by decide +kernel
theorem dX3_init_21 : decode cX3_init 21 = .ok (.putfield 16, 3) := by decide +kernel
theorem dX3_init_24 : decode cX3_init 24 = .ok (.aload_n 0, 1) := by decide +kernel
theorem dX3_init_25 : decode cX3_init 25 = .ok (.iconst 3, 1) := by decide +kernel
theorem dX3_init_26 : decode cX3_init 26 = .ok (.invokevirtual 19, 3) := by decide +kernel
theorem dX3_init_29 : decode cX3_init 29 = .ok (.return_, 1) := by decide +kernel
theorem dX3_startAnew_0 : decode cX3_startAnew 0 = .ok (.aload_n 0, 1) := by decide +kernel
theorem dX3_startAnew_1 : decode cX3_startAnew 1 = .ok (.iload_n 1, 1) := by decide +kernel
theorem dX3_startAnew_2 : decode cX3_startAnew 2 = .ok (.putfield 23, 3) := by decide +kernel
theorem dX3_startAnew_5 : decode cX3_startAnew 5 = .ok (.iconst 0, 1) := by decide +kernel
theorem dX3_startAnew_6 : decode cX3_startAnew 6 = .ok (.istore_n 2, 1) := by decide +kernel
theorem dX3_startAnew_7 : decode cX3_startAnew 7 = .ok (.iload_n 2, 1) := by decide +kernel
theorem dX3_startAnew_8 : decode cX3_startAnew 8 = .ok (.iconst 5, 1) := by decide +kernel
theorem dX3_startAnew_9 : decode cX3_startAnew 9 = .ok (.if_icmp .ge 40, 3) := by decide +kernel
theorem dX3_startAnew_12 : decode cX3_startAnew 12 = .ok (.iconst 0, 1) := by decide +kernel
theorem dX3_startAnew_13 : decode cX3_startAnew 13 = .ok (.istore_n 3, 1) := by decide +kernel
theorem dX3_startAnew_14 : decode cX3_startAnew 14 = .ok (.iload_n 3, 1) := by decide +kernel
theorem dX3_startAnew_15 : decode cX3_startAnew 15 = .ok (.iconst 5, 1) := by decide +kernel
theorem dX3_startAnew_16 : decode cX3_startAnew 16 = .ok (.if_icmp .ge 27, 3) := by decide +kernel
theorem dX3_startAnew_19 : decode cX3_startAnew 19 = .ok (.aload_n 0, 1) := by decide +kernel
theorem dX3_startAnew_20 : decode cX3_startAnew 20 = .ok (.getfield 11, 3) := by decide +kernel
theorem dX3_startAnew_23 : decode cX3_startAnew 23 = .ok (.iload_n 2, 1) := by decide +kernel
theorem dX3_startAnew_24 : decode cX3_startAnew 24 = .ok (.aaload, 1) := by decide +kernel
theorem dX3_startAnew_25 : decode cX3_startAnew 25 = .ok (.iload_n 3, 1) := by decide +kernel
theorem dX3_startAnew_26 : decode cX3_startAnew 26 = .ok (.iconst 0, 1) := by decide +kernel
theorem dX3_startAnew_27 : decode cX3_startAnew 27 = .ok (.iastore, 1) := by decide +kernel
theorem dX3_startAnew_28 : decode cX3_startAnew 28 = .ok (.aload_n 0, 1) := by decide +kernel
theorem dX3_startAnew_29 : decode cX3_startAnew 29 = .ok (.getfield 16, 3) := by decide +kernel
theorem dX3_startAnew_32 : decode cX3_startAnew 32 = .ok (.iload_n 2, 1) := by decide +kernel
theorem dX3_startAnew_33 : decode cX3_startAnew 33 = .ok (.aaload, 1) := by decide +kernel
theorem dX3_startAnew_34 : decode cX3_startAnew 34 = .ok (.iload_n 3, 1) := by decide +kernel
theorem dX3_startAnew_35 : decode cX3_startAnew 35 = .ok (.iconst 0, 1) := by decide +kernel
theorem dX3_startAnew_36 : decode cX3_startAnew 36 = .ok (.iastore, 1) := by decide +kernel
theorem dX3_startAnew_37 : decode cX3_startAnew 37 = .ok (.iinc 3 1, 3) := by decide +kernel
theorem dX3_startAnew_40 : decode cX3_startAnew 40 = .ok (.goto (-26), 3) := by decide +kernel
theorem dX3_startAnew_43 : decode cX3_startAnew 43 = .ok (.iinc 2 1, 3) := by decide +kernel
theorem dX3_startAnew_46 : decode cX3_startAnew 46 = .ok (.goto (-39), 3) := by decide +kernel
theorem dX3_startAnew_49 : decode cX3_startAnew 49 = .ok (.return_, 1) := by decide +kernel
theorem dX3_has_0 : decode cX3_has 0 = .ok (.iload_n 1, 1) := by decide +kernel
theorem dX3_has_1 : decode cX3_has 1 = .ok (.ifCond .lt 15, 3) := by decide +kernel
theorem dX3_has_4 : decode cX3_has 4 = .ok (.iload_n 1, 1) := by decide +kernel
theorem dX3_has_5 : decode cX3_has 5 = .ok (.aload_n 0, 1) := by decide +kernel
theorem dX3_has_6 : decode cX3_has 6 = .ok (.getfield 23, 3) := by decide +kernel
theorem dX3_has_9 : decode cX3_has 9 = .ok (.if_icmp .ge 7, 3) := by decide +kernel
theorem dX3_has_12 : decode cX3_has 12 = .ok (.iconst 1, 1) := by decide +kernel
theorem dX3_has_13 : decode cX3_has 13 = .ok (.goto 4, 3) := by decide +kernel
theorem dX3_has_16 : decode cX3_has 16 = .ok (.iconst 0, 1) := by decide +kernel
theorem dX3_has_17 : decode cX3_has 17 = .ok (.ireturn, 1) := by decide +kernel
theorem dX3_put_0 : decode cX3_put 0 = .ok (.iload 4, 2) := by decide +kernel
theorem dX3_put_2 : decode cX3_put 2 = .ok (.ifCond .eq 7, 3) := by decide +kernel
theorem dX3_put_5 : decode cX3_put 5 = .ok (.iconst 1, 1) := by decide +kernel
theorem dX3_put_6 : decode cX3_put 6 = .ok (.goto 4, 3) := by decide +kernel
theorem dX3_put_9 : decode cX3_put 9 = .ok (.iconst 0, 1) := by decide +kernel
theorem dX3_put_10 : decode cX3_put 10 = .ok (.istore 5, 2) := by decide +kernel
theorem dX3_put_12 : decode cX3_put 12 = .ok (.iload 4, 2) := by decide +kernel
theorem dX3_put_14 : decode cX3_put 14 = .ok (.ifCond .eq 7, 3) := by decide +kernel
theorem dX3_put_17 : decode cX3_put 17 = .ok (.iload_n 3, 1) := by decide +kernel
theorem dX3_put_18 : decode cX3_put 18 = .ok (.goto 4, 3) := by decide +kernel
theorem dX3_put_21 : decode cX3_put 21 = .ok (.iconst 0, 1) := by decide +kernel
theorem dX3_put_22 : decode cX3_put 22 = .ok (.istore 6, 2) := by decide +kernel
theorem dX3_put_24 : decode cX3_put 24 = .ok (.aload_n 0, 1) := by decide +kernel
theorem dX3_put_25 : decode cX3_put 25 = .ok (.getfield 11, 3) := by decide +kernel
theorem dX3_put_28 : decode cX3_put 28 = .ok (.iload_n 1, 1) := by decide +kernel
theorem dX3_put_29 : decode cX3_put 29 = .ok (.aaload, 1) := by decide +kernel
theorem dX3_put_30 : decode cX3_put 30 = .ok (.iload_n 2, 1) := by decide +kernel
theorem dX3_put_31 : decode cX3_put 31 = .ok (.iload 5, 2) := by decide +kernel
theorem dX3_put_33 : decode cX3_put 33 = .ok (.iastore, 1) := by decide +kernel
theorem dX3_put_34 : decode cX3_put 34 = .ok (.aload_n 0, 1) := by decide +kernel
theorem dX3_put_35 : decode cX3_put 35 = .ok (.getfield 11, 3) := by decide +kernel
theorem dX3_put_38 : decode cX3_put 38 = .ok (.iload_n 2, 1) := by decide +kernel
theorem dX3_put_39 : decode cX3_put 39 = .ok (.aaload, 1) := by decide +kernel
theorem dX3_put_40 : decode cX3_put 40 = .ok (.iload_n 1, 1) := by decide +kernel
theorem dX3_put_41 : decode cX3_put 41 = .ok (.iload 5, 2) := by decide +kernel
theorem dX3_put_43 : decode cX3_put 43 = .ok (.iastore, 1) := by decide +kernel
theorem dX3_put_44 : decode cX3_put 44 = .ok (.aload_n 0, 1) := by decide +kernel
theorem dX3_put_45 : decode cX3_put 45 = .ok (.getfield 16, 3) := by decide +kernel
theorem dX3_put_48 : decode cX3_put 48 = .ok (.iload_n 1, 1) := by decide +kernel
theorem dX3_put_49 : decode cX3_put 49 = .ok (.aaload, 1) := by decide +kernel
theorem dX3_put_50 : decode cX3_put 50 = .ok (.iload_n 2, 1) := by decide +kernel
theorem dX3_put_51 : decode cX3_put 51 = .ok (.iload 6, 2) := by decide +kernel
theorem dX3_put_53 : decode cX3_put 53 = .ok (.iastore, 1) := by decide +kernel
theorem dX3_put_54 : decode cX3_put 54 = .ok (.aload_n 0, 1) := by decide +kernel
theorem dX3_put_55 : decode cX3_put 55 = .ok (.getfield 16, 3) := by decide +kernel
theorem dX3_put_58 : decode cX3_put 58 = .ok (.iload_n 2, 1) := by decide +kernel
theorem dX3_put_59 : decode cX3_put 59 = .ok (.aaload, 1) := by decide +kernel
theorem dX3_put_60 : decode cX3_put 60 = .ok (.iload_n 1, 1) := by decide +kernel
theorem dX3_put_61 : decode cX3_put 61 = .ok (.iload 6, 2) := by decide +kernel
theorem dX3_put_63 : decode cX3_put 63 = .ok (.iastore, 1) := by decide +kernel
theorem dX3_put_64 : decode cX3_put 64 = .ok (.return_, 1) := by decide +kernel
theorem dX3_isWhole_0 : decode cX3_isWhole 0 = .ok (.aload_n 0, 1) := by decide +kernel
theorem dX3_isWhole_1 : decode cX3_isWhole 1 = .ok (.getfield 11, 3) := by decide +kernel
theorem dX3_isWhole_4 : decode cX3_isWhole 4 = .ok (.iload_n 1, 1) := by decide +kernel
theorem dX3_isWhole_5 : decode cX3_isWhole 5 = .ok (.aaload, 1) := by decide +kernel
theorem dX3_isWhole_6 : decode cX3_isWhole 6 = .ok (.iload_n 2, 1) := by decide +kernel
theorem dX3_isWhole_7 : decode cX3_isWhole 7 = .ok (.iaload, 1) := by decide +kernel
theorem dX3_isWhole_8 : decode cX3_isWhole 8 = .ok (.iconst 1, 1) := by decide +kernel
theorem dX3_isWhole_9 : decode cX3_isWhole 9 = .ok (.if_icmp .ne 31, 3) := by decide +kernel
theorem dX3_isWhole_12 : decode cX3_isWhole 12 = .ok (.aload_n 0, 1) := by decide +kernel
theorem dX3_isWhole_13 : decode cX3_isWhole 13 = .ok (.getfield 11, 3) := by decide +kernel
theorem dX3_isWhole_16 : decode cX3_isWhole 16 = .ok (.iload_n 1, 1) := by decide +kernel
theorem dX3_isWhole_17 : decode cX3_isWhole 17 = .ok (.aaload, 1) := by decide +kernel
theorem dX3_isWhole_18 : decode cX3_isWhole 18 = .ok (.iload_n 3, 1) := by decide +kernel
theorem dX3_isWhole_19 : decode cX3_isWhole 19 = .ok (.iaload, 1) := by decide +kernel
theorem dX3_isWhole_20 : decode cX3_isWhole 20 = .ok (.iconst 1, 1) := by decide +kernel
theorem dX3_isWhole_21 : decode cX3_isWhole 21 = .ok (.if_icmp .ne 19, 3) := by decide +kernel
theorem dX3_isWhole_24 : decode cX3_isWhole 24 = .ok (.aload_n 0, 1) := by decide +kernel
theorem dX3_isWhole_25 : decode cX3_isWhole 25 = .ok (.getfield 11, 3) := by decide +kernel
theorem dX3_isWhole_28 : decode cX3_isWhole 28 = .ok (.iload_n 2, 1) := by decide +kernel
theorem dX3_isWhole_29 : decode cX3_isWhole 29 = .ok (.aaload, 1) := by decide +kernel
theorem dX3_isWhole_30 : decode cX3_isWhole 30 = .ok (.iload_n 3, 1) := by decide +kernel
theorem dX3_isWhole_31 : decode cX3_isWhole 31 = .ok (.iaload, 1) := by decide +kernel
theorem dX3_isWhole_32 : decode cX3_isWhole 32 = .ok (.iconst 1, 1) := by decide +kernel
theorem dX3_isWhole_33 : decode cX3_isWhole 33 = .ok (.if_icmp .ne 7, 3) := by decide +kernel
theorem dX3_isWhole_36 : decode cX3_isWhole 36 = .ok (.iconst 1, 1) := by decide +kernel
theorem dX3_isWhole_37 : decode cX3_isWhole 37 = .ok (.goto 4, 3) := by decide +kernel
theorem dX3_isWhole_40 : decode cX3_isWhole 40 = .ok (.iconst 0, 1) := by decide +kernel
theorem dX3_isWhole_41 : decode cX3_isWhole 41 = .ok (.ireturn, 1) := by decide +kernel
theorem dX3_gainBy_0 : decode cX3_gainBy 0 = .ok (.aload_n 0, 1) := by decide +kernel
theorem dX3_gainBy_1 : decode cX3_gainBy 1 = .ok (.getfield 16, 3) := by decide +kernel
theorem dX3_gainBy_4 : decode cX3_gainBy 4 = .ok (.iload_n 1, 1) := by decide +kernel
theorem dX3_gainBy_5 : decode cX3_gainBy 5 = .ok (.aaload, 1) := by decide +kernel
theorem dX3_gainBy_6 : decode cX3_gainBy 6 = .ok (.iload_n 2, 1) := by decide +kernel
theorem dX3_gainBy_7 : decode cX3_gainBy 7 = .ok (.iaload, 1) := by decide +kernel
theorem dX3_gainBy_8 : decode cX3_gainBy 8 = .ok (.aload_n 0, 1) := by decide +kernel
theorem dX3_gainBy_9 : decode cX3_gainBy 9 = .ok (.getfield 16, 3) := by decide +kernel
theorem dX3_gainBy_12 : decode cX3_gainBy 12 = .ok (.iload_n 1, 1) := by decide +kernel
theorem dX3_gainBy_13 : decode cX3_gainBy 13 = .ok (.aaload, 1) := by decide +kernel
theorem dX3_gainBy_14 : decode cX3_gainBy 14 = .ok (.iload_n 3, 1) := by decide +kernel
theorem dX3_gainBy_15 : decode cX3_gainBy 15 = .ok (.iaload, 1) := by decide +kernel
theorem dX3_gainBy_16 : decode cX3_gainBy 16 = .ok (.iadd, 1) := by decide +kernel
theorem dX3_gainBy_17 : decode cX3_gainBy 17 = .ok (.aload_n 0, 1) := by decide +kernel
theorem dX3_gainBy_18 : decode cX3_gainBy 18 = .ok (.getfield 16, 3) := by decide +kernel
theorem dX3_gainBy_21 : decode cX3_gainBy 21 = .ok (.iload_n 2, 1) := by decide +kernel
theorem dX3_gainBy_22 : decode cX3_gainBy 22 = .ok (.aaload, 1) := by decide +kernel
theorem dX3_gainBy_23 : decode cX3_gainBy 23 = .ok (.iload_n 3, 1) := by decide +kernel
theorem dX3_gainBy_24 : decode cX3_gainBy 24 = .ok (.iaload, 1) := by decide +kernel
theorem dX3_gainBy_25 : decode cX3_gainBy 25 = .ok (.isub, 1) := by decide +kernel
theorem dX3_gainBy_26 : decode cX3_gainBy 26 = .ok (.ireturn, 1) := by decide +kernel
set_option maxRecDepth 20000 in
theorem ggX3_firstGain_X3_isWhole : GoodIn wsX3_firstGain wsX3_isWhole := goodIn_r _ [7, 8, 14, 15, 16] (by decide +kernel) (by decide +kernel)
set_option maxRecDepth 20000 in
theorem gX3_firstGain_X3_isWhole : GoodIn wsX3_firstGain (wsV RX3 27 RX3 yX3_isWhole wsX3_isWhole) := goodIn_app (goodIn_of _ (by decide +kernel)) ggX3_firstGain_X3_isWhole
set_option maxRecDepth 20000 in
theorem ggX3_firstGain_X3_gainBy : GoodIn wsX3_firstGain wsX3_gainBy := goodIn_r _ [12, 13, 14, 15, 16] (by decide +kernel) (by decide +kernel)
set_option maxRecDepth 20000 in
theorem gX3_firstGain_X3_gainBy : GoodIn wsX3_firstGain (wsV RX3 31 RX3 yX3_gainBy wsX3_gainBy) := goodIn_app (goodIn_of _ (by decide +kernel)) ggX3_firstGain_X3_gainBy
theorem dX3_firstGain_0 : decode cX3_firstGain 0 = .ok (.iconst 0, 1) := by decide +kernel
theorem dX3_firstGain_1 : decode cX3_firstGain 1 = .ok (.istore_n 2, 1) := by decide +kernel
theorem dX3_firstGain_2 : decode cX3_firstGain 2 = .ok (.iload_n 2, 1) := by decide +kernel
theorem dX3_firstGain_3 : decode cX3_firstGain 3 = .ok (.aload_n 0, 1) := by decide +kernel
theorem dX3_firstGain_4 : decode cX3_firstGain 4 = .ok (.getfield 23, 3) := by decide +kernel
theorem dX3_firstGain_7 : decode cX3_firstGain 7 = .ok (.if_icmp .ge 45, 3) := by decide +kernel
theorem dX3_firstGain_10 : decode cX3_firstGain 10 = .ok (.iload_n 2, 1) := by decide +kernel
theorem dX3_firstGain_11 : decode cX3_firstGain 11 = .ok (.iconst 1, 1) := by decide +kernel
theorem dX3_firstGain_12 : decode cX3_firstGain 12 = .ok (.iadd, 1) := by decide +kernel
theorem dX3_firstGain_13 : decode cX3_firstGain 13 = .ok (.istore_n 3, 1) := by decide +kernel
theorem dX3_firstGain_14 : decode cX3_firstGain 14 = .ok (.iload_n 3, 1) := by decide +kernel
theorem dX3_firstGain_15 : decode cX3_firstGain 15 = .ok (.aload_n 0, 1) := by decide +kernel
theorem dX3_firstGain_16 : decode cX3_firstGain 16 = .ok (.getfield 23, 3) := by decide +kernel
theorem dX3_firstGain_19 : decode cX3_firstGain 19 = .ok (.if_icmp .ge 27, 3) := by decide +kernel
theorem dX3_firstGain_22 : decode cX3_firstGain 22 = .ok (.aload_n 0, 1) := by decide +kernel
theorem dX3_firstGain_23 : decode cX3_firstGain 23 = .ok (.iload_n 1, 1) := by decide +kernel
theorem dX3_firstGain_24 : decode cX3_firstGain 24 = .ok (.iload_n 2, 1) := by decide +kernel
theorem dX3_firstGain_25 : decode cX3_firstGain 25 = .ok (.iload_n 3, 1) := by decide +kernel
theorem dX3_firstGain_26 : decode cX3_firstGain 26 = .ok (.invokevirtual 27, 3) := by decide +kernel
theorem dX3_firstGain_29 : decode cX3_firstGain 29 = .ok (.ifCond .eq 11, 3) := by decide +kernel
theorem dX3_firstGain_32 : decode cX3_firstGain 32 = .ok (.aload_n 0, 1) := by decide +kernel
theorem dX3_firstGain_33 : decode cX3_firstGain 33 = .ok (.iload_n 1, 1) := by decide +kernel
theorem dX3_firstGain_34 : decode cX3_firstGain 34 = .ok (.iload_n 2, 1) := by decide +kernel
theorem dX3_firstGain_35 : decode cX3_firstGain 35 = .ok (.iload_n 3, 1) := by decide +kernel
theorem dX3_firstGain_36 : decode cX3_firstGain 36 = .ok (.invokevirtual 31, 3) := by decide +kernel
theorem dX3_firstGain_39 : decode cX3_firstGain 39 = .ok (.ireturn, 1) := by decide +kernel
theorem dX3_firstGain_40 : decode cX3_firstGain 40 = .ok (.iinc 3 1, 3) := by decide +kernel
theorem dX3_firstGain_43 : decode cX3_firstGain 43 = .ok (.goto (-29), 3) := by decide +kernel
theorem dX3_firstGain_46 : decode cX3_firstGain 46 = .ok (.iinc 2 1, 3) := by decide +kernel
theorem dX3_firstGain_49 : decode cX3_firstGain 49 = .ok (.goto (-47), 3) := by decide +kernel
theorem dX3_firstGain_52 : decode cX3_firstGain 52 = .ok (.ldc 35, 2) := by decide +kernel
theorem dX3_firstGain_54 : decode cX3_firstGain 54 = .ok (.ireturn, 1) := by decide +kernel
set_option maxRecDepth 20000 in
theorem ggX3_spread_X3_isWhole : GoodIn wsX3_spread wsX3_isWhole := goodIn_r _ [13, 14, 20, 21, 22] (by decide +kernel) (by decide +kernel)
set_option maxRecDepth 20000 in
theorem gX3_spread_X3_isWhole : GoodIn wsX3_spread (wsV RX3 27 RX3 yX3_isWhole wsX3_isWhole) := goodIn_app (goodIn_of _ (by decide +kernel)) ggX3_spread_X3_isWhole
set_option maxRecDepth 20000 in
theorem ggX3_spread_X3_gainBy : GoodIn wsX3_spread wsX3_gainBy := goodIn_r _ [18, 19, 20, 21, 22] (by decide +kernel) (by decide +kernel)
set_option maxRecDepth 20000 in
theorem gX3_spread_X3_gainBy : GoodIn wsX3_spread (wsV RX3 31 RX3 yX3_gainBy wsX3_gainBy) := goodIn_app (goodIn_of _ (by decide +kernel)) ggX3_spread_X3_gainBy
theorem dX3_spread_0 : decode cX3_spread 0 = .ok (.iconst 0, 1) := by decide +kernel
theorem dX3_spread_1 : decode cX3_spread 1 = .ok (.istore_n 2, 1) := by decide +kernel
theorem dX3_spread_2 : decode cX3_spread 2 = .ok (.iconst 0, 1) := by decide +kernel
theorem dX3_spread_3 : decode cX3_spread 3 = .ok (.istore_n 3, 1) := by decide +kernel
theorem dX3_spread_4 : decode cX3_spread 4 = .ok (.iconst 0, 1) := by decide +kernel
theorem dX3_spread_5 : decode cX3_spread 5 = .ok (.istore 4, 2) := by decide +kernel
theorem dX3_spread_7 : decode cX3_spread 7 = .ok (.iconst 0, 1) := by decide +kernel
theorem dX3_spread_8 : decode cX3_spread 8 = .ok (.istore 5, 2) := by decide +kernel
theorem dX3_spread_10 : decode cX3_spread 10 = .ok (.iload 5, 2) := by decide +kernel
theorem dX3_spread_12 : decode cX3_spread 12 = .ok (.aload_n 0, 1) := by decide +kernel
theorem dX3_spread_13 : decode cX3_spread 13 = .ok (.getfield 23, 3) := by decide +kernel
theorem dX3_spread_16 : decode cX3_spread 16 = .ok (.if_icmp .ge 89, 3) := by decide +kernel
theorem dX3_spread_19 : decode cX3_spread 19 = .ok (.iload 5, 2) := by decide +kernel
theorem dX3_spread_21 : decode cX3_spread 21 = .ok (.iconst 1, 1) := by decide +kernel
theorem dX3_spread_22 : decode cX3_spread 22 = .ok (.iadd, 1) := by decide +kernel
theorem dX3_spread_23 : decode cX3_spread 23 = .ok (.istore 6, 2) := by decide +kernel
theorem dX3_spread_25 : decode cX3_spread 25 = .ok (.iload 6, 2) := by decide +kernel
theorem dX3_spread_27 : decode cX3_spread 27 = .ok (.aload_n 0, 1) := by decide +kernel
theorem dX3_spread_28 : decode cX3_spread 28 = .ok (.getfield 23, 3) := by decide +kernel
theorem dX3_spread_31 : decode cX3_spread 31 = .ok (.if_icmp .ge 68, 3) := by decide +kernel
theorem dX3_spread_34 : decode cX3_spread 34 = .ok (.aload_n 0, 1) := by decide +kernel
theorem dX3_spread_35 : decode cX3_spread 35 = .ok (.iload_n 1, 1) := by decide +kernel
theorem dX3_spread_36 : decode cX3_spread 36 = .ok (.iload 5, 2) := by decide +kernel
theorem dX3_spread_38 : decode cX3_spread 38 = .ok (.iload 6, 2) := by decide +kernel
theorem dX3_spread_40 : decode cX3_spread 40 = .ok (.invokevirtual 27, 3) := by decide +kernel
theorem dX3_spread_43 : decode cX3_spread 43 = .ok (.ifCond .eq 50, 3) := by decide +kernel
theorem dX3_spread_46 : decode cX3_spread 46 = .ok (.aload_n 0, 1) := by decide +kernel
theorem dX3_spread_47 : decode cX3_spread 47 = .ok (.iload_n 1, 1) := by decide +kernel
theorem dX3_spread_48 : decode cX3_spread 48 = .ok (.iload 5, 2) := by decide +kernel
theorem dX3_spread_50 : decode cX3_spread 50 = .ok (.iload 6, 2) := by decide +kernel
theorem dX3_spread_52 : decode cX3_spread 52 = .ok (.invokevirtual 31, 3) := by decide +kernel
theorem dX3_spread_55 : decode cX3_spread 55 = .ok (.istore 7, 2) := by decide +kernel
theorem dX3_spread_57 : decode cX3_spread 57 = .ok (.iload_n 2, 1) := by decide +kernel
theorem dX3_spread_58 : decode cX3_spread 58 = .ok (.ifCond .eq 12, 3) := by decide +kernel
theorem dX3_spread_61 : decode cX3_spread 61 = .ok (.iload_n 3, 1) := by decide +kernel
theorem dX3_spread_62 : decode cX3_spread 62 = .ok (.iload 7, 2) := by decide +kernel
theorem dX3_spread_64 : decode cX3_spread 64 = .ok (.invokestatic 36, 3) := by decide +kernel
theorem dX3_spread_67 : decode cX3_spread 67 = .ok (.goto 5, 3) := by decide +kernel
theorem dX3_spread_70 : decode cX3_spread 70 = .ok (.iload 7, 2) := by decide +kernel
theorem dX3_spread_72 : decode cX3_spread 72 = .ok (.istore_n 3, 1) := by decide +kernel
theorem dX3_spread_73 : decode cX3_spread 73 = .ok (.iload_n 2, 1) := by decide +kernel
theorem dX3_spread_74 : decode cX3_spread 74 = .ok (.ifCond .eq 13, 3) := by decide +kernel
theorem dX3_spread_77 : decode cX3_spread 77 = .ok (.iload 4, 2) := by decide +kernel
theorem dX3_spread_79 : decode cX3_spread 79 = .ok (.iload 7, 2) := by decide +kernel
theorem dX3_spread_81 : decode cX3_spread 81 = .ok (.invokestatic 42, 3) := by decide +kernel
theorem dX3_spread_84 : decode cX3_spread 84 = .ok (.goto 5, 3) := by decide +kernel
theorem dX3_spread_87 : decode cX3_spread 87 = .ok (.iload 7, 2) := by decide +kernel
theorem dX3_spread_89 : decode cX3_spread 89 = .ok (.istore 4, 2) := by decide +kernel
theorem dX3_spread_91 : decode cX3_spread 91 = .ok (.iconst 1, 1) := by decide +kernel
theorem dX3_spread_92 : decode cX3_spread 92 = .ok (.istore_n 2, 1) := by decide +kernel
theorem dX3_spread_93 : decode cX3_spread 93 = .ok (.iinc 6 1, 3) := by decide +kernel
theorem dX3_spread_96 : decode cX3_spread 96 = .ok (.goto (-71), 3) := by decide +kernel
theorem dX3_spread_99 : decode cX3_spread 99 = .ok (.iinc 5 1, 3) := by decide +kernel
theorem dX3_spread_102 : decode cX3_spread 102 = .ok (.goto (-92), 3) := by decide +kernel
theorem dX3_spread_105 : decode cX3_spread 105 = .ok (.iload_n 2, 1) := by decide +kernel
theorem dX3_spread_106 : decode cX3_spread 106 = .ok (.ifCond .eq 10, 3) := by decide +kernel
theorem dX3_spread_109 : decode cX3_spread 109 = .ok (.iload 4, 2) := by decide +kernel
theorem dX3_spread_111 : decode cX3_spread 111 = .ok (.iload_n 3, 1) := by decide +kernel
theorem dX3_spread_112 : decode cX3_spread 112 = .ok (.isub, 1) := by decide +kernel
theorem dX3_spread_113 : decode cX3_spread 113 = .ok (.goto 4, 3) := by decide +kernel
theorem dX3_spread_116 : decode cX3_spread 116 = .ok (.iconst (-1), 1) := by decide +kernel
theorem dX3_spread_117 : decode cX3_spread 117 = .ok (.ireturn, 1) := by decide +kernel
theorem dX3_countKnown_0 : decode cX3_countKnown 0 = .ok (.iconst 0, 1) := by decide +kernel
theorem dX3_countKnown_1 : decode cX3_countKnown 1 = .ok (.istore_n 1, 1) := by decide +kernel
theorem dX3_countKnown_2 : decode cX3_countKnown 2 = .ok (.iconst 0, 1) := by decide +kernel
theorem dX3_countKnown_3 : decode cX3_countKnown 3 = .ok (.istore_n 2, 1) := by decide +kernel
theorem dX3_countKnown_4 : decode cX3_countKnown 4 = .ok (.iload_n 2, 1) := by decide +kernel
theorem dX3_countKnown_5 : decode cX3_countKnown 5 = .ok (.aload_n 0, 1) := by decide +kernel
theorem dX3_countKnown_6 : decode cX3_countKnown 6 = .ok (.getfield 23, 3) := by decide +kernel
theorem dX3_countKnown_9 : decode cX3_countKnown 9 = .ok (.if_icmp .ge 38, 3) := by decide +kernel
theorem dX3_countKnown_12 : decode cX3_countKnown 12 = .ok (.iload_n 2, 1) := by decide +kernel
theorem dX3_countKnown_13 : decode cX3_countKnown 13 = .ok (.iconst 1, 1) := by decide +kernel
theorem dX3_countKnown_14 : decode cX3_countKnown 14 = .ok (.iadd, 1) := by decide +kernel
theorem dX3_countKnown_15 : decode cX3_countKnown 15 = .ok (.istore_n 3, 1) := by decide +kernel
theorem dX3_countKnown_16 : decode cX3_countKnown 16 = .ok (.iload_n 3, 1) := by decide +kernel
theorem dX3_countKnown_17 : decode cX3_countKnown 17 = .ok (.aload_n 0, 1) := by decide +kernel
theorem dX3_countKnown_18 : decode cX3_countKnown 18 = .ok (.getfield 23, 3) := by decide +kernel
theorem dX3_countKnown_21 : decode cX3_countKnown 21 = .ok (.if_icmp .ge 20, 3) := by decide +kernel
theorem dX3_countKnown_24 : decode cX3_countKnown 24 = .ok (.iload_n 1, 1) := by decide +kernel
theorem dX3_countKnown_25 : decode cX3_countKnown 25 = .ok (.aload_n 0, 1) := by decide +kernel
theorem dX3_countKnown_26 : decode cX3_countKnown 26 = .ok (.getfield 11, 3) := by decide +kernel
theorem dX3_countKnown_29 : decode cX3_countKnown 29 = .ok (.iload_n 2, 1) := by decide +kernel
theorem dX3_countKnown_30 : decode cX3_countKnown 30 = .ok (.aaload, 1) := by decide +kernel
theorem dX3_countKnown_31 : decode cX3_countKnown 31 = .ok (.iload_n 3, 1) := by decide +kernel
theorem dX3_countKnown_32 : decode cX3_countKnown 32 = .ok (.iaload, 1) := by decide +kernel
theorem dX3_countKnown_33 : decode cX3_countKnown 33 = .ok (.iadd, 1) := by decide +kernel
theorem dX3_countKnown_34 : decode cX3_countKnown 34 = .ok (.istore_n 1, 1) := by decide +kernel
theorem dX3_countKnown_35 : decode cX3_countKnown 35 = .ok (.iinc 3 1, 3) := by decide +kernel
theorem dX3_countKnown_38 : decode cX3_countKnown 38 = .ok (.goto (-22), 3) := by decide +kernel
theorem dX3_countKnown_41 : decode cX3_countKnown 41 = .ok (.iinc 2 1, 3) := by decide +kernel
theorem dX3_countKnown_44 : decode cX3_countKnown 44 = .ok (.goto (-40), 3) := by decide +kernel
theorem dX3_countKnown_47 : decode cX3_countKnown 47 = .ok (.iload_n 1, 1) := by decide +kernel
theorem dX3_countKnown_48 : decode cX3_countKnown 48 = .ok (.ireturn, 1) := by decide +kernel
set_option maxRecDepth 20000 in
theorem ggX3_foldInto_X5_fold : GoodIn wsX3_foldInto wsX5_fold := goodIn_r _ [6, 7] (by decide +kernel) (by decide +kernel)
set_option maxRecDepth 20000 in
theorem gX3_foldInto_X5_fold_n45 : GoodIn wsX3_foldInto (wsX5_fold) := ggX3_foldInto_X5_fold
set_option maxRecDepth 20000 in
theorem ggX3_foldInto_X5_foldIfKnown : GoodIn wsX3_foldInto wsX5_foldIfKnown := goodIn_r _ [9, 10, 4, 5, 6, 7] (by decide +kernel) (by decide +kernel)
set_option maxRecDepth 20000 in
theorem gX3_foldInto_X5_foldIfKnown_n49 : GoodIn wsX3_foldInto (wsX5_foldIfKnown) := ggX3_foldInto_X5_foldIfKnown
theorem dX3_foldInto_0 : decode cX3_foldInto 0 = .ok (.lload_n 1, 1) := by decide +kernel
theorem dX3_foldInto_1 : decode cX3_foldInto 1 = .ok (.aload_n 0, 1) := by decide +kernel
theorem dX3_foldInto_2 : decode cX3_foldInto 2 = .ok (.getfield 23, 3) := by decide +kernel
theorem dX3_foldInto_5 : decode cX3_foldInto 5 = .ok (.i2l, 1) := by decide +kernel
theorem dX3_foldInto_6 : decode cX3_foldInto 6 = .ok (.invokestatic 45, 3) := by decide +kernel
theorem dX3_foldInto_9 : decode cX3_foldInto 9 = .ok (.lstore_n 3, 1) := by decide +kernel
theorem dX3_foldInto_10 : decode cX3_foldInto 10 = .ok (.iconst 0, 1) := by decide +kernel
theorem dX3_foldInto_11 : decode cX3_foldInto 11 = .ok (.istore 5, 2) := by decide +kernel
theorem dX3_foldInto_13 : decode cX3_foldInto 13 = .ok (.iload 5, 2) := by decide +kernel
theorem dX3_foldInto_15 : decode cX3_foldInto 15 = .ok (.aload_n 0, 1) := by decide +kernel
theorem dX3_foldInto_16 : decode cX3_foldInto 16 = .ok (.getfield 23, 3) := by decide +kernel
theorem dX3_foldInto_19 : decode cX3_foldInto 19 = .ok (.if_icmp .ge 64, 3) := by decide +kernel
theorem dX3_foldInto_22 : decode cX3_foldInto 22 = .ok (.iload 5, 2) := by decide +kernel
theorem dX3_foldInto_24 : decode cX3_foldInto 24 = .ok (.iconst 1, 1) := by decide +kernel
theorem dX3_foldInto_25 : decode cX3_foldInto 25 = .ok (.iadd, 1) := by decide +kernel
theorem dX3_foldInto_26 : decode cX3_foldInto 26 = .ok (.istore 6, 2) := by decide +kernel
theorem dX3_foldInto_28 : decode cX3_foldInto 28 = .ok (.iload 6, 2) := by decide +kernel
theorem dX3_foldInto_30 : decode cX3_foldInto 30 = .ok (.aload_n 0, 1) := by decide +kernel
theorem dX3_foldInto_31 : decode cX3_foldInto 31 = .ok (.getfield 23, 3) := by decide +kernel
theorem dX3_foldInto_34 : decode cX3_foldInto 34 = .ok (.if_icmp .ge 43, 3) := by decide +kernel
theorem dX3_foldInto_37 : decode cX3_foldInto 37 = .ok (.lload_n 3, 1) := by decide +kernel
theorem dX3_foldInto_38 : decode cX3_foldInto 38 = .ok (.aload_n 0, 1) := by decide +kernel
theorem dX3_foldInto_39 : decode cX3_foldInto 39 = .ok (.getfield 11, 3) := by decide +kernel
theorem dX3_foldInto_42 : decode cX3_foldInto 42 = .ok (.iload 5, 2) := by decide +kernel
theorem dX3_foldInto_44 : decode cX3_foldInto 44 = .ok (.aaload, 1) := by decide +kernel
theorem dX3_foldInto_45 : decode cX3_foldInto 45 = .ok (.iload 6, 2) := by decide +kernel
theorem dX3_foldInto_47 : decode cX3_foldInto 47 = .ok (.iaload, 1) := by decide +kernel
theorem dX3_foldInto_48 : decode cX3_foldInto 48 = .ok (.iconst 1, 1) := by decide +kernel
theorem dX3_foldInto_49 : decode cX3_foldInto 49 = .ok (.if_icmp .ne 7, 3) := by decide +kernel
theorem dX3_foldInto_52 : decode cX3_foldInto 52 = .ok (.iconst 1, 1) := by decide +kernel
theorem dX3_foldInto_53 : decode cX3_foldInto 53 = .ok (.goto 4, 3) := by decide +kernel
theorem dX3_foldInto_56 : decode cX3_foldInto 56 = .ok (.iconst 0, 1) := by decide +kernel
theorem dX3_foldInto_57 : decode cX3_foldInto 57 = .ok (.aload_n 0, 1) := by decide +kernel
theorem dX3_foldInto_58 : decode cX3_foldInto 58 = .ok (.getfield 16, 3) := by decide +kernel
theorem dX3_foldInto_61 : decode cX3_foldInto 61 = .ok (.iload 5, 2) := by decide +kernel
theorem dX3_foldInto_63 : decode cX3_foldInto 63 = .ok (.aaload, 1) := by decide +kernel
theorem dX3_foldInto_64 : decode cX3_foldInto 64 = .ok (.iload 6, 2) := by decide +kernel
theorem dX3_foldInto_66 : decode cX3_foldInto 66 = .ok (.iaload, 1) := by decide +kernel
theorem dX3_foldInto_67 : decode cX3_foldInto 67 = .ok (.invokestatic 49, 3) := by decide +kernel
theorem dX3_foldInto_70 : decode cX3_foldInto 70 = .ok (.lstore_n 3, 1) := by decide +kernel
theorem dX3_foldInto_71 : decode cX3_foldInto 71 = .ok (.iinc 6 1, 3) := by decide +kernel
theorem dX3_foldInto_74 : decode cX3_foldInto 74 = .ok (.goto (-46), 3) := by decide +kernel
theorem dX3_foldInto_77 : decode cX3_foldInto 77 = .ok (.iinc 5 1, 3) := by decide +kernel
theorem dX3_foldInto_80 : decode cX3_foldInto 80 = .ok (.goto (-67), 3) := by decide +kernel
theorem dX3_foldInto_83 : decode cX3_foldInto 83 = .ok (.lload_n 3, 1) := by decide +kernel
theorem dX3_foldInto_84 : decode cX3_foldInto 84 = .ok (.lreturn, 1) := by decide +kernel
set_option maxRecDepth 20000 in
theorem ggX4_init_X4_startAnew : GoodIn wsX4_init wsX4_startAnew := goodIn_r _ [11, 12, 13, 6, 14, 15, 16] (by decide +kernel) (by decide +kernel)
set_option maxRecDepth 20000 in
theorem gX4_init_X4_startAnew : GoodIn wsX4_init (wsV RX4 16 RX4 yX4_startAnew wsX4_startAnew) := goodIn_app (goodIn_of _ (by decide +kernel)) ggX4_init_X4_startAnew
theorem dX4_init_0 : decode cX4_init 0 = .ok (.aload_n 0, 1) := by decide +kernel
theorem dX4_init_1 : decode cX4_init 1 = .ok (.invokespecial 3, 3) := by decide +kernel
theorem dX4_init_4 : decode cX4_init 4 = .ok (.aload_n 0, 1) := by decide +kernel
theorem dX4_init_5 : decode cX4_init 5 = .ok (.bipush 9, 2) := by decide +kernel
theorem dX4_init_7 : decode cX4_init 7 = .ok (.bipush 9, 2) := by decide +kernel
theorem dX4_init_9 : decode cX4_init 9 = .ok (.multianewarray 9 2, 4) := by decide +kernel
theorem dX4_init_13 : decode cX4_init 13 = .ok (.putfield 11, 3) := by decide +kernel
theorem dX4_init_16 : decode cX4_init 16 = .ok (.aload_n 0, 1) := by decide +kernel
theorem dX4_init_17 : decode cX4_init 17 = .ok (.iconst 2, 1) := by decide +kernel
theorem dX4_init_18 : decode cX4_init 18 = .ok (.iconst 1, 1) := by decide +kernel
theorem dX4_init_19 : decode cX4_init 19 = .ok (.invokevirtual 16, 3) := by decide +kernel
theorem dX4_init_22 : decode cX4_init 22 = .ok (.return_, 1) := by decide +kernel
theorem dX4_startAnew_0 : decode cX4_startAnew 0 = .ok (.aload_n 0, 1) := by decide +kernel
theorem dX4_startAnew_1 : decode cX4_startAnew 1 = .ok (.iload_n 1, 1) := by decide +kernel
theorem dX4_startAnew_2 : decode cX4_startAnew 2 = .ok (.putfield 20, 3) := by decide +kernel
theorem dX4_startAnew_5 : decode cX4_startAnew 5 = .ok (.aload_n 0, 1) := by decide +kernel
theorem dX4_startAnew_6 : decode cX4_startAnew 6 = .ok (.iload_n 2, 1) := by decide +kernel
theorem dX4_startAnew_7 : decode cX4_startAnew 7 = .ok (.putfield 24, 3) := by decide +kernel
theorem dX4_startAnew_10 : decode cX4_startAnew 10 = .ok (.iconst 0, 1) := by decide +kernel
theorem dX4_startAnew_11 : decode cX4_startAnew 11 = .ok (.istore_n 3, 1) := by decide +kernel
theorem dX4_startAnew_12 : decode cX4_startAnew 12 = .ok (.iload_n 3, 1) := by decide +kernel
theorem dX4_startAnew_13 : decode cX4_startAnew 13 = .ok (.bipush 8, 2) := by decide +kernel
theorem dX4_startAnew_15 : decode cX4_startAnew 15 = .ok (.if_icmp .gt 35, 3) := by decide +kernel
theorem dX4_startAnew_18 : decode cX4_startAnew 18 = .ok (.iconst 0, 1) := by decide +kernel
theorem dX4_startAnew_19 : decode cX4_startAnew 19 = .ok (.istore 4, 2) := by decide +kernel
theorem dX4_startAnew_21 : decode cX4_startAnew 21 = .ok (.iload 4, 2) := by decide +kernel
theorem dX4_startAnew_23 : decode cX4_startAnew 23 = .ok (.bipush 8, 2) := by decide +kernel
theorem dX4_startAnew_25 : decode cX4_startAnew 25 = .ok (.if_icmp .gt 19, 3) := by decide +kernel
theorem dX4_startAnew_28 : decode cX4_startAnew 28 = .ok (.aload_n 0, 1) := by decide +kernel
theorem dX4_startAnew_29 : decode cX4_startAnew 29 = .ok (.getfield 11, 3) := by decide +kernel
theorem dX4_startAnew_32 : decode cX4_startAnew 32 = .ok (.iload_n 3, 1) := by decide +kernel
theorem dX4_startAnew_33 : decode cX4_startAnew 33 = .ok (.aaload, 1) := by decide +kernel
theorem dX4_startAnew_34 : decode cX4_startAnew 34 = .ok (.iload 4, 2) := by decide +kernel
theorem dX4_startAnew_36 : decode cX4_startAnew 36 = .ok (.iconst 0, 1) := by decide +kernel
theorem dX4_startAnew_37 : decode cX4_startAnew 37 = .ok (.iastore, 1) := by decide +kernel
theorem dX4_startAnew_38 : decode cX4_startAnew 38 = .ok (.iinc 4 1, 3) := by decide +kernel
theorem dX4_startAnew_41 : decode cX4_startAnew 41 = .ok (.goto (-20), 3) := by decide +kernel
theorem dX4_startAnew_44 : decode cX4_startAnew 44 = .ok (.iinc 3 1, 3) := by decide +kernel
theorem dX4_startAnew_47 : decode cX4_startAnew 47 = .ok (.goto (-35), 3) := by decide +kernel
theorem dX4_startAnew_50 : decode cX4_startAnew 50 = .ok (.return_, 1) := by decide +kernel
theorem dX4_holds_0 : decode cX4_holds 0 = .ok (.iload_n 1, 1) := by decide +kernel
theorem dX4_holds_1 : decode cX4_holds 1 = .ok (.ifCond .lt 43, 3) := by decide +kernel
theorem dX4_holds_4 : decode cX4_holds 4 = .ok (.iload_n 1, 1) := by decide +kernel
theorem dX4_holds_5 : decode cX4_holds 5 = .ok (.aload_n 0, 1) := by decide +kernel
theorem dX4_holds_6 : decode cX4_holds 6 = .ok (.getfield 20, 3) := by decide +kernel
theorem dX4_holds_9 : decode cX4_holds 9 = .ok (.if_icmp .gt 35, 3) := by decide +kernel
theorem dX4_holds_12 : decode cX4_holds 12 = .ok (.iload_n 2, 1) := by decide +kernel
theorem dX4_holds_13 : decode cX4_holds 13 = .ok (.ifCond .lt 31, 3) := by decide +kernel
theorem dX4_holds_16 : decode cX4_holds 16 = .ok (.iload_n 2, 1) := by decide +kernel
theorem dX4_holds_17 : decode cX4_holds 17 = .ok (.aload_n 0, 1) := by decide +kernel
theorem dX4_holds_18 : decode cX4_holds 18 = .ok (.getfield 24, 3) := by decide +kernel
theorem dX4_holds_21 : decode cX4_holds 21 = .ok (.if_icmp .gt 23, 3) := by decide +kernel
theorem dX4_holds_24 : decode cX4_holds 24 = .ok (.iload_n 1, 1) := by decide +kernel
theorem dX4_holds_25 : decode cX4_holds 25 = .ok (.aload_n 0, 1) := by decide +kernel
theorem dX4_holds_26 : decode cX4_holds 26 = .ok (.getfield 20, 3) := by decide +kernel
theorem dX4_holds_29 : decode cX4_holds 29 = .ok (.if_icmp .lt 11, 3) := by decide +kernel
theorem dX4_holds_32 : decode cX4_holds 32 = .ok (.iload_n 2, 1) := by decide +kernel
theorem dX4_holds_33 : decode cX4_holds 33 = .ok (.aload_n 0, 1) := by decide +kernel
theorem dX4_holds_34 : decode cX4_holds 34 = .ok (.getfield 24, 3) := by decide +kernel
theorem dX4_holds_37 : decode cX4_holds 37 = .ok (.if_icmp .ge 7, 3) := by decide +kernel
theorem dX4_holds_40 : decode cX4_holds 40 = .ok (.iconst 1, 1) := by decide +kernel
theorem dX4_holds_41 : decode cX4_holds 41 = .ok (.goto 4, 3) := by decide +kernel
theorem dX4_holds_44 : decode cX4_holds 44 = .ok (.iconst 0, 1) := by decide +kernel
theorem dX4_holds_45 : decode cX4_holds 45 = .ok (.ireturn, 1) := by decide +kernel
set_option maxRecDepth 20000 in
theorem ggX4_closedCell_J9_floorDiv_7cf53 : GoodIn wsX4_closedCell wsJ9_floorDiv_7cf53 := goodIn_r _ [6] (by decide +kernel) (by decide +kernel)
set_option maxRecDepth 20000 in
theorem gX4_closedCell_J9_floorDiv_7cf53 : GoodIn wsX4_closedCell (va_wsS RX4 27 yJ9_floorDiv_7cf53 wsJ9_floorDiv_7cf53) := goodIn_app (goodIn_of _ (by decide +kernel)) ggX4_closedCell_J9_floorDiv_7cf53
theorem dX4_closedCell_0 : decode cX4_closedCell 0 = .ok (.aload_n 0, 1) := by decide +kernel
theorem dX4_closedCell_1 : decode cX4_closedCell 1 = .ok (.getfield 11, 3) := by decide +kernel
theorem dX4_closedCell_4 : decode cX4_closedCell 4 = .ok (.aload_n 0, 1) := by decide +kernel
theorem dX4_closedCell_5 : decode cX4_closedCell 5 = .ok (.getfield 20, 3) := by decide +kernel
theorem dX4_closedCell_8 : decode cX4_closedCell 8 = .ok (.aaload, 1) := by decide +kernel
theorem dX4_closedCell_9 : decode cX4_closedCell 9 = .ok (.iload_n 2, 1) := by decide +kernel
theorem dX4_closedCell_10 : decode cX4_closedCell 10 = .ok (.iaload, 1) := by decide +kernel
theorem dX4_closedCell_11 : decode cX4_closedCell 11 = .ok (.aload_n 0, 1) := by decide +kernel
theorem dX4_closedCell_12 : decode cX4_closedCell 12 = .ok (.getfield 11, 3) := by decide +kernel
theorem dX4_closedCell_15 : decode cX4_closedCell 15 = .ok (.iconst 0, 1) := by decide +kernel
theorem dX4_closedCell_16 : decode cX4_closedCell 16 = .ok (.aaload, 1) := by decide +kernel
theorem dX4_closedCell_17 : decode cX4_closedCell 17 = .ok (.iload_n 2, 1) := by decide +kernel
theorem dX4_closedCell_18 : decode cX4_closedCell 18 = .ok (.iaload, 1) := by decide +kernel
theorem dX4_closedCell_19 : decode cX4_closedCell 19 = .ok (.isub, 1) := by decide +kernel
theorem dX4_closedCell_20 : decode cX4_closedCell 20 = .ok (.iload_n 1, 1) := by decide +kernel
theorem dX4_closedCell_21 : decode cX4_closedCell 21 = .ok (.imul, 1) := by decide +kernel
theorem dX4_closedCell_22 : decode cX4_closedCell 22 = .ok (.istore_n 3, 1) := by decide +kernel
theorem dX4_closedCell_23 : decode cX4_closedCell 23 = .ok (.aload_n 0, 1) := by decide +kernel
theorem dX4_closedCell_24 : decode cX4_closedCell 24 = .ok (.getfield 20, 3) := by decide +kernel
theorem dX4_closedCell_27 : decode cX4_closedCell 27 = .ok (.ifCond .ne 14, 3) := by decide +kernel
theorem dX4_closedCell_30 : decode cX4_closedCell 30 = .ok (.aload_n 0, 1) := by decide +kernel
theorem dX4_closedCell_31 : decode cX4_closedCell 31 = .ok (.getfield 11, 3) := by decide +kernel
theorem dX4_closedCell_34 : decode cX4_closedCell 34 = .ok (.iload_n 1, 1) := by decide +kernel
theorem dX4_closedCell_35 : decode cX4_closedCell 35 = .ok (.aaload, 1) := by decide +kernel
theorem dX4_closedCell_36 : decode cX4_closedCell 36 = .ok (.iload_n 2, 1) := by decide +kernel
theorem dX4_closedCell_37 : decode cX4_closedCell 37 = .ok (.iaload, 1) := by decide +kernel
theorem dX4_closedCell_38 : decode cX4_closedCell 38 = .ok (.goto 20, 3) := by decide +kernel
theorem dX4_closedCell_41 : decode cX4_closedCell 41 = .ok (.aload_n 0, 1) := by decide +kernel
theorem dX4_closedCell_42 : decode cX4_closedCell 42 = .ok (.getfield 11, 3) := by decide +kernel
theorem dX4_closedCell_45 : decode cX4_closedCell 45 = .ok (.iload_n 1, 1) := by decide +kernel
theorem dX4_closedCell_46 : decode cX4_closedCell 46 = .ok (.aaload, 1) := by decide +kernel
theorem dX4_closedCell_47 : decode cX4_closedCell 47 = .ok (.iload_n 2, 1) := by decide +kernel
theorem dX4_closedCell_48 : decode cX4_closedCell 48 = .ok (.iaload, 1) := by decide +kernel
theorem dX4_closedCell_49 : decode cX4_closedCell 49 = .ok (.iload_n 3, 1) := by decide +kernel
theorem dX4_closedCell_50 : decode cX4_closedCell 50 = .ok (.aload_n 0, 1) := by decide +kernel
theorem dX4_closedCell_51 : decode cX4_closedCell 51 = .ok (.getfield 20, 3) := by decide +kernel
theorem dX4_closedCell_54 : decode cX4_closedCell 54 = .ok (.invokestatic 27, 3) := by decide +kernel
theorem dX4_closedCell_57 : decode cX4_closedCell 57 = .ok (.isub, 1) := by decide +kernel
theorem dX4_closedCell_58 : decode cX4_closedCell 58 = .ok (.ireturn, 1) := by decide +kernel
theorem dX4_tiedCell_0 : decode cX4_tiedCell 0 = .ok (.aload_n 0, 1) := by decide +kernel
theorem dX4_tiedCell_1 : decode cX4_tiedCell 1 = .ok (.getfield 11, 3) := by decide +kernel
theorem dX4_tiedCell_4 : decode cX4_tiedCell 4 = .ok (.iload_n 1, 1) := by decide +kernel
theorem dX4_tiedCell_5 : decode cX4_tiedCell 5 = .ok (.aaload, 1) := by decide +kernel
theorem dX4_tiedCell_6 : decode cX4_tiedCell 6 = .ok (.iload_n 2, 1) := by decide +kernel
theorem dX4_tiedCell_7 : decode cX4_tiedCell 7 = .ok (.iaload, 1) := by decide +kernel
theorem dX4_tiedCell_8 : decode cX4_tiedCell 8 = .ok (.aload_n 0, 1) := by decide +kernel
theorem dX4_tiedCell_9 : decode cX4_tiedCell 9 = .ok (.getfield 11, 3) := by decide +kernel
theorem dX4_tiedCell_12 : decode cX4_tiedCell 12 = .ok (.iload_n 1, 1) := by decide +kernel
theorem dX4_tiedCell_13 : decode cX4_tiedCell 13 = .ok (.aaload, 1) := by decide +kernel
theorem dX4_tiedCell_14 : decode cX4_tiedCell 14 = .ok (.aload_n 0, 1) := by decide +kernel
theorem dX4_tiedCell_15 : decode cX4_tiedCell 15 = .ok (.getfield 24, 3) := by decide +kernel
theorem dX4_tiedCell_18 : decode cX4_tiedCell 18 = .ok (.iaload, 1) := by decide +kernel
theorem dX4_tiedCell_19 : decode cX4_tiedCell 19 = .ok (.iadd, 1) := by decide +kernel
theorem dX4_tiedCell_20 : decode cX4_tiedCell 20 = .ok (.aload_n 0, 1) := by decide +kernel
theorem dX4_tiedCell_21 : decode cX4_tiedCell 21 = .ok (.getfield 11, 3) := by decide +kernel
theorem dX4_tiedCell_24 : decode cX4_tiedCell 24 = .ok (.iload_n 1, 1) := by decide +kernel
theorem dX4_tiedCell_25 : decode cX4_tiedCell 25 = .ok (.aaload, 1) := by decide +kernel
theorem dX4_tiedCell_26 : decode cX4_tiedCell 26 = .ok (.iconst 0, 1) := by decide +kernel
theorem dX4_tiedCell_27 : decode cX4_tiedCell 27 = .ok (.iaload, 1) := by decide +kernel
theorem dX4_tiedCell_28 : decode cX4_tiedCell 28 = .ok (.isub, 1) := by decide +kernel
theorem dX4_tiedCell_29 : decode cX4_tiedCell 29 = .ok (.ireturn, 1) := by decide +kernel
set_option maxRecDepth 20000 in
theorem ggX4_foldInto_X5_fold : GoodIn wsX4_foldInto wsX5_fold := goodIn_r _ [6, 7] (by decide +kernel) (by decide +kernel)
set_option maxRecDepth 20000 in
theorem gX4_foldInto_X5_fold_n33 : GoodIn wsX4_foldInto (wsX5_fold) := ggX4_foldInto_X5_fold
theorem dX4_foldInto_0 : decode cX4_foldInto 0 = .ok (.lload_n 1, 1) := by decide +kernel
theorem dX4_foldInto_1 : decode cX4_foldInto 1 = .ok (.aload_n 0, 1) := by decide +kernel
theorem dX4_foldInto_2 : decode cX4_foldInto 2 = .ok (.getfield 20, 3) := by decide +kernel
theorem dX4_foldInto_5 : decode cX4_foldInto 5 = .ok (.i2l, 1) := by decide +kernel
theorem dX4_foldInto_6 : decode cX4_foldInto 6 = .ok (.invokestatic 33, 3) := by decide +kernel
theorem dX4_foldInto_9 : decode cX4_foldInto 9 = .ok (.aload_n 0, 1) := by decide +kernel
theorem dX4_foldInto_10 : decode cX4_foldInto 10 = .ok (.getfield 24, 3) := by decide +kernel
theorem dX4_foldInto_13 : decode cX4_foldInto 13 = .ok (.i2l, 1) := by decide +kernel
theorem dX4_foldInto_14 : decode cX4_foldInto 14 = .ok (.invokestatic 33, 3) := by decide +kernel
theorem dX4_foldInto_17 : decode cX4_foldInto 17 = .ok (.lstore_n 3, 1) := by decide +kernel
theorem dX4_foldInto_18 : decode cX4_foldInto 18 = .ok (.iconst 0, 1) := by decide +kernel
theorem dX4_foldInto_19 : decode cX4_foldInto 19 = .ok (.istore 5, 2) := by decide +kernel
theorem dX4_foldInto_21 : decode cX4_foldInto 21 = .ok (.iload 5, 2) := by decide +kernel
theorem dX4_foldInto_23 : decode cX4_foldInto 23 = .ok (.aload_n 0, 1) := by decide +kernel
theorem dX4_foldInto_24 : decode cX4_foldInto 24 = .ok (.getfield 20, 3) := by decide +kernel
theorem dX4_foldInto_27 : decode cX4_foldInto 27 = .ok (.if_icmp .gt 43, 3) := by decide +kernel
theorem dX4_foldInto_30 : decode cX4_foldInto 30 = .ok (.iconst 0, 1) := by decide +kernel
theorem dX4_foldInto_31 : decode cX4_foldInto 31 = .ok (.istore 6, 2) := by decide +kernel
theorem dX4_foldInto_33 : decode cX4_foldInto 33 = .ok (.iload 6, 2) := by decide +kernel
theorem dX4_foldInto_35 : decode cX4_foldInto 35 = .ok (.aload_n 0, 1) := by decide +kernel
theorem dX4_foldInto_36 : decode cX4_foldInto 36 = .ok (.getfield 24, 3) := by decide +kernel
theorem dX4_foldInto_39 : decode cX4_foldInto 39 = .ok (.if_icmp .ge 25, 3) := by decide +kernel
theorem dX4_foldInto_42 : decode cX4_foldInto 42 = .ok (.lload_n 3, 1) := by decide +kernel
theorem dX4_foldInto_43 : decode cX4_foldInto 43 = .ok (.aload_n 0, 1) := by decide +kernel
theorem dX4_foldInto_44 : decode cX4_foldInto 44 = .ok (.getfield 11, 3) := by decide +kernel
theorem dX4_foldInto_47 : decode cX4_foldInto 47 = .ok (.iload 5, 2) := by decide +kernel
theorem dX4_foldInto_49 : decode cX4_foldInto 49 = .ok (.aaload, 1) := by decide +kernel
theorem dX4_foldInto_50 : decode cX4_foldInto 50 = .ok (.iload 6, 2) := by decide +kernel
theorem dX4_foldInto_52 : decode cX4_foldInto 52 = .ok (.iaload, 1) := by decide +kernel
theorem dX4_foldInto_53 : decode cX4_foldInto 53 = .ok (.i2l, 1) := by decide +kernel
theorem dX4_foldInto_54 : decode cX4_foldInto 54 = .ok (.invokestatic 33, 3) := by decide +kernel
theorem dX4_foldInto_57 : decode cX4_foldInto 57 = .ok (.lstore_n 3, 1) := by decide +kernel
theorem dX4_foldInto_58 : decode cX4_foldInto 58 = .ok (.iinc 6 1, 3) := by decide +kernel
theorem dX4_foldInto_61 : decode cX4_foldInto 61 = .ok (.goto (-28), 3) := by decide +kernel
theorem dX4_foldInto_64 : decode cX4_foldInto 64 = .ok (.iinc 5 1, 3) := by decide +kernel
theorem dX4_foldInto_67 : decode cX4_foldInto 67 = .ok (.goto (-46), 3) := by decide +kernel
theorem dX4_foldInto_70 : decode cX4_foldInto 70 = .ok (.iconst 0, 1) := by decide +kernel
theorem dX4_foldInto_71 : decode cX4_foldInto 71 = .ok (.istore 5, 2) := by decide +kernel
theorem dX4_foldInto_73 : decode cX4_foldInto 73 = .ok (.iload 5, 2) := by decide +kernel
theorem dX4_foldInto_75 : decode cX4_foldInto 75 = .ok (.aload_n 0, 1) := by decide +kernel
theorem dX4_foldInto_76 : decode cX4_foldInto 76 = .ok (.getfield 20, 3) := by decide +kernel
theorem dX4_foldInto_79 : decode cX4_foldInto 79 = .ok (.if_icmp .ge 27, 3) := by decide +kernel
theorem dX4_foldInto_82 : decode cX4_foldInto 82 = .ok (.lload_n 3, 1) := by decide +kernel
theorem dX4_foldInto_83 : decode cX4_foldInto 83 = .ok (.aload_n 0, 1) := by decide +kernel
theorem dX4_foldInto_84 : decode cX4_foldInto 84 = .ok (.getfield 11, 3) := by decide +kernel
theorem dX4_foldInto_87 : decode cX4_foldInto 87 = .ok (.iload 5, 2) := by decide +kernel
theorem dX4_foldInto_89 : decode cX4_foldInto 89 = .ok (.aaload, 1) := by decide +kernel
theorem dX4_foldInto_90 : decode cX4_foldInto 90 = .ok (.aload_n 0, 1) := by decide +kernel
theorem dX4_foldInto_91 : decode cX4_foldInto 91 = .ok (.getfield 24, 3) := by decide +kernel
theorem dX4_foldInto_94 : decode cX4_foldInto 94 = .ok (.iaload, 1) := by decide +kernel
theorem dX4_foldInto_95 : decode cX4_foldInto 95 = .ok (.i2l, 1) := by decide +kernel
theorem dX4_foldInto_96 : decode cX4_foldInto 96 = .ok (.invokestatic 33, 3) := by decide +kernel
theorem dX4_foldInto_99 : decode cX4_foldInto 99 = .ok (.lstore_n 3, 1) := by decide +kernel
theorem dX4_foldInto_100 : decode cX4_foldInto 100 = .ok (.iinc 5 1, 3) := by decide +kernel
theorem dX4_foldInto_103 : decode cX4_foldInto 103 = .ok (.goto (-30), 3) := by decide +kernel
theorem dX4_foldInto_106 : decode cX4_foldInto 106 = .ok (.lload_n 3, 1) := by decide +kernel
theorem dX4_foldInto_107 : decode cX4_foldInto 107 = .ok (.lreturn, 1) := by decide +kernel
end
section
set_option maxRecDepth 20000 in
theorem ggX5_init_X2_init : GoodIn wsX5_init wsX2_init := goodIn_r _ [26, 27, 2, 3, 28, 29, 30, 31, 32, 33, 34, 35, 36, 37, 38, 39, 40, 6, 41, 42, 43, 79, 80, 81, 82, 83, 84, 85, 86, 87] (by decide +kernel) (by decide +kernel)
set_option maxRecDepth 20000 in
theorem gX5_init_X2_init : GoodIn wsX5_init (wsX2_init) := ggX5_init_X2_init
set_option maxRecDepth 20000 in
theorem ggX5_init_X1_init : GoodIn wsX5_init wsX1_init := goodIn_r _ [45, 46, 2, 3, 47, 48, 49, 28, 50, 93, 94, 95, 96] (by decide +kernel) (by decide +kernel)
set_option maxRecDepth 20000 in
theorem gX5_init_X1_init_n18 : GoodIn wsX5_init (wsX1_init) := ggX5_init_X1_init
set_option maxRecDepth 20000 in
theorem ggX5_init_X4_init : GoodIn wsX5_init wsX4_init := goodIn_r _ [53, 54, 2, 3, 55, 28, 56, 57, 58, 59, 14, 60, 61, 62, 97, 98, 99] (by decide +kernel) (by decide +kernel)
set_option maxRecDepth 20000 in
theorem gX5_init_X4_init : GoodIn wsX5_init (wsX4_init) := ggX5_init_X4_init
set_option maxRecDepth 20000 in
theorem ggX5_init_X3_init : GoodIn wsX5_init wsX3_init := goodIn_r _ [65, 66, 2, 3, 67, 28, 68, 69, 70, 71, 72, 18, 73, 74, 100, 101, 102] (by decide +kernel) (by decide +kernel)
set_option maxRecDepth 20000 in
theorem gX5_init_X3_init : GoodIn wsX5_init (wsX3_init) := ggX5_init_X3_init
set_option maxRecDepth 20000 in
theorem ggX5_init_X0_init : GoodIn wsX5_init wsX0_init := goodIn_r _ [76, 77, 2, 3, 28, 78, 103, 104] (by decide +kernel) (by decide +kernel)
set_option maxRecDepth 20000 in
theorem gX5_init_X0_init_n39 : GoodIn wsX5_init (wsX0_init) := ggX5_init_X0_init
theorem dX5_init_0 : decode cX5_init 0 = .ok (.aload_n 0, 1) := by decide +kernel
theorem dX5_init_1 : decode cX5_init 1 = .ok (.invokespecial 1, 3) := by decide +kernel
theorem dX5_init_4 : decode cX5_init 4 = .ok (.aload_n 0, 1) := by decide +kernel
theorem dX5_init_5 : decode cX5_init 5 = .ok (.new 7, 3) := by decide +kernel
theorem dX5_init_8 : decode cX5_init 8 = .ok (.dup, 1) := by decide +kernel
theorem dX5_init_9 : decode cX5_init 9 = .ok (.invokespecial 9, 3) := by decide +kernel
theorem dX5_init_12 : decode cX5_init 12 = .ok (.putfield 10, 3) := by decide +kernel
theorem dX5_init_15 : decode cX5_init 15 = .ok (.aload_n 0, 1) := by decide +kernel
theorem dX5_init_16 : decode cX5_init 16 = .ok (.new 16, 3) := by decide +kernel
theorem dX5_init_19 : decode cX5_init 19 = .ok (.dup, 1) := by decide +kernel
theorem dX5_init_20 : decode cX5_init 20 = .ok (.invokespecial 18, 3) := by decide +kernel
theorem dX5_init_23 : decode cX5_init 23 = .ok (.putfield 19, 3) := by decide +kernel
theorem dX5_init_26 : decode cX5_init 26 = .ok (.aload_n 0, 1) := by decide +kernel
theorem dX5_init_27 : decode cX5_init 27 = .ok (.new 23, 3) := by decide +kernel
theorem dX5_init_30 : decode cX5_init 30 = .ok (.dup, 1) := by decide +kernel
theorem dX5_init_31 : decode cX5_init 31 = .ok (.invokespecial 25, 3) := by decide +kernel
theorem dX5_init_34 : decode cX5_init 34 = .ok (.putfield 26, 3) := by decide +kernel
theorem dX5_init_37 : decode cX5_init 37 = .ok (.aload_n 0, 1) := by decide +kernel
theorem dX5_init_38 : decode cX5_init 38 = .ok (.new 30, 3) := by decide +kernel
theorem dX5_init_41 : decode cX5_init 41 = .ok (.dup, 1) := by decide +kernel
theorem dX5_init_42 : decode cX5_init 42 = .ok (.invokespecial 32, 3) := by decide +kernel
theorem dX5_init_45 : decode cX5_init 45 = .ok (.putfield 33, 3) := by decide +kernel
theorem dX5_init_48 : decode cX5_init 48 = .ok (.aload_n 0, 1) := by decide +kernel
theorem dX5_init_49 : decode cX5_init 49 = .ok (.new 37, 3) := by decide +kernel
theorem dX5_init_52 : decode cX5_init 52 = .ok (.dup, 1) := by decide +kernel
theorem dX5_init_53 : decode cX5_init 53 = .ok (.invokespecial 39, 3) := by decide +kernel
theorem dX5_init_56 : decode cX5_init 56 = .ok (.putfield 40, 3) := by decide +kernel
theorem dX5_init_59 : decode cX5_init 59 = .ok (.return_, 1) := by decide +kernel
set_option maxRecDepth 20000 in
theorem ggX5_net_X5_isOutside : GoodIn wsX5_net wsX5_isOutside := goodIn_r _ [6] (by decide +kernel) (by decide +kernel)
set_option maxRecDepth 20000 in
theorem gX5_net_X5_isOutside : GoodIn wsX5_net (va_wsS RX5 44 yX5_isOutside wsX5_isOutside) := goodIn_app (goodIn_of _ (by decide +kernel)) ggX5_net_X5_isOutside
set_option maxRecDepth 20000 in
theorem ggX5_net_X2_startAnew : GoodIn wsX5_net wsX2_startAnew := goodIn_r _ [11, 12, 13, 14, 15, 16, 17, 18, 19, 20, 21, 27, 28, 29, 30, 31, 32, 33, 34, 35] (by decide +kernel) (by decide +kernel)
set_option maxRecDepth 20000 in
theorem gX5_net_X2_startAnew : GoodIn wsX5_net (wsV RX5 48 RX2 yX2_startAnew wsX2_startAnew) := goodIn_app (goodIn_of _ (by decide +kernel)) ggX5_net_X2_startAnew
theorem dX5_net_0 : decode cX5_net 0 = .ok (.iload_n 1, 1) := by decide +kernel
theorem dX5_net_1 : decode cX5_net 1 = .ok (.iconst 1, 1) := by decide +kernel
theorem dX5_net_2 : decode cX5_net 2 = .ok (.iconst 5, 1) := by decide +kernel
theorem dX5_net_3 : decode cX5_net 3 = .ok (.invokestatic 44, 3) := by decide +kernel
theorem dX5_net_6 : decode cX5_net 6 = .ok (.ifCond .eq 6, 3) := by decide +kernel
theorem dX5_net_9 : decode cX5_net 9 = .ok (.bipush (-102), 2) := by decide +kernel
theorem dX5_net_11 : decode cX5_net 11 = .ok (.ireturn, 1) := by decide +kernel
theorem dX5_net_12 : decode cX5_net 12 = .ok (.aload_n 0, 1) := by decide +kernel
theorem dX5_net_13 : decode cX5_net 13 = .ok (.getfield 10, 3) := by decide +kernel
theorem dX5_net_16 : decode cX5_net 16 = .ok (.iconst 1, 1) := by decide +kernel
theorem dX5_net_17 : decode cX5_net 17 = .ok (.iload_n 1, 1) := by decide +kernel
theorem dX5_net_18 : decode cX5_net 18 = .ok (.ishl, 1) := by decide +kernel
theorem dX5_net_19 : decode cX5_net 19 = .ok (.invokevirtual 48, 3) := by decide +kernel
theorem dX5_net_22 : decode cX5_net 22 = .ok (.aload_n 0, 1) := by decide +kernel
theorem dX5_net_23 : decode cX5_net 23 = .ok (.getfield 10, 3) := by decide +kernel
theorem dX5_net_26 : decode cX5_net 26 = .ok (.getfield 52, 3) := by decide +kernel
theorem dX5_net_29 : decode cX5_net 29 = .ok (.ireturn, 1) := by decide +kernel
set_option maxRecDepth 20000 in
theorem ggX5_near_X2_has : GoodIn wsX5_near wsX2_has := goodIn_r _ [7, 8, 33, 34, 35, 36, 37, 38, 39, 40, 41] (by decide +kernel) (by decide +kernel)
set_option maxRecDepth 20000 in
theorem gX5_near_X2_has : GoodIn wsX5_near (wsV RX5 56 RX2 yX2_has wsX2_has) := goodIn_app (goodIn_of _ (by decide +kernel)) ggX5_near_X2_has
set_option maxRecDepth 20000 in
theorem ggX5_near_X5_isOutside : GoodIn wsX5_near wsX5_isOutside := goodIn_r _ [12] (by decide +kernel) (by decide +kernel)
set_option maxRecDepth 20000 in
theorem gX5_near_X5_isOutside : GoodIn wsX5_near (va_wsS RX5 44 yX5_isOutside wsX5_isOutside) := goodIn_app (goodIn_of _ (by decide +kernel)) ggX5_near_X5_isOutside
set_option maxRecDepth 20000 in
theorem ggX5_near_X2_setNear : GoodIn wsX5_near wsX2_setNear := goodIn_r _ [16, 17, 8, 18, 19, 11, 20, 21, 22, 23, 24, 25, 26, 27, 33, 34, 35, 36, 37, 38, 39, 40, 41] (by decide +kernel) (by decide +kernel)
set_option maxRecDepth 20000 in
theorem gX5_near_X2_setNear : GoodIn wsX5_near (wsV RX5 64 RX2 yX2_setNear wsX2_setNear) := goodIn_app (goodIn_of _ (by decide +kernel)) ggX5_near_X2_setNear
theorem dX5_near_0 : decode cX5_near 0 = .ok (.aload_n 0, 1) := by decide +kernel
theorem dX5_near_1 : decode cX5_near 1 = .ok (.getfield 10, 3) := by decide +kernel
theorem dX5_near_4 : decode cX5_near 4 = .ok (.iload_n 1, 1) := by decide +kernel
theorem dX5_near_5 : decode cX5_near 5 = .ok (.invokevirtual 56, 3) := by decide +kernel
theorem dX5_near_8 : decode cX5_near 8 = .ok (.ifCond .ne 7, 3) := by decide +kernel
theorem dX5_near_11 : decode cX5_near 11 = .ok (.sipush (-10101), 3) := by decide +kernel
theorem dX5_near_14 : decode cX5_near 14 = .ok (.ireturn, 1) := by decide +kernel
theorem dX5_near_15 : decode cX5_near 15 = .ok (.iload_n 2, 1) := by decide +kernel
theorem dX5_near_16 : decode cX5_near 16 = .ok (.sipush (-1000), 3) := by decide +kernel
theorem dX5_near_19 : decode cX5_near 19 = .ok (.sipush 1000, 3) := by decide +kernel
theorem dX5_near_22 : decode cX5_near 22 = .ok (.invokestatic 44, 3) := by decide +kernel
theorem dX5_near_25 : decode cX5_near 25 = .ok (.ifCond .eq 7, 3) := by decide +kernel
theorem dX5_near_28 : decode cX5_near 28 = .ok (.sipush (-10102), 3) := by decide +kernel
theorem dX5_near_31 : decode cX5_near 31 = .ok (.ireturn, 1) := by decide +kernel
theorem dX5_near_32 : decode cX5_near 32 = .ok (.aload_n 0, 1) := by decide +kernel
theorem dX5_near_33 : decode cX5_near 33 = .ok (.getfield 10, 3) := by decide +kernel
theorem dX5_near_36 : decode cX5_near 36 = .ok (.getfield 60, 3) := by decide +kernel
theorem dX5_near_39 : decode cX5_near 39 = .ok (.iload_n 1, 1) := by decide +kernel
theorem dX5_near_40 : decode cX5_near 40 = .ok (.iaload, 1) := by decide +kernel
theorem dX5_near_41 : decode cX5_near 41 = .ok (.istore_n 3, 1) := by decide +kernel
theorem dX5_near_42 : decode cX5_near 42 = .ok (.aload_n 0, 1) := by decide +kernel
theorem dX5_near_43 : decode cX5_near 43 = .ok (.getfield 10, 3) := by decide +kernel
theorem dX5_near_46 : decode cX5_near 46 = .ok (.iload_n 1, 1) := by decide +kernel
theorem dX5_near_47 : decode cX5_near 47 = .ok (.iload_n 2, 1) := by decide +kernel
theorem dX5_near_48 : decode cX5_near 48 = .ok (.invokevirtual 64, 3) := by decide +kernel
theorem dX5_near_51 : decode cX5_near 51 = .ok (.iload_n 3, 1) := by decide +kernel
theorem dX5_near_52 : decode cX5_near 52 = .ok (.ireturn, 1) := by decide +kernel
set_option maxRecDepth 20000 in
theorem ggX5_far_X2_has : GoodIn wsX5_far wsX2_has := goodIn_r _ [8, 9, 15, 16, 17, 18, 19, 20, 21, 22, 23] (by decide +kernel) (by decide +kernel)
set_option maxRecDepth 20000 in
theorem gX5_far_X2_has : GoodIn wsX5_far (wsV RX5 56 RX2 yX2_has wsX2_has) := goodIn_app (goodIn_of _ (by decide +kernel)) ggX5_far_X2_has
theorem dX5_far_0 : decode cX5_far 0 = .ok (.aload_n 0, 1) := by decide +kernel
theorem dX5_far_1 : decode cX5_far 1 = .ok (.getfield 10, 3) := by decide +kernel
theorem dX5_far_4 : decode cX5_far 4 = .ok (.iload_n 1, 1) := by decide +kernel
theorem dX5_far_5 : decode cX5_far 5 = .ok (.invokevirtual 56, 3) := by decide +kernel
theorem dX5_far_8 : decode cX5_far 8 = .ok (.ifCond .eq 15, 3) := by decide +kernel
theorem dX5_far_11 : decode cX5_far 11 = .ok (.aload_n 0, 1) := by decide +kernel
theorem dX5_far_12 : decode cX5_far 12 = .ok (.getfield 10, 3) := by decide +kernel
theorem dX5_far_15 : decode cX5_far 15 = .ok (.getfield 68, 3) := by decide +kernel
theorem dX5_far_18 : decode cX5_far 18 = .ok (.iload_n 1, 1) := by decide +kernel
theorem dX5_far_19 : decode cX5_far 19 = .ok (.iaload, 1) := by decide +kernel
theorem dX5_far_20 : decode cX5_far 20 = .ok (.goto 5, 3) := by decide +kernel
theorem dX5_far_23 : decode cX5_far 23 = .ok (.ldc 71, 2) := by decide +kernel
theorem dX5_far_25 : decode cX5_far 25 = .ok (.ireturn, 1) := by decide +kernel
set_option maxRecDepth 20000 in
theorem ggX5_back_X2_takeBack : GoodIn wsX5_back wsX2_takeBack := goodIn_r _ [6, 7, 8, 9, 10, 5, 11, 12, 13, 14, 15, 16, 17, 18, 19, 20, 21, 22, 23, 24, 25, 26, 27, 28, 29, 30, 31, 32, 33, 34, 35, 36, 42, 43, 44, 45, 46, 47, 48, 49, 50] (by decide +kernel) (by decide +kernel)
set_option maxRecDepth 20000 in
theorem gX5_back_X2_takeBack : GoodIn wsX5_back (wsV RX5 72 RX2 yX2_takeBack wsX2_takeBack) := goodIn_app (goodIn_of _ (by decide +kernel)) ggX5_back_X2_takeBack
theorem dX5_back_0 : decode cX5_back 0 = .ok (.aload_n 0, 1) := by decide +kernel
theorem dX5_back_1 : decode cX5_back 1 = .ok (.getfield 10, 3) := by decide +kernel
theorem dX5_back_4 : decode cX5_back 4 = .ok (.invokevirtual 72, 3) := by decide +kernel
theorem dX5_back_7 : decode cX5_back 7 = .ok (.ifCond .eq 7, 3) := by decide +kernel
theorem dX5_back_10 : decode cX5_back 10 = .ok (.iconst 1, 1) := by decide +kernel
theorem dX5_back_11 : decode cX5_back 11 = .ok (.goto 4, 3) := by decide +kernel
theorem dX5_back_14 : decode cX5_back 14 = .ok (.iconst 0, 1) := by decide +kernel
theorem dX5_back_15 : decode cX5_back 15 = .ok (.ireturn, 1) := by decide +kernel
set_option maxRecDepth 20000 in
theorem ggX5_tell_X2_has : GoodIn wsX5_tell wsX2_has := goodIn_r _ [11, 12, 22, 23, 24, 25, 26, 27, 28, 29, 30] (by decide +kernel) (by decide +kernel)
set_option maxRecDepth 20000 in
theorem gX5_tell_X2_has : GoodIn wsX5_tell (wsV RX5 56 RX2 yX2_has wsX2_has) := goodIn_app (goodIn_of _ (by decide +kernel)) ggX5_tell_X2_has
set_option maxRecDepth 20000 in
theorem ggX5_tell_X5_isOutside : GoodIn wsX5_tell wsX5_isOutside := goodIn_r _ [16] (by decide +kernel) (by decide +kernel)
set_option maxRecDepth 20000 in
theorem gX5_tell_X5_isOutside : GoodIn wsX5_tell (va_wsS RX5 44 yX5_isOutside wsX5_isOutside) := goodIn_app (goodIn_of _ (by decide +kernel)) ggX5_tell_X5_isOutside
theorem dX5_tell_0 : decode cX5_tell 0 = .ok (.aload_n 0, 1) := by decide +kernel
theorem dX5_tell_1 : decode cX5_tell 1 = .ok (.getfield 10, 3) := by decide +kernel
theorem dX5_tell_4 : decode cX5_tell 4 = .ok (.iload_n 1, 1) := by decide +kernel
theorem dX5_tell_5 : decode cX5_tell 5 = .ok (.invokevirtual 56, 3) := by decide +kernel
theorem dX5_tell_8 : decode cX5_tell 8 = .ok (.ifCond .ne 6, 3) := by decide +kernel
theorem dX5_tell_11 : decode cX5_tell 11 = .ok (.ldc 76, 2) := by decide +kernel
theorem dX5_tell_13 : decode cX5_tell 13 = .ok (.ireturn, 1) := by decide +kernel
theorem dX5_tell_14 : decode cX5_tell 14 = .ok (.iload_n 2, 1) := by decide +kernel
theorem dX5_tell_15 : decode cX5_tell 15 = .ok (.ldc 77, 2) := by decide +kernel
theorem dX5_tell_17 : decode cX5_tell 17 = .ok (.ldc 78, 2) := by decide +kernel
theorem dX5_tell_19 : decode cX5_tell 19 = .ok (.invokestatic 44, 3) := by decide +kernel
theorem dX5_tell_22 : decode cX5_tell 22 = .ok (.ifCond .eq 6, 3) := by decide +kernel
theorem dX5_tell_25 : decode cX5_tell 25 = .ok (.ldc 79, 2) := by decide +kernel
theorem dX5_tell_27 : decode cX5_tell 27 = .ok (.ireturn, 1) := by decide +kernel
theorem dX5_tell_28 : decode cX5_tell 28 = .ok (.aload_n 0, 1) := by decide +kernel
theorem dX5_tell_29 : decode cX5_tell 29 = .ok (.getfield 10, 3) := by decide +kernel
theorem dX5_tell_32 : decode cX5_tell 32 = .ok (.getfield 80, 3) := by decide +kernel
theorem dX5_tell_35 : decode cX5_tell 35 = .ok (.iload_n 1, 1) := by decide +kernel
theorem dX5_tell_36 : decode cX5_tell 36 = .ok (.iaload, 1) := by decide +kernel
theorem dX5_tell_37 : decode cX5_tell 37 = .ok (.istore_n 3, 1) := by decide +kernel
theorem dX5_tell_38 : decode cX5_tell 38 = .ok (.aload_n 0, 1) := by decide +kernel
theorem dX5_tell_39 : decode cX5_tell 39 = .ok (.getfield 10, 3) := by decide +kernel
theorem dX5_tell_42 : decode cX5_tell 42 = .ok (.getfield 80, 3) := by decide +kernel
theorem dX5_tell_45 : decode cX5_tell 45 = .ok (.iload_n 1, 1) := by decide +kernel
theorem dX5_tell_46 : decode cX5_tell 46 = .ok (.iload_n 2, 1) := by decide +kernel
theorem dX5_tell_47 : decode cX5_tell 47 = .ok (.iastore, 1) := by decide +kernel
theorem dX5_tell_48 : decode cX5_tell 48 = .ok (.iload_n 3, 1) := by decide +kernel
theorem dX5_tell_49 : decode cX5_tell 49 = .ok (.ireturn, 1) := by decide +kernel
set_option maxRecDepth 20000 in
theorem ggX5_probe_X2_has : GoodIn wsX5_probe wsX2_has := goodIn_r _ [7, 8, 18, 19, 20, 21, 22, 23, 24, 25, 26] (by decide +kernel) (by decide +kernel)
set_option maxRecDepth 20000 in
theorem gX5_probe_X2_has : GoodIn wsX5_probe (wsV RX5 56 RX2 yX2_has wsX2_has) := goodIn_app (goodIn_of _ (by decide +kernel)) ggX5_probe_X2_has
set_option maxRecDepth 20000 in
theorem ggX5_probe_X5_isOutside : GoodIn wsX5_probe wsX5_isOutside := goodIn_r _ [12] (by decide +kernel) (by decide +kernel)
set_option maxRecDepth 20000 in
theorem gX5_probe_X5_isOutside : GoodIn wsX5_probe (va_wsS RX5 44 yX5_isOutside wsX5_isOutside) := goodIn_app (goodIn_of _ (by decide +kernel)) ggX5_probe_X5_isOutside
theorem dX5_probe_0 : decode cX5_probe 0 = .ok (.aload_n 0, 1) := by decide +kernel
theorem dX5_probe_1 : decode cX5_probe 1 = .ok (.getfield 10, 3) := by decide +kernel
theorem dX5_probe_4 : decode cX5_probe 4 = .ok (.iload_n 1, 1) := by decide +kernel
theorem dX5_probe_5 : decode cX5_probe 5 = .ok (.invokevirtual 56, 3) := by decide +kernel
theorem dX5_probe_8 : decode cX5_probe 8 = .ok (.ifCond .ne 6, 3) := by decide +kernel
theorem dX5_probe_11 : decode cX5_probe 11 = .ok (.bipush (-101), 2) := by decide +kernel
theorem dX5_probe_13 : decode cX5_probe 13 = .ok (.ireturn, 1) := by decide +kernel
theorem dX5_probe_14 : decode cX5_probe 14 = .ok (.iload_n 2, 1) := by decide +kernel
theorem dX5_probe_15 : decode cX5_probe 15 = .ok (.ifCond .eq 14, 3) := by decide +kernel
theorem dX5_probe_18 : decode cX5_probe 18 = .ok (.iload_n 2, 1) := by decide +kernel
theorem dX5_probe_19 : decode cX5_probe 19 = .ok (.bipush (-9), 2) := by decide +kernel
theorem dX5_probe_21 : decode cX5_probe 21 = .ok (.bipush 9, 2) := by decide +kernel
theorem dX5_probe_23 : decode cX5_probe 23 = .ok (.invokestatic 44, 3) := by decide +kernel
theorem dX5_probe_26 : decode cX5_probe 26 = .ok (.ifCond .eq 6, 3) := by decide +kernel
theorem dX5_probe_29 : decode cX5_probe 29 = .ok (.bipush (-102), 2) := by decide +kernel
theorem dX5_probe_31 : decode cX5_probe 31 = .ok (.ireturn, 1) := by decide +kernel
theorem dX5_probe_32 : decode cX5_probe 32 = .ok (.aload_n 0, 1) := by decide +kernel
theorem dX5_probe_33 : decode cX5_probe 33 = .ok (.getfield 10, 3) := by decide +kernel
theorem dX5_probe_36 : decode cX5_probe 36 = .ok (.getfield 83, 3) := by decide +kernel
theorem dX5_probe_39 : decode cX5_probe 39 = .ok (.iload_n 1, 1) := by decide +kernel
theorem dX5_probe_40 : decode cX5_probe 40 = .ok (.iaload, 1) := by decide +kernel
theorem dX5_probe_41 : decode cX5_probe 41 = .ok (.istore_n 3, 1) := by decide +kernel
theorem dX5_probe_42 : decode cX5_probe 42 = .ok (.aload_n 0, 1) := by decide +kernel
theorem dX5_probe_43 : decode cX5_probe 43 = .ok (.getfield 10, 3) := by decide +kernel
theorem dX5_probe_46 : decode cX5_probe 46 = .ok (.getfield 83, 3) := by decide +kernel
theorem dX5_probe_49 : decode cX5_probe 49 = .ok (.iload_n 1, 1) := by decide +kernel
theorem dX5_probe_50 : decode cX5_probe 50 = .ok (.iload_n 2, 1) := by decide +kernel
theorem dX5_probe_51 : decode cX5_probe 51 = .ok (.iastore, 1) := by decide +kernel
theorem dX5_probe_52 : decode cX5_probe 52 = .ok (.iload_n 3, 1) := by decide +kernel
theorem dX5_probe_53 : decode cX5_probe 53 = .ok (.ireturn, 1) := by decide +kernel
set_option maxRecDepth 20000 in
theorem ggX5_seen_X2_has : GoodIn wsX5_seen wsX2_has := goodIn_r _ [9, 10, 16, 17, 18, 19, 20, 21, 22, 23, 24] (by decide +kernel) (by decide +kernel)
set_option maxRecDepth 20000 in
theorem gX5_seen_X2_has : GoodIn wsX5_seen (wsV RX5 56 RX2 yX2_has wsX2_has) := goodIn_app (goodIn_of _ (by decide +kernel)) ggX5_seen_X2_has
theorem dX5_seen_0 : decode cX5_seen 0 = .ok (.aload_n 0, 1) := by decide +kernel
theorem dX5_seen_1 : decode cX5_seen 1 = .ok (.getfield 10, 3) := by decide +kernel
theorem dX5_seen_4 : decode cX5_seen 4 = .ok (.iload_n 1, 1) := by decide +kernel
theorem dX5_seen_5 : decode cX5_seen 5 = .ok (.invokevirtual 56, 3) := by decide +kernel
theorem dX5_seen_8 : decode cX5_seen 8 = .ok (.ifCond .eq 25, 3) := by decide +kernel
theorem dX5_seen_11 : decode cX5_seen 11 = .ok (.aload_n 0, 1) := by decide +kernel
theorem dX5_seen_12 : decode cX5_seen 12 = .ok (.getfield 10, 3) := by decide +kernel
theorem dX5_seen_15 : decode cX5_seen 15 = .ok (.getfield 68, 3) := by decide +kernel
theorem dX5_seen_18 : decode cX5_seen 18 = .ok (.iload_n 1, 1) := by decide +kernel
theorem dX5_seen_19 : decode cX5_seen 19 = .ok (.iaload, 1) := by decide +kernel
theorem dX5_seen_20 : decode cX5_seen 20 = .ok (.aload_n 0, 1) := by decide +kernel
theorem dX5_seen_21 : decode cX5_seen 21 = .ok (.getfield 10, 3) := by decide +kernel
theorem dX5_seen_24 : decode cX5_seen 24 = .ok (.getfield 83, 3) := by decide +kernel
theorem dX5_seen_27 : decode cX5_seen 27 = .ok (.iload_n 1, 1) := by decide +kernel
theorem dX5_seen_28 : decode cX5_seen 28 = .ok (.iaload, 1) := by decide +kernel
theorem dX5_seen_29 : decode cX5_seen 29 = .ok (.imul, 1) := by decide +kernel
theorem dX5_seen_30 : decode cX5_seen 30 = .ok (.goto 5, 3) := by decide +kernel
theorem dX5_seen_33 : decode cX5_seen 33 = .ok (.ldc 76, 2) := by decide +kernel
theorem dX5_seen_35 : decode cX5_seen 35 = .ok (.ireturn, 1) := by decide +kernel
set_option maxRecDepth 20000 in
theorem ggX5_unprobe_X2_takeProbeOff : GoodIn wsX5_unprobe wsX2_takeProbeOff := goodIn_r _ [6, 7, 8, 9, 10, 11, 12, 5, 13, 19, 20, 21, 22, 23, 24, 25, 26, 27] (by decide +kernel) (by decide +kernel)
set_option maxRecDepth 20000 in
theorem gX5_unprobe_X2_takeProbeOff : GoodIn wsX5_unprobe (wsV RX5 86 RX2 yX2_takeProbeOff wsX2_takeProbeOff) := goodIn_app (goodIn_of _ (by decide +kernel)) ggX5_unprobe_X2_takeProbeOff
theorem dX5_unprobe_0 : decode cX5_unprobe 0 = .ok (.aload_n 0, 1) := by decide +kernel
theorem dX5_unprobe_1 : decode cX5_unprobe 1 = .ok (.getfield 10, 3) := by decide +kernel
theorem dX5_unprobe_4 : decode cX5_unprobe 4 = .ok (.invokevirtual 86, 3) := by decide +kernel
theorem dX5_unprobe_7 : decode cX5_unprobe 7 = .ok (.ifCond .eq 7, 3) := by decide +kernel
theorem dX5_unprobe_10 : decode cX5_unprobe 10 = .ok (.iconst 1, 1) := by decide +kernel
theorem dX5_unprobe_11 : decode cX5_unprobe 11 = .ok (.goto 4, 3) := by decide +kernel
theorem dX5_unprobe_14 : decode cX5_unprobe 14 = .ok (.iconst 0, 1) := by decide +kernel
theorem dX5_unprobe_15 : decode cX5_unprobe 15 = .ok (.ireturn, 1) := by decide +kernel
set_option maxRecDepth 20000 in
theorem ggX5_gated_X2_has : GoodIn wsX5_gated wsX2_has := goodIn_r _ [8, 9, 38, 39, 40, 41, 42, 43, 44, 45, 46] (by decide +kernel) (by decide +kernel)
set_option maxRecDepth 20000 in
theorem gX5_gated_X2_has : GoodIn wsX5_gated (wsV RX5 56 RX2 yX2_has wsX2_has) := goodIn_app (goodIn_of _ (by decide +kernel)) ggX5_gated_X2_has
set_option maxRecDepth 20000 in
theorem ggX5_gated_X5_isGate : GoodIn wsX5_gated wsX5_isGate := goodIn_r _ [13, 14, 15, 12, 16] (by decide +kernel) (by decide +kernel)
set_option maxRecDepth 20000 in
theorem gX5_gated_X5_isGate : GoodIn wsX5_gated (va_wsS RX5 89 yX5_isGate wsX5_isGate) := goodIn_app (goodIn_of _ (by decide +kernel)) ggX5_gated_X5_isGate
set_option maxRecDepth 20000 in
theorem ggX5_gated_X2_sumThrough : GoodIn wsX5_gated wsX2_sumThrough := goodIn_r _ [20, 9, 21, 22, 12, 23, 24, 25, 26, 27, 28, 29, 30, 31, 32, 38, 39, 40, 41, 42, 43, 44, 45, 46] (by decide +kernel) (by decide +kernel)
set_option maxRecDepth 20000 in
theorem gX5_gated_X2_sumThrough : GoodIn wsX5_gated (wsV RX5 93 RX2 yX2_sumThrough wsX2_sumThrough) := goodIn_app (goodIn_of _ (by decide +kernel)) ggX5_gated_X2_sumThrough
theorem dX5_gated_0 : decode cX5_gated 0 = .ok (.aload_n 0, 1) := by decide +kernel
theorem dX5_gated_1 : decode cX5_gated 1 = .ok (.getfield 10, 3) := by decide +kernel
theorem dX5_gated_4 : decode cX5_gated 4 = .ok (.iload_n 1, 1) := by decide +kernel
theorem dX5_gated_5 : decode cX5_gated 5 = .ok (.invokevirtual 56, 3) := by decide +kernel
theorem dX5_gated_8 : decode cX5_gated 8 = .ok (.ifCond .ne 6, 3) := by decide +kernel
theorem dX5_gated_11 : decode cX5_gated 11 = .ok (.ldc 76, 2) := by decide +kernel
theorem dX5_gated_13 : decode cX5_gated 13 = .ok (.ireturn, 1) := by decide +kernel
theorem dX5_gated_14 : decode cX5_gated 14 = .ok (.iload_n 2, 1) := by decide +kernel
theorem dX5_gated_15 : decode cX5_gated 15 = .ok (.iload_n 3, 1) := by decide +kernel
theorem dX5_gated_16 : decode cX5_gated 16 = .ok (.invokestatic 89, 3) := by decide +kernel
theorem dX5_gated_19 : decode cX5_gated 19 = .ok (.ifCond .ne 6, 3) := by decide +kernel
theorem dX5_gated_22 : decode cX5_gated 22 = .ok (.ldc 79, 2) := by decide +kernel
theorem dX5_gated_24 : decode cX5_gated 24 = .ok (.ireturn, 1) := by decide +kernel
theorem dX5_gated_25 : decode cX5_gated 25 = .ok (.aload_n 0, 1) := by decide +kernel
theorem dX5_gated_26 : decode cX5_gated 26 = .ok (.getfield 10, 3) := by decide +kernel
theorem dX5_gated_29 : decode cX5_gated 29 = .ok (.iload_n 1, 1) := by decide +kernel
theorem dX5_gated_30 : decode cX5_gated 30 = .ok (.iload_n 2, 1) := by decide +kernel
theorem dX5_gated_31 : decode cX5_gated 31 = .ok (.iload_n 3, 1) := by decide +kernel
theorem dX5_gated_32 : decode cX5_gated 32 = .ok (.invokevirtual 93, 3) := by decide +kernel
theorem dX5_gated_35 : decode cX5_gated 35 = .ok (.ireturn, 1) := by decide +kernel
set_option maxRecDepth 20000 in
theorem ggX5_power_X5_isGate : GoodIn wsX5_power wsX5_isGate := goodIn_r _ [6, 7, 8, 5, 9] (by decide +kernel) (by decide +kernel)
set_option maxRecDepth 20000 in
theorem gX5_power_X5_isGate : GoodIn wsX5_power (va_wsS RX5 89 yX5_isGate wsX5_isGate) := goodIn_app (goodIn_of _ (by decide +kernel)) ggX5_power_X5_isGate
set_option maxRecDepth 20000 in
theorem ggX5_power_X2_squaresThrough : GoodIn wsX5_power wsX2_squaresThrough := goodIn_r _ [14, 15, 16, 17, 5, 18, 24, 25, 26, 27, 28, 29, 30, 31, 32] (by decide +kernel) (by decide +kernel)
set_option maxRecDepth 20000 in
theorem gX5_power_X2_squaresThrough : GoodIn wsX5_power (wsV RX5 97 RX2 yX2_squaresThrough wsX2_squaresThrough) := goodIn_app (goodIn_of _ (by decide +kernel)) ggX5_power_X2_squaresThrough
theorem dX5_power_0 : decode cX5_power 0 = .ok (.iload_n 1, 1) := by decide +kernel
theorem dX5_power_1 : decode cX5_power 1 = .ok (.iload_n 2, 1) := by decide +kernel
theorem dX5_power_2 : decode cX5_power 2 = .ok (.invokestatic 89, 3) := by decide +kernel
theorem dX5_power_5 : decode cX5_power 5 = .ok (.ifCond .eq 15, 3) := by decide +kernel
theorem dX5_power_8 : decode cX5_power 8 = .ok (.aload_n 0, 1) := by decide +kernel
theorem dX5_power_9 : decode cX5_power 9 = .ok (.getfield 10, 3) := by decide +kernel
theorem dX5_power_12 : decode cX5_power 12 = .ok (.iload_n 1, 1) := by decide +kernel
theorem dX5_power_13 : decode cX5_power 13 = .ok (.iload_n 2, 1) := by decide +kernel
theorem dX5_power_14 : decode cX5_power 14 = .ok (.invokevirtual 97, 3) := by decide +kernel
theorem dX5_power_17 : decode cX5_power 17 = .ok (.goto 6, 3) := by decide +kernel
theorem dX5_power_20 : decode cX5_power 20 = .ok (.ldc2_w 101, 3) := by decide +kernel
theorem dX5_power_23 : decode cX5_power 23 = .ok (.lreturn, 1) := by decide +kernel
set_option maxRecDepth 20000 in
theorem ggX5_lose_X2_has : GoodIn wsX5_lose wsX2_has := goodIn_r _ [7, 8, 22, 23, 24, 25, 26, 27, 28, 29, 30] (by decide +kernel) (by decide +kernel)
set_option maxRecDepth 20000 in
theorem gX5_lose_X2_has : GoodIn wsX5_lose (wsV RX5 56 RX2 yX2_has wsX2_has) := goodIn_app (goodIn_of _ (by decide +kernel)) ggX5_lose_X2_has
set_option maxRecDepth 20000 in
theorem ggX5_lose_X2_countLost : GoodIn wsX5_lose wsX2_countLost := goodIn_r _ [12, 13, 14, 15, 6, 16, 22, 23, 24, 25, 26, 27, 28, 29, 30] (by decide +kernel) (by decide +kernel)
set_option maxRecDepth 20000 in
theorem gX5_lose_X2_countLost : GoodIn wsX5_lose (wsV RX5 107 RX2 yX2_countLost wsX2_countLost) := goodIn_app (goodIn_of _ (by decide +kernel)) ggX5_lose_X2_countLost
theorem dX5_lose_0 : decode cX5_lose 0 = .ok (.aload_n 0, 1) := by decide +kernel
theorem dX5_lose_1 : decode cX5_lose 1 = .ok (.getfield 10, 3) := by decide +kernel
theorem dX5_lose_4 : decode cX5_lose 4 = .ok (.iload_n 1, 1) := by decide +kernel
theorem dX5_lose_5 : decode cX5_lose 5 = .ok (.invokevirtual 56, 3) := by decide +kernel
theorem dX5_lose_8 : decode cX5_lose 8 = .ok (.ifCond .ne 6, 3) := by decide +kernel
theorem dX5_lose_11 : decode cX5_lose 11 = .ok (.bipush (-101), 2) := by decide +kernel
theorem dX5_lose_13 : decode cX5_lose 13 = .ok (.ireturn, 1) := by decide +kernel
theorem dX5_lose_14 : decode cX5_lose 14 = .ok (.aload_n 0, 1) := by decide +kernel
theorem dX5_lose_15 : decode cX5_lose 15 = .ok (.getfield 10, 3) := by decide +kernel
theorem dX5_lose_18 : decode cX5_lose 18 = .ok (.getfield 103, 3) := by decide +kernel
theorem dX5_lose_21 : decode cX5_lose 21 = .ok (.iload_n 1, 1) := by decide +kernel
theorem dX5_lose_22 : decode cX5_lose 22 = .ok (.baload, 1) := by decide +kernel
theorem dX5_lose_23 : decode cX5_lose 23 = .ok (.istore_n 3, 1) := by decide +kernel
theorem dX5_lose_24 : decode cX5_lose 24 = .ok (.iload_n 2, 1) := by decide +kernel
theorem dX5_lose_25 : decode cX5_lose 25 = .ok (.ifCond .eq 21, 3) := by decide +kernel
theorem dX5_lose_28 : decode cX5_lose 28 = .ok (.iload_n 3, 1) := by decide +kernel
theorem dX5_lose_29 : decode cX5_lose 29 = .ok (.ifCond .ne 17, 3) := by decide +kernel
theorem dX5_lose_32 : decode cX5_lose 32 = .ok (.aload_n 0, 1) := by decide +kernel
theorem dX5_lose_33 : decode cX5_lose 33 = .ok (.getfield 10, 3) := by decide +kernel
theorem dX5_lose_36 : decode cX5_lose 36 = .ok (.invokevirtual 107, 3) := by decide +kernel
theorem dX5_lose_39 : decode cX5_lose 39 = .ok (.iconst 5, 1) := by decide +kernel
theorem dX5_lose_40 : decode cX5_lose 40 = .ok (.if_icmp .lt 6, 3) := by decide +kernel
theorem dX5_lose_43 : decode cX5_lose 43 = .ok (.bipush (-104), 2) := by decide +kernel
theorem dX5_lose_45 : decode cX5_lose 45 = .ok (.ireturn, 1) := by decide +kernel
theorem dX5_lose_46 : decode cX5_lose 46 = .ok (.aload_n 0, 1) := by decide +kernel
theorem dX5_lose_47 : decode cX5_lose 47 = .ok (.getfield 10, 3) := by decide +kernel
theorem dX5_lose_50 : decode cX5_lose 50 = .ok (.getfield 103, 3) := by decide +kernel
theorem dX5_lose_53 : decode cX5_lose 53 = .ok (.iload_n 1, 1) := by decide +kernel
theorem dX5_lose_54 : decode cX5_lose 54 = .ok (.iload_n 2, 1) := by decide +kernel
theorem dX5_lose_55 : decode cX5_lose 55 = .ok (.bastore, 1) := by decide +kernel
theorem dX5_lose_56 : decode cX5_lose 56 = .ok (.iload_n 3, 1) := by decide +kernel
theorem dX5_lose_57 : decode cX5_lose 57 = .ok (.ifCond .eq 7, 3) := by decide +kernel
theorem dX5_lose_60 : decode cX5_lose 60 = .ok (.iconst 1, 1) := by decide +kernel
theorem dX5_lose_61 : decode cX5_lose 61 = .ok (.goto 4, 3) := by decide +kernel
theorem dX5_lose_64 : decode cX5_lose 64 = .ok (.iconst 0, 1) := by decide +kernel
theorem dX5_lose_65 : decode cX5_lose 65 = .ok (.ireturn, 1) := by decide +kernel
set_option maxRecDepth 20000 in
theorem ggX5_mends_X5_isGate : GoodIn wsX5_mends wsX5_isGate := goodIn_r _ [6, 7, 8, 5, 9] (by decide +kernel) (by decide +kernel)
set_option maxRecDepth 20000 in
theorem gX5_mends_X5_isGate : GoodIn wsX5_mends (va_wsS RX5 89 yX5_isGate wsX5_isGate) := goodIn_app (goodIn_of _ (by decide +kernel)) ggX5_mends_X5_isGate
set_option maxRecDepth 20000 in
theorem ggX5_mends_X1_solve : GoodIn wsX5_mends wsX1_solve := goodIn_r _ [14, 15, 16, 17, 18, 19, 20, 13, 21, 22, 23, 24, 25, 26, 27, 28, 29, 5, 30, 31, 32, 33, 34, 35, 36, 37, 38, 39, 40, 41, 42, 43, 44, 45, 46, 47, 48, 49, 50, 51, 52, 53, 54, 55, 56, 57, 58, 59, 60, 61, 67, 68, 69, 70, 71, 72, 73, 74, 75, 76, 77, 78, 79] (by decide +kernel) (by decide +kernel)
set_option maxRecDepth 20000 in
theorem gX5_mends_X1_solve : GoodIn wsX5_mends (wsV RX5 111 RX1 yX1_solve wsX1_solve) := goodIn_app (goodIn_of _ (by decide +kernel)) ggX5_mends_X1_solve
theorem dX5_mends_0 : decode cX5_mends 0 = .ok (.iload_n 1, 1) := by decide +kernel
theorem dX5_mends_1 : decode cX5_mends 1 = .ok (.iload_n 2, 1) := by decide +kernel
theorem dX5_mends_2 : decode cX5_mends 2 = .ok (.invokestatic 89, 3) := by decide +kernel
theorem dX5_mends_5 : decode cX5_mends 5 = .ok (.ifCond .eq 19, 3) := by decide +kernel
theorem dX5_mends_8 : decode cX5_mends 8 = .ok (.aload_n 0, 1) := by decide +kernel
theorem dX5_mends_9 : decode cX5_mends 9 = .ok (.getfield 19, 3) := by decide +kernel
theorem dX5_mends_12 : decode cX5_mends 12 = .ok (.aload_n 0, 1) := by decide +kernel
theorem dX5_mends_13 : decode cX5_mends 13 = .ok (.getfield 10, 3) := by decide +kernel
theorem dX5_mends_16 : decode cX5_mends 16 = .ok (.iload_n 1, 1) := by decide +kernel
theorem dX5_mends_17 : decode cX5_mends 17 = .ok (.iload_n 2, 1) := by decide +kernel
theorem dX5_mends_18 : decode cX5_mends 18 = .ok (.invokevirtual 111, 3) := by decide +kernel
theorem dX5_mends_21 : decode cX5_mends 21 = .ok (.goto 5, 3) := by decide +kernel
theorem dX5_mends_24 : decode cX5_mends 24 = .ok (.bipush (-102), 2) := by decide +kernel
theorem dX5_mends_26 : decode cX5_mends 26 = .ok (.ireturn, 1) := by decide +kernel
set_option maxRecDepth 20000 in
theorem ggX5_mend_X2_has : GoodIn wsX5_mend wsX2_has := goodIn_r _ [11, 12, 97, 98, 99, 100, 101, 102, 103, 104, 105] (by decide +kernel) (by decide +kernel)
set_option maxRecDepth 20000 in
theorem gX5_mend_X2_has : GoodIn wsX5_mend (wsV RX5 56 RX2 yX2_has wsX2_has) := goodIn_app (goodIn_of _ (by decide +kernel)) ggX5_mend_X2_has
set_option maxRecDepth 20000 in
theorem ggX5_mend_X5_isGate : GoodIn wsX5_mend wsX5_isGate := goodIn_r _ [16, 17, 18, 15, 19] (by decide +kernel) (by decide +kernel)
set_option maxRecDepth 20000 in
theorem gX5_mend_X5_isGate : GoodIn wsX5_mend (va_wsS RX5 89 yX5_isGate wsX5_isGate) := goodIn_app (goodIn_of _ (by decide +kernel)) ggX5_mend_X5_isGate
set_option maxRecDepth 20000 in
theorem ggX5_mend_X5_isOutside : GoodIn wsX5_mend wsX5_isOutside := goodIn_r _ [19] (by decide +kernel) (by decide +kernel)
set_option maxRecDepth 20000 in
theorem gX5_mend_X5_isOutside : GoodIn wsX5_mend (va_wsS RX5 44 yX5_isOutside wsX5_isOutside) := goodIn_app (goodIn_of _ (by decide +kernel)) ggX5_mend_X5_isOutside
set_option maxRecDepth 20000 in
theorem ggX5_mend_X1_solve : GoodIn wsX5_mend wsX1_solve := goodIn_r _ [24, 25, 26, 27, 28, 29, 30, 23, 31, 32, 33, 34, 35, 36, 37, 38, 39, 15, 40, 41, 42, 43, 44, 45, 46, 47, 48, 49, 50, 51, 52, 53, 54, 55, 56, 57, 58, 59, 60, 61, 62, 63, 64, 65, 66, 67, 68, 69, 70, 71, 106, 107, 108, 109, 97, 98, 99, 100, 101, 102, 103, 104, 105] (by decide +kernel) (by decide +kernel)
set_option maxRecDepth 20000 in
theorem gX5_mend_X1_solve : GoodIn wsX5_mend (wsV RX5 111 RX1 yX1_solve wsX1_solve) := goodIn_app (goodIn_of _ (by decide +kernel)) ggX5_mend_X1_solve
set_option maxRecDepth 20000 in
theorem ggX5_mend_X1_partOf : GoodIn wsX5_mend wsX1_partOf := goodIn_r _ [75, 27, 34, 76, 77, 78, 79, 23, 80, 26, 81, 82, 83, 84, 85, 86, 87, 88, 89, 90, 91, 106, 107, 108, 109] (by decide +kernel) (by decide +kernel)
set_option maxRecDepth 20000 in
theorem gX5_mend_X1_partOf : GoodIn wsX5_mend (wsV RX5 121 RX1 yX1_partOf wsX1_partOf) := goodIn_app (goodIn_of _ (by decide +kernel)) ggX5_mend_X1_partOf
theorem dX5_mend_0 : decode cX5_mend 0 = .ok (.aload_n 0, 1) := by decide +kernel
theorem dX5_mend_1 : decode cX5_mend 1 = .ok (.getfield 10, 3) := by decide +kernel
theorem dX5_mend_4 : decode cX5_mend 4 = .ok (.iload_n 1, 1) := by decide +kernel
theorem dX5_mend_5 : decode cX5_mend 5 = .ok (.invokevirtual 56, 3) := by decide +kernel
theorem dX5_mend_8 : decode cX5_mend 8 = .ok (.ifCond .eq 15, 3) := by decide +kernel
theorem dX5_mend_11 : decode cX5_mend 11 = .ok (.aload_n 0, 1) := by decide +kernel
theorem dX5_mend_12 : decode cX5_mend 12 = .ok (.getfield 10, 3) := by decide +kernel
theorem dX5_mend_15 : decode cX5_mend 15 = .ok (.getfield 103, 3) := by decide +kernel
theorem dX5_mend_18 : decode cX5_mend 18 = .ok (.iload_n 1, 1) := by decide +kernel
theorem dX5_mend_19 : decode cX5_mend 19 = .ok (.baload, 1) := by decide +kernel
theorem dX5_mend_20 : decode cX5_mend 20 = .ok (.ifCond .ne 7, 3) := by decide +kernel
theorem dX5_mend_23 : decode cX5_mend 23 = .ok (.ldc2_w 115, 3) := by decide +kernel
theorem dX5_mend_26 : decode cX5_mend 26 = .ok (.lreturn, 1) := by decide +kernel
theorem dX5_mend_27 : decode cX5_mend 27 = .ok (.iload_n 2, 1) := by decide +kernel
theorem dX5_mend_28 : decode cX5_mend 28 = .ok (.iload_n 3, 1) := by decide +kernel
theorem dX5_mend_29 : decode cX5_mend 29 = .ok (.invokestatic 89, 3) := by decide +kernel
theorem dX5_mend_32 : decode cX5_mend 32 = .ok (.ifCond .eq 13, 3) := by decide +kernel
theorem dX5_mend_35 : decode cX5_mend 35 = .ok (.iload 4, 2) := by decide +kernel
theorem dX5_mend_37 : decode cX5_mend 37 = .ok (.iconst 0, 1) := by decide +kernel
theorem dX5_mend_38 : decode cX5_mend 38 = .ok (.iconst 1, 1) := by decide +kernel
theorem dX5_mend_39 : decode cX5_mend 39 = .ok (.invokestatic 44, 3) := by decide +kernel
theorem dX5_mend_42 : decode cX5_mend 42 = .ok (.ifCond .eq 7, 3) := by decide +kernel
theorem dX5_mend_45 : decode cX5_mend 45 = .ok (.ldc2_w 117, 3) := by decide +kernel
theorem dX5_mend_48 : decode cX5_mend 48 = .ok (.lreturn, 1) := by decide +kernel
theorem dX5_mend_49 : decode cX5_mend 49 = .ok (.aload_n 0, 1) := by decide +kernel
theorem dX5_mend_50 : decode cX5_mend 50 = .ok (.getfield 19, 3) := by decide +kernel
theorem dX5_mend_53 : decode cX5_mend 53 = .ok (.aload_n 0, 1) := by decide +kernel
theorem dX5_mend_54 : decode cX5_mend 54 = .ok (.getfield 10, 3) := by decide +kernel
theorem dX5_mend_57 : decode cX5_mend 57 = .ok (.iload_n 2, 1) := by decide +kernel
theorem dX5_mend_58 : decode cX5_mend 58 = .ok (.iload_n 3, 1) := by decide +kernel
theorem dX5_mend_59 : decode cX5_mend 59 = .ok (.invokevirtual 111, 3) := by decide +kernel
theorem dX5_mend_62 : decode cX5_mend 62 = .ok (.iconst 1, 1) := by decide +kernel
theorem dX5_mend_63 : decode cX5_mend 63 = .ok (.if_icmp .eq 7, 3) := by decide +kernel
theorem dX5_mend_66 : decode cX5_mend 66 = .ok (.ldc2_w 119, 3) := by decide +kernel
theorem dX5_mend_69 : decode cX5_mend 69 = .ok (.lreturn, 1) := by decide +kernel
theorem dX5_mend_70 : decode cX5_mend 70 = .ok (.aload_n 0, 1) := by decide +kernel
theorem dX5_mend_71 : decode cX5_mend 71 = .ok (.getfield 19, 3) := by decide +kernel
theorem dX5_mend_74 : decode cX5_mend 74 = .ok (.iload_n 1, 1) := by decide +kernel
theorem dX5_mend_75 : decode cX5_mend 75 = .ok (.iload 4, 2) := by decide +kernel
theorem dX5_mend_77 : decode cX5_mend 77 = .ok (.invokevirtual 121, 3) := by decide +kernel
theorem dX5_mend_80 : decode cX5_mend 80 = .ok (.lreturn, 1) := by decide +kernel
set_option maxRecDepth 20000 in
theorem ggX5_sheet_X5_isOutside : GoodIn wsX5_sheet wsX5_isOutside := goodIn_r _ [5] (by decide +kernel) (by decide +kernel)
set_option maxRecDepth 20000 in
theorem gX5_sheet_X5_isOutside : GoodIn wsX5_sheet (va_wsS RX5 44 yX5_isOutside wsX5_isOutside) := goodIn_app (goodIn_of _ (by decide +kernel)) ggX5_sheet_X5_isOutside
set_option maxRecDepth 20000 in
theorem ggX5_sheet_X4_startAnew : GoodIn wsX5_sheet wsX4_startAnew := goodIn_r _ [10, 11, 12, 13, 19, 20, 21] (by decide +kernel) (by decide +kernel)
set_option maxRecDepth 20000 in
theorem gX5_sheet_X4_startAnew : GoodIn wsX5_sheet (wsV RX5 124 RX4 yX4_startAnew wsX4_startAnew) := goodIn_app (goodIn_of _ (by decide +kernel)) ggX5_sheet_X4_startAnew
theorem dX5_sheet_0 : decode cX5_sheet 0 = .ok (.iload_n 1, 1) := by decide +kernel
theorem dX5_sheet_1 : decode cX5_sheet 1 = .ok (.iconst 2, 1) := by decide +kernel
theorem dX5_sheet_2 : decode cX5_sheet 2 = .ok (.bipush 8, 2) := by decide +kernel
theorem dX5_sheet_4 : decode cX5_sheet 4 = .ok (.invokestatic 44, 3) := by decide +kernel
theorem dX5_sheet_7 : decode cX5_sheet 7 = .ok (.ifCond .ne 13, 3) := by decide +kernel
theorem dX5_sheet_10 : decode cX5_sheet 10 = .ok (.iload_n 2, 1) := by decide +kernel
theorem dX5_sheet_11 : decode cX5_sheet 11 = .ok (.iconst 1, 1) := by decide +kernel
theorem dX5_sheet_12 : decode cX5_sheet 12 = .ok (.bipush 8, 2) := by decide +kernel
theorem dX5_sheet_14 : decode cX5_sheet 14 = .ok (.invokestatic 44, 3) := by decide +kernel
theorem dX5_sheet_17 : decode cX5_sheet 17 = .ok (.ifCond .eq 6, 3) := by decide +kernel
theorem dX5_sheet_20 : decode cX5_sheet 20 = .ok (.bipush (-102), 2) := by decide +kernel
theorem dX5_sheet_22 : decode cX5_sheet 22 = .ok (.ireturn, 1) := by decide +kernel
theorem dX5_sheet_23 : decode cX5_sheet 23 = .ok (.aload_n 0, 1) := by decide +kernel
theorem dX5_sheet_24 : decode cX5_sheet 24 = .ok (.getfield 26, 3) := by decide +kernel
theorem dX5_sheet_27 : decode cX5_sheet 27 = .ok (.iload_n 1, 1) := by decide +kernel
theorem dX5_sheet_28 : decode cX5_sheet 28 = .ok (.iload_n 2, 1) := by decide +kernel
theorem dX5_sheet_29 : decode cX5_sheet 29 = .ok (.invokevirtual 124, 3) := by decide +kernel
theorem dX5_sheet_32 : decode cX5_sheet 32 = .ok (.iload_n 1, 1) := by decide +kernel
theorem dX5_sheet_33 : decode cX5_sheet 33 = .ok (.iload_n 2, 1) := by decide +kernel
theorem dX5_sheet_34 : decode cX5_sheet 34 = .ok (.imul, 1) := by decide +kernel
theorem dX5_sheet_35 : decode cX5_sheet 35 = .ok (.ireturn, 1) := by decide +kernel
set_option maxRecDepth 20000 in
theorem ggX5_cell_X4_holds : GoodIn wsX5_cell wsX4_holds := goodIn_r _ [7, 8, 9, 19, 20, 21] (by decide +kernel) (by decide +kernel)
set_option maxRecDepth 20000 in
theorem gX5_cell_X4_holds : GoodIn wsX5_cell (wsV RX5 126 RX4 yX4_holds wsX4_holds) := goodIn_app (goodIn_of _ (by decide +kernel)) ggX5_cell_X4_holds
set_option maxRecDepth 20000 in
theorem ggX5_cell_X5_isOutside : GoodIn wsX5_cell wsX5_isOutside := goodIn_r _ [13] (by decide +kernel) (by decide +kernel)
set_option maxRecDepth 20000 in
theorem gX5_cell_X5_isOutside : GoodIn wsX5_cell (va_wsS RX5 44 yX5_isOutside wsX5_isOutside) := goodIn_app (goodIn_of _ (by decide +kernel)) ggX5_cell_X5_isOutside
theorem dX5_cell_0 : decode cX5_cell 0 = .ok (.aload_n 0, 1) := by decide +kernel
theorem dX5_cell_1 : decode cX5_cell 1 = .ok (.getfield 26, 3) := by decide +kernel
theorem dX5_cell_4 : decode cX5_cell 4 = .ok (.iload_n 1, 1) := by decide +kernel
theorem dX5_cell_5 : decode cX5_cell 5 = .ok (.iload_n 2, 1) := by decide +kernel
theorem dX5_cell_6 : decode cX5_cell 6 = .ok (.invokevirtual 126, 3) := by decide +kernel
theorem dX5_cell_9 : decode cX5_cell 9 = .ok (.ifCond .ne 7, 3) := by decide +kernel
theorem dX5_cell_12 : decode cX5_cell 12 = .ok (.sipush (-10101), 3) := by decide +kernel
theorem dX5_cell_15 : decode cX5_cell 15 = .ok (.ireturn, 1) := by decide +kernel
theorem dX5_cell_16 : decode cX5_cell 16 = .ok (.iload_n 3, 1) := by decide +kernel
theorem dX5_cell_17 : decode cX5_cell 17 = .ok (.sipush (-1000), 3) := by decide +kernel
theorem dX5_cell_20 : decode cX5_cell 20 = .ok (.sipush 1000, 3) := by decide +kernel
theorem dX5_cell_23 : decode cX5_cell 23 = .ok (.invokestatic 44, 3) := by decide +kernel
theorem dX5_cell_26 : decode cX5_cell 26 = .ok (.ifCond .eq 7, 3) := by decide +kernel
theorem dX5_cell_29 : decode cX5_cell 29 = .ok (.sipush (-10102), 3) := by decide +kernel
theorem dX5_cell_32 : decode cX5_cell 32 = .ok (.ireturn, 1) := by decide +kernel
theorem dX5_cell_33 : decode cX5_cell 33 = .ok (.aload_n 0, 1) := by decide +kernel
theorem dX5_cell_34 : decode cX5_cell 34 = .ok (.getfield 26, 3) := by decide +kernel
theorem dX5_cell_37 : decode cX5_cell 37 = .ok (.getfield 129, 3) := by decide +kernel
theorem dX5_cell_40 : decode cX5_cell 40 = .ok (.iload_n 1, 1) := by decide +kernel
theorem dX5_cell_41 : decode cX5_cell 41 = .ok (.aaload, 1) := by decide +kernel
theorem dX5_cell_42 : decode cX5_cell 42 = .ok (.iload_n 2, 1) := by decide +kernel
theorem dX5_cell_43 : decode cX5_cell 43 = .ok (.iaload, 1) := by decide +kernel
theorem dX5_cell_44 : decode cX5_cell 44 = .ok (.istore 4, 2) := by decide +kernel
theorem dX5_cell_46 : decode cX5_cell 46 = .ok (.aload_n 0, 1) := by decide +kernel
theorem dX5_cell_47 : decode cX5_cell 47 = .ok (.getfield 26, 3) := by decide +kernel
theorem dX5_cell_50 : decode cX5_cell 50 = .ok (.getfield 129, 3) := by decide +kernel
theorem dX5_cell_53 : decode cX5_cell 53 = .ok (.iload_n 1, 1) := by decide +kernel
theorem dX5_cell_54 : decode cX5_cell 54 = .ok (.aaload, 1) := by decide +kernel
theorem dX5_cell_55 : decode cX5_cell 55 = .ok (.iload_n 2, 1) := by decide +kernel
theorem dX5_cell_56 : decode cX5_cell 56 = .ok (.iload_n 3, 1) := by decide +kernel
theorem dX5_cell_57 : decode cX5_cell 57 = .ok (.iastore, 1) := by decide +kernel
theorem dX5_cell_58 : decode cX5_cell 58 = .ok (.iload 4, 2) := by decide +kernel
theorem dX5_cell_60 : decode cX5_cell 60 = .ok (.ireturn, 1) := by decide +kernel
set_option maxRecDepth 20000 in
theorem ggX5_closed_X5_isOutside : GoodIn wsX5_closed wsX5_isOutside := goodIn_r _ [7] (by decide +kernel) (by decide +kernel)
set_option maxRecDepth 20000 in
theorem gX5_closed_X5_isOutside : GoodIn wsX5_closed (va_wsS RX5 44 yX5_isOutside wsX5_isOutside) := goodIn_app (goodIn_of _ (by decide +kernel)) ggX5_closed_X5_isOutside
set_option maxRecDepth 20000 in
theorem ggX5_closed_X4_closedCell : GoodIn wsX5_closed wsX4_closedCell := goodIn_r _ [12, 13, 14, 15, 16, 17, 18, 24, 25, 26] (by decide +kernel) (by decide +kernel)
set_option maxRecDepth 20000 in
theorem gX5_closed_X4_closedCell : GoodIn wsX5_closed (wsV RX5 139 RX4 yX4_closedCell wsX4_closedCell) := goodIn_app (goodIn_of _ (by decide +kernel)) ggX5_closed_X4_closedCell
theorem dX5_closed_0 : decode cX5_closed 0 = .ok (.iload_n 1, 1) := by decide +kernel
theorem dX5_closed_1 : decode cX5_closed 1 = .ok (.iconst 0, 1) := by decide +kernel
theorem dX5_closed_2 : decode cX5_closed 2 = .ok (.aload_n 0, 1) := by decide +kernel
theorem dX5_closed_3 : decode cX5_closed 3 = .ok (.getfield 26, 3) := by decide +kernel
theorem dX5_closed_6 : decode cX5_closed 6 = .ok (.getfield 133, 3) := by decide +kernel
theorem dX5_closed_9 : decode cX5_closed 9 = .ok (.invokestatic 44, 3) := by decide +kernel
theorem dX5_closed_12 : decode cX5_closed 12 = .ok (.ifCond .ne 20, 3) := by decide +kernel
theorem dX5_closed_15 : decode cX5_closed 15 = .ok (.iload_n 2, 1) := by decide +kernel
theorem dX5_closed_16 : decode cX5_closed 16 = .ok (.iconst 0, 1) := by decide +kernel
theorem dX5_closed_17 : decode cX5_closed 17 = .ok (.aload_n 0, 1) := by decide +kernel
theorem dX5_closed_18 : decode cX5_closed 18 = .ok (.getfield 26, 3) := by decide +kernel
theorem dX5_closed_21 : decode cX5_closed 21 = .ok (.getfield 136, 3) := by decide +kernel
theorem dX5_closed_24 : decode cX5_closed 24 = .ok (.iconst 1, 1) := by decide +kernel
theorem dX5_closed_25 : decode cX5_closed 25 = .ok (.isub, 1) := by decide +kernel
theorem dX5_closed_26 : decode cX5_closed 26 = .ok (.invokestatic 44, 3) := by decide +kernel
theorem dX5_closed_29 : decode cX5_closed 29 = .ok (.ifCond .eq 7, 3) := by decide +kernel
theorem dX5_closed_32 : decode cX5_closed 32 = .ok (.sipush (-10101), 3) := by decide +kernel
theorem dX5_closed_35 : decode cX5_closed 35 = .ok (.ireturn, 1) := by decide +kernel
theorem dX5_closed_36 : decode cX5_closed 36 = .ok (.aload_n 0, 1) := by decide +kernel
theorem dX5_closed_37 : decode cX5_closed 37 = .ok (.getfield 26, 3) := by decide +kernel
theorem dX5_closed_40 : decode cX5_closed 40 = .ok (.iload_n 1, 1) := by decide +kernel
theorem dX5_closed_41 : decode cX5_closed 41 = .ok (.iload_n 2, 1) := by decide +kernel
theorem dX5_closed_42 : decode cX5_closed 42 = .ok (.invokevirtual 139, 3) := by decide +kernel
theorem dX5_closed_45 : decode cX5_closed 45 = .ok (.ireturn, 1) := by decide +kernel
set_option maxRecDepth 20000 in
theorem ggX5_tied_X5_isOutside : GoodIn wsX5_tied wsX5_isOutside := goodIn_r _ [7] (by decide +kernel) (by decide +kernel)
set_option maxRecDepth 20000 in
theorem gX5_tied_X5_isOutside : GoodIn wsX5_tied (va_wsS RX5 44 yX5_isOutside wsX5_isOutside) := goodIn_app (goodIn_of _ (by decide +kernel)) ggX5_tied_X5_isOutside
set_option maxRecDepth 20000 in
theorem ggX5_tied_X4_tiedCell : GoodIn wsX5_tied wsX4_tiedCell := goodIn_r _ [12, 13, 14, 20, 21, 22] (by decide +kernel) (by decide +kernel)
set_option maxRecDepth 20000 in
theorem gX5_tied_X4_tiedCell : GoodIn wsX5_tied (wsV RX5 143 RX4 yX4_tiedCell wsX4_tiedCell) := goodIn_app (goodIn_of _ (by decide +kernel)) ggX5_tied_X4_tiedCell
theorem dX5_tied_0 : decode cX5_tied 0 = .ok (.iload_n 1, 1) := by decide +kernel
theorem dX5_tied_1 : decode cX5_tied 1 = .ok (.iconst 0, 1) := by decide +kernel
theorem dX5_tied_2 : decode cX5_tied 2 = .ok (.aload_n 0, 1) := by decide +kernel
theorem dX5_tied_3 : decode cX5_tied 3 = .ok (.getfield 26, 3) := by decide +kernel
theorem dX5_tied_6 : decode cX5_tied 6 = .ok (.getfield 133, 3) := by decide +kernel
theorem dX5_tied_9 : decode cX5_tied 9 = .ok (.iconst 1, 1) := by decide +kernel
theorem dX5_tied_10 : decode cX5_tied 10 = .ok (.isub, 1) := by decide +kernel
theorem dX5_tied_11 : decode cX5_tied 11 = .ok (.invokestatic 44, 3) := by decide +kernel
theorem dX5_tied_14 : decode cX5_tied 14 = .ok (.ifCond .ne 20, 3) := by decide +kernel
theorem dX5_tied_17 : decode cX5_tied 17 = .ok (.iload_n 2, 1) := by decide +kernel
theorem dX5_tied_18 : decode cX5_tied 18 = .ok (.iconst 0, 1) := by decide +kernel
theorem dX5_tied_19 : decode cX5_tied 19 = .ok (.aload_n 0, 1) := by decide +kernel
theorem dX5_tied_20 : decode cX5_tied 20 = .ok (.getfield 26, 3) := by decide +kernel
theorem dX5_tied_23 : decode cX5_tied 23 = .ok (.getfield 136, 3) := by decide +kernel
theorem dX5_tied_26 : decode cX5_tied 26 = .ok (.iconst 1, 1) := by decide +kernel
theorem dX5_tied_27 : decode cX5_tied 27 = .ok (.isub, 1) := by decide +kernel
theorem dX5_tied_28 : decode cX5_tied 28 = .ok (.invokestatic 44, 3) := by decide +kernel
theorem dX5_tied_31 : decode cX5_tied 31 = .ok (.ifCond .eq 7, 3) := by decide +kernel
theorem dX5_tied_34 : decode cX5_tied 34 = .ok (.sipush (-10101), 3) := by decide +kernel
theorem dX5_tied_37 : decode cX5_tied 37 = .ok (.ireturn, 1) := by decide +kernel
theorem dX5_tied_38 : decode cX5_tied 38 = .ok (.aload_n 0, 1) := by decide +kernel
theorem dX5_tied_39 : decode cX5_tied 39 = .ok (.getfield 26, 3) := by decide +kernel
theorem dX5_tied_42 : decode cX5_tied 42 = .ok (.iload_n 1, 1) := by decide +kernel
theorem dX5_tied_43 : decode cX5_tied 43 = .ok (.iload_n 2, 1) := by decide +kernel
theorem dX5_tied_44 : decode cX5_tied 44 = .ok (.invokevirtual 143, 3) := by decide +kernel
theorem dX5_tied_47 : decode cX5_tied 47 = .ok (.ireturn, 1) := by decide +kernel
set_option maxRecDepth 20000 in
theorem ggX5_antennas_X5_isOutside : GoodIn wsX5_antennas wsX5_isOutside := goodIn_r _ [5] (by decide +kernel) (by decide +kernel)
set_option maxRecDepth 20000 in
theorem gX5_antennas_X5_isOutside : GoodIn wsX5_antennas (va_wsS RX5 44 yX5_isOutside wsX5_isOutside) := goodIn_app (goodIn_of _ (by decide +kernel)) ggX5_antennas_X5_isOutside
set_option maxRecDepth 20000 in
theorem ggX5_antennas_X3_startAnew : GoodIn wsX5_antennas wsX3_startAnew := goodIn_r _ [10, 11, 12, 13, 19, 20, 21] (by decide +kernel) (by decide +kernel)
set_option maxRecDepth 20000 in
theorem gX5_antennas_X3_startAnew : GoodIn wsX5_antennas (wsV RX5 146 RX3 yX3_startAnew wsX3_startAnew) := goodIn_app (goodIn_of _ (by decide +kernel)) ggX5_antennas_X3_startAnew
theorem dX5_antennas_0 : decode cX5_antennas 0 = .ok (.iload_n 1, 1) := by decide +kernel
theorem dX5_antennas_1 : decode cX5_antennas 1 = .ok (.iconst 3, 1) := by decide +kernel
theorem dX5_antennas_2 : decode cX5_antennas 2 = .ok (.iconst 5, 1) := by decide +kernel
theorem dX5_antennas_3 : decode cX5_antennas 3 = .ok (.invokestatic 44, 3) := by decide +kernel
theorem dX5_antennas_6 : decode cX5_antennas 6 = .ok (.ifCond .eq 6, 3) := by decide +kernel
theorem dX5_antennas_9 : decode cX5_antennas 9 = .ok (.bipush (-102), 2) := by decide +kernel
theorem dX5_antennas_11 : decode cX5_antennas 11 = .ok (.ireturn, 1) := by decide +kernel
theorem dX5_antennas_12 : decode cX5_antennas 12 = .ok (.aload_n 0, 1) := by decide +kernel
theorem dX5_antennas_13 : decode cX5_antennas 13 = .ok (.getfield 33, 3) := by decide +kernel
theorem dX5_antennas_16 : decode cX5_antennas 16 = .ok (.iload_n 1, 1) := by decide +kernel
theorem dX5_antennas_17 : decode cX5_antennas 17 = .ok (.invokevirtual 146, 3) := by decide +kernel
theorem dX5_antennas_20 : decode cX5_antennas 20 = .ok (.iload_n 1, 1) := by decide +kernel
theorem dX5_antennas_21 : decode cX5_antennas 21 = .ok (.ireturn, 1) := by decide +kernel
set_option maxRecDepth 20000 in
theorem ggX5_together_X3_has : GoodIn wsX5_together wsX3_has := goodIn_r _ [7, 8, 24, 25, 26] (by decide +kernel) (by decide +kernel)
set_option maxRecDepth 20000 in
theorem gX5_together_X3_has : GoodIn wsX5_together (wsV RX5 147 RX3 yX3_has wsX3_has) := goodIn_app (goodIn_of _ (by decide +kernel)) ggX5_together_X3_has
set_option maxRecDepth 20000 in
theorem ggX5_together_X5_isOutside : GoodIn wsX5_together wsX5_isOutside := goodIn_r _ [12] (by decide +kernel) (by decide +kernel)
set_option maxRecDepth 20000 in
theorem gX5_together_X5_isOutside : GoodIn wsX5_together (va_wsS RX5 44 yX5_isOutside wsX5_isOutside) := goodIn_app (goodIn_of _ (by decide +kernel)) ggX5_together_X5_isOutside
set_option maxRecDepth 20000 in
theorem ggX5_together_X3_put : GoodIn wsX5_together wsX3_put := goodIn_r _ [16, 17, 18, 24, 25, 26] (by decide +kernel) (by decide +kernel)
set_option maxRecDepth 20000 in
theorem gX5_together_X3_put : GoodIn wsX5_together (wsV RX5 151 RX3 yX3_put wsX3_put) := goodIn_app (goodIn_of _ (by decide +kernel)) ggX5_together_X3_put
theorem dX5_together_0 : decode cX5_together 0 = .ok (.aload_n 0, 1) := by decide +kernel
theorem dX5_together_1 : decode cX5_together 1 = .ok (.getfield 33, 3) := by decide +kernel
theorem dX5_together_4 : decode cX5_together 4 = .ok (.iload_n 1, 1) := by decide +kernel
theorem dX5_together_5 : decode cX5_together 5 = .ok (.invokevirtual 147, 3) := by decide +kernel
theorem dX5_together_8 : decode cX5_together 8 = .ok (.ifCond .eq 19, 3) := by decide +kernel
theorem dX5_together_11 : decode cX5_together 11 = .ok (.aload_n 0, 1) := by decide +kernel
theorem dX5_together_12 : decode cX5_together 12 = .ok (.getfield 33, 3) := by decide +kernel
theorem dX5_together_15 : decode cX5_together 15 = .ok (.iload_n 2, 1) := by decide +kernel
theorem dX5_together_16 : decode cX5_together 16 = .ok (.invokevirtual 147, 3) := by decide +kernel
theorem dX5_together_19 : decode cX5_together 19 = .ok (.ifCond .eq 8, 3) := by decide +kernel
theorem dX5_together_22 : decode cX5_together 22 = .ok (.iload_n 1, 1) := by decide +kernel
theorem dX5_together_23 : decode cX5_together 23 = .ok (.iload_n 2, 1) := by decide +kernel
theorem dX5_together_24 : decode cX5_together 24 = .ok (.if_icmp .ne 6, 3) := by decide +kernel
theorem dX5_together_27 : decode cX5_together 27 = .ok (.bipush (-101), 2) := by decide +kernel
theorem dX5_together_29 : decode cX5_together 29 = .ok (.ireturn, 1) := by decide +kernel
theorem dX5_together_30 : decode cX5_together 30 = .ok (.iload_n 3, 1) := by decide +kernel
theorem dX5_together_31 : decode cX5_together 31 = .ok (.sipush (-10000), 3) := by decide +kernel
theorem dX5_together_34 : decode cX5_together 34 = .ok (.sipush 10000, 3) := by decide +kernel
theorem dX5_together_37 : decode cX5_together 37 = .ok (.invokestatic 44, 3) := by decide +kernel
theorem dX5_together_40 : decode cX5_together 40 = .ok (.ifCond .eq 6, 3) := by decide +kernel
theorem dX5_together_43 : decode cX5_together 43 = .ok (.bipush (-102), 2) := by decide +kernel
theorem dX5_together_45 : decode cX5_together 45 = .ok (.ireturn, 1) := by decide +kernel
theorem dX5_together_46 : decode cX5_together 46 = .ok (.aload_n 0, 1) := by decide +kernel
theorem dX5_together_47 : decode cX5_together 47 = .ok (.getfield 33, 3) := by decide +kernel
theorem dX5_together_50 : decode cX5_together 50 = .ok (.getfield 148, 3) := by decide +kernel
theorem dX5_together_53 : decode cX5_together 53 = .ok (.iload_n 1, 1) := by decide +kernel
theorem dX5_together_54 : decode cX5_together 54 = .ok (.aaload, 1) := by decide +kernel
theorem dX5_together_55 : decode cX5_together 55 = .ok (.iload_n 2, 1) := by decide +kernel
theorem dX5_together_56 : decode cX5_together 56 = .ok (.iaload, 1) := by decide +kernel
theorem dX5_together_57 : decode cX5_together 57 = .ok (.istore 5, 2) := by decide +kernel
theorem dX5_together_59 : decode cX5_together 59 = .ok (.aload_n 0, 1) := by decide +kernel
theorem dX5_together_60 : decode cX5_together 60 = .ok (.getfield 33, 3) := by decide +kernel
theorem dX5_together_63 : decode cX5_together 63 = .ok (.iload_n 1, 1) := by decide +kernel
theorem dX5_together_64 : decode cX5_together 64 = .ok (.iload_n 2, 1) := by decide +kernel
theorem dX5_together_65 : decode cX5_together 65 = .ok (.iload_n 3, 1) := by decide +kernel
theorem dX5_together_66 : decode cX5_together 66 = .ok (.iload 4, 2) := by decide +kernel
theorem dX5_together_68 : decode cX5_together 68 = .ok (.invokevirtual 151, 3) := by decide +kernel
theorem dX5_together_71 : decode cX5_together 71 = .ok (.iload 5, 2) := by decide +kernel
theorem dX5_together_73 : decode cX5_together 73 = .ok (.ireturn, 1) := by decide +kernel
set_option maxRecDepth 20000 in
theorem ggX5_gain_X3_has : GoodIn wsX5_gain wsX3_has := goodIn_r _ [7, 8, 29, 30, 31] (by decide +kernel) (by decide +kernel)
set_option maxRecDepth 20000 in
theorem gX5_gain_X3_has : GoodIn wsX5_gain (wsV RX5 147 RX3 yX3_has wsX3_has) := goodIn_app (goodIn_of _ (by decide +kernel)) ggX5_gain_X3_has
set_option maxRecDepth 20000 in
theorem ggX5_gain_X3_firstGain : GoodIn wsX5_gain wsX3_firstGain := goodIn_r _ [12, 8, 13, 14, 15, 16, 6, 17, 18, 19, 20, 21, 22, 23, 29, 30, 31] (by decide +kernel) (by decide +kernel)
set_option maxRecDepth 20000 in
theorem gX5_gain_X3_firstGain : GoodIn wsX5_gain (wsV RX5 155 RX3 yX3_firstGain wsX3_firstGain) := goodIn_app (goodIn_of _ (by decide +kernel)) ggX5_gain_X3_firstGain
theorem dX5_gain_0 : decode cX5_gain 0 = .ok (.aload_n 0, 1) := by decide +kernel
theorem dX5_gain_1 : decode cX5_gain 1 = .ok (.getfield 33, 3) := by decide +kernel
theorem dX5_gain_4 : decode cX5_gain 4 = .ok (.iload_n 1, 1) := by decide +kernel
theorem dX5_gain_5 : decode cX5_gain 5 = .ok (.invokevirtual 147, 3) := by decide +kernel
theorem dX5_gain_8 : decode cX5_gain 8 = .ok (.ifCond .eq 14, 3) := by decide +kernel
theorem dX5_gain_11 : decode cX5_gain 11 = .ok (.aload_n 0, 1) := by decide +kernel
theorem dX5_gain_12 : decode cX5_gain 12 = .ok (.getfield 33, 3) := by decide +kernel
theorem dX5_gain_15 : decode cX5_gain 15 = .ok (.iload_n 1, 1) := by decide +kernel
theorem dX5_gain_16 : decode cX5_gain 16 = .ok (.invokevirtual 155, 3) := by decide +kernel
theorem dX5_gain_19 : decode cX5_gain 19 = .ok (.goto 5, 3) := by decide +kernel
theorem dX5_gain_22 : decode cX5_gain 22 = .ok (.ldc 71, 2) := by decide +kernel
theorem dX5_gain_24 : decode cX5_gain 24 = .ok (.ireturn, 1) := by decide +kernel
set_option maxRecDepth 20000 in
theorem ggX5_loose_X3_spread : GoodIn wsX5_loose wsX3_spread := goodIn_r _ [11, 12, 13, 14, 5, 15, 16, 4, 6, 17, 18, 19, 10, 20, 21, 22, 23, 24, 25, 26, 32, 33, 34] (by decide +kernel) (by decide +kernel)
set_option maxRecDepth 20000 in
theorem gX5_loose_X3_spread : GoodIn wsX5_loose (wsV RX5 162 RX3 yX3_spread wsX3_spread) := goodIn_app (goodIn_of _ (by decide +kernel)) ggX5_loose_X3_spread
theorem dX5_loose_0 : decode cX5_loose 0 = .ok (.iconst (-1), 1) := by decide +kernel
theorem dX5_loose_1 : decode cX5_loose 1 = .ok (.istore_n 1, 1) := by decide +kernel
theorem dX5_loose_2 : decode cX5_loose 2 = .ok (.iconst 0, 1) := by decide +kernel
theorem dX5_loose_3 : decode cX5_loose 3 = .ok (.istore_n 2, 1) := by decide +kernel
theorem dX5_loose_4 : decode cX5_loose 4 = .ok (.iload_n 2, 1) := by decide +kernel
theorem dX5_loose_5 : decode cX5_loose 5 = .ok (.aload_n 0, 1) := by decide +kernel
theorem dX5_loose_6 : decode cX5_loose 6 = .ok (.getfield 33, 3) := by decide +kernel
theorem dX5_loose_9 : decode cX5_loose 9 = .ok (.getfield 159, 3) := by decide +kernel
theorem dX5_loose_12 : decode cX5_loose 12 = .ok (.if_icmp .ge 22, 3) := by decide +kernel
theorem dX5_loose_15 : decode cX5_loose 15 = .ok (.iload_n 1, 1) := by decide +kernel
theorem dX5_loose_16 : decode cX5_loose 16 = .ok (.aload_n 0, 1) := by decide +kernel
theorem dX5_loose_17 : decode cX5_loose 17 = .ok (.getfield 33, 3) := by decide +kernel
theorem dX5_loose_20 : decode cX5_loose 20 = .ok (.iload_n 2, 1) := by decide +kernel
theorem dX5_loose_21 : decode cX5_loose 21 = .ok (.invokevirtual 162, 3) := by decide +kernel
theorem dX5_loose_24 : decode cX5_loose 24 = .ok (.invokestatic 165, 3) := by decide +kernel
theorem dX5_loose_27 : decode cX5_loose 27 = .ok (.istore_n 1, 1) := by decide +kernel
theorem dX5_loose_28 : decode cX5_loose 28 = .ok (.iinc 2 1, 3) := by decide +kernel
theorem dX5_loose_31 : decode cX5_loose 31 = .ok (.goto (-27), 3) := by decide +kernel
theorem dX5_loose_34 : decode cX5_loose 34 = .ok (.iload_n 1, 1) := by decide +kernel
theorem dX5_loose_35 : decode cX5_loose 35 = .ok (.ireturn, 1) := by decide +kernel
set_option maxRecDepth 20000 in
theorem ggX5_measure_X2_has : GoodIn wsX5_measure wsX2_has := goodIn_r _ [10, 11, 21, 22, 23, 24, 25, 26, 27, 28, 29] (by decide +kernel) (by decide +kernel)
set_option maxRecDepth 20000 in
theorem gX5_measure_X2_has : GoodIn wsX5_measure (wsV RX5 56 RX2 yX2_has wsX2_has) := goodIn_app (goodIn_of _ (by decide +kernel)) ggX5_measure_X2_has
set_option maxRecDepth 20000 in
theorem ggX5_measure_X5_isOutside : GoodIn wsX5_measure wsX5_isOutside := goodIn_r _ [15] (by decide +kernel) (by decide +kernel)
set_option maxRecDepth 20000 in
theorem gX5_measure_X5_isOutside : GoodIn wsX5_measure (va_wsS RX5 44 yX5_isOutside wsX5_isOutside) := goodIn_app (goodIn_of _ (by decide +kernel)) ggX5_measure_X5_isOutside
theorem dX5_measure_0 : decode cX5_measure 0 = .ok (.aload_n 0, 1) := by decide +kernel
theorem dX5_measure_1 : decode cX5_measure 1 = .ok (.getfield 10, 3) := by decide +kernel
theorem dX5_measure_4 : decode cX5_measure 4 = .ok (.iload_n 1, 1) := by decide +kernel
theorem dX5_measure_5 : decode cX5_measure 5 = .ok (.invokevirtual 56, 3) := by decide +kernel
theorem dX5_measure_8 : decode cX5_measure 8 = .ok (.ifCond .ne 6, 3) := by decide +kernel
theorem dX5_measure_11 : decode cX5_measure 11 = .ok (.bipush (-101), 2) := by decide +kernel
theorem dX5_measure_13 : decode cX5_measure 13 = .ok (.ireturn, 1) := by decide +kernel
theorem dX5_measure_14 : decode cX5_measure 14 = .ok (.iload_n 2, 1) := by decide +kernel
theorem dX5_measure_15 : decode cX5_measure 15 = .ok (.ldc 77, 2) := by decide +kernel
theorem dX5_measure_17 : decode cX5_measure 17 = .ok (.ldc 78, 2) := by decide +kernel
theorem dX5_measure_19 : decode cX5_measure 19 = .ok (.invokestatic 44, 3) := by decide +kernel
theorem dX5_measure_22 : decode cX5_measure 22 = .ok (.ifCond .eq 6, 3) := by decide +kernel
theorem dX5_measure_25 : decode cX5_measure 25 = .ok (.bipush (-102), 2) := by decide +kernel
theorem dX5_measure_27 : decode cX5_measure 27 = .ok (.ireturn, 1) := by decide +kernel
theorem dX5_measure_28 : decode cX5_measure 28 = .ok (.aload_n 0, 1) := by decide +kernel
theorem dX5_measure_29 : decode cX5_measure 29 = .ok (.getfield 10, 3) := by decide +kernel
theorem dX5_measure_32 : decode cX5_measure 32 = .ok (.getfield 170, 3) := by decide +kernel
theorem dX5_measure_35 : decode cX5_measure 35 = .ok (.iload_n 1, 1) := by decide +kernel
theorem dX5_measure_36 : decode cX5_measure 36 = .ok (.baload, 1) := by decide +kernel
theorem dX5_measure_37 : decode cX5_measure 37 = .ok (.istore 4, 2) := by decide +kernel
theorem dX5_measure_39 : decode cX5_measure 39 = .ok (.aload_n 0, 1) := by decide +kernel
theorem dX5_measure_40 : decode cX5_measure 40 = .ok (.getfield 10, 3) := by decide +kernel
theorem dX5_measure_43 : decode cX5_measure 43 = .ok (.getfield 170, 3) := by decide +kernel
theorem dX5_measure_46 : decode cX5_measure 46 = .ok (.iload_n 1, 1) := by decide +kernel
theorem dX5_measure_47 : decode cX5_measure 47 = .ok (.iload_n 3, 1) := by decide +kernel
theorem dX5_measure_48 : decode cX5_measure 48 = .ok (.bastore, 1) := by decide +kernel
theorem dX5_measure_49 : decode cX5_measure 49 = .ok (.aload_n 0, 1) := by decide +kernel
theorem dX5_measure_50 : decode cX5_measure 50 = .ok (.getfield 10, 3) := by decide +kernel
theorem dX5_measure_53 : decode cX5_measure 53 = .ok (.getfield 173, 3) := by decide +kernel
theorem dX5_measure_56 : decode cX5_measure 56 = .ok (.iload_n 1, 1) := by decide +kernel
theorem dX5_measure_57 : decode cX5_measure 57 = .ok (.iload_n 3, 1) := by decide +kernel
theorem dX5_measure_58 : decode cX5_measure 58 = .ok (.ifCond .eq 7, 3) := by decide +kernel
theorem dX5_measure_61 : decode cX5_measure 61 = .ok (.iload_n 2, 1) := by decide +kernel
theorem dX5_measure_62 : decode cX5_measure 62 = .ok (.goto 4, 3) := by decide +kernel
theorem dX5_measure_65 : decode cX5_measure 65 = .ok (.iconst 0, 1) := by decide +kernel
theorem dX5_measure_66 : decode cX5_measure 66 = .ok (.iastore, 1) := by decide +kernel
theorem dX5_measure_67 : decode cX5_measure 67 = .ok (.iload 4, 2) := by decide +kernel
theorem dX5_measure_69 : decode cX5_measure 69 = .ok (.ifCond .eq 7, 3) := by decide +kernel
theorem dX5_measure_72 : decode cX5_measure 72 = .ok (.iconst 1, 1) := by decide +kernel
theorem dX5_measure_73 : decode cX5_measure 73 = .ok (.goto 4, 3) := by decide +kernel
theorem dX5_measure_76 : decode cX5_measure 76 = .ok (.iconst 0, 1) := by decide +kernel
theorem dX5_measure_77 : decode cX5_measure 77 = .ok (.ireturn, 1) := by decide +kernel
set_option maxRecDepth 20000 in
theorem ggX5_faults_X2_isAnythingOff : GoodIn wsX5_faults wsX2_isAnythingOff := goodIn_r _ [6, 7, 8, 9, 10, 5, 11, 12, 13, 14, 42, 43, 44, 45, 46, 47, 48, 49, 50] (by decide +kernel) (by decide +kernel)
set_option maxRecDepth 20000 in
theorem gX5_faults_X2_isAnythingOff : GoodIn wsX5_faults (wsV RX5 176 RX2 yX2_isAnythingOff wsX2_isAnythingOff) := goodIn_app (goodIn_of _ (by decide +kernel)) ggX5_faults_X2_isAnythingOff
set_option maxRecDepth 20000 in
theorem ggX5_faults_X2_countFaults : GoodIn wsX5_faults wsX2_countFaults := goodIn_r _ [18, 7, 19, 20, 21, 5, 22, 12, 23, 24, 25, 26, 8, 9, 10, 11, 13, 14, 27, 28, 29, 30, 31, 32, 33, 34, 35, 36, 42, 43, 44, 45, 46, 47, 48, 49, 50] (by decide +kernel) (by decide +kernel)
set_option maxRecDepth 20000 in
theorem gX5_faults_X2_countFaults : GoodIn wsX5_faults (wsV RX5 179 RX2 yX2_countFaults wsX2_countFaults) := goodIn_app (goodIn_of _ (by decide +kernel)) ggX5_faults_X2_countFaults
theorem dX5_faults_0 : decode cX5_faults 0 = .ok (.aload_n 0, 1) := by decide +kernel
theorem dX5_faults_1 : decode cX5_faults 1 = .ok (.getfield 10, 3) := by decide +kernel
theorem dX5_faults_4 : decode cX5_faults 4 = .ok (.invokevirtual 176, 3) := by decide +kernel
theorem dX5_faults_7 : decode cX5_faults 7 = .ok (.ifCond .eq 13, 3) := by decide +kernel
theorem dX5_faults_10 : decode cX5_faults 10 = .ok (.aload_n 0, 1) := by decide +kernel
theorem dX5_faults_11 : decode cX5_faults 11 = .ok (.getfield 10, 3) := by decide +kernel
theorem dX5_faults_14 : decode cX5_faults 14 = .ok (.invokevirtual 179, 3) := by decide +kernel
theorem dX5_faults_17 : decode cX5_faults 17 = .ok (.goto 4, 3) := by decide +kernel
theorem dX5_faults_20 : decode cX5_faults 20 = .ok (.iconst (-1), 1) := by decide +kernel
theorem dX5_faults_21 : decode cX5_faults 21 = .ok (.ireturn, 1) := by decide +kernel
set_option maxRecDepth 20000 in
theorem ggX5_fault_X2_elementOfFault : GoodIn wsX5_fault wsX2_elementOfFault := goodIn_r _ [6, 7, 8, 9, 10, 5, 11, 12, 13, 14, 15, 16, 17, 18, 19, 20, 21, 22, 23, 24, 25, 26, 27, 28, 29, 30, 31, 32, 38, 39, 40, 41, 42, 43, 44, 45, 46] (by decide +kernel) (by decide +kernel)
set_option maxRecDepth 20000 in
theorem gX5_fault_X2_elementOfFault : GoodIn wsX5_fault (wsV RX5 182 RX2 yX2_elementOfFault wsX2_elementOfFault) := goodIn_app (goodIn_of _ (by decide +kernel)) ggX5_fault_X2_elementOfFault
theorem dX5_fault_0 : decode cX5_fault 0 = .ok (.aload_n 0, 1) := by decide +kernel
theorem dX5_fault_1 : decode cX5_fault 1 = .ok (.getfield 10, 3) := by decide +kernel
theorem dX5_fault_4 : decode cX5_fault 4 = .ok (.iload_n 1, 1) := by decide +kernel
theorem dX5_fault_5 : decode cX5_fault 5 = .ok (.invokevirtual 182, 3) := by decide +kernel
theorem dX5_fault_8 : decode cX5_fault 8 = .ok (.ireturn, 1) := by decide +kernel
set_option maxRecDepth 20000 in
theorem ggX5_by_X2_elementOfFault : GoodIn wsX5_by wsX2_elementOfFault := goodIn_r _ [6, 7, 8, 9, 10, 5, 11, 12, 13, 14, 15, 16, 17, 18, 19, 20, 21, 22, 23, 24, 25, 26, 27, 28, 29, 30, 31, 32, 39, 40, 41, 42, 43, 44, 45, 46, 47] (by decide +kernel) (by decide +kernel)
set_option maxRecDepth 20000 in
theorem gX5_by_X2_elementOfFault : GoodIn wsX5_by (wsV RX5 182 RX2 yX2_elementOfFault wsX2_elementOfFault) := goodIn_app (goodIn_of _ (by decide +kernel)) ggX5_by_X2_elementOfFault
set_option maxRecDepth 20000 in
theorem ggX5_by_X2_faultOf : GoodIn wsX5_by wsX2_faultOf := goodIn_r _ [11, 7, 12, 13, 14, 15, 5, 16, 17, 18, 19, 20, 21, 22, 23, 24, 25, 26, 27, 28, 29, 30, 31, 32, 39, 40, 41, 42, 43, 44, 45, 46, 47] (by decide +kernel) (by decide +kernel)
set_option maxRecDepth 20000 in
theorem gX5_by_X2_faultOf : GoodIn wsX5_by (wsV RX5 185 RX2 yX2_faultOf wsX2_faultOf) := goodIn_app (goodIn_of _ (by decide +kernel)) ggX5_by_X2_faultOf
theorem dX5_by_0 : decode cX5_by 0 = .ok (.aload_n 0, 1) := by decide +kernel
theorem dX5_by_1 : decode cX5_by 1 = .ok (.getfield 10, 3) := by decide +kernel
theorem dX5_by_4 : decode cX5_by 4 = .ok (.iload_n 1, 1) := by decide +kernel
theorem dX5_by_5 : decode cX5_by 5 = .ok (.invokevirtual 182, 3) := by decide +kernel
theorem dX5_by_8 : decode cX5_by 8 = .ok (.istore_n 2, 1) := by decide +kernel
theorem dX5_by_9 : decode cX5_by 9 = .ok (.iload_n 2, 1) := by decide +kernel
theorem dX5_by_10 : decode cX5_by 10 = .ok (.iconst (-1), 1) := by decide +kernel
theorem dX5_by_11 : decode cX5_by 11 = .ok (.if_icmp .ne 7, 3) := by decide +kernel
theorem dX5_by_14 : decode cX5_by 14 = .ok (.iconst 0, 1) := by decide +kernel
theorem dX5_by_15 : decode cX5_by 15 = .ok (.goto 11, 3) := by decide +kernel
theorem dX5_by_18 : decode cX5_by 18 = .ok (.aload_n 0, 1) := by decide +kernel
theorem dX5_by_19 : decode cX5_by 19 = .ok (.getfield 10, 3) := by decide +kernel
theorem dX5_by_22 : decode cX5_by 22 = .ok (.iload_n 2, 1) := by decide +kernel
theorem dX5_by_23 : decode cX5_by 23 = .ok (.invokevirtual 185, 3) := by decide +kernel
theorem dX5_by_26 : decode cX5_by 26 = .ok (.ireturn, 1) := by decide +kernel
set_option maxRecDepth 20000 in
theorem ggX5_limit_X2_has : GoodIn wsX5_limit wsX2_has := goodIn_r _ [8, 9, 19, 20, 21, 22, 23, 24, 25, 26, 27] (by decide +kernel) (by decide +kernel)
set_option maxRecDepth 20000 in
theorem gX5_limit_X2_has : GoodIn wsX5_limit (wsV RX5 56 RX2 yX2_has wsX2_has) := goodIn_app (goodIn_of _ (by decide +kernel)) ggX5_limit_X2_has
set_option maxRecDepth 20000 in
theorem ggX5_limit_X5_isOutside : GoodIn wsX5_limit wsX5_isOutside := goodIn_r _ [13] (by decide +kernel) (by decide +kernel)
set_option maxRecDepth 20000 in
theorem gX5_limit_X5_isOutside : GoodIn wsX5_limit (va_wsS RX5 44 yX5_isOutside wsX5_isOutside) := goodIn_app (goodIn_of _ (by decide +kernel)) ggX5_limit_X5_isOutside
theorem dX5_limit_0 : decode cX5_limit 0 = .ok (.aload_n 0, 1) := by decide +kernel
theorem dX5_limit_1 : decode cX5_limit 1 = .ok (.getfield 10, 3) := by decide +kernel
theorem dX5_limit_4 : decode cX5_limit 4 = .ok (.iload_n 1, 1) := by decide +kernel
theorem dX5_limit_5 : decode cX5_limit 5 = .ok (.invokevirtual 56, 3) := by decide +kernel
theorem dX5_limit_8 : decode cX5_limit 8 = .ok (.ifCond .ne 6, 3) := by decide +kernel
theorem dX5_limit_11 : decode cX5_limit 11 = .ok (.bipush (-101), 2) := by decide +kernel
theorem dX5_limit_13 : decode cX5_limit 13 = .ok (.ireturn, 1) := by decide +kernel
theorem dX5_limit_14 : decode cX5_limit 14 = .ok (.iload_n 2, 1) := by decide +kernel
theorem dX5_limit_15 : decode cX5_limit 15 = .ok (.iconst 0, 1) := by decide +kernel
theorem dX5_limit_16 : decode cX5_limit 16 = .ok (.ldc 188, 2) := by decide +kernel
theorem dX5_limit_18 : decode cX5_limit 18 = .ok (.invokestatic 44, 3) := by decide +kernel
theorem dX5_limit_21 : decode cX5_limit 21 = .ok (.ifCond .eq 6, 3) := by decide +kernel
theorem dX5_limit_24 : decode cX5_limit 24 = .ok (.bipush (-102), 2) := by decide +kernel
theorem dX5_limit_26 : decode cX5_limit 26 = .ok (.ireturn, 1) := by decide +kernel
theorem dX5_limit_27 : decode cX5_limit 27 = .ok (.aload_n 0, 1) := by decide +kernel
theorem dX5_limit_28 : decode cX5_limit 28 = .ok (.getfield 10, 3) := by decide +kernel
theorem dX5_limit_31 : decode cX5_limit 31 = .ok (.getfield 189, 3) := by decide +kernel
theorem dX5_limit_34 : decode cX5_limit 34 = .ok (.iload_n 1, 1) := by decide +kernel
theorem dX5_limit_35 : decode cX5_limit 35 = .ok (.iaload, 1) := by decide +kernel
theorem dX5_limit_36 : decode cX5_limit 36 = .ok (.istore_n 3, 1) := by decide +kernel
theorem dX5_limit_37 : decode cX5_limit 37 = .ok (.aload_n 0, 1) := by decide +kernel
theorem dX5_limit_38 : decode cX5_limit 38 = .ok (.getfield 10, 3) := by decide +kernel
theorem dX5_limit_41 : decode cX5_limit 41 = .ok (.getfield 189, 3) := by decide +kernel
theorem dX5_limit_44 : decode cX5_limit 44 = .ok (.iload_n 1, 1) := by decide +kernel
theorem dX5_limit_45 : decode cX5_limit 45 = .ok (.iload_n 2, 1) := by decide +kernel
theorem dX5_limit_46 : decode cX5_limit 46 = .ok (.iastore, 1) := by decide +kernel
theorem dX5_limit_47 : decode cX5_limit 47 = .ok (.iload_n 3, 1) := by decide +kernel
theorem dX5_limit_48 : decode cX5_limit 48 = .ok (.ireturn, 1) := by decide +kernel
theorem dX5_broken_0 : decode cX5_broken 0 = .ok (.iconst 0, 1) := by decide +kernel
theorem dX5_broken_1 : decode cX5_broken 1 = .ok (.istore_n 1, 1) := by decide +kernel
theorem dX5_broken_2 : decode cX5_broken 2 = .ok (.iload_n 1, 1) := by decide +kernel
theorem dX5_broken_3 : decode cX5_broken 3 = .ok (.aload_n 0, 1) := by decide +kernel
theorem dX5_broken_4 : decode cX5_broken 4 = .ok (.getfield 10, 3) := by decide +kernel
theorem dX5_broken_7 : decode cX5_broken 7 = .ok (.getfield 52, 3) := by decide +kernel
theorem dX5_broken_10 : decode cX5_broken 10 = .ok (.if_icmp .ge 35, 3) := by decide +kernel
theorem dX5_broken_13 : decode cX5_broken 13 = .ok (.aload_n 0, 1) := by decide +kernel
theorem dX5_broken_14 : decode cX5_broken 14 = .ok (.getfield 10, 3) := by decide +kernel
theorem dX5_broken_17 : decode cX5_broken 17 = .ok (.getfield 68, 3) := by decide +kernel
theorem dX5_broken_20 : decode cX5_broken 20 = .ok (.iload_n 1, 1) := by decide +kernel
theorem dX5_broken_21 : decode cX5_broken 21 = .ok (.iaload, 1) := by decide +kernel
theorem dX5_broken_22 : decode cX5_broken 22 = .ok (.invokestatic 192, 3) := by decide +kernel
theorem dX5_broken_25 : decode cX5_broken 25 = .ok (.aload_n 0, 1) := by decide +kernel
theorem dX5_broken_26 : decode cX5_broken 26 = .ok (.getfield 10, 3) := by decide +kernel
theorem dX5_broken_29 : decode cX5_broken 29 = .ok (.getfield 189, 3) := by decide +kernel
theorem dX5_broken_32 : decode cX5_broken 32 = .ok (.iload_n 1, 1) := by decide +kernel
theorem dX5_broken_33 : decode cX5_broken 33 = .ok (.iaload, 1) := by decide +kernel
theorem dX5_broken_34 : decode cX5_broken 34 = .ok (.if_icmp .le 5, 3) := by decide +kernel
theorem dX5_broken_37 : decode cX5_broken 37 = .ok (.iload_n 1, 1) := by decide +kernel
theorem dX5_broken_38 : decode cX5_broken 38 = .ok (.ireturn, 1) := by decide +kernel
theorem dX5_broken_39 : decode cX5_broken 39 = .ok (.iinc 1 1, 3) := by decide +kernel
theorem dX5_broken_42 : decode cX5_broken 42 = .ok (.goto (-40), 3) := by decide +kernel
theorem dX5_broken_45 : decode cX5_broken 45 = .ok (.iconst (-1), 1) := by decide +kernel
theorem dX5_broken_46 : decode cX5_broken 46 = .ok (.ireturn, 1) := by decide +kernel
set_option maxRecDepth 20000 in
theorem ggX5_doubt_X5_isOutside : GoodIn wsX5_doubt wsX5_isOutside := goodIn_r _ [6] (by decide +kernel) (by decide +kernel)
set_option maxRecDepth 20000 in
theorem gX5_doubt_X5_isOutside : GoodIn wsX5_doubt (va_wsS RX5 44 yX5_isOutside wsX5_isOutside) := goodIn_app (goodIn_of _ (by decide +kernel)) ggX5_doubt_X5_isOutside
set_option maxRecDepth 20000 in
theorem ggX5_doubt_X0_add : GoodIn wsX5_doubt wsX0_add := goodIn_r _ [11, 12, 13, 19, 20] (by decide +kernel) (by decide +kernel)
set_option maxRecDepth 20000 in
theorem gX5_doubt_X0_add : GoodIn wsX5_doubt (wsV RX5 198 RX0 yX0_add wsX0_add) := goodIn_app (goodIn_of _ (by decide +kernel)) ggX5_doubt_X0_add
theorem dX5_doubt_0 : decode cX5_doubt 0 = .ok (.iload_n 1, 1) := by decide +kernel
theorem dX5_doubt_1 : decode cX5_doubt 1 = .ok (.iconst 0, 1) := by decide +kernel
theorem dX5_doubt_2 : decode cX5_doubt 2 = .ok (.sipush 10000, 3) := by decide +kernel
theorem dX5_doubt_5 : decode cX5_doubt 5 = .ok (.invokestatic 44, 3) := by decide +kernel
theorem dX5_doubt_8 : decode cX5_doubt 8 = .ok (.ifCond .eq 6, 3) := by decide +kernel
theorem dX5_doubt_11 : decode cX5_doubt 11 = .ok (.bipush (-102), 2) := by decide +kernel
theorem dX5_doubt_13 : decode cX5_doubt 13 = .ok (.ireturn, 1) := by decide +kernel
theorem dX5_doubt_14 : decode cX5_doubt 14 = .ok (.aload_n 0, 1) := by decide +kernel
theorem dX5_doubt_15 : decode cX5_doubt 15 = .ok (.getfield 40, 3) := by decide +kernel
theorem dX5_doubt_18 : decode cX5_doubt 18 = .ok (.getfield 195, 3) := by decide +kernel
theorem dX5_doubt_21 : decode cX5_doubt 21 = .ok (.bipush 18, 2) := by decide +kernel
theorem dX5_doubt_23 : decode cX5_doubt 23 = .ok (.if_icmp .lt 6, 3) := by decide +kernel
theorem dX5_doubt_26 : decode cX5_doubt 26 = .ok (.bipush (-104), 2) := by decide +kernel
theorem dX5_doubt_28 : decode cX5_doubt 28 = .ok (.ireturn, 1) := by decide +kernel
theorem dX5_doubt_29 : decode cX5_doubt 29 = .ok (.aload_n 0, 1) := by decide +kernel
theorem dX5_doubt_30 : decode cX5_doubt 30 = .ok (.getfield 40, 3) := by decide +kernel
theorem dX5_doubt_33 : decode cX5_doubt 33 = .ok (.iload_n 1, 1) := by decide +kernel
theorem dX5_doubt_34 : decode cX5_doubt 34 = .ok (.invokevirtual 198, 3) := by decide +kernel
theorem dX5_doubt_37 : decode cX5_doubt 37 = .ok (.aload_n 0, 1) := by decide +kernel
theorem dX5_doubt_38 : decode cX5_doubt 38 = .ok (.getfield 40, 3) := by decide +kernel
theorem dX5_doubt_41 : decode cX5_doubt 41 = .ok (.getfield 195, 3) := by decide +kernel
theorem dX5_doubt_44 : decode cX5_doubt 44 = .ok (.ireturn, 1) := by decide +kernel
set_option maxRecDepth 20000 in
theorem ggX5_budget_X0_sum : GoodIn wsX5_budget wsX0_sum := goodIn_r _ [6, 7, 8, 30, 31] (by decide +kernel) (by decide +kernel)
set_option maxRecDepth 20000 in
theorem gX5_budget_X0_sum : GoodIn wsX5_budget (wsV RX5 201 RX0 yX0_sum wsX0_sum) := goodIn_app (goodIn_of _ (by decide +kernel)) ggX5_budget_X0_sum
set_option maxRecDepth 20000 in
theorem ggX5_budget_X0_squares : GoodIn wsX5_budget wsX0_squares := goodIn_r _ [12, 7, 8, 30, 31] (by decide +kernel) (by decide +kernel)
set_option maxRecDepth 20000 in
theorem gX5_budget_X0_squares : GoodIn wsX5_budget (wsV RX5 204 RX0 yX0_squares wsX0_squares) := goodIn_app (goodIn_of _ (by decide +kernel)) ggX5_budget_X0_squares
set_option maxRecDepth 20000 in
theorem ggX5_budget_X5_rootUp : GoodIn wsX5_budget wsX5_rootUp := goodIn_r _ [16] (by decide +kernel) (by decide +kernel)
set_option maxRecDepth 20000 in
theorem gX5_budget_X5_rootUp : GoodIn wsX5_budget (va_wsS RX5 208 yX5_rootUp wsX5_rootUp) := goodIn_app (goodIn_of _ (by decide +kernel)) ggX5_budget_X5_rootUp
set_option maxRecDepth 20000 in
theorem ggX5_budget_X0_greatest : GoodIn wsX5_budget wsX0_greatest := goodIn_r _ [20, 7, 8, 21, 22, 23, 24, 30, 31] (by decide +kernel) (by decide +kernel)
set_option maxRecDepth 20000 in
theorem gX5_budget_X0_greatest : GoodIn wsX5_budget (wsV RX5 212 RX0 yX0_greatest wsX0_greatest) := goodIn_app (goodIn_of _ (by decide +kernel)) ggX5_budget_X0_greatest
theorem dX5_budget_0 : decode cX5_budget 0 = .ok (.iload_n 1, 1) := by decide +kernel
theorem dX5_budget_1 : decode cX5_budget 1 = .ok (.tableswitch 54 0 2 #[27, 35, 46], 27) := by decide +kernel
theorem dX5_budget_28 : decode cX5_budget 28 = .ok (.aload_n 0, 1) := by decide +kernel
theorem dX5_budget_29 : decode cX5_budget 29 = .ok (.getfield 40, 3) := by decide +kernel
theorem dX5_budget_32 : decode cX5_budget 32 = .ok (.invokevirtual 201, 3) := by decide +kernel
theorem dX5_budget_35 : decode cX5_budget 35 = .ok (.ireturn, 1) := by decide +kernel
theorem dX5_budget_36 : decode cX5_budget 36 = .ok (.aload_n 0, 1) := by decide +kernel
theorem dX5_budget_37 : decode cX5_budget 37 = .ok (.getfield 40, 3) := by decide +kernel
theorem dX5_budget_40 : decode cX5_budget 40 = .ok (.invokevirtual 204, 3) := by decide +kernel
theorem dX5_budget_43 : decode cX5_budget 43 = .ok (.invokestatic 208, 3) := by decide +kernel
theorem dX5_budget_46 : decode cX5_budget 46 = .ok (.ireturn, 1) := by decide +kernel
theorem dX5_budget_47 : decode cX5_budget 47 = .ok (.aload_n 0, 1) := by decide +kernel
theorem dX5_budget_48 : decode cX5_budget 48 = .ok (.getfield 40, 3) := by decide +kernel
theorem dX5_budget_51 : decode cX5_budget 51 = .ok (.invokevirtual 212, 3) := by decide +kernel
theorem dX5_budget_54 : decode cX5_budget 54 = .ok (.ireturn, 1) := by decide +kernel
theorem dX5_budget_55 : decode cX5_budget 55 = .ok (.bipush (-102), 2) := by decide +kernel
theorem dX5_budget_57 : decode cX5_budget 57 = .ok (.ireturn, 1) := by decide +kernel
theorem dX5_sure_0 : decode cX5_sure 0 = .ok (.aload_n 0, 1) := by decide +kernel
theorem dX5_sure_1 : decode cX5_sure 1 = .ok (.getfield 40, 3) := by decide +kernel
theorem dX5_sure_4 : decode cX5_sure 4 = .ok (.getfield 195, 3) := by decide +kernel
theorem dX5_sure_7 : decode cX5_sure 7 = .ok (.istore_n 1, 1) := by decide +kernel
theorem dX5_sure_8 : decode cX5_sure 8 = .ok (.aload_n 0, 1) := by decide +kernel
theorem dX5_sure_9 : decode cX5_sure 9 = .ok (.getfield 40, 3) := by decide +kernel
theorem dX5_sure_12 : decode cX5_sure 12 = .ok (.iconst 0, 1) := by decide +kernel
theorem dX5_sure_13 : decode cX5_sure 13 = .ok (.putfield 195, 3) := by decide +kernel
theorem dX5_sure_16 : decode cX5_sure 16 = .ok (.iload_n 1, 1) := by decide +kernel
theorem dX5_sure_17 : decode cX5_sure 17 = .ok (.ireturn, 1) := by decide +kernel
set_option maxRecDepth 20000 in
theorem ggX5_count_X2_countLost : GoodIn wsX5_count wsX2_countLost := goodIn_r _ [14, 15, 16, 17, 13, 18, 36, 37, 38, 39, 40, 41, 42, 43, 44] (by decide +kernel) (by decide +kernel)
set_option maxRecDepth 20000 in
theorem gX5_count_X2_countLost : GoodIn wsX5_count (wsV RX5 107 RX2 yX2_countLost wsX2_countLost) := goodIn_app (goodIn_of _ (by decide +kernel)) ggX5_count_X2_countLost
set_option maxRecDepth 20000 in
theorem ggX5_count_X2_countMeasured : GoodIn wsX5_count wsX2_countMeasured := goodIn_r _ [22, 23, 16, 17, 13, 18, 36, 37, 38, 39, 40, 41, 42, 43, 44] (by decide +kernel) (by decide +kernel)
set_option maxRecDepth 20000 in
theorem gX5_count_X2_countMeasured : GoodIn wsX5_count (wsV RX5 215 RX2 yX2_countMeasured wsX2_countMeasured) := goodIn_app (goodIn_of _ (by decide +kernel)) ggX5_count_X2_countMeasured
set_option maxRecDepth 20000 in
theorem ggX5_count_X3_countKnown : GoodIn wsX5_count wsX3_countKnown := goodIn_r _ [28, 29, 30, 48, 49, 50] (by decide +kernel) (by decide +kernel)
set_option maxRecDepth 20000 in
theorem gX5_count_X3_countKnown : GoodIn wsX5_count (wsV RX5 218 RX3 yX3_countKnown wsX3_countKnown) := goodIn_app (goodIn_of _ (by decide +kernel)) ggX5_count_X3_countKnown
theorem dX5_count_0 : decode cX5_count 0 = .ok (.iload_n 1, 1) := by decide +kernel
theorem dX5_count_1 : decode cX5_count 1 = .ok (.tableswitch 111 0 7 #[47, 55, 63, 71, 79, 87, 95, 103], 47) := by decide +kernel
theorem dX5_count_48 : decode cX5_count 48 = .ok (.aload_n 0, 1) := by decide +kernel
theorem dX5_count_49 : decode cX5_count 49 = .ok (.getfield 10, 3) := by decide +kernel
theorem dX5_count_52 : decode cX5_count 52 = .ok (.getfield 52, 3) := by decide +kernel
theorem dX5_count_55 : decode cX5_count 55 = .ok (.ireturn, 1) := by decide +kernel
theorem dX5_count_56 : decode cX5_count 56 = .ok (.aload_n 0, 1) := by decide +kernel
theorem dX5_count_57 : decode cX5_count 57 = .ok (.getfield 10, 3) := by decide +kernel
theorem dX5_count_60 : decode cX5_count 60 = .ok (.invokevirtual 107, 3) := by decide +kernel
theorem dX5_count_63 : decode cX5_count 63 = .ok (.ireturn, 1) := by decide +kernel
theorem dX5_count_64 : decode cX5_count 64 = .ok (.aload_n 0, 1) := by decide +kernel
theorem dX5_count_65 : decode cX5_count 65 = .ok (.getfield 10, 3) := by decide +kernel
theorem dX5_count_68 : decode cX5_count 68 = .ok (.invokevirtual 215, 3) := by decide +kernel
theorem dX5_count_71 : decode cX5_count 71 = .ok (.ireturn, 1) := by decide +kernel
theorem dX5_count_72 : decode cX5_count 72 = .ok (.aload_n 0, 1) := by decide +kernel
theorem dX5_count_73 : decode cX5_count 73 = .ok (.getfield 26, 3) := by decide +kernel
theorem dX5_count_76 : decode cX5_count 76 = .ok (.getfield 133, 3) := by decide +kernel
theorem dX5_count_79 : decode cX5_count 79 = .ok (.ireturn, 1) := by decide +kernel
theorem dX5_count_80 : decode cX5_count 80 = .ok (.aload_n 0, 1) := by decide +kernel
theorem dX5_count_81 : decode cX5_count 81 = .ok (.getfield 26, 3) := by decide +kernel
theorem dX5_count_84 : decode cX5_count 84 = .ok (.getfield 136, 3) := by decide +kernel
theorem dX5_count_87 : decode cX5_count 87 = .ok (.ireturn, 1) := by decide +kernel
theorem dX5_count_88 : decode cX5_count 88 = .ok (.aload_n 0, 1) := by decide +kernel
theorem dX5_count_89 : decode cX5_count 89 = .ok (.getfield 33, 3) := by decide +kernel
theorem dX5_count_92 : decode cX5_count 92 = .ok (.getfield 159, 3) := by decide +kernel
theorem dX5_count_95 : decode cX5_count 95 = .ok (.ireturn, 1) := by decide +kernel
theorem dX5_count_96 : decode cX5_count 96 = .ok (.aload_n 0, 1) := by decide +kernel
theorem dX5_count_97 : decode cX5_count 97 = .ok (.getfield 33, 3) := by decide +kernel
theorem dX5_count_100 : decode cX5_count 100 = .ok (.invokevirtual 218, 3) := by decide +kernel
theorem dX5_count_103 : decode cX5_count 103 = .ok (.ireturn, 1) := by decide +kernel
theorem dX5_count_104 : decode cX5_count 104 = .ok (.aload_n 0, 1) := by decide +kernel
theorem dX5_count_105 : decode cX5_count 105 = .ok (.getfield 40, 3) := by decide +kernel
theorem dX5_count_108 : decode cX5_count 108 = .ok (.getfield 195, 3) := by decide +kernel
theorem dX5_count_111 : decode cX5_count 111 = .ok (.ireturn, 1) := by decide +kernel
theorem dX5_count_112 : decode cX5_count 112 = .ok (.bipush (-102), 2) := by decide +kernel
theorem dX5_count_114 : decode cX5_count 114 = .ok (.ireturn, 1) := by decide +kernel
set_option maxRecDepth 20000 in
theorem ggX5_digest_X2_foldInto : GoodIn wsX5_digest wsX2_foldInto := goodIn_r _ [10, 11, 12, 13, 14, 15, 16, 17, 18, 19, 20, 21, 22, 23, 24, 25, 54, 55, 56, 57, 58, 59, 60, 61, 62] (by decide +kernel) (by decide +kernel)
set_option maxRecDepth 20000 in
theorem gX5_digest_X2_foldInto : GoodIn wsX5_digest (wsV RX5 223 RX2 yX2_foldInto wsX2_foldInto) := goodIn_app (goodIn_of _ (by decide +kernel)) ggX5_digest_X2_foldInto
set_option maxRecDepth 20000 in
theorem ggX5_digest_X4_foldInto : GoodIn wsX5_digest wsX4_foldInto := goodIn_r _ [30, 31, 32, 33, 19, 20, 21, 22, 63, 64, 65] (by decide +kernel) (by decide +kernel)
set_option maxRecDepth 20000 in
theorem gX5_digest_X4_foldInto : GoodIn wsX5_digest (wsV RX5 227 RX4 yX4_foldInto wsX4_foldInto) := goodIn_app (goodIn_of _ (by decide +kernel)) ggX5_digest_X4_foldInto
set_option maxRecDepth 20000 in
theorem ggX5_digest_X3_foldInto : GoodIn wsX5_digest wsX3_foldInto := goodIn_r _ [38, 39, 40, 41, 19, 20, 21, 22, 23, 24, 25, 66, 67, 68] (by decide +kernel) (by decide +kernel)
set_option maxRecDepth 20000 in
theorem gX5_digest_X3_foldInto : GoodIn wsX5_digest (wsV RX5 228 RX3 yX3_foldInto wsX3_foldInto) := goodIn_app (goodIn_of _ (by decide +kernel)) ggX5_digest_X3_foldInto
set_option maxRecDepth 20000 in
theorem ggX5_digest_X0_foldInto : GoodIn wsX5_digest wsX0_foldInto := goodIn_r _ [46, 47, 48, 19, 20, 21, 22, 69, 70] (by decide +kernel) (by decide +kernel)
set_option maxRecDepth 20000 in
theorem gX5_digest_X0_foldInto : GoodIn wsX5_digest (wsV RX5 229 RX0 yX0_foldInto wsX0_foldInto) := goodIn_app (goodIn_of _ (by decide +kernel)) ggX5_digest_X0_foldInto
theorem dX5_digest_0 : decode cX5_digest 0 = .ok (.aload_n 0, 1) := by decide +kernel
theorem dX5_digest_1 : decode cX5_digest 1 = .ok (.getfield 10, 3) := by decide +kernel
theorem dX5_digest_4 : decode cX5_digest 4 = .ok (.ldc2_w 221, 3) := by decide +kernel
theorem dX5_digest_7 : decode cX5_digest 7 = .ok (.invokevirtual 223, 3) := by decide +kernel
theorem dX5_digest_10 : decode cX5_digest 10 = .ok (.lstore_n 1, 1) := by decide +kernel
theorem dX5_digest_11 : decode cX5_digest 11 = .ok (.aload_n 0, 1) := by decide +kernel
theorem dX5_digest_12 : decode cX5_digest 12 = .ok (.getfield 26, 3) := by decide +kernel
theorem dX5_digest_15 : decode cX5_digest 15 = .ok (.lload_n 1, 1) := by decide +kernel
theorem dX5_digest_16 : decode cX5_digest 16 = .ok (.invokevirtual 227, 3) := by decide +kernel
theorem dX5_digest_19 : decode cX5_digest 19 = .ok (.lstore_n 1, 1) := by decide +kernel
theorem dX5_digest_20 : decode cX5_digest 20 = .ok (.aload_n 0, 1) := by decide +kernel
theorem dX5_digest_21 : decode cX5_digest 21 = .ok (.getfield 33, 3) := by decide +kernel
theorem dX5_digest_24 : decode cX5_digest 24 = .ok (.lload_n 1, 1) := by decide +kernel
theorem dX5_digest_25 : decode cX5_digest 25 = .ok (.invokevirtual 228, 3) := by decide +kernel
theorem dX5_digest_28 : decode cX5_digest 28 = .ok (.lstore_n 1, 1) := by decide +kernel
theorem dX5_digest_29 : decode cX5_digest 29 = .ok (.aload_n 0, 1) := by decide +kernel
theorem dX5_digest_30 : decode cX5_digest 30 = .ok (.getfield 40, 3) := by decide +kernel
theorem dX5_digest_33 : decode cX5_digest 33 = .ok (.lload_n 1, 1) := by decide +kernel
theorem dX5_digest_34 : decode cX5_digest 34 = .ok (.invokevirtual 229, 3) := by decide +kernel
theorem dX5_digest_37 : decode cX5_digest 37 = .ok (.lreturn, 1) := by decide +kernel
theorem dX5_isOutside_0 : decode cX5_isOutside 0 = .ok (.iload_n 0, 1) := by decide +kernel
theorem dX5_isOutside_1 : decode cX5_isOutside 1 = .ok (.iload_n 1, 1) := by decide +kernel
theorem dX5_isOutside_2 : decode cX5_isOutside 2 = .ok (.if_icmp .lt 8, 3) := by decide +kernel
theorem dX5_isOutside_5 : decode cX5_isOutside 5 = .ok (.iload_n 0, 1) := by decide +kernel
theorem dX5_isOutside_6 : decode cX5_isOutside 6 = .ok (.iload_n 2, 1) := by decide +kernel
theorem dX5_isOutside_7 : decode cX5_isOutside 7 = .ok (.if_icmp .le 7, 3) := by decide +kernel
theorem dX5_isOutside_10 : decode cX5_isOutside 10 = .ok (.iconst 1, 1) := by decide +kernel
theorem dX5_isOutside_11 : decode cX5_isOutside 11 = .ok (.goto 4, 3) := by decide +kernel
theorem dX5_isOutside_14 : decode cX5_isOutside 14 = .ok (.iconst 0, 1) := by decide +kernel
theorem dX5_isOutside_15 : decode cX5_isOutside 15 = .ok (.ireturn, 1) := by decide +kernel
set_option maxRecDepth 20000 in
theorem ggX5_isGate_X5_isOutside : GoodIn wsX5_isGate wsX5_isOutside := goodIn_r _ [4] (by decide +kernel) (by decide +kernel)
set_option maxRecDepth 20000 in
theorem gX5_isGate_X5_isOutside : GoodIn wsX5_isGate (va_wsS RX5 44 yX5_isOutside wsX5_isOutside) := goodIn_app (goodIn_of _ (by decide +kernel)) ggX5_isGate_X5_isOutside
theorem dX5_isGate_0 : decode cX5_isGate 0 = .ok (.iload_n 0, 1) := by decide +kernel
theorem dX5_isGate_1 : decode cX5_isGate 1 = .ok (.iconst 0, 1) := by decide +kernel
theorem dX5_isGate_2 : decode cX5_isGate 2 = .ok (.bipush 31, 2) := by decide +kernel
theorem dX5_isGate_4 : decode cX5_isGate 4 = .ok (.invokestatic 44, 3) := by decide +kernel
theorem dX5_isGate_7 : decode cX5_isGate 7 = .ok (.ifCond .ne 17, 3) := by decide +kernel
theorem dX5_isGate_10 : decode cX5_isGate 10 = .ok (.iload_n 1, 1) := by decide +kernel
theorem dX5_isGate_11 : decode cX5_isGate 11 = .ok (.iconst 0, 1) := by decide +kernel
theorem dX5_isGate_12 : decode cX5_isGate 12 = .ok (.bipush 31, 2) := by decide +kernel
theorem dX5_isGate_14 : decode cX5_isGate 14 = .ok (.invokestatic 44, 3) := by decide +kernel
theorem dX5_isGate_17 : decode cX5_isGate 17 = .ok (.ifCond .ne 7, 3) := by decide +kernel
theorem dX5_isGate_20 : decode cX5_isGate 20 = .ok (.iconst 1, 1) := by decide +kernel
theorem dX5_isGate_21 : decode cX5_isGate 21 = .ok (.goto 4, 3) := by decide +kernel
theorem dX5_isGate_24 : decode cX5_isGate 24 = .ok (.iconst 0, 1) := by decide +kernel
theorem dX5_isGate_25 : decode cX5_isGate 25 = .ok (.ireturn, 1) := by decide +kernel
theorem dX5_passes_0 : decode cX5_passes 0 = .ok (.iload_n 0, 1) := by decide +kernel
theorem dX5_passes_1 : decode cX5_passes 1 = .ok (.iload_n 2, 1) := by decide +kernel
theorem dX5_passes_2 : decode cX5_passes 2 = .ok (.ixor, 1) := by decide +kernel
theorem dX5_passes_3 : decode cX5_passes 3 = .ok (.iload_n 1, 1) := by decide +kernel
theorem dX5_passes_4 : decode cX5_passes 4 = .ok (.iand, 1) := by decide +kernel
theorem dX5_passes_5 : decode cX5_passes 5 = .ok (.ifCond .ne 7, 3) := by decide +kernel
theorem dX5_passes_8 : decode cX5_passes 8 = .ok (.iconst 1, 1) := by decide +kernel
theorem dX5_passes_9 : decode cX5_passes 9 = .ok (.goto 4, 3) := by decide +kernel
theorem dX5_passes_12 : decode cX5_passes 12 = .ok (.iconst 0, 1) := by decide +kernel
theorem dX5_passes_13 : decode cX5_passes 13 = .ok (.ireturn, 1) := by decide +kernel
set_option maxRecDepth 20000 in
theorem ggX5_signOf_J6_bitCount_0f7a4 : GoodIn wsX5_signOf wsJ6_bitCount_0f7a4 := goodIn_r _ [4, 5, 6, 7] (by decide +kernel) (by decide +kernel)
set_option maxRecDepth 20000 in
theorem gX5_signOf_J6_bitCount_0f7a4 : GoodIn wsX5_signOf (va_wsS RX5 230 yJ6_bitCount_0f7a4 wsJ6_bitCount_0f7a4) := goodIn_app (goodIn_of _ (by decide +kernel)) ggX5_signOf_J6_bitCount_0f7a4
theorem dX5_signOf_0 : decode cX5_signOf 0 = .ok (.iload_n 0, 1) := by decide +kernel
theorem dX5_signOf_1 : decode cX5_signOf 1 = .ok (.iload_n 1, 1) := by decide +kernel
theorem dX5_signOf_2 : decode cX5_signOf 2 = .ok (.iand, 1) := by decide +kernel
theorem dX5_signOf_3 : decode cX5_signOf 3 = .ok (.invokestatic 230, 3) := by decide +kernel
theorem dX5_signOf_6 : decode cX5_signOf 6 = .ok (.iconst 1, 1) := by decide +kernel
theorem dX5_signOf_7 : decode cX5_signOf 7 = .ok (.iand, 1) := by decide +kernel
theorem dX5_signOf_8 : decode cX5_signOf 8 = .ok (.ifCond .ne 7, 3) := by decide +kernel
theorem dX5_signOf_11 : decode cX5_signOf 11 = .ok (.iconst 1, 1) := by decide +kernel
theorem dX5_signOf_12 : decode cX5_signOf 12 = .ok (.goto 4, 3) := by decide +kernel
theorem dX5_signOf_15 : decode cX5_signOf 15 = .ok (.iconst (-1), 1) := by decide +kernel
theorem dX5_signOf_16 : decode cX5_signOf 16 = .ok (.ireturn, 1) := by decide +kernel
theorem dX5_fold_0 : decode cX5_fold 0 = .ok (.ldc2_w 235, 3) := by decide +kernel
theorem dX5_fold_3 : decode cX5_fold 3 = .ok (.lload_n 0, 1) := by decide +kernel
theorem dX5_fold_4 : decode cX5_fold 4 = .ok (.lmul, 1) := by decide +kernel
theorem dX5_fold_5 : decode cX5_fold 5 = .ok (.lload_n 2, 1) := by decide +kernel
theorem dX5_fold_6 : decode cX5_fold 6 = .ok (.ladd, 1) := by decide +kernel
theorem dX5_fold_7 : decode cX5_fold 7 = .ok (.lreturn, 1) := by decide +kernel
set_option maxRecDepth 20000 in
theorem ggX5_foldIfKnown_X5_fold : GoodIn wsX5_foldIfKnown wsX5_fold := goodIn_r _ [4, 5] (by decide +kernel) (by decide +kernel)
set_option maxRecDepth 20000 in
theorem gX5_foldIfKnown_X5_fold : GoodIn wsX5_foldIfKnown (va_wsS RX5 237 yX5_fold wsX5_fold) := goodIn_app (goodIn_of _ (by decide +kernel)) ggX5_foldIfKnown_X5_fold
theorem dX5_foldIfKnown_0 : decode cX5_foldIfKnown 0 = .ok (.iload_n 2, 1) := by decide +kernel
theorem dX5_foldIfKnown_1 : decode cX5_foldIfKnown 1 = .ok (.ifCond .eq 16, 3) := by decide +kernel
theorem dX5_foldIfKnown_4 : decode cX5_foldIfKnown 4 = .ok (.lload_n 0, 1) := by decide +kernel
theorem dX5_foldIfKnown_5 : decode cX5_foldIfKnown 5 = .ok (.lconst 1, 1) := by decide +kernel
theorem dX5_foldIfKnown_6 : decode cX5_foldIfKnown 6 = .ok (.invokestatic 237, 3) := by decide +kernel
theorem dX5_foldIfKnown_9 : decode cX5_foldIfKnown 9 = .ok (.iload_n 3, 1) := by decide +kernel
theorem dX5_foldIfKnown_10 : decode cX5_foldIfKnown 10 = .ok (.i2l, 1) := by decide +kernel
theorem dX5_foldIfKnown_11 : decode cX5_foldIfKnown 11 = .ok (.invokestatic 237, 3) := by decide +kernel
theorem dX5_foldIfKnown_14 : decode cX5_foldIfKnown 14 = .ok (.goto 8, 3) := by decide +kernel
theorem dX5_foldIfKnown_17 : decode cX5_foldIfKnown 17 = .ok (.lload_n 0, 1) := by decide +kernel
theorem dX5_foldIfKnown_18 : decode cX5_foldIfKnown 18 = .ok (.lconst 0, 1) := by decide +kernel
theorem dX5_foldIfKnown_19 : decode cX5_foldIfKnown 19 = .ok (.invokestatic 237, 3) := by decide +kernel
theorem dX5_foldIfKnown_22 : decode cX5_foldIfKnown 22 = .ok (.lreturn, 1) := by decide +kernel
theorem dX5_rootUp_0 : decode cX5_rootUp 0 = .ok (.lload_n 0, 1) := by decide +kernel
theorem dX5_rootUp_1 : decode cX5_rootUp 1 = .ok (.lconst 0, 1) := by decide +kernel
theorem dX5_rootUp_2 : decode cX5_rootUp 2 = .ok (.lcmp, 1) := by decide +kernel
theorem dX5_rootUp_3 : decode cX5_rootUp 3 = .ok (.ifCond .gt 5, 3) := by decide +kernel
theorem dX5_rootUp_6 : decode cX5_rootUp 6 = .ok (.iconst 0, 1) := by decide +kernel
theorem dX5_rootUp_7 : decode cX5_rootUp 7 = .ok (.ireturn, 1) := by decide +kernel
theorem dX5_rootUp_8 : decode cX5_rootUp 8 = .ok (.lconst 0, 1) := by decide +kernel
theorem dX5_rootUp_9 : decode cX5_rootUp 9 = .ok (.lstore_n 2, 1) := by decide +kernel
theorem dX5_rootUp_10 : decode cX5_rootUp 10 = .ok (.bipush 16, 2) := by decide +kernel
theorem dX5_rootUp_12 : decode cX5_rootUp 12 = .ok (.istore 4, 2) := by decide +kernel
theorem dX5_rootUp_14 : decode cX5_rootUp 14 = .ok (.iload 4, 2) := by decide +kernel
theorem dX5_rootUp_16 : decode cX5_rootUp 16 = .ok (.ifCond .lt 30, 3) := by decide +kernel
theorem dX5_rootUp_19 : decode cX5_rootUp 19 = .ok (.lload_n 2, 1) := by decide +kernel
theorem dX5_rootUp_20 : decode cX5_rootUp 20 = .ok (.lconst 1, 1) := by decide +kernel
theorem dX5_rootUp_21 : decode cX5_rootUp 21 = .ok (.iload 4, 2) := by decide +kernel
theorem dX5_rootUp_23 : decode cX5_rootUp 23 = .ok (.lshl, 1) := by decide +kernel
theorem dX5_rootUp_24 : decode cX5_rootUp 24 = .ok (.ladd, 1) := by decide +kernel
theorem dX5_rootUp_25 : decode cX5_rootUp 25 = .ok (.lstore 5, 2) := by decide +kernel
theorem dX5_rootUp_27 : decode cX5_rootUp 27 = .ok (.lload 5, 2) := by decide +kernel
theorem dX5_rootUp_29 : decode cX5_rootUp 29 = .ok (.lload 5, 2) := by decide +kernel
theorem dX5_rootUp_31 : decode cX5_rootUp 31 = .ok (.lmul, 1) := by decide +kernel
theorem dX5_rootUp_32 : decode cX5_rootUp 32 = .ok (.lload_n 0, 1) := by decide +kernel
theorem dX5_rootUp_33 : decode cX5_rootUp 33 = .ok (.lcmp, 1) := by decide +kernel
theorem dX5_rootUp_34 : decode cX5_rootUp 34 = .ok (.ifCond .ge 6, 3) := by decide +kernel
theorem dX5_rootUp_37 : decode cX5_rootUp 37 = .ok (.lload 5, 2) := by decide +kernel
theorem dX5_rootUp_39 : decode cX5_rootUp 39 = .ok (.lstore_n 2, 1) := by decide +kernel
theorem dX5_rootUp_40 : decode cX5_rootUp 40 = .ok (.iinc 4 (-1), 3) := by decide +kernel
theorem dX5_rootUp_43 : decode cX5_rootUp 43 = .ok (.goto (-29), 3) := by decide +kernel
theorem dX5_rootUp_46 : decode cX5_rootUp 46 = .ok (.lload_n 2, 1) := by decide +kernel
theorem dX5_rootUp_47 : decode cX5_rootUp 47 = .ok (.lconst 1, 1) := by decide +kernel
theorem dX5_rootUp_48 : decode cX5_rootUp 48 = .ok (.ladd, 1) := by decide +kernel
theorem dX5_rootUp_49 : decode cX5_rootUp 49 = .ok (.l2i, 1) := by decide +kernel
theorem dX5_rootUp_50 : decode cX5_rootUp 50 = .ok (.ireturn, 1) := by decide +kernel
theorem dJ6_bitCount_0f7a4_0 : decode cJ6_bitCount_0f7a4 0 = .ok (.iload_n 0, 1) := by decide +kernel
theorem dJ6_bitCount_0f7a4_1 : decode cJ6_bitCount_0f7a4 1 = .ok (.iload_n 0, 1) := by decide +kernel
theorem dJ6_bitCount_0f7a4_2 : decode cJ6_bitCount_0f7a4 2 = .ok (.iconst 1, 1) := by decide +kernel
theorem dJ6_bitCount_0f7a4_3 : decode cJ6_bitCount_0f7a4 3 = .ok (.iushr, 1) := by decide +kernel
theorem dJ6_bitCount_0f7a4_4 : decode cJ6_bitCount_0f7a4 4 = .ok (.ldc_w 265, 3) := by decide +kernel
theorem dJ6_bitCount_0f7a4_7 : decode cJ6_bitCount_0f7a4 7 = .ok (.iand, 1) := by decide +kernel
theorem dJ6_bitCount_0f7a4_8 : decode cJ6_bitCount_0f7a4 8 = .ok (.isub, 1) := by decide +kernel
theorem dJ6_bitCount_0f7a4_9 : decode cJ6_bitCount_0f7a4 9 = .ok (.istore_n 0, 1) := by decide +kernel
theorem dJ6_bitCount_0f7a4_10 : decode cJ6_bitCount_0f7a4 10 = .ok (.iload_n 0, 1) := by decide +kernel
theorem dJ6_bitCount_0f7a4_11 : decode cJ6_bitCount_0f7a4 11 = .ok (.ldc_w 266, 3) := by decide +kernel
theorem dJ6_bitCount_0f7a4_14 : decode cJ6_bitCount_0f7a4 14 = .ok (.iand, 1) := by decide +kernel
theorem dJ6_bitCount_0f7a4_15 : decode cJ6_bitCount_0f7a4 15 = .ok (.iload_n 0, 1) := by decide +kernel
theorem dJ6_bitCount_0f7a4_16 : decode cJ6_bitCount_0f7a4 16 = .ok (.iconst 2, 1) := by decide +kernel
theorem dJ6_bitCount_0f7a4_17 : decode cJ6_bitCount_0f7a4 17 = .ok (.iushr, 1) := by decide +kernel
theorem dJ6_bitCount_0f7a4_18 : decode cJ6_bitCount_0f7a4 18 = .ok (.ldc_w 266, 3) := by decide +kernel
theorem dJ6_bitCount_0f7a4_21 : decode cJ6_bitCount_0f7a4 21 = .ok (.iand, 1) := by decide +kernel
theorem dJ6_bitCount_0f7a4_22 : decode cJ6_bitCount_0f7a4 22 = .ok (.iadd, 1) := by decide +kernel
theorem dJ6_bitCount_0f7a4_23 : decode cJ6_bitCount_0f7a4 23 = .ok (.istore_n 0, 1) := by decide +kernel
theorem dJ6_bitCount_0f7a4_24 : decode cJ6_bitCount_0f7a4 24 = .ok (.iload_n 0, 1) := by decide +kernel
theorem dJ6_bitCount_0f7a4_25 : decode cJ6_bitCount_0f7a4 25 = .ok (.iload_n 0, 1) := by decide +kernel
theorem dJ6_bitCount_0f7a4_26 : decode cJ6_bitCount_0f7a4 26 = .ok (.iconst 4, 1) := by decide +kernel
theorem dJ6_bitCount_0f7a4_27 : decode cJ6_bitCount_0f7a4 27 = .ok (.iushr, 1) := by decide +kernel
theorem dJ6_bitCount_0f7a4_28 : decode cJ6_bitCount_0f7a4 28 = .ok (.iadd, 1) := by decide +kernel
theorem dJ6_bitCount_0f7a4_29 : decode cJ6_bitCount_0f7a4 29 = .ok (.ldc_w 267, 3) := by decide +kernel
theorem dJ6_bitCount_0f7a4_32 : decode cJ6_bitCount_0f7a4 32 = .ok (.iand, 1) := by decide +kernel
theorem dJ6_bitCount_0f7a4_33 : decode cJ6_bitCount_0f7a4 33 = .ok (.istore_n 0, 1) := by decide +kernel
theorem dJ6_bitCount_0f7a4_34 : decode cJ6_bitCount_0f7a4 34 = .ok (.iload_n 0, 1) := by decide +kernel
theorem dJ6_bitCount_0f7a4_35 : decode cJ6_bitCount_0f7a4 35 = .ok (.iload_n 0, 1) := by decide +kernel
theorem dJ6_bitCount_0f7a4_36 : decode cJ6_bitCount_0f7a4 36 = .ok (.bipush 8, 2) := by decide +kernel
theorem dJ6_bitCount_0f7a4_38 : decode cJ6_bitCount_0f7a4 38 = .ok (.iushr, 1) := by decide +kernel
theorem dJ6_bitCount_0f7a4_39 : decode cJ6_bitCount_0f7a4 39 = .ok (.iadd, 1) := by decide +kernel
theorem dJ6_bitCount_0f7a4_40 : decode cJ6_bitCount_0f7a4 40 = .ok (.istore_n 0, 1) := by decide +kernel
theorem dJ6_bitCount_0f7a4_41 : decode cJ6_bitCount_0f7a4 41 = .ok (.iload_n 0, 1) := by decide +kernel
theorem dJ6_bitCount_0f7a4_42 : decode cJ6_bitCount_0f7a4 42 = .ok (.iload_n 0, 1) := by decide +kernel
theorem dJ6_bitCount_0f7a4_43 : decode cJ6_bitCount_0f7a4 43 = .ok (.bipush 16, 2) := by decide +kernel
theorem dJ6_bitCount_0f7a4_45 : decode cJ6_bitCount_0f7a4 45 = .ok (.iushr, 1) := by decide +kernel
theorem dJ6_bitCount_0f7a4_46 : decode cJ6_bitCount_0f7a4 46 = .ok (.iadd, 1) := by decide +kernel
theorem dJ6_bitCount_0f7a4_47 : decode cJ6_bitCount_0f7a4 47 = .ok (.istore_n 0, 1) := by decide +kernel
theorem dJ6_bitCount_0f7a4_48 : decode cJ6_bitCount_0f7a4 48 = .ok (.iload_n 0, 1) := by decide +kernel
theorem dJ6_bitCount_0f7a4_49 : decode cJ6_bitCount_0f7a4 49 = .ok (.bipush 63, 2) := by decide +kernel
theorem dJ6_bitCount_0f7a4_51 : decode cJ6_bitCount_0f7a4 51 = .ok (.iand, 1) := by decide +kernel
theorem dJ6_bitCount_0f7a4_52 : decode cJ6_bitCount_0f7a4 52 = .ok (.ireturn, 1) := by decide +kernel
theorem dJ9_floorDiv_7cf53_0 : decode cJ9_floorDiv_7cf53 0 = .ok (.iload_n 0, 1) := by decide +kernel
theorem dJ9_floorDiv_7cf53_1 : decode cJ9_floorDiv_7cf53 1 = .ok (.iload_n 1, 1) := by decide +kernel
theorem dJ9_floorDiv_7cf53_2 : decode cJ9_floorDiv_7cf53 2 = .ok (.idiv, 1) := by decide +kernel
theorem dJ9_floorDiv_7cf53_3 : decode cJ9_floorDiv_7cf53 3 = .ok (.istore_n 2, 1) := by decide +kernel
theorem dJ9_floorDiv_7cf53_4 : decode cJ9_floorDiv_7cf53 4 = .ok (.iload_n 0, 1) := by decide +kernel
theorem dJ9_floorDiv_7cf53_5 : decode cJ9_floorDiv_7cf53 5 = .ok (.iload_n 1, 1) := by decide +kernel
theorem dJ9_floorDiv_7cf53_6 : decode cJ9_floorDiv_7cf53 6 = .ok (.ixor, 1) := by decide +kernel
theorem dJ9_floorDiv_7cf53_7 : decode cJ9_floorDiv_7cf53 7 = .ok (.ifCond .ge 14, 3) := by decide +kernel
theorem dJ9_floorDiv_7cf53_10 : decode cJ9_floorDiv_7cf53 10 = .ok (.iload_n 2, 1) := by decide +kernel
theorem dJ9_floorDiv_7cf53_11 : decode cJ9_floorDiv_7cf53 11 = .ok (.iload_n 1, 1) := by decide +kernel
theorem dJ9_floorDiv_7cf53_12 : decode cJ9_floorDiv_7cf53 12 = .ok (.imul, 1) := by decide +kernel
theorem dJ9_floorDiv_7cf53_13 : decode cJ9_floorDiv_7cf53 13 = .ok (.iload_n 0, 1) := by decide +kernel
theorem dJ9_floorDiv_7cf53_14 : decode cJ9_floorDiv_7cf53 14 = .ok (.if_icmp .eq 7, 3) := by decide +kernel
theorem dJ9_floorDiv_7cf53_17 : decode cJ9_floorDiv_7cf53 17 = .ok (.iload_n 2, 1) := by decide +kernel
theorem dJ9_floorDiv_7cf53_18 : decode cJ9_floorDiv_7cf53 18 = .ok (.iconst 1, 1) := by decide +kernel
theorem dJ9_floorDiv_7cf53_19 : decode cJ9_floorDiv_7cf53 19 = .ok (.isub, 1) := by decide +kernel
theorem dJ9_floorDiv_7cf53_20 : decode cJ9_floorDiv_7cf53 20 = .ok (.ireturn, 1) := by decide +kernel
theorem dJ9_floorDiv_7cf53_21 : decode cJ9_floorDiv_7cf53 21 = .ok (.iload_n 2, 1) := by decide +kernel
theorem dJ9_floorDiv_7cf53_22 : decode cJ9_floorDiv_7cf53 22 = .ok (.ireturn, 1) := by decide +kernel
theorem dJ9_abs_0f7a4_0 : decode cJ9_abs_0f7a4 0 = .ok (.iload_n 0, 1) := by decide +kernel
theorem dJ9_abs_0f7a4_1 : decode cJ9_abs_0f7a4 1 = .ok (.ifCond .ge 8, 3) := by decide +kernel
theorem dJ9_abs_0f7a4_4 : decode cJ9_abs_0f7a4 4 = .ok (.iload_n 0, 1) := by decide +kernel
theorem dJ9_abs_0f7a4_5 : decode cJ9_abs_0f7a4 5 = .ok (.ineg, 1) := by decide +kernel
theorem dJ9_abs_0f7a4_6 : decode cJ9_abs_0f7a4 6 = .ok (.goto 4, 3) := by decide +kernel
theorem dJ9_abs_0f7a4_9 : decode cJ9_abs_0f7a4 9 = .ok (.iload_n 0, 1) := by decide +kernel
theorem dJ9_abs_0f7a4_10 : decode cJ9_abs_0f7a4 10 = .ok (.ireturn, 1) := by decide +kernel
theorem dJ9_abs_067f4_0 : decode cJ9_abs_067f4 0 = .ok (.lload_n 0, 1) := by decide +kernel
theorem dJ9_abs_067f4_1 : decode cJ9_abs_067f4 1 = .ok (.lconst 0, 1) := by decide +kernel
theorem dJ9_abs_067f4_2 : decode cJ9_abs_067f4 2 = .ok (.lcmp, 1) := by decide +kernel
theorem dJ9_abs_067f4_3 : decode cJ9_abs_067f4 3 = .ok (.ifCond .ge 8, 3) := by decide +kernel
theorem dJ9_abs_067f4_6 : decode cJ9_abs_067f4 6 = .ok (.lload_n 0, 1) := by decide +kernel
theorem dJ9_abs_067f4_7 : decode cJ9_abs_067f4 7 = .ok (.lneg, 1) := by decide +kernel
theorem dJ9_abs_067f4_8 : decode cJ9_abs_067f4 8 = .ok (.goto 4, 3) := by decide +kernel
theorem dJ9_abs_067f4_11 : decode cJ9_abs_067f4 11 = .ok (.lload_n 0, 1) := by decide +kernel
theorem dJ9_abs_067f4_12 : decode cJ9_abs_067f4 12 = .ok (.lreturn, 1) := by decide +kernel
theorem dJ9_max_7cf53_0 : decode cJ9_max_7cf53 0 = .ok (.iload_n 0, 1) := by decide +kernel
theorem dJ9_max_7cf53_1 : decode cJ9_max_7cf53 1 = .ok (.iload_n 1, 1) := by decide +kernel
theorem dJ9_max_7cf53_2 : decode cJ9_max_7cf53 2 = .ok (.if_icmp .lt 7, 3) := by decide +kernel
theorem dJ9_max_7cf53_5 : decode cJ9_max_7cf53 5 = .ok (.iload_n 0, 1) := by decide +kernel
theorem dJ9_max_7cf53_6 : decode cJ9_max_7cf53 6 = .ok (.goto 4, 3) := by decide +kernel
theorem dJ9_max_7cf53_9 : decode cJ9_max_7cf53 9 = .ok (.iload_n 1, 1) := by decide +kernel
theorem dJ9_max_7cf53_10 : decode cJ9_max_7cf53 10 = .ok (.ireturn, 1) := by decide +kernel
theorem dJ9_min_7cf53_0 : decode cJ9_min_7cf53 0 = .ok (.iload_n 0, 1) := by decide +kernel
theorem dJ9_min_7cf53_1 : decode cJ9_min_7cf53 1 = .ok (.iload_n 1, 1) := by decide +kernel
theorem dJ9_min_7cf53_2 : decode cJ9_min_7cf53 2 = .ok (.if_icmp .gt 7, 3) := by decide +kernel
theorem dJ9_min_7cf53_5 : decode cJ9_min_7cf53 5 = .ok (.iload_n 0, 1) := by decide +kernel
theorem dJ9_min_7cf53_6 : decode cJ9_min_7cf53 6 = .ok (.goto 4, 3) := by decide +kernel
theorem dJ9_min_7cf53_9 : decode cJ9_min_7cf53 9 = .ok (.iload_n 1, 1) := by decide +kernel
theorem dJ9_min_7cf53_10 : decode cJ9_min_7cf53 10 = .ok (.ireturn, 1) := by decide +kernel
end
section
set_option maxRecDepth 20000 in
theorem ggX6_init_X6_begin : GoodIn wsX6_init wsX6_begin := goodIn_r _ [28, 29, 5, 6, 7, 9, 10, 11, 12, 30, 31, 32, 33, 34, 35, 36, 37, 38, 39, 40, 41, 42, 43, 44, 45, 46, 47, 48, 49, 50, 51, 52, 53, 54, 55] (by decide +kernel) (by decide +kernel)
set_option maxRecDepth 20000 in
theorem gX6_init_X6_begin : GoodIn wsX6_init (wsV RX6 54 RX6 yX6_begin wsX6_begin) := goodIn_app (goodIn_of _ (by decide +kernel)) ggX6_init_X6_begin
theorem dX6_init_0 : decode cX6_init 0 = .ok (.aload_n 0, 1) := by decide +kernel
theorem dX6_init_1 : decode cX6_init 1 = .ok (.invokespecial 1, 3) := by decide +kernel
theorem dX6_init_4 : decode cX6_init 4 = .ok (.aload_n 0, 1) := by decide +kernel
theorem dX6_init_5 : decode cX6_init 5 = .ok (.bipush 32, 2) := by decide +kernel
theorem dX6_init_7 : decode cX6_init 7 = .ok (.newarray .int, 2) := by decide +kernel
theorem dX6_init_9 : decode cX6_init 9 = .ok (.putfield 7, 3) := by decide +kernel
theorem dX6_init_12 : decode cX6_init 12 = .ok (.aload_n 0, 1) := by decide +kernel
theorem dX6_init_13 : decode cX6_init 13 = .ok (.bipush 32, 2) := by decide +kernel
theorem dX6_init_15 : decode cX6_init 15 = .ok (.newarray .int, 2) := by decide +kernel
theorem dX6_init_17 : decode cX6_init 17 = .ok (.putfield 13, 3) := by decide +kernel
theorem dX6_init_20 : decode cX6_init 20 = .ok (.aload_n 0, 1) := by decide +kernel
theorem dX6_init_21 : decode cX6_init 21 = .ok (.bipush 32, 2) := by decide +kernel
theorem dX6_init_23 : decode cX6_init 23 = .ok (.newarray .int, 2) := by decide +kernel
theorem dX6_init_25 : decode cX6_init 25 = .ok (.putfield 16, 3) := by decide +kernel
theorem dX6_init_28 : decode cX6_init 28 = .ok (.aload_n 0, 1) := by decide +kernel
theorem dX6_init_29 : decode cX6_init 29 = .ok (.bipush 32, 2) := by decide +kernel
theorem dX6_init_31 : decode cX6_init 31 = .ok (.newarray .boolean, 2) := by decide +kernel
theorem dX6_init_33 : decode cX6_init 33 = .ok (.putfield 19, 3) := by decide +kernel
theorem dX6_init_36 : decode cX6_init 36 = .ok (.aload_n 0, 1) := by decide +kernel
theorem dX6_init_37 : decode cX6_init 37 = .ok (.bipush 32, 2) := by decide +kernel
theorem dX6_init_39 : decode cX6_init 39 = .ok (.newarray .boolean, 2) := by decide +kernel
theorem dX6_init_41 : decode cX6_init 41 = .ok (.putfield 23, 3) := by decide +kernel
theorem dX6_init_44 : decode cX6_init 44 = .ok (.aload_n 0, 1) := by decide +kernel
theorem dX6_init_45 : decode cX6_init 45 = .ok (.bipush 32, 2) := by decide +kernel
theorem dX6_init_47 : decode cX6_init 47 = .ok (.newarray .int, 2) := by decide +kernel
theorem dX6_init_49 : decode cX6_init 49 = .ok (.putfield 26, 3) := by decide +kernel
theorem dX6_init_52 : decode cX6_init 52 = .ok (.aload_n 0, 1) := by decide +kernel
theorem dX6_init_53 : decode cX6_init 53 = .ok (.bipush 32, 2) := by decide +kernel
theorem dX6_init_55 : decode cX6_init 55 = .ok (.newarray .int, 2) := by decide +kernel
theorem dX6_init_57 : decode cX6_init 57 = .ok (.putfield 29, 3) := by decide +kernel
theorem dX6_init_60 : decode cX6_init 60 = .ok (.aload_n 0, 1) := by decide +kernel
theorem dX6_init_61 : decode cX6_init 61 = .ok (.sipush 192, 3) := by decide +kernel
theorem dX6_init_64 : decode cX6_init 64 = .ok (.newarray .long, 2) := by decide +kernel
theorem dX6_init_66 : decode cX6_init 66 = .ok (.putfield 32, 3) := by decide +kernel
theorem dX6_init_69 : decode cX6_init 69 = .ok (.aload_n 0, 1) := by decide +kernel
theorem dX6_init_70 : decode cX6_init 70 = .ok (.iconst 5, 1) := by decide +kernel
theorem dX6_init_71 : decode cX6_init 71 = .ok (.newarray .int, 2) := by decide +kernel
theorem dX6_init_73 : decode cX6_init 73 = .ok (.putfield 36, 3) := by decide +kernel
theorem dX6_init_76 : decode cX6_init 76 = .ok (.aload_n 0, 1) := by decide +kernel
theorem dX6_init_77 : decode cX6_init 77 = .ok (.iconst 5, 1) := by decide +kernel
theorem dX6_init_78 : decode cX6_init 78 = .ok (.newarray .int, 2) := by decide +kernel
theorem dX6_init_80 : decode cX6_init 80 = .ok (.putfield 39, 3) := by decide +kernel
theorem dX6_init_83 : decode cX6_init 83 = .ok (.aload_n 0, 1) := by decide +kernel
theorem dX6_init_84 : decode cX6_init 84 = .ok (.bipush 81, 2) := by decide +kernel
theorem dX6_init_86 : decode cX6_init 86 = .ok (.newarray .int, 2) := by decide +kernel
theorem dX6_init_88 : decode cX6_init 88 = .ok (.putfield 42, 3) := by decide +kernel
theorem dX6_init_91 : decode cX6_init 91 = .ok (.aload_n 0, 1) := by decide +kernel
theorem dX6_init_92 : decode cX6_init 92 = .ok (.bipush 25, 2) := by decide +kernel
theorem dX6_init_94 : decode cX6_init 94 = .ok (.newarray .boolean, 2) := by decide +kernel
theorem dX6_init_96 : decode cX6_init 96 = .ok (.putfield 45, 3) := by decide +kernel
theorem dX6_init_99 : decode cX6_init 99 = .ok (.aload_n 0, 1) := by decide +kernel
theorem dX6_init_100 : decode cX6_init 100 = .ok (.bipush 25, 2) := by decide +kernel
theorem dX6_init_102 : decode cX6_init 102 = .ok (.newarray .int, 2) := by decide +kernel
theorem dX6_init_104 : decode cX6_init 104 = .ok (.putfield 48, 3) := by decide +kernel
theorem dX6_init_107 : decode cX6_init 107 = .ok (.aload_n 0, 1) := by decide +kernel
theorem dX6_init_108 : decode cX6_init 108 = .ok (.bipush 18, 2) := by decide +kernel
theorem dX6_init_110 : decode cX6_init 110 = .ok (.newarray .int, 2) := by decide +kernel
theorem dX6_init_112 : decode cX6_init 112 = .ok (.putfield 51, 3) := by decide +kernel
theorem dX6_init_115 : decode cX6_init 115 = .ok (.aload_n 0, 1) := by decide +kernel
theorem dX6_init_116 : decode cX6_init 116 = .ok (.iconst 2, 1) := by decide +kernel
theorem dX6_init_117 : decode cX6_init 117 = .ok (.invokevirtual 54, 3) := by decide +kernel
theorem dX6_init_120 : decode cX6_init 120 = .ok (.aload_n 0, 1) := by decide +kernel
theorem dX6_init_121 : decode cX6_init 121 = .ok (.iconst 2, 1) := by decide +kernel
theorem dX6_init_122 : decode cX6_init 122 = .ok (.putfield 58, 3) := by decide +kernel
theorem dX6_init_125 : decode cX6_init 125 = .ok (.aload_n 0, 1) := by decide +kernel
theorem dX6_init_126 : decode cX6_init 126 = .ok (.iconst 1, 1) := by decide +kernel
theorem dX6_init_127 : decode cX6_init 127 = .ok (.putfield 62, 3) := by decide +kernel
theorem dX6_init_130 : decode cX6_init 130 = .ok (.aload_n 0, 1) := by decide +kernel
theorem dX6_init_131 : decode cX6_init 131 = .ok (.iconst 3, 1) := by decide +kernel
theorem dX6_init_132 : decode cX6_init 132 = .ok (.putfield 65, 3) := by decide +kernel
theorem dX6_init_135 : decode cX6_init 135 = .ok (.return_, 1) := by decide +kernel
theorem dX6_in_0 : decode cX6_in 0 = .ok (.lload_n 0, 1) := by decide +kernel
theorem dX6_in_1 : decode cX6_in 1 = .ok (.lload_n 2, 1) := by decide +kernel
theorem dX6_in_2 : decode cX6_in 2 = .ok (.lcmp, 1) := by decide +kernel
theorem dX6_in_3 : decode cX6_in 3 = .ok (.ifCond .lt 14, 3) := by decide +kernel
theorem dX6_in_6 : decode cX6_in 6 = .ok (.lload_n 0, 1) := by decide +kernel
theorem dX6_in_7 : decode cX6_in 7 = .ok (.lload 4, 2) := by decide +kernel
theorem dX6_in_9 : decode cX6_in 9 = .ok (.lcmp, 1) := by decide +kernel
theorem dX6_in_10 : decode cX6_in 10 = .ok (.ifCond .gt 7, 3) := by decide +kernel
theorem dX6_in_13 : decode cX6_in 13 = .ok (.iconst 1, 1) := by decide +kernel
theorem dX6_in_14 : decode cX6_in 14 = .ok (.goto 4, 3) := by decide +kernel
theorem dX6_in_17 : decode cX6_in 17 = .ok (.iconst 0, 1) := by decide +kernel
theorem dX6_in_18 : decode cX6_in 18 = .ok (.ireturn, 1) := by decide +kernel
theorem dX6_floor_0 : decode cX6_floor 0 = .ok (.iload_n 0, 1) := by decide +kernel
theorem dX6_floor_1 : decode cX6_floor 1 = .ok (.iload_n 1, 1) := by decide +kernel
theorem dX6_floor_2 : decode cX6_floor 2 = .ok (.idiv, 1) := by decide +kernel
theorem dX6_floor_3 : decode cX6_floor 3 = .ok (.istore_n 2, 1) := by decide +kernel
theorem dX6_floor_4 : decode cX6_floor 4 = .ok (.iload_n 0, 1) := by decide +kernel
theorem dX6_floor_5 : decode cX6_floor 5 = .ok (.ifCond .ge 15, 3) := by decide +kernel
theorem dX6_floor_8 : decode cX6_floor 8 = .ok (.iload_n 0, 1) := by decide +kernel
theorem dX6_floor_9 : decode cX6_floor 9 = .ok (.iload_n 1, 1) := by decide +kernel
theorem dX6_floor_10 : decode cX6_floor 10 = .ok (.irem, 1) := by decide +kernel
theorem dX6_floor_11 : decode cX6_floor 11 = .ok (.ifCond .eq 9, 3) := by decide +kernel
theorem dX6_floor_14 : decode cX6_floor 14 = .ok (.iload_n 2, 1) := by decide +kernel
theorem dX6_floor_15 : decode cX6_floor 15 = .ok (.iconst 1, 1) := by decide +kernel
theorem dX6_floor_16 : decode cX6_floor 16 = .ok (.isub, 1) := by decide +kernel
theorem dX6_floor_17 : decode cX6_floor 17 = .ok (.goto 4, 3) := by decide +kernel
theorem dX6_floor_20 : decode cX6_floor 20 = .ok (.iload_n 2, 1) := by decide +kernel
theorem dX6_floor_21 : decode cX6_floor 21 = .ok (.ireturn, 1) := by decide +kernel
theorem dX6_begin_0 : decode cX6_begin 0 = .ok (.aload_n 0, 1) := by decide +kernel
theorem dX6_begin_1 : decode cX6_begin 1 = .ok (.iload_n 1, 1) := by decide +kernel
theorem dX6_begin_2 : decode cX6_begin 2 = .ok (.putfield 68, 3) := by decide +kernel
theorem dX6_begin_5 : decode cX6_begin 5 = .ok (.iconst 0, 1) := by decide +kernel
theorem dX6_begin_6 : decode cX6_begin 6 = .ok (.istore_n 2, 1) := by decide +kernel
theorem dX6_begin_7 : decode cX6_begin 7 = .ok (.iload_n 2, 1) := by decide +kernel
theorem dX6_begin_8 : decode cX6_begin 8 = .ok (.bipush 32, 2) := by decide +kernel
theorem dX6_begin_10 : decode cX6_begin 10 = .ok (.if_icmp .ge 59, 3) := by decide +kernel
theorem dX6_begin_13 : decode cX6_begin 13 = .ok (.aload_n 0, 1) := by decide +kernel
theorem dX6_begin_14 : decode cX6_begin 14 = .ok (.getfield 7, 3) := by decide +kernel
theorem dX6_begin_17 : decode cX6_begin 17 = .ok (.iload_n 2, 1) := by decide +kernel
theorem dX6_begin_18 : decode cX6_begin 18 = .ok (.iconst 0, 1) := by decide +kernel
theorem dX6_begin_19 : decode cX6_begin 19 = .ok (.iastore, 1) := by decide +kernel
theorem dX6_begin_20 : decode cX6_begin 20 = .ok (.aload_n 0, 1) := by decide +kernel
theorem dX6_begin_21 : decode cX6_begin 21 = .ok (.getfield 13, 3) := by decide +kernel
theorem dX6_begin_24 : decode cX6_begin 24 = .ok (.iload_n 2, 1) := by decide +kernel
theorem dX6_begin_25 : decode cX6_begin 25 = .ok (.iconst 0, 1) := by decide +kernel
theorem dX6_begin_26 : decode cX6_begin 26 = .ok (.iastore, 1) := by decide +kernel
theorem dX6_begin_27 : decode cX6_begin 27 = .ok (.aload_n 0, 1) := by decide +kernel
theorem dX6_begin_28 : decode cX6_begin 28 = .ok (.getfield 16, 3) := by decide +kernel
theorem dX6_begin_31 : decode cX6_begin 31 = .ok (.iload_n 2, 1) := by decide +kernel
theorem dX6_begin_32 : decode cX6_begin 32 = .ok (.iconst 1, 1) := by decide +kernel
theorem dX6_begin_33 : decode cX6_begin 33 = .ok (.iastore, 1) := by decide +kernel
theorem dX6_begin_34 : decode cX6_begin 34 = .ok (.aload_n 0, 1) := by decide +kernel
theorem dX6_begin_35 : decode cX6_begin 35 = .ok (.getfield 19, 3) := by decide +kernel
theorem dX6_begin_38 : decode cX6_begin 38 = .ok (.iload_n 2, 1) := by decide +kernel
theorem dX6_begin_39 : decode cX6_begin 39 = .ok (.iconst 0, 1) := by decide +kernel
theorem dX6_begin_40 : decode cX6_begin 40 = .ok (.bastore, 1) := by decide +kernel
theorem dX6_begin_41 : decode cX6_begin 41 = .ok (.aload_n 0, 1) := by decide +kernel
theorem dX6_begin_42 : decode cX6_begin 42 = .ok (.getfield 23, 3) := by decide +kernel
theorem dX6_begin_45 : decode cX6_begin 45 = .ok (.iload_n 2, 1) := by decide +kernel
theorem dX6_begin_46 : decode cX6_begin 46 = .ok (.iconst 0, 1) := by decide +kernel
theorem dX6_begin_47 : decode cX6_begin 47 = .ok (.bastore, 1) := by decide +kernel
theorem dX6_begin_48 : decode cX6_begin 48 = .ok (.aload_n 0, 1) := by decide +kernel
theorem dX6_begin_49 : decode cX6_begin 49 = .ok (.getfield 26, 3) := by decide +kernel
theorem dX6_begin_52 : decode cX6_begin 52 = .ok (.iload_n 2, 1) := by decide +kernel
theorem dX6_begin_53 : decode cX6_begin 53 = .ok (.iconst 0, 1) := by decide +kernel
theorem dX6_begin_54 : decode cX6_begin 54 = .ok (.iastore, 1) := by decide +kernel
theorem dX6_begin_55 : decode cX6_begin 55 = .ok (.aload_n 0, 1) := by decide +kernel
theorem dX6_begin_56 : decode cX6_begin 56 = .ok (.getfield 29, 3) := by decide +kernel
theorem dX6_begin_59 : decode cX6_begin 59 = .ok (.iload_n 2, 1) := by decide +kernel
theorem dX6_begin_60 : decode cX6_begin 60 = .ok (.ldc 71, 2) := by decide +kernel
theorem dX6_begin_62 : decode cX6_begin 62 = .ok (.iastore, 1) := by decide +kernel
theorem dX6_begin_63 : decode cX6_begin 63 = .ok (.iinc 2 1, 3) := by decide +kernel
theorem dX6_begin_66 : decode cX6_begin 66 = .ok (.goto (-59), 3) := by decide +kernel
theorem dX6_begin_69 : decode cX6_begin 69 = .ok (.return_, 1) := by decide +kernel
set_option maxRecDepth 20000 in
theorem ggX6_net_X6_in : GoodIn wsX6_net wsX6_in := goodIn_r _ [6] (by decide +kernel) (by decide +kernel)
set_option maxRecDepth 20000 in
theorem gX6_net_X6_in : GoodIn wsX6_net (va_wsS RX6 74 yX6_in wsX6_in) := goodIn_app (goodIn_of _ (by decide +kernel)) ggX6_net_X6_in
set_option maxRecDepth 20000 in
theorem ggX6_net_X6_begin : GoodIn wsX6_net wsX6_begin := goodIn_r _ [10, 2, 11, 12, 13, 14, 15, 16, 17, 18, 19, 20, 21, 22, 23, 24, 25, 26, 27, 28, 29, 30, 31, 32, 33, 34, 35, 36, 37, 38, 39, 40, 41, 42, 43] (by decide +kernel) (by decide +kernel)
set_option maxRecDepth 20000 in
theorem gX6_net_X6_begin : GoodIn wsX6_net (wsV RX6 54 RX6 yX6_begin wsX6_begin) := goodIn_app (goodIn_of _ (by decide +kernel)) ggX6_net_X6_begin
theorem dX6_net_0 : decode cX6_net 0 = .ok (.iload_n 1, 1) := by decide +kernel
theorem dX6_net_1 : decode cX6_net 1 = .ok (.i2l, 1) := by decide +kernel
theorem dX6_net_2 : decode cX6_net 2 = .ok (.lconst 1, 1) := by decide +kernel
theorem dX6_net_3 : decode cX6_net 3 = .ok (.ldc2_w 72, 3) := by decide +kernel
theorem dX6_net_6 : decode cX6_net 6 = .ok (.invokestatic 74, 3) := by decide +kernel
theorem dX6_net_9 : decode cX6_net 9 = .ok (.ifCond .ne 6, 3) := by decide +kernel
theorem dX6_net_12 : decode cX6_net 12 = .ok (.bipush (-102), 2) := by decide +kernel
theorem dX6_net_14 : decode cX6_net 14 = .ok (.ireturn, 1) := by decide +kernel
theorem dX6_net_15 : decode cX6_net 15 = .ok (.aload_n 0, 1) := by decide +kernel
theorem dX6_net_16 : decode cX6_net 16 = .ok (.iconst 1, 1) := by decide +kernel
theorem dX6_net_17 : decode cX6_net 17 = .ok (.iload_n 1, 1) := by decide +kernel
theorem dX6_net_18 : decode cX6_net 18 = .ok (.ishl, 1) := by decide +kernel
theorem dX6_net_19 : decode cX6_net 19 = .ok (.invokevirtual 54, 3) := by decide +kernel
theorem dX6_net_22 : decode cX6_net 22 = .ok (.aload_n 0, 1) := by decide +kernel
theorem dX6_net_23 : decode cX6_net 23 = .ok (.getfield 68, 3) := by decide +kernel
theorem dX6_net_26 : decode cX6_net 26 = .ok (.ireturn, 1) := by decide +kernel
set_option maxRecDepth 20000 in
theorem ggX6_isPlace_X6_in : GoodIn wsX6_isPlace wsX6_in := goodIn_r _ [5] (by decide +kernel) (by decide +kernel)
set_option maxRecDepth 20000 in
theorem gX6_isPlace_X6_in : GoodIn wsX6_isPlace (va_wsS RX6 74 yX6_in wsX6_in) := goodIn_app (goodIn_of _ (by decide +kernel)) ggX6_isPlace_X6_in
theorem dX6_isPlace_0 : decode cX6_isPlace 0 = .ok (.iload_n 1, 1) := by decide +kernel
theorem dX6_isPlace_1 : decode cX6_isPlace 1 = .ok (.i2l, 1) := by decide +kernel
theorem dX6_isPlace_2 : decode cX6_isPlace 2 = .ok (.lconst 0, 1) := by decide +kernel
theorem dX6_isPlace_3 : decode cX6_isPlace 3 = .ok (.aload_n 0, 1) := by decide +kernel
theorem dX6_isPlace_4 : decode cX6_isPlace 4 = .ok (.getfield 68, 3) := by decide +kernel
theorem dX6_isPlace_7 : decode cX6_isPlace 7 = .ok (.iconst 1, 1) := by decide +kernel
theorem dX6_isPlace_8 : decode cX6_isPlace 8 = .ok (.isub, 1) := by decide +kernel
theorem dX6_isPlace_9 : decode cX6_isPlace 9 = .ok (.i2l, 1) := by decide +kernel
theorem dX6_isPlace_10 : decode cX6_isPlace 10 = .ok (.invokestatic 74, 3) := by decide +kernel
theorem dX6_isPlace_13 : decode cX6_isPlace 13 = .ok (.ireturn, 1) := by decide +kernel
theorem dX6_sign_0 : decode cX6_sign 0 = .ok (.iload_n 0, 1) := by decide +kernel
theorem dX6_sign_1 : decode cX6_sign 1 = .ok (.iload_n 1, 1) := by decide +kernel
theorem dX6_sign_2 : decode cX6_sign 2 = .ok (.iand, 1) := by decide +kernel
theorem dX6_sign_3 : decode cX6_sign 3 = .ok (.istore_n 2, 1) := by decide +kernel
theorem dX6_sign_4 : decode cX6_sign 4 = .ok (.iconst 1, 1) := by decide +kernel
theorem dX6_sign_5 : decode cX6_sign 5 = .ok (.istore_n 3, 1) := by decide +kernel
theorem dX6_sign_6 : decode cX6_sign 6 = .ok (.iload_n 2, 1) := by decide +kernel
theorem dX6_sign_7 : decode cX6_sign 7 = .ok (.ifCond .le 24, 3) := by decide +kernel
theorem dX6_sign_10 : decode cX6_sign 10 = .ok (.iload_n 2, 1) := by decide +kernel
theorem dX6_sign_11 : decode cX6_sign 11 = .ok (.iconst 2, 1) := by decide +kernel
theorem dX6_sign_12 : decode cX6_sign 12 = .ok (.irem, 1) := by decide +kernel
theorem dX6_sign_13 : decode cX6_sign 13 = .ok (.iconst 1, 1) := by decide +kernel
theorem dX6_sign_14 : decode cX6_sign 14 = .ok (.if_icmp .ne 8, 3) := by decide +kernel
theorem dX6_sign_17 : decode cX6_sign 17 = .ok (.iload_n 3, 1) := by decide +kernel
theorem dX6_sign_18 : decode cX6_sign 18 = .ok (.ineg, 1) := by decide +kernel
theorem dX6_sign_19 : decode cX6_sign 19 = .ok (.goto 4, 3) := by decide +kernel
theorem dX6_sign_22 : decode cX6_sign 22 = .ok (.iload_n 3, 1) := by decide +kernel
theorem dX6_sign_23 : decode cX6_sign 23 = .ok (.istore_n 3, 1) := by decide +kernel
theorem dX6_sign_24 : decode cX6_sign 24 = .ok (.iload_n 2, 1) := by decide +kernel
theorem dX6_sign_25 : decode cX6_sign 25 = .ok (.iconst 2, 1) := by decide +kernel
theorem dX6_sign_26 : decode cX6_sign 26 = .ok (.idiv, 1) := by decide +kernel
theorem dX6_sign_27 : decode cX6_sign 27 = .ok (.istore_n 2, 1) := by decide +kernel
theorem dX6_sign_28 : decode cX6_sign 28 = .ok (.goto (-22), 3) := by decide +kernel
theorem dX6_sign_31 : decode cX6_sign 31 = .ok (.iload_n 3, 1) := by decide +kernel
theorem dX6_sign_32 : decode cX6_sign 32 = .ok (.ireturn, 1) := by decide +kernel
set_option maxRecDepth 20000 in
theorem ggX6_near_X6_isPlace : GoodIn wsX6_near wsX6_isPlace := goodIn_r _ [8, 9, 10, 11, 7, 12, 13, 14, 15, 16, 17, 18, 19, 20, 21, 22, 23, 24, 25, 26, 27, 28, 29, 30, 31, 32, 33, 34, 35, 36, 37] (by decide +kernel) (by decide +kernel)
set_option maxRecDepth 20000 in
theorem gX6_near_X6_isPlace : GoodIn wsX6_near (wsV RX6 78 RX6 yX6_isPlace wsX6_isPlace) := goodIn_app (goodIn_of _ (by decide +kernel)) ggX6_near_X6_isPlace
set_option maxRecDepth 20000 in
theorem ggX6_near_X6_in : GoodIn wsX6_near wsX6_in := goodIn_r _ [12] (by decide +kernel) (by decide +kernel)
set_option maxRecDepth 20000 in
theorem gX6_near_X6_in : GoodIn wsX6_near (va_wsS RX6 74 yX6_in wsX6_in) := goodIn_app (goodIn_of _ (by decide +kernel)) ggX6_near_X6_in
theorem dX6_near_0 : decode cX6_near 0 = .ok (.aload_n 0, 1) := by decide +kernel
theorem dX6_near_1 : decode cX6_near 1 = .ok (.iload_n 1, 1) := by decide +kernel
theorem dX6_near_2 : decode cX6_near 2 = .ok (.invokevirtual 78, 3) := by decide +kernel
theorem dX6_near_5 : decode cX6_near 5 = .ok (.ifCond .ne 7, 3) := by decide +kernel
theorem dX6_near_8 : decode cX6_near 8 = .ok (.sipush (-10101), 3) := by decide +kernel
theorem dX6_near_11 : decode cX6_near 11 = .ok (.ireturn, 1) := by decide +kernel
theorem dX6_near_12 : decode cX6_near 12 = .ok (.iload_n 2, 1) := by decide +kernel
theorem dX6_near_13 : decode cX6_near 13 = .ok (.i2l, 1) := by decide +kernel
theorem dX6_near_14 : decode cX6_near 14 = .ok (.ldc2_w 82, 3) := by decide +kernel
theorem dX6_near_17 : decode cX6_near 17 = .ok (.ldc2_w 84, 3) := by decide +kernel
theorem dX6_near_20 : decode cX6_near 20 = .ok (.invokestatic 74, 3) := by decide +kernel
theorem dX6_near_23 : decode cX6_near 23 = .ok (.ifCond .ne 7, 3) := by decide +kernel
theorem dX6_near_26 : decode cX6_near 26 = .ok (.sipush (-10102), 3) := by decide +kernel
theorem dX6_near_29 : decode cX6_near 29 = .ok (.ireturn, 1) := by decide +kernel
theorem dX6_near_30 : decode cX6_near 30 = .ok (.aload_n 0, 1) := by decide +kernel
theorem dX6_near_31 : decode cX6_near 31 = .ok (.getfield 7, 3) := by decide +kernel
theorem dX6_near_34 : decode cX6_near 34 = .ok (.iload_n 1, 1) := by decide +kernel
theorem dX6_near_35 : decode cX6_near 35 = .ok (.iaload, 1) := by decide +kernel
theorem dX6_near_36 : decode cX6_near 36 = .ok (.istore_n 3, 1) := by decide +kernel
theorem dX6_near_37 : decode cX6_near 37 = .ok (.aload_n 0, 1) := by decide +kernel
theorem dX6_near_38 : decode cX6_near 38 = .ok (.getfield 7, 3) := by decide +kernel
theorem dX6_near_41 : decode cX6_near 41 = .ok (.iload_n 1, 1) := by decide +kernel
theorem dX6_near_42 : decode cX6_near 42 = .ok (.iload_n 2, 1) := by decide +kernel
theorem dX6_near_43 : decode cX6_near 43 = .ok (.iastore, 1) := by decide +kernel
theorem dX6_near_44 : decode cX6_near 44 = .ok (.iload_n 3, 1) := by decide +kernel
theorem dX6_near_45 : decode cX6_near 45 = .ok (.ireturn, 1) := by decide +kernel
set_option maxRecDepth 20000 in
theorem ggX6_farOf_X6_sign : GoodIn wsX6_farOf wsX6_sign := goodIn_r _ [6] (by decide +kernel) (by decide +kernel)
set_option maxRecDepth 20000 in
theorem gX6_farOf_X6_sign : GoodIn wsX6_farOf (va_wsS RX6 86 yX6_sign wsX6_sign) := goodIn_app (goodIn_of _ (by decide +kernel)) ggX6_farOf_X6_sign
theorem dX6_farOf_0 : decode cX6_farOf 0 = .ok (.iconst 0, 1) := by decide +kernel
theorem dX6_farOf_1 : decode cX6_farOf 1 = .ok (.istore_n 2, 1) := by decide +kernel
theorem dX6_farOf_2 : decode cX6_farOf 2 = .ok (.iconst 0, 1) := by decide +kernel
theorem dX6_farOf_3 : decode cX6_farOf 3 = .ok (.istore_n 3, 1) := by decide +kernel
theorem dX6_farOf_4 : decode cX6_farOf 4 = .ok (.iload_n 3, 1) := by decide +kernel
theorem dX6_farOf_5 : decode cX6_farOf 5 = .ok (.aload_n 0, 1) := by decide +kernel
theorem dX6_farOf_6 : decode cX6_farOf 6 = .ok (.getfield 68, 3) := by decide +kernel
theorem dX6_farOf_9 : decode cX6_farOf 9 = .ok (.if_icmp .ge 24, 3) := by decide +kernel
theorem dX6_farOf_12 : decode cX6_farOf 12 = .ok (.iload_n 2, 1) := by decide +kernel
theorem dX6_farOf_13 : decode cX6_farOf 13 = .ok (.aload_n 0, 1) := by decide +kernel
theorem dX6_farOf_14 : decode cX6_farOf 14 = .ok (.getfield 7, 3) := by decide +kernel
theorem dX6_farOf_17 : decode cX6_farOf 17 = .ok (.iload_n 3, 1) := by decide +kernel
theorem dX6_farOf_18 : decode cX6_farOf 18 = .ok (.iaload, 1) := by decide +kernel
theorem dX6_farOf_19 : decode cX6_farOf 19 = .ok (.iload_n 3, 1) := by decide +kernel
theorem dX6_farOf_20 : decode cX6_farOf 20 = .ok (.iload_n 1, 1) := by decide +kernel
theorem dX6_farOf_21 : decode cX6_farOf 21 = .ok (.invokestatic 86, 3) := by decide +kernel
theorem dX6_farOf_24 : decode cX6_farOf 24 = .ok (.imul, 1) := by decide +kernel
theorem dX6_farOf_25 : decode cX6_farOf 25 = .ok (.iadd, 1) := by decide +kernel
theorem dX6_farOf_26 : decode cX6_farOf 26 = .ok (.istore_n 2, 1) := by decide +kernel
theorem dX6_farOf_27 : decode cX6_farOf 27 = .ok (.iinc 3 1, 3) := by decide +kernel
theorem dX6_farOf_30 : decode cX6_farOf 30 = .ok (.goto (-26), 3) := by decide +kernel
theorem dX6_farOf_33 : decode cX6_farOf 33 = .ok (.iload_n 2, 1) := by decide +kernel
theorem dX6_farOf_34 : decode cX6_farOf 34 = .ok (.ireturn, 1) := by decide +kernel
set_option maxRecDepth 20000 in
theorem ggX6_far_X6_isPlace : GoodIn wsX6_far wsX6_isPlace := goodIn_r _ [6, 7, 8, 9, 5, 10, 19, 20, 21, 22, 23, 24, 25, 26, 27, 28, 29, 30, 31, 32, 33, 34, 35, 36, 37, 38, 39, 40, 41, 42, 43] (by decide +kernel) (by decide +kernel)
set_option maxRecDepth 20000 in
theorem gX6_far_X6_isPlace : GoodIn wsX6_far (wsV RX6 78 RX6 yX6_isPlace wsX6_isPlace) := goodIn_app (goodIn_of _ (by decide +kernel)) ggX6_far_X6_isPlace
set_option maxRecDepth 20000 in
theorem ggX6_far_X6_farOf : GoodIn wsX6_far wsX6_farOf := goodIn_r _ [14, 7, 15, 16, 17, 5, 18, 19, 20, 21, 22, 23, 24, 25, 26, 27, 28, 29, 30, 31, 32, 33, 34, 35, 36, 37, 38, 39, 40, 41, 42, 43] (by decide +kernel) (by decide +kernel)
set_option maxRecDepth 20000 in
theorem gX6_far_X6_farOf : GoodIn wsX6_far (wsV RX6 90 RX6 yX6_farOf wsX6_farOf) := goodIn_app (goodIn_of _ (by decide +kernel)) ggX6_far_X6_farOf
theorem dX6_far_0 : decode cX6_far 0 = .ok (.aload_n 0, 1) := by decide +kernel
theorem dX6_far_1 : decode cX6_far 1 = .ok (.iload_n 1, 1) := by decide +kernel
theorem dX6_far_2 : decode cX6_far 2 = .ok (.invokevirtual 78, 3) := by decide +kernel
theorem dX6_far_5 : decode cX6_far 5 = .ok (.ifCond .eq 11, 3) := by decide +kernel
theorem dX6_far_8 : decode cX6_far 8 = .ok (.aload_n 0, 1) := by decide +kernel
theorem dX6_far_9 : decode cX6_far 9 = .ok (.iload_n 1, 1) := by decide +kernel
theorem dX6_far_10 : decode cX6_far 10 = .ok (.invokevirtual 90, 3) := by decide +kernel
theorem dX6_far_13 : decode cX6_far 13 = .ok (.goto 5, 3) := by decide +kernel
theorem dX6_far_16 : decode cX6_far 16 = .ok (.ldc 94, 2) := by decide +kernel
theorem dX6_far_18 : decode cX6_far 18 = .ok (.ireturn, 1) := by decide +kernel
set_option maxRecDepth 20000 in
theorem ggX6_backOf_X6_sign : GoodIn wsX6_backOf wsX6_sign := goodIn_r _ [6] (by decide +kernel) (by decide +kernel)
set_option maxRecDepth 20000 in
theorem gX6_backOf_X6_sign : GoodIn wsX6_backOf (va_wsS RX6 86 yX6_sign wsX6_sign) := goodIn_app (goodIn_of _ (by decide +kernel)) ggX6_backOf_X6_sign
theorem dX6_backOf_0 : decode cX6_backOf 0 = .ok (.iconst 0, 1) := by decide +kernel
theorem dX6_backOf_1 : decode cX6_backOf 1 = .ok (.istore_n 2, 1) := by decide +kernel
theorem dX6_backOf_2 : decode cX6_backOf 2 = .ok (.iconst 0, 1) := by decide +kernel
theorem dX6_backOf_3 : decode cX6_backOf 3 = .ok (.istore_n 3, 1) := by decide +kernel
theorem dX6_backOf_4 : decode cX6_backOf 4 = .ok (.iload_n 3, 1) := by decide +kernel
theorem dX6_backOf_5 : decode cX6_backOf 5 = .ok (.aload_n 0, 1) := by decide +kernel
theorem dX6_backOf_6 : decode cX6_backOf 6 = .ok (.getfield 68, 3) := by decide +kernel
theorem dX6_backOf_9 : decode cX6_backOf 9 = .ok (.if_icmp .ge 24, 3) := by decide +kernel
theorem dX6_backOf_12 : decode cX6_backOf 12 = .ok (.iload_n 2, 1) := by decide +kernel
theorem dX6_backOf_13 : decode cX6_backOf 13 = .ok (.aload_n 0, 1) := by decide +kernel
theorem dX6_backOf_14 : decode cX6_backOf 14 = .ok (.getfield 13, 3) := by decide +kernel
theorem dX6_backOf_17 : decode cX6_backOf 17 = .ok (.iload_n 3, 1) := by decide +kernel
theorem dX6_backOf_18 : decode cX6_backOf 18 = .ok (.iaload, 1) := by decide +kernel
theorem dX6_backOf_19 : decode cX6_backOf 19 = .ok (.iload_n 1, 1) := by decide +kernel
theorem dX6_backOf_20 : decode cX6_backOf 20 = .ok (.iload_n 3, 1) := by decide +kernel
theorem dX6_backOf_21 : decode cX6_backOf 21 = .ok (.invokestatic 86, 3) := by decide +kernel
theorem dX6_backOf_24 : decode cX6_backOf 24 = .ok (.imul, 1) := by decide +kernel
theorem dX6_backOf_25 : decode cX6_backOf 25 = .ok (.iadd, 1) := by decide +kernel
theorem dX6_backOf_26 : decode cX6_backOf 26 = .ok (.istore_n 2, 1) := by decide +kernel
theorem dX6_backOf_27 : decode cX6_backOf 27 = .ok (.iinc 3 1, 3) := by decide +kernel
theorem dX6_backOf_30 : decode cX6_backOf 30 = .ok (.goto (-26), 3) := by decide +kernel
theorem dX6_backOf_33 : decode cX6_backOf 33 = .ok (.iload_n 2, 1) := by decide +kernel
theorem dX6_backOf_34 : decode cX6_backOf 34 = .ok (.ireturn, 1) := by decide +kernel
set_option maxRecDepth 20000 in
theorem ggX6_back_X6_backOf : GoodIn wsX6_back wsX6_backOf := goodIn_r _ [9, 1, 10, 11, 12, 8, 13, 17, 18, 19, 20, 21, 22, 23, 24, 25, 26, 27, 28, 29, 30, 31, 32, 33, 34, 35, 36, 37, 38, 39, 40, 41] (by decide +kernel) (by decide +kernel)
set_option maxRecDepth 20000 in
theorem gX6_back_X6_backOf : GoodIn wsX6_back (wsV RX6 95 RX6 yX6_backOf wsX6_backOf) := goodIn_app (goodIn_of _ (by decide +kernel)) ggX6_back_X6_backOf
set_option maxRecDepth 20000 in
theorem ggX6_back_X6_in : GoodIn wsX6_back wsX6_in := goodIn_r _ [16] (by decide +kernel) (by decide +kernel)
set_option maxRecDepth 20000 in
theorem gX6_back_X6_in : GoodIn wsX6_back (va_wsS RX6 74 yX6_in wsX6_in) := goodIn_app (goodIn_of _ (by decide +kernel)) ggX6_back_X6_in
theorem dX6_back_0 : decode cX6_back 0 = .ok (.iconst 1, 1) := by decide +kernel
theorem dX6_back_1 : decode cX6_back 1 = .ok (.istore_n 1, 1) := by decide +kernel
theorem dX6_back_2 : decode cX6_back 2 = .ok (.iconst 0, 1) := by decide +kernel
theorem dX6_back_3 : decode cX6_back 3 = .ok (.istore_n 2, 1) := by decide +kernel
theorem dX6_back_4 : decode cX6_back 4 = .ok (.iload_n 2, 1) := by decide +kernel
theorem dX6_back_5 : decode cX6_back 5 = .ok (.aload_n 0, 1) := by decide +kernel
theorem dX6_back_6 : decode cX6_back 6 = .ok (.getfield 68, 3) := by decide +kernel
theorem dX6_back_9 : decode cX6_back 9 = .ok (.if_icmp .ge 53, 3) := by decide +kernel
theorem dX6_back_12 : decode cX6_back 12 = .ok (.aload_n 0, 1) := by decide +kernel
theorem dX6_back_13 : decode cX6_back 13 = .ok (.iload_n 2, 1) := by decide +kernel
theorem dX6_back_14 : decode cX6_back 14 = .ok (.invokevirtual 95, 3) := by decide +kernel
theorem dX6_back_17 : decode cX6_back 17 = .ok (.istore_n 3, 1) := by decide +kernel
theorem dX6_back_18 : decode cX6_back 18 = .ok (.iload_n 1, 1) := by decide +kernel
theorem dX6_back_19 : decode cX6_back 19 = .ok (.ifCond .eq 35, 3) := by decide +kernel
theorem dX6_back_22 : decode cX6_back 22 = .ok (.iload_n 3, 1) := by decide +kernel
theorem dX6_back_23 : decode cX6_back 23 = .ok (.aload_n 0, 1) := by decide +kernel
theorem dX6_back_24 : decode cX6_back 24 = .ok (.getfield 68, 3) := by decide +kernel
theorem dX6_back_27 : decode cX6_back 27 = .ok (.irem, 1) := by decide +kernel
theorem dX6_back_28 : decode cX6_back 28 = .ok (.ifCond .ne 26, 3) := by decide +kernel
theorem dX6_back_31 : decode cX6_back 31 = .ok (.iload_n 3, 1) := by decide +kernel
theorem dX6_back_32 : decode cX6_back 32 = .ok (.aload_n 0, 1) := by decide +kernel
theorem dX6_back_33 : decode cX6_back 33 = .ok (.getfield 68, 3) := by decide +kernel
theorem dX6_back_36 : decode cX6_back 36 = .ok (.idiv, 1) := by decide +kernel
theorem dX6_back_37 : decode cX6_back 37 = .ok (.i2l, 1) := by decide +kernel
theorem dX6_back_38 : decode cX6_back 38 = .ok (.ldc2_w 82, 3) := by decide +kernel
theorem dX6_back_41 : decode cX6_back 41 = .ok (.ldc2_w 84, 3) := by decide +kernel
theorem dX6_back_44 : decode cX6_back 44 = .ok (.invokestatic 74, 3) := by decide +kernel
theorem dX6_back_47 : decode cX6_back 47 = .ok (.ifCond .eq 7, 3) := by decide +kernel
theorem dX6_back_50 : decode cX6_back 50 = .ok (.iconst 1, 1) := by decide +kernel
theorem dX6_back_51 : decode cX6_back 51 = .ok (.goto 4, 3) := by decide +kernel
theorem dX6_back_54 : decode cX6_back 54 = .ok (.iconst 0, 1) := by decide +kernel
theorem dX6_back_55 : decode cX6_back 55 = .ok (.istore_n 1, 1) := by decide +kernel
theorem dX6_back_56 : decode cX6_back 56 = .ok (.iinc 2 1, 3) := by decide +kernel
theorem dX6_back_59 : decode cX6_back 59 = .ok (.goto (-55), 3) := by decide +kernel
theorem dX6_back_62 : decode cX6_back 62 = .ok (.iconst 0, 1) := by decide +kernel
theorem dX6_back_63 : decode cX6_back 63 = .ok (.istore_n 2, 1) := by decide +kernel
theorem dX6_back_64 : decode cX6_back 64 = .ok (.iload_n 2, 1) := by decide +kernel
theorem dX6_back_65 : decode cX6_back 65 = .ok (.aload_n 0, 1) := by decide +kernel
theorem dX6_back_66 : decode cX6_back 66 = .ok (.getfield 68, 3) := by decide +kernel
theorem dX6_back_69 : decode cX6_back 69 = .ok (.if_icmp .ge 29, 3) := by decide +kernel
theorem dX6_back_72 : decode cX6_back 72 = .ok (.iload_n 1, 1) := by decide +kernel
theorem dX6_back_73 : decode cX6_back 73 = .ok (.ifCond .eq 25, 3) := by decide +kernel
theorem dX6_back_76 : decode cX6_back 76 = .ok (.aload_n 0, 1) := by decide +kernel
theorem dX6_back_77 : decode cX6_back 77 = .ok (.getfield 7, 3) := by decide +kernel
theorem dX6_back_80 : decode cX6_back 80 = .ok (.iload_n 2, 1) := by decide +kernel
theorem dX6_back_81 : decode cX6_back 81 = .ok (.aload_n 0, 1) := by decide +kernel
theorem dX6_back_82 : decode cX6_back 82 = .ok (.iload_n 2, 1) := by decide +kernel
theorem dX6_back_83 : decode cX6_back 83 = .ok (.invokevirtual 95, 3) := by decide +kernel
theorem dX6_back_86 : decode cX6_back 86 = .ok (.aload_n 0, 1) := by decide +kernel
theorem dX6_back_87 : decode cX6_back 87 = .ok (.getfield 68, 3) := by decide +kernel
theorem dX6_back_90 : decode cX6_back 90 = .ok (.idiv, 1) := by decide +kernel
theorem dX6_back_91 : decode cX6_back 91 = .ok (.iastore, 1) := by decide +kernel
theorem dX6_back_92 : decode cX6_back 92 = .ok (.iinc 2 1, 3) := by decide +kernel
theorem dX6_back_95 : decode cX6_back 95 = .ok (.goto (-31), 3) := by decide +kernel
theorem dX6_back_98 : decode cX6_back 98 = .ok (.iload_n 1, 1) := by decide +kernel
theorem dX6_back_99 : decode cX6_back 99 = .ok (.ifCond .eq 7, 3) := by decide +kernel
theorem dX6_back_102 : decode cX6_back 102 = .ok (.iconst 1, 1) := by decide +kernel
theorem dX6_back_103 : decode cX6_back 103 = .ok (.goto 4, 3) := by decide +kernel
theorem dX6_back_106 : decode cX6_back 106 = .ok (.iconst 0, 1) := by decide +kernel
theorem dX6_back_107 : decode cX6_back 107 = .ok (.ireturn, 1) := by decide +kernel
set_option maxRecDepth 20000 in
theorem ggX6_tell_X6_isPlace : GoodIn wsX6_tell wsX6_isPlace := goodIn_r _ [10, 11, 12, 13, 9, 14, 15, 16, 17, 18, 19, 20, 21, 22, 23, 24, 25, 26, 27, 28, 29, 30, 31, 32, 33, 34, 35, 36, 37, 38, 39] (by decide +kernel) (by decide +kernel)
set_option maxRecDepth 20000 in
theorem gX6_tell_X6_isPlace : GoodIn wsX6_tell (wsV RX6 78 RX6 yX6_isPlace wsX6_isPlace) := goodIn_app (goodIn_of _ (by decide +kernel)) ggX6_tell_X6_isPlace
set_option maxRecDepth 20000 in
theorem ggX6_tell_X6_in : GoodIn wsX6_tell wsX6_in := goodIn_r _ [14] (by decide +kernel) (by decide +kernel)
set_option maxRecDepth 20000 in
theorem gX6_tell_X6_in : GoodIn wsX6_tell (va_wsS RX6 74 yX6_in wsX6_in) := goodIn_app (goodIn_of _ (by decide +kernel)) ggX6_tell_X6_in
theorem dX6_tell_0 : decode cX6_tell 0 = .ok (.aload_n 0, 1) := by decide +kernel
theorem dX6_tell_1 : decode cX6_tell 1 = .ok (.iload_n 1, 1) := by decide +kernel
theorem dX6_tell_2 : decode cX6_tell 2 = .ok (.invokevirtual 78, 3) := by decide +kernel
theorem dX6_tell_5 : decode cX6_tell 5 = .ok (.ifCond .ne 6, 3) := by decide +kernel
theorem dX6_tell_8 : decode cX6_tell 8 = .ok (.ldc 98, 2) := by decide +kernel
theorem dX6_tell_10 : decode cX6_tell 10 = .ok (.ireturn, 1) := by decide +kernel
theorem dX6_tell_11 : decode cX6_tell 11 = .ok (.iload_n 2, 1) := by decide +kernel
theorem dX6_tell_12 : decode cX6_tell 12 = .ok (.i2l, 1) := by decide +kernel
theorem dX6_tell_13 : decode cX6_tell 13 = .ok (.ldc2_w 99, 3) := by decide +kernel
theorem dX6_tell_16 : decode cX6_tell 16 = .ok (.ldc2_w 101, 3) := by decide +kernel
theorem dX6_tell_19 : decode cX6_tell 19 = .ok (.invokestatic 74, 3) := by decide +kernel
theorem dX6_tell_22 : decode cX6_tell 22 = .ok (.ifCond .ne 6, 3) := by decide +kernel
theorem dX6_tell_25 : decode cX6_tell 25 = .ok (.ldc 103, 2) := by decide +kernel
theorem dX6_tell_27 : decode cX6_tell 27 = .ok (.ireturn, 1) := by decide +kernel
theorem dX6_tell_28 : decode cX6_tell 28 = .ok (.aload_n 0, 1) := by decide +kernel
theorem dX6_tell_29 : decode cX6_tell 29 = .ok (.getfield 13, 3) := by decide +kernel
theorem dX6_tell_32 : decode cX6_tell 32 = .ok (.iload_n 1, 1) := by decide +kernel
theorem dX6_tell_33 : decode cX6_tell 33 = .ok (.iaload, 1) := by decide +kernel
theorem dX6_tell_34 : decode cX6_tell 34 = .ok (.istore_n 3, 1) := by decide +kernel
theorem dX6_tell_35 : decode cX6_tell 35 = .ok (.aload_n 0, 1) := by decide +kernel
theorem dX6_tell_36 : decode cX6_tell 36 = .ok (.getfield 13, 3) := by decide +kernel
theorem dX6_tell_39 : decode cX6_tell 39 = .ok (.iload_n 1, 1) := by decide +kernel
theorem dX6_tell_40 : decode cX6_tell 40 = .ok (.iload_n 2, 1) := by decide +kernel
theorem dX6_tell_41 : decode cX6_tell 41 = .ok (.iastore, 1) := by decide +kernel
theorem dX6_tell_42 : decode cX6_tell 42 = .ok (.iload_n 3, 1) := by decide +kernel
theorem dX6_tell_43 : decode cX6_tell 43 = .ok (.ireturn, 1) := by decide +kernel
set_option maxRecDepth 20000 in
theorem ggX6_probe_X6_isPlace : GoodIn wsX6_probe wsX6_isPlace := goodIn_r _ [8, 9, 10, 11, 7, 12, 13, 14, 15, 16, 17, 18, 19, 20, 21, 22, 23, 24, 25, 26, 27, 28, 29, 30, 31, 32, 33, 34, 35, 36, 37] (by decide +kernel) (by decide +kernel)
set_option maxRecDepth 20000 in
theorem gX6_probe_X6_isPlace : GoodIn wsX6_probe (wsV RX6 78 RX6 yX6_isPlace wsX6_isPlace) := goodIn_app (goodIn_of _ (by decide +kernel)) ggX6_probe_X6_isPlace
set_option maxRecDepth 20000 in
theorem ggX6_probe_X6_in : GoodIn wsX6_probe wsX6_in := goodIn_r _ [12] (by decide +kernel) (by decide +kernel)
set_option maxRecDepth 20000 in
theorem gX6_probe_X6_in : GoodIn wsX6_probe (va_wsS RX6 74 yX6_in wsX6_in) := goodIn_app (goodIn_of _ (by decide +kernel)) ggX6_probe_X6_in
theorem dX6_probe_0 : decode cX6_probe 0 = .ok (.aload_n 0, 1) := by decide +kernel
theorem dX6_probe_1 : decode cX6_probe 1 = .ok (.iload_n 1, 1) := by decide +kernel
theorem dX6_probe_2 : decode cX6_probe 2 = .ok (.invokevirtual 78, 3) := by decide +kernel
theorem dX6_probe_5 : decode cX6_probe 5 = .ok (.ifCond .ne 6, 3) := by decide +kernel
theorem dX6_probe_8 : decode cX6_probe 8 = .ok (.bipush (-101), 2) := by decide +kernel
theorem dX6_probe_10 : decode cX6_probe 10 = .ok (.ireturn, 1) := by decide +kernel
theorem dX6_probe_11 : decode cX6_probe 11 = .ok (.iload_n 2, 1) := by decide +kernel
theorem dX6_probe_12 : decode cX6_probe 12 = .ok (.i2l, 1) := by decide +kernel
theorem dX6_probe_13 : decode cX6_probe 13 = .ok (.ldc2_w 104, 3) := by decide +kernel
theorem dX6_probe_16 : decode cX6_probe 16 = .ok (.ldc2_w 106, 3) := by decide +kernel
theorem dX6_probe_19 : decode cX6_probe 19 = .ok (.invokestatic 74, 3) := by decide +kernel
theorem dX6_probe_22 : decode cX6_probe 22 = .ok (.ifCond .eq 7, 3) := by decide +kernel
theorem dX6_probe_25 : decode cX6_probe 25 = .ok (.iload_n 2, 1) := by decide +kernel
theorem dX6_probe_26 : decode cX6_probe 26 = .ok (.ifCond .ne 6, 3) := by decide +kernel
theorem dX6_probe_29 : decode cX6_probe 29 = .ok (.bipush (-102), 2) := by decide +kernel
theorem dX6_probe_31 : decode cX6_probe 31 = .ok (.ireturn, 1) := by decide +kernel
theorem dX6_probe_32 : decode cX6_probe 32 = .ok (.aload_n 0, 1) := by decide +kernel
theorem dX6_probe_33 : decode cX6_probe 33 = .ok (.getfield 16, 3) := by decide +kernel
theorem dX6_probe_36 : decode cX6_probe 36 = .ok (.iload_n 1, 1) := by decide +kernel
theorem dX6_probe_37 : decode cX6_probe 37 = .ok (.iaload, 1) := by decide +kernel
theorem dX6_probe_38 : decode cX6_probe 38 = .ok (.istore_n 3, 1) := by decide +kernel
theorem dX6_probe_39 : decode cX6_probe 39 = .ok (.aload_n 0, 1) := by decide +kernel
theorem dX6_probe_40 : decode cX6_probe 40 = .ok (.getfield 16, 3) := by decide +kernel
theorem dX6_probe_43 : decode cX6_probe 43 = .ok (.iload_n 1, 1) := by decide +kernel
theorem dX6_probe_44 : decode cX6_probe 44 = .ok (.iload_n 2, 1) := by decide +kernel
theorem dX6_probe_45 : decode cX6_probe 45 = .ok (.iastore, 1) := by decide +kernel
theorem dX6_probe_46 : decode cX6_probe 46 = .ok (.iload_n 3, 1) := by decide +kernel
theorem dX6_probe_47 : decode cX6_probe 47 = .ok (.ireturn, 1) := by decide +kernel
set_option maxRecDepth 20000 in
theorem ggX6_seen_X6_isPlace : GoodIn wsX6_seen wsX6_isPlace := goodIn_r _ [7, 8, 9, 10, 6, 11, 20, 21, 22, 23, 24, 25, 26, 27, 28, 29, 30, 31, 32, 33, 34, 35, 36, 37, 38, 39, 40, 41, 42, 43, 44] (by decide +kernel) (by decide +kernel)
set_option maxRecDepth 20000 in
theorem gX6_seen_X6_isPlace : GoodIn wsX6_seen (wsV RX6 78 RX6 yX6_isPlace wsX6_isPlace) := goodIn_app (goodIn_of _ (by decide +kernel)) ggX6_seen_X6_isPlace
set_option maxRecDepth 20000 in
theorem ggX6_seen_X6_farOf : GoodIn wsX6_seen wsX6_farOf := goodIn_r _ [15, 8, 16, 17, 18, 6, 19, 20, 21, 22, 23, 24, 25, 26, 27, 28, 29, 30, 31, 32, 33, 34, 35, 36, 37, 38, 39, 40, 41, 42, 43, 44] (by decide +kernel) (by decide +kernel)
set_option maxRecDepth 20000 in
theorem gX6_seen_X6_farOf : GoodIn wsX6_seen (wsV RX6 90 RX6 yX6_farOf wsX6_farOf) := goodIn_app (goodIn_of _ (by decide +kernel)) ggX6_seen_X6_farOf
theorem dX6_seen_0 : decode cX6_seen 0 = .ok (.aload_n 0, 1) := by decide +kernel
theorem dX6_seen_1 : decode cX6_seen 1 = .ok (.iload_n 1, 1) := by decide +kernel
theorem dX6_seen_2 : decode cX6_seen 2 = .ok (.invokevirtual 78, 3) := by decide +kernel
theorem dX6_seen_5 : decode cX6_seen 5 = .ok (.ifCond .eq 18, 3) := by decide +kernel
theorem dX6_seen_8 : decode cX6_seen 8 = .ok (.aload_n 0, 1) := by decide +kernel
theorem dX6_seen_9 : decode cX6_seen 9 = .ok (.iload_n 1, 1) := by decide +kernel
theorem dX6_seen_10 : decode cX6_seen 10 = .ok (.invokevirtual 90, 3) := by decide +kernel
theorem dX6_seen_13 : decode cX6_seen 13 = .ok (.aload_n 0, 1) := by decide +kernel
theorem dX6_seen_14 : decode cX6_seen 14 = .ok (.getfield 16, 3) := by decide +kernel
theorem dX6_seen_17 : decode cX6_seen 17 = .ok (.iload_n 1, 1) := by decide +kernel
theorem dX6_seen_18 : decode cX6_seen 18 = .ok (.iaload, 1) := by decide +kernel
theorem dX6_seen_19 : decode cX6_seen 19 = .ok (.imul, 1) := by decide +kernel
theorem dX6_seen_20 : decode cX6_seen 20 = .ok (.goto 5, 3) := by decide +kernel
theorem dX6_seen_23 : decode cX6_seen 23 = .ok (.ldc 98, 2) := by decide +kernel
theorem dX6_seen_25 : decode cX6_seen 25 = .ok (.ireturn, 1) := by decide +kernel
theorem dX6_unprobe_0 : decode cX6_unprobe 0 = .ok (.iconst 1, 1) := by decide +kernel
theorem dX6_unprobe_1 : decode cX6_unprobe 1 = .ok (.istore_n 1, 1) := by decide +kernel
theorem dX6_unprobe_2 : decode cX6_unprobe 2 = .ok (.iconst 0, 1) := by decide +kernel
theorem dX6_unprobe_3 : decode cX6_unprobe 3 = .ok (.istore_n 2, 1) := by decide +kernel
theorem dX6_unprobe_4 : decode cX6_unprobe 4 = .ok (.iload_n 2, 1) := by decide +kernel
theorem dX6_unprobe_5 : decode cX6_unprobe 5 = .ok (.aload_n 0, 1) := by decide +kernel
theorem dX6_unprobe_6 : decode cX6_unprobe 6 = .ok (.getfield 68, 3) := by decide +kernel
theorem dX6_unprobe_9 : decode cX6_unprobe 9 = .ok (.if_icmp .ge 35, 3) := by decide +kernel
theorem dX6_unprobe_12 : decode cX6_unprobe 12 = .ok (.iload_n 1, 1) := by decide +kernel
theorem dX6_unprobe_13 : decode cX6_unprobe 13 = .ok (.ifCond .eq 23, 3) := by decide +kernel
theorem dX6_unprobe_16 : decode cX6_unprobe 16 = .ok (.aload_n 0, 1) := by decide +kernel
theorem dX6_unprobe_17 : decode cX6_unprobe 17 = .ok (.getfield 13, 3) := by decide +kernel
theorem dX6_unprobe_20 : decode cX6_unprobe 20 = .ok (.iload_n 2, 1) := by decide +kernel
theorem dX6_unprobe_21 : decode cX6_unprobe 21 = .ok (.iaload, 1) := by decide +kernel
theorem dX6_unprobe_22 : decode cX6_unprobe 22 = .ok (.aload_n 0, 1) := by decide +kernel
theorem dX6_unprobe_23 : decode cX6_unprobe 23 = .ok (.getfield 16, 3) := by decide +kernel
theorem dX6_unprobe_26 : decode cX6_unprobe 26 = .ok (.iload_n 2, 1) := by decide +kernel
theorem dX6_unprobe_27 : decode cX6_unprobe 27 = .ok (.iaload, 1) := by decide +kernel
theorem dX6_unprobe_28 : decode cX6_unprobe 28 = .ok (.irem, 1) := by decide +kernel
theorem dX6_unprobe_29 : decode cX6_unprobe 29 = .ok (.ifCond .ne 7, 3) := by decide +kernel
theorem dX6_unprobe_32 : decode cX6_unprobe 32 = .ok (.iconst 1, 1) := by decide +kernel
theorem dX6_unprobe_33 : decode cX6_unprobe 33 = .ok (.goto 4, 3) := by decide +kernel
theorem dX6_unprobe_36 : decode cX6_unprobe 36 = .ok (.iconst 0, 1) := by decide +kernel
theorem dX6_unprobe_37 : decode cX6_unprobe 37 = .ok (.istore_n 1, 1) := by decide +kernel
theorem dX6_unprobe_38 : decode cX6_unprobe 38 = .ok (.iinc 2 1, 3) := by decide +kernel
theorem dX6_unprobe_41 : decode cX6_unprobe 41 = .ok (.goto (-37), 3) := by decide +kernel
theorem dX6_unprobe_44 : decode cX6_unprobe 44 = .ok (.iconst 0, 1) := by decide +kernel
theorem dX6_unprobe_45 : decode cX6_unprobe 45 = .ok (.istore_n 2, 1) := by decide +kernel
theorem dX6_unprobe_46 : decode cX6_unprobe 46 = .ok (.iload_n 2, 1) := by decide +kernel
theorem dX6_unprobe_47 : decode cX6_unprobe 47 = .ok (.aload_n 0, 1) := by decide +kernel
theorem dX6_unprobe_48 : decode cX6_unprobe 48 = .ok (.getfield 68, 3) := by decide +kernel
theorem dX6_unprobe_51 : decode cX6_unprobe 51 = .ok (.if_icmp .ge 28, 3) := by decide +kernel
theorem dX6_unprobe_54 : decode cX6_unprobe 54 = .ok (.iload_n 1, 1) := by decide +kernel
theorem dX6_unprobe_55 : decode cX6_unprobe 55 = .ok (.ifCond .eq 24, 3) := by decide +kernel
theorem dX6_unprobe_58 : decode cX6_unprobe 58 = .ok (.aload_n 0, 1) := by decide +kernel
theorem dX6_unprobe_59 : decode cX6_unprobe 59 = .ok (.getfield 13, 3) := by decide +kernel
theorem dX6_unprobe_62 : decode cX6_unprobe 62 = .ok (.iload_n 2, 1) := by decide +kernel
theorem dX6_unprobe_63 : decode cX6_unprobe 63 = .ok (.dup2, 1) := by decide +kernel
theorem dX6_unprobe_64 : decode cX6_unprobe 64 = .ok (.iaload, 1) := by decide +kernel
theorem dX6_unprobe_65 : decode cX6_unprobe 65 = .ok (.aload_n 0, 1) := by decide +kernel
theorem dX6_unprobe_66 : decode cX6_unprobe 66 = .ok (.getfield 16, 3) := by decide +kernel
theorem dX6_unprobe_69 : decode cX6_unprobe 69 = .ok (.iload_n 2, 1) := by decide +kernel
theorem dX6_unprobe_70 : decode cX6_unprobe 70 = .ok (.iaload, 1) := by decide +kernel
theorem dX6_unprobe_71 : decode cX6_unprobe 71 = .ok (.idiv, 1) := by decide +kernel
theorem dX6_unprobe_72 : decode cX6_unprobe 72 = .ok (.iastore, 1) := by decide +kernel
theorem dX6_unprobe_73 : decode cX6_unprobe 73 = .ok (.iinc 2 1, 3) := by decide +kernel
theorem dX6_unprobe_76 : decode cX6_unprobe 76 = .ok (.goto (-30), 3) := by decide +kernel
theorem dX6_unprobe_79 : decode cX6_unprobe 79 = .ok (.iload_n 1, 1) := by decide +kernel
theorem dX6_unprobe_80 : decode cX6_unprobe 80 = .ok (.ifCond .eq 7, 3) := by decide +kernel
theorem dX6_unprobe_83 : decode cX6_unprobe 83 = .ok (.iconst 1, 1) := by decide +kernel
theorem dX6_unprobe_84 : decode cX6_unprobe 84 = .ok (.goto 4, 3) := by decide +kernel
theorem dX6_unprobe_87 : decode cX6_unprobe 87 = .ok (.iconst 0, 1) := by decide +kernel
theorem dX6_unprobe_88 : decode cX6_unprobe 88 = .ok (.ireturn, 1) := by decide +kernel
set_option maxRecDepth 20000 in
theorem ggX6_isGate_X6_in : GoodIn wsX6_isGate wsX6_in := goodIn_r _ [5] (by decide +kernel) (by decide +kernel)
set_option maxRecDepth 20000 in
theorem gX6_isGate_X6_in : GoodIn wsX6_isGate (va_wsS RX6 74 yX6_in wsX6_in) := goodIn_app (goodIn_of _ (by decide +kernel)) ggX6_isGate_X6_in
theorem dX6_isGate_0 : decode cX6_isGate 0 = .ok (.iload_n 0, 1) := by decide +kernel
theorem dX6_isGate_1 : decode cX6_isGate 1 = .ok (.i2l, 1) := by decide +kernel
theorem dX6_isGate_2 : decode cX6_isGate 2 = .ok (.lconst 0, 1) := by decide +kernel
theorem dX6_isGate_3 : decode cX6_isGate 3 = .ok (.ldc2_w 108, 3) := by decide +kernel
theorem dX6_isGate_6 : decode cX6_isGate 6 = .ok (.invokestatic 74, 3) := by decide +kernel
theorem dX6_isGate_9 : decode cX6_isGate 9 = .ok (.ifCond .eq 19, 3) := by decide +kernel
theorem dX6_isGate_12 : decode cX6_isGate 12 = .ok (.iload_n 1, 1) := by decide +kernel
theorem dX6_isGate_13 : decode cX6_isGate 13 = .ok (.i2l, 1) := by decide +kernel
theorem dX6_isGate_14 : decode cX6_isGate 14 = .ok (.lconst 0, 1) := by decide +kernel
theorem dX6_isGate_15 : decode cX6_isGate 15 = .ok (.ldc2_w 108, 3) := by decide +kernel
theorem dX6_isGate_18 : decode cX6_isGate 18 = .ok (.invokestatic 74, 3) := by decide +kernel
theorem dX6_isGate_21 : decode cX6_isGate 21 = .ok (.ifCond .eq 7, 3) := by decide +kernel
theorem dX6_isGate_24 : decode cX6_isGate 24 = .ok (.iconst 1, 1) := by decide +kernel
theorem dX6_isGate_25 : decode cX6_isGate 25 = .ok (.goto 4, 3) := by decide +kernel
theorem dX6_isGate_28 : decode cX6_isGate 28 = .ok (.iconst 0, 1) := by decide +kernel
theorem dX6_isGate_29 : decode cX6_isGate 29 = .ok (.ireturn, 1) := by decide +kernel
theorem dX6_passes_0 : decode cX6_passes 0 = .ok (.iload_n 0, 1) := by decide +kernel
theorem dX6_passes_1 : decode cX6_passes 1 = .ok (.iload_n 1, 1) := by decide +kernel
theorem dX6_passes_2 : decode cX6_passes 2 = .ok (.iand, 1) := by decide +kernel
theorem dX6_passes_3 : decode cX6_passes 3 = .ok (.iload_n 2, 1) := by decide +kernel
theorem dX6_passes_4 : decode cX6_passes 4 = .ok (.iload_n 1, 1) := by decide +kernel
theorem dX6_passes_5 : decode cX6_passes 5 = .ok (.iand, 1) := by decide +kernel
theorem dX6_passes_6 : decode cX6_passes 6 = .ok (.if_icmp .ne 7, 3) := by decide +kernel
theorem dX6_passes_9 : decode cX6_passes 9 = .ok (.iconst 1, 1) := by decide +kernel
theorem dX6_passes_10 : decode cX6_passes 10 = .ok (.goto 4, 3) := by decide +kernel
theorem dX6_passes_13 : decode cX6_passes 13 = .ok (.iconst 0, 1) := by decide +kernel
theorem dX6_passes_14 : decode cX6_passes 14 = .ok (.ireturn, 1) := by decide +kernel
set_option maxRecDepth 20000 in
theorem ggX6_gated_X6_isPlace : GoodIn wsX6_gated wsX6_isPlace := goodIn_r _ [8, 3, 9, 10, 7, 11, 27, 28, 29, 30, 31, 32, 33, 34, 35, 36, 37, 38, 39, 40, 41, 42, 43, 44, 45, 46, 47, 48, 49, 50, 51] (by decide +kernel) (by decide +kernel)
set_option maxRecDepth 20000 in
theorem gX6_gated_X6_isPlace : GoodIn wsX6_gated (wsV RX6 78 RX6 yX6_isPlace wsX6_isPlace) := goodIn_app (goodIn_of _ (by decide +kernel)) ggX6_gated_X6_isPlace
set_option maxRecDepth 20000 in
theorem ggX6_gated_X6_isGate : GoodIn wsX6_gated wsX6_isGate := goodIn_r _ [14, 15, 9, 10, 7, 11] (by decide +kernel) (by decide +kernel)
set_option maxRecDepth 20000 in
theorem gX6_gated_X6_isGate : GoodIn wsX6_gated (va_wsS RX6 110 yX6_isGate wsX6_isGate) := goodIn_app (goodIn_of _ (by decide +kernel)) ggX6_gated_X6_isGate
set_option maxRecDepth 20000 in
theorem ggX6_gated_X6_passes : GoodIn wsX6_gated wsX6_passes := goodIn_r _ [18] (by decide +kernel) (by decide +kernel)
set_option maxRecDepth 20000 in
theorem gX6_gated_X6_passes : GoodIn wsX6_gated (va_wsS RX6 114 yX6_passes wsX6_passes) := goodIn_app (goodIn_of _ (by decide +kernel)) ggX6_gated_X6_passes
set_option maxRecDepth 20000 in
theorem ggX6_gated_X6_farOf : GoodIn wsX6_gated wsX6_farOf := goodIn_r _ [22, 3, 23, 24, 25, 7, 26, 27, 28, 29, 30, 31, 32, 33, 34, 35, 36, 37, 38, 39, 40, 41, 42, 43, 44, 45, 46, 47, 48, 49, 50, 51] (by decide +kernel) (by decide +kernel)
set_option maxRecDepth 20000 in
theorem gX6_gated_X6_farOf : GoodIn wsX6_gated (wsV RX6 90 RX6 yX6_farOf wsX6_farOf) := goodIn_app (goodIn_of _ (by decide +kernel)) ggX6_gated_X6_farOf
set_option maxRecDepth 20000 in
theorem ggX6_gated_X6_sign : GoodIn wsX6_gated wsX6_sign := goodIn_r _ [26] (by decide +kernel) (by decide +kernel)
set_option maxRecDepth 20000 in
theorem gX6_gated_X6_sign : GoodIn wsX6_gated (va_wsS RX6 86 yX6_sign wsX6_sign) := goodIn_app (goodIn_of _ (by decide +kernel)) ggX6_gated_X6_sign
theorem dX6_gated_0 : decode cX6_gated 0 = .ok (.aload_n 0, 1) := by decide +kernel
theorem dX6_gated_1 : decode cX6_gated 1 = .ok (.iload_n 1, 1) := by decide +kernel
theorem dX6_gated_2 : decode cX6_gated 2 = .ok (.invokevirtual 78, 3) := by decide +kernel
theorem dX6_gated_5 : decode cX6_gated 5 = .ok (.ifCond .ne 6, 3) := by decide +kernel
theorem dX6_gated_8 : decode cX6_gated 8 = .ok (.ldc 98, 2) := by decide +kernel
theorem dX6_gated_10 : decode cX6_gated 10 = .ok (.ireturn, 1) := by decide +kernel
theorem dX6_gated_11 : decode cX6_gated 11 = .ok (.iload_n 2, 1) := by decide +kernel
theorem dX6_gated_12 : decode cX6_gated 12 = .ok (.iload_n 3, 1) := by decide +kernel
theorem dX6_gated_13 : decode cX6_gated 13 = .ok (.invokestatic 110, 3) := by decide +kernel
theorem dX6_gated_16 : decode cX6_gated 16 = .ok (.ifCond .ne 6, 3) := by decide +kernel
theorem dX6_gated_19 : decode cX6_gated 19 = .ok (.ldc 103, 2) := by decide +kernel
theorem dX6_gated_21 : decode cX6_gated 21 = .ok (.ireturn, 1) := by decide +kernel
theorem dX6_gated_22 : decode cX6_gated 22 = .ok (.iconst 0, 1) := by decide +kernel
theorem dX6_gated_23 : decode cX6_gated 23 = .ok (.istore 4, 2) := by decide +kernel
theorem dX6_gated_25 : decode cX6_gated 25 = .ok (.iconst 0, 1) := by decide +kernel
theorem dX6_gated_26 : decode cX6_gated 26 = .ok (.istore 5, 2) := by decide +kernel
theorem dX6_gated_28 : decode cX6_gated 28 = .ok (.iload 5, 2) := by decide +kernel
theorem dX6_gated_30 : decode cX6_gated 30 = .ok (.aload_n 0, 1) := by decide +kernel
theorem dX6_gated_31 : decode cX6_gated 31 = .ok (.getfield 68, 3) := by decide +kernel
theorem dX6_gated_34 : decode cX6_gated 34 = .ok (.if_icmp .ge 41, 3) := by decide +kernel
theorem dX6_gated_37 : decode cX6_gated 37 = .ok (.iload 4, 2) := by decide +kernel
theorem dX6_gated_39 : decode cX6_gated 39 = .ok (.iload 5, 2) := by decide +kernel
theorem dX6_gated_41 : decode cX6_gated 41 = .ok (.iload_n 2, 1) := by decide +kernel
theorem dX6_gated_42 : decode cX6_gated 42 = .ok (.iload_n 3, 1) := by decide +kernel
theorem dX6_gated_43 : decode cX6_gated 43 = .ok (.invokestatic 114, 3) := by decide +kernel
theorem dX6_gated_46 : decode cX6_gated 46 = .ok (.ifCond .eq 19, 3) := by decide +kernel
theorem dX6_gated_49 : decode cX6_gated 49 = .ok (.aload_n 0, 1) := by decide +kernel
theorem dX6_gated_50 : decode cX6_gated 50 = .ok (.iload 5, 2) := by decide +kernel
theorem dX6_gated_52 : decode cX6_gated 52 = .ok (.invokevirtual 90, 3) := by decide +kernel
theorem dX6_gated_55 : decode cX6_gated 55 = .ok (.iload_n 1, 1) := by decide +kernel
theorem dX6_gated_56 : decode cX6_gated 56 = .ok (.iload 5, 2) := by decide +kernel
theorem dX6_gated_58 : decode cX6_gated 58 = .ok (.invokestatic 86, 3) := by decide +kernel
theorem dX6_gated_61 : decode cX6_gated 61 = .ok (.imul, 1) := by decide +kernel
theorem dX6_gated_62 : decode cX6_gated 62 = .ok (.goto 4, 3) := by decide +kernel
theorem dX6_gated_65 : decode cX6_gated 65 = .ok (.iconst 0, 1) := by decide +kernel
theorem dX6_gated_66 : decode cX6_gated 66 = .ok (.iadd, 1) := by decide +kernel
theorem dX6_gated_67 : decode cX6_gated 67 = .ok (.istore 4, 2) := by decide +kernel
theorem dX6_gated_69 : decode cX6_gated 69 = .ok (.iinc 5 1, 3) := by decide +kernel
theorem dX6_gated_72 : decode cX6_gated 72 = .ok (.goto (-44), 3) := by decide +kernel
theorem dX6_gated_75 : decode cX6_gated 75 = .ok (.iload 4, 2) := by decide +kernel
theorem dX6_gated_77 : decode cX6_gated 77 = .ok (.ireturn, 1) := by decide +kernel
set_option maxRecDepth 20000 in
theorem ggX6_power_X6_isGate : GoodIn wsX6_power wsX6_isGate := goodIn_r _ [6, 7, 8, 9, 5, 10] (by decide +kernel) (by decide +kernel)
set_option maxRecDepth 20000 in
theorem gX6_power_X6_isGate : GoodIn wsX6_power (va_wsS RX6 110 yX6_isGate wsX6_isGate) := goodIn_app (goodIn_of _ (by decide +kernel)) ggX6_power_X6_isGate
set_option maxRecDepth 20000 in
theorem ggX6_power_X6_farOf : GoodIn wsX6_power wsX6_farOf := goodIn_r _ [14, 2, 15, 16, 17, 5, 18, 22, 23, 24, 25, 26, 27, 28, 29, 30, 31, 32, 33, 34, 35, 36, 37, 38, 39, 40, 41, 42, 43, 44, 45, 46] (by decide +kernel) (by decide +kernel)
set_option maxRecDepth 20000 in
theorem gX6_power_X6_farOf : GoodIn wsX6_power (wsV RX6 90 RX6 yX6_farOf wsX6_farOf) := goodIn_app (goodIn_of _ (by decide +kernel)) ggX6_power_X6_farOf
set_option maxRecDepth 20000 in
theorem ggX6_power_X6_passes : GoodIn wsX6_power wsX6_passes := goodIn_r _ [21] (by decide +kernel) (by decide +kernel)
set_option maxRecDepth 20000 in
theorem gX6_power_X6_passes : GoodIn wsX6_power (va_wsS RX6 114 yX6_passes wsX6_passes) := goodIn_app (goodIn_of _ (by decide +kernel)) ggX6_power_X6_passes
theorem dX6_power_0 : decode cX6_power 0 = .ok (.iload_n 1, 1) := by decide +kernel
theorem dX6_power_1 : decode cX6_power 1 = .ok (.iload_n 2, 1) := by decide +kernel
theorem dX6_power_2 : decode cX6_power 2 = .ok (.invokestatic 110, 3) := by decide +kernel
theorem dX6_power_5 : decode cX6_power 5 = .ok (.ifCond .ne 7, 3) := by decide +kernel
theorem dX6_power_8 : decode cX6_power 8 = .ok (.ldc2_w 118, 3) := by decide +kernel
theorem dX6_power_11 : decode cX6_power 11 = .ok (.lreturn, 1) := by decide +kernel
theorem dX6_power_12 : decode cX6_power 12 = .ok (.lconst 0, 1) := by decide +kernel
theorem dX6_power_13 : decode cX6_power 13 = .ok (.lstore_n 3, 1) := by decide +kernel
theorem dX6_power_14 : decode cX6_power 14 = .ok (.iconst 0, 1) := by decide +kernel
theorem dX6_power_15 : decode cX6_power 15 = .ok (.istore 5, 2) := by decide +kernel
theorem dX6_power_17 : decode cX6_power 17 = .ok (.iload 5, 2) := by decide +kernel
theorem dX6_power_19 : decode cX6_power 19 = .ok (.aload_n 0, 1) := by decide +kernel
theorem dX6_power_20 : decode cX6_power 20 = .ok (.getfield 68, 3) := by decide +kernel
theorem dX6_power_23 : decode cX6_power 23 = .ok (.if_icmp .ge 40, 3) := by decide +kernel
theorem dX6_power_26 : decode cX6_power 26 = .ok (.aload_n 0, 1) := by decide +kernel
theorem dX6_power_27 : decode cX6_power 27 = .ok (.iload 5, 2) := by decide +kernel
theorem dX6_power_29 : decode cX6_power 29 = .ok (.invokevirtual 90, 3) := by decide +kernel
theorem dX6_power_32 : decode cX6_power 32 = .ok (.i2l, 1) := by decide +kernel
theorem dX6_power_33 : decode cX6_power 33 = .ok (.lstore 6, 2) := by decide +kernel
theorem dX6_power_35 : decode cX6_power 35 = .ok (.lload_n 3, 1) := by decide +kernel
theorem dX6_power_36 : decode cX6_power 36 = .ok (.iload 5, 2) := by decide +kernel
theorem dX6_power_38 : decode cX6_power 38 = .ok (.iload_n 1, 1) := by decide +kernel
theorem dX6_power_39 : decode cX6_power 39 = .ok (.iload_n 2, 1) := by decide +kernel
theorem dX6_power_40 : decode cX6_power 40 = .ok (.invokestatic 114, 3) := by decide +kernel
theorem dX6_power_43 : decode cX6_power 43 = .ok (.ifCond .eq 11, 3) := by decide +kernel
theorem dX6_power_46 : decode cX6_power 46 = .ok (.lload 6, 2) := by decide +kernel
theorem dX6_power_48 : decode cX6_power 48 = .ok (.lload 6, 2) := by decide +kernel
theorem dX6_power_50 : decode cX6_power 50 = .ok (.lmul, 1) := by decide +kernel
theorem dX6_power_51 : decode cX6_power 51 = .ok (.goto 4, 3) := by decide +kernel
theorem dX6_power_54 : decode cX6_power 54 = .ok (.lconst 0, 1) := by decide +kernel
theorem dX6_power_55 : decode cX6_power 55 = .ok (.ladd, 1) := by decide +kernel
theorem dX6_power_56 : decode cX6_power 56 = .ok (.lstore_n 3, 1) := by decide +kernel
theorem dX6_power_57 : decode cX6_power 57 = .ok (.iinc 5 1, 3) := by decide +kernel
theorem dX6_power_60 : decode cX6_power 60 = .ok (.goto (-43), 3) := by decide +kernel
theorem dX6_power_63 : decode cX6_power 63 = .ok (.lload_n 3, 1) := by decide +kernel
theorem dX6_power_64 : decode cX6_power 64 = .ok (.lreturn, 1) := by decide +kernel
theorem dX6_lostMany_0 : decode cX6_lostMany 0 = .ok (.iconst 0, 1) := by decide +kernel
theorem dX6_lostMany_1 : decode cX6_lostMany 1 = .ok (.istore_n 1, 1) := by decide +kernel
theorem dX6_lostMany_2 : decode cX6_lostMany 2 = .ok (.iconst 0, 1) := by decide +kernel
theorem dX6_lostMany_3 : decode cX6_lostMany 3 = .ok (.istore_n 2, 1) := by decide +kernel
theorem dX6_lostMany_4 : decode cX6_lostMany 4 = .ok (.iload_n 2, 1) := by decide +kernel
theorem dX6_lostMany_5 : decode cX6_lostMany 5 = .ok (.aload_n 0, 1) := by decide +kernel
theorem dX6_lostMany_6 : decode cX6_lostMany 6 = .ok (.getfield 68, 3) := by decide +kernel
theorem dX6_lostMany_9 : decode cX6_lostMany 9 = .ok (.if_icmp .ge 26, 3) := by decide +kernel
theorem dX6_lostMany_12 : decode cX6_lostMany 12 = .ok (.iload_n 1, 1) := by decide +kernel
theorem dX6_lostMany_13 : decode cX6_lostMany 13 = .ok (.aload_n 0, 1) := by decide +kernel
theorem dX6_lostMany_14 : decode cX6_lostMany 14 = .ok (.getfield 19, 3) := by decide +kernel
theorem dX6_lostMany_17 : decode cX6_lostMany 17 = .ok (.iload_n 2, 1) := by decide +kernel
theorem dX6_lostMany_18 : decode cX6_lostMany 18 = .ok (.baload, 1) := by decide +kernel
theorem dX6_lostMany_19 : decode cX6_lostMany 19 = .ok (.ifCond .eq 7, 3) := by decide +kernel
theorem dX6_lostMany_22 : decode cX6_lostMany 22 = .ok (.iconst 1, 1) := by decide +kernel
theorem dX6_lostMany_23 : decode cX6_lostMany 23 = .ok (.goto 4, 3) := by decide +kernel
theorem dX6_lostMany_26 : decode cX6_lostMany 26 = .ok (.iconst 0, 1) := by decide +kernel
theorem dX6_lostMany_27 : decode cX6_lostMany 27 = .ok (.iadd, 1) := by decide +kernel
theorem dX6_lostMany_28 : decode cX6_lostMany 28 = .ok (.istore_n 1, 1) := by decide +kernel
theorem dX6_lostMany_29 : decode cX6_lostMany 29 = .ok (.iinc 2 1, 3) := by decide +kernel
theorem dX6_lostMany_32 : decode cX6_lostMany 32 = .ok (.goto (-28), 3) := by decide +kernel
theorem dX6_lostMany_35 : decode cX6_lostMany 35 = .ok (.iload_n 1, 1) := by decide +kernel
theorem dX6_lostMany_36 : decode cX6_lostMany 36 = .ok (.ireturn, 1) := by decide +kernel
set_option maxRecDepth 20000 in
theorem ggX6_lose_X6_isPlace : GoodIn wsX6_lose wsX6_isPlace := goodIn_r _ [6, 7, 8, 9, 5, 10, 15, 16, 17, 18, 19, 20, 21, 22, 23, 24, 25, 26, 27, 28, 29, 30, 31, 32, 33, 34, 35, 36, 37, 38, 39] (by decide +kernel) (by decide +kernel)
set_option maxRecDepth 20000 in
theorem gX6_lose_X6_isPlace : GoodIn wsX6_lose (wsV RX6 78 RX6 yX6_isPlace wsX6_isPlace) := goodIn_app (goodIn_of _ (by decide +kernel)) ggX6_lose_X6_isPlace
set_option maxRecDepth 20000 in
theorem ggX6_lose_X6_lostMany : GoodIn wsX6_lose wsX6_lostMany := goodIn_r _ [14, 7, 1, 15, 16, 17, 18, 19, 20, 21, 22, 23, 24, 25, 26, 27, 28, 29, 30, 31, 32, 33, 34, 35, 36, 37, 38, 39] (by decide +kernel) (by decide +kernel)
set_option maxRecDepth 20000 in
theorem gX6_lose_X6_lostMany : GoodIn wsX6_lose (wsV RX6 120 RX6 yX6_lostMany wsX6_lostMany) := goodIn_app (goodIn_of _ (by decide +kernel)) ggX6_lose_X6_lostMany
theorem dX6_lose_0 : decode cX6_lose 0 = .ok (.aload_n 0, 1) := by decide +kernel
theorem dX6_lose_1 : decode cX6_lose 1 = .ok (.iload_n 1, 1) := by decide +kernel
theorem dX6_lose_2 : decode cX6_lose 2 = .ok (.invokevirtual 78, 3) := by decide +kernel
theorem dX6_lose_5 : decode cX6_lose 5 = .ok (.ifCond .ne 6, 3) := by decide +kernel
theorem dX6_lose_8 : decode cX6_lose 8 = .ok (.bipush (-101), 2) := by decide +kernel
theorem dX6_lose_10 : decode cX6_lose 10 = .ok (.ireturn, 1) := by decide +kernel
theorem dX6_lose_11 : decode cX6_lose 11 = .ok (.iload_n 2, 1) := by decide +kernel
theorem dX6_lose_12 : decode cX6_lose 12 = .ok (.ifCond .eq 23, 3) := by decide +kernel
theorem dX6_lose_15 : decode cX6_lose 15 = .ok (.aload_n 0, 1) := by decide +kernel
theorem dX6_lose_16 : decode cX6_lose 16 = .ok (.getfield 19, 3) := by decide +kernel
theorem dX6_lose_19 : decode cX6_lose 19 = .ok (.iload_n 1, 1) := by decide +kernel
theorem dX6_lose_20 : decode cX6_lose 20 = .ok (.baload, 1) := by decide +kernel
theorem dX6_lose_21 : decode cX6_lose 21 = .ok (.ifCond .ne 14, 3) := by decide +kernel
theorem dX6_lose_24 : decode cX6_lose 24 = .ok (.aload_n 0, 1) := by decide +kernel
theorem dX6_lose_25 : decode cX6_lose 25 = .ok (.invokevirtual 120, 3) := by decide +kernel
theorem dX6_lose_28 : decode cX6_lose 28 = .ok (.iconst 5, 1) := by decide +kernel
theorem dX6_lose_29 : decode cX6_lose 29 = .ok (.if_icmp .ne 6, 3) := by decide +kernel
theorem dX6_lose_32 : decode cX6_lose 32 = .ok (.bipush (-104), 2) := by decide +kernel
theorem dX6_lose_34 : decode cX6_lose 34 = .ok (.ireturn, 1) := by decide +kernel
theorem dX6_lose_35 : decode cX6_lose 35 = .ok (.aload_n 0, 1) := by decide +kernel
theorem dX6_lose_36 : decode cX6_lose 36 = .ok (.getfield 19, 3) := by decide +kernel
theorem dX6_lose_39 : decode cX6_lose 39 = .ok (.iload_n 1, 1) := by decide +kernel
theorem dX6_lose_40 : decode cX6_lose 40 = .ok (.baload, 1) := by decide +kernel
theorem dX6_lose_41 : decode cX6_lose 41 = .ok (.ifCond .eq 7, 3) := by decide +kernel
theorem dX6_lose_44 : decode cX6_lose 44 = .ok (.iconst 1, 1) := by decide +kernel
theorem dX6_lose_45 : decode cX6_lose 45 = .ok (.goto 4, 3) := by decide +kernel
theorem dX6_lose_48 : decode cX6_lose 48 = .ok (.iconst 0, 1) := by decide +kernel
theorem dX6_lose_49 : decode cX6_lose 49 = .ok (.istore_n 3, 1) := by decide +kernel
theorem dX6_lose_50 : decode cX6_lose 50 = .ok (.aload_n 0, 1) := by decide +kernel
theorem dX6_lose_51 : decode cX6_lose 51 = .ok (.getfield 19, 3) := by decide +kernel
theorem dX6_lose_54 : decode cX6_lose 54 = .ok (.iload_n 1, 1) := by decide +kernel
theorem dX6_lose_55 : decode cX6_lose 55 = .ok (.iload_n 2, 1) := by decide +kernel
theorem dX6_lose_56 : decode cX6_lose 56 = .ok (.bastore, 1) := by decide +kernel
theorem dX6_lose_57 : decode cX6_lose 57 = .ok (.iload_n 3, 1) := by decide +kernel
theorem dX6_lose_58 : decode cX6_lose 58 = .ok (.ireturn, 1) := by decide +kernel
set_option maxRecDepth 20000 in
theorem ggX6_solve_X6_passes : GoodIn wsX6_solve wsX6_passes := goodIn_r _ [12] (by decide +kernel) (by decide +kernel)
set_option maxRecDepth 20000 in
theorem gX6_solve_X6_passes : GoodIn wsX6_solve (va_wsS RX6 114 yX6_passes wsX6_passes) := goodIn_app (goodIn_of _ (by decide +kernel)) ggX6_solve_X6_passes
set_option maxRecDepth 20000 in
theorem ggX6_solve_X6_sign : GoodIn wsX6_solve wsX6_sign := goodIn_r _ [15] (by decide +kernel) (by decide +kernel)
set_option maxRecDepth 20000 in
theorem gX6_solve_X6_sign : GoodIn wsX6_solve (va_wsS RX6 86 yX6_sign wsX6_sign) := goodIn_app (goodIn_of _ (by decide +kernel)) ggX6_solve_X6_sign
set_option maxRecDepth 20000 in
theorem ggX6_solve_X6_turn : GoodIn wsX6_solve wsX6_turn := goodIn_r _ [19, 7, 27, 28, 29, 30, 31, 32, 33, 34, 35, 36, 37, 38, 39, 40, 41, 42, 43, 44, 45, 46, 47, 48, 49, 50, 51] (by decide +kernel) (by decide +kernel)
set_option maxRecDepth 20000 in
theorem gX6_solve_X6_turn : GoodIn wsX6_solve (wsV RX6 130 RX6 yX6_turn wsX6_turn) := goodIn_app (goodIn_of _ (by decide +kernel)) ggX6_solve_X6_turn
set_option maxRecDepth 20000 in
theorem ggX6_solve_X6_clear : GoodIn wsX6_solve wsX6_clear := goodIn_r _ [23, 7, 1, 24, 25, 11, 26, 27, 28, 29, 30, 31, 32, 33, 34, 35, 36, 37, 38, 39, 40, 41, 42, 43, 44, 45, 46, 47, 48, 49, 50, 51] (by decide +kernel) (by decide +kernel)
set_option maxRecDepth 20000 in
theorem gX6_solve_X6_clear : GoodIn wsX6_solve (wsV RX6 134 RX6 yX6_clear wsX6_clear) := goodIn_app (goodIn_of _ (by decide +kernel)) ggX6_solve_X6_clear
theorem dX6_solve_0 : decode cX6_solve 0 = .ok (.aload_n 0, 1) := by decide +kernel
theorem dX6_solve_1 : decode cX6_solve 1 = .ok (.iconst 0, 1) := by decide +kernel
theorem dX6_solve_2 : decode cX6_solve 2 = .ok (.putfield 124, 3) := by decide +kernel
theorem dX6_solve_5 : decode cX6_solve 5 = .ok (.iconst 0, 1) := by decide +kernel
theorem dX6_solve_6 : decode cX6_solve 6 = .ok (.istore_n 3, 1) := by decide +kernel
theorem dX6_solve_7 : decode cX6_solve 7 = .ok (.iload_n 3, 1) := by decide +kernel
theorem dX6_solve_8 : decode cX6_solve 8 = .ok (.aload_n 0, 1) := by decide +kernel
theorem dX6_solve_9 : decode cX6_solve 9 = .ok (.getfield 68, 3) := by decide +kernel
theorem dX6_solve_12 : decode cX6_solve 12 = .ok (.if_icmp .ge 38, 3) := by decide +kernel
theorem dX6_solve_15 : decode cX6_solve 15 = .ok (.aload_n 0, 1) := by decide +kernel
theorem dX6_solve_16 : decode cX6_solve 16 = .ok (.getfield 19, 3) := by decide +kernel
theorem dX6_solve_19 : decode cX6_solve 19 = .ok (.iload_n 3, 1) := by decide +kernel
theorem dX6_solve_20 : decode cX6_solve 20 = .ok (.baload, 1) := by decide +kernel
theorem dX6_solve_21 : decode cX6_solve 21 = .ok (.ifCond .eq 23, 3) := by decide +kernel
theorem dX6_solve_24 : decode cX6_solve 24 = .ok (.aload_n 0, 1) := by decide +kernel
theorem dX6_solve_25 : decode cX6_solve 25 = .ok (.getfield 36, 3) := by decide +kernel
theorem dX6_solve_28 : decode cX6_solve 28 = .ok (.aload_n 0, 1) := by decide +kernel
theorem dX6_solve_29 : decode cX6_solve 29 = .ok (.getfield 124, 3) := by decide +kernel
theorem dX6_solve_32 : decode cX6_solve 32 = .ok (.iload_n 3, 1) := by decide +kernel
theorem dX6_solve_33 : decode cX6_solve 33 = .ok (.iastore, 1) := by decide +kernel
theorem dX6_solve_34 : decode cX6_solve 34 = .ok (.aload_n 0, 1) := by decide +kernel
theorem dX6_solve_35 : decode cX6_solve 35 = .ok (.dup, 1) := by decide +kernel
theorem dX6_solve_36 : decode cX6_solve 36 = .ok (.getfield 124, 3) := by decide +kernel
theorem dX6_solve_39 : decode cX6_solve 39 = .ok (.iconst 1, 1) := by decide +kernel
theorem dX6_solve_40 : decode cX6_solve 40 = .ok (.iadd, 1) := by decide +kernel
theorem dX6_solve_41 : decode cX6_solve 41 = .ok (.putfield 124, 3) := by decide +kernel
theorem dX6_solve_44 : decode cX6_solve 44 = .ok (.iinc 3 1, 3) := by decide +kernel
theorem dX6_solve_47 : decode cX6_solve 47 = .ok (.goto (-40), 3) := by decide +kernel
theorem dX6_solve_50 : decode cX6_solve 50 = .ok (.aload_n 0, 1) := by decide +kernel
theorem dX6_solve_51 : decode cX6_solve 51 = .ok (.iconst 0, 1) := by decide +kernel
theorem dX6_solve_52 : decode cX6_solve 52 = .ok (.putfield 127, 3) := by decide +kernel
theorem dX6_solve_55 : decode cX6_solve 55 = .ok (.iconst 0, 1) := by decide +kernel
theorem dX6_solve_56 : decode cX6_solve 56 = .ok (.istore_n 3, 1) := by decide +kernel
theorem dX6_solve_57 : decode cX6_solve 57 = .ok (.iload_n 3, 1) := by decide +kernel
theorem dX6_solve_58 : decode cX6_solve 58 = .ok (.aload_n 0, 1) := by decide +kernel
theorem dX6_solve_59 : decode cX6_solve 59 = .ok (.getfield 68, 3) := by decide +kernel
theorem dX6_solve_62 : decode cX6_solve 62 = .ok (.if_icmp .ge 144, 3) := by decide +kernel
theorem dX6_solve_65 : decode cX6_solve 65 = .ok (.iload_n 3, 1) := by decide +kernel
theorem dX6_solve_66 : decode cX6_solve 66 = .ok (.iload_n 1, 1) := by decide +kernel
theorem dX6_solve_67 : decode cX6_solve 67 = .ok (.iload_n 2, 1) := by decide +kernel
theorem dX6_solve_68 : decode cX6_solve 68 = .ok (.invokestatic 114, 3) := by decide +kernel
theorem dX6_solve_71 : decode cX6_solve 71 = .ok (.ifCond .ne 129, 3) := by decide +kernel
theorem dX6_solve_74 : decode cX6_solve 74 = .ok (.lconst 0, 1) := by decide +kernel
theorem dX6_solve_75 : decode cX6_solve 75 = .ok (.lstore 4, 2) := by decide +kernel
theorem dX6_solve_77 : decode cX6_solve 77 = .ok (.iconst 0, 1) := by decide +kernel
theorem dX6_solve_78 : decode cX6_solve 78 = .ok (.istore 6, 2) := by decide +kernel
theorem dX6_solve_80 : decode cX6_solve 80 = .ok (.iload 6, 2) := by decide +kernel
theorem dX6_solve_82 : decode cX6_solve 82 = .ok (.aload_n 0, 1) := by decide +kernel
theorem dX6_solve_83 : decode cX6_solve 83 = .ok (.getfield 68, 3) := by decide +kernel
theorem dX6_solve_86 : decode cX6_solve 86 = .ok (.if_icmp .ge 43, 3) := by decide +kernel
theorem dX6_solve_89 : decode cX6_solve 89 = .ok (.lload 4, 2) := by decide +kernel
theorem dX6_solve_91 : decode cX6_solve 91 = .ok (.aload_n 0, 1) := by decide +kernel
theorem dX6_solve_92 : decode cX6_solve 92 = .ok (.getfield 19, 3) := by decide +kernel
theorem dX6_solve_95 : decode cX6_solve 95 = .ok (.iload 6, 2) := by decide +kernel
theorem dX6_solve_97 : decode cX6_solve 97 = .ok (.baload, 1) := by decide +kernel
theorem dX6_solve_98 : decode cX6_solve 98 = .ok (.ifCond .eq 7, 3) := by decide +kernel
theorem dX6_solve_101 : decode cX6_solve 101 = .ok (.lconst 0, 1) := by decide +kernel
theorem dX6_solve_102 : decode cX6_solve 102 = .ok (.goto 18, 3) := by decide +kernel
theorem dX6_solve_105 : decode cX6_solve 105 = .ok (.aload_n 0, 1) := by decide +kernel
theorem dX6_solve_106 : decode cX6_solve 106 = .ok (.getfield 7, 3) := by decide +kernel
theorem dX6_solve_109 : decode cX6_solve 109 = .ok (.iload 6, 2) := by decide +kernel
theorem dX6_solve_111 : decode cX6_solve 111 = .ok (.iaload, 1) := by decide +kernel
theorem dX6_solve_112 : decode cX6_solve 112 = .ok (.iload 6, 2) := by decide +kernel
theorem dX6_solve_114 : decode cX6_solve 114 = .ok (.iload_n 3, 1) := by decide +kernel
theorem dX6_solve_115 : decode cX6_solve 115 = .ok (.invokestatic 86, 3) := by decide +kernel
theorem dX6_solve_118 : decode cX6_solve 118 = .ok (.imul, 1) := by decide +kernel
theorem dX6_solve_119 : decode cX6_solve 119 = .ok (.i2l, 1) := by decide +kernel
theorem dX6_solve_120 : decode cX6_solve 120 = .ok (.lsub, 1) := by decide +kernel
theorem dX6_solve_121 : decode cX6_solve 121 = .ok (.lstore 4, 2) := by decide +kernel
theorem dX6_solve_123 : decode cX6_solve 123 = .ok (.iinc 6 1, 3) := by decide +kernel
theorem dX6_solve_126 : decode cX6_solve 126 = .ok (.goto (-46), 3) := by decide +kernel
theorem dX6_solve_129 : decode cX6_solve 129 = .ok (.iconst 0, 1) := by decide +kernel
theorem dX6_solve_130 : decode cX6_solve 130 = .ok (.istore 6, 2) := by decide +kernel
theorem dX6_solve_132 : decode cX6_solve 132 = .ok (.iload 6, 2) := by decide +kernel
theorem dX6_solve_134 : decode cX6_solve 134 = .ok (.aload_n 0, 1) := by decide +kernel
theorem dX6_solve_135 : decode cX6_solve 135 = .ok (.getfield 124, 3) := by decide +kernel
theorem dX6_solve_138 : decode cX6_solve 138 = .ok (.if_icmp .ge 36, 3) := by decide +kernel
theorem dX6_solve_141 : decode cX6_solve 141 = .ok (.aload_n 0, 1) := by decide +kernel
theorem dX6_solve_142 : decode cX6_solve 142 = .ok (.getfield 32, 3) := by decide +kernel
theorem dX6_solve_145 : decode cX6_solve 145 = .ok (.bipush 6, 2) := by decide +kernel
theorem dX6_solve_147 : decode cX6_solve 147 = .ok (.aload_n 0, 1) := by decide +kernel
theorem dX6_solve_148 : decode cX6_solve 148 = .ok (.getfield 127, 3) := by decide +kernel
theorem dX6_solve_151 : decode cX6_solve 151 = .ok (.imul, 1) := by decide +kernel
theorem dX6_solve_152 : decode cX6_solve 152 = .ok (.iload 6, 2) := by decide +kernel
theorem dX6_solve_154 : decode cX6_solve 154 = .ok (.iadd, 1) := by decide +kernel
theorem dX6_solve_155 : decode cX6_solve 155 = .ok (.aload_n 0, 1) := by decide +kernel
theorem dX6_solve_156 : decode cX6_solve 156 = .ok (.getfield 36, 3) := by decide +kernel
theorem dX6_solve_159 : decode cX6_solve 159 = .ok (.iload 6, 2) := by decide +kernel
theorem dX6_solve_161 : decode cX6_solve 161 = .ok (.iaload, 1) := by decide +kernel
theorem dX6_solve_162 : decode cX6_solve 162 = .ok (.iload_n 3, 1) := by decide +kernel
theorem dX6_solve_163 : decode cX6_solve 163 = .ok (.invokestatic 86, 3) := by decide +kernel
theorem dX6_solve_166 : decode cX6_solve 166 = .ok (.i2l, 1) := by decide +kernel
theorem dX6_solve_167 : decode cX6_solve 167 = .ok (.lastore, 1) := by decide +kernel
theorem dX6_solve_168 : decode cX6_solve 168 = .ok (.iinc 6 1, 3) := by decide +kernel
theorem dX6_solve_171 : decode cX6_solve 171 = .ok (.goto (-39), 3) := by decide +kernel
theorem dX6_solve_174 : decode cX6_solve 174 = .ok (.aload_n 0, 1) := by decide +kernel
theorem dX6_solve_175 : decode cX6_solve 175 = .ok (.getfield 32, 3) := by decide +kernel
theorem dX6_solve_178 : decode cX6_solve 178 = .ok (.bipush 6, 2) := by decide +kernel
theorem dX6_solve_180 : decode cX6_solve 180 = .ok (.aload_n 0, 1) := by decide +kernel
theorem dX6_solve_181 : decode cX6_solve 181 = .ok (.getfield 127, 3) := by decide +kernel
theorem dX6_solve_184 : decode cX6_solve 184 = .ok (.imul, 1) := by decide +kernel
theorem dX6_solve_185 : decode cX6_solve 185 = .ok (.iconst 5, 1) := by decide +kernel
theorem dX6_solve_186 : decode cX6_solve 186 = .ok (.iadd, 1) := by decide +kernel
theorem dX6_solve_187 : decode cX6_solve 187 = .ok (.lload 4, 2) := by decide +kernel
theorem dX6_solve_189 : decode cX6_solve 189 = .ok (.lastore, 1) := by decide +kernel
theorem dX6_solve_190 : decode cX6_solve 190 = .ok (.aload_n 0, 1) := by decide +kernel
theorem dX6_solve_191 : decode cX6_solve 191 = .ok (.dup, 1) := by decide +kernel
theorem dX6_solve_192 : decode cX6_solve 192 = .ok (.getfield 127, 3) := by decide +kernel
theorem dX6_solve_195 : decode cX6_solve 195 = .ok (.iconst 1, 1) := by decide +kernel
theorem dX6_solve_196 : decode cX6_solve 196 = .ok (.iadd, 1) := by decide +kernel
theorem dX6_solve_197 : decode cX6_solve 197 = .ok (.putfield 127, 3) := by decide +kernel
theorem dX6_solve_200 : decode cX6_solve 200 = .ok (.iinc 3 1, 3) := by decide +kernel
theorem dX6_solve_203 : decode cX6_solve 203 = .ok (.goto (-146), 3) := by decide +kernel
theorem dX6_solve_206 : decode cX6_solve 206 = .ok (.iconst 0, 1) := by decide +kernel
theorem dX6_solve_207 : decode cX6_solve 207 = .ok (.istore_n 3, 1) := by decide +kernel
theorem dX6_solve_208 : decode cX6_solve 208 = .ok (.iconst 0, 1) := by decide +kernel
theorem dX6_solve_209 : decode cX6_solve 209 = .ok (.istore 4, 2) := by decide +kernel
theorem dX6_solve_211 : decode cX6_solve 211 = .ok (.iload 4, 2) := by decide +kernel
theorem dX6_solve_213 : decode cX6_solve 213 = .ok (.aload_n 0, 1) := by decide +kernel
theorem dX6_solve_214 : decode cX6_solve 214 = .ok (.getfield 124, 3) := by decide +kernel
theorem dX6_solve_217 : decode cX6_solve 217 = .ok (.if_icmp .ge 113, 3) := by decide +kernel
theorem dX6_solve_220 : decode cX6_solve 220 = .ok (.aload_n 0, 1) := by decide +kernel
theorem dX6_solve_221 : decode cX6_solve 221 = .ok (.getfield 39, 3) := by decide +kernel
theorem dX6_solve_224 : decode cX6_solve 224 = .ok (.iload 4, 2) := by decide +kernel
theorem dX6_solve_226 : decode cX6_solve 226 = .ok (.iconst (-1), 1) := by decide +kernel
theorem dX6_solve_227 : decode cX6_solve 227 = .ok (.iastore, 1) := by decide +kernel
theorem dX6_solve_228 : decode cX6_solve 228 = .ok (.iload_n 3, 1) := by decide +kernel
theorem dX6_solve_229 : decode cX6_solve 229 = .ok (.istore 5, 2) := by decide +kernel
theorem dX6_solve_231 : decode cX6_solve 231 = .ok (.iload 5, 2) := by decide +kernel
theorem dX6_solve_233 : decode cX6_solve 233 = .ok (.aload_n 0, 1) := by decide +kernel
theorem dX6_solve_234 : decode cX6_solve 234 = .ok (.getfield 127, 3) := by decide +kernel
theorem dX6_solve_237 : decode cX6_solve 237 = .ok (.if_icmp .ge 27, 3) := by decide +kernel
theorem dX6_solve_240 : decode cX6_solve 240 = .ok (.aload_n 0, 1) := by decide +kernel
theorem dX6_solve_241 : decode cX6_solve 241 = .ok (.getfield 32, 3) := by decide +kernel
theorem dX6_solve_244 : decode cX6_solve 244 = .ok (.bipush 6, 2) := by decide +kernel
theorem dX6_solve_246 : decode cX6_solve 246 = .ok (.iload 5, 2) := by decide +kernel
theorem dX6_solve_248 : decode cX6_solve 248 = .ok (.imul, 1) := by decide +kernel
theorem dX6_solve_249 : decode cX6_solve 249 = .ok (.iload 4, 2) := by decide +kernel
theorem dX6_solve_251 : decode cX6_solve 251 = .ok (.iadd, 1) := by decide +kernel
theorem dX6_solve_252 : decode cX6_solve 252 = .ok (.laload, 1) := by decide +kernel
theorem dX6_solve_253 : decode cX6_solve 253 = .ok (.lconst 0, 1) := by decide +kernel
theorem dX6_solve_254 : decode cX6_solve 254 = .ok (.lcmp, 1) := by decide +kernel
theorem dX6_solve_255 : decode cX6_solve 255 = .ok (.ifCond .ne 9, 3) := by decide +kernel
theorem dX6_solve_258 : decode cX6_solve 258 = .ok (.iinc 5 1, 3) := by decide +kernel
theorem dX6_solve_261 : decode cX6_solve 261 = .ok (.goto (-30), 3) := by decide +kernel
theorem dX6_solve_264 : decode cX6_solve 264 = .ok (.iload 5, 2) := by decide +kernel
theorem dX6_solve_266 : decode cX6_solve 266 = .ok (.aload_n 0, 1) := by decide +kernel
theorem dX6_solve_267 : decode cX6_solve 267 = .ok (.getfield 127, 3) := by decide +kernel
theorem dX6_solve_270 : decode cX6_solve 270 = .ok (.if_icmp .ge 54, 3) := by decide +kernel
theorem dX6_solve_273 : decode cX6_solve 273 = .ok (.aload_n 0, 1) := by decide +kernel
theorem dX6_solve_274 : decode cX6_solve 274 = .ok (.iload 5, 2) := by decide +kernel
theorem dX6_solve_276 : decode cX6_solve 276 = .ok (.iload_n 3, 1) := by decide +kernel
theorem dX6_solve_277 : decode cX6_solve 277 = .ok (.invokevirtual 130, 3) := by decide +kernel
theorem dX6_solve_280 : decode cX6_solve 280 = .ok (.iconst 0, 1) := by decide +kernel
theorem dX6_solve_281 : decode cX6_solve 281 = .ok (.istore 6, 2) := by decide +kernel
theorem dX6_solve_283 : decode cX6_solve 283 = .ok (.iload 6, 2) := by decide +kernel
theorem dX6_solve_285 : decode cX6_solve 285 = .ok (.aload_n 0, 1) := by decide +kernel
theorem dX6_solve_286 : decode cX6_solve 286 = .ok (.getfield 127, 3) := by decide +kernel
theorem dX6_solve_289 : decode cX6_solve 289 = .ok (.if_icmp .ge 24, 3) := by decide +kernel
theorem dX6_solve_292 : decode cX6_solve 292 = .ok (.iload 6, 2) := by decide +kernel
theorem dX6_solve_294 : decode cX6_solve 294 = .ok (.iload_n 3, 1) := by decide +kernel
theorem dX6_solve_295 : decode cX6_solve 295 = .ok (.if_icmp .eq 12, 3) := by decide +kernel
theorem dX6_solve_298 : decode cX6_solve 298 = .ok (.aload_n 0, 1) := by decide +kernel
theorem dX6_solve_299 : decode cX6_solve 299 = .ok (.iload 6, 2) := by decide +kernel
theorem dX6_solve_301 : decode cX6_solve 301 = .ok (.iload_n 3, 1) := by decide +kernel
theorem dX6_solve_302 : decode cX6_solve 302 = .ok (.iload 4, 2) := by decide +kernel
theorem dX6_solve_304 : decode cX6_solve 304 = .ok (.invokevirtual 134, 3) := by decide +kernel
theorem dX6_solve_307 : decode cX6_solve 307 = .ok (.iinc 6 1, 3) := by decide +kernel
theorem dX6_solve_310 : decode cX6_solve 310 = .ok (.goto (-27), 3) := by decide +kernel
theorem dX6_solve_313 : decode cX6_solve 313 = .ok (.aload_n 0, 1) := by decide +kernel
theorem dX6_solve_314 : decode cX6_solve 314 = .ok (.getfield 39, 3) := by decide +kernel
theorem dX6_solve_317 : decode cX6_solve 317 = .ok (.iload 4, 2) := by decide +kernel
theorem dX6_solve_319 : decode cX6_solve 319 = .ok (.iload_n 3, 1) := by decide +kernel
theorem dX6_solve_320 : decode cX6_solve 320 = .ok (.iastore, 1) := by decide +kernel
theorem dX6_solve_321 : decode cX6_solve 321 = .ok (.iinc 3 1, 3) := by decide +kernel
theorem dX6_solve_324 : decode cX6_solve 324 = .ok (.iinc 4 1, 3) := by decide +kernel
theorem dX6_solve_327 : decode cX6_solve 327 = .ok (.goto (-116), 3) := by decide +kernel
theorem dX6_solve_330 : decode cX6_solve 330 = .ok (.iload_n 3, 1) := by decide +kernel
theorem dX6_solve_331 : decode cX6_solve 331 = .ok (.istore 4, 2) := by decide +kernel
theorem dX6_solve_333 : decode cX6_solve 333 = .ok (.iload 4, 2) := by decide +kernel
theorem dX6_solve_335 : decode cX6_solve 335 = .ok (.aload_n 0, 1) := by decide +kernel
theorem dX6_solve_336 : decode cX6_solve 336 = .ok (.getfield 127, 3) := by decide +kernel
theorem dX6_solve_339 : decode cX6_solve 339 = .ok (.if_icmp .ge 28, 3) := by decide +kernel
theorem dX6_solve_342 : decode cX6_solve 342 = .ok (.aload_n 0, 1) := by decide +kernel
theorem dX6_solve_343 : decode cX6_solve 343 = .ok (.getfield 32, 3) := by decide +kernel
theorem dX6_solve_346 : decode cX6_solve 346 = .ok (.bipush 6, 2) := by decide +kernel
theorem dX6_solve_348 : decode cX6_solve 348 = .ok (.iload 4, 2) := by decide +kernel
theorem dX6_solve_350 : decode cX6_solve 350 = .ok (.imul, 1) := by decide +kernel
theorem dX6_solve_351 : decode cX6_solve 351 = .ok (.iconst 5, 1) := by decide +kernel
theorem dX6_solve_352 : decode cX6_solve 352 = .ok (.iadd, 1) := by decide +kernel
theorem dX6_solve_353 : decode cX6_solve 353 = .ok (.laload, 1) := by decide +kernel
theorem dX6_solve_354 : decode cX6_solve 354 = .ok (.lconst 0, 1) := by decide +kernel
theorem dX6_solve_355 : decode cX6_solve 355 = .ok (.lcmp, 1) := by decide +kernel
theorem dX6_solve_356 : decode cX6_solve 356 = .ok (.ifCond .eq 5, 3) := by decide +kernel
theorem dX6_solve_359 : decode cX6_solve 359 = .ok (.iconst 0, 1) := by decide +kernel
theorem dX6_solve_360 : decode cX6_solve 360 = .ok (.ireturn, 1) := by decide +kernel
theorem dX6_solve_361 : decode cX6_solve 361 = .ok (.iinc 4 1, 3) := by decide +kernel
theorem dX6_solve_364 : decode cX6_solve 364 = .ok (.goto (-31), 3) := by decide +kernel
theorem dX6_solve_367 : decode cX6_solve 367 = .ok (.iload_n 3, 1) := by decide +kernel
theorem dX6_solve_368 : decode cX6_solve 368 = .ok (.aload_n 0, 1) := by decide +kernel
theorem dX6_solve_369 : decode cX6_solve 369 = .ok (.getfield 124, 3) := by decide +kernel
theorem dX6_solve_372 : decode cX6_solve 372 = .ok (.if_icmp .ne 7, 3) := by decide +kernel
theorem dX6_solve_375 : decode cX6_solve 375 = .ok (.iconst 1, 1) := by decide +kernel
theorem dX6_solve_376 : decode cX6_solve 376 = .ok (.goto 4, 3) := by decide +kernel
theorem dX6_solve_379 : decode cX6_solve 379 = .ok (.iconst 2, 1) := by decide +kernel
theorem dX6_solve_380 : decode cX6_solve 380 = .ok (.ireturn, 1) := by decide +kernel
theorem dX6_turn_0 : decode cX6_turn 0 = .ok (.iconst 0, 1) := by decide +kernel
theorem dX6_turn_1 : decode cX6_turn 1 = .ok (.istore_n 3, 1) := by decide +kernel
theorem dX6_turn_2 : decode cX6_turn 2 = .ok (.iload_n 3, 1) := by decide +kernel
theorem dX6_turn_3 : decode cX6_turn 3 = .ok (.bipush 6, 2) := by decide +kernel
theorem dX6_turn_5 : decode cX6_turn 5 = .ok (.if_icmp .ge 57, 3) := by decide +kernel
theorem dX6_turn_8 : decode cX6_turn 8 = .ok (.aload_n 0, 1) := by decide +kernel
theorem dX6_turn_9 : decode cX6_turn 9 = .ok (.getfield 32, 3) := by decide +kernel
theorem dX6_turn_12 : decode cX6_turn 12 = .ok (.bipush 6, 2) := by decide +kernel
theorem dX6_turn_14 : decode cX6_turn 14 = .ok (.iload_n 1, 1) := by decide +kernel
theorem dX6_turn_15 : decode cX6_turn 15 = .ok (.imul, 1) := by decide +kernel
theorem dX6_turn_16 : decode cX6_turn 16 = .ok (.iload_n 3, 1) := by decide +kernel
theorem dX6_turn_17 : decode cX6_turn 17 = .ok (.iadd, 1) := by decide +kernel
theorem dX6_turn_18 : decode cX6_turn 18 = .ok (.laload, 1) := by decide +kernel
theorem dX6_turn_19 : decode cX6_turn 19 = .ok (.lstore 4, 2) := by decide +kernel
theorem dX6_turn_21 : decode cX6_turn 21 = .ok (.aload_n 0, 1) := by decide +kernel
theorem dX6_turn_22 : decode cX6_turn 22 = .ok (.getfield 32, 3) := by decide +kernel
theorem dX6_turn_25 : decode cX6_turn 25 = .ok (.bipush 6, 2) := by decide +kernel
theorem dX6_turn_27 : decode cX6_turn 27 = .ok (.iload_n 1, 1) := by decide +kernel
theorem dX6_turn_28 : decode cX6_turn 28 = .ok (.imul, 1) := by decide +kernel
theorem dX6_turn_29 : decode cX6_turn 29 = .ok (.iload_n 3, 1) := by decide +kernel
theorem dX6_turn_30 : decode cX6_turn 30 = .ok (.iadd, 1) := by decide +kernel
theorem dX6_turn_31 : decode cX6_turn 31 = .ok (.aload_n 0, 1) := by decide +kernel
theorem dX6_turn_32 : decode cX6_turn 32 = .ok (.getfield 32, 3) := by decide +kernel
theorem dX6_turn_35 : decode cX6_turn 35 = .ok (.bipush 6, 2) := by decide +kernel
theorem dX6_turn_37 : decode cX6_turn 37 = .ok (.iload_n 2, 1) := by decide +kernel
theorem dX6_turn_38 : decode cX6_turn 38 = .ok (.imul, 1) := by decide +kernel
theorem dX6_turn_39 : decode cX6_turn 39 = .ok (.iload_n 3, 1) := by decide +kernel
theorem dX6_turn_40 : decode cX6_turn 40 = .ok (.iadd, 1) := by decide +kernel
theorem dX6_turn_41 : decode cX6_turn 41 = .ok (.laload, 1) := by decide +kernel
theorem dX6_turn_42 : decode cX6_turn 42 = .ok (.lastore, 1) := by decide +kernel
theorem dX6_turn_43 : decode cX6_turn 43 = .ok (.aload_n 0, 1) := by decide +kernel
theorem dX6_turn_44 : decode cX6_turn 44 = .ok (.getfield 32, 3) := by decide +kernel
theorem dX6_turn_47 : decode cX6_turn 47 = .ok (.bipush 6, 2) := by decide +kernel
theorem dX6_turn_49 : decode cX6_turn 49 = .ok (.iload_n 2, 1) := by decide +kernel
theorem dX6_turn_50 : decode cX6_turn 50 = .ok (.imul, 1) := by decide +kernel
theorem dX6_turn_51 : decode cX6_turn 51 = .ok (.iload_n 3, 1) := by decide +kernel
theorem dX6_turn_52 : decode cX6_turn 52 = .ok (.iadd, 1) := by decide +kernel
theorem dX6_turn_53 : decode cX6_turn 53 = .ok (.lload 4, 2) := by decide +kernel
theorem dX6_turn_55 : decode cX6_turn 55 = .ok (.lastore, 1) := by decide +kernel
theorem dX6_turn_56 : decode cX6_turn 56 = .ok (.iinc 3 1, 3) := by decide +kernel
theorem dX6_turn_59 : decode cX6_turn 59 = .ok (.goto (-57), 3) := by decide +kernel
theorem dX6_turn_62 : decode cX6_turn 62 = .ok (.return_, 1) := by decide +kernel
set_option maxRecDepth 20000 in
theorem ggX6_clear_X6_common : GoodIn wsX6_clear wsX6_common := goodIn_r _ [6] (by decide +kernel) (by decide +kernel)
set_option maxRecDepth 20000 in
theorem gX6_clear_X6_common : GoodIn wsX6_clear (va_wsS RX6 138 yX6_common wsX6_common) := goodIn_app (goodIn_of _ (by decide +kernel)) ggX6_clear_X6_common
theorem dX6_clear_0 : decode cX6_clear 0 = .ok (.aload_n 0, 1) := by decide +kernel
theorem dX6_clear_1 : decode cX6_clear 1 = .ok (.getfield 32, 3) := by decide +kernel
theorem dX6_clear_4 : decode cX6_clear 4 = .ok (.bipush 6, 2) := by decide +kernel
theorem dX6_clear_6 : decode cX6_clear 6 = .ok (.iload_n 1, 1) := by decide +kernel
theorem dX6_clear_7 : decode cX6_clear 7 = .ok (.imul, 1) := by decide +kernel
theorem dX6_clear_8 : decode cX6_clear 8 = .ok (.iload_n 3, 1) := by decide +kernel
theorem dX6_clear_9 : decode cX6_clear 9 = .ok (.iadd, 1) := by decide +kernel
theorem dX6_clear_10 : decode cX6_clear 10 = .ok (.laload, 1) := by decide +kernel
theorem dX6_clear_11 : decode cX6_clear 11 = .ok (.lstore 4, 2) := by decide +kernel
theorem dX6_clear_13 : decode cX6_clear 13 = .ok (.aload_n 0, 1) := by decide +kernel
theorem dX6_clear_14 : decode cX6_clear 14 = .ok (.getfield 32, 3) := by decide +kernel
theorem dX6_clear_17 : decode cX6_clear 17 = .ok (.bipush 6, 2) := by decide +kernel
theorem dX6_clear_19 : decode cX6_clear 19 = .ok (.iload_n 2, 1) := by decide +kernel
theorem dX6_clear_20 : decode cX6_clear 20 = .ok (.imul, 1) := by decide +kernel
theorem dX6_clear_21 : decode cX6_clear 21 = .ok (.iload_n 3, 1) := by decide +kernel
theorem dX6_clear_22 : decode cX6_clear 22 = .ok (.iadd, 1) := by decide +kernel
theorem dX6_clear_23 : decode cX6_clear 23 = .ok (.laload, 1) := by decide +kernel
theorem dX6_clear_24 : decode cX6_clear 24 = .ok (.lstore 6, 2) := by decide +kernel
theorem dX6_clear_26 : decode cX6_clear 26 = .ok (.lload 4, 2) := by decide +kernel
theorem dX6_clear_28 : decode cX6_clear 28 = .ok (.lconst 0, 1) := by decide +kernel
theorem dX6_clear_29 : decode cX6_clear 29 = .ok (.lcmp, 1) := by decide +kernel
theorem dX6_clear_30 : decode cX6_clear 30 = .ok (.ifCond .ne 4, 3) := by decide +kernel
theorem dX6_clear_33 : decode cX6_clear 33 = .ok (.return_, 1) := by decide +kernel
theorem dX6_clear_34 : decode cX6_clear 34 = .ok (.lconst 0, 1) := by decide +kernel
theorem dX6_clear_35 : decode cX6_clear 35 = .ok (.lstore 8, 2) := by decide +kernel
theorem dX6_clear_37 : decode cX6_clear 37 = .ok (.iconst 0, 1) := by decide +kernel
theorem dX6_clear_38 : decode cX6_clear 38 = .ok (.istore 10, 2) := by decide +kernel
theorem dX6_clear_40 : decode cX6_clear 40 = .ok (.iload 10, 2) := by decide +kernel
theorem dX6_clear_42 : decode cX6_clear 42 = .ok (.bipush 6, 2) := by decide +kernel
theorem dX6_clear_44 : decode cX6_clear 44 = .ok (.if_icmp .ge 86, 3) := by decide +kernel
theorem dX6_clear_47 : decode cX6_clear 47 = .ok (.iload 10, 2) := by decide +kernel
theorem dX6_clear_49 : decode cX6_clear 49 = .ok (.aload_n 0, 1) := by decide +kernel
theorem dX6_clear_50 : decode cX6_clear 50 = .ok (.getfield 124, 3) := by decide +kernel
theorem dX6_clear_53 : decode cX6_clear 53 = .ok (.if_icmp .lt 9, 3) := by decide +kernel
theorem dX6_clear_56 : decode cX6_clear 56 = .ok (.iload 10, 2) := by decide +kernel
theorem dX6_clear_58 : decode cX6_clear 58 = .ok (.iconst 5, 1) := by decide +kernel
theorem dX6_clear_59 : decode cX6_clear 59 = .ok (.if_icmp .ne 65, 3) := by decide +kernel
theorem dX6_clear_62 : decode cX6_clear 62 = .ok (.aload_n 0, 1) := by decide +kernel
theorem dX6_clear_63 : decode cX6_clear 63 = .ok (.getfield 32, 3) := by decide +kernel
theorem dX6_clear_66 : decode cX6_clear 66 = .ok (.bipush 6, 2) := by decide +kernel
theorem dX6_clear_68 : decode cX6_clear 68 = .ok (.iload_n 1, 1) := by decide +kernel
theorem dX6_clear_69 : decode cX6_clear 69 = .ok (.imul, 1) := by decide +kernel
theorem dX6_clear_70 : decode cX6_clear 70 = .ok (.iload 10, 2) := by decide +kernel
theorem dX6_clear_72 : decode cX6_clear 72 = .ok (.iadd, 1) := by decide +kernel
theorem dX6_clear_73 : decode cX6_clear 73 = .ok (.aload_n 0, 1) := by decide +kernel
theorem dX6_clear_74 : decode cX6_clear 74 = .ok (.getfield 32, 3) := by decide +kernel
theorem dX6_clear_77 : decode cX6_clear 77 = .ok (.bipush 6, 2) := by decide +kernel
theorem dX6_clear_79 : decode cX6_clear 79 = .ok (.iload_n 1, 1) := by decide +kernel
theorem dX6_clear_80 : decode cX6_clear 80 = .ok (.imul, 1) := by decide +kernel
theorem dX6_clear_81 : decode cX6_clear 81 = .ok (.iload 10, 2) := by decide +kernel
theorem dX6_clear_83 : decode cX6_clear 83 = .ok (.iadd, 1) := by decide +kernel
theorem dX6_clear_84 : decode cX6_clear 84 = .ok (.laload, 1) := by decide +kernel
theorem dX6_clear_85 : decode cX6_clear 85 = .ok (.lload 6, 2) := by decide +kernel
theorem dX6_clear_87 : decode cX6_clear 87 = .ok (.lmul, 1) := by decide +kernel
theorem dX6_clear_88 : decode cX6_clear 88 = .ok (.aload_n 0, 1) := by decide +kernel
theorem dX6_clear_89 : decode cX6_clear 89 = .ok (.getfield 32, 3) := by decide +kernel
theorem dX6_clear_92 : decode cX6_clear 92 = .ok (.bipush 6, 2) := by decide +kernel
theorem dX6_clear_94 : decode cX6_clear 94 = .ok (.iload_n 2, 1) := by decide +kernel
theorem dX6_clear_95 : decode cX6_clear 95 = .ok (.imul, 1) := by decide +kernel
theorem dX6_clear_96 : decode cX6_clear 96 = .ok (.iload 10, 2) := by decide +kernel
theorem dX6_clear_98 : decode cX6_clear 98 = .ok (.iadd, 1) := by decide +kernel
theorem dX6_clear_99 : decode cX6_clear 99 = .ok (.laload, 1) := by decide +kernel
theorem dX6_clear_100 : decode cX6_clear 100 = .ok (.lload 4, 2) := by decide +kernel
theorem dX6_clear_102 : decode cX6_clear 102 = .ok (.lmul, 1) := by decide +kernel
theorem dX6_clear_103 : decode cX6_clear 103 = .ok (.lsub, 1) := by decide +kernel
theorem dX6_clear_104 : decode cX6_clear 104 = .ok (.lastore, 1) := by decide +kernel
theorem dX6_clear_105 : decode cX6_clear 105 = .ok (.aload_n 0, 1) := by decide +kernel
theorem dX6_clear_106 : decode cX6_clear 106 = .ok (.getfield 32, 3) := by decide +kernel
theorem dX6_clear_109 : decode cX6_clear 109 = .ok (.bipush 6, 2) := by decide +kernel
theorem dX6_clear_111 : decode cX6_clear 111 = .ok (.iload_n 1, 1) := by decide +kernel
theorem dX6_clear_112 : decode cX6_clear 112 = .ok (.imul, 1) := by decide +kernel
theorem dX6_clear_113 : decode cX6_clear 113 = .ok (.iload 10, 2) := by decide +kernel
theorem dX6_clear_115 : decode cX6_clear 115 = .ok (.iadd, 1) := by decide +kernel
theorem dX6_clear_116 : decode cX6_clear 116 = .ok (.laload, 1) := by decide +kernel
theorem dX6_clear_117 : decode cX6_clear 117 = .ok (.lload 8, 2) := by decide +kernel
theorem dX6_clear_119 : decode cX6_clear 119 = .ok (.invokestatic 138, 3) := by decide +kernel
theorem dX6_clear_122 : decode cX6_clear 122 = .ok (.lstore 8, 2) := by decide +kernel
theorem dX6_clear_124 : decode cX6_clear 124 = .ok (.iinc 10 1, 3) := by decide +kernel
theorem dX6_clear_127 : decode cX6_clear 127 = .ok (.goto (-87), 3) := by decide +kernel
theorem dX6_clear_130 : decode cX6_clear 130 = .ok (.iconst 0, 1) := by decide +kernel
theorem dX6_clear_131 : decode cX6_clear 131 = .ok (.istore 10, 2) := by decide +kernel
theorem dX6_clear_133 : decode cX6_clear 133 = .ok (.iload 10, 2) := by decide +kernel
theorem dX6_clear_135 : decode cX6_clear 135 = .ok (.bipush 6, 2) := by decide +kernel
theorem dX6_clear_137 : decode cX6_clear 137 = .ok (.if_icmp .ge 48, 3) := by decide +kernel
theorem dX6_clear_140 : decode cX6_clear 140 = .ok (.lload 8, 2) := by decide +kernel
theorem dX6_clear_142 : decode cX6_clear 142 = .ok (.lconst 1, 1) := by decide +kernel
theorem dX6_clear_143 : decode cX6_clear 143 = .ok (.lcmp, 1) := by decide +kernel
theorem dX6_clear_144 : decode cX6_clear 144 = .ok (.ifCond .le 41, 3) := by decide +kernel
theorem dX6_clear_147 : decode cX6_clear 147 = .ok (.iload 10, 2) := by decide +kernel
theorem dX6_clear_149 : decode cX6_clear 149 = .ok (.aload_n 0, 1) := by decide +kernel
theorem dX6_clear_150 : decode cX6_clear 150 = .ok (.getfield 124, 3) := by decide +kernel
theorem dX6_clear_153 : decode cX6_clear 153 = .ok (.if_icmp .lt 9, 3) := by decide +kernel
theorem dX6_clear_156 : decode cX6_clear 156 = .ok (.iload 10, 2) := by decide +kernel
theorem dX6_clear_158 : decode cX6_clear 158 = .ok (.iconst 5, 1) := by decide +kernel
theorem dX6_clear_159 : decode cX6_clear 159 = .ok (.if_icmp .ne 20, 3) := by decide +kernel
theorem dX6_clear_162 : decode cX6_clear 162 = .ok (.aload_n 0, 1) := by decide +kernel
theorem dX6_clear_163 : decode cX6_clear 163 = .ok (.getfield 32, 3) := by decide +kernel
theorem dX6_clear_166 : decode cX6_clear 166 = .ok (.bipush 6, 2) := by decide +kernel
theorem dX6_clear_168 : decode cX6_clear 168 = .ok (.iload_n 1, 1) := by decide +kernel
theorem dX6_clear_169 : decode cX6_clear 169 = .ok (.imul, 1) := by decide +kernel
theorem dX6_clear_170 : decode cX6_clear 170 = .ok (.iload 10, 2) := by decide +kernel
theorem dX6_clear_172 : decode cX6_clear 172 = .ok (.iadd, 1) := by decide +kernel
theorem dX6_clear_173 : decode cX6_clear 173 = .ok (.dup2, 1) := by decide +kernel
theorem dX6_clear_174 : decode cX6_clear 174 = .ok (.laload, 1) := by decide +kernel
theorem dX6_clear_175 : decode cX6_clear 175 = .ok (.lload 8, 2) := by decide +kernel
theorem dX6_clear_177 : decode cX6_clear 177 = .ok (.ldiv, 1) := by decide +kernel
theorem dX6_clear_178 : decode cX6_clear 178 = .ok (.lastore, 1) := by decide +kernel
theorem dX6_clear_179 : decode cX6_clear 179 = .ok (.iinc 10 1, 3) := by decide +kernel
theorem dX6_clear_182 : decode cX6_clear 182 = .ok (.goto (-49), 3) := by decide +kernel
theorem dX6_clear_185 : decode cX6_clear 185 = .ok (.return_, 1) := by decide +kernel
theorem dX6_common_0 : decode cX6_common 0 = .ok (.lload_n 0, 1) := by decide +kernel
theorem dX6_common_1 : decode cX6_common 1 = .ok (.lconst 0, 1) := by decide +kernel
theorem dX6_common_2 : decode cX6_common 2 = .ok (.lcmp, 1) := by decide +kernel
theorem dX6_common_3 : decode cX6_common 3 = .ok (.ifCond .ge 8, 3) := by decide +kernel
theorem dX6_common_6 : decode cX6_common 6 = .ok (.lload_n 0, 1) := by decide +kernel
theorem dX6_common_7 : decode cX6_common 7 = .ok (.lneg, 1) := by decide +kernel
theorem dX6_common_8 : decode cX6_common 8 = .ok (.goto 4, 3) := by decide +kernel
theorem dX6_common_11 : decode cX6_common 11 = .ok (.lload_n 0, 1) := by decide +kernel
theorem dX6_common_12 : decode cX6_common 12 = .ok (.lstore 4, 2) := by decide +kernel
theorem dX6_common_14 : decode cX6_common 14 = .ok (.lload_n 2, 1) := by decide +kernel
theorem dX6_common_15 : decode cX6_common 15 = .ok (.lconst 0, 1) := by decide +kernel
theorem dX6_common_16 : decode cX6_common 16 = .ok (.lcmp, 1) := by decide +kernel
theorem dX6_common_17 : decode cX6_common 17 = .ok (.ifCond .ge 8, 3) := by decide +kernel
theorem dX6_common_20 : decode cX6_common 20 = .ok (.lload_n 2, 1) := by decide +kernel
theorem dX6_common_21 : decode cX6_common 21 = .ok (.lneg, 1) := by decide +kernel
theorem dX6_common_22 : decode cX6_common 22 = .ok (.goto 4, 3) := by decide +kernel
theorem dX6_common_25 : decode cX6_common 25 = .ok (.lload_n 2, 1) := by decide +kernel
theorem dX6_common_26 : decode cX6_common 26 = .ok (.lstore 6, 2) := by decide +kernel
theorem dX6_common_28 : decode cX6_common 28 = .ok (.lload 4, 2) := by decide +kernel
theorem dX6_common_30 : decode cX6_common 30 = .ok (.lconst 0, 1) := by decide +kernel
theorem dX6_common_31 : decode cX6_common 31 = .ok (.lcmp, 1) := by decide +kernel
theorem dX6_common_32 : decode cX6_common 32 = .ok (.ifCond .le 21, 3) := by decide +kernel
theorem dX6_common_35 : decode cX6_common 35 = .ok (.lload 6, 2) := by decide +kernel
theorem dX6_common_37 : decode cX6_common 37 = .ok (.lload 4, 2) := by decide +kernel
theorem dX6_common_39 : decode cX6_common 39 = .ok (.lrem, 1) := by decide +kernel
theorem dX6_common_40 : decode cX6_common 40 = .ok (.lstore 8, 2) := by decide +kernel
theorem dX6_common_42 : decode cX6_common 42 = .ok (.lload 4, 2) := by decide +kernel
theorem dX6_common_44 : decode cX6_common 44 = .ok (.lstore 6, 2) := by decide +kernel
theorem dX6_common_46 : decode cX6_common 46 = .ok (.lload 8, 2) := by decide +kernel
theorem dX6_common_48 : decode cX6_common 48 = .ok (.lstore 4, 2) := by decide +kernel
theorem dX6_common_50 : decode cX6_common 50 = .ok (.goto (-22), 3) := by decide +kernel
theorem dX6_common_53 : decode cX6_common 53 = .ok (.lload 6, 2) := by decide +kernel
theorem dX6_common_55 : decode cX6_common 55 = .ok (.lreturn, 1) := by decide +kernel
set_option maxRecDepth 20000 in
theorem ggX6_mends_X6_isGate : GoodIn wsX6_mends wsX6_isGate := goodIn_r _ [4, 5, 6, 7, 3, 8] (by decide +kernel) (by decide +kernel)
set_option maxRecDepth 20000 in
theorem gX6_mends_X6_isGate : GoodIn wsX6_mends (va_wsS RX6 110 yX6_isGate wsX6_isGate) := goodIn_app (goodIn_of _ (by decide +kernel)) ggX6_mends_X6_isGate
set_option maxRecDepth 20000 in
theorem ggX6_mends_X6_solve : GoodIn wsX6_mends wsX6_solve := goodIn_r _ [12, 13, 14, 15, 16, 17, 18, 19, 20, 21, 22, 3, 23, 24, 25, 26, 27, 28, 29, 30, 31, 32, 33, 34, 35, 36, 37, 38, 39, 40, 41, 42, 43, 44, 45, 46, 47, 48, 49, 50, 51, 52, 53, 54, 55, 56, 57, 58, 59, 60, 61, 62] (by decide +kernel) (by decide +kernel)
set_option maxRecDepth 20000 in
theorem gX6_mends_X6_solve : GoodIn wsX6_mends (wsV RX6 142 RX6 yX6_solve wsX6_solve) := goodIn_app (goodIn_of _ (by decide +kernel)) ggX6_mends_X6_solve
theorem dX6_mends_0 : decode cX6_mends 0 = .ok (.iload_n 1, 1) := by decide +kernel
theorem dX6_mends_1 : decode cX6_mends 1 = .ok (.iload_n 2, 1) := by decide +kernel
theorem dX6_mends_2 : decode cX6_mends 2 = .ok (.invokestatic 110, 3) := by decide +kernel
theorem dX6_mends_5 : decode cX6_mends 5 = .ok (.ifCond .eq 12, 3) := by decide +kernel
theorem dX6_mends_8 : decode cX6_mends 8 = .ok (.aload_n 0, 1) := by decide +kernel
theorem dX6_mends_9 : decode cX6_mends 9 = .ok (.iload_n 1, 1) := by decide +kernel
theorem dX6_mends_10 : decode cX6_mends 10 = .ok (.iload_n 2, 1) := by decide +kernel
theorem dX6_mends_11 : decode cX6_mends 11 = .ok (.invokevirtual 142, 3) := by decide +kernel
theorem dX6_mends_14 : decode cX6_mends 14 = .ok (.goto 5, 3) := by decide +kernel
theorem dX6_mends_17 : decode cX6_mends 17 = .ok (.bipush (-102), 2) := by decide +kernel
theorem dX6_mends_19 : decode cX6_mends 19 = .ok (.ireturn, 1) := by decide +kernel
set_option maxRecDepth 20000 in
theorem ggX6_mend_X6_isPlace : GoodIn wsX6_mend wsX6_isPlace := goodIn_r _ [12, 13, 14, 15, 11, 16, 45, 46, 47, 48, 49, 50, 51, 52, 53, 54, 55, 56, 57, 58, 59, 60, 61, 62, 63, 64, 65, 66, 67, 68, 69] (by decide +kernel) (by decide +kernel)
set_option maxRecDepth 20000 in
theorem gX6_mend_X6_isPlace : GoodIn wsX6_mend (wsV RX6 78 RX6 yX6_isPlace wsX6_isPlace) := goodIn_app (goodIn_of _ (by decide +kernel)) ggX6_mend_X6_isPlace
set_option maxRecDepth 20000 in
theorem ggX6_mend_X6_isGate : GoodIn wsX6_mend wsX6_isGate := goodIn_r _ [19, 20, 14, 15, 11, 16] (by decide +kernel) (by decide +kernel)
set_option maxRecDepth 20000 in
theorem gX6_mend_X6_isGate : GoodIn wsX6_mend (va_wsS RX6 110 yX6_isGate wsX6_isGate) := goodIn_app (goodIn_of _ (by decide +kernel)) ggX6_mend_X6_isGate
set_option maxRecDepth 20000 in
theorem ggX6_mend_X6_in : GoodIn wsX6_mend wsX6_in := goodIn_r _ [16] (by decide +kernel) (by decide +kernel)
set_option maxRecDepth 20000 in
theorem gX6_mend_X6_in : GoodIn wsX6_mend (va_wsS RX6 74 yX6_in wsX6_in) := goodIn_app (goodIn_of _ (by decide +kernel)) ggX6_mend_X6_in
set_option maxRecDepth 20000 in
theorem ggX6_mend_X6_solve : GoodIn wsX6_mend wsX6_solve := goodIn_r _ [24, 25, 13, 1, 5, 26, 27, 6, 7, 28, 29, 11, 30, 31, 32, 33, 34, 35, 36, 37, 38, 39, 40, 41, 42, 43, 44, 45, 46, 47, 48, 49, 50, 51, 52, 53, 54, 55, 56, 57, 58, 59, 60, 61, 62, 63, 64, 65, 66, 67, 68, 69] (by decide +kernel) (by decide +kernel)
set_option maxRecDepth 20000 in
theorem gX6_mend_X6_solve : GoodIn wsX6_mend (wsV RX6 142 RX6 yX6_solve wsX6_solve) := goodIn_app (goodIn_of _ (by decide +kernel)) ggX6_mend_X6_solve
set_option maxRecDepth 20000 in
theorem ggX6_mend_X6_common : GoodIn wsX6_mend wsX6_common := goodIn_r _ [44] (by decide +kernel) (by decide +kernel)
set_option maxRecDepth 20000 in
theorem gX6_mend_X6_common : GoodIn wsX6_mend (va_wsS RX6 138 yX6_common wsX6_common) := goodIn_app (goodIn_of _ (by decide +kernel)) ggX6_mend_X6_common
theorem dX6_mend_0 : decode cX6_mend 0 = .ok (.aload_n 0, 1) := by decide +kernel
theorem dX6_mend_1 : decode cX6_mend 1 = .ok (.iload_n 1, 1) := by decide +kernel
theorem dX6_mend_2 : decode cX6_mend 2 = .ok (.invokevirtual 78, 3) := by decide +kernel
theorem dX6_mend_5 : decode cX6_mend 5 = .ok (.ifCond .eq 12, 3) := by decide +kernel
theorem dX6_mend_8 : decode cX6_mend 8 = .ok (.aload_n 0, 1) := by decide +kernel
theorem dX6_mend_9 : decode cX6_mend 9 = .ok (.getfield 19, 3) := by decide +kernel
theorem dX6_mend_12 : decode cX6_mend 12 = .ok (.iload_n 1, 1) := by decide +kernel
theorem dX6_mend_13 : decode cX6_mend 13 = .ok (.baload, 1) := by decide +kernel
theorem dX6_mend_14 : decode cX6_mend 14 = .ok (.ifCond .ne 7, 3) := by decide +kernel
theorem dX6_mend_17 : decode cX6_mend 17 = .ok (.ldc2_w 145, 3) := by decide +kernel
theorem dX6_mend_20 : decode cX6_mend 20 = .ok (.lreturn, 1) := by decide +kernel
theorem dX6_mend_21 : decode cX6_mend 21 = .ok (.iload_n 2, 1) := by decide +kernel
theorem dX6_mend_22 : decode cX6_mend 22 = .ok (.iload_n 3, 1) := by decide +kernel
theorem dX6_mend_23 : decode cX6_mend 23 = .ok (.invokestatic 110, 3) := by decide +kernel
theorem dX6_mend_26 : decode cX6_mend 26 = .ok (.ifCond .eq 14, 3) := by decide +kernel
theorem dX6_mend_29 : decode cX6_mend 29 = .ok (.iload 4, 2) := by decide +kernel
theorem dX6_mend_31 : decode cX6_mend 31 = .ok (.i2l, 1) := by decide +kernel
theorem dX6_mend_32 : decode cX6_mend 32 = .ok (.lconst 0, 1) := by decide +kernel
theorem dX6_mend_33 : decode cX6_mend 33 = .ok (.lconst 1, 1) := by decide +kernel
theorem dX6_mend_34 : decode cX6_mend 34 = .ok (.invokestatic 74, 3) := by decide +kernel
theorem dX6_mend_37 : decode cX6_mend 37 = .ok (.ifCond .ne 7, 3) := by decide +kernel
theorem dX6_mend_40 : decode cX6_mend 40 = .ok (.ldc2_w 147, 3) := by decide +kernel
theorem dX6_mend_43 : decode cX6_mend 43 = .ok (.lreturn, 1) := by decide +kernel
theorem dX6_mend_44 : decode cX6_mend 44 = .ok (.aload_n 0, 1) := by decide +kernel
theorem dX6_mend_45 : decode cX6_mend 45 = .ok (.iload_n 2, 1) := by decide +kernel
theorem dX6_mend_46 : decode cX6_mend 46 = .ok (.iload_n 3, 1) := by decide +kernel
theorem dX6_mend_47 : decode cX6_mend 47 = .ok (.invokevirtual 142, 3) := by decide +kernel
theorem dX6_mend_50 : decode cX6_mend 50 = .ok (.iconst 1, 1) := by decide +kernel
theorem dX6_mend_51 : decode cX6_mend 51 = .ok (.if_icmp .eq 7, 3) := by decide +kernel
theorem dX6_mend_54 : decode cX6_mend 54 = .ok (.ldc2_w 149, 3) := by decide +kernel
theorem dX6_mend_57 : decode cX6_mend 57 = .ok (.lreturn, 1) := by decide +kernel
theorem dX6_mend_58 : decode cX6_mend 58 = .ok (.iconst 0, 1) := by decide +kernel
theorem dX6_mend_59 : decode cX6_mend 59 = .ok (.istore 5, 2) := by decide +kernel
theorem dX6_mend_61 : decode cX6_mend 61 = .ok (.aload_n 0, 1) := by decide +kernel
theorem dX6_mend_62 : decode cX6_mend 62 = .ok (.getfield 36, 3) := by decide +kernel
theorem dX6_mend_65 : decode cX6_mend 65 = .ok (.iload 5, 2) := by decide +kernel
theorem dX6_mend_67 : decode cX6_mend 67 = .ok (.iaload, 1) := by decide +kernel
theorem dX6_mend_68 : decode cX6_mend 68 = .ok (.iload_n 1, 1) := by decide +kernel
theorem dX6_mend_69 : decode cX6_mend 69 = .ok (.if_icmp .eq 9, 3) := by decide +kernel
theorem dX6_mend_72 : decode cX6_mend 72 = .ok (.iinc 5 1, 3) := by decide +kernel
theorem dX6_mend_75 : decode cX6_mend 75 = .ok (.goto (-14), 3) := by decide +kernel
theorem dX6_mend_78 : decode cX6_mend 78 = .ok (.aload_n 0, 1) := by decide +kernel
theorem dX6_mend_79 : decode cX6_mend 79 = .ok (.getfield 32, 3) := by decide +kernel
theorem dX6_mend_82 : decode cX6_mend 82 = .ok (.bipush 6, 2) := by decide +kernel
theorem dX6_mend_84 : decode cX6_mend 84 = .ok (.aload_n 0, 1) := by decide +kernel
theorem dX6_mend_85 : decode cX6_mend 85 = .ok (.getfield 39, 3) := by decide +kernel
theorem dX6_mend_88 : decode cX6_mend 88 = .ok (.iload 5, 2) := by decide +kernel
theorem dX6_mend_90 : decode cX6_mend 90 = .ok (.iaload, 1) := by decide +kernel
theorem dX6_mend_91 : decode cX6_mend 91 = .ok (.imul, 1) := by decide +kernel
theorem dX6_mend_92 : decode cX6_mend 92 = .ok (.iload 5, 2) := by decide +kernel
theorem dX6_mend_94 : decode cX6_mend 94 = .ok (.iadd, 1) := by decide +kernel
theorem dX6_mend_95 : decode cX6_mend 95 = .ok (.laload, 1) := by decide +kernel
theorem dX6_mend_96 : decode cX6_mend 96 = .ok (.lstore 6, 2) := by decide +kernel
theorem dX6_mend_98 : decode cX6_mend 98 = .ok (.aload_n 0, 1) := by decide +kernel
theorem dX6_mend_99 : decode cX6_mend 99 = .ok (.getfield 32, 3) := by decide +kernel
theorem dX6_mend_102 : decode cX6_mend 102 = .ok (.bipush 6, 2) := by decide +kernel
theorem dX6_mend_104 : decode cX6_mend 104 = .ok (.aload_n 0, 1) := by decide +kernel
theorem dX6_mend_105 : decode cX6_mend 105 = .ok (.getfield 39, 3) := by decide +kernel
theorem dX6_mend_108 : decode cX6_mend 108 = .ok (.iload 5, 2) := by decide +kernel
theorem dX6_mend_110 : decode cX6_mend 110 = .ok (.iaload, 1) := by decide +kernel
theorem dX6_mend_111 : decode cX6_mend 111 = .ok (.imul, 1) := by decide +kernel
theorem dX6_mend_112 : decode cX6_mend 112 = .ok (.iconst 5, 1) := by decide +kernel
theorem dX6_mend_113 : decode cX6_mend 113 = .ok (.iadd, 1) := by decide +kernel
theorem dX6_mend_114 : decode cX6_mend 114 = .ok (.laload, 1) := by decide +kernel
theorem dX6_mend_115 : decode cX6_mend 115 = .ok (.lstore 8, 2) := by decide +kernel
theorem dX6_mend_117 : decode cX6_mend 117 = .ok (.lload 8, 2) := by decide +kernel
theorem dX6_mend_119 : decode cX6_mend 119 = .ok (.lload 6, 2) := by decide +kernel
theorem dX6_mend_121 : decode cX6_mend 121 = .ok (.invokestatic 138, 3) := by decide +kernel
theorem dX6_mend_124 : decode cX6_mend 124 = .ok (.lstore 10, 2) := by decide +kernel
theorem dX6_mend_126 : decode cX6_mend 126 = .ok (.lload 6, 2) := by decide +kernel
theorem dX6_mend_128 : decode cX6_mend 128 = .ok (.lconst 0, 1) := by decide +kernel
theorem dX6_mend_129 : decode cX6_mend 129 = .ok (.lcmp, 1) := by decide +kernel
theorem dX6_mend_130 : decode cX6_mend 130 = .ok (.ifCond .ge 9, 3) := by decide +kernel
theorem dX6_mend_133 : decode cX6_mend 133 = .ok (.lload 10, 2) := by decide +kernel
theorem dX6_mend_135 : decode cX6_mend 135 = .ok (.lneg, 1) := by decide +kernel
theorem dX6_mend_136 : decode cX6_mend 136 = .ok (.goto 5, 3) := by decide +kernel
theorem dX6_mend_139 : decode cX6_mend 139 = .ok (.lload 10, 2) := by decide +kernel
theorem dX6_mend_141 : decode cX6_mend 141 = .ok (.lstore 10, 2) := by decide +kernel
theorem dX6_mend_143 : decode cX6_mend 143 = .ok (.iload 4, 2) := by decide +kernel
theorem dX6_mend_145 : decode cX6_mend 145 = .ok (.ifCond .ne 11, 3) := by decide +kernel
theorem dX6_mend_148 : decode cX6_mend 148 = .ok (.lload 8, 2) := by decide +kernel
theorem dX6_mend_150 : decode cX6_mend 150 = .ok (.lload 10, 2) := by decide +kernel
theorem dX6_mend_152 : decode cX6_mend 152 = .ok (.ldiv, 1) := by decide +kernel
theorem dX6_mend_153 : decode cX6_mend 153 = .ok (.goto 8, 3) := by decide +kernel
theorem dX6_mend_156 : decode cX6_mend 156 = .ok (.lload 6, 2) := by decide +kernel
theorem dX6_mend_158 : decode cX6_mend 158 = .ok (.lload 10, 2) := by decide +kernel
theorem dX6_mend_160 : decode cX6_mend 160 = .ok (.ldiv, 1) := by decide +kernel
theorem dX6_mend_161 : decode cX6_mend 161 = .ok (.lreturn, 1) := by decide +kernel
set_option maxRecDepth 20000 in
theorem ggX6_sheet_X6_in : GoodIn wsX6_sheet wsX6_in := goodIn_r _ [9] (by decide +kernel) (by decide +kernel)
set_option maxRecDepth 20000 in
theorem gX6_sheet_X6_in : GoodIn wsX6_sheet (va_wsS RX6 74 yX6_in wsX6_in) := goodIn_app (goodIn_of _ (by decide +kernel)) ggX6_sheet_X6_in
theorem dX6_sheet_0 : decode cX6_sheet 0 = .ok (.iload_n 1, 1) := by decide +kernel
theorem dX6_sheet_1 : decode cX6_sheet 1 = .ok (.i2l, 1) := by decide +kernel
theorem dX6_sheet_2 : decode cX6_sheet 2 = .ok (.ldc2_w 151, 3) := by decide +kernel
theorem dX6_sheet_5 : decode cX6_sheet 5 = .ok (.ldc2_w 153, 3) := by decide +kernel
theorem dX6_sheet_8 : decode cX6_sheet 8 = .ok (.invokestatic 74, 3) := by decide +kernel
theorem dX6_sheet_11 : decode cX6_sheet 11 = .ok (.ifCond .eq 15, 3) := by decide +kernel
theorem dX6_sheet_14 : decode cX6_sheet 14 = .ok (.iload_n 2, 1) := by decide +kernel
theorem dX6_sheet_15 : decode cX6_sheet 15 = .ok (.i2l, 1) := by decide +kernel
theorem dX6_sheet_16 : decode cX6_sheet 16 = .ok (.lconst 1, 1) := by decide +kernel
theorem dX6_sheet_17 : decode cX6_sheet 17 = .ok (.ldc2_w 153, 3) := by decide +kernel
theorem dX6_sheet_20 : decode cX6_sheet 20 = .ok (.invokestatic 74, 3) := by decide +kernel
theorem dX6_sheet_23 : decode cX6_sheet 23 = .ok (.ifCond .ne 6, 3) := by decide +kernel
theorem dX6_sheet_26 : decode cX6_sheet 26 = .ok (.bipush (-102), 2) := by decide +kernel
theorem dX6_sheet_28 : decode cX6_sheet 28 = .ok (.ireturn, 1) := by decide +kernel
theorem dX6_sheet_29 : decode cX6_sheet 29 = .ok (.aload_n 0, 1) := by decide +kernel
theorem dX6_sheet_30 : decode cX6_sheet 30 = .ok (.iload_n 1, 1) := by decide +kernel
theorem dX6_sheet_31 : decode cX6_sheet 31 = .ok (.putfield 58, 3) := by decide +kernel
theorem dX6_sheet_34 : decode cX6_sheet 34 = .ok (.aload_n 0, 1) := by decide +kernel
theorem dX6_sheet_35 : decode cX6_sheet 35 = .ok (.iload_n 2, 1) := by decide +kernel
theorem dX6_sheet_36 : decode cX6_sheet 36 = .ok (.putfield 62, 3) := by decide +kernel
theorem dX6_sheet_39 : decode cX6_sheet 39 = .ok (.iconst 0, 1) := by decide +kernel
theorem dX6_sheet_40 : decode cX6_sheet 40 = .ok (.istore_n 3, 1) := by decide +kernel
theorem dX6_sheet_41 : decode cX6_sheet 41 = .ok (.iload_n 3, 1) := by decide +kernel
theorem dX6_sheet_42 : decode cX6_sheet 42 = .ok (.bipush 81, 2) := by decide +kernel
theorem dX6_sheet_44 : decode cX6_sheet 44 = .ok (.if_icmp .ge 16, 3) := by decide +kernel
theorem dX6_sheet_47 : decode cX6_sheet 47 = .ok (.aload_n 0, 1) := by decide +kernel
theorem dX6_sheet_48 : decode cX6_sheet 48 = .ok (.getfield 42, 3) := by decide +kernel
theorem dX6_sheet_51 : decode cX6_sheet 51 = .ok (.iload_n 3, 1) := by decide +kernel
theorem dX6_sheet_52 : decode cX6_sheet 52 = .ok (.iconst 0, 1) := by decide +kernel
theorem dX6_sheet_53 : decode cX6_sheet 53 = .ok (.iastore, 1) := by decide +kernel
theorem dX6_sheet_54 : decode cX6_sheet 54 = .ok (.iinc 3 1, 3) := by decide +kernel
theorem dX6_sheet_57 : decode cX6_sheet 57 = .ok (.goto (-16), 3) := by decide +kernel
theorem dX6_sheet_60 : decode cX6_sheet 60 = .ok (.iload_n 1, 1) := by decide +kernel
theorem dX6_sheet_61 : decode cX6_sheet 61 = .ok (.iload_n 2, 1) := by decide +kernel
theorem dX6_sheet_62 : decode cX6_sheet 62 = .ok (.imul, 1) := by decide +kernel
theorem dX6_sheet_63 : decode cX6_sheet 63 = .ok (.ireturn, 1) := by decide +kernel
set_option maxRecDepth 20000 in
theorem ggX6_cell_X6_in : GoodIn wsX6_cell wsX6_in := goodIn_r _ [9] (by decide +kernel) (by decide +kernel)
set_option maxRecDepth 20000 in
theorem gX6_cell_X6_in : GoodIn wsX6_cell (va_wsS RX6 74 yX6_in wsX6_in) := goodIn_app (goodIn_of _ (by decide +kernel)) ggX6_cell_X6_in
theorem dX6_cell_0 : decode cX6_cell 0 = .ok (.iload_n 1, 1) := by decide +kernel
theorem dX6_cell_1 : decode cX6_cell 1 = .ok (.i2l, 1) := by decide +kernel
theorem dX6_cell_2 : decode cX6_cell 2 = .ok (.lconst 0, 1) := by decide +kernel
theorem dX6_cell_3 : decode cX6_cell 3 = .ok (.aload_n 0, 1) := by decide +kernel
theorem dX6_cell_4 : decode cX6_cell 4 = .ok (.getfield 58, 3) := by decide +kernel
theorem dX6_cell_7 : decode cX6_cell 7 = .ok (.i2l, 1) := by decide +kernel
theorem dX6_cell_8 : decode cX6_cell 8 = .ok (.invokestatic 74, 3) := by decide +kernel
theorem dX6_cell_11 : decode cX6_cell 11 = .ok (.ifCond .eq 33, 3) := by decide +kernel
theorem dX6_cell_14 : decode cX6_cell 14 = .ok (.iload_n 2, 1) := by decide +kernel
theorem dX6_cell_15 : decode cX6_cell 15 = .ok (.i2l, 1) := by decide +kernel
theorem dX6_cell_16 : decode cX6_cell 16 = .ok (.lconst 0, 1) := by decide +kernel
theorem dX6_cell_17 : decode cX6_cell 17 = .ok (.aload_n 0, 1) := by decide +kernel
theorem dX6_cell_18 : decode cX6_cell 18 = .ok (.getfield 62, 3) := by decide +kernel
theorem dX6_cell_21 : decode cX6_cell 21 = .ok (.i2l, 1) := by decide +kernel
theorem dX6_cell_22 : decode cX6_cell 22 = .ok (.invokestatic 74, 3) := by decide +kernel
theorem dX6_cell_25 : decode cX6_cell 25 = .ok (.ifCond .eq 19, 3) := by decide +kernel
theorem dX6_cell_28 : decode cX6_cell 28 = .ok (.iload_n 1, 1) := by decide +kernel
theorem dX6_cell_29 : decode cX6_cell 29 = .ok (.aload_n 0, 1) := by decide +kernel
theorem dX6_cell_30 : decode cX6_cell 30 = .ok (.getfield 58, 3) := by decide +kernel
theorem dX6_cell_33 : decode cX6_cell 33 = .ok (.if_icmp .ne 15, 3) := by decide +kernel
theorem dX6_cell_36 : decode cX6_cell 36 = .ok (.iload_n 2, 1) := by decide +kernel
theorem dX6_cell_37 : decode cX6_cell 37 = .ok (.aload_n 0, 1) := by decide +kernel
theorem dX6_cell_38 : decode cX6_cell 38 = .ok (.getfield 62, 3) := by decide +kernel
theorem dX6_cell_41 : decode cX6_cell 41 = .ok (.if_icmp .ne 7, 3) := by decide +kernel
theorem dX6_cell_44 : decode cX6_cell 44 = .ok (.sipush (-10101), 3) := by decide +kernel
theorem dX6_cell_47 : decode cX6_cell 47 = .ok (.ireturn, 1) := by decide +kernel
theorem dX6_cell_48 : decode cX6_cell 48 = .ok (.iload_n 3, 1) := by decide +kernel
theorem dX6_cell_49 : decode cX6_cell 49 = .ok (.i2l, 1) := by decide +kernel
theorem dX6_cell_50 : decode cX6_cell 50 = .ok (.ldc2_w 82, 3) := by decide +kernel
theorem dX6_cell_53 : decode cX6_cell 53 = .ok (.ldc2_w 84, 3) := by decide +kernel
theorem dX6_cell_56 : decode cX6_cell 56 = .ok (.invokestatic 74, 3) := by decide +kernel
theorem dX6_cell_59 : decode cX6_cell 59 = .ok (.ifCond .ne 7, 3) := by decide +kernel
theorem dX6_cell_62 : decode cX6_cell 62 = .ok (.sipush (-10102), 3) := by decide +kernel
theorem dX6_cell_65 : decode cX6_cell 65 = .ok (.ireturn, 1) := by decide +kernel
theorem dX6_cell_66 : decode cX6_cell 66 = .ok (.aload_n 0, 1) := by decide +kernel
theorem dX6_cell_67 : decode cX6_cell 67 = .ok (.getfield 42, 3) := by decide +kernel
theorem dX6_cell_70 : decode cX6_cell 70 = .ok (.bipush 9, 2) := by decide +kernel
theorem dX6_cell_72 : decode cX6_cell 72 = .ok (.iload_n 1, 1) := by decide +kernel
theorem dX6_cell_73 : decode cX6_cell 73 = .ok (.imul, 1) := by decide +kernel
theorem dX6_cell_74 : decode cX6_cell 74 = .ok (.iload_n 2, 1) := by decide +kernel
theorem dX6_cell_75 : decode cX6_cell 75 = .ok (.iadd, 1) := by decide +kernel
theorem dX6_cell_76 : decode cX6_cell 76 = .ok (.iaload, 1) := by decide +kernel
theorem dX6_cell_77 : decode cX6_cell 77 = .ok (.istore 4, 2) := by decide +kernel
theorem dX6_cell_79 : decode cX6_cell 79 = .ok (.aload_n 0, 1) := by decide +kernel
theorem dX6_cell_80 : decode cX6_cell 80 = .ok (.getfield 42, 3) := by decide +kernel
theorem dX6_cell_83 : decode cX6_cell 83 = .ok (.bipush 9, 2) := by decide +kernel
theorem dX6_cell_85 : decode cX6_cell 85 = .ok (.iload_n 1, 1) := by decide +kernel
theorem dX6_cell_86 : decode cX6_cell 86 = .ok (.imul, 1) := by decide +kernel
theorem dX6_cell_87 : decode cX6_cell 87 = .ok (.iload_n 2, 1) := by decide +kernel
theorem dX6_cell_88 : decode cX6_cell 88 = .ok (.iadd, 1) := by decide +kernel
theorem dX6_cell_89 : decode cX6_cell 89 = .ok (.iload_n 3, 1) := by decide +kernel
theorem dX6_cell_90 : decode cX6_cell 90 = .ok (.iastore, 1) := by decide +kernel
theorem dX6_cell_91 : decode cX6_cell 91 = .ok (.iload 4, 2) := by decide +kernel
theorem dX6_cell_93 : decode cX6_cell 93 = .ok (.ireturn, 1) := by decide +kernel
set_option maxRecDepth 20000 in
theorem ggX6_closed_X6_in : GoodIn wsX6_closed wsX6_in := goodIn_r _ [7] (by decide +kernel) (by decide +kernel)
set_option maxRecDepth 20000 in
theorem gX6_closed_X6_in : GoodIn wsX6_closed (va_wsS RX6 74 yX6_in wsX6_in) := goodIn_app (goodIn_of _ (by decide +kernel)) ggX6_closed_X6_in
set_option maxRecDepth 20000 in
theorem ggX6_closed_X6_floor : GoodIn wsX6_closed wsX6_floor := goodIn_r _ [10] (by decide +kernel) (by decide +kernel)
set_option maxRecDepth 20000 in
theorem gX6_closed_X6_floor : GoodIn wsX6_closed (va_wsS RX6 155 yX6_floor wsX6_floor) := goodIn_app (goodIn_of _ (by decide +kernel)) ggX6_closed_X6_floor
theorem dX6_closed_0 : decode cX6_closed 0 = .ok (.iload_n 1, 1) := by decide +kernel
theorem dX6_closed_1 : decode cX6_closed 1 = .ok (.i2l, 1) := by decide +kernel
theorem dX6_closed_2 : decode cX6_closed 2 = .ok (.lconst 0, 1) := by decide +kernel
theorem dX6_closed_3 : decode cX6_closed 3 = .ok (.aload_n 0, 1) := by decide +kernel
theorem dX6_closed_4 : decode cX6_closed 4 = .ok (.getfield 58, 3) := by decide +kernel
theorem dX6_closed_7 : decode cX6_closed 7 = .ok (.i2l, 1) := by decide +kernel
theorem dX6_closed_8 : decode cX6_closed 8 = .ok (.invokestatic 74, 3) := by decide +kernel
theorem dX6_closed_11 : decode cX6_closed 11 = .ok (.ifCond .eq 19, 3) := by decide +kernel
theorem dX6_closed_14 : decode cX6_closed 14 = .ok (.iload_n 2, 1) := by decide +kernel
theorem dX6_closed_15 : decode cX6_closed 15 = .ok (.i2l, 1) := by decide +kernel
theorem dX6_closed_16 : decode cX6_closed 16 = .ok (.lconst 0, 1) := by decide +kernel
theorem dX6_closed_17 : decode cX6_closed 17 = .ok (.aload_n 0, 1) := by decide +kernel
theorem dX6_closed_18 : decode cX6_closed 18 = .ok (.getfield 62, 3) := by decide +kernel
theorem dX6_closed_21 : decode cX6_closed 21 = .ok (.iconst 1, 1) := by decide +kernel
theorem dX6_closed_22 : decode cX6_closed 22 = .ok (.isub, 1) := by decide +kernel
theorem dX6_closed_23 : decode cX6_closed 23 = .ok (.i2l, 1) := by decide +kernel
theorem dX6_closed_24 : decode cX6_closed 24 = .ok (.invokestatic 74, 3) := by decide +kernel
theorem dX6_closed_27 : decode cX6_closed 27 = .ok (.ifCond .ne 7, 3) := by decide +kernel
theorem dX6_closed_30 : decode cX6_closed 30 = .ok (.sipush (-10101), 3) := by decide +kernel
theorem dX6_closed_33 : decode cX6_closed 33 = .ok (.ireturn, 1) := by decide +kernel
theorem dX6_closed_34 : decode cX6_closed 34 = .ok (.aload_n 0, 1) := by decide +kernel
theorem dX6_closed_35 : decode cX6_closed 35 = .ok (.getfield 42, 3) := by decide +kernel
theorem dX6_closed_38 : decode cX6_closed 38 = .ok (.bipush 9, 2) := by decide +kernel
theorem dX6_closed_40 : decode cX6_closed 40 = .ok (.aload_n 0, 1) := by decide +kernel
theorem dX6_closed_41 : decode cX6_closed 41 = .ok (.getfield 58, 3) := by decide +kernel
theorem dX6_closed_44 : decode cX6_closed 44 = .ok (.imul, 1) := by decide +kernel
theorem dX6_closed_45 : decode cX6_closed 45 = .ok (.iload_n 2, 1) := by decide +kernel
theorem dX6_closed_46 : decode cX6_closed 46 = .ok (.iadd, 1) := by decide +kernel
theorem dX6_closed_47 : decode cX6_closed 47 = .ok (.iaload, 1) := by decide +kernel
theorem dX6_closed_48 : decode cX6_closed 48 = .ok (.aload_n 0, 1) := by decide +kernel
theorem dX6_closed_49 : decode cX6_closed 49 = .ok (.getfield 42, 3) := by decide +kernel
theorem dX6_closed_52 : decode cX6_closed 52 = .ok (.iload_n 2, 1) := by decide +kernel
theorem dX6_closed_53 : decode cX6_closed 53 = .ok (.iaload, 1) := by decide +kernel
theorem dX6_closed_54 : decode cX6_closed 54 = .ok (.isub, 1) := by decide +kernel
theorem dX6_closed_55 : decode cX6_closed 55 = .ok (.istore_n 3, 1) := by decide +kernel
theorem dX6_closed_56 : decode cX6_closed 56 = .ok (.aload_n 0, 1) := by decide +kernel
theorem dX6_closed_57 : decode cX6_closed 57 = .ok (.getfield 42, 3) := by decide +kernel
theorem dX6_closed_60 : decode cX6_closed 60 = .ok (.bipush 9, 2) := by decide +kernel
theorem dX6_closed_62 : decode cX6_closed 62 = .ok (.iload_n 1, 1) := by decide +kernel
theorem dX6_closed_63 : decode cX6_closed 63 = .ok (.imul, 1) := by decide +kernel
theorem dX6_closed_64 : decode cX6_closed 64 = .ok (.iload_n 2, 1) := by decide +kernel
theorem dX6_closed_65 : decode cX6_closed 65 = .ok (.iadd, 1) := by decide +kernel
theorem dX6_closed_66 : decode cX6_closed 66 = .ok (.iaload, 1) := by decide +kernel
theorem dX6_closed_67 : decode cX6_closed 67 = .ok (.iload_n 3, 1) := by decide +kernel
theorem dX6_closed_68 : decode cX6_closed 68 = .ok (.iload_n 1, 1) := by decide +kernel
theorem dX6_closed_69 : decode cX6_closed 69 = .ok (.imul, 1) := by decide +kernel
theorem dX6_closed_70 : decode cX6_closed 70 = .ok (.aload_n 0, 1) := by decide +kernel
theorem dX6_closed_71 : decode cX6_closed 71 = .ok (.getfield 58, 3) := by decide +kernel
theorem dX6_closed_74 : decode cX6_closed 74 = .ok (.invokestatic 155, 3) := by decide +kernel
theorem dX6_closed_77 : decode cX6_closed 77 = .ok (.isub, 1) := by decide +kernel
theorem dX6_closed_78 : decode cX6_closed 78 = .ok (.ireturn, 1) := by decide +kernel
set_option maxRecDepth 20000 in
theorem ggX6_tied_X6_in : GoodIn wsX6_tied wsX6_in := goodIn_r _ [7] (by decide +kernel) (by decide +kernel)
set_option maxRecDepth 20000 in
theorem gX6_tied_X6_in : GoodIn wsX6_tied (va_wsS RX6 74 yX6_in wsX6_in) := goodIn_app (goodIn_of _ (by decide +kernel)) ggX6_tied_X6_in
theorem dX6_tied_0 : decode cX6_tied 0 = .ok (.iload_n 1, 1) := by decide +kernel
theorem dX6_tied_1 : decode cX6_tied 1 = .ok (.i2l, 1) := by decide +kernel
theorem dX6_tied_2 : decode cX6_tied 2 = .ok (.lconst 0, 1) := by decide +kernel
theorem dX6_tied_3 : decode cX6_tied 3 = .ok (.aload_n 0, 1) := by decide +kernel
theorem dX6_tied_4 : decode cX6_tied 4 = .ok (.getfield 58, 3) := by decide +kernel
theorem dX6_tied_7 : decode cX6_tied 7 = .ok (.iconst 1, 1) := by decide +kernel
theorem dX6_tied_8 : decode cX6_tied 8 = .ok (.isub, 1) := by decide +kernel
theorem dX6_tied_9 : decode cX6_tied 9 = .ok (.i2l, 1) := by decide +kernel
theorem dX6_tied_10 : decode cX6_tied 10 = .ok (.invokestatic 74, 3) := by decide +kernel
theorem dX6_tied_13 : decode cX6_tied 13 = .ok (.ifCond .eq 19, 3) := by decide +kernel
theorem dX6_tied_16 : decode cX6_tied 16 = .ok (.iload_n 2, 1) := by decide +kernel
theorem dX6_tied_17 : decode cX6_tied 17 = .ok (.i2l, 1) := by decide +kernel
theorem dX6_tied_18 : decode cX6_tied 18 = .ok (.lconst 0, 1) := by decide +kernel
theorem dX6_tied_19 : decode cX6_tied 19 = .ok (.aload_n 0, 1) := by decide +kernel
theorem dX6_tied_20 : decode cX6_tied 20 = .ok (.getfield 62, 3) := by decide +kernel
theorem dX6_tied_23 : decode cX6_tied 23 = .ok (.iconst 1, 1) := by decide +kernel
theorem dX6_tied_24 : decode cX6_tied 24 = .ok (.isub, 1) := by decide +kernel
theorem dX6_tied_25 : decode cX6_tied 25 = .ok (.i2l, 1) := by decide +kernel
theorem dX6_tied_26 : decode cX6_tied 26 = .ok (.invokestatic 74, 3) := by decide +kernel
theorem dX6_tied_29 : decode cX6_tied 29 = .ok (.ifCond .ne 7, 3) := by decide +kernel
theorem dX6_tied_32 : decode cX6_tied 32 = .ok (.sipush (-10101), 3) := by decide +kernel
theorem dX6_tied_35 : decode cX6_tied 35 = .ok (.ireturn, 1) := by decide +kernel
theorem dX6_tied_36 : decode cX6_tied 36 = .ok (.aload_n 0, 1) := by decide +kernel
theorem dX6_tied_37 : decode cX6_tied 37 = .ok (.getfield 42, 3) := by decide +kernel
theorem dX6_tied_40 : decode cX6_tied 40 = .ok (.bipush 9, 2) := by decide +kernel
theorem dX6_tied_42 : decode cX6_tied 42 = .ok (.iload_n 1, 1) := by decide +kernel
theorem dX6_tied_43 : decode cX6_tied 43 = .ok (.imul, 1) := by decide +kernel
theorem dX6_tied_44 : decode cX6_tied 44 = .ok (.iload_n 2, 1) := by decide +kernel
theorem dX6_tied_45 : decode cX6_tied 45 = .ok (.iadd, 1) := by decide +kernel
theorem dX6_tied_46 : decode cX6_tied 46 = .ok (.iaload, 1) := by decide +kernel
theorem dX6_tied_47 : decode cX6_tied 47 = .ok (.aload_n 0, 1) := by decide +kernel
theorem dX6_tied_48 : decode cX6_tied 48 = .ok (.getfield 42, 3) := by decide +kernel
theorem dX6_tied_51 : decode cX6_tied 51 = .ok (.bipush 9, 2) := by decide +kernel
theorem dX6_tied_53 : decode cX6_tied 53 = .ok (.iload_n 1, 1) := by decide +kernel
theorem dX6_tied_54 : decode cX6_tied 54 = .ok (.imul, 1) := by decide +kernel
theorem dX6_tied_55 : decode cX6_tied 55 = .ok (.aload_n 0, 1) := by decide +kernel
theorem dX6_tied_56 : decode cX6_tied 56 = .ok (.getfield 62, 3) := by decide +kernel
theorem dX6_tied_59 : decode cX6_tied 59 = .ok (.iadd, 1) := by decide +kernel
theorem dX6_tied_60 : decode cX6_tied 60 = .ok (.iaload, 1) := by decide +kernel
theorem dX6_tied_61 : decode cX6_tied 61 = .ok (.iadd, 1) := by decide +kernel
theorem dX6_tied_62 : decode cX6_tied 62 = .ok (.aload_n 0, 1) := by decide +kernel
theorem dX6_tied_63 : decode cX6_tied 63 = .ok (.getfield 42, 3) := by decide +kernel
theorem dX6_tied_66 : decode cX6_tied 66 = .ok (.bipush 9, 2) := by decide +kernel
theorem dX6_tied_68 : decode cX6_tied 68 = .ok (.iload_n 1, 1) := by decide +kernel
theorem dX6_tied_69 : decode cX6_tied 69 = .ok (.imul, 1) := by decide +kernel
theorem dX6_tied_70 : decode cX6_tied 70 = .ok (.iaload, 1) := by decide +kernel
theorem dX6_tied_71 : decode cX6_tied 71 = .ok (.isub, 1) := by decide +kernel
theorem dX6_tied_72 : decode cX6_tied 72 = .ok (.ireturn, 1) := by decide +kernel
set_option maxRecDepth 20000 in
theorem ggX6_antennas_X6_in : GoodIn wsX6_antennas wsX6_in := goodIn_r _ [9] (by decide +kernel) (by decide +kernel)
set_option maxRecDepth 20000 in
theorem gX6_antennas_X6_in : GoodIn wsX6_antennas (va_wsS RX6 74 yX6_in wsX6_in) := goodIn_app (goodIn_of _ (by decide +kernel)) ggX6_antennas_X6_in
theorem dX6_antennas_0 : decode cX6_antennas 0 = .ok (.iload_n 1, 1) := by decide +kernel
theorem dX6_antennas_1 : decode cX6_antennas 1 = .ok (.i2l, 1) := by decide +kernel
theorem dX6_antennas_2 : decode cX6_antennas 2 = .ok (.ldc2_w 158, 3) := by decide +kernel
theorem dX6_antennas_5 : decode cX6_antennas 5 = .ok (.ldc2_w 72, 3) := by decide +kernel
theorem dX6_antennas_8 : decode cX6_antennas 8 = .ok (.invokestatic 74, 3) := by decide +kernel
theorem dX6_antennas_11 : decode cX6_antennas 11 = .ok (.ifCond .ne 6, 3) := by decide +kernel
theorem dX6_antennas_14 : decode cX6_antennas 14 = .ok (.bipush (-102), 2) := by decide +kernel
theorem dX6_antennas_16 : decode cX6_antennas 16 = .ok (.ireturn, 1) := by decide +kernel
theorem dX6_antennas_17 : decode cX6_antennas 17 = .ok (.aload_n 0, 1) := by decide +kernel
theorem dX6_antennas_18 : decode cX6_antennas 18 = .ok (.iload_n 1, 1) := by decide +kernel
theorem dX6_antennas_19 : decode cX6_antennas 19 = .ok (.putfield 65, 3) := by decide +kernel
theorem dX6_antennas_22 : decode cX6_antennas 22 = .ok (.iconst 0, 1) := by decide +kernel
theorem dX6_antennas_23 : decode cX6_antennas 23 = .ok (.istore_n 2, 1) := by decide +kernel
theorem dX6_antennas_24 : decode cX6_antennas 24 = .ok (.iload_n 2, 1) := by decide +kernel
theorem dX6_antennas_25 : decode cX6_antennas 25 = .ok (.bipush 25, 2) := by decide +kernel
theorem dX6_antennas_27 : decode cX6_antennas 27 = .ok (.if_icmp .ge 23, 3) := by decide +kernel
theorem dX6_antennas_30 : decode cX6_antennas 30 = .ok (.aload_n 0, 1) := by decide +kernel
theorem dX6_antennas_31 : decode cX6_antennas 31 = .ok (.getfield 45, 3) := by decide +kernel
theorem dX6_antennas_34 : decode cX6_antennas 34 = .ok (.iload_n 2, 1) := by decide +kernel
theorem dX6_antennas_35 : decode cX6_antennas 35 = .ok (.iconst 0, 1) := by decide +kernel
theorem dX6_antennas_36 : decode cX6_antennas 36 = .ok (.bastore, 1) := by decide +kernel
theorem dX6_antennas_37 : decode cX6_antennas 37 = .ok (.aload_n 0, 1) := by decide +kernel
theorem dX6_antennas_38 : decode cX6_antennas 38 = .ok (.getfield 48, 3) := by decide +kernel
theorem dX6_antennas_41 : decode cX6_antennas 41 = .ok (.iload_n 2, 1) := by decide +kernel
theorem dX6_antennas_42 : decode cX6_antennas 42 = .ok (.iconst 0, 1) := by decide +kernel
theorem dX6_antennas_43 : decode cX6_antennas 43 = .ok (.iastore, 1) := by decide +kernel
theorem dX6_antennas_44 : decode cX6_antennas 44 = .ok (.iinc 2 1, 3) := by decide +kernel
theorem dX6_antennas_47 : decode cX6_antennas 47 = .ok (.goto (-23), 3) := by decide +kernel
theorem dX6_antennas_50 : decode cX6_antennas 50 = .ok (.iload_n 1, 1) := by decide +kernel
theorem dX6_antennas_51 : decode cX6_antennas 51 = .ok (.ireturn, 1) := by decide +kernel
set_option maxRecDepth 20000 in
theorem ggX6_together_X6_in : GoodIn wsX6_together wsX6_in := goodIn_r _ [9] (by decide +kernel) (by decide +kernel)
set_option maxRecDepth 20000 in
theorem gX6_together_X6_in : GoodIn wsX6_together (va_wsS RX6 74 yX6_in wsX6_in) := goodIn_app (goodIn_of _ (by decide +kernel)) ggX6_together_X6_in
theorem dX6_together_0 : decode cX6_together 0 = .ok (.iload_n 1, 1) := by decide +kernel
theorem dX6_together_1 : decode cX6_together 1 = .ok (.i2l, 1) := by decide +kernel
theorem dX6_together_2 : decode cX6_together 2 = .ok (.lconst 0, 1) := by decide +kernel
theorem dX6_together_3 : decode cX6_together 3 = .ok (.aload_n 0, 1) := by decide +kernel
theorem dX6_together_4 : decode cX6_together 4 = .ok (.getfield 65, 3) := by decide +kernel
theorem dX6_together_7 : decode cX6_together 7 = .ok (.iconst 1, 1) := by decide +kernel
theorem dX6_together_8 : decode cX6_together 8 = .ok (.isub, 1) := by decide +kernel
theorem dX6_together_9 : decode cX6_together 9 = .ok (.i2l, 1) := by decide +kernel
theorem dX6_together_10 : decode cX6_together 10 = .ok (.invokestatic 74, 3) := by decide +kernel
theorem dX6_together_13 : decode cX6_together 13 = .ok (.ifCond .eq 24, 3) := by decide +kernel
theorem dX6_together_16 : decode cX6_together 16 = .ok (.iload_n 2, 1) := by decide +kernel
theorem dX6_together_17 : decode cX6_together 17 = .ok (.i2l, 1) := by decide +kernel
theorem dX6_together_18 : decode cX6_together 18 = .ok (.lconst 0, 1) := by decide +kernel
theorem dX6_together_19 : decode cX6_together 19 = .ok (.aload_n 0, 1) := by decide +kernel
theorem dX6_together_20 : decode cX6_together 20 = .ok (.getfield 65, 3) := by decide +kernel
theorem dX6_together_23 : decode cX6_together 23 = .ok (.iconst 1, 1) := by decide +kernel
theorem dX6_together_24 : decode cX6_together 24 = .ok (.isub, 1) := by decide +kernel
theorem dX6_together_25 : decode cX6_together 25 = .ok (.i2l, 1) := by decide +kernel
theorem dX6_together_26 : decode cX6_together 26 = .ok (.invokestatic 74, 3) := by decide +kernel
theorem dX6_together_29 : decode cX6_together 29 = .ok (.ifCond .eq 8, 3) := by decide +kernel
theorem dX6_together_32 : decode cX6_together 32 = .ok (.iload_n 1, 1) := by decide +kernel
theorem dX6_together_33 : decode cX6_together 33 = .ok (.iload_n 2, 1) := by decide +kernel
theorem dX6_together_34 : decode cX6_together 34 = .ok (.if_icmp .ne 6, 3) := by decide +kernel
theorem dX6_together_37 : decode cX6_together 37 = .ok (.bipush (-101), 2) := by decide +kernel
theorem dX6_together_39 : decode cX6_together 39 = .ok (.ireturn, 1) := by decide +kernel
theorem dX6_together_40 : decode cX6_together 40 = .ok (.iload_n 3, 1) := by decide +kernel
theorem dX6_together_41 : decode cX6_together 41 = .ok (.i2l, 1) := by decide +kernel
theorem dX6_together_42 : decode cX6_together 42 = .ok (.ldc2_w 160, 3) := by decide +kernel
theorem dX6_together_45 : decode cX6_together 45 = .ok (.ldc2_w 162, 3) := by decide +kernel
theorem dX6_together_48 : decode cX6_together 48 = .ok (.invokestatic 74, 3) := by decide +kernel
theorem dX6_together_51 : decode cX6_together 51 = .ok (.ifCond .ne 6, 3) := by decide +kernel
theorem dX6_together_54 : decode cX6_together 54 = .ok (.bipush (-102), 2) := by decide +kernel
theorem dX6_together_56 : decode cX6_together 56 = .ok (.ireturn, 1) := by decide +kernel
theorem dX6_together_57 : decode cX6_together 57 = .ok (.aload_n 0, 1) := by decide +kernel
theorem dX6_together_58 : decode cX6_together 58 = .ok (.getfield 45, 3) := by decide +kernel
theorem dX6_together_61 : decode cX6_together 61 = .ok (.iconst 5, 1) := by decide +kernel
theorem dX6_together_62 : decode cX6_together 62 = .ok (.iload_n 1, 1) := by decide +kernel
theorem dX6_together_63 : decode cX6_together 63 = .ok (.imul, 1) := by decide +kernel
theorem dX6_together_64 : decode cX6_together 64 = .ok (.iload_n 2, 1) := by decide +kernel
theorem dX6_together_65 : decode cX6_together 65 = .ok (.iadd, 1) := by decide +kernel
theorem dX6_together_66 : decode cX6_together 66 = .ok (.baload, 1) := by decide +kernel
theorem dX6_together_67 : decode cX6_together 67 = .ok (.ifCond .eq 7, 3) := by decide +kernel
theorem dX6_together_70 : decode cX6_together 70 = .ok (.iconst 1, 1) := by decide +kernel
theorem dX6_together_71 : decode cX6_together 71 = .ok (.goto 4, 3) := by decide +kernel
theorem dX6_together_74 : decode cX6_together 74 = .ok (.iconst 0, 1) := by decide +kernel
theorem dX6_together_75 : decode cX6_together 75 = .ok (.istore 5, 2) := by decide +kernel
theorem dX6_together_77 : decode cX6_together 77 = .ok (.aload_n 0, 1) := by decide +kernel
theorem dX6_together_78 : decode cX6_together 78 = .ok (.getfield 45, 3) := by decide +kernel
theorem dX6_together_81 : decode cX6_together 81 = .ok (.iconst 5, 1) := by decide +kernel
theorem dX6_together_82 : decode cX6_together 82 = .ok (.iload_n 1, 1) := by decide +kernel
theorem dX6_together_83 : decode cX6_together 83 = .ok (.imul, 1) := by decide +kernel
theorem dX6_together_84 : decode cX6_together 84 = .ok (.iload_n 2, 1) := by decide +kernel
theorem dX6_together_85 : decode cX6_together 85 = .ok (.iadd, 1) := by decide +kernel
theorem dX6_together_86 : decode cX6_together 86 = .ok (.iload 4, 2) := by decide +kernel
theorem dX6_together_88 : decode cX6_together 88 = .ok (.bastore, 1) := by decide +kernel
theorem dX6_together_89 : decode cX6_together 89 = .ok (.aload_n 0, 1) := by decide +kernel
theorem dX6_together_90 : decode cX6_together 90 = .ok (.getfield 45, 3) := by decide +kernel
theorem dX6_together_93 : decode cX6_together 93 = .ok (.iconst 5, 1) := by decide +kernel
theorem dX6_together_94 : decode cX6_together 94 = .ok (.iload_n 2, 1) := by decide +kernel
theorem dX6_together_95 : decode cX6_together 95 = .ok (.imul, 1) := by decide +kernel
theorem dX6_together_96 : decode cX6_together 96 = .ok (.iload_n 1, 1) := by decide +kernel
theorem dX6_together_97 : decode cX6_together 97 = .ok (.iadd, 1) := by decide +kernel
theorem dX6_together_98 : decode cX6_together 98 = .ok (.iload 4, 2) := by decide +kernel
theorem dX6_together_100 : decode cX6_together 100 = .ok (.bastore, 1) := by decide +kernel
theorem dX6_together_101 : decode cX6_together 101 = .ok (.aload_n 0, 1) := by decide +kernel
theorem dX6_together_102 : decode cX6_together 102 = .ok (.getfield 48, 3) := by decide +kernel
theorem dX6_together_105 : decode cX6_together 105 = .ok (.iconst 5, 1) := by decide +kernel
theorem dX6_together_106 : decode cX6_together 106 = .ok (.iload_n 1, 1) := by decide +kernel
theorem dX6_together_107 : decode cX6_together 107 = .ok (.imul, 1) := by decide +kernel
theorem dX6_together_108 : decode cX6_together 108 = .ok (.iload_n 2, 1) := by decide +kernel
theorem dX6_together_109 : decode cX6_together 109 = .ok (.iadd, 1) := by decide +kernel
theorem dX6_together_110 : decode cX6_together 110 = .ok (.iload 4, 2) := by decide +kernel
theorem dX6_together_112 : decode cX6_together 112 = .ok (.ifCond .eq 7, 3) := by decide +kernel
theorem dX6_together_115 : decode cX6_together 115 = .ok (.iload_n 3, 1) := by decide +kernel
theorem dX6_together_116 : decode cX6_together 116 = .ok (.goto 4, 3) := by decide +kernel
theorem dX6_together_119 : decode cX6_together 119 = .ok (.iconst 0, 1) := by decide +kernel
theorem dX6_together_120 : decode cX6_together 120 = .ok (.iastore, 1) := by decide +kernel
theorem dX6_together_121 : decode cX6_together 121 = .ok (.aload_n 0, 1) := by decide +kernel
theorem dX6_together_122 : decode cX6_together 122 = .ok (.getfield 48, 3) := by decide +kernel
theorem dX6_together_125 : decode cX6_together 125 = .ok (.iconst 5, 1) := by decide +kernel
theorem dX6_together_126 : decode cX6_together 126 = .ok (.iload_n 2, 1) := by decide +kernel
theorem dX6_together_127 : decode cX6_together 127 = .ok (.imul, 1) := by decide +kernel
theorem dX6_together_128 : decode cX6_together 128 = .ok (.iload_n 1, 1) := by decide +kernel
theorem dX6_together_129 : decode cX6_together 129 = .ok (.iadd, 1) := by decide +kernel
theorem dX6_together_130 : decode cX6_together 130 = .ok (.iload 4, 2) := by decide +kernel
theorem dX6_together_132 : decode cX6_together 132 = .ok (.ifCond .eq 7, 3) := by decide +kernel
theorem dX6_together_135 : decode cX6_together 135 = .ok (.iload_n 3, 1) := by decide +kernel
theorem dX6_together_136 : decode cX6_together 136 = .ok (.goto 4, 3) := by decide +kernel
theorem dX6_together_139 : decode cX6_together 139 = .ok (.iconst 0, 1) := by decide +kernel
theorem dX6_together_140 : decode cX6_together 140 = .ok (.iastore, 1) := by decide +kernel
theorem dX6_together_141 : decode cX6_together 141 = .ok (.iload 5, 2) := by decide +kernel
theorem dX6_together_143 : decode cX6_together 143 = .ok (.ireturn, 1) := by decide +kernel
theorem dX6_findThrees_0 : decode cX6_findThrees 0 = .ok (.aload_n 0, 1) := by decide +kernel
theorem dX6_findThrees_1 : decode cX6_findThrees 1 = .ok (.iconst 0, 1) := by decide +kernel
theorem dX6_findThrees_2 : decode cX6_findThrees 2 = .ok (.putfield 164, 3) := by decide +kernel
theorem dX6_findThrees_5 : decode cX6_findThrees 5 = .ok (.iconst 0, 1) := by decide +kernel
theorem dX6_findThrees_6 : decode cX6_findThrees 6 = .ok (.istore_n 2, 1) := by decide +kernel
theorem dX6_findThrees_7 : decode cX6_findThrees 7 = .ok (.iload_n 2, 1) := by decide +kernel
theorem dX6_findThrees_8 : decode cX6_findThrees 8 = .ok (.aload_n 0, 1) := by decide +kernel
theorem dX6_findThrees_9 : decode cX6_findThrees 9 = .ok (.getfield 65, 3) := by decide +kernel
theorem dX6_findThrees_12 : decode cX6_findThrees 12 = .ok (.if_icmp .ge 198, 3) := by decide +kernel
theorem dX6_findThrees_15 : decode cX6_findThrees 15 = .ok (.iload_n 2, 1) := by decide +kernel
theorem dX6_findThrees_16 : decode cX6_findThrees 16 = .ok (.iconst 1, 1) := by decide +kernel
theorem dX6_findThrees_17 : decode cX6_findThrees 17 = .ok (.iadd, 1) := by decide +kernel
theorem dX6_findThrees_18 : decode cX6_findThrees 18 = .ok (.istore_n 3, 1) := by decide +kernel
theorem dX6_findThrees_19 : decode cX6_findThrees 19 = .ok (.iload_n 3, 1) := by decide +kernel
theorem dX6_findThrees_20 : decode cX6_findThrees 20 = .ok (.aload_n 0, 1) := by decide +kernel
theorem dX6_findThrees_21 : decode cX6_findThrees 21 = .ok (.getfield 65, 3) := by decide +kernel
theorem dX6_findThrees_24 : decode cX6_findThrees 24 = .ok (.if_icmp .ge 180, 3) := by decide +kernel
theorem dX6_findThrees_27 : decode cX6_findThrees 27 = .ok (.iload_n 1, 1) := by decide +kernel
theorem dX6_findThrees_28 : decode cX6_findThrees 28 = .ok (.iload_n 2, 1) := by decide +kernel
theorem dX6_findThrees_29 : decode cX6_findThrees 29 = .ok (.if_icmp .eq 169, 3) := by decide +kernel
theorem dX6_findThrees_32 : decode cX6_findThrees 32 = .ok (.iload_n 1, 1) := by decide +kernel
theorem dX6_findThrees_33 : decode cX6_findThrees 33 = .ok (.iload_n 3, 1) := by decide +kernel
theorem dX6_findThrees_34 : decode cX6_findThrees 34 = .ok (.if_icmp .eq 164, 3) := by decide +kernel
theorem dX6_findThrees_37 : decode cX6_findThrees 37 = .ok (.aload_n 0, 1) := by decide +kernel
theorem dX6_findThrees_38 : decode cX6_findThrees 38 = .ok (.getfield 45, 3) := by decide +kernel
theorem dX6_findThrees_41 : decode cX6_findThrees 41 = .ok (.iconst 5, 1) := by decide +kernel
theorem dX6_findThrees_42 : decode cX6_findThrees 42 = .ok (.iload_n 1, 1) := by decide +kernel
theorem dX6_findThrees_43 : decode cX6_findThrees 43 = .ok (.imul, 1) := by decide +kernel
theorem dX6_findThrees_44 : decode cX6_findThrees 44 = .ok (.iload_n 2, 1) := by decide +kernel
theorem dX6_findThrees_45 : decode cX6_findThrees 45 = .ok (.iadd, 1) := by decide +kernel
theorem dX6_findThrees_46 : decode cX6_findThrees 46 = .ok (.baload, 1) := by decide +kernel
theorem dX6_findThrees_47 : decode cX6_findThrees 47 = .ok (.ifCond .eq 151, 3) := by decide +kernel
theorem dX6_findThrees_50 : decode cX6_findThrees 50 = .ok (.aload_n 0, 1) := by decide +kernel
theorem dX6_findThrees_51 : decode cX6_findThrees 51 = .ok (.getfield 45, 3) := by decide +kernel
theorem dX6_findThrees_54 : decode cX6_findThrees 54 = .ok (.iconst 5, 1) := by decide +kernel
theorem dX6_findThrees_55 : decode cX6_findThrees 55 = .ok (.iload_n 1, 1) := by decide +kernel
theorem dX6_findThrees_56 : decode cX6_findThrees 56 = .ok (.imul, 1) := by decide +kernel
theorem dX6_findThrees_57 : decode cX6_findThrees 57 = .ok (.iload_n 3, 1) := by decide +kernel
theorem dX6_findThrees_58 : decode cX6_findThrees 58 = .ok (.iadd, 1) := by decide +kernel
theorem dX6_findThrees_59 : decode cX6_findThrees 59 = .ok (.baload, 1) := by decide +kernel
theorem dX6_findThrees_60 : decode cX6_findThrees 60 = .ok (.ifCond .eq 138, 3) := by decide +kernel
theorem dX6_findThrees_63 : decode cX6_findThrees 63 = .ok (.aload_n 0, 1) := by decide +kernel
theorem dX6_findThrees_64 : decode cX6_findThrees 64 = .ok (.getfield 45, 3) := by decide +kernel
theorem dX6_findThrees_67 : decode cX6_findThrees 67 = .ok (.iconst 5, 1) := by decide +kernel
theorem dX6_findThrees_68 : decode cX6_findThrees 68 = .ok (.iload_n 2, 1) := by decide +kernel
theorem dX6_findThrees_69 : decode cX6_findThrees 69 = .ok (.imul, 1) := by decide +kernel
theorem dX6_findThrees_70 : decode cX6_findThrees 70 = .ok (.iload_n 3, 1) := by decide +kernel
theorem dX6_findThrees_71 : decode cX6_findThrees 71 = .ok (.iadd, 1) := by decide +kernel
theorem dX6_findThrees_72 : decode cX6_findThrees 72 = .ok (.baload, 1) := by decide +kernel
theorem dX6_findThrees_73 : decode cX6_findThrees 73 = .ok (.ifCond .eq 125, 3) := by decide +kernel
theorem dX6_findThrees_76 : decode cX6_findThrees 76 = .ok (.aload_n 0, 1) := by decide +kernel
theorem dX6_findThrees_77 : decode cX6_findThrees 77 = .ok (.getfield 48, 3) := by decide +kernel
theorem dX6_findThrees_80 : decode cX6_findThrees 80 = .ok (.iconst 5, 1) := by decide +kernel
theorem dX6_findThrees_81 : decode cX6_findThrees 81 = .ok (.iload_n 1, 1) := by decide +kernel
theorem dX6_findThrees_82 : decode cX6_findThrees 82 = .ok (.imul, 1) := by decide +kernel
theorem dX6_findThrees_83 : decode cX6_findThrees 83 = .ok (.iload_n 2, 1) := by decide +kernel
theorem dX6_findThrees_84 : decode cX6_findThrees 84 = .ok (.iadd, 1) := by decide +kernel
theorem dX6_findThrees_85 : decode cX6_findThrees 85 = .ok (.iaload, 1) := by decide +kernel
theorem dX6_findThrees_86 : decode cX6_findThrees 86 = .ok (.aload_n 0, 1) := by decide +kernel
theorem dX6_findThrees_87 : decode cX6_findThrees 87 = .ok (.getfield 48, 3) := by decide +kernel
theorem dX6_findThrees_90 : decode cX6_findThrees 90 = .ok (.iconst 5, 1) := by decide +kernel
theorem dX6_findThrees_91 : decode cX6_findThrees 91 = .ok (.iload_n 1, 1) := by decide +kernel
theorem dX6_findThrees_92 : decode cX6_findThrees 92 = .ok (.imul, 1) := by decide +kernel
theorem dX6_findThrees_93 : decode cX6_findThrees 93 = .ok (.iload_n 3, 1) := by decide +kernel
theorem dX6_findThrees_94 : decode cX6_findThrees 94 = .ok (.iadd, 1) := by decide +kernel
theorem dX6_findThrees_95 : decode cX6_findThrees 95 = .ok (.iaload, 1) := by decide +kernel
theorem dX6_findThrees_96 : decode cX6_findThrees 96 = .ok (.iadd, 1) := by decide +kernel
theorem dX6_findThrees_97 : decode cX6_findThrees 97 = .ok (.aload_n 0, 1) := by decide +kernel
theorem dX6_findThrees_98 : decode cX6_findThrees 98 = .ok (.getfield 48, 3) := by decide +kernel
theorem dX6_findThrees_101 : decode cX6_findThrees 101 = .ok (.iconst 5, 1) := by decide +kernel
theorem dX6_findThrees_102 : decode cX6_findThrees 102 = .ok (.iload_n 2, 1) := by decide +kernel
theorem dX6_findThrees_103 : decode cX6_findThrees 103 = .ok (.imul, 1) := by decide +kernel
theorem dX6_findThrees_104 : decode cX6_findThrees 104 = .ok (.iload_n 3, 1) := by decide +kernel
theorem dX6_findThrees_105 : decode cX6_findThrees 105 = .ok (.iadd, 1) := by decide +kernel
theorem dX6_findThrees_106 : decode cX6_findThrees 106 = .ok (.iaload, 1) := by decide +kernel
theorem dX6_findThrees_107 : decode cX6_findThrees 107 = .ok (.isub, 1) := by decide +kernel
theorem dX6_findThrees_108 : decode cX6_findThrees 108 = .ok (.istore 4, 2) := by decide +kernel
theorem dX6_findThrees_110 : decode cX6_findThrees 110 = .ok (.aload_n 0, 1) := by decide +kernel
theorem dX6_findThrees_111 : decode cX6_findThrees 111 = .ok (.aload_n 0, 1) := by decide +kernel
theorem dX6_findThrees_112 : decode cX6_findThrees 112 = .ok (.getfield 164, 3) := by decide +kernel
theorem dX6_findThrees_115 : decode cX6_findThrees 115 = .ok (.ifCond .ne 8, 3) := by decide +kernel
theorem dX6_findThrees_118 : decode cX6_findThrees 118 = .ok (.iload 4, 2) := by decide +kernel
theorem dX6_findThrees_120 : decode cX6_findThrees 120 = .ok (.goto 7, 3) := by decide +kernel
theorem dX6_findThrees_123 : decode cX6_findThrees 123 = .ok (.aload_n 0, 1) := by decide +kernel
theorem dX6_findThrees_124 : decode cX6_findThrees 124 = .ok (.getfield 167, 3) := by decide +kernel
theorem dX6_findThrees_127 : decode cX6_findThrees 127 = .ok (.putfield 167, 3) := by decide +kernel
theorem dX6_findThrees_130 : decode cX6_findThrees 130 = .ok (.aload_n 0, 1) := by decide +kernel
theorem dX6_findThrees_131 : decode cX6_findThrees 131 = .ok (.aload_n 0, 1) := by decide +kernel
theorem dX6_findThrees_132 : decode cX6_findThrees 132 = .ok (.getfield 164, 3) := by decide +kernel
theorem dX6_findThrees_135 : decode cX6_findThrees 135 = .ok (.ifCond .eq 12, 3) := by decide +kernel
theorem dX6_findThrees_138 : decode cX6_findThrees 138 = .ok (.iload 4, 2) := by decide +kernel
theorem dX6_findThrees_140 : decode cX6_findThrees 140 = .ok (.aload_n 0, 1) := by decide +kernel
theorem dX6_findThrees_141 : decode cX6_findThrees 141 = .ok (.getfield 170, 3) := by decide +kernel
theorem dX6_findThrees_144 : decode cX6_findThrees 144 = .ok (.if_icmp .ge 8, 3) := by decide +kernel
theorem dX6_findThrees_147 : decode cX6_findThrees 147 = .ok (.iload 4, 2) := by decide +kernel
theorem dX6_findThrees_149 : decode cX6_findThrees 149 = .ok (.goto 7, 3) := by decide +kernel
theorem dX6_findThrees_152 : decode cX6_findThrees 152 = .ok (.aload_n 0, 1) := by decide +kernel
theorem dX6_findThrees_153 : decode cX6_findThrees 153 = .ok (.getfield 170, 3) := by decide +kernel
theorem dX6_findThrees_156 : decode cX6_findThrees 156 = .ok (.putfield 170, 3) := by decide +kernel
theorem dX6_findThrees_159 : decode cX6_findThrees 159 = .ok (.aload_n 0, 1) := by decide +kernel
theorem dX6_findThrees_160 : decode cX6_findThrees 160 = .ok (.aload_n 0, 1) := by decide +kernel
theorem dX6_findThrees_161 : decode cX6_findThrees 161 = .ok (.getfield 164, 3) := by decide +kernel
theorem dX6_findThrees_164 : decode cX6_findThrees 164 = .ok (.ifCond .eq 12, 3) := by decide +kernel
theorem dX6_findThrees_167 : decode cX6_findThrees 167 = .ok (.iload 4, 2) := by decide +kernel
theorem dX6_findThrees_169 : decode cX6_findThrees 169 = .ok (.aload_n 0, 1) := by decide +kernel
theorem dX6_findThrees_170 : decode cX6_findThrees 170 = .ok (.getfield 173, 3) := by decide +kernel
theorem dX6_findThrees_173 : decode cX6_findThrees 173 = .ok (.if_icmp .le 8, 3) := by decide +kernel
theorem dX6_findThrees_176 : decode cX6_findThrees 176 = .ok (.iload 4, 2) := by decide +kernel
theorem dX6_findThrees_178 : decode cX6_findThrees 178 = .ok (.goto 7, 3) := by decide +kernel
theorem dX6_findThrees_181 : decode cX6_findThrees 181 = .ok (.aload_n 0, 1) := by decide +kernel
theorem dX6_findThrees_182 : decode cX6_findThrees 182 = .ok (.getfield 173, 3) := by decide +kernel
theorem dX6_findThrees_185 : decode cX6_findThrees 185 = .ok (.putfield 173, 3) := by decide +kernel
theorem dX6_findThrees_188 : decode cX6_findThrees 188 = .ok (.aload_n 0, 1) := by decide +kernel
theorem dX6_findThrees_189 : decode cX6_findThrees 189 = .ok (.dup, 1) := by decide +kernel
theorem dX6_findThrees_190 : decode cX6_findThrees 190 = .ok (.getfield 164, 3) := by decide +kernel
theorem dX6_findThrees_193 : decode cX6_findThrees 193 = .ok (.iconst 1, 1) := by decide +kernel
theorem dX6_findThrees_194 : decode cX6_findThrees 194 = .ok (.iadd, 1) := by decide +kernel
theorem dX6_findThrees_195 : decode cX6_findThrees 195 = .ok (.putfield 164, 3) := by decide +kernel
theorem dX6_findThrees_198 : decode cX6_findThrees 198 = .ok (.iinc 3 1, 3) := by decide +kernel
theorem dX6_findThrees_201 : decode cX6_findThrees 201 = .ok (.goto (-182), 3) := by decide +kernel
theorem dX6_findThrees_204 : decode cX6_findThrees 204 = .ok (.iinc 2 1, 3) := by decide +kernel
theorem dX6_findThrees_207 : decode cX6_findThrees 207 = .ok (.goto (-200), 3) := by decide +kernel
theorem dX6_findThrees_210 : decode cX6_findThrees 210 = .ok (.return_, 1) := by decide +kernel
set_option maxRecDepth 20000 in
theorem ggX6_gain_X6_in : GoodIn wsX6_gain wsX6_in := goodIn_r _ [9] (by decide +kernel) (by decide +kernel)
set_option maxRecDepth 20000 in
theorem gX6_gain_X6_in : GoodIn wsX6_gain (va_wsS RX6 74 yX6_in wsX6_in) := goodIn_app (goodIn_of _ (by decide +kernel)) ggX6_gain_X6_in
set_option maxRecDepth 20000 in
theorem ggX6_gain_X6_findThrees : GoodIn wsX6_gain wsX6_findThrees := goodIn_r _ [13, 3, 1, 14, 15, 5, 16, 17, 18, 19, 20, 21, 22, 23, 24, 25, 26, 27, 28, 29, 30, 31, 32, 33, 34, 35, 36, 37, 38, 39, 40, 41, 42] (by decide +kernel) (by decide +kernel)
set_option maxRecDepth 20000 in
theorem gX6_gain_X6_findThrees : GoodIn wsX6_gain (wsV RX6 176 RX6 yX6_findThrees wsX6_findThrees) := goodIn_app (goodIn_of _ (by decide +kernel)) ggX6_gain_X6_findThrees
theorem dX6_gain_0 : decode cX6_gain 0 = .ok (.iload_n 1, 1) := by decide +kernel
theorem dX6_gain_1 : decode cX6_gain 1 = .ok (.i2l, 1) := by decide +kernel
theorem dX6_gain_2 : decode cX6_gain 2 = .ok (.lconst 0, 1) := by decide +kernel
theorem dX6_gain_3 : decode cX6_gain 3 = .ok (.aload_n 0, 1) := by decide +kernel
theorem dX6_gain_4 : decode cX6_gain 4 = .ok (.getfield 65, 3) := by decide +kernel
theorem dX6_gain_7 : decode cX6_gain 7 = .ok (.iconst 1, 1) := by decide +kernel
theorem dX6_gain_8 : decode cX6_gain 8 = .ok (.isub, 1) := by decide +kernel
theorem dX6_gain_9 : decode cX6_gain 9 = .ok (.i2l, 1) := by decide +kernel
theorem dX6_gain_10 : decode cX6_gain 10 = .ok (.invokestatic 74, 3) := by decide +kernel
theorem dX6_gain_13 : decode cX6_gain 13 = .ok (.ifCond .ne 6, 3) := by decide +kernel
theorem dX6_gain_16 : decode cX6_gain 16 = .ok (.ldc 94, 2) := by decide +kernel
theorem dX6_gain_18 : decode cX6_gain 18 = .ok (.ireturn, 1) := by decide +kernel
theorem dX6_gain_19 : decode cX6_gain 19 = .ok (.aload_n 0, 1) := by decide +kernel
theorem dX6_gain_20 : decode cX6_gain 20 = .ok (.iload_n 1, 1) := by decide +kernel
theorem dX6_gain_21 : decode cX6_gain 21 = .ok (.invokevirtual 176, 3) := by decide +kernel
theorem dX6_gain_24 : decode cX6_gain 24 = .ok (.aload_n 0, 1) := by decide +kernel
theorem dX6_gain_25 : decode cX6_gain 25 = .ok (.getfield 164, 3) := by decide +kernel
theorem dX6_gain_28 : decode cX6_gain 28 = .ok (.ifCond .ne 8, 3) := by decide +kernel
theorem dX6_gain_31 : decode cX6_gain 31 = .ok (.ldc 179, 2) := by decide +kernel
theorem dX6_gain_33 : decode cX6_gain 33 = .ok (.goto 7, 3) := by decide +kernel
theorem dX6_gain_36 : decode cX6_gain 36 = .ok (.aload_n 0, 1) := by decide +kernel
theorem dX6_gain_37 : decode cX6_gain 37 = .ok (.getfield 167, 3) := by decide +kernel
theorem dX6_gain_40 : decode cX6_gain 40 = .ok (.ireturn, 1) := by decide +kernel
set_option maxRecDepth 20000 in
theorem ggX6_loose_X6_findThrees : GoodIn wsX6_loose wsX6_findThrees := goodIn_r _ [9, 2, 1, 10, 11, 12, 4, 3, 13, 14, 15, 16, 17, 18, 19, 20, 21, 22, 23, 24, 25, 26, 27, 28, 29, 30, 31, 32, 33, 34, 35, 36, 37] (by decide +kernel) (by decide +kernel)
set_option maxRecDepth 20000 in
theorem gX6_loose_X6_findThrees : GoodIn wsX6_loose (wsV RX6 176 RX6 yX6_findThrees wsX6_findThrees) := goodIn_app (goodIn_of _ (by decide +kernel)) ggX6_loose_X6_findThrees
theorem dX6_loose_0 : decode cX6_loose 0 = .ok (.iconst (-1), 1) := by decide +kernel
theorem dX6_loose_1 : decode cX6_loose 1 = .ok (.istore_n 1, 1) := by decide +kernel
theorem dX6_loose_2 : decode cX6_loose 2 = .ok (.iconst 0, 1) := by decide +kernel
theorem dX6_loose_3 : decode cX6_loose 3 = .ok (.istore_n 2, 1) := by decide +kernel
theorem dX6_loose_4 : decode cX6_loose 4 = .ok (.iload_n 2, 1) := by decide +kernel
theorem dX6_loose_5 : decode cX6_loose 5 = .ok (.aload_n 0, 1) := by decide +kernel
theorem dX6_loose_6 : decode cX6_loose 6 = .ok (.getfield 65, 3) := by decide +kernel
theorem dX6_loose_9 : decode cX6_loose 9 = .ok (.if_icmp .ge 44, 3) := by decide +kernel
theorem dX6_loose_12 : decode cX6_loose 12 = .ok (.aload_n 0, 1) := by decide +kernel
theorem dX6_loose_13 : decode cX6_loose 13 = .ok (.iload_n 2, 1) := by decide +kernel
theorem dX6_loose_14 : decode cX6_loose 14 = .ok (.invokevirtual 176, 3) := by decide +kernel
theorem dX6_loose_17 : decode cX6_loose 17 = .ok (.aload_n 0, 1) := by decide +kernel
theorem dX6_loose_18 : decode cX6_loose 18 = .ok (.getfield 164, 3) := by decide +kernel
theorem dX6_loose_21 : decode cX6_loose 21 = .ok (.ifCond .le 26, 3) := by decide +kernel
theorem dX6_loose_24 : decode cX6_loose 24 = .ok (.aload_n 0, 1) := by decide +kernel
theorem dX6_loose_25 : decode cX6_loose 25 = .ok (.getfield 173, 3) := by decide +kernel
theorem dX6_loose_28 : decode cX6_loose 28 = .ok (.aload_n 0, 1) := by decide +kernel
theorem dX6_loose_29 : decode cX6_loose 29 = .ok (.getfield 170, 3) := by decide +kernel
theorem dX6_loose_32 : decode cX6_loose 32 = .ok (.isub, 1) := by decide +kernel
theorem dX6_loose_33 : decode cX6_loose 33 = .ok (.iload_n 1, 1) := by decide +kernel
theorem dX6_loose_34 : decode cX6_loose 34 = .ok (.if_icmp .le 13, 3) := by decide +kernel
theorem dX6_loose_37 : decode cX6_loose 37 = .ok (.aload_n 0, 1) := by decide +kernel
theorem dX6_loose_38 : decode cX6_loose 38 = .ok (.getfield 173, 3) := by decide +kernel
theorem dX6_loose_41 : decode cX6_loose 41 = .ok (.aload_n 0, 1) := by decide +kernel
theorem dX6_loose_42 : decode cX6_loose 42 = .ok (.getfield 170, 3) := by decide +kernel
theorem dX6_loose_45 : decode cX6_loose 45 = .ok (.isub, 1) := by decide +kernel
theorem dX6_loose_46 : decode cX6_loose 46 = .ok (.istore_n 1, 1) := by decide +kernel
theorem dX6_loose_47 : decode cX6_loose 47 = .ok (.iinc 2 1, 3) := by decide +kernel
theorem dX6_loose_50 : decode cX6_loose 50 = .ok (.goto (-46), 3) := by decide +kernel
theorem dX6_loose_53 : decode cX6_loose 53 = .ok (.iload_n 1, 1) := by decide +kernel
theorem dX6_loose_54 : decode cX6_loose 54 = .ok (.ireturn, 1) := by decide +kernel
set_option maxRecDepth 20000 in
theorem ggX6_measure_X6_isPlace : GoodIn wsX6_measure wsX6_isPlace := goodIn_r _ [9, 10, 11, 12, 8, 13, 14, 15, 16, 17, 18, 19, 20, 21, 22, 23, 24, 25, 26, 27, 28, 29, 30, 31, 32, 33, 34, 35, 36, 37, 38] (by decide +kernel) (by decide +kernel)
set_option maxRecDepth 20000 in
theorem gX6_measure_X6_isPlace : GoodIn wsX6_measure (wsV RX6 78 RX6 yX6_isPlace wsX6_isPlace) := goodIn_app (goodIn_of _ (by decide +kernel)) ggX6_measure_X6_isPlace
set_option maxRecDepth 20000 in
theorem ggX6_measure_X6_in : GoodIn wsX6_measure wsX6_in := goodIn_r _ [13] (by decide +kernel) (by decide +kernel)
set_option maxRecDepth 20000 in
theorem gX6_measure_X6_in : GoodIn wsX6_measure (va_wsS RX6 74 yX6_in wsX6_in) := goodIn_app (goodIn_of _ (by decide +kernel)) ggX6_measure_X6_in
theorem dX6_measure_0 : decode cX6_measure 0 = .ok (.aload_n 0, 1) := by decide +kernel
theorem dX6_measure_1 : decode cX6_measure 1 = .ok (.iload_n 1, 1) := by decide +kernel
theorem dX6_measure_2 : decode cX6_measure 2 = .ok (.invokevirtual 78, 3) := by decide +kernel
theorem dX6_measure_5 : decode cX6_measure 5 = .ok (.ifCond .ne 6, 3) := by decide +kernel
theorem dX6_measure_8 : decode cX6_measure 8 = .ok (.bipush (-101), 2) := by decide +kernel
theorem dX6_measure_10 : decode cX6_measure 10 = .ok (.ireturn, 1) := by decide +kernel
theorem dX6_measure_11 : decode cX6_measure 11 = .ok (.iload_n 2, 1) := by decide +kernel
theorem dX6_measure_12 : decode cX6_measure 12 = .ok (.i2l, 1) := by decide +kernel
theorem dX6_measure_13 : decode cX6_measure 13 = .ok (.ldc2_w 99, 3) := by decide +kernel
theorem dX6_measure_16 : decode cX6_measure 16 = .ok (.ldc2_w 101, 3) := by decide +kernel
theorem dX6_measure_19 : decode cX6_measure 19 = .ok (.invokestatic 74, 3) := by decide +kernel
theorem dX6_measure_22 : decode cX6_measure 22 = .ok (.ifCond .ne 6, 3) := by decide +kernel
theorem dX6_measure_25 : decode cX6_measure 25 = .ok (.bipush (-102), 2) := by decide +kernel
theorem dX6_measure_27 : decode cX6_measure 27 = .ok (.ireturn, 1) := by decide +kernel
theorem dX6_measure_28 : decode cX6_measure 28 = .ok (.aload_n 0, 1) := by decide +kernel
theorem dX6_measure_29 : decode cX6_measure 29 = .ok (.getfield 23, 3) := by decide +kernel
theorem dX6_measure_32 : decode cX6_measure 32 = .ok (.iload_n 1, 1) := by decide +kernel
theorem dX6_measure_33 : decode cX6_measure 33 = .ok (.baload, 1) := by decide +kernel
theorem dX6_measure_34 : decode cX6_measure 34 = .ok (.ifCond .eq 7, 3) := by decide +kernel
theorem dX6_measure_37 : decode cX6_measure 37 = .ok (.iconst 1, 1) := by decide +kernel
theorem dX6_measure_38 : decode cX6_measure 38 = .ok (.goto 4, 3) := by decide +kernel
theorem dX6_measure_41 : decode cX6_measure 41 = .ok (.iconst 0, 1) := by decide +kernel
theorem dX6_measure_42 : decode cX6_measure 42 = .ok (.istore 4, 2) := by decide +kernel
theorem dX6_measure_44 : decode cX6_measure 44 = .ok (.aload_n 0, 1) := by decide +kernel
theorem dX6_measure_45 : decode cX6_measure 45 = .ok (.getfield 23, 3) := by decide +kernel
theorem dX6_measure_48 : decode cX6_measure 48 = .ok (.iload_n 1, 1) := by decide +kernel
theorem dX6_measure_49 : decode cX6_measure 49 = .ok (.iload_n 3, 1) := by decide +kernel
theorem dX6_measure_50 : decode cX6_measure 50 = .ok (.bastore, 1) := by decide +kernel
theorem dX6_measure_51 : decode cX6_measure 51 = .ok (.aload_n 0, 1) := by decide +kernel
theorem dX6_measure_52 : decode cX6_measure 52 = .ok (.getfield 26, 3) := by decide +kernel
theorem dX6_measure_55 : decode cX6_measure 55 = .ok (.iload_n 1, 1) := by decide +kernel
theorem dX6_measure_56 : decode cX6_measure 56 = .ok (.iload_n 3, 1) := by decide +kernel
theorem dX6_measure_57 : decode cX6_measure 57 = .ok (.ifCond .eq 7, 3) := by decide +kernel
theorem dX6_measure_60 : decode cX6_measure 60 = .ok (.iload_n 2, 1) := by decide +kernel
theorem dX6_measure_61 : decode cX6_measure 61 = .ok (.goto 4, 3) := by decide +kernel
theorem dX6_measure_64 : decode cX6_measure 64 = .ok (.iconst 0, 1) := by decide +kernel
theorem dX6_measure_65 : decode cX6_measure 65 = .ok (.iastore, 1) := by decide +kernel
theorem dX6_measure_66 : decode cX6_measure 66 = .ok (.iload 4, 2) := by decide +kernel
theorem dX6_measure_68 : decode cX6_measure 68 = .ok (.ireturn, 1) := by decide +kernel
set_option maxRecDepth 20000 in
theorem ggX6_offBy_X6_farOf : GoodIn wsX6_offBy wsX6_farOf := goodIn_r _ [8, 1, 9, 10, 11, 7, 12, 13, 14, 15, 16, 17, 18, 19, 20, 21, 22, 23, 24, 25, 26, 27, 28, 29, 30, 31, 32, 33, 34, 35, 36, 37] (by decide +kernel) (by decide +kernel)
set_option maxRecDepth 20000 in
theorem gX6_offBy_X6_farOf : GoodIn wsX6_offBy (wsV RX6 90 RX6 yX6_farOf wsX6_farOf) := goodIn_app (goodIn_of _ (by decide +kernel)) ggX6_offBy_X6_farOf
set_option maxRecDepth 20000 in
theorem ggX6_offBy_X6_sign : GoodIn wsX6_offBy wsX6_sign := goodIn_r _ [12] (by decide +kernel) (by decide +kernel)
set_option maxRecDepth 20000 in
theorem gX6_offBy_X6_sign : GoodIn wsX6_offBy (va_wsS RX6 86 yX6_sign wsX6_sign) := goodIn_app (goodIn_of _ (by decide +kernel)) ggX6_offBy_X6_sign
theorem dX6_offBy_0 : decode cX6_offBy 0 = .ok (.iconst 0, 1) := by decide +kernel
theorem dX6_offBy_1 : decode cX6_offBy 1 = .ok (.istore_n 2, 1) := by decide +kernel
theorem dX6_offBy_2 : decode cX6_offBy 2 = .ok (.iconst 1, 1) := by decide +kernel
theorem dX6_offBy_3 : decode cX6_offBy 3 = .ok (.istore_n 3, 1) := by decide +kernel
theorem dX6_offBy_4 : decode cX6_offBy 4 = .ok (.iconst 0, 1) := by decide +kernel
theorem dX6_offBy_5 : decode cX6_offBy 5 = .ok (.istore 4, 2) := by decide +kernel
theorem dX6_offBy_7 : decode cX6_offBy 7 = .ok (.iload 4, 2) := by decide +kernel
theorem dX6_offBy_9 : decode cX6_offBy 9 = .ok (.aload_n 0, 1) := by decide +kernel
theorem dX6_offBy_10 : decode cX6_offBy 10 = .ok (.getfield 68, 3) := by decide +kernel
theorem dX6_offBy_13 : decode cX6_offBy 13 = .ok (.if_icmp .ge 59, 3) := by decide +kernel
theorem dX6_offBy_16 : decode cX6_offBy 16 = .ok (.aload_n 0, 1) := by decide +kernel
theorem dX6_offBy_17 : decode cX6_offBy 17 = .ok (.getfield 23, 3) := by decide +kernel
theorem dX6_offBy_20 : decode cX6_offBy 20 = .ok (.iload 4, 2) := by decide +kernel
theorem dX6_offBy_22 : decode cX6_offBy 22 = .ok (.baload, 1) := by decide +kernel
theorem dX6_offBy_23 : decode cX6_offBy 23 = .ok (.ifCond .eq 43, 3) := by decide +kernel
theorem dX6_offBy_26 : decode cX6_offBy 26 = .ok (.aload_n 0, 1) := by decide +kernel
theorem dX6_offBy_27 : decode cX6_offBy 27 = .ok (.getfield 26, 3) := by decide +kernel
theorem dX6_offBy_30 : decode cX6_offBy 30 = .ok (.iload 4, 2) := by decide +kernel
theorem dX6_offBy_32 : decode cX6_offBy 32 = .ok (.iaload, 1) := by decide +kernel
theorem dX6_offBy_33 : decode cX6_offBy 33 = .ok (.aload_n 0, 1) := by decide +kernel
theorem dX6_offBy_34 : decode cX6_offBy 34 = .ok (.iload 4, 2) := by decide +kernel
theorem dX6_offBy_36 : decode cX6_offBy 36 = .ok (.invokevirtual 90, 3) := by decide +kernel
theorem dX6_offBy_39 : decode cX6_offBy 39 = .ok (.isub, 1) := by decide +kernel
theorem dX6_offBy_40 : decode cX6_offBy 40 = .ok (.iload_n 1, 1) := by decide +kernel
theorem dX6_offBy_41 : decode cX6_offBy 41 = .ok (.iload 4, 2) := by decide +kernel
theorem dX6_offBy_43 : decode cX6_offBy 43 = .ok (.invokestatic 86, 3) := by decide +kernel
theorem dX6_offBy_46 : decode cX6_offBy 46 = .ok (.imul, 1) := by decide +kernel
theorem dX6_offBy_47 : decode cX6_offBy 47 = .ok (.istore 5, 2) := by decide +kernel
theorem dX6_offBy_49 : decode cX6_offBy 49 = .ok (.iload_n 3, 1) := by decide +kernel
theorem dX6_offBy_50 : decode cX6_offBy 50 = .ok (.ifCond .eq 8, 3) := by decide +kernel
theorem dX6_offBy_53 : decode cX6_offBy 53 = .ok (.iload 5, 2) := by decide +kernel
theorem dX6_offBy_55 : decode cX6_offBy 55 = .ok (.istore_n 2, 1) := by decide +kernel
theorem dX6_offBy_56 : decode cX6_offBy 56 = .ok (.iconst 0, 1) := by decide +kernel
theorem dX6_offBy_57 : decode cX6_offBy 57 = .ok (.istore_n 3, 1) := by decide +kernel
theorem dX6_offBy_58 : decode cX6_offBy 58 = .ok (.iload 5, 2) := by decide +kernel
theorem dX6_offBy_60 : decode cX6_offBy 60 = .ok (.iload_n 2, 1) := by decide +kernel
theorem dX6_offBy_61 : decode cX6_offBy 61 = .ok (.if_icmp .eq 5, 3) := by decide +kernel
theorem dX6_offBy_64 : decode cX6_offBy 64 = .ok (.iconst 0, 1) := by decide +kernel
theorem dX6_offBy_65 : decode cX6_offBy 65 = .ok (.ireturn, 1) := by decide +kernel
theorem dX6_offBy_66 : decode cX6_offBy 66 = .ok (.iinc 4 1, 3) := by decide +kernel
theorem dX6_offBy_69 : decode cX6_offBy 69 = .ok (.goto (-62), 3) := by decide +kernel
theorem dX6_offBy_72 : decode cX6_offBy 72 = .ok (.iload_n 2, 1) := by decide +kernel
theorem dX6_offBy_73 : decode cX6_offBy 73 = .ok (.ireturn, 1) := by decide +kernel
set_option maxRecDepth 20000 in
theorem ggX6_isOff_X6_farOf : GoodIn wsX6_isOff wsX6_farOf := goodIn_r _ [8, 1, 9, 10, 11, 7, 12, 13, 14, 15, 16, 17, 18, 19, 20, 21, 22, 23, 24, 25, 26, 27, 28, 29, 30, 31, 32, 33, 34, 35, 36, 37] (by decide +kernel) (by decide +kernel)
set_option maxRecDepth 20000 in
theorem gX6_isOff_X6_farOf : GoodIn wsX6_isOff (wsV RX6 90 RX6 yX6_farOf wsX6_farOf) := goodIn_app (goodIn_of _ (by decide +kernel)) ggX6_isOff_X6_farOf
theorem dX6_isOff_0 : decode cX6_isOff 0 = .ok (.iconst 0, 1) := by decide +kernel
theorem dX6_isOff_1 : decode cX6_isOff 1 = .ok (.istore_n 1, 1) := by decide +kernel
theorem dX6_isOff_2 : decode cX6_isOff 2 = .ok (.iconst 0, 1) := by decide +kernel
theorem dX6_isOff_3 : decode cX6_isOff 3 = .ok (.istore_n 2, 1) := by decide +kernel
theorem dX6_isOff_4 : decode cX6_isOff 4 = .ok (.iload_n 2, 1) := by decide +kernel
theorem dX6_isOff_5 : decode cX6_isOff 5 = .ok (.aload_n 0, 1) := by decide +kernel
theorem dX6_isOff_6 : decode cX6_isOff 6 = .ok (.getfield 68, 3) := by decide +kernel
theorem dX6_isOff_9 : decode cX6_isOff 9 = .ok (.if_icmp .ge 42, 3) := by decide +kernel
theorem dX6_isOff_12 : decode cX6_isOff 12 = .ok (.iload_n 1, 1) := by decide +kernel
theorem dX6_isOff_13 : decode cX6_isOff 13 = .ok (.ifCond .ne 26, 3) := by decide +kernel
theorem dX6_isOff_16 : decode cX6_isOff 16 = .ok (.aload_n 0, 1) := by decide +kernel
theorem dX6_isOff_17 : decode cX6_isOff 17 = .ok (.getfield 23, 3) := by decide +kernel
theorem dX6_isOff_20 : decode cX6_isOff 20 = .ok (.iload_n 2, 1) := by decide +kernel
theorem dX6_isOff_21 : decode cX6_isOff 21 = .ok (.baload, 1) := by decide +kernel
theorem dX6_isOff_22 : decode cX6_isOff 22 = .ok (.ifCond .eq 21, 3) := by decide +kernel
theorem dX6_isOff_25 : decode cX6_isOff 25 = .ok (.aload_n 0, 1) := by decide +kernel
theorem dX6_isOff_26 : decode cX6_isOff 26 = .ok (.getfield 26, 3) := by decide +kernel
theorem dX6_isOff_29 : decode cX6_isOff 29 = .ok (.iload_n 2, 1) := by decide +kernel
theorem dX6_isOff_30 : decode cX6_isOff 30 = .ok (.iaload, 1) := by decide +kernel
theorem dX6_isOff_31 : decode cX6_isOff 31 = .ok (.aload_n 0, 1) := by decide +kernel
theorem dX6_isOff_32 : decode cX6_isOff 32 = .ok (.iload_n 2, 1) := by decide +kernel
theorem dX6_isOff_33 : decode cX6_isOff 33 = .ok (.invokevirtual 90, 3) := by decide +kernel
theorem dX6_isOff_36 : decode cX6_isOff 36 = .ok (.if_icmp .eq 7, 3) := by decide +kernel
theorem dX6_isOff_39 : decode cX6_isOff 39 = .ok (.iconst 1, 1) := by decide +kernel
theorem dX6_isOff_40 : decode cX6_isOff 40 = .ok (.goto 4, 3) := by decide +kernel
theorem dX6_isOff_43 : decode cX6_isOff 43 = .ok (.iconst 0, 1) := by decide +kernel
theorem dX6_isOff_44 : decode cX6_isOff 44 = .ok (.istore_n 1, 1) := by decide +kernel
theorem dX6_isOff_45 : decode cX6_isOff 45 = .ok (.iinc 2 1, 3) := by decide +kernel
theorem dX6_isOff_48 : decode cX6_isOff 48 = .ok (.goto (-44), 3) := by decide +kernel
theorem dX6_isOff_51 : decode cX6_isOff 51 = .ok (.iload_n 1, 1) := by decide +kernel
theorem dX6_isOff_52 : decode cX6_isOff 52 = .ok (.ireturn, 1) := by decide +kernel
set_option maxRecDepth 20000 in
theorem ggX6_faults_X6_isOff : GoodIn wsX6_faults wsX6_isOff := goodIn_r _ [6, 1, 7, 8, 9, 10, 11, 5, 12, 13, 14, 15, 16, 21, 22, 23, 24, 25, 26, 27, 28, 29, 30, 31, 32, 33, 34, 35, 36, 37, 38, 39, 40, 41, 42, 43, 44, 45] (by decide +kernel) (by decide +kernel)
set_option maxRecDepth 20000 in
theorem gX6_faults_X6_isOff : GoodIn wsX6_faults (wsV RX6 180 RX6 yX6_isOff wsX6_isOff) := goodIn_app (goodIn_of _ (by decide +kernel)) ggX6_faults_X6_isOff
set_option maxRecDepth 20000 in
theorem ggX6_faults_X6_offBy : GoodIn wsX6_faults wsX6_offBy := goodIn_r _ [20, 1, 7, 8, 9, 10, 11, 5, 12, 13, 14, 15, 16, 21, 22, 23, 24, 25, 26, 27, 28, 29, 30, 31, 32, 33, 34, 35, 36, 37, 38, 39, 40, 41, 42, 43, 44, 45] (by decide +kernel) (by decide +kernel)
set_option maxRecDepth 20000 in
theorem gX6_faults_X6_offBy : GoodIn wsX6_faults (wsV RX6 184 RX6 yX6_offBy wsX6_offBy) := goodIn_app (goodIn_of _ (by decide +kernel)) ggX6_faults_X6_offBy
theorem dX6_faults_0 : decode cX6_faults 0 = .ok (.aload_n 0, 1) := by decide +kernel
theorem dX6_faults_1 : decode cX6_faults 1 = .ok (.invokevirtual 180, 3) := by decide +kernel
theorem dX6_faults_4 : decode cX6_faults 4 = .ok (.ifCond .ne 5, 3) := by decide +kernel
theorem dX6_faults_7 : decode cX6_faults 7 = .ok (.iconst (-1), 1) := by decide +kernel
theorem dX6_faults_8 : decode cX6_faults 8 = .ok (.ireturn, 1) := by decide +kernel
theorem dX6_faults_9 : decode cX6_faults 9 = .ok (.iconst 0, 1) := by decide +kernel
theorem dX6_faults_10 : decode cX6_faults 10 = .ok (.istore_n 1, 1) := by decide +kernel
theorem dX6_faults_11 : decode cX6_faults 11 = .ok (.iconst 0, 1) := by decide +kernel
theorem dX6_faults_12 : decode cX6_faults 12 = .ok (.istore_n 2, 1) := by decide +kernel
theorem dX6_faults_13 : decode cX6_faults 13 = .ok (.iload_n 2, 1) := by decide +kernel
theorem dX6_faults_14 : decode cX6_faults 14 = .ok (.aload_n 0, 1) := by decide +kernel
theorem dX6_faults_15 : decode cX6_faults 15 = .ok (.getfield 68, 3) := by decide +kernel
theorem dX6_faults_18 : decode cX6_faults 18 = .ok (.if_icmp .ge 25, 3) := by decide +kernel
theorem dX6_faults_21 : decode cX6_faults 21 = .ok (.iload_n 1, 1) := by decide +kernel
theorem dX6_faults_22 : decode cX6_faults 22 = .ok (.aload_n 0, 1) := by decide +kernel
theorem dX6_faults_23 : decode cX6_faults 23 = .ok (.iload_n 2, 1) := by decide +kernel
theorem dX6_faults_24 : decode cX6_faults 24 = .ok (.invokevirtual 184, 3) := by decide +kernel
theorem dX6_faults_27 : decode cX6_faults 27 = .ok (.ifCond .ne 7, 3) := by decide +kernel
theorem dX6_faults_30 : decode cX6_faults 30 = .ok (.iconst 0, 1) := by decide +kernel
theorem dX6_faults_31 : decode cX6_faults 31 = .ok (.goto 4, 3) := by decide +kernel
theorem dX6_faults_34 : decode cX6_faults 34 = .ok (.iconst 1, 1) := by decide +kernel
theorem dX6_faults_35 : decode cX6_faults 35 = .ok (.iadd, 1) := by decide +kernel
theorem dX6_faults_36 : decode cX6_faults 36 = .ok (.istore_n 1, 1) := by decide +kernel
theorem dX6_faults_37 : decode cX6_faults 37 = .ok (.iinc 2 1, 3) := by decide +kernel
theorem dX6_faults_40 : decode cX6_faults 40 = .ok (.goto (-27), 3) := by decide +kernel
theorem dX6_faults_43 : decode cX6_faults 43 = .ok (.iload_n 1, 1) := by decide +kernel
theorem dX6_faults_44 : decode cX6_faults 44 = .ok (.ireturn, 1) := by decide +kernel
set_option maxRecDepth 20000 in
theorem ggX6_faultAt_X6_offBy : GoodIn wsX6_faultAt wsX6_offBy := goodIn_r _ [6, 1, 7, 8, 9, 10, 11, 5, 12, 13, 14, 15, 16, 17, 18, 19, 20, 21, 22, 23, 24, 25, 26, 27, 28, 29, 30, 31, 32, 33, 34, 35, 36, 37, 38, 39, 40, 41] (by decide +kernel) (by decide +kernel)
set_option maxRecDepth 20000 in
theorem gX6_faultAt_X6_offBy : GoodIn wsX6_faultAt (wsV RX6 184 RX6 yX6_offBy wsX6_offBy) := goodIn_app (goodIn_of _ (by decide +kernel)) ggX6_faultAt_X6_offBy
theorem dX6_faultAt_0 : decode cX6_faultAt 0 = .ok (.iload_n 1, 1) := by decide +kernel
theorem dX6_faultAt_1 : decode cX6_faultAt 1 = .ok (.istore_n 2, 1) := by decide +kernel
theorem dX6_faultAt_2 : decode cX6_faultAt 2 = .ok (.iconst 0, 1) := by decide +kernel
theorem dX6_faultAt_3 : decode cX6_faultAt 3 = .ok (.istore_n 3, 1) := by decide +kernel
theorem dX6_faultAt_4 : decode cX6_faultAt 4 = .ok (.iload_n 3, 1) := by decide +kernel
theorem dX6_faultAt_5 : decode cX6_faultAt 5 = .ok (.aload_n 0, 1) := by decide +kernel
theorem dX6_faultAt_6 : decode cX6_faultAt 6 = .ok (.getfield 68, 3) := by decide +kernel
theorem dX6_faultAt_9 : decode cX6_faultAt 9 = .ok (.if_icmp .ge 30, 3) := by decide +kernel
theorem dX6_faultAt_12 : decode cX6_faultAt 12 = .ok (.iload_n 1, 1) := by decide +kernel
theorem dX6_faultAt_13 : decode cX6_faultAt 13 = .ok (.ifCond .lt 26, 3) := by decide +kernel
theorem dX6_faultAt_16 : decode cX6_faultAt 16 = .ok (.aload_n 0, 1) := by decide +kernel
theorem dX6_faultAt_17 : decode cX6_faultAt 17 = .ok (.iload_n 3, 1) := by decide +kernel
theorem dX6_faultAt_18 : decode cX6_faultAt 18 = .ok (.invokevirtual 184, 3) := by decide +kernel
theorem dX6_faultAt_21 : decode cX6_faultAt 21 = .ok (.ifCond .eq 12, 3) := by decide +kernel
theorem dX6_faultAt_24 : decode cX6_faultAt 24 = .ok (.iload_n 2, 1) := by decide +kernel
theorem dX6_faultAt_25 : decode cX6_faultAt 25 = .ok (.ifCond .ne 5, 3) := by decide +kernel
theorem dX6_faultAt_28 : decode cX6_faultAt 28 = .ok (.iload_n 3, 1) := by decide +kernel
theorem dX6_faultAt_29 : decode cX6_faultAt 29 = .ok (.ireturn, 1) := by decide +kernel
theorem dX6_faultAt_30 : decode cX6_faultAt 30 = .ok (.iinc 2 (-1), 3) := by decide +kernel
theorem dX6_faultAt_33 : decode cX6_faultAt 33 = .ok (.iinc 3 1, 3) := by decide +kernel
theorem dX6_faultAt_36 : decode cX6_faultAt 36 = .ok (.goto (-32), 3) := by decide +kernel
theorem dX6_faultAt_39 : decode cX6_faultAt 39 = .ok (.iconst (-1), 1) := by decide +kernel
theorem dX6_faultAt_40 : decode cX6_faultAt 40 = .ok (.ireturn, 1) := by decide +kernel
set_option maxRecDepth 20000 in
theorem ggX6_fault_X6_faultAt : GoodIn wsX6_fault wsX6_faultAt := goodIn_r _ [5, 6, 7, 8, 9, 4, 10, 11, 12, 13, 14, 15, 16, 17, 18, 19, 20, 21, 22, 23, 24, 25, 26, 27, 28, 29, 30, 31, 32, 33, 34, 35, 36, 37, 38, 39, 40, 41, 42, 43, 44, 45] (by decide +kernel) (by decide +kernel)
set_option maxRecDepth 20000 in
theorem gX6_fault_X6_faultAt : GoodIn wsX6_fault (wsV RX6 187 RX6 yX6_faultAt wsX6_faultAt) := goodIn_app (goodIn_of _ (by decide +kernel)) ggX6_fault_X6_faultAt
theorem dX6_fault_0 : decode cX6_fault 0 = .ok (.aload_n 0, 1) := by decide +kernel
theorem dX6_fault_1 : decode cX6_fault 1 = .ok (.iload_n 1, 1) := by decide +kernel
theorem dX6_fault_2 : decode cX6_fault 2 = .ok (.invokevirtual 187, 3) := by decide +kernel
theorem dX6_fault_5 : decode cX6_fault 5 = .ok (.ireturn, 1) := by decide +kernel
set_option maxRecDepth 20000 in
theorem ggX6_by_X6_faultAt : GoodIn wsX6_by wsX6_faultAt := goodIn_r _ [5, 6, 7, 8, 9, 4, 10, 11, 12, 13, 14, 15, 16, 17, 18, 19, 20, 21, 22, 23, 24, 25, 26, 27, 28, 29, 30, 31, 32, 33, 34, 35, 36, 37, 38, 39, 40, 41, 42, 43, 44, 45] (by decide +kernel) (by decide +kernel)
set_option maxRecDepth 20000 in
theorem gX6_by_X6_faultAt : GoodIn wsX6_by (wsV RX6 187 RX6 yX6_faultAt wsX6_faultAt) := goodIn_app (goodIn_of _ (by decide +kernel)) ggX6_by_X6_faultAt
set_option maxRecDepth 20000 in
theorem ggX6_by_X6_offBy : GoodIn wsX6_by wsX6_offBy := goodIn_r _ [10, 6, 11, 12, 13, 14, 15, 4, 16, 17, 18, 19, 20, 21, 22, 23, 24, 25, 26, 27, 28, 29, 30, 31, 32, 33, 34, 35, 36, 37, 38, 39, 40, 41, 42, 43, 44, 45] (by decide +kernel) (by decide +kernel)
set_option maxRecDepth 20000 in
theorem gX6_by_X6_offBy : GoodIn wsX6_by (wsV RX6 184 RX6 yX6_offBy wsX6_offBy) := goodIn_app (goodIn_of _ (by decide +kernel)) ggX6_by_X6_offBy
theorem dX6_by_0 : decode cX6_by 0 = .ok (.aload_n 0, 1) := by decide +kernel
theorem dX6_by_1 : decode cX6_by 1 = .ok (.iload_n 1, 1) := by decide +kernel
theorem dX6_by_2 : decode cX6_by 2 = .ok (.invokevirtual 187, 3) := by decide +kernel
theorem dX6_by_5 : decode cX6_by 5 = .ok (.istore_n 2, 1) := by decide +kernel
theorem dX6_by_6 : decode cX6_by 6 = .ok (.iload_n 2, 1) := by decide +kernel
theorem dX6_by_7 : decode cX6_by 7 = .ok (.iconst (-1), 1) := by decide +kernel
theorem dX6_by_8 : decode cX6_by 8 = .ok (.if_icmp .ne 7, 3) := by decide +kernel
theorem dX6_by_11 : decode cX6_by 11 = .ok (.iconst 0, 1) := by decide +kernel
theorem dX6_by_12 : decode cX6_by 12 = .ok (.goto 8, 3) := by decide +kernel
theorem dX6_by_15 : decode cX6_by 15 = .ok (.aload_n 0, 1) := by decide +kernel
theorem dX6_by_16 : decode cX6_by 16 = .ok (.iload_n 2, 1) := by decide +kernel
theorem dX6_by_17 : decode cX6_by 17 = .ok (.invokevirtual 184, 3) := by decide +kernel
theorem dX6_by_20 : decode cX6_by 20 = .ok (.ireturn, 1) := by decide +kernel
set_option maxRecDepth 20000 in
theorem ggX6_limit_X6_isPlace : GoodIn wsX6_limit wsX6_isPlace := goodIn_r _ [7, 8, 9, 10, 6, 11, 12, 13, 14, 15, 16, 17, 18, 19, 20, 21, 22, 23, 24, 25, 26, 27, 28, 29, 30, 31, 32, 33, 34, 35, 36] (by decide +kernel) (by decide +kernel)
set_option maxRecDepth 20000 in
theorem gX6_limit_X6_isPlace : GoodIn wsX6_limit (wsV RX6 78 RX6 yX6_isPlace wsX6_isPlace) := goodIn_app (goodIn_of _ (by decide +kernel)) ggX6_limit_X6_isPlace
set_option maxRecDepth 20000 in
theorem ggX6_limit_X6_in : GoodIn wsX6_limit wsX6_in := goodIn_r _ [11] (by decide +kernel) (by decide +kernel)
set_option maxRecDepth 20000 in
theorem gX6_limit_X6_in : GoodIn wsX6_limit (va_wsS RX6 74 yX6_in wsX6_in) := goodIn_app (goodIn_of _ (by decide +kernel)) ggX6_limit_X6_in
theorem dX6_limit_0 : decode cX6_limit 0 = .ok (.aload_n 0, 1) := by decide +kernel
theorem dX6_limit_1 : decode cX6_limit 1 = .ok (.iload_n 1, 1) := by decide +kernel
theorem dX6_limit_2 : decode cX6_limit 2 = .ok (.invokevirtual 78, 3) := by decide +kernel
theorem dX6_limit_5 : decode cX6_limit 5 = .ok (.ifCond .ne 6, 3) := by decide +kernel
theorem dX6_limit_8 : decode cX6_limit 8 = .ok (.bipush (-101), 2) := by decide +kernel
theorem dX6_limit_10 : decode cX6_limit 10 = .ok (.ireturn, 1) := by decide +kernel
theorem dX6_limit_11 : decode cX6_limit 11 = .ok (.iload_n 2, 1) := by decide +kernel
theorem dX6_limit_12 : decode cX6_limit 12 = .ok (.i2l, 1) := by decide +kernel
theorem dX6_limit_13 : decode cX6_limit 13 = .ok (.lconst 0, 1) := by decide +kernel
theorem dX6_limit_14 : decode cX6_limit 14 = .ok (.ldc2_w 190, 3) := by decide +kernel
theorem dX6_limit_17 : decode cX6_limit 17 = .ok (.invokestatic 74, 3) := by decide +kernel
theorem dX6_limit_20 : decode cX6_limit 20 = .ok (.ifCond .ne 6, 3) := by decide +kernel
theorem dX6_limit_23 : decode cX6_limit 23 = .ok (.bipush (-102), 2) := by decide +kernel
theorem dX6_limit_25 : decode cX6_limit 25 = .ok (.ireturn, 1) := by decide +kernel
theorem dX6_limit_26 : decode cX6_limit 26 = .ok (.aload_n 0, 1) := by decide +kernel
theorem dX6_limit_27 : decode cX6_limit 27 = .ok (.getfield 29, 3) := by decide +kernel
theorem dX6_limit_30 : decode cX6_limit 30 = .ok (.iload_n 1, 1) := by decide +kernel
theorem dX6_limit_31 : decode cX6_limit 31 = .ok (.iaload, 1) := by decide +kernel
theorem dX6_limit_32 : decode cX6_limit 32 = .ok (.istore_n 3, 1) := by decide +kernel
theorem dX6_limit_33 : decode cX6_limit 33 = .ok (.aload_n 0, 1) := by decide +kernel
theorem dX6_limit_34 : decode cX6_limit 34 = .ok (.getfield 29, 3) := by decide +kernel
theorem dX6_limit_37 : decode cX6_limit 37 = .ok (.iload_n 1, 1) := by decide +kernel
theorem dX6_limit_38 : decode cX6_limit 38 = .ok (.iload_n 2, 1) := by decide +kernel
theorem dX6_limit_39 : decode cX6_limit 39 = .ok (.iastore, 1) := by decide +kernel
theorem dX6_limit_40 : decode cX6_limit 40 = .ok (.iload_n 3, 1) := by decide +kernel
theorem dX6_limit_41 : decode cX6_limit 41 = .ok (.ireturn, 1) := by decide +kernel
set_option maxRecDepth 20000 in
theorem ggX6_broken_X6_farOf : GoodIn wsX6_broken wsX6_farOf := goodIn_r _ [7, 1, 8, 9, 10, 6, 11, 12, 13, 14, 15, 16, 17, 18, 19, 20, 21, 22, 23, 24, 25, 26, 27, 28, 29, 30, 31, 32, 33, 34, 35, 36] (by decide +kernel) (by decide +kernel)
set_option maxRecDepth 20000 in
theorem gX6_broken_X6_farOf : GoodIn wsX6_broken (wsV RX6 90 RX6 yX6_farOf wsX6_farOf) := goodIn_app (goodIn_of _ (by decide +kernel)) ggX6_broken_X6_farOf
theorem dX6_broken_0 : decode cX6_broken 0 = .ok (.iconst 0, 1) := by decide +kernel
theorem dX6_broken_1 : decode cX6_broken 1 = .ok (.istore_n 1, 1) := by decide +kernel
theorem dX6_broken_2 : decode cX6_broken 2 = .ok (.iload_n 1, 1) := by decide +kernel
theorem dX6_broken_3 : decode cX6_broken 3 = .ok (.aload_n 0, 1) := by decide +kernel
theorem dX6_broken_4 : decode cX6_broken 4 = .ok (.getfield 68, 3) := by decide +kernel
theorem dX6_broken_7 : decode cX6_broken 7 = .ok (.if_icmp .ge 38, 3) := by decide +kernel
theorem dX6_broken_10 : decode cX6_broken 10 = .ok (.aload_n 0, 1) := by decide +kernel
theorem dX6_broken_11 : decode cX6_broken 11 = .ok (.iload_n 1, 1) := by decide +kernel
theorem dX6_broken_12 : decode cX6_broken 12 = .ok (.invokevirtual 90, 3) := by decide +kernel
theorem dX6_broken_15 : decode cX6_broken 15 = .ok (.istore_n 2, 1) := by decide +kernel
theorem dX6_broken_16 : decode cX6_broken 16 = .ok (.iload_n 2, 1) := by decide +kernel
theorem dX6_broken_17 : decode cX6_broken 17 = .ok (.aload_n 0, 1) := by decide +kernel
theorem dX6_broken_18 : decode cX6_broken 18 = .ok (.getfield 29, 3) := by decide +kernel
theorem dX6_broken_21 : decode cX6_broken 21 = .ok (.iload_n 1, 1) := by decide +kernel
theorem dX6_broken_22 : decode cX6_broken 22 = .ok (.iaload, 1) := by decide +kernel
theorem dX6_broken_23 : decode cX6_broken 23 = .ok (.if_icmp .gt 14, 3) := by decide +kernel
theorem dX6_broken_26 : decode cX6_broken 26 = .ok (.iload_n 2, 1) := by decide +kernel
theorem dX6_broken_27 : decode cX6_broken 27 = .ok (.ineg, 1) := by decide +kernel
theorem dX6_broken_28 : decode cX6_broken 28 = .ok (.aload_n 0, 1) := by decide +kernel
theorem dX6_broken_29 : decode cX6_broken 29 = .ok (.getfield 29, 3) := by decide +kernel
theorem dX6_broken_32 : decode cX6_broken 32 = .ok (.iload_n 1, 1) := by decide +kernel
theorem dX6_broken_33 : decode cX6_broken 33 = .ok (.iaload, 1) := by decide +kernel
theorem dX6_broken_34 : decode cX6_broken 34 = .ok (.if_icmp .le 5, 3) := by decide +kernel
theorem dX6_broken_37 : decode cX6_broken 37 = .ok (.iload_n 1, 1) := by decide +kernel
theorem dX6_broken_38 : decode cX6_broken 38 = .ok (.ireturn, 1) := by decide +kernel
theorem dX6_broken_39 : decode cX6_broken 39 = .ok (.iinc 1 1, 3) := by decide +kernel
theorem dX6_broken_42 : decode cX6_broken 42 = .ok (.goto (-40), 3) := by decide +kernel
theorem dX6_broken_45 : decode cX6_broken 45 = .ok (.iconst (-1), 1) := by decide +kernel
theorem dX6_broken_46 : decode cX6_broken 46 = .ok (.ireturn, 1) := by decide +kernel
set_option maxRecDepth 20000 in
theorem ggX6_doubt_X6_in : GoodIn wsX6_doubt wsX6_in := goodIn_r _ [7] (by decide +kernel) (by decide +kernel)
set_option maxRecDepth 20000 in
theorem gX6_doubt_X6_in : GoodIn wsX6_doubt (va_wsS RX6 74 yX6_in wsX6_in) := goodIn_app (goodIn_of _ (by decide +kernel)) ggX6_doubt_X6_in
theorem dX6_doubt_0 : decode cX6_doubt 0 = .ok (.iload_n 1, 1) := by decide +kernel
theorem dX6_doubt_1 : decode cX6_doubt 1 = .ok (.i2l, 1) := by decide +kernel
theorem dX6_doubt_2 : decode cX6_doubt 2 = .ok (.lconst 0, 1) := by decide +kernel
theorem dX6_doubt_3 : decode cX6_doubt 3 = .ok (.ldc2_w 162, 3) := by decide +kernel
theorem dX6_doubt_6 : decode cX6_doubt 6 = .ok (.invokestatic 74, 3) := by decide +kernel
theorem dX6_doubt_9 : decode cX6_doubt 9 = .ok (.ifCond .ne 6, 3) := by decide +kernel
theorem dX6_doubt_12 : decode cX6_doubt 12 = .ok (.bipush (-102), 2) := by decide +kernel
theorem dX6_doubt_14 : decode cX6_doubt 14 = .ok (.ireturn, 1) := by decide +kernel
theorem dX6_doubt_15 : decode cX6_doubt 15 = .ok (.aload_n 0, 1) := by decide +kernel
theorem dX6_doubt_16 : decode cX6_doubt 16 = .ok (.getfield 192, 3) := by decide +kernel
theorem dX6_doubt_19 : decode cX6_doubt 19 = .ok (.bipush 18, 2) := by decide +kernel
theorem dX6_doubt_21 : decode cX6_doubt 21 = .ok (.if_icmp .ne 6, 3) := by decide +kernel
theorem dX6_doubt_24 : decode cX6_doubt 24 = .ok (.bipush (-104), 2) := by decide +kernel
theorem dX6_doubt_26 : decode cX6_doubt 26 = .ok (.ireturn, 1) := by decide +kernel
theorem dX6_doubt_27 : decode cX6_doubt 27 = .ok (.aload_n 0, 1) := by decide +kernel
theorem dX6_doubt_28 : decode cX6_doubt 28 = .ok (.getfield 51, 3) := by decide +kernel
theorem dX6_doubt_31 : decode cX6_doubt 31 = .ok (.aload_n 0, 1) := by decide +kernel
theorem dX6_doubt_32 : decode cX6_doubt 32 = .ok (.getfield 192, 3) := by decide +kernel
theorem dX6_doubt_35 : decode cX6_doubt 35 = .ok (.iload_n 1, 1) := by decide +kernel
theorem dX6_doubt_36 : decode cX6_doubt 36 = .ok (.iastore, 1) := by decide +kernel
theorem dX6_doubt_37 : decode cX6_doubt 37 = .ok (.aload_n 0, 1) := by decide +kernel
theorem dX6_doubt_38 : decode cX6_doubt 38 = .ok (.dup, 1) := by decide +kernel
theorem dX6_doubt_39 : decode cX6_doubt 39 = .ok (.getfield 192, 3) := by decide +kernel
theorem dX6_doubt_42 : decode cX6_doubt 42 = .ok (.iconst 1, 1) := by decide +kernel
theorem dX6_doubt_43 : decode cX6_doubt 43 = .ok (.iadd, 1) := by decide +kernel
theorem dX6_doubt_44 : decode cX6_doubt 44 = .ok (.putfield 192, 3) := by decide +kernel
theorem dX6_doubt_47 : decode cX6_doubt 47 = .ok (.aload_n 0, 1) := by decide +kernel
theorem dX6_doubt_48 : decode cX6_doubt 48 = .ok (.getfield 192, 3) := by decide +kernel
theorem dX6_doubt_51 : decode cX6_doubt 51 = .ok (.ireturn, 1) := by decide +kernel
set_option maxRecDepth 20000 in
theorem ggX6_budget_X6_in : GoodIn wsX6_budget wsX6_in := goodIn_r _ [7] (by decide +kernel) (by decide +kernel)
set_option maxRecDepth 20000 in
theorem gX6_budget_X6_in : GoodIn wsX6_budget (va_wsS RX6 74 yX6_in wsX6_in) := goodIn_app (goodIn_of _ (by decide +kernel)) ggX6_budget_X6_in
theorem dX6_budget_0 : decode cX6_budget 0 = .ok (.iload_n 1, 1) := by decide +kernel
theorem dX6_budget_1 : decode cX6_budget 1 = .ok (.i2l, 1) := by decide +kernel
theorem dX6_budget_2 : decode cX6_budget 2 = .ok (.lconst 0, 1) := by decide +kernel
theorem dX6_budget_3 : decode cX6_budget 3 = .ok (.ldc2_w 151, 3) := by decide +kernel
theorem dX6_budget_6 : decode cX6_budget 6 = .ok (.invokestatic 74, 3) := by decide +kernel
theorem dX6_budget_9 : decode cX6_budget 9 = .ok (.ifCond .ne 6, 3) := by decide +kernel
theorem dX6_budget_12 : decode cX6_budget 12 = .ok (.bipush (-102), 2) := by decide +kernel
theorem dX6_budget_14 : decode cX6_budget 14 = .ok (.ireturn, 1) := by decide +kernel
theorem dX6_budget_15 : decode cX6_budget 15 = .ok (.iconst 0, 1) := by decide +kernel
theorem dX6_budget_16 : decode cX6_budget 16 = .ok (.istore_n 2, 1) := by decide +kernel
theorem dX6_budget_17 : decode cX6_budget 17 = .ok (.iconst 0, 1) := by decide +kernel
theorem dX6_budget_18 : decode cX6_budget 18 = .ok (.istore_n 3, 1) := by decide +kernel
theorem dX6_budget_19 : decode cX6_budget 19 = .ok (.lconst 0, 1) := by decide +kernel
theorem dX6_budget_20 : decode cX6_budget 20 = .ok (.lstore 4, 2) := by decide +kernel
theorem dX6_budget_22 : decode cX6_budget 22 = .ok (.iconst 0, 1) := by decide +kernel
theorem dX6_budget_23 : decode cX6_budget 23 = .ok (.istore 6, 2) := by decide +kernel
theorem dX6_budget_25 : decode cX6_budget 25 = .ok (.iload 6, 2) := by decide +kernel
theorem dX6_budget_27 : decode cX6_budget 27 = .ok (.aload_n 0, 1) := by decide +kernel
theorem dX6_budget_28 : decode cX6_budget 28 = .ok (.getfield 192, 3) := by decide +kernel
theorem dX6_budget_31 : decode cX6_budget 31 = .ok (.if_icmp .ge 64, 3) := by decide +kernel
theorem dX6_budget_34 : decode cX6_budget 34 = .ok (.iload_n 2, 1) := by decide +kernel
theorem dX6_budget_35 : decode cX6_budget 35 = .ok (.aload_n 0, 1) := by decide +kernel
theorem dX6_budget_36 : decode cX6_budget 36 = .ok (.getfield 51, 3) := by decide +kernel
theorem dX6_budget_39 : decode cX6_budget 39 = .ok (.iload 6, 2) := by decide +kernel
theorem dX6_budget_41 : decode cX6_budget 41 = .ok (.iaload, 1) := by decide +kernel
theorem dX6_budget_42 : decode cX6_budget 42 = .ok (.iadd, 1) := by decide +kernel
theorem dX6_budget_43 : decode cX6_budget 43 = .ok (.istore_n 2, 1) := by decide +kernel
theorem dX6_budget_44 : decode cX6_budget 44 = .ok (.aload_n 0, 1) := by decide +kernel
theorem dX6_budget_45 : decode cX6_budget 45 = .ok (.getfield 51, 3) := by decide +kernel
theorem dX6_budget_48 : decode cX6_budget 48 = .ok (.iload 6, 2) := by decide +kernel
theorem dX6_budget_50 : decode cX6_budget 50 = .ok (.iaload, 1) := by decide +kernel
theorem dX6_budget_51 : decode cX6_budget 51 = .ok (.iload_n 3, 1) := by decide +kernel
theorem dX6_budget_52 : decode cX6_budget 52 = .ok (.if_icmp .le 13, 3) := by decide +kernel
theorem dX6_budget_55 : decode cX6_budget 55 = .ok (.aload_n 0, 1) := by decide +kernel
theorem dX6_budget_56 : decode cX6_budget 56 = .ok (.getfield 51, 3) := by decide +kernel
theorem dX6_budget_59 : decode cX6_budget 59 = .ok (.iload 6, 2) := by decide +kernel
theorem dX6_budget_61 : decode cX6_budget 61 = .ok (.iaload, 1) := by decide +kernel
theorem dX6_budget_62 : decode cX6_budget 62 = .ok (.goto 4, 3) := by decide +kernel
theorem dX6_budget_65 : decode cX6_budget 65 = .ok (.iload_n 3, 1) := by decide +kernel
theorem dX6_budget_66 : decode cX6_budget 66 = .ok (.istore_n 3, 1) := by decide +kernel
theorem dX6_budget_67 : decode cX6_budget 67 = .ok (.lload 4, 2) := by decide +kernel
theorem dX6_budget_69 : decode cX6_budget 69 = .ok (.aload_n 0, 1) := by decide +kernel
theorem dX6_budget_70 : decode cX6_budget 70 = .ok (.getfield 51, 3) := by decide +kernel
theorem dX6_budget_73 : decode cX6_budget 73 = .ok (.iload 6, 2) := by decide +kernel
theorem dX6_budget_75 : decode cX6_budget 75 = .ok (.iaload, 1) := by decide +kernel
theorem dX6_budget_76 : decode cX6_budget 76 = .ok (.i2l, 1) := by decide +kernel
theorem dX6_budget_77 : decode cX6_budget 77 = .ok (.aload_n 0, 1) := by decide +kernel
theorem dX6_budget_78 : decode cX6_budget 78 = .ok (.getfield 51, 3) := by decide +kernel
theorem dX6_budget_81 : decode cX6_budget 81 = .ok (.iload 6, 2) := by decide +kernel
theorem dX6_budget_83 : decode cX6_budget 83 = .ok (.iaload, 1) := by decide +kernel
theorem dX6_budget_84 : decode cX6_budget 84 = .ok (.i2l, 1) := by decide +kernel
theorem dX6_budget_85 : decode cX6_budget 85 = .ok (.lmul, 1) := by decide +kernel
theorem dX6_budget_86 : decode cX6_budget 86 = .ok (.ladd, 1) := by decide +kernel
theorem dX6_budget_87 : decode cX6_budget 87 = .ok (.lstore 4, 2) := by decide +kernel
theorem dX6_budget_89 : decode cX6_budget 89 = .ok (.iinc 6 1, 3) := by decide +kernel
theorem dX6_budget_92 : decode cX6_budget 92 = .ok (.goto (-67), 3) := by decide +kernel
theorem dX6_budget_95 : decode cX6_budget 95 = .ok (.iload_n 1, 1) := by decide +kernel
theorem dX6_budget_96 : decode cX6_budget 96 = .ok (.iconst 1, 1) := by decide +kernel
theorem dX6_budget_97 : decode cX6_budget 97 = .ok (.if_icmp .eq 13, 3) := by decide +kernel
theorem dX6_budget_100 : decode cX6_budget 100 = .ok (.iload_n 1, 1) := by decide +kernel
theorem dX6_budget_101 : decode cX6_budget 101 = .ok (.ifCond .ne 7, 3) := by decide +kernel
theorem dX6_budget_104 : decode cX6_budget 104 = .ok (.iload_n 2, 1) := by decide +kernel
theorem dX6_budget_105 : decode cX6_budget 105 = .ok (.goto 4, 3) := by decide +kernel
theorem dX6_budget_108 : decode cX6_budget 108 = .ok (.iload_n 3, 1) := by decide +kernel
theorem dX6_budget_109 : decode cX6_budget 109 = .ok (.ireturn, 1) := by decide +kernel
theorem dX6_budget_110 : decode cX6_budget 110 = .ok (.iload_n 3, 1) := by decide +kernel
theorem dX6_budget_111 : decode cX6_budget 111 = .ok (.i2l, 1) := by decide +kernel
theorem dX6_budget_112 : decode cX6_budget 112 = .ok (.lstore 6, 2) := by decide +kernel
theorem dX6_budget_114 : decode cX6_budget 114 = .ok (.lload 6, 2) := by decide +kernel
theorem dX6_budget_116 : decode cX6_budget 116 = .ok (.lload 6, 2) := by decide +kernel
theorem dX6_budget_118 : decode cX6_budget 118 = .ok (.lmul, 1) := by decide +kernel
theorem dX6_budget_119 : decode cX6_budget 119 = .ok (.lload 4, 2) := by decide +kernel
theorem dX6_budget_121 : decode cX6_budget 121 = .ok (.lcmp, 1) := by decide +kernel
theorem dX6_budget_122 : decode cX6_budget 122 = .ok (.ifCond .ge 12, 3) := by decide +kernel
theorem dX6_budget_125 : decode cX6_budget 125 = .ok (.lload 6, 2) := by decide +kernel
theorem dX6_budget_127 : decode cX6_budget 127 = .ok (.lconst 1, 1) := by decide +kernel
theorem dX6_budget_128 : decode cX6_budget 128 = .ok (.ladd, 1) := by decide +kernel
theorem dX6_budget_129 : decode cX6_budget 129 = .ok (.lstore 6, 2) := by decide +kernel
theorem dX6_budget_131 : decode cX6_budget 131 = .ok (.goto (-17), 3) := by decide +kernel
theorem dX6_budget_134 : decode cX6_budget 134 = .ok (.lload 6, 2) := by decide +kernel
theorem dX6_budget_136 : decode cX6_budget 136 = .ok (.l2i, 1) := by decide +kernel
theorem dX6_budget_137 : decode cX6_budget 137 = .ok (.ireturn, 1) := by decide +kernel
theorem dX6_sure_0 : decode cX6_sure 0 = .ok (.aload_n 0, 1) := by decide +kernel
theorem dX6_sure_1 : decode cX6_sure 1 = .ok (.getfield 192, 3) := by decide +kernel
theorem dX6_sure_4 : decode cX6_sure 4 = .ok (.istore_n 1, 1) := by decide +kernel
theorem dX6_sure_5 : decode cX6_sure 5 = .ok (.aload_n 0, 1) := by decide +kernel
theorem dX6_sure_6 : decode cX6_sure 6 = .ok (.iconst 0, 1) := by decide +kernel
theorem dX6_sure_7 : decode cX6_sure 7 = .ok (.putfield 192, 3) := by decide +kernel
theorem dX6_sure_10 : decode cX6_sure 10 = .ok (.iload_n 1, 1) := by decide +kernel
theorem dX6_sure_11 : decode cX6_sure 11 = .ok (.ireturn, 1) := by decide +kernel
set_option maxRecDepth 20000 in
theorem ggX6_count_X6_lostMany : GoodIn wsX6_count wsX6_lostMany := goodIn_r _ [12, 1, 13, 14, 15, 16, 17, 18, 19, 20, 21, 22, 23, 24, 25, 26, 27, 28, 29, 30, 31, 32, 33, 34, 35, 36, 37, 38] (by decide +kernel) (by decide +kernel)
set_option maxRecDepth 20000 in
theorem gX6_count_X6_lostMany : GoodIn wsX6_count (wsV RX6 120 RX6 yX6_lostMany wsX6_lostMany) := goodIn_app (goodIn_of _ (by decide +kernel)) ggX6_count_X6_lostMany
theorem dX6_count_0 : decode cX6_count 0 = .ok (.iconst 0, 1) := by decide +kernel
theorem dX6_count_1 : decode cX6_count 1 = .ok (.istore_n 2, 1) := by decide +kernel
theorem dX6_count_2 : decode cX6_count 2 = .ok (.iload_n 1, 1) := by decide +kernel
theorem dX6_count_3 : decode cX6_count 3 = .ok (.tableswitch 145 0 7 #[45, 50, 55, 90, 95, 100, 105, 140], 45) := by decide +kernel
theorem dX6_count_48 : decode cX6_count 48 = .ok (.aload_n 0, 1) := by decide +kernel
theorem dX6_count_49 : decode cX6_count 49 = .ok (.getfield 68, 3) := by decide +kernel
theorem dX6_count_52 : decode cX6_count 52 = .ok (.ireturn, 1) := by decide +kernel
theorem dX6_count_53 : decode cX6_count 53 = .ok (.aload_n 0, 1) := by decide +kernel
theorem dX6_count_54 : decode cX6_count 54 = .ok (.invokevirtual 120, 3) := by decide +kernel
theorem dX6_count_57 : decode cX6_count 57 = .ok (.ireturn, 1) := by decide +kernel
theorem dX6_count_58 : decode cX6_count 58 = .ok (.iconst 0, 1) := by decide +kernel
theorem dX6_count_59 : decode cX6_count 59 = .ok (.istore_n 3, 1) := by decide +kernel
theorem dX6_count_60 : decode cX6_count 60 = .ok (.iload_n 3, 1) := by decide +kernel
theorem dX6_count_61 : decode cX6_count 61 = .ok (.aload_n 0, 1) := by decide +kernel
theorem dX6_count_62 : decode cX6_count 62 = .ok (.getfield 68, 3) := by decide +kernel
theorem dX6_count_65 : decode cX6_count 65 = .ok (.if_icmp .ge 26, 3) := by decide +kernel
theorem dX6_count_68 : decode cX6_count 68 = .ok (.iload_n 2, 1) := by decide +kernel
theorem dX6_count_69 : decode cX6_count 69 = .ok (.aload_n 0, 1) := by decide +kernel
theorem dX6_count_70 : decode cX6_count 70 = .ok (.getfield 23, 3) := by decide +kernel
theorem dX6_count_73 : decode cX6_count 73 = .ok (.iload_n 3, 1) := by decide +kernel
theorem dX6_count_74 : decode cX6_count 74 = .ok (.baload, 1) := by decide +kernel
theorem dX6_count_75 : decode cX6_count 75 = .ok (.ifCond .eq 7, 3) := by decide +kernel
theorem dX6_count_78 : decode cX6_count 78 = .ok (.iconst 1, 1) := by decide +kernel
theorem dX6_count_79 : decode cX6_count 79 = .ok (.goto 4, 3) := by decide +kernel
theorem dX6_count_82 : decode cX6_count 82 = .ok (.iconst 0, 1) := by decide +kernel
theorem dX6_count_83 : decode cX6_count 83 = .ok (.iadd, 1) := by decide +kernel
theorem dX6_count_84 : decode cX6_count 84 = .ok (.istore_n 2, 1) := by decide +kernel
theorem dX6_count_85 : decode cX6_count 85 = .ok (.iinc 3 1, 3) := by decide +kernel
theorem dX6_count_88 : decode cX6_count 88 = .ok (.goto (-28), 3) := by decide +kernel
theorem dX6_count_91 : decode cX6_count 91 = .ok (.iload_n 2, 1) := by decide +kernel
theorem dX6_count_92 : decode cX6_count 92 = .ok (.ireturn, 1) := by decide +kernel
theorem dX6_count_93 : decode cX6_count 93 = .ok (.aload_n 0, 1) := by decide +kernel
theorem dX6_count_94 : decode cX6_count 94 = .ok (.getfield 58, 3) := by decide +kernel
theorem dX6_count_97 : decode cX6_count 97 = .ok (.ireturn, 1) := by decide +kernel
theorem dX6_count_98 : decode cX6_count 98 = .ok (.aload_n 0, 1) := by decide +kernel
theorem dX6_count_99 : decode cX6_count 99 = .ok (.getfield 62, 3) := by decide +kernel
theorem dX6_count_102 : decode cX6_count 102 = .ok (.ireturn, 1) := by decide +kernel
theorem dX6_count_103 : decode cX6_count 103 = .ok (.aload_n 0, 1) := by decide +kernel
theorem dX6_count_104 : decode cX6_count 104 = .ok (.getfield 65, 3) := by decide +kernel
theorem dX6_count_107 : decode cX6_count 107 = .ok (.ireturn, 1) := by decide +kernel
theorem dX6_count_108 : decode cX6_count 108 = .ok (.iconst 0, 1) := by decide +kernel
theorem dX6_count_109 : decode cX6_count 109 = .ok (.istore_n 3, 1) := by decide +kernel
theorem dX6_count_110 : decode cX6_count 110 = .ok (.iload_n 3, 1) := by decide +kernel
theorem dX6_count_111 : decode cX6_count 111 = .ok (.bipush 25, 2) := by decide +kernel
theorem dX6_count_113 : decode cX6_count 113 = .ok (.if_icmp .ge 26, 3) := by decide +kernel
theorem dX6_count_116 : decode cX6_count 116 = .ok (.iload_n 2, 1) := by decide +kernel
theorem dX6_count_117 : decode cX6_count 117 = .ok (.aload_n 0, 1) := by decide +kernel
theorem dX6_count_118 : decode cX6_count 118 = .ok (.getfield 45, 3) := by decide +kernel
theorem dX6_count_121 : decode cX6_count 121 = .ok (.iload_n 3, 1) := by decide +kernel
theorem dX6_count_122 : decode cX6_count 122 = .ok (.baload, 1) := by decide +kernel
theorem dX6_count_123 : decode cX6_count 123 = .ok (.ifCond .eq 7, 3) := by decide +kernel
theorem dX6_count_126 : decode cX6_count 126 = .ok (.iconst 1, 1) := by decide +kernel
theorem dX6_count_127 : decode cX6_count 127 = .ok (.goto 4, 3) := by decide +kernel
theorem dX6_count_130 : decode cX6_count 130 = .ok (.iconst 0, 1) := by decide +kernel
theorem dX6_count_131 : decode cX6_count 131 = .ok (.iadd, 1) := by decide +kernel
theorem dX6_count_132 : decode cX6_count 132 = .ok (.istore_n 2, 1) := by decide +kernel
theorem dX6_count_133 : decode cX6_count 133 = .ok (.iinc 3 1, 3) := by decide +kernel
theorem dX6_count_136 : decode cX6_count 136 = .ok (.goto (-26), 3) := by decide +kernel
theorem dX6_count_139 : decode cX6_count 139 = .ok (.iload_n 2, 1) := by decide +kernel
theorem dX6_count_140 : decode cX6_count 140 = .ok (.iconst 2, 1) := by decide +kernel
theorem dX6_count_141 : decode cX6_count 141 = .ok (.idiv, 1) := by decide +kernel
theorem dX6_count_142 : decode cX6_count 142 = .ok (.ireturn, 1) := by decide +kernel
theorem dX6_count_143 : decode cX6_count 143 = .ok (.aload_n 0, 1) := by decide +kernel
theorem dX6_count_144 : decode cX6_count 144 = .ok (.getfield 192, 3) := by decide +kernel
theorem dX6_count_147 : decode cX6_count 147 = .ok (.ireturn, 1) := by decide +kernel
theorem dX6_count_148 : decode cX6_count 148 = .ok (.bipush (-102), 2) := by decide +kernel
theorem dX6_count_150 : decode cX6_count 150 = .ok (.ireturn, 1) := by decide +kernel
theorem dX6_digest_0 : decode cX6_digest 0 = .ok (.ldc2_w 195, 3) := by decide +kernel
theorem dX6_digest_3 : decode cX6_digest 3 = .ok (.lstore_n 1, 1) := by decide +kernel
theorem dX6_digest_4 : decode cX6_digest 4 = .ok (.ldc2_w 108, 3) := by decide +kernel
theorem dX6_digest_7 : decode cX6_digest 7 = .ok (.lload_n 1, 1) := by decide +kernel
theorem dX6_digest_8 : decode cX6_digest 8 = .ok (.lmul, 1) := by decide +kernel
theorem dX6_digest_9 : decode cX6_digest 9 = .ok (.aload_n 0, 1) := by decide +kernel
theorem dX6_digest_10 : decode cX6_digest 10 = .ok (.getfield 68, 3) := by decide +kernel
theorem dX6_digest_13 : decode cX6_digest 13 = .ok (.i2l, 1) := by decide +kernel
theorem dX6_digest_14 : decode cX6_digest 14 = .ok (.ladd, 1) := by decide +kernel
theorem dX6_digest_15 : decode cX6_digest 15 = .ok (.lstore_n 1, 1) := by decide +kernel
theorem dX6_digest_16 : decode cX6_digest 16 = .ok (.iconst 0, 1) := by decide +kernel
theorem dX6_digest_17 : decode cX6_digest 17 = .ok (.istore_n 3, 1) := by decide +kernel
theorem dX6_digest_18 : decode cX6_digest 18 = .ok (.iload_n 3, 1) := by decide +kernel
theorem dX6_digest_19 : decode cX6_digest 19 = .ok (.aload_n 0, 1) := by decide +kernel
theorem dX6_digest_20 : decode cX6_digest 20 = .ok (.getfield 68, 3) := by decide +kernel
theorem dX6_digest_23 : decode cX6_digest 23 = .ok (.if_icmp .ge 132, 3) := by decide +kernel
theorem dX6_digest_26 : decode cX6_digest 26 = .ok (.ldc2_w 108, 3) := by decide +kernel
theorem dX6_digest_29 : decode cX6_digest 29 = .ok (.lload_n 1, 1) := by decide +kernel
theorem dX6_digest_30 : decode cX6_digest 30 = .ok (.lmul, 1) := by decide +kernel
theorem dX6_digest_31 : decode cX6_digest 31 = .ok (.aload_n 0, 1) := by decide +kernel
theorem dX6_digest_32 : decode cX6_digest 32 = .ok (.getfield 7, 3) := by decide +kernel
theorem dX6_digest_35 : decode cX6_digest 35 = .ok (.iload_n 3, 1) := by decide +kernel
theorem dX6_digest_36 : decode cX6_digest 36 = .ok (.iaload, 1) := by decide +kernel
theorem dX6_digest_37 : decode cX6_digest 37 = .ok (.i2l, 1) := by decide +kernel
theorem dX6_digest_38 : decode cX6_digest 38 = .ok (.ladd, 1) := by decide +kernel
theorem dX6_digest_39 : decode cX6_digest 39 = .ok (.lstore_n 1, 1) := by decide +kernel
theorem dX6_digest_40 : decode cX6_digest 40 = .ok (.ldc2_w 108, 3) := by decide +kernel
theorem dX6_digest_43 : decode cX6_digest 43 = .ok (.lload_n 1, 1) := by decide +kernel
theorem dX6_digest_44 : decode cX6_digest 44 = .ok (.lmul, 1) := by decide +kernel
theorem dX6_digest_45 : decode cX6_digest 45 = .ok (.aload_n 0, 1) := by decide +kernel
theorem dX6_digest_46 : decode cX6_digest 46 = .ok (.getfield 16, 3) := by decide +kernel
theorem dX6_digest_49 : decode cX6_digest 49 = .ok (.iload_n 3, 1) := by decide +kernel
theorem dX6_digest_50 : decode cX6_digest 50 = .ok (.iaload, 1) := by decide +kernel
theorem dX6_digest_51 : decode cX6_digest 51 = .ok (.i2l, 1) := by decide +kernel
theorem dX6_digest_52 : decode cX6_digest 52 = .ok (.ladd, 1) := by decide +kernel
theorem dX6_digest_53 : decode cX6_digest 53 = .ok (.lstore_n 1, 1) := by decide +kernel
theorem dX6_digest_54 : decode cX6_digest 54 = .ok (.ldc2_w 108, 3) := by decide +kernel
theorem dX6_digest_57 : decode cX6_digest 57 = .ok (.lload_n 1, 1) := by decide +kernel
theorem dX6_digest_58 : decode cX6_digest 58 = .ok (.lmul, 1) := by decide +kernel
theorem dX6_digest_59 : decode cX6_digest 59 = .ok (.aload_n 0, 1) := by decide +kernel
theorem dX6_digest_60 : decode cX6_digest 60 = .ok (.getfield 13, 3) := by decide +kernel
theorem dX6_digest_63 : decode cX6_digest 63 = .ok (.iload_n 3, 1) := by decide +kernel
theorem dX6_digest_64 : decode cX6_digest 64 = .ok (.iaload, 1) := by decide +kernel
theorem dX6_digest_65 : decode cX6_digest 65 = .ok (.i2l, 1) := by decide +kernel
theorem dX6_digest_66 : decode cX6_digest 66 = .ok (.ladd, 1) := by decide +kernel
theorem dX6_digest_67 : decode cX6_digest 67 = .ok (.lstore_n 1, 1) := by decide +kernel
theorem dX6_digest_68 : decode cX6_digest 68 = .ok (.ldc2_w 108, 3) := by decide +kernel
theorem dX6_digest_71 : decode cX6_digest 71 = .ok (.lload_n 1, 1) := by decide +kernel
theorem dX6_digest_72 : decode cX6_digest 72 = .ok (.lmul, 1) := by decide +kernel
theorem dX6_digest_73 : decode cX6_digest 73 = .ok (.aload_n 0, 1) := by decide +kernel
theorem dX6_digest_74 : decode cX6_digest 74 = .ok (.getfield 19, 3) := by decide +kernel
theorem dX6_digest_77 : decode cX6_digest 77 = .ok (.iload_n 3, 1) := by decide +kernel
theorem dX6_digest_78 : decode cX6_digest 78 = .ok (.baload, 1) := by decide +kernel
theorem dX6_digest_79 : decode cX6_digest 79 = .ok (.ifCond .eq 7, 3) := by decide +kernel
theorem dX6_digest_82 : decode cX6_digest 82 = .ok (.iconst 1, 1) := by decide +kernel
theorem dX6_digest_83 : decode cX6_digest 83 = .ok (.goto 4, 3) := by decide +kernel
theorem dX6_digest_86 : decode cX6_digest 86 = .ok (.iconst 0, 1) := by decide +kernel
theorem dX6_digest_87 : decode cX6_digest 87 = .ok (.i2l, 1) := by decide +kernel
theorem dX6_digest_88 : decode cX6_digest 88 = .ok (.ladd, 1) := by decide +kernel
theorem dX6_digest_89 : decode cX6_digest 89 = .ok (.lstore_n 1, 1) := by decide +kernel
theorem dX6_digest_90 : decode cX6_digest 90 = .ok (.ldc2_w 108, 3) := by decide +kernel
theorem dX6_digest_93 : decode cX6_digest 93 = .ok (.lload_n 1, 1) := by decide +kernel
theorem dX6_digest_94 : decode cX6_digest 94 = .ok (.lmul, 1) := by decide +kernel
theorem dX6_digest_95 : decode cX6_digest 95 = .ok (.aload_n 0, 1) := by decide +kernel
theorem dX6_digest_96 : decode cX6_digest 96 = .ok (.getfield 23, 3) := by decide +kernel
theorem dX6_digest_99 : decode cX6_digest 99 = .ok (.iload_n 3, 1) := by decide +kernel
theorem dX6_digest_100 : decode cX6_digest 100 = .ok (.baload, 1) := by decide +kernel
theorem dX6_digest_101 : decode cX6_digest 101 = .ok (.ifCond .eq 7, 3) := by decide +kernel
theorem dX6_digest_104 : decode cX6_digest 104 = .ok (.iconst 1, 1) := by decide +kernel
theorem dX6_digest_105 : decode cX6_digest 105 = .ok (.goto 4, 3) := by decide +kernel
theorem dX6_digest_108 : decode cX6_digest 108 = .ok (.iconst 0, 1) := by decide +kernel
theorem dX6_digest_109 : decode cX6_digest 109 = .ok (.i2l, 1) := by decide +kernel
theorem dX6_digest_110 : decode cX6_digest 110 = .ok (.ladd, 1) := by decide +kernel
theorem dX6_digest_111 : decode cX6_digest 111 = .ok (.lstore_n 1, 1) := by decide +kernel
theorem dX6_digest_112 : decode cX6_digest 112 = .ok (.aload_n 0, 1) := by decide +kernel
theorem dX6_digest_113 : decode cX6_digest 113 = .ok (.getfield 23, 3) := by decide +kernel
theorem dX6_digest_116 : decode cX6_digest 116 = .ok (.iload_n 3, 1) := by decide +kernel
theorem dX6_digest_117 : decode cX6_digest 117 = .ok (.baload, 1) := by decide +kernel
theorem dX6_digest_118 : decode cX6_digest 118 = .ok (.ifCond .eq 17, 3) := by decide +kernel
theorem dX6_digest_121 : decode cX6_digest 121 = .ok (.ldc2_w 108, 3) := by decide +kernel
theorem dX6_digest_124 : decode cX6_digest 124 = .ok (.lload_n 1, 1) := by decide +kernel
theorem dX6_digest_125 : decode cX6_digest 125 = .ok (.lmul, 1) := by decide +kernel
theorem dX6_digest_126 : decode cX6_digest 126 = .ok (.aload_n 0, 1) := by decide +kernel
theorem dX6_digest_127 : decode cX6_digest 127 = .ok (.getfield 26, 3) := by decide +kernel
theorem dX6_digest_130 : decode cX6_digest 130 = .ok (.iload_n 3, 1) := by decide +kernel
theorem dX6_digest_131 : decode cX6_digest 131 = .ok (.iaload, 1) := by decide +kernel
theorem dX6_digest_132 : decode cX6_digest 132 = .ok (.i2l, 1) := by decide +kernel
theorem dX6_digest_133 : decode cX6_digest 133 = .ok (.ladd, 1) := by decide +kernel
theorem dX6_digest_134 : decode cX6_digest 134 = .ok (.lstore_n 1, 1) := by decide +kernel
theorem dX6_digest_135 : decode cX6_digest 135 = .ok (.ldc2_w 108, 3) := by decide +kernel
theorem dX6_digest_138 : decode cX6_digest 138 = .ok (.lload_n 1, 1) := by decide +kernel
theorem dX6_digest_139 : decode cX6_digest 139 = .ok (.lmul, 1) := by decide +kernel
theorem dX6_digest_140 : decode cX6_digest 140 = .ok (.aload_n 0, 1) := by decide +kernel
theorem dX6_digest_141 : decode cX6_digest 141 = .ok (.getfield 29, 3) := by decide +kernel
theorem dX6_digest_144 : decode cX6_digest 144 = .ok (.iload_n 3, 1) := by decide +kernel
theorem dX6_digest_145 : decode cX6_digest 145 = .ok (.iaload, 1) := by decide +kernel
theorem dX6_digest_146 : decode cX6_digest 146 = .ok (.i2l, 1) := by decide +kernel
theorem dX6_digest_147 : decode cX6_digest 147 = .ok (.ladd, 1) := by decide +kernel
theorem dX6_digest_148 : decode cX6_digest 148 = .ok (.lstore_n 1, 1) := by decide +kernel
theorem dX6_digest_149 : decode cX6_digest 149 = .ok (.iinc 3 1, 3) := by decide +kernel
theorem dX6_digest_152 : decode cX6_digest 152 = .ok (.goto (-134), 3) := by decide +kernel
theorem dX6_digest_155 : decode cX6_digest 155 = .ok (.ldc2_w 108, 3) := by decide +kernel
theorem dX6_digest_158 : decode cX6_digest 158 = .ok (.lload_n 1, 1) := by decide +kernel
theorem dX6_digest_159 : decode cX6_digest 159 = .ok (.lmul, 1) := by decide +kernel
theorem dX6_digest_160 : decode cX6_digest 160 = .ok (.aload_n 0, 1) := by decide +kernel
theorem dX6_digest_161 : decode cX6_digest 161 = .ok (.getfield 58, 3) := by decide +kernel
theorem dX6_digest_164 : decode cX6_digest 164 = .ok (.i2l, 1) := by decide +kernel
theorem dX6_digest_165 : decode cX6_digest 165 = .ok (.ladd, 1) := by decide +kernel
theorem dX6_digest_166 : decode cX6_digest 166 = .ok (.lstore_n 1, 1) := by decide +kernel
theorem dX6_digest_167 : decode cX6_digest 167 = .ok (.ldc2_w 108, 3) := by decide +kernel
theorem dX6_digest_170 : decode cX6_digest 170 = .ok (.lload_n 1, 1) := by decide +kernel
theorem dX6_digest_171 : decode cX6_digest 171 = .ok (.lmul, 1) := by decide +kernel
theorem dX6_digest_172 : decode cX6_digest 172 = .ok (.aload_n 0, 1) := by decide +kernel
theorem dX6_digest_173 : decode cX6_digest 173 = .ok (.getfield 62, 3) := by decide +kernel
theorem dX6_digest_176 : decode cX6_digest 176 = .ok (.i2l, 1) := by decide +kernel
theorem dX6_digest_177 : decode cX6_digest 177 = .ok (.ladd, 1) := by decide +kernel
theorem dX6_digest_178 : decode cX6_digest 178 = .ok (.lstore_n 1, 1) := by decide +kernel
theorem dX6_digest_179 : decode cX6_digest 179 = .ok (.iconst 0, 1) := by decide +kernel
theorem dX6_digest_180 : decode cX6_digest 180 = .ok (.istore_n 3, 1) := by decide +kernel
theorem dX6_digest_181 : decode cX6_digest 181 = .ok (.iload_n 3, 1) := by decide +kernel
theorem dX6_digest_182 : decode cX6_digest 182 = .ok (.aload_n 0, 1) := by decide +kernel
theorem dX6_digest_183 : decode cX6_digest 183 = .ok (.getfield 58, 3) := by decide +kernel
theorem dX6_digest_186 : decode cX6_digest 186 = .ok (.if_icmp .gt 47, 3) := by decide +kernel
theorem dX6_digest_189 : decode cX6_digest 189 = .ok (.iconst 0, 1) := by decide +kernel
theorem dX6_digest_190 : decode cX6_digest 190 = .ok (.istore 4, 2) := by decide +kernel
theorem dX6_digest_192 : decode cX6_digest 192 = .ok (.iload 4, 2) := by decide +kernel
theorem dX6_digest_194 : decode cX6_digest 194 = .ok (.aload_n 0, 1) := by decide +kernel
theorem dX6_digest_195 : decode cX6_digest 195 = .ok (.getfield 62, 3) := by decide +kernel
theorem dX6_digest_198 : decode cX6_digest 198 = .ok (.if_icmp .ge 29, 3) := by decide +kernel
theorem dX6_digest_201 : decode cX6_digest 201 = .ok (.ldc2_w 108, 3) := by decide +kernel
theorem dX6_digest_204 : decode cX6_digest 204 = .ok (.lload_n 1, 1) := by decide +kernel
theorem dX6_digest_205 : decode cX6_digest 205 = .ok (.lmul, 1) := by decide +kernel
theorem dX6_digest_206 : decode cX6_digest 206 = .ok (.aload_n 0, 1) := by decide +kernel
theorem dX6_digest_207 : decode cX6_digest 207 = .ok (.getfield 42, 3) := by decide +kernel
theorem dX6_digest_210 : decode cX6_digest 210 = .ok (.bipush 9, 2) := by decide +kernel
theorem dX6_digest_212 : decode cX6_digest 212 = .ok (.iload_n 3, 1) := by decide +kernel
theorem dX6_digest_213 : decode cX6_digest 213 = .ok (.imul, 1) := by decide +kernel
theorem dX6_digest_214 : decode cX6_digest 214 = .ok (.iload 4, 2) := by decide +kernel
theorem dX6_digest_216 : decode cX6_digest 216 = .ok (.iadd, 1) := by decide +kernel
theorem dX6_digest_217 : decode cX6_digest 217 = .ok (.iaload, 1) := by decide +kernel
theorem dX6_digest_218 : decode cX6_digest 218 = .ok (.i2l, 1) := by decide +kernel
theorem dX6_digest_219 : decode cX6_digest 219 = .ok (.ladd, 1) := by decide +kernel
theorem dX6_digest_220 : decode cX6_digest 220 = .ok (.lstore_n 1, 1) := by decide +kernel
theorem dX6_digest_221 : decode cX6_digest 221 = .ok (.iinc 4 1, 3) := by decide +kernel
theorem dX6_digest_224 : decode cX6_digest 224 = .ok (.goto (-32), 3) := by decide +kernel
theorem dX6_digest_227 : decode cX6_digest 227 = .ok (.iinc 3 1, 3) := by decide +kernel
theorem dX6_digest_230 : decode cX6_digest 230 = .ok (.goto (-49), 3) := by decide +kernel
theorem dX6_digest_233 : decode cX6_digest 233 = .ok (.iconst 0, 1) := by decide +kernel
theorem dX6_digest_234 : decode cX6_digest 234 = .ok (.istore_n 3, 1) := by decide +kernel
theorem dX6_digest_235 : decode cX6_digest 235 = .ok (.iload_n 3, 1) := by decide +kernel
theorem dX6_digest_236 : decode cX6_digest 236 = .ok (.aload_n 0, 1) := by decide +kernel
theorem dX6_digest_237 : decode cX6_digest 237 = .ok (.getfield 58, 3) := by decide +kernel
theorem dX6_digest_240 : decode cX6_digest 240 = .ok (.if_icmp .ge 31, 3) := by decide +kernel
theorem dX6_digest_243 : decode cX6_digest 243 = .ok (.ldc2_w 108, 3) := by decide +kernel
theorem dX6_digest_246 : decode cX6_digest 246 = .ok (.lload_n 1, 1) := by decide +kernel
theorem dX6_digest_247 : decode cX6_digest 247 = .ok (.lmul, 1) := by decide +kernel
theorem dX6_digest_248 : decode cX6_digest 248 = .ok (.aload_n 0, 1) := by decide +kernel
theorem dX6_digest_249 : decode cX6_digest 249 = .ok (.getfield 42, 3) := by decide +kernel
theorem dX6_digest_252 : decode cX6_digest 252 = .ok (.bipush 9, 2) := by decide +kernel
theorem dX6_digest_254 : decode cX6_digest 254 = .ok (.iload_n 3, 1) := by decide +kernel
theorem dX6_digest_255 : decode cX6_digest 255 = .ok (.imul, 1) := by decide +kernel
theorem dX6_digest_256 : decode cX6_digest 256 = .ok (.aload_n 0, 1) := by decide +kernel
theorem dX6_digest_257 : decode cX6_digest 257 = .ok (.getfield 62, 3) := by decide +kernel
theorem dX6_digest_260 : decode cX6_digest 260 = .ok (.iadd, 1) := by decide +kernel
theorem dX6_digest_261 : decode cX6_digest 261 = .ok (.iaload, 1) := by decide +kernel
theorem dX6_digest_262 : decode cX6_digest 262 = .ok (.i2l, 1) := by decide +kernel
theorem dX6_digest_263 : decode cX6_digest 263 = .ok (.ladd, 1) := by decide +kernel
theorem dX6_digest_264 : decode cX6_digest 264 = .ok (.lstore_n 1, 1) := by decide +kernel
theorem dX6_digest_265 : decode cX6_digest 265 = .ok (.iinc 3 1, 3) := by decide +kernel
theorem dX6_digest_268 : decode cX6_digest 268 = .ok (.goto (-33), 3) := by decide +kernel
theorem dX6_digest_271 : decode cX6_digest 271 = .ok (.ldc2_w 108, 3) := by decide +kernel
theorem dX6_digest_274 : decode cX6_digest 274 = .ok (.lload_n 1, 1) := by decide +kernel
theorem dX6_digest_275 : decode cX6_digest 275 = .ok (.lmul, 1) := by decide +kernel
theorem dX6_digest_276 : decode cX6_digest 276 = .ok (.aload_n 0, 1) := by decide +kernel
theorem dX6_digest_277 : decode cX6_digest 277 = .ok (.getfield 65, 3) := by decide +kernel
theorem dX6_digest_280 : decode cX6_digest 280 = .ok (.i2l, 1) := by decide +kernel
theorem dX6_digest_281 : decode cX6_digest 281 = .ok (.ladd, 1) := by decide +kernel
theorem dX6_digest_282 : decode cX6_digest 282 = .ok (.lstore_n 1, 1) := by decide +kernel
theorem dX6_digest_283 : decode cX6_digest 283 = .ok (.iconst 0, 1) := by decide +kernel
theorem dX6_digest_284 : decode cX6_digest 284 = .ok (.istore_n 3, 1) := by decide +kernel
theorem dX6_digest_285 : decode cX6_digest 285 = .ok (.iload_n 3, 1) := by decide +kernel
theorem dX6_digest_286 : decode cX6_digest 286 = .ok (.aload_n 0, 1) := by decide +kernel
theorem dX6_digest_287 : decode cX6_digest 287 = .ok (.getfield 65, 3) := by decide +kernel
theorem dX6_digest_290 : decode cX6_digest 290 = .ok (.if_icmp .ge 89, 3) := by decide +kernel
theorem dX6_digest_293 : decode cX6_digest 293 = .ok (.iload_n 3, 1) := by decide +kernel
theorem dX6_digest_294 : decode cX6_digest 294 = .ok (.iconst 1, 1) := by decide +kernel
theorem dX6_digest_295 : decode cX6_digest 295 = .ok (.iadd, 1) := by decide +kernel
theorem dX6_digest_296 : decode cX6_digest 296 = .ok (.istore 4, 2) := by decide +kernel
theorem dX6_digest_298 : decode cX6_digest 298 = .ok (.iload 4, 2) := by decide +kernel
theorem dX6_digest_300 : decode cX6_digest 300 = .ok (.aload_n 0, 1) := by decide +kernel
theorem dX6_digest_301 : decode cX6_digest 301 = .ok (.getfield 65, 3) := by decide +kernel
theorem dX6_digest_304 : decode cX6_digest 304 = .ok (.if_icmp .ge 69, 3) := by decide +kernel
theorem dX6_digest_307 : decode cX6_digest 307 = .ok (.ldc2_w 108, 3) := by decide +kernel
theorem dX6_digest_310 : decode cX6_digest 310 = .ok (.lload_n 1, 1) := by decide +kernel
theorem dX6_digest_311 : decode cX6_digest 311 = .ok (.lmul, 1) := by decide +kernel
theorem dX6_digest_312 : decode cX6_digest 312 = .ok (.aload_n 0, 1) := by decide +kernel
theorem dX6_digest_313 : decode cX6_digest 313 = .ok (.getfield 45, 3) := by decide +kernel
theorem dX6_digest_316 : decode cX6_digest 316 = .ok (.iconst 5, 1) := by decide +kernel
theorem dX6_digest_317 : decode cX6_digest 317 = .ok (.iload_n 3, 1) := by decide +kernel
theorem dX6_digest_318 : decode cX6_digest 318 = .ok (.imul, 1) := by decide +kernel
theorem dX6_digest_319 : decode cX6_digest 319 = .ok (.iload 4, 2) := by decide +kernel
theorem dX6_digest_321 : decode cX6_digest 321 = .ok (.iadd, 1) := by decide +kernel
theorem dX6_digest_322 : decode cX6_digest 322 = .ok (.baload, 1) := by decide +kernel
theorem dX6_digest_323 : decode cX6_digest 323 = .ok (.ifCond .eq 7, 3) := by decide +kernel
theorem dX6_digest_326 : decode cX6_digest 326 = .ok (.iconst 1, 1) := by decide +kernel
theorem dX6_digest_327 : decode cX6_digest 327 = .ok (.goto 4, 3) := by decide +kernel
theorem dX6_digest_330 : decode cX6_digest 330 = .ok (.iconst 0, 1) := by decide +kernel
theorem dX6_digest_331 : decode cX6_digest 331 = .ok (.i2l, 1) := by decide +kernel
theorem dX6_digest_332 : decode cX6_digest 332 = .ok (.ladd, 1) := by decide +kernel
theorem dX6_digest_333 : decode cX6_digest 333 = .ok (.lstore_n 1, 1) := by decide +kernel
theorem dX6_digest_334 : decode cX6_digest 334 = .ok (.aload_n 0, 1) := by decide +kernel
theorem dX6_digest_335 : decode cX6_digest 335 = .ok (.getfield 45, 3) := by decide +kernel
theorem dX6_digest_338 : decode cX6_digest 338 = .ok (.iconst 5, 1) := by decide +kernel
theorem dX6_digest_339 : decode cX6_digest 339 = .ok (.iload_n 3, 1) := by decide +kernel
theorem dX6_digest_340 : decode cX6_digest 340 = .ok (.imul, 1) := by decide +kernel
theorem dX6_digest_341 : decode cX6_digest 341 = .ok (.iload 4, 2) := by decide +kernel
theorem dX6_digest_343 : decode cX6_digest 343 = .ok (.iadd, 1) := by decide +kernel
theorem dX6_digest_344 : decode cX6_digest 344 = .ok (.baload, 1) := by decide +kernel
theorem dX6_digest_345 : decode cX6_digest 345 = .ok (.ifCond .eq 22, 3) := by decide +kernel
theorem dX6_digest_348 : decode cX6_digest 348 = .ok (.ldc2_w 108, 3) := by decide +kernel
theorem dX6_digest_351 : decode cX6_digest 351 = .ok (.lload_n 1, 1) := by decide +kernel
theorem dX6_digest_352 : decode cX6_digest 352 = .ok (.lmul, 1) := by decide +kernel
theorem dX6_digest_353 : decode cX6_digest 353 = .ok (.aload_n 0, 1) := by decide +kernel
theorem dX6_digest_354 : decode cX6_digest 354 = .ok (.getfield 48, 3) := by decide +kernel
theorem dX6_digest_357 : decode cX6_digest 357 = .ok (.iconst 5, 1) := by decide +kernel
theorem dX6_digest_358 : decode cX6_digest 358 = .ok (.iload_n 3, 1) := by decide +kernel
theorem dX6_digest_359 : decode cX6_digest 359 = .ok (.imul, 1) := by decide +kernel
theorem dX6_digest_360 : decode cX6_digest 360 = .ok (.iload 4, 2) := by decide +kernel
theorem dX6_digest_362 : decode cX6_digest 362 = .ok (.iadd, 1) := by decide +kernel
theorem dX6_digest_363 : decode cX6_digest 363 = .ok (.iaload, 1) := by decide +kernel
theorem dX6_digest_364 : decode cX6_digest 364 = .ok (.i2l, 1) := by decide +kernel
theorem dX6_digest_365 : decode cX6_digest 365 = .ok (.ladd, 1) := by decide +kernel
theorem dX6_digest_366 : decode cX6_digest 366 = .ok (.lstore_n 1, 1) := by decide +kernel
theorem dX6_digest_367 : decode cX6_digest 367 = .ok (.iinc 4 1, 3) := by decide +kernel
theorem dX6_digest_370 : decode cX6_digest 370 = .ok (.goto (-72), 3) := by decide +kernel
theorem dX6_digest_373 : decode cX6_digest 373 = .ok (.iinc 3 1, 3) := by decide +kernel
theorem dX6_digest_376 : decode cX6_digest 376 = .ok (.goto (-91), 3) := by decide +kernel
theorem dX6_digest_379 : decode cX6_digest 379 = .ok (.iconst 0, 1) := by decide +kernel
theorem dX6_digest_380 : decode cX6_digest 380 = .ok (.istore_n 3, 1) := by decide +kernel
theorem dX6_digest_381 : decode cX6_digest 381 = .ok (.iload_n 3, 1) := by decide +kernel
theorem dX6_digest_382 : decode cX6_digest 382 = .ok (.aload_n 0, 1) := by decide +kernel
theorem dX6_digest_383 : decode cX6_digest 383 = .ok (.getfield 192, 3) := by decide +kernel
theorem dX6_digest_386 : decode cX6_digest 386 = .ok (.if_icmp .ge 23, 3) := by decide +kernel
theorem dX6_digest_389 : decode cX6_digest 389 = .ok (.ldc2_w 108, 3) := by decide +kernel
theorem dX6_digest_392 : decode cX6_digest 392 = .ok (.lload_n 1, 1) := by decide +kernel
theorem dX6_digest_393 : decode cX6_digest 393 = .ok (.lmul, 1) := by decide +kernel
theorem dX6_digest_394 : decode cX6_digest 394 = .ok (.aload_n 0, 1) := by decide +kernel
theorem dX6_digest_395 : decode cX6_digest 395 = .ok (.getfield 51, 3) := by decide +kernel
theorem dX6_digest_398 : decode cX6_digest 398 = .ok (.iload_n 3, 1) := by decide +kernel
theorem dX6_digest_399 : decode cX6_digest 399 = .ok (.iaload, 1) := by decide +kernel
theorem dX6_digest_400 : decode cX6_digest 400 = .ok (.i2l, 1) := by decide +kernel
theorem dX6_digest_401 : decode cX6_digest 401 = .ok (.ladd, 1) := by decide +kernel
theorem dX6_digest_402 : decode cX6_digest 402 = .ok (.lstore_n 1, 1) := by decide +kernel
theorem dX6_digest_403 : decode cX6_digest 403 = .ok (.iinc 3 1, 3) := by decide +kernel
theorem dX6_digest_406 : decode cX6_digest 406 = .ok (.goto (-25), 3) := by decide +kernel
theorem dX6_digest_409 : decode cX6_digest 409 = .ok (.lload_n 1, 1) := by decide +kernel
theorem dX6_digest_410 : decode cX6_digest 410 = .ok (.lreturn, 1) := by decide +kernel
end
section
/-! THE WORLD: all cells of the class and of the reference, by number. 0..6 objects (their class's number), 7 + a: int and boolean rows (a = 0 .. 41), 49..52: rows of rows, 53 + r: long rows (r = 0 .. 32) -/
abbrev Gv : Type := va_G × (Nat → Nat) × (Nat → ClassId)
abbrev Sc : Type := Nat → Int32
abbrev Ia : Type := Nat → Nat → Int32
abbrev La : Type := Nat → Nat → Int64
def q_ln (a : Nat) : Nat := if a < 8 then 32 else if a < 9 then 5 else if a < 10 then 18 else if a < 19 then 9 else if a < 29 then 5 else if a < 36 then 32 else if a < 38 then 5 else if a < 39 then 81 else if a < 41 then 25 else 18
def q_tz (a : Nat) : Nat := if a < 6 then 0 else if a < 8 then 2 else if a < 32 then 0 else if a < 34 then 2 else if a < 39 then 0 else if a < 40 then 2 else 0
def q_ob (ad : Nat → Nat) (sc : Sc) (k : Nat) : List Value := match k with
  | 0 => [.int (sc 6), .ref (ad 16)]
  | 1 => [.ref (ad 49), .ref (ad 15), .int (sc 1), .int (sc 2)]
  | 2 => [.int (sc 0), .ref (ad 7), .ref (ad 8), .ref (ad 9), .ref (ad 10), .ref (ad 11), .ref (ad 12), .ref (ad 13), .ref (ad 14)]
  | 3 => [.int (sc 5), .ref (ad 51), .ref (ad 52)]
  | 4 => [.int (sc 3), .int (sc 4), .ref (ad 50)]
  | 5 => [.ref (ad 2), .ref (ad 1), .ref (ad 4), .ref (ad 3), .ref (ad 0)]
  | _ => [.int (sc 7), .ref (ad 36), .ref (ad 37), .ref (ad 38), .ref (ad 39), .ref (ad 40), .ref (ad 41), .ref (ad 42), .ref (ad 85), .int (sc 8), .ref (ad 43), .int (sc 9), .ref (ad 44), .int (sc 10), .int (sc 11), .ref (ad 45), .int (sc 12), .ref (ad 46), .ref (ad 47), .int (sc 13), .int (sc 14), .int (sc 15), .int (sc 16), .int (sc 17), .ref (ad 48)]
def q_ol (k : Nat) : Nat := if k < 50 then 32 else if k < 51 then 9 else 5
def q_os (k : Nat) : Nat := if k < 50 then 53 else if k < 51 then 17 else if k < 52 then 26 else 31
def q_ot (k : Nat) : Nat := if k < 50 then 4 else 3
def q_ll (r : Nat) : Nat := if r < 32 then 6 else 192
def q_val (G : Gv) (sc : Sc) (ia : Ia) (la : La) (k : Nat) : va_E := if k < 7 then .inr (k, q_ob G.2.1 sc k) else if k < 49 then .inl (G.2.2 (q_tz (k - 7)), q_ln (k - 7), .inl (ia (k - 7))) else if k < 53 then .inl (G.2.2 (q_ot k), q_ol k, .inr (.inr (.inr (.inr (fun i => if i < q_ol k then some (G.2.1 (q_os k + i)) else none))))) else .inl (G.2.2 1, q_ll (k - 53), .inr (.inl (la (k - 53))))
def q_W (G : Gv) (sc : Sc) (ia : Ia) (la : La) : va_W := (List.range 86).map (fun k => (G.2.1 k, q_val G sc ia la k))
def qInj (ad : Nat → Nat) : Prop := ∀ i j, i < 86 → j < 86 → ad i = ad j → i = j
def qA (ad : Nat → Nat) : Nat → Prop := fun q => ∃ k, k < 86 ∧ q = ad k
abbrev q_T (G : Gv) : List (ClassId × FieldType) := [(G.2.2 0, .int), (G.2.2 1, .long), (G.2.2 2, .boolean), (G.2.2 3, .array .int), (G.2.2 4, .array .long)]
def q_Nl : List (String × Nat × MethodName) := [(RX0, 25, yX5_fold), (RX1, 57, yX5_passes), (RX1, 68, yX5_signOf), (RX2, 46, yX5_signOf), (RX2, 70, yX5_passes), (RX2, 88, yX5_fold), (RX2, 92, yX5_foldIfKnown), (RX3, 45, yX5_fold), (RX3, 49, yX5_foldIfKnown), (RX4, 33, yX5_fold)]
def qN (U : State) : Prop := ∀ x ∈ q_Nl, va_Nw (.methodLinkNest x.1 x.2.1 x.2.2 RX5) U
def InW (G : Gv) (sc : Sc) (ia : Ia) (la : La) (U : State) : Prop := va_P G.1 vwCl (q_W G sc ia la) U.heap ∧ va_K G.1 vwCl (q_T G) U ∧ qInj G.2.1 ∧ qN U
theorem q_at {G : Gv} {sc : Sc} {ia : Ia} {la : La} {k : Nat} (hk : k < 86) : (q_W G sc ia la)[k]? = some (G.2.1 k, q_val G sc ia la k) := by
  unfold q_W
  rw [List.getElem?_map, List.getElem?_range hk]
  rfl
theorem q_atE {G : Gv} {sc : Sc} {ia : Ia} {la : La} {k : Nat} {e : va_E} (hk : k < 86) (he : q_val G sc ia la k = e) : (q_W G sc ia la)[k]? = some (G.2.1 k, e) := by
  rw [q_at hk, he]
theorem q_D {G : Gv} {sc : Sc} {ia : Ia} {la : La} (h : qInj G.2.1) : va_D (qA G.2.1) (q_W G sc ia la) := by
  have key : ∀ (i : Nat) (x : Nat × va_E), (q_W G sc ia la)[i]? = some x → i < 86 ∧ x.1 = G.2.1 i := by
    intro i x hx
    by_cases hi : i < 86
    · rw [q_at hi] at hx
      cases hx
      exact ⟨hi, rfl⟩
    · have : (q_W G sc ia la)[i]? = none := List.getElem?_eq_none (by simp [q_W]; omega)
      rw [this] at hx
      cases hx
  refine ⟨fun i j x y hx hy hxy => ?_, fun k x hx => ?_⟩
  · obtain ⟨a1, a2⟩ := key i x hx
    obtain ⟨b1, b2⟩ := key j y hy
    exact h i j a1 b1 (by rw [← a2, ← b2]; exact hxy)
  · obtain ⟨a1, a2⟩ := key k x hx
    exact ⟨k, a1, a2⟩
theorem q_set {G : Gv} {sc sc' : Sc} {ia ia' : Ia} {la la' : La} {k : Nat} {e : va_E} (hk : k < 86) (h : va_up (q_val G sc ia la) k e = q_val G sc' ia' la') : (q_W G sc ia la).set k (G.2.1 k, e) = q_W G sc' ia' la' := by
  apply List.ext_getElem?
  intro i
  unfold q_W
  rw [List.getElem?_set, List.getElem?_map, List.getElem?_map]
  by_cases hi : k = i
  · subst hi
    rw [if_pos rfl, List.getElem?_range hk, if_pos (by simpa using hk), ← h]
    simp [va_up]
  · rw [if_neg hi, ← h]
    cases hr : (List.range 86)[i]? with
    | none => rfl
    | some j =>
      have hj : j = i := by
        obtain ⟨h1, h2⟩ := List.getElem?_eq_some_iff.mp hr
        rw [← h2, List.getElem_range]
      subst hj
      simp [va_up, Ne.symm hi]
theorem q_upI {G : Gv} {sc : Sc} {ia : Ia} {la : La} (a : Nat) (ha : a < 42) (f : Nat → Int32) : va_up (q_val G sc ia la) (7 + a) (.inl (G.2.2 (q_tz a), q_ln a, .inl f)) = q_val G sc (va_up ia a f) la := by
  funext k
  unfold va_up q_val
  by_cases hk : k = 7 + a
  · subst hk
    rw [if_pos rfl, if_neg (by omega), if_pos (by omega), show 7 + a - 7 = a by omega]
    simp
  · rw [if_neg hk]
    by_cases h1 : k < 7
    · rw [if_pos h1, if_pos h1]
    · by_cases h2 : k < 49
      · rw [if_neg h1, if_neg h1, if_pos h2, if_pos h2]
        have h9 : ¬ k - 7 = a := by omega
        simp [h9]
      · rw [if_neg h1, if_neg h1, if_neg h2, if_neg h2]
theorem q_upL {G : Gv} {sc : Sc} {ia : Ia} {la : La} (r : Nat) (hr : r < 33) (f : Nat → Int64) : va_up (q_val G sc ia la) (53 + r) (.inl (G.2.2 1, q_ll r, .inr (.inl f))) = q_val G sc ia (va_up la r f) := by
  funext k
  unfold va_up q_val
  by_cases hk : k = 53 + r
  · subst hk
    rw [if_pos rfl, if_neg (by omega), if_neg (by omega), if_neg (by omega), show 53 + r - 53 = r by omega]
    simp
  · rw [if_neg hk]
    by_cases h1 : k < 7
    · rw [if_pos h1, if_pos h1]
    · by_cases h2 : k < 49
      · rw [if_neg h1, if_neg h1, if_pos h2, if_pos h2]
      · by_cases h3 : k < 53
        · rw [if_neg h1, if_neg h1, if_neg h2, if_neg h2, if_pos h3, if_pos h3]
        · rw [if_neg h1, if_neg h1, if_neg h2, if_neg h2, if_neg h3, if_neg h3]
          have h9 : ¬ k - 53 = r := by omega
          simp [h9]
theorem q_upS {G : Gv} {sc : Sc} {ia : Ia} {la : La} (q j i : Nat) (hq : q < 7) (v : Int32) (h1 : (q_ob G.2.1 sc q).set j (.int v) = q_ob G.2.1 (va_up sc i v) q) (h2 : ∀ k, k < 7 → k ≠ q → q_ob G.2.1 sc k = q_ob G.2.1 (va_up sc i v) k) : va_up (q_val G sc ia la) q (.inr (q, (q_ob G.2.1 sc q).set j (.int v))) = q_val G (va_up sc i v) ia la := by
  funext k
  unfold va_up q_val
  by_cases hk : k = q
  · subst hk
    rw [if_pos rfl, if_pos hq, h1]
    rfl
  · rw [if_neg hk]
    by_cases h7 : k < 7
    · rw [if_pos h7, if_pos h7, h2 k h7 hk]
      rfl
    · rw [if_neg h7, if_neg h7]
theorem q_vI {G : Gv} {sc : Sc} {ia : Ia} {la : La} (a : Nat) (ha : a < 42) : q_val G sc ia la (7 + a) = .inl (G.2.2 (q_tz a), q_ln a, .inl (ia a)) := by
  unfold q_val
  rw [if_neg (by omega), if_pos (by omega), show 7 + a - 7 = a by omega]
theorem q_vL {G : Gv} {sc : Sc} {ia : Ia} {la : La} (r : Nat) (hr : r < 33) : q_val G sc ia la (53 + r) = .inl (G.2.2 1, q_ll r, .inr (.inl (la r))) := by
  unfold q_val
  rw [if_neg (by omega), if_neg (by omega), if_neg (by omega), show 53 + r - 53 = r by omega]
def bI (b : Bool) : Int32 := if b then 1 else 0
theorem bI_t : bI true = 1 := rfl
theorem bI_f : bI false = 0 := rfl
theorem bI_eq0 (b : Bool) : bI b = 0 ↔ b = false := by cases b <;> decide
theorem bI_nar (b : Bool) : narrow .boolean (.int (bI b)) = .int (bI b) := by cases b <;> rfl
theorem bI_vnar (b : Bool) : vp_nar .boolean (bI b) = bI b := by cases b <;> rfl
/-! THE JUDGEMENT -/
abbrev ZT : Type := Sc → Ia → La → List (Nat × Value) → Nat → List Value → Prop
def qJ (p : Program) (l : Launch) (e : Env) (R : Room) (s : State) (m : MethodId) (args : Array Value) (below : List Frame) (meth : Method) (c : Code) (ce so : Nat) (Q : State → Prop) (G : Gv) (nL : Nat) : ZT := fun sc ia la lv pc st => ∀ (H : Heap) (locs : List Loc) (ls : Array Slot), va_P G.1 vwCl (q_W G sc ia la) H → va_S (qA G.2.1) s.heap H locs → lv_has ls nL lv → W p l e R s m args below meth c H locs ce so Q (F0 m pc ls st)
def CC (Z : ZT) (cc : ByteArray) (Ts : List Cond) (own : String) (G : Gv) (nL : Nat) (R : Room) (l : Launch) : Prop := ∃ (p : Program) (e : Env) (s : State) (m : MethodId) (args : Array Value) (below : List Frame) (meth : Method) (c : Code) (ce so : Nat) (Q : State → Prop), Z = qJ p l e R s m args below meth c ce so Q G nL ∧ p.tables.exec = Jvm.exec ∧ c.code = cc ∧ c.maxLocals = nL ∧ s.vm.findClass own = some m.cls ∧ (∀ w ∈ Ts, w.before args s = true) ∧ va_K G.1 vwCl (q_T G) s ∧ qInj G.2.1 ∧ qN s ∧ ce ≤ R.cells ∧ so ≤ R.slots
abbrev FinT : Type := Option Value → Sc → Ia → La → Prop
def fI (E : Int32) (sc : Sc) (ia : Ia) (la : La) : FinT := fun v a b c => v = some (.int E) ∧ a = sc ∧ b = ia ∧ c = la
def fL (E : Int64) (sc : Sc) (ia : Ia) (la : La) : FinT := fun v a b c => v = some (.long E) ∧ a = sc ∧ b = ia ∧ c = la
def fV (sc : Sc) (ia : Ia) (la : La) : FinT := fun v a b c => v = none ∧ a = sc ∧ b = ia ∧ c = la
def q_Q (G : Gv) (Fn : FinT) : Array Value → State → Outcome → State → Prop := fun _ st oc t => (∃ (v : Option Value) (sc : Sc) (ia : Ia) (la : La), oc = .returned v ∧ Fn v sc ia la ∧ InW G sc ia la t) ∧ va_F (qA G.2.1) st t
def Ct (l : Launch) (y : MethodName) (ws : List Cond) (rm : Room) (G : Gv) (av : List Value) (sc : Sc) (ia : Ia) (la : La) (Fn : FinT) : Prop := Met l y ws rm (va_Pc av (InW G sc ia la)) (q_Q G Fn) 0 0 (qA G.2.1)
/-- how a walk ends -/
def CE (Z : ZT) (cc : ByteArray) (Fn : FinT) (ret : Option FieldType) : Prop := (∀ (ty : FieldType) (sc : Sc) (ia : Ia) (la : La) (lv : List (Nat × Value)) (pc : Nat) (v : Int32), ret = some ty → decode cc pc = .ok (.ireturn, 1) → narrow ty (.int v) = .int v → Fn (some (.int v)) sc ia la → Z sc ia la lv pc [.int v]) ∧ (∀ (sc : Sc) (ia : Ia) (la : La) (lv : List (Nat × Value)) (pc : Nat) (v : Int64), ret = some .long → decode cc pc = .ok (.lreturn, 1) → Fn (some (.long v)) sc ia la → Z sc ia la lv pc [.long v]) ∧ (∀ (sc : Sc) (ia : Ia) (la : La) (lv : List (Nat × Value)) (pc : Nat), ret = none → decode cc pc = .ok (.return_, 1) → Fn none sc ia la → Z sc ia la lv pc [])
theorem InW.moved {G : Gv} {sc : Sc} {ia : Ia} {la : La} {s U : State} {H : Heap} (hK : va_K G.1 vwCl (q_T G) s) (hJ : qInj G.2.1) (hN : qN s) (hP : va_P G.1 vwCl (q_W G sc ia la) H) (hU : U.heap = H) (hW : s.WarmedH U.vm) : InW G sc ia la U := ⟨by rw [hU]; exact hP, va_K.moved hW.alike hK, hJ, fun x hx => va_Nw.warmM hW (hN x hx)⟩
theorem z_of {l : Launch} {y : MethodName} {ws ws' : List Cond} {rm : Room} {G : Gv} {av : List Value} {sc : Sc} {ia : Ia} {la : La} {Fn : FinT} {cc : ByteArray} {maxL : Nat} {ret : Option FieldType} {own : String} (lv : List (Nat × Value)) (hw : ws = Cond.code y cc maxL ret :: ws') (hy : plainName y.cls = true) (ho : y.cls = own) (hlen : (lg_sl av).length ≤ maxL) (hlv : lv_args 0 av = lv) (body : ∀ Z : ZT, CC Z cc ws own G maxL rm l → CE Z cc Fn ret → Z sc ia la lv 0 []) : Ct l y ws rm G av sc ia la Fn := by
  subst hlv
  subst ho
  refine Met.ofW (cc := cc) (maxL := maxL) (ret := ret) hy hw ?_
  intro p e s m args below meth c s₁ B hml hv
  obtain ⟨rfl, hP, hK, hJ, hN⟩ := hv
  have hx := B.exec
  have hb := B.bytes
  have hr := B.returns
  have hts := atoms_spec (ws := ws) B.pre
  have hown : s.vm.findClass y.cls = some m.cls := findClass_of_methodNamed B.named
  have hlocks := B.notSynchronized
  rw [lg_entry_eq]
  refine body (qJ p l e rm s m av.toArray below meth c 0 0 (MQ below (q_Q G Fn) av.toArray s 0 0 (qA G.2.1)) G maxL) ⟨p, e, s, m, _, below, meth, c, 0, 0, _, rfl, hx, hb, hml, hown, hts, hK, hJ, hN, Nat.zero_le _, Nat.zero_le _⟩ ⟨?_, ?_, ?_⟩ s.heap [] _ hP va_S.rf (lv_entry av hlen)
  · intro ty sc ia la lv pc v hret hdg hn hF H locs ls hP hS hl
    exact W.zret (v := v) (ty := ty) hx hb (by rw [hr]; exact hret) hn (fun t ht hW => ⟨⟨_, sc, ia, la, rfl, hF, InW.moved hK hJ hN hP ht hW⟩, hS.F ht⟩) hS.2.2 hdg
  · intro sc ia la lv pc v hret hdg hF H locs ls hP hS hl
    exact W.lret (v := v) hx hb (by rw [hr]; exact hret) (fun t ht hW => ⟨⟨_, sc, ia, la, rfl, hF, InW.moved hK hJ hN hP ht hW⟩, hS.F ht⟩) hS.2.2 hdg
  · intro sc ia la lv pc hret hdg hF H locs ls hP hS hl
    exact W.vret hx hb (by rw [hr]; exact hret) (fun t ht hW => ⟨⟨_, sc, ia, la, rfl, hF, InW.moved hK hJ hN hP ht hW⟩, hS.F ht⟩) hS.2.2 hdg
section ZR
variable {Z : ZT} {cc : ByteArray} {Ts : List Cond} {own : String} {G : Gv} {nL : Nat} {R : Room} {l : Launch} {sc sc' : Sc} {ia ia' : Ia} {la la' : La} {lv lv' : List (Nat × Value)} {pc pc' : Nat} {st st' : List Value} {Fn : FinT} {ret : Option FieldType}
theorem z_cast (e1 : sc = sc') (e2 : ia = ia') (e3 : la = la') (e4 : lv = lv') (e5 : st = st') (k : Z sc' ia' la' lv' pc st') : Z sc ia la lv pc st := by
  subst e1; subst e2; subst e3; subst e4; subst e5; exact k
theorem z_iret {E : CE Z cc Fn ret} {v : Int32} (hret : ret = some .int) (hd : decode cc pc = .ok (.ireturn, 1)) (hF : Fn (some (.int v)) sc ia la) : Z sc ia la lv pc [.int v] := E.1 .int sc ia la lv pc v hret hd rfl hF
theorem z_zret {E : CE Z cc Fn ret} {v : Int32} (hret : ret = some .boolean) (hd : decode cc pc = .ok (.ireturn, 1)) (hn : narrow .boolean (.int v) = .int v) (hF : Fn (some (.int v)) sc ia la) : Z sc ia la lv pc [.int v] := E.1 .boolean sc ia la lv pc v hret hd hn hF
theorem z_lret {E : CE Z cc Fn ret} {v : Int64} (hret : ret = some .long) (hd : decode cc pc = .ok (.lreturn, 1)) (hF : Fn (some (.long v)) sc ia la) : Z sc ia la lv pc [.long v] := E.2.1 sc ia la lv pc v hret hd hF
theorem z_vret {E : CE Z cc Fn ret} (hret : ret = none) (hd : decode cc pc = .ok (.return_, 1)) (hF : Fn none sc ia la) : Z sc ia la lv pc [] := E.2.2 sc ia la lv pc hret hd hF
theorem z_iconst (C : CC Z cc Ts own G nL R l) {n : Int} {v : Int32} (hd : decode cc pc = .ok (.iconst n, 1)) (hv : Int32.ofInt n = v) (hp : pc + 1 = pc') (k : Z sc ia la lv pc' (.int v :: st)) : Z sc ia la lv pc (st) := by
  subst hp
  obtain ⟨p, e, s, m, args, below, meth, c, ce, so, Q, rfl, hx, hb, hml, hown, hts, hK, hJ, hNs, hce, hso⟩ := C
  exact fun H locs ls hP hS hl => lv_iconst hx hb hd hv (k H locs ls hP hS hl)
theorem z_bipush (C : CC Z cc Ts own G nL R l) {n : Int} {v : Int32} (hd : decode cc pc = .ok (.bipush n, 2)) (hv : (Int8.ofInt n).toInt32 = v) (hp : pc + 2 = pc') (k : Z sc ia la lv pc' (.int v :: st)) : Z sc ia la lv pc (st) := by
  subst hp
  obtain ⟨p, e, s, m, args, below, meth, c, ce, so, Q, rfl, hx, hb, hml, hown, hts, hK, hJ, hNs, hce, hso⟩ := C
  exact fun H locs ls hP hS hl => lv_bipush hx hb hd hv (k H locs ls hP hS hl)
theorem z_sipush (C : CC Z cc Ts own G nL R l) {n : Int} {v : Int32} (hd : decode cc pc = .ok (.sipush n, 3)) (hv : (Int16.ofInt n).toInt32 = v) (hp : pc + 3 = pc') (k : Z sc ia la lv pc' (.int v :: st)) : Z sc ia la lv pc (st) := by
  subst hp
  obtain ⟨p, e, s, m, args, below, meth, c, ce, so, Q, rfl, hx, hb, hml, hown, hts, hK, hJ, hNs, hce, hso⟩ := C
  exact fun H locs ls hP hS hl => lv_sipush hx hb hd hv (k H locs ls hP hS hl)
theorem z_lconst (C : CC Z cc Ts own G nL R l) {n : Fin 2} {v : Int64} (hd : decode cc pc = .ok (.lconst n, 1)) (hv : Int64.ofNat (n : Nat) = v) (hp : pc + 1 = pc') (k : Z sc ia la lv pc' (.long v :: st)) : Z sc ia la lv pc (st) := by
  subst hp
  obtain ⟨p, e, s, m, args, below, meth, c, ce, so, Q, rfl, hx, hb, hml, hown, hts, hK, hJ, hNs, hce, hso⟩ := C
  exact fun H locs ls hP hS hl => lv_lconst hx hb hd hv (k H locs ls hP hS hl)
theorem z_ldc (C : CC Z cc Ts own G nL R l) {index : Nat} {v : Int32} (hc : Cond.constant own index v ∈ Ts) (hd : decode cc pc = .ok (.ldc index, 2)) (hp : pc + 2 = pc') (k : Z sc ia la lv pc' (.int v :: st)) : Z sc ia la lv pc (st) := by
  subst hp
  obtain ⟨p, e, s, m, args, below, meth, c, ce, so, Q, rfl, hx, hb, hml, hown, hts, hK, hJ, hNs, hce, hso⟩ := C
  exact fun H locs ls hP hS hl => lv_ldc hx hb hown (hts _ hc) hd (k H locs ls hP hS hl)
theorem z_ldcw (C : CC Z cc Ts own G nL R l) {index : Nat} {v : Int32} (hc : Cond.constant own index v ∈ Ts) (hd : decode cc pc = .ok (.ldc_w index, 3)) (hp : pc + 3 = pc') (k : Z sc ia la lv pc' (.int v :: st)) : Z sc ia la lv pc (st) := by
  subst hp
  obtain ⟨p, e, s, m, args, below, meth, c, ce, so, Q, rfl, hx, hb, hml, hown, hts, hK, hJ, hNs, hce, hso⟩ := C
  exact fun H locs ls hP hS hl => lv_ldcw hx hb hown (hts _ hc) hd (k H locs ls hP hS hl)
theorem z_ldc2 (C : CC Z cc Ts own G nL R l) {index : Nat} {v : Int64} (hc : Cond.constantLong own index v ∈ Ts) (hd : decode cc pc = .ok (.ldc2_w index, 3)) (hp : pc + 3 = pc') (k : Z sc ia la lv pc' (.long v :: st)) : Z sc ia la lv pc (st) := by
  subst hp
  obtain ⟨p, e, s, m, args, below, meth, c, ce, so, Q, rfl, hx, hb, hml, hown, hts, hK, hJ, hNs, hce, hso⟩ := C
  exact fun H locs ls hP hS hl => lv_ldc2 hx hb hown (hts _ hc) hd (k H locs ls hP hS hl)
theorem z_iload_n (C : CC Z cc Ts own G nL R l) {k9 : Fin 4} {i : Nat} {x : Int32} (hd : decode cc pc = .ok (.iload_n k9, 1)) (hi : (k9 : Nat) = i) (q : Nat) (hq : lv[q]? = some (i, .int x)) (hp : pc + 1 = pc') (k : Z sc ia la lv pc' (.int x :: st)) : Z sc ia la lv pc (st) := by
  subst hp
  obtain ⟨p, e, s, m, args, below, meth, c, ce, so, Q, rfl, hx, hb, hml, hown, hts, hK, hJ, hNs, hce, hso⟩ := C
  exact fun H locs ls hP hS hl => lv_iload_n hx hb hd hi (lv_at hl q hq) (k H locs ls hP hS hl)
theorem z_iload (C : CC Z cc Ts own G nL R l) {i : Nat} {x : Int32} (hd : decode cc pc = .ok (.iload i, 2)) (q : Nat) (hq : lv[q]? = some (i, .int x)) (hp : pc + 2 = pc') (k : Z sc ia la lv pc' (.int x :: st)) : Z sc ia la lv pc (st) := by
  subst hp
  obtain ⟨p, e, s, m, args, below, meth, c, ce, so, Q, rfl, hx, hb, hml, hown, hts, hK, hJ, hNs, hce, hso⟩ := C
  exact fun H locs ls hP hS hl => lv_iload hx hb hd (lv_at hl q hq) (k H locs ls hP hS hl)
theorem z_lload_n (C : CC Z cc Ts own G nL R l) {k9 : Fin 4} {i : Nat} {x : Int64} (hd : decode cc pc = .ok (.lload_n k9, 1)) (hi : (k9 : Nat) = i) (q : Nat) (hq : lv[q]? = some (i, .long x)) (hp : pc + 1 = pc') (k : Z sc ia la lv pc' (.long x :: st)) : Z sc ia la lv pc (st) := by
  subst hp
  obtain ⟨p, e, s, m, args, below, meth, c, ce, so, Q, rfl, hx, hb, hml, hown, hts, hK, hJ, hNs, hce, hso⟩ := C
  exact fun H locs ls hP hS hl => lv_lload_n hx hb hd hi (lv_at hl q hq) (k H locs ls hP hS hl)
theorem z_lload (C : CC Z cc Ts own G nL R l) {i : Nat} {x : Int64} (hd : decode cc pc = .ok (.lload i, 2)) (q : Nat) (hq : lv[q]? = some (i, .long x)) (hp : pc + 2 = pc') (k : Z sc ia la lv pc' (.long x :: st)) : Z sc ia la lv pc (st) := by
  subst hp
  obtain ⟨p, e, s, m, args, below, meth, c, ce, so, Q, rfl, hx, hb, hml, hown, hts, hK, hJ, hNs, hce, hso⟩ := C
  exact fun H locs ls hP hS hl => lv_lload hx hb hd (lv_at hl q hq) (k H locs ls hP hS hl)
theorem z_aload_n (C : CC Z cc Ts own G nL R l) {k9 : Fin 4} {i : Nat} {x : Nat} (hd : decode cc pc = .ok (.aload_n k9, 1)) (hi : (k9 : Nat) = i) (q : Nat) (hq : lv[q]? = some (i, .ref x)) (hp : pc + 1 = pc') (k : Z sc ia la lv pc' (.ref x :: st)) : Z sc ia la lv pc (st) := by
  subst hp
  obtain ⟨p, e, s, m, args, below, meth, c, ce, so, Q, rfl, hx, hb, hml, hown, hts, hK, hJ, hNs, hce, hso⟩ := C
  exact fun H locs ls hP hS hl => lv_aload_n hx hb hd hi (lv_at hl q hq) (k H locs ls hP hS hl)
theorem z_istore_n (C : CC Z cc Ts own G nL R l) {k9 : Fin 4} {i : Nat} {x : Int32} (hd : decode cc pc = .ok (.istore_n k9, 1)) (hi : (k9 : Nat) = i) (hn : i < nL) (hl : (i, Value.int x) :: lv.filter (fun q => !(q.1 == i) && !(q.1 + 1 == i && q.2.category == 2)) = lv') (hp : pc + 1 = pc') (k : Z sc ia la lv' pc' (st)) : Z sc ia la lv pc (.int x :: st) := by
  subst hp
  obtain ⟨p, e, s, m, args, below, meth, c, ce, so, Q, rfl, hx, hb, hml, hown, hts, hK, hJ, hNs, hce, hso⟩ := C
  exact fun H locs ls hP hS hl => lv_istore_n hx hb hd hi hl hn (by assumption) (fun ls hl => k H locs ls hP hS hl)
theorem z_istore (C : CC Z cc Ts own G nL R l) {i : Nat} {x : Int32} (hd : decode cc pc = .ok (.istore i, 2)) (hn : i < nL) (hl : (i, Value.int x) :: lv.filter (fun q => !(q.1 == i) && !(q.1 + 1 == i && q.2.category == 2)) = lv') (hp : pc + 2 = pc') (k : Z sc ia la lv' pc' (st)) : Z sc ia la lv pc (.int x :: st) := by
  subst hp
  obtain ⟨p, e, s, m, args, below, meth, c, ce, so, Q, rfl, hx, hb, hml, hown, hts, hK, hJ, hNs, hce, hso⟩ := C
  exact fun H locs ls hP hS hl => lv_istore hx hb hd hl hn (by assumption) (fun ls hl => k H locs ls hP hS hl)
theorem z_lstore_n (C : CC Z cc Ts own G nL R l) {k9 : Fin 4} {i : Nat} {x : Int64} (hd : decode cc pc = .ok (.lstore_n k9, 1)) (hi : (k9 : Nat) = i) (hn : i + 1 < nL) (hl : (i, Value.long x) :: lv.filter (fun q => !(q.1 == i) && (!(q.1 == i + 1) && !(q.1 + 1 == i && q.2.category == 2))) = lv') (hp : pc + 1 = pc') (k : Z sc ia la lv' pc' (st)) : Z sc ia la lv pc (.long x :: st) := by
  subst hp
  obtain ⟨p, e, s, m, args, below, meth, c, ce, so, Q, rfl, hx, hb, hml, hown, hts, hK, hJ, hNs, hce, hso⟩ := C
  exact fun H locs ls hP hS hl => lv_lstore_n hx hb hd hi hl hn (by assumption) (fun ls hl => k H locs ls hP hS hl)
theorem z_lstore (C : CC Z cc Ts own G nL R l) {i : Nat} {x : Int64} (hd : decode cc pc = .ok (.lstore i, 2)) (hn : i + 1 < nL) (hl : (i, Value.long x) :: lv.filter (fun q => !(q.1 == i) && (!(q.1 == i + 1) && !(q.1 + 1 == i && q.2.category == 2))) = lv') (hp : pc + 2 = pc') (k : Z sc ia la lv' pc' (st)) : Z sc ia la lv pc (.long x :: st) := by
  subst hp
  obtain ⟨p, e, s, m, args, below, meth, c, ce, so, Q, rfl, hx, hb, hml, hown, hts, hK, hJ, hNs, hce, hso⟩ := C
  exact fun H locs ls hP hS hl => lv_lstore hx hb hd hl hn (by assumption) (fun ls hl => k H locs ls hP hS hl)
theorem z_astore_n (C : CC Z cc Ts own G nL R l) {k9 : Fin 4} {i : Nat} {x : Nat} (hd : decode cc pc = .ok (.astore_n k9, 1)) (hi : (k9 : Nat) = i) (hn : i < nL) (hl : (i, Value.ref x) :: lv.filter (fun q => !(q.1 == i) && !(q.1 + 1 == i && q.2.category == 2)) = lv') (hp : pc + 1 = pc') (k : Z sc ia la lv' pc' (st)) : Z sc ia la lv pc (.ref x :: st) := by
  subst hp
  obtain ⟨p, e, s, m, args, below, meth, c, ce, so, Q, rfl, hx, hb, hml, hown, hts, hK, hJ, hNs, hce, hso⟩ := C
  exact fun H locs ls hP hS hl => lv_astore_n hx hb hd hi hl hn (by assumption) (fun ls hl => k H locs ls hP hS hl)
theorem z_iinc (C : CC Z cc Ts own G nL R l) {i k9 : Nat} {n : Int} {x v : Int32} (hd : decode cc pc = .ok (.iinc i n, 3)) (hk : lv[k9]? = some (i, .int x)) (hv : x + Int32.ofInt n = v) (hn : i < nL) (hl : (i, Value.int v) :: lv.filter (fun q => !(q.1 == i) && !(q.1 + 1 == i && q.2.category == 2)) = lv') (hp : pc + 3 = pc') (k : Z sc ia la lv' pc' (st)) : Z sc ia la lv pc (st) := by
  subst hp
  obtain ⟨p, e, s, m, args, below, meth, c, ce, so, Q, rfl, hx, hb, hml, hown, hts, hK, hJ, hNs, hce, hso⟩ := C
  exact fun H locs ls hP hS hl => lv_iinc hx hb hd hl hk hv hn (by assumption) (fun ls hl => k H locs ls hP hS hl)
theorem z_iadd (C : CC Z cc Ts own G nL R l) {x y : Int32} (hd : decode cc pc = .ok (.iadd, 1)) (hp : pc + 1 = pc') (k : Z sc ia la lv pc' (.int (x + y) :: st)) : Z sc ia la lv pc (.int y :: .int x :: st) := by
  subst hp
  obtain ⟨p, e, s, m, args, below, meth, c, ce, so, Q, rfl, hx, hb, hml, hown, hts, hK, hJ, hNs, hce, hso⟩ := C
  exact fun H locs ls hP hS hl => lv_iadd hx hb hd (k H locs ls hP hS hl)
theorem z_isub (C : CC Z cc Ts own G nL R l) {x y : Int32} (hd : decode cc pc = .ok (.isub, 1)) (hp : pc + 1 = pc') (k : Z sc ia la lv pc' (.int (x - y) :: st)) : Z sc ia la lv pc (.int y :: .int x :: st) := by
  subst hp
  obtain ⟨p, e, s, m, args, below, meth, c, ce, so, Q, rfl, hx, hb, hml, hown, hts, hK, hJ, hNs, hce, hso⟩ := C
  exact fun H locs ls hP hS hl => lv_isub hx hb hd (k H locs ls hP hS hl)
theorem z_imul (C : CC Z cc Ts own G nL R l) {x y : Int32} (hd : decode cc pc = .ok (.imul, 1)) (hp : pc + 1 = pc') (k : Z sc ia la lv pc' (.int (x * y) :: st)) : Z sc ia la lv pc (.int y :: .int x :: st) := by
  subst hp
  obtain ⟨p, e, s, m, args, below, meth, c, ce, so, Q, rfl, hx, hb, hml, hown, hts, hK, hJ, hNs, hce, hso⟩ := C
  exact fun H locs ls hP hS hl => lv_imul hx hb hd (k H locs ls hP hS hl)
theorem z_idiv (C : CC Z cc Ts own G nL R l) {x y : Int32} (hd : decode cc pc = .ok (.idiv, 1)) (hne : ¬ y = 0) (hp : pc + 1 = pc') (k : Z sc ia la lv pc' (.int (x / y) :: st)) : Z sc ia la lv pc (.int y :: .int x :: st) := by
  subst hp
  obtain ⟨p, e, s, m, args, below, meth, c, ce, so, Q, rfl, hx, hb, hml, hown, hts, hK, hJ, hNs, hce, hso⟩ := C
  exact fun H locs ls hP hS hl => lv_idiv hx hb hd hne (k H locs ls hP hS hl)
theorem z_irem (C : CC Z cc Ts own G nL R l) {x y : Int32} (hd : decode cc pc = .ok (.irem, 1)) (hne : ¬ y = 0) (hp : pc + 1 = pc') (k : Z sc ia la lv pc' (.int (x - x / y * y) :: st)) : Z sc ia la lv pc (.int y :: .int x :: st) := by
  subst hp
  obtain ⟨p, e, s, m, args, below, meth, c, ce, so, Q, rfl, hx, hb, hml, hown, hts, hK, hJ, hNs, hce, hso⟩ := C
  exact fun H locs ls hP hS hl => lv_irem hx hb hd hne (k H locs ls hP hS hl)
theorem z_ineg (C : CC Z cc Ts own G nL R l) {x : Int32} (hd : decode cc pc = .ok (.ineg, 1)) (hp : pc + 1 = pc') (k : Z sc ia la lv pc' (.int (-x) :: st)) : Z sc ia la lv pc (.int x :: st) := by
  subst hp
  obtain ⟨p, e, s, m, args, below, meth, c, ce, so, Q, rfl, hx, hb, hml, hown, hts, hK, hJ, hNs, hce, hso⟩ := C
  exact fun H locs ls hP hS hl => lv_ineg hx hb hd (k H locs ls hP hS hl)
theorem z_ladd (C : CC Z cc Ts own G nL R l) {x y : Int64} (hd : decode cc pc = .ok (.ladd, 1)) (hp : pc + 1 = pc') (k : Z sc ia la lv pc' (.long (x + y) :: st)) : Z sc ia la lv pc (.long y :: .long x :: st) := by
  subst hp
  obtain ⟨p, e, s, m, args, below, meth, c, ce, so, Q, rfl, hx, hb, hml, hown, hts, hK, hJ, hNs, hce, hso⟩ := C
  exact fun H locs ls hP hS hl => lv_ladd hx hb hd (k H locs ls hP hS hl)
theorem z_lsub (C : CC Z cc Ts own G nL R l) {x y : Int64} (hd : decode cc pc = .ok (.lsub, 1)) (hp : pc + 1 = pc') (k : Z sc ia la lv pc' (.long (x - y) :: st)) : Z sc ia la lv pc (.long y :: .long x :: st) := by
  subst hp
  obtain ⟨p, e, s, m, args, below, meth, c, ce, so, Q, rfl, hx, hb, hml, hown, hts, hK, hJ, hNs, hce, hso⟩ := C
  exact fun H locs ls hP hS hl => lv_lsub hx hb hd (k H locs ls hP hS hl)
theorem z_lmul (C : CC Z cc Ts own G nL R l) {x y : Int64} (hd : decode cc pc = .ok (.lmul, 1)) (hp : pc + 1 = pc') (k : Z sc ia la lv pc' (.long (x * y) :: st)) : Z sc ia la lv pc (.long y :: .long x :: st) := by
  subst hp
  obtain ⟨p, e, s, m, args, below, meth, c, ce, so, Q, rfl, hx, hb, hml, hown, hts, hK, hJ, hNs, hce, hso⟩ := C
  exact fun H locs ls hP hS hl => lv_lmul hx hb hd (k H locs ls hP hS hl)
theorem z_ldiv (C : CC Z cc Ts own G nL R l) {x y : Int64} (hd : decode cc pc = .ok (.ldiv, 1)) (hne : ¬ y = 0) (hp : pc + 1 = pc') (k : Z sc ia la lv pc' (.long (x / y) :: st)) : Z sc ia la lv pc (.long y :: .long x :: st) := by
  subst hp
  obtain ⟨p, e, s, m, args, below, meth, c, ce, so, Q, rfl, hx, hb, hml, hown, hts, hK, hJ, hNs, hce, hso⟩ := C
  exact fun H locs ls hP hS hl => lv_ldiv hx hb hd hne (k H locs ls hP hS hl)
theorem z_lrem (C : CC Z cc Ts own G nL R l) {x y : Int64} (hd : decode cc pc = .ok (.lrem, 1)) (hne : ¬ y = 0) (hp : pc + 1 = pc') (k : Z sc ia la lv pc' (.long (x - x / y * y) :: st)) : Z sc ia la lv pc (.long y :: .long x :: st) := by
  subst hp
  obtain ⟨p, e, s, m, args, below, meth, c, ce, so, Q, rfl, hx, hb, hml, hown, hts, hK, hJ, hNs, hce, hso⟩ := C
  exact fun H locs ls hP hS hl => lv_lrem hx hb hd hne (k H locs ls hP hS hl)
theorem z_lneg (C : CC Z cc Ts own G nL R l) {x : Int64} (hd : decode cc pc = .ok (.lneg, 1)) (hp : pc + 1 = pc') (k : Z sc ia la lv pc' (.long (-x) :: st)) : Z sc ia la lv pc (.long x :: st) := by
  subst hp
  obtain ⟨p, e, s, m, args, below, meth, c, ce, so, Q, rfl, hx, hb, hml, hown, hts, hK, hJ, hNs, hce, hso⟩ := C
  exact fun H locs ls hP hS hl => lv_lneg hx hb hd (k H locs ls hP hS hl)
theorem z_iand (C : CC Z cc Ts own G nL R l) {x y : Int32} (hd : decode cc pc = .ok (.iand, 1)) (hp : pc + 1 = pc') (k : Z sc ia la lv pc' (.int (x &&& y) :: st)) : Z sc ia la lv pc (.int y :: .int x :: st) := by
  subst hp
  obtain ⟨p, e, s, m, args, below, meth, c, ce, so, Q, rfl, hx, hb, hml, hown, hts, hK, hJ, hNs, hce, hso⟩ := C
  exact fun H locs ls hP hS hl => lv_iand hx hb hd (k H locs ls hP hS hl)
theorem z_ixor (C : CC Z cc Ts own G nL R l) {x y : Int32} (hd : decode cc pc = .ok (.ixor, 1)) (hp : pc + 1 = pc') (k : Z sc ia la lv pc' (.int (x ^^^ y) :: st)) : Z sc ia la lv pc (.int y :: .int x :: st) := by
  subst hp
  obtain ⟨p, e, s, m, args, below, meth, c, ce, so, Q, rfl, hx, hb, hml, hown, hts, hK, hJ, hNs, hce, hso⟩ := C
  exact fun H locs ls hP hS hl => lv_ixor hx hb hd (k H locs ls hP hS hl)
theorem z_ishl (C : CC Z cc Ts own G nL R l) {x y : Int32} (hd : decode cc pc = .ok (.ishl, 1)) (hp : pc + 1 = pc') (k : Z sc ia la lv pc' (.int (x <<< (y &&& 31)) :: st)) : Z sc ia la lv pc (.int y :: .int x :: st) := by
  subst hp
  obtain ⟨p, e, s, m, args, below, meth, c, ce, so, Q, rfl, hx, hb, hml, hown, hts, hK, hJ, hNs, hce, hso⟩ := C
  exact fun H locs ls hP hS hl => lv_ishl hx hb hd (k H locs ls hP hS hl)
theorem z_iushr (C : CC Z cc Ts own G nL R l) {x y : Int32} (hd : decode cc pc = .ok (.iushr, 1)) (hp : pc + 1 = pc') (k : Z sc ia la lv pc' (.int ((x.toUInt32 >>> (y.toUInt32 &&& Int32.toUInt32 31)).toInt32) :: st)) : Z sc ia la lv pc (.int y :: .int x :: st) := by
  subst hp
  obtain ⟨p, e, s, m, args, below, meth, c, ce, so, Q, rfl, hx, hb, hml, hown, hts, hK, hJ, hNs, hce, hso⟩ := C
  exact fun H locs ls hP hS hl => lv_iushr hx hb hd rfl (k H locs ls hP hS hl)
theorem z_lshl (C : CC Z cc Ts own G nL R l) {x : Int64} {y : Int32} (hd : decode cc pc = .ok (.lshl, 1)) (hp : pc + 1 = pc') (k : Z sc ia la lv pc' (.long (x <<< (y.toInt64 &&& 63)) :: st)) : Z sc ia la lv pc (.int y :: .long x :: st) := by
  subst hp
  obtain ⟨p, e, s, m, args, below, meth, c, ce, so, Q, rfl, hx, hb, hml, hown, hts, hK, hJ, hNs, hce, hso⟩ := C
  exact fun H locs ls hP hS hl => lv_lshl hx hb hd rfl (k H locs ls hP hS hl)
theorem z_i2l (C : CC Z cc Ts own G nL R l) {x : Int32} (hd : decode cc pc = .ok (.i2l, 1)) (hp : pc + 1 = pc') (k : Z sc ia la lv pc' (.long x.toInt64 :: st)) : Z sc ia la lv pc (.int x :: st) := by
  subst hp
  obtain ⟨p, e, s, m, args, below, meth, c, ce, so, Q, rfl, hx, hb, hml, hown, hts, hK, hJ, hNs, hce, hso⟩ := C
  exact fun H locs ls hP hS hl => lv_i2l hx hb hd rfl (k H locs ls hP hS hl)
theorem z_l2i (C : CC Z cc Ts own G nL R l) {x : Int64} (hd : decode cc pc = .ok (.l2i, 1)) (hp : pc + 1 = pc') (k : Z sc ia la lv pc' (.int x.toInt32 :: st)) : Z sc ia la lv pc (.long x :: st) := by
  subst hp
  obtain ⟨p, e, s, m, args, below, meth, c, ce, so, Q, rfl, hx, hb, hml, hown, hts, hK, hJ, hNs, hce, hso⟩ := C
  exact fun H locs ls hP hS hl => lv_l2i hx hb hd rfl (k H locs ls hP hS hl)
theorem z_lcmp (C : CC Z cc Ts own G nL R l) {x y : Int64} (hd : decode cc pc = .ok (.lcmp, 1)) (hp : pc + 1 = pc') (k : Z sc ia la lv pc' (.int (lg_cmp x y) :: st)) : Z sc ia la lv pc (.long y :: .long x :: st) := by
  subst hp
  obtain ⟨p, e, s, m, args, below, meth, c, ce, so, Q, rfl, hx, hb, hml, hown, hts, hK, hJ, hNs, hce, hso⟩ := C
  exact fun H locs ls hP hS hl => W.lcmp hx hb hd (k H locs ls hP hS hl)
theorem z_dup (C : CC Z cc Ts own G nL R l) {va : Value} (hd : decode cc pc = .ok (.dup, 1)) (hva : va.category = 1) (hp : pc + 1 = pc') (k : Z sc ia la lv pc' (va :: va :: st)) : Z sc ia la lv pc (va :: st) := by
  subst hp
  obtain ⟨p, e, s, m, args, below, meth, c, ce, so, Q, rfl, hx, hb, hml, hown, hts, hK, hJ, hNs, hce, hso⟩ := C
  exact fun H locs ls hP hS hl => lv_dup hx hb hd hva (k H locs ls hP hS hl)
theorem z_dup2 (C : CC Z cc Ts own G nL R l) {va vb : Value} (hd : decode cc pc = .ok (.dup2, 1)) (hva : va.category = 1) (hvb : vb.category = 1) (hp : pc + 1 = pc') (k : Z sc ia la lv pc' (va :: vb :: va :: vb :: st)) : Z sc ia la lv pc (va :: vb :: st) := by
  subst hp
  obtain ⟨p, e, s, m, args, below, meth, c, ce, so, Q, rfl, hx, hb, hml, hown, hts, hK, hJ, hNs, hce, hso⟩ := C
  exact fun H locs ls hP hS hl => lv_dup2_11 hx hb hd hva hvb (k H locs ls hP hS hl)
theorem z_sub (C : CC Z cc Ts own G nL R l) (ks : List Nat) (hl9 : lv_pick lv ks = lv') (k : Z sc ia la lv' pc st) : Z sc ia la lv pc st := by
  obtain ⟨p, e, s, m, args, below, meth, c, ce, so, Q, rfl, hx, hb, hml, hown, hts, hK, hJ, hNs, hce, hso⟩ := C
  exact fun H locs ls hP hS hl => k H locs ls hP hS (lv_sub hl ks hl9)
theorem z_goto (C : CC Z cc Ts own G nL R l) {off : Int} (hd : decode cc pc = .ok (.goto off, 3)) (ht : (pc : Int) + off = (pc' : Int)) (k : Z sc ia la lv pc' st) : Z sc ia la lv pc st := by
  obtain ⟨p, e, s, m, args, below, meth, c, ce, so, Q, rfl, hx, hb, hml, hown, hts, hK, hJ, hNs, hce, hso⟩ := C
  exact fun H locs ls hP hS hl => lv_goto hx hb hd ht (k H locs ls hP hS hl)
theorem z_if_eq (C : CC Z cc Ts own G nL R l) {x : Int32} {off : Int} (tgt : Nat) (hd : decode cc pc = .ok (.ifCond .eq off, 3)) (ht : (pc : Int) + off = (tgt : Int)) (hp : pc + 3 = pc') (kt : x = 0 → Z sc ia la lv tgt st) (kf : ¬ x = 0 → Z sc ia la lv pc' st) : Z sc ia la lv pc (.int x :: st) := by
  subst hp
  obtain ⟨p, e, s, m, args, below, meth, c, ce, so, Q, rfl, hx, hb, hml, hown, hts, hK, hJ, hNs, hce, hso⟩ := C
  exact fun H locs ls hP hS hl => lv_if_eq hx hb hd ht (fun h => kt h H locs ls hP hS hl) (fun h => kf h H locs ls hP hS hl)
theorem z_icmp_eq (C : CC Z cc Ts own G nL R l) {x y : Int32} {off : Int} (tgt : Nat) (hd : decode cc pc = .ok (.if_icmp .eq off, 3)) (ht : (pc : Int) + off = (tgt : Int)) (hp : pc + 3 = pc') (kt : x = y → Z sc ia la lv tgt st) (kf : ¬ x = y → Z sc ia la lv pc' st) : Z sc ia la lv pc (.int y :: .int x :: st) := by
  subst hp
  obtain ⟨p, e, s, m, args, below, meth, c, ce, so, Q, rfl, hx, hb, hml, hown, hts, hK, hJ, hNs, hce, hso⟩ := C
  exact fun H locs ls hP hS hl => lv_icmp_eq hx hb hd ht (fun h => kt h H locs ls hP hS hl) (fun h => kf h H locs ls hP hS hl)
theorem z_if_ne (C : CC Z cc Ts own G nL R l) {x : Int32} {off : Int} (tgt : Nat) (hd : decode cc pc = .ok (.ifCond .ne off, 3)) (ht : (pc : Int) + off = (tgt : Int)) (hp : pc + 3 = pc') (kt : ¬ x = 0 → Z sc ia la lv tgt st) (kf : x = 0 → Z sc ia la lv pc' st) : Z sc ia la lv pc (.int x :: st) := by
  subst hp
  obtain ⟨p, e, s, m, args, below, meth, c, ce, so, Q, rfl, hx, hb, hml, hown, hts, hK, hJ, hNs, hce, hso⟩ := C
  exact fun H locs ls hP hS hl => lv_if_ne hx hb hd ht (fun h => kt h H locs ls hP hS hl) (fun h => kf h H locs ls hP hS hl)
theorem z_icmp_ne (C : CC Z cc Ts own G nL R l) {x y : Int32} {off : Int} (tgt : Nat) (hd : decode cc pc = .ok (.if_icmp .ne off, 3)) (ht : (pc : Int) + off = (tgt : Int)) (hp : pc + 3 = pc') (kt : ¬ x = y → Z sc ia la lv tgt st) (kf : x = y → Z sc ia la lv pc' st) : Z sc ia la lv pc (.int y :: .int x :: st) := by
  subst hp
  obtain ⟨p, e, s, m, args, below, meth, c, ce, so, Q, rfl, hx, hb, hml, hown, hts, hK, hJ, hNs, hce, hso⟩ := C
  exact fun H locs ls hP hS hl => lv_icmp_ne hx hb hd ht (fun h => kt h H locs ls hP hS hl) (fun h => kf h H locs ls hP hS hl)
theorem z_if_lt (C : CC Z cc Ts own G nL R l) {x : Int32} {off : Int} (tgt : Nat) (hd : decode cc pc = .ok (.ifCond .lt off, 3)) (ht : (pc : Int) + off = (tgt : Int)) (hp : pc + 3 = pc') (kt : x < 0 → Z sc ia la lv tgt st) (kf : ¬ x < 0 → Z sc ia la lv pc' st) : Z sc ia la lv pc (.int x :: st) := by
  subst hp
  obtain ⟨p, e, s, m, args, below, meth, c, ce, so, Q, rfl, hx, hb, hml, hown, hts, hK, hJ, hNs, hce, hso⟩ := C
  exact fun H locs ls hP hS hl => lv_if_lt hx hb hd ht (fun h => kt h H locs ls hP hS hl) (fun h => kf h H locs ls hP hS hl)
theorem z_icmp_lt (C : CC Z cc Ts own G nL R l) {x y : Int32} {off : Int} (tgt : Nat) (hd : decode cc pc = .ok (.if_icmp .lt off, 3)) (ht : (pc : Int) + off = (tgt : Int)) (hp : pc + 3 = pc') (kt : x < y → Z sc ia la lv tgt st) (kf : ¬ x < y → Z sc ia la lv pc' st) : Z sc ia la lv pc (.int y :: .int x :: st) := by
  subst hp
  obtain ⟨p, e, s, m, args, below, meth, c, ce, so, Q, rfl, hx, hb, hml, hown, hts, hK, hJ, hNs, hce, hso⟩ := C
  exact fun H locs ls hP hS hl => lv_icmp_lt hx hb hd ht (fun h => kt h H locs ls hP hS hl) (fun h => kf h H locs ls hP hS hl)
theorem z_if_ge (C : CC Z cc Ts own G nL R l) {x : Int32} {off : Int} (tgt : Nat) (hd : decode cc pc = .ok (.ifCond .ge off, 3)) (ht : (pc : Int) + off = (tgt : Int)) (hp : pc + 3 = pc') (kt : 0 ≤ x → Z sc ia la lv tgt st) (kf : ¬ 0 ≤ x → Z sc ia la lv pc' st) : Z sc ia la lv pc (.int x :: st) := by
  subst hp
  obtain ⟨p, e, s, m, args, below, meth, c, ce, so, Q, rfl, hx, hb, hml, hown, hts, hK, hJ, hNs, hce, hso⟩ := C
  exact fun H locs ls hP hS hl => lv_if_ge hx hb hd ht (fun h => kt h H locs ls hP hS hl) (fun h => kf h H locs ls hP hS hl)
theorem z_icmp_ge (C : CC Z cc Ts own G nL R l) {x y : Int32} {off : Int} (tgt : Nat) (hd : decode cc pc = .ok (.if_icmp .ge off, 3)) (ht : (pc : Int) + off = (tgt : Int)) (hp : pc + 3 = pc') (kt : y ≤ x → Z sc ia la lv tgt st) (kf : ¬ y ≤ x → Z sc ia la lv pc' st) : Z sc ia la lv pc (.int y :: .int x :: st) := by
  subst hp
  obtain ⟨p, e, s, m, args, below, meth, c, ce, so, Q, rfl, hx, hb, hml, hown, hts, hK, hJ, hNs, hce, hso⟩ := C
  exact fun H locs ls hP hS hl => lv_icmp_ge hx hb hd ht (fun h => kt h H locs ls hP hS hl) (fun h => kf h H locs ls hP hS hl)
theorem z_if_gt (C : CC Z cc Ts own G nL R l) {x : Int32} {off : Int} (tgt : Nat) (hd : decode cc pc = .ok (.ifCond .gt off, 3)) (ht : (pc : Int) + off = (tgt : Int)) (hp : pc + 3 = pc') (kt : 0 < x → Z sc ia la lv tgt st) (kf : ¬ 0 < x → Z sc ia la lv pc' st) : Z sc ia la lv pc (.int x :: st) := by
  subst hp
  obtain ⟨p, e, s, m, args, below, meth, c, ce, so, Q, rfl, hx, hb, hml, hown, hts, hK, hJ, hNs, hce, hso⟩ := C
  exact fun H locs ls hP hS hl => lv_if_gt hx hb hd ht (fun h => kt h H locs ls hP hS hl) (fun h => kf h H locs ls hP hS hl)
theorem z_icmp_gt (C : CC Z cc Ts own G nL R l) {x y : Int32} {off : Int} (tgt : Nat) (hd : decode cc pc = .ok (.if_icmp .gt off, 3)) (ht : (pc : Int) + off = (tgt : Int)) (hp : pc + 3 = pc') (kt : y < x → Z sc ia la lv tgt st) (kf : ¬ y < x → Z sc ia la lv pc' st) : Z sc ia la lv pc (.int y :: .int x :: st) := by
  subst hp
  obtain ⟨p, e, s, m, args, below, meth, c, ce, so, Q, rfl, hx, hb, hml, hown, hts, hK, hJ, hNs, hce, hso⟩ := C
  exact fun H locs ls hP hS hl => lv_icmp_gt hx hb hd ht (fun h => kt h H locs ls hP hS hl) (fun h => kf h H locs ls hP hS hl)
theorem z_if_le (C : CC Z cc Ts own G nL R l) {x : Int32} {off : Int} (tgt : Nat) (hd : decode cc pc = .ok (.ifCond .le off, 3)) (ht : (pc : Int) + off = (tgt : Int)) (hp : pc + 3 = pc') (kt : x ≤ 0 → Z sc ia la lv tgt st) (kf : ¬ x ≤ 0 → Z sc ia la lv pc' st) : Z sc ia la lv pc (.int x :: st) := by
  subst hp
  obtain ⟨p, e, s, m, args, below, meth, c, ce, so, Q, rfl, hx, hb, hml, hown, hts, hK, hJ, hNs, hce, hso⟩ := C
  exact fun H locs ls hP hS hl => lv_if_le hx hb hd ht (fun h => kt h H locs ls hP hS hl) (fun h => kf h H locs ls hP hS hl)
theorem z_icmp_le (C : CC Z cc Ts own G nL R l) {x y : Int32} {off : Int} (tgt : Nat) (hd : decode cc pc = .ok (.if_icmp .le off, 3)) (ht : (pc : Int) + off = (tgt : Int)) (hp : pc + 3 = pc') (kt : x ≤ y → Z sc ia la lv tgt st) (kf : ¬ x ≤ y → Z sc ia la lv pc' st) : Z sc ia la lv pc (.int y :: .int x :: st) := by
  subst hp
  obtain ⟨p, e, s, m, args, below, meth, c, ce, so, Q, rfl, hx, hb, hml, hown, hts, hK, hJ, hNs, hce, hso⟩ := C
  exact fun H locs ls hP hS hl => lv_icmp_le hx hb hd ht (fun h => kt h H locs ls hP hS hl) (fun h => kf h H locs ls hP hS hl)
theorem z_icmpN_ge (C : CC Z cc Ts own G nL R l) {a b : Nat} {off : Int} (tgt : Nat) (ha9 : a < 2 ^ 31) (hb9 : b < 2 ^ 31) (hd : decode cc pc = .ok (.if_icmp .ge off, 3)) (ht : (pc : Int) + off = (tgt : Int)) (hp : pc + 3 = pc') (kt : b ≤ a → Z sc ia la lv tgt st) (kf : a < b → Z sc ia la lv pc' st) : Z sc ia la lv pc (.int (nI b) :: .int (nI a) :: st) := z_icmp_ge C tgt hd ht hp (fun h => kt ((nI_leI hb9 ha9).mp h)) (fun h => kf (Nat.not_le.mp (fun q => h ((nI_leI hb9 ha9).mpr q))))
theorem z_icmpN_lt (C : CC Z cc Ts own G nL R l) {a b : Nat} {off : Int} (tgt : Nat) (ha9 : a < 2 ^ 31) (hb9 : b < 2 ^ 31) (hd : decode cc pc = .ok (.if_icmp .lt off, 3)) (ht : (pc : Int) + off = (tgt : Int)) (hp : pc + 3 = pc') (kt : a < b → Z sc ia la lv tgt st) (kf : b ≤ a → Z sc ia la lv pc' st) : Z sc ia la lv pc (.int (nI b) :: .int (nI a) :: st) := z_icmp_lt C tgt hd ht hp (fun h => kt ((nI_ltI ha9 hb9).mp h)) (fun h => kf (Nat.not_lt.mp (fun q => h ((nI_ltI ha9 hb9).mpr q))))
theorem z_icmpN_gt (C : CC Z cc Ts own G nL R l) {a b : Nat} {off : Int} (tgt : Nat) (ha9 : a < 2 ^ 31) (hb9 : b < 2 ^ 31) (hd : decode cc pc = .ok (.if_icmp .gt off, 3)) (ht : (pc : Int) + off = (tgt : Int)) (hp : pc + 3 = pc') (kt : b < a → Z sc ia la lv tgt st) (kf : a ≤ b → Z sc ia la lv pc' st) : Z sc ia la lv pc (.int (nI b) :: .int (nI a) :: st) := z_icmp_gt C tgt hd ht hp (fun h => kt ((nI_ltI hb9 ha9).mp h)) (fun h => kf (Nat.not_lt.mp (fun q => h ((nI_ltI hb9 ha9).mpr q))))
theorem z_icmpN_le (C : CC Z cc Ts own G nL R l) {a b : Nat} {off : Int} (tgt : Nat) (ha9 : a < 2 ^ 31) (hb9 : b < 2 ^ 31) (hd : decode cc pc = .ok (.if_icmp .le off, 3)) (ht : (pc : Int) + off = (tgt : Int)) (hp : pc + 3 = pc') (kt : a ≤ b → Z sc ia la lv tgt st) (kf : b < a → Z sc ia la lv pc' st) : Z sc ia la lv pc (.int (nI b) :: .int (nI a) :: st) := z_icmp_le C tgt hd ht hp (fun h => kt ((nI_leI ha9 hb9).mp h)) (fun h => kf (Nat.not_le.mp (fun q => h ((nI_leI ha9 hb9).mpr q))))
theorem z_icmpN_eq (C : CC Z cc Ts own G nL R l) {a b : Nat} {off : Int} (tgt : Nat) (ha9 : a < 2 ^ 31) (hb9 : b < 2 ^ 31) (hd : decode cc pc = .ok (.if_icmp .eq off, 3)) (ht : (pc : Int) + off = (tgt : Int)) (hp : pc + 3 = pc') (kt : a = b → Z sc ia la lv tgt st) (kf : ¬ a = b → Z sc ia la lv pc' st) : Z sc ia la lv pc (.int (nI b) :: .int (nI a) :: st) := z_icmp_eq C tgt hd ht hp (fun h => kt ((nI_eq ha9 hb9).mp h)) (fun h => kf (fun q => h ((nI_eq ha9 hb9).mpr q)))
theorem z_icmpN_ne (C : CC Z cc Ts own G nL R l) {a b : Nat} {off : Int} (tgt : Nat) (ha9 : a < 2 ^ 31) (hb9 : b < 2 ^ 31) (hd : decode cc pc = .ok (.if_icmp .ne off, 3)) (ht : (pc : Int) + off = (tgt : Int)) (hp : pc + 3 = pc') (kt : ¬ a = b → Z sc ia la lv tgt st) (kf : a = b → Z sc ia la lv pc' st) : Z sc ia la lv pc (.int (nI b) :: .int (nI a) :: st) := z_icmp_ne C tgt hd ht hp (fun h => kt (fun q => h ((nI_eq ha9 hb9).mpr q))) (fun h => kf ((nI_eq ha9 hb9).mp h))
theorem z_ifB_eq (C : CC Z cc Ts own G nL R l) {b : Bool} {off : Int} (tgt : Nat) (hd : decode cc pc = .ok (.ifCond .eq off, 3)) (ht : (pc : Int) + off = (tgt : Int)) (hp : pc + 3 = pc') (kt : b = false → Z sc ia la lv tgt st) (kf : b = true → Z sc ia la lv pc' st) : Z sc ia la lv pc (.int (bI b) :: st) := z_if_eq C tgt hd ht hp (fun h => kt ((bI_eq0 b).mp h)) (fun h => kf (by cases b with | true => rfl | false => exact absurd rfl h))
theorem z_ifB_ne (C : CC Z cc Ts own G nL R l) {b : Bool} {off : Int} (tgt : Nat) (hd : decode cc pc = .ok (.ifCond .ne off, 3)) (ht : (pc : Int) + off = (tgt : Int)) (hp : pc + 3 = pc') (kt : b = true → Z sc ia la lv tgt st) (kf : b = false → Z sc ia la lv pc' st) : Z sc ia la lv pc (.int (bI b) :: st) := z_if_ne C tgt hd ht hp (fun h => kt (by cases b with | true => rfl | false => exact absurd rfl h)) (fun h => kf ((bI_eq0 b).mp h))
theorem z_tableIn (C : CC Z cc Ts own G nL R l) {dflt lo hi : Int} {offs : Array Int} {len : Nat} {x : Int32} {off : Int} (tgt : Nat) (hd : decode cc pc = .ok (.tableswitch dflt lo hi offs, len)) (h1 : ¬ x.toInt < lo) (h2 : ¬ hi < x.toInt) (ho : offs[(x.toInt - lo).toNat]? = some off) (ht : (pc : Int) + off = (tgt : Int)) (k : Z sc ia la lv tgt st) : Z sc ia la lv pc (.int x :: st) := by
  obtain ⟨p, e, s, m, args, below, meth, c, ce, so, Q, rfl, hx, hb, hml, hown, hts, hK, hJ, hNs, hce, hso⟩ := C
  exact fun H locs ls hP hS hl => lv_tableIn hx hb hd h1 h2 ho ht (k H locs ls hP hS hl)
theorem z_tableOut (C : CC Z cc Ts own G nL R l) {dflt lo hi : Int} {offs : Array Int} {len : Nat} {x : Int32} (tgt : Nat) (hd : decode cc pc = .ok (.tableswitch dflt lo hi offs, len)) (h : x.toInt < lo ∨ hi < x.toInt) (ht : (pc : Int) + dflt = (tgt : Int)) (k : Z sc ia la lv tgt st) : Z sc ia la lv pc (.int x :: st) := by
  obtain ⟨p, e, s, m, args, below, meth, c, ce, so, Q, rfl, hx, hb, hml, hown, hts, hK, hJ, hNs, hce, hso⟩ := C
  exact fun H locs ls hP hS hl => lv_tableOut hx hb hd h ht (k H locs ls hP hS hl)
theorem z_get (C : CC Z cc Ts own G nL R l) {C9 : String} {T : u_T} {N ci index : Nat} (hin : ∀ w ∈ u_ws C9 T N, w ∈ Ts) (q : Nat) (hq : q < 86) {fs : List Value} (he : q_val G sc ia la q = .inr (ci, fs)) (hc : vwCl[ci]? = some (C9, T, N)) (j : Nat) (hj : j < N) (hlink : Cond.fieldLink own index (T j).1 (T j).2.1 (T j).2.2.1 ∈ Ts) {v : Value} (hv : fs[j]? = some v) (hd : decode cc pc = .ok (.getfield index, 3)) (hp : pc + 3 = pc') (k : Z sc ia la lv pc' (v :: st)) : Z sc ia la lv pc (.ref (G.2.1 q) :: st) := by
  subst hp
  obtain ⟨p, e, s, m, args, below, meth, c, ce, so, Q, rfl, hx, hb, hml, hown, hts, hK, hJ, hNs, hce, hso⟩ := C
  exact fun H locs ls hP hS hl => va_get (ref := (T j).1) hx hb hts hin hown hK hP q (q_atE hq he) hc j hj (hts _ hlink) (fun _ h9 => h9) hv hd (k H locs ls hP hS hl)
theorem z_put (C : CC Z cc Ts own G nL R l) {C9 : String} {T : u_T} {N ci index : Nat} (hin : ∀ w ∈ u_ws C9 T N, w ∈ Ts) (ty0 : Nat → FieldType) (hty : ∀ k, k < N → parseFieldDescriptor (T k).2.2.1 = some (ty0 k)) (hnm : ∀ a, a < N → ∀ b, b < N → a ≠ b → (T a).2.1 ≠ (T b).2.1) (q : Nat) (hq : q < 86) {fs : List Value} (he : q_val G sc ia la q = .inr (ci, fs)) (hc : vwCl[ci]? = some (C9, T, N)) (j : Nat) (hj : j < N) (hlink : Cond.fieldLink own index (T j).1 (T j).2.1 (T j).2.2.1 ∈ Ts) (hfin : (T j).2.2.2 = false) {v : Int32} (hdt : parseFieldDescriptor (T j).2.2.1 = some .int) (hlen : j < fs.length) (hu : va_up (q_val G sc ia la) q (.inr (ci, fs.set j (.int v))) = q_val G sc' ia' la') (hd : decode cc pc = .ok (.putfield index, 3)) (hp : pc + 3 = pc') (k : Z sc' ia' la' lv pc' st) : Z sc ia la lv pc (.int v :: .ref (G.2.1 q) :: st) := by
  subst hp
  obtain ⟨p, e, s, m, args, below, meth, c, ce, so, Q, rfl, hx, hb, hml, hown, hts, hK, hJ, hNs, hce, hso⟩ := C
  exact fun H locs ls hP hS hl => va_put (ref := (T j).1) hx hb hts hin ty0 hty hnm hown hK hP (q_D hJ) hS q (q_atE hq he) hc j hj (hts _ hlink) (fun _ h9 => h9) hfin hdt rfl rfl hlen hd (fun H1 locs1 hP1 _ hS1 => k H1 locs1 ls (by rw [q_set hq hu] at hP1; exact hP1) hS1 hl)
theorem z_iald (C : CC Z cc Ts own G nL R l) (q : Nat) (hq : q < 86) {N i : Nat} {f : Nat → Int32} (he : q_val G sc ia la q = .inl (G.2.2 0, N, .inl f)) (hi : i < N) (hN : N < 2 ^ 31) (hd : decode cc pc = .ok (.iaload, 1)) (hp : pc + 1 = pc') (k : Z sc ia la lv pc' (.int (f i) :: st)) : Z sc ia la lv pc (.int (nI i) :: .ref (G.2.1 q) :: st) := by
  subst hp
  obtain ⟨p, e, s, m, args, below, meth, c, ce, so, Q, rfl, hx, hb, hml, hown, hts, hK, hJ, hNs, hce, hso⟩ := C
  refine fun H locs ls hP hS hl => va_iald hx hb hK hP q 0 (q_atE hq he) rfl (vp_in_nI hi hN) hd ?_
  rw [nI_clamp (Nat.lt_trans hi hN)]
  exact k H locs ls hP hS hl
theorem z_zald (C : CC Z cc Ts own G nL R l) (q : Nat) (hq : q < 86) {N i : Nat} {f : Nat → Int32} (he : q_val G sc ia la q = .inl (G.2.2 2, N, .inl f)) (hi : i < N) (hN : N < 2 ^ 31) (hd : decode cc pc = .ok (.baload, 1)) (hp : pc + 1 = pc') (k : Z sc ia la lv pc' (.int (f i) :: st)) : Z sc ia la lv pc (.int (nI i) :: .ref (G.2.1 q) :: st) := by
  subst hp
  obtain ⟨p, e, s, m, args, below, meth, c, ce, so, Q, rfl, hx, hb, hml, hown, hts, hK, hJ, hNs, hce, hso⟩ := C
  refine fun H locs ls hP hS hl => va_zald hx hb hK hP q 2 (q_atE hq he) rfl (vp_in_nI hi hN) hd ?_
  rw [nI_clamp (Nat.lt_trans hi hN)]
  exact k H locs ls hP hS hl
theorem z_lald (C : CC Z cc Ts own G nL R l) (q : Nat) (hq : q < 86) {N i : Nat} {f : Nat → Int64} (he : q_val G sc ia la q = .inl (G.2.2 1, N, .inr (.inl f))) (hi : i < N) (hN : N < 2 ^ 31) (hd : decode cc pc = .ok (.laload, 1)) (hp : pc + 1 = pc') (k : Z sc ia la lv pc' (.long (f i) :: st)) : Z sc ia la lv pc (.int (nI i) :: .ref (G.2.1 q) :: st) := by
  subst hp
  obtain ⟨p, e, s, m, args, below, meth, c, ce, so, Q, rfl, hx, hb, hml, hown, hts, hK, hJ, hNs, hce, hso⟩ := C
  refine fun H locs ls hP hS hl => va_lald hx hb hK hP q 1 (q_atE hq he) rfl (vp_in_nI hi hN) hd ?_
  rw [nI_clamp (Nat.lt_trans hi hN)]
  exact k H locs ls hP hS hl
theorem z_aald (C : CC Z cc Ts own G nL R l) (q : Nat) (hq : q < 86) {N i t0 : Nat} {ty : FieldType} {f : Nat → Option Nat} (hT : (q_T G)[t0]? = some (G.2.2 t0, .array ty)) (he : q_val G sc ia la q = .inl (G.2.2 t0, N, .inr (.inr (.inr (.inr f))))) (hi : i < N) (hN : N < 2 ^ 31) {a : Nat} (hf : f i = some a) (hd : decode cc pc = .ok (.aaload, 1)) (hp : pc + 1 = pc') (k : Z sc ia la lv pc' (.ref a :: st)) : Z sc ia la lv pc (.int (nI i) :: .ref (G.2.1 q) :: st) := by
  subst hp
  obtain ⟨p, e, s, m, args, below, meth, c, ce, so, Q, rfl, hx, hb, hml, hown, hts, hK, hJ, hNs, hce, hso⟩ := C
  have hin : vp_in (nI i) N := vp_in_nI hi hN
  have hc : (nI i).toNatClampNeg = i := nI_clamp (Nat.lt_trans hi hN)
  refine fun H locs ls hP hS hl => W.aald (v := .ref a) (ty := .array ty) hx hb (hP q _ (q_atE hq he)) ((hK.2 t0 _ hT).1 N (fun j => va_rf (f j))) rfl (fun q => by cases q) (by show ¬ (nI i < 0 ∨ (arrV _ _ _).slots.size ≤ _); rw [arrV_size]; exact hin) (by show (arrV _ _ _).slots[_]? = _; rw [hc, arrV_read _ _ hi]; rw [hf]; rfl) rfl rfl hd (k H locs ls hP hS hl)
theorem z_iast (C : CC Z cc Ts own G nL R l) (q : Nat) (hq : q < 86) {N i : Nat} {f : Nat → Int32} {x : Int32} (he : q_val G sc ia la q = .inl (G.2.2 0, N, .inl f)) (hi : i < N) (hN : N < 2 ^ 31) (hu : va_up (q_val G sc ia la) q (.inl (G.2.2 0, N, .inl (upd f i x))) = q_val G sc' ia' la') (hd : decode cc pc = .ok (.iastore, 1)) (hp : pc + 1 = pc') (k : Z sc' ia' la' lv pc' st) : Z sc ia la lv pc (.int x :: .int (nI i) :: .ref (G.2.1 q) :: st) := by
  subst hp
  obtain ⟨p, e, s, m, args, below, meth, c, ce, so, Q, rfl, hx, hb, hml, hown, hts, hK, hJ, hNs, hce, hso⟩ := C
  refine fun H locs ls hP hS hl => va_iast hx hb hK hP (q_D hJ) hS q 0 (q_atE hq he) rfl (vp_in_nI hi hN) hd (fun H1 locs1 hP1 _ hS1 => ?_)
  rw [nI_clamp (Nat.lt_trans hi hN), q_set hq hu] at hP1
  exact k H1 locs1 ls hP1 hS1 hl
theorem z_zast (C : CC Z cc Ts own G nL R l) (q : Nat) (hq : q < 86) {N i : Nat} {f : Nat → Int32} {x : Int32} (hx9 : vp_nar .boolean x = x) (he : q_val G sc ia la q = .inl (G.2.2 2, N, .inl f)) (hi : i < N) (hN : N < 2 ^ 31) (hu : va_up (q_val G sc ia la) q (.inl (G.2.2 2, N, .inl (upd f i x))) = q_val G sc' ia' la') (hd : decode cc pc = .ok (.bastore, 1)) (hp : pc + 1 = pc') (k : Z sc' ia' la' lv pc' st) : Z sc ia la lv pc (.int x :: .int (nI i) :: .ref (G.2.1 q) :: st) := by
  subst hp
  obtain ⟨p, e, s, m, args, below, meth, c, ce, so, Q, rfl, hx, hb, hml, hown, hts, hK, hJ, hNs, hce, hso⟩ := C
  refine fun H locs ls hP hS hl => va_zast hx hb hK hP (q_D hJ) hS q 2 (q_atE hq he) rfl (vp_in_nI hi hN) hd (fun H1 locs1 hP1 _ hS1 => ?_)
  rw [nI_clamp (Nat.lt_trans hi hN), hx9, q_set hq hu] at hP1
  exact k H1 locs1 ls hP1 hS1 hl
theorem z_last (C : CC Z cc Ts own G nL R l) (q : Nat) (hq : q < 86) {N i : Nat} {f : Nat → Int64} {x : Int64} (he : q_val G sc ia la q = .inl (G.2.2 1, N, .inr (.inl f))) (hi : i < N) (hN : N < 2 ^ 31) (hu : va_up (q_val G sc ia la) q (.inl (G.2.2 1, N, .inr (.inl (vp_updL f i x)))) = q_val G sc' ia' la') (hd : decode cc pc = .ok (.lastore, 1)) (hp : pc + 1 = pc') (k : Z sc' ia' la' lv pc' st) : Z sc ia la lv pc (.long x :: .int (nI i) :: .ref (G.2.1 q) :: st) := by
  subst hp
  obtain ⟨p, e, s, m, args, below, meth, c, ce, so, Q, rfl, hx, hb, hml, hown, hts, hK, hJ, hNs, hce, hso⟩ := C
  refine fun H locs ls hP hS hl => va_last hx hb hK hP (q_D hJ) hS q 1 (q_atE hq he) rfl (vp_in_nI hi hN) hd (fun H1 locs1 hP1 _ hS1 => ?_)
  rw [nI_clamp (Nat.lt_trans hi hN), q_set hq hu] at hP1
  exact k H1 locs1 ls hP1 hS1 hl
theorem z_alen (C : CC Z cc Ts own G nL R l) (q : Nat) (hq : q < 86) {N t0 : Nat} {ty : FieldType} {z : (Nat → Int32) ⊕ (Nat → Int64) ⊕ (Nat → UInt32) ⊕ (Nat → UInt64) ⊕ (Nat → Option Nat)} (hT : (q_T G)[t0]? = some (G.2.2 t0, ty)) (he : q_val G sc ia la q = .inl (G.2.2 t0, N, z)) (hd : decode cc pc = .ok (.arraylength, 1)) (hp : pc + 1 = pc') (k : Z sc ia la lv pc' (.int (nI N) :: st)) : Z sc ia la lv pc (.ref (G.2.1 q) :: st) := by
  subst hp
  obtain ⟨p, e, s, m, args, below, meth, c, ce, so, Q, rfl, hx, hb, hml, hown, hts, hK, hJ, hNs, hce, hso⟩ := C
  exact fun H locs ls hP hS hl => va_alen hx hb hK hP q t0 (q_atE hq he) hT rfl hd (k H locs ls hP hS hl)
theorem z_cV (C : CC Z cc Ts own G nL R l) {y : MethodName} {ws ws' : List Cond} {rm : Room} {bytes : ByteArray} {maxL index n : Nat} {rt : Option FieldType} {As rest : List Value} {Fn : FinT} {C9 : String} {T : u_T} {N ci : Nat} {fs : List Value} (q : Nat) (hM : Ct l y ws rm G (.ref (G.2.1 q) :: As) sc ia la Fn) (hg : GoodIn Ts (wsV own index C9 y ws)) (hw : ws = Cond.code y bytes maxL rt :: ws') (hrc : rm.cells = 0) (hrs : rm.slots = 0) (hyC : y.cls = C9) (hd9 : y.cls ≠ "java/lang/invoke/MethodHandle" ∧ y.cls ≠ "java/lang/invoke/VarHandle" ∧ (parseMethodDescriptor y.desc).map (fun d => d.parameters.length) = some n) (hR : rm.frames + 1 ≤ R.frames ∧ 8 + (maxL + 11) + rm.locals ≤ R.locals) (hn : As.length = n) (hq : q < 86) (he : q_val G sc ia la q = .inr (ci, fs)) (hc : vwCl[ci]? = some (C9, T, N)) (hst : st = As.reverse ++ .ref (G.2.1 q) :: rest) (hd : decode cc pc = .ok (.invokevirtual index, 3)) (hroom : (rest.map fun v => v.category).sum ≤ 8) (hp : pc + 3 = pc') (kk : ∀ (v : Option Value) (sc' : Sc) (ia' : Ia) (la' : La), Fn v sc' ia' la' → Z sc' ia' la' lv pc' (v.toList ++ rest)) : Z sc ia la lv pc st := by
  subst hp
  obtain ⟨p, e, s, m, args, below, meth, c, ce, so, Q, rfl, hx, hb, hml, hown, hts, hK, hJ, hNs, hce, hso⟩ := C
  intro H locs ls hP hS hl
  have hr := va_runV (b := G.2.1 q) (As := As) (rest := rest) (g := F0 m pc ls st) (e := e) (below := below) (meth := meth) (locs := locs) (cells := ce) (slots := so) ⟨hx, hb, hml, hown, hts⟩ hM (cwV n hts hg hw hrc hrs ⟨hyC, hd9⟩ hR) ⟨fun a U g mk q => by obtain ⟨q0, qP, qK, qJ, qN9⟩ := q; exact ⟨q0, qP, va_K.moved (u := U) (U := U.calling g mk a) (Vm.Alike.refl U.vm) qK, qJ, fun x hx => va_Nw.same (u := U) rfl rfl (qN9 x hx)⟩, va_recv hK hP hc (q_atE hq he), fun U hU hW => ⟨rfl, InW.moved hK hJ hNs hP hU hW⟩⟩ rfl hn hl.1 hst (lv_room hroom) hd ⟨hce, hso⟩
  intro T hT X
  obtain ⟨v, st₀, t, T', L, h0, X', hL, e1, e2, ⟨⟨v9, sc9, ia9, la9, hv, hF, hI⟩, hz, hkp⟩, sp⟩ := hr T hT X
  cases hv
  rw [h0] at hz hkp
  obtain ⟨t2, a1, b1⟩ := kk v sc9 ia9 la9 hF T'.heap (locs ++ L) ls (by rw [e1]; exact hI.1) ⟨Nat.le_trans hS.1 (by rw [e1]; exact hz), fun q h1 h2 => by rw [e1, hkp q (Nat.lt_of_lt_of_le h1 hS.1) h2]; exact hS.2.1 q h1 h2, fun q hq => by
      rcases List.mem_append.mp hq with h | h
      · exact hS.2.2 q h
      · exact hL q h⟩ hl T' rfl X'
  exact ⟨t2, sp t2 a1, b1⟩
theorem z_cS (C : CC Z cc Ts own G nL R l) {y : MethodName} {ws ws' : List Cond} {rm : Room} {bytes : ByteArray} {maxL index n : Nat} {rt : Option FieldType} {As rest : List Value} {Fn : FinT} (hM : Ct l y ws rm G As sc ia la Fn) (hg : GoodIn Ts (va_wsS own index y ws)) (hw : ws = Cond.code y bytes maxL rt :: ws') (hrc : rm.cells = 0) (hrs : rm.slots = 0) (hd9 : y.cls ≠ "java/lang/invoke/MethodHandle" ∧ y.cls ≠ "java/lang/invoke/VarHandle" ∧ (parseMethodDescriptor y.desc).map (fun d => d.parameters.length) = some n) (hR : rm.frames + 1 ≤ R.frames ∧ 8 + (maxL + 11) + rm.locals ≤ R.locals) (hn : As.length = n) (hst : st = As.reverse ++ rest) (hd : decode cc pc = .ok (.invokestatic index, 3)) (hroom : (rest.map fun v => v.category).sum ≤ 8) (hp : pc + 3 = pc') (kk : ∀ (v : Option Value) (sc' : Sc) (ia' : Ia) (la' : La), Fn v sc' ia' la' → Z sc' ia' la' lv pc' (v.toList ++ rest)) : Z sc ia la lv pc st := by
  subst hp
  obtain ⟨p, e, s, m, args, below, meth, c, ce, so, Q, rfl, hx, hb, hml, hown, hts, hK, hJ, hNs, hce, hso⟩ := C
  intro H locs ls hP hS hl
  have hr := va_runS (As := As) (rest := rest) (g := F0 m pc ls st) (e := e) (below := below) (meth := meth) (locs := locs) (cells := ce) (slots := so) ⟨hx, hb, hml, hown, hts⟩ hM (va_cwS n hts hg hw hrc hrs hd9 hR) ⟨fun a U g mk q => by obtain ⟨q0, qP, qK, qJ, qN9⟩ := q; exact ⟨q0, qP, va_K.moved (u := U) (U := U.calling g mk a) (Vm.Alike.refl U.vm) qK, qJ, fun x hx => va_Nw.same (u := U) rfl rfl (qN9 x hx)⟩, fun U hU hW => ⟨rfl, InW.moved hK hJ hNs hP hU hW⟩⟩ rfl hn hl.1 hst (lv_room hroom) hd ⟨hce, hso⟩
  intro T hT X
  obtain ⟨v, st₀, t, T', L, h0, X', hL, e1, e2, ⟨⟨v9, sc9, ia9, la9, hv, hF, hI⟩, hz, hkp⟩, sp⟩ := hr T hT X
  cases hv
  rw [h0] at hz hkp
  obtain ⟨t2, a1, b1⟩ := kk v sc9 ia9 la9 hF T'.heap (locs ++ L) ls (by rw [e1]; exact hI.1) ⟨Nat.le_trans hS.1 (by rw [e1]; exact hz), fun q h1 h2 => by rw [e1, hkp q (Nat.lt_of_lt_of_le h1 hS.1) h2]; exact hS.2.1 q h1 h2, fun q hq => by
      rcases List.mem_append.mp hq with h | h
      · exact hS.2.2 q h
      · exact hL q h⟩ hl T' rfl X'
  exact ⟨t2, sp t2 a1, b1⟩
theorem z_cN (C : CC Z cc Ts own G nL R l) {y : MethodName} {ws ws' : List Cond} {rm : Room} {bytes : ByteArray} {maxL index n : Nat} {rt : Option FieldType} {As rest : List Value} {Fn : FinT} (hM : Ct l y ws rm G As sc ia la Fn) (hg : GoodIn Ts ws) (hw : ws = Cond.code y bytes maxL rt :: ws') (hrc : rm.cells = 0) (hrs : rm.slots = 0) (hnl : (own, index, y) ∈ q_Nl) (hini : Cond.initialized y.cls ∈ Ts) (hstat : Cond.static y ∈ Ts) (hd9 : y.cls ≠ "java/lang/invoke/MethodHandle" ∧ y.cls ≠ "java/lang/invoke/VarHandle" ∧ (parseMethodDescriptor y.desc).map (fun d => d.parameters.length) = some n) (hR : rm.frames + 1 ≤ R.frames ∧ 8 + (maxL + 11) + rm.locals ≤ R.locals) (hn : As.length = n) (hst : st = As.reverse ++ rest) (hd : decode cc pc = .ok (.invokestatic index, 3)) (hroom : (rest.map fun v => v.category).sum ≤ 8) (hp : pc + 3 = pc') (kk : ∀ (v : Option Value) (sc' : Sc) (ia' : Ia) (la' : La), Fn v sc' ia' la' → Z sc' ia' la' lv pc' (v.toList ++ rest)) : Z sc ia la lv pc st := by
  subst hp
  obtain ⟨p, e, s, m, args, below, meth, c, ce, so, Q, rfl, hx, hb, hml, hown, hts, hK, hJ, hNs, hce, hso⟩ := C
  intro H locs ls hP hS hl
  have hr := va_runSN (As := As) (rest := rest) (g := F0 m pc ls st) (e := e) (below := below) (meth := meth) (locs := locs) (cells := ce) (slots := so) ⟨hx, hb, hml, hown, hts⟩ hM ⟨va_cnB n hts hg hw hrc hrs (hNs _ hnl) (hts _ hini) hd9 hR, hts _ hstat, trivial⟩ ⟨fun a U g mk q => by obtain ⟨q0, qP, qK, qJ, qN9⟩ := q; exact ⟨q0, qP, va_K.moved (u := U) (U := U.calling g mk a) (Vm.Alike.refl U.vm) qK, qJ, fun x hx => va_Nw.same (u := U) rfl rfl (qN9 x hx)⟩, fun U hU hW => ⟨rfl, InW.moved hK hJ hNs hP hU hW⟩⟩ rfl hn hl.1 hst (lv_room hroom) hd ⟨hce, hso⟩
  intro T hT X
  obtain ⟨v, st₀, t, T', L, h0, X', hL, e1, e2, ⟨⟨v9, sc9, ia9, la9, hv, hF, hI⟩, hz, hkp⟩, sp⟩ := hr T hT X
  cases hv
  rw [h0] at hz hkp
  obtain ⟨t2, a1, b1⟩ := kk v sc9 ia9 la9 hF T'.heap (locs ++ L) ls (by rw [e1]; exact hI.1) ⟨Nat.le_trans hS.1 (by rw [e1]; exact hz), fun q h1 h2 => by rw [e1, hkp q (Nat.lt_of_lt_of_le h1 hS.1) h2]; exact hS.2.1 q h1 h2, fun q hq => by
      rcases List.mem_append.mp hq with h | h
      · exact hS.2.2 q h
      · exact hL q h⟩ hl T' rfl X'
  exact ⟨t2, sp t2 a1, b1⟩
theorem z_mmax (C : CC Z cc Ts own G nL R l) {index : Nat} (hl1 : Cond.methodLink own index Lib.Math.max.name ∈ Ts) (hl2 : Cond.static Lib.Math.max.name ∈ Ts) (hl3 : Cond.initialized "java/lang/Math" ∈ Ts) (hl4 : Cond.code Lib.Math.max.name Lib.Math.max.code 2 (some .int) ∈ Ts) (hfr : 1 ≤ R.frames) (hlo : (st.map fun v => v.category).sum + 13 ≤ R.locals) {x y : Int32} (hd : decode cc pc = .ok (.invokestatic index, 3)) (hp : pc + 3 = pc') (k : Z sc ia la lv pc' (.int (if x < y then y else x) :: st)) : Z sc ia la lv pc (.int y :: .int x :: st) := by
  subst hp
  obtain ⟨p, e, s, m, args, below, meth, c, ce, so, Q, rfl, hx, hb, hml, hown, hts, hK, hJ, hNs, hce, hso⟩ := C
  exact fun H locs ls hP hS hl => va_mmax hx hb (hml.trans hl.1.symm) hown (hts _ hl1) (hts _ hl2) (hts _ hl3) (hts _ hl4) hfr hlo hce hso hd (k H locs ls hP hS hl)
theorem z_mmin (C : CC Z cc Ts own G nL R l) {index : Nat} (hl1 : Cond.methodLink own index Lib.Math.min.name ∈ Ts) (hl2 : Cond.static Lib.Math.min.name ∈ Ts) (hl3 : Cond.initialized "java/lang/Math" ∈ Ts) (hl4 : Cond.code Lib.Math.min.name Lib.Math.min.code 2 (some .int) ∈ Ts) (hfr : 1 ≤ R.frames) (hlo : (st.map fun v => v.category).sum + 13 ≤ R.locals) {x y : Int32} (hd : decode cc pc = .ok (.invokestatic index, 3)) (hp : pc + 3 = pc') (k : Z sc ia la lv pc' (.int (if y < x then y else x) :: st)) : Z sc ia la lv pc (.int y :: .int x :: st) := by
  subst hp
  obtain ⟨p, e, s, m, args, below, meth, c, ce, so, Q, rfl, hx, hb, hml, hown, hts, hK, hJ, hNs, hce, hso⟩ := C
  exact fun H locs ls hP hS hl => va_mmin hx hb (hml.trans hl.1.symm) hown (hts _ hl1) (hts _ hl2) (hts _ hl3) (hts _ hl4) hfr hlo hce hso hd (k H locs ls hP hS hl)
theorem z_mabs (C : CC Z cc Ts own G nL R l) {index : Nat} (hl1 : Cond.methodLink own index Lib.Math.abs.name ∈ Ts) (hl2 : Cond.static Lib.Math.abs.name ∈ Ts) (hl3 : Cond.initialized "java/lang/Math" ∈ Ts) (hl4 : Cond.code Lib.Math.abs.name Lib.Math.abs.code 1 (some .int) ∈ Ts) (hfr : 1 ≤ R.frames) (hlo : (st.map fun v => v.category).sum + 13 ≤ R.locals) {x : Int32} (hd : decode cc pc = .ok (.invokestatic index, 3)) (hp : pc + 3 = pc') (k : Z sc ia la lv pc' (.int (if 0 ≤ x then x else 0 - x) :: st)) : Z sc ia la lv pc (.int x :: st) := by
  subst hp
  obtain ⟨p, e, s, m, args, below, meth, c, ce, so, Q, rfl, hx, hb, hml, hown, hts, hK, hJ, hNs, hce, hso⟩ := C
  exact fun H locs ls hP hS hl => va_mabs hx hb (hml.trans hl.1.symm) hown (hts _ hl1) (hts _ hl2) (hts _ hl3) (hts _ hl4) hfr hlo hce hso hd (k H locs ls hP hS hl)
theorem z_mabsL (C : CC Z cc Ts own G nL R l) {index : Nat} (hl1 : Cond.methodLink own index Lib.MathLoose.abs_long.x ∈ Ts) (hl2 : Cond.static Lib.MathLoose.abs_long.x ∈ Ts) (hl3 : Cond.initialized "java/lang/Math" ∈ Ts) (hl4 : Cond.code Lib.MathLoose.abs_long.x Lib.MathLoose.abs_long.code 2 (some .long) ∈ Ts) (hfr : 1 ≤ R.frames) (hlo : (st.map fun v => v.category).sum + 13 ≤ R.locals) {x : Int64} (hd : decode cc pc = .ok (.invokestatic index, 3)) (hp : pc + 3 = pc') (k : Z sc ia la lv pc' (.long (if 0 < x then x else -x) :: st)) : Z sc ia la lv pc (.long x :: st) := by
  subst hp
  obtain ⟨p, e, s, m, args, below, meth, c, ce, so, Q, rfl, hx, hb, hml, hown, hts, hK, hJ, hNs, hce, hso⟩ := C
  exact fun H locs ls hP hS hl => va_mabs_long hx hb (hml.trans hl.1.symm) hown (hts _ hl1) (hts _ hl2) (hts _ hl3) (hts _ hl4) hfr hlo hce hso hd (k H locs ls hP hS hl)
end ZR
theorem q_o0 {G : Gv} {sc : Sc} {ia : Ia} {la : La} : q_val G sc ia la 0 = .inr (0, q_ob G.2.1 sc 0) := rfl
theorem q_o1 {G : Gv} {sc : Sc} {ia : Ia} {la : La} : q_val G sc ia la 1 = .inr (1, q_ob G.2.1 sc 1) := rfl
theorem q_o2 {G : Gv} {sc : Sc} {ia : Ia} {la : La} : q_val G sc ia la 2 = .inr (2, q_ob G.2.1 sc 2) := rfl
theorem q_o3 {G : Gv} {sc : Sc} {ia : Ia} {la : La} : q_val G sc ia la 3 = .inr (3, q_ob G.2.1 sc 3) := rfl
theorem q_o4 {G : Gv} {sc : Sc} {ia : Ia} {la : La} : q_val G sc ia la 4 = .inr (4, q_ob G.2.1 sc 4) := rfl
theorem q_o5 {G : Gv} {sc : Sc} {ia : Ia} {la : La} : q_val G sc ia la 5 = .inr (5, q_ob G.2.1 sc 5) := rfl
theorem q_o6 {G : Gv} {sc : Sc} {ia : Ia} {la : La} : q_val G sc ia la 6 = .inr (6, q_ob G.2.1 sc 6) := rfl
theorem q_i0 {G : Gv} {sc : Sc} {ia : Ia} {la : La} : q_val G sc ia la 7 = .inl (G.2.2 0, 32, .inl (ia 0)) := rfl
theorem q_u0 {G : Gv} {sc : Sc} {ia : Ia} {la : La} (f : Nat → Int32) : va_up (q_val G sc ia la) 7 (.inl (G.2.2 0, 32, .inl f)) = q_val G sc (va_up ia 0 f) la := q_upI 0 (by decide) f
theorem q_uu0 {G : Gv} {sc : Sc} {ia : Ia} {la : La} (g f : Nat → Int32) : va_up (q_val G sc (va_up ia 0 g) la) 7 (.inl (G.2.2 0, 32, .inl f)) = q_val G sc (va_up ia 0 f) la := by rw [q_u0, bx_uu]
theorem q_i1 {G : Gv} {sc : Sc} {ia : Ia} {la : La} : q_val G sc ia la 8 = .inl (G.2.2 0, 32, .inl (ia 1)) := rfl
theorem q_u1 {G : Gv} {sc : Sc} {ia : Ia} {la : La} (f : Nat → Int32) : va_up (q_val G sc ia la) 8 (.inl (G.2.2 0, 32, .inl f)) = q_val G sc (va_up ia 1 f) la := q_upI 1 (by decide) f
theorem q_uu1 {G : Gv} {sc : Sc} {ia : Ia} {la : La} (g f : Nat → Int32) : va_up (q_val G sc (va_up ia 1 g) la) 8 (.inl (G.2.2 0, 32, .inl f)) = q_val G sc (va_up ia 1 f) la := by rw [q_u1, bx_uu]
theorem q_i2 {G : Gv} {sc : Sc} {ia : Ia} {la : La} : q_val G sc ia la 9 = .inl (G.2.2 0, 32, .inl (ia 2)) := rfl
theorem q_u2 {G : Gv} {sc : Sc} {ia : Ia} {la : La} (f : Nat → Int32) : va_up (q_val G sc ia la) 9 (.inl (G.2.2 0, 32, .inl f)) = q_val G sc (va_up ia 2 f) la := q_upI 2 (by decide) f
theorem q_uu2 {G : Gv} {sc : Sc} {ia : Ia} {la : La} (g f : Nat → Int32) : va_up (q_val G sc (va_up ia 2 g) la) 9 (.inl (G.2.2 0, 32, .inl f)) = q_val G sc (va_up ia 2 f) la := by rw [q_u2, bx_uu]
theorem q_i3 {G : Gv} {sc : Sc} {ia : Ia} {la : La} : q_val G sc ia la 10 = .inl (G.2.2 0, 32, .inl (ia 3)) := rfl
theorem q_u3 {G : Gv} {sc : Sc} {ia : Ia} {la : La} (f : Nat → Int32) : va_up (q_val G sc ia la) 10 (.inl (G.2.2 0, 32, .inl f)) = q_val G sc (va_up ia 3 f) la := q_upI 3 (by decide) f
theorem q_uu3 {G : Gv} {sc : Sc} {ia : Ia} {la : La} (g f : Nat → Int32) : va_up (q_val G sc (va_up ia 3 g) la) 10 (.inl (G.2.2 0, 32, .inl f)) = q_val G sc (va_up ia 3 f) la := by rw [q_u3, bx_uu]
theorem q_i4 {G : Gv} {sc : Sc} {ia : Ia} {la : La} : q_val G sc ia la 11 = .inl (G.2.2 0, 32, .inl (ia 4)) := rfl
theorem q_u4 {G : Gv} {sc : Sc} {ia : Ia} {la : La} (f : Nat → Int32) : va_up (q_val G sc ia la) 11 (.inl (G.2.2 0, 32, .inl f)) = q_val G sc (va_up ia 4 f) la := q_upI 4 (by decide) f
theorem q_uu4 {G : Gv} {sc : Sc} {ia : Ia} {la : La} (g f : Nat → Int32) : va_up (q_val G sc (va_up ia 4 g) la) 11 (.inl (G.2.2 0, 32, .inl f)) = q_val G sc (va_up ia 4 f) la := by rw [q_u4, bx_uu]
theorem q_i5 {G : Gv} {sc : Sc} {ia : Ia} {la : La} : q_val G sc ia la 12 = .inl (G.2.2 0, 32, .inl (ia 5)) := rfl
theorem q_u5 {G : Gv} {sc : Sc} {ia : Ia} {la : La} (f : Nat → Int32) : va_up (q_val G sc ia la) 12 (.inl (G.2.2 0, 32, .inl f)) = q_val G sc (va_up ia 5 f) la := q_upI 5 (by decide) f
theorem q_uu5 {G : Gv} {sc : Sc} {ia : Ia} {la : La} (g f : Nat → Int32) : va_up (q_val G sc (va_up ia 5 g) la) 12 (.inl (G.2.2 0, 32, .inl f)) = q_val G sc (va_up ia 5 f) la := by rw [q_u5, bx_uu]
theorem q_i6 {G : Gv} {sc : Sc} {ia : Ia} {la : La} : q_val G sc ia la 13 = .inl (G.2.2 2, 32, .inl (ia 6)) := rfl
theorem q_u6 {G : Gv} {sc : Sc} {ia : Ia} {la : La} (f : Nat → Int32) : va_up (q_val G sc ia la) 13 (.inl (G.2.2 2, 32, .inl f)) = q_val G sc (va_up ia 6 f) la := q_upI 6 (by decide) f
theorem q_uu6 {G : Gv} {sc : Sc} {ia : Ia} {la : La} (g f : Nat → Int32) : va_up (q_val G sc (va_up ia 6 g) la) 13 (.inl (G.2.2 2, 32, .inl f)) = q_val G sc (va_up ia 6 f) la := by rw [q_u6, bx_uu]
theorem q_i7 {G : Gv} {sc : Sc} {ia : Ia} {la : La} : q_val G sc ia la 14 = .inl (G.2.2 2, 32, .inl (ia 7)) := rfl
theorem q_u7 {G : Gv} {sc : Sc} {ia : Ia} {la : La} (f : Nat → Int32) : va_up (q_val G sc ia la) 14 (.inl (G.2.2 2, 32, .inl f)) = q_val G sc (va_up ia 7 f) la := q_upI 7 (by decide) f
theorem q_uu7 {G : Gv} {sc : Sc} {ia : Ia} {la : La} (g f : Nat → Int32) : va_up (q_val G sc (va_up ia 7 g) la) 14 (.inl (G.2.2 2, 32, .inl f)) = q_val G sc (va_up ia 7 f) la := by rw [q_u7, bx_uu]
theorem q_i8 {G : Gv} {sc : Sc} {ia : Ia} {la : La} : q_val G sc ia la 15 = .inl (G.2.2 0, 5, .inl (ia 8)) := rfl
theorem q_u8 {G : Gv} {sc : Sc} {ia : Ia} {la : La} (f : Nat → Int32) : va_up (q_val G sc ia la) 15 (.inl (G.2.2 0, 5, .inl f)) = q_val G sc (va_up ia 8 f) la := q_upI 8 (by decide) f
theorem q_uu8 {G : Gv} {sc : Sc} {ia : Ia} {la : La} (g f : Nat → Int32) : va_up (q_val G sc (va_up ia 8 g) la) 15 (.inl (G.2.2 0, 5, .inl f)) = q_val G sc (va_up ia 8 f) la := by rw [q_u8, bx_uu]
theorem q_i9 {G : Gv} {sc : Sc} {ia : Ia} {la : La} : q_val G sc ia la 16 = .inl (G.2.2 0, 18, .inl (ia 9)) := rfl
theorem q_u9 {G : Gv} {sc : Sc} {ia : Ia} {la : La} (f : Nat → Int32) : va_up (q_val G sc ia la) 16 (.inl (G.2.2 0, 18, .inl f)) = q_val G sc (va_up ia 9 f) la := q_upI 9 (by decide) f
theorem q_uu9 {G : Gv} {sc : Sc} {ia : Ia} {la : La} (g f : Nat → Int32) : va_up (q_val G sc (va_up ia 9 g) la) 16 (.inl (G.2.2 0, 18, .inl f)) = q_val G sc (va_up ia 9 f) la := by rw [q_u9, bx_uu]
theorem q_i10 {G : Gv} {sc : Sc} {ia : Ia} {la : La} : q_val G sc ia la 17 = .inl (G.2.2 0, 9, .inl (ia 10)) := rfl
theorem q_u10 {G : Gv} {sc : Sc} {ia : Ia} {la : La} (f : Nat → Int32) : va_up (q_val G sc ia la) 17 (.inl (G.2.2 0, 9, .inl f)) = q_val G sc (va_up ia 10 f) la := q_upI 10 (by decide) f
theorem q_uu10 {G : Gv} {sc : Sc} {ia : Ia} {la : La} (g f : Nat → Int32) : va_up (q_val G sc (va_up ia 10 g) la) 17 (.inl (G.2.2 0, 9, .inl f)) = q_val G sc (va_up ia 10 f) la := by rw [q_u10, bx_uu]
theorem q_i11 {G : Gv} {sc : Sc} {ia : Ia} {la : La} : q_val G sc ia la 18 = .inl (G.2.2 0, 9, .inl (ia 11)) := rfl
theorem q_u11 {G : Gv} {sc : Sc} {ia : Ia} {la : La} (f : Nat → Int32) : va_up (q_val G sc ia la) 18 (.inl (G.2.2 0, 9, .inl f)) = q_val G sc (va_up ia 11 f) la := q_upI 11 (by decide) f
theorem q_uu11 {G : Gv} {sc : Sc} {ia : Ia} {la : La} (g f : Nat → Int32) : va_up (q_val G sc (va_up ia 11 g) la) 18 (.inl (G.2.2 0, 9, .inl f)) = q_val G sc (va_up ia 11 f) la := by rw [q_u11, bx_uu]
theorem q_i12 {G : Gv} {sc : Sc} {ia : Ia} {la : La} : q_val G sc ia la 19 = .inl (G.2.2 0, 9, .inl (ia 12)) := rfl
theorem q_u12 {G : Gv} {sc : Sc} {ia : Ia} {la : La} (f : Nat → Int32) : va_up (q_val G sc ia la) 19 (.inl (G.2.2 0, 9, .inl f)) = q_val G sc (va_up ia 12 f) la := q_upI 12 (by decide) f
theorem q_uu12 {G : Gv} {sc : Sc} {ia : Ia} {la : La} (g f : Nat → Int32) : va_up (q_val G sc (va_up ia 12 g) la) 19 (.inl (G.2.2 0, 9, .inl f)) = q_val G sc (va_up ia 12 f) la := by rw [q_u12, bx_uu]
theorem q_i13 {G : Gv} {sc : Sc} {ia : Ia} {la : La} : q_val G sc ia la 20 = .inl (G.2.2 0, 9, .inl (ia 13)) := rfl
theorem q_u13 {G : Gv} {sc : Sc} {ia : Ia} {la : La} (f : Nat → Int32) : va_up (q_val G sc ia la) 20 (.inl (G.2.2 0, 9, .inl f)) = q_val G sc (va_up ia 13 f) la := q_upI 13 (by decide) f
theorem q_uu13 {G : Gv} {sc : Sc} {ia : Ia} {la : La} (g f : Nat → Int32) : va_up (q_val G sc (va_up ia 13 g) la) 20 (.inl (G.2.2 0, 9, .inl f)) = q_val G sc (va_up ia 13 f) la := by rw [q_u13, bx_uu]
theorem q_i14 {G : Gv} {sc : Sc} {ia : Ia} {la : La} : q_val G sc ia la 21 = .inl (G.2.2 0, 9, .inl (ia 14)) := rfl
theorem q_u14 {G : Gv} {sc : Sc} {ia : Ia} {la : La} (f : Nat → Int32) : va_up (q_val G sc ia la) 21 (.inl (G.2.2 0, 9, .inl f)) = q_val G sc (va_up ia 14 f) la := q_upI 14 (by decide) f
theorem q_uu14 {G : Gv} {sc : Sc} {ia : Ia} {la : La} (g f : Nat → Int32) : va_up (q_val G sc (va_up ia 14 g) la) 21 (.inl (G.2.2 0, 9, .inl f)) = q_val G sc (va_up ia 14 f) la := by rw [q_u14, bx_uu]
theorem q_i15 {G : Gv} {sc : Sc} {ia : Ia} {la : La} : q_val G sc ia la 22 = .inl (G.2.2 0, 9, .inl (ia 15)) := rfl
theorem q_u15 {G : Gv} {sc : Sc} {ia : Ia} {la : La} (f : Nat → Int32) : va_up (q_val G sc ia la) 22 (.inl (G.2.2 0, 9, .inl f)) = q_val G sc (va_up ia 15 f) la := q_upI 15 (by decide) f
theorem q_uu15 {G : Gv} {sc : Sc} {ia : Ia} {la : La} (g f : Nat → Int32) : va_up (q_val G sc (va_up ia 15 g) la) 22 (.inl (G.2.2 0, 9, .inl f)) = q_val G sc (va_up ia 15 f) la := by rw [q_u15, bx_uu]
theorem q_i16 {G : Gv} {sc : Sc} {ia : Ia} {la : La} : q_val G sc ia la 23 = .inl (G.2.2 0, 9, .inl (ia 16)) := rfl
theorem q_u16 {G : Gv} {sc : Sc} {ia : Ia} {la : La} (f : Nat → Int32) : va_up (q_val G sc ia la) 23 (.inl (G.2.2 0, 9, .inl f)) = q_val G sc (va_up ia 16 f) la := q_upI 16 (by decide) f
theorem q_uu16 {G : Gv} {sc : Sc} {ia : Ia} {la : La} (g f : Nat → Int32) : va_up (q_val G sc (va_up ia 16 g) la) 23 (.inl (G.2.2 0, 9, .inl f)) = q_val G sc (va_up ia 16 f) la := by rw [q_u16, bx_uu]
theorem q_i17 {G : Gv} {sc : Sc} {ia : Ia} {la : La} : q_val G sc ia la 24 = .inl (G.2.2 0, 9, .inl (ia 17)) := rfl
theorem q_u17 {G : Gv} {sc : Sc} {ia : Ia} {la : La} (f : Nat → Int32) : va_up (q_val G sc ia la) 24 (.inl (G.2.2 0, 9, .inl f)) = q_val G sc (va_up ia 17 f) la := q_upI 17 (by decide) f
theorem q_uu17 {G : Gv} {sc : Sc} {ia : Ia} {la : La} (g f : Nat → Int32) : va_up (q_val G sc (va_up ia 17 g) la) 24 (.inl (G.2.2 0, 9, .inl f)) = q_val G sc (va_up ia 17 f) la := by rw [q_u17, bx_uu]
theorem q_i18 {G : Gv} {sc : Sc} {ia : Ia} {la : La} : q_val G sc ia la 25 = .inl (G.2.2 0, 9, .inl (ia 18)) := rfl
theorem q_u18 {G : Gv} {sc : Sc} {ia : Ia} {la : La} (f : Nat → Int32) : va_up (q_val G sc ia la) 25 (.inl (G.2.2 0, 9, .inl f)) = q_val G sc (va_up ia 18 f) la := q_upI 18 (by decide) f
theorem q_uu18 {G : Gv} {sc : Sc} {ia : Ia} {la : La} (g f : Nat → Int32) : va_up (q_val G sc (va_up ia 18 g) la) 25 (.inl (G.2.2 0, 9, .inl f)) = q_val G sc (va_up ia 18 f) la := by rw [q_u18, bx_uu]
theorem q_i19 {G : Gv} {sc : Sc} {ia : Ia} {la : La} : q_val G sc ia la 26 = .inl (G.2.2 0, 5, .inl (ia 19)) := rfl
theorem q_u19 {G : Gv} {sc : Sc} {ia : Ia} {la : La} (f : Nat → Int32) : va_up (q_val G sc ia la) 26 (.inl (G.2.2 0, 5, .inl f)) = q_val G sc (va_up ia 19 f) la := q_upI 19 (by decide) f
theorem q_uu19 {G : Gv} {sc : Sc} {ia : Ia} {la : La} (g f : Nat → Int32) : va_up (q_val G sc (va_up ia 19 g) la) 26 (.inl (G.2.2 0, 5, .inl f)) = q_val G sc (va_up ia 19 f) la := by rw [q_u19, bx_uu]
theorem q_i20 {G : Gv} {sc : Sc} {ia : Ia} {la : La} : q_val G sc ia la 27 = .inl (G.2.2 0, 5, .inl (ia 20)) := rfl
theorem q_u20 {G : Gv} {sc : Sc} {ia : Ia} {la : La} (f : Nat → Int32) : va_up (q_val G sc ia la) 27 (.inl (G.2.2 0, 5, .inl f)) = q_val G sc (va_up ia 20 f) la := q_upI 20 (by decide) f
theorem q_uu20 {G : Gv} {sc : Sc} {ia : Ia} {la : La} (g f : Nat → Int32) : va_up (q_val G sc (va_up ia 20 g) la) 27 (.inl (G.2.2 0, 5, .inl f)) = q_val G sc (va_up ia 20 f) la := by rw [q_u20, bx_uu]
theorem q_i21 {G : Gv} {sc : Sc} {ia : Ia} {la : La} : q_val G sc ia la 28 = .inl (G.2.2 0, 5, .inl (ia 21)) := rfl
theorem q_u21 {G : Gv} {sc : Sc} {ia : Ia} {la : La} (f : Nat → Int32) : va_up (q_val G sc ia la) 28 (.inl (G.2.2 0, 5, .inl f)) = q_val G sc (va_up ia 21 f) la := q_upI 21 (by decide) f
theorem q_uu21 {G : Gv} {sc : Sc} {ia : Ia} {la : La} (g f : Nat → Int32) : va_up (q_val G sc (va_up ia 21 g) la) 28 (.inl (G.2.2 0, 5, .inl f)) = q_val G sc (va_up ia 21 f) la := by rw [q_u21, bx_uu]
theorem q_i22 {G : Gv} {sc : Sc} {ia : Ia} {la : La} : q_val G sc ia la 29 = .inl (G.2.2 0, 5, .inl (ia 22)) := rfl
theorem q_u22 {G : Gv} {sc : Sc} {ia : Ia} {la : La} (f : Nat → Int32) : va_up (q_val G sc ia la) 29 (.inl (G.2.2 0, 5, .inl f)) = q_val G sc (va_up ia 22 f) la := q_upI 22 (by decide) f
theorem q_uu22 {G : Gv} {sc : Sc} {ia : Ia} {la : La} (g f : Nat → Int32) : va_up (q_val G sc (va_up ia 22 g) la) 29 (.inl (G.2.2 0, 5, .inl f)) = q_val G sc (va_up ia 22 f) la := by rw [q_u22, bx_uu]
theorem q_i23 {G : Gv} {sc : Sc} {ia : Ia} {la : La} : q_val G sc ia la 30 = .inl (G.2.2 0, 5, .inl (ia 23)) := rfl
theorem q_u23 {G : Gv} {sc : Sc} {ia : Ia} {la : La} (f : Nat → Int32) : va_up (q_val G sc ia la) 30 (.inl (G.2.2 0, 5, .inl f)) = q_val G sc (va_up ia 23 f) la := q_upI 23 (by decide) f
theorem q_uu23 {G : Gv} {sc : Sc} {ia : Ia} {la : La} (g f : Nat → Int32) : va_up (q_val G sc (va_up ia 23 g) la) 30 (.inl (G.2.2 0, 5, .inl f)) = q_val G sc (va_up ia 23 f) la := by rw [q_u23, bx_uu]
theorem q_i24 {G : Gv} {sc : Sc} {ia : Ia} {la : La} : q_val G sc ia la 31 = .inl (G.2.2 0, 5, .inl (ia 24)) := rfl
theorem q_u24 {G : Gv} {sc : Sc} {ia : Ia} {la : La} (f : Nat → Int32) : va_up (q_val G sc ia la) 31 (.inl (G.2.2 0, 5, .inl f)) = q_val G sc (va_up ia 24 f) la := q_upI 24 (by decide) f
theorem q_uu24 {G : Gv} {sc : Sc} {ia : Ia} {la : La} (g f : Nat → Int32) : va_up (q_val G sc (va_up ia 24 g) la) 31 (.inl (G.2.2 0, 5, .inl f)) = q_val G sc (va_up ia 24 f) la := by rw [q_u24, bx_uu]
theorem q_i25 {G : Gv} {sc : Sc} {ia : Ia} {la : La} : q_val G sc ia la 32 = .inl (G.2.2 0, 5, .inl (ia 25)) := rfl
theorem q_u25 {G : Gv} {sc : Sc} {ia : Ia} {la : La} (f : Nat → Int32) : va_up (q_val G sc ia la) 32 (.inl (G.2.2 0, 5, .inl f)) = q_val G sc (va_up ia 25 f) la := q_upI 25 (by decide) f
theorem q_uu25 {G : Gv} {sc : Sc} {ia : Ia} {la : La} (g f : Nat → Int32) : va_up (q_val G sc (va_up ia 25 g) la) 32 (.inl (G.2.2 0, 5, .inl f)) = q_val G sc (va_up ia 25 f) la := by rw [q_u25, bx_uu]
theorem q_i26 {G : Gv} {sc : Sc} {ia : Ia} {la : La} : q_val G sc ia la 33 = .inl (G.2.2 0, 5, .inl (ia 26)) := rfl
theorem q_u26 {G : Gv} {sc : Sc} {ia : Ia} {la : La} (f : Nat → Int32) : va_up (q_val G sc ia la) 33 (.inl (G.2.2 0, 5, .inl f)) = q_val G sc (va_up ia 26 f) la := q_upI 26 (by decide) f
theorem q_uu26 {G : Gv} {sc : Sc} {ia : Ia} {la : La} (g f : Nat → Int32) : va_up (q_val G sc (va_up ia 26 g) la) 33 (.inl (G.2.2 0, 5, .inl f)) = q_val G sc (va_up ia 26 f) la := by rw [q_u26, bx_uu]
theorem q_i27 {G : Gv} {sc : Sc} {ia : Ia} {la : La} : q_val G sc ia la 34 = .inl (G.2.2 0, 5, .inl (ia 27)) := rfl
theorem q_u27 {G : Gv} {sc : Sc} {ia : Ia} {la : La} (f : Nat → Int32) : va_up (q_val G sc ia la) 34 (.inl (G.2.2 0, 5, .inl f)) = q_val G sc (va_up ia 27 f) la := q_upI 27 (by decide) f
theorem q_uu27 {G : Gv} {sc : Sc} {ia : Ia} {la : La} (g f : Nat → Int32) : va_up (q_val G sc (va_up ia 27 g) la) 34 (.inl (G.2.2 0, 5, .inl f)) = q_val G sc (va_up ia 27 f) la := by rw [q_u27, bx_uu]
theorem q_i28 {G : Gv} {sc : Sc} {ia : Ia} {la : La} : q_val G sc ia la 35 = .inl (G.2.2 0, 5, .inl (ia 28)) := rfl
theorem q_u28 {G : Gv} {sc : Sc} {ia : Ia} {la : La} (f : Nat → Int32) : va_up (q_val G sc ia la) 35 (.inl (G.2.2 0, 5, .inl f)) = q_val G sc (va_up ia 28 f) la := q_upI 28 (by decide) f
theorem q_uu28 {G : Gv} {sc : Sc} {ia : Ia} {la : La} (g f : Nat → Int32) : va_up (q_val G sc (va_up ia 28 g) la) 35 (.inl (G.2.2 0, 5, .inl f)) = q_val G sc (va_up ia 28 f) la := by rw [q_u28, bx_uu]
theorem q_i29 {G : Gv} {sc : Sc} {ia : Ia} {la : La} : q_val G sc ia la 36 = .inl (G.2.2 0, 32, .inl (ia 29)) := rfl
theorem q_u29 {G : Gv} {sc : Sc} {ia : Ia} {la : La} (f : Nat → Int32) : va_up (q_val G sc ia la) 36 (.inl (G.2.2 0, 32, .inl f)) = q_val G sc (va_up ia 29 f) la := q_upI 29 (by decide) f
theorem q_uu29 {G : Gv} {sc : Sc} {ia : Ia} {la : La} (g f : Nat → Int32) : va_up (q_val G sc (va_up ia 29 g) la) 36 (.inl (G.2.2 0, 32, .inl f)) = q_val G sc (va_up ia 29 f) la := by rw [q_u29, bx_uu]
theorem q_i30 {G : Gv} {sc : Sc} {ia : Ia} {la : La} : q_val G sc ia la 37 = .inl (G.2.2 0, 32, .inl (ia 30)) := rfl
theorem q_u30 {G : Gv} {sc : Sc} {ia : Ia} {la : La} (f : Nat → Int32) : va_up (q_val G sc ia la) 37 (.inl (G.2.2 0, 32, .inl f)) = q_val G sc (va_up ia 30 f) la := q_upI 30 (by decide) f
theorem q_uu30 {G : Gv} {sc : Sc} {ia : Ia} {la : La} (g f : Nat → Int32) : va_up (q_val G sc (va_up ia 30 g) la) 37 (.inl (G.2.2 0, 32, .inl f)) = q_val G sc (va_up ia 30 f) la := by rw [q_u30, bx_uu]
theorem q_i31 {G : Gv} {sc : Sc} {ia : Ia} {la : La} : q_val G sc ia la 38 = .inl (G.2.2 0, 32, .inl (ia 31)) := rfl
theorem q_u31 {G : Gv} {sc : Sc} {ia : Ia} {la : La} (f : Nat → Int32) : va_up (q_val G sc ia la) 38 (.inl (G.2.2 0, 32, .inl f)) = q_val G sc (va_up ia 31 f) la := q_upI 31 (by decide) f
theorem q_uu31 {G : Gv} {sc : Sc} {ia : Ia} {la : La} (g f : Nat → Int32) : va_up (q_val G sc (va_up ia 31 g) la) 38 (.inl (G.2.2 0, 32, .inl f)) = q_val G sc (va_up ia 31 f) la := by rw [q_u31, bx_uu]
theorem q_i32 {G : Gv} {sc : Sc} {ia : Ia} {la : La} : q_val G sc ia la 39 = .inl (G.2.2 2, 32, .inl (ia 32)) := rfl
theorem q_u32 {G : Gv} {sc : Sc} {ia : Ia} {la : La} (f : Nat → Int32) : va_up (q_val G sc ia la) 39 (.inl (G.2.2 2, 32, .inl f)) = q_val G sc (va_up ia 32 f) la := q_upI 32 (by decide) f
theorem q_uu32 {G : Gv} {sc : Sc} {ia : Ia} {la : La} (g f : Nat → Int32) : va_up (q_val G sc (va_up ia 32 g) la) 39 (.inl (G.2.2 2, 32, .inl f)) = q_val G sc (va_up ia 32 f) la := by rw [q_u32, bx_uu]
theorem q_i33 {G : Gv} {sc : Sc} {ia : Ia} {la : La} : q_val G sc ia la 40 = .inl (G.2.2 2, 32, .inl (ia 33)) := rfl
theorem q_u33 {G : Gv} {sc : Sc} {ia : Ia} {la : La} (f : Nat → Int32) : va_up (q_val G sc ia la) 40 (.inl (G.2.2 2, 32, .inl f)) = q_val G sc (va_up ia 33 f) la := q_upI 33 (by decide) f
theorem q_uu33 {G : Gv} {sc : Sc} {ia : Ia} {la : La} (g f : Nat → Int32) : va_up (q_val G sc (va_up ia 33 g) la) 40 (.inl (G.2.2 2, 32, .inl f)) = q_val G sc (va_up ia 33 f) la := by rw [q_u33, bx_uu]
theorem q_i34 {G : Gv} {sc : Sc} {ia : Ia} {la : La} : q_val G sc ia la 41 = .inl (G.2.2 0, 32, .inl (ia 34)) := rfl
theorem q_u34 {G : Gv} {sc : Sc} {ia : Ia} {la : La} (f : Nat → Int32) : va_up (q_val G sc ia la) 41 (.inl (G.2.2 0, 32, .inl f)) = q_val G sc (va_up ia 34 f) la := q_upI 34 (by decide) f
theorem q_uu34 {G : Gv} {sc : Sc} {ia : Ia} {la : La} (g f : Nat → Int32) : va_up (q_val G sc (va_up ia 34 g) la) 41 (.inl (G.2.2 0, 32, .inl f)) = q_val G sc (va_up ia 34 f) la := by rw [q_u34, bx_uu]
theorem q_i35 {G : Gv} {sc : Sc} {ia : Ia} {la : La} : q_val G sc ia la 42 = .inl (G.2.2 0, 32, .inl (ia 35)) := rfl
theorem q_u35 {G : Gv} {sc : Sc} {ia : Ia} {la : La} (f : Nat → Int32) : va_up (q_val G sc ia la) 42 (.inl (G.2.2 0, 32, .inl f)) = q_val G sc (va_up ia 35 f) la := q_upI 35 (by decide) f
theorem q_uu35 {G : Gv} {sc : Sc} {ia : Ia} {la : La} (g f : Nat → Int32) : va_up (q_val G sc (va_up ia 35 g) la) 42 (.inl (G.2.2 0, 32, .inl f)) = q_val G sc (va_up ia 35 f) la := by rw [q_u35, bx_uu]
theorem q_i36 {G : Gv} {sc : Sc} {ia : Ia} {la : La} : q_val G sc ia la 43 = .inl (G.2.2 0, 5, .inl (ia 36)) := rfl
theorem q_u36 {G : Gv} {sc : Sc} {ia : Ia} {la : La} (f : Nat → Int32) : va_up (q_val G sc ia la) 43 (.inl (G.2.2 0, 5, .inl f)) = q_val G sc (va_up ia 36 f) la := q_upI 36 (by decide) f
theorem q_uu36 {G : Gv} {sc : Sc} {ia : Ia} {la : La} (g f : Nat → Int32) : va_up (q_val G sc (va_up ia 36 g) la) 43 (.inl (G.2.2 0, 5, .inl f)) = q_val G sc (va_up ia 36 f) la := by rw [q_u36, bx_uu]
theorem q_i37 {G : Gv} {sc : Sc} {ia : Ia} {la : La} : q_val G sc ia la 44 = .inl (G.2.2 0, 5, .inl (ia 37)) := rfl
theorem q_u37 {G : Gv} {sc : Sc} {ia : Ia} {la : La} (f : Nat → Int32) : va_up (q_val G sc ia la) 44 (.inl (G.2.2 0, 5, .inl f)) = q_val G sc (va_up ia 37 f) la := q_upI 37 (by decide) f
theorem q_uu37 {G : Gv} {sc : Sc} {ia : Ia} {la : La} (g f : Nat → Int32) : va_up (q_val G sc (va_up ia 37 g) la) 44 (.inl (G.2.2 0, 5, .inl f)) = q_val G sc (va_up ia 37 f) la := by rw [q_u37, bx_uu]
theorem q_i38 {G : Gv} {sc : Sc} {ia : Ia} {la : La} : q_val G sc ia la 45 = .inl (G.2.2 0, 81, .inl (ia 38)) := rfl
theorem q_u38 {G : Gv} {sc : Sc} {ia : Ia} {la : La} (f : Nat → Int32) : va_up (q_val G sc ia la) 45 (.inl (G.2.2 0, 81, .inl f)) = q_val G sc (va_up ia 38 f) la := q_upI 38 (by decide) f
theorem q_uu38 {G : Gv} {sc : Sc} {ia : Ia} {la : La} (g f : Nat → Int32) : va_up (q_val G sc (va_up ia 38 g) la) 45 (.inl (G.2.2 0, 81, .inl f)) = q_val G sc (va_up ia 38 f) la := by rw [q_u38, bx_uu]
theorem q_i39 {G : Gv} {sc : Sc} {ia : Ia} {la : La} : q_val G sc ia la 46 = .inl (G.2.2 2, 25, .inl (ia 39)) := rfl
theorem q_u39 {G : Gv} {sc : Sc} {ia : Ia} {la : La} (f : Nat → Int32) : va_up (q_val G sc ia la) 46 (.inl (G.2.2 2, 25, .inl f)) = q_val G sc (va_up ia 39 f) la := q_upI 39 (by decide) f
theorem q_uu39 {G : Gv} {sc : Sc} {ia : Ia} {la : La} (g f : Nat → Int32) : va_up (q_val G sc (va_up ia 39 g) la) 46 (.inl (G.2.2 2, 25, .inl f)) = q_val G sc (va_up ia 39 f) la := by rw [q_u39, bx_uu]
theorem q_i40 {G : Gv} {sc : Sc} {ia : Ia} {la : La} : q_val G sc ia la 47 = .inl (G.2.2 0, 25, .inl (ia 40)) := rfl
theorem q_u40 {G : Gv} {sc : Sc} {ia : Ia} {la : La} (f : Nat → Int32) : va_up (q_val G sc ia la) 47 (.inl (G.2.2 0, 25, .inl f)) = q_val G sc (va_up ia 40 f) la := q_upI 40 (by decide) f
theorem q_uu40 {G : Gv} {sc : Sc} {ia : Ia} {la : La} (g f : Nat → Int32) : va_up (q_val G sc (va_up ia 40 g) la) 47 (.inl (G.2.2 0, 25, .inl f)) = q_val G sc (va_up ia 40 f) la := by rw [q_u40, bx_uu]
theorem q_i41 {G : Gv} {sc : Sc} {ia : Ia} {la : La} : q_val G sc ia la 48 = .inl (G.2.2 0, 18, .inl (ia 41)) := rfl
theorem q_u41 {G : Gv} {sc : Sc} {ia : Ia} {la : La} (f : Nat → Int32) : va_up (q_val G sc ia la) 48 (.inl (G.2.2 0, 18, .inl f)) = q_val G sc (va_up ia 41 f) la := q_upI 41 (by decide) f
theorem q_uu41 {G : Gv} {sc : Sc} {ia : Ia} {la : La} (g f : Nat → Int32) : va_up (q_val G sc (va_up ia 41 g) la) 48 (.inl (G.2.2 0, 18, .inl f)) = q_val G sc (va_up ia 41 f) la := by rw [q_u41, bx_uu]
theorem q_ir10 {G : Gv} {sc : Sc} {ia : Ia} {la : La} (r : Nat) (hr : r < 9) : q_val G sc ia la (17 + r) = .inl (G.2.2 0, 9, .inl (ia (10 + r))) := by
  rw [show 17 + r = 7 + (10 + r) by omega, q_vI (10 + r) (by omega)]
  have h1 : q_tz (10 + r) = 0 := by unfold q_tz; repeat (first | rfl | (rw [if_neg (by omega)]) | (rw [if_pos (by omega)]))
  have h2 : q_ln (10 + r) = 9 := by unfold q_ln; repeat (first | rfl | (rw [if_neg (by omega)]) | (rw [if_pos (by omega)]))
  rw [h1, h2]
theorem q_ur10 {G : Gv} {sc : Sc} {ia : Ia} {la : La} (r : Nat) (hr : r < 9) (f : Nat → Int32) : va_up (q_val G sc ia la) (17 + r) (.inl (G.2.2 0, 9, .inl f)) = q_val G sc (va_up ia (10 + r) f) la := by
  have h1 : q_tz (10 + r) = 0 := by unfold q_tz; repeat (first | rfl | (rw [if_neg (by omega)]) | (rw [if_pos (by omega)]))
  have h2 : q_ln (10 + r) = 9 := by unfold q_ln; repeat (first | rfl | (rw [if_neg (by omega)]) | (rw [if_pos (by omega)]))
  have h := q_upI (G := G) (sc := sc) (ia := ia) (la := la) (10 + r) (by omega) f
  rw [h1, h2, show 7 + (10 + r) = 17 + r by omega] at h
  exact h
theorem q_ir19 {G : Gv} {sc : Sc} {ia : Ia} {la : La} (r : Nat) (hr : r < 5) : q_val G sc ia la (26 + r) = .inl (G.2.2 0, 5, .inl (ia (19 + r))) := by
  rw [show 26 + r = 7 + (19 + r) by omega, q_vI (19 + r) (by omega)]
  have h1 : q_tz (19 + r) = 0 := by unfold q_tz; repeat (first | rfl | (rw [if_neg (by omega)]) | (rw [if_pos (by omega)]))
  have h2 : q_ln (19 + r) = 5 := by unfold q_ln; repeat (first | rfl | (rw [if_neg (by omega)]) | (rw [if_pos (by omega)]))
  rw [h1, h2]
theorem q_ur19 {G : Gv} {sc : Sc} {ia : Ia} {la : La} (r : Nat) (hr : r < 5) (f : Nat → Int32) : va_up (q_val G sc ia la) (26 + r) (.inl (G.2.2 0, 5, .inl f)) = q_val G sc (va_up ia (19 + r) f) la := by
  have h1 : q_tz (19 + r) = 0 := by unfold q_tz; repeat (first | rfl | (rw [if_neg (by omega)]) | (rw [if_pos (by omega)]))
  have h2 : q_ln (19 + r) = 5 := by unfold q_ln; repeat (first | rfl | (rw [if_neg (by omega)]) | (rw [if_pos (by omega)]))
  have h := q_upI (G := G) (sc := sc) (ia := ia) (la := la) (19 + r) (by omega) f
  rw [h1, h2, show 7 + (19 + r) = 26 + r by omega] at h
  exact h
theorem q_ir24 {G : Gv} {sc : Sc} {ia : Ia} {la : La} (r : Nat) (hr : r < 5) : q_val G sc ia la (31 + r) = .inl (G.2.2 0, 5, .inl (ia (24 + r))) := by
  rw [show 31 + r = 7 + (24 + r) by omega, q_vI (24 + r) (by omega)]
  have h1 : q_tz (24 + r) = 0 := by unfold q_tz; repeat (first | rfl | (rw [if_neg (by omega)]) | (rw [if_pos (by omega)]))
  have h2 : q_ln (24 + r) = 5 := by unfold q_ln; repeat (first | rfl | (rw [if_neg (by omega)]) | (rw [if_pos (by omega)]))
  rw [h1, h2]
theorem q_ur24 {G : Gv} {sc : Sc} {ia : Ia} {la : La} (r : Nat) (hr : r < 5) (f : Nat → Int32) : va_up (q_val G sc ia la) (31 + r) (.inl (G.2.2 0, 5, .inl f)) = q_val G sc (va_up ia (24 + r) f) la := by
  have h1 : q_tz (24 + r) = 0 := by unfold q_tz; repeat (first | rfl | (rw [if_neg (by omega)]) | (rw [if_pos (by omega)]))
  have h2 : q_ln (24 + r) = 5 := by unfold q_ln; repeat (first | rfl | (rw [if_neg (by omega)]) | (rw [if_pos (by omega)]))
  have h := q_upI (G := G) (sc := sc) (ia := ia) (la := la) (24 + r) (by omega) f
  rw [h1, h2, show 7 + (24 + r) = 31 + r by omega] at h
  exact h
theorem q_v49 {G : Gv} {sc : Sc} {ia : Ia} {la : La} : q_val G sc ia la 49 = .inl (G.2.2 4, 32, .inr (.inr (.inr (.inr (fun i => if i < 32 then some (G.2.1 (53 + i)) else none))))) := rfl
theorem q_v50 {G : Gv} {sc : Sc} {ia : Ia} {la : La} : q_val G sc ia la 50 = .inl (G.2.2 3, 9, .inr (.inr (.inr (.inr (fun i => if i < 9 then some (G.2.1 (17 + i)) else none))))) := rfl
theorem q_v51 {G : Gv} {sc : Sc} {ia : Ia} {la : La} : q_val G sc ia la 51 = .inl (G.2.2 3, 5, .inr (.inr (.inr (.inr (fun i => if i < 5 then some (G.2.1 (26 + i)) else none))))) := rfl
theorem q_v52 {G : Gv} {sc : Sc} {ia : Ia} {la : La} : q_val G sc ia la 52 = .inl (G.2.2 3, 5, .inr (.inr (.inr (.inr (fun i => if i < 5 then some (G.2.1 (31 + i)) else none))))) := rfl
theorem q_l32 {G : Gv} {sc : Sc} {ia : Ia} {la : La} : q_val G sc ia la 85 = .inl (G.2.2 1, 192, .inr (.inl (la 32))) := rfl
theorem q_ul32 {G : Gv} {sc : Sc} {ia : Ia} {la : La} (f : Nat → Int64) : va_up (q_val G sc ia la) 85 (.inl (G.2.2 1, 192, .inr (.inl f))) = q_val G sc ia (va_up la 32 f) := q_upL 32 (by decide) f
theorem q_ulu32 {G : Gv} {sc : Sc} {ia : Ia} {la : La} (g f : Nat → Int64) : va_up (q_val G sc ia (va_up la 32 g)) 85 (.inl (G.2.2 1, 192, .inr (.inl f))) = q_val G sc ia (va_up la 32 f) := by rw [q_ul32, bx_uu]
theorem q_lr {G : Gv} {sc : Sc} {ia : Ia} {la : La} (r : Nat) (hr : r < 32) : q_val G sc ia la (53 + r) = .inl (G.2.2 1, 6, .inr (.inl (la r))) := by
  rw [q_vL r (by omega)]
  unfold q_ll
  rw [if_pos hr]
theorem q_ulr {G : Gv} {sc : Sc} {ia : Ia} {la : La} (r : Nat) (hr : r < 32) (f : Nat → Int64) : va_up (q_val G sc ia la) (53 + r) (.inl (G.2.2 1, 6, .inr (.inl f))) = q_val G sc ia (va_up la r f) := by
  have h := q_upL (G := G) (sc := sc) (ia := ia) (la := la) r (by omega) f
  unfold q_ll at h
  rw [if_pos hr] at h
  exact h
theorem q_s0 {G : Gv} {sc : Sc} {ia : Ia} {la : La} (v : Int32) : va_up (q_val G sc ia la) 2 (.inr (2, (q_ob G.2.1 sc 2).set 0 (.int v))) = q_val G (va_up sc 0 v) ia la := q_upS 2 0 0 (by decide) v rfl (fun k hk hne => by
  rcases (show k = 0 ∨ k = 1 ∨ k = 2 ∨ k = 3 ∨ k = 4 ∨ k = 5 ∨ k = 6 by omega) with h | h | h | h | h | h | h <;> subst h <;> first | rfl | exact absurd rfl hne)
theorem q_ss0 {G : Gv} {sc : Sc} {ia : Ia} {la : La} (w v : Int32) : va_up (q_val G (va_up sc 0 w) ia la) 2 (.inr (2, (q_ob G.2.1 (va_up sc 0 w) 2).set 0 (.int v))) = q_val G (va_up sc 0 v) ia la := by rw [q_s0, bx_uu]
theorem q_s1 {G : Gv} {sc : Sc} {ia : Ia} {la : La} (v : Int32) : va_up (q_val G sc ia la) 1 (.inr (1, (q_ob G.2.1 sc 1).set 2 (.int v))) = q_val G (va_up sc 1 v) ia la := q_upS 1 2 1 (by decide) v rfl (fun k hk hne => by
  rcases (show k = 0 ∨ k = 1 ∨ k = 2 ∨ k = 3 ∨ k = 4 ∨ k = 5 ∨ k = 6 by omega) with h | h | h | h | h | h | h <;> subst h <;> first | rfl | exact absurd rfl hne)
theorem q_ss1 {G : Gv} {sc : Sc} {ia : Ia} {la : La} (w v : Int32) : va_up (q_val G (va_up sc 1 w) ia la) 1 (.inr (1, (q_ob G.2.1 (va_up sc 1 w) 1).set 2 (.int v))) = q_val G (va_up sc 1 v) ia la := by rw [q_s1, bx_uu]
theorem q_s2 {G : Gv} {sc : Sc} {ia : Ia} {la : La} (v : Int32) : va_up (q_val G sc ia la) 1 (.inr (1, (q_ob G.2.1 sc 1).set 3 (.int v))) = q_val G (va_up sc 2 v) ia la := q_upS 1 3 2 (by decide) v rfl (fun k hk hne => by
  rcases (show k = 0 ∨ k = 1 ∨ k = 2 ∨ k = 3 ∨ k = 4 ∨ k = 5 ∨ k = 6 by omega) with h | h | h | h | h | h | h <;> subst h <;> first | rfl | exact absurd rfl hne)
theorem q_ss2 {G : Gv} {sc : Sc} {ia : Ia} {la : La} (w v : Int32) : va_up (q_val G (va_up sc 2 w) ia la) 1 (.inr (1, (q_ob G.2.1 (va_up sc 2 w) 1).set 3 (.int v))) = q_val G (va_up sc 2 v) ia la := by rw [q_s2, bx_uu]
theorem q_s3 {G : Gv} {sc : Sc} {ia : Ia} {la : La} (v : Int32) : va_up (q_val G sc ia la) 4 (.inr (4, (q_ob G.2.1 sc 4).set 0 (.int v))) = q_val G (va_up sc 3 v) ia la := q_upS 4 0 3 (by decide) v rfl (fun k hk hne => by
  rcases (show k = 0 ∨ k = 1 ∨ k = 2 ∨ k = 3 ∨ k = 4 ∨ k = 5 ∨ k = 6 by omega) with h | h | h | h | h | h | h <;> subst h <;> first | rfl | exact absurd rfl hne)
theorem q_ss3 {G : Gv} {sc : Sc} {ia : Ia} {la : La} (w v : Int32) : va_up (q_val G (va_up sc 3 w) ia la) 4 (.inr (4, (q_ob G.2.1 (va_up sc 3 w) 4).set 0 (.int v))) = q_val G (va_up sc 3 v) ia la := by rw [q_s3, bx_uu]
theorem q_s4 {G : Gv} {sc : Sc} {ia : Ia} {la : La} (v : Int32) : va_up (q_val G sc ia la) 4 (.inr (4, (q_ob G.2.1 sc 4).set 1 (.int v))) = q_val G (va_up sc 4 v) ia la := q_upS 4 1 4 (by decide) v rfl (fun k hk hne => by
  rcases (show k = 0 ∨ k = 1 ∨ k = 2 ∨ k = 3 ∨ k = 4 ∨ k = 5 ∨ k = 6 by omega) with h | h | h | h | h | h | h <;> subst h <;> first | rfl | exact absurd rfl hne)
theorem q_ss4 {G : Gv} {sc : Sc} {ia : Ia} {la : La} (w v : Int32) : va_up (q_val G (va_up sc 4 w) ia la) 4 (.inr (4, (q_ob G.2.1 (va_up sc 4 w) 4).set 1 (.int v))) = q_val G (va_up sc 4 v) ia la := by rw [q_s4, bx_uu]
theorem q_s5 {G : Gv} {sc : Sc} {ia : Ia} {la : La} (v : Int32) : va_up (q_val G sc ia la) 3 (.inr (3, (q_ob G.2.1 sc 3).set 0 (.int v))) = q_val G (va_up sc 5 v) ia la := q_upS 3 0 5 (by decide) v rfl (fun k hk hne => by
  rcases (show k = 0 ∨ k = 1 ∨ k = 2 ∨ k = 3 ∨ k = 4 ∨ k = 5 ∨ k = 6 by omega) with h | h | h | h | h | h | h <;> subst h <;> first | rfl | exact absurd rfl hne)
theorem q_ss5 {G : Gv} {sc : Sc} {ia : Ia} {la : La} (w v : Int32) : va_up (q_val G (va_up sc 5 w) ia la) 3 (.inr (3, (q_ob G.2.1 (va_up sc 5 w) 3).set 0 (.int v))) = q_val G (va_up sc 5 v) ia la := by rw [q_s5, bx_uu]
theorem q_s6 {G : Gv} {sc : Sc} {ia : Ia} {la : La} (v : Int32) : va_up (q_val G sc ia la) 0 (.inr (0, (q_ob G.2.1 sc 0).set 0 (.int v))) = q_val G (va_up sc 6 v) ia la := q_upS 0 0 6 (by decide) v rfl (fun k hk hne => by
  rcases (show k = 0 ∨ k = 1 ∨ k = 2 ∨ k = 3 ∨ k = 4 ∨ k = 5 ∨ k = 6 by omega) with h | h | h | h | h | h | h <;> subst h <;> first | rfl | exact absurd rfl hne)
theorem q_ss6 {G : Gv} {sc : Sc} {ia : Ia} {la : La} (w v : Int32) : va_up (q_val G (va_up sc 6 w) ia la) 0 (.inr (0, (q_ob G.2.1 (va_up sc 6 w) 0).set 0 (.int v))) = q_val G (va_up sc 6 v) ia la := by rw [q_s6, bx_uu]
theorem q_s7 {G : Gv} {sc : Sc} {ia : Ia} {la : La} (v : Int32) : va_up (q_val G sc ia la) 6 (.inr (6, (q_ob G.2.1 sc 6).set 0 (.int v))) = q_val G (va_up sc 7 v) ia la := q_upS 6 0 7 (by decide) v rfl (fun k hk hne => by
  rcases (show k = 0 ∨ k = 1 ∨ k = 2 ∨ k = 3 ∨ k = 4 ∨ k = 5 ∨ k = 6 by omega) with h | h | h | h | h | h | h <;> subst h <;> first | rfl | exact absurd rfl hne)
theorem q_ss7 {G : Gv} {sc : Sc} {ia : Ia} {la : La} (w v : Int32) : va_up (q_val G (va_up sc 7 w) ia la) 6 (.inr (6, (q_ob G.2.1 (va_up sc 7 w) 6).set 0 (.int v))) = q_val G (va_up sc 7 v) ia la := by rw [q_s7, bx_uu]
theorem q_s8 {G : Gv} {sc : Sc} {ia : Ia} {la : La} (v : Int32) : va_up (q_val G sc ia la) 6 (.inr (6, (q_ob G.2.1 sc 6).set 9 (.int v))) = q_val G (va_up sc 8 v) ia la := q_upS 6 9 8 (by decide) v rfl (fun k hk hne => by
  rcases (show k = 0 ∨ k = 1 ∨ k = 2 ∨ k = 3 ∨ k = 4 ∨ k = 5 ∨ k = 6 by omega) with h | h | h | h | h | h | h <;> subst h <;> first | rfl | exact absurd rfl hne)
theorem q_ss8 {G : Gv} {sc : Sc} {ia : Ia} {la : La} (w v : Int32) : va_up (q_val G (va_up sc 8 w) ia la) 6 (.inr (6, (q_ob G.2.1 (va_up sc 8 w) 6).set 9 (.int v))) = q_val G (va_up sc 8 v) ia la := by rw [q_s8, bx_uu]
theorem q_s9 {G : Gv} {sc : Sc} {ia : Ia} {la : La} (v : Int32) : va_up (q_val G sc ia la) 6 (.inr (6, (q_ob G.2.1 sc 6).set 11 (.int v))) = q_val G (va_up sc 9 v) ia la := q_upS 6 11 9 (by decide) v rfl (fun k hk hne => by
  rcases (show k = 0 ∨ k = 1 ∨ k = 2 ∨ k = 3 ∨ k = 4 ∨ k = 5 ∨ k = 6 by omega) with h | h | h | h | h | h | h <;> subst h <;> first | rfl | exact absurd rfl hne)
theorem q_ss9 {G : Gv} {sc : Sc} {ia : Ia} {la : La} (w v : Int32) : va_up (q_val G (va_up sc 9 w) ia la) 6 (.inr (6, (q_ob G.2.1 (va_up sc 9 w) 6).set 11 (.int v))) = q_val G (va_up sc 9 v) ia la := by rw [q_s9, bx_uu]
theorem q_s10 {G : Gv} {sc : Sc} {ia : Ia} {la : La} (v : Int32) : va_up (q_val G sc ia la) 6 (.inr (6, (q_ob G.2.1 sc 6).set 13 (.int v))) = q_val G (va_up sc 10 v) ia la := q_upS 6 13 10 (by decide) v rfl (fun k hk hne => by
  rcases (show k = 0 ∨ k = 1 ∨ k = 2 ∨ k = 3 ∨ k = 4 ∨ k = 5 ∨ k = 6 by omega) with h | h | h | h | h | h | h <;> subst h <;> first | rfl | exact absurd rfl hne)
theorem q_ss10 {G : Gv} {sc : Sc} {ia : Ia} {la : La} (w v : Int32) : va_up (q_val G (va_up sc 10 w) ia la) 6 (.inr (6, (q_ob G.2.1 (va_up sc 10 w) 6).set 13 (.int v))) = q_val G (va_up sc 10 v) ia la := by rw [q_s10, bx_uu]
theorem q_s11 {G : Gv} {sc : Sc} {ia : Ia} {la : La} (v : Int32) : va_up (q_val G sc ia la) 6 (.inr (6, (q_ob G.2.1 sc 6).set 14 (.int v))) = q_val G (va_up sc 11 v) ia la := q_upS 6 14 11 (by decide) v rfl (fun k hk hne => by
  rcases (show k = 0 ∨ k = 1 ∨ k = 2 ∨ k = 3 ∨ k = 4 ∨ k = 5 ∨ k = 6 by omega) with h | h | h | h | h | h | h <;> subst h <;> first | rfl | exact absurd rfl hne)
theorem q_ss11 {G : Gv} {sc : Sc} {ia : Ia} {la : La} (w v : Int32) : va_up (q_val G (va_up sc 11 w) ia la) 6 (.inr (6, (q_ob G.2.1 (va_up sc 11 w) 6).set 14 (.int v))) = q_val G (va_up sc 11 v) ia la := by rw [q_s11, bx_uu]
theorem q_s12 {G : Gv} {sc : Sc} {ia : Ia} {la : La} (v : Int32) : va_up (q_val G sc ia la) 6 (.inr (6, (q_ob G.2.1 sc 6).set 16 (.int v))) = q_val G (va_up sc 12 v) ia la := q_upS 6 16 12 (by decide) v rfl (fun k hk hne => by
  rcases (show k = 0 ∨ k = 1 ∨ k = 2 ∨ k = 3 ∨ k = 4 ∨ k = 5 ∨ k = 6 by omega) with h | h | h | h | h | h | h <;> subst h <;> first | rfl | exact absurd rfl hne)
theorem q_ss12 {G : Gv} {sc : Sc} {ia : Ia} {la : La} (w v : Int32) : va_up (q_val G (va_up sc 12 w) ia la) 6 (.inr (6, (q_ob G.2.1 (va_up sc 12 w) 6).set 16 (.int v))) = q_val G (va_up sc 12 v) ia la := by rw [q_s12, bx_uu]
theorem q_s13 {G : Gv} {sc : Sc} {ia : Ia} {la : La} (v : Int32) : va_up (q_val G sc ia la) 6 (.inr (6, (q_ob G.2.1 sc 6).set 19 (.int v))) = q_val G (va_up sc 13 v) ia la := q_upS 6 19 13 (by decide) v rfl (fun k hk hne => by
  rcases (show k = 0 ∨ k = 1 ∨ k = 2 ∨ k = 3 ∨ k = 4 ∨ k = 5 ∨ k = 6 by omega) with h | h | h | h | h | h | h <;> subst h <;> first | rfl | exact absurd rfl hne)
theorem q_ss13 {G : Gv} {sc : Sc} {ia : Ia} {la : La} (w v : Int32) : va_up (q_val G (va_up sc 13 w) ia la) 6 (.inr (6, (q_ob G.2.1 (va_up sc 13 w) 6).set 19 (.int v))) = q_val G (va_up sc 13 v) ia la := by rw [q_s13, bx_uu]
theorem q_s14 {G : Gv} {sc : Sc} {ia : Ia} {la : La} (v : Int32) : va_up (q_val G sc ia la) 6 (.inr (6, (q_ob G.2.1 sc 6).set 20 (.int v))) = q_val G (va_up sc 14 v) ia la := q_upS 6 20 14 (by decide) v rfl (fun k hk hne => by
  rcases (show k = 0 ∨ k = 1 ∨ k = 2 ∨ k = 3 ∨ k = 4 ∨ k = 5 ∨ k = 6 by omega) with h | h | h | h | h | h | h <;> subst h <;> first | rfl | exact absurd rfl hne)
theorem q_ss14 {G : Gv} {sc : Sc} {ia : Ia} {la : La} (w v : Int32) : va_up (q_val G (va_up sc 14 w) ia la) 6 (.inr (6, (q_ob G.2.1 (va_up sc 14 w) 6).set 20 (.int v))) = q_val G (va_up sc 14 v) ia la := by rw [q_s14, bx_uu]
theorem q_s15 {G : Gv} {sc : Sc} {ia : Ia} {la : La} (v : Int32) : va_up (q_val G sc ia la) 6 (.inr (6, (q_ob G.2.1 sc 6).set 21 (.int v))) = q_val G (va_up sc 15 v) ia la := q_upS 6 21 15 (by decide) v rfl (fun k hk hne => by
  rcases (show k = 0 ∨ k = 1 ∨ k = 2 ∨ k = 3 ∨ k = 4 ∨ k = 5 ∨ k = 6 by omega) with h | h | h | h | h | h | h <;> subst h <;> first | rfl | exact absurd rfl hne)
theorem q_ss15 {G : Gv} {sc : Sc} {ia : Ia} {la : La} (w v : Int32) : va_up (q_val G (va_up sc 15 w) ia la) 6 (.inr (6, (q_ob G.2.1 (va_up sc 15 w) 6).set 21 (.int v))) = q_val G (va_up sc 15 v) ia la := by rw [q_s15, bx_uu]
theorem q_s16 {G : Gv} {sc : Sc} {ia : Ia} {la : La} (v : Int32) : va_up (q_val G sc ia la) 6 (.inr (6, (q_ob G.2.1 sc 6).set 22 (.int v))) = q_val G (va_up sc 16 v) ia la := q_upS 6 22 16 (by decide) v rfl (fun k hk hne => by
  rcases (show k = 0 ∨ k = 1 ∨ k = 2 ∨ k = 3 ∨ k = 4 ∨ k = 5 ∨ k = 6 by omega) with h | h | h | h | h | h | h <;> subst h <;> first | rfl | exact absurd rfl hne)
theorem q_ss16 {G : Gv} {sc : Sc} {ia : Ia} {la : La} (w v : Int32) : va_up (q_val G (va_up sc 16 w) ia la) 6 (.inr (6, (q_ob G.2.1 (va_up sc 16 w) 6).set 22 (.int v))) = q_val G (va_up sc 16 v) ia la := by rw [q_s16, bx_uu]
theorem q_s17 {G : Gv} {sc : Sc} {ia : Ia} {la : La} (v : Int32) : va_up (q_val G sc ia la) 6 (.inr (6, (q_ob G.2.1 sc 6).set 23 (.int v))) = q_val G (va_up sc 17 v) ia la := q_upS 6 23 17 (by decide) v rfl (fun k hk hne => by
  rcases (show k = 0 ∨ k = 1 ∨ k = 2 ∨ k = 3 ∨ k = 4 ∨ k = 5 ∨ k = 6 by omega) with h | h | h | h | h | h | h <;> subst h <;> first | rfl | exact absurd rfl hne)
theorem q_ss17 {G : Gv} {sc : Sc} {ia : Ia} {la : La} (w v : Int32) : va_up (q_val G (va_up sc 17 w) ia la) 6 (.inr (6, (q_ob G.2.1 (va_up sc 17 w) 6).set 23 (.int v))) = q_val G (va_up sc 17 v) ia la := by rw [q_s17, bx_uu]
end
section

theorem k_I {Z : ZT} {E : Int32} {sc : Sc} {ia : Ia} {la : La} {lv : List (Nat × Value)} {pc : Nat} {rest : List Value} (k : Z sc ia la lv pc (.int E :: rest)) : ∀ (v : Option Value) (a : Sc) (b : Ia) (c : La), fI E sc ia la v a b c → Z a b c lv pc (v.toList ++ rest) := by
  rintro v a b c ⟨rfl, rfl, rfl, rfl⟩
  exact k
theorem k_L {Z : ZT} {E : Int64} {sc : Sc} {ia : Ia} {la : La} {lv : List (Nat × Value)} {pc : Nat} {rest : List Value} (k : Z sc ia la lv pc (.long E :: rest)) : ∀ (v : Option Value) (a : Sc) (b : Ia) (c : La), fL E sc ia la v a b c → Z a b c lv pc (v.toList ++ rest) := by
  rintro v a b c ⟨rfl, rfl, rfl, rfl⟩
  exact k
theorem k_V {Z : ZT} {sc : Sc} {ia : Ia} {la : La} {lv : List (Nat × Value)} {pc : Nat} {rest : List Value} (k : Z sc ia la lv pc rest) : ∀ (v : Option Value) (a : Sc) (b : Ia) (c : La), fV sc ia la v a b c → Z a b c lv pc (v.toList ++ rest) := by
  rintro v a b c ⟨rfl, rfl, rfl, rfl⟩
  exact k
def s_out (v a b : Int32) : Bool := decide (v < a) || !decide (v ≤ b)
def s_gate (m v : Int32) : Bool := !s_out m 0 31 && !s_out v 0 31
def s_pass (j m v : Int32) : Bool := decide ((j ^^^ v) &&& m = 0)
def s_has (i n : Int32) : Bool := !decide (i < 0) && !decide (n ≤ i)
def s_bc (x : Int32) : Int32 :=
  let a := x - ((x.toUInt32 >>> ((1 : Int32).toUInt32 &&& Int32.toUInt32 31)).toInt32 &&& 1431655765)
  let b := (a &&& 858993459) + ((a.toUInt32 >>> ((2 : Int32).toUInt32 &&& Int32.toUInt32 31)).toInt32 &&& 858993459)
  let c := (b + (b.toUInt32 >>> ((4 : Int32).toUInt32 &&& Int32.toUInt32 31)).toInt32) &&& 252645135
  let d := c + (c.toUInt32 >>> ((8 : Int32).toUInt32 &&& Int32.toUInt32 31)).toInt32
  let f := d + (d.toUInt32 >>> ((16 : Int32).toUInt32 &&& Int32.toUInt32 31)).toInt32
  f &&& 63
def s_sgn (i j : Int32) : Int32 := if s_bc (i &&& j) &&& 1 = 0 then 1 else -1
def s_abs (x : Int32) : Int32 := if 0 ≤ x then x else 0 - x
def s_fo (h x : Int64) : Int64 := 31 * h + x
def s_fk (h : Int64) (k : Int32) (x : Int32) : Int64 := if k = 0 then s_fo h 0 else s_fo (s_fo h 1) x.toInt64

set_option maxHeartbeats 4000000 in
set_option maxRecDepth 100000 in
theorem c_X5_isOutside (l : Launch) (G : Gv) (sc : Sc) (ia : Ia) (la : La) (v a b : Int32)  : Ct l yX5_isOutside wsX5_isOutside ({ frames := 0, cells := 0, slots := 0, locals := 0 }) G [.int v, .int a, .int b] sc ia la (fI (bI (s_out v a b)) sc ia la) := by
  refine z_of (maxL := 3) (own := RX5) [(0, .int v), (1, .int a), (2, .int b)] rfl (by decide +kernel) rfl (Nat.le_of_ble_eq_true rfl) rfl (fun Z C E => ?_)
  refine z_iload_n (pc' := 1) C dX5_isOutside_0 rfl 0 rfl rfl ?_
  refine z_iload_n (pc' := 2) C dX5_isOutside_1 rfl 1 rfl rfl ?_
  refine z_icmp_lt (pc' := 5) C 10 dX5_isOutside_2 rfl rfl (fun h_2 => ?_) (fun h_2 => ?_)
  · refine z_iconst (v := 1) (pc' := 11) C dX5_isOutside_10 rfl rfl ?_
    refine z_goto (pc' := 15) C dX5_isOutside_11 rfl ?_
    exact z_zret (E := E) rfl dX5_isOutside_15 (rfl) ⟨(congrArg (fun z => some (Value.int z)) (show _ = _ from (by first | rfl | (simp [s_out, bI, h_2])))), rfl, rfl, rfl⟩
  · refine z_iload_n (pc' := 6) C dX5_isOutside_5 rfl 0 rfl rfl ?_
    refine z_iload_n (pc' := 7) C dX5_isOutside_6 rfl 2 rfl rfl ?_
    refine z_icmp_le (pc' := 10) C 14 dX5_isOutside_7 rfl rfl (fun h_7 => ?_) (fun h_7 => ?_)
    · refine z_iconst (v := 0) (pc' := 15) C dX5_isOutside_14 rfl rfl ?_
      exact z_zret (E := E) rfl dX5_isOutside_15 (rfl) ⟨(congrArg (fun z => some (Value.int z)) (show _ = _ from (by first | rfl | (simp [s_out, bI, h_2, h_7])))), rfl, rfl, rfl⟩
    · refine z_iconst (v := 1) (pc' := 11) C dX5_isOutside_10 rfl rfl ?_
      refine z_goto (pc' := 15) C dX5_isOutside_11 rfl ?_
      exact z_zret (E := E) rfl dX5_isOutside_15 (rfl) ⟨(congrArg (fun z => some (Value.int z)) (show _ = _ from (by first | rfl | (simp [s_out, bI, h_2, h_7])))), rfl, rfl, rfl⟩

theorem c_X5_isOutsideB (l : Launch) (G : Gv) (sc : Sc) (ia : Ia) (la : La) (v a b : Int32) (z : Bool) (h : s_out v a b = z) : Ct l yX5_isOutside wsX5_isOutside ({ frames := 0, cells := 0, slots := 0, locals := 0 }) G [.int v, .int a, .int b] sc ia la (fI (bI z) sc ia la) := h ▸ c_X5_isOutside l G sc ia la v a b
set_option maxHeartbeats 4000000 in
set_option maxRecDepth 100000 in
theorem c_X5_isGate (l : Launch) (G : Gv) (sc : Sc) (ia : Ia) (la : La) (m v : Int32)  : Ct l yX5_isGate wsX5_isGate ({ frames := 1, cells := 0, slots := 0, locals := 22 }) G [.int m, .int v] sc ia la (fI (bI (s_gate m v)) sc ia la) := by
  refine z_of (maxL := 2) (own := RX5) [(0, .int m), (1, .int v)] rfl (by decide +kernel) rfl (Nat.le_of_ble_eq_true rfl) rfl (fun Z C E => ?_)
  refine z_iload_n (pc' := 1) C dX5_isGate_0 rfl 0 rfl rfl ?_
  refine z_iconst (v := 0) (pc' := 2) C dX5_isGate_1 rfl rfl ?_
  refine z_bipush (v := 31) (pc' := 4) C dX5_isGate_2 rfl rfl ?_
  refine z_cS (n := 3) (pc' := 7) (As := [.int m, .int 0, .int 31]) (rest := []) C (c_X5_isOutside l G _ _ _ m 0 31) gX5_isGate_X5_isOutside rfl rfl rfl (by decide +kernel) (by decide) rfl rfl dX5_isGate_4 (Nat.le_of_ble_eq_true rfl) rfl (k_I ?_)
  show Z sc ia la [(0, .int m), (1, .int v)] 7 [.int (bI (s_out m 0 31))]
  refine z_ifB_ne (pc' := 10) C 24 dX5_isGate_7 rfl rfl (fun h_7 => ?_) (fun h_7 => ?_)
  · refine z_iconst (v := 0) (pc' := 25) C dX5_isGate_24 rfl rfl ?_
    exact z_zret (E := E) rfl dX5_isGate_25 (rfl) ⟨(congrArg (fun z => some (Value.int z)) (show _ = _ from (by first | rfl | (simp [s_gate, bI, h_7])))), rfl, rfl, rfl⟩
  · refine z_iload_n (pc' := 11) C dX5_isGate_10 rfl 1 rfl rfl ?_
    refine z_iconst (v := 0) (pc' := 12) C dX5_isGate_11 rfl rfl ?_
    refine z_bipush (v := 31) (pc' := 14) C dX5_isGate_12 rfl rfl ?_
    refine z_cS (n := 3) (pc' := 17) (As := [.int v, .int 0, .int 31]) (rest := []) C (c_X5_isOutside l G _ _ _ v 0 31) gX5_isGate_X5_isOutside rfl rfl rfl (by decide +kernel) (by decide) rfl rfl dX5_isGate_14 (Nat.le_of_ble_eq_true rfl) rfl (k_I ?_)
    show Z sc ia la [(0, .int m), (1, .int v)] 17 [.int (bI (s_out v 0 31))]
    refine z_ifB_ne (pc' := 20) C 24 dX5_isGate_17 rfl rfl (fun h_17 => ?_) (fun h_17 => ?_)
    · refine z_iconst (v := 0) (pc' := 25) C dX5_isGate_24 rfl rfl ?_
      exact z_zret (E := E) rfl dX5_isGate_25 (rfl) ⟨(congrArg (fun z => some (Value.int z)) (show _ = _ from (by first | rfl | (simp [s_gate, bI, h_7, h_17])))), rfl, rfl, rfl⟩
    · refine z_iconst (v := 1) (pc' := 21) C dX5_isGate_20 rfl rfl ?_
      refine z_goto (pc' := 25) C dX5_isGate_21 rfl ?_
      exact z_zret (E := E) rfl dX5_isGate_25 (rfl) ⟨(congrArg (fun z => some (Value.int z)) (show _ = _ from (by first | rfl | (simp [s_gate, bI, h_7, h_17])))), rfl, rfl, rfl⟩

theorem c_X5_isGateB (l : Launch) (G : Gv) (sc : Sc) (ia : Ia) (la : La) (m v : Int32) (z : Bool) (h : s_gate m v = z) : Ct l yX5_isGate wsX5_isGate ({ frames := 1, cells := 0, slots := 0, locals := 22 }) G [.int m, .int v] sc ia la (fI (bI z) sc ia la) := h ▸ c_X5_isGate l G sc ia la m v
set_option maxHeartbeats 4000000 in
set_option maxRecDepth 100000 in
theorem c_X5_passes (l : Launch) (G : Gv) (sc : Sc) (ia : Ia) (la : La) (j m v : Int32)  : Ct l yX5_passes wsX5_passes ({ frames := 0, cells := 0, slots := 0, locals := 0 }) G [.int j, .int m, .int v] sc ia la (fI (bI (s_pass j m v)) sc ia la) := by
  refine z_of (maxL := 3) (own := RX5) [(0, .int j), (1, .int m), (2, .int v)] rfl (by decide +kernel) rfl (Nat.le_of_ble_eq_true rfl) rfl (fun Z C E => ?_)
  refine z_iload_n (pc' := 1) C dX5_passes_0 rfl 0 rfl rfl ?_
  refine z_iload_n (pc' := 2) C dX5_passes_1 rfl 2 rfl rfl ?_
  refine z_ixor (pc' := 3) C dX5_passes_2 rfl ?_
  refine z_iload_n (pc' := 4) C dX5_passes_3 rfl 1 rfl rfl ?_
  refine z_iand (pc' := 5) C dX5_passes_4 rfl ?_
  refine z_if_ne (pc' := 8) C 12 dX5_passes_5 rfl rfl (fun h_5 => ?_) (fun h_5 => ?_)
  · refine z_iconst (v := 0) (pc' := 13) C dX5_passes_12 rfl rfl ?_
    exact z_zret (E := E) rfl dX5_passes_13 (rfl) ⟨(congrArg (fun z => some (Value.int z)) (show _ = _ from (by first | rfl | (simp [s_pass, bI, h_5])))), rfl, rfl, rfl⟩
  · refine z_iconst (v := 1) (pc' := 9) C dX5_passes_8 rfl rfl ?_
    refine z_goto (pc' := 13) C dX5_passes_9 rfl ?_
    exact z_zret (E := E) rfl dX5_passes_13 (rfl) ⟨(congrArg (fun z => some (Value.int z)) (show _ = _ from (by first | rfl | (simp [s_pass, bI, h_5])))), rfl, rfl, rfl⟩

set_option maxHeartbeats 4000000 in
set_option maxRecDepth 100000 in
theorem c_J6_bitCount_0f7a4 (l : Launch) (G : Gv) (sc : Sc) (ia : Ia) (la : La) (x : Int32)  : Ct l yJ6_bitCount_0f7a4 wsJ6_bitCount_0f7a4 ({ frames := 0, cells := 0, slots := 0, locals := 0 }) G [.int x] sc ia la (fI (s_bc x) sc ia la) := by
  refine z_of (maxL := 1) (own := RJ6) [(0, .int x)] rfl (by decide +kernel) rfl (Nat.le_of_ble_eq_true rfl) rfl (fun Z C E => ?_)
  refine z_iload_n (pc' := 1) C dJ6_bitCount_0f7a4_0 rfl 0 rfl rfl ?_
  refine z_iload_n (pc' := 2) C dJ6_bitCount_0f7a4_1 rfl 0 rfl rfl ?_
  refine z_iconst (v := 1) (pc' := 3) C dJ6_bitCount_0f7a4_2 rfl rfl ?_
  refine z_iushr (pc' := 4) C dJ6_bitCount_0f7a4_3 rfl ?_
  refine z_ldcw (v := 1431655765) (pc' := 7) C (by decide +kernel) dJ6_bitCount_0f7a4_4 rfl ?_
  refine z_iand (pc' := 8) C dJ6_bitCount_0f7a4_7 rfl ?_
  refine z_isub (pc' := 9) C dJ6_bitCount_0f7a4_8 rfl ?_
  refine z_istore_n (lv' := [(0, .int (x - (((x.toUInt32 >>> ((1 : Int32).toUInt32 &&& Int32.toUInt32 31)).toInt32) &&& 1431655765)))]) (pc' := 10) C dJ6_bitCount_0f7a4_9 rfl (by decide) rfl rfl ?_
  refine z_iload_n (pc' := 11) C dJ6_bitCount_0f7a4_10 rfl 0 rfl rfl ?_
  refine z_ldcw (v := 858993459) (pc' := 14) C (by decide +kernel) dJ6_bitCount_0f7a4_11 rfl ?_
  refine z_iand (pc' := 15) C dJ6_bitCount_0f7a4_14 rfl ?_
  refine z_iload_n (pc' := 16) C dJ6_bitCount_0f7a4_15 rfl 0 rfl rfl ?_
  refine z_iconst (v := 2) (pc' := 17) C dJ6_bitCount_0f7a4_16 rfl rfl ?_
  refine z_iushr (pc' := 18) C dJ6_bitCount_0f7a4_17 rfl ?_
  refine z_ldcw (v := 858993459) (pc' := 21) C (by decide +kernel) dJ6_bitCount_0f7a4_18 rfl ?_
  refine z_iand (pc' := 22) C dJ6_bitCount_0f7a4_21 rfl ?_
  refine z_iadd (pc' := 23) C dJ6_bitCount_0f7a4_22 rfl ?_
  refine z_istore_n (lv' := [(0, .int (((x - (((x.toUInt32 >>> ((1 : Int32).toUInt32 &&& Int32.toUInt32 31)).toInt32) &&& 1431655765)) &&& 858993459) + ((((x - (((x.toUInt32 >>> ((1 : Int32).toUInt32 &&& Int32.toUInt32 31)).toInt32) &&& 1431655765)).toUInt32 >>> ((2 : Int32).toUInt32 &&& Int32.toUInt32 31)).toInt32) &&& 858993459)))]) (pc' := 24) C dJ6_bitCount_0f7a4_23 rfl (by decide) rfl rfl ?_
  refine z_iload_n (pc' := 25) C dJ6_bitCount_0f7a4_24 rfl 0 rfl rfl ?_
  refine z_iload_n (pc' := 26) C dJ6_bitCount_0f7a4_25 rfl 0 rfl rfl ?_
  refine z_iconst (v := 4) (pc' := 27) C dJ6_bitCount_0f7a4_26 rfl rfl ?_
  refine z_iushr (pc' := 28) C dJ6_bitCount_0f7a4_27 rfl ?_
  refine z_iadd (pc' := 29) C dJ6_bitCount_0f7a4_28 rfl ?_
  refine z_ldcw (v := 252645135) (pc' := 32) C (by decide +kernel) dJ6_bitCount_0f7a4_29 rfl ?_
  refine z_iand (pc' := 33) C dJ6_bitCount_0f7a4_32 rfl ?_
  refine z_istore_n (lv' := [(0, .int (((((x - (((x.toUInt32 >>> ((1 : Int32).toUInt32 &&& Int32.toUInt32 31)).toInt32) &&& 1431655765)) &&& 858993459) + ((((x - (((x.toUInt32 >>> ((1 : Int32).toUInt32 &&& Int32.toUInt32 31)).toInt32) &&& 1431655765)).toUInt32 >>> ((2 : Int32).toUInt32 &&& Int32.toUInt32 31)).toInt32) &&& 858993459)) + (((((x - (((x.toUInt32 >>> ((1 : Int32).toUInt32 &&& Int32.toUInt32 31)).toInt32) &&& 1431655765)) &&& 858993459) + ((((x - (((x.toUInt32 >>> ((1 : Int32).toUInt32 &&& Int32.toUInt32 31)).toInt32) &&& 1431655765)).toUInt32 >>> ((2 : Int32).toUInt32 &&& Int32.toUInt32 31)).toInt32) &&& 858993459)).toUInt32 >>> ((4 : Int32).toUInt32 &&& Int32.toUInt32 31)).toInt32)) &&& 252645135))]) (pc' := 34) C dJ6_bitCount_0f7a4_33 rfl (by decide) rfl rfl ?_
  refine z_iload_n (pc' := 35) C dJ6_bitCount_0f7a4_34 rfl 0 rfl rfl ?_
  refine z_iload_n (pc' := 36) C dJ6_bitCount_0f7a4_35 rfl 0 rfl rfl ?_
  refine z_bipush (v := 8) (pc' := 38) C dJ6_bitCount_0f7a4_36 rfl rfl ?_
  refine z_iushr (pc' := 39) C dJ6_bitCount_0f7a4_38 rfl ?_
  refine z_iadd (pc' := 40) C dJ6_bitCount_0f7a4_39 rfl ?_
  refine z_istore_n (lv' := [(0, .int ((((((x - (((x.toUInt32 >>> ((1 : Int32).toUInt32 &&& Int32.toUInt32 31)).toInt32) &&& 1431655765)) &&& 858993459) + ((((x - (((x.toUInt32 >>> ((1 : Int32).toUInt32 &&& Int32.toUInt32 31)).toInt32) &&& 1431655765)).toUInt32 >>> ((2 : Int32).toUInt32 &&& Int32.toUInt32 31)).toInt32) &&& 858993459)) + (((((x - (((x.toUInt32 >>> ((1 : Int32).toUInt32 &&& Int32.toUInt32 31)).toInt32) &&& 1431655765)) &&& 858993459) + ((((x - (((x.toUInt32 >>> ((1 : Int32).toUInt32 &&& Int32.toUInt32 31)).toInt32) &&& 1431655765)).toUInt32 >>> ((2 : Int32).toUInt32 &&& Int32.toUInt32 31)).toInt32) &&& 858993459)).toUInt32 >>> ((4 : Int32).toUInt32 &&& Int32.toUInt32 31)).toInt32)) &&& 252645135) + (((((((x - (((x.toUInt32 >>> ((1 : Int32).toUInt32 &&& Int32.toUInt32 31)).toInt32) &&& 1431655765)) &&& 858993459) + ((((x - (((x.toUInt32 >>> ((1 : Int32).toUInt32 &&& Int32.toUInt32 31)).toInt32) &&& 1431655765)).toUInt32 >>> ((2 : Int32).toUInt32 &&& Int32.toUInt32 31)).toInt32) &&& 858993459)) + (((((x - (((x.toUInt32 >>> ((1 : Int32).toUInt32 &&& Int32.toUInt32 31)).toInt32) &&& 1431655765)) &&& 858993459) + ((((x - (((x.toUInt32 >>> ((1 : Int32).toUInt32 &&& Int32.toUInt32 31)).toInt32) &&& 1431655765)).toUInt32 >>> ((2 : Int32).toUInt32 &&& Int32.toUInt32 31)).toInt32) &&& 858993459)).toUInt32 >>> ((4 : Int32).toUInt32 &&& Int32.toUInt32 31)).toInt32)) &&& 252645135).toUInt32 >>> ((8 : Int32).toUInt32 &&& Int32.toUInt32 31)).toInt32)))]) (pc' := 41) C dJ6_bitCount_0f7a4_40 rfl (by decide) rfl rfl ?_
  refine z_iload_n (pc' := 42) C dJ6_bitCount_0f7a4_41 rfl 0 rfl rfl ?_
  refine z_iload_n (pc' := 43) C dJ6_bitCount_0f7a4_42 rfl 0 rfl rfl ?_
  refine z_bipush (v := 16) (pc' := 45) C dJ6_bitCount_0f7a4_43 rfl rfl ?_
  refine z_iushr (pc' := 46) C dJ6_bitCount_0f7a4_45 rfl ?_
  refine z_iadd (pc' := 47) C dJ6_bitCount_0f7a4_46 rfl ?_
  refine z_istore_n (lv' := [(0, .int (((((((x - (((x.toUInt32 >>> ((1 : Int32).toUInt32 &&& Int32.toUInt32 31)).toInt32) &&& 1431655765)) &&& 858993459) + ((((x - (((x.toUInt32 >>> ((1 : Int32).toUInt32 &&& Int32.toUInt32 31)).toInt32) &&& 1431655765)).toUInt32 >>> ((2 : Int32).toUInt32 &&& Int32.toUInt32 31)).toInt32) &&& 858993459)) + (((((x - (((x.toUInt32 >>> ((1 : Int32).toUInt32 &&& Int32.toUInt32 31)).toInt32) &&& 1431655765)) &&& 858993459) + ((((x - (((x.toUInt32 >>> ((1 : Int32).toUInt32 &&& Int32.toUInt32 31)).toInt32) &&& 1431655765)).toUInt32 >>> ((2 : Int32).toUInt32 &&& Int32.toUInt32 31)).toInt32) &&& 858993459)).toUInt32 >>> ((4 : Int32).toUInt32 &&& Int32.toUInt32 31)).toInt32)) &&& 252645135) + (((((((x - (((x.toUInt32 >>> ((1 : Int32).toUInt32 &&& Int32.toUInt32 31)).toInt32) &&& 1431655765)) &&& 858993459) + ((((x - (((x.toUInt32 >>> ((1 : Int32).toUInt32 &&& Int32.toUInt32 31)).toInt32) &&& 1431655765)).toUInt32 >>> ((2 : Int32).toUInt32 &&& Int32.toUInt32 31)).toInt32) &&& 858993459)) + (((((x - (((x.toUInt32 >>> ((1 : Int32).toUInt32 &&& Int32.toUInt32 31)).toInt32) &&& 1431655765)) &&& 858993459) + ((((x - (((x.toUInt32 >>> ((1 : Int32).toUInt32 &&& Int32.toUInt32 31)).toInt32) &&& 1431655765)).toUInt32 >>> ((2 : Int32).toUInt32 &&& Int32.toUInt32 31)).toInt32) &&& 858993459)).toUInt32 >>> ((4 : Int32).toUInt32 &&& Int32.toUInt32 31)).toInt32)) &&& 252645135).toUInt32 >>> ((8 : Int32).toUInt32 &&& Int32.toUInt32 31)).toInt32)) + ((((((((x - (((x.toUInt32 >>> ((1 : Int32).toUInt32 &&& Int32.toUInt32 31)).toInt32) &&& 1431655765)) &&& 858993459) + ((((x - (((x.toUInt32 >>> ((1 : Int32).toUInt32 &&& Int32.toUInt32 31)).toInt32) &&& 1431655765)).toUInt32 >>> ((2 : Int32).toUInt32 &&& Int32.toUInt32 31)).toInt32) &&& 858993459)) + (((((x - (((x.toUInt32 >>> ((1 : Int32).toUInt32 &&& Int32.toUInt32 31)).toInt32) &&& 1431655765)) &&& 858993459) + ((((x - (((x.toUInt32 >>> ((1 : Int32).toUInt32 &&& Int32.toUInt32 31)).toInt32) &&& 1431655765)).toUInt32 >>> ((2 : Int32).toUInt32 &&& Int32.toUInt32 31)).toInt32) &&& 858993459)).toUInt32 >>> ((4 : Int32).toUInt32 &&& Int32.toUInt32 31)).toInt32)) &&& 252645135) + (((((((x - (((x.toUInt32 >>> ((1 : Int32).toUInt32 &&& Int32.toUInt32 31)).toInt32) &&& 1431655765)) &&& 858993459) + ((((x - (((x.toUInt32 >>> ((1 : Int32).toUInt32 &&& Int32.toUInt32 31)).toInt32) &&& 1431655765)).toUInt32 >>> ((2 : Int32).toUInt32 &&& Int32.toUInt32 31)).toInt32) &&& 858993459)) + (((((x - (((x.toUInt32 >>> ((1 : Int32).toUInt32 &&& Int32.toUInt32 31)).toInt32) &&& 1431655765)) &&& 858993459) + ((((x - (((x.toUInt32 >>> ((1 : Int32).toUInt32 &&& Int32.toUInt32 31)).toInt32) &&& 1431655765)).toUInt32 >>> ((2 : Int32).toUInt32 &&& Int32.toUInt32 31)).toInt32) &&& 858993459)).toUInt32 >>> ((4 : Int32).toUInt32 &&& Int32.toUInt32 31)).toInt32)) &&& 252645135).toUInt32 >>> ((8 : Int32).toUInt32 &&& Int32.toUInt32 31)).toInt32)).toUInt32 >>> ((16 : Int32).toUInt32 &&& Int32.toUInt32 31)).toInt32)))]) (pc' := 48) C dJ6_bitCount_0f7a4_47 rfl (by decide) rfl rfl ?_
  refine z_iload_n (pc' := 49) C dJ6_bitCount_0f7a4_48 rfl 0 rfl rfl ?_
  refine z_bipush (v := 63) (pc' := 51) C dJ6_bitCount_0f7a4_49 rfl rfl ?_
  refine z_iand (pc' := 52) C dJ6_bitCount_0f7a4_51 rfl ?_
  exact z_iret (E := E) rfl dJ6_bitCount_0f7a4_52 ⟨(congrArg (fun z => some (Value.int z)) rfl), rfl, rfl, rfl⟩

set_option maxHeartbeats 4000000 in
set_option maxRecDepth 100000 in
theorem c_X5_signOf (l : Launch) (G : Gv) (sc : Sc) (ia : Ia) (la : La) (i j : Int32)  : Ct l yX5_signOf wsX5_signOf ({ frames := 1, cells := 0, slots := 0, locals := 20 }) G [.int i, .int j] sc ia la (fI (s_sgn i j) sc ia la) := by
  refine z_of (maxL := 2) (own := RX5) [(0, .int i), (1, .int j)] rfl (by decide +kernel) rfl (Nat.le_of_ble_eq_true rfl) rfl (fun Z C E => ?_)
  refine z_iload_n (pc' := 1) C dX5_signOf_0 rfl 0 rfl rfl ?_
  refine z_iload_n (pc' := 2) C dX5_signOf_1 rfl 1 rfl rfl ?_
  refine z_iand (pc' := 3) C dX5_signOf_2 rfl ?_
  refine z_cS (n := 1) (pc' := 6) (As := [.int (i &&& j)]) (rest := []) C (c_J6_bitCount_0f7a4 l G _ _ _ (i &&& j)) gX5_signOf_J6_bitCount_0f7a4 rfl rfl rfl (by decide +kernel) (by decide) rfl rfl dX5_signOf_3 (Nat.le_of_ble_eq_true rfl) rfl (k_I ?_)
  show Z sc ia la [(0, .int i), (1, .int j)] 6 [.int (s_bc (i &&& j))]
  refine z_iconst (v := 1) (pc' := 7) C dX5_signOf_6 rfl rfl ?_
  refine z_iand (pc' := 8) C dX5_signOf_7 rfl ?_
  refine z_if_ne (pc' := 11) C 15 dX5_signOf_8 rfl rfl (fun h_8 => ?_) (fun h_8 => ?_)
  · refine z_iconst (v := -1) (pc' := 16) C dX5_signOf_15 rfl rfl ?_
    exact z_iret (E := E) rfl dX5_signOf_16 ⟨(congrArg (fun z => some (Value.int z)) (show _ = _ from (by first | rfl | (simp [s_sgn, h_8])))), rfl, rfl, rfl⟩
  · refine z_iconst (v := 1) (pc' := 12) C dX5_signOf_11 rfl rfl ?_
    refine z_goto (pc' := 16) C dX5_signOf_12 rfl ?_
    exact z_iret (E := E) rfl dX5_signOf_16 ⟨(congrArg (fun z => some (Value.int z)) (show _ = _ from (by first | rfl | (simp [s_sgn, h_8])))), rfl, rfl, rfl⟩

set_option maxHeartbeats 4000000 in
set_option maxRecDepth 100000 in
theorem c_X5_fold (l : Launch) (G : Gv) (sc : Sc) (ia : Ia) (la : La) (h x : Int64)  : Ct l yX5_fold wsX5_fold ({ frames := 0, cells := 0, slots := 0, locals := 0 }) G [.long h, .long x] sc ia la (fL (s_fo h x) sc ia la) := by
  refine z_of (maxL := 4) (own := RX5) [(0, .long h), (2, .long x)] rfl (by decide +kernel) rfl (Nat.le_of_ble_eq_true rfl) rfl (fun Z C E => ?_)
  refine z_ldc2 (v := 31) (pc' := 3) C (by decide +kernel) dX5_fold_0 rfl ?_
  refine z_lload_n (pc' := 4) C dX5_fold_3 rfl 0 rfl rfl ?_
  refine z_lmul (pc' := 5) C dX5_fold_4 rfl ?_
  refine z_lload_n (pc' := 6) C dX5_fold_5 rfl 1 rfl rfl ?_
  refine z_ladd (pc' := 7) C dX5_fold_6 rfl ?_
  exact z_lret (E := E) rfl dX5_fold_7 ⟨(congrArg (fun z => some (Value.long z)) rfl), rfl, rfl, rfl⟩

set_option maxHeartbeats 4000000 in
set_option maxRecDepth 100000 in
theorem c_X5_foldIfKnown (l : Launch) (G : Gv) (sc : Sc) (ia : Ia) (la : La) (h : Int64) (k x : Int32)  : Ct l yX5_foldIfKnown wsX5_foldIfKnown ({ frames := 1, cells := 0, slots := 0, locals := 23 }) G [.long h, .int k, .int x] sc ia la (fL (s_fk h k x) sc ia la) := by
  refine z_of (maxL := 4) (own := RX5) [(0, .long h), (2, .int k), (3, .int x)] rfl (by decide +kernel) rfl (Nat.le_of_ble_eq_true rfl) rfl (fun Z C E => ?_)
  refine z_iload_n (pc' := 1) C dX5_foldIfKnown_0 rfl 1 rfl rfl ?_
  refine z_if_eq (pc' := 4) C 17 dX5_foldIfKnown_1 rfl rfl (fun h_1 => ?_) (fun h_1 => ?_)
  · refine z_lload_n (pc' := 18) C dX5_foldIfKnown_17 rfl 0 rfl rfl ?_
    refine z_lconst (v := 0) (pc' := 19) C dX5_foldIfKnown_18 rfl rfl ?_
    refine z_cS (n := 2) (pc' := 22) (As := [.long h, .long 0]) (rest := []) C (c_X5_fold l G _ _ _ h 0) gX5_foldIfKnown_X5_fold rfl rfl rfl (by decide +kernel) (by decide) rfl rfl dX5_foldIfKnown_19 (Nat.le_of_ble_eq_true rfl) rfl (k_L ?_)
    show Z sc ia la [(0, .long h), (2, .int k), (3, .int x)] 22 [.long (s_fo h 0)]
    exact z_lret (E := E) rfl dX5_foldIfKnown_22 ⟨(congrArg (fun z => some (Value.long z)) (show _ = _ from (by first | rfl | (simp [s_fk, h_1])))), rfl, rfl, rfl⟩
  · refine z_lload_n (pc' := 5) C dX5_foldIfKnown_4 rfl 0 rfl rfl ?_
    refine z_lconst (v := 1) (pc' := 6) C dX5_foldIfKnown_5 rfl rfl ?_
    refine z_cS (n := 2) (pc' := 9) (As := [.long h, .long 1]) (rest := []) C (c_X5_fold l G _ _ _ h 1) gX5_foldIfKnown_X5_fold rfl rfl rfl (by decide +kernel) (by decide) rfl rfl dX5_foldIfKnown_6 (Nat.le_of_ble_eq_true rfl) rfl (k_L ?_)
    show Z sc ia la [(0, .long h), (2, .int k), (3, .int x)] 9 [.long (s_fo h 1)]
    refine z_iload_n (pc' := 10) C dX5_foldIfKnown_9 rfl 2 rfl rfl ?_
    refine z_i2l (pc' := 11) C dX5_foldIfKnown_10 rfl ?_
    refine z_cS (n := 2) (pc' := 14) (As := [.long (s_fo h 1), .long x.toInt64]) (rest := []) C (c_X5_fold l G _ _ _ (s_fo h 1) x.toInt64) gX5_foldIfKnown_X5_fold rfl rfl rfl (by decide +kernel) (by decide) rfl rfl dX5_foldIfKnown_11 (Nat.le_of_ble_eq_true rfl) rfl (k_L ?_)
    show Z sc ia la [(0, .long h), (2, .int k), (3, .int x)] 14 [.long (s_fo (s_fo h 1) x.toInt64)]
    refine z_goto (pc' := 22) C dX5_foldIfKnown_14 rfl ?_
    exact z_lret (E := E) rfl dX5_foldIfKnown_22 ⟨(congrArg (fun z => some (Value.long z)) (show _ = _ from (by first | rfl | (simp [s_fk, h_1])))), rfl, rfl, rfl⟩
end
section

theorem va_same {α : Type} (f : Nat → α) (k : Nat) : f = va_up f k (f k) := by
  funext j
  unfold va_up
  by_cases h : j = k
  · rw [if_pos h, h]
  · rw [if_neg h]
def s_all (p : Nat → Bool) : Nat → Bool
  | 0 => true
  | n + 1 => s_all p n && p n
theorem s_all_f {p : Nat → Bool} {n i : Nat} (hi : i < n) (h : p i = false) : s_all p n = false := by
  induction n with
  | zero => omega
  | succ n ih =>
    show (s_all p n && p n) = false
    by_cases e : i = n
    · subst e; rw [h, Bool.and_false]
    · rw [ih (by omega), Bool.false_and]
theorem s_all_s {p : Nat → Bool} {n : Nat} (h : s_all p n = true) (h2 : p n = true) : s_all p (n + 1) = true := by
  show (s_all p n && p n) = true
  rw [h, h2]; rfl
def s_fi (p : Nat → Bool) : Nat → Option Nat
  | 0 => none
  | n + 1 => match s_fi p n with
    | some j => some j
    | none => if p n = true then some n else none
def s_oi (o : Option Nat) : Int32 := match o with
  | none => -1
  | some j => nI j
theorem s_fi_n {p : Nat → Bool} {n : Nat} (h : ∀ j, j < n → p j = false) : s_fi p n = none := by
  induction n with
  | zero => rfl
  | succ n ih =>
    have h1 := ih (fun j hj => h j (by omega))
    have h2 := h n (by omega)
    simp [s_fi, h1, h2]
theorem s_fi_s {p : Nat → Bool} {n i : Nat} (h : ∀ j, j < i → p j = false) (hi : i < n) (h2 : p i = true) : s_fi p n = some i := by
  induction n with
  | zero => omega
  | succ n ih =>
    by_cases e : i = n
    · subst e
      have h1 := s_fi_n (p := p) (n := i) h
      simp [s_fi, h1, h2]
    · have h1 := ih (by omega)
      simp [s_fi, h1]
theorem s_lt_s {p : Nat → Bool} {i : Nat} (h : ∀ j, j < i → p j = false) (h2 : p i = false) : ∀ j, j < i + 1 → p j = false := fun j hj => by
  by_cases e : j = i
  · rw [e]; exact h2
  · exact h j (by omega)
def s_cn (p : Nat → Bool) : Nat → Nat
  | 0 => 0
  | n + 1 => if p n = true then s_cn p n + 1 else s_cn p n
theorem s_cn_le (p : Nat → Bool) : ∀ n, s_cn p n ≤ n
  | 0 => Nat.le_refl 0
  | n + 1 => by
    have := s_cn_le p n
    unfold s_cn
    split <;> omega
def s_fs (far : Nat → Int32) (more : Int32) (a : Nat) : Nat → (Nat → Int32)
  | 0 => far
  | j + 1 => upd (s_fs far more a j) j (s_fs far more a j j + more * s_sgn (nI a) (nI j))
/-- NEAR of a becomes v; FAR follows -/
def s_set (ia : Ia) (n a : Nat) (v : Int32) : Ia := va_up (va_up ia 0 (upd (ia 0) a v)) 1 (s_fs (ia 1) (v - ia 0 a) a n)
def s_row (ia : Ia) (a : Nat) (k : Nat) : Int32 := bx_sum (fun j => ia 3 j * s_sgn (nI a) (nI j)) k
def s_gb (ia : Ia) (n : Nat) (i : Nat) : Bool := decide (s_row ia i n &&& (nI n - 1) = 0) && decide (s_abs (s_row ia i n) ≤ nI (1000 * n))
def s_tb (ia : Ia) (n : Nat) : Nat → Ia
  | 0 => ia
  | i + 1 => s_set (s_tb ia n i) n i (s_row (s_tb ia n i) i n / nI n)
def s_wp (ia : Ia) (j : Nat) : Bool := !decide (ia 2 j = 0) && decide (ia 3 j - ia 3 j / ia 2 j * ia 2 j = 0)
def s_po (ia : Ia) : Nat → (Nat → Int32)
  | 0 => ia 3
  | j + 1 => if ia 2 j = 0 then s_po ia j else upd (s_po ia j) j (s_po ia j j / ia 2 j)
def s_th (ia : Ia) (i m v : Int32) : Nat → Int32
  | 0 => 0
  | j + 1 => if s_pass (nI j) m v = true then s_th ia i m v j + ia 1 j * s_sgn i (nI j) else s_th ia i m v j
def s_sq (ia : Ia) (m v : Int32) : Nat → Int64
  | 0 => 0
  | j + 1 => if s_pass (nI j) m v = true then s_sq ia m v j + (ia 1 j).toInt64 * (ia 1 j).toInt64 else s_sq ia m v j
def s_ct (f : Nat → Int32) : Nat → Int32
  | 0 => 0
  | j + 1 => if f j = 0 then s_ct f j else s_ct f j + 1
def s_off (ia : Ia) (j : Nat) : Int32 := if ia 7 j = 0 then 0 else ia 4 j - ia 1 j
def s_ms (ia : Ia) (j : Nat) : Bool := !decide (ia 7 j = 0)
def s_fx (ia : Ia) (a f : Nat) : Int32 := s_off ia f * s_sgn (nI a) (nI f)
def s_fk2 (ia : Ia) (a f : Nat) (d : Nat) : Bool := decide (ia 7 (f + d) = 0) || decide (s_off ia (f + d) = s_fx ia a f * s_sgn (nI a) (nI (f + d)))
/-- the x by which element a may be the one fault -/
def s_flt (ia : Ia) (n a : Nat) : Int32 := match s_fi (s_ms ia) n with
  | none => 0
  | some f => if s_all (s_fk2 ia a f) (n - f) = true then s_fx ia a f else 0
def s_isf (ia : Ia) (n a : Nat) : Bool := !decide (s_flt ia n a = 0)
def s_ef (ia : Ia) (n : Nat) (k : Int32) : Int32 := s_oi (s_fi (fun i => s_isf ia n i && decide (nI (s_cn (s_isf ia n) i) = k)) n)
def s_nf1 (ia : Ia) (h : Int64) (i : Nat) : Int64 := s_fo (s_fk (s_fo (s_fo (s_fo (s_fo h (ia 0 i).toInt64) (ia 2 i).toInt64) (ia 3 i).toInt64) (if ia 6 i = 0 then 0 else 1)) (ia 7 i) (ia 4 i)) (ia 5 i).toInt64
def s_nf (ia : Ia) (h : Int64) : Nat → Int64
  | 0 => h
  | i + 1 => s_nf1 ia (s_nf ia h i) i

set_option maxHeartbeats 4000000 in
set_option maxRecDepth 100000 in
theorem c_X2_has (l : Launch) (G : Gv) (sc : Sc) (ia : Ia) (la : La) (i : Int32)  : Ct l yX2_has wsX2_has ({ frames := 0, cells := 0, slots := 0, locals := 0 }) G [.ref (G.2.1 2), .int i] sc ia la (fI (bI (s_has i (sc 0))) sc ia la) := by
  have hU2 : ∀ w ∈ u_ws RX2 TX2 9, w ∈ wsX2_has := fun w h => List.mem_cons_of_mem _ (List.mem_append_right _ h)
  refine z_of (maxL := 2) (own := RX2) [(0, .ref (G.2.1 2)), (1, .int i)] rfl (by decide +kernel) rfl (Nat.le_of_ble_eq_true rfl) rfl (fun Z C E => ?_)
  refine z_iload_n (pc' := 1) C dX2_has_0 rfl 1 rfl rfl ?_
  refine z_if_lt (pc' := 4) C 16 dX2_has_1 rfl rfl (fun h_1 => ?_) (fun h_1 => ?_)
  · refine z_iconst (v := 0) (pc' := 17) C dX2_has_16 rfl rfl ?_
    exact z_zret (E := E) rfl dX2_has_17 (rfl) ⟨(congrArg (fun z => some (Value.int z)) (show _ = _ from (by first | rfl | (simp [s_has, bI, h_1])))), rfl, rfl, rfl⟩
  · refine z_iload_n (pc' := 5) C dX2_has_4 rfl 1 rfl rfl ?_
    refine z_aload_n (pc' := 6) C dX2_has_5 rfl 0 rfl rfl ?_
    refine z_get (pc' := 9) C hU2 2 (by decide) q_o2 rfl 0 (by decide) (by decide +kernel) (v := .int (sc 0)) rfl dX2_has_6 rfl ?_
    refine z_icmp_ge (pc' := 12) C 16 dX2_has_9 rfl rfl (fun h_9 => ?_) (fun h_9 => ?_)
    · refine z_iconst (v := 0) (pc' := 17) C dX2_has_16 rfl rfl ?_
      exact z_zret (E := E) rfl dX2_has_17 (rfl) ⟨(congrArg (fun z => some (Value.int z)) (show _ = _ from (by first | rfl | (simp [s_has, bI, h_1, h_9])))), rfl, rfl, rfl⟩
    · refine z_iconst (v := 1) (pc' := 13) C dX2_has_12 rfl rfl ?_
      refine z_goto (pc' := 17) C dX2_has_13 rfl ?_
      exact z_zret (E := E) rfl dX2_has_17 (rfl) ⟨(congrArg (fun z => some (Value.int z)) (show _ = _ from (by first | rfl | (simp [s_has, bI, h_1, h_9])))), rfl, rfl, rfl⟩

theorem c_X2_has_no (l : Launch) (G : Gv) (sc : Sc) (ia : Ia) (la : La) (i : Int32) (h : s_has i (sc 0) = false) : Ct l yX2_has wsX2_has ({ frames := 0, cells := 0, slots := 0, locals := 0 }) G [.ref (G.2.1 2), .int i] sc ia la (fI 0 sc ia la) := by
  have h9 := c_X2_has l G sc ia la i
  rw [h] at h9
  exact h9
theorem s_has_ok {n j : Nat} (hN : n ≤ 32) (hj : j < n) : s_has (nI j) (nI n) = true := by
  have h1 : ¬ nI j < 0 := nI_pos (by omega)
  have h2 : ¬ nI n ≤ nI j := fun h => by
    have := (nI_leI (a := n) (b := j) (by omega) (by omega)).mp h
    omega
  simp [s_has, h1, h2]
theorem c_X2_has_ok (l : Launch) (G : Gv) (sc : Sc) (ia : Ia) (la : La) (n : Nat) (hn : sc 0 = nI n) (hN : n ≤ 32) (j : Nat) (hj : j < n) : Ct l yX2_has wsX2_has ({ frames := 0, cells := 0, slots := 0, locals := 0 }) G [.ref (G.2.1 2), .int (nI j)] sc ia la (fI 1 sc ia la) := by
  have h9 := c_X2_has l G sc ia la (nI j)
  rw [hn, s_has_ok hN hj] at h9
  exact h9
set_option maxHeartbeats 4000000 in
set_option maxRecDepth 100000 in
theorem c_X2_setNear (l : Launch) (G : Gv) (sc : Sc) (ia : Ia) (la : La) (n : Nat) (hn : sc 0 = nI n) (hN : n ≤ 32) (a : Nat)  (ha : a < n) (v : Int32) : Ct l yX2_setNear wsX2_setNear ({ frames := 2, cells := 0, slots := 0, locals := 41 }) G [.ref (G.2.1 2), .int (nI a), .int v] sc ia la (fV sc (s_set ia n a v) la) := by
  have hU2 : ∀ w ∈ u_ws RX2 TX2 9, w ∈ wsX2_setNear := fun w h => List.mem_cons_of_mem _ (List.mem_append_right _ h)
  refine z_of (maxL := 5) (own := RX2) [(0, .ref (G.2.1 2)), (1, .int (nI a)), (2, .int v)] rfl (by decide +kernel) rfl (Nat.le_of_ble_eq_true rfl) rfl (fun Z C E => ?_)
  refine z_iload_n (pc' := 1) C dX2_setNear_0 rfl 2 rfl rfl ?_
  refine z_aload_n (pc' := 2) C dX2_setNear_1 rfl 0 rfl rfl ?_
  refine z_get (pc' := 5) C hU2 2 (by decide) q_o2 rfl 1 (by decide) (by decide +kernel) (v := .ref (G.2.1 7)) rfl dX2_setNear_2 rfl ?_
  refine z_iload_n (pc' := 6) C dX2_setNear_5 rfl 1 rfl rfl ?_
  refine z_iald (pc' := 7) C 7 (by decide) (N := 32) (i := a) (f := ia 0) q_i0 (by omega) (by decide) dX2_setNear_6 rfl ?_
  refine z_isub (pc' := 8) C dX2_setNear_7 rfl ?_
  refine z_istore_n (lv' := [(3, .int (v - ((ia 0) a))), (0, .ref (G.2.1 2)), (1, .int (nI a)), (2, .int v)]) (pc' := 9) C dX2_setNear_8 rfl (by decide) rfl rfl ?_
  refine z_aload_n (pc' := 10) C dX2_setNear_9 rfl 1 rfl rfl ?_
  refine z_get (pc' := 13) C hU2 2 (by decide) q_o2 rfl 1 (by decide) (by decide +kernel) (v := .ref (G.2.1 7)) rfl dX2_setNear_10 rfl ?_
  refine z_iload_n (pc' := 14) C dX2_setNear_13 rfl 2 rfl rfl ?_
  refine z_iload_n (pc' := 15) C dX2_setNear_14 rfl 3 rfl rfl ?_
  refine z_iast (pc' := 16) C 7 (by decide) (N := 32) (i := a) (f := ia 0) q_i0 (by omega) (by decide) (q_u0 _) dX2_setNear_15 rfl ?_
  refine z_iconst (v := 0) (pc' := 17) C dX2_setNear_16 rfl rfl ?_
  refine z_istore (lv' := [(4, .int 0), (3, .int (v - ((ia 0) a))), (0, .ref (G.2.1 2)), (1, .int (nI a)), (2, .int v)]) (pc' := 19) C dX2_setNear_17 (by decide) rfl rfl ?_
  have L19 : ∀ (fuel : Nat) (j : Nat) (hj : j ≤ n), n - j < fuel → Z sc (va_up (va_up ia 0 (upd (ia 0) a v)) 1 (s_fs (ia 1) (v - ia 0 a) a j)) la [(4, .int (nI j)), (3, .int (v - ia 0 a)), (0, .ref (G.2.1 2)), (1, .int (nI a))] 19 [] := by
    intro fuel
    induction fuel with
    | zero => intro j hj hm19; exact absurd hm19 (Nat.not_lt_zero _)
    | succ fuel ih19 =>
      intro j hj hm19
      refine z_iload (pc' := 21) C dX2_setNear_19 0 rfl rfl ?_
      refine z_aload_n (pc' := 22) C dX2_setNear_21 rfl 2 rfl rfl ?_
      refine z_get (pc' := 25) C hU2 2 (by decide) q_o2 rfl 0 (by decide) (by decide +kernel) (v := .int (sc 0)) rfl dX2_setNear_22 rfl ?_
      refine z_cast (st' := [.int (nI n), .int (nI j)]) rfl rfl rfl rfl (congrArg (fun z => Value.int z :: [.int (nI j)]) hn) ?_
      refine z_icmpN_ge (a := j) (b := n) (pc' := 28) C 52 (by omega) (by omega) dX2_setNear_25 rfl rfl (fun h_25 => ?_) (fun h_25 => ?_)
      · exact z_vret (E := E) rfl dX2_setNear_52 ⟨rfl, rfl, (by first | rfl | (have e9 : j = n := (by omega); subst e9; rfl)), rfl⟩
      · refine z_aload_n (pc' := 29) C dX2_setNear_28 rfl 2 rfl rfl ?_
        refine z_get (pc' := 32) C hU2 2 (by decide) q_o2 rfl 2 (by decide) (by decide +kernel) (v := .ref (G.2.1 8)) rfl dX2_setNear_29 rfl ?_
        refine z_iload (pc' := 34) C dX2_setNear_32 0 rfl rfl ?_
        refine z_dup2 (pc' := 35) C dX2_setNear_34 rfl rfl rfl ?_
        refine z_iald (pc' := 36) C 8 (by decide) (N := 32) (i := j) (f := s_fs (ia 1) (v - ia 0 a) a j) q_i1 (by omega) (by decide) dX2_setNear_35 rfl ?_
        refine z_iload_n (pc' := 37) C dX2_setNear_36 rfl 1 rfl rfl ?_
        refine z_iload_n (pc' := 38) C dX2_setNear_37 rfl 3 rfl rfl ?_
        refine z_iload (pc' := 40) C dX2_setNear_38 0 rfl rfl ?_
        refine z_cN (n := 2) (pc' := 43) (As := [.int (nI a), .int (nI j)]) (rest := [.int (v - ia 0 a), .int ((s_fs (ia 1) (v - ia 0 a) a j) j), .int (nI j), .ref (G.2.1 8)]) C (c_X5_signOf l G _ _ _ (nI a) (nI j)) gX2_setNear_X5_signOf_n46 rfl rfl rfl (by decide +kernel) (by decide +kernel) (by decide +kernel) (by decide +kernel) (by decide) rfl rfl dX2_setNear_40 (Nat.le_of_ble_eq_true rfl) rfl (k_I ?_)
        show Z sc (va_up (va_up ia 0 (upd (ia 0) a v)) 1 (s_fs (ia 1) (v - ia 0 a) a j)) la [(4, .int (nI j)), (3, .int (v - ia 0 a)), (0, .ref (G.2.1 2)), (1, .int (nI a))] 43 [.int (s_sgn (nI a) (nI j)), .int (v - ia 0 a), .int ((s_fs (ia 1) (v - ia 0 a) a j) j), .int (nI j), .ref (G.2.1 8)]
        refine z_imul (pc' := 44) C dX2_setNear_43 rfl ?_
        refine z_iadd (pc' := 45) C dX2_setNear_44 rfl ?_
        refine z_iast (pc' := 46) C 8 (by decide) (N := 32) (i := j) (f := s_fs (ia 1) (v - ia 0 a) a j) q_i1 (by omega) (by decide) (q_uu1 _ _) dX2_setNear_45 rfl ?_
        refine z_iinc (v := nI (j + 1)) (k9 := 0) (lv' := [(4, .int (nI (j + 1))), (3, .int (v - ia 0 a)), (0, .ref (G.2.1 2)), (1, .int (nI a))]) (pc' := 49) C dX2_setNear_46 rfl (nI_1 j) (by decide) rfl rfl ?_
        refine z_goto (pc' := 19) C dX2_setNear_49 rfl ?_
        exact z_cast rfl rfl rfl rfl rfl (ih19 (j + 1) (by omega) (by omega))
  refine z_sub (lv' := [(4, .int 0), (3, .int (v - ((ia 0) a))), (0, .ref (G.2.1 2)), (1, .int (nI a))]) C [0, 1, 2, 3] rfl ?_
  exact z_cast rfl (by first | rfl | (exact va_same _ 1)) rfl rfl rfl (L19 (_ + 1) 0 (by omega) (Nat.lt_succ_self _))

set_option maxHeartbeats 4000000 in
set_option maxRecDepth 100000 in
theorem c_X2_rowThroughTo (l : Launch) (G : Gv) (sc : Sc) (ia : Ia) (la : La) (n : Nat) (hn : sc 0 = nI n) (hN : n ≤ 32) (a : Nat)   : Ct l yX2_rowThroughTo wsX2_rowThroughTo ({ frames := 2, cells := 0, slots := 0, locals := 41 }) G [.ref (G.2.1 2), .int (nI a)] sc ia la (fI (s_row ia a n) sc ia la) := by
  have hU2 : ∀ w ∈ u_ws RX2 TX2 9, w ∈ wsX2_rowThroughTo := fun w h => List.mem_cons_of_mem _ (List.mem_append_right _ h)
  refine z_of (maxL := 4) (own := RX2) [(0, .ref (G.2.1 2)), (1, .int (nI a))] rfl (by decide +kernel) rfl (Nat.le_of_ble_eq_true rfl) rfl (fun Z C E => ?_)
  refine z_iconst (v := 0) (pc' := 1) C dX2_rowThroughTo_0 rfl rfl ?_
  refine z_istore_n (lv' := [(2, .int 0), (0, .ref (G.2.1 2)), (1, .int (nI a))]) (pc' := 2) C dX2_rowThroughTo_1 rfl (by decide) rfl rfl ?_
  refine z_iconst (v := 0) (pc' := 3) C dX2_rowThroughTo_2 rfl rfl ?_
  refine z_istore_n (lv' := [(3, .int 0), (2, .int 0), (0, .ref (G.2.1 2)), (1, .int (nI a))]) (pc' := 4) C dX2_rowThroughTo_3 rfl (by decide) rfl rfl ?_
  have L4 : ∀ (fuel : Nat) (j : Nat) (hj : j ≤ n), n - j < fuel → Z sc ia la [(3, .int (nI j)), (2, .int (s_row ia a j)), (0, .ref (G.2.1 2)), (1, .int (nI a))] 4 [] := by
    intro fuel
    induction fuel with
    | zero => intro j hj hm4; exact absurd hm4 (Nat.not_lt_zero _)
    | succ fuel ih4 =>
      intro j hj hm4
      refine z_iload_n (pc' := 5) C dX2_rowThroughTo_4 rfl 0 rfl rfl ?_
      refine z_aload_n (pc' := 6) C dX2_rowThroughTo_5 rfl 2 rfl rfl ?_
      refine z_get (pc' := 9) C hU2 2 (by decide) q_o2 rfl 0 (by decide) (by decide +kernel) (v := .int (sc 0)) rfl dX2_rowThroughTo_6 rfl ?_
      refine z_cast (st' := [.int (nI n), .int (nI j)]) rfl rfl rfl rfl (congrArg (fun z => Value.int z :: [.int (nI j)]) hn) ?_
      refine z_icmpN_ge (a := j) (b := n) (pc' := 12) C 33 (by omega) (by omega) dX2_rowThroughTo_9 rfl rfl (fun h_9 => ?_) (fun h_9 => ?_)
      · refine z_iload_n (pc' := 34) C dX2_rowThroughTo_33 rfl 1 rfl rfl ?_
        exact z_iret (E := E) rfl dX2_rowThroughTo_34 ⟨(congrArg (fun z => some (Value.int z)) (show _ = _ from (by first | rfl | (have e9 : j = n := (by omega); subst e9; rfl)))), rfl, rfl, rfl⟩
      · refine z_iload_n (pc' := 13) C dX2_rowThroughTo_12 rfl 1 rfl rfl ?_
        refine z_aload_n (pc' := 14) C dX2_rowThroughTo_13 rfl 2 rfl rfl ?_
        refine z_get (pc' := 17) C hU2 2 (by decide) q_o2 rfl 4 (by decide) (by decide +kernel) (v := .ref (G.2.1 10)) rfl dX2_rowThroughTo_14 rfl ?_
        refine z_iload_n (pc' := 18) C dX2_rowThroughTo_17 rfl 0 rfl rfl ?_
        refine z_iald (pc' := 19) C 10 (by decide) (N := 32) (i := j) (f := ia 3) q_i3 (by omega) (by decide) dX2_rowThroughTo_18 rfl ?_
        refine z_iload_n (pc' := 20) C dX2_rowThroughTo_19 rfl 3 rfl rfl ?_
        refine z_iload_n (pc' := 21) C dX2_rowThroughTo_20 rfl 0 rfl rfl ?_
        refine z_cN (n := 2) (pc' := 24) (As := [.int (nI a), .int (nI j)]) (rest := [.int ((ia 3) j), .int (s_row ia a j)]) C (c_X5_signOf l G _ _ _ (nI a) (nI j)) gX2_rowThroughTo_X5_signOf_n46 rfl rfl rfl (by decide +kernel) (by decide +kernel) (by decide +kernel) (by decide +kernel) (by decide) rfl rfl dX2_rowThroughTo_21 (Nat.le_of_ble_eq_true rfl) rfl (k_I ?_)
        show Z sc ia la [(3, .int (nI j)), (2, .int (s_row ia a j)), (0, .ref (G.2.1 2)), (1, .int (nI a))] 24 [.int (s_sgn (nI a) (nI j)), .int ((ia 3) j), .int (s_row ia a j)]
        refine z_imul (pc' := 25) C dX2_rowThroughTo_24 rfl ?_
        refine z_iadd (pc' := 26) C dX2_rowThroughTo_25 rfl ?_
        refine z_istore_n (lv' := [(2, .int ((s_row ia a j) + (((ia 3) j) * (s_sgn (nI a) (nI j))))), (3, .int (nI j)), (0, .ref (G.2.1 2)), (1, .int (nI a))]) (pc' := 27) C dX2_rowThroughTo_26 rfl (by decide) rfl rfl ?_
        refine z_iinc (v := nI (j + 1)) (k9 := 1) (lv' := [(3, .int (nI (j + 1))), (2, .int ((s_row ia a j) + (((ia 3) j) * (s_sgn (nI a) (nI j))))), (0, .ref (G.2.1 2)), (1, .int (nI a))]) (pc' := 30) C dX2_rowThroughTo_27 rfl (nI_1 j) (by decide) rfl rfl ?_
        refine z_goto (pc' := 4) C dX2_rowThroughTo_30 rfl ?_
        exact z_cast rfl rfl rfl rfl rfl (ih4 (j + 1) (by omega) (by omega))
  exact z_cast rfl rfl rfl rfl rfl (L4 (_ + 1) 0 (by omega) (Nat.lt_succ_self _))

set_option maxHeartbeats 4000000 in
set_option maxRecDepth 100000 in
theorem c_X2_goesBack (l : Launch) (G : Gv) (sc : Sc) (ia : Ia) (la : La) (n : Nat) (hn : sc 0 = nI n) (hN : n ≤ 32)    : Ct l yX2_goesBack wsX2_goesBack ({ frames := 3, cells := 0, slots := 0, locals := 64 }) G [.ref (G.2.1 2)] sc ia la (fI (bI (s_all (s_gb ia n) n)) sc ia la) := by
  have hU2 : ∀ w ∈ u_ws RX2 TX2 9, w ∈ wsX2_goesBack := fun w h => List.mem_cons_of_mem _ (List.mem_append_right _ h)
  refine z_of (maxL := 3) (own := RX2) [(0, .ref (G.2.1 2))] rfl (by decide +kernel) rfl (Nat.le_of_ble_eq_true rfl) rfl (fun Z C E => ?_)
  refine z_iconst (v := 0) (pc' := 1) C dX2_goesBack_0 rfl rfl ?_
  refine z_istore_n (lv' := [(1, .int 0), (0, .ref (G.2.1 2))]) (pc' := 2) C dX2_goesBack_1 rfl (by decide) rfl rfl ?_
  have L2 : ∀ (fuel : Nat) (i : Nat) (hi : i ≤ n) (ha : s_all (s_gb ia n) i = true), n - i < fuel → Z sc ia la [(1, .int (nI i)), (0, .ref (G.2.1 2))] 2 [] := by
    intro fuel
    induction fuel with
    | zero => intro i hi ha hm2; exact absurd hm2 (Nat.not_lt_zero _)
    | succ fuel ih2 =>
      intro i hi ha hm2
      refine z_iload_n (pc' := 3) C dX2_goesBack_2 rfl 0 rfl rfl ?_
      refine z_aload_n (pc' := 4) C dX2_goesBack_3 rfl 1 rfl rfl ?_
      refine z_get (pc' := 7) C hU2 2 (by decide) q_o2 rfl 0 (by decide) (by decide +kernel) (v := .int (sc 0)) rfl dX2_goesBack_4 rfl ?_
      refine z_cast (st' := [.int (nI n), .int (nI i)]) rfl rfl rfl rfl (congrArg (fun z => Value.int z :: [.int (nI i)]) hn) ?_
      refine z_icmpN_ge (a := i) (b := n) (pc' := 10) C 50 (by omega) (by omega) dX2_goesBack_7 rfl rfl (fun h_7 => ?_) (fun h_7 => ?_)
      · refine z_iconst (v := 1) (pc' := 51) C dX2_goesBack_50 rfl rfl ?_
        exact z_zret (E := E) rfl dX2_goesBack_51 (rfl) ⟨(congrArg (fun z => some (Value.int z)) (show _ = _ from (by first | rfl | (have e9 : i = n := (by omega); subst e9; rw [ha]; rfl)))), rfl, rfl, rfl⟩
      · refine z_aload_n (pc' := 11) C dX2_goesBack_10 rfl 1 rfl rfl ?_
        refine z_iload_n (pc' := 12) C dX2_goesBack_11 rfl 0 rfl rfl ?_
        refine z_cV (n := 1) (pc' := 15) (As := [.int (nI i)]) (rest := []) C 2 (c_X2_rowThroughTo l G _ _ _ n hn hN i) gX2_goesBack_X2_rowThroughTo rfl rfl rfl rfl (by decide +kernel) (by decide) rfl (by decide) q_o2 rfl rfl dX2_goesBack_12 (Nat.le_of_ble_eq_true rfl) rfl (k_I ?_)
        show Z sc ia la [(1, .int (nI i)), (0, .ref (G.2.1 2))] 15 [.int (s_row ia i n)]
        refine z_istore_n (lv' := [(2, .int (s_row ia i n)), (1, .int (nI i)), (0, .ref (G.2.1 2))]) (pc' := 16) C dX2_goesBack_15 rfl (by decide) rfl rfl ?_
        refine z_iload_n (pc' := 17) C dX2_goesBack_16 rfl 0 rfl rfl ?_
        refine z_aload_n (pc' := 18) C dX2_goesBack_17 rfl 2 rfl rfl ?_
        refine z_get (pc' := 21) C hU2 2 (by decide) q_o2 rfl 0 (by decide) (by decide +kernel) (v := .int (sc 0)) rfl dX2_goesBack_18 rfl ?_
        refine z_cast (st' := [.int (nI n), .int (s_row ia i n)]) rfl rfl rfl rfl (congrArg (fun z => Value.int z :: [.int (s_row ia i n)]) hn) ?_
        refine z_iconst (v := 1) (pc' := 22) C dX2_goesBack_21 rfl rfl ?_
        refine z_isub (pc' := 23) C dX2_goesBack_22 rfl ?_
        refine z_iand (pc' := 24) C dX2_goesBack_23 rfl ?_
        refine z_if_ne (pc' := 27) C 42 dX2_goesBack_24 rfl rfl (fun h_24 => ?_) (fun h_24 => ?_)
        · refine z_iconst (v := 0) (pc' := 43) C dX2_goesBack_42 rfl rfl ?_
          exact z_zret (E := E) rfl dX2_goesBack_43 (rfl) ⟨(congrArg (fun z => some (Value.int z)) (show _ = _ from (by first | rfl | (rw [s_all_f (i := i) (by omega) (by simp [s_gb, hi, ha, h_7, h_24])]; rfl)))), rfl, rfl, rfl⟩
        · refine z_iload_n (pc' := 28) C dX2_goesBack_27 rfl 0 rfl rfl ?_
          refine z_mabs (pc' := 31) C (by decide +kernel) (by decide +kernel) (by decide +kernel) (by decide +kernel) (by decide) (Nat.le_of_ble_eq_true rfl) dX2_goesBack_28 rfl ?_
          show Z sc ia la [(2, .int (s_row ia i n)), (1, .int (nI i)), (0, .ref (G.2.1 2))] 31 [.int (s_abs (s_row ia i n))]
          refine z_sipush (v := 1000) (pc' := 34) C dX2_goesBack_31 rfl rfl ?_
          refine z_aload_n (pc' := 35) C dX2_goesBack_34 rfl 2 rfl rfl ?_
          refine z_get (pc' := 38) C hU2 2 (by decide) q_o2 rfl 0 (by decide) (by decide +kernel) (v := .int (sc 0)) rfl dX2_goesBack_35 rfl ?_
          refine z_cast (st' := [.int (nI n), .int 1000, .int (s_abs (s_row ia i n))]) rfl rfl rfl rfl (congrArg (fun z => Value.int z :: [.int 1000, .int (s_abs (s_row ia i n))]) hn) ?_
          refine z_imul (pc' := 39) C dX2_goesBack_38 rfl ?_
          refine z_cast (st' := [.int (nI (1000 * n)), .int (s_abs (s_row ia i n))]) rfl rfl rfl rfl (congrArg (fun z => Value.int z :: [.int (s_abs (s_row ia i n))]) (pk_mul _ _)) ?_
          refine z_icmp_le (pc' := 42) C 44 dX2_goesBack_39 rfl rfl (fun h_39 => ?_) (fun h_39 => ?_)
          · refine z_iinc (v := nI (i + 1)) (k9 := 1) (lv' := [(1, .int (nI (i + 1))), (2, .int (s_row ia i n)), (0, .ref (G.2.1 2))]) (pc' := 47) C dX2_goesBack_44 rfl (nI_1 i) (by decide) rfl rfl ?_
            refine z_goto (pc' := 2) C dX2_goesBack_47 rfl ?_
            refine z_sub (lv' := [(1, .int (nI (i + 1))), (0, .ref (G.2.1 2))]) C [0, 2] rfl ?_
            exact z_cast rfl rfl rfl rfl rfl (ih2 (i + 1) (by omega) (by exact s_all_s ha (by simp [s_gb, hi, ha, h_7, h_24, h_39])) (by omega))
          · refine z_iconst (v := 0) (pc' := 43) C dX2_goesBack_42 rfl rfl ?_
            exact z_zret (E := E) rfl dX2_goesBack_43 (rfl) ⟨(congrArg (fun z => some (Value.int z)) (show _ = _ from (by first | rfl | (rw [s_all_f (i := i) (by omega) (by simp [s_gb, hi, ha, h_7, h_24, h_39])]; rfl)))), rfl, rfl, rfl⟩
  exact z_cast rfl rfl rfl rfl rfl (L2 (_ + 1) 0 (by omega) (by rfl) (Nat.lt_succ_self _))

set_option maxHeartbeats 4000000 in
set_option maxRecDepth 100000 in
theorem c_X2_takeBack (l : Launch) (G : Gv) (sc : Sc) (ia : Ia) (la : La) (n : Nat) (hn : sc 0 = nI n) (hN : n ≤ 32)   (h1 : 1 ≤ n) : Ct l yX2_takeBack wsX2_takeBack ({ frames := 4, cells := 0, slots := 0, locals := 86 }) G [.ref (G.2.1 2)] sc ia la (fI (bI (s_all (s_gb ia n) n)) sc (if s_all (s_gb ia n) n = true then s_tb ia n n else ia) la) := by
  have hU2 : ∀ w ∈ u_ws RX2 TX2 9, w ∈ wsX2_takeBack := fun w h => List.mem_cons_of_mem _ (List.mem_append_right _ h)
  refine z_of (maxL := 2) (own := RX2) [(0, .ref (G.2.1 2))] rfl (by decide +kernel) rfl (Nat.le_of_ble_eq_true rfl) rfl (fun Z C E => ?_)
  refine z_aload_n (pc' := 1) C dX2_takeBack_0 rfl 0 rfl rfl ?_
  refine z_get (pc' := 4) C hU2 2 (by decide) q_o2 rfl 0 (by decide) (by decide +kernel) (v := .int (sc 0)) rfl dX2_takeBack_1 rfl ?_
  refine z_cast (st' := [.int (nI n)]) rfl rfl rfl rfl (congrArg (fun z => Value.int z :: []) hn) ?_
  refine z_iconst (v := 1) (pc' := 5) C dX2_takeBack_4 rfl rfl ?_
  refine z_icmpN_lt (a := n) (b := 1) (pc' := 8) C 15 (by omega) (by omega) dX2_takeBack_5 rfl rfl (fun h_5 => absurd h_5 (by omega)) (fun h_5 => ?_)
  refine z_aload_n (pc' := 9) C dX2_takeBack_8 rfl 0 rfl rfl ?_
  refine z_cV (n := 0) (pc' := 12) (As := []) (rest := []) C 2 (c_X2_goesBack l G _ _ _ n hn hN) gX2_takeBack_X2_goesBack rfl rfl rfl rfl (by decide +kernel) (by decide) rfl (by decide) q_o2 rfl rfl dX2_takeBack_9 (Nat.le_of_ble_eq_true rfl) rfl (k_I ?_)
  show Z sc ia la [(0, .ref (G.2.1 2))] 12 [.int (bI (s_all (s_gb ia n) n))]
  refine z_ifB_ne (pc' := 15) C 17 dX2_takeBack_12 rfl rfl (fun h_12 => ?_) (fun h_12 => ?_)
  · refine z_iconst (v := 0) (pc' := 18) C dX2_takeBack_17 rfl rfl ?_
    refine z_istore_n (lv' := [(1, .int 0), (0, .ref (G.2.1 2))]) (pc' := 19) C dX2_takeBack_18 rfl (by decide) rfl rfl ?_
    have L19 : ∀ (fuel : Nat) (i : Nat) (hi : i ≤ n), n - i < fuel → Z sc (s_tb ia n i) la [(1, .int (nI i)), (0, .ref (G.2.1 2))] 19 [] := by
      intro fuel
      induction fuel with
      | zero => intro i hi hm19; exact absurd hm19 (Nat.not_lt_zero _)
      | succ fuel ih19 =>
        intro i hi hm19
        refine z_iload_n (pc' := 20) C dX2_takeBack_19 rfl 0 rfl rfl ?_
        refine z_aload_n (pc' := 21) C dX2_takeBack_20 rfl 1 rfl rfl ?_
        refine z_get (pc' := 24) C hU2 2 (by decide) q_o2 rfl 0 (by decide) (by decide +kernel) (v := .int (sc 0)) rfl dX2_takeBack_21 rfl ?_
        refine z_cast (st' := [.int (nI n), .int (nI i)]) rfl rfl rfl rfl (congrArg (fun z => Value.int z :: [.int (nI i)]) hn) ?_
        refine z_icmpN_ge (a := i) (b := n) (pc' := 27) C 48 (by omega) (by omega) dX2_takeBack_24 rfl rfl (fun h_24 => ?_) (fun h_24 => ?_)
        · refine z_iconst (v := 1) (pc' := 49) C dX2_takeBack_48 rfl rfl ?_
          exact z_zret (E := E) rfl dX2_takeBack_49 (rfl) ⟨(congrArg (fun z => some (Value.int z)) (show _ = _ from (by first | rfl | (rw [h_12]; rfl)))), rfl, (by first | rfl | (have e9 : i = n := (by omega); subst e9; rw [if_pos h_12])), rfl⟩
        · refine z_aload_n (pc' := 28) C dX2_takeBack_27 rfl 1 rfl rfl ?_
          refine z_iload_n (pc' := 29) C dX2_takeBack_28 rfl 0 rfl rfl ?_
          refine z_aload_n (pc' := 30) C dX2_takeBack_29 rfl 1 rfl rfl ?_
          refine z_iload_n (pc' := 31) C dX2_takeBack_30 rfl 0 rfl rfl ?_
          refine z_cV (n := 1) (pc' := 34) (As := [.int (nI i)]) (rest := [.int (nI i), .ref (G.2.1 2)]) C 2 (c_X2_rowThroughTo l G _ _ _ n hn hN i) gX2_takeBack_X2_rowThroughTo rfl rfl rfl rfl (by decide +kernel) (by decide) rfl (by decide) q_o2 rfl rfl dX2_takeBack_31 (Nat.le_of_ble_eq_true rfl) rfl (k_I ?_)
          show Z sc (s_tb ia n i) la [(1, .int (nI i)), (0, .ref (G.2.1 2))] 34 [.int (s_row (s_tb ia n i) i n), .int (nI i), .ref (G.2.1 2)]
          refine z_aload_n (pc' := 35) C dX2_takeBack_34 rfl 1 rfl rfl ?_
          refine z_get (pc' := 38) C hU2 2 (by decide) q_o2 rfl 0 (by decide) (by decide +kernel) (v := .int (sc 0)) rfl dX2_takeBack_35 rfl ?_
          refine z_cast (st' := [.int (nI n), .int (s_row (s_tb ia n i) i n), .int (nI i), .ref (G.2.1 2)]) rfl rfl rfl rfl (congrArg (fun z => Value.int z :: [.int (s_row (s_tb ia n i) i n), .int (nI i), .ref (G.2.1 2)]) hn) ?_
          refine z_idiv (pc' := 39) C dX2_takeBack_38 (nI_ne0 (by omega) (by omega)) rfl ?_
          refine z_cV (n := 2) (pc' := 42) (As := [.int (nI i), .int ((s_row (s_tb ia n i) i n) / (nI n))]) (rest := []) C 2 (c_X2_setNear l G _ _ _ n hn hN i (by omega) ((s_row (s_tb ia n i) i n) / (nI n))) gX2_takeBack_X2_setNear rfl rfl rfl rfl (by decide +kernel) (by decide) rfl (by decide) q_o2 rfl rfl dX2_takeBack_39 (Nat.le_of_ble_eq_true rfl) rfl (k_V ?_)
          show Z sc (s_set (s_tb ia n i) n i ((s_row (s_tb ia n i) i n) / (nI n))) la [(1, .int (nI i)), (0, .ref (G.2.1 2))] 42 []
          refine z_iinc (v := nI (i + 1)) (k9 := 0) (lv' := [(1, .int (nI (i + 1))), (0, .ref (G.2.1 2))]) (pc' := 45) C dX2_takeBack_42 rfl (nI_1 i) (by decide) rfl rfl ?_
          refine z_goto (pc' := 19) C dX2_takeBack_45 rfl ?_
          exact z_cast rfl rfl rfl rfl rfl (ih19 (i + 1) (by omega) (by omega))
    exact z_cast rfl rfl rfl rfl rfl (L19 (_ + 1) 0 (by omega) (Nat.lt_succ_self _))
  · refine z_iconst (v := 0) (pc' := 16) C dX2_takeBack_15 rfl rfl ?_
    exact z_zret (E := E) rfl dX2_takeBack_16 (rfl) ⟨(congrArg (fun z => some (Value.int z)) (show _ = _ from (by first | rfl | (rw [h_12]; rfl)))), rfl, (by first | rfl | (rw [h_12]; rfl)), rfl⟩

set_option maxHeartbeats 4000000 in
set_option maxRecDepth 100000 in
theorem c_X2_isWholeWithoutProbe (l : Launch) (G : Gv) (sc : Sc) (ia : Ia) (la : La) (n : Nat) (hn : sc 0 = nI n) (hN : n ≤ 32)    : Ct l yX2_isWholeWithoutProbe wsX2_isWholeWithoutProbe ({ frames := 0, cells := 0, slots := 0, locals := 0 }) G [.ref (G.2.1 2)] sc ia la (fI (bI (s_all (s_wp ia) n)) sc ia la) := by
  have hU2 : ∀ w ∈ u_ws RX2 TX2 9, w ∈ wsX2_isWholeWithoutProbe := fun w h => List.mem_cons_of_mem _ (List.mem_append_right _ h)
  refine z_of (maxL := 2) (own := RX2) [(0, .ref (G.2.1 2))] rfl (by decide +kernel) rfl (Nat.le_of_ble_eq_true rfl) rfl (fun Z C E => ?_)
  refine z_iconst (v := 0) (pc' := 1) C dX2_isWholeWithoutProbe_0 rfl rfl ?_
  refine z_istore_n (lv' := [(1, .int 0), (0, .ref (G.2.1 2))]) (pc' := 2) C dX2_isWholeWithoutProbe_1 rfl (by decide) rfl rfl ?_
  have L2 : ∀ (fuel : Nat) (i : Nat) (hi : i ≤ n) (ha : s_all (s_wp ia) i = true), n - i < fuel → Z sc ia la [(1, .int (nI i)), (0, .ref (G.2.1 2))] 2 [] := by
    intro fuel
    induction fuel with
    | zero => intro i hi ha hm2; exact absurd hm2 (Nat.not_lt_zero _)
    | succ fuel ih2 =>
      intro i hi ha hm2
      refine z_iload_n (pc' := 3) C dX2_isWholeWithoutProbe_2 rfl 0 rfl rfl ?_
      refine z_aload_n (pc' := 4) C dX2_isWholeWithoutProbe_3 rfl 1 rfl rfl ?_
      refine z_get (pc' := 7) C hU2 2 (by decide) q_o2 rfl 0 (by decide) (by decide +kernel) (v := .int (sc 0)) rfl dX2_isWholeWithoutProbe_4 rfl ?_
      refine z_cast (st' := [.int (nI n), .int (nI i)]) rfl rfl rfl rfl (congrArg (fun z => Value.int z :: [.int (nI i)]) hn) ?_
      refine z_icmpN_ge (a := i) (b := n) (pc' := 10) C 43 (by omega) (by omega) dX2_isWholeWithoutProbe_7 rfl rfl (fun h_7 => ?_) (fun h_7 => ?_)
      · refine z_iconst (v := 1) (pc' := 44) C dX2_isWholeWithoutProbe_43 rfl rfl ?_
        exact z_zret (E := E) rfl dX2_isWholeWithoutProbe_44 (rfl) ⟨(congrArg (fun z => some (Value.int z)) (show _ = _ from (by first | rfl | (have e9 : i = n := (by omega); subst e9; rw [ha]; rfl)))), rfl, rfl, rfl⟩
      · refine z_aload_n (pc' := 11) C dX2_isWholeWithoutProbe_10 rfl 1 rfl rfl ?_
        refine z_get (pc' := 14) C hU2 2 (by decide) q_o2 rfl 3 (by decide) (by decide +kernel) (v := .ref (G.2.1 9)) rfl dX2_isWholeWithoutProbe_11 rfl ?_
        refine z_iload_n (pc' := 15) C dX2_isWholeWithoutProbe_14 rfl 0 rfl rfl ?_
        refine z_iald (pc' := 16) C 9 (by decide) (N := 32) (i := i) (f := ia 2) q_i2 (by omega) (by decide) dX2_isWholeWithoutProbe_15 rfl ?_
        refine z_if_eq (pc' := 19) C 35 dX2_isWholeWithoutProbe_16 rfl rfl (fun h_16 => ?_) (fun h_16 => ?_)
        · refine z_iconst (v := 0) (pc' := 36) C dX2_isWholeWithoutProbe_35 rfl rfl ?_
          exact z_zret (E := E) rfl dX2_isWholeWithoutProbe_36 (rfl) ⟨(congrArg (fun z => some (Value.int z)) (show _ = _ from (by first | rfl | (rw [s_all_f (i := i) (by omega) (by simp [s_wp, hi, ha, h_7, h_16])]; rfl)))), rfl, rfl, rfl⟩
        · refine z_aload_n (pc' := 20) C dX2_isWholeWithoutProbe_19 rfl 1 rfl rfl ?_
          refine z_get (pc' := 23) C hU2 2 (by decide) q_o2 rfl 4 (by decide) (by decide +kernel) (v := .ref (G.2.1 10)) rfl dX2_isWholeWithoutProbe_20 rfl ?_
          refine z_iload_n (pc' := 24) C dX2_isWholeWithoutProbe_23 rfl 0 rfl rfl ?_
          refine z_iald (pc' := 25) C 10 (by decide) (N := 32) (i := i) (f := ia 3) q_i3 (by omega) (by decide) dX2_isWholeWithoutProbe_24 rfl ?_
          refine z_aload_n (pc' := 26) C dX2_isWholeWithoutProbe_25 rfl 1 rfl rfl ?_
          refine z_get (pc' := 29) C hU2 2 (by decide) q_o2 rfl 3 (by decide) (by decide +kernel) (v := .ref (G.2.1 9)) rfl dX2_isWholeWithoutProbe_26 rfl ?_
          refine z_iload_n (pc' := 30) C dX2_isWholeWithoutProbe_29 rfl 0 rfl rfl ?_
          refine z_iald (pc' := 31) C 9 (by decide) (N := 32) (i := i) (f := ia 2) q_i2 (by omega) (by decide) dX2_isWholeWithoutProbe_30 rfl ?_
          refine z_irem (pc' := 32) C dX2_isWholeWithoutProbe_31 (h_16) rfl ?_
          refine z_if_eq (pc' := 35) C 37 dX2_isWholeWithoutProbe_32 rfl rfl (fun h_32 => ?_) (fun h_32 => ?_)
          · refine z_iinc (v := nI (i + 1)) (k9 := 0) (lv' := [(1, .int (nI (i + 1))), (0, .ref (G.2.1 2))]) (pc' := 40) C dX2_isWholeWithoutProbe_37 rfl (nI_1 i) (by decide) rfl rfl ?_
            refine z_goto (pc' := 2) C dX2_isWholeWithoutProbe_40 rfl ?_
            exact z_cast rfl rfl rfl rfl rfl (ih2 (i + 1) (by omega) (by exact s_all_s ha (by simp [s_wp, hi, ha, h_7, h_16, h_32])) (by omega))
          · refine z_iconst (v := 0) (pc' := 36) C dX2_isWholeWithoutProbe_35 rfl rfl ?_
            exact z_zret (E := E) rfl dX2_isWholeWithoutProbe_36 (rfl) ⟨(congrArg (fun z => some (Value.int z)) (show _ = _ from (by first | rfl | (rw [s_all_f (i := i) (by omega) (by simp [s_wp, hi, ha, h_7, h_16, h_32])]; rfl)))), rfl, rfl, rfl⟩
  exact z_cast rfl rfl rfl rfl rfl (L2 (_ + 1) 0 (by omega) (by rfl) (Nat.lt_succ_self _))

set_option maxHeartbeats 4000000 in
set_option maxRecDepth 100000 in
theorem c_X2_takeProbeOff (l : Launch) (G : Gv) (sc : Sc) (ia : Ia) (la : La) (n : Nat) (hn : sc 0 = nI n) (hN : n ≤ 32)    : Ct l yX2_takeProbeOff wsX2_takeProbeOff ({ frames := 1, cells := 0, slots := 0, locals := 21 }) G [.ref (G.2.1 2)] sc ia la (fI (bI (s_all (s_wp ia) n)) sc (if s_all (s_wp ia) n = true then va_up ia 3 (s_po ia n) else ia) la) := by
  have hU2 : ∀ w ∈ u_ws RX2 TX2 9, w ∈ wsX2_takeProbeOff := fun w h => List.mem_cons_of_mem _ (List.mem_append_right _ h)
  refine z_of (maxL := 2) (own := RX2) [(0, .ref (G.2.1 2))] rfl (by decide +kernel) rfl (Nat.le_of_ble_eq_true rfl) rfl (fun Z C E => ?_)
  refine z_aload_n (pc' := 1) C dX2_takeProbeOff_0 rfl 0 rfl rfl ?_
  refine z_cV (n := 0) (pc' := 4) (As := []) (rest := []) C 2 (c_X2_isWholeWithoutProbe l G _ _ _ n hn hN) gX2_takeProbeOff_X2_isWholeWithoutProbe rfl rfl rfl rfl (by decide +kernel) (by decide) rfl (by decide) q_o2 rfl rfl dX2_takeProbeOff_1 (Nat.le_of_ble_eq_true rfl) rfl (k_I ?_)
  show Z sc ia la [(0, .ref (G.2.1 2))] 4 [.int (bI (s_all (s_wp ia) n))]
  refine z_ifB_ne (pc' := 7) C 9 dX2_takeProbeOff_4 rfl rfl (fun h_4 => ?_) (fun h_4 => ?_)
  · refine z_iconst (v := 0) (pc' := 10) C dX2_takeProbeOff_9 rfl rfl ?_
    refine z_istore_n (lv' := [(1, .int 0), (0, .ref (G.2.1 2))]) (pc' := 11) C dX2_takeProbeOff_10 rfl (by decide) rfl rfl ?_
    have L11 : ∀ (fuel : Nat) (i : Nat) (hi : i ≤ n), n - i < fuel → Z sc (va_up ia 3 (s_po ia i)) la [(1, .int (nI i)), (0, .ref (G.2.1 2))] 11 [] := by
      intro fuel
      induction fuel with
      | zero => intro i hi hm11; exact absurd hm11 (Nat.not_lt_zero _)
      | succ fuel ih11 =>
        intro i hi hm11
        refine z_iload_n (pc' := 12) C dX2_takeProbeOff_11 rfl 0 rfl rfl ?_
        refine z_aload_n (pc' := 13) C dX2_takeProbeOff_12 rfl 1 rfl rfl ?_
        refine z_get (pc' := 16) C hU2 2 (by decide) q_o2 rfl 0 (by decide) (by decide +kernel) (v := .int (sc 0)) rfl dX2_takeProbeOff_13 rfl ?_
        refine z_cast (st' := [.int (nI n), .int (nI i)]) rfl rfl rfl rfl (congrArg (fun z => Value.int z :: [.int (nI i)]) hn) ?_
        refine z_icmpN_ge (a := i) (b := n) (pc' := 19) C 53 (by omega) (by omega) dX2_takeProbeOff_16 rfl rfl (fun h_16 => ?_) (fun h_16 => ?_)
        · refine z_iconst (v := 1) (pc' := 54) C dX2_takeProbeOff_53 rfl rfl ?_
          exact z_zret (E := E) rfl dX2_takeProbeOff_54 (rfl) ⟨(congrArg (fun z => some (Value.int z)) (show _ = _ from (by first | rfl | (rw [h_4]; rfl)))), rfl, (by first | rfl | (have e9 : i = n := (by omega); subst e9; rw [if_pos h_4])), rfl⟩
        · refine z_aload_n (pc' := 20) C dX2_takeProbeOff_19 rfl 1 rfl rfl ?_
          refine z_get (pc' := 23) C hU2 2 (by decide) q_o2 rfl 3 (by decide) (by decide +kernel) (v := .ref (G.2.1 9)) rfl dX2_takeProbeOff_20 rfl ?_
          refine z_iload_n (pc' := 24) C dX2_takeProbeOff_23 rfl 0 rfl rfl ?_
          refine z_iald (pc' := 25) C 9 (by decide) (N := 32) (i := i) (f := ia 2) q_i2 (by omega) (by decide) dX2_takeProbeOff_24 rfl ?_
          refine z_if_eq (pc' := 28) C 47 dX2_takeProbeOff_25 rfl rfl (fun h_25 => ?_) (fun h_25 => ?_)
          · refine z_iinc (v := nI (i + 1)) (k9 := 0) (lv' := [(1, .int (nI (i + 1))), (0, .ref (G.2.1 2))]) (pc' := 50) C dX2_takeProbeOff_47 rfl (nI_1 i) (by decide) rfl rfl ?_
            refine z_goto (pc' := 11) C dX2_takeProbeOff_50 rfl ?_
            exact z_cast rfl (by first | rfl | (simp [s_po, h_25])) rfl rfl rfl (ih11 (i + 1) (by omega) (by omega))
          · refine z_aload_n (pc' := 29) C dX2_takeProbeOff_28 rfl 1 rfl rfl ?_
            refine z_get (pc' := 32) C hU2 2 (by decide) q_o2 rfl 4 (by decide) (by decide +kernel) (v := .ref (G.2.1 10)) rfl dX2_takeProbeOff_29 rfl ?_
            refine z_iload_n (pc' := 33) C dX2_takeProbeOff_32 rfl 0 rfl rfl ?_
            refine z_aload_n (pc' := 34) C dX2_takeProbeOff_33 rfl 1 rfl rfl ?_
            refine z_get (pc' := 37) C hU2 2 (by decide) q_o2 rfl 4 (by decide) (by decide +kernel) (v := .ref (G.2.1 10)) rfl dX2_takeProbeOff_34 rfl ?_
            refine z_iload_n (pc' := 38) C dX2_takeProbeOff_37 rfl 0 rfl rfl ?_
            refine z_iald (pc' := 39) C 10 (by decide) (N := 32) (i := i) (f := s_po ia i) q_i3 (by omega) (by decide) dX2_takeProbeOff_38 rfl ?_
            refine z_aload_n (pc' := 40) C dX2_takeProbeOff_39 rfl 1 rfl rfl ?_
            refine z_get (pc' := 43) C hU2 2 (by decide) q_o2 rfl 3 (by decide) (by decide +kernel) (v := .ref (G.2.1 9)) rfl dX2_takeProbeOff_40 rfl ?_
            refine z_iload_n (pc' := 44) C dX2_takeProbeOff_43 rfl 0 rfl rfl ?_
            refine z_iald (pc' := 45) C 9 (by decide) (N := 32) (i := i) (f := ia 2) q_i2 (by omega) (by decide) dX2_takeProbeOff_44 rfl ?_
            refine z_idiv (pc' := 46) C dX2_takeProbeOff_45 (h_25) rfl ?_
            refine z_iast (pc' := 47) C 10 (by decide) (N := 32) (i := i) (f := s_po ia i) q_i3 (by omega) (by decide) (q_uu3 _ _) dX2_takeProbeOff_46 rfl ?_
            refine z_iinc (v := nI (i + 1)) (k9 := 0) (lv' := [(1, .int (nI (i + 1))), (0, .ref (G.2.1 2))]) (pc' := 50) C dX2_takeProbeOff_47 rfl (nI_1 i) (by decide) rfl rfl ?_
            refine z_goto (pc' := 11) C dX2_takeProbeOff_50 rfl ?_
            exact z_cast rfl (by first | rfl | (simp [s_po, h_25])) rfl rfl rfl (ih11 (i + 1) (by omega) (by omega))
    exact z_cast rfl (by first | rfl | (exact va_same _ 3)) rfl rfl rfl (L11 (_ + 1) 0 (by omega) (Nat.lt_succ_self _))
  · refine z_iconst (v := 0) (pc' := 8) C dX2_takeProbeOff_7 rfl rfl ?_
    exact z_zret (E := E) rfl dX2_takeProbeOff_8 (rfl) ⟨(congrArg (fun z => some (Value.int z)) (show _ = _ from (by first | rfl | (rw [h_4]; rfl)))), rfl, (by first | rfl | (rw [h_4]; rfl)), rfl⟩

set_option maxHeartbeats 4000000 in
set_option maxRecDepth 100000 in
theorem c_X2_sumThrough (l : Launch) (G : Gv) (sc : Sc) (ia : Ia) (la : La) (n : Nat) (hn : sc 0 = nI n) (hN : n ≤ 32) (i m v : Int32)   : Ct l yX2_sumThrough wsX2_sumThrough ({ frames := 2, cells := 0, slots := 0, locals := 41 }) G [.ref (G.2.1 2), .int i, .int m, .int v] sc ia la (fI (s_th ia i m v n) sc ia la) := by
  have hU2 : ∀ w ∈ u_ws RX2 TX2 9, w ∈ wsX2_sumThrough := fun w h => List.mem_cons_of_mem _ (List.mem_append_right _ h)
  refine z_of (maxL := 6) (own := RX2) [(0, .ref (G.2.1 2)), (1, .int i), (2, .int m), (3, .int v)] rfl (by decide +kernel) rfl (Nat.le_of_ble_eq_true rfl) rfl (fun Z C E => ?_)
  refine z_iconst (v := 0) (pc' := 1) C dX2_sumThrough_0 rfl rfl ?_
  refine z_istore (lv' := [(4, .int 0), (0, .ref (G.2.1 2)), (1, .int i), (2, .int m), (3, .int v)]) (pc' := 3) C dX2_sumThrough_1 (by decide) rfl rfl ?_
  refine z_iconst (v := 0) (pc' := 4) C dX2_sumThrough_3 rfl rfl ?_
  refine z_istore (lv' := [(5, .int 0), (4, .int 0), (0, .ref (G.2.1 2)), (1, .int i), (2, .int m), (3, .int v)]) (pc' := 6) C dX2_sumThrough_4 (by decide) rfl rfl ?_
  have L6 : ∀ (fuel : Nat) (j : Nat) (hj : j ≤ n), n - j < fuel → Z sc ia la [(5, .int (nI j)), (4, .int (s_th ia i m v j)), (0, .ref (G.2.1 2)), (1, .int i), (2, .int m), (3, .int v)] 6 [] := by
    intro fuel
    induction fuel with
    | zero => intro j hj hm6; exact absurd hm6 (Nat.not_lt_zero _)
    | succ fuel ih6 =>
      intro j hj hm6
      refine z_iload (pc' := 8) C dX2_sumThrough_6 0 rfl rfl ?_
      refine z_aload_n (pc' := 9) C dX2_sumThrough_8 rfl 2 rfl rfl ?_
      refine z_get (pc' := 12) C hU2 2 (by decide) q_o2 rfl 0 (by decide) (by decide +kernel) (v := .int (sc 0)) rfl dX2_sumThrough_9 rfl ?_
      refine z_cast (st' := [.int (nI n), .int (nI j)]) rfl rfl rfl rfl (congrArg (fun z => Value.int z :: [.int (nI j)]) hn) ?_
      refine z_icmpN_ge (a := j) (b := n) (pc' := 15) C 50 (by omega) (by omega) dX2_sumThrough_12 rfl rfl (fun h_12 => ?_) (fun h_12 => ?_)
      · refine z_iload (pc' := 52) C dX2_sumThrough_50 1 rfl rfl ?_
        exact z_iret (E := E) rfl dX2_sumThrough_52 ⟨(congrArg (fun z => some (Value.int z)) (show _ = _ from (by first | rfl | (have e9 : j = n := (by omega); subst e9; rfl)))), rfl, rfl, rfl⟩
      · refine z_iload (pc' := 17) C dX2_sumThrough_15 0 rfl rfl ?_
        refine z_iload_n (pc' := 18) C dX2_sumThrough_17 rfl 4 rfl rfl ?_
        refine z_iload_n (pc' := 19) C dX2_sumThrough_18 rfl 5 rfl rfl ?_
        refine z_cN (n := 3) (pc' := 22) (As := [.int (nI j), .int m, .int v]) (rest := []) C (c_X5_passes l G _ _ _ (nI j) m v) gX2_sumThrough_X5_passes_n70 rfl rfl rfl (by decide +kernel) (by decide +kernel) (by decide +kernel) (by decide +kernel) (by decide) rfl rfl dX2_sumThrough_19 (Nat.le_of_ble_eq_true rfl) rfl (k_I ?_)
        show Z sc ia la [(5, .int (nI j)), (4, .int (s_th ia i m v j)), (0, .ref (G.2.1 2)), (1, .int i), (2, .int m), (3, .int v)] 22 [.int (bI (s_pass (nI j) m v))]
        refine z_ifB_eq (pc' := 25) C 44 dX2_sumThrough_22 rfl rfl (fun h_22 => ?_) (fun h_22 => ?_)
        · refine z_iinc (v := nI (j + 1)) (k9 := 0) (lv' := [(5, .int (nI (j + 1))), (4, .int (s_th ia i m v j)), (0, .ref (G.2.1 2)), (1, .int i), (2, .int m), (3, .int v)]) (pc' := 47) C dX2_sumThrough_44 rfl (nI_1 j) (by decide) rfl rfl ?_
          refine z_goto (pc' := 6) C dX2_sumThrough_47 rfl ?_
          exact z_cast rfl rfl rfl (by first | rfl | (simp [s_th, h_22])) rfl (ih6 (j + 1) (by omega) (by omega))
        · refine z_iload (pc' := 27) C dX2_sumThrough_25 1 rfl rfl ?_
          refine z_aload_n (pc' := 28) C dX2_sumThrough_27 rfl 2 rfl rfl ?_
          refine z_get (pc' := 31) C hU2 2 (by decide) q_o2 rfl 2 (by decide) (by decide +kernel) (v := .ref (G.2.1 8)) rfl dX2_sumThrough_28 rfl ?_
          refine z_iload (pc' := 33) C dX2_sumThrough_31 0 rfl rfl ?_
          refine z_iald (pc' := 34) C 8 (by decide) (N := 32) (i := j) (f := ia 1) q_i1 (by omega) (by decide) dX2_sumThrough_33 rfl ?_
          refine z_iload_n (pc' := 35) C dX2_sumThrough_34 rfl 3 rfl rfl ?_
          refine z_iload (pc' := 37) C dX2_sumThrough_35 0 rfl rfl ?_
          refine z_cN (n := 2) (pc' := 40) (As := [.int i, .int (nI j)]) (rest := [.int ((ia 1) j), .int (s_th ia i m v j)]) C (c_X5_signOf l G _ _ _ i (nI j)) gX2_sumThrough_X5_signOf_n46 rfl rfl rfl (by decide +kernel) (by decide +kernel) (by decide +kernel) (by decide +kernel) (by decide) rfl rfl dX2_sumThrough_37 (Nat.le_of_ble_eq_true rfl) rfl (k_I ?_)
          show Z sc ia la [(5, .int (nI j)), (4, .int (s_th ia i m v j)), (0, .ref (G.2.1 2)), (1, .int i), (2, .int m), (3, .int v)] 40 [.int (s_sgn i (nI j)), .int ((ia 1) j), .int (s_th ia i m v j)]
          refine z_imul (pc' := 41) C dX2_sumThrough_40 rfl ?_
          refine z_iadd (pc' := 42) C dX2_sumThrough_41 rfl ?_
          refine z_istore (lv' := [(4, .int ((s_th ia i m v j) + (((ia 1) j) * (s_sgn i (nI j))))), (5, .int (nI j)), (0, .ref (G.2.1 2)), (1, .int i), (2, .int m), (3, .int v)]) (pc' := 44) C dX2_sumThrough_42 (by decide) rfl rfl ?_
          refine z_iinc (v := nI (j + 1)) (k9 := 1) (lv' := [(5, .int (nI (j + 1))), (4, .int ((s_th ia i m v j) + (((ia 1) j) * (s_sgn i (nI j))))), (0, .ref (G.2.1 2)), (1, .int i), (2, .int m), (3, .int v)]) (pc' := 47) C dX2_sumThrough_44 rfl (nI_1 j) (by decide) rfl rfl ?_
          refine z_goto (pc' := 6) C dX2_sumThrough_47 rfl ?_
          exact z_cast rfl rfl rfl (by first | rfl | (simp [s_th, h_22])) rfl (ih6 (j + 1) (by omega) (by omega))
  exact z_cast rfl rfl rfl rfl rfl (L6 (_ + 1) 0 (by omega) (Nat.lt_succ_self _))

set_option maxHeartbeats 4000000 in
set_option maxRecDepth 100000 in
theorem c_X2_squaresThrough (l : Launch) (G : Gv) (sc : Sc) (ia : Ia) (la : La) (n : Nat) (hn : sc 0 = nI n) (hN : n ≤ 32) (m v : Int32)   : Ct l yX2_squaresThrough wsX2_squaresThrough ({ frames := 1, cells := 0, slots := 0, locals := 22 }) G [.ref (G.2.1 2), .int m, .int v] sc ia la (fL (s_sq ia m v n) sc ia la) := by
  have hU2 : ∀ w ∈ u_ws RX2 TX2 9, w ∈ wsX2_squaresThrough := fun w h => List.mem_cons_of_mem _ (List.mem_append_right _ h)
  refine z_of (maxL := 6) (own := RX2) [(0, .ref (G.2.1 2)), (1, .int m), (2, .int v)] rfl (by decide +kernel) rfl (Nat.le_of_ble_eq_true rfl) rfl (fun Z C E => ?_)
  refine z_lconst (v := 0) (pc' := 1) C dX2_squaresThrough_0 rfl rfl ?_
  refine z_lstore_n (lv' := [(3, .long 0), (0, .ref (G.2.1 2)), (1, .int m), (2, .int v)]) (pc' := 2) C dX2_squaresThrough_1 rfl (by decide) rfl rfl ?_
  refine z_iconst (v := 0) (pc' := 3) C dX2_squaresThrough_2 rfl rfl ?_
  refine z_istore (lv' := [(5, .int 0), (3, .long 0), (0, .ref (G.2.1 2)), (1, .int m), (2, .int v)]) (pc' := 5) C dX2_squaresThrough_3 (by decide) rfl rfl ?_
  have L5 : ∀ (fuel : Nat) (j : Nat) (hj : j ≤ n), n - j < fuel → Z sc ia la [(5, .int (nI j)), (3, .long (s_sq ia m v j)), (0, .ref (G.2.1 2)), (1, .int m), (2, .int v)] 5 [] := by
    intro fuel
    induction fuel with
    | zero => intro j hj hm5; exact absurd hm5 (Nat.not_lt_zero _)
    | succ fuel ih5 =>
      intro j hj hm5
      refine z_iload (pc' := 7) C dX2_squaresThrough_5 0 rfl rfl ?_
      refine z_aload_n (pc' := 8) C dX2_squaresThrough_7 rfl 2 rfl rfl ?_
      refine z_get (pc' := 11) C hU2 2 (by decide) q_o2 rfl 0 (by decide) (by decide +kernel) (v := .int (sc 0)) rfl dX2_squaresThrough_8 rfl ?_
      refine z_cast (st' := [.int (nI n), .int (nI j)]) rfl rfl rfl rfl (congrArg (fun z => Value.int z :: [.int (nI j)]) hn) ?_
      refine z_icmpN_ge (a := j) (b := n) (pc' := 14) C 50 (by omega) (by omega) dX2_squaresThrough_11 rfl rfl (fun h_11 => ?_) (fun h_11 => ?_)
      · refine z_lload_n (pc' := 51) C dX2_squaresThrough_50 rfl 1 rfl rfl ?_
        exact z_lret (E := E) rfl dX2_squaresThrough_51 ⟨(congrArg (fun z => some (Value.long z)) (show _ = _ from (by first | rfl | (have e9 : j = n := (by omega); subst e9; rfl)))), rfl, rfl, rfl⟩
      · refine z_iload (pc' := 16) C dX2_squaresThrough_14 0 rfl rfl ?_
        refine z_iload_n (pc' := 17) C dX2_squaresThrough_16 rfl 3 rfl rfl ?_
        refine z_iload_n (pc' := 18) C dX2_squaresThrough_17 rfl 4 rfl rfl ?_
        refine z_cN (n := 3) (pc' := 21) (As := [.int (nI j), .int m, .int v]) (rest := []) C (c_X5_passes l G _ _ _ (nI j) m v) gX2_squaresThrough_X5_passes_n70 rfl rfl rfl (by decide +kernel) (by decide +kernel) (by decide +kernel) (by decide +kernel) (by decide) rfl rfl dX2_squaresThrough_18 (Nat.le_of_ble_eq_true rfl) rfl (k_I ?_)
        show Z sc ia la [(5, .int (nI j)), (3, .long (s_sq ia m v j)), (0, .ref (G.2.1 2)), (1, .int m), (2, .int v)] 21 [.int (bI (s_pass (nI j) m v))]
        refine z_ifB_eq (pc' := 24) C 44 dX2_squaresThrough_21 rfl rfl (fun h_21 => ?_) (fun h_21 => ?_)
        · refine z_iinc (v := nI (j + 1)) (k9 := 0) (lv' := [(5, .int (nI (j + 1))), (3, .long (s_sq ia m v j)), (0, .ref (G.2.1 2)), (1, .int m), (2, .int v)]) (pc' := 47) C dX2_squaresThrough_44 rfl (nI_1 j) (by decide) rfl rfl ?_
          refine z_goto (pc' := 5) C dX2_squaresThrough_47 rfl ?_
          exact z_cast rfl rfl rfl (by first | rfl | (simp [s_sq, h_21])) rfl (ih5 (j + 1) (by omega) (by omega))
        · refine z_lload_n (pc' := 25) C dX2_squaresThrough_24 rfl 1 rfl rfl ?_
          refine z_aload_n (pc' := 26) C dX2_squaresThrough_25 rfl 2 rfl rfl ?_
          refine z_get (pc' := 29) C hU2 2 (by decide) q_o2 rfl 2 (by decide) (by decide +kernel) (v := .ref (G.2.1 8)) rfl dX2_squaresThrough_26 rfl ?_
          refine z_iload (pc' := 31) C dX2_squaresThrough_29 0 rfl rfl ?_
          refine z_iald (pc' := 32) C 8 (by decide) (N := 32) (i := j) (f := ia 1) q_i1 (by omega) (by decide) dX2_squaresThrough_31 rfl ?_
          refine z_i2l (pc' := 33) C dX2_squaresThrough_32 rfl ?_
          refine z_aload_n (pc' := 34) C dX2_squaresThrough_33 rfl 2 rfl rfl ?_
          refine z_get (pc' := 37) C hU2 2 (by decide) q_o2 rfl 2 (by decide) (by decide +kernel) (v := .ref (G.2.1 8)) rfl dX2_squaresThrough_34 rfl ?_
          refine z_iload (pc' := 39) C dX2_squaresThrough_37 0 rfl rfl ?_
          refine z_iald (pc' := 40) C 8 (by decide) (N := 32) (i := j) (f := ia 1) q_i1 (by omega) (by decide) dX2_squaresThrough_39 rfl ?_
          refine z_i2l (pc' := 41) C dX2_squaresThrough_40 rfl ?_
          refine z_lmul (pc' := 42) C dX2_squaresThrough_41 rfl ?_
          refine z_ladd (pc' := 43) C dX2_squaresThrough_42 rfl ?_
          refine z_lstore_n (lv' := [(3, .long ((s_sq ia m v j) + ((((ia 1) j).toInt64) * (((ia 1) j).toInt64)))), (5, .int (nI j)), (0, .ref (G.2.1 2)), (1, .int m), (2, .int v)]) (pc' := 44) C dX2_squaresThrough_43 rfl (by decide) rfl rfl ?_
          refine z_iinc (v := nI (j + 1)) (k9 := 1) (lv' := [(5, .int (nI (j + 1))), (3, .long ((s_sq ia m v j) + ((((ia 1) j).toInt64) * (((ia 1) j).toInt64)))), (0, .ref (G.2.1 2)), (1, .int m), (2, .int v)]) (pc' := 47) C dX2_squaresThrough_44 rfl (nI_1 j) (by decide) rfl rfl ?_
          refine z_goto (pc' := 5) C dX2_squaresThrough_47 rfl ?_
          exact z_cast rfl rfl rfl (by first | rfl | (simp [s_sq, h_21])) rfl (ih5 (j + 1) (by omega) (by omega))
  exact z_cast rfl rfl rfl rfl rfl (L5 (_ + 1) 0 (by omega) (Nat.lt_succ_self _))

set_option maxHeartbeats 4000000 in
set_option maxRecDepth 100000 in
theorem c_X2_countTrue6 (l : Launch) (G : Gv) (sc : Sc) (ia : Ia) (la : La)   : Ct l yX2_countTrue wsX2_countTrue ({ frames := 0, cells := 0, slots := 0, locals := 0 }) G [.ref (G.2.1 13)] sc ia la (fI (s_ct (ia 6) 32) sc ia la) := by
  refine z_of (maxL := 6) (own := RX2) [(0, .ref (G.2.1 13))] rfl (by decide +kernel) rfl (Nat.le_of_ble_eq_true rfl) rfl (fun Z C E => ?_)
  refine z_iconst (v := 0) (pc' := 1) C dX2_countTrue_0 rfl rfl ?_
  refine z_istore_n (lv' := [(1, .int 0), (0, .ref (G.2.1 13))]) (pc' := 2) C dX2_countTrue_1 rfl (by decide) rfl rfl ?_
  refine z_aload_n (pc' := 3) C dX2_countTrue_2 rfl 1 rfl rfl ?_
  refine z_astore_n (lv' := [(2, .ref (G.2.1 13)), (1, .int 0), (0, .ref (G.2.1 13))]) (pc' := 4) C dX2_countTrue_3 rfl (by decide) rfl rfl ?_
  refine z_aload_n (pc' := 5) C dX2_countTrue_4 rfl 0 rfl rfl ?_
  refine z_alen (pc' := 6) C 13 (by decide) (t0 := 2) rfl q_i6 dX2_countTrue_5 rfl ?_
  refine z_istore_n (lv' := [(3, .int 32), (2, .ref (G.2.1 13)), (1, .int 0), (0, .ref (G.2.1 13))]) (pc' := 7) C dX2_countTrue_6 rfl (by decide) rfl rfl ?_
  refine z_iconst (v := 0) (pc' := 8) C dX2_countTrue_7 rfl rfl ?_
  refine z_istore (lv' := [(4, .int 0), (3, .int 32), (2, .ref (G.2.1 13)), (1, .int 0), (0, .ref (G.2.1 13))]) (pc' := 10) C dX2_countTrue_8 (by decide) rfl rfl ?_
  have L10 : ∀ (fuel : Nat) (j : Nat) (hj : j ≤ 32), 32 - j < fuel → Z sc ia la [(4, .int (nI j)), (3, .int 32), (2, .ref (G.2.1 13)), (1, .int (s_ct (ia 6) j))] 10 [] := by
    intro fuel
    induction fuel with
    | zero => intro j hj hm10; exact absurd hm10 (Nat.not_lt_zero _)
    | succ fuel ih10 =>
      intro j hj hm10
      refine z_iload (pc' := 12) C dX2_countTrue_10 0 rfl rfl ?_
      refine z_iload_n (pc' := 13) C dX2_countTrue_12 rfl 1 rfl rfl ?_
      refine z_icmpN_ge (a := j) (b := 32) (pc' := 16) C 36 (by omega) (by omega) dX2_countTrue_13 rfl rfl (fun h_13 => ?_) (fun h_13 => ?_)
      · refine z_iload_n (pc' := 37) C dX2_countTrue_36 rfl 3 rfl rfl ?_
        exact z_iret (E := E) rfl dX2_countTrue_37 ⟨(congrArg (fun z => some (Value.int z)) (show _ = _ from (by first | rfl | (have e9 : j = 32 := (by omega); subst e9; rfl)))), rfl, rfl, rfl⟩
      · refine z_aload_n (pc' := 17) C dX2_countTrue_16 rfl 2 rfl rfl ?_
        refine z_iload (pc' := 19) C dX2_countTrue_17 0 rfl rfl ?_
        refine z_zald (pc' := 20) C 13 (by decide) (N := 32) (i := j) (f := ia 6) q_i6 (by omega) (by decide) dX2_countTrue_19 rfl ?_
        refine z_istore (lv' := [(5, .int ((ia 6) j)), (4, .int (nI j)), (3, .int 32), (2, .ref (G.2.1 13)), (1, .int (s_ct (ia 6) j))]) (pc' := 22) C dX2_countTrue_20 (by decide) rfl rfl ?_
        refine z_iload (pc' := 24) C dX2_countTrue_22 0 rfl rfl ?_
        refine z_if_eq (pc' := 27) C 30 dX2_countTrue_24 rfl rfl (fun h_24 => ?_) (fun h_24 => ?_)
        · refine z_iinc (v := nI (j + 1)) (k9 := 1) (lv' := [(4, .int (nI (j + 1))), (5, .int ((ia 6) j)), (3, .int 32), (2, .ref (G.2.1 13)), (1, .int (s_ct (ia 6) j))]) (pc' := 33) C dX2_countTrue_30 rfl (nI_1 j) (by decide) rfl rfl ?_
          refine z_goto (pc' := 10) C dX2_countTrue_33 rfl ?_
          refine z_sub (lv' := [(4, .int (nI (j + 1))), (3, .int 32), (2, .ref (G.2.1 13)), (1, .int (s_ct (ia 6) j))]) C [0, 2, 3, 4] rfl ?_
          exact z_cast rfl rfl rfl (by first | rfl | (simp [s_ct, h_24])) rfl (ih10 (j + 1) (by omega) (by omega))
        · refine z_iinc (v := (s_ct (ia 6) j) + 1) (k9 := 4) (lv' := [(1, .int ((s_ct (ia 6) j) + 1)), (5, .int ((ia 6) j)), (4, .int (nI j)), (3, .int 32), (2, .ref (G.2.1 13))]) (pc' := 30) C dX2_countTrue_27 rfl rfl (by decide) rfl rfl ?_
          refine z_iinc (v := nI (j + 1)) (k9 := 2) (lv' := [(4, .int (nI (j + 1))), (1, .int ((s_ct (ia 6) j) + 1)), (5, .int ((ia 6) j)), (3, .int 32), (2, .ref (G.2.1 13))]) (pc' := 33) C dX2_countTrue_30 rfl (nI_1 j) (by decide) rfl rfl ?_
          refine z_goto (pc' := 10) C dX2_countTrue_33 rfl ?_
          refine z_sub (lv' := [(4, .int (nI (j + 1))), (3, .int 32), (2, .ref (G.2.1 13)), (1, .int ((s_ct (ia 6) j) + 1))]) C [0, 3, 4, 1] rfl ?_
          exact z_cast rfl rfl rfl (by first | rfl | (simp [s_ct, h_24])) rfl (ih10 (j + 1) (by omega) (by omega))
  refine z_sub (lv' := [(4, .int 0), (3, .int 32), (2, .ref (G.2.1 13)), (1, .int 0)]) C [0, 1, 2, 3] rfl ?_
  exact z_cast rfl rfl rfl rfl rfl (L10 (_ + 1) 0 (by omega) (Nat.lt_succ_self _))

set_option maxHeartbeats 4000000 in
set_option maxRecDepth 100000 in
theorem c_X2_countTrue7 (l : Launch) (G : Gv) (sc : Sc) (ia : Ia) (la : La)   : Ct l yX2_countTrue wsX2_countTrue ({ frames := 0, cells := 0, slots := 0, locals := 0 }) G [.ref (G.2.1 14)] sc ia la (fI (s_ct (ia 7) 32) sc ia la) := by
  refine z_of (maxL := 6) (own := RX2) [(0, .ref (G.2.1 14))] rfl (by decide +kernel) rfl (Nat.le_of_ble_eq_true rfl) rfl (fun Z C E => ?_)
  refine z_iconst (v := 0) (pc' := 1) C dX2_countTrue_0 rfl rfl ?_
  refine z_istore_n (lv' := [(1, .int 0), (0, .ref (G.2.1 14))]) (pc' := 2) C dX2_countTrue_1 rfl (by decide) rfl rfl ?_
  refine z_aload_n (pc' := 3) C dX2_countTrue_2 rfl 1 rfl rfl ?_
  refine z_astore_n (lv' := [(2, .ref (G.2.1 14)), (1, .int 0), (0, .ref (G.2.1 14))]) (pc' := 4) C dX2_countTrue_3 rfl (by decide) rfl rfl ?_
  refine z_aload_n (pc' := 5) C dX2_countTrue_4 rfl 0 rfl rfl ?_
  refine z_alen (pc' := 6) C 14 (by decide) (t0 := 2) rfl q_i7 dX2_countTrue_5 rfl ?_
  refine z_istore_n (lv' := [(3, .int 32), (2, .ref (G.2.1 14)), (1, .int 0), (0, .ref (G.2.1 14))]) (pc' := 7) C dX2_countTrue_6 rfl (by decide) rfl rfl ?_
  refine z_iconst (v := 0) (pc' := 8) C dX2_countTrue_7 rfl rfl ?_
  refine z_istore (lv' := [(4, .int 0), (3, .int 32), (2, .ref (G.2.1 14)), (1, .int 0), (0, .ref (G.2.1 14))]) (pc' := 10) C dX2_countTrue_8 (by decide) rfl rfl ?_
  have L10 : ∀ (fuel : Nat) (j : Nat) (hj : j ≤ 32), 32 - j < fuel → Z sc ia la [(4, .int (nI j)), (3, .int 32), (2, .ref (G.2.1 14)), (1, .int (s_ct (ia 7) j))] 10 [] := by
    intro fuel
    induction fuel with
    | zero => intro j hj hm10; exact absurd hm10 (Nat.not_lt_zero _)
    | succ fuel ih10 =>
      intro j hj hm10
      refine z_iload (pc' := 12) C dX2_countTrue_10 0 rfl rfl ?_
      refine z_iload_n (pc' := 13) C dX2_countTrue_12 rfl 1 rfl rfl ?_
      refine z_icmpN_ge (a := j) (b := 32) (pc' := 16) C 36 (by omega) (by omega) dX2_countTrue_13 rfl rfl (fun h_13 => ?_) (fun h_13 => ?_)
      · refine z_iload_n (pc' := 37) C dX2_countTrue_36 rfl 3 rfl rfl ?_
        exact z_iret (E := E) rfl dX2_countTrue_37 ⟨(congrArg (fun z => some (Value.int z)) (show _ = _ from (by first | rfl | (have e9 : j = 32 := (by omega); subst e9; rfl)))), rfl, rfl, rfl⟩
      · refine z_aload_n (pc' := 17) C dX2_countTrue_16 rfl 2 rfl rfl ?_
        refine z_iload (pc' := 19) C dX2_countTrue_17 0 rfl rfl ?_
        refine z_zald (pc' := 20) C 14 (by decide) (N := 32) (i := j) (f := ia 7) q_i7 (by omega) (by decide) dX2_countTrue_19 rfl ?_
        refine z_istore (lv' := [(5, .int ((ia 7) j)), (4, .int (nI j)), (3, .int 32), (2, .ref (G.2.1 14)), (1, .int (s_ct (ia 7) j))]) (pc' := 22) C dX2_countTrue_20 (by decide) rfl rfl ?_
        refine z_iload (pc' := 24) C dX2_countTrue_22 0 rfl rfl ?_
        refine z_if_eq (pc' := 27) C 30 dX2_countTrue_24 rfl rfl (fun h_24 => ?_) (fun h_24 => ?_)
        · refine z_iinc (v := nI (j + 1)) (k9 := 1) (lv' := [(4, .int (nI (j + 1))), (5, .int ((ia 7) j)), (3, .int 32), (2, .ref (G.2.1 14)), (1, .int (s_ct (ia 7) j))]) (pc' := 33) C dX2_countTrue_30 rfl (nI_1 j) (by decide) rfl rfl ?_
          refine z_goto (pc' := 10) C dX2_countTrue_33 rfl ?_
          refine z_sub (lv' := [(4, .int (nI (j + 1))), (3, .int 32), (2, .ref (G.2.1 14)), (1, .int (s_ct (ia 7) j))]) C [0, 2, 3, 4] rfl ?_
          exact z_cast rfl rfl rfl (by first | rfl | (simp [s_ct, h_24])) rfl (ih10 (j + 1) (by omega) (by omega))
        · refine z_iinc (v := (s_ct (ia 7) j) + 1) (k9 := 4) (lv' := [(1, .int ((s_ct (ia 7) j) + 1)), (5, .int ((ia 7) j)), (4, .int (nI j)), (3, .int 32), (2, .ref (G.2.1 14))]) (pc' := 30) C dX2_countTrue_27 rfl rfl (by decide) rfl rfl ?_
          refine z_iinc (v := nI (j + 1)) (k9 := 2) (lv' := [(4, .int (nI (j + 1))), (1, .int ((s_ct (ia 7) j) + 1)), (5, .int ((ia 7) j)), (3, .int 32), (2, .ref (G.2.1 14))]) (pc' := 33) C dX2_countTrue_30 rfl (nI_1 j) (by decide) rfl rfl ?_
          refine z_goto (pc' := 10) C dX2_countTrue_33 rfl ?_
          refine z_sub (lv' := [(4, .int (nI (j + 1))), (3, .int 32), (2, .ref (G.2.1 14)), (1, .int ((s_ct (ia 7) j) + 1))]) C [0, 3, 4, 1] rfl ?_
          exact z_cast rfl rfl rfl (by first | rfl | (simp [s_ct, h_24])) rfl (ih10 (j + 1) (by omega) (by omega))
  refine z_sub (lv' := [(4, .int 0), (3, .int 32), (2, .ref (G.2.1 14)), (1, .int 0)]) C [0, 1, 2, 3] rfl ?_
  exact z_cast rfl rfl rfl rfl rfl (L10 (_ + 1) 0 (by omega) (Nat.lt_succ_self _))

set_option maxHeartbeats 4000000 in
set_option maxRecDepth 100000 in
theorem c_X2_countLost (l : Launch) (G : Gv) (sc : Sc) (ia : Ia) (la : La)   : Ct l yX2_countLost wsX2_countLost ({ frames := 1, cells := 0, slots := 0, locals := 25 }) G [.ref (G.2.1 2)] sc ia la (fI (s_ct (ia 6) 32) sc ia la) := by
  have hU2 : ∀ w ∈ u_ws RX2 TX2 9, w ∈ wsX2_countLost := fun w h => List.mem_cons_of_mem _ (List.mem_append_right _ h)
  refine z_of (maxL := 1) (own := RX2) [(0, .ref (G.2.1 2))] rfl (by decide +kernel) rfl (Nat.le_of_ble_eq_true rfl) rfl (fun Z C E => ?_)
  refine z_aload_n (pc' := 1) C dX2_countLost_0 rfl 0 rfl rfl ?_
  refine z_get (pc' := 4) C hU2 2 (by decide) q_o2 rfl 7 (by decide) (by decide +kernel) (v := .ref (G.2.1 13)) rfl dX2_countLost_1 rfl ?_
  refine z_cS (n := 1) (pc' := 7) (As := [.ref (G.2.1 13)]) (rest := []) C (c_X2_countTrue6 l G _ _ _) gX2_countLost_X2_countTrue rfl rfl rfl (by decide +kernel) (by decide) rfl rfl dX2_countLost_4 (Nat.le_of_ble_eq_true rfl) rfl (k_I ?_)
  show Z sc ia la [(0, .ref (G.2.1 2))] 7 [.int (s_ct (ia 6) 32)]
  exact z_iret (E := E) rfl dX2_countLost_7 ⟨(congrArg (fun z => some (Value.int z)) rfl), rfl, rfl, rfl⟩

set_option maxHeartbeats 4000000 in
set_option maxRecDepth 100000 in
theorem c_X2_countMeasured (l : Launch) (G : Gv) (sc : Sc) (ia : Ia) (la : La)   : Ct l yX2_countMeasured wsX2_countMeasured ({ frames := 1, cells := 0, slots := 0, locals := 25 }) G [.ref (G.2.1 2)] sc ia la (fI (s_ct (ia 7) 32) sc ia la) := by
  have hU2 : ∀ w ∈ u_ws RX2 TX2 9, w ∈ wsX2_countMeasured := fun w h => List.mem_cons_of_mem _ (List.mem_append_right _ h)
  refine z_of (maxL := 1) (own := RX2) [(0, .ref (G.2.1 2))] rfl (by decide +kernel) rfl (Nat.le_of_ble_eq_true rfl) rfl (fun Z C E => ?_)
  refine z_aload_n (pc' := 1) C dX2_countMeasured_0 rfl 0 rfl rfl ?_
  refine z_get (pc' := 4) C hU2 2 (by decide) q_o2 rfl 8 (by decide) (by decide +kernel) (v := .ref (G.2.1 14)) rfl dX2_countMeasured_1 rfl ?_
  refine z_cS (n := 1) (pc' := 7) (As := [.ref (G.2.1 14)]) (rest := []) C (c_X2_countTrue7 l G _ _ _) gX2_countMeasured_X2_countTrue rfl rfl rfl (by decide +kernel) (by decide) rfl rfl dX2_countMeasured_4 (Nat.le_of_ble_eq_true rfl) rfl (k_I ?_)
  show Z sc ia la [(0, .ref (G.2.1 2))] 7 [.int (s_ct (ia 7) 32)]
  exact z_iret (E := E) rfl dX2_countMeasured_7 ⟨(congrArg (fun z => some (Value.int z)) rfl), rfl, rfl, rfl⟩

set_option maxHeartbeats 4000000 in
set_option maxRecDepth 100000 in
theorem c_X2_offAt (l : Launch) (G : Gv) (sc : Sc) (ia : Ia) (la : La) (a : Nat) (ha : a < 32)  : Ct l yX2_offAt wsX2_offAt ({ frames := 0, cells := 0, slots := 0, locals := 0 }) G [.ref (G.2.1 2), .int (nI a)] sc ia la (fI (s_off ia a) sc ia la) := by
  have hU2 : ∀ w ∈ u_ws RX2 TX2 9, w ∈ wsX2_offAt := fun w h => List.mem_cons_of_mem _ (List.mem_append_right _ h)
  refine z_of (maxL := 2) (own := RX2) [(0, .ref (G.2.1 2)), (1, .int (nI a))] rfl (by decide +kernel) rfl (Nat.le_of_ble_eq_true rfl) rfl (fun Z C E => ?_)
  refine z_aload_n (pc' := 1) C dX2_offAt_0 rfl 0 rfl rfl ?_
  refine z_get (pc' := 4) C hU2 2 (by decide) q_o2 rfl 8 (by decide) (by decide +kernel) (v := .ref (G.2.1 14)) rfl dX2_offAt_1 rfl ?_
  refine z_iload_n (pc' := 5) C dX2_offAt_4 rfl 1 rfl rfl ?_
  refine z_zald (pc' := 6) C 14 (by decide) (N := 32) (i := a) (f := ia 7) q_i7 (by omega) (by decide) dX2_offAt_5 rfl ?_
  refine z_if_eq (pc' := 9) C 25 dX2_offAt_6 rfl rfl (fun h_6 => ?_) (fun h_6 => ?_)
  · refine z_iconst (v := 0) (pc' := 26) C dX2_offAt_25 rfl rfl ?_
    exact z_iret (E := E) rfl dX2_offAt_26 ⟨(congrArg (fun z => some (Value.int z)) (show _ = _ from (by first | rfl | (simp [s_off, h_6])))), rfl, rfl, rfl⟩
  · refine z_aload_n (pc' := 10) C dX2_offAt_9 rfl 0 rfl rfl ?_
    refine z_get (pc' := 13) C hU2 2 (by decide) q_o2 rfl 5 (by decide) (by decide +kernel) (v := .ref (G.2.1 11)) rfl dX2_offAt_10 rfl ?_
    refine z_iload_n (pc' := 14) C dX2_offAt_13 rfl 1 rfl rfl ?_
    refine z_iald (pc' := 15) C 11 (by decide) (N := 32) (i := a) (f := ia 4) q_i4 (by omega) (by decide) dX2_offAt_14 rfl ?_
    refine z_aload_n (pc' := 16) C dX2_offAt_15 rfl 0 rfl rfl ?_
    refine z_get (pc' := 19) C hU2 2 (by decide) q_o2 rfl 2 (by decide) (by decide +kernel) (v := .ref (G.2.1 8)) rfl dX2_offAt_16 rfl ?_
    refine z_iload_n (pc' := 20) C dX2_offAt_19 rfl 1 rfl rfl ?_
    refine z_iald (pc' := 21) C 8 (by decide) (N := 32) (i := a) (f := ia 1) q_i1 (by omega) (by decide) dX2_offAt_20 rfl ?_
    refine z_isub (pc' := 22) C dX2_offAt_21 rfl ?_
    refine z_goto (pc' := 26) C dX2_offAt_22 rfl ?_
    exact z_iret (E := E) rfl dX2_offAt_26 ⟨(congrArg (fun z => some (Value.int z)) (show _ = _ from (by first | rfl | (simp [s_off, h_6])))), rfl, rfl, rfl⟩

set_option maxHeartbeats 4000000 in
set_option maxRecDepth 100000 in
theorem c_X2_isAnythingOff (l : Launch) (G : Gv) (sc : Sc) (ia : Ia) (la : La) (n : Nat) (hn : sc 0 = nI n) (hN : n ≤ 32)    : Ct l yX2_isAnythingOff wsX2_isAnythingOff ({ frames := 1, cells := 0, slots := 0, locals := 21 }) G [.ref (G.2.1 2)] sc ia la (fI (bI (!s_all (fun j => decide (s_off ia j = 0)) n)) sc ia la) := by
  have hU2 : ∀ w ∈ u_ws RX2 TX2 9, w ∈ wsX2_isAnythingOff := fun w h => List.mem_cons_of_mem _ (List.mem_append_right _ h)
  refine z_of (maxL := 2) (own := RX2) [(0, .ref (G.2.1 2))] rfl (by decide +kernel) rfl (Nat.le_of_ble_eq_true rfl) rfl (fun Z C E => ?_)
  refine z_iconst (v := 0) (pc' := 1) C dX2_isAnythingOff_0 rfl rfl ?_
  refine z_istore_n (lv' := [(1, .int 0), (0, .ref (G.2.1 2))]) (pc' := 2) C dX2_isAnythingOff_1 rfl (by decide) rfl rfl ?_
  have L2 : ∀ (fuel : Nat) (i : Nat) (hi : i ≤ n) (ha : s_all (fun j => decide (s_off ia j = 0)) i = true), n - i < fuel → Z sc ia la [(1, .int (nI i)), (0, .ref (G.2.1 2))] 2 [] := by
    intro fuel
    induction fuel with
    | zero => intro i hi ha hm2; exact absurd hm2 (Nat.not_lt_zero _)
    | succ fuel ih2 =>
      intro i hi ha hm2
      refine z_iload_n (pc' := 3) C dX2_isAnythingOff_2 rfl 0 rfl rfl ?_
      refine z_aload_n (pc' := 4) C dX2_isAnythingOff_3 rfl 1 rfl rfl ?_
      refine z_get (pc' := 7) C hU2 2 (by decide) q_o2 rfl 0 (by decide) (by decide +kernel) (v := .int (sc 0)) rfl dX2_isAnythingOff_4 rfl ?_
      refine z_cast (st' := [.int (nI n), .int (nI i)]) rfl rfl rfl rfl (congrArg (fun z => Value.int z :: [.int (nI i)]) hn) ?_
      refine z_icmpN_ge (a := i) (b := n) (pc' := 10) C 26 (by omega) (by omega) dX2_isAnythingOff_7 rfl rfl (fun h_7 => ?_) (fun h_7 => ?_)
      · refine z_iconst (v := 0) (pc' := 27) C dX2_isAnythingOff_26 rfl rfl ?_
        exact z_zret (E := E) rfl dX2_isAnythingOff_27 (rfl) ⟨(congrArg (fun z => some (Value.int z)) (show _ = _ from (by first | rfl | (have e9 : i = n := (by omega); subst e9; rw [ha]; rfl)))), rfl, rfl, rfl⟩
      · refine z_aload_n (pc' := 11) C dX2_isAnythingOff_10 rfl 1 rfl rfl ?_
        refine z_iload_n (pc' := 12) C dX2_isAnythingOff_11 rfl 0 rfl rfl ?_
        refine z_cV (n := 1) (pc' := 15) (As := [.int (nI i)]) (rest := []) C 2 (c_X2_offAt l G _ _ _ i (by omega)) gX2_isAnythingOff_X2_offAt rfl rfl rfl rfl (by decide +kernel) (by decide) rfl (by decide) q_o2 rfl rfl dX2_isAnythingOff_12 (Nat.le_of_ble_eq_true rfl) rfl (k_I ?_)
        show Z sc ia la [(1, .int (nI i)), (0, .ref (G.2.1 2))] 15 [.int (s_off ia i)]
        refine z_if_eq (pc' := 18) C 20 dX2_isAnythingOff_15 rfl rfl (fun h_15 => ?_) (fun h_15 => ?_)
        · refine z_iinc (v := nI (i + 1)) (k9 := 0) (lv' := [(1, .int (nI (i + 1))), (0, .ref (G.2.1 2))]) (pc' := 23) C dX2_isAnythingOff_20 rfl (nI_1 i) (by decide) rfl rfl ?_
          refine z_goto (pc' := 2) C dX2_isAnythingOff_23 rfl ?_
          exact z_cast rfl rfl rfl rfl rfl (ih2 (i + 1) (by omega) (by exact s_all_s ha (by simp [hi, ha, h_7, h_15])) (by omega))
        · refine z_iconst (v := 1) (pc' := 19) C dX2_isAnythingOff_18 rfl rfl ?_
          exact z_zret (E := E) rfl dX2_isAnythingOff_19 (rfl) ⟨(congrArg (fun z => some (Value.int z)) (show _ = _ from (by first | rfl | (rw [s_all_f (i := i) (by omega) (by simp [hi, ha, h_7, h_15])]; rfl)))), rfl, rfl, rfl⟩
  exact z_cast rfl rfl rfl rfl rfl (L2 (_ + 1) 0 (by omega) (by rfl) (Nat.lt_succ_self _))

set_option maxHeartbeats 4000000 in
set_option maxRecDepth 100000 in
theorem c_X2_firstMeasured (l : Launch) (G : Gv) (sc : Sc) (ia : Ia) (la : La) (n : Nat) (hn : sc 0 = nI n) (hN : n ≤ 32)    : Ct l yX2_firstMeasured wsX2_firstMeasured ({ frames := 0, cells := 0, slots := 0, locals := 0 }) G [.ref (G.2.1 2)] sc ia la (fI (s_oi (s_fi (s_ms ia) n)) sc ia la) := by
  have hU2 : ∀ w ∈ u_ws RX2 TX2 9, w ∈ wsX2_firstMeasured := fun w h => List.mem_cons_of_mem _ (List.mem_append_right _ h)
  refine z_of (maxL := 2) (own := RX2) [(0, .ref (G.2.1 2))] rfl (by decide +kernel) rfl (Nat.le_of_ble_eq_true rfl) rfl (fun Z C E => ?_)
  refine z_iconst (v := 0) (pc' := 1) C dX2_firstMeasured_0 rfl rfl ?_
  refine z_istore_n (lv' := [(1, .int 0), (0, .ref (G.2.1 2))]) (pc' := 2) C dX2_firstMeasured_1 rfl (by decide) rfl rfl ?_
  have L2 : ∀ (fuel : Nat) (i : Nat) (hi : i ≤ n) (ha : ∀ j, j < i → s_ms ia j = false), n - i < fuel → Z sc ia la [(1, .int (nI i)), (0, .ref (G.2.1 2))] 2 [] := by
    intro fuel
    induction fuel with
    | zero => intro i hi ha hm2; exact absurd hm2 (Nat.not_lt_zero _)
    | succ fuel ih2 =>
      intro i hi ha hm2
      refine z_iload_n (pc' := 3) C dX2_firstMeasured_2 rfl 0 rfl rfl ?_
      refine z_aload_n (pc' := 4) C dX2_firstMeasured_3 rfl 1 rfl rfl ?_
      refine z_get (pc' := 7) C hU2 2 (by decide) q_o2 rfl 0 (by decide) (by decide +kernel) (v := .int (sc 0)) rfl dX2_firstMeasured_4 rfl ?_
      refine z_cast (st' := [.int (nI n), .int (nI i)]) rfl rfl rfl rfl (congrArg (fun z => Value.int z :: [.int (nI i)]) hn) ?_
      refine z_icmpN_ge (a := i) (b := n) (pc' := 10) C 27 (by omega) (by omega) dX2_firstMeasured_7 rfl rfl (fun h_7 => ?_) (fun h_7 => ?_)
      · refine z_iconst (v := -1) (pc' := 28) C dX2_firstMeasured_27 rfl rfl ?_
        exact z_iret (E := E) rfl dX2_firstMeasured_28 ⟨(congrArg (fun z => some (Value.int z)) (show _ = _ from (by first | rfl | (have e9 : i = n := (by omega); subst e9; rw [s_fi_n ha]; rfl)))), rfl, rfl, rfl⟩
      · refine z_aload_n (pc' := 11) C dX2_firstMeasured_10 rfl 1 rfl rfl ?_
        refine z_get (pc' := 14) C hU2 2 (by decide) q_o2 rfl 8 (by decide) (by decide +kernel) (v := .ref (G.2.1 14)) rfl dX2_firstMeasured_11 rfl ?_
        refine z_iload_n (pc' := 15) C dX2_firstMeasured_14 rfl 0 rfl rfl ?_
        refine z_zald (pc' := 16) C 14 (by decide) (N := 32) (i := i) (f := ia 7) q_i7 (by omega) (by decide) dX2_firstMeasured_15 rfl ?_
        refine z_if_eq (pc' := 19) C 21 dX2_firstMeasured_16 rfl rfl (fun h_16 => ?_) (fun h_16 => ?_)
        · refine z_iinc (v := nI (i + 1)) (k9 := 0) (lv' := [(1, .int (nI (i + 1))), (0, .ref (G.2.1 2))]) (pc' := 24) C dX2_firstMeasured_21 rfl (nI_1 i) (by decide) rfl rfl ?_
          refine z_goto (pc' := 2) C dX2_firstMeasured_24 rfl ?_
          exact z_cast rfl rfl rfl rfl rfl (ih2 (i + 1) (by omega) (by exact s_lt_s ha (by simp [s_ms, hi, ha, h_7, h_16])) (by omega))
        · refine z_iload_n (pc' := 20) C dX2_firstMeasured_19 rfl 0 rfl rfl ?_
          exact z_iret (E := E) rfl dX2_firstMeasured_20 ⟨(congrArg (fun z => some (Value.int z)) (show _ = _ from (by first | rfl | (rw [s_fi_s (i := i) ha (by omega) (by simp [s_ms, h_16])]; rfl)))), rfl, rfl, rfl⟩
  exact z_cast rfl rfl rfl rfl rfl (L2 (_ + 1) 0 (by omega) (fun j h => absurd h (Nat.not_lt_zero j)) (Nat.lt_succ_self _))

theorem c_X2_firstMeasuredN (l : Launch) (G : Gv) (sc : Sc) (ia : Ia) (la : La) (n : Nat) (hn : sc 0 = nI n) (hN : n ≤ 32) (hf : s_fi (s_ms ia) n = none) : Ct l yX2_firstMeasured wsX2_firstMeasured ({ frames := 0, cells := 0, slots := 0, locals := 0 }) G [.ref (G.2.1 2)] sc ia la (fI (-1) sc ia la) := by
  have h9 := c_X2_firstMeasured l G sc ia la n hn hN
  rw [hf] at h9
  exact h9
theorem c_X2_firstMeasuredS (l : Launch) (G : Gv) (sc : Sc) (ia : Ia) (la : La) (n : Nat) (hn : sc 0 = nI n) (hN : n ≤ 32) (f : Nat) (hf : s_fi (s_ms ia) n = some f) : Ct l yX2_firstMeasured wsX2_firstMeasured ({ frames := 0, cells := 0, slots := 0, locals := 0 }) G [.ref (G.2.1 2)] sc ia la (fI (nI f) sc ia la) := by
  have h9 := c_X2_firstMeasured l G sc ia la n hn hN
  rw [hf] at h9
  exact h9
theorem s_fi_lt {p : Nat → Bool} {n f : Nat} (h : s_fi p n = some f) : f < n ∧ p f = true ∧ ∀ j, j < f → p j = false := by
  induction n with
  | zero => cases h
  | succ n ih =>
    unfold s_fi at h
    cases e : s_fi p n with
    | some j =>
      rw [e] at h
      cases h
      obtain ⟨a, b⟩ := ih e
      exact ⟨by omega, b⟩
    | none =>
      rw [e] at h
      by_cases hp : p n = true
      · simp [hp] at h
        subst h
        refine ⟨by omega, hp, fun j hj => ?_⟩
        cases q : p j with
        | false => rfl
        | true =>
          exfalso
          obtain ⟨i, hi⟩ : ∃ i, s_fi p n = some i := by
            clear e ih hp
            induction n with
            | zero => omega
            | succ m ihm =>
              by_cases ej : j = m
              · subst ej
                cases e2 : s_fi p j with
                | some z => exact ⟨z, by simp [s_fi, e2]⟩
                | none => exact ⟨j, by simp [s_fi, e2, q]⟩
              · obtain ⟨z, hz⟩ := ihm (by omega)
                exact ⟨z, by simp [s_fi, hz]⟩
          rw [e] at hi
          cases hi
      · simp [hp] at h
set_option maxHeartbeats 4000000 in
set_option maxRecDepth 100000 in
theorem c_X2_faultOfS (l : Launch) (G : Gv) (sc : Sc) (ia : Ia) (la : La) (n : Nat) (hn : sc 0 = nI n) (hN : n ≤ 32) (a : Nat)  (f : Nat) (hf : s_fi (s_ms ia) n = some f) : Ct l yX2_faultOf wsX2_faultOf ({ frames := 2, cells := 0, slots := 0, locals := 41 }) G [.ref (G.2.1 2), .int (nI a)] sc ia la (fI (if s_all (s_fk2 ia a f) (n - f) = true then s_fx ia a f else 0) sc ia la) := by
  have hU2 : ∀ w ∈ u_ws RX2 TX2 9, w ∈ wsX2_faultOf := fun w h => List.mem_cons_of_mem _ (List.mem_append_right _ h)
  have hfn : f < n := (s_fi_lt hf).1
  refine z_of (maxL := 5) (own := RX2) [(0, .ref (G.2.1 2)), (1, .int (nI a))] rfl (by decide +kernel) rfl (Nat.le_of_ble_eq_true rfl) rfl (fun Z C E => ?_)
  refine z_aload_n (pc' := 1) C dX2_faultOf_0 rfl 0 rfl rfl ?_
  refine z_cV (n := 0) (pc' := 4) (As := []) (rest := []) C 2 (c_X2_firstMeasuredS l G _ _ _ n hn hN f hf) gX2_faultOf_X2_firstMeasured rfl rfl rfl rfl (by decide +kernel) (by decide) rfl (by decide) q_o2 rfl rfl dX2_faultOf_1 (Nat.le_of_ble_eq_true rfl) rfl (k_I ?_)
  show Z sc ia la [(0, .ref (G.2.1 2)), (1, .int (nI a))] 4 [.int (nI f)]
  refine z_istore_n (lv' := [(2, .int (nI f)), (0, .ref (G.2.1 2)), (1, .int (nI a))]) (pc' := 5) C dX2_faultOf_4 rfl (by decide) rfl rfl ?_
  refine z_iload_n (pc' := 6) C dX2_faultOf_5 rfl 0 rfl rfl ?_
  refine z_iconst (v := -1) (pc' := 7) C dX2_faultOf_6 rfl rfl ?_
  refine z_icmp_ne (pc' := 10) C 12 dX2_faultOf_7 rfl rfl (fun h_7 => ?_) (fun h_7 => absurd h_7 (by intro h9; exact absurd (congrArg Int32.toInt h9) (by rw [nI_toInt (by omega)]; show ¬ (f : Int) = -1; omega)))
  refine z_aload_n (pc' := 13) C dX2_faultOf_12 rfl 1 rfl rfl ?_
  refine z_iload_n (pc' := 14) C dX2_faultOf_13 rfl 0 rfl rfl ?_
  refine z_cV (n := 1) (pc' := 17) (As := [.int (nI f)]) (rest := []) C 2 (c_X2_offAt l G _ _ _ f (by omega)) gX2_faultOf_X2_offAt rfl rfl rfl rfl (by decide +kernel) (by decide) rfl (by decide) q_o2 rfl rfl dX2_faultOf_14 (Nat.le_of_ble_eq_true rfl) rfl (k_I ?_)
  show Z sc ia la [(2, .int (nI f)), (0, .ref (G.2.1 2)), (1, .int (nI a))] 17 [.int (s_off ia f)]
  refine z_iload_n (pc' := 18) C dX2_faultOf_17 rfl 2 rfl rfl ?_
  refine z_iload_n (pc' := 19) C dX2_faultOf_18 rfl 0 rfl rfl ?_
  refine z_cN (n := 2) (pc' := 22) (As := [.int (nI a), .int (nI f)]) (rest := [.int (s_off ia f)]) C (c_X5_signOf l G _ _ _ (nI a) (nI f)) gX2_faultOf_X5_signOf_n46 rfl rfl rfl (by decide +kernel) (by decide +kernel) (by decide +kernel) (by decide +kernel) (by decide) rfl rfl dX2_faultOf_19 (Nat.le_of_ble_eq_true rfl) rfl (k_I ?_)
  show Z sc ia la [(2, .int (nI f)), (0, .ref (G.2.1 2)), (1, .int (nI a))] 22 [.int (s_sgn (nI a) (nI f)), .int (s_off ia f)]
  refine z_imul (pc' := 23) C dX2_faultOf_22 rfl ?_
  refine z_istore_n (lv' := [(3, .int ((s_off ia f) * (s_sgn (nI a) (nI f)))), (2, .int (nI f)), (0, .ref (G.2.1 2)), (1, .int (nI a))]) (pc' := 24) C dX2_faultOf_23 rfl (by decide) rfl rfl ?_
  refine z_iload_n (pc' := 25) C dX2_faultOf_24 rfl 1 rfl rfl ?_
  refine z_istore (lv' := [(4, .int (nI f)), (3, .int ((s_off ia f) * (s_sgn (nI a) (nI f)))), (2, .int (nI f)), (0, .ref (G.2.1 2)), (1, .int (nI a))]) (pc' := 27) C dX2_faultOf_25 (by decide) rfl rfl ?_
  have L27 : ∀ (fuel : Nat) (d : Nat) (hd : f + d ≤ n) (ha : s_all (s_fk2 ia a f) d = true), n - (f + d) < fuel → Z sc ia la [(4, .int (nI (f + d))), (3, .int (s_fx ia a f)), (0, .ref (G.2.1 2)), (1, .int (nI a))] 27 [] := by
    intro fuel
    induction fuel with
    | zero => intro d hd ha hm27; exact absurd hm27 (Nat.not_lt_zero _)
    | succ fuel ih27 =>
      intro d hd ha hm27
      refine z_iload (pc' := 29) C dX2_faultOf_27 0 rfl rfl ?_
      refine z_aload_n (pc' := 30) C dX2_faultOf_29 rfl 2 rfl rfl ?_
      refine z_get (pc' := 33) C hU2 2 (by decide) q_o2 rfl 0 (by decide) (by decide +kernel) (v := .int (sc 0)) rfl dX2_faultOf_30 rfl ?_
      refine z_cast (st' := [.int (nI n), .int (nI (f + d))]) rfl rfl rfl rfl (congrArg (fun z => Value.int z :: [.int (nI (f + d))]) hn) ?_
      refine z_icmpN_ge (a := f + d) (b := n) (pc' := 36) C 71 (by omega) (by omega) dX2_faultOf_33 rfl rfl (fun h_33 => ?_) (fun h_33 => ?_)
      · refine z_iload_n (pc' := 72) C dX2_faultOf_71 rfl 1 rfl rfl ?_
        exact z_iret (E := E) rfl dX2_faultOf_72 ⟨(congrArg (fun z => some (Value.int z)) (show _ = _ from (by first | rfl | (have e9 : d = n - f := (by omega); subst e9; rw [if_pos ha])))), rfl, rfl, rfl⟩
      · refine z_aload_n (pc' := 37) C dX2_faultOf_36 rfl 2 rfl rfl ?_
        refine z_get (pc' := 40) C hU2 2 (by decide) q_o2 rfl 8 (by decide) (by decide +kernel) (v := .ref (G.2.1 14)) rfl dX2_faultOf_37 rfl ?_
        refine z_iload (pc' := 42) C dX2_faultOf_40 0 rfl rfl ?_
        refine z_zald (pc' := 43) C 14 (by decide) (N := 32) (i := f + d) (f := ia 7) q_i7 (by omega) (by decide) dX2_faultOf_42 rfl ?_
        refine z_if_eq (pc' := 46) C 65 dX2_faultOf_43 rfl rfl (fun h_43 => ?_) (fun h_43 => ?_)
        · refine z_iinc (v := nI (f + d + 1)) (k9 := 0) (lv' := [(4, .int (nI (f + d + 1))), (3, .int (s_fx ia a f)), (0, .ref (G.2.1 2)), (1, .int (nI a))]) (pc' := 68) C dX2_faultOf_65 rfl (nI_1 (f + d)) (by decide) rfl rfl ?_
          refine z_goto (pc' := 27) C dX2_faultOf_68 rfl ?_
          exact z_cast rfl rfl rfl rfl rfl (ih27 (d + 1) (by omega) (by exact s_all_s ha (by simp [s_fk2, h_7, hd, ha, h_33, h_43])) (by omega))
        · refine z_aload_n (pc' := 47) C dX2_faultOf_46 rfl 2 rfl rfl ?_
          refine z_iload (pc' := 49) C dX2_faultOf_47 0 rfl rfl ?_
          refine z_cV (n := 1) (pc' := 52) (As := [.int (nI (f + d))]) (rest := []) C 2 (c_X2_offAt l G _ _ _ (f + d) (by omega)) gX2_faultOf_X2_offAt rfl rfl rfl rfl (by decide +kernel) (by decide) rfl (by decide) q_o2 rfl rfl dX2_faultOf_49 (Nat.le_of_ble_eq_true rfl) rfl (k_I ?_)
          show Z sc ia la [(4, .int (nI (f + d))), (3, .int (s_fx ia a f)), (0, .ref (G.2.1 2)), (1, .int (nI a))] 52 [.int (s_off ia (f + d))]
          refine z_iload_n (pc' := 53) C dX2_faultOf_52 rfl 1 rfl rfl ?_
          refine z_iload_n (pc' := 54) C dX2_faultOf_53 rfl 3 rfl rfl ?_
          refine z_iload (pc' := 56) C dX2_faultOf_54 0 rfl rfl ?_
          refine z_cN (n := 2) (pc' := 59) (As := [.int (nI a), .int (nI (f + d))]) (rest := [.int (s_fx ia a f), .int (s_off ia (f + d))]) C (c_X5_signOf l G _ _ _ (nI a) (nI (f + d))) gX2_faultOf_X5_signOf_n46 rfl rfl rfl (by decide +kernel) (by decide +kernel) (by decide +kernel) (by decide +kernel) (by decide) rfl rfl dX2_faultOf_56 (Nat.le_of_ble_eq_true rfl) rfl (k_I ?_)
          show Z sc ia la [(4, .int (nI (f + d))), (3, .int (s_fx ia a f)), (0, .ref (G.2.1 2)), (1, .int (nI a))] 59 [.int (s_sgn (nI a) (nI (f + d))), .int (s_fx ia a f), .int (s_off ia (f + d))]
          refine z_imul (pc' := 60) C dX2_faultOf_59 rfl ?_
          refine z_icmp_eq (pc' := 63) C 65 dX2_faultOf_60 rfl rfl (fun h_60 => ?_) (fun h_60 => ?_)
          · refine z_iinc (v := nI (f + d + 1)) (k9 := 0) (lv' := [(4, .int (nI (f + d + 1))), (3, .int (s_fx ia a f)), (0, .ref (G.2.1 2)), (1, .int (nI a))]) (pc' := 68) C dX2_faultOf_65 rfl (nI_1 (f + d)) (by decide) rfl rfl ?_
            refine z_goto (pc' := 27) C dX2_faultOf_68 rfl ?_
            exact z_cast rfl rfl rfl rfl rfl (ih27 (d + 1) (by omega) (by exact s_all_s ha (by simp [s_fk2, h_7, hd, ha, h_33, h_43, h_60])) (by omega))
          · refine z_iconst (v := 0) (pc' := 64) C dX2_faultOf_63 rfl rfl ?_
            exact z_iret (E := E) rfl dX2_faultOf_64 ⟨(congrArg (fun z => some (Value.int z)) (show _ = _ from (by first | rfl | (rw [s_all_f (i := d) (by omega) (by simp [s_fk2, h_7, hd, ha, h_33, h_43, h_60])]; rfl)))), rfl, rfl, rfl⟩
  refine z_sub (lv' := [(4, .int (nI f)), (3, .int ((s_off ia f) * (s_sgn (nI a) (nI f)))), (0, .ref (G.2.1 2)), (1, .int (nI a))]) C [0, 1, 3, 4] rfl ?_
  exact z_cast rfl rfl rfl rfl rfl (L27 (_ + 1) 0 (by omega) (by rfl) (Nat.lt_succ_self _))

set_option maxHeartbeats 4000000 in
set_option maxRecDepth 100000 in
theorem c_X2_faultOfN (l : Launch) (G : Gv) (sc : Sc) (ia : Ia) (la : La) (n : Nat) (hn : sc 0 = nI n) (hN : n ≤ 32) (a : Nat)  (hf : s_fi (s_ms ia) n = none) : Ct l yX2_faultOf wsX2_faultOf ({ frames := 2, cells := 0, slots := 0, locals := 41 }) G [.ref (G.2.1 2), .int (nI a)] sc ia la (fI 0 sc ia la) := by
  refine z_of (maxL := 5) (own := RX2) [(0, .ref (G.2.1 2)), (1, .int (nI a))] rfl (by decide +kernel) rfl (Nat.le_of_ble_eq_true rfl) rfl (fun Z C E => ?_)
  refine z_aload_n (pc' := 1) C dX2_faultOf_0 rfl 0 rfl rfl ?_
  refine z_cV (n := 0) (pc' := 4) (As := []) (rest := []) C 2 (c_X2_firstMeasuredN l G _ _ _ n hn hN hf) gX2_faultOf_X2_firstMeasured rfl rfl rfl rfl (by decide +kernel) (by decide) rfl (by decide) q_o2 rfl rfl dX2_faultOf_1 (Nat.le_of_ble_eq_true rfl) rfl (k_I ?_)
  show Z sc ia la [(0, .ref (G.2.1 2)), (1, .int (nI a))] 4 [.int (-1)]
  refine z_istore_n (lv' := [(2, .int (-1)), (0, .ref (G.2.1 2)), (1, .int (nI a))]) (pc' := 5) C dX2_faultOf_4 rfl (by decide) rfl rfl ?_
  refine z_iload_n (pc' := 6) C dX2_faultOf_5 rfl 0 rfl rfl ?_
  refine z_iconst (v := -1) (pc' := 7) C dX2_faultOf_6 rfl rfl ?_
  refine z_icmp_ne (pc' := 10) C 12 dX2_faultOf_7 rfl rfl (fun h_7 => absurd h_7 (by decide)) (fun h_7 => ?_)
  refine z_iconst (v := 0) (pc' := 11) C dX2_faultOf_10 rfl rfl ?_
  exact z_iret (E := E) rfl dX2_faultOf_11 ⟨(congrArg (fun z => some (Value.int z)) rfl), rfl, rfl, rfl⟩

theorem c_X2_faultOf (l : Launch) (G : Gv) (sc : Sc) (ia : Ia) (la : La) (n : Nat) (hn : sc 0 = nI n) (hN : n ≤ 32) (a : Nat) : Ct l yX2_faultOf wsX2_faultOf ({ frames := 2, cells := 0, slots := 0, locals := 41 }) G [.ref (G.2.1 2), .int (nI a)] sc ia la (fI (s_flt ia n a) sc ia la) := by
  unfold s_flt
  cases hf : s_fi (s_ms ia) n with
  | none => exact c_X2_faultOfN l G sc ia la n hn hN a hf
  | some f => exact c_X2_faultOfS l G sc ia la n hn hN a f hf
set_option maxHeartbeats 4000000 in
set_option maxRecDepth 100000 in
theorem c_X2_countFaults (l : Launch) (G : Gv) (sc : Sc) (ia : Ia) (la : La) (n : Nat) (hn : sc 0 = nI n) (hN : n ≤ 32)    : Ct l yX2_countFaults wsX2_countFaults ({ frames := 3, cells := 0, slots := 0, locals := 65 }) G [.ref (G.2.1 2)] sc ia la (fI (nI (s_cn (s_isf ia n) n)) sc ia la) := by
  have hU2 : ∀ w ∈ u_ws RX2 TX2 9, w ∈ wsX2_countFaults := fun w h => List.mem_cons_of_mem _ (List.mem_append_right _ h)
  refine z_of (maxL := 3) (own := RX2) [(0, .ref (G.2.1 2))] rfl (by decide +kernel) rfl (Nat.le_of_ble_eq_true rfl) rfl (fun Z C E => ?_)
  refine z_iconst (v := 0) (pc' := 1) C dX2_countFaults_0 rfl rfl ?_
  refine z_istore_n (lv' := [(1, .int 0), (0, .ref (G.2.1 2))]) (pc' := 2) C dX2_countFaults_1 rfl (by decide) rfl rfl ?_
  refine z_iconst (v := 0) (pc' := 3) C dX2_countFaults_2 rfl rfl ?_
  refine z_istore_n (lv' := [(2, .int 0), (1, .int 0), (0, .ref (G.2.1 2))]) (pc' := 4) C dX2_countFaults_3 rfl (by decide) rfl rfl ?_
  have L4 : ∀ (fuel : Nat) (i : Nat) (hi : i ≤ n), n - i < fuel → Z sc ia la [(2, .int (nI i)), (1, .int (nI (s_cn (s_isf ia n) i))), (0, .ref (G.2.1 2))] 4 [] := by
    intro fuel
    induction fuel with
    | zero => intro i hi hm4; exact absurd hm4 (Nat.not_lt_zero _)
    | succ fuel ih4 =>
      intro i hi hm4
      refine z_iload_n (pc' := 5) C dX2_countFaults_4 rfl 0 rfl rfl ?_
      refine z_aload_n (pc' := 6) C dX2_countFaults_5 rfl 2 rfl rfl ?_
      refine z_get (pc' := 9) C hU2 2 (by decide) q_o2 rfl 0 (by decide) (by decide +kernel) (v := .int (sc 0)) rfl dX2_countFaults_6 rfl ?_
      refine z_cast (st' := [.int (nI n), .int (nI i)]) rfl rfl rfl rfl (congrArg (fun z => Value.int z :: [.int (nI i)]) hn) ?_
      refine z_icmpN_ge (a := i) (b := n) (pc' := 12) C 29 (by omega) (by omega) dX2_countFaults_9 rfl rfl (fun h_9 => ?_) (fun h_9 => ?_)
      · refine z_iload_n (pc' := 30) C dX2_countFaults_29 rfl 1 rfl rfl ?_
        exact z_iret (E := E) rfl dX2_countFaults_30 ⟨(congrArg (fun z => some (Value.int z)) (show _ = _ from (by first | rfl | (have e9 : i = n := (by omega); subst e9; rfl)))), rfl, rfl, rfl⟩
      · refine z_aload_n (pc' := 13) C dX2_countFaults_12 rfl 2 rfl rfl ?_
        refine z_iload_n (pc' := 14) C dX2_countFaults_13 rfl 0 rfl rfl ?_
        refine z_cV (n := 1) (pc' := 17) (As := [.int (nI i)]) (rest := []) C 2 (c_X2_faultOf l G _ _ _ n hn hN i) gX2_countFaults_X2_faultOf rfl rfl rfl rfl (by decide +kernel) (by decide) rfl (by decide) q_o2 rfl rfl dX2_countFaults_14 (Nat.le_of_ble_eq_true rfl) rfl (k_I ?_)
        show Z sc ia la [(2, .int (nI i)), (1, .int (nI (s_cn (s_isf ia n) i))), (0, .ref (G.2.1 2))] 17 [.int (s_flt ia n i)]
        refine z_if_eq (pc' := 20) C 23 dX2_countFaults_17 rfl rfl (fun h_17 => ?_) (fun h_17 => ?_)
        · refine z_iinc (v := nI (i + 1)) (k9 := 0) (lv' := [(2, .int (nI (i + 1))), (1, .int (nI (s_cn (s_isf ia n) i))), (0, .ref (G.2.1 2))]) (pc' := 26) C dX2_countFaults_23 rfl (nI_1 i) (by decide) rfl rfl ?_
          refine z_goto (pc' := 4) C dX2_countFaults_26 rfl ?_
          exact z_cast rfl rfl rfl (by first | rfl | (simp [s_cn, s_isf, h_17])) rfl (ih4 (i + 1) (by omega) (by omega))
        · refine z_iinc (v := nI (s_cn (s_isf ia n) i + 1)) (k9 := 1) (lv' := [(1, .int (nI (s_cn (s_isf ia n) i + 1))), (2, .int (nI i)), (0, .ref (G.2.1 2))]) (pc' := 23) C dX2_countFaults_20 rfl (nI_1 (s_cn (s_isf ia n) i)) (by decide) rfl rfl ?_
          refine z_iinc (v := nI (i + 1)) (k9 := 1) (lv' := [(2, .int (nI (i + 1))), (1, .int (nI (s_cn (s_isf ia n) i + 1))), (0, .ref (G.2.1 2))]) (pc' := 26) C dX2_countFaults_23 rfl (nI_1 i) (by decide) rfl rfl ?_
          refine z_goto (pc' := 4) C dX2_countFaults_26 rfl ?_
          exact z_cast rfl rfl rfl (by first | rfl | (simp [s_cn, s_isf, h_17])) rfl (ih4 (i + 1) (by omega) (by omega))
  exact z_cast rfl rfl rfl rfl rfl (L4 (_ + 1) 0 (by omega) (Nat.lt_succ_self _))

set_option maxHeartbeats 4000000 in
set_option maxRecDepth 100000 in
theorem c_X2_elementOfFault (l : Launch) (G : Gv) (sc : Sc) (ia : Ia) (la : La) (n : Nat) (hn : sc 0 = nI n) (hN : n ≤ 32) (k : Int32)   : Ct l yX2_elementOfFault wsX2_elementOfFault ({ frames := 3, cells := 0, slots := 0, locals := 65 }) G [.ref (G.2.1 2), .int k] sc ia la (fI (s_ef ia n k) sc ia la) := by
  have hU2 : ∀ w ∈ u_ws RX2 TX2 9, w ∈ wsX2_elementOfFault := fun w h => List.mem_cons_of_mem _ (List.mem_append_right _ h)
  refine z_of (maxL := 4) (own := RX2) [(0, .ref (G.2.1 2)), (1, .int k)] rfl (by decide +kernel) rfl (Nat.le_of_ble_eq_true rfl) rfl (fun Z C E => ?_)
  refine z_iconst (v := 0) (pc' := 1) C dX2_elementOfFault_0 rfl rfl ?_
  refine z_istore_n (lv' := [(2, .int 0), (0, .ref (G.2.1 2)), (1, .int k)]) (pc' := 2) C dX2_elementOfFault_1 rfl (by decide) rfl rfl ?_
  refine z_iconst (v := 0) (pc' := 3) C dX2_elementOfFault_2 rfl rfl ?_
  refine z_istore_n (lv' := [(3, .int 0), (2, .int 0), (0, .ref (G.2.1 2)), (1, .int k)]) (pc' := 4) C dX2_elementOfFault_3 rfl (by decide) rfl rfl ?_
  have L4 : ∀ (fuel : Nat) (i : Nat) (hi : i ≤ n) (ha : ∀ j, j < i → (fun i => s_isf ia n i && decide (nI (s_cn (s_isf ia n) i) = k)) j = false), n - i < fuel → Z sc ia la [(3, .int (nI i)), (2, .int (nI (s_cn (s_isf ia n) i))), (0, .ref (G.2.1 2)), (1, .int k)] 4 [] := by
    intro fuel
    induction fuel with
    | zero => intro i hi ha hm4; exact absurd hm4 (Nat.not_lt_zero _)
    | succ fuel ih4 =>
      intro i hi ha hm4
      refine z_iload_n (pc' := 5) C dX2_elementOfFault_4 rfl 0 rfl rfl ?_
      refine z_aload_n (pc' := 6) C dX2_elementOfFault_5 rfl 2 rfl rfl ?_
      refine z_get (pc' := 9) C hU2 2 (by decide) q_o2 rfl 0 (by decide) (by decide +kernel) (v := .int (sc 0)) rfl dX2_elementOfFault_6 rfl ?_
      refine z_cast (st' := [.int (nI n), .int (nI i)]) rfl rfl rfl rfl (congrArg (fun z => Value.int z :: [.int (nI i)]) hn) ?_
      refine z_icmpN_ge (a := i) (b := n) (pc' := 12) C 36 (by omega) (by omega) dX2_elementOfFault_9 rfl rfl (fun h_9 => ?_) (fun h_9 => ?_)
      · refine z_iconst (v := -1) (pc' := 37) C dX2_elementOfFault_36 rfl rfl ?_
        exact z_iret (E := E) rfl dX2_elementOfFault_37 ⟨(congrArg (fun z => some (Value.int z)) (show _ = _ from (by first | rfl | (have e9 : i = n := (by omega); subst e9; show _ = s_oi _; rw [s_fi_n ha]; rfl)))), rfl, rfl, rfl⟩
      · refine z_aload_n (pc' := 13) C dX2_elementOfFault_12 rfl 2 rfl rfl ?_
        refine z_iload_n (pc' := 14) C dX2_elementOfFault_13 rfl 0 rfl rfl ?_
        refine z_cV (n := 1) (pc' := 17) (As := [.int (nI i)]) (rest := []) C 2 (c_X2_faultOf l G _ _ _ n hn hN i) gX2_elementOfFault_X2_faultOf rfl rfl rfl rfl (by decide +kernel) (by decide) rfl (by decide) q_o2 rfl rfl dX2_elementOfFault_14 (Nat.le_of_ble_eq_true rfl) rfl (k_I ?_)
        show Z sc ia la [(3, .int (nI i)), (2, .int (nI (s_cn (s_isf ia n) i))), (0, .ref (G.2.1 2)), (1, .int k)] 17 [.int (s_flt ia n i)]
        refine z_if_eq (pc' := 20) C 30 dX2_elementOfFault_17 rfl rfl (fun h_17 => ?_) (fun h_17 => ?_)
        · refine z_iinc (v := nI (i + 1)) (k9 := 0) (lv' := [(3, .int (nI (i + 1))), (2, .int (nI (s_cn (s_isf ia n) i))), (0, .ref (G.2.1 2)), (1, .int k)]) (pc' := 33) C dX2_elementOfFault_30 rfl (nI_1 i) (by decide) rfl rfl ?_
          refine z_goto (pc' := 4) C dX2_elementOfFault_33 rfl ?_
          exact z_cast rfl rfl rfl (by first | rfl | (simp [s_cn, s_isf, h_17])) rfl (ih4 (i + 1) (by omega) (by exact s_lt_s ha (by simp [s_isf, hi, ha, h_9, h_17])) (by omega))
        · refine z_iload_n (pc' := 21) C dX2_elementOfFault_20 rfl 1 rfl rfl ?_
          refine z_iload_n (pc' := 22) C dX2_elementOfFault_21 rfl 3 rfl rfl ?_
          refine z_icmp_ne (pc' := 25) C 27 dX2_elementOfFault_22 rfl rfl (fun h_22 => ?_) (fun h_22 => ?_)
          · refine z_iinc (v := nI (s_cn (s_isf ia n) i + 1)) (k9 := 1) (lv' := [(2, .int (nI (s_cn (s_isf ia n) i + 1))), (3, .int (nI i)), (0, .ref (G.2.1 2)), (1, .int k)]) (pc' := 30) C dX2_elementOfFault_27 rfl (nI_1 (s_cn (s_isf ia n) i)) (by decide) rfl rfl ?_
            refine z_iinc (v := nI (i + 1)) (k9 := 1) (lv' := [(3, .int (nI (i + 1))), (2, .int (nI (s_cn (s_isf ia n) i + 1))), (0, .ref (G.2.1 2)), (1, .int k)]) (pc' := 33) C dX2_elementOfFault_30 rfl (nI_1 i) (by decide) rfl rfl ?_
            refine z_goto (pc' := 4) C dX2_elementOfFault_33 rfl ?_
            exact z_cast rfl rfl rfl (by first | rfl | (simp [s_cn, s_isf, h_17])) rfl (ih4 (i + 1) (by omega) (by exact s_lt_s ha (by simp [s_isf, hi, ha, h_9, h_17, h_22])) (by omega))
          · refine z_iload_n (pc' := 26) C dX2_elementOfFault_25 rfl 0 rfl rfl ?_
            exact z_iret (E := E) rfl dX2_elementOfFault_26 ⟨(congrArg (fun z => some (Value.int z)) (show _ = _ from (by first | rfl | (show _ = s_oi _; rw [s_fi_s (i := i) ha (by omega) (by simp [s_isf, h_17, h_22])]; rfl)))), rfl, rfl, rfl⟩
  exact z_cast rfl rfl rfl rfl rfl (L4 (_ + 1) 0 (by omega) (fun j h => absurd h (Nat.not_lt_zero j)) (Nat.lt_succ_self _))

set_option maxHeartbeats 4000000 in
set_option maxRecDepth 100000 in
theorem c_X2_foldInto (l : Launch) (G : Gv) (sc : Sc) (ia : Ia) (la : La) (n : Nat) (hn : sc 0 = nI n) (hN : n ≤ 32) (h : Int64)   : Ct l yX2_foldInto wsX2_foldInto ({ frames := 2, cells := 0, slots := 0, locals := 46 }) G [.ref (G.2.1 2), .long h] sc ia la (fL (s_nf ia (s_fo h (nI n).toInt64) n) sc ia la) := by
  have hU2 : ∀ w ∈ u_ws RX2 TX2 9, w ∈ wsX2_foldInto := fun w h => List.mem_cons_of_mem _ (List.mem_append_right _ h)
  refine z_of (maxL := 6) (own := RX2) [(0, .ref (G.2.1 2)), (1, .long h)] rfl (by decide +kernel) rfl (Nat.le_of_ble_eq_true rfl) rfl (fun Z C E => ?_)
  refine z_lload_n (pc' := 1) C dX2_foldInto_0 rfl 1 rfl rfl ?_
  refine z_aload_n (pc' := 2) C dX2_foldInto_1 rfl 0 rfl rfl ?_
  refine z_get (pc' := 5) C hU2 2 (by decide) q_o2 rfl 0 (by decide) (by decide +kernel) (v := .int (sc 0)) rfl dX2_foldInto_2 rfl ?_
  refine z_cast (st' := [.int (nI n), .long h]) rfl rfl rfl rfl (congrArg (fun z => Value.int z :: [.long h]) hn) ?_
  refine z_i2l (pc' := 6) C dX2_foldInto_5 rfl ?_
  refine z_cN (n := 2) (pc' := 9) (As := [.long h, .long ((nI n).toInt64)]) (rest := []) C (c_X5_fold l G _ _ _ h ((nI n).toInt64)) gX2_foldInto_X5_fold_n88 rfl rfl rfl (by decide +kernel) (by decide +kernel) (by decide +kernel) (by decide +kernel) (by decide) rfl rfl dX2_foldInto_6 (Nat.le_of_ble_eq_true rfl) rfl (k_L ?_)
  show Z sc ia la [(0, .ref (G.2.1 2)), (1, .long h)] 9 [.long (s_fo h ((nI n).toInt64))]
  refine z_lstore_n (lv' := [(3, .long (s_fo h ((nI n).toInt64))), (0, .ref (G.2.1 2)), (1, .long h)]) (pc' := 10) C dX2_foldInto_9 rfl (by decide) rfl rfl ?_
  refine z_iconst (v := 0) (pc' := 11) C dX2_foldInto_10 rfl rfl ?_
  refine z_istore (lv' := [(5, .int 0), (3, .long (s_fo h ((nI n).toInt64))), (0, .ref (G.2.1 2)), (1, .long h)]) (pc' := 13) C dX2_foldInto_11 (by decide) rfl rfl ?_
  have L13 : ∀ (fuel : Nat) (i : Nat) (hi : i ≤ n), n - i < fuel → Z sc ia la [(5, .int (nI i)), (3, .long (s_nf ia (s_fo h (nI n).toInt64) i)), (0, .ref (G.2.1 2))] 13 [] := by
    intro fuel
    induction fuel with
    | zero => intro i hi hm13; exact absurd hm13 (Nat.not_lt_zero _)
    | succ fuel ih13 =>
      intro i hi hm13
      refine z_iload (pc' := 15) C dX2_foldInto_13 0 rfl rfl ?_
      refine z_aload_n (pc' := 16) C dX2_foldInto_15 rfl 2 rfl rfl ?_
      refine z_get (pc' := 19) C hU2 2 (by decide) q_o2 rfl 0 (by decide) (by decide +kernel) (v := .int (sc 0)) rfl dX2_foldInto_16 rfl ?_
      refine z_cast (st' := [.int (nI n), .int (nI i)]) rfl rfl rfl rfl (congrArg (fun z => Value.int z :: [.int (nI i)]) hn) ?_
      refine z_icmpN_ge (a := i) (b := n) (pc' := 22) C 119 (by omega) (by omega) dX2_foldInto_19 rfl rfl (fun h_19 => ?_) (fun h_19 => ?_)
      · refine z_lload_n (pc' := 120) C dX2_foldInto_119 rfl 1 rfl rfl ?_
        exact z_lret (E := E) rfl dX2_foldInto_120 ⟨(congrArg (fun z => some (Value.long z)) (show _ = _ from (by first | rfl | (have e9 : i = n := (by omega); subst e9; rfl)))), rfl, rfl, rfl⟩
      · refine z_lload_n (pc' := 23) C dX2_foldInto_22 rfl 1 rfl rfl ?_
        refine z_aload_n (pc' := 24) C dX2_foldInto_23 rfl 2 rfl rfl ?_
        refine z_get (pc' := 27) C hU2 2 (by decide) q_o2 rfl 1 (by decide) (by decide +kernel) (v := .ref (G.2.1 7)) rfl dX2_foldInto_24 rfl ?_
        refine z_iload (pc' := 29) C dX2_foldInto_27 0 rfl rfl ?_
        refine z_iald (pc' := 30) C 7 (by decide) (N := 32) (i := i) (f := ia 0) q_i0 (by omega) (by decide) dX2_foldInto_29 rfl ?_
        refine z_i2l (pc' := 31) C dX2_foldInto_30 rfl ?_
        refine z_cN (n := 2) (pc' := 34) (As := [.long (s_nf ia (s_fo h (nI n).toInt64) i), .long (((ia 0) i).toInt64)]) (rest := []) C (c_X5_fold l G _ _ _ (s_nf ia (s_fo h (nI n).toInt64) i) (((ia 0) i).toInt64)) gX2_foldInto_X5_fold_n88 rfl rfl rfl (by decide +kernel) (by decide +kernel) (by decide +kernel) (by decide +kernel) (by decide) rfl rfl dX2_foldInto_31 (Nat.le_of_ble_eq_true rfl) rfl (k_L ?_)
        show Z sc ia la [(5, .int (nI i)), (3, .long (s_nf ia (s_fo h (nI n).toInt64) i)), (0, .ref (G.2.1 2))] 34 [.long (s_fo (s_nf ia (s_fo h (nI n).toInt64) i) (((ia 0) i).toInt64))]
        refine z_lstore_n (lv' := [(3, .long (s_fo (s_nf ia (s_fo h (nI n).toInt64) i) (((ia 0) i).toInt64))), (5, .int (nI i)), (0, .ref (G.2.1 2))]) (pc' := 35) C dX2_foldInto_34 rfl (by decide) rfl rfl ?_
        refine z_lload_n (pc' := 36) C dX2_foldInto_35 rfl 0 rfl rfl ?_
        refine z_aload_n (pc' := 37) C dX2_foldInto_36 rfl 2 rfl rfl ?_
        refine z_get (pc' := 40) C hU2 2 (by decide) q_o2 rfl 3 (by decide) (by decide +kernel) (v := .ref (G.2.1 9)) rfl dX2_foldInto_37 rfl ?_
        refine z_iload (pc' := 42) C dX2_foldInto_40 1 rfl rfl ?_
        refine z_iald (pc' := 43) C 9 (by decide) (N := 32) (i := i) (f := ia 2) q_i2 (by omega) (by decide) dX2_foldInto_42 rfl ?_
        refine z_i2l (pc' := 44) C dX2_foldInto_43 rfl ?_
        refine z_cN (n := 2) (pc' := 47) (As := [.long (s_fo (s_nf ia (s_fo h (nI n).toInt64) i) (((ia 0) i).toInt64)), .long (((ia 2) i).toInt64)]) (rest := []) C (c_X5_fold l G _ _ _ (s_fo (s_nf ia (s_fo h (nI n).toInt64) i) (((ia 0) i).toInt64)) (((ia 2) i).toInt64)) gX2_foldInto_X5_fold_n88 rfl rfl rfl (by decide +kernel) (by decide +kernel) (by decide +kernel) (by decide +kernel) (by decide) rfl rfl dX2_foldInto_44 (Nat.le_of_ble_eq_true rfl) rfl (k_L ?_)
        show Z sc ia la [(3, .long (s_fo (s_nf ia (s_fo h (nI n).toInt64) i) (((ia 0) i).toInt64))), (5, .int (nI i)), (0, .ref (G.2.1 2))] 47 [.long (s_fo (s_fo (s_nf ia (s_fo h (nI n).toInt64) i) (((ia 0) i).toInt64)) (((ia 2) i).toInt64))]
        refine z_lstore_n (lv' := [(3, .long (s_fo (s_fo (s_nf ia (s_fo h (nI n).toInt64) i) (((ia 0) i).toInt64)) (((ia 2) i).toInt64))), (5, .int (nI i)), (0, .ref (G.2.1 2))]) (pc' := 48) C dX2_foldInto_47 rfl (by decide) rfl rfl ?_
        refine z_lload_n (pc' := 49) C dX2_foldInto_48 rfl 0 rfl rfl ?_
        refine z_aload_n (pc' := 50) C dX2_foldInto_49 rfl 2 rfl rfl ?_
        refine z_get (pc' := 53) C hU2 2 (by decide) q_o2 rfl 4 (by decide) (by decide +kernel) (v := .ref (G.2.1 10)) rfl dX2_foldInto_50 rfl ?_
        refine z_iload (pc' := 55) C dX2_foldInto_53 1 rfl rfl ?_
        refine z_iald (pc' := 56) C 10 (by decide) (N := 32) (i := i) (f := ia 3) q_i3 (by omega) (by decide) dX2_foldInto_55 rfl ?_
        refine z_i2l (pc' := 57) C dX2_foldInto_56 rfl ?_
        refine z_cN (n := 2) (pc' := 60) (As := [.long (s_fo (s_fo (s_nf ia (s_fo h (nI n).toInt64) i) (((ia 0) i).toInt64)) (((ia 2) i).toInt64)), .long (((ia 3) i).toInt64)]) (rest := []) C (c_X5_fold l G _ _ _ (s_fo (s_fo (s_nf ia (s_fo h (nI n).toInt64) i) (((ia 0) i).toInt64)) (((ia 2) i).toInt64)) (((ia 3) i).toInt64)) gX2_foldInto_X5_fold_n88 rfl rfl rfl (by decide +kernel) (by decide +kernel) (by decide +kernel) (by decide +kernel) (by decide) rfl rfl dX2_foldInto_57 (Nat.le_of_ble_eq_true rfl) rfl (k_L ?_)
        show Z sc ia la [(3, .long (s_fo (s_fo (s_nf ia (s_fo h (nI n).toInt64) i) (((ia 0) i).toInt64)) (((ia 2) i).toInt64))), (5, .int (nI i)), (0, .ref (G.2.1 2))] 60 [.long (s_fo (s_fo (s_fo (s_nf ia (s_fo h (nI n).toInt64) i) (((ia 0) i).toInt64)) (((ia 2) i).toInt64)) (((ia 3) i).toInt64))]
        refine z_lstore_n (lv' := [(3, .long (s_fo (s_fo (s_fo (s_nf ia (s_fo h (nI n).toInt64) i) (((ia 0) i).toInt64)) (((ia 2) i).toInt64)) (((ia 3) i).toInt64))), (5, .int (nI i)), (0, .ref (G.2.1 2))]) (pc' := 61) C dX2_foldInto_60 rfl (by decide) rfl rfl ?_
        refine z_lload_n (pc' := 62) C dX2_foldInto_61 rfl 0 rfl rfl ?_
        refine z_aload_n (pc' := 63) C dX2_foldInto_62 rfl 2 rfl rfl ?_
        refine z_get (pc' := 66) C hU2 2 (by decide) q_o2 rfl 7 (by decide) (by decide +kernel) (v := .ref (G.2.1 13)) rfl dX2_foldInto_63 rfl ?_
        refine z_iload (pc' := 68) C dX2_foldInto_66 1 rfl rfl ?_
        refine z_zald (pc' := 69) C 13 (by decide) (N := 32) (i := i) (f := ia 6) q_i6 (by omega) (by decide) dX2_foldInto_68 rfl ?_
        have J77 : Z sc ia la [(3, .long (s_fo (s_fo (s_fo (s_nf ia (s_fo h (nI n).toInt64) i) (((ia 0) i).toInt64)) (((ia 2) i).toInt64)) (((ia 3) i).toInt64))), (5, .int (nI i)), (0, .ref (G.2.1 2))] 77 [.long (if ia 6 i = 0 then 0 else 1), .long (s_fo (s_fo (s_fo (s_nf ia (s_fo h (nI n).toInt64) i) (((ia 0) i).toInt64)) (((ia 2) i).toInt64)) (((ia 3) i).toInt64))] := by
          refine z_cN (n := 2) (pc' := 80) (As := [.long (s_fo (s_fo (s_fo (s_nf ia (s_fo h (nI n).toInt64) i) (((ia 0) i).toInt64)) (((ia 2) i).toInt64)) (((ia 3) i).toInt64)), .long (if ia 6 i = 0 then 0 else 1)]) (rest := []) C (c_X5_fold l G _ _ _ (s_fo (s_fo (s_fo (s_nf ia (s_fo h (nI n).toInt64) i) (((ia 0) i).toInt64)) (((ia 2) i).toInt64)) (((ia 3) i).toInt64)) (if ia 6 i = 0 then 0 else 1)) gX2_foldInto_X5_fold_n88 rfl rfl rfl (by decide +kernel) (by decide +kernel) (by decide +kernel) (by decide +kernel) (by decide) rfl rfl dX2_foldInto_77 (Nat.le_of_ble_eq_true rfl) rfl (k_L ?_)
          show Z sc ia la [(3, .long (s_fo (s_fo (s_fo (s_nf ia (s_fo h (nI n).toInt64) i) (((ia 0) i).toInt64)) (((ia 2) i).toInt64)) (((ia 3) i).toInt64))), (5, .int (nI i)), (0, .ref (G.2.1 2))] 80 [.long (s_fo (s_fo (s_fo (s_fo (s_nf ia (s_fo h (nI n).toInt64) i) (((ia 0) i).toInt64)) (((ia 2) i).toInt64)) (((ia 3) i).toInt64)) (if ia 6 i = 0 then 0 else 1))]
          refine z_lstore_n (lv' := [(3, .long (s_fo (s_fo (s_fo (s_fo (s_nf ia (s_fo h (nI n).toInt64) i) (((ia 0) i).toInt64)) (((ia 2) i).toInt64)) (((ia 3) i).toInt64)) (if ia 6 i = 0 then 0 else 1))), (5, .int (nI i)), (0, .ref (G.2.1 2))]) (pc' := 81) C dX2_foldInto_80 rfl (by decide) rfl rfl ?_
          refine z_lload_n (pc' := 82) C dX2_foldInto_81 rfl 0 rfl rfl ?_
          refine z_aload_n (pc' := 83) C dX2_foldInto_82 rfl 2 rfl rfl ?_
          refine z_get (pc' := 86) C hU2 2 (by decide) q_o2 rfl 8 (by decide) (by decide +kernel) (v := .ref (G.2.1 14)) rfl dX2_foldInto_83 rfl ?_
          refine z_iload (pc' := 88) C dX2_foldInto_86 1 rfl rfl ?_
          refine z_zald (pc' := 89) C 14 (by decide) (N := 32) (i := i) (f := ia 7) q_i7 (by omega) (by decide) dX2_foldInto_88 rfl ?_
          refine z_aload_n (pc' := 90) C dX2_foldInto_89 rfl 2 rfl rfl ?_
          refine z_get (pc' := 93) C hU2 2 (by decide) q_o2 rfl 5 (by decide) (by decide +kernel) (v := .ref (G.2.1 11)) rfl dX2_foldInto_90 rfl ?_
          refine z_iload (pc' := 95) C dX2_foldInto_93 1 rfl rfl ?_
          refine z_iald (pc' := 96) C 11 (by decide) (N := 32) (i := i) (f := ia 4) q_i4 (by omega) (by decide) dX2_foldInto_95 rfl ?_
          refine z_cN (n := 3) (pc' := 99) (As := [.long (s_fo (s_fo (s_fo (s_fo (s_nf ia (s_fo h (nI n).toInt64) i) (((ia 0) i).toInt64)) (((ia 2) i).toInt64)) (((ia 3) i).toInt64)) (if ia 6 i = 0 then 0 else 1)), .int ((ia 7) i), .int ((ia 4) i)]) (rest := []) C (c_X5_foldIfKnown l G _ _ _ (s_fo (s_fo (s_fo (s_fo (s_nf ia (s_fo h (nI n).toInt64) i) (((ia 0) i).toInt64)) (((ia 2) i).toInt64)) (((ia 3) i).toInt64)) (if ia 6 i = 0 then 0 else 1)) ((ia 7) i) ((ia 4) i)) gX2_foldInto_X5_foldIfKnown_n92 rfl rfl rfl (by decide +kernel) (by decide +kernel) (by decide +kernel) (by decide +kernel) (by decide) rfl rfl dX2_foldInto_96 (Nat.le_of_ble_eq_true rfl) rfl (k_L ?_)
          show Z sc ia la [(3, .long (s_fo (s_fo (s_fo (s_fo (s_nf ia (s_fo h (nI n).toInt64) i) (((ia 0) i).toInt64)) (((ia 2) i).toInt64)) (((ia 3) i).toInt64)) (if ia 6 i = 0 then 0 else 1))), (5, .int (nI i)), (0, .ref (G.2.1 2))] 99 [.long (s_fk (s_fo (s_fo (s_fo (s_fo (s_nf ia (s_fo h (nI n).toInt64) i) (((ia 0) i).toInt64)) (((ia 2) i).toInt64)) (((ia 3) i).toInt64)) (if ia 6 i = 0 then 0 else 1)) ((ia 7) i) ((ia 4) i))]
          refine z_lstore_n (lv' := [(3, .long (s_fk (s_fo (s_fo (s_fo (s_fo (s_nf ia (s_fo h (nI n).toInt64) i) (((ia 0) i).toInt64)) (((ia 2) i).toInt64)) (((ia 3) i).toInt64)) (if ia 6 i = 0 then 0 else 1)) ((ia 7) i) ((ia 4) i))), (5, .int (nI i)), (0, .ref (G.2.1 2))]) (pc' := 100) C dX2_foldInto_99 rfl (by decide) rfl rfl ?_
          refine z_lload_n (pc' := 101) C dX2_foldInto_100 rfl 0 rfl rfl ?_
          refine z_aload_n (pc' := 102) C dX2_foldInto_101 rfl 2 rfl rfl ?_
          refine z_get (pc' := 105) C hU2 2 (by decide) q_o2 rfl 6 (by decide) (by decide +kernel) (v := .ref (G.2.1 12)) rfl dX2_foldInto_102 rfl ?_
          refine z_iload (pc' := 107) C dX2_foldInto_105 1 rfl rfl ?_
          refine z_iald (pc' := 108) C 12 (by decide) (N := 32) (i := i) (f := ia 5) q_i5 (by omega) (by decide) dX2_foldInto_107 rfl ?_
          refine z_i2l (pc' := 109) C dX2_foldInto_108 rfl ?_
          refine z_cN (n := 2) (pc' := 112) (As := [.long (s_fk (s_fo (s_fo (s_fo (s_fo (s_nf ia (s_fo h (nI n).toInt64) i) (((ia 0) i).toInt64)) (((ia 2) i).toInt64)) (((ia 3) i).toInt64)) (if ia 6 i = 0 then 0 else 1)) ((ia 7) i) ((ia 4) i)), .long (((ia 5) i).toInt64)]) (rest := []) C (c_X5_fold l G _ _ _ (s_fk (s_fo (s_fo (s_fo (s_fo (s_nf ia (s_fo h (nI n).toInt64) i) (((ia 0) i).toInt64)) (((ia 2) i).toInt64)) (((ia 3) i).toInt64)) (if ia 6 i = 0 then 0 else 1)) ((ia 7) i) ((ia 4) i)) (((ia 5) i).toInt64)) gX2_foldInto_X5_fold_n88 rfl rfl rfl (by decide +kernel) (by decide +kernel) (by decide +kernel) (by decide +kernel) (by decide) rfl rfl dX2_foldInto_109 (Nat.le_of_ble_eq_true rfl) rfl (k_L ?_)
          show Z sc ia la [(3, .long (s_fk (s_fo (s_fo (s_fo (s_fo (s_nf ia (s_fo h (nI n).toInt64) i) (((ia 0) i).toInt64)) (((ia 2) i).toInt64)) (((ia 3) i).toInt64)) (if ia 6 i = 0 then 0 else 1)) ((ia 7) i) ((ia 4) i))), (5, .int (nI i)), (0, .ref (G.2.1 2))] 112 [.long (s_fo (s_fk (s_fo (s_fo (s_fo (s_fo (s_nf ia (s_fo h (nI n).toInt64) i) (((ia 0) i).toInt64)) (((ia 2) i).toInt64)) (((ia 3) i).toInt64)) (if ia 6 i = 0 then 0 else 1)) ((ia 7) i) ((ia 4) i)) (((ia 5) i).toInt64))]
          refine z_lstore_n (lv' := [(3, .long (s_fo (s_fk (s_fo (s_fo (s_fo (s_fo (s_nf ia (s_fo h (nI n).toInt64) i) (((ia 0) i).toInt64)) (((ia 2) i).toInt64)) (((ia 3) i).toInt64)) (if ia 6 i = 0 then 0 else 1)) ((ia 7) i) ((ia 4) i)) (((ia 5) i).toInt64))), (5, .int (nI i)), (0, .ref (G.2.1 2))]) (pc' := 113) C dX2_foldInto_112 rfl (by decide) rfl rfl ?_
          refine z_iinc (v := nI (i + 1)) (k9 := 1) (lv' := [(5, .int (nI (i + 1))), (3, .long (s_fo (s_fk (s_fo (s_fo (s_fo (s_fo (s_nf ia (s_fo h (nI n).toInt64) i) (((ia 0) i).toInt64)) (((ia 2) i).toInt64)) (((ia 3) i).toInt64)) (if ia 6 i = 0 then 0 else 1)) ((ia 7) i) ((ia 4) i)) (((ia 5) i).toInt64))), (0, .ref (G.2.1 2))]) (pc' := 116) C dX2_foldInto_113 rfl (nI_1 i) (by decide) rfl rfl ?_
          refine z_goto (pc' := 13) C dX2_foldInto_116 rfl ?_
          exact z_cast rfl rfl rfl rfl rfl (ih13 (i + 1) (by omega) (by omega))
        refine z_if_eq (pc' := 72) C 76 dX2_foldInto_69 rfl rfl (fun h_69 => ?_) (fun h_69 => ?_)
        · refine z_lconst (v := 0) (pc' := 77) C dX2_foldInto_76 rfl rfl ?_
          exact z_cast rfl rfl rfl rfl (by first | rfl | (simp [hi, h_19, h_69])) J77
        · refine z_lconst (v := 1) (pc' := 73) C dX2_foldInto_72 rfl rfl ?_
          refine z_goto (pc' := 77) C dX2_foldInto_73 rfl ?_
          exact z_cast rfl rfl rfl rfl (by first | rfl | (simp [hi, h_19, h_69])) J77
  refine z_sub (lv' := [(5, .int 0), (3, .long (s_fo h ((nI n).toInt64))), (0, .ref (G.2.1 2))]) C [0, 1, 2] rfl ?_
  exact z_cast rfl rfl rfl rfl rfl (L13 (_ + 1) 0 (by omega) (Nat.lt_succ_self _))
end
section

theorem Met_ofWF {l : Launch} {y : MethodName} {ws ws' : List Cond} {rm : Room} {Pc : Array Value → State → Prop} {Qc : Array Value → State → Outcome → State → Prop} {mc ms : Nat} {free : Addr → Prop} {cc : ByteArray} {maxL : Nat} {ret : Option FieldType}
    (hy : plainFor y = true) (hw : ws = Cond.code y cc maxL ret :: ws')
    (body : ∀ p e s m args below meth c s₁, BodyLoose p l y (headSpec ws rm) cc maxL ret e s m args below meth c s₁ → c.maxLocals = maxL → Pc args s →
      W p l e (headSpec ws rm).room s m args below meth c s.heap [] 0 0 (MQ below Qc args s mc ms free) (entryFrame m args maxL)) : Met l y ws rm Pc Qc mc ms free := by
  refine MetFree.of_bodySF (code := cc) (maxLocals := maxL) (ret := ret) hy ?_ ?_
  · intro args s m h hn
    obtain ⟨meth, c, h1, h2, h3, h4, h5, h6, -, -⟩ := Cond.code_spec hn (atoms_spec (ws := ws) h _ (by rw [hw]; exact List.mem_cons_self))
    exact ⟨meth, c, h1, h2, h3, h4, h5, h6⟩
  · intro p e s m args below meth c s₁ B hml hP _
    have hh0 : s₁.heap = s.heap := by rw [B.state]; rfl
    obtain ⟨t, a1, o, b1, b2, b3⟩ := body p e s m args below meth c s₁ B hml hP s₁ hh0 (Stand.of_body B)
    exact ⟨t, o, a1, b1, b2, ⟨b3.1, b3.2⟩⟩
theorem z_ofF {l : Launch} {y : MethodName} {ws ws' : List Cond} {rm : Room} {G : Gv} {av : List Value} {sc : Sc} {ia : Ia} {la : La} {Fn : FinT} {cc : ByteArray} {maxL : Nat} {ret : Option FieldType} {own : String} (lv : List (Nat × Value)) (hw : ws = Cond.code y cc maxL ret :: ws') (hy : plainFor y = true) (ho : y.cls = own) (hlen : (lg_sl av).length ≤ maxL) (hlv : lv_args 0 av = lv) (body : ∀ Z : ZT, CC Z cc ws own G maxL rm l → CE Z cc Fn ret → Z sc ia la lv 0 []) : Ct l y ws rm G av sc ia la Fn := by
  subst hlv
  subst ho
  refine Met_ofWF (cc := cc) (maxL := maxL) (ret := ret) hy hw ?_
  intro p e s m args below meth c s₁ B hml hv
  obtain ⟨rfl, hP, hK, hJ, hN⟩ := hv
  have hx := B.exec
  have hb := B.bytes
  have hr := B.returns
  have hts := atoms_spec (ws := ws) B.pre
  have hown : s.vm.findClass y.cls = some m.cls := findClass_of_methodNamed B.named
  have hlocks := B.notSynchronized
  rw [lg_entry_eq]
  refine body (qJ p l e rm s m av.toArray below meth c 0 0 (MQ below (q_Q G Fn) av.toArray s 0 0 (qA G.2.1)) G maxL) ⟨p, e, s, m, _, below, meth, c, 0, 0, _, rfl, hx, hb, hml, hown, hts, hK, hJ, hN, Nat.zero_le _, Nat.zero_le _⟩ ⟨?_, ?_, ?_⟩ s.heap [] _ hP va_S.rf (lv_entry av hlen)
  · intro ty sc ia la lv pc v hret hdg hn hF H locs ls hP hS hl
    exact W.zret (v := v) (ty := ty) hx hb (by rw [hr]; exact hret) hn (fun t ht hW => ⟨⟨_, sc, ia, la, rfl, hF, InW.moved hK hJ hN hP ht hW⟩, hS.F ht⟩) hS.2.2 hdg
  · intro sc ia la lv pc v hret hdg hF H locs ls hP hS hl
    exact W.lret (v := v) hx hb (by rw [hr]; exact hret) (fun t ht hW => ⟨⟨_, sc, ia, la, rfl, hF, InW.moved hK hJ hN hP ht hW⟩, hS.F ht⟩) hS.2.2 hdg
  · intro sc ia la lv pc hret hdg hF H locs ls hP hS hl
    exact W.vret hx hb (by rw [hr]; exact hret) (fun t ht hW => ⟨⟨_, sc, ia, la, rfl, hF, InW.moved hK hJ hN hP ht hW⟩, hS.F ht⟩) hS.2.2 hdg
def s_dq (f : Nat → Int32) : Nat → Int64
  | 0 => 0
  | k + 1 => s_dq f k + (f k).toInt64 * (f k).toInt64
def s_gr (f : Nat → Int32) : Nat → Int32
  | 0 => 0
  | k + 1 => if s_gr f k < f k then f k else s_gr f k
def s_df (f : Nat → Int32) (h : Int64) : Nat → Int64
  | 0 => h
  | k + 1 => s_fo (s_df f h k) (f k).toInt64
def s_fd (x y : Int32) : Int32 := if 0 ≤ x ^^^ y then x / y else if x / y * y = x then x / y else x / y - 1
def s_hold (r c R C : Int32) : Bool := !decide (r < 0) && !decide (R < r) && !decide (c < 0) && !decide (C < c) && (decide (r < R) || !decide (C ≤ c))
def s_clo (ia : Ia) (R a b : Nat) : Int32 := ia (10 + a) b - s_fd ((ia (10 + R) b - ia 10 b) * nI a) (nI R)
def s_tie (ia : Ia) (C a b : Nat) : Int32 := ia (10 + a) b + ia (10 + a) C - ia (10 + a) 0
def s_sfc (ia : Ia) (r : Nat) (h : Int64) : Nat → Int64
  | 0 => h
  | c + 1 => s_fo (s_sfc ia r h c) (ia (10 + r) c).toInt64
def s_sfr (ia : Ia) (C : Nat) (h : Int64) : Nat → Int64
  | 0 => h
  | r + 1 => s_sfc ia r (s_sfr ia C h r) C
def s_sft (ia : Ia) (C : Nat) (h : Int64) : Nat → Int64
  | 0 => h
  | r + 1 => s_fo (s_sft ia C h r) (ia (10 + r) C).toInt64
def s_sf (ia : Ia) (R C : Nat) (h : Int64) : Int64 := s_sft ia C (s_sfr ia C (s_fo (s_fo h (nI R).toInt64) (nI C).toInt64) (R + 1)) R
def s_put (ia : Ia) (a b : Nat) (F V : Int32) : Ia :=
  let i1 : Ia := va_up ia (19 + a) (upd (ia (19 + a)) b F)
  let i2 : Ia := va_up i1 (19 + b) (upd (i1 (19 + b)) a F)
  let i3 : Ia := va_up i2 (24 + a) (upd (i2 (24 + a)) b V)
  va_up i3 (24 + b) (upd (i3 (24 + b)) a V)
def s_wh (ia : Ia) (a b c : Nat) : Bool := decide (ia (19 + a) b = 1) && decide (ia (19 + a) c = 1) && decide (ia (19 + b) c = 1)
def s_ga (ia : Ia) (a b c : Nat) : Int32 := ia (24 + a) b + ia (24 + a) c - ia (24 + b) c
def s_g1 (ia : Ia) (m a b : Nat) : Option Nat := s_fi (fun d => s_wh ia a b (b + 1 + d)) (m - (b + 1))
def s_fg (ia : Ia) (m a : Nat) : Int32 := match s_fi (fun b => (s_g1 ia m a b).isSome) m with
  | none => -1000003
  | some b => match s_g1 ia m a b with
    | none => -1000003
    | some d => s_ga ia a b (b + 1 + d)
def s_sp1 (ia : Ia) (a b c : Nat) (x : Int32 × Int32 × Int32) : Int32 × Int32 × Int32 := if s_wh ia a b c = true then (1, (if x.1 = 0 then s_ga ia a b c else if s_ga ia a b c < x.2.1 then s_ga ia a b c else x.2.1), (if x.1 = 0 then s_ga ia a b c else if x.2.2 < s_ga ia a b c then s_ga ia a b c else x.2.2)) else x
def s_spi (ia : Ia) (a b : Nat) (x : Int32 × Int32 × Int32) : Nat → Int32 × Int32 × Int32
  | 0 => x
  | d + 1 => s_sp1 ia a b (b + 1 + d) (s_spi ia a b x d)
def s_spo (ia : Ia) (m a : Nat) : Nat → Int32 × Int32 × Int32
  | 0 => (0, 0, 0)
  | b + 1 => s_spi ia a b (s_spo ia m a b) (m - (b + 1))
def s_spr (ia : Ia) (m a : Nat) : Int32 := if (s_spo ia m a m).1 = 0 then -1 else (s_spo ia m a m).2.2 - (s_spo ia m a m).2.1
def s_cki (ia : Ia) (a : Nat) (x : Int32) : Nat → Int32
  | 0 => x
  | d + 1 => s_cki ia a x d + ia (19 + a) (a + 1 + d)
def s_cko (ia : Ia) (m : Nat) : Nat → Int32
  | 0 => 0
  | a + 1 => s_cki ia a (s_cko ia m a) (m - (a + 1))
def s_pfi (ia : Ia) (a : Nat) (h : Int64) : Nat → Int64
  | 0 => h
  | d + 1 => s_fk (s_pfi ia a h d) (bI (decide (ia (19 + a) (a + 1 + d) = 1))) (ia (24 + a) (a + 1 + d))
def s_pfo (ia : Ia) (m : Nat) (h : Int64) : Nat → Int64
  | 0 => h
  | a + 1 => s_pfi ia a (s_pfo ia m h a) (m - (a + 1))
def s_b (t : Nat) : Int32 := match t with
  | 0 => -1
  | b + 1 => nI b
theorem s_b_pos {x : Int32} {t : Nat} (hx : x = s_b t) (h : ¬ x < 0) : ∃ b, t = b + 1 ∧ x = nI b ∧ x + (-1) = s_b b := by
  cases t with
  | zero => rw [hx] at h; exact absurd (by decide) h
  | succ b =>
    refine ⟨b, rfl, hx, ?_⟩
    rw [hx]
    cases b with
    | zero => decide
    | succ c => exact pk_m1 c
def s_rt (sq : Int64) : Nat → Int64 → Int64
  | 0, b => b
  | t + 1, b => s_rt sq t (if sq ≤ (b + (1 <<< ((nI t).toInt64 &&& 63))) * (b + (1 <<< ((nI t).toInt64 &&& 63))) then b else b + (1 <<< ((nI t).toInt64 &&& 63)))
def s_ru (sq : Int64) : Int32 := if 0 < sq then (s_rt sq 17 0 + 1).toInt32 else 0

set_option maxHeartbeats 4000000 in
set_option maxRecDepth 100000 in
theorem c_X0_add (l : Launch) (G : Gv) (sc : Sc) (ia : Ia) (la : La) (d : Nat) (hd : sc 6 = nI d) (hD : d < 18) (v : Int32)  : Ct l yX0_add wsX0_add ({ frames := 0, cells := 0, slots := 0, locals := 0 }) G [.ref (G.2.1 0), .int v] sc ia la (fV (va_up sc 6 (nI (d + 1))) (va_up ia 9 (upd (ia 9) d v)) la) := by
  have hU0 : ∀ w ∈ u_ws RX0 TX0 2, w ∈ wsX0_add := fun w h => List.mem_cons_of_mem _ (List.mem_append_right _ h)
  refine z_of (maxL := 2) (own := RX0) [(0, .ref (G.2.1 0)), (1, .int v)] rfl (by decide +kernel) rfl (Nat.le_of_ble_eq_true rfl) rfl (fun Z C E => ?_)
  refine z_aload_n (pc' := 1) C dX0_add_0 rfl 0 rfl rfl ?_
  refine z_get (pc' := 4) C hU0 0 (by decide) q_o0 rfl 0 (by decide) (by decide +kernel) (v := .int (sc 6)) rfl dX0_add_1 rfl ?_
  refine z_cast (st' := [.int (nI d)]) rfl rfl rfl rfl (congrArg (fun z => Value.int z :: []) hd) ?_
  refine z_if_lt (pc' := 7) C 36 dX0_add_4 rfl rfl (fun h_4 => absurd h_4 (by exact nI_pos (by omega))) (fun h_4 => ?_)
  refine z_aload_n (pc' := 8) C dX0_add_7 rfl 0 rfl rfl ?_
  refine z_get (pc' := 11) C hU0 0 (by decide) q_o0 rfl 0 (by decide) (by decide +kernel) (v := .int (sc 6)) rfl dX0_add_8 rfl ?_
  refine z_cast (st' := [.int (nI d)]) rfl rfl rfl rfl (congrArg (fun z => Value.int z :: []) hd) ?_
  refine z_bipush (v := 18) (pc' := 13) C dX0_add_11 rfl rfl ?_
  refine z_icmpN_ge (a := d) (b := 18) (pc' := 16) C 36 (by omega) (by omega) dX0_add_13 rfl rfl (fun h_13 => absurd h_13 (by omega)) (fun h_13 => ?_)
  refine z_aload_n (pc' := 17) C dX0_add_16 rfl 0 rfl rfl ?_
  refine z_get (pc' := 20) C hU0 0 (by decide) q_o0 rfl 1 (by decide) (by decide +kernel) (v := .ref (G.2.1 16)) rfl dX0_add_17 rfl ?_
  refine z_aload_n (pc' := 21) C dX0_add_20 rfl 0 rfl rfl ?_
  refine z_get (pc' := 24) C hU0 0 (by decide) q_o0 rfl 0 (by decide) (by decide +kernel) (v := .int (sc 6)) rfl dX0_add_21 rfl ?_
  refine z_cast (st' := [.int (nI d), .ref (G.2.1 16)]) rfl rfl rfl rfl (congrArg (fun z => Value.int z :: [.ref (G.2.1 16)]) hd) ?_
  refine z_iload_n (pc' := 25) C dX0_add_24 rfl 1 rfl rfl ?_
  refine z_iast (pc' := 26) C 16 (by decide) (N := 18) (i := d) (f := ia 9) q_i9 (by omega) (by decide) (q_u9 _) dX0_add_25 rfl ?_
  refine z_aload_n (pc' := 27) C dX0_add_26 rfl 0 rfl rfl ?_
  refine z_dup (pc' := 28) C dX0_add_27 rfl rfl ?_
  refine z_get (pc' := 31) C hU0 0 (by decide) q_o0 rfl 0 (by decide) (by decide +kernel) (v := .int (sc 6)) rfl dX0_add_28 rfl ?_
  refine z_cast (st' := [.int (nI d), .ref (G.2.1 0)]) rfl rfl rfl rfl (congrArg (fun z => Value.int z :: [.ref (G.2.1 0)]) hd) ?_
  refine z_iconst (v := 1) (pc' := 32) C dX0_add_31 rfl rfl ?_
  refine z_iadd (pc' := 33) C dX0_add_32 rfl ?_
  refine z_cast (st' := [.int (nI (d + 1)), .ref (G.2.1 0)]) rfl rfl rfl rfl (congrArg (fun z => Value.int z :: [.ref (G.2.1 0)]) (nI_add _ _)) ?_
  refine z_put (pc' := 36) C hU0 tyX0 tyX0_ok nmX0 0 (by decide) q_o0 rfl 0 (by decide) (by decide +kernel) rfl rfl (Nat.le_of_ble_eq_true rfl) (q_s6 _) dX0_add_33 rfl ?_
  exact z_vret (E := E) rfl dX0_add_36 ⟨rfl, rfl, rfl, rfl⟩

set_option maxHeartbeats 4000000 in
set_option maxRecDepth 100000 in
theorem c_X0_sum (l : Launch) (G : Gv) (sc : Sc) (ia : Ia) (la : La) (d : Nat) (hd : sc 6 = nI d) (hD : d ≤ 18)  : Ct l yX0_sum wsX0_sum ({ frames := 0, cells := 0, slots := 0, locals := 0 }) G [.ref (G.2.1 0)] sc ia la (fI (bx_sum (ia 9) d) sc ia la) := by
  have hU0 : ∀ w ∈ u_ws RX0 TX0 2, w ∈ wsX0_sum := fun w h => List.mem_cons_of_mem _ (List.mem_append_right _ h)
  refine z_of (maxL := 3) (own := RX0) [(0, .ref (G.2.1 0))] rfl (by decide +kernel) rfl (Nat.le_of_ble_eq_true rfl) rfl (fun Z C E => ?_)
  refine z_iconst (v := 0) (pc' := 1) C dX0_sum_0 rfl rfl ?_
  refine z_istore_n (lv' := [(1, .int 0), (0, .ref (G.2.1 0))]) (pc' := 2) C dX0_sum_1 rfl (by decide) rfl rfl ?_
  refine z_iconst (v := 0) (pc' := 3) C dX0_sum_2 rfl rfl ?_
  refine z_istore_n (lv' := [(2, .int 0), (1, .int 0), (0, .ref (G.2.1 0))]) (pc' := 4) C dX0_sum_3 rfl (by decide) rfl rfl ?_
  have L4 : ∀ (fuel : Nat) (k : Nat) (hk : k ≤ d), d - k < fuel → Z sc ia la [(2, .int (nI k)), (1, .int (bx_sum (ia 9) k)), (0, .ref (G.2.1 0))] 4 [] := by
    intro fuel
    induction fuel with
    | zero => intro k hk hm4; exact absurd hm4 (Nat.not_lt_zero _)
    | succ fuel ih4 =>
      intro k hk hm4
      refine z_iload_n (pc' := 5) C dX0_sum_4 rfl 0 rfl rfl ?_
      refine z_aload_n (pc' := 6) C dX0_sum_5 rfl 2 rfl rfl ?_
      refine z_get (pc' := 9) C hU0 0 (by decide) q_o0 rfl 0 (by decide) (by decide +kernel) (v := .int (sc 6)) rfl dX0_sum_6 rfl ?_
      refine z_cast (st' := [.int (nI d), .int (nI k)]) rfl rfl rfl rfl (congrArg (fun z => Value.int z :: [.int (nI k)]) hd) ?_
      refine z_icmpN_ge (a := k) (b := d) (pc' := 12) C 27 (by omega) (by omega) dX0_sum_9 rfl rfl (fun h_9 => ?_) (fun h_9 => ?_)
      · refine z_iload_n (pc' := 28) C dX0_sum_27 rfl 1 rfl rfl ?_
        exact z_iret (E := E) rfl dX0_sum_28 ⟨(congrArg (fun z => some (Value.int z)) (show _ = _ from (by first | rfl | (have e9 : k = d := (by omega); subst e9; rfl)))), rfl, rfl, rfl⟩
      · refine z_iload_n (pc' := 13) C dX0_sum_12 rfl 1 rfl rfl ?_
        refine z_aload_n (pc' := 14) C dX0_sum_13 rfl 2 rfl rfl ?_
        refine z_get (pc' := 17) C hU0 0 (by decide) q_o0 rfl 1 (by decide) (by decide +kernel) (v := .ref (G.2.1 16)) rfl dX0_sum_14 rfl ?_
        refine z_iload_n (pc' := 18) C dX0_sum_17 rfl 0 rfl rfl ?_
        refine z_iald (pc' := 19) C 16 (by decide) (N := 18) (i := k) (f := ia 9) q_i9 (by omega) (by decide) dX0_sum_18 rfl ?_
        refine z_iadd (pc' := 20) C dX0_sum_19 rfl ?_
        refine z_istore_n (lv' := [(1, .int ((bx_sum (ia 9) k) + ((ia 9) k))), (2, .int (nI k)), (0, .ref (G.2.1 0))]) (pc' := 21) C dX0_sum_20 rfl (by decide) rfl rfl ?_
        refine z_iinc (v := nI (k + 1)) (k9 := 1) (lv' := [(2, .int (nI (k + 1))), (1, .int ((bx_sum (ia 9) k) + ((ia 9) k))), (0, .ref (G.2.1 0))]) (pc' := 24) C dX0_sum_21 rfl (nI_1 k) (by decide) rfl rfl ?_
        refine z_goto (pc' := 4) C dX0_sum_24 rfl ?_
        exact z_cast rfl rfl rfl rfl rfl (ih4 (k + 1) (by omega) (by omega))
  exact z_cast rfl rfl rfl rfl rfl (L4 (_ + 1) 0 (by omega) (Nat.lt_succ_self _))

set_option maxHeartbeats 4000000 in
set_option maxRecDepth 100000 in
theorem c_X0_squares (l : Launch) (G : Gv) (sc : Sc) (ia : Ia) (la : La) (d : Nat) (hd : sc 6 = nI d) (hD : d ≤ 18)  : Ct l yX0_squares wsX0_squares ({ frames := 0, cells := 0, slots := 0, locals := 0 }) G [.ref (G.2.1 0)] sc ia la (fL (s_dq (ia 9) d) sc ia la) := by
  have hU0 : ∀ w ∈ u_ws RX0 TX0 2, w ∈ wsX0_squares := fun w h => List.mem_cons_of_mem _ (List.mem_append_right _ h)
  refine z_of (maxL := 4) (own := RX0) [(0, .ref (G.2.1 0))] rfl (by decide +kernel) rfl (Nat.le_of_ble_eq_true rfl) rfl (fun Z C E => ?_)
  refine z_lconst (v := 0) (pc' := 1) C dX0_squares_0 rfl rfl ?_
  refine z_lstore_n (lv' := [(1, .long 0), (0, .ref (G.2.1 0))]) (pc' := 2) C dX0_squares_1 rfl (by decide) rfl rfl ?_
  refine z_iconst (v := 0) (pc' := 3) C dX0_squares_2 rfl rfl ?_
  refine z_istore_n (lv' := [(3, .int 0), (1, .long 0), (0, .ref (G.2.1 0))]) (pc' := 4) C dX0_squares_3 rfl (by decide) rfl rfl ?_
  have L4 : ∀ (fuel : Nat) (k : Nat) (hk : k ≤ d), d - k < fuel → Z sc ia la [(3, .int (nI k)), (1, .long (s_dq (ia 9) k)), (0, .ref (G.2.1 0))] 4 [] := by
    intro fuel
    induction fuel with
    | zero => intro k hk hm4; exact absurd hm4 (Nat.not_lt_zero _)
    | succ fuel ih4 =>
      intro k hk hm4
      refine z_iload_n (pc' := 5) C dX0_squares_4 rfl 0 rfl rfl ?_
      refine z_aload_n (pc' := 6) C dX0_squares_5 rfl 2 rfl rfl ?_
      refine z_get (pc' := 9) C hU0 0 (by decide) q_o0 rfl 0 (by decide) (by decide +kernel) (v := .int (sc 6)) rfl dX0_squares_6 rfl ?_
      refine z_cast (st' := [.int (nI d), .int (nI k)]) rfl rfl rfl rfl (congrArg (fun z => Value.int z :: [.int (nI k)]) hd) ?_
      refine z_icmpN_ge (a := k) (b := d) (pc' := 12) C 36 (by omega) (by omega) dX0_squares_9 rfl rfl (fun h_9 => ?_) (fun h_9 => ?_)
      · refine z_lload_n (pc' := 37) C dX0_squares_36 rfl 1 rfl rfl ?_
        exact z_lret (E := E) rfl dX0_squares_37 ⟨(congrArg (fun z => some (Value.long z)) (show _ = _ from (by first | rfl | (have e9 : k = d := (by omega); subst e9; rfl)))), rfl, rfl, rfl⟩
      · refine z_lload_n (pc' := 13) C dX0_squares_12 rfl 1 rfl rfl ?_
        refine z_aload_n (pc' := 14) C dX0_squares_13 rfl 2 rfl rfl ?_
        refine z_get (pc' := 17) C hU0 0 (by decide) q_o0 rfl 1 (by decide) (by decide +kernel) (v := .ref (G.2.1 16)) rfl dX0_squares_14 rfl ?_
        refine z_iload_n (pc' := 18) C dX0_squares_17 rfl 0 rfl rfl ?_
        refine z_iald (pc' := 19) C 16 (by decide) (N := 18) (i := k) (f := ia 9) q_i9 (by omega) (by decide) dX0_squares_18 rfl ?_
        refine z_i2l (pc' := 20) C dX0_squares_19 rfl ?_
        refine z_aload_n (pc' := 21) C dX0_squares_20 rfl 2 rfl rfl ?_
        refine z_get (pc' := 24) C hU0 0 (by decide) q_o0 rfl 1 (by decide) (by decide +kernel) (v := .ref (G.2.1 16)) rfl dX0_squares_21 rfl ?_
        refine z_iload_n (pc' := 25) C dX0_squares_24 rfl 0 rfl rfl ?_
        refine z_iald (pc' := 26) C 16 (by decide) (N := 18) (i := k) (f := ia 9) q_i9 (by omega) (by decide) dX0_squares_25 rfl ?_
        refine z_i2l (pc' := 27) C dX0_squares_26 rfl ?_
        refine z_lmul (pc' := 28) C dX0_squares_27 rfl ?_
        refine z_ladd (pc' := 29) C dX0_squares_28 rfl ?_
        refine z_lstore_n (lv' := [(1, .long ((s_dq (ia 9) k) + ((((ia 9) k).toInt64) * (((ia 9) k).toInt64)))), (3, .int (nI k)), (0, .ref (G.2.1 0))]) (pc' := 30) C dX0_squares_29 rfl (by decide) rfl rfl ?_
        refine z_iinc (v := nI (k + 1)) (k9 := 1) (lv' := [(3, .int (nI (k + 1))), (1, .long ((s_dq (ia 9) k) + ((((ia 9) k).toInt64) * (((ia 9) k).toInt64)))), (0, .ref (G.2.1 0))]) (pc' := 33) C dX0_squares_30 rfl (nI_1 k) (by decide) rfl rfl ?_
        refine z_goto (pc' := 4) C dX0_squares_33 rfl ?_
        exact z_cast rfl rfl rfl rfl rfl (ih4 (k + 1) (by omega) (by omega))
  exact z_cast rfl rfl rfl rfl rfl (L4 (_ + 1) 0 (by omega) (Nat.lt_succ_self _))

set_option maxHeartbeats 4000000 in
set_option maxRecDepth 100000 in
theorem c_X0_greatest (l : Launch) (G : Gv) (sc : Sc) (ia : Ia) (la : La) (d : Nat) (hd : sc 6 = nI d) (hD : d ≤ 18)  : Ct l yX0_greatest wsX0_greatest ({ frames := 1, cells := 0, slots := 0, locals := 14 }) G [.ref (G.2.1 0)] sc ia la (fI (s_gr (ia 9) d) sc ia la) := by
  have hU0 : ∀ w ∈ u_ws RX0 TX0 2, w ∈ wsX0_greatest := fun w h => List.mem_cons_of_mem _ (List.mem_append_right _ h)
  refine z_of (maxL := 3) (own := RX0) [(0, .ref (G.2.1 0))] rfl (by decide +kernel) rfl (Nat.le_of_ble_eq_true rfl) rfl (fun Z C E => ?_)
  refine z_iconst (v := 0) (pc' := 1) C dX0_greatest_0 rfl rfl ?_
  refine z_istore_n (lv' := [(1, .int 0), (0, .ref (G.2.1 0))]) (pc' := 2) C dX0_greatest_1 rfl (by decide) rfl rfl ?_
  refine z_iconst (v := 0) (pc' := 3) C dX0_greatest_2 rfl rfl ?_
  refine z_istore_n (lv' := [(2, .int 0), (1, .int 0), (0, .ref (G.2.1 0))]) (pc' := 4) C dX0_greatest_3 rfl (by decide) rfl rfl ?_
  have L4 : ∀ (fuel : Nat) (k : Nat) (hk : k ≤ d), d - k < fuel → Z sc ia la [(2, .int (nI k)), (1, .int (s_gr (ia 9) k)), (0, .ref (G.2.1 0))] 4 [] := by
    intro fuel
    induction fuel with
    | zero => intro k hk hm4; exact absurd hm4 (Nat.not_lt_zero _)
    | succ fuel ih4 =>
      intro k hk hm4
      refine z_iload_n (pc' := 5) C dX0_greatest_4 rfl 0 rfl rfl ?_
      refine z_aload_n (pc' := 6) C dX0_greatest_5 rfl 2 rfl rfl ?_
      refine z_get (pc' := 9) C hU0 0 (by decide) q_o0 rfl 0 (by decide) (by decide +kernel) (v := .int (sc 6)) rfl dX0_greatest_6 rfl ?_
      refine z_cast (st' := [.int (nI d), .int (nI k)]) rfl rfl rfl rfl (congrArg (fun z => Value.int z :: [.int (nI k)]) hd) ?_
      refine z_icmpN_ge (a := k) (b := d) (pc' := 12) C 29 (by omega) (by omega) dX0_greatest_9 rfl rfl (fun h_9 => ?_) (fun h_9 => ?_)
      · refine z_iload_n (pc' := 30) C dX0_greatest_29 rfl 1 rfl rfl ?_
        exact z_iret (E := E) rfl dX0_greatest_30 ⟨(congrArg (fun z => some (Value.int z)) (show _ = _ from (by first | rfl | (have e9 : k = d := (by omega); subst e9; rfl)))), rfl, rfl, rfl⟩
      · refine z_iload_n (pc' := 13) C dX0_greatest_12 rfl 1 rfl rfl ?_
        refine z_aload_n (pc' := 14) C dX0_greatest_13 rfl 2 rfl rfl ?_
        refine z_get (pc' := 17) C hU0 0 (by decide) q_o0 rfl 1 (by decide) (by decide +kernel) (v := .ref (G.2.1 16)) rfl dX0_greatest_14 rfl ?_
        refine z_iload_n (pc' := 18) C dX0_greatest_17 rfl 0 rfl rfl ?_
        refine z_iald (pc' := 19) C 16 (by decide) (N := 18) (i := k) (f := ia 9) q_i9 (by omega) (by decide) dX0_greatest_18 rfl ?_
        refine z_mmax (pc' := 22) C (by decide +kernel) (by decide +kernel) (by decide +kernel) (by decide +kernel) (by decide) (Nat.le_of_ble_eq_true rfl) dX0_greatest_19 rfl ?_
        refine z_istore_n (lv' := [(1, .int (if (s_gr (ia 9) k) < ((ia 9) k) then ((ia 9) k) else (s_gr (ia 9) k))), (2, .int (nI k)), (0, .ref (G.2.1 0))]) (pc' := 23) C dX0_greatest_22 rfl (by decide) rfl rfl ?_
        refine z_iinc (v := nI (k + 1)) (k9 := 1) (lv' := [(2, .int (nI (k + 1))), (1, .int (if (s_gr (ia 9) k) < ((ia 9) k) then ((ia 9) k) else (s_gr (ia 9) k))), (0, .ref (G.2.1 0))]) (pc' := 26) C dX0_greatest_23 rfl (nI_1 k) (by decide) rfl rfl ?_
        refine z_goto (pc' := 4) C dX0_greatest_26 rfl ?_
        exact z_cast rfl rfl rfl rfl rfl (ih4 (k + 1) (by omega) (by omega))
  exact z_cast rfl rfl rfl rfl rfl (L4 (_ + 1) 0 (by omega) (Nat.lt_succ_self _))

set_option maxHeartbeats 4000000 in
set_option maxRecDepth 100000 in
theorem c_X0_foldInto (l : Launch) (G : Gv) (sc : Sc) (ia : Ia) (la : La) (d : Nat) (hd : sc 6 = nI d) (hD : d ≤ 18) (h : Int64)  : Ct l yX0_foldInto wsX0_foldInto ({ frames := 1, cells := 0, slots := 0, locals := 23 }) G [.ref (G.2.1 0), .long h] sc ia la (fL (s_df (ia 9) h d) sc ia la) := by
  have hU0 : ∀ w ∈ u_ws RX0 TX0 2, w ∈ wsX0_foldInto := fun w h => List.mem_cons_of_mem _ (List.mem_append_right _ h)
  refine z_of (maxL := 6) (own := RX0) [(0, .ref (G.2.1 0)), (1, .long h)] rfl (by decide +kernel) rfl (Nat.le_of_ble_eq_true rfl) rfl (fun Z C E => ?_)
  refine z_lload_n (pc' := 1) C dX0_foldInto_0 rfl 1 rfl rfl ?_
  refine z_lstore_n (lv' := [(3, .long h), (0, .ref (G.2.1 0)), (1, .long h)]) (pc' := 2) C dX0_foldInto_1 rfl (by decide) rfl rfl ?_
  refine z_iconst (v := 0) (pc' := 3) C dX0_foldInto_2 rfl rfl ?_
  refine z_istore (lv' := [(5, .int 0), (3, .long h), (0, .ref (G.2.1 0)), (1, .long h)]) (pc' := 5) C dX0_foldInto_3 (by decide) rfl rfl ?_
  have L5 : ∀ (fuel : Nat) (k : Nat) (hk : k ≤ d), d - k < fuel → Z sc ia la [(5, .int (nI k)), (3, .long (s_df (ia 9) h k)), (0, .ref (G.2.1 0))] 5 [] := by
    intro fuel
    induction fuel with
    | zero => intro k hk hm5; exact absurd hm5 (Nat.not_lt_zero _)
    | succ fuel ih5 =>
      intro k hk hm5
      refine z_iload (pc' := 7) C dX0_foldInto_5 0 rfl rfl ?_
      refine z_aload_n (pc' := 8) C dX0_foldInto_7 rfl 2 rfl rfl ?_
      refine z_get (pc' := 11) C hU0 0 (by decide) q_o0 rfl 0 (by decide) (by decide +kernel) (v := .int (sc 6)) rfl dX0_foldInto_8 rfl ?_
      refine z_cast (st' := [.int (nI d), .int (nI k)]) rfl rfl rfl rfl (congrArg (fun z => Value.int z :: [.int (nI k)]) hd) ?_
      refine z_icmpN_ge (a := k) (b := d) (pc' := 14) C 33 (by omega) (by omega) dX0_foldInto_11 rfl rfl (fun h_11 => ?_) (fun h_11 => ?_)
      · refine z_lload_n (pc' := 34) C dX0_foldInto_33 rfl 1 rfl rfl ?_
        exact z_lret (E := E) rfl dX0_foldInto_34 ⟨(congrArg (fun z => some (Value.long z)) (show _ = _ from (by first | rfl | (have e9 : k = d := (by omega); subst e9; rfl)))), rfl, rfl, rfl⟩
      · refine z_lload_n (pc' := 15) C dX0_foldInto_14 rfl 1 rfl rfl ?_
        refine z_aload_n (pc' := 16) C dX0_foldInto_15 rfl 2 rfl rfl ?_
        refine z_get (pc' := 19) C hU0 0 (by decide) q_o0 rfl 1 (by decide) (by decide +kernel) (v := .ref (G.2.1 16)) rfl dX0_foldInto_16 rfl ?_
        refine z_iload (pc' := 21) C dX0_foldInto_19 0 rfl rfl ?_
        refine z_iald (pc' := 22) C 16 (by decide) (N := 18) (i := k) (f := ia 9) q_i9 (by omega) (by decide) dX0_foldInto_21 rfl ?_
        refine z_i2l (pc' := 23) C dX0_foldInto_22 rfl ?_
        refine z_cN (n := 2) (pc' := 26) (As := [.long (s_df (ia 9) h k), .long (((ia 9) k).toInt64)]) (rest := []) C (c_X5_fold l G _ _ _ (s_df (ia 9) h k) (((ia 9) k).toInt64)) gX0_foldInto_X5_fold_n25 rfl rfl rfl (by decide +kernel) (by decide +kernel) (by decide +kernel) (by decide +kernel) (by decide) rfl rfl dX0_foldInto_23 (Nat.le_of_ble_eq_true rfl) rfl (k_L ?_)
        show Z sc ia la [(5, .int (nI k)), (3, .long (s_df (ia 9) h k)), (0, .ref (G.2.1 0))] 26 [.long (s_fo (s_df (ia 9) h k) (((ia 9) k).toInt64))]
        refine z_lstore_n (lv' := [(3, .long (s_fo (s_df (ia 9) h k) (((ia 9) k).toInt64))), (5, .int (nI k)), (0, .ref (G.2.1 0))]) (pc' := 27) C dX0_foldInto_26 rfl (by decide) rfl rfl ?_
        refine z_iinc (v := nI (k + 1)) (k9 := 1) (lv' := [(5, .int (nI (k + 1))), (3, .long (s_fo (s_df (ia 9) h k) (((ia 9) k).toInt64))), (0, .ref (G.2.1 0))]) (pc' := 30) C dX0_foldInto_27 rfl (nI_1 k) (by decide) rfl rfl ?_
        refine z_goto (pc' := 5) C dX0_foldInto_30 rfl ?_
        exact z_cast rfl rfl rfl rfl rfl (ih5 (k + 1) (by omega) (by omega))
  refine z_sub (lv' := [(5, .int 0), (3, .long h), (0, .ref (G.2.1 0))]) C [0, 1, 2] rfl ?_
  exact z_cast rfl rfl rfl rfl rfl (L5 (_ + 1) 0 (by omega) (Nat.lt_succ_self _))

set_option maxHeartbeats 4000000 in
set_option maxRecDepth 100000 in
theorem c_J9_floorDiv_7cf53 (l : Launch) (G : Gv) (sc : Sc) (ia : Ia) (la : La) (x y : Int32) (hy : ¬ y = 0)  : Ct l yJ9_floorDiv_7cf53 wsJ9_floorDiv_7cf53 ({ frames := 0, cells := 0, slots := 0, locals := 0 }) G [.int x, .int y] sc ia la (fI (s_fd x y) sc ia la) := by
  refine z_ofF (maxL := 3) (own := RJ9) [(0, .int x), (1, .int y)] rfl (by decide +kernel) rfl (Nat.le_of_ble_eq_true rfl) rfl (fun Z C E => ?_)
  refine z_iload_n (pc' := 1) C dJ9_floorDiv_7cf53_0 rfl 0 rfl rfl ?_
  refine z_iload_n (pc' := 2) C dJ9_floorDiv_7cf53_1 rfl 1 rfl rfl ?_
  refine z_idiv (pc' := 3) C dJ9_floorDiv_7cf53_2 (hy) rfl ?_
  refine z_istore_n (lv' := [(2, .int (x / y)), (0, .int x), (1, .int y)]) (pc' := 4) C dJ9_floorDiv_7cf53_3 rfl (by decide) rfl rfl ?_
  refine z_iload_n (pc' := 5) C dJ9_floorDiv_7cf53_4 rfl 1 rfl rfl ?_
  refine z_iload_n (pc' := 6) C dJ9_floorDiv_7cf53_5 rfl 2 rfl rfl ?_
  refine z_ixor (pc' := 7) C dJ9_floorDiv_7cf53_6 rfl ?_
  refine z_if_ge (pc' := 10) C 21 dJ9_floorDiv_7cf53_7 rfl rfl (fun h_7 => ?_) (fun h_7 => ?_)
  · refine z_iload_n (pc' := 22) C dJ9_floorDiv_7cf53_21 rfl 0 rfl rfl ?_
    exact z_iret (E := E) rfl dJ9_floorDiv_7cf53_22 ⟨(congrArg (fun z => some (Value.int z)) (show _ = _ from (by first | rfl | (simp [s_fd, h_7])))), rfl, rfl, rfl⟩
  · refine z_iload_n (pc' := 11) C dJ9_floorDiv_7cf53_10 rfl 0 rfl rfl ?_
    refine z_iload_n (pc' := 12) C dJ9_floorDiv_7cf53_11 rfl 2 rfl rfl ?_
    refine z_imul (pc' := 13) C dJ9_floorDiv_7cf53_12 rfl ?_
    refine z_iload_n (pc' := 14) C dJ9_floorDiv_7cf53_13 rfl 1 rfl rfl ?_
    refine z_icmp_eq (pc' := 17) C 21 dJ9_floorDiv_7cf53_14 rfl rfl (fun h_14 => ?_) (fun h_14 => ?_)
    · refine z_iload_n (pc' := 22) C dJ9_floorDiv_7cf53_21 rfl 0 rfl rfl ?_
      exact z_iret (E := E) rfl dJ9_floorDiv_7cf53_22 ⟨(congrArg (fun z => some (Value.int z)) (show _ = _ from (by first | rfl | (simp [s_fd, h_7, h_14])))), rfl, rfl, rfl⟩
    · refine z_iload_n (pc' := 18) C dJ9_floorDiv_7cf53_17 rfl 0 rfl rfl ?_
      refine z_iconst (v := 1) (pc' := 19) C dJ9_floorDiv_7cf53_18 rfl rfl ?_
      refine z_isub (pc' := 20) C dJ9_floorDiv_7cf53_19 rfl ?_
      exact z_iret (E := E) rfl dJ9_floorDiv_7cf53_20 ⟨(congrArg (fun z => some (Value.int z)) (show _ = _ from (by first | rfl | (simp [s_fd, h_7, h_14])))), rfl, rfl, rfl⟩

set_option maxHeartbeats 4000000 in
set_option maxRecDepth 100000 in
theorem c_X4_holds (l : Launch) (G : Gv) (sc : Sc) (ia : Ia) (la : La) (r c : Int32)  : Ct l yX4_holds wsX4_holds ({ frames := 0, cells := 0, slots := 0, locals := 0 }) G [.ref (G.2.1 4), .int r, .int c] sc ia la (fI (bI (s_hold r c (sc 3) (sc 4))) sc ia la) := by
  have hU4 : ∀ w ∈ u_ws RX4 TX4 3, w ∈ wsX4_holds := fun w h => List.mem_cons_of_mem _ (List.mem_append_right _ h)
  refine z_of (maxL := 3) (own := RX4) [(0, .ref (G.2.1 4)), (1, .int r), (2, .int c)] rfl (by decide +kernel) rfl (Nat.le_of_ble_eq_true rfl) rfl (fun Z C E => ?_)
  refine z_iload_n (pc' := 1) C dX4_holds_0 rfl 1 rfl rfl ?_
  refine z_if_lt (pc' := 4) C 44 dX4_holds_1 rfl rfl (fun h_1 => ?_) (fun h_1 => ?_)
  · refine z_iconst (v := 0) (pc' := 45) C dX4_holds_44 rfl rfl ?_
    exact z_zret (E := E) rfl dX4_holds_45 (rfl) ⟨(congrArg (fun z => some (Value.int z)) (show _ = _ from (by first | rfl | (simp [s_hold, bI, h_1])))), rfl, rfl, rfl⟩
  · refine z_iload_n (pc' := 5) C dX4_holds_4 rfl 1 rfl rfl ?_
    refine z_aload_n (pc' := 6) C dX4_holds_5 rfl 0 rfl rfl ?_
    refine z_get (pc' := 9) C hU4 4 (by decide) q_o4 rfl 0 (by decide) (by decide +kernel) (v := .int (sc 3)) rfl dX4_holds_6 rfl ?_
    refine z_icmp_gt (pc' := 12) C 44 dX4_holds_9 rfl rfl (fun h_9 => ?_) (fun h_9 => ?_)
    · refine z_iconst (v := 0) (pc' := 45) C dX4_holds_44 rfl rfl ?_
      exact z_zret (E := E) rfl dX4_holds_45 (rfl) ⟨(congrArg (fun z => some (Value.int z)) (show _ = _ from (by first | rfl | (simp [s_hold, bI, h_1, h_9])))), rfl, rfl, rfl⟩
    · refine z_iload_n (pc' := 13) C dX4_holds_12 rfl 2 rfl rfl ?_
      refine z_if_lt (pc' := 16) C 44 dX4_holds_13 rfl rfl (fun h_13 => ?_) (fun h_13 => ?_)
      · refine z_iconst (v := 0) (pc' := 45) C dX4_holds_44 rfl rfl ?_
        exact z_zret (E := E) rfl dX4_holds_45 (rfl) ⟨(congrArg (fun z => some (Value.int z)) (show _ = _ from (by first | rfl | (simp [s_hold, bI, h_1, h_9, h_13])))), rfl, rfl, rfl⟩
      · refine z_iload_n (pc' := 17) C dX4_holds_16 rfl 2 rfl rfl ?_
        refine z_aload_n (pc' := 18) C dX4_holds_17 rfl 0 rfl rfl ?_
        refine z_get (pc' := 21) C hU4 4 (by decide) q_o4 rfl 1 (by decide) (by decide +kernel) (v := .int (sc 4)) rfl dX4_holds_18 rfl ?_
        refine z_icmp_gt (pc' := 24) C 44 dX4_holds_21 rfl rfl (fun h_21 => ?_) (fun h_21 => ?_)
        · refine z_iconst (v := 0) (pc' := 45) C dX4_holds_44 rfl rfl ?_
          exact z_zret (E := E) rfl dX4_holds_45 (rfl) ⟨(congrArg (fun z => some (Value.int z)) (show _ = _ from (by first | rfl | (simp [s_hold, bI, h_1, h_9, h_13, h_21])))), rfl, rfl, rfl⟩
        · refine z_iload_n (pc' := 25) C dX4_holds_24 rfl 1 rfl rfl ?_
          refine z_aload_n (pc' := 26) C dX4_holds_25 rfl 0 rfl rfl ?_
          refine z_get (pc' := 29) C hU4 4 (by decide) q_o4 rfl 0 (by decide) (by decide +kernel) (v := .int (sc 3)) rfl dX4_holds_26 rfl ?_
          refine z_icmp_lt (pc' := 32) C 40 dX4_holds_29 rfl rfl (fun h_29 => ?_) (fun h_29 => ?_)
          · refine z_iconst (v := 1) (pc' := 41) C dX4_holds_40 rfl rfl ?_
            refine z_goto (pc' := 45) C dX4_holds_41 rfl ?_
            exact z_zret (E := E) rfl dX4_holds_45 (rfl) ⟨(congrArg (fun z => some (Value.int z)) (show _ = _ from (by first | rfl | (simp [s_hold, bI, h_1, h_9, h_13, h_21, h_29])))), rfl, rfl, rfl⟩
          · refine z_iload_n (pc' := 33) C dX4_holds_32 rfl 2 rfl rfl ?_
            refine z_aload_n (pc' := 34) C dX4_holds_33 rfl 0 rfl rfl ?_
            refine z_get (pc' := 37) C hU4 4 (by decide) q_o4 rfl 1 (by decide) (by decide +kernel) (v := .int (sc 4)) rfl dX4_holds_34 rfl ?_
            refine z_icmp_ge (pc' := 40) C 44 dX4_holds_37 rfl rfl (fun h_37 => ?_) (fun h_37 => ?_)
            · refine z_iconst (v := 0) (pc' := 45) C dX4_holds_44 rfl rfl ?_
              exact z_zret (E := E) rfl dX4_holds_45 (rfl) ⟨(congrArg (fun z => some (Value.int z)) (show _ = _ from (by first | rfl | (simp [s_hold, bI, h_1, h_9, h_13, h_21, h_29, h_37])))), rfl, rfl, rfl⟩
            · refine z_iconst (v := 1) (pc' := 41) C dX4_holds_40 rfl rfl ?_
              refine z_goto (pc' := 45) C dX4_holds_41 rfl ?_
              exact z_zret (E := E) rfl dX4_holds_45 (rfl) ⟨(congrArg (fun z => some (Value.int z)) (show _ = _ from (by first | rfl | (simp [s_hold, bI, h_1, h_9, h_13, h_21, h_29, h_37])))), rfl, rfl, rfl⟩

theorem c_X4_holdsB (l : Launch) (G : Gv) (sc : Sc) (ia : Ia) (la : La) (r c : Int32) (z : Bool) (h : s_hold r c (sc 3) (sc 4) = z) : Ct l yX4_holds wsX4_holds ({ frames := 0, cells := 0, slots := 0, locals := 0 }) G [.ref (G.2.1 4), .int r, .int c] sc ia la (fI (bI z) sc ia la) := h ▸ c_X4_holds l G sc ia la r c
set_option maxHeartbeats 4000000 in
set_option maxRecDepth 100000 in
theorem c_X4_closedCell (l : Launch) (G : Gv) (sc : Sc) (ia : Ia) (la : La) (R K : Nat) (hR : sc 3 = nI R) (hC : sc 4 = nI K) (hR1 : 1 ≤ R) (hR8 : R ≤ 8) (hC8 : K ≤ 8) (a b : Nat) (ha : a ≤ R) (hb : b < K)  : Ct l yX4_closedCell wsX4_closedCell ({ frames := 1, cells := 0, slots := 0, locals := 22 }) G [.ref (G.2.1 4), .int (nI a), .int (nI b)] sc ia la (fI (s_clo ia R a b) sc ia la) := by
  have hU4 : ∀ w ∈ u_ws RX4 TX4 3, w ∈ wsX4_closedCell := fun w h => List.mem_cons_of_mem _ (List.mem_append_right _ h)
  refine z_of (maxL := 4) (own := RX4) [(0, .ref (G.2.1 4)), (1, .int (nI a)), (2, .int (nI b))] rfl (by decide +kernel) rfl (Nat.le_of_ble_eq_true rfl) rfl (fun Z C E => ?_)
  refine z_aload_n (pc' := 1) C dX4_closedCell_0 rfl 0 rfl rfl ?_
  refine z_get (pc' := 4) C hU4 4 (by decide) q_o4 rfl 2 (by decide) (by decide +kernel) (v := .ref (G.2.1 50)) rfl dX4_closedCell_1 rfl ?_
  refine z_aload_n (pc' := 5) C dX4_closedCell_4 rfl 0 rfl rfl ?_
  refine z_get (pc' := 8) C hU4 4 (by decide) q_o4 rfl 0 (by decide) (by decide +kernel) (v := .int (sc 3)) rfl dX4_closedCell_5 rfl ?_
  refine z_cast (st' := [.int (nI R), .ref (G.2.1 50)]) rfl rfl rfl rfl (congrArg (fun z => Value.int z :: [.ref (G.2.1 50)]) hR) ?_
  refine z_aald (pc' := 9) C 50 (by decide) (i := R) (a := G.2.1 (17 + R)) (ty := .int) rfl q_v50 (by omega) (by decide) (if_pos (by omega)) dX4_closedCell_8 rfl ?_
  refine z_iload_n (pc' := 10) C dX4_closedCell_9 rfl 2 rfl rfl ?_
  refine z_iald (pc' := 11) C (17 + R) (by omega) (N := 9) (i := b) (f := ia (10 + R)) (q_ir10 R (by omega)) (by omega) (by decide) dX4_closedCell_10 rfl ?_
  refine z_aload_n (pc' := 12) C dX4_closedCell_11 rfl 0 rfl rfl ?_
  refine z_get (pc' := 15) C hU4 4 (by decide) q_o4 rfl 2 (by decide) (by decide +kernel) (v := .ref (G.2.1 50)) rfl dX4_closedCell_12 rfl ?_
  refine z_iconst (v := 0) (pc' := 16) C dX4_closedCell_15 rfl rfl ?_
  refine z_aald (pc' := 17) C 50 (by decide) (i := 0) (a := G.2.1 17) (ty := .int) rfl q_v50 (by omega) (by decide) (if_pos (by omega)) dX4_closedCell_16 rfl ?_
  refine z_iload_n (pc' := 18) C dX4_closedCell_17 rfl 2 rfl rfl ?_
  refine z_iald (pc' := 19) C 17 (by decide) (N := 9) (i := b) (f := ia 10) q_i10 (by omega) (by decide) dX4_closedCell_18 rfl ?_
  refine z_isub (pc' := 20) C dX4_closedCell_19 rfl ?_
  refine z_iload_n (pc' := 21) C dX4_closedCell_20 rfl 1 rfl rfl ?_
  refine z_imul (pc' := 22) C dX4_closedCell_21 rfl ?_
  refine z_istore_n (lv' := [(3, .int ((((ia (10 + R)) b) - ((ia 10) b)) * (nI a))), (0, .ref (G.2.1 4)), (1, .int (nI a)), (2, .int (nI b))]) (pc' := 23) C dX4_closedCell_22 rfl (by decide) rfl rfl ?_
  refine z_aload_n (pc' := 24) C dX4_closedCell_23 rfl 1 rfl rfl ?_
  refine z_get (pc' := 27) C hU4 4 (by decide) q_o4 rfl 0 (by decide) (by decide +kernel) (v := .int (sc 3)) rfl dX4_closedCell_24 rfl ?_
  refine z_cast (st' := [.int (nI R)]) rfl rfl rfl rfl (congrArg (fun z => Value.int z :: []) hR) ?_
  refine z_if_ne (pc' := 30) C 41 dX4_closedCell_27 rfl rfl (fun h_27 => ?_) (fun h_27 => absurd h_27 (by exact nI_ne0 (by omega) (by omega)))
  refine z_aload_n (pc' := 42) C dX4_closedCell_41 rfl 1 rfl rfl ?_
  refine z_get (pc' := 45) C hU4 4 (by decide) q_o4 rfl 2 (by decide) (by decide +kernel) (v := .ref (G.2.1 50)) rfl dX4_closedCell_42 rfl ?_
  refine z_iload_n (pc' := 46) C dX4_closedCell_45 rfl 2 rfl rfl ?_
  refine z_aald (pc' := 47) C 50 (by decide) (i := a) (a := G.2.1 (17 + a)) (ty := .int) rfl q_v50 (by omega) (by decide) (if_pos (by omega)) dX4_closedCell_46 rfl ?_
  refine z_iload_n (pc' := 48) C dX4_closedCell_47 rfl 3 rfl rfl ?_
  refine z_iald (pc' := 49) C (17 + a) (by omega) (N := 9) (i := b) (f := ia (10 + a)) (q_ir10 a (by omega)) (by omega) (by decide) dX4_closedCell_48 rfl ?_
  refine z_iload_n (pc' := 50) C dX4_closedCell_49 rfl 0 rfl rfl ?_
  refine z_aload_n (pc' := 51) C dX4_closedCell_50 rfl 1 rfl rfl ?_
  refine z_get (pc' := 54) C hU4 4 (by decide) q_o4 rfl 0 (by decide) (by decide +kernel) (v := .int (sc 3)) rfl dX4_closedCell_51 rfl ?_
  refine z_cast (st' := [.int (nI R), .int ((((ia (10 + R)) b) - ((ia 10) b)) * (nI a)), .int ((ia (10 + a)) b)]) rfl rfl rfl rfl (congrArg (fun z => Value.int z :: [.int ((((ia (10 + R)) b) - ((ia 10) b)) * (nI a)), .int ((ia (10 + a)) b)]) hR) ?_
  refine z_cS (n := 2) (pc' := 57) (As := [.int ((((ia (10 + R)) b) - ((ia 10) b)) * (nI a)), .int (nI R)]) (rest := [.int ((ia (10 + a)) b)]) C (c_J9_floorDiv_7cf53 l G _ _ _ ((((ia (10 + R)) b) - ((ia 10) b)) * (nI a)) (nI R) (by exact nI_ne0 (by omega) (by omega))) gX4_closedCell_J9_floorDiv_7cf53 rfl rfl rfl (by decide +kernel) (by decide) rfl rfl dX4_closedCell_54 (Nat.le_of_ble_eq_true rfl) rfl (k_I ?_)
  show Z sc ia la [(3, .int ((((ia (10 + R)) b) - ((ia 10) b)) * (nI a))), (0, .ref (G.2.1 4)), (1, .int (nI a)), (2, .int (nI b))] 57 [.int (s_fd ((((ia (10 + R)) b) - ((ia 10) b)) * (nI a)) (nI R)), .int ((ia (10 + a)) b)]
  refine z_isub (pc' := 58) C dX4_closedCell_57 rfl ?_
  exact z_iret (E := E) rfl dX4_closedCell_58 ⟨(congrArg (fun z => some (Value.int z)) rfl), rfl, rfl, rfl⟩

set_option maxHeartbeats 4000000 in
set_option maxRecDepth 100000 in
theorem c_X4_tiedCell (l : Launch) (G : Gv) (sc : Sc) (ia : Ia) (la : La) (R K : Nat) (hR : sc 3 = nI R) (hC : sc 4 = nI K) (hR1 : 1 ≤ R) (hR8 : R ≤ 8) (hC8 : K ≤ 8) (a b : Nat) (ha : a < R) (hb : b < K)  : Ct l yX4_tiedCell wsX4_tiedCell ({ frames := 0, cells := 0, slots := 0, locals := 0 }) G [.ref (G.2.1 4), .int (nI a), .int (nI b)] sc ia la (fI (s_tie ia K a b) sc ia la) := by
  have hU4 : ∀ w ∈ u_ws RX4 TX4 3, w ∈ wsX4_tiedCell := fun w h => List.mem_cons_of_mem _ (List.mem_append_right _ h)
  refine z_of (maxL := 3) (own := RX4) [(0, .ref (G.2.1 4)), (1, .int (nI a)), (2, .int (nI b))] rfl (by decide +kernel) rfl (Nat.le_of_ble_eq_true rfl) rfl (fun Z C E => ?_)
  refine z_aload_n (pc' := 1) C dX4_tiedCell_0 rfl 0 rfl rfl ?_
  refine z_get (pc' := 4) C hU4 4 (by decide) q_o4 rfl 2 (by decide) (by decide +kernel) (v := .ref (G.2.1 50)) rfl dX4_tiedCell_1 rfl ?_
  refine z_iload_n (pc' := 5) C dX4_tiedCell_4 rfl 1 rfl rfl ?_
  refine z_aald (pc' := 6) C 50 (by decide) (i := a) (a := G.2.1 (17 + a)) (ty := .int) rfl q_v50 (by omega) (by decide) (if_pos (by omega)) dX4_tiedCell_5 rfl ?_
  refine z_iload_n (pc' := 7) C dX4_tiedCell_6 rfl 2 rfl rfl ?_
  refine z_iald (pc' := 8) C (17 + a) (by omega) (N := 9) (i := b) (f := ia (10 + a)) (q_ir10 a (by omega)) (by omega) (by decide) dX4_tiedCell_7 rfl ?_
  refine z_aload_n (pc' := 9) C dX4_tiedCell_8 rfl 0 rfl rfl ?_
  refine z_get (pc' := 12) C hU4 4 (by decide) q_o4 rfl 2 (by decide) (by decide +kernel) (v := .ref (G.2.1 50)) rfl dX4_tiedCell_9 rfl ?_
  refine z_iload_n (pc' := 13) C dX4_tiedCell_12 rfl 1 rfl rfl ?_
  refine z_aald (pc' := 14) C 50 (by decide) (i := a) (a := G.2.1 (17 + a)) (ty := .int) rfl q_v50 (by omega) (by decide) (if_pos (by omega)) dX4_tiedCell_13 rfl ?_
  refine z_aload_n (pc' := 15) C dX4_tiedCell_14 rfl 0 rfl rfl ?_
  refine z_get (pc' := 18) C hU4 4 (by decide) q_o4 rfl 1 (by decide) (by decide +kernel) (v := .int (sc 4)) rfl dX4_tiedCell_15 rfl ?_
  refine z_cast (st' := [.int (nI K), .ref (G.2.1 (17 + a)), .int ((ia (10 + a)) b)]) rfl rfl rfl rfl (congrArg (fun z => Value.int z :: [.ref (G.2.1 (17 + a)), .int ((ia (10 + a)) b)]) hC) ?_
  refine z_iald (pc' := 19) C (17 + a) (by omega) (N := 9) (i := K) (f := ia (10 + a)) (q_ir10 a (by omega)) (by omega) (by decide) dX4_tiedCell_18 rfl ?_
  refine z_iadd (pc' := 20) C dX4_tiedCell_19 rfl ?_
  refine z_aload_n (pc' := 21) C dX4_tiedCell_20 rfl 0 rfl rfl ?_
  refine z_get (pc' := 24) C hU4 4 (by decide) q_o4 rfl 2 (by decide) (by decide +kernel) (v := .ref (G.2.1 50)) rfl dX4_tiedCell_21 rfl ?_
  refine z_iload_n (pc' := 25) C dX4_tiedCell_24 rfl 1 rfl rfl ?_
  refine z_aald (pc' := 26) C 50 (by decide) (i := a) (a := G.2.1 (17 + a)) (ty := .int) rfl q_v50 (by omega) (by decide) (if_pos (by omega)) dX4_tiedCell_25 rfl ?_
  refine z_iconst (v := 0) (pc' := 27) C dX4_tiedCell_26 rfl rfl ?_
  refine z_iald (pc' := 28) C (17 + a) (by omega) (N := 9) (i := 0) (f := ia (10 + a)) (q_ir10 a (by omega)) (by omega) (by decide) dX4_tiedCell_27 rfl ?_
  refine z_isub (pc' := 29) C dX4_tiedCell_28 rfl ?_
  exact z_iret (E := E) rfl dX4_tiedCell_29 ⟨(congrArg (fun z => some (Value.int z)) rfl), rfl, rfl, rfl⟩

set_option maxHeartbeats 4000000 in
set_option maxRecDepth 100000 in
theorem c_X4_foldInto (l : Launch) (G : Gv) (sc : Sc) (ia : Ia) (la : La) (R K : Nat) (hR : sc 3 = nI R) (hC : sc 4 = nI K) (hR1 : 1 ≤ R) (hR8 : R ≤ 8) (hC8 : K ≤ 8) (h : Int64)  : Ct l yX4_foldInto wsX4_foldInto ({ frames := 1, cells := 0, slots := 0, locals := 23 }) G [.ref (G.2.1 4), .long h] sc ia la (fL (s_sf ia R K h) sc ia la) := by
  have hU4 : ∀ w ∈ u_ws RX4 TX4 3, w ∈ wsX4_foldInto := fun w h => List.mem_cons_of_mem _ (List.mem_append_right _ h)
  refine z_of (maxL := 7) (own := RX4) [(0, .ref (G.2.1 4)), (1, .long h)] rfl (by decide +kernel) rfl (Nat.le_of_ble_eq_true rfl) rfl (fun Z C E => ?_)
  refine z_lload_n (pc' := 1) C dX4_foldInto_0 rfl 1 rfl rfl ?_
  refine z_aload_n (pc' := 2) C dX4_foldInto_1 rfl 0 rfl rfl ?_
  refine z_get (pc' := 5) C hU4 4 (by decide) q_o4 rfl 0 (by decide) (by decide +kernel) (v := .int (sc 3)) rfl dX4_foldInto_2 rfl ?_
  refine z_cast (st' := [.int (nI R), .long h]) rfl rfl rfl rfl (congrArg (fun z => Value.int z :: [.long h]) hR) ?_
  refine z_i2l (pc' := 6) C dX4_foldInto_5 rfl ?_
  refine z_cN (n := 2) (pc' := 9) (As := [.long h, .long ((nI R).toInt64)]) (rest := []) C (c_X5_fold l G _ _ _ h ((nI R).toInt64)) gX4_foldInto_X5_fold_n33 rfl rfl rfl (by decide +kernel) (by decide +kernel) (by decide +kernel) (by decide +kernel) (by decide) rfl rfl dX4_foldInto_6 (Nat.le_of_ble_eq_true rfl) rfl (k_L ?_)
  show Z sc ia la [(0, .ref (G.2.1 4)), (1, .long h)] 9 [.long (s_fo h ((nI R).toInt64))]
  refine z_aload_n (pc' := 10) C dX4_foldInto_9 rfl 0 rfl rfl ?_
  refine z_get (pc' := 13) C hU4 4 (by decide) q_o4 rfl 1 (by decide) (by decide +kernel) (v := .int (sc 4)) rfl dX4_foldInto_10 rfl ?_
  refine z_cast (st' := [.int (nI K), .long (s_fo h ((nI R).toInt64))]) rfl rfl rfl rfl (congrArg (fun z => Value.int z :: [.long (s_fo h ((nI R).toInt64))]) hC) ?_
  refine z_i2l (pc' := 14) C dX4_foldInto_13 rfl ?_
  refine z_cN (n := 2) (pc' := 17) (As := [.long (s_fo h ((nI R).toInt64)), .long ((nI K).toInt64)]) (rest := []) C (c_X5_fold l G _ _ _ (s_fo h ((nI R).toInt64)) ((nI K).toInt64)) gX4_foldInto_X5_fold_n33 rfl rfl rfl (by decide +kernel) (by decide +kernel) (by decide +kernel) (by decide +kernel) (by decide) rfl rfl dX4_foldInto_14 (Nat.le_of_ble_eq_true rfl) rfl (k_L ?_)
  show Z sc ia la [(0, .ref (G.2.1 4)), (1, .long h)] 17 [.long (s_fo (s_fo h ((nI R).toInt64)) ((nI K).toInt64))]
  refine z_lstore_n (lv' := [(3, .long (s_fo (s_fo h ((nI R).toInt64)) ((nI K).toInt64))), (0, .ref (G.2.1 4)), (1, .long h)]) (pc' := 18) C dX4_foldInto_17 rfl (by decide) rfl rfl ?_
  refine z_iconst (v := 0) (pc' := 19) C dX4_foldInto_18 rfl rfl ?_
  refine z_istore (lv' := [(5, .int 0), (3, .long (s_fo (s_fo h ((nI R).toInt64)) ((nI K).toInt64))), (0, .ref (G.2.1 4)), (1, .long h)]) (pc' := 21) C dX4_foldInto_19 (by decide) rfl rfl ?_
  have L21 : ∀ (fuel : Nat) (r : Nat) (hr : r ≤ R + 1), R + 1 - r < fuel → Z sc ia la [(5, .int (nI r)), (3, .long (s_sfr ia K (s_fo (s_fo h (nI R).toInt64) (nI K).toInt64) r)), (0, .ref (G.2.1 4))] 21 [] := by
    intro fuel
    induction fuel with
    | zero => intro r hr hm21; exact absurd hm21 (Nat.not_lt_zero _)
    | succ fuel ih21 =>
      intro r hr hm21
      refine z_iload (pc' := 23) C dX4_foldInto_21 0 rfl rfl ?_
      refine z_aload_n (pc' := 24) C dX4_foldInto_23 rfl 2 rfl rfl ?_
      refine z_get (pc' := 27) C hU4 4 (by decide) q_o4 rfl 0 (by decide) (by decide +kernel) (v := .int (sc 3)) rfl dX4_foldInto_24 rfl ?_
      refine z_cast (st' := [.int (nI R), .int (nI r)]) rfl rfl rfl rfl (congrArg (fun z => Value.int z :: [.int (nI r)]) hR) ?_
      refine z_icmpN_gt (a := r) (b := R) (pc' := 30) C 70 (by omega) (by omega) dX4_foldInto_27 rfl rfl (fun h_27 => ?_) (fun h_27 => ?_)
      · refine z_iconst (v := 0) (pc' := 71) C dX4_foldInto_70 rfl rfl ?_
        refine z_istore (lv' := [(5, .int 0), (3, .long (s_sfr ia K (s_fo (s_fo h (nI R).toInt64) (nI K).toInt64) r)), (0, .ref (G.2.1 4))]) (pc' := 73) C dX4_foldInto_71 (by decide) rfl rfl ?_
        have L73 : ∀ (fuel : Nat) (r2 : Nat) (hr2 : r2 ≤ R), R - r2 < fuel → Z sc ia la [(5, .int (nI r2)), (3, .long (s_sft ia K (s_sfr ia K (s_fo (s_fo h (nI R).toInt64) (nI K).toInt64) (R + 1)) r2)), (0, .ref (G.2.1 4))] 73 [] := by
          intro fuel
          induction fuel with
          | zero => intro r2 hr2 hm73; exact absurd hm73 (Nat.not_lt_zero _)
          | succ fuel ih73 =>
            intro r2 hr2 hm73
            refine z_iload (pc' := 75) C dX4_foldInto_73 0 rfl rfl ?_
            refine z_aload_n (pc' := 76) C dX4_foldInto_75 rfl 2 rfl rfl ?_
            refine z_get (pc' := 79) C hU4 4 (by decide) q_o4 rfl 0 (by decide) (by decide +kernel) (v := .int (sc 3)) rfl dX4_foldInto_76 rfl ?_
            refine z_cast (st' := [.int (nI R), .int (nI r2)]) rfl rfl rfl rfl (congrArg (fun z => Value.int z :: [.int (nI r2)]) hR) ?_
            refine z_icmpN_ge (a := r2) (b := R) (pc' := 82) C 106 (by omega) (by omega) dX4_foldInto_79 rfl rfl (fun h_79 => ?_) (fun h_79 => ?_)
            · refine z_lload_n (pc' := 107) C dX4_foldInto_106 rfl 1 rfl rfl ?_
              exact z_lret (E := E) rfl dX4_foldInto_107 ⟨(congrArg (fun z => some (Value.long z)) (show _ = _ from (by first | rfl | (have e9 : r2 = R := (by omega); subst e9; rfl)))), rfl, rfl, rfl⟩
            · refine z_lload_n (pc' := 83) C dX4_foldInto_82 rfl 1 rfl rfl ?_
              refine z_aload_n (pc' := 84) C dX4_foldInto_83 rfl 2 rfl rfl ?_
              refine z_get (pc' := 87) C hU4 4 (by decide) q_o4 rfl 2 (by decide) (by decide +kernel) (v := .ref (G.2.1 50)) rfl dX4_foldInto_84 rfl ?_
              refine z_iload (pc' := 89) C dX4_foldInto_87 0 rfl rfl ?_
              refine z_aald (pc' := 90) C 50 (by decide) (i := r2) (a := G.2.1 (17 + r2)) (ty := .int) rfl q_v50 (by omega) (by decide) (if_pos (by omega)) dX4_foldInto_89 rfl ?_
              refine z_aload_n (pc' := 91) C dX4_foldInto_90 rfl 2 rfl rfl ?_
              refine z_get (pc' := 94) C hU4 4 (by decide) q_o4 rfl 1 (by decide) (by decide +kernel) (v := .int (sc 4)) rfl dX4_foldInto_91 rfl ?_
              refine z_cast (st' := [.int (nI K), .ref (G.2.1 (17 + r2)), .long (s_sft ia K (s_sfr ia K (s_fo (s_fo h (nI R).toInt64) (nI K).toInt64) (R + 1)) r2)]) rfl rfl rfl rfl (congrArg (fun z => Value.int z :: [.ref (G.2.1 (17 + r2)), .long (s_sft ia K (s_sfr ia K (s_fo (s_fo h (nI R).toInt64) (nI K).toInt64) (R + 1)) r2)]) hC) ?_
              refine z_iald (pc' := 95) C (17 + r2) (by omega) (N := 9) (i := K) (f := ia (10 + r2)) (q_ir10 r2 (by omega)) (by omega) (by decide) dX4_foldInto_94 rfl ?_
              refine z_i2l (pc' := 96) C dX4_foldInto_95 rfl ?_
              refine z_cN (n := 2) (pc' := 99) (As := [.long (s_sft ia K (s_sfr ia K (s_fo (s_fo h (nI R).toInt64) (nI K).toInt64) (R + 1)) r2), .long (((ia (10 + r2)) K).toInt64)]) (rest := []) C (c_X5_fold l G _ _ _ (s_sft ia K (s_sfr ia K (s_fo (s_fo h (nI R).toInt64) (nI K).toInt64) (R + 1)) r2) (((ia (10 + r2)) K).toInt64)) gX4_foldInto_X5_fold_n33 rfl rfl rfl (by decide +kernel) (by decide +kernel) (by decide +kernel) (by decide +kernel) (by decide) rfl rfl dX4_foldInto_96 (Nat.le_of_ble_eq_true rfl) rfl (k_L ?_)
              show Z sc ia la [(5, .int (nI r2)), (3, .long (s_sft ia K (s_sfr ia K (s_fo (s_fo h (nI R).toInt64) (nI K).toInt64) (R + 1)) r2)), (0, .ref (G.2.1 4))] 99 [.long (s_fo (s_sft ia K (s_sfr ia K (s_fo (s_fo h (nI R).toInt64) (nI K).toInt64) (R + 1)) r2) (((ia (10 + r2)) K).toInt64))]
              refine z_lstore_n (lv' := [(3, .long (s_fo (s_sft ia K (s_sfr ia K (s_fo (s_fo h (nI R).toInt64) (nI K).toInt64) (R + 1)) r2) (((ia (10 + r2)) K).toInt64))), (5, .int (nI r2)), (0, .ref (G.2.1 4))]) (pc' := 100) C dX4_foldInto_99 rfl (by decide) rfl rfl ?_
              refine z_iinc (v := nI (r2 + 1)) (k9 := 1) (lv' := [(5, .int (nI (r2 + 1))), (3, .long (s_fo (s_sft ia K (s_sfr ia K (s_fo (s_fo h (nI R).toInt64) (nI K).toInt64) (R + 1)) r2) (((ia (10 + r2)) K).toInt64))), (0, .ref (G.2.1 4))]) (pc' := 103) C dX4_foldInto_100 rfl (nI_1 r2) (by decide) rfl rfl ?_
              refine z_goto (pc' := 73) C dX4_foldInto_103 rfl ?_
              exact z_cast rfl rfl rfl rfl rfl (ih73 (r2 + 1) (by omega) (by omega))
        exact z_cast rfl rfl rfl (by first | rfl | (have e9 : r = R + 1 := (by omega); subst e9; rfl)) rfl (L73 (_ + 1) 0 (by omega) (Nat.lt_succ_self _))
      · refine z_iconst (v := 0) (pc' := 31) C dX4_foldInto_30 rfl rfl ?_
        refine z_istore (lv' := [(6, .int 0), (5, .int (nI r)), (3, .long (s_sfr ia K (s_fo (s_fo h (nI R).toInt64) (nI K).toInt64) r)), (0, .ref (G.2.1 4))]) (pc' := 33) C dX4_foldInto_31 (by decide) rfl rfl ?_
        have L33 : ∀ (fuel : Nat) (c : Nat) (hc : c ≤ K), K - c < fuel → Z sc ia la [(6, .int (nI c)), (5, .int (nI r)), (3, .long (s_sfc ia r (s_sfr ia K (s_fo (s_fo h (nI R).toInt64) (nI K).toInt64) r) c)), (0, .ref (G.2.1 4))] 33 [] := by
          intro fuel
          induction fuel with
          | zero => intro c hc hm33; exact absurd hm33 (Nat.not_lt_zero _)
          | succ fuel ih33 =>
            intro c hc hm33
            refine z_iload (pc' := 35) C dX4_foldInto_33 0 rfl rfl ?_
            refine z_aload_n (pc' := 36) C dX4_foldInto_35 rfl 3 rfl rfl ?_
            refine z_get (pc' := 39) C hU4 4 (by decide) q_o4 rfl 1 (by decide) (by decide +kernel) (v := .int (sc 4)) rfl dX4_foldInto_36 rfl ?_
            refine z_cast (st' := [.int (nI K), .int (nI c)]) rfl rfl rfl rfl (congrArg (fun z => Value.int z :: [.int (nI c)]) hC) ?_
            refine z_icmpN_ge (a := c) (b := K) (pc' := 42) C 64 (by omega) (by omega) dX4_foldInto_39 rfl rfl (fun h_39 => ?_) (fun h_39 => ?_)
            · refine z_iinc (v := nI (r + 1)) (k9 := 1) (lv' := [(5, .int (nI (r + 1))), (6, .int (nI c)), (3, .long (s_sfc ia r (s_sfr ia K (s_fo (s_fo h (nI R).toInt64) (nI K).toInt64) r) c)), (0, .ref (G.2.1 4))]) (pc' := 67) C dX4_foldInto_64 rfl (nI_1 r) (by decide) rfl rfl ?_
              refine z_goto (pc' := 21) C dX4_foldInto_67 rfl ?_
              refine z_sub (lv' := [(5, .int (nI (r + 1))), (3, .long (s_sfc ia r (s_sfr ia K (s_fo (s_fo h (nI R).toInt64) (nI K).toInt64) r) c)), (0, .ref (G.2.1 4))]) C [0, 2, 3] rfl ?_
              exact z_cast rfl rfl rfl (by first | rfl | (have e9 : c = K := (by omega); subst e9; rfl)) rfl (ih21 (r + 1) (by omega) (by omega))
            · refine z_lload_n (pc' := 43) C dX4_foldInto_42 rfl 2 rfl rfl ?_
              refine z_aload_n (pc' := 44) C dX4_foldInto_43 rfl 3 rfl rfl ?_
              refine z_get (pc' := 47) C hU4 4 (by decide) q_o4 rfl 2 (by decide) (by decide +kernel) (v := .ref (G.2.1 50)) rfl dX4_foldInto_44 rfl ?_
              refine z_iload (pc' := 49) C dX4_foldInto_47 1 rfl rfl ?_
              refine z_aald (pc' := 50) C 50 (by decide) (i := r) (a := G.2.1 (17 + r)) (ty := .int) rfl q_v50 (by omega) (by decide) (if_pos (by omega)) dX4_foldInto_49 rfl ?_
              refine z_iload (pc' := 52) C dX4_foldInto_50 0 rfl rfl ?_
              refine z_iald (pc' := 53) C (17 + r) (by omega) (N := 9) (i := c) (f := ia (10 + r)) (q_ir10 r (by omega)) (by omega) (by decide) dX4_foldInto_52 rfl ?_
              refine z_i2l (pc' := 54) C dX4_foldInto_53 rfl ?_
              refine z_cN (n := 2) (pc' := 57) (As := [.long (s_sfc ia r (s_sfr ia K (s_fo (s_fo h (nI R).toInt64) (nI K).toInt64) r) c), .long (((ia (10 + r)) c).toInt64)]) (rest := []) C (c_X5_fold l G _ _ _ (s_sfc ia r (s_sfr ia K (s_fo (s_fo h (nI R).toInt64) (nI K).toInt64) r) c) (((ia (10 + r)) c).toInt64)) gX4_foldInto_X5_fold_n33 rfl rfl rfl (by decide +kernel) (by decide +kernel) (by decide +kernel) (by decide +kernel) (by decide) rfl rfl dX4_foldInto_54 (Nat.le_of_ble_eq_true rfl) rfl (k_L ?_)
              show Z sc ia la [(6, .int (nI c)), (5, .int (nI r)), (3, .long (s_sfc ia r (s_sfr ia K (s_fo (s_fo h (nI R).toInt64) (nI K).toInt64) r) c)), (0, .ref (G.2.1 4))] 57 [.long (s_fo (s_sfc ia r (s_sfr ia K (s_fo (s_fo h (nI R).toInt64) (nI K).toInt64) r) c) (((ia (10 + r)) c).toInt64))]
              refine z_lstore_n (lv' := [(3, .long (s_fo (s_sfc ia r (s_sfr ia K (s_fo (s_fo h (nI R).toInt64) (nI K).toInt64) r) c) (((ia (10 + r)) c).toInt64))), (6, .int (nI c)), (5, .int (nI r)), (0, .ref (G.2.1 4))]) (pc' := 58) C dX4_foldInto_57 rfl (by decide) rfl rfl ?_
              refine z_iinc (v := nI (c + 1)) (k9 := 1) (lv' := [(6, .int (nI (c + 1))), (3, .long (s_fo (s_sfc ia r (s_sfr ia K (s_fo (s_fo h (nI R).toInt64) (nI K).toInt64) r) c) (((ia (10 + r)) c).toInt64))), (5, .int (nI r)), (0, .ref (G.2.1 4))]) (pc' := 61) C dX4_foldInto_58 rfl (nI_1 c) (by decide) rfl rfl ?_
              refine z_goto (pc' := 33) C dX4_foldInto_61 rfl ?_
              refine z_sub (lv' := [(6, .int (nI (c + 1))), (5, .int (nI r)), (3, .long (s_fo (s_sfc ia r (s_sfr ia K (s_fo (s_fo h (nI R).toInt64) (nI K).toInt64) r) c) (((ia (10 + r)) c).toInt64))), (0, .ref (G.2.1 4))]) C [0, 2, 1, 3] rfl ?_
              exact z_cast rfl rfl rfl rfl rfl (ih33 (c + 1) (by omega) (by omega))
        exact z_cast rfl rfl rfl rfl rfl (L33 (_ + 1) 0 (by omega) (Nat.lt_succ_self _))
  refine z_sub (lv' := [(5, .int 0), (3, .long (s_fo (s_fo h ((nI R).toInt64)) ((nI K).toInt64))), (0, .ref (G.2.1 4))]) C [0, 1, 2] rfl ?_
  exact z_cast rfl rfl rfl rfl rfl (L21 (_ + 1) 0 (by omega) (Nat.lt_succ_self _))

set_option maxHeartbeats 4000000 in
set_option maxRecDepth 100000 in
theorem c_X3_has (l : Launch) (G : Gv) (sc : Sc) (ia : Ia) (la : La) (i : Int32)  : Ct l yX3_has wsX3_has ({ frames := 0, cells := 0, slots := 0, locals := 0 }) G [.ref (G.2.1 3), .int i] sc ia la (fI (bI (s_has i (sc 5))) sc ia la) := by
  have hU3 : ∀ w ∈ u_ws RX3 TX3 3, w ∈ wsX3_has := fun w h => List.mem_cons_of_mem _ (List.mem_append_right _ h)
  refine z_of (maxL := 2) (own := RX3) [(0, .ref (G.2.1 3)), (1, .int i)] rfl (by decide +kernel) rfl (Nat.le_of_ble_eq_true rfl) rfl (fun Z C E => ?_)
  refine z_iload_n (pc' := 1) C dX3_has_0 rfl 1 rfl rfl ?_
  refine z_if_lt (pc' := 4) C 16 dX3_has_1 rfl rfl (fun h_1 => ?_) (fun h_1 => ?_)
  · refine z_iconst (v := 0) (pc' := 17) C dX3_has_16 rfl rfl ?_
    exact z_zret (E := E) rfl dX3_has_17 (rfl) ⟨(congrArg (fun z => some (Value.int z)) (show _ = _ from (by first | rfl | (simp [s_has, bI, h_1])))), rfl, rfl, rfl⟩
  · refine z_iload_n (pc' := 5) C dX3_has_4 rfl 1 rfl rfl ?_
    refine z_aload_n (pc' := 6) C dX3_has_5 rfl 0 rfl rfl ?_
    refine z_get (pc' := 9) C hU3 3 (by decide) q_o3 rfl 0 (by decide) (by decide +kernel) (v := .int (sc 5)) rfl dX3_has_6 rfl ?_
    refine z_icmp_ge (pc' := 12) C 16 dX3_has_9 rfl rfl (fun h_9 => ?_) (fun h_9 => ?_)
    · refine z_iconst (v := 0) (pc' := 17) C dX3_has_16 rfl rfl ?_
      exact z_zret (E := E) rfl dX3_has_17 (rfl) ⟨(congrArg (fun z => some (Value.int z)) (show _ = _ from (by first | rfl | (simp [s_has, bI, h_1, h_9])))), rfl, rfl, rfl⟩
    · refine z_iconst (v := 1) (pc' := 13) C dX3_has_12 rfl rfl ?_
      refine z_goto (pc' := 17) C dX3_has_13 rfl ?_
      exact z_zret (E := E) rfl dX3_has_17 (rfl) ⟨(congrArg (fun z => some (Value.int z)) (show _ = _ from (by first | rfl | (simp [s_has, bI, h_1, h_9])))), rfl, rfl, rfl⟩

theorem c_X3_has_no (l : Launch) (G : Gv) (sc : Sc) (ia : Ia) (la : La) (i : Int32) (h : s_has i (sc 5) = false) : Ct l yX3_has wsX3_has ({ frames := 0, cells := 0, slots := 0, locals := 0 }) G [.ref (G.2.1 3), .int i] sc ia la (fI 0 sc ia la) := by
  have h9 := c_X3_has l G sc ia la i
  rw [h] at h9
  exact h9
theorem c_X3_has_ok (l : Launch) (G : Gv) (sc : Sc) (ia : Ia) (la : La) (m : Nat) (hm : sc 5 = nI m) (hM : m ≤ 5) (j : Nat) (hj : j < m) : Ct l yX3_has wsX3_has ({ frames := 0, cells := 0, slots := 0, locals := 0 }) G [.ref (G.2.1 3), .int (nI j)] sc ia la (fI 1 sc ia la) := by
  have h9 := c_X3_has l G sc ia la (nI j)
  rw [hm, s_has_ok (by omega) hj] at h9
  exact h9
set_option maxHeartbeats 4000000 in
set_option maxRecDepth 100000 in
theorem c_X3_put (l : Launch) (G : Gv) (sc : Sc) (ia : Ia) (la : La) (a b : Nat) (v : Int32) (z : Bool) (ha : a < 5) (hb : b < 5)  : Ct l yX3_put wsX3_put ({ frames := 0, cells := 0, slots := 0, locals := 0 }) G [.ref (G.2.1 3), .int (nI a), .int (nI b), .int v, .int (bI (z))] sc ia la (fV sc (s_put ia a b (bI z) (if z = true then v else 0)) la) := by
  have hU3 : ∀ w ∈ u_ws RX3 TX3 3, w ∈ wsX3_put := fun w h => List.mem_cons_of_mem _ (List.mem_append_right _ h)
  refine z_of (maxL := 7) (own := RX3) [(0, .ref (G.2.1 3)), (1, .int (nI a)), (2, .int (nI b)), (3, .int v), (4, .int (bI (z)))] rfl (by decide +kernel) rfl (Nat.le_of_ble_eq_true rfl) rfl (fun Z C E => ?_)
  refine z_iload (pc' := 2) C dX3_put_0 4 rfl rfl ?_
  have J10 : Z sc ia la [(0, .ref (G.2.1 3)), (1, .int (nI a)), (2, .int (nI b)), (3, .int v), (4, .int (bI (z)))] 10 [.int (bI (z))] := by
    refine z_istore (lv' := [(5, .int (bI (z))), (0, .ref (G.2.1 3)), (1, .int (nI a)), (2, .int (nI b)), (3, .int v), (4, .int (bI (z)))]) (pc' := 12) C dX3_put_10 (by decide) rfl rfl ?_
    refine z_iload (pc' := 14) C dX3_put_12 5 rfl rfl ?_
    have J22 : Z sc ia la [(5, .int (bI (z))), (0, .ref (G.2.1 3)), (1, .int (nI a)), (2, .int (nI b)), (3, .int v), (4, .int (bI (z)))] 22 [.int (if z = true then v else 0)] := by
      refine z_istore (lv' := [(6, .int (if z = true then v else 0)), (5, .int (bI (z))), (0, .ref (G.2.1 3)), (1, .int (nI a)), (2, .int (nI b)), (3, .int v), (4, .int (bI (z)))]) (pc' := 24) C dX3_put_22 (by decide) rfl rfl ?_
      refine z_aload_n (pc' := 25) C dX3_put_24 rfl 2 rfl rfl ?_
      refine z_get (pc' := 28) C hU3 3 (by decide) q_o3 rfl 1 (by decide) (by decide +kernel) (v := .ref (G.2.1 51)) rfl dX3_put_25 rfl ?_
      refine z_iload_n (pc' := 29) C dX3_put_28 rfl 3 rfl rfl ?_
      refine z_aald (pc' := 30) C 51 (by decide) (i := a) (a := G.2.1 (26 + a)) (ty := .int) rfl q_v51 (by omega) (by decide) (if_pos (by omega)) dX3_put_29 rfl ?_
      refine z_iload_n (pc' := 31) C dX3_put_30 rfl 4 rfl rfl ?_
      refine z_iload (pc' := 33) C dX3_put_31 1 rfl rfl ?_
      refine z_iast (pc' := 34) C (26 + a) (by omega) (N := 5) (i := b) (f := ia (19 + a)) (q_ir19 a (by omega)) (by omega) (by decide) (q_ur19 a (by omega) _) dX3_put_33 rfl ?_
      refine z_aload_n (pc' := 35) C dX3_put_34 rfl 2 rfl rfl ?_
      refine z_get (pc' := 38) C hU3 3 (by decide) q_o3 rfl 1 (by decide) (by decide +kernel) (v := .ref (G.2.1 51)) rfl dX3_put_35 rfl ?_
      refine z_iload_n (pc' := 39) C dX3_put_38 rfl 4 rfl rfl ?_
      refine z_aald (pc' := 40) C 51 (by decide) (i := b) (a := G.2.1 (26 + b)) (ty := .int) rfl q_v51 (by omega) (by decide) (if_pos (by omega)) dX3_put_39 rfl ?_
      refine z_iload_n (pc' := 41) C dX3_put_40 rfl 3 rfl rfl ?_
      refine z_iload (pc' := 43) C dX3_put_41 1 rfl rfl ?_
      refine z_iast (pc' := 44) C (26 + b) (by omega) (N := 5) (i := a) (f := (va_up ia (19 + a) (upd (ia (19 + a)) b (bI (z)))) (19 + b)) (q_ir19 b (by omega)) (by omega) (by decide) (q_ur19 b (by omega) _) dX3_put_43 rfl ?_
      refine z_aload_n (pc' := 45) C dX3_put_44 rfl 2 rfl rfl ?_
      refine z_get (pc' := 48) C hU3 3 (by decide) q_o3 rfl 2 (by decide) (by decide +kernel) (v := .ref (G.2.1 52)) rfl dX3_put_45 rfl ?_
      refine z_iload_n (pc' := 49) C dX3_put_48 rfl 3 rfl rfl ?_
      refine z_aald (pc' := 50) C 52 (by decide) (i := a) (a := G.2.1 (31 + a)) (ty := .int) rfl q_v52 (by omega) (by decide) (if_pos (by omega)) dX3_put_49 rfl ?_
      refine z_iload_n (pc' := 51) C dX3_put_50 rfl 4 rfl rfl ?_
      refine z_iload (pc' := 53) C dX3_put_51 0 rfl rfl ?_
      refine z_iast (pc' := 54) C (31 + a) (by omega) (N := 5) (i := b) (f := (va_up (va_up ia (19 + a) (upd (ia (19 + a)) b (bI (z)))) (19 + b) (upd ((va_up ia (19 + a) (upd (ia (19 + a)) b (bI (z)))) (19 + b)) a (bI (z)))) (24 + a)) (q_ir24 a (by omega)) (by omega) (by decide) (q_ur24 a (by omega) _) dX3_put_53 rfl ?_
      refine z_aload_n (pc' := 55) C dX3_put_54 rfl 2 rfl rfl ?_
      refine z_get (pc' := 58) C hU3 3 (by decide) q_o3 rfl 2 (by decide) (by decide +kernel) (v := .ref (G.2.1 52)) rfl dX3_put_55 rfl ?_
      refine z_iload_n (pc' := 59) C dX3_put_58 rfl 4 rfl rfl ?_
      refine z_aald (pc' := 60) C 52 (by decide) (i := b) (a := G.2.1 (31 + b)) (ty := .int) rfl q_v52 (by omega) (by decide) (if_pos (by omega)) dX3_put_59 rfl ?_
      refine z_iload_n (pc' := 61) C dX3_put_60 rfl 3 rfl rfl ?_
      refine z_iload (pc' := 63) C dX3_put_61 0 rfl rfl ?_
      refine z_iast (pc' := 64) C (31 + b) (by omega) (N := 5) (i := a) (f := (va_up (va_up (va_up ia (19 + a) (upd (ia (19 + a)) b (bI (z)))) (19 + b) (upd ((va_up ia (19 + a) (upd (ia (19 + a)) b (bI (z)))) (19 + b)) a (bI (z)))) (24 + a) (upd ((va_up (va_up ia (19 + a) (upd (ia (19 + a)) b (bI (z)))) (19 + b) (upd ((va_up ia (19 + a) (upd (ia (19 + a)) b (bI (z)))) (19 + b)) a (bI (z)))) (24 + a)) b (if z = true then v else 0))) (24 + b)) (q_ir24 b (by omega)) (by omega) (by decide) (q_ur24 b (by omega) _) dX3_put_63 rfl ?_
      exact z_vret (E := E) rfl dX3_put_64 ⟨rfl, rfl, rfl, rfl⟩
    refine z_ifB_eq (pc' := 17) C 21 dX3_put_14 rfl rfl (fun h_14 => ?_) (fun h_14 => ?_)
    · refine z_iconst (v := 0) (pc' := 22) C dX3_put_21 rfl rfl ?_
      exact z_cast rfl rfl rfl rfl (by first | rfl | (simp [bI, h_14])) J22
    · refine z_iload_n (pc' := 18) C dX3_put_17 rfl 4 rfl rfl ?_
      refine z_goto (pc' := 22) C dX3_put_18 rfl ?_
      exact z_cast rfl rfl rfl rfl (by first | rfl | (simp [bI, h_14])) J22
  refine z_ifB_eq (pc' := 5) C 9 dX3_put_2 rfl rfl (fun h_2 => ?_) (fun h_2 => ?_)
  · refine z_iconst (v := 0) (pc' := 10) C dX3_put_9 rfl rfl ?_
    exact z_cast rfl rfl rfl rfl (by first | rfl | (simp [bI, h_2])) J10
  · refine z_iconst (v := 1) (pc' := 6) C dX3_put_5 rfl rfl ?_
    refine z_goto (pc' := 10) C dX3_put_6 rfl ?_
    exact z_cast rfl rfl rfl rfl (by first | rfl | (simp [bI, h_2])) J10

set_option maxHeartbeats 4000000 in
set_option maxRecDepth 100000 in
theorem c_X3_isWhole (l : Launch) (G : Gv) (sc : Sc) (ia : Ia) (la : La) (a b c : Nat) (ha : a < 5) (hb : b < 5) (hc : c < 5)  : Ct l yX3_isWhole wsX3_isWhole ({ frames := 0, cells := 0, slots := 0, locals := 0 }) G [.ref (G.2.1 3), .int (nI a), .int (nI b), .int (nI c)] sc ia la (fI (bI (s_wh ia a b c)) sc ia la) := by
  have hU3 : ∀ w ∈ u_ws RX3 TX3 3, w ∈ wsX3_isWhole := fun w h => List.mem_cons_of_mem _ (List.mem_append_right _ h)
  refine z_of (maxL := 4) (own := RX3) [(0, .ref (G.2.1 3)), (1, .int (nI a)), (2, .int (nI b)), (3, .int (nI c))] rfl (by decide +kernel) rfl (Nat.le_of_ble_eq_true rfl) rfl (fun Z C E => ?_)
  refine z_aload_n (pc' := 1) C dX3_isWhole_0 rfl 0 rfl rfl ?_
  refine z_get (pc' := 4) C hU3 3 (by decide) q_o3 rfl 1 (by decide) (by decide +kernel) (v := .ref (G.2.1 51)) rfl dX3_isWhole_1 rfl ?_
  refine z_iload_n (pc' := 5) C dX3_isWhole_4 rfl 1 rfl rfl ?_
  refine z_aald (pc' := 6) C 51 (by decide) (i := a) (a := G.2.1 (26 + a)) (ty := .int) rfl q_v51 (by omega) (by decide) (if_pos (by omega)) dX3_isWhole_5 rfl ?_
  refine z_iload_n (pc' := 7) C dX3_isWhole_6 rfl 2 rfl rfl ?_
  refine z_iald (pc' := 8) C (26 + a) (by omega) (N := 5) (i := b) (f := ia (19 + a)) (q_ir19 a (by omega)) (by omega) (by decide) dX3_isWhole_7 rfl ?_
  refine z_iconst (v := 1) (pc' := 9) C dX3_isWhole_8 rfl rfl ?_
  refine z_icmp_ne (pc' := 12) C 40 dX3_isWhole_9 rfl rfl (fun h_9 => ?_) (fun h_9 => ?_)
  · refine z_iconst (v := 0) (pc' := 41) C dX3_isWhole_40 rfl rfl ?_
    exact z_zret (E := E) rfl dX3_isWhole_41 (rfl) ⟨(congrArg (fun z => some (Value.int z)) (show _ = _ from (by first | rfl | (simp [s_wh, bI, h_9])))), rfl, rfl, rfl⟩
  · refine z_aload_n (pc' := 13) C dX3_isWhole_12 rfl 0 rfl rfl ?_
    refine z_get (pc' := 16) C hU3 3 (by decide) q_o3 rfl 1 (by decide) (by decide +kernel) (v := .ref (G.2.1 51)) rfl dX3_isWhole_13 rfl ?_
    refine z_iload_n (pc' := 17) C dX3_isWhole_16 rfl 1 rfl rfl ?_
    refine z_aald (pc' := 18) C 51 (by decide) (i := a) (a := G.2.1 (26 + a)) (ty := .int) rfl q_v51 (by omega) (by decide) (if_pos (by omega)) dX3_isWhole_17 rfl ?_
    refine z_iload_n (pc' := 19) C dX3_isWhole_18 rfl 3 rfl rfl ?_
    refine z_iald (pc' := 20) C (26 + a) (by omega) (N := 5) (i := c) (f := ia (19 + a)) (q_ir19 a (by omega)) (by omega) (by decide) dX3_isWhole_19 rfl ?_
    refine z_iconst (v := 1) (pc' := 21) C dX3_isWhole_20 rfl rfl ?_
    refine z_icmp_ne (pc' := 24) C 40 dX3_isWhole_21 rfl rfl (fun h_21 => ?_) (fun h_21 => ?_)
    · refine z_iconst (v := 0) (pc' := 41) C dX3_isWhole_40 rfl rfl ?_
      exact z_zret (E := E) rfl dX3_isWhole_41 (rfl) ⟨(congrArg (fun z => some (Value.int z)) (show _ = _ from (by first | rfl | (simp [s_wh, bI, h_9, h_21])))), rfl, rfl, rfl⟩
    · refine z_aload_n (pc' := 25) C dX3_isWhole_24 rfl 0 rfl rfl ?_
      refine z_get (pc' := 28) C hU3 3 (by decide) q_o3 rfl 1 (by decide) (by decide +kernel) (v := .ref (G.2.1 51)) rfl dX3_isWhole_25 rfl ?_
      refine z_iload_n (pc' := 29) C dX3_isWhole_28 rfl 2 rfl rfl ?_
      refine z_aald (pc' := 30) C 51 (by decide) (i := b) (a := G.2.1 (26 + b)) (ty := .int) rfl q_v51 (by omega) (by decide) (if_pos (by omega)) dX3_isWhole_29 rfl ?_
      refine z_iload_n (pc' := 31) C dX3_isWhole_30 rfl 3 rfl rfl ?_
      refine z_iald (pc' := 32) C (26 + b) (by omega) (N := 5) (i := c) (f := ia (19 + b)) (q_ir19 b (by omega)) (by omega) (by decide) dX3_isWhole_31 rfl ?_
      refine z_iconst (v := 1) (pc' := 33) C dX3_isWhole_32 rfl rfl ?_
      refine z_icmp_ne (pc' := 36) C 40 dX3_isWhole_33 rfl rfl (fun h_33 => ?_) (fun h_33 => ?_)
      · refine z_iconst (v := 0) (pc' := 41) C dX3_isWhole_40 rfl rfl ?_
        exact z_zret (E := E) rfl dX3_isWhole_41 (rfl) ⟨(congrArg (fun z => some (Value.int z)) (show _ = _ from (by first | rfl | (simp [s_wh, bI, h_9, h_21, h_33])))), rfl, rfl, rfl⟩
      · refine z_iconst (v := 1) (pc' := 37) C dX3_isWhole_36 rfl rfl ?_
        refine z_goto (pc' := 41) C dX3_isWhole_37 rfl ?_
        exact z_zret (E := E) rfl dX3_isWhole_41 (rfl) ⟨(congrArg (fun z => some (Value.int z)) (show _ = _ from (by first | rfl | (simp [s_wh, bI, h_9, h_21, h_33])))), rfl, rfl, rfl⟩

set_option maxHeartbeats 4000000 in
set_option maxRecDepth 100000 in
theorem c_X3_gainBy (l : Launch) (G : Gv) (sc : Sc) (ia : Ia) (la : La) (a b c : Nat) (ha : a < 5) (hb : b < 5) (hc : c < 5)  : Ct l yX3_gainBy wsX3_gainBy ({ frames := 0, cells := 0, slots := 0, locals := 0 }) G [.ref (G.2.1 3), .int (nI a), .int (nI b), .int (nI c)] sc ia la (fI (s_ga ia a b c) sc ia la) := by
  have hU3 : ∀ w ∈ u_ws RX3 TX3 3, w ∈ wsX3_gainBy := fun w h => List.mem_cons_of_mem _ (List.mem_append_right _ h)
  refine z_of (maxL := 4) (own := RX3) [(0, .ref (G.2.1 3)), (1, .int (nI a)), (2, .int (nI b)), (3, .int (nI c))] rfl (by decide +kernel) rfl (Nat.le_of_ble_eq_true rfl) rfl (fun Z C E => ?_)
  refine z_aload_n (pc' := 1) C dX3_gainBy_0 rfl 0 rfl rfl ?_
  refine z_get (pc' := 4) C hU3 3 (by decide) q_o3 rfl 2 (by decide) (by decide +kernel) (v := .ref (G.2.1 52)) rfl dX3_gainBy_1 rfl ?_
  refine z_iload_n (pc' := 5) C dX3_gainBy_4 rfl 1 rfl rfl ?_
  refine z_aald (pc' := 6) C 52 (by decide) (i := a) (a := G.2.1 (31 + a)) (ty := .int) rfl q_v52 (by omega) (by decide) (if_pos (by omega)) dX3_gainBy_5 rfl ?_
  refine z_iload_n (pc' := 7) C dX3_gainBy_6 rfl 2 rfl rfl ?_
  refine z_iald (pc' := 8) C (31 + a) (by omega) (N := 5) (i := b) (f := ia (24 + a)) (q_ir24 a (by omega)) (by omega) (by decide) dX3_gainBy_7 rfl ?_
  refine z_aload_n (pc' := 9) C dX3_gainBy_8 rfl 0 rfl rfl ?_
  refine z_get (pc' := 12) C hU3 3 (by decide) q_o3 rfl 2 (by decide) (by decide +kernel) (v := .ref (G.2.1 52)) rfl dX3_gainBy_9 rfl ?_
  refine z_iload_n (pc' := 13) C dX3_gainBy_12 rfl 1 rfl rfl ?_
  refine z_aald (pc' := 14) C 52 (by decide) (i := a) (a := G.2.1 (31 + a)) (ty := .int) rfl q_v52 (by omega) (by decide) (if_pos (by omega)) dX3_gainBy_13 rfl ?_
  refine z_iload_n (pc' := 15) C dX3_gainBy_14 rfl 3 rfl rfl ?_
  refine z_iald (pc' := 16) C (31 + a) (by omega) (N := 5) (i := c) (f := ia (24 + a)) (q_ir24 a (by omega)) (by omega) (by decide) dX3_gainBy_15 rfl ?_
  refine z_iadd (pc' := 17) C dX3_gainBy_16 rfl ?_
  refine z_aload_n (pc' := 18) C dX3_gainBy_17 rfl 0 rfl rfl ?_
  refine z_get (pc' := 21) C hU3 3 (by decide) q_o3 rfl 2 (by decide) (by decide +kernel) (v := .ref (G.2.1 52)) rfl dX3_gainBy_18 rfl ?_
  refine z_iload_n (pc' := 22) C dX3_gainBy_21 rfl 2 rfl rfl ?_
  refine z_aald (pc' := 23) C 52 (by decide) (i := b) (a := G.2.1 (31 + b)) (ty := .int) rfl q_v52 (by omega) (by decide) (if_pos (by omega)) dX3_gainBy_22 rfl ?_
  refine z_iload_n (pc' := 24) C dX3_gainBy_23 rfl 3 rfl rfl ?_
  refine z_iald (pc' := 25) C (31 + b) (by omega) (N := 5) (i := c) (f := ia (24 + b)) (q_ir24 b (by omega)) (by omega) (by decide) dX3_gainBy_24 rfl ?_
  refine z_isub (pc' := 26) C dX3_gainBy_25 rfl ?_
  exact z_iret (E := E) rfl dX3_gainBy_26 ⟨(congrArg (fun z => some (Value.int z)) rfl), rfl, rfl, rfl⟩

set_option maxHeartbeats 4000000 in
set_option maxRecDepth 100000 in
theorem c_X3_firstGain (l : Launch) (G : Gv) (sc : Sc) (ia : Ia) (la : La) (m : Nat) (hm : sc 5 = nI m) (hM : m ≤ 5) (a : Nat) (ha : a < 5)  : Ct l yX3_firstGain wsX3_firstGain ({ frames := 1, cells := 0, slots := 0, locals := 23 }) G [.ref (G.2.1 3), .int (nI a)] sc ia la (fI (s_fg ia m a) sc ia la) := by
  have hU3 : ∀ w ∈ u_ws RX3 TX3 3, w ∈ wsX3_firstGain := fun w h => List.mem_cons_of_mem _ (List.mem_append_right _ h)
  refine z_of (maxL := 4) (own := RX3) [(0, .ref (G.2.1 3)), (1, .int (nI a))] rfl (by decide +kernel) rfl (Nat.le_of_ble_eq_true rfl) rfl (fun Z C E => ?_)
  refine z_iconst (v := 0) (pc' := 1) C dX3_firstGain_0 rfl rfl ?_
  refine z_istore_n (lv' := [(2, .int 0), (0, .ref (G.2.1 3)), (1, .int (nI a))]) (pc' := 2) C dX3_firstGain_1 rfl (by decide) rfl rfl ?_
  have L2 : ∀ (fuel : Nat) (b : Nat) (hb : b ≤ m) (hbn : ∀ j, j < b → (fun b => (s_g1 ia m a b).isSome) j = false), m - b < fuel → Z sc ia la [(2, .int (nI b)), (0, .ref (G.2.1 3)), (1, .int (nI a))] 2 [] := by
    intro fuel
    induction fuel with
    | zero => intro b hb hbn hm2; exact absurd hm2 (Nat.not_lt_zero _)
    | succ fuel ih2 =>
      intro b hb hbn hm2
      refine z_iload_n (pc' := 3) C dX3_firstGain_2 rfl 0 rfl rfl ?_
      refine z_aload_n (pc' := 4) C dX3_firstGain_3 rfl 1 rfl rfl ?_
      refine z_get (pc' := 7) C hU3 3 (by decide) q_o3 rfl 0 (by decide) (by decide +kernel) (v := .int (sc 5)) rfl dX3_firstGain_4 rfl ?_
      refine z_cast (st' := [.int (nI m), .int (nI b)]) rfl rfl rfl rfl (congrArg (fun z => Value.int z :: [.int (nI b)]) hm) ?_
      refine z_icmpN_ge (a := b) (b := m) (pc' := 10) C 52 (by omega) (by omega) dX3_firstGain_7 rfl rfl (fun h_7 => ?_) (fun h_7 => ?_)
      · refine z_ldc (v := -1000003) (pc' := 54) C (by decide +kernel) dX3_firstGain_52 rfl ?_
        exact z_iret (E := E) rfl dX3_firstGain_54 ⟨(congrArg (fun z => some (Value.int z)) (show _ = _ from (by first | rfl | (have e9 : b = m := (by omega); subst e9; unfold s_fg; rw [s_fi_n hbn])))), rfl, rfl, rfl⟩
      · refine z_iload_n (pc' := 11) C dX3_firstGain_10 rfl 0 rfl rfl ?_
        refine z_iconst (v := 1) (pc' := 12) C dX3_firstGain_11 rfl rfl ?_
        refine z_iadd (pc' := 13) C dX3_firstGain_12 rfl ?_
        refine z_cast (st' := [.int (nI (b + 1))]) rfl rfl rfl rfl (congrArg (fun z => Value.int z :: []) (nI_add _ _)) ?_
        refine z_istore_n (lv' := [(3, .int (nI (b + 1))), (2, .int (nI b)), (0, .ref (G.2.1 3)), (1, .int (nI a))]) (pc' := 14) C dX3_firstGain_13 rfl (by decide) rfl rfl ?_
        have L14 : ∀ (fuel : Nat) (d : Nat) (hd : b + 1 + d ≤ m) (hdn : ∀ j, j < d → (fun d => s_wh ia a b (b + 1 + d)) j = false), m - (b + 1 + d) < fuel → Z sc ia la [(3, .int (nI (b + 1 + d))), (2, .int (nI b)), (0, .ref (G.2.1 3)), (1, .int (nI a))] 14 [] := by
          intro fuel
          induction fuel with
          | zero => intro d hd hdn hm14; exact absurd hm14 (Nat.not_lt_zero _)
          | succ fuel ih14 =>
            intro d hd hdn hm14
            refine z_iload_n (pc' := 15) C dX3_firstGain_14 rfl 0 rfl rfl ?_
            refine z_aload_n (pc' := 16) C dX3_firstGain_15 rfl 2 rfl rfl ?_
            refine z_get (pc' := 19) C hU3 3 (by decide) q_o3 rfl 0 (by decide) (by decide +kernel) (v := .int (sc 5)) rfl dX3_firstGain_16 rfl ?_
            refine z_cast (st' := [.int (nI m), .int (nI (b + 1 + d))]) rfl rfl rfl rfl (congrArg (fun z => Value.int z :: [.int (nI (b + 1 + d))]) hm) ?_
            refine z_icmpN_ge (a := b + 1 + d) (b := m) (pc' := 22) C 46 (by omega) (by omega) dX3_firstGain_19 rfl rfl (fun h_19 => ?_) (fun h_19 => ?_)
            · refine z_iinc (v := nI (b + 1)) (k9 := 1) (lv' := [(2, .int (nI (b + 1))), (3, .int (nI (b + 1 + d))), (0, .ref (G.2.1 3)), (1, .int (nI a))]) (pc' := 49) C dX3_firstGain_46 rfl (nI_1 b) (by decide) rfl rfl ?_
              refine z_goto (pc' := 2) C dX3_firstGain_49 rfl ?_
              refine z_sub (lv' := [(2, .int (nI (b + 1))), (0, .ref (G.2.1 3)), (1, .int (nI a))]) C [0, 2, 3] rfl ?_
              exact z_cast rfl rfl rfl rfl rfl (ih2 (b + 1) (by omega) (by exact s_lt_s hbn (by have e9 : d = m - (b + 1) := (by omega); subst e9; simp [s_g1, s_fi_n hdn])) (by omega))
            · refine z_aload_n (pc' := 23) C dX3_firstGain_22 rfl 2 rfl rfl ?_
              refine z_iload_n (pc' := 24) C dX3_firstGain_23 rfl 3 rfl rfl ?_
              refine z_iload_n (pc' := 25) C dX3_firstGain_24 rfl 1 rfl rfl ?_
              refine z_iload_n (pc' := 26) C dX3_firstGain_25 rfl 0 rfl rfl ?_
              refine z_cV (n := 3) (pc' := 29) (As := [.int (nI a), .int (nI b), .int (nI (b + 1 + d))]) (rest := []) C 3 (c_X3_isWhole l G _ _ _ a b (b + 1 + d) (by omega) (by omega) (by omega)) gX3_firstGain_X3_isWhole rfl rfl rfl rfl (by decide +kernel) (by decide) rfl (by decide) q_o3 rfl rfl dX3_firstGain_26 (Nat.le_of_ble_eq_true rfl) rfl (k_I ?_)
              show Z sc ia la [(3, .int (nI (b + 1 + d))), (2, .int (nI b)), (0, .ref (G.2.1 3)), (1, .int (nI a))] 29 [.int (bI (s_wh ia a b (b + 1 + d)))]
              refine z_ifB_eq (pc' := 32) C 40 dX3_firstGain_29 rfl rfl (fun h_29 => ?_) (fun h_29 => ?_)
              · refine z_iinc (v := nI (b + 1 + d + 1)) (k9 := 0) (lv' := [(3, .int (nI (b + 1 + d + 1))), (2, .int (nI b)), (0, .ref (G.2.1 3)), (1, .int (nI a))]) (pc' := 43) C dX3_firstGain_40 rfl (nI_1 (b + 1 + d)) (by decide) rfl rfl ?_
                refine z_goto (pc' := 14) C dX3_firstGain_43 rfl ?_
                exact z_cast rfl rfl rfl rfl rfl (ih14 (d + 1) (by omega) (by exact s_lt_s hdn h_29) (by omega))
              · refine z_aload_n (pc' := 33) C dX3_firstGain_32 rfl 2 rfl rfl ?_
                refine z_iload_n (pc' := 34) C dX3_firstGain_33 rfl 3 rfl rfl ?_
                refine z_iload_n (pc' := 35) C dX3_firstGain_34 rfl 1 rfl rfl ?_
                refine z_iload_n (pc' := 36) C dX3_firstGain_35 rfl 0 rfl rfl ?_
                refine z_cV (n := 3) (pc' := 39) (As := [.int (nI a), .int (nI b), .int (nI (b + 1 + d))]) (rest := []) C 3 (c_X3_gainBy l G _ _ _ a b (b + 1 + d) (by omega) (by omega) (by omega)) gX3_firstGain_X3_gainBy rfl rfl rfl rfl (by decide +kernel) (by decide) rfl (by decide) q_o3 rfl rfl dX3_firstGain_36 (Nat.le_of_ble_eq_true rfl) rfl (k_I ?_)
                show Z sc ia la [(3, .int (nI (b + 1 + d))), (2, .int (nI b)), (0, .ref (G.2.1 3)), (1, .int (nI a))] 39 [.int (s_ga ia a b (b + 1 + d))]
                exact z_iret (E := E) rfl dX3_firstGain_39 ⟨(congrArg (fun z => some (Value.int z)) (show _ = _ from (by first | rfl | (have q1 : s_g1 ia m a b = some d := s_fi_s hdn (by omega) h_29; have q2 : s_fi (fun b => (s_g1 ia m a b).isSome) m = some b := s_fi_s hbn (by omega) (by simp [q1]); unfold s_fg; rw [q2]; show _ = (match s_g1 ia m a b with | none => -1000003 | some d => s_ga ia a b (b + 1 + d)); rw [q1])))), rfl, rfl, rfl⟩
        exact z_cast rfl rfl rfl rfl rfl (L14 (_ + 1) 0 (by omega) (fun j h => absurd h (Nat.not_lt_zero j)) (Nat.lt_succ_self _))
  exact z_cast rfl rfl rfl rfl rfl (L2 (_ + 1) 0 (by omega) (fun j h => absurd h (Nat.not_lt_zero j)) (Nat.lt_succ_self _))

set_option maxHeartbeats 4000000 in
set_option maxRecDepth 100000 in
theorem c_X3_spread (l : Launch) (G : Gv) (sc : Sc) (ia : Ia) (la : La) (m : Nat) (hm : sc 5 = nI m) (hM : m ≤ 5) (a : Nat) (ha : a < 5)  : Ct l yX3_spread wsX3_spread ({ frames := 1, cells := 0, slots := 0, locals := 23 }) G [.ref (G.2.1 3), .int (nI a)] sc ia la (fI (s_spr ia m a) sc ia la) := by
  have hU3 : ∀ w ∈ u_ws RX3 TX3 3, w ∈ wsX3_spread := fun w h => List.mem_cons_of_mem _ (List.mem_append_right _ h)
  refine z_of (maxL := 8) (own := RX3) [(0, .ref (G.2.1 3)), (1, .int (nI a))] rfl (by decide +kernel) rfl (Nat.le_of_ble_eq_true rfl) rfl (fun Z C E => ?_)
  refine z_iconst (v := 0) (pc' := 1) C dX3_spread_0 rfl rfl ?_
  refine z_istore_n (lv' := [(2, .int 0), (0, .ref (G.2.1 3)), (1, .int (nI a))]) (pc' := 2) C dX3_spread_1 rfl (by decide) rfl rfl ?_
  refine z_iconst (v := 0) (pc' := 3) C dX3_spread_2 rfl rfl ?_
  refine z_istore_n (lv' := [(3, .int 0), (2, .int 0), (0, .ref (G.2.1 3)), (1, .int (nI a))]) (pc' := 4) C dX3_spread_3 rfl (by decide) rfl rfl ?_
  refine z_iconst (v := 0) (pc' := 5) C dX3_spread_4 rfl rfl ?_
  refine z_istore (lv' := [(4, .int 0), (3, .int 0), (2, .int 0), (0, .ref (G.2.1 3)), (1, .int (nI a))]) (pc' := 7) C dX3_spread_5 (by decide) rfl rfl ?_
  refine z_iconst (v := 0) (pc' := 8) C dX3_spread_7 rfl rfl ?_
  refine z_istore (lv' := [(5, .int 0), (4, .int 0), (3, .int 0), (2, .int 0), (0, .ref (G.2.1 3)), (1, .int (nI a))]) (pc' := 10) C dX3_spread_8 (by decide) rfl rfl ?_
  have L10 : ∀ (fuel : Nat) (b : Nat) (hb : b ≤ m), m - b < fuel → Z sc ia la [(5, .int (nI b)), (4, .int ((s_spo ia m a b).2.2)), (3, .int ((s_spo ia m a b).2.1)), (2, .int ((s_spo ia m a b).1)), (0, .ref (G.2.1 3)), (1, .int (nI a))] 10 [] := by
    intro fuel
    induction fuel with
    | zero => intro b hb hm10; exact absurd hm10 (Nat.not_lt_zero _)
    | succ fuel ih10 =>
      intro b hb hm10
      refine z_iload (pc' := 12) C dX3_spread_10 0 rfl rfl ?_
      refine z_aload_n (pc' := 13) C dX3_spread_12 rfl 4 rfl rfl ?_
      refine z_get (pc' := 16) C hU3 3 (by decide) q_o3 rfl 0 (by decide) (by decide +kernel) (v := .int (sc 5)) rfl dX3_spread_13 rfl ?_
      refine z_cast (st' := [.int (nI m), .int (nI b)]) rfl rfl rfl rfl (congrArg (fun z => Value.int z :: [.int (nI b)]) hm) ?_
      refine z_icmpN_ge (a := b) (b := m) (pc' := 19) C 105 (by omega) (by omega) dX3_spread_16 rfl rfl (fun h_16 => ?_) (fun h_16 => ?_)
      · refine z_iload_n (pc' := 106) C dX3_spread_105 rfl 3 rfl rfl ?_
        refine z_if_eq (pc' := 109) C 116 dX3_spread_106 rfl rfl (fun h_106 => ?_) (fun h_106 => ?_)
        · refine z_iconst (v := -1) (pc' := 117) C dX3_spread_116 rfl rfl ?_
          exact z_iret (E := E) rfl dX3_spread_117 ⟨(congrArg (fun z => some (Value.int z)) (show _ = _ from (by first | rfl | (have e9 : b = m := (by omega); subst e9; simp [s_spr, hb, h_16, h_106])))), rfl, rfl, rfl⟩
        · refine z_iload (pc' := 111) C dX3_spread_109 1 rfl rfl ?_
          refine z_iload_n (pc' := 112) C dX3_spread_111 rfl 2 rfl rfl ?_
          refine z_isub (pc' := 113) C dX3_spread_112 rfl ?_
          refine z_goto (pc' := 117) C dX3_spread_113 rfl ?_
          exact z_iret (E := E) rfl dX3_spread_117 ⟨(congrArg (fun z => some (Value.int z)) (show _ = _ from (by first | rfl | (have e9 : b = m := (by omega); subst e9; simp [s_spr, hb, h_16, h_106])))), rfl, rfl, rfl⟩
      · refine z_iload (pc' := 21) C dX3_spread_19 0 rfl rfl ?_
        refine z_iconst (v := 1) (pc' := 22) C dX3_spread_21 rfl rfl ?_
        refine z_iadd (pc' := 23) C dX3_spread_22 rfl ?_
        refine z_cast (st' := [.int (nI (b + 1))]) rfl rfl rfl rfl (congrArg (fun z => Value.int z :: []) (nI_add _ _)) ?_
        refine z_istore (lv' := [(6, .int (nI (b + 1))), (5, .int (nI b)), (4, .int ((s_spo ia m a b).2.2)), (3, .int ((s_spo ia m a b).2.1)), (2, .int ((s_spo ia m a b).1)), (0, .ref (G.2.1 3)), (1, .int (nI a))]) (pc' := 25) C dX3_spread_23 (by decide) rfl rfl ?_
        have L25 : ∀ (fuel : Nat) (d : Nat) (hd : b + 1 + d ≤ m), m - (b + 1 + d) < fuel → Z sc ia la [(6, .int (nI (b + 1 + d))), (5, .int (nI b)), (4, .int ((s_spi ia a b (s_spo ia m a b) d).2.2)), (3, .int ((s_spi ia a b (s_spo ia m a b) d).2.1)), (2, .int ((s_spi ia a b (s_spo ia m a b) d).1)), (0, .ref (G.2.1 3)), (1, .int (nI a))] 25 [] := by
          intro fuel
          induction fuel with
          | zero => intro d hd hm25; exact absurd hm25 (Nat.not_lt_zero _)
          | succ fuel ih25 =>
            intro d hd hm25
            refine z_iload (pc' := 27) C dX3_spread_25 0 rfl rfl ?_
            refine z_aload_n (pc' := 28) C dX3_spread_27 rfl 5 rfl rfl ?_
            refine z_get (pc' := 31) C hU3 3 (by decide) q_o3 rfl 0 (by decide) (by decide +kernel) (v := .int (sc 5)) rfl dX3_spread_28 rfl ?_
            refine z_cast (st' := [.int (nI m), .int (nI (b + 1 + d))]) rfl rfl rfl rfl (congrArg (fun z => Value.int z :: [.int (nI (b + 1 + d))]) hm) ?_
            refine z_icmpN_ge (a := b + 1 + d) (b := m) (pc' := 34) C 99 (by omega) (by omega) dX3_spread_31 rfl rfl (fun h_31 => ?_) (fun h_31 => ?_)
            · refine z_iinc (v := nI (b + 1)) (k9 := 1) (lv' := [(5, .int (nI (b + 1))), (6, .int (nI (b + 1 + d))), (4, .int ((s_spi ia a b (s_spo ia m a b) d).2.2)), (3, .int ((s_spi ia a b (s_spo ia m a b) d).2.1)), (2, .int ((s_spi ia a b (s_spo ia m a b) d).1)), (0, .ref (G.2.1 3)), (1, .int (nI a))]) (pc' := 102) C dX3_spread_99 rfl (nI_1 b) (by decide) rfl rfl ?_
              refine z_goto (pc' := 10) C dX3_spread_102 rfl ?_
              refine z_sub (lv' := [(5, .int (nI (b + 1))), (4, .int ((s_spi ia a b (s_spo ia m a b) d).2.2)), (3, .int ((s_spi ia a b (s_spo ia m a b) d).2.1)), (2, .int ((s_spi ia a b (s_spo ia m a b) d).1)), (0, .ref (G.2.1 3)), (1, .int (nI a))]) C [0, 2, 3, 4, 5, 6] rfl ?_
              exact z_cast rfl rfl rfl (by first | rfl | (have e9 : d = m - (b + 1) := (by omega); subst e9; rfl)) rfl (ih10 (b + 1) (by omega) (by omega))
            · refine z_aload_n (pc' := 35) C dX3_spread_34 rfl 5 rfl rfl ?_
              refine z_iload_n (pc' := 36) C dX3_spread_35 rfl 6 rfl rfl ?_
              refine z_iload (pc' := 38) C dX3_spread_36 1 rfl rfl ?_
              refine z_iload (pc' := 40) C dX3_spread_38 0 rfl rfl ?_
              refine z_cV (n := 3) (pc' := 43) (As := [.int (nI a), .int (nI b), .int (nI (b + 1 + d))]) (rest := []) C 3 (c_X3_isWhole l G _ _ _ a b (b + 1 + d) (by omega) (by omega) (by omega)) gX3_spread_X3_isWhole rfl rfl rfl rfl (by decide +kernel) (by decide) rfl (by decide) q_o3 rfl rfl dX3_spread_40 (Nat.le_of_ble_eq_true rfl) rfl (k_I ?_)
              show Z sc ia la [(6, .int (nI (b + 1 + d))), (5, .int (nI b)), (4, .int ((s_spi ia a b (s_spo ia m a b) d).2.2)), (3, .int ((s_spi ia a b (s_spo ia m a b) d).2.1)), (2, .int ((s_spi ia a b (s_spo ia m a b) d).1)), (0, .ref (G.2.1 3)), (1, .int (nI a))] 43 [.int (bI (s_wh ia a b (b + 1 + d)))]
              refine z_ifB_eq (pc' := 46) C 93 dX3_spread_43 rfl rfl (fun h_43 => ?_) (fun h_43 => ?_)
              · refine z_iinc (v := nI (b + 1 + d + 1)) (k9 := 0) (lv' := [(6, .int (nI (b + 1 + d + 1))), (5, .int (nI b)), (4, .int ((s_spi ia a b (s_spo ia m a b) d).2.2)), (3, .int ((s_spi ia a b (s_spo ia m a b) d).2.1)), (2, .int ((s_spi ia a b (s_spo ia m a b) d).1)), (0, .ref (G.2.1 3)), (1, .int (nI a))]) (pc' := 96) C dX3_spread_93 rfl (nI_1 (b + 1 + d)) (by decide) rfl rfl ?_
                refine z_goto (pc' := 25) C dX3_spread_96 rfl ?_
                exact z_cast rfl rfl rfl (by first | rfl | (simp [s_spi, s_sp1, h_43]; rfl)) rfl (ih25 (d + 1) (by omega) (by omega))
              · refine z_aload_n (pc' := 47) C dX3_spread_46 rfl 5 rfl rfl ?_
                refine z_iload_n (pc' := 48) C dX3_spread_47 rfl 6 rfl rfl ?_
                refine z_iload (pc' := 50) C dX3_spread_48 1 rfl rfl ?_
                refine z_iload (pc' := 52) C dX3_spread_50 0 rfl rfl ?_
                refine z_cV (n := 3) (pc' := 55) (As := [.int (nI a), .int (nI b), .int (nI (b + 1 + d))]) (rest := []) C 3 (c_X3_gainBy l G _ _ _ a b (b + 1 + d) (by omega) (by omega) (by omega)) gX3_spread_X3_gainBy rfl rfl rfl rfl (by decide +kernel) (by decide) rfl (by decide) q_o3 rfl rfl dX3_spread_52 (Nat.le_of_ble_eq_true rfl) rfl (k_I ?_)
                show Z sc ia la [(6, .int (nI (b + 1 + d))), (5, .int (nI b)), (4, .int ((s_spi ia a b (s_spo ia m a b) d).2.2)), (3, .int ((s_spi ia a b (s_spo ia m a b) d).2.1)), (2, .int ((s_spi ia a b (s_spo ia m a b) d).1)), (0, .ref (G.2.1 3)), (1, .int (nI a))] 55 [.int (s_ga ia a b (b + 1 + d))]
                refine z_istore (lv' := [(7, .int (s_ga ia a b (b + 1 + d))), (6, .int (nI (b + 1 + d))), (5, .int (nI b)), (4, .int ((s_spi ia a b (s_spo ia m a b) d).2.2)), (3, .int ((s_spi ia a b (s_spo ia m a b) d).2.1)), (2, .int ((s_spi ia a b (s_spo ia m a b) d).1)), (0, .ref (G.2.1 3)), (1, .int (nI a))]) (pc' := 57) C dX3_spread_55 (by decide) rfl rfl ?_
                refine z_iload_n (pc' := 58) C dX3_spread_57 rfl 5 rfl rfl ?_
                have J72 : Z sc ia la [(7, .int (s_ga ia a b (b + 1 + d))), (6, .int (nI (b + 1 + d))), (5, .int (nI b)), (4, .int ((s_spi ia a b (s_spo ia m a b) d).2.2)), (3, .int ((s_spi ia a b (s_spo ia m a b) d).2.1)), (2, .int ((s_spi ia a b (s_spo ia m a b) d).1)), (0, .ref (G.2.1 3)), (1, .int (nI a))] 72 [.int (if (s_spi ia a b (s_spo ia m a b) d).1 = 0 then s_ga ia a b (b + 1 + d) else if s_ga ia a b (b + 1 + d) < (s_spi ia a b (s_spo ia m a b) d).2.1 then s_ga ia a b (b + 1 + d) else (s_spi ia a b (s_spo ia m a b) d).2.1)] := by
                  refine z_istore_n (lv' := [(3, .int (if (s_spi ia a b (s_spo ia m a b) d).1 = 0 then s_ga ia a b (b + 1 + d) else if s_ga ia a b (b + 1 + d) < (s_spi ia a b (s_spo ia m a b) d).2.1 then s_ga ia a b (b + 1 + d) else (s_spi ia a b (s_spo ia m a b) d).2.1)), (7, .int (s_ga ia a b (b + 1 + d))), (6, .int (nI (b + 1 + d))), (5, .int (nI b)), (4, .int ((s_spi ia a b (s_spo ia m a b) d).2.2)), (2, .int ((s_spi ia a b (s_spo ia m a b) d).1)), (0, .ref (G.2.1 3)), (1, .int (nI a))]) (pc' := 73) C dX3_spread_72 rfl (by decide) rfl rfl ?_
                  refine z_iload_n (pc' := 74) C dX3_spread_73 rfl 5 rfl rfl ?_
                  have J89 : Z sc ia la [(3, .int (if (s_spi ia a b (s_spo ia m a b) d).1 = 0 then s_ga ia a b (b + 1 + d) else if s_ga ia a b (b + 1 + d) < (s_spi ia a b (s_spo ia m a b) d).2.1 then s_ga ia a b (b + 1 + d) else (s_spi ia a b (s_spo ia m a b) d).2.1)), (7, .int (s_ga ia a b (b + 1 + d))), (6, .int (nI (b + 1 + d))), (5, .int (nI b)), (4, .int ((s_spi ia a b (s_spo ia m a b) d).2.2)), (2, .int ((s_spi ia a b (s_spo ia m a b) d).1)), (0, .ref (G.2.1 3)), (1, .int (nI a))] 89 [.int (if (s_spi ia a b (s_spo ia m a b) d).1 = 0 then s_ga ia a b (b + 1 + d) else if (s_spi ia a b (s_spo ia m a b) d).2.2 < s_ga ia a b (b + 1 + d) then s_ga ia a b (b + 1 + d) else (s_spi ia a b (s_spo ia m a b) d).2.2)] := by
                    refine z_istore (lv' := [(4, .int (if (s_spi ia a b (s_spo ia m a b) d).1 = 0 then s_ga ia a b (b + 1 + d) else if (s_spi ia a b (s_spo ia m a b) d).2.2 < s_ga ia a b (b + 1 + d) then s_ga ia a b (b + 1 + d) else (s_spi ia a b (s_spo ia m a b) d).2.2)), (3, .int (if (s_spi ia a b (s_spo ia m a b) d).1 = 0 then s_ga ia a b (b + 1 + d) else if s_ga ia a b (b + 1 + d) < (s_spi ia a b (s_spo ia m a b) d).2.1 then s_ga ia a b (b + 1 + d) else (s_spi ia a b (s_spo ia m a b) d).2.1)), (7, .int (s_ga ia a b (b + 1 + d))), (6, .int (nI (b + 1 + d))), (5, .int (nI b)), (2, .int ((s_spi ia a b (s_spo ia m a b) d).1)), (0, .ref (G.2.1 3)), (1, .int (nI a))]) (pc' := 91) C dX3_spread_89 (by decide) rfl rfl ?_
                    refine z_iconst (v := 1) (pc' := 92) C dX3_spread_91 rfl rfl ?_
                    refine z_istore_n (lv' := [(2, .int 1), (4, .int (if (s_spi ia a b (s_spo ia m a b) d).1 = 0 then s_ga ia a b (b + 1 + d) else if (s_spi ia a b (s_spo ia m a b) d).2.2 < s_ga ia a b (b + 1 + d) then s_ga ia a b (b + 1 + d) else (s_spi ia a b (s_spo ia m a b) d).2.2)), (3, .int (if (s_spi ia a b (s_spo ia m a b) d).1 = 0 then s_ga ia a b (b + 1 + d) else if s_ga ia a b (b + 1 + d) < (s_spi ia a b (s_spo ia m a b) d).2.1 then s_ga ia a b (b + 1 + d) else (s_spi ia a b (s_spo ia m a b) d).2.1)), (7, .int (s_ga ia a b (b + 1 + d))), (6, .int (nI (b + 1 + d))), (5, .int (nI b)), (0, .ref (G.2.1 3)), (1, .int (nI a))]) (pc' := 93) C dX3_spread_92 rfl (by decide) rfl rfl ?_
                    refine z_iinc (v := nI (b + 1 + d + 1)) (k9 := 4) (lv' := [(6, .int (nI (b + 1 + d + 1))), (2, .int 1), (4, .int (if (s_spi ia a b (s_spo ia m a b) d).1 = 0 then s_ga ia a b (b + 1 + d) else if (s_spi ia a b (s_spo ia m a b) d).2.2 < s_ga ia a b (b + 1 + d) then s_ga ia a b (b + 1 + d) else (s_spi ia a b (s_spo ia m a b) d).2.2)), (3, .int (if (s_spi ia a b (s_spo ia m a b) d).1 = 0 then s_ga ia a b (b + 1 + d) else if s_ga ia a b (b + 1 + d) < (s_spi ia a b (s_spo ia m a b) d).2.1 then s_ga ia a b (b + 1 + d) else (s_spi ia a b (s_spo ia m a b) d).2.1)), (7, .int (s_ga ia a b (b + 1 + d))), (5, .int (nI b)), (0, .ref (G.2.1 3)), (1, .int (nI a))]) (pc' := 96) C dX3_spread_93 rfl (nI_1 (b + 1 + d)) (by decide) rfl rfl ?_
                    refine z_goto (pc' := 25) C dX3_spread_96 rfl ?_
                    refine z_sub (lv' := [(6, .int (nI (b + 1 + d + 1))), (5, .int (nI b)), (4, .int (if (s_spi ia a b (s_spo ia m a b) d).1 = 0 then s_ga ia a b (b + 1 + d) else if (s_spi ia a b (s_spo ia m a b) d).2.2 < s_ga ia a b (b + 1 + d) then s_ga ia a b (b + 1 + d) else (s_spi ia a b (s_spo ia m a b) d).2.2)), (3, .int (if (s_spi ia a b (s_spo ia m a b) d).1 = 0 then s_ga ia a b (b + 1 + d) else if s_ga ia a b (b + 1 + d) < (s_spi ia a b (s_spo ia m a b) d).2.1 then s_ga ia a b (b + 1 + d) else (s_spi ia a b (s_spo ia m a b) d).2.1)), (2, .int 1), (0, .ref (G.2.1 3)), (1, .int (nI a))]) C [0, 5, 2, 3, 1, 6, 7] rfl ?_
                    exact z_cast rfl rfl rfl (by first | rfl | (simp [s_spi, s_sp1, h_43]; rfl)) rfl (ih25 (d + 1) (by omega) (by omega))
                  refine z_if_eq (pc' := 77) C 87 dX3_spread_74 rfl rfl (fun h_74 => ?_) (fun h_74 => ?_)
                  · refine z_iload (pc' := 89) C dX3_spread_87 1 rfl rfl ?_
                    exact z_cast rfl rfl rfl rfl (by first | rfl | (simp [bI, hb, h_16, hd, h_31, h_43, h_74])) J89
                  · refine z_iload (pc' := 79) C dX3_spread_77 4 rfl rfl ?_
                    refine z_iload (pc' := 81) C dX3_spread_79 1 rfl rfl ?_
                    refine z_mmax (pc' := 84) C (by decide +kernel) (by decide +kernel) (by decide +kernel) (by decide +kernel) (by decide) (Nat.le_of_ble_eq_true rfl) dX3_spread_81 rfl ?_
                    refine z_goto (pc' := 89) C dX3_spread_84 rfl ?_
                    exact z_cast rfl rfl rfl rfl (by first | rfl | (simp [bI, hb, h_16, hd, h_31, h_43, h_74])) J89
                refine z_if_eq (pc' := 61) C 70 dX3_spread_58 rfl rfl (fun h_58 => ?_) (fun h_58 => ?_)
                · refine z_iload (pc' := 72) C dX3_spread_70 0 rfl rfl ?_
                  exact z_cast rfl rfl rfl rfl (by first | rfl | (simp [bI, hb, h_16, hd, h_31, h_43, h_58])) J72
                · refine z_iload_n (pc' := 62) C dX3_spread_61 rfl 4 rfl rfl ?_
                  refine z_iload (pc' := 64) C dX3_spread_62 0 rfl rfl ?_
                  refine z_mmin (pc' := 67) C (by decide +kernel) (by decide +kernel) (by decide +kernel) (by decide +kernel) (by decide) (Nat.le_of_ble_eq_true rfl) dX3_spread_64 rfl ?_
                  refine z_goto (pc' := 72) C dX3_spread_67 rfl ?_
                  exact z_cast rfl rfl rfl rfl (by first | rfl | (simp [bI, hb, h_16, hd, h_31, h_43, h_58])) J72
        exact z_cast rfl rfl rfl rfl rfl (L25 (_ + 1) 0 (by omega) (Nat.lt_succ_self _))
  exact z_cast rfl rfl rfl rfl rfl (L10 (_ + 1) 0 (by omega) (Nat.lt_succ_self _))

set_option maxHeartbeats 4000000 in
set_option maxRecDepth 100000 in
theorem c_X3_countKnown (l : Launch) (G : Gv) (sc : Sc) (ia : Ia) (la : La) (m : Nat) (hm : sc 5 = nI m) (hM : m ≤ 5)  : Ct l yX3_countKnown wsX3_countKnown ({ frames := 0, cells := 0, slots := 0, locals := 0 }) G [.ref (G.2.1 3)] sc ia la (fI (s_cko ia m m) sc ia la) := by
  have hU3 : ∀ w ∈ u_ws RX3 TX3 3, w ∈ wsX3_countKnown := fun w h => List.mem_cons_of_mem _ (List.mem_append_right _ h)
  refine z_of (maxL := 4) (own := RX3) [(0, .ref (G.2.1 3))] rfl (by decide +kernel) rfl (Nat.le_of_ble_eq_true rfl) rfl (fun Z C E => ?_)
  refine z_iconst (v := 0) (pc' := 1) C dX3_countKnown_0 rfl rfl ?_
  refine z_istore_n (lv' := [(1, .int 0), (0, .ref (G.2.1 3))]) (pc' := 2) C dX3_countKnown_1 rfl (by decide) rfl rfl ?_
  refine z_iconst (v := 0) (pc' := 3) C dX3_countKnown_2 rfl rfl ?_
  refine z_istore_n (lv' := [(2, .int 0), (1, .int 0), (0, .ref (G.2.1 3))]) (pc' := 4) C dX3_countKnown_3 rfl (by decide) rfl rfl ?_
  have L4 : ∀ (fuel : Nat) (a : Nat) (ha : a ≤ m), m - a < fuel → Z sc ia la [(2, .int (nI a)), (1, .int (s_cko ia m a)), (0, .ref (G.2.1 3))] 4 [] := by
    intro fuel
    induction fuel with
    | zero => intro a ha hm4; exact absurd hm4 (Nat.not_lt_zero _)
    | succ fuel ih4 =>
      intro a ha hm4
      refine z_iload_n (pc' := 5) C dX3_countKnown_4 rfl 0 rfl rfl ?_
      refine z_aload_n (pc' := 6) C dX3_countKnown_5 rfl 2 rfl rfl ?_
      refine z_get (pc' := 9) C hU3 3 (by decide) q_o3 rfl 0 (by decide) (by decide +kernel) (v := .int (sc 5)) rfl dX3_countKnown_6 rfl ?_
      refine z_cast (st' := [.int (nI m), .int (nI a)]) rfl rfl rfl rfl (congrArg (fun z => Value.int z :: [.int (nI a)]) hm) ?_
      refine z_icmpN_ge (a := a) (b := m) (pc' := 12) C 47 (by omega) (by omega) dX3_countKnown_9 rfl rfl (fun h_9 => ?_) (fun h_9 => ?_)
      · refine z_iload_n (pc' := 48) C dX3_countKnown_47 rfl 1 rfl rfl ?_
        exact z_iret (E := E) rfl dX3_countKnown_48 ⟨(congrArg (fun z => some (Value.int z)) (show _ = _ from (by first | rfl | (have e9 : a = m := (by omega); subst e9; rfl)))), rfl, rfl, rfl⟩
      · refine z_iload_n (pc' := 13) C dX3_countKnown_12 rfl 0 rfl rfl ?_
        refine z_iconst (v := 1) (pc' := 14) C dX3_countKnown_13 rfl rfl ?_
        refine z_iadd (pc' := 15) C dX3_countKnown_14 rfl ?_
        refine z_cast (st' := [.int (nI (a + 1))]) rfl rfl rfl rfl (congrArg (fun z => Value.int z :: []) (nI_add _ _)) ?_
        refine z_istore_n (lv' := [(3, .int (nI (a + 1))), (2, .int (nI a)), (1, .int (s_cko ia m a)), (0, .ref (G.2.1 3))]) (pc' := 16) C dX3_countKnown_15 rfl (by decide) rfl rfl ?_
        have L16 : ∀ (fuel : Nat) (d : Nat) (hd : a + 1 + d ≤ m), m - (a + 1 + d) < fuel → Z sc ia la [(3, .int (nI (a + 1 + d))), (2, .int (nI a)), (1, .int (s_cki ia a (s_cko ia m a) d)), (0, .ref (G.2.1 3))] 16 [] := by
          intro fuel
          induction fuel with
          | zero => intro d hd hm16; exact absurd hm16 (Nat.not_lt_zero _)
          | succ fuel ih16 =>
            intro d hd hm16
            refine z_iload_n (pc' := 17) C dX3_countKnown_16 rfl 0 rfl rfl ?_
            refine z_aload_n (pc' := 18) C dX3_countKnown_17 rfl 3 rfl rfl ?_
            refine z_get (pc' := 21) C hU3 3 (by decide) q_o3 rfl 0 (by decide) (by decide +kernel) (v := .int (sc 5)) rfl dX3_countKnown_18 rfl ?_
            refine z_cast (st' := [.int (nI m), .int (nI (a + 1 + d))]) rfl rfl rfl rfl (congrArg (fun z => Value.int z :: [.int (nI (a + 1 + d))]) hm) ?_
            refine z_icmpN_ge (a := a + 1 + d) (b := m) (pc' := 24) C 41 (by omega) (by omega) dX3_countKnown_21 rfl rfl (fun h_21 => ?_) (fun h_21 => ?_)
            · refine z_iinc (v := nI (a + 1)) (k9 := 1) (lv' := [(2, .int (nI (a + 1))), (3, .int (nI (a + 1 + d))), (1, .int (s_cki ia a (s_cko ia m a) d)), (0, .ref (G.2.1 3))]) (pc' := 44) C dX3_countKnown_41 rfl (nI_1 a) (by decide) rfl rfl ?_
              refine z_goto (pc' := 4) C dX3_countKnown_44 rfl ?_
              refine z_sub (lv' := [(2, .int (nI (a + 1))), (1, .int (s_cki ia a (s_cko ia m a) d)), (0, .ref (G.2.1 3))]) C [0, 2, 3] rfl ?_
              exact z_cast rfl rfl rfl (by first | rfl | (have e9 : d = m - (a + 1) := (by omega); subst e9; rfl)) rfl (ih4 (a + 1) (by omega) (by omega))
            · refine z_iload_n (pc' := 25) C dX3_countKnown_24 rfl 2 rfl rfl ?_
              refine z_aload_n (pc' := 26) C dX3_countKnown_25 rfl 3 rfl rfl ?_
              refine z_get (pc' := 29) C hU3 3 (by decide) q_o3 rfl 1 (by decide) (by decide +kernel) (v := .ref (G.2.1 51)) rfl dX3_countKnown_26 rfl ?_
              refine z_iload_n (pc' := 30) C dX3_countKnown_29 rfl 1 rfl rfl ?_
              refine z_aald (pc' := 31) C 51 (by decide) (i := a) (a := G.2.1 (26 + a)) (ty := .int) rfl q_v51 (by omega) (by decide) (if_pos (by omega)) dX3_countKnown_30 rfl ?_
              refine z_iload_n (pc' := 32) C dX3_countKnown_31 rfl 0 rfl rfl ?_
              refine z_iald (pc' := 33) C (26 + a) (by omega) (N := 5) (i := a + 1 + d) (f := ia (19 + a)) (q_ir19 a (by omega)) (by omega) (by decide) dX3_countKnown_32 rfl ?_
              refine z_iadd (pc' := 34) C dX3_countKnown_33 rfl ?_
              refine z_istore_n (lv' := [(1, .int ((s_cki ia a (s_cko ia m a) d) + ((ia (19 + a)) (a + 1 + d)))), (3, .int (nI (a + 1 + d))), (2, .int (nI a)), (0, .ref (G.2.1 3))]) (pc' := 35) C dX3_countKnown_34 rfl (by decide) rfl rfl ?_
              refine z_iinc (v := nI (a + 1 + d + 1)) (k9 := 1) (lv' := [(3, .int (nI (a + 1 + d + 1))), (1, .int ((s_cki ia a (s_cko ia m a) d) + ((ia (19 + a)) (a + 1 + d)))), (2, .int (nI a)), (0, .ref (G.2.1 3))]) (pc' := 38) C dX3_countKnown_35 rfl (nI_1 (a + 1 + d)) (by decide) rfl rfl ?_
              refine z_goto (pc' := 16) C dX3_countKnown_38 rfl ?_
              refine z_sub (lv' := [(3, .int (nI (a + 1 + d + 1))), (2, .int (nI a)), (1, .int ((s_cki ia a (s_cko ia m a) d) + ((ia (19 + a)) (a + 1 + d)))), (0, .ref (G.2.1 3))]) C [0, 2, 1, 3] rfl ?_
              exact z_cast rfl rfl rfl rfl rfl (ih16 (d + 1) (by omega) (by omega))
        exact z_cast rfl rfl rfl rfl rfl (L16 (_ + 1) 0 (by omega) (Nat.lt_succ_self _))
  exact z_cast rfl rfl rfl rfl rfl (L4 (_ + 1) 0 (by omega) (Nat.lt_succ_self _))

set_option maxHeartbeats 4000000 in
set_option maxRecDepth 100000 in
theorem c_X3_foldInto (l : Launch) (G : Gv) (sc : Sc) (ia : Ia) (la : La) (m : Nat) (hm : sc 5 = nI m) (hM : m ≤ 5) (h : Int64)  : Ct l yX3_foldInto wsX3_foldInto ({ frames := 2, cells := 0, slots := 0, locals := 46 }) G [.ref (G.2.1 3), .long h] sc ia la (fL (s_pfo ia m (s_fo h (nI m).toInt64) m) sc ia la) := by
  have hU3 : ∀ w ∈ u_ws RX3 TX3 3, w ∈ wsX3_foldInto := fun w h => List.mem_cons_of_mem _ (List.mem_append_right _ h)
  refine z_of (maxL := 7) (own := RX3) [(0, .ref (G.2.1 3)), (1, .long h)] rfl (by decide +kernel) rfl (Nat.le_of_ble_eq_true rfl) rfl (fun Z C E => ?_)
  refine z_lload_n (pc' := 1) C dX3_foldInto_0 rfl 1 rfl rfl ?_
  refine z_aload_n (pc' := 2) C dX3_foldInto_1 rfl 0 rfl rfl ?_
  refine z_get (pc' := 5) C hU3 3 (by decide) q_o3 rfl 0 (by decide) (by decide +kernel) (v := .int (sc 5)) rfl dX3_foldInto_2 rfl ?_
  refine z_cast (st' := [.int (nI m), .long h]) rfl rfl rfl rfl (congrArg (fun z => Value.int z :: [.long h]) hm) ?_
  refine z_i2l (pc' := 6) C dX3_foldInto_5 rfl ?_
  refine z_cN (n := 2) (pc' := 9) (As := [.long h, .long ((nI m).toInt64)]) (rest := []) C (c_X5_fold l G _ _ _ h ((nI m).toInt64)) gX3_foldInto_X5_fold_n45 rfl rfl rfl (by decide +kernel) (by decide +kernel) (by decide +kernel) (by decide +kernel) (by decide) rfl rfl dX3_foldInto_6 (Nat.le_of_ble_eq_true rfl) rfl (k_L ?_)
  show Z sc ia la [(0, .ref (G.2.1 3)), (1, .long h)] 9 [.long (s_fo h ((nI m).toInt64))]
  refine z_lstore_n (lv' := [(3, .long (s_fo h ((nI m).toInt64))), (0, .ref (G.2.1 3)), (1, .long h)]) (pc' := 10) C dX3_foldInto_9 rfl (by decide) rfl rfl ?_
  refine z_iconst (v := 0) (pc' := 11) C dX3_foldInto_10 rfl rfl ?_
  refine z_istore (lv' := [(5, .int 0), (3, .long (s_fo h ((nI m).toInt64))), (0, .ref (G.2.1 3)), (1, .long h)]) (pc' := 13) C dX3_foldInto_11 (by decide) rfl rfl ?_
  have L13 : ∀ (fuel : Nat) (a : Nat) (ha : a ≤ m), m - a < fuel → Z sc ia la [(5, .int (nI a)), (3, .long (s_pfo ia m (s_fo h (nI m).toInt64) a)), (0, .ref (G.2.1 3))] 13 [] := by
    intro fuel
    induction fuel with
    | zero => intro a ha hm13; exact absurd hm13 (Nat.not_lt_zero _)
    | succ fuel ih13 =>
      intro a ha hm13
      refine z_iload (pc' := 15) C dX3_foldInto_13 0 rfl rfl ?_
      refine z_aload_n (pc' := 16) C dX3_foldInto_15 rfl 2 rfl rfl ?_
      refine z_get (pc' := 19) C hU3 3 (by decide) q_o3 rfl 0 (by decide) (by decide +kernel) (v := .int (sc 5)) rfl dX3_foldInto_16 rfl ?_
      refine z_cast (st' := [.int (nI m), .int (nI a)]) rfl rfl rfl rfl (congrArg (fun z => Value.int z :: [.int (nI a)]) hm) ?_
      refine z_icmpN_ge (a := a) (b := m) (pc' := 22) C 83 (by omega) (by omega) dX3_foldInto_19 rfl rfl (fun h_19 => ?_) (fun h_19 => ?_)
      · refine z_lload_n (pc' := 84) C dX3_foldInto_83 rfl 1 rfl rfl ?_
        exact z_lret (E := E) rfl dX3_foldInto_84 ⟨(congrArg (fun z => some (Value.long z)) (show _ = _ from (by first | rfl | (have e9 : a = m := (by omega); subst e9; rfl)))), rfl, rfl, rfl⟩
      · refine z_iload (pc' := 24) C dX3_foldInto_22 0 rfl rfl ?_
        refine z_iconst (v := 1) (pc' := 25) C dX3_foldInto_24 rfl rfl ?_
        refine z_iadd (pc' := 26) C dX3_foldInto_25 rfl ?_
        refine z_cast (st' := [.int (nI (a + 1))]) rfl rfl rfl rfl (congrArg (fun z => Value.int z :: []) (nI_add _ _)) ?_
        refine z_istore (lv' := [(6, .int (nI (a + 1))), (5, .int (nI a)), (3, .long (s_pfo ia m (s_fo h (nI m).toInt64) a)), (0, .ref (G.2.1 3))]) (pc' := 28) C dX3_foldInto_26 (by decide) rfl rfl ?_
        have L28 : ∀ (fuel : Nat) (d : Nat) (hd : a + 1 + d ≤ m), m - (a + 1 + d) < fuel → Z sc ia la [(6, .int (nI (a + 1 + d))), (5, .int (nI a)), (3, .long (s_pfi ia a (s_pfo ia m (s_fo h (nI m).toInt64) a) d)), (0, .ref (G.2.1 3))] 28 [] := by
          intro fuel
          induction fuel with
          | zero => intro d hd hm28; exact absurd hm28 (Nat.not_lt_zero _)
          | succ fuel ih28 =>
            intro d hd hm28
            refine z_iload (pc' := 30) C dX3_foldInto_28 0 rfl rfl ?_
            refine z_aload_n (pc' := 31) C dX3_foldInto_30 rfl 3 rfl rfl ?_
            refine z_get (pc' := 34) C hU3 3 (by decide) q_o3 rfl 0 (by decide) (by decide +kernel) (v := .int (sc 5)) rfl dX3_foldInto_31 rfl ?_
            refine z_cast (st' := [.int (nI m), .int (nI (a + 1 + d))]) rfl rfl rfl rfl (congrArg (fun z => Value.int z :: [.int (nI (a + 1 + d))]) hm) ?_
            refine z_icmpN_ge (a := a + 1 + d) (b := m) (pc' := 37) C 77 (by omega) (by omega) dX3_foldInto_34 rfl rfl (fun h_34 => ?_) (fun h_34 => ?_)
            · refine z_iinc (v := nI (a + 1)) (k9 := 1) (lv' := [(5, .int (nI (a + 1))), (6, .int (nI (a + 1 + d))), (3, .long (s_pfi ia a (s_pfo ia m (s_fo h (nI m).toInt64) a) d)), (0, .ref (G.2.1 3))]) (pc' := 80) C dX3_foldInto_77 rfl (nI_1 a) (by decide) rfl rfl ?_
              refine z_goto (pc' := 13) C dX3_foldInto_80 rfl ?_
              refine z_sub (lv' := [(5, .int (nI (a + 1))), (3, .long (s_pfi ia a (s_pfo ia m (s_fo h (nI m).toInt64) a) d)), (0, .ref (G.2.1 3))]) C [0, 2, 3] rfl ?_
              exact z_cast rfl rfl rfl (by first | rfl | (have e9 : d = m - (a + 1) := (by omega); subst e9; rfl)) rfl (ih13 (a + 1) (by omega) (by omega))
            · refine z_lload_n (pc' := 38) C dX3_foldInto_37 rfl 2 rfl rfl ?_
              refine z_aload_n (pc' := 39) C dX3_foldInto_38 rfl 3 rfl rfl ?_
              refine z_get (pc' := 42) C hU3 3 (by decide) q_o3 rfl 1 (by decide) (by decide +kernel) (v := .ref (G.2.1 51)) rfl dX3_foldInto_39 rfl ?_
              refine z_iload (pc' := 44) C dX3_foldInto_42 1 rfl rfl ?_
              refine z_aald (pc' := 45) C 51 (by decide) (i := a) (a := G.2.1 (26 + a)) (ty := .int) rfl q_v51 (by omega) (by decide) (if_pos (by omega)) dX3_foldInto_44 rfl ?_
              refine z_iload (pc' := 47) C dX3_foldInto_45 0 rfl rfl ?_
              refine z_iald (pc' := 48) C (26 + a) (by omega) (N := 5) (i := a + 1 + d) (f := ia (19 + a)) (q_ir19 a (by omega)) (by omega) (by decide) dX3_foldInto_47 rfl ?_
              refine z_iconst (v := 1) (pc' := 49) C dX3_foldInto_48 rfl rfl ?_
              have J57 : Z sc ia la [(6, .int (nI (a + 1 + d))), (5, .int (nI a)), (3, .long (s_pfi ia a (s_pfo ia m (s_fo h (nI m).toInt64) a) d)), (0, .ref (G.2.1 3))] 57 [.int (bI (decide (ia (19 + a) (a + 1 + d) = 1))), .long (s_pfi ia a (s_pfo ia m (s_fo h (nI m).toInt64) a) d)] := by
                refine z_aload_n (pc' := 58) C dX3_foldInto_57 rfl 3 rfl rfl ?_
                refine z_get (pc' := 61) C hU3 3 (by decide) q_o3 rfl 2 (by decide) (by decide +kernel) (v := .ref (G.2.1 52)) rfl dX3_foldInto_58 rfl ?_
                refine z_iload (pc' := 63) C dX3_foldInto_61 1 rfl rfl ?_
                refine z_aald (pc' := 64) C 52 (by decide) (i := a) (a := G.2.1 (31 + a)) (ty := .int) rfl q_v52 (by omega) (by decide) (if_pos (by omega)) dX3_foldInto_63 rfl ?_
                refine z_iload (pc' := 66) C dX3_foldInto_64 0 rfl rfl ?_
                refine z_iald (pc' := 67) C (31 + a) (by omega) (N := 5) (i := a + 1 + d) (f := ia (24 + a)) (q_ir24 a (by omega)) (by omega) (by decide) dX3_foldInto_66 rfl ?_
                refine z_cN (n := 3) (pc' := 70) (As := [.long (s_pfi ia a (s_pfo ia m (s_fo h (nI m).toInt64) a) d), .int (bI (decide (ia (19 + a) (a + 1 + d) = 1))), .int ((ia (24 + a)) (a + 1 + d))]) (rest := []) C (c_X5_foldIfKnown l G _ _ _ (s_pfi ia a (s_pfo ia m (s_fo h (nI m).toInt64) a) d) (bI (decide (ia (19 + a) (a + 1 + d) = 1))) ((ia (24 + a)) (a + 1 + d))) gX3_foldInto_X5_foldIfKnown_n49 rfl rfl rfl (by decide +kernel) (by decide +kernel) (by decide +kernel) (by decide +kernel) (by decide) rfl rfl dX3_foldInto_67 (Nat.le_of_ble_eq_true rfl) rfl (k_L ?_)
                show Z sc ia la [(6, .int (nI (a + 1 + d))), (5, .int (nI a)), (3, .long (s_pfi ia a (s_pfo ia m (s_fo h (nI m).toInt64) a) d)), (0, .ref (G.2.1 3))] 70 [.long (s_fk (s_pfi ia a (s_pfo ia m (s_fo h (nI m).toInt64) a) d) (bI (decide (ia (19 + a) (a + 1 + d) = 1))) ((ia (24 + a)) (a + 1 + d)))]
                refine z_lstore_n (lv' := [(3, .long (s_fk (s_pfi ia a (s_pfo ia m (s_fo h (nI m).toInt64) a) d) (bI (decide (ia (19 + a) (a + 1 + d) = 1))) ((ia (24 + a)) (a + 1 + d)))), (6, .int (nI (a + 1 + d))), (5, .int (nI a)), (0, .ref (G.2.1 3))]) (pc' := 71) C dX3_foldInto_70 rfl (by decide) rfl rfl ?_
                refine z_iinc (v := nI (a + 1 + d + 1)) (k9 := 1) (lv' := [(6, .int (nI (a + 1 + d + 1))), (3, .long (s_fk (s_pfi ia a (s_pfo ia m (s_fo h (nI m).toInt64) a) d) (bI (decide (ia (19 + a) (a + 1 + d) = 1))) ((ia (24 + a)) (a + 1 + d)))), (5, .int (nI a)), (0, .ref (G.2.1 3))]) (pc' := 74) C dX3_foldInto_71 rfl (nI_1 (a + 1 + d)) (by decide) rfl rfl ?_
                refine z_goto (pc' := 28) C dX3_foldInto_74 rfl ?_
                refine z_sub (lv' := [(6, .int (nI (a + 1 + d + 1))), (5, .int (nI a)), (3, .long (s_fk (s_pfi ia a (s_pfo ia m (s_fo h (nI m).toInt64) a) d) (bI (decide (ia (19 + a) (a + 1 + d) = 1))) ((ia (24 + a)) (a + 1 + d)))), (0, .ref (G.2.1 3))]) C [0, 2, 1, 3] rfl ?_
                exact z_cast rfl rfl rfl rfl rfl (ih28 (d + 1) (by omega) (by omega))
              refine z_icmp_ne (pc' := 52) C 56 dX3_foldInto_49 rfl rfl (fun h_49 => ?_) (fun h_49 => ?_)
              · refine z_iconst (v := 0) (pc' := 57) C dX3_foldInto_56 rfl rfl ?_
                exact z_cast rfl rfl rfl rfl (by first | rfl | (simp [bI, ha, h_19, hd, h_34, h_49])) J57
              · refine z_iconst (v := 1) (pc' := 53) C dX3_foldInto_52 rfl rfl ?_
                refine z_goto (pc' := 57) C dX3_foldInto_53 rfl ?_
                exact z_cast rfl rfl rfl rfl (by first | rfl | (simp [bI, ha, h_19, hd, h_34, h_49])) J57
        exact z_cast rfl rfl rfl rfl rfl (L28 (_ + 1) 0 (by omega) (Nat.lt_succ_self _))
  refine z_sub (lv' := [(5, .int 0), (3, .long (s_fo h ((nI m).toInt64))), (0, .ref (G.2.1 3))]) C [0, 1, 2] rfl ?_
  exact z_cast rfl rfl rfl rfl rfl (L13 (_ + 1) 0 (by omega) (Nat.lt_succ_self _))

set_option maxHeartbeats 4000000 in
set_option maxRecDepth 100000 in
theorem c_X5_rootUp (l : Launch) (G : Gv) (sc : Sc) (ia : Ia) (la : La) (sq : Int64)  : Ct l yX5_rootUp wsX5_rootUp ({ frames := 0, cells := 0, slots := 0, locals := 0 }) G [.long sq] sc ia la (fI (s_ru sq) sc ia la) := by
  refine z_of (maxL := 7) (own := RX5) [(0, .long sq)] rfl (by decide +kernel) rfl (Nat.le_of_ble_eq_true rfl) rfl (fun Z C E => ?_)
  refine z_lload_n (pc' := 1) C dX5_rootUp_0 rfl 0 rfl rfl ?_
  refine z_lconst (v := 0) (pc' := 2) C dX5_rootUp_1 rfl rfl ?_
  refine z_lcmp (pc' := 3) C dX5_rootUp_2 rfl ?_
  refine z_if_gt (pc' := 6) C 8 dX5_rootUp_3 rfl rfl (fun h_3 => ?_) (fun h_3 => ?_)
  · refine z_lconst (v := 0) (pc' := 9) C dX5_rootUp_8 rfl rfl ?_
    refine z_lstore_n (lv' := [(2, .long 0), (0, .long sq)]) (pc' := 10) C dX5_rootUp_9 rfl (by decide) rfl rfl ?_
    refine z_bipush (v := 16) (pc' := 12) C dX5_rootUp_10 rfl rfl ?_
    refine z_istore (lv' := [(4, .int 16), (2, .long 0), (0, .long sq)]) (pc' := 14) C dX5_rootUp_12 (by decide) rfl rfl ?_
    have L14 : ∀ (fuel : Nat) (t : Nat) (y : Int64) (x : Int32) (ht : t ≤ 17) (hx : x = s_b t) (hy : s_rt sq t y = s_rt sq 17 0), t < fuel → Z sc ia la [(4, .int x), (2, .long y), (0, .long sq)] 14 [] := by
      intro fuel
      induction fuel with
      | zero => intro t y x ht hx hy hm14; exact absurd hm14 (Nat.not_lt_zero _)
      | succ fuel ih14 =>
        intro t y x ht hx hy hm14
        refine z_iload (pc' := 16) C dX5_rootUp_14 0 rfl rfl ?_
        refine z_if_lt (pc' := 19) C 46 dX5_rootUp_16 rfl rfl (fun h_16 => ?_) (fun h_16 => ?_)
        · refine z_lload_n (pc' := 47) C dX5_rootUp_46 rfl 1 rfl rfl ?_
          refine z_lconst (v := 1) (pc' := 48) C dX5_rootUp_47 rfl rfl ?_
          refine z_ladd (pc' := 49) C dX5_rootUp_48 rfl ?_
          refine z_l2i (pc' := 50) C dX5_rootUp_49 rfl ?_
          exact z_iret (E := E) rfl dX5_rootUp_50 ⟨(congrArg (fun z => some (Value.int z)) (show _ = _ from (by first | rfl | (rw [lg_cmp_gt] at h_3; have e9 : t = 0 := (by cases t with | zero => rfl | succ b => exact absurd h_16 (by rw [hx]; exact nI_pos (by omega))); subst e9; rw [s_ru, if_pos h_3, ← hy]; rfl)))), rfl, rfl, rfl⟩
        · refine z_lload_n (pc' := 20) C dX5_rootUp_19 rfl 1 rfl rfl ?_
          refine z_lconst (v := 1) (pc' := 21) C dX5_rootUp_20 rfl rfl ?_
          refine z_iload (pc' := 23) C dX5_rootUp_21 0 rfl rfl ?_
          refine z_lshl (pc' := 24) C dX5_rootUp_23 rfl ?_
          refine z_ladd (pc' := 25) C dX5_rootUp_24 rfl ?_
          refine z_lstore (lv' := [(5, .long (y + (1 <<< (x.toInt64 &&& 63)))), (4, .int x), (2, .long y), (0, .long sq)]) (pc' := 27) C dX5_rootUp_25 (by decide) rfl rfl ?_
          refine z_lload (pc' := 29) C dX5_rootUp_27 0 rfl rfl ?_
          refine z_lload (pc' := 31) C dX5_rootUp_29 0 rfl rfl ?_
          refine z_lmul (pc' := 32) C dX5_rootUp_31 rfl ?_
          refine z_lload_n (pc' := 33) C dX5_rootUp_32 rfl 3 rfl rfl ?_
          refine z_lcmp (pc' := 34) C dX5_rootUp_33 rfl ?_
          refine z_if_ge (pc' := 37) C 40 dX5_rootUp_34 rfl rfl (fun h_34 => ?_) (fun h_34 => ?_)
          · refine z_iinc (v := x + (-1)) (k9 := 1) (lv' := [(4, .int (x + (-1))), (5, .long (y + (1 <<< (x.toInt64 &&& 63)))), (2, .long y), (0, .long sq)]) (pc' := 43) C dX5_rootUp_40 rfl rfl (by decide) rfl rfl ?_
            refine z_goto (pc' := 14) C dX5_rootUp_43 rfl ?_
            refine z_sub (lv' := [(4, .int (x + (-1))), (2, .long y), (0, .long sq)]) C [0, 2, 3] rfl ?_
            exact z_cast rfl rfl rfl rfl rfl (ih14 (t - 1) _ _ (by omega) (by obtain ⟨b9, e1, e2, e3⟩ := s_b_pos hx h_16; subst e1; exact e3) (by obtain ⟨b9, e1, e2, e3⟩ := s_b_pos hx h_16; subst e1; subst e2; rw [← hy]; rw [lg_cmp_ge] at h_34; simp [s_rt, h_34]) (by obtain ⟨b9, e1, e2, e3⟩ := s_b_pos hx h_16; omega))
          · refine z_lload (pc' := 39) C dX5_rootUp_37 0 rfl rfl ?_
            refine z_lstore_n (lv' := [(2, .long (y + (1 <<< (x.toInt64 &&& 63)))), (5, .long (y + (1 <<< (x.toInt64 &&& 63)))), (4, .int x), (0, .long sq)]) (pc' := 40) C dX5_rootUp_39 rfl (by decide) rfl rfl ?_
            refine z_iinc (v := x + (-1)) (k9 := 2) (lv' := [(4, .int (x + (-1))), (2, .long (y + (1 <<< (x.toInt64 &&& 63)))), (5, .long (y + (1 <<< (x.toInt64 &&& 63)))), (0, .long sq)]) (pc' := 43) C dX5_rootUp_40 rfl rfl (by decide) rfl rfl ?_
            refine z_goto (pc' := 14) C dX5_rootUp_43 rfl ?_
            refine z_sub (lv' := [(4, .int (x + (-1))), (2, .long (y + (1 <<< (x.toInt64 &&& 63)))), (0, .long sq)]) C [0, 1, 3] rfl ?_
            exact z_cast rfl rfl rfl rfl rfl (ih14 (t - 1) _ _ (by omega) (by obtain ⟨b9, e1, e2, e3⟩ := s_b_pos hx h_16; subst e1; exact e3) (by obtain ⟨b9, e1, e2, e3⟩ := s_b_pos hx h_16; subst e1; subst e2; rw [← hy]; rw [lg_cmp_ge] at h_34; simp [s_rt, h_34]) (by obtain ⟨b9, e1, e2, e3⟩ := s_b_pos hx h_16; omega))
    exact z_cast rfl rfl rfl rfl rfl (L14 (_ + 1) 17 _ _ (by omega) (by rfl) (by rfl) (Nat.lt_succ_self _))
  · refine z_iconst (v := 0) (pc' := 7) C dX5_rootUp_6 rfl rfl ?_
    exact z_iret (E := E) rfl dX5_rootUp_7 ⟨(congrArg (fun z => some (Value.int z)) (show _ = _ from (by first | rfl | (rw [lg_cmp_gt] at h_3; simp [s_ru, h_3])))), rfl, rfl, rfl⟩
end
