/-! THE WORLD: all cells of the class and of the reference, by number. 0..6 objects (their class's number), 7 + a: int and boolean rows (a = 0 .. 41), 49..52: rows of rows, 53 + r: long rows (r = 0 .. 32) -/
abbrev Gv : Type := va_G × (Nat → Nat) × (Nat → ClassId)
abbrev Sc : Type := Nat → Int32
abbrev Ia : Type := Nat → Nat → Int32
abbrev La : Type := Nat → Nat → Int64
def q_ln (a : Nat) : Nat := if a < 8 then 32 else if a < 9 then 5 else if a < 10 then 18 else if a < 19 then 9 else if a < 29 then 5 else if a < 36 then 32 else if a < 38 then 5 else if a < 39 then 81 else if a < 41 then 25 else 18
def q_tz (a : Nat) : Nat := if a < 6 then 0 else if a < 8 then 2 else if a < 32 then 0 else if a < 34 then 2 else if a < 39 then 0 else if a < 40 then 2 else 0
def q_ob (ad : Nat → Nat) (sc : Sc) (k : Nat) : List Value := match k with
  | 0 => [.int (sc 6), .ref (ad 16)]
  | 1 => [.ref (ad 49), .ref (ad 15), .int (sc 1), .int (sc 2)]
  | 2 => [.int (sc 0), .ref (ad 7), .ref (ad 8), .ref (ad 9), .ref (ad 10), .ref (ad 11), .ref (ad 12), .ref (ad 13), .ref (ad 14)]
  | 3 => [.int (sc 5), .ref (ad 51), .ref (ad 52)]
  | 4 => [.int (sc 3), .int (sc 4), .ref (ad 50)]
  | 5 => [.ref (ad 2), .ref (ad 1), .ref (ad 4), .ref (ad 3), .ref (ad 0)]
  | _ => [.int (sc 7), .ref (ad 36), .ref (ad 37), .ref (ad 38), .ref (ad 39), .ref (ad 40), .ref (ad 41), .ref (ad 42), .ref (ad 85), .int (sc 8), .ref (ad 43), .int (sc 9), .ref (ad 44), .int (sc 10), .int (sc 11), .ref (ad 45), .int (sc 12), .ref (ad 46), .ref (ad 47), .int (sc 13), .int (sc 14), .int (sc 15), .int (sc 16), .int (sc 17), .ref (ad 48)]
def q_ol (k : Nat) : Nat := if k < 50 then 32 else if k < 51 then 9 else 5
def q_os (k : Nat) : Nat := if k < 50 then 53 else if k < 51 then 17 else if k < 52 then 26 else 31
def q_ot (k : Nat) : Nat := if k < 50 then 4 else 3
def q_ll (r : Nat) : Nat := if r < 32 then 6 else 192
def q_val (G : Gv) (sc : Sc) (ia : Ia) (la : La) (k : Nat) : va_E := if k < 7 then .inr (k, q_ob G.2.1 sc k) else if k < 49 then .inl (G.2.2 (q_tz (k - 7)), q_ln (k - 7), .inl (ia (k - 7))) else if k < 53 then .inl (G.2.2 (q_ot k), q_ol k, .inr (.inr (.inr (.inr (fun i => if i < q_ol k then some (G.2.1 (q_os k + i)) else none))))) else .inl (G.2.2 1, q_ll (k - 53), .inr (.inl (la (k - 53))))
def q_W (G : Gv) (sc : Sc) (ia : Ia) (la : La) : va_W := (List.range 86).map (fun k => (G.2.1 k, q_val G sc ia la k))
def qInj (ad : Nat → Nat) : Prop := ∀ i j, i < 86 → j < 86 → ad i = ad j → i = j
def qA (ad : Nat → Nat) : Nat → Prop := fun q => ∃ k, k < 86 ∧ q = ad k
abbrev q_T (G : Gv) : List (ClassId × FieldType) := [(G.2.2 0, .int), (G.2.2 1, .long), (G.2.2 2, .boolean), (G.2.2 3, .array .int), (G.2.2 4, .array .long)]
def q_Nl : List (String × Nat × MethodName) := [(RX0, 25, yX5_fold), (RX1, 57, yX5_passes), (RX1, 68, yX5_signOf), (RX2, 46, yX5_signOf), (RX2, 70, yX5_passes), (RX2, 88, yX5_fold), (RX2, 92, yX5_foldIfKnown), (RX3, 45, yX5_fold), (RX3, 49, yX5_foldIfKnown), (RX4, 33, yX5_fold)]
def qN (U : State) : Prop := ∀ x ∈ q_Nl, va_Nw (.methodLinkNest x.1 x.2.1 x.2.2 RX5) U
def InW (G : Gv) (sc : Sc) (ia : Ia) (la : La) (U : State) : Prop := va_P G.1 vwCl (q_W G sc ia la) U.heap ∧ va_K G.1 vwCl (q_T G) U ∧ qInj G.2.1 ∧ qN U
theorem q_at {G : Gv} {sc : Sc} {ia : Ia} {la : La} {k : Nat} (hk : k < 86) : (q_W G sc ia la)[k]? = some (G.2.1 k, q_val G sc ia la k) := by
  unfold q_W
  rw [List.getElem?_map, List.getElem?_range hk]
  rfl
theorem q_atE {G : Gv} {sc : Sc} {ia : Ia} {la : La} {k : Nat} {e : va_E} (hk : k < 86) (he : q_val G sc ia la k = e) : (q_W G sc ia la)[k]? = some (G.2.1 k, e) := by
  rw [q_at hk, he]
theorem q_D {G : Gv} {sc : Sc} {ia : Ia} {la : La} (h : qInj G.2.1) : va_D (qA G.2.1) (q_W G sc ia la) := by
  have key : ∀ (i : Nat) (x : Nat × va_E), (q_W G sc ia la)[i]? = some x → i < 86 ∧ x.1 = G.2.1 i := by
    intro i x hx
    by_cases hi : i < 86
    · rw [q_at hi] at hx
      cases hx
      exact ⟨hi, rfl⟩
    · have : (q_W G sc ia la)[i]? = none := List.getElem?_eq_none (by simp [q_W]; omega)
      rw [this] at hx
      cases hx
  refine ⟨fun i j x y hx hy hxy => ?_, fun k x hx => ?_⟩
  · obtain ⟨a1, a2⟩ := key i x hx
    obtain ⟨b1, b2⟩ := key j y hy
    exact h i j a1 b1 (by rw [← a2, ← b2]; exact hxy)
  · obtain ⟨a1, a2⟩ := key k x hx
    exact ⟨k, a1, a2⟩
theorem q_set {G : Gv} {sc sc' : Sc} {ia ia' : Ia} {la la' : La} {k : Nat} {e : va_E} (hk : k < 86) (h : va_up (q_val G sc ia la) k e = q_val G sc' ia' la') : (q_W G sc ia la).set k (G.2.1 k, e) = q_W G sc' ia' la' := by
  apply List.ext_getElem?
  intro i
  unfold q_W
  rw [List.getElem?_set, List.getElem?_map, List.getElem?_map]
  by_cases hi : k = i
  · subst hi
    rw [if_pos rfl, List.getElem?_range hk, if_pos (by simpa using hk), ← h]
    simp [va_up]
  · rw [if_neg hi, ← h]
    cases hr : (List.range 86)[i]? with
    | none => rfl
    | some j =>
      have hj : j = i := by
        obtain ⟨h1, h2⟩ := List.getElem?_eq_some_iff.mp hr
        rw [← h2, List.getElem_range]
      subst hj
      simp [va_up, Ne.symm hi]
theorem q_upI {G : Gv} {sc : Sc} {ia : Ia} {la : La} (a : Nat) (ha : a < 42) (f : Nat → Int32) : va_up (q_val G sc ia la) (7 + a) (.inl (G.2.2 (q_tz a), q_ln a, .inl f)) = q_val G sc (va_up ia a f) la := by
  funext k
  unfold va_up q_val
  by_cases hk : k = 7 + a
  · subst hk
    rw [if_pos rfl, if_neg (by omega), if_pos (by omega), show 7 + a - 7 = a by omega]
    simp
  · rw [if_neg hk]
    by_cases h1 : k < 7
    · rw [if_pos h1, if_pos h1]
    · by_cases h2 : k < 49
      · rw [if_neg h1, if_neg h1, if_pos h2, if_pos h2]
        have h9 : ¬ k - 7 = a := by omega
        simp [h9]
      · rw [if_neg h1, if_neg h1, if_neg h2, if_neg h2]
theorem q_upL {G : Gv} {sc : Sc} {ia : Ia} {la : La} (r : Nat) (hr : r < 33) (f : Nat → Int64) : va_up (q_val G sc ia la) (53 + r) (.inl (G.2.2 1, q_ll r, .inr (.inl f))) = q_val G sc ia (va_up la r f) := by
  funext k
  unfold va_up q_val
  by_cases hk : k = 53 + r
  · subst hk
    rw [if_pos rfl, if_neg (by omega), if_neg (by omega), if_neg (by omega), show 53 + r - 53 = r by omega]
    simp
  · rw [if_neg hk]
    by_cases h1 : k < 7
    · rw [if_pos h1, if_pos h1]
    · by_cases h2 : k < 49
      · rw [if_neg h1, if_neg h1, if_pos h2, if_pos h2]
      · by_cases h3 : k < 53
        · rw [if_neg h1, if_neg h1, if_neg h2, if_neg h2, if_pos h3, if_pos h3]
        · rw [if_neg h1, if_neg h1, if_neg h2, if_neg h2, if_neg h3, if_neg h3]
          have h9 : ¬ k - 53 = r := by omega
          simp [h9]
theorem q_upS {G : Gv} {sc : Sc} {ia : Ia} {la : La} (q j i : Nat) (hq : q < 7) (v : Int32) (h1 : (q_ob G.2.1 sc q).set j (.int v) = q_ob G.2.1 (va_up sc i v) q) (h2 : ∀ k, k < 7 → k ≠ q → q_ob G.2.1 sc k = q_ob G.2.1 (va_up sc i v) k) : va_up (q_val G sc ia la) q (.inr (q, (q_ob G.2.1 sc q).set j (.int v))) = q_val G (va_up sc i v) ia la := by
  funext k
  unfold va_up q_val
  by_cases hk : k = q
  · subst hk
    rw [if_pos rfl, if_pos hq, h1]
    rfl
  · rw [if_neg hk]
    by_cases h7 : k < 7
    · rw [if_pos h7, if_pos h7, h2 k h7 hk]
      rfl
    · rw [if_neg h7, if_neg h7]
theorem q_vI {G : Gv} {sc : Sc} {ia : Ia} {la : La} (a : Nat) (ha : a < 42) : q_val G sc ia la (7 + a) = .inl (G.2.2 (q_tz a), q_ln a, .inl (ia a)) := by
  unfold q_val
  rw [if_neg (by omega), if_pos (by omega), show 7 + a - 7 = a by omega]
theorem q_vL {G : Gv} {sc : Sc} {ia : Ia} {la : La} (r : Nat) (hr : r < 33) : q_val G sc ia la (53 + r) = .inl (G.2.2 1, q_ll r, .inr (.inl (la r))) := by
  unfold q_val
  rw [if_neg (by omega), if_neg (by omega), if_neg (by omega), show 53 + r - 53 = r by omega]
def bI (b : Bool) : Int32 := if b then 1 else 0
theorem bI_t : bI true = 1 := rfl
theorem bI_f : bI false = 0 := rfl
theorem bI_eq0 (b : Bool) : bI b = 0 ↔ b = false := by cases b <;> decide
theorem bI_nar (b : Bool) : narrow .boolean (.int (bI b)) = .int (bI b) := by cases b <;> rfl
theorem bI_vnar (b : Bool) : vp_nar .boolean (bI b) = bI b := by cases b <;> rfl
/-! THE JUDGEMENT -/
abbrev ZT : Type := Sc → Ia → La → List (Nat × Value) → Nat → List Value → Prop
def qJ (p : Program) (l : Launch) (e : Env) (R : Room) (s : State) (m : MethodId) (args : Array Value) (below : List Frame) (meth : Method) (c : Code) (ce so : Nat) (Q : State → Prop) (G : Gv) (nL : Nat) : ZT := fun sc ia la lv pc st => ∀ (H : Heap) (locs : List Loc) (ls : Array Slot), va_P G.1 vwCl (q_W G sc ia la) H → va_S (qA G.2.1) s.heap H locs → lv_has ls nL lv → W p l e R s m args below meth c H locs ce so Q (F0 m pc ls st)
def CC (Z : ZT) (cc : ByteArray) (Ts : List Cond) (own : String) (G : Gv) (nL : Nat) (R : Room) (l : Launch) : Prop := ∃ (p : Program) (e : Env) (s : State) (m : MethodId) (args : Array Value) (below : List Frame) (meth : Method) (c : Code) (ce so : Nat) (Q : State → Prop), Z = qJ p l e R s m args below meth c ce so Q G nL ∧ p.tables.exec = Jvm.exec ∧ c.code = cc ∧ c.maxLocals = nL ∧ s.vm.findClass own = some m.cls ∧ (∀ w ∈ Ts, w.before args s = true) ∧ va_K G.1 vwCl (q_T G) s ∧ qInj G.2.1 ∧ qN s ∧ ce ≤ R.cells ∧ so ≤ R.slots
abbrev FinT : Type := Option Value → Sc → Ia → La → Prop
def fI (E : Int32) (sc : Sc) (ia : Ia) (la : La) : FinT := fun v a b c => v = some (.int E) ∧ a = sc ∧ b = ia ∧ c = la
def fL (E : Int64) (sc : Sc) (ia : Ia) (la : La) : FinT := fun v a b c => v = some (.long E) ∧ a = sc ∧ b = ia ∧ c = la
def fV (sc : Sc) (ia : Ia) (la : La) : FinT := fun v a b c => v = none ∧ a = sc ∧ b = ia ∧ c = la
def q_Q (G : Gv) (Fn : FinT) : Array Value → State → Outcome → State → Prop := fun _ st oc t => (∃ (v : Option Value) (sc : Sc) (ia : Ia) (la : La), oc = .returned v ∧ Fn v sc ia la ∧ InW G sc ia la t) ∧ va_F (qA G.2.1) st t
def Ct (l : Launch) (y : MethodName) (ws : List Cond) (rm : Room) (G : Gv) (av : List Value) (sc : Sc) (ia : Ia) (la : La) (Fn : FinT) : Prop := Met l y ws rm (va_Pc av (InW G sc ia la)) (q_Q G Fn) 0 0 (qA G.2.1)
/-- how a walk ends -/
def CE (Z : ZT) (cc : ByteArray) (Fn : FinT) (ret : Option FieldType) : Prop := (∀ (ty : FieldType) (sc : Sc) (ia : Ia) (la : La) (lv : List (Nat × Value)) (pc : Nat) (v : Int32), ret = some ty → decode cc pc = .ok (.ireturn, 1) → narrow ty (.int v) = .int v → Fn (some (.int v)) sc ia la → Z sc ia la lv pc [.int v]) ∧ (∀ (sc : Sc) (ia : Ia) (la : La) (lv : List (Nat × Value)) (pc : Nat) (v : Int64), ret = some .long → decode cc pc = .ok (.lreturn, 1) → Fn (some (.long v)) sc ia la → Z sc ia la lv pc [.long v]) ∧ (∀ (sc : Sc) (ia : Ia) (la : La) (lv : List (Nat × Value)) (pc : Nat), ret = none → decode cc pc = .ok (.return_, 1) → Fn none sc ia la → Z sc ia la lv pc [])
theorem InW.moved {G : Gv} {sc : Sc} {ia : Ia} {la : La} {s U : State} {H : Heap} (hK : va_K G.1 vwCl (q_T G) s) (hJ : qInj G.2.1) (hN : qN s) (hP : va_P G.1 vwCl (q_W G sc ia la) H) (hU : U.heap = H) (hW : s.WarmedH U.vm) : InW G sc ia la U := ⟨by rw [hU]; exact hP, va_K.moved hW.alike hK, hJ, fun x hx => va_Nw.warmM hW (hN x hx)⟩
theorem z_of {l : Launch} {y : MethodName} {ws ws' : List Cond} {rm : Room} {G : Gv} {av : List Value} {sc : Sc} {ia : Ia} {la : La} {Fn : FinT} {cc : ByteArray} {maxL : Nat} {ret : Option FieldType} {own : String} (lv : List (Nat × Value)) (hw : ws = Cond.code y cc maxL ret :: ws') (hy : plainName y.cls = true) (ho : y.cls = own) (hlen : (lg_sl av).length ≤ maxL) (hlv : lv_args 0 av = lv) (body : ∀ Z : ZT, CC Z cc ws own G maxL rm l → CE Z cc Fn ret → Z sc ia la lv 0 []) : Ct l y ws rm G av sc ia la Fn := by
  subst hlv
  subst ho
  refine Met.ofW (cc := cc) (maxL := maxL) (ret := ret) hy hw ?_
  intro p e s m args below meth c s₁ B hml hv
  obtain ⟨rfl, hP, hK, hJ, hN⟩ := hv
  have hx := B.exec
  have hb := B.bytes
  have hr := B.returns
  have hts := atoms_spec (ws := ws) B.pre
  have hown : s.vm.findClass y.cls = some m.cls := findClass_of_methodNamed B.named
  have hlocks := B.notSynchronized
  rw [lg_entry_eq]
  refine body (qJ p l e rm s m av.toArray below meth c 0 0 (MQ below (q_Q G Fn) av.toArray s 0 0 (qA G.2.1)) G maxL) ⟨p, e, s, m, _, below, meth, c, 0, 0, _, rfl, hx, hb, hml, hown, hts, hK, hJ, hN, Nat.zero_le _, Nat.zero_le _⟩ ⟨?_, ?_, ?_⟩ s.heap [] _ hP va_S.rf (lv_entry av hlen)
  · intro ty sc ia la lv pc v hret hdg hn hF H locs ls hP hS hl
    exact W.zret (v := v) (ty := ty) hx hb (by rw [hr]; exact hret) hn (fun t ht hW => ⟨⟨_, sc, ia, la, rfl, hF, InW.moved hK hJ hN hP ht hW⟩, hS.F ht⟩) hS.2.2 hdg
  · intro sc ia la lv pc v hret hdg hF H locs ls hP hS hl
    exact W.lret (v := v) hx hb (by rw [hr]; exact hret) (fun t ht hW => ⟨⟨_, sc, ia, la, rfl, hF, InW.moved hK hJ hN hP ht hW⟩, hS.F ht⟩) hS.2.2 hdg
  · intro sc ia la lv pc hret hdg hF H locs ls hP hS hl
    exact W.vret hx hb (by rw [hr]; exact hret) (fun t ht hW => ⟨⟨_, sc, ia, la, rfl, hF, InW.moved hK hJ hN hP ht hW⟩, hS.F ht⟩) hS.2.2 hdg
section ZR
variable {Z : ZT} {cc : ByteArray} {Ts : List Cond} {own : String} {G : Gv} {nL : Nat} {R : Room} {l : Launch} {sc sc' : Sc} {ia ia' : Ia} {la la' : La} {lv lv' : List (Nat × Value)} {pc pc' : Nat} {st st' : List Value} {Fn : FinT} {ret : Option FieldType}
theorem z_cast (e1 : sc = sc') (e2 : ia = ia') (e3 : la = la') (e4 : lv = lv') (e5 : st = st') (k : Z sc' ia' la' lv' pc st') : Z sc ia la lv pc st := by
  subst e1; subst e2; subst e3; subst e4; subst e5; exact k
theorem z_iret {E : CE Z cc Fn ret} {v : Int32} (hret : ret = some .int) (hd : decode cc pc = .ok (.ireturn, 1)) (hF : Fn (some (.int v)) sc ia la) : Z sc ia la lv pc [.int v] := E.1 .int sc ia la lv pc v hret hd rfl hF
theorem z_zret {E : CE Z cc Fn ret} {v : Int32} (hret : ret = some .boolean) (hd : decode cc pc = .ok (.ireturn, 1)) (hn : narrow .boolean (.int v) = .int v) (hF : Fn (some (.int v)) sc ia la) : Z sc ia la lv pc [.int v] := E.1 .boolean sc ia la lv pc v hret hd hn hF
theorem z_lret {E : CE Z cc Fn ret} {v : Int64} (hret : ret = some .long) (hd : decode cc pc = .ok (.lreturn, 1)) (hF : Fn (some (.long v)) sc ia la) : Z sc ia la lv pc [.long v] := E.2.1 sc ia la lv pc v hret hd hF
theorem z_vret {E : CE Z cc Fn ret} (hret : ret = none) (hd : decode cc pc = .ok (.return_, 1)) (hF : Fn none sc ia la) : Z sc ia la lv pc [] := E.2.2 sc ia la lv pc hret hd hF
theorem z_iconst (C : CC Z cc Ts own G nL R l) {n : Int} {v : Int32} (hd : decode cc pc = .ok (.iconst n, 1)) (hv : Int32.ofInt n = v) (hp : pc + 1 = pc') (k : Z sc ia la lv pc' (.int v :: st)) : Z sc ia la lv pc (st) := by
  subst hp
  obtain ⟨p, e, s, m, args, below, meth, c, ce, so, Q, rfl, hx, hb, hml, hown, hts, hK, hJ, hNs, hce, hso⟩ := C
  exact fun H locs ls hP hS hl => lv_iconst hx hb hd hv (k H locs ls hP hS hl)
theorem z_bipush (C : CC Z cc Ts own G nL R l) {n : Int} {v : Int32} (hd : decode cc pc = .ok (.bipush n, 2)) (hv : (Int8.ofInt n).toInt32 = v) (hp : pc + 2 = pc') (k : Z sc ia la lv pc' (.int v :: st)) : Z sc ia la lv pc (st) := by
  subst hp
  obtain ⟨p, e, s, m, args, below, meth, c, ce, so, Q, rfl, hx, hb, hml, hown, hts, hK, hJ, hNs, hce, hso⟩ := C
  exact fun H locs ls hP hS hl => lv_bipush hx hb hd hv (k H locs ls hP hS hl)
theorem z_sipush (C : CC Z cc Ts own G nL R l) {n : Int} {v : Int32} (hd : decode cc pc = .ok (.sipush n, 3)) (hv : (Int16.ofInt n).toInt32 = v) (hp : pc + 3 = pc') (k : Z sc ia la lv pc' (.int v :: st)) : Z sc ia la lv pc (st) := by
  subst hp
  obtain ⟨p, e, s, m, args, below, meth, c, ce, so, Q, rfl, hx, hb, hml, hown, hts, hK, hJ, hNs, hce, hso⟩ := C
  exact fun H locs ls hP hS hl => lv_sipush hx hb hd hv (k H locs ls hP hS hl)
theorem z_lconst (C : CC Z cc Ts own G nL R l) {n : Fin 2} {v : Int64} (hd : decode cc pc = .ok (.lconst n, 1)) (hv : Int64.ofNat (n : Nat) = v) (hp : pc + 1 = pc') (k : Z sc ia la lv pc' (.long v :: st)) : Z sc ia la lv pc (st) := by
  subst hp
  obtain ⟨p, e, s, m, args, below, meth, c, ce, so, Q, rfl, hx, hb, hml, hown, hts, hK, hJ, hNs, hce, hso⟩ := C
  exact fun H locs ls hP hS hl => lv_lconst hx hb hd hv (k H locs ls hP hS hl)
theorem z_ldc (C : CC Z cc Ts own G nL R l) {index : Nat} {v : Int32} (hc : Cond.constant own index v ∈ Ts) (hd : decode cc pc = .ok (.ldc index, 2)) (hp : pc + 2 = pc') (k : Z sc ia la lv pc' (.int v :: st)) : Z sc ia la lv pc (st) := by
  subst hp
  obtain ⟨p, e, s, m, args, below, meth, c, ce, so, Q, rfl, hx, hb, hml, hown, hts, hK, hJ, hNs, hce, hso⟩ := C
  exact fun H locs ls hP hS hl => lv_ldc hx hb hown (hts _ hc) hd (k H locs ls hP hS hl)
theorem z_ldcw (C : CC Z cc Ts own G nL R l) {index : Nat} {v : Int32} (hc : Cond.constant own index v ∈ Ts) (hd : decode cc pc = .ok (.ldc_w index, 3)) (hp : pc + 3 = pc') (k : Z sc ia la lv pc' (.int v :: st)) : Z sc ia la lv pc (st) := by
  subst hp
  obtain ⟨p, e, s, m, args, below, meth, c, ce, so, Q, rfl, hx, hb, hml, hown, hts, hK, hJ, hNs, hce, hso⟩ := C
  exact fun H locs ls hP hS hl => lv_ldcw hx hb hown (hts _ hc) hd (k H locs ls hP hS hl)
theorem z_ldc2 (C : CC Z cc Ts own G nL R l) {index : Nat} {v : Int64} (hc : Cond.constantLong own index v ∈ Ts) (hd : decode cc pc = .ok (.ldc2_w index, 3)) (hp : pc + 3 = pc') (k : Z sc ia la lv pc' (.long v :: st)) : Z sc ia la lv pc (st) := by
  subst hp
  obtain ⟨p, e, s, m, args, below, meth, c, ce, so, Q, rfl, hx, hb, hml, hown, hts, hK, hJ, hNs, hce, hso⟩ := C
  exact fun H locs ls hP hS hl => lv_ldc2 hx hb hown (hts _ hc) hd (k H locs ls hP hS hl)
theorem z_iload_n (C : CC Z cc Ts own G nL R l) {k9 : Fin 4} {i : Nat} {x : Int32} (hd : decode cc pc = .ok (.iload_n k9, 1)) (hi : (k9 : Nat) = i) (q : Nat) (hq : lv[q]? = some (i, .int x)) (hp : pc + 1 = pc') (k : Z sc ia la lv pc' (.int x :: st)) : Z sc ia la lv pc (st) := by
  subst hp
  obtain ⟨p, e, s, m, args, below, meth, c, ce, so, Q, rfl, hx, hb, hml, hown, hts, hK, hJ, hNs, hce, hso⟩ := C
  exact fun H locs ls hP hS hl => lv_iload_n hx hb hd hi (lv_at hl q hq) (k H locs ls hP hS hl)
theorem z_iload (C : CC Z cc Ts own G nL R l) {i : Nat} {x : Int32} (hd : decode cc pc = .ok (.iload i, 2)) (q : Nat) (hq : lv[q]? = some (i, .int x)) (hp : pc + 2 = pc') (k : Z sc ia la lv pc' (.int x :: st)) : Z sc ia la lv pc (st) := by
  subst hp
  obtain ⟨p, e, s, m, args, below, meth, c, ce, so, Q, rfl, hx, hb, hml, hown, hts, hK, hJ, hNs, hce, hso⟩ := C
  exact fun H locs ls hP hS hl => lv_iload hx hb hd (lv_at hl q hq) (k H locs ls hP hS hl)
theorem z_lload_n (C : CC Z cc Ts own G nL R l) {k9 : Fin 4} {i : Nat} {x : Int64} (hd : decode cc pc = .ok (.lload_n k9, 1)) (hi : (k9 : Nat) = i) (q : Nat) (hq : lv[q]? = some (i, .long x)) (hp : pc + 1 = pc') (k : Z sc ia la lv pc' (.long x :: st)) : Z sc ia la lv pc (st) := by
  subst hp
  obtain ⟨p, e, s, m, args, below, meth, c, ce, so, Q, rfl, hx, hb, hml, hown, hts, hK, hJ, hNs, hce, hso⟩ := C
  exact fun H locs ls hP hS hl => lv_lload_n hx hb hd hi (lv_at hl q hq) (k H locs ls hP hS hl)
theorem z_lload (C : CC Z cc Ts own G nL R l) {i : Nat} {x : Int64} (hd : decode cc pc = .ok (.lload i, 2)) (q : Nat) (hq : lv[q]? = some (i, .long x)) (hp : pc + 2 = pc') (k : Z sc ia la lv pc' (.long x :: st)) : Z sc ia la lv pc (st) := by
  subst hp
  obtain ⟨p, e, s, m, args, below, meth, c, ce, so, Q, rfl, hx, hb, hml, hown, hts, hK, hJ, hNs, hce, hso⟩ := C
  exact fun H locs ls hP hS hl => lv_lload hx hb hd (lv_at hl q hq) (k H locs ls hP hS hl)
theorem z_aload_n (C : CC Z cc Ts own G nL R l) {k9 : Fin 4} {i : Nat} {x : Nat} (hd : decode cc pc = .ok (.aload_n k9, 1)) (hi : (k9 : Nat) = i) (q : Nat) (hq : lv[q]? = some (i, .ref x)) (hp : pc + 1 = pc') (k : Z sc ia la lv pc' (.ref x :: st)) : Z sc ia la lv pc (st) := by
  subst hp
  obtain ⟨p, e, s, m, args, below, meth, c, ce, so, Q, rfl, hx, hb, hml, hown, hts, hK, hJ, hNs, hce, hso⟩ := C
  exact fun H locs ls hP hS hl => lv_aload_n hx hb hd hi (lv_at hl q hq) (k H locs ls hP hS hl)
theorem z_istore_n (C : CC Z cc Ts own G nL R l) {k9 : Fin 4} {i : Nat} {x : Int32} (hd : decode cc pc = .ok (.istore_n k9, 1)) (hi : (k9 : Nat) = i) (hn : i < nL) (hl : (i, Value.int x) :: lv.filter (fun q => !(q.1 == i) && !(q.1 + 1 == i && q.2.category == 2)) = lv') (hp : pc + 1 = pc') (k : Z sc ia la lv' pc' (st)) : Z sc ia la lv pc (.int x :: st) := by
  subst hp
  obtain ⟨p, e, s, m, args, below, meth, c, ce, so, Q, rfl, hx, hb, hml, hown, hts, hK, hJ, hNs, hce, hso⟩ := C
  exact fun H locs ls hP hS hl => lv_istore_n hx hb hd hi hl hn (by assumption) (fun ls hl => k H locs ls hP hS hl)
theorem z_istore (C : CC Z cc Ts own G nL R l) {i : Nat} {x : Int32} (hd : decode cc pc = .ok (.istore i, 2)) (hn : i < nL) (hl : (i, Value.int x) :: lv.filter (fun q => !(q.1 == i) && !(q.1 + 1 == i && q.2.category == 2)) = lv') (hp : pc + 2 = pc') (k : Z sc ia la lv' pc' (st)) : Z sc ia la lv pc (.int x :: st) := by
  subst hp
  obtain ⟨p, e, s, m, args, below, meth, c, ce, so, Q, rfl, hx, hb, hml, hown, hts, hK, hJ, hNs, hce, hso⟩ := C
  exact fun H locs ls hP hS hl => lv_istore hx hb hd hl hn (by assumption) (fun ls hl => k H locs ls hP hS hl)
theorem z_lstore_n (C : CC Z cc Ts own G nL R l) {k9 : Fin 4} {i : Nat} {x : Int64} (hd : decode cc pc = .ok (.lstore_n k9, 1)) (hi : (k9 : Nat) = i) (hn : i + 1 < nL) (hl : (i, Value.long x) :: lv.filter (fun q => !(q.1 == i) && (!(q.1 == i + 1) && !(q.1 + 1 == i && q.2.category == 2))) = lv') (hp : pc + 1 = pc') (k : Z sc ia la lv' pc' (st)) : Z sc ia la lv pc (.long x :: st) := by
  subst hp
  obtain ⟨p, e, s, m, args, below, meth, c, ce, so, Q, rfl, hx, hb, hml, hown, hts, hK, hJ, hNs, hce, hso⟩ := C
  exact fun H locs ls hP hS hl => lv_lstore_n hx hb hd hi hl hn (by assumption) (fun ls hl => k H locs ls hP hS hl)
theorem z_lstore (C : CC Z cc Ts own G nL R l) {i : Nat} {x : Int64} (hd : decode cc pc = .ok (.lstore i, 2)) (hn : i + 1 < nL) (hl : (i, Value.long x) :: lv.filter (fun q => !(q.1 == i) && (!(q.1 == i + 1) && !(q.1 + 1 == i && q.2.category == 2))) = lv') (hp : pc + 2 = pc') (k : Z sc ia la lv' pc' (st)) : Z sc ia la lv pc (.long x :: st) := by
  subst hp
  obtain ⟨p, e, s, m, args, below, meth, c, ce, so, Q, rfl, hx, hb, hml, hown, hts, hK, hJ, hNs, hce, hso⟩ := C
  exact fun H locs ls hP hS hl => lv_lstore hx hb hd hl hn (by assumption) (fun ls hl => k H locs ls hP hS hl)
theorem z_astore_n (C : CC Z cc Ts own G nL R l) {k9 : Fin 4} {i : Nat} {x : Nat} (hd : decode cc pc = .ok (.astore_n k9, 1)) (hi : (k9 : Nat) = i) (hn : i < nL) (hl : (i, Value.ref x) :: lv.filter (fun q => !(q.1 == i) && !(q.1 + 1 == i && q.2.category == 2)) = lv') (hp : pc + 1 = pc') (k : Z sc ia la lv' pc' (st)) : Z sc ia la lv pc (.ref x :: st) := by
  subst hp
  obtain ⟨p, e, s, m, args, below, meth, c, ce, so, Q, rfl, hx, hb, hml, hown, hts, hK, hJ, hNs, hce, hso⟩ := C
  exact fun H locs ls hP hS hl => lv_astore_n hx hb hd hi hl hn (by assumption) (fun ls hl => k H locs ls hP hS hl)
theorem z_iinc (C : CC Z cc Ts own G nL R l) {i k9 : Nat} {n : Int} {x v : Int32} (hd : decode cc pc = .ok (.iinc i n, 3)) (hk : lv[k9]? = some (i, .int x)) (hv : x + Int32.ofInt n = v) (hn : i < nL) (hl : (i, Value.int v) :: lv.filter (fun q => !(q.1 == i) && !(q.1 + 1 == i && q.2.category == 2)) = lv') (hp : pc + 3 = pc') (k : Z sc ia la lv' pc' (st)) : Z sc ia la lv pc (st) := by
  subst hp
  obtain ⟨p, e, s, m, args, below, meth, c, ce, so, Q, rfl, hx, hb, hml, hown, hts, hK, hJ, hNs, hce, hso⟩ := C
  exact fun H locs ls hP hS hl => lv_iinc hx hb hd hl hk hv hn (by assumption) (fun ls hl => k H locs ls hP hS hl)
theorem z_iadd (C : CC Z cc Ts own G nL R l) {x y : Int32} (hd : decode cc pc = .ok (.iadd, 1)) (hp : pc + 1 = pc') (k : Z sc ia la lv pc' (.int (x + y) :: st)) : Z sc ia la lv pc (.int y :: .int x :: st) := by
  subst hp
  obtain ⟨p, e, s, m, args, below, meth, c, ce, so, Q, rfl, hx, hb, hml, hown, hts, hK, hJ, hNs, hce, hso⟩ := C
  exact fun H locs ls hP hS hl => lv_iadd hx hb hd (k H locs ls hP hS hl)
theorem z_isub (C : CC Z cc Ts own G nL R l) {x y : Int32} (hd : decode cc pc = .ok (.isub, 1)) (hp : pc + 1 = pc') (k : Z sc ia la lv pc' (.int (x - y) :: st)) : Z sc ia la lv pc (.int y :: .int x :: st) := by
  subst hp
  obtain ⟨p, e, s, m, args, below, meth, c, ce, so, Q, rfl, hx, hb, hml, hown, hts, hK, hJ, hNs, hce, hso⟩ := C
  exact fun H locs ls hP hS hl => lv_isub hx hb hd (k H locs ls hP hS hl)
theorem z_imul (C : CC Z cc Ts own G nL R l) {x y : Int32} (hd : decode cc pc = .ok (.imul, 1)) (hp : pc + 1 = pc') (k : Z sc ia la lv pc' (.int (x * y) :: st)) : Z sc ia la lv pc (.int y :: .int x :: st) := by
  subst hp
  obtain ⟨p, e, s, m, args, below, meth, c, ce, so, Q, rfl, hx, hb, hml, hown, hts, hK, hJ, hNs, hce, hso⟩ := C
  exact fun H locs ls hP hS hl => lv_imul hx hb hd (k H locs ls hP hS hl)
theorem z_idiv (C : CC Z cc Ts own G nL R l) {x y : Int32} (hd : decode cc pc = .ok (.idiv, 1)) (hne : ¬ y = 0) (hp : pc + 1 = pc') (k : Z sc ia la lv pc' (.int (x / y) :: st)) : Z sc ia la lv pc (.int y :: .int x :: st) := by
  subst hp
  obtain ⟨p, e, s, m, args, below, meth, c, ce, so, Q, rfl, hx, hb, hml, hown, hts, hK, hJ, hNs, hce, hso⟩ := C
  exact fun H locs ls hP hS hl => lv_idiv hx hb hd hne (k H locs ls hP hS hl)
theorem z_irem (C : CC Z cc Ts own G nL R l) {x y : Int32} (hd : decode cc pc = .ok (.irem, 1)) (hne : ¬ y = 0) (hp : pc + 1 = pc') (k : Z sc ia la lv pc' (.int (x - x / y * y) :: st)) : Z sc ia la lv pc (.int y :: .int x :: st) := by
  subst hp
  obtain ⟨p, e, s, m, args, below, meth, c, ce, so, Q, rfl, hx, hb, hml, hown, hts, hK, hJ, hNs, hce, hso⟩ := C
  exact fun H locs ls hP hS hl => lv_irem hx hb hd hne (k H locs ls hP hS hl)
theorem z_ineg (C : CC Z cc Ts own G nL R l) {x : Int32} (hd : decode cc pc = .ok (.ineg, 1)) (hp : pc + 1 = pc') (k : Z sc ia la lv pc' (.int (-x) :: st)) : Z sc ia la lv pc (.int x :: st) := by
  subst hp
  obtain ⟨p, e, s, m, args, below, meth, c, ce, so, Q, rfl, hx, hb, hml, hown, hts, hK, hJ, hNs, hce, hso⟩ := C
  exact fun H locs ls hP hS hl => lv_ineg hx hb hd (k H locs ls hP hS hl)
theorem z_ladd (C : CC Z cc Ts own G nL R l) {x y : Int64} (hd : decode cc pc = .ok (.ladd, 1)) (hp : pc + 1 = pc') (k : Z sc ia la lv pc' (.long (x + y) :: st)) : Z sc ia la lv pc (.long y :: .long x :: st) := by
  subst hp
  obtain ⟨p, e, s, m, args, below, meth, c, ce, so, Q, rfl, hx, hb, hml, hown, hts, hK, hJ, hNs, hce, hso⟩ := C
  exact fun H locs ls hP hS hl => lv_ladd hx hb hd (k H locs ls hP hS hl)
theorem z_lsub (C : CC Z cc Ts own G nL R l) {x y : Int64} (hd : decode cc pc = .ok (.lsub, 1)) (hp : pc + 1 = pc') (k : Z sc ia la lv pc' (.long (x - y) :: st)) : Z sc ia la lv pc (.long y :: .long x :: st) := by
  subst hp
  obtain ⟨p, e, s, m, args, below, meth, c, ce, so, Q, rfl, hx, hb, hml, hown, hts, hK, hJ, hNs, hce, hso⟩ := C
  exact fun H locs ls hP hS hl => lv_lsub hx hb hd (k H locs ls hP hS hl)
theorem z_lmul (C : CC Z cc Ts own G nL R l) {x y : Int64} (hd : decode cc pc = .ok (.lmul, 1)) (hp : pc + 1 = pc') (k : Z sc ia la lv pc' (.long (x * y) :: st)) : Z sc ia la lv pc (.long y :: .long x :: st) := by
  subst hp
  obtain ⟨p, e, s, m, args, below, meth, c, ce, so, Q, rfl, hx, hb, hml, hown, hts, hK, hJ, hNs, hce, hso⟩ := C
  exact fun H locs ls hP hS hl => lv_lmul hx hb hd (k H locs ls hP hS hl)
theorem z_ldiv (C : CC Z cc Ts own G nL R l) {x y : Int64} (hd : decode cc pc = .ok (.ldiv, 1)) (hne : ¬ y = 0) (hp : pc + 1 = pc') (k : Z sc ia la lv pc' (.long (x / y) :: st)) : Z sc ia la lv pc (.long y :: .long x :: st) := by
  subst hp
  obtain ⟨p, e, s, m, args, below, meth, c, ce, so, Q, rfl, hx, hb, hml, hown, hts, hK, hJ, hNs, hce, hso⟩ := C
  exact fun H locs ls hP hS hl => lv_ldiv hx hb hd hne (k H locs ls hP hS hl)
theorem z_lrem (C : CC Z cc Ts own G nL R l) {x y : Int64} (hd : decode cc pc = .ok (.lrem, 1)) (hne : ¬ y = 0) (hp : pc + 1 = pc') (k : Z sc ia la lv pc' (.long (x - x / y * y) :: st)) : Z sc ia la lv pc (.long y :: .long x :: st) := by
  subst hp
  obtain ⟨p, e, s, m, args, below, meth, c, ce, so, Q, rfl, hx, hb, hml, hown, hts, hK, hJ, hNs, hce, hso⟩ := C
  exact fun H locs ls hP hS hl => lv_lrem hx hb hd hne (k H locs ls hP hS hl)
theorem z_lneg (C : CC Z cc Ts own G nL R l) {x : Int64} (hd : decode cc pc = .ok (.lneg, 1)) (hp : pc + 1 = pc') (k : Z sc ia la lv pc' (.long (-x) :: st)) : Z sc ia la lv pc (.long x :: st) := by
  subst hp
  obtain ⟨p, e, s, m, args, below, meth, c, ce, so, Q, rfl, hx, hb, hml, hown, hts, hK, hJ, hNs, hce, hso⟩ := C
  exact fun H locs ls hP hS hl => lv_lneg hx hb hd (k H locs ls hP hS hl)
theorem z_iand (C : CC Z cc Ts own G nL R l) {x y : Int32} (hd : decode cc pc = .ok (.iand, 1)) (hp : pc + 1 = pc') (k : Z sc ia la lv pc' (.int (x &&& y) :: st)) : Z sc ia la lv pc (.int y :: .int x :: st) := by
  subst hp
  obtain ⟨p, e, s, m, args, below, meth, c, ce, so, Q, rfl, hx, hb, hml, hown, hts, hK, hJ, hNs, hce, hso⟩ := C
  exact fun H locs ls hP hS hl => lv_iand hx hb hd (k H locs ls hP hS hl)
theorem z_ixor (C : CC Z cc Ts own G nL R l) {x y : Int32} (hd : decode cc pc = .ok (.ixor, 1)) (hp : pc + 1 = pc') (k : Z sc ia la lv pc' (.int (x ^^^ y) :: st)) : Z sc ia la lv pc (.int y :: .int x :: st) := by
  subst hp
  obtain ⟨p, e, s, m, args, below, meth, c, ce, so, Q, rfl, hx, hb, hml, hown, hts, hK, hJ, hNs, hce, hso⟩ := C
  exact fun H locs ls hP hS hl => lv_ixor hx hb hd (k H locs ls hP hS hl)
theorem z_ishl (C : CC Z cc Ts own G nL R l) {x y : Int32} (hd : decode cc pc = .ok (.ishl, 1)) (hp : pc + 1 = pc') (k : Z sc ia la lv pc' (.int (x <<< (y &&& 31)) :: st)) : Z sc ia la lv pc (.int y :: .int x :: st) := by
  subst hp
  obtain ⟨p, e, s, m, args, below, meth, c, ce, so, Q, rfl, hx, hb, hml, hown, hts, hK, hJ, hNs, hce, hso⟩ := C
  exact fun H locs ls hP hS hl => lv_ishl hx hb hd (k H locs ls hP hS hl)
theorem z_iushr (C : CC Z cc Ts own G nL R l) {x y : Int32} (hd : decode cc pc = .ok (.iushr, 1)) (hp : pc + 1 = pc') (k : Z sc ia la lv pc' (.int ((x.toUInt32 >>> (y.toUInt32 &&& Int32.toUInt32 31)).toInt32) :: st)) : Z sc ia la lv pc (.int y :: .int x :: st) := by
  subst hp
  obtain ⟨p, e, s, m, args, below, meth, c, ce, so, Q, rfl, hx, hb, hml, hown, hts, hK, hJ, hNs, hce, hso⟩ := C
  exact fun H locs ls hP hS hl => lv_iushr hx hb hd rfl (k H locs ls hP hS hl)
theorem z_lshl (C : CC Z cc Ts own G nL R l) {x : Int64} {y : Int32} (hd : decode cc pc = .ok (.lshl, 1)) (hp : pc + 1 = pc') (k : Z sc ia la lv pc' (.long (x <<< (y.toInt64 &&& 63)) :: st)) : Z sc ia la lv pc (.int y :: .long x :: st) := by
  subst hp
  obtain ⟨p, e, s, m, args, below, meth, c, ce, so, Q, rfl, hx, hb, hml, hown, hts, hK, hJ, hNs, hce, hso⟩ := C
  exact fun H locs ls hP hS hl => lv_lshl hx hb hd rfl (k H locs ls hP hS hl)
theorem z_i2l (C : CC Z cc Ts own G nL R l) {x : Int32} (hd : decode cc pc = .ok (.i2l, 1)) (hp : pc + 1 = pc') (k : Z sc ia la lv pc' (.long x.toInt64 :: st)) : Z sc ia la lv pc (.int x :: st) := by
  subst hp
  obtain ⟨p, e, s, m, args, below, meth, c, ce, so, Q, rfl, hx, hb, hml, hown, hts, hK, hJ, hNs, hce, hso⟩ := C
  exact fun H locs ls hP hS hl => lv_i2l hx hb hd rfl (k H locs ls hP hS hl)
theorem z_l2i (C : CC Z cc Ts own G nL R l) {x : Int64} (hd : decode cc pc = .ok (.l2i, 1)) (hp : pc + 1 = pc') (k : Z sc ia la lv pc' (.int x.toInt32 :: st)) : Z sc ia la lv pc (.long x :: st) := by
  subst hp
  obtain ⟨p, e, s, m, args, below, meth, c, ce, so, Q, rfl, hx, hb, hml, hown, hts, hK, hJ, hNs, hce, hso⟩ := C
  exact fun H locs ls hP hS hl => lv_l2i hx hb hd rfl (k H locs ls hP hS hl)
theorem z_lcmp (C : CC Z cc Ts own G nL R l) {x y : Int64} (hd : decode cc pc = .ok (.lcmp, 1)) (hp : pc + 1 = pc') (k : Z sc ia la lv pc' (.int (lg_cmp x y) :: st)) : Z sc ia la lv pc (.long y :: .long x :: st) := by
  subst hp
  obtain ⟨p, e, s, m, args, below, meth, c, ce, so, Q, rfl, hx, hb, hml, hown, hts, hK, hJ, hNs, hce, hso⟩ := C
  exact fun H locs ls hP hS hl => W.lcmp hx hb hd (k H locs ls hP hS hl)
theorem z_dup (C : CC Z cc Ts own G nL R l) {va : Value} (hd : decode cc pc = .ok (.dup, 1)) (hva : va.category = 1) (hp : pc + 1 = pc') (k : Z sc ia la lv pc' (va :: va :: st)) : Z sc ia la lv pc (va :: st) := by
  subst hp
  obtain ⟨p, e, s, m, args, below, meth, c, ce, so, Q, rfl, hx, hb, hml, hown, hts, hK, hJ, hNs, hce, hso⟩ := C
  exact fun H locs ls hP hS hl => lv_dup hx hb hd hva (k H locs ls hP hS hl)
theorem z_dup2 (C : CC Z cc Ts own G nL R l) {va vb : Value} (hd : decode cc pc = .ok (.dup2, 1)) (hva : va.category = 1) (hvb : vb.category = 1) (hp : pc + 1 = pc') (k : Z sc ia la lv pc' (va :: vb :: va :: vb :: st)) : Z sc ia la lv pc (va :: vb :: st) := by
  subst hp
  obtain ⟨p, e, s, m, args, below, meth, c, ce, so, Q, rfl, hx, hb, hml, hown, hts, hK, hJ, hNs, hce, hso⟩ := C
  exact fun H locs ls hP hS hl => lv_dup2_11 hx hb hd hva hvb (k H locs ls hP hS hl)
theorem z_sub (C : CC Z cc Ts own G nL R l) (ks : List Nat) (hl9 : lv_pick lv ks = lv') (k : Z sc ia la lv' pc st) : Z sc ia la lv pc st := by
  obtain ⟨p, e, s, m, args, below, meth, c, ce, so, Q, rfl, hx, hb, hml, hown, hts, hK, hJ, hNs, hce, hso⟩ := C
  exact fun H locs ls hP hS hl => k H locs ls hP hS (lv_sub hl ks hl9)
theorem z_goto (C : CC Z cc Ts own G nL R l) {off : Int} (hd : decode cc pc = .ok (.goto off, 3)) (ht : (pc : Int) + off = (pc' : Int)) (k : Z sc ia la lv pc' st) : Z sc ia la lv pc st := by
  obtain ⟨p, e, s, m, args, below, meth, c, ce, so, Q, rfl, hx, hb, hml, hown, hts, hK, hJ, hNs, hce, hso⟩ := C
  exact fun H locs ls hP hS hl => lv_goto hx hb hd ht (k H locs ls hP hS hl)
theorem z_if_eq (C : CC Z cc Ts own G nL R l) {x : Int32} {off : Int} (tgt : Nat) (hd : decode cc pc = .ok (.ifCond .eq off, 3)) (ht : (pc : Int) + off = (tgt : Int)) (hp : pc + 3 = pc') (kt : x = 0 → Z sc ia la lv tgt st) (kf : ¬ x = 0 → Z sc ia la lv pc' st) : Z sc ia la lv pc (.int x :: st) := by
  subst hp
  obtain ⟨p, e, s, m, args, below, meth, c, ce, so, Q, rfl, hx, hb, hml, hown, hts, hK, hJ, hNs, hce, hso⟩ := C
  exact fun H locs ls hP hS hl => lv_if_eq hx hb hd ht (fun h => kt h H locs ls hP hS hl) (fun h => kf h H locs ls hP hS hl)
theorem z_icmp_eq (C : CC Z cc Ts own G nL R l) {x y : Int32} {off : Int} (tgt : Nat) (hd : decode cc pc = .ok (.if_icmp .eq off, 3)) (ht : (pc : Int) + off = (tgt : Int)) (hp : pc + 3 = pc') (kt : x = y → Z sc ia la lv tgt st) (kf : ¬ x = y → Z sc ia la lv pc' st) : Z sc ia la lv pc (.int y :: .int x :: st) := by
  subst hp
  obtain ⟨p, e, s, m, args, below, meth, c, ce, so, Q, rfl, hx, hb, hml, hown, hts, hK, hJ, hNs, hce, hso⟩ := C
  exact fun H locs ls hP hS hl => lv_icmp_eq hx hb hd ht (fun h => kt h H locs ls hP hS hl) (fun h => kf h H locs ls hP hS hl)
theorem z_if_ne (C : CC Z cc Ts own G nL R l) {x : Int32} {off : Int} (tgt : Nat) (hd : decode cc pc = .ok (.ifCond .ne off, 3)) (ht : (pc : Int) + off = (tgt : Int)) (hp : pc + 3 = pc') (kt : ¬ x = 0 → Z sc ia la lv tgt st) (kf : x = 0 → Z sc ia la lv pc' st) : Z sc ia la lv pc (.int x :: st) := by
  subst hp
  obtain ⟨p, e, s, m, args, below, meth, c, ce, so, Q, rfl, hx, hb, hml, hown, hts, hK, hJ, hNs, hce, hso⟩ := C
  exact fun H locs ls hP hS hl => lv_if_ne hx hb hd ht (fun h => kt h H locs ls hP hS hl) (fun h => kf h H locs ls hP hS hl)
theorem z_icmp_ne (C : CC Z cc Ts own G nL R l) {x y : Int32} {off : Int} (tgt : Nat) (hd : decode cc pc = .ok (.if_icmp .ne off, 3)) (ht : (pc : Int) + off = (tgt : Int)) (hp : pc + 3 = pc') (kt : ¬ x = y → Z sc ia la lv tgt st) (kf : x = y → Z sc ia la lv pc' st) : Z sc ia la lv pc (.int y :: .int x :: st) := by
  subst hp
  obtain ⟨p, e, s, m, args, below, meth, c, ce, so, Q, rfl, hx, hb, hml, hown, hts, hK, hJ, hNs, hce, hso⟩ := C
  exact fun H locs ls hP hS hl => lv_icmp_ne hx hb hd ht (fun h => kt h H locs ls hP hS hl) (fun h => kf h H locs ls hP hS hl)
theorem z_if_lt (C : CC Z cc Ts own G nL R l) {x : Int32} {off : Int} (tgt : Nat) (hd : decode cc pc = .ok (.ifCond .lt off, 3)) (ht : (pc : Int) + off = (tgt : Int)) (hp : pc + 3 = pc') (kt : x < 0 → Z sc ia la lv tgt st) (kf : ¬ x < 0 → Z sc ia la lv pc' st) : Z sc ia la lv pc (.int x :: st) := by
  subst hp
  obtain ⟨p, e, s, m, args, below, meth, c, ce, so, Q, rfl, hx, hb, hml, hown, hts, hK, hJ, hNs, hce, hso⟩ := C
  exact fun H locs ls hP hS hl => lv_if_lt hx hb hd ht (fun h => kt h H locs ls hP hS hl) (fun h => kf h H locs ls hP hS hl)
theorem z_icmp_lt (C : CC Z cc Ts own G nL R l) {x y : Int32} {off : Int} (tgt : Nat) (hd : decode cc pc = .ok (.if_icmp .lt off, 3)) (ht : (pc : Int) + off = (tgt : Int)) (hp : pc + 3 = pc') (kt : x < y → Z sc ia la lv tgt st) (kf : ¬ x < y → Z sc ia la lv pc' st) : Z sc ia la lv pc (.int y :: .int x :: st) := by
  subst hp
  obtain ⟨p, e, s, m, args, below, meth, c, ce, so, Q, rfl, hx, hb, hml, hown, hts, hK, hJ, hNs, hce, hso⟩ := C
  exact fun H locs ls hP hS hl => lv_icmp_lt hx hb hd ht (fun h => kt h H locs ls hP hS hl) (fun h => kf h H locs ls hP hS hl)
theorem z_if_ge (C : CC Z cc Ts own G nL R l) {x : Int32} {off : Int} (tgt : Nat) (hd : decode cc pc = .ok (.ifCond .ge off, 3)) (ht : (pc : Int) + off = (tgt : Int)) (hp : pc + 3 = pc') (kt : 0 ≤ x → Z sc ia la lv tgt st) (kf : ¬ 0 ≤ x → Z sc ia la lv pc' st) : Z sc ia la lv pc (.int x :: st) := by
  subst hp
  obtain ⟨p, e, s, m, args, below, meth, c, ce, so, Q, rfl, hx, hb, hml, hown, hts, hK, hJ, hNs, hce, hso⟩ := C
  exact fun H locs ls hP hS hl => lv_if_ge hx hb hd ht (fun h => kt h H locs ls hP hS hl) (fun h => kf h H locs ls hP hS hl)
theorem z_icmp_ge (C : CC Z cc Ts own G nL R l) {x y : Int32} {off : Int} (tgt : Nat) (hd : decode cc pc = .ok (.if_icmp .ge off, 3)) (ht : (pc : Int) + off = (tgt : Int)) (hp : pc + 3 = pc') (kt : y ≤ x → Z sc ia la lv tgt st) (kf : ¬ y ≤ x → Z sc ia la lv pc' st) : Z sc ia la lv pc (.int y :: .int x :: st) := by
  subst hp
  obtain ⟨p, e, s, m, args, below, meth, c, ce, so, Q, rfl, hx, hb, hml, hown, hts, hK, hJ, hNs, hce, hso⟩ := C
  exact fun H locs ls hP hS hl => lv_icmp_ge hx hb hd ht (fun h => kt h H locs ls hP hS hl) (fun h => kf h H locs ls hP hS hl)
theorem z_if_gt (C : CC Z cc Ts own G nL R l) {x : Int32} {off : Int} (tgt : Nat) (hd : decode cc pc = .ok (.ifCond .gt off, 3)) (ht : (pc : Int) + off = (tgt : Int)) (hp : pc + 3 = pc') (kt : 0 < x → Z sc ia la lv tgt st) (kf : ¬ 0 < x → Z sc ia la lv pc' st) : Z sc ia la lv pc (.int x :: st) := by
  subst hp
  obtain ⟨p, e, s, m, args, below, meth, c, ce, so, Q, rfl, hx, hb, hml, hown, hts, hK, hJ, hNs, hce, hso⟩ := C
  exact fun H locs ls hP hS hl => lv_if_gt hx hb hd ht (fun h => kt h H locs ls hP hS hl) (fun h => kf h H locs ls hP hS hl)
theorem z_icmp_gt (C : CC Z cc Ts own G nL R l) {x y : Int32} {off : Int} (tgt : Nat) (hd : decode cc pc = .ok (.if_icmp .gt off, 3)) (ht : (pc : Int) + off = (tgt : Int)) (hp : pc + 3 = pc') (kt : y < x → Z sc ia la lv tgt st) (kf : ¬ y < x → Z sc ia la lv pc' st) : Z sc ia la lv pc (.int y :: .int x :: st) := by
  subst hp
  obtain ⟨p, e, s, m, args, below, meth, c, ce, so, Q, rfl, hx, hb, hml, hown, hts, hK, hJ, hNs, hce, hso⟩ := C
  exact fun H locs ls hP hS hl => lv_icmp_gt hx hb hd ht (fun h => kt h H locs ls hP hS hl) (fun h => kf h H locs ls hP hS hl)
theorem z_if_le (C : CC Z cc Ts own G nL R l) {x : Int32} {off : Int} (tgt : Nat) (hd : decode cc pc = .ok (.ifCond .le off, 3)) (ht : (pc : Int) + off = (tgt : Int)) (hp : pc + 3 = pc') (kt : x ≤ 0 → Z sc ia la lv tgt st) (kf : ¬ x ≤ 0 → Z sc ia la lv pc' st) : Z sc ia la lv pc (.int x :: st) := by
  subst hp
  obtain ⟨p, e, s, m, args, below, meth, c, ce, so, Q, rfl, hx, hb, hml, hown, hts, hK, hJ, hNs, hce, hso⟩ := C
  exact fun H locs ls hP hS hl => lv_if_le hx hb hd ht (fun h => kt h H locs ls hP hS hl) (fun h => kf h H locs ls hP hS hl)
theorem z_icmp_le (C : CC Z cc Ts own G nL R l) {x y : Int32} {off : Int} (tgt : Nat) (hd : decode cc pc = .ok (.if_icmp .le off, 3)) (ht : (pc : Int) + off = (tgt : Int)) (hp : pc + 3 = pc') (kt : x ≤ y → Z sc ia la lv tgt st) (kf : ¬ x ≤ y → Z sc ia la lv pc' st) : Z sc ia la lv pc (.int y :: .int x :: st) := by
  subst hp
  obtain ⟨p, e, s, m, args, below, meth, c, ce, so, Q, rfl, hx, hb, hml, hown, hts, hK, hJ, hNs, hce, hso⟩ := C
  exact fun H locs ls hP hS hl => lv_icmp_le hx hb hd ht (fun h => kt h H locs ls hP hS hl) (fun h => kf h H locs ls hP hS hl)
theorem z_icmpN_ge (C : CC Z cc Ts own G nL R l) {a b : Nat} {off : Int} (tgt : Nat) (ha9 : a < 2 ^ 31) (hb9 : b < 2 ^ 31) (hd : decode cc pc = .ok (.if_icmp .ge off, 3)) (ht : (pc : Int) + off = (tgt : Int)) (hp : pc + 3 = pc') (kt : b ≤ a → Z sc ia la lv tgt st) (kf : a < b → Z sc ia la lv pc' st) : Z sc ia la lv pc (.int (nI b) :: .int (nI a) :: st) := z_icmp_ge C tgt hd ht hp (fun h => kt ((nI_leI hb9 ha9).mp h)) (fun h => kf (Nat.not_le.mp (fun q => h ((nI_leI hb9 ha9).mpr q))))
theorem z_icmpN_lt (C : CC Z cc Ts own G nL R l) {a b : Nat} {off : Int} (tgt : Nat) (ha9 : a < 2 ^ 31) (hb9 : b < 2 ^ 31) (hd : decode cc pc = .ok (.if_icmp .lt off, 3)) (ht : (pc : Int) + off = (tgt : Int)) (hp : pc + 3 = pc') (kt : a < b → Z sc ia la lv tgt st) (kf : b ≤ a → Z sc ia la lv pc' st) : Z sc ia la lv pc (.int (nI b) :: .int (nI a) :: st) := z_icmp_lt C tgt hd ht hp (fun h => kt ((nI_ltI ha9 hb9).mp h)) (fun h => kf (Nat.not_lt.mp (fun q => h ((nI_ltI ha9 hb9).mpr q))))
theorem z_icmpN_gt (C : CC Z cc Ts own G nL R l) {a b : Nat} {off : Int} (tgt : Nat) (ha9 : a < 2 ^ 31) (hb9 : b < 2 ^ 31) (hd : decode cc pc = .ok (.if_icmp .gt off, 3)) (ht : (pc : Int) + off = (tgt : Int)) (hp : pc + 3 = pc') (kt : b < a → Z sc ia la lv tgt st) (kf : a ≤ b → Z sc ia la lv pc' st) : Z sc ia la lv pc (.int (nI b) :: .int (nI a) :: st) := z_icmp_gt C tgt hd ht hp (fun h => kt ((nI_ltI hb9 ha9).mp h)) (fun h => kf (Nat.not_lt.mp (fun q => h ((nI_ltI hb9 ha9).mpr q))))
theorem z_icmpN_le (C : CC Z cc Ts own G nL R l) {a b : Nat} {off : Int} (tgt : Nat) (ha9 : a < 2 ^ 31) (hb9 : b < 2 ^ 31) (hd : decode cc pc = .ok (.if_icmp .le off, 3)) (ht : (pc : Int) + off = (tgt : Int)) (hp : pc + 3 = pc') (kt : a ≤ b → Z sc ia la lv tgt st) (kf : b < a → Z sc ia la lv pc' st) : Z sc ia la lv pc (.int (nI b) :: .int (nI a) :: st) := z_icmp_le C tgt hd ht hp (fun h => kt ((nI_leI ha9 hb9).mp h)) (fun h => kf (Nat.not_le.mp (fun q => h ((nI_leI ha9 hb9).mpr q))))
theorem z_icmpN_eq (C : CC Z cc Ts own G nL R l) {a b : Nat} {off : Int} (tgt : Nat) (ha9 : a < 2 ^ 31) (hb9 : b < 2 ^ 31) (hd : decode cc pc = .ok (.if_icmp .eq off, 3)) (ht : (pc : Int) + off = (tgt : Int)) (hp : pc + 3 = pc') (kt : a = b → Z sc ia la lv tgt st) (kf : ¬ a = b → Z sc ia la lv pc' st) : Z sc ia la lv pc (.int (nI b) :: .int (nI a) :: st) := z_icmp_eq C tgt hd ht hp (fun h => kt ((nI_eq ha9 hb9).mp h)) (fun h => kf (fun q => h ((nI_eq ha9 hb9).mpr q)))
theorem z_icmpN_ne (C : CC Z cc Ts own G nL R l) {a b : Nat} {off : Int} (tgt : Nat) (ha9 : a < 2 ^ 31) (hb9 : b < 2 ^ 31) (hd : decode cc pc = .ok (.if_icmp .ne off, 3)) (ht : (pc : Int) + off = (tgt : Int)) (hp : pc + 3 = pc') (kt : ¬ a = b → Z sc ia la lv tgt st) (kf : a = b → Z sc ia la lv pc' st) : Z sc ia la lv pc (.int (nI b) :: .int (nI a) :: st) := z_icmp_ne C tgt hd ht hp (fun h => kt (fun q => h ((nI_eq ha9 hb9).mpr q))) (fun h => kf ((nI_eq ha9 hb9).mp h))
theorem z_ifB_eq (C : CC Z cc Ts own G nL R l) {b : Bool} {off : Int} (tgt : Nat) (hd : decode cc pc = .ok (.ifCond .eq off, 3)) (ht : (pc : Int) + off = (tgt : Int)) (hp : pc + 3 = pc') (kt : b = false → Z sc ia la lv tgt st) (kf : b = true → Z sc ia la lv pc' st) : Z sc ia la lv pc (.int (bI b) :: st) := z_if_eq C tgt hd ht hp (fun h => kt ((bI_eq0 b).mp h)) (fun h => kf (by cases b with | true => rfl | false => exact absurd rfl h))
theorem z_ifB_ne (C : CC Z cc Ts own G nL R l) {b : Bool} {off : Int} (tgt : Nat) (hd : decode cc pc = .ok (.ifCond .ne off, 3)) (ht : (pc : Int) + off = (tgt : Int)) (hp : pc + 3 = pc') (kt : b = true → Z sc ia la lv tgt st) (kf : b = false → Z sc ia la lv pc' st) : Z sc ia la lv pc (.int (bI b) :: st) := z_if_ne C tgt hd ht hp (fun h => kt (by cases b with | true => rfl | false => exact absurd rfl h)) (fun h => kf ((bI_eq0 b).mp h))
theorem z_tableIn (C : CC Z cc Ts own G nL R l) {dflt lo hi : Int} {offs : Array Int} {len : Nat} {x : Int32} {off : Int} (tgt : Nat) (hd : decode cc pc = .ok (.tableswitch dflt lo hi offs, len)) (h1 : ¬ x.toInt < lo) (h2 : ¬ hi < x.toInt) (ho : offs[(x.toInt - lo).toNat]? = some off) (ht : (pc : Int) + off = (tgt : Int)) (k : Z sc ia la lv tgt st) : Z sc ia la lv pc (.int x :: st) := by
  obtain ⟨p, e, s, m, args, below, meth, c, ce, so, Q, rfl, hx, hb, hml, hown, hts, hK, hJ, hNs, hce, hso⟩ := C
  exact fun H locs ls hP hS hl => lv_tableIn hx hb hd h1 h2 ho ht (k H locs ls hP hS hl)
theorem z_tableOut (C : CC Z cc Ts own G nL R l) {dflt lo hi : Int} {offs : Array Int} {len : Nat} {x : Int32} (tgt : Nat) (hd : decode cc pc = .ok (.tableswitch dflt lo hi offs, len)) (h : x.toInt < lo ∨ hi < x.toInt) (ht : (pc : Int) + dflt = (tgt : Int)) (k : Z sc ia la lv tgt st) : Z sc ia la lv pc (.int x :: st) := by
  obtain ⟨p, e, s, m, args, below, meth, c, ce, so, Q, rfl, hx, hb, hml, hown, hts, hK, hJ, hNs, hce, hso⟩ := C
  exact fun H locs ls hP hS hl => lv_tableOut hx hb hd h ht (k H locs ls hP hS hl)
theorem z_get (C : CC Z cc Ts own G nL R l) {C9 : String} {T : u_T} {N ci index : Nat} (hin : ∀ w ∈ u_ws C9 T N, w ∈ Ts) (q : Nat) (hq : q < 86) {fs : List Value} (he : q_val G sc ia la q = .inr (ci, fs)) (hc : vwCl[ci]? = some (C9, T, N)) (j : Nat) (hj : j < N) (hlink : Cond.fieldLink own index (T j).1 (T j).2.1 (T j).2.2.1 ∈ Ts) {v : Value} (hv : fs[j]? = some v) (hd : decode cc pc = .ok (.getfield index, 3)) (hp : pc + 3 = pc') (k : Z sc ia la lv pc' (v :: st)) : Z sc ia la lv pc (.ref (G.2.1 q) :: st) := by
  subst hp
  obtain ⟨p, e, s, m, args, below, meth, c, ce, so, Q, rfl, hx, hb, hml, hown, hts, hK, hJ, hNs, hce, hso⟩ := C
  exact fun H locs ls hP hS hl => va_get (ref := (T j).1) hx hb hts hin hown hK hP q (q_atE hq he) hc j hj (hts _ hlink) (fun _ h9 => h9) hv hd (k H locs ls hP hS hl)
theorem z_put (C : CC Z cc Ts own G nL R l) {C9 : String} {T : u_T} {N ci index : Nat} (hin : ∀ w ∈ u_ws C9 T N, w ∈ Ts) (ty0 : Nat → FieldType) (hty : ∀ k, k < N → parseFieldDescriptor (T k).2.2.1 = some (ty0 k)) (hnm : ∀ a, a < N → ∀ b, b < N → a ≠ b → (T a).2.1 ≠ (T b).2.1) (q : Nat) (hq : q < 86) {fs : List Value} (he : q_val G sc ia la q = .inr (ci, fs)) (hc : vwCl[ci]? = some (C9, T, N)) (j : Nat) (hj : j < N) (hlink : Cond.fieldLink own index (T j).1 (T j).2.1 (T j).2.2.1 ∈ Ts) (hfin : (T j).2.2.2 = false) {v : Int32} (hdt : parseFieldDescriptor (T j).2.2.1 = some .int) (hlen : j < fs.length) (hu : va_up (q_val G sc ia la) q (.inr (ci, fs.set j (.int v))) = q_val G sc' ia' la') (hd : decode cc pc = .ok (.putfield index, 3)) (hp : pc + 3 = pc') (k : Z sc' ia' la' lv pc' st) : Z sc ia la lv pc (.int v :: .ref (G.2.1 q) :: st) := by
  subst hp
  obtain ⟨p, e, s, m, args, below, meth, c, ce, so, Q, rfl, hx, hb, hml, hown, hts, hK, hJ, hNs, hce, hso⟩ := C
  exact fun H locs ls hP hS hl => va_put (ref := (T j).1) hx hb hts hin ty0 hty hnm hown hK hP (q_D hJ) hS q (q_atE hq he) hc j hj (hts _ hlink) (fun _ h9 => h9) hfin hdt rfl rfl hlen hd (fun H1 locs1 hP1 _ hS1 => k H1 locs1 ls (by rw [q_set hq hu] at hP1; exact hP1) hS1 hl)
theorem z_iald (C : CC Z cc Ts own G nL R l) (q : Nat) (hq : q < 86) {N i : Nat} {f : Nat → Int32} (he : q_val G sc ia la q = .inl (G.2.2 0, N, .inl f)) (hi : i < N) (hN : N < 2 ^ 31) (hd : decode cc pc = .ok (.iaload, 1)) (hp : pc + 1 = pc') (k : Z sc ia la lv pc' (.int (f i) :: st)) : Z sc ia la lv pc (.int (nI i) :: .ref (G.2.1 q) :: st) := by
  subst hp
  obtain ⟨p, e, s, m, args, below, meth, c, ce, so, Q, rfl, hx, hb, hml, hown, hts, hK, hJ, hNs, hce, hso⟩ := C
  refine fun H locs ls hP hS hl => va_iald hx hb hK hP q 0 (q_atE hq he) rfl (vp_in_nI hi hN) hd ?_
  rw [nI_clamp (Nat.lt_trans hi hN)]
  exact k H locs ls hP hS hl
theorem z_zald (C : CC Z cc Ts own G nL R l) (q : Nat) (hq : q < 86) {N i : Nat} {f : Nat → Int32} (he : q_val G sc ia la q = .inl (G.2.2 2, N, .inl f)) (hi : i < N) (hN : N < 2 ^ 31) (hd : decode cc pc = .ok (.baload, 1)) (hp : pc + 1 = pc') (k : Z sc ia la lv pc' (.int (f i) :: st)) : Z sc ia la lv pc (.int (nI i) :: .ref (G.2.1 q) :: st) := by
  subst hp
  obtain ⟨p, e, s, m, args, below, meth, c, ce, so, Q, rfl, hx, hb, hml, hown, hts, hK, hJ, hNs, hce, hso⟩ := C
  refine fun H locs ls hP hS hl => va_zald hx hb hK hP q 2 (q_atE hq he) rfl (vp_in_nI hi hN) hd ?_
  rw [nI_clamp (Nat.lt_trans hi hN)]
  exact k H locs ls hP hS hl
theorem z_lald (C : CC Z cc Ts own G nL R l) (q : Nat) (hq : q < 86) {N i : Nat} {f : Nat → Int64} (he : q_val G sc ia la q = .inl (G.2.2 1, N, .inr (.inl f))) (hi : i < N) (hN : N < 2 ^ 31) (hd : decode cc pc = .ok (.laload, 1)) (hp : pc + 1 = pc') (k : Z sc ia la lv pc' (.long (f i) :: st)) : Z sc ia la lv pc (.int (nI i) :: .ref (G.2.1 q) :: st) := by
  subst hp
  obtain ⟨p, e, s, m, args, below, meth, c, ce, so, Q, rfl, hx, hb, hml, hown, hts, hK, hJ, hNs, hce, hso⟩ := C
  refine fun H locs ls hP hS hl => va_lald hx hb hK hP q 1 (q_atE hq he) rfl (vp_in_nI hi hN) hd ?_
  rw [nI_clamp (Nat.lt_trans hi hN)]
  exact k H locs ls hP hS hl
theorem z_aald (C : CC Z cc Ts own G nL R l) (q : Nat) (hq : q < 86) {N i t0 : Nat} {ty : FieldType} {f : Nat → Option Nat} (hT : (q_T G)[t0]? = some (G.2.2 t0, .array ty)) (he : q_val G sc ia la q = .inl (G.2.2 t0, N, .inr (.inr (.inr (.inr f))))) (hi : i < N) (hN : N < 2 ^ 31) {a : Nat} (hf : f i = some a) (hd : decode cc pc = .ok (.aaload, 1)) (hp : pc + 1 = pc') (k : Z sc ia la lv pc' (.ref a :: st)) : Z sc ia la lv pc (.int (nI i) :: .ref (G.2.1 q) :: st) := by
  subst hp
  obtain ⟨p, e, s, m, args, below, meth, c, ce, so, Q, rfl, hx, hb, hml, hown, hts, hK, hJ, hNs, hce, hso⟩ := C
  have hin : vp_in (nI i) N := vp_in_nI hi hN
  have hc : (nI i).toNatClampNeg = i := nI_clamp (Nat.lt_trans hi hN)
  refine fun H locs ls hP hS hl => W.aald (v := .ref a) (ty := .array ty) hx hb (hP q _ (q_atE hq he)) ((hK.2 t0 _ hT).1 N (fun j => va_rf (f j))) rfl (fun q => by cases q) (by show ¬ (nI i < 0 ∨ (arrV _ _ _).slots.size ≤ _); rw [arrV_size]; exact hin) (by show (arrV _ _ _).slots[_]? = _; rw [hc, arrV_read _ _ hi]; rw [hf]; rfl) rfl rfl hd (k H locs ls hP hS hl)
theorem z_iast (C : CC Z cc Ts own G nL R l) (q : Nat) (hq : q < 86) {N i : Nat} {f : Nat → Int32} {x : Int32} (he : q_val G sc ia la q = .inl (G.2.2 0, N, .inl f)) (hi : i < N) (hN : N < 2 ^ 31) (hu : va_up (q_val G sc ia la) q (.inl (G.2.2 0, N, .inl (upd f i x))) = q_val G sc' ia' la') (hd : decode cc pc = .ok (.iastore, 1)) (hp : pc + 1 = pc') (k : Z sc' ia' la' lv pc' st) : Z sc ia la lv pc (.int x :: .int (nI i) :: .ref (G.2.1 q) :: st) := by
  subst hp
  obtain ⟨p, e, s, m, args, below, meth, c, ce, so, Q, rfl, hx, hb, hml, hown, hts, hK, hJ, hNs, hce, hso⟩ := C
  refine fun H locs ls hP hS hl => va_iast hx hb hK hP (q_D hJ) hS q 0 (q_atE hq he) rfl (vp_in_nI hi hN) hd (fun H1 locs1 hP1 _ hS1 => ?_)
  rw [nI_clamp (Nat.lt_trans hi hN), q_set hq hu] at hP1
  exact k H1 locs1 ls hP1 hS1 hl
theorem z_zast (C : CC Z cc Ts own G nL R l) (q : Nat) (hq : q < 86) {N i : Nat} {f : Nat → Int32} {x : Int32} (hx9 : vp_nar .boolean x = x) (he : q_val G sc ia la q = .inl (G.2.2 2, N, .inl f)) (hi : i < N) (hN : N < 2 ^ 31) (hu : va_up (q_val G sc ia la) q (.inl (G.2.2 2, N, .inl (upd f i x))) = q_val G sc' ia' la') (hd : decode cc pc = .ok (.bastore, 1)) (hp : pc + 1 = pc') (k : Z sc' ia' la' lv pc' st) : Z sc ia la lv pc (.int x :: .int (nI i) :: .ref (G.2.1 q) :: st) := by
  subst hp
  obtain ⟨p, e, s, m, args, below, meth, c, ce, so, Q, rfl, hx, hb, hml, hown, hts, hK, hJ, hNs, hce, hso⟩ := C
  refine fun H locs ls hP hS hl => va_zast hx hb hK hP (q_D hJ) hS q 2 (q_atE hq he) rfl (vp_in_nI hi hN) hd (fun H1 locs1 hP1 _ hS1 => ?_)
  rw [nI_clamp (Nat.lt_trans hi hN), hx9, q_set hq hu] at hP1
  exact k H1 locs1 ls hP1 hS1 hl
theorem z_last (C : CC Z cc Ts own G nL R l) (q : Nat) (hq : q < 86) {N i : Nat} {f : Nat → Int64} {x : Int64} (he : q_val G sc ia la q = .inl (G.2.2 1, N, .inr (.inl f))) (hi : i < N) (hN : N < 2 ^ 31) (hu : va_up (q_val G sc ia la) q (.inl (G.2.2 1, N, .inr (.inl (vp_updL f i x)))) = q_val G sc' ia' la') (hd : decode cc pc = .ok (.lastore, 1)) (hp : pc + 1 = pc') (k : Z sc' ia' la' lv pc' st) : Z sc ia la lv pc (.long x :: .int (nI i) :: .ref (G.2.1 q) :: st) := by
  subst hp
  obtain ⟨p, e, s, m, args, below, meth, c, ce, so, Q, rfl, hx, hb, hml, hown, hts, hK, hJ, hNs, hce, hso⟩ := C
  refine fun H locs ls hP hS hl => va_last hx hb hK hP (q_D hJ) hS q 1 (q_atE hq he) rfl (vp_in_nI hi hN) hd (fun H1 locs1 hP1 _ hS1 => ?_)
  rw [nI_clamp (Nat.lt_trans hi hN), q_set hq hu] at hP1
  exact k H1 locs1 ls hP1 hS1 hl
theorem z_alen (C : CC Z cc Ts own G nL R l) (q : Nat) (hq : q < 86) {N t0 : Nat} {ty : FieldType} {z : (Nat → Int32) ⊕ (Nat → Int64) ⊕ (Nat → UInt32) ⊕ (Nat → UInt64) ⊕ (Nat → Option Nat)} (hT : (q_T G)[t0]? = some (G.2.2 t0, ty)) (he : q_val G sc ia la q = .inl (G.2.2 t0, N, z)) (hd : decode cc pc = .ok (.arraylength, 1)) (hp : pc + 1 = pc') (k : Z sc ia la lv pc' (.int (nI N) :: st)) : Z sc ia la lv pc (.ref (G.2.1 q) :: st) := by
  subst hp
  obtain ⟨p, e, s, m, args, below, meth, c, ce, so, Q, rfl, hx, hb, hml, hown, hts, hK, hJ, hNs, hce, hso⟩ := C
  exact fun H locs ls hP hS hl => va_alen hx hb hK hP q t0 (q_atE hq he) hT rfl hd (k H locs ls hP hS hl)
theorem z_cV (C : CC Z cc Ts own G nL R l) {y : MethodName} {ws ws' : List Cond} {rm : Room} {bytes : ByteArray} {maxL index n : Nat} {rt : Option FieldType} {As rest : List Value} {Fn : FinT} {C9 : String} {T : u_T} {N ci : Nat} {fs : List Value} (q : Nat) (hM : Ct l y ws rm G (.ref (G.2.1 q) :: As) sc ia la Fn) (hg : GoodIn Ts (wsV own index C9 y ws)) (hw : ws = Cond.code y bytes maxL rt :: ws') (hrc : rm.cells = 0) (hrs : rm.slots = 0) (hyC : y.cls = C9) (hd9 : y.cls ≠ "java/lang/invoke/MethodHandle" ∧ y.cls ≠ "java/lang/invoke/VarHandle" ∧ (parseMethodDescriptor y.desc).map (fun d => d.parameters.length) = some n) (hR : rm.frames + 1 ≤ R.frames ∧ 8 + (maxL + 11) + rm.locals ≤ R.locals) (hn : As.length = n) (hq : q < 86) (he : q_val G sc ia la q = .inr (ci, fs)) (hc : vwCl[ci]? = some (C9, T, N)) (hst : st = As.reverse ++ .ref (G.2.1 q) :: rest) (hd : decode cc pc = .ok (.invokevirtual index, 3)) (hroom : (rest.map fun v => v.category).sum ≤ 8) (hp : pc + 3 = pc') (kk : ∀ (v : Option Value) (sc' : Sc) (ia' : Ia) (la' : La), Fn v sc' ia' la' → Z sc' ia' la' lv pc' (v.toList ++ rest)) : Z sc ia la lv pc st := by
  subst hp
  obtain ⟨p, e, s, m, args, below, meth, c, ce, so, Q, rfl, hx, hb, hml, hown, hts, hK, hJ, hNs, hce, hso⟩ := C
  intro H locs ls hP hS hl
  have hr := va_runV (b := G.2.1 q) (As := As) (rest := rest) (g := F0 m pc ls st) (e := e) (below := below) (meth := meth) (locs := locs) (cells := ce) (slots := so) ⟨hx, hb, hml, hown, hts⟩ hM (cwV n hts hg hw hrc hrs ⟨hyC, hd9⟩ hR) ⟨fun a U g mk q => by obtain ⟨q0, qP, qK, qJ, qN9⟩ := q; exact ⟨q0, qP, va_K.moved (u := U) (U := U.calling g mk a) (Vm.Alike.refl U.vm) qK, qJ, fun x hx => va_Nw.same (u := U) rfl rfl (qN9 x hx)⟩, va_recv hK hP hc (q_atE hq he), fun U hU hW => ⟨rfl, InW.moved hK hJ hNs hP hU hW⟩⟩ rfl hn hl.1 hst (lv_room hroom) hd ⟨hce, hso⟩
  intro T hT X
  obtain ⟨v, st₀, t, T', L, h0, X', hL, e1, e2, ⟨⟨v9, sc9, ia9, la9, hv, hF, hI⟩, hz, hkp⟩, sp⟩ := hr T hT X
  cases hv
  rw [h0] at hz hkp
  obtain ⟨t2, a1, b1⟩ := kk v sc9 ia9 la9 hF T'.heap (locs ++ L) ls (by rw [e1]; exact hI.1) ⟨Nat.le_trans hS.1 (by rw [e1]; exact hz), fun q h1 h2 => by rw [e1, hkp q (Nat.lt_of_lt_of_le h1 hS.1) h2]; exact hS.2.1 q h1 h2, fun q hq => by
      rcases List.mem_append.mp hq with h | h
      · exact hS.2.2 q h
      · exact hL q h⟩ hl T' rfl X'
  exact ⟨t2, sp t2 a1, b1⟩
theorem z_cS (C : CC Z cc Ts own G nL R l) {y : MethodName} {ws ws' : List Cond} {rm : Room} {bytes : ByteArray} {maxL index n : Nat} {rt : Option FieldType} {As rest : List Value} {Fn : FinT} (hM : Ct l y ws rm G As sc ia la Fn) (hg : GoodIn Ts (va_wsS own index y ws)) (hw : ws = Cond.code y bytes maxL rt :: ws') (hrc : rm.cells = 0) (hrs : rm.slots = 0) (hd9 : y.cls ≠ "java/lang/invoke/MethodHandle" ∧ y.cls ≠ "java/lang/invoke/VarHandle" ∧ (parseMethodDescriptor y.desc).map (fun d => d.parameters.length) = some n) (hR : rm.frames + 1 ≤ R.frames ∧ 8 + (maxL + 11) + rm.locals ≤ R.locals) (hn : As.length = n) (hst : st = As.reverse ++ rest) (hd : decode cc pc = .ok (.invokestatic index, 3)) (hroom : (rest.map fun v => v.category).sum ≤ 8) (hp : pc + 3 = pc') (kk : ∀ (v : Option Value) (sc' : Sc) (ia' : Ia) (la' : La), Fn v sc' ia' la' → Z sc' ia' la' lv pc' (v.toList ++ rest)) : Z sc ia la lv pc st := by
  subst hp
  obtain ⟨p, e, s, m, args, below, meth, c, ce, so, Q, rfl, hx, hb, hml, hown, hts, hK, hJ, hNs, hce, hso⟩ := C
  intro H locs ls hP hS hl
  have hr := va_runS (As := As) (rest := rest) (g := F0 m pc ls st) (e := e) (below := below) (meth := meth) (locs := locs) (cells := ce) (slots := so) ⟨hx, hb, hml, hown, hts⟩ hM (va_cwS n hts hg hw hrc hrs hd9 hR) ⟨fun a U g mk q => by obtain ⟨q0, qP, qK, qJ, qN9⟩ := q; exact ⟨q0, qP, va_K.moved (u := U) (U := U.calling g mk a) (Vm.Alike.refl U.vm) qK, qJ, fun x hx => va_Nw.same (u := U) rfl rfl (qN9 x hx)⟩, fun U hU hW => ⟨rfl, InW.moved hK hJ hNs hP hU hW⟩⟩ rfl hn hl.1 hst (lv_room hroom) hd ⟨hce, hso⟩
  intro T hT X
  obtain ⟨v, st₀, t, T', L, h0, X', hL, e1, e2, ⟨⟨v9, sc9, ia9, la9, hv, hF, hI⟩, hz, hkp⟩, sp⟩ := hr T hT X
  cases hv
  rw [h0] at hz hkp
  obtain ⟨t2, a1, b1⟩ := kk v sc9 ia9 la9 hF T'.heap (locs ++ L) ls (by rw [e1]; exact hI.1) ⟨Nat.le_trans hS.1 (by rw [e1]; exact hz), fun q h1 h2 => by rw [e1, hkp q (Nat.lt_of_lt_of_le h1 hS.1) h2]; exact hS.2.1 q h1 h2, fun q hq => by
      rcases List.mem_append.mp hq with h | h
      · exact hS.2.2 q h
      · exact hL q h⟩ hl T' rfl X'
  exact ⟨t2, sp t2 a1, b1⟩
theorem z_cN (C : CC Z cc Ts own G nL R l) {y : MethodName} {ws ws' : List Cond} {rm : Room} {bytes : ByteArray} {maxL index n : Nat} {rt : Option FieldType} {As rest : List Value} {Fn : FinT} (hM : Ct l y ws rm G As sc ia la Fn) (hg : GoodIn Ts ws) (hw : ws = Cond.code y bytes maxL rt :: ws') (hrc : rm.cells = 0) (hrs : rm.slots = 0) (hnl : (own, index, y) ∈ q_Nl) (hini : Cond.initialized y.cls ∈ Ts) (hstat : Cond.static y ∈ Ts) (hd9 : y.cls ≠ "java/lang/invoke/MethodHandle" ∧ y.cls ≠ "java/lang/invoke/VarHandle" ∧ (parseMethodDescriptor y.desc).map (fun d => d.parameters.length) = some n) (hR : rm.frames + 1 ≤ R.frames ∧ 8 + (maxL + 11) + rm.locals ≤ R.locals) (hn : As.length = n) (hst : st = As.reverse ++ rest) (hd : decode cc pc = .ok (.invokestatic index, 3)) (hroom : (rest.map fun v => v.category).sum ≤ 8) (hp : pc + 3 = pc') (kk : ∀ (v : Option Value) (sc' : Sc) (ia' : Ia) (la' : La), Fn v sc' ia' la' → Z sc' ia' la' lv pc' (v.toList ++ rest)) : Z sc ia la lv pc st := by
  subst hp
  obtain ⟨p, e, s, m, args, below, meth, c, ce, so, Q, rfl, hx, hb, hml, hown, hts, hK, hJ, hNs, hce, hso⟩ := C
  intro H locs ls hP hS hl
  have hr := va_runSN (As := As) (rest := rest) (g := F0 m pc ls st) (e := e) (below := below) (meth := meth) (locs := locs) (cells := ce) (slots := so) ⟨hx, hb, hml, hown, hts⟩ hM ⟨va_cnB n hts hg hw hrc hrs (hNs _ hnl) (hts _ hini) hd9 hR, hts _ hstat, trivial⟩ ⟨fun a U g mk q => by obtain ⟨q0, qP, qK, qJ, qN9⟩ := q; exact ⟨q0, qP, va_K.moved (u := U) (U := U.calling g mk a) (Vm.Alike.refl U.vm) qK, qJ, fun x hx => va_Nw.same (u := U) rfl rfl (qN9 x hx)⟩, fun U hU hW => ⟨rfl, InW.moved hK hJ hNs hP hU hW⟩⟩ rfl hn hl.1 hst (lv_room hroom) hd ⟨hce, hso⟩
  intro T hT X
  obtain ⟨v, st₀, t, T', L, h0, X', hL, e1, e2, ⟨⟨v9, sc9, ia9, la9, hv, hF, hI⟩, hz, hkp⟩, sp⟩ := hr T hT X
  cases hv
  rw [h0] at hz hkp
  obtain ⟨t2, a1, b1⟩ := kk v sc9 ia9 la9 hF T'.heap (locs ++ L) ls (by rw [e1]; exact hI.1) ⟨Nat.le_trans hS.1 (by rw [e1]; exact hz), fun q h1 h2 => by rw [e1, hkp q (Nat.lt_of_lt_of_le h1 hS.1) h2]; exact hS.2.1 q h1 h2, fun q hq => by
      rcases List.mem_append.mp hq with h | h
      · exact hS.2.2 q h
      · exact hL q h⟩ hl T' rfl X'
  exact ⟨t2, sp t2 a1, b1⟩
theorem z_mmax (C : CC Z cc Ts own G nL R l) {index : Nat} (hl1 : Cond.methodLink own index Lib.Math.max.name ∈ Ts) (hl2 : Cond.static Lib.Math.max.name ∈ Ts) (hl3 : Cond.initialized "java/lang/Math" ∈ Ts) (hl4 : Cond.code Lib.Math.max.name Lib.Math.max.code 2 (some .int) ∈ Ts) (hfr : 1 ≤ R.frames) (hlo : (st.map fun v => v.category).sum + 13 ≤ R.locals) {x y : Int32} (hd : decode cc pc = .ok (.invokestatic index, 3)) (hp : pc + 3 = pc') (k : Z sc ia la lv pc' (.int (if x < y then y else x) :: st)) : Z sc ia la lv pc (.int y :: .int x :: st) := by
  subst hp
  obtain ⟨p, e, s, m, args, below, meth, c, ce, so, Q, rfl, hx, hb, hml, hown, hts, hK, hJ, hNs, hce, hso⟩ := C
  exact fun H locs ls hP hS hl => va_mmax hx hb (hml.trans hl.1.symm) hown (hts _ hl1) (hts _ hl2) (hts _ hl3) (hts _ hl4) hfr hlo hce hso hd (k H locs ls hP hS hl)
theorem z_mmin (C : CC Z cc Ts own G nL R l) {index : Nat} (hl1 : Cond.methodLink own index Lib.Math.min.name ∈ Ts) (hl2 : Cond.static Lib.Math.min.name ∈ Ts) (hl3 : Cond.initialized "java/lang/Math" ∈ Ts) (hl4 : Cond.code Lib.Math.min.name Lib.Math.min.code 2 (some .int) ∈ Ts) (hfr : 1 ≤ R.frames) (hlo : (st.map fun v => v.category).sum + 13 ≤ R.locals) {x y : Int32} (hd : decode cc pc = .ok (.invokestatic index, 3)) (hp : pc + 3 = pc') (k : Z sc ia la lv pc' (.int (if y < x then y else x) :: st)) : Z sc ia la lv pc (.int y :: .int x :: st) := by
  subst hp
  obtain ⟨p, e, s, m, args, below, meth, c, ce, so, Q, rfl, hx, hb, hml, hown, hts, hK, hJ, hNs, hce, hso⟩ := C
  exact fun H locs ls hP hS hl => va_mmin hx hb (hml.trans hl.1.symm) hown (hts _ hl1) (hts _ hl2) (hts _ hl3) (hts _ hl4) hfr hlo hce hso hd (k H locs ls hP hS hl)
theorem z_mabs (C : CC Z cc Ts own G nL R l) {index : Nat} (hl1 : Cond.methodLink own index Lib.Math.abs.name ∈ Ts) (hl2 : Cond.static Lib.Math.abs.name ∈ Ts) (hl3 : Cond.initialized "java/lang/Math" ∈ Ts) (hl4 : Cond.code Lib.Math.abs.name Lib.Math.abs.code 1 (some .int) ∈ Ts) (hfr : 1 ≤ R.frames) (hlo : (st.map fun v => v.category).sum + 13 ≤ R.locals) {x : Int32} (hd : decode cc pc = .ok (.invokestatic index, 3)) (hp : pc + 3 = pc') (k : Z sc ia la lv pc' (.int (if 0 ≤ x then x else 0 - x) :: st)) : Z sc ia la lv pc (.int x :: st) := by
  subst hp
  obtain ⟨p, e, s, m, args, below, meth, c, ce, so, Q, rfl, hx, hb, hml, hown, hts, hK, hJ, hNs, hce, hso⟩ := C
  exact fun H locs ls hP hS hl => va_mabs hx hb (hml.trans hl.1.symm) hown (hts _ hl1) (hts _ hl2) (hts _ hl3) (hts _ hl4) hfr hlo hce hso hd (k H locs ls hP hS hl)
theorem z_mabsL (C : CC Z cc Ts own G nL R l) {index : Nat} (hl1 : Cond.methodLink own index Lib.MathLoose.abs_long.x ∈ Ts) (hl2 : Cond.static Lib.MathLoose.abs_long.x ∈ Ts) (hl3 : Cond.initialized "java/lang/Math" ∈ Ts) (hl4 : Cond.code Lib.MathLoose.abs_long.x Lib.MathLoose.abs_long.code 2 (some .long) ∈ Ts) (hfr : 1 ≤ R.frames) (hlo : (st.map fun v => v.category).sum + 13 ≤ R.locals) {x : Int64} (hd : decode cc pc = .ok (.invokestatic index, 3)) (hp : pc + 3 = pc') (k : Z sc ia la lv pc' (.long (if 0 < x then x else -x) :: st)) : Z sc ia la lv pc (.long x :: st) := by
  subst hp
  obtain ⟨p, e, s, m, args, below, meth, c, ce, so, Q, rfl, hx, hb, hml, hown, hts, hK, hJ, hNs, hce, hso⟩ := C
  exact fun H locs ls hP hS hl => va_mabs_long hx hb (hml.trans hl.1.symm) hown (hts _ hl1) (hts _ hl2) (hts _ hl3) (hts _ hl4) hfr hlo hce hso hd (k H locs ls hP hS hl)
end ZR
theorem q_o0 {G : Gv} {sc : Sc} {ia : Ia} {la : La} : q_val G sc ia la 0 = .inr (0, q_ob G.2.1 sc 0) := rfl
theorem q_o1 {G : Gv} {sc : Sc} {ia : Ia} {la : La} : q_val G sc ia la 1 = .inr (1, q_ob G.2.1 sc 1) := rfl
theorem q_o2 {G : Gv} {sc : Sc} {ia : Ia} {la : La} : q_val G sc ia la 2 = .inr (2, q_ob G.2.1 sc 2) := rfl
theorem q_o3 {G : Gv} {sc : Sc} {ia : Ia} {la : La} : q_val G sc ia la 3 = .inr (3, q_ob G.2.1 sc 3) := rfl
theorem q_o4 {G : Gv} {sc : Sc} {ia : Ia} {la : La} : q_val G sc ia la 4 = .inr (4, q_ob G.2.1 sc 4) := rfl
theorem q_o5 {G : Gv} {sc : Sc} {ia : Ia} {la : La} : q_val G sc ia la 5 = .inr (5, q_ob G.2.1 sc 5) := rfl
theorem q_o6 {G : Gv} {sc : Sc} {ia : Ia} {la : La} : q_val G sc ia la 6 = .inr (6, q_ob G.2.1 sc 6) := rfl
theorem q_i0 {G : Gv} {sc : Sc} {ia : Ia} {la : La} : q_val G sc ia la 7 = .inl (G.2.2 0, 32, .inl (ia 0)) := rfl
theorem q_u0 {G : Gv} {sc : Sc} {ia : Ia} {la : La} (f : Nat → Int32) : va_up (q_val G sc ia la) 7 (.inl (G.2.2 0, 32, .inl f)) = q_val G sc (va_up ia 0 f) la := q_upI 0 (by decide) f
theorem q_uu0 {G : Gv} {sc : Sc} {ia : Ia} {la : La} (g f : Nat → Int32) : va_up (q_val G sc (va_up ia 0 g) la) 7 (.inl (G.2.2 0, 32, .inl f)) = q_val G sc (va_up ia 0 f) la := by rw [q_u0, bx_uu]
theorem q_i1 {G : Gv} {sc : Sc} {ia : Ia} {la : La} : q_val G sc ia la 8 = .inl (G.2.2 0, 32, .inl (ia 1)) := rfl
theorem q_u1 {G : Gv} {sc : Sc} {ia : Ia} {la : La} (f : Nat → Int32) : va_up (q_val G sc ia la) 8 (.inl (G.2.2 0, 32, .inl f)) = q_val G sc (va_up ia 1 f) la := q_upI 1 (by decide) f
theorem q_uu1 {G : Gv} {sc : Sc} {ia : Ia} {la : La} (g f : Nat → Int32) : va_up (q_val G sc (va_up ia 1 g) la) 8 (.inl (G.2.2 0, 32, .inl f)) = q_val G sc (va_up ia 1 f) la := by rw [q_u1, bx_uu]
theorem q_i2 {G : Gv} {sc : Sc} {ia : Ia} {la : La} : q_val G sc ia la 9 = .inl (G.2.2 0, 32, .inl (ia 2)) := rfl
theorem q_u2 {G : Gv} {sc : Sc} {ia : Ia} {la : La} (f : Nat → Int32) : va_up (q_val G sc ia la) 9 (.inl (G.2.2 0, 32, .inl f)) = q_val G sc (va_up ia 2 f) la := q_upI 2 (by decide) f
theorem q_uu2 {G : Gv} {sc : Sc} {ia : Ia} {la : La} (g f : Nat → Int32) : va_up (q_val G sc (va_up ia 2 g) la) 9 (.inl (G.2.2 0, 32, .inl f)) = q_val G sc (va_up ia 2 f) la := by rw [q_u2, bx_uu]
theorem q_i3 {G : Gv} {sc : Sc} {ia : Ia} {la : La} : q_val G sc ia la 10 = .inl (G.2.2 0, 32, .inl (ia 3)) := rfl
theorem q_u3 {G : Gv} {sc : Sc} {ia : Ia} {la : La} (f : Nat → Int32) : va_up (q_val G sc ia la) 10 (.inl (G.2.2 0, 32, .inl f)) = q_val G sc (va_up ia 3 f) la := q_upI 3 (by decide) f
theorem q_uu3 {G : Gv} {sc : Sc} {ia : Ia} {la : La} (g f : Nat → Int32) : va_up (q_val G sc (va_up ia 3 g) la) 10 (.inl (G.2.2 0, 32, .inl f)) = q_val G sc (va_up ia 3 f) la := by rw [q_u3, bx_uu]
theorem q_i4 {G : Gv} {sc : Sc} {ia : Ia} {la : La} : q_val G sc ia la 11 = .inl (G.2.2 0, 32, .inl (ia 4)) := rfl
theorem q_u4 {G : Gv} {sc : Sc} {ia : Ia} {la : La} (f : Nat → Int32) : va_up (q_val G sc ia la) 11 (.inl (G.2.2 0, 32, .inl f)) = q_val G sc (va_up ia 4 f) la := q_upI 4 (by decide) f
theorem q_uu4 {G : Gv} {sc : Sc} {ia : Ia} {la : La} (g f : Nat → Int32) : va_up (q_val G sc (va_up ia 4 g) la) 11 (.inl (G.2.2 0, 32, .inl f)) = q_val G sc (va_up ia 4 f) la := by rw [q_u4, bx_uu]
theorem q_i5 {G : Gv} {sc : Sc} {ia : Ia} {la : La} : q_val G sc ia la 12 = .inl (G.2.2 0, 32, .inl (ia 5)) := rfl
theorem q_u5 {G : Gv} {sc : Sc} {ia : Ia} {la : La} (f : Nat → Int32) : va_up (q_val G sc ia la) 12 (.inl (G.2.2 0, 32, .inl f)) = q_val G sc (va_up ia 5 f) la := q_upI 5 (by decide) f
theorem q_uu5 {G : Gv} {sc : Sc} {ia : Ia} {la : La} (g f : Nat → Int32) : va_up (q_val G sc (va_up ia 5 g) la) 12 (.inl (G.2.2 0, 32, .inl f)) = q_val G sc (va_up ia 5 f) la := by rw [q_u5, bx_uu]
theorem q_i6 {G : Gv} {sc : Sc} {ia : Ia} {la : La} : q_val G sc ia la 13 = .inl (G.2.2 2, 32, .inl (ia 6)) := rfl
theorem q_u6 {G : Gv} {sc : Sc} {ia : Ia} {la : La} (f : Nat → Int32) : va_up (q_val G sc ia la) 13 (.inl (G.2.2 2, 32, .inl f)) = q_val G sc (va_up ia 6 f) la := q_upI 6 (by decide) f
theorem q_uu6 {G : Gv} {sc : Sc} {ia : Ia} {la : La} (g f : Nat → Int32) : va_up (q_val G sc (va_up ia 6 g) la) 13 (.inl (G.2.2 2, 32, .inl f)) = q_val G sc (va_up ia 6 f) la := by rw [q_u6, bx_uu]
theorem q_i7 {G : Gv} {sc : Sc} {ia : Ia} {la : La} : q_val G sc ia la 14 = .inl (G.2.2 2, 32, .inl (ia 7)) := rfl
theorem q_u7 {G : Gv} {sc : Sc} {ia : Ia} {la : La} (f : Nat → Int32) : va_up (q_val G sc ia la) 14 (.inl (G.2.2 2, 32, .inl f)) = q_val G sc (va_up ia 7 f) la := q_upI 7 (by decide) f
theorem q_uu7 {G : Gv} {sc : Sc} {ia : Ia} {la : La} (g f : Nat → Int32) : va_up (q_val G sc (va_up ia 7 g) la) 14 (.inl (G.2.2 2, 32, .inl f)) = q_val G sc (va_up ia 7 f) la := by rw [q_u7, bx_uu]
theorem q_i8 {G : Gv} {sc : Sc} {ia : Ia} {la : La} : q_val G sc ia la 15 = .inl (G.2.2 0, 5, .inl (ia 8)) := rfl
theorem q_u8 {G : Gv} {sc : Sc} {ia : Ia} {la : La} (f : Nat → Int32) : va_up (q_val G sc ia la) 15 (.inl (G.2.2 0, 5, .inl f)) = q_val G sc (va_up ia 8 f) la := q_upI 8 (by decide) f
theorem q_uu8 {G : Gv} {sc : Sc} {ia : Ia} {la : La} (g f : Nat → Int32) : va_up (q_val G sc (va_up ia 8 g) la) 15 (.inl (G.2.2 0, 5, .inl f)) = q_val G sc (va_up ia 8 f) la := by rw [q_u8, bx_uu]
theorem q_i9 {G : Gv} {sc : Sc} {ia : Ia} {la : La} : q_val G sc ia la 16 = .inl (G.2.2 0, 18, .inl (ia 9)) := rfl
theorem q_u9 {G : Gv} {sc : Sc} {ia : Ia} {la : La} (f : Nat → Int32) : va_up (q_val G sc ia la) 16 (.inl (G.2.2 0, 18, .inl f)) = q_val G sc (va_up ia 9 f) la := q_upI 9 (by decide) f
theorem q_uu9 {G : Gv} {sc : Sc} {ia : Ia} {la : La} (g f : Nat → Int32) : va_up (q_val G sc (va_up ia 9 g) la) 16 (.inl (G.2.2 0, 18, .inl f)) = q_val G sc (va_up ia 9 f) la := by rw [q_u9, bx_uu]
theorem q_i10 {G : Gv} {sc : Sc} {ia : Ia} {la : La} : q_val G sc ia la 17 = .inl (G.2.2 0, 9, .inl (ia 10)) := rfl
theorem q_u10 {G : Gv} {sc : Sc} {ia : Ia} {la : La} (f : Nat → Int32) : va_up (q_val G sc ia la) 17 (.inl (G.2.2 0, 9, .inl f)) = q_val G sc (va_up ia 10 f) la := q_upI 10 (by decide) f
theorem q_uu10 {G : Gv} {sc : Sc} {ia : Ia} {la : La} (g f : Nat → Int32) : va_up (q_val G sc (va_up ia 10 g) la) 17 (.inl (G.2.2 0, 9, .inl f)) = q_val G sc (va_up ia 10 f) la := by rw [q_u10, bx_uu]
theorem q_i11 {G : Gv} {sc : Sc} {ia : Ia} {la : La} : q_val G sc ia la 18 = .inl (G.2.2 0, 9, .inl (ia 11)) := rfl
theorem q_u11 {G : Gv} {sc : Sc} {ia : Ia} {la : La} (f : Nat → Int32) : va_up (q_val G sc ia la) 18 (.inl (G.2.2 0, 9, .inl f)) = q_val G sc (va_up ia 11 f) la := q_upI 11 (by decide) f
theorem q_uu11 {G : Gv} {sc : Sc} {ia : Ia} {la : La} (g f : Nat → Int32) : va_up (q_val G sc (va_up ia 11 g) la) 18 (.inl (G.2.2 0, 9, .inl f)) = q_val G sc (va_up ia 11 f) la := by rw [q_u11, bx_uu]
theorem q_i12 {G : Gv} {sc : Sc} {ia : Ia} {la : La} : q_val G sc ia la 19 = .inl (G.2.2 0, 9, .inl (ia 12)) := rfl
theorem q_u12 {G : Gv} {sc : Sc} {ia : Ia} {la : La} (f : Nat → Int32) : va_up (q_val G sc ia la) 19 (.inl (G.2.2 0, 9, .inl f)) = q_val G sc (va_up ia 12 f) la := q_upI 12 (by decide) f
theorem q_uu12 {G : Gv} {sc : Sc} {ia : Ia} {la : La} (g f : Nat → Int32) : va_up (q_val G sc (va_up ia 12 g) la) 19 (.inl (G.2.2 0, 9, .inl f)) = q_val G sc (va_up ia 12 f) la := by rw [q_u12, bx_uu]
theorem q_i13 {G : Gv} {sc : Sc} {ia : Ia} {la : La} : q_val G sc ia la 20 = .inl (G.2.2 0, 9, .inl (ia 13)) := rfl
theorem q_u13 {G : Gv} {sc : Sc} {ia : Ia} {la : La} (f : Nat → Int32) : va_up (q_val G sc ia la) 20 (.inl (G.2.2 0, 9, .inl f)) = q_val G sc (va_up ia 13 f) la := q_upI 13 (by decide) f
theorem q_uu13 {G : Gv} {sc : Sc} {ia : Ia} {la : La} (g f : Nat → Int32) : va_up (q_val G sc (va_up ia 13 g) la) 20 (.inl (G.2.2 0, 9, .inl f)) = q_val G sc (va_up ia 13 f) la := by rw [q_u13, bx_uu]
theorem q_i14 {G : Gv} {sc : Sc} {ia : Ia} {la : La} : q_val G sc ia la 21 = .inl (G.2.2 0, 9, .inl (ia 14)) := rfl
theorem q_u14 {G : Gv} {sc : Sc} {ia : Ia} {la : La} (f : Nat → Int32) : va_up (q_val G sc ia la) 21 (.inl (G.2.2 0, 9, .inl f)) = q_val G sc (va_up ia 14 f) la := q_upI 14 (by decide) f
theorem q_uu14 {G : Gv} {sc : Sc} {ia : Ia} {la : La} (g f : Nat → Int32) : va_up (q_val G sc (va_up ia 14 g) la) 21 (.inl (G.2.2 0, 9, .inl f)) = q_val G sc (va_up ia 14 f) la := by rw [q_u14, bx_uu]
theorem q_i15 {G : Gv} {sc : Sc} {ia : Ia} {la : La} : q_val G sc ia la 22 = .inl (G.2.2 0, 9, .inl (ia 15)) := rfl
theorem q_u15 {G : Gv} {sc : Sc} {ia : Ia} {la : La} (f : Nat → Int32) : va_up (q_val G sc ia la) 22 (.inl (G.2.2 0, 9, .inl f)) = q_val G sc (va_up ia 15 f) la := q_upI 15 (by decide) f
theorem q_uu15 {G : Gv} {sc : Sc} {ia : Ia} {la : La} (g f : Nat → Int32) : va_up (q_val G sc (va_up ia 15 g) la) 22 (.inl (G.2.2 0, 9, .inl f)) = q_val G sc (va_up ia 15 f) la := by rw [q_u15, bx_uu]
theorem q_i16 {G : Gv} {sc : Sc} {ia : Ia} {la : La} : q_val G sc ia la 23 = .inl (G.2.2 0, 9, .inl (ia 16)) := rfl
theorem q_u16 {G : Gv} {sc : Sc} {ia : Ia} {la : La} (f : Nat → Int32) : va_up (q_val G sc ia la) 23 (.inl (G.2.2 0, 9, .inl f)) = q_val G sc (va_up ia 16 f) la := q_upI 16 (by decide) f
theorem q_uu16 {G : Gv} {sc : Sc} {ia : Ia} {la : La} (g f : Nat → Int32) : va_up (q_val G sc (va_up ia 16 g) la) 23 (.inl (G.2.2 0, 9, .inl f)) = q_val G sc (va_up ia 16 f) la := by rw [q_u16, bx_uu]
theorem q_i17 {G : Gv} {sc : Sc} {ia : Ia} {la : La} : q_val G sc ia la 24 = .inl (G.2.2 0, 9, .inl (ia 17)) := rfl
theorem q_u17 {G : Gv} {sc : Sc} {ia : Ia} {la : La} (f : Nat → Int32) : va_up (q_val G sc ia la) 24 (.inl (G.2.2 0, 9, .inl f)) = q_val G sc (va_up ia 17 f) la := q_upI 17 (by decide) f
theorem q_uu17 {G : Gv} {sc : Sc} {ia : Ia} {la : La} (g f : Nat → Int32) : va_up (q_val G sc (va_up ia 17 g) la) 24 (.inl (G.2.2 0, 9, .inl f)) = q_val G sc (va_up ia 17 f) la := by rw [q_u17, bx_uu]
theorem q_i18 {G : Gv} {sc : Sc} {ia : Ia} {la : La} : q_val G sc ia la 25 = .inl (G.2.2 0, 9, .inl (ia 18)) := rfl
theorem q_u18 {G : Gv} {sc : Sc} {ia : Ia} {la : La} (f : Nat → Int32) : va_up (q_val G sc ia la) 25 (.inl (G.2.2 0, 9, .inl f)) = q_val G sc (va_up ia 18 f) la := q_upI 18 (by decide) f
theorem q_uu18 {G : Gv} {sc : Sc} {ia : Ia} {la : La} (g f : Nat → Int32) : va_up (q_val G sc (va_up ia 18 g) la) 25 (.inl (G.2.2 0, 9, .inl f)) = q_val G sc (va_up ia 18 f) la := by rw [q_u18, bx_uu]
theorem q_i19 {G : Gv} {sc : Sc} {ia : Ia} {la : La} : q_val G sc ia la 26 = .inl (G.2.2 0, 5, .inl (ia 19)) := rfl
theorem q_u19 {G : Gv} {sc : Sc} {ia : Ia} {la : La} (f : Nat → Int32) : va_up (q_val G sc ia la) 26 (.inl (G.2.2 0, 5, .inl f)) = q_val G sc (va_up ia 19 f) la := q_upI 19 (by decide) f
theorem q_uu19 {G : Gv} {sc : Sc} {ia : Ia} {la : La} (g f : Nat → Int32) : va_up (q_val G sc (va_up ia 19 g) la) 26 (.inl (G.2.2 0, 5, .inl f)) = q_val G sc (va_up ia 19 f) la := by rw [q_u19, bx_uu]
theorem q_i20 {G : Gv} {sc : Sc} {ia : Ia} {la : La} : q_val G sc ia la 27 = .inl (G.2.2 0, 5, .inl (ia 20)) := rfl
theorem q_u20 {G : Gv} {sc : Sc} {ia : Ia} {la : La} (f : Nat → Int32) : va_up (q_val G sc ia la) 27 (.inl (G.2.2 0, 5, .inl f)) = q_val G sc (va_up ia 20 f) la := q_upI 20 (by decide) f
theorem q_uu20 {G : Gv} {sc : Sc} {ia : Ia} {la : La} (g f : Nat → Int32) : va_up (q_val G sc (va_up ia 20 g) la) 27 (.inl (G.2.2 0, 5, .inl f)) = q_val G sc (va_up ia 20 f) la := by rw [q_u20, bx_uu]
theorem q_i21 {G : Gv} {sc : Sc} {ia : Ia} {la : La} : q_val G sc ia la 28 = .inl (G.2.2 0, 5, .inl (ia 21)) := rfl
theorem q_u21 {G : Gv} {sc : Sc} {ia : Ia} {la : La} (f : Nat → Int32) : va_up (q_val G sc ia la) 28 (.inl (G.2.2 0, 5, .inl f)) = q_val G sc (va_up ia 21 f) la := q_upI 21 (by decide) f
theorem q_uu21 {G : Gv} {sc : Sc} {ia : Ia} {la : La} (g f : Nat → Int32) : va_up (q_val G sc (va_up ia 21 g) la) 28 (.inl (G.2.2 0, 5, .inl f)) = q_val G sc (va_up ia 21 f) la := by rw [q_u21, bx_uu]
theorem q_i22 {G : Gv} {sc : Sc} {ia : Ia} {la : La} : q_val G sc ia la 29 = .inl (G.2.2 0, 5, .inl (ia 22)) := rfl
theorem q_u22 {G : Gv} {sc : Sc} {ia : Ia} {la : La} (f : Nat → Int32) : va_up (q_val G sc ia la) 29 (.inl (G.2.2 0, 5, .inl f)) = q_val G sc (va_up ia 22 f) la := q_upI 22 (by decide) f
theorem q_uu22 {G : Gv} {sc : Sc} {ia : Ia} {la : La} (g f : Nat → Int32) : va_up (q_val G sc (va_up ia 22 g) la) 29 (.inl (G.2.2 0, 5, .inl f)) = q_val G sc (va_up ia 22 f) la := by rw [q_u22, bx_uu]
theorem q_i23 {G : Gv} {sc : Sc} {ia : Ia} {la : La} : q_val G sc ia la 30 = .inl (G.2.2 0, 5, .inl (ia 23)) := rfl
theorem q_u23 {G : Gv} {sc : Sc} {ia : Ia} {la : La} (f : Nat → Int32) : va_up (q_val G sc ia la) 30 (.inl (G.2.2 0, 5, .inl f)) = q_val G sc (va_up ia 23 f) la := q_upI 23 (by decide) f
theorem q_uu23 {G : Gv} {sc : Sc} {ia : Ia} {la : La} (g f : Nat → Int32) : va_up (q_val G sc (va_up ia 23 g) la) 30 (.inl (G.2.2 0, 5, .inl f)) = q_val G sc (va_up ia 23 f) la := by rw [q_u23, bx_uu]
theorem q_i24 {G : Gv} {sc : Sc} {ia : Ia} {la : La} : q_val G sc ia la 31 = .inl (G.2.2 0, 5, .inl (ia 24)) := rfl
theorem q_u24 {G : Gv} {sc : Sc} {ia : Ia} {la : La} (f : Nat → Int32) : va_up (q_val G sc ia la) 31 (.inl (G.2.2 0, 5, .inl f)) = q_val G sc (va_up ia 24 f) la := q_upI 24 (by decide) f
theorem q_uu24 {G : Gv} {sc : Sc} {ia : Ia} {la : La} (g f : Nat → Int32) : va_up (q_val G sc (va_up ia 24 g) la) 31 (.inl (G.2.2 0, 5, .inl f)) = q_val G sc (va_up ia 24 f) la := by rw [q_u24, bx_uu]
theorem q_i25 {G : Gv} {sc : Sc} {ia : Ia} {la : La} : q_val G sc ia la 32 = .inl (G.2.2 0, 5, .inl (ia 25)) := rfl
theorem q_u25 {G : Gv} {sc : Sc} {ia : Ia} {la : La} (f : Nat → Int32) : va_up (q_val G sc ia la) 32 (.inl (G.2.2 0, 5, .inl f)) = q_val G sc (va_up ia 25 f) la := q_upI 25 (by decide) f
theorem q_uu25 {G : Gv} {sc : Sc} {ia : Ia} {la : La} (g f : Nat → Int32) : va_up (q_val G sc (va_up ia 25 g) la) 32 (.inl (G.2.2 0, 5, .inl f)) = q_val G sc (va_up ia 25 f) la := by rw [q_u25, bx_uu]
theorem q_i26 {G : Gv} {sc : Sc} {ia : Ia} {la : La} : q_val G sc ia la 33 = .inl (G.2.2 0, 5, .inl (ia 26)) := rfl
theorem q_u26 {G : Gv} {sc : Sc} {ia : Ia} {la : La} (f : Nat → Int32) : va_up (q_val G sc ia la) 33 (.inl (G.2.2 0, 5, .inl f)) = q_val G sc (va_up ia 26 f) la := q_upI 26 (by decide) f
theorem q_uu26 {G : Gv} {sc : Sc} {ia : Ia} {la : La} (g f : Nat → Int32) : va_up (q_val G sc (va_up ia 26 g) la) 33 (.inl (G.2.2 0, 5, .inl f)) = q_val G sc (va_up ia 26 f) la := by rw [q_u26, bx_uu]
theorem q_i27 {G : Gv} {sc : Sc} {ia : Ia} {la : La} : q_val G sc ia la 34 = .inl (G.2.2 0, 5, .inl (ia 27)) := rfl
theorem q_u27 {G : Gv} {sc : Sc} {ia : Ia} {la : La} (f : Nat → Int32) : va_up (q_val G sc ia la) 34 (.inl (G.2.2 0, 5, .inl f)) = q_val G sc (va_up ia 27 f) la := q_upI 27 (by decide) f
theorem q_uu27 {G : Gv} {sc : Sc} {ia : Ia} {la : La} (g f : Nat → Int32) : va_up (q_val G sc (va_up ia 27 g) la) 34 (.inl (G.2.2 0, 5, .inl f)) = q_val G sc (va_up ia 27 f) la := by rw [q_u27, bx_uu]
theorem q_i28 {G : Gv} {sc : Sc} {ia : Ia} {la : La} : q_val G sc ia la 35 = .inl (G.2.2 0, 5, .inl (ia 28)) := rfl
theorem q_u28 {G : Gv} {sc : Sc} {ia : Ia} {la : La} (f : Nat → Int32) : va_up (q_val G sc ia la) 35 (.inl (G.2.2 0, 5, .inl f)) = q_val G sc (va_up ia 28 f) la := q_upI 28 (by decide) f
theorem q_uu28 {G : Gv} {sc : Sc} {ia : Ia} {la : La} (g f : Nat → Int32) : va_up (q_val G sc (va_up ia 28 g) la) 35 (.inl (G.2.2 0, 5, .inl f)) = q_val G sc (va_up ia 28 f) la := by rw [q_u28, bx_uu]
theorem q_i29 {G : Gv} {sc : Sc} {ia : Ia} {la : La} : q_val G sc ia la 36 = .inl (G.2.2 0, 32, .inl (ia 29)) := rfl
theorem q_u29 {G : Gv} {sc : Sc} {ia : Ia} {la : La} (f : Nat → Int32) : va_up (q_val G sc ia la) 36 (.inl (G.2.2 0, 32, .inl f)) = q_val G sc (va_up ia 29 f) la := q_upI 29 (by decide) f
theorem q_uu29 {G : Gv} {sc : Sc} {ia : Ia} {la : La} (g f : Nat → Int32) : va_up (q_val G sc (va_up ia 29 g) la) 36 (.inl (G.2.2 0, 32, .inl f)) = q_val G sc (va_up ia 29 f) la := by rw [q_u29, bx_uu]
theorem q_i30 {G : Gv} {sc : Sc} {ia : Ia} {la : La} : q_val G sc ia la 37 = .inl (G.2.2 0, 32, .inl (ia 30)) := rfl
theorem q_u30 {G : Gv} {sc : Sc} {ia : Ia} {la : La} (f : Nat → Int32) : va_up (q_val G sc ia la) 37 (.inl (G.2.2 0, 32, .inl f)) = q_val G sc (va_up ia 30 f) la := q_upI 30 (by decide) f
theorem q_uu30 {G : Gv} {sc : Sc} {ia : Ia} {la : La} (g f : Nat → Int32) : va_up (q_val G sc (va_up ia 30 g) la) 37 (.inl (G.2.2 0, 32, .inl f)) = q_val G sc (va_up ia 30 f) la := by rw [q_u30, bx_uu]
theorem q_i31 {G : Gv} {sc : Sc} {ia : Ia} {la : La} : q_val G sc ia la 38 = .inl (G.2.2 0, 32, .inl (ia 31)) := rfl
theorem q_u31 {G : Gv} {sc : Sc} {ia : Ia} {la : La} (f : Nat → Int32) : va_up (q_val G sc ia la) 38 (.inl (G.2.2 0, 32, .inl f)) = q_val G sc (va_up ia 31 f) la := q_upI 31 (by decide) f
theorem q_uu31 {G : Gv} {sc : Sc} {ia : Ia} {la : La} (g f : Nat → Int32) : va_up (q_val G sc (va_up ia 31 g) la) 38 (.inl (G.2.2 0, 32, .inl f)) = q_val G sc (va_up ia 31 f) la := by rw [q_u31, bx_uu]
theorem q_i32 {G : Gv} {sc : Sc} {ia : Ia} {la : La} : q_val G sc ia la 39 = .inl (G.2.2 2, 32, .inl (ia 32)) := rfl
theorem q_u32 {G : Gv} {sc : Sc} {ia : Ia} {la : La} (f : Nat → Int32) : va_up (q_val G sc ia la) 39 (.inl (G.2.2 2, 32, .inl f)) = q_val G sc (va_up ia 32 f) la := q_upI 32 (by decide) f
theorem q_uu32 {G : Gv} {sc : Sc} {ia : Ia} {la : La} (g f : Nat → Int32) : va_up (q_val G sc (va_up ia 32 g) la) 39 (.inl (G.2.2 2, 32, .inl f)) = q_val G sc (va_up ia 32 f) la := by rw [q_u32, bx_uu]
theorem q_i33 {G : Gv} {sc : Sc} {ia : Ia} {la : La} : q_val G sc ia la 40 = .inl (G.2.2 2, 32, .inl (ia 33)) := rfl
theorem q_u33 {G : Gv} {sc : Sc} {ia : Ia} {la : La} (f : Nat → Int32) : va_up (q_val G sc ia la) 40 (.inl (G.2.2 2, 32, .inl f)) = q_val G sc (va_up ia 33 f) la := q_upI 33 (by decide) f
theorem q_uu33 {G : Gv} {sc : Sc} {ia : Ia} {la : La} (g f : Nat → Int32) : va_up (q_val G sc (va_up ia 33 g) la) 40 (.inl (G.2.2 2, 32, .inl f)) = q_val G sc (va_up ia 33 f) la := by rw [q_u33, bx_uu]
theorem q_i34 {G : Gv} {sc : Sc} {ia : Ia} {la : La} : q_val G sc ia la 41 = .inl (G.2.2 0, 32, .inl (ia 34)) := rfl
theorem q_u34 {G : Gv} {sc : Sc} {ia : Ia} {la : La} (f : Nat → Int32) : va_up (q_val G sc ia la) 41 (.inl (G.2.2 0, 32, .inl f)) = q_val G sc (va_up ia 34 f) la := q_upI 34 (by decide) f
theorem q_uu34 {G : Gv} {sc : Sc} {ia : Ia} {la : La} (g f : Nat → Int32) : va_up (q_val G sc (va_up ia 34 g) la) 41 (.inl (G.2.2 0, 32, .inl f)) = q_val G sc (va_up ia 34 f) la := by rw [q_u34, bx_uu]
theorem q_i35 {G : Gv} {sc : Sc} {ia : Ia} {la : La} : q_val G sc ia la 42 = .inl (G.2.2 0, 32, .inl (ia 35)) := rfl
theorem q_u35 {G : Gv} {sc : Sc} {ia : Ia} {la : La} (f : Nat → Int32) : va_up (q_val G sc ia la) 42 (.inl (G.2.2 0, 32, .inl f)) = q_val G sc (va_up ia 35 f) la := q_upI 35 (by decide) f
theorem q_uu35 {G : Gv} {sc : Sc} {ia : Ia} {la : La} (g f : Nat → Int32) : va_up (q_val G sc (va_up ia 35 g) la) 42 (.inl (G.2.2 0, 32, .inl f)) = q_val G sc (va_up ia 35 f) la := by rw [q_u35, bx_uu]
theorem q_i36 {G : Gv} {sc : Sc} {ia : Ia} {la : La} : q_val G sc ia la 43 = .inl (G.2.2 0, 5, .inl (ia 36)) := rfl
theorem q_u36 {G : Gv} {sc : Sc} {ia : Ia} {la : La} (f : Nat → Int32) : va_up (q_val G sc ia la) 43 (.inl (G.2.2 0, 5, .inl f)) = q_val G sc (va_up ia 36 f) la := q_upI 36 (by decide) f
theorem q_uu36 {G : Gv} {sc : Sc} {ia : Ia} {la : La} (g f : Nat → Int32) : va_up (q_val G sc (va_up ia 36 g) la) 43 (.inl (G.2.2 0, 5, .inl f)) = q_val G sc (va_up ia 36 f) la := by rw [q_u36, bx_uu]
theorem q_i37 {G : Gv} {sc : Sc} {ia : Ia} {la : La} : q_val G sc ia la 44 = .inl (G.2.2 0, 5, .inl (ia 37)) := rfl
theorem q_u37 {G : Gv} {sc : Sc} {ia : Ia} {la : La} (f : Nat → Int32) : va_up (q_val G sc ia la) 44 (.inl (G.2.2 0, 5, .inl f)) = q_val G sc (va_up ia 37 f) la := q_upI 37 (by decide) f
theorem q_uu37 {G : Gv} {sc : Sc} {ia : Ia} {la : La} (g f : Nat → Int32) : va_up (q_val G sc (va_up ia 37 g) la) 44 (.inl (G.2.2 0, 5, .inl f)) = q_val G sc (va_up ia 37 f) la := by rw [q_u37, bx_uu]
theorem q_i38 {G : Gv} {sc : Sc} {ia : Ia} {la : La} : q_val G sc ia la 45 = .inl (G.2.2 0, 81, .inl (ia 38)) := rfl
theorem q_u38 {G : Gv} {sc : Sc} {ia : Ia} {la : La} (f : Nat → Int32) : va_up (q_val G sc ia la) 45 (.inl (G.2.2 0, 81, .inl f)) = q_val G sc (va_up ia 38 f) la := q_upI 38 (by decide) f
theorem q_uu38 {G : Gv} {sc : Sc} {ia : Ia} {la : La} (g f : Nat → Int32) : va_up (q_val G sc (va_up ia 38 g) la) 45 (.inl (G.2.2 0, 81, .inl f)) = q_val G sc (va_up ia 38 f) la := by rw [q_u38, bx_uu]
theorem q_i39 {G : Gv} {sc : Sc} {ia : Ia} {la : La} : q_val G sc ia la 46 = .inl (G.2.2 2, 25, .inl (ia 39)) := rfl
theorem q_u39 {G : Gv} {sc : Sc} {ia : Ia} {la : La} (f : Nat → Int32) : va_up (q_val G sc ia la) 46 (.inl (G.2.2 2, 25, .inl f)) = q_val G sc (va_up ia 39 f) la := q_upI 39 (by decide) f
theorem q_uu39 {G : Gv} {sc : Sc} {ia : Ia} {la : La} (g f : Nat → Int32) : va_up (q_val G sc (va_up ia 39 g) la) 46 (.inl (G.2.2 2, 25, .inl f)) = q_val G sc (va_up ia 39 f) la := by rw [q_u39, bx_uu]
theorem q_i40 {G : Gv} {sc : Sc} {ia : Ia} {la : La} : q_val G sc ia la 47 = .inl (G.2.2 0, 25, .inl (ia 40)) := rfl
theorem q_u40 {G : Gv} {sc : Sc} {ia : Ia} {la : La} (f : Nat → Int32) : va_up (q_val G sc ia la) 47 (.inl (G.2.2 0, 25, .inl f)) = q_val G sc (va_up ia 40 f) la := q_upI 40 (by decide) f
theorem q_uu40 {G : Gv} {sc : Sc} {ia : Ia} {la : La} (g f : Nat → Int32) : va_up (q_val G sc (va_up ia 40 g) la) 47 (.inl (G.2.2 0, 25, .inl f)) = q_val G sc (va_up ia 40 f) la := by rw [q_u40, bx_uu]
theorem q_i41 {G : Gv} {sc : Sc} {ia : Ia} {la : La} : q_val G sc ia la 48 = .inl (G.2.2 0, 18, .inl (ia 41)) := rfl
theorem q_u41 {G : Gv} {sc : Sc} {ia : Ia} {la : La} (f : Nat → Int32) : va_up (q_val G sc ia la) 48 (.inl (G.2.2 0, 18, .inl f)) = q_val G sc (va_up ia 41 f) la := q_upI 41 (by decide) f
theorem q_uu41 {G : Gv} {sc : Sc} {ia : Ia} {la : La} (g f : Nat → Int32) : va_up (q_val G sc (va_up ia 41 g) la) 48 (.inl (G.2.2 0, 18, .inl f)) = q_val G sc (va_up ia 41 f) la := by rw [q_u41, bx_uu]
theorem q_ir10 {G : Gv} {sc : Sc} {ia : Ia} {la : La} (r : Nat) (hr : r < 9) : q_val G sc ia la (17 + r) = .inl (G.2.2 0, 9, .inl (ia (10 + r))) := by
  rw [show 17 + r = 7 + (10 + r) by omega, q_vI (10 + r) (by omega)]
  have h1 : q_tz (10 + r) = 0 := by unfold q_tz; repeat (first | rfl | (rw [if_neg (by omega)]) | (rw [if_pos (by omega)]))
  have h2 : q_ln (10 + r) = 9 := by unfold q_ln; repeat (first | rfl | (rw [if_neg (by omega)]) | (rw [if_pos (by omega)]))
  rw [h1, h2]
theorem q_ur10 {G : Gv} {sc : Sc} {ia : Ia} {la : La} (r : Nat) (hr : r < 9) (f : Nat → Int32) : va_up (q_val G sc ia la) (17 + r) (.inl (G.2.2 0, 9, .inl f)) = q_val G sc (va_up ia (10 + r) f) la := by
  have h1 : q_tz (10 + r) = 0 := by unfold q_tz; repeat (first | rfl | (rw [if_neg (by omega)]) | (rw [if_pos (by omega)]))
  have h2 : q_ln (10 + r) = 9 := by unfold q_ln; repeat (first | rfl | (rw [if_neg (by omega)]) | (rw [if_pos (by omega)]))
  have h := q_upI (G := G) (sc := sc) (ia := ia) (la := la) (10 + r) (by omega) f
  rw [h1, h2, show 7 + (10 + r) = 17 + r by omega] at h
  exact h
theorem q_ir19 {G : Gv} {sc : Sc} {ia : Ia} {la : La} (r : Nat) (hr : r < 5) : q_val G sc ia la (26 + r) = .inl (G.2.2 0, 5, .inl (ia (19 + r))) := by
  rw [show 26 + r = 7 + (19 + r) by omega, q_vI (19 + r) (by omega)]
  have h1 : q_tz (19 + r) = 0 := by unfold q_tz; repeat (first | rfl | (rw [if_neg (by omega)]) | (rw [if_pos (by omega)]))
  have h2 : q_ln (19 + r) = 5 := by unfold q_ln; repeat (first | rfl | (rw [if_neg (by omega)]) | (rw [if_pos (by omega)]))
  rw [h1, h2]
theorem q_ur19 {G : Gv} {sc : Sc} {ia : Ia} {la : La} (r : Nat) (hr : r < 5) (f : Nat → Int32) : va_up (q_val G sc ia la) (26 + r) (.inl (G.2.2 0, 5, .inl f)) = q_val G sc (va_up ia (19 + r) f) la := by
  have h1 : q_tz (19 + r) = 0 := by unfold q_tz; repeat (first | rfl | (rw [if_neg (by omega)]) | (rw [if_pos (by omega)]))
  have h2 : q_ln (19 + r) = 5 := by unfold q_ln; repeat (first | rfl | (rw [if_neg (by omega)]) | (rw [if_pos (by omega)]))
  have h := q_upI (G := G) (sc := sc) (ia := ia) (la := la) (19 + r) (by omega) f
  rw [h1, h2, show 7 + (19 + r) = 26 + r by omega] at h
  exact h
theorem q_ir24 {G : Gv} {sc : Sc} {ia : Ia} {la : La} (r : Nat) (hr : r < 5) : q_val G sc ia la (31 + r) = .inl (G.2.2 0, 5, .inl (ia (24 + r))) := by
  rw [show 31 + r = 7 + (24 + r) by omega, q_vI (24 + r) (by omega)]
  have h1 : q_tz (24 + r) = 0 := by unfold q_tz; repeat (first | rfl | (rw [if_neg (by omega)]) | (rw [if_pos (by omega)]))
  have h2 : q_ln (24 + r) = 5 := by unfold q_ln; repeat (first | rfl | (rw [if_neg (by omega)]) | (rw [if_pos (by omega)]))
  rw [h1, h2]
theorem q_ur24 {G : Gv} {sc : Sc} {ia : Ia} {la : La} (r : Nat) (hr : r < 5) (f : Nat → Int32) : va_up (q_val G sc ia la) (31 + r) (.inl (G.2.2 0, 5, .inl f)) = q_val G sc (va_up ia (24 + r) f) la := by
  have h1 : q_tz (24 + r) = 0 := by unfold q_tz; repeat (first | rfl | (rw [if_neg (by omega)]) | (rw [if_pos (by omega)]))
  have h2 : q_ln (24 + r) = 5 := by unfold q_ln; repeat (first | rfl | (rw [if_neg (by omega)]) | (rw [if_pos (by omega)]))
  have h := q_upI (G := G) (sc := sc) (ia := ia) (la := la) (24 + r) (by omega) f
  rw [h1, h2, show 7 + (24 + r) = 31 + r by omega] at h
  exact h
theorem q_v49 {G : Gv} {sc : Sc} {ia : Ia} {la : La} : q_val G sc ia la 49 = .inl (G.2.2 4, 32, .inr (.inr (.inr (.inr (fun i => if i < 32 then some (G.2.1 (53 + i)) else none))))) := rfl
theorem q_v50 {G : Gv} {sc : Sc} {ia : Ia} {la : La} : q_val G sc ia la 50 = .inl (G.2.2 3, 9, .inr (.inr (.inr (.inr (fun i => if i < 9 then some (G.2.1 (17 + i)) else none))))) := rfl
theorem q_v51 {G : Gv} {sc : Sc} {ia : Ia} {la : La} : q_val G sc ia la 51 = .inl (G.2.2 3, 5, .inr (.inr (.inr (.inr (fun i => if i < 5 then some (G.2.1 (26 + i)) else none))))) := rfl
theorem q_v52 {G : Gv} {sc : Sc} {ia : Ia} {la : La} : q_val G sc ia la 52 = .inl (G.2.2 3, 5, .inr (.inr (.inr (.inr (fun i => if i < 5 then some (G.2.1 (31 + i)) else none))))) := rfl
theorem q_l32 {G : Gv} {sc : Sc} {ia : Ia} {la : La} : q_val G sc ia la 85 = .inl (G.2.2 1, 192, .inr (.inl (la 32))) := rfl
theorem q_ul32 {G : Gv} {sc : Sc} {ia : Ia} {la : La} (f : Nat → Int64) : va_up (q_val G sc ia la) 85 (.inl (G.2.2 1, 192, .inr (.inl f))) = q_val G sc ia (va_up la 32 f) := q_upL 32 (by decide) f
theorem q_ulu32 {G : Gv} {sc : Sc} {ia : Ia} {la : La} (g f : Nat → Int64) : va_up (q_val G sc ia (va_up la 32 g)) 85 (.inl (G.2.2 1, 192, .inr (.inl f))) = q_val G sc ia (va_up la 32 f) := by rw [q_ul32, bx_uu]
theorem q_lr {G : Gv} {sc : Sc} {ia : Ia} {la : La} (r : Nat) (hr : r < 32) : q_val G sc ia la (53 + r) = .inl (G.2.2 1, 6, .inr (.inl (la r))) := by
  rw [q_vL r (by omega)]
  unfold q_ll
  rw [if_pos hr]
theorem q_ulr {G : Gv} {sc : Sc} {ia : Ia} {la : La} (r : Nat) (hr : r < 32) (f : Nat → Int64) : va_up (q_val G sc ia la) (53 + r) (.inl (G.2.2 1, 6, .inr (.inl f))) = q_val G sc ia (va_up la r f) := by
  have h := q_upL (G := G) (sc := sc) (ia := ia) (la := la) r (by omega) f
  unfold q_ll at h
  rw [if_pos hr] at h
  exact h
theorem q_s0 {G : Gv} {sc : Sc} {ia : Ia} {la : La} (v : Int32) : va_up (q_val G sc ia la) 2 (.inr (2, (q_ob G.2.1 sc 2).set 0 (.int v))) = q_val G (va_up sc 0 v) ia la := q_upS 2 0 0 (by decide) v rfl (fun k hk hne => by
  rcases (show k = 0 ∨ k = 1 ∨ k = 2 ∨ k = 3 ∨ k = 4 ∨ k = 5 ∨ k = 6 by omega) with h | h | h | h | h | h | h <;> subst h <;> first | rfl | exact absurd rfl hne)
theorem q_ss0 {G : Gv} {sc : Sc} {ia : Ia} {la : La} (w v : Int32) : va_up (q_val G (va_up sc 0 w) ia la) 2 (.inr (2, (q_ob G.2.1 (va_up sc 0 w) 2).set 0 (.int v))) = q_val G (va_up sc 0 v) ia la := by rw [q_s0, bx_uu]
theorem q_s1 {G : Gv} {sc : Sc} {ia : Ia} {la : La} (v : Int32) : va_up (q_val G sc ia la) 1 (.inr (1, (q_ob G.2.1 sc 1).set 2 (.int v))) = q_val G (va_up sc 1 v) ia la := q_upS 1 2 1 (by decide) v rfl (fun k hk hne => by
  rcases (show k = 0 ∨ k = 1 ∨ k = 2 ∨ k = 3 ∨ k = 4 ∨ k = 5 ∨ k = 6 by omega) with h | h | h | h | h | h | h <;> subst h <;> first | rfl | exact absurd rfl hne)
theorem q_ss1 {G : Gv} {sc : Sc} {ia : Ia} {la : La} (w v : Int32) : va_up (q_val G (va_up sc 1 w) ia la) 1 (.inr (1, (q_ob G.2.1 (va_up sc 1 w) 1).set 2 (.int v))) = q_val G (va_up sc 1 v) ia la := by rw [q_s1, bx_uu]
theorem q_s2 {G : Gv} {sc : Sc} {ia : Ia} {la : La} (v : Int32) : va_up (q_val G sc ia la) 1 (.inr (1, (q_ob G.2.1 sc 1).set 3 (.int v))) = q_val G (va_up sc 2 v) ia la := q_upS 1 3 2 (by decide) v rfl (fun k hk hne => by
  rcases (show k = 0 ∨ k = 1 ∨ k = 2 ∨ k = 3 ∨ k = 4 ∨ k = 5 ∨ k = 6 by omega) with h | h | h | h | h | h | h <;> subst h <;> first | rfl | exact absurd rfl hne)
theorem q_ss2 {G : Gv} {sc : Sc} {ia : Ia} {la : La} (w v : Int32) : va_up (q_val G (va_up sc 2 w) ia la) 1 (.inr (1, (q_ob G.2.1 (va_up sc 2 w) 1).set 3 (.int v))) = q_val G (va_up sc 2 v) ia la := by rw [q_s2, bx_uu]
theorem q_s3 {G : Gv} {sc : Sc} {ia : Ia} {la : La} (v : Int32) : va_up (q_val G sc ia la) 4 (.inr (4, (q_ob G.2.1 sc 4).set 0 (.int v))) = q_val G (va_up sc 3 v) ia la := q_upS 4 0 3 (by decide) v rfl (fun k hk hne => by
  rcases (show k = 0 ∨ k = 1 ∨ k = 2 ∨ k = 3 ∨ k = 4 ∨ k = 5 ∨ k = 6 by omega) with h | h | h | h | h | h | h <;> subst h <;> first | rfl | exact absurd rfl hne)
theorem q_ss3 {G : Gv} {sc : Sc} {ia : Ia} {la : La} (w v : Int32) : va_up (q_val G (va_up sc 3 w) ia la) 4 (.inr (4, (q_ob G.2.1 (va_up sc 3 w) 4).set 0 (.int v))) = q_val G (va_up sc 3 v) ia la := by rw [q_s3, bx_uu]
theorem q_s4 {G : Gv} {sc : Sc} {ia : Ia} {la : La} (v : Int32) : va_up (q_val G sc ia la) 4 (.inr (4, (q_ob G.2.1 sc 4).set 1 (.int v))) = q_val G (va_up sc 4 v) ia la := q_upS 4 1 4 (by decide) v rfl (fun k hk hne => by
  rcases (show k = 0 ∨ k = 1 ∨ k = 2 ∨ k = 3 ∨ k = 4 ∨ k = 5 ∨ k = 6 by omega) with h | h | h | h | h | h | h <;> subst h <;> first | rfl | exact absurd rfl hne)
theorem q_ss4 {G : Gv} {sc : Sc} {ia : Ia} {la : La} (w v : Int32) : va_up (q_val G (va_up sc 4 w) ia la) 4 (.inr (4, (q_ob G.2.1 (va_up sc 4 w) 4).set 1 (.int v))) = q_val G (va_up sc 4 v) ia la := by rw [q_s4, bx_uu]
theorem q_s5 {G : Gv} {sc : Sc} {ia : Ia} {la : La} (v : Int32) : va_up (q_val G sc ia la) 3 (.inr (3, (q_ob G.2.1 sc 3).set 0 (.int v))) = q_val G (va_up sc 5 v) ia la := q_upS 3 0 5 (by decide) v rfl (fun k hk hne => by
  rcases (show k = 0 ∨ k = 1 ∨ k = 2 ∨ k = 3 ∨ k = 4 ∨ k = 5 ∨ k = 6 by omega) with h | h | h | h | h | h | h <;> subst h <;> first | rfl | exact absurd rfl hne)
theorem q_ss5 {G : Gv} {sc : Sc} {ia : Ia} {la : La} (w v : Int32) : va_up (q_val G (va_up sc 5 w) ia la) 3 (.inr (3, (q_ob G.2.1 (va_up sc 5 w) 3).set 0 (.int v))) = q_val G (va_up sc 5 v) ia la := by rw [q_s5, bx_uu]
theorem q_s6 {G : Gv} {sc : Sc} {ia : Ia} {la : La} (v : Int32) : va_up (q_val G sc ia la) 0 (.inr (0, (q_ob G.2.1 sc 0).set 0 (.int v))) = q_val G (va_up sc 6 v) ia la := q_upS 0 0 6 (by decide) v rfl (fun k hk hne => by
  rcases (show k = 0 ∨ k = 1 ∨ k = 2 ∨ k = 3 ∨ k = 4 ∨ k = 5 ∨ k = 6 by omega) with h | h | h | h | h | h | h <;> subst h <;> first | rfl | exact absurd rfl hne)
theorem q_ss6 {G : Gv} {sc : Sc} {ia : Ia} {la : La} (w v : Int32) : va_up (q_val G (va_up sc 6 w) ia la) 0 (.inr (0, (q_ob G.2.1 (va_up sc 6 w) 0).set 0 (.int v))) = q_val G (va_up sc 6 v) ia la := by rw [q_s6, bx_uu]
theorem q_s7 {G : Gv} {sc : Sc} {ia : Ia} {la : La} (v : Int32) : va_up (q_val G sc ia la) 6 (.inr (6, (q_ob G.2.1 sc 6).set 0 (.int v))) = q_val G (va_up sc 7 v) ia la := q_upS 6 0 7 (by decide) v rfl (fun k hk hne => by
  rcases (show k = 0 ∨ k = 1 ∨ k = 2 ∨ k = 3 ∨ k = 4 ∨ k = 5 ∨ k = 6 by omega) with h | h | h | h | h | h | h <;> subst h <;> first | rfl | exact absurd rfl hne)
theorem q_ss7 {G : Gv} {sc : Sc} {ia : Ia} {la : La} (w v : Int32) : va_up (q_val G (va_up sc 7 w) ia la) 6 (.inr (6, (q_ob G.2.1 (va_up sc 7 w) 6).set 0 (.int v))) = q_val G (va_up sc 7 v) ia la := by rw [q_s7, bx_uu]
theorem q_s8 {G : Gv} {sc : Sc} {ia : Ia} {la : La} (v : Int32) : va_up (q_val G sc ia la) 6 (.inr (6, (q_ob G.2.1 sc 6).set 9 (.int v))) = q_val G (va_up sc 8 v) ia la := q_upS 6 9 8 (by decide) v rfl (fun k hk hne => by
  rcases (show k = 0 ∨ k = 1 ∨ k = 2 ∨ k = 3 ∨ k = 4 ∨ k = 5 ∨ k = 6 by omega) with h | h | h | h | h | h | h <;> subst h <;> first | rfl | exact absurd rfl hne)
theorem q_ss8 {G : Gv} {sc : Sc} {ia : Ia} {la : La} (w v : Int32) : va_up (q_val G (va_up sc 8 w) ia la) 6 (.inr (6, (q_ob G.2.1 (va_up sc 8 w) 6).set 9 (.int v))) = q_val G (va_up sc 8 v) ia la := by rw [q_s8, bx_uu]
theorem q_s9 {G : Gv} {sc : Sc} {ia : Ia} {la : La} (v : Int32) : va_up (q_val G sc ia la) 6 (.inr (6, (q_ob G.2.1 sc 6).set 11 (.int v))) = q_val G (va_up sc 9 v) ia la := q_upS 6 11 9 (by decide) v rfl (fun k hk hne => by
  rcases (show k = 0 ∨ k = 1 ∨ k = 2 ∨ k = 3 ∨ k = 4 ∨ k = 5 ∨ k = 6 by omega) with h | h | h | h | h | h | h <;> subst h <;> first | rfl | exact absurd rfl hne)
theorem q_ss9 {G : Gv} {sc : Sc} {ia : Ia} {la : La} (w v : Int32) : va_up (q_val G (va_up sc 9 w) ia la) 6 (.inr (6, (q_ob G.2.1 (va_up sc 9 w) 6).set 11 (.int v))) = q_val G (va_up sc 9 v) ia la := by rw [q_s9, bx_uu]
theorem q_s10 {G : Gv} {sc : Sc} {ia : Ia} {la : La} (v : Int32) : va_up (q_val G sc ia la) 6 (.inr (6, (q_ob G.2.1 sc 6).set 13 (.int v))) = q_val G (va_up sc 10 v) ia la := q_upS 6 13 10 (by decide) v rfl (fun k hk hne => by
  rcases (show k = 0 ∨ k = 1 ∨ k = 2 ∨ k = 3 ∨ k = 4 ∨ k = 5 ∨ k = 6 by omega) with h | h | h | h | h | h | h <;> subst h <;> first | rfl | exact absurd rfl hne)
theorem q_ss10 {G : Gv} {sc : Sc} {ia : Ia} {la : La} (w v : Int32) : va_up (q_val G (va_up sc 10 w) ia la) 6 (.inr (6, (q_ob G.2.1 (va_up sc 10 w) 6).set 13 (.int v))) = q_val G (va_up sc 10 v) ia la := by rw [q_s10, bx_uu]
theorem q_s11 {G : Gv} {sc : Sc} {ia : Ia} {la : La} (v : Int32) : va_up (q_val G sc ia la) 6 (.inr (6, (q_ob G.2.1 sc 6).set 14 (.int v))) = q_val G (va_up sc 11 v) ia la := q_upS 6 14 11 (by decide) v rfl (fun k hk hne => by
  rcases (show k = 0 ∨ k = 1 ∨ k = 2 ∨ k = 3 ∨ k = 4 ∨ k = 5 ∨ k = 6 by omega) with h | h | h | h | h | h | h <;> subst h <;> first | rfl | exact absurd rfl hne)
theorem q_ss11 {G : Gv} {sc : Sc} {ia : Ia} {la : La} (w v : Int32) : va_up (q_val G (va_up sc 11 w) ia la) 6 (.inr (6, (q_ob G.2.1 (va_up sc 11 w) 6).set 14 (.int v))) = q_val G (va_up sc 11 v) ia la := by rw [q_s11, bx_uu]
theorem q_s12 {G : Gv} {sc : Sc} {ia : Ia} {la : La} (v : Int32) : va_up (q_val G sc ia la) 6 (.inr (6, (q_ob G.2.1 sc 6).set 16 (.int v))) = q_val G (va_up sc 12 v) ia la := q_upS 6 16 12 (by decide) v rfl (fun k hk hne => by
  rcases (show k = 0 ∨ k = 1 ∨ k = 2 ∨ k = 3 ∨ k = 4 ∨ k = 5 ∨ k = 6 by omega) with h | h | h | h | h | h | h <;> subst h <;> first | rfl | exact absurd rfl hne)
theorem q_ss12 {G : Gv} {sc : Sc} {ia : Ia} {la : La} (w v : Int32) : va_up (q_val G (va_up sc 12 w) ia la) 6 (.inr (6, (q_ob G.2.1 (va_up sc 12 w) 6).set 16 (.int v))) = q_val G (va_up sc 12 v) ia la := by rw [q_s12, bx_uu]
theorem q_s13 {G : Gv} {sc : Sc} {ia : Ia} {la : La} (v : Int32) : va_up (q_val G sc ia la) 6 (.inr (6, (q_ob G.2.1 sc 6).set 19 (.int v))) = q_val G (va_up sc 13 v) ia la := q_upS 6 19 13 (by decide) v rfl (fun k hk hne => by
  rcases (show k = 0 ∨ k = 1 ∨ k = 2 ∨ k = 3 ∨ k = 4 ∨ k = 5 ∨ k = 6 by omega) with h | h | h | h | h | h | h <;> subst h <;> first | rfl | exact absurd rfl hne)
theorem q_ss13 {G : Gv} {sc : Sc} {ia : Ia} {la : La} (w v : Int32) : va_up (q_val G (va_up sc 13 w) ia la) 6 (.inr (6, (q_ob G.2.1 (va_up sc 13 w) 6).set 19 (.int v))) = q_val G (va_up sc 13 v) ia la := by rw [q_s13, bx_uu]
theorem q_s14 {G : Gv} {sc : Sc} {ia : Ia} {la : La} (v : Int32) : va_up (q_val G sc ia la) 6 (.inr (6, (q_ob G.2.1 sc 6).set 20 (.int v))) = q_val G (va_up sc 14 v) ia la := q_upS 6 20 14 (by decide) v rfl (fun k hk hne => by
  rcases (show k = 0 ∨ k = 1 ∨ k = 2 ∨ k = 3 ∨ k = 4 ∨ k = 5 ∨ k = 6 by omega) with h | h | h | h | h | h | h <;> subst h <;> first | rfl | exact absurd rfl hne)
theorem q_ss14 {G : Gv} {sc : Sc} {ia : Ia} {la : La} (w v : Int32) : va_up (q_val G (va_up sc 14 w) ia la) 6 (.inr (6, (q_ob G.2.1 (va_up sc 14 w) 6).set 20 (.int v))) = q_val G (va_up sc 14 v) ia la := by rw [q_s14, bx_uu]
theorem q_s15 {G : Gv} {sc : Sc} {ia : Ia} {la : La} (v : Int32) : va_up (q_val G sc ia la) 6 (.inr (6, (q_ob G.2.1 sc 6).set 21 (.int v))) = q_val G (va_up sc 15 v) ia la := q_upS 6 21 15 (by decide) v rfl (fun k hk hne => by
  rcases (show k = 0 ∨ k = 1 ∨ k = 2 ∨ k = 3 ∨ k = 4 ∨ k = 5 ∨ k = 6 by omega) with h | h | h | h | h | h | h <;> subst h <;> first | rfl | exact absurd rfl hne)
theorem q_ss15 {G : Gv} {sc : Sc} {ia : Ia} {la : La} (w v : Int32) : va_up (q_val G (va_up sc 15 w) ia la) 6 (.inr (6, (q_ob G.2.1 (va_up sc 15 w) 6).set 21 (.int v))) = q_val G (va_up sc 15 v) ia la := by rw [q_s15, bx_uu]
theorem q_s16 {G : Gv} {sc : Sc} {ia : Ia} {la : La} (v : Int32) : va_up (q_val G sc ia la) 6 (.inr (6, (q_ob G.2.1 sc 6).set 22 (.int v))) = q_val G (va_up sc 16 v) ia la := q_upS 6 22 16 (by decide) v rfl (fun k hk hne => by
  rcases (show k = 0 ∨ k = 1 ∨ k = 2 ∨ k = 3 ∨ k = 4 ∨ k = 5 ∨ k = 6 by omega) with h | h | h | h | h | h | h <;> subst h <;> first | rfl | exact absurd rfl hne)
theorem q_ss16 {G : Gv} {sc : Sc} {ia : Ia} {la : La} (w v : Int32) : va_up (q_val G (va_up sc 16 w) ia la) 6 (.inr (6, (q_ob G.2.1 (va_up sc 16 w) 6).set 22 (.int v))) = q_val G (va_up sc 16 v) ia la := by rw [q_s16, bx_uu]
theorem q_s17 {G : Gv} {sc : Sc} {ia : Ia} {la : La} (v : Int32) : va_up (q_val G sc ia la) 6 (.inr (6, (q_ob G.2.1 sc 6).set 23 (.int v))) = q_val G (va_up sc 17 v) ia la := q_upS 6 23 17 (by decide) v rfl (fun k hk hne => by
  rcases (show k = 0 ∨ k = 1 ∨ k = 2 ∨ k = 3 ∨ k = 4 ∨ k = 5 ∨ k = 6 by omega) with h | h | h | h | h | h | h <;> subst h <;> first | rfl | exact absurd rfl hne)
theorem q_ss17 {G : Gv} {sc : Sc} {ia : Ia} {la : La} (w v : Int32) : va_up (q_val G (va_up sc 17 w) ia la) 6 (.inr (6, (q_ob G.2.1 (va_up sc 17 w) 6).set 23 (.int v))) = q_val G (va_up sc 17 v) ia la := by rw [q_s17, bx_uu]
