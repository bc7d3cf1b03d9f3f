/-! MAKING: a judgement for constructors; the world is a list that grows -/
def qE (U : State) : Prop := va_AOA .int U ∧ va_AOA .long U ∧ va_Nw (.methodLinkNest RX5 18 yX1_init RX5) U ∧ va_Nw (.methodLinkNest RX5 39 yX0_init RX5) U ∧ qN U
def KE (D : va_G) (cid : Nat → ClassId) (U : State) : Prop := va_K D vwCl (q_T ((D, ((fun _ => 0), cid)) : Gv)) U ∧ qE U
theorem KE.warm {D : va_G} {cid : Nat → ClassId} {s U : State} (hW : s.WarmedH U.vm) (h : KE D cid s) : KE D cid U :=
  ⟨va_K.moved hW.alike h.1, va_AOA.moved hW.alike h.2.1, va_AOA.moved hW.alike h.2.2.1, va_Nw.warmM hW h.2.2.2.1, va_Nw.warmM hW h.2.2.2.2.1, fun x hx => va_Nw.warmM hW (h.2.2.2.2.2 x hx)⟩
theorem KE.same {D : va_G} {cid : Nat → ClassId} {u U : State} (e : u.vm = U.vm) (h : KE D cid u) : KE D cid U := by
  have ha : u.vm.Alike U.vm := by rw [e]; exact Vm.Alike.refl _
  exact ⟨va_K.moved ha h.1, va_AOA.moved ha h.2.1, va_AOA.moved ha h.2.2.1, va_Nw.same rfl e h.2.2.2.1, va_Nw.same rfl e h.2.2.2.2.1, fun x hx => va_Nw.same rfl e (h.2.2.2.2.2 x hx)⟩
abbrev YT : Type := va_W → Nat → Nat → Nat → List Value → Prop
def nJ (p : Program) (l : Launch) (e : Env) (R : Room) (s : State) (m : MethodId) (args : Array Value) (below : List Frame) (meth : Method) (c : Code) (Q : State → Prop) (D : va_G) (A : Nat → Prop) (ls : Array Slot) : YT := fun ws ce so pc st => ∀ (H : Heap) (locs : List Loc), va_P D vwCl ws H → va_D A ws → va_S A s.heap H locs → W p l e R s m args below meth c H locs ce so Q (F0 m pc ls st)
def NC (Y : YT) (cc : ByteArray) (Ts : List Cond) (own : String) (D : va_G) (cid : Nat → ClassId) (nL : Nat) (R : Room) (A : Nat → Prop) (lv0 : List (Nat × Value)) (l : Launch) : Prop := ∃ (p : Program) (e : Env) (s : State) (m : MethodId) (args : Array Value) (below : List Frame) (meth : Method) (c : Code) (Q : State → Prop) (ls : Array Slot), Y = nJ p l e R s m args below meth c Q D A ls ∧ p.tables.exec = Jvm.exec ∧ c.code = cc ∧ c.maxLocals = nL ∧ s.vm.findClass own = some m.cls ∧ (∀ w ∈ Ts, w.before args s = true) ∧ KE D cid s ∧ (∀ q, s.heap.size ≤ q → A q) ∧ lv_has ls nL lv0 ∧ (own ≠ RL → meth.name = "<init>")
section NJ
variable {Y : YT} {cc : ByteArray} {Ts : List Cond} {own : String} {D : va_G} {cid : Nat → ClassId} {nL : Nat} {R : Room} {A : Nat → Prop} {lv0 : List (Nat × Value)} {l : Launch} {ws : va_W} {ce so pc pc' : Nat} {st : List Value}
theorem nj_aload (C : NC Y cc Ts own D cid nL R A lv0 l) {h0 : Nat} (hd : decode cc pc = .ok (.aload_n 0, 1)) (hl0 : lv0[0]? = some (0, .ref h0)) (hp : pc + 1 = pc') (k : Y ws ce so pc' (.ref h0 :: st)) : Y ws ce so pc st := by
  subst hp
  obtain ⟨p, e, s, m, args, below, meth, c, Q, ls, rfl, hx, hb, hml, hown, hts, hKE, hA, hl, hin⟩ := C
  exact fun H locs hP hD hS => lv_aload_n hx hb hd rfl (lv_at hl 0 hl0) (k H locs hP hD hS)
theorem nj_bipush (C : NC Y cc Ts own D cid nL R A lv0 l) {n : Int} {v : Int32} (hd : decode cc pc = .ok (.bipush n, 2)) (hv : (Int8.ofInt n).toInt32 = v) (hp : pc + 2 = pc') (k : Y ws ce so pc' (.int v :: st)) : Y ws ce so pc st := by
  subst hp
  obtain ⟨p, e, s, m, args, below, meth, c, Q, ls, rfl, hx, hb, hml, hown, hts, hKE, hA, hl, hin⟩ := C
  exact fun H locs hP hD hS => lv_bipush hx hb hd hv (k H locs hP hD hS)
theorem nj_sipush (C : NC Y cc Ts own D cid nL R A lv0 l) {n : Int} {v : Int32} (hd : decode cc pc = .ok (.sipush n, 3)) (hv : (Int16.ofInt n).toInt32 = v) (hp : pc + 3 = pc') (k : Y ws ce so pc' (.int v :: st)) : Y ws ce so pc st := by
  subst hp
  obtain ⟨p, e, s, m, args, below, meth, c, Q, ls, rfl, hx, hb, hml, hown, hts, hKE, hA, hl, hin⟩ := C
  exact fun H locs hP hD hS => lv_sipush hx hb hd hv (k H locs hP hD hS)
theorem nj_iconst (C : NC Y cc Ts own D cid nL R A lv0 l) {n : Int} {v : Int32} (hd : decode cc pc = .ok (.iconst n, 1)) (hv : Int32.ofInt n = v) (hp : pc + 1 = pc') (k : Y ws ce so pc' (.int v :: st)) : Y ws ce so pc st := by
  subst hp
  obtain ⟨p, e, s, m, args, below, meth, c, Q, ls, rfl, hx, hb, hml, hown, hts, hKE, hA, hl, hin⟩ := C
  exact fun H locs hP hD hS => lv_iconst hx hb hd hv (k H locs hP hD hS)
theorem nj_dup (C : NC Y cc Ts own D cid nL R A lv0 l) {q : Nat} (hd : decode cc pc = .ok (.dup, 1)) (hp : pc + 1 = pc') (k : Y ws ce so pc' (.ref q :: .ref q :: st)) : Y ws ce so pc (.ref q :: st) := by
  subst hp
  obtain ⟨p, e, s, m, args, below, meth, c, Q, ls, rfl, hx, hb, hml, hown, hts, hKE, hA, hl, hin⟩ := C
  exact fun H locs hP hD hS => lv_dup hx hb hd rfl (k H locs hP hD hS)
theorem nj_objInit (C : NC Y cc Ts own D cid nL R A lv0 l) {idx : Nat} {q : Nat} (h1 : Cond.methodLink own idx objectInit ∈ Ts) (h2 : Cond.instanceMethod objectInit ∈ Ts) (h3 : Cond.code objectInit ⟨#[0xb1]⟩ 1 none ∈ Ts) (hd : decode cc pc = .ok (.invokespecial idx, 3)) (hR : 1 ≤ R.frames ∧ 12 ≤ R.locals) (hp : pc + 3 = pc') (k : Y ws ce so pc' []) : Y ws ce so pc [.ref q] := by
  subst hp
  obtain ⟨p, e, s, m, args, below, meth, c, Q, ls, rfl, hx, hb, hml, hown, hts, hKE, hA, hl, hin⟩ := C
  intro H locs hP hD hS
  refine W.objInit hx hb hown (hts _ h1) (hts _ h2) (hts _ h3) rfl (by rw [hml]; exact hl.1) rfl hd hR.1 (by have := hR.2; simpa using this) ?_
  exact W.eq (g2 := F0 m (pc + 3) ls []) rfl (k H locs hP hD hS)
theorem nj_newa (C : NC Y cc Ts own D cid nL R A lv0 l) {atype : ArrayType} {ty : FieldType} {cA : ClassId} (t0 : Nat) (ht : (q_T ((D, ((fun _ => 0), cid)) : Gv))[t0]? = some (cA, ty)) (hty : newarray.typeOf atype = ty) (hw : Cond.arrayClass ty ∈ Ts) (hne : ∀ (U : State) (c : ClassId), va_RA U c ty → U.vm.findClass ("[" ++ ty.toString) = some c) {n : Int32} {N' : Nat} {a0 : vp_A} (ha : ∀ cA : ClassId, vp_cell cA a0 = arrV cA N' (fun _ => defaultValue ty)) (hn : ¬ n < 0) (hN : n.toNatClampNeg = N') (hbytes : N' * componentBytes ty ≤ 536870912) (hce : ce + 1 ≤ R.cells) (hso : so + N' ≤ R.slots) (hd : decode cc pc = .ok (.newarray atype, 2)) (hp : pc + 2 = pc') (k : ∀ q : Nat, Y (ws ++ [(q, .inl (cA, a0))]) (ce + 1) (so + N') pc' (.ref q :: st)) : Y ws ce so pc (.int n :: st) := by
  subst hp
  obtain ⟨p, e, s, m, args, below, meth, c, Q, ls, rfl, hx, hb, hml, hown, hts, hKE, hA, hl, hin⟩ := C
  intro H locs hP hD hS
  refine va_newa hx hb (by rw [hty]; exact hts _ hw) hty hKE.1 hP hD hS hA ha hn hN hbytes hce hso hd (fun q cB H1 hK1 hP1 hD1 hS1 => ?_)
  have e1 : cB = cA := by
    have h1 := hne s cB (hK1.2 5 (cB, ty) rfl).2
    have h2 := hne s cA (hKE.1.2 t0 _ ht).2
    exact Option.some.inj (h1.symm.trans h2)
  subst e1
  exact k q H1 locs hP1 hD1 hS1
theorem nj_mna (C : NC Y cc Ts own D cid nL R A lv0 l) {index : Nat} {ty : FieldType} {cy cA : ClassId} (t0 t1 : Nat) (ht : (q_T ((D, ((fun _ => 0), cid)) : Gv))[t0]? = some (cy, ty)) (ht1 : (q_T ((D, ((fun _ => 0), cid)) : Gv))[t1]? = some (cA, .array ty)) (hlk : Cond.classLink own index ("[" ++ (FieldType.array ty).toString) ∈ Ts) (hov : ∀ U : State, qE U → va_AOA ty U) (hw : Cond.arrayClass ty ∈ Ts) (hne : ∀ (U : State) (c : ClassId), va_RA U c ty → U.vm.findClass (FieldType.array ty).toString = some c) {n k9 : Int32} {N' K' : Nat} {z : vp_A} (hn : ¬ n < 0) (hk : ¬ k9 < 0) (hN : n.toNatClampNeg = N') (hM : k9.toNatClampNeg = K')
    (hb1 : N' * 4 ≤ 536870912) (hb2 : K' * componentBytes ty ≤ 536870912) (hb3 : K' ≤ 536870912) (hdf : fits ty (defaultValue ty) = true) (hdd : (defaultValue ty).isDefault = true) (hce : ce + (1 + N') ≤ R.cells) (hso : so + (N' + N' * K') ≤ R.slots) (hz : ∀ c : ClassId, Jvm.Free.Multi.innerC c K' (defaultValue ty) = vp_cell c z) (hd : decode cc pc = .ok (.multianewarray index 2, 4)) (hp : pc + 4 = pc')
    (k : ∀ (q : Nat) (r : Nat → Nat), Y ((ws ++ [(q, .inl (cA, N', .inr (.inr (.inr (.inr (fun i => if i < N' then some (r i) else none))))))]) ++ ((List.range N').map r).map (fun a => (a, .inl (cy, z)))) (ce + 1 + N') (so + N' + N' * K') pc' (.ref q :: st)) : Y ws ce so pc (.int k9 :: .int n :: st) := by
  subst hp
  obtain ⟨p, e, s, m, args, below, meth, c, Q, ls, rfl, hx, hb, hml, hown, hts, hKE, hA, hl, hin⟩ := C
  intro H locs hP hD hS
  have e0 : ws ++ va_pl [] (fun _ => .inl (cy, z)) = ws := List.append_nil ws
  refine va_mna (X := ws) (L := []) (f := fun _ => .inl (cy, z)) (cy := cy) hx hb hown (hts _ hlk) (hov s hKE.2) (hts _ hw) (hne s cy (hKE.1.2 t0 _ ht).2) hKE.1 (by rw [e0]; exact hP) (by rw [e0]; exact hD) hS hA hn hk hN hM hb1 hb2 hb3 hdf hdd hce hso hz hd (fun q r cB H1 _ _ hK1 hP1 hD1 hS1 => ?_)
  have e1 : cB = cA := by
    have h1 : s.vm.findClass ("[" ++ (FieldType.array ty).toString) = some cB := (hK1.2 5 (cB, .array ty) rfl).2
    have h2 : s.vm.findClass ("[" ++ (FieldType.array ty).toString) = some cA := (hKE.1.2 t1 _ ht1).2
    exact Option.some.inj (h1.symm.trans h2)
  subst e1
  have e2 := vr_rows (L := []) (l := (List.range N').map r) (f := fun _ => .inl (cy, z)) (e := .inl (cy, z)) (fun a _ h => by cases h)
  rw [← e2] at hP1 hD1
  exact k q r H1 locs hP1 hD1 hS1
theorem nj_putF (C : NC Y cc Ts own D cid nL R A lv0 l) (ho : own ≠ RL) {h0 ci index N : Nat} {T : u_T} {fs fs' : List Value} {tl : va_W} {ty : FieldType} {v : Value} (hin : ∀ w ∈ u_ws own T N, w ∈ Ts) (ty0 : Nat → FieldType) (hty : ∀ k, k < N → parseFieldDescriptor (T k).2.2.1 = some (ty0 k)) (hnm : ∀ a, a < N → ∀ b, b < N → a ≠ b → (T a).2.1 ≠ (T b).2.1) (hc : vwCl[ci]? = some (own, T, N)) (k : Nat) (hk : k < N) (hlink : Cond.fieldLink own index (T k).1 (T k).2.1 (T k).2.2.1 ∈ Ts) (hfin : (T k).2.2.2 = true) (hdecl : (T k).1 = own) (hdd : parseFieldDescriptor (T k).2.2.1 = some ty) (hn : narrow ty v = v) (hfit : fits ty v = true) (hl9 : k < fs.length) (hd : decode cc pc = .ok (.putfield index, 3)) (hp : pc + 3 = pc') (hs : fs.set k v = fs') (kk : Y ((h0, .inr (ci, fs')) :: tl) ce so pc' st) : Y ((h0, .inr (ci, fs)) :: tl) ce so pc (v :: .ref h0 :: st) := by
  subst hp
  subst hs
  obtain ⟨p, e, s, m, args, below, meth, c, Q, ls, rfl, hx, hb, hml, hown, hts, hKE, hA, hl, hini⟩ := C
  intro H locs hP hD hS
  exact va_putF (D := D) (ci := ci) (v := v) (ty := ty) (C := own) (T := T) (N := N) hx hb hts hin ty0 hty hnm hown hKE.1 hP hD hS 0 rfl hc k hk (hts _ hlink) (fun _ h9 => h9) hfin (hini ho) hdecl hdd hn hfit hl9 hd (fun H1 locs1 hP1 hD1 hS1 => kk H1 locs1 hP1 hD1 hS1)
theorem nj_put (C : NC Y cc Ts own D cid nL R A lv0 l) {h0 ci index N : Nat} {T : u_T} {fs fs' : List Value} {tl : va_W} {ty : FieldType} {v : Value} (hin : ∀ w ∈ u_ws own T N, w ∈ Ts) (ty0 : Nat → FieldType) (hty : ∀ k, k < N → parseFieldDescriptor (T k).2.2.1 = some (ty0 k)) (hnm : ∀ a, a < N → ∀ b, b < N → a ≠ b → (T a).2.1 ≠ (T b).2.1) (hc : vwCl[ci]? = some (own, T, N)) (k : Nat) (hk : k < N) (hlink : Cond.fieldLink own index (T k).1 (T k).2.1 (T k).2.2.1 ∈ Ts) (hfin : (T k).2.2.2 = false) (hdd : parseFieldDescriptor (T k).2.2.1 = some ty) (hn : narrow ty v = v) (hfit : fits ty v = true) (hl9 : k < fs.length) (hd : decode cc pc = .ok (.putfield index, 3)) (hp : pc + 3 = pc') (hs : fs.set k v = fs') (kk : Y ((h0, .inr (ci, fs')) :: tl) ce so pc' st) : Y ((h0, .inr (ci, fs)) :: tl) ce so pc (v :: .ref h0 :: st) := by
  subst hp
  subst hs
  obtain ⟨p, e, s, m, args, below, meth, c, Q, ls, rfl, hx, hb, hml, hown, hts, hKE, hA, hl, hini⟩ := C
  intro H locs hP hD hS
  exact va_put (D := D) (ci := ci) (v := v) (ty := ty) (C := own) (T := T) (N := N) hx hb hts hin ty0 hty hnm hown hKE.1 hP hD hS 0 rfl hc k hk (hts _ hlink) (fun _ h9 => h9) hfin hdd hn hfit hl9 hd (fun H1 locs1 hP1 hD1 hS1 => kk H1 locs1 hP1 hD1 hS1)
theorem nj_new (C : NC Y cc Ts own D cid nL R A lv0 l) {Cn : String} {ci index N : Nat} {T : u_T} {fs : List Value} (hin : ∀ w ∈ u_ws Cn T N, w ∈ Ts) (ty : Nat → FieldType) (hty : ∀ k, k < N → parseFieldDescriptor (T k).2.2.1 = some (ty k)) (h1 : Cond.classLink own index Cn ∈ Ts) (h2 : Cond.instantiable Cn N ∈ Ts) (h3 : Cond.initialized Cn ∈ Ts) (hc : vwCl[ci]? = some (Cn, T, N)) (hfs : ∀ j, j < N → defaultValue (ty j) = vp_V fs j) (hce : ce + 1 ≤ R.cells) (hso : so + N ≤ R.slots) (hd : decode cc pc = .ok (.new index, 3)) (hp : pc + 3 = pc') (k : ∀ q : Nat, Y (ws ++ [(q, .inr (ci, fs))]) (ce + 1) (so + N) pc' (.ref q :: st)) : Y ws ce so pc st := by
  subst hp
  obtain ⟨p, e, s, m, args, below, meth, c, Q, ls, rfl, hx, hb, hml, hown, hts, hKE, hA, hl, hini⟩ := C
  intro H locs hP hD hS
  exact va_new (ci := ci) (fs := fs) (C := Cn) (T := T) (N := N) hx hb hts hin ty hty hown (hts _ h1) (hts _ h2) (hts _ h3) hKE.1 hP hD hS hA hc hfs hce hso hd (fun q H1 hP1 hD1 hS1 => k q H1 locs hP1 hD1 hS1)
end NJ
/-- the world of a new object: its cell, and those that its constructor made -/
def CtN (l : Launch) (y : MethodName) (ws : List Cond) (rm : Room) (D : va_G) (cid : Nat → ClassId) (o : Nat) (fs0 : List Value) (I : List Nat) (mc ms : Nat) (sc : Sc) (ia : Ia) (la : La) : Prop := ∀ h0 sz : Nat, Met l y ws rm (va_Pc [.ref h0] (fun U => U.heap.size = sz ∧ va_P D vwCl [(h0, .inr (o, fs0))] U.heap ∧ KE D cid U)) (va_Qv (fun f : Nat → Nat => f o = h0) (fun f t => va_P D vwCl (y_W I ((D, (f, cid)) : Gv) sc ia la) t.heap ∧ va_D (va_A [(h0, .inr (o, fs0))] sz) (y_W I ((D, (f, cid)) : Gv) sc ia la)) (va_A [(h0, .inr (o, fs0))] sz)) mc ms (va_A [(h0, .inr (o, fs0))] sz)
theorem bj_nd (n : Nat) : va_nd (List.range n) = true := by
  have key : ∀ l : List Nat, l.Nodup → va_nd l = true := by
    intro l
    induction l with
    | nil => intro _; rfl
    | cons a l ih =>
      intro h
      have h2 := List.nodup_cons.mp h
      simp only [va_nd, Bool.and_eq_true, decide_eq_true_eq]
      exact ⟨h2.1, ih h2.2⟩
  exact key _ List.nodup_range
theorem bj_all {wr : va_W} {x : Nat × va_E} : (List.range wr.length).map (fun i => (wr ++ [x])[i]?) = wr.map some := by
  apply List.ext_getElem?
  intro i
  rw [List.getElem?_map, List.getElem?_map]
  by_cases hi : i < wr.length
  · rw [List.getElem?_range hi, List.getElem?_eq_getElem hi]
    simp [List.getElem?_append_left hi, List.getElem?_eq_getElem hi]
  · rw [List.getElem?_eq_none (by simp; omega), List.getElem?_eq_none (by omega)]
    rfl
theorem bj_one {wr : va_W} {x : Nat × va_E} : [wr.length].map (fun i => (wr ++ [x])[i]?) = [x].map some := by
  simp
theorem bj_join {A0 : Nat → Prop} {D : va_G} {wr w1 : va_W} {x : Nat × va_E} {H H1 : Heap} (hP : va_P D vwCl (wr ++ [x]) H) (hD : va_D A0 (wr ++ [x])) (hk : ∀ q : Nat, q < H.size → ¬ va_A [x] H.size q → H1[q]? = H[q]?) (hF : ∀ q, va_A [x] H.size q → A0 q) (hP1 : va_P D vwCl w1 H1) (hD1 : va_D (va_A [x] H.size) w1) : va_P D vwCl (wr ++ w1) H1 ∧ va_D A0 (wr ++ w1) :=
  va_join (wc := [x]) (wr := wr) (w1 := w1) hP hD [wr.length] (List.range wr.length) bj_one bj_all (bj_nd _) (fun i hi h => by
    have h1 := List.mem_range.mp hi
    have h2 := List.mem_singleton.mp h
    omega) hk hF hP1 hD1
section NK
variable {Y : YT} {cc : ByteArray} {Ts : List Cond} {own : String} {D : va_G} {cid : Nat → ClassId} {nL : Nat} {R : Room} {A : Nat → Prop} {lv0 : List (Nat × Value)} {l : Launch} {wr : va_W} {ce so pc pc' : Nat} {st : List Value}
theorem nj_callI (C : NC Y cc Ts own D cid nL R A lv0 l) {y : MethodName} {ws ws' : List Cond} {rm : Room} {o q maxL index mc ms : Nat} {fs0 : List Value} {I : List Nat} {sc : Sc} {ia : Ia} {la : La} {bytes : ByteArray} {rest : List Value} (hM : CtN l y ws rm D cid o fs0 I mc ms sc ia la) (hg : GoodIn Ts ws) (hw : ws = Cond.code y bytes maxL none :: ws') (hrc : rm.cells = mc) (hrs : rm.slots = ms) (h1 : Cond.initialized y.cls ∈ Ts) (h2 : Cond.methodLink own index y ∈ Ts) (h3 : Cond.instanceMethod y ∈ Ts) (hy : y.name = "<init>") (hd9 : y.cls ≠ "java/lang/invoke/MethodHandle" ∧ y.cls ≠ "java/lang/invoke/VarHandle" ∧ (parseMethodDescriptor y.desc).map (fun d => d.parameters.length) = some 0) (hR : rm.frames + 1 ≤ R.frames ∧ 8 + (maxL + 11) + rm.locals ≤ R.locals) (hroom : (rest.map fun v => v.category).sum ≤ 8) (hce : ce + mc ≤ R.cells) (hso : so + ms ≤ R.slots) (hd : decode cc pc = .ok (.invokespecial index, 3)) (hp : pc + 3 = pc')
    (k : ∀ f : Nat → Nat, f o = q → Y (wr ++ y_W I ((D, (f, cid)) : Gv) sc ia la) (ce + mc) (so + ms) pc' rest) : Y (wr ++ [(q, .inr (o, fs0))]) ce so pc (.ref q :: rest) := by
  subst hp
  obtain ⟨p, e, s, m, args, below, meth, c, Q, ls, rfl, hx, hb, hml, hown, hts, hKE, hA, hl, hini⟩ := C
  intro H locs hP hD hS
  have hPc : va_P D vwCl [(q, .inr (o, fs0))] H := fun k9 x9 h9 => hP (wr.length + k9) x9 (by rw [List.getElem?_append_right (Nat.le_add_right _ _), Nat.add_sub_cancel_left]; exact h9)
  have hFc : ∀ q9, va_A [(q, .inr (o, fs0))] H.size q9 → A q9 := va_free (wc := [(q, .inr (o, fs0))]) hD hS hA [wr.length] bj_one
  refine va_callv (va_runI (As := []) (rest := rest) ⟨hx, hb, hml, hown, hts⟩ (hM q H.size) (cwI 0 hts hg hw hrc hrs (hts _ h1) (hts _ h2) (hts _ h3) hy hd9 hR) ⟨fun a U g mk q9 => by obtain ⟨q0, q1, qP, qK⟩ := q9; exact ⟨q0, q1, qP, KE.same (u := U) rfl qK⟩, fun U hU hW => ⟨rfl, by rw [hU], by rw [hU]; exact hPc, KE.warm hW hKE⟩⟩ rfl rfl hl.1 rfl (lv_room hroom) hd ⟨hce, hso⟩) hS (fun q9 _ h => hFc q9 h) hFc (fun f t H1 locs1 ht hvm hw9 hB hz1 hk1 hS1 => ?_)
  obtain ⟨hP1, hD1⟩ := hB
  rw [ht] at hP1
  obtain ⟨hP2, hD2⟩ := bj_join hP hD hk1 hFc hP1 hD1
  exact k f hw9 H1 locs1 hP2 hD2 hS1
theorem nj_callN (C : NC Y cc Ts own D cid nL R A lv0 l) {y : MethodName} {ws ws' : List Cond} {rm : Room} {o q maxL index mc ms : Nat} {fs0 : List Value} {I : List Nat} {sc : Sc} {ia : Ia} {la : La} {bytes : ByteArray} {rest : List Value} {host : String} (hM : CtN l y ws rm D cid o fs0 I mc ms sc ia la) (hg : GoodIn Ts ws) (hw : ws = Cond.code y bytes maxL none :: ws') (hrc : rm.cells = mc) (hrs : rm.slots = ms) (h1 : Cond.initialized y.cls ∈ Ts) (h2 : ∀ U : State, qE U → va_Nw (.methodLinkNest own index y host) U) (h3 : Cond.instanceMethod y ∈ Ts) (hy : y.name = "<init>") (hd9 : y.cls ≠ "java/lang/invoke/MethodHandle" ∧ y.cls ≠ "java/lang/invoke/VarHandle" ∧ (parseMethodDescriptor y.desc).map (fun d => d.parameters.length) = some 0) (hR : rm.frames + 1 ≤ R.frames ∧ 8 + (maxL + 11) + rm.locals ≤ R.locals) (hroom : (rest.map fun v => v.category).sum ≤ 8) (hce : ce + mc ≤ R.cells) (hso : so + ms ≤ R.slots) (hd : decode cc pc = .ok (.invokespecial index, 3)) (hp : pc + 3 = pc')
    (k : ∀ f : Nat → Nat, f o = q → Y (wr ++ y_W I ((D, (f, cid)) : Gv) sc ia la) (ce + mc) (so + ms) pc' rest) : Y (wr ++ [(q, .inr (o, fs0))]) ce so pc (.ref q :: rest) := by
  subst hp
  obtain ⟨p, e, s, m, args, below, meth, c, Q, ls, rfl, hx, hb, hml, hown, hts, hKE, hA, hl, hini⟩ := C
  intro H locs hP hD hS
  have hPc : va_P D vwCl [(q, .inr (o, fs0))] H := fun k9 x9 h9 => hP (wr.length + k9) x9 (by rw [List.getElem?_append_right (Nat.le_add_right _ _), Nat.add_sub_cancel_left]; exact h9)
  have hFc : ∀ q9, va_A [(q, .inr (o, fs0))] H.size q9 → A q9 := va_free (wc := [(q, .inr (o, fs0))]) hD hS hA [wr.length] bj_one
  refine va_callv (va_runIN (As := []) (rest := rest) ⟨hx, hb, hml, hown, hts⟩ (hM q H.size) ⟨va_cnB 0 hts hg hw hrc hrs (h2 s hKE.2) (hts _ h1) hd9 hR, hy, hts _ h3⟩ ⟨fun a U g mk q9 => by obtain ⟨q0, q1, qP, qK⟩ := q9; exact ⟨q0, q1, qP, KE.same (u := U) rfl qK⟩, fun U hU hW => ⟨rfl, by rw [hU], by rw [hU]; exact hPc, KE.warm hW hKE⟩⟩ rfl rfl hl.1 rfl (lv_room hroom) hd ⟨hce, hso⟩) hS (fun q9 _ h => hFc q9 h) hFc (fun f t H1 locs1 ht hvm hw9 hB hz1 hk1 hS1 => ?_)
  obtain ⟨hP1, hD1⟩ := hB
  rw [ht] at hP1
  obtain ⟨hP2, hD2⟩ := bj_join hP hD hk1 hFc hP1 hD1
  exact k f hw9 H1 locs1 hP2 hD2 hS1
theorem y_injD {I : List Nat} {G : Gv} {sc : Sc} {ia : Ia} {la : La} {A : Nat → Prop} (hnd : I.Nodup) (hD : va_D A (y_W I G sc ia la)) : yInj I G.2.1 := by
  refine ⟨hnd, fun i j hi hj hij => ?_⟩
  obtain ⟨a, a1, a2⟩ := y_atE (sc := sc) (ia := ia) (la := la) (G := G) hi rfl
  obtain ⟨b, b1, b2⟩ := y_atE (sc := sc) (ia := ia) (la := la) (G := G) hj rfl
  have e := hD.1 a b _ _ a2 b2 hij
  subst e
  exact Option.some.inj (a1.symm.trans b1)
theorem y_aD {I : List Nat} {G : Gv} {sc : Sc} {ia : Ia} {la : La} {A : Nat → Prop} (hD : va_D A (y_W I G sc ia la)) : ∀ q, yA I G.2.1 q → A q := by
  rintro q ⟨k, hk, rfl⟩
  obtain ⟨a, a1, a2⟩ := y_atE (sc := sc) (ia := ia) (la := la) (G := G) hk rfl
  exact hD.2 a _ a2
theorem nj_callV (C : NC Y cc Ts own D cid nL R A lv0 l) {y : MethodName} {ws ws' : List Cond} {rm : Room} {q maxL index n ci N : Nat} {I : List Nat} {f : Nat → Nat} {sc sc' : Sc} {ia ia' : Ia} {la la' : La} {bytes : ByteArray} {As : List Value} {T : u_T} {fs : List Value} {C9 : String} {rt : Option FieldType} (hM : CtI I l y ws rm ((D, (f, cid)) : Gv) (.ref (f q) :: As) sc ia la (fV sc' ia' la')) (hnd : I.Nodup) (hq : q ∈ I) (hg : GoodIn Ts (wsV own index C9 y ws)) (hw : ws = Cond.code y bytes maxL rt :: ws') (hrc : rm.cells = 0) (hrs : rm.slots = 0) (hyC : y.cls = C9) (hd9 : y.cls ≠ "java/lang/invoke/MethodHandle" ∧ y.cls ≠ "java/lang/invoke/VarHandle" ∧ (parseMethodDescriptor y.desc).map (fun d => d.parameters.length) = some n) (hR : rm.frames + 1 ≤ R.frames ∧ 8 + (maxL + 11) + rm.locals ≤ R.locals) (hn : As.length = n) (he : q_val ((D, (f, cid)) : Gv) sc ia la q = .inr (ci, fs)) (hc : vwCl[ci]? = some (C9, T, N)) (hst : st = As.reverse ++ [.ref (f q)]) (hce : ce ≤ R.cells) (hso : so ≤ R.slots) (hd : decode cc pc = .ok (.invokevirtual index, 3)) (hp : pc + 3 = pc')
    (kk : Y (y_W I ((D, (f, cid)) : Gv) sc' ia' la') ce so pc' []) : Y (y_W I ((D, (f, cid)) : Gv) sc ia la) ce so pc st := by
  subst hp
  obtain ⟨p, e, s, m, args, below, meth, c, Q, ls, rfl, hx, hb, hml, hown, hts, hKE, hA, hl, hini⟩ := C
  intro H locs hP hD hS
  have hJ := y_injD hnd hD
  have hyA := y_aD hD
  obtain ⟨pos, -, hpos⟩ := y_atE (sc := sc) (ia := ia) (la := la) (G := ((D, (f, cid)) : Gv)) hq he
  have hN : qN s := hKE.2.2.2.2.2
  have hr := va_runV (b := f q) (As := As) (rest := []) (g := F0 m pc ls st) (e := e) (below := below) (meth := meth) (locs := locs) (cells := ce) (slots := so) ⟨hx, hb, hml, hown, hts⟩ hM (cwV n hts hg hw hrc hrs ⟨hyC, hd9⟩ hR) ⟨fun a U g mk q => by obtain ⟨q0, qP, qK, qJ, qN9⟩ := q; exact ⟨q0, qP, va_K.moved (u := U) (U := U.calling g mk a) (Vm.Alike.refl U.vm) qK, qJ, fun x hx => va_Nw.same (u := U) rfl rfl (qN9 x hx)⟩, va_recv hKE.1 hP hc hpos, fun U hU hW => ⟨rfl, by rw [hU]; exact hP, va_K.moved hW.alike hKE.1, hJ, fun x hx => va_Nw.warmM hW (hN x hx)⟩⟩ rfl hn hl.1 hst (lv_room (by simp)) hd ⟨hce, hso⟩
  intro T1 hT X
  obtain ⟨v, st₀, t, T', L, h0, X', hL, e1, e2, ⟨⟨v9, sc9, ia9, la9, hv, hF, hI⟩, hz, hkp⟩, sp⟩ := hr T1 hT X
  cases hv
  obtain ⟨rfl, rfl, rfl, rfl⟩ := hF
  rw [h0] at hz hkp
  obtain ⟨t2, a1, b1⟩ := kk T'.heap (locs ++ L) (by rw [e1]; exact hI.1) ((y_D hJ).weaken (fun _ _ _ h => hyA _ h)) ⟨Nat.le_trans hS.1 (by rw [e1]; exact hz), fun q h1 h2 => by rw [e1, hkp q (Nat.lt_of_lt_of_le h1 hS.1) (fun h9 => h2 (hyA q h9))]; exact hS.2.1 q h1 h2, fun q hq => by
      rcases List.mem_append.mp hq with h | h
      · exact hS.2.2 q h
      · exact hyA _ (hL q h)⟩ T' rfl X'
  exact ⟨t2, sp t2 a1, b1⟩
theorem nj_perm (C : NC Y cc Ts own D cid nL R A lv0 l) {ws ws' : va_W} (is : List Nat) (hn : va_nd is = true) (hs : is.map (fun i => ws[i]?) = ws'.map some) (k : Y ws' ce so pc st) : Y ws ce so pc st := by
  obtain ⟨p, e, s, m, args, below, meth, c, Q, ls, rfl, hx, hb, hml, hown, hts, hKE, hA, hl, hini⟩ := C
  intro H locs hP hD hS
  refine k H locs (fun k9 q9 h9 => ?_) (hD.sub is hn hs) hS
  have h1 : (is.map (fun i => ws[i]?))[k9]? = some (some q9) := by rw [hs, List.getElem?_map, h9]; rfl
  rw [List.getElem?_map] at h1
  cases hi : is[k9]? with
  | none => rw [hi] at h1; cases h1
  | some i => rw [hi] at h1; exact hP i q9 (Option.some.inj h1)
end NK
theorem n_of {l : Launch} {y : MethodName} {ws ws' : List Cond} {rm : Room} {D : va_G} {cid : Nat → ClassId} {o : Nat} {fs0 : List Value} {I : List Nat} {mc ms : Nat} {sc : Sc} {ia : Ia} {la : La} {cc : ByteArray} {own : String} (hw : ws = Cond.code y cc 1 none :: ws') (hy : plainName y.cls = true) (ho : y.cls = own) (hi : y.name = "<init>") (body : ∀ (Y : YT) (A : Nat → Prop) (h0 : Nat), NC Y cc ws own D cid 1 rm A [(0, .ref h0)] l → (∀ (f : Nat → Nat) (pc : Nat), decode cc pc = .ok (.return_, 1) → f o = h0 → Y (y_W I ((D, (f, cid)) : Gv) sc ia la) mc ms pc []) → Y [(h0, .inr (o, fs0))] 0 0 0 []) : CtN l y ws rm D cid o fs0 I mc ms sc ia la := by
  subst ho
  intro h0 sz
  refine Met.ofW (cc := cc) (maxL := 1) (ret := none) hy hw ?_
  intro p e s m args below meth c s₁ B hml hv
  obtain ⟨rfl, hsz, hP, hKE⟩ := hv
  have hx := B.exec
  have hb := B.bytes
  have hr := B.returns
  have hts := atoms_spec (ws := ws) B.pre
  have hown : s.vm.findClass y.cls = some m.cls := findClass_of_methodNamed B.named
  have hlocks := B.notSynchronized
  have hin : meth.name = "<init>" := ((name_of_methodNamed B.named B.method).1).trans hi
  subst hsz
  have hl := lv_entry ([.ref h0]) (n := 1) (Nat.le_of_ble_eq_true rfl)
  rw [lg_entry_eq]
  generalize (lg_sl ([.ref h0]) ++ List.replicate (1 - (lg_sl ([.ref h0])).length) Slot.unset).toArray = ls at hl ⊢
  have hl : lv_has ls 1 [(0, .ref h0)] := hl
  refine body (nJ p l e rm s m _ below meth c _ D (va_A [(h0, .inr (o, fs0))] s.heap.size) ls) _ h0 ⟨p, e, s, m, _, below, meth, c, _, ls, rfl, hx, hb, hml, hown, hts, hKE, fun q h => Or.inr h, hl, fun _ => hin⟩ ?_ s.heap [] hP ⟨fun i j a b ha hb9 _ => ?_, fun k q hk => va_A.in hk⟩ va_S.rf
  · intro f pc hd hf H locs hP hD hS
    exact W.vret hx hb hr (fun t ht hW => ⟨⟨f, rfl, hf, by rw [ht]; exact hP, hD⟩, hS.F ht⟩) hS.2.2 hd
  · have h1 := (List.getElem?_eq_some_iff.mp ha).1
    have h2 := (List.getElem?_eq_some_iff.mp hb9).1
    simp at h1 h2
    omega
