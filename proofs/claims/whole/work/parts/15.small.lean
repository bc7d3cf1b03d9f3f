/-! SMALL WORLDS: the cells whose numbers stand in I -/
def y_W (I : List Nat) (G : Gv) (sc : Sc) (ia : Ia) (la : La) : va_W := I.map (fun k => (G.2.1 k, q_val G sc ia la k))
def yInj (I : List Nat) (ad : Nat → Nat) : Prop := I.Nodup ∧ ∀ i j, i ∈ I → j ∈ I → ad i = ad j → i = j
def yA (I : List Nat) (ad : Nat → Nat) : Nat → Prop := fun q => ∃ k, k ∈ I ∧ q = ad k
def InI (I : List Nat) (G : Gv) (sc : Sc) (ia : Ia) (la : La) (U : State) : Prop := va_P G.1 vwCl (y_W I G sc ia la) U.heap ∧ va_K G.1 vwCl (q_T G) U ∧ yInj I G.2.1 ∧ qN U
theorem y_atE {I : List Nat} {G : Gv} {sc : Sc} {ia : Ia} {la : La} {k : Nat} {e : va_E} (hk : k ∈ I) (he : q_val G sc ia la k = e) : ∃ pos : Nat, I[pos]? = some k ∧ (y_W I G sc ia la)[pos]? = some (G.2.1 k, e) := by
  obtain ⟨pos, hp⟩ := List.getElem?_of_mem hk
  refine ⟨pos, hp, ?_⟩
  unfold y_W
  rw [List.getElem?_map, hp, ← he]
  rfl
theorem y_ofAt {I : List Nat} {G : Gv} {sc : Sc} {ia : Ia} {la : La} {pos : Nat} {x : Nat × va_E} (h : (y_W I G sc ia la)[pos]? = some x) : ∃ k, k ∈ I ∧ I[pos]? = some k ∧ x = (G.2.1 k, q_val G sc ia la k) := by
  unfold y_W at h
  rw [List.getElem?_map] at h
  cases hi : I[pos]? with
  | none => rw [hi] at h; cases h
  | some k =>
    rw [hi] at h
    cases h
    exact ⟨k, List.mem_of_getElem? hi, rfl, rfl⟩
theorem y_D {I : List Nat} {G : Gv} {sc : Sc} {ia : Ia} {la : La} (h : yInj I G.2.1) : va_D (yA I G.2.1) (y_W I G sc ia la) := by
  refine ⟨fun i j x y hx hy hxy => ?_, fun k x hx => ?_⟩
  · obtain ⟨a, a1, a2, rfl⟩ := y_ofAt hx
    obtain ⟨b, b1, b2, rfl⟩ := y_ofAt hy
    have e := h.2 a b a1 b1 hxy
    subst e
    exact (List.getElem?_inj (List.getElem?_eq_some_iff.mp a2).1 h.1).mp (a2.trans b2.symm)
  · obtain ⟨a, a1, a2, rfl⟩ := y_ofAt hx
    exact ⟨a, a1, rfl⟩
theorem y_set {I : List Nat} {G : Gv} {sc sc' : Sc} {ia ia' : Ia} {la la' : La} {k pos : Nat} {e : va_E} (hnd : I.Nodup) (hp : I[pos]? = some k) (h : va_up (q_val G sc ia la) k e = q_val G sc' ia' la') : (y_W I G sc ia la).set pos (G.2.1 k, e) = y_W I G sc' ia' la' := by
  apply List.ext_getElem?
  intro i
  unfold y_W
  have hl := (List.getElem?_eq_some_iff.mp hp).1
  rw [List.getElem?_set, List.getElem?_map, List.getElem?_map]
  by_cases hi : pos = i
  · subst hi
    rw [if_pos rfl, hp, if_pos (by simpa using hl), ← h]
    simp [va_up]
  · rw [if_neg hi, ← h]
    cases hr : I[i]? with
    | none => rfl
    | some j =>
      have hj : j ≠ k := fun q => by
        subst q
        exact hi ((List.getElem?_inj hl hnd).mp (hp.trans hr.symm))
      simp [va_up, hj]
def yJ (I : List Nat) (p : Program) (l : Launch) (e : Env) (R : Room) (s : State) (m : MethodId) (args : Array Value) (below : List Frame) (meth : Method) (c : Code) (ce so : Nat) (Q : State → Prop) (G : Gv) (nL : Nat) : ZT := fun sc ia la lv pc st => ∀ (H : Heap) (locs : List Loc) (ls : Array Slot), va_P G.1 vwCl (y_W I G sc ia la) H → va_S (yA I G.2.1) s.heap H locs → lv_has ls nL lv → W p l e R s m args below meth c H locs ce so Q (F0 m pc ls st)
def CCI (I : List Nat) (Z : ZT) (cc : ByteArray) (Ts : List Cond) (own : String) (G : Gv) (nL : Nat) (R : Room) (l : Launch) : Prop := ∃ (p : Program) (e : Env) (s : State) (m : MethodId) (args : Array Value) (below : List Frame) (meth : Method) (c : Code) (ce so : Nat) (Q : State → Prop), Z = yJ I p l e R s m args below meth c ce so Q G nL ∧ p.tables.exec = Jvm.exec ∧ c.code = cc ∧ c.maxLocals = nL ∧ s.vm.findClass own = some m.cls ∧ (∀ w ∈ Ts, w.before args s = true) ∧ va_K G.1 vwCl (q_T G) s ∧ yInj I G.2.1 ∧ qN s
def y_Q (I : List Nat) (G : Gv) (Fn : FinT) : Array Value → State → Outcome → State → Prop := fun _ st oc t => (∃ (v : Option Value) (sc : Sc) (ia : Ia) (la : La), oc = .returned v ∧ Fn v sc ia la ∧ InI I G sc ia la t) ∧ va_F (yA I G.2.1) st t
def CtI (I : List Nat) (l : Launch) (y : MethodName) (ws : List Cond) (rm : Room) (G : Gv) (av : List Value) (sc : Sc) (ia : Ia) (la : La) (Fn : FinT) : Prop := Met l y ws rm (va_Pc av (InI I G sc ia la)) (y_Q I G Fn) 0 0 (yA I G.2.1)
theorem y_of {I : List Nat} {l : Launch} {y : MethodName} {ws ws' : List Cond} {rm : Room} {G : Gv} {av : List Value} {sc : Sc} {ia : Ia} {la : La} {Fn : FinT} {cc : ByteArray} {maxL : Nat} {own : String} (lv : List (Nat × Value)) (hw : ws = Cond.code y cc maxL none :: ws') (hy : plainName y.cls = true) (ho : y.cls = own) (hlen : (lg_sl av).length ≤ maxL) (hlv : lv_args 0 av = lv) (body : ∀ Z : ZT, CCI I Z cc ws own G maxL rm l → (∀ (sc : Sc) (ia : Ia) (la : La) (lv : List (Nat × Value)) (pc : Nat), decode cc pc = .ok (.return_, 1) → Fn none sc ia la → Z sc ia la lv pc []) → Z sc ia la lv 0 []) : CtI I l y ws rm G av sc ia la Fn := by
  subst hlv
  subst ho
  refine Met.ofW (cc := cc) (maxL := maxL) (ret := none) hy hw ?_
  intro p e s m args below meth c s₁ B hml hv
  obtain ⟨rfl, hP, hK, hJ, hN⟩ := hv
  have hx := B.exec
  have hb := B.bytes
  have hr := B.returns
  have hts := atoms_spec (ws := ws) B.pre
  have hown : s.vm.findClass y.cls = some m.cls := findClass_of_methodNamed B.named
  have hlocks := B.notSynchronized
  rw [lg_entry_eq]
  refine body (yJ I p l e rm s m av.toArray below meth c 0 0 (MQ below (y_Q I G Fn) av.toArray s 0 0 (yA I G.2.1)) G maxL) ⟨p, e, s, m, _, below, meth, c, 0, 0, _, rfl, hx, hb, hml, hown, hts, hK, hJ, hN⟩ ?_ s.heap [] _ hP va_S.rf (lv_entry av hlen)
  intro sc ia la lv pc hdg hF H locs ls hP hS hl
  exact W.vret hx hb (by rw [hr]) (fun t ht hW => ⟨⟨_, sc, ia, la, rfl, hF, by rw [ht]; exact hP, va_K.moved hW.alike hK, hJ, fun x hx => va_Nw.warmM hW (hN x hx)⟩, hS.F ht⟩) hS.2.2 hdg
theorem Met_mono {l : Launch} {y : MethodName} {ws : List Cond} {rm : Room} {Pc Pc' : Array Value → State → Prop} {Qc Qc' : Array Value → State → Outcome → State → Prop} {mc ms : Nat} {free free' : Addr → Prop} (h : Met l y ws rm Pc Qc mc ms free) (hp : ∀ a s, Pc' a s → Pc a s) (hq : ∀ a s o t, Pc' a s → Qc a s o t → Qc' a s o t) (hf : ∀ q, free q → free' q) : Met l y ws rm Pc' Qc' mc ms free' := by
  intro p e ha hc hk s m args below hfr happ hP hK
  obtain ⟨n, o, a1, a2, a3, q, L, hF, hL⟩ := h p e ha hc hk s m args below hfr happ (hp _ _ hP) hK
  exact ⟨n, o, a1, a2, a3, hq _ _ _ _ hP q, L, hF, fun x hx => hf _ (hL x hx)⟩
/-- a contract over some cells is one over all -/
theorem y_full {I : List Nat} {l : Launch} {y : MethodName} {ws : List Cond} {rm : Room} {G : Gv} {av : List Value} {sc sc' : Sc} {ia ia' : Ia} {la la' : La} (hI : ∀ k, k ∈ I → k < 86) (hnd : I.Nodup) (hout : ∀ k, k < 86 → k ∉ I → q_val G sc' ia' la' k = q_val G sc ia la k) (hM : CtI I l y ws rm G av sc ia la (fV sc' ia' la')) : Ct l y ws rm G av sc ia la (fV sc' ia' la') := by
  have hA : ∀ q, yA I G.2.1 q → qA G.2.1 q := fun q ⟨k, hk, e⟩ => ⟨k, hI k hk, e⟩
  refine Met_mono hM ?_ ?_ hA
  · rintro a s ⟨e, hP, hK, hJ, hN⟩
    refine ⟨e, ?_, hK, ⟨hnd, fun i j hi hj h => hJ i j (hI i hi) (hI j hj) h⟩, hN⟩
    intro pos x hx
    obtain ⟨k, hk, -, rfl⟩ := y_ofAt hx
    exact hP k _ (q_at (hI k hk))
  · rintro a s o t ⟨e, hP, hK, hJ, hN⟩ ⟨⟨v, sc9, ia9, la9, h1, ⟨rfl, rfl, rfl, rfl⟩, hP1, hK1, hJ1, hN1⟩, hF⟩
    refine ⟨⟨none, sc9, ia9, la9, h1, ⟨rfl, rfl, rfl, rfl⟩, ?_, hK1, hJ, ?_⟩, hF.1, fun q h1 h2 => hF.2 q h1 (fun z => h2 (hA q z))⟩
    · intro k x hx
      have hk : k < 86 := by
        by_cases h : k < 86
        · exact h
        · rw [show (q_W G sc9 ia9 la9)[k]? = none from List.getElem?_eq_none (by simp [q_W]; omega)] at hx
          cases hx
      rw [q_at hk] at hx
      cases hx
      by_cases hin : k ∈ I
      · obtain ⟨pos, -, hp⟩ := y_atE (G := G) (sc := sc9) (ia := ia9) (la := la9) hin rfl
        exact hP1 pos _ hp
      · rw [hout k hk hin]
        have h0 := hP k _ (q_at hk)
        refine h0.kept (hF.2 _ h0.lt ?_)
        rintro ⟨j, hj, e2⟩
        exact hin (hJ k j hk (hI j hj) e2 ▸ hj)
    · exact hN1
section YR
variable {I : List Nat} {Z : ZT} {cc : ByteArray} {Ts : List Cond} {own : String} {G : Gv} {nL : Nat} {R : Room} {l : Launch} {sc sc' : Sc} {ia ia' : Ia} {la la' : La} {lv lv' : List (Nat × Value)} {pc pc' : Nat} {st st' : List Value} {Fn : FinT} {ret : Option FieldType}
theorem y_iconst (C : CCI I Z cc Ts own G nL R l) {n : Int} {v : Int32} (hd : decode cc pc = .ok (.iconst n, 1)) (hv : Int32.ofInt n = v) (hp : pc + 1 = pc') (k : Z sc ia la lv pc' (.int v :: st)) : Z sc ia la lv pc (st) := by
  subst hp
  obtain ⟨p, e, s, m, args, below, meth, c, ce, so, Q, rfl, hx, hb, hml, hown, hts, hK, hJ, hNs⟩ := C
  exact fun H locs ls hP hS hl => lv_iconst hx hb hd hv (k H locs ls hP hS hl)
theorem y_bipush (C : CCI I Z cc Ts own G nL R l) {n : Int} {v : Int32} (hd : decode cc pc = .ok (.bipush n, 2)) (hv : (Int8.ofInt n).toInt32 = v) (hp : pc + 2 = pc') (k : Z sc ia la lv pc' (.int v :: st)) : Z sc ia la lv pc (st) := by
  subst hp
  obtain ⟨p, e, s, m, args, below, meth, c, ce, so, Q, rfl, hx, hb, hml, hown, hts, hK, hJ, hNs⟩ := C
  exact fun H locs ls hP hS hl => lv_bipush hx hb hd hv (k H locs ls hP hS hl)
theorem y_ldc (C : CCI I Z cc Ts own G nL R l) {index : Nat} {v : Int32} (hc : Cond.constant own index v ∈ Ts) (hd : decode cc pc = .ok (.ldc index, 2)) (hp : pc + 2 = pc') (k : Z sc ia la lv pc' (.int v :: st)) : Z sc ia la lv pc (st) := by
  subst hp
  obtain ⟨p, e, s, m, args, below, meth, c, ce, so, Q, rfl, hx, hb, hml, hown, hts, hK, hJ, hNs⟩ := C
  exact fun H locs ls hP hS hl => lv_ldc hx hb hown (hts _ hc) hd (k H locs ls hP hS hl)
theorem y_iload_n (C : CCI I Z cc Ts own G nL R l) {k9 : Fin 4} {i : Nat} {x : Int32} (hd : decode cc pc = .ok (.iload_n k9, 1)) (hi : (k9 : Nat) = i) (q : Nat) (hq : lv[q]? = some (i, .int x)) (hp : pc + 1 = pc') (k : Z sc ia la lv pc' (.int x :: st)) : Z sc ia la lv pc (st) := by
  subst hp
  obtain ⟨p, e, s, m, args, below, meth, c, ce, so, Q, rfl, hx, hb, hml, hown, hts, hK, hJ, hNs⟩ := C
  exact fun H locs ls hP hS hl => lv_iload_n hx hb hd hi (lv_at hl q hq) (k H locs ls hP hS hl)
theorem y_aload_n (C : CCI I Z cc Ts own G nL R l) {k9 : Fin 4} {i : Nat} {x : Nat} (hd : decode cc pc = .ok (.aload_n k9, 1)) (hi : (k9 : Nat) = i) (q : Nat) (hq : lv[q]? = some (i, .ref x)) (hp : pc + 1 = pc') (k : Z sc ia la lv pc' (.ref x :: st)) : Z sc ia la lv pc (st) := by
  subst hp
  obtain ⟨p, e, s, m, args, below, meth, c, ce, so, Q, rfl, hx, hb, hml, hown, hts, hK, hJ, hNs⟩ := C
  exact fun H locs ls hP hS hl => lv_aload_n hx hb hd hi (lv_at hl q hq) (k H locs ls hP hS hl)
theorem y_iload (C : CCI I Z cc Ts own G nL R l) {i : Nat} {x : Int32} (hd : decode cc pc = .ok (.iload i, 2)) (q : Nat) (hq : lv[q]? = some (i, .int x)) (hp : pc + 2 = pc') (k : Z sc ia la lv pc' (.int x :: st)) : Z sc ia la lv pc (st) := by
  subst hp
  obtain ⟨p, e, s, m, args, below, meth, c, ce, so, Q, rfl, hx, hb, hml, hown, hts, hK, hJ, hNs⟩ := C
  exact fun H locs ls hP hS hl => lv_iload hx hb hd (lv_at hl q hq) (k H locs ls hP hS hl)
theorem y_istore_n (C : CCI I Z cc Ts own G nL R l) {k9 : Fin 4} {i : Nat} {x : Int32} (hd : decode cc pc = .ok (.istore_n k9, 1)) (hi : (k9 : Nat) = i) (hn : i < nL) (hl : (i, Value.int x) :: lv.filter (fun q => !(q.1 == i) && !(q.1 + 1 == i && q.2.category == 2)) = lv') (hp : pc + 1 = pc') (k : Z sc ia la lv' pc' (st)) : Z sc ia la lv pc (.int x :: st) := by
  subst hp
  obtain ⟨p, e, s, m, args, below, meth, c, ce, so, Q, rfl, hx, hb, hml, hown, hts, hK, hJ, hNs⟩ := C
  exact fun H locs ls hP hS hl => lv_istore_n hx hb hd hi hl hn (by assumption) (fun ls hl => k H locs ls hP hS hl)
theorem y_istore (C : CCI I Z cc Ts own G nL R l) {i : Nat} {x : Int32} (hd : decode cc pc = .ok (.istore i, 2)) (hn : i < nL) (hl : (i, Value.int x) :: lv.filter (fun q => !(q.1 == i) && !(q.1 + 1 == i && q.2.category == 2)) = lv') (hp : pc + 2 = pc') (k : Z sc ia la lv' pc' (st)) : Z sc ia la lv pc (.int x :: st) := by
  subst hp
  obtain ⟨p, e, s, m, args, below, meth, c, ce, so, Q, rfl, hx, hb, hml, hown, hts, hK, hJ, hNs⟩ := C
  exact fun H locs ls hP hS hl => lv_istore hx hb hd hl hn (by assumption) (fun ls hl => k H locs ls hP hS hl)
theorem y_iinc (C : CCI I Z cc Ts own G nL R l) {i k9 : Nat} {n : Int} {x v : Int32} (hd : decode cc pc = .ok (.iinc i n, 3)) (hk : lv[k9]? = some (i, .int x)) (hv : x + Int32.ofInt n = v) (hn : i < nL) (hl : (i, Value.int v) :: lv.filter (fun q => !(q.1 == i) && !(q.1 + 1 == i && q.2.category == 2)) = lv') (hp : pc + 3 = pc') (k : Z sc ia la lv' pc' (st)) : Z sc ia la lv pc (st) := by
  subst hp
  obtain ⟨p, e, s, m, args, below, meth, c, ce, so, Q, rfl, hx, hb, hml, hown, hts, hK, hJ, hNs⟩ := C
  exact fun H locs ls hP hS hl => lv_iinc hx hb hd hl hk hv hn (by assumption) (fun ls hl => k H locs ls hP hS hl)
theorem y_sub (C : CCI I Z cc Ts own G nL R l) (ks : List Nat) (hl9 : lv_pick lv ks = lv') (k : Z sc ia la lv' pc st) : Z sc ia la lv pc st := by
  obtain ⟨p, e, s, m, args, below, meth, c, ce, so, Q, rfl, hx, hb, hml, hown, hts, hK, hJ, hNs⟩ := C
  exact fun H locs ls hP hS hl => k H locs ls hP hS (lv_sub hl ks hl9)
theorem y_goto (C : CCI I Z cc Ts own G nL R l) {off : Int} (hd : decode cc pc = .ok (.goto off, 3)) (ht : (pc : Int) + off = (pc' : Int)) (k : Z sc ia la lv pc' st) : Z sc ia la lv pc st := by
  obtain ⟨p, e, s, m, args, below, meth, c, ce, so, Q, rfl, hx, hb, hml, hown, hts, hK, hJ, hNs⟩ := C
  exact fun H locs ls hP hS hl => lv_goto hx hb hd ht (k H locs ls hP hS hl)
theorem y_icmpN_ge (C : CCI I Z cc Ts own G nL R l) {a b : Nat} {off : Int} (tgt : Nat) (ha9 : a < 2 ^ 31) (hb9 : b < 2 ^ 31) (hd : decode cc pc = .ok (.if_icmp .ge off, 3)) (ht : (pc : Int) + off = (tgt : Int)) (hp : pc + 3 = pc') (kt : b ≤ a → Z sc ia la lv tgt st) (kf : a < b → Z sc ia la lv pc' st) : Z sc ia la lv pc (.int (nI b) :: .int (nI a) :: st) := by
  subst hp
  obtain ⟨p, e, s, m, args, below, meth, c, ce, so, Q, rfl, hx, hb, hml, hown, hts, hK, hJ, hNs⟩ := C
  exact fun H locs ls hP hS hl => lv_icmp_ge hx hb hd ht (fun h => kt ((nI_leI hb9 ha9).mp h) H locs ls hP hS hl) (fun h => kf (Nat.not_le.mp (fun q => h ((nI_leI hb9 ha9).mpr q))) H locs ls hP hS hl)
theorem y_icmpN_gt (C : CCI I Z cc Ts own G nL R l) {a b : Nat} {off : Int} (tgt : Nat) (ha9 : a < 2 ^ 31) (hb9 : b < 2 ^ 31) (hd : decode cc pc = .ok (.if_icmp .gt off, 3)) (ht : (pc : Int) + off = (tgt : Int)) (hp : pc + 3 = pc') (kt : b < a → Z sc ia la lv tgt st) (kf : a ≤ b → Z sc ia la lv pc' st) : Z sc ia la lv pc (.int (nI b) :: .int (nI a) :: st) := by
  subst hp
  obtain ⟨p, e, s, m, args, below, meth, c, ce, so, Q, rfl, hx, hb, hml, hown, hts, hK, hJ, hNs⟩ := C
  exact fun H locs ls hP hS hl => lv_icmp_gt hx hb hd ht (fun h => kt ((nI_ltI hb9 ha9).mp h) H locs ls hP hS hl) (fun h => kf (Nat.not_lt.mp (fun q => h ((nI_ltI hb9 ha9).mpr q))) H locs ls hP hS hl)
theorem y_get (C : CCI I Z cc Ts own G nL R l) {C9 : String} {T : u_T} {N ci index : Nat} (hin : ∀ w ∈ u_ws C9 T N, w ∈ Ts) (q : Nat) (hq : q ∈ I) {fs : List Value} (he : q_val G sc ia la q = .inr (ci, fs)) (hc : vwCl[ci]? = some (C9, T, N)) (j : Nat) (hj : j < N) (hlink : Cond.fieldLink own index (T j).1 (T j).2.1 (T j).2.2.1 ∈ Ts) {v : Value} (hv : fs[j]? = some v) (hd : decode cc pc = .ok (.getfield index, 3)) (hp : pc + 3 = pc') (k : Z sc ia la lv pc' (v :: st)) : Z sc ia la lv pc (.ref (G.2.1 q) :: st) := by
  subst hp
  obtain ⟨p, e, s, m, args, below, meth, c, ce, so, Q, rfl, hx, hb, hml, hown, hts, hK, hJ, hNs⟩ := C
  obtain ⟨pos, -, hpos⟩ := y_atE hq he
  exact fun H locs ls hP hS hl => va_get (ref := (T j).1) hx hb hts hin hown hK hP pos hpos hc j hj (hts _ hlink) (fun _ h9 => h9) hv hd (k H locs ls hP hS hl)
theorem y_put (C : CCI I Z cc Ts own G nL R l) {C9 : String} {T : u_T} {N ci index : Nat} (hin : ∀ w ∈ u_ws C9 T N, w ∈ Ts) (ty0 : Nat → FieldType) (hty : ∀ k, k < N → parseFieldDescriptor (T k).2.2.1 = some (ty0 k)) (hnm : ∀ a, a < N → ∀ b, b < N → a ≠ b → (T a).2.1 ≠ (T b).2.1) (q : Nat) (hq : q ∈ I) {fs : List Value} (he : q_val G sc ia la q = .inr (ci, fs)) (hc : vwCl[ci]? = some (C9, T, N)) (j : Nat) (hj : j < N) (hlink : Cond.fieldLink own index (T j).1 (T j).2.1 (T j).2.2.1 ∈ Ts) (hfin : (T j).2.2.2 = false) {v : Int32} (hdt : parseFieldDescriptor (T j).2.2.1 = some .int) (hlen : j < fs.length) (hu : va_up (q_val G sc ia la) q (.inr (ci, fs.set j (.int v))) = q_val G sc' ia' la') (hd : decode cc pc = .ok (.putfield index, 3)) (hp : pc + 3 = pc') (k : Z sc' ia' la' lv pc' st) : Z sc ia la lv pc (.int v :: .ref (G.2.1 q) :: st) := by
  subst hp
  obtain ⟨p, e, s, m, args, below, meth, c, ce, so, Q, rfl, hx, hb, hml, hown, hts, hK, hJ, hNs⟩ := C
  obtain ⟨pos, hpI, hpos⟩ := y_atE hq he
  exact fun H locs ls hP hS hl => va_put (ref := (T j).1) hx hb hts hin ty0 hty hnm hown hK hP (y_D hJ) hS pos hpos hc j hj (hts _ hlink) (fun _ h9 => h9) hfin hdt rfl rfl hlen hd (fun H1 locs1 hP1 _ hS1 => k H1 locs1 ls (by rw [y_set hJ.1 hpI hu] at hP1; exact hP1) hS1 hl)
theorem y_iast (C : CCI I Z cc Ts own G nL R l) (q : Nat) (hq : q ∈ I) {N i : Nat} {f : Nat → Int32} {x : Int32} (he : q_val G sc ia la q = .inl (G.2.2 0, N, .inl f)) (hi : i < N) (hN : N < 2 ^ 31) (hu : va_up (q_val G sc ia la) q (.inl (G.2.2 0, N, .inl (upd f i x))) = q_val G sc' ia' la') (hd : decode cc pc = .ok (.iastore, 1)) (hp : pc + 1 = pc') (k : Z sc' ia' la' lv pc' st) : Z sc ia la lv pc (.int x :: .int (nI i) :: .ref (G.2.1 q) :: st) := by
  subst hp
  obtain ⟨p, e, s, m, args, below, meth, c, ce, so, Q, rfl, hx, hb, hml, hown, hts, hK, hJ, hNs⟩ := C
  obtain ⟨pos, hpI, hpos⟩ := y_atE hq he
  refine fun H locs ls hP hS hl => va_iast hx hb hK hP (y_D hJ) hS pos 0 hpos rfl (vp_in_nI hi hN) hd (fun H1 locs1 hP1 _ hS1 => ?_)
  rw [nI_clamp (Nat.lt_trans hi hN), y_set hJ.1 hpI hu] at hP1
  exact k H1 locs1 ls hP1 hS1 hl
theorem y_zast (C : CCI I Z cc Ts own G nL R l) (q : Nat) (hq : q ∈ I) {N i : Nat} {f : Nat → Int32} {x : Int32} (hx9 : vp_nar .boolean x = x) (he : q_val G sc ia la q = .inl (G.2.2 2, N, .inl f)) (hi : i < N) (hN : N < 2 ^ 31) (hu : va_up (q_val G sc ia la) q (.inl (G.2.2 2, N, .inl (upd f i x))) = q_val G sc' ia' la') (hd : decode cc pc = .ok (.bastore, 1)) (hp : pc + 1 = pc') (k : Z sc' ia' la' lv pc' st) : Z sc ia la lv pc (.int x :: .int (nI i) :: .ref (G.2.1 q) :: st) := by
  subst hp
  obtain ⟨p, e, s, m, args, below, meth, c, ce, so, Q, rfl, hx, hb, hml, hown, hts, hK, hJ, hNs⟩ := C
  obtain ⟨pos, hpI, hpos⟩ := y_atE hq he
  refine fun H locs ls hP hS hl => va_zast hx hb hK hP (y_D hJ) hS pos 2 hpos rfl (vp_in_nI hi hN) hd (fun H1 locs1 hP1 _ hS1 => ?_)
  rw [nI_clamp (Nat.lt_trans hi hN), hx9, y_set hJ.1 hpI hu] at hP1
  exact k H1 locs1 ls hP1 hS1 hl
theorem y_aald (C : CCI I Z cc Ts own G nL R l) (q : Nat) (hq : q ∈ I) {N i t0 : Nat} {ty : FieldType} {f : Nat → Option Nat} (hT : (q_T G)[t0]? = some (G.2.2 t0, .array ty)) (he : q_val G sc ia la q = .inl (G.2.2 t0, N, .inr (.inr (.inr (.inr f))))) (hi : i < N) (hN : N < 2 ^ 31) {a : Nat} (hf : f i = some a) (hd : decode cc pc = .ok (.aaload, 1)) (hp : pc + 1 = pc') (k : Z sc ia la lv pc' (.ref a :: st)) : Z sc ia la lv pc (.int (nI i) :: .ref (G.2.1 q) :: st) := by
  subst hp
  obtain ⟨p, e, s, m, args, below, meth, c, ce, so, Q, rfl, hx, hb, hml, hown, hts, hK, hJ, hNs⟩ := C
  obtain ⟨pos, hpI, hpos⟩ := y_atE hq he
  have hin : vp_in (nI i) N := vp_in_nI hi hN
  have hc : (nI i).toNatClampNeg = i := nI_clamp (Nat.lt_trans hi hN)
  refine fun H locs ls hP hS hl => W.aald (v := .ref a) (ty := .array ty) hx hb (hP pos _ hpos) ((hK.2 t0 _ hT).1 N (fun j => va_rf (f j))) rfl (fun q => by cases q) (by show ¬ (nI i < 0 ∨ (arrV _ _ _).slots.size ≤ _); rw [arrV_size]; exact hin) (by show (arrV _ _ _).slots[_]? = _; rw [hc, arrV_read _ _ hi]; rw [hf]; rfl) rfl rfl hd (k H locs ls hP hS hl)
theorem y_vret {E : ∀ (sc : Sc) (ia : Ia) (la : La) (lv : List (Nat × Value)) (pc : Nat), decode cc pc = .ok (.return_, 1) → Fn none sc ia la → Z sc ia la lv pc []} (hret : (none : Option FieldType) = none) (hd : decode cc pc = .ok (.return_, 1)) (hF : Fn none sc ia la) : Z sc ia la lv pc [] := E sc ia la lv pc hd hF
end YR
def f_fill (v : Int32) (f : Nat → Int32) : Nat → (Nat → Int32)
  | 0 => f
  | k + 1 => upd (f_fill v f k) k v
theorem f_fill_at (v : Int32) (f : Nat → Int32) {j k : Nat} (h : j < k) : f_fill v f k j = v := by
  induction k with
  | zero => omega
  | succ k ih =>
    show upd (f_fill v f k) k v j = v
    by_cases e : j = k
    · simp [upd, e]
    · simp [upd, e]; exact ih (by omega)
theorem f_fill_ge (v : Int32) (f : Nat → Int32) {j k : Nat} (h : k ≤ j) : f_fill v f k j = f j := by
  induction k with
  | zero => rfl
  | succ k ih =>
    show upd (f_fill v f k) k v j = f j
    have e : ¬ j = k := by omega
    simp [upd, e]; exact ih (by omega)
def I_net : List Nat := [2, 7, 8, 9, 10, 11, 12, 13, 14]
def I_pairs : List Nat := [3, 51, 52, 26, 27, 28, 29, 30, 31, 32, 33, 34, 35]
def I_sheet : List Nat := [4, 50, 17, 18, 19, 20, 21, 22, 23, 24, 25]
def I_mod : List Nat := [6, 36, 37, 38, 39, 40, 41, 42, 85, 43, 44, 45, 46, 47, 48]
/-- the state as the net's eight rows are filled up to k -/
def a_net (ia : Ia) (k : Nat) : Ia := fun a => if a = 0 then f_fill 0 (ia 0) k else if a = 1 then f_fill 0 (ia 1) k else if a = 2 then f_fill 1 (ia 2) k else if a = 3 then f_fill 0 (ia 3) k else if a = 4 then f_fill 0 (ia 4) k else if a = 5 then f_fill 100000 (ia 5) k else if a = 6 then f_fill 0 (ia 6) k else if a = 7 then f_fill 0 (ia 7) k else ia a
def a_mod (ia : Ia) (k : Nat) : Ia := fun a => if a = 29 then f_fill 0 (ia 29) k else if a = 30 then f_fill 0 (ia 30) k else if a = 31 then f_fill 1 (ia 31) k else if a = 32 then f_fill 0 (ia 32) k else if a = 33 then f_fill 0 (ia 33) k else if a = 34 then f_fill 0 (ia 34) k else if a = 35 then f_fill 100000 (ia 35) k else ia a
def a_sh (ia : Ia) (r c : Nat) : Ia := fun a => if 10 ≤ a ∧ a < 10 + r then f_fill 0 (ia a) 9 else if a = 10 + r then f_fill 0 (ia a) c else ia a
def a_pr (ia : Ia) (r c : Nat) : Ia := fun a => if (19 ≤ a ∧ a < 19 + r) ∨ (24 ≤ a ∧ a < 24 + r) then f_fill 0 (ia a) 5 else if a = 19 + r ∨ a = 24 + r then f_fill 0 (ia a) c else ia a
set_option maxHeartbeats 4000000 in
set_option maxRecDepth 100000 in
theorem cy_X2_startAnew (l : Launch) (G : Gv) (sc : Sc) (ia : Ia) (la : La) (v : Int32)  : CtI I_net l yX2_startAnew wsX2_startAnew ({ frames := 0, cells := 0, slots := 0, locals := 0 }) G [.ref (G.2.1 2), .int v] sc ia la (fV (va_up sc 0 v) (a_net ia 32) la) := by
  have hU2 : ∀ w ∈ u_ws RX2 TX2 9, w ∈ wsX2_startAnew := fun w h => List.mem_cons_of_mem _ (List.mem_append_right _ h)
  refine y_of (I := I_net) (maxL := 3) (own := RX2) [(0, .ref (G.2.1 2)), (1, .int v)] rfl (by decide +kernel) rfl (Nat.le_of_ble_eq_true rfl) rfl (fun Z C E => ?_)
  refine y_aload_n (pc' := 1) C dX2_startAnew_0 rfl 0 rfl rfl ?_
  refine y_iload_n (pc' := 2) C dX2_startAnew_1 rfl 1 rfl rfl ?_
  refine y_put (pc' := 5) C hU2 tyX2 tyX2_ok nmX2 2 (by decide) q_o2 rfl 0 (by decide) (by decide +kernel) rfl rfl (Nat.le_of_ble_eq_true rfl) (q_s0 _) dX2_startAnew_2 rfl ?_
  refine y_iconst (v := 0) (pc' := 6) C dX2_startAnew_5 rfl rfl ?_
  refine y_istore_n (lv' := [(2, .int 0), (0, .ref (G.2.1 2)), (1, .int v)]) (pc' := 7) C dX2_startAnew_6 rfl (by decide) rfl rfl ?_
  have L7 : ∀ (fuel : Nat) (k : Nat) (hk : k ≤ 32), 32 - k < fuel → Z (va_up sc 0 v) (a_net ia k) la [(2, .int (nI k)), (0, .ref (G.2.1 2))] 7 [] := by
    intro fuel
    induction fuel with
    | zero => intro k hk hm7; exact absurd hm7 (Nat.not_lt_zero _)
    | succ fuel ih7 =>
      intro k hk hm7
      refine y_iload_n (pc' := 8) C dX2_startAnew_7 rfl 0 rfl rfl ?_
      refine y_bipush (v := 32) (pc' := 10) C dX2_startAnew_8 rfl rfl ?_
      refine y_icmpN_ge (a := k) (b := 32) (pc' := 13) C 76 (by omega) (by omega) dX2_startAnew_10 rfl rfl (fun h_10 => ?_) (fun h_10 => ?_)
      · exact y_vret (E := E) rfl dX2_startAnew_76 ⟨rfl, rfl, (by first | rfl | (have e9 : k = 32 := (by omega); subst e9; rfl)), rfl⟩
      · refine y_aload_n (pc' := 14) C dX2_startAnew_13 rfl 1 rfl rfl ?_
        refine y_get (pc' := 17) C hU2 2 (by decide) q_o2 rfl 1 (by decide) (by decide +kernel) (v := .ref (G.2.1 7)) rfl dX2_startAnew_14 rfl ?_
        refine y_iload_n (pc' := 18) C dX2_startAnew_17 rfl 0 rfl rfl ?_
        refine y_iconst (v := 0) (pc' := 19) C dX2_startAnew_18 rfl rfl ?_
        refine y_iast (pc' := 20) C 7 (by decide) (N := 32) (i := k) (f := f_fill 0 (ia 0) k) q_i0 (by omega) (by decide) (q_u0 _) dX2_startAnew_19 rfl ?_
        refine y_aload_n (pc' := 21) C dX2_startAnew_20 rfl 1 rfl rfl ?_
        refine y_get (pc' := 24) C hU2 2 (by decide) q_o2 rfl 2 (by decide) (by decide +kernel) (v := .ref (G.2.1 8)) rfl dX2_startAnew_21 rfl ?_
        refine y_iload_n (pc' := 25) C dX2_startAnew_24 rfl 0 rfl rfl ?_
        refine y_iconst (v := 0) (pc' := 26) C dX2_startAnew_25 rfl rfl ?_
        refine y_iast (pc' := 27) C 8 (by decide) (N := 32) (i := k) (f := f_fill 0 (ia 1) k) q_i1 (by omega) (by decide) (q_u1 _) dX2_startAnew_26 rfl ?_
        refine y_aload_n (pc' := 28) C dX2_startAnew_27 rfl 1 rfl rfl ?_
        refine y_get (pc' := 31) C hU2 2 (by decide) q_o2 rfl 3 (by decide) (by decide +kernel) (v := .ref (G.2.1 9)) rfl dX2_startAnew_28 rfl ?_
        refine y_iload_n (pc' := 32) C dX2_startAnew_31 rfl 0 rfl rfl ?_
        refine y_iconst (v := 1) (pc' := 33) C dX2_startAnew_32 rfl rfl ?_
        refine y_iast (pc' := 34) C 9 (by decide) (N := 32) (i := k) (f := f_fill 1 (ia 2) k) q_i2 (by omega) (by decide) (q_u2 _) dX2_startAnew_33 rfl ?_
        refine y_aload_n (pc' := 35) C dX2_startAnew_34 rfl 1 rfl rfl ?_
        refine y_get (pc' := 38) C hU2 2 (by decide) q_o2 rfl 4 (by decide) (by decide +kernel) (v := .ref (G.2.1 10)) rfl dX2_startAnew_35 rfl ?_
        refine y_iload_n (pc' := 39) C dX2_startAnew_38 rfl 0 rfl rfl ?_
        refine y_iconst (v := 0) (pc' := 40) C dX2_startAnew_39 rfl rfl ?_
        refine y_iast (pc' := 41) C 10 (by decide) (N := 32) (i := k) (f := f_fill 0 (ia 3) k) q_i3 (by omega) (by decide) (q_u3 _) dX2_startAnew_40 rfl ?_
        refine y_aload_n (pc' := 42) C dX2_startAnew_41 rfl 1 rfl rfl ?_
        refine y_get (pc' := 45) C hU2 2 (by decide) q_o2 rfl 5 (by decide) (by decide +kernel) (v := .ref (G.2.1 11)) rfl dX2_startAnew_42 rfl ?_
        refine y_iload_n (pc' := 46) C dX2_startAnew_45 rfl 0 rfl rfl ?_
        refine y_iconst (v := 0) (pc' := 47) C dX2_startAnew_46 rfl rfl ?_
        refine y_iast (pc' := 48) C 11 (by decide) (N := 32) (i := k) (f := f_fill 0 (ia 4) k) q_i4 (by omega) (by decide) (q_u4 _) dX2_startAnew_47 rfl ?_
        refine y_aload_n (pc' := 49) C dX2_startAnew_48 rfl 1 rfl rfl ?_
        refine y_get (pc' := 52) C hU2 2 (by decide) q_o2 rfl 6 (by decide) (by decide +kernel) (v := .ref (G.2.1 12)) rfl dX2_startAnew_49 rfl ?_
        refine y_iload_n (pc' := 53) C dX2_startAnew_52 rfl 0 rfl rfl ?_
        refine y_ldc (v := 100000) (pc' := 55) C (by decide +kernel) dX2_startAnew_53 rfl ?_
        refine y_iast (pc' := 56) C 12 (by decide) (N := 32) (i := k) (f := f_fill 100000 (ia 5) k) q_i5 (by omega) (by decide) (q_u5 _) dX2_startAnew_55 rfl ?_
        refine y_aload_n (pc' := 57) C dX2_startAnew_56 rfl 1 rfl rfl ?_
        refine y_get (pc' := 60) C hU2 2 (by decide) q_o2 rfl 7 (by decide) (by decide +kernel) (v := .ref (G.2.1 13)) rfl dX2_startAnew_57 rfl ?_
        refine y_iload_n (pc' := 61) C dX2_startAnew_60 rfl 0 rfl rfl ?_
        refine y_iconst (v := 0) (pc' := 62) C dX2_startAnew_61 rfl rfl ?_
        refine y_zast (pc' := 63) C 13 (by decide) (N := 32) (i := k) (f := f_fill 0 (ia 6) k) (rfl) q_i6 (by omega) (by decide) (q_u6 _) dX2_startAnew_62 rfl ?_
        refine y_aload_n (pc' := 64) C dX2_startAnew_63 rfl 1 rfl rfl ?_
        refine y_get (pc' := 67) C hU2 2 (by decide) q_o2 rfl 8 (by decide) (by decide +kernel) (v := .ref (G.2.1 14)) rfl dX2_startAnew_64 rfl ?_
        refine y_iload_n (pc' := 68) C dX2_startAnew_67 rfl 0 rfl rfl ?_
        refine y_iconst (v := 0) (pc' := 69) C dX2_startAnew_68 rfl rfl ?_
        refine y_zast (pc' := 70) C 14 (by decide) (N := 32) (i := k) (f := f_fill 0 (ia 7) k) (rfl) q_i7 (by omega) (by decide) (q_u7 _) dX2_startAnew_69 rfl ?_
        refine y_iinc (v := nI (k + 1)) (k9 := 0) (lv' := [(2, .int (nI (k + 1))), (0, .ref (G.2.1 2))]) (pc' := 73) C dX2_startAnew_70 rfl (nI_1 k) (by decide) rfl rfl ?_
        refine y_goto (pc' := 7) C dX2_startAnew_73 rfl ?_
        exact z_cast rfl (by funext a; unfold a_net va_up; by_cases q0 : a = 7; (subst q0; rfl); by_cases q1 : a = 6; (subst q1; rfl); by_cases q2 : a = 5; (subst q2; rfl); by_cases q3 : a = 4; (subst q3; rfl); by_cases q4 : a = 3; (subst q4; rfl); by_cases q5 : a = 2; (subst q5; rfl); by_cases q6 : a = 1; (subst q6; rfl); by_cases q7 : a = 0; (subst q7; rfl); simp [q0, q1, q2, q3, q4, q5, q6, q7]) rfl rfl rfl (ih7 (k + 1) (by omega) (by omega))
  refine y_sub (lv' := [(2, .int 0), (0, .ref (G.2.1 2))]) C [0, 1] rfl ?_
  exact z_cast rfl (by first | rfl | (funext a; unfold a_net; repeat (first | rfl | (split; (rename_i q9; subst q9; rfl))))) rfl rfl rfl (L7 (_ + 1) 0 (by omega) (Nat.lt_succ_self _))

set_option maxHeartbeats 4000000 in
set_option maxRecDepth 100000 in
theorem cy_X6_begin (l : Launch) (G : Gv) (sc : Sc) (ia : Ia) (la : La) (v : Int32)  : CtI I_mod l yX6_begin wsX6_begin ({ frames := 0, cells := 0, slots := 0, locals := 0 }) G [.ref (G.2.1 6), .int v] sc ia la (fV (va_up sc 7 v) (a_mod ia 32) la) := by
  have hU6 : ∀ w ∈ u_ws RX6 TX6 25, w ∈ wsX6_begin := fun w h => List.mem_cons_of_mem _ (List.mem_append_right _ h)
  refine y_of (I := I_mod) (maxL := 3) (own := RX6) [(0, .ref (G.2.1 6)), (1, .int v)] rfl (by decide +kernel) rfl (Nat.le_of_ble_eq_true rfl) rfl (fun Z C E => ?_)
  refine y_aload_n (pc' := 1) C dX6_begin_0 rfl 0 rfl rfl ?_
  refine y_iload_n (pc' := 2) C dX6_begin_1 rfl 1 rfl rfl ?_
  refine y_put (pc' := 5) C hU6 tyX6 tyX6_ok nmX6 6 (by decide) q_o6 rfl 0 (by decide) (by decide +kernel) rfl rfl (Nat.le_of_ble_eq_true rfl) (q_s7 _) dX6_begin_2 rfl ?_
  refine y_iconst (v := 0) (pc' := 6) C dX6_begin_5 rfl rfl ?_
  refine y_istore_n (lv' := [(2, .int 0), (0, .ref (G.2.1 6)), (1, .int v)]) (pc' := 7) C dX6_begin_6 rfl (by decide) rfl rfl ?_
  have L7 : ∀ (fuel : Nat) (k : Nat) (hk : k ≤ 32), 32 - k < fuel → Z (va_up sc 7 v) (a_mod ia k) la [(2, .int (nI k)), (0, .ref (G.2.1 6))] 7 [] := by
    intro fuel
    induction fuel with
    | zero => intro k hk hm7; exact absurd hm7 (Nat.not_lt_zero _)
    | succ fuel ih7 =>
      intro k hk hm7
      refine y_iload_n (pc' := 8) C dX6_begin_7 rfl 0 rfl rfl ?_
      refine y_bipush (v := 32) (pc' := 10) C dX6_begin_8 rfl rfl ?_
      refine y_icmpN_ge (a := k) (b := 32) (pc' := 13) C 69 (by omega) (by omega) dX6_begin_10 rfl rfl (fun h_10 => ?_) (fun h_10 => ?_)
      · exact y_vret (E := E) rfl dX6_begin_69 ⟨rfl, rfl, (by first | rfl | (have e9 : k = 32 := (by omega); subst e9; rfl)), rfl⟩
      · refine y_aload_n (pc' := 14) C dX6_begin_13 rfl 1 rfl rfl ?_
        refine y_get (pc' := 17) C hU6 6 (by decide) q_o6 rfl 1 (by decide) (by decide +kernel) (v := .ref (G.2.1 36)) rfl dX6_begin_14 rfl ?_
        refine y_iload_n (pc' := 18) C dX6_begin_17 rfl 0 rfl rfl ?_
        refine y_iconst (v := 0) (pc' := 19) C dX6_begin_18 rfl rfl ?_
        refine y_iast (pc' := 20) C 36 (by decide) (N := 32) (i := k) (f := f_fill 0 (ia 29) k) q_i29 (by omega) (by decide) (q_u29 _) dX6_begin_19 rfl ?_
        refine y_aload_n (pc' := 21) C dX6_begin_20 rfl 1 rfl rfl ?_
        refine y_get (pc' := 24) C hU6 6 (by decide) q_o6 rfl 2 (by decide) (by decide +kernel) (v := .ref (G.2.1 37)) rfl dX6_begin_21 rfl ?_
        refine y_iload_n (pc' := 25) C dX6_begin_24 rfl 0 rfl rfl ?_
        refine y_iconst (v := 0) (pc' := 26) C dX6_begin_25 rfl rfl ?_
        refine y_iast (pc' := 27) C 37 (by decide) (N := 32) (i := k) (f := f_fill 0 (ia 30) k) q_i30 (by omega) (by decide) (q_u30 _) dX6_begin_26 rfl ?_
        refine y_aload_n (pc' := 28) C dX6_begin_27 rfl 1 rfl rfl ?_
        refine y_get (pc' := 31) C hU6 6 (by decide) q_o6 rfl 3 (by decide) (by decide +kernel) (v := .ref (G.2.1 38)) rfl dX6_begin_28 rfl ?_
        refine y_iload_n (pc' := 32) C dX6_begin_31 rfl 0 rfl rfl ?_
        refine y_iconst (v := 1) (pc' := 33) C dX6_begin_32 rfl rfl ?_
        refine y_iast (pc' := 34) C 38 (by decide) (N := 32) (i := k) (f := f_fill 1 (ia 31) k) q_i31 (by omega) (by decide) (q_u31 _) dX6_begin_33 rfl ?_
        refine y_aload_n (pc' := 35) C dX6_begin_34 rfl 1 rfl rfl ?_
        refine y_get (pc' := 38) C hU6 6 (by decide) q_o6 rfl 4 (by decide) (by decide +kernel) (v := .ref (G.2.1 39)) rfl dX6_begin_35 rfl ?_
        refine y_iload_n (pc' := 39) C dX6_begin_38 rfl 0 rfl rfl ?_
        refine y_iconst (v := 0) (pc' := 40) C dX6_begin_39 rfl rfl ?_
        refine y_zast (pc' := 41) C 39 (by decide) (N := 32) (i := k) (f := f_fill 0 (ia 32) k) (rfl) q_i32 (by omega) (by decide) (q_u32 _) dX6_begin_40 rfl ?_
        refine y_aload_n (pc' := 42) C dX6_begin_41 rfl 1 rfl rfl ?_
        refine y_get (pc' := 45) C hU6 6 (by decide) q_o6 rfl 5 (by decide) (by decide +kernel) (v := .ref (G.2.1 40)) rfl dX6_begin_42 rfl ?_
        refine y_iload_n (pc' := 46) C dX6_begin_45 rfl 0 rfl rfl ?_
        refine y_iconst (v := 0) (pc' := 47) C dX6_begin_46 rfl rfl ?_
        refine y_zast (pc' := 48) C 40 (by decide) (N := 32) (i := k) (f := f_fill 0 (ia 33) k) (rfl) q_i33 (by omega) (by decide) (q_u33 _) dX6_begin_47 rfl ?_
        refine y_aload_n (pc' := 49) C dX6_begin_48 rfl 1 rfl rfl ?_
        refine y_get (pc' := 52) C hU6 6 (by decide) q_o6 rfl 6 (by decide) (by decide +kernel) (v := .ref (G.2.1 41)) rfl dX6_begin_49 rfl ?_
        refine y_iload_n (pc' := 53) C dX6_begin_52 rfl 0 rfl rfl ?_
        refine y_iconst (v := 0) (pc' := 54) C dX6_begin_53 rfl rfl ?_
        refine y_iast (pc' := 55) C 41 (by decide) (N := 32) (i := k) (f := f_fill 0 (ia 34) k) q_i34 (by omega) (by decide) (q_u34 _) dX6_begin_54 rfl ?_
        refine y_aload_n (pc' := 56) C dX6_begin_55 rfl 1 rfl rfl ?_
        refine y_get (pc' := 59) C hU6 6 (by decide) q_o6 rfl 7 (by decide) (by decide +kernel) (v := .ref (G.2.1 42)) rfl dX6_begin_56 rfl ?_
        refine y_iload_n (pc' := 60) C dX6_begin_59 rfl 0 rfl rfl ?_
        refine y_ldc (v := 100000) (pc' := 62) C (by decide +kernel) dX6_begin_60 rfl ?_
        refine y_iast (pc' := 63) C 42 (by decide) (N := 32) (i := k) (f := f_fill 100000 (ia 35) k) q_i35 (by omega) (by decide) (q_u35 _) dX6_begin_62 rfl ?_
        refine y_iinc (v := nI (k + 1)) (k9 := 0) (lv' := [(2, .int (nI (k + 1))), (0, .ref (G.2.1 6))]) (pc' := 66) C dX6_begin_63 rfl (nI_1 k) (by decide) rfl rfl ?_
        refine y_goto (pc' := 7) C dX6_begin_66 rfl ?_
        exact z_cast rfl (by funext a; unfold a_mod va_up; by_cases q0 : a = 35; (subst q0; rfl); by_cases q1 : a = 34; (subst q1; rfl); by_cases q2 : a = 33; (subst q2; rfl); by_cases q3 : a = 32; (subst q3; rfl); by_cases q4 : a = 31; (subst q4; rfl); by_cases q5 : a = 30; (subst q5; rfl); by_cases q6 : a = 29; (subst q6; rfl); simp [q0, q1, q2, q3, q4, q5, q6]) rfl rfl rfl (ih7 (k + 1) (by omega) (by omega))
  refine y_sub (lv' := [(2, .int 0), (0, .ref (G.2.1 6))]) C [0, 1] rfl ?_
  exact z_cast rfl (by first | rfl | (funext a; unfold a_mod; repeat (first | rfl | (split; (rename_i q9; subst q9; rfl))))) rfl rfl rfl (L7 (_ + 1) 0 (by omega) (Nat.lt_succ_self _))

set_option maxHeartbeats 4000000 in
set_option maxRecDepth 100000 in
theorem cy_X4_startAnew (l : Launch) (G : Gv) (sc : Sc) (ia : Ia) (la : La) (v x : Int32)  : CtI I_sheet l yX4_startAnew wsX4_startAnew ({ frames := 0, cells := 0, slots := 0, locals := 0 }) G [.ref (G.2.1 4), .int v, .int x] sc ia la (fV (va_up (va_up sc 3 v) 4 x) (a_sh ia 9 0) la) := by
  have hU4 : ∀ w ∈ u_ws RX4 TX4 3, w ∈ wsX4_startAnew := fun w h => List.mem_cons_of_mem _ (List.mem_append_right _ h)
  refine y_of (I := I_sheet) (maxL := 5) (own := RX4) [(0, .ref (G.2.1 4)), (1, .int v), (2, .int x)] rfl (by decide +kernel) rfl (Nat.le_of_ble_eq_true rfl) rfl (fun Z C E => ?_)
  refine y_aload_n (pc' := 1) C dX4_startAnew_0 rfl 0 rfl rfl ?_
  refine y_iload_n (pc' := 2) C dX4_startAnew_1 rfl 1 rfl rfl ?_
  refine y_put (pc' := 5) C hU4 tyX4 tyX4_ok nmX4 4 (by decide) q_o4 rfl 0 (by decide) (by decide +kernel) rfl rfl (Nat.le_of_ble_eq_true rfl) (q_s3 _) dX4_startAnew_2 rfl ?_
  refine y_aload_n (pc' := 6) C dX4_startAnew_5 rfl 0 rfl rfl ?_
  refine y_iload_n (pc' := 7) C dX4_startAnew_6 rfl 2 rfl rfl ?_
  refine y_put (pc' := 10) C hU4 tyX4 tyX4_ok nmX4 4 (by decide) q_o4 rfl 1 (by decide) (by decide +kernel) rfl rfl (Nat.le_of_ble_eq_true rfl) (q_s4 _) dX4_startAnew_7 rfl ?_
  refine y_iconst (v := 0) (pc' := 11) C dX4_startAnew_10 rfl rfl ?_
  refine y_istore_n (lv' := [(3, .int 0), (0, .ref (G.2.1 4)), (1, .int v), (2, .int x)]) (pc' := 12) C dX4_startAnew_11 rfl (by decide) rfl rfl ?_
  have L12 : ∀ (fuel : Nat) (r : Nat) (hr : r ≤ 9), 9 - r < fuel → Z (va_up (va_up sc 3 v) 4 x) (a_sh ia r 0) la [(3, .int (nI r)), (0, .ref (G.2.1 4))] 12 [] := by
    intro fuel
    induction fuel with
    | zero => intro r hr hm12; exact absurd hm12 (Nat.not_lt_zero _)
    | succ fuel ih12 =>
      intro r hr hm12
      refine y_iload_n (pc' := 13) C dX4_startAnew_12 rfl 0 rfl rfl ?_
      refine y_bipush (v := 8) (pc' := 15) C dX4_startAnew_13 rfl rfl ?_
      refine y_icmpN_gt (a := r) (b := 8) (pc' := 18) C 50 (by first | omega | (simp [I_sheet]; omega)) (by first | omega | (simp [I_sheet]; omega)) dX4_startAnew_15 rfl rfl (fun h_15 => ?_) (fun h_15 => ?_)
      · exact y_vret (E := E) rfl dX4_startAnew_50 ⟨rfl, rfl, (by first | rfl | (have e9 : r = 9 := (by omega); subst e9; rfl)), rfl⟩
      · refine y_iconst (v := 0) (pc' := 19) C dX4_startAnew_18 rfl rfl ?_
        refine y_istore (lv' := [(4, .int 0), (3, .int (nI r)), (0, .ref (G.2.1 4))]) (pc' := 21) C dX4_startAnew_19 (by decide) rfl rfl ?_
        have L21 : ∀ (fuel : Nat) (c : Nat) (hc : c ≤ 9), 9 - c < fuel → Z (va_up (va_up sc 3 v) 4 x) (a_sh ia r c) la [(4, .int (nI c)), (3, .int (nI r)), (0, .ref (G.2.1 4))] 21 [] := by
          intro fuel
          induction fuel with
          | zero => intro c hc hm21; exact absurd hm21 (Nat.not_lt_zero _)
          | succ fuel ih21 =>
            intro c hc hm21
            refine y_iload (pc' := 23) C dX4_startAnew_21 0 rfl rfl ?_
            refine y_bipush (v := 8) (pc' := 25) C dX4_startAnew_23 rfl rfl ?_
            refine y_icmpN_gt (a := c) (b := 8) (pc' := 28) C 44 (by first | omega | (simp [I_sheet]; omega)) (by first | omega | (simp [I_sheet]; omega)) dX4_startAnew_25 rfl rfl (fun h_25 => ?_) (fun h_25 => ?_)
            · refine y_iinc (v := nI (r + 1)) (k9 := 1) (lv' := [(3, .int (nI (r + 1))), (4, .int (nI c)), (0, .ref (G.2.1 4))]) (pc' := 47) C dX4_startAnew_44 rfl (nI_1 r) (by decide) rfl rfl ?_
              refine y_goto (pc' := 12) C dX4_startAnew_47 rfl ?_
              refine y_sub (lv' := [(3, .int (nI (r + 1))), (0, .ref (G.2.1 4))]) C [0, 2] rfl ?_
              exact z_cast rfl (by have e9 : c = 9 := (by omega); subst e9; funext a; unfold a_sh; by_cases q0 : a = 10 + r; (rw [if_neg (by omega), if_pos q0, if_pos (by omega)]); (by_cases q1 : 10 ≤ a ∧ a < 10 + r; (rw [if_pos q1, if_pos (by omega)]); (rw [if_neg q1, if_neg q0, if_neg (by omega)]; split; rfl; rfl))) rfl rfl rfl (ih12 (r + 1) (by first | omega | (simp [I_sheet]; omega)) (by first | omega | (simp [I_sheet]; omega)))
            · refine y_aload_n (pc' := 29) C dX4_startAnew_28 rfl 2 rfl rfl ?_
              refine y_get (pc' := 32) C hU4 4 (by decide) q_o4 rfl 2 (by decide) (by decide +kernel) (v := .ref (G.2.1 50)) rfl dX4_startAnew_29 rfl ?_
              refine y_iload_n (pc' := 33) C dX4_startAnew_32 rfl 1 rfl rfl ?_
              refine y_aald (pc' := 34) C 50 (by decide) (i := r) (a := G.2.1 (17 + r)) (ty := .int) rfl q_v50 (by first | omega | (simp [I_sheet]; omega)) (by decide) (if_pos (by first | omega | (simp [I_sheet]; omega))) dX4_startAnew_33 rfl ?_
              refine y_iload (pc' := 36) C dX4_startAnew_34 0 rfl rfl ?_
              refine y_iconst (v := 0) (pc' := 37) C dX4_startAnew_36 rfl rfl ?_
              refine y_iast (pc' := 38) C (17 + r) (by first | omega | (simp [I_sheet]; omega)) (N := 9) (i := c) (f := (a_sh ia r c) (10 + r)) (q_ir10 r (by first | omega | (simp [I_sheet]; omega))) (by first | omega | (simp [I_sheet]; omega)) (by decide) (q_ur10 r (by first | omega | (simp [I_sheet]; omega)) _) dX4_startAnew_37 rfl ?_
              refine y_iinc (v := nI (c + 1)) (k9 := 0) (lv' := [(4, .int (nI (c + 1))), (3, .int (nI r)), (0, .ref (G.2.1 4))]) (pc' := 41) C dX4_startAnew_38 rfl (nI_1 c) (by decide) rfl rfl ?_
              refine y_goto (pc' := 21) C dX4_startAnew_41 rfl ?_
              exact z_cast rfl (by funext a; unfold va_up; by_cases q0 : a = 10 + r; (subst q0; rw [if_pos rfl]; unfold a_sh; rw [if_neg (by omega), if_pos rfl, if_neg (by omega), if_pos rfl]; rfl); (rw [if_neg q0]; unfold a_sh; split; rfl; first | rfl | rw [if_neg q0])) rfl rfl rfl (ih21 (c + 1) (by first | omega | (simp [I_sheet]; omega)) (by first | omega | (simp [I_sheet]; omega)))
        exact z_cast rfl rfl rfl rfl rfl (L21 (_ + 1) 0 (by first | omega | (simp [I_sheet]; omega)) (Nat.lt_succ_self _))
  refine y_sub (lv' := [(3, .int 0), (0, .ref (G.2.1 4))]) C [0, 1] rfl ?_
  exact z_cast rfl (by first | rfl | (funext a; unfold a_sh; rw [if_neg (by omega)]; split; (rename_i q9; subst q9; rfl); rfl)) rfl rfl rfl (L12 (_ + 1) 0 (by first | omega | (simp [I_sheet]; omega)) (Nat.lt_succ_self _))

set_option maxHeartbeats 4000000 in
set_option maxRecDepth 100000 in
theorem cy_X3_startAnew (l : Launch) (G : Gv) (sc : Sc) (ia : Ia) (la : La) (v : Int32)  : CtI I_pairs l yX3_startAnew wsX3_startAnew ({ frames := 0, cells := 0, slots := 0, locals := 0 }) G [.ref (G.2.1 3), .int v] sc ia la (fV (va_up sc 5 v) (a_pr ia 5 0) la) := by
  have hU3 : ∀ w ∈ u_ws RX3 TX3 3, w ∈ wsX3_startAnew := fun w h => List.mem_cons_of_mem _ (List.mem_append_right _ h)
  refine y_of (I := I_pairs) (maxL := 4) (own := RX3) [(0, .ref (G.2.1 3)), (1, .int v)] rfl (by decide +kernel) rfl (Nat.le_of_ble_eq_true rfl) rfl (fun Z C E => ?_)
  refine y_aload_n (pc' := 1) C dX3_startAnew_0 rfl 0 rfl rfl ?_
  refine y_iload_n (pc' := 2) C dX3_startAnew_1 rfl 1 rfl rfl ?_
  refine y_put (pc' := 5) C hU3 tyX3 tyX3_ok nmX3 3 (by decide) q_o3 rfl 0 (by decide) (by decide +kernel) rfl rfl (Nat.le_of_ble_eq_true rfl) (q_s5 _) dX3_startAnew_2 rfl ?_
  refine y_iconst (v := 0) (pc' := 6) C dX3_startAnew_5 rfl rfl ?_
  refine y_istore_n (lv' := [(2, .int 0), (0, .ref (G.2.1 3)), (1, .int v)]) (pc' := 7) C dX3_startAnew_6 rfl (by decide) rfl rfl ?_
  have L7 : ∀ (fuel : Nat) (r : Nat) (hr : r ≤ 5), 5 - r < fuel → Z (va_up sc 5 v) (a_pr ia r 0) la [(2, .int (nI r)), (0, .ref (G.2.1 3))] 7 [] := by
    intro fuel
    induction fuel with
    | zero => intro r hr hm7; exact absurd hm7 (Nat.not_lt_zero _)
    | succ fuel ih7 =>
      intro r hr hm7
      refine y_iload_n (pc' := 8) C dX3_startAnew_7 rfl 0 rfl rfl ?_
      refine y_iconst (v := 5) (pc' := 9) C dX3_startAnew_8 rfl rfl ?_
      refine y_icmpN_ge (a := r) (b := 5) (pc' := 12) C 49 (by first | omega | (simp [I_pairs]; omega)) (by first | omega | (simp [I_pairs]; omega)) dX3_startAnew_9 rfl rfl (fun h_9 => ?_) (fun h_9 => ?_)
      · exact y_vret (E := E) rfl dX3_startAnew_49 ⟨rfl, rfl, (by first | rfl | (have e9 : r = 5 := (by omega); subst e9; rfl)), rfl⟩
      · refine y_iconst (v := 0) (pc' := 13) C dX3_startAnew_12 rfl rfl ?_
        refine y_istore_n (lv' := [(3, .int 0), (2, .int (nI r)), (0, .ref (G.2.1 3))]) (pc' := 14) C dX3_startAnew_13 rfl (by decide) rfl rfl ?_
        have L14 : ∀ (fuel : Nat) (c : Nat) (hc : c ≤ 5), 5 - c < fuel → Z (va_up sc 5 v) (a_pr ia r c) la [(3, .int (nI c)), (2, .int (nI r)), (0, .ref (G.2.1 3))] 14 [] := by
          intro fuel
          induction fuel with
          | zero => intro c hc hm14; exact absurd hm14 (Nat.not_lt_zero _)
          | succ fuel ih14 =>
            intro c hc hm14
            refine y_iload_n (pc' := 15) C dX3_startAnew_14 rfl 0 rfl rfl ?_
            refine y_iconst (v := 5) (pc' := 16) C dX3_startAnew_15 rfl rfl ?_
            refine y_icmpN_ge (a := c) (b := 5) (pc' := 19) C 43 (by first | omega | (simp [I_pairs]; omega)) (by first | omega | (simp [I_pairs]; omega)) dX3_startAnew_16 rfl rfl (fun h_16 => ?_) (fun h_16 => ?_)
            · refine y_iinc (v := nI (r + 1)) (k9 := 1) (lv' := [(2, .int (nI (r + 1))), (3, .int (nI c)), (0, .ref (G.2.1 3))]) (pc' := 46) C dX3_startAnew_43 rfl (nI_1 r) (by decide) rfl rfl ?_
              refine y_goto (pc' := 7) C dX3_startAnew_46 rfl ?_
              refine y_sub (lv' := [(2, .int (nI (r + 1))), (0, .ref (G.2.1 3))]) C [0, 2] rfl ?_
              exact z_cast rfl (by have e9 : c = 5 := (by omega); subst e9; funext a; unfold a_pr; by_cases q0 : a = 19 + r ∨ a = 24 + r; (rw [if_neg (by omega), if_pos q0, if_pos (by omega)]); (by_cases q1 : (19 ≤ a ∧ a < 19 + r) ∨ (24 ≤ a ∧ a < 24 + r); (rw [if_pos q1, if_pos (by omega)]); (rw [if_neg q1, if_neg q0, if_neg (by omega)]; split; rfl; rfl))) rfl rfl rfl (ih7 (r + 1) (by first | omega | (simp [I_pairs]; omega)) (by first | omega | (simp [I_pairs]; omega)))
            · refine y_aload_n (pc' := 20) C dX3_startAnew_19 rfl 2 rfl rfl ?_
              refine y_get (pc' := 23) C hU3 3 (by decide) q_o3 rfl 1 (by decide) (by decide +kernel) (v := .ref (G.2.1 51)) rfl dX3_startAnew_20 rfl ?_
              refine y_iload_n (pc' := 24) C dX3_startAnew_23 rfl 1 rfl rfl ?_
              refine y_aald (pc' := 25) C 51 (by decide) (i := r) (a := G.2.1 (26 + r)) (ty := .int) rfl q_v51 (by first | omega | (simp [I_pairs]; omega)) (by decide) (if_pos (by first | omega | (simp [I_pairs]; omega))) dX3_startAnew_24 rfl ?_
              refine y_iload_n (pc' := 26) C dX3_startAnew_25 rfl 0 rfl rfl ?_
              refine y_iconst (v := 0) (pc' := 27) C dX3_startAnew_26 rfl rfl ?_
              refine y_iast (pc' := 28) C (26 + r) (by first | omega | (simp [I_pairs]; omega)) (N := 5) (i := c) (f := (a_pr ia r c) (19 + r)) (q_ir19 r (by first | omega | (simp [I_pairs]; omega))) (by first | omega | (simp [I_pairs]; omega)) (by decide) (q_ur19 r (by first | omega | (simp [I_pairs]; omega)) _) dX3_startAnew_27 rfl ?_
              refine y_aload_n (pc' := 29) C dX3_startAnew_28 rfl 2 rfl rfl ?_
              refine y_get (pc' := 32) C hU3 3 (by decide) q_o3 rfl 2 (by decide) (by decide +kernel) (v := .ref (G.2.1 52)) rfl dX3_startAnew_29 rfl ?_
              refine y_iload_n (pc' := 33) C dX3_startAnew_32 rfl 1 rfl rfl ?_
              refine y_aald (pc' := 34) C 52 (by decide) (i := r) (a := G.2.1 (31 + r)) (ty := .int) rfl q_v52 (by first | omega | (simp [I_pairs]; omega)) (by decide) (if_pos (by first | omega | (simp [I_pairs]; omega))) dX3_startAnew_33 rfl ?_
              refine y_iload_n (pc' := 35) C dX3_startAnew_34 rfl 0 rfl rfl ?_
              refine y_iconst (v := 0) (pc' := 36) C dX3_startAnew_35 rfl rfl ?_
              refine y_iast (pc' := 37) C (31 + r) (by first | omega | (simp [I_pairs]; omega)) (N := 5) (i := c) (f := (va_up (a_pr ia r c) (19 + r) (upd ((a_pr ia r c) (19 + r)) c 0)) (24 + r)) (q_ir24 r (by first | omega | (simp [I_pairs]; omega))) (by first | omega | (simp [I_pairs]; omega)) (by decide) (q_ur24 r (by first | omega | (simp [I_pairs]; omega)) _) dX3_startAnew_36 rfl ?_
              refine y_iinc (v := nI (c + 1)) (k9 := 0) (lv' := [(3, .int (nI (c + 1))), (2, .int (nI r)), (0, .ref (G.2.1 3))]) (pc' := 40) C dX3_startAnew_37 rfl (nI_1 c) (by decide) rfl rfl ?_
              refine y_goto (pc' := 14) C dX3_startAnew_40 rfl ?_
              exact z_cast rfl (by funext a; unfold va_up; by_cases q0 : a = 24 + r; (subst q0; rw [if_pos rfl]; have q2 : ¬ 24 + r = 19 + r := (by omega); rw [if_neg q2]; unfold a_pr; rw [if_neg (by omega), if_pos (Or.inr rfl), if_neg (by omega), if_pos (Or.inr rfl)]; rfl); (rw [if_neg q0]; by_cases q1 : a = 19 + r; (subst q1; rw [if_pos rfl]; unfold a_pr; rw [if_neg (by omega), if_pos (Or.inl rfl), if_neg (by omega), if_pos (Or.inl rfl)]; rfl); (rw [if_neg q1]; unfold a_pr; split; rfl; rw [if_neg (by omega), if_neg (by omega)]))) rfl rfl rfl (ih14 (c + 1) (by first | omega | (simp [I_pairs]; omega)) (by first | omega | (simp [I_pairs]; omega)))
        exact z_cast rfl rfl rfl rfl rfl (L14 (_ + 1) 0 (by first | omega | (simp [I_pairs]; omega)) (Nat.lt_succ_self _))
  refine y_sub (lv' := [(2, .int 0), (0, .ref (G.2.1 3))]) C [0, 1] rfl ?_
  exact z_cast rfl (by first | rfl | (funext a; unfold a_pr; rw [if_neg (by omega)]; split; rfl; rfl)) rfl rfl rfl (L7 (_ + 1) 0 (by first | omega | (simp [I_pairs]; omega)) (Nat.lt_succ_self _))

