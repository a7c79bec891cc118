/-! Making the cells: the world is the row of all cells from B on, in the order in which they came. -/
def wl (B : Nat) (es : List va_E) : va_W := es.mapIdx (fun j x => (B + j, x))
theorem wl_get (B : Nat) (es : List va_E) (k : Nat) : (wl B es)[k]? = (es[k]?).map (fun x => (B + k, x)) := by simp [wl]
theorem wl_at {B : Nat} {es : List va_E} {k : Nat} {x : va_E} (h : es[k]? = some x) : (wl B es)[k]? = some (B + k, x) := by rw [wl_get, h]; rfl
theorem wl_inv {B : Nat} {es : List va_E} {k : Nat} {q : Nat × va_E} (h : (wl B es)[k]? = some q) : ∃ x, es[k]? = some x ∧ q = (B + k, x) := by
  rw [wl_get] at h
  cases he : es[k]? with
  | none => rw [he] at h; cases h
  | some x => rw [he] at h; exact ⟨x, rfl, (Option.some.inj h).symm⟩
theorem wl_set {B : Nat} {es : List va_E} {k : Nat} {x : va_E} : (wl B es).set k (B + k, x) = wl B (es.set k x) := by
  apply List.ext_getElem?
  intro j
  rw [wl_get, List.getElem?_set, List.getElem?_set, wl_get]
  have hl : (wl B es).length = es.length := by simp [wl]
  rw [hl]
  by_cases e : k = j
  · subst e
    by_cases h : k < es.length
    · simp [h]
    · simp [h]
  · simp [e]
theorem wl_app {B : Nat} {es : List va_E} {x : va_E} : wl B es ++ [(B + es.length, x)] = wl B (es ++ [x]) := by simp [wl, List.mapIdx_append]
theorem wl_D {B : Nat} {es : List va_E} {A : Nat → Prop} (hA : ∀ q, B ≤ q → A q) : va_D A (wl B es) := ⟨fun i j p q hi hj h => by
    obtain ⟨x, -, rfl⟩ := wl_inv hi
    obtain ⟨y, -, rfl⟩ := wl_inv hj
    have : B + i = B + j := h
    omega, fun k q hk => by
    obtain ⟨x, -, rfl⟩ := wl_inv hk
    exact hA _ (Nat.le_add_right _ _)⟩
def nestM : List (String × Nat × MethodName) := [(RX9, 11, yX8_init), (RX9, 18, yX2_init), (RX9, 39, yX0_init), (RX9, 53, yX5_init), (RX1, 21, yX2_init), (RX3, 45, yX4_init), (RX4, 11, yX2_init), (RX7, 36, yX2_init)]
def NK (U : State) : Prop := (∀ q ∈ nestM, va_Nw (.methodLinkNest q.1 q.2.1 q.2.2 "NameTurner") U) ∧ va_AO RX2 U ∧ va_AO RX4 U
theorem NK.warm {s U : State} (hW : s.WarmedH U.vm) (h : NK s) : NK U := ⟨fun q hq => va_Nw.warmM hW (h.1 q hq), h.2.1.moved hW.alike, h.2.2.moved hW.alike⟩
theorem NK.same {u U : State} (hv : u.vm = U.vm) (h : NK u) : NK U := ⟨fun q hq => va_Nw.same rfl hv (h.1 q hq), h.2.1.moved (by rw [hv]; exact Vm.Alike.refl _), h.2.2.moved (by rw [hv]; exact Vm.Alike.refl _)⟩
def KP (D : va_G) (cy : Nat → ClassId) (B : Nat) (es : List va_E) (U : State) : Prop := U.heap.size = B + es.length ∧ va_P D vwCl (wl B es) U.heap ∧ va_K D vwCl (tyl cy) U ∧ NK U
def AB (B : Nat) : Nat → Prop := fun q => B ≤ q
def KI (D : va_G) (B : Nat) (s : State) (es : List va_E) (H : Heap) (locs : List Loc) : Prop := H.size = B + es.length ∧ va_P D vwCl (wl B es) H ∧ va_S (AB B) s.heap H locs ∧ B ≤ s.heap.size
def KQ (D : va_G) (cy : Nat → ClassId) (B : Nat) (es' : List va_E) : Array Value → State → Outcome → State → Prop := fun _ st oc t => oc = .returned none ∧ KP D cy B es' t ∧ va_F (AB B) st t
/-- a constructor's contract: its object is the k-th of all cells es; then it is as fsF says, and the cells 'new' have come -/
def KM (l : Launch) (D : va_G) (cy : Nat → ClassId) (B : Nat) (y : MethodName) (ws : List Cond) (rm : Room) (ci : Nat) (fs0 : List Value) (fsF : Nat → List Value) (new : Nat → List va_E) : Prop :=
  ∀ (es : List va_E) (k : Nat), es[k]? = some (.inr (ci, fs0)) → Met l y ws rm (va_Pc [.ref (B + k)] (KP D cy B es)) (KQ D cy B (es.set k (.inr (ci, fsF es.length)) ++ new es.length)) rm.cells rm.slots (AB B)
def MK (p : Program) (s : State) (m : MethodId) (args : Array Value) (meth : Method) (c : Code) (cc : ByteArray) (nL : Nat) (own : String) (ret : Option FieldType) (Ts : List Cond) (D : va_G) (cy : Nat → ClassId) : Prop :=
  p.tables.exec = Jvm.exec ∧ c.code = cc ∧ meth.sig.returnType = ret ∧ c.maxLocals = nL ∧ s.vm.findClass own = some m.cls ∧ (∀ w ∈ Ts, w.before args s = true) ∧ meth.locks = false ∧ va_K D vwCl (tyl cy) s ∧ NK s ∧ meth.name = "<init>"
section KR
variable {p : Program} {l : Launch} {e : Env} {R : Room} {s : State} {m : MethodId} {args : Array Value} {below : List Frame} {meth : Method} {c : Code} {H : Heap} {locs : List Loc} {cells slots : Nat} {Q : State → Prop}
variable {cc : ByteArray} {pc : Nat} {ls : Array Slot} {rest : List Value} {D : va_G} {cy : Nat → ClassId} {B : Nat} {es : List va_E}
theorem KM.of {y : MethodName} {ws ws' : List Cond} {rm : Room} {maxL ci : Nat} {fs0 : List Value} {fsF : Nat → List Value} {new : Nat → List va_E} (hy : plainName y.cls = true) (hw : ws = Cond.code y cc maxL none :: ws') (hlen : 1 ≤ maxL) (hni : y.name = "<init>")
    (body : ∀ (es : List va_E) (k : Nat), es[k]? = some (.inr (ci, fs0)) → ∀ (p : Program) (e : Env) (s : State) (m : MethodId) (args : Array Value) (below : List Frame) (meth : Method) (c : Code) (ls : Array Slot), MK p s m args meth c cc maxL y.cls none ws D cy → KI D B s es s.heap [] → lv_has ls maxL (lv_args 0 [.ref (B + k)]) →
      W p l e rm s m args below meth c s.heap [] 0 0 (MQ below (KQ D cy B (es.set k (.inr (ci, fsF es.length)) ++ new es.length)) args s rm.cells rm.slots (AB B)) (F0 m 0 ls [])) : KM l D cy B y ws rm ci fs0 fsF new := by
  intro es k hk
  refine Met.ofW (cc := cc) (maxL := maxL) (ret := none) hy hw ?_
  intro p e s m args below meth c s₁ B0 hml hv
  obtain ⟨rfl, hz, hP, hK, hN⟩ := hv
  have hts := atoms_spec (ws := ws) B0.pre
  have hown : s.vm.findClass y.cls = some m.cls := findClass_of_methodNamed B0.named
  have hin : meth.name = "<init>" := by rw [(name_of_methodNamed B0.named B0.method).1]; exact hni
  have hl := lv_entry [.ref (B + k)] (n := maxL) hlen
  rw [lg_entry_eq]
  exact body es k hk p e s m _ below meth c _ ⟨B0.exec, B0.bytes, B0.returns, hml, hown, hts, B0.notSynchronized, hK, hN, hin⟩ ⟨hz, hP, va_S.rf, by omega⟩ hl
theorem KI.S {x : va_E} {H1 : Heap} (hI : KI D B s es H locs) (z : H1.size = B + es.length + 1) (o : ∀ q, q < B + es.length → H1[q]? = H[q]?) (h : va_at D vwCl (B + es.length, x) H1) : KI D B s (es ++ [x]) H1 locs := by
  obtain ⟨h1, h2, h3, h4⟩ := hI
  refine ⟨by rw [z, List.length_append]; rfl, ?_, ⟨by have := h3.1; omega, fun q a b => ?_, h3.2.2⟩, h4⟩
  · rw [← wl_app]
    refine va_P.app (h2.kept (fun k q hq => ?_)) (fun k q hq => ?_)
    · obtain ⟨y, hy, rfl⟩ := wl_inv hq
      have := (List.getElem?_eq_some_iff.mp hy).1
      exact o _ (by show B + k < _; omega)
    · have hz : k < 1 := (List.getElem?_eq_some_iff.mp hq).1
      rw [show k = 0 by omega] at hq
      cases hq
      exact h
  · have := h3.1
    rw [o q (by omega)]
    exact h3.2.1 q a b
theorem k_new (hx : p.tables.exec = Jvm.exec) (hb : c.code = cc) {own C : String} {T : u_T} {N ci index : Nat} {Ts : List Cond} (hts : ∀ w ∈ Ts, w.before args s = true) (hin : ∀ w ∈ u_ws C T N, w ∈ Ts) (ty : Nat → FieldType) (hty : ∀ k, k < N → parseFieldDescriptor (T k).2.2.1 = some (ty k)) (hown : s.vm.findClass own = some m.cls) (hcl : (Cond.classLink own index C).before args s = true) (hinst : (Cond.instantiable C N).before args s = true) (hini : (Cond.initialized C).before args s = true)
    (hK : va_K D vwCl (tyl cy) s) (hI : KI D B s es H locs) (hc : vwCl[ci]? = some (C, T, N)) {fs : List Value} (hfs : ∀ j, j < N → defaultValue (ty j) = vp_V fs j) (hcells : cells + 1 ≤ R.cells) (hslots : slots + N ≤ R.slots) (hdg : decode cc pc = .ok (.new index, 3))
    (kk : ∀ H1 : Heap, KI D B s (es ++ [.inr (ci, fs)]) H1 locs → W p l e R s m args below meth c H1 locs (cells + 1) (slots + N) Q (F0 m (pc + 3) ls (.ref (B + es.length) :: rest))) : W p l e R s m args below meth c H locs cells slots Q (F0 m pc ls rest) := by
  have hKn := hK.1 ci _ hc
  refine W.newcK hx hb hown hcl hinst hini rfl hdg hcells hslots hKn.2.1 hI.1 fun H1 kC hkC e1 z1 o1 => ?_
  exact kk H1 (hI.S z1 o1 ⟨_, hc, (u_born ty hts hin hKn hkC e1 hty).to hfs⟩)
theorem k_newa (hx : p.tables.exec = Jvm.exec) (hb : c.code = cc) {atype : ArrayType} (harr : (Cond.arrayClass (newarray.typeOf atype)).before args s = true) {cA : ClassId} (hra : s.vm.findClass ("[" ++ (newarray.typeOf atype).toString) = some cA) (hI : KI D B s es H locs)
    {n : Int32} {N' : Nat} {a0 : vp_A} (ha : vp_cell cA a0 = arrV cA N' (fun _ => defaultValue (newarray.typeOf atype))) (hn : ¬ n < 0) (hN : n.toNatClampNeg = N') (hbytes : N' * componentBytes (newarray.typeOf atype) ≤ 536870912) (hcells : cells + 1 ≤ R.cells) (hslots : slots + N' ≤ R.slots) (hdg : decode cc pc = .ok (.newarray atype, 2))
    (kk : ∀ H1 : Heap, KI D B s (es ++ [.inl (cA, a0)]) H1 locs → W p l e R s m args below meth c H1 locs (cells + 1) (slots + N') Q (F0 m (pc + 2) ls (.ref (B + es.length) :: rest))) : W p l e R s m args below meth c H locs cells slots Q (F0 m pc ls (.int n :: rest)) := by
  refine va_newaK hx hb harr rfl hdg rfl hn hN hbytes hcells hslots hI.1 fun H1 cA' e1 z1 o1 hAr hNm => ?_
  cases hra.symm.trans hNm
  refine kk H1 (hI.S z1 o1 ?_)
  show H1[B + es.length]? = some (vp_cell _ _)
  rw [ha]
  exact e1
theorem k_anew (hx : p.tables.exec = Jvm.exec) (hb : c.code = cc) {own C : String} {index : Nat} (hown : s.vm.findClass own = some m.cls) (hclink : (Cond.classLink own index C).before args s = true) (hover : va_AO C s) {cA : ClassId} (hra : s.vm.findClass ("[" ++ (FieldType.object C).toString) = some cA) (hI : KI D B s es H locs)
    {n : Int32} {N' : Nat} (hn : ¬ n < 0) (hN : n.toNatClampNeg = N') (hbytes : N' * 4 ≤ 536870912) (hcells : cells + 1 ≤ R.cells) (hslots : slots + N' ≤ R.slots) (hdg : decode cc pc = .ok (.anewarray index, 3))
    (kk : ∀ H1 : Heap, KI D B s (es ++ [.inl (cA, N', .inr (.inr (.inr (.inr (fun _ => none)))))]) H1 locs → W p l e R s m args below meth c H1 locs (cells + 1) (slots + N') Q (F0 m (pc + 3) ls (.ref (B + es.length) :: rest))) : W p l e R s m args below meth c H locs cells slots Q (F0 m pc ls (.int n :: rest)) := by
  subst hN
  refine W.anew hx hb hown hclink (va_AO.use hover) rfl hdg rfl hn hbytes hcells hslots fun cA' kA comp f1 f2 f3 f4 => ?_
  cases hra.symm.trans f1
  rw [hI.1]
  refine kk _ (hI.S (by rw [Array.size_push, hI.1]) (fun q hq => by rw [Array.getElem?_push, if_neg (by rw [hI.1]; exact Nat.ne_of_lt hq)]) ?_)
  show (H.push _)[B + es.length]? = some (vp_cell _ _)
  rw [vp_cell_q, ← hI.1, Array.getElem?_push_size]
  exact congrArg some (arrV_new ..)
theorem KI.set {k : Nat} {x0 x : va_E} {H1 : Heap} {i : Nat} (hI : KI D B s es H locs) (hk : es[k]? = some x0) (z : H1.size = H.size) (o : ∀ q, q ≠ B + k → H1[q]? = H[q]?) (h : va_at D vwCl (B + k, x) H1) : KI D B s (es.set k x) H1 (locs ++ [⟨B + k, i⟩]) := by
  obtain ⟨h1, h2, h3, h4⟩ := hI
  refine ⟨by rw [z, h1, List.length_set], ?_, h3.put z o (Nat.le_add_right _ _), h4⟩
  rw [← wl_set]
  exact h2.set (wl_D (A := fun _ => True) (fun _ _ => trivial)) (wl_at hk) h o
theorem k_put (hx : p.tables.exec = Jvm.exec) (hb : c.code = cc) {own C : String} {T : u_T} {N ci index : Nat} {Ts : List Cond} (hts : ∀ w ∈ Ts, w.before args s = true) (hin : ∀ w ∈ u_ws C T N, w ∈ Ts) (ty0 : Nat → FieldType) (hty : ∀ k, k < N → parseFieldDescriptor (T k).2.2.1 = some (ty0 k)) (hnm : ∀ a, a < N → ∀ b, b < N → a ≠ b → (T a).2.1 ≠ (T b).2.1) (hown : s.vm.findClass own = some m.cls) (hK : va_K D vwCl (tyl cy) s) (hI : KI D B s es H locs) {q0 : Nat} {fs : List Value} (he : es[q0]? = some (.inr (ci, fs))) (hc : vwCl[ci]? = some (C, T, N)) (k : Nat) (hk : k < N)
    (hlink : Cond.fieldLink own index (T k).1 (T k).2.1 (T k).2.2.1 ∈ Ts) (hfin : (T k).2.2.2 = false) {ty : FieldType} {v : Value} (hd : parseFieldDescriptor (T k).2.2.1 = some ty) (hn : narrow ty v = v) (hfit : fits ty v = true) (hl : k < fs.length) (hdg : decode cc pc = .ok (.putfield index, 3))
    (kk : ∀ (H1 : Heap) (locs1 : List Loc), KI D B s (es.set q0 (.inr (ci, fs.set k v))) H1 locs1 → W p l e R s m args below meth c H1 locs1 cells slots Q (F0 m (pc + 3) ls rest)) : W p l e R s m args below meth c H locs cells slots Q (F0 m pc ls (v :: .ref (B + q0) :: rest)) := by
  have hap := va_apart (own := own) hts hin ty0 hty hnm hK hc
  obtain ⟨r, h1, cell, q1, q2, q3, q4⟩ := hI.2.1 q0 _ (wl_at he)
  cases Option.some.inj (h1.symm.trans hc)
  obtain ⟨hS, hfc, kC, hkC, hkind⟩ := hK.1 ci _ hc
  obtain ⟨cf, kf, fi, f, hi, hsl⟩ := hS k hk
  have hlay := hts _ (hin _ (u_in_lay hk))
  unfold u_lay at hlay
  rw [if_neg (by rw [hfin]; decide)] at hlay
  refine W.putK hx hb (f := f) ⟨hown, hts _ hlink, ⟨_, _, _, hi⟩, (u_facts hfc hkC (u_lays hts hin hk) hi).1⟩ (by rw [q2]; exact u_store hfc hkC hkind hlay hi hd hn hfit) q1 q3 (by rw [hsl]; exact k2_hasslot (q4 k hk)) rfl rfl hdg fun H' e1 e2 e3 => ?_
  rw [hsl] at e1
  exact kk H' _ (hI.set he e2 e3 ⟨_, hc, t_OB.to (V := updV (vp_V fs) k v) ⟨_, e1, q2, q3, t_set q4 hap hk v⟩ (fun j _ => vp_updV_set hl v j)⟩)
theorem k_putF (hx : p.tables.exec = Jvm.exec) (hb : c.code = cc) {own C : String} {T : u_T} {N ci index : Nat} {Ts : List Cond} (hts : ∀ w ∈ Ts, w.before args s = true) (hin : ∀ w ∈ u_ws C T N, w ∈ Ts) (ty0 : Nat → FieldType) (hty : ∀ k, k < N → parseFieldDescriptor (T k).2.2.1 = some (ty0 k)) (hnm : ∀ a, a < N → ∀ b, b < N → a ≠ b → (T a).2.1 ≠ (T b).2.1) (hown : s.vm.findClass own = some m.cls) (hK : va_K D vwCl (tyl cy) s) (hI : KI D B s es H locs) {q0 : Nat} {fs : List Value} (he : es[q0]? = some (.inr (ci, fs))) (hc : vwCl[ci]? = some (C, T, N)) (k : Nat) (hk : k < N)
    (hlink : Cond.fieldLink own index (T k).1 (T k).2.1 (T k).2.2.1 ∈ Ts) (hfin : (T k).2.2.2 = true) (hin2 : meth.name = "<init>") (hdecl : (T k).1 = own) {ty : FieldType} {v : Value} (hd : parseFieldDescriptor (T k).2.2.1 = some ty) (hn : narrow ty v = v) (hfit : fits ty v = true) (hl : k < fs.length) (hdg : decode cc pc = .ok (.putfield index, 3))
    (kk : ∀ (H1 : Heap) (locs1 : List Loc), KI D B s (es.set q0 (.inr (ci, fs.set k v))) H1 locs1 → W p l e R s m args below meth c H1 locs1 cells slots Q (F0 m (pc + 3) ls rest)) : W p l e R s m args below meth c H locs cells slots Q (F0 m pc ls (v :: .ref (B + q0) :: rest)) := by
  have hap := va_apart (own := own) hts hin ty0 hty hnm hK hc
  obtain ⟨r, h1, cell, q1, q2, q3, q4⟩ := hI.2.1 q0 _ (wl_at he)
  cases Option.some.inj (h1.symm.trans hc)
  obtain ⟨hS, hfc, kC, hkC, hkind⟩ := hK.1 ci _ hc
  obtain ⟨cf, kf, fi, f, hi, hsl⟩ := hS k hk
  have hlay := hts _ (hin _ (u_in_lay hk))
  unfold u_lay at hlay
  rw [if_pos hfin] at hlay
  have hcf : m.cls = cf := by
    obtain ⟨_, _, c', _, _, _, -, -, hf', -, -, -, hown2, -⟩ := Cond.laysFinal_spec hlay
    have e1 : c' = cf := by have := hi.symm.trans hf'; simp at this; exact this.1.symm
    rw [hdecl] at hown2
    rw [← e1]
    exact Option.some.inj (hown.symm.trans hown2)
  refine W.putFinK hx hb hown (hts _ hlink) hi (u_facts hfc hkC (u_lays hts hin hk) hi).1 hcf hin2 (by rw [q2]; exact u_fits hfc hkC hkind (Or.inr hlay) hi hd hn hfit) q1 q3 (by rw [hsl]; exact k2_hasslot (q4 k hk)) rfl rfl hdg fun H' e1 e2 e3 => ?_
  rw [hsl] at e1
  exact kk H' _ (hI.set he e2 e3 ⟨_, hc, t_OB.to (V := updV (vp_V fs) k v) ⟨_, e1, q2, q3, t_set q4 hap hk v⟩ (fun j _ => vp_updV_set hl v j)⟩)
theorem k_get (hx : p.tables.exec = Jvm.exec) (hb : c.code = cc) {own C : String} {T : u_T} {N ci index : Nat} {Ts : List Cond} (hts : ∀ w ∈ Ts, w.before args s = true) (hin : ∀ w ∈ u_ws C T N, w ∈ Ts) (hown : s.vm.findClass own = some m.cls) (hK : va_K D vwCl (tyl cy) s) (hI : KI D B s es H locs) {q0 : Nat} {fs : List Value} (he : es[q0]? = some (.inr (ci, fs))) (hc : vwCl[ci]? = some (C, T, N)) (k : Nat) (hk : k < N)
    (hlink : Cond.fieldLink own index (T k).1 (T k).2.1 (T k).2.2.1 ∈ Ts) {v : Value} (hv : fs[k]? = some v) (hdg : decode cc pc = .ok (.getfield index, 3))
    (kk : W p l e R s m args below meth c H locs cells slots Q (F0 m (pc + 3) ls (v :: rest))) : W p l e R s m args below meth c H locs cells slots Q (F0 m pc ls (.ref (B + q0) :: rest)) :=
  va_get (D := D) (ci := ci) (v := v) (C := C) (T := T) (N := N) hx hb hts hin hown hK hI.2.1 q0 (wl_at he) hc k hk (hts _ hlink) (fun _ h9 => h9) hv hdg kk
theorem k_call {v : Option Value} {es' : List va_E} {mc ms : Nat} {a : Array Value} {st0 : List Value} (hr : va_Run p l e R s m args below meth c H locs cells slots mc ms (F0 m pc ls st0) rest (KQ D cy B es' a) (AB B)) (hI : KI D B s es H locs)
    (kk : ∀ (H1 : Heap) (locs1 : List Loc), KI D B s es' H1 locs1 → W p l e R s m args below meth c H1 locs1 (cells + mc) (slots + ms) Q (F0 m (pc + 3) ls rest)) : W p l e R s m args below meth c H locs cells slots Q (F0 m pc ls st0) := by
  intro T hT X
  obtain ⟨v', st₀, t, T', L, h0, X', hL, e1, e2, ⟨hv, hkp, hz, hk⟩, st⟩ := hr T hT X
  cases hv
  rw [h0] at hz hk
  obtain ⟨g1, g2, g3, g4⟩ := hI
  have hS1 : va_S (AB B) s.heap T'.heap (locs ++ L) := ⟨Nat.le_trans g3.1 (by rw [e1]; exact hz), fun q h1 h2 => by
      rw [e1, hk q (Nat.lt_of_lt_of_le h1 g3.1) h2]
      exact g3.2.1 q h1 h2, fun q hq => by
      rcases List.mem_append.mp hq with h | h
      · exact g3.2.2 q h
      · exact hL q h⟩
  obtain ⟨t2, a1, b1⟩ := kk T'.heap (locs ++ L) ⟨by rw [e1]; exact hkp.1, by rw [e1]; exact hkp.2.1, hS1, g4⟩ T' rfl X'
  exact ⟨t2, st t2 a1, b1⟩
theorem k_blind {as : List Value} : FrameBlind (va_Pc as (KP D cy B es)) := fun a U g mk q => by
  obtain ⟨q0, q1, qP, qK, qN⟩ := q
  exact ⟨q0, q1, qP, va_K.moved (u := U) (U := U.calling g mk a) (Vm.Alike.refl U.vm) qK, NK.same (u := U) (U := U.calling g mk a) rfl qN⟩
theorem k_pre (hI : KI D B s es H locs) (hK : va_K D vwCl (tyl cy) s) (hN : NK s) {as : List Value} : ∀ U : State, U.heap = H → s.WarmedH U.vm → va_Pc as (KP D cy B es) as.toArray U := fun U hU hW =>
  ⟨rfl, by rw [hU]; exact hI.1, by rw [hU]; exact hI.2.1, va_K.moved hW.alike hK, NK.warm hW hN⟩
/-- a constructor is called, over a nest mate's link -/
theorem k_IN {y : MethodName} {ws ws' Ts : List Cond} {rm : Room} {bytes : ByteArray} {maxL nL index ci k : Nat} {own : String} {fs0 : List Value} {fsF : Nat → List Value} {new : Nat → List va_E}
    (cm : KM l D cy B y ws rm ci fs0 fsF new) (hk : es[k]? = some (.inr (ci, fs0)))
    (hx : p.tables.exec = Jvm.exec) (hb : c.code = cc) (hml : c.maxLocals = nL) (hown : s.vm.findClass own = some m.cls) (hts : ∀ w ∈ Ts, w.before args s = true) (hK : va_K D vwCl (tyl cy) s) (hN : NK s) (hI : KI D B s es H locs) (hl : ls.size = nL)
    (hG : GoodIn Ts ws) (hw : ws = Cond.code y bytes maxL none :: ws') (hlk : (own, index, y) ∈ nestM) (hini : Cond.initialized y.cls ∈ Ts) (hinst : Cond.instanceMethod y ∈ Ts) (hd : y.cls ≠ "java/lang/invoke/MethodHandle" ∧ y.cls ≠ "java/lang/invoke/VarHandle" ∧ (parseMethodDescriptor y.desc).map (fun d => d.parameters.length) = some 0) (hni : y.name = "<init>")
    (hR : rm.frames + 1 ≤ R.frames ∧ 8 + (maxL + 11) + rm.locals ≤ R.locals) (hc : cells + rm.cells ≤ R.cells ∧ slots + rm.slots ≤ R.slots) (hroom : (rest.map fun v => v.category).sum ≤ 8) (hdg : decode cc pc = .ok (.invokespecial index, 3))
    (kk : ∀ (H1 : Heap) (locs1 : List Loc), KI D B s (es.set k (.inr (ci, fsF es.length)) ++ new es.length) H1 locs1 → W p l e R s m args below meth c H1 locs1 (cells + rm.cells) (slots + rm.slots) Q (F0 m (pc + 3) ls rest)) : W p l e R s m args below meth c H locs cells slots Q (F0 m pc ls (.ref (B + k) :: rest)) :=
  k_call (v := none) (va_runIN (As := []) (rest := rest) (b := B + k) ⟨hx, hb, hml, hown, hts⟩ (cm es k hk) ⟨va_cnB 0 hts hG hw rfl rfl (hN.1 _ hlk) (hts _ hini) hd hR, hni, hts _ hinst⟩ ⟨k_blind, k_pre hI hK hN⟩ rfl rfl hl rfl (lv_room hroom) hdg hc) hI kk
/-- a constructor is called, over a plain link -/
theorem k_II {y : MethodName} {ws ws' Ts : List Cond} {rm : Room} {bytes : ByteArray} {maxL nL index ci k : Nat} {own : String} {fs0 : List Value} {fsF : Nat → List Value} {new : Nat → List va_E}
    (cm : KM l D cy B y ws rm ci fs0 fsF new) (hk : es[k]? = some (.inr (ci, fs0)))
    (hx : p.tables.exec = Jvm.exec) (hb : c.code = cc) (hml : c.maxLocals = nL) (hown : s.vm.findClass own = some m.cls) (hts : ∀ w ∈ Ts, w.before args s = true) (hK : va_K D vwCl (tyl cy) s) (hN : NK s) (hI : KI D B s es H locs) (hl : ls.size = nL)
    (hG : GoodIn Ts ws) (hw : ws = Cond.code y bytes maxL none :: ws') (hlk : Cond.methodLink own index y ∈ Ts) (hini : Cond.initialized y.cls ∈ Ts) (hinst : Cond.instanceMethod y ∈ Ts) (hd : y.cls ≠ "java/lang/invoke/MethodHandle" ∧ y.cls ≠ "java/lang/invoke/VarHandle" ∧ (parseMethodDescriptor y.desc).map (fun d => d.parameters.length) = some 0) (hni : y.name = "<init>")
    (hR : rm.frames + 1 ≤ R.frames ∧ 8 + (maxL + 11) + rm.locals ≤ R.locals) (hc : cells + rm.cells ≤ R.cells ∧ slots + rm.slots ≤ R.slots) (hroom : (rest.map fun v => v.category).sum ≤ 8) (hdg : decode cc pc = .ok (.invokespecial index, 3))
    (kk : ∀ (H1 : Heap) (locs1 : List Loc), KI D B s (es.set k (.inr (ci, fsF es.length)) ++ new es.length) H1 locs1 → W p l e R s m args below meth c H1 locs1 (cells + rm.cells) (slots + rm.slots) Q (F0 m (pc + 3) ls rest)) : W p l e R s m args below meth c H locs cells slots Q (F0 m pc ls (.ref (B + k) :: rest)) :=
  k_call (v := none) (va_runI (As := []) (rest := rest) (b := B + k) ⟨hx, hb, hml, hown, hts⟩ (cm es k hk) (cwI 0 hts hG hw rfl rfl (hts _ hini) (hts _ hlk) (hts _ hinst) hni hd hR) ⟨k_blind, k_pre hI hK hN⟩ rfl rfl hl rfl (lv_room hroom) hdg hc) hI kk
theorem k_vret (hx : p.tables.exec = Jvm.exec) (hb : c.code = cc) (hr : meth.sig.returnType = none) (hK : va_K D vwCl (tyl cy) s) (hN : NK s) (hlocks : meth.locks = false) (hI : KI D B s es H locs) {es' : List va_E} {mc ms : Nat} (he : es = es') (hc : cells = mc) (hs : slots = ms) (hdg : decode cc pc = .ok (.return_, 1)) : W p l e R s m args below meth c H locs cells slots (MQ below (KQ D cy B es') args s mc ms (AB B)) (F0 m pc ls []) := by
  subst he; subst hc; subst hs
  exact W.vret hx hb hr (fun t ht hW => ⟨rfl, ⟨by rw [ht]; exact hI.1, by rw [ht]; exact hI.2.1, va_K.moved hW.alike hK, NK.warm hW hN⟩, hI.2.2.1.F ht⟩) hI.2.2.1.2.2 hdg hlocks
end KR
