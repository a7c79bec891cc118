/-! The world of all cells as one list; rows of the kit said of it. -/
def WR (cy : Nat → ClassId) (ad : Nat → Nat) (σ : Sg) : va_W := (List.range 479).map (fun c => (ad c, celv cy ad (σ c) c))
theorem WR_len (cy : Nat → ClassId) (ad : Nat → Nat) (σ : Sg) : (WR cy ad σ).length = 479 := by simp [WR]
theorem WR_get {cy : Nat → ClassId} {ad : Nat → Nat} {σ : Sg} {c : Nat} (h : c < 479) : (WR cy ad σ)[c]? = some (ad c, celv cy ad (σ c) c) := by
  unfold WR
  rw [List.getElem?_map, List.getElem?_range h]
  rfl
theorem WR_inv {cy : Nat → ClassId} {ad : Nat → Nat} {σ : Sg} {k : Nat} {q : Nat × va_E} (h : (WR cy ad σ)[k]? = some q) : k < 479 ∧ q = (ad k, celv cy ad (σ k) k) := by
  have hk : k < 479 := by
    have := (List.getElem?_eq_some_iff.mp h).1
    rwa [WR_len] at this
  rw [WR_get hk] at h
  exact ⟨hk, (Option.some.inj h).symm⟩
theorem WR_set {cy : Nat → ClassId} {ad : Nat → Nat} {σ : Sg} {c i : Nat} {v : Int} {e : va_E} (h : c < 479) (he : celv cy ad (up2 σ c i v c) c = e) : (WR cy ad σ).set c (ad c, e) = WR cy ad (up2 σ c i v) := by
  apply List.ext_getElem?
  intro k
  by_cases hk : k < 479
  · by_cases hkc : k = c
    · subst hkc
      rw [List.getElem?_set_self (by rw [WR_len]; exact hk), WR_get hk, he]
    · rw [List.getElem?_set_ne (Ne.symm hkc), WR_get hk, WR_get hk, up2_cell _ _ _ hkc]
  · rw [List.getElem?_eq_none (by rw [List.length_set, WR_len]; omega), List.getElem?_eq_none (by rw [WR_len]; omega)]
/-- what a method may change: the world's cells, and those that come -/
def AA (ad : Nat → Nat) (sz : Nat) : Nat → Prop := fun q => (∃ c, c < 479 ∧ q = ad c) ∨ sz ≤ q
def tyl (cy : Nat → ClassId) : List (ClassId × FieldType) := [(cy 0, .int), (cy 1, .byte), (cy 2, .boolean), (cy 3, .object "NameTurner$Place"), (cy 4, .object "NameTurner$Planned"), (cy 5, .long)]
def nestL : List (String × Nat × String × String × String) := [("NameTurner$Planned", 57, "NameTurner$Place", "folder", "I"), ("NameTurner", 202, "NameTurner$Place", "folder", "I"), ("NameTurner$Store", 53, "NameTurner$Place", "folder", "I"), ("NameTurner$Planned", 108, "NameTurner$Place", "length", "I"), ("NameTurner$Fit", 40, "NameTurner$Place", "length", "I"), ("NameTurner", 270, "NameTurner$Place", "length", "I"), ("NameTurner$Plan", 133, "NameTurner$Planned", "old", "LNameTurner$Place;"), ("NameTurner", 199, "NameTurner$Planned", "fresh", "LNameTurner$Place;"), ("NameTurner$Plan", 64, "NameTurner$Planned", "fresh", "LNameTurner$Place;"), ("NameTurner$Plan", 130, "NameTurner$Planned", "spare", "LNameTurner$Place;"), ("NameTurner", 190, "NameTurner$Planned", "file", "I"), ("NameTurner$Plan", 79, "NameTurner$Planned", "file", "I"), ("NameTurner", 210, "NameTurner$Planned", "counter", "I"), ("NameTurner", 205, "NameTurner$Planned", "length", "I"), ("NameTurner", 207, "NameTurner$Planned", "stays", "Z"), ("NameTurner$Plan", 94, "NameTurner$Planned", "stays", "Z"), ("NameTurner", 193, "NameTurner$Planned", "trouble", "I"), ("NameTurner$Plan", 61, "NameTurner$Planned", "trouble", "I"), ("NameTurner", 196, "NameTurner$Planned", "troubleWith", "I"), ("NameTurner$Plan", 97, "NameTurner$Planned", "waitsFor", "I"), ("NameTurner$Plan", 114, "NameTurner$Planned", "isSpared", "Z"), ("NameTurner$Plan", 108, "NameTurner$Planned", "isThere", "Z")]
def NW (U : State) : Prop := ∀ q ∈ nestL, va_Nw (.fieldLinkNest q.1 q.2.1 q.2.2.1 q.2.2.2.1 q.2.2.2.2 "NameTurner") U
theorem NW.warm {s U : State} (hW : s.WarmedH U.vm) (h : NW s) : NW U := fun q hq => va_Nw.warmF hW (h q hq)
theorem NW.same {u U : State} (hv : u.vm = U.vm) (h : NW u) : NW U := fun q hq => va_Nw.same rfl hv (h q hq)
def PW (D : va_G) (cy : Nat → ClassId) (ad : Nat → Nat) (σ : Sg) (U : State) : Prop := va_P D vwCl (WR cy ad σ) U.heap ∧ va_K D vwCl (tyl cy) U ∧ va_D (fun _ => True) (WR cy ad σ) ∧ NW U ∧ WF σ
def CQ (D : va_G) (cy : Nat → ClassId) (ad : Nat → Nat) (v : Option Value) (σ' : Sg) (G : Prop) (A : Nat → Prop) : Array Value → State → Outcome → State → Prop := fun _ st oc t => oc = .returned v ∧ (PW D cy ad σ' t ∧ G) ∧ va_F A st t
/-- a method's contract: from the world σ, with these arguments, it answers v and leaves the world σ' -/
def CM (l : Launch) (D : va_G) (cy : Nat → ClassId) (ad : Nat → Nat) (y : MethodName) (ws : List Cond) (rm : Room) (as : List Value) (σ : Sg) (v : Option Value) (σ' : Sg) (G : Prop) : Prop :=
  ∀ sz : Nat, Met l y ws rm (va_Pc as (fun U => U.heap.size = sz ∧ PW D cy ad σ U)) (CQ D cy ad v σ' G (AA ad sz)) 0 0 (AA ad sz)
def HI (D : va_G) (cy : Nat → ClassId) (ad : Nat → Nat) (s : State) (σ : Sg) (H : Heap) (locs : List Loc) : Prop :=
  va_P D vwCl (WR cy ad σ) H ∧ va_D (AA ad s.heap.size) (WR cy ad σ) ∧ va_S (AA ad s.heap.size) s.heap H locs ∧ WF σ
def MX (p : Program) (s : State) (m : MethodId) (args : Array Value) (meth : Method) (c : Code) (cc : ByteArray) (nL : Nat) (own : String) (ret : Option FieldType) (Ts : List Cond) (D : va_G) (cy : Nat → ClassId) : Prop :=
  p.tables.exec = Jvm.exec ∧ c.code = cc ∧ meth.sig.returnType = ret ∧ c.maxLocals = nL ∧ s.vm.findClass own = some m.cls ∧ (∀ w ∈ Ts, w.before args s = true) ∧ meth.locks = false ∧ va_K D vwCl (tyl cy) s ∧ NW s
theorem WR_D {A : Nat → Prop} {cy : Nat → ClassId} {ad : Nat → Nat} {σ : Sg} {sz : Nat} (h : va_D A (WR cy ad σ)) : va_D (AA ad sz) (WR cy ad σ) := ⟨h.1, fun k q hk => by
  obtain ⟨h1, rfl⟩ := WR_inv hk
  exact Or.inl ⟨k, h1, rfl⟩⟩
theorem AA_mono {ad : Nat → Nat} {a b : Nat} (h : a ≤ b) {q : Nat} (hq : AA ad b q) : AA ad a q := hq.elim Or.inl (fun z => Or.inr (Nat.le_trans h z))
section GR
variable {p : Program} {l : Launch} {e : Env} {R : Room} {s : State} {m : MethodId} {args : Array Value} {below : List Frame} {meth : Method} {c : Code} {H : Heap} {locs : List Loc} {cells slots : Nat} {Q : State → Prop}
variable {cc : ByteArray} {pc : Nat} {ls : Array Slot} {rest : List Value} {D : va_G} {cy : Nat → ClassId} {ad : Nat → Nat} {σ σ' : Sg}
theorem CM.of {y : MethodName} {ws ws' : List Cond} {rm : Room} {maxL : Nat} {ret : Option FieldType} {as : List Value} {v : Option Value} {G : Prop} (hy : plainName y.cls = true) (hw : ws = Cond.code y cc maxL ret :: ws') (hlen : (lg_sl as).length ≤ maxL)
    (body : ∀ (p : Program) (e : Env) (s : State) (m : MethodId) (args : Array Value) (below : List Frame) (meth : Method) (c : Code) (ls : Array Slot), MX p s m args meth c cc maxL y.cls ret ws D cy → HI D cy ad s σ s.heap [] → lv_has ls maxL (lv_args 0 as) →
      W p l e rm s m args below meth c s.heap [] 0 0 (MQ below (CQ D cy ad v σ' G (AA ad s.heap.size)) args s 0 0 (AA ad s.heap.size)) (F0 m 0 ls [])) : CM l D cy ad y ws rm as σ v σ' G := by
  intro sz
  refine Met.ofW (cc := cc) (maxL := maxL) (ret := ret) hy hw ?_
  intro p e s m args below meth c s₁ B hml hv
  obtain ⟨rfl, hsz, hP, hK, hD, hN, hF⟩ := hv
  have hts := atoms_spec (ws := ws) B.pre
  have hown : s.vm.findClass y.cls = some m.cls := findClass_of_methodNamed B.named
  subst hsz
  have hl := lv_entry as (n := maxL) hlen
  rw [lg_entry_eq]
  exact body p e s m _ below meth c _ ⟨B.exec, B.bytes, B.returns, hml, hown, hts, B.notSynchronized, hK, hN⟩ ⟨hP, WR_D hD, va_S.rf, hF⟩ hl
theorem g_call {v : Option Value} {G : Prop} {a : Array Value} {st0 : List Value} (hr : va_Run p l e R s m args below meth c H locs cells slots 0 0 (F0 m pc ls st0) rest (CQ D cy ad v σ' G (AA ad H.size) a) (AA ad H.size)) (hI : HI D cy ad s σ H locs)
    (kk : ∀ (H1 : Heap) (locs1 : List Loc), G → HI D cy ad s σ' H1 locs1 → W p l e R s m args below meth c H1 locs1 cells slots Q (F0 m (pc + 3) ls (v.toList ++ rest))) : W p l e R s m args below meth c H locs cells slots Q (F0 m pc ls st0) := by
  intro T hT X
  obtain ⟨v', st₀, t, T', L, h0, X', hL, e1, e2, ⟨hv, ⟨hpw, hg⟩, hz, hk⟩, st⟩ := hr T hT X
  cases hv
  rw [h0] at hz hk
  have hS := hI.2.2.1
  have hS1 : va_S (AA ad s.heap.size) s.heap T'.heap (locs ++ L) := ⟨Nat.le_trans hS.1 (by rw [e1]; exact hz), fun q h1 h2 => by
      rw [e1, hk q (Nat.lt_of_lt_of_le h1 hS.1) (fun z => h2 (AA_mono hS.1 z))]
      exact hS.2.1 q h1 h2, fun q hq => by
      rcases List.mem_append.mp hq with h | h
      · exact hS.2.2 q h
      · exact AA_mono hS.1 (hL q h)⟩
  obtain ⟨t2, a1, b1⟩ := kk T'.heap (locs ++ L) hg ⟨by rw [e1]; exact hpw.1, WR_D hpw.2.2.1, hS1, hpw.2.2.2.2⟩ T' rfl X'
  exact ⟨t2, st t2 a1, b1⟩
theorem g_blind {as : List Value} {sz : Nat} : FrameBlind (va_Pc as (fun U => U.heap.size = sz ∧ PW D cy ad σ U)) := fun a U g mk q => by
  obtain ⟨q0, q1, qP, qK, qD, qN, qF⟩ := q
  exact ⟨q0, q1, qP, va_K.moved (u := U) (U := U.calling g mk a) (Vm.Alike.refl U.vm) qK, qD, NW.same (u := U) (U := U.calling g mk a) rfl qN, qF⟩
theorem g_pre (hI : HI D cy ad s σ H locs) (hK : va_K D vwCl (tyl cy) s) (hN : NW s) {as : List Value} : ∀ U : State, U.heap = H → s.WarmedH U.vm → va_Pc as (fun U => U.heap.size = H.size ∧ PW D cy ad σ U) as.toArray U := fun U hU hW =>
  ⟨rfl, by rw [hU], by rw [hU]; exact hI.1, va_K.moved hW.alike hK, ⟨hI.2.1.1, fun _ _ _ => trivial⟩, NW.warm hW hN, hI.2.2.2⟩
/-- a call of a method of an object of the world -/
theorem g_V {y : MethodName} {ws ws' Ts : List Cond} {rm : Room} {bytes : ByteArray} {maxL nL n index : Nat} {ret : Option FieldType} {own C : String} {As st0 : List Value} {v : Option Value} {G : Prop} {ci : Nat} {fs : List Value} {q : vw_C} (cb : Nat)
    (cm : CM l D cy ad y ws rm (.ref (ad cb) :: As) σ v σ' G)
    (hx : p.tables.exec = Jvm.exec) (hb : c.code = cc) (hml : c.maxLocals = nL) (hown : s.vm.findClass own = some m.cls) (hts : ∀ w ∈ Ts, w.before args s = true) (hK : va_K D vwCl (tyl cy) s) (hN : NW s) (hI : HI D cy ad s σ H locs) (hl : ls.size = nL)
    (hG : GoodIn Ts (wsV own index C y ws)) (hw : ws = Cond.code y bytes maxL ret :: ws') (hd : y.cls = C ∧ y.cls ≠ "java/lang/invoke/MethodHandle" ∧ y.cls ≠ "java/lang/invoke/VarHandle" ∧ (parseMethodDescriptor y.desc).map (fun d => d.parameters.length) = some n)
    (hrc : rm.cells = 0) (hrs : rm.slots = 0) (hR : rm.frames + 1 ≤ R.frames ∧ 8 + (maxL + 11) + rm.locals ≤ R.locals) (hc : cells ≤ R.cells ∧ slots ≤ R.slots)
    (hcb : cb < 479) (he : celv cy ad (σ cb) cb = .inr (ci, fs)) (hq : vwCl[ci]? = some q) (hqC : q.1 = C) (hn : As.length = n) (hst : st0 = As.reverse ++ .ref (ad cb) :: rest) (hroom : (rest.map fun v => v.category).sum ≤ 8) (hdg : decode cc pc = .ok (.invokevirtual index, 3))
    (kk : ∀ (H1 : Heap) (locs1 : List Loc), G → HI D cy ad s σ' H1 locs1 → W p l e R s m args below meth c H1 locs1 cells slots Q (F0 m (pc + 3) ls (v.toList ++ rest))) : W p l e R s m args below meth c H locs cells slots Q (F0 m pc ls st0) := by
  subst hqC
  exact g_call (va_runV (b := ad cb) (As := As) (rest := rest) ⟨hx, hb, hml, hown, hts⟩ (cm H.size) (cwV n hts hG hw hrc hrs hd hR) ⟨g_blind, va_recv hK hI.1 hq (by rw [← he]; exact WR_get hcb), g_pre hI hK hN⟩ rfl hn hl hst (lv_room hroom) hdg hc) hI kk
/-- a call of a static method -/
theorem g_S {y : MethodName} {ws ws' Ts : List Cond} {rm : Room} {bytes : ByteArray} {maxL nL n index : Nat} {ret : Option FieldType} {own : String} {As st0 : List Value} {v : Option Value} {G : Prop}
    (cm : CM l D cy ad y ws rm As σ v σ' G)
    (hx : p.tables.exec = Jvm.exec) (hb : c.code = cc) (hml : c.maxLocals = nL) (hown : s.vm.findClass own = some m.cls) (hts : ∀ w ∈ Ts, w.before args s = true) (hK : va_K D vwCl (tyl cy) s) (hN : NW s) (hI : HI D cy ad s σ H locs) (hl : ls.size = nL)
    (hG : GoodIn Ts (va_wsS own index y ws)) (hw : ws = Cond.code y bytes maxL ret :: ws') (hd : y.cls ≠ "java/lang/invoke/MethodHandle" ∧ y.cls ≠ "java/lang/invoke/VarHandle" ∧ (parseMethodDescriptor y.desc).map (fun d => d.parameters.length) = some n)
    (hrc : rm.cells = 0) (hrs : rm.slots = 0) (hR : rm.frames + 1 ≤ R.frames ∧ 8 + (maxL + 11) + rm.locals ≤ R.locals) (hc : cells ≤ R.cells ∧ slots ≤ R.slots)
    (hn : As.length = n) (hst : st0 = As.reverse ++ rest) (hroom : (rest.map fun v => v.category).sum ≤ 8) (hdg : decode cc pc = .ok (.invokestatic index, 3))
    (kk : ∀ (H1 : Heap) (locs1 : List Loc), G → HI D cy ad s σ' H1 locs1 → W p l e R s m args below meth c H1 locs1 cells slots Q (F0 m (pc + 3) ls (v.toList ++ rest))) : W p l e R s m args below meth c H locs cells slots Q (F0 m pc ls st0) :=
  g_call (va_runS (As := As) (rest := rest) ⟨hx, hb, hml, hown, hts⟩ (cm H.size) (va_cwS n hts hG hw hrc hrs hd hR) ⟨g_blind, g_pre hI hK hN⟩ rfl hn hl hst (lv_room hroom) hdg hc) hI kk
theorem g_get (hx : p.tables.exec = Jvm.exec) (hb : c.code = cc) {own C : String} {T : u_T} {N ci index : Nat} {Ts : List Cond} (hts : ∀ w ∈ Ts, w.before args s = true) (hin : ∀ w ∈ u_ws C T N, w ∈ Ts) (hown : s.vm.findClass own = some m.cls) (hK : va_K D vwCl (tyl cy) s) (hI : HI D cy ad s σ H locs) (cb : Nat) (hcb : cb < 479) {fs : List Value} (he : celv cy ad (σ cb) cb = .inr (ci, fs)) (hc : vwCl[ci]? = some (C, T, N)) (k : Nat) (hk : k < N)
    (hlink : Cond.fieldLink own index (T k).1 (T k).2.1 (T k).2.2.1 ∈ Ts) {v : Value} (hv : fs[k]? = some v) (hdg : decode cc pc = .ok (.getfield index, 3))
    (kk : W p l e R s m args below meth c H locs cells slots Q (F0 m (pc + 3) ls (v :: rest))) : W p l e R s m args below meth c H locs cells slots Q (F0 m pc ls (.ref (ad cb) :: rest)) :=
  va_get (D := D) (ci := ci) (v := v) (C := C) (T := T) (N := N) hx hb hts hin hown hK hI.1 cb (by rw [← he]; exact WR_get hcb) hc k hk (hts _ hlink) (fun _ h9 => h9) hv hdg kk
theorem g_getN (hx : p.tables.exec = Jvm.exec) (hb : c.code = cc) {own C : String} {T : u_T} {N ci index : Nat} {Ts : List Cond} (hts : ∀ w ∈ Ts, w.before args s = true) (hin : ∀ w ∈ u_ws C T N, w ∈ Ts) (hown : s.vm.findClass own = some m.cls) (hK : va_K D vwCl (tyl cy) s) (hN : NW s) (hI : HI D cy ad s σ H locs) (cb : Nat) (hcb : cb < 479) {fs : List Value} (he : celv cy ad (σ cb) cb = .inr (ci, fs)) (hc : vwCl[ci]? = some (C, T, N)) (k : Nat) (hk : k < N)
    (hlink : (own, index, (T k).1, (T k).2.1, (T k).2.2.1) ∈ nestL) {v : Value} (hv : fs[k]? = some v) (hdg : decode cc pc = .ok (.getfield index, 3))
    (kk : W p l e R s m args below meth c H locs cells slots Q (F0 m (pc + 3) ls (v :: rest))) : W p l e R s m args below meth c H locs cells slots Q (F0 m pc ls (.ref (ad cb) :: rest)) :=
  va_getN (D := D) (ci := ci) (v := v) (C := C) (T := T) (N := N) (host := "NameTurner") hx hb hts hin hown hK hI.1 cb (by rw [← he]; exact WR_get hcb) hc k hk (va_Nw.use rfl (hN _ hlink)) (fun _ h9 => h9) hv hdg kk
theorem HI_set {H1 : Heap} {locs1 : List Loc} {cb i : Nat} {z : Int} {e : va_E} (hF : WF σ) (hb : bnd cb i z) (hcb : cb < 479) (he : celv cy ad (up2 σ cb i z cb) cb = e) (hP : va_P D vwCl ((WR cy ad σ).set cb (ad cb, e)) H1) (hD : va_D (AA ad s.heap.size) ((WR cy ad σ).set cb (ad cb, e))) (hS : va_S (AA ad s.heap.size) s.heap H1 locs1) : HI D cy ad s (up2 σ cb i z) H1 locs1 := by
  rw [WR_set hcb he] at hP hD
  exact ⟨hP, hD, hS, WF_up hF hb⟩
theorem g_put (hx : p.tables.exec = Jvm.exec) (hb : c.code = cc) {own C : String} {T : u_T} {N ci index : Nat} {Ts : List Cond} (hts : ∀ w ∈ Ts, w.before args s = true) (hin : ∀ w ∈ u_ws C T N, w ∈ Ts) (ty0 : Nat → FieldType) (hty : ∀ k, k < N → parseFieldDescriptor (T k).2.2.1 = some (ty0 k)) (hnm : ∀ a, a < N → ∀ b, b < N → a ≠ b → (T a).2.1 ≠ (T b).2.1) (hown : s.vm.findClass own = some m.cls) (hK : va_K D vwCl (tyl cy) s) (hI : HI D cy ad s σ H locs) (cb : Nat) (hcb : cb < 479) {fs : (Nat → Int) → List Value} (he : ∀ row, celv cy ad row cb = .inr (ci, fs row)) (hc : vwCl[ci]? = some (C, T, N)) (k : Nat) (hk : k < N)
    (hlink : Cond.fieldLink own index (T k).1 (T k).2.1 (T k).2.2.1 ∈ Ts) (hfin : (T k).2.2.2 = false) {ty : FieldType} {v : Value} {z : Int} (hd : parseFieldDescriptor (T k).2.2.1 = some ty) (hn : narrow ty v = v) (hfit : fits ty v = true) (hlt : k < (fs (σ cb)).length) (hs : fs (up2 σ cb k z cb) = (fs (σ cb)).set k v) (hbd : bnd cb k z) (hdg : decode cc pc = .ok (.putfield index, 3))
    (kk : ∀ (H1 : Heap) (locs1 : List Loc), HI D cy ad s (up2 σ cb k z) H1 locs1 → W p l e R s m args below meth c H1 locs1 cells slots Q (F0 m (pc + 3) ls rest)) : W p l e R s m args below meth c H locs cells slots Q (F0 m pc ls (v :: .ref (ad cb) :: rest)) :=
  va_put (D := D) (ci := ci) (v := v) (ty := ty) (C := C) (T := T) (N := N) hx hb hts hin ty0 hty hnm hown hK hI.1 hI.2.1 hI.2.2.1 cb (by rw [← he]; exact WR_get hcb) hc k hk (hts _ hlink) (fun _ h9 => h9) hfin hd hn hfit hlt hdg (fun H1 locs1 hP hD hS => kk H1 locs1 (HI_set hI.2.2.2 hbd hcb (by rw [he, hs]) hP hD hS))
theorem g_putN (hx : p.tables.exec = Jvm.exec) (hb : c.code = cc) {own C : String} {T : u_T} {N ci index : Nat} {Ts : List Cond} (hts : ∀ w ∈ Ts, w.before args s = true) (hin : ∀ w ∈ u_ws C T N, w ∈ Ts) (ty0 : Nat → FieldType) (hty : ∀ k, k < N → parseFieldDescriptor (T k).2.2.1 = some (ty0 k)) (hnm : ∀ a, a < N → ∀ b, b < N → a ≠ b → (T a).2.1 ≠ (T b).2.1) (hown : s.vm.findClass own = some m.cls) (hK : va_K D vwCl (tyl cy) s) (hN : NW s) (hI : HI D cy ad s σ H locs) (cb : Nat) (hcb : cb < 479) {fs : (Nat → Int) → List Value} (he : ∀ row, celv cy ad row cb = .inr (ci, fs row)) (hc : vwCl[ci]? = some (C, T, N)) (k : Nat) (hk : k < N)
    (hlink : (own, index, (T k).1, (T k).2.1, (T k).2.2.1) ∈ nestL) (hfin : (T k).2.2.2 = false) {ty : FieldType} {v : Value} {z : Int} (hd : parseFieldDescriptor (T k).2.2.1 = some ty) (hn : narrow ty v = v) (hfit : fits ty v = true) (hlt : k < (fs (σ cb)).length) (hs : fs (up2 σ cb k z cb) = (fs (σ cb)).set k v) (hbd : bnd cb k z) (hdg : decode cc pc = .ok (.putfield index, 3))
    (kk : ∀ (H1 : Heap) (locs1 : List Loc), HI D cy ad s (up2 σ cb k z) H1 locs1 → W p l e R s m args below meth c H1 locs1 cells slots Q (F0 m (pc + 3) ls rest)) : W p l e R s m args below meth c H locs cells slots Q (F0 m pc ls (v :: .ref (ad cb) :: rest)) :=
  va_putN (D := D) (ci := ci) (v := v) (ty := ty) (C := C) (T := T) (N := N) (host := "NameTurner") hx hb hts hin ty0 hty hnm hown hK hI.1 hI.2.1 hI.2.2.1 cb (by rw [← he]; exact WR_get hcb) hc k hk (va_Nw.use rfl (hN _ hlink)) (fun _ h9 => h9) hfin hd hn hfit hlt hdg (fun H1 locs1 hP hD hS => kk H1 locs1 (HI_set hI.2.2.2 hbd hcb (by rw [he, hs]) hP hD hS))
theorem g_iald (hx : p.tables.exec = Jvm.exec) (hb : c.code = cc) (hK : va_K D vwCl (tyl cy) s) (hI : HI D cy ad s σ H locs) (cb : Nat) (hcb : cb < 479) {n : Nat} (he : ∀ row, celv cy ad row cb = .inl (cy 0, n, .inl (fun j => iI (row j)))) {z : Int} (h0 : 0 ≤ z ∧ z < (n : Int)) (hn : n < 2147483648) {v : Int} (hv : σ cb z.toNat = v) (hdg : decode cc pc = .ok (.iaload, 1))
    (kk : W p l e R s m args below meth c H locs cells slots Q (F0 m (pc + 1) ls (.int (iI v) :: rest))) : W p l e R s m args below meth c H locs cells slots Q (F0 m pc ls (.int (iI z) :: .ref (ad cb) :: rest)) :=
  va_iald hx hb hK hI.1 cb 0 (cA := cy 0) (n := n) (f := fun j => iI (σ cb j)) (by rw [← he]; exact WR_get hcb) rfl (iI_in h0.1 h0.2 hn) hdg (by rw [iI_clamp h0.1 (by omega)]; subst hv; exact kk)
theorem g_bald (hx : p.tables.exec = Jvm.exec) (hb : c.code = cc) (hK : va_K D vwCl (tyl cy) s) (hI : HI D cy ad s σ H locs) (cb : Nat) (hcb : cb < 479) {n : Nat} (he : ∀ row, celv cy ad row cb = .inl (cy 1, n, .inl (fun j => iI (row j)))) {z : Int} (h0 : 0 ≤ z ∧ z < (n : Int)) (hn : n < 2147483648) {v : Int} (hv : σ cb z.toNat = v) (hdg : decode cc pc = .ok (.baload, 1))
    (kk : W p l e R s m args below meth c H locs cells slots Q (F0 m (pc + 1) ls (.int (iI v) :: rest))) : W p l e R s m args below meth c H locs cells slots Q (F0 m pc ls (.int (iI z) :: .ref (ad cb) :: rest)) :=
  va_bald hx hb hK hI.1 cb 1 (cA := cy 1) (n := n) (f := fun j => iI (σ cb j)) (by rw [← he]; exact WR_get hcb) rfl (iI_in h0.1 h0.2 hn) hdg (by rw [iI_clamp h0.1 (by omega)]; subst hv; exact kk)
theorem g_zald (hx : p.tables.exec = Jvm.exec) (hb : c.code = cc) (hK : va_K D vwCl (tyl cy) s) (hI : HI D cy ad s σ H locs) (cb : Nat) (hcb : cb < 479) {n : Nat} (he : ∀ row, celv cy ad row cb = .inl (cy 2, n, .inl (fun j => iI (row j)))) {z : Int} (h0 : 0 ≤ z ∧ z < (n : Int)) (hn : n < 2147483648) {v : Int} (hv : σ cb z.toNat = v) (hdg : decode cc pc = .ok (.baload, 1))
    (kk : W p l e R s m args below meth c H locs cells slots Q (F0 m (pc + 1) ls (.int (iI v) :: rest))) : W p l e R s m args below meth c H locs cells slots Q (F0 m pc ls (.int (iI z) :: .ref (ad cb) :: rest)) :=
  va_zald hx hb hK hI.1 cb 2 (cA := cy 2) (n := n) (f := fun j => iI (σ cb j)) (by rw [← he]; exact WR_get hcb) rfl (iI_in h0.1 h0.2 hn) hdg (by rw [iI_clamp h0.1 (by omega)]; subst hv; exact kk)
theorem g_aaldP (hx : p.tables.exec = Jvm.exec) (hb : c.code = cc) (hK : va_K D vwCl (tyl cy) s) (hI : HI D cy ad s σ H locs) (cb : Nat) (hcb : cb < 479) {n : Nat} {f : Nat → Nat} (he : ∀ row, celv cy ad row cb = .inl (cy 3, n, .inr (.inr (.inr (.inr (fun i => some (ad (f i)))))))) {z : Int} (h0 : 0 ≤ z ∧ z < (n : Int)) (hn : n < 2147483648) (hdg : decode cc pc = .ok (.aaload, 1))
    (kk : W p l e R s m args below meth c H locs cells slots Q (F0 m (pc + 1) ls (.ref (ad (f z.toNat)) :: rest))) : W p l e R s m args below meth c H locs cells slots Q (F0 m pc ls (.int (iI z) :: .ref (ad cb) :: rest)) :=
  va_aldq hx hb hK hI.1 cb 3 (cA := cy 3) (C := "NameTurner$Place") (n := n) (f := fun i => some (ad (f i))) (by rw [← he (σ cb)]; exact WR_get hcb) rfl (iI_in h0.1 h0.2 hn) hdg (by rw [iI_clamp h0.1 (by omega)]; exact kk)
theorem g_aaldQ (hx : p.tables.exec = Jvm.exec) (hb : c.code = cc) (hK : va_K D vwCl (tyl cy) s) (hI : HI D cy ad s σ H locs) (cb : Nat) (hcb : cb < 479) {n : Nat} {f : Nat → Nat} (he : ∀ row, celv cy ad row cb = .inl (cy 4, n, .inr (.inr (.inr (.inr (fun i => some (ad (f i)))))))) {z : Int} (h0 : 0 ≤ z ∧ z < (n : Int)) (hn : n < 2147483648) (hdg : decode cc pc = .ok (.aaload, 1))
    (kk : W p l e R s m args below meth c H locs cells slots Q (F0 m (pc + 1) ls (.ref (ad (f z.toNat)) :: rest))) : W p l e R s m args below meth c H locs cells slots Q (F0 m pc ls (.int (iI z) :: .ref (ad cb) :: rest)) :=
  va_aldq hx hb hK hI.1 cb 4 (cA := cy 4) (C := "NameTurner$Planned") (n := n) (f := fun i => some (ad (f i))) (by rw [← he (σ cb)]; exact WR_get hcb) rfl (iI_in h0.1 h0.2 hn) hdg (by rw [iI_clamp h0.1 (by omega)]; exact kk)
theorem g_row {cb i : Nat} {x : Int} : upd (fun j => iI (σ cb j)) i (iI x) = fun j => iI (up2 σ cb i x cb j) := by
  funext j
  rw [up2_row]
  unfold upd
  by_cases h : j = i <;> simp [h]
theorem g_iast (hx : p.tables.exec = Jvm.exec) (hb : c.code = cc) (hK : va_K D vwCl (tyl cy) s) (hI : HI D cy ad s σ H locs) (cb : Nat) (hcb : cb < 479) {n : Nat} (he : ∀ row, celv cy ad row cb = .inl (cy 0, n, .inl (fun j => iI (row j)))) {z x : Int} (h0 : 0 ≤ z ∧ z < (n : Int)) (hn : n < 2147483648) (hbd : bnd cb z.toNat x) (hdg : decode cc pc = .ok (.iastore, 1))
    (kk : ∀ (H1 : Heap) (locs1 : List Loc), HI D cy ad s (up2 σ cb z.toNat x) H1 locs1 → W p l e R s m args below meth c H1 locs1 cells slots Q (F0 m (pc + 1) ls rest)) : W p l e R s m args below meth c H locs cells slots Q (F0 m pc ls (.int (iI x) :: .int (iI z) :: .ref (ad cb) :: rest)) :=
  va_iast hx hb hK hI.1 hI.2.1 hI.2.2.1 cb 0 (cA := cy 0) (n := n) (f := fun j => iI (σ cb j)) (by rw [← he]; exact WR_get hcb) rfl (iI_in h0.1 h0.2 hn) hdg (fun H1 locs1 hP hD hS => kk H1 locs1 (HI_set hI.2.2.2 hbd hcb (by rw [he, iI_clamp h0.1 (by omega), g_row]) hP hD hS))
theorem g_bast (hx : p.tables.exec = Jvm.exec) (hb : c.code = cc) (hK : va_K D vwCl (tyl cy) s) (hI : HI D cy ad s σ H locs) (cb : Nat) (hcb : cb < 479) {n : Nat} (he : ∀ row, celv cy ad row cb = .inl (cy 1, n, .inl (fun j => iI (row j)))) {z x : Int} (h0 : 0 ≤ z ∧ z < (n : Int)) (hn : n < 2147483648) (hv : -128 ≤ x ∧ x < 128) (hbd : bnd cb z.toNat x) (hdg : decode cc pc = .ok (.bastore, 1))
    (kk : ∀ (H1 : Heap) (locs1 : List Loc), HI D cy ad s (up2 σ cb z.toNat x) H1 locs1 → W p l e R s m args below meth c H1 locs1 cells slots Q (F0 m (pc + 1) ls rest)) : W p l e R s m args below meth c H locs cells slots Q (F0 m pc ls (.int (iI x) :: .int (iI z) :: .ref (ad cb) :: rest)) :=
  va_bast hx hb hK hI.1 hI.2.1 hI.2.2.1 cb 1 (cA := cy 1) (n := n) (f := fun j => iI (σ cb j)) (by rw [← he]; exact WR_get hcb) rfl (iI_in h0.1 h0.2 hn) hdg (fun H1 locs1 hP hD hS => kk H1 locs1 (HI_set hI.2.2.2 hbd hcb (by rw [he, iI_clamp h0.1 (by omega), iI_nb hv, g_row]) hP hD hS))
theorem g_zast (hx : p.tables.exec = Jvm.exec) (hb : c.code = cc) (hK : va_K D vwCl (tyl cy) s) (hI : HI D cy ad s σ H locs) (cb : Nat) (hcb : cb < 479) {n : Nat} (he : ∀ row, celv cy ad row cb = .inl (cy 2, n, .inl (fun j => iI (row j)))) {z x : Int} (h0 : 0 ≤ z ∧ z < (n : Int)) (hn : n < 2147483648) (hv : 0 ≤ x ∧ x ≤ 1) (hbd : bnd cb z.toNat x) (hdg : decode cc pc = .ok (.bastore, 1))
    (kk : ∀ (H1 : Heap) (locs1 : List Loc), HI D cy ad s (up2 σ cb z.toNat x) H1 locs1 → W p l e R s m args below meth c H1 locs1 cells slots Q (F0 m (pc + 1) ls rest)) : W p l e R s m args below meth c H locs cells slots Q (F0 m pc ls (.int (iI x) :: .int (iI z) :: .ref (ad cb) :: rest)) :=
  va_zast hx hb hK hI.1 hI.2.1 hI.2.2.1 cb 2 (cA := cy 2) (n := n) (f := fun j => iI (σ cb j)) (by rw [← he]; exact WR_get hcb) rfl (iI_in h0.1 h0.2 hn) hdg (fun H1 locs1 hP hD hS => kk H1 locs1 (HI_set hI.2.2.2 hbd hcb (by rw [he, iI_clamp h0.1 (by omega), iI_vz hv, g_row]) hP hD hS))
theorem g_alen (hx : p.tables.exec = Jvm.exec) (hb : c.code = cc) (hK : va_K D vwCl (tyl cy) s) (hI : HI D cy ad s σ H locs) (cb t0 : Nat) (hcb : cb < 479) {n : Nat} {cA : ClassId} {ty : FieldType} {f : (Nat → Int32) ⊕ (Nat → Int64) ⊕ (Nat → UInt32) ⊕ (Nat → UInt64) ⊕ (Nat → Option Nat)} (he : celv cy ad (σ cb) cb = .inl (cA, n, f)) (ht : (tyl cy)[t0]? = some (cA, ty)) {z : Int} (hz : (n : Int) = z) (hdg : decode cc pc = .ok (.arraylength, 1))
    (kk : W p l e R s m args below meth c H locs cells slots Q (F0 m (pc + 1) ls (.int (iI z) :: rest))) : W p l e R s m args below meth c H locs cells slots Q (F0 m pc ls (.ref (ad cb) :: rest)) :=
  va_alen hx hb hK hI.1 cb t0 (cA := cA) (x := (n, f)) (by rw [← he]; exact WR_get hcb) ht (v := iI z) (by subst hz; show Int32.ofNat n = Int32.ofInt (n : Int); exact (Int32.ofInt_eq_ofNat).symm) hdg kk
end GR
