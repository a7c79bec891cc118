/-- all cells es, of which the k-th is X now, and behind them the new ones -/
def kw (es : List va_E) (k : Nat) (X : va_E) (NW : List va_E) : List va_E := es.set k X ++ NW
theorem kw_len (es : List va_E) (k : Nat) (X : va_E) (NW : List va_E) : (kw es k X NW).length = es.length + NW.length := by simp [kw]
theorem kw_app (es : List va_E) (k : Nat) (X : va_E) (NW N2 : List va_E) : kw es k X NW ++ N2 = kw es k X (NW ++ N2) := by simp [kw]
theorem kw_set0 {es : List va_E} {k : Nat} (h : k < es.length) (X Y : va_E) (NW : List va_E) : (kw es k X NW).set k Y = kw es k Y NW := by
  unfold kw
  rw [List.set_append_left _ _ (by rw [List.length_set]; exact h), List.set_set]
theorem kw_get0 {es : List va_E} {k : Nat} (h : k < es.length) (X : va_E) (NW : List va_E) : (kw es k X NW)[k]? = some X := by
  unfold kw
  rw [List.getElem?_append_left (by rw [List.length_set]; exact h), List.getElem?_set_self h]
theorem kw_getN (es : List va_E) (k : Nat) (X : va_E) (NW : List va_E) (j : Nat) : (kw es k X NW)[es.length + j]? = NW[j]? := by
  unfold kw
  rw [List.getElem?_append_right (by rw [List.length_set]; omega), List.length_set, Nat.add_sub_cancel_left]
theorem kw_setN (es : List va_E) (k : Nat) (X : va_E) (NW : List va_E) (j : Nat) (Y : va_E) : (kw es k X NW).set (es.length + j) Y = kw es k X (NW.set j Y) := by
  unfold kw
  rw [List.set_append_right _ _ (by rw [List.length_set]; omega), List.length_set, Nat.add_sub_cancel_left]
theorem kw_self {es : List va_E} {k : Nat} {X : va_E} (h : es[k]? = some X) : kw es k X [] = es := by
  unfold kw
  rw [List.append_nil]
  obtain ⟨h1, h2⟩ := List.getElem?_eq_some_iff.mp h
  subst h2
  exact List.set_getElem_self h1
section KW
variable {p : Program} {l : Launch} {e : Env} {R : Room} {s : State} {m : MethodId} {args : Array Value} {below : List Frame} {meth : Method} {c : Code} {H : Heap} {locs : List Loc} {cells slots : Nat} {Q : State → Prop}
variable {cc : ByteArray} {pc : Nat} {ls : Array Slot} {rest : List Value} {D : va_G} {cy : Nat → ClassId} {B : Nat} {es : List va_E} {k0 : Nat} {X : va_E} {NW NW2 : List va_E}
theorem kw_new (hx : p.tables.exec = Jvm.exec) (hb : c.code = cc) {own C : String} {T : u_T} {N ci index : Nat} {Ts : List Cond} (hts : ∀ w ∈ Ts, w.before args s = true) (hin : ∀ w ∈ u_ws C T N, w ∈ Ts) (ty : Nat → FieldType) (hty : ∀ k, k < N → parseFieldDescriptor (T k).2.2.1 = some (ty k)) (hown : s.vm.findClass own = some m.cls) (hcl : Cond.classLink own index C ∈ Ts) (hinst : Cond.instantiable C N ∈ Ts) (hini : Cond.initialized C ∈ Ts)
    (hK : va_K D vwCl (tyl cy) s) (hI : KI D B s (kw es k0 X NW) H locs) (hc : vwCl[ci]? = some (C, T, N)) {fs : List Value} (hfs : ∀ j, j < N → defaultValue (ty j) = vp_V fs j) {n : Nat} (hn : NW.length = n) (h2 : NW ++ [.inr (ci, fs)] = NW2) (hcells : cells + 1 ≤ R.cells) (hslots : slots + N ≤ R.slots) (hdg : decode cc pc = .ok (.new index, 3))
    (kk : ∀ H1 : Heap, KI D B s (kw es k0 X NW2) H1 locs → W p l e R s m args below meth c H1 locs (cells + 1) (slots + N) Q (F0 m (pc + 3) ls (.ref (B + (es.length + n)) :: rest))) : W p l e R s m args below meth c H locs cells slots Q (F0 m pc ls rest) := by
  subst hn; subst h2
  refine k_new hx hb hts hin ty hty hown (hts _ hcl) (hts _ hinst) (hts _ hini) hK hI hc hfs hcells hslots hdg (fun H1 h => ?_)
  rw [kw_app] at h
  rw [kw_len]
  exact kk H1 h
theorem kw_newa (hx : p.tables.exec = Jvm.exec) (hb : c.code = cc) {atype : ArrayType} {Ts : List Cond} (hts : ∀ w ∈ Ts, w.before args s = true) (harr : Cond.arrayClass (newarray.typeOf atype) ∈ Ts) {cA : ClassId} (hra : s.vm.findClass ("[" ++ (newarray.typeOf atype).toString) = some cA) (hI : KI D B s (kw es k0 X NW) H locs)
    {z : Int32} {N' : Nat} {a0 : vp_A} (ha : vp_cell cA a0 = arrV cA N' (fun _ => defaultValue (newarray.typeOf atype))) (hz : ¬ z < 0) (hN : z.toNatClampNeg = N') (hbytes : N' * componentBytes (newarray.typeOf atype) ≤ 536870912) {n : Nat} (hn : NW.length = n) (h2 : NW ++ [.inl (cA, a0)] = NW2) (hcells : cells + 1 ≤ R.cells) (hslots : slots + N' ≤ R.slots) (hdg : decode cc pc = .ok (.newarray atype, 2))
    (kk : ∀ H1 : Heap, KI D B s (kw es k0 X NW2) H1 locs → W p l e R s m args below meth c H1 locs (cells + 1) (slots + N') Q (F0 m (pc + 2) ls (.ref (B + (es.length + n)) :: rest))) : W p l e R s m args below meth c H locs cells slots Q (F0 m pc ls (.int z :: rest)) := by
  subst hn; subst h2
  refine k_newa hx hb (hts _ harr) hra hI ha hz hN hbytes hcells hslots hdg (fun H1 h => ?_)
  rw [kw_app] at h
  rw [kw_len]
  exact kk H1 h
theorem kw_anew (hx : p.tables.exec = Jvm.exec) (hb : c.code = cc) {own C : String} {index : Nat} {Ts : List Cond} (hts : ∀ w ∈ Ts, w.before args s = true) (hown : s.vm.findClass own = some m.cls) (hclink : Cond.classLink own index C ∈ Ts) (hover : va_AO C s) {cA : ClassId} (hra : s.vm.findClass ("[" ++ (FieldType.object C).toString) = some cA) (hI : KI D B s (kw es k0 X NW) H locs)
    {z : Int32} {N' : Nat} (hz : ¬ z < 0) (hN : z.toNatClampNeg = N') (hbytes : N' * 4 ≤ 536870912) {n : Nat} (hn : NW.length = n) (h2 : NW ++ [.inl (cA, N', .inr (.inr (.inr (.inr (fun _ => none)))))] = NW2) (hcells : cells + 1 ≤ R.cells) (hslots : slots + N' ≤ R.slots) (hdg : decode cc pc = .ok (.anewarray index, 3))
    (kk : ∀ H1 : Heap, KI D B s (kw es k0 X NW2) H1 locs → W p l e R s m args below meth c H1 locs (cells + 1) (slots + N') Q (F0 m (pc + 3) ls (.ref (B + (es.length + n)) :: rest))) : W p l e R s m args below meth c H locs cells slots Q (F0 m pc ls (.int z :: rest)) := by
  subst hn; subst h2
  refine k_anew hx hb hown (hts _ hclink) hover hra hI hz hN hbytes hcells hslots hdg (fun H1 h => ?_)
  rw [kw_app] at h
  rw [kw_len]
  exact kk H1 h
theorem kw_put (hx : p.tables.exec = Jvm.exec) (hb : c.code = cc) {own C : String} {T : u_T} {N ci index : Nat} {Ts : List Cond} (hts : ∀ w ∈ Ts, w.before args s = true) (hin : ∀ w ∈ u_ws C T N, w ∈ Ts) (ty0 : Nat → FieldType) (hty : ∀ k, k < N → parseFieldDescriptor (T k).2.2.1 = some (ty0 k)) (hnm : ∀ a, a < N → ∀ b, b < N → a ≠ b → (T a).2.1 ≠ (T b).2.1) (hown : s.vm.findClass own = some m.cls) (hK : va_K D vwCl (tyl cy) s) {fs fs2 : List Value} (hk0 : k0 < es.length) (hI : KI D B s (kw es k0 (.inr (ci, fs)) NW) H locs) (hc : vwCl[ci]? = some (C, T, N)) (k : Nat) (hk : k < N)
    (hlink : Cond.fieldLink own index (T k).1 (T k).2.1 (T k).2.2.1 ∈ Ts) (hfin : (T k).2.2.2 = false) {ty : FieldType} {v : Value} (hd : parseFieldDescriptor (T k).2.2.1 = some ty) (hn : narrow ty v = v) (hfit : fits ty v = true) (hl : k < fs.length) (h2 : fs.set k v = fs2) (hdg : decode cc pc = .ok (.putfield index, 3))
    (kk : ∀ (H1 : Heap) (locs1 : List Loc), KI D B s (kw es k0 (.inr (ci, fs2)) NW) H1 locs1 → W p l e R s m args below meth c H1 locs1 cells slots Q (F0 m (pc + 3) ls rest)) : W p l e R s m args below meth c H locs cells slots Q (F0 m pc ls (v :: .ref (B + k0) :: rest)) := by
  subst h2
  refine k_put hx hb hts hin ty0 hty hnm hown hK hI (kw_get0 hk0 _ _) hc k hk hlink hfin hd hn hfit hl hdg (fun H1 locs1 h => ?_)
  rw [kw_set0 hk0] at h
  exact kk H1 locs1 h
theorem kw_putF (hx : p.tables.exec = Jvm.exec) (hb : c.code = cc) {own C : String} {T : u_T} {N ci index : Nat} {Ts : List Cond} (hts : ∀ w ∈ Ts, w.before args s = true) (hin : ∀ w ∈ u_ws C T N, w ∈ Ts) (ty0 : Nat → FieldType) (hty : ∀ k, k < N → parseFieldDescriptor (T k).2.2.1 = some (ty0 k)) (hnm : ∀ a, a < N → ∀ b, b < N → a ≠ b → (T a).2.1 ≠ (T b).2.1) (hown : s.vm.findClass own = some m.cls) (hK : va_K D vwCl (tyl cy) s) {fs fs2 : List Value} (hk0 : k0 < es.length) (hI : KI D B s (kw es k0 (.inr (ci, fs)) NW) H locs) (hc : vwCl[ci]? = some (C, T, N)) (k : Nat) (hk : k < N)
    (hlink : Cond.fieldLink own index (T k).1 (T k).2.1 (T k).2.2.1 ∈ Ts) (hfin : (T k).2.2.2 = true) (hin2 : meth.name = "<init>") (hdecl : (T k).1 = own) {ty : FieldType} {v : Value} (hd : parseFieldDescriptor (T k).2.2.1 = some ty) (hn : narrow ty v = v) (hfit : fits ty v = true) (hl : k < fs.length) (h2 : fs.set k v = fs2) (hdg : decode cc pc = .ok (.putfield index, 3))
    (kk : ∀ (H1 : Heap) (locs1 : List Loc), KI D B s (kw es k0 (.inr (ci, fs2)) NW) H1 locs1 → W p l e R s m args below meth c H1 locs1 cells slots Q (F0 m (pc + 3) ls rest)) : W p l e R s m args below meth c H locs cells slots Q (F0 m pc ls (v :: .ref (B + k0) :: rest)) := by
  subst h2
  refine k_putF hx hb hts hin ty0 hty hnm hown hK hI (kw_get0 hk0 _ _) hc k hk hlink hfin hin2 hdecl hd hn hfit hl hdg (fun H1 locs1 h => ?_)
  rw [kw_set0 hk0] at h
  exact kk H1 locs1 h
theorem kw_IN {y : MethodName} {ws ws' Ts : List Cond} {rm : Room} {bytes : ByteArray} {maxL nL index ci j n : Nat} {own : String} {fs0 : List Value} {fsF : Nat → List Value} {new : Nat → List va_E}
    (cm : KM l D cy B y ws rm ci fs0 fsF new) (hk : NW[j]? = some (.inr (ci, fs0)))
    (hx : p.tables.exec = Jvm.exec) (hb : c.code = cc) (hml : c.maxLocals = nL) (hown : s.vm.findClass own = some m.cls) (hts : ∀ w ∈ Ts, w.before args s = true) (hK : va_K D vwCl (tyl cy) s) (hN : NK s) (hI : KI D B s (kw es k0 X NW) H locs) (hl : ls.size = nL)
    (hG : GoodIn Ts ws) (hw : ws = Cond.code y bytes maxL none :: ws') (hlk : (own, index, y) ∈ nestM) (hini : Cond.initialized y.cls ∈ Ts) (hinst : Cond.instanceMethod y ∈ Ts) (hd : y.cls ≠ "java/lang/invoke/MethodHandle" ∧ y.cls ≠ "java/lang/invoke/VarHandle" ∧ (parseMethodDescriptor y.desc).map (fun d => d.parameters.length) = some 0) (hni : y.name = "<init>")
    (hR : rm.frames + 1 ≤ R.frames ∧ 8 + (maxL + 11) + rm.locals ≤ R.locals) (hc : cells + rm.cells ≤ R.cells ∧ slots + rm.slots ≤ R.slots) (hroom : (rest.map fun v => v.category).sum ≤ 8) (hn : NW.length = n) (h2 : NW.set j (.inr (ci, fsF (es.length + n))) ++ new (es.length + n) = NW2) (hdg : decode cc pc = .ok (.invokespecial index, 3))
    (kk : ∀ (H1 : Heap) (locs1 : List Loc), KI D B s (kw es k0 X NW2) H1 locs1 → W p l e R s m args below meth c H1 locs1 (cells + rm.cells) (slots + rm.slots) Q (F0 m (pc + 3) ls rest)) : W p l e R s m args below meth c H locs cells slots Q (F0 m pc ls (.ref (B + (es.length + j)) :: rest)) := by
  subst hn; subst h2
  refine k_IN cm (by rw [kw_getN]; exact hk) hx hb hml hown hts hK hN hI hl hG hw hlk hini hinst hd hni hR hc hroom hdg (fun H1 locs1 h => ?_)
  rw [kw_setN, kw_app, kw_len] at h
  exact kk H1 locs1 h
theorem kw_II {y : MethodName} {ws ws' Ts : List Cond} {rm : Room} {bytes : ByteArray} {maxL nL index ci j n : Nat} {own : String} {fs0 : List Value} {fsF : Nat → List Value} {new : Nat → List va_E}
    (cm : KM l D cy B y ws rm ci fs0 fsF new) (hk : NW[j]? = some (.inr (ci, fs0)))
    (hx : p.tables.exec = Jvm.exec) (hb : c.code = cc) (hml : c.maxLocals = nL) (hown : s.vm.findClass own = some m.cls) (hts : ∀ w ∈ Ts, w.before args s = true) (hK : va_K D vwCl (tyl cy) s) (hN : NK s) (hI : KI D B s (kw es k0 X NW) H locs) (hl : ls.size = nL)
    (hG : GoodIn Ts ws) (hw : ws = Cond.code y bytes maxL none :: ws') (hlk : Cond.methodLink own index y ∈ Ts) (hini : Cond.initialized y.cls ∈ Ts) (hinst : Cond.instanceMethod y ∈ Ts) (hd : y.cls ≠ "java/lang/invoke/MethodHandle" ∧ y.cls ≠ "java/lang/invoke/VarHandle" ∧ (parseMethodDescriptor y.desc).map (fun d => d.parameters.length) = some 0) (hni : y.name = "<init>")
    (hR : rm.frames + 1 ≤ R.frames ∧ 8 + (maxL + 11) + rm.locals ≤ R.locals) (hc : cells + rm.cells ≤ R.cells ∧ slots + rm.slots ≤ R.slots) (hroom : (rest.map fun v => v.category).sum ≤ 8) (hn : NW.length = n) (h2 : NW.set j (.inr (ci, fsF (es.length + n))) ++ new (es.length + n) = NW2) (hdg : decode cc pc = .ok (.invokespecial index, 3))
    (kk : ∀ (H1 : Heap) (locs1 : List Loc), KI D B s (kw es k0 X NW2) H1 locs1 → W p l e R s m args below meth c H1 locs1 (cells + rm.cells) (slots + rm.slots) Q (F0 m (pc + 3) ls rest)) : W p l e R s m args below meth c H locs cells slots Q (F0 m pc ls (.ref (B + (es.length + j)) :: rest)) := by
  subst hn; subst h2
  refine k_II cm (by rw [kw_getN]; exact hk) hx hb hml hown hts hK hN hI hl hG hw hlk hini hinst hd hni hR hc hroom hdg (fun H1 locs1 h => ?_)
  rw [kw_setN, kw_app, kw_len] at h
  exact kk H1 locs1 h
/-- a reference goes into a row of references -/
theorem kw_ast (hx : p.tables.exec = Jvm.exec) (hb : c.code = cc) (hK : va_K D vwCl (tyl cy) s) (hI : KI D B s (kw es k0 X NW) H locs) {qa qv ci t0 n : Nat} {cA : ClassId} {r : vw_C} {vs : List Value} {f : Nat → Option Nat} (ha : NW[qa]? = some (.inl (cA, n, .inr (.inr (.inr (.inr f)))))) (ht : (tyl cy)[t0]? = some (cA, .object r.1)) (hv : NW[qv]? = some (.inr (ci, vs))) (hc : vwCl[ci]? = some r) {i : Int32} (hin : vp_in i n)
    {f2 : Nat → Option Nat} (hf2 : va_up f i.toNatClampNeg (some (B + (es.length + qv))) = f2) (h2 : NW.set qa (.inl (cA, n, .inr (.inr (.inr (.inr f2))))) = NW2) (hdg : decode cc pc = .ok (.aastore, 1))
    (kk : ∀ (H1 : Heap) (locs1 : List Loc), KI D B s (kw es k0 X NW2) H1 locs1 → W p l e R s m args below meth c H1 locs1 cells slots Q (F0 m (pc + 1) ls rest)) : W p l e R s m args below meth c H locs cells slots Q (F0 m pc ls (.ref (B + (es.length + qv)) :: .int i :: .ref (B + (es.length + qa)) :: rest)) := by
  subst h2; subst hf2
  have hlt : i.toNatClampNeg < n := Nat.not_le.mp fun q => hin (Or.inr q)
  have h0 : ¬ i < 0 := fun q => hin (Or.inl q)
  have hga : (kw es k0 X NW)[es.length + qa]? = some (.inl (cA, n, .inr (.inr (.inr (.inr f))))) := by rw [kw_getN]; exact ha
  have hgv : (kw es k0 X NW)[es.length + qv]? = some (.inr (ci, vs)) := by rw [kw_getN]; exact hv
  obtain ⟨r', hr', cellV, g1, g2, g3, -⟩ := hI.2.1 _ _ (wl_at hgv)
  have hcls := (hK.1 ci r hc).2
  obtain ⟨kA, comp, k1, k2, k3, -⟩ := (hK.2 t0 _ ht).2
  cases Option.some.inj (k3.symm.trans hcls.1)
  obtain ⟨kC, hkC, -⟩ := hcls.2
  refine W.aast hx hb (hI.2.1 _ _ (wl_at hga)) (fun q h => by cases h) (fun h => by cases h) k1 k2 rfl hkC ⟨h0, by show _ < (arrV _ _ _).slots.size; rw [arrV_size]; exact hlt⟩ g1 (fun q h => by rw [g3] at h; cases h) (by rw [g2]; exact hkC) (by rw [g2]; exact va_assign hcls) rfl rfl hdg fun H1 e1 e2 e3 => ?_
  have hs := hI.set (i := i.toNatClampNeg) (x := .inl (cA, n, .inr (.inr (.inr (.inr (va_up f i.toNatClampNeg (some (B + (es.length + qv))))))))) hga e2 e3 (by
    show H1[B + (es.length + qa)]? = some (vp_cell _ _)
    rw [e1, vp_cell_q, vp_cell_q, arrV_store]
    congr 2
    funext q
    by_cases hq : q = i.toNatClampNeg
    · subst hq
      simp [updV, va_up, va_rf]
    · simp [updV, va_up, hq])
  rw [kw_setN] at hs
  exact kk H1 _ hs
end KW
