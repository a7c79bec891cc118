theorem va_RAi {U : State} {cA : ClassId} (h : va_RA U cA .int) : U.vm.findClass ("[" ++ (newarray.typeOf .int).toString) = some cA := h
theorem va_RAby {U : State} {cA : ClassId} (h : va_RA U cA .byte) : U.vm.findClass ("[" ++ (newarray.typeOf .byte).toString) = some cA := h
theorem va_RAbo {U : State} {cA : ClassId} (h : va_RA U cA .boolean) : U.vm.findClass ("[" ++ (newarray.typeOf .boolean).toString) = some cA := h
theorem va_RAq {U : State} {cA : ClassId} {C : String} (h : va_RA U cA (.object C)) : U.vm.findClass ("[" ++ (FieldType.object C).toString) = some cA := by obtain ⟨kA, comp, h1, h2, h3, h4⟩ := h; exact h4
theorem ap_get {α : Type} {A : List α} {n : Nat} (h : A.length = n) (x : α) (L : List α) : (A ++ x :: L)[n]? = some x := by subst h; simp
theorem ap_set {α : Type} {A : List α} {n : Nat} (h : A.length = n) {x y : α} {L : List α} : (A ++ x :: L).set n y = A ++ y :: L := by subst h; simp
theorem ap_len {α : Type} {A : List α} {x : α} : (A ++ [x]).length = A.length + 1 := by simp
theorem ap_fin {α : Type} {A L : List α} {n : Nat} (h : A.length = n) {x y : α} : (A ++ [x]).set n y ++ L = A ++ (y :: L) := by subst h; simp
theorem ap_ass {α : Type} (A L : List α) (x : α) : A ++ [x] ++ L = A ++ (x :: L) := by simp
/-- a row of references, of which the first i are there -/
def rfI (B N b w i : Nat) : Nat → Option Nat := fun j => if j < i then some (B + (N + (b + w * j))) else none
theorem rfI_0 (B N b w : Nat) : rfI B N b w 0 = fun _ => none := by funext j; simp [rfI]
theorem rfI_up {B N b w i : Nat} (h : i < 2147483648) : va_up (rfI B N b w i) (iI (i : Int)).toNatClampNeg (some (B + (N + (b + w * i)))) = rfI B N b w (i + 1) := by
  rw [iI_clamp (by omega) (by omega), Int.toNat_natCast]
  funext j
  unfold va_up rfI
  by_cases e : j = i
  · subst e; simp
  · by_cases q : j < i
    · simp [e, q, show j < i + 1 by omega]
    · simp [e, q, show ¬ j < i + 1 by omega]
theorem iI_inc (i : Nat) : iI (i : Int) + Int32.ofInt 1 = iI ((i + 1 : Nat) : Int) := by
  unfold iI
  rw [← Int32.ofInt_add]
  rfl
theorem k_in_X2 : ∀ w ∈ u_ws RX2 TX2 3, w ∈ wsX2_init := by decide +kernel
theorem k_hd_X2 : yX2_init.cls ≠ "java/lang/invoke/MethodHandle" ∧ yX2_init.cls ≠ "java/lang/invoke/VarHandle" ∧ (parseMethodDescriptor yX2_init.desc).map (fun d => d.parameters.length) = some 0 := by decide +kernel
theorem k_df_X2 : ∀ j, j < 3 → defaultValue (tyX2 j) = vp_V ([.null, .int (iI 0), .int (iI 0)] : List Value) j := by
  intro j hj
  rcases (show j = 0 ∨ j = 1 ∨ j = 2 by omega) with rfl | rfl | rfl <;> rfl
def k_fs_X2 (B N : Nat) : List Value := [.ref (B + (N + 0)), .int (iI 0), .int (iI 0)]
def k_nw_X2 (cy : Nat → ClassId) (B N : Nat) : List va_E := [.inl (cy 0, 12, .inl (fun _ => iI 0))]
set_option maxHeartbeats 4000000 in
set_option maxRecDepth 100000 in
theorem k_X2 (l : Launch) (D : va_G) (cy : Nat → ClassId) (B : Nat) : KM l D cy B yX2_init wsX2_init { frames := 1, cells := 1, slots := 12, locals := 12 } 2 [.null, .int (iI 0), .int (iI 0)] (k_fs_X2 B) (k_nw_X2 cy B) := by
  refine KM.of (cc := cX2_init) (maxL := 1) (by decide) rfl (by decide) rfl ?_
  intro es k hk p e s m args below meth c₀ ls X hI hl
  have hl : lv_has ls 1 [(0, .ref (B + k))] := hl
  obtain ⟨hx, hb, hr, hml, hown, hts, hlocks, hK, hN, hin⟩ := X
  have hk0 : k < es.length := (List.getElem?_eq_some_iff.mp hk).1
  have hI : KI D B s (kw es k (.inr (2, [.null, .int (iI 0), .int (iI 0)])) []) s.heap [] := by rw [kw_self hk]; exact hI
  refine lv_aload_n hx hb dX2_init_0 rfl (lv_at hl 0 rfl) ?_
  refine W.objInit hx hb hown (hts (.methodLink RX2 3 objectInit) (List.mem_of_getElem? (i := 1) rfl)) (hts (.instanceMethod objectInit) (List.mem_of_getElem? (i := 2) rfl)) (hts _ (List.mem_of_getElem? (i := 3) rfl)) rfl (by rw [hml]; exact hl.1) rfl dX2_init_1 (Nat.le_of_ble_eq_true rfl) (Nat.le_of_ble_eq_true rfl) ?_
  refine W.eq (g2 := F0 m 4 ls []) rfl ?_
  refine lv_aload_n hx hb dX2_init_4 rfl (lv_at hl 0 rfl) ?_
  refine lv_bipush (v := iI 12) hx hb dX2_init_5 (by decide +kernel) ?_
  refine kw_newa (atype := .int) (cA := cy 0) (N' := 12) (a0 := (12, .inl (fun _ => iI 0))) (n := 0) (NW2 := [.inl (cy 0, 12, .inl (fun _ => iI 0))]) hx hb hts (by decide +kernel) (va_RAi (hK.2 0 _ rfl).2) hI rfl (by decide) (by decide) (by decide) rfl rfl (by decide) (by decide) dX2_init_7 (fun H hI => ?_)
  refine kw_putF (C := RX2) (T := TX2) (N := 3) (ci := 2) (ty := (.array .int)) (fs2 := [.ref (B + (es.length + 0)), .int (iI 0), .int (iI 0)]) hx hb hts k_in_X2 tyX2 tyX2_ok nmX2 hown hK hk0 hI rfl 0 (by decide) (by decide +kernel) rfl hin rfl (by decide +kernel) rfl rfl (Nat.le_of_ble_eq_true rfl) rfl dX2_init_9 (fun H locs hI => ?_)
  refine lv_aload_n hx hb dX2_init_12 rfl (lv_at hl 0 rfl) ?_
  refine lv_iconst (v := iI 0) hx hb dX2_init_13 rfl ?_
  refine kw_put (C := RX2) (T := TX2) (N := 3) (ci := 2) (ty := .int) (fs2 := [.ref (B + (es.length + 0)), .int (iI 0), .int (iI 0)]) hx hb hts k_in_X2 tyX2 tyX2_ok nmX2 hown hK hk0 hI rfl 1 (by decide) (by decide +kernel) rfl (by decide +kernel) rfl rfl (Nat.le_of_ble_eq_true rfl) rfl dX2_init_14 (fun H locs hI => ?_)
  refine lv_aload_n hx hb dX2_init_17 rfl (lv_at hl 0 rfl) ?_
  refine lv_iconst (v := iI 0) hx hb dX2_init_18 rfl ?_
  refine kw_put (C := RX2) (T := TX2) (N := 3) (ci := 2) (ty := .int) (fs2 := [.ref (B + (es.length + 0)), .int (iI 0), .int (iI 0)]) hx hb hts k_in_X2 tyX2 tyX2_ok nmX2 hown hK hk0 hI rfl 2 (by decide) (by decide +kernel) rfl (by decide +kernel) rfl rfl (Nat.le_of_ble_eq_true rfl) rfl dX2_init_19 (fun H locs hI => ?_)
  exact k_vret hx hb hr hK hN hlocks hI rfl rfl rfl dX2_init_22
theorem k_ln_X2 (cy : Nat → ClassId) (B N : Nat) : (k_nw_X2 cy B N).length = 1 := by rfl
