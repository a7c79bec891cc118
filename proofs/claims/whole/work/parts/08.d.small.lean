theorem k_in_X8 : ∀ w ∈ u_ws RX8 TX8 2, w ∈ wsX8_init := by decide +kernel
theorem k_hd_X8 : yX8_init.cls ≠ "java/lang/invoke/MethodHandle" ∧ yX8_init.cls ≠ "java/lang/invoke/VarHandle" ∧ (parseMethodDescriptor yX8_init.desc).map (fun d => d.parameters.length) = some 0 := by decide +kernel
theorem k_df_X8 : ∀ j, j < 2 → defaultValue (tyX8 j) = vp_V ([.null, .int (iI 0)] : List Value) j := by
  intro j hj
  rcases (show j = 0 ∨ j = 1 by omega) with rfl | rfl <;> rfl
def k_fs_X8 (B N : Nat) : List Value := [.ref (B + (N + 0)), .int (iI 0)]
def k_nw_X8 (cy : Nat → ClassId) (B N : Nat) : List va_E := [.inl (cy 0, 80, .inl (fun _ => iI 0))]
set_option maxHeartbeats 4000000 in
set_option maxRecDepth 100000 in
theorem k_X8 (l : Launch) (D : va_G) (cy : Nat → ClassId) (B : Nat) : KM l D cy B yX8_init wsX8_init { frames := 1, cells := 1, slots := 80, locals := 12 } 7 [.null, .int (iI 0)] (k_fs_X8 B) (k_nw_X8 cy B) := by
  refine KM.of (cc := cX8_init) (maxL := 1) (by decide) rfl (by decide) rfl ?_
  intro es k hk p e s m args below meth c₀ ls X hI hl
  have hl : lv_has ls 1 [(0, .ref (B + k))] := hl
  obtain ⟨hx, hb, hr, hml, hown, hts, hlocks, hK, hN, hin⟩ := X
  have hk0 : k < es.length := (List.getElem?_eq_some_iff.mp hk).1
  have hI : KI D B s (kw es k (.inr (7, [.null, .int (iI 0)])) []) s.heap [] := by rw [kw_self hk]; exact hI
  refine lv_aload_n hx hb dX8_init_0 rfl (lv_at hl 0 rfl) ?_
  refine W.objInit hx hb hown (hts (.methodLink RX8 3 objectInit) (List.mem_of_getElem? (i := 1) rfl)) (hts (.instanceMethod objectInit) (List.mem_of_getElem? (i := 2) rfl)) (hts _ (List.mem_of_getElem? (i := 3) rfl)) rfl (by rw [hml]; exact hl.1) rfl dX8_init_1 (Nat.le_of_ble_eq_true rfl) (Nat.le_of_ble_eq_true rfl) ?_
  refine W.eq (g2 := F0 m 4 ls []) rfl ?_
  refine lv_aload_n hx hb dX8_init_4 rfl (lv_at hl 0 rfl) ?_
  refine lv_bipush (v := iI 80) hx hb dX8_init_5 (by decide +kernel) ?_
  refine kw_newa (atype := .int) (cA := cy 0) (N' := 80) (a0 := (80, .inl (fun _ => iI 0))) (n := 0) (NW2 := [.inl (cy 0, 80, .inl (fun _ => iI 0))]) hx hb hts (by decide +kernel) (va_RAi (hK.2 0 _ rfl).2) hI rfl (by decide) (by decide) (by decide) rfl rfl (by decide) (by decide) dX8_init_7 (fun H hI => ?_)
  refine kw_putF (C := RX8) (T := TX8) (N := 2) (ci := 7) (ty := (.array .int)) (fs2 := [.ref (B + (es.length + 0)), .int (iI 0)]) hx hb hts k_in_X8 tyX8 tyX8_ok nmX8 hown hK hk0 hI rfl 0 (by decide) (by decide +kernel) rfl hin rfl (by decide +kernel) rfl rfl (Nat.le_of_ble_eq_true rfl) rfl dX8_init_9 (fun H locs hI => ?_)
  refine lv_aload_n hx hb dX8_init_12 rfl (lv_at hl 0 rfl) ?_
  refine lv_iconst (v := iI 0) hx hb dX8_init_13 rfl ?_
  refine kw_put (C := RX8) (T := TX8) (N := 2) (ci := 7) (ty := .int) (fs2 := [.ref (B + (es.length + 0)), .int (iI 0)]) hx hb hts k_in_X8 tyX8 tyX8_ok nmX8 hown hK hk0 hI rfl 1 (by decide) (by decide +kernel) rfl (by decide +kernel) rfl rfl (Nat.le_of_ble_eq_true rfl) rfl dX8_init_14 (fun H locs hI => ?_)
  exact k_vret hx hb hr hK hN hlocks hI rfl rfl rfl dX8_init_17
theorem k_ln_X8 (cy : Nat → ClassId) (B N : Nat) : (k_nw_X8 cy B N).length = 1 := by rfl
theorem k_in_X5 : ∀ w ∈ u_ws RX5 TX5 8, w ∈ wsX5_init := by decide +kernel
theorem k_hd_X5 : yX5_init.cls ≠ "java/lang/invoke/MethodHandle" ∧ yX5_init.cls ≠ "java/lang/invoke/VarHandle" ∧ (parseMethodDescriptor yX5_init.desc).map (fun d => d.parameters.length) = some 0 := by decide +kernel
theorem k_df_X5 : ∀ j, j < 8 → defaultValue (tyX5 j) = vp_V ([.null, .null, .null, .null, .int (iI 0), .int (iI 0), .int (iI 0), .int (iI 0)] : List Value) j := by
  intro j hj
  rcases (show j = 0 ∨ j = 1 ∨ j = 2 ∨ j = 3 ∨ j = 4 ∨ j = 5 ∨ j = 6 ∨ j = 7 by omega) with rfl | rfl | rfl | rfl | rfl | rfl | rfl | rfl <;> rfl
def k_fs_X5 (B N : Nat) : List Value := [.ref (B + (N + 0)), .ref (B + (N + 1)), .ref (B + (N + 2)), .ref (B + (N + 3)), .int (iI 0), .int (iI 0), .int (iI 0), .int (iI (-1))]
def k_nw_X5 (cy : Nat → ClassId) (B N : Nat) : List va_E := [.inl (cy 0, 12, .inl (fun _ => iI 0)), .inl (cy 0, 12, .inl (fun _ => iI 0)), .inl (cy 0, 12, .inl (fun _ => iI 0)), .inl (cy 0, 12, .inl (fun _ => iI 0))]
set_option maxHeartbeats 4000000 in
set_option maxRecDepth 100000 in
theorem k_X5 (l : Launch) (D : va_G) (cy : Nat → ClassId) (B : Nat) : KM l D cy B yX5_init wsX5_init { frames := 1, cells := 4, slots := 48, locals := 12 } 5 [.null, .null, .null, .null, .int (iI 0), .int (iI 0), .int (iI 0), .int (iI 0)] (k_fs_X5 B) (k_nw_X5 cy B) := by
  refine KM.of (cc := cX5_init) (maxL := 1) (by decide) rfl (by decide) rfl ?_
  intro es k hk p e s m args below meth c₀ ls X hI hl
  have hl : lv_has ls 1 [(0, .ref (B + k))] := hl
  obtain ⟨hx, hb, hr, hml, hown, hts, hlocks, hK, hN, hin⟩ := X
  have hk0 : k < es.length := (List.getElem?_eq_some_iff.mp hk).1
  have hI : KI D B s (kw es k (.inr (5, [.null, .null, .null, .null, .int (iI 0), .int (iI 0), .int (iI 0), .int (iI 0)])) []) s.heap [] := by rw [kw_self hk]; exact hI
  refine lv_aload_n hx hb dX5_init_0 rfl (lv_at hl 0 rfl) ?_
  refine W.objInit hx hb hown (hts (.methodLink RX5 3 objectInit) (List.mem_of_getElem? (i := 1) rfl)) (hts (.instanceMethod objectInit) (List.mem_of_getElem? (i := 2) rfl)) (hts _ (List.mem_of_getElem? (i := 3) rfl)) rfl (by rw [hml]; exact hl.1) rfl dX5_init_1 (Nat.le_of_ble_eq_true rfl) (Nat.le_of_ble_eq_true rfl) ?_
  refine W.eq (g2 := F0 m 4 ls []) rfl ?_
  refine lv_aload_n hx hb dX5_init_4 rfl (lv_at hl 0 rfl) ?_
  refine lv_bipush (v := iI 12) hx hb dX5_init_5 (by decide +kernel) ?_
  refine kw_newa (atype := .int) (cA := cy 0) (N' := 12) (a0 := (12, .inl (fun _ => iI 0))) (n := 0) (NW2 := [.inl (cy 0, 12, .inl (fun _ => iI 0))]) hx hb hts (by decide +kernel) (va_RAi (hK.2 0 _ rfl).2) hI rfl (by decide) (by decide) (by decide) rfl rfl (by decide) (by decide) dX5_init_7 (fun H hI => ?_)
  refine kw_putF (C := RX5) (T := TX5) (N := 8) (ci := 5) (ty := (.array .int)) (fs2 := [.ref (B + (es.length + 0)), .null, .null, .null, .int (iI 0), .int (iI 0), .int (iI 0), .int (iI 0)]) hx hb hts k_in_X5 tyX5 tyX5_ok nmX5 hown hK hk0 hI rfl 0 (by decide) (by decide +kernel) rfl hin rfl (by decide +kernel) rfl rfl (Nat.le_of_ble_eq_true rfl) rfl dX5_init_9 (fun H locs hI => ?_)
  refine lv_aload_n hx hb dX5_init_12 rfl (lv_at hl 0 rfl) ?_
  refine lv_bipush (v := iI 12) hx hb dX5_init_13 (by decide +kernel) ?_
  refine kw_newa (atype := .int) (cA := cy 0) (N' := 12) (a0 := (12, .inl (fun _ => iI 0))) (n := 1) (NW2 := [.inl (cy 0, 12, .inl (fun _ => iI 0)), .inl (cy 0, 12, .inl (fun _ => iI 0))]) hx hb hts (by decide +kernel) (va_RAi (hK.2 0 _ rfl).2) hI rfl (by decide) (by decide) (by decide) rfl rfl (by decide) (by decide) dX5_init_15 (fun H hI => ?_)
  refine kw_putF (C := RX5) (T := TX5) (N := 8) (ci := 5) (ty := (.array .int)) (fs2 := [.ref (B + (es.length + 0)), .ref (B + (es.length + 1)), .null, .null, .int (iI 0), .int (iI 0), .int (iI 0), .int (iI 0)]) hx hb hts k_in_X5 tyX5 tyX5_ok nmX5 hown hK hk0 hI rfl 1 (by decide) (by decide +kernel) rfl hin rfl (by decide +kernel) rfl rfl (Nat.le_of_ble_eq_true rfl) rfl dX5_init_17 (fun H locs hI => ?_)
  refine lv_aload_n hx hb dX5_init_20 rfl (lv_at hl 0 rfl) ?_
  refine lv_bipush (v := iI 12) hx hb dX5_init_21 (by decide +kernel) ?_
  refine kw_newa (atype := .int) (cA := cy 0) (N' := 12) (a0 := (12, .inl (fun _ => iI 0))) (n := 2) (NW2 := [.inl (cy 0, 12, .inl (fun _ => iI 0)), .inl (cy 0, 12, .inl (fun _ => iI 0)), .inl (cy 0, 12, .inl (fun _ => iI 0))]) hx hb hts (by decide +kernel) (va_RAi (hK.2 0 _ rfl).2) hI rfl (by decide) (by decide) (by decide) rfl rfl (by decide) (by decide) dX5_init_23 (fun H hI => ?_)
  refine kw_putF (C := RX5) (T := TX5) (N := 8) (ci := 5) (ty := (.array .int)) (fs2 := [.ref (B + (es.length + 0)), .ref (B + (es.length + 1)), .ref (B + (es.length + 2)), .null, .int (iI 0), .int (iI 0), .int (iI 0), .int (iI 0)]) hx hb hts k_in_X5 tyX5 tyX5_ok nmX5 hown hK hk0 hI rfl 2 (by decide) (by decide +kernel) rfl hin rfl (by decide +kernel) rfl rfl (Nat.le_of_ble_eq_true rfl) rfl dX5_init_25 (fun H locs hI => ?_)
  refine lv_aload_n hx hb dX5_init_28 rfl (lv_at hl 0 rfl) ?_
  refine lv_bipush (v := iI 12) hx hb dX5_init_29 (by decide +kernel) ?_
  refine kw_newa (atype := .int) (cA := cy 0) (N' := 12) (a0 := (12, .inl (fun _ => iI 0))) (n := 3) (NW2 := [.inl (cy 0, 12, .inl (fun _ => iI 0)), .inl (cy 0, 12, .inl (fun _ => iI 0)), .inl (cy 0, 12, .inl (fun _ => iI 0)), .inl (cy 0, 12, .inl (fun _ => iI 0))]) hx hb hts (by decide +kernel) (va_RAi (hK.2 0 _ rfl).2) hI rfl (by decide) (by decide) (by decide) rfl rfl (by decide) (by decide) dX5_init_31 (fun H hI => ?_)
  refine kw_putF (C := RX5) (T := TX5) (N := 8) (ci := 5) (ty := (.array .int)) (fs2 := [.ref (B + (es.length + 0)), .ref (B + (es.length + 1)), .ref (B + (es.length + 2)), .ref (B + (es.length + 3)), .int (iI 0), .int (iI 0), .int (iI 0), .int (iI 0)]) hx hb hts k_in_X5 tyX5 tyX5_ok nmX5 hown hK hk0 hI rfl 3 (by decide) (by decide +kernel) rfl hin rfl (by decide +kernel) rfl rfl (Nat.le_of_ble_eq_true rfl) rfl dX5_init_33 (fun H locs hI => ?_)
  refine lv_aload_n hx hb dX5_init_36 rfl (lv_at hl 0 rfl) ?_
  refine lv_iconst (v := iI 0) hx hb dX5_init_37 rfl ?_
  refine kw_put (C := RX5) (T := TX5) (N := 8) (ci := 5) (ty := .int) (fs2 := [.ref (B + (es.length + 0)), .ref (B + (es.length + 1)), .ref (B + (es.length + 2)), .ref (B + (es.length + 3)), .int (iI 0), .int (iI 0), .int (iI 0), .int (iI 0)]) hx hb hts k_in_X5 tyX5 tyX5_ok nmX5 hown hK hk0 hI rfl 4 (by decide) (by decide +kernel) rfl (by decide +kernel) rfl rfl (Nat.le_of_ble_eq_true rfl) rfl dX5_init_38 (fun H locs hI => ?_)
  refine lv_aload_n hx hb dX5_init_41 rfl (lv_at hl 0 rfl) ?_
  refine lv_iconst (v := iI 0) hx hb dX5_init_42 rfl ?_
  refine kw_put (C := RX5) (T := TX5) (N := 8) (ci := 5) (ty := .int) (fs2 := [.ref (B + (es.length + 0)), .ref (B + (es.length + 1)), .ref (B + (es.length + 2)), .ref (B + (es.length + 3)), .int (iI 0), .int (iI 0), .int (iI 0), .int (iI 0)]) hx hb hts k_in_X5 tyX5 tyX5_ok nmX5 hown hK hk0 hI rfl 5 (by decide) (by decide +kernel) rfl (by decide +kernel) rfl rfl (Nat.le_of_ble_eq_true rfl) rfl dX5_init_43 (fun H locs hI => ?_)
  refine lv_aload_n hx hb dX5_init_46 rfl (lv_at hl 0 rfl) ?_
  refine lv_iconst (v := iI 0) hx hb dX5_init_47 rfl ?_
  refine kw_put (C := RX5) (T := TX5) (N := 8) (ci := 5) (ty := .int) (fs2 := [.ref (B + (es.length + 0)), .ref (B + (es.length + 1)), .ref (B + (es.length + 2)), .ref (B + (es.length + 3)), .int (iI 0), .int (iI 0), .int (iI 0), .int (iI 0)]) hx hb hts k_in_X5 tyX5 tyX5_ok nmX5 hown hK hk0 hI rfl 6 (by decide) (by decide +kernel) rfl (by decide +kernel) rfl rfl (Nat.le_of_ble_eq_true rfl) rfl dX5_init_48 (fun H locs hI => ?_)
  refine lv_aload_n hx hb dX5_init_51 rfl (lv_at hl 0 rfl) ?_
  refine lv_iconst (v := iI (-1)) hx hb dX5_init_52 rfl ?_
  refine kw_put (C := RX5) (T := TX5) (N := 8) (ci := 5) (ty := .int) (fs2 := [.ref (B + (es.length + 0)), .ref (B + (es.length + 1)), .ref (B + (es.length + 2)), .ref (B + (es.length + 3)), .int (iI 0), .int (iI 0), .int (iI 0), .int (iI (-1))]) hx hb hts k_in_X5 tyX5 tyX5_ok nmX5 hown hK hk0 hI rfl 7 (by decide) (by decide +kernel) rfl (by decide +kernel) rfl rfl (Nat.le_of_ble_eq_true rfl) rfl dX5_init_53 (fun H locs hI => ?_)
  exact k_vret hx hb hr hK hN hlocks hI rfl rfl rfl dX5_init_56
theorem k_ln_X5 (cy : Nat → ClassId) (B N : Nat) : (k_nw_X5 cy B N).length = 4 := by rfl
theorem k_in_X0 : ∀ w ∈ u_ws RX0 TX0 3, w ∈ wsX0_init := by decide +kernel
theorem k_hd_X0 : yX0_init.cls ≠ "java/lang/invoke/MethodHandle" ∧ yX0_init.cls ≠ "java/lang/invoke/VarHandle" ∧ (parseMethodDescriptor yX0_init.desc).map (fun d => d.parameters.length) = some 0 := by decide +kernel
theorem k_df_X0 : ∀ j, j < 3 → defaultValue (tyX0 j) = vp_V ([.null, .null, .null] : List Value) j := by
  intro j hj
  rcases (show j = 0 ∨ j = 1 ∨ j = 2 by omega) with rfl | rfl | rfl <;> rfl
def k_fs_X0 (B N : Nat) : List Value := [.ref (B + (N + 0)), .ref (B + (N + 1)), .ref (B + (N + 2))]
def k_nw_X0 (cy : Nat → ClassId) (B N : Nat) : List va_E := [.inl (cy 2, 169, .inl (fun _ => iI 0)), .inl (cy 0, 12, .inl (fun _ => iI 0)), .inl (cy 0, 12, .inl (fun _ => iI 0))]
set_option maxHeartbeats 4000000 in
set_option maxRecDepth 100000 in
theorem k_X0 (l : Launch) (D : va_G) (cy : Nat → ClassId) (B : Nat) : KM l D cy B yX0_init wsX0_init { frames := 1, cells := 3, slots := 193, locals := 12 } 0 [.null, .null, .null] (k_fs_X0 B) (k_nw_X0 cy B) := by
  refine KM.of (cc := cX0_init) (maxL := 1) (by decide) rfl (by decide) rfl ?_
  intro es k hk p e s m args below meth c₀ ls X hI hl
  have hl : lv_has ls 1 [(0, .ref (B + k))] := hl
  obtain ⟨hx, hb, hr, hml, hown, hts, hlocks, hK, hN, hin⟩ := X
  have hk0 : k < es.length := (List.getElem?_eq_some_iff.mp hk).1
  have hI : KI D B s (kw es k (.inr (0, [.null, .null, .null])) []) s.heap [] := by rw [kw_self hk]; exact hI
  refine lv_aload_n hx hb dX0_init_0 rfl (lv_at hl 0 rfl) ?_
  refine W.objInit hx hb hown (hts (.methodLink RX0 3 objectInit) (List.mem_of_getElem? (i := 1) rfl)) (hts (.instanceMethod objectInit) (List.mem_of_getElem? (i := 2) rfl)) (hts _ (List.mem_of_getElem? (i := 3) rfl)) rfl (by rw [hml]; exact hl.1) rfl dX0_init_1 (Nat.le_of_ble_eq_true rfl) (Nat.le_of_ble_eq_true rfl) ?_
  refine W.eq (g2 := F0 m 4 ls []) rfl ?_
  refine lv_aload_n hx hb dX0_init_4 rfl (lv_at hl 0 rfl) ?_
  refine lv_sipush (v := iI 169) hx hb dX0_init_5 (by decide +kernel) ?_
  refine kw_newa (atype := .boolean) (cA := cy 2) (N' := 169) (a0 := (169, .inl (fun _ => iI 0))) (n := 0) (NW2 := [.inl (cy 2, 169, .inl (fun _ => iI 0))]) hx hb hts (by decide +kernel) (va_RAbo (hK.2 2 _ rfl).2) hI rfl (by decide) (by decide) (by decide) rfl rfl (by decide) (by decide) dX0_init_8 (fun H hI => ?_)
  refine kw_putF (C := RX0) (T := TX0) (N := 3) (ci := 0) (ty := (.array .boolean)) (fs2 := [.ref (B + (es.length + 0)), .null, .null]) hx hb hts k_in_X0 tyX0 tyX0_ok nmX0 hown hK hk0 hI rfl 0 (by decide) (by decide +kernel) rfl hin rfl (by decide +kernel) rfl rfl (Nat.le_of_ble_eq_true rfl) rfl dX0_init_10 (fun H locs hI => ?_)
  refine lv_aload_n hx hb dX0_init_13 rfl (lv_at hl 0 rfl) ?_
  refine lv_bipush (v := iI 12) hx hb dX0_init_14 (by decide +kernel) ?_
  refine kw_newa (atype := .int) (cA := cy 0) (N' := 12) (a0 := (12, .inl (fun _ => iI 0))) (n := 1) (NW2 := [.inl (cy 2, 169, .inl (fun _ => iI 0)), .inl (cy 0, 12, .inl (fun _ => iI 0))]) hx hb hts (by decide +kernel) (va_RAi (hK.2 0 _ rfl).2) hI rfl (by decide) (by decide) (by decide) rfl rfl (by decide) (by decide) dX0_init_16 (fun H hI => ?_)
  refine kw_putF (C := RX0) (T := TX0) (N := 3) (ci := 0) (ty := (.array .int)) (fs2 := [.ref (B + (es.length + 0)), .ref (B + (es.length + 1)), .null]) hx hb hts k_in_X0 tyX0 tyX0_ok nmX0 hown hK hk0 hI rfl 1 (by decide) (by decide +kernel) rfl hin rfl (by decide +kernel) rfl rfl (Nat.le_of_ble_eq_true rfl) rfl dX0_init_18 (fun H locs hI => ?_)
  refine lv_aload_n hx hb dX0_init_21 rfl (lv_at hl 0 rfl) ?_
  refine lv_bipush (v := iI 12) hx hb dX0_init_22 (by decide +kernel) ?_
  refine kw_newa (atype := .int) (cA := cy 0) (N' := 12) (a0 := (12, .inl (fun _ => iI 0))) (n := 2) (NW2 := [.inl (cy 2, 169, .inl (fun _ => iI 0)), .inl (cy 0, 12, .inl (fun _ => iI 0)), .inl (cy 0, 12, .inl (fun _ => iI 0))]) hx hb hts (by decide +kernel) (va_RAi (hK.2 0 _ rfl).2) hI rfl (by decide) (by decide) (by decide) rfl rfl (by decide) (by decide) dX0_init_24 (fun H hI => ?_)
  refine kw_putF (C := RX0) (T := TX0) (N := 3) (ci := 0) (ty := (.array .int)) (fs2 := [.ref (B + (es.length + 0)), .ref (B + (es.length + 1)), .ref (B + (es.length + 2))]) hx hb hts k_in_X0 tyX0 tyX0_ok nmX0 hown hK hk0 hI rfl 2 (by decide) (by decide +kernel) rfl hin rfl (by decide +kernel) rfl rfl (Nat.le_of_ble_eq_true rfl) rfl dX0_init_26 (fun H locs hI => ?_)
  exact k_vret hx hb hr hK hN hlocks hI rfl rfl rfl dX0_init_29
theorem k_ln_X0 (cy : Nat → ClassId) (B N : Nat) : (k_nw_X0 cy B N).length = 3 := by rfl
