theorem in_X3_X4 : ∀ w ∈ u_ws RX4 TX4 12, w ∈ wsX3_init := by decide +kernel
theorem k_in_X3 : ∀ w ∈ u_ws RX3 TX3 9, w ∈ wsX3_init := by decide +kernel
theorem k_hd_X3 : yX3_init.cls ≠ "java/lang/invoke/MethodHandle" ∧ yX3_init.cls ≠ "java/lang/invoke/VarHandle" ∧ (parseMethodDescriptor yX3_init.desc).map (fun d => d.parameters.length) = some 0 := by decide +kernel
theorem k_df_X3 : ∀ j, j < 9 → defaultValue (tyX3 j) = vp_V ([.null, .null, .null, .null, .int (iI 0), .int (iI 0), .int (iI 0), .int (iI 0), .int (iI 0)] : List Value) j := by
  intro j hj
  rcases (show j = 0 ∨ j = 1 ∨ j = 2 ∨ j = 3 ∨ j = 4 ∨ j = 5 ∨ j = 6 ∨ j = 7 ∨ j = 8 by omega) with rfl | rfl | rfl | rfl | rfl | rfl | rfl | rfl | rfl <;> rfl
def k_fs_X3 (B N : Nat) : List Value := [.ref (B + (N + 0)), .ref (B + (N + 1)), .ref (B + (N + 2)), .ref (B + (N + 3)), .int (iI 0), .int (iI 0), .int (iI 0), .int (iI 0), .int (iI 0)]
def k_nw_X3 (cy : Nat → ClassId) (B N : Nat) : List va_E := (.inl (cy 4, 40, .inr (.inr (.inr (.inr (rfI B N 4 7 40))))) :: ([.inl (cy 0, 80, .inl (fun _ => iI 0)), .inl (cy 2, 80, .inl (fun _ => iI 0)), .inl (cy 2, 80, .inl (fun _ => iI 0))] ++ blkX4 cy B N 4 40))
set_option maxHeartbeats 4000000 in
set_option maxRecDepth 100000 in
theorem k_X3 (l : Launch) (D : va_G) (cy : Nat → ClassId) (B : Nat) : KM l D cy B yX3_init wsX3_init { frames := 3, cells := 284, slots := 2560, locals := 52 } 3 [.null, .null, .null, .null, .int (iI 0), .int (iI 0), .int (iI 0), .int (iI 0), .int (iI 0)] (k_fs_X3 B) (k_nw_X3 cy B) := by
  refine KM.of (cc := cX3_init) (maxL := 2) (by decide) rfl (by decide) rfl ?_
  intro es k hk p e s m args below meth c₀ ls X hI hl
  have hl : lv_has ls 2 [(0, .ref (B + k))] := hl
  obtain ⟨hx, hb, hr, hml, hown, hts, hlocks, hK, hN, hin⟩ := X
  have hk0 : k < es.length := (List.getElem?_eq_some_iff.mp hk).1
  have hI : KI D B s (kw es k (.inr (3, [.null, .null, .null, .null, .int (iI 0), .int (iI 0), .int (iI 0), .int (iI 0), .int (iI 0)])) []) s.heap [] := by rw [kw_self hk]; exact hI
  refine lv_aload_n hx hb dX3_init_0 rfl (lv_at hl 0 rfl) ?_
  refine W.objInit hx hb hown (hts (.methodLink RX3 3 objectInit) (List.mem_of_getElem? (i := 1) rfl)) (hts (.instanceMethod objectInit) (List.mem_of_getElem? (i := 2) rfl)) (hts _ (List.mem_of_getElem? (i := 3) rfl)) rfl (by rw [hml]; exact hl.1) rfl dX3_init_1 (Nat.le_of_ble_eq_true rfl) (Nat.le_of_ble_eq_true rfl) ?_
  refine W.eq (g2 := F0 m 4 ls []) rfl ?_
  refine lv_aload_n hx hb dX3_init_4 rfl (lv_at hl 0 rfl) ?_
  refine lv_bipush (v := iI 40) hx hb dX3_init_5 (by decide +kernel) ?_
  refine kw_anew (C := RX4) (cA := cy 4) (N' := 40) (n := 0) (NW2 := [.inl (cy 4, 40, .inr (.inr (.inr (.inr (fun _ => none)))))]) hx hb hts hown (by decide +kernel) hN.2.2 (va_RAq (hK.2 4 _ rfl).2) hI (by decide) (by decide) (by decide) rfl rfl (by decide) (by decide) dX3_init_7 (fun H hI => ?_)
  refine kw_putF (C := RX3) (T := TX3) (N := 9) (ci := 3) (ty := (.array (.object "NameTurner$Planned"))) (fs2 := [.ref (B + (es.length + 0)), .null, .null, .null, .int (iI 0), .int (iI 0), .int (iI 0), .int (iI 0), .int (iI 0)]) hx hb hts k_in_X3 tyX3 tyX3_ok nmX3 hown hK hk0 hI rfl 0 (by decide) (by decide +kernel) rfl hin rfl (by decide +kernel) rfl rfl (Nat.le_of_ble_eq_true rfl) rfl dX3_init_10 (fun H locs hI => ?_)
  refine lv_aload_n hx hb dX3_init_13 rfl (lv_at hl 0 rfl) ?_
  refine lv_bipush (v := iI 80) hx hb dX3_init_14 (by decide +kernel) ?_
  refine kw_newa (atype := .int) (cA := cy 0) (N' := 80) (a0 := (80, .inl (fun _ => iI 0))) (n := 1) (NW2 := [.inl (cy 4, 40, .inr (.inr (.inr (.inr (fun _ => none))))), .inl (cy 0, 80, .inl (fun _ => iI 0))]) hx hb hts (by decide +kernel) (va_RAi (hK.2 0 _ rfl).2) hI rfl (by decide) (by decide) (by decide) rfl rfl (by decide) (by decide) dX3_init_16 (fun H hI => ?_)
  refine kw_putF (C := RX3) (T := TX3) (N := 9) (ci := 3) (ty := (.array .int)) (fs2 := [.ref (B + (es.length + 0)), .ref (B + (es.length + 1)), .null, .null, .int (iI 0), .int (iI 0), .int (iI 0), .int (iI 0), .int (iI 0)]) hx hb hts k_in_X3 tyX3 tyX3_ok nmX3 hown hK hk0 hI rfl 1 (by decide) (by decide +kernel) rfl hin rfl (by decide +kernel) rfl rfl (Nat.le_of_ble_eq_true rfl) rfl dX3_init_18 (fun H locs hI => ?_)
  refine lv_aload_n hx hb dX3_init_21 rfl (lv_at hl 0 rfl) ?_
  refine lv_bipush (v := iI 80) hx hb dX3_init_22 (by decide +kernel) ?_
  refine kw_newa (atype := .boolean) (cA := cy 2) (N' := 80) (a0 := (80, .inl (fun _ => iI 0))) (n := 2) (NW2 := [.inl (cy 4, 40, .inr (.inr (.inr (.inr (fun _ => none))))), .inl (cy 0, 80, .inl (fun _ => iI 0)), .inl (cy 2, 80, .inl (fun _ => iI 0))]) hx hb hts (by decide +kernel) (va_RAbo (hK.2 2 _ rfl).2) hI rfl (by decide) (by decide) (by decide) rfl rfl (by decide) (by decide) dX3_init_24 (fun H hI => ?_)
  refine kw_putF (C := RX3) (T := TX3) (N := 9) (ci := 3) (ty := (.array .boolean)) (fs2 := [.ref (B + (es.length + 0)), .ref (B + (es.length + 1)), .ref (B + (es.length + 2)), .null, .int (iI 0), .int (iI 0), .int (iI 0), .int (iI 0), .int (iI 0)]) hx hb hts k_in_X3 tyX3 tyX3_ok nmX3 hown hK hk0 hI rfl 2 (by decide) (by decide +kernel) rfl hin rfl (by decide +kernel) rfl rfl (Nat.le_of_ble_eq_true rfl) rfl dX3_init_26 (fun H locs hI => ?_)
  refine lv_aload_n hx hb dX3_init_29 rfl (lv_at hl 0 rfl) ?_
  refine lv_bipush (v := iI 80) hx hb dX3_init_30 (by decide +kernel) ?_
  refine kw_newa (atype := .boolean) (cA := cy 2) (N' := 80) (a0 := (80, .inl (fun _ => iI 0))) (n := 3) (NW2 := [.inl (cy 4, 40, .inr (.inr (.inr (.inr (fun _ => none))))), .inl (cy 0, 80, .inl (fun _ => iI 0)), .inl (cy 2, 80, .inl (fun _ => iI 0)), .inl (cy 2, 80, .inl (fun _ => iI 0))]) hx hb hts (by decide +kernel) (va_RAbo (hK.2 2 _ rfl).2) hI rfl (by decide) (by decide) (by decide) rfl rfl (by decide) (by decide) dX3_init_32 (fun H hI => ?_)
  refine kw_putF (C := RX3) (T := TX3) (N := 9) (ci := 3) (ty := (.array .boolean)) (fs2 := [.ref (B + (es.length + 0)), .ref (B + (es.length + 1)), .ref (B + (es.length + 2)), .ref (B + (es.length + 3)), .int (iI 0), .int (iI 0), .int (iI 0), .int (iI 0), .int (iI 0)]) hx hb hts k_in_X3 tyX3 tyX3_ok nmX3 hown hK hk0 hI rfl 3 (by decide) (by decide +kernel) rfl hin rfl (by decide +kernel) rfl rfl (Nat.le_of_ble_eq_true rfl) rfl dX3_init_34 (fun H locs hI => ?_)
  refine lv_aload_n hx hb dX3_init_37 rfl (lv_at hl 0 rfl) ?_
  refine lv_iconst (v := iI 0) hx hb dX3_init_38 rfl ?_
  refine kw_put (C := RX3) (T := TX3) (N := 9) (ci := 3) (ty := .boolean) (fs2 := [.ref (B + (es.length + 0)), .ref (B + (es.length + 1)), .ref (B + (es.length + 2)), .ref (B + (es.length + 3)), .int (iI 0), .int (iI 0), .int (iI 0), .int (iI 0), .int (iI 0)]) hx hb hts k_in_X3 tyX3 tyX3_ok nmX3 hown hK hk0 hI rfl 4 (by decide) (by decide +kernel) rfl (by decide +kernel) (iI_nz (by omega)) (iI_fz (by omega)) (Nat.le_of_ble_eq_true rfl) rfl dX3_init_39 (fun H locs hI => ?_)
  refine lv_aload_n hx hb dX3_init_42 rfl (lv_at hl 0 rfl) ?_
  refine lv_iconst (v := iI 0) hx hb dX3_init_43 rfl ?_
  refine kw_put (C := RX3) (T := TX3) (N := 9) (ci := 3) (ty := .int) (fs2 := [.ref (B + (es.length + 0)), .ref (B + (es.length + 1)), .ref (B + (es.length + 2)), .ref (B + (es.length + 3)), .int (iI 0), .int (iI 0), .int (iI 0), .int (iI 0), .int (iI 0)]) hx hb hts k_in_X3 tyX3 tyX3_ok nmX3 hown hK hk0 hI rfl 5 (by decide) (by decide +kernel) rfl (by decide +kernel) rfl rfl (Nat.le_of_ble_eq_true rfl) rfl dX3_init_44 (fun H locs hI => ?_)
  refine lv_aload_n hx hb dX3_init_47 rfl (lv_at hl 0 rfl) ?_
  refine lv_iconst (v := iI 0) hx hb dX3_init_48 rfl ?_
  refine kw_put (C := RX3) (T := TX3) (N := 9) (ci := 3) (ty := .int) (fs2 := [.ref (B + (es.length + 0)), .ref (B + (es.length + 1)), .ref (B + (es.length + 2)), .ref (B + (es.length + 3)), .int (iI 0), .int (iI 0), .int (iI 0), .int (iI 0), .int (iI 0)]) hx hb hts k_in_X3 tyX3 tyX3_ok nmX3 hown hK hk0 hI rfl 6 (by decide) (by decide +kernel) rfl (by decide +kernel) rfl rfl (Nat.le_of_ble_eq_true rfl) rfl dX3_init_49 (fun H locs hI => ?_)
  refine lv_aload_n hx hb dX3_init_52 rfl (lv_at hl 0 rfl) ?_
  refine lv_iconst (v := iI 0) hx hb dX3_init_53 rfl ?_
  refine kw_put (C := RX3) (T := TX3) (N := 9) (ci := 3) (ty := .int) (fs2 := [.ref (B + (es.length + 0)), .ref (B + (es.length + 1)), .ref (B + (es.length + 2)), .ref (B + (es.length + 3)), .int (iI 0), .int (iI 0), .int (iI 0), .int (iI 0), .int (iI 0)]) hx hb hts k_in_X3 tyX3 tyX3_ok nmX3 hown hK hk0 hI rfl 7 (by decide) (by decide +kernel) rfl (by decide +kernel) rfl rfl (Nat.le_of_ble_eq_true rfl) rfl dX3_init_54 (fun H locs hI => ?_)
  refine lv_aload_n hx hb dX3_init_57 rfl (lv_at hl 0 rfl) ?_
  refine lv_iconst (v := iI 0) hx hb dX3_init_58 rfl ?_
  refine kw_put (C := RX3) (T := TX3) (N := 9) (ci := 3) (ty := .int) (fs2 := [.ref (B + (es.length + 0)), .ref (B + (es.length + 1)), .ref (B + (es.length + 2)), .ref (B + (es.length + 3)), .int (iI 0), .int (iI 0), .int (iI 0), .int (iI 0), .int (iI 0)]) hx hb hts k_in_X3 tyX3 tyX3_ok nmX3 hown hK hk0 hI rfl 8 (by decide) (by decide +kernel) rfl (by decide +kernel) rfl rfl (Nat.le_of_ble_eq_true rfl) rfl dX3_init_59 (fun H locs hI => ?_)
  have loop : ∀ (n i : Nat) (H : Heap) (locs : List Loc) (ls : Array Slot), i ≤ 40 → 40 - i < n → lv_has ls 2 [(1, .int (iI (i : Int))), (0, .ref (B + k))] → KI D B s (kw es k (.inr (3, [.ref (B + (es.length + 0)), .ref (B + (es.length + 1)), .ref (B + (es.length + 2)), .ref (B + (es.length + 3)), .int (iI 0), .int (iI 0), .int (iI 0), .int (iI 0), .int (iI 0)])) (.inl (cy 4, 40, .inr (.inr (.inr (.inr (rfI B es.length 4 7 i))))) :: ([.inl (cy 0, 80, .inl (fun _ => iI 0)), .inl (cy 2, 80, .inl (fun _ => iI 0)), .inl (cy 2, 80, .inl (fun _ => iI 0))] ++ blkX4 cy B es.length 4 i))) H locs → W p l e { frames := 3, cells := 284, slots := 2560, locals := 52 } s m args below meth c₀ H locs (4 + 7 * i) (280 + 57 * i) (MQ below (KQ D cy B (es.set k (.inr (3, k_fs_X3 B es.length)) ++ k_nw_X3 cy B es.length)) args s 284 2560 (AB B)) (F0 m 64 ls []) := by
    intro n
    induction n with
    | zero => intro i H locs ls h1 h2; omega
    | succ n ih =>
      intro i H locs ls h1 h2 hl hI
      refine lv_iload_n hx hb dX3_init_64 rfl (lv_at hl 0 rfl) ?_
      refine lv_bipush (v := iI 40) hx hb dX3_init_65 (by decide +kernel) ?_
      refine g_icmp_ge (tgt := 89) hx hb dX3_init_67 (by decide) (by omega) (by omega) (fun c_1 => ?_) (fun c_1 => ?_)
      · have : i = 40 := by omega
        subst this
        exact k_vret hx hb hr hK hN hlocks hI rfl rfl rfl dX3_init_89
      · refine lv_aload_n hx hb dX3_init_70 rfl (lv_at hl 1 rfl) ?_
        refine k_get (C := RX3) (T := TX3) (N := 9) (ci := 3) hx hb hts k_in_X3 hown hK hI (kw_get0 hk0 _ _) rfl 0 (by decide) (by decide +kernel) rfl dX3_init_71 ?_
        refine lv_iload_n hx hb dX3_init_74 rfl (lv_at hl 0 rfl) ?_
        have len : (.inl (cy 4, 40, .inr (.inr (.inr (.inr (rfI B es.length 4 7 i))))) :: ([.inl (cy 0, 80, .inl (fun _ => iI 0)), .inl (cy 2, 80, .inl (fun _ => iI 0)), .inl (cy 2, 80, .inl (fun _ => iI 0))] ++ blkX4 cy B es.length 4 i)).length = 4 + 7 * i := by simp [blkX4_len]; omega
        refine kw_new (C := RX4) (T := TX4) (N := 12) (ci := 4) (fs := [.null, .null, .null, .int (iI 0), .int (iI 0), .int (iI 0), .int (iI 0), .int (iI 0), .int (iI 0), .int (iI 0), .int (iI 0), .int (iI 0)]) (n := 4 + 7 * i) hx hb hts in_X3_X4 tyX4 tyX4_ok hown (by decide +kernel) (by decide +kernel) (by decide +kernel) hK hI rfl k_df_X4 len rfl (by show _ ≤ 284; omega) (by show _ ≤ 2560; omega) dX3_init_75 (fun H hI => ?_)
        refine lv_dup hx hb dX3_init_78 rfl ?_
        refine kw_IN (k_X4 l D cy B) (n := 4 + 7 * i + 1) (NW2 := (.inl (cy 4, 40, .inr (.inr (.inr (.inr (rfI B es.length 4 7 i))))) :: ([.inl (cy 0, 80, .inl (fun _ => iI 0)), .inl (cy 2, 80, .inl (fun _ => iI 0)), .inl (cy 2, 80, .inl (fun _ => iI 0))] ++ blkX4 cy B es.length 4 (i + 1)))) (j := 4 + 7 * i) (ap_get len _ _) hx hb hml hown hts hK hN hI hl.1 ggX3_init_X4_init rfl (by decide +kernel) (by decide +kernel) (by decide +kernel) k_hd_X4 rfl ⟨Nat.le_of_ble_eq_true rfl, Nat.le_of_ble_eq_true rfl⟩ ⟨by show _ ≤ 284; dsimp only; omega, by show _ ≤ 2560; dsimp only; omega⟩ (Nat.le_of_ble_eq_true rfl) (by rw [ap_len, len]) (by rw [ap_set len]; simp [blkX4]) dX3_init_79 (fun H locs hI => ?_)
        refine kw_ast (r := (RX4, TX4, 12)) (qa := 0) (qv := 4 + 7 * i) (t0 := 4) (ci := 4) (vs := k_fs_X4 B (es.length + (4 + 7 * i + 1))) (NW2 := (.inl (cy 4, 40, .inr (.inr (.inr (.inr (rfI B es.length 4 7 (i + 1)))))) :: ([.inl (cy 0, 80, .inl (fun _ => iI 0)), .inl (cy 2, 80, .inl (fun _ => iI 0)), .inl (cy 2, 80, .inl (fun _ => iI 0))] ++ blkX4 cy B es.length 4 (i + 1)))) hx hb hK hI rfl rfl (by simp only [blkX4]; exact bgX4 (by simp [blkX4_len]; omega)) rfl (iI_in (by omega) (by omega) (by decide)) (rfI_up (by omega)) rfl dX3_init_82 (fun H locs hI => ?_)
        refine lv_iinc (v := iI ((i + 1 : Nat) : Int)) hx hb dX3_init_83 hl (k := 0) rfl (by rw [iI_inc]) (by decide) rfl (fun ls hl => ?_)
        refine lv_goto (tgt := 64) hx hb dX3_init_86 (by decide) ?_
        refine W.widen (k := 4 + 7 * (i + 1)) (n := 280 + 57 * (i + 1)) (by dsimp only; omega) (by dsimp only; omega) ?_
        exact ih (i + 1) H locs ls (by omega) (by omega) hl hI
  refine lv_iconst (v := iI 0) hx hb dX3_init_62 rfl ?_
  refine lv_istore_n hx hb dX3_init_63 rfl hl (by decide) rfl (fun ls hl => ?_)
  exact loop 41 0 _ _ ls (by omega) (by omega) hl (by rw [rfI_0]; exact hI)
theorem k_ln_X3 (cy : Nat → ClassId) (B N : Nat) : (k_nw_X3 cy B N).length = 284 := by simp [k_nw_X3, blkX4_len]
