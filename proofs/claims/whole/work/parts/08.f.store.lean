def blkX2 (cy : Nat → ClassId) (B N b : Nat) : Nat → List va_E
  | 0 => []
  | i + 1 => blkX2 cy B N b i ++ (.inr (2, k_fs_X2 B (N + (b + 2 * i + 1))) :: k_nw_X2 cy B (N + (b + 2 * i + 1)))
def blkX4 (cy : Nat → ClassId) (B N b : Nat) : Nat → List va_E
  | 0 => []
  | i + 1 => blkX4 cy B N b i ++ (.inr (4, k_fs_X4 B (N + (b + 7 * i + 1))) :: k_nw_X4 cy B (N + (b + 7 * i + 1)))
theorem blkX2_len (cy : Nat → ClassId) (B N b : Nat) : ∀ i, (blkX2 cy B N b i).length = 2 * i
  | 0 => rfl
  | i + 1 => by rw [blkX2, List.length_append, blkX2_len cy B N b i, List.length_cons, k_ln_X2]; omega
theorem blkX4_len (cy : Nat → ClassId) (B N b : Nat) : ∀ i, (blkX4 cy B N b i).length = 7 * i
  | 0 => rfl
  | i + 1 => by rw [blkX4, List.length_append, blkX4_len cy B N b i, List.length_cons, k_ln_X4]; omega
theorem bgX2 {x : va_E} {r A L : List va_E} {y : va_E} {n : Nat} (h : (x :: (r ++ A)).length = n) : (x :: (r ++ (A ++ (y :: L))))[n]? = some y := by
  rw [← List.append_assoc, ← List.cons_append]; exact ap_get h _ _
theorem bgX4 {x : va_E} {r A L : List va_E} {y : va_E} {n : Nat} (h : (x :: (r ++ A)).length = n) : (x :: (r ++ (A ++ (y :: L))))[n]? = some y := by
  rw [← List.append_assoc, ← List.cons_append]; exact ap_get h _ _
theorem in_X7_X2 : ∀ w ∈ u_ws RX2 TX2 3, w ∈ wsX7_init := by decide +kernel
theorem k_in_X7 : ∀ w ∈ u_ws RX7 TX7 6, w ∈ wsX7_init := by decide +kernel
theorem k_hd_X7 : yX7_init.cls ≠ "java/lang/invoke/MethodHandle" ∧ yX7_init.cls ≠ "java/lang/invoke/VarHandle" ∧ (parseMethodDescriptor yX7_init.desc).map (fun d => d.parameters.length) = some 0 := by decide +kernel
theorem k_df_X7 : ∀ j, j < 6 → defaultValue (tyX7 j) = vp_V ([.null, .null, .null, .int (iI 0), .int (iI 0), .int (iI 0)] : List Value) j := by
  intro j hj
  rcases (show j = 0 ∨ j = 1 ∨ j = 2 ∨ j = 3 ∨ j = 4 ∨ j = 5 by omega) with rfl | rfl | rfl | rfl | rfl | rfl <;> rfl
def k_fs_X7 (B N : Nat) : List Value := [.ref (B + (N + 0)), .ref (B + (N + 1)), .ref (B + (N + 2)), .int (iI 0), .int (iI 0), .int (iI 0)]
def k_nw_X7 (cy : Nat → ClassId) (B N : Nat) : List va_E := (.inl (cy 3, 40, .inr (.inr (.inr (.inr (rfI B N 3 2 40))))) :: ([.inl (cy 2, 40, .inl (fun _ => iI 0)), .inl (cy 0, 40, .inl (fun _ => iI 0))] ++ blkX2 cy B N 3 40))
set_option maxHeartbeats 4000000 in
set_option maxRecDepth 100000 in
theorem k_X7 (l : Launch) (D : va_G) (cy : Nat → ClassId) (B : Nat) : KM l D cy B yX7_init wsX7_init { frames := 2, cells := 83, slots := 720, locals := 32 } 6 [.null, .null, .null, .int (iI 0), .int (iI 0), .int (iI 0)] (k_fs_X7 B) (k_nw_X7 cy B) := by
  refine KM.of (cc := cX7_init) (maxL := 2) (by decide) rfl (by decide) rfl ?_
  intro es k hk p e s m args below meth c₀ ls X hI hl
  have hl : lv_has ls 2 [(0, .ref (B + k))] := hl
  obtain ⟨hx, hb, hr, hml, hown, hts, hlocks, hK, hN, hin⟩ := X
  have hk0 : k < es.length := (List.getElem?_eq_some_iff.mp hk).1
  have hI : KI D B s (kw es k (.inr (6, [.null, .null, .null, .int (iI 0), .int (iI 0), .int (iI 0)])) []) s.heap [] := by rw [kw_self hk]; exact hI
  refine lv_aload_n hx hb dX7_init_0 rfl (lv_at hl 0 rfl) ?_
  refine W.objInit hx hb hown (hts (.methodLink RX7 3 objectInit) (List.mem_of_getElem? (i := 1) rfl)) (hts (.instanceMethod objectInit) (List.mem_of_getElem? (i := 2) rfl)) (hts _ (List.mem_of_getElem? (i := 3) rfl)) rfl (by rw [hml]; exact hl.1) rfl dX7_init_1 (Nat.le_of_ble_eq_true rfl) (Nat.le_of_ble_eq_true rfl) ?_
  refine W.eq (g2 := F0 m 4 ls []) rfl ?_
  refine lv_aload_n hx hb dX7_init_4 rfl (lv_at hl 0 rfl) ?_
  refine lv_bipush (v := iI 40) hx hb dX7_init_5 (by decide +kernel) ?_
  refine kw_anew (C := RX2) (cA := cy 3) (N' := 40) (n := 0) (NW2 := [.inl (cy 3, 40, .inr (.inr (.inr (.inr (fun _ => none)))))]) hx hb hts hown (by decide +kernel) hN.2.1 (va_RAq (hK.2 3 _ rfl).2) hI (by decide) (by decide) (by decide) rfl rfl (by decide) (by decide) dX7_init_7 (fun H hI => ?_)
  refine kw_putF (C := RX7) (T := TX7) (N := 6) (ci := 6) (ty := (.array (.object "NameTurner$Place"))) (fs2 := [.ref (B + (es.length + 0)), .null, .null, .int (iI 0), .int (iI 0), .int (iI 0)]) hx hb hts k_in_X7 tyX7 tyX7_ok nmX7 hown hK hk0 hI rfl 0 (by decide) (by decide +kernel) rfl hin rfl (by decide +kernel) rfl rfl (Nat.le_of_ble_eq_true rfl) rfl dX7_init_10 (fun H locs hI => ?_)
  refine lv_aload_n hx hb dX7_init_13 rfl (lv_at hl 0 rfl) ?_
  refine lv_bipush (v := iI 40) hx hb dX7_init_14 (by decide +kernel) ?_
  refine kw_newa (atype := .boolean) (cA := cy 2) (N' := 40) (a0 := (40, .inl (fun _ => iI 0))) (n := 1) (NW2 := [.inl (cy 3, 40, .inr (.inr (.inr (.inr (fun _ => none))))), .inl (cy 2, 40, .inl (fun _ => iI 0))]) hx hb hts (by decide +kernel) (va_RAbo (hK.2 2 _ rfl).2) hI rfl (by decide) (by decide) (by decide) rfl rfl (by decide) (by decide) dX7_init_16 (fun H hI => ?_)
  refine kw_putF (C := RX7) (T := TX7) (N := 6) (ci := 6) (ty := (.array .boolean)) (fs2 := [.ref (B + (es.length + 0)), .ref (B + (es.length + 1)), .null, .int (iI 0), .int (iI 0), .int (iI 0)]) hx hb hts k_in_X7 tyX7 tyX7_ok nmX7 hown hK hk0 hI rfl 1 (by decide) (by decide +kernel) rfl hin rfl (by decide +kernel) rfl rfl (Nat.le_of_ble_eq_true rfl) rfl dX7_init_18 (fun H locs hI => ?_)
  refine lv_aload_n hx hb dX7_init_21 rfl (lv_at hl 0 rfl) ?_
  refine lv_bipush (v := iI 40) hx hb dX7_init_22 (by decide +kernel) ?_
  refine kw_newa (atype := .int) (cA := cy 0) (N' := 40) (a0 := (40, .inl (fun _ => iI 0))) (n := 2) (NW2 := [.inl (cy 3, 40, .inr (.inr (.inr (.inr (fun _ => none))))), .inl (cy 2, 40, .inl (fun _ => iI 0)), .inl (cy 0, 40, .inl (fun _ => iI 0))]) hx hb hts (by decide +kernel) (va_RAi (hK.2 0 _ rfl).2) hI rfl (by decide) (by decide) (by decide) rfl rfl (by decide) (by decide) dX7_init_24 (fun H hI => ?_)
  refine kw_putF (C := RX7) (T := TX7) (N := 6) (ci := 6) (ty := (.array .int)) (fs2 := [.ref (B + (es.length + 0)), .ref (B + (es.length + 1)), .ref (B + (es.length + 2)), .int (iI 0), .int (iI 0), .int (iI 0)]) hx hb hts k_in_X7 tyX7 tyX7_ok nmX7 hown hK hk0 hI rfl 2 (by decide) (by decide +kernel) rfl hin rfl (by decide +kernel) rfl rfl (Nat.le_of_ble_eq_true rfl) rfl dX7_init_26 (fun H locs hI => ?_)
  refine lv_aload_n hx hb dX7_init_29 rfl (lv_at hl 0 rfl) ?_
  refine lv_iconst (v := iI 0) hx hb dX7_init_30 rfl ?_
  refine kw_put (C := RX7) (T := TX7) (N := 6) (ci := 6) (ty := .int) (fs2 := [.ref (B + (es.length + 0)), .ref (B + (es.length + 1)), .ref (B + (es.length + 2)), .int (iI 0), .int (iI 0), .int (iI 0)]) hx hb hts k_in_X7 tyX7 tyX7_ok nmX7 hown hK hk0 hI rfl 3 (by decide) (by decide +kernel) rfl (by decide +kernel) rfl rfl (Nat.le_of_ble_eq_true rfl) rfl dX7_init_31 (fun H locs hI => ?_)
  refine lv_aload_n hx hb dX7_init_34 rfl (lv_at hl 0 rfl) ?_
  refine lv_iconst (v := iI 0) hx hb dX7_init_35 rfl ?_
  refine kw_put (C := RX7) (T := TX7) (N := 6) (ci := 6) (ty := .int) (fs2 := [.ref (B + (es.length + 0)), .ref (B + (es.length + 1)), .ref (B + (es.length + 2)), .int (iI 0), .int (iI 0), .int (iI 0)]) hx hb hts k_in_X7 tyX7 tyX7_ok nmX7 hown hK hk0 hI rfl 4 (by decide) (by decide +kernel) rfl (by decide +kernel) rfl rfl (Nat.le_of_ble_eq_true rfl) rfl dX7_init_36 (fun H locs hI => ?_)
  refine lv_aload_n hx hb dX7_init_39 rfl (lv_at hl 0 rfl) ?_
  refine lv_iconst (v := iI 0) hx hb dX7_init_40 rfl ?_
  refine kw_put (C := RX7) (T := TX7) (N := 6) (ci := 6) (ty := .boolean) (fs2 := [.ref (B + (es.length + 0)), .ref (B + (es.length + 1)), .ref (B + (es.length + 2)), .int (iI 0), .int (iI 0), .int (iI 0)]) hx hb hts k_in_X7 tyX7 tyX7_ok nmX7 hown hK hk0 hI rfl 5 (by decide) (by decide +kernel) rfl (by decide +kernel) (iI_nz (by omega)) (iI_fz (by omega)) (Nat.le_of_ble_eq_true rfl) rfl dX7_init_41 (fun H locs hI => ?_)
  have loop : ∀ (n i : Nat) (H : Heap) (locs : List Loc) (ls : Array Slot), i ≤ 40 → 40 - i < n → lv_has ls 2 [(1, .int (iI (i : Int))), (0, .ref (B + k))] → KI D B s (kw es k (.inr (6, [.ref (B + (es.length + 0)), .ref (B + (es.length + 1)), .ref (B + (es.length + 2)), .int (iI 0), .int (iI 0), .int (iI 0)])) (.inl (cy 3, 40, .inr (.inr (.inr (.inr (rfI B es.length 3 2 i))))) :: ([.inl (cy 2, 40, .inl (fun _ => iI 0)), .inl (cy 0, 40, .inl (fun _ => iI 0))] ++ blkX2 cy B es.length 3 i))) H locs → W p l e { frames := 2, cells := 83, slots := 720, locals := 32 } s m args below meth c₀ H locs (3 + 2 * i) (120 + 15 * i) (MQ below (KQ D cy B (es.set k (.inr (6, k_fs_X7 B es.length)) ++ k_nw_X7 cy B es.length)) args s 83 720 (AB B)) (F0 m 46 ls []) := by
    intro n
    induction n with
    | zero => intro i H locs ls h1 h2; omega
    | succ n ih =>
      intro i H locs ls h1 h2 hl hI
      refine lv_iload_n hx hb dX7_init_46 rfl (lv_at hl 0 rfl) ?_
      refine lv_bipush (v := iI 40) hx hb dX7_init_47 (by decide +kernel) ?_
      refine g_icmp_ge (tgt := 71) hx hb dX7_init_49 (by decide) (by omega) (by omega) (fun c_1 => ?_) (fun c_1 => ?_)
      · have : i = 40 := by omega
        subst this
        exact k_vret hx hb hr hK hN hlocks hI rfl rfl rfl dX7_init_71
      · refine lv_aload_n hx hb dX7_init_52 rfl (lv_at hl 1 rfl) ?_
        refine k_get (C := RX7) (T := TX7) (N := 6) (ci := 6) hx hb hts k_in_X7 hown hK hI (kw_get0 hk0 _ _) rfl 0 (by decide) (by decide +kernel) rfl dX7_init_53 ?_
        refine lv_iload_n hx hb dX7_init_56 rfl (lv_at hl 0 rfl) ?_
        have len : (.inl (cy 3, 40, .inr (.inr (.inr (.inr (rfI B es.length 3 2 i))))) :: ([.inl (cy 2, 40, .inl (fun _ => iI 0)), .inl (cy 0, 40, .inl (fun _ => iI 0))] ++ blkX2 cy B es.length 3 i)).length = 3 + 2 * i := by simp [blkX2_len]; omega
        refine kw_new (C := RX2) (T := TX2) (N := 3) (ci := 2) (fs := [.null, .int (iI 0), .int (iI 0)]) (n := 3 + 2 * i) hx hb hts in_X7_X2 tyX2 tyX2_ok hown (by decide +kernel) (by decide +kernel) (by decide +kernel) hK hI rfl k_df_X2 len rfl (by show _ ≤ 83; omega) (by show _ ≤ 720; omega) dX7_init_57 (fun H hI => ?_)
        refine lv_dup hx hb dX7_init_60 rfl ?_
        refine kw_IN (k_X2 l D cy B) (n := 3 + 2 * i + 1) (NW2 := (.inl (cy 3, 40, .inr (.inr (.inr (.inr (rfI B es.length 3 2 i))))) :: ([.inl (cy 2, 40, .inl (fun _ => iI 0)), .inl (cy 0, 40, .inl (fun _ => iI 0))] ++ blkX2 cy B es.length 3 (i + 1)))) (j := 3 + 2 * i) (ap_get len _ _) hx hb hml hown hts hK hN hI hl.1 ggX7_init_X2_init rfl (by decide +kernel) (by decide +kernel) (by decide +kernel) k_hd_X2 rfl ⟨Nat.le_of_ble_eq_true rfl, Nat.le_of_ble_eq_true rfl⟩ ⟨by show _ ≤ 83; dsimp only; omega, by show _ ≤ 720; dsimp only; omega⟩ (Nat.le_of_ble_eq_true rfl) (by rw [ap_len, len]) (by rw [ap_set len]; simp [blkX2]) dX7_init_61 (fun H locs hI => ?_)
        refine kw_ast (r := (RX2, TX2, 3)) (qa := 0) (qv := 3 + 2 * i) (t0 := 3) (ci := 2) (vs := k_fs_X2 B (es.length + (3 + 2 * i + 1))) (NW2 := (.inl (cy 3, 40, .inr (.inr (.inr (.inr (rfI B es.length 3 2 (i + 1)))))) :: ([.inl (cy 2, 40, .inl (fun _ => iI 0)), .inl (cy 0, 40, .inl (fun _ => iI 0))] ++ blkX2 cy B es.length 3 (i + 1)))) hx hb hK hI rfl rfl (by simp only [blkX2]; exact bgX2 (by simp [blkX2_len]; omega)) rfl (iI_in (by omega) (by omega) (by decide)) (rfI_up (by omega)) rfl dX7_init_64 (fun H locs hI => ?_)
        refine lv_iinc (v := iI ((i + 1 : Nat) : Int)) hx hb dX7_init_65 hl (k := 0) rfl (by rw [iI_inc]) (by decide) rfl (fun ls hl => ?_)
        refine lv_goto (tgt := 46) hx hb dX7_init_68 (by decide) ?_
        refine W.widen (k := 3 + 2 * (i + 1)) (n := 120 + 15 * (i + 1)) (by dsimp only; omega) (by dsimp only; omega) ?_
        exact ih (i + 1) H locs ls (by omega) (by omega) hl hI
  refine lv_iconst (v := iI 0) hx hb dX7_init_44 rfl ?_
  refine lv_istore_n hx hb dX7_init_45 rfl hl (by decide) rfl (fun ls hl => ?_)
  exact loop 41 0 _ _ ls (by omega) (by omega) hl (by rw [rfI_0]; exact hI)
theorem k_ln_X7 (cy : Nat → ClassId) (B N : Nat) : (k_nw_X7 cy B N).length = 83 := by simp [k_nw_X7, blkX2_len]
