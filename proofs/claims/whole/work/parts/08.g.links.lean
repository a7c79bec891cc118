theorem in_X1_X2 : ∀ w ∈ u_ws RX2 TX2 3, w ∈ wsX1_init := by decide +kernel
theorem k_in_X1 : ∀ w ∈ u_ws RX1 TX1 2, w ∈ wsX1_init := by decide +kernel
theorem k_hd_X1 : yX1_init.cls ≠ "java/lang/invoke/MethodHandle" ∧ yX1_init.cls ≠ "java/lang/invoke/VarHandle" ∧ (parseMethodDescriptor yX1_init.desc).map (fun d => d.parameters.length) = some 0 := by decide +kernel
theorem k_df_X1 : ∀ j, j < 2 → defaultValue (tyX1 j) = vp_V ([.null, .int (iI 0)] : List Value) j := by
  intro j hj
  rcases (show j = 0 ∨ j = 1 by omega) with rfl | rfl <;> rfl
def k_fs_X1 (B N : Nat) : List Value := [.ref (B + (N + 0)), .int (iI 0)]
def k_nw_X1 (cy : Nat → ClassId) (B N : Nat) : List va_E := (.inl (cy 3, 30, .inr (.inr (.inr (.inr (rfI B N 1 2 30))))) :: ([] ++ blkX2 cy B N 1 30))
set_option maxHeartbeats 4000000 in
set_option maxRecDepth 100000 in
theorem k_X1 (l : Launch) (D : va_G) (cy : Nat → ClassId) (B : Nat) : KM l D cy B yX1_init wsX1_init { frames := 2, cells := 61, slots := 480, locals := 32 } 1 [.null, .int (iI 0)] (k_fs_X1 B) (k_nw_X1 cy B) := by
  refine KM.of (cc := cX1_init) (maxL := 2) (by decide) rfl (by decide) rfl ?_
  intro es k hk p e s m args below meth c₀ ls X hI hl
  have hl : lv_has ls 2 [(0, .ref (B + k))] := hl
  obtain ⟨hx, hb, hr, hml, hown, hts, hlocks, hK, hN, hin⟩ := X
  have hk0 : k < es.length := (List.getElem?_eq_some_iff.mp hk).1
  have hI : KI D B s (kw es k (.inr (1, [.null, .int (iI 0)])) []) s.heap [] := by rw [kw_self hk]; exact hI
  refine lv_aload_n hx hb dX1_init_0 rfl (lv_at hl 0 rfl) ?_
  refine W.objInit hx hb hown (hts (.methodLink RX1 3 objectInit) (List.mem_of_getElem? (i := 1) rfl)) (hts (.instanceMethod objectInit) (List.mem_of_getElem? (i := 2) rfl)) (hts _ (List.mem_of_getElem? (i := 3) rfl)) rfl (by rw [hml]; exact hl.1) rfl dX1_init_1 (Nat.le_of_ble_eq_true rfl) (Nat.le_of_ble_eq_true rfl) ?_
  refine W.eq (g2 := F0 m 4 ls []) rfl ?_
  refine lv_aload_n hx hb dX1_init_4 rfl (lv_at hl 0 rfl) ?_
  refine lv_bipush (v := iI 30) hx hb dX1_init_5 (by decide +kernel) ?_
  refine kw_anew (C := RX2) (cA := cy 3) (N' := 30) (n := 0) (NW2 := [.inl (cy 3, 30, .inr (.inr (.inr (.inr (fun _ => none)))))]) hx hb hts hown (by decide +kernel) hN.2.1 (va_RAq (hK.2 3 _ rfl).2) hI (by decide) (by decide) (by decide) rfl rfl (by decide) (by decide) dX1_init_7 (fun H hI => ?_)
  refine kw_putF (C := RX1) (T := TX1) (N := 2) (ci := 1) (ty := (.array (.object "NameTurner$Place"))) (fs2 := [.ref (B + (es.length + 0)), .int (iI 0)]) hx hb hts k_in_X1 tyX1 tyX1_ok nmX1 hown hK hk0 hI rfl 0 (by decide) (by decide +kernel) rfl hin rfl (by decide +kernel) rfl rfl (Nat.le_of_ble_eq_true rfl) rfl dX1_init_10 (fun H locs hI => ?_)
  refine lv_aload_n hx hb dX1_init_13 rfl (lv_at hl 0 rfl) ?_
  refine lv_iconst (v := iI 0) hx hb dX1_init_14 rfl ?_
  refine kw_put (C := RX1) (T := TX1) (N := 2) (ci := 1) (ty := .int) (fs2 := [.ref (B + (es.length + 0)), .int (iI 0)]) hx hb hts k_in_X1 tyX1 tyX1_ok nmX1 hown hK hk0 hI rfl 1 (by decide) (by decide +kernel) rfl (by decide +kernel) rfl rfl (Nat.le_of_ble_eq_true rfl) rfl dX1_init_15 (fun H locs hI => ?_)
  have loop : ∀ (n i : Nat) (H : Heap) (locs : List Loc) (ls : Array Slot), i ≤ 30 → 30 - i < n → lv_has ls 2 [(1, .int (iI (i : Int))), (0, .ref (B + k))] → KI D B s (kw es k (.inr (1, [.ref (B + (es.length + 0)), .int (iI 0)])) (.inl (cy 3, 30, .inr (.inr (.inr (.inr (rfI B es.length 1 2 i))))) :: ([] ++ blkX2 cy B es.length 1 i))) H locs → W p l e { frames := 2, cells := 61, slots := 480, locals := 32 } s m args below meth c₀ H locs (1 + 2 * i) (30 + 15 * i) (MQ below (KQ D cy B (es.set k (.inr (1, k_fs_X1 B es.length)) ++ k_nw_X1 cy B es.length)) args s 61 480 (AB B)) (F0 m 20 ls []) := by
    intro n
    induction n with
    | zero => intro i H locs ls h1 h2; omega
    | succ n ih =>
      intro i H locs ls h1 h2 hl hI
      refine lv_iload_n hx hb dX1_init_20 rfl (lv_at hl 0 rfl) ?_
      refine lv_bipush (v := iI 30) hx hb dX1_init_21 (by decide +kernel) ?_
      refine g_icmp_ge (tgt := 45) hx hb dX1_init_23 (by decide) (by omega) (by omega) (fun c_1 => ?_) (fun c_1 => ?_)
      · have : i = 30 := by omega
        subst this
        exact k_vret hx hb hr hK hN hlocks hI rfl rfl rfl dX1_init_45
      · refine lv_aload_n hx hb dX1_init_26 rfl (lv_at hl 1 rfl) ?_
        refine k_get (C := RX1) (T := TX1) (N := 2) (ci := 1) hx hb hts k_in_X1 hown hK hI (kw_get0 hk0 _ _) rfl 0 (by decide) (by decide +kernel) rfl dX1_init_27 ?_
        refine lv_iload_n hx hb dX1_init_30 rfl (lv_at hl 0 rfl) ?_
        have len : (.inl (cy 3, 30, .inr (.inr (.inr (.inr (rfI B es.length 1 2 i))))) :: ([] ++ blkX2 cy B es.length 1 i)).length = 1 + 2 * i := by simp [blkX2_len]; omega
        refine kw_new (C := RX2) (T := TX2) (N := 3) (ci := 2) (fs := [.null, .int (iI 0), .int (iI 0)]) (n := 1 + 2 * i) hx hb hts in_X1_X2 tyX2 tyX2_ok hown (by decide +kernel) (by decide +kernel) (by decide +kernel) hK hI rfl k_df_X2 len rfl (by show _ ≤ 61; omega) (by show _ ≤ 480; omega) dX1_init_31 (fun H hI => ?_)
        refine lv_dup hx hb dX1_init_34 rfl ?_
        refine kw_IN (k_X2 l D cy B) (n := 1 + 2 * i + 1) (NW2 := (.inl (cy 3, 30, .inr (.inr (.inr (.inr (rfI B es.length 1 2 i))))) :: ([] ++ blkX2 cy B es.length 1 (i + 1)))) (j := 1 + 2 * i) (ap_get len _ _) hx hb hml hown hts hK hN hI hl.1 ggX1_init_X2_init rfl (by decide +kernel) (by decide +kernel) (by decide +kernel) k_hd_X2 rfl ⟨Nat.le_of_ble_eq_true rfl, Nat.le_of_ble_eq_true rfl⟩ ⟨by show _ ≤ 61; dsimp only; omega, by show _ ≤ 480; dsimp only; omega⟩ (Nat.le_of_ble_eq_true rfl) (by rw [ap_len, len]) (by rw [ap_set len]; simp [blkX2]) dX1_init_35 (fun H locs hI => ?_)
        refine kw_ast (r := (RX2, TX2, 3)) (qa := 0) (qv := 1 + 2 * i) (t0 := 3) (ci := 2) (vs := k_fs_X2 B (es.length + (1 + 2 * i + 1))) (NW2 := (.inl (cy 3, 30, .inr (.inr (.inr (.inr (rfI B es.length 1 2 (i + 1)))))) :: ([] ++ blkX2 cy B es.length 1 (i + 1)))) hx hb hK hI rfl rfl (by simp only [blkX2]; exact bgX2 (by simp [blkX2_len]; omega)) rfl (iI_in (by omega) (by omega) (by decide)) (rfI_up (by omega)) rfl dX1_init_38 (fun H locs hI => ?_)
        refine lv_iinc (v := iI ((i + 1 : Nat) : Int)) hx hb dX1_init_39 hl (k := 0) rfl (by rw [iI_inc]) (by decide) rfl (fun ls hl => ?_)
        refine lv_goto (tgt := 20) hx hb dX1_init_42 (by decide) ?_
        refine W.widen (k := 1 + 2 * (i + 1)) (n := 30 + 15 * (i + 1)) (by dsimp only; omega) (by dsimp only; omega) ?_
        exact ih (i + 1) H locs ls (by omega) (by omega) hl hI
  refine lv_iconst (v := iI 0) hx hb dX1_init_18 rfl ?_
  refine lv_istore_n hx hb dX1_init_19 rfl hl (by decide) rfl (fun ls hl => ?_)
  exact loop 31 0 _ _ ls (by omega) (by omega) hl (by rw [rfI_0]; exact hI)
theorem k_ln_X1 (cy : Nat → ClassId) (B N : Nat) : (k_nw_X1 cy B N).length = 61 := by simp [k_nw_X1, blkX2_len]
