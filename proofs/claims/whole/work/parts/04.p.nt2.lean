theorem in_X9_folds_X9 : ∀ w ∈ u_ws RX9 TX9 11, w ∈ wsX9_folds := by decide +kernel
def f_X9_folds (σ : Sg) (a0 : Int) : Int × Sg := (if (f_X7_howManyAre σ) ≤ 0 then (1, (f_X7_setFolding σ a0)) else (0, σ))
theorem hd_X9_folds : yX9_folds.cls = RX9 ∧ yX9_folds.cls ≠ "java/lang/invoke/MethodHandle" ∧ yX9_folds.cls ≠ "java/lang/invoke/VarHandle" ∧ (parseMethodDescriptor yX9_folds.desc).map (fun d => d.parameters.length) = some 1 := by decide +kernel
set_option maxHeartbeats 4000000 in
set_option maxRecDepth 100000 in
theorem c_X9_folds (l : Launch) (D : va_G) (cy : Nat → ClassId) (ad : Nat → Nat) (σ : Sg) (a0 : Int) (ha0 : (0 : Int) ≤ a0 ∧ a0 ≤ 1) : CM l D cy ad yX9_folds wsX9_folds { frames := 1, cells := 0, slots := 0, locals := 40 } [.ref (ad 0), .int (iI a0)] σ (some (.int (iI ((f_X9_folds σ a0).1)))) ((f_X9_folds σ a0).2) ((0 ≤ (f_X9_folds σ a0).1 ∧ (f_X9_folds σ a0).1 ≤ 1)) := by
  refine CM.of (cc := cX9_folds) (maxL := 2) (ret := (some .boolean)) (by decide) rfl (Nat.le_of_ble_eq_true rfl) ?_
  intro p e s m args below meth c₀ ls X hI hl
  have hl : lv_has ls 2 [(0, .ref (ad 0)), (1, .int (iI a0))] := hl
  obtain ⟨hx, hb, hr, hml, hown, hts, hlocks, hK, hN⟩ := id X
  have hF := hI.2.2.2
  refine lv_aload_n hx hb dX9_folds_0 rfl (lv_at hl 0 rfl) ?_
  refine g_get (C := RX9) (T := TX9) (N := 11) (ci := 8) (v := .ref (ad 3)) hx hb hts in_X9_folds_X9 hown hK hI 0 (by decide) (cel_0 cy ad _) rfl 2 (by decide) (by decide +kernel) rfl dX9_folds_1 ?_
  refine g_V (As := []) (rest := []) 3 (c_X7_howManyAre l D cy ad σ ) hx hb hml hown hts hK hN hI hl.1 gX9_folds_X7_howManyAre rfl hd_X7_howManyAre rfl rfl ⟨Nat.le_of_ble_eq_true rfl, Nat.le_of_ble_eq_true rfl⟩ ⟨Nat.zero_le _, Nat.zero_le _⟩ (by decide) (cel_3 cy ad _) rfl rfl rfl rfl (Nat.le_of_ble_eq_true rfl) dX9_folds_4 (fun H locs hG_1 hI => ?_)
  refine g_if_le (tgt := 12) hx hb dX9_folds_7 (by decide) (by omega) (fun c_2 => ?_) (fun c_2 => ?_)
  · skip
    refine lv_aload_n hx hb dX9_folds_12 rfl (lv_at hl 0 rfl) ?_
    refine g_get (C := RX9) (T := TX9) (N := 11) (ci := 8) (v := .ref (ad 3)) hx hb hts in_X9_folds_X9 hown hK hI 0 (by decide) (cel_0 cy ad _) rfl 2 (by decide) (by decide +kernel) rfl dX9_folds_13 ?_
    refine lv_iload_n hx hb dX9_folds_16 rfl (lv_at hl 1 rfl) ?_
    refine g_V (As := [.int (iI a0)]) (rest := []) 3 (c_X7_setFolding l D cy ad σ a0 (by omega)) hx hb hml hown hts hK hN hI hl.1 gX9_folds_X7_setFolding rfl hd_X7_setFolding rfl rfl ⟨Nat.le_of_ble_eq_true rfl, Nat.le_of_ble_eq_true rfl⟩ ⟨Nat.zero_le _, Nat.zero_le _⟩ (by decide) (cel_3 cy ad _) rfl rfl rfl rfl (Nat.le_of_ble_eq_true rfl) dX9_folds_17 (fun H locs hG_3 hI => ?_)
    have hF_4 := hI.2.2.2
    refine lv_iconst (v := iI 1) hx hb dX9_folds_20 rfl ?_
    have e9 : f_X9_folds σ a0 = (1, (f_X7_setFolding σ a0)) := by rw [f_X9_folds, if_pos c_2]
    exact g_zret (z := 1) hx hb hr hK hN hlocks hI (by rw [e9]) (by rw [e9]) (by rw [e9] <;> first | (omega) | (dsimp only; omega)) (by omega) dX9_folds_21
  · skip
    refine lv_iconst (v := iI 0) hx hb dX9_folds_10 rfl ?_
    have e9 : f_X9_folds σ a0 = (0, σ) := by rw [f_X9_folds, if_neg c_2]
    exact g_zret (z := 0) hx hb hr hK hN hlocks hI (by rw [e9]) (by rw [e9]) (by rw [e9] <;> first | (omega) | (dsimp only; omega)) (by omega) dX9_folds_11
theorem in_X9_feed_X9 : ∀ w ∈ u_ws RX9 TX9 11, w ∈ wsX9_feed := by decide +kernel
def f_X9_feed (σ : Sg) (a0 : Int) (a1 : Int) (a2 : Int) (a3 : Int) (a4 : Int) : Int × Sg := (if (f_X8_hasRoom σ 20) = 0 then ((-1), σ) else (f_X8_length (f_X8_addNumber (f_X8_addNumber (f_X8_addNumber (f_X8_addNumber (f_X8_addNumber σ a0) a1) a2) a3) a4), (f_X8_addNumber (f_X8_addNumber (f_X8_addNumber (f_X8_addNumber (f_X8_addNumber σ a0) a1) a2) a3) a4)))
theorem hd_X9_feed : yX9_feed.cls = RX9 ∧ yX9_feed.cls ≠ "java/lang/invoke/MethodHandle" ∧ yX9_feed.cls ≠ "java/lang/invoke/VarHandle" ∧ (parseMethodDescriptor yX9_feed.desc).map (fun d => d.parameters.length) = some 5 := by decide +kernel
set_option maxHeartbeats 4000000 in
set_option maxRecDepth 100000 in
theorem c_X9_feed (l : Launch) (D : va_G) (cy : Nat → ClassId) (ad : Nat → Nat) (σ : Sg) (a0 : Int) (ha0 : (-2147483648 ≤ a0 ∧ a0 < 2147483648)) (a1 : Int) (ha1 : (-2147483648 ≤ a1 ∧ a1 < 2147483648)) (a2 : Int) (ha2 : (-2147483648 ≤ a2 ∧ a2 < 2147483648)) (a3 : Int) (ha3 : (-2147483648 ≤ a3 ∧ a3 < 2147483648)) (a4 : Int) (ha4 : (-2147483648 ≤ a4 ∧ a4 < 2147483648)) : CM l D cy ad yX9_feed wsX9_feed { frames := 1, cells := 0, slots := 0, locals := 40 } [.ref (ad 0), .int (iI a0), .int (iI a1), .int (iI a2), .int (iI a3), .int (iI a4)] σ (some (.int (iI ((f_X9_feed σ a0 a1 a2 a3 a4).1)))) ((f_X9_feed σ a0 a1 a2 a3 a4).2) (True) := by
  refine CM.of (cc := cX9_feed) (maxL := 6) (ret := (some .int)) (by decide) rfl (Nat.le_of_ble_eq_true rfl) ?_
  intro p e s m args below meth c₀ ls X hI hl
  have hl : lv_has ls 6 [(0, .ref (ad 0)), (1, .int (iI a0)), (2, .int (iI a1)), (3, .int (iI a2)), (4, .int (iI a3)), (5, .int (iI a4))] := hl
  obtain ⟨hx, hb, hr, hml, hown, hts, hlocks, hK, hN⟩ := id X
  have hF := hI.2.2.2
  refine lv_aload_n hx hb dX9_feed_0 rfl (lv_at hl 0 rfl) ?_
  refine g_get (C := RX9) (T := TX9) (N := 11) (ci := 8) (v := .ref (ad 1)) hx hb hts in_X9_feed_X9 hown hK hI 0 (by decide) (cel_0 cy ad _) rfl 0 (by decide) (by decide +kernel) rfl dX9_feed_1 ?_
  refine lv_bipush (v := iI 20) hx hb dX9_feed_4 (iI_bip (by decide)) ?_
  refine g_V (As := [.int (iI 20)]) (rest := []) 1 (c_X8_hasRoom l D cy ad σ 20 (by omega)) hx hb hml hown hts hK hN hI hl.1 gX9_feed_X8_hasRoom rfl hd_X8_hasRoom rfl rfl ⟨Nat.le_of_ble_eq_true rfl, Nat.le_of_ble_eq_true rfl⟩ ⟨Nat.zero_le _, Nat.zero_le _⟩ (by decide) (cel_1 cy ad _) rfl rfl rfl rfl (Nat.le_of_ble_eq_true rfl) dX9_feed_6 (fun H locs hG_1 hI => ?_)
  refine g_if_ne (tgt := 14) hx hb dX9_feed_9 (by decide) (by omega) (fun c_2 => ?_) (fun c_2 => ?_)
  · skip
    refine lv_aload_n hx hb dX9_feed_14 rfl (lv_at hl 0 rfl) ?_
    refine g_get (C := RX9) (T := TX9) (N := 11) (ci := 8) (v := .ref (ad 1)) hx hb hts in_X9_feed_X9 hown hK hI 0 (by decide) (cel_0 cy ad _) rfl 0 (by decide) (by decide +kernel) rfl dX9_feed_15 ?_
    refine lv_iload_n hx hb dX9_feed_18 rfl (lv_at hl 1 rfl) ?_
    refine g_V (As := [.int (iI a0)]) (rest := []) 1 (c_X8_addNumber l D cy ad σ a0 (by omega)) hx hb hml hown hts hK hN hI hl.1 gX9_feed_X8_addNumber rfl hd_X8_addNumber rfl rfl ⟨Nat.le_of_ble_eq_true rfl, Nat.le_of_ble_eq_true rfl⟩ ⟨Nat.zero_le _, Nat.zero_le _⟩ (by decide) (cel_1 cy ad _) rfl rfl rfl rfl (Nat.le_of_ble_eq_true rfl) dX9_feed_19 (fun H locs hG_3 hI => ?_)
    have hF_4 := hI.2.2.2
    refine lv_aload_n hx hb dX9_feed_22 rfl (lv_at hl 0 rfl) ?_
    refine g_get (C := RX9) (T := TX9) (N := 11) (ci := 8) (v := .ref (ad 1)) hx hb hts in_X9_feed_X9 hown hK hI 0 (by decide) (cel_0 cy ad _) rfl 0 (by decide) (by decide +kernel) rfl dX9_feed_23 ?_
    refine lv_iload_n hx hb dX9_feed_26 rfl (lv_at hl 2 rfl) ?_
    refine g_V (As := [.int (iI a1)]) (rest := []) 1 (c_X8_addNumber l D cy ad (f_X8_addNumber σ a0) a1 (by omega)) hx hb hml hown hts hK hN hI hl.1 gX9_feed_X8_addNumber rfl hd_X8_addNumber rfl rfl ⟨Nat.le_of_ble_eq_true rfl, Nat.le_of_ble_eq_true rfl⟩ ⟨Nat.zero_le _, Nat.zero_le _⟩ (by decide) (cel_1 cy ad _) rfl rfl rfl rfl (Nat.le_of_ble_eq_true rfl) dX9_feed_27 (fun H locs hG_5 hI => ?_)
    have hF_6 := hI.2.2.2
    refine lv_aload_n hx hb dX9_feed_30 rfl (lv_at hl 0 rfl) ?_
    refine g_get (C := RX9) (T := TX9) (N := 11) (ci := 8) (v := .ref (ad 1)) hx hb hts in_X9_feed_X9 hown hK hI 0 (by decide) (cel_0 cy ad _) rfl 0 (by decide) (by decide +kernel) rfl dX9_feed_31 ?_
    refine lv_iload_n hx hb dX9_feed_34 rfl (lv_at hl 3 rfl) ?_
    refine g_V (As := [.int (iI a2)]) (rest := []) 1 (c_X8_addNumber l D cy ad (f_X8_addNumber (f_X8_addNumber σ a0) a1) a2 (by omega)) hx hb hml hown hts hK hN hI hl.1 gX9_feed_X8_addNumber rfl hd_X8_addNumber rfl rfl ⟨Nat.le_of_ble_eq_true rfl, Nat.le_of_ble_eq_true rfl⟩ ⟨Nat.zero_le _, Nat.zero_le _⟩ (by decide) (cel_1 cy ad _) rfl rfl rfl rfl (Nat.le_of_ble_eq_true rfl) dX9_feed_35 (fun H locs hG_7 hI => ?_)
    have hF_8 := hI.2.2.2
    refine lv_aload_n hx hb dX9_feed_38 rfl (lv_at hl 0 rfl) ?_
    refine g_get (C := RX9) (T := TX9) (N := 11) (ci := 8) (v := .ref (ad 1)) hx hb hts in_X9_feed_X9 hown hK hI 0 (by decide) (cel_0 cy ad _) rfl 0 (by decide) (by decide +kernel) rfl dX9_feed_39 ?_
    refine lv_iload hx hb dX9_feed_42 (lv_at hl 4 rfl) ?_
    refine g_V (As := [.int (iI a3)]) (rest := []) 1 (c_X8_addNumber l D cy ad (f_X8_addNumber (f_X8_addNumber (f_X8_addNumber σ a0) a1) a2) a3 (by omega)) hx hb hml hown hts hK hN hI hl.1 gX9_feed_X8_addNumber rfl hd_X8_addNumber rfl rfl ⟨Nat.le_of_ble_eq_true rfl, Nat.le_of_ble_eq_true rfl⟩ ⟨Nat.zero_le _, Nat.zero_le _⟩ (by decide) (cel_1 cy ad _) rfl rfl rfl rfl (Nat.le_of_ble_eq_true rfl) dX9_feed_44 (fun H locs hG_9 hI => ?_)
    have hF_10 := hI.2.2.2
    refine lv_aload_n hx hb dX9_feed_47 rfl (lv_at hl 0 rfl) ?_
    refine g_get (C := RX9) (T := TX9) (N := 11) (ci := 8) (v := .ref (ad 1)) hx hb hts in_X9_feed_X9 hown hK hI 0 (by decide) (cel_0 cy ad _) rfl 0 (by decide) (by decide +kernel) rfl dX9_feed_48 ?_
    refine lv_iload hx hb dX9_feed_51 (lv_at hl 5 rfl) ?_
    refine g_V (As := [.int (iI a4)]) (rest := []) 1 (c_X8_addNumber l D cy ad (f_X8_addNumber (f_X8_addNumber (f_X8_addNumber (f_X8_addNumber σ a0) a1) a2) a3) a4 (by omega)) hx hb hml hown hts hK hN hI hl.1 gX9_feed_X8_addNumber rfl hd_X8_addNumber rfl rfl ⟨Nat.le_of_ble_eq_true rfl, Nat.le_of_ble_eq_true rfl⟩ ⟨Nat.zero_le _, Nat.zero_le _⟩ (by decide) (cel_1 cy ad _) rfl rfl rfl rfl (Nat.le_of_ble_eq_true rfl) dX9_feed_53 (fun H locs hG_11 hI => ?_)
    have hF_12 := hI.2.2.2
    refine lv_aload_n hx hb dX9_feed_56 rfl (lv_at hl 0 rfl) ?_
    refine g_get (C := RX9) (T := TX9) (N := 11) (ci := 8) (v := .ref (ad 1)) hx hb hts in_X9_feed_X9 hown hK hI 0 (by decide) (cel_0 cy ad _) rfl 0 (by decide) (by decide +kernel) rfl dX9_feed_57 ?_
    refine g_V (As := []) (rest := []) 1 (c_X8_length l D cy ad (f_X8_addNumber (f_X8_addNumber (f_X8_addNumber (f_X8_addNumber (f_X8_addNumber σ a0) a1) a2) a3) a4) ) hx hb hml hown hts hK hN hI hl.1 gX9_feed_X8_length rfl hd_X8_length rfl rfl ⟨Nat.le_of_ble_eq_true rfl, Nat.le_of_ble_eq_true rfl⟩ ⟨Nat.zero_le _, Nat.zero_le _⟩ (by decide) (cel_1 cy ad _) rfl rfl rfl rfl (Nat.le_of_ble_eq_true rfl) dX9_feed_60 (fun H locs hG_13 hI => ?_)
    have e9 : f_X9_feed σ a0 a1 a2 a3 a4 = (f_X8_length (f_X8_addNumber (f_X8_addNumber (f_X8_addNumber (f_X8_addNumber (f_X8_addNumber σ a0) a1) a2) a3) a4), (f_X8_addNumber (f_X8_addNumber (f_X8_addNumber (f_X8_addNumber (f_X8_addNumber σ a0) a1) a2) a3) a4)) := by rw [f_X9_feed, if_neg c_2]
    exact g_iret (z := f_X8_length (f_X8_addNumber (f_X8_addNumber (f_X8_addNumber (f_X8_addNumber (f_X8_addNumber σ a0) a1) a2) a3) a4)) hx hb hr hK hN hlocks hI (by rw [e9]) (by rw [e9]) trivial dX9_feed_63
  · skip
    refine lv_iconst (v := iI (-1)) hx hb dX9_feed_12 rfl ?_
    have e9 : f_X9_feed σ a0 a1 a2 a3 a4 = ((-1), σ) := by rw [f_X9_feed, if_pos c_2]
    exact g_iret (z := (-1)) hx hb hr hK hN hlocks hI (by rw [e9]) (by rw [e9]) trivial dX9_feed_13
theorem in_X9_end_X9 : ∀ w ∈ u_ws RX9 TX9 11, w ∈ wsX9_end := by decide +kernel
def f_X9_end (σ : Sg) (a0 : Int) : Int × Sg := (if ((f_X8_cut σ a0).1) = 0 then ((-1), (f_X8_cut σ a0).2) else (a0, (f_X8_cut σ a0).2))
theorem hd_X9_end : yX9_end.cls = RX9 ∧ yX9_end.cls ≠ "java/lang/invoke/MethodHandle" ∧ yX9_end.cls ≠ "java/lang/invoke/VarHandle" ∧ (parseMethodDescriptor yX9_end.desc).map (fun d => d.parameters.length) = some 1 := by decide +kernel
set_option maxHeartbeats 4000000 in
set_option maxRecDepth 100000 in
theorem c_X9_end (l : Launch) (D : va_G) (cy : Nat → ClassId) (ad : Nat → Nat) (σ : Sg) (a0 : Int) (ha0 : (-2147483648 ≤ a0 ∧ a0 < 2147483648)) : CM l D cy ad yX9_end wsX9_end { frames := 1, cells := 0, slots := 0, locals := 40 } [.ref (ad 0), .int (iI a0)] σ (some (.int (iI ((f_X9_end σ a0).1)))) ((f_X9_end σ a0).2) (True) := by
  refine CM.of (cc := cX9_end) (maxL := 2) (ret := (some .int)) (by decide) rfl (Nat.le_of_ble_eq_true rfl) ?_
  intro p e s m args below meth c₀ ls X hI hl
  have hl : lv_has ls 2 [(0, .ref (ad 0)), (1, .int (iI a0))] := hl
  obtain ⟨hx, hb, hr, hml, hown, hts, hlocks, hK, hN⟩ := id X
  have hF := hI.2.2.2
  refine lv_aload_n hx hb dX9_end_0 rfl (lv_at hl 0 rfl) ?_
  refine g_get (C := RX9) (T := TX9) (N := 11) (ci := 8) (v := .ref (ad 1)) hx hb hts in_X9_end_X9 hown hK hI 0 (by decide) (cel_0 cy ad _) rfl 0 (by decide) (by decide +kernel) rfl dX9_end_1 ?_
  refine lv_iload_n hx hb dX9_end_4 rfl (lv_at hl 1 rfl) ?_
  refine g_V (As := [.int (iI a0)]) (rest := []) 1 (c_X8_cut l D cy ad σ a0 (by omega)) hx hb hml hown hts hK hN hI hl.1 gX9_end_X8_cut rfl hd_X8_cut rfl rfl ⟨Nat.le_of_ble_eq_true rfl, Nat.le_of_ble_eq_true rfl⟩ ⟨Nat.zero_le _, Nat.zero_le _⟩ (by decide) (cel_1 cy ad _) rfl rfl rfl rfl (Nat.le_of_ble_eq_true rfl) dX9_end_5 (fun H locs hG_1 hI => ?_)
  have hF_2 := hI.2.2.2
  refine g_if_eq (tgt := 15) hx hb dX9_end_8 (by decide) (by omega) (fun c_3 => ?_) (fun c_3 => ?_)
  · skip
    refine lv_iconst (v := iI (-1)) hx hb dX9_end_15 rfl ?_
    have e9 : f_X9_end σ a0 = ((-1), (f_X8_cut σ a0).2) := by rw [f_X9_end, if_pos c_3]
    exact g_iret (z := (-1)) hx hb hr hK hN hlocks hI (by rw [e9]) (by rw [e9]) trivial dX9_end_16
  · skip
    refine lv_iload_n hx hb dX9_end_11 rfl (lv_at hl 1 rfl) ?_
    refine lv_goto (tgt := 16) hx hb dX9_end_12 (by decide) ?_
    have e9 : f_X9_end σ a0 = (a0, (f_X8_cut σ a0).2) := by rw [f_X9_end, if_neg c_3]
    exact g_iret (z := a0) hx hb hr hK hN hlocks hI (by rw [e9]) (by rw [e9]) trivial dX9_end_16
theorem in_X9_file_X9 : ∀ w ∈ u_ws RX9 TX9 11, w ∈ wsX9_file := by decide +kernel
def f_X9_file (σ : Sg) (a0 : Int) : Int × Sg := (if ((f_X9_takePlace σ a0).1) = 0 then ((-1), (f_X9_takePlace σ a0).2) else (if (f_X7_isFull (f_X9_takePlace σ a0).2) = 0 then (if (f_X7_findAlike (f_X9_takePlace σ a0).2 57 (-1)) = (-1) then ((f_X7_add (f_X9_takePlace σ a0).2 57).1, (f_X7_add (f_X9_takePlace σ a0).2 57).2) else ((-2) - (f_X7_findAlike (f_X9_takePlace σ a0).2 57 (-1)), (f_X9_takePlace σ a0).2)) else ((-1), (f_X9_takePlace σ a0).2)))
theorem hd_X9_file : yX9_file.cls = RX9 ∧ yX9_file.cls ≠ "java/lang/invoke/MethodHandle" ∧ yX9_file.cls ≠ "java/lang/invoke/VarHandle" ∧ (parseMethodDescriptor yX9_file.desc).map (fun d => d.parameters.length) = some 1 := by decide +kernel
set_option maxHeartbeats 4000000 in
set_option maxRecDepth 100000 in
theorem c_X9_file (l : Launch) (D : va_G) (cy : Nat → ClassId) (ad : Nat → Nat) (σ : Sg) (a0 : Int) (ha0 : (-2147483648 ≤ a0 ∧ a0 < 2147483648)) (hA : σ 3 4 ≤ σ 3 3) : CM l D cy ad yX9_file wsX9_file { frames := 4, cells := 0, slots := 0, locals := 160 } [.ref (ad 0), .int (iI a0)] σ (some (.int (iI ((f_X9_file σ a0).1)))) ((f_X9_file σ a0).2) (True) := by
  refine CM.of (cc := cX9_file) (maxL := 3) (ret := (some .int)) (by decide) rfl (Nat.le_of_ble_eq_true rfl) ?_
  intro p e s m args below meth c₀ ls X hI hl
  have hl : lv_has ls 3 [(0, .ref (ad 0)), (1, .int (iI a0))] := hl
  obtain ⟨hx, hb, hr, hml, hown, hts, hlocks, hK, hN⟩ := id X
  have hF := hI.2.2.2
  refine lv_aload_n hx hb dX9_file_0 rfl (lv_at hl 0 rfl) ?_
  refine lv_iload_n hx hb dX9_file_1 rfl (lv_at hl 1 rfl) ?_
  refine g_V (As := [.int (iI a0)]) (rest := []) 0 (c_X9_takePlace l D cy ad σ a0 (by omega)) hx hb hml hown hts hK hN hI hl.1 gX9_file_X9_takePlace rfl hd_X9_takePlace rfl rfl ⟨Nat.le_of_ble_eq_true rfl, Nat.le_of_ble_eq_true rfl⟩ ⟨Nat.zero_le _, Nat.zero_le _⟩ (by decide) (cel_0 cy ad _) rfl rfl rfl rfl (Nat.le_of_ble_eq_true rfl) dX9_file_2 (fun H locs hG_1 hI => ?_)
  have hF_2 := hI.2.2.2
  have q9 : (f_X9_takePlace σ a0).2 3 = σ 3 := takePlace_fr _ _ (by decide) (by decide) (by decide)
  have q8 := congrFun q9 3
  have q7 := congrFun q9 4
  refine g_if_eq (tgt := 18) hx hb dX9_file_5 (by decide) (by omega) (fun c_3 => ?_) (fun c_3 => ?_)
  · skip
    refine lv_iconst (v := iI (-1)) hx hb dX9_file_18 rfl ?_
    have e9 : f_X9_file σ a0 = ((-1), (f_X9_takePlace σ a0).2) := by rw [f_X9_file, if_pos c_3]
    exact g_iret (z := (-1)) hx hb hr hK hN hlocks hI (by rw [e9]) (by rw [e9]) trivial dX9_file_19
  · skip
    refine lv_aload_n hx hb dX9_file_8 rfl (lv_at hl 0 rfl) ?_
    refine g_get (C := RX9) (T := TX9) (N := 11) (ci := 8) (v := .ref (ad 3)) hx hb hts in_X9_file_X9 hown hK hI 0 (by decide) (cel_0 cy ad _) rfl 2 (by decide) (by decide +kernel) rfl dX9_file_9 ?_
    refine g_V (As := []) (rest := []) 3 (c_X7_isFull l D cy ad (f_X9_takePlace σ a0).2 ) hx hb hml hown hts hK hN hI hl.1 gX9_file_X7_isFull rfl hd_X7_isFull rfl rfl ⟨Nat.le_of_ble_eq_true rfl, Nat.le_of_ble_eq_true rfl⟩ ⟨Nat.zero_le _, Nat.zero_le _⟩ (by decide) (cel_3 cy ad _) rfl rfl rfl rfl (Nat.le_of_ble_eq_true rfl) dX9_file_12 (fun H locs hG_4 hI => ?_)
    refine g_if_eq (tgt := 20) hx hb dX9_file_15 (by decide) (by omega) (fun c_5 => ?_) (fun c_5 => ?_)
    · skip
      refine lv_aload_n hx hb dX9_file_20 rfl (lv_at hl 0 rfl) ?_
      refine g_get (C := RX9) (T := TX9) (N := 11) (ci := 8) (v := .ref (ad 3)) hx hb hts in_X9_file_X9 hown hK hI 0 (by decide) (cel_0 cy ad _) rfl 2 (by decide) (by decide +kernel) rfl dX9_file_21 ?_
      refine lv_aload_n hx hb dX9_file_24 rfl (lv_at hl 0 rfl) ?_
      refine g_get (C := RX9) (T := TX9) (N := 11) (ci := 8) (v := .ref (ad 57)) hx hb hts in_X9_file_X9 hown hK hI 0 (by decide) (cel_0 cy ad _) rfl 1 (by decide) (by decide +kernel) rfl dX9_file_25 ?_
      refine lv_iconst (v := iI (-1)) hx hb dX9_file_28 rfl ?_
      refine g_V (As := [.ref (ad 57), .int (iI (-1))]) (rest := []) 3 (c_X7_findAlike l D cy ad (f_X9_takePlace σ a0).2 57 (by omega : isPl 57) (-1) (by omega)) hx hb hml hown hts hK hN hI hl.1 gX9_file_X7_findAlike rfl hd_X7_findAlike rfl rfl ⟨Nat.le_of_ble_eq_true rfl, Nat.le_of_ble_eq_true rfl⟩ ⟨Nat.zero_le _, Nat.zero_le _⟩ (by decide) (cel_3 cy ad _) rfl rfl rfl rfl (Nat.le_of_ble_eq_true rfl) dX9_file_29 (fun H locs hG_6 hI => ?_)
      refine lv_istore_n (lv' := [(2, .int (iI (f_X7_findAlike (f_X9_takePlace σ a0).2 57 (-1)))), (0, .ref (ad 0)), (1, .int (iI a0))]) hx hb dX9_file_32 rfl hl (by decide) rfl (fun ls hl => ?_)
      refine lv_iload_n hx hb dX9_file_33 rfl (lv_at hl 0 rfl) ?_
      refine lv_iconst (v := iI (-1)) hx hb dX9_file_34 rfl ?_
      refine g_icmp_ne (tgt := 52) hx hb dX9_file_35 (by decide) (by omega) (by omega) (fun c_7 => ?_) (fun c_7 => ?_)
      · skip
        refine lv_bipush (v := iI (-2)) hx hb dX9_file_52 (iI_bip (by decide)) ?_
        refine lv_iload_n hx hb dX9_file_54 rfl (lv_at hl 0 rfl) ?_
        refine g_isub hx hb dX9_file_55 ?_
        have e9 : f_X9_file σ a0 = ((-2) - (f_X7_findAlike (f_X9_takePlace σ a0).2 57 (-1)), (f_X9_takePlace σ a0).2) := by rw [f_X9_file, if_neg c_3, if_pos c_5, if_neg c_7]
        exact g_iret (z := (-2) - (f_X7_findAlike (f_X9_takePlace σ a0).2 57 (-1))) hx hb hr hK hN hlocks hI (by rw [e9]) (by rw [e9]) trivial dX9_file_56
      · skip
        refine lv_aload_n hx hb dX9_file_38 rfl (lv_at hl 1 rfl) ?_
        refine g_get (C := RX9) (T := TX9) (N := 11) (ci := 8) (v := .ref (ad 3)) hx hb hts in_X9_file_X9 hown hK hI 0 (by decide) (cel_0 cy ad _) rfl 2 (by decide) (by decide +kernel) rfl dX9_file_39 ?_
        refine lv_aload_n hx hb dX9_file_42 rfl (lv_at hl 1 rfl) ?_
        refine g_get (C := RX9) (T := TX9) (N := 11) (ci := 8) (v := .ref (ad 57)) hx hb hts in_X9_file_X9 hown hK hI 0 (by decide) (cel_0 cy ad _) rfl 1 (by decide) (by decide +kernel) rfl dX9_file_43 ?_
        refine g_V (As := [.ref (ad 57)]) (rest := []) 3 (c_X7_add l D cy ad (f_X9_takePlace σ a0).2 57 (by omega : isPl 57) (by omega) (by omega)) hx hb hml hown hts hK hN hI hl.1 gX9_file_X7_add rfl hd_X7_add rfl rfl ⟨Nat.le_of_ble_eq_true rfl, Nat.le_of_ble_eq_true rfl⟩ ⟨Nat.zero_le _, Nat.zero_le _⟩ (by decide) (cel_3 cy ad _) rfl rfl rfl rfl (Nat.le_of_ble_eq_true rfl) dX9_file_46 (fun H locs hG_8 hI => ?_)
        have hF_9 := hI.2.2.2
        refine lv_goto (tgt := 56) hx hb dX9_file_49 (by decide) ?_
        have e9 : f_X9_file σ a0 = ((f_X7_add (f_X9_takePlace σ a0).2 57).1, (f_X7_add (f_X9_takePlace σ a0).2 57).2) := by rw [f_X9_file, if_neg c_3, if_pos c_5, if_pos c_7]
        exact g_iret (z := (f_X7_add (f_X9_takePlace σ a0).2 57).1) hx hb hr hK hN hlocks hI (by rw [e9]) (by rw [e9]) trivial dX9_file_56
    · skip
      refine lv_iconst (v := iI (-1)) hx hb dX9_file_18 rfl ?_
      have e9 : f_X9_file σ a0 = ((-1), (f_X9_takePlace σ a0).2) := by rw [f_X9_file, if_neg c_3, if_neg c_5]
      exact g_iret (z := (-1)) hx hb hr hK hN hlocks hI (by rw [e9]) (by rw [e9]) trivial dX9_file_19
theorem in_X9_remove_X9 : ∀ w ∈ u_ws RX9 TX9 11, w ∈ wsX9_remove := by decide +kernel
def f_X9_remove (σ : Sg) (a0 : Int) : Int × Sg := (if (f_X7_has σ a0) = 0 then (0, σ) else (1, (f_X7_drop σ a0)))
theorem hd_X9_remove : yX9_remove.cls = RX9 ∧ yX9_remove.cls ≠ "java/lang/invoke/MethodHandle" ∧ yX9_remove.cls ≠ "java/lang/invoke/VarHandle" ∧ (parseMethodDescriptor yX9_remove.desc).map (fun d => d.parameters.length) = some 1 := by decide +kernel
set_option maxHeartbeats 4000000 in
set_option maxRecDepth 100000 in
theorem c_X9_remove (l : Launch) (D : va_G) (cy : Nat → ClassId) (ad : Nat → Nat) (σ : Sg) (a0 : Int) (ha0 : (-2147483648 ≤ a0 ∧ a0 < 2147483648)) (hA : f_X7_has σ a0 = 0 ∨ 1 ≤ σ 3 4) : CM l D cy ad yX9_remove wsX9_remove { frames := 1, cells := 0, slots := 0, locals := 40 } [.ref (ad 0), .int (iI a0)] σ (some (.int (iI ((f_X9_remove σ a0).1)))) ((f_X9_remove σ a0).2) ((0 ≤ (f_X9_remove σ a0).1 ∧ (f_X9_remove σ a0).1 ≤ 1)) := by
  refine CM.of (cc := cX9_remove) (maxL := 2) (ret := (some .boolean)) (by decide) rfl (Nat.le_of_ble_eq_true rfl) ?_
  intro p e s m args below meth c₀ ls X hI hl
  have hl : lv_has ls 2 [(0, .ref (ad 0)), (1, .int (iI a0))] := hl
  obtain ⟨hx, hb, hr, hml, hown, hts, hlocks, hK, hN⟩ := id X
  have hF := hI.2.2.2
  refine lv_aload_n hx hb dX9_remove_0 rfl (lv_at hl 0 rfl) ?_
  refine g_get (C := RX9) (T := TX9) (N := 11) (ci := 8) (v := .ref (ad 3)) hx hb hts in_X9_remove_X9 hown hK hI 0 (by decide) (cel_0 cy ad _) rfl 2 (by decide) (by decide +kernel) rfl dX9_remove_1 ?_
  refine lv_iload_n hx hb dX9_remove_4 rfl (lv_at hl 1 rfl) ?_
  refine g_V (As := [.int (iI a0)]) (rest := []) 3 (c_X7_has l D cy ad σ a0 (by omega)) hx hb hml hown hts hK hN hI hl.1 gX9_remove_X7_has rfl hd_X7_has rfl rfl ⟨Nat.le_of_ble_eq_true rfl, Nat.le_of_ble_eq_true rfl⟩ ⟨Nat.zero_le _, Nat.zero_le _⟩ (by decide) (cel_3 cy ad _) rfl rfl rfl rfl (Nat.le_of_ble_eq_true rfl) dX9_remove_5 (fun H locs hG_1 hI => ?_)
  refine g_if_ne (tgt := 13) hx hb dX9_remove_8 (by decide) (by omega) (fun c_2 => ?_) (fun c_2 => ?_)
  · skip
    refine lv_aload_n hx hb dX9_remove_13 rfl (lv_at hl 0 rfl) ?_
    refine g_get (C := RX9) (T := TX9) (N := 11) (ci := 8) (v := .ref (ad 3)) hx hb hts in_X9_remove_X9 hown hK hI 0 (by decide) (cel_0 cy ad _) rfl 2 (by decide) (by decide +kernel) rfl dX9_remove_14 ?_
    refine lv_iload_n hx hb dX9_remove_17 rfl (lv_at hl 1 rfl) ?_
    refine g_V (As := [.int (iI a0)]) (rest := []) 3 (c_X7_drop l D cy ad σ a0 (by omega) (by omega)) hx hb hml hown hts hK hN hI hl.1 gX9_remove_X7_drop rfl hd_X7_drop rfl rfl ⟨Nat.le_of_ble_eq_true rfl, Nat.le_of_ble_eq_true rfl⟩ ⟨Nat.zero_le _, Nat.zero_le _⟩ (by decide) (cel_3 cy ad _) rfl rfl rfl rfl (Nat.le_of_ble_eq_true rfl) dX9_remove_18 (fun H locs hG_3 hI => ?_)
    have hF_4 := hI.2.2.2
    refine lv_iconst (v := iI 1) hx hb dX9_remove_21 rfl ?_
    have e9 : f_X9_remove σ a0 = (1, (f_X7_drop σ a0)) := by rw [f_X9_remove, if_neg c_2]
    exact g_zret (z := 1) hx hb hr hK hN hlocks hI (by rw [e9]) (by rw [e9]) (by rw [e9] <;> first | (omega) | (dsimp only; omega)) (by omega) dX9_remove_22
  · skip
    refine lv_iconst (v := iI 0) hx hb dX9_remove_11 rfl ?_
    have e9 : f_X9_remove σ a0 = (0, σ) := by rw [f_X9_remove, if_pos c_2]
    exact g_zret (z := 0) hx hb hr hK hN hlocks hI (by rw [e9]) (by rw [e9]) (by rw [e9] <;> first | (omega) | (dsimp only; omega)) (by omega) dX9_remove_12
theorem in_X9_hand_X9 : ∀ w ∈ u_ws RX9 TX9 11, w ∈ wsX9_hand := by decide +kernel
def f_X9_hand (σ : Sg) (a0 : Int) (a1 : Int) : Int × Sg := (if ((f_X9_takePlace σ a1).1) = 0 then ((-1), (f_X9_takePlace σ a1).2) else (if (f_X7_has (f_X9_takePlace σ a1).2 a0) = 0 then ((-1), (f_X9_takePlace σ a1).2) else (if (f_X7_findAlike (f_X9_takePlace σ a1).2 57 a0) = (-1) then (0, (f_X9_move (f_X9_takePlace σ a1).2 a0 57)) else ((-2) - (f_X7_findAlike (f_X9_takePlace σ a1).2 57 a0), (f_X9_takePlace σ a1).2))))
theorem hd_X9_hand : yX9_hand.cls = RX9 ∧ yX9_hand.cls ≠ "java/lang/invoke/MethodHandle" ∧ yX9_hand.cls ≠ "java/lang/invoke/VarHandle" ∧ (parseMethodDescriptor yX9_hand.desc).map (fun d => d.parameters.length) = some 2 := by decide +kernel
set_option maxHeartbeats 4000000 in
set_option maxRecDepth 100000 in
theorem c_X9_hand (l : Launch) (D : va_G) (cy : Nat → ClassId) (ad : Nat → Nat) (σ : Sg) (a0 : Int) (ha0 : (-2147483648 ≤ a0 ∧ a0 < 2147483648)) (a1 : Int) (ha1 : (-2147483648 ≤ a1 ∧ a1 < 2147483648)) : CM l D cy ad yX9_hand wsX9_hand { frames := 5, cells := 0, slots := 0, locals := 200 } [.ref (ad 0), .int (iI a0), .int (iI a1)] σ (some (.int (iI ((f_X9_hand σ a0 a1).1)))) ((f_X9_hand σ a0 a1).2) (True) := by
  refine CM.of (cc := cX9_hand) (maxL := 4) (ret := (some .int)) (by decide) rfl (Nat.le_of_ble_eq_true rfl) ?_
  intro p e s m args below meth c₀ ls X hI hl
  have hl : lv_has ls 4 [(0, .ref (ad 0)), (1, .int (iI a0)), (2, .int (iI a1))] := hl
  obtain ⟨hx, hb, hr, hml, hown, hts, hlocks, hK, hN⟩ := id X
  have hF := hI.2.2.2
  refine lv_aload_n hx hb dX9_hand_0 rfl (lv_at hl 0 rfl) ?_
  refine lv_iload_n hx hb dX9_hand_1 rfl (lv_at hl 2 rfl) ?_
  refine g_V (As := [.int (iI a1)]) (rest := []) 0 (c_X9_takePlace l D cy ad σ a1 (by omega)) hx hb hml hown hts hK hN hI hl.1 gX9_hand_X9_takePlace rfl hd_X9_takePlace rfl rfl ⟨Nat.le_of_ble_eq_true rfl, Nat.le_of_ble_eq_true rfl⟩ ⟨Nat.zero_le _, Nat.zero_le _⟩ (by decide) (cel_0 cy ad _) rfl rfl rfl rfl (Nat.le_of_ble_eq_true rfl) dX9_hand_2 (fun H locs hG_1 hI => ?_)
  have hF_2 := hI.2.2.2
  refine g_if_eq (tgt := 19) hx hb dX9_hand_5 (by decide) (by omega) (fun c_3 => ?_) (fun c_3 => ?_)
  · skip
    refine lv_iconst (v := iI (-1)) hx hb dX9_hand_19 rfl ?_
    have e9 : f_X9_hand σ a0 a1 = ((-1), (f_X9_takePlace σ a1).2) := by rw [f_X9_hand, if_pos c_3]
    exact g_iret (z := (-1)) hx hb hr hK hN hlocks hI (by rw [e9]) (by rw [e9]) trivial dX9_hand_20
  · skip
    refine lv_aload_n hx hb dX9_hand_8 rfl (lv_at hl 0 rfl) ?_
    refine g_get (C := RX9) (T := TX9) (N := 11) (ci := 8) (v := .ref (ad 3)) hx hb hts in_X9_hand_X9 hown hK hI 0 (by decide) (cel_0 cy ad _) rfl 2 (by decide) (by decide +kernel) rfl dX9_hand_9 ?_
    refine lv_iload_n hx hb dX9_hand_12 rfl (lv_at hl 1 rfl) ?_
    refine g_V (As := [.int (iI a0)]) (rest := []) 3 (c_X7_has l D cy ad (f_X9_takePlace σ a1).2 a0 (by omega)) hx hb hml hown hts hK hN hI hl.1 gX9_hand_X7_has rfl hd_X7_has rfl rfl ⟨Nat.le_of_ble_eq_true rfl, Nat.le_of_ble_eq_true rfl⟩ ⟨Nat.zero_le _, Nat.zero_le _⟩ (by decide) (cel_3 cy ad _) rfl rfl rfl rfl (Nat.le_of_ble_eq_true rfl) dX9_hand_13 (fun H locs hG_4 hI => ?_)
    refine g_if_ne (tgt := 21) hx hb dX9_hand_16 (by decide) (by omega) (fun c_5 => ?_) (fun c_5 => ?_)
    · skip
      refine lv_aload_n hx hb dX9_hand_21 rfl (lv_at hl 0 rfl) ?_
      refine g_get (C := RX9) (T := TX9) (N := 11) (ci := 8) (v := .ref (ad 3)) hx hb hts in_X9_hand_X9 hown hK hI 0 (by decide) (cel_0 cy ad _) rfl 2 (by decide) (by decide +kernel) rfl dX9_hand_22 ?_
      refine lv_aload_n hx hb dX9_hand_25 rfl (lv_at hl 0 rfl) ?_
      refine g_get (C := RX9) (T := TX9) (N := 11) (ci := 8) (v := .ref (ad 57)) hx hb hts in_X9_hand_X9 hown hK hI 0 (by decide) (cel_0 cy ad _) rfl 1 (by decide) (by decide +kernel) rfl dX9_hand_26 ?_
      refine lv_iload_n hx hb dX9_hand_29 rfl (lv_at hl 1 rfl) ?_
      refine g_V (As := [.ref (ad 57), .int (iI a0)]) (rest := []) 3 (c_X7_findAlike l D cy ad (f_X9_takePlace σ a1).2 57 (by omega : isPl 57) a0 (by omega)) hx hb hml hown hts hK hN hI hl.1 gX9_hand_X7_findAlike rfl hd_X7_findAlike rfl rfl ⟨Nat.le_of_ble_eq_true rfl, Nat.le_of_ble_eq_true rfl⟩ ⟨Nat.zero_le _, Nat.zero_le _⟩ (by decide) (cel_3 cy ad _) rfl rfl rfl rfl (Nat.le_of_ble_eq_true rfl) dX9_hand_30 (fun H locs hG_6 hI => ?_)
      refine lv_istore_n (lv' := [(3, .int (iI (f_X7_findAlike (f_X9_takePlace σ a1).2 57 a0))), (0, .ref (ad 0)), (1, .int (iI a0)), (2, .int (iI a1))]) hx hb dX9_hand_33 rfl hl (by decide) rfl (fun ls hl => ?_)
      refine lv_iload_n hx hb dX9_hand_34 rfl (lv_at hl 0 rfl) ?_
      refine lv_iconst (v := iI (-1)) hx hb dX9_hand_35 rfl ?_
      refine g_icmp_eq (tgt := 44) hx hb dX9_hand_36 (by decide) (by omega) (by omega) (fun c_7 => ?_) (fun c_7 => ?_)
      · skip
        refine lv_aload_n hx hb dX9_hand_44 rfl (lv_at hl 1 rfl) ?_
        refine lv_iload_n hx hb dX9_hand_45 rfl (lv_at hl 2 rfl) ?_
        refine lv_aload_n hx hb dX9_hand_46 rfl (lv_at hl 1 rfl) ?_
        refine g_get (C := RX9) (T := TX9) (N := 11) (ci := 8) (v := .ref (ad 57)) hx hb hts in_X9_hand_X9 hown hK hI 0 (by decide) (cel_0 cy ad _) rfl 1 (by decide) (by decide +kernel) rfl dX9_hand_47 ?_
        refine g_V (As := [.int (iI a0), .ref (ad 57)]) (rest := []) 0 (c_X9_move l D cy ad (f_X9_takePlace σ a1).2 a0 (by omega) 57 (by omega : isPl 57)) hx hb hml hown hts hK hN hI hl.1 gX9_hand_X9_move rfl hd_X9_move rfl rfl ⟨Nat.le_of_ble_eq_true rfl, Nat.le_of_ble_eq_true rfl⟩ ⟨Nat.zero_le _, Nat.zero_le _⟩ (by decide) (cel_0 cy ad _) rfl rfl rfl rfl (Nat.le_of_ble_eq_true rfl) dX9_hand_50 (fun H locs hG_8 hI => ?_)
        have hF_9 := hI.2.2.2
        refine lv_iconst (v := iI 0) hx hb dX9_hand_53 rfl ?_
        have e9 : f_X9_hand σ a0 a1 = (0, (f_X9_move (f_X9_takePlace σ a1).2 a0 57)) := by rw [f_X9_hand, if_neg c_3, if_neg c_5, if_pos c_7]
        exact g_iret (z := 0) hx hb hr hK hN hlocks hI (by rw [e9]) (by rw [e9]) trivial dX9_hand_54
      · skip
        refine lv_bipush (v := iI (-2)) hx hb dX9_hand_39 (iI_bip (by decide)) ?_
        refine lv_iload_n hx hb dX9_hand_41 rfl (lv_at hl 0 rfl) ?_
        refine g_isub hx hb dX9_hand_42 ?_
        have e9 : f_X9_hand σ a0 a1 = ((-2) - (f_X7_findAlike (f_X9_takePlace σ a1).2 57 a0), (f_X9_takePlace σ a1).2) := by rw [f_X9_hand, if_neg c_3, if_neg c_5, if_neg c_7]
        exact g_iret (z := (-2) - (f_X7_findAlike (f_X9_takePlace σ a1).2 57 a0)) hx hb hr hK hN hlocks hI (by rw [e9]) (by rw [e9]) trivial dX9_hand_43
    · skip
      refine lv_iconst (v := iI (-1)) hx hb dX9_hand_19 rfl ?_
      have e9 : f_X9_hand σ a0 a1 = ((-1), (f_X9_takePlace σ a1).2) := by rw [f_X9_hand, if_neg c_3, if_pos c_5]
      exact g_iret (z := (-1)) hx hb hr hK hN hlocks hI (by rw [e9]) (by rw [e9]) trivial dX9_hand_20
theorem in_X9_at_X9 : ∀ w ∈ u_ws RX9 TX9 11, w ∈ wsX9_at := by decide +kernel
def f_X9_at (σ : Sg) (a0 : Int) : Int × Sg := (if ((f_X9_takePlace σ a0).1) = 0 then ((-1), (f_X9_takePlace σ a0).2) else (f_X7_findAlike (f_X9_takePlace σ a0).2 57 (-1), (f_X9_takePlace σ a0).2))
theorem hd_X9_at : yX9_at.cls = RX9 ∧ yX9_at.cls ≠ "java/lang/invoke/MethodHandle" ∧ yX9_at.cls ≠ "java/lang/invoke/VarHandle" ∧ (parseMethodDescriptor yX9_at.desc).map (fun d => d.parameters.length) = some 1 := by decide +kernel
set_option maxHeartbeats 4000000 in
set_option maxRecDepth 100000 in
theorem c_X9_at (l : Launch) (D : va_G) (cy : Nat → ClassId) (ad : Nat → Nat) (σ : Sg) (a0 : Int) (ha0 : (-2147483648 ≤ a0 ∧ a0 < 2147483648)) : CM l D cy ad yX9_at wsX9_at { frames := 4, cells := 0, slots := 0, locals := 160 } [.ref (ad 0), .int (iI a0)] σ (some (.int (iI ((f_X9_at σ a0).1)))) ((f_X9_at σ a0).2) (True) := by
  refine CM.of (cc := cX9_at) (maxL := 2) (ret := (some .int)) (by decide) rfl (Nat.le_of_ble_eq_true rfl) ?_
  intro p e s m args below meth c₀ ls X hI hl
  have hl : lv_has ls 2 [(0, .ref (ad 0)), (1, .int (iI a0))] := hl
  obtain ⟨hx, hb, hr, hml, hown, hts, hlocks, hK, hN⟩ := id X
  have hF := hI.2.2.2
  refine lv_aload_n hx hb dX9_at_0 rfl (lv_at hl 0 rfl) ?_
  refine lv_iload_n hx hb dX9_at_1 rfl (lv_at hl 1 rfl) ?_
  refine g_V (As := [.int (iI a0)]) (rest := []) 0 (c_X9_takePlace l D cy ad σ a0 (by omega)) hx hb hml hown hts hK hN hI hl.1 gX9_at_X9_takePlace rfl hd_X9_takePlace rfl rfl ⟨Nat.le_of_ble_eq_true rfl, Nat.le_of_ble_eq_true rfl⟩ ⟨Nat.zero_le _, Nat.zero_le _⟩ (by decide) (cel_0 cy ad _) rfl rfl rfl rfl (Nat.le_of_ble_eq_true rfl) dX9_at_2 (fun H locs hG_1 hI => ?_)
  have hF_2 := hI.2.2.2
  refine g_if_eq (tgt := 23) hx hb dX9_at_5 (by decide) (by omega) (fun c_3 => ?_) (fun c_3 => ?_)
  · skip
    refine lv_iconst (v := iI (-1)) hx hb dX9_at_23 rfl ?_
    have e9 : f_X9_at σ a0 = ((-1), (f_X9_takePlace σ a0).2) := by rw [f_X9_at, if_pos c_3]
    exact g_iret (z := (-1)) hx hb hr hK hN hlocks hI (by rw [e9]) (by rw [e9]) trivial dX9_at_24
  · skip
    refine lv_aload_n hx hb dX9_at_8 rfl (lv_at hl 0 rfl) ?_
    refine g_get (C := RX9) (T := TX9) (N := 11) (ci := 8) (v := .ref (ad 3)) hx hb hts in_X9_at_X9 hown hK hI 0 (by decide) (cel_0 cy ad _) rfl 2 (by decide) (by decide +kernel) rfl dX9_at_9 ?_
    refine lv_aload_n hx hb dX9_at_12 rfl (lv_at hl 0 rfl) ?_
    refine g_get (C := RX9) (T := TX9) (N := 11) (ci := 8) (v := .ref (ad 57)) hx hb hts in_X9_at_X9 hown hK hI 0 (by decide) (cel_0 cy ad _) rfl 1 (by decide) (by decide +kernel) rfl dX9_at_13 ?_
    refine lv_iconst (v := iI (-1)) hx hb dX9_at_16 rfl ?_
    refine g_V (As := [.ref (ad 57), .int (iI (-1))]) (rest := []) 3 (c_X7_findAlike l D cy ad (f_X9_takePlace σ a0).2 57 (by omega : isPl 57) (-1) (by omega)) hx hb hml hown hts hK hN hI hl.1 gX9_at_X7_findAlike rfl hd_X7_findAlike rfl rfl ⟨Nat.le_of_ble_eq_true rfl, Nat.le_of_ble_eq_true rfl⟩ ⟨Nat.zero_le _, Nat.zero_le _⟩ (by decide) (cel_3 cy ad _) rfl rfl rfl rfl (Nat.le_of_ble_eq_true rfl) dX9_at_17 (fun H locs hG_4 hI => ?_)
    refine lv_goto (tgt := 24) hx hb dX9_at_20 (by decide) ?_
    have e9 : f_X9_at σ a0 = (f_X7_findAlike (f_X9_takePlace σ a0).2 57 (-1), (f_X9_takePlace σ a0).2) := by rw [f_X9_at, if_neg c_3]
    exact g_iret (z := f_X7_findAlike (f_X9_takePlace σ a0).2 57 (-1)) hx hb hr hK hN hlocks hI (by rw [e9]) (by rw [e9]) trivial dX9_at_24
theorem in_X9_rule_X9 : ∀ w ∈ u_ws RX9 TX9 11, w ∈ wsX9_rule := by decide +kernel
def f_X9_rule (σ : Sg) : Int × Sg := (if ((f_X5_read σ (rc (σ 0 7))).1) = 0 then (f_X5_itemCount (up2 (up2 (up2 (up2 (f_X8_clear (f_X5_read σ (rc (σ 0 7))).2) 0 9 (f_X5_placeOfFault (f_X8_clear (f_X5_read σ (rc (σ 0 7))).2) (rc ((f_X8_clear (f_X5_read σ (rc (σ 0 7))).2) 0 7)))) 0 6 ((f_X8_clear (f_X5_read σ (rc (σ 0 7))).2) 0 7)) 0 7 ((f_X8_clear (f_X5_read σ (rc (σ 0 7))).2) 0 6)) 0 8 1) (rc ((f_X8_clear (f_X5_read σ (rc (σ 0 7))).2) 0 7)), (up2 (up2 (up2 (up2 (f_X8_clear (f_X5_read σ (rc (σ 0 7))).2) 0 9 (f_X5_placeOfFault (f_X8_clear (f_X5_read σ (rc (σ 0 7))).2) (rc ((f_X8_clear (f_X5_read σ (rc (σ 0 7))).2) 0 7)))) 0 6 ((f_X8_clear (f_X5_read σ (rc (σ 0 7))).2) 0 7)) 0 7 ((f_X8_clear (f_X5_read σ (rc (σ 0 7))).2) 0 6)) 0 8 1)) else ((-1) - ((f_X5_read σ (rc (σ 0 7))).1), (up2 (f_X8_clear (f_X5_read σ (rc (σ 0 7))).2) 0 9 (f_X5_placeOfFault (f_X8_clear (f_X5_read σ (rc (σ 0 7))).2) (rc ((f_X8_clear (f_X5_read σ (rc (σ 0 7))).2) 0 7))))))
theorem hd_X9_rule : yX9_rule.cls = RX9 ∧ yX9_rule.cls ≠ "java/lang/invoke/MethodHandle" ∧ yX9_rule.cls ≠ "java/lang/invoke/VarHandle" ∧ (parseMethodDescriptor yX9_rule.desc).map (fun d => d.parameters.length) = some 0 := by decide +kernel
set_option maxHeartbeats 4000000 in
set_option maxRecDepth 100000 in
theorem c_X9_rule (l : Launch) (D : va_G) (cy : Nat → ClassId) (ad : Nat → Nat) (σ : Sg) : CM l D cy ad yX9_rule wsX9_rule { frames := 4, cells := 0, slots := 0, locals := 160 } [.ref (ad 0)] σ (some (.int (iI ((f_X9_rule σ).1)))) ((f_X9_rule σ).2) (True) := by
  refine CM.of (cc := cX9_rule) (maxL := 3) (ret := (some .int)) (by decide) rfl (Nat.le_of_ble_eq_true rfl) ?_
  intro p e s m args below meth c₀ ls X hI hl
  have hl : lv_has ls 3 [(0, .ref (ad 0))] := hl
  obtain ⟨hx, hb, hr, hml, hown, hts, hlocks, hK, hN⟩ := id X
  have hF := hI.2.2.2
  refine lv_aload_n hx hb dX9_rule_0 rfl (lv_at hl 0 rfl) ?_
  refine g_get (C := RX9) (T := TX9) (N := 11) (ci := 8) (v := .ref (ad (rc (σ 0 7)))) hx hb hts in_X9_rule_X9 hown hK hI 0 (by decide) (cel_0 cy ad _) rfl 7 (by decide) (by decide +kernel) rfl dX9_rule_1 ?_
  refine lv_aload_n hx hb dX9_rule_4 rfl (lv_at hl 0 rfl) ?_
  refine g_get (C := RX9) (T := TX9) (N := 11) (ci := 8) (v := .ref (ad 1)) hx hb hts in_X9_rule_X9 hown hK hI 0 (by decide) (cel_0 cy ad _) rfl 0 (by decide) (by decide +kernel) rfl dX9_rule_5 ?_
  refine g_V (As := [.ref (ad 1)]) (rest := []) (rc (σ 0 7)) (c_X5_read l D cy ad σ (rc (σ 0 7)) (rc_ru _)) hx hb hml hown hts hK hN hI hl.1 gX9_rule_X5_read rfl hd_X5_read rfl rfl ⟨Nat.le_of_ble_eq_true rfl, Nat.le_of_ble_eq_true rfl⟩ ⟨Nat.zero_le _, Nat.zero_le _⟩ (by rcases (rc_ru _) with q | q <;> rw [q] <;> decide) (cel_Ru cy ad (rc_ru _) _) rfl rfl rfl rfl (Nat.le_of_ble_eq_true rfl) dX9_rule_8 (fun H locs hG_1 hI => ?_)
  have hF_2 := hI.2.2.2
  refine lv_istore_n (lv' := [(1, .int (iI ((f_X5_read σ (rc (σ 0 7))).1))), (0, .ref (ad 0))]) hx hb dX9_rule_11 rfl hl (by decide) rfl (fun ls hl => ?_)
  refine lv_aload_n hx hb dX9_rule_12 rfl (lv_at hl 1 rfl) ?_
  refine g_get (C := RX9) (T := TX9) (N := 11) (ci := 8) (v := .ref (ad 1)) hx hb hts in_X9_rule_X9 hown hK hI 0 (by decide) (cel_0 cy ad _) rfl 0 (by decide) (by decide +kernel) rfl dX9_rule_13 ?_
  refine g_V (As := []) (rest := []) 1 (c_X8_clear l D cy ad (f_X5_read σ (rc (σ 0 7))).2 ) hx hb hml hown hts hK hN hI hl.1 gX9_rule_X8_clear rfl hd_X8_clear rfl rfl ⟨Nat.le_of_ble_eq_true rfl, Nat.le_of_ble_eq_true rfl⟩ ⟨Nat.zero_le _, Nat.zero_le _⟩ (by decide) (cel_1 cy ad _) rfl rfl rfl rfl (Nat.le_of_ble_eq_true rfl) dX9_rule_16 (fun H locs hG_3 hI => ?_)
  have hF_4 := hI.2.2.2
  refine lv_aload_n hx hb dX9_rule_19 rfl (lv_at hl 1 rfl) ?_
  refine lv_aload_n hx hb dX9_rule_20 rfl (lv_at hl 1 rfl) ?_
  refine g_get (C := RX9) (T := TX9) (N := 11) (ci := 8) (v := .ref (ad (rc ((f_X8_clear (f_X5_read σ (rc (σ 0 7))).2) 0 7)))) hx hb hts in_X9_rule_X9 hown hK hI 0 (by decide) (cel_0 cy ad _) rfl 7 (by decide) (by decide +kernel) rfl dX9_rule_21 ?_
  refine g_V (As := []) (rest := [.ref (ad 0)]) (rc ((f_X8_clear (f_X5_read σ (rc (σ 0 7))).2) 0 7)) (c_X5_placeOfFault l D cy ad (f_X8_clear (f_X5_read σ (rc (σ 0 7))).2) (rc ((f_X8_clear (f_X5_read σ (rc (σ 0 7))).2) 0 7)) (rc_ru _)) hx hb hml hown hts hK hN hI hl.1 gX9_rule_X5_placeOfFault rfl hd_X5_placeOfFault rfl rfl ⟨Nat.le_of_ble_eq_true rfl, Nat.le_of_ble_eq_true rfl⟩ ⟨Nat.zero_le _, Nat.zero_le _⟩ (by rcases (rc_ru _) with q | q <;> rw [q] <;> decide) (cel_Ru cy ad (rc_ru _) _) rfl rfl rfl rfl (Nat.le_of_ble_eq_true rfl) dX9_rule_24 (fun H locs hG_5 hI => ?_)
  refine g_put (C := RX9) (T := TX9) (N := 11) (ci := 8) (ty := .int) (z := f_X5_placeOfFault (f_X8_clear (f_X5_read σ (rc (σ 0 7))).2) (rc ((f_X8_clear (f_X5_read σ (rc (σ 0 7))).2) 0 7))) hx hb hts in_X9_rule_X9 tyX9 tyX9_ok nmX9 hown hK hI 0 (by decide) (cel_0 cy ad) rfl 9 (by decide) (by decide +kernel) rfl (by decide +kernel) rfl rfl (Nat.le_of_ble_eq_true rfl) rfl (bw_0_9 (by omega)) dX9_rule_27 (fun H locs hI => ?_)
  have hF_6 := hI.2.2.2
  refine lv_iload_n hx hb dX9_rule_30 rfl (lv_at hl 0 rfl) ?_
  refine g_if_eq (tgt := 38) hx hb dX9_rule_31 (by decide) (by omega) (fun c_7 => ?_) (fun c_7 => ?_)
  · skip
    refine lv_aload_n hx hb dX9_rule_38 rfl (lv_at hl 1 rfl) ?_
    refine g_get (C := RX9) (T := TX9) (N := 11) (ci := 8) (v := .ref (ad (rc ((f_X8_clear (f_X5_read σ (rc (σ 0 7))).2) 0 6)))) hx hb hts in_X9_rule_X9 hown hK hI 0 (by decide) (cel_0 cy ad _) rfl 6 (by decide) (by decide +kernel) rfl dX9_rule_39 ?_
    refine lv_astore_n (lv' := [(2, .ref (ad (rc ((f_X8_clear (f_X5_read σ (rc (σ 0 7))).2) 0 6)))), (1, .int (iI ((f_X5_read σ (rc (σ 0 7))).1))), (0, .ref (ad 0))]) hx hb dX9_rule_42 rfl hl (by decide) rfl (fun ls hl => ?_)
    refine lv_aload_n hx hb dX9_rule_43 rfl (lv_at hl 2 rfl) ?_
    refine lv_aload_n hx hb dX9_rule_44 rfl (lv_at hl 2 rfl) ?_
    refine g_get (C := RX9) (T := TX9) (N := 11) (ci := 8) (v := .ref (ad (rc ((f_X8_clear (f_X5_read σ (rc (σ 0 7))).2) 0 7)))) hx hb hts in_X9_rule_X9 hown hK hI 0 (by decide) (cel_0 cy ad _) rfl 7 (by decide) (by decide +kernel) rfl dX9_rule_45 ?_
    refine g_put (C := RX9) (T := TX9) (N := 11) (ci := 8) (ty := .object "NameTurner$Rule") (z := (f_X8_clear (f_X5_read σ (rc (σ 0 7))).2) 0 7) hx hb hts in_X9_rule_X9 tyX9 tyX9_ok nmX9 hown hK hI 0 (by decide) (cel_0 cy ad) rfl 6 (by decide) (by decide +kernel) rfl (by decide +kernel) rfl rfl (Nat.le_of_ble_eq_true rfl) rfl (bw_0_6 (bd_0_7 hF_4)) dX9_rule_48 (fun H locs hI => ?_)
    have hF_8 := hI.2.2.2
    refine lv_aload_n hx hb dX9_rule_51 rfl (lv_at hl 2 rfl) ?_
    refine lv_aload_n hx hb dX9_rule_52 rfl (lv_at hl 0 rfl) ?_
    refine g_put (C := RX9) (T := TX9) (N := 11) (ci := 8) (ty := .object "NameTurner$Rule") (z := (f_X8_clear (f_X5_read σ (rc (σ 0 7))).2) 0 6) hx hb hts in_X9_rule_X9 tyX9 tyX9_ok nmX9 hown hK hI 0 (by decide) (cel_0 cy ad) rfl 7 (by decide) (by decide +kernel) rfl (by decide +kernel) rfl rfl (Nat.le_of_ble_eq_true rfl) rfl (bw_0_7 (bd_0_6 hF_4)) dX9_rule_53 (fun H locs hI => ?_)
    have hF_9 := hI.2.2.2
    refine lv_aload_n hx hb dX9_rule_56 rfl (lv_at hl 2 rfl) ?_
    refine lv_iconst (v := iI 1) hx hb dX9_rule_57 rfl ?_
    refine g_put (C := RX9) (T := TX9) (N := 11) (ci := 8) (ty := .boolean) (z := 1) hx hb hts in_X9_rule_X9 tyX9 tyX9_ok nmX9 hown hK hI 0 (by decide) (cel_0 cy ad) rfl 8 (by decide) (by decide +kernel) rfl (by decide +kernel) (iI_nz (by omega)) (iI_fz (by omega)) (Nat.le_of_ble_eq_true rfl) rfl (bw_0_8 (by omega)) dX9_rule_58 (fun H locs hI => ?_)
    have hF_10 := hI.2.2.2
    refine lv_aload_n hx hb dX9_rule_61 rfl (lv_at hl 2 rfl) ?_
    refine g_get (C := RX9) (T := TX9) (N := 11) (ci := 8) (v := .ref (ad (rc ((f_X8_clear (f_X5_read σ (rc (σ 0 7))).2) 0 7)))) hx hb hts in_X9_rule_X9 hown hK hI 0 (by decide) (cel_0 cy ad _) rfl 6 (by decide) (by decide +kernel) rfl dX9_rule_62 ?_
    refine g_V (As := []) (rest := []) (rc ((f_X8_clear (f_X5_read σ (rc (σ 0 7))).2) 0 7)) (c_X5_itemCount l D cy ad (up2 (up2 (up2 (up2 (f_X8_clear (f_X5_read σ (rc (σ 0 7))).2) 0 9 (f_X5_placeOfFault (f_X8_clear (f_X5_read σ (rc (σ 0 7))).2) (rc ((f_X8_clear (f_X5_read σ (rc (σ 0 7))).2) 0 7)))) 0 6 ((f_X8_clear (f_X5_read σ (rc (σ 0 7))).2) 0 7)) 0 7 ((f_X8_clear (f_X5_read σ (rc (σ 0 7))).2) 0 6)) 0 8 1) (rc ((f_X8_clear (f_X5_read σ (rc (σ 0 7))).2) 0 7)) (rc_ru _)) hx hb hml hown hts hK hN hI hl.1 gX9_rule_X5_itemCount rfl hd_X5_itemCount rfl rfl ⟨Nat.le_of_ble_eq_true rfl, Nat.le_of_ble_eq_true rfl⟩ ⟨Nat.zero_le _, Nat.zero_le _⟩ (by rcases (rc_ru _) with q | q <;> rw [q] <;> decide) (cel_Ru cy ad (rc_ru _) _) rfl rfl rfl rfl (Nat.le_of_ble_eq_true rfl) dX9_rule_65 (fun H locs hG_11 hI => ?_)
    have e9 : f_X9_rule σ = (f_X5_itemCount (up2 (up2 (up2 (up2 (f_X8_clear (f_X5_read σ (rc (σ 0 7))).2) 0 9 (f_X5_placeOfFault (f_X8_clear (f_X5_read σ (rc (σ 0 7))).2) (rc ((f_X8_clear (f_X5_read σ (rc (σ 0 7))).2) 0 7)))) 0 6 ((f_X8_clear (f_X5_read σ (rc (σ 0 7))).2) 0 7)) 0 7 ((f_X8_clear (f_X5_read σ (rc (σ 0 7))).2) 0 6)) 0 8 1) (rc ((f_X8_clear (f_X5_read σ (rc (σ 0 7))).2) 0 7)), (up2 (up2 (up2 (up2 (f_X8_clear (f_X5_read σ (rc (σ 0 7))).2) 0 9 (f_X5_placeOfFault (f_X8_clear (f_X5_read σ (rc (σ 0 7))).2) (rc ((f_X8_clear (f_X5_read σ (rc (σ 0 7))).2) 0 7)))) 0 6 ((f_X8_clear (f_X5_read σ (rc (σ 0 7))).2) 0 7)) 0 7 ((f_X8_clear (f_X5_read σ (rc (σ 0 7))).2) 0 6)) 0 8 1)) := by rw [f_X9_rule, if_pos c_7]
    exact g_iret (z := f_X5_itemCount (up2 (up2 (up2 (up2 (f_X8_clear (f_X5_read σ (rc (σ 0 7))).2) 0 9 (f_X5_placeOfFault (f_X8_clear (f_X5_read σ (rc (σ 0 7))).2) (rc ((f_X8_clear (f_X5_read σ (rc (σ 0 7))).2) 0 7)))) 0 6 ((f_X8_clear (f_X5_read σ (rc (σ 0 7))).2) 0 7)) 0 7 ((f_X8_clear (f_X5_read σ (rc (σ 0 7))).2) 0 6)) 0 8 1) (rc ((f_X8_clear (f_X5_read σ (rc (σ 0 7))).2) 0 7))) hx hb hr hK hN hlocks hI (by rw [e9]) (by rw [e9]) trivial dX9_rule_68
  · skip
    refine lv_iconst (v := iI (-1)) hx hb dX9_rule_34 rfl ?_
    refine lv_iload_n hx hb dX9_rule_35 rfl (lv_at hl 0 rfl) ?_
    refine g_isub hx hb dX9_rule_36 ?_
    have e9 : f_X9_rule σ = ((-1) - ((f_X5_read σ (rc (σ 0 7))).1), (up2 (f_X8_clear (f_X5_read σ (rc (σ 0 7))).2) 0 9 (f_X5_placeOfFault (f_X8_clear (f_X5_read σ (rc (σ 0 7))).2) (rc ((f_X8_clear (f_X5_read σ (rc (σ 0 7))).2) 0 7))))) := by rw [f_X9_rule, if_neg c_7]
    exact g_iret (z := (-1) - ((f_X5_read σ (rc (σ 0 7))).1)) hx hb hr hK hN hlocks hI (by rw [e9]) (by rw [e9]) trivial dX9_rule_37
theorem in_X9_place_X9 : ∀ w ∈ u_ws RX9 TX9 11, w ∈ wsX9_place := by decide +kernel
def f_X9_place (σ : Sg) : Int := σ 0 9
theorem hd_X9_place : yX9_place.cls = RX9 ∧ yX9_place.cls ≠ "java/lang/invoke/MethodHandle" ∧ yX9_place.cls ≠ "java/lang/invoke/VarHandle" ∧ (parseMethodDescriptor yX9_place.desc).map (fun d => d.parameters.length) = some 0 := by decide +kernel
set_option maxHeartbeats 4000000 in
set_option maxRecDepth 100000 in
theorem c_X9_place (l : Launch) (D : va_G) (cy : Nat → ClassId) (ad : Nat → Nat) (σ : Sg) : CM l D cy ad yX9_place wsX9_place { frames := 0, cells := 0, slots := 0, locals := 0 } [.ref (ad 0)] σ (some (.int (iI (f_X9_place σ)))) σ (True) := by
  refine CM.of (cc := cX9_place) (maxL := 1) (ret := (some .int)) (by decide) rfl (Nat.le_of_ble_eq_true rfl) ?_
  intro p e s m args below meth c₀ ls X hI hl
  have hl : lv_has ls 1 [(0, .ref (ad 0))] := hl
  obtain ⟨hx, hb, hr, hml, hown, hts, hlocks, hK, hN⟩ := id X
  have hF := hI.2.2.2
  refine lv_aload_n hx hb dX9_place_0 rfl (lv_at hl 0 rfl) ?_
  refine g_get (C := RX9) (T := TX9) (N := 11) (ci := 8) (v := .int (iI (σ 0 9))) hx hb hts in_X9_place_X9 hown hK hI 0 (by decide) (cel_0 cy ad _) rfl 9 (by decide) (by decide +kernel) rfl dX9_place_1 ?_
  have b_1 := bd_0_9 hF
  have e9 : f_X9_place σ = σ 0 9 := by rw [f_X9_place]
  exact g_iret (z := σ 0 9) hx hb hr hK hN hlocks hI e9.symm rfl trivial dX9_place_4
theorem in_X9_fits_X9 : ∀ w ∈ u_ws RX9 TX9 11, w ∈ wsX9_fits := by decide +kernel
def f_X9_fits (σ : Sg) (a0 : Int) (a1 : Int) : Int × Sg := (if (σ 0 8) = 0 then ((-1), σ) else (if (f_X7_has σ a0) = 0 then ((-1), σ) else (if a1 = 0 then (if ((f_X0_match σ (rc (σ 0 6)) (f_X7_placeOf σ a0)).1) = 0 then (0, (f_X0_match σ (rc (σ 0 6)) (f_X7_placeOf σ a0)).2) else (1, (f_X0_match σ (rc (σ 0 6)) (f_X7_placeOf σ a0)).2)) else (if ((f_X0_match σ (rc (σ 0 6)) (f_X7_placeOf σ a0)).1) = 0 then ((-1), (f_X0_match σ (rc (σ 0 6)) (f_X7_placeOf σ a0)).2) else (if a1 < 10 then (if a1 < 30 then ((-1), (f_X0_match σ (rc (σ 0 6)) (f_X7_placeOf σ a0)).2) else (if (30 + (f_X5_itemCount (f_X0_match σ (rc (σ 0 6)) (f_X7_placeOf σ a0)).2 (rc ((f_X0_match σ (rc (σ 0 6)) (f_X7_placeOf σ a0)).2 0 6)))) ≤ a1 then ((-1), (f_X0_match σ (rc (σ 0 6)) (f_X7_placeOf σ a0)).2) else (f_X0_startOf (f_X0_match σ (rc (σ 0 6)) (f_X7_placeOf σ a0)).2 (a1 - 30), (f_X0_match σ (rc (σ 0 6)) (f_X7_placeOf σ a0)).2))) else (if (10 + (f_X5_itemCount (f_X0_match σ (rc (σ 0 6)) (f_X7_placeOf σ a0)).2 (rc ((f_X0_match σ (rc (σ 0 6)) (f_X7_placeOf σ a0)).2 0 6)))) ≤ a1 then (if a1 < 30 then ((-1), (f_X0_match σ (rc (σ 0 6)) (f_X7_placeOf σ a0)).2) else (if (30 + (f_X5_itemCount (f_X0_match σ (rc (σ 0 6)) (f_X7_placeOf σ a0)).2 (rc ((f_X0_match σ (rc (σ 0 6)) (f_X7_placeOf σ a0)).2 0 6)))) ≤ a1 then ((-1), (f_X0_match σ (rc (σ 0 6)) (f_X7_placeOf σ a0)).2) else (f_X0_startOf (f_X0_match σ (rc (σ 0 6)) (f_X7_placeOf σ a0)).2 (a1 - 30), (f_X0_match σ (rc (σ 0 6)) (f_X7_placeOf σ a0)).2))) else (f_X0_tookBy (f_X0_match σ (rc (σ 0 6)) (f_X7_placeOf σ a0)).2 (a1 - 10), (f_X0_match σ (rc (σ 0 6)) (f_X7_placeOf σ a0)).2)))))))
theorem hd_X9_fits : yX9_fits.cls = RX9 ∧ yX9_fits.cls ≠ "java/lang/invoke/MethodHandle" ∧ yX9_fits.cls ≠ "java/lang/invoke/VarHandle" ∧ (parseMethodDescriptor yX9_fits.desc).map (fun d => d.parameters.length) = some 2 := by decide +kernel
set_option maxHeartbeats 4000000 in
set_option maxRecDepth 100000 in
theorem c_X9_fits (l : Launch) (D : va_G) (cy : Nat → ClassId) (ad : Nat → Nat) (σ : Sg) (a0 : Int) (ha0 : (-2147483648 ≤ a0 ∧ a0 < 2147483648)) (a1 : Int) (ha1 : (-2147483648 ≤ a1 ∧ a1 < 2147483648)) : CM l D cy ad yX9_fits wsX9_fits { frames := 5, cells := 0, slots := 0, locals := 200 } [.ref (ad 0), .int (iI a0), .int (iI a1)] σ (some (.int (iI ((f_X9_fits σ a0 a1).1)))) ((f_X9_fits σ a0 a1).2) (True) := by
  refine CM.of (cc := cX9_fits) (maxL := 4) (ret := (some .int)) (by decide) rfl (Nat.le_of_ble_eq_true rfl) ?_
  intro p e s m args below meth c₀ ls X hI hl
  have hl : lv_has ls 4 [(0, .ref (ad 0)), (1, .int (iI a0)), (2, .int (iI a1))] := hl
  obtain ⟨hx, hb, hr, hml, hown, hts, hlocks, hK, hN⟩ := id X
  have hF := hI.2.2.2
  refine lv_aload_n hx hb dX9_fits_0 rfl (lv_at hl 0 rfl) ?_
  refine g_get (C := RX9) (T := TX9) (N := 11) (ci := 8) (v := .int (iI (σ 0 8))) hx hb hts in_X9_fits_X9 hown hK hI 0 (by decide) (cel_0 cy ad _) rfl 8 (by decide) (by decide +kernel) rfl dX9_fits_1 ?_
  have b_1 := bd_0_8 hF
  refine g_if_eq (tgt := 18) hx hb dX9_fits_4 (by decide) (by omega) (fun c_2 => ?_) (fun c_2 => ?_)
  · skip
    refine lv_iconst (v := iI (-1)) hx hb dX9_fits_18 rfl ?_
    have e9 : f_X9_fits σ a0 a1 = ((-1), σ) := by rw [f_X9_fits, if_pos c_2]
    exact g_iret (z := (-1)) hx hb hr hK hN hlocks hI (by rw [e9]) (by rw [e9]) trivial dX9_fits_19
  · skip
    refine lv_aload_n hx hb dX9_fits_7 rfl (lv_at hl 0 rfl) ?_
    refine g_get (C := RX9) (T := TX9) (N := 11) (ci := 8) (v := .ref (ad 3)) hx hb hts in_X9_fits_X9 hown hK hI 0 (by decide) (cel_0 cy ad _) rfl 2 (by decide) (by decide +kernel) rfl dX9_fits_8 ?_
    refine lv_iload_n hx hb dX9_fits_11 rfl (lv_at hl 1 rfl) ?_
    refine g_V (As := [.int (iI a0)]) (rest := []) 3 (c_X7_has l D cy ad σ a0 (by omega)) hx hb hml hown hts hK hN hI hl.1 gX9_fits_X7_has rfl hd_X7_has rfl rfl ⟨Nat.le_of_ble_eq_true rfl, Nat.le_of_ble_eq_true rfl⟩ ⟨Nat.zero_le _, Nat.zero_le _⟩ (by decide) (cel_3 cy ad _) rfl rfl rfl rfl (Nat.le_of_ble_eq_true rfl) dX9_fits_12 (fun H locs hG_3 hI => ?_)
    refine g_if_ne (tgt := 20) hx hb dX9_fits_15 (by decide) (by omega) (fun c_4 => ?_) (fun c_4 => ?_)
    · skip
      refine lv_aload_n hx hb dX9_fits_20 rfl (lv_at hl 0 rfl) ?_
      refine g_get (C := RX9) (T := TX9) (N := 11) (ci := 8) (v := .ref (ad 9)) hx hb hts in_X9_fits_X9 hown hK hI 0 (by decide) (cel_0 cy ad _) rfl 4 (by decide) (by decide +kernel) rfl dX9_fits_21 ?_
      refine lv_aload_n hx hb dX9_fits_24 rfl (lv_at hl 0 rfl) ?_
      refine g_get (C := RX9) (T := TX9) (N := 11) (ci := 8) (v := .ref (ad (rc (σ 0 6)))) hx hb hts in_X9_fits_X9 hown hK hI 0 (by decide) (cel_0 cy ad _) rfl 6 (by decide) (by decide +kernel) rfl dX9_fits_25 ?_
      refine lv_aload_n hx hb dX9_fits_28 rfl (lv_at hl 0 rfl) ?_
      refine g_get (C := RX9) (T := TX9) (N := 11) (ci := 8) (v := .ref (ad 3)) hx hb hts in_X9_fits_X9 hown hK hI 0 (by decide) (cel_0 cy ad _) rfl 2 (by decide) (by decide +kernel) rfl dX9_fits_29 ?_
      refine lv_iload_n hx hb dX9_fits_32 rfl (lv_at hl 1 rfl) ?_
      refine g_V (As := [.int (iI a0)]) (rest := [.ref (ad (rc (σ 0 6))), .ref (ad 9)]) 3 (c_X7_placeOf l D cy ad σ a0 (by omega)) hx hb hml hown hts hK hN hI hl.1 gX9_fits_X7_placeOf rfl hd_X7_placeOf rfl rfl ⟨Nat.le_of_ble_eq_true rfl, Nat.le_of_ble_eq_true rfl⟩ ⟨Nat.zero_le _, Nat.zero_le _⟩ (by decide) (cel_3 cy ad _) rfl rfl rfl rfl (Nat.le_of_ble_eq_true rfl) dX9_fits_33 (fun H locs hG_5 hI => ?_)
      refine g_V (As := [.ref (ad (rc (σ 0 6))), .ref (ad (f_X7_placeOf σ a0))]) (rest := []) 9 (c_X0_match l D cy ad σ (rc (σ 0 6)) (rc_ru _) (f_X7_placeOf σ a0) hG_5) hx hb hml hown hts hK hN hI hl.1 gX9_fits_X0_match rfl hd_X0_match rfl rfl ⟨Nat.le_of_ble_eq_true rfl, Nat.le_of_ble_eq_true rfl⟩ ⟨Nat.zero_le _, Nat.zero_le _⟩ (by decide) (cel_9 cy ad _) rfl rfl rfl rfl (Nat.le_of_ble_eq_true rfl) dX9_fits_36 (fun H locs hG_6 hI => ?_)
      have hF_7 := hI.2.2.2
      refine lv_istore_n (lv' := [(3, .int (iI ((f_X0_match σ (rc (σ 0 6)) (f_X7_placeOf σ a0)).1))), (0, .ref (ad 0)), (1, .int (iI a0)), (2, .int (iI a1))]) hx hb dX9_fits_39 rfl hl (by decide) rfl (fun ls hl => ?_)
      refine lv_iload_n hx hb dX9_fits_40 rfl (lv_at hl 3 rfl) ?_
      refine g_if_ne (tgt := 54) hx hb dX9_fits_41 (by decide) (by omega) (fun c_8 => ?_) (fun c_8 => ?_)
      · skip
        refine lv_iload_n hx hb dX9_fits_54 rfl (lv_at hl 0 rfl) ?_
        refine g_if_ne (tgt := 60) hx hb dX9_fits_55 (by decide) (by omega) (fun c_9 => ?_) (fun c_9 => ?_)
        · skip
          refine lv_iload_n hx hb dX9_fits_60 rfl (lv_at hl 3 rfl) ?_
          refine lv_bipush (v := iI 10) hx hb dX9_fits_61 (iI_bip (by decide)) ?_
          refine g_icmp_lt (tgt := 92) hx hb dX9_fits_63 (by decide) (by omega) (by omega) (fun c_10 => ?_) (fun c_10 => ?_)
          · skip
            refine lv_iload_n hx hb dX9_fits_92 rfl (lv_at hl 3 rfl) ?_
            refine lv_bipush (v := iI 30) hx hb dX9_fits_93 (iI_bip (by decide)) ?_
            refine g_icmp_lt (tgt := 124) hx hb dX9_fits_95 (by decide) (by omega) (by omega) (fun c_11 => ?_) (fun c_11 => ?_)
            · skip
              refine lv_iconst (v := iI (-1)) hx hb dX9_fits_124 rfl ?_
              have e9 : f_X9_fits σ a0 a1 = ((-1), (f_X0_match σ (rc (σ 0 6)) (f_X7_placeOf σ a0)).2) := by rw [f_X9_fits, if_neg c_2, if_neg c_4, if_neg c_8, if_neg c_9, if_pos c_10, if_pos c_11]
              exact g_iret (z := (-1)) hx hb hr hK hN hlocks hI (by rw [e9]) (by rw [e9]) trivial dX9_fits_125
            · skip
              refine lv_iload_n hx hb dX9_fits_98 rfl (lv_at hl 3 rfl) ?_
              refine lv_bipush (v := iI 30) hx hb dX9_fits_99 (iI_bip (by decide)) ?_
              refine lv_aload_n hx hb dX9_fits_101 rfl (lv_at hl 1 rfl) ?_
              refine g_get (C := RX9) (T := TX9) (N := 11) (ci := 8) (v := .ref (ad (rc ((f_X0_match σ (rc (σ 0 6)) (f_X7_placeOf σ a0)).2 0 6)))) hx hb hts in_X9_fits_X9 hown hK hI 0 (by decide) (cel_0 cy ad _) rfl 6 (by decide) (by decide +kernel) rfl dX9_fits_102 ?_
              refine g_V (As := []) (rest := [.int (iI 30), .int (iI a1)]) (rc ((f_X0_match σ (rc (σ 0 6)) (f_X7_placeOf σ a0)).2 0 6)) (c_X5_itemCount l D cy ad (f_X0_match σ (rc (σ 0 6)) (f_X7_placeOf σ a0)).2 (rc ((f_X0_match σ (rc (σ 0 6)) (f_X7_placeOf σ a0)).2 0 6)) (rc_ru _)) hx hb hml hown hts hK hN hI hl.1 gX9_fits_X5_itemCount rfl hd_X5_itemCount rfl rfl ⟨Nat.le_of_ble_eq_true rfl, Nat.le_of_ble_eq_true rfl⟩ ⟨Nat.zero_le _, Nat.zero_le _⟩ (by rcases (rc_ru _) with q | q <;> rw [q] <;> decide) (cel_Ru cy ad (rc_ru _) _) rfl rfl rfl rfl (Nat.le_of_ble_eq_true rfl) dX9_fits_105 (fun H locs hG_12 hI => ?_)
              refine g_iadd hx hb dX9_fits_108 ?_
              refine g_icmp_ge (tgt := 124) hx hb dX9_fits_109 (by decide) (by omega) (by omega) (fun c_13 => ?_) (fun c_13 => ?_)
              · skip
                refine lv_iconst (v := iI (-1)) hx hb dX9_fits_124 rfl ?_
                have e9 : f_X9_fits σ a0 a1 = ((-1), (f_X0_match σ (rc (σ 0 6)) (f_X7_placeOf σ a0)).2) := by rw [f_X9_fits, if_neg c_2, if_neg c_4, if_neg c_8, if_neg c_9, if_pos c_10, if_neg c_11, if_pos c_13]
                exact g_iret (z := (-1)) hx hb hr hK hN hlocks hI (by rw [e9]) (by rw [e9]) trivial dX9_fits_125
              · skip
                refine lv_aload_n hx hb dX9_fits_112 rfl (lv_at hl 1 rfl) ?_
                refine g_get (C := RX9) (T := TX9) (N := 11) (ci := 8) (v := .ref (ad 9)) hx hb hts in_X9_fits_X9 hown hK hI 0 (by decide) (cel_0 cy ad _) rfl 4 (by decide) (by decide +kernel) rfl dX9_fits_113 ?_
                refine lv_iload_n hx hb dX9_fits_116 rfl (lv_at hl 3 rfl) ?_
                refine lv_bipush (v := iI 30) hx hb dX9_fits_117 (iI_bip (by decide)) ?_
                refine g_isub hx hb dX9_fits_119 ?_
                refine g_V (As := [.int (iI (a1 - 30))]) (rest := []) 9 (c_X0_startOf l D cy ad (f_X0_match σ (rc (σ 0 6)) (f_X7_placeOf σ a0)).2 (a1 - 30) (by omega)) hx hb hml hown hts hK hN hI hl.1 gX9_fits_X0_startOf rfl hd_X0_startOf rfl rfl ⟨Nat.le_of_ble_eq_true rfl, Nat.le_of_ble_eq_true rfl⟩ ⟨Nat.zero_le _, Nat.zero_le _⟩ (by decide) (cel_9 cy ad _) rfl rfl rfl rfl (Nat.le_of_ble_eq_true rfl) dX9_fits_120 (fun H locs hG_14 hI => ?_)
                have e9 : f_X9_fits σ a0 a1 = (f_X0_startOf (f_X0_match σ (rc (σ 0 6)) (f_X7_placeOf σ a0)).2 (a1 - 30), (f_X0_match σ (rc (σ 0 6)) (f_X7_placeOf σ a0)).2) := by rw [f_X9_fits, if_neg c_2, if_neg c_4, if_neg c_8, if_neg c_9, if_pos c_10, if_neg c_11, if_neg c_13]
                exact g_iret (z := f_X0_startOf (f_X0_match σ (rc (σ 0 6)) (f_X7_placeOf σ a0)).2 (a1 - 30)) hx hb hr hK hN hlocks hI (by rw [e9]) (by rw [e9]) trivial dX9_fits_123
          · skip
            refine lv_iload_n hx hb dX9_fits_66 rfl (lv_at hl 3 rfl) ?_
            refine lv_bipush (v := iI 10) hx hb dX9_fits_67 (iI_bip (by decide)) ?_
            refine lv_aload_n hx hb dX9_fits_69 rfl (lv_at hl 1 rfl) ?_
            refine g_get (C := RX9) (T := TX9) (N := 11) (ci := 8) (v := .ref (ad (rc ((f_X0_match σ (rc (σ 0 6)) (f_X7_placeOf σ a0)).2 0 6)))) hx hb hts in_X9_fits_X9 hown hK hI 0 (by decide) (cel_0 cy ad _) rfl 6 (by decide) (by decide +kernel) rfl dX9_fits_70 ?_
            refine g_V (As := []) (rest := [.int (iI 10), .int (iI a1)]) (rc ((f_X0_match σ (rc (σ 0 6)) (f_X7_placeOf σ a0)).2 0 6)) (c_X5_itemCount l D cy ad (f_X0_match σ (rc (σ 0 6)) (f_X7_placeOf σ a0)).2 (rc ((f_X0_match σ (rc (σ 0 6)) (f_X7_placeOf σ a0)).2 0 6)) (rc_ru _)) hx hb hml hown hts hK hN hI hl.1 gX9_fits_X5_itemCount rfl hd_X5_itemCount rfl rfl ⟨Nat.le_of_ble_eq_true rfl, Nat.le_of_ble_eq_true rfl⟩ ⟨Nat.zero_le _, Nat.zero_le _⟩ (by rcases (rc_ru _) with q | q <;> rw [q] <;> decide) (cel_Ru cy ad (rc_ru _) _) rfl rfl rfl rfl (Nat.le_of_ble_eq_true rfl) dX9_fits_73 (fun H locs hG_15 hI => ?_)
            refine g_iadd hx hb dX9_fits_76 ?_
            refine g_icmp_ge (tgt := 92) hx hb dX9_fits_77 (by decide) (by omega) (by omega) (fun c_16 => ?_) (fun c_16 => ?_)
            · skip
              refine lv_iload_n hx hb dX9_fits_92 rfl (lv_at hl 3 rfl) ?_
              refine lv_bipush (v := iI 30) hx hb dX9_fits_93 (iI_bip (by decide)) ?_
              refine g_icmp_lt (tgt := 124) hx hb dX9_fits_95 (by decide) (by omega) (by omega) (fun c_17 => ?_) (fun c_17 => ?_)
              · skip
                refine lv_iconst (v := iI (-1)) hx hb dX9_fits_124 rfl ?_
                have e9 : f_X9_fits σ a0 a1 = ((-1), (f_X0_match σ (rc (σ 0 6)) (f_X7_placeOf σ a0)).2) := by rw [f_X9_fits, if_neg c_2, if_neg c_4, if_neg c_8, if_neg c_9, if_neg c_10, if_pos c_16, if_pos c_17]
                exact g_iret (z := (-1)) hx hb hr hK hN hlocks hI (by rw [e9]) (by rw [e9]) trivial dX9_fits_125
              · skip
                refine lv_iload_n hx hb dX9_fits_98 rfl (lv_at hl 3 rfl) ?_
                refine lv_bipush (v := iI 30) hx hb dX9_fits_99 (iI_bip (by decide)) ?_
                refine lv_aload_n hx hb dX9_fits_101 rfl (lv_at hl 1 rfl) ?_
                refine g_get (C := RX9) (T := TX9) (N := 11) (ci := 8) (v := .ref (ad (rc ((f_X0_match σ (rc (σ 0 6)) (f_X7_placeOf σ a0)).2 0 6)))) hx hb hts in_X9_fits_X9 hown hK hI 0 (by decide) (cel_0 cy ad _) rfl 6 (by decide) (by decide +kernel) rfl dX9_fits_102 ?_
                refine g_V (As := []) (rest := [.int (iI 30), .int (iI a1)]) (rc ((f_X0_match σ (rc (σ 0 6)) (f_X7_placeOf σ a0)).2 0 6)) (c_X5_itemCount l D cy ad (f_X0_match σ (rc (σ 0 6)) (f_X7_placeOf σ a0)).2 (rc ((f_X0_match σ (rc (σ 0 6)) (f_X7_placeOf σ a0)).2 0 6)) (rc_ru _)) hx hb hml hown hts hK hN hI hl.1 gX9_fits_X5_itemCount rfl hd_X5_itemCount rfl rfl ⟨Nat.le_of_ble_eq_true rfl, Nat.le_of_ble_eq_true rfl⟩ ⟨Nat.zero_le _, Nat.zero_le _⟩ (by rcases (rc_ru _) with q | q <;> rw [q] <;> decide) (cel_Ru cy ad (rc_ru _) _) rfl rfl rfl rfl (Nat.le_of_ble_eq_true rfl) dX9_fits_105 (fun H locs hG_18 hI => ?_)
                refine g_iadd hx hb dX9_fits_108 ?_
                refine g_icmp_ge (tgt := 124) hx hb dX9_fits_109 (by decide) (by omega) (by omega) (fun c_19 => ?_) (fun c_19 => ?_)
                · skip
                  refine lv_iconst (v := iI (-1)) hx hb dX9_fits_124 rfl ?_
                  have e9 : f_X9_fits σ a0 a1 = ((-1), (f_X0_match σ (rc (σ 0 6)) (f_X7_placeOf σ a0)).2) := by rw [f_X9_fits, if_neg c_2, if_neg c_4, if_neg c_8, if_neg c_9, if_neg c_10, if_pos c_16, if_neg c_17, if_pos c_19]
                  exact g_iret (z := (-1)) hx hb hr hK hN hlocks hI (by rw [e9]) (by rw [e9]) trivial dX9_fits_125
                · skip
                  refine lv_aload_n hx hb dX9_fits_112 rfl (lv_at hl 1 rfl) ?_
                  refine g_get (C := RX9) (T := TX9) (N := 11) (ci := 8) (v := .ref (ad 9)) hx hb hts in_X9_fits_X9 hown hK hI 0 (by decide) (cel_0 cy ad _) rfl 4 (by decide) (by decide +kernel) rfl dX9_fits_113 ?_
                  refine lv_iload_n hx hb dX9_fits_116 rfl (lv_at hl 3 rfl) ?_
                  refine lv_bipush (v := iI 30) hx hb dX9_fits_117 (iI_bip (by decide)) ?_
                  refine g_isub hx hb dX9_fits_119 ?_
                  refine g_V (As := [.int (iI (a1 - 30))]) (rest := []) 9 (c_X0_startOf l D cy ad (f_X0_match σ (rc (σ 0 6)) (f_X7_placeOf σ a0)).2 (a1 - 30) (by omega)) hx hb hml hown hts hK hN hI hl.1 gX9_fits_X0_startOf rfl hd_X0_startOf rfl rfl ⟨Nat.le_of_ble_eq_true rfl, Nat.le_of_ble_eq_true rfl⟩ ⟨Nat.zero_le _, Nat.zero_le _⟩ (by decide) (cel_9 cy ad _) rfl rfl rfl rfl (Nat.le_of_ble_eq_true rfl) dX9_fits_120 (fun H locs hG_20 hI => ?_)
                  have e9 : f_X9_fits σ a0 a1 = (f_X0_startOf (f_X0_match σ (rc (σ 0 6)) (f_X7_placeOf σ a0)).2 (a1 - 30), (f_X0_match σ (rc (σ 0 6)) (f_X7_placeOf σ a0)).2) := by rw [f_X9_fits, if_neg c_2, if_neg c_4, if_neg c_8, if_neg c_9, if_neg c_10, if_pos c_16, if_neg c_17, if_neg c_19]
                  exact g_iret (z := f_X0_startOf (f_X0_match σ (rc (σ 0 6)) (f_X7_placeOf σ a0)).2 (a1 - 30)) hx hb hr hK hN hlocks hI (by rw [e9]) (by rw [e9]) trivial dX9_fits_123
            · skip
              refine lv_aload_n hx hb dX9_fits_80 rfl (lv_at hl 1 rfl) ?_
              refine g_get (C := RX9) (T := TX9) (N := 11) (ci := 8) (v := .ref (ad 9)) hx hb hts in_X9_fits_X9 hown hK hI 0 (by decide) (cel_0 cy ad _) rfl 4 (by decide) (by decide +kernel) rfl dX9_fits_81 ?_
              refine lv_iload_n hx hb dX9_fits_84 rfl (lv_at hl 3 rfl) ?_
              refine lv_bipush (v := iI 10) hx hb dX9_fits_85 (iI_bip (by decide)) ?_
              refine g_isub hx hb dX9_fits_87 ?_
              refine g_V (As := [.int (iI (a1 - 10))]) (rest := []) 9 (c_X0_tookBy l D cy ad (f_X0_match σ (rc (σ 0 6)) (f_X7_placeOf σ a0)).2 (a1 - 10) (by omega)) hx hb hml hown hts hK hN hI hl.1 gX9_fits_X0_tookBy rfl hd_X0_tookBy rfl rfl ⟨Nat.le_of_ble_eq_true rfl, Nat.le_of_ble_eq_true rfl⟩ ⟨Nat.zero_le _, Nat.zero_le _⟩ (by decide) (cel_9 cy ad _) rfl rfl rfl rfl (Nat.le_of_ble_eq_true rfl) dX9_fits_88 (fun H locs hG_21 hI => ?_)
              have e9 : f_X9_fits σ a0 a1 = (f_X0_tookBy (f_X0_match σ (rc (σ 0 6)) (f_X7_placeOf σ a0)).2 (a1 - 10), (f_X0_match σ (rc (σ 0 6)) (f_X7_placeOf σ a0)).2) := by rw [f_X9_fits, if_neg c_2, if_neg c_4, if_neg c_8, if_neg c_9, if_neg c_10, if_neg c_16]
              exact g_iret (z := f_X0_tookBy (f_X0_match σ (rc (σ 0 6)) (f_X7_placeOf σ a0)).2 (a1 - 10)) hx hb hr hK hN hlocks hI (by rw [e9]) (by rw [e9]) trivial dX9_fits_91
        · skip
          refine lv_iconst (v := iI (-1)) hx hb dX9_fits_58 rfl ?_
          have e9 : f_X9_fits σ a0 a1 = ((-1), (f_X0_match σ (rc (σ 0 6)) (f_X7_placeOf σ a0)).2) := by rw [f_X9_fits, if_neg c_2, if_neg c_4, if_neg c_8, if_pos c_9]
          exact g_iret (z := (-1)) hx hb hr hK hN hlocks hI (by rw [e9]) (by rw [e9]) trivial dX9_fits_59
      · skip
        refine lv_iload_n hx hb dX9_fits_44 rfl (lv_at hl 0 rfl) ?_
        refine g_if_eq (tgt := 52) hx hb dX9_fits_45 (by decide) (by omega) (fun c_22 => ?_) (fun c_22 => ?_)
        · skip
          refine lv_iconst (v := iI 0) hx hb dX9_fits_52 rfl ?_
          have e9 : f_X9_fits σ a0 a1 = (0, (f_X0_match σ (rc (σ 0 6)) (f_X7_placeOf σ a0)).2) := by rw [f_X9_fits, if_neg c_2, if_neg c_4, if_pos c_8, if_pos c_22]
          exact g_iret (z := 0) hx hb hr hK hN hlocks hI (by rw [e9]) (by rw [e9]) trivial dX9_fits_53
        · skip
          refine lv_iconst (v := iI 1) hx hb dX9_fits_48 rfl ?_
          refine lv_goto (tgt := 53) hx hb dX9_fits_49 (by decide) ?_
          have e9 : f_X9_fits σ a0 a1 = (1, (f_X0_match σ (rc (σ 0 6)) (f_X7_placeOf σ a0)).2) := by rw [f_X9_fits, if_neg c_2, if_neg c_4, if_pos c_8, if_neg c_22]
          exact g_iret (z := 1) hx hb hr hK hN hlocks hI (by rw [e9]) (by rw [e9]) trivial dX9_fits_53
    · skip
      refine lv_iconst (v := iI (-1)) hx hb dX9_fits_18 rfl ?_
      have e9 : f_X9_fits σ a0 a1 = ((-1), σ) := by rw [f_X9_fits, if_neg c_2, if_pos c_4]
      exact g_iret (z := (-1)) hx hb hr hK hN hlocks hI (by rw [e9]) (by rw [e9]) trivial dX9_fits_19
