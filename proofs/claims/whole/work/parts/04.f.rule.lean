theorem in_X5_itemCount_X5 : ∀ w ∈ u_ws RX5 TX5 8, w ∈ wsX5_itemCount := by decide +kernel
def f_X5_itemCount (σ : Sg) (c : Nat) : Int := σ c 4
theorem hd_X5_itemCount : yX5_itemCount.cls = RX5 ∧ yX5_itemCount.cls ≠ "java/lang/invoke/MethodHandle" ∧ yX5_itemCount.cls ≠ "java/lang/invoke/VarHandle" ∧ (parseMethodDescriptor yX5_itemCount.desc).map (fun d => d.parameters.length) = some 0 := by decide +kernel
set_option maxHeartbeats 4000000 in
set_option maxRecDepth 100000 in
theorem c_X5_itemCount (l : Launch) (D : va_G) (cy : Nat → ClassId) (ad : Nat → Nat) (σ : Sg) (c : Nat) (hc : isRu c) : CM l D cy ad yX5_itemCount wsX5_itemCount { frames := 0, cells := 0, slots := 0, locals := 0 } [.ref (ad c)] σ (some (.int (iI (f_X5_itemCount σ c)))) σ (0 ≤ (f_X5_itemCount σ c) ∧ (f_X5_itemCount σ c) ≤ 12) := by
  refine CM.of (cc := cX5_itemCount) (maxL := 1) (ret := (some .int)) (by decide) rfl (Nat.le_of_ble_eq_true rfl) ?_
  intro p e s m args below meth c₀ ls X hI hl
  have hl : lv_has ls 1 [(0, .ref (ad c))] := hl
  obtain ⟨hx, hb, hr, hml, hown, hts, hlocks, hK, hN⟩ := id X
  have hF := hI.2.2.2
  refine lv_aload_n hx hb dX5_itemCount_0 rfl (lv_at hl 0 rfl) ?_
  refine g_get (C := RX5) (T := TX5) (N := 8) (ci := 5) (v := .int (iI (σ c 4))) hx hb hts in_X5_itemCount_X5 hown hK hI c (by rcases hc with q | q <;> rw [q] <;> decide) (cel_Ru cy ad hc _) rfl 4 (by decide) (by decide +kernel) rfl dX5_itemCount_1 ?_
  have b_1 := bd_Ru_4 hF hc
  have e9 : f_X5_itemCount σ c = σ c 4 := by rw [f_X5_itemCount]
  exact g_iret (z := σ c 4) hx hb hr hK hN hlocks hI e9.symm rfl (by rw [e9] <;> first | (omega) | (dsimp only; omega)) dX5_itemCount_4
theorem in_X5_partCount_X5 : ∀ w ∈ u_ws RX5 TX5 8, w ∈ wsX5_partCount := by decide +kernel
def f_X5_partCount (σ : Sg) (c : Nat) : Int := σ c 6
theorem hd_X5_partCount : yX5_partCount.cls = RX5 ∧ yX5_partCount.cls ≠ "java/lang/invoke/MethodHandle" ∧ yX5_partCount.cls ≠ "java/lang/invoke/VarHandle" ∧ (parseMethodDescriptor yX5_partCount.desc).map (fun d => d.parameters.length) = some 0 := by decide +kernel
set_option maxHeartbeats 4000000 in
set_option maxRecDepth 100000 in
theorem c_X5_partCount (l : Launch) (D : va_G) (cy : Nat → ClassId) (ad : Nat → Nat) (σ : Sg) (c : Nat) (hc : isRu c) : CM l D cy ad yX5_partCount wsX5_partCount { frames := 0, cells := 0, slots := 0, locals := 0 } [.ref (ad c)] σ (some (.int (iI (f_X5_partCount σ c)))) σ (0 ≤ (f_X5_partCount σ c) ∧ (f_X5_partCount σ c) ≤ 12) := by
  refine CM.of (cc := cX5_partCount) (maxL := 1) (ret := (some .int)) (by decide) rfl (Nat.le_of_ble_eq_true rfl) ?_
  intro p e s m args below meth c₀ ls X hI hl
  have hl : lv_has ls 1 [(0, .ref (ad c))] := hl
  obtain ⟨hx, hb, hr, hml, hown, hts, hlocks, hK, hN⟩ := id X
  have hF := hI.2.2.2
  refine lv_aload_n hx hb dX5_partCount_0 rfl (lv_at hl 0 rfl) ?_
  refine g_get (C := RX5) (T := TX5) (N := 8) (ci := 5) (v := .int (iI (σ c 6))) hx hb hts in_X5_partCount_X5 hown hK hI c (by rcases hc with q | q <;> rw [q] <;> decide) (cel_Ru cy ad hc _) rfl 6 (by decide) (by decide +kernel) rfl dX5_partCount_1 ?_
  have b_1 := bd_Ru_6 hF hc
  have e9 : f_X5_partCount σ c = σ c 6 := by rw [f_X5_partCount]
  exact g_iret (z := σ c 6) hx hb hr hK hN hlocks hI e9.symm rfl (by rw [e9] <;> first | (omega) | (dsimp only; omega)) dX5_partCount_4
theorem in_X5_placeOfFault_X5 : ∀ w ∈ u_ws RX5 TX5 8, w ∈ wsX5_placeOfFault := by decide +kernel
def f_X5_placeOfFault (σ : Sg) (c : Nat) : Int := σ c 7
theorem hd_X5_placeOfFault : yX5_placeOfFault.cls = RX5 ∧ yX5_placeOfFault.cls ≠ "java/lang/invoke/MethodHandle" ∧ yX5_placeOfFault.cls ≠ "java/lang/invoke/VarHandle" ∧ (parseMethodDescriptor yX5_placeOfFault.desc).map (fun d => d.parameters.length) = some 0 := by decide +kernel
set_option maxHeartbeats 4000000 in
set_option maxRecDepth 100000 in
theorem c_X5_placeOfFault (l : Launch) (D : va_G) (cy : Nat → ClassId) (ad : Nat → Nat) (σ : Sg) (c : Nat) (hc : isRu c) : CM l D cy ad yX5_placeOfFault wsX5_placeOfFault { frames := 0, cells := 0, slots := 0, locals := 0 } [.ref (ad c)] σ (some (.int (iI (f_X5_placeOfFault σ c)))) σ (-1 ≤ (f_X5_placeOfFault σ c) ∧ (f_X5_placeOfFault σ c) ≤ 200) := by
  refine CM.of (cc := cX5_placeOfFault) (maxL := 1) (ret := (some .int)) (by decide) rfl (Nat.le_of_ble_eq_true rfl) ?_
  intro p e s m args below meth c₀ ls X hI hl
  have hl : lv_has ls 1 [(0, .ref (ad c))] := hl
  obtain ⟨hx, hb, hr, hml, hown, hts, hlocks, hK, hN⟩ := id X
  have hF := hI.2.2.2
  refine lv_aload_n hx hb dX5_placeOfFault_0 rfl (lv_at hl 0 rfl) ?_
  refine g_get (C := RX5) (T := TX5) (N := 8) (ci := 5) (v := .int (iI (σ c 7))) hx hb hts in_X5_placeOfFault_X5 hown hK hI c (by rcases hc with q | q <;> rw [q] <;> decide) (cel_Ru cy ad hc _) rfl 7 (by decide) (by decide +kernel) rfl dX5_placeOfFault_1 ?_
  have b_1 := bd_Ru_7 hF hc
  have e9 : f_X5_placeOfFault σ c = σ c 7 := by rw [f_X5_placeOfFault]
  exact g_iret (z := σ c 7) hx hb hr hK hN hlocks hI e9.symm rfl (by rw [e9] <;> first | (omega) | (dsimp only; omega)) dX5_placeOfFault_4
theorem in_X5_item_X5 : ∀ w ∈ u_ws RX5 TX5 8, w ∈ wsX5_item := by decide +kernel
def f_X5_item (σ : Sg) (c : Nat) (a0 : Int) : Int := (if a0 < 0 then (-1) else (if (σ c 4) ≤ a0 then (-1) else σ (c + 1) a0.toNat))
theorem hd_X5_item : yX5_item.cls = RX5 ∧ yX5_item.cls ≠ "java/lang/invoke/MethodHandle" ∧ yX5_item.cls ≠ "java/lang/invoke/VarHandle" ∧ (parseMethodDescriptor yX5_item.desc).map (fun d => d.parameters.length) = some 1 := by decide +kernel
set_option maxHeartbeats 4000000 in
set_option maxRecDepth 100000 in
theorem c_X5_item (l : Launch) (D : va_G) (cy : Nat → ClassId) (ad : Nat → Nat) (σ : Sg) (c : Nat) (hc : isRu c) (a0 : Int) (ha0 : (-2147483648 ≤ a0 ∧ a0 < 2147483648)) : CM l D cy ad yX5_item wsX5_item { frames := 0, cells := 0, slots := 0, locals := 0 } [.ref (ad c), .int (iI a0)] σ (some (.int (iI (f_X5_item σ c a0)))) σ (-1 ≤ (f_X5_item σ c a0) ∧ (f_X5_item σ c a0) ≤ 255) := by
  refine CM.of (cc := cX5_item) (maxL := 2) (ret := (some .int)) (by decide) rfl (Nat.le_of_ble_eq_true rfl) ?_
  intro p e s m args below meth c₀ ls X hI hl
  have hl : lv_has ls 2 [(0, .ref (ad c)), (1, .int (iI a0))] := hl
  obtain ⟨hx, hb, hr, hml, hown, hts, hlocks, hK, hN⟩ := id X
  have hF := hI.2.2.2
  refine lv_iload_n hx hb dX5_item_0 rfl (lv_at hl 1 rfl) ?_
  refine g_if_lt (tgt := 21) hx hb dX5_item_1 (by decide) (by omega) (fun c_1 => ?_) (fun c_1 => ?_)
  · skip
    refine lv_iconst (v := iI (-1)) hx hb dX5_item_21 rfl ?_
    have e9 : f_X5_item σ c a0 = (-1) := by rw [f_X5_item, if_pos c_1]
    exact g_iret (z := (-1)) hx hb hr hK hN hlocks hI e9.symm rfl (by rw [e9] <;> first | (omega) | (dsimp only; omega)) dX5_item_22
  · skip
    refine lv_iload_n hx hb dX5_item_4 rfl (lv_at hl 1 rfl) ?_
    refine lv_aload_n hx hb dX5_item_5 rfl (lv_at hl 0 rfl) ?_
    refine g_get (C := RX5) (T := TX5) (N := 8) (ci := 5) (v := .int (iI (σ c 4))) hx hb hts in_X5_item_X5 hown hK hI c (by rcases hc with q | q <;> rw [q] <;> decide) (cel_Ru cy ad hc _) rfl 4 (by decide) (by decide +kernel) rfl dX5_item_6 ?_
    have b_2 := bd_Ru_4 hF hc
    refine g_icmp_ge (tgt := 21) hx hb dX5_item_9 (by decide) (by omega) (by omega) (fun c_3 => ?_) (fun c_3 => ?_)
    · skip
      refine lv_iconst (v := iI (-1)) hx hb dX5_item_21 rfl ?_
      have e9 : f_X5_item σ c a0 = (-1) := by rw [f_X5_item, if_neg c_1, if_pos c_3]
      exact g_iret (z := (-1)) hx hb hr hK hN hlocks hI e9.symm rfl (by rw [e9] <;> first | (omega) | (dsimp only; omega)) dX5_item_22
    · skip
      refine lv_aload_n hx hb dX5_item_12 rfl (lv_at hl 0 rfl) ?_
      refine g_get (C := RX5) (T := TX5) (N := 8) (ci := 5) (v := .ref (ad (c + 1))) hx hb hts in_X5_item_X5 hown hK hI c (by rcases hc with q | q <;> rw [q] <;> decide) (cel_Ru cy ad hc _) rfl 0 (by decide) (by decide +kernel) rfl dX5_item_13 ?_
      refine lv_iload_n hx hb dX5_item_16 rfl (lv_at hl 1 rfl) ?_
      refine g_iald (v := σ (c + 1) a0.toNat) hx hb hK hI (c + 1) (by rcases hc with q | q <;> rw [q] <;> decide) (cel_Rr cy ad hc ⟨by decide, by decide⟩) (by omega) (by decide) rfl dX5_item_17 ?_
      have b_4 := bd_Rr_1 hF hc a0.toNat
      refine lv_goto (tgt := 22) hx hb dX5_item_18 (by decide) ?_
      have e9 : f_X5_item σ c a0 = σ (c + 1) a0.toNat := by rw [f_X5_item, if_neg c_1, if_neg c_3]
      exact g_iret (z := σ (c + 1) a0.toNat) hx hb hr hK hN hlocks hI e9.symm rfl (by rw [e9] <;> first | (omega) | (dsimp only; omega)) dX5_item_22
theorem in_X5_partSign_X5 : ∀ w ∈ u_ws RX5 TX5 8, w ∈ wsX5_partSign := by decide +kernel
def f_X5_partSign (σ : Sg) (c : Nat) (a0 : Int) : Int := (if a0 < 0 then (-1) else (if (σ c 6) ≤ a0 then (-1) else σ (c + 3) a0.toNat))
theorem hd_X5_partSign : yX5_partSign.cls = RX5 ∧ yX5_partSign.cls ≠ "java/lang/invoke/MethodHandle" ∧ yX5_partSign.cls ≠ "java/lang/invoke/VarHandle" ∧ (parseMethodDescriptor yX5_partSign.desc).map (fun d => d.parameters.length) = some 1 := by decide +kernel
set_option maxHeartbeats 4000000 in
set_option maxRecDepth 100000 in
theorem c_X5_partSign (l : Launch) (D : va_G) (cy : Nat → ClassId) (ad : Nat → Nat) (σ : Sg) (c : Nat) (hc : isRu c) (a0 : Int) (ha0 : (-2147483648 ≤ a0 ∧ a0 < 2147483648)) : CM l D cy ad yX5_partSign wsX5_partSign { frames := 0, cells := 0, slots := 0, locals := 0 } [.ref (ad c), .int (iI a0)] σ (some (.int (iI (f_X5_partSign σ c a0)))) σ (-1 ≤ (f_X5_partSign σ c a0) ∧ (f_X5_partSign σ c a0) ≤ 255) := by
  refine CM.of (cc := cX5_partSign) (maxL := 2) (ret := (some .int)) (by decide) rfl (Nat.le_of_ble_eq_true rfl) ?_
  intro p e s m args below meth c₀ ls X hI hl
  have hl : lv_has ls 2 [(0, .ref (ad c)), (1, .int (iI a0))] := hl
  obtain ⟨hx, hb, hr, hml, hown, hts, hlocks, hK, hN⟩ := id X
  have hF := hI.2.2.2
  refine lv_iload_n hx hb dX5_partSign_0 rfl (lv_at hl 1 rfl) ?_
  refine g_if_lt (tgt := 21) hx hb dX5_partSign_1 (by decide) (by omega) (fun c_1 => ?_) (fun c_1 => ?_)
  · skip
    refine lv_iconst (v := iI (-1)) hx hb dX5_partSign_21 rfl ?_
    have e9 : f_X5_partSign σ c a0 = (-1) := by rw [f_X5_partSign, if_pos c_1]
    exact g_iret (z := (-1)) hx hb hr hK hN hlocks hI e9.symm rfl (by rw [e9] <;> first | (omega) | (dsimp only; omega)) dX5_partSign_22
  · skip
    refine lv_iload_n hx hb dX5_partSign_4 rfl (lv_at hl 1 rfl) ?_
    refine lv_aload_n hx hb dX5_partSign_5 rfl (lv_at hl 0 rfl) ?_
    refine g_get (C := RX5) (T := TX5) (N := 8) (ci := 5) (v := .int (iI (σ c 6))) hx hb hts in_X5_partSign_X5 hown hK hI c (by rcases hc with q | q <;> rw [q] <;> decide) (cel_Ru cy ad hc _) rfl 6 (by decide) (by decide +kernel) rfl dX5_partSign_6 ?_
    have b_2 := bd_Ru_6 hF hc
    refine g_icmp_ge (tgt := 21) hx hb dX5_partSign_9 (by decide) (by omega) (by omega) (fun c_3 => ?_) (fun c_3 => ?_)
    · skip
      refine lv_iconst (v := iI (-1)) hx hb dX5_partSign_21 rfl ?_
      have e9 : f_X5_partSign σ c a0 = (-1) := by rw [f_X5_partSign, if_neg c_1, if_pos c_3]
      exact g_iret (z := (-1)) hx hb hr hK hN hlocks hI e9.symm rfl (by rw [e9] <;> first | (omega) | (dsimp only; omega)) dX5_partSign_22
    · skip
      refine lv_aload_n hx hb dX5_partSign_12 rfl (lv_at hl 0 rfl) ?_
      refine g_get (C := RX5) (T := TX5) (N := 8) (ci := 5) (v := .ref (ad (c + 3))) hx hb hts in_X5_partSign_X5 hown hK hI c (by rcases hc with q | q <;> rw [q] <;> decide) (cel_Ru cy ad hc _) rfl 2 (by decide) (by decide +kernel) rfl dX5_partSign_13 ?_
      refine lv_iload_n hx hb dX5_partSign_16 rfl (lv_at hl 1 rfl) ?_
      refine g_iald (v := σ (c + 3) a0.toNat) hx hb hK hI (c + 3) (by rcases hc with q | q <;> rw [q] <;> decide) (cel_Rr cy ad hc ⟨by decide, by decide⟩) (by omega) (by decide) rfl dX5_partSign_17 ?_
      have b_4 := bd_Rr_3 hF hc a0.toNat
      refine lv_goto (tgt := 22) hx hb dX5_partSign_18 (by decide) ?_
      have e9 : f_X5_partSign σ c a0 = σ (c + 3) a0.toNat := by rw [f_X5_partSign, if_neg c_1, if_neg c_3]
      exact g_iret (z := σ (c + 3) a0.toNat) hx hb hr hK hN hlocks hI e9.symm rfl (by rw [e9] <;> first | (omega) | (dsimp only; omega)) dX5_partSign_22
theorem in_X5_partFigure_X5 : ∀ w ∈ u_ws RX5 TX5 8, w ∈ wsX5_partFigure := by decide +kernel
def f_X5_partFigure (σ : Sg) (c : Nat) (a0 : Int) : Int := (if a0 < 0 then (-1) else (if (σ c 6) ≤ a0 then (-1) else σ (c + 4) a0.toNat))
theorem hd_X5_partFigure : yX5_partFigure.cls = RX5 ∧ yX5_partFigure.cls ≠ "java/lang/invoke/MethodHandle" ∧ yX5_partFigure.cls ≠ "java/lang/invoke/VarHandle" ∧ (parseMethodDescriptor yX5_partFigure.desc).map (fun d => d.parameters.length) = some 1 := by decide +kernel
set_option maxHeartbeats 4000000 in
set_option maxRecDepth 100000 in
theorem c_X5_partFigure (l : Launch) (D : va_G) (cy : Nat → ClassId) (ad : Nat → Nat) (σ : Sg) (c : Nat) (hc : isRu c) (a0 : Int) (ha0 : (-2147483648 ≤ a0 ∧ a0 < 2147483648)) : CM l D cy ad yX5_partFigure wsX5_partFigure { frames := 0, cells := 0, slots := 0, locals := 0 } [.ref (ad c), .int (iI a0)] σ (some (.int (iI (f_X5_partFigure σ c a0)))) σ (-49 ≤ (f_X5_partFigure σ c a0) ∧ (f_X5_partFigure σ c a0) ≤ 300) := by
  refine CM.of (cc := cX5_partFigure) (maxL := 2) (ret := (some .int)) (by decide) rfl (Nat.le_of_ble_eq_true rfl) ?_
  intro p e s m args below meth c₀ ls X hI hl
  have hl : lv_has ls 2 [(0, .ref (ad c)), (1, .int (iI a0))] := hl
  obtain ⟨hx, hb, hr, hml, hown, hts, hlocks, hK, hN⟩ := id X
  have hF := hI.2.2.2
  refine lv_iload_n hx hb dX5_partFigure_0 rfl (lv_at hl 1 rfl) ?_
  refine g_if_lt (tgt := 21) hx hb dX5_partFigure_1 (by decide) (by omega) (fun c_1 => ?_) (fun c_1 => ?_)
  · skip
    refine lv_iconst (v := iI (-1)) hx hb dX5_partFigure_21 rfl ?_
    have e9 : f_X5_partFigure σ c a0 = (-1) := by rw [f_X5_partFigure, if_pos c_1]
    exact g_iret (z := (-1)) hx hb hr hK hN hlocks hI e9.symm rfl (by rw [e9] <;> first | (omega) | (dsimp only; omega)) dX5_partFigure_22
  · skip
    refine lv_iload_n hx hb dX5_partFigure_4 rfl (lv_at hl 1 rfl) ?_
    refine lv_aload_n hx hb dX5_partFigure_5 rfl (lv_at hl 0 rfl) ?_
    refine g_get (C := RX5) (T := TX5) (N := 8) (ci := 5) (v := .int (iI (σ c 6))) hx hb hts in_X5_partFigure_X5 hown hK hI c (by rcases hc with q | q <;> rw [q] <;> decide) (cel_Ru cy ad hc _) rfl 6 (by decide) (by decide +kernel) rfl dX5_partFigure_6 ?_
    have b_2 := bd_Ru_6 hF hc
    refine g_icmp_ge (tgt := 21) hx hb dX5_partFigure_9 (by decide) (by omega) (by omega) (fun c_3 => ?_) (fun c_3 => ?_)
    · skip
      refine lv_iconst (v := iI (-1)) hx hb dX5_partFigure_21 rfl ?_
      have e9 : f_X5_partFigure σ c a0 = (-1) := by rw [f_X5_partFigure, if_neg c_1, if_pos c_3]
      exact g_iret (z := (-1)) hx hb hr hK hN hlocks hI e9.symm rfl (by rw [e9] <;> first | (omega) | (dsimp only; omega)) dX5_partFigure_22
    · skip
      refine lv_aload_n hx hb dX5_partFigure_12 rfl (lv_at hl 0 rfl) ?_
      refine g_get (C := RX5) (T := TX5) (N := 8) (ci := 5) (v := .ref (ad (c + 4))) hx hb hts in_X5_partFigure_X5 hown hK hI c (by rcases hc with q | q <;> rw [q] <;> decide) (cel_Ru cy ad hc _) rfl 3 (by decide) (by decide +kernel) rfl dX5_partFigure_13 ?_
      refine lv_iload_n hx hb dX5_partFigure_16 rfl (lv_at hl 1 rfl) ?_
      refine g_iald (v := σ (c + 4) a0.toNat) hx hb hK hI (c + 4) (by rcases hc with q | q <;> rw [q] <;> decide) (cel_Rr cy ad hc ⟨by decide, by decide⟩) (by omega) (by decide) rfl dX5_partFigure_17 ?_
      have b_4 := bd_Rr_4 hF hc a0.toNat
      refine lv_goto (tgt := 22) hx hb dX5_partFigure_18 (by decide) ?_
      have e9 : f_X5_partFigure σ c a0 = σ (c + 4) a0.toNat := by rw [f_X5_partFigure, if_neg c_1, if_neg c_3]
      exact g_iret (z := σ (c + 4) a0.toNat) hx hb hr hK hN hlocks hI e9.symm rfl (by rw [e9] <;> first | (omega) | (dsimp only; omega)) dX5_partFigure_22
theorem in_X5_wildItem_X5 : ∀ w ∈ u_ws RX5 TX5 8, w ∈ wsX5_wildItem := by decide +kernel
def f_X5_wildItem (σ : Sg) (c : Nat) (a0 : Int) : Int := (if a0 < 1 then (-1) else (if (σ c 5) < a0 then (-1) else σ (c + 2) ((a0 - 1).toNat)))
theorem hd_X5_wildItem : yX5_wildItem.cls = RX5 ∧ yX5_wildItem.cls ≠ "java/lang/invoke/MethodHandle" ∧ yX5_wildItem.cls ≠ "java/lang/invoke/VarHandle" ∧ (parseMethodDescriptor yX5_wildItem.desc).map (fun d => d.parameters.length) = some 1 := by decide +kernel
set_option maxHeartbeats 4000000 in
set_option maxRecDepth 100000 in
theorem c_X5_wildItem (l : Launch) (D : va_G) (cy : Nat → ClassId) (ad : Nat → Nat) (σ : Sg) (c : Nat) (hc : isRu c) (a0 : Int) (ha0 : (-2147483648 ≤ a0 ∧ a0 < 2147483648)) : CM l D cy ad yX5_wildItem wsX5_wildItem { frames := 0, cells := 0, slots := 0, locals := 0 } [.ref (ad c), .int (iI a0)] σ (some (.int (iI (f_X5_wildItem σ c a0)))) σ (-1 ≤ (f_X5_wildItem σ c a0) ∧ (f_X5_wildItem σ c a0) ≤ 12) := by
  refine CM.of (cc := cX5_wildItem) (maxL := 2) (ret := (some .int)) (by decide) rfl (Nat.le_of_ble_eq_true rfl) ?_
  intro p e s m args below meth c₀ ls X hI hl
  have hl : lv_has ls 2 [(0, .ref (ad c)), (1, .int (iI a0))] := hl
  obtain ⟨hx, hb, hr, hml, hown, hts, hlocks, hK, hN⟩ := id X
  have hF := hI.2.2.2
  refine lv_iload_n hx hb dX5_wildItem_0 rfl (lv_at hl 1 rfl) ?_
  refine lv_iconst (v := iI 1) hx hb dX5_wildItem_1 rfl ?_
  refine g_icmp_lt (tgt := 24) hx hb dX5_wildItem_2 (by decide) (by omega) (by omega) (fun c_1 => ?_) (fun c_1 => ?_)
  · skip
    refine lv_iconst (v := iI (-1)) hx hb dX5_wildItem_24 rfl ?_
    have e9 : f_X5_wildItem σ c a0 = (-1) := by rw [f_X5_wildItem, if_pos c_1]
    exact g_iret (z := (-1)) hx hb hr hK hN hlocks hI e9.symm rfl (by rw [e9] <;> first | (omega) | (dsimp only; omega)) dX5_wildItem_25
  · skip
    refine lv_iload_n hx hb dX5_wildItem_5 rfl (lv_at hl 1 rfl) ?_
    refine lv_aload_n hx hb dX5_wildItem_6 rfl (lv_at hl 0 rfl) ?_
    refine g_get (C := RX5) (T := TX5) (N := 8) (ci := 5) (v := .int (iI (σ c 5))) hx hb hts in_X5_wildItem_X5 hown hK hI c (by rcases hc with q | q <;> rw [q] <;> decide) (cel_Ru cy ad hc _) rfl 5 (by decide) (by decide +kernel) rfl dX5_wildItem_7 ?_
    have b_2 := bd_Ru_5 hF hc
    refine g_icmp_gt (tgt := 24) hx hb dX5_wildItem_10 (by decide) (by omega) (by omega) (fun c_3 => ?_) (fun c_3 => ?_)
    · skip
      refine lv_iconst (v := iI (-1)) hx hb dX5_wildItem_24 rfl ?_
      have e9 : f_X5_wildItem σ c a0 = (-1) := by rw [f_X5_wildItem, if_neg c_1, if_pos c_3]
      exact g_iret (z := (-1)) hx hb hr hK hN hlocks hI e9.symm rfl (by rw [e9] <;> first | (omega) | (dsimp only; omega)) dX5_wildItem_25
    · skip
      refine lv_aload_n hx hb dX5_wildItem_13 rfl (lv_at hl 0 rfl) ?_
      refine g_get (C := RX5) (T := TX5) (N := 8) (ci := 5) (v := .ref (ad (c + 2))) hx hb hts in_X5_wildItem_X5 hown hK hI c (by rcases hc with q | q <;> rw [q] <;> decide) (cel_Ru cy ad hc _) rfl 1 (by decide) (by decide +kernel) rfl dX5_wildItem_14 ?_
      refine lv_iload_n hx hb dX5_wildItem_17 rfl (lv_at hl 1 rfl) ?_
      refine lv_iconst (v := iI 1) hx hb dX5_wildItem_18 rfl ?_
      refine g_isub hx hb dX5_wildItem_19 ?_
      refine g_iald (v := σ (c + 2) ((a0 - 1).toNat)) hx hb hK hI (c + 2) (by rcases hc with q | q <;> rw [q] <;> decide) (cel_Rr cy ad hc ⟨by decide, by decide⟩) (by omega) (by decide) rfl dX5_wildItem_20 ?_
      have b_4 := bd_Rr_2 hF hc ((a0 - 1).toNat)
      refine lv_goto (tgt := 25) hx hb dX5_wildItem_21 (by decide) ?_
      have e9 : f_X5_wildItem σ c a0 = σ (c + 2) ((a0 - 1).toNat) := by rw [f_X5_wildItem, if_neg c_1, if_neg c_3]
      exact g_iret (z := σ (c + 2) ((a0 - 1).toNat)) hx hb hr hK hN hlocks hI e9.symm rfl (by rw [e9] <;> first | (omega) | (dsimp only; omega)) dX5_wildItem_25
theorem in_X5_fault_X5 : ∀ w ∈ u_ws RX5 TX5 8, w ∈ wsX5_fault := by decide +kernel
def f_X5_fault (σ : Sg) (c : Nat) (a0 : Int) (a1 : Int) : Int × Sg := (a0, (up2 σ c 7 a1))
theorem hd_X5_fault : yX5_fault.cls = RX5 ∧ yX5_fault.cls ≠ "java/lang/invoke/MethodHandle" ∧ yX5_fault.cls ≠ "java/lang/invoke/VarHandle" ∧ (parseMethodDescriptor yX5_fault.desc).map (fun d => d.parameters.length) = some 2 := by decide +kernel
set_option maxHeartbeats 4000000 in
set_option maxRecDepth 100000 in
theorem c_X5_fault (l : Launch) (D : va_G) (cy : Nat → ClassId) (ad : Nat → Nat) (σ : Sg) (c : Nat) (hc : isRu c) (a0 : Int) (ha0 : (0 : Int) ≤ a0 ∧ a0 ≤ 3) (a1 : Int) (ha1 : (-1 : Int) ≤ a1 ∧ a1 ≤ 200) : CM l D cy ad yX5_fault wsX5_fault { frames := 0, cells := 0, slots := 0, locals := 0 } [.ref (ad c), .int (iI a0), .int (iI a1)] σ (some (.int (iI ((f_X5_fault σ c a0 a1).1)))) ((f_X5_fault σ c a0 a1).2) (((f_X5_fault σ c a0 a1).1) = a0) := by
  refine CM.of (cc := cX5_fault) (maxL := 3) (ret := (some .int)) (by decide) rfl (Nat.le_of_ble_eq_true rfl) ?_
  intro p e s m args below meth c₀ ls X hI hl
  have hl : lv_has ls 3 [(0, .ref (ad c)), (1, .int (iI a0)), (2, .int (iI a1))] := hl
  obtain ⟨hx, hb, hr, hml, hown, hts, hlocks, hK, hN⟩ := id X
  have hF := hI.2.2.2
  refine lv_aload_n hx hb dX5_fault_0 rfl (lv_at hl 0 rfl) ?_
  refine lv_iload_n hx hb dX5_fault_1 rfl (lv_at hl 2 rfl) ?_
  refine g_put (C := RX5) (T := TX5) (N := 8) (ci := 5) (ty := .int) (z := a1) hx hb hts in_X5_fault_X5 tyX5 tyX5_ok nmX5 hown hK hI c (by rcases hc with q | q <;> rw [q] <;> decide) (cel_Ru cy ad hc) rfl 7 (by decide) (by decide +kernel) rfl (by decide +kernel) rfl rfl (Nat.le_of_ble_eq_true rfl) (by unfold fs_Ru; rw [up2_row]; rfl) (bw_Ru_7 hc (by omega)) dX5_fault_2 (fun H locs hI => ?_)
  have hF_1 := hI.2.2.2
  refine lv_iload_n hx hb dX5_fault_5 rfl (lv_at hl 1 rfl) ?_
  have e9 : f_X5_fault σ c a0 a1 = (a0, (up2 σ c 7 a1)) := by rw [f_X5_fault]
  exact g_iret (z := a0) hx hb hr hK hN hlocks hI (by rw [e9]) (by rw [e9]) (by rw [e9] <;> first | (omega) | (dsimp only; omega)) dX5_fault_6
theorem in_X5_addItem_X5 : ∀ w ∈ u_ws RX5 TX5 8, w ∈ wsX5_addItem := by decide +kernel
def f_X5_addItem (σ : Sg) (c : Nat) (a0 : Int) : Sg := (if (f_X6_isWild a0) = 0 then (up2 (up2 σ (c + 1) ((σ c 4).toNat) a0) c 4 ((σ c 4) + 1)) else (up2 (up2 (up2 (up2 σ (c + 2) ((σ c 5).toNat) (σ c 4)) c 5 ((σ c 5) + 1)) (c + 1) ((σ c 4).toNat) a0) c 4 ((σ c 4) + 1)))
theorem hd_X5_addItem : yX5_addItem.cls = RX5 ∧ yX5_addItem.cls ≠ "java/lang/invoke/MethodHandle" ∧ yX5_addItem.cls ≠ "java/lang/invoke/VarHandle" ∧ (parseMethodDescriptor yX5_addItem.desc).map (fun d => d.parameters.length) = some 1 := by decide +kernel
set_option maxHeartbeats 4000000 in
set_option maxRecDepth 100000 in
theorem c_X5_addItem (l : Launch) (D : va_G) (cy : Nat → ClassId) (ad : Nat → Nat) (σ : Sg) (c : Nat) (hc : isRu c) (a0 : Int) (ha0 : (-1 : Int) ≤ a0 ∧ a0 ≤ 255) (h1 : σ c 4 < 12) (h2 : σ c 5 ≤ σ c 4) : CM l D cy ad yX5_addItem wsX5_addItem { frames := 1, cells := 0, slots := 0, locals := 40 } [.ref (ad c), .int (iI a0)] σ none (f_X5_addItem σ c a0) ((f_X5_addItem σ c a0) c 5 ≤ (f_X5_addItem σ c a0) c 4 ∧ (f_X5_addItem σ c a0) c 4 = σ c 4 + 1) := by
  refine CM.of (cc := cX5_addItem) (maxL := 2) (ret := none) (by decide) rfl (Nat.le_of_ble_eq_true rfl) ?_
  intro p e s m args below meth c₀ ls X hI hl
  have hl : lv_has ls 2 [(0, .ref (ad c)), (1, .int (iI a0))] := hl
  obtain ⟨hx, hb, hr, hml, hown, hts, hlocks, hK, hN⟩ := id X
  have hF := hI.2.2.2
  refine lv_iload_n hx hb dX5_addItem_0 rfl (lv_at hl 1 rfl) ?_
  refine g_S (As := [.int (iI a0)]) (rest := []) (c_X6_isWild l D cy ad σ a0 (by omega)) hx hb hml hown hts hK hN hI hl.1 gX5_addItem_X6_isWild rfl hd_X6_isWild rfl rfl ⟨Nat.le_of_ble_eq_true rfl, Nat.le_of_ble_eq_true rfl⟩ ⟨Nat.zero_le _, Nat.zero_le _⟩ rfl rfl (Nat.le_of_ble_eq_true rfl) dX5_addItem_1 (fun H locs hG_1 hI => ?_)
  refine g_if_eq (tgt := 30) hx hb dX5_addItem_4 (by decide) (by omega) (fun c_2 => ?_) (fun c_2 => ?_)
  · skip
    refine lv_aload_n hx hb dX5_addItem_30 rfl (lv_at hl 0 rfl) ?_
    refine g_get (C := RX5) (T := TX5) (N := 8) (ci := 5) (v := .ref (ad (c + 1))) hx hb hts in_X5_addItem_X5 hown hK hI c (by rcases hc with q | q <;> rw [q] <;> decide) (cel_Ru cy ad hc _) rfl 0 (by decide) (by decide +kernel) rfl dX5_addItem_31 ?_
    refine lv_aload_n hx hb dX5_addItem_34 rfl (lv_at hl 0 rfl) ?_
    refine g_get (C := RX5) (T := TX5) (N := 8) (ci := 5) (v := .int (iI (σ c 4))) hx hb hts in_X5_addItem_X5 hown hK hI c (by rcases hc with q | q <;> rw [q] <;> decide) (cel_Ru cy ad hc _) rfl 4 (by decide) (by decide +kernel) rfl dX5_addItem_35 ?_
    have b_3 := bd_Ru_4 hF hc
    refine lv_iload_n hx hb dX5_addItem_38 rfl (lv_at hl 1 rfl) ?_
    refine g_iast hx hb hK hI (c + 1) (by rcases hc with q | q <;> rw [q] <;> decide) (cel_Rr cy ad hc ⟨by decide, by decide⟩) (by omega) (by decide) (bw_Rr_1 hc (by omega)) dX5_addItem_39 (fun H locs hI => ?_)
    have hF_4 : WF (up2 σ (c + 1) ((σ c 4).toNat) a0) := hI.2.2.2
    refine lv_aload_n hx hb dX5_addItem_40 rfl (lv_at hl 0 rfl) ?_
    refine lv_dup hx hb dX5_addItem_41 rfl ?_
    refine g_get (C := RX5) (T := TX5) (N := 8) (ci := 5) (v := .int (iI (σ c 4))) hx hb hts in_X5_addItem_X5 hown hK hI c (by rcases hc with q | q <;> rw [q] <;> decide) (cel_Ru cy ad hc _) rfl 4 (by decide) (by decide +kernel) (by show some (Value.int (iI ((up2 σ (c + 1) ((σ c 4).toNat) a0) c 4))) = _; rw [up2_cell _ _ _ (by omega)]) dX5_addItem_42 ?_
    have b_5 := bd_Ru_4 hF hc
    refine lv_iconst (v := iI 1) hx hb dX5_addItem_45 rfl ?_
    refine g_iadd hx hb dX5_addItem_46 ?_
    refine g_put (C := RX5) (T := TX5) (N := 8) (ci := 5) (ty := .int) (z := (σ c 4) + 1) hx hb hts in_X5_addItem_X5 tyX5 tyX5_ok nmX5 hown hK hI c (by rcases hc with q | q <;> rw [q] <;> decide) (cel_Ru cy ad hc) rfl 4 (by decide) (by decide +kernel) rfl (by decide +kernel) rfl rfl (Nat.le_of_ble_eq_true rfl) (by unfold fs_Ru; rw [up2_row]; rfl) (bw_Ru_4 hc (by omega)) dX5_addItem_47 (fun H locs hI => ?_)
    have hF_6 := hI.2.2.2
    have e9 : f_X5_addItem σ c a0 = (up2 (up2 σ (c + 1) ((σ c 4).toNat) a0) c 4 ((σ c 4) + 1)) := by rw [f_X5_addItem, if_pos c_2]
    exact g_vret hx hb hr hK hN hlocks hI (by rw [e9]) (by rw [e9] <;> first | (simp [up2_at] <;> omega) | (dsimp only; simp [up2_at] <;> omega)) dX5_addItem_50
  · skip
    refine lv_aload_n hx hb dX5_addItem_7 rfl (lv_at hl 0 rfl) ?_
    refine g_get (C := RX5) (T := TX5) (N := 8) (ci := 5) (v := .ref (ad (c + 2))) hx hb hts in_X5_addItem_X5 hown hK hI c (by rcases hc with q | q <;> rw [q] <;> decide) (cel_Ru cy ad hc _) rfl 1 (by decide) (by decide +kernel) rfl dX5_addItem_8 ?_
    refine lv_aload_n hx hb dX5_addItem_11 rfl (lv_at hl 0 rfl) ?_
    refine g_get (C := RX5) (T := TX5) (N := 8) (ci := 5) (v := .int (iI (σ c 5))) hx hb hts in_X5_addItem_X5 hown hK hI c (by rcases hc with q | q <;> rw [q] <;> decide) (cel_Ru cy ad hc _) rfl 5 (by decide) (by decide +kernel) rfl dX5_addItem_12 ?_
    have b_7 := bd_Ru_5 hF hc
    refine lv_aload_n hx hb dX5_addItem_15 rfl (lv_at hl 0 rfl) ?_
    refine g_get (C := RX5) (T := TX5) (N := 8) (ci := 5) (v := .int (iI (σ c 4))) hx hb hts in_X5_addItem_X5 hown hK hI c (by rcases hc with q | q <;> rw [q] <;> decide) (cel_Ru cy ad hc _) rfl 4 (by decide) (by decide +kernel) rfl dX5_addItem_16 ?_
    have b_8 := bd_Ru_4 hF hc
    refine g_iast hx hb hK hI (c + 2) (by rcases hc with q | q <;> rw [q] <;> decide) (cel_Rr cy ad hc ⟨by decide, by decide⟩) (by omega) (by decide) (bw_Rr_2 hc (by omega)) dX5_addItem_19 (fun H locs hI => ?_)
    have hF_9 : WF (up2 σ (c + 2) ((σ c 5).toNat) (σ c 4)) := hI.2.2.2
    refine lv_aload_n hx hb dX5_addItem_20 rfl (lv_at hl 0 rfl) ?_
    refine lv_dup hx hb dX5_addItem_21 rfl ?_
    refine g_get (C := RX5) (T := TX5) (N := 8) (ci := 5) (v := .int (iI (σ c 5))) hx hb hts in_X5_addItem_X5 hown hK hI c (by rcases hc with q | q <;> rw [q] <;> decide) (cel_Ru cy ad hc _) rfl 5 (by decide) (by decide +kernel) (by show some (Value.int (iI ((up2 σ (c + 2) ((σ c 5).toNat) (σ c 4)) c 5))) = _; rw [up2_cell _ _ _ (by omega)]) dX5_addItem_22 ?_
    have b_10 := bd_Ru_5 hF hc
    refine lv_iconst (v := iI 1) hx hb dX5_addItem_25 rfl ?_
    refine g_iadd hx hb dX5_addItem_26 ?_
    refine g_put (C := RX5) (T := TX5) (N := 8) (ci := 5) (ty := .int) (z := (σ c 5) + 1) hx hb hts in_X5_addItem_X5 tyX5 tyX5_ok nmX5 hown hK hI c (by rcases hc with q | q <;> rw [q] <;> decide) (cel_Ru cy ad hc) rfl 5 (by decide) (by decide +kernel) rfl (by decide +kernel) rfl rfl (Nat.le_of_ble_eq_true rfl) (by unfold fs_Ru; rw [up2_row]; rfl) (bw_Ru_5 hc (by omega)) dX5_addItem_27 (fun H locs hI => ?_)
    have hF_11 := hI.2.2.2
    refine lv_aload_n hx hb dX5_addItem_30 rfl (lv_at hl 0 rfl) ?_
    refine g_get (C := RX5) (T := TX5) (N := 8) (ci := 5) (v := .ref (ad (c + 1))) hx hb hts in_X5_addItem_X5 hown hK hI c (by rcases hc with q | q <;> rw [q] <;> decide) (cel_Ru cy ad hc _) rfl 0 (by decide) (by decide +kernel) rfl dX5_addItem_31 ?_
    refine lv_aload_n hx hb dX5_addItem_34 rfl (lv_at hl 0 rfl) ?_
    refine g_get (C := RX5) (T := TX5) (N := 8) (ci := 5) (v := .int (iI (σ c 4))) hx hb hts in_X5_addItem_X5 hown hK hI c (by rcases hc with q | q <;> rw [q] <;> decide) (cel_Ru cy ad hc _) rfl 4 (by decide) (by decide +kernel) (by show some (Value.int (iI ((up2 (up2 σ (c + 2) ((σ c 5).toNat) (σ c 4)) c 5 ((σ c 5) + 1)) c 4))) = _; rw [up2_slot _ _ (by decide), up2_cell _ _ _ (by omega)]) dX5_addItem_35 ?_
    have b_12 := bd_Ru_4 hF hc
    refine lv_iload_n hx hb dX5_addItem_38 rfl (lv_at hl 1 rfl) ?_
    refine g_iast hx hb hK hI (c + 1) (by rcases hc with q | q <;> rw [q] <;> decide) (cel_Rr cy ad hc ⟨by decide, by decide⟩) (by omega) (by decide) (bw_Rr_1 hc (by omega)) dX5_addItem_39 (fun H locs hI => ?_)
    have hF_13 : WF (up2 (up2 (up2 σ (c + 2) ((σ c 5).toNat) (σ c 4)) c 5 ((σ c 5) + 1)) (c + 1) ((σ c 4).toNat) a0) := hI.2.2.2
    refine lv_aload_n hx hb dX5_addItem_40 rfl (lv_at hl 0 rfl) ?_
    refine lv_dup hx hb dX5_addItem_41 rfl ?_
    refine g_get (C := RX5) (T := TX5) (N := 8) (ci := 5) (v := .int (iI (σ c 4))) hx hb hts in_X5_addItem_X5 hown hK hI c (by rcases hc with q | q <;> rw [q] <;> decide) (cel_Ru cy ad hc _) rfl 4 (by decide) (by decide +kernel) (by show some (Value.int (iI ((up2 (up2 (up2 σ (c + 2) ((σ c 5).toNat) (σ c 4)) c 5 ((σ c 5) + 1)) (c + 1) ((σ c 4).toNat) a0) c 4))) = _; rw [up2_cell _ _ _ (by omega), up2_slot _ _ (by decide), up2_cell _ _ _ (by omega)]) dX5_addItem_42 ?_
    have b_14 := bd_Ru_4 hF hc
    refine lv_iconst (v := iI 1) hx hb dX5_addItem_45 rfl ?_
    refine g_iadd hx hb dX5_addItem_46 ?_
    refine g_put (C := RX5) (T := TX5) (N := 8) (ci := 5) (ty := .int) (z := (σ c 4) + 1) hx hb hts in_X5_addItem_X5 tyX5 tyX5_ok nmX5 hown hK hI c (by rcases hc with q | q <;> rw [q] <;> decide) (cel_Ru cy ad hc) rfl 4 (by decide) (by decide +kernel) rfl (by decide +kernel) rfl rfl (Nat.le_of_ble_eq_true rfl) (by unfold fs_Ru; rw [up2_row]; rfl) (bw_Ru_4 hc (by omega)) dX5_addItem_47 (fun H locs hI => ?_)
    have hF_15 := hI.2.2.2
    have e9 : f_X5_addItem σ c a0 = (up2 (up2 (up2 (up2 σ (c + 2) ((σ c 5).toNat) (σ c 4)) c 5 ((σ c 5) + 1)) (c + 1) ((σ c 4).toNat) a0) c 4 ((σ c 4) + 1)) := by rw [f_X5_addItem, if_neg c_2]
    exact g_vret hx hb hr hK hN hlocks hI (by rw [e9]) (by rw [e9] <;> first | (simp [up2_at] <;> omega) | (dsimp only; simp [up2_at] <;> omega)) dX5_addItem_50
theorem in_X5_readItems_X5 : ∀ w ∈ u_ws RX5 TX5 8, w ∈ wsX5_readItems := by decide +kernel
def L_X5_readItems_2 (c : Nat) : Nat → Int → Sg → Int × Sg
  | 0, x2, σ => (0, σ)
  | n + 1, x2, σ => (if (f_X8_length σ) ≤ x2 then ((f_X5_fault σ c 1 (f_X8_length σ)).1, (f_X5_fault σ c 1 (f_X8_length σ)).2) else (if (f_X8_byteAt σ x2) = 62 then (if (σ c 4) ≤ 0 then (if (f_X6_isOfNames (f_X8_byteAt σ x2)) = 0 then (if (f_X6_isWild (f_X8_byteAt σ x2)) = 0 then ((f_X5_fault σ c 1 x2).1, (f_X5_fault σ c 1 x2).2) else (if (σ c 4) < 12 then L_X5_readItems_2 c n (x2 + 1) (f_X5_addItem σ c (f_X8_byteAt σ x2)) else ((f_X5_fault σ c 2 x2).1, (f_X5_fault σ c 2 x2).2))) else (if (σ c 4) < 12 then L_X5_readItems_2 c n (x2 + 1) (f_X5_addItem σ c (f_X8_byteAt σ x2)) else ((f_X5_fault σ c 2 x2).1, (f_X5_fault σ c 2 x2).2))) else (0, σ)) else (if (f_X6_isOfNames (f_X8_byteAt σ x2)) = 0 then (if (f_X6_isWild (f_X8_byteAt σ x2)) = 0 then ((f_X5_fault σ c 1 x2).1, (f_X5_fault σ c 1 x2).2) else (if (σ c 4) < 12 then L_X5_readItems_2 c n (x2 + 1) (f_X5_addItem σ c (f_X8_byteAt σ x2)) else ((f_X5_fault σ c 2 x2).1, (f_X5_fault σ c 2 x2).2))) else (if (σ c 4) < 12 then L_X5_readItems_2 c n (x2 + 1) (f_X5_addItem σ c (f_X8_byteAt σ x2)) else ((f_X5_fault σ c 2 x2).1, (f_X5_fault σ c 2 x2).2)))))
set_option maxHeartbeats 4000000 in
set_option maxRecDepth 100000 in
theorem w_L_X5_readItems_2 {p : Program} {l : Launch} {e : Env} {s : State} {m : MethodId} {args : Array Value} {below : List Frame} {meth : Method} {c₀ : Code} {D : va_G} {cy : Nat → ClassId} {ad : Nat → Nat} (X : MX p s m args meth c₀ cX5_readItems 4 RX5 (some .int) wsX5_readItems D cy) (c : Nat) (hc : isRu c) : ∀ (n : Nat) (x2 : Int) (σ : Sg) (hx2 : (0 : Int) ≤ x2 ∧ x2 ≤ 80) (hp0 : σ c 5 ≤ σ c 4) (hmu : 80 - x2 < (n : Int)) (H : Heap) (locs : List Loc) (ls : Array Slot) (hI : HI D cy ad s σ H locs) (hl : lv_has ls 4 [(0, .ref (ad c)), (1, .ref (ad 1)), (2, .int (iI x2))]), W p l e { frames := 2, cells := 0, slots := 0, locals := 80 } s m args below meth c₀ H locs 0 0 (MQ below (CQ D cy ad (some (.int (iI ((L_X5_readItems_2 c n x2 σ).1)))) ((L_X5_readItems_2 c n x2 σ).2) (0 ≤ ((L_X5_readItems_2 c n x2 σ).1) ∧ ((L_X5_readItems_2 c n x2 σ).1) ≤ 3) (AA ad s.heap.size)) args s 0 0 (AA ad s.heap.size)) (F0 m 2 ls []) := by
  obtain ⟨hx, hb, hr, hml, hown, hts, hlocks, hK, hN⟩ := id X
  intro n
  induction n with
  | zero =>
    intro x2 σ hx2 hp0 hmu H locs ls hI hl
    exfalso
    have hF := hI.2.2.2
    omega
  | succ n ih =>
    intro x2 σ hx2 hp0 hmu H locs ls hI hl
    have hF := hI.2.2.2
    refine lv_iload_n hx hb dX5_readItems_2 rfl (lv_at hl 2 rfl) ?_
    refine lv_aload_n hx hb dX5_readItems_3 rfl (lv_at hl 1 rfl) ?_
    refine g_V (As := []) (rest := [.int (iI x2)]) 1 (c_X8_length l D cy ad σ ) hx hb hml hown hts hK hN hI hl.1 gX5_readItems_X8_length rfl hd_X8_length rfl rfl ⟨Nat.le_of_ble_eq_true rfl, Nat.le_of_ble_eq_true rfl⟩ ⟨Nat.zero_le _, Nat.zero_le _⟩ (by decide) (cel_1 cy ad _) rfl rfl rfl rfl (Nat.le_of_ble_eq_true rfl) dX5_readItems_4 (fun H locs hG_1 hI => ?_)
    refine g_icmp_ge (tgt := 79) hx hb dX5_readItems_7 (by decide) (by omega) (by omega) (fun c_2 => ?_) (fun c_2 => ?_)
    · skip
      refine lv_aload_n hx hb dX5_readItems_79 rfl (lv_at hl 0 rfl) ?_
      refine lv_iconst (v := iI 1) hx hb dX5_readItems_80 rfl ?_
      refine lv_aload_n hx hb dX5_readItems_81 rfl (lv_at hl 1 rfl) ?_
      refine g_V (As := []) (rest := [.int (iI 1), .ref (ad c)]) 1 (c_X8_length l D cy ad σ ) hx hb hml hown hts hK hN hI hl.1 gX5_readItems_X8_length rfl hd_X8_length rfl rfl ⟨Nat.le_of_ble_eq_true rfl, Nat.le_of_ble_eq_true rfl⟩ ⟨Nat.zero_le _, Nat.zero_le _⟩ (by decide) (cel_1 cy ad _) rfl rfl rfl rfl (Nat.le_of_ble_eq_true rfl) dX5_readItems_82 (fun H locs hG_3 hI => ?_)
      refine g_V (As := [.int (iI 1), .int (iI (f_X8_length σ))]) (rest := []) c (c_X5_fault l D cy ad σ c hc 1 (by omega) (f_X8_length σ) (by omega)) hx hb hml hown hts hK hN hI hl.1 gX5_readItems_X5_fault rfl hd_X5_fault rfl rfl ⟨Nat.le_of_ble_eq_true rfl, Nat.le_of_ble_eq_true rfl⟩ ⟨Nat.zero_le _, Nat.zero_le _⟩ (by rcases hc with q | q <;> rw [q] <;> decide) (cel_Ru cy ad hc _) rfl rfl rfl rfl (Nat.le_of_ble_eq_true rfl) dX5_readItems_85 (fun H locs hG_4 hI => ?_)
      have hF_5 := hI.2.2.2
      have e9 : L_X5_readItems_2 c (n + 1) x2 σ = ((f_X5_fault σ c 1 (f_X8_length σ)).1, (f_X5_fault σ c 1 (f_X8_length σ)).2) := by rw [L_X5_readItems_2, if_pos c_2]
      exact g_iret (z := (f_X5_fault σ c 1 (f_X8_length σ)).1) hx hb hr hK hN hlocks hI (by rw [e9]) (by rw [e9]) (by rw [e9] <;> first | (omega) | (dsimp only; omega)) dX5_readItems_88
    · skip
      refine lv_aload_n hx hb dX5_readItems_10 rfl (lv_at hl 1 rfl) ?_
      refine lv_iload_n hx hb dX5_readItems_11 rfl (lv_at hl 2 rfl) ?_
      refine g_V (As := [.int (iI x2)]) (rest := []) 1 (c_X8_byteAt l D cy ad σ x2 (by omega)) hx hb hml hown hts hK hN hI hl.1 gX5_readItems_X8_byteAt rfl hd_X8_byteAt rfl rfl ⟨Nat.le_of_ble_eq_true rfl, Nat.le_of_ble_eq_true rfl⟩ ⟨Nat.zero_le _, Nat.zero_le _⟩ (by decide) (cel_1 cy ad _) rfl rfl rfl rfl (Nat.le_of_ble_eq_true rfl) dX5_readItems_12 (fun H locs hG_6 hI => ?_)
      refine lv_istore_n (lv' := [(3, .int (iI (f_X8_byteAt σ x2))), (0, .ref (ad c)), (1, .ref (ad 1)), (2, .int (iI x2))]) hx hb dX5_readItems_15 rfl hl (by decide) rfl (fun ls hl => ?_)
      refine lv_iload_n hx hb dX5_readItems_16 rfl (lv_at hl 0 rfl) ?_
      refine lv_bipush (v := iI 62) hx hb dX5_readItems_17 (iI_bip (by decide)) ?_
      refine g_icmp_ne (tgt := 31) hx hb dX5_readItems_19 (by decide) (by omega) (by omega) (fun c_7 => ?_) (fun c_7 => ?_)
      · skip
        refine lv_iload_n hx hb dX5_readItems_31 rfl (lv_at hl 0 rfl) ?_
        refine g_S (As := [.int (iI (f_X8_byteAt σ x2))]) (rest := []) (c_X6_isOfNames l D cy ad σ (f_X8_byteAt σ x2) (by omega)) hx hb hml hown hts hK hN hI hl.1 gX5_readItems_X6_isOfNames rfl hd_X6_isOfNames rfl rfl ⟨Nat.le_of_ble_eq_true rfl, Nat.le_of_ble_eq_true rfl⟩ ⟨Nat.zero_le _, Nat.zero_le _⟩ rfl rfl (Nat.le_of_ble_eq_true rfl) dX5_readItems_32 (fun H locs hG_8 hI => ?_)
        refine g_if_ne (tgt := 52) hx hb dX5_readItems_35 (by decide) (by omega) (fun c_9 => ?_) (fun c_9 => ?_)
        · skip
          refine lv_aload_n hx hb dX5_readItems_52 rfl (lv_at hl 1 rfl) ?_
          refine g_get (C := RX5) (T := TX5) (N := 8) (ci := 5) (v := .int (iI (σ c 4))) hx hb hts in_X5_readItems_X5 hown hK hI c (by rcases hc with q | q <;> rw [q] <;> decide) (cel_Ru cy ad hc _) rfl 4 (by decide) (by decide +kernel) rfl dX5_readItems_53 ?_
          have b_10 := bd_Ru_4 hF hc
          refine lv_bipush (v := iI 12) hx hb dX5_readItems_56 (iI_bip (by decide)) ?_
          refine g_icmp_lt (tgt := 68) hx hb dX5_readItems_58 (by decide) (by omega) (by omega) (fun c_11 => ?_) (fun c_11 => ?_)
          · skip
            refine lv_aload_n hx hb dX5_readItems_68 rfl (lv_at hl 1 rfl) ?_
            refine lv_iload_n hx hb dX5_readItems_69 rfl (lv_at hl 0 rfl) ?_
            refine g_V (As := [.int (iI (f_X8_byteAt σ x2))]) (rest := []) c (c_X5_addItem l D cy ad σ c hc (f_X8_byteAt σ x2) (by omega) (by omega) (by omega)) hx hb hml hown hts hK hN hI hl.1 gX5_readItems_X5_addItem rfl hd_X5_addItem rfl rfl ⟨Nat.le_of_ble_eq_true rfl, Nat.le_of_ble_eq_true rfl⟩ ⟨Nat.zero_le _, Nat.zero_le _⟩ (by rcases hc with q | q <;> rw [q] <;> decide) (cel_Ru cy ad hc _) rfl rfl rfl rfl (Nat.le_of_ble_eq_true rfl) dX5_readItems_70 (fun H locs hG_12 hI => ?_)
            have hF_13 := hI.2.2.2
            refine lv_iinc (v := iI (x2 + 1)) (lv' := [(2, .int (iI (x2 + 1))), (3, .int (iI (f_X8_byteAt σ x2))), (0, .ref (ad c)), (1, .ref (ad 1))]) hx hb dX5_readItems_73 hl (k := 3) rfl (iI_add _ _) (by decide) rfl (fun ls hl => ?_)
            refine lv_goto (tgt := 2) hx hb dX5_readItems_76 (by decide) ?_
            have e9 : L_X5_readItems_2 c (n + 1) x2 σ = L_X5_readItems_2 c n (x2 + 1) (f_X5_addItem σ c (f_X8_byteAt σ x2)) := by rw [L_X5_readItems_2, if_neg c_2, if_neg c_7, if_neg c_9, if_pos c_11]
            rw [e9]
            exact ih (x2 + 1) (f_X5_addItem σ c (f_X8_byteAt σ x2)) (by omega) (by omega) (by omega) _ _ _ hI (lv_sub hl [2, 3, 0] rfl)
          · skip
            refine lv_aload_n hx hb dX5_readItems_61 rfl (lv_at hl 1 rfl) ?_
            refine lv_iconst (v := iI 2) hx hb dX5_readItems_62 rfl ?_
            refine lv_iload_n hx hb dX5_readItems_63 rfl (lv_at hl 3 rfl) ?_
            refine g_V (As := [.int (iI 2), .int (iI x2)]) (rest := []) c (c_X5_fault l D cy ad σ c hc 2 (by omega) x2 (by omega)) hx hb hml hown hts hK hN hI hl.1 gX5_readItems_X5_fault rfl hd_X5_fault rfl rfl ⟨Nat.le_of_ble_eq_true rfl, Nat.le_of_ble_eq_true rfl⟩ ⟨Nat.zero_le _, Nat.zero_le _⟩ (by rcases hc with q | q <;> rw [q] <;> decide) (cel_Ru cy ad hc _) rfl rfl rfl rfl (Nat.le_of_ble_eq_true rfl) dX5_readItems_64 (fun H locs hG_14 hI => ?_)
            have hF_15 := hI.2.2.2
            have e9 : L_X5_readItems_2 c (n + 1) x2 σ = ((f_X5_fault σ c 2 x2).1, (f_X5_fault σ c 2 x2).2) := by rw [L_X5_readItems_2, if_neg c_2, if_neg c_7, if_neg c_9, if_neg c_11]
            exact g_iret (z := (f_X5_fault σ c 2 x2).1) hx hb hr hK hN hlocks hI (by rw [e9]) (by rw [e9]) (by rw [e9] <;> first | (omega) | (dsimp only; omega)) dX5_readItems_67
        · skip
          refine lv_iload_n hx hb dX5_readItems_38 rfl (lv_at hl 0 rfl) ?_
          refine g_S (As := [.int (iI (f_X8_byteAt σ x2))]) (rest := []) (c_X6_isWild l D cy ad σ (f_X8_byteAt σ x2) (by omega)) hx hb hml hown hts hK hN hI hl.1 gX5_readItems_X6_isWild rfl hd_X6_isWild rfl rfl ⟨Nat.le_of_ble_eq_true rfl, Nat.le_of_ble_eq_true rfl⟩ ⟨Nat.zero_le _, Nat.zero_le _⟩ rfl rfl (Nat.le_of_ble_eq_true rfl) dX5_readItems_39 (fun H locs hG_16 hI => ?_)
          refine g_if_ne (tgt := 52) hx hb dX5_readItems_42 (by decide) (by omega) (fun c_17 => ?_) (fun c_17 => ?_)
          · skip
            refine lv_aload_n hx hb dX5_readItems_52 rfl (lv_at hl 1 rfl) ?_
            refine g_get (C := RX5) (T := TX5) (N := 8) (ci := 5) (v := .int (iI (σ c 4))) hx hb hts in_X5_readItems_X5 hown hK hI c (by rcases hc with q | q <;> rw [q] <;> decide) (cel_Ru cy ad hc _) rfl 4 (by decide) (by decide +kernel) rfl dX5_readItems_53 ?_
            have b_18 := bd_Ru_4 hF hc
            refine lv_bipush (v := iI 12) hx hb dX5_readItems_56 (iI_bip (by decide)) ?_
            refine g_icmp_lt (tgt := 68) hx hb dX5_readItems_58 (by decide) (by omega) (by omega) (fun c_19 => ?_) (fun c_19 => ?_)
            · skip
              refine lv_aload_n hx hb dX5_readItems_68 rfl (lv_at hl 1 rfl) ?_
              refine lv_iload_n hx hb dX5_readItems_69 rfl (lv_at hl 0 rfl) ?_
              refine g_V (As := [.int (iI (f_X8_byteAt σ x2))]) (rest := []) c (c_X5_addItem l D cy ad σ c hc (f_X8_byteAt σ x2) (by omega) (by omega) (by omega)) hx hb hml hown hts hK hN hI hl.1 gX5_readItems_X5_addItem rfl hd_X5_addItem rfl rfl ⟨Nat.le_of_ble_eq_true rfl, Nat.le_of_ble_eq_true rfl⟩ ⟨Nat.zero_le _, Nat.zero_le _⟩ (by rcases hc with q | q <;> rw [q] <;> decide) (cel_Ru cy ad hc _) rfl rfl rfl rfl (Nat.le_of_ble_eq_true rfl) dX5_readItems_70 (fun H locs hG_20 hI => ?_)
              have hF_21 := hI.2.2.2
              refine lv_iinc (v := iI (x2 + 1)) (lv' := [(2, .int (iI (x2 + 1))), (3, .int (iI (f_X8_byteAt σ x2))), (0, .ref (ad c)), (1, .ref (ad 1))]) hx hb dX5_readItems_73 hl (k := 3) rfl (iI_add _ _) (by decide) rfl (fun ls hl => ?_)
              refine lv_goto (tgt := 2) hx hb dX5_readItems_76 (by decide) ?_
              have e9 : L_X5_readItems_2 c (n + 1) x2 σ = L_X5_readItems_2 c n (x2 + 1) (f_X5_addItem σ c (f_X8_byteAt σ x2)) := by rw [L_X5_readItems_2, if_neg c_2, if_neg c_7, if_pos c_9, if_neg c_17, if_pos c_19]
              rw [e9]
              exact ih (x2 + 1) (f_X5_addItem σ c (f_X8_byteAt σ x2)) (by omega) (by omega) (by omega) _ _ _ hI (lv_sub hl [2, 3, 0] rfl)
            · skip
              refine lv_aload_n hx hb dX5_readItems_61 rfl (lv_at hl 1 rfl) ?_
              refine lv_iconst (v := iI 2) hx hb dX5_readItems_62 rfl ?_
              refine lv_iload_n hx hb dX5_readItems_63 rfl (lv_at hl 3 rfl) ?_
              refine g_V (As := [.int (iI 2), .int (iI x2)]) (rest := []) c (c_X5_fault l D cy ad σ c hc 2 (by omega) x2 (by omega)) hx hb hml hown hts hK hN hI hl.1 gX5_readItems_X5_fault rfl hd_X5_fault rfl rfl ⟨Nat.le_of_ble_eq_true rfl, Nat.le_of_ble_eq_true rfl⟩ ⟨Nat.zero_le _, Nat.zero_le _⟩ (by rcases hc with q | q <;> rw [q] <;> decide) (cel_Ru cy ad hc _) rfl rfl rfl rfl (Nat.le_of_ble_eq_true rfl) dX5_readItems_64 (fun H locs hG_22 hI => ?_)
              have hF_23 := hI.2.2.2
              have e9 : L_X5_readItems_2 c (n + 1) x2 σ = ((f_X5_fault σ c 2 x2).1, (f_X5_fault σ c 2 x2).2) := by rw [L_X5_readItems_2, if_neg c_2, if_neg c_7, if_pos c_9, if_neg c_17, if_neg c_19]
              exact g_iret (z := (f_X5_fault σ c 2 x2).1) hx hb hr hK hN hlocks hI (by rw [e9]) (by rw [e9]) (by rw [e9] <;> first | (omega) | (dsimp only; omega)) dX5_readItems_67
          · skip
            refine lv_aload_n hx hb dX5_readItems_45 rfl (lv_at hl 1 rfl) ?_
            refine lv_iconst (v := iI 1) hx hb dX5_readItems_46 rfl ?_
            refine lv_iload_n hx hb dX5_readItems_47 rfl (lv_at hl 3 rfl) ?_
            refine g_V (As := [.int (iI 1), .int (iI x2)]) (rest := []) c (c_X5_fault l D cy ad σ c hc 1 (by omega) x2 (by omega)) hx hb hml hown hts hK hN hI hl.1 gX5_readItems_X5_fault rfl hd_X5_fault rfl rfl ⟨Nat.le_of_ble_eq_true rfl, Nat.le_of_ble_eq_true rfl⟩ ⟨Nat.zero_le _, Nat.zero_le _⟩ (by rcases hc with q | q <;> rw [q] <;> decide) (cel_Ru cy ad hc _) rfl rfl rfl rfl (Nat.le_of_ble_eq_true rfl) dX5_readItems_48 (fun H locs hG_24 hI => ?_)
            have hF_25 := hI.2.2.2
            have e9 : L_X5_readItems_2 c (n + 1) x2 σ = ((f_X5_fault σ c 1 x2).1, (f_X5_fault σ c 1 x2).2) := by rw [L_X5_readItems_2, if_neg c_2, if_neg c_7, if_pos c_9, if_pos c_17]
            exact g_iret (z := (f_X5_fault σ c 1 x2).1) hx hb hr hK hN hlocks hI (by rw [e9]) (by rw [e9]) (by rw [e9] <;> first | (omega) | (dsimp only; omega)) dX5_readItems_51
      · skip
        refine lv_aload_n hx hb dX5_readItems_22 rfl (lv_at hl 1 rfl) ?_
        refine g_get (C := RX5) (T := TX5) (N := 8) (ci := 5) (v := .int (iI (σ c 4))) hx hb hts in_X5_readItems_X5 hown hK hI c (by rcases hc with q | q <;> rw [q] <;> decide) (cel_Ru cy ad hc _) rfl 4 (by decide) (by decide +kernel) rfl dX5_readItems_23 ?_
        have b_26 := bd_Ru_4 hF hc
        refine g_if_le (tgt := 31) hx hb dX5_readItems_26 (by decide) (by omega) (fun c_27 => ?_) (fun c_27 => ?_)
        · skip
          refine lv_iload_n hx hb dX5_readItems_31 rfl (lv_at hl 0 rfl) ?_
          refine g_S (As := [.int (iI (f_X8_byteAt σ x2))]) (rest := []) (c_X6_isOfNames l D cy ad σ (f_X8_byteAt σ x2) (by omega)) hx hb hml hown hts hK hN hI hl.1 gX5_readItems_X6_isOfNames rfl hd_X6_isOfNames rfl rfl ⟨Nat.le_of_ble_eq_true rfl, Nat.le_of_ble_eq_true rfl⟩ ⟨Nat.zero_le _, Nat.zero_le _⟩ rfl rfl (Nat.le_of_ble_eq_true rfl) dX5_readItems_32 (fun H locs hG_28 hI => ?_)
          refine g_if_ne (tgt := 52) hx hb dX5_readItems_35 (by decide) (by omega) (fun c_29 => ?_) (fun c_29 => ?_)
          · skip
            refine lv_aload_n hx hb dX5_readItems_52 rfl (lv_at hl 1 rfl) ?_
            refine g_get (C := RX5) (T := TX5) (N := 8) (ci := 5) (v := .int (iI (σ c 4))) hx hb hts in_X5_readItems_X5 hown hK hI c (by rcases hc with q | q <;> rw [q] <;> decide) (cel_Ru cy ad hc _) rfl 4 (by decide) (by decide +kernel) rfl dX5_readItems_53 ?_
            have b_30 := bd_Ru_4 hF hc
            refine lv_bipush (v := iI 12) hx hb dX5_readItems_56 (iI_bip (by decide)) ?_
            refine g_icmp_lt (tgt := 68) hx hb dX5_readItems_58 (by decide) (by omega) (by omega) (fun c_31 => ?_) (fun c_31 => ?_)
            · skip
              refine lv_aload_n hx hb dX5_readItems_68 rfl (lv_at hl 1 rfl) ?_
              refine lv_iload_n hx hb dX5_readItems_69 rfl (lv_at hl 0 rfl) ?_
              refine g_V (As := [.int (iI (f_X8_byteAt σ x2))]) (rest := []) c (c_X5_addItem l D cy ad σ c hc (f_X8_byteAt σ x2) (by omega) (by omega) (by omega)) hx hb hml hown hts hK hN hI hl.1 gX5_readItems_X5_addItem rfl hd_X5_addItem rfl rfl ⟨Nat.le_of_ble_eq_true rfl, Nat.le_of_ble_eq_true rfl⟩ ⟨Nat.zero_le _, Nat.zero_le _⟩ (by rcases hc with q | q <;> rw [q] <;> decide) (cel_Ru cy ad hc _) rfl rfl rfl rfl (Nat.le_of_ble_eq_true rfl) dX5_readItems_70 (fun H locs hG_32 hI => ?_)
              have hF_33 := hI.2.2.2
              refine lv_iinc (v := iI (x2 + 1)) (lv' := [(2, .int (iI (x2 + 1))), (3, .int (iI (f_X8_byteAt σ x2))), (0, .ref (ad c)), (1, .ref (ad 1))]) hx hb dX5_readItems_73 hl (k := 3) rfl (iI_add _ _) (by decide) rfl (fun ls hl => ?_)
              refine lv_goto (tgt := 2) hx hb dX5_readItems_76 (by decide) ?_
              have e9 : L_X5_readItems_2 c (n + 1) x2 σ = L_X5_readItems_2 c n (x2 + 1) (f_X5_addItem σ c (f_X8_byteAt σ x2)) := by rw [L_X5_readItems_2, if_neg c_2, if_pos c_7, if_pos c_27, if_neg c_29, if_pos c_31]
              rw [e9]
              exact ih (x2 + 1) (f_X5_addItem σ c (f_X8_byteAt σ x2)) (by omega) (by omega) (by omega) _ _ _ hI (lv_sub hl [2, 3, 0] rfl)
            · skip
              refine lv_aload_n hx hb dX5_readItems_61 rfl (lv_at hl 1 rfl) ?_
              refine lv_iconst (v := iI 2) hx hb dX5_readItems_62 rfl ?_
              refine lv_iload_n hx hb dX5_readItems_63 rfl (lv_at hl 3 rfl) ?_
              refine g_V (As := [.int (iI 2), .int (iI x2)]) (rest := []) c (c_X5_fault l D cy ad σ c hc 2 (by omega) x2 (by omega)) hx hb hml hown hts hK hN hI hl.1 gX5_readItems_X5_fault rfl hd_X5_fault rfl rfl ⟨Nat.le_of_ble_eq_true rfl, Nat.le_of_ble_eq_true rfl⟩ ⟨Nat.zero_le _, Nat.zero_le _⟩ (by rcases hc with q | q <;> rw [q] <;> decide) (cel_Ru cy ad hc _) rfl rfl rfl rfl (Nat.le_of_ble_eq_true rfl) dX5_readItems_64 (fun H locs hG_34 hI => ?_)
              have hF_35 := hI.2.2.2
              have e9 : L_X5_readItems_2 c (n + 1) x2 σ = ((f_X5_fault σ c 2 x2).1, (f_X5_fault σ c 2 x2).2) := by rw [L_X5_readItems_2, if_neg c_2, if_pos c_7, if_pos c_27, if_neg c_29, if_neg c_31]
              exact g_iret (z := (f_X5_fault σ c 2 x2).1) hx hb hr hK hN hlocks hI (by rw [e9]) (by rw [e9]) (by rw [e9] <;> first | (omega) | (dsimp only; omega)) dX5_readItems_67
          · skip
            refine lv_iload_n hx hb dX5_readItems_38 rfl (lv_at hl 0 rfl) ?_
            refine g_S (As := [.int (iI (f_X8_byteAt σ x2))]) (rest := []) (c_X6_isWild l D cy ad σ (f_X8_byteAt σ x2) (by omega)) hx hb hml hown hts hK hN hI hl.1 gX5_readItems_X6_isWild rfl hd_X6_isWild rfl rfl ⟨Nat.le_of_ble_eq_true rfl, Nat.le_of_ble_eq_true rfl⟩ ⟨Nat.zero_le _, Nat.zero_le _⟩ rfl rfl (Nat.le_of_ble_eq_true rfl) dX5_readItems_39 (fun H locs hG_36 hI => ?_)
            refine g_if_ne (tgt := 52) hx hb dX5_readItems_42 (by decide) (by omega) (fun c_37 => ?_) (fun c_37 => ?_)
            · skip
              refine lv_aload_n hx hb dX5_readItems_52 rfl (lv_at hl 1 rfl) ?_
              refine g_get (C := RX5) (T := TX5) (N := 8) (ci := 5) (v := .int (iI (σ c 4))) hx hb hts in_X5_readItems_X5 hown hK hI c (by rcases hc with q | q <;> rw [q] <;> decide) (cel_Ru cy ad hc _) rfl 4 (by decide) (by decide +kernel) rfl dX5_readItems_53 ?_
              have b_38 := bd_Ru_4 hF hc
              refine lv_bipush (v := iI 12) hx hb dX5_readItems_56 (iI_bip (by decide)) ?_
              refine g_icmp_lt (tgt := 68) hx hb dX5_readItems_58 (by decide) (by omega) (by omega) (fun c_39 => ?_) (fun c_39 => ?_)
              · skip
                refine lv_aload_n hx hb dX5_readItems_68 rfl (lv_at hl 1 rfl) ?_
                refine lv_iload_n hx hb dX5_readItems_69 rfl (lv_at hl 0 rfl) ?_
                refine g_V (As := [.int (iI (f_X8_byteAt σ x2))]) (rest := []) c (c_X5_addItem l D cy ad σ c hc (f_X8_byteAt σ x2) (by omega) (by omega) (by omega)) hx hb hml hown hts hK hN hI hl.1 gX5_readItems_X5_addItem rfl hd_X5_addItem rfl rfl ⟨Nat.le_of_ble_eq_true rfl, Nat.le_of_ble_eq_true rfl⟩ ⟨Nat.zero_le _, Nat.zero_le _⟩ (by rcases hc with q | q <;> rw [q] <;> decide) (cel_Ru cy ad hc _) rfl rfl rfl rfl (Nat.le_of_ble_eq_true rfl) dX5_readItems_70 (fun H locs hG_40 hI => ?_)
                have hF_41 := hI.2.2.2
                refine lv_iinc (v := iI (x2 + 1)) (lv' := [(2, .int (iI (x2 + 1))), (3, .int (iI (f_X8_byteAt σ x2))), (0, .ref (ad c)), (1, .ref (ad 1))]) hx hb dX5_readItems_73 hl (k := 3) rfl (iI_add _ _) (by decide) rfl (fun ls hl => ?_)
                refine lv_goto (tgt := 2) hx hb dX5_readItems_76 (by decide) ?_
                have e9 : L_X5_readItems_2 c (n + 1) x2 σ = L_X5_readItems_2 c n (x2 + 1) (f_X5_addItem σ c (f_X8_byteAt σ x2)) := by rw [L_X5_readItems_2, if_neg c_2, if_pos c_7, if_pos c_27, if_pos c_29, if_neg c_37, if_pos c_39]
                rw [e9]
                exact ih (x2 + 1) (f_X5_addItem σ c (f_X8_byteAt σ x2)) (by omega) (by omega) (by omega) _ _ _ hI (lv_sub hl [2, 3, 0] rfl)
              · skip
                refine lv_aload_n hx hb dX5_readItems_61 rfl (lv_at hl 1 rfl) ?_
                refine lv_iconst (v := iI 2) hx hb dX5_readItems_62 rfl ?_
                refine lv_iload_n hx hb dX5_readItems_63 rfl (lv_at hl 3 rfl) ?_
                refine g_V (As := [.int (iI 2), .int (iI x2)]) (rest := []) c (c_X5_fault l D cy ad σ c hc 2 (by omega) x2 (by omega)) hx hb hml hown hts hK hN hI hl.1 gX5_readItems_X5_fault rfl hd_X5_fault rfl rfl ⟨Nat.le_of_ble_eq_true rfl, Nat.le_of_ble_eq_true rfl⟩ ⟨Nat.zero_le _, Nat.zero_le _⟩ (by rcases hc with q | q <;> rw [q] <;> decide) (cel_Ru cy ad hc _) rfl rfl rfl rfl (Nat.le_of_ble_eq_true rfl) dX5_readItems_64 (fun H locs hG_42 hI => ?_)
                have hF_43 := hI.2.2.2
                have e9 : L_X5_readItems_2 c (n + 1) x2 σ = ((f_X5_fault σ c 2 x2).1, (f_X5_fault σ c 2 x2).2) := by rw [L_X5_readItems_2, if_neg c_2, if_pos c_7, if_pos c_27, if_pos c_29, if_neg c_37, if_neg c_39]
                exact g_iret (z := (f_X5_fault σ c 2 x2).1) hx hb hr hK hN hlocks hI (by rw [e9]) (by rw [e9]) (by rw [e9] <;> first | (omega) | (dsimp only; omega)) dX5_readItems_67
            · skip
              refine lv_aload_n hx hb dX5_readItems_45 rfl (lv_at hl 1 rfl) ?_
              refine lv_iconst (v := iI 1) hx hb dX5_readItems_46 rfl ?_
              refine lv_iload_n hx hb dX5_readItems_47 rfl (lv_at hl 3 rfl) ?_
              refine g_V (As := [.int (iI 1), .int (iI x2)]) (rest := []) c (c_X5_fault l D cy ad σ c hc 1 (by omega) x2 (by omega)) hx hb hml hown hts hK hN hI hl.1 gX5_readItems_X5_fault rfl hd_X5_fault rfl rfl ⟨Nat.le_of_ble_eq_true rfl, Nat.le_of_ble_eq_true rfl⟩ ⟨Nat.zero_le _, Nat.zero_le _⟩ (by rcases hc with q | q <;> rw [q] <;> decide) (cel_Ru cy ad hc _) rfl rfl rfl rfl (Nat.le_of_ble_eq_true rfl) dX5_readItems_48 (fun H locs hG_44 hI => ?_)
              have hF_45 := hI.2.2.2
              have e9 : L_X5_readItems_2 c (n + 1) x2 σ = ((f_X5_fault σ c 1 x2).1, (f_X5_fault σ c 1 x2).2) := by rw [L_X5_readItems_2, if_neg c_2, if_pos c_7, if_pos c_27, if_pos c_29, if_pos c_37]
              exact g_iret (z := (f_X5_fault σ c 1 x2).1) hx hb hr hK hN hlocks hI (by rw [e9]) (by rw [e9]) (by rw [e9] <;> first | (omega) | (dsimp only; omega)) dX5_readItems_51
        · skip
          refine lv_iconst (v := iI 0) hx hb dX5_readItems_29 rfl ?_
          have e9 : L_X5_readItems_2 c (n + 1) x2 σ = (0, σ) := by rw [L_X5_readItems_2, if_neg c_2, if_pos c_7, if_neg c_27]
          exact g_iret (z := 0) hx hb hr hK hN hlocks hI (by rw [e9]) (by rw [e9]) (by rw [e9] <;> first | (omega) | (dsimp only; omega)) dX5_readItems_30
def f_X5_readItems (σ : Sg) (c : Nat) : Int × Sg := L_X5_readItems_2 c 81 0 σ
theorem hd_X5_readItems : yX5_readItems.cls = RX5 ∧ yX5_readItems.cls ≠ "java/lang/invoke/MethodHandle" ∧ yX5_readItems.cls ≠ "java/lang/invoke/VarHandle" ∧ (parseMethodDescriptor yX5_readItems.desc).map (fun d => d.parameters.length) = some 1 := by decide +kernel
set_option maxHeartbeats 4000000 in
set_option maxRecDepth 100000 in
theorem c_X5_readItems (l : Launch) (D : va_G) (cy : Nat → ClassId) (ad : Nat → Nat) (σ : Sg) (c : Nat) (hc : isRu c) (h2 : σ c 5 ≤ σ c 4) : CM l D cy ad yX5_readItems wsX5_readItems { frames := 2, cells := 0, slots := 0, locals := 80 } [.ref (ad c), .ref (ad 1)] σ (some (.int (iI ((f_X5_readItems σ c).1)))) ((f_X5_readItems σ c).2) (0 ≤ ((f_X5_readItems σ c).1) ∧ ((f_X5_readItems σ c).1) ≤ 3) := by
  refine CM.of (cc := cX5_readItems) (maxL := 4) (ret := (some .int)) (by decide) rfl (Nat.le_of_ble_eq_true rfl) ?_
  intro p e s m args below meth c₀ ls X hI hl
  have hl : lv_has ls 4 [(0, .ref (ad c)), (1, .ref (ad 1))] := hl
  obtain ⟨hx, hb, hr, hml, hown, hts, hlocks, hK, hN⟩ := id X
  have hF := hI.2.2.2
  refine lv_iconst (v := iI 0) hx hb dX5_readItems_0 rfl ?_
  refine lv_istore_n (lv' := [(2, .int (iI 0)), (0, .ref (ad c)), (1, .ref (ad 1))]) hx hb dX5_readItems_1 rfl hl (by decide) rfl (fun ls hl => ?_)
  have e9 : f_X5_readItems σ c = L_X5_readItems_2 c 81 0 σ := by rw [f_X5_readItems]
  rw [e9]
  exact w_L_X5_readItems_2 X  c hc  81 0 σ (by omega) (by omega) (by omega) _ _ _ hI (lv_sub hl [1, 2, 0] rfl)
theorem in_X5_addPart_X5 : ∀ w ∈ u_ws RX5 TX5 8, w ∈ wsX5_addPart := by decide +kernel
def f_X5_addPart (σ : Sg) (c : Nat) (a0 : Int) (a1 : Int) : Sg := (up2 (up2 (up2 σ (c + 3) ((σ c 6).toNat) a0) (c + 4) ((σ c 6).toNat) a1) c 6 ((σ c 6) + 1))
theorem hd_X5_addPart : yX5_addPart.cls = RX5 ∧ yX5_addPart.cls ≠ "java/lang/invoke/MethodHandle" ∧ yX5_addPart.cls ≠ "java/lang/invoke/VarHandle" ∧ (parseMethodDescriptor yX5_addPart.desc).map (fun d => d.parameters.length) = some 2 := by decide +kernel
set_option maxHeartbeats 4000000 in
set_option maxRecDepth 100000 in
theorem c_X5_addPart (l : Launch) (D : va_G) (cy : Nat → ClassId) (ad : Nat → Nat) (σ : Sg) (c : Nat) (hc : isRu c) (a0 : Int) (ha0 : (-1 : Int) ≤ a0 ∧ a0 ≤ 255) (a1 : Int) (ha1 : (-49 : Int) ≤ a1 ∧ a1 ≤ 300) (h1 : σ c 6 < 12) : CM l D cy ad yX5_addPart wsX5_addPart { frames := 0, cells := 0, slots := 0, locals := 0 } [.ref (ad c), .int (iI a0), .int (iI a1)] σ none (f_X5_addPart σ c a0 a1) (True) := by
  refine CM.of (cc := cX5_addPart) (maxL := 3) (ret := none) (by decide) rfl (Nat.le_of_ble_eq_true rfl) ?_
  intro p e s m args below meth c₀ ls X hI hl
  have hl : lv_has ls 3 [(0, .ref (ad c)), (1, .int (iI a0)), (2, .int (iI a1))] := hl
  obtain ⟨hx, hb, hr, hml, hown, hts, hlocks, hK, hN⟩ := id X
  have hF := hI.2.2.2
  refine lv_aload_n hx hb dX5_addPart_0 rfl (lv_at hl 0 rfl) ?_
  refine g_get (C := RX5) (T := TX5) (N := 8) (ci := 5) (v := .ref (ad (c + 3))) hx hb hts in_X5_addPart_X5 hown hK hI c (by rcases hc with q | q <;> rw [q] <;> decide) (cel_Ru cy ad hc _) rfl 2 (by decide) (by decide +kernel) rfl dX5_addPart_1 ?_
  refine lv_aload_n hx hb dX5_addPart_4 rfl (lv_at hl 0 rfl) ?_
  refine g_get (C := RX5) (T := TX5) (N := 8) (ci := 5) (v := .int (iI (σ c 6))) hx hb hts in_X5_addPart_X5 hown hK hI c (by rcases hc with q | q <;> rw [q] <;> decide) (cel_Ru cy ad hc _) rfl 6 (by decide) (by decide +kernel) rfl dX5_addPart_5 ?_
  have b_1 := bd_Ru_6 hF hc
  refine lv_iload_n hx hb dX5_addPart_8 rfl (lv_at hl 1 rfl) ?_
  refine g_iast hx hb hK hI (c + 3) (by rcases hc with q | q <;> rw [q] <;> decide) (cel_Rr cy ad hc ⟨by decide, by decide⟩) (by omega) (by decide) (bw_Rr_3 hc (by omega)) dX5_addPart_9 (fun H locs hI => ?_)
  have hF_2 : WF (up2 σ (c + 3) ((σ c 6).toNat) a0) := hI.2.2.2
  refine lv_aload_n hx hb dX5_addPart_10 rfl (lv_at hl 0 rfl) ?_
  refine g_get (C := RX5) (T := TX5) (N := 8) (ci := 5) (v := .ref (ad (c + 4))) hx hb hts in_X5_addPart_X5 hown hK hI c (by rcases hc with q | q <;> rw [q] <;> decide) (cel_Ru cy ad hc _) rfl 3 (by decide) (by decide +kernel) rfl dX5_addPart_11 ?_
  refine lv_aload_n hx hb dX5_addPart_14 rfl (lv_at hl 0 rfl) ?_
  refine g_get (C := RX5) (T := TX5) (N := 8) (ci := 5) (v := .int (iI (σ c 6))) hx hb hts in_X5_addPart_X5 hown hK hI c (by rcases hc with q | q <;> rw [q] <;> decide) (cel_Ru cy ad hc _) rfl 6 (by decide) (by decide +kernel) (by show some (Value.int (iI ((up2 σ (c + 3) ((σ c 6).toNat) a0) c 6))) = _; rw [up2_cell _ _ _ (by omega)]) dX5_addPart_15 ?_
  have b_3 := bd_Ru_6 hF hc
  refine lv_iload_n hx hb dX5_addPart_18 rfl (lv_at hl 2 rfl) ?_
  refine g_iast hx hb hK hI (c + 4) (by rcases hc with q | q <;> rw [q] <;> decide) (cel_Rr cy ad hc ⟨by decide, by decide⟩) (by omega) (by decide) (bw_Rr_4 hc (by omega)) dX5_addPart_19 (fun H locs hI => ?_)
  have hF_4 : WF (up2 (up2 σ (c + 3) ((σ c 6).toNat) a0) (c + 4) ((σ c 6).toNat) a1) := hI.2.2.2
  refine lv_aload_n hx hb dX5_addPart_20 rfl (lv_at hl 0 rfl) ?_
  refine lv_dup hx hb dX5_addPart_21 rfl ?_
  refine g_get (C := RX5) (T := TX5) (N := 8) (ci := 5) (v := .int (iI (σ c 6))) hx hb hts in_X5_addPart_X5 hown hK hI c (by rcases hc with q | q <;> rw [q] <;> decide) (cel_Ru cy ad hc _) rfl 6 (by decide) (by decide +kernel) (by show some (Value.int (iI ((up2 (up2 σ (c + 3) ((σ c 6).toNat) a0) (c + 4) ((σ c 6).toNat) a1) c 6))) = _; rw [up2_cell _ _ _ (by omega), up2_cell _ _ _ (by omega)]) dX5_addPart_22 ?_
  have b_5 := bd_Ru_6 hF hc
  refine lv_iconst (v := iI 1) hx hb dX5_addPart_25 rfl ?_
  refine g_iadd hx hb dX5_addPart_26 ?_
  refine g_put (C := RX5) (T := TX5) (N := 8) (ci := 5) (ty := .int) (z := (σ c 6) + 1) hx hb hts in_X5_addPart_X5 tyX5 tyX5_ok nmX5 hown hK hI c (by rcases hc with q | q <;> rw [q] <;> decide) (cel_Ru cy ad hc) rfl 6 (by decide) (by decide +kernel) rfl (by decide +kernel) rfl rfl (Nat.le_of_ble_eq_true rfl) (by unfold fs_Ru; rw [up2_row]; rfl) (bw_Ru_6 hc (by omega)) dX5_addPart_27 (fun H locs hI => ?_)
  have hF_6 := hI.2.2.2
  have e9 : f_X5_addPart σ c a0 a1 = (up2 (up2 (up2 σ (c + 3) ((σ c 6).toNat) a0) (c + 4) ((σ c 6).toNat) a1) c 6 ((σ c 6) + 1)) := by rw [f_X5_addPart]
  exact g_vret hx hb hr hK hN hlocks hI (by rw [e9]) trivial dX5_addPart_30
theorem in_X5_faultOfFigure_X5 : ∀ w ∈ u_ws RX5 TX5 8, w ∈ wsX5_faultOfFigure := by decide +kernel
def f_X5_faultOfFigure (σ : Sg) (c : Nat) (a0 : Int) (a1 : Int) : Int := (if (f_X6_isFigure a1) = 0 then 1 else (if a0 = 37 then (if (a1 - 48) < 1 then 1 else (if 4 < (a1 - 48) then 1 else 0)) else (if (a1 - 48) < 1 then 3 else (if (σ c 5) < (a1 - 48) then 3 else 0))))
theorem hd_X5_faultOfFigure : yX5_faultOfFigure.cls = RX5 ∧ yX5_faultOfFigure.cls ≠ "java/lang/invoke/MethodHandle" ∧ yX5_faultOfFigure.cls ≠ "java/lang/invoke/VarHandle" ∧ (parseMethodDescriptor yX5_faultOfFigure.desc).map (fun d => d.parameters.length) = some 2 := by decide +kernel
set_option maxHeartbeats 4000000 in
set_option maxRecDepth 100000 in
theorem c_X5_faultOfFigure (l : Launch) (D : va_G) (cy : Nat → ClassId) (ad : Nat → Nat) (σ : Sg) (c : Nat) (hc : isRu c) (a0 : Int) (ha0 : (-1 : Int) ≤ a0 ∧ a0 ≤ 255) (a1 : Int) (ha1 : (-1 : Int) ≤ a1 ∧ a1 ≤ 255) : CM l D cy ad yX5_faultOfFigure wsX5_faultOfFigure { frames := 1, cells := 0, slots := 0, locals := 40 } [.ref (ad c), .int (iI a0), .int (iI a1)] σ (some (.int (iI (f_X5_faultOfFigure σ c a0 a1)))) σ (0 ≤ (f_X5_faultOfFigure σ c a0 a1) ∧ (f_X5_faultOfFigure σ c a0 a1) ≤ 3) := by
  refine CM.of (cc := cX5_faultOfFigure) (maxL := 4) (ret := (some .int)) (by decide) rfl (Nat.le_of_ble_eq_true rfl) ?_
  intro p e s m args below meth c₀ ls X hI hl
  have hl : lv_has ls 4 [(0, .ref (ad c)), (1, .int (iI a0)), (2, .int (iI a1))] := hl
  obtain ⟨hx, hb, hr, hml, hown, hts, hlocks, hK, hN⟩ := id X
  have hF := hI.2.2.2
  refine lv_iload_n hx hb dX5_faultOfFigure_0 rfl (lv_at hl 2 rfl) ?_
  refine g_S (As := [.int (iI a1)]) (rest := []) (c_X6_isFigure l D cy ad σ a1 (by omega)) hx hb hml hown hts hK hN hI hl.1 gX5_faultOfFigure_X6_isFigure rfl hd_X6_isFigure rfl rfl ⟨Nat.le_of_ble_eq_true rfl, Nat.le_of_ble_eq_true rfl⟩ ⟨Nat.zero_le _, Nat.zero_le _⟩ rfl rfl (Nat.le_of_ble_eq_true rfl) dX5_faultOfFigure_1 (fun H locs hG_1 hI => ?_)
  refine g_if_ne (tgt := 9) hx hb dX5_faultOfFigure_4 (by decide) (by omega) (fun c_2 => ?_) (fun c_2 => ?_)
  · skip
    refine lv_iload_n hx hb dX5_faultOfFigure_9 rfl (lv_at hl 2 rfl) ?_
    refine lv_bipush (v := iI 48) hx hb dX5_faultOfFigure_10 (iI_bip (by decide)) ?_
    refine g_isub hx hb dX5_faultOfFigure_12 ?_
    refine lv_istore_n (lv' := [(3, .int (iI (a1 - 48))), (0, .ref (ad c)), (1, .int (iI a0)), (2, .int (iI a1))]) hx hb dX5_faultOfFigure_13 rfl hl (by decide) rfl (fun ls hl => ?_)
    refine lv_iload_n hx hb dX5_faultOfFigure_14 rfl (lv_at hl 2 rfl) ?_
    refine lv_bipush (v := iI 37) hx hb dX5_faultOfFigure_15 (iI_bip (by decide)) ?_
    refine g_icmp_ne (tgt := 36) hx hb dX5_faultOfFigure_17 (by decide) (by omega) (by omega) (fun c_3 => ?_) (fun c_3 => ?_)
    · skip
      refine lv_iload_n hx hb dX5_faultOfFigure_36 rfl (lv_at hl 0 rfl) ?_
      refine lv_iconst (v := iI 1) hx hb dX5_faultOfFigure_37 rfl ?_
      refine g_icmp_lt (tgt := 53) hx hb dX5_faultOfFigure_38 (by decide) (by omega) (by omega) (fun c_4 => ?_) (fun c_4 => ?_)
      · skip
        refine lv_iconst (v := iI 3) hx hb dX5_faultOfFigure_53 rfl ?_
        have e9 : f_X5_faultOfFigure σ c a0 a1 = 3 := by rw [f_X5_faultOfFigure, if_neg c_2, if_neg c_3, if_pos c_4]
        exact g_iret (z := 3) hx hb hr hK hN hlocks hI e9.symm rfl (by rw [e9] <;> first | (omega) | (dsimp only; omega)) dX5_faultOfFigure_54
      · skip
        refine lv_iload_n hx hb dX5_faultOfFigure_41 rfl (lv_at hl 0 rfl) ?_
        refine lv_aload_n hx hb dX5_faultOfFigure_42 rfl (lv_at hl 1 rfl) ?_
        refine g_get (C := RX5) (T := TX5) (N := 8) (ci := 5) (v := .int (iI (σ c 5))) hx hb hts in_X5_faultOfFigure_X5 hown hK hI c (by rcases hc with q | q <;> rw [q] <;> decide) (cel_Ru cy ad hc _) rfl 5 (by decide) (by decide +kernel) rfl dX5_faultOfFigure_43 ?_
        have b_5 := bd_Ru_5 hF hc
        refine g_icmp_gt (tgt := 53) hx hb dX5_faultOfFigure_46 (by decide) (by omega) (by omega) (fun c_6 => ?_) (fun c_6 => ?_)
        · skip
          refine lv_iconst (v := iI 3) hx hb dX5_faultOfFigure_53 rfl ?_
          have e9 : f_X5_faultOfFigure σ c a0 a1 = 3 := by rw [f_X5_faultOfFigure, if_neg c_2, if_neg c_3, if_neg c_4, if_pos c_6]
          exact g_iret (z := 3) hx hb hr hK hN hlocks hI e9.symm rfl (by rw [e9] <;> first | (omega) | (dsimp only; omega)) dX5_faultOfFigure_54
        · skip
          refine lv_iconst (v := iI 0) hx hb dX5_faultOfFigure_49 rfl ?_
          refine lv_goto (tgt := 54) hx hb dX5_faultOfFigure_50 (by decide) ?_
          have e9 : f_X5_faultOfFigure σ c a0 a1 = 0 := by rw [f_X5_faultOfFigure, if_neg c_2, if_neg c_3, if_neg c_4, if_neg c_6]
          exact g_iret (z := 0) hx hb hr hK hN hlocks hI e9.symm rfl (by rw [e9] <;> first | (omega) | (dsimp only; omega)) dX5_faultOfFigure_54
    · skip
      refine lv_iload_n hx hb dX5_faultOfFigure_20 rfl (lv_at hl 0 rfl) ?_
      refine lv_iconst (v := iI 1) hx hb dX5_faultOfFigure_21 rfl ?_
      refine g_icmp_lt (tgt := 34) hx hb dX5_faultOfFigure_22 (by decide) (by omega) (by omega) (fun c_7 => ?_) (fun c_7 => ?_)
      · skip
        refine lv_iconst (v := iI 1) hx hb dX5_faultOfFigure_34 rfl ?_
        have e9 : f_X5_faultOfFigure σ c a0 a1 = 1 := by rw [f_X5_faultOfFigure, if_neg c_2, if_pos c_3, if_pos c_7]
        exact g_iret (z := 1) hx hb hr hK hN hlocks hI e9.symm rfl (by rw [e9] <;> first | (omega) | (dsimp only; omega)) dX5_faultOfFigure_35
      · skip
        refine lv_iload_n hx hb dX5_faultOfFigure_25 rfl (lv_at hl 0 rfl) ?_
        refine lv_iconst (v := iI 4) hx hb dX5_faultOfFigure_26 rfl ?_
        refine g_icmp_gt (tgt := 34) hx hb dX5_faultOfFigure_27 (by decide) (by omega) (by omega) (fun c_8 => ?_) (fun c_8 => ?_)
        · skip
          refine lv_iconst (v := iI 1) hx hb dX5_faultOfFigure_34 rfl ?_
          have e9 : f_X5_faultOfFigure σ c a0 a1 = 1 := by rw [f_X5_faultOfFigure, if_neg c_2, if_pos c_3, if_neg c_7, if_pos c_8]
          exact g_iret (z := 1) hx hb hr hK hN hlocks hI e9.symm rfl (by rw [e9] <;> first | (omega) | (dsimp only; omega)) dX5_faultOfFigure_35
        · skip
          refine lv_iconst (v := iI 0) hx hb dX5_faultOfFigure_30 rfl ?_
          refine lv_goto (tgt := 35) hx hb dX5_faultOfFigure_31 (by decide) ?_
          have e9 : f_X5_faultOfFigure σ c a0 a1 = 0 := by rw [f_X5_faultOfFigure, if_neg c_2, if_pos c_3, if_neg c_7, if_neg c_8]
          exact g_iret (z := 0) hx hb hr hK hN hlocks hI e9.symm rfl (by rw [e9] <;> first | (omega) | (dsimp only; omega)) dX5_faultOfFigure_35
  · skip
    refine lv_iconst (v := iI 1) hx hb dX5_faultOfFigure_7 rfl ?_
    have e9 : f_X5_faultOfFigure σ c a0 a1 = 1 := by rw [f_X5_faultOfFigure, if_pos c_2]
    exact g_iret (z := 1) hx hb hr hK hN hlocks hI e9.symm rfl (by rw [e9] <;> first | (omega) | (dsimp only; omega)) dX5_faultOfFigure_8
theorem in_X5_readParts_X5 : ∀ w ∈ u_ws RX5 TX5 8, w ∈ wsX5_readParts := by decide +kernel
def L_X5_readParts_2 (c : Nat) (a1 : Int) : Nat → Int → Sg → Int × Sg
  | 0, x3, σ => (0, σ)
  | n + 1, x3, σ => (if (f_X8_length σ) ≤ x3 then (if (σ c 6) ≤ 0 then ((f_X5_fault σ c 1 (f_X8_length σ)).1, (f_X5_fault σ c 1 (f_X8_length σ)).2) else (0, σ)) else (if (f_X8_byteAt σ x3) = 37 then (if (σ c 6) < 12 then (if (f_X5_faultOfFigure σ c (f_X8_byteAt σ x3) (f_X8_byteAt σ (x3 + 1))) = 0 then L_X5_readParts_2 c a1 n ((x3 + 1) + 1) (f_X5_addPart σ c (f_X8_byteAt σ x3) ((f_X8_byteAt σ (x3 + 1)) - 48)) else ((f_X5_fault σ c (f_X5_faultOfFigure σ c (f_X8_byteAt σ x3) (f_X8_byteAt σ (x3 + 1))) (x3 + 1)).1, (f_X5_fault σ c (f_X5_faultOfFigure σ c (f_X8_byteAt σ x3) (f_X8_byteAt σ (x3 + 1))) (x3 + 1)).2)) else ((f_X5_fault σ c 2 x3).1, (f_X5_fault σ c 2 x3).2)) else (if (f_X6_isTaken (f_X8_byteAt σ x3)) = 0 then (if (f_X6_isOfNames (f_X8_byteAt σ x3)) = 0 then ((f_X5_fault σ c 1 x3).1, (f_X5_fault σ c 1 x3).2) else (if (σ c 6) < 12 then L_X5_readParts_2 c a1 n (x3 + 1) (f_X5_addPart σ c (f_X8_byteAt σ x3) ((f_X8_byteAt σ x3) - 48)) else ((f_X5_fault σ c 2 x3).1, (f_X5_fault σ c 2 x3).2))) else (if (σ c 6) < 12 then (if (f_X5_faultOfFigure σ c (f_X8_byteAt σ x3) (f_X8_byteAt σ (x3 + 1))) = 0 then L_X5_readParts_2 c a1 n ((x3 + 1) + 1) (f_X5_addPart σ c (f_X8_byteAt σ x3) ((f_X8_byteAt σ (x3 + 1)) - 48)) else ((f_X5_fault σ c (f_X5_faultOfFigure σ c (f_X8_byteAt σ x3) (f_X8_byteAt σ (x3 + 1))) (x3 + 1)).1, (f_X5_fault σ c (f_X5_faultOfFigure σ c (f_X8_byteAt σ x3) (f_X8_byteAt σ (x3 + 1))) (x3 + 1)).2)) else ((f_X5_fault σ c 2 x3).1, (f_X5_fault σ c 2 x3).2)))))
set_option maxHeartbeats 4000000 in
set_option maxRecDepth 100000 in
theorem w_L_X5_readParts_2 {p : Program} {l : Launch} {e : Env} {s : State} {m : MethodId} {args : Array Value} {below : List Frame} {meth : Method} {c₀ : Code} {D : va_G} {cy : Nat → ClassId} {ad : Nat → Nat} (X : MX p s m args meth c₀ cX5_readParts 7 RX5 (some .int) wsX5_readParts D cy) (c : Nat) (hc : isRu c) (a1 : Int) (ha1 : (0 : Int) ≤ a1 ∧ a1 ≤ 13) : ∀ (n : Nat) (x3 : Int) (σ : Sg) (hx3 : (0 : Int) ≤ x3 ∧ x3 ≤ 100) (hmu : 100 - x3 < (n : Int)) (H : Heap) (locs : List Loc) (ls : Array Slot) (hI : HI D cy ad s σ H locs) (hl : lv_has ls 7 [(0, .ref (ad c)), (1, .ref (ad 1)), (3, .int (iI x3))]), W p l e { frames := 2, cells := 0, slots := 0, locals := 80 } s m args below meth c₀ H locs 0 0 (MQ below (CQ D cy ad (some (.int (iI ((L_X5_readParts_2 c a1 n x3 σ).1)))) ((L_X5_readParts_2 c a1 n x3 σ).2) (0 ≤ ((L_X5_readParts_2 c a1 n x3 σ).1) ∧ ((L_X5_readParts_2 c a1 n x3 σ).1) ≤ 3) (AA ad s.heap.size)) args s 0 0 (AA ad s.heap.size)) (F0 m 2 ls []) := by
  obtain ⟨hx, hb, hr, hml, hown, hts, hlocks, hK, hN⟩ := id X
  intro n
  induction n with
  | zero =>
    intro x3 σ hx3 hmu H locs ls hI hl
    exfalso
    have hF := hI.2.2.2
    omega
  | succ n ih =>
    intro x3 σ hx3 hmu H locs ls hI hl
    have hF := hI.2.2.2
    refine lv_iload_n hx hb dX5_readParts_2 rfl (lv_at hl 2 rfl) ?_
    refine lv_aload_n hx hb dX5_readParts_3 rfl (lv_at hl 1 rfl) ?_
    refine g_V (As := []) (rest := [.int (iI x3)]) 1 (c_X8_length l D cy ad σ ) hx hb hml hown hts hK hN hI hl.1 gX5_readParts_X8_length rfl hd_X8_length rfl rfl ⟨Nat.le_of_ble_eq_true rfl, Nat.le_of_ble_eq_true rfl⟩ ⟨Nat.zero_le _, Nat.zero_le _⟩ (by decide) (cel_1 cy ad _) rfl rfl rfl rfl (Nat.le_of_ble_eq_true rfl) dX5_readParts_4 (fun H locs hG_1 hI => ?_)
    refine g_icmp_ge (tgt := 129) hx hb dX5_readParts_7 (by decide) (by omega) (by omega) (fun c_2 => ?_) (fun c_2 => ?_)
    · skip
      refine lv_aload_n hx hb dX5_readParts_129 rfl (lv_at hl 0 rfl) ?_
      refine g_get (C := RX5) (T := TX5) (N := 8) (ci := 5) (v := .int (iI (σ c 6))) hx hb hts in_X5_readParts_X5 hown hK hI c (by rcases hc with q | q <;> rw [q] <;> decide) (cel_Ru cy ad hc _) rfl 6 (by decide) (by decide +kernel) rfl dX5_readParts_130 ?_
      have b_3 := bd_Ru_6 hF hc
      refine g_if_le (tgt := 140) hx hb dX5_readParts_133 (by decide) (by omega) (fun c_4 => ?_) (fun c_4 => ?_)
      · skip
        refine lv_aload_n hx hb dX5_readParts_140 rfl (lv_at hl 0 rfl) ?_
        refine lv_iconst (v := iI 1) hx hb dX5_readParts_141 rfl ?_
        refine lv_aload_n hx hb dX5_readParts_142 rfl (lv_at hl 1 rfl) ?_
        refine g_V (As := []) (rest := [.int (iI 1), .ref (ad c)]) 1 (c_X8_length l D cy ad σ ) hx hb hml hown hts hK hN hI hl.1 gX5_readParts_X8_length rfl hd_X8_length rfl rfl ⟨Nat.le_of_ble_eq_true rfl, Nat.le_of_ble_eq_true rfl⟩ ⟨Nat.zero_le _, Nat.zero_le _⟩ (by decide) (cel_1 cy ad _) rfl rfl rfl rfl (Nat.le_of_ble_eq_true rfl) dX5_readParts_143 (fun H locs hG_5 hI => ?_)
        refine g_V (As := [.int (iI 1), .int (iI (f_X8_length σ))]) (rest := []) c (c_X5_fault l D cy ad σ c hc 1 (by omega) (f_X8_length σ) (by omega)) hx hb hml hown hts hK hN hI hl.1 gX5_readParts_X5_fault rfl hd_X5_fault rfl rfl ⟨Nat.le_of_ble_eq_true rfl, Nat.le_of_ble_eq_true rfl⟩ ⟨Nat.zero_le _, Nat.zero_le _⟩ (by rcases hc with q | q <;> rw [q] <;> decide) (cel_Ru cy ad hc _) rfl rfl rfl rfl (Nat.le_of_ble_eq_true rfl) dX5_readParts_146 (fun H locs hG_6 hI => ?_)
        have hF_7 := hI.2.2.2
        have e9 : L_X5_readParts_2 c a1 (n + 1) x3 σ = ((f_X5_fault σ c 1 (f_X8_length σ)).1, (f_X5_fault σ c 1 (f_X8_length σ)).2) := by rw [L_X5_readParts_2, if_pos c_2, if_pos c_4]
        exact g_iret (z := (f_X5_fault σ c 1 (f_X8_length σ)).1) hx hb hr hK hN hlocks hI (by rw [e9]) (by rw [e9]) (by rw [e9] <;> first | (omega) | (dsimp only; omega)) dX5_readParts_149
      · skip
        refine lv_iconst (v := iI 0) hx hb dX5_readParts_136 rfl ?_
        refine lv_goto (tgt := 149) hx hb dX5_readParts_137 (by decide) ?_
        have e9 : L_X5_readParts_2 c a1 (n + 1) x3 σ = (0, σ) := by rw [L_X5_readParts_2, if_pos c_2, if_neg c_4]
        exact g_iret (z := 0) hx hb hr hK hN hlocks hI (by rw [e9]) (by rw [e9]) (by rw [e9] <;> first | (omega) | (dsimp only; omega)) dX5_readParts_149
    · skip
      refine lv_aload_n hx hb dX5_readParts_10 rfl (lv_at hl 1 rfl) ?_
      refine lv_iload_n hx hb dX5_readParts_11 rfl (lv_at hl 2 rfl) ?_
      refine g_V (As := [.int (iI x3)]) (rest := []) 1 (c_X8_byteAt l D cy ad σ x3 (by omega)) hx hb hml hown hts hK hN hI hl.1 gX5_readParts_X8_byteAt rfl hd_X8_byteAt rfl rfl ⟨Nat.le_of_ble_eq_true rfl, Nat.le_of_ble_eq_true rfl⟩ ⟨Nat.zero_le _, Nat.zero_le _⟩ (by decide) (cel_1 cy ad _) rfl rfl rfl rfl (Nat.le_of_ble_eq_true rfl) dX5_readParts_12 (fun H locs hG_8 hI => ?_)
      refine lv_istore (lv' := [(4, .int (iI (f_X8_byteAt σ x3))), (0, .ref (ad c)), (1, .ref (ad 1)), (3, .int (iI x3))]) hx hb dX5_readParts_15 hl (by decide) rfl (fun ls hl => ?_)
      refine lv_iload hx hb dX5_readParts_17 (lv_at hl 0 rfl) ?_
      refine lv_bipush (v := iI 37) hx hb dX5_readParts_19 (iI_bip (by decide)) ?_
      refine g_icmp_eq (tgt := 32) hx hb dX5_readParts_21 (by decide) (by omega) (by omega) (fun c_9 => ?_) (fun c_9 => ?_)
      · skip
        refine lv_iconst (v := iI 1) hx hb dX5_readParts_32 rfl ?_
        refine lv_goto (tgt := 37) hx hb dX5_readParts_33 (by decide) ?_
        refine lv_istore (lv' := [(5, .int (iI 1)), (4, .int (iI (f_X8_byteAt σ x3))), (0, .ref (ad c)), (1, .ref (ad 1)), (3, .int (iI x3))]) hx hb dX5_readParts_37 hl (by decide) rfl (fun ls hl => ?_)
        refine lv_iload hx hb dX5_readParts_39 (lv_at hl 0 rfl) ?_
        refine g_if_ne (tgt := 59) hx hb dX5_readParts_41 (by decide) (by omega) (fun c_10 => ?_) (fun c_10 => ?_)
        · skip
          refine lv_aload_n hx hb dX5_readParts_59 rfl (lv_at hl 2 rfl) ?_
          refine g_get (C := RX5) (T := TX5) (N := 8) (ci := 5) (v := .int (iI (σ c 6))) hx hb hts in_X5_readParts_X5 hown hK hI c (by rcases hc with q | q <;> rw [q] <;> decide) (cel_Ru cy ad hc _) rfl 6 (by decide) (by decide +kernel) rfl dX5_readParts_60 ?_
          have b_11 := bd_Ru_6 hF hc
          refine lv_bipush (v := iI 12) hx hb dX5_readParts_63 (iI_bip (by decide)) ?_
          refine g_icmp_lt (tgt := 75) hx hb dX5_readParts_65 (by decide) (by omega) (by omega) (fun c_12 => ?_) (fun c_12 => ?_)
          · skip
            refine lv_iload hx hb dX5_readParts_75 (lv_at hl 0 rfl) ?_
            refine g_if_eq (tgt := 109) hx hb dX5_readParts_77 (by decide) (by omega) (fun c_13 => ?_) (fun c_13 => ?_)
            · exact absurd c_13 (by decide)
            · skip
              refine lv_iinc (v := iI (x3 + 1)) (lv' := [(3, .int (iI (x3 + 1))), (5, .int (iI 1)), (4, .int (iI (f_X8_byteAt σ x3))), (0, .ref (ad c)), (1, .ref (ad 1))]) hx hb dX5_readParts_80 hl (k := 4) rfl (iI_add _ _) (by decide) rfl (fun ls hl => ?_)
              refine lv_aload_n hx hb dX5_readParts_83 rfl (lv_at hl 3 rfl) ?_
              refine lv_iload hx hb dX5_readParts_84 (lv_at hl 2 rfl) ?_
              refine lv_aload_n hx hb dX5_readParts_86 rfl (lv_at hl 4 rfl) ?_
              refine lv_iload_n hx hb dX5_readParts_87 rfl (lv_at hl 0 rfl) ?_
              refine g_V (As := [.int (iI (x3 + 1))]) (rest := [.int (iI (f_X8_byteAt σ x3)), .ref (ad c)]) 1 (c_X8_byteAt l D cy ad σ (x3 + 1) (by omega)) hx hb hml hown hts hK hN hI hl.1 gX5_readParts_X8_byteAt rfl hd_X8_byteAt rfl rfl ⟨Nat.le_of_ble_eq_true rfl, Nat.le_of_ble_eq_true rfl⟩ ⟨Nat.zero_le _, Nat.zero_le _⟩ (by decide) (cel_1 cy ad _) rfl rfl rfl rfl (Nat.le_of_ble_eq_true rfl) dX5_readParts_88 (fun H locs hG_14 hI => ?_)
              refine g_V (As := [.int (iI (f_X8_byteAt σ x3)), .int (iI (f_X8_byteAt σ (x3 + 1)))]) (rest := []) c (c_X5_faultOfFigure l D cy ad σ c hc (f_X8_byteAt σ x3) (by omega) (f_X8_byteAt σ (x3 + 1)) (by omega)) hx hb hml hown hts hK hN hI hl.1 gX5_readParts_X5_faultOfFigure rfl hd_X5_faultOfFigure rfl rfl ⟨Nat.le_of_ble_eq_true rfl, Nat.le_of_ble_eq_true rfl⟩ ⟨Nat.zero_le _, Nat.zero_le _⟩ (by rcases hc with q | q <;> rw [q] <;> decide) (cel_Ru cy ad hc _) rfl rfl rfl rfl (Nat.le_of_ble_eq_true rfl) dX5_readParts_91 (fun H locs hG_15 hI => ?_)
              refine lv_istore (lv' := [(6, .int (iI (f_X5_faultOfFigure σ c (f_X8_byteAt σ x3) (f_X8_byteAt σ (x3 + 1))))), (3, .int (iI (x3 + 1))), (5, .int (iI 1)), (4, .int (iI (f_X8_byteAt σ x3))), (0, .ref (ad c)), (1, .ref (ad 1))]) hx hb dX5_readParts_94 hl (by decide) rfl (fun ls hl => ?_)
              refine lv_iload hx hb dX5_readParts_96 (lv_at hl 0 rfl) ?_
              refine g_if_eq (tgt := 109) hx hb dX5_readParts_98 (by decide) (by omega) (fun c_16 => ?_) (fun c_16 => ?_)
              · skip
                refine lv_aload_n hx hb dX5_readParts_109 rfl (lv_at hl 4 rfl) ?_
                refine lv_iload hx hb dX5_readParts_110 (lv_at hl 3 rfl) ?_
                refine lv_aload_n hx hb dX5_readParts_112 rfl (lv_at hl 5 rfl) ?_
                refine lv_iload_n hx hb dX5_readParts_113 rfl (lv_at hl 1 rfl) ?_
                refine g_V (As := [.int (iI (x3 + 1))]) (rest := [.int (iI (f_X8_byteAt σ x3)), .ref (ad c)]) 1 (c_X8_byteAt l D cy ad σ (x3 + 1) (by omega)) hx hb hml hown hts hK hN hI hl.1 gX5_readParts_X8_byteAt rfl hd_X8_byteAt rfl rfl ⟨Nat.le_of_ble_eq_true rfl, Nat.le_of_ble_eq_true rfl⟩ ⟨Nat.zero_le _, Nat.zero_le _⟩ (by decide) (cel_1 cy ad _) rfl rfl rfl rfl (Nat.le_of_ble_eq_true rfl) dX5_readParts_114 (fun H locs hG_17 hI => ?_)
                refine lv_bipush (v := iI 48) hx hb dX5_readParts_117 (iI_bip (by decide)) ?_
                refine g_isub hx hb dX5_readParts_119 ?_
                refine g_V (As := [.int (iI (f_X8_byteAt σ x3)), .int (iI ((f_X8_byteAt σ (x3 + 1)) - 48))]) (rest := []) c (c_X5_addPart l D cy ad σ c hc (f_X8_byteAt σ x3) (by omega) ((f_X8_byteAt σ (x3 + 1)) - 48) (by omega) (by omega)) hx hb hml hown hts hK hN hI hl.1 gX5_readParts_X5_addPart rfl hd_X5_addPart rfl rfl ⟨Nat.le_of_ble_eq_true rfl, Nat.le_of_ble_eq_true rfl⟩ ⟨Nat.zero_le _, Nat.zero_le _⟩ (by rcases hc with q | q <;> rw [q] <;> decide) (cel_Ru cy ad hc _) rfl rfl rfl rfl (Nat.le_of_ble_eq_true rfl) dX5_readParts_120 (fun H locs hG_18 hI => ?_)
                have hF_19 := hI.2.2.2
                refine lv_iinc (v := iI ((x3 + 1) + 1)) (lv' := [(3, .int (iI ((x3 + 1) + 1))), (6, .int (iI (f_X5_faultOfFigure σ c (f_X8_byteAt σ x3) (f_X8_byteAt σ (x3 + 1))))), (5, .int (iI 1)), (4, .int (iI (f_X8_byteAt σ x3))), (0, .ref (ad c)), (1, .ref (ad 1))]) hx hb dX5_readParts_123 hl (k := 1) rfl (iI_add _ _) (by decide) rfl (fun ls hl => ?_)
                refine lv_goto (tgt := 2) hx hb dX5_readParts_126 (by decide) ?_
                have e9 : L_X5_readParts_2 c a1 (n + 1) x3 σ = L_X5_readParts_2 c a1 n ((x3 + 1) + 1) (f_X5_addPart σ c (f_X8_byteAt σ x3) ((f_X8_byteAt σ (x3 + 1)) - 48)) := by rw [L_X5_readParts_2, if_neg c_2, if_pos c_9, if_pos c_12, if_pos c_16]
                rw [e9]
                exact ih ((x3 + 1) + 1) (f_X5_addPart σ c (f_X8_byteAt σ x3) ((f_X8_byteAt σ (x3 + 1)) - 48)) (by omega) (by omega) _ _ _ hI (lv_sub hl [4, 5, 0] rfl)
              · skip
                refine lv_aload_n hx hb dX5_readParts_101 rfl (lv_at hl 4 rfl) ?_
                refine lv_iload hx hb dX5_readParts_102 (lv_at hl 0 rfl) ?_
                refine lv_iload_n hx hb dX5_readParts_104 rfl (lv_at hl 1 rfl) ?_
                refine g_V (As := [.int (iI (f_X5_faultOfFigure σ c (f_X8_byteAt σ x3) (f_X8_byteAt σ (x3 + 1)))), .int (iI (x3 + 1))]) (rest := []) c (c_X5_fault l D cy ad σ c hc (f_X5_faultOfFigure σ c (f_X8_byteAt σ x3) (f_X8_byteAt σ (x3 + 1))) (by omega) (x3 + 1) (by omega)) hx hb hml hown hts hK hN hI hl.1 gX5_readParts_X5_fault rfl hd_X5_fault rfl rfl ⟨Nat.le_of_ble_eq_true rfl, Nat.le_of_ble_eq_true rfl⟩ ⟨Nat.zero_le _, Nat.zero_le _⟩ (by rcases hc with q | q <;> rw [q] <;> decide) (cel_Ru cy ad hc _) rfl rfl rfl rfl (Nat.le_of_ble_eq_true rfl) dX5_readParts_105 (fun H locs hG_20 hI => ?_)
                have hF_21 := hI.2.2.2
                have e9 : L_X5_readParts_2 c a1 (n + 1) x3 σ = ((f_X5_fault σ c (f_X5_faultOfFigure σ c (f_X8_byteAt σ x3) (f_X8_byteAt σ (x3 + 1))) (x3 + 1)).1, (f_X5_fault σ c (f_X5_faultOfFigure σ c (f_X8_byteAt σ x3) (f_X8_byteAt σ (x3 + 1))) (x3 + 1)).2) := by rw [L_X5_readParts_2, if_neg c_2, if_pos c_9, if_pos c_12, if_neg c_16]
                exact g_iret (z := (f_X5_fault σ c (f_X5_faultOfFigure σ c (f_X8_byteAt σ x3) (f_X8_byteAt σ (x3 + 1))) (x3 + 1)).1) hx hb hr hK hN hlocks hI (by rw [e9]) (by rw [e9]) (by rw [e9] <;> first | (omega) | (dsimp only; omega)) dX5_readParts_108
          · skip
            refine lv_aload_n hx hb dX5_readParts_68 rfl (lv_at hl 2 rfl) ?_
            refine lv_iconst (v := iI 2) hx hb dX5_readParts_69 rfl ?_
            refine lv_iload_n hx hb dX5_readParts_70 rfl (lv_at hl 4 rfl) ?_
            refine g_V (As := [.int (iI 2), .int (iI x3)]) (rest := []) c (c_X5_fault l D cy ad σ c hc 2 (by omega) x3 (by omega)) hx hb hml hown hts hK hN hI hl.1 gX5_readParts_X5_fault rfl hd_X5_fault rfl rfl ⟨Nat.le_of_ble_eq_true rfl, Nat.le_of_ble_eq_true rfl⟩ ⟨Nat.zero_le _, Nat.zero_le _⟩ (by rcases hc with q | q <;> rw [q] <;> decide) (cel_Ru cy ad hc _) rfl rfl rfl rfl (Nat.le_of_ble_eq_true rfl) dX5_readParts_71 (fun H locs hG_22 hI => ?_)
            have hF_23 := hI.2.2.2
            have e9 : L_X5_readParts_2 c a1 (n + 1) x3 σ = ((f_X5_fault σ c 2 x3).1, (f_X5_fault σ c 2 x3).2) := by rw [L_X5_readParts_2, if_neg c_2, if_pos c_9, if_neg c_12]
            exact g_iret (z := (f_X5_fault σ c 2 x3).1) hx hb hr hK hN hlocks hI (by rw [e9]) (by rw [e9]) (by rw [e9] <;> first | (omega) | (dsimp only; omega)) dX5_readParts_74
        · exact absurd c_10 (by decide)
      · skip
        refine lv_iload hx hb dX5_readParts_24 (lv_at hl 0 rfl) ?_
        refine g_S (As := [.int (iI (f_X8_byteAt σ x3))]) (rest := []) (c_X6_isTaken l D cy ad σ (f_X8_byteAt σ x3) (by omega)) hx hb hml hown hts hK hN hI hl.1 gX5_readParts_X6_isTaken rfl hd_X6_isTaken rfl rfl ⟨Nat.le_of_ble_eq_true rfl, Nat.le_of_ble_eq_true rfl⟩ ⟨Nat.zero_le _, Nat.zero_le _⟩ rfl rfl (Nat.le_of_ble_eq_true rfl) dX5_readParts_26 (fun H locs hG_24 hI => ?_)
        refine g_if_eq (tgt := 36) hx hb dX5_readParts_29 (by decide) (by omega) (fun c_25 => ?_) (fun c_25 => ?_)
        · skip
          refine lv_iconst (v := iI 0) hx hb dX5_readParts_36 rfl ?_
          refine lv_istore (lv' := [(5, .int (iI 0)), (4, .int (iI (f_X8_byteAt σ x3))), (0, .ref (ad c)), (1, .ref (ad 1)), (3, .int (iI x3))]) hx hb dX5_readParts_37 hl (by decide) rfl (fun ls hl => ?_)
          refine lv_iload hx hb dX5_readParts_39 (lv_at hl 0 rfl) ?_
          refine g_if_ne (tgt := 59) hx hb dX5_readParts_41 (by decide) (by omega) (fun c_26 => ?_) (fun c_26 => ?_)
          · exact absurd (by decide) c_26
          · skip
            refine lv_iload hx hb dX5_readParts_44 (lv_at hl 1 rfl) ?_
            refine g_S (As := [.int (iI (f_X8_byteAt σ x3))]) (rest := []) (c_X6_isOfNames l D cy ad σ (f_X8_byteAt σ x3) (by omega)) hx hb hml hown hts hK hN hI hl.1 gX5_readParts_X6_isOfNames rfl hd_X6_isOfNames rfl rfl ⟨Nat.le_of_ble_eq_true rfl, Nat.le_of_ble_eq_true rfl⟩ ⟨Nat.zero_le _, Nat.zero_le _⟩ rfl rfl (Nat.le_of_ble_eq_true rfl) dX5_readParts_46 (fun H locs hG_27 hI => ?_)
            refine g_if_ne (tgt := 59) hx hb dX5_readParts_49 (by decide) (by omega) (fun c_28 => ?_) (fun c_28 => ?_)
            · skip
              refine lv_aload_n hx hb dX5_readParts_59 rfl (lv_at hl 2 rfl) ?_
              refine g_get (C := RX5) (T := TX5) (N := 8) (ci := 5) (v := .int (iI (σ c 6))) hx hb hts in_X5_readParts_X5 hown hK hI c (by rcases hc with q | q <;> rw [q] <;> decide) (cel_Ru cy ad hc _) rfl 6 (by decide) (by decide +kernel) rfl dX5_readParts_60 ?_
              have b_29 := bd_Ru_6 hF hc
              refine lv_bipush (v := iI 12) hx hb dX5_readParts_63 (iI_bip (by decide)) ?_
              refine g_icmp_lt (tgt := 75) hx hb dX5_readParts_65 (by decide) (by omega) (by omega) (fun c_30 => ?_) (fun c_30 => ?_)
              · skip
                refine lv_iload hx hb dX5_readParts_75 (lv_at hl 0 rfl) ?_
                refine g_if_eq (tgt := 109) hx hb dX5_readParts_77 (by decide) (by omega) (fun c_31 => ?_) (fun c_31 => ?_)
                · skip
                  refine lv_aload_n hx hb dX5_readParts_109 rfl (lv_at hl 2 rfl) ?_
                  refine lv_iload hx hb dX5_readParts_110 (lv_at hl 1 rfl) ?_
                  refine lv_aload_n hx hb dX5_readParts_112 rfl (lv_at hl 3 rfl) ?_
                  refine lv_iload_n hx hb dX5_readParts_113 rfl (lv_at hl 4 rfl) ?_
                  refine g_V (As := [.int (iI x3)]) (rest := [.int (iI (f_X8_byteAt σ x3)), .ref (ad c)]) 1 (c_X8_byteAt l D cy ad σ x3 (by omega)) hx hb hml hown hts hK hN hI hl.1 gX5_readParts_X8_byteAt rfl hd_X8_byteAt rfl rfl ⟨Nat.le_of_ble_eq_true rfl, Nat.le_of_ble_eq_true rfl⟩ ⟨Nat.zero_le _, Nat.zero_le _⟩ (by decide) (cel_1 cy ad _) rfl rfl rfl rfl (Nat.le_of_ble_eq_true rfl) dX5_readParts_114 (fun H locs hG_32 hI => ?_)
                  refine lv_bipush (v := iI 48) hx hb dX5_readParts_117 (iI_bip (by decide)) ?_
                  refine g_isub hx hb dX5_readParts_119 ?_
                  refine g_V (As := [.int (iI (f_X8_byteAt σ x3)), .int (iI ((f_X8_byteAt σ x3) - 48))]) (rest := []) c (c_X5_addPart l D cy ad σ c hc (f_X8_byteAt σ x3) (by omega) ((f_X8_byteAt σ x3) - 48) (by omega) (by omega)) hx hb hml hown hts hK hN hI hl.1 gX5_readParts_X5_addPart rfl hd_X5_addPart rfl rfl ⟨Nat.le_of_ble_eq_true rfl, Nat.le_of_ble_eq_true rfl⟩ ⟨Nat.zero_le _, Nat.zero_le _⟩ (by rcases hc with q | q <;> rw [q] <;> decide) (cel_Ru cy ad hc _) rfl rfl rfl rfl (Nat.le_of_ble_eq_true rfl) dX5_readParts_120 (fun H locs hG_33 hI => ?_)
                  have hF_34 := hI.2.2.2
                  refine lv_iinc (v := iI (x3 + 1)) (lv' := [(3, .int (iI (x3 + 1))), (5, .int (iI 0)), (4, .int (iI (f_X8_byteAt σ x3))), (0, .ref (ad c)), (1, .ref (ad 1))]) hx hb dX5_readParts_123 hl (k := 4) rfl (iI_add _ _) (by decide) rfl (fun ls hl => ?_)
                  refine lv_goto (tgt := 2) hx hb dX5_readParts_126 (by decide) ?_
                  have e9 : L_X5_readParts_2 c a1 (n + 1) x3 σ = L_X5_readParts_2 c a1 n (x3 + 1) (f_X5_addPart σ c (f_X8_byteAt σ x3) ((f_X8_byteAt σ x3) - 48)) := by rw [L_X5_readParts_2, if_neg c_2, if_neg c_9, if_pos c_25, if_neg c_28, if_pos c_30]
                  rw [e9]
                  exact ih (x3 + 1) (f_X5_addPart σ c (f_X8_byteAt σ x3) ((f_X8_byteAt σ x3) - 48)) (by omega) (by omega) _ _ _ hI (lv_sub hl [3, 4, 0] rfl)
                · exact absurd (by decide) c_31
              · skip
                refine lv_aload_n hx hb dX5_readParts_68 rfl (lv_at hl 2 rfl) ?_
                refine lv_iconst (v := iI 2) hx hb dX5_readParts_69 rfl ?_
                refine lv_iload_n hx hb dX5_readParts_70 rfl (lv_at hl 4 rfl) ?_
                refine g_V (As := [.int (iI 2), .int (iI x3)]) (rest := []) c (c_X5_fault l D cy ad σ c hc 2 (by omega) x3 (by omega)) hx hb hml hown hts hK hN hI hl.1 gX5_readParts_X5_fault rfl hd_X5_fault rfl rfl ⟨Nat.le_of_ble_eq_true rfl, Nat.le_of_ble_eq_true rfl⟩ ⟨Nat.zero_le _, Nat.zero_le _⟩ (by rcases hc with q | q <;> rw [q] <;> decide) (cel_Ru cy ad hc _) rfl rfl rfl rfl (Nat.le_of_ble_eq_true rfl) dX5_readParts_71 (fun H locs hG_35 hI => ?_)
                have hF_36 := hI.2.2.2
                have e9 : L_X5_readParts_2 c a1 (n + 1) x3 σ = ((f_X5_fault σ c 2 x3).1, (f_X5_fault σ c 2 x3).2) := by rw [L_X5_readParts_2, if_neg c_2, if_neg c_9, if_pos c_25, if_neg c_28, if_neg c_30]
                exact g_iret (z := (f_X5_fault σ c 2 x3).1) hx hb hr hK hN hlocks hI (by rw [e9]) (by rw [e9]) (by rw [e9] <;> first | (omega) | (dsimp only; omega)) dX5_readParts_74
            · skip
              refine lv_aload_n hx hb dX5_readParts_52 rfl (lv_at hl 2 rfl) ?_
              refine lv_iconst (v := iI 1) hx hb dX5_readParts_53 rfl ?_
              refine lv_iload_n hx hb dX5_readParts_54 rfl (lv_at hl 4 rfl) ?_
              refine g_V (As := [.int (iI 1), .int (iI x3)]) (rest := []) c (c_X5_fault l D cy ad σ c hc 1 (by omega) x3 (by omega)) hx hb hml hown hts hK hN hI hl.1 gX5_readParts_X5_fault rfl hd_X5_fault rfl rfl ⟨Nat.le_of_ble_eq_true rfl, Nat.le_of_ble_eq_true rfl⟩ ⟨Nat.zero_le _, Nat.zero_le _⟩ (by rcases hc with q | q <;> rw [q] <;> decide) (cel_Ru cy ad hc _) rfl rfl rfl rfl (Nat.le_of_ble_eq_true rfl) dX5_readParts_55 (fun H locs hG_37 hI => ?_)
              have hF_38 := hI.2.2.2
              have e9 : L_X5_readParts_2 c a1 (n + 1) x3 σ = ((f_X5_fault σ c 1 x3).1, (f_X5_fault σ c 1 x3).2) := by rw [L_X5_readParts_2, if_neg c_2, if_neg c_9, if_pos c_25, if_pos c_28]
              exact g_iret (z := (f_X5_fault σ c 1 x3).1) hx hb hr hK hN hlocks hI (by rw [e9]) (by rw [e9]) (by rw [e9] <;> first | (omega) | (dsimp only; omega)) dX5_readParts_58
        · skip
          refine lv_iconst (v := iI 1) hx hb dX5_readParts_32 rfl ?_
          refine lv_goto (tgt := 37) hx hb dX5_readParts_33 (by decide) ?_
          refine lv_istore (lv' := [(5, .int (iI 1)), (4, .int (iI (f_X8_byteAt σ x3))), (0, .ref (ad c)), (1, .ref (ad 1)), (3, .int (iI x3))]) hx hb dX5_readParts_37 hl (by decide) rfl (fun ls hl => ?_)
          refine lv_iload hx hb dX5_readParts_39 (lv_at hl 0 rfl) ?_
          refine g_if_ne (tgt := 59) hx hb dX5_readParts_41 (by decide) (by omega) (fun c_39 => ?_) (fun c_39 => ?_)
          · skip
            refine lv_aload_n hx hb dX5_readParts_59 rfl (lv_at hl 2 rfl) ?_
            refine g_get (C := RX5) (T := TX5) (N := 8) (ci := 5) (v := .int (iI (σ c 6))) hx hb hts in_X5_readParts_X5 hown hK hI c (by rcases hc with q | q <;> rw [q] <;> decide) (cel_Ru cy ad hc _) rfl 6 (by decide) (by decide +kernel) rfl dX5_readParts_60 ?_
            have b_40 := bd_Ru_6 hF hc
            refine lv_bipush (v := iI 12) hx hb dX5_readParts_63 (iI_bip (by decide)) ?_
            refine g_icmp_lt (tgt := 75) hx hb dX5_readParts_65 (by decide) (by omega) (by omega) (fun c_41 => ?_) (fun c_41 => ?_)
            · skip
              refine lv_iload hx hb dX5_readParts_75 (lv_at hl 0 rfl) ?_
              refine g_if_eq (tgt := 109) hx hb dX5_readParts_77 (by decide) (by omega) (fun c_42 => ?_) (fun c_42 => ?_)
              · exact absurd c_42 (by decide)
              · skip
                refine lv_iinc (v := iI (x3 + 1)) (lv' := [(3, .int (iI (x3 + 1))), (5, .int (iI 1)), (4, .int (iI (f_X8_byteAt σ x3))), (0, .ref (ad c)), (1, .ref (ad 1))]) hx hb dX5_readParts_80 hl (k := 4) rfl (iI_add _ _) (by decide) rfl (fun ls hl => ?_)
                refine lv_aload_n hx hb dX5_readParts_83 rfl (lv_at hl 3 rfl) ?_
                refine lv_iload hx hb dX5_readParts_84 (lv_at hl 2 rfl) ?_
                refine lv_aload_n hx hb dX5_readParts_86 rfl (lv_at hl 4 rfl) ?_
                refine lv_iload_n hx hb dX5_readParts_87 rfl (lv_at hl 0 rfl) ?_
                refine g_V (As := [.int (iI (x3 + 1))]) (rest := [.int (iI (f_X8_byteAt σ x3)), .ref (ad c)]) 1 (c_X8_byteAt l D cy ad σ (x3 + 1) (by omega)) hx hb hml hown hts hK hN hI hl.1 gX5_readParts_X8_byteAt rfl hd_X8_byteAt rfl rfl ⟨Nat.le_of_ble_eq_true rfl, Nat.le_of_ble_eq_true rfl⟩ ⟨Nat.zero_le _, Nat.zero_le _⟩ (by decide) (cel_1 cy ad _) rfl rfl rfl rfl (Nat.le_of_ble_eq_true rfl) dX5_readParts_88 (fun H locs hG_43 hI => ?_)
                refine g_V (As := [.int (iI (f_X8_byteAt σ x3)), .int (iI (f_X8_byteAt σ (x3 + 1)))]) (rest := []) c (c_X5_faultOfFigure l D cy ad σ c hc (f_X8_byteAt σ x3) (by omega) (f_X8_byteAt σ (x3 + 1)) (by omega)) hx hb hml hown hts hK hN hI hl.1 gX5_readParts_X5_faultOfFigure rfl hd_X5_faultOfFigure rfl rfl ⟨Nat.le_of_ble_eq_true rfl, Nat.le_of_ble_eq_true rfl⟩ ⟨Nat.zero_le _, Nat.zero_le _⟩ (by rcases hc with q | q <;> rw [q] <;> decide) (cel_Ru cy ad hc _) rfl rfl rfl rfl (Nat.le_of_ble_eq_true rfl) dX5_readParts_91 (fun H locs hG_44 hI => ?_)
                refine lv_istore (lv' := [(6, .int (iI (f_X5_faultOfFigure σ c (f_X8_byteAt σ x3) (f_X8_byteAt σ (x3 + 1))))), (3, .int (iI (x3 + 1))), (5, .int (iI 1)), (4, .int (iI (f_X8_byteAt σ x3))), (0, .ref (ad c)), (1, .ref (ad 1))]) hx hb dX5_readParts_94 hl (by decide) rfl (fun ls hl => ?_)
                refine lv_iload hx hb dX5_readParts_96 (lv_at hl 0 rfl) ?_
                refine g_if_eq (tgt := 109) hx hb dX5_readParts_98 (by decide) (by omega) (fun c_45 => ?_) (fun c_45 => ?_)
                · skip
                  refine lv_aload_n hx hb dX5_readParts_109 rfl (lv_at hl 4 rfl) ?_
                  refine lv_iload hx hb dX5_readParts_110 (lv_at hl 3 rfl) ?_
                  refine lv_aload_n hx hb dX5_readParts_112 rfl (lv_at hl 5 rfl) ?_
                  refine lv_iload_n hx hb dX5_readParts_113 rfl (lv_at hl 1 rfl) ?_
                  refine g_V (As := [.int (iI (x3 + 1))]) (rest := [.int (iI (f_X8_byteAt σ x3)), .ref (ad c)]) 1 (c_X8_byteAt l D cy ad σ (x3 + 1) (by omega)) hx hb hml hown hts hK hN hI hl.1 gX5_readParts_X8_byteAt rfl hd_X8_byteAt rfl rfl ⟨Nat.le_of_ble_eq_true rfl, Nat.le_of_ble_eq_true rfl⟩ ⟨Nat.zero_le _, Nat.zero_le _⟩ (by decide) (cel_1 cy ad _) rfl rfl rfl rfl (Nat.le_of_ble_eq_true rfl) dX5_readParts_114 (fun H locs hG_46 hI => ?_)
                  refine lv_bipush (v := iI 48) hx hb dX5_readParts_117 (iI_bip (by decide)) ?_
                  refine g_isub hx hb dX5_readParts_119 ?_
                  refine g_V (As := [.int (iI (f_X8_byteAt σ x3)), .int (iI ((f_X8_byteAt σ (x3 + 1)) - 48))]) (rest := []) c (c_X5_addPart l D cy ad σ c hc (f_X8_byteAt σ x3) (by omega) ((f_X8_byteAt σ (x3 + 1)) - 48) (by omega) (by omega)) hx hb hml hown hts hK hN hI hl.1 gX5_readParts_X5_addPart rfl hd_X5_addPart rfl rfl ⟨Nat.le_of_ble_eq_true rfl, Nat.le_of_ble_eq_true rfl⟩ ⟨Nat.zero_le _, Nat.zero_le _⟩ (by rcases hc with q | q <;> rw [q] <;> decide) (cel_Ru cy ad hc _) rfl rfl rfl rfl (Nat.le_of_ble_eq_true rfl) dX5_readParts_120 (fun H locs hG_47 hI => ?_)
                  have hF_48 := hI.2.2.2
                  refine lv_iinc (v := iI ((x3 + 1) + 1)) (lv' := [(3, .int (iI ((x3 + 1) + 1))), (6, .int (iI (f_X5_faultOfFigure σ c (f_X8_byteAt σ x3) (f_X8_byteAt σ (x3 + 1))))), (5, .int (iI 1)), (4, .int (iI (f_X8_byteAt σ x3))), (0, .ref (ad c)), (1, .ref (ad 1))]) hx hb dX5_readParts_123 hl (k := 1) rfl (iI_add _ _) (by decide) rfl (fun ls hl => ?_)
                  refine lv_goto (tgt := 2) hx hb dX5_readParts_126 (by decide) ?_
                  have e9 : L_X5_readParts_2 c a1 (n + 1) x3 σ = L_X5_readParts_2 c a1 n ((x3 + 1) + 1) (f_X5_addPart σ c (f_X8_byteAt σ x3) ((f_X8_byteAt σ (x3 + 1)) - 48)) := by rw [L_X5_readParts_2, if_neg c_2, if_neg c_9, if_neg c_25, if_pos c_41, if_pos c_45]
                  rw [e9]
                  exact ih ((x3 + 1) + 1) (f_X5_addPart σ c (f_X8_byteAt σ x3) ((f_X8_byteAt σ (x3 + 1)) - 48)) (by omega) (by omega) _ _ _ hI (lv_sub hl [4, 5, 0] rfl)
                · skip
                  refine lv_aload_n hx hb dX5_readParts_101 rfl (lv_at hl 4 rfl) ?_
                  refine lv_iload hx hb dX5_readParts_102 (lv_at hl 0 rfl) ?_
                  refine lv_iload_n hx hb dX5_readParts_104 rfl (lv_at hl 1 rfl) ?_
                  refine g_V (As := [.int (iI (f_X5_faultOfFigure σ c (f_X8_byteAt σ x3) (f_X8_byteAt σ (x3 + 1)))), .int (iI (x3 + 1))]) (rest := []) c (c_X5_fault l D cy ad σ c hc (f_X5_faultOfFigure σ c (f_X8_byteAt σ x3) (f_X8_byteAt σ (x3 + 1))) (by omega) (x3 + 1) (by omega)) hx hb hml hown hts hK hN hI hl.1 gX5_readParts_X5_fault rfl hd_X5_fault rfl rfl ⟨Nat.le_of_ble_eq_true rfl, Nat.le_of_ble_eq_true rfl⟩ ⟨Nat.zero_le _, Nat.zero_le _⟩ (by rcases hc with q | q <;> rw [q] <;> decide) (cel_Ru cy ad hc _) rfl rfl rfl rfl (Nat.le_of_ble_eq_true rfl) dX5_readParts_105 (fun H locs hG_49 hI => ?_)
                  have hF_50 := hI.2.2.2
                  have e9 : L_X5_readParts_2 c a1 (n + 1) x3 σ = ((f_X5_fault σ c (f_X5_faultOfFigure σ c (f_X8_byteAt σ x3) (f_X8_byteAt σ (x3 + 1))) (x3 + 1)).1, (f_X5_fault σ c (f_X5_faultOfFigure σ c (f_X8_byteAt σ x3) (f_X8_byteAt σ (x3 + 1))) (x3 + 1)).2) := by rw [L_X5_readParts_2, if_neg c_2, if_neg c_9, if_neg c_25, if_pos c_41, if_neg c_45]
                  exact g_iret (z := (f_X5_fault σ c (f_X5_faultOfFigure σ c (f_X8_byteAt σ x3) (f_X8_byteAt σ (x3 + 1))) (x3 + 1)).1) hx hb hr hK hN hlocks hI (by rw [e9]) (by rw [e9]) (by rw [e9] <;> first | (omega) | (dsimp only; omega)) dX5_readParts_108
            · skip
              refine lv_aload_n hx hb dX5_readParts_68 rfl (lv_at hl 2 rfl) ?_
              refine lv_iconst (v := iI 2) hx hb dX5_readParts_69 rfl ?_
              refine lv_iload_n hx hb dX5_readParts_70 rfl (lv_at hl 4 rfl) ?_
              refine g_V (As := [.int (iI 2), .int (iI x3)]) (rest := []) c (c_X5_fault l D cy ad σ c hc 2 (by omega) x3 (by omega)) hx hb hml hown hts hK hN hI hl.1 gX5_readParts_X5_fault rfl hd_X5_fault rfl rfl ⟨Nat.le_of_ble_eq_true rfl, Nat.le_of_ble_eq_true rfl⟩ ⟨Nat.zero_le _, Nat.zero_le _⟩ (by rcases hc with q | q <;> rw [q] <;> decide) (cel_Ru cy ad hc _) rfl rfl rfl rfl (Nat.le_of_ble_eq_true rfl) dX5_readParts_71 (fun H locs hG_51 hI => ?_)
              have hF_52 := hI.2.2.2
              have e9 : L_X5_readParts_2 c a1 (n + 1) x3 σ = ((f_X5_fault σ c 2 x3).1, (f_X5_fault σ c 2 x3).2) := by rw [L_X5_readParts_2, if_neg c_2, if_neg c_9, if_neg c_25, if_neg c_41]
              exact g_iret (z := (f_X5_fault σ c 2 x3).1) hx hb hr hK hN hlocks hI (by rw [e9]) (by rw [e9]) (by rw [e9] <;> first | (omega) | (dsimp only; omega)) dX5_readParts_74
          · exact absurd c_39 (by decide)
def f_X5_readParts (σ : Sg) (c : Nat) (a1 : Int) : Int × Sg := L_X5_readParts_2 c a1 101 a1 σ
theorem hd_X5_readParts : yX5_readParts.cls = RX5 ∧ yX5_readParts.cls ≠ "java/lang/invoke/MethodHandle" ∧ yX5_readParts.cls ≠ "java/lang/invoke/VarHandle" ∧ (parseMethodDescriptor yX5_readParts.desc).map (fun d => d.parameters.length) = some 2 := by decide +kernel
set_option maxHeartbeats 4000000 in
set_option maxRecDepth 100000 in
theorem c_X5_readParts (l : Launch) (D : va_G) (cy : Nat → ClassId) (ad : Nat → Nat) (σ : Sg) (c : Nat) (hc : isRu c) (a1 : Int) (ha1 : (0 : Int) ≤ a1 ∧ a1 ≤ 13) : CM l D cy ad yX5_readParts wsX5_readParts { frames := 2, cells := 0, slots := 0, locals := 80 } [.ref (ad c), .ref (ad 1), .int (iI a1)] σ (some (.int (iI ((f_X5_readParts σ c a1).1)))) ((f_X5_readParts σ c a1).2) (0 ≤ ((f_X5_readParts σ c a1).1) ∧ ((f_X5_readParts σ c a1).1) ≤ 3) := by
  refine CM.of (cc := cX5_readParts) (maxL := 7) (ret := (some .int)) (by decide) rfl (Nat.le_of_ble_eq_true rfl) ?_
  intro p e s m args below meth c₀ ls X hI hl
  have hl : lv_has ls 7 [(0, .ref (ad c)), (1, .ref (ad 1)), (2, .int (iI a1))] := hl
  obtain ⟨hx, hb, hr, hml, hown, hts, hlocks, hK, hN⟩ := id X
  have hF := hI.2.2.2
  refine lv_iload_n hx hb dX5_readParts_0 rfl (lv_at hl 2 rfl) ?_
  refine lv_istore_n (lv' := [(3, .int (iI a1)), (0, .ref (ad c)), (1, .ref (ad 1)), (2, .int (iI a1))]) hx hb dX5_readParts_1 rfl hl (by decide) rfl (fun ls hl => ?_)
  have e9 : f_X5_readParts σ c a1 = L_X5_readParts_2 c a1 101 a1 σ := by rw [f_X5_readParts]
  rw [e9]
  exact w_L_X5_readParts_2 X  c hc a1 ha1  101 a1 σ (by omega) (by omega) _ _ _ hI (lv_sub hl [1, 2, 0] rfl)
theorem in_X5_read_X5 : ∀ w ∈ u_ws RX5 TX5 8, w ∈ wsX5_read := by decide +kernel
def f_X5_read (σ : Sg) (c : Nat) : Int × Sg := (if ((f_X5_readItems (up2 (up2 (up2 (up2 σ c 4 0) c 5 0) c 6 0) c 7 (-1)) c).1) = 0 then ((f_X5_readParts (f_X5_readItems (up2 (up2 (up2 (up2 σ c 4 0) c 5 0) c 6 0) c 7 (-1)) c).2 c (((f_X5_readItems (up2 (up2 (up2 (up2 σ c 4 0) c 5 0) c 6 0) c 7 (-1)) c).2 c 4) + 1)).1, (f_X5_readParts (f_X5_readItems (up2 (up2 (up2 (up2 σ c 4 0) c 5 0) c 6 0) c 7 (-1)) c).2 c (((f_X5_readItems (up2 (up2 (up2 (up2 σ c 4 0) c 5 0) c 6 0) c 7 (-1)) c).2 c 4) + 1)).2) else ((f_X5_readItems (up2 (up2 (up2 (up2 σ c 4 0) c 5 0) c 6 0) c 7 (-1)) c).1, (f_X5_readItems (up2 (up2 (up2 (up2 σ c 4 0) c 5 0) c 6 0) c 7 (-1)) c).2))
theorem hd_X5_read : yX5_read.cls = RX5 ∧ yX5_read.cls ≠ "java/lang/invoke/MethodHandle" ∧ yX5_read.cls ≠ "java/lang/invoke/VarHandle" ∧ (parseMethodDescriptor yX5_read.desc).map (fun d => d.parameters.length) = some 1 := by decide +kernel
set_option maxHeartbeats 4000000 in
set_option maxRecDepth 100000 in
theorem c_X5_read (l : Launch) (D : va_G) (cy : Nat → ClassId) (ad : Nat → Nat) (σ : Sg) (c : Nat) (hc : isRu c) : CM l D cy ad yX5_read wsX5_read { frames := 3, cells := 0, slots := 0, locals := 120 } [.ref (ad c), .ref (ad 1)] σ (some (.int (iI ((f_X5_read σ c).1)))) ((f_X5_read σ c).2) (0 ≤ ((f_X5_read σ c).1) ∧ ((f_X5_read σ c).1) ≤ 3) := by
  refine CM.of (cc := cX5_read) (maxL := 3) (ret := (some .int)) (by decide) rfl (Nat.le_of_ble_eq_true rfl) ?_
  intro p e s m args below meth c₀ ls X hI hl
  have hl : lv_has ls 3 [(0, .ref (ad c)), (1, .ref (ad 1))] := hl
  obtain ⟨hx, hb, hr, hml, hown, hts, hlocks, hK, hN⟩ := id X
  have hF := hI.2.2.2
  refine lv_aload_n hx hb dX5_read_0 rfl (lv_at hl 0 rfl) ?_
  refine lv_iconst (v := iI 0) hx hb dX5_read_1 rfl ?_
  refine g_put (C := RX5) (T := TX5) (N := 8) (ci := 5) (ty := .int) (z := 0) hx hb hts in_X5_read_X5 tyX5 tyX5_ok nmX5 hown hK hI c (by rcases hc with q | q <;> rw [q] <;> decide) (cel_Ru cy ad hc) rfl 4 (by decide) (by decide +kernel) rfl (by decide +kernel) rfl rfl (Nat.le_of_ble_eq_true rfl) (by unfold fs_Ru; rw [up2_row]; rfl) (bw_Ru_4 hc (by omega)) dX5_read_2 (fun H locs hI => ?_)
  have hF_1 := hI.2.2.2
  refine lv_aload_n hx hb dX5_read_5 rfl (lv_at hl 0 rfl) ?_
  refine lv_iconst (v := iI 0) hx hb dX5_read_6 rfl ?_
  refine g_put (C := RX5) (T := TX5) (N := 8) (ci := 5) (ty := .int) (z := 0) hx hb hts in_X5_read_X5 tyX5 tyX5_ok nmX5 hown hK hI c (by rcases hc with q | q <;> rw [q] <;> decide) (cel_Ru cy ad hc) rfl 5 (by decide) (by decide +kernel) rfl (by decide +kernel) rfl rfl (Nat.le_of_ble_eq_true rfl) (by unfold fs_Ru; rw [up2_row]; rfl) (bw_Ru_5 hc (by omega)) dX5_read_7 (fun H locs hI => ?_)
  have hF_2 := hI.2.2.2
  refine lv_aload_n hx hb dX5_read_10 rfl (lv_at hl 0 rfl) ?_
  refine lv_iconst (v := iI 0) hx hb dX5_read_11 rfl ?_
  refine g_put (C := RX5) (T := TX5) (N := 8) (ci := 5) (ty := .int) (z := 0) hx hb hts in_X5_read_X5 tyX5 tyX5_ok nmX5 hown hK hI c (by rcases hc with q | q <;> rw [q] <;> decide) (cel_Ru cy ad hc) rfl 6 (by decide) (by decide +kernel) rfl (by decide +kernel) rfl rfl (Nat.le_of_ble_eq_true rfl) (by unfold fs_Ru; rw [up2_row]; rfl) (bw_Ru_6 hc (by omega)) dX5_read_12 (fun H locs hI => ?_)
  have hF_3 := hI.2.2.2
  refine lv_aload_n hx hb dX5_read_15 rfl (lv_at hl 0 rfl) ?_
  refine lv_iconst (v := iI (-1)) hx hb dX5_read_16 rfl ?_
  refine g_put (C := RX5) (T := TX5) (N := 8) (ci := 5) (ty := .int) (z := (-1)) hx hb hts in_X5_read_X5 tyX5 tyX5_ok nmX5 hown hK hI c (by rcases hc with q | q <;> rw [q] <;> decide) (cel_Ru cy ad hc) rfl 7 (by decide) (by decide +kernel) rfl (by decide +kernel) rfl rfl (Nat.le_of_ble_eq_true rfl) (by unfold fs_Ru; rw [up2_row]; rfl) (bw_Ru_7 hc (by omega)) dX5_read_17 (fun H locs hI => ?_)
  have hF_4 := hI.2.2.2
  refine lv_aload_n hx hb dX5_read_20 rfl (lv_at hl 0 rfl) ?_
  refine lv_aload_n hx hb dX5_read_21 rfl (lv_at hl 1 rfl) ?_
  refine g_V (As := [.ref (ad 1)]) (rest := []) c (c_X5_readItems l D cy ad (up2 (up2 (up2 (up2 σ c 4 0) c 5 0) c 6 0) c 7 (-1)) c hc (by simp [up2_at])) hx hb hml hown hts hK hN hI hl.1 gX5_read_X5_readItems rfl hd_X5_readItems rfl rfl ⟨Nat.le_of_ble_eq_true rfl, Nat.le_of_ble_eq_true rfl⟩ ⟨Nat.zero_le _, Nat.zero_le _⟩ (by rcases hc with q | q <;> rw [q] <;> decide) (cel_Ru cy ad hc _) rfl rfl rfl rfl (Nat.le_of_ble_eq_true rfl) dX5_read_22 (fun H locs hG_5 hI => ?_)
  have hF_6 := hI.2.2.2
  refine lv_istore_n (lv' := [(2, .int (iI ((f_X5_readItems (up2 (up2 (up2 (up2 σ c 4 0) c 5 0) c 6 0) c 7 (-1)) c).1))), (0, .ref (ad c)), (1, .ref (ad 1))]) hx hb dX5_read_25 rfl hl (by decide) rfl (fun ls hl => ?_)
  refine lv_iload_n hx hb dX5_read_26 rfl (lv_at hl 0 rfl) ?_
  refine g_if_eq (tgt := 34) hx hb dX5_read_27 (by decide) (by omega) (fun c_7 => ?_) (fun c_7 => ?_)
  · skip
    refine lv_aload_n hx hb dX5_read_34 rfl (lv_at hl 1 rfl) ?_
    refine lv_aload_n hx hb dX5_read_35 rfl (lv_at hl 2 rfl) ?_
    refine lv_aload_n hx hb dX5_read_36 rfl (lv_at hl 1 rfl) ?_
    refine g_get (C := RX5) (T := TX5) (N := 8) (ci := 5) (v := .int (iI ((f_X5_readItems (up2 (up2 (up2 (up2 σ c 4 0) c 5 0) c 6 0) c 7 (-1)) c).2 c 4))) hx hb hts in_X5_read_X5 hown hK hI c (by rcases hc with q | q <;> rw [q] <;> decide) (cel_Ru cy ad hc _) rfl 4 (by decide) (by decide +kernel) rfl dX5_read_37 ?_
    have b_8 := bd_Ru_4 hF_6 hc
    refine lv_iconst (v := iI 1) hx hb dX5_read_40 rfl ?_
    refine g_iadd hx hb dX5_read_41 ?_
    refine g_V (As := [.ref (ad 1), .int (iI (((f_X5_readItems (up2 (up2 (up2 (up2 σ c 4 0) c 5 0) c 6 0) c 7 (-1)) c).2 c 4) + 1))]) (rest := []) c (c_X5_readParts l D cy ad (f_X5_readItems (up2 (up2 (up2 (up2 σ c 4 0) c 5 0) c 6 0) c 7 (-1)) c).2 c hc (((f_X5_readItems (up2 (up2 (up2 (up2 σ c 4 0) c 5 0) c 6 0) c 7 (-1)) c).2 c 4) + 1) (by omega)) hx hb hml hown hts hK hN hI hl.1 gX5_read_X5_readParts rfl hd_X5_readParts rfl rfl ⟨Nat.le_of_ble_eq_true rfl, Nat.le_of_ble_eq_true rfl⟩ ⟨Nat.zero_le _, Nat.zero_le _⟩ (by rcases hc with q | q <;> rw [q] <;> decide) (cel_Ru cy ad hc _) rfl rfl rfl rfl (Nat.le_of_ble_eq_true rfl) dX5_read_42 (fun H locs hG_9 hI => ?_)
    have hF_10 := hI.2.2.2
    have e9 : f_X5_read σ c = ((f_X5_readParts (f_X5_readItems (up2 (up2 (up2 (up2 σ c 4 0) c 5 0) c 6 0) c 7 (-1)) c).2 c (((f_X5_readItems (up2 (up2 (up2 (up2 σ c 4 0) c 5 0) c 6 0) c 7 (-1)) c).2 c 4) + 1)).1, (f_X5_readParts (f_X5_readItems (up2 (up2 (up2 (up2 σ c 4 0) c 5 0) c 6 0) c 7 (-1)) c).2 c (((f_X5_readItems (up2 (up2 (up2 (up2 σ c 4 0) c 5 0) c 6 0) c 7 (-1)) c).2 c 4) + 1)).2) := by rw [f_X5_read, if_pos c_7]
    exact g_iret (z := (f_X5_readParts (f_X5_readItems (up2 (up2 (up2 (up2 σ c 4 0) c 5 0) c 6 0) c 7 (-1)) c).2 c (((f_X5_readItems (up2 (up2 (up2 (up2 σ c 4 0) c 5 0) c 6 0) c 7 (-1)) c).2 c 4) + 1)).1) hx hb hr hK hN hlocks hI (by rw [e9]) (by rw [e9]) (by rw [e9] <;> first | (omega) | (dsimp only; omega)) dX5_read_45
  · skip
    refine lv_iload_n hx hb dX5_read_30 rfl (lv_at hl 0 rfl) ?_
    refine lv_goto (tgt := 45) hx hb dX5_read_31 (by decide) ?_
    have e9 : f_X5_read σ c = ((f_X5_readItems (up2 (up2 (up2 (up2 σ c 4 0) c 5 0) c 6 0) c 7 (-1)) c).1, (f_X5_readItems (up2 (up2 (up2 (up2 σ c 4 0) c 5 0) c 6 0) c 7 (-1)) c).2) := by rw [f_X5_read, if_neg c_7]
    exact g_iret (z := (f_X5_readItems (up2 (up2 (up2 (up2 σ c 4 0) c 5 0) c 6 0) c 7 (-1)) c).1) hx hb hr hK hN hlocks hI (by rw [e9]) (by rw [e9]) (by rw [e9] <;> first | (omega) | (dsimp only; omega)) dX5_read_45
