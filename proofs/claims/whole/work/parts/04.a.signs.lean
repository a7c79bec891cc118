def f_X6_isFigure (a0 : Int) : Int := (if a0 < 48 then 0 else (if 57 < a0 then 0 else 1))
theorem hd_X6_isFigure : yX6_isFigure.cls ≠ "java/lang/invoke/MethodHandle" ∧ yX6_isFigure.cls ≠ "java/lang/invoke/VarHandle" ∧ (parseMethodDescriptor yX6_isFigure.desc).map (fun d => d.parameters.length) = some 1 := by decide +kernel
set_option maxHeartbeats 4000000 in
set_option maxRecDepth 100000 in
theorem c_X6_isFigure (l : Launch) (D : va_G) (cy : Nat → ClassId) (ad : Nat → Nat) (σ : Sg) (a0 : Int) (ha0 : (-2147483648 ≤ a0 ∧ a0 < 2147483648)) : CM l D cy ad yX6_isFigure wsX6_isFigure { frames := 0, cells := 0, slots := 0, locals := 0 } [.int (iI a0)] σ (some (.int (iI (f_X6_isFigure a0)))) σ ((0 ≤ f_X6_isFigure a0 ∧ f_X6_isFigure a0 ≤ 1)) := by
  refine CM.of (cc := cX6_isFigure) (maxL := 1) (ret := (some .boolean)) (by decide) rfl (Nat.le_of_ble_eq_true rfl) ?_
  intro p e s m args below meth c₀ ls X hI hl
  have hl : lv_has ls 1 [(0, .int (iI a0))] := hl
  obtain ⟨hx, hb, hr, hml, hown, hts, hlocks, hK, hN⟩ := id X
  have hF := hI.2.2.2
  refine lv_iload_n hx hb dX6_isFigure_0 rfl (lv_at hl 0 rfl) ?_
  refine lv_bipush (v := iI 48) hx hb dX6_isFigure_1 (iI_bip (by decide)) ?_
  refine g_icmp_lt (tgt := 16) hx hb dX6_isFigure_3 (by decide) (by omega) (by omega) (fun c_1 => ?_) (fun c_1 => ?_)
  · skip
    refine lv_iconst (v := iI 0) hx hb dX6_isFigure_16 rfl ?_
    have e9 : f_X6_isFigure a0 = 0 := by rw [f_X6_isFigure, if_pos c_1]
    exact g_zret (z := 0) hx hb hr hK hN hlocks hI e9.symm rfl (by rw [e9] <;> first | (omega) | (dsimp only; omega)) (by omega) dX6_isFigure_17
  · skip
    refine lv_iload_n hx hb dX6_isFigure_6 rfl (lv_at hl 0 rfl) ?_
    refine lv_bipush (v := iI 57) hx hb dX6_isFigure_7 (iI_bip (by decide)) ?_
    refine g_icmp_gt (tgt := 16) hx hb dX6_isFigure_9 (by decide) (by omega) (by omega) (fun c_2 => ?_) (fun c_2 => ?_)
    · skip
      refine lv_iconst (v := iI 0) hx hb dX6_isFigure_16 rfl ?_
      have e9 : f_X6_isFigure a0 = 0 := by rw [f_X6_isFigure, if_neg c_1, if_pos c_2]
      exact g_zret (z := 0) hx hb hr hK hN hlocks hI e9.symm rfl (by rw [e9] <;> first | (omega) | (dsimp only; omega)) (by omega) dX6_isFigure_17
    · skip
      refine lv_iconst (v := iI 1) hx hb dX6_isFigure_12 rfl ?_
      refine lv_goto (tgt := 17) hx hb dX6_isFigure_13 (by decide) ?_
      have e9 : f_X6_isFigure a0 = 1 := by rw [f_X6_isFigure, if_neg c_1, if_neg c_2]
      exact g_zret (z := 1) hx hb hr hK hN hlocks hI e9.symm rfl (by rw [e9] <;> first | (omega) | (dsimp only; omega)) (by omega) dX6_isFigure_17
def f_X6_isSmall (a0 : Int) : Int := (if a0 < 97 then 0 else (if 122 < a0 then 0 else 1))
theorem hd_X6_isSmall : yX6_isSmall.cls ≠ "java/lang/invoke/MethodHandle" ∧ yX6_isSmall.cls ≠ "java/lang/invoke/VarHandle" ∧ (parseMethodDescriptor yX6_isSmall.desc).map (fun d => d.parameters.length) = some 1 := by decide +kernel
set_option maxHeartbeats 4000000 in
set_option maxRecDepth 100000 in
theorem c_X6_isSmall (l : Launch) (D : va_G) (cy : Nat → ClassId) (ad : Nat → Nat) (σ : Sg) (a0 : Int) (ha0 : (-2147483648 ≤ a0 ∧ a0 < 2147483648)) : CM l D cy ad yX6_isSmall wsX6_isSmall { frames := 0, cells := 0, slots := 0, locals := 0 } [.int (iI a0)] σ (some (.int (iI (f_X6_isSmall a0)))) σ ((0 ≤ f_X6_isSmall a0 ∧ f_X6_isSmall a0 ≤ 1)) := by
  refine CM.of (cc := cX6_isSmall) (maxL := 1) (ret := (some .boolean)) (by decide) rfl (Nat.le_of_ble_eq_true rfl) ?_
  intro p e s m args below meth c₀ ls X hI hl
  have hl : lv_has ls 1 [(0, .int (iI a0))] := hl
  obtain ⟨hx, hb, hr, hml, hown, hts, hlocks, hK, hN⟩ := id X
  have hF := hI.2.2.2
  refine lv_iload_n hx hb dX6_isSmall_0 rfl (lv_at hl 0 rfl) ?_
  refine lv_bipush (v := iI 97) hx hb dX6_isSmall_1 (iI_bip (by decide)) ?_
  refine g_icmp_lt (tgt := 16) hx hb dX6_isSmall_3 (by decide) (by omega) (by omega) (fun c_1 => ?_) (fun c_1 => ?_)
  · skip
    refine lv_iconst (v := iI 0) hx hb dX6_isSmall_16 rfl ?_
    have e9 : f_X6_isSmall a0 = 0 := by rw [f_X6_isSmall, if_pos c_1]
    exact g_zret (z := 0) hx hb hr hK hN hlocks hI e9.symm rfl (by rw [e9] <;> first | (omega) | (dsimp only; omega)) (by omega) dX6_isSmall_17
  · skip
    refine lv_iload_n hx hb dX6_isSmall_6 rfl (lv_at hl 0 rfl) ?_
    refine lv_bipush (v := iI 122) hx hb dX6_isSmall_7 (iI_bip (by decide)) ?_
    refine g_icmp_gt (tgt := 16) hx hb dX6_isSmall_9 (by decide) (by omega) (by omega) (fun c_2 => ?_) (fun c_2 => ?_)
    · skip
      refine lv_iconst (v := iI 0) hx hb dX6_isSmall_16 rfl ?_
      have e9 : f_X6_isSmall a0 = 0 := by rw [f_X6_isSmall, if_neg c_1, if_pos c_2]
      exact g_zret (z := 0) hx hb hr hK hN hlocks hI e9.symm rfl (by rw [e9] <;> first | (omega) | (dsimp only; omega)) (by omega) dX6_isSmall_17
    · skip
      refine lv_iconst (v := iI 1) hx hb dX6_isSmall_12 rfl ?_
      refine lv_goto (tgt := 17) hx hb dX6_isSmall_13 (by decide) ?_
      have e9 : f_X6_isSmall a0 = 1 := by rw [f_X6_isSmall, if_neg c_1, if_neg c_2]
      exact g_zret (z := 1) hx hb hr hK hN hlocks hI e9.symm rfl (by rw [e9] <;> first | (omega) | (dsimp only; omega)) (by omega) dX6_isSmall_17
def f_X6_isCapital (a0 : Int) : Int := (if a0 < 65 then 0 else (if 90 < a0 then 0 else 1))
theorem hd_X6_isCapital : yX6_isCapital.cls ≠ "java/lang/invoke/MethodHandle" ∧ yX6_isCapital.cls ≠ "java/lang/invoke/VarHandle" ∧ (parseMethodDescriptor yX6_isCapital.desc).map (fun d => d.parameters.length) = some 1 := by decide +kernel
set_option maxHeartbeats 4000000 in
set_option maxRecDepth 100000 in
theorem c_X6_isCapital (l : Launch) (D : va_G) (cy : Nat → ClassId) (ad : Nat → Nat) (σ : Sg) (a0 : Int) (ha0 : (-2147483648 ≤ a0 ∧ a0 < 2147483648)) : CM l D cy ad yX6_isCapital wsX6_isCapital { frames := 0, cells := 0, slots := 0, locals := 0 } [.int (iI a0)] σ (some (.int (iI (f_X6_isCapital a0)))) σ ((0 ≤ f_X6_isCapital a0 ∧ f_X6_isCapital a0 ≤ 1)) := by
  refine CM.of (cc := cX6_isCapital) (maxL := 1) (ret := (some .boolean)) (by decide) rfl (Nat.le_of_ble_eq_true rfl) ?_
  intro p e s m args below meth c₀ ls X hI hl
  have hl : lv_has ls 1 [(0, .int (iI a0))] := hl
  obtain ⟨hx, hb, hr, hml, hown, hts, hlocks, hK, hN⟩ := id X
  have hF := hI.2.2.2
  refine lv_iload_n hx hb dX6_isCapital_0 rfl (lv_at hl 0 rfl) ?_
  refine lv_bipush (v := iI 65) hx hb dX6_isCapital_1 (iI_bip (by decide)) ?_
  refine g_icmp_lt (tgt := 16) hx hb dX6_isCapital_3 (by decide) (by omega) (by omega) (fun c_1 => ?_) (fun c_1 => ?_)
  · skip
    refine lv_iconst (v := iI 0) hx hb dX6_isCapital_16 rfl ?_
    have e9 : f_X6_isCapital a0 = 0 := by rw [f_X6_isCapital, if_pos c_1]
    exact g_zret (z := 0) hx hb hr hK hN hlocks hI e9.symm rfl (by rw [e9] <;> first | (omega) | (dsimp only; omega)) (by omega) dX6_isCapital_17
  · skip
    refine lv_iload_n hx hb dX6_isCapital_6 rfl (lv_at hl 0 rfl) ?_
    refine lv_bipush (v := iI 90) hx hb dX6_isCapital_7 (iI_bip (by decide)) ?_
    refine g_icmp_gt (tgt := 16) hx hb dX6_isCapital_9 (by decide) (by omega) (by omega) (fun c_2 => ?_) (fun c_2 => ?_)
    · skip
      refine lv_iconst (v := iI 0) hx hb dX6_isCapital_16 rfl ?_
      have e9 : f_X6_isCapital a0 = 0 := by rw [f_X6_isCapital, if_neg c_1, if_pos c_2]
      exact g_zret (z := 0) hx hb hr hK hN hlocks hI e9.symm rfl (by rw [e9] <;> first | (omega) | (dsimp only; omega)) (by omega) dX6_isCapital_17
    · skip
      refine lv_iconst (v := iI 1) hx hb dX6_isCapital_12 rfl ?_
      refine lv_goto (tgt := 17) hx hb dX6_isCapital_13 (by decide) ?_
      have e9 : f_X6_isCapital a0 = 1 := by rw [f_X6_isCapital, if_neg c_1, if_neg c_2]
      exact g_zret (z := 1) hx hb hr hK hN hlocks hI e9.symm rfl (by rw [e9] <;> first | (omega) | (dsimp only; omega)) (by omega) dX6_isCapital_17
def f_X6_isOfNames (a0 : Int) : Int := (if (f_X6_isSmall a0) = 0 then (if (f_X6_isCapital a0) = 0 then (if (f_X6_isFigure a0) = 0 then (if a0 = 46 then 1 else (if a0 = 45 then 1 else (if a0 = 95 then 1 else 0))) else 1) else 1) else 1)
theorem hd_X6_isOfNames : yX6_isOfNames.cls ≠ "java/lang/invoke/MethodHandle" ∧ yX6_isOfNames.cls ≠ "java/lang/invoke/VarHandle" ∧ (parseMethodDescriptor yX6_isOfNames.desc).map (fun d => d.parameters.length) = some 1 := by decide +kernel
set_option maxHeartbeats 4000000 in
set_option maxRecDepth 100000 in
theorem c_X6_isOfNames (l : Launch) (D : va_G) (cy : Nat → ClassId) (ad : Nat → Nat) (σ : Sg) (a0 : Int) (ha0 : (-2147483648 ≤ a0 ∧ a0 < 2147483648)) : CM l D cy ad yX6_isOfNames wsX6_isOfNames { frames := 1, cells := 0, slots := 0, locals := 40 } [.int (iI a0)] σ (some (.int (iI (f_X6_isOfNames a0)))) σ ((0 ≤ f_X6_isOfNames a0 ∧ f_X6_isOfNames a0 ≤ 1)) := by
  refine CM.of (cc := cX6_isOfNames) (maxL := 1) (ret := (some .boolean)) (by decide) rfl (Nat.le_of_ble_eq_true rfl) ?_
  intro p e s m args below meth c₀ ls X hI hl
  have hl : lv_has ls 1 [(0, .int (iI a0))] := hl
  obtain ⟨hx, hb, hr, hml, hown, hts, hlocks, hK, hN⟩ := id X
  have hF := hI.2.2.2
  refine lv_iload_n hx hb dX6_isOfNames_0 rfl (lv_at hl 0 rfl) ?_
  refine g_S (As := [.int (iI a0)]) (rest := []) (c_X6_isSmall l D cy ad σ a0 (by omega)) hx hb hml hown hts hK hN hI hl.1 gX6_isOfNames_X6_isSmall rfl hd_X6_isSmall rfl rfl ⟨Nat.le_of_ble_eq_true rfl, Nat.le_of_ble_eq_true rfl⟩ ⟨Nat.zero_le _, Nat.zero_le _⟩ rfl rfl (Nat.le_of_ble_eq_true rfl) dX6_isOfNames_1 (fun H locs hG_1 hI => ?_)
  refine g_if_ne (tgt := 39) hx hb dX6_isOfNames_4 (by decide) (by omega) (fun c_2 => ?_) (fun c_2 => ?_)
  · skip
    refine lv_iconst (v := iI 1) hx hb dX6_isOfNames_39 rfl ?_
    refine lv_goto (tgt := 44) hx hb dX6_isOfNames_40 (by decide) ?_
    have e9 : f_X6_isOfNames a0 = 1 := by rw [f_X6_isOfNames, if_neg c_2]
    exact g_zret (z := 1) hx hb hr hK hN hlocks hI e9.symm rfl (by rw [e9] <;> first | (omega) | (dsimp only; omega)) (by omega) dX6_isOfNames_44
  · skip
    refine lv_iload_n hx hb dX6_isOfNames_7 rfl (lv_at hl 0 rfl) ?_
    refine g_S (As := [.int (iI a0)]) (rest := []) (c_X6_isCapital l D cy ad σ a0 (by omega)) hx hb hml hown hts hK hN hI hl.1 gX6_isOfNames_X6_isCapital rfl hd_X6_isCapital rfl rfl ⟨Nat.le_of_ble_eq_true rfl, Nat.le_of_ble_eq_true rfl⟩ ⟨Nat.zero_le _, Nat.zero_le _⟩ rfl rfl (Nat.le_of_ble_eq_true rfl) dX6_isOfNames_8 (fun H locs hG_3 hI => ?_)
    refine g_if_ne (tgt := 39) hx hb dX6_isOfNames_11 (by decide) (by omega) (fun c_4 => ?_) (fun c_4 => ?_)
    · skip
      refine lv_iconst (v := iI 1) hx hb dX6_isOfNames_39 rfl ?_
      refine lv_goto (tgt := 44) hx hb dX6_isOfNames_40 (by decide) ?_
      have e9 : f_X6_isOfNames a0 = 1 := by rw [f_X6_isOfNames, if_pos c_2, if_neg c_4]
      exact g_zret (z := 1) hx hb hr hK hN hlocks hI e9.symm rfl (by rw [e9] <;> first | (omega) | (dsimp only; omega)) (by omega) dX6_isOfNames_44
    · skip
      refine lv_iload_n hx hb dX6_isOfNames_14 rfl (lv_at hl 0 rfl) ?_
      refine g_S (As := [.int (iI a0)]) (rest := []) (c_X6_isFigure l D cy ad σ a0 (by omega)) hx hb hml hown hts hK hN hI hl.1 gX6_isOfNames_X6_isFigure rfl hd_X6_isFigure rfl rfl ⟨Nat.le_of_ble_eq_true rfl, Nat.le_of_ble_eq_true rfl⟩ ⟨Nat.zero_le _, Nat.zero_le _⟩ rfl rfl (Nat.le_of_ble_eq_true rfl) dX6_isOfNames_15 (fun H locs hG_5 hI => ?_)
      refine g_if_ne (tgt := 39) hx hb dX6_isOfNames_18 (by decide) (by omega) (fun c_6 => ?_) (fun c_6 => ?_)
      · skip
        refine lv_iconst (v := iI 1) hx hb dX6_isOfNames_39 rfl ?_
        refine lv_goto (tgt := 44) hx hb dX6_isOfNames_40 (by decide) ?_
        have e9 : f_X6_isOfNames a0 = 1 := by rw [f_X6_isOfNames, if_pos c_2, if_pos c_4, if_neg c_6]
        exact g_zret (z := 1) hx hb hr hK hN hlocks hI e9.symm rfl (by rw [e9] <;> first | (omega) | (dsimp only; omega)) (by omega) dX6_isOfNames_44
      · skip
        refine lv_iload_n hx hb dX6_isOfNames_21 rfl (lv_at hl 0 rfl) ?_
        refine lv_bipush (v := iI 46) hx hb dX6_isOfNames_22 (iI_bip (by decide)) ?_
        refine g_icmp_eq (tgt := 39) hx hb dX6_isOfNames_24 (by decide) (by omega) (by omega) (fun c_7 => ?_) (fun c_7 => ?_)
        · skip
          refine lv_iconst (v := iI 1) hx hb dX6_isOfNames_39 rfl ?_
          refine lv_goto (tgt := 44) hx hb dX6_isOfNames_40 (by decide) ?_
          have e9 : f_X6_isOfNames a0 = 1 := by rw [f_X6_isOfNames, if_pos c_2, if_pos c_4, if_pos c_6, if_pos c_7]
          exact g_zret (z := 1) hx hb hr hK hN hlocks hI e9.symm rfl (by rw [e9] <;> first | (omega) | (dsimp only; omega)) (by omega) dX6_isOfNames_44
        · skip
          refine lv_iload_n hx hb dX6_isOfNames_27 rfl (lv_at hl 0 rfl) ?_
          refine lv_bipush (v := iI 45) hx hb dX6_isOfNames_28 (iI_bip (by decide)) ?_
          refine g_icmp_eq (tgt := 39) hx hb dX6_isOfNames_30 (by decide) (by omega) (by omega) (fun c_8 => ?_) (fun c_8 => ?_)
          · skip
            refine lv_iconst (v := iI 1) hx hb dX6_isOfNames_39 rfl ?_
            refine lv_goto (tgt := 44) hx hb dX6_isOfNames_40 (by decide) ?_
            have e9 : f_X6_isOfNames a0 = 1 := by rw [f_X6_isOfNames, if_pos c_2, if_pos c_4, if_pos c_6, if_neg c_7, if_pos c_8]
            exact g_zret (z := 1) hx hb hr hK hN hlocks hI e9.symm rfl (by rw [e9] <;> first | (omega) | (dsimp only; omega)) (by omega) dX6_isOfNames_44
          · skip
            refine lv_iload_n hx hb dX6_isOfNames_33 rfl (lv_at hl 0 rfl) ?_
            refine lv_bipush (v := iI 95) hx hb dX6_isOfNames_34 (iI_bip (by decide)) ?_
            refine g_icmp_ne (tgt := 43) hx hb dX6_isOfNames_36 (by decide) (by omega) (by omega) (fun c_9 => ?_) (fun c_9 => ?_)
            · skip
              refine lv_iconst (v := iI 0) hx hb dX6_isOfNames_43 rfl ?_
              have e9 : f_X6_isOfNames a0 = 0 := by rw [f_X6_isOfNames, if_pos c_2, if_pos c_4, if_pos c_6, if_neg c_7, if_neg c_8, if_neg c_9]
              exact g_zret (z := 0) hx hb hr hK hN hlocks hI e9.symm rfl (by rw [e9] <;> first | (omega) | (dsimp only; omega)) (by omega) dX6_isOfNames_44
            · skip
              refine lv_iconst (v := iI 1) hx hb dX6_isOfNames_39 rfl ?_
              refine lv_goto (tgt := 44) hx hb dX6_isOfNames_40 (by decide) ?_
              have e9 : f_X6_isOfNames a0 = 1 := by rw [f_X6_isOfNames, if_pos c_2, if_pos c_4, if_pos c_6, if_neg c_7, if_neg c_8, if_pos c_9]
              exact g_zret (z := 1) hx hb hr hK hN hlocks hI e9.symm rfl (by rw [e9] <;> first | (omega) | (dsimp only; omega)) (by omega) dX6_isOfNames_44
def f_X6_isWild (a0 : Int) : Int := (if a0 = 63 then 1 else (if a0 = 42 then 1 else (if a0 = 35 then 1 else 0)))
theorem hd_X6_isWild : yX6_isWild.cls ≠ "java/lang/invoke/MethodHandle" ∧ yX6_isWild.cls ≠ "java/lang/invoke/VarHandle" ∧ (parseMethodDescriptor yX6_isWild.desc).map (fun d => d.parameters.length) = some 1 := by decide +kernel
set_option maxHeartbeats 4000000 in
set_option maxRecDepth 100000 in
theorem c_X6_isWild (l : Launch) (D : va_G) (cy : Nat → ClassId) (ad : Nat → Nat) (σ : Sg) (a0 : Int) (ha0 : (-2147483648 ≤ a0 ∧ a0 < 2147483648)) : CM l D cy ad yX6_isWild wsX6_isWild { frames := 0, cells := 0, slots := 0, locals := 0 } [.int (iI a0)] σ (some (.int (iI (f_X6_isWild a0)))) σ ((0 ≤ f_X6_isWild a0 ∧ f_X6_isWild a0 ≤ 1)) := by
  refine CM.of (cc := cX6_isWild) (maxL := 1) (ret := (some .boolean)) (by decide) rfl (Nat.le_of_ble_eq_true rfl) ?_
  intro p e s m args below meth c₀ ls X hI hl
  have hl : lv_has ls 1 [(0, .int (iI a0))] := hl
  obtain ⟨hx, hb, hr, hml, hown, hts, hlocks, hK, hN⟩ := id X
  have hF := hI.2.2.2
  refine lv_iload_n hx hb dX6_isWild_0 rfl (lv_at hl 0 rfl) ?_
  refine lv_bipush (v := iI 63) hx hb dX6_isWild_1 (iI_bip (by decide)) ?_
  refine g_icmp_eq (tgt := 18) hx hb dX6_isWild_3 (by decide) (by omega) (by omega) (fun c_1 => ?_) (fun c_1 => ?_)
  · skip
    refine lv_iconst (v := iI 1) hx hb dX6_isWild_18 rfl ?_
    refine lv_goto (tgt := 23) hx hb dX6_isWild_19 (by decide) ?_
    have e9 : f_X6_isWild a0 = 1 := by rw [f_X6_isWild, if_pos c_1]
    exact g_zret (z := 1) hx hb hr hK hN hlocks hI e9.symm rfl (by rw [e9] <;> first | (omega) | (dsimp only; omega)) (by omega) dX6_isWild_23
  · skip
    refine lv_iload_n hx hb dX6_isWild_6 rfl (lv_at hl 0 rfl) ?_
    refine lv_bipush (v := iI 42) hx hb dX6_isWild_7 (iI_bip (by decide)) ?_
    refine g_icmp_eq (tgt := 18) hx hb dX6_isWild_9 (by decide) (by omega) (by omega) (fun c_2 => ?_) (fun c_2 => ?_)
    · skip
      refine lv_iconst (v := iI 1) hx hb dX6_isWild_18 rfl ?_
      refine lv_goto (tgt := 23) hx hb dX6_isWild_19 (by decide) ?_
      have e9 : f_X6_isWild a0 = 1 := by rw [f_X6_isWild, if_neg c_1, if_pos c_2]
      exact g_zret (z := 1) hx hb hr hK hN hlocks hI e9.symm rfl (by rw [e9] <;> first | (omega) | (dsimp only; omega)) (by omega) dX6_isWild_23
    · skip
      refine lv_iload_n hx hb dX6_isWild_12 rfl (lv_at hl 0 rfl) ?_
      refine lv_bipush (v := iI 35) hx hb dX6_isWild_13 (iI_bip (by decide)) ?_
      refine g_icmp_ne (tgt := 22) hx hb dX6_isWild_15 (by decide) (by omega) (by omega) (fun c_3 => ?_) (fun c_3 => ?_)
      · skip
        refine lv_iconst (v := iI 0) hx hb dX6_isWild_22 rfl ?_
        have e9 : f_X6_isWild a0 = 0 := by rw [f_X6_isWild, if_neg c_1, if_neg c_2, if_neg c_3]
        exact g_zret (z := 0) hx hb hr hK hN hlocks hI e9.symm rfl (by rw [e9] <;> first | (omega) | (dsimp only; omega)) (by omega) dX6_isWild_23
      · skip
        refine lv_iconst (v := iI 1) hx hb dX6_isWild_18 rfl ?_
        refine lv_goto (tgt := 23) hx hb dX6_isWild_19 (by decide) ?_
        have e9 : f_X6_isWild a0 = 1 := by rw [f_X6_isWild, if_neg c_1, if_neg c_2, if_pos c_3]
        exact g_zret (z := 1) hx hb hr hK hN hlocks hI e9.symm rfl (by rw [e9] <;> first | (omega) | (dsimp only; omega)) (by omega) dX6_isWild_23
def f_X6_isTaken (a0 : Int) : Int := (if a0 = 36 then 1 else (if a0 = 94 then 1 else (if a0 = 33 then 1 else 0)))
theorem hd_X6_isTaken : yX6_isTaken.cls ≠ "java/lang/invoke/MethodHandle" ∧ yX6_isTaken.cls ≠ "java/lang/invoke/VarHandle" ∧ (parseMethodDescriptor yX6_isTaken.desc).map (fun d => d.parameters.length) = some 1 := by decide +kernel
set_option maxHeartbeats 4000000 in
set_option maxRecDepth 100000 in
theorem c_X6_isTaken (l : Launch) (D : va_G) (cy : Nat → ClassId) (ad : Nat → Nat) (σ : Sg) (a0 : Int) (ha0 : (-2147483648 ≤ a0 ∧ a0 < 2147483648)) : CM l D cy ad yX6_isTaken wsX6_isTaken { frames := 0, cells := 0, slots := 0, locals := 0 } [.int (iI a0)] σ (some (.int (iI (f_X6_isTaken a0)))) σ ((0 ≤ f_X6_isTaken a0 ∧ f_X6_isTaken a0 ≤ 1)) := by
  refine CM.of (cc := cX6_isTaken) (maxL := 1) (ret := (some .boolean)) (by decide) rfl (Nat.le_of_ble_eq_true rfl) ?_
  intro p e s m args below meth c₀ ls X hI hl
  have hl : lv_has ls 1 [(0, .int (iI a0))] := hl
  obtain ⟨hx, hb, hr, hml, hown, hts, hlocks, hK, hN⟩ := id X
  have hF := hI.2.2.2
  refine lv_iload_n hx hb dX6_isTaken_0 rfl (lv_at hl 0 rfl) ?_
  refine lv_bipush (v := iI 36) hx hb dX6_isTaken_1 (iI_bip (by decide)) ?_
  refine g_icmp_eq (tgt := 18) hx hb dX6_isTaken_3 (by decide) (by omega) (by omega) (fun c_1 => ?_) (fun c_1 => ?_)
  · skip
    refine lv_iconst (v := iI 1) hx hb dX6_isTaken_18 rfl ?_
    refine lv_goto (tgt := 23) hx hb dX6_isTaken_19 (by decide) ?_
    have e9 : f_X6_isTaken a0 = 1 := by rw [f_X6_isTaken, if_pos c_1]
    exact g_zret (z := 1) hx hb hr hK hN hlocks hI e9.symm rfl (by rw [e9] <;> first | (omega) | (dsimp only; omega)) (by omega) dX6_isTaken_23
  · skip
    refine lv_iload_n hx hb dX6_isTaken_6 rfl (lv_at hl 0 rfl) ?_
    refine lv_bipush (v := iI 94) hx hb dX6_isTaken_7 (iI_bip (by decide)) ?_
    refine g_icmp_eq (tgt := 18) hx hb dX6_isTaken_9 (by decide) (by omega) (by omega) (fun c_2 => ?_) (fun c_2 => ?_)
    · skip
      refine lv_iconst (v := iI 1) hx hb dX6_isTaken_18 rfl ?_
      refine lv_goto (tgt := 23) hx hb dX6_isTaken_19 (by decide) ?_
      have e9 : f_X6_isTaken a0 = 1 := by rw [f_X6_isTaken, if_neg c_1, if_pos c_2]
      exact g_zret (z := 1) hx hb hr hK hN hlocks hI e9.symm rfl (by rw [e9] <;> first | (omega) | (dsimp only; omega)) (by omega) dX6_isTaken_23
    · skip
      refine lv_iload_n hx hb dX6_isTaken_12 rfl (lv_at hl 0 rfl) ?_
      refine lv_bipush (v := iI 33) hx hb dX6_isTaken_13 (iI_bip (by decide)) ?_
      refine g_icmp_ne (tgt := 22) hx hb dX6_isTaken_15 (by decide) (by omega) (by omega) (fun c_3 => ?_) (fun c_3 => ?_)
      · skip
        refine lv_iconst (v := iI 0) hx hb dX6_isTaken_22 rfl ?_
        have e9 : f_X6_isTaken a0 = 0 := by rw [f_X6_isTaken, if_neg c_1, if_neg c_2, if_neg c_3]
        exact g_zret (z := 0) hx hb hr hK hN hlocks hI e9.symm rfl (by rw [e9] <;> first | (omega) | (dsimp only; omega)) (by omega) dX6_isTaken_23
      · skip
        refine lv_iconst (v := iI 1) hx hb dX6_isTaken_18 rfl ?_
        refine lv_goto (tgt := 23) hx hb dX6_isTaken_19 (by decide) ?_
        have e9 : f_X6_isTaken a0 = 1 := by rw [f_X6_isTaken, if_neg c_1, if_neg c_2, if_pos c_3]
        exact g_zret (z := 1) hx hb hr hK hN hlocks hI e9.symm rfl (by rw [e9] <;> first | (omega) | (dsimp only; omega)) (by omega) dX6_isTaken_23
def f_X6_capital (a0 : Int) : Int := (if a0 < 97 then a0 else (if 122 < a0 then a0 else (a0 - 97) + 65))
theorem hd_X6_capital : yX6_capital.cls ≠ "java/lang/invoke/MethodHandle" ∧ yX6_capital.cls ≠ "java/lang/invoke/VarHandle" ∧ (parseMethodDescriptor yX6_capital.desc).map (fun d => d.parameters.length) = some 1 := by decide +kernel
set_option maxHeartbeats 4000000 in
set_option maxRecDepth 100000 in
theorem c_X6_capital (l : Launch) (D : va_G) (cy : Nat → ClassId) (ad : Nat → Nat) (σ : Sg) (a0 : Int) (ha0 : (-1 : Int) ≤ a0 ∧ a0 ≤ 255) : CM l D cy ad yX6_capital wsX6_capital { frames := 0, cells := 0, slots := 0, locals := 0 } [.int (iI a0)] σ (some (.int (iI (f_X6_capital a0)))) σ (-1 ≤ (f_X6_capital a0) ∧ (f_X6_capital a0) ≤ 255) := by
  refine CM.of (cc := cX6_capital) (maxL := 1) (ret := (some .int)) (by decide) rfl (Nat.le_of_ble_eq_true rfl) ?_
  intro p e s m args below meth c₀ ls X hI hl
  have hl : lv_has ls 1 [(0, .int (iI a0))] := hl
  obtain ⟨hx, hb, hr, hml, hown, hts, hlocks, hK, hN⟩ := id X
  have hF := hI.2.2.2
  refine lv_iload_n hx hb dX6_capital_0 rfl (lv_at hl 0 rfl) ?_
  refine lv_bipush (v := iI 97) hx hb dX6_capital_1 (iI_bip (by decide)) ?_
  refine g_icmp_lt (tgt := 22) hx hb dX6_capital_3 (by decide) (by omega) (by omega) (fun c_1 => ?_) (fun c_1 => ?_)
  · skip
    refine lv_iload_n hx hb dX6_capital_22 rfl (lv_at hl 0 rfl) ?_
    have e9 : f_X6_capital a0 = a0 := by rw [f_X6_capital, if_pos c_1]
    exact g_iret (z := a0) hx hb hr hK hN hlocks hI e9.symm rfl (by rw [e9] <;> first | (omega) | (dsimp only; omega)) dX6_capital_23
  · skip
    refine lv_iload_n hx hb dX6_capital_6 rfl (lv_at hl 0 rfl) ?_
    refine lv_bipush (v := iI 122) hx hb dX6_capital_7 (iI_bip (by decide)) ?_
    refine g_icmp_gt (tgt := 22) hx hb dX6_capital_9 (by decide) (by omega) (by omega) (fun c_2 => ?_) (fun c_2 => ?_)
    · skip
      refine lv_iload_n hx hb dX6_capital_22 rfl (lv_at hl 0 rfl) ?_
      have e9 : f_X6_capital a0 = a0 := by rw [f_X6_capital, if_neg c_1, if_pos c_2]
      exact g_iret (z := a0) hx hb hr hK hN hlocks hI e9.symm rfl (by rw [e9] <;> first | (omega) | (dsimp only; omega)) dX6_capital_23
    · skip
      refine lv_iload_n hx hb dX6_capital_12 rfl (lv_at hl 0 rfl) ?_
      refine lv_bipush (v := iI 97) hx hb dX6_capital_13 (iI_bip (by decide)) ?_
      refine g_isub hx hb dX6_capital_15 ?_
      refine lv_bipush (v := iI 65) hx hb dX6_capital_16 (iI_bip (by decide)) ?_
      refine g_iadd hx hb dX6_capital_18 ?_
      refine lv_goto (tgt := 23) hx hb dX6_capital_19 (by decide) ?_
      have e9 : f_X6_capital a0 = (a0 - 97) + 65 := by rw [f_X6_capital, if_neg c_1, if_neg c_2]
      exact g_iret (z := (a0 - 97) + 65) hx hb hr hK hN hlocks hI e9.symm rfl (by rw [e9] <;> first | (omega) | (dsimp only; omega)) dX6_capital_23
def f_X6_small (a0 : Int) : Int := (if a0 < 65 then a0 else (if 90 < a0 then a0 else (a0 - 65) + 97))
theorem hd_X6_small : yX6_small.cls ≠ "java/lang/invoke/MethodHandle" ∧ yX6_small.cls ≠ "java/lang/invoke/VarHandle" ∧ (parseMethodDescriptor yX6_small.desc).map (fun d => d.parameters.length) = some 1 := by decide +kernel
set_option maxHeartbeats 4000000 in
set_option maxRecDepth 100000 in
theorem c_X6_small (l : Launch) (D : va_G) (cy : Nat → ClassId) (ad : Nat → Nat) (σ : Sg) (a0 : Int) (ha0 : (-1 : Int) ≤ a0 ∧ a0 ≤ 255) : CM l D cy ad yX6_small wsX6_small { frames := 0, cells := 0, slots := 0, locals := 0 } [.int (iI a0)] σ (some (.int (iI (f_X6_small a0)))) σ (-1 ≤ (f_X6_small a0) ∧ (f_X6_small a0) ≤ 255) := by
  refine CM.of (cc := cX6_small) (maxL := 1) (ret := (some .int)) (by decide) rfl (Nat.le_of_ble_eq_true rfl) ?_
  intro p e s m args below meth c₀ ls X hI hl
  have hl : lv_has ls 1 [(0, .int (iI a0))] := hl
  obtain ⟨hx, hb, hr, hml, hown, hts, hlocks, hK, hN⟩ := id X
  have hF := hI.2.2.2
  refine lv_iload_n hx hb dX6_small_0 rfl (lv_at hl 0 rfl) ?_
  refine lv_bipush (v := iI 65) hx hb dX6_small_1 (iI_bip (by decide)) ?_
  refine g_icmp_lt (tgt := 22) hx hb dX6_small_3 (by decide) (by omega) (by omega) (fun c_1 => ?_) (fun c_1 => ?_)
  · skip
    refine lv_iload_n hx hb dX6_small_22 rfl (lv_at hl 0 rfl) ?_
    have e9 : f_X6_small a0 = a0 := by rw [f_X6_small, if_pos c_1]
    exact g_iret (z := a0) hx hb hr hK hN hlocks hI e9.symm rfl (by rw [e9] <;> first | (omega) | (dsimp only; omega)) dX6_small_23
  · skip
    refine lv_iload_n hx hb dX6_small_6 rfl (lv_at hl 0 rfl) ?_
    refine lv_bipush (v := iI 90) hx hb dX6_small_7 (iI_bip (by decide)) ?_
    refine g_icmp_gt (tgt := 22) hx hb dX6_small_9 (by decide) (by omega) (by omega) (fun c_2 => ?_) (fun c_2 => ?_)
    · skip
      refine lv_iload_n hx hb dX6_small_22 rfl (lv_at hl 0 rfl) ?_
      have e9 : f_X6_small a0 = a0 := by rw [f_X6_small, if_neg c_1, if_pos c_2]
      exact g_iret (z := a0) hx hb hr hK hN hlocks hI e9.symm rfl (by rw [e9] <;> first | (omega) | (dsimp only; omega)) dX6_small_23
    · skip
      refine lv_iload_n hx hb dX6_small_12 rfl (lv_at hl 0 rfl) ?_
      refine lv_bipush (v := iI 65) hx hb dX6_small_13 (iI_bip (by decide)) ?_
      refine g_isub hx hb dX6_small_15 ?_
      refine lv_bipush (v := iI 97) hx hb dX6_small_16 (iI_bip (by decide)) ?_
      refine g_iadd hx hb dX6_small_18 ?_
      refine lv_goto (tgt := 23) hx hb dX6_small_19 (by decide) ?_
      have e9 : f_X6_small a0 = (a0 - 65) + 97 := by rw [f_X6_small, if_neg c_1, if_neg c_2]
      exact g_iret (z := (a0 - 65) + 97) hx hb hr hK hN hlocks hI e9.symm rfl (by rw [e9] <;> first | (omega) | (dsimp only; omega)) dX6_small_23
