theorem in_X10_thrown_X10 : ∀ w ∈ u_ws RX10 TX10 44, w ∈ wsX10_thrown := by decide +kernel
def f_X10_thrown (σ : Sg) : Int := σ 28 0
theorem hd_X10_thrown : yX10_thrown.cls = RX10 ∧ yX10_thrown.cls ≠ "java/lang/invoke/MethodHandle" ∧ yX10_thrown.cls ≠ "java/lang/invoke/VarHandle" ∧ (parseMethodDescriptor yX10_thrown.desc).map (fun d => d.parameters.length) = some 0 := by decide +kernel
set_option maxHeartbeats 4000000 in
set_option maxRecDepth 100000 in
theorem c_X10_thrown (l : Launch) (D : va_G) (cy : Nat → ClassId) (ad : Nat → Nat) (σ : Sg) : CM l D cy ad yX10_thrown wsX10_thrown { frames := 0, cells := 0, slots := 0, locals := 0 } [.ref (ad 28)] σ (some (.int (iI (f_X10_thrown σ)))) σ (True) := by
  refine CM.of (cc := cX10_thrown) (maxL := 1) (ret := (some .int)) (by decide) rfl (Nat.le_of_ble_eq_true rfl) ?_
  intro p e s m args below meth c₀ ls X hI hl
  have hl : lv_has ls 1 [(0, .ref (ad 28))] := hl
  obtain ⟨hx, hb, hr, hml, hown, hts, hlocks, hK, hN⟩ := id X
  have hF := hI.2.2.2
  refine lv_aload_n hx hb dX10_thrown_0 rfl (lv_at hl 0 rfl) ?_
  refine g_get (C := RX10) (T := TX10) (N := 44) (ci := 9) (v := .int (iI (σ 28 0))) hx hb hts in_X10_thrown_X10 hown hK hI 28 (by decide) (cel_28 cy ad _) rfl 0 (by decide) (by decide +kernel) rfl dX10_thrown_1 ?_
  have b_1 := bd_28_0 hF
  have e9 : f_X10_thrown σ = σ 28 0 := by rw [f_X10_thrown]
  exact g_iret (z := σ 28 0) hx hb hr hK hN hlocks hI e9.symm rfl trivial dX10_thrown_4
def f_X10_within (a0 : Int) (a1 : Int) (a2 : Int) : Int := (if a0 < a1 then 0 else (if a2 < a0 then 0 else 1))
theorem hd_X10_within : yX10_within.cls ≠ "java/lang/invoke/MethodHandle" ∧ yX10_within.cls ≠ "java/lang/invoke/VarHandle" ∧ (parseMethodDescriptor yX10_within.desc).map (fun d => d.parameters.length) = some 3 := by decide +kernel
set_option maxHeartbeats 4000000 in
set_option maxRecDepth 100000 in
theorem c_X10_within (l : Launch) (D : va_G) (cy : Nat → ClassId) (ad : Nat → Nat) (σ : Sg) (a0 : Int) (ha0 : (-2147483648 ≤ a0 ∧ a0 < 2147483648)) (a1 : Int) (ha1 : (-2147483648 ≤ a1 ∧ a1 < 2147483648)) (a2 : Int) (ha2 : (-2147483648 ≤ a2 ∧ a2 < 2147483648)) : CM l D cy ad yX10_within wsX10_within { frames := 0, cells := 0, slots := 0, locals := 0 } [.int (iI a0), .int (iI a1), .int (iI a2)] σ (some (.int (iI (f_X10_within a0 a1 a2)))) σ ((0 ≤ f_X10_within a0 a1 a2 ∧ f_X10_within a0 a1 a2 ≤ 1) ∧ ((f_X10_within a0 a1 a2) = 0 ∨ (a1 ≤ a0 ∧ a0 ≤ a2))) := by
  refine CM.of (cc := cX10_within) (maxL := 3) (ret := (some .boolean)) (by decide) rfl (Nat.le_of_ble_eq_true rfl) ?_
  intro p e s m args below meth c₀ ls X hI hl
  have hl : lv_has ls 3 [(0, .int (iI a0)), (1, .int (iI a1)), (2, .int (iI a2))] := hl
  obtain ⟨hx, hb, hr, hml, hown, hts, hlocks, hK, hN⟩ := id X
  have hF := hI.2.2.2
  refine lv_iload_n hx hb dX10_within_0 rfl (lv_at hl 0 rfl) ?_
  refine lv_iload_n hx hb dX10_within_1 rfl (lv_at hl 1 rfl) ?_
  refine g_icmp_lt (tgt := 14) hx hb dX10_within_2 (by decide) (by omega) (by omega) (fun c_1 => ?_) (fun c_1 => ?_)
  · skip
    refine lv_iconst (v := iI 0) hx hb dX10_within_14 rfl ?_
    have e9 : f_X10_within a0 a1 a2 = 0 := by rw [f_X10_within, if_pos c_1]
    exact g_zret (z := 0) hx hb hr hK hN hlocks hI e9.symm rfl (by rw [e9] <;> first | (omega) | (dsimp only; omega)) (by omega) dX10_within_15
  · skip
    refine lv_iload_n hx hb dX10_within_5 rfl (lv_at hl 0 rfl) ?_
    refine lv_iload_n hx hb dX10_within_6 rfl (lv_at hl 2 rfl) ?_
    refine g_icmp_gt (tgt := 14) hx hb dX10_within_7 (by decide) (by omega) (by omega) (fun c_2 => ?_) (fun c_2 => ?_)
    · skip
      refine lv_iconst (v := iI 0) hx hb dX10_within_14 rfl ?_
      have e9 : f_X10_within a0 a1 a2 = 0 := by rw [f_X10_within, if_neg c_1, if_pos c_2]
      exact g_zret (z := 0) hx hb hr hK hN hlocks hI e9.symm rfl (by rw [e9] <;> first | (omega) | (dsimp only; omega)) (by omega) dX10_within_15
    · skip
      refine lv_iconst (v := iI 1) hx hb dX10_within_10 rfl ?_
      refine lv_goto (tgt := 15) hx hb dX10_within_11 (by decide) ?_
      have e9 : f_X10_within a0 a1 a2 = 1 := by rw [f_X10_within, if_neg c_1, if_neg c_2]
      exact g_zret (z := 1) hx hb hr hK hN hlocks hI e9.symm rfl (by rw [e9] <;> first | (omega) | (dsimp only; omega)) (by omega) dX10_within_15
def f_X10_low (a0 : Int) : Int := (if a0 < 65 then a0 else (if 90 < a0 then a0 else a0 + 32))
theorem hd_X10_low : yX10_low.cls ≠ "java/lang/invoke/MethodHandle" ∧ yX10_low.cls ≠ "java/lang/invoke/VarHandle" ∧ (parseMethodDescriptor yX10_low.desc).map (fun d => d.parameters.length) = some 1 := by decide +kernel
set_option maxHeartbeats 4000000 in
set_option maxRecDepth 100000 in
theorem c_X10_low (l : Launch) (D : va_G) (cy : Nat → ClassId) (ad : Nat → Nat) (σ : Sg) (a0 : Int) (ha0 : (-128 : Int) ≤ a0 ∧ a0 ≤ 127) : CM l D cy ad yX10_low wsX10_low { frames := 0, cells := 0, slots := 0, locals := 0 } [.int (iI a0)] σ (some (.int (iI (f_X10_low a0)))) σ (-128 ≤ (f_X10_low a0) ∧ (f_X10_low a0) ≤ 127) := by
  refine CM.of (cc := cX10_low) (maxL := 1) (ret := (some .int)) (by decide) rfl (Nat.le_of_ble_eq_true rfl) ?_
  intro p e s m args below meth c₀ ls X hI hl
  have hl : lv_has ls 1 [(0, .int (iI a0))] := hl
  obtain ⟨hx, hb, hr, hml, hown, hts, hlocks, hK, hN⟩ := id X
  have hF := hI.2.2.2
  refine lv_iload_n hx hb dX10_low_0 rfl (lv_at hl 0 rfl) ?_
  refine lv_bipush (v := iI 65) hx hb dX10_low_1 (iI_bip (by decide)) ?_
  refine g_icmp_lt (tgt := 19) hx hb dX10_low_3 (by decide) (by omega) (by omega) (fun c_1 => ?_) (fun c_1 => ?_)
  · skip
    refine lv_iload_n hx hb dX10_low_19 rfl (lv_at hl 0 rfl) ?_
    have e9 : f_X10_low a0 = a0 := by rw [f_X10_low, if_pos c_1]
    exact g_iret (z := a0) hx hb hr hK hN hlocks hI e9.symm rfl (by rw [e9] <;> first | (omega) | (dsimp only; omega)) dX10_low_20
  · skip
    refine lv_iload_n hx hb dX10_low_6 rfl (lv_at hl 0 rfl) ?_
    refine lv_bipush (v := iI 90) hx hb dX10_low_7 (iI_bip (by decide)) ?_
    refine g_icmp_gt (tgt := 19) hx hb dX10_low_9 (by decide) (by omega) (by omega) (fun c_2 => ?_) (fun c_2 => ?_)
    · skip
      refine lv_iload_n hx hb dX10_low_19 rfl (lv_at hl 0 rfl) ?_
      have e9 : f_X10_low a0 = a0 := by rw [f_X10_low, if_neg c_1, if_pos c_2]
      exact g_iret (z := a0) hx hb hr hK hN hlocks hI e9.symm rfl (by rw [e9] <;> first | (omega) | (dsimp only; omega)) dX10_low_20
    · skip
      refine lv_iload_n hx hb dX10_low_12 rfl (lv_at hl 0 rfl) ?_
      refine lv_bipush (v := iI 32) hx hb dX10_low_13 (iI_bip (by decide)) ?_
      refine g_iadd hx hb dX10_low_15 ?_
      refine lv_goto (tgt := 20) hx hb dX10_low_16 (by decide) ?_
      have e9 : f_X10_low a0 = a0 + 32 := by rw [f_X10_low, if_neg c_1, if_neg c_2]
      exact g_iret (z := a0 + 32) hx hb hr hK hN hlocks hI e9.symm rfl (by rw [e9] <;> first | (omega) | (dsimp only; omega)) dX10_low_20
def f_X10_high (a0 : Int) : Int := (if a0 < 97 then a0 else (if 122 < a0 then a0 else a0 - 32))
theorem hd_X10_high : yX10_high.cls ≠ "java/lang/invoke/MethodHandle" ∧ yX10_high.cls ≠ "java/lang/invoke/VarHandle" ∧ (parseMethodDescriptor yX10_high.desc).map (fun d => d.parameters.length) = some 1 := by decide +kernel
set_option maxHeartbeats 4000000 in
set_option maxRecDepth 100000 in
theorem c_X10_high (l : Launch) (D : va_G) (cy : Nat → ClassId) (ad : Nat → Nat) (σ : Sg) (a0 : Int) (ha0 : (-128 : Int) ≤ a0 ∧ a0 ≤ 127) : CM l D cy ad yX10_high wsX10_high { frames := 0, cells := 0, slots := 0, locals := 0 } [.int (iI a0)] σ (some (.int (iI (f_X10_high a0)))) σ (-128 ≤ (f_X10_high a0) ∧ (f_X10_high a0) ≤ 127) := by
  refine CM.of (cc := cX10_high) (maxL := 1) (ret := (some .int)) (by decide) rfl (Nat.le_of_ble_eq_true rfl) ?_
  intro p e s m args below meth c₀ ls X hI hl
  have hl : lv_has ls 1 [(0, .int (iI a0))] := hl
  obtain ⟨hx, hb, hr, hml, hown, hts, hlocks, hK, hN⟩ := id X
  have hF := hI.2.2.2
  refine lv_iload_n hx hb dX10_high_0 rfl (lv_at hl 0 rfl) ?_
  refine lv_bipush (v := iI 97) hx hb dX10_high_1 (iI_bip (by decide)) ?_
  refine g_icmp_lt (tgt := 19) hx hb dX10_high_3 (by decide) (by omega) (by omega) (fun c_1 => ?_) (fun c_1 => ?_)
  · skip
    refine lv_iload_n hx hb dX10_high_19 rfl (lv_at hl 0 rfl) ?_
    have e9 : f_X10_high a0 = a0 := by rw [f_X10_high, if_pos c_1]
    exact g_iret (z := a0) hx hb hr hK hN hlocks hI e9.symm rfl (by rw [e9] <;> first | (omega) | (dsimp only; omega)) dX10_high_20
  · skip
    refine lv_iload_n hx hb dX10_high_6 rfl (lv_at hl 0 rfl) ?_
    refine lv_bipush (v := iI 122) hx hb dX10_high_7 (iI_bip (by decide)) ?_
    refine g_icmp_gt (tgt := 19) hx hb dX10_high_9 (by decide) (by omega) (by omega) (fun c_2 => ?_) (fun c_2 => ?_)
    · skip
      refine lv_iload_n hx hb dX10_high_19 rfl (lv_at hl 0 rfl) ?_
      have e9 : f_X10_high a0 = a0 := by rw [f_X10_high, if_neg c_1, if_pos c_2]
      exact g_iret (z := a0) hx hb hr hK hN hlocks hI e9.symm rfl (by rw [e9] <;> first | (omega) | (dsimp only; omega)) dX10_high_20
    · skip
      refine lv_iload_n hx hb dX10_high_12 rfl (lv_at hl 0 rfl) ?_
      refine lv_bipush (v := iI 32) hx hb dX10_high_13 (iI_bip (by decide)) ?_
      refine g_isub hx hb dX10_high_15 ?_
      refine lv_goto (tgt := 20) hx hb dX10_high_16 (by decide) ?_
      have e9 : f_X10_high a0 = a0 - 32 := by rw [f_X10_high, if_neg c_1, if_neg c_2]
      exact g_iret (z := a0 - 32) hx hb hr hK hN hlocks hI e9.symm rfl (by rw [e9] <;> first | (omega) | (dsimp only; omega)) dX10_high_20
def f_X10_isFigure (a0 : Int) : Int := (if a0 < 48 then 0 else (if 57 < a0 then 0 else 1))
theorem hd_X10_isFigure : yX10_isFigure.cls ≠ "java/lang/invoke/MethodHandle" ∧ yX10_isFigure.cls ≠ "java/lang/invoke/VarHandle" ∧ (parseMethodDescriptor yX10_isFigure.desc).map (fun d => d.parameters.length) = some 1 := by decide +kernel
set_option maxHeartbeats 4000000 in
set_option maxRecDepth 100000 in
theorem c_X10_isFigure (l : Launch) (D : va_G) (cy : Nat → ClassId) (ad : Nat → Nat) (σ : Sg) (a0 : Int) (ha0 : (-2147483648 ≤ a0 ∧ a0 < 2147483648)) : CM l D cy ad yX10_isFigure wsX10_isFigure { frames := 0, cells := 0, slots := 0, locals := 0 } [.int (iI a0)] σ (some (.int (iI (f_X10_isFigure a0)))) σ ((0 ≤ f_X10_isFigure a0 ∧ f_X10_isFigure a0 ≤ 1)) := by
  refine CM.of (cc := cX10_isFigure) (maxL := 1) (ret := (some .boolean)) (by decide) rfl (Nat.le_of_ble_eq_true rfl) ?_
  intro p e s m args below meth c₀ ls X hI hl
  have hl : lv_has ls 1 [(0, .int (iI a0))] := hl
  obtain ⟨hx, hb, hr, hml, hown, hts, hlocks, hK, hN⟩ := id X
  have hF := hI.2.2.2
  refine lv_iload_n hx hb dX10_isFigure_0 rfl (lv_at hl 0 rfl) ?_
  refine lv_bipush (v := iI 48) hx hb dX10_isFigure_1 (iI_bip (by decide)) ?_
  refine g_icmp_lt (tgt := 16) hx hb dX10_isFigure_3 (by decide) (by omega) (by omega) (fun c_1 => ?_) (fun c_1 => ?_)
  · skip
    refine lv_iconst (v := iI 0) hx hb dX10_isFigure_16 rfl ?_
    have e9 : f_X10_isFigure a0 = 0 := by rw [f_X10_isFigure, if_pos c_1]
    exact g_zret (z := 0) hx hb hr hK hN hlocks hI e9.symm rfl (by rw [e9] <;> first | (omega) | (dsimp only; omega)) (by omega) dX10_isFigure_17
  · skip
    refine lv_iload_n hx hb dX10_isFigure_6 rfl (lv_at hl 0 rfl) ?_
    refine lv_bipush (v := iI 57) hx hb dX10_isFigure_7 (iI_bip (by decide)) ?_
    refine g_icmp_gt (tgt := 16) hx hb dX10_isFigure_9 (by decide) (by omega) (by omega) (fun c_2 => ?_) (fun c_2 => ?_)
    · skip
      refine lv_iconst (v := iI 0) hx hb dX10_isFigure_16 rfl ?_
      have e9 : f_X10_isFigure a0 = 0 := by rw [f_X10_isFigure, if_neg c_1, if_pos c_2]
      exact g_zret (z := 0) hx hb hr hK hN hlocks hI e9.symm rfl (by rw [e9] <;> first | (omega) | (dsimp only; omega)) (by omega) dX10_isFigure_17
    · skip
      refine lv_iconst (v := iI 1) hx hb dX10_isFigure_12 rfl ?_
      refine lv_goto (tgt := 17) hx hb dX10_isFigure_13 (by decide) ?_
      have e9 : f_X10_isFigure a0 = 1 := by rw [f_X10_isFigure, if_neg c_1, if_neg c_2]
      exact g_zret (z := 1) hx hb hr hK hN hlocks hI e9.symm rfl (by rw [e9] <;> first | (omega) | (dsimp only; omega)) (by omega) dX10_isFigure_17
def f_X10_isNameByte (a0 : Int) : Int := (if a0 < 97 then (if a0 < 65 then (if (f_X10_isFigure a0) = 0 then (if a0 = 46 then 1 else (if a0 = 45 then 1 else (if a0 = 95 then 1 else 0))) else 1) else (if a0 ≤ 90 then 1 else (if (f_X10_isFigure a0) = 0 then (if a0 = 46 then 1 else (if a0 = 45 then 1 else (if a0 = 95 then 1 else 0))) else 1))) else (if a0 ≤ 122 then 1 else (if a0 < 65 then (if (f_X10_isFigure a0) = 0 then (if a0 = 46 then 1 else (if a0 = 45 then 1 else (if a0 = 95 then 1 else 0))) else 1) else (if a0 ≤ 90 then 1 else (if (f_X10_isFigure a0) = 0 then (if a0 = 46 then 1 else (if a0 = 45 then 1 else (if a0 = 95 then 1 else 0))) else 1)))))
theorem hd_X10_isNameByte : yX10_isNameByte.cls ≠ "java/lang/invoke/MethodHandle" ∧ yX10_isNameByte.cls ≠ "java/lang/invoke/VarHandle" ∧ (parseMethodDescriptor yX10_isNameByte.desc).map (fun d => d.parameters.length) = some 1 := by decide +kernel
set_option maxHeartbeats 4000000 in
set_option maxRecDepth 100000 in
theorem c_X10_isNameByte (l : Launch) (D : va_G) (cy : Nat → ClassId) (ad : Nat → Nat) (σ : Sg) (a0 : Int) (ha0 : (-2147483648 ≤ a0 ∧ a0 < 2147483648)) : CM l D cy ad yX10_isNameByte wsX10_isNameByte { frames := 1, cells := 0, slots := 0, locals := 40 } [.int (iI a0)] σ (some (.int (iI (f_X10_isNameByte a0)))) σ ((0 ≤ f_X10_isNameByte a0 ∧ f_X10_isNameByte a0 ≤ 1)) := by
  refine CM.of (cc := cX10_isNameByte) (maxL := 1) (ret := (some .boolean)) (by decide) rfl (Nat.le_of_ble_eq_true rfl) ?_
  intro p e s m args below meth c₀ ls X hI hl
  have hl : lv_has ls 1 [(0, .int (iI a0))] := hl
  obtain ⟨hx, hb, hr, hml, hown, hts, hlocks, hK, hN⟩ := id X
  have hF := hI.2.2.2
  refine lv_iload_n hx hb dX10_isNameByte_0 rfl (lv_at hl 0 rfl) ?_
  refine lv_bipush (v := iI 97) hx hb dX10_isNameByte_1 (iI_bip (by decide)) ?_
  refine g_icmp_lt (tgt := 12) hx hb dX10_isNameByte_3 (by decide) (by omega) (by omega) (fun c_1 => ?_) (fun c_1 => ?_)
  · skip
    refine lv_iload_n hx hb dX10_isNameByte_12 rfl (lv_at hl 0 rfl) ?_
    refine lv_bipush (v := iI 65) hx hb dX10_isNameByte_13 (iI_bip (by decide)) ?_
    refine g_icmp_lt (tgt := 24) hx hb dX10_isNameByte_15 (by decide) (by omega) (by omega) (fun c_2 => ?_) (fun c_2 => ?_)
    · skip
      refine lv_iload_n hx hb dX10_isNameByte_24 rfl (lv_at hl 0 rfl) ?_
      refine g_S (As := [.int (iI a0)]) (rest := []) (c_X10_isFigure l D cy ad σ a0 (by omega)) hx hb hml hown hts hK hN hI hl.1 gX10_isNameByte_X10_isFigure rfl hd_X10_isFigure rfl rfl ⟨Nat.le_of_ble_eq_true rfl, Nat.le_of_ble_eq_true rfl⟩ ⟨Nat.zero_le _, Nat.zero_le _⟩ rfl rfl (Nat.le_of_ble_eq_true rfl) dX10_isNameByte_25 (fun H locs hG_3 hI => ?_)
      refine g_if_ne (tgt := 49) hx hb dX10_isNameByte_28 (by decide) (by omega) (fun c_4 => ?_) (fun c_4 => ?_)
      · skip
        refine lv_iconst (v := iI 1) hx hb dX10_isNameByte_49 rfl ?_
        refine lv_goto (tgt := 54) hx hb dX10_isNameByte_50 (by decide) ?_
        have e9 : f_X10_isNameByte a0 = 1 := by rw [f_X10_isNameByte, if_pos c_1, if_pos c_2, if_neg c_4]
        exact g_zret (z := 1) hx hb hr hK hN hlocks hI e9.symm rfl (by rw [e9] <;> first | (omega) | (dsimp only; omega)) (by omega) dX10_isNameByte_54
      · skip
        refine lv_iload_n hx hb dX10_isNameByte_31 rfl (lv_at hl 0 rfl) ?_
        refine lv_bipush (v := iI 46) hx hb dX10_isNameByte_32 (iI_bip (by decide)) ?_
        refine g_icmp_eq (tgt := 49) hx hb dX10_isNameByte_34 (by decide) (by omega) (by omega) (fun c_5 => ?_) (fun c_5 => ?_)
        · skip
          refine lv_iconst (v := iI 1) hx hb dX10_isNameByte_49 rfl ?_
          refine lv_goto (tgt := 54) hx hb dX10_isNameByte_50 (by decide) ?_
          have e9 : f_X10_isNameByte a0 = 1 := by rw [f_X10_isNameByte, if_pos c_1, if_pos c_2, if_pos c_4, if_pos c_5]
          exact g_zret (z := 1) hx hb hr hK hN hlocks hI e9.symm rfl (by rw [e9] <;> first | (omega) | (dsimp only; omega)) (by omega) dX10_isNameByte_54
        · skip
          refine lv_iload_n hx hb dX10_isNameByte_37 rfl (lv_at hl 0 rfl) ?_
          refine lv_bipush (v := iI 45) hx hb dX10_isNameByte_38 (iI_bip (by decide)) ?_
          refine g_icmp_eq (tgt := 49) hx hb dX10_isNameByte_40 (by decide) (by omega) (by omega) (fun c_6 => ?_) (fun c_6 => ?_)
          · skip
            refine lv_iconst (v := iI 1) hx hb dX10_isNameByte_49 rfl ?_
            refine lv_goto (tgt := 54) hx hb dX10_isNameByte_50 (by decide) ?_
            have e9 : f_X10_isNameByte a0 = 1 := by rw [f_X10_isNameByte, if_pos c_1, if_pos c_2, if_pos c_4, if_neg c_5, if_pos c_6]
            exact g_zret (z := 1) hx hb hr hK hN hlocks hI e9.symm rfl (by rw [e9] <;> first | (omega) | (dsimp only; omega)) (by omega) dX10_isNameByte_54
          · skip
            refine lv_iload_n hx hb dX10_isNameByte_43 rfl (lv_at hl 0 rfl) ?_
            refine lv_bipush (v := iI 95) hx hb dX10_isNameByte_44 (iI_bip (by decide)) ?_
            refine g_icmp_ne (tgt := 53) hx hb dX10_isNameByte_46 (by decide) (by omega) (by omega) (fun c_7 => ?_) (fun c_7 => ?_)
            · skip
              refine lv_iconst (v := iI 0) hx hb dX10_isNameByte_53 rfl ?_
              have e9 : f_X10_isNameByte a0 = 0 := by rw [f_X10_isNameByte, if_pos c_1, if_pos c_2, if_pos c_4, if_neg c_5, if_neg c_6, if_neg c_7]
              exact g_zret (z := 0) hx hb hr hK hN hlocks hI e9.symm rfl (by rw [e9] <;> first | (omega) | (dsimp only; omega)) (by omega) dX10_isNameByte_54
            · skip
              refine lv_iconst (v := iI 1) hx hb dX10_isNameByte_49 rfl ?_
              refine lv_goto (tgt := 54) hx hb dX10_isNameByte_50 (by decide) ?_
              have e9 : f_X10_isNameByte a0 = 1 := by rw [f_X10_isNameByte, if_pos c_1, if_pos c_2, if_pos c_4, if_neg c_5, if_neg c_6, if_pos c_7]
              exact g_zret (z := 1) hx hb hr hK hN hlocks hI e9.symm rfl (by rw [e9] <;> first | (omega) | (dsimp only; omega)) (by omega) dX10_isNameByte_54
    · skip
      refine lv_iload_n hx hb dX10_isNameByte_18 rfl (lv_at hl 0 rfl) ?_
      refine lv_bipush (v := iI 90) hx hb dX10_isNameByte_19 (iI_bip (by decide)) ?_
      refine g_icmp_le (tgt := 49) hx hb dX10_isNameByte_21 (by decide) (by omega) (by omega) (fun c_8 => ?_) (fun c_8 => ?_)
      · skip
        refine lv_iconst (v := iI 1) hx hb dX10_isNameByte_49 rfl ?_
        refine lv_goto (tgt := 54) hx hb dX10_isNameByte_50 (by decide) ?_
        have e9 : f_X10_isNameByte a0 = 1 := by rw [f_X10_isNameByte, if_pos c_1, if_neg c_2, if_pos c_8]
        exact g_zret (z := 1) hx hb hr hK hN hlocks hI e9.symm rfl (by rw [e9] <;> first | (omega) | (dsimp only; omega)) (by omega) dX10_isNameByte_54
      · skip
        refine lv_iload_n hx hb dX10_isNameByte_24 rfl (lv_at hl 0 rfl) ?_
        refine g_S (As := [.int (iI a0)]) (rest := []) (c_X10_isFigure l D cy ad σ a0 (by omega)) hx hb hml hown hts hK hN hI hl.1 gX10_isNameByte_X10_isFigure rfl hd_X10_isFigure rfl rfl ⟨Nat.le_of_ble_eq_true rfl, Nat.le_of_ble_eq_true rfl⟩ ⟨Nat.zero_le _, Nat.zero_le _⟩ rfl rfl (Nat.le_of_ble_eq_true rfl) dX10_isNameByte_25 (fun H locs hG_9 hI => ?_)
        refine g_if_ne (tgt := 49) hx hb dX10_isNameByte_28 (by decide) (by omega) (fun c_10 => ?_) (fun c_10 => ?_)
        · skip
          refine lv_iconst (v := iI 1) hx hb dX10_isNameByte_49 rfl ?_
          refine lv_goto (tgt := 54) hx hb dX10_isNameByte_50 (by decide) ?_
          have e9 : f_X10_isNameByte a0 = 1 := by rw [f_X10_isNameByte, if_pos c_1, if_neg c_2, if_neg c_8, if_neg c_10]
          exact g_zret (z := 1) hx hb hr hK hN hlocks hI e9.symm rfl (by rw [e9] <;> first | (omega) | (dsimp only; omega)) (by omega) dX10_isNameByte_54
        · skip
          refine lv_iload_n hx hb dX10_isNameByte_31 rfl (lv_at hl 0 rfl) ?_
          refine lv_bipush (v := iI 46) hx hb dX10_isNameByte_32 (iI_bip (by decide)) ?_
          refine g_icmp_eq (tgt := 49) hx hb dX10_isNameByte_34 (by decide) (by omega) (by omega) (fun c_11 => ?_) (fun c_11 => ?_)
          · skip
            refine lv_iconst (v := iI 1) hx hb dX10_isNameByte_49 rfl ?_
            refine lv_goto (tgt := 54) hx hb dX10_isNameByte_50 (by decide) ?_
            have e9 : f_X10_isNameByte a0 = 1 := by rw [f_X10_isNameByte, if_pos c_1, if_neg c_2, if_neg c_8, if_pos c_10, if_pos c_11]
            exact g_zret (z := 1) hx hb hr hK hN hlocks hI e9.symm rfl (by rw [e9] <;> first | (omega) | (dsimp only; omega)) (by omega) dX10_isNameByte_54
          · skip
            refine lv_iload_n hx hb dX10_isNameByte_37 rfl (lv_at hl 0 rfl) ?_
            refine lv_bipush (v := iI 45) hx hb dX10_isNameByte_38 (iI_bip (by decide)) ?_
            refine g_icmp_eq (tgt := 49) hx hb dX10_isNameByte_40 (by decide) (by omega) (by omega) (fun c_12 => ?_) (fun c_12 => ?_)
            · skip
              refine lv_iconst (v := iI 1) hx hb dX10_isNameByte_49 rfl ?_
              refine lv_goto (tgt := 54) hx hb dX10_isNameByte_50 (by decide) ?_
              have e9 : f_X10_isNameByte a0 = 1 := by rw [f_X10_isNameByte, if_pos c_1, if_neg c_2, if_neg c_8, if_pos c_10, if_neg c_11, if_pos c_12]
              exact g_zret (z := 1) hx hb hr hK hN hlocks hI e9.symm rfl (by rw [e9] <;> first | (omega) | (dsimp only; omega)) (by omega) dX10_isNameByte_54
            · skip
              refine lv_iload_n hx hb dX10_isNameByte_43 rfl (lv_at hl 0 rfl) ?_
              refine lv_bipush (v := iI 95) hx hb dX10_isNameByte_44 (iI_bip (by decide)) ?_
              refine g_icmp_ne (tgt := 53) hx hb dX10_isNameByte_46 (by decide) (by omega) (by omega) (fun c_13 => ?_) (fun c_13 => ?_)
              · skip
                refine lv_iconst (v := iI 0) hx hb dX10_isNameByte_53 rfl ?_
                have e9 : f_X10_isNameByte a0 = 0 := by rw [f_X10_isNameByte, if_pos c_1, if_neg c_2, if_neg c_8, if_pos c_10, if_neg c_11, if_neg c_12, if_neg c_13]
                exact g_zret (z := 0) hx hb hr hK hN hlocks hI e9.symm rfl (by rw [e9] <;> first | (omega) | (dsimp only; omega)) (by omega) dX10_isNameByte_54
              · skip
                refine lv_iconst (v := iI 1) hx hb dX10_isNameByte_49 rfl ?_
                refine lv_goto (tgt := 54) hx hb dX10_isNameByte_50 (by decide) ?_
                have e9 : f_X10_isNameByte a0 = 1 := by rw [f_X10_isNameByte, if_pos c_1, if_neg c_2, if_neg c_8, if_pos c_10, if_neg c_11, if_neg c_12, if_pos c_13]
                exact g_zret (z := 1) hx hb hr hK hN hlocks hI e9.symm rfl (by rw [e9] <;> first | (omega) | (dsimp only; omega)) (by omega) dX10_isNameByte_54
  · skip
    refine lv_iload_n hx hb dX10_isNameByte_6 rfl (lv_at hl 0 rfl) ?_
    refine lv_bipush (v := iI 122) hx hb dX10_isNameByte_7 (iI_bip (by decide)) ?_
    refine g_icmp_le (tgt := 49) hx hb dX10_isNameByte_9 (by decide) (by omega) (by omega) (fun c_14 => ?_) (fun c_14 => ?_)
    · skip
      refine lv_iconst (v := iI 1) hx hb dX10_isNameByte_49 rfl ?_
      refine lv_goto (tgt := 54) hx hb dX10_isNameByte_50 (by decide) ?_
      have e9 : f_X10_isNameByte a0 = 1 := by rw [f_X10_isNameByte, if_neg c_1, if_pos c_14]
      exact g_zret (z := 1) hx hb hr hK hN hlocks hI e9.symm rfl (by rw [e9] <;> first | (omega) | (dsimp only; omega)) (by omega) dX10_isNameByte_54
    · skip
      refine lv_iload_n hx hb dX10_isNameByte_12 rfl (lv_at hl 0 rfl) ?_
      refine lv_bipush (v := iI 65) hx hb dX10_isNameByte_13 (iI_bip (by decide)) ?_
      refine g_icmp_lt (tgt := 24) hx hb dX10_isNameByte_15 (by decide) (by omega) (by omega) (fun c_15 => ?_) (fun c_15 => ?_)
      · skip
        refine lv_iload_n hx hb dX10_isNameByte_24 rfl (lv_at hl 0 rfl) ?_
        refine g_S (As := [.int (iI a0)]) (rest := []) (c_X10_isFigure l D cy ad σ a0 (by omega)) hx hb hml hown hts hK hN hI hl.1 gX10_isNameByte_X10_isFigure rfl hd_X10_isFigure rfl rfl ⟨Nat.le_of_ble_eq_true rfl, Nat.le_of_ble_eq_true rfl⟩ ⟨Nat.zero_le _, Nat.zero_le _⟩ rfl rfl (Nat.le_of_ble_eq_true rfl) dX10_isNameByte_25 (fun H locs hG_16 hI => ?_)
        refine g_if_ne (tgt := 49) hx hb dX10_isNameByte_28 (by decide) (by omega) (fun c_17 => ?_) (fun c_17 => ?_)
        · skip
          refine lv_iconst (v := iI 1) hx hb dX10_isNameByte_49 rfl ?_
          refine lv_goto (tgt := 54) hx hb dX10_isNameByte_50 (by decide) ?_
          have e9 : f_X10_isNameByte a0 = 1 := by rw [f_X10_isNameByte, if_neg c_1, if_neg c_14, if_pos c_15, if_neg c_17]
          exact g_zret (z := 1) hx hb hr hK hN hlocks hI e9.symm rfl (by rw [e9] <;> first | (omega) | (dsimp only; omega)) (by omega) dX10_isNameByte_54
        · skip
          refine lv_iload_n hx hb dX10_isNameByte_31 rfl (lv_at hl 0 rfl) ?_
          refine lv_bipush (v := iI 46) hx hb dX10_isNameByte_32 (iI_bip (by decide)) ?_
          refine g_icmp_eq (tgt := 49) hx hb dX10_isNameByte_34 (by decide) (by omega) (by omega) (fun c_18 => ?_) (fun c_18 => ?_)
          · skip
            refine lv_iconst (v := iI 1) hx hb dX10_isNameByte_49 rfl ?_
            refine lv_goto (tgt := 54) hx hb dX10_isNameByte_50 (by decide) ?_
            have e9 : f_X10_isNameByte a0 = 1 := by rw [f_X10_isNameByte, if_neg c_1, if_neg c_14, if_pos c_15, if_pos c_17, if_pos c_18]
            exact g_zret (z := 1) hx hb hr hK hN hlocks hI e9.symm rfl (by rw [e9] <;> first | (omega) | (dsimp only; omega)) (by omega) dX10_isNameByte_54
          · skip
            refine lv_iload_n hx hb dX10_isNameByte_37 rfl (lv_at hl 0 rfl) ?_
            refine lv_bipush (v := iI 45) hx hb dX10_isNameByte_38 (iI_bip (by decide)) ?_
            refine g_icmp_eq (tgt := 49) hx hb dX10_isNameByte_40 (by decide) (by omega) (by omega) (fun c_19 => ?_) (fun c_19 => ?_)
            · skip
              refine lv_iconst (v := iI 1) hx hb dX10_isNameByte_49 rfl ?_
              refine lv_goto (tgt := 54) hx hb dX10_isNameByte_50 (by decide) ?_
              have e9 : f_X10_isNameByte a0 = 1 := by rw [f_X10_isNameByte, if_neg c_1, if_neg c_14, if_pos c_15, if_pos c_17, if_neg c_18, if_pos c_19]
              exact g_zret (z := 1) hx hb hr hK hN hlocks hI e9.symm rfl (by rw [e9] <;> first | (omega) | (dsimp only; omega)) (by omega) dX10_isNameByte_54
            · skip
              refine lv_iload_n hx hb dX10_isNameByte_43 rfl (lv_at hl 0 rfl) ?_
              refine lv_bipush (v := iI 95) hx hb dX10_isNameByte_44 (iI_bip (by decide)) ?_
              refine g_icmp_ne (tgt := 53) hx hb dX10_isNameByte_46 (by decide) (by omega) (by omega) (fun c_20 => ?_) (fun c_20 => ?_)
              · skip
                refine lv_iconst (v := iI 0) hx hb dX10_isNameByte_53 rfl ?_
                have e9 : f_X10_isNameByte a0 = 0 := by rw [f_X10_isNameByte, if_neg c_1, if_neg c_14, if_pos c_15, if_pos c_17, if_neg c_18, if_neg c_19, if_neg c_20]
                exact g_zret (z := 0) hx hb hr hK hN hlocks hI e9.symm rfl (by rw [e9] <;> first | (omega) | (dsimp only; omega)) (by omega) dX10_isNameByte_54
              · skip
                refine lv_iconst (v := iI 1) hx hb dX10_isNameByte_49 rfl ?_
                refine lv_goto (tgt := 54) hx hb dX10_isNameByte_50 (by decide) ?_
                have e9 : f_X10_isNameByte a0 = 1 := by rw [f_X10_isNameByte, if_neg c_1, if_neg c_14, if_pos c_15, if_pos c_17, if_neg c_18, if_neg c_19, if_pos c_20]
                exact g_zret (z := 1) hx hb hr hK hN hlocks hI e9.symm rfl (by rw [e9] <;> first | (omega) | (dsimp only; omega)) (by omega) dX10_isNameByte_54
      · skip
        refine lv_iload_n hx hb dX10_isNameByte_18 rfl (lv_at hl 0 rfl) ?_
        refine lv_bipush (v := iI 90) hx hb dX10_isNameByte_19 (iI_bip (by decide)) ?_
        refine g_icmp_le (tgt := 49) hx hb dX10_isNameByte_21 (by decide) (by omega) (by omega) (fun c_21 => ?_) (fun c_21 => ?_)
        · skip
          refine lv_iconst (v := iI 1) hx hb dX10_isNameByte_49 rfl ?_
          refine lv_goto (tgt := 54) hx hb dX10_isNameByte_50 (by decide) ?_
          have e9 : f_X10_isNameByte a0 = 1 := by rw [f_X10_isNameByte, if_neg c_1, if_neg c_14, if_neg c_15, if_pos c_21]
          exact g_zret (z := 1) hx hb hr hK hN hlocks hI e9.symm rfl (by rw [e9] <;> first | (omega) | (dsimp only; omega)) (by omega) dX10_isNameByte_54
        · skip
          refine lv_iload_n hx hb dX10_isNameByte_24 rfl (lv_at hl 0 rfl) ?_
          refine g_S (As := [.int (iI a0)]) (rest := []) (c_X10_isFigure l D cy ad σ a0 (by omega)) hx hb hml hown hts hK hN hI hl.1 gX10_isNameByte_X10_isFigure rfl hd_X10_isFigure rfl rfl ⟨Nat.le_of_ble_eq_true rfl, Nat.le_of_ble_eq_true rfl⟩ ⟨Nat.zero_le _, Nat.zero_le _⟩ rfl rfl (Nat.le_of_ble_eq_true rfl) dX10_isNameByte_25 (fun H locs hG_22 hI => ?_)
          refine g_if_ne (tgt := 49) hx hb dX10_isNameByte_28 (by decide) (by omega) (fun c_23 => ?_) (fun c_23 => ?_)
          · skip
            refine lv_iconst (v := iI 1) hx hb dX10_isNameByte_49 rfl ?_
            refine lv_goto (tgt := 54) hx hb dX10_isNameByte_50 (by decide) ?_
            have e9 : f_X10_isNameByte a0 = 1 := by rw [f_X10_isNameByte, if_neg c_1, if_neg c_14, if_neg c_15, if_neg c_21, if_neg c_23]
            exact g_zret (z := 1) hx hb hr hK hN hlocks hI e9.symm rfl (by rw [e9] <;> first | (omega) | (dsimp only; omega)) (by omega) dX10_isNameByte_54
          · skip
            refine lv_iload_n hx hb dX10_isNameByte_31 rfl (lv_at hl 0 rfl) ?_
            refine lv_bipush (v := iI 46) hx hb dX10_isNameByte_32 (iI_bip (by decide)) ?_
            refine g_icmp_eq (tgt := 49) hx hb dX10_isNameByte_34 (by decide) (by omega) (by omega) (fun c_24 => ?_) (fun c_24 => ?_)
            · skip
              refine lv_iconst (v := iI 1) hx hb dX10_isNameByte_49 rfl ?_
              refine lv_goto (tgt := 54) hx hb dX10_isNameByte_50 (by decide) ?_
              have e9 : f_X10_isNameByte a0 = 1 := by rw [f_X10_isNameByte, if_neg c_1, if_neg c_14, if_neg c_15, if_neg c_21, if_pos c_23, if_pos c_24]
              exact g_zret (z := 1) hx hb hr hK hN hlocks hI e9.symm rfl (by rw [e9] <;> first | (omega) | (dsimp only; omega)) (by omega) dX10_isNameByte_54
            · skip
              refine lv_iload_n hx hb dX10_isNameByte_37 rfl (lv_at hl 0 rfl) ?_
              refine lv_bipush (v := iI 45) hx hb dX10_isNameByte_38 (iI_bip (by decide)) ?_
              refine g_icmp_eq (tgt := 49) hx hb dX10_isNameByte_40 (by decide) (by omega) (by omega) (fun c_25 => ?_) (fun c_25 => ?_)
              · skip
                refine lv_iconst (v := iI 1) hx hb dX10_isNameByte_49 rfl ?_
                refine lv_goto (tgt := 54) hx hb dX10_isNameByte_50 (by decide) ?_
                have e9 : f_X10_isNameByte a0 = 1 := by rw [f_X10_isNameByte, if_neg c_1, if_neg c_14, if_neg c_15, if_neg c_21, if_pos c_23, if_neg c_24, if_pos c_25]
                exact g_zret (z := 1) hx hb hr hK hN hlocks hI e9.symm rfl (by rw [e9] <;> first | (omega) | (dsimp only; omega)) (by omega) dX10_isNameByte_54
              · skip
                refine lv_iload_n hx hb dX10_isNameByte_43 rfl (lv_at hl 0 rfl) ?_
                refine lv_bipush (v := iI 95) hx hb dX10_isNameByte_44 (iI_bip (by decide)) ?_
                refine g_icmp_ne (tgt := 53) hx hb dX10_isNameByte_46 (by decide) (by omega) (by omega) (fun c_26 => ?_) (fun c_26 => ?_)
                · skip
                  refine lv_iconst (v := iI 0) hx hb dX10_isNameByte_53 rfl ?_
                  have e9 : f_X10_isNameByte a0 = 0 := by rw [f_X10_isNameByte, if_neg c_1, if_neg c_14, if_neg c_15, if_neg c_21, if_pos c_23, if_neg c_24, if_neg c_25, if_neg c_26]
                  exact g_zret (z := 0) hx hb hr hK hN hlocks hI e9.symm rfl (by rw [e9] <;> first | (omega) | (dsimp only; omega)) (by omega) dX10_isNameByte_54
                · skip
                  refine lv_iconst (v := iI 1) hx hb dX10_isNameByte_49 rfl ?_
                  refine lv_goto (tgt := 54) hx hb dX10_isNameByte_50 (by decide) ?_
                  have e9 : f_X10_isNameByte a0 = 1 := by rw [f_X10_isNameByte, if_neg c_1, if_neg c_14, if_neg c_15, if_neg c_21, if_pos c_23, if_neg c_24, if_neg c_25, if_pos c_26]
                  exact g_zret (z := 1) hx hb hr hK hN hlocks hI e9.symm rfl (by rw [e9] <;> first | (omega) | (dsimp only; omega)) (by omega) dX10_isNameByte_54
theorem in_X10_isJust_X10 : ∀ w ∈ u_ws RX10 TX10 44, w ∈ wsX10_isJust := by decide +kernel
def L_X10_isJust_34 (σ : Sg) (a0 : Int) (a1 : Int) : Nat → Int → Int
  | 0, x3 => 0
  | n + 1, x3 => (if (σ 30 a0.toNat) ≤ x3 then 1 else (if (σ 29 (((12 * a0) + x3).toNat)) = (σ 29 (((12 * a1) + x3).toNat)) then L_X10_isJust_34 σ a0 a1 n (x3 + 1) else 0))
set_option maxHeartbeats 4000000 in
set_option maxRecDepth 100000 in
theorem w_L_X10_isJust_34 {p : Program} {l : Launch} {e : Env} {s : State} {m : MethodId} {args : Array Value} {below : List Frame} {meth : Method} {c₀ : Code} {D : va_G} {cy : Nat → ClassId} {ad : Nat → Nat} (X : MX p s m args meth c₀ cX10_isJust 4 RX10 (some .boolean) wsX10_isJust D cy) (σ : Sg) (a0 : Int) (ha0 : (0 : Int) ≤ a0 ∧ a0 ≤ 159) (a1 : Int) (ha1 : (0 : Int) ≤ a1 ∧ a1 ≤ 159) : ∀ (n : Nat) (x3 : Int) (hx3 : (0 : Int) ≤ x3 ∧ x3 ≤ 12) (hmu : 12 - x3 < (n : Int)) (H : Heap) (locs : List Loc) (ls : Array Slot) (hI : HI D cy ad s σ H locs) (hl : lv_has ls 4 [(0, .ref (ad 28)), (1, .int (iI a0)), (2, .int (iI a1)), (3, .int (iI x3))]), W p l e { frames := 0, cells := 0, slots := 0, locals := 0 } s m args below meth c₀ H locs 0 0 (MQ below (CQ D cy ad (some (.int (iI (L_X10_isJust_34 σ a0 a1 n x3)))) σ ((0 ≤ L_X10_isJust_34 σ a0 a1 n x3 ∧ L_X10_isJust_34 σ a0 a1 n x3 ≤ 1)) (AA ad s.heap.size)) args s 0 0 (AA ad s.heap.size)) (F0 m 34 ls []) := by
  obtain ⟨hx, hb, hr, hml, hown, hts, hlocks, hK, hN⟩ := id X
  intro n
  induction n with
  | zero =>
    intro x3 hx3 hmu H locs ls hI hl
    exfalso
    have hF := hI.2.2.2
    omega
  | succ n ih =>
    intro x3 hx3 hmu H locs ls hI hl
    have hF := hI.2.2.2
    refine lv_iload_n hx hb dX10_isJust_34 rfl (lv_at hl 3 rfl) ?_
    refine lv_aload_n hx hb dX10_isJust_35 rfl (lv_at hl 0 rfl) ?_
    refine g_get (C := RX10) (T := TX10) (N := 44) (ci := 9) (v := .ref (ad 30)) hx hb hts in_X10_isJust_X10 hown hK hI 28 (by decide) (cel_28 cy ad _) rfl 2 (by decide) (by decide +kernel) rfl dX10_isJust_36 ?_
    refine lv_iload_n hx hb dX10_isJust_39 rfl (lv_at hl 1 rfl) ?_
    refine g_iald (v := σ 30 a0.toNat) hx hb hK hI 30 (by decide) (cel_30 cy ad) (by omega) (by decide) rfl dX10_isJust_40 ?_
    have b_7 := bd_30 hF a0.toNat
    refine g_icmp_ge (tgt := 77) hx hb dX10_isJust_41 (by decide) (by omega) (by omega) (fun c_8 => ?_) (fun c_8 => ?_)
    · skip
      refine lv_iconst (v := iI 1) hx hb dX10_isJust_77 rfl ?_
      have e9 : L_X10_isJust_34 σ a0 a1 (n + 1) x3 = 1 := by rw [L_X10_isJust_34, if_pos c_8]
      exact g_zret (z := 1) hx hb hr hK hN hlocks hI e9.symm rfl (by rw [e9] <;> first | (omega) | (dsimp only; omega)) (by omega) dX10_isJust_78
    · skip
      refine lv_aload_n hx hb dX10_isJust_44 rfl (lv_at hl 0 rfl) ?_
      refine g_get (C := RX10) (T := TX10) (N := 44) (ci := 9) (v := .ref (ad 29)) hx hb hts in_X10_isJust_X10 hown hK hI 28 (by decide) (cel_28 cy ad _) rfl 1 (by decide) (by decide +kernel) rfl dX10_isJust_45 ?_
      refine lv_bipush (v := iI 12) hx hb dX10_isJust_48 (iI_bip (by decide)) ?_
      refine lv_iload_n hx hb dX10_isJust_50 rfl (lv_at hl 1 rfl) ?_
      refine g_imul hx hb dX10_isJust_51 ?_
      refine lv_iload_n hx hb dX10_isJust_52 rfl (lv_at hl 3 rfl) ?_
      refine g_iadd hx hb dX10_isJust_53 ?_
      refine g_bald (v := σ 29 (((12 * a0) + x3).toNat)) hx hb hK hI 29 (by decide) (cel_29 cy ad) (by omega) (by decide) rfl dX10_isJust_54 ?_
      have b_9 := bd_29 hF (((12 * a0) + x3).toNat)
      refine lv_aload_n hx hb dX10_isJust_55 rfl (lv_at hl 0 rfl) ?_
      refine g_get (C := RX10) (T := TX10) (N := 44) (ci := 9) (v := .ref (ad 29)) hx hb hts in_X10_isJust_X10 hown hK hI 28 (by decide) (cel_28 cy ad _) rfl 1 (by decide) (by decide +kernel) rfl dX10_isJust_56 ?_
      refine lv_bipush (v := iI 12) hx hb dX10_isJust_59 (iI_bip (by decide)) ?_
      refine lv_iload_n hx hb dX10_isJust_61 rfl (lv_at hl 2 rfl) ?_
      refine g_imul hx hb dX10_isJust_62 ?_
      refine lv_iload_n hx hb dX10_isJust_63 rfl (lv_at hl 3 rfl) ?_
      refine g_iadd hx hb dX10_isJust_64 ?_
      refine g_bald (v := σ 29 (((12 * a1) + x3).toNat)) hx hb hK hI 29 (by decide) (cel_29 cy ad) (by omega) (by decide) rfl dX10_isJust_65 ?_
      have b_10 := bd_29 hF (((12 * a1) + x3).toNat)
      refine g_icmp_eq (tgt := 71) hx hb dX10_isJust_66 (by decide) (by omega) (by omega) (fun c_11 => ?_) (fun c_11 => ?_)
      · skip
        refine lv_iinc (v := iI (x3 + 1)) (lv' := [(3, .int (iI (x3 + 1))), (0, .ref (ad 28)), (1, .int (iI a0)), (2, .int (iI a1))]) hx hb dX10_isJust_71 hl (k := 3) rfl (iI_add _ _) (by decide) rfl (fun ls hl => ?_)
        refine lv_goto (tgt := 34) hx hb dX10_isJust_74 (by decide) ?_
        have e9 : L_X10_isJust_34 σ a0 a1 (n + 1) x3 = L_X10_isJust_34 σ a0 a1 n (x3 + 1) := by rw [L_X10_isJust_34, if_neg c_8, if_pos c_11]
        rw [e9]
        exact ih (x3 + 1)  (by omega) (by omega) _ _ _ hI (lv_sub hl [1, 2, 3, 0] rfl)
      · skip
        refine lv_iconst (v := iI 0) hx hb dX10_isJust_69 rfl ?_
        have e9 : L_X10_isJust_34 σ a0 a1 (n + 1) x3 = 0 := by rw [L_X10_isJust_34, if_neg c_8, if_neg c_11]
        exact g_zret (z := 0) hx hb hr hK hN hlocks hI e9.symm rfl (by rw [e9] <;> first | (omega) | (dsimp only; omega)) (by omega) dX10_isJust_70
def f_X10_isJust (σ : Sg) (a0 : Int) (a1 : Int) : Int := (if (σ 31 a0.toNat) = (σ 31 a1.toNat) then (if (σ 30 a0.toNat) = (σ 30 a1.toNat) then L_X10_isJust_34 σ a0 a1 13 0 else 0) else 0)
theorem hd_X10_isJust : yX10_isJust.cls = RX10 ∧ yX10_isJust.cls ≠ "java/lang/invoke/MethodHandle" ∧ yX10_isJust.cls ≠ "java/lang/invoke/VarHandle" ∧ (parseMethodDescriptor yX10_isJust.desc).map (fun d => d.parameters.length) = some 2 := by decide +kernel
set_option maxHeartbeats 4000000 in
set_option maxRecDepth 100000 in
theorem c_X10_isJust (l : Launch) (D : va_G) (cy : Nat → ClassId) (ad : Nat → Nat) (σ : Sg) (a0 : Int) (ha0 : (0 : Int) ≤ a0 ∧ a0 ≤ 159) (a1 : Int) (ha1 : (0 : Int) ≤ a1 ∧ a1 ≤ 159) : CM l D cy ad yX10_isJust wsX10_isJust { frames := 0, cells := 0, slots := 0, locals := 0 } [.ref (ad 28), .int (iI a0), .int (iI a1)] σ (some (.int (iI (f_X10_isJust σ a0 a1)))) σ ((0 ≤ f_X10_isJust σ a0 a1 ∧ f_X10_isJust σ a0 a1 ≤ 1)) := by
  refine CM.of (cc := cX10_isJust) (maxL := 4) (ret := (some .boolean)) (by decide) rfl (Nat.le_of_ble_eq_true rfl) ?_
  intro p e s m args below meth c₀ ls X hI hl
  have hl : lv_has ls 4 [(0, .ref (ad 28)), (1, .int (iI a0)), (2, .int (iI a1))] := hl
  obtain ⟨hx, hb, hr, hml, hown, hts, hlocks, hK, hN⟩ := id X
  have hF := hI.2.2.2
  refine lv_aload_n hx hb dX10_isJust_0 rfl (lv_at hl 0 rfl) ?_
  refine g_get (C := RX10) (T := TX10) (N := 44) (ci := 9) (v := .ref (ad 31)) hx hb hts in_X10_isJust_X10 hown hK hI 28 (by decide) (cel_28 cy ad _) rfl 3 (by decide) (by decide +kernel) rfl dX10_isJust_1 ?_
  refine lv_iload_n hx hb dX10_isJust_4 rfl (lv_at hl 1 rfl) ?_
  refine g_iald (v := σ 31 a0.toNat) hx hb hK hI 31 (by decide) (cel_31 cy ad) (by omega) (by decide) rfl dX10_isJust_5 ?_
  have b_1 := bd_31 hF a0.toNat
  refine lv_aload_n hx hb dX10_isJust_6 rfl (lv_at hl 0 rfl) ?_
  refine g_get (C := RX10) (T := TX10) (N := 44) (ci := 9) (v := .ref (ad 31)) hx hb hts in_X10_isJust_X10 hown hK hI 28 (by decide) (cel_28 cy ad _) rfl 3 (by decide) (by decide +kernel) rfl dX10_isJust_7 ?_
  refine lv_iload_n hx hb dX10_isJust_10 rfl (lv_at hl 2 rfl) ?_
  refine g_iald (v := σ 31 a1.toNat) hx hb hK hI 31 (by decide) (cel_31 cy ad) (by omega) (by decide) rfl dX10_isJust_11 ?_
  have b_2 := bd_31 hF a1.toNat
  refine g_icmp_ne (tgt := 30) hx hb dX10_isJust_12 (by decide) (by omega) (by omega) (fun c_3 => ?_) (fun c_3 => ?_)
  · skip
    refine lv_iconst (v := iI 0) hx hb dX10_isJust_30 rfl ?_
    have e9 : f_X10_isJust σ a0 a1 = 0 := by rw [f_X10_isJust, if_neg c_3]
    exact g_zret (z := 0) hx hb hr hK hN hlocks hI e9.symm rfl (by rw [e9] <;> first | (omega) | (dsimp only; omega)) (by omega) dX10_isJust_31
  · skip
    refine lv_aload_n hx hb dX10_isJust_15 rfl (lv_at hl 0 rfl) ?_
    refine g_get (C := RX10) (T := TX10) (N := 44) (ci := 9) (v := .ref (ad 30)) hx hb hts in_X10_isJust_X10 hown hK hI 28 (by decide) (cel_28 cy ad _) rfl 2 (by decide) (by decide +kernel) rfl dX10_isJust_16 ?_
    refine lv_iload_n hx hb dX10_isJust_19 rfl (lv_at hl 1 rfl) ?_
    refine g_iald (v := σ 30 a0.toNat) hx hb hK hI 30 (by decide) (cel_30 cy ad) (by omega) (by decide) rfl dX10_isJust_20 ?_
    have b_4 := bd_30 hF a0.toNat
    refine lv_aload_n hx hb dX10_isJust_21 rfl (lv_at hl 0 rfl) ?_
    refine g_get (C := RX10) (T := TX10) (N := 44) (ci := 9) (v := .ref (ad 30)) hx hb hts in_X10_isJust_X10 hown hK hI 28 (by decide) (cel_28 cy ad _) rfl 2 (by decide) (by decide +kernel) rfl dX10_isJust_22 ?_
    refine lv_iload_n hx hb dX10_isJust_25 rfl (lv_at hl 2 rfl) ?_
    refine g_iald (v := σ 30 a1.toNat) hx hb hK hI 30 (by decide) (cel_30 cy ad) (by omega) (by decide) rfl dX10_isJust_26 ?_
    have b_5 := bd_30 hF a1.toNat
    refine g_icmp_eq (tgt := 32) hx hb dX10_isJust_27 (by decide) (by omega) (by omega) (fun c_6 => ?_) (fun c_6 => ?_)
    · skip
      refine lv_iconst (v := iI 0) hx hb dX10_isJust_32 rfl ?_
      refine lv_istore_n (lv' := [(3, .int (iI 0)), (0, .ref (ad 28)), (1, .int (iI a0)), (2, .int (iI a1))]) hx hb dX10_isJust_33 rfl hl (by decide) rfl (fun ls hl => ?_)
      have e9 : f_X10_isJust σ a0 a1 = L_X10_isJust_34 σ a0 a1 13 0 := by rw [f_X10_isJust, if_pos c_3, if_pos c_6]
      rw [e9]
      exact w_L_X10_isJust_34 X σ a0 ha0 a1 ha1  13 0  (by omega) (by omega) _ _ _ hI (lv_sub hl [1, 2, 3, 0] rfl)
    · skip
      refine lv_iconst (v := iI 0) hx hb dX10_isJust_30 rfl ?_
      have e9 : f_X10_isJust σ a0 a1 = 0 := by rw [f_X10_isJust, if_pos c_3, if_neg c_6]
      exact g_zret (z := 0) hx hb hr hK hN hlocks hI e9.symm rfl (by rw [e9] <;> first | (omega) | (dsimp only; omega)) (by omega) dX10_isJust_31
theorem in_X10_isAlike_X10 : ∀ w ∈ u_ws RX10 TX10 44, w ∈ wsX10_isAlike := by decide +kernel
def L_X10_isAlike_48 (σ : Sg) (a0 : Int) (a1 : Int) : Nat → Int → Int
  | 0, x3 => 0
  | n + 1, x3 => (if (σ 30 a0.toNat) ≤ x3 then 1 else (if (f_X10_low (σ 29 (((12 * a0) + x3).toNat))) = (f_X10_low (σ 29 (((12 * a1) + x3).toNat))) then L_X10_isAlike_48 σ a0 a1 n (x3 + 1) else 0))
set_option maxHeartbeats 4000000 in
set_option maxRecDepth 100000 in
theorem w_L_X10_isAlike_48 {p : Program} {l : Launch} {e : Env} {s : State} {m : MethodId} {args : Array Value} {below : List Frame} {meth : Method} {c₀ : Code} {D : va_G} {cy : Nat → ClassId} {ad : Nat → Nat} (X : MX p s m args meth c₀ cX10_isAlike 4 RX10 (some .boolean) wsX10_isAlike D cy) (σ : Sg) (a0 : Int) (ha0 : (0 : Int) ≤ a0 ∧ a0 ≤ 159) (a1 : Int) (ha1 : (0 : Int) ≤ a1 ∧ a1 ≤ 159) : ∀ (n : Nat) (x3 : Int) (hx3 : (0 : Int) ≤ x3 ∧ x3 ≤ 12) (hmu : 12 - x3 < (n : Int)) (H : Heap) (locs : List Loc) (ls : Array Slot) (hI : HI D cy ad s σ H locs) (hl : lv_has ls 4 [(0, .ref (ad 28)), (1, .int (iI a0)), (2, .int (iI a1)), (3, .int (iI x3))]), W p l e { frames := 1, cells := 0, slots := 0, locals := 40 } s m args below meth c₀ H locs 0 0 (MQ below (CQ D cy ad (some (.int (iI (L_X10_isAlike_48 σ a0 a1 n x3)))) σ ((0 ≤ L_X10_isAlike_48 σ a0 a1 n x3 ∧ L_X10_isAlike_48 σ a0 a1 n x3 ≤ 1)) (AA ad s.heap.size)) args s 0 0 (AA ad s.heap.size)) (F0 m 48 ls []) := by
  obtain ⟨hx, hb, hr, hml, hown, hts, hlocks, hK, hN⟩ := id X
  intro n
  induction n with
  | zero =>
    intro x3 hx3 hmu H locs ls hI hl
    exfalso
    have hF := hI.2.2.2
    omega
  | succ n ih =>
    intro x3 hx3 hmu H locs ls hI hl
    have hF := hI.2.2.2
    refine lv_iload_n hx hb dX10_isAlike_48 rfl (lv_at hl 3 rfl) ?_
    refine lv_aload_n hx hb dX10_isAlike_49 rfl (lv_at hl 0 rfl) ?_
    refine g_get (C := RX10) (T := TX10) (N := 44) (ci := 9) (v := .ref (ad 30)) hx hb hts in_X10_isAlike_X10 hown hK hI 28 (by decide) (cel_28 cy ad _) rfl 2 (by decide) (by decide +kernel) rfl dX10_isAlike_50 ?_
    refine lv_iload_n hx hb dX10_isAlike_53 rfl (lv_at hl 1 rfl) ?_
    refine g_iald (v := σ 30 a0.toNat) hx hb hK hI 30 (by decide) (cel_30 cy ad) (by omega) (by decide) rfl dX10_isAlike_54 ?_
    have b_9 := bd_30 hF a0.toNat
    refine g_icmp_ge (tgt := 97) hx hb dX10_isAlike_55 (by decide) (by omega) (by omega) (fun c_10 => ?_) (fun c_10 => ?_)
    · skip
      refine lv_iconst (v := iI 1) hx hb dX10_isAlike_97 rfl ?_
      have e9 : L_X10_isAlike_48 σ a0 a1 (n + 1) x3 = 1 := by rw [L_X10_isAlike_48, if_pos c_10]
      exact g_zret (z := 1) hx hb hr hK hN hlocks hI e9.symm rfl (by rw [e9] <;> first | (omega) | (dsimp only; omega)) (by omega) dX10_isAlike_98
    · skip
      refine lv_aload_n hx hb dX10_isAlike_58 rfl (lv_at hl 0 rfl) ?_
      refine g_get (C := RX10) (T := TX10) (N := 44) (ci := 9) (v := .ref (ad 29)) hx hb hts in_X10_isAlike_X10 hown hK hI 28 (by decide) (cel_28 cy ad _) rfl 1 (by decide) (by decide +kernel) rfl dX10_isAlike_59 ?_
      refine lv_bipush (v := iI 12) hx hb dX10_isAlike_62 (iI_bip (by decide)) ?_
      refine lv_iload_n hx hb dX10_isAlike_64 rfl (lv_at hl 1 rfl) ?_
      refine g_imul hx hb dX10_isAlike_65 ?_
      refine lv_iload_n hx hb dX10_isAlike_66 rfl (lv_at hl 3 rfl) ?_
      refine g_iadd hx hb dX10_isAlike_67 ?_
      refine g_bald (v := σ 29 (((12 * a0) + x3).toNat)) hx hb hK hI 29 (by decide) (cel_29 cy ad) (by omega) (by decide) rfl dX10_isAlike_68 ?_
      have b_11 := bd_29 hF (((12 * a0) + x3).toNat)
      refine g_S (As := [.int (iI (σ 29 (((12 * a0) + x3).toNat)))]) (rest := []) (c_X10_low l D cy ad σ (σ 29 (((12 * a0) + x3).toNat)) (by omega)) hx hb hml hown hts hK hN hI hl.1 gX10_isAlike_X10_low rfl hd_X10_low rfl rfl ⟨Nat.le_of_ble_eq_true rfl, Nat.le_of_ble_eq_true rfl⟩ ⟨Nat.zero_le _, Nat.zero_le _⟩ rfl rfl (Nat.le_of_ble_eq_true rfl) dX10_isAlike_69 (fun H locs hG_12 hI => ?_)
      refine lv_aload_n hx hb dX10_isAlike_72 rfl (lv_at hl 0 rfl) ?_
      refine g_get (C := RX10) (T := TX10) (N := 44) (ci := 9) (v := .ref (ad 29)) hx hb hts in_X10_isAlike_X10 hown hK hI 28 (by decide) (cel_28 cy ad _) rfl 1 (by decide) (by decide +kernel) rfl dX10_isAlike_73 ?_
      refine lv_bipush (v := iI 12) hx hb dX10_isAlike_76 (iI_bip (by decide)) ?_
      refine lv_iload_n hx hb dX10_isAlike_78 rfl (lv_at hl 2 rfl) ?_
      refine g_imul hx hb dX10_isAlike_79 ?_
      refine lv_iload_n hx hb dX10_isAlike_80 rfl (lv_at hl 3 rfl) ?_
      refine g_iadd hx hb dX10_isAlike_81 ?_
      refine g_bald (v := σ 29 (((12 * a1) + x3).toNat)) hx hb hK hI 29 (by decide) (cel_29 cy ad) (by omega) (by decide) rfl dX10_isAlike_82 ?_
      have b_13 := bd_29 hF (((12 * a1) + x3).toNat)
      refine g_S (As := [.int (iI (σ 29 (((12 * a1) + x3).toNat)))]) (rest := [.int (iI (f_X10_low (σ 29 (((12 * a0) + x3).toNat))))]) (c_X10_low l D cy ad σ (σ 29 (((12 * a1) + x3).toNat)) (by omega)) hx hb hml hown hts hK hN hI hl.1 gX10_isAlike_X10_low rfl hd_X10_low rfl rfl ⟨Nat.le_of_ble_eq_true rfl, Nat.le_of_ble_eq_true rfl⟩ ⟨Nat.zero_le _, Nat.zero_le _⟩ rfl rfl (Nat.le_of_ble_eq_true rfl) dX10_isAlike_83 (fun H locs hG_14 hI => ?_)
      refine g_icmp_eq (tgt := 91) hx hb dX10_isAlike_86 (by decide) (by omega) (by omega) (fun c_15 => ?_) (fun c_15 => ?_)
      · skip
        refine lv_iinc (v := iI (x3 + 1)) (lv' := [(3, .int (iI (x3 + 1))), (0, .ref (ad 28)), (1, .int (iI a0)), (2, .int (iI a1))]) hx hb dX10_isAlike_91 hl (k := 3) rfl (iI_add _ _) (by decide) rfl (fun ls hl => ?_)
        refine lv_goto (tgt := 48) hx hb dX10_isAlike_94 (by decide) ?_
        have e9 : L_X10_isAlike_48 σ a0 a1 (n + 1) x3 = L_X10_isAlike_48 σ a0 a1 n (x3 + 1) := by rw [L_X10_isAlike_48, if_neg c_10, if_pos c_15]
        rw [e9]
        exact ih (x3 + 1)  (by omega) (by omega) _ _ _ hI (lv_sub hl [1, 2, 3, 0] rfl)
      · skip
        refine lv_iconst (v := iI 0) hx hb dX10_isAlike_89 rfl ?_
        have e9 : L_X10_isAlike_48 σ a0 a1 (n + 1) x3 = 0 := by rw [L_X10_isAlike_48, if_neg c_10, if_neg c_15]
        exact g_zret (z := 0) hx hb hr hK hN hlocks hI e9.symm rfl (by rw [e9] <;> first | (omega) | (dsimp only; omega)) (by omega) dX10_isAlike_90
def f_X10_isAlike (σ : Sg) (a0 : Int) (a1 : Int) : Int := (if (σ 28 4) = 0 then f_X10_isJust σ a0 a1 else (if (σ 31 a0.toNat) = (σ 31 a1.toNat) then (if (σ 30 a0.toNat) = (σ 30 a1.toNat) then L_X10_isAlike_48 σ a0 a1 13 0 else 0) else 0))
theorem hd_X10_isAlike : yX10_isAlike.cls = RX10 ∧ yX10_isAlike.cls ≠ "java/lang/invoke/MethodHandle" ∧ yX10_isAlike.cls ≠ "java/lang/invoke/VarHandle" ∧ (parseMethodDescriptor yX10_isAlike.desc).map (fun d => d.parameters.length) = some 2 := by decide +kernel
set_option maxHeartbeats 4000000 in
set_option maxRecDepth 100000 in
theorem c_X10_isAlike (l : Launch) (D : va_G) (cy : Nat → ClassId) (ad : Nat → Nat) (σ : Sg) (a0 : Int) (ha0 : (0 : Int) ≤ a0 ∧ a0 ≤ 159) (a1 : Int) (ha1 : (0 : Int) ≤ a1 ∧ a1 ≤ 159) : CM l D cy ad yX10_isAlike wsX10_isAlike { frames := 1, cells := 0, slots := 0, locals := 40 } [.ref (ad 28), .int (iI a0), .int (iI a1)] σ (some (.int (iI (f_X10_isAlike σ a0 a1)))) σ ((0 ≤ f_X10_isAlike σ a0 a1 ∧ f_X10_isAlike σ a0 a1 ≤ 1)) := by
  refine CM.of (cc := cX10_isAlike) (maxL := 4) (ret := (some .boolean)) (by decide) rfl (Nat.le_of_ble_eq_true rfl) ?_
  intro p e s m args below meth c₀ ls X hI hl
  have hl : lv_has ls 4 [(0, .ref (ad 28)), (1, .int (iI a0)), (2, .int (iI a1))] := hl
  obtain ⟨hx, hb, hr, hml, hown, hts, hlocks, hK, hN⟩ := id X
  have hF := hI.2.2.2
  refine lv_aload_n hx hb dX10_isAlike_0 rfl (lv_at hl 0 rfl) ?_
  refine g_get (C := RX10) (T := TX10) (N := 44) (ci := 9) (v := .int (iI (σ 28 4))) hx hb hts in_X10_isAlike_X10 hown hK hI 28 (by decide) (cel_28 cy ad _) rfl 4 (by decide) (by decide +kernel) rfl dX10_isAlike_1 ?_
  have b_1 := bd_28_4 hF
  refine g_if_ne (tgt := 14) hx hb dX10_isAlike_4 (by decide) (by omega) (fun c_2 => ?_) (fun c_2 => ?_)
  · skip
    refine lv_aload_n hx hb dX10_isAlike_14 rfl (lv_at hl 0 rfl) ?_
    refine g_get (C := RX10) (T := TX10) (N := 44) (ci := 9) (v := .ref (ad 31)) hx hb hts in_X10_isAlike_X10 hown hK hI 28 (by decide) (cel_28 cy ad _) rfl 3 (by decide) (by decide +kernel) rfl dX10_isAlike_15 ?_
    refine lv_iload_n hx hb dX10_isAlike_18 rfl (lv_at hl 1 rfl) ?_
    refine g_iald (v := σ 31 a0.toNat) hx hb hK hI 31 (by decide) (cel_31 cy ad) (by omega) (by decide) rfl dX10_isAlike_19 ?_
    have b_3 := bd_31 hF a0.toNat
    refine lv_aload_n hx hb dX10_isAlike_20 rfl (lv_at hl 0 rfl) ?_
    refine g_get (C := RX10) (T := TX10) (N := 44) (ci := 9) (v := .ref (ad 31)) hx hb hts in_X10_isAlike_X10 hown hK hI 28 (by decide) (cel_28 cy ad _) rfl 3 (by decide) (by decide +kernel) rfl dX10_isAlike_21 ?_
    refine lv_iload_n hx hb dX10_isAlike_24 rfl (lv_at hl 2 rfl) ?_
    refine g_iald (v := σ 31 a1.toNat) hx hb hK hI 31 (by decide) (cel_31 cy ad) (by omega) (by decide) rfl dX10_isAlike_25 ?_
    have b_4 := bd_31 hF a1.toNat
    refine g_icmp_ne (tgt := 44) hx hb dX10_isAlike_26 (by decide) (by omega) (by omega) (fun c_5 => ?_) (fun c_5 => ?_)
    · skip
      refine lv_iconst (v := iI 0) hx hb dX10_isAlike_44 rfl ?_
      have e9 : f_X10_isAlike σ a0 a1 = 0 := by rw [f_X10_isAlike, if_neg c_2, if_neg c_5]
      exact g_zret (z := 0) hx hb hr hK hN hlocks hI e9.symm rfl (by rw [e9] <;> first | (omega) | (dsimp only; omega)) (by omega) dX10_isAlike_45
    · skip
      refine lv_aload_n hx hb dX10_isAlike_29 rfl (lv_at hl 0 rfl) ?_
      refine g_get (C := RX10) (T := TX10) (N := 44) (ci := 9) (v := .ref (ad 30)) hx hb hts in_X10_isAlike_X10 hown hK hI 28 (by decide) (cel_28 cy ad _) rfl 2 (by decide) (by decide +kernel) rfl dX10_isAlike_30 ?_
      refine lv_iload_n hx hb dX10_isAlike_33 rfl (lv_at hl 1 rfl) ?_
      refine g_iald (v := σ 30 a0.toNat) hx hb hK hI 30 (by decide) (cel_30 cy ad) (by omega) (by decide) rfl dX10_isAlike_34 ?_
      have b_6 := bd_30 hF a0.toNat
      refine lv_aload_n hx hb dX10_isAlike_35 rfl (lv_at hl 0 rfl) ?_
      refine g_get (C := RX10) (T := TX10) (N := 44) (ci := 9) (v := .ref (ad 30)) hx hb hts in_X10_isAlike_X10 hown hK hI 28 (by decide) (cel_28 cy ad _) rfl 2 (by decide) (by decide +kernel) rfl dX10_isAlike_36 ?_
      refine lv_iload_n hx hb dX10_isAlike_39 rfl (lv_at hl 2 rfl) ?_
      refine g_iald (v := σ 30 a1.toNat) hx hb hK hI 30 (by decide) (cel_30 cy ad) (by omega) (by decide) rfl dX10_isAlike_40 ?_
      have b_7 := bd_30 hF a1.toNat
      refine g_icmp_eq (tgt := 46) hx hb dX10_isAlike_41 (by decide) (by omega) (by omega) (fun c_8 => ?_) (fun c_8 => ?_)
      · skip
        refine lv_iconst (v := iI 0) hx hb dX10_isAlike_46 rfl ?_
        refine lv_istore_n (lv' := [(3, .int (iI 0)), (0, .ref (ad 28)), (1, .int (iI a0)), (2, .int (iI a1))]) hx hb dX10_isAlike_47 rfl hl (by decide) rfl (fun ls hl => ?_)
        have e9 : f_X10_isAlike σ a0 a1 = L_X10_isAlike_48 σ a0 a1 13 0 := by rw [f_X10_isAlike, if_neg c_2, if_pos c_5, if_pos c_8]
        rw [e9]
        exact w_L_X10_isAlike_48 X σ a0 ha0 a1 ha1  13 0  (by omega) (by omega) _ _ _ hI (lv_sub hl [1, 2, 3, 0] rfl)
      · skip
        refine lv_iconst (v := iI 0) hx hb dX10_isAlike_44 rfl ?_
        have e9 : f_X10_isAlike σ a0 a1 = 0 := by rw [f_X10_isAlike, if_neg c_2, if_pos c_5, if_neg c_8]
        exact g_zret (z := 0) hx hb hr hK hN hlocks hI e9.symm rfl (by rw [e9] <;> first | (omega) | (dsimp only; omega)) (by omega) dX10_isAlike_45
  · skip
    refine lv_aload_n hx hb dX10_isAlike_7 rfl (lv_at hl 0 rfl) ?_
    refine lv_iload_n hx hb dX10_isAlike_8 rfl (lv_at hl 1 rfl) ?_
    refine lv_iload_n hx hb dX10_isAlike_9 rfl (lv_at hl 2 rfl) ?_
    refine g_V (As := [.int (iI a0), .int (iI a1)]) (rest := []) 28 (c_X10_isJust l D cy ad σ a0 (by omega) a1 (by omega)) hx hb hml hown hts hK hN hI hl.1 gX10_isAlike_X10_isJust rfl hd_X10_isJust rfl rfl ⟨Nat.le_of_ble_eq_true rfl, Nat.le_of_ble_eq_true rfl⟩ ⟨Nat.zero_le _, Nat.zero_le _⟩ (by decide) (cel_28 cy ad _) rfl rfl rfl rfl (Nat.le_of_ble_eq_true rfl) dX10_isAlike_10 (fun H locs hG_16 hI => ?_)
    have e9 : f_X10_isAlike σ a0 a1 = f_X10_isJust σ a0 a1 := by rw [f_X10_isAlike, if_pos c_2]
    exact g_zret (z := f_X10_isJust σ a0 a1) hx hb hr hK hN hlocks hI e9.symm rfl (by rw [e9] <;> first | (omega) | (dsimp only; omega)) (by omega) dX10_isAlike_13
theorem in_X10_copies_X10 : ∀ w ∈ u_ws RX10 TX10 44, w ∈ wsX10_copies := by decide +kernel
def L_X10_copies_26 (a0 : Int) (a1 : Int) : Nat → Int → Sg → Sg
  | 0, x3, σ => (σ)
  | n + 1, x3, σ => (if (σ 30 a0.toNat) ≤ x3 then σ else L_X10_copies_26 a0 a1 n (x3 + 1) (up2 σ 29 (((12 * a1) + x3).toNat) (σ 29 (((12 * a0) + x3).toNat))))
set_option maxHeartbeats 4000000 in
set_option maxRecDepth 100000 in
theorem w_L_X10_copies_26 {p : Program} {l : Launch} {e : Env} {s : State} {m : MethodId} {args : Array Value} {below : List Frame} {meth : Method} {c₀ : Code} {D : va_G} {cy : Nat → ClassId} {ad : Nat → Nat} {Q : State → Prop} (X : MX p s m args meth c₀ cX10_copies 4 RX10 none wsX10_copies D cy) (a0 : Int) (ha0 : (0 : Int) ≤ a0 ∧ a0 ≤ 159) (a1 : Int) (ha1 : (0 : Int) ≤ a1 ∧ a1 ≤ 159) : ∀ (n : Nat) (x3 : Int) (σ : Sg) (hx3 : (0 : Int) ≤ x3 ∧ x3 ≤ 12) (hmu : 12 - x3 < (n : Int)) (H : Heap) (locs : List Loc) (ls : Array Slot) (hI : HI D cy ad s σ H locs) (hl : lv_has ls 4 [(0, .ref (ad 28)), (1, .int (iI a0)), (2, .int (iI a1)), (3, .int (iI x3))])  (hk : ∀ (H1 : Heap) (locs1 : List Loc) (ls1 : Array Slot), True → HI D cy ad s (L_X10_copies_26 a0 a1 n x3 σ) H1 locs1 → lv_has ls1 4 [] → W p l e { frames := 0, cells := 0, slots := 0, locals := 0 } s m args below meth c₀ H1 locs1 0 0 Q (F0 m 64 ls1 [])), W p l e { frames := 0, cells := 0, slots := 0, locals := 0 } s m args below meth c₀ H locs 0 0 Q (F0 m 26 ls []) := by
  obtain ⟨hx, hb, hr, hml, hown, hts, hlocks, hK, hN⟩ := id X
  intro n
  induction n with
  | zero =>
    intro x3 σ hx3 hmu H locs ls hI hl hk
    exfalso
    have hF := hI.2.2.2
    omega
  | succ n ih =>
    intro x3 σ hx3 hmu H locs ls hI hl hk
    have hF := hI.2.2.2
    refine lv_iload_n hx hb dX10_copies_26 rfl (lv_at hl 3 rfl) ?_
    refine lv_aload_n hx hb dX10_copies_27 rfl (lv_at hl 0 rfl) ?_
    refine g_get (C := RX10) (T := TX10) (N := 44) (ci := 9) (v := .ref (ad 30)) hx hb hts in_X10_copies_X10 hown hK hI 28 (by decide) (cel_28 cy ad _) rfl 2 (by decide) (by decide +kernel) rfl dX10_copies_28 ?_
    refine lv_iload_n hx hb dX10_copies_31 rfl (lv_at hl 1 rfl) ?_
    refine g_iald (v := σ 30 a0.toNat) hx hb hK hI 30 (by decide) (cel_30 cy ad) (by omega) (by decide) rfl dX10_copies_32 ?_
    have b_5 := bd_30 hF a0.toNat
    refine g_icmp_ge (tgt := 64) hx hb dX10_copies_33 (by decide) (by omega) (by omega) (fun c_6 => ?_) (fun c_6 => ?_)
    · skip
      have e9 : L_X10_copies_26 a0 a1 (n + 1) x3 σ = σ := by rw [L_X10_copies_26, if_pos c_6]
      rw [e9] at hk
      exact hk _ _ _ trivial hI (lv_sub hl [] rfl)
    · skip
      refine lv_aload_n hx hb dX10_copies_36 rfl (lv_at hl 0 rfl) ?_
      refine g_get (C := RX10) (T := TX10) (N := 44) (ci := 9) (v := .ref (ad 29)) hx hb hts in_X10_copies_X10 hown hK hI 28 (by decide) (cel_28 cy ad _) rfl 1 (by decide) (by decide +kernel) rfl dX10_copies_37 ?_
      refine lv_bipush (v := iI 12) hx hb dX10_copies_40 (iI_bip (by decide)) ?_
      refine lv_iload_n hx hb dX10_copies_42 rfl (lv_at hl 2 rfl) ?_
      refine g_imul hx hb dX10_copies_43 ?_
      refine lv_iload_n hx hb dX10_copies_44 rfl (lv_at hl 3 rfl) ?_
      refine g_iadd hx hb dX10_copies_45 ?_
      refine lv_aload_n hx hb dX10_copies_46 rfl (lv_at hl 0 rfl) ?_
      refine g_get (C := RX10) (T := TX10) (N := 44) (ci := 9) (v := .ref (ad 29)) hx hb hts in_X10_copies_X10 hown hK hI 28 (by decide) (cel_28 cy ad _) rfl 1 (by decide) (by decide +kernel) rfl dX10_copies_47 ?_
      refine lv_bipush (v := iI 12) hx hb dX10_copies_50 (iI_bip (by decide)) ?_
      refine lv_iload_n hx hb dX10_copies_52 rfl (lv_at hl 1 rfl) ?_
      refine g_imul hx hb dX10_copies_53 ?_
      refine lv_iload_n hx hb dX10_copies_54 rfl (lv_at hl 3 rfl) ?_
      refine g_iadd hx hb dX10_copies_55 ?_
      refine g_bald (v := σ 29 (((12 * a0) + x3).toNat)) hx hb hK hI 29 (by decide) (cel_29 cy ad) (by omega) (by decide) rfl dX10_copies_56 ?_
      have b_7 := bd_29 hF (((12 * a0) + x3).toNat)
      refine g_bast hx hb hK hI 29 (by decide) (cel_29 cy ad) (by omega) (by decide) (by omega) (bw_29 (by omega)) dX10_copies_57 (fun H locs hI => ?_)
      have hF_8 : WF (up2 σ 29 (((12 * a1) + x3).toNat) (σ 29 (((12 * a0) + x3).toNat))) := hI.2.2.2
      refine lv_iinc (v := iI (x3 + 1)) (lv' := [(3, .int (iI (x3 + 1))), (0, .ref (ad 28)), (1, .int (iI a0)), (2, .int (iI a1))]) hx hb dX10_copies_58 hl (k := 3) rfl (iI_add _ _) (by decide) rfl (fun ls hl => ?_)
      refine lv_goto (tgt := 26) hx hb dX10_copies_61 (by decide) ?_
      have e9 : L_X10_copies_26 a0 a1 (n + 1) x3 σ = L_X10_copies_26 a0 a1 n (x3 + 1) (up2 σ 29 (((12 * a1) + x3).toNat) (σ 29 (((12 * a0) + x3).toNat))) := by rw [L_X10_copies_26, if_neg c_6]
      rw [e9] at hk
      exact ih (x3 + 1) (up2 σ 29 (((12 * a1) + x3).toNat) (σ 29 (((12 * a0) + x3).toNat))) (by omega) (by omega) _ _ _ hI (lv_sub hl [1, 2, 3, 0] rfl) hk
def f_X10_copies (σ : Sg) (a0 : Int) (a1 : Int) : Sg := (L_X10_copies_26 a0 a1 13 0 (up2 (up2 σ 31 a1.toNat (σ 31 a0.toNat)) 30 a1.toNat (σ 30 a0.toNat)))
theorem hd_X10_copies : yX10_copies.cls = RX10 ∧ yX10_copies.cls ≠ "java/lang/invoke/MethodHandle" ∧ yX10_copies.cls ≠ "java/lang/invoke/VarHandle" ∧ (parseMethodDescriptor yX10_copies.desc).map (fun d => d.parameters.length) = some 2 := by decide +kernel
set_option maxHeartbeats 4000000 in
set_option maxRecDepth 100000 in
theorem c_X10_copies (l : Launch) (D : va_G) (cy : Nat → ClassId) (ad : Nat → Nat) (σ : Sg) (a0 : Int) (ha0 : (0 : Int) ≤ a0 ∧ a0 ≤ 159) (a1 : Int) (ha1 : (0 : Int) ≤ a1 ∧ a1 ≤ 159) : CM l D cy ad yX10_copies wsX10_copies { frames := 0, cells := 0, slots := 0, locals := 0 } [.ref (ad 28), .int (iI a0), .int (iI a1)] σ none (f_X10_copies σ a0 a1) (True) := by
  refine CM.of (cc := cX10_copies) (maxL := 4) (ret := none) (by decide) rfl (Nat.le_of_ble_eq_true rfl) ?_
  intro p e s m args below meth c₀ ls X hI hl
  have hl : lv_has ls 4 [(0, .ref (ad 28)), (1, .int (iI a0)), (2, .int (iI a1))] := hl
  obtain ⟨hx, hb, hr, hml, hown, hts, hlocks, hK, hN⟩ := id X
  have hF := hI.2.2.2
  refine lv_aload_n hx hb dX10_copies_0 rfl (lv_at hl 0 rfl) ?_
  refine g_get (C := RX10) (T := TX10) (N := 44) (ci := 9) (v := .ref (ad 31)) hx hb hts in_X10_copies_X10 hown hK hI 28 (by decide) (cel_28 cy ad _) rfl 3 (by decide) (by decide +kernel) rfl dX10_copies_1 ?_
  refine lv_iload_n hx hb dX10_copies_4 rfl (lv_at hl 2 rfl) ?_
  refine lv_aload_n hx hb dX10_copies_5 rfl (lv_at hl 0 rfl) ?_
  refine g_get (C := RX10) (T := TX10) (N := 44) (ci := 9) (v := .ref (ad 31)) hx hb hts in_X10_copies_X10 hown hK hI 28 (by decide) (cel_28 cy ad _) rfl 3 (by decide) (by decide +kernel) rfl dX10_copies_6 ?_
  refine lv_iload_n hx hb dX10_copies_9 rfl (lv_at hl 1 rfl) ?_
  refine g_iald (v := σ 31 a0.toNat) hx hb hK hI 31 (by decide) (cel_31 cy ad) (by omega) (by decide) rfl dX10_copies_10 ?_
  have b_1 := bd_31 hF a0.toNat
  refine g_iast hx hb hK hI 31 (by decide) (cel_31 cy ad) (by omega) (by decide) (bw_31 (by omega)) dX10_copies_11 (fun H locs hI => ?_)
  have hF_2 : WF (up2 σ 31 a1.toNat (σ 31 a0.toNat)) := hI.2.2.2
  refine lv_aload_n hx hb dX10_copies_12 rfl (lv_at hl 0 rfl) ?_
  refine g_get (C := RX10) (T := TX10) (N := 44) (ci := 9) (v := .ref (ad 30)) hx hb hts in_X10_copies_X10 hown hK hI 28 (by decide) (cel_28 cy ad _) rfl 2 (by decide) (by decide +kernel) rfl dX10_copies_13 ?_
  refine lv_iload_n hx hb dX10_copies_16 rfl (lv_at hl 2 rfl) ?_
  refine lv_aload_n hx hb dX10_copies_17 rfl (lv_at hl 0 rfl) ?_
  refine g_get (C := RX10) (T := TX10) (N := 44) (ci := 9) (v := .ref (ad 30)) hx hb hts in_X10_copies_X10 hown hK hI 28 (by decide) (cel_28 cy ad _) rfl 2 (by decide) (by decide +kernel) rfl dX10_copies_18 ?_
  refine lv_iload_n hx hb dX10_copies_21 rfl (lv_at hl 1 rfl) ?_
  refine g_iald (v := σ 30 a0.toNat) hx hb hK hI 30 (by decide) (cel_30 cy ad) (by omega) (by decide) (by rw [up2_cell _ _ _ (by decide)]) dX10_copies_22 ?_
  have b_3 := bd_30 hF a0.toNat
  refine g_iast hx hb hK hI 30 (by decide) (cel_30 cy ad) (by omega) (by decide) (bw_30 (by omega)) dX10_copies_23 (fun H locs hI => ?_)
  have hF_4 : WF (up2 (up2 σ 31 a1.toNat (σ 31 a0.toNat)) 30 a1.toNat (σ 30 a0.toNat)) := hI.2.2.2
  refine lv_iconst (v := iI 0) hx hb dX10_copies_24 rfl ?_
  refine lv_istore_n (lv' := [(3, .int (iI 0)), (0, .ref (ad 28)), (1, .int (iI a0)), (2, .int (iI a1))]) hx hb dX10_copies_25 rfl hl (by decide) rfl (fun ls hl => ?_)
  refine w_L_X10_copies_26 X  a0 ha0 a1 ha1  13 0 (up2 (up2 σ 31 a1.toNat (σ 31 a0.toNat)) 30 a1.toNat (σ 30 a0.toNat)) (by omega) (by omega) _ _ _ hI (lv_sub hl [1, 2, 3, 0] rfl) (fun H locs ls hpo_10 hI hl => ?_)
  have hF_9 := hI.2.2.2
  have e9 : f_X10_copies σ a0 a1 = (L_X10_copies_26 a0 a1 13 0 (up2 (up2 σ 31 a1.toNat (σ 31 a0.toNat)) 30 a1.toNat (σ 30 a0.toNat))) := by rw [f_X10_copies]
  exact g_vret hx hb hr hK hN hlocks hI (by rw [e9]) trivial dX10_copies_64
theorem in_X10_alikeTo_X10 : ∀ w ∈ u_ws RX10 TX10 44, w ∈ wsX10_alikeTo := by decide +kernel
def L_X10_alikeTo_2 (σ : Sg) (a0 : Int) (a1 : Int) : Nat → Int → Int
  | 0, x3 => 0
  | n + 1, x3 => (if (σ 28 5) ≤ x3 then (-1) else (if x3 = a1 then L_X10_alikeTo_2 σ a0 a1 n (x3 + 1) else (if (σ 32 x3.toNat) = 0 then L_X10_alikeTo_2 σ a0 a1 n (x3 + 1) else (if (f_X10_isAlike σ x3 a0) = 0 then L_X10_alikeTo_2 σ a0 a1 n (x3 + 1) else x3))))
set_option maxHeartbeats 4000000 in
set_option maxRecDepth 100000 in
theorem w_L_X10_alikeTo_2 {p : Program} {l : Launch} {e : Env} {s : State} {m : MethodId} {args : Array Value} {below : List Frame} {meth : Method} {c₀ : Code} {D : va_G} {cy : Nat → ClassId} {ad : Nat → Nat} (X : MX p s m args meth c₀ cX10_alikeTo 4 RX10 (some .int) wsX10_alikeTo D cy) (σ : Sg) (a0 : Int) (ha0 : (0 : Int) ≤ a0 ∧ a0 ≤ 159) (a1 : Int) (ha1 : (-2147483648 ≤ a1 ∧ a1 < 2147483648)) : ∀ (n : Nat) (x3 : Int) (hx3 : (0 : Int) ≤ x3 ∧ x3 ≤ 40) (hmu : 40 - x3 < (n : Int)) (H : Heap) (locs : List Loc) (ls : Array Slot) (hI : HI D cy ad s σ H locs) (hl : lv_has ls 4 [(0, .ref (ad 28)), (1, .int (iI a0)), (2, .int (iI a1)), (3, .int (iI x3))]), W p l e { frames := 2, cells := 0, slots := 0, locals := 80 } s m args below meth c₀ H locs 0 0 (MQ below (CQ D cy ad (some (.int (iI (L_X10_alikeTo_2 σ a0 a1 n x3)))) σ (-1 ≤ (L_X10_alikeTo_2 σ a0 a1 n x3) ∧ (L_X10_alikeTo_2 σ a0 a1 n x3) ≤ 39) (AA ad s.heap.size)) args s 0 0 (AA ad s.heap.size)) (F0 m 2 ls []) := by
  obtain ⟨hx, hb, hr, hml, hown, hts, hlocks, hK, hN⟩ := id X
  intro n
  induction n with
  | zero =>
    intro x3 hx3 hmu H locs ls hI hl
    exfalso
    have hF := hI.2.2.2
    omega
  | succ n ih =>
    intro x3 hx3 hmu H locs ls hI hl
    have hF := hI.2.2.2
    refine lv_iload_n hx hb dX10_alikeTo_2 rfl (lv_at hl 3 rfl) ?_
    refine lv_aload_n hx hb dX10_alikeTo_3 rfl (lv_at hl 0 rfl) ?_
    refine g_get (C := RX10) (T := TX10) (N := 44) (ci := 9) (v := .int (iI (σ 28 5))) hx hb hts in_X10_alikeTo_X10 hown hK hI 28 (by decide) (cel_28 cy ad _) rfl 5 (by decide) (by decide +kernel) rfl dX10_alikeTo_4 ?_
    have b_1 := bd_28_5 hF
    refine g_icmp_ge (tgt := 41) hx hb dX10_alikeTo_7 (by decide) (by omega) (by omega) (fun c_2 => ?_) (fun c_2 => ?_)
    · skip
      refine lv_iconst (v := iI (-1)) hx hb dX10_alikeTo_41 rfl ?_
      have e9 : L_X10_alikeTo_2 σ a0 a1 (n + 1) x3 = (-1) := by rw [L_X10_alikeTo_2, if_pos c_2]
      exact g_iret (z := (-1)) hx hb hr hK hN hlocks hI e9.symm rfl (by rw [e9] <;> first | (omega) | (dsimp only; omega)) dX10_alikeTo_42
    · skip
      refine lv_iload_n hx hb dX10_alikeTo_10 rfl (lv_at hl 3 rfl) ?_
      refine lv_iload_n hx hb dX10_alikeTo_11 rfl (lv_at hl 2 rfl) ?_
      refine g_icmp_eq (tgt := 35) hx hb dX10_alikeTo_12 (by decide) (by omega) (by omega) (fun c_3 => ?_) (fun c_3 => ?_)
      · skip
        refine lv_iinc (v := iI (x3 + 1)) (lv' := [(3, .int (iI (x3 + 1))), (0, .ref (ad 28)), (1, .int (iI a0)), (2, .int (iI a1))]) hx hb dX10_alikeTo_35 hl (k := 3) rfl (iI_add _ _) (by decide) rfl (fun ls hl => ?_)
        refine lv_goto (tgt := 2) hx hb dX10_alikeTo_38 (by decide) ?_
        have e9 : L_X10_alikeTo_2 σ a0 a1 (n + 1) x3 = L_X10_alikeTo_2 σ a0 a1 n (x3 + 1) := by rw [L_X10_alikeTo_2, if_neg c_2, if_pos c_3]
        rw [e9]
        exact ih (x3 + 1)  (by omega) (by omega) _ _ _ hI (lv_sub hl [1, 2, 3, 0] rfl)
      · skip
        refine lv_aload_n hx hb dX10_alikeTo_15 rfl (lv_at hl 0 rfl) ?_
        refine g_get (C := RX10) (T := TX10) (N := 44) (ci := 9) (v := .ref (ad 32)) hx hb hts in_X10_alikeTo_X10 hown hK hI 28 (by decide) (cel_28 cy ad _) rfl 6 (by decide) (by decide +kernel) rfl dX10_alikeTo_16 ?_
        refine lv_iload_n hx hb dX10_alikeTo_19 rfl (lv_at hl 3 rfl) ?_
        refine g_zald (v := σ 32 x3.toNat) hx hb hK hI 32 (by decide) (cel_32 cy ad) (by omega) (by decide) rfl dX10_alikeTo_20 ?_
        have b_4 := bd_32 hF x3.toNat
        refine g_if_eq (tgt := 35) hx hb dX10_alikeTo_21 (by decide) (by omega) (fun c_5 => ?_) (fun c_5 => ?_)
        · skip
          refine lv_iinc (v := iI (x3 + 1)) (lv' := [(3, .int (iI (x3 + 1))), (0, .ref (ad 28)), (1, .int (iI a0)), (2, .int (iI a1))]) hx hb dX10_alikeTo_35 hl (k := 3) rfl (iI_add _ _) (by decide) rfl (fun ls hl => ?_)
          refine lv_goto (tgt := 2) hx hb dX10_alikeTo_38 (by decide) ?_
          have e9 : L_X10_alikeTo_2 σ a0 a1 (n + 1) x3 = L_X10_alikeTo_2 σ a0 a1 n (x3 + 1) := by rw [L_X10_alikeTo_2, if_neg c_2, if_neg c_3, if_pos c_5]
          rw [e9]
          exact ih (x3 + 1)  (by omega) (by omega) _ _ _ hI (lv_sub hl [1, 2, 3, 0] rfl)
        · skip
          refine lv_aload_n hx hb dX10_alikeTo_24 rfl (lv_at hl 0 rfl) ?_
          refine lv_iload_n hx hb dX10_alikeTo_25 rfl (lv_at hl 3 rfl) ?_
          refine lv_iload_n hx hb dX10_alikeTo_26 rfl (lv_at hl 1 rfl) ?_
          refine g_V (As := [.int (iI x3), .int (iI a0)]) (rest := []) 28 (c_X10_isAlike l D cy ad σ x3 (by omega) a0 (by omega)) hx hb hml hown hts hK hN hI hl.1 gX10_alikeTo_X10_isAlike rfl hd_X10_isAlike rfl rfl ⟨Nat.le_of_ble_eq_true rfl, Nat.le_of_ble_eq_true rfl⟩ ⟨Nat.zero_le _, Nat.zero_le _⟩ (by decide) (cel_28 cy ad _) rfl rfl rfl rfl (Nat.le_of_ble_eq_true rfl) dX10_alikeTo_27 (fun H locs hG_6 hI => ?_)
          refine g_if_eq (tgt := 35) hx hb dX10_alikeTo_30 (by decide) (by omega) (fun c_7 => ?_) (fun c_7 => ?_)
          · skip
            refine lv_iinc (v := iI (x3 + 1)) (lv' := [(3, .int (iI (x3 + 1))), (0, .ref (ad 28)), (1, .int (iI a0)), (2, .int (iI a1))]) hx hb dX10_alikeTo_35 hl (k := 3) rfl (iI_add _ _) (by decide) rfl (fun ls hl => ?_)
            refine lv_goto (tgt := 2) hx hb dX10_alikeTo_38 (by decide) ?_
            have e9 : L_X10_alikeTo_2 σ a0 a1 (n + 1) x3 = L_X10_alikeTo_2 σ a0 a1 n (x3 + 1) := by rw [L_X10_alikeTo_2, if_neg c_2, if_neg c_3, if_neg c_5, if_pos c_7]
            rw [e9]
            exact ih (x3 + 1)  (by omega) (by omega) _ _ _ hI (lv_sub hl [1, 2, 3, 0] rfl)
          · skip
            refine lv_iload_n hx hb dX10_alikeTo_33 rfl (lv_at hl 3 rfl) ?_
            have e9 : L_X10_alikeTo_2 σ a0 a1 (n + 1) x3 = x3 := by rw [L_X10_alikeTo_2, if_neg c_2, if_neg c_3, if_neg c_5, if_neg c_7]
            exact g_iret (z := x3) hx hb hr hK hN hlocks hI e9.symm rfl (by rw [e9] <;> first | (omega) | (dsimp only; omega)) dX10_alikeTo_34
def f_X10_alikeTo (σ : Sg) (a0 : Int) (a1 : Int) : Int := L_X10_alikeTo_2 σ a0 a1 41 0
theorem hd_X10_alikeTo : yX10_alikeTo.cls = RX10 ∧ yX10_alikeTo.cls ≠ "java/lang/invoke/MethodHandle" ∧ yX10_alikeTo.cls ≠ "java/lang/invoke/VarHandle" ∧ (parseMethodDescriptor yX10_alikeTo.desc).map (fun d => d.parameters.length) = some 2 := by decide +kernel
set_option maxHeartbeats 4000000 in
set_option maxRecDepth 100000 in
theorem c_X10_alikeTo (l : Launch) (D : va_G) (cy : Nat → ClassId) (ad : Nat → Nat) (σ : Sg) (a0 : Int) (ha0 : (0 : Int) ≤ a0 ∧ a0 ≤ 159) (a1 : Int) (ha1 : (-2147483648 ≤ a1 ∧ a1 < 2147483648)) : CM l D cy ad yX10_alikeTo wsX10_alikeTo { frames := 2, cells := 0, slots := 0, locals := 80 } [.ref (ad 28), .int (iI a0), .int (iI a1)] σ (some (.int (iI (f_X10_alikeTo σ a0 a1)))) σ (-1 ≤ (f_X10_alikeTo σ a0 a1) ∧ (f_X10_alikeTo σ a0 a1) ≤ 39) := by
  refine CM.of (cc := cX10_alikeTo) (maxL := 4) (ret := (some .int)) (by decide) rfl (Nat.le_of_ble_eq_true rfl) ?_
  intro p e s m args below meth c₀ ls X hI hl
  have hl : lv_has ls 4 [(0, .ref (ad 28)), (1, .int (iI a0)), (2, .int (iI a1))] := hl
  obtain ⟨hx, hb, hr, hml, hown, hts, hlocks, hK, hN⟩ := id X
  have hF := hI.2.2.2
  refine lv_iconst (v := iI 0) hx hb dX10_alikeTo_0 rfl ?_
  refine lv_istore_n (lv' := [(3, .int (iI 0)), (0, .ref (ad 28)), (1, .int (iI a0)), (2, .int (iI a1))]) hx hb dX10_alikeTo_1 rfl hl (by decide) rfl (fun ls hl => ?_)
  have e9 : f_X10_alikeTo σ a0 a1 = L_X10_alikeTo_2 σ a0 a1 41 0 := by rw [f_X10_alikeTo]
  rw [e9]
  exact w_L_X10_alikeTo_2 X σ a0 ha0 a1 ha1  41 0  (by omega) (by omega) _ _ _ hI (lv_sub hl [1, 2, 3, 0] rfl)
theorem in_X10_goesTo_X10 : ∀ w ∈ u_ws RX10 TX10 44, w ∈ wsX10_goesTo := by decide +kernel
def L_X10_goesTo_3 (a0 : Int) (a1 : Int) : Nat → Int → Sg → Sg
  | 0, x3, σ => (σ)
  | n + 1, x3, σ => (if (40 + (σ 28 7)) ≤ x3 then σ else (if (f_X10_isJust σ x3 a0) = 0 then L_X10_goesTo_3 a0 a1 n (x3 + 1) σ else L_X10_goesTo_3 a0 a1 n (x3 + 1) (f_X10_copies σ a1 x3)))
set_option maxHeartbeats 4000000 in
set_option maxRecDepth 100000 in
theorem w_L_X10_goesTo_3 {p : Program} {l : Launch} {e : Env} {s : State} {m : MethodId} {args : Array Value} {below : List Frame} {meth : Method} {c₀ : Code} {D : va_G} {cy : Nat → ClassId} {ad : Nat → Nat} {Q : State → Prop} (X : MX p s m args meth c₀ cX10_goesTo 4 RX10 none wsX10_goesTo D cy) (a0 : Int) (ha0 : (0 : Int) ≤ a0 ∧ a0 ≤ 39) (a1 : Int) (ha1 : (0 : Int) ≤ a1 ∧ a1 ≤ 159) : ∀ (n : Nat) (x3 : Int) (σ : Sg) (hx3 : (40 : Int) ≤ x3 ∧ x3 ≤ 70) (hmu : 70 - x3 < (n : Int)) (H : Heap) (locs : List Loc) (ls : Array Slot) (hI : HI D cy ad s σ H locs) (hl : lv_has ls 4 [(0, .ref (ad 28)), (1, .int (iI a0)), (2, .int (iI a1)), (3, .int (iI x3))])  (hk : ∀ (H1 : Heap) (locs1 : List Loc) (ls1 : Array Slot), True → HI D cy ad s (L_X10_goesTo_3 a0 a1 n x3 σ) H1 locs1 → lv_has ls1 4 [(0, .ref (ad 28)), (1, .int (iI a0)), (2, .int (iI a1))] → W p l e { frames := 1, cells := 0, slots := 0, locals := 40 } s m args below meth c₀ H1 locs1 0 0 Q (F0 m 35 ls1 [])), W p l e { frames := 1, cells := 0, slots := 0, locals := 40 } s m args below meth c₀ H locs 0 0 Q (F0 m 3 ls []) := by
  obtain ⟨hx, hb, hr, hml, hown, hts, hlocks, hK, hN⟩ := id X
  intro n
  induction n with
  | zero =>
    intro x3 σ hx3 hmu H locs ls hI hl hk
    exfalso
    have hF := hI.2.2.2
    omega
  | succ n ih =>
    intro x3 σ hx3 hmu H locs ls hI hl hk
    have hF := hI.2.2.2
    refine lv_iload_n hx hb dX10_goesTo_3 rfl (lv_at hl 3 rfl) ?_
    refine lv_bipush (v := iI 40) hx hb dX10_goesTo_4 (iI_bip (by decide)) ?_
    refine lv_aload_n hx hb dX10_goesTo_6 rfl (lv_at hl 0 rfl) ?_
    refine g_get (C := RX10) (T := TX10) (N := 44) (ci := 9) (v := .int (iI (σ 28 7))) hx hb hts in_X10_goesTo_X10 hown hK hI 28 (by decide) (cel_28 cy ad _) rfl 7 (by decide) (by decide +kernel) rfl dX10_goesTo_7 ?_
    have b_1 := bd_28_7 hF
    refine g_iadd hx hb dX10_goesTo_10 ?_
    refine g_icmp_ge (tgt := 35) hx hb dX10_goesTo_11 (by decide) (by omega) (by omega) (fun c_2 => ?_) (fun c_2 => ?_)
    · skip
      have e9 : L_X10_goesTo_3 a0 a1 (n + 1) x3 σ = σ := by rw [L_X10_goesTo_3, if_pos c_2]
      rw [e9] at hk
      exact hk _ _ _ trivial hI (lv_sub hl [0, 1, 2] rfl)
    · skip
      refine lv_aload_n hx hb dX10_goesTo_14 rfl (lv_at hl 0 rfl) ?_
      refine lv_iload_n hx hb dX10_goesTo_15 rfl (lv_at hl 3 rfl) ?_
      refine lv_iload_n hx hb dX10_goesTo_16 rfl (lv_at hl 1 rfl) ?_
      refine g_V (As := [.int (iI x3), .int (iI a0)]) (rest := []) 28 (c_X10_isJust l D cy ad σ x3 (by omega) a0 (by omega)) hx hb hml hown hts hK hN hI hl.1 gX10_goesTo_X10_isJust rfl hd_X10_isJust rfl rfl ⟨Nat.le_of_ble_eq_true rfl, Nat.le_of_ble_eq_true rfl⟩ ⟨Nat.zero_le _, Nat.zero_le _⟩ (by decide) (cel_28 cy ad _) rfl rfl rfl rfl (Nat.le_of_ble_eq_true rfl) dX10_goesTo_17 (fun H locs hG_3 hI => ?_)
      refine g_if_eq (tgt := 29) hx hb dX10_goesTo_20 (by decide) (by omega) (fun c_4 => ?_) (fun c_4 => ?_)
      · skip
        refine lv_iinc (v := iI (x3 + 1)) (lv' := [(3, .int (iI (x3 + 1))), (0, .ref (ad 28)), (1, .int (iI a0)), (2, .int (iI a1))]) hx hb dX10_goesTo_29 hl (k := 3) rfl (iI_add _ _) (by decide) rfl (fun ls hl => ?_)
        refine lv_goto (tgt := 3) hx hb dX10_goesTo_32 (by decide) ?_
        have e9 : L_X10_goesTo_3 a0 a1 (n + 1) x3 σ = L_X10_goesTo_3 a0 a1 n (x3 + 1) σ := by rw [L_X10_goesTo_3, if_neg c_2, if_pos c_4]
        rw [e9] at hk
        exact ih (x3 + 1) σ (by omega) (by omega) _ _ _ hI (lv_sub hl [1, 2, 3, 0] rfl) hk
      · skip
        refine lv_aload_n hx hb dX10_goesTo_23 rfl (lv_at hl 0 rfl) ?_
        refine lv_iload_n hx hb dX10_goesTo_24 rfl (lv_at hl 2 rfl) ?_
        refine lv_iload_n hx hb dX10_goesTo_25 rfl (lv_at hl 3 rfl) ?_
        refine g_V (As := [.int (iI a1), .int (iI x3)]) (rest := []) 28 (c_X10_copies l D cy ad σ a1 (by omega) x3 (by omega)) hx hb hml hown hts hK hN hI hl.1 gX10_goesTo_X10_copies rfl hd_X10_copies rfl rfl ⟨Nat.le_of_ble_eq_true rfl, Nat.le_of_ble_eq_true rfl⟩ ⟨Nat.zero_le _, Nat.zero_le _⟩ (by decide) (cel_28 cy ad _) rfl rfl rfl rfl (Nat.le_of_ble_eq_true rfl) dX10_goesTo_26 (fun H locs hG_5 hI => ?_)
        have hF_6 := hI.2.2.2
        refine lv_iinc (v := iI (x3 + 1)) (lv' := [(3, .int (iI (x3 + 1))), (0, .ref (ad 28)), (1, .int (iI a0)), (2, .int (iI a1))]) hx hb dX10_goesTo_29 hl (k := 3) rfl (iI_add _ _) (by decide) rfl (fun ls hl => ?_)
        refine lv_goto (tgt := 3) hx hb dX10_goesTo_32 (by decide) ?_
        have e9 : L_X10_goesTo_3 a0 a1 (n + 1) x3 σ = L_X10_goesTo_3 a0 a1 n (x3 + 1) (f_X10_copies σ a1 x3) := by rw [L_X10_goesTo_3, if_neg c_2, if_neg c_4]
        rw [e9] at hk
        exact ih (x3 + 1) (f_X10_copies σ a1 x3) (by omega) (by omega) _ _ _ hI (lv_sub hl [1, 2, 3, 0] rfl) hk
def f_X10_goesTo (σ : Sg) (a0 : Int) (a1 : Int) : Sg := (f_X10_copies (L_X10_goesTo_3 a0 a1 31 40 σ) a1 a0)
theorem hd_X10_goesTo : yX10_goesTo.cls = RX10 ∧ yX10_goesTo.cls ≠ "java/lang/invoke/MethodHandle" ∧ yX10_goesTo.cls ≠ "java/lang/invoke/VarHandle" ∧ (parseMethodDescriptor yX10_goesTo.desc).map (fun d => d.parameters.length) = some 2 := by decide +kernel
set_option maxHeartbeats 4000000 in
set_option maxRecDepth 100000 in
theorem c_X10_goesTo (l : Launch) (D : va_G) (cy : Nat → ClassId) (ad : Nat → Nat) (σ : Sg) (a0 : Int) (ha0 : (0 : Int) ≤ a0 ∧ a0 ≤ 39) (a1 : Int) (ha1 : (0 : Int) ≤ a1 ∧ a1 ≤ 159) : CM l D cy ad yX10_goesTo wsX10_goesTo { frames := 1, cells := 0, slots := 0, locals := 40 } [.ref (ad 28), .int (iI a0), .int (iI a1)] σ none (f_X10_goesTo σ a0 a1) (True) := by
  refine CM.of (cc := cX10_goesTo) (maxL := 4) (ret := none) (by decide) rfl (Nat.le_of_ble_eq_true rfl) ?_
  intro p e s m args below meth c₀ ls X hI hl
  have hl : lv_has ls 4 [(0, .ref (ad 28)), (1, .int (iI a0)), (2, .int (iI a1))] := hl
  obtain ⟨hx, hb, hr, hml, hown, hts, hlocks, hK, hN⟩ := id X
  have hF := hI.2.2.2
  refine lv_bipush (v := iI 40) hx hb dX10_goesTo_0 (iI_bip (by decide)) ?_
  refine lv_istore_n (lv' := [(3, .int (iI 40)), (0, .ref (ad 28)), (1, .int (iI a0)), (2, .int (iI a1))]) hx hb dX10_goesTo_2 rfl hl (by decide) rfl (fun ls hl => ?_)
  refine w_L_X10_goesTo_3 X  a0 ha0 a1 ha1  31 40 σ (by omega) (by omega) _ _ _ hI (lv_sub hl [1, 2, 3, 0] rfl) (fun H locs ls hpo_8 hI hl => ?_)
  have hF_7 := hI.2.2.2
  refine lv_aload_n hx hb dX10_goesTo_35 rfl (lv_at hl 0 rfl) ?_
  refine lv_iload_n hx hb dX10_goesTo_36 rfl (lv_at hl 2 rfl) ?_
  refine lv_iload_n hx hb dX10_goesTo_37 rfl (lv_at hl 1 rfl) ?_
  refine g_V (As := [.int (iI a1), .int (iI a0)]) (rest := []) 28 (c_X10_copies l D cy ad (L_X10_goesTo_3 a0 a1 31 40 σ) a1 (by omega) a0 (by omega)) hx hb hml hown hts hK hN hI hl.1 gX10_goesTo_X10_copies rfl hd_X10_copies rfl rfl ⟨Nat.le_of_ble_eq_true rfl, Nat.le_of_ble_eq_true rfl⟩ ⟨Nat.zero_le _, Nat.zero_le _⟩ (by decide) (cel_28 cy ad _) rfl rfl rfl rfl (Nat.le_of_ble_eq_true rfl) dX10_goesTo_38 (fun H locs hG_9 hI => ?_)
  have hF_10 := hI.2.2.2
  have e9 : f_X10_goesTo σ a0 a1 = (f_X10_copies (L_X10_goesTo_3 a0 a1 31 40 σ) a1 a0) := by rw [f_X10_goesTo]
  exact g_vret hx hb hr hK hN hlocks hI (by rw [e9]) trivial dX10_goesTo_41
theorem in_X10_there_X10 : ∀ w ∈ u_ws RX10 TX10 44, w ∈ wsX10_there := by decide +kernel
def L_X10_there_4 (σ : Sg) : Nat → Int → Int → Int
  | 0, x1, x2 => (x1)
  | n + 1, x1, x2 => (if (σ 28 5) ≤ x2 then x1 else (if (σ 32 x2.toNat) = 0 then L_X10_there_4 σ n x1 (x2 + 1) else L_X10_there_4 σ n (x1 + 1) (x2 + 1)))
set_option maxHeartbeats 4000000 in
set_option maxRecDepth 100000 in
theorem w_L_X10_there_4 {p : Program} {l : Launch} {e : Env} {s : State} {m : MethodId} {args : Array Value} {below : List Frame} {meth : Method} {c₀ : Code} {D : va_G} {cy : Nat → ClassId} {ad : Nat → Nat} {Q : State → Prop} (X : MX p s m args meth c₀ cX10_there 3 RX10 (some .int) wsX10_there D cy) (σ : Sg) : ∀ (n : Nat) (x1 : Int) (x2 : Int) (hx1 : (0 : Int) ≤ x1 ∧ x1 ≤ 40) (hx2 : (0 : Int) ≤ x2 ∧ x2 ≤ 40) (hp0 : x1 ≤ x2) (hmu : 40 - x2 < (n : Int)) (H : Heap) (locs : List Loc) (ls : Array Slot) (hI : HI D cy ad s σ H locs) (hl : lv_has ls 3 [(0, .ref (ad 28)), (1, .int (iI x1)), (2, .int (iI x2))])  (hk : ∀ (H1 : Heap) (locs1 : List Loc) (ls1 : Array Slot), (0 ≤ (L_X10_there_4 σ n x1 x2) ∧ (L_X10_there_4 σ n x1 x2) ≤ 40) → HI D cy ad s σ H1 locs1 → lv_has ls1 3 [(1, .int (iI (L_X10_there_4 σ n x1 x2)))] → W p l e { frames := 0, cells := 0, slots := 0, locals := 0 } s m args below meth c₀ H1 locs1 0 0 Q (F0 m 30 ls1 [])), W p l e { frames := 0, cells := 0, slots := 0, locals := 0 } s m args below meth c₀ H locs 0 0 Q (F0 m 4 ls []) := by
  obtain ⟨hx, hb, hr, hml, hown, hts, hlocks, hK, hN⟩ := id X
  intro n
  induction n with
  | zero =>
    intro x1 x2 hx1 hx2 hp0 hmu H locs ls hI hl hk
    exfalso
    have hF := hI.2.2.2
    omega
  | succ n ih =>
    intro x1 x2 hx1 hx2 hp0 hmu H locs ls hI hl hk
    have hF := hI.2.2.2
    refine lv_iload_n hx hb dX10_there_4 rfl (lv_at hl 2 rfl) ?_
    refine lv_aload_n hx hb dX10_there_5 rfl (lv_at hl 0 rfl) ?_
    refine g_get (C := RX10) (T := TX10) (N := 44) (ci := 9) (v := .int (iI (σ 28 5))) hx hb hts in_X10_there_X10 hown hK hI 28 (by decide) (cel_28 cy ad _) rfl 5 (by decide) (by decide +kernel) rfl dX10_there_6 ?_
    have b_1 := bd_28_5 hF
    refine g_icmp_ge (tgt := 30) hx hb dX10_there_9 (by decide) (by omega) (by omega) (fun c_2 => ?_) (fun c_2 => ?_)
    · skip
      have e9 : L_X10_there_4 σ (n + 1) x1 x2 = x1 := by rw [L_X10_there_4, if_pos c_2]
      rw [e9] at hk
      exact hk _ _ _ (by first | (omega) | (dsimp only; omega)) hI (lv_sub hl [1] rfl)
    · skip
      refine lv_aload_n hx hb dX10_there_12 rfl (lv_at hl 0 rfl) ?_
      refine g_get (C := RX10) (T := TX10) (N := 44) (ci := 9) (v := .ref (ad 32)) hx hb hts in_X10_there_X10 hown hK hI 28 (by decide) (cel_28 cy ad _) rfl 6 (by decide) (by decide +kernel) rfl dX10_there_13 ?_
      refine lv_iload_n hx hb dX10_there_16 rfl (lv_at hl 2 rfl) ?_
      refine g_zald (v := σ 32 x2.toNat) hx hb hK hI 32 (by decide) (cel_32 cy ad) (by omega) (by decide) rfl dX10_there_17 ?_
      have b_3 := bd_32 hF x2.toNat
      refine g_if_eq (tgt := 24) hx hb dX10_there_18 (by decide) (by omega) (fun c_4 => ?_) (fun c_4 => ?_)
      · skip
        refine lv_iinc (v := iI (x2 + 1)) (lv' := [(2, .int (iI (x2 + 1))), (0, .ref (ad 28)), (1, .int (iI x1))]) hx hb dX10_there_24 hl (k := 2) rfl (iI_add _ _) (by decide) rfl (fun ls hl => ?_)
        refine lv_goto (tgt := 4) hx hb dX10_there_27 (by decide) ?_
        have e9 : L_X10_there_4 σ (n + 1) x1 x2 = L_X10_there_4 σ n x1 (x2 + 1) := by rw [L_X10_there_4, if_neg c_2, if_pos c_4]
        rw [e9] at hk
        exact ih x1 (x2 + 1)  (by omega) (by omega) (by omega) (by omega) _ _ _ hI (lv_sub hl [1, 2, 0] rfl) hk
      · skip
        refine lv_iinc (v := iI (x1 + 1)) (lv' := [(1, .int (iI (x1 + 1))), (0, .ref (ad 28)), (2, .int (iI x2))]) hx hb dX10_there_21 hl (k := 1) rfl (iI_add _ _) (by decide) rfl (fun ls hl => ?_)
        refine lv_iinc (v := iI (x2 + 1)) (lv' := [(2, .int (iI (x2 + 1))), (1, .int (iI (x1 + 1))), (0, .ref (ad 28))]) hx hb dX10_there_24 hl (k := 2) rfl (iI_add _ _) (by decide) rfl (fun ls hl => ?_)
        refine lv_goto (tgt := 4) hx hb dX10_there_27 (by decide) ?_
        have e9 : L_X10_there_4 σ (n + 1) x1 x2 = L_X10_there_4 σ n (x1 + 1) (x2 + 1) := by rw [L_X10_there_4, if_neg c_2, if_neg c_4]
        rw [e9] at hk
        exact ih (x1 + 1) (x2 + 1)  (by omega) (by omega) (by omega) (by omega) _ _ _ hI (lv_sub hl [2, 1, 0] rfl) hk
def f_X10_there (σ : Sg) : Int := (L_X10_there_4 σ 41 0 0)
theorem hd_X10_there : yX10_there.cls = RX10 ∧ yX10_there.cls ≠ "java/lang/invoke/MethodHandle" ∧ yX10_there.cls ≠ "java/lang/invoke/VarHandle" ∧ (parseMethodDescriptor yX10_there.desc).map (fun d => d.parameters.length) = some 0 := by decide +kernel
set_option maxHeartbeats 4000000 in
set_option maxRecDepth 100000 in
theorem c_X10_there (l : Launch) (D : va_G) (cy : Nat → ClassId) (ad : Nat → Nat) (σ : Sg) : CM l D cy ad yX10_there wsX10_there { frames := 0, cells := 0, slots := 0, locals := 0 } [.ref (ad 28)] σ (some (.int (iI (f_X10_there σ)))) σ (0 ≤ (f_X10_there σ) ∧ (f_X10_there σ) ≤ 40) := by
  refine CM.of (cc := cX10_there) (maxL := 3) (ret := (some .int)) (by decide) rfl (Nat.le_of_ble_eq_true rfl) ?_
  intro p e s m args below meth c₀ ls X hI hl
  have hl : lv_has ls 3 [(0, .ref (ad 28))] := hl
  obtain ⟨hx, hb, hr, hml, hown, hts, hlocks, hK, hN⟩ := id X
  have hF := hI.2.2.2
  refine lv_iconst (v := iI 0) hx hb dX10_there_0 rfl ?_
  refine lv_istore_n (lv' := [(1, .int (iI 0)), (0, .ref (ad 28))]) hx hb dX10_there_1 rfl hl (by decide) rfl (fun ls hl => ?_)
  refine lv_iconst (v := iI 0) hx hb dX10_there_2 rfl ?_
  refine lv_istore_n (lv' := [(2, .int (iI 0)), (1, .int (iI 0)), (0, .ref (ad 28))]) hx hb dX10_there_3 rfl hl (by decide) rfl (fun ls hl => ?_)
  refine w_L_X10_there_4 X σ   41 0 0  (by omega) (by omega) (by omega) (by omega) _ _ _ hI (lv_sub hl [2, 1, 0] rfl) (fun H locs ls hpo_6 hI hl => ?_)
  refine lv_iload_n hx hb dX10_there_30 rfl (lv_at hl 0 rfl) ?_
  have e9 : f_X10_there σ = (L_X10_there_4 σ 41 0 0) := by rw [f_X10_there]
  exact g_iret (z := (L_X10_there_4 σ 41 0 0)) hx hb hr hK hN hlocks hI e9.symm rfl (by rw [e9] <;> first | (omega) | (dsimp only; omega)) dX10_there_31
theorem in_X10_folds_X10 : ∀ w ∈ u_ws RX10 TX10 44, w ∈ wsX10_folds := by decide +kernel
def f_X10_folds (σ : Sg) (a0 : Int) : Int × Sg := (if (f_X10_there (up2 σ 28 0 0)) ≤ 0 then (1, (up2 (up2 σ 28 0 0) 28 4 a0)) else (0, (up2 σ 28 0 0)))
theorem hd_X10_folds : yX10_folds.cls = RX10 ∧ yX10_folds.cls ≠ "java/lang/invoke/MethodHandle" ∧ yX10_folds.cls ≠ "java/lang/invoke/VarHandle" ∧ (parseMethodDescriptor yX10_folds.desc).map (fun d => d.parameters.length) = some 1 := by decide +kernel
set_option maxHeartbeats 4000000 in
set_option maxRecDepth 100000 in
theorem c_X10_folds (l : Launch) (D : va_G) (cy : Nat → ClassId) (ad : Nat → Nat) (σ : Sg) (a0 : Int) (ha0 : (0 : Int) ≤ a0 ∧ a0 ≤ 1) : CM l D cy ad yX10_folds wsX10_folds { frames := 1, cells := 0, slots := 0, locals := 40 } [.ref (ad 28), .int (iI a0)] σ (some (.int (iI ((f_X10_folds σ a0).1)))) ((f_X10_folds σ a0).2) ((0 ≤ (f_X10_folds σ a0).1 ∧ (f_X10_folds σ a0).1 ≤ 1)) := by
  refine CM.of (cc := cX10_folds) (maxL := 2) (ret := (some .boolean)) (by decide) rfl (Nat.le_of_ble_eq_true rfl) ?_
  intro p e s m args below meth c₀ ls X hI hl
  have hl : lv_has ls 2 [(0, .ref (ad 28)), (1, .int (iI a0))] := hl
  obtain ⟨hx, hb, hr, hml, hown, hts, hlocks, hK, hN⟩ := id X
  have hF := hI.2.2.2
  refine lv_aload_n hx hb dX10_folds_0 rfl (lv_at hl 0 rfl) ?_
  refine lv_iconst (v := iI 0) hx hb dX10_folds_1 rfl ?_
  refine g_put (C := RX10) (T := TX10) (N := 44) (ci := 9) (ty := .int) (z := 0) hx hb hts in_X10_folds_X10 tyX10 tyX10_ok nmX10 hown hK hI 28 (by decide) (cel_28 cy ad) rfl 0 (by decide) (by decide +kernel) rfl (by decide +kernel) rfl rfl (Nat.le_of_ble_eq_true rfl) rfl (bw_28_0 (by omega)) dX10_folds_2 (fun H locs hI => ?_)
  have hF_1 := hI.2.2.2
  refine lv_aload_n hx hb dX10_folds_5 rfl (lv_at hl 0 rfl) ?_
  refine g_V (As := []) (rest := []) 28 (c_X10_there l D cy ad (up2 σ 28 0 0) ) hx hb hml hown hts hK hN hI hl.1 gX10_folds_X10_there rfl hd_X10_there rfl rfl ⟨Nat.le_of_ble_eq_true rfl, Nat.le_of_ble_eq_true rfl⟩ ⟨Nat.zero_le _, Nat.zero_le _⟩ (by decide) (cel_28 cy ad _) rfl rfl rfl rfl (Nat.le_of_ble_eq_true rfl) dX10_folds_6 (fun H locs hG_2 hI => ?_)
  refine g_if_le (tgt := 14) hx hb dX10_folds_9 (by decide) (by omega) (fun c_3 => ?_) (fun c_3 => ?_)
  · skip
    refine lv_aload_n hx hb dX10_folds_14 rfl (lv_at hl 0 rfl) ?_
    refine lv_iload_n hx hb dX10_folds_15 rfl (lv_at hl 1 rfl) ?_
    refine g_put (C := RX10) (T := TX10) (N := 44) (ci := 9) (ty := .boolean) (z := a0) hx hb hts in_X10_folds_X10 tyX10 tyX10_ok nmX10 hown hK hI 28 (by decide) (cel_28 cy ad) rfl 4 (by decide) (by decide +kernel) rfl (by decide +kernel) (iI_nz (by omega)) (iI_fz (by omega)) (Nat.le_of_ble_eq_true rfl) rfl (bw_28_4 (by omega)) dX10_folds_16 (fun H locs hI => ?_)
    have hF_4 := hI.2.2.2
    refine lv_iconst (v := iI 1) hx hb dX10_folds_19 rfl ?_
    have e9 : f_X10_folds σ a0 = (1, (up2 (up2 σ 28 0 0) 28 4 a0)) := by rw [f_X10_folds, if_pos c_3]
    exact g_zret (z := 1) hx hb hr hK hN hlocks hI (by rw [e9]) (by rw [e9]) (by rw [e9] <;> first | (omega) | (dsimp only; omega)) (by omega) dX10_folds_20
  · skip
    refine lv_iconst (v := iI 0) hx hb dX10_folds_12 rfl ?_
    have e9 : f_X10_folds σ a0 = (0, (up2 σ 28 0 0)) := by rw [f_X10_folds, if_neg c_3]
    exact g_zret (z := 0) hx hb hr hK hN hlocks hI (by rw [e9]) (by rw [e9]) (by rw [e9] <;> first | (omega) | (dsimp only; omega)) (by omega) dX10_folds_13
theorem in_X10_feed_X10 : ∀ w ∈ u_ws RX10 TX10 44, w ∈ wsX10_feed := by decide +kernel
def L_X10_feed_22 (a0 : Int) (a1 : Int) (a2 : Int) (a3 : Int) (a4 : Int) : Nat → Int → Sg → Sg
  | 0, x6, σ => (σ)
  | n + 1, x6, σ => (if 20 ≤ x6 then σ else (if 4 ≤ x6 then (if 8 ≤ x6 then (if 12 ≤ x6 then (if 16 ≤ x6 then L_X10_feed_22 a0 a1 a2 a3 a4 n (x6 + 1) (up2 (up2 σ 33 ((σ 28 9).toNat) ((shrI a4 (24 - (8 * (x6 % 4)))).bmod 256)) 28 9 ((σ 28 9) + 1)) else L_X10_feed_22 a0 a1 a2 a3 a4 n (x6 + 1) (up2 (up2 σ 33 ((σ 28 9).toNat) ((shrI a3 (24 - (8 * (x6 % 4)))).bmod 256)) 28 9 ((σ 28 9) + 1))) else L_X10_feed_22 a0 a1 a2 a3 a4 n (x6 + 1) (up2 (up2 σ 33 ((σ 28 9).toNat) ((shrI a2 (24 - (8 * (x6 % 4)))).bmod 256)) 28 9 ((σ 28 9) + 1))) else L_X10_feed_22 a0 a1 a2 a3 a4 n (x6 + 1) (up2 (up2 σ 33 ((σ 28 9).toNat) ((shrI a1 (24 - (8 * (x6 % 4)))).bmod 256)) 28 9 ((σ 28 9) + 1))) else L_X10_feed_22 a0 a1 a2 a3 a4 n (x6 + 1) (up2 (up2 σ 33 ((σ 28 9).toNat) ((shrI a0 (24 - (8 * (x6 % 4)))).bmod 256)) 28 9 ((σ 28 9) + 1))))
set_option maxHeartbeats 4000000 in
set_option maxRecDepth 100000 in
theorem w_L_X10_feed_22 {p : Program} {l : Launch} {e : Env} {s : State} {m : MethodId} {args : Array Value} {below : List Frame} {meth : Method} {c₀ : Code} {D : va_G} {cy : Nat → ClassId} {ad : Nat → Nat} {Q : State → Prop} (X : MX p s m args meth c₀ cX10_feed 8 RX10 (some .int) wsX10_feed D cy) (a0 : Int) (ha0 : (-2147483648 ≤ a0 ∧ a0 < 2147483648)) (a1 : Int) (ha1 : (-2147483648 ≤ a1 ∧ a1 < 2147483648)) (a2 : Int) (ha2 : (-2147483648 ≤ a2 ∧ a2 < 2147483648)) (a3 : Int) (ha3 : (-2147483648 ≤ a3 ∧ a3 < 2147483648)) (a4 : Int) (ha4 : (-2147483648 ≤ a4 ∧ a4 < 2147483648)) (g0 : Int) : ∀ (n : Nat) (x6 : Int) (σ : Sg) (hx6 : (0 : Int) ≤ x6 ∧ x6 ≤ 20) (hp0 : σ 28 9 = g0 + x6) (hp1 : g0 ≤ 60) (hmu : 20 - x6 < (n : Int)) (H : Heap) (locs : List Loc) (ls : Array Slot) (hI : HI D cy ad s σ H locs) (hl : lv_has ls 8 [(0, .ref (ad 28)), (1, .int (iI a0)), (2, .int (iI a1)), (3, .int (iI a2)), (4, .int (iI a3)), (5, .int (iI a4)), (6, .int (iI x6))])  (hk : ∀ (H1 : Heap) (locs1 : List Loc) (ls1 : Array Slot), True → HI D cy ad s (L_X10_feed_22 a0 a1 a2 a3 a4 n x6 σ) H1 locs1 → lv_has ls1 8 [(0, .ref (ad 28))] → W p l e { frames := 0, cells := 0, slots := 0, locals := 0 } s m args below meth c₀ H1 locs1 0 0 Q (F0 m 116 ls1 [])), W p l e { frames := 0, cells := 0, slots := 0, locals := 0 } s m args below meth c₀ H locs 0 0 Q (F0 m 22 ls []) := by
  obtain ⟨hx, hb, hr, hml, hown, hts, hlocks, hK, hN⟩ := id X
  intro n
  induction n with
  | zero =>
    intro x6 σ hx6 hp0 hp1 hmu H locs ls hI hl hk
    exfalso
    have hF := hI.2.2.2
    omega
  | succ n ih =>
    intro x6 σ hx6 hp0 hp1 hmu H locs ls hI hl hk
    have hF := hI.2.2.2
    refine lv_iload hx hb dX10_feed_22 (lv_at hl 6 rfl) ?_
    refine lv_bipush (v := iI 20) hx hb dX10_feed_24 (iI_bip (by decide)) ?_
    refine g_icmp_ge (tgt := 116) hx hb dX10_feed_26 (by decide) (by omega) (by omega) (fun c_4 => ?_) (fun c_4 => ?_)
    · skip
      have e9 : L_X10_feed_22 a0 a1 a2 a3 a4 (n + 1) x6 σ = σ := by rw [L_X10_feed_22, if_pos c_4]
      rw [e9] at hk
      exact hk _ _ _ trivial hI (lv_sub hl [0] rfl)
    · skip
      refine lv_iload hx hb dX10_feed_29 (lv_at hl 6 rfl) ?_
      refine lv_iconst (v := iI 4) hx hb dX10_feed_31 rfl ?_
      refine g_icmp_ge (tgt := 39) hx hb dX10_feed_32 (by decide) (by omega) (by omega) (fun c_5 => ?_) (fun c_5 => ?_)
      · skip
        refine lv_iload hx hb dX10_feed_39 (lv_at hl 6 rfl) ?_
        refine lv_bipush (v := iI 8) hx hb dX10_feed_41 (iI_bip (by decide)) ?_
        refine g_icmp_ge (tgt := 50) hx hb dX10_feed_43 (by decide) (by omega) (by omega) (fun c_6 => ?_) (fun c_6 => ?_)
        · skip
          refine lv_iload hx hb dX10_feed_50 (lv_at hl 6 rfl) ?_
          refine lv_bipush (v := iI 12) hx hb dX10_feed_52 (iI_bip (by decide)) ?_
          refine g_icmp_ge (tgt := 61) hx hb dX10_feed_54 (by decide) (by omega) (by omega) (fun c_7 => ?_) (fun c_7 => ?_)
          · skip
            refine lv_iload hx hb dX10_feed_61 (lv_at hl 6 rfl) ?_
            refine lv_bipush (v := iI 16) hx hb dX10_feed_63 (iI_bip (by decide)) ?_
            refine g_icmp_ge (tgt := 73) hx hb dX10_feed_65 (by decide) (by omega) (by omega) (fun c_8 => ?_) (fun c_8 => ?_)
            · skip
              refine lv_iload hx hb dX10_feed_73 (lv_at hl 5 rfl) ?_
              refine lv_istore (lv' := [(7, .int (iI a4)), (0, .ref (ad 28)), (1, .int (iI a0)), (2, .int (iI a1)), (3, .int (iI a2)), (4, .int (iI a3)), (5, .int (iI a4)), (6, .int (iI x6))]) hx hb dX10_feed_75 hl (by decide) rfl (fun ls hl => ?_)
              refine lv_aload_n hx hb dX10_feed_77 rfl (lv_at hl 1 rfl) ?_
              refine g_get (C := RX10) (T := TX10) (N := 44) (ci := 9) (v := .ref (ad 33)) hx hb hts in_X10_feed_X10 hown hK hI 28 (by decide) (cel_28 cy ad _) rfl 8 (by decide) (by decide +kernel) rfl dX10_feed_78 ?_
              refine lv_aload_n hx hb dX10_feed_81 rfl (lv_at hl 1 rfl) ?_
              refine g_get (C := RX10) (T := TX10) (N := 44) (ci := 9) (v := .int (iI (σ 28 9))) hx hb hts in_X10_feed_X10 hown hK hI 28 (by decide) (cel_28 cy ad _) rfl 9 (by decide) (by decide +kernel) rfl dX10_feed_82 ?_
              have b_9 := bd_28_9 hF
              refine lv_iload hx hb dX10_feed_85 (lv_at hl 0 rfl) ?_
              refine lv_bipush (v := iI 24) hx hb dX10_feed_87 (iI_bip (by decide)) ?_
              refine lv_bipush (v := iI 8) hx hb dX10_feed_89 (iI_bip (by decide)) ?_
              refine lv_iload hx hb dX10_feed_91 (lv_at hl 7 rfl) ?_
              refine lv_iconst (v := iI 4) hx hb dX10_feed_93 rfl ?_
              refine g_irem hx hb (by omega) (by omega) dX10_feed_94 ?_
              refine g_imul hx hb dX10_feed_95 ?_
              refine g_isub hx hb dX10_feed_96 ?_
              refine g_ishr hx hb dX10_feed_97 ?_
              have b_10 := shrI_rng a4 (24 - (8 * (x6 % 4)))
              refine g_i2b hx hb dX10_feed_98 ?_
              have b_11 := b8_rng (shrI a4 (24 - (8 * (x6 % 4))))
              refine g_bast hx hb hK hI 33 (by decide) (cel_33 cy ad) (by omega) (by decide) (by omega) (bw_33 (by omega)) dX10_feed_99 (fun H locs hI => ?_)
              have hF_12 : WF (up2 σ 33 ((σ 28 9).toNat) ((shrI a4 (24 - (8 * (x6 % 4)))).bmod 256)) := hI.2.2.2
              refine lv_aload_n hx hb dX10_feed_100 rfl (lv_at hl 1 rfl) ?_
              refine lv_dup hx hb dX10_feed_101 rfl ?_
              refine g_get (C := RX10) (T := TX10) (N := 44) (ci := 9) (v := .int (iI (σ 28 9))) hx hb hts in_X10_feed_X10 hown hK hI 28 (by decide) (cel_28 cy ad _) rfl 9 (by decide) (by decide +kernel) (by show some (Value.int (iI ((up2 σ 33 ((σ 28 9).toNat) ((shrI a4 (24 - (8 * (x6 % 4)))).bmod 256)) 28 9))) = _; rw [up2_cell _ _ _ (by decide)]) dX10_feed_102 ?_
              have b_13 := bd_28_9 hF
              refine lv_iconst (v := iI 1) hx hb dX10_feed_105 rfl ?_
              refine g_iadd hx hb dX10_feed_106 ?_
              refine g_put (C := RX10) (T := TX10) (N := 44) (ci := 9) (ty := .int) (z := (σ 28 9) + 1) hx hb hts in_X10_feed_X10 tyX10 tyX10_ok nmX10 hown hK hI 28 (by decide) (cel_28 cy ad) rfl 9 (by decide) (by decide +kernel) rfl (by decide +kernel) rfl rfl (Nat.le_of_ble_eq_true rfl) rfl (bw_28_9 (by omega)) dX10_feed_107 (fun H locs hI => ?_)
              have hF_14 := hI.2.2.2
              refine lv_iinc (v := iI (x6 + 1)) (lv' := [(6, .int (iI (x6 + 1))), (7, .int (iI a4)), (0, .ref (ad 28)), (1, .int (iI a0)), (2, .int (iI a1)), (3, .int (iI a2)), (4, .int (iI a3)), (5, .int (iI a4))]) hx hb dX10_feed_110 hl (k := 7) rfl (iI_add _ _) (by decide) rfl (fun ls hl => ?_)
              refine lv_goto (tgt := 22) hx hb dX10_feed_113 (by decide) ?_
              have e9 : L_X10_feed_22 a0 a1 a2 a3 a4 (n + 1) x6 σ = L_X10_feed_22 a0 a1 a2 a3 a4 n (x6 + 1) (up2 (up2 σ 33 ((σ 28 9).toNat) ((shrI a4 (24 - (8 * (x6 % 4)))).bmod 256)) 28 9 ((σ 28 9) + 1)) := by rw [L_X10_feed_22, if_neg c_4, if_pos c_5, if_pos c_6, if_pos c_7, if_pos c_8]
              rw [e9] at hk
              exact ih (x6 + 1) (up2 (up2 σ 33 ((σ 28 9).toNat) ((shrI a4 (24 - (8 * (x6 % 4)))).bmod 256)) 28 9 ((σ 28 9) + 1)) (by omega) (by first | omega | (simp [up2_at] <;> omega)) (by omega) (by omega) _ _ _ hI (lv_sub hl [2, 3, 4, 5, 6, 7, 0] rfl) hk
            · skip
              refine lv_iload hx hb dX10_feed_68 (lv_at hl 4 rfl) ?_
              refine lv_goto (tgt := 75) hx hb dX10_feed_70 (by decide) ?_
              refine lv_istore (lv' := [(7, .int (iI a3)), (0, .ref (ad 28)), (1, .int (iI a0)), (2, .int (iI a1)), (3, .int (iI a2)), (4, .int (iI a3)), (5, .int (iI a4)), (6, .int (iI x6))]) hx hb dX10_feed_75 hl (by decide) rfl (fun ls hl => ?_)
              refine lv_aload_n hx hb dX10_feed_77 rfl (lv_at hl 1 rfl) ?_
              refine g_get (C := RX10) (T := TX10) (N := 44) (ci := 9) (v := .ref (ad 33)) hx hb hts in_X10_feed_X10 hown hK hI 28 (by decide) (cel_28 cy ad _) rfl 8 (by decide) (by decide +kernel) rfl dX10_feed_78 ?_
              refine lv_aload_n hx hb dX10_feed_81 rfl (lv_at hl 1 rfl) ?_
              refine g_get (C := RX10) (T := TX10) (N := 44) (ci := 9) (v := .int (iI (σ 28 9))) hx hb hts in_X10_feed_X10 hown hK hI 28 (by decide) (cel_28 cy ad _) rfl 9 (by decide) (by decide +kernel) rfl dX10_feed_82 ?_
              have b_15 := bd_28_9 hF
              refine lv_iload hx hb dX10_feed_85 (lv_at hl 0 rfl) ?_
              refine lv_bipush (v := iI 24) hx hb dX10_feed_87 (iI_bip (by decide)) ?_
              refine lv_bipush (v := iI 8) hx hb dX10_feed_89 (iI_bip (by decide)) ?_
              refine lv_iload hx hb dX10_feed_91 (lv_at hl 7 rfl) ?_
              refine lv_iconst (v := iI 4) hx hb dX10_feed_93 rfl ?_
              refine g_irem hx hb (by omega) (by omega) dX10_feed_94 ?_
              refine g_imul hx hb dX10_feed_95 ?_
              refine g_isub hx hb dX10_feed_96 ?_
              refine g_ishr hx hb dX10_feed_97 ?_
              have b_16 := shrI_rng a3 (24 - (8 * (x6 % 4)))
              refine g_i2b hx hb dX10_feed_98 ?_
              have b_17 := b8_rng (shrI a3 (24 - (8 * (x6 % 4))))
              refine g_bast hx hb hK hI 33 (by decide) (cel_33 cy ad) (by omega) (by decide) (by omega) (bw_33 (by omega)) dX10_feed_99 (fun H locs hI => ?_)
              have hF_18 : WF (up2 σ 33 ((σ 28 9).toNat) ((shrI a3 (24 - (8 * (x6 % 4)))).bmod 256)) := hI.2.2.2
              refine lv_aload_n hx hb dX10_feed_100 rfl (lv_at hl 1 rfl) ?_
              refine lv_dup hx hb dX10_feed_101 rfl ?_
              refine g_get (C := RX10) (T := TX10) (N := 44) (ci := 9) (v := .int (iI (σ 28 9))) hx hb hts in_X10_feed_X10 hown hK hI 28 (by decide) (cel_28 cy ad _) rfl 9 (by decide) (by decide +kernel) (by show some (Value.int (iI ((up2 σ 33 ((σ 28 9).toNat) ((shrI a3 (24 - (8 * (x6 % 4)))).bmod 256)) 28 9))) = _; rw [up2_cell _ _ _ (by decide)]) dX10_feed_102 ?_
              have b_19 := bd_28_9 hF
              refine lv_iconst (v := iI 1) hx hb dX10_feed_105 rfl ?_
              refine g_iadd hx hb dX10_feed_106 ?_
              refine g_put (C := RX10) (T := TX10) (N := 44) (ci := 9) (ty := .int) (z := (σ 28 9) + 1) hx hb hts in_X10_feed_X10 tyX10 tyX10_ok nmX10 hown hK hI 28 (by decide) (cel_28 cy ad) rfl 9 (by decide) (by decide +kernel) rfl (by decide +kernel) rfl rfl (Nat.le_of_ble_eq_true rfl) rfl (bw_28_9 (by omega)) dX10_feed_107 (fun H locs hI => ?_)
              have hF_20 := hI.2.2.2
              refine lv_iinc (v := iI (x6 + 1)) (lv' := [(6, .int (iI (x6 + 1))), (7, .int (iI a3)), (0, .ref (ad 28)), (1, .int (iI a0)), (2, .int (iI a1)), (3, .int (iI a2)), (4, .int (iI a3)), (5, .int (iI a4))]) hx hb dX10_feed_110 hl (k := 7) rfl (iI_add _ _) (by decide) rfl (fun ls hl => ?_)
              refine lv_goto (tgt := 22) hx hb dX10_feed_113 (by decide) ?_
              have e9 : L_X10_feed_22 a0 a1 a2 a3 a4 (n + 1) x6 σ = L_X10_feed_22 a0 a1 a2 a3 a4 n (x6 + 1) (up2 (up2 σ 33 ((σ 28 9).toNat) ((shrI a3 (24 - (8 * (x6 % 4)))).bmod 256)) 28 9 ((σ 28 9) + 1)) := by rw [L_X10_feed_22, if_neg c_4, if_pos c_5, if_pos c_6, if_pos c_7, if_neg c_8]
              rw [e9] at hk
              exact ih (x6 + 1) (up2 (up2 σ 33 ((σ 28 9).toNat) ((shrI a3 (24 - (8 * (x6 % 4)))).bmod 256)) 28 9 ((σ 28 9) + 1)) (by omega) (by first | omega | (simp [up2_at] <;> omega)) (by omega) (by omega) _ _ _ hI (lv_sub hl [2, 3, 4, 5, 6, 7, 0] rfl) hk
          · skip
            refine lv_iload_n hx hb dX10_feed_57 rfl (lv_at hl 3 rfl) ?_
            refine lv_goto (tgt := 75) hx hb dX10_feed_58 (by decide) ?_
            refine lv_istore (lv' := [(7, .int (iI a2)), (0, .ref (ad 28)), (1, .int (iI a0)), (2, .int (iI a1)), (3, .int (iI a2)), (4, .int (iI a3)), (5, .int (iI a4)), (6, .int (iI x6))]) hx hb dX10_feed_75 hl (by decide) rfl (fun ls hl => ?_)
            refine lv_aload_n hx hb dX10_feed_77 rfl (lv_at hl 1 rfl) ?_
            refine g_get (C := RX10) (T := TX10) (N := 44) (ci := 9) (v := .ref (ad 33)) hx hb hts in_X10_feed_X10 hown hK hI 28 (by decide) (cel_28 cy ad _) rfl 8 (by decide) (by decide +kernel) rfl dX10_feed_78 ?_
            refine lv_aload_n hx hb dX10_feed_81 rfl (lv_at hl 1 rfl) ?_
            refine g_get (C := RX10) (T := TX10) (N := 44) (ci := 9) (v := .int (iI (σ 28 9))) hx hb hts in_X10_feed_X10 hown hK hI 28 (by decide) (cel_28 cy ad _) rfl 9 (by decide) (by decide +kernel) rfl dX10_feed_82 ?_
            have b_21 := bd_28_9 hF
            refine lv_iload hx hb dX10_feed_85 (lv_at hl 0 rfl) ?_
            refine lv_bipush (v := iI 24) hx hb dX10_feed_87 (iI_bip (by decide)) ?_
            refine lv_bipush (v := iI 8) hx hb dX10_feed_89 (iI_bip (by decide)) ?_
            refine lv_iload hx hb dX10_feed_91 (lv_at hl 7 rfl) ?_
            refine lv_iconst (v := iI 4) hx hb dX10_feed_93 rfl ?_
            refine g_irem hx hb (by omega) (by omega) dX10_feed_94 ?_
            refine g_imul hx hb dX10_feed_95 ?_
            refine g_isub hx hb dX10_feed_96 ?_
            refine g_ishr hx hb dX10_feed_97 ?_
            have b_22 := shrI_rng a2 (24 - (8 * (x6 % 4)))
            refine g_i2b hx hb dX10_feed_98 ?_
            have b_23 := b8_rng (shrI a2 (24 - (8 * (x6 % 4))))
            refine g_bast hx hb hK hI 33 (by decide) (cel_33 cy ad) (by omega) (by decide) (by omega) (bw_33 (by omega)) dX10_feed_99 (fun H locs hI => ?_)
            have hF_24 : WF (up2 σ 33 ((σ 28 9).toNat) ((shrI a2 (24 - (8 * (x6 % 4)))).bmod 256)) := hI.2.2.2
            refine lv_aload_n hx hb dX10_feed_100 rfl (lv_at hl 1 rfl) ?_
            refine lv_dup hx hb dX10_feed_101 rfl ?_
            refine g_get (C := RX10) (T := TX10) (N := 44) (ci := 9) (v := .int (iI (σ 28 9))) hx hb hts in_X10_feed_X10 hown hK hI 28 (by decide) (cel_28 cy ad _) rfl 9 (by decide) (by decide +kernel) (by show some (Value.int (iI ((up2 σ 33 ((σ 28 9).toNat) ((shrI a2 (24 - (8 * (x6 % 4)))).bmod 256)) 28 9))) = _; rw [up2_cell _ _ _ (by decide)]) dX10_feed_102 ?_
            have b_25 := bd_28_9 hF
            refine lv_iconst (v := iI 1) hx hb dX10_feed_105 rfl ?_
            refine g_iadd hx hb dX10_feed_106 ?_
            refine g_put (C := RX10) (T := TX10) (N := 44) (ci := 9) (ty := .int) (z := (σ 28 9) + 1) hx hb hts in_X10_feed_X10 tyX10 tyX10_ok nmX10 hown hK hI 28 (by decide) (cel_28 cy ad) rfl 9 (by decide) (by decide +kernel) rfl (by decide +kernel) rfl rfl (Nat.le_of_ble_eq_true rfl) rfl (bw_28_9 (by omega)) dX10_feed_107 (fun H locs hI => ?_)
            have hF_26 := hI.2.2.2
            refine lv_iinc (v := iI (x6 + 1)) (lv' := [(6, .int (iI (x6 + 1))), (7, .int (iI a2)), (0, .ref (ad 28)), (1, .int (iI a0)), (2, .int (iI a1)), (3, .int (iI a2)), (4, .int (iI a3)), (5, .int (iI a4))]) hx hb dX10_feed_110 hl (k := 7) rfl (iI_add _ _) (by decide) rfl (fun ls hl => ?_)
            refine lv_goto (tgt := 22) hx hb dX10_feed_113 (by decide) ?_
            have e9 : L_X10_feed_22 a0 a1 a2 a3 a4 (n + 1) x6 σ = L_X10_feed_22 a0 a1 a2 a3 a4 n (x6 + 1) (up2 (up2 σ 33 ((σ 28 9).toNat) ((shrI a2 (24 - (8 * (x6 % 4)))).bmod 256)) 28 9 ((σ 28 9) + 1)) := by rw [L_X10_feed_22, if_neg c_4, if_pos c_5, if_pos c_6, if_neg c_7]
            rw [e9] at hk
            exact ih (x6 + 1) (up2 (up2 σ 33 ((σ 28 9).toNat) ((shrI a2 (24 - (8 * (x6 % 4)))).bmod 256)) 28 9 ((σ 28 9) + 1)) (by omega) (by first | omega | (simp [up2_at] <;> omega)) (by omega) (by omega) _ _ _ hI (lv_sub hl [2, 3, 4, 5, 6, 7, 0] rfl) hk
        · skip
          refine lv_iload_n hx hb dX10_feed_46 rfl (lv_at hl 2 rfl) ?_
          refine lv_goto (tgt := 75) hx hb dX10_feed_47 (by decide) ?_
          refine lv_istore (lv' := [(7, .int (iI a1)), (0, .ref (ad 28)), (1, .int (iI a0)), (2, .int (iI a1)), (3, .int (iI a2)), (4, .int (iI a3)), (5, .int (iI a4)), (6, .int (iI x6))]) hx hb dX10_feed_75 hl (by decide) rfl (fun ls hl => ?_)
          refine lv_aload_n hx hb dX10_feed_77 rfl (lv_at hl 1 rfl) ?_
          refine g_get (C := RX10) (T := TX10) (N := 44) (ci := 9) (v := .ref (ad 33)) hx hb hts in_X10_feed_X10 hown hK hI 28 (by decide) (cel_28 cy ad _) rfl 8 (by decide) (by decide +kernel) rfl dX10_feed_78 ?_
          refine lv_aload_n hx hb dX10_feed_81 rfl (lv_at hl 1 rfl) ?_
          refine g_get (C := RX10) (T := TX10) (N := 44) (ci := 9) (v := .int (iI (σ 28 9))) hx hb hts in_X10_feed_X10 hown hK hI 28 (by decide) (cel_28 cy ad _) rfl 9 (by decide) (by decide +kernel) rfl dX10_feed_82 ?_
          have b_27 := bd_28_9 hF
          refine lv_iload hx hb dX10_feed_85 (lv_at hl 0 rfl) ?_
          refine lv_bipush (v := iI 24) hx hb dX10_feed_87 (iI_bip (by decide)) ?_
          refine lv_bipush (v := iI 8) hx hb dX10_feed_89 (iI_bip (by decide)) ?_
          refine lv_iload hx hb dX10_feed_91 (lv_at hl 7 rfl) ?_
          refine lv_iconst (v := iI 4) hx hb dX10_feed_93 rfl ?_
          refine g_irem hx hb (by omega) (by omega) dX10_feed_94 ?_
          refine g_imul hx hb dX10_feed_95 ?_
          refine g_isub hx hb dX10_feed_96 ?_
          refine g_ishr hx hb dX10_feed_97 ?_
          have b_28 := shrI_rng a1 (24 - (8 * (x6 % 4)))
          refine g_i2b hx hb dX10_feed_98 ?_
          have b_29 := b8_rng (shrI a1 (24 - (8 * (x6 % 4))))
          refine g_bast hx hb hK hI 33 (by decide) (cel_33 cy ad) (by omega) (by decide) (by omega) (bw_33 (by omega)) dX10_feed_99 (fun H locs hI => ?_)
          have hF_30 : WF (up2 σ 33 ((σ 28 9).toNat) ((shrI a1 (24 - (8 * (x6 % 4)))).bmod 256)) := hI.2.2.2
          refine lv_aload_n hx hb dX10_feed_100 rfl (lv_at hl 1 rfl) ?_
          refine lv_dup hx hb dX10_feed_101 rfl ?_
          refine g_get (C := RX10) (T := TX10) (N := 44) (ci := 9) (v := .int (iI (σ 28 9))) hx hb hts in_X10_feed_X10 hown hK hI 28 (by decide) (cel_28 cy ad _) rfl 9 (by decide) (by decide +kernel) (by show some (Value.int (iI ((up2 σ 33 ((σ 28 9).toNat) ((shrI a1 (24 - (8 * (x6 % 4)))).bmod 256)) 28 9))) = _; rw [up2_cell _ _ _ (by decide)]) dX10_feed_102 ?_
          have b_31 := bd_28_9 hF
          refine lv_iconst (v := iI 1) hx hb dX10_feed_105 rfl ?_
          refine g_iadd hx hb dX10_feed_106 ?_
          refine g_put (C := RX10) (T := TX10) (N := 44) (ci := 9) (ty := .int) (z := (σ 28 9) + 1) hx hb hts in_X10_feed_X10 tyX10 tyX10_ok nmX10 hown hK hI 28 (by decide) (cel_28 cy ad) rfl 9 (by decide) (by decide +kernel) rfl (by decide +kernel) rfl rfl (Nat.le_of_ble_eq_true rfl) rfl (bw_28_9 (by omega)) dX10_feed_107 (fun H locs hI => ?_)
          have hF_32 := hI.2.2.2
          refine lv_iinc (v := iI (x6 + 1)) (lv' := [(6, .int (iI (x6 + 1))), (7, .int (iI a1)), (0, .ref (ad 28)), (1, .int (iI a0)), (2, .int (iI a1)), (3, .int (iI a2)), (4, .int (iI a3)), (5, .int (iI a4))]) hx hb dX10_feed_110 hl (k := 7) rfl (iI_add _ _) (by decide) rfl (fun ls hl => ?_)
          refine lv_goto (tgt := 22) hx hb dX10_feed_113 (by decide) ?_
          have e9 : L_X10_feed_22 a0 a1 a2 a3 a4 (n + 1) x6 σ = L_X10_feed_22 a0 a1 a2 a3 a4 n (x6 + 1) (up2 (up2 σ 33 ((σ 28 9).toNat) ((shrI a1 (24 - (8 * (x6 % 4)))).bmod 256)) 28 9 ((σ 28 9) + 1)) := by rw [L_X10_feed_22, if_neg c_4, if_pos c_5, if_neg c_6]
          rw [e9] at hk
          exact ih (x6 + 1) (up2 (up2 σ 33 ((σ 28 9).toNat) ((shrI a1 (24 - (8 * (x6 % 4)))).bmod 256)) 28 9 ((σ 28 9) + 1)) (by omega) (by first | omega | (simp [up2_at] <;> omega)) (by omega) (by omega) _ _ _ hI (lv_sub hl [2, 3, 4, 5, 6, 7, 0] rfl) hk
      · skip
        refine lv_iload_n hx hb dX10_feed_35 rfl (lv_at hl 1 rfl) ?_
        refine lv_goto (tgt := 75) hx hb dX10_feed_36 (by decide) ?_
        refine lv_istore (lv' := [(7, .int (iI a0)), (0, .ref (ad 28)), (1, .int (iI a0)), (2, .int (iI a1)), (3, .int (iI a2)), (4, .int (iI a3)), (5, .int (iI a4)), (6, .int (iI x6))]) hx hb dX10_feed_75 hl (by decide) rfl (fun ls hl => ?_)
        refine lv_aload_n hx hb dX10_feed_77 rfl (lv_at hl 1 rfl) ?_
        refine g_get (C := RX10) (T := TX10) (N := 44) (ci := 9) (v := .ref (ad 33)) hx hb hts in_X10_feed_X10 hown hK hI 28 (by decide) (cel_28 cy ad _) rfl 8 (by decide) (by decide +kernel) rfl dX10_feed_78 ?_
        refine lv_aload_n hx hb dX10_feed_81 rfl (lv_at hl 1 rfl) ?_
        refine g_get (C := RX10) (T := TX10) (N := 44) (ci := 9) (v := .int (iI (σ 28 9))) hx hb hts in_X10_feed_X10 hown hK hI 28 (by decide) (cel_28 cy ad _) rfl 9 (by decide) (by decide +kernel) rfl dX10_feed_82 ?_
        have b_33 := bd_28_9 hF
        refine lv_iload hx hb dX10_feed_85 (lv_at hl 0 rfl) ?_
        refine lv_bipush (v := iI 24) hx hb dX10_feed_87 (iI_bip (by decide)) ?_
        refine lv_bipush (v := iI 8) hx hb dX10_feed_89 (iI_bip (by decide)) ?_
        refine lv_iload hx hb dX10_feed_91 (lv_at hl 7 rfl) ?_
        refine lv_iconst (v := iI 4) hx hb dX10_feed_93 rfl ?_
        refine g_irem hx hb (by omega) (by omega) dX10_feed_94 ?_
        refine g_imul hx hb dX10_feed_95 ?_
        refine g_isub hx hb dX10_feed_96 ?_
        refine g_ishr hx hb dX10_feed_97 ?_
        have b_34 := shrI_rng a0 (24 - (8 * (x6 % 4)))
        refine g_i2b hx hb dX10_feed_98 ?_
        have b_35 := b8_rng (shrI a0 (24 - (8 * (x6 % 4))))
        refine g_bast hx hb hK hI 33 (by decide) (cel_33 cy ad) (by omega) (by decide) (by omega) (bw_33 (by omega)) dX10_feed_99 (fun H locs hI => ?_)
        have hF_36 : WF (up2 σ 33 ((σ 28 9).toNat) ((shrI a0 (24 - (8 * (x6 % 4)))).bmod 256)) := hI.2.2.2
        refine lv_aload_n hx hb dX10_feed_100 rfl (lv_at hl 1 rfl) ?_
        refine lv_dup hx hb dX10_feed_101 rfl ?_
        refine g_get (C := RX10) (T := TX10) (N := 44) (ci := 9) (v := .int (iI (σ 28 9))) hx hb hts in_X10_feed_X10 hown hK hI 28 (by decide) (cel_28 cy ad _) rfl 9 (by decide) (by decide +kernel) (by show some (Value.int (iI ((up2 σ 33 ((σ 28 9).toNat) ((shrI a0 (24 - (8 * (x6 % 4)))).bmod 256)) 28 9))) = _; rw [up2_cell _ _ _ (by decide)]) dX10_feed_102 ?_
        have b_37 := bd_28_9 hF
        refine lv_iconst (v := iI 1) hx hb dX10_feed_105 rfl ?_
        refine g_iadd hx hb dX10_feed_106 ?_
        refine g_put (C := RX10) (T := TX10) (N := 44) (ci := 9) (ty := .int) (z := (σ 28 9) + 1) hx hb hts in_X10_feed_X10 tyX10 tyX10_ok nmX10 hown hK hI 28 (by decide) (cel_28 cy ad) rfl 9 (by decide) (by decide +kernel) rfl (by decide +kernel) rfl rfl (Nat.le_of_ble_eq_true rfl) rfl (bw_28_9 (by omega)) dX10_feed_107 (fun H locs hI => ?_)
        have hF_38 := hI.2.2.2
        refine lv_iinc (v := iI (x6 + 1)) (lv' := [(6, .int (iI (x6 + 1))), (7, .int (iI a0)), (0, .ref (ad 28)), (1, .int (iI a0)), (2, .int (iI a1)), (3, .int (iI a2)), (4, .int (iI a3)), (5, .int (iI a4))]) hx hb dX10_feed_110 hl (k := 7) rfl (iI_add _ _) (by decide) rfl (fun ls hl => ?_)
        refine lv_goto (tgt := 22) hx hb dX10_feed_113 (by decide) ?_
        have e9 : L_X10_feed_22 a0 a1 a2 a3 a4 (n + 1) x6 σ = L_X10_feed_22 a0 a1 a2 a3 a4 n (x6 + 1) (up2 (up2 σ 33 ((σ 28 9).toNat) ((shrI a0 (24 - (8 * (x6 % 4)))).bmod 256)) 28 9 ((σ 28 9) + 1)) := by rw [L_X10_feed_22, if_neg c_4, if_neg c_5]
        rw [e9] at hk
        exact ih (x6 + 1) (up2 (up2 σ 33 ((σ 28 9).toNat) ((shrI a0 (24 - (8 * (x6 % 4)))).bmod 256)) 28 9 ((σ 28 9) + 1)) (by omega) (by first | omega | (simp [up2_at] <;> omega)) (by omega) (by omega) _ _ _ hI (lv_sub hl [2, 3, 4, 5, 6, 7, 0] rfl) hk
def f_X10_feed (σ : Sg) (a0 : Int) (a1 : Int) (a2 : Int) (a3 : Int) (a4 : Int) : Int × Sg := (if ((σ 28 9) + 20) ≤ 80 then ((L_X10_feed_22 a0 a1 a2 a3 a4 21 0 (up2 σ 28 0 0)) 28 9, (L_X10_feed_22 a0 a1 a2 a3 a4 21 0 (up2 σ 28 0 0))) else ((-1), (up2 σ 28 0 0)))
theorem hd_X10_feed : yX10_feed.cls = RX10 ∧ yX10_feed.cls ≠ "java/lang/invoke/MethodHandle" ∧ yX10_feed.cls ≠ "java/lang/invoke/VarHandle" ∧ (parseMethodDescriptor yX10_feed.desc).map (fun d => d.parameters.length) = some 5 := by decide +kernel
set_option maxHeartbeats 4000000 in
set_option maxRecDepth 100000 in
theorem c_X10_feed (l : Launch) (D : va_G) (cy : Nat → ClassId) (ad : Nat → Nat) (σ : Sg) (a0 : Int) (ha0 : (-2147483648 ≤ a0 ∧ a0 < 2147483648)) (a1 : Int) (ha1 : (-2147483648 ≤ a1 ∧ a1 < 2147483648)) (a2 : Int) (ha2 : (-2147483648 ≤ a2 ∧ a2 < 2147483648)) (a3 : Int) (ha3 : (-2147483648 ≤ a3 ∧ a3 < 2147483648)) (a4 : Int) (ha4 : (-2147483648 ≤ a4 ∧ a4 < 2147483648)) : CM l D cy ad yX10_feed wsX10_feed { frames := 0, cells := 0, slots := 0, locals := 0 } [.ref (ad 28), .int (iI a0), .int (iI a1), .int (iI a2), .int (iI a3), .int (iI a4)] σ (some (.int (iI ((f_X10_feed σ a0 a1 a2 a3 a4).1)))) ((f_X10_feed σ a0 a1 a2 a3 a4).2) (True) := by
  refine CM.of (cc := cX10_feed) (maxL := 8) (ret := (some .int)) (by decide) rfl (Nat.le_of_ble_eq_true rfl) ?_
  intro p e s m args below meth c₀ ls X hI hl
  have hl : lv_has ls 8 [(0, .ref (ad 28)), (1, .int (iI a0)), (2, .int (iI a1)), (3, .int (iI a2)), (4, .int (iI a3)), (5, .int (iI a4))] := hl
  obtain ⟨hx, hb, hr, hml, hown, hts, hlocks, hK, hN⟩ := id X
  have hF := hI.2.2.2
  refine lv_aload_n hx hb dX10_feed_0 rfl (lv_at hl 0 rfl) ?_
  refine lv_iconst (v := iI 0) hx hb dX10_feed_1 rfl ?_
  refine g_put (C := RX10) (T := TX10) (N := 44) (ci := 9) (ty := .int) (z := 0) hx hb hts in_X10_feed_X10 tyX10 tyX10_ok nmX10 hown hK hI 28 (by decide) (cel_28 cy ad) rfl 0 (by decide) (by decide +kernel) rfl (by decide +kernel) rfl rfl (Nat.le_of_ble_eq_true rfl) rfl (bw_28_0 (by omega)) dX10_feed_2 (fun H locs hI => ?_)
  have hF_1 := hI.2.2.2
  refine lv_aload_n hx hb dX10_feed_5 rfl (lv_at hl 0 rfl) ?_
  refine g_get (C := RX10) (T := TX10) (N := 44) (ci := 9) (v := .int (iI (σ 28 9))) hx hb hts in_X10_feed_X10 hown hK hI 28 (by decide) (cel_28 cy ad _) rfl 9 (by decide) (by decide +kernel) (by show some (Value.int (iI ((up2 σ 28 0 0) 28 9))) = _; rw [up2_slot _ _ (by decide)]) dX10_feed_6 ?_
  have b_2 := bd_28_9 hF
  refine lv_bipush (v := iI 20) hx hb dX10_feed_9 (iI_bip (by decide)) ?_
  refine g_iadd hx hb dX10_feed_11 ?_
  refine lv_bipush (v := iI 80) hx hb dX10_feed_12 (iI_bip (by decide)) ?_
  refine g_icmp_le (tgt := 19) hx hb dX10_feed_14 (by decide) (by omega) (by omega) (fun c_3 => ?_) (fun c_3 => ?_)
  · skip
    refine lv_iconst (v := iI 0) hx hb dX10_feed_19 rfl ?_
    refine lv_istore (lv' := [(6, .int (iI 0)), (0, .ref (ad 28)), (1, .int (iI a0)), (2, .int (iI a1)), (3, .int (iI a2)), (4, .int (iI a3)), (5, .int (iI a4))]) hx hb dX10_feed_20 hl (by decide) rfl (fun ls hl => ?_)
    refine w_L_X10_feed_22 X  a0 ha0 a1 ha1 a2 ha2 a3 ha3 a4 ha4  (σ 28 9) 21 0 (up2 σ 28 0 0) (by omega) (by first | omega | (simp [up2_at] <;> omega)) (by omega) (by omega) _ _ _ hI (lv_sub hl [1, 2, 3, 4, 5, 6, 0] rfl) (fun H locs ls hpo_40 hI hl => ?_)
    have hF_39 := hI.2.2.2
    refine lv_aload_n hx hb dX10_feed_116 rfl (lv_at hl 0 rfl) ?_
    refine g_get (C := RX10) (T := TX10) (N := 44) (ci := 9) (v := .int (iI ((L_X10_feed_22 a0 a1 a2 a3 a4 21 0 (up2 σ 28 0 0)) 28 9))) hx hb hts in_X10_feed_X10 hown hK hI 28 (by decide) (cel_28 cy ad _) rfl 9 (by decide) (by decide +kernel) rfl dX10_feed_117 ?_
    have b_41 := bd_28_9 hF_39
    have e9 : f_X10_feed σ a0 a1 a2 a3 a4 = ((L_X10_feed_22 a0 a1 a2 a3 a4 21 0 (up2 σ 28 0 0)) 28 9, (L_X10_feed_22 a0 a1 a2 a3 a4 21 0 (up2 σ 28 0 0))) := by rw [f_X10_feed, if_pos c_3]
    exact g_iret (z := (L_X10_feed_22 a0 a1 a2 a3 a4 21 0 (up2 σ 28 0 0)) 28 9) hx hb hr hK hN hlocks hI (by rw [e9]) (by rw [e9]) trivial dX10_feed_120
  · skip
    refine lv_iconst (v := iI (-1)) hx hb dX10_feed_17 rfl ?_
    have e9 : f_X10_feed σ a0 a1 a2 a3 a4 = ((-1), (up2 σ 28 0 0)) := by rw [f_X10_feed, if_neg c_3]
    exact g_iret (z := (-1)) hx hb hr hK hN hlocks hI (by rw [e9]) (by rw [e9]) trivial dX10_feed_18
theorem in_X10_end_X10 : ∀ w ∈ u_ws RX10 TX10 44, w ∈ wsX10_end := by decide +kernel
def f_X10_end (σ : Sg) (a0 : Int) : Int × Sg := (if a0 < 0 then ((-1), (up2 σ 28 0 0)) else (if a0 ≤ (σ 28 9) then (a0, (up2 (up2 σ 28 0 0) 28 9 a0)) else ((-1), (up2 σ 28 0 0))))
theorem hd_X10_end : yX10_end.cls = RX10 ∧ yX10_end.cls ≠ "java/lang/invoke/MethodHandle" ∧ yX10_end.cls ≠ "java/lang/invoke/VarHandle" ∧ (parseMethodDescriptor yX10_end.desc).map (fun d => d.parameters.length) = some 1 := by decide +kernel
set_option maxHeartbeats 4000000 in
set_option maxRecDepth 100000 in
theorem c_X10_end (l : Launch) (D : va_G) (cy : Nat → ClassId) (ad : Nat → Nat) (σ : Sg) (a0 : Int) (ha0 : (-2147483648 ≤ a0 ∧ a0 < 2147483648)) : CM l D cy ad yX10_end wsX10_end { frames := 0, cells := 0, slots := 0, locals := 0 } [.ref (ad 28), .int (iI a0)] σ (some (.int (iI ((f_X10_end σ a0).1)))) ((f_X10_end σ a0).2) (True) := by
  refine CM.of (cc := cX10_end) (maxL := 2) (ret := (some .int)) (by decide) rfl (Nat.le_of_ble_eq_true rfl) ?_
  intro p e s m args below meth c₀ ls X hI hl
  have hl : lv_has ls 2 [(0, .ref (ad 28)), (1, .int (iI a0))] := hl
  obtain ⟨hx, hb, hr, hml, hown, hts, hlocks, hK, hN⟩ := id X
  have hF := hI.2.2.2
  refine lv_aload_n hx hb dX10_end_0 rfl (lv_at hl 0 rfl) ?_
  refine lv_iconst (v := iI 0) hx hb dX10_end_1 rfl ?_
  refine g_put (C := RX10) (T := TX10) (N := 44) (ci := 9) (ty := .int) (z := 0) hx hb hts in_X10_end_X10 tyX10 tyX10_ok nmX10 hown hK hI 28 (by decide) (cel_28 cy ad) rfl 0 (by decide) (by decide +kernel) rfl (by decide +kernel) rfl rfl (Nat.le_of_ble_eq_true rfl) rfl (bw_28_0 (by omega)) dX10_end_2 (fun H locs hI => ?_)
  have hF_1 := hI.2.2.2
  refine lv_iload_n hx hb dX10_end_5 rfl (lv_at hl 1 rfl) ?_
  refine g_if_lt (tgt := 17) hx hb dX10_end_6 (by decide) (by omega) (fun c_2 => ?_) (fun c_2 => ?_)
  · skip
    refine lv_iconst (v := iI (-1)) hx hb dX10_end_17 rfl ?_
    have e9 : f_X10_end σ a0 = ((-1), (up2 σ 28 0 0)) := by rw [f_X10_end, if_pos c_2]
    exact g_iret (z := (-1)) hx hb hr hK hN hlocks hI (by rw [e9]) (by rw [e9]) trivial dX10_end_18
  · skip
    refine lv_iload_n hx hb dX10_end_9 rfl (lv_at hl 1 rfl) ?_
    refine lv_aload_n hx hb dX10_end_10 rfl (lv_at hl 0 rfl) ?_
    refine g_get (C := RX10) (T := TX10) (N := 44) (ci := 9) (v := .int (iI (σ 28 9))) hx hb hts in_X10_end_X10 hown hK hI 28 (by decide) (cel_28 cy ad _) rfl 9 (by decide) (by decide +kernel) (by show some (Value.int (iI ((up2 σ 28 0 0) 28 9))) = _; rw [up2_slot _ _ (by decide)]) dX10_end_11 ?_
    have b_3 := bd_28_9 hF
    refine g_icmp_le (tgt := 19) hx hb dX10_end_14 (by decide) (by omega) (by omega) (fun c_4 => ?_) (fun c_4 => ?_)
    · skip
      refine lv_aload_n hx hb dX10_end_19 rfl (lv_at hl 0 rfl) ?_
      refine lv_iload_n hx hb dX10_end_20 rfl (lv_at hl 1 rfl) ?_
      refine g_put (C := RX10) (T := TX10) (N := 44) (ci := 9) (ty := .int) (z := a0) hx hb hts in_X10_end_X10 tyX10 tyX10_ok nmX10 hown hK hI 28 (by decide) (cel_28 cy ad) rfl 9 (by decide) (by decide +kernel) rfl (by decide +kernel) rfl rfl (Nat.le_of_ble_eq_true rfl) rfl (bw_28_9 (by omega)) dX10_end_21 (fun H locs hI => ?_)
      have hF_5 := hI.2.2.2
      refine lv_iload_n hx hb dX10_end_24 rfl (lv_at hl 1 rfl) ?_
      have e9 : f_X10_end σ a0 = (a0, (up2 (up2 σ 28 0 0) 28 9 a0)) := by rw [f_X10_end, if_neg c_2, if_pos c_4]
      exact g_iret (z := a0) hx hb hr hK hN hlocks hI (by rw [e9]) (by rw [e9]) trivial dX10_end_25
    · skip
      refine lv_iconst (v := iI (-1)) hx hb dX10_end_17 rfl ?_
      have e9 : f_X10_end σ a0 = ((-1), (up2 σ 28 0 0)) := by rw [f_X10_end, if_neg c_2, if_neg c_4]
      exact g_iret (z := (-1)) hx hb hr hK hN hlocks hI (by rw [e9]) (by rw [e9]) trivial dX10_end_18
theorem in_X10_takes_X10 : ∀ w ∈ u_ws RX10 TX10 44, w ∈ wsX10_takes := by decide +kernel
def L_X10_takes_30 (σ : Sg) (a0 : Int) : Nat → Int → Int → Int
  | 0, x2, x3 => (x2)
  | n + 1, x2, x3 => (if (σ 28 9) ≤ x3 then x2 else (if x2 = 0 then L_X10_takes_30 σ a0 n 0 (x3 + 1) else (if (f_X10_isNameByte (σ 33 x3.toNat)) = 0 then L_X10_takes_30 σ a0 n 0 (x3 + 1) else L_X10_takes_30 σ a0 n 1 (x3 + 1))))
set_option maxHeartbeats 4000000 in
set_option maxRecDepth 100000 in
theorem w_L_X10_takes_30 {p : Program} {l : Launch} {e : Env} {s : State} {m : MethodId} {args : Array Value} {below : List Frame} {meth : Method} {c₀ : Code} {D : va_G} {cy : Nat → ClassId} {ad : Nat → Nat} {Q : State → Prop} (X : MX p s m args meth c₀ cX10_takes 4 RX10 (some .boolean) wsX10_takes D cy) (σ : Sg) (a0 : Int) (ha0 : (-2147483648 ≤ a0 ∧ a0 < 2147483648)) : ∀ (n : Nat) (x2 : Int) (x3 : Int) (hx2 : (0 : Int) ≤ x2 ∧ x2 ≤ 1) (hx3 : (0 : Int) ≤ x3 ∧ x3 ≤ 80) (hp0 : (x2 = 0 ∨ σ 28 9 ≤ 12)) (hmu : 80 - x3 < (n : Int)) (H : Heap) (locs : List Loc) (ls : Array Slot) (hI : HI D cy ad s σ H locs) (hl : lv_has ls 4 [(0, .ref (ad 28)), (1, .int (iI a0)), (2, .int (iI x2)), (3, .int (iI x3))])  (hk : ∀ (H1 : Heap) (locs1 : List Loc) (ls1 : Array Slot), ((0 ≤ (L_X10_takes_30 σ a0 n x2 x3) ∧ (L_X10_takes_30 σ a0 n x2 x3) ≤ 1) ∧ ((L_X10_takes_30 σ a0 n x2 x3) = 0 ∨ σ 28 9 ≤ 12)) → HI D cy ad s σ H1 locs1 → lv_has ls1 4 [(0, .ref (ad 28)), (1, .int (iI a0)), (2, .int (iI (L_X10_takes_30 σ a0 n x2 x3)))] → W p l e { frames := 2, cells := 0, slots := 0, locals := 80 } s m args below meth c₀ H1 locs1 0 0 Q (F0 m 66 ls1 [])), W p l e { frames := 2, cells := 0, slots := 0, locals := 80 } s m args below meth c₀ H locs 0 0 Q (F0 m 30 ls []) := by
  obtain ⟨hx, hb, hr, hml, hown, hts, hlocks, hK, hN⟩ := id X
  intro n
  induction n with
  | zero =>
    intro x2 x3 hx2 hx3 hp0 hmu H locs ls hI hl hk
    exfalso
    have hF := hI.2.2.2
    omega
  | succ n ih =>
    intro x2 x3 hx2 hx3 hp0 hmu H locs ls hI hl hk
    have hF := hI.2.2.2
    refine lv_iload_n hx hb dX10_takes_30 rfl (lv_at hl 3 rfl) ?_
    refine lv_aload_n hx hb dX10_takes_31 rfl (lv_at hl 0 rfl) ?_
    refine g_get (C := RX10) (T := TX10) (N := 44) (ci := 9) (v := .int (iI (σ 28 9))) hx hb hts in_X10_takes_X10 hown hK hI 28 (by decide) (cel_28 cy ad _) rfl 9 (by decide) (by decide +kernel) rfl dX10_takes_32 ?_
    have b_3 := bd_28_9 hF
    refine g_icmp_ge (tgt := 66) hx hb dX10_takes_35 (by decide) (by omega) (by omega) (fun c_4 => ?_) (fun c_4 => ?_)
    · skip
      have e9 : L_X10_takes_30 σ a0 (n + 1) x2 x3 = x2 := by rw [L_X10_takes_30, if_pos c_4]
      rw [e9] at hk
      exact hk _ _ _ (by first | (omega) | (dsimp only; omega)) hI (lv_sub hl [0, 1, 2] rfl)
    · skip
      refine lv_iload_n hx hb dX10_takes_38 rfl (lv_at hl 2 rfl) ?_
      refine g_if_eq (tgt := 58) hx hb dX10_takes_39 (by decide) (by omega) (fun c_5 => ?_) (fun c_5 => ?_)
      · skip
        refine lv_iconst (v := iI 0) hx hb dX10_takes_58 rfl ?_
        refine lv_istore_n (lv' := [(2, .int (iI 0)), (0, .ref (ad 28)), (1, .int (iI a0)), (3, .int (iI x3))]) hx hb dX10_takes_59 rfl hl (by decide) rfl (fun ls hl => ?_)
        refine lv_iinc (v := iI (x3 + 1)) (lv' := [(3, .int (iI (x3 + 1))), (2, .int (iI 0)), (0, .ref (ad 28)), (1, .int (iI a0))]) hx hb dX10_takes_60 hl (k := 3) rfl (iI_add _ _) (by decide) rfl (fun ls hl => ?_)
        refine lv_goto (tgt := 30) hx hb dX10_takes_63 (by decide) ?_
        have e9 : L_X10_takes_30 σ a0 (n + 1) x2 x3 = L_X10_takes_30 σ a0 n 0 (x3 + 1) := by rw [L_X10_takes_30, if_neg c_4, if_pos c_5]
        rw [e9] at hk
        exact ih 0 (x3 + 1)  (by omega) (by omega) (by omega) (by omega) _ _ _ hI (lv_sub hl [2, 3, 1, 0] rfl) hk
      · skip
        refine lv_aload_n hx hb dX10_takes_42 rfl (lv_at hl 0 rfl) ?_
        refine g_get (C := RX10) (T := TX10) (N := 44) (ci := 9) (v := .ref (ad 33)) hx hb hts in_X10_takes_X10 hown hK hI 28 (by decide) (cel_28 cy ad _) rfl 8 (by decide) (by decide +kernel) rfl dX10_takes_43 ?_
        refine lv_iload_n hx hb dX10_takes_46 rfl (lv_at hl 3 rfl) ?_
        refine g_bald (v := σ 33 x3.toNat) hx hb hK hI 33 (by decide) (cel_33 cy ad) (by omega) (by decide) rfl dX10_takes_47 ?_
        have b_6 := bd_33 hF x3.toNat
        refine g_S (As := [.int (iI (σ 33 x3.toNat))]) (rest := []) (c_X10_isNameByte l D cy ad σ (σ 33 x3.toNat) (by omega)) hx hb hml hown hts hK hN hI hl.1 gX10_takes_X10_isNameByte rfl hd_X10_isNameByte rfl rfl ⟨Nat.le_of_ble_eq_true rfl, Nat.le_of_ble_eq_true rfl⟩ ⟨Nat.zero_le _, Nat.zero_le _⟩ rfl rfl (Nat.le_of_ble_eq_true rfl) dX10_takes_48 (fun H locs hG_7 hI => ?_)
        refine g_if_eq (tgt := 58) hx hb dX10_takes_51 (by decide) (by omega) (fun c_8 => ?_) (fun c_8 => ?_)
        · skip
          refine lv_iconst (v := iI 0) hx hb dX10_takes_58 rfl ?_
          refine lv_istore_n (lv' := [(2, .int (iI 0)), (0, .ref (ad 28)), (1, .int (iI a0)), (3, .int (iI x3))]) hx hb dX10_takes_59 rfl hl (by decide) rfl (fun ls hl => ?_)
          refine lv_iinc (v := iI (x3 + 1)) (lv' := [(3, .int (iI (x3 + 1))), (2, .int (iI 0)), (0, .ref (ad 28)), (1, .int (iI a0))]) hx hb dX10_takes_60 hl (k := 3) rfl (iI_add _ _) (by decide) rfl (fun ls hl => ?_)
          refine lv_goto (tgt := 30) hx hb dX10_takes_63 (by decide) ?_
          have e9 : L_X10_takes_30 σ a0 (n + 1) x2 x3 = L_X10_takes_30 σ a0 n 0 (x3 + 1) := by rw [L_X10_takes_30, if_neg c_4, if_neg c_5, if_pos c_8]
          rw [e9] at hk
          exact ih 0 (x3 + 1)  (by omega) (by omega) (by omega) (by omega) _ _ _ hI (lv_sub hl [2, 3, 1, 0] rfl) hk
        · skip
          refine lv_iconst (v := iI 1) hx hb dX10_takes_54 rfl ?_
          refine lv_goto (tgt := 59) hx hb dX10_takes_55 (by decide) ?_
          refine lv_istore_n (lv' := [(2, .int (iI 1)), (0, .ref (ad 28)), (1, .int (iI a0)), (3, .int (iI x3))]) hx hb dX10_takes_59 rfl hl (by decide) rfl (fun ls hl => ?_)
          refine lv_iinc (v := iI (x3 + 1)) (lv' := [(3, .int (iI (x3 + 1))), (2, .int (iI 1)), (0, .ref (ad 28)), (1, .int (iI a0))]) hx hb dX10_takes_60 hl (k := 3) rfl (iI_add _ _) (by decide) rfl (fun ls hl => ?_)
          refine lv_goto (tgt := 30) hx hb dX10_takes_63 (by decide) ?_
          have e9 : L_X10_takes_30 σ a0 (n + 1) x2 x3 = L_X10_takes_30 σ a0 n 1 (x3 + 1) := by rw [L_X10_takes_30, if_neg c_4, if_neg c_5, if_neg c_8]
          rw [e9] at hk
          exact ih 1 (x3 + 1)  (by omega) (by omega) (by omega) (by omega) _ _ _ hI (lv_sub hl [2, 3, 1, 0] rfl) hk
def L_X10_takes_95 (a0 : Int) : Nat → Int → Int → Sg → Sg
  | 0, x2, x3, σ => (σ)
  | n + 1, x2, x3, σ => (if (σ 30 70) ≤ x3 then σ else L_X10_takes_95 a0 n x2 (x3 + 1) (up2 σ 29 ((840 + x3).toNat) (σ 33 x3.toNat)))
set_option maxHeartbeats 4000000 in
set_option maxRecDepth 100000 in
theorem w_L_X10_takes_95 {p : Program} {l : Launch} {e : Env} {s : State} {m : MethodId} {args : Array Value} {below : List Frame} {meth : Method} {c₀ : Code} {D : va_G} {cy : Nat → ClassId} {ad : Nat → Nat} {Q : State → Prop} (X : MX p s m args meth c₀ cX10_takes 4 RX10 (some .boolean) wsX10_takes D cy) (a0 : Int) (ha0 : (-2147483648 ≤ a0 ∧ a0 < 2147483648)) : ∀ (n : Nat) (x2 : Int) (x3 : Int) (σ : Sg) (hx2 : (0 : Int) ≤ x2 ∧ x2 ≤ 1) (hx3 : (0 : Int) ≤ x3 ∧ x3 ≤ 12) (hmu : 12 - x3 < (n : Int)) (H : Heap) (locs : List Loc) (ls : Array Slot) (hI : HI D cy ad s σ H locs) (hl : lv_has ls 4 [(0, .ref (ad 28)), (2, .int (iI x2)), (3, .int (iI x3))])  (hk : ∀ (H1 : Heap) (locs1 : List Loc) (ls1 : Array Slot), True → HI D cy ad s (L_X10_takes_95 a0 n x2 x3 σ) H1 locs1 → lv_has ls1 4 [(0, .ref (ad 28)), (2, .int (iI x2))] → W p l e { frames := 2, cells := 0, slots := 0, locals := 80 } s m args below meth c₀ H1 locs1 0 0 Q (F0 m 128 ls1 [])), W p l e { frames := 2, cells := 0, slots := 0, locals := 80 } s m args below meth c₀ H locs 0 0 Q (F0 m 95 ls []) := by
  obtain ⟨hx, hb, hr, hml, hown, hts, hlocks, hK, hN⟩ := id X
  intro n
  induction n with
  | zero =>
    intro x2 x3 σ hx2 hx3 hmu H locs ls hI hl hk
    exfalso
    have hF := hI.2.2.2
    omega
  | succ n ih =>
    intro x2 x3 σ hx2 hx3 hmu H locs ls hI hl hk
    have hF := hI.2.2.2
    refine lv_iload_n hx hb dX10_takes_95 rfl (lv_at hl 2 rfl) ?_
    refine lv_aload_n hx hb dX10_takes_96 rfl (lv_at hl 0 rfl) ?_
    refine g_get (C := RX10) (T := TX10) (N := 44) (ci := 9) (v := .ref (ad 30)) hx hb hts in_X10_takes_X10 hown hK hI 28 (by decide) (cel_28 cy ad _) rfl 2 (by decide) (by decide +kernel) rfl dX10_takes_97 ?_
    refine lv_bipush (v := iI 70) hx hb dX10_takes_100 (iI_bip (by decide)) ?_
    refine g_iald (v := σ 30 70) hx hb hK hI 30 (by decide) (cel_30 cy ad) (by omega) (by decide) rfl dX10_takes_102 ?_
    have b_14 := bd_30 hF 70
    refine g_icmp_ge (tgt := 128) hx hb dX10_takes_103 (by decide) (by omega) (by omega) (fun c_15 => ?_) (fun c_15 => ?_)
    · skip
      have e9 : L_X10_takes_95 a0 (n + 1) x2 x3 σ = σ := by rw [L_X10_takes_95, if_pos c_15]
      rw [e9] at hk
      exact hk _ _ _ trivial hI (lv_sub hl [0, 1] rfl)
    · skip
      refine lv_aload_n hx hb dX10_takes_106 rfl (lv_at hl 0 rfl) ?_
      refine g_get (C := RX10) (T := TX10) (N := 44) (ci := 9) (v := .ref (ad 29)) hx hb hts in_X10_takes_X10 hown hK hI 28 (by decide) (cel_28 cy ad _) rfl 1 (by decide) (by decide +kernel) rfl dX10_takes_107 ?_
      refine lv_sipush (v := iI 840) hx hb dX10_takes_110 (iI_sip (by decide)) ?_
      refine lv_iload_n hx hb dX10_takes_113 rfl (lv_at hl 2 rfl) ?_
      refine g_iadd hx hb dX10_takes_114 ?_
      refine lv_aload_n hx hb dX10_takes_115 rfl (lv_at hl 0 rfl) ?_
      refine g_get (C := RX10) (T := TX10) (N := 44) (ci := 9) (v := .ref (ad 33)) hx hb hts in_X10_takes_X10 hown hK hI 28 (by decide) (cel_28 cy ad _) rfl 8 (by decide) (by decide +kernel) rfl dX10_takes_116 ?_
      refine lv_iload_n hx hb dX10_takes_119 rfl (lv_at hl 2 rfl) ?_
      refine g_bald (v := σ 33 x3.toNat) hx hb hK hI 33 (by decide) (cel_33 cy ad) (by omega) (by decide) rfl dX10_takes_120 ?_
      have b_16 := bd_33 hF x3.toNat
      refine g_bast hx hb hK hI 29 (by decide) (cel_29 cy ad) (by omega) (by decide) (by omega) (bw_29 (by omega)) dX10_takes_121 (fun H locs hI => ?_)
      have hF_17 : WF (up2 σ 29 ((840 + x3).toNat) (σ 33 x3.toNat)) := hI.2.2.2
      refine lv_iinc (v := iI (x3 + 1)) (lv' := [(3, .int (iI (x3 + 1))), (0, .ref (ad 28)), (2, .int (iI x2))]) hx hb dX10_takes_122 hl (k := 2) rfl (iI_add _ _) (by decide) rfl (fun ls hl => ?_)
      refine lv_goto (tgt := 95) hx hb dX10_takes_125 (by decide) ?_
      have e9 : L_X10_takes_95 a0 (n + 1) x2 x3 σ = L_X10_takes_95 a0 n x2 (x3 + 1) (up2 σ 29 ((840 + x3).toNat) (σ 33 x3.toNat)) := by rw [L_X10_takes_95, if_neg c_15]
      rw [e9] at hk
      exact ih x2 (x3 + 1) (up2 σ 29 ((840 + x3).toNat) (σ 33 x3.toNat)) (by omega) (by omega) (by omega) _ _ _ hI (lv_sub hl [1, 2, 0] rfl) hk
def f_X10_takes (σ : Sg) (a0 : Int) : Int × Sg := (if (f_X10_within a0 0 5) = 0 then (if (L_X10_takes_30 σ a0 81 0 0) = 0 then ((L_X10_takes_30 σ a0 81 0 0), (up2 (L_X10_takes_95 a0 13 (L_X10_takes_30 σ a0 81 0 0) 0 (up2 (up2 σ 31 70 a0) 30 70 0)) 28 9 0)) else ((L_X10_takes_30 σ a0 81 0 0), (up2 (L_X10_takes_95 a0 13 (L_X10_takes_30 σ a0 81 0 0) 0 (up2 (up2 σ 31 70 a0) 30 70 (σ 28 9))) 28 9 0))) else (if (f_X10_within (σ 28 9) 1 12) = 0 then (if (L_X10_takes_30 σ a0 81 0 0) = 0 then ((L_X10_takes_30 σ a0 81 0 0), (up2 (L_X10_takes_95 a0 13 (L_X10_takes_30 σ a0 81 0 0) 0 (up2 (up2 σ 31 70 a0) 30 70 0)) 28 9 0)) else ((L_X10_takes_30 σ a0 81 0 0), (up2 (L_X10_takes_95 a0 13 (L_X10_takes_30 σ a0 81 0 0) 0 (up2 (up2 σ 31 70 a0) 30 70 (σ 28 9))) 28 9 0))) else (if (L_X10_takes_30 σ a0 81 1 0) = 0 then ((L_X10_takes_30 σ a0 81 1 0), (up2 (L_X10_takes_95 a0 13 (L_X10_takes_30 σ a0 81 1 0) 0 (up2 (up2 σ 31 70 a0) 30 70 0)) 28 9 0)) else ((L_X10_takes_30 σ a0 81 1 0), (up2 (L_X10_takes_95 a0 13 (L_X10_takes_30 σ a0 81 1 0) 0 (up2 (up2 σ 31 70 a0) 30 70 (σ 28 9))) 28 9 0)))))
theorem hd_X10_takes : yX10_takes.cls = RX10 ∧ yX10_takes.cls ≠ "java/lang/invoke/MethodHandle" ∧ yX10_takes.cls ≠ "java/lang/invoke/VarHandle" ∧ (parseMethodDescriptor yX10_takes.desc).map (fun d => d.parameters.length) = some 1 := by decide +kernel
set_option maxHeartbeats 4000000 in
set_option maxRecDepth 100000 in
theorem c_X10_takes (l : Launch) (D : va_G) (cy : Nat → ClassId) (ad : Nat → Nat) (σ : Sg) (a0 : Int) (ha0 : (-2147483648 ≤ a0 ∧ a0 < 2147483648)) : CM l D cy ad yX10_takes wsX10_takes { frames := 2, cells := 0, slots := 0, locals := 80 } [.ref (ad 28), .int (iI a0)] σ (some (.int (iI ((f_X10_takes σ a0).1)))) ((f_X10_takes σ a0).2) ((0 ≤ (f_X10_takes σ a0).1 ∧ (f_X10_takes σ a0).1 ≤ 1)) := by
  refine CM.of (cc := cX10_takes) (maxL := 4) (ret := (some .boolean)) (by decide) rfl (Nat.le_of_ble_eq_true rfl) ?_
  intro p e s m args below meth c₀ ls X hI hl
  have hl : lv_has ls 4 [(0, .ref (ad 28)), (1, .int (iI a0))] := hl
  obtain ⟨hx, hb, hr, hml, hown, hts, hlocks, hK, hN⟩ := id X
  have hF := hI.2.2.2
  refine lv_iload_n hx hb dX10_takes_0 rfl (lv_at hl 1 rfl) ?_
  refine lv_iconst (v := iI 0) hx hb dX10_takes_1 rfl ?_
  refine lv_iconst (v := iI 5) hx hb dX10_takes_2 rfl ?_
  refine g_S (As := [.int (iI a0), .int (iI 0), .int (iI 5)]) (rest := []) (c_X10_within l D cy ad σ a0 (by omega) 0 (by omega) 5 (by omega)) hx hb hml hown hts hK hN hI hl.1 gX10_takes_X10_within rfl hd_X10_within rfl rfl ⟨Nat.le_of_ble_eq_true rfl, Nat.le_of_ble_eq_true rfl⟩ ⟨Nat.zero_le _, Nat.zero_le _⟩ rfl rfl (Nat.le_of_ble_eq_true rfl) dX10_takes_3 (fun H locs hG_1 hI => ?_)
  refine g_if_eq (tgt := 26) hx hb dX10_takes_6 (by decide) (by omega) (fun c_2 => ?_) (fun c_2 => ?_)
  · skip
    refine lv_iconst (v := iI 0) hx hb dX10_takes_26 rfl ?_
    refine lv_istore_n (lv' := [(2, .int (iI 0)), (0, .ref (ad 28)), (1, .int (iI a0))]) hx hb dX10_takes_27 rfl hl (by decide) rfl (fun ls hl => ?_)
    refine lv_iconst (v := iI 0) hx hb dX10_takes_28 rfl ?_
    refine lv_istore_n (lv' := [(3, .int (iI 0)), (2, .int (iI 0)), (0, .ref (ad 28)), (1, .int (iI a0))]) hx hb dX10_takes_29 rfl hl (by decide) rfl (fun ls hl => ?_)
    refine w_L_X10_takes_30 X σ a0 ha0  81 0 0  (by omega) (by omega) (by omega) (by omega) _ _ _ hI (lv_sub hl [2, 3, 1, 0] rfl) (fun H locs ls hpo_10 hI hl => ?_)
    refine lv_aload_n hx hb dX10_takes_66 rfl (lv_at hl 0 rfl) ?_
    refine g_get (C := RX10) (T := TX10) (N := 44) (ci := 9) (v := .ref (ad 31)) hx hb hts in_X10_takes_X10 hown hK hI 28 (by decide) (cel_28 cy ad _) rfl 3 (by decide) (by decide +kernel) rfl dX10_takes_67 ?_
    refine lv_bipush (v := iI 70) hx hb dX10_takes_70 (iI_bip (by decide)) ?_
    refine lv_iload_n hx hb dX10_takes_72 rfl (lv_at hl 1 rfl) ?_
    refine g_iast hx hb hK hI 31 (by decide) (cel_31 cy ad) (by omega) (by decide) (bw_31 (by omega)) dX10_takes_73 (fun H locs hI => ?_)
    have hF_11 : WF (up2 σ 31 70 a0) := hI.2.2.2
    refine lv_aload_n hx hb dX10_takes_74 rfl (lv_at hl 0 rfl) ?_
    refine g_get (C := RX10) (T := TX10) (N := 44) (ci := 9) (v := .ref (ad 30)) hx hb hts in_X10_takes_X10 hown hK hI 28 (by decide) (cel_28 cy ad _) rfl 2 (by decide) (by decide +kernel) rfl dX10_takes_75 ?_
    refine lv_bipush (v := iI 70) hx hb dX10_takes_78 (iI_bip (by decide)) ?_
    refine lv_iload_n hx hb dX10_takes_80 rfl (lv_at hl 2 rfl) ?_
    refine g_if_eq (tgt := 91) hx hb dX10_takes_81 (by decide) (by omega) (fun c_12 => ?_) (fun c_12 => ?_)
    · skip
      refine lv_iconst (v := iI 0) hx hb dX10_takes_91 rfl ?_
      refine g_iast hx hb hK hI 30 (by decide) (cel_30 cy ad) (by omega) (by decide) (bw_30 (by omega)) dX10_takes_92 (fun H locs hI => ?_)
      have hF_13 : WF (up2 (up2 σ 31 70 a0) 30 70 0) := hI.2.2.2
      refine lv_iconst (v := iI 0) hx hb dX10_takes_93 rfl ?_
      refine lv_istore_n (lv' := [(3, .int (iI 0)), (0, .ref (ad 28)), (1, .int (iI a0)), (2, .int (iI (L_X10_takes_30 σ a0 81 0 0)))]) hx hb dX10_takes_94 rfl hl (by decide) rfl (fun ls hl => ?_)
      refine w_L_X10_takes_95 X  a0 ha0  13 (L_X10_takes_30 σ a0 81 0 0) 0 (up2 (up2 σ 31 70 a0) 30 70 0) (by omega) (by omega) (by omega) _ _ _ hI (lv_sub hl [1, 3, 0] rfl) (fun H locs ls hpo_19 hI hl => ?_)
      have hF_18 := hI.2.2.2
      refine lv_aload_n hx hb dX10_takes_128 rfl (lv_at hl 0 rfl) ?_
      refine lv_iconst (v := iI 0) hx hb dX10_takes_129 rfl ?_
      refine g_put (C := RX10) (T := TX10) (N := 44) (ci := 9) (ty := .int) (z := 0) hx hb hts in_X10_takes_X10 tyX10 tyX10_ok nmX10 hown hK hI 28 (by decide) (cel_28 cy ad) rfl 9 (by decide) (by decide +kernel) rfl (by decide +kernel) rfl rfl (Nat.le_of_ble_eq_true rfl) rfl (bw_28_9 (by omega)) dX10_takes_130 (fun H locs hI => ?_)
      have hF_20 := hI.2.2.2
      refine lv_iload_n hx hb dX10_takes_133 rfl (lv_at hl 1 rfl) ?_
      have e9 : f_X10_takes σ a0 = ((L_X10_takes_30 σ a0 81 0 0), (up2 (L_X10_takes_95 a0 13 (L_X10_takes_30 σ a0 81 0 0) 0 (up2 (up2 σ 31 70 a0) 30 70 0)) 28 9 0)) := by rw [f_X10_takes, if_pos c_2, if_pos c_12]
      exact g_zret (z := (L_X10_takes_30 σ a0 81 0 0)) hx hb hr hK hN hlocks hI (by rw [e9]) (by rw [e9]) (by rw [e9] <;> first | (omega) | (dsimp only; omega)) (by omega) dX10_takes_134
    · skip
      refine lv_aload_n hx hb dX10_takes_84 rfl (lv_at hl 0 rfl) ?_
      refine g_get (C := RX10) (T := TX10) (N := 44) (ci := 9) (v := .int (iI (σ 28 9))) hx hb hts in_X10_takes_X10 hown hK hI 28 (by decide) (cel_28 cy ad _) rfl 9 (by decide) (by decide +kernel) (by show some (Value.int (iI ((up2 σ 31 70 a0) 28 9))) = _; rw [up2_cell _ _ _ (by decide)]) dX10_takes_85 ?_
      have b_21 := bd_28_9 hF
      refine lv_goto (tgt := 92) hx hb dX10_takes_88 (by decide) ?_
      refine g_iast hx hb hK hI 30 (by decide) (cel_30 cy ad) (by omega) (by decide) (bw_30 (by omega)) dX10_takes_92 (fun H locs hI => ?_)
      have hF_22 : WF (up2 (up2 σ 31 70 a0) 30 70 (σ 28 9)) := hI.2.2.2
      refine lv_iconst (v := iI 0) hx hb dX10_takes_93 rfl ?_
      refine lv_istore_n (lv' := [(3, .int (iI 0)), (0, .ref (ad 28)), (1, .int (iI a0)), (2, .int (iI (L_X10_takes_30 σ a0 81 0 0)))]) hx hb dX10_takes_94 rfl hl (by decide) rfl (fun ls hl => ?_)
      refine w_L_X10_takes_95 X  a0 ha0  13 (L_X10_takes_30 σ a0 81 0 0) 0 (up2 (up2 σ 31 70 a0) 30 70 (σ 28 9)) (by omega) (by omega) (by omega) _ _ _ hI (lv_sub hl [1, 3, 0] rfl) (fun H locs ls hpo_24 hI hl => ?_)
      have hF_23 := hI.2.2.2
      refine lv_aload_n hx hb dX10_takes_128 rfl (lv_at hl 0 rfl) ?_
      refine lv_iconst (v := iI 0) hx hb dX10_takes_129 rfl ?_
      refine g_put (C := RX10) (T := TX10) (N := 44) (ci := 9) (ty := .int) (z := 0) hx hb hts in_X10_takes_X10 tyX10 tyX10_ok nmX10 hown hK hI 28 (by decide) (cel_28 cy ad) rfl 9 (by decide) (by decide +kernel) rfl (by decide +kernel) rfl rfl (Nat.le_of_ble_eq_true rfl) rfl (bw_28_9 (by omega)) dX10_takes_130 (fun H locs hI => ?_)
      have hF_25 := hI.2.2.2
      refine lv_iload_n hx hb dX10_takes_133 rfl (lv_at hl 1 rfl) ?_
      have e9 : f_X10_takes σ a0 = ((L_X10_takes_30 σ a0 81 0 0), (up2 (L_X10_takes_95 a0 13 (L_X10_takes_30 σ a0 81 0 0) 0 (up2 (up2 σ 31 70 a0) 30 70 (σ 28 9))) 28 9 0)) := by rw [f_X10_takes, if_pos c_2, if_neg c_12]
      exact g_zret (z := (L_X10_takes_30 σ a0 81 0 0)) hx hb hr hK hN hlocks hI (by rw [e9]) (by rw [e9]) (by rw [e9] <;> first | (omega) | (dsimp only; omega)) (by omega) dX10_takes_134
  · skip
    refine lv_aload_n hx hb dX10_takes_9 rfl (lv_at hl 0 rfl) ?_
    refine g_get (C := RX10) (T := TX10) (N := 44) (ci := 9) (v := .int (iI (σ 28 9))) hx hb hts in_X10_takes_X10 hown hK hI 28 (by decide) (cel_28 cy ad _) rfl 9 (by decide) (by decide +kernel) rfl dX10_takes_10 ?_
    have b_26 := bd_28_9 hF
    refine lv_iconst (v := iI 1) hx hb dX10_takes_13 rfl ?_
    refine lv_bipush (v := iI 12) hx hb dX10_takes_14 (iI_bip (by decide)) ?_
    refine g_S (As := [.int (iI (σ 28 9)), .int (iI 1), .int (iI 12)]) (rest := []) (c_X10_within l D cy ad σ (σ 28 9) (by omega) 1 (by omega) 12 (by omega)) hx hb hml hown hts hK hN hI hl.1 gX10_takes_X10_within rfl hd_X10_within rfl rfl ⟨Nat.le_of_ble_eq_true rfl, Nat.le_of_ble_eq_true rfl⟩ ⟨Nat.zero_le _, Nat.zero_le _⟩ rfl rfl (Nat.le_of_ble_eq_true rfl) dX10_takes_16 (fun H locs hG_27 hI => ?_)
    refine g_if_eq (tgt := 26) hx hb dX10_takes_19 (by decide) (by omega) (fun c_28 => ?_) (fun c_28 => ?_)
    · skip
      refine lv_iconst (v := iI 0) hx hb dX10_takes_26 rfl ?_
      refine lv_istore_n (lv' := [(2, .int (iI 0)), (0, .ref (ad 28)), (1, .int (iI a0))]) hx hb dX10_takes_27 rfl hl (by decide) rfl (fun ls hl => ?_)
      refine lv_iconst (v := iI 0) hx hb dX10_takes_28 rfl ?_
      refine lv_istore_n (lv' := [(3, .int (iI 0)), (2, .int (iI 0)), (0, .ref (ad 28)), (1, .int (iI a0))]) hx hb dX10_takes_29 rfl hl (by decide) rfl (fun ls hl => ?_)
      refine w_L_X10_takes_30 X σ a0 ha0  81 0 0  (by omega) (by omega) (by omega) (by omega) _ _ _ hI (lv_sub hl [2, 3, 1, 0] rfl) (fun H locs ls hpo_30 hI hl => ?_)
      refine lv_aload_n hx hb dX10_takes_66 rfl (lv_at hl 0 rfl) ?_
      refine g_get (C := RX10) (T := TX10) (N := 44) (ci := 9) (v := .ref (ad 31)) hx hb hts in_X10_takes_X10 hown hK hI 28 (by decide) (cel_28 cy ad _) rfl 3 (by decide) (by decide +kernel) rfl dX10_takes_67 ?_
      refine lv_bipush (v := iI 70) hx hb dX10_takes_70 (iI_bip (by decide)) ?_
      refine lv_iload_n hx hb dX10_takes_72 rfl (lv_at hl 1 rfl) ?_
      refine g_iast hx hb hK hI 31 (by decide) (cel_31 cy ad) (by omega) (by decide) (bw_31 (by omega)) dX10_takes_73 (fun H locs hI => ?_)
      have hF_31 : WF (up2 σ 31 70 a0) := hI.2.2.2
      refine lv_aload_n hx hb dX10_takes_74 rfl (lv_at hl 0 rfl) ?_
      refine g_get (C := RX10) (T := TX10) (N := 44) (ci := 9) (v := .ref (ad 30)) hx hb hts in_X10_takes_X10 hown hK hI 28 (by decide) (cel_28 cy ad _) rfl 2 (by decide) (by decide +kernel) rfl dX10_takes_75 ?_
      refine lv_bipush (v := iI 70) hx hb dX10_takes_78 (iI_bip (by decide)) ?_
      refine lv_iload_n hx hb dX10_takes_80 rfl (lv_at hl 2 rfl) ?_
      refine g_if_eq (tgt := 91) hx hb dX10_takes_81 (by decide) (by omega) (fun c_32 => ?_) (fun c_32 => ?_)
      · skip
        refine lv_iconst (v := iI 0) hx hb dX10_takes_91 rfl ?_
        refine g_iast hx hb hK hI 30 (by decide) (cel_30 cy ad) (by omega) (by decide) (bw_30 (by omega)) dX10_takes_92 (fun H locs hI => ?_)
        have hF_33 : WF (up2 (up2 σ 31 70 a0) 30 70 0) := hI.2.2.2
        refine lv_iconst (v := iI 0) hx hb dX10_takes_93 rfl ?_
        refine lv_istore_n (lv' := [(3, .int (iI 0)), (0, .ref (ad 28)), (1, .int (iI a0)), (2, .int (iI (L_X10_takes_30 σ a0 81 0 0)))]) hx hb dX10_takes_94 rfl hl (by decide) rfl (fun ls hl => ?_)
        refine w_L_X10_takes_95 X  a0 ha0  13 (L_X10_takes_30 σ a0 81 0 0) 0 (up2 (up2 σ 31 70 a0) 30 70 0) (by omega) (by omega) (by omega) _ _ _ hI (lv_sub hl [1, 3, 0] rfl) (fun H locs ls hpo_35 hI hl => ?_)
        have hF_34 := hI.2.2.2
        refine lv_aload_n hx hb dX10_takes_128 rfl (lv_at hl 0 rfl) ?_
        refine lv_iconst (v := iI 0) hx hb dX10_takes_129 rfl ?_
        refine g_put (C := RX10) (T := TX10) (N := 44) (ci := 9) (ty := .int) (z := 0) hx hb hts in_X10_takes_X10 tyX10 tyX10_ok nmX10 hown hK hI 28 (by decide) (cel_28 cy ad) rfl 9 (by decide) (by decide +kernel) rfl (by decide +kernel) rfl rfl (Nat.le_of_ble_eq_true rfl) rfl (bw_28_9 (by omega)) dX10_takes_130 (fun H locs hI => ?_)
        have hF_36 := hI.2.2.2
        refine lv_iload_n hx hb dX10_takes_133 rfl (lv_at hl 1 rfl) ?_
        have e9 : f_X10_takes σ a0 = ((L_X10_takes_30 σ a0 81 0 0), (up2 (L_X10_takes_95 a0 13 (L_X10_takes_30 σ a0 81 0 0) 0 (up2 (up2 σ 31 70 a0) 30 70 0)) 28 9 0)) := by rw [f_X10_takes, if_neg c_2, if_pos c_28, if_pos c_32]
        exact g_zret (z := (L_X10_takes_30 σ a0 81 0 0)) hx hb hr hK hN hlocks hI (by rw [e9]) (by rw [e9]) (by rw [e9] <;> first | (omega) | (dsimp only; omega)) (by omega) dX10_takes_134
      · skip
        refine lv_aload_n hx hb dX10_takes_84 rfl (lv_at hl 0 rfl) ?_
        refine g_get (C := RX10) (T := TX10) (N := 44) (ci := 9) (v := .int (iI (σ 28 9))) hx hb hts in_X10_takes_X10 hown hK hI 28 (by decide) (cel_28 cy ad _) rfl 9 (by decide) (by decide +kernel) (by show some (Value.int (iI ((up2 σ 31 70 a0) 28 9))) = _; rw [up2_cell _ _ _ (by decide)]) dX10_takes_85 ?_
        have b_37 := bd_28_9 hF
        refine lv_goto (tgt := 92) hx hb dX10_takes_88 (by decide) ?_
        refine g_iast hx hb hK hI 30 (by decide) (cel_30 cy ad) (by omega) (by decide) (bw_30 (by omega)) dX10_takes_92 (fun H locs hI => ?_)
        have hF_38 : WF (up2 (up2 σ 31 70 a0) 30 70 (σ 28 9)) := hI.2.2.2
        refine lv_iconst (v := iI 0) hx hb dX10_takes_93 rfl ?_
        refine lv_istore_n (lv' := [(3, .int (iI 0)), (0, .ref (ad 28)), (1, .int (iI a0)), (2, .int (iI (L_X10_takes_30 σ a0 81 0 0)))]) hx hb dX10_takes_94 rfl hl (by decide) rfl (fun ls hl => ?_)
        refine w_L_X10_takes_95 X  a0 ha0  13 (L_X10_takes_30 σ a0 81 0 0) 0 (up2 (up2 σ 31 70 a0) 30 70 (σ 28 9)) (by omega) (by omega) (by omega) _ _ _ hI (lv_sub hl [1, 3, 0] rfl) (fun H locs ls hpo_40 hI hl => ?_)
        have hF_39 := hI.2.2.2
        refine lv_aload_n hx hb dX10_takes_128 rfl (lv_at hl 0 rfl) ?_
        refine lv_iconst (v := iI 0) hx hb dX10_takes_129 rfl ?_
        refine g_put (C := RX10) (T := TX10) (N := 44) (ci := 9) (ty := .int) (z := 0) hx hb hts in_X10_takes_X10 tyX10 tyX10_ok nmX10 hown hK hI 28 (by decide) (cel_28 cy ad) rfl 9 (by decide) (by decide +kernel) rfl (by decide +kernel) rfl rfl (Nat.le_of_ble_eq_true rfl) rfl (bw_28_9 (by omega)) dX10_takes_130 (fun H locs hI => ?_)
        have hF_41 := hI.2.2.2
        refine lv_iload_n hx hb dX10_takes_133 rfl (lv_at hl 1 rfl) ?_
        have e9 : f_X10_takes σ a0 = ((L_X10_takes_30 σ a0 81 0 0), (up2 (L_X10_takes_95 a0 13 (L_X10_takes_30 σ a0 81 0 0) 0 (up2 (up2 σ 31 70 a0) 30 70 (σ 28 9))) 28 9 0)) := by rw [f_X10_takes, if_neg c_2, if_pos c_28, if_neg c_32]
        exact g_zret (z := (L_X10_takes_30 σ a0 81 0 0)) hx hb hr hK hN hlocks hI (by rw [e9]) (by rw [e9]) (by rw [e9] <;> first | (omega) | (dsimp only; omega)) (by omega) dX10_takes_134
    · skip
      refine lv_iconst (v := iI 1) hx hb dX10_takes_22 rfl ?_
      refine lv_goto (tgt := 27) hx hb dX10_takes_23 (by decide) ?_
      refine lv_istore_n (lv' := [(2, .int (iI 1)), (0, .ref (ad 28)), (1, .int (iI a0))]) hx hb dX10_takes_27 rfl hl (by decide) rfl (fun ls hl => ?_)
      refine lv_iconst (v := iI 0) hx hb dX10_takes_28 rfl ?_
      refine lv_istore_n (lv' := [(3, .int (iI 0)), (2, .int (iI 1)), (0, .ref (ad 28)), (1, .int (iI a0))]) hx hb dX10_takes_29 rfl hl (by decide) rfl (fun ls hl => ?_)
      refine w_L_X10_takes_30 X σ a0 ha0  81 1 0  (by omega) (by omega) (by omega) (by omega) _ _ _ hI (lv_sub hl [2, 3, 1, 0] rfl) (fun H locs ls hpo_43 hI hl => ?_)
      refine lv_aload_n hx hb dX10_takes_66 rfl (lv_at hl 0 rfl) ?_
      refine g_get (C := RX10) (T := TX10) (N := 44) (ci := 9) (v := .ref (ad 31)) hx hb hts in_X10_takes_X10 hown hK hI 28 (by decide) (cel_28 cy ad _) rfl 3 (by decide) (by decide +kernel) rfl dX10_takes_67 ?_
      refine lv_bipush (v := iI 70) hx hb dX10_takes_70 (iI_bip (by decide)) ?_
      refine lv_iload_n hx hb dX10_takes_72 rfl (lv_at hl 1 rfl) ?_
      refine g_iast hx hb hK hI 31 (by decide) (cel_31 cy ad) (by omega) (by decide) (bw_31 (by omega)) dX10_takes_73 (fun H locs hI => ?_)
      have hF_44 : WF (up2 σ 31 70 a0) := hI.2.2.2
      refine lv_aload_n hx hb dX10_takes_74 rfl (lv_at hl 0 rfl) ?_
      refine g_get (C := RX10) (T := TX10) (N := 44) (ci := 9) (v := .ref (ad 30)) hx hb hts in_X10_takes_X10 hown hK hI 28 (by decide) (cel_28 cy ad _) rfl 2 (by decide) (by decide +kernel) rfl dX10_takes_75 ?_
      refine lv_bipush (v := iI 70) hx hb dX10_takes_78 (iI_bip (by decide)) ?_
      refine lv_iload_n hx hb dX10_takes_80 rfl (lv_at hl 2 rfl) ?_
      refine g_if_eq (tgt := 91) hx hb dX10_takes_81 (by decide) (by omega) (fun c_45 => ?_) (fun c_45 => ?_)
      · skip
        refine lv_iconst (v := iI 0) hx hb dX10_takes_91 rfl ?_
        refine g_iast hx hb hK hI 30 (by decide) (cel_30 cy ad) (by omega) (by decide) (bw_30 (by omega)) dX10_takes_92 (fun H locs hI => ?_)
        have hF_46 : WF (up2 (up2 σ 31 70 a0) 30 70 0) := hI.2.2.2
        refine lv_iconst (v := iI 0) hx hb dX10_takes_93 rfl ?_
        refine lv_istore_n (lv' := [(3, .int (iI 0)), (0, .ref (ad 28)), (1, .int (iI a0)), (2, .int (iI (L_X10_takes_30 σ a0 81 1 0)))]) hx hb dX10_takes_94 rfl hl (by decide) rfl (fun ls hl => ?_)
        refine w_L_X10_takes_95 X  a0 ha0  13 (L_X10_takes_30 σ a0 81 1 0) 0 (up2 (up2 σ 31 70 a0) 30 70 0) (by omega) (by omega) (by omega) _ _ _ hI (lv_sub hl [1, 3, 0] rfl) (fun H locs ls hpo_48 hI hl => ?_)
        have hF_47 := hI.2.2.2
        refine lv_aload_n hx hb dX10_takes_128 rfl (lv_at hl 0 rfl) ?_
        refine lv_iconst (v := iI 0) hx hb dX10_takes_129 rfl ?_
        refine g_put (C := RX10) (T := TX10) (N := 44) (ci := 9) (ty := .int) (z := 0) hx hb hts in_X10_takes_X10 tyX10 tyX10_ok nmX10 hown hK hI 28 (by decide) (cel_28 cy ad) rfl 9 (by decide) (by decide +kernel) rfl (by decide +kernel) rfl rfl (Nat.le_of_ble_eq_true rfl) rfl (bw_28_9 (by omega)) dX10_takes_130 (fun H locs hI => ?_)
        have hF_49 := hI.2.2.2
        refine lv_iload_n hx hb dX10_takes_133 rfl (lv_at hl 1 rfl) ?_
        have e9 : f_X10_takes σ a0 = ((L_X10_takes_30 σ a0 81 1 0), (up2 (L_X10_takes_95 a0 13 (L_X10_takes_30 σ a0 81 1 0) 0 (up2 (up2 σ 31 70 a0) 30 70 0)) 28 9 0)) := by rw [f_X10_takes, if_neg c_2, if_neg c_28, if_pos c_45]
        exact g_zret (z := (L_X10_takes_30 σ a0 81 1 0)) hx hb hr hK hN hlocks hI (by rw [e9]) (by rw [e9]) (by rw [e9] <;> first | (omega) | (dsimp only; omega)) (by omega) dX10_takes_134
      · skip
        refine lv_aload_n hx hb dX10_takes_84 rfl (lv_at hl 0 rfl) ?_
        refine g_get (C := RX10) (T := TX10) (N := 44) (ci := 9) (v := .int (iI (σ 28 9))) hx hb hts in_X10_takes_X10 hown hK hI 28 (by decide) (cel_28 cy ad _) rfl 9 (by decide) (by decide +kernel) (by show some (Value.int (iI ((up2 σ 31 70 a0) 28 9))) = _; rw [up2_cell _ _ _ (by decide)]) dX10_takes_85 ?_
        have b_50 := bd_28_9 hF
        refine lv_goto (tgt := 92) hx hb dX10_takes_88 (by decide) ?_
        refine g_iast hx hb hK hI 30 (by decide) (cel_30 cy ad) (by omega) (by decide) (bw_30 (by omega)) dX10_takes_92 (fun H locs hI => ?_)
        have hF_51 : WF (up2 (up2 σ 31 70 a0) 30 70 (σ 28 9)) := hI.2.2.2
        refine lv_iconst (v := iI 0) hx hb dX10_takes_93 rfl ?_
        refine lv_istore_n (lv' := [(3, .int (iI 0)), (0, .ref (ad 28)), (1, .int (iI a0)), (2, .int (iI (L_X10_takes_30 σ a0 81 1 0)))]) hx hb dX10_takes_94 rfl hl (by decide) rfl (fun ls hl => ?_)
        refine w_L_X10_takes_95 X  a0 ha0  13 (L_X10_takes_30 σ a0 81 1 0) 0 (up2 (up2 σ 31 70 a0) 30 70 (σ 28 9)) (by omega) (by omega) (by omega) _ _ _ hI (lv_sub hl [1, 3, 0] rfl) (fun H locs ls hpo_53 hI hl => ?_)
        have hF_52 := hI.2.2.2
        refine lv_aload_n hx hb dX10_takes_128 rfl (lv_at hl 0 rfl) ?_
        refine lv_iconst (v := iI 0) hx hb dX10_takes_129 rfl ?_
        refine g_put (C := RX10) (T := TX10) (N := 44) (ci := 9) (ty := .int) (z := 0) hx hb hts in_X10_takes_X10 tyX10 tyX10_ok nmX10 hown hK hI 28 (by decide) (cel_28 cy ad) rfl 9 (by decide) (by decide +kernel) rfl (by decide +kernel) rfl rfl (Nat.le_of_ble_eq_true rfl) rfl (bw_28_9 (by omega)) dX10_takes_130 (fun H locs hI => ?_)
        have hF_54 := hI.2.2.2
        refine lv_iload_n hx hb dX10_takes_133 rfl (lv_at hl 1 rfl) ?_
        have e9 : f_X10_takes σ a0 = ((L_X10_takes_30 σ a0 81 1 0), (up2 (L_X10_takes_95 a0 13 (L_X10_takes_30 σ a0 81 1 0) 0 (up2 (up2 σ 31 70 a0) 30 70 (σ 28 9))) 28 9 0)) := by rw [f_X10_takes, if_neg c_2, if_neg c_28, if_neg c_45]
        exact g_zret (z := (L_X10_takes_30 σ a0 81 1 0)) hx hb hr hK hN hlocks hI (by rw [e9]) (by rw [e9]) (by rw [e9] <;> first | (omega) | (dsimp only; omega)) (by omega) dX10_takes_134
theorem in_X10_isFile_X10 : ∀ w ∈ u_ws RX10 TX10 44, w ∈ wsX10_isFile := by decide +kernel
def f_X10_isFile (σ : Sg) (a0 : Int) : Int := (if a0 < 0 then 0 else (if (σ 28 5) ≤ a0 then 0 else (if (σ 32 a0.toNat) = 0 then 0 else 1)))
theorem hd_X10_isFile : yX10_isFile.cls = RX10 ∧ yX10_isFile.cls ≠ "java/lang/invoke/MethodHandle" ∧ yX10_isFile.cls ≠ "java/lang/invoke/VarHandle" ∧ (parseMethodDescriptor yX10_isFile.desc).map (fun d => d.parameters.length) = some 1 := by decide +kernel
set_option maxHeartbeats 4000000 in
set_option maxRecDepth 100000 in
theorem c_X10_isFile (l : Launch) (D : va_G) (cy : Nat → ClassId) (ad : Nat → Nat) (σ : Sg) (a0 : Int) (ha0 : (-2147483648 ≤ a0 ∧ a0 < 2147483648)) : CM l D cy ad yX10_isFile wsX10_isFile { frames := 0, cells := 0, slots := 0, locals := 0 } [.ref (ad 28), .int (iI a0)] σ (some (.int (iI (f_X10_isFile σ a0)))) σ ((0 ≤ f_X10_isFile σ a0 ∧ f_X10_isFile σ a0 ≤ 1) ∧ ((f_X10_isFile σ a0) = 0 ∨ (0 ≤ a0 ∧ a0 ≤ 39))) := by
  refine CM.of (cc := cX10_isFile) (maxL := 2) (ret := (some .boolean)) (by decide) rfl (Nat.le_of_ble_eq_true rfl) ?_
  intro p e s m args below meth c₀ ls X hI hl
  have hl : lv_has ls 2 [(0, .ref (ad 28)), (1, .int (iI a0))] := hl
  obtain ⟨hx, hb, hr, hml, hown, hts, hlocks, hK, hN⟩ := id X
  have hF := hI.2.2.2
  refine lv_iload_n hx hb dX10_isFile_0 rfl (lv_at hl 1 rfl) ?_
  refine g_if_lt (tgt := 25) hx hb dX10_isFile_1 (by decide) (by omega) (fun c_1 => ?_) (fun c_1 => ?_)
  · skip
    refine lv_iconst (v := iI 0) hx hb dX10_isFile_25 rfl ?_
    have e9 : f_X10_isFile σ a0 = 0 := by rw [f_X10_isFile, if_pos c_1]
    exact g_zret (z := 0) hx hb hr hK hN hlocks hI e9.symm rfl (by rw [e9] <;> first | (omega) | (dsimp only; omega)) (by omega) dX10_isFile_26
  · skip
    refine lv_iload_n hx hb dX10_isFile_4 rfl (lv_at hl 1 rfl) ?_
    refine lv_aload_n hx hb dX10_isFile_5 rfl (lv_at hl 0 rfl) ?_
    refine g_get (C := RX10) (T := TX10) (N := 44) (ci := 9) (v := .int (iI (σ 28 5))) hx hb hts in_X10_isFile_X10 hown hK hI 28 (by decide) (cel_28 cy ad _) rfl 5 (by decide) (by decide +kernel) rfl dX10_isFile_6 ?_
    have b_2 := bd_28_5 hF
    refine g_icmp_ge (tgt := 25) hx hb dX10_isFile_9 (by decide) (by omega) (by omega) (fun c_3 => ?_) (fun c_3 => ?_)
    · skip
      refine lv_iconst (v := iI 0) hx hb dX10_isFile_25 rfl ?_
      have e9 : f_X10_isFile σ a0 = 0 := by rw [f_X10_isFile, if_neg c_1, if_pos c_3]
      exact g_zret (z := 0) hx hb hr hK hN hlocks hI e9.symm rfl (by rw [e9] <;> first | (omega) | (dsimp only; omega)) (by omega) dX10_isFile_26
    · skip
      refine lv_aload_n hx hb dX10_isFile_12 rfl (lv_at hl 0 rfl) ?_
      refine g_get (C := RX10) (T := TX10) (N := 44) (ci := 9) (v := .ref (ad 32)) hx hb hts in_X10_isFile_X10 hown hK hI 28 (by decide) (cel_28 cy ad _) rfl 6 (by decide) (by decide +kernel) rfl dX10_isFile_13 ?_
      refine lv_iload_n hx hb dX10_isFile_16 rfl (lv_at hl 1 rfl) ?_
      refine g_zald (v := σ 32 a0.toNat) hx hb hK hI 32 (by decide) (cel_32 cy ad) (by omega) (by decide) rfl dX10_isFile_17 ?_
      have b_4 := bd_32 hF a0.toNat
      refine g_if_eq (tgt := 25) hx hb dX10_isFile_18 (by decide) (by omega) (fun c_5 => ?_) (fun c_5 => ?_)
      · skip
        refine lv_iconst (v := iI 0) hx hb dX10_isFile_25 rfl ?_
        have e9 : f_X10_isFile σ a0 = 0 := by rw [f_X10_isFile, if_neg c_1, if_neg c_3, if_pos c_5]
        exact g_zret (z := 0) hx hb hr hK hN hlocks hI e9.symm rfl (by rw [e9] <;> first | (omega) | (dsimp only; omega)) (by omega) dX10_isFile_26
      · skip
        refine lv_iconst (v := iI 1) hx hb dX10_isFile_21 rfl ?_
        refine lv_goto (tgt := 26) hx hb dX10_isFile_22 (by decide) ?_
        have e9 : f_X10_isFile σ a0 = 1 := by rw [f_X10_isFile, if_neg c_1, if_neg c_3, if_neg c_5]
        exact g_zret (z := 1) hx hb hr hK hN hlocks hI e9.symm rfl (by rw [e9] <;> first | (omega) | (dsimp only; omega)) (by omega) dX10_isFile_26
theorem in_X10_remove_X10 : ∀ w ∈ u_ws RX10 TX10 44, w ∈ wsX10_remove := by decide +kernel
def f_X10_remove (σ : Sg) (a0 : Int) : Int × Sg := (if (f_X10_isFile (up2 σ 28 0 0) a0) = 0 then (0, (up2 σ 28 0 0)) else (1, (up2 (up2 σ 28 0 0) 32 a0.toNat 0)))
theorem hd_X10_remove : yX10_remove.cls = RX10 ∧ yX10_remove.cls ≠ "java/lang/invoke/MethodHandle" ∧ yX10_remove.cls ≠ "java/lang/invoke/VarHandle" ∧ (parseMethodDescriptor yX10_remove.desc).map (fun d => d.parameters.length) = some 1 := by decide +kernel
set_option maxHeartbeats 4000000 in
set_option maxRecDepth 100000 in
theorem c_X10_remove (l : Launch) (D : va_G) (cy : Nat → ClassId) (ad : Nat → Nat) (σ : Sg) (a0 : Int) (ha0 : (-2147483648 ≤ a0 ∧ a0 < 2147483648)) : CM l D cy ad yX10_remove wsX10_remove { frames := 1, cells := 0, slots := 0, locals := 40 } [.ref (ad 28), .int (iI a0)] σ (some (.int (iI ((f_X10_remove σ a0).1)))) ((f_X10_remove σ a0).2) ((0 ≤ (f_X10_remove σ a0).1 ∧ (f_X10_remove σ a0).1 ≤ 1)) := by
  refine CM.of (cc := cX10_remove) (maxL := 2) (ret := (some .boolean)) (by decide) rfl (Nat.le_of_ble_eq_true rfl) ?_
  intro p e s m args below meth c₀ ls X hI hl
  have hl : lv_has ls 2 [(0, .ref (ad 28)), (1, .int (iI a0))] := hl
  obtain ⟨hx, hb, hr, hml, hown, hts, hlocks, hK, hN⟩ := id X
  have hF := hI.2.2.2
  refine lv_aload_n hx hb dX10_remove_0 rfl (lv_at hl 0 rfl) ?_
  refine lv_iconst (v := iI 0) hx hb dX10_remove_1 rfl ?_
  refine g_put (C := RX10) (T := TX10) (N := 44) (ci := 9) (ty := .int) (z := 0) hx hb hts in_X10_remove_X10 tyX10 tyX10_ok nmX10 hown hK hI 28 (by decide) (cel_28 cy ad) rfl 0 (by decide) (by decide +kernel) rfl (by decide +kernel) rfl rfl (Nat.le_of_ble_eq_true rfl) rfl (bw_28_0 (by omega)) dX10_remove_2 (fun H locs hI => ?_)
  have hF_1 := hI.2.2.2
  refine lv_aload_n hx hb dX10_remove_5 rfl (lv_at hl 0 rfl) ?_
  refine lv_iload_n hx hb dX10_remove_6 rfl (lv_at hl 1 rfl) ?_
  refine g_V (As := [.int (iI a0)]) (rest := []) 28 (c_X10_isFile l D cy ad (up2 σ 28 0 0) a0 (by omega)) hx hb hml hown hts hK hN hI hl.1 gX10_remove_X10_isFile rfl hd_X10_isFile rfl rfl ⟨Nat.le_of_ble_eq_true rfl, Nat.le_of_ble_eq_true rfl⟩ ⟨Nat.zero_le _, Nat.zero_le _⟩ (by decide) (cel_28 cy ad _) rfl rfl rfl rfl (Nat.le_of_ble_eq_true rfl) dX10_remove_7 (fun H locs hG_2 hI => ?_)
  refine g_if_ne (tgt := 15) hx hb dX10_remove_10 (by decide) (by omega) (fun c_3 => ?_) (fun c_3 => ?_)
  · skip
    refine lv_aload_n hx hb dX10_remove_15 rfl (lv_at hl 0 rfl) ?_
    refine g_get (C := RX10) (T := TX10) (N := 44) (ci := 9) (v := .ref (ad 32)) hx hb hts in_X10_remove_X10 hown hK hI 28 (by decide) (cel_28 cy ad _) rfl 6 (by decide) (by decide +kernel) rfl dX10_remove_16 ?_
    refine lv_iload_n hx hb dX10_remove_19 rfl (lv_at hl 1 rfl) ?_
    refine lv_iconst (v := iI 0) hx hb dX10_remove_20 rfl ?_
    refine g_zast hx hb hK hI 32 (by decide) (cel_32 cy ad) (by omega) (by decide) (by omega) (bw_32 (by omega)) dX10_remove_21 (fun H locs hI => ?_)
    have hF_4 : WF (up2 (up2 σ 28 0 0) 32 a0.toNat 0) := hI.2.2.2
    refine lv_iconst (v := iI 1) hx hb dX10_remove_22 rfl ?_
    have e9 : f_X10_remove σ a0 = (1, (up2 (up2 σ 28 0 0) 32 a0.toNat 0)) := by rw [f_X10_remove, if_neg c_3]
    exact g_zret (z := 1) hx hb hr hK hN hlocks hI (by rw [e9]) (by rw [e9]) (by rw [e9] <;> first | (omega) | (dsimp only; omega)) (by omega) dX10_remove_23
  · skip
    refine lv_iconst (v := iI 0) hx hb dX10_remove_13 rfl ?_
    have e9 : f_X10_remove σ a0 = (0, (up2 σ 28 0 0)) := by rw [f_X10_remove, if_pos c_3]
    exact g_zret (z := 0) hx hb hr hK hN hlocks hI (by rw [e9]) (by rw [e9]) (by rw [e9] <;> first | (omega) | (dsimp only; omega)) (by omega) dX10_remove_14
theorem in_X10_hand_X10 : ∀ w ∈ u_ws RX10 TX10 44, w ∈ wsX10_hand := by decide +kernel
def f_X10_hand (σ : Sg) (a0 : Int) (a1 : Int) : Int × Sg := (if ((f_X10_takes (up2 σ 28 0 0) a1).1) = 0 then ((-1), (f_X10_takes (up2 σ 28 0 0) a1).2) else (if (f_X10_isFile (f_X10_takes (up2 σ 28 0 0) a1).2 a0) = 0 then ((-1), (f_X10_takes (up2 σ 28 0 0) a1).2) else (if (f_X10_alikeTo (f_X10_takes (up2 σ 28 0 0) a1).2 70 a0) = (-1) then (0, (f_X10_goesTo (f_X10_takes (up2 σ 28 0 0) a1).2 a0 70)) else ((-2) - (f_X10_alikeTo (f_X10_takes (up2 σ 28 0 0) a1).2 70 a0), (f_X10_takes (up2 σ 28 0 0) a1).2))))
theorem hd_X10_hand : yX10_hand.cls = RX10 ∧ yX10_hand.cls ≠ "java/lang/invoke/MethodHandle" ∧ yX10_hand.cls ≠ "java/lang/invoke/VarHandle" ∧ (parseMethodDescriptor yX10_hand.desc).map (fun d => d.parameters.length) = some 2 := by decide +kernel
set_option maxHeartbeats 4000000 in
set_option maxRecDepth 100000 in
theorem c_X10_hand (l : Launch) (D : va_G) (cy : Nat → ClassId) (ad : Nat → Nat) (σ : Sg) (a0 : Int) (ha0 : (-2147483648 ≤ a0 ∧ a0 < 2147483648)) (a1 : Int) (ha1 : (-2147483648 ≤ a1 ∧ a1 < 2147483648)) : CM l D cy ad yX10_hand wsX10_hand { frames := 3, cells := 0, slots := 0, locals := 120 } [.ref (ad 28), .int (iI a0), .int (iI a1)] σ (some (.int (iI ((f_X10_hand σ a0 a1).1)))) ((f_X10_hand σ a0 a1).2) (True) := by
  refine CM.of (cc := cX10_hand) (maxL := 4) (ret := (some .int)) (by decide) rfl (Nat.le_of_ble_eq_true rfl) ?_
  intro p e s m args below meth c₀ ls X hI hl
  have hl : lv_has ls 4 [(0, .ref (ad 28)), (1, .int (iI a0)), (2, .int (iI a1))] := hl
  obtain ⟨hx, hb, hr, hml, hown, hts, hlocks, hK, hN⟩ := id X
  have hF := hI.2.2.2
  refine lv_aload_n hx hb dX10_hand_0 rfl (lv_at hl 0 rfl) ?_
  refine lv_iconst (v := iI 0) hx hb dX10_hand_1 rfl ?_
  refine g_put (C := RX10) (T := TX10) (N := 44) (ci := 9) (ty := .int) (z := 0) hx hb hts in_X10_hand_X10 tyX10 tyX10_ok nmX10 hown hK hI 28 (by decide) (cel_28 cy ad) rfl 0 (by decide) (by decide +kernel) rfl (by decide +kernel) rfl rfl (Nat.le_of_ble_eq_true rfl) rfl (bw_28_0 (by omega)) dX10_hand_2 (fun H locs hI => ?_)
  have hF_1 := hI.2.2.2
  refine lv_aload_n hx hb dX10_hand_5 rfl (lv_at hl 0 rfl) ?_
  refine lv_iload_n hx hb dX10_hand_6 rfl (lv_at hl 2 rfl) ?_
  refine g_V (As := [.int (iI a1)]) (rest := []) 28 (c_X10_takes l D cy ad (up2 σ 28 0 0) a1 (by omega)) hx hb hml hown hts hK hN hI hl.1 gX10_hand_X10_takes rfl hd_X10_takes rfl rfl ⟨Nat.le_of_ble_eq_true rfl, Nat.le_of_ble_eq_true rfl⟩ ⟨Nat.zero_le _, Nat.zero_le _⟩ (by decide) (cel_28 cy ad _) rfl rfl rfl rfl (Nat.le_of_ble_eq_true rfl) dX10_hand_7 (fun H locs hG_2 hI => ?_)
  have hF_3 := hI.2.2.2
  refine g_if_eq (tgt := 21) hx hb dX10_hand_10 (by decide) (by omega) (fun c_4 => ?_) (fun c_4 => ?_)
  · skip
    refine lv_iconst (v := iI (-1)) hx hb dX10_hand_21 rfl ?_
    have e9 : f_X10_hand σ a0 a1 = ((-1), (f_X10_takes (up2 σ 28 0 0) a1).2) := by rw [f_X10_hand, if_pos c_4]
    exact g_iret (z := (-1)) hx hb hr hK hN hlocks hI (by rw [e9]) (by rw [e9]) trivial dX10_hand_22
  · skip
    refine lv_aload_n hx hb dX10_hand_13 rfl (lv_at hl 0 rfl) ?_
    refine lv_iload_n hx hb dX10_hand_14 rfl (lv_at hl 1 rfl) ?_
    refine g_V (As := [.int (iI a0)]) (rest := []) 28 (c_X10_isFile l D cy ad (f_X10_takes (up2 σ 28 0 0) a1).2 a0 (by omega)) hx hb hml hown hts hK hN hI hl.1 gX10_hand_X10_isFile rfl hd_X10_isFile rfl rfl ⟨Nat.le_of_ble_eq_true rfl, Nat.le_of_ble_eq_true rfl⟩ ⟨Nat.zero_le _, Nat.zero_le _⟩ (by decide) (cel_28 cy ad _) rfl rfl rfl rfl (Nat.le_of_ble_eq_true rfl) dX10_hand_15 (fun H locs hG_5 hI => ?_)
    refine g_if_ne (tgt := 23) hx hb dX10_hand_18 (by decide) (by omega) (fun c_6 => ?_) (fun c_6 => ?_)
    · skip
      refine lv_aload_n hx hb dX10_hand_23 rfl (lv_at hl 0 rfl) ?_
      refine lv_bipush (v := iI 70) hx hb dX10_hand_24 (iI_bip (by decide)) ?_
      refine lv_iload_n hx hb dX10_hand_26 rfl (lv_at hl 1 rfl) ?_
      refine g_V (As := [.int (iI 70), .int (iI a0)]) (rest := []) 28 (c_X10_alikeTo l D cy ad (f_X10_takes (up2 σ 28 0 0) a1).2 70 (by omega) a0 (by omega)) hx hb hml hown hts hK hN hI hl.1 gX10_hand_X10_alikeTo rfl hd_X10_alikeTo rfl rfl ⟨Nat.le_of_ble_eq_true rfl, Nat.le_of_ble_eq_true rfl⟩ ⟨Nat.zero_le _, Nat.zero_le _⟩ (by decide) (cel_28 cy ad _) rfl rfl rfl rfl (Nat.le_of_ble_eq_true rfl) dX10_hand_27 (fun H locs hG_7 hI => ?_)
      refine lv_istore_n (lv' := [(3, .int (iI (f_X10_alikeTo (f_X10_takes (up2 σ 28 0 0) a1).2 70 a0))), (0, .ref (ad 28)), (1, .int (iI a0)), (2, .int (iI a1))]) hx hb dX10_hand_30 rfl hl (by decide) rfl (fun ls hl => ?_)
      refine lv_iload_n hx hb dX10_hand_31 rfl (lv_at hl 0 rfl) ?_
      refine lv_iconst (v := iI (-1)) hx hb dX10_hand_32 rfl ?_
      refine g_icmp_eq (tgt := 41) hx hb dX10_hand_33 (by decide) (by omega) (by omega) (fun c_8 => ?_) (fun c_8 => ?_)
      · skip
        refine lv_aload_n hx hb dX10_hand_41 rfl (lv_at hl 1 rfl) ?_
        refine lv_iload_n hx hb dX10_hand_42 rfl (lv_at hl 2 rfl) ?_
        refine lv_bipush (v := iI 70) hx hb dX10_hand_43 (iI_bip (by decide)) ?_
        refine g_V (As := [.int (iI a0), .int (iI 70)]) (rest := []) 28 (c_X10_goesTo l D cy ad (f_X10_takes (up2 σ 28 0 0) a1).2 a0 (by omega) 70 (by omega)) hx hb hml hown hts hK hN hI hl.1 gX10_hand_X10_goesTo rfl hd_X10_goesTo rfl rfl ⟨Nat.le_of_ble_eq_true rfl, Nat.le_of_ble_eq_true rfl⟩ ⟨Nat.zero_le _, Nat.zero_le _⟩ (by decide) (cel_28 cy ad _) rfl rfl rfl rfl (Nat.le_of_ble_eq_true rfl) dX10_hand_45 (fun H locs hG_9 hI => ?_)
        have hF_10 := hI.2.2.2
        refine lv_iconst (v := iI 0) hx hb dX10_hand_48 rfl ?_
        have e9 : f_X10_hand σ a0 a1 = (0, (f_X10_goesTo (f_X10_takes (up2 σ 28 0 0) a1).2 a0 70)) := by rw [f_X10_hand, if_neg c_4, if_neg c_6, if_pos c_8]
        exact g_iret (z := 0) hx hb hr hK hN hlocks hI (by rw [e9]) (by rw [e9]) trivial dX10_hand_49
      · skip
        refine lv_bipush (v := iI (-2)) hx hb dX10_hand_36 (iI_bip (by decide)) ?_
        refine lv_iload_n hx hb dX10_hand_38 rfl (lv_at hl 0 rfl) ?_
        refine g_isub hx hb dX10_hand_39 ?_
        have e9 : f_X10_hand σ a0 a1 = ((-2) - (f_X10_alikeTo (f_X10_takes (up2 σ 28 0 0) a1).2 70 a0), (f_X10_takes (up2 σ 28 0 0) a1).2) := by rw [f_X10_hand, if_neg c_4, if_neg c_6, if_neg c_8]
        exact g_iret (z := (-2) - (f_X10_alikeTo (f_X10_takes (up2 σ 28 0 0) a1).2 70 a0)) hx hb hr hK hN hlocks hI (by rw [e9]) (by rw [e9]) trivial dX10_hand_40
    · skip
      refine lv_iconst (v := iI (-1)) hx hb dX10_hand_21 rfl ?_
      have e9 : f_X10_hand σ a0 a1 = ((-1), (f_X10_takes (up2 σ 28 0 0) a1).2) := by rw [f_X10_hand, if_neg c_4, if_pos c_6]
      exact g_iret (z := (-1)) hx hb hr hK hN hlocks hI (by rw [e9]) (by rw [e9]) trivial dX10_hand_22
theorem in_X10_at_X10 : ∀ w ∈ u_ws RX10 TX10 44, w ∈ wsX10_at := by decide +kernel
def f_X10_at (σ : Sg) (a0 : Int) : Int × Sg := (if ((f_X10_takes (up2 σ 28 0 0) a0).1) = 0 then ((-1), (f_X10_takes (up2 σ 28 0 0) a0).2) else (f_X10_alikeTo (f_X10_takes (up2 σ 28 0 0) a0).2 70 (-1), (f_X10_takes (up2 σ 28 0 0) a0).2))
theorem hd_X10_at : yX10_at.cls = RX10 ∧ yX10_at.cls ≠ "java/lang/invoke/MethodHandle" ∧ yX10_at.cls ≠ "java/lang/invoke/VarHandle" ∧ (parseMethodDescriptor yX10_at.desc).map (fun d => d.parameters.length) = some 1 := by decide +kernel
set_option maxHeartbeats 4000000 in
set_option maxRecDepth 100000 in
theorem c_X10_at (l : Launch) (D : va_G) (cy : Nat → ClassId) (ad : Nat → Nat) (σ : Sg) (a0 : Int) (ha0 : (-2147483648 ≤ a0 ∧ a0 < 2147483648)) : CM l D cy ad yX10_at wsX10_at { frames := 3, cells := 0, slots := 0, locals := 120 } [.ref (ad 28), .int (iI a0)] σ (some (.int (iI ((f_X10_at σ a0).1)))) ((f_X10_at σ a0).2) (True) := by
  refine CM.of (cc := cX10_at) (maxL := 2) (ret := (some .int)) (by decide) rfl (Nat.le_of_ble_eq_true rfl) ?_
  intro p e s m args below meth c₀ ls X hI hl
  have hl : lv_has ls 2 [(0, .ref (ad 28)), (1, .int (iI a0))] := hl
  obtain ⟨hx, hb, hr, hml, hown, hts, hlocks, hK, hN⟩ := id X
  have hF := hI.2.2.2
  refine lv_aload_n hx hb dX10_at_0 rfl (lv_at hl 0 rfl) ?_
  refine lv_iconst (v := iI 0) hx hb dX10_at_1 rfl ?_
  refine g_put (C := RX10) (T := TX10) (N := 44) (ci := 9) (ty := .int) (z := 0) hx hb hts in_X10_at_X10 tyX10 tyX10_ok nmX10 hown hK hI 28 (by decide) (cel_28 cy ad) rfl 0 (by decide) (by decide +kernel) rfl (by decide +kernel) rfl rfl (Nat.le_of_ble_eq_true rfl) rfl (bw_28_0 (by omega)) dX10_at_2 (fun H locs hI => ?_)
  have hF_1 := hI.2.2.2
  refine lv_aload_n hx hb dX10_at_5 rfl (lv_at hl 0 rfl) ?_
  refine lv_iload_n hx hb dX10_at_6 rfl (lv_at hl 1 rfl) ?_
  refine g_V (As := [.int (iI a0)]) (rest := []) 28 (c_X10_takes l D cy ad (up2 σ 28 0 0) a0 (by omega)) hx hb hml hown hts hK hN hI hl.1 gX10_at_X10_takes rfl hd_X10_takes rfl rfl ⟨Nat.le_of_ble_eq_true rfl, Nat.le_of_ble_eq_true rfl⟩ ⟨Nat.zero_le _, Nat.zero_le _⟩ (by decide) (cel_28 cy ad _) rfl rfl rfl rfl (Nat.le_of_ble_eq_true rfl) dX10_at_7 (fun H locs hG_2 hI => ?_)
  have hF_3 := hI.2.2.2
  refine g_if_eq (tgt := 23) hx hb dX10_at_10 (by decide) (by omega) (fun c_4 => ?_) (fun c_4 => ?_)
  · skip
    refine lv_iconst (v := iI (-1)) hx hb dX10_at_23 rfl ?_
    have e9 : f_X10_at σ a0 = ((-1), (f_X10_takes (up2 σ 28 0 0) a0).2) := by rw [f_X10_at, if_pos c_4]
    exact g_iret (z := (-1)) hx hb hr hK hN hlocks hI (by rw [e9]) (by rw [e9]) trivial dX10_at_24
  · skip
    refine lv_aload_n hx hb dX10_at_13 rfl (lv_at hl 0 rfl) ?_
    refine lv_bipush (v := iI 70) hx hb dX10_at_14 (iI_bip (by decide)) ?_
    refine lv_iconst (v := iI (-1)) hx hb dX10_at_16 rfl ?_
    refine g_V (As := [.int (iI 70), .int (iI (-1))]) (rest := []) 28 (c_X10_alikeTo l D cy ad (f_X10_takes (up2 σ 28 0 0) a0).2 70 (by omega) (-1) (by omega)) hx hb hml hown hts hK hN hI hl.1 gX10_at_X10_alikeTo rfl hd_X10_alikeTo rfl rfl ⟨Nat.le_of_ble_eq_true rfl, Nat.le_of_ble_eq_true rfl⟩ ⟨Nat.zero_le _, Nat.zero_le _⟩ (by decide) (cel_28 cy ad _) rfl rfl rfl rfl (Nat.le_of_ble_eq_true rfl) dX10_at_17 (fun H locs hG_5 hI => ?_)
    refine lv_goto (tgt := 24) hx hb dX10_at_20 (by decide) ?_
    have e9 : f_X10_at σ a0 = (f_X10_alikeTo (f_X10_takes (up2 σ 28 0 0) a0).2 70 (-1), (f_X10_takes (up2 σ 28 0 0) a0).2) := by rw [f_X10_at, if_neg c_4]
    exact g_iret (z := f_X10_alikeTo (f_X10_takes (up2 σ 28 0 0) a0).2 70 (-1)) hx hb hr hK hN hlocks hI (by rw [e9]) (by rw [e9]) trivial dX10_at_24
