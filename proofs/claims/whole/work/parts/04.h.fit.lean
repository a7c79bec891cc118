theorem in_X0_tookBy_X0 : ∀ w ∈ u_ws RX0 TX0 3, w ∈ wsX0_tookBy := by decide +kernel
def f_X0_tookBy (σ : Sg) (a0 : Int) : Int := (if a0 < 0 then (-1) else (if 12 ≤ a0 then (-1) else σ 11 a0.toNat))
theorem hd_X0_tookBy : yX0_tookBy.cls = RX0 ∧ yX0_tookBy.cls ≠ "java/lang/invoke/MethodHandle" ∧ yX0_tookBy.cls ≠ "java/lang/invoke/VarHandle" ∧ (parseMethodDescriptor yX0_tookBy.desc).map (fun d => d.parameters.length) = some 1 := by decide +kernel
set_option maxHeartbeats 4000000 in
set_option maxRecDepth 100000 in
theorem c_X0_tookBy (l : Launch) (D : va_G) (cy : Nat → ClassId) (ad : Nat → Nat) (σ : Sg) (a0 : Int) (ha0 : (-2147483648 ≤ a0 ∧ a0 < 2147483648)) : CM l D cy ad yX0_tookBy wsX0_tookBy { frames := 0, cells := 0, slots := 0, locals := 0 } [.ref (ad 9), .int (iI a0)] σ (some (.int (iI (f_X0_tookBy σ a0)))) σ (-1 ≤ (f_X0_tookBy σ a0) ∧ (f_X0_tookBy σ a0) ≤ 12) := by
  refine CM.of (cc := cX0_tookBy) (maxL := 2) (ret := (some .int)) (by decide) rfl (Nat.le_of_ble_eq_true rfl) ?_
  intro p e s m args below meth c₀ ls X hI hl
  have hl : lv_has ls 2 [(0, .ref (ad 9)), (1, .int (iI a0))] := hl
  obtain ⟨hx, hb, hr, hml, hown, hts, hlocks, hK, hN⟩ := id X
  have hF := hI.2.2.2
  refine lv_iload_n hx hb dX0_tookBy_0 rfl (lv_at hl 1 rfl) ?_
  refine g_if_lt (tgt := 22) hx hb dX0_tookBy_1 (by decide) (by omega) (fun c_1 => ?_) (fun c_1 => ?_)
  · skip
    refine lv_iconst (v := iI (-1)) hx hb dX0_tookBy_22 rfl ?_
    have e9 : f_X0_tookBy σ a0 = (-1) := by rw [f_X0_tookBy, if_pos c_1]
    exact g_iret (z := (-1)) hx hb hr hK hN hlocks hI e9.symm rfl (by rw [e9] <;> first | (omega) | (dsimp only; omega)) dX0_tookBy_23
  · skip
    refine lv_iload_n hx hb dX0_tookBy_4 rfl (lv_at hl 1 rfl) ?_
    refine lv_aload_n hx hb dX0_tookBy_5 rfl (lv_at hl 0 rfl) ?_
    refine g_get (C := RX0) (T := TX0) (N := 3) (ci := 0) (v := .ref (ad 11)) hx hb hts in_X0_tookBy_X0 hown hK hI 9 (by decide) (cel_9 cy ad _) rfl 1 (by decide) (by decide +kernel) rfl dX0_tookBy_6 ?_
    refine g_alen (z := 12) hx hb hK hI 11 0 (by decide) (cel_11 cy ad _) rfl rfl dX0_tookBy_9 ?_
    refine g_icmp_ge (tgt := 22) hx hb dX0_tookBy_10 (by decide) (by omega) (by omega) (fun c_2 => ?_) (fun c_2 => ?_)
    · skip
      refine lv_iconst (v := iI (-1)) hx hb dX0_tookBy_22 rfl ?_
      have e9 : f_X0_tookBy σ a0 = (-1) := by rw [f_X0_tookBy, if_neg c_1, if_pos c_2]
      exact g_iret (z := (-1)) hx hb hr hK hN hlocks hI e9.symm rfl (by rw [e9] <;> first | (omega) | (dsimp only; omega)) dX0_tookBy_23
    · skip
      refine lv_aload_n hx hb dX0_tookBy_13 rfl (lv_at hl 0 rfl) ?_
      refine g_get (C := RX0) (T := TX0) (N := 3) (ci := 0) (v := .ref (ad 11)) hx hb hts in_X0_tookBy_X0 hown hK hI 9 (by decide) (cel_9 cy ad _) rfl 1 (by decide) (by decide +kernel) rfl dX0_tookBy_14 ?_
      refine lv_iload_n hx hb dX0_tookBy_17 rfl (lv_at hl 1 rfl) ?_
      refine g_iald (v := σ 11 a0.toNat) hx hb hK hI 11 (by decide) (cel_11 cy ad) (by omega) (by decide) rfl dX0_tookBy_18 ?_
      have b_3 := bd_11 hF a0.toNat
      refine lv_goto (tgt := 23) hx hb dX0_tookBy_19 (by decide) ?_
      have e9 : f_X0_tookBy σ a0 = σ 11 a0.toNat := by rw [f_X0_tookBy, if_neg c_1, if_neg c_2]
      exact g_iret (z := σ 11 a0.toNat) hx hb hr hK hN hlocks hI e9.symm rfl (by rw [e9] <;> first | (omega) | (dsimp only; omega)) dX0_tookBy_23
theorem in_X0_startOf_X0 : ∀ w ∈ u_ws RX0 TX0 3, w ∈ wsX0_startOf := by decide +kernel
def f_X0_startOf (σ : Sg) (a0 : Int) : Int := (if a0 < 0 then (-1) else (if 12 ≤ a0 then (-1) else σ 12 a0.toNat))
theorem hd_X0_startOf : yX0_startOf.cls = RX0 ∧ yX0_startOf.cls ≠ "java/lang/invoke/MethodHandle" ∧ yX0_startOf.cls ≠ "java/lang/invoke/VarHandle" ∧ (parseMethodDescriptor yX0_startOf.desc).map (fun d => d.parameters.length) = some 1 := by decide +kernel
set_option maxHeartbeats 4000000 in
set_option maxRecDepth 100000 in
theorem c_X0_startOf (l : Launch) (D : va_G) (cy : Nat → ClassId) (ad : Nat → Nat) (σ : Sg) (a0 : Int) (ha0 : (-2147483648 ≤ a0 ∧ a0 < 2147483648)) : CM l D cy ad yX0_startOf wsX0_startOf { frames := 0, cells := 0, slots := 0, locals := 0 } [.ref (ad 9), .int (iI a0)] σ (some (.int (iI (f_X0_startOf σ a0)))) σ (-1 ≤ (f_X0_startOf σ a0) ∧ (f_X0_startOf σ a0) ≤ 200) := by
  refine CM.of (cc := cX0_startOf) (maxL := 2) (ret := (some .int)) (by decide) rfl (Nat.le_of_ble_eq_true rfl) ?_
  intro p e s m args below meth c₀ ls X hI hl
  have hl : lv_has ls 2 [(0, .ref (ad 9)), (1, .int (iI a0))] := hl
  obtain ⟨hx, hb, hr, hml, hown, hts, hlocks, hK, hN⟩ := id X
  have hF := hI.2.2.2
  refine lv_iload_n hx hb dX0_startOf_0 rfl (lv_at hl 1 rfl) ?_
  refine g_if_lt (tgt := 22) hx hb dX0_startOf_1 (by decide) (by omega) (fun c_1 => ?_) (fun c_1 => ?_)
  · skip
    refine lv_iconst (v := iI (-1)) hx hb dX0_startOf_22 rfl ?_
    have e9 : f_X0_startOf σ a0 = (-1) := by rw [f_X0_startOf, if_pos c_1]
    exact g_iret (z := (-1)) hx hb hr hK hN hlocks hI e9.symm rfl (by rw [e9] <;> first | (omega) | (dsimp only; omega)) dX0_startOf_23
  · skip
    refine lv_iload_n hx hb dX0_startOf_4 rfl (lv_at hl 1 rfl) ?_
    refine lv_aload_n hx hb dX0_startOf_5 rfl (lv_at hl 0 rfl) ?_
    refine g_get (C := RX0) (T := TX0) (N := 3) (ci := 0) (v := .ref (ad 12)) hx hb hts in_X0_startOf_X0 hown hK hI 9 (by decide) (cel_9 cy ad _) rfl 2 (by decide) (by decide +kernel) rfl dX0_startOf_6 ?_
    refine g_alen (z := 12) hx hb hK hI 12 0 (by decide) (cel_12 cy ad _) rfl rfl dX0_startOf_9 ?_
    refine g_icmp_ge (tgt := 22) hx hb dX0_startOf_10 (by decide) (by omega) (by omega) (fun c_2 => ?_) (fun c_2 => ?_)
    · skip
      refine lv_iconst (v := iI (-1)) hx hb dX0_startOf_22 rfl ?_
      have e9 : f_X0_startOf σ a0 = (-1) := by rw [f_X0_startOf, if_neg c_1, if_pos c_2]
      exact g_iret (z := (-1)) hx hb hr hK hN hlocks hI e9.symm rfl (by rw [e9] <;> first | (omega) | (dsimp only; omega)) dX0_startOf_23
    · skip
      refine lv_aload_n hx hb dX0_startOf_13 rfl (lv_at hl 0 rfl) ?_
      refine g_get (C := RX0) (T := TX0) (N := 3) (ci := 0) (v := .ref (ad 12)) hx hb hts in_X0_startOf_X0 hown hK hI 9 (by decide) (cel_9 cy ad _) rfl 2 (by decide) (by decide +kernel) rfl dX0_startOf_14 ?_
      refine lv_iload_n hx hb dX0_startOf_17 rfl (lv_at hl 1 rfl) ?_
      refine g_iald (v := σ 12 a0.toNat) hx hb hK hI 12 (by decide) (cel_12 cy ad) (by omega) (by decide) rfl dX0_startOf_18 ?_
      have b_3 := bd_12 hF a0.toNat
      refine lv_goto (tgt := 23) hx hb dX0_startOf_19 (by decide) ?_
      have e9 : f_X0_startOf σ a0 = σ 12 a0.toNat := by rw [f_X0_startOf, if_neg c_1, if_neg c_2]
      exact g_iret (z := σ 12 a0.toNat) hx hb hr hK hN hlocks hI e9.symm rfl (by rw [e9] <;> first | (omega) | (dsimp only; omega)) dX0_startOf_23
theorem in_X0_isWay_X0 : ∀ w ∈ u_ws RX0 TX0 3, w ∈ wsX0_isWay := by decide +kernel
def f_X0_isWay (σ : Sg) (a0 : Int) (a1 : Int) : Int := (if a0 < 0 then 0 else (if 12 < a0 then 0 else (if a1 < 0 then 0 else (if 13 ≤ a1 then 0 else (if (σ 10 (((a0 * 13) + a1).toNat)) = 0 then 0 else 1)))))
theorem hd_X0_isWay : yX0_isWay.cls = RX0 ∧ yX0_isWay.cls ≠ "java/lang/invoke/MethodHandle" ∧ yX0_isWay.cls ≠ "java/lang/invoke/VarHandle" ∧ (parseMethodDescriptor yX0_isWay.desc).map (fun d => d.parameters.length) = some 2 := by decide +kernel
set_option maxHeartbeats 4000000 in
set_option maxRecDepth 100000 in
theorem c_X0_isWay (l : Launch) (D : va_G) (cy : Nat → ClassId) (ad : Nat → Nat) (σ : Sg) (a0 : Int) (ha0 : (-2147483648 ≤ a0 ∧ a0 < 2147483648)) (a1 : Int) (ha1 : (-2147483648 ≤ a1 ∧ a1 < 2147483648)) : CM l D cy ad yX0_isWay wsX0_isWay { frames := 0, cells := 0, slots := 0, locals := 0 } [.ref (ad 9), .int (iI a0), .int (iI a1)] σ (some (.int (iI (f_X0_isWay σ a0 a1)))) σ ((0 ≤ f_X0_isWay σ a0 a1 ∧ f_X0_isWay σ a0 a1 ≤ 1)) := by
  refine CM.of (cc := cX0_isWay) (maxL := 3) (ret := (some .boolean)) (by decide) rfl (Nat.le_of_ble_eq_true rfl) ?_
  intro p e s m args below meth c₀ ls X hI hl
  have hl : lv_has ls 3 [(0, .ref (ad 9)), (1, .int (iI a0)), (2, .int (iI a1))] := hl
  obtain ⟨hx, hb, hr, hml, hown, hts, hlocks, hK, hN⟩ := id X
  have hF := hI.2.2.2
  refine lv_iload_n hx hb dX0_isWay_0 rfl (lv_at hl 1 rfl) ?_
  refine g_if_lt (tgt := 38) hx hb dX0_isWay_1 (by decide) (by omega) (fun c_1 => ?_) (fun c_1 => ?_)
  · skip
    refine lv_iconst (v := iI 0) hx hb dX0_isWay_38 rfl ?_
    have e9 : f_X0_isWay σ a0 a1 = 0 := by rw [f_X0_isWay, if_pos c_1]
    exact g_zret (z := 0) hx hb hr hK hN hlocks hI e9.symm rfl (by rw [e9] <;> first | (omega) | (dsimp only; omega)) (by omega) dX0_isWay_39
  · skip
    refine lv_iload_n hx hb dX0_isWay_4 rfl (lv_at hl 1 rfl) ?_
    refine lv_bipush (v := iI 12) hx hb dX0_isWay_5 (iI_bip (by decide)) ?_
    refine g_icmp_gt (tgt := 38) hx hb dX0_isWay_7 (by decide) (by omega) (by omega) (fun c_2 => ?_) (fun c_2 => ?_)
    · skip
      refine lv_iconst (v := iI 0) hx hb dX0_isWay_38 rfl ?_
      have e9 : f_X0_isWay σ a0 a1 = 0 := by rw [f_X0_isWay, if_neg c_1, if_pos c_2]
      exact g_zret (z := 0) hx hb hr hK hN hlocks hI e9.symm rfl (by rw [e9] <;> first | (omega) | (dsimp only; omega)) (by omega) dX0_isWay_39
    · skip
      refine lv_iload_n hx hb dX0_isWay_10 rfl (lv_at hl 2 rfl) ?_
      refine g_if_lt (tgt := 38) hx hb dX0_isWay_11 (by decide) (by omega) (fun c_3 => ?_) (fun c_3 => ?_)
      · skip
        refine lv_iconst (v := iI 0) hx hb dX0_isWay_38 rfl ?_
        have e9 : f_X0_isWay σ a0 a1 = 0 := by rw [f_X0_isWay, if_neg c_1, if_neg c_2, if_pos c_3]
        exact g_zret (z := 0) hx hb hr hK hN hlocks hI e9.symm rfl (by rw [e9] <;> first | (omega) | (dsimp only; omega)) (by omega) dX0_isWay_39
      · skip
        refine lv_iload_n hx hb dX0_isWay_14 rfl (lv_at hl 2 rfl) ?_
        refine lv_bipush (v := iI 13) hx hb dX0_isWay_15 (iI_bip (by decide)) ?_
        refine g_icmp_ge (tgt := 38) hx hb dX0_isWay_17 (by decide) (by omega) (by omega) (fun c_4 => ?_) (fun c_4 => ?_)
        · skip
          refine lv_iconst (v := iI 0) hx hb dX0_isWay_38 rfl ?_
          have e9 : f_X0_isWay σ a0 a1 = 0 := by rw [f_X0_isWay, if_neg c_1, if_neg c_2, if_neg c_3, if_pos c_4]
          exact g_zret (z := 0) hx hb hr hK hN hlocks hI e9.symm rfl (by rw [e9] <;> first | (omega) | (dsimp only; omega)) (by omega) dX0_isWay_39
        · skip
          refine lv_aload_n hx hb dX0_isWay_20 rfl (lv_at hl 0 rfl) ?_
          refine g_get (C := RX0) (T := TX0) (N := 3) (ci := 0) (v := .ref (ad 10)) hx hb hts in_X0_isWay_X0 hown hK hI 9 (by decide) (cel_9 cy ad _) rfl 0 (by decide) (by decide +kernel) rfl dX0_isWay_21 ?_
          refine lv_iload_n hx hb dX0_isWay_24 rfl (lv_at hl 1 rfl) ?_
          refine lv_bipush (v := iI 13) hx hb dX0_isWay_25 (iI_bip (by decide)) ?_
          refine g_imul hx hb dX0_isWay_27 ?_
          refine lv_iload_n hx hb dX0_isWay_28 rfl (lv_at hl 2 rfl) ?_
          refine g_iadd hx hb dX0_isWay_29 ?_
          refine g_zald (v := σ 10 (((a0 * 13) + a1).toNat)) hx hb hK hI 10 (by decide) (cel_10 cy ad) (by omega) (by decide) rfl dX0_isWay_30 ?_
          have b_5 := bd_10 hF (((a0 * 13) + a1).toNat)
          refine g_if_eq (tgt := 38) hx hb dX0_isWay_31 (by decide) (by omega) (fun c_6 => ?_) (fun c_6 => ?_)
          · skip
            refine lv_iconst (v := iI 0) hx hb dX0_isWay_38 rfl ?_
            have e9 : f_X0_isWay σ a0 a1 = 0 := by rw [f_X0_isWay, if_neg c_1, if_neg c_2, if_neg c_3, if_neg c_4, if_pos c_6]
            exact g_zret (z := 0) hx hb hr hK hN hlocks hI e9.symm rfl (by rw [e9] <;> first | (omega) | (dsimp only; omega)) (by omega) dX0_isWay_39
          · skip
            refine lv_iconst (v := iI 1) hx hb dX0_isWay_34 rfl ?_
            refine lv_goto (tgt := 39) hx hb dX0_isWay_35 (by decide) ?_
            have e9 : f_X0_isWay σ a0 a1 = 1 := by rw [f_X0_isWay, if_neg c_1, if_neg c_2, if_neg c_3, if_neg c_4, if_neg c_6]
            exact g_zret (z := 1) hx hb hr hK hN hlocks hI e9.symm rfl (by rw [e9] <;> first | (omega) | (dsimp only; omega)) (by omega) dX0_isWay_39
def f_X0_takes (a0 : Int) (a1 : Int) : Int := (if a0 = 35 then f_X6_isFigure a1 else (if a0 = 63 then (if a1 = (-1) then 0 else 1) else (if a0 = a1 then 1 else 0)))
theorem hd_X0_takes : yX0_takes.cls ≠ "java/lang/invoke/MethodHandle" ∧ yX0_takes.cls ≠ "java/lang/invoke/VarHandle" ∧ (parseMethodDescriptor yX0_takes.desc).map (fun d => d.parameters.length) = some 2 := by decide +kernel
set_option maxHeartbeats 4000000 in
set_option maxRecDepth 100000 in
theorem c_X0_takes (l : Launch) (D : va_G) (cy : Nat → ClassId) (ad : Nat → Nat) (σ : Sg) (a0 : Int) (ha0 : (-1 : Int) ≤ a0 ∧ a0 ≤ 255) (a1 : Int) (ha1 : (-1 : Int) ≤ a1 ∧ a1 ≤ 255) : CM l D cy ad yX0_takes wsX0_takes { frames := 1, cells := 0, slots := 0, locals := 40 } [.int (iI a0), .int (iI a1)] σ (some (.int (iI (f_X0_takes a0 a1)))) σ ((0 ≤ f_X0_takes a0 a1 ∧ f_X0_takes a0 a1 ≤ 1)) := by
  refine CM.of (cc := cX0_takes) (maxL := 2) (ret := (some .boolean)) (by decide) rfl (Nat.le_of_ble_eq_true rfl) ?_
  intro p e s m args below meth c₀ ls X hI hl
  have hl : lv_has ls 2 [(0, .int (iI a0)), (1, .int (iI a1))] := hl
  obtain ⟨hx, hb, hr, hml, hown, hts, hlocks, hK, hN⟩ := id X
  have hF := hI.2.2.2
  refine lv_iload_n hx hb dX0_takes_0 rfl (lv_at hl 0 rfl) ?_
  by_cases c_1 : a0 = 35
  · refine g_lsw (tgt := 39) (off := 38) hx hb dX0_takes_1 (by decide) (by omega) (by rw [c_1]; rfl) (by decide) ?_
    refine lv_iload_n hx hb dX0_takes_39 rfl (lv_at hl 1 rfl) ?_
    refine g_S (As := [.int (iI a1)]) (rest := []) (c_X6_isFigure l D cy ad σ a1 (by omega)) hx hb hml hown hts hK hN hI hl.1 gX0_takes_X6_isFigure rfl hd_X6_isFigure rfl rfl ⟨Nat.le_of_ble_eq_true rfl, Nat.le_of_ble_eq_true rfl⟩ ⟨Nat.zero_le _, Nat.zero_le _⟩ rfl rfl (Nat.le_of_ble_eq_true rfl) dX0_takes_40 (fun H locs hG_2 hI => ?_)
    have e9 : f_X0_takes a0 a1 = f_X6_isFigure a1 := by rw [f_X0_takes, if_pos c_1]
    exact g_zret (z := f_X6_isFigure a1) hx hb hr hK hN hlocks hI e9.symm rfl (by rw [e9] <;> first | (omega) | (dsimp only; omega)) (by omega) dX0_takes_43
  · skip
    by_cases c_3 : a0 = 63
    · refine g_lsw (tgt := 28) (off := 27) hx hb dX0_takes_1 (by decide) (by omega) (by rw [c_3]; rfl) (by decide) ?_
      refine lv_iload_n hx hb dX0_takes_28 rfl (lv_at hl 1 rfl) ?_
      refine lv_iconst (v := iI (-1)) hx hb dX0_takes_29 rfl ?_
      refine g_icmp_eq (tgt := 37) hx hb dX0_takes_30 (by decide) (by omega) (by omega) (fun c_4 => ?_) (fun c_4 => ?_)
      · skip
        refine lv_iconst (v := iI 0) hx hb dX0_takes_37 rfl ?_
        have e9 : f_X0_takes a0 a1 = 0 := by rw [f_X0_takes, if_neg c_1, if_pos c_3, if_pos c_4]
        exact g_zret (z := 0) hx hb hr hK hN hlocks hI e9.symm rfl (by rw [e9] <;> first | (omega) | (dsimp only; omega)) (by omega) dX0_takes_38
      · skip
        refine lv_iconst (v := iI 1) hx hb dX0_takes_33 rfl ?_
        refine lv_goto (tgt := 38) hx hb dX0_takes_34 (by decide) ?_
        have e9 : f_X0_takes a0 a1 = 1 := by rw [f_X0_takes, if_neg c_1, if_pos c_3, if_neg c_4]
        exact g_zret (z := 1) hx hb hr hK hN hlocks hI e9.symm rfl (by rw [e9] <;> first | (omega) | (dsimp only; omega)) (by omega) dX0_takes_38
    · skip
      refine g_lsw (tgt := 44) (off := 43) hx hb dX0_takes_1 (by decide) (by omega) (by simp [Op.lookupswitch.offset, Ne.symm c_1, Ne.symm c_3]) (by decide) ?_
      refine lv_iload_n hx hb dX0_takes_44 rfl (lv_at hl 0 rfl) ?_
      refine lv_iload_n hx hb dX0_takes_45 rfl (lv_at hl 1 rfl) ?_
      refine g_icmp_ne (tgt := 53) hx hb dX0_takes_46 (by decide) (by omega) (by omega) (fun c_5 => ?_) (fun c_5 => ?_)
      · skip
        refine lv_iconst (v := iI 0) hx hb dX0_takes_53 rfl ?_
        have e9 : f_X0_takes a0 a1 = 0 := by rw [f_X0_takes, if_neg c_1, if_neg c_3, if_neg c_5]
        exact g_zret (z := 0) hx hb hr hK hN hlocks hI e9.symm rfl (by rw [e9] <;> first | (omega) | (dsimp only; omega)) (by omega) dX0_takes_54
      · skip
        refine lv_iconst (v := iI 1) hx hb dX0_takes_49 rfl ?_
        refine lv_goto (tgt := 54) hx hb dX0_takes_50 (by decide) ?_
        have e9 : f_X0_takes a0 a1 = 1 := by rw [f_X0_takes, if_neg c_1, if_neg c_3, if_pos c_5]
        exact g_zret (z := 1) hx hb hr hK hN hlocks hI e9.symm rfl (by rw [e9] <;> first | (omega) | (dsimp only; omega)) (by omega) dX0_takes_54
theorem in_X0_hasWay_X2 : ∀ w ∈ u_ws RX2 TX2 3, w ∈ wsX0_hasWay := by decide +kernel
def f_X0_hasWay (σ : Sg) (a0 : Int) (a1 : Int) (q2 : Nat) (a3 : Int) : Int := (if a0 = 42 then (if (f_X0_isWay σ (a1 + 1) a3) = 0 then (if (σ q2 2) ≤ a3 then 0 else (if (f_X0_isWay σ a1 (a3 + 1)) = 0 then 0 else 1)) else 1) else (if (f_X0_takes a0 (f_X2_byteAt σ q2 a3)) = 0 then 0 else (if (f_X0_isWay σ (a1 + 1) (a3 + 1)) = 0 then (if a0 = 35 then (if (f_X0_isWay σ a1 (a3 + 1)) = 0 then 0 else 1) else 0) else 1)))
theorem hd_X0_hasWay : yX0_hasWay.cls = RX0 ∧ yX0_hasWay.cls ≠ "java/lang/invoke/MethodHandle" ∧ yX0_hasWay.cls ≠ "java/lang/invoke/VarHandle" ∧ (parseMethodDescriptor yX0_hasWay.desc).map (fun d => d.parameters.length) = some 4 := by decide +kernel
set_option maxHeartbeats 4000000 in
set_option maxRecDepth 100000 in
theorem c_X0_hasWay (l : Launch) (D : va_G) (cy : Nat → ClassId) (ad : Nat → Nat) (σ : Sg) (a0 : Int) (ha0 : (-1 : Int) ≤ a0 ∧ a0 ≤ 255) (a1 : Int) (ha1 : (0 : Int) ≤ a1 ∧ a1 ≤ 11) (q2 : Nat) (hq2 : isPl q2) (a3 : Int) (ha3 : (0 : Int) ≤ a3 ∧ a3 ≤ 12) : CM l D cy ad yX0_hasWay wsX0_hasWay { frames := 2, cells := 0, slots := 0, locals := 80 } [.ref (ad 9), .int (iI a0), .int (iI a1), .ref (ad q2), .int (iI a3)] σ (some (.int (iI (f_X0_hasWay σ a0 a1 q2 a3)))) σ ((0 ≤ f_X0_hasWay σ a0 a1 q2 a3 ∧ f_X0_hasWay σ a0 a1 q2 a3 ≤ 1)) := by
  refine CM.of (cc := cX0_hasWay) (maxL := 5) (ret := (some .boolean)) (by decide) rfl (Nat.le_of_ble_eq_true rfl) ?_
  intro p e s m args below meth c₀ ls X hI hl
  have hl : lv_has ls 5 [(0, .ref (ad 9)), (1, .int (iI a0)), (2, .int (iI a1)), (3, .ref (ad q2)), (4, .int (iI a3))] := hl
  obtain ⟨hx, hb, hr, hml, hown, hts, hlocks, hK, hN⟩ := id X
  have hF := hI.2.2.2
  refine lv_iload_n hx hb dX0_hasWay_0 rfl (lv_at hl 1 rfl) ?_
  refine lv_bipush (v := iI 42) hx hb dX0_hasWay_1 (iI_bip (by decide)) ?_
  refine g_icmp_ne (tgt := 45) hx hb dX0_hasWay_3 (by decide) (by omega) (by omega) (fun c_1 => ?_) (fun c_1 => ?_)
  · skip
    refine lv_iload_n hx hb dX0_hasWay_45 rfl (lv_at hl 1 rfl) ?_
    refine lv_aload_n hx hb dX0_hasWay_46 rfl (lv_at hl 3 rfl) ?_
    refine lv_iload hx hb dX0_hasWay_47 (lv_at hl 4 rfl) ?_
    refine g_V (As := [.int (iI a3)]) (rest := [.int (iI a0)]) q2 (c_X2_byteAt l D cy ad σ q2 hq2 a3 (by omega)) hx hb hml hown hts hK hN hI hl.1 gX0_hasWay_X2_byteAt rfl hd_X2_byteAt rfl rfl ⟨Nat.le_of_ble_eq_true rfl, Nat.le_of_ble_eq_true rfl⟩ ⟨Nat.zero_le _, Nat.zero_le _⟩ (by have q := hq2; omega) (cel_Pl cy ad hq2 _) rfl rfl rfl rfl (Nat.le_of_ble_eq_true rfl) dX0_hasWay_49 (fun H locs hG_2 hI => ?_)
    refine g_S (As := [.int (iI a0), .int (iI (f_X2_byteAt σ q2 a3))]) (rest := []) (c_X0_takes l D cy ad σ a0 (by omega) (f_X2_byteAt σ q2 a3) (by omega)) hx hb hml hown hts hK hN hI hl.1 gX0_hasWay_X0_takes rfl hd_X0_takes rfl rfl ⟨Nat.le_of_ble_eq_true rfl, Nat.le_of_ble_eq_true rfl⟩ ⟨Nat.zero_le _, Nat.zero_le _⟩ rfl rfl (Nat.le_of_ble_eq_true rfl) dX0_hasWay_52 (fun H locs hG_3 hI => ?_)
    refine g_if_ne (tgt := 60) hx hb dX0_hasWay_55 (by decide) (by omega) (fun c_4 => ?_) (fun c_4 => ?_)
    · skip
      refine lv_aload_n hx hb dX0_hasWay_60 rfl (lv_at hl 0 rfl) ?_
      refine lv_iload_n hx hb dX0_hasWay_61 rfl (lv_at hl 2 rfl) ?_
      refine lv_iconst (v := iI 1) hx hb dX0_hasWay_62 rfl ?_
      refine g_iadd hx hb dX0_hasWay_63 ?_
      refine lv_iload hx hb dX0_hasWay_64 (lv_at hl 4 rfl) ?_
      refine lv_iconst (v := iI 1) hx hb dX0_hasWay_66 rfl ?_
      refine g_iadd hx hb dX0_hasWay_67 ?_
      refine g_V (As := [.int (iI (a1 + 1)), .int (iI (a3 + 1))]) (rest := []) 9 (c_X0_isWay l D cy ad σ (a1 + 1) (by omega) (a3 + 1) (by omega)) hx hb hml hown hts hK hN hI hl.1 gX0_hasWay_X0_isWay rfl hd_X0_isWay rfl rfl ⟨Nat.le_of_ble_eq_true rfl, Nat.le_of_ble_eq_true rfl⟩ ⟨Nat.zero_le _, Nat.zero_le _⟩ (by decide) (cel_9 cy ad _) rfl rfl rfl rfl (Nat.le_of_ble_eq_true rfl) dX0_hasWay_68 (fun H locs hG_5 hI => ?_)
      refine g_if_ne (tgt := 92) hx hb dX0_hasWay_71 (by decide) (by omega) (fun c_6 => ?_) (fun c_6 => ?_)
      · skip
        refine lv_iconst (v := iI 1) hx hb dX0_hasWay_92 rfl ?_
        refine lv_goto (tgt := 97) hx hb dX0_hasWay_93 (by decide) ?_
        have e9 : f_X0_hasWay σ a0 a1 q2 a3 = 1 := by rw [f_X0_hasWay, if_neg c_1, if_neg c_4, if_neg c_6]
        exact g_zret (z := 1) hx hb hr hK hN hlocks hI e9.symm rfl (by rw [e9] <;> first | (omega) | (dsimp only; omega)) (by omega) dX0_hasWay_97
      · skip
        refine lv_iload_n hx hb dX0_hasWay_74 rfl (lv_at hl 1 rfl) ?_
        refine lv_bipush (v := iI 35) hx hb dX0_hasWay_75 (iI_bip (by decide)) ?_
        refine g_icmp_ne (tgt := 96) hx hb dX0_hasWay_77 (by decide) (by omega) (by omega) (fun c_7 => ?_) (fun c_7 => ?_)
        · skip
          refine lv_iconst (v := iI 0) hx hb dX0_hasWay_96 rfl ?_
          have e9 : f_X0_hasWay σ a0 a1 q2 a3 = 0 := by rw [f_X0_hasWay, if_neg c_1, if_neg c_4, if_pos c_6, if_neg c_7]
          exact g_zret (z := 0) hx hb hr hK hN hlocks hI e9.symm rfl (by rw [e9] <;> first | (omega) | (dsimp only; omega)) (by omega) dX0_hasWay_97
        · skip
          refine lv_aload_n hx hb dX0_hasWay_80 rfl (lv_at hl 0 rfl) ?_
          refine lv_iload_n hx hb dX0_hasWay_81 rfl (lv_at hl 2 rfl) ?_
          refine lv_iload hx hb dX0_hasWay_82 (lv_at hl 4 rfl) ?_
          refine lv_iconst (v := iI 1) hx hb dX0_hasWay_84 rfl ?_
          refine g_iadd hx hb dX0_hasWay_85 ?_
          refine g_V (As := [.int (iI a1), .int (iI (a3 + 1))]) (rest := []) 9 (c_X0_isWay l D cy ad σ a1 (by omega) (a3 + 1) (by omega)) hx hb hml hown hts hK hN hI hl.1 gX0_hasWay_X0_isWay rfl hd_X0_isWay rfl rfl ⟨Nat.le_of_ble_eq_true rfl, Nat.le_of_ble_eq_true rfl⟩ ⟨Nat.zero_le _, Nat.zero_le _⟩ (by decide) (cel_9 cy ad _) rfl rfl rfl rfl (Nat.le_of_ble_eq_true rfl) dX0_hasWay_86 (fun H locs hG_8 hI => ?_)
          refine g_if_eq (tgt := 96) hx hb dX0_hasWay_89 (by decide) (by omega) (fun c_9 => ?_) (fun c_9 => ?_)
          · skip
            refine lv_iconst (v := iI 0) hx hb dX0_hasWay_96 rfl ?_
            have e9 : f_X0_hasWay σ a0 a1 q2 a3 = 0 := by rw [f_X0_hasWay, if_neg c_1, if_neg c_4, if_pos c_6, if_pos c_7, if_pos c_9]
            exact g_zret (z := 0) hx hb hr hK hN hlocks hI e9.symm rfl (by rw [e9] <;> first | (omega) | (dsimp only; omega)) (by omega) dX0_hasWay_97
          · skip
            refine lv_iconst (v := iI 1) hx hb dX0_hasWay_92 rfl ?_
            refine lv_goto (tgt := 97) hx hb dX0_hasWay_93 (by decide) ?_
            have e9 : f_X0_hasWay σ a0 a1 q2 a3 = 1 := by rw [f_X0_hasWay, if_neg c_1, if_neg c_4, if_pos c_6, if_pos c_7, if_neg c_9]
            exact g_zret (z := 1) hx hb hr hK hN hlocks hI e9.symm rfl (by rw [e9] <;> first | (omega) | (dsimp only; omega)) (by omega) dX0_hasWay_97
    · skip
      refine lv_iconst (v := iI 0) hx hb dX0_hasWay_58 rfl ?_
      have e9 : f_X0_hasWay σ a0 a1 q2 a3 = 0 := by rw [f_X0_hasWay, if_neg c_1, if_pos c_4]
      exact g_zret (z := 0) hx hb hr hK hN hlocks hI e9.symm rfl (by rw [e9] <;> first | (omega) | (dsimp only; omega)) (by omega) dX0_hasWay_59
  · skip
    refine lv_aload_n hx hb dX0_hasWay_6 rfl (lv_at hl 0 rfl) ?_
    refine lv_iload_n hx hb dX0_hasWay_7 rfl (lv_at hl 2 rfl) ?_
    refine lv_iconst (v := iI 1) hx hb dX0_hasWay_8 rfl ?_
    refine g_iadd hx hb dX0_hasWay_9 ?_
    refine lv_iload hx hb dX0_hasWay_10 (lv_at hl 4 rfl) ?_
    refine g_V (As := [.int (iI (a1 + 1)), .int (iI a3)]) (rest := []) 9 (c_X0_isWay l D cy ad σ (a1 + 1) (by omega) a3 (by omega)) hx hb hml hown hts hK hN hI hl.1 gX0_hasWay_X0_isWay rfl hd_X0_isWay rfl rfl ⟨Nat.le_of_ble_eq_true rfl, Nat.le_of_ble_eq_true rfl⟩ ⟨Nat.zero_le _, Nat.zero_le _⟩ (by decide) (cel_9 cy ad _) rfl rfl rfl rfl (Nat.le_of_ble_eq_true rfl) dX0_hasWay_12 (fun H locs hG_10 hI => ?_)
    refine g_if_ne (tgt := 39) hx hb dX0_hasWay_15 (by decide) (by omega) (fun c_11 => ?_) (fun c_11 => ?_)
    · skip
      refine lv_iconst (v := iI 1) hx hb dX0_hasWay_39 rfl ?_
      refine lv_goto (tgt := 44) hx hb dX0_hasWay_40 (by decide) ?_
      have e9 : f_X0_hasWay σ a0 a1 q2 a3 = 1 := by rw [f_X0_hasWay, if_pos c_1, if_neg c_11]
      exact g_zret (z := 1) hx hb hr hK hN hlocks hI e9.symm rfl (by rw [e9] <;> first | (omega) | (dsimp only; omega)) (by omega) dX0_hasWay_44
    · skip
      refine lv_iload hx hb dX0_hasWay_18 (lv_at hl 4 rfl) ?_
      refine lv_aload_n hx hb dX0_hasWay_20 rfl (lv_at hl 3 rfl) ?_
      refine g_getN (C := RX2) (T := TX2) (N := 3) (ci := 2) (v := .int (iI (σ q2 2))) hx hb hts in_X0_hasWay_X2 hown hK hN hI q2 (by have q := hq2; omega) (cel_Pl cy ad hq2 _) rfl 2 (by decide) (by decide +kernel) rfl dX0_hasWay_21 ?_
      have b_12 := bd_Pl_2 hF hq2
      refine g_icmp_ge (tgt := 43) hx hb dX0_hasWay_24 (by decide) (by omega) (by omega) (fun c_13 => ?_) (fun c_13 => ?_)
      · skip
        refine lv_iconst (v := iI 0) hx hb dX0_hasWay_43 rfl ?_
        have e9 : f_X0_hasWay σ a0 a1 q2 a3 = 0 := by rw [f_X0_hasWay, if_pos c_1, if_pos c_11, if_pos c_13]
        exact g_zret (z := 0) hx hb hr hK hN hlocks hI e9.symm rfl (by rw [e9] <;> first | (omega) | (dsimp only; omega)) (by omega) dX0_hasWay_44
      · skip
        refine lv_aload_n hx hb dX0_hasWay_27 rfl (lv_at hl 0 rfl) ?_
        refine lv_iload_n hx hb dX0_hasWay_28 rfl (lv_at hl 2 rfl) ?_
        refine lv_iload hx hb dX0_hasWay_29 (lv_at hl 4 rfl) ?_
        refine lv_iconst (v := iI 1) hx hb dX0_hasWay_31 rfl ?_
        refine g_iadd hx hb dX0_hasWay_32 ?_
        refine g_V (As := [.int (iI a1), .int (iI (a3 + 1))]) (rest := []) 9 (c_X0_isWay l D cy ad σ a1 (by omega) (a3 + 1) (by omega)) hx hb hml hown hts hK hN hI hl.1 gX0_hasWay_X0_isWay rfl hd_X0_isWay rfl rfl ⟨Nat.le_of_ble_eq_true rfl, Nat.le_of_ble_eq_true rfl⟩ ⟨Nat.zero_le _, Nat.zero_le _⟩ (by decide) (cel_9 cy ad _) rfl rfl rfl rfl (Nat.le_of_ble_eq_true rfl) dX0_hasWay_33 (fun H locs hG_14 hI => ?_)
        refine g_if_eq (tgt := 43) hx hb dX0_hasWay_36 (by decide) (by omega) (fun c_15 => ?_) (fun c_15 => ?_)
        · skip
          refine lv_iconst (v := iI 0) hx hb dX0_hasWay_43 rfl ?_
          have e9 : f_X0_hasWay σ a0 a1 q2 a3 = 0 := by rw [f_X0_hasWay, if_pos c_1, if_pos c_11, if_neg c_13, if_pos c_15]
          exact g_zret (z := 0) hx hb hr hK hN hlocks hI e9.symm rfl (by rw [e9] <;> first | (omega) | (dsimp only; omega)) (by omega) dX0_hasWay_44
        · skip
          refine lv_iconst (v := iI 1) hx hb dX0_hasWay_39 rfl ?_
          refine lv_goto (tgt := 44) hx hb dX0_hasWay_40 (by decide) ?_
          have e9 : f_X0_hasWay σ a0 a1 q2 a3 = 1 := by rw [f_X0_hasWay, if_pos c_1, if_pos c_11, if_neg c_13, if_neg c_15]
          exact g_zret (z := 1) hx hb hr hK hN hlocks hI e9.symm rfl (by rw [e9] <;> first | (omega) | (dsimp only; omega)) (by omega) dX0_hasWay_44
theorem in_X0_findWays_X0 : ∀ w ∈ u_ws RX0 TX0 3, w ∈ wsX0_findWays := by decide +kernel
theorem in_X0_findWays_X2 : ∀ w ∈ u_ws RX2 TX2 3, w ∈ wsX0_findWays := by decide +kernel
def L_X0_findWays_8 (q0 : Nat) (q1 : Nat) : Nat → Int → Int → Sg → Sg
  | 0, x3, x4, σ => (σ)
  | n + 1, x3, x4, σ => (if (σ q1 2) < x4 then σ else (if x4 = (σ q1 2) then L_X0_findWays_8 q0 q1 n x3 (x4 + 1) (up2 σ 10 (((x3 * 13) + x4).toNat) 1) else L_X0_findWays_8 q0 q1 n x3 (x4 + 1) (up2 σ 10 (((x3 * 13) + x4).toNat) 0)))
set_option maxHeartbeats 4000000 in
set_option maxRecDepth 100000 in
theorem w_L_X0_findWays_8 {p : Program} {l : Launch} {e : Env} {s : State} {m : MethodId} {args : Array Value} {below : List Frame} {meth : Method} {c₀ : Code} {D : va_G} {cy : Nat → ClassId} {ad : Nat → Nat} {Q : State → Prop} (X : MX p s m args meth c₀ cX0_findWays 6 RX0 none wsX0_findWays D cy) (q0 : Nat) (hq0 : isRu q0) (q1 : Nat) (hq1 : isPl q1) : ∀ (n : Nat) (x3 : Int) (x4 : Int) (σ : Sg) (hx3 : (0 : Int) ≤ x3 ∧ x3 ≤ 12) (hx4 : (0 : Int) ≤ x4 ∧ x4 ≤ 13) (hmu : 13 - x4 < (n : Int)) (H : Heap) (locs : List Loc) (ls : Array Slot) (hI : HI D cy ad s σ H locs) (hl : lv_has ls 6 [(0, .ref (ad 9)), (1, .ref (ad q0)), (2, .ref (ad q1)), (3, .int (iI x3)), (4, .int (iI x4))])  (hk : ∀ (H1 : Heap) (locs1 : List Loc) (ls1 : Array Slot), True → HI D cy ad s (L_X0_findWays_8 q0 q1 n x3 x4 σ) H1 locs1 → lv_has ls1 6 [(0, .ref (ad 9)), (1, .ref (ad q0)), (2, .ref (ad q1)), (3, .int (iI x3))] → W p l e { frames := 3, cells := 0, slots := 0, locals := 120 } s m args below meth c₀ H1 locs1 0 0 Q (F0 m 49 ls1 [])), W p l e { frames := 3, cells := 0, slots := 0, locals := 120 } s m args below meth c₀ H locs 0 0 Q (F0 m 8 ls []) := by
  obtain ⟨hx, hb, hr, hml, hown, hts, hlocks, hK, hN⟩ := id X
  intro n
  induction n with
  | zero =>
    intro x3 x4 σ hx3 hx4 hmu H locs ls hI hl hk
    exfalso
    have hF := hI.2.2.2
    omega
  | succ n ih =>
    intro x3 x4 σ hx3 hx4 hmu H locs ls hI hl hk
    have hF := hI.2.2.2
    refine lv_iload hx hb dX0_findWays_8 (lv_at hl 4 rfl) ?_
    refine lv_aload_n hx hb dX0_findWays_10 rfl (lv_at hl 2 rfl) ?_
    refine g_getN (C := RX2) (T := TX2) (N := 3) (ci := 2) (v := .int (iI (σ q1 2))) hx hb hts in_X0_findWays_X2 hown hK hN hI q1 (by have q := hq1; omega) (cel_Pl cy ad hq1 _) rfl 2 (by decide) (by decide +kernel) rfl dX0_findWays_11 ?_
    have b_2 := bd_Pl_2 hF hq1
    refine g_icmp_gt (tgt := 49) hx hb dX0_findWays_14 (by decide) (by omega) (by omega) (fun c_3 => ?_) (fun c_3 => ?_)
    · skip
      have e9 : L_X0_findWays_8 q0 q1 (n + 1) x3 x4 σ = σ := by rw [L_X0_findWays_8, if_pos c_3]
      rw [e9] at hk
      exact hk _ _ _ trivial hI (lv_sub hl [0, 1, 2, 3] rfl)
    · skip
      refine lv_aload_n hx hb dX0_findWays_17 rfl (lv_at hl 0 rfl) ?_
      refine g_get (C := RX0) (T := TX0) (N := 3) (ci := 0) (v := .ref (ad 10)) hx hb hts in_X0_findWays_X0 hown hK hI 9 (by decide) (cel_9 cy ad _) rfl 0 (by decide) (by decide +kernel) rfl dX0_findWays_18 ?_
      refine lv_iload_n hx hb dX0_findWays_21 rfl (lv_at hl 3 rfl) ?_
      refine lv_bipush (v := iI 13) hx hb dX0_findWays_22 (iI_bip (by decide)) ?_
      refine g_imul hx hb dX0_findWays_24 ?_
      refine lv_iload hx hb dX0_findWays_25 (lv_at hl 4 rfl) ?_
      refine g_iadd hx hb dX0_findWays_27 ?_
      refine lv_iload hx hb dX0_findWays_28 (lv_at hl 4 rfl) ?_
      refine lv_aload_n hx hb dX0_findWays_30 rfl (lv_at hl 2 rfl) ?_
      refine g_getN (C := RX2) (T := TX2) (N := 3) (ci := 2) (v := .int (iI (σ q1 2))) hx hb hts in_X0_findWays_X2 hown hK hN hI q1 (by have q := hq1; omega) (cel_Pl cy ad hq1 _) rfl 2 (by decide) (by decide +kernel) rfl dX0_findWays_31 ?_
      have b_4 := bd_Pl_2 hF hq1
      refine g_icmp_ne (tgt := 41) hx hb dX0_findWays_34 (by decide) (by omega) (by omega) (fun c_5 => ?_) (fun c_5 => ?_)
      · skip
        refine lv_iconst (v := iI 0) hx hb dX0_findWays_41 rfl ?_
        refine g_zast hx hb hK hI 10 (by decide) (cel_10 cy ad) (by omega) (by decide) (by omega) (bw_10 (by omega)) dX0_findWays_42 (fun H locs hI => ?_)
        have hF_6 : WF (up2 σ 10 (((x3 * 13) + x4).toNat) 0) := hI.2.2.2
        refine lv_iinc (v := iI (x4 + 1)) (lv' := [(4, .int (iI (x4 + 1))), (0, .ref (ad 9)), (1, .ref (ad q0)), (2, .ref (ad q1)), (3, .int (iI x3))]) hx hb dX0_findWays_43 hl (k := 4) rfl (iI_add _ _) (by decide) rfl (fun ls hl => ?_)
        refine lv_goto (tgt := 8) hx hb dX0_findWays_46 (by decide) ?_
        have e9 : L_X0_findWays_8 q0 q1 (n + 1) x3 x4 σ = L_X0_findWays_8 q0 q1 n x3 (x4 + 1) (up2 σ 10 (((x3 * 13) + x4).toNat) 0) := by rw [L_X0_findWays_8, if_neg c_3, if_neg c_5]
        rw [e9] at hk
        exact ih x3 (x4 + 1) (up2 σ 10 (((x3 * 13) + x4).toNat) 0) (by omega) (by omega) (by omega) _ _ _ hI (lv_sub hl [1, 2, 3, 4, 0] rfl) hk
      · skip
        refine lv_iconst (v := iI 1) hx hb dX0_findWays_37 rfl ?_
        refine lv_goto (tgt := 42) hx hb dX0_findWays_38 (by decide) ?_
        refine g_zast hx hb hK hI 10 (by decide) (cel_10 cy ad) (by omega) (by decide) (by omega) (bw_10 (by omega)) dX0_findWays_42 (fun H locs hI => ?_)
        have hF_7 : WF (up2 σ 10 (((x3 * 13) + x4).toNat) 1) := hI.2.2.2
        refine lv_iinc (v := iI (x4 + 1)) (lv' := [(4, .int (iI (x4 + 1))), (0, .ref (ad 9)), (1, .ref (ad q0)), (2, .ref (ad q1)), (3, .int (iI x3))]) hx hb dX0_findWays_43 hl (k := 4) rfl (iI_add _ _) (by decide) rfl (fun ls hl => ?_)
        refine lv_goto (tgt := 8) hx hb dX0_findWays_46 (by decide) ?_
        have e9 : L_X0_findWays_8 q0 q1 (n + 1) x3 x4 σ = L_X0_findWays_8 q0 q1 n x3 (x4 + 1) (up2 σ 10 (((x3 * 13) + x4).toNat) 1) := by rw [L_X0_findWays_8, if_neg c_3, if_pos c_5]
        rw [e9] at hk
        exact ih x3 (x4 + 1) (up2 σ 10 (((x3 * 13) + x4).toNat) 1) (by omega) (by omega) (by omega) _ _ _ hI (lv_sub hl [1, 2, 3, 4, 0] rfl) hk
def L_X0_findWays_65 (q0 : Nat) (q1 : Nat) : Nat → Int → Int → Sg → Sg
  | 0, x4, x5, σ => (σ)
  | n + 1, x4, x5, σ => (if x5 < 0 then σ else L_X0_findWays_65 q0 q1 n x4 (x5 + (-1)) (up2 σ 10 (((x4 * 13) + x5).toNat) (f_X0_hasWay σ (f_X5_item σ q0 x4) x4 q1 x5)))
set_option maxHeartbeats 4000000 in
set_option maxRecDepth 100000 in
theorem w_L_X0_findWays_65 {p : Program} {l : Launch} {e : Env} {s : State} {m : MethodId} {args : Array Value} {below : List Frame} {meth : Method} {c₀ : Code} {D : va_G} {cy : Nat → ClassId} {ad : Nat → Nat} {Q : State → Prop} (X : MX p s m args meth c₀ cX0_findWays 6 RX0 none wsX0_findWays D cy) (q0 : Nat) (hq0 : isRu q0) (q1 : Nat) (hq1 : isPl q1) : ∀ (n : Nat) (x4 : Int) (x5 : Int) (σ : Sg) (hx4 : (0 : Int) ≤ x4 ∧ x4 ≤ 11) (hx5 : (-1 : Int) ≤ x5 ∧ x5 ≤ 12) (hmu : x5 + 1 < (n : Int)) (H : Heap) (locs : List Loc) (ls : Array Slot) (hI : HI D cy ad s σ H locs) (hl : lv_has ls 6 [(0, .ref (ad 9)), (1, .ref (ad q0)), (2, .ref (ad q1)), (4, .int (iI x4)), (5, .int (iI x5))])  (hk : ∀ (H1 : Heap) (locs1 : List Loc) (ls1 : Array Slot), True → HI D cy ad s (L_X0_findWays_65 q0 q1 n x4 x5 σ) H1 locs1 → lv_has ls1 6 [(0, .ref (ad 9)), (1, .ref (ad q0)), (2, .ref (ad q1)), (4, .int (iI x4))] → W p l e { frames := 3, cells := 0, slots := 0, locals := 120 } s m args below meth c₀ H1 locs1 0 0 Q (F0 m 104 ls1 [])), W p l e { frames := 3, cells := 0, slots := 0, locals := 120 } s m args below meth c₀ H locs 0 0 Q (F0 m 65 ls []) := by
  obtain ⟨hx, hb, hr, hml, hown, hts, hlocks, hK, hN⟩ := id X
  intro n
  induction n with
  | zero =>
    intro x4 x5 σ hx4 hx5 hmu H locs ls hI hl hk
    exfalso
    have hF := hI.2.2.2
    omega
  | succ n ih =>
    intro x4 x5 σ hx4 hx5 hmu H locs ls hI hl hk
    have hF := hI.2.2.2
    refine lv_iload hx hb dX0_findWays_65 (lv_at hl 4 rfl) ?_
    refine g_if_lt (tgt := 104) hx hb dX0_findWays_67 (by decide) (by omega) (fun c_12 => ?_) (fun c_12 => ?_)
    · skip
      have e9 : L_X0_findWays_65 q0 q1 (n + 1) x4 x5 σ = σ := by rw [L_X0_findWays_65, if_pos c_12]
      rw [e9] at hk
      exact hk _ _ _ trivial hI (lv_sub hl [0, 1, 2, 3] rfl)
    · skip
      refine lv_aload_n hx hb dX0_findWays_70 rfl (lv_at hl 0 rfl) ?_
      refine g_get (C := RX0) (T := TX0) (N := 3) (ci := 0) (v := .ref (ad 10)) hx hb hts in_X0_findWays_X0 hown hK hI 9 (by decide) (cel_9 cy ad _) rfl 0 (by decide) (by decide +kernel) rfl dX0_findWays_71 ?_
      refine lv_iload hx hb dX0_findWays_74 (lv_at hl 3 rfl) ?_
      refine lv_bipush (v := iI 13) hx hb dX0_findWays_76 (iI_bip (by decide)) ?_
      refine g_imul hx hb dX0_findWays_78 ?_
      refine lv_iload hx hb dX0_findWays_79 (lv_at hl 4 rfl) ?_
      refine g_iadd hx hb dX0_findWays_81 ?_
      refine lv_aload_n hx hb dX0_findWays_82 rfl (lv_at hl 0 rfl) ?_
      refine lv_aload_n hx hb dX0_findWays_83 rfl (lv_at hl 1 rfl) ?_
      refine lv_iload hx hb dX0_findWays_84 (lv_at hl 3 rfl) ?_
      refine g_V (As := [.int (iI x4)]) (rest := [.ref (ad 9), .int (iI ((x4 * 13) + x5)), .ref (ad 10)]) q0 (c_X5_item l D cy ad σ q0 hq0 x4 (by omega)) hx hb hml hown hts hK hN hI hl.1 gX0_findWays_X5_item rfl hd_X5_item rfl rfl ⟨Nat.le_of_ble_eq_true rfl, Nat.le_of_ble_eq_true rfl⟩ ⟨Nat.zero_le _, Nat.zero_le _⟩ (by rcases hq0 with q | q <;> rw [q] <;> decide) (cel_Ru cy ad hq0 _) rfl rfl rfl rfl (Nat.le_of_ble_eq_true rfl) dX0_findWays_86 (fun H locs hG_13 hI => ?_)
      refine lv_iload hx hb dX0_findWays_89 (lv_at hl 3 rfl) ?_
      refine lv_aload_n hx hb dX0_findWays_91 rfl (lv_at hl 2 rfl) ?_
      refine lv_iload hx hb dX0_findWays_92 (lv_at hl 4 rfl) ?_
      refine g_V (As := [.int (iI (f_X5_item σ q0 x4)), .int (iI x4), .ref (ad q1), .int (iI x5)]) (rest := [.int (iI ((x4 * 13) + x5)), .ref (ad 10)]) 9 (c_X0_hasWay l D cy ad σ (f_X5_item σ q0 x4) (by omega) x4 (by omega) q1 hq1 x5 (by omega)) hx hb hml hown hts hK hN hI hl.1 gX0_findWays_X0_hasWay rfl hd_X0_hasWay rfl rfl ⟨Nat.le_of_ble_eq_true rfl, Nat.le_of_ble_eq_true rfl⟩ ⟨Nat.zero_le _, Nat.zero_le _⟩ (by decide) (cel_9 cy ad _) rfl rfl rfl rfl (Nat.le_of_ble_eq_true rfl) dX0_findWays_94 (fun H locs hG_14 hI => ?_)
      refine g_zast hx hb hK hI 10 (by decide) (cel_10 cy ad) (by omega) (by decide) (by omega) (bw_10 (by omega)) dX0_findWays_97 (fun H locs hI => ?_)
      have hF_15 : WF (up2 σ 10 (((x4 * 13) + x5).toNat) (f_X0_hasWay σ (f_X5_item σ q0 x4) x4 q1 x5)) := hI.2.2.2
      refine lv_iinc (v := iI (x5 + (-1))) (lv' := [(5, .int (iI (x5 + (-1)))), (0, .ref (ad 9)), (1, .ref (ad q0)), (2, .ref (ad q1)), (4, .int (iI x4))]) hx hb dX0_findWays_98 hl (k := 4) rfl (iI_add _ _) (by decide) rfl (fun ls hl => ?_)
      refine lv_goto (tgt := 65) hx hb dX0_findWays_101 (by decide) ?_
      have e9 : L_X0_findWays_65 q0 q1 (n + 1) x4 x5 σ = L_X0_findWays_65 q0 q1 n x4 (x5 + (-1)) (up2 σ 10 (((x4 * 13) + x5).toNat) (f_X0_hasWay σ (f_X5_item σ q0 x4) x4 q1 x5)) := by rw [L_X0_findWays_65, if_neg c_12]
      rw [e9] at hk
      exact ih x4 (x5 + (-1)) (up2 σ 10 (((x4 * 13) + x5).toNat) (f_X0_hasWay σ (f_X5_item σ q0 x4) x4 q1 x5)) (by omega) (by omega) (by omega) _ _ _ hI (lv_sub hl [1, 2, 3, 4, 0] rfl) hk
def L_X0_findWays_54 (q0 : Nat) (q1 : Nat) : Nat → Int → Sg → Sg
  | 0, x4, σ => (σ)
  | n + 1, x4, σ => (if x4 < 0 then σ else L_X0_findWays_54 q0 q1 n (x4 + (-1)) (L_X0_findWays_65 q0 q1 14 x4 (σ q1 2) σ))
set_option maxHeartbeats 4000000 in
set_option maxRecDepth 100000 in
theorem w_L_X0_findWays_54 {p : Program} {l : Launch} {e : Env} {s : State} {m : MethodId} {args : Array Value} {below : List Frame} {meth : Method} {c₀ : Code} {D : va_G} {cy : Nat → ClassId} {ad : Nat → Nat} {Q : State → Prop} (X : MX p s m args meth c₀ cX0_findWays 6 RX0 none wsX0_findWays D cy) (q0 : Nat) (hq0 : isRu q0) (q1 : Nat) (hq1 : isPl q1) : ∀ (n : Nat) (x4 : Int) (σ : Sg) (hx4 : (-1 : Int) ≤ x4 ∧ x4 ≤ 11) (hmu : x4 + 1 < (n : Int)) (H : Heap) (locs : List Loc) (ls : Array Slot) (hI : HI D cy ad s σ H locs) (hl : lv_has ls 6 [(0, .ref (ad 9)), (1, .ref (ad q0)), (2, .ref (ad q1)), (4, .int (iI x4))])  (hk : ∀ (H1 : Heap) (locs1 : List Loc) (ls1 : Array Slot), True → HI D cy ad s (L_X0_findWays_54 q0 q1 n x4 σ) H1 locs1 → lv_has ls1 6 [] → W p l e { frames := 3, cells := 0, slots := 0, locals := 120 } s m args below meth c₀ H1 locs1 0 0 Q (F0 m 110 ls1 [])), W p l e { frames := 3, cells := 0, slots := 0, locals := 120 } s m args below meth c₀ H locs 0 0 Q (F0 m 54 ls []) := by
  obtain ⟨hx, hb, hr, hml, hown, hts, hlocks, hK, hN⟩ := id X
  intro n
  induction n with
  | zero =>
    intro x4 σ hx4 hmu H locs ls hI hl hk
    exfalso
    have hF := hI.2.2.2
    omega
  | succ n ih =>
    intro x4 σ hx4 hmu H locs ls hI hl hk
    have hF := hI.2.2.2
    refine lv_iload hx hb dX0_findWays_54 (lv_at hl 3 rfl) ?_
    refine g_if_lt (tgt := 110) hx hb dX0_findWays_56 (by decide) (by omega) (fun c_10 => ?_) (fun c_10 => ?_)
    · skip
      have e9 : L_X0_findWays_54 q0 q1 (n + 1) x4 σ = σ := by rw [L_X0_findWays_54, if_pos c_10]
      rw [e9] at hk
      exact hk _ _ _ trivial hI (lv_sub hl [] rfl)
    · skip
      refine lv_aload_n hx hb dX0_findWays_59 rfl (lv_at hl 2 rfl) ?_
      refine g_getN (C := RX2) (T := TX2) (N := 3) (ci := 2) (v := .int (iI (σ q1 2))) hx hb hts in_X0_findWays_X2 hown hK hN hI q1 (by have q := hq1; omega) (cel_Pl cy ad hq1 _) rfl 2 (by decide) (by decide +kernel) rfl dX0_findWays_60 ?_
      have b_11 := bd_Pl_2 hF hq1
      refine lv_istore (lv' := [(5, .int (iI (σ q1 2))), (0, .ref (ad 9)), (1, .ref (ad q0)), (2, .ref (ad q1)), (4, .int (iI x4))]) hx hb dX0_findWays_63 hl (by decide) rfl (fun ls hl => ?_)
      refine w_L_X0_findWays_65 X  q0 hq0 q1 hq1  14 x4 (σ q1 2) σ (by omega) (by omega) (by omega) _ _ _ hI (lv_sub hl [1, 2, 3, 4, 0] rfl) (fun H locs ls hpo_17 hI hl => ?_)
      have hF_16 := hI.2.2.2
      refine lv_iinc (v := iI (x4 + (-1))) (lv' := [(4, .int (iI (x4 + (-1)))), (0, .ref (ad 9)), (1, .ref (ad q0)), (2, .ref (ad q1))]) hx hb dX0_findWays_104 hl (k := 3) rfl (iI_add _ _) (by decide) rfl (fun ls hl => ?_)
      refine lv_goto (tgt := 54) hx hb dX0_findWays_107 (by decide) ?_
      have e9 : L_X0_findWays_54 q0 q1 (n + 1) x4 σ = L_X0_findWays_54 q0 q1 n (x4 + (-1)) (L_X0_findWays_65 q0 q1 14 x4 (σ q1 2) σ) := by rw [L_X0_findWays_54, if_neg c_10]
      rw [e9] at hk
      exact ih (x4 + (-1)) (L_X0_findWays_65 q0 q1 14 x4 (σ q1 2) σ) (by omega) (by omega) _ _ _ hI (lv_sub hl [1, 2, 3, 0] rfl) hk
def f_X0_findWays (σ : Sg) (q0 : Nat) (q1 : Nat) : Sg := (L_X0_findWays_54 q0 q1 14 ((f_X5_itemCount σ q0) - 1) (L_X0_findWays_8 q0 q1 14 (f_X5_itemCount σ q0) 0 σ))
theorem hd_X0_findWays : yX0_findWays.cls = RX0 ∧ yX0_findWays.cls ≠ "java/lang/invoke/MethodHandle" ∧ yX0_findWays.cls ≠ "java/lang/invoke/VarHandle" ∧ (parseMethodDescriptor yX0_findWays.desc).map (fun d => d.parameters.length) = some 2 := by decide +kernel
set_option maxHeartbeats 4000000 in
set_option maxRecDepth 100000 in
theorem c_X0_findWays (l : Launch) (D : va_G) (cy : Nat → ClassId) (ad : Nat → Nat) (σ : Sg) (q0 : Nat) (hq0 : isRu q0) (q1 : Nat) (hq1 : isPl q1) : CM l D cy ad yX0_findWays wsX0_findWays { frames := 3, cells := 0, slots := 0, locals := 120 } [.ref (ad 9), .ref (ad q0), .ref (ad q1)] σ none (f_X0_findWays σ q0 q1) (True) := by
  refine CM.of (cc := cX0_findWays) (maxL := 6) (ret := none) (by decide) rfl (Nat.le_of_ble_eq_true rfl) ?_
  intro p e s m args below meth c₀ ls X hI hl
  have hl : lv_has ls 6 [(0, .ref (ad 9)), (1, .ref (ad q0)), (2, .ref (ad q1))] := hl
  obtain ⟨hx, hb, hr, hml, hown, hts, hlocks, hK, hN⟩ := id X
  have hF := hI.2.2.2
  refine lv_aload_n hx hb dX0_findWays_0 rfl (lv_at hl 1 rfl) ?_
  refine g_V (As := []) (rest := []) q0 (c_X5_itemCount l D cy ad σ q0 hq0) hx hb hml hown hts hK hN hI hl.1 gX0_findWays_X5_itemCount rfl hd_X5_itemCount rfl rfl ⟨Nat.le_of_ble_eq_true rfl, Nat.le_of_ble_eq_true rfl⟩ ⟨Nat.zero_le _, Nat.zero_le _⟩ (by rcases hq0 with q | q <;> rw [q] <;> decide) (cel_Ru cy ad hq0 _) rfl rfl rfl rfl (Nat.le_of_ble_eq_true rfl) dX0_findWays_1 (fun H locs hG_1 hI => ?_)
  refine lv_istore_n (lv' := [(3, .int (iI (f_X5_itemCount σ q0))), (0, .ref (ad 9)), (1, .ref (ad q0)), (2, .ref (ad q1))]) hx hb dX0_findWays_4 rfl hl (by decide) rfl (fun ls hl => ?_)
  refine lv_iconst (v := iI 0) hx hb dX0_findWays_5 rfl ?_
  refine lv_istore (lv' := [(4, .int (iI 0)), (3, .int (iI (f_X5_itemCount σ q0))), (0, .ref (ad 9)), (1, .ref (ad q0)), (2, .ref (ad q1))]) hx hb dX0_findWays_6 hl (by decide) rfl (fun ls hl => ?_)
  refine w_L_X0_findWays_8 X  q0 hq0 q1 hq1  14 (f_X5_itemCount σ q0) 0 σ (by omega) (by omega) (by omega) _ _ _ hI (lv_sub hl [2, 3, 4, 1, 0] rfl) (fun H locs ls hpo_9 hI hl => ?_)
  have hF_8 := hI.2.2.2
  refine lv_iload_n hx hb dX0_findWays_49 rfl (lv_at hl 3 rfl) ?_
  refine lv_iconst (v := iI 1) hx hb dX0_findWays_50 rfl ?_
  refine g_isub hx hb dX0_findWays_51 ?_
  refine lv_istore (lv' := [(4, .int (iI ((f_X5_itemCount σ q0) - 1))), (0, .ref (ad 9)), (1, .ref (ad q0)), (2, .ref (ad q1)), (3, .int (iI (f_X5_itemCount σ q0)))]) hx hb dX0_findWays_52 hl (by decide) rfl (fun ls hl => ?_)
  refine w_L_X0_findWays_54 X  q0 hq0 q1 hq1  14 ((f_X5_itemCount σ q0) - 1) (L_X0_findWays_8 q0 q1 14 (f_X5_itemCount σ q0) 0 σ) (by omega) (by omega) _ _ _ hI (lv_sub hl [1, 2, 3, 0] rfl) (fun H locs ls hpo_19 hI hl => ?_)
  have hF_18 := hI.2.2.2
  have e9 : f_X0_findWays σ q0 q1 = (L_X0_findWays_54 q0 q1 14 ((f_X5_itemCount σ q0) - 1) (L_X0_findWays_8 q0 q1 14 (f_X5_itemCount σ q0) 0 σ)) := by rw [f_X0_findWays]
  exact g_vret hx hb hr hK hN hlocks hI (by rw [e9]) trivial dX0_findWays_110
theorem in_X0_fewest_X2 : ∀ w ∈ u_ws RX2 TX2 3, w ∈ wsX0_fewest := by decide +kernel
def L_X0_fewest_3 (σ : Sg) (q0 : Nat) (a1 : Int) (a2 : Int) : Nat → Int → Int
  | 0, x4 => 0
  | n + 1, x4 => (if (σ q0 2) < (a2 + x4) then 0 else (if (f_X0_isWay σ (a1 + 1) (a2 + x4)) = 0 then L_X0_fewest_3 σ q0 a1 a2 n (x4 + 1) else x4))
set_option maxHeartbeats 4000000 in
set_option maxRecDepth 100000 in
theorem w_L_X0_fewest_3 {p : Program} {l : Launch} {e : Env} {s : State} {m : MethodId} {args : Array Value} {below : List Frame} {meth : Method} {c₀ : Code} {D : va_G} {cy : Nat → ClassId} {ad : Nat → Nat} (X : MX p s m args meth c₀ cX0_fewest 5 RX0 (some .int) wsX0_fewest D cy) (σ : Sg) (q0 : Nat) (hq0 : isPl q0) (a1 : Int) (ha1 : (0 : Int) ≤ a1 ∧ a1 ≤ 11) (a2 : Int) (ha2 : (0 : Int) ≤ a2 ∧ a2 ≤ 200) : ∀ (n : Nat) (x4 : Int) (hx4 : (0 : Int) ≤ x4 ∧ x4 ≤ 13) (hmu : 13 - x4 < (n : Int)) (H : Heap) (locs : List Loc) (ls : Array Slot) (hI : HI D cy ad s σ H locs) (hl : lv_has ls 5 [(0, .ref (ad 9)), (1, .ref (ad q0)), (2, .int (iI a1)), (3, .int (iI a2)), (4, .int (iI x4))]), W p l e { frames := 1, cells := 0, slots := 0, locals := 40 } s m args below meth c₀ H locs 0 0 (MQ below (CQ D cy ad (some (.int (iI (L_X0_fewest_3 σ q0 a1 a2 n x4)))) σ (0 ≤ (L_X0_fewest_3 σ q0 a1 a2 n x4) ∧ (L_X0_fewest_3 σ q0 a1 a2 n x4) ≤ 12) (AA ad s.heap.size)) args s 0 0 (AA ad s.heap.size)) (F0 m 3 ls []) := by
  obtain ⟨hx, hb, hr, hml, hown, hts, hlocks, hK, hN⟩ := id X
  intro n
  induction n with
  | zero =>
    intro x4 hx4 hmu H locs ls hI hl
    exfalso
    have hF := hI.2.2.2
    omega
  | succ n ih =>
    intro x4 hx4 hmu H locs ls hI hl
    have hF := hI.2.2.2
    refine lv_iload_n hx hb dX0_fewest_3 rfl (lv_at hl 3 rfl) ?_
    refine lv_iload hx hb dX0_fewest_4 (lv_at hl 4 rfl) ?_
    refine g_iadd hx hb dX0_fewest_6 ?_
    refine lv_aload_n hx hb dX0_fewest_7 rfl (lv_at hl 1 rfl) ?_
    refine g_getN (C := RX2) (T := TX2) (N := 3) (ci := 2) (v := .int (iI (σ q0 2))) hx hb hts in_X0_fewest_X2 hown hK hN hI q0 (by have q := hq0; omega) (cel_Pl cy ad hq0 _) rfl 2 (by decide) (by decide +kernel) rfl dX0_fewest_8 ?_
    have b_1 := bd_Pl_2 hF hq0
    refine g_icmp_gt (tgt := 37) hx hb dX0_fewest_11 (by decide) (by omega) (by omega) (fun c_2 => ?_) (fun c_2 => ?_)
    · skip
      refine lv_iconst (v := iI 0) hx hb dX0_fewest_37 rfl ?_
      have e9 : L_X0_fewest_3 σ q0 a1 a2 (n + 1) x4 = 0 := by rw [L_X0_fewest_3, if_pos c_2]
      exact g_iret (z := 0) hx hb hr hK hN hlocks hI e9.symm rfl (by rw [e9] <;> first | (omega) | (dsimp only; omega)) dX0_fewest_38
    · skip
      refine lv_aload_n hx hb dX0_fewest_14 rfl (lv_at hl 0 rfl) ?_
      refine lv_iload_n hx hb dX0_fewest_15 rfl (lv_at hl 2 rfl) ?_
      refine lv_iconst (v := iI 1) hx hb dX0_fewest_16 rfl ?_
      refine g_iadd hx hb dX0_fewest_17 ?_
      refine lv_iload_n hx hb dX0_fewest_18 rfl (lv_at hl 3 rfl) ?_
      refine lv_iload hx hb dX0_fewest_19 (lv_at hl 4 rfl) ?_
      refine g_iadd hx hb dX0_fewest_21 ?_
      refine g_V (As := [.int (iI (a1 + 1)), .int (iI (a2 + x4))]) (rest := []) 9 (c_X0_isWay l D cy ad σ (a1 + 1) (by omega) (a2 + x4) (by omega)) hx hb hml hown hts hK hN hI hl.1 gX0_fewest_X0_isWay rfl hd_X0_isWay rfl rfl ⟨Nat.le_of_ble_eq_true rfl, Nat.le_of_ble_eq_true rfl⟩ ⟨Nat.zero_le _, Nat.zero_le _⟩ (by decide) (cel_9 cy ad _) rfl rfl rfl rfl (Nat.le_of_ble_eq_true rfl) dX0_fewest_22 (fun H locs hG_3 hI => ?_)
      refine g_if_eq (tgt := 31) hx hb dX0_fewest_25 (by decide) (by omega) (fun c_4 => ?_) (fun c_4 => ?_)
      · skip
        refine lv_iinc (v := iI (x4 + 1)) (lv' := [(4, .int (iI (x4 + 1))), (0, .ref (ad 9)), (1, .ref (ad q0)), (2, .int (iI a1)), (3, .int (iI a2))]) hx hb dX0_fewest_31 hl (k := 4) rfl (iI_add _ _) (by decide) rfl (fun ls hl => ?_)
        refine lv_goto (tgt := 3) hx hb dX0_fewest_34 (by decide) ?_
        have e9 : L_X0_fewest_3 σ q0 a1 a2 (n + 1) x4 = L_X0_fewest_3 σ q0 a1 a2 n (x4 + 1) := by rw [L_X0_fewest_3, if_neg c_2, if_pos c_4]
        rw [e9]
        exact ih (x4 + 1)  (by omega) (by omega) _ _ _ hI (lv_sub hl [1, 2, 3, 4, 0] rfl)
      · skip
        refine lv_iload hx hb dX0_fewest_28 (lv_at hl 4 rfl) ?_
        have e9 : L_X0_fewest_3 σ q0 a1 a2 (n + 1) x4 = x4 := by rw [L_X0_fewest_3, if_neg c_2, if_neg c_4]
        exact g_iret (z := x4) hx hb hr hK hN hlocks hI e9.symm rfl (by rw [e9] <;> first | (omega) | (dsimp only; omega)) dX0_fewest_30
def f_X0_fewest (σ : Sg) (q0 : Nat) (a1 : Int) (a2 : Int) : Int := L_X0_fewest_3 σ q0 a1 a2 14 0
theorem hd_X0_fewest : yX0_fewest.cls = RX0 ∧ yX0_fewest.cls ≠ "java/lang/invoke/MethodHandle" ∧ yX0_fewest.cls ≠ "java/lang/invoke/VarHandle" ∧ (parseMethodDescriptor yX0_fewest.desc).map (fun d => d.parameters.length) = some 3 := by decide +kernel
set_option maxHeartbeats 4000000 in
set_option maxRecDepth 100000 in
theorem c_X0_fewest (l : Launch) (D : va_G) (cy : Nat → ClassId) (ad : Nat → Nat) (σ : Sg) (q0 : Nat) (hq0 : isPl q0) (a1 : Int) (ha1 : (0 : Int) ≤ a1 ∧ a1 ≤ 11) (a2 : Int) (ha2 : (0 : Int) ≤ a2 ∧ a2 ≤ 200) : CM l D cy ad yX0_fewest wsX0_fewest { frames := 1, cells := 0, slots := 0, locals := 40 } [.ref (ad 9), .ref (ad q0), .int (iI a1), .int (iI a2)] σ (some (.int (iI (f_X0_fewest σ q0 a1 a2)))) σ (0 ≤ (f_X0_fewest σ q0 a1 a2) ∧ (f_X0_fewest σ q0 a1 a2) ≤ 12) := by
  refine CM.of (cc := cX0_fewest) (maxL := 5) (ret := (some .int)) (by decide) rfl (Nat.le_of_ble_eq_true rfl) ?_
  intro p e s m args below meth c₀ ls X hI hl
  have hl : lv_has ls 5 [(0, .ref (ad 9)), (1, .ref (ad q0)), (2, .int (iI a1)), (3, .int (iI a2))] := hl
  obtain ⟨hx, hb, hr, hml, hown, hts, hlocks, hK, hN⟩ := id X
  have hF := hI.2.2.2
  refine lv_iconst (v := iI 0) hx hb dX0_fewest_0 rfl ?_
  refine lv_istore (lv' := [(4, .int (iI 0)), (0, .ref (ad 9)), (1, .ref (ad q0)), (2, .int (iI a1)), (3, .int (iI a2))]) hx hb dX0_fewest_1 hl (by decide) rfl (fun ls hl => ?_)
  have e9 : f_X0_fewest σ q0 a1 a2 = L_X0_fewest_3 σ q0 a1 a2 14 0 := by rw [f_X0_fewest]
  rw [e9]
  exact w_L_X0_fewest_3 X σ q0 hq0 a1 ha1 a2 ha2  14 0  (by omega) (by omega) _ _ _ hI (lv_sub hl [1, 2, 3, 4, 0] rfl)
theorem in_X0_mostFigures_X2 : ∀ w ∈ u_ws RX2 TX2 3, w ∈ wsX0_mostFigures := by decide +kernel
def L_X0_mostFigures_6 (σ : Sg) (q0 : Nat) (a1 : Int) (a2 : Int) : Nat → Int → Int → Int
  | 0, x4, x5 => (x4)
  | n + 1, x4, x5 => (if (f_X6_isFigure (f_X2_byteAt σ q0 ((a2 + x5) - 1))) = 0 then x4 else (if (σ q0 2) < x5 then x4 else (if (f_X0_isWay σ (a1 + 1) (a2 + x5)) = 0 then L_X0_mostFigures_6 σ q0 a1 a2 n x4 (x5 + 1) else L_X0_mostFigures_6 σ q0 a1 a2 n x5 (x5 + 1))))
set_option maxHeartbeats 4000000 in
set_option maxRecDepth 100000 in
theorem w_L_X0_mostFigures_6 {p : Program} {l : Launch} {e : Env} {s : State} {m : MethodId} {args : Array Value} {below : List Frame} {meth : Method} {c₀ : Code} {D : va_G} {cy : Nat → ClassId} {ad : Nat → Nat} {Q : State → Prop} (X : MX p s m args meth c₀ cX0_mostFigures 6 RX0 (some .int) wsX0_mostFigures D cy) (σ : Sg) (q0 : Nat) (hq0 : isPl q0) (a1 : Int) (ha1 : (0 : Int) ≤ a1 ∧ a1 ≤ 11) (a2 : Int) (ha2 : (0 : Int) ≤ a2 ∧ a2 ≤ 200) : ∀ (n : Nat) (x4 : Int) (x5 : Int) (hx4 : (0 : Int) ≤ x4 ∧ x4 ≤ 12) (hx5 : (1 : Int) ≤ x5 ∧ x5 ≤ 13) (hmu : 13 - x5 < (n : Int)) (H : Heap) (locs : List Loc) (ls : Array Slot) (hI : HI D cy ad s σ H locs) (hl : lv_has ls 6 [(0, .ref (ad 9)), (1, .ref (ad q0)), (2, .int (iI a1)), (3, .int (iI a2)), (4, .int (iI x4)), (5, .int (iI x5))])  (hk : ∀ (H1 : Heap) (locs1 : List Loc) (ls1 : Array Slot), (0 ≤ (L_X0_mostFigures_6 σ q0 a1 a2 n x4 x5) ∧ (L_X0_mostFigures_6 σ q0 a1 a2 n x4 x5) ≤ 12) → HI D cy ad s σ H1 locs1 → lv_has ls1 6 [(4, .int (iI (L_X0_mostFigures_6 σ q0 a1 a2 n x4 x5)))] → W p l e { frames := 1, cells := 0, slots := 0, locals := 40 } s m args below meth c₀ H1 locs1 0 0 Q (F0 m 55 ls1 [])), W p l e { frames := 1, cells := 0, slots := 0, locals := 40 } s m args below meth c₀ H locs 0 0 Q (F0 m 6 ls []) := by
  obtain ⟨hx, hb, hr, hml, hown, hts, hlocks, hK, hN⟩ := id X
  intro n
  induction n with
  | zero =>
    intro x4 x5 hx4 hx5 hmu H locs ls hI hl hk
    exfalso
    have hF := hI.2.2.2
    omega
  | succ n ih =>
    intro x4 x5 hx4 hx5 hmu H locs ls hI hl hk
    have hF := hI.2.2.2
    refine lv_aload_n hx hb dX0_mostFigures_6 rfl (lv_at hl 1 rfl) ?_
    refine lv_iload_n hx hb dX0_mostFigures_7 rfl (lv_at hl 3 rfl) ?_
    refine lv_iload hx hb dX0_mostFigures_8 (lv_at hl 5 rfl) ?_
    refine g_iadd hx hb dX0_mostFigures_10 ?_
    refine lv_iconst (v := iI 1) hx hb dX0_mostFigures_11 rfl ?_
    refine g_isub hx hb dX0_mostFigures_12 ?_
    refine g_V (As := [.int (iI ((a2 + x5) - 1))]) (rest := []) q0 (c_X2_byteAt l D cy ad σ q0 hq0 ((a2 + x5) - 1) (by omega)) hx hb hml hown hts hK hN hI hl.1 gX0_mostFigures_X2_byteAt rfl hd_X2_byteAt rfl rfl ⟨Nat.le_of_ble_eq_true rfl, Nat.le_of_ble_eq_true rfl⟩ ⟨Nat.zero_le _, Nat.zero_le _⟩ (by have q := hq0; omega) (cel_Pl cy ad hq0 _) rfl rfl rfl rfl (Nat.le_of_ble_eq_true rfl) dX0_mostFigures_13 (fun H locs hG_1 hI => ?_)
    refine g_S (As := [.int (iI (f_X2_byteAt σ q0 ((a2 + x5) - 1)))]) (rest := []) (c_X6_isFigure l D cy ad σ (f_X2_byteAt σ q0 ((a2 + x5) - 1)) (by omega)) hx hb hml hown hts hK hN hI hl.1 gX0_mostFigures_X6_isFigure rfl hd_X6_isFigure rfl rfl ⟨Nat.le_of_ble_eq_true rfl, Nat.le_of_ble_eq_true rfl⟩ ⟨Nat.zero_le _, Nat.zero_le _⟩ rfl rfl (Nat.le_of_ble_eq_true rfl) dX0_mostFigures_16 (fun H locs hG_2 hI => ?_)
    refine g_if_eq (tgt := 55) hx hb dX0_mostFigures_19 (by decide) (by omega) (fun c_3 => ?_) (fun c_3 => ?_)
    · skip
      have e9 : L_X0_mostFigures_6 σ q0 a1 a2 (n + 1) x4 x5 = x4 := by rw [L_X0_mostFigures_6, if_pos c_3]
      rw [e9] at hk
      exact hk _ _ _ (by first | (omega) | (dsimp only; omega)) hI (lv_sub hl [4] rfl)
    · skip
      refine lv_iload hx hb dX0_mostFigures_22 (lv_at hl 5 rfl) ?_
      refine lv_aload_n hx hb dX0_mostFigures_24 rfl (lv_at hl 1 rfl) ?_
      refine g_getN (C := RX2) (T := TX2) (N := 3) (ci := 2) (v := .int (iI (σ q0 2))) hx hb hts in_X0_mostFigures_X2 hown hK hN hI q0 (by have q := hq0; omega) (cel_Pl cy ad hq0 _) rfl 2 (by decide) (by decide +kernel) rfl dX0_mostFigures_25 ?_
      have b_4 := bd_Pl_2 hF hq0
      refine g_icmp_gt (tgt := 55) hx hb dX0_mostFigures_28 (by decide) (by omega) (by omega) (fun c_5 => ?_) (fun c_5 => ?_)
      · skip
        have e9 : L_X0_mostFigures_6 σ q0 a1 a2 (n + 1) x4 x5 = x4 := by rw [L_X0_mostFigures_6, if_neg c_3, if_pos c_5]
        rw [e9] at hk
        exact hk _ _ _ (by first | (omega) | (dsimp only; omega)) hI (lv_sub hl [4] rfl)
      · skip
        refine lv_aload_n hx hb dX0_mostFigures_31 rfl (lv_at hl 0 rfl) ?_
        refine lv_iload_n hx hb dX0_mostFigures_32 rfl (lv_at hl 2 rfl) ?_
        refine lv_iconst (v := iI 1) hx hb dX0_mostFigures_33 rfl ?_
        refine g_iadd hx hb dX0_mostFigures_34 ?_
        refine lv_iload_n hx hb dX0_mostFigures_35 rfl (lv_at hl 3 rfl) ?_
        refine lv_iload hx hb dX0_mostFigures_36 (lv_at hl 5 rfl) ?_
        refine g_iadd hx hb dX0_mostFigures_38 ?_
        refine g_V (As := [.int (iI (a1 + 1)), .int (iI (a2 + x5))]) (rest := []) 9 (c_X0_isWay l D cy ad σ (a1 + 1) (by omega) (a2 + x5) (by omega)) hx hb hml hown hts hK hN hI hl.1 gX0_mostFigures_X0_isWay rfl hd_X0_isWay rfl rfl ⟨Nat.le_of_ble_eq_true rfl, Nat.le_of_ble_eq_true rfl⟩ ⟨Nat.zero_le _, Nat.zero_le _⟩ (by decide) (cel_9 cy ad _) rfl rfl rfl rfl (Nat.le_of_ble_eq_true rfl) dX0_mostFigures_39 (fun H locs hG_6 hI => ?_)
        refine g_if_eq (tgt := 49) hx hb dX0_mostFigures_42 (by decide) (by omega) (fun c_7 => ?_) (fun c_7 => ?_)
        · skip
          refine lv_iinc (v := iI (x5 + 1)) (lv' := [(5, .int (iI (x5 + 1))), (0, .ref (ad 9)), (1, .ref (ad q0)), (2, .int (iI a1)), (3, .int (iI a2)), (4, .int (iI x4))]) hx hb dX0_mostFigures_49 hl (k := 5) rfl (iI_add _ _) (by decide) rfl (fun ls hl => ?_)
          refine lv_goto (tgt := 6) hx hb dX0_mostFigures_52 (by decide) ?_
          have e9 : L_X0_mostFigures_6 σ q0 a1 a2 (n + 1) x4 x5 = L_X0_mostFigures_6 σ q0 a1 a2 n x4 (x5 + 1) := by rw [L_X0_mostFigures_6, if_neg c_3, if_neg c_5, if_pos c_7]
          rw [e9] at hk
          exact ih x4 (x5 + 1)  (by omega) (by omega) (by omega) _ _ _ hI (lv_sub hl [1, 2, 3, 4, 5, 0] rfl) hk
        · skip
          refine lv_iload hx hb dX0_mostFigures_45 (lv_at hl 5 rfl) ?_
          refine lv_istore (lv' := [(4, .int (iI x5)), (0, .ref (ad 9)), (1, .ref (ad q0)), (2, .int (iI a1)), (3, .int (iI a2)), (5, .int (iI x5))]) hx hb dX0_mostFigures_47 hl (by decide) rfl (fun ls hl => ?_)
          refine lv_iinc (v := iI (x5 + 1)) (lv' := [(5, .int (iI (x5 + 1))), (4, .int (iI x5)), (0, .ref (ad 9)), (1, .ref (ad q0)), (2, .int (iI a1)), (3, .int (iI a2))]) hx hb dX0_mostFigures_49 hl (k := 5) rfl (iI_add _ _) (by decide) rfl (fun ls hl => ?_)
          refine lv_goto (tgt := 6) hx hb dX0_mostFigures_52 (by decide) ?_
          have e9 : L_X0_mostFigures_6 σ q0 a1 a2 (n + 1) x4 x5 = L_X0_mostFigures_6 σ q0 a1 a2 n x5 (x5 + 1) := by rw [L_X0_mostFigures_6, if_neg c_3, if_neg c_5, if_neg c_7]
          rw [e9] at hk
          exact ih x5 (x5 + 1)  (by omega) (by omega) (by omega) _ _ _ hI (lv_sub hl [2, 3, 4, 5, 1, 0] rfl) hk
def f_X0_mostFigures (σ : Sg) (q0 : Nat) (a1 : Int) (a2 : Int) : Int := (L_X0_mostFigures_6 σ q0 a1 a2 14 0 1)
theorem hd_X0_mostFigures : yX0_mostFigures.cls = RX0 ∧ yX0_mostFigures.cls ≠ "java/lang/invoke/MethodHandle" ∧ yX0_mostFigures.cls ≠ "java/lang/invoke/VarHandle" ∧ (parseMethodDescriptor yX0_mostFigures.desc).map (fun d => d.parameters.length) = some 3 := by decide +kernel
set_option maxHeartbeats 4000000 in
set_option maxRecDepth 100000 in
theorem c_X0_mostFigures (l : Launch) (D : va_G) (cy : Nat → ClassId) (ad : Nat → Nat) (σ : Sg) (q0 : Nat) (hq0 : isPl q0) (a1 : Int) (ha1 : (0 : Int) ≤ a1 ∧ a1 ≤ 11) (a2 : Int) (ha2 : (0 : Int) ≤ a2 ∧ a2 ≤ 200) : CM l D cy ad yX0_mostFigures wsX0_mostFigures { frames := 1, cells := 0, slots := 0, locals := 40 } [.ref (ad 9), .ref (ad q0), .int (iI a1), .int (iI a2)] σ (some (.int (iI (f_X0_mostFigures σ q0 a1 a2)))) σ (0 ≤ (f_X0_mostFigures σ q0 a1 a2) ∧ (f_X0_mostFigures σ q0 a1 a2) ≤ 12) := by
  refine CM.of (cc := cX0_mostFigures) (maxL := 6) (ret := (some .int)) (by decide) rfl (Nat.le_of_ble_eq_true rfl) ?_
  intro p e s m args below meth c₀ ls X hI hl
  have hl : lv_has ls 6 [(0, .ref (ad 9)), (1, .ref (ad q0)), (2, .int (iI a1)), (3, .int (iI a2))] := hl
  obtain ⟨hx, hb, hr, hml, hown, hts, hlocks, hK, hN⟩ := id X
  have hF := hI.2.2.2
  refine lv_iconst (v := iI 0) hx hb dX0_mostFigures_0 rfl ?_
  refine lv_istore (lv' := [(4, .int (iI 0)), (0, .ref (ad 9)), (1, .ref (ad q0)), (2, .int (iI a1)), (3, .int (iI a2))]) hx hb dX0_mostFigures_1 hl (by decide) rfl (fun ls hl => ?_)
  refine lv_iconst (v := iI 1) hx hb dX0_mostFigures_3 rfl ?_
  refine lv_istore (lv' := [(5, .int (iI 1)), (4, .int (iI 0)), (0, .ref (ad 9)), (1, .ref (ad q0)), (2, .int (iI a1)), (3, .int (iI a2))]) hx hb dX0_mostFigures_4 hl (by decide) rfl (fun ls hl => ?_)
  refine w_L_X0_mostFigures_6 X σ q0 hq0 a1 ha1 a2 ha2  14 0 1  (by omega) (by omega) (by omega) _ _ _ hI (lv_sub hl [2, 3, 4, 5, 1, 0] rfl) (fun H locs ls hpo_9 hI hl => ?_)
  refine lv_iload hx hb dX0_mostFigures_55 (lv_at hl 0 rfl) ?_
  have e9 : f_X0_mostFigures σ q0 a1 a2 = (L_X0_mostFigures_6 σ q0 a1 a2 14 0 1) := by rw [f_X0_mostFigures]
  exact g_iret (z := (L_X0_mostFigures_6 σ q0 a1 a2 14 0 1)) hx hb hr hK hN hlocks hI e9.symm rfl (by rw [e9] <;> first | (omega) | (dsimp only; omega)) dX0_mostFigures_57
def f_X0_firstChoice (σ : Sg) (q0 : Nat) (q1 : Nat) (a2 : Int) (a3 : Int) : Int := (if (f_X5_item σ q0 a2) = 35 then f_X0_mostFigures σ q1 a2 a3 else (if (f_X5_item σ q0 a2) = 42 then f_X0_fewest σ q1 a2 a3 else 1))
theorem hd_X0_firstChoice : yX0_firstChoice.cls = RX0 ∧ yX0_firstChoice.cls ≠ "java/lang/invoke/MethodHandle" ∧ yX0_firstChoice.cls ≠ "java/lang/invoke/VarHandle" ∧ (parseMethodDescriptor yX0_firstChoice.desc).map (fun d => d.parameters.length) = some 4 := by decide +kernel
set_option maxHeartbeats 4000000 in
set_option maxRecDepth 100000 in
theorem c_X0_firstChoice (l : Launch) (D : va_G) (cy : Nat → ClassId) (ad : Nat → Nat) (σ : Sg) (q0 : Nat) (hq0 : isRu q0) (q1 : Nat) (hq1 : isPl q1) (a2 : Int) (ha2 : (0 : Int) ≤ a2 ∧ a2 ≤ 11) (a3 : Int) (ha3 : (0 : Int) ≤ a3 ∧ a3 ≤ 200) : CM l D cy ad yX0_firstChoice wsX0_firstChoice { frames := 2, cells := 0, slots := 0, locals := 80 } [.ref (ad 9), .ref (ad q0), .ref (ad q1), .int (iI a2), .int (iI a3)] σ (some (.int (iI (f_X0_firstChoice σ q0 q1 a2 a3)))) σ (0 ≤ (f_X0_firstChoice σ q0 q1 a2 a3) ∧ (f_X0_firstChoice σ q0 q1 a2 a3) ≤ 12) := by
  refine CM.of (cc := cX0_firstChoice) (maxL := 5) (ret := (some .int)) (by decide) rfl (Nat.le_of_ble_eq_true rfl) ?_
  intro p e s m args below meth c₀ ls X hI hl
  have hl : lv_has ls 5 [(0, .ref (ad 9)), (1, .ref (ad q0)), (2, .ref (ad q1)), (3, .int (iI a2)), (4, .int (iI a3))] := hl
  obtain ⟨hx, hb, hr, hml, hown, hts, hlocks, hK, hN⟩ := id X
  have hF := hI.2.2.2
  refine lv_aload_n hx hb dX0_firstChoice_0 rfl (lv_at hl 1 rfl) ?_
  refine lv_iload_n hx hb dX0_firstChoice_1 rfl (lv_at hl 3 rfl) ?_
  refine g_V (As := [.int (iI a2)]) (rest := []) q0 (c_X5_item l D cy ad σ q0 hq0 a2 (by omega)) hx hb hml hown hts hK hN hI hl.1 gX0_firstChoice_X5_item rfl hd_X5_item rfl rfl ⟨Nat.le_of_ble_eq_true rfl, Nat.le_of_ble_eq_true rfl⟩ ⟨Nat.zero_le _, Nat.zero_le _⟩ (by rcases hq0 with q | q <;> rw [q] <;> decide) (cel_Ru cy ad hq0 _) rfl rfl rfl rfl (Nat.le_of_ble_eq_true rfl) dX0_firstChoice_2 (fun H locs hG_1 hI => ?_)
  by_cases c_2 : (f_X5_item σ q0 a2) = 35
  · refine g_lsw (tgt := 41) (off := 36) hx hb dX0_firstChoice_5 (by decide) (by omega) (by rw [c_2]; rfl) (by decide) ?_
    refine lv_aload_n hx hb dX0_firstChoice_41 rfl (lv_at hl 0 rfl) ?_
    refine lv_aload_n hx hb dX0_firstChoice_42 rfl (lv_at hl 2 rfl) ?_
    refine lv_iload_n hx hb dX0_firstChoice_43 rfl (lv_at hl 3 rfl) ?_
    refine lv_iload hx hb dX0_firstChoice_44 (lv_at hl 4 rfl) ?_
    refine g_V (As := [.ref (ad q1), .int (iI a2), .int (iI a3)]) (rest := []) 9 (c_X0_mostFigures l D cy ad σ q1 hq1 a2 (by omega) a3 (by omega)) hx hb hml hown hts hK hN hI hl.1 gX0_firstChoice_X0_mostFigures rfl hd_X0_mostFigures rfl rfl ⟨Nat.le_of_ble_eq_true rfl, Nat.le_of_ble_eq_true rfl⟩ ⟨Nat.zero_le _, Nat.zero_le _⟩ (by decide) (cel_9 cy ad _) rfl rfl rfl rfl (Nat.le_of_ble_eq_true rfl) dX0_firstChoice_46 (fun H locs hG_3 hI => ?_)
    have e9 : f_X0_firstChoice σ q0 q1 a2 a3 = f_X0_mostFigures σ q1 a2 a3 := by rw [f_X0_firstChoice, if_pos c_2]
    exact g_iret (z := f_X0_mostFigures σ q1 a2 a3) hx hb hr hK hN hlocks hI e9.symm rfl (by rw [e9] <;> first | (omega) | (dsimp only; omega)) dX0_firstChoice_49
  · skip
    by_cases c_4 : (f_X5_item σ q0 a2) = 42
    · refine g_lsw (tgt := 32) (off := 27) hx hb dX0_firstChoice_5 (by decide) (by omega) (by rw [c_4]; rfl) (by decide) ?_
      refine lv_aload_n hx hb dX0_firstChoice_32 rfl (lv_at hl 0 rfl) ?_
      refine lv_aload_n hx hb dX0_firstChoice_33 rfl (lv_at hl 2 rfl) ?_
      refine lv_iload_n hx hb dX0_firstChoice_34 rfl (lv_at hl 3 rfl) ?_
      refine lv_iload hx hb dX0_firstChoice_35 (lv_at hl 4 rfl) ?_
      refine g_V (As := [.ref (ad q1), .int (iI a2), .int (iI a3)]) (rest := []) 9 (c_X0_fewest l D cy ad σ q1 hq1 a2 (by omega) a3 (by omega)) hx hb hml hown hts hK hN hI hl.1 gX0_firstChoice_X0_fewest rfl hd_X0_fewest rfl rfl ⟨Nat.le_of_ble_eq_true rfl, Nat.le_of_ble_eq_true rfl⟩ ⟨Nat.zero_le _, Nat.zero_le _⟩ (by decide) (cel_9 cy ad _) rfl rfl rfl rfl (Nat.le_of_ble_eq_true rfl) dX0_firstChoice_37 (fun H locs hG_5 hI => ?_)
      have e9 : f_X0_firstChoice σ q0 q1 a2 a3 = f_X0_fewest σ q1 a2 a3 := by rw [f_X0_firstChoice, if_neg c_2, if_pos c_4]
      exact g_iret (z := f_X0_fewest σ q1 a2 a3) hx hb hr hK hN hlocks hI e9.symm rfl (by rw [e9] <;> first | (omega) | (dsimp only; omega)) dX0_firstChoice_40
    · skip
      refine g_lsw (tgt := 50) (off := 45) hx hb dX0_firstChoice_5 (by decide) (by omega) (by simp [Op.lookupswitch.offset, Ne.symm c_2, Ne.symm c_4]) (by decide) ?_
      refine lv_iconst (v := iI 1) hx hb dX0_firstChoice_50 rfl ?_
      have e9 : f_X0_firstChoice σ q0 q1 a2 a3 = 1 := by rw [f_X0_firstChoice, if_neg c_2, if_neg c_4]
      exact g_iret (z := 1) hx hb hr hK hN hlocks hI e9.symm rfl (by rw [e9] <;> first | (omega) | (dsimp only; omega)) dX0_firstChoice_51
theorem in_X0_match_X0 : ∀ w ∈ u_ws RX0 TX0 3, w ∈ wsX0_match := by decide +kernel
def L_X0_match_22 (q0 : Nat) (q1 : Nat) : Nat → Int → Int → Sg → Sg
  | 0, x3, x4, σ => (σ)
  | n + 1, x3, x4, σ => (if (f_X5_itemCount σ q0) ≤ x4 then σ else L_X0_match_22 q0 q1 n (x3 + (f_X0_firstChoice (up2 σ 12 x4.toNat x3) q0 q1 x4 x3)) (x4 + 1) (up2 (up2 σ 12 x4.toNat x3) 11 x4.toNat (f_X0_firstChoice (up2 σ 12 x4.toNat x3) q0 q1 x4 x3)))
set_option maxHeartbeats 4000000 in
set_option maxRecDepth 100000 in
theorem w_L_X0_match_22 {p : Program} {l : Launch} {e : Env} {s : State} {m : MethodId} {args : Array Value} {below : List Frame} {meth : Method} {c₀ : Code} {D : va_G} {cy : Nat → ClassId} {ad : Nat → Nat} {Q : State → Prop} (X : MX p s m args meth c₀ cX0_match 5 RX0 (some .boolean) wsX0_match D cy) (q0 : Nat) (hq0 : isRu q0) (q1 : Nat) (hq1 : isPl q1) : ∀ (n : Nat) (x3 : Int) (x4 : Int) (σ : Sg) (hx3 : (0 : Int) ≤ x3 ∧ x3 ≤ 144) (hx4 : (0 : Int) ≤ x4 ∧ x4 ≤ 12) (hp0 : x3 ≤ 12 * x4) (hmu : 12 - x4 < (n : Int)) (H : Heap) (locs : List Loc) (ls : Array Slot) (hI : HI D cy ad s σ H locs) (hl : lv_has ls 5 [(0, .ref (ad 9)), (1, .ref (ad q0)), (2, .ref (ad q1)), (3, .int (iI x3)), (4, .int (iI x4))])  (hk : ∀ (H1 : Heap) (locs1 : List Loc) (ls1 : Array Slot), True → HI D cy ad s (L_X0_match_22 q0 q1 n x3 x4 σ) H1 locs1 → lv_has ls1 5 [] → W p l e { frames := 4, cells := 0, slots := 0, locals := 160 } s m args below meth c₀ H1 locs1 0 0 Q (F0 m 71 ls1 [])), W p l e { frames := 4, cells := 0, slots := 0, locals := 160 } s m args below meth c₀ H locs 0 0 Q (F0 m 22 ls []) := by
  obtain ⟨hx, hb, hr, hml, hown, hts, hlocks, hK, hN⟩ := id X
  intro n
  induction n with
  | zero =>
    intro x3 x4 σ hx3 hx4 hp0 hmu H locs ls hI hl hk
    exfalso
    have hF := hI.2.2.2
    omega
  | succ n ih =>
    intro x3 x4 σ hx3 hx4 hp0 hmu H locs ls hI hl hk
    have hF := hI.2.2.2
    refine lv_iload hx hb dX0_match_22 (lv_at hl 4 rfl) ?_
    refine lv_aload_n hx hb dX0_match_24 rfl (lv_at hl 1 rfl) ?_
    refine g_V (As := []) (rest := [.int (iI x4)]) q0 (c_X5_itemCount l D cy ad σ q0 hq0) hx hb hml hown hts hK hN hI hl.1 gX0_match_X5_itemCount rfl hd_X5_itemCount rfl rfl ⟨Nat.le_of_ble_eq_true rfl, Nat.le_of_ble_eq_true rfl⟩ ⟨Nat.zero_le _, Nat.zero_le _⟩ (by rcases hq0 with q | q <;> rw [q] <;> decide) (cel_Ru cy ad hq0 _) rfl rfl rfl rfl (Nat.le_of_ble_eq_true rfl) dX0_match_25 (fun H locs hG_5 hI => ?_)
    refine g_icmp_ge (tgt := 71) hx hb dX0_match_28 (by decide) (by omega) (by omega) (fun c_6 => ?_) (fun c_6 => ?_)
    · skip
      have e9 : L_X0_match_22 q0 q1 (n + 1) x3 x4 σ = σ := by rw [L_X0_match_22, if_pos c_6]
      rw [e9] at hk
      exact hk _ _ _ trivial hI (lv_sub hl [] rfl)
    · skip
      refine lv_aload_n hx hb dX0_match_31 rfl (lv_at hl 0 rfl) ?_
      refine g_get (C := RX0) (T := TX0) (N := 3) (ci := 0) (v := .ref (ad 12)) hx hb hts in_X0_match_X0 hown hK hI 9 (by decide) (cel_9 cy ad _) rfl 2 (by decide) (by decide +kernel) rfl dX0_match_32 ?_
      refine lv_iload hx hb dX0_match_35 (lv_at hl 4 rfl) ?_
      refine lv_iload_n hx hb dX0_match_37 rfl (lv_at hl 3 rfl) ?_
      refine g_iast hx hb hK hI 12 (by decide) (cel_12 cy ad) (by omega) (by decide) (bw_12 (by omega)) dX0_match_38 (fun H locs hI => ?_)
      have hF_7 : WF (up2 σ 12 x4.toNat x3) := hI.2.2.2
      refine lv_aload_n hx hb dX0_match_39 rfl (lv_at hl 0 rfl) ?_
      refine g_get (C := RX0) (T := TX0) (N := 3) (ci := 0) (v := .ref (ad 11)) hx hb hts in_X0_match_X0 hown hK hI 9 (by decide) (cel_9 cy ad _) rfl 1 (by decide) (by decide +kernel) rfl dX0_match_40 ?_
      refine lv_iload hx hb dX0_match_43 (lv_at hl 4 rfl) ?_
      refine lv_aload_n hx hb dX0_match_45 rfl (lv_at hl 0 rfl) ?_
      refine lv_aload_n hx hb dX0_match_46 rfl (lv_at hl 1 rfl) ?_
      refine lv_aload_n hx hb dX0_match_47 rfl (lv_at hl 2 rfl) ?_
      refine lv_iload hx hb dX0_match_48 (lv_at hl 4 rfl) ?_
      refine lv_iload_n hx hb dX0_match_50 rfl (lv_at hl 3 rfl) ?_
      refine g_V (As := [.ref (ad q0), .ref (ad q1), .int (iI x4), .int (iI x3)]) (rest := [.int (iI x4), .ref (ad 11)]) 9 (c_X0_firstChoice l D cy ad (up2 σ 12 x4.toNat x3) q0 hq0 q1 hq1 x4 (by omega) x3 (by omega)) hx hb hml hown hts hK hN hI hl.1 gX0_match_X0_firstChoice rfl hd_X0_firstChoice rfl rfl ⟨Nat.le_of_ble_eq_true rfl, Nat.le_of_ble_eq_true rfl⟩ ⟨Nat.zero_le _, Nat.zero_le _⟩ (by decide) (cel_9 cy ad _) rfl rfl rfl rfl (Nat.le_of_ble_eq_true rfl) dX0_match_51 (fun H locs hG_8 hI => ?_)
      refine g_iast hx hb hK hI 11 (by decide) (cel_11 cy ad) (by omega) (by decide) (bw_11 (by omega)) dX0_match_54 (fun H locs hI => ?_)
      have hF_9 : WF (up2 (up2 σ 12 x4.toNat x3) 11 x4.toNat (f_X0_firstChoice (up2 σ 12 x4.toNat x3) q0 q1 x4 x3)) := hI.2.2.2
      refine lv_iload_n hx hb dX0_match_55 rfl (lv_at hl 3 rfl) ?_
      refine lv_aload_n hx hb dX0_match_56 rfl (lv_at hl 0 rfl) ?_
      refine g_get (C := RX0) (T := TX0) (N := 3) (ci := 0) (v := .ref (ad 11)) hx hb hts in_X0_match_X0 hown hK hI 9 (by decide) (cel_9 cy ad _) rfl 1 (by decide) (by decide +kernel) rfl dX0_match_57 ?_
      refine lv_iload hx hb dX0_match_60 (lv_at hl 4 rfl) ?_
      refine g_iald (v := f_X0_firstChoice (up2 σ 12 x4.toNat x3) q0 q1 x4 x3) hx hb hK hI 11 (by decide) (cel_11 cy ad) (by omega) (by decide) (by rw [up2_same]) dX0_match_62 ?_
      refine g_iadd hx hb dX0_match_63 ?_
      refine lv_istore_n (lv' := [(3, .int (iI (x3 + (f_X0_firstChoice (up2 σ 12 x4.toNat x3) q0 q1 x4 x3)))), (0, .ref (ad 9)), (1, .ref (ad q0)), (2, .ref (ad q1)), (4, .int (iI x4))]) hx hb dX0_match_64 rfl hl (by decide) rfl (fun ls hl => ?_)
      refine lv_iinc (v := iI (x4 + 1)) (lv' := [(4, .int (iI (x4 + 1))), (3, .int (iI (x3 + (f_X0_firstChoice (up2 σ 12 x4.toNat x3) q0 q1 x4 x3)))), (0, .ref (ad 9)), (1, .ref (ad q0)), (2, .ref (ad q1))]) hx hb dX0_match_65 hl (k := 4) rfl (iI_add _ _) (by decide) rfl (fun ls hl => ?_)
      refine lv_goto (tgt := 22) hx hb dX0_match_68 (by decide) ?_
      have e9 : L_X0_match_22 q0 q1 (n + 1) x3 x4 σ = L_X0_match_22 q0 q1 n (x3 + (f_X0_firstChoice (up2 σ 12 x4.toNat x3) q0 q1 x4 x3)) (x4 + 1) (up2 (up2 σ 12 x4.toNat x3) 11 x4.toNat (f_X0_firstChoice (up2 σ 12 x4.toNat x3) q0 q1 x4 x3)) := by rw [L_X0_match_22, if_neg c_6]
      rw [e9] at hk
      exact ih (x3 + (f_X0_firstChoice (up2 σ 12 x4.toNat x3) q0 q1 x4 x3)) (x4 + 1) (up2 (up2 σ 12 x4.toNat x3) 11 x4.toNat (f_X0_firstChoice (up2 σ 12 x4.toNat x3) q0 q1 x4 x3)) (by omega) (by omega) (by omega) (by omega) _ _ _ hI (lv_sub hl [2, 3, 4, 1, 0] rfl) hk
def f_X0_match (σ : Sg) (q0 : Nat) (q1 : Nat) : Int × Sg := (if (f_X0_isWay (f_X0_findWays σ q0 q1) 0 0) = 0 then (0, (f_X0_findWays σ q0 q1)) else (1, (L_X0_match_22 q0 q1 13 0 0 (f_X0_findWays σ q0 q1))))
theorem hd_X0_match : yX0_match.cls = RX0 ∧ yX0_match.cls ≠ "java/lang/invoke/MethodHandle" ∧ yX0_match.cls ≠ "java/lang/invoke/VarHandle" ∧ (parseMethodDescriptor yX0_match.desc).map (fun d => d.parameters.length) = some 2 := by decide +kernel
set_option maxHeartbeats 4000000 in
set_option maxRecDepth 100000 in
theorem c_X0_match (l : Launch) (D : va_G) (cy : Nat → ClassId) (ad : Nat → Nat) (σ : Sg) (q0 : Nat) (hq0 : isRu q0) (q1 : Nat) (hq1 : isPl q1) : CM l D cy ad yX0_match wsX0_match { frames := 4, cells := 0, slots := 0, locals := 160 } [.ref (ad 9), .ref (ad q0), .ref (ad q1)] σ (some (.int (iI ((f_X0_match σ q0 q1).1)))) ((f_X0_match σ q0 q1).2) ((0 ≤ (f_X0_match σ q0 q1).1 ∧ (f_X0_match σ q0 q1).1 ≤ 1)) := by
  refine CM.of (cc := cX0_match) (maxL := 5) (ret := (some .boolean)) (by decide) rfl (Nat.le_of_ble_eq_true rfl) ?_
  intro p e s m args below meth c₀ ls X hI hl
  have hl : lv_has ls 5 [(0, .ref (ad 9)), (1, .ref (ad q0)), (2, .ref (ad q1))] := hl
  obtain ⟨hx, hb, hr, hml, hown, hts, hlocks, hK, hN⟩ := id X
  have hF := hI.2.2.2
  refine lv_aload_n hx hb dX0_match_0 rfl (lv_at hl 0 rfl) ?_
  refine lv_aload_n hx hb dX0_match_1 rfl (lv_at hl 1 rfl) ?_
  refine lv_aload_n hx hb dX0_match_2 rfl (lv_at hl 2 rfl) ?_
  refine g_V (As := [.ref (ad q0), .ref (ad q1)]) (rest := []) 9 (c_X0_findWays l D cy ad σ q0 hq0 q1 hq1) hx hb hml hown hts hK hN hI hl.1 gX0_match_X0_findWays rfl hd_X0_findWays rfl rfl ⟨Nat.le_of_ble_eq_true rfl, Nat.le_of_ble_eq_true rfl⟩ ⟨Nat.zero_le _, Nat.zero_le _⟩ (by decide) (cel_9 cy ad _) rfl rfl rfl rfl (Nat.le_of_ble_eq_true rfl) dX0_match_3 (fun H locs hG_1 hI => ?_)
  have hF_2 := hI.2.2.2
  refine lv_aload_n hx hb dX0_match_6 rfl (lv_at hl 0 rfl) ?_
  refine lv_iconst (v := iI 0) hx hb dX0_match_7 rfl ?_
  refine lv_iconst (v := iI 0) hx hb dX0_match_8 rfl ?_
  refine g_V (As := [.int (iI 0), .int (iI 0)]) (rest := []) 9 (c_X0_isWay l D cy ad (f_X0_findWays σ q0 q1) 0 (by omega) 0 (by omega)) hx hb hml hown hts hK hN hI hl.1 gX0_match_X0_isWay rfl hd_X0_isWay rfl rfl ⟨Nat.le_of_ble_eq_true rfl, Nat.le_of_ble_eq_true rfl⟩ ⟨Nat.zero_le _, Nat.zero_le _⟩ (by decide) (cel_9 cy ad _) rfl rfl rfl rfl (Nat.le_of_ble_eq_true rfl) dX0_match_9 (fun H locs hG_3 hI => ?_)
  refine g_if_ne (tgt := 17) hx hb dX0_match_12 (by decide) (by omega) (fun c_4 => ?_) (fun c_4 => ?_)
  · skip
    refine lv_iconst (v := iI 0) hx hb dX0_match_17 rfl ?_
    refine lv_istore_n (lv' := [(3, .int (iI 0)), (0, .ref (ad 9)), (1, .ref (ad q0)), (2, .ref (ad q1))]) hx hb dX0_match_18 rfl hl (by decide) rfl (fun ls hl => ?_)
    refine lv_iconst (v := iI 0) hx hb dX0_match_19 rfl ?_
    refine lv_istore (lv' := [(4, .int (iI 0)), (3, .int (iI 0)), (0, .ref (ad 9)), (1, .ref (ad q0)), (2, .ref (ad q1))]) hx hb dX0_match_20 hl (by decide) rfl (fun ls hl => ?_)
    refine w_L_X0_match_22 X  q0 hq0 q1 hq1  13 0 0 (f_X0_findWays σ q0 q1) (by omega) (by omega) (by omega) (by omega) _ _ _ hI (lv_sub hl [2, 3, 4, 1, 0] rfl) (fun H locs ls hpo_11 hI hl => ?_)
    have hF_10 := hI.2.2.2
    refine lv_iconst (v := iI 1) hx hb dX0_match_71 rfl ?_
    have e9 : f_X0_match σ q0 q1 = (1, (L_X0_match_22 q0 q1 13 0 0 (f_X0_findWays σ q0 q1))) := by rw [f_X0_match, if_neg c_4]
    exact g_zret (z := 1) hx hb hr hK hN hlocks hI (by rw [e9]) (by rw [e9]) (by rw [e9] <;> first | (omega) | (dsimp only; omega)) (by omega) dX0_match_72
  · skip
    refine lv_iconst (v := iI 0) hx hb dX0_match_15 rfl ?_
    have e9 : f_X0_match σ q0 q1 = (0, (f_X0_findWays σ q0 q1)) := by rw [f_X0_match, if_pos c_4]
    exact g_zret (z := 0) hx hb hr hK hN hlocks hI (by rw [e9]) (by rw [e9]) (by rw [e9] <;> first | (omega) | (dsimp only; omega)) (by omega) dX0_match_16
