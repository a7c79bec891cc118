theorem in_X3_isMade_X3 : ∀ w ∈ u_ws RX3 TX3 9, w ∈ wsX3_isMade := by decide +kernel
def f_X3_isMade (σ : Sg) : Int := σ 13 4
theorem hd_X3_isMade : yX3_isMade.cls = RX3 ∧ yX3_isMade.cls ≠ "java/lang/invoke/MethodHandle" ∧ yX3_isMade.cls ≠ "java/lang/invoke/VarHandle" ∧ (parseMethodDescriptor yX3_isMade.desc).map (fun d => d.parameters.length) = some 0 := by decide +kernel
set_option maxHeartbeats 4000000 in
set_option maxRecDepth 100000 in
theorem c_X3_isMade (l : Launch) (D : va_G) (cy : Nat → ClassId) (ad : Nat → Nat) (σ : Sg) : CM l D cy ad yX3_isMade wsX3_isMade { frames := 0, cells := 0, slots := 0, locals := 0 } [.ref (ad 13)] σ (some (.int (iI (f_X3_isMade σ)))) σ ((0 ≤ f_X3_isMade σ ∧ f_X3_isMade σ ≤ 1)) := by
  refine CM.of (cc := cX3_isMade) (maxL := 1) (ret := (some .boolean)) (by decide) rfl (Nat.le_of_ble_eq_true rfl) ?_
  intro p e s m args below meth c₀ ls X hI hl
  have hl : lv_has ls 1 [(0, .ref (ad 13))] := hl
  obtain ⟨hx, hb, hr, hml, hown, hts, hlocks, hK, hN⟩ := id X
  have hF := hI.2.2.2
  refine lv_aload_n hx hb dX3_isMade_0 rfl (lv_at hl 0 rfl) ?_
  refine g_get (C := RX3) (T := TX3) (N := 9) (ci := 3) (v := .int (iI (σ 13 4))) hx hb hts in_X3_isMade_X3 hown hK hI 13 (by decide) (cel_13 cy ad _) rfl 4 (by decide) (by decide +kernel) rfl dX3_isMade_1 ?_
  have b_1 := bd_13_4 hF
  have e9 : f_X3_isMade σ = σ 13 4 := by rw [f_X3_isMade]
  exact g_zret (z := σ 13 4) hx hb hr hK hN hlocks hI e9.symm rfl (by rw [e9] <;> first | (omega) | (dsimp only; omega)) (by omega) dX3_isMade_4
theorem in_X3_isUnderWay_X3 : ∀ w ∈ u_ws RX3 TX3 9, w ∈ wsX3_isUnderWay := by decide +kernel
def f_X3_isUnderWay (σ : Sg) : Int := (if (σ 13 8) ≤ 0 then 0 else (if (σ 13 7) ≤ (σ 13 8) then 0 else 1))
theorem hd_X3_isUnderWay : yX3_isUnderWay.cls = RX3 ∧ yX3_isUnderWay.cls ≠ "java/lang/invoke/MethodHandle" ∧ yX3_isUnderWay.cls ≠ "java/lang/invoke/VarHandle" ∧ (parseMethodDescriptor yX3_isUnderWay.desc).map (fun d => d.parameters.length) = some 0 := by decide +kernel
set_option maxHeartbeats 4000000 in
set_option maxRecDepth 100000 in
theorem c_X3_isUnderWay (l : Launch) (D : va_G) (cy : Nat → ClassId) (ad : Nat → Nat) (σ : Sg) : CM l D cy ad yX3_isUnderWay wsX3_isUnderWay { frames := 0, cells := 0, slots := 0, locals := 0 } [.ref (ad 13)] σ (some (.int (iI (f_X3_isUnderWay σ)))) σ ((0 ≤ f_X3_isUnderWay σ ∧ f_X3_isUnderWay σ ≤ 1)) := by
  refine CM.of (cc := cX3_isUnderWay) (maxL := 1) (ret := (some .boolean)) (by decide) rfl (Nat.le_of_ble_eq_true rfl) ?_
  intro p e s m args below meth c₀ ls X hI hl
  have hl : lv_has ls 1 [(0, .ref (ad 13))] := hl
  obtain ⟨hx, hb, hr, hml, hown, hts, hlocks, hK, hN⟩ := id X
  have hF := hI.2.2.2
  refine lv_aload_n hx hb dX3_isUnderWay_0 rfl (lv_at hl 0 rfl) ?_
  refine g_get (C := RX3) (T := TX3) (N := 9) (ci := 3) (v := .int (iI (σ 13 8))) hx hb hts in_X3_isUnderWay_X3 hown hK hI 13 (by decide) (cel_13 cy ad _) rfl 8 (by decide) (by decide +kernel) rfl dX3_isUnderWay_1 ?_
  have b_1 := bd_13_8 hF
  refine g_if_le (tgt := 22) hx hb dX3_isUnderWay_4 (by decide) (by omega) (fun c_2 => ?_) (fun c_2 => ?_)
  · skip
    refine lv_iconst (v := iI 0) hx hb dX3_isUnderWay_22 rfl ?_
    have e9 : f_X3_isUnderWay σ = 0 := by rw [f_X3_isUnderWay, if_pos c_2]
    exact g_zret (z := 0) hx hb hr hK hN hlocks hI e9.symm rfl (by rw [e9] <;> first | (omega) | (dsimp only; omega)) (by omega) dX3_isUnderWay_23
  · skip
    refine lv_aload_n hx hb dX3_isUnderWay_7 rfl (lv_at hl 0 rfl) ?_
    refine g_get (C := RX3) (T := TX3) (N := 9) (ci := 3) (v := .int (iI (σ 13 8))) hx hb hts in_X3_isUnderWay_X3 hown hK hI 13 (by decide) (cel_13 cy ad _) rfl 8 (by decide) (by decide +kernel) rfl dX3_isUnderWay_8 ?_
    have b_3 := bd_13_8 hF
    refine lv_aload_n hx hb dX3_isUnderWay_11 rfl (lv_at hl 0 rfl) ?_
    refine g_get (C := RX3) (T := TX3) (N := 9) (ci := 3) (v := .int (iI (σ 13 7))) hx hb hts in_X3_isUnderWay_X3 hown hK hI 13 (by decide) (cel_13 cy ad _) rfl 7 (by decide) (by decide +kernel) rfl dX3_isUnderWay_12 ?_
    have b_4 := bd_13_7 hF
    refine g_icmp_ge (tgt := 22) hx hb dX3_isUnderWay_15 (by decide) (by omega) (by omega) (fun c_5 => ?_) (fun c_5 => ?_)
    · skip
      refine lv_iconst (v := iI 0) hx hb dX3_isUnderWay_22 rfl ?_
      have e9 : f_X3_isUnderWay σ = 0 := by rw [f_X3_isUnderWay, if_neg c_2, if_pos c_5]
      exact g_zret (z := 0) hx hb hr hK hN hlocks hI e9.symm rfl (by rw [e9] <;> first | (omega) | (dsimp only; omega)) (by omega) dX3_isUnderWay_23
    · skip
      refine lv_iconst (v := iI 1) hx hb dX3_isUnderWay_18 rfl ?_
      refine lv_goto (tgt := 23) hx hb dX3_isUnderWay_19 (by decide) ?_
      have e9 : f_X3_isUnderWay σ = 1 := by rw [f_X3_isUnderWay, if_neg c_2, if_neg c_5]
      exact g_zret (z := 1) hx hb hr hK hN hlocks hI e9.symm rfl (by rw [e9] <;> first | (omega) | (dsimp only; omega)) (by omega) dX3_isUnderWay_23
theorem in_X3_canRun_X3 : ∀ w ∈ u_ws RX3 TX3 9, w ∈ wsX3_canRun := by decide +kernel
def f_X3_canRun (σ : Sg) : Int := (if (σ 13 4) = 0 then 0 else (if (σ 13 6) = 0 then 1 else 0))
theorem hd_X3_canRun : yX3_canRun.cls = RX3 ∧ yX3_canRun.cls ≠ "java/lang/invoke/MethodHandle" ∧ yX3_canRun.cls ≠ "java/lang/invoke/VarHandle" ∧ (parseMethodDescriptor yX3_canRun.desc).map (fun d => d.parameters.length) = some 0 := by decide +kernel
set_option maxHeartbeats 4000000 in
set_option maxRecDepth 100000 in
theorem c_X3_canRun (l : Launch) (D : va_G) (cy : Nat → ClassId) (ad : Nat → Nat) (σ : Sg) : CM l D cy ad yX3_canRun wsX3_canRun { frames := 0, cells := 0, slots := 0, locals := 0 } [.ref (ad 13)] σ (some (.int (iI (f_X3_canRun σ)))) σ ((0 ≤ f_X3_canRun σ ∧ f_X3_canRun σ ≤ 1)) := by
  refine CM.of (cc := cX3_canRun) (maxL := 1) (ret := (some .boolean)) (by decide) rfl (Nat.le_of_ble_eq_true rfl) ?_
  intro p e s m args below meth c₀ ls X hI hl
  have hl : lv_has ls 1 [(0, .ref (ad 13))] := hl
  obtain ⟨hx, hb, hr, hml, hown, hts, hlocks, hK, hN⟩ := id X
  have hF := hI.2.2.2
  refine lv_aload_n hx hb dX3_canRun_0 rfl (lv_at hl 0 rfl) ?_
  refine g_get (C := RX3) (T := TX3) (N := 9) (ci := 3) (v := .int (iI (σ 13 4))) hx hb hts in_X3_canRun_X3 hown hK hI 13 (by decide) (cel_13 cy ad _) rfl 4 (by decide) (by decide +kernel) rfl dX3_canRun_1 ?_
  have b_1 := bd_13_4 hF
  refine g_if_eq (tgt := 18) hx hb dX3_canRun_4 (by decide) (by omega) (fun c_2 => ?_) (fun c_2 => ?_)
  · skip
    refine lv_iconst (v := iI 0) hx hb dX3_canRun_18 rfl ?_
    have e9 : f_X3_canRun σ = 0 := by rw [f_X3_canRun, if_pos c_2]
    exact g_zret (z := 0) hx hb hr hK hN hlocks hI e9.symm rfl (by rw [e9] <;> first | (omega) | (dsimp only; omega)) (by omega) dX3_canRun_19
  · skip
    refine lv_aload_n hx hb dX3_canRun_7 rfl (lv_at hl 0 rfl) ?_
    refine g_get (C := RX3) (T := TX3) (N := 9) (ci := 3) (v := .int (iI (σ 13 6))) hx hb hts in_X3_canRun_X3 hown hK hI 13 (by decide) (cel_13 cy ad _) rfl 6 (by decide) (by decide +kernel) rfl dX3_canRun_8 ?_
    have b_3 := bd_13_6 hF
    refine g_if_ne (tgt := 18) hx hb dX3_canRun_11 (by decide) (by omega) (fun c_4 => ?_) (fun c_4 => ?_)
    · skip
      refine lv_iconst (v := iI 0) hx hb dX3_canRun_18 rfl ?_
      have e9 : f_X3_canRun σ = 0 := by rw [f_X3_canRun, if_neg c_2, if_neg c_4]
      exact g_zret (z := 0) hx hb hr hK hN hlocks hI e9.symm rfl (by rw [e9] <;> first | (omega) | (dsimp only; omega)) (by omega) dX3_canRun_19
    · skip
      refine lv_iconst (v := iI 1) hx hb dX3_canRun_14 rfl ?_
      refine lv_goto (tgt := 19) hx hb dX3_canRun_15 (by decide) ?_
      have e9 : f_X3_canRun σ = 1 := by rw [f_X3_canRun, if_neg c_2, if_pos c_4]
      exact g_zret (z := 1) hx hb hr hK hN hlocks hI e9.symm rfl (by rw [e9] <;> first | (omega) | (dsimp only; omega)) (by omega) dX3_canRun_19
theorem in_X3_size_X3 : ∀ w ∈ u_ws RX3 TX3 9, w ∈ wsX3_size := by decide +kernel
def f_X3_size (σ : Sg) : Int := σ 13 5
theorem hd_X3_size : yX3_size.cls = RX3 ∧ yX3_size.cls ≠ "java/lang/invoke/MethodHandle" ∧ yX3_size.cls ≠ "java/lang/invoke/VarHandle" ∧ (parseMethodDescriptor yX3_size.desc).map (fun d => d.parameters.length) = some 0 := by decide +kernel
set_option maxHeartbeats 4000000 in
set_option maxRecDepth 100000 in
theorem c_X3_size (l : Launch) (D : va_G) (cy : Nat → ClassId) (ad : Nat → Nat) (σ : Sg) : CM l D cy ad yX3_size wsX3_size { frames := 0, cells := 0, slots := 0, locals := 0 } [.ref (ad 13)] σ (some (.int (iI (f_X3_size σ)))) σ ((f_X3_size σ) = σ 13 5 ∧ 0 ≤ (f_X3_size σ) ∧ (f_X3_size σ) ≤ 40) := by
  refine CM.of (cc := cX3_size) (maxL := 1) (ret := (some .int)) (by decide) rfl (Nat.le_of_ble_eq_true rfl) ?_
  intro p e s m args below meth c₀ ls X hI hl
  have hl : lv_has ls 1 [(0, .ref (ad 13))] := hl
  obtain ⟨hx, hb, hr, hml, hown, hts, hlocks, hK, hN⟩ := id X
  have hF := hI.2.2.2
  refine lv_aload_n hx hb dX3_size_0 rfl (lv_at hl 0 rfl) ?_
  refine g_get (C := RX3) (T := TX3) (N := 9) (ci := 3) (v := .int (iI (σ 13 5))) hx hb hts in_X3_size_X3 hown hK hI 13 (by decide) (cel_13 cy ad _) rfl 5 (by decide) (by decide +kernel) rfl dX3_size_1 ?_
  have b_1 := bd_13_5 hF
  have e9 : f_X3_size σ = σ 13 5 := by rw [f_X3_size]
  exact g_iret (z := σ 13 5) hx hb hr hK hN hlocks hI e9.symm rfl (by rw [e9] <;> first | (omega) | (dsimp only; omega)) dX3_size_4
theorem in_X3_isFull_X3 : ∀ w ∈ u_ws RX3 TX3 9, w ∈ wsX3_isFull := by decide +kernel
def f_X3_isFull (σ : Sg) : Int := (if (σ 13 5) < 40 then 0 else 1)
theorem hd_X3_isFull : yX3_isFull.cls = RX3 ∧ yX3_isFull.cls ≠ "java/lang/invoke/MethodHandle" ∧ yX3_isFull.cls ≠ "java/lang/invoke/VarHandle" ∧ (parseMethodDescriptor yX3_isFull.desc).map (fun d => d.parameters.length) = some 0 := by decide +kernel
set_option maxHeartbeats 4000000 in
set_option maxRecDepth 100000 in
theorem c_X3_isFull (l : Launch) (D : va_G) (cy : Nat → ClassId) (ad : Nat → Nat) (σ : Sg) : CM l D cy ad yX3_isFull wsX3_isFull { frames := 0, cells := 0, slots := 0, locals := 0 } [.ref (ad 13)] σ (some (.int (iI (f_X3_isFull σ)))) σ ((0 ≤ f_X3_isFull σ ∧ f_X3_isFull σ ≤ 1) ∧ ((f_X3_isFull σ) = 1 ∨ σ 13 5 < 40)) := by
  refine CM.of (cc := cX3_isFull) (maxL := 1) (ret := (some .boolean)) (by decide) rfl (Nat.le_of_ble_eq_true rfl) ?_
  intro p e s m args below meth c₀ ls X hI hl
  have hl : lv_has ls 1 [(0, .ref (ad 13))] := hl
  obtain ⟨hx, hb, hr, hml, hown, hts, hlocks, hK, hN⟩ := id X
  have hF := hI.2.2.2
  refine lv_aload_n hx hb dX3_isFull_0 rfl (lv_at hl 0 rfl) ?_
  refine g_get (C := RX3) (T := TX3) (N := 9) (ci := 3) (v := .int (iI (σ 13 5))) hx hb hts in_X3_isFull_X3 hown hK hI 13 (by decide) (cel_13 cy ad _) rfl 5 (by decide) (by decide +kernel) rfl dX3_isFull_1 ?_
  have b_1 := bd_13_5 hF
  refine lv_aload_n hx hb dX3_isFull_4 rfl (lv_at hl 0 rfl) ?_
  refine g_get (C := RX3) (T := TX3) (N := 9) (ci := 3) (v := .ref (ad 14)) hx hb hts in_X3_isFull_X3 hown hK hI 13 (by decide) (cel_13 cy ad _) rfl 0 (by decide) (by decide +kernel) rfl dX3_isFull_5 ?_
  refine g_alen (z := 40) hx hb hK hI 14 4 (by decide) (cel_14 cy ad _) rfl rfl dX3_isFull_8 ?_
  refine g_icmp_lt (tgt := 16) hx hb dX3_isFull_9 (by decide) (by omega) (by omega) (fun c_2 => ?_) (fun c_2 => ?_)
  · skip
    refine lv_iconst (v := iI 0) hx hb dX3_isFull_16 rfl ?_
    have e9 : f_X3_isFull σ = 0 := by rw [f_X3_isFull, if_pos c_2]
    exact g_zret (z := 0) hx hb hr hK hN hlocks hI e9.symm rfl (by rw [e9] <;> first | (omega) | (dsimp only; omega)) (by omega) dX3_isFull_17
  · skip
    refine lv_iconst (v := iI 1) hx hb dX3_isFull_12 rfl ?_
    refine lv_goto (tgt := 17) hx hb dX3_isFull_13 (by decide) ?_
    have e9 : f_X3_isFull σ = 1 := by rw [f_X3_isFull, if_neg c_2]
    exact g_zret (z := 1) hx hb hr hK hN hlocks hI e9.symm rfl (by rw [e9] <;> first | (omega) | (dsimp only; omega)) (by omega) dX3_isFull_17
theorem in_X3_troubles_X3 : ∀ w ∈ u_ws RX3 TX3 9, w ∈ wsX3_troubles := by decide +kernel
def f_X3_troubles (σ : Sg) : Int := σ 13 6
theorem hd_X3_troubles : yX3_troubles.cls = RX3 ∧ yX3_troubles.cls ≠ "java/lang/invoke/MethodHandle" ∧ yX3_troubles.cls ≠ "java/lang/invoke/VarHandle" ∧ (parseMethodDescriptor yX3_troubles.desc).map (fun d => d.parameters.length) = some 0 := by decide +kernel
set_option maxHeartbeats 4000000 in
set_option maxRecDepth 100000 in
theorem c_X3_troubles (l : Launch) (D : va_G) (cy : Nat → ClassId) (ad : Nat → Nat) (σ : Sg) : CM l D cy ad yX3_troubles wsX3_troubles { frames := 0, cells := 0, slots := 0, locals := 0 } [.ref (ad 13)] σ (some (.int (iI (f_X3_troubles σ)))) σ (0 ≤ (f_X3_troubles σ) ∧ (f_X3_troubles σ) ≤ 40) := by
  refine CM.of (cc := cX3_troubles) (maxL := 1) (ret := (some .int)) (by decide) rfl (Nat.le_of_ble_eq_true rfl) ?_
  intro p e s m args below meth c₀ ls X hI hl
  have hl : lv_has ls 1 [(0, .ref (ad 13))] := hl
  obtain ⟨hx, hb, hr, hml, hown, hts, hlocks, hK, hN⟩ := id X
  have hF := hI.2.2.2
  refine lv_aload_n hx hb dX3_troubles_0 rfl (lv_at hl 0 rfl) ?_
  refine g_get (C := RX3) (T := TX3) (N := 9) (ci := 3) (v := .int (iI (σ 13 6))) hx hb hts in_X3_troubles_X3 hown hK hI 13 (by decide) (cel_13 cy ad _) rfl 6 (by decide) (by decide +kernel) rfl dX3_troubles_1 ?_
  have b_1 := bd_13_6 hF
  have e9 : f_X3_troubles σ = σ 13 6 := by rw [f_X3_troubles]
  exact g_iret (z := σ 13 6) hx hb hr hK hN hlocks hI e9.symm rfl (by rw [e9] <;> first | (omega) | (dsimp only; omega)) dX3_troubles_4
theorem in_X3_stepCount_X3 : ∀ w ∈ u_ws RX3 TX3 9, w ∈ wsX3_stepCount := by decide +kernel
def f_X3_stepCount (σ : Sg) : Int := σ 13 7
theorem hd_X3_stepCount : yX3_stepCount.cls = RX3 ∧ yX3_stepCount.cls ≠ "java/lang/invoke/MethodHandle" ∧ yX3_stepCount.cls ≠ "java/lang/invoke/VarHandle" ∧ (parseMethodDescriptor yX3_stepCount.desc).map (fun d => d.parameters.length) = some 0 := by decide +kernel
set_option maxHeartbeats 4000000 in
set_option maxRecDepth 100000 in
theorem c_X3_stepCount (l : Launch) (D : va_G) (cy : Nat → ClassId) (ad : Nat → Nat) (σ : Sg) : CM l D cy ad yX3_stepCount wsX3_stepCount { frames := 0, cells := 0, slots := 0, locals := 0 } [.ref (ad 13)] σ (some (.int (iI (f_X3_stepCount σ)))) σ ((f_X3_stepCount σ) = σ 13 7 ∧ 0 ≤ (f_X3_stepCount σ) ∧ (f_X3_stepCount σ) ≤ 80) := by
  refine CM.of (cc := cX3_stepCount) (maxL := 1) (ret := (some .int)) (by decide) rfl (Nat.le_of_ble_eq_true rfl) ?_
  intro p e s m args below meth c₀ ls X hI hl
  have hl : lv_has ls 1 [(0, .ref (ad 13))] := hl
  obtain ⟨hx, hb, hr, hml, hown, hts, hlocks, hK, hN⟩ := id X
  have hF := hI.2.2.2
  refine lv_aload_n hx hb dX3_stepCount_0 rfl (lv_at hl 0 rfl) ?_
  refine g_get (C := RX3) (T := TX3) (N := 9) (ci := 3) (v := .int (iI (σ 13 7))) hx hb hts in_X3_stepCount_X3 hown hK hI 13 (by decide) (cel_13 cy ad _) rfl 7 (by decide) (by decide +kernel) rfl dX3_stepCount_1 ?_
  have b_1 := bd_13_7 hF
  have e9 : f_X3_stepCount σ = σ 13 7 := by rw [f_X3_stepCount]
  exact g_iret (z := σ 13 7) hx hb hr hK hN hlocks hI e9.symm rfl (by rw [e9] <;> first | (omega) | (dsimp only; omega)) dX3_stepCount_4
theorem in_X3_done_X3 : ∀ w ∈ u_ws RX3 TX3 9, w ∈ wsX3_done := by decide +kernel
def f_X3_done (σ : Sg) : Int := σ 13 8
theorem hd_X3_done : yX3_done.cls = RX3 ∧ yX3_done.cls ≠ "java/lang/invoke/MethodHandle" ∧ yX3_done.cls ≠ "java/lang/invoke/VarHandle" ∧ (parseMethodDescriptor yX3_done.desc).map (fun d => d.parameters.length) = some 0 := by decide +kernel
set_option maxHeartbeats 4000000 in
set_option maxRecDepth 100000 in
theorem c_X3_done (l : Launch) (D : va_G) (cy : Nat → ClassId) (ad : Nat → Nat) (σ : Sg) : CM l D cy ad yX3_done wsX3_done { frames := 0, cells := 0, slots := 0, locals := 0 } [.ref (ad 13)] σ (some (.int (iI (f_X3_done σ)))) σ ((f_X3_done σ) = σ 13 8 ∧ 0 ≤ (f_X3_done σ) ∧ (f_X3_done σ) ≤ 80) := by
  refine CM.of (cc := cX3_done) (maxL := 1) (ret := (some .int)) (by decide) rfl (Nat.le_of_ble_eq_true rfl) ?_
  intro p e s m args below meth c₀ ls X hI hl
  have hl : lv_has ls 1 [(0, .ref (ad 13))] := hl
  obtain ⟨hx, hb, hr, hml, hown, hts, hlocks, hK, hN⟩ := id X
  have hF := hI.2.2.2
  refine lv_aload_n hx hb dX3_done_0 rfl (lv_at hl 0 rfl) ?_
  refine g_get (C := RX3) (T := TX3) (N := 9) (ci := 3) (v := .int (iI (σ 13 8))) hx hb hts in_X3_done_X3 hown hK hI 13 (by decide) (cel_13 cy ad _) rfl 8 (by decide) (by decide +kernel) rfl dX3_done_1 ?_
  have b_1 := bd_13_8 hF
  have e9 : f_X3_done σ = σ 13 8 := by rw [f_X3_done]
  exact g_iret (z := σ 13 8) hx hb hr hK hN hlocks hI e9.symm rfl (by rw [e9] <;> first | (omega) | (dsimp only; omega)) dX3_done_4
theorem in_X3_setDone_X3 : ∀ w ∈ u_ws RX3 TX3 9, w ∈ wsX3_setDone := by decide +kernel
def f_X3_setDone (σ : Sg) (a0 : Int) : Sg := (up2 σ 13 8 a0)
theorem hd_X3_setDone : yX3_setDone.cls = RX3 ∧ yX3_setDone.cls ≠ "java/lang/invoke/MethodHandle" ∧ yX3_setDone.cls ≠ "java/lang/invoke/VarHandle" ∧ (parseMethodDescriptor yX3_setDone.desc).map (fun d => d.parameters.length) = some 1 := by decide +kernel
set_option maxHeartbeats 4000000 in
set_option maxRecDepth 100000 in
theorem c_X3_setDone (l : Launch) (D : va_G) (cy : Nat → ClassId) (ad : Nat → Nat) (σ : Sg) (a0 : Int) (ha0 : (0 : Int) ≤ a0 ∧ a0 ≤ 80) : CM l D cy ad yX3_setDone wsX3_setDone { frames := 0, cells := 0, slots := 0, locals := 0 } [.ref (ad 13), .int (iI a0)] σ none (f_X3_setDone σ a0) (True) := by
  refine CM.of (cc := cX3_setDone) (maxL := 2) (ret := none) (by decide) rfl (Nat.le_of_ble_eq_true rfl) ?_
  intro p e s m args below meth c₀ ls X hI hl
  have hl : lv_has ls 2 [(0, .ref (ad 13)), (1, .int (iI a0))] := hl
  obtain ⟨hx, hb, hr, hml, hown, hts, hlocks, hK, hN⟩ := id X
  have hF := hI.2.2.2
  refine lv_aload_n hx hb dX3_setDone_0 rfl (lv_at hl 0 rfl) ?_
  refine lv_iload_n hx hb dX3_setDone_1 rfl (lv_at hl 1 rfl) ?_
  refine g_put (C := RX3) (T := TX3) (N := 9) (ci := 3) (ty := .int) (z := a0) hx hb hts in_X3_setDone_X3 tyX3 tyX3_ok nmX3 hown hK hI 13 (by decide) (cel_13 cy ad) rfl 8 (by decide) (by decide +kernel) rfl (by decide +kernel) rfl rfl (Nat.le_of_ble_eq_true rfl) rfl (bw_13_8 (by omega)) dX3_setDone_2 (fun H locs hI => ?_)
  have hF_1 := hI.2.2.2
  have e9 : f_X3_setDone σ a0 = (up2 σ 13 8 a0) := by rw [f_X3_setDone]
  exact g_vret hx hb hr hK hN hlocks hI (by rw [e9]) trivial dX3_setDone_5
theorem in_X3_hasPlanned_X3 : ∀ w ∈ u_ws RX3 TX3 9, w ∈ wsX3_hasPlanned := by decide +kernel
def f_X3_hasPlanned (σ : Sg) (a0 : Int) : Int := (if a0 < 0 then 0 else (if (σ 13 5) ≤ a0 then 0 else 1))
theorem hd_X3_hasPlanned : yX3_hasPlanned.cls = RX3 ∧ yX3_hasPlanned.cls ≠ "java/lang/invoke/MethodHandle" ∧ yX3_hasPlanned.cls ≠ "java/lang/invoke/VarHandle" ∧ (parseMethodDescriptor yX3_hasPlanned.desc).map (fun d => d.parameters.length) = some 1 := by decide +kernel
set_option maxHeartbeats 4000000 in
set_option maxRecDepth 100000 in
theorem c_X3_hasPlanned (l : Launch) (D : va_G) (cy : Nat → ClassId) (ad : Nat → Nat) (σ : Sg) (a0 : Int) (ha0 : (-2147483648 ≤ a0 ∧ a0 < 2147483648)) : CM l D cy ad yX3_hasPlanned wsX3_hasPlanned { frames := 0, cells := 0, slots := 0, locals := 0 } [.ref (ad 13), .int (iI a0)] σ (some (.int (iI (f_X3_hasPlanned σ a0)))) σ ((0 ≤ f_X3_hasPlanned σ a0 ∧ f_X3_hasPlanned σ a0 ≤ 1) ∧ ((f_X3_hasPlanned σ a0) = 0 ∨ (0 ≤ a0 ∧ a0 ≤ 39))) := by
  refine CM.of (cc := cX3_hasPlanned) (maxL := 2) (ret := (some .boolean)) (by decide) rfl (Nat.le_of_ble_eq_true rfl) ?_
  intro p e s m args below meth c₀ ls X hI hl
  have hl : lv_has ls 2 [(0, .ref (ad 13)), (1, .int (iI a0))] := hl
  obtain ⟨hx, hb, hr, hml, hown, hts, hlocks, hK, hN⟩ := id X
  have hF := hI.2.2.2
  refine lv_iload_n hx hb dX3_hasPlanned_0 rfl (lv_at hl 1 rfl) ?_
  refine g_if_lt (tgt := 16) hx hb dX3_hasPlanned_1 (by decide) (by omega) (fun c_1 => ?_) (fun c_1 => ?_)
  · skip
    refine lv_iconst (v := iI 0) hx hb dX3_hasPlanned_16 rfl ?_
    have e9 : f_X3_hasPlanned σ a0 = 0 := by rw [f_X3_hasPlanned, if_pos c_1]
    exact g_zret (z := 0) hx hb hr hK hN hlocks hI e9.symm rfl (by rw [e9] <;> first | (omega) | (dsimp only; omega)) (by omega) dX3_hasPlanned_17
  · skip
    refine lv_iload_n hx hb dX3_hasPlanned_4 rfl (lv_at hl 1 rfl) ?_
    refine lv_aload_n hx hb dX3_hasPlanned_5 rfl (lv_at hl 0 rfl) ?_
    refine g_get (C := RX3) (T := TX3) (N := 9) (ci := 3) (v := .int (iI (σ 13 5))) hx hb hts in_X3_hasPlanned_X3 hown hK hI 13 (by decide) (cel_13 cy ad _) rfl 5 (by decide) (by decide +kernel) rfl dX3_hasPlanned_6 ?_
    have b_2 := bd_13_5 hF
    refine g_icmp_ge (tgt := 16) hx hb dX3_hasPlanned_9 (by decide) (by omega) (by omega) (fun c_3 => ?_) (fun c_3 => ?_)
    · skip
      refine lv_iconst (v := iI 0) hx hb dX3_hasPlanned_16 rfl ?_
      have e9 : f_X3_hasPlanned σ a0 = 0 := by rw [f_X3_hasPlanned, if_neg c_1, if_pos c_3]
      exact g_zret (z := 0) hx hb hr hK hN hlocks hI e9.symm rfl (by rw [e9] <;> first | (omega) | (dsimp only; omega)) (by omega) dX3_hasPlanned_17
    · skip
      refine lv_iconst (v := iI 1) hx hb dX3_hasPlanned_12 rfl ?_
      refine lv_goto (tgt := 17) hx hb dX3_hasPlanned_13 (by decide) ?_
      have e9 : f_X3_hasPlanned σ a0 = 1 := by rw [f_X3_hasPlanned, if_neg c_1, if_neg c_3]
      exact g_zret (z := 1) hx hb hr hK hN hlocks hI e9.symm rfl (by rw [e9] <;> first | (omega) | (dsimp only; omega)) (by omega) dX3_hasPlanned_17
theorem in_X3_get_X3 : ∀ w ∈ u_ws RX3 TX3 9, w ∈ wsX3_get := by decide +kernel
def f_X3_get (σ : Sg) (a0 : Int) : Nat := 439 + a0.toNat
theorem hd_X3_get : yX3_get.cls = RX3 ∧ yX3_get.cls ≠ "java/lang/invoke/MethodHandle" ∧ yX3_get.cls ≠ "java/lang/invoke/VarHandle" ∧ (parseMethodDescriptor yX3_get.desc).map (fun d => d.parameters.length) = some 1 := by decide +kernel
set_option maxHeartbeats 4000000 in
set_option maxRecDepth 100000 in
theorem c_X3_get (l : Launch) (D : va_G) (cy : Nat → ClassId) (ad : Nat → Nat) (σ : Sg) (a0 : Int) (ha0 : (0 : Int) ≤ a0 ∧ a0 ≤ 39) : CM l D cy ad yX3_get wsX3_get { frames := 0, cells := 0, slots := 0, locals := 0 } [.ref (ad 13), .int (iI a0)] σ (some (.ref (ad (f_X3_get σ a0)))) σ (isPd (f_X3_get σ a0)) := by
  refine CM.of (cc := cX3_get) (maxL := 2) (ret := (some (.object "NameTurner$Planned"))) (by decide) rfl (Nat.le_of_ble_eq_true rfl) ?_
  intro p e s m args below meth c₀ ls X hI hl
  have hl : lv_has ls 2 [(0, .ref (ad 13)), (1, .int (iI a0))] := hl
  obtain ⟨hx, hb, hr, hml, hown, hts, hlocks, hK, hN⟩ := id X
  have hF := hI.2.2.2
  refine lv_aload_n hx hb dX3_get_0 rfl (lv_at hl 0 rfl) ?_
  refine g_get (C := RX3) (T := TX3) (N := 9) (ci := 3) (v := .ref (ad 14)) hx hb hts in_X3_get_X3 hown hK hI 13 (by decide) (cel_13 cy ad _) rfl 0 (by decide) (by decide +kernel) rfl dX3_get_1 ?_
  refine lv_iload_n hx hb dX3_get_4 rfl (lv_at hl 1 rfl) ?_
  refine g_aaldQ (f := fun i => 439 + i) hx hb hK hI 14 (by decide) (cel_14 cy ad) (by omega) (by decide) dX3_get_5 ?_
  have hr_1 : isPd (439 + a0.toNat) := by omega
  have e9 : f_X3_get σ a0 = 439 + a0.toNat := by rw [f_X3_get]
  exact g_aret (a := 439 + a0.toNat) hx hb hr hK hN hlocks hI e9.symm rfl (by rw [e9] <;> first | (omega) | (dsimp only; omega)) dX3_get_6
theorem in_X3_begin_X3 : ∀ w ∈ u_ws RX3 TX3 9, w ∈ wsX3_begin := by decide +kernel
def f_X3_begin (σ : Sg) : Sg := (up2 (up2 (up2 (up2 (up2 σ 13 4 1) 13 5 0) 13 6 0) 13 7 0) 13 8 0)
theorem hd_X3_begin : yX3_begin.cls = RX3 ∧ yX3_begin.cls ≠ "java/lang/invoke/MethodHandle" ∧ yX3_begin.cls ≠ "java/lang/invoke/VarHandle" ∧ (parseMethodDescriptor yX3_begin.desc).map (fun d => d.parameters.length) = some 0 := by decide +kernel
set_option maxHeartbeats 4000000 in
set_option maxRecDepth 100000 in
theorem c_X3_begin (l : Launch) (D : va_G) (cy : Nat → ClassId) (ad : Nat → Nat) (σ : Sg) : CM l D cy ad yX3_begin wsX3_begin { frames := 0, cells := 0, slots := 0, locals := 0 } [.ref (ad 13)] σ none (f_X3_begin σ) (True) := by
  refine CM.of (cc := cX3_begin) (maxL := 1) (ret := none) (by decide) rfl (Nat.le_of_ble_eq_true rfl) ?_
  intro p e s m args below meth c₀ ls X hI hl
  have hl : lv_has ls 1 [(0, .ref (ad 13))] := hl
  obtain ⟨hx, hb, hr, hml, hown, hts, hlocks, hK, hN⟩ := id X
  have hF := hI.2.2.2
  refine lv_aload_n hx hb dX3_begin_0 rfl (lv_at hl 0 rfl) ?_
  refine lv_iconst (v := iI 1) hx hb dX3_begin_1 rfl ?_
  refine g_put (C := RX3) (T := TX3) (N := 9) (ci := 3) (ty := .boolean) (z := 1) hx hb hts in_X3_begin_X3 tyX3 tyX3_ok nmX3 hown hK hI 13 (by decide) (cel_13 cy ad) rfl 4 (by decide) (by decide +kernel) rfl (by decide +kernel) (iI_nz (by omega)) (iI_fz (by omega)) (Nat.le_of_ble_eq_true rfl) rfl (bw_13_4 (by omega)) dX3_begin_2 (fun H locs hI => ?_)
  have hF_1 := hI.2.2.2
  refine lv_aload_n hx hb dX3_begin_5 rfl (lv_at hl 0 rfl) ?_
  refine lv_iconst (v := iI 0) hx hb dX3_begin_6 rfl ?_
  refine g_put (C := RX3) (T := TX3) (N := 9) (ci := 3) (ty := .int) (z := 0) hx hb hts in_X3_begin_X3 tyX3 tyX3_ok nmX3 hown hK hI 13 (by decide) (cel_13 cy ad) rfl 5 (by decide) (by decide +kernel) rfl (by decide +kernel) rfl rfl (Nat.le_of_ble_eq_true rfl) rfl (bw_13_5 (by omega)) dX3_begin_7 (fun H locs hI => ?_)
  have hF_2 := hI.2.2.2
  refine lv_aload_n hx hb dX3_begin_10 rfl (lv_at hl 0 rfl) ?_
  refine lv_iconst (v := iI 0) hx hb dX3_begin_11 rfl ?_
  refine g_put (C := RX3) (T := TX3) (N := 9) (ci := 3) (ty := .int) (z := 0) hx hb hts in_X3_begin_X3 tyX3 tyX3_ok nmX3 hown hK hI 13 (by decide) (cel_13 cy ad) rfl 6 (by decide) (by decide +kernel) rfl (by decide +kernel) rfl rfl (Nat.le_of_ble_eq_true rfl) rfl (bw_13_6 (by omega)) dX3_begin_12 (fun H locs hI => ?_)
  have hF_3 := hI.2.2.2
  refine lv_aload_n hx hb dX3_begin_15 rfl (lv_at hl 0 rfl) ?_
  refine lv_iconst (v := iI 0) hx hb dX3_begin_16 rfl ?_
  refine g_put (C := RX3) (T := TX3) (N := 9) (ci := 3) (ty := .int) (z := 0) hx hb hts in_X3_begin_X3 tyX3 tyX3_ok nmX3 hown hK hI 13 (by decide) (cel_13 cy ad) rfl 7 (by decide) (by decide +kernel) rfl (by decide +kernel) rfl rfl (Nat.le_of_ble_eq_true rfl) rfl (bw_13_7 (by omega)) dX3_begin_17 (fun H locs hI => ?_)
  have hF_4 := hI.2.2.2
  refine lv_aload_n hx hb dX3_begin_20 rfl (lv_at hl 0 rfl) ?_
  refine lv_iconst (v := iI 0) hx hb dX3_begin_21 rfl ?_
  refine g_put (C := RX3) (T := TX3) (N := 9) (ci := 3) (ty := .int) (z := 0) hx hb hts in_X3_begin_X3 tyX3 tyX3_ok nmX3 hown hK hI 13 (by decide) (cel_13 cy ad) rfl 8 (by decide) (by decide +kernel) rfl (by decide +kernel) rfl rfl (Nat.le_of_ble_eq_true rfl) rfl (bw_13_8 (by omega)) dX3_begin_22 (fun H locs hI => ?_)
  have hF_5 := hI.2.2.2
  have e9 : f_X3_begin σ = (up2 (up2 (up2 (up2 (up2 σ 13 4 1) 13 5 0) 13 6 0) 13 7 0) 13 8 0) := by rw [f_X3_begin]
  exact g_vret hx hb hr hK hN hlocks hI (by rw [e9]) trivial dX3_begin_25
theorem in_X3_add_X3 : ∀ w ∈ u_ws RX3 TX3 9, w ∈ wsX3_add := by decide +kernel
def f_X3_add (σ : Sg) (a0 : Int) (q1 : Nat) (a2 : Int) : Nat × Sg := (439 + ((σ 13 5).toNat), (up2 (f_X4_begin σ (439 + ((σ 13 5).toNat)) a0 q1 a2) 13 5 (((f_X4_begin σ (439 + ((σ 13 5).toNat)) a0 q1 a2) 13 5) + 1)))
theorem hd_X3_add : yX3_add.cls = RX3 ∧ yX3_add.cls ≠ "java/lang/invoke/MethodHandle" ∧ yX3_add.cls ≠ "java/lang/invoke/VarHandle" ∧ (parseMethodDescriptor yX3_add.desc).map (fun d => d.parameters.length) = some 3 := by decide +kernel
set_option maxHeartbeats 4000000 in
set_option maxRecDepth 100000 in
theorem c_X3_add (l : Launch) (D : va_G) (cy : Nat → ClassId) (ad : Nat → Nat) (σ : Sg) (a0 : Int) (ha0 : (0 : Int) ≤ a0 ∧ a0 ≤ 39) (q1 : Nat) (hq1 : isPl q1) (a2 : Int) (ha2 : (0 : Int) ≤ a2 ∧ a2 ≤ 5000) (h1 : σ 13 5 < 40) : CM l D cy ad yX3_add wsX3_add { frames := 3, cells := 0, slots := 0, locals := 120 } [.ref (ad 13), .int (iI a0), .ref (ad q1), .int (iI a2)] σ (some (.ref (ad ((f_X3_add σ a0 q1 a2).1)))) ((f_X3_add σ a0 q1 a2).2) (isPd ((f_X3_add σ a0 q1 a2).1) ∧ ((f_X3_add σ a0 q1 a2).2) 13 5 = σ 13 5 + 1 ∧ ((f_X3_add σ a0 q1 a2).2) 13 6 = σ 13 6 ∧ ((f_X3_add σ a0 q1 a2).2) 13 7 = σ 13 7) := by
  refine CM.of (cc := cX3_add) (maxL := 5) (ret := (some (.object "NameTurner$Planned"))) (by decide) rfl (Nat.le_of_ble_eq_true rfl) ?_
  intro p e s m args below meth c₀ ls X hI hl
  have hl : lv_has ls 5 [(0, .ref (ad 13)), (1, .int (iI a0)), (2, .ref (ad q1)), (3, .int (iI a2))] := hl
  obtain ⟨hx, hb, hr, hml, hown, hts, hlocks, hK, hN⟩ := id X
  have hF := hI.2.2.2
  refine lv_aload_n hx hb dX3_add_0 rfl (lv_at hl 0 rfl) ?_
  refine g_get (C := RX3) (T := TX3) (N := 9) (ci := 3) (v := .ref (ad 14)) hx hb hts in_X3_add_X3 hown hK hI 13 (by decide) (cel_13 cy ad _) rfl 0 (by decide) (by decide +kernel) rfl dX3_add_1 ?_
  refine lv_aload_n hx hb dX3_add_4 rfl (lv_at hl 0 rfl) ?_
  refine g_get (C := RX3) (T := TX3) (N := 9) (ci := 3) (v := .int (iI (σ 13 5))) hx hb hts in_X3_add_X3 hown hK hI 13 (by decide) (cel_13 cy ad _) rfl 5 (by decide) (by decide +kernel) rfl dX3_add_5 ?_
  have b_1 := bd_13_5 hF
  refine g_aaldQ (f := fun i => 439 + i) hx hb hK hI 14 (by decide) (cel_14 cy ad) (by omega) (by decide) dX3_add_8 ?_
  have hr_2 : isPd (439 + ((σ 13 5).toNat)) := by omega
  refine lv_astore (lv' := [(4, .ref (ad (439 + ((σ 13 5).toNat)))), (0, .ref (ad 13)), (1, .int (iI a0)), (2, .ref (ad q1)), (3, .int (iI a2))]) hx hb dX3_add_9 hl (by decide) rfl (fun ls hl => ?_)
  refine lv_aload hx hb dX3_add_11 (lv_at hl 0 rfl) ?_
  refine lv_iload_n hx hb dX3_add_13 rfl (lv_at hl 2 rfl) ?_
  refine lv_aload_n hx hb dX3_add_14 rfl (lv_at hl 3 rfl) ?_
  refine lv_iload_n hx hb dX3_add_15 rfl (lv_at hl 4 rfl) ?_
  refine g_V (As := [.int (iI a0), .ref (ad q1), .int (iI a2)]) (rest := []) (439 + ((σ 13 5).toNat)) (c_X4_begin l D cy ad σ (439 + ((σ 13 5).toNat)) hr_2 a0 (by omega) q1 hq1 a2 (by omega)) hx hb hml hown hts hK hN hI hl.1 gX3_add_X4_begin rfl hd_X4_begin rfl rfl ⟨Nat.le_of_ble_eq_true rfl, Nat.le_of_ble_eq_true rfl⟩ ⟨Nat.zero_le _, Nat.zero_le _⟩ (by have q := hr_2; omega) (cel_Pd cy ad hr_2 _) rfl rfl rfl rfl (Nat.le_of_ble_eq_true rfl) dX3_add_16 (fun H locs hG_3 hI => ?_)
  have hF_4 := hI.2.2.2
  have q9 := congrFun (begin4_fr σ (439 + (σ 13 5).toNat) a0 q1 a2 (x := 13) (by omega) (by omega) (by omega) (by omega) (by omega)) 5
  have q8 := congrFun (begin4_fr σ (439 + (σ 13 5).toNat) a0 q1 a2 (x := 13) (by omega) (by omega) (by omega) (by omega) (by omega)) 6
  have q7 := congrFun (begin4_fr σ (439 + (σ 13 5).toNat) a0 q1 a2 (x := 13) (by omega) (by omega) (by omega) (by omega) (by omega)) 7
  refine lv_aload_n hx hb dX3_add_19 rfl (lv_at hl 1 rfl) ?_
  refine lv_dup hx hb dX3_add_20 rfl ?_
  refine g_get (C := RX3) (T := TX3) (N := 9) (ci := 3) (v := .int (iI ((f_X4_begin σ (439 + ((σ 13 5).toNat)) a0 q1 a2) 13 5))) hx hb hts in_X3_add_X3 hown hK hI 13 (by decide) (cel_13 cy ad _) rfl 5 (by decide) (by decide +kernel) rfl dX3_add_21 ?_
  have b_5 := bd_13_5 hF_4
  refine lv_iconst (v := iI 1) hx hb dX3_add_24 rfl ?_
  refine g_iadd hx hb dX3_add_25 ?_
  refine g_put (C := RX3) (T := TX3) (N := 9) (ci := 3) (ty := .int) (z := ((f_X4_begin σ (439 + ((σ 13 5).toNat)) a0 q1 a2) 13 5) + 1) hx hb hts in_X3_add_X3 tyX3 tyX3_ok nmX3 hown hK hI 13 (by decide) (cel_13 cy ad) rfl 5 (by decide) (by decide +kernel) rfl (by decide +kernel) rfl rfl (Nat.le_of_ble_eq_true rfl) rfl (bw_13_5 (by omega)) dX3_add_26 (fun H locs hI => ?_)
  have hF_6 := hI.2.2.2
  refine lv_aload hx hb dX3_add_29 (lv_at hl 0 rfl) ?_
  have e9 : f_X3_add σ a0 q1 a2 = (439 + ((σ 13 5).toNat), (up2 (f_X4_begin σ (439 + ((σ 13 5).toNat)) a0 q1 a2) 13 5 (((f_X4_begin σ (439 + ((σ 13 5).toNat)) a0 q1 a2) 13 5) + 1))) := by rw [f_X3_add]
  exact g_aret (a := 439 + ((σ 13 5).toNat)) hx hb hr hK hN hlocks hI (by rw [e9]) (by rw [e9]) (by rw [e9] <;> first | (refine ⟨by omega, ?_, ?_, ?_⟩ <;> simp [up2_at] <;> omega) | (dsimp only; refine ⟨by omega, ?_, ?_, ?_⟩ <;> simp [up2_at] <;> omega)) dX3_add_31
theorem in_X3_find_X3 : ∀ w ∈ u_ws RX3 TX3 9, w ∈ wsX3_find := by decide +kernel
theorem in_X3_find_X4 : ∀ w ∈ u_ws RX4 TX4 12, w ∈ wsX3_find := by decide +kernel
def L_X3_find_2 (σ : Sg) (a0 : Int) : Nat → Int → Int
  | 0, x2 => 0
  | n + 1, x2 => (if (σ 13 5) ≤ x2 then (-1) else (if (σ (439 + x2.toNat) 3) = a0 then x2 else L_X3_find_2 σ a0 n (x2 + 1)))
set_option maxHeartbeats 4000000 in
set_option maxRecDepth 100000 in
theorem w_L_X3_find_2 {p : Program} {l : Launch} {e : Env} {s : State} {m : MethodId} {args : Array Value} {below : List Frame} {meth : Method} {c₀ : Code} {D : va_G} {cy : Nat → ClassId} {ad : Nat → Nat} (X : MX p s m args meth c₀ cX3_find 3 RX3 (some .int) wsX3_find D cy) (σ : Sg) (a0 : Int) (ha0 : (-2147483648 ≤ a0 ∧ a0 < 2147483648)) : ∀ (n : Nat) (x2 : Int) (hx2 : (0 : Int) ≤ x2 ∧ x2 ≤ 40) (hmu : 40 - x2 < (n : Int)) (H : Heap) (locs : List Loc) (ls : Array Slot) (hI : HI D cy ad s σ H locs) (hl : lv_has ls 3 [(0, .ref (ad 13)), (1, .int (iI a0)), (2, .int (iI x2))]), W p l e { frames := 0, cells := 0, slots := 0, locals := 0 } s m args below meth c₀ H locs 0 0 (MQ below (CQ D cy ad (some (.int (iI (L_X3_find_2 σ a0 n x2)))) σ (-1 ≤ (L_X3_find_2 σ a0 n x2) ∧ (L_X3_find_2 σ a0 n x2) ≤ 39) (AA ad s.heap.size)) args s 0 0 (AA ad s.heap.size)) (F0 m 2 ls []) := by
  obtain ⟨hx, hb, hr, hml, hown, hts, hlocks, hK, hN⟩ := id X
  intro n
  induction n with
  | zero =>
    intro x2 hx2 hmu H locs ls hI hl
    exfalso
    have hF := hI.2.2.2
    omega
  | succ n ih =>
    intro x2 hx2 hmu H locs ls hI hl
    have hF := hI.2.2.2
    refine lv_iload_n hx hb dX3_find_2 rfl (lv_at hl 2 rfl) ?_
    refine lv_aload_n hx hb dX3_find_3 rfl (lv_at hl 0 rfl) ?_
    refine g_get (C := RX3) (T := TX3) (N := 9) (ci := 3) (v := .int (iI (σ 13 5))) hx hb hts in_X3_find_X3 hown hK hI 13 (by decide) (cel_13 cy ad _) rfl 5 (by decide) (by decide +kernel) rfl dX3_find_4 ?_
    have b_1 := bd_13_5 hF
    refine g_icmp_ge (tgt := 31) hx hb dX3_find_7 (by decide) (by omega) (by omega) (fun c_2 => ?_) (fun c_2 => ?_)
    · skip
      refine lv_iconst (v := iI (-1)) hx hb dX3_find_31 rfl ?_
      have e9 : L_X3_find_2 σ a0 (n + 1) x2 = (-1) := by rw [L_X3_find_2, if_pos c_2]
      exact g_iret (z := (-1)) hx hb hr hK hN hlocks hI e9.symm rfl (by rw [e9] <;> first | (omega) | (dsimp only; omega)) dX3_find_32
    · skip
      refine lv_aload_n hx hb dX3_find_10 rfl (lv_at hl 0 rfl) ?_
      refine g_get (C := RX3) (T := TX3) (N := 9) (ci := 3) (v := .ref (ad 14)) hx hb hts in_X3_find_X3 hown hK hI 13 (by decide) (cel_13 cy ad _) rfl 0 (by decide) (by decide +kernel) rfl dX3_find_11 ?_
      refine lv_iload_n hx hb dX3_find_14 rfl (lv_at hl 2 rfl) ?_
      refine g_aaldQ (f := fun i => 439 + i) hx hb hK hI 14 (by decide) (cel_14 cy ad) (by omega) (by decide) dX3_find_15 ?_
      have hr_3 : isPd (439 + x2.toNat) := by omega
      refine g_getN (C := RX4) (T := TX4) (N := 12) (ci := 4) (v := .int (iI (σ (439 + x2.toNat) 3))) hx hb hts in_X3_find_X4 hown hK hN hI (439 + x2.toNat) (by have q := hr_3; omega) (cel_Pd cy ad hr_3 _) rfl 3 (by decide) (by decide +kernel) rfl dX3_find_16 ?_
      have b_4 := bd_Pd_3 hF hr_3
      refine lv_iload_n hx hb dX3_find_19 rfl (lv_at hl 1 rfl) ?_
      refine g_icmp_ne (tgt := 25) hx hb dX3_find_20 (by decide) (by omega) (by omega) (fun c_5 => ?_) (fun c_5 => ?_)
      · skip
        refine lv_iinc (v := iI (x2 + 1)) (lv' := [(2, .int (iI (x2 + 1))), (0, .ref (ad 13)), (1, .int (iI a0))]) hx hb dX3_find_25 hl (k := 2) rfl (iI_add _ _) (by decide) rfl (fun ls hl => ?_)
        refine lv_goto (tgt := 2) hx hb dX3_find_28 (by decide) ?_
        have e9 : L_X3_find_2 σ a0 (n + 1) x2 = L_X3_find_2 σ a0 n (x2 + 1) := by rw [L_X3_find_2, if_neg c_2, if_neg c_5]
        rw [e9]
        exact ih (x2 + 1)  (by omega) (by omega) _ _ _ hI (lv_sub hl [1, 2, 0] rfl)
      · skip
        refine lv_iload_n hx hb dX3_find_23 rfl (lv_at hl 2 rfl) ?_
        have e9 : L_X3_find_2 σ a0 (n + 1) x2 = x2 := by rw [L_X3_find_2, if_neg c_2, if_pos c_5]
        exact g_iret (z := x2) hx hb hr hK hN hlocks hI e9.symm rfl (by rw [e9] <;> first | (omega) | (dsimp only; omega)) dX3_find_24
def f_X3_find (σ : Sg) (a0 : Int) : Int := L_X3_find_2 σ a0 41 0
theorem hd_X3_find : yX3_find.cls = RX3 ∧ yX3_find.cls ≠ "java/lang/invoke/MethodHandle" ∧ yX3_find.cls ≠ "java/lang/invoke/VarHandle" ∧ (parseMethodDescriptor yX3_find.desc).map (fun d => d.parameters.length) = some 1 := by decide +kernel
set_option maxHeartbeats 4000000 in
set_option maxRecDepth 100000 in
theorem c_X3_find (l : Launch) (D : va_G) (cy : Nat → ClassId) (ad : Nat → Nat) (σ : Sg) (a0 : Int) (ha0 : (-2147483648 ≤ a0 ∧ a0 < 2147483648)) : CM l D cy ad yX3_find wsX3_find { frames := 0, cells := 0, slots := 0, locals := 0 } [.ref (ad 13), .int (iI a0)] σ (some (.int (iI (f_X3_find σ a0)))) σ (-1 ≤ (f_X3_find σ a0) ∧ (f_X3_find σ a0) ≤ 39) := by
  refine CM.of (cc := cX3_find) (maxL := 3) (ret := (some .int)) (by decide) rfl (Nat.le_of_ble_eq_true rfl) ?_
  intro p e s m args below meth c₀ ls X hI hl
  have hl : lv_has ls 3 [(0, .ref (ad 13)), (1, .int (iI a0))] := hl
  obtain ⟨hx, hb, hr, hml, hown, hts, hlocks, hK, hN⟩ := id X
  have hF := hI.2.2.2
  refine lv_iconst (v := iI 0) hx hb dX3_find_0 rfl ?_
  refine lv_istore_n (lv' := [(2, .int (iI 0)), (0, .ref (ad 13)), (1, .int (iI a0))]) hx hb dX3_find_1 rfl hl (by decide) rfl (fun ls hl => ?_)
  have e9 : f_X3_find σ a0 = L_X3_find_2 σ a0 41 0 := by rw [f_X3_find]
  rw [e9]
  exact w_L_X3_find_2 X σ a0 ha0  41 0  (by omega) (by omega) _ _ _ hI (lv_sub hl [1, 2, 0] rfl)
theorem in_X3_findTroubleWithOthers_X3 : ∀ w ∈ u_ws RX3 TX3 9, w ∈ wsX3_findTroubleWithOthers := by decide +kernel
theorem in_X3_findTroubleWithOthers_X4 : ∀ w ∈ u_ws RX4 TX4 12, w ∈ wsX3_findTroubleWithOthers := by decide +kernel
def L_X3_findTroubleWithOthers_10 (σ : Sg) (a0 : Int) (r3 : Nat) : Nat → Int → Sg
  | 0, x4 => σ
  | n + 1, x4 => (if (σ 13 5) ≤ x4 then (if (f_X7_findAlike σ (201 + 6 * (r3 - 439)) (σ r3 3)) = (-1) then σ else (if (f_X3_find σ (f_X7_findAlike σ (201 + 6 * (r3 - 439)) (σ r3 3))) = (-1) then (f_X4_setTrouble σ r3 3 (f_X7_findAlike σ (201 + 6 * (r3 - 439)) (σ r3 3))) else (if (f_X4_hasName σ (439 + ((f_X3_find σ (f_X7_findAlike σ (201 + 6 * (r3 - 439)) (σ r3 3))).toNat))) = 0 then (f_X4_setTrouble σ r3 3 (f_X7_findAlike σ (201 + 6 * (r3 - 439)) (σ r3 3))) else (if (σ (439 + ((f_X3_find σ (f_X7_findAlike σ (201 + 6 * (r3 - 439)) (σ r3 3))).toNat)) 6) = 0 then (up2 σ r3 9 (f_X3_find σ (f_X7_findAlike σ (201 + 6 * (r3 - 439)) (σ r3 3)))) else (f_X4_setTrouble σ r3 3 (f_X7_findAlike σ (201 + 6 * (r3 - 439)) (σ r3 3))))))) else (if x4 = a0 then L_X3_findTroubleWithOthers_10 σ a0 r3 n (x4 + 1) else (if (f_X4_hasName σ (439 + x4.toNat)) = 0 then L_X3_findTroubleWithOthers_10 σ a0 r3 n (x4 + 1) else (if (f_X2_isAlike σ (201 + 6 * (439 + x4.toNat - 439)) (201 + 6 * (r3 - 439)) (f_X7_isFolding σ)) = 0 then L_X3_findTroubleWithOthers_10 σ a0 r3 n (x4 + 1) else (f_X4_setTrouble σ r3 2 (σ (439 + x4.toNat) 3))))))
set_option maxHeartbeats 4000000 in
set_option maxRecDepth 100000 in
theorem w_L_X3_findTroubleWithOthers_10 {p : Program} {l : Launch} {e : Env} {s : State} {m : MethodId} {args : Array Value} {below : List Frame} {meth : Method} {c₀ : Code} {D : va_G} {cy : Nat → ClassId} {ad : Nat → Nat} (X : MX p s m args meth c₀ cX3_findTroubleWithOthers 6 RX3 none wsX3_findTroubleWithOthers D cy) (σ : Sg) (a0 : Int) (ha0 : (0 : Int) ≤ a0 ∧ a0 ≤ 39) (r3 : Nat) (hr3 : isPd r3) : ∀ (n : Nat) (x4 : Int) (hx4 : (0 : Int) ≤ x4 ∧ x4 ≤ 40) (hmu : 40 - x4 < (n : Int)) (H : Heap) (locs : List Loc) (ls : Array Slot) (hI : HI D cy ad s σ H locs) (hl : lv_has ls 6 [(0, .ref (ad 13)), (1, .int (iI a0)), (2, .ref (ad 3)), (3, .ref (ad r3)), (4, .int (iI x4))]), W p l e { frames := 3, cells := 0, slots := 0, locals := 120 } s m args below meth c₀ H locs 0 0 (MQ below (CQ D cy ad none (L_X3_findTroubleWithOthers_10 σ a0 r3 n x4) (True) (AA ad s.heap.size)) args s 0 0 (AA ad s.heap.size)) (F0 m 10 ls []) := by
  obtain ⟨hx, hb, hr, hml, hown, hts, hlocks, hK, hN⟩ := id X
  intro n
  induction n with
  | zero =>
    intro x4 hx4 hmu H locs ls hI hl
    exfalso
    have hF := hI.2.2.2
    omega
  | succ n ih =>
    intro x4 hx4 hmu H locs ls hI hl
    have hF := hI.2.2.2
    refine lv_iload hx hb dX3_findTroubleWithOthers_10 (lv_at hl 4 rfl) ?_
    refine lv_aload_n hx hb dX3_findTroubleWithOthers_12 rfl (lv_at hl 0 rfl) ?_
    refine g_get (C := RX3) (T := TX3) (N := 9) (ci := 3) (v := .int (iI (σ 13 5))) hx hb hts in_X3_findTroubleWithOthers_X3 hown hK hI 13 (by decide) (cel_13 cy ad _) rfl 5 (by decide) (by decide +kernel) rfl dX3_findTroubleWithOthers_13 ?_
    have b_2 := bd_13_5 hF
    refine g_icmp_ge (tgt := 84) hx hb dX3_findTroubleWithOthers_16 (by decide) (by omega) (by omega) (fun c_3 => ?_) (fun c_3 => ?_)
    · skip
      refine lv_aload_n hx hb dX3_findTroubleWithOthers_84 rfl (lv_at hl 2 rfl) ?_
      refine lv_aload_n hx hb dX3_findTroubleWithOthers_85 rfl (lv_at hl 3 rfl) ?_
      refine g_getN (C := RX4) (T := TX4) (N := 12) (ci := 4) (v := .ref (ad (201 + 6 * (r3 - 439)))) hx hb hts in_X3_findTroubleWithOthers_X4 hown hK hN hI r3 (by have q := hr3; omega) (cel_Pd cy ad hr3 _) rfl 1 (by decide) (by decide +kernel) rfl dX3_findTroubleWithOthers_86 ?_
      refine lv_aload_n hx hb dX3_findTroubleWithOthers_89 rfl (lv_at hl 3 rfl) ?_
      refine g_getN (C := RX4) (T := TX4) (N := 12) (ci := 4) (v := .int (iI (σ r3 3))) hx hb hts in_X3_findTroubleWithOthers_X4 hown hK hN hI r3 (by have q := hr3; omega) (cel_Pd cy ad hr3 _) rfl 3 (by decide) (by decide +kernel) rfl dX3_findTroubleWithOthers_90 ?_
      have b_4 := bd_Pd_3 hF hr3
      refine g_V (As := [.ref (ad (201 + 6 * (r3 - 439))), .int (iI (σ r3 3))]) (rest := []) 3 (c_X7_findAlike l D cy ad σ (201 + 6 * (r3 - 439)) (by have q := hr3; omega : isPl (201 + 6 * (r3 - 439))) (σ r3 3) (by omega)) hx hb hml hown hts hK hN hI hl.1 gX3_findTroubleWithOthers_X7_findAlike rfl hd_X7_findAlike rfl rfl ⟨Nat.le_of_ble_eq_true rfl, Nat.le_of_ble_eq_true rfl⟩ ⟨Nat.zero_le _, Nat.zero_le _⟩ (by decide) (cel_3 cy ad _) rfl rfl rfl rfl (Nat.le_of_ble_eq_true rfl) dX3_findTroubleWithOthers_93 (fun H locs hG_5 hI => ?_)
      refine lv_istore (lv' := [(4, .int (iI (f_X7_findAlike σ (201 + 6 * (r3 - 439)) (σ r3 3)))), (0, .ref (ad 13)), (1, .int (iI a0)), (2, .ref (ad 3)), (3, .ref (ad r3))]) hx hb dX3_findTroubleWithOthers_96 hl (by decide) rfl (fun ls hl => ?_)
      refine lv_iload hx hb dX3_findTroubleWithOthers_98 (lv_at hl 0 rfl) ?_
      refine lv_iconst (v := iI (-1)) hx hb dX3_findTroubleWithOthers_100 rfl ?_
      refine g_icmp_ne (tgt := 105) hx hb dX3_findTroubleWithOthers_101 (by decide) (by omega) (by omega) (fun c_6 => ?_) (fun c_6 => ?_)
      · skip
        refine lv_aload_n hx hb dX3_findTroubleWithOthers_105 rfl (lv_at hl 1 rfl) ?_
        refine lv_iload hx hb dX3_findTroubleWithOthers_106 (lv_at hl 0 rfl) ?_
        refine g_V (As := [.int (iI (f_X7_findAlike σ (201 + 6 * (r3 - 439)) (σ r3 3)))]) (rest := []) 13 (c_X3_find l D cy ad σ (f_X7_findAlike σ (201 + 6 * (r3 - 439)) (σ r3 3)) (by omega)) hx hb hml hown hts hK hN hI hl.1 gX3_findTroubleWithOthers_X3_find rfl hd_X3_find rfl rfl ⟨Nat.le_of_ble_eq_true rfl, Nat.le_of_ble_eq_true rfl⟩ ⟨Nat.zero_le _, Nat.zero_le _⟩ (by decide) (cel_13 cy ad _) rfl rfl rfl rfl (Nat.le_of_ble_eq_true rfl) dX3_findTroubleWithOthers_108 (fun H locs hG_7 hI => ?_)
        refine lv_istore (lv' := [(5, .int (iI (f_X3_find σ (f_X7_findAlike σ (201 + 6 * (r3 - 439)) (σ r3 3))))), (4, .int (iI (f_X7_findAlike σ (201 + 6 * (r3 - 439)) (σ r3 3)))), (0, .ref (ad 13)), (1, .int (iI a0)), (2, .ref (ad 3)), (3, .ref (ad r3))]) hx hb dX3_findTroubleWithOthers_111 hl (by decide) rfl (fun ls hl => ?_)
        refine lv_iload hx hb dX3_findTroubleWithOthers_113 (lv_at hl 0 rfl) ?_
        refine lv_iconst (v := iI (-1)) hx hb dX3_findTroubleWithOthers_115 rfl ?_
        refine g_icmp_eq (tgt := 145) hx hb dX3_findTroubleWithOthers_116 (by decide) (by omega) (by omega) (fun c_8 => ?_) (fun c_8 => ?_)
        · skip
          refine lv_aload_n hx hb dX3_findTroubleWithOthers_145 rfl (lv_at hl 5 rfl) ?_
          refine lv_iconst (v := iI 3) hx hb dX3_findTroubleWithOthers_146 rfl ?_
          refine lv_iload hx hb dX3_findTroubleWithOthers_147 (lv_at hl 1 rfl) ?_
          refine g_V (As := [.int (iI 3), .int (iI (f_X7_findAlike σ (201 + 6 * (r3 - 439)) (σ r3 3)))]) (rest := []) r3 (c_X4_setTrouble l D cy ad σ r3 hr3 3 (by omega) (f_X7_findAlike σ (201 + 6 * (r3 - 439)) (σ r3 3)) (by omega)) hx hb hml hown hts hK hN hI hl.1 gX3_findTroubleWithOthers_X4_setTrouble rfl hd_X4_setTrouble rfl rfl ⟨Nat.le_of_ble_eq_true rfl, Nat.le_of_ble_eq_true rfl⟩ ⟨Nat.zero_le _, Nat.zero_le _⟩ (by have q := hr3; omega) (cel_Pd cy ad hr3 _) rfl rfl rfl rfl (Nat.le_of_ble_eq_true rfl) dX3_findTroubleWithOthers_149 (fun H locs hG_9 hI => ?_)
          have hF_10 := hI.2.2.2
          refine lv_goto (tgt := 161) hx hb dX3_findTroubleWithOthers_152 (by decide) ?_
          have e9 : L_X3_findTroubleWithOthers_10 σ a0 r3 (n + 1) x4 = (f_X4_setTrouble σ r3 3 (f_X7_findAlike σ (201 + 6 * (r3 - 439)) (σ r3 3))) := by rw [L_X3_findTroubleWithOthers_10, if_pos c_3, if_neg c_6, if_pos c_8]
          exact g_vret hx hb hr hK hN hlocks hI (by rw [e9]) trivial dX3_findTroubleWithOthers_161
        · skip
          refine lv_aload_n hx hb dX3_findTroubleWithOthers_119 rfl (lv_at hl 2 rfl) ?_
          refine g_get (C := RX3) (T := TX3) (N := 9) (ci := 3) (v := .ref (ad 14)) hx hb hts in_X3_findTroubleWithOthers_X3 hown hK hI 13 (by decide) (cel_13 cy ad _) rfl 0 (by decide) (by decide +kernel) rfl dX3_findTroubleWithOthers_120 ?_
          refine lv_iload hx hb dX3_findTroubleWithOthers_123 (lv_at hl 0 rfl) ?_
          refine g_aaldQ (f := fun i => 439 + i) hx hb hK hI 14 (by decide) (cel_14 cy ad) (by omega) (by decide) dX3_findTroubleWithOthers_125 ?_
          have hr_11 : isPd (439 + ((f_X3_find σ (f_X7_findAlike σ (201 + 6 * (r3 - 439)) (σ r3 3))).toNat)) := by omega
          refine g_V (As := []) (rest := []) (439 + ((f_X3_find σ (f_X7_findAlike σ (201 + 6 * (r3 - 439)) (σ r3 3))).toNat)) (c_X4_hasName l D cy ad σ (439 + ((f_X3_find σ (f_X7_findAlike σ (201 + 6 * (r3 - 439)) (σ r3 3))).toNat)) hr_11) hx hb hml hown hts hK hN hI hl.1 gX3_findTroubleWithOthers_X4_hasName rfl hd_X4_hasName rfl rfl ⟨Nat.le_of_ble_eq_true rfl, Nat.le_of_ble_eq_true rfl⟩ ⟨Nat.zero_le _, Nat.zero_le _⟩ (by have q := hr_11; omega) (cel_Pd cy ad hr_11 _) rfl rfl rfl rfl (Nat.le_of_ble_eq_true rfl) dX3_findTroubleWithOthers_126 (fun H locs hG_12 hI => ?_)
          refine g_if_eq (tgt := 145) hx hb dX3_findTroubleWithOthers_129 (by decide) (by omega) (fun c_13 => ?_) (fun c_13 => ?_)
          · skip
            refine lv_aload_n hx hb dX3_findTroubleWithOthers_145 rfl (lv_at hl 5 rfl) ?_
            refine lv_iconst (v := iI 3) hx hb dX3_findTroubleWithOthers_146 rfl ?_
            refine lv_iload hx hb dX3_findTroubleWithOthers_147 (lv_at hl 1 rfl) ?_
            refine g_V (As := [.int (iI 3), .int (iI (f_X7_findAlike σ (201 + 6 * (r3 - 439)) (σ r3 3)))]) (rest := []) r3 (c_X4_setTrouble l D cy ad σ r3 hr3 3 (by omega) (f_X7_findAlike σ (201 + 6 * (r3 - 439)) (σ r3 3)) (by omega)) hx hb hml hown hts hK hN hI hl.1 gX3_findTroubleWithOthers_X4_setTrouble rfl hd_X4_setTrouble rfl rfl ⟨Nat.le_of_ble_eq_true rfl, Nat.le_of_ble_eq_true rfl⟩ ⟨Nat.zero_le _, Nat.zero_le _⟩ (by have q := hr3; omega) (cel_Pd cy ad hr3 _) rfl rfl rfl rfl (Nat.le_of_ble_eq_true rfl) dX3_findTroubleWithOthers_149 (fun H locs hG_14 hI => ?_)
            have hF_15 := hI.2.2.2
            refine lv_goto (tgt := 161) hx hb dX3_findTroubleWithOthers_152 (by decide) ?_
            have e9 : L_X3_findTroubleWithOthers_10 σ a0 r3 (n + 1) x4 = (f_X4_setTrouble σ r3 3 (f_X7_findAlike σ (201 + 6 * (r3 - 439)) (σ r3 3))) := by rw [L_X3_findTroubleWithOthers_10, if_pos c_3, if_neg c_6, if_neg c_8, if_pos c_13]
            exact g_vret hx hb hr hK hN hlocks hI (by rw [e9]) trivial dX3_findTroubleWithOthers_161
          · skip
            refine lv_aload_n hx hb dX3_findTroubleWithOthers_132 rfl (lv_at hl 2 rfl) ?_
            refine g_get (C := RX3) (T := TX3) (N := 9) (ci := 3) (v := .ref (ad 14)) hx hb hts in_X3_findTroubleWithOthers_X3 hown hK hI 13 (by decide) (cel_13 cy ad _) rfl 0 (by decide) (by decide +kernel) rfl dX3_findTroubleWithOthers_133 ?_
            refine lv_iload hx hb dX3_findTroubleWithOthers_136 (lv_at hl 0 rfl) ?_
            refine g_aaldQ (f := fun i => 439 + i) hx hb hK hI 14 (by decide) (cel_14 cy ad) (by omega) (by decide) dX3_findTroubleWithOthers_138 ?_
            have hr_16 : isPd (439 + ((f_X3_find σ (f_X7_findAlike σ (201 + 6 * (r3 - 439)) (σ r3 3))).toNat)) := by omega
            refine g_getN (C := RX4) (T := TX4) (N := 12) (ci := 4) (v := .int (iI (σ (439 + ((f_X3_find σ (f_X7_findAlike σ (201 + 6 * (r3 - 439)) (σ r3 3))).toNat)) 6))) hx hb hts in_X3_findTroubleWithOthers_X4 hown hK hN hI (439 + ((f_X3_find σ (f_X7_findAlike σ (201 + 6 * (r3 - 439)) (σ r3 3))).toNat)) (by have q := hr_16; omega) (cel_Pd cy ad hr_16 _) rfl 6 (by decide) (by decide +kernel) rfl dX3_findTroubleWithOthers_139 ?_
            have b_17 := bd_Pd_6 hF hr_16
            refine g_if_eq (tgt := 155) hx hb dX3_findTroubleWithOthers_142 (by decide) (by omega) (fun c_18 => ?_) (fun c_18 => ?_)
            · skip
              refine lv_aload_n hx hb dX3_findTroubleWithOthers_155 rfl (lv_at hl 5 rfl) ?_
              refine lv_iload hx hb dX3_findTroubleWithOthers_156 (lv_at hl 0 rfl) ?_
              refine g_putN (C := RX4) (T := TX4) (N := 12) (ci := 4) (ty := .int) (z := f_X3_find σ (f_X7_findAlike σ (201 + 6 * (r3 - 439)) (σ r3 3))) hx hb hts in_X3_findTroubleWithOthers_X4 tyX4 tyX4_ok nmX4 hown hK hN hI r3 (by have q := hr3; omega) (cel_Pd cy ad hr3) rfl 9 (by decide) (by decide +kernel) rfl (by decide +kernel) rfl rfl (Nat.le_of_ble_eq_true rfl) (by unfold fs_Pd; rw [up2_row]; rfl) (bw_Pd_9 hr3 (by omega)) dX3_findTroubleWithOthers_158 (fun H locs hI => ?_)
              have hF_19 := hI.2.2.2
              have e9 : L_X3_findTroubleWithOthers_10 σ a0 r3 (n + 1) x4 = (up2 σ r3 9 (f_X3_find σ (f_X7_findAlike σ (201 + 6 * (r3 - 439)) (σ r3 3)))) := by rw [L_X3_findTroubleWithOthers_10, if_pos c_3, if_neg c_6, if_neg c_8, if_neg c_13, if_pos c_18]
              exact g_vret hx hb hr hK hN hlocks hI (by rw [e9]) trivial dX3_findTroubleWithOthers_161
            · skip
              refine lv_aload_n hx hb dX3_findTroubleWithOthers_145 rfl (lv_at hl 5 rfl) ?_
              refine lv_iconst (v := iI 3) hx hb dX3_findTroubleWithOthers_146 rfl ?_
              refine lv_iload hx hb dX3_findTroubleWithOthers_147 (lv_at hl 1 rfl) ?_
              refine g_V (As := [.int (iI 3), .int (iI (f_X7_findAlike σ (201 + 6 * (r3 - 439)) (σ r3 3)))]) (rest := []) r3 (c_X4_setTrouble l D cy ad σ r3 hr3 3 (by omega) (f_X7_findAlike σ (201 + 6 * (r3 - 439)) (σ r3 3)) (by omega)) hx hb hml hown hts hK hN hI hl.1 gX3_findTroubleWithOthers_X4_setTrouble rfl hd_X4_setTrouble rfl rfl ⟨Nat.le_of_ble_eq_true rfl, Nat.le_of_ble_eq_true rfl⟩ ⟨Nat.zero_le _, Nat.zero_le _⟩ (by have q := hr3; omega) (cel_Pd cy ad hr3 _) rfl rfl rfl rfl (Nat.le_of_ble_eq_true rfl) dX3_findTroubleWithOthers_149 (fun H locs hG_20 hI => ?_)
              have hF_21 := hI.2.2.2
              refine lv_goto (tgt := 161) hx hb dX3_findTroubleWithOthers_152 (by decide) ?_
              have e9 : L_X3_findTroubleWithOthers_10 σ a0 r3 (n + 1) x4 = (f_X4_setTrouble σ r3 3 (f_X7_findAlike σ (201 + 6 * (r3 - 439)) (σ r3 3))) := by rw [L_X3_findTroubleWithOthers_10, if_pos c_3, if_neg c_6, if_neg c_8, if_neg c_13, if_neg c_18]
              exact g_vret hx hb hr hK hN hlocks hI (by rw [e9]) trivial dX3_findTroubleWithOthers_161
      · skip
        have e9 : L_X3_findTroubleWithOthers_10 σ a0 r3 (n + 1) x4 = σ := by rw [L_X3_findTroubleWithOthers_10, if_pos c_3, if_pos c_6]
        exact g_vret hx hb hr hK hN hlocks hI (by rw [e9]) trivial dX3_findTroubleWithOthers_104
    · skip
      refine lv_iload hx hb dX3_findTroubleWithOthers_19 (lv_at hl 4 rfl) ?_
      refine lv_iload_n hx hb dX3_findTroubleWithOthers_21 rfl (lv_at hl 1 rfl) ?_
      refine g_icmp_eq (tgt := 78) hx hb dX3_findTroubleWithOthers_22 (by decide) (by omega) (by omega) (fun c_22 => ?_) (fun c_22 => ?_)
      · skip
        refine lv_iinc (v := iI (x4 + 1)) (lv' := [(4, .int (iI (x4 + 1))), (0, .ref (ad 13)), (1, .int (iI a0)), (2, .ref (ad 3)), (3, .ref (ad r3))]) hx hb dX3_findTroubleWithOthers_78 hl (k := 4) rfl (iI_add _ _) (by decide) rfl (fun ls hl => ?_)
        refine lv_goto (tgt := 10) hx hb dX3_findTroubleWithOthers_81 (by decide) ?_
        have e9 : L_X3_findTroubleWithOthers_10 σ a0 r3 (n + 1) x4 = L_X3_findTroubleWithOthers_10 σ a0 r3 n (x4 + 1) := by rw [L_X3_findTroubleWithOthers_10, if_neg c_3, if_pos c_22]
        rw [e9]
        exact ih (x4 + 1)  (by omega) (by omega) _ _ _ hI (lv_sub hl [1, 2, 3, 4, 0] rfl)
      · skip
        refine lv_aload_n hx hb dX3_findTroubleWithOthers_25 rfl (lv_at hl 0 rfl) ?_
        refine g_get (C := RX3) (T := TX3) (N := 9) (ci := 3) (v := .ref (ad 14)) hx hb hts in_X3_findTroubleWithOthers_X3 hown hK hI 13 (by decide) (cel_13 cy ad _) rfl 0 (by decide) (by decide +kernel) rfl dX3_findTroubleWithOthers_26 ?_
        refine lv_iload hx hb dX3_findTroubleWithOthers_29 (lv_at hl 4 rfl) ?_
        refine g_aaldQ (f := fun i => 439 + i) hx hb hK hI 14 (by decide) (cel_14 cy ad) (by omega) (by decide) dX3_findTroubleWithOthers_31 ?_
        have hr_23 : isPd (439 + x4.toNat) := by omega
        refine g_V (As := []) (rest := []) (439 + x4.toNat) (c_X4_hasName l D cy ad σ (439 + x4.toNat) hr_23) hx hb hml hown hts hK hN hI hl.1 gX3_findTroubleWithOthers_X4_hasName rfl hd_X4_hasName rfl rfl ⟨Nat.le_of_ble_eq_true rfl, Nat.le_of_ble_eq_true rfl⟩ ⟨Nat.zero_le _, Nat.zero_le _⟩ (by have q := hr_23; omega) (cel_Pd cy ad hr_23 _) rfl rfl rfl rfl (Nat.le_of_ble_eq_true rfl) dX3_findTroubleWithOthers_32 (fun H locs hG_24 hI => ?_)
        refine g_if_eq (tgt := 78) hx hb dX3_findTroubleWithOthers_35 (by decide) (by omega) (fun c_25 => ?_) (fun c_25 => ?_)
        · skip
          refine lv_iinc (v := iI (x4 + 1)) (lv' := [(4, .int (iI (x4 + 1))), (0, .ref (ad 13)), (1, .int (iI a0)), (2, .ref (ad 3)), (3, .ref (ad r3))]) hx hb dX3_findTroubleWithOthers_78 hl (k := 4) rfl (iI_add _ _) (by decide) rfl (fun ls hl => ?_)
          refine lv_goto (tgt := 10) hx hb dX3_findTroubleWithOthers_81 (by decide) ?_
          have e9 : L_X3_findTroubleWithOthers_10 σ a0 r3 (n + 1) x4 = L_X3_findTroubleWithOthers_10 σ a0 r3 n (x4 + 1) := by rw [L_X3_findTroubleWithOthers_10, if_neg c_3, if_neg c_22, if_pos c_25]
          rw [e9]
          exact ih (x4 + 1)  (by omega) (by omega) _ _ _ hI (lv_sub hl [1, 2, 3, 4, 0] rfl)
        · skip
          refine lv_aload_n hx hb dX3_findTroubleWithOthers_38 rfl (lv_at hl 0 rfl) ?_
          refine g_get (C := RX3) (T := TX3) (N := 9) (ci := 3) (v := .ref (ad 14)) hx hb hts in_X3_findTroubleWithOthers_X3 hown hK hI 13 (by decide) (cel_13 cy ad _) rfl 0 (by decide) (by decide +kernel) rfl dX3_findTroubleWithOthers_39 ?_
          refine lv_iload hx hb dX3_findTroubleWithOthers_42 (lv_at hl 4 rfl) ?_
          refine g_aaldQ (f := fun i => 439 + i) hx hb hK hI 14 (by decide) (cel_14 cy ad) (by omega) (by decide) dX3_findTroubleWithOthers_44 ?_
          have hr_26 : isPd (439 + x4.toNat) := by omega
          refine g_getN (C := RX4) (T := TX4) (N := 12) (ci := 4) (v := .ref (ad (201 + 6 * (439 + x4.toNat - 439)))) hx hb hts in_X3_findTroubleWithOthers_X4 hown hK hN hI (439 + x4.toNat) (by have q := hr_26; omega) (cel_Pd cy ad hr_26 _) rfl 1 (by decide) (by decide +kernel) rfl dX3_findTroubleWithOthers_45 ?_
          refine lv_aload_n hx hb dX3_findTroubleWithOthers_48 rfl (lv_at hl 3 rfl) ?_
          refine g_getN (C := RX4) (T := TX4) (N := 12) (ci := 4) (v := .ref (ad (201 + 6 * (r3 - 439)))) hx hb hts in_X3_findTroubleWithOthers_X4 hown hK hN hI r3 (by have q := hr3; omega) (cel_Pd cy ad hr3 _) rfl 1 (by decide) (by decide +kernel) rfl dX3_findTroubleWithOthers_49 ?_
          refine lv_aload_n hx hb dX3_findTroubleWithOthers_52 rfl (lv_at hl 2 rfl) ?_
          refine g_V (As := []) (rest := [.ref (ad (201 + 6 * (r3 - 439))), .ref (ad (201 + 6 * (439 + x4.toNat - 439)))]) 3 (c_X7_isFolding l D cy ad σ ) hx hb hml hown hts hK hN hI hl.1 gX3_findTroubleWithOthers_X7_isFolding rfl hd_X7_isFolding rfl rfl ⟨Nat.le_of_ble_eq_true rfl, Nat.le_of_ble_eq_true rfl⟩ ⟨Nat.zero_le _, Nat.zero_le _⟩ (by decide) (cel_3 cy ad _) rfl rfl rfl rfl (Nat.le_of_ble_eq_true rfl) dX3_findTroubleWithOthers_53 (fun H locs hG_27 hI => ?_)
          refine g_V (As := [.ref (ad (201 + 6 * (r3 - 439))), .int (iI (f_X7_isFolding σ))]) (rest := []) (201 + 6 * (439 + x4.toNat - 439)) (c_X2_isAlike l D cy ad σ (201 + 6 * (439 + x4.toNat - 439)) (by have q := hr_26; omega : isPl (201 + 6 * (439 + x4.toNat - 439))) (201 + 6 * (r3 - 439)) (by have q := hr3; omega : isPl (201 + 6 * (r3 - 439))) (f_X7_isFolding σ) (by omega)) hx hb hml hown hts hK hN hI hl.1 gX3_findTroubleWithOthers_X2_isAlike rfl hd_X2_isAlike rfl rfl ⟨Nat.le_of_ble_eq_true rfl, Nat.le_of_ble_eq_true rfl⟩ ⟨Nat.zero_le _, Nat.zero_le _⟩ (by have q := (by have q := hr_26; omega : isPl (201 + 6 * (439 + x4.toNat - 439))); omega) (cel_Pl cy ad (by have q := hr_26; omega : isPl (201 + 6 * (439 + x4.toNat - 439))) _) rfl rfl rfl rfl (Nat.le_of_ble_eq_true rfl) dX3_findTroubleWithOthers_56 (fun H locs hG_28 hI => ?_)
          refine g_if_eq (tgt := 78) hx hb dX3_findTroubleWithOthers_59 (by decide) (by omega) (fun c_29 => ?_) (fun c_29 => ?_)
          · skip
            refine lv_iinc (v := iI (x4 + 1)) (lv' := [(4, .int (iI (x4 + 1))), (0, .ref (ad 13)), (1, .int (iI a0)), (2, .ref (ad 3)), (3, .ref (ad r3))]) hx hb dX3_findTroubleWithOthers_78 hl (k := 4) rfl (iI_add _ _) (by decide) rfl (fun ls hl => ?_)
            refine lv_goto (tgt := 10) hx hb dX3_findTroubleWithOthers_81 (by decide) ?_
            have e9 : L_X3_findTroubleWithOthers_10 σ a0 r3 (n + 1) x4 = L_X3_findTroubleWithOthers_10 σ a0 r3 n (x4 + 1) := by rw [L_X3_findTroubleWithOthers_10, if_neg c_3, if_neg c_22, if_neg c_25, if_pos c_29]
            rw [e9]
            exact ih (x4 + 1)  (by omega) (by omega) _ _ _ hI (lv_sub hl [1, 2, 3, 4, 0] rfl)
          · skip
            refine lv_aload_n hx hb dX3_findTroubleWithOthers_62 rfl (lv_at hl 3 rfl) ?_
            refine lv_iconst (v := iI 2) hx hb dX3_findTroubleWithOthers_63 rfl ?_
            refine lv_aload_n hx hb dX3_findTroubleWithOthers_64 rfl (lv_at hl 0 rfl) ?_
            refine g_get (C := RX3) (T := TX3) (N := 9) (ci := 3) (v := .ref (ad 14)) hx hb hts in_X3_findTroubleWithOthers_X3 hown hK hI 13 (by decide) (cel_13 cy ad _) rfl 0 (by decide) (by decide +kernel) rfl dX3_findTroubleWithOthers_65 ?_
            refine lv_iload hx hb dX3_findTroubleWithOthers_68 (lv_at hl 4 rfl) ?_
            refine g_aaldQ (f := fun i => 439 + i) hx hb hK hI 14 (by decide) (cel_14 cy ad) (by omega) (by decide) dX3_findTroubleWithOthers_70 ?_
            have hr_30 : isPd (439 + x4.toNat) := by omega
            refine g_getN (C := RX4) (T := TX4) (N := 12) (ci := 4) (v := .int (iI (σ (439 + x4.toNat) 3))) hx hb hts in_X3_findTroubleWithOthers_X4 hown hK hN hI (439 + x4.toNat) (by have q := hr_30; omega) (cel_Pd cy ad hr_30 _) rfl 3 (by decide) (by decide +kernel) rfl dX3_findTroubleWithOthers_71 ?_
            have b_31 := bd_Pd_3 hF hr_30
            refine g_V (As := [.int (iI 2), .int (iI (σ (439 + x4.toNat) 3))]) (rest := []) r3 (c_X4_setTrouble l D cy ad σ r3 hr3 2 (by omega) (σ (439 + x4.toNat) 3) (by omega)) hx hb hml hown hts hK hN hI hl.1 gX3_findTroubleWithOthers_X4_setTrouble rfl hd_X4_setTrouble rfl rfl ⟨Nat.le_of_ble_eq_true rfl, Nat.le_of_ble_eq_true rfl⟩ ⟨Nat.zero_le _, Nat.zero_le _⟩ (by have q := hr3; omega) (cel_Pd cy ad hr3 _) rfl rfl rfl rfl (Nat.le_of_ble_eq_true rfl) dX3_findTroubleWithOthers_74 (fun H locs hG_32 hI => ?_)
            have hF_33 := hI.2.2.2
            have e9 : L_X3_findTroubleWithOthers_10 σ a0 r3 (n + 1) x4 = (f_X4_setTrouble σ r3 2 (σ (439 + x4.toNat) 3)) := by rw [L_X3_findTroubleWithOthers_10, if_neg c_3, if_neg c_22, if_neg c_25, if_neg c_29]
            exact g_vret hx hb hr hK hN hlocks hI (by rw [e9]) trivial dX3_findTroubleWithOthers_77
def f_X3_findTroubleWithOthers (σ : Sg) (a0 : Int) : Sg := L_X3_findTroubleWithOthers_10 σ a0 (439 + a0.toNat) 41 0
theorem hd_X3_findTroubleWithOthers : yX3_findTroubleWithOthers.cls = RX3 ∧ yX3_findTroubleWithOthers.cls ≠ "java/lang/invoke/MethodHandle" ∧ yX3_findTroubleWithOthers.cls ≠ "java/lang/invoke/VarHandle" ∧ (parseMethodDescriptor yX3_findTroubleWithOthers.desc).map (fun d => d.parameters.length) = some 2 := by decide +kernel
set_option maxHeartbeats 4000000 in
set_option maxRecDepth 100000 in
theorem c_X3_findTroubleWithOthers (l : Launch) (D : va_G) (cy : Nat → ClassId) (ad : Nat → Nat) (σ : Sg) (a0 : Int) (ha0 : (0 : Int) ≤ a0 ∧ a0 ≤ 39) : CM l D cy ad yX3_findTroubleWithOthers wsX3_findTroubleWithOthers { frames := 3, cells := 0, slots := 0, locals := 120 } [.ref (ad 13), .int (iI a0), .ref (ad 3)] σ none (f_X3_findTroubleWithOthers σ a0) (True) := by
  refine CM.of (cc := cX3_findTroubleWithOthers) (maxL := 6) (ret := none) (by decide) rfl (Nat.le_of_ble_eq_true rfl) ?_
  intro p e s m args below meth c₀ ls X hI hl
  have hl : lv_has ls 6 [(0, .ref (ad 13)), (1, .int (iI a0)), (2, .ref (ad 3))] := hl
  obtain ⟨hx, hb, hr, hml, hown, hts, hlocks, hK, hN⟩ := id X
  have hF := hI.2.2.2
  refine lv_aload_n hx hb dX3_findTroubleWithOthers_0 rfl (lv_at hl 0 rfl) ?_
  refine g_get (C := RX3) (T := TX3) (N := 9) (ci := 3) (v := .ref (ad 14)) hx hb hts in_X3_findTroubleWithOthers_X3 hown hK hI 13 (by decide) (cel_13 cy ad _) rfl 0 (by decide) (by decide +kernel) rfl dX3_findTroubleWithOthers_1 ?_
  refine lv_iload_n hx hb dX3_findTroubleWithOthers_4 rfl (lv_at hl 1 rfl) ?_
  refine g_aaldQ (f := fun i => 439 + i) hx hb hK hI 14 (by decide) (cel_14 cy ad) (by omega) (by decide) dX3_findTroubleWithOthers_5 ?_
  have hr_1 : isPd (439 + a0.toNat) := by omega
  refine lv_astore_n (lv' := [(3, .ref (ad (439 + a0.toNat))), (0, .ref (ad 13)), (1, .int (iI a0)), (2, .ref (ad 3))]) hx hb dX3_findTroubleWithOthers_6 rfl hl (by decide) rfl (fun ls hl => ?_)
  refine lv_iconst (v := iI 0) hx hb dX3_findTroubleWithOthers_7 rfl ?_
  refine lv_istore (lv' := [(4, .int (iI 0)), (3, .ref (ad (439 + a0.toNat))), (0, .ref (ad 13)), (1, .int (iI a0)), (2, .ref (ad 3))]) hx hb dX3_findTroubleWithOthers_8 hl (by decide) rfl (fun ls hl => ?_)
  have e9 : f_X3_findTroubleWithOthers σ a0 = L_X3_findTroubleWithOthers_10 σ a0 (439 + a0.toNat) 41 0 := by rw [f_X3_findTroubleWithOthers]
  rw [e9]
  exact w_L_X3_findTroubleWithOthers_10 X σ a0 ha0 (439 + a0.toNat) hr_1 41 0  (by omega) (by omega) _ _ _ hI (lv_sub hl [2, 3, 4, 1, 0] rfl)
