theorem in_X7_howManyCame_X7 : ∀ w ∈ u_ws RX7 TX7 6, w ∈ wsX7_howManyCame := by decide +kernel
def f_X7_howManyCame (σ : Sg) : Int := σ 3 3
theorem hd_X7_howManyCame : yX7_howManyCame.cls = RX7 ∧ yX7_howManyCame.cls ≠ "java/lang/invoke/MethodHandle" ∧ yX7_howManyCame.cls ≠ "java/lang/invoke/VarHandle" ∧ (parseMethodDescriptor yX7_howManyCame.desc).map (fun d => d.parameters.length) = some 0 := by decide +kernel
set_option maxHeartbeats 4000000 in
set_option maxRecDepth 100000 in
theorem c_X7_howManyCame (l : Launch) (D : va_G) (cy : Nat → ClassId) (ad : Nat → Nat) (σ : Sg) : CM l D cy ad yX7_howManyCame wsX7_howManyCame { frames := 0, cells := 0, slots := 0, locals := 0 } [.ref (ad 3)] σ (some (.int (iI (f_X7_howManyCame σ)))) σ (0 ≤ (f_X7_howManyCame σ) ∧ (f_X7_howManyCame σ) ≤ 40) := by
  refine CM.of (cc := cX7_howManyCame) (maxL := 1) (ret := (some .int)) (by decide) rfl (Nat.le_of_ble_eq_true rfl) ?_
  intro p e s m args below meth c₀ ls X hI hl
  have hl : lv_has ls 1 [(0, .ref (ad 3))] := hl
  obtain ⟨hx, hb, hr, hml, hown, hts, hlocks, hK, hN⟩ := id X
  have hF := hI.2.2.2
  refine lv_aload_n hx hb dX7_howManyCame_0 rfl (lv_at hl 0 rfl) ?_
  refine g_get (C := RX7) (T := TX7) (N := 6) (ci := 6) (v := .int (iI (σ 3 3))) hx hb hts in_X7_howManyCame_X7 hown hK hI 3 (by decide) (cel_3 cy ad _) rfl 3 (by decide) (by decide +kernel) rfl dX7_howManyCame_1 ?_
  have b_1 := bd_3_3 hF
  have e9 : f_X7_howManyCame σ = σ 3 3 := by rw [f_X7_howManyCame]
  exact g_iret (z := σ 3 3) hx hb hr hK hN hlocks hI e9.symm rfl (by rw [e9] <;> first | (omega) | (dsimp only; omega)) dX7_howManyCame_4
theorem in_X7_howManyAre_X7 : ∀ w ∈ u_ws RX7 TX7 6, w ∈ wsX7_howManyAre := by decide +kernel
def f_X7_howManyAre (σ : Sg) : Int := σ 3 4
theorem hd_X7_howManyAre : yX7_howManyAre.cls = RX7 ∧ yX7_howManyAre.cls ≠ "java/lang/invoke/MethodHandle" ∧ yX7_howManyAre.cls ≠ "java/lang/invoke/VarHandle" ∧ (parseMethodDescriptor yX7_howManyAre.desc).map (fun d => d.parameters.length) = some 0 := by decide +kernel
set_option maxHeartbeats 4000000 in
set_option maxRecDepth 100000 in
theorem c_X7_howManyAre (l : Launch) (D : va_G) (cy : Nat → ClassId) (ad : Nat → Nat) (σ : Sg) : CM l D cy ad yX7_howManyAre wsX7_howManyAre { frames := 0, cells := 0, slots := 0, locals := 0 } [.ref (ad 3)] σ (some (.int (iI (f_X7_howManyAre σ)))) σ (0 ≤ (f_X7_howManyAre σ) ∧ (f_X7_howManyAre σ) ≤ 40) := by
  refine CM.of (cc := cX7_howManyAre) (maxL := 1) (ret := (some .int)) (by decide) rfl (Nat.le_of_ble_eq_true rfl) ?_
  intro p e s m args below meth c₀ ls X hI hl
  have hl : lv_has ls 1 [(0, .ref (ad 3))] := hl
  obtain ⟨hx, hb, hr, hml, hown, hts, hlocks, hK, hN⟩ := id X
  have hF := hI.2.2.2
  refine lv_aload_n hx hb dX7_howManyAre_0 rfl (lv_at hl 0 rfl) ?_
  refine g_get (C := RX7) (T := TX7) (N := 6) (ci := 6) (v := .int (iI (σ 3 4))) hx hb hts in_X7_howManyAre_X7 hown hK hI 3 (by decide) (cel_3 cy ad _) rfl 4 (by decide) (by decide +kernel) rfl dX7_howManyAre_1 ?_
  have b_1 := bd_3_4 hF
  have e9 : f_X7_howManyAre σ = σ 3 4 := by rw [f_X7_howManyAre]
  exact g_iret (z := σ 3 4) hx hb hr hK hN hlocks hI e9.symm rfl (by rw [e9] <;> first | (omega) | (dsimp only; omega)) dX7_howManyAre_4
theorem in_X7_isFull_X7 : ∀ w ∈ u_ws RX7 TX7 6, w ∈ wsX7_isFull := by decide +kernel
def f_X7_isFull (σ : Sg) : Int := (if (σ 3 3) < 40 then 0 else 1)
theorem hd_X7_isFull : yX7_isFull.cls = RX7 ∧ yX7_isFull.cls ≠ "java/lang/invoke/MethodHandle" ∧ yX7_isFull.cls ≠ "java/lang/invoke/VarHandle" ∧ (parseMethodDescriptor yX7_isFull.desc).map (fun d => d.parameters.length) = some 0 := by decide +kernel
set_option maxHeartbeats 4000000 in
set_option maxRecDepth 100000 in
theorem c_X7_isFull (l : Launch) (D : va_G) (cy : Nat → ClassId) (ad : Nat → Nat) (σ : Sg) : CM l D cy ad yX7_isFull wsX7_isFull { frames := 0, cells := 0, slots := 0, locals := 0 } [.ref (ad 3)] σ (some (.int (iI (f_X7_isFull σ)))) σ ((0 ≤ f_X7_isFull σ ∧ f_X7_isFull σ ≤ 1) ∧ ((f_X7_isFull σ) = 1 ∨ σ 3 3 < 40)) := by
  refine CM.of (cc := cX7_isFull) (maxL := 1) (ret := (some .boolean)) (by decide) rfl (Nat.le_of_ble_eq_true rfl) ?_
  intro p e s m args below meth c₀ ls X hI hl
  have hl : lv_has ls 1 [(0, .ref (ad 3))] := hl
  obtain ⟨hx, hb, hr, hml, hown, hts, hlocks, hK, hN⟩ := id X
  have hF := hI.2.2.2
  refine lv_aload_n hx hb dX7_isFull_0 rfl (lv_at hl 0 rfl) ?_
  refine g_get (C := RX7) (T := TX7) (N := 6) (ci := 6) (v := .int (iI (σ 3 3))) hx hb hts in_X7_isFull_X7 hown hK hI 3 (by decide) (cel_3 cy ad _) rfl 3 (by decide) (by decide +kernel) rfl dX7_isFull_1 ?_
  have b_1 := bd_3_3 hF
  refine lv_bipush (v := iI 40) hx hb dX7_isFull_4 (iI_bip (by decide)) ?_
  refine g_icmp_lt (tgt := 13) hx hb dX7_isFull_6 (by decide) (by omega) (by omega) (fun c_2 => ?_) (fun c_2 => ?_)
  · skip
    refine lv_iconst (v := iI 0) hx hb dX7_isFull_13 rfl ?_
    have e9 : f_X7_isFull σ = 0 := by rw [f_X7_isFull, if_pos c_2]
    exact g_zret (z := 0) hx hb hr hK hN hlocks hI e9.symm rfl (by rw [e9] <;> first | (omega) | (dsimp only; omega)) (by omega) dX7_isFull_14
  · skip
    refine lv_iconst (v := iI 1) hx hb dX7_isFull_9 rfl ?_
    refine lv_goto (tgt := 14) hx hb dX7_isFull_10 (by decide) ?_
    have e9 : f_X7_isFull σ = 1 := by rw [f_X7_isFull, if_neg c_2]
    exact g_zret (z := 1) hx hb hr hK hN hlocks hI e9.symm rfl (by rw [e9] <;> first | (omega) | (dsimp only; omega)) (by omega) dX7_isFull_14
theorem in_X7_isFolding_X7 : ∀ w ∈ u_ws RX7 TX7 6, w ∈ wsX7_isFolding := by decide +kernel
def f_X7_isFolding (σ : Sg) : Int := σ 3 5
theorem hd_X7_isFolding : yX7_isFolding.cls = RX7 ∧ yX7_isFolding.cls ≠ "java/lang/invoke/MethodHandle" ∧ yX7_isFolding.cls ≠ "java/lang/invoke/VarHandle" ∧ (parseMethodDescriptor yX7_isFolding.desc).map (fun d => d.parameters.length) = some 0 := by decide +kernel
set_option maxHeartbeats 4000000 in
set_option maxRecDepth 100000 in
theorem c_X7_isFolding (l : Launch) (D : va_G) (cy : Nat → ClassId) (ad : Nat → Nat) (σ : Sg) : CM l D cy ad yX7_isFolding wsX7_isFolding { frames := 0, cells := 0, slots := 0, locals := 0 } [.ref (ad 3)] σ (some (.int (iI (f_X7_isFolding σ)))) σ ((0 ≤ f_X7_isFolding σ ∧ f_X7_isFolding σ ≤ 1)) := by
  refine CM.of (cc := cX7_isFolding) (maxL := 1) (ret := (some .boolean)) (by decide) rfl (Nat.le_of_ble_eq_true rfl) ?_
  intro p e s m args below meth c₀ ls X hI hl
  have hl : lv_has ls 1 [(0, .ref (ad 3))] := hl
  obtain ⟨hx, hb, hr, hml, hown, hts, hlocks, hK, hN⟩ := id X
  have hF := hI.2.2.2
  refine lv_aload_n hx hb dX7_isFolding_0 rfl (lv_at hl 0 rfl) ?_
  refine g_get (C := RX7) (T := TX7) (N := 6) (ci := 6) (v := .int (iI (σ 3 5))) hx hb hts in_X7_isFolding_X7 hown hK hI 3 (by decide) (cel_3 cy ad _) rfl 5 (by decide) (by decide +kernel) rfl dX7_isFolding_1 ?_
  have b_1 := bd_3_5 hF
  have e9 : f_X7_isFolding σ = σ 3 5 := by rw [f_X7_isFolding]
  exact g_zret (z := σ 3 5) hx hb hr hK hN hlocks hI e9.symm rfl (by rw [e9] <;> first | (omega) | (dsimp only; omega)) (by omega) dX7_isFolding_4
theorem in_X7_setFolding_X7 : ∀ w ∈ u_ws RX7 TX7 6, w ∈ wsX7_setFolding := by decide +kernel
def f_X7_setFolding (σ : Sg) (a0 : Int) : Sg := (up2 σ 3 5 a0)
theorem hd_X7_setFolding : yX7_setFolding.cls = RX7 ∧ yX7_setFolding.cls ≠ "java/lang/invoke/MethodHandle" ∧ yX7_setFolding.cls ≠ "java/lang/invoke/VarHandle" ∧ (parseMethodDescriptor yX7_setFolding.desc).map (fun d => d.parameters.length) = some 1 := by decide +kernel
set_option maxHeartbeats 4000000 in
set_option maxRecDepth 100000 in
theorem c_X7_setFolding (l : Launch) (D : va_G) (cy : Nat → ClassId) (ad : Nat → Nat) (σ : Sg) (a0 : Int) (ha0 : (0 : Int) ≤ a0 ∧ a0 ≤ 1) : CM l D cy ad yX7_setFolding wsX7_setFolding { frames := 0, cells := 0, slots := 0, locals := 0 } [.ref (ad 3), .int (iI a0)] σ none (f_X7_setFolding σ a0) (True) := by
  refine CM.of (cc := cX7_setFolding) (maxL := 2) (ret := none) (by decide) rfl (Nat.le_of_ble_eq_true rfl) ?_
  intro p e s m args below meth c₀ ls X hI hl
  have hl : lv_has ls 2 [(0, .ref (ad 3)), (1, .int (iI a0))] := hl
  obtain ⟨hx, hb, hr, hml, hown, hts, hlocks, hK, hN⟩ := id X
  have hF := hI.2.2.2
  refine lv_aload_n hx hb dX7_setFolding_0 rfl (lv_at hl 0 rfl) ?_
  refine lv_iload_n hx hb dX7_setFolding_1 rfl (lv_at hl 1 rfl) ?_
  refine g_put (C := RX7) (T := TX7) (N := 6) (ci := 6) (ty := .boolean) (z := a0) hx hb hts in_X7_setFolding_X7 tyX7 tyX7_ok nmX7 hown hK hI 3 (by decide) (cel_3 cy ad) rfl 5 (by decide) (by decide +kernel) rfl (by decide +kernel) (iI_nz (by omega)) (iI_fz (by omega)) (Nat.le_of_ble_eq_true rfl) rfl (bw_3_5 (by omega)) dX7_setFolding_2 (fun H locs hI => ?_)
  have hF_1 := hI.2.2.2
  have e9 : f_X7_setFolding σ a0 = (up2 σ 3 5 a0) := by rw [f_X7_setFolding]
  exact g_vret hx hb hr hK hN hlocks hI (by rw [e9]) trivial dX7_setFolding_5
theorem in_X7_has_X7 : ∀ w ∈ u_ws RX7 TX7 6, w ∈ wsX7_has := by decide +kernel
def f_X7_has (σ : Sg) (a0 : Int) : Int := (if a0 < 0 then 0 else (if (σ 3 3) ≤ a0 then 0 else (if 40 ≤ a0 then 0 else (if (σ 5 a0.toNat) = 0 then 0 else 1))))
theorem hd_X7_has : yX7_has.cls = RX7 ∧ yX7_has.cls ≠ "java/lang/invoke/MethodHandle" ∧ yX7_has.cls ≠ "java/lang/invoke/VarHandle" ∧ (parseMethodDescriptor yX7_has.desc).map (fun d => d.parameters.length) = some 1 := by decide +kernel
set_option maxHeartbeats 4000000 in
set_option maxRecDepth 100000 in
theorem c_X7_has (l : Launch) (D : va_G) (cy : Nat → ClassId) (ad : Nat → Nat) (σ : Sg) (a0 : Int) (ha0 : (-2147483648 ≤ a0 ∧ a0 < 2147483648)) : CM l D cy ad yX7_has wsX7_has { frames := 0, cells := 0, slots := 0, locals := 0 } [.ref (ad 3), .int (iI a0)] σ (some (.int (iI (f_X7_has σ a0)))) σ ((0 ≤ f_X7_has σ a0 ∧ f_X7_has σ a0 ≤ 1) ∧ ((f_X7_has σ a0) = 0 ∨ (0 ≤ a0 ∧ a0 ≤ 39))) := by
  refine CM.of (cc := cX7_has) (maxL := 2) (ret := (some .boolean)) (by decide) rfl (Nat.le_of_ble_eq_true rfl) ?_
  intro p e s m args below meth c₀ ls X hI hl
  have hl : lv_has ls 2 [(0, .ref (ad 3)), (1, .int (iI a0))] := hl
  obtain ⟨hx, hb, hr, hml, hown, hts, hlocks, hK, hN⟩ := id X
  have hF := hI.2.2.2
  refine lv_iload_n hx hb dX7_has_0 rfl (lv_at hl 1 rfl) ?_
  refine g_if_lt (tgt := 34) hx hb dX7_has_1 (by decide) (by omega) (fun c_1 => ?_) (fun c_1 => ?_)
  · skip
    refine lv_iconst (v := iI 0) hx hb dX7_has_34 rfl ?_
    have e9 : f_X7_has σ a0 = 0 := by rw [f_X7_has, if_pos c_1]
    exact g_zret (z := 0) hx hb hr hK hN hlocks hI e9.symm rfl (by rw [e9] <;> first | (omega) | (dsimp only; omega)) (by omega) dX7_has_35
  · skip
    refine lv_iload_n hx hb dX7_has_4 rfl (lv_at hl 1 rfl) ?_
    refine lv_aload_n hx hb dX7_has_5 rfl (lv_at hl 0 rfl) ?_
    refine g_get (C := RX7) (T := TX7) (N := 6) (ci := 6) (v := .int (iI (σ 3 3))) hx hb hts in_X7_has_X7 hown hK hI 3 (by decide) (cel_3 cy ad _) rfl 3 (by decide) (by decide +kernel) rfl dX7_has_6 ?_
    have b_2 := bd_3_3 hF
    refine g_icmp_ge (tgt := 34) hx hb dX7_has_9 (by decide) (by omega) (by omega) (fun c_3 => ?_) (fun c_3 => ?_)
    · skip
      refine lv_iconst (v := iI 0) hx hb dX7_has_34 rfl ?_
      have e9 : f_X7_has σ a0 = 0 := by rw [f_X7_has, if_neg c_1, if_pos c_3]
      exact g_zret (z := 0) hx hb hr hK hN hlocks hI e9.symm rfl (by rw [e9] <;> first | (omega) | (dsimp only; omega)) (by omega) dX7_has_35
    · skip
      refine lv_iload_n hx hb dX7_has_12 rfl (lv_at hl 1 rfl) ?_
      refine lv_aload_n hx hb dX7_has_13 rfl (lv_at hl 0 rfl) ?_
      refine g_get (C := RX7) (T := TX7) (N := 6) (ci := 6) (v := .ref (ad 5)) hx hb hts in_X7_has_X7 hown hK hI 3 (by decide) (cel_3 cy ad _) rfl 1 (by decide) (by decide +kernel) rfl dX7_has_14 ?_
      refine g_alen (z := 40) hx hb hK hI 5 2 (by decide) (cel_5 cy ad _) rfl rfl dX7_has_17 ?_
      refine g_icmp_ge (tgt := 34) hx hb dX7_has_18 (by decide) (by omega) (by omega) (fun c_4 => ?_) (fun c_4 => ?_)
      · skip
        refine lv_iconst (v := iI 0) hx hb dX7_has_34 rfl ?_
        have e9 : f_X7_has σ a0 = 0 := by rw [f_X7_has, if_neg c_1, if_neg c_3, if_pos c_4]
        exact g_zret (z := 0) hx hb hr hK hN hlocks hI e9.symm rfl (by rw [e9] <;> first | (omega) | (dsimp only; omega)) (by omega) dX7_has_35
      · skip
        refine lv_aload_n hx hb dX7_has_21 rfl (lv_at hl 0 rfl) ?_
        refine g_get (C := RX7) (T := TX7) (N := 6) (ci := 6) (v := .ref (ad 5)) hx hb hts in_X7_has_X7 hown hK hI 3 (by decide) (cel_3 cy ad _) rfl 1 (by decide) (by decide +kernel) rfl dX7_has_22 ?_
        refine lv_iload_n hx hb dX7_has_25 rfl (lv_at hl 1 rfl) ?_
        refine g_zald (v := σ 5 a0.toNat) hx hb hK hI 5 (by decide) (cel_5 cy ad) (by omega) (by decide) rfl dX7_has_26 ?_
        have b_5 := bd_5 hF a0.toNat
        refine g_if_eq (tgt := 34) hx hb dX7_has_27 (by decide) (by omega) (fun c_6 => ?_) (fun c_6 => ?_)
        · skip
          refine lv_iconst (v := iI 0) hx hb dX7_has_34 rfl ?_
          have e9 : f_X7_has σ a0 = 0 := by rw [f_X7_has, if_neg c_1, if_neg c_3, if_neg c_4, if_pos c_6]
          exact g_zret (z := 0) hx hb hr hK hN hlocks hI e9.symm rfl (by rw [e9] <;> first | (omega) | (dsimp only; omega)) (by omega) dX7_has_35
        · skip
          refine lv_iconst (v := iI 1) hx hb dX7_has_30 rfl ?_
          refine lv_goto (tgt := 35) hx hb dX7_has_31 (by decide) ?_
          have e9 : f_X7_has σ a0 = 1 := by rw [f_X7_has, if_neg c_1, if_neg c_3, if_neg c_4, if_neg c_6]
          exact g_zret (z := 1) hx hb hr hK hN hlocks hI e9.symm rfl (by rw [e9] <;> first | (omega) | (dsimp only; omega)) (by omega) dX7_has_35
theorem in_X7_placeOf_X7 : ∀ w ∈ u_ws RX7 TX7 6, w ∈ wsX7_placeOf := by decide +kernel
def f_X7_placeOf (σ : Sg) (a0 : Int) : Nat := 59 + 2 * a0.toNat
theorem hd_X7_placeOf : yX7_placeOf.cls = RX7 ∧ yX7_placeOf.cls ≠ "java/lang/invoke/MethodHandle" ∧ yX7_placeOf.cls ≠ "java/lang/invoke/VarHandle" ∧ (parseMethodDescriptor yX7_placeOf.desc).map (fun d => d.parameters.length) = some 1 := by decide +kernel
set_option maxHeartbeats 4000000 in
set_option maxRecDepth 100000 in
theorem c_X7_placeOf (l : Launch) (D : va_G) (cy : Nat → ClassId) (ad : Nat → Nat) (σ : Sg) (a0 : Int) (ha0 : (0 : Int) ≤ a0 ∧ a0 ≤ 39) : CM l D cy ad yX7_placeOf wsX7_placeOf { frames := 0, cells := 0, slots := 0, locals := 0 } [.ref (ad 3), .int (iI a0)] σ (some (.ref (ad (f_X7_placeOf σ a0)))) σ (isPl (f_X7_placeOf σ a0)) := by
  refine CM.of (cc := cX7_placeOf) (maxL := 2) (ret := (some (.object "NameTurner$Place"))) (by decide) rfl (Nat.le_of_ble_eq_true rfl) ?_
  intro p e s m args below meth c₀ ls X hI hl
  have hl : lv_has ls 2 [(0, .ref (ad 3)), (1, .int (iI a0))] := hl
  obtain ⟨hx, hb, hr, hml, hown, hts, hlocks, hK, hN⟩ := id X
  have hF := hI.2.2.2
  refine lv_aload_n hx hb dX7_placeOf_0 rfl (lv_at hl 0 rfl) ?_
  refine g_get (C := RX7) (T := TX7) (N := 6) (ci := 6) (v := .ref (ad 4)) hx hb hts in_X7_placeOf_X7 hown hK hI 3 (by decide) (cel_3 cy ad _) rfl 0 (by decide) (by decide +kernel) rfl dX7_placeOf_1 ?_
  refine lv_iload_n hx hb dX7_placeOf_4 rfl (lv_at hl 1 rfl) ?_
  refine g_aaldP (f := fun i => 59 + 2 * i) hx hb hK hI 4 (by decide) (cel_4 cy ad) (by omega) (by decide) dX7_placeOf_5 ?_
  have hr_1 : isPl (59 + 2 * a0.toNat) := by omega
  have e9 : f_X7_placeOf σ a0 = 59 + 2 * a0.toNat := by rw [f_X7_placeOf]
  exact g_aret (a := 59 + 2 * a0.toNat) hx hb hr hK hN hlocks hI e9.symm rfl (by rw [e9] <;> first | (omega) | (dsimp only; omega)) dX7_placeOf_6
theorem in_X7_add_X7 : ∀ w ∈ u_ws RX7 TX7 6, w ∈ wsX7_add := by decide +kernel
def f_X7_add (σ : Sg) (q0 : Nat) : Int × Sg := (σ 3 3, (up2 (up2 (up2 (f_X2_become σ (59 + 2 * ((σ 3 3).toNat)) q0) 5 ((σ 3 3).toNat) 1) 3 3 (((f_X2_become σ (59 + 2 * ((σ 3 3).toNat)) q0) 3 3) + 1)) 3 4 (((f_X2_become σ (59 + 2 * ((σ 3 3).toNat)) q0) 3 4) + 1)))
theorem hd_X7_add : yX7_add.cls = RX7 ∧ yX7_add.cls ≠ "java/lang/invoke/MethodHandle" ∧ yX7_add.cls ≠ "java/lang/invoke/VarHandle" ∧ (parseMethodDescriptor yX7_add.desc).map (fun d => d.parameters.length) = some 1 := by decide +kernel
set_option maxHeartbeats 4000000 in
set_option maxRecDepth 100000 in
theorem c_X7_add (l : Launch) (D : va_G) (cy : Nat → ClassId) (ad : Nat → Nat) (σ : Sg) (q0 : Nat) (hq0 : isPl q0) (h1 : σ 3 3 < 40) (h2 : σ 3 4 < 40) : CM l D cy ad yX7_add wsX7_add { frames := 2, cells := 0, slots := 0, locals := 80 } [.ref (ad 3), .ref (ad q0)] σ (some (.int (iI ((f_X7_add σ q0).1)))) ((f_X7_add σ q0).2) (True) := by
  refine CM.of (cc := cX7_add) (maxL := 3) (ret := (some .int)) (by decide) rfl (Nat.le_of_ble_eq_true rfl) ?_
  intro p e s m args below meth c₀ ls X hI hl
  have hl : lv_has ls 3 [(0, .ref (ad 3)), (1, .ref (ad q0))] := hl
  obtain ⟨hx, hb, hr, hml, hown, hts, hlocks, hK, hN⟩ := id X
  have hF := hI.2.2.2
  refine lv_aload_n hx hb dX7_add_0 rfl (lv_at hl 0 rfl) ?_
  refine g_get (C := RX7) (T := TX7) (N := 6) (ci := 6) (v := .int (iI (σ 3 3))) hx hb hts in_X7_add_X7 hown hK hI 3 (by decide) (cel_3 cy ad _) rfl 3 (by decide) (by decide +kernel) rfl dX7_add_1 ?_
  have b_1 := bd_3_3 hF
  refine lv_istore_n (lv' := [(2, .int (iI (σ 3 3))), (0, .ref (ad 3)), (1, .ref (ad q0))]) hx hb dX7_add_4 rfl hl (by decide) rfl (fun ls hl => ?_)
  refine lv_aload_n hx hb dX7_add_5 rfl (lv_at hl 1 rfl) ?_
  refine g_get (C := RX7) (T := TX7) (N := 6) (ci := 6) (v := .ref (ad 4)) hx hb hts in_X7_add_X7 hown hK hI 3 (by decide) (cel_3 cy ad _) rfl 0 (by decide) (by decide +kernel) rfl dX7_add_6 ?_
  refine lv_iload_n hx hb dX7_add_9 rfl (lv_at hl 0 rfl) ?_
  refine g_aaldP (f := fun i => 59 + 2 * i) hx hb hK hI 4 (by decide) (cel_4 cy ad) (by omega) (by decide) dX7_add_10 ?_
  have hr_2 : isPl (59 + 2 * ((σ 3 3).toNat)) := by omega
  refine lv_aload_n hx hb dX7_add_11 rfl (lv_at hl 2 rfl) ?_
  refine g_V (As := [.ref (ad q0)]) (rest := []) (59 + 2 * ((σ 3 3).toNat)) (c_X2_become l D cy ad σ (59 + 2 * ((σ 3 3).toNat)) hr_2 q0 hq0) hx hb hml hown hts hK hN hI hl.1 gX7_add_X2_become rfl hd_X2_become rfl rfl ⟨Nat.le_of_ble_eq_true rfl, Nat.le_of_ble_eq_true rfl⟩ ⟨Nat.zero_le _, Nat.zero_le _⟩ (by have q := hr_2; omega) (cel_Pl cy ad hr_2 _) rfl rfl rfl rfl (Nat.le_of_ble_eq_true rfl) dX7_add_12 (fun H locs hG_3 hI => ?_)
  have hF_4 := hI.2.2.2
  have q9 := become_fr σ (59 + 2 * (σ 3 3).toNat) q0 (x := 3) (by omega) (by omega)
  have q8 := congrFun q9 3
  have q7 := congrFun q9 4
  refine lv_aload_n hx hb dX7_add_15 rfl (lv_at hl 1 rfl) ?_
  refine g_get (C := RX7) (T := TX7) (N := 6) (ci := 6) (v := .ref (ad 5)) hx hb hts in_X7_add_X7 hown hK hI 3 (by decide) (cel_3 cy ad _) rfl 1 (by decide) (by decide +kernel) rfl dX7_add_16 ?_
  refine lv_iload_n hx hb dX7_add_19 rfl (lv_at hl 0 rfl) ?_
  refine lv_iconst (v := iI 1) hx hb dX7_add_20 rfl ?_
  refine g_zast hx hb hK hI 5 (by decide) (cel_5 cy ad) (by omega) (by decide) (by omega) (bw_5 (by omega)) dX7_add_21 (fun H locs hI => ?_)
  have hF_5 : WF (up2 (f_X2_become σ (59 + 2 * ((σ 3 3).toNat)) q0) 5 ((σ 3 3).toNat) 1) := hI.2.2.2
  refine lv_aload_n hx hb dX7_add_22 rfl (lv_at hl 1 rfl) ?_
  refine lv_dup hx hb dX7_add_23 rfl ?_
  refine g_get (C := RX7) (T := TX7) (N := 6) (ci := 6) (v := .int (iI ((f_X2_become σ (59 + 2 * ((σ 3 3).toNat)) q0) 3 3))) hx hb hts in_X7_add_X7 hown hK hI 3 (by decide) (cel_3 cy ad _) rfl 3 (by decide) (by decide +kernel) (by show some (Value.int (iI ((up2 (f_X2_become σ (59 + 2 * ((σ 3 3).toNat)) q0) 5 ((σ 3 3).toNat) 1) 3 3))) = _; rw [up2_cell _ _ _ (by decide)]) dX7_add_24 ?_
  have b_6 := bd_3_3 hF_4
  refine lv_iconst (v := iI 1) hx hb dX7_add_27 rfl ?_
  refine g_iadd hx hb dX7_add_28 ?_
  refine g_put (C := RX7) (T := TX7) (N := 6) (ci := 6) (ty := .int) (z := ((f_X2_become σ (59 + 2 * ((σ 3 3).toNat)) q0) 3 3) + 1) hx hb hts in_X7_add_X7 tyX7 tyX7_ok nmX7 hown hK hI 3 (by decide) (cel_3 cy ad) rfl 3 (by decide) (by decide +kernel) rfl (by decide +kernel) rfl rfl (Nat.le_of_ble_eq_true rfl) rfl (bw_3_3 (by omega)) dX7_add_29 (fun H locs hI => ?_)
  have hF_7 := hI.2.2.2
  refine lv_aload_n hx hb dX7_add_32 rfl (lv_at hl 1 rfl) ?_
  refine lv_dup hx hb dX7_add_33 rfl ?_
  refine g_get (C := RX7) (T := TX7) (N := 6) (ci := 6) (v := .int (iI ((f_X2_become σ (59 + 2 * ((σ 3 3).toNat)) q0) 3 4))) hx hb hts in_X7_add_X7 hown hK hI 3 (by decide) (cel_3 cy ad _) rfl 4 (by decide) (by decide +kernel) (by show some (Value.int (iI ((up2 (up2 (f_X2_become σ (59 + 2 * ((σ 3 3).toNat)) q0) 5 ((σ 3 3).toNat) 1) 3 3 (((f_X2_become σ (59 + 2 * ((σ 3 3).toNat)) q0) 3 3) + 1)) 3 4))) = _; rw [up2_slot _ _ (by decide), up2_cell _ _ _ (by decide)]) dX7_add_34 ?_
  have b_8 := bd_3_4 hF_4
  refine lv_iconst (v := iI 1) hx hb dX7_add_37 rfl ?_
  refine g_iadd hx hb dX7_add_38 ?_
  refine g_put (C := RX7) (T := TX7) (N := 6) (ci := 6) (ty := .int) (z := ((f_X2_become σ (59 + 2 * ((σ 3 3).toNat)) q0) 3 4) + 1) hx hb hts in_X7_add_X7 tyX7 tyX7_ok nmX7 hown hK hI 3 (by decide) (cel_3 cy ad) rfl 4 (by decide) (by decide +kernel) rfl (by decide +kernel) rfl rfl (Nat.le_of_ble_eq_true rfl) rfl (bw_3_4 (by omega)) dX7_add_39 (fun H locs hI => ?_)
  have hF_9 := hI.2.2.2
  refine lv_iload_n hx hb dX7_add_42 rfl (lv_at hl 0 rfl) ?_
  have e9 : f_X7_add σ q0 = (σ 3 3, (up2 (up2 (up2 (f_X2_become σ (59 + 2 * ((σ 3 3).toNat)) q0) 5 ((σ 3 3).toNat) 1) 3 3 (((f_X2_become σ (59 + 2 * ((σ 3 3).toNat)) q0) 3 3) + 1)) 3 4 (((f_X2_become σ (59 + 2 * ((σ 3 3).toNat)) q0) 3 4) + 1))) := by rw [f_X7_add]
  exact g_iret (z := σ 3 3) hx hb hr hK hN hlocks hI (by rw [e9]) (by rw [e9]) trivial dX7_add_43
theorem in_X7_drop_X7 : ∀ w ∈ u_ws RX7 TX7 6, w ∈ wsX7_drop := by decide +kernel
def f_X7_drop (σ : Sg) (a0 : Int) : Sg := (up2 (up2 σ 5 a0.toNat 0) 3 4 ((σ 3 4) - 1))
theorem hd_X7_drop : yX7_drop.cls = RX7 ∧ yX7_drop.cls ≠ "java/lang/invoke/MethodHandle" ∧ yX7_drop.cls ≠ "java/lang/invoke/VarHandle" ∧ (parseMethodDescriptor yX7_drop.desc).map (fun d => d.parameters.length) = some 1 := by decide +kernel
set_option maxHeartbeats 4000000 in
set_option maxRecDepth 100000 in
theorem c_X7_drop (l : Launch) (D : va_G) (cy : Nat → ClassId) (ad : Nat → Nat) (σ : Sg) (a0 : Int) (ha0 : (0 : Int) ≤ a0 ∧ a0 ≤ 39) (h1 : 1 ≤ σ 3 4) : CM l D cy ad yX7_drop wsX7_drop { frames := 0, cells := 0, slots := 0, locals := 0 } [.ref (ad 3), .int (iI a0)] σ none (f_X7_drop σ a0) (True) := by
  refine CM.of (cc := cX7_drop) (maxL := 2) (ret := none) (by decide) rfl (Nat.le_of_ble_eq_true rfl) ?_
  intro p e s m args below meth c₀ ls X hI hl
  have hl : lv_has ls 2 [(0, .ref (ad 3)), (1, .int (iI a0))] := hl
  obtain ⟨hx, hb, hr, hml, hown, hts, hlocks, hK, hN⟩ := id X
  have hF := hI.2.2.2
  refine lv_aload_n hx hb dX7_drop_0 rfl (lv_at hl 0 rfl) ?_
  refine g_get (C := RX7) (T := TX7) (N := 6) (ci := 6) (v := .ref (ad 5)) hx hb hts in_X7_drop_X7 hown hK hI 3 (by decide) (cel_3 cy ad _) rfl 1 (by decide) (by decide +kernel) rfl dX7_drop_1 ?_
  refine lv_iload_n hx hb dX7_drop_4 rfl (lv_at hl 1 rfl) ?_
  refine lv_iconst (v := iI 0) hx hb dX7_drop_5 rfl ?_
  refine g_zast hx hb hK hI 5 (by decide) (cel_5 cy ad) (by omega) (by decide) (by omega) (bw_5 (by omega)) dX7_drop_6 (fun H locs hI => ?_)
  have hF_1 : WF (up2 σ 5 a0.toNat 0) := hI.2.2.2
  refine lv_aload_n hx hb dX7_drop_7 rfl (lv_at hl 0 rfl) ?_
  refine lv_dup hx hb dX7_drop_8 rfl ?_
  refine g_get (C := RX7) (T := TX7) (N := 6) (ci := 6) (v := .int (iI (σ 3 4))) hx hb hts in_X7_drop_X7 hown hK hI 3 (by decide) (cel_3 cy ad _) rfl 4 (by decide) (by decide +kernel) (by show some (Value.int (iI ((up2 σ 5 a0.toNat 0) 3 4))) = _; rw [up2_cell _ _ _ (by decide)]) dX7_drop_9 ?_
  have b_2 := bd_3_4 hF
  refine lv_iconst (v := iI 1) hx hb dX7_drop_12 rfl ?_
  refine g_isub hx hb dX7_drop_13 ?_
  refine g_put (C := RX7) (T := TX7) (N := 6) (ci := 6) (ty := .int) (z := (σ 3 4) - 1) hx hb hts in_X7_drop_X7 tyX7 tyX7_ok nmX7 hown hK hI 3 (by decide) (cel_3 cy ad) rfl 4 (by decide) (by decide +kernel) rfl (by decide +kernel) rfl rfl (Nat.le_of_ble_eq_true rfl) rfl (bw_3_4 (by omega)) dX7_drop_14 (fun H locs hI => ?_)
  have hF_3 := hI.2.2.2
  have e9 : f_X7_drop σ a0 = (up2 (up2 σ 5 a0.toNat 0) 3 4 ((σ 3 4) - 1)) := by rw [f_X7_drop]
  exact g_vret hx hb hr hK hN hlocks hI (by rw [e9]) trivial dX7_drop_17
theorem in_X7_findAlike_X7 : ∀ w ∈ u_ws RX7 TX7 6, w ∈ wsX7_findAlike := by decide +kernel
def L_X7_findAlike_2 (σ : Sg) (q0 : Nat) (a1 : Int) : Nat → Int → Int
  | 0, x3 => 0
  | n + 1, x3 => (if (σ 3 3) ≤ x3 then (-1) else (if x3 = a1 then L_X7_findAlike_2 σ q0 a1 n (x3 + 1) else (if (σ 5 x3.toNat) = 0 then L_X7_findAlike_2 σ q0 a1 n (x3 + 1) else (if (f_X2_isAlike σ (59 + 2 * x3.toNat) q0 (σ 3 5)) = 0 then L_X7_findAlike_2 σ q0 a1 n (x3 + 1) else x3))))
set_option maxHeartbeats 4000000 in
set_option maxRecDepth 100000 in
theorem w_L_X7_findAlike_2 {p : Program} {l : Launch} {e : Env} {s : State} {m : MethodId} {args : Array Value} {below : List Frame} {meth : Method} {c₀ : Code} {D : va_G} {cy : Nat → ClassId} {ad : Nat → Nat} (X : MX p s m args meth c₀ cX7_findAlike 4 RX7 (some .int) wsX7_findAlike D cy) (σ : Sg) (q0 : Nat) (hq0 : isPl q0) (a1 : Int) (ha1 : (-2147483648 ≤ a1 ∧ a1 < 2147483648)) : ∀ (n : Nat) (x3 : Int) (hx3 : (0 : Int) ≤ x3 ∧ x3 ≤ 40) (hmu : 40 - x3 < (n : Int)) (H : Heap) (locs : List Loc) (ls : Array Slot) (hI : HI D cy ad s σ H locs) (hl : lv_has ls 4 [(0, .ref (ad 3)), (1, .ref (ad q0)), (2, .int (iI a1)), (3, .int (iI x3))]), W p l e { frames := 2, cells := 0, slots := 0, locals := 80 } s m args below meth c₀ H locs 0 0 (MQ below (CQ D cy ad (some (.int (iI (L_X7_findAlike_2 σ q0 a1 n x3)))) σ (-1 ≤ (L_X7_findAlike_2 σ q0 a1 n x3) ∧ (L_X7_findAlike_2 σ q0 a1 n x3) ≤ 39) (AA ad s.heap.size)) args s 0 0 (AA ad s.heap.size)) (F0 m 2 ls []) := by
  obtain ⟨hx, hb, hr, hml, hown, hts, hlocks, hK, hN⟩ := id X
  intro n
  induction n with
  | zero =>
    intro x3 hx3 hmu H locs ls hI hl
    exfalso
    have hF := hI.2.2.2
    omega
  | succ n ih =>
    intro x3 hx3 hmu H locs ls hI hl
    have hF := hI.2.2.2
    refine lv_iload_n hx hb dX7_findAlike_2 rfl (lv_at hl 3 rfl) ?_
    refine lv_aload_n hx hb dX7_findAlike_3 rfl (lv_at hl 0 rfl) ?_
    refine g_get (C := RX7) (T := TX7) (N := 6) (ci := 6) (v := .int (iI (σ 3 3))) hx hb hts in_X7_findAlike_X7 hown hK hI 3 (by decide) (cel_3 cy ad _) rfl 3 (by decide) (by decide +kernel) rfl dX7_findAlike_4 ?_
    have b_1 := bd_3_3 hF
    refine g_icmp_ge (tgt := 49) hx hb dX7_findAlike_7 (by decide) (by omega) (by omega) (fun c_2 => ?_) (fun c_2 => ?_)
    · skip
      refine lv_iconst (v := iI (-1)) hx hb dX7_findAlike_49 rfl ?_
      have e9 : L_X7_findAlike_2 σ q0 a1 (n + 1) x3 = (-1) := by rw [L_X7_findAlike_2, if_pos c_2]
      exact g_iret (z := (-1)) hx hb hr hK hN hlocks hI e9.symm rfl (by rw [e9] <;> first | (omega) | (dsimp only; omega)) dX7_findAlike_50
    · skip
      refine lv_iload_n hx hb dX7_findAlike_10 rfl (lv_at hl 3 rfl) ?_
      refine lv_iload_n hx hb dX7_findAlike_11 rfl (lv_at hl 2 rfl) ?_
      refine g_icmp_eq (tgt := 43) hx hb dX7_findAlike_12 (by decide) (by omega) (by omega) (fun c_3 => ?_) (fun c_3 => ?_)
      · skip
        refine lv_iinc (v := iI (x3 + 1)) (lv' := [(3, .int (iI (x3 + 1))), (0, .ref (ad 3)), (1, .ref (ad q0)), (2, .int (iI a1))]) hx hb dX7_findAlike_43 hl (k := 3) rfl (iI_add _ _) (by decide) rfl (fun ls hl => ?_)
        refine lv_goto (tgt := 2) hx hb dX7_findAlike_46 (by decide) ?_
        have e9 : L_X7_findAlike_2 σ q0 a1 (n + 1) x3 = L_X7_findAlike_2 σ q0 a1 n (x3 + 1) := by rw [L_X7_findAlike_2, if_neg c_2, if_pos c_3]
        rw [e9]
        exact ih (x3 + 1)  (by omega) (by omega) _ _ _ hI (lv_sub hl [1, 2, 3, 0] rfl)
      · skip
        refine lv_aload_n hx hb dX7_findAlike_15 rfl (lv_at hl 0 rfl) ?_
        refine g_get (C := RX7) (T := TX7) (N := 6) (ci := 6) (v := .ref (ad 5)) hx hb hts in_X7_findAlike_X7 hown hK hI 3 (by decide) (cel_3 cy ad _) rfl 1 (by decide) (by decide +kernel) rfl dX7_findAlike_16 ?_
        refine lv_iload_n hx hb dX7_findAlike_19 rfl (lv_at hl 3 rfl) ?_
        refine g_zald (v := σ 5 x3.toNat) hx hb hK hI 5 (by decide) (cel_5 cy ad) (by omega) (by decide) rfl dX7_findAlike_20 ?_
        have b_4 := bd_5 hF x3.toNat
        refine g_if_eq (tgt := 43) hx hb dX7_findAlike_21 (by decide) (by omega) (fun c_5 => ?_) (fun c_5 => ?_)
        · skip
          refine lv_iinc (v := iI (x3 + 1)) (lv' := [(3, .int (iI (x3 + 1))), (0, .ref (ad 3)), (1, .ref (ad q0)), (2, .int (iI a1))]) hx hb dX7_findAlike_43 hl (k := 3) rfl (iI_add _ _) (by decide) rfl (fun ls hl => ?_)
          refine lv_goto (tgt := 2) hx hb dX7_findAlike_46 (by decide) ?_
          have e9 : L_X7_findAlike_2 σ q0 a1 (n + 1) x3 = L_X7_findAlike_2 σ q0 a1 n (x3 + 1) := by rw [L_X7_findAlike_2, if_neg c_2, if_neg c_3, if_pos c_5]
          rw [e9]
          exact ih (x3 + 1)  (by omega) (by omega) _ _ _ hI (lv_sub hl [1, 2, 3, 0] rfl)
        · skip
          refine lv_aload_n hx hb dX7_findAlike_24 rfl (lv_at hl 0 rfl) ?_
          refine g_get (C := RX7) (T := TX7) (N := 6) (ci := 6) (v := .ref (ad 4)) hx hb hts in_X7_findAlike_X7 hown hK hI 3 (by decide) (cel_3 cy ad _) rfl 0 (by decide) (by decide +kernel) rfl dX7_findAlike_25 ?_
          refine lv_iload_n hx hb dX7_findAlike_28 rfl (lv_at hl 3 rfl) ?_
          refine g_aaldP (f := fun i => 59 + 2 * i) hx hb hK hI 4 (by decide) (cel_4 cy ad) (by omega) (by decide) dX7_findAlike_29 ?_
          have hr_6 : isPl (59 + 2 * x3.toNat) := by omega
          refine lv_aload_n hx hb dX7_findAlike_30 rfl (lv_at hl 1 rfl) ?_
          refine lv_aload_n hx hb dX7_findAlike_31 rfl (lv_at hl 0 rfl) ?_
          refine g_get (C := RX7) (T := TX7) (N := 6) (ci := 6) (v := .int (iI (σ 3 5))) hx hb hts in_X7_findAlike_X7 hown hK hI 3 (by decide) (cel_3 cy ad _) rfl 5 (by decide) (by decide +kernel) rfl dX7_findAlike_32 ?_
          have b_7 := bd_3_5 hF
          refine g_V (As := [.ref (ad q0), .int (iI (σ 3 5))]) (rest := []) (59 + 2 * x3.toNat) (c_X2_isAlike l D cy ad σ (59 + 2 * x3.toNat) hr_6 q0 hq0 (σ 3 5) (by omega)) hx hb hml hown hts hK hN hI hl.1 gX7_findAlike_X2_isAlike rfl hd_X2_isAlike rfl rfl ⟨Nat.le_of_ble_eq_true rfl, Nat.le_of_ble_eq_true rfl⟩ ⟨Nat.zero_le _, Nat.zero_le _⟩ (by have q := hr_6; omega) (cel_Pl cy ad hr_6 _) rfl rfl rfl rfl (Nat.le_of_ble_eq_true rfl) dX7_findAlike_35 (fun H locs hG_8 hI => ?_)
          refine g_if_eq (tgt := 43) hx hb dX7_findAlike_38 (by decide) (by omega) (fun c_9 => ?_) (fun c_9 => ?_)
          · skip
            refine lv_iinc (v := iI (x3 + 1)) (lv' := [(3, .int (iI (x3 + 1))), (0, .ref (ad 3)), (1, .ref (ad q0)), (2, .int (iI a1))]) hx hb dX7_findAlike_43 hl (k := 3) rfl (iI_add _ _) (by decide) rfl (fun ls hl => ?_)
            refine lv_goto (tgt := 2) hx hb dX7_findAlike_46 (by decide) ?_
            have e9 : L_X7_findAlike_2 σ q0 a1 (n + 1) x3 = L_X7_findAlike_2 σ q0 a1 n (x3 + 1) := by rw [L_X7_findAlike_2, if_neg c_2, if_neg c_3, if_neg c_5, if_pos c_9]
            rw [e9]
            exact ih (x3 + 1)  (by omega) (by omega) _ _ _ hI (lv_sub hl [1, 2, 3, 0] rfl)
          · skip
            refine lv_iload_n hx hb dX7_findAlike_41 rfl (lv_at hl 3 rfl) ?_
            have e9 : L_X7_findAlike_2 σ q0 a1 (n + 1) x3 = x3 := by rw [L_X7_findAlike_2, if_neg c_2, if_neg c_3, if_neg c_5, if_neg c_9]
            exact g_iret (z := x3) hx hb hr hK hN hlocks hI e9.symm rfl (by rw [e9] <;> first | (omega) | (dsimp only; omega)) dX7_findAlike_42
def f_X7_findAlike (σ : Sg) (q0 : Nat) (a1 : Int) : Int := L_X7_findAlike_2 σ q0 a1 41 0
theorem hd_X7_findAlike : yX7_findAlike.cls = RX7 ∧ yX7_findAlike.cls ≠ "java/lang/invoke/MethodHandle" ∧ yX7_findAlike.cls ≠ "java/lang/invoke/VarHandle" ∧ (parseMethodDescriptor yX7_findAlike.desc).map (fun d => d.parameters.length) = some 2 := by decide +kernel
set_option maxHeartbeats 4000000 in
set_option maxRecDepth 100000 in
theorem c_X7_findAlike (l : Launch) (D : va_G) (cy : Nat → ClassId) (ad : Nat → Nat) (σ : Sg) (q0 : Nat) (hq0 : isPl q0) (a1 : Int) (ha1 : (-2147483648 ≤ a1 ∧ a1 < 2147483648)) : CM l D cy ad yX7_findAlike wsX7_findAlike { frames := 2, cells := 0, slots := 0, locals := 80 } [.ref (ad 3), .ref (ad q0), .int (iI a1)] σ (some (.int (iI (f_X7_findAlike σ q0 a1)))) σ (-1 ≤ (f_X7_findAlike σ q0 a1) ∧ (f_X7_findAlike σ q0 a1) ≤ 39) := by
  refine CM.of (cc := cX7_findAlike) (maxL := 4) (ret := (some .int)) (by decide) rfl (Nat.le_of_ble_eq_true rfl) ?_
  intro p e s m args below meth c₀ ls X hI hl
  have hl : lv_has ls 4 [(0, .ref (ad 3)), (1, .ref (ad q0)), (2, .int (iI a1))] := hl
  obtain ⟨hx, hb, hr, hml, hown, hts, hlocks, hK, hN⟩ := id X
  have hF := hI.2.2.2
  refine lv_iconst (v := iI 0) hx hb dX7_findAlike_0 rfl ?_
  refine lv_istore_n (lv' := [(3, .int (iI 0)), (0, .ref (ad 3)), (1, .ref (ad q0)), (2, .int (iI a1))]) hx hb dX7_findAlike_1 rfl hl (by decide) rfl (fun ls hl => ?_)
  have e9 : f_X7_findAlike σ q0 a1 = L_X7_findAlike_2 σ q0 a1 41 0 := by rw [f_X7_findAlike]
  rw [e9]
  exact w_L_X7_findAlike_2 X σ q0 hq0 a1 ha1  41 0  (by omega) (by omega) _ _ _ hI (lv_sub hl [1, 2, 3, 0] rfl)
theorem in_X7_findJust_X7 : ∀ w ∈ u_ws RX7 TX7 6, w ∈ wsX7_findJust := by decide +kernel
def L_X7_findJust_2 (σ : Sg) (q0 : Nat) : Nat → Int → Int
  | 0, x2 => 0
  | n + 1, x2 => (if (σ 3 3) ≤ x2 then (-1) else (if (σ 5 x2.toNat) = 0 then L_X7_findJust_2 σ q0 n (x2 + 1) else (if (f_X2_isJust σ (59 + 2 * x2.toNat) q0) = 0 then L_X7_findJust_2 σ q0 n (x2 + 1) else x2)))
set_option maxHeartbeats 4000000 in
set_option maxRecDepth 100000 in
theorem w_L_X7_findJust_2 {p : Program} {l : Launch} {e : Env} {s : State} {m : MethodId} {args : Array Value} {below : List Frame} {meth : Method} {c₀ : Code} {D : va_G} {cy : Nat → ClassId} {ad : Nat → Nat} (X : MX p s m args meth c₀ cX7_findJust 3 RX7 (some .int) wsX7_findJust D cy) (σ : Sg) (q0 : Nat) (hq0 : isPl q0) : ∀ (n : Nat) (x2 : Int) (hx2 : (0 : Int) ≤ x2 ∧ x2 ≤ 40) (hmu : 40 - x2 < (n : Int)) (H : Heap) (locs : List Loc) (ls : Array Slot) (hI : HI D cy ad s σ H locs) (hl : lv_has ls 3 [(0, .ref (ad 3)), (1, .ref (ad q0)), (2, .int (iI x2))]), W p l e { frames := 3, cells := 0, slots := 0, locals := 120 } s m args below meth c₀ H locs 0 0 (MQ below (CQ D cy ad (some (.int (iI (L_X7_findJust_2 σ q0 n x2)))) σ (-1 ≤ (L_X7_findJust_2 σ q0 n x2) ∧ (L_X7_findJust_2 σ q0 n x2) ≤ 39) (AA ad s.heap.size)) args s 0 0 (AA ad s.heap.size)) (F0 m 2 ls []) := by
  obtain ⟨hx, hb, hr, hml, hown, hts, hlocks, hK, hN⟩ := id X
  intro n
  induction n with
  | zero =>
    intro x2 hx2 hmu H locs ls hI hl
    exfalso
    have hF := hI.2.2.2
    omega
  | succ n ih =>
    intro x2 hx2 hmu H locs ls hI hl
    have hF := hI.2.2.2
    refine lv_iload_n hx hb dX7_findJust_2 rfl (lv_at hl 2 rfl) ?_
    refine lv_aload_n hx hb dX7_findJust_3 rfl (lv_at hl 0 rfl) ?_
    refine g_get (C := RX7) (T := TX7) (N := 6) (ci := 6) (v := .int (iI (σ 3 3))) hx hb hts in_X7_findJust_X7 hown hK hI 3 (by decide) (cel_3 cy ad _) rfl 3 (by decide) (by decide +kernel) rfl dX7_findJust_4 ?_
    have b_1 := bd_3_3 hF
    refine g_icmp_ge (tgt := 40) hx hb dX7_findJust_7 (by decide) (by omega) (by omega) (fun c_2 => ?_) (fun c_2 => ?_)
    · skip
      refine lv_iconst (v := iI (-1)) hx hb dX7_findJust_40 rfl ?_
      have e9 : L_X7_findJust_2 σ q0 (n + 1) x2 = (-1) := by rw [L_X7_findJust_2, if_pos c_2]
      exact g_iret (z := (-1)) hx hb hr hK hN hlocks hI e9.symm rfl (by rw [e9] <;> first | (omega) | (dsimp only; omega)) dX7_findJust_41
    · skip
      refine lv_aload_n hx hb dX7_findJust_10 rfl (lv_at hl 0 rfl) ?_
      refine g_get (C := RX7) (T := TX7) (N := 6) (ci := 6) (v := .ref (ad 5)) hx hb hts in_X7_findJust_X7 hown hK hI 3 (by decide) (cel_3 cy ad _) rfl 1 (by decide) (by decide +kernel) rfl dX7_findJust_11 ?_
      refine lv_iload_n hx hb dX7_findJust_14 rfl (lv_at hl 2 rfl) ?_
      refine g_zald (v := σ 5 x2.toNat) hx hb hK hI 5 (by decide) (cel_5 cy ad) (by omega) (by decide) rfl dX7_findJust_15 ?_
      have b_3 := bd_5 hF x2.toNat
      refine g_if_eq (tgt := 34) hx hb dX7_findJust_16 (by decide) (by omega) (fun c_4 => ?_) (fun c_4 => ?_)
      · skip
        refine lv_iinc (v := iI (x2 + 1)) (lv' := [(2, .int (iI (x2 + 1))), (0, .ref (ad 3)), (1, .ref (ad q0))]) hx hb dX7_findJust_34 hl (k := 2) rfl (iI_add _ _) (by decide) rfl (fun ls hl => ?_)
        refine lv_goto (tgt := 2) hx hb dX7_findJust_37 (by decide) ?_
        have e9 : L_X7_findJust_2 σ q0 (n + 1) x2 = L_X7_findJust_2 σ q0 n (x2 + 1) := by rw [L_X7_findJust_2, if_neg c_2, if_pos c_4]
        rw [e9]
        exact ih (x2 + 1)  (by omega) (by omega) _ _ _ hI (lv_sub hl [1, 2, 0] rfl)
      · skip
        refine lv_aload_n hx hb dX7_findJust_19 rfl (lv_at hl 0 rfl) ?_
        refine g_get (C := RX7) (T := TX7) (N := 6) (ci := 6) (v := .ref (ad 4)) hx hb hts in_X7_findJust_X7 hown hK hI 3 (by decide) (cel_3 cy ad _) rfl 0 (by decide) (by decide +kernel) rfl dX7_findJust_20 ?_
        refine lv_iload_n hx hb dX7_findJust_23 rfl (lv_at hl 2 rfl) ?_
        refine g_aaldP (f := fun i => 59 + 2 * i) hx hb hK hI 4 (by decide) (cel_4 cy ad) (by omega) (by decide) dX7_findJust_24 ?_
        have hr_5 : isPl (59 + 2 * x2.toNat) := by omega
        refine lv_aload_n hx hb dX7_findJust_25 rfl (lv_at hl 1 rfl) ?_
        refine g_V (As := [.ref (ad q0)]) (rest := []) (59 + 2 * x2.toNat) (c_X2_isJust l D cy ad σ (59 + 2 * x2.toNat) hr_5 q0 hq0) hx hb hml hown hts hK hN hI hl.1 gX7_findJust_X2_isJust rfl hd_X2_isJust rfl rfl ⟨Nat.le_of_ble_eq_true rfl, Nat.le_of_ble_eq_true rfl⟩ ⟨Nat.zero_le _, Nat.zero_le _⟩ (by have q := hr_5; omega) (cel_Pl cy ad hr_5 _) rfl rfl rfl rfl (Nat.le_of_ble_eq_true rfl) dX7_findJust_26 (fun H locs hG_6 hI => ?_)
        refine g_if_eq (tgt := 34) hx hb dX7_findJust_29 (by decide) (by omega) (fun c_7 => ?_) (fun c_7 => ?_)
        · skip
          refine lv_iinc (v := iI (x2 + 1)) (lv' := [(2, .int (iI (x2 + 1))), (0, .ref (ad 3)), (1, .ref (ad q0))]) hx hb dX7_findJust_34 hl (k := 2) rfl (iI_add _ _) (by decide) rfl (fun ls hl => ?_)
          refine lv_goto (tgt := 2) hx hb dX7_findJust_37 (by decide) ?_
          have e9 : L_X7_findJust_2 σ q0 (n + 1) x2 = L_X7_findJust_2 σ q0 n (x2 + 1) := by rw [L_X7_findJust_2, if_neg c_2, if_neg c_4, if_pos c_7]
          rw [e9]
          exact ih (x2 + 1)  (by omega) (by omega) _ _ _ hI (lv_sub hl [1, 2, 0] rfl)
        · skip
          refine lv_iload_n hx hb dX7_findJust_32 rfl (lv_at hl 2 rfl) ?_
          have e9 : L_X7_findJust_2 σ q0 (n + 1) x2 = x2 := by rw [L_X7_findJust_2, if_neg c_2, if_neg c_4, if_neg c_7]
          exact g_iret (z := x2) hx hb hr hK hN hlocks hI e9.symm rfl (by rw [e9] <;> first | (omega) | (dsimp only; omega)) dX7_findJust_33
def f_X7_findJust (σ : Sg) (q0 : Nat) : Int := L_X7_findJust_2 σ q0 41 0
theorem hd_X7_findJust : yX7_findJust.cls = RX7 ∧ yX7_findJust.cls ≠ "java/lang/invoke/MethodHandle" ∧ yX7_findJust.cls ≠ "java/lang/invoke/VarHandle" ∧ (parseMethodDescriptor yX7_findJust.desc).map (fun d => d.parameters.length) = some 1 := by decide +kernel
set_option maxHeartbeats 4000000 in
set_option maxRecDepth 100000 in
theorem c_X7_findJust (l : Launch) (D : va_G) (cy : Nat → ClassId) (ad : Nat → Nat) (σ : Sg) (q0 : Nat) (hq0 : isPl q0) : CM l D cy ad yX7_findJust wsX7_findJust { frames := 3, cells := 0, slots := 0, locals := 120 } [.ref (ad 3), .ref (ad q0)] σ (some (.int (iI (f_X7_findJust σ q0)))) σ (-1 ≤ (f_X7_findJust σ q0) ∧ (f_X7_findJust σ q0) ≤ 39) := by
  refine CM.of (cc := cX7_findJust) (maxL := 3) (ret := (some .int)) (by decide) rfl (Nat.le_of_ble_eq_true rfl) ?_
  intro p e s m args below meth c₀ ls X hI hl
  have hl : lv_has ls 3 [(0, .ref (ad 3)), (1, .ref (ad q0))] := hl
  obtain ⟨hx, hb, hr, hml, hown, hts, hlocks, hK, hN⟩ := id X
  have hF := hI.2.2.2
  refine lv_iconst (v := iI 0) hx hb dX7_findJust_0 rfl ?_
  refine lv_istore_n (lv' := [(2, .int (iI 0)), (0, .ref (ad 3)), (1, .ref (ad q0))]) hx hb dX7_findJust_1 rfl hl (by decide) rfl (fun ls hl => ?_)
  have e9 : f_X7_findJust σ q0 = L_X7_findJust_2 σ q0 41 0 := by rw [f_X7_findJust]
  rw [e9]
  exact w_L_X7_findJust_2 X σ q0 hq0  41 0  (by omega) (by omega) _ _ _ hI (lv_sub hl [1, 2, 0] rfl)
theorem in_X7_howManySpare_X7 : ∀ w ∈ u_ws RX7 TX7 6, w ∈ wsX7_howManySpare := by decide +kernel
def L_X7_howManySpare_4 (σ : Sg) : Nat → Int → Int → Int
  | 0, x1, x2 => (x1)
  | n + 1, x1, x2 => (if (σ 3 3) ≤ x2 then x1 else (if (σ 5 x2.toNat) = 0 then L_X7_howManySpare_4 σ n x1 (x2 + 1) else (if (f_X2_isSpare σ (59 + 2 * x2.toNat)) = 0 then L_X7_howManySpare_4 σ n x1 (x2 + 1) else L_X7_howManySpare_4 σ n (x1 + 1) (x2 + 1))))
set_option maxHeartbeats 4000000 in
set_option maxRecDepth 100000 in
theorem w_L_X7_howManySpare_4 {p : Program} {l : Launch} {e : Env} {s : State} {m : MethodId} {args : Array Value} {below : List Frame} {meth : Method} {c₀ : Code} {D : va_G} {cy : Nat → ClassId} {ad : Nat → Nat} {Q : State → Prop} (X : MX p s m args meth c₀ cX7_howManySpare 3 RX7 (some .int) wsX7_howManySpare D cy) (σ : Sg) : ∀ (n : Nat) (x1 : Int) (x2 : Int) (hx1 : (0 : Int) ≤ x1 ∧ x1 ≤ 40) (hx2 : (0 : Int) ≤ x2 ∧ x2 ≤ 40) (hp0 : x1 ≤ x2) (hmu : 40 - x2 < (n : Int)) (H : Heap) (locs : List Loc) (ls : Array Slot) (hI : HI D cy ad s σ H locs) (hl : lv_has ls 3 [(0, .ref (ad 3)), (1, .int (iI x1)), (2, .int (iI x2))])  (hk : ∀ (H1 : Heap) (locs1 : List Loc) (ls1 : Array Slot), (0 ≤ (L_X7_howManySpare_4 σ n x1 x2) ∧ (L_X7_howManySpare_4 σ n x1 x2) ≤ 40) → HI D cy ad s σ H1 locs1 → lv_has ls1 3 [(1, .int (iI (L_X7_howManySpare_4 σ n x1 x2)))] → W p l e { frames := 2, cells := 0, slots := 0, locals := 80 } s m args below meth c₀ H1 locs1 0 0 Q (F0 m 42 ls1 [])), W p l e { frames := 2, cells := 0, slots := 0, locals := 80 } s m args below meth c₀ H locs 0 0 Q (F0 m 4 ls []) := by
  obtain ⟨hx, hb, hr, hml, hown, hts, hlocks, hK, hN⟩ := id X
  intro n
  induction n with
  | zero =>
    intro x1 x2 hx1 hx2 hp0 hmu H locs ls hI hl hk
    exfalso
    have hF := hI.2.2.2
    omega
  | succ n ih =>
    intro x1 x2 hx1 hx2 hp0 hmu H locs ls hI hl hk
    have hF := hI.2.2.2
    refine lv_iload_n hx hb dX7_howManySpare_4 rfl (lv_at hl 2 rfl) ?_
    refine lv_aload_n hx hb dX7_howManySpare_5 rfl (lv_at hl 0 rfl) ?_
    refine g_get (C := RX7) (T := TX7) (N := 6) (ci := 6) (v := .int (iI (σ 3 3))) hx hb hts in_X7_howManySpare_X7 hown hK hI 3 (by decide) (cel_3 cy ad _) rfl 3 (by decide) (by decide +kernel) rfl dX7_howManySpare_6 ?_
    have b_1 := bd_3_3 hF
    refine g_icmp_ge (tgt := 42) hx hb dX7_howManySpare_9 (by decide) (by omega) (by omega) (fun c_2 => ?_) (fun c_2 => ?_)
    · skip
      have e9 : L_X7_howManySpare_4 σ (n + 1) x1 x2 = x1 := by rw [L_X7_howManySpare_4, if_pos c_2]
      rw [e9] at hk
      exact hk _ _ _ (by first | (omega) | (dsimp only; omega)) hI (lv_sub hl [1] rfl)
    · skip
      refine lv_aload_n hx hb dX7_howManySpare_12 rfl (lv_at hl 0 rfl) ?_
      refine g_get (C := RX7) (T := TX7) (N := 6) (ci := 6) (v := .ref (ad 5)) hx hb hts in_X7_howManySpare_X7 hown hK hI 3 (by decide) (cel_3 cy ad _) rfl 1 (by decide) (by decide +kernel) rfl dX7_howManySpare_13 ?_
      refine lv_iload_n hx hb dX7_howManySpare_16 rfl (lv_at hl 2 rfl) ?_
      refine g_zald (v := σ 5 x2.toNat) hx hb hK hI 5 (by decide) (cel_5 cy ad) (by omega) (by decide) rfl dX7_howManySpare_17 ?_
      have b_3 := bd_5 hF x2.toNat
      refine g_if_eq (tgt := 36) hx hb dX7_howManySpare_18 (by decide) (by omega) (fun c_4 => ?_) (fun c_4 => ?_)
      · skip
        refine lv_iinc (v := iI (x2 + 1)) (lv' := [(2, .int (iI (x2 + 1))), (0, .ref (ad 3)), (1, .int (iI x1))]) hx hb dX7_howManySpare_36 hl (k := 2) rfl (iI_add _ _) (by decide) rfl (fun ls hl => ?_)
        refine lv_goto (tgt := 4) hx hb dX7_howManySpare_39 (by decide) ?_
        have e9 : L_X7_howManySpare_4 σ (n + 1) x1 x2 = L_X7_howManySpare_4 σ n x1 (x2 + 1) := by rw [L_X7_howManySpare_4, if_neg c_2, if_pos c_4]
        rw [e9] at hk
        exact ih x1 (x2 + 1)  (by omega) (by omega) (by omega) (by omega) _ _ _ hI (lv_sub hl [1, 2, 0] rfl) hk
      · skip
        refine lv_aload_n hx hb dX7_howManySpare_21 rfl (lv_at hl 0 rfl) ?_
        refine g_get (C := RX7) (T := TX7) (N := 6) (ci := 6) (v := .ref (ad 4)) hx hb hts in_X7_howManySpare_X7 hown hK hI 3 (by decide) (cel_3 cy ad _) rfl 0 (by decide) (by decide +kernel) rfl dX7_howManySpare_22 ?_
        refine lv_iload_n hx hb dX7_howManySpare_25 rfl (lv_at hl 2 rfl) ?_
        refine g_aaldP (f := fun i => 59 + 2 * i) hx hb hK hI 4 (by decide) (cel_4 cy ad) (by omega) (by decide) dX7_howManySpare_26 ?_
        have hr_5 : isPl (59 + 2 * x2.toNat) := by omega
        refine g_V (As := []) (rest := []) (59 + 2 * x2.toNat) (c_X2_isSpare l D cy ad σ (59 + 2 * x2.toNat) hr_5) hx hb hml hown hts hK hN hI hl.1 gX7_howManySpare_X2_isSpare rfl hd_X2_isSpare rfl rfl ⟨Nat.le_of_ble_eq_true rfl, Nat.le_of_ble_eq_true rfl⟩ ⟨Nat.zero_le _, Nat.zero_le _⟩ (by have q := hr_5; omega) (cel_Pl cy ad hr_5 _) rfl rfl rfl rfl (Nat.le_of_ble_eq_true rfl) dX7_howManySpare_27 (fun H locs hG_6 hI => ?_)
        refine g_if_eq (tgt := 36) hx hb dX7_howManySpare_30 (by decide) (by omega) (fun c_7 => ?_) (fun c_7 => ?_)
        · skip
          refine lv_iinc (v := iI (x2 + 1)) (lv' := [(2, .int (iI (x2 + 1))), (0, .ref (ad 3)), (1, .int (iI x1))]) hx hb dX7_howManySpare_36 hl (k := 2) rfl (iI_add _ _) (by decide) rfl (fun ls hl => ?_)
          refine lv_goto (tgt := 4) hx hb dX7_howManySpare_39 (by decide) ?_
          have e9 : L_X7_howManySpare_4 σ (n + 1) x1 x2 = L_X7_howManySpare_4 σ n x1 (x2 + 1) := by rw [L_X7_howManySpare_4, if_neg c_2, if_neg c_4, if_pos c_7]
          rw [e9] at hk
          exact ih x1 (x2 + 1)  (by omega) (by omega) (by omega) (by omega) _ _ _ hI (lv_sub hl [1, 2, 0] rfl) hk
        · skip
          refine lv_iinc (v := iI (x1 + 1)) (lv' := [(1, .int (iI (x1 + 1))), (0, .ref (ad 3)), (2, .int (iI x2))]) hx hb dX7_howManySpare_33 hl (k := 1) rfl (iI_add _ _) (by decide) rfl (fun ls hl => ?_)
          refine lv_iinc (v := iI (x2 + 1)) (lv' := [(2, .int (iI (x2 + 1))), (1, .int (iI (x1 + 1))), (0, .ref (ad 3))]) hx hb dX7_howManySpare_36 hl (k := 2) rfl (iI_add _ _) (by decide) rfl (fun ls hl => ?_)
          refine lv_goto (tgt := 4) hx hb dX7_howManySpare_39 (by decide) ?_
          have e9 : L_X7_howManySpare_4 σ (n + 1) x1 x2 = L_X7_howManySpare_4 σ n (x1 + 1) (x2 + 1) := by rw [L_X7_howManySpare_4, if_neg c_2, if_neg c_4, if_neg c_7]
          rw [e9] at hk
          exact ih (x1 + 1) (x2 + 1)  (by omega) (by omega) (by omega) (by omega) _ _ _ hI (lv_sub hl [2, 1, 0] rfl) hk
def f_X7_howManySpare (σ : Sg) : Int := (L_X7_howManySpare_4 σ 41 0 0)
theorem hd_X7_howManySpare : yX7_howManySpare.cls = RX7 ∧ yX7_howManySpare.cls ≠ "java/lang/invoke/MethodHandle" ∧ yX7_howManySpare.cls ≠ "java/lang/invoke/VarHandle" ∧ (parseMethodDescriptor yX7_howManySpare.desc).map (fun d => d.parameters.length) = some 0 := by decide +kernel
set_option maxHeartbeats 4000000 in
set_option maxRecDepth 100000 in
theorem c_X7_howManySpare (l : Launch) (D : va_G) (cy : Nat → ClassId) (ad : Nat → Nat) (σ : Sg) : CM l D cy ad yX7_howManySpare wsX7_howManySpare { frames := 2, cells := 0, slots := 0, locals := 80 } [.ref (ad 3)] σ (some (.int (iI (f_X7_howManySpare σ)))) σ (0 ≤ (f_X7_howManySpare σ) ∧ (f_X7_howManySpare σ) ≤ 40) := by
  refine CM.of (cc := cX7_howManySpare) (maxL := 3) (ret := (some .int)) (by decide) rfl (Nat.le_of_ble_eq_true rfl) ?_
  intro p e s m args below meth c₀ ls X hI hl
  have hl : lv_has ls 3 [(0, .ref (ad 3))] := hl
  obtain ⟨hx, hb, hr, hml, hown, hts, hlocks, hK, hN⟩ := id X
  have hF := hI.2.2.2
  refine lv_iconst (v := iI 0) hx hb dX7_howManySpare_0 rfl ?_
  refine lv_istore_n (lv' := [(1, .int (iI 0)), (0, .ref (ad 3))]) hx hb dX7_howManySpare_1 rfl hl (by decide) rfl (fun ls hl => ?_)
  refine lv_iconst (v := iI 0) hx hb dX7_howManySpare_2 rfl ?_
  refine lv_istore_n (lv' := [(2, .int (iI 0)), (1, .int (iI 0)), (0, .ref (ad 3))]) hx hb dX7_howManySpare_3 rfl hl (by decide) rfl (fun ls hl => ?_)
  refine w_L_X7_howManySpare_4 X σ   41 0 0  (by omega) (by omega) (by omega) (by omega) _ _ _ hI (lv_sub hl [2, 1, 0] rfl) (fun H locs ls hpo_9 hI hl => ?_)
  refine lv_iload_n hx hb dX7_howManySpare_42 rfl (lv_at hl 0 rfl) ?_
  have e9 : f_X7_howManySpare σ = (L_X7_howManySpare_4 σ 41 0 0) := by rw [f_X7_howManySpare]
  exact g_iret (z := (L_X7_howManySpare_4 σ 41 0 0)) hx hb hr hK hN hlocks hI e9.symm rfl (by rw [e9] <;> first | (omega) | (dsimp only; omega)) dX7_howManySpare_43
theorem in_X7_isNamedBefore_X7 : ∀ w ∈ u_ws RX7 TX7 6, w ∈ wsX7_isNamedBefore := by decide +kernel
def f_X7_isNamedBefore (σ : Sg) (a0 : Int) (a1 : Int) : Int := f_X2_isNamedBefore σ (59 + 2 * a0.toNat) (59 + 2 * a1.toNat)
theorem hd_X7_isNamedBefore : yX7_isNamedBefore.cls = RX7 ∧ yX7_isNamedBefore.cls ≠ "java/lang/invoke/MethodHandle" ∧ yX7_isNamedBefore.cls ≠ "java/lang/invoke/VarHandle" ∧ (parseMethodDescriptor yX7_isNamedBefore.desc).map (fun d => d.parameters.length) = some 2 := by decide +kernel
set_option maxHeartbeats 4000000 in
set_option maxRecDepth 100000 in
theorem c_X7_isNamedBefore (l : Launch) (D : va_G) (cy : Nat → ClassId) (ad : Nat → Nat) (σ : Sg) (a0 : Int) (ha0 : (0 : Int) ≤ a0 ∧ a0 ≤ 39) (a1 : Int) (ha1 : (0 : Int) ≤ a1 ∧ a1 ≤ 39) : CM l D cy ad yX7_isNamedBefore wsX7_isNamedBefore { frames := 2, cells := 0, slots := 0, locals := 80 } [.ref (ad 3), .int (iI a0), .int (iI a1)] σ (some (.int (iI (f_X7_isNamedBefore σ a0 a1)))) σ ((0 ≤ f_X7_isNamedBefore σ a0 a1 ∧ f_X7_isNamedBefore σ a0 a1 ≤ 1)) := by
  refine CM.of (cc := cX7_isNamedBefore) (maxL := 3) (ret := (some .boolean)) (by decide) rfl (Nat.le_of_ble_eq_true rfl) ?_
  intro p e s m args below meth c₀ ls X hI hl
  have hl : lv_has ls 3 [(0, .ref (ad 3)), (1, .int (iI a0)), (2, .int (iI a1))] := hl
  obtain ⟨hx, hb, hr, hml, hown, hts, hlocks, hK, hN⟩ := id X
  have hF := hI.2.2.2
  refine lv_aload_n hx hb dX7_isNamedBefore_0 rfl (lv_at hl 0 rfl) ?_
  refine g_get (C := RX7) (T := TX7) (N := 6) (ci := 6) (v := .ref (ad 4)) hx hb hts in_X7_isNamedBefore_X7 hown hK hI 3 (by decide) (cel_3 cy ad _) rfl 0 (by decide) (by decide +kernel) rfl dX7_isNamedBefore_1 ?_
  refine lv_iload_n hx hb dX7_isNamedBefore_4 rfl (lv_at hl 1 rfl) ?_
  refine g_aaldP (f := fun i => 59 + 2 * i) hx hb hK hI 4 (by decide) (cel_4 cy ad) (by omega) (by decide) dX7_isNamedBefore_5 ?_
  have hr_1 : isPl (59 + 2 * a0.toNat) := by omega
  refine lv_aload_n hx hb dX7_isNamedBefore_6 rfl (lv_at hl 0 rfl) ?_
  refine g_get (C := RX7) (T := TX7) (N := 6) (ci := 6) (v := .ref (ad 4)) hx hb hts in_X7_isNamedBefore_X7 hown hK hI 3 (by decide) (cel_3 cy ad _) rfl 0 (by decide) (by decide +kernel) rfl dX7_isNamedBefore_7 ?_
  refine lv_iload_n hx hb dX7_isNamedBefore_10 rfl (lv_at hl 2 rfl) ?_
  refine g_aaldP (f := fun i => 59 + 2 * i) hx hb hK hI 4 (by decide) (cel_4 cy ad) (by omega) (by decide) dX7_isNamedBefore_11 ?_
  have hr_2 : isPl (59 + 2 * a1.toNat) := by omega
  refine g_V (As := [.ref (ad (59 + 2 * a1.toNat))]) (rest := []) (59 + 2 * a0.toNat) (c_X2_isNamedBefore l D cy ad σ (59 + 2 * a0.toNat) hr_1 (59 + 2 * a1.toNat) hr_2) hx hb hml hown hts hK hN hI hl.1 gX7_isNamedBefore_X2_isNamedBefore rfl hd_X2_isNamedBefore rfl rfl ⟨Nat.le_of_ble_eq_true rfl, Nat.le_of_ble_eq_true rfl⟩ ⟨Nat.zero_le _, Nat.zero_le _⟩ (by have q := hr_1; omega) (cel_Pl cy ad hr_1 _) rfl rfl rfl rfl (Nat.le_of_ble_eq_true rfl) dX7_isNamedBefore_12 (fun H locs hG_3 hI => ?_)
  have e9 : f_X7_isNamedBefore σ a0 a1 = f_X2_isNamedBefore σ (59 + 2 * a0.toNat) (59 + 2 * a1.toNat) := by rw [f_X7_isNamedBefore]
  exact g_zret (z := f_X2_isNamedBefore σ (59 + 2 * a0.toNat) (59 + 2 * a1.toNat)) hx hb hr hK hN hlocks hI e9.symm rfl (by rw [e9] <;> first | (omega) | (dsimp only; omega)) (by omega) dX7_isNamedBefore_15
theorem in_X7_list_X2 : ∀ w ∈ u_ws RX2 TX2 3, w ∈ wsX7_list := by decide +kernel
theorem in_X7_list_X7 : ∀ w ∈ u_ws RX7 TX7 6, w ∈ wsX7_list := by decide +kernel
def L_X7_list_44 (a0 : Int) (a1 : Int) : Nat → Int → Int → Int → Int → Sg → Int × Sg
  | 0, x3, x4, x5, x6, σ => (x5, σ)
  | n + 1, x3, x4, x5, x6, σ => (if a1 = 0 then (x5, σ) else (if x6 ≤ 0 then (x5, σ) else (if (f_X7_isNamedBefore σ x4 (σ 6 ((x6 - 1).toNat))) = 0 then (x5, σ) else L_X7_list_44 a0 a1 n x3 x4 (x6 - 1) (x6 + (-1)) (up2 σ 6 x6.toNat (σ 6 ((x6 - 1).toNat))))))
set_option maxHeartbeats 4000000 in
set_option maxRecDepth 100000 in
theorem w_L_X7_list_44 {p : Program} {l : Launch} {e : Env} {s : State} {m : MethodId} {args : Array Value} {below : List Frame} {meth : Method} {c₀ : Code} {D : va_G} {cy : Nat → ClassId} {ad : Nat → Nat} {Q : State → Prop} (X : MX p s m args meth c₀ cX7_list 7 RX7 (some .int) wsX7_list D cy) (a0 : Int) (ha0 : (-2147483648 ≤ a0 ∧ a0 < 2147483648)) (a1 : Int) (ha1 : (0 : Int) ≤ a1 ∧ a1 ≤ 1) : ∀ (n : Nat) (x3 : Int) (x4 : Int) (x5 : Int) (x6 : Int) (σ : Sg) (hx3 : (0 : Int) ≤ x3 ∧ x3 ≤ 39) (hx4 : (0 : Int) ≤ x4 ∧ x4 ≤ 39) (hx5 : (0 : Int) ≤ x5 ∧ x5 ≤ 39) (hx6 : (0 : Int) ≤ x6 ∧ x6 ≤ 39) (hmu : x6 < (n : Int)) (H : Heap) (locs : List Loc) (ls : Array Slot) (hI : HI D cy ad s σ H locs) (hl : lv_has ls 7 [(0, .ref (ad 3)), (1, .int (iI a0)), (2, .int (iI a1)), (3, .int (iI x3)), (4, .int (iI x4)), (5, .int (iI x5)), (6, .int (iI x6))])  (hk : ∀ (H1 : Heap) (locs1 : List Loc) (ls1 : Array Slot), (0 ≤ (L_X7_list_44 a0 a1 n x3 x4 x5 x6 σ).1 ∧ (L_X7_list_44 a0 a1 n x3 x4 x5 x6 σ).1 ≤ 39) → HI D cy ad s (L_X7_list_44 a0 a1 n x3 x4 x5 x6 σ).2 H1 locs1 → lv_has ls1 7 [(0, .ref (ad 3)), (1, .int (iI a0)), (2, .int (iI a1)), (3, .int (iI x3)), (4, .int (iI x4)), (5, .int (iI ((L_X7_list_44 a0 a1 n x3 x4 x5 x6 σ).1)))] → W p l e { frames := 3, cells := 0, slots := 0, locals := 120 } s m args below meth c₀ H1 locs1 0 0 Q (F0 m 99 ls1 [])), W p l e { frames := 3, cells := 0, slots := 0, locals := 120 } s m args below meth c₀ H locs 0 0 Q (F0 m 44 ls []) := by
  obtain ⟨hx, hb, hr, hml, hown, hts, hlocks, hK, hN⟩ := id X
  intro n
  induction n with
  | zero =>
    intro x3 x4 x5 x6 σ hx3 hx4 hx5 hx6 hmu H locs ls hI hl hk
    exfalso
    have hF := hI.2.2.2
    omega
  | succ n ih =>
    intro x3 x4 x5 x6 σ hx3 hx4 hx5 hx6 hmu H locs ls hI hl hk
    have hF := hI.2.2.2
    refine lv_iload_n hx hb dX7_list_44 rfl (lv_at hl 2 rfl) ?_
    refine g_if_eq (tgt := 99) hx hb dX7_list_45 (by decide) (by omega) (fun c_8 => ?_) (fun c_8 => ?_)
    · skip
      have e9 : L_X7_list_44 a0 a1 (n + 1) x3 x4 x5 x6 σ = (x5, σ) := by rw [L_X7_list_44, if_pos c_8]
      rw [e9] at hk
      exact hk _ _ _ (by first | (omega) | (dsimp only; omega)) hI (lv_sub hl [0, 1, 2, 3, 4, 5] rfl)
    · skip
      refine lv_iload hx hb dX7_list_48 (lv_at hl 6 rfl) ?_
      refine g_if_le (tgt := 99) hx hb dX7_list_50 (by decide) (by omega) (fun c_9 => ?_) (fun c_9 => ?_)
      · skip
        have e9 : L_X7_list_44 a0 a1 (n + 1) x3 x4 x5 x6 σ = (x5, σ) := by rw [L_X7_list_44, if_neg c_8, if_pos c_9]
        rw [e9] at hk
        exact hk _ _ _ (by first | (omega) | (dsimp only; omega)) hI (lv_sub hl [0, 1, 2, 3, 4, 5] rfl)
      · skip
        refine lv_aload_n hx hb dX7_list_53 rfl (lv_at hl 0 rfl) ?_
        refine lv_iload hx hb dX7_list_54 (lv_at hl 4 rfl) ?_
        refine lv_aload_n hx hb dX7_list_56 rfl (lv_at hl 0 rfl) ?_
        refine g_get (C := RX7) (T := TX7) (N := 6) (ci := 6) (v := .ref (ad 6)) hx hb hts in_X7_list_X7 hown hK hI 3 (by decide) (cel_3 cy ad _) rfl 2 (by decide) (by decide +kernel) rfl dX7_list_57 ?_
        refine lv_iload hx hb dX7_list_60 (lv_at hl 6 rfl) ?_
        refine lv_iconst (v := iI 1) hx hb dX7_list_62 rfl ?_
        refine g_isub hx hb dX7_list_63 ?_
        refine g_iald (v := σ 6 ((x6 - 1).toNat)) hx hb hK hI 6 (by decide) (cel_6 cy ad) (by omega) (by decide) rfl dX7_list_64 ?_
        have b_10 := bd_6 hF ((x6 - 1).toNat)
        refine g_V (As := [.int (iI x4), .int (iI (σ 6 ((x6 - 1).toNat)))]) (rest := []) 3 (c_X7_isNamedBefore l D cy ad σ x4 (by omega) (σ 6 ((x6 - 1).toNat)) (by omega)) hx hb hml hown hts hK hN hI hl.1 gX7_list_X7_isNamedBefore rfl hd_X7_isNamedBefore rfl rfl ⟨Nat.le_of_ble_eq_true rfl, Nat.le_of_ble_eq_true rfl⟩ ⟨Nat.zero_le _, Nat.zero_le _⟩ (by decide) (cel_3 cy ad _) rfl rfl rfl rfl (Nat.le_of_ble_eq_true rfl) dX7_list_65 (fun H locs hG_11 hI => ?_)
        refine g_if_eq (tgt := 99) hx hb dX7_list_68 (by decide) (by omega) (fun c_12 => ?_) (fun c_12 => ?_)
        · skip
          have e9 : L_X7_list_44 a0 a1 (n + 1) x3 x4 x5 x6 σ = (x5, σ) := by rw [L_X7_list_44, if_neg c_8, if_neg c_9, if_pos c_12]
          rw [e9] at hk
          exact hk _ _ _ (by first | (omega) | (dsimp only; omega)) hI (lv_sub hl [0, 1, 2, 3, 4, 5] rfl)
        · skip
          refine lv_aload_n hx hb dX7_list_71 rfl (lv_at hl 0 rfl) ?_
          refine g_get (C := RX7) (T := TX7) (N := 6) (ci := 6) (v := .ref (ad 6)) hx hb hts in_X7_list_X7 hown hK hI 3 (by decide) (cel_3 cy ad _) rfl 2 (by decide) (by decide +kernel) rfl dX7_list_72 ?_
          refine lv_iload hx hb dX7_list_75 (lv_at hl 6 rfl) ?_
          refine lv_aload_n hx hb dX7_list_77 rfl (lv_at hl 0 rfl) ?_
          refine g_get (C := RX7) (T := TX7) (N := 6) (ci := 6) (v := .ref (ad 6)) hx hb hts in_X7_list_X7 hown hK hI 3 (by decide) (cel_3 cy ad _) rfl 2 (by decide) (by decide +kernel) rfl dX7_list_78 ?_
          refine lv_iload hx hb dX7_list_81 (lv_at hl 6 rfl) ?_
          refine lv_iconst (v := iI 1) hx hb dX7_list_83 rfl ?_
          refine g_isub hx hb dX7_list_84 ?_
          refine g_iald (v := σ 6 ((x6 - 1).toNat)) hx hb hK hI 6 (by decide) (cel_6 cy ad) (by omega) (by decide) rfl dX7_list_85 ?_
          have b_13 := bd_6 hF ((x6 - 1).toNat)
          refine g_iast hx hb hK hI 6 (by decide) (cel_6 cy ad) (by omega) (by decide) (bw_6 (by omega)) dX7_list_86 (fun H locs hI => ?_)
          have hF_14 : WF (up2 σ 6 x6.toNat (σ 6 ((x6 - 1).toNat))) := hI.2.2.2
          refine lv_iload hx hb dX7_list_87 (lv_at hl 6 rfl) ?_
          refine lv_iconst (v := iI 1) hx hb dX7_list_89 rfl ?_
          refine g_isub hx hb dX7_list_90 ?_
          refine lv_istore (lv' := [(5, .int (iI (x6 - 1))), (0, .ref (ad 3)), (1, .int (iI a0)), (2, .int (iI a1)), (3, .int (iI x3)), (4, .int (iI x4)), (6, .int (iI x6))]) hx hb dX7_list_91 hl (by decide) rfl (fun ls hl => ?_)
          refine lv_iinc (v := iI (x6 + (-1))) (lv' := [(6, .int (iI (x6 + (-1)))), (5, .int (iI (x6 - 1))), (0, .ref (ad 3)), (1, .int (iI a0)), (2, .int (iI a1)), (3, .int (iI x3)), (4, .int (iI x4))]) hx hb dX7_list_93 hl (k := 6) rfl (iI_add _ _) (by decide) rfl (fun ls hl => ?_)
          refine lv_goto (tgt := 44) hx hb dX7_list_96 (by decide) ?_
          have e9 : L_X7_list_44 a0 a1 (n + 1) x3 x4 x5 x6 σ = L_X7_list_44 a0 a1 n x3 x4 (x6 - 1) (x6 + (-1)) (up2 σ 6 x6.toNat (σ 6 ((x6 - 1).toNat))) := by rw [L_X7_list_44, if_neg c_8, if_neg c_9, if_neg c_12]
          rw [e9] at hk
          exact ih x3 x4 (x6 - 1) (x6 + (-1)) (up2 σ 6 x6.toNat (σ 6 ((x6 - 1).toNat))) (by omega) (by omega) (by omega) (by omega) (by omega) _ _ _ hI (lv_sub hl [2, 3, 4, 5, 6, 1, 0] rfl) hk
def L_X7_list_5 (a0 : Int) (a1 : Int) : Nat → Int → Int → Sg → Int × Sg
  | 0, x3, x4, σ => (x3, σ)
  | n + 1, x3, x4, σ => (if (σ 3 3) ≤ x4 then (x3, σ) else (if (σ 5 x4.toNat) = 0 then L_X7_list_5 a0 a1 n x3 (x4 + 1) σ else (if (σ (59 + 2 * x4.toNat) 1) = a0 then L_X7_list_5 a0 a1 n (x3 + 1) (x4 + 1) (up2 (L_X7_list_44 a0 a1 41 x3 x4 x3 x3 σ).2 6 (((L_X7_list_44 a0 a1 41 x3 x4 x3 x3 σ).1).toNat) x4) else L_X7_list_5 a0 a1 n x3 (x4 + 1) σ)))
set_option maxHeartbeats 4000000 in
set_option maxRecDepth 100000 in
theorem w_L_X7_list_5 {p : Program} {l : Launch} {e : Env} {s : State} {m : MethodId} {args : Array Value} {below : List Frame} {meth : Method} {c₀ : Code} {D : va_G} {cy : Nat → ClassId} {ad : Nat → Nat} {Q : State → Prop} (X : MX p s m args meth c₀ cX7_list 7 RX7 (some .int) wsX7_list D cy) (a0 : Int) (ha0 : (-2147483648 ≤ a0 ∧ a0 < 2147483648)) (a1 : Int) (ha1 : (0 : Int) ≤ a1 ∧ a1 ≤ 1) : ∀ (n : Nat) (x3 : Int) (x4 : Int) (σ : Sg) (hx3 : (0 : Int) ≤ x3 ∧ x3 ≤ 40) (hx4 : (0 : Int) ≤ x4 ∧ x4 ≤ 40) (hp0 : x3 ≤ x4) (hmu : 40 - x4 < (n : Int)) (H : Heap) (locs : List Loc) (ls : Array Slot) (hI : HI D cy ad s σ H locs) (hl : lv_has ls 7 [(0, .ref (ad 3)), (1, .int (iI a0)), (2, .int (iI a1)), (3, .int (iI x3)), (4, .int (iI x4))])  (hk : ∀ (H1 : Heap) (locs1 : List Loc) (ls1 : Array Slot), (0 ≤ (L_X7_list_5 a0 a1 n x3 x4 σ).1 ∧ (L_X7_list_5 a0 a1 n x3 x4 σ).1 ≤ 40) → HI D cy ad s (L_X7_list_5 a0 a1 n x3 x4 σ).2 H1 locs1 → lv_has ls1 7 [(3, .int (iI ((L_X7_list_5 a0 a1 n x3 x4 σ).1)))] → W p l e { frames := 3, cells := 0, slots := 0, locals := 120 } s m args below meth c₀ H1 locs1 0 0 Q (F0 m 117 ls1 [])), W p l e { frames := 3, cells := 0, slots := 0, locals := 120 } s m args below meth c₀ H locs 0 0 Q (F0 m 5 ls []) := by
  obtain ⟨hx, hb, hr, hml, hown, hts, hlocks, hK, hN⟩ := id X
  intro n
  induction n with
  | zero =>
    intro x3 x4 σ hx3 hx4 hp0 hmu H locs ls hI hl hk
    exfalso
    have hF := hI.2.2.2
    omega
  | succ n ih =>
    intro x3 x4 σ hx3 hx4 hp0 hmu H locs ls hI hl hk
    have hF := hI.2.2.2
    refine lv_iload hx hb dX7_list_5 (lv_at hl 4 rfl) ?_
    refine lv_aload_n hx hb dX7_list_7 rfl (lv_at hl 0 rfl) ?_
    refine g_get (C := RX7) (T := TX7) (N := 6) (ci := 6) (v := .int (iI (σ 3 3))) hx hb hts in_X7_list_X7 hown hK hI 3 (by decide) (cel_3 cy ad _) rfl 3 (by decide) (by decide +kernel) rfl dX7_list_8 ?_
    have b_1 := bd_3_3 hF
    refine g_icmp_ge (tgt := 117) hx hb dX7_list_11 (by decide) (by omega) (by omega) (fun c_2 => ?_) (fun c_2 => ?_)
    · skip
      have e9 : L_X7_list_5 a0 a1 (n + 1) x3 x4 σ = (x3, σ) := by rw [L_X7_list_5, if_pos c_2]
      rw [e9] at hk
      exact hk _ _ _ (by first | (omega) | (dsimp only; omega)) hI (lv_sub hl [3] rfl)
    · skip
      refine lv_aload_n hx hb dX7_list_14 rfl (lv_at hl 0 rfl) ?_
      refine g_get (C := RX7) (T := TX7) (N := 6) (ci := 6) (v := .ref (ad 5)) hx hb hts in_X7_list_X7 hown hK hI 3 (by decide) (cel_3 cy ad _) rfl 1 (by decide) (by decide +kernel) rfl dX7_list_15 ?_
      refine lv_iload hx hb dX7_list_18 (lv_at hl 4 rfl) ?_
      refine g_zald (v := σ 5 x4.toNat) hx hb hK hI 5 (by decide) (cel_5 cy ad) (by omega) (by decide) rfl dX7_list_20 ?_
      have b_3 := bd_5 hF x4.toNat
      refine g_if_eq (tgt := 111) hx hb dX7_list_21 (by decide) (by omega) (fun c_4 => ?_) (fun c_4 => ?_)
      · skip
        refine lv_iinc (v := iI (x4 + 1)) (lv' := [(4, .int (iI (x4 + 1))), (0, .ref (ad 3)), (1, .int (iI a0)), (2, .int (iI a1)), (3, .int (iI x3))]) hx hb dX7_list_111 hl (k := 4) rfl (iI_add _ _) (by decide) rfl (fun ls hl => ?_)
        refine lv_goto (tgt := 5) hx hb dX7_list_114 (by decide) ?_
        have e9 : L_X7_list_5 a0 a1 (n + 1) x3 x4 σ = L_X7_list_5 a0 a1 n x3 (x4 + 1) σ := by rw [L_X7_list_5, if_neg c_2, if_pos c_4]
        rw [e9] at hk
        exact ih x3 (x4 + 1) σ (by omega) (by omega) (by omega) (by omega) _ _ _ hI (lv_sub hl [1, 2, 3, 4, 0] rfl) hk
      · skip
        refine lv_aload_n hx hb dX7_list_24 rfl (lv_at hl 0 rfl) ?_
        refine g_get (C := RX7) (T := TX7) (N := 6) (ci := 6) (v := .ref (ad 4)) hx hb hts in_X7_list_X7 hown hK hI 3 (by decide) (cel_3 cy ad _) rfl 0 (by decide) (by decide +kernel) rfl dX7_list_25 ?_
        refine lv_iload hx hb dX7_list_28 (lv_at hl 4 rfl) ?_
        refine g_aaldP (f := fun i => 59 + 2 * i) hx hb hK hI 4 (by decide) (cel_4 cy ad) (by omega) (by decide) dX7_list_30 ?_
        have hr_5 : isPl (59 + 2 * x4.toNat) := by omega
        refine g_getN (C := RX2) (T := TX2) (N := 3) (ci := 2) (v := .int (iI (σ (59 + 2 * x4.toNat) 1))) hx hb hts in_X7_list_X2 hown hK hN hI (59 + 2 * x4.toNat) (by have q := hr_5; omega) (cel_Pl cy ad hr_5 _) rfl 1 (by decide) (by decide +kernel) rfl dX7_list_31 ?_
        have b_6 := bd_Pl_1 hF hr_5
        refine lv_iload_n hx hb dX7_list_34 rfl (lv_at hl 1 rfl) ?_
        refine g_icmp_ne (tgt := 111) hx hb dX7_list_35 (by decide) (by omega) (by omega) (fun c_7 => ?_) (fun c_7 => ?_)
        · skip
          refine lv_iinc (v := iI (x4 + 1)) (lv' := [(4, .int (iI (x4 + 1))), (0, .ref (ad 3)), (1, .int (iI a0)), (2, .int (iI a1)), (3, .int (iI x3))]) hx hb dX7_list_111 hl (k := 4) rfl (iI_add _ _) (by decide) rfl (fun ls hl => ?_)
          refine lv_goto (tgt := 5) hx hb dX7_list_114 (by decide) ?_
          have e9 : L_X7_list_5 a0 a1 (n + 1) x3 x4 σ = L_X7_list_5 a0 a1 n x3 (x4 + 1) σ := by rw [L_X7_list_5, if_neg c_2, if_neg c_4, if_neg c_7]
          rw [e9] at hk
          exact ih x3 (x4 + 1) σ (by omega) (by omega) (by omega) (by omega) _ _ _ hI (lv_sub hl [1, 2, 3, 4, 0] rfl) hk
        · skip
          refine lv_iload_n hx hb dX7_list_38 rfl (lv_at hl 3 rfl) ?_
          refine lv_istore (lv' := [(5, .int (iI x3)), (0, .ref (ad 3)), (1, .int (iI a0)), (2, .int (iI a1)), (3, .int (iI x3)), (4, .int (iI x4))]) hx hb dX7_list_39 hl (by decide) rfl (fun ls hl => ?_)
          refine lv_iload_n hx hb dX7_list_41 rfl (lv_at hl 4 rfl) ?_
          refine lv_istore (lv' := [(6, .int (iI x3)), (5, .int (iI x3)), (0, .ref (ad 3)), (1, .int (iI a0)), (2, .int (iI a1)), (3, .int (iI x3)), (4, .int (iI x4))]) hx hb dX7_list_42 hl (by decide) rfl (fun ls hl => ?_)
          refine w_L_X7_list_44 X  a0 ha0 a1 ha1  41 x3 x4 x3 x3 σ (by omega) (by omega) (by omega) (by omega) (by omega) _ _ _ hI (lv_sub hl [2, 3, 4, 5, 6, 1, 0] rfl) (fun H locs ls hpo_16 hI hl => ?_)
          have hF_15 := hI.2.2.2
          refine lv_aload_n hx hb dX7_list_99 rfl (lv_at hl 0 rfl) ?_
          refine g_get (C := RX7) (T := TX7) (N := 6) (ci := 6) (v := .ref (ad 6)) hx hb hts in_X7_list_X7 hown hK hI 3 (by decide) (cel_3 cy ad _) rfl 2 (by decide) (by decide +kernel) rfl dX7_list_100 ?_
          refine lv_iload hx hb dX7_list_103 (lv_at hl 5 rfl) ?_
          refine lv_iload hx hb dX7_list_105 (lv_at hl 4 rfl) ?_
          refine g_iast hx hb hK hI 6 (by decide) (cel_6 cy ad) (by omega) (by decide) (bw_6 (by omega)) dX7_list_107 (fun H locs hI => ?_)
          have hF_17 : WF (up2 (L_X7_list_44 a0 a1 41 x3 x4 x3 x3 σ).2 6 (((L_X7_list_44 a0 a1 41 x3 x4 x3 x3 σ).1).toNat) x4) := hI.2.2.2
          refine lv_iinc (v := iI (x3 + 1)) (lv' := [(3, .int (iI (x3 + 1))), (0, .ref (ad 3)), (1, .int (iI a0)), (2, .int (iI a1)), (4, .int (iI x4)), (5, .int (iI ((L_X7_list_44 a0 a1 41 x3 x4 x3 x3 σ).1)))]) hx hb dX7_list_108 hl (k := 3) rfl (iI_add _ _) (by decide) rfl (fun ls hl => ?_)
          refine lv_iinc (v := iI (x4 + 1)) (lv' := [(4, .int (iI (x4 + 1))), (3, .int (iI (x3 + 1))), (0, .ref (ad 3)), (1, .int (iI a0)), (2, .int (iI a1)), (5, .int (iI ((L_X7_list_44 a0 a1 41 x3 x4 x3 x3 σ).1)))]) hx hb dX7_list_111 hl (k := 4) rfl (iI_add _ _) (by decide) rfl (fun ls hl => ?_)
          refine lv_goto (tgt := 5) hx hb dX7_list_114 (by decide) ?_
          have e9 : L_X7_list_5 a0 a1 (n + 1) x3 x4 σ = L_X7_list_5 a0 a1 n (x3 + 1) (x4 + 1) (up2 (L_X7_list_44 a0 a1 41 x3 x4 x3 x3 σ).2 6 (((L_X7_list_44 a0 a1 41 x3 x4 x3 x3 σ).1).toNat) x4) := by rw [L_X7_list_5, if_neg c_2, if_neg c_4, if_pos c_7]
          rw [e9] at hk
          exact ih (x3 + 1) (x4 + 1) (up2 (L_X7_list_44 a0 a1 41 x3 x4 x3 x3 σ).2 6 (((L_X7_list_44 a0 a1 41 x3 x4 x3 x3 σ).1).toNat) x4) (by omega) (by omega) (by omega) (by omega) _ _ _ hI (lv_sub hl [2, 3, 4, 1, 0] rfl) hk
def f_X7_list (σ : Sg) (a0 : Int) (a1 : Int) : Int × Sg := ((L_X7_list_5 a0 a1 41 0 0 σ).1, (L_X7_list_5 a0 a1 41 0 0 σ).2)
theorem hd_X7_list : yX7_list.cls = RX7 ∧ yX7_list.cls ≠ "java/lang/invoke/MethodHandle" ∧ yX7_list.cls ≠ "java/lang/invoke/VarHandle" ∧ (parseMethodDescriptor yX7_list.desc).map (fun d => d.parameters.length) = some 2 := by decide +kernel
set_option maxHeartbeats 4000000 in
set_option maxRecDepth 100000 in
theorem c_X7_list (l : Launch) (D : va_G) (cy : Nat → ClassId) (ad : Nat → Nat) (σ : Sg) (a0 : Int) (ha0 : (-2147483648 ≤ a0 ∧ a0 < 2147483648)) (a1 : Int) (ha1 : (0 : Int) ≤ a1 ∧ a1 ≤ 1) : CM l D cy ad yX7_list wsX7_list { frames := 3, cells := 0, slots := 0, locals := 120 } [.ref (ad 3), .int (iI a0), .int (iI a1)] σ (some (.int (iI ((f_X7_list σ a0 a1).1)))) ((f_X7_list σ a0 a1).2) (0 ≤ ((f_X7_list σ a0 a1).1) ∧ ((f_X7_list σ a0 a1).1) ≤ 40) := by
  refine CM.of (cc := cX7_list) (maxL := 7) (ret := (some .int)) (by decide) rfl (Nat.le_of_ble_eq_true rfl) ?_
  intro p e s m args below meth c₀ ls X hI hl
  have hl : lv_has ls 7 [(0, .ref (ad 3)), (1, .int (iI a0)), (2, .int (iI a1))] := hl
  obtain ⟨hx, hb, hr, hml, hown, hts, hlocks, hK, hN⟩ := id X
  have hF := hI.2.2.2
  refine lv_iconst (v := iI 0) hx hb dX7_list_0 rfl ?_
  refine lv_istore_n (lv' := [(3, .int (iI 0)), (0, .ref (ad 3)), (1, .int (iI a0)), (2, .int (iI a1))]) hx hb dX7_list_1 rfl hl (by decide) rfl (fun ls hl => ?_)
  refine lv_iconst (v := iI 0) hx hb dX7_list_2 rfl ?_
  refine lv_istore (lv' := [(4, .int (iI 0)), (3, .int (iI 0)), (0, .ref (ad 3)), (1, .int (iI a0)), (2, .int (iI a1))]) hx hb dX7_list_3 hl (by decide) rfl (fun ls hl => ?_)
  refine w_L_X7_list_5 X  a0 ha0 a1 ha1  41 0 0 σ (by omega) (by omega) (by omega) (by omega) _ _ _ hI (lv_sub hl [2, 3, 4, 1, 0] rfl) (fun H locs ls hpo_19 hI hl => ?_)
  have hF_18 := hI.2.2.2
  refine lv_iload_n hx hb dX7_list_117 rfl (lv_at hl 0 rfl) ?_
  have e9 : f_X7_list σ a0 a1 = ((L_X7_list_5 a0 a1 41 0 0 σ).1, (L_X7_list_5 a0 a1 41 0 0 σ).2) := by rw [f_X7_list]
  exact g_iret (z := (L_X7_list_5 a0 a1 41 0 0 σ).1) hx hb hr hK hN hlocks hI (by rw [e9]) (by rw [e9]) (by rw [e9] <;> first | (omega) | (dsimp only; omega)) dX7_list_118
theorem in_X7_listed_X7 : ∀ w ∈ u_ws RX7 TX7 6, w ∈ wsX7_listed := by decide +kernel
def f_X7_listed (σ : Sg) (a0 : Int) : Int := (if a0 < 0 then (-1) else (if 40 ≤ a0 then (-1) else σ 6 a0.toNat))
theorem hd_X7_listed : yX7_listed.cls = RX7 ∧ yX7_listed.cls ≠ "java/lang/invoke/MethodHandle" ∧ yX7_listed.cls ≠ "java/lang/invoke/VarHandle" ∧ (parseMethodDescriptor yX7_listed.desc).map (fun d => d.parameters.length) = some 1 := by decide +kernel
set_option maxHeartbeats 4000000 in
set_option maxRecDepth 100000 in
theorem c_X7_listed (l : Launch) (D : va_G) (cy : Nat → ClassId) (ad : Nat → Nat) (σ : Sg) (a0 : Int) (ha0 : (-2147483648 ≤ a0 ∧ a0 < 2147483648)) : CM l D cy ad yX7_listed wsX7_listed { frames := 0, cells := 0, slots := 0, locals := 0 } [.ref (ad 3), .int (iI a0)] σ (some (.int (iI (f_X7_listed σ a0)))) σ (-1 ≤ (f_X7_listed σ a0) ∧ (f_X7_listed σ a0) ≤ 39) := by
  refine CM.of (cc := cX7_listed) (maxL := 2) (ret := (some .int)) (by decide) rfl (Nat.le_of_ble_eq_true rfl) ?_
  intro p e s m args below meth c₀ ls X hI hl
  have hl : lv_has ls 2 [(0, .ref (ad 3)), (1, .int (iI a0))] := hl
  obtain ⟨hx, hb, hr, hml, hown, hts, hlocks, hK, hN⟩ := id X
  have hF := hI.2.2.2
  refine lv_iload_n hx hb dX7_listed_0 rfl (lv_at hl 1 rfl) ?_
  refine g_if_lt (tgt := 22) hx hb dX7_listed_1 (by decide) (by omega) (fun c_1 => ?_) (fun c_1 => ?_)
  · skip
    refine lv_iconst (v := iI (-1)) hx hb dX7_listed_22 rfl ?_
    have e9 : f_X7_listed σ a0 = (-1) := by rw [f_X7_listed, if_pos c_1]
    exact g_iret (z := (-1)) hx hb hr hK hN hlocks hI e9.symm rfl (by rw [e9] <;> first | (omega) | (dsimp only; omega)) dX7_listed_23
  · skip
    refine lv_iload_n hx hb dX7_listed_4 rfl (lv_at hl 1 rfl) ?_
    refine lv_aload_n hx hb dX7_listed_5 rfl (lv_at hl 0 rfl) ?_
    refine g_get (C := RX7) (T := TX7) (N := 6) (ci := 6) (v := .ref (ad 6)) hx hb hts in_X7_listed_X7 hown hK hI 3 (by decide) (cel_3 cy ad _) rfl 2 (by decide) (by decide +kernel) rfl dX7_listed_6 ?_
    refine g_alen (z := 40) hx hb hK hI 6 0 (by decide) (cel_6 cy ad _) rfl rfl dX7_listed_9 ?_
    refine g_icmp_ge (tgt := 22) hx hb dX7_listed_10 (by decide) (by omega) (by omega) (fun c_2 => ?_) (fun c_2 => ?_)
    · skip
      refine lv_iconst (v := iI (-1)) hx hb dX7_listed_22 rfl ?_
      have e9 : f_X7_listed σ a0 = (-1) := by rw [f_X7_listed, if_neg c_1, if_pos c_2]
      exact g_iret (z := (-1)) hx hb hr hK hN hlocks hI e9.symm rfl (by rw [e9] <;> first | (omega) | (dsimp only; omega)) dX7_listed_23
    · skip
      refine lv_aload_n hx hb dX7_listed_13 rfl (lv_at hl 0 rfl) ?_
      refine g_get (C := RX7) (T := TX7) (N := 6) (ci := 6) (v := .ref (ad 6)) hx hb hts in_X7_listed_X7 hown hK hI 3 (by decide) (cel_3 cy ad _) rfl 2 (by decide) (by decide +kernel) rfl dX7_listed_14 ?_
      refine lv_iload_n hx hb dX7_listed_17 rfl (lv_at hl 1 rfl) ?_
      refine g_iald (v := σ 6 a0.toNat) hx hb hK hI 6 (by decide) (cel_6 cy ad) (by omega) (by decide) rfl dX7_listed_18 ?_
      have b_3 := bd_6 hF a0.toNat
      refine lv_goto (tgt := 23) hx hb dX7_listed_19 (by decide) ?_
      have e9 : f_X7_listed σ a0 = σ 6 a0.toNat := by rw [f_X7_listed, if_neg c_1, if_neg c_2]
      exact g_iret (z := σ 6 a0.toNat) hx hb hr hK hN hlocks hI e9.symm rfl (by rw [e9] <;> first | (omega) | (dsimp only; omega)) dX7_listed_23
