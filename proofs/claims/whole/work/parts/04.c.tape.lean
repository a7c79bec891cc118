theorem in_X8_length_X8 : ∀ w ∈ u_ws RX8 TX8 2, w ∈ wsX8_length := by decide +kernel
def f_X8_length (σ : Sg) : Int := σ 1 1
theorem hd_X8_length : yX8_length.cls = RX8 ∧ yX8_length.cls ≠ "java/lang/invoke/MethodHandle" ∧ yX8_length.cls ≠ "java/lang/invoke/VarHandle" ∧ (parseMethodDescriptor yX8_length.desc).map (fun d => d.parameters.length) = some 0 := by decide +kernel
set_option maxHeartbeats 4000000 in
set_option maxRecDepth 100000 in
theorem c_X8_length (l : Launch) (D : va_G) (cy : Nat → ClassId) (ad : Nat → Nat) (σ : Sg) : CM l D cy ad yX8_length wsX8_length { frames := 0, cells := 0, slots := 0, locals := 0 } [.ref (ad 1)] σ (some (.int (iI (f_X8_length σ)))) σ (0 ≤ (f_X8_length σ) ∧ (f_X8_length σ) ≤ 80) := by
  refine CM.of (cc := cX8_length) (maxL := 1) (ret := (some .int)) (by decide) rfl (Nat.le_of_ble_eq_true rfl) ?_
  intro p e s m args below meth c₀ ls X hI hl
  have hl : lv_has ls 1 [(0, .ref (ad 1))] := hl
  obtain ⟨hx, hb, hr, hml, hown, hts, hlocks, hK, hN⟩ := id X
  have hF := hI.2.2.2
  refine lv_aload_n hx hb dX8_length_0 rfl (lv_at hl 0 rfl) ?_
  refine g_get (C := RX8) (T := TX8) (N := 2) (ci := 7) (v := .int (iI (σ 1 1))) hx hb hts in_X8_length_X8 hown hK hI 1 (by decide) (cel_1 cy ad _) rfl 1 (by decide) (by decide +kernel) rfl dX8_length_1 ?_
  have b_1 := bd_1_1 hF
  have e9 : f_X8_length σ = σ 1 1 := by rw [f_X8_length]
  exact g_iret (z := σ 1 1) hx hb hr hK hN hlocks hI e9.symm rfl (by rw [e9] <;> first | (omega) | (dsimp only; omega)) dX8_length_4
theorem in_X8_byteAt_X8 : ∀ w ∈ u_ws RX8 TX8 2, w ∈ wsX8_byteAt := by decide +kernel
def f_X8_byteAt (σ : Sg) (a0 : Int) : Int := (if a0 < 0 then (-1) else (if (σ 1 1) ≤ a0 then (-1) else (if 80 ≤ a0 then (-1) else σ 2 a0.toNat)))
theorem hd_X8_byteAt : yX8_byteAt.cls = RX8 ∧ yX8_byteAt.cls ≠ "java/lang/invoke/MethodHandle" ∧ yX8_byteAt.cls ≠ "java/lang/invoke/VarHandle" ∧ (parseMethodDescriptor yX8_byteAt.desc).map (fun d => d.parameters.length) = some 1 := by decide +kernel
set_option maxHeartbeats 4000000 in
set_option maxRecDepth 100000 in
theorem c_X8_byteAt (l : Launch) (D : va_G) (cy : Nat → ClassId) (ad : Nat → Nat) (σ : Sg) (a0 : Int) (ha0 : (-2147483648 ≤ a0 ∧ a0 < 2147483648)) : CM l D cy ad yX8_byteAt wsX8_byteAt { frames := 0, cells := 0, slots := 0, locals := 0 } [.ref (ad 1), .int (iI a0)] σ (some (.int (iI (f_X8_byteAt σ a0)))) σ (-1 ≤ (f_X8_byteAt σ a0) ∧ (f_X8_byteAt σ a0) ≤ 255) := by
  refine CM.of (cc := cX8_byteAt) (maxL := 2) (ret := (some .int)) (by decide) rfl (Nat.le_of_ble_eq_true rfl) ?_
  intro p e s m args below meth c₀ ls X hI hl
  have hl : lv_has ls 2 [(0, .ref (ad 1)), (1, .int (iI a0))] := hl
  obtain ⟨hx, hb, hr, hml, hown, hts, hlocks, hK, hN⟩ := id X
  have hF := hI.2.2.2
  refine lv_iload_n hx hb dX8_byteAt_0 rfl (lv_at hl 1 rfl) ?_
  refine g_if_lt (tgt := 30) hx hb dX8_byteAt_1 (by decide) (by omega) (fun c_1 => ?_) (fun c_1 => ?_)
  · skip
    refine lv_iconst (v := iI (-1)) hx hb dX8_byteAt_30 rfl ?_
    have e9 : f_X8_byteAt σ a0 = (-1) := by rw [f_X8_byteAt, if_pos c_1]
    exact g_iret (z := (-1)) hx hb hr hK hN hlocks hI e9.symm rfl (by rw [e9] <;> first | (omega) | (dsimp only; omega)) dX8_byteAt_31
  · skip
    refine lv_iload_n hx hb dX8_byteAt_4 rfl (lv_at hl 1 rfl) ?_
    refine lv_aload_n hx hb dX8_byteAt_5 rfl (lv_at hl 0 rfl) ?_
    refine g_get (C := RX8) (T := TX8) (N := 2) (ci := 7) (v := .int (iI (σ 1 1))) hx hb hts in_X8_byteAt_X8 hown hK hI 1 (by decide) (cel_1 cy ad _) rfl 1 (by decide) (by decide +kernel) rfl dX8_byteAt_6 ?_
    have b_2 := bd_1_1 hF
    refine g_icmp_ge (tgt := 30) hx hb dX8_byteAt_9 (by decide) (by omega) (by omega) (fun c_3 => ?_) (fun c_3 => ?_)
    · skip
      refine lv_iconst (v := iI (-1)) hx hb dX8_byteAt_30 rfl ?_
      have e9 : f_X8_byteAt σ a0 = (-1) := by rw [f_X8_byteAt, if_neg c_1, if_pos c_3]
      exact g_iret (z := (-1)) hx hb hr hK hN hlocks hI e9.symm rfl (by rw [e9] <;> first | (omega) | (dsimp only; omega)) dX8_byteAt_31
    · skip
      refine lv_iload_n hx hb dX8_byteAt_12 rfl (lv_at hl 1 rfl) ?_
      refine lv_aload_n hx hb dX8_byteAt_13 rfl (lv_at hl 0 rfl) ?_
      refine g_get (C := RX8) (T := TX8) (N := 2) (ci := 7) (v := .ref (ad 2)) hx hb hts in_X8_byteAt_X8 hown hK hI 1 (by decide) (cel_1 cy ad _) rfl 0 (by decide) (by decide +kernel) rfl dX8_byteAt_14 ?_
      refine g_alen (z := 80) hx hb hK hI 2 0 (by decide) (cel_2 cy ad _) rfl rfl dX8_byteAt_17 ?_
      refine g_icmp_ge (tgt := 30) hx hb dX8_byteAt_18 (by decide) (by omega) (by omega) (fun c_4 => ?_) (fun c_4 => ?_)
      · skip
        refine lv_iconst (v := iI (-1)) hx hb dX8_byteAt_30 rfl ?_
        have e9 : f_X8_byteAt σ a0 = (-1) := by rw [f_X8_byteAt, if_neg c_1, if_neg c_3, if_pos c_4]
        exact g_iret (z := (-1)) hx hb hr hK hN hlocks hI e9.symm rfl (by rw [e9] <;> first | (omega) | (dsimp only; omega)) dX8_byteAt_31
      · skip
        refine lv_aload_n hx hb dX8_byteAt_21 rfl (lv_at hl 0 rfl) ?_
        refine g_get (C := RX8) (T := TX8) (N := 2) (ci := 7) (v := .ref (ad 2)) hx hb hts in_X8_byteAt_X8 hown hK hI 1 (by decide) (cel_1 cy ad _) rfl 0 (by decide) (by decide +kernel) rfl dX8_byteAt_22 ?_
        refine lv_iload_n hx hb dX8_byteAt_25 rfl (lv_at hl 1 rfl) ?_
        refine g_iald (v := σ 2 a0.toNat) hx hb hK hI 2 (by decide) (cel_2 cy ad) (by omega) (by decide) rfl dX8_byteAt_26 ?_
        have b_5 := bd_2 hF a0.toNat
        refine lv_goto (tgt := 31) hx hb dX8_byteAt_27 (by decide) ?_
        have e9 : f_X8_byteAt σ a0 = σ 2 a0.toNat := by rw [f_X8_byteAt, if_neg c_1, if_neg c_3, if_neg c_4]
        exact g_iret (z := σ 2 a0.toNat) hx hb hr hK hN hlocks hI e9.symm rfl (by rw [e9] <;> first | (omega) | (dsimp only; omega)) dX8_byteAt_31
theorem in_X8_hasRoom_X8 : ∀ w ∈ u_ws RX8 TX8 2, w ∈ wsX8_hasRoom := by decide +kernel
def f_X8_hasRoom (σ : Sg) (a0 : Int) : Int := (if 80 < ((σ 1 1) + a0) then 0 else 1)
theorem hd_X8_hasRoom : yX8_hasRoom.cls = RX8 ∧ yX8_hasRoom.cls ≠ "java/lang/invoke/MethodHandle" ∧ yX8_hasRoom.cls ≠ "java/lang/invoke/VarHandle" ∧ (parseMethodDescriptor yX8_hasRoom.desc).map (fun d => d.parameters.length) = some 1 := by decide +kernel
set_option maxHeartbeats 4000000 in
set_option maxRecDepth 100000 in
theorem c_X8_hasRoom (l : Launch) (D : va_G) (cy : Nat → ClassId) (ad : Nat → Nat) (σ : Sg) (a0 : Int) (ha0 : (0 : Int) ≤ a0 ∧ a0 ≤ 100) : CM l D cy ad yX8_hasRoom wsX8_hasRoom { frames := 0, cells := 0, slots := 0, locals := 0 } [.ref (ad 1), .int (iI a0)] σ (some (.int (iI (f_X8_hasRoom σ a0)))) σ ((0 ≤ f_X8_hasRoom σ a0 ∧ f_X8_hasRoom σ a0 ≤ 1)) := by
  refine CM.of (cc := cX8_hasRoom) (maxL := 2) (ret := (some .boolean)) (by decide) rfl (Nat.le_of_ble_eq_true rfl) ?_
  intro p e s m args below meth c₀ ls X hI hl
  have hl : lv_has ls 2 [(0, .ref (ad 1)), (1, .int (iI a0))] := hl
  obtain ⟨hx, hb, hr, hml, hown, hts, hlocks, hK, hN⟩ := id X
  have hF := hI.2.2.2
  refine lv_aload_n hx hb dX8_hasRoom_0 rfl (lv_at hl 0 rfl) ?_
  refine g_get (C := RX8) (T := TX8) (N := 2) (ci := 7) (v := .int (iI (σ 1 1))) hx hb hts in_X8_hasRoom_X8 hown hK hI 1 (by decide) (cel_1 cy ad _) rfl 1 (by decide) (by decide +kernel) rfl dX8_hasRoom_1 ?_
  have b_1 := bd_1_1 hF
  refine lv_iload_n hx hb dX8_hasRoom_4 rfl (lv_at hl 1 rfl) ?_
  refine g_iadd hx hb dX8_hasRoom_5 ?_
  refine lv_aload_n hx hb dX8_hasRoom_6 rfl (lv_at hl 0 rfl) ?_
  refine g_get (C := RX8) (T := TX8) (N := 2) (ci := 7) (v := .ref (ad 2)) hx hb hts in_X8_hasRoom_X8 hown hK hI 1 (by decide) (cel_1 cy ad _) rfl 0 (by decide) (by decide +kernel) rfl dX8_hasRoom_7 ?_
  refine g_alen (z := 80) hx hb hK hI 2 0 (by decide) (cel_2 cy ad _) rfl rfl dX8_hasRoom_10 ?_
  refine g_icmp_gt (tgt := 18) hx hb dX8_hasRoom_11 (by decide) (by omega) (by omega) (fun c_2 => ?_) (fun c_2 => ?_)
  · skip
    refine lv_iconst (v := iI 0) hx hb dX8_hasRoom_18 rfl ?_
    have e9 : f_X8_hasRoom σ a0 = 0 := by rw [f_X8_hasRoom, if_pos c_2]
    exact g_zret (z := 0) hx hb hr hK hN hlocks hI e9.symm rfl (by rw [e9] <;> first | (omega) | (dsimp only; omega)) (by omega) dX8_hasRoom_19
  · skip
    refine lv_iconst (v := iI 1) hx hb dX8_hasRoom_14 rfl ?_
    refine lv_goto (tgt := 19) hx hb dX8_hasRoom_15 (by decide) ?_
    have e9 : f_X8_hasRoom σ a0 = 1 := by rw [f_X8_hasRoom, if_neg c_2]
    exact g_zret (z := 1) hx hb hr hK hN hlocks hI e9.symm rfl (by rw [e9] <;> first | (omega) | (dsimp only; omega)) (by omega) dX8_hasRoom_19
theorem in_X8_addNumber_X8 : ∀ w ∈ u_ws RX8 TX8 2, w ∈ wsX8_addNumber := by decide +kernel
def L_X8_addNumber_3 (a0 : Int) : Nat → Int → Sg → Sg
  | 0, x2, σ => (σ)
  | n + 1, x2, σ => (if x2 < 0 then σ else (if 80 ≤ (σ 1 1) then L_X8_addNumber_3 a0 n (x2 + (-8)) σ else L_X8_addNumber_3 a0 n (x2 + (-8)) (up2 (up2 σ 2 ((σ 1 1).toNat) (andI (ushrI a0 x2) 255)) 1 1 ((σ 1 1) + 1))))
set_option maxHeartbeats 4000000 in
set_option maxRecDepth 100000 in
theorem w_L_X8_addNumber_3 {p : Program} {l : Launch} {e : Env} {s : State} {m : MethodId} {args : Array Value} {below : List Frame} {meth : Method} {c₀ : Code} {D : va_G} {cy : Nat → ClassId} {ad : Nat → Nat} {Q : State → Prop} (X : MX p s m args meth c₀ cX8_addNumber 3 RX8 none wsX8_addNumber D cy) (a0 : Int) (ha0 : (-2147483648 ≤ a0 ∧ a0 < 2147483648)) : ∀ (n : Nat) (x2 : Int) (σ : Sg) (hx2 : (-8 : Int) ≤ x2 ∧ x2 ≤ 24) (hmu : x2 + 8 < (n : Int)) (H : Heap) (locs : List Loc) (ls : Array Slot) (hI : HI D cy ad s σ H locs) (hl : lv_has ls 3 [(0, .ref (ad 1)), (1, .int (iI a0)), (2, .int (iI x2))])  (hk : ∀ (H1 : Heap) (locs1 : List Loc) (ls1 : Array Slot), True → HI D cy ad s (L_X8_addNumber_3 a0 n x2 σ) H1 locs1 → lv_has ls1 3 [] → W p l e { frames := 0, cells := 0, slots := 0, locals := 0 } s m args below meth c₀ H1 locs1 0 0 Q (F0 m 51 ls1 [])), W p l e { frames := 0, cells := 0, slots := 0, locals := 0 } s m args below meth c₀ H locs 0 0 Q (F0 m 3 ls []) := by
  obtain ⟨hx, hb, hr, hml, hown, hts, hlocks, hK, hN⟩ := id X
  intro n
  induction n with
  | zero =>
    intro x2 σ hx2 hmu H locs ls hI hl hk
    exfalso
    have hF := hI.2.2.2
    omega
  | succ n ih =>
    intro x2 σ hx2 hmu H locs ls hI hl hk
    have hF := hI.2.2.2
    refine lv_iload_n hx hb dX8_addNumber_3 rfl (lv_at hl 2 rfl) ?_
    refine g_if_lt (tgt := 51) hx hb dX8_addNumber_4 (by decide) (by omega) (fun c_1 => ?_) (fun c_1 => ?_)
    · skip
      have e9 : L_X8_addNumber_3 a0 (n + 1) x2 σ = σ := by rw [L_X8_addNumber_3, if_pos c_1]
      rw [e9] at hk
      exact hk _ _ _ trivial hI (lv_sub hl [] rfl)
    · skip
      refine lv_aload_n hx hb dX8_addNumber_7 rfl (lv_at hl 0 rfl) ?_
      refine g_get (C := RX8) (T := TX8) (N := 2) (ci := 7) (v := .int (iI (σ 1 1))) hx hb hts in_X8_addNumber_X8 hown hK hI 1 (by decide) (cel_1 cy ad _) rfl 1 (by decide) (by decide +kernel) rfl dX8_addNumber_8 ?_
      have b_2 := bd_1_1 hF
      refine lv_aload_n hx hb dX8_addNumber_11 rfl (lv_at hl 0 rfl) ?_
      refine g_get (C := RX8) (T := TX8) (N := 2) (ci := 7) (v := .ref (ad 2)) hx hb hts in_X8_addNumber_X8 hown hK hI 1 (by decide) (cel_1 cy ad _) rfl 0 (by decide) (by decide +kernel) rfl dX8_addNumber_12 ?_
      refine g_alen (z := 80) hx hb hK hI 2 0 (by decide) (cel_2 cy ad _) rfl rfl dX8_addNumber_15 ?_
      refine g_icmp_ge (tgt := 45) hx hb dX8_addNumber_16 (by decide) (by omega) (by omega) (fun c_3 => ?_) (fun c_3 => ?_)
      · skip
        refine lv_iinc (v := iI (x2 + (-8))) (lv' := [(2, .int (iI (x2 + (-8)))), (0, .ref (ad 1)), (1, .int (iI a0))]) hx hb dX8_addNumber_45 hl (k := 2) rfl (iI_add _ _) (by decide) rfl (fun ls hl => ?_)
        refine lv_goto (tgt := 3) hx hb dX8_addNumber_48 (by decide) ?_
        have e9 : L_X8_addNumber_3 a0 (n + 1) x2 σ = L_X8_addNumber_3 a0 n (x2 + (-8)) σ := by rw [L_X8_addNumber_3, if_neg c_1, if_pos c_3]
        rw [e9] at hk
        exact ih (x2 + (-8)) σ (by omega) (by omega) _ _ _ hI (lv_sub hl [1, 2, 0] rfl) hk
      · skip
        refine lv_aload_n hx hb dX8_addNumber_19 rfl (lv_at hl 0 rfl) ?_
        refine g_get (C := RX8) (T := TX8) (N := 2) (ci := 7) (v := .ref (ad 2)) hx hb hts in_X8_addNumber_X8 hown hK hI 1 (by decide) (cel_1 cy ad _) rfl 0 (by decide) (by decide +kernel) rfl dX8_addNumber_20 ?_
        refine lv_aload_n hx hb dX8_addNumber_23 rfl (lv_at hl 0 rfl) ?_
        refine g_get (C := RX8) (T := TX8) (N := 2) (ci := 7) (v := .int (iI (σ 1 1))) hx hb hts in_X8_addNumber_X8 hown hK hI 1 (by decide) (cel_1 cy ad _) rfl 1 (by decide) (by decide +kernel) rfl dX8_addNumber_24 ?_
        have b_4 := bd_1_1 hF
        refine lv_iload_n hx hb dX8_addNumber_27 rfl (lv_at hl 1 rfl) ?_
        refine lv_iload_n hx hb dX8_addNumber_28 rfl (lv_at hl 2 rfl) ?_
        refine g_iushr hx hb dX8_addNumber_29 ?_
        have b_5 := ushrI_rng a0 x2
        refine lv_sipush (v := iI 255) hx hb dX8_addNumber_30 (iI_sip (by decide)) ?_
        refine g_iand hx hb dX8_addNumber_33 ?_
        have b_6 := andI_255 (ushrI a0 x2)
        refine g_iast hx hb hK hI 2 (by decide) (cel_2 cy ad) (by omega) (by decide) (bw_2 (by omega)) dX8_addNumber_34 (fun H locs hI => ?_)
        have hF_7 : WF (up2 σ 2 ((σ 1 1).toNat) (andI (ushrI a0 x2) 255)) := hI.2.2.2
        refine lv_aload_n hx hb dX8_addNumber_35 rfl (lv_at hl 0 rfl) ?_
        refine lv_dup hx hb dX8_addNumber_36 rfl ?_
        refine g_get (C := RX8) (T := TX8) (N := 2) (ci := 7) (v := .int (iI (σ 1 1))) hx hb hts in_X8_addNumber_X8 hown hK hI 1 (by decide) (cel_1 cy ad _) rfl 1 (by decide) (by decide +kernel) (by show some (Value.int (iI ((up2 σ 2 ((σ 1 1).toNat) (andI (ushrI a0 x2) 255)) 1 1))) = _; rw [up2_cell _ _ _ (by decide)]) dX8_addNumber_37 ?_
        have b_8 := bd_1_1 hF
        refine lv_iconst (v := iI 1) hx hb dX8_addNumber_40 rfl ?_
        refine g_iadd hx hb dX8_addNumber_41 ?_
        refine g_put (C := RX8) (T := TX8) (N := 2) (ci := 7) (ty := .int) (z := (σ 1 1) + 1) hx hb hts in_X8_addNumber_X8 tyX8 tyX8_ok nmX8 hown hK hI 1 (by decide) (cel_1 cy ad) rfl 1 (by decide) (by decide +kernel) rfl (by decide +kernel) rfl rfl (Nat.le_of_ble_eq_true rfl) rfl (bw_1_1 (by omega)) dX8_addNumber_42 (fun H locs hI => ?_)
        have hF_9 := hI.2.2.2
        refine lv_iinc (v := iI (x2 + (-8))) (lv' := [(2, .int (iI (x2 + (-8)))), (0, .ref (ad 1)), (1, .int (iI a0))]) hx hb dX8_addNumber_45 hl (k := 2) rfl (iI_add _ _) (by decide) rfl (fun ls hl => ?_)
        refine lv_goto (tgt := 3) hx hb dX8_addNumber_48 (by decide) ?_
        have e9 : L_X8_addNumber_3 a0 (n + 1) x2 σ = L_X8_addNumber_3 a0 n (x2 + (-8)) (up2 (up2 σ 2 ((σ 1 1).toNat) (andI (ushrI a0 x2) 255)) 1 1 ((σ 1 1) + 1)) := by rw [L_X8_addNumber_3, if_neg c_1, if_neg c_3]
        rw [e9] at hk
        exact ih (x2 + (-8)) (up2 (up2 σ 2 ((σ 1 1).toNat) (andI (ushrI a0 x2) 255)) 1 1 ((σ 1 1) + 1)) (by omega) (by omega) _ _ _ hI (lv_sub hl [1, 2, 0] rfl) hk
def f_X8_addNumber (σ : Sg) (a0 : Int) : Sg := (L_X8_addNumber_3 a0 33 24 σ)
theorem hd_X8_addNumber : yX8_addNumber.cls = RX8 ∧ yX8_addNumber.cls ≠ "java/lang/invoke/MethodHandle" ∧ yX8_addNumber.cls ≠ "java/lang/invoke/VarHandle" ∧ (parseMethodDescriptor yX8_addNumber.desc).map (fun d => d.parameters.length) = some 1 := by decide +kernel
set_option maxHeartbeats 4000000 in
set_option maxRecDepth 100000 in
theorem c_X8_addNumber (l : Launch) (D : va_G) (cy : Nat → ClassId) (ad : Nat → Nat) (σ : Sg) (a0 : Int) (ha0 : (-2147483648 ≤ a0 ∧ a0 < 2147483648)) : CM l D cy ad yX8_addNumber wsX8_addNumber { frames := 0, cells := 0, slots := 0, locals := 0 } [.ref (ad 1), .int (iI a0)] σ none (f_X8_addNumber σ a0) (True) := by
  refine CM.of (cc := cX8_addNumber) (maxL := 3) (ret := none) (by decide) rfl (Nat.le_of_ble_eq_true rfl) ?_
  intro p e s m args below meth c₀ ls X hI hl
  have hl : lv_has ls 3 [(0, .ref (ad 1)), (1, .int (iI a0))] := hl
  obtain ⟨hx, hb, hr, hml, hown, hts, hlocks, hK, hN⟩ := id X
  have hF := hI.2.2.2
  refine lv_bipush (v := iI 24) hx hb dX8_addNumber_0 (iI_bip (by decide)) ?_
  refine lv_istore_n (lv' := [(2, .int (iI 24)), (0, .ref (ad 1)), (1, .int (iI a0))]) hx hb dX8_addNumber_2 rfl hl (by decide) rfl (fun ls hl => ?_)
  refine w_L_X8_addNumber_3 X  a0 ha0  33 24 σ (by omega) (by omega) _ _ _ hI (lv_sub hl [1, 2, 0] rfl) (fun H locs ls hpo_11 hI hl => ?_)
  have hF_10 := hI.2.2.2
  have e9 : f_X8_addNumber σ a0 = (L_X8_addNumber_3 a0 33 24 σ) := by rw [f_X8_addNumber]
  exact g_vret hx hb hr hK hN hlocks hI (by rw [e9]) trivial dX8_addNumber_51
theorem in_X8_cut_X8 : ∀ w ∈ u_ws RX8 TX8 2, w ∈ wsX8_cut := by decide +kernel
def f_X8_cut (σ : Sg) (a0 : Int) : Int × Sg := (if a0 < 0 then (0, σ) else (if a0 ≤ (σ 1 1) then (1, (up2 σ 1 1 a0)) else (0, σ)))
theorem hd_X8_cut : yX8_cut.cls = RX8 ∧ yX8_cut.cls ≠ "java/lang/invoke/MethodHandle" ∧ yX8_cut.cls ≠ "java/lang/invoke/VarHandle" ∧ (parseMethodDescriptor yX8_cut.desc).map (fun d => d.parameters.length) = some 1 := by decide +kernel
set_option maxHeartbeats 4000000 in
set_option maxRecDepth 100000 in
theorem c_X8_cut (l : Launch) (D : va_G) (cy : Nat → ClassId) (ad : Nat → Nat) (σ : Sg) (a0 : Int) (ha0 : (-2147483648 ≤ a0 ∧ a0 < 2147483648)) : CM l D cy ad yX8_cut wsX8_cut { frames := 0, cells := 0, slots := 0, locals := 0 } [.ref (ad 1), .int (iI a0)] σ (some (.int (iI ((f_X8_cut σ a0).1)))) ((f_X8_cut σ a0).2) ((0 ≤ (f_X8_cut σ a0).1 ∧ (f_X8_cut σ a0).1 ≤ 1)) := by
  refine CM.of (cc := cX8_cut) (maxL := 2) (ret := (some .boolean)) (by decide) rfl (Nat.le_of_ble_eq_true rfl) ?_
  intro p e s m args below meth c₀ ls X hI hl
  have hl : lv_has ls 2 [(0, .ref (ad 1)), (1, .int (iI a0))] := hl
  obtain ⟨hx, hb, hr, hml, hown, hts, hlocks, hK, hN⟩ := id X
  have hF := hI.2.2.2
  refine lv_iload_n hx hb dX8_cut_0 rfl (lv_at hl 1 rfl) ?_
  refine g_if_lt (tgt := 12) hx hb dX8_cut_1 (by decide) (by omega) (fun c_1 => ?_) (fun c_1 => ?_)
  · skip
    refine lv_iconst (v := iI 0) hx hb dX8_cut_12 rfl ?_
    have e9 : f_X8_cut σ a0 = (0, σ) := by rw [f_X8_cut, if_pos c_1]
    exact g_zret (z := 0) hx hb hr hK hN hlocks hI (by rw [e9]) (by rw [e9]) (by rw [e9] <;> first | (omega) | (dsimp only; omega)) (by omega) dX8_cut_13
  · skip
    refine lv_iload_n hx hb dX8_cut_4 rfl (lv_at hl 1 rfl) ?_
    refine lv_aload_n hx hb dX8_cut_5 rfl (lv_at hl 0 rfl) ?_
    refine g_get (C := RX8) (T := TX8) (N := 2) (ci := 7) (v := .int (iI (σ 1 1))) hx hb hts in_X8_cut_X8 hown hK hI 1 (by decide) (cel_1 cy ad _) rfl 1 (by decide) (by decide +kernel) rfl dX8_cut_6 ?_
    have b_2 := bd_1_1 hF
    refine g_icmp_le (tgt := 14) hx hb dX8_cut_9 (by decide) (by omega) (by omega) (fun c_3 => ?_) (fun c_3 => ?_)
    · skip
      refine lv_aload_n hx hb dX8_cut_14 rfl (lv_at hl 0 rfl) ?_
      refine lv_iload_n hx hb dX8_cut_15 rfl (lv_at hl 1 rfl) ?_
      refine g_put (C := RX8) (T := TX8) (N := 2) (ci := 7) (ty := .int) (z := a0) hx hb hts in_X8_cut_X8 tyX8 tyX8_ok nmX8 hown hK hI 1 (by decide) (cel_1 cy ad) rfl 1 (by decide) (by decide +kernel) rfl (by decide +kernel) rfl rfl (Nat.le_of_ble_eq_true rfl) rfl (bw_1_1 (by omega)) dX8_cut_16 (fun H locs hI => ?_)
      have hF_4 := hI.2.2.2
      refine lv_iconst (v := iI 1) hx hb dX8_cut_19 rfl ?_
      have e9 : f_X8_cut σ a0 = (1, (up2 σ 1 1 a0)) := by rw [f_X8_cut, if_neg c_1, if_pos c_3]
      exact g_zret (z := 1) hx hb hr hK hN hlocks hI (by rw [e9]) (by rw [e9]) (by rw [e9] <;> first | (omega) | (dsimp only; omega)) (by omega) dX8_cut_20
    · skip
      refine lv_iconst (v := iI 0) hx hb dX8_cut_12 rfl ?_
      have e9 : f_X8_cut σ a0 = (0, σ) := by rw [f_X8_cut, if_neg c_1, if_neg c_3]
      exact g_zret (z := 0) hx hb hr hK hN hlocks hI (by rw [e9]) (by rw [e9]) (by rw [e9] <;> first | (omega) | (dsimp only; omega)) (by omega) dX8_cut_13
theorem in_X8_clear_X8 : ∀ w ∈ u_ws RX8 TX8 2, w ∈ wsX8_clear := by decide +kernel
def f_X8_clear (σ : Sg) : Sg := (up2 σ 1 1 0)
theorem hd_X8_clear : yX8_clear.cls = RX8 ∧ yX8_clear.cls ≠ "java/lang/invoke/MethodHandle" ∧ yX8_clear.cls ≠ "java/lang/invoke/VarHandle" ∧ (parseMethodDescriptor yX8_clear.desc).map (fun d => d.parameters.length) = some 0 := by decide +kernel
set_option maxHeartbeats 4000000 in
set_option maxRecDepth 100000 in
theorem c_X8_clear (l : Launch) (D : va_G) (cy : Nat → ClassId) (ad : Nat → Nat) (σ : Sg) : CM l D cy ad yX8_clear wsX8_clear { frames := 0, cells := 0, slots := 0, locals := 0 } [.ref (ad 1)] σ none (f_X8_clear σ) (True) := by
  refine CM.of (cc := cX8_clear) (maxL := 1) (ret := none) (by decide) rfl (Nat.le_of_ble_eq_true rfl) ?_
  intro p e s m args below meth c₀ ls X hI hl
  have hl : lv_has ls 1 [(0, .ref (ad 1))] := hl
  obtain ⟨hx, hb, hr, hml, hown, hts, hlocks, hK, hN⟩ := id X
  have hF := hI.2.2.2
  refine lv_aload_n hx hb dX8_clear_0 rfl (lv_at hl 0 rfl) ?_
  refine lv_iconst (v := iI 0) hx hb dX8_clear_1 rfl ?_
  refine g_put (C := RX8) (T := TX8) (N := 2) (ci := 7) (ty := .int) (z := 0) hx hb hts in_X8_clear_X8 tyX8 tyX8_ok nmX8 hown hK hI 1 (by decide) (cel_1 cy ad) rfl 1 (by decide) (by decide +kernel) rfl (by decide +kernel) rfl rfl (Nat.le_of_ble_eq_true rfl) rfl (bw_1_1 (by omega)) dX8_clear_2 (fun H locs hI => ?_)
  have hF_1 := hI.2.2.2
  have e9 : f_X8_clear σ = (up2 σ 1 1 0) := by rw [f_X8_clear]
  exact g_vret hx hb hr hK hN hlocks hI (by rw [e9]) trivial dX8_clear_5
theorem in_X8_isName_X8 : ∀ w ∈ u_ws RX8 TX8 2, w ∈ wsX8_isName := by decide +kernel
def L_X8_isName_21 (σ : Sg) : Nat → Int → Int
  | 0, x1 => 0
  | n + 1, x1 => (if (σ 1 1) ≤ x1 then 1 else (if (f_X6_isOfNames (f_X8_byteAt σ x1)) = 0 then 0 else L_X8_isName_21 σ n (x1 + 1)))
set_option maxHeartbeats 4000000 in
set_option maxRecDepth 100000 in
theorem w_L_X8_isName_21 {p : Program} {l : Launch} {e : Env} {s : State} {m : MethodId} {args : Array Value} {below : List Frame} {meth : Method} {c₀ : Code} {D : va_G} {cy : Nat → ClassId} {ad : Nat → Nat} (X : MX p s m args meth c₀ cX8_isName 2 RX8 (some .boolean) wsX8_isName D cy) (σ : Sg) : ∀ (n : Nat) (x1 : Int) (hx1 : (0 : Int) ≤ x1 ∧ x1 ≤ 80) (hmu : 80 - x1 < (n : Int)) (H : Heap) (locs : List Loc) (ls : Array Slot) (hI : HI D cy ad s σ H locs) (hl : lv_has ls 2 [(0, .ref (ad 1)), (1, .int (iI x1))]), W p l e { frames := 2, cells := 0, slots := 0, locals := 80 } s m args below meth c₀ H locs 0 0 (MQ below (CQ D cy ad (some (.int (iI (L_X8_isName_21 σ n x1)))) σ ((0 ≤ L_X8_isName_21 σ n x1 ∧ L_X8_isName_21 σ n x1 ≤ 1)) (AA ad s.heap.size)) args s 0 0 (AA ad s.heap.size)) (F0 m 21 ls []) := by
  obtain ⟨hx, hb, hr, hml, hown, hts, hlocks, hK, hN⟩ := id X
  intro n
  induction n with
  | zero =>
    intro x1 hx1 hmu H locs ls hI hl
    exfalso
    have hF := hI.2.2.2
    omega
  | succ n ih =>
    intro x1 hx1 hmu H locs ls hI hl
    have hF := hI.2.2.2
    refine lv_iload_n hx hb dX8_isName_21 rfl (lv_at hl 1 rfl) ?_
    refine lv_aload_n hx hb dX8_isName_22 rfl (lv_at hl 0 rfl) ?_
    refine g_get (C := RX8) (T := TX8) (N := 2) (ci := 7) (v := .int (iI (σ 1 1))) hx hb hts in_X8_isName_X8 hown hK hI 1 (by decide) (cel_1 cy ad _) rfl 1 (by decide) (by decide +kernel) rfl dX8_isName_23 ?_
    have b_5 := bd_1_1 hF
    refine g_icmp_ge (tgt := 48) hx hb dX8_isName_26 (by decide) (by omega) (by omega) (fun c_6 => ?_) (fun c_6 => ?_)
    · skip
      refine lv_iconst (v := iI 1) hx hb dX8_isName_48 rfl ?_
      have e9 : L_X8_isName_21 σ (n + 1) x1 = 1 := by rw [L_X8_isName_21, if_pos c_6]
      exact g_zret (z := 1) hx hb hr hK hN hlocks hI e9.symm rfl (by rw [e9] <;> first | (omega) | (dsimp only; omega)) (by omega) dX8_isName_49
    · skip
      refine lv_aload_n hx hb dX8_isName_29 rfl (lv_at hl 0 rfl) ?_
      refine lv_iload_n hx hb dX8_isName_30 rfl (lv_at hl 1 rfl) ?_
      refine g_V (As := [.int (iI x1)]) (rest := []) 1 (c_X8_byteAt l D cy ad σ x1 (by omega)) hx hb hml hown hts hK hN hI hl.1 gX8_isName_X8_byteAt rfl hd_X8_byteAt rfl rfl ⟨Nat.le_of_ble_eq_true rfl, Nat.le_of_ble_eq_true rfl⟩ ⟨Nat.zero_le _, Nat.zero_le _⟩ (by decide) (cel_1 cy ad _) rfl rfl rfl rfl (Nat.le_of_ble_eq_true rfl) dX8_isName_31 (fun H locs hG_7 hI => ?_)
      refine g_S (As := [.int (iI (f_X8_byteAt σ x1))]) (rest := []) (c_X6_isOfNames l D cy ad σ (f_X8_byteAt σ x1) (by omega)) hx hb hml hown hts hK hN hI hl.1 gX8_isName_X6_isOfNames rfl hd_X6_isOfNames rfl rfl ⟨Nat.le_of_ble_eq_true rfl, Nat.le_of_ble_eq_true rfl⟩ ⟨Nat.zero_le _, Nat.zero_le _⟩ rfl rfl (Nat.le_of_ble_eq_true rfl) dX8_isName_34 (fun H locs hG_8 hI => ?_)
      refine g_if_ne (tgt := 42) hx hb dX8_isName_37 (by decide) (by omega) (fun c_9 => ?_) (fun c_9 => ?_)
      · skip
        refine lv_iinc (v := iI (x1 + 1)) (lv' := [(1, .int (iI (x1 + 1))), (0, .ref (ad 1))]) hx hb dX8_isName_42 hl (k := 1) rfl (iI_add _ _) (by decide) rfl (fun ls hl => ?_)
        refine lv_goto (tgt := 21) hx hb dX8_isName_45 (by decide) ?_
        have e9 : L_X8_isName_21 σ (n + 1) x1 = L_X8_isName_21 σ n (x1 + 1) := by rw [L_X8_isName_21, if_neg c_6, if_neg c_9]
        rw [e9]
        exact ih (x1 + 1)  (by omega) (by omega) _ _ _ hI (lv_sub hl [1, 0] rfl)
      · skip
        refine lv_iconst (v := iI 0) hx hb dX8_isName_40 rfl ?_
        have e9 : L_X8_isName_21 σ (n + 1) x1 = 0 := by rw [L_X8_isName_21, if_neg c_6, if_pos c_9]
        exact g_zret (z := 0) hx hb hr hK hN hlocks hI e9.symm rfl (by rw [e9] <;> first | (omega) | (dsimp only; omega)) (by omega) dX8_isName_41
def f_X8_isName (σ : Sg) : Int := (if (σ 1 1) < 1 then 0 else (if (σ 1 1) ≤ 12 then L_X8_isName_21 σ 81 0 else 0))
theorem hd_X8_isName : yX8_isName.cls = RX8 ∧ yX8_isName.cls ≠ "java/lang/invoke/MethodHandle" ∧ yX8_isName.cls ≠ "java/lang/invoke/VarHandle" ∧ (parseMethodDescriptor yX8_isName.desc).map (fun d => d.parameters.length) = some 0 := by decide +kernel
set_option maxHeartbeats 4000000 in
set_option maxRecDepth 100000 in
theorem c_X8_isName (l : Launch) (D : va_G) (cy : Nat → ClassId) (ad : Nat → Nat) (σ : Sg) : CM l D cy ad yX8_isName wsX8_isName { frames := 2, cells := 0, slots := 0, locals := 80 } [.ref (ad 1)] σ (some (.int (iI (f_X8_isName σ)))) σ ((0 ≤ f_X8_isName σ ∧ f_X8_isName σ ≤ 1)) := by
  refine CM.of (cc := cX8_isName) (maxL := 2) (ret := (some .boolean)) (by decide) rfl (Nat.le_of_ble_eq_true rfl) ?_
  intro p e s m args below meth c₀ ls X hI hl
  have hl : lv_has ls 2 [(0, .ref (ad 1))] := hl
  obtain ⟨hx, hb, hr, hml, hown, hts, hlocks, hK, hN⟩ := id X
  have hF := hI.2.2.2
  refine lv_aload_n hx hb dX8_isName_0 rfl (lv_at hl 0 rfl) ?_
  refine g_get (C := RX8) (T := TX8) (N := 2) (ci := 7) (v := .int (iI (σ 1 1))) hx hb hts in_X8_isName_X8 hown hK hI 1 (by decide) (cel_1 cy ad _) rfl 1 (by decide) (by decide +kernel) rfl dX8_isName_1 ?_
  have b_1 := bd_1_1 hF
  refine lv_iconst (v := iI 1) hx hb dX8_isName_4 rfl ?_
  refine g_icmp_lt (tgt := 17) hx hb dX8_isName_5 (by decide) (by omega) (by omega) (fun c_2 => ?_) (fun c_2 => ?_)
  · skip
    refine lv_iconst (v := iI 0) hx hb dX8_isName_17 rfl ?_
    have e9 : f_X8_isName σ = 0 := by rw [f_X8_isName, if_pos c_2]
    exact g_zret (z := 0) hx hb hr hK hN hlocks hI e9.symm rfl (by rw [e9] <;> first | (omega) | (dsimp only; omega)) (by omega) dX8_isName_18
  · skip
    refine lv_aload_n hx hb dX8_isName_8 rfl (lv_at hl 0 rfl) ?_
    refine g_get (C := RX8) (T := TX8) (N := 2) (ci := 7) (v := .int (iI (σ 1 1))) hx hb hts in_X8_isName_X8 hown hK hI 1 (by decide) (cel_1 cy ad _) rfl 1 (by decide) (by decide +kernel) rfl dX8_isName_9 ?_
    have b_3 := bd_1_1 hF
    refine lv_bipush (v := iI 12) hx hb dX8_isName_12 (iI_bip (by decide)) ?_
    refine g_icmp_le (tgt := 19) hx hb dX8_isName_14 (by decide) (by omega) (by omega) (fun c_4 => ?_) (fun c_4 => ?_)
    · skip
      refine lv_iconst (v := iI 0) hx hb dX8_isName_19 rfl ?_
      refine lv_istore_n (lv' := [(1, .int (iI 0)), (0, .ref (ad 1))]) hx hb dX8_isName_20 rfl hl (by decide) rfl (fun ls hl => ?_)
      have e9 : f_X8_isName σ = L_X8_isName_21 σ 81 0 := by rw [f_X8_isName, if_neg c_2, if_pos c_4]
      rw [e9]
      exact w_L_X8_isName_21 X σ   81 0  (by omega) (by omega) _ _ _ hI (lv_sub hl [1, 0] rfl)
    · skip
      refine lv_iconst (v := iI 0) hx hb dX8_isName_17 rfl ?_
      have e9 : f_X8_isName σ = 0 := by rw [f_X8_isName, if_neg c_2, if_neg c_4]
      exact g_zret (z := 0) hx hb hr hK hN hlocks hI e9.symm rfl (by rw [e9] <;> first | (omega) | (dsimp only; omega)) (by omega) dX8_isName_18
