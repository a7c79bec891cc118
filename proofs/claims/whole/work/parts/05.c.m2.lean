theorem in_X10_file_X10 : ∀ w ∈ u_ws RX10 TX10 44, w ∈ wsX10_file := by decide +kernel
def f_X10_file (σ : Sg) (a0 : Int) : Int × Sg := (if ((f_X10_takes (up2 σ 28 0 0) a0).1) = 0 then ((-1), (f_X10_takes (up2 σ 28 0 0) a0).2) else (if ((f_X10_takes (up2 σ 28 0 0) a0).2 28 5) = 40 then ((-1), (f_X10_takes (up2 σ 28 0 0) a0).2) else (if (f_X10_alikeTo (f_X10_takes (up2 σ 28 0 0) a0).2 70 (-1)) = (-1) then ((((f_X10_copies (f_X10_takes (up2 σ 28 0 0) a0).2 70 ((f_X10_takes (up2 σ 28 0 0) a0).2 28 5)) 28 5) + 1) - 1, (up2 (up2 (f_X10_copies (f_X10_takes (up2 σ 28 0 0) a0).2 70 ((f_X10_takes (up2 σ 28 0 0) a0).2 28 5)) 32 (((f_X10_copies (f_X10_takes (up2 σ 28 0 0) a0).2 70 ((f_X10_takes (up2 σ 28 0 0) a0).2 28 5)) 28 5).toNat) 1) 28 5 (((f_X10_copies (f_X10_takes (up2 σ 28 0 0) a0).2 70 ((f_X10_takes (up2 σ 28 0 0) a0).2 28 5)) 28 5) + 1))) else ((-2) - (f_X10_alikeTo (f_X10_takes (up2 σ 28 0 0) a0).2 70 (-1)), (f_X10_takes (up2 σ 28 0 0) a0).2))))
theorem hd_X10_file : yX10_file.cls = RX10 ∧ yX10_file.cls ≠ "java/lang/invoke/MethodHandle" ∧ yX10_file.cls ≠ "java/lang/invoke/VarHandle" ∧ (parseMethodDescriptor yX10_file.desc).map (fun d => d.parameters.length) = some 1 := by decide +kernel
set_option maxHeartbeats 4000000 in
set_option maxRecDepth 100000 in
theorem c_X10_file (l : Launch) (D : va_G) (cy : Nat → ClassId) (ad : Nat → Nat) (σ : Sg) (a0 : Int) (ha0 : (-2147483648 ≤ a0 ∧ a0 < 2147483648)) : CM l D cy ad yX10_file wsX10_file { frames := 3, cells := 0, slots := 0, locals := 120 } [.ref (ad 28), .int (iI a0)] σ (some (.int (iI ((f_X10_file σ a0).1)))) ((f_X10_file σ a0).2) (True) := by
  refine CM.of (cc := cX10_file) (maxL := 3) (ret := (some .int)) (by decide) rfl (Nat.le_of_ble_eq_true rfl) ?_
  intro p e s m args below meth c₀ ls X hI hl
  have hl : lv_has ls 3 [(0, .ref (ad 28)), (1, .int (iI a0))] := hl
  obtain ⟨hx, hb, hr, hml, hown, hts, hlocks, hK, hN⟩ := id X
  have hF := hI.2.2.2
  refine lv_aload_n hx hb dX10_file_0 rfl (lv_at hl 0 rfl) ?_
  refine lv_iconst (v := iI 0) hx hb dX10_file_1 rfl ?_
  refine g_put (C := RX10) (T := TX10) (N := 44) (ci := 9) (ty := .int) (z := 0) hx hb hts in_X10_file_X10 tyX10 tyX10_ok nmX10 hown hK hI 28 (by decide) (cel_28 cy ad) rfl 0 (by decide) (by decide +kernel) rfl (by decide +kernel) rfl rfl (Nat.le_of_ble_eq_true rfl) rfl (bw_28_0 (by omega)) dX10_file_2 (fun H locs hI => ?_)
  have hF_1 := hI.2.2.2
  refine lv_aload_n hx hb dX10_file_5 rfl (lv_at hl 0 rfl) ?_
  refine lv_iload_n hx hb dX10_file_6 rfl (lv_at hl 1 rfl) ?_
  refine g_V (As := [.int (iI a0)]) (rest := []) 28 (c_X10_takes l D cy ad (up2 σ 28 0 0) a0 (by omega)) hx hb hml hown hts hK hN hI hl.1 gX10_file_X10_takes rfl hd_X10_takes rfl rfl ⟨Nat.le_of_ble_eq_true rfl, Nat.le_of_ble_eq_true rfl⟩ ⟨Nat.zero_le _, Nat.zero_le _⟩ (by decide) (cel_28 cy ad _) rfl rfl rfl rfl (Nat.le_of_ble_eq_true rfl) dX10_file_7 (fun H locs hG_2 hI => ?_)
  have hF_3 := hI.2.2.2
  have q8 : (f_X10_takes (up2 σ 28 0 0) a0).2 28 5 = (up2 σ 28 0 0) 28 5 := takes_fr _ _ (by decide) (by decide) (by decide) (by decide)
  have q7 : (f_X10_takes (up2 σ 28 0 0) a0).2 28 7 = (up2 σ 28 0 0) 28 7 := takes_fr _ _ (by decide) (by decide) (by decide) (by decide)
  refine g_if_eq (tgt := 22) hx hb dX10_file_10 (by decide) (by omega) (fun c_4 => ?_) (fun c_4 => ?_)
  · skip
    refine lv_iconst (v := iI (-1)) hx hb dX10_file_22 rfl ?_
    have e9 : f_X10_file σ a0 = ((-1), (f_X10_takes (up2 σ 28 0 0) a0).2) := by rw [f_X10_file, if_pos c_4]
    exact g_iret (z := (-1)) hx hb hr hK hN hlocks hI (by rw [e9]) (by rw [e9]) trivial dX10_file_23
  · skip
    refine lv_aload_n hx hb dX10_file_13 rfl (lv_at hl 0 rfl) ?_
    refine g_get (C := RX10) (T := TX10) (N := 44) (ci := 9) (v := .int (iI ((f_X10_takes (up2 σ 28 0 0) a0).2 28 5))) hx hb hts in_X10_file_X10 hown hK hI 28 (by decide) (cel_28 cy ad _) rfl 5 (by decide) (by decide +kernel) rfl dX10_file_14 ?_
    have b_5 := bd_28_5 hF_3
    refine lv_bipush (v := iI 40) hx hb dX10_file_17 (iI_bip (by decide)) ?_
    refine g_icmp_ne (tgt := 24) hx hb dX10_file_19 (by decide) (by omega) (by omega) (fun c_6 => ?_) (fun c_6 => ?_)
    · skip
      refine lv_aload_n hx hb dX10_file_24 rfl (lv_at hl 0 rfl) ?_
      refine lv_bipush (v := iI 70) hx hb dX10_file_25 (iI_bip (by decide)) ?_
      refine lv_iconst (v := iI (-1)) hx hb dX10_file_27 rfl ?_
      refine g_V (As := [.int (iI 70), .int (iI (-1))]) (rest := []) 28 (c_X10_alikeTo l D cy ad (f_X10_takes (up2 σ 28 0 0) a0).2 70 (by omega) (-1) (by omega)) hx hb hml hown hts hK hN hI hl.1 gX10_file_X10_alikeTo rfl hd_X10_alikeTo rfl rfl ⟨Nat.le_of_ble_eq_true rfl, Nat.le_of_ble_eq_true rfl⟩ ⟨Nat.zero_le _, Nat.zero_le _⟩ (by decide) (cel_28 cy ad _) rfl rfl rfl rfl (Nat.le_of_ble_eq_true rfl) dX10_file_28 (fun H locs hG_7 hI => ?_)
      refine lv_istore_n (lv' := [(2, .int (iI (f_X10_alikeTo (f_X10_takes (up2 σ 28 0 0) a0).2 70 (-1)))), (0, .ref (ad 28)), (1, .int (iI a0))]) hx hb dX10_file_31 rfl hl (by decide) rfl (fun ls hl => ?_)
      refine lv_iload_n hx hb dX10_file_32 rfl (lv_at hl 0 rfl) ?_
      refine lv_iconst (v := iI (-1)) hx hb dX10_file_33 rfl ?_
      refine g_icmp_eq (tgt := 42) hx hb dX10_file_34 (by decide) (by omega) (by omega) (fun c_8 => ?_) (fun c_8 => ?_)
      · skip
        refine lv_aload_n hx hb dX10_file_42 rfl (lv_at hl 1 rfl) ?_
        refine lv_bipush (v := iI 70) hx hb dX10_file_43 (iI_bip (by decide)) ?_
        refine lv_aload_n hx hb dX10_file_45 rfl (lv_at hl 1 rfl) ?_
        refine g_get (C := RX10) (T := TX10) (N := 44) (ci := 9) (v := .int (iI ((f_X10_takes (up2 σ 28 0 0) a0).2 28 5))) hx hb hts in_X10_file_X10 hown hK hI 28 (by decide) (cel_28 cy ad _) rfl 5 (by decide) (by decide +kernel) rfl dX10_file_46 ?_
        have b_9 := bd_28_5 hF_3
        refine g_V (As := [.int (iI 70), .int (iI ((f_X10_takes (up2 σ 28 0 0) a0).2 28 5))]) (rest := []) 28 (c_X10_copies l D cy ad (f_X10_takes (up2 σ 28 0 0) a0).2 70 (by omega) ((f_X10_takes (up2 σ 28 0 0) a0).2 28 5) (by omega)) hx hb hml hown hts hK hN hI hl.1 gX10_file_X10_copies rfl hd_X10_copies rfl rfl ⟨Nat.le_of_ble_eq_true rfl, Nat.le_of_ble_eq_true rfl⟩ ⟨Nat.zero_le _, Nat.zero_le _⟩ (by decide) (cel_28 cy ad _) rfl rfl rfl rfl (Nat.le_of_ble_eq_true rfl) dX10_file_49 (fun H locs hG_10 hI => ?_)
        have hF_11 := hI.2.2.2
        have q6 : (f_X10_copies (f_X10_takes (up2 σ 28 0 0) a0).2 70 ((f_X10_takes (up2 σ 28 0 0) a0).2 28 5)) 28 = (f_X10_takes (up2 σ 28 0 0) a0).2 28 := copies_fr _ _ _ (by decide) (by decide) (by decide)
        have q5 := congrFun q6 5
        have q4 := congrFun q6 7
        refine lv_aload_n hx hb dX10_file_52 rfl (lv_at hl 1 rfl) ?_
        refine g_get (C := RX10) (T := TX10) (N := 44) (ci := 9) (v := .ref (ad 32)) hx hb hts in_X10_file_X10 hown hK hI 28 (by decide) (cel_28 cy ad _) rfl 6 (by decide) (by decide +kernel) rfl dX10_file_53 ?_
        refine lv_aload_n hx hb dX10_file_56 rfl (lv_at hl 1 rfl) ?_
        refine g_get (C := RX10) (T := TX10) (N := 44) (ci := 9) (v := .int (iI ((f_X10_copies (f_X10_takes (up2 σ 28 0 0) a0).2 70 ((f_X10_takes (up2 σ 28 0 0) a0).2 28 5)) 28 5))) hx hb hts in_X10_file_X10 hown hK hI 28 (by decide) (cel_28 cy ad _) rfl 5 (by decide) (by decide +kernel) rfl dX10_file_57 ?_
        have b_12 := bd_28_5 hF_11
        refine lv_iconst (v := iI 1) hx hb dX10_file_60 rfl ?_
        refine g_zast hx hb hK hI 32 (by decide) (cel_32 cy ad) (by omega) (by decide) (by omega) (bw_32 (by omega)) dX10_file_61 (fun H locs hI => ?_)
        have hF_13 : WF (up2 (f_X10_copies (f_X10_takes (up2 σ 28 0 0) a0).2 70 ((f_X10_takes (up2 σ 28 0 0) a0).2 28 5)) 32 (((f_X10_copies (f_X10_takes (up2 σ 28 0 0) a0).2 70 ((f_X10_takes (up2 σ 28 0 0) a0).2 28 5)) 28 5).toNat) 1) := hI.2.2.2
        refine lv_aload_n hx hb dX10_file_62 rfl (lv_at hl 1 rfl) ?_
        refine lv_dup hx hb dX10_file_63 rfl ?_
        refine g_get (C := RX10) (T := TX10) (N := 44) (ci := 9) (v := .int (iI ((f_X10_copies (f_X10_takes (up2 σ 28 0 0) a0).2 70 ((f_X10_takes (up2 σ 28 0 0) a0).2 28 5)) 28 5))) hx hb hts in_X10_file_X10 hown hK hI 28 (by decide) (cel_28 cy ad _) rfl 5 (by decide) (by decide +kernel) (by show some (Value.int (iI ((up2 (f_X10_copies (f_X10_takes (up2 σ 28 0 0) a0).2 70 ((f_X10_takes (up2 σ 28 0 0) a0).2 28 5)) 32 (((f_X10_copies (f_X10_takes (up2 σ 28 0 0) a0).2 70 ((f_X10_takes (up2 σ 28 0 0) a0).2 28 5)) 28 5).toNat) 1) 28 5))) = _; rw [up2_cell _ _ _ (by decide)]) dX10_file_64 ?_
        have b_14 := bd_28_5 hF_11
        refine lv_iconst (v := iI 1) hx hb dX10_file_67 rfl ?_
        refine g_iadd hx hb dX10_file_68 ?_
        refine g_put (C := RX10) (T := TX10) (N := 44) (ci := 9) (ty := .int) (z := ((f_X10_copies (f_X10_takes (up2 σ 28 0 0) a0).2 70 ((f_X10_takes (up2 σ 28 0 0) a0).2 28 5)) 28 5) + 1) hx hb hts in_X10_file_X10 tyX10 tyX10_ok nmX10 hown hK hI 28 (by decide) (cel_28 cy ad) rfl 5 (by decide) (by decide +kernel) rfl (by decide +kernel) rfl rfl (Nat.le_of_ble_eq_true rfl) rfl (bw_28_5 (by omega)) dX10_file_69 (fun H locs hI => ?_)
        have hF_15 := hI.2.2.2
        refine lv_aload_n hx hb dX10_file_72 rfl (lv_at hl 1 rfl) ?_
        refine g_get (C := RX10) (T := TX10) (N := 44) (ci := 9) (v := .int (iI (((f_X10_copies (f_X10_takes (up2 σ 28 0 0) a0).2 70 ((f_X10_takes (up2 σ 28 0 0) a0).2 28 5)) 28 5) + 1))) hx hb hts in_X10_file_X10 hown hK hI 28 (by decide) (cel_28 cy ad _) rfl 5 (by decide) (by decide +kernel) (by show some (Value.int (iI ((up2 (up2 (f_X10_copies (f_X10_takes (up2 σ 28 0 0) a0).2 70 ((f_X10_takes (up2 σ 28 0 0) a0).2 28 5)) 32 (((f_X10_copies (f_X10_takes (up2 σ 28 0 0) a0).2 70 ((f_X10_takes (up2 σ 28 0 0) a0).2 28 5)) 28 5).toNat) 1) 28 5 (((f_X10_copies (f_X10_takes (up2 σ 28 0 0) a0).2 70 ((f_X10_takes (up2 σ 28 0 0) a0).2 28 5)) 28 5) + 1)) 28 5))) = _; rw [up2_same]) dX10_file_73 ?_
        refine lv_iconst (v := iI 1) hx hb dX10_file_76 rfl ?_
        refine g_isub hx hb dX10_file_77 ?_
        have e9 : f_X10_file σ a0 = ((((f_X10_copies (f_X10_takes (up2 σ 28 0 0) a0).2 70 ((f_X10_takes (up2 σ 28 0 0) a0).2 28 5)) 28 5) + 1) - 1, (up2 (up2 (f_X10_copies (f_X10_takes (up2 σ 28 0 0) a0).2 70 ((f_X10_takes (up2 σ 28 0 0) a0).2 28 5)) 32 (((f_X10_copies (f_X10_takes (up2 σ 28 0 0) a0).2 70 ((f_X10_takes (up2 σ 28 0 0) a0).2 28 5)) 28 5).toNat) 1) 28 5 (((f_X10_copies (f_X10_takes (up2 σ 28 0 0) a0).2 70 ((f_X10_takes (up2 σ 28 0 0) a0).2 28 5)) 28 5) + 1))) := by rw [f_X10_file, if_neg c_4, if_neg c_6, if_pos c_8]
        exact g_iret (z := (((f_X10_copies (f_X10_takes (up2 σ 28 0 0) a0).2 70 ((f_X10_takes (up2 σ 28 0 0) a0).2 28 5)) 28 5) + 1) - 1) hx hb hr hK hN hlocks hI (by rw [e9]) (by rw [e9]) trivial dX10_file_78
      · skip
        refine lv_bipush (v := iI (-2)) hx hb dX10_file_37 (iI_bip (by decide)) ?_
        refine lv_iload_n hx hb dX10_file_39 rfl (lv_at hl 0 rfl) ?_
        refine g_isub hx hb dX10_file_40 ?_
        have e9 : f_X10_file σ a0 = ((-2) - (f_X10_alikeTo (f_X10_takes (up2 σ 28 0 0) a0).2 70 (-1)), (f_X10_takes (up2 σ 28 0 0) a0).2) := by rw [f_X10_file, if_neg c_4, if_neg c_6, if_neg c_8]
        exact g_iret (z := (-2) - (f_X10_alikeTo (f_X10_takes (up2 σ 28 0 0) a0).2 70 (-1))) hx hb hr hK hN hlocks hI (by rw [e9]) (by rw [e9]) trivial dX10_file_41
    · skip
      refine lv_iconst (v := iI (-1)) hx hb dX10_file_22 rfl ?_
      have e9 : f_X10_file σ a0 = ((-1), (f_X10_takes (up2 σ 28 0 0) a0).2) := by rw [f_X10_file, if_neg c_4, if_pos c_6]
      exact g_iret (z := (-1)) hx hb hr hK hN hlocks hI (by rw [e9]) (by rw [e9]) trivial dX10_file_23
theorem in_X10_fails_X10 : ∀ w ∈ u_ws RX10 TX10 44, w ∈ wsX10_fails := by decide +kernel
def f_X10_fails (σ : Sg) (a0 : Int) (a1 : Int) : Sg := (if (σ 28 21) = 0 then (up2 (up2 σ 28 21 a0) 28 22 a1) else σ)
theorem hd_X10_fails : yX10_fails.cls = RX10 ∧ yX10_fails.cls ≠ "java/lang/invoke/MethodHandle" ∧ yX10_fails.cls ≠ "java/lang/invoke/VarHandle" ∧ (parseMethodDescriptor yX10_fails.desc).map (fun d => d.parameters.length) = some 2 := by decide +kernel
set_option maxHeartbeats 4000000 in
set_option maxRecDepth 100000 in
theorem c_X10_fails (l : Launch) (D : va_G) (cy : Nat → ClassId) (ad : Nat → Nat) (σ : Sg) (a0 : Int) (ha0 : (1 : Int) ≤ a0 ∧ a0 ≤ 3) (a1 : Int) (ha1 : (0 : Int) ≤ a1 ∧ a1 ≤ 200) : CM l D cy ad yX10_fails wsX10_fails { frames := 0, cells := 0, slots := 0, locals := 0 } [.ref (ad 28), .int (iI a0), .int (iI a1)] σ none (f_X10_fails σ a0 a1) (1 ≤ (f_X10_fails σ a0 a1) 28 21 ∧ (f_X10_fails σ a0 a1) 28 9 = σ 28 9 ∧ (f_X10_fails σ a0 a1) 28 15 = σ 28 15 ∧ (f_X10_fails σ a0 a1) 28 16 = σ 28 16) := by
  refine CM.of (cc := cX10_fails) (maxL := 3) (ret := none) (by decide) rfl (Nat.le_of_ble_eq_true rfl) ?_
  intro p e s m args below meth c₀ ls X hI hl
  have hl : lv_has ls 3 [(0, .ref (ad 28)), (1, .int (iI a0)), (2, .int (iI a1))] := hl
  obtain ⟨hx, hb, hr, hml, hown, hts, hlocks, hK, hN⟩ := id X
  have hF := hI.2.2.2
  refine lv_aload_n hx hb dX10_fails_0 rfl (lv_at hl 0 rfl) ?_
  refine g_get (C := RX10) (T := TX10) (N := 44) (ci := 9) (v := .int (iI (σ 28 21))) hx hb hts in_X10_fails_X10 hown hK hI 28 (by decide) (cel_28 cy ad _) rfl 21 (by decide) (by decide +kernel) rfl dX10_fails_1 ?_
  have b_1 := bd_28_21 hF
  refine g_if_eq (tgt := 8) hx hb dX10_fails_4 (by decide) (by omega) (fun c_2 => ?_) (fun c_2 => ?_)
  · skip
    refine lv_aload_n hx hb dX10_fails_8 rfl (lv_at hl 0 rfl) ?_
    refine lv_iload_n hx hb dX10_fails_9 rfl (lv_at hl 1 rfl) ?_
    refine g_put (C := RX10) (T := TX10) (N := 44) (ci := 9) (ty := .int) (z := a0) hx hb hts in_X10_fails_X10 tyX10 tyX10_ok nmX10 hown hK hI 28 (by decide) (cel_28 cy ad) rfl 21 (by decide) (by decide +kernel) rfl (by decide +kernel) rfl rfl (Nat.le_of_ble_eq_true rfl) rfl (bw_28_21 (by omega)) dX10_fails_10 (fun H locs hI => ?_)
    have hF_3 := hI.2.2.2
    refine lv_aload_n hx hb dX10_fails_13 rfl (lv_at hl 0 rfl) ?_
    refine lv_iload_n hx hb dX10_fails_14 rfl (lv_at hl 2 rfl) ?_
    refine g_put (C := RX10) (T := TX10) (N := 44) (ci := 9) (ty := .int) (z := a1) hx hb hts in_X10_fails_X10 tyX10 tyX10_ok nmX10 hown hK hI 28 (by decide) (cel_28 cy ad) rfl 22 (by decide) (by decide +kernel) rfl (by decide +kernel) rfl rfl (Nat.le_of_ble_eq_true rfl) rfl (bw_28_22 (by omega)) dX10_fails_15 (fun H locs hI => ?_)
    have hF_4 := hI.2.2.2
    have e9 : f_X10_fails σ a0 a1 = (up2 (up2 σ 28 21 a0) 28 22 a1) := by rw [f_X10_fails, if_pos c_2]
    exact g_vret hx hb hr hK hN hlocks hI (by rw [e9]) (by rw [e9] <;> first | (refine ⟨?_, ?_, ?_, ?_⟩ <;> (try simp [up2_at]) <;> omega) | (dsimp only; refine ⟨?_, ?_, ?_, ?_⟩ <;> (try simp [up2_at]) <;> omega)) dX10_fails_18
  · skip
    have e9 : f_X10_fails σ a0 a1 = σ := by rw [f_X10_fails, if_neg c_2]
    exact g_vret hx hb hr hK hN hlocks hI (by rw [e9]) (by rw [e9] <;> first | (refine ⟨?_, ?_, ?_, ?_⟩ <;> (try simp [up2_at]) <;> omega) | (dsimp only; refine ⟨?_, ?_, ?_, ?_⟩ <;> (try simp [up2_at]) <;> omega)) dX10_fails_7
theorem in_X10_readItems_X10 : ∀ w ∈ u_ws RX10 TX10 44, w ∈ wsX10_readItems := by decide +kernel
def L_X10_readItems_7 : Nat → Int → Sg → Int × Sg
  | 0, x1, σ => (x1, σ)
  | n + 1, x1, σ => (if (σ 28 21) = 0 then (if x1 = (σ 28 9) then (if (σ 28 9) ≤ x1 then L_X10_readItems_7 n x1 (f_X10_fails σ 1 x1) else L_X10_readItems_7 n x1 (f_X10_fails σ 1 x1)) else (if (σ 33 x1.toNat) = 62 then (if (σ 28 15) = 0 then (if (σ 28 9) ≤ x1 then (if (f_X10_isNameByte 0) = 0 then L_X10_readItems_7 n x1 (f_X10_fails σ 1 x1) else (if (σ 28 15) = 12 then L_X10_readItems_7 n x1 (f_X10_fails σ 2 x1) else L_X10_readItems_7 n (x1 + 1) (up2 (up2 σ 37 ((σ 28 15).toNat) 0) 28 15 ((σ 28 15) + 1)))) else (if (f_X10_isNameByte (σ 33 x1.toNat)) = 0 then (if (σ 33 x1.toNat) = 63 then (if (σ 28 15) = 12 then L_X10_readItems_7 n x1 (f_X10_fails σ 2 x1) else L_X10_readItems_7 n (x1 + 1) (up2 (up2 σ 37 ((σ 28 15).toNat) (σ 33 x1.toNat)) 28 15 ((σ 28 15) + 1))) else (if (σ 33 x1.toNat) = 42 then (if (σ 28 15) = 12 then L_X10_readItems_7 n x1 (f_X10_fails σ 2 x1) else L_X10_readItems_7 n (x1 + 1) (up2 (up2 σ 37 ((σ 28 15).toNat) (σ 33 x1.toNat)) 28 15 ((σ 28 15) + 1))) else (if (σ 33 x1.toNat) = 35 then (if (σ 28 15) = 12 then L_X10_readItems_7 n x1 (f_X10_fails σ 2 x1) else L_X10_readItems_7 n (x1 + 1) (up2 (up2 σ 37 ((σ 28 15).toNat) (σ 33 x1.toNat)) 28 15 ((σ 28 15) + 1))) else L_X10_readItems_7 n x1 (f_X10_fails σ 1 x1)))) else (if (σ 28 15) = 12 then L_X10_readItems_7 n x1 (f_X10_fails σ 2 x1) else L_X10_readItems_7 n (x1 + 1) (up2 (up2 σ 37 ((σ 28 15).toNat) (σ 33 x1.toNat)) 28 15 ((σ 28 15) + 1))))) else (x1, σ)) else (if (σ 28 9) ≤ x1 then (if (f_X10_isNameByte 0) = 0 then L_X10_readItems_7 n x1 (f_X10_fails σ 1 x1) else (if (σ 28 15) = 12 then L_X10_readItems_7 n x1 (f_X10_fails σ 2 x1) else L_X10_readItems_7 n (x1 + 1) (up2 (up2 σ 37 ((σ 28 15).toNat) 0) 28 15 ((σ 28 15) + 1)))) else (if (f_X10_isNameByte (σ 33 x1.toNat)) = 0 then (if (σ 33 x1.toNat) = 63 then (if (σ 28 15) = 12 then L_X10_readItems_7 n x1 (f_X10_fails σ 2 x1) else L_X10_readItems_7 n (x1 + 1) (up2 (up2 σ 37 ((σ 28 15).toNat) (σ 33 x1.toNat)) 28 15 ((σ 28 15) + 1))) else (if (σ 33 x1.toNat) = 42 then (if (σ 28 15) = 12 then L_X10_readItems_7 n x1 (f_X10_fails σ 2 x1) else L_X10_readItems_7 n (x1 + 1) (up2 (up2 σ 37 ((σ 28 15).toNat) (σ 33 x1.toNat)) 28 15 ((σ 28 15) + 1))) else (if (σ 33 x1.toNat) = 35 then (if (σ 28 15) = 12 then L_X10_readItems_7 n x1 (f_X10_fails σ 2 x1) else L_X10_readItems_7 n (x1 + 1) (up2 (up2 σ 37 ((σ 28 15).toNat) (σ 33 x1.toNat)) 28 15 ((σ 28 15) + 1))) else L_X10_readItems_7 n x1 (f_X10_fails σ 1 x1)))) else (if (σ 28 15) = 12 then L_X10_readItems_7 n x1 (f_X10_fails σ 2 x1) else L_X10_readItems_7 n (x1 + 1) (up2 (up2 σ 37 ((σ 28 15).toNat) (σ 33 x1.toNat)) 28 15 ((σ 28 15) + 1))))))) else (x1, σ))
set_option maxHeartbeats 4000000 in
set_option maxRecDepth 100000 in
theorem w_L_X10_readItems_7 {p : Program} {l : Launch} {e : Env} {s : State} {m : MethodId} {args : Array Value} {below : List Frame} {meth : Method} {c₀ : Code} {D : va_G} {cy : Nat → ClassId} {ad : Nat → Nat} {Q : State → Prop} (X : MX p s m args meth c₀ cX10_readItems 3 RX10 (some .int) wsX10_readItems D cy) : ∀ (n : Nat) (x1 : Int) (σ : Sg) (hx1 : (0 : Int) ≤ x1 ∧ x1 ≤ 80) (hp0 : x1 ≤ σ 28 9) (hmu : 81 - x1 - min (σ 28 21) 1 < (n : Int)) (H : Heap) (locs : List Loc) (ls : Array Slot) (hI : HI D cy ad s σ H locs) (hl : lv_has ls 3 [(0, .ref (ad 28)), (1, .int (iI x1))])  (hk : ∀ (H1 : Heap) (locs1 : List Loc) (ls1 : Array Slot), (0 ≤ (L_X10_readItems_7 n x1 σ).1 ∧ (L_X10_readItems_7 n x1 σ).1 ≤ 80) → HI D cy ad s (L_X10_readItems_7 n x1 σ).2 H1 locs1 → lv_has ls1 3 [(1, .int (iI ((L_X10_readItems_7 n x1 σ).1)))] → W p l e { frames := 2, cells := 0, slots := 0, locals := 80 } s m args below meth c₀ H1 locs1 0 0 Q (F0 m 145 ls1 [])), W p l e { frames := 2, cells := 0, slots := 0, locals := 80 } s m args below meth c₀ H locs 0 0 Q (F0 m 7 ls []) := by
  obtain ⟨hx, hb, hr, hml, hown, hts, hlocks, hK, hN⟩ := id X
  intro n
  induction n with
  | zero =>
    intro x1 σ hx1 hp0 hmu H locs ls hI hl hk
    exfalso
    have hF := hI.2.2.2
    omega
  | succ n ih =>
    intro x1 σ hx1 hp0 hmu H locs ls hI hl hk
    have hF := hI.2.2.2
    refine lv_aload_n hx hb dX10_readItems_7 rfl (lv_at hl 0 rfl) ?_
    refine g_get (C := RX10) (T := TX10) (N := 44) (ci := 9) (v := .int (iI (σ 28 21))) hx hb hts in_X10_readItems_X10 hown hK hI 28 (by decide) (cel_28 cy ad _) rfl 21 (by decide) (by decide +kernel) rfl dX10_readItems_8 ?_
    have b_2 := bd_28_21 hF
    refine g_if_ne (tgt := 145) hx hb dX10_readItems_11 (by decide) (by omega) (fun c_3 => ?_) (fun c_3 => ?_)
    · skip
      have e9 : L_X10_readItems_7 (n + 1) x1 σ = (x1, σ) := by rw [L_X10_readItems_7, if_neg c_3]
      rw [e9] at hk
      exact hk _ _ _ (by first | (omega) | (dsimp only; omega)) hI (lv_sub hl [1] rfl)
    · skip
      refine lv_iload_n hx hb dX10_readItems_14 rfl (lv_at hl 1 rfl) ?_
      refine lv_aload_n hx hb dX10_readItems_15 rfl (lv_at hl 0 rfl) ?_
      refine g_get (C := RX10) (T := TX10) (N := 44) (ci := 9) (v := .int (iI (σ 28 9))) hx hb hts in_X10_readItems_X10 hown hK hI 28 (by decide) (cel_28 cy ad _) rfl 9 (by decide) (by decide +kernel) rfl dX10_readItems_16 ?_
      have b_4 := bd_28_9 hF
      refine g_icmp_eq (tgt := 40) hx hb dX10_readItems_19 (by decide) (by omega) (by omega) (fun c_5 => ?_) (fun c_5 => ?_)
      · skip
        refine lv_iload_n hx hb dX10_readItems_40 rfl (lv_at hl 1 rfl) ?_
        refine lv_aload_n hx hb dX10_readItems_41 rfl (lv_at hl 0 rfl) ?_
        refine g_get (C := RX10) (T := TX10) (N := 44) (ci := 9) (v := .int (iI (σ 28 9))) hx hb hts in_X10_readItems_X10 hown hK hI 28 (by decide) (cel_28 cy ad _) rfl 9 (by decide) (by decide +kernel) rfl dX10_readItems_42 ?_
        have b_6 := bd_28_9 hF
        refine g_icmp_ge (tgt := 57) hx hb dX10_readItems_45 (by decide) (by omega) (by omega) (fun c_7 => ?_) (fun c_7 => ?_)
        · skip
          refine lv_iconst (v := iI 0) hx hb dX10_readItems_57 rfl ?_
          refine lv_istore_n (lv' := [(2, .int (iI 0)), (0, .ref (ad 28)), (1, .int (iI x1))]) hx hb dX10_readItems_58 rfl hl (by decide) rfl (fun ls hl => ?_)
          refine lv_iload_n hx hb dX10_readItems_59 rfl (lv_at hl 2 rfl) ?_
          refine lv_aload_n hx hb dX10_readItems_60 rfl (lv_at hl 1 rfl) ?_
          refine g_get (C := RX10) (T := TX10) (N := 44) (ci := 9) (v := .int (iI (σ 28 9))) hx hb hts in_X10_readItems_X10 hown hK hI 28 (by decide) (cel_28 cy ad _) rfl 9 (by decide) (by decide +kernel) rfl dX10_readItems_61 ?_
          have b_8 := bd_28_9 hF
          refine g_icmp_eq (tgt := 92) hx hb dX10_readItems_64 (by decide) (by omega) (by omega) (fun c_9 => ?_) (fun c_9 => ?_)
          · skip
            refine lv_aload_n hx hb dX10_readItems_92 rfl (lv_at hl 1 rfl) ?_
            refine lv_iconst (v := iI 1) hx hb dX10_readItems_93 rfl ?_
            refine lv_iload_n hx hb dX10_readItems_94 rfl (lv_at hl 2 rfl) ?_
            refine g_V (As := [.int (iI 1), .int (iI x1)]) (rest := []) 28 (c_X10_fails l D cy ad σ 1 (by omega) x1 (by omega)) hx hb hml hown hts hK hN hI hl.1 gX10_readItems_X10_fails rfl hd_X10_fails rfl rfl ⟨Nat.le_of_ble_eq_true rfl, Nat.le_of_ble_eq_true rfl⟩ ⟨Nat.zero_le _, Nat.zero_le _⟩ (by decide) (cel_28 cy ad _) rfl rfl rfl rfl (Nat.le_of_ble_eq_true rfl) dX10_readItems_95 (fun H locs hG_10 hI => ?_)
            have hF_11 := hI.2.2.2
            refine lv_goto (tgt := 142) hx hb dX10_readItems_98 (by decide) ?_
            refine lv_goto (tgt := 7) hx hb dX10_readItems_142 (by decide) ?_
            have e9 : L_X10_readItems_7 (n + 1) x1 σ = L_X10_readItems_7 n x1 (f_X10_fails σ 1 x1) := by rw [L_X10_readItems_7, if_pos c_3, if_pos c_5, if_pos c_7]
            rw [e9] at hk
            exact ih x1 (f_X10_fails σ 1 x1) (by omega) (by first | omega | (simp [up2_at] <;> omega)) (by first | omega | (simp [up2_at] <;> omega)) _ _ _ hI (lv_sub hl [1, 2] rfl) hk
          · exact absurd c_5 c_9
        · skip
          refine lv_aload_n hx hb dX10_readItems_48 rfl (lv_at hl 0 rfl) ?_
          refine g_get (C := RX10) (T := TX10) (N := 44) (ci := 9) (v := .ref (ad 33)) hx hb hts in_X10_readItems_X10 hown hK hI 28 (by decide) (cel_28 cy ad _) rfl 8 (by decide) (by decide +kernel) rfl dX10_readItems_49 ?_
          refine lv_iload_n hx hb dX10_readItems_52 rfl (lv_at hl 1 rfl) ?_
          refine g_bald (v := σ 33 x1.toNat) hx hb hK hI 33 (by decide) (cel_33 cy ad) (by omega) (by decide) rfl dX10_readItems_53 ?_
          have b_12 := bd_33 hF x1.toNat
          refine lv_goto (tgt := 58) hx hb dX10_readItems_54 (by decide) ?_
          refine lv_istore_n (lv' := [(2, .int (iI (σ 33 x1.toNat))), (0, .ref (ad 28)), (1, .int (iI x1))]) hx hb dX10_readItems_58 rfl hl (by decide) rfl (fun ls hl => ?_)
          refine lv_iload_n hx hb dX10_readItems_59 rfl (lv_at hl 2 rfl) ?_
          refine lv_aload_n hx hb dX10_readItems_60 rfl (lv_at hl 1 rfl) ?_
          refine g_get (C := RX10) (T := TX10) (N := 44) (ci := 9) (v := .int (iI (σ 28 9))) hx hb hts in_X10_readItems_X10 hown hK hI 28 (by decide) (cel_28 cy ad _) rfl 9 (by decide) (by decide +kernel) rfl dX10_readItems_61 ?_
          have b_13 := bd_28_9 hF
          refine g_icmp_eq (tgt := 92) hx hb dX10_readItems_64 (by decide) (by omega) (by omega) (fun c_14 => ?_) (fun c_14 => ?_)
          · skip
            refine lv_aload_n hx hb dX10_readItems_92 rfl (lv_at hl 1 rfl) ?_
            refine lv_iconst (v := iI 1) hx hb dX10_readItems_93 rfl ?_
            refine lv_iload_n hx hb dX10_readItems_94 rfl (lv_at hl 2 rfl) ?_
            refine g_V (As := [.int (iI 1), .int (iI x1)]) (rest := []) 28 (c_X10_fails l D cy ad σ 1 (by omega) x1 (by omega)) hx hb hml hown hts hK hN hI hl.1 gX10_readItems_X10_fails rfl hd_X10_fails rfl rfl ⟨Nat.le_of_ble_eq_true rfl, Nat.le_of_ble_eq_true rfl⟩ ⟨Nat.zero_le _, Nat.zero_le _⟩ (by decide) (cel_28 cy ad _) rfl rfl rfl rfl (Nat.le_of_ble_eq_true rfl) dX10_readItems_95 (fun H locs hG_15 hI => ?_)
            have hF_16 := hI.2.2.2
            refine lv_goto (tgt := 142) hx hb dX10_readItems_98 (by decide) ?_
            refine lv_goto (tgt := 7) hx hb dX10_readItems_142 (by decide) ?_
            have e9 : L_X10_readItems_7 (n + 1) x1 σ = L_X10_readItems_7 n x1 (f_X10_fails σ 1 x1) := by rw [L_X10_readItems_7, if_pos c_3, if_pos c_5, if_neg c_7]
            rw [e9] at hk
            exact ih x1 (f_X10_fails σ 1 x1) (by omega) (by first | omega | (simp [up2_at] <;> omega)) (by first | omega | (simp [up2_at] <;> omega)) _ _ _ hI (lv_sub hl [1, 2] rfl) hk
          · exact absurd c_5 c_14
      · skip
        refine lv_aload_n hx hb dX10_readItems_22 rfl (lv_at hl 0 rfl) ?_
        refine g_get (C := RX10) (T := TX10) (N := 44) (ci := 9) (v := .ref (ad 33)) hx hb hts in_X10_readItems_X10 hown hK hI 28 (by decide) (cel_28 cy ad _) rfl 8 (by decide) (by decide +kernel) rfl dX10_readItems_23 ?_
        refine lv_iload_n hx hb dX10_readItems_26 rfl (lv_at hl 1 rfl) ?_
        refine g_bald (v := σ 33 x1.toNat) hx hb hK hI 33 (by decide) (cel_33 cy ad) (by omega) (by decide) rfl dX10_readItems_27 ?_
        have b_17 := bd_33 hF x1.toNat
        refine lv_bipush (v := iI 62) hx hb dX10_readItems_28 (iI_bip (by decide)) ?_
        refine g_icmp_ne (tgt := 40) hx hb dX10_readItems_30 (by decide) (by omega) (by omega) (fun c_18 => ?_) (fun c_18 => ?_)
        · skip
          refine lv_iload_n hx hb dX10_readItems_40 rfl (lv_at hl 1 rfl) ?_
          refine lv_aload_n hx hb dX10_readItems_41 rfl (lv_at hl 0 rfl) ?_
          refine g_get (C := RX10) (T := TX10) (N := 44) (ci := 9) (v := .int (iI (σ 28 9))) hx hb hts in_X10_readItems_X10 hown hK hI 28 (by decide) (cel_28 cy ad _) rfl 9 (by decide) (by decide +kernel) rfl dX10_readItems_42 ?_
          have b_19 := bd_28_9 hF
          refine g_icmp_ge (tgt := 57) hx hb dX10_readItems_45 (by decide) (by omega) (by omega) (fun c_20 => ?_) (fun c_20 => ?_)
          · skip
            refine lv_iconst (v := iI 0) hx hb dX10_readItems_57 rfl ?_
            refine lv_istore_n (lv' := [(2, .int (iI 0)), (0, .ref (ad 28)), (1, .int (iI x1))]) hx hb dX10_readItems_58 rfl hl (by decide) rfl (fun ls hl => ?_)
            refine lv_iload_n hx hb dX10_readItems_59 rfl (lv_at hl 2 rfl) ?_
            refine lv_aload_n hx hb dX10_readItems_60 rfl (lv_at hl 1 rfl) ?_
            refine g_get (C := RX10) (T := TX10) (N := 44) (ci := 9) (v := .int (iI (σ 28 9))) hx hb hts in_X10_readItems_X10 hown hK hI 28 (by decide) (cel_28 cy ad _) rfl 9 (by decide) (by decide +kernel) rfl dX10_readItems_61 ?_
            have b_21 := bd_28_9 hF
            refine g_icmp_eq (tgt := 92) hx hb dX10_readItems_64 (by decide) (by omega) (by omega) (fun c_22 => ?_) (fun c_22 => ?_)
            · exact absurd c_22 c_5
            · skip
              refine lv_iload_n hx hb dX10_readItems_67 rfl (lv_at hl 0 rfl) ?_
              refine g_S (As := [.int (iI 0)]) (rest := []) (c_X10_isNameByte l D cy ad σ 0 (by omega)) hx hb hml hown hts hK hN hI hl.1 gX10_readItems_X10_isNameByte rfl hd_X10_isNameByte rfl rfl ⟨Nat.le_of_ble_eq_true rfl, Nat.le_of_ble_eq_true rfl⟩ ⟨Nat.zero_le _, Nat.zero_le _⟩ rfl rfl (Nat.le_of_ble_eq_true rfl) dX10_readItems_68 (fun H locs hG_23 hI => ?_)
              refine g_if_ne (tgt := 101) hx hb dX10_readItems_71 (by decide) (by omega) (fun c_24 => ?_) (fun c_24 => ?_)
              · skip
                refine lv_aload_n hx hb dX10_readItems_101 rfl (lv_at hl 1 rfl) ?_
                refine g_get (C := RX10) (T := TX10) (N := 44) (ci := 9) (v := .int (iI (σ 28 15))) hx hb hts in_X10_readItems_X10 hown hK hI 28 (by decide) (cel_28 cy ad _) rfl 15 (by decide) (by decide +kernel) rfl dX10_readItems_102 ?_
                have b_25 := bd_28_15 hF
                refine lv_bipush (v := iI 12) hx hb dX10_readItems_105 (iI_bip (by decide)) ?_
                refine g_icmp_ne (tgt := 119) hx hb dX10_readItems_107 (by decide) (by omega) (by omega) (fun c_26 => ?_) (fun c_26 => ?_)
                · skip
                  refine lv_aload_n hx hb dX10_readItems_119 rfl (lv_at hl 1 rfl) ?_
                  refine g_get (C := RX10) (T := TX10) (N := 44) (ci := 9) (v := .ref (ad 37)) hx hb hts in_X10_readItems_X10 hown hK hI 28 (by decide) (cel_28 cy ad _) rfl 17 (by decide) (by decide +kernel) rfl dX10_readItems_120 ?_
                  refine lv_aload_n hx hb dX10_readItems_123 rfl (lv_at hl 1 rfl) ?_
                  refine g_get (C := RX10) (T := TX10) (N := 44) (ci := 9) (v := .int (iI (σ 28 15))) hx hb hts in_X10_readItems_X10 hown hK hI 28 (by decide) (cel_28 cy ad _) rfl 15 (by decide) (by decide +kernel) rfl dX10_readItems_124 ?_
                  have b_27 := bd_28_15 hF
                  refine lv_iload_n hx hb dX10_readItems_127 rfl (lv_at hl 0 rfl) ?_
                  refine g_iast hx hb hK hI 37 (by decide) (cel_37 cy ad) (by omega) (by decide) (bw_37 (by omega)) dX10_readItems_128 (fun H locs hI => ?_)
                  have hF_28 : WF (up2 σ 37 ((σ 28 15).toNat) 0) := hI.2.2.2
                  refine lv_aload_n hx hb dX10_readItems_129 rfl (lv_at hl 1 rfl) ?_
                  refine lv_dup hx hb dX10_readItems_130 rfl ?_
                  refine g_get (C := RX10) (T := TX10) (N := 44) (ci := 9) (v := .int (iI (σ 28 15))) hx hb hts in_X10_readItems_X10 hown hK hI 28 (by decide) (cel_28 cy ad _) rfl 15 (by decide) (by decide +kernel) (by show some (Value.int (iI ((up2 σ 37 ((σ 28 15).toNat) 0) 28 15))) = _; rw [up2_cell _ _ _ (by decide)]) dX10_readItems_131 ?_
                  have b_29 := bd_28_15 hF
                  refine lv_iconst (v := iI 1) hx hb dX10_readItems_134 rfl ?_
                  refine g_iadd hx hb dX10_readItems_135 ?_
                  refine g_put (C := RX10) (T := TX10) (N := 44) (ci := 9) (ty := .int) (z := (σ 28 15) + 1) hx hb hts in_X10_readItems_X10 tyX10 tyX10_ok nmX10 hown hK hI 28 (by decide) (cel_28 cy ad) rfl 15 (by decide) (by decide +kernel) rfl (by decide +kernel) rfl rfl (Nat.le_of_ble_eq_true rfl) rfl (bw_28_15 (by omega)) dX10_readItems_136 (fun H locs hI => ?_)
                  have hF_30 := hI.2.2.2
                  refine lv_iinc (v := iI (x1 + 1)) (lv' := [(1, .int (iI (x1 + 1))), (2, .int (iI 0)), (0, .ref (ad 28))]) hx hb dX10_readItems_139 hl (k := 2) rfl (iI_add _ _) (by decide) rfl (fun ls hl => ?_)
                  refine lv_goto (tgt := 7) hx hb dX10_readItems_142 (by decide) ?_
                  have e9 : L_X10_readItems_7 (n + 1) x1 σ = L_X10_readItems_7 n (x1 + 1) (up2 (up2 σ 37 ((σ 28 15).toNat) 0) 28 15 ((σ 28 15) + 1)) := by rw [L_X10_readItems_7, if_pos c_3, if_neg c_5, if_neg c_18, if_pos c_20, if_neg c_24, if_neg c_26]
                  rw [e9] at hk
                  exact ih (x1 + 1) (up2 (up2 σ 37 ((σ 28 15).toNat) 0) 28 15 ((σ 28 15) + 1)) (by omega) (by first | omega | (simp [up2_at] <;> omega)) (by first | omega | (simp [up2_at] <;> omega)) _ _ _ hI (lv_sub hl [2, 0] rfl) hk
                · skip
                  refine lv_aload_n hx hb dX10_readItems_110 rfl (lv_at hl 1 rfl) ?_
                  refine lv_iconst (v := iI 2) hx hb dX10_readItems_111 rfl ?_
                  refine lv_iload_n hx hb dX10_readItems_112 rfl (lv_at hl 2 rfl) ?_
                  refine g_V (As := [.int (iI 2), .int (iI x1)]) (rest := []) 28 (c_X10_fails l D cy ad σ 2 (by omega) x1 (by omega)) hx hb hml hown hts hK hN hI hl.1 gX10_readItems_X10_fails rfl hd_X10_fails rfl rfl ⟨Nat.le_of_ble_eq_true rfl, Nat.le_of_ble_eq_true rfl⟩ ⟨Nat.zero_le _, Nat.zero_le _⟩ (by decide) (cel_28 cy ad _) rfl rfl rfl rfl (Nat.le_of_ble_eq_true rfl) dX10_readItems_113 (fun H locs hG_31 hI => ?_)
                  have hF_32 := hI.2.2.2
                  refine lv_goto (tgt := 142) hx hb dX10_readItems_116 (by decide) ?_
                  refine lv_goto (tgt := 7) hx hb dX10_readItems_142 (by decide) ?_
                  have e9 : L_X10_readItems_7 (n + 1) x1 σ = L_X10_readItems_7 n x1 (f_X10_fails σ 2 x1) := by rw [L_X10_readItems_7, if_pos c_3, if_neg c_5, if_neg c_18, if_pos c_20, if_neg c_24, if_pos c_26]
                  rw [e9] at hk
                  exact ih x1 (f_X10_fails σ 2 x1) (by omega) (by first | omega | (simp [up2_at] <;> omega)) (by first | omega | (simp [up2_at] <;> omega)) _ _ _ hI (lv_sub hl [1, 2] rfl) hk
              · skip
                refine lv_iload_n hx hb dX10_readItems_74 rfl (lv_at hl 0 rfl) ?_
                refine lv_bipush (v := iI 63) hx hb dX10_readItems_75 (iI_bip (by decide)) ?_
                refine g_icmp_eq (tgt := 101) hx hb dX10_readItems_77 (by decide) (by omega) (by omega) (fun c_33 => ?_) (fun c_33 => ?_)
                · exact absurd c_33 (by decide)
                · skip
                  refine lv_iload_n hx hb dX10_readItems_80 rfl (lv_at hl 0 rfl) ?_
                  refine lv_bipush (v := iI 42) hx hb dX10_readItems_81 (iI_bip (by decide)) ?_
                  refine g_icmp_eq (tgt := 101) hx hb dX10_readItems_83 (by decide) (by omega) (by omega) (fun c_34 => ?_) (fun c_34 => ?_)
                  · exact absurd c_34 (by decide)
                  · skip
                    refine lv_iload_n hx hb dX10_readItems_86 rfl (lv_at hl 0 rfl) ?_
                    refine lv_bipush (v := iI 35) hx hb dX10_readItems_87 (iI_bip (by decide)) ?_
                    refine g_icmp_eq (tgt := 101) hx hb dX10_readItems_89 (by decide) (by omega) (by omega) (fun c_35 => ?_) (fun c_35 => ?_)
                    · exact absurd c_35 (by decide)
                    · skip
                      refine lv_aload_n hx hb dX10_readItems_92 rfl (lv_at hl 1 rfl) ?_
                      refine lv_iconst (v := iI 1) hx hb dX10_readItems_93 rfl ?_
                      refine lv_iload_n hx hb dX10_readItems_94 rfl (lv_at hl 2 rfl) ?_
                      refine g_V (As := [.int (iI 1), .int (iI x1)]) (rest := []) 28 (c_X10_fails l D cy ad σ 1 (by omega) x1 (by omega)) hx hb hml hown hts hK hN hI hl.1 gX10_readItems_X10_fails rfl hd_X10_fails rfl rfl ⟨Nat.le_of_ble_eq_true rfl, Nat.le_of_ble_eq_true rfl⟩ ⟨Nat.zero_le _, Nat.zero_le _⟩ (by decide) (cel_28 cy ad _) rfl rfl rfl rfl (Nat.le_of_ble_eq_true rfl) dX10_readItems_95 (fun H locs hG_36 hI => ?_)
                      have hF_37 := hI.2.2.2
                      refine lv_goto (tgt := 142) hx hb dX10_readItems_98 (by decide) ?_
                      refine lv_goto (tgt := 7) hx hb dX10_readItems_142 (by decide) ?_
                      have e9 : L_X10_readItems_7 (n + 1) x1 σ = L_X10_readItems_7 n x1 (f_X10_fails σ 1 x1) := by rw [L_X10_readItems_7, if_pos c_3, if_neg c_5, if_neg c_18, if_pos c_20, if_pos c_24]
                      rw [e9] at hk
                      exact ih x1 (f_X10_fails σ 1 x1) (by omega) (by first | omega | (simp [up2_at] <;> omega)) (by first | omega | (simp [up2_at] <;> omega)) _ _ _ hI (lv_sub hl [1, 2] rfl) hk
          · skip
            refine lv_aload_n hx hb dX10_readItems_48 rfl (lv_at hl 0 rfl) ?_
            refine g_get (C := RX10) (T := TX10) (N := 44) (ci := 9) (v := .ref (ad 33)) hx hb hts in_X10_readItems_X10 hown hK hI 28 (by decide) (cel_28 cy ad _) rfl 8 (by decide) (by decide +kernel) rfl dX10_readItems_49 ?_
            refine lv_iload_n hx hb dX10_readItems_52 rfl (lv_at hl 1 rfl) ?_
            refine g_bald (v := σ 33 x1.toNat) hx hb hK hI 33 (by decide) (cel_33 cy ad) (by omega) (by decide) rfl dX10_readItems_53 ?_
            have b_38 := bd_33 hF x1.toNat
            refine lv_goto (tgt := 58) hx hb dX10_readItems_54 (by decide) ?_
            refine lv_istore_n (lv' := [(2, .int (iI (σ 33 x1.toNat))), (0, .ref (ad 28)), (1, .int (iI x1))]) hx hb dX10_readItems_58 rfl hl (by decide) rfl (fun ls hl => ?_)
            refine lv_iload_n hx hb dX10_readItems_59 rfl (lv_at hl 2 rfl) ?_
            refine lv_aload_n hx hb dX10_readItems_60 rfl (lv_at hl 1 rfl) ?_
            refine g_get (C := RX10) (T := TX10) (N := 44) (ci := 9) (v := .int (iI (σ 28 9))) hx hb hts in_X10_readItems_X10 hown hK hI 28 (by decide) (cel_28 cy ad _) rfl 9 (by decide) (by decide +kernel) rfl dX10_readItems_61 ?_
            have b_39 := bd_28_9 hF
            refine g_icmp_eq (tgt := 92) hx hb dX10_readItems_64 (by decide) (by omega) (by omega) (fun c_40 => ?_) (fun c_40 => ?_)
            · exact absurd c_40 c_5
            · skip
              refine lv_iload_n hx hb dX10_readItems_67 rfl (lv_at hl 0 rfl) ?_
              refine g_S (As := [.int (iI (σ 33 x1.toNat))]) (rest := []) (c_X10_isNameByte l D cy ad σ (σ 33 x1.toNat) (by omega)) hx hb hml hown hts hK hN hI hl.1 gX10_readItems_X10_isNameByte rfl hd_X10_isNameByte rfl rfl ⟨Nat.le_of_ble_eq_true rfl, Nat.le_of_ble_eq_true rfl⟩ ⟨Nat.zero_le _, Nat.zero_le _⟩ rfl rfl (Nat.le_of_ble_eq_true rfl) dX10_readItems_68 (fun H locs hG_41 hI => ?_)
              refine g_if_ne (tgt := 101) hx hb dX10_readItems_71 (by decide) (by omega) (fun c_42 => ?_) (fun c_42 => ?_)
              · skip
                refine lv_aload_n hx hb dX10_readItems_101 rfl (lv_at hl 1 rfl) ?_
                refine g_get (C := RX10) (T := TX10) (N := 44) (ci := 9) (v := .int (iI (σ 28 15))) hx hb hts in_X10_readItems_X10 hown hK hI 28 (by decide) (cel_28 cy ad _) rfl 15 (by decide) (by decide +kernel) rfl dX10_readItems_102 ?_
                have b_43 := bd_28_15 hF
                refine lv_bipush (v := iI 12) hx hb dX10_readItems_105 (iI_bip (by decide)) ?_
                refine g_icmp_ne (tgt := 119) hx hb dX10_readItems_107 (by decide) (by omega) (by omega) (fun c_44 => ?_) (fun c_44 => ?_)
                · skip
                  refine lv_aload_n hx hb dX10_readItems_119 rfl (lv_at hl 1 rfl) ?_
                  refine g_get (C := RX10) (T := TX10) (N := 44) (ci := 9) (v := .ref (ad 37)) hx hb hts in_X10_readItems_X10 hown hK hI 28 (by decide) (cel_28 cy ad _) rfl 17 (by decide) (by decide +kernel) rfl dX10_readItems_120 ?_
                  refine lv_aload_n hx hb dX10_readItems_123 rfl (lv_at hl 1 rfl) ?_
                  refine g_get (C := RX10) (T := TX10) (N := 44) (ci := 9) (v := .int (iI (σ 28 15))) hx hb hts in_X10_readItems_X10 hown hK hI 28 (by decide) (cel_28 cy ad _) rfl 15 (by decide) (by decide +kernel) rfl dX10_readItems_124 ?_
                  have b_45 := bd_28_15 hF
                  refine lv_iload_n hx hb dX10_readItems_127 rfl (lv_at hl 0 rfl) ?_
                  refine g_iast hx hb hK hI 37 (by decide) (cel_37 cy ad) (by omega) (by decide) (bw_37 (by omega)) dX10_readItems_128 (fun H locs hI => ?_)
                  have hF_46 : WF (up2 σ 37 ((σ 28 15).toNat) (σ 33 x1.toNat)) := hI.2.2.2
                  refine lv_aload_n hx hb dX10_readItems_129 rfl (lv_at hl 1 rfl) ?_
                  refine lv_dup hx hb dX10_readItems_130 rfl ?_
                  refine g_get (C := RX10) (T := TX10) (N := 44) (ci := 9) (v := .int (iI (σ 28 15))) hx hb hts in_X10_readItems_X10 hown hK hI 28 (by decide) (cel_28 cy ad _) rfl 15 (by decide) (by decide +kernel) (by show some (Value.int (iI ((up2 σ 37 ((σ 28 15).toNat) (σ 33 x1.toNat)) 28 15))) = _; rw [up2_cell _ _ _ (by decide)]) dX10_readItems_131 ?_
                  have b_47 := bd_28_15 hF
                  refine lv_iconst (v := iI 1) hx hb dX10_readItems_134 rfl ?_
                  refine g_iadd hx hb dX10_readItems_135 ?_
                  refine g_put (C := RX10) (T := TX10) (N := 44) (ci := 9) (ty := .int) (z := (σ 28 15) + 1) hx hb hts in_X10_readItems_X10 tyX10 tyX10_ok nmX10 hown hK hI 28 (by decide) (cel_28 cy ad) rfl 15 (by decide) (by decide +kernel) rfl (by decide +kernel) rfl rfl (Nat.le_of_ble_eq_true rfl) rfl (bw_28_15 (by omega)) dX10_readItems_136 (fun H locs hI => ?_)
                  have hF_48 := hI.2.2.2
                  refine lv_iinc (v := iI (x1 + 1)) (lv' := [(1, .int (iI (x1 + 1))), (2, .int (iI (σ 33 x1.toNat))), (0, .ref (ad 28))]) hx hb dX10_readItems_139 hl (k := 2) rfl (iI_add _ _) (by decide) rfl (fun ls hl => ?_)
                  refine lv_goto (tgt := 7) hx hb dX10_readItems_142 (by decide) ?_
                  have e9 : L_X10_readItems_7 (n + 1) x1 σ = L_X10_readItems_7 n (x1 + 1) (up2 (up2 σ 37 ((σ 28 15).toNat) (σ 33 x1.toNat)) 28 15 ((σ 28 15) + 1)) := by rw [L_X10_readItems_7, if_pos c_3, if_neg c_5, if_neg c_18, if_neg c_20, if_neg c_42, if_neg c_44]
                  rw [e9] at hk
                  exact ih (x1 + 1) (up2 (up2 σ 37 ((σ 28 15).toNat) (σ 33 x1.toNat)) 28 15 ((σ 28 15) + 1)) (by omega) (by first | omega | (simp [up2_at] <;> omega)) (by first | omega | (simp [up2_at] <;> omega)) _ _ _ hI (lv_sub hl [2, 0] rfl) hk
                · skip
                  refine lv_aload_n hx hb dX10_readItems_110 rfl (lv_at hl 1 rfl) ?_
                  refine lv_iconst (v := iI 2) hx hb dX10_readItems_111 rfl ?_
                  refine lv_iload_n hx hb dX10_readItems_112 rfl (lv_at hl 2 rfl) ?_
                  refine g_V (As := [.int (iI 2), .int (iI x1)]) (rest := []) 28 (c_X10_fails l D cy ad σ 2 (by omega) x1 (by omega)) hx hb hml hown hts hK hN hI hl.1 gX10_readItems_X10_fails rfl hd_X10_fails rfl rfl ⟨Nat.le_of_ble_eq_true rfl, Nat.le_of_ble_eq_true rfl⟩ ⟨Nat.zero_le _, Nat.zero_le _⟩ (by decide) (cel_28 cy ad _) rfl rfl rfl rfl (Nat.le_of_ble_eq_true rfl) dX10_readItems_113 (fun H locs hG_49 hI => ?_)
                  have hF_50 := hI.2.2.2
                  refine lv_goto (tgt := 142) hx hb dX10_readItems_116 (by decide) ?_
                  refine lv_goto (tgt := 7) hx hb dX10_readItems_142 (by decide) ?_
                  have e9 : L_X10_readItems_7 (n + 1) x1 σ = L_X10_readItems_7 n x1 (f_X10_fails σ 2 x1) := by rw [L_X10_readItems_7, if_pos c_3, if_neg c_5, if_neg c_18, if_neg c_20, if_neg c_42, if_pos c_44]
                  rw [e9] at hk
                  exact ih x1 (f_X10_fails σ 2 x1) (by omega) (by first | omega | (simp [up2_at] <;> omega)) (by first | omega | (simp [up2_at] <;> omega)) _ _ _ hI (lv_sub hl [1, 2] rfl) hk
              · skip
                refine lv_iload_n hx hb dX10_readItems_74 rfl (lv_at hl 0 rfl) ?_
                refine lv_bipush (v := iI 63) hx hb dX10_readItems_75 (iI_bip (by decide)) ?_
                refine g_icmp_eq (tgt := 101) hx hb dX10_readItems_77 (by decide) (by omega) (by omega) (fun c_51 => ?_) (fun c_51 => ?_)
                · skip
                  refine lv_aload_n hx hb dX10_readItems_101 rfl (lv_at hl 1 rfl) ?_
                  refine g_get (C := RX10) (T := TX10) (N := 44) (ci := 9) (v := .int (iI (σ 28 15))) hx hb hts in_X10_readItems_X10 hown hK hI 28 (by decide) (cel_28 cy ad _) rfl 15 (by decide) (by decide +kernel) rfl dX10_readItems_102 ?_
                  have b_52 := bd_28_15 hF
                  refine lv_bipush (v := iI 12) hx hb dX10_readItems_105 (iI_bip (by decide)) ?_
                  refine g_icmp_ne (tgt := 119) hx hb dX10_readItems_107 (by decide) (by omega) (by omega) (fun c_53 => ?_) (fun c_53 => ?_)
                  · skip
                    refine lv_aload_n hx hb dX10_readItems_119 rfl (lv_at hl 1 rfl) ?_
                    refine g_get (C := RX10) (T := TX10) (N := 44) (ci := 9) (v := .ref (ad 37)) hx hb hts in_X10_readItems_X10 hown hK hI 28 (by decide) (cel_28 cy ad _) rfl 17 (by decide) (by decide +kernel) rfl dX10_readItems_120 ?_
                    refine lv_aload_n hx hb dX10_readItems_123 rfl (lv_at hl 1 rfl) ?_
                    refine g_get (C := RX10) (T := TX10) (N := 44) (ci := 9) (v := .int (iI (σ 28 15))) hx hb hts in_X10_readItems_X10 hown hK hI 28 (by decide) (cel_28 cy ad _) rfl 15 (by decide) (by decide +kernel) rfl dX10_readItems_124 ?_
                    have b_54 := bd_28_15 hF
                    refine lv_iload_n hx hb dX10_readItems_127 rfl (lv_at hl 0 rfl) ?_
                    refine g_iast hx hb hK hI 37 (by decide) (cel_37 cy ad) (by omega) (by decide) (bw_37 (by omega)) dX10_readItems_128 (fun H locs hI => ?_)
                    have hF_55 : WF (up2 σ 37 ((σ 28 15).toNat) (σ 33 x1.toNat)) := hI.2.2.2
                    refine lv_aload_n hx hb dX10_readItems_129 rfl (lv_at hl 1 rfl) ?_
                    refine lv_dup hx hb dX10_readItems_130 rfl ?_
                    refine g_get (C := RX10) (T := TX10) (N := 44) (ci := 9) (v := .int (iI (σ 28 15))) hx hb hts in_X10_readItems_X10 hown hK hI 28 (by decide) (cel_28 cy ad _) rfl 15 (by decide) (by decide +kernel) (by show some (Value.int (iI ((up2 σ 37 ((σ 28 15).toNat) (σ 33 x1.toNat)) 28 15))) = _; rw [up2_cell _ _ _ (by decide)]) dX10_readItems_131 ?_
                    have b_56 := bd_28_15 hF
                    refine lv_iconst (v := iI 1) hx hb dX10_readItems_134 rfl ?_
                    refine g_iadd hx hb dX10_readItems_135 ?_
                    refine g_put (C := RX10) (T := TX10) (N := 44) (ci := 9) (ty := .int) (z := (σ 28 15) + 1) hx hb hts in_X10_readItems_X10 tyX10 tyX10_ok nmX10 hown hK hI 28 (by decide) (cel_28 cy ad) rfl 15 (by decide) (by decide +kernel) rfl (by decide +kernel) rfl rfl (Nat.le_of_ble_eq_true rfl) rfl (bw_28_15 (by omega)) dX10_readItems_136 (fun H locs hI => ?_)
                    have hF_57 := hI.2.2.2
                    refine lv_iinc (v := iI (x1 + 1)) (lv' := [(1, .int (iI (x1 + 1))), (2, .int (iI (σ 33 x1.toNat))), (0, .ref (ad 28))]) hx hb dX10_readItems_139 hl (k := 2) rfl (iI_add _ _) (by decide) rfl (fun ls hl => ?_)
                    refine lv_goto (tgt := 7) hx hb dX10_readItems_142 (by decide) ?_
                    have e9 : L_X10_readItems_7 (n + 1) x1 σ = L_X10_readItems_7 n (x1 + 1) (up2 (up2 σ 37 ((σ 28 15).toNat) (σ 33 x1.toNat)) 28 15 ((σ 28 15) + 1)) := by rw [L_X10_readItems_7, if_pos c_3, if_neg c_5, if_neg c_18, if_neg c_20, if_pos c_42, if_pos c_51, if_neg c_53]
                    rw [e9] at hk
                    exact ih (x1 + 1) (up2 (up2 σ 37 ((σ 28 15).toNat) (σ 33 x1.toNat)) 28 15 ((σ 28 15) + 1)) (by omega) (by first | omega | (simp [up2_at] <;> omega)) (by first | omega | (simp [up2_at] <;> omega)) _ _ _ hI (lv_sub hl [2, 0] rfl) hk
                  · skip
                    refine lv_aload_n hx hb dX10_readItems_110 rfl (lv_at hl 1 rfl) ?_
                    refine lv_iconst (v := iI 2) hx hb dX10_readItems_111 rfl ?_
                    refine lv_iload_n hx hb dX10_readItems_112 rfl (lv_at hl 2 rfl) ?_
                    refine g_V (As := [.int (iI 2), .int (iI x1)]) (rest := []) 28 (c_X10_fails l D cy ad σ 2 (by omega) x1 (by omega)) hx hb hml hown hts hK hN hI hl.1 gX10_readItems_X10_fails rfl hd_X10_fails rfl rfl ⟨Nat.le_of_ble_eq_true rfl, Nat.le_of_ble_eq_true rfl⟩ ⟨Nat.zero_le _, Nat.zero_le _⟩ (by decide) (cel_28 cy ad _) rfl rfl rfl rfl (Nat.le_of_ble_eq_true rfl) dX10_readItems_113 (fun H locs hG_58 hI => ?_)
                    have hF_59 := hI.2.2.2
                    refine lv_goto (tgt := 142) hx hb dX10_readItems_116 (by decide) ?_
                    refine lv_goto (tgt := 7) hx hb dX10_readItems_142 (by decide) ?_
                    have e9 : L_X10_readItems_7 (n + 1) x1 σ = L_X10_readItems_7 n x1 (f_X10_fails σ 2 x1) := by rw [L_X10_readItems_7, if_pos c_3, if_neg c_5, if_neg c_18, if_neg c_20, if_pos c_42, if_pos c_51, if_pos c_53]
                    rw [e9] at hk
                    exact ih x1 (f_X10_fails σ 2 x1) (by omega) (by first | omega | (simp [up2_at] <;> omega)) (by first | omega | (simp [up2_at] <;> omega)) _ _ _ hI (lv_sub hl [1, 2] rfl) hk
                · skip
                  refine lv_iload_n hx hb dX10_readItems_80 rfl (lv_at hl 0 rfl) ?_
                  refine lv_bipush (v := iI 42) hx hb dX10_readItems_81 (iI_bip (by decide)) ?_
                  refine g_icmp_eq (tgt := 101) hx hb dX10_readItems_83 (by decide) (by omega) (by omega) (fun c_60 => ?_) (fun c_60 => ?_)
                  · skip
                    refine lv_aload_n hx hb dX10_readItems_101 rfl (lv_at hl 1 rfl) ?_
                    refine g_get (C := RX10) (T := TX10) (N := 44) (ci := 9) (v := .int (iI (σ 28 15))) hx hb hts in_X10_readItems_X10 hown hK hI 28 (by decide) (cel_28 cy ad _) rfl 15 (by decide) (by decide +kernel) rfl dX10_readItems_102 ?_
                    have b_61 := bd_28_15 hF
                    refine lv_bipush (v := iI 12) hx hb dX10_readItems_105 (iI_bip (by decide)) ?_
                    refine g_icmp_ne (tgt := 119) hx hb dX10_readItems_107 (by decide) (by omega) (by omega) (fun c_62 => ?_) (fun c_62 => ?_)
                    · skip
                      refine lv_aload_n hx hb dX10_readItems_119 rfl (lv_at hl 1 rfl) ?_
                      refine g_get (C := RX10) (T := TX10) (N := 44) (ci := 9) (v := .ref (ad 37)) hx hb hts in_X10_readItems_X10 hown hK hI 28 (by decide) (cel_28 cy ad _) rfl 17 (by decide) (by decide +kernel) rfl dX10_readItems_120 ?_
                      refine lv_aload_n hx hb dX10_readItems_123 rfl (lv_at hl 1 rfl) ?_
                      refine g_get (C := RX10) (T := TX10) (N := 44) (ci := 9) (v := .int (iI (σ 28 15))) hx hb hts in_X10_readItems_X10 hown hK hI 28 (by decide) (cel_28 cy ad _) rfl 15 (by decide) (by decide +kernel) rfl dX10_readItems_124 ?_
                      have b_63 := bd_28_15 hF
                      refine lv_iload_n hx hb dX10_readItems_127 rfl (lv_at hl 0 rfl) ?_
                      refine g_iast hx hb hK hI 37 (by decide) (cel_37 cy ad) (by omega) (by decide) (bw_37 (by omega)) dX10_readItems_128 (fun H locs hI => ?_)
                      have hF_64 : WF (up2 σ 37 ((σ 28 15).toNat) (σ 33 x1.toNat)) := hI.2.2.2
                      refine lv_aload_n hx hb dX10_readItems_129 rfl (lv_at hl 1 rfl) ?_
                      refine lv_dup hx hb dX10_readItems_130 rfl ?_
                      refine g_get (C := RX10) (T := TX10) (N := 44) (ci := 9) (v := .int (iI (σ 28 15))) hx hb hts in_X10_readItems_X10 hown hK hI 28 (by decide) (cel_28 cy ad _) rfl 15 (by decide) (by decide +kernel) (by show some (Value.int (iI ((up2 σ 37 ((σ 28 15).toNat) (σ 33 x1.toNat)) 28 15))) = _; rw [up2_cell _ _ _ (by decide)]) dX10_readItems_131 ?_
                      have b_65 := bd_28_15 hF
                      refine lv_iconst (v := iI 1) hx hb dX10_readItems_134 rfl ?_
                      refine g_iadd hx hb dX10_readItems_135 ?_
                      refine g_put (C := RX10) (T := TX10) (N := 44) (ci := 9) (ty := .int) (z := (σ 28 15) + 1) hx hb hts in_X10_readItems_X10 tyX10 tyX10_ok nmX10 hown hK hI 28 (by decide) (cel_28 cy ad) rfl 15 (by decide) (by decide +kernel) rfl (by decide +kernel) rfl rfl (Nat.le_of_ble_eq_true rfl) rfl (bw_28_15 (by omega)) dX10_readItems_136 (fun H locs hI => ?_)
                      have hF_66 := hI.2.2.2
                      refine lv_iinc (v := iI (x1 + 1)) (lv' := [(1, .int (iI (x1 + 1))), (2, .int (iI (σ 33 x1.toNat))), (0, .ref (ad 28))]) hx hb dX10_readItems_139 hl (k := 2) rfl (iI_add _ _) (by decide) rfl (fun ls hl => ?_)
                      refine lv_goto (tgt := 7) hx hb dX10_readItems_142 (by decide) ?_
                      have e9 : L_X10_readItems_7 (n + 1) x1 σ = L_X10_readItems_7 n (x1 + 1) (up2 (up2 σ 37 ((σ 28 15).toNat) (σ 33 x1.toNat)) 28 15 ((σ 28 15) + 1)) := by rw [L_X10_readItems_7, if_pos c_3, if_neg c_5, if_neg c_18, if_neg c_20, if_pos c_42, if_neg c_51, if_pos c_60, if_neg c_62]
                      rw [e9] at hk
                      exact ih (x1 + 1) (up2 (up2 σ 37 ((σ 28 15).toNat) (σ 33 x1.toNat)) 28 15 ((σ 28 15) + 1)) (by omega) (by first | omega | (simp [up2_at] <;> omega)) (by first | omega | (simp [up2_at] <;> omega)) _ _ _ hI (lv_sub hl [2, 0] rfl) hk
                    · skip
                      refine lv_aload_n hx hb dX10_readItems_110 rfl (lv_at hl 1 rfl) ?_
                      refine lv_iconst (v := iI 2) hx hb dX10_readItems_111 rfl ?_
                      refine lv_iload_n hx hb dX10_readItems_112 rfl (lv_at hl 2 rfl) ?_
                      refine g_V (As := [.int (iI 2), .int (iI x1)]) (rest := []) 28 (c_X10_fails l D cy ad σ 2 (by omega) x1 (by omega)) hx hb hml hown hts hK hN hI hl.1 gX10_readItems_X10_fails rfl hd_X10_fails rfl rfl ⟨Nat.le_of_ble_eq_true rfl, Nat.le_of_ble_eq_true rfl⟩ ⟨Nat.zero_le _, Nat.zero_le _⟩ (by decide) (cel_28 cy ad _) rfl rfl rfl rfl (Nat.le_of_ble_eq_true rfl) dX10_readItems_113 (fun H locs hG_67 hI => ?_)
                      have hF_68 := hI.2.2.2
                      refine lv_goto (tgt := 142) hx hb dX10_readItems_116 (by decide) ?_
                      refine lv_goto (tgt := 7) hx hb dX10_readItems_142 (by decide) ?_
                      have e9 : L_X10_readItems_7 (n + 1) x1 σ = L_X10_readItems_7 n x1 (f_X10_fails σ 2 x1) := by rw [L_X10_readItems_7, if_pos c_3, if_neg c_5, if_neg c_18, if_neg c_20, if_pos c_42, if_neg c_51, if_pos c_60, if_pos c_62]
                      rw [e9] at hk
                      exact ih x1 (f_X10_fails σ 2 x1) (by omega) (by first | omega | (simp [up2_at] <;> omega)) (by first | omega | (simp [up2_at] <;> omega)) _ _ _ hI (lv_sub hl [1, 2] rfl) hk
                  · skip
                    refine lv_iload_n hx hb dX10_readItems_86 rfl (lv_at hl 0 rfl) ?_
                    refine lv_bipush (v := iI 35) hx hb dX10_readItems_87 (iI_bip (by decide)) ?_
                    refine g_icmp_eq (tgt := 101) hx hb dX10_readItems_89 (by decide) (by omega) (by omega) (fun c_69 => ?_) (fun c_69 => ?_)
                    · skip
                      refine lv_aload_n hx hb dX10_readItems_101 rfl (lv_at hl 1 rfl) ?_
                      refine g_get (C := RX10) (T := TX10) (N := 44) (ci := 9) (v := .int (iI (σ 28 15))) hx hb hts in_X10_readItems_X10 hown hK hI 28 (by decide) (cel_28 cy ad _) rfl 15 (by decide) (by decide +kernel) rfl dX10_readItems_102 ?_
                      have b_70 := bd_28_15 hF
                      refine lv_bipush (v := iI 12) hx hb dX10_readItems_105 (iI_bip (by decide)) ?_
                      refine g_icmp_ne (tgt := 119) hx hb dX10_readItems_107 (by decide) (by omega) (by omega) (fun c_71 => ?_) (fun c_71 => ?_)
                      · skip
                        refine lv_aload_n hx hb dX10_readItems_119 rfl (lv_at hl 1 rfl) ?_
                        refine g_get (C := RX10) (T := TX10) (N := 44) (ci := 9) (v := .ref (ad 37)) hx hb hts in_X10_readItems_X10 hown hK hI 28 (by decide) (cel_28 cy ad _) rfl 17 (by decide) (by decide +kernel) rfl dX10_readItems_120 ?_
                        refine lv_aload_n hx hb dX10_readItems_123 rfl (lv_at hl 1 rfl) ?_
                        refine g_get (C := RX10) (T := TX10) (N := 44) (ci := 9) (v := .int (iI (σ 28 15))) hx hb hts in_X10_readItems_X10 hown hK hI 28 (by decide) (cel_28 cy ad _) rfl 15 (by decide) (by decide +kernel) rfl dX10_readItems_124 ?_
                        have b_72 := bd_28_15 hF
                        refine lv_iload_n hx hb dX10_readItems_127 rfl (lv_at hl 0 rfl) ?_
                        refine g_iast hx hb hK hI 37 (by decide) (cel_37 cy ad) (by omega) (by decide) (bw_37 (by omega)) dX10_readItems_128 (fun H locs hI => ?_)
                        have hF_73 : WF (up2 σ 37 ((σ 28 15).toNat) (σ 33 x1.toNat)) := hI.2.2.2
                        refine lv_aload_n hx hb dX10_readItems_129 rfl (lv_at hl 1 rfl) ?_
                        refine lv_dup hx hb dX10_readItems_130 rfl ?_
                        refine g_get (C := RX10) (T := TX10) (N := 44) (ci := 9) (v := .int (iI (σ 28 15))) hx hb hts in_X10_readItems_X10 hown hK hI 28 (by decide) (cel_28 cy ad _) rfl 15 (by decide) (by decide +kernel) (by show some (Value.int (iI ((up2 σ 37 ((σ 28 15).toNat) (σ 33 x1.toNat)) 28 15))) = _; rw [up2_cell _ _ _ (by decide)]) dX10_readItems_131 ?_
                        have b_74 := bd_28_15 hF
                        refine lv_iconst (v := iI 1) hx hb dX10_readItems_134 rfl ?_
                        refine g_iadd hx hb dX10_readItems_135 ?_
                        refine g_put (C := RX10) (T := TX10) (N := 44) (ci := 9) (ty := .int) (z := (σ 28 15) + 1) hx hb hts in_X10_readItems_X10 tyX10 tyX10_ok nmX10 hown hK hI 28 (by decide) (cel_28 cy ad) rfl 15 (by decide) (by decide +kernel) rfl (by decide +kernel) rfl rfl (Nat.le_of_ble_eq_true rfl) rfl (bw_28_15 (by omega)) dX10_readItems_136 (fun H locs hI => ?_)
                        have hF_75 := hI.2.2.2
                        refine lv_iinc (v := iI (x1 + 1)) (lv' := [(1, .int (iI (x1 + 1))), (2, .int (iI (σ 33 x1.toNat))), (0, .ref (ad 28))]) hx hb dX10_readItems_139 hl (k := 2) rfl (iI_add _ _) (by decide) rfl (fun ls hl => ?_)
                        refine lv_goto (tgt := 7) hx hb dX10_readItems_142 (by decide) ?_
                        have e9 : L_X10_readItems_7 (n + 1) x1 σ = L_X10_readItems_7 n (x1 + 1) (up2 (up2 σ 37 ((σ 28 15).toNat) (σ 33 x1.toNat)) 28 15 ((σ 28 15) + 1)) := by rw [L_X10_readItems_7, if_pos c_3, if_neg c_5, if_neg c_18, if_neg c_20, if_pos c_42, if_neg c_51, if_neg c_60, if_pos c_69, if_neg c_71]
                        rw [e9] at hk
                        exact ih (x1 + 1) (up2 (up2 σ 37 ((σ 28 15).toNat) (σ 33 x1.toNat)) 28 15 ((σ 28 15) + 1)) (by omega) (by first | omega | (simp [up2_at] <;> omega)) (by first | omega | (simp [up2_at] <;> omega)) _ _ _ hI (lv_sub hl [2, 0] rfl) hk
                      · skip
                        refine lv_aload_n hx hb dX10_readItems_110 rfl (lv_at hl 1 rfl) ?_
                        refine lv_iconst (v := iI 2) hx hb dX10_readItems_111 rfl ?_
                        refine lv_iload_n hx hb dX10_readItems_112 rfl (lv_at hl 2 rfl) ?_
                        refine g_V (As := [.int (iI 2), .int (iI x1)]) (rest := []) 28 (c_X10_fails l D cy ad σ 2 (by omega) x1 (by omega)) hx hb hml hown hts hK hN hI hl.1 gX10_readItems_X10_fails rfl hd_X10_fails rfl rfl ⟨Nat.le_of_ble_eq_true rfl, Nat.le_of_ble_eq_true rfl⟩ ⟨Nat.zero_le _, Nat.zero_le _⟩ (by decide) (cel_28 cy ad _) rfl rfl rfl rfl (Nat.le_of_ble_eq_true rfl) dX10_readItems_113 (fun H locs hG_76 hI => ?_)
                        have hF_77 := hI.2.2.2
                        refine lv_goto (tgt := 142) hx hb dX10_readItems_116 (by decide) ?_
                        refine lv_goto (tgt := 7) hx hb dX10_readItems_142 (by decide) ?_
                        have e9 : L_X10_readItems_7 (n + 1) x1 σ = L_X10_readItems_7 n x1 (f_X10_fails σ 2 x1) := by rw [L_X10_readItems_7, if_pos c_3, if_neg c_5, if_neg c_18, if_neg c_20, if_pos c_42, if_neg c_51, if_neg c_60, if_pos c_69, if_pos c_71]
                        rw [e9] at hk
                        exact ih x1 (f_X10_fails σ 2 x1) (by omega) (by first | omega | (simp [up2_at] <;> omega)) (by first | omega | (simp [up2_at] <;> omega)) _ _ _ hI (lv_sub hl [1, 2] rfl) hk
                    · skip
                      refine lv_aload_n hx hb dX10_readItems_92 rfl (lv_at hl 1 rfl) ?_
                      refine lv_iconst (v := iI 1) hx hb dX10_readItems_93 rfl ?_
                      refine lv_iload_n hx hb dX10_readItems_94 rfl (lv_at hl 2 rfl) ?_
                      refine g_V (As := [.int (iI 1), .int (iI x1)]) (rest := []) 28 (c_X10_fails l D cy ad σ 1 (by omega) x1 (by omega)) hx hb hml hown hts hK hN hI hl.1 gX10_readItems_X10_fails rfl hd_X10_fails rfl rfl ⟨Nat.le_of_ble_eq_true rfl, Nat.le_of_ble_eq_true rfl⟩ ⟨Nat.zero_le _, Nat.zero_le _⟩ (by decide) (cel_28 cy ad _) rfl rfl rfl rfl (Nat.le_of_ble_eq_true rfl) dX10_readItems_95 (fun H locs hG_78 hI => ?_)
                      have hF_79 := hI.2.2.2
                      refine lv_goto (tgt := 142) hx hb dX10_readItems_98 (by decide) ?_
                      refine lv_goto (tgt := 7) hx hb dX10_readItems_142 (by decide) ?_
                      have e9 : L_X10_readItems_7 (n + 1) x1 σ = L_X10_readItems_7 n x1 (f_X10_fails σ 1 x1) := by rw [L_X10_readItems_7, if_pos c_3, if_neg c_5, if_neg c_18, if_neg c_20, if_pos c_42, if_neg c_51, if_neg c_60, if_neg c_69]
                      rw [e9] at hk
                      exact ih x1 (f_X10_fails σ 1 x1) (by omega) (by first | omega | (simp [up2_at] <;> omega)) (by first | omega | (simp [up2_at] <;> omega)) _ _ _ hI (lv_sub hl [1, 2] rfl) hk
        · skip
          refine lv_aload_n hx hb dX10_readItems_33 rfl (lv_at hl 0 rfl) ?_
          refine g_get (C := RX10) (T := TX10) (N := 44) (ci := 9) (v := .int (iI (σ 28 15))) hx hb hts in_X10_readItems_X10 hown hK hI 28 (by decide) (cel_28 cy ad _) rfl 15 (by decide) (by decide +kernel) rfl dX10_readItems_34 ?_
          have b_80 := bd_28_15 hF
          refine g_if_ne (tgt := 145) hx hb dX10_readItems_37 (by decide) (by omega) (fun c_81 => ?_) (fun c_81 => ?_)
          · skip
            have e9 : L_X10_readItems_7 (n + 1) x1 σ = (x1, σ) := by rw [L_X10_readItems_7, if_pos c_3, if_neg c_5, if_pos c_18, if_neg c_81]
            rw [e9] at hk
            exact hk _ _ _ (by first | (omega) | (dsimp only; omega)) hI (lv_sub hl [1] rfl)
          · skip
            refine lv_iload_n hx hb dX10_readItems_40 rfl (lv_at hl 1 rfl) ?_
            refine lv_aload_n hx hb dX10_readItems_41 rfl (lv_at hl 0 rfl) ?_
            refine g_get (C := RX10) (T := TX10) (N := 44) (ci := 9) (v := .int (iI (σ 28 9))) hx hb hts in_X10_readItems_X10 hown hK hI 28 (by decide) (cel_28 cy ad _) rfl 9 (by decide) (by decide +kernel) rfl dX10_readItems_42 ?_
            have b_82 := bd_28_9 hF
            refine g_icmp_ge (tgt := 57) hx hb dX10_readItems_45 (by decide) (by omega) (by omega) (fun c_83 => ?_) (fun c_83 => ?_)
            · skip
              refine lv_iconst (v := iI 0) hx hb dX10_readItems_57 rfl ?_
              refine lv_istore_n (lv' := [(2, .int (iI 0)), (0, .ref (ad 28)), (1, .int (iI x1))]) hx hb dX10_readItems_58 rfl hl (by decide) rfl (fun ls hl => ?_)
              refine lv_iload_n hx hb dX10_readItems_59 rfl (lv_at hl 2 rfl) ?_
              refine lv_aload_n hx hb dX10_readItems_60 rfl (lv_at hl 1 rfl) ?_
              refine g_get (C := RX10) (T := TX10) (N := 44) (ci := 9) (v := .int (iI (σ 28 9))) hx hb hts in_X10_readItems_X10 hown hK hI 28 (by decide) (cel_28 cy ad _) rfl 9 (by decide) (by decide +kernel) rfl dX10_readItems_61 ?_
              have b_84 := bd_28_9 hF
              refine g_icmp_eq (tgt := 92) hx hb dX10_readItems_64 (by decide) (by omega) (by omega) (fun c_85 => ?_) (fun c_85 => ?_)
              · exact absurd c_85 c_5
              · skip
                refine lv_iload_n hx hb dX10_readItems_67 rfl (lv_at hl 0 rfl) ?_
                refine g_S (As := [.int (iI 0)]) (rest := []) (c_X10_isNameByte l D cy ad σ 0 (by omega)) hx hb hml hown hts hK hN hI hl.1 gX10_readItems_X10_isNameByte rfl hd_X10_isNameByte rfl rfl ⟨Nat.le_of_ble_eq_true rfl, Nat.le_of_ble_eq_true rfl⟩ ⟨Nat.zero_le _, Nat.zero_le _⟩ rfl rfl (Nat.le_of_ble_eq_true rfl) dX10_readItems_68 (fun H locs hG_86 hI => ?_)
                refine g_if_ne (tgt := 101) hx hb dX10_readItems_71 (by decide) (by omega) (fun c_87 => ?_) (fun c_87 => ?_)
                · skip
                  refine lv_aload_n hx hb dX10_readItems_101 rfl (lv_at hl 1 rfl) ?_
                  refine g_get (C := RX10) (T := TX10) (N := 44) (ci := 9) (v := .int (iI (σ 28 15))) hx hb hts in_X10_readItems_X10 hown hK hI 28 (by decide) (cel_28 cy ad _) rfl 15 (by decide) (by decide +kernel) rfl dX10_readItems_102 ?_
                  have b_88 := bd_28_15 hF
                  refine lv_bipush (v := iI 12) hx hb dX10_readItems_105 (iI_bip (by decide)) ?_
                  refine g_icmp_ne (tgt := 119) hx hb dX10_readItems_107 (by decide) (by omega) (by omega) (fun c_89 => ?_) (fun c_89 => ?_)
                  · skip
                    refine lv_aload_n hx hb dX10_readItems_119 rfl (lv_at hl 1 rfl) ?_
                    refine g_get (C := RX10) (T := TX10) (N := 44) (ci := 9) (v := .ref (ad 37)) hx hb hts in_X10_readItems_X10 hown hK hI 28 (by decide) (cel_28 cy ad _) rfl 17 (by decide) (by decide +kernel) rfl dX10_readItems_120 ?_
                    refine lv_aload_n hx hb dX10_readItems_123 rfl (lv_at hl 1 rfl) ?_
                    refine g_get (C := RX10) (T := TX10) (N := 44) (ci := 9) (v := .int (iI (σ 28 15))) hx hb hts in_X10_readItems_X10 hown hK hI 28 (by decide) (cel_28 cy ad _) rfl 15 (by decide) (by decide +kernel) rfl dX10_readItems_124 ?_
                    have b_90 := bd_28_15 hF
                    refine lv_iload_n hx hb dX10_readItems_127 rfl (lv_at hl 0 rfl) ?_
                    refine g_iast hx hb hK hI 37 (by decide) (cel_37 cy ad) (by omega) (by decide) (bw_37 (by omega)) dX10_readItems_128 (fun H locs hI => ?_)
                    have hF_91 : WF (up2 σ 37 ((σ 28 15).toNat) 0) := hI.2.2.2
                    refine lv_aload_n hx hb dX10_readItems_129 rfl (lv_at hl 1 rfl) ?_
                    refine lv_dup hx hb dX10_readItems_130 rfl ?_
                    refine g_get (C := RX10) (T := TX10) (N := 44) (ci := 9) (v := .int (iI (σ 28 15))) hx hb hts in_X10_readItems_X10 hown hK hI 28 (by decide) (cel_28 cy ad _) rfl 15 (by decide) (by decide +kernel) (by show some (Value.int (iI ((up2 σ 37 ((σ 28 15).toNat) 0) 28 15))) = _; rw [up2_cell _ _ _ (by decide)]) dX10_readItems_131 ?_
                    have b_92 := bd_28_15 hF
                    refine lv_iconst (v := iI 1) hx hb dX10_readItems_134 rfl ?_
                    refine g_iadd hx hb dX10_readItems_135 ?_
                    refine g_put (C := RX10) (T := TX10) (N := 44) (ci := 9) (ty := .int) (z := (σ 28 15) + 1) hx hb hts in_X10_readItems_X10 tyX10 tyX10_ok nmX10 hown hK hI 28 (by decide) (cel_28 cy ad) rfl 15 (by decide) (by decide +kernel) rfl (by decide +kernel) rfl rfl (Nat.le_of_ble_eq_true rfl) rfl (bw_28_15 (by omega)) dX10_readItems_136 (fun H locs hI => ?_)
                    have hF_93 := hI.2.2.2
                    refine lv_iinc (v := iI (x1 + 1)) (lv' := [(1, .int (iI (x1 + 1))), (2, .int (iI 0)), (0, .ref (ad 28))]) hx hb dX10_readItems_139 hl (k := 2) rfl (iI_add _ _) (by decide) rfl (fun ls hl => ?_)
                    refine lv_goto (tgt := 7) hx hb dX10_readItems_142 (by decide) ?_
                    have e9 : L_X10_readItems_7 (n + 1) x1 σ = L_X10_readItems_7 n (x1 + 1) (up2 (up2 σ 37 ((σ 28 15).toNat) 0) 28 15 ((σ 28 15) + 1)) := by rw [L_X10_readItems_7, if_pos c_3, if_neg c_5, if_pos c_18, if_pos c_81, if_pos c_83, if_neg c_87, if_neg c_89]
                    rw [e9] at hk
                    exact ih (x1 + 1) (up2 (up2 σ 37 ((σ 28 15).toNat) 0) 28 15 ((σ 28 15) + 1)) (by omega) (by first | omega | (simp [up2_at] <;> omega)) (by first | omega | (simp [up2_at] <;> omega)) _ _ _ hI (lv_sub hl [2, 0] rfl) hk
                  · skip
                    refine lv_aload_n hx hb dX10_readItems_110 rfl (lv_at hl 1 rfl) ?_
                    refine lv_iconst (v := iI 2) hx hb dX10_readItems_111 rfl ?_
                    refine lv_iload_n hx hb dX10_readItems_112 rfl (lv_at hl 2 rfl) ?_
                    refine g_V (As := [.int (iI 2), .int (iI x1)]) (rest := []) 28 (c_X10_fails l D cy ad σ 2 (by omega) x1 (by omega)) hx hb hml hown hts hK hN hI hl.1 gX10_readItems_X10_fails rfl hd_X10_fails rfl rfl ⟨Nat.le_of_ble_eq_true rfl, Nat.le_of_ble_eq_true rfl⟩ ⟨Nat.zero_le _, Nat.zero_le _⟩ (by decide) (cel_28 cy ad _) rfl rfl rfl rfl (Nat.le_of_ble_eq_true rfl) dX10_readItems_113 (fun H locs hG_94 hI => ?_)
                    have hF_95 := hI.2.2.2
                    refine lv_goto (tgt := 142) hx hb dX10_readItems_116 (by decide) ?_
                    refine lv_goto (tgt := 7) hx hb dX10_readItems_142 (by decide) ?_
                    have e9 : L_X10_readItems_7 (n + 1) x1 σ = L_X10_readItems_7 n x1 (f_X10_fails σ 2 x1) := by rw [L_X10_readItems_7, if_pos c_3, if_neg c_5, if_pos c_18, if_pos c_81, if_pos c_83, if_neg c_87, if_pos c_89]
                    rw [e9] at hk
                    exact ih x1 (f_X10_fails σ 2 x1) (by omega) (by first | omega | (simp [up2_at] <;> omega)) (by first | omega | (simp [up2_at] <;> omega)) _ _ _ hI (lv_sub hl [1, 2] rfl) hk
                · skip
                  refine lv_iload_n hx hb dX10_readItems_74 rfl (lv_at hl 0 rfl) ?_
                  refine lv_bipush (v := iI 63) hx hb dX10_readItems_75 (iI_bip (by decide)) ?_
                  refine g_icmp_eq (tgt := 101) hx hb dX10_readItems_77 (by decide) (by omega) (by omega) (fun c_96 => ?_) (fun c_96 => ?_)
                  · exact absurd c_96 (by decide)
                  · skip
                    refine lv_iload_n hx hb dX10_readItems_80 rfl (lv_at hl 0 rfl) ?_
                    refine lv_bipush (v := iI 42) hx hb dX10_readItems_81 (iI_bip (by decide)) ?_
                    refine g_icmp_eq (tgt := 101) hx hb dX10_readItems_83 (by decide) (by omega) (by omega) (fun c_97 => ?_) (fun c_97 => ?_)
                    · exact absurd c_97 (by decide)
                    · skip
                      refine lv_iload_n hx hb dX10_readItems_86 rfl (lv_at hl 0 rfl) ?_
                      refine lv_bipush (v := iI 35) hx hb dX10_readItems_87 (iI_bip (by decide)) ?_
                      refine g_icmp_eq (tgt := 101) hx hb dX10_readItems_89 (by decide) (by omega) (by omega) (fun c_98 => ?_) (fun c_98 => ?_)
                      · exact absurd c_98 (by decide)
                      · skip
                        refine lv_aload_n hx hb dX10_readItems_92 rfl (lv_at hl 1 rfl) ?_
                        refine lv_iconst (v := iI 1) hx hb dX10_readItems_93 rfl ?_
                        refine lv_iload_n hx hb dX10_readItems_94 rfl (lv_at hl 2 rfl) ?_
                        refine g_V (As := [.int (iI 1), .int (iI x1)]) (rest := []) 28 (c_X10_fails l D cy ad σ 1 (by omega) x1 (by omega)) hx hb hml hown hts hK hN hI hl.1 gX10_readItems_X10_fails rfl hd_X10_fails rfl rfl ⟨Nat.le_of_ble_eq_true rfl, Nat.le_of_ble_eq_true rfl⟩ ⟨Nat.zero_le _, Nat.zero_le _⟩ (by decide) (cel_28 cy ad _) rfl rfl rfl rfl (Nat.le_of_ble_eq_true rfl) dX10_readItems_95 (fun H locs hG_99 hI => ?_)
                        have hF_100 := hI.2.2.2
                        refine lv_goto (tgt := 142) hx hb dX10_readItems_98 (by decide) ?_
                        refine lv_goto (tgt := 7) hx hb dX10_readItems_142 (by decide) ?_
                        have e9 : L_X10_readItems_7 (n + 1) x1 σ = L_X10_readItems_7 n x1 (f_X10_fails σ 1 x1) := by rw [L_X10_readItems_7, if_pos c_3, if_neg c_5, if_pos c_18, if_pos c_81, if_pos c_83, if_pos c_87]
                        rw [e9] at hk
                        exact ih x1 (f_X10_fails σ 1 x1) (by omega) (by first | omega | (simp [up2_at] <;> omega)) (by first | omega | (simp [up2_at] <;> omega)) _ _ _ hI (lv_sub hl [1, 2] rfl) hk
            · skip
              refine lv_aload_n hx hb dX10_readItems_48 rfl (lv_at hl 0 rfl) ?_
              refine g_get (C := RX10) (T := TX10) (N := 44) (ci := 9) (v := .ref (ad 33)) hx hb hts in_X10_readItems_X10 hown hK hI 28 (by decide) (cel_28 cy ad _) rfl 8 (by decide) (by decide +kernel) rfl dX10_readItems_49 ?_
              refine lv_iload_n hx hb dX10_readItems_52 rfl (lv_at hl 1 rfl) ?_
              refine g_bald (v := σ 33 x1.toNat) hx hb hK hI 33 (by decide) (cel_33 cy ad) (by omega) (by decide) rfl dX10_readItems_53 ?_
              have b_101 := bd_33 hF x1.toNat
              refine lv_goto (tgt := 58) hx hb dX10_readItems_54 (by decide) ?_
              refine lv_istore_n (lv' := [(2, .int (iI (σ 33 x1.toNat))), (0, .ref (ad 28)), (1, .int (iI x1))]) hx hb dX10_readItems_58 rfl hl (by decide) rfl (fun ls hl => ?_)
              refine lv_iload_n hx hb dX10_readItems_59 rfl (lv_at hl 2 rfl) ?_
              refine lv_aload_n hx hb dX10_readItems_60 rfl (lv_at hl 1 rfl) ?_
              refine g_get (C := RX10) (T := TX10) (N := 44) (ci := 9) (v := .int (iI (σ 28 9))) hx hb hts in_X10_readItems_X10 hown hK hI 28 (by decide) (cel_28 cy ad _) rfl 9 (by decide) (by decide +kernel) rfl dX10_readItems_61 ?_
              have b_102 := bd_28_9 hF
              refine g_icmp_eq (tgt := 92) hx hb dX10_readItems_64 (by decide) (by omega) (by omega) (fun c_103 => ?_) (fun c_103 => ?_)
              · exact absurd c_103 c_5
              · skip
                refine lv_iload_n hx hb dX10_readItems_67 rfl (lv_at hl 0 rfl) ?_
                refine g_S (As := [.int (iI (σ 33 x1.toNat))]) (rest := []) (c_X10_isNameByte l D cy ad σ (σ 33 x1.toNat) (by omega)) hx hb hml hown hts hK hN hI hl.1 gX10_readItems_X10_isNameByte rfl hd_X10_isNameByte rfl rfl ⟨Nat.le_of_ble_eq_true rfl, Nat.le_of_ble_eq_true rfl⟩ ⟨Nat.zero_le _, Nat.zero_le _⟩ rfl rfl (Nat.le_of_ble_eq_true rfl) dX10_readItems_68 (fun H locs hG_104 hI => ?_)
                refine g_if_ne (tgt := 101) hx hb dX10_readItems_71 (by decide) (by omega) (fun c_105 => ?_) (fun c_105 => ?_)
                · skip
                  refine lv_aload_n hx hb dX10_readItems_101 rfl (lv_at hl 1 rfl) ?_
                  refine g_get (C := RX10) (T := TX10) (N := 44) (ci := 9) (v := .int (iI (σ 28 15))) hx hb hts in_X10_readItems_X10 hown hK hI 28 (by decide) (cel_28 cy ad _) rfl 15 (by decide) (by decide +kernel) rfl dX10_readItems_102 ?_
                  have b_106 := bd_28_15 hF
                  refine lv_bipush (v := iI 12) hx hb dX10_readItems_105 (iI_bip (by decide)) ?_
                  refine g_icmp_ne (tgt := 119) hx hb dX10_readItems_107 (by decide) (by omega) (by omega) (fun c_107 => ?_) (fun c_107 => ?_)
                  · skip
                    refine lv_aload_n hx hb dX10_readItems_119 rfl (lv_at hl 1 rfl) ?_
                    refine g_get (C := RX10) (T := TX10) (N := 44) (ci := 9) (v := .ref (ad 37)) hx hb hts in_X10_readItems_X10 hown hK hI 28 (by decide) (cel_28 cy ad _) rfl 17 (by decide) (by decide +kernel) rfl dX10_readItems_120 ?_
                    refine lv_aload_n hx hb dX10_readItems_123 rfl (lv_at hl 1 rfl) ?_
                    refine g_get (C := RX10) (T := TX10) (N := 44) (ci := 9) (v := .int (iI (σ 28 15))) hx hb hts in_X10_readItems_X10 hown hK hI 28 (by decide) (cel_28 cy ad _) rfl 15 (by decide) (by decide +kernel) rfl dX10_readItems_124 ?_
                    have b_108 := bd_28_15 hF
                    refine lv_iload_n hx hb dX10_readItems_127 rfl (lv_at hl 0 rfl) ?_
                    refine g_iast hx hb hK hI 37 (by decide) (cel_37 cy ad) (by omega) (by decide) (bw_37 (by omega)) dX10_readItems_128 (fun H locs hI => ?_)
                    have hF_109 : WF (up2 σ 37 ((σ 28 15).toNat) (σ 33 x1.toNat)) := hI.2.2.2
                    refine lv_aload_n hx hb dX10_readItems_129 rfl (lv_at hl 1 rfl) ?_
                    refine lv_dup hx hb dX10_readItems_130 rfl ?_
                    refine g_get (C := RX10) (T := TX10) (N := 44) (ci := 9) (v := .int (iI (σ 28 15))) hx hb hts in_X10_readItems_X10 hown hK hI 28 (by decide) (cel_28 cy ad _) rfl 15 (by decide) (by decide +kernel) (by show some (Value.int (iI ((up2 σ 37 ((σ 28 15).toNat) (σ 33 x1.toNat)) 28 15))) = _; rw [up2_cell _ _ _ (by decide)]) dX10_readItems_131 ?_
                    have b_110 := bd_28_15 hF
                    refine lv_iconst (v := iI 1) hx hb dX10_readItems_134 rfl ?_
                    refine g_iadd hx hb dX10_readItems_135 ?_
                    refine g_put (C := RX10) (T := TX10) (N := 44) (ci := 9) (ty := .int) (z := (σ 28 15) + 1) hx hb hts in_X10_readItems_X10 tyX10 tyX10_ok nmX10 hown hK hI 28 (by decide) (cel_28 cy ad) rfl 15 (by decide) (by decide +kernel) rfl (by decide +kernel) rfl rfl (Nat.le_of_ble_eq_true rfl) rfl (bw_28_15 (by omega)) dX10_readItems_136 (fun H locs hI => ?_)
                    have hF_111 := hI.2.2.2
                    refine lv_iinc (v := iI (x1 + 1)) (lv' := [(1, .int (iI (x1 + 1))), (2, .int (iI (σ 33 x1.toNat))), (0, .ref (ad 28))]) hx hb dX10_readItems_139 hl (k := 2) rfl (iI_add _ _) (by decide) rfl (fun ls hl => ?_)
                    refine lv_goto (tgt := 7) hx hb dX10_readItems_142 (by decide) ?_
                    have e9 : L_X10_readItems_7 (n + 1) x1 σ = L_X10_readItems_7 n (x1 + 1) (up2 (up2 σ 37 ((σ 28 15).toNat) (σ 33 x1.toNat)) 28 15 ((σ 28 15) + 1)) := by rw [L_X10_readItems_7, if_pos c_3, if_neg c_5, if_pos c_18, if_pos c_81, if_neg c_83, if_neg c_105, if_neg c_107]
                    rw [e9] at hk
                    exact ih (x1 + 1) (up2 (up2 σ 37 ((σ 28 15).toNat) (σ 33 x1.toNat)) 28 15 ((σ 28 15) + 1)) (by omega) (by first | omega | (simp [up2_at] <;> omega)) (by first | omega | (simp [up2_at] <;> omega)) _ _ _ hI (lv_sub hl [2, 0] rfl) hk
                  · skip
                    refine lv_aload_n hx hb dX10_readItems_110 rfl (lv_at hl 1 rfl) ?_
                    refine lv_iconst (v := iI 2) hx hb dX10_readItems_111 rfl ?_
                    refine lv_iload_n hx hb dX10_readItems_112 rfl (lv_at hl 2 rfl) ?_
                    refine g_V (As := [.int (iI 2), .int (iI x1)]) (rest := []) 28 (c_X10_fails l D cy ad σ 2 (by omega) x1 (by omega)) hx hb hml hown hts hK hN hI hl.1 gX10_readItems_X10_fails rfl hd_X10_fails rfl rfl ⟨Nat.le_of_ble_eq_true rfl, Nat.le_of_ble_eq_true rfl⟩ ⟨Nat.zero_le _, Nat.zero_le _⟩ (by decide) (cel_28 cy ad _) rfl rfl rfl rfl (Nat.le_of_ble_eq_true rfl) dX10_readItems_113 (fun H locs hG_112 hI => ?_)
                    have hF_113 := hI.2.2.2
                    refine lv_goto (tgt := 142) hx hb dX10_readItems_116 (by decide) ?_
                    refine lv_goto (tgt := 7) hx hb dX10_readItems_142 (by decide) ?_
                    have e9 : L_X10_readItems_7 (n + 1) x1 σ = L_X10_readItems_7 n x1 (f_X10_fails σ 2 x1) := by rw [L_X10_readItems_7, if_pos c_3, if_neg c_5, if_pos c_18, if_pos c_81, if_neg c_83, if_neg c_105, if_pos c_107]
                    rw [e9] at hk
                    exact ih x1 (f_X10_fails σ 2 x1) (by omega) (by first | omega | (simp [up2_at] <;> omega)) (by first | omega | (simp [up2_at] <;> omega)) _ _ _ hI (lv_sub hl [1, 2] rfl) hk
                · skip
                  refine lv_iload_n hx hb dX10_readItems_74 rfl (lv_at hl 0 rfl) ?_
                  refine lv_bipush (v := iI 63) hx hb dX10_readItems_75 (iI_bip (by decide)) ?_
                  refine g_icmp_eq (tgt := 101) hx hb dX10_readItems_77 (by decide) (by omega) (by omega) (fun c_114 => ?_) (fun c_114 => ?_)
                  · skip
                    refine lv_aload_n hx hb dX10_readItems_101 rfl (lv_at hl 1 rfl) ?_
                    refine g_get (C := RX10) (T := TX10) (N := 44) (ci := 9) (v := .int (iI (σ 28 15))) hx hb hts in_X10_readItems_X10 hown hK hI 28 (by decide) (cel_28 cy ad _) rfl 15 (by decide) (by decide +kernel) rfl dX10_readItems_102 ?_
                    have b_115 := bd_28_15 hF
                    refine lv_bipush (v := iI 12) hx hb dX10_readItems_105 (iI_bip (by decide)) ?_
                    refine g_icmp_ne (tgt := 119) hx hb dX10_readItems_107 (by decide) (by omega) (by omega) (fun c_116 => ?_) (fun c_116 => ?_)
                    · skip
                      refine lv_aload_n hx hb dX10_readItems_119 rfl (lv_at hl 1 rfl) ?_
                      refine g_get (C := RX10) (T := TX10) (N := 44) (ci := 9) (v := .ref (ad 37)) hx hb hts in_X10_readItems_X10 hown hK hI 28 (by decide) (cel_28 cy ad _) rfl 17 (by decide) (by decide +kernel) rfl dX10_readItems_120 ?_
                      refine lv_aload_n hx hb dX10_readItems_123 rfl (lv_at hl 1 rfl) ?_
                      refine g_get (C := RX10) (T := TX10) (N := 44) (ci := 9) (v := .int (iI (σ 28 15))) hx hb hts in_X10_readItems_X10 hown hK hI 28 (by decide) (cel_28 cy ad _) rfl 15 (by decide) (by decide +kernel) rfl dX10_readItems_124 ?_
                      have b_117 := bd_28_15 hF
                      refine lv_iload_n hx hb dX10_readItems_127 rfl (lv_at hl 0 rfl) ?_
                      refine g_iast hx hb hK hI 37 (by decide) (cel_37 cy ad) (by omega) (by decide) (bw_37 (by omega)) dX10_readItems_128 (fun H locs hI => ?_)
                      have hF_118 : WF (up2 σ 37 ((σ 28 15).toNat) (σ 33 x1.toNat)) := hI.2.2.2
                      refine lv_aload_n hx hb dX10_readItems_129 rfl (lv_at hl 1 rfl) ?_
                      refine lv_dup hx hb dX10_readItems_130 rfl ?_
                      refine g_get (C := RX10) (T := TX10) (N := 44) (ci := 9) (v := .int (iI (σ 28 15))) hx hb hts in_X10_readItems_X10 hown hK hI 28 (by decide) (cel_28 cy ad _) rfl 15 (by decide) (by decide +kernel) (by show some (Value.int (iI ((up2 σ 37 ((σ 28 15).toNat) (σ 33 x1.toNat)) 28 15))) = _; rw [up2_cell _ _ _ (by decide)]) dX10_readItems_131 ?_
                      have b_119 := bd_28_15 hF
                      refine lv_iconst (v := iI 1) hx hb dX10_readItems_134 rfl ?_
                      refine g_iadd hx hb dX10_readItems_135 ?_
                      refine g_put (C := RX10) (T := TX10) (N := 44) (ci := 9) (ty := .int) (z := (σ 28 15) + 1) hx hb hts in_X10_readItems_X10 tyX10 tyX10_ok nmX10 hown hK hI 28 (by decide) (cel_28 cy ad) rfl 15 (by decide) (by decide +kernel) rfl (by decide +kernel) rfl rfl (Nat.le_of_ble_eq_true rfl) rfl (bw_28_15 (by omega)) dX10_readItems_136 (fun H locs hI => ?_)
                      have hF_120 := hI.2.2.2
                      refine lv_iinc (v := iI (x1 + 1)) (lv' := [(1, .int (iI (x1 + 1))), (2, .int (iI (σ 33 x1.toNat))), (0, .ref (ad 28))]) hx hb dX10_readItems_139 hl (k := 2) rfl (iI_add _ _) (by decide) rfl (fun ls hl => ?_)
                      refine lv_goto (tgt := 7) hx hb dX10_readItems_142 (by decide) ?_
                      have e9 : L_X10_readItems_7 (n + 1) x1 σ = L_X10_readItems_7 n (x1 + 1) (up2 (up2 σ 37 ((σ 28 15).toNat) (σ 33 x1.toNat)) 28 15 ((σ 28 15) + 1)) := by rw [L_X10_readItems_7, if_pos c_3, if_neg c_5, if_pos c_18, if_pos c_81, if_neg c_83, if_pos c_105, if_pos c_114, if_neg c_116]
                      rw [e9] at hk
                      exact ih (x1 + 1) (up2 (up2 σ 37 ((σ 28 15).toNat) (σ 33 x1.toNat)) 28 15 ((σ 28 15) + 1)) (by omega) (by first | omega | (simp [up2_at] <;> omega)) (by first | omega | (simp [up2_at] <;> omega)) _ _ _ hI (lv_sub hl [2, 0] rfl) hk
                    · skip
                      refine lv_aload_n hx hb dX10_readItems_110 rfl (lv_at hl 1 rfl) ?_
                      refine lv_iconst (v := iI 2) hx hb dX10_readItems_111 rfl ?_
                      refine lv_iload_n hx hb dX10_readItems_112 rfl (lv_at hl 2 rfl) ?_
                      refine g_V (As := [.int (iI 2), .int (iI x1)]) (rest := []) 28 (c_X10_fails l D cy ad σ 2 (by omega) x1 (by omega)) hx hb hml hown hts hK hN hI hl.1 gX10_readItems_X10_fails rfl hd_X10_fails rfl rfl ⟨Nat.le_of_ble_eq_true rfl, Nat.le_of_ble_eq_true rfl⟩ ⟨Nat.zero_le _, Nat.zero_le _⟩ (by decide) (cel_28 cy ad _) rfl rfl rfl rfl (Nat.le_of_ble_eq_true rfl) dX10_readItems_113 (fun H locs hG_121 hI => ?_)
                      have hF_122 := hI.2.2.2
                      refine lv_goto (tgt := 142) hx hb dX10_readItems_116 (by decide) ?_
                      refine lv_goto (tgt := 7) hx hb dX10_readItems_142 (by decide) ?_
                      have e9 : L_X10_readItems_7 (n + 1) x1 σ = L_X10_readItems_7 n x1 (f_X10_fails σ 2 x1) := by rw [L_X10_readItems_7, if_pos c_3, if_neg c_5, if_pos c_18, if_pos c_81, if_neg c_83, if_pos c_105, if_pos c_114, if_pos c_116]
                      rw [e9] at hk
                      exact ih x1 (f_X10_fails σ 2 x1) (by omega) (by first | omega | (simp [up2_at] <;> omega)) (by first | omega | (simp [up2_at] <;> omega)) _ _ _ hI (lv_sub hl [1, 2] rfl) hk
                  · skip
                    refine lv_iload_n hx hb dX10_readItems_80 rfl (lv_at hl 0 rfl) ?_
                    refine lv_bipush (v := iI 42) hx hb dX10_readItems_81 (iI_bip (by decide)) ?_
                    refine g_icmp_eq (tgt := 101) hx hb dX10_readItems_83 (by decide) (by omega) (by omega) (fun c_123 => ?_) (fun c_123 => ?_)
                    · skip
                      refine lv_aload_n hx hb dX10_readItems_101 rfl (lv_at hl 1 rfl) ?_
                      refine g_get (C := RX10) (T := TX10) (N := 44) (ci := 9) (v := .int (iI (σ 28 15))) hx hb hts in_X10_readItems_X10 hown hK hI 28 (by decide) (cel_28 cy ad _) rfl 15 (by decide) (by decide +kernel) rfl dX10_readItems_102 ?_
                      have b_124 := bd_28_15 hF
                      refine lv_bipush (v := iI 12) hx hb dX10_readItems_105 (iI_bip (by decide)) ?_
                      refine g_icmp_ne (tgt := 119) hx hb dX10_readItems_107 (by decide) (by omega) (by omega) (fun c_125 => ?_) (fun c_125 => ?_)
                      · skip
                        refine lv_aload_n hx hb dX10_readItems_119 rfl (lv_at hl 1 rfl) ?_
                        refine g_get (C := RX10) (T := TX10) (N := 44) (ci := 9) (v := .ref (ad 37)) hx hb hts in_X10_readItems_X10 hown hK hI 28 (by decide) (cel_28 cy ad _) rfl 17 (by decide) (by decide +kernel) rfl dX10_readItems_120 ?_
                        refine lv_aload_n hx hb dX10_readItems_123 rfl (lv_at hl 1 rfl) ?_
                        refine g_get (C := RX10) (T := TX10) (N := 44) (ci := 9) (v := .int (iI (σ 28 15))) hx hb hts in_X10_readItems_X10 hown hK hI 28 (by decide) (cel_28 cy ad _) rfl 15 (by decide) (by decide +kernel) rfl dX10_readItems_124 ?_
                        have b_126 := bd_28_15 hF
                        refine lv_iload_n hx hb dX10_readItems_127 rfl (lv_at hl 0 rfl) ?_
                        refine g_iast hx hb hK hI 37 (by decide) (cel_37 cy ad) (by omega) (by decide) (bw_37 (by omega)) dX10_readItems_128 (fun H locs hI => ?_)
                        have hF_127 : WF (up2 σ 37 ((σ 28 15).toNat) (σ 33 x1.toNat)) := hI.2.2.2
                        refine lv_aload_n hx hb dX10_readItems_129 rfl (lv_at hl 1 rfl) ?_
                        refine lv_dup hx hb dX10_readItems_130 rfl ?_
                        refine g_get (C := RX10) (T := TX10) (N := 44) (ci := 9) (v := .int (iI (σ 28 15))) hx hb hts in_X10_readItems_X10 hown hK hI 28 (by decide) (cel_28 cy ad _) rfl 15 (by decide) (by decide +kernel) (by show some (Value.int (iI ((up2 σ 37 ((σ 28 15).toNat) (σ 33 x1.toNat)) 28 15))) = _; rw [up2_cell _ _ _ (by decide)]) dX10_readItems_131 ?_
                        have b_128 := bd_28_15 hF
                        refine lv_iconst (v := iI 1) hx hb dX10_readItems_134 rfl ?_
                        refine g_iadd hx hb dX10_readItems_135 ?_
                        refine g_put (C := RX10) (T := TX10) (N := 44) (ci := 9) (ty := .int) (z := (σ 28 15) + 1) hx hb hts in_X10_readItems_X10 tyX10 tyX10_ok nmX10 hown hK hI 28 (by decide) (cel_28 cy ad) rfl 15 (by decide) (by decide +kernel) rfl (by decide +kernel) rfl rfl (Nat.le_of_ble_eq_true rfl) rfl (bw_28_15 (by omega)) dX10_readItems_136 (fun H locs hI => ?_)
                        have hF_129 := hI.2.2.2
                        refine lv_iinc (v := iI (x1 + 1)) (lv' := [(1, .int (iI (x1 + 1))), (2, .int (iI (σ 33 x1.toNat))), (0, .ref (ad 28))]) hx hb dX10_readItems_139 hl (k := 2) rfl (iI_add _ _) (by decide) rfl (fun ls hl => ?_)
                        refine lv_goto (tgt := 7) hx hb dX10_readItems_142 (by decide) ?_
                        have e9 : L_X10_readItems_7 (n + 1) x1 σ = L_X10_readItems_7 n (x1 + 1) (up2 (up2 σ 37 ((σ 28 15).toNat) (σ 33 x1.toNat)) 28 15 ((σ 28 15) + 1)) := by rw [L_X10_readItems_7, if_pos c_3, if_neg c_5, if_pos c_18, if_pos c_81, if_neg c_83, if_pos c_105, if_neg c_114, if_pos c_123, if_neg c_125]
                        rw [e9] at hk
                        exact ih (x1 + 1) (up2 (up2 σ 37 ((σ 28 15).toNat) (σ 33 x1.toNat)) 28 15 ((σ 28 15) + 1)) (by omega) (by first | omega | (simp [up2_at] <;> omega)) (by first | omega | (simp [up2_at] <;> omega)) _ _ _ hI (lv_sub hl [2, 0] rfl) hk
                      · skip
                        refine lv_aload_n hx hb dX10_readItems_110 rfl (lv_at hl 1 rfl) ?_
                        refine lv_iconst (v := iI 2) hx hb dX10_readItems_111 rfl ?_
                        refine lv_iload_n hx hb dX10_readItems_112 rfl (lv_at hl 2 rfl) ?_
                        refine g_V (As := [.int (iI 2), .int (iI x1)]) (rest := []) 28 (c_X10_fails l D cy ad σ 2 (by omega) x1 (by omega)) hx hb hml hown hts hK hN hI hl.1 gX10_readItems_X10_fails rfl hd_X10_fails rfl rfl ⟨Nat.le_of_ble_eq_true rfl, Nat.le_of_ble_eq_true rfl⟩ ⟨Nat.zero_le _, Nat.zero_le _⟩ (by decide) (cel_28 cy ad _) rfl rfl rfl rfl (Nat.le_of_ble_eq_true rfl) dX10_readItems_113 (fun H locs hG_130 hI => ?_)
                        have hF_131 := hI.2.2.2
                        refine lv_goto (tgt := 142) hx hb dX10_readItems_116 (by decide) ?_
                        refine lv_goto (tgt := 7) hx hb dX10_readItems_142 (by decide) ?_
                        have e9 : L_X10_readItems_7 (n + 1) x1 σ = L_X10_readItems_7 n x1 (f_X10_fails σ 2 x1) := by rw [L_X10_readItems_7, if_pos c_3, if_neg c_5, if_pos c_18, if_pos c_81, if_neg c_83, if_pos c_105, if_neg c_114, if_pos c_123, if_pos c_125]
                        rw [e9] at hk
                        exact ih x1 (f_X10_fails σ 2 x1) (by omega) (by first | omega | (simp [up2_at] <;> omega)) (by first | omega | (simp [up2_at] <;> omega)) _ _ _ hI (lv_sub hl [1, 2] rfl) hk
                    · skip
                      refine lv_iload_n hx hb dX10_readItems_86 rfl (lv_at hl 0 rfl) ?_
                      refine lv_bipush (v := iI 35) hx hb dX10_readItems_87 (iI_bip (by decide)) ?_
                      refine g_icmp_eq (tgt := 101) hx hb dX10_readItems_89 (by decide) (by omega) (by omega) (fun c_132 => ?_) (fun c_132 => ?_)
                      · skip
                        refine lv_aload_n hx hb dX10_readItems_101 rfl (lv_at hl 1 rfl) ?_
                        refine g_get (C := RX10) (T := TX10) (N := 44) (ci := 9) (v := .int (iI (σ 28 15))) hx hb hts in_X10_readItems_X10 hown hK hI 28 (by decide) (cel_28 cy ad _) rfl 15 (by decide) (by decide +kernel) rfl dX10_readItems_102 ?_
                        have b_133 := bd_28_15 hF
                        refine lv_bipush (v := iI 12) hx hb dX10_readItems_105 (iI_bip (by decide)) ?_
                        refine g_icmp_ne (tgt := 119) hx hb dX10_readItems_107 (by decide) (by omega) (by omega) (fun c_134 => ?_) (fun c_134 => ?_)
                        · skip
                          refine lv_aload_n hx hb dX10_readItems_119 rfl (lv_at hl 1 rfl) ?_
                          refine g_get (C := RX10) (T := TX10) (N := 44) (ci := 9) (v := .ref (ad 37)) hx hb hts in_X10_readItems_X10 hown hK hI 28 (by decide) (cel_28 cy ad _) rfl 17 (by decide) (by decide +kernel) rfl dX10_readItems_120 ?_
                          refine lv_aload_n hx hb dX10_readItems_123 rfl (lv_at hl 1 rfl) ?_
                          refine g_get (C := RX10) (T := TX10) (N := 44) (ci := 9) (v := .int (iI (σ 28 15))) hx hb hts in_X10_readItems_X10 hown hK hI 28 (by decide) (cel_28 cy ad _) rfl 15 (by decide) (by decide +kernel) rfl dX10_readItems_124 ?_
                          have b_135 := bd_28_15 hF
                          refine lv_iload_n hx hb dX10_readItems_127 rfl (lv_at hl 0 rfl) ?_
                          refine g_iast hx hb hK hI 37 (by decide) (cel_37 cy ad) (by omega) (by decide) (bw_37 (by omega)) dX10_readItems_128 (fun H locs hI => ?_)
                          have hF_136 : WF (up2 σ 37 ((σ 28 15).toNat) (σ 33 x1.toNat)) := hI.2.2.2
                          refine lv_aload_n hx hb dX10_readItems_129 rfl (lv_at hl 1 rfl) ?_
                          refine lv_dup hx hb dX10_readItems_130 rfl ?_
                          refine g_get (C := RX10) (T := TX10) (N := 44) (ci := 9) (v := .int (iI (σ 28 15))) hx hb hts in_X10_readItems_X10 hown hK hI 28 (by decide) (cel_28 cy ad _) rfl 15 (by decide) (by decide +kernel) (by show some (Value.int (iI ((up2 σ 37 ((σ 28 15).toNat) (σ 33 x1.toNat)) 28 15))) = _; rw [up2_cell _ _ _ (by decide)]) dX10_readItems_131 ?_
                          have b_137 := bd_28_15 hF
                          refine lv_iconst (v := iI 1) hx hb dX10_readItems_134 rfl ?_
                          refine g_iadd hx hb dX10_readItems_135 ?_
                          refine g_put (C := RX10) (T := TX10) (N := 44) (ci := 9) (ty := .int) (z := (σ 28 15) + 1) hx hb hts in_X10_readItems_X10 tyX10 tyX10_ok nmX10 hown hK hI 28 (by decide) (cel_28 cy ad) rfl 15 (by decide) (by decide +kernel) rfl (by decide +kernel) rfl rfl (Nat.le_of_ble_eq_true rfl) rfl (bw_28_15 (by omega)) dX10_readItems_136 (fun H locs hI => ?_)
                          have hF_138 := hI.2.2.2
                          refine lv_iinc (v := iI (x1 + 1)) (lv' := [(1, .int (iI (x1 + 1))), (2, .int (iI (σ 33 x1.toNat))), (0, .ref (ad 28))]) hx hb dX10_readItems_139 hl (k := 2) rfl (iI_add _ _) (by decide) rfl (fun ls hl => ?_)
                          refine lv_goto (tgt := 7) hx hb dX10_readItems_142 (by decide) ?_
                          have e9 : L_X10_readItems_7 (n + 1) x1 σ = L_X10_readItems_7 n (x1 + 1) (up2 (up2 σ 37 ((σ 28 15).toNat) (σ 33 x1.toNat)) 28 15 ((σ 28 15) + 1)) := by rw [L_X10_readItems_7, if_pos c_3, if_neg c_5, if_pos c_18, if_pos c_81, if_neg c_83, if_pos c_105, if_neg c_114, if_neg c_123, if_pos c_132, if_neg c_134]
                          rw [e9] at hk
                          exact ih (x1 + 1) (up2 (up2 σ 37 ((σ 28 15).toNat) (σ 33 x1.toNat)) 28 15 ((σ 28 15) + 1)) (by omega) (by first | omega | (simp [up2_at] <;> omega)) (by first | omega | (simp [up2_at] <;> omega)) _ _ _ hI (lv_sub hl [2, 0] rfl) hk
                        · skip
                          refine lv_aload_n hx hb dX10_readItems_110 rfl (lv_at hl 1 rfl) ?_
                          refine lv_iconst (v := iI 2) hx hb dX10_readItems_111 rfl ?_
                          refine lv_iload_n hx hb dX10_readItems_112 rfl (lv_at hl 2 rfl) ?_
                          refine g_V (As := [.int (iI 2), .int (iI x1)]) (rest := []) 28 (c_X10_fails l D cy ad σ 2 (by omega) x1 (by omega)) hx hb hml hown hts hK hN hI hl.1 gX10_readItems_X10_fails rfl hd_X10_fails rfl rfl ⟨Nat.le_of_ble_eq_true rfl, Nat.le_of_ble_eq_true rfl⟩ ⟨Nat.zero_le _, Nat.zero_le _⟩ (by decide) (cel_28 cy ad _) rfl rfl rfl rfl (Nat.le_of_ble_eq_true rfl) dX10_readItems_113 (fun H locs hG_139 hI => ?_)
                          have hF_140 := hI.2.2.2
                          refine lv_goto (tgt := 142) hx hb dX10_readItems_116 (by decide) ?_
                          refine lv_goto (tgt := 7) hx hb dX10_readItems_142 (by decide) ?_
                          have e9 : L_X10_readItems_7 (n + 1) x1 σ = L_X10_readItems_7 n x1 (f_X10_fails σ 2 x1) := by rw [L_X10_readItems_7, if_pos c_3, if_neg c_5, if_pos c_18, if_pos c_81, if_neg c_83, if_pos c_105, if_neg c_114, if_neg c_123, if_pos c_132, if_pos c_134]
                          rw [e9] at hk
                          exact ih x1 (f_X10_fails σ 2 x1) (by omega) (by first | omega | (simp [up2_at] <;> omega)) (by first | omega | (simp [up2_at] <;> omega)) _ _ _ hI (lv_sub hl [1, 2] rfl) hk
                      · skip
                        refine lv_aload_n hx hb dX10_readItems_92 rfl (lv_at hl 1 rfl) ?_
                        refine lv_iconst (v := iI 1) hx hb dX10_readItems_93 rfl ?_
                        refine lv_iload_n hx hb dX10_readItems_94 rfl (lv_at hl 2 rfl) ?_
                        refine g_V (As := [.int (iI 1), .int (iI x1)]) (rest := []) 28 (c_X10_fails l D cy ad σ 1 (by omega) x1 (by omega)) hx hb hml hown hts hK hN hI hl.1 gX10_readItems_X10_fails rfl hd_X10_fails rfl rfl ⟨Nat.le_of_ble_eq_true rfl, Nat.le_of_ble_eq_true rfl⟩ ⟨Nat.zero_le _, Nat.zero_le _⟩ (by decide) (cel_28 cy ad _) rfl rfl rfl rfl (Nat.le_of_ble_eq_true rfl) dX10_readItems_95 (fun H locs hG_141 hI => ?_)
                        have hF_142 := hI.2.2.2
                        refine lv_goto (tgt := 142) hx hb dX10_readItems_98 (by decide) ?_
                        refine lv_goto (tgt := 7) hx hb dX10_readItems_142 (by decide) ?_
                        have e9 : L_X10_readItems_7 (n + 1) x1 σ = L_X10_readItems_7 n x1 (f_X10_fails σ 1 x1) := by rw [L_X10_readItems_7, if_pos c_3, if_neg c_5, if_pos c_18, if_pos c_81, if_neg c_83, if_pos c_105, if_neg c_114, if_neg c_123, if_neg c_132]
                        rw [e9] at hk
                        exact ih x1 (f_X10_fails σ 1 x1) (by omega) (by first | omega | (simp [up2_at] <;> omega)) (by first | omega | (simp [up2_at] <;> omega)) _ _ _ hI (lv_sub hl [1, 2] rfl) hk
def f_X10_readItems (σ : Sg) : Int × Sg := (((L_X10_readItems_7 83 0 (up2 σ 28 15 0)).1) + 1, (L_X10_readItems_7 83 0 (up2 σ 28 15 0)).2)
theorem hd_X10_readItems : yX10_readItems.cls = RX10 ∧ yX10_readItems.cls ≠ "java/lang/invoke/MethodHandle" ∧ yX10_readItems.cls ≠ "java/lang/invoke/VarHandle" ∧ (parseMethodDescriptor yX10_readItems.desc).map (fun d => d.parameters.length) = some 0 := by decide +kernel
set_option maxHeartbeats 4000000 in
set_option maxRecDepth 100000 in
theorem c_X10_readItems (l : Launch) (D : va_G) (cy : Nat → ClassId) (ad : Nat → Nat) (σ : Sg) : CM l D cy ad yX10_readItems wsX10_readItems { frames := 2, cells := 0, slots := 0, locals := 80 } [.ref (ad 28)] σ (some (.int (iI ((f_X10_readItems σ).1)))) ((f_X10_readItems σ).2) (1 ≤ ((f_X10_readItems σ).1) ∧ ((f_X10_readItems σ).1) ≤ 81) := by
  refine CM.of (cc := cX10_readItems) (maxL := 3) (ret := (some .int)) (by decide) rfl (Nat.le_of_ble_eq_true rfl) ?_
  intro p e s m args below meth c₀ ls X hI hl
  have hl : lv_has ls 3 [(0, .ref (ad 28))] := hl
  obtain ⟨hx, hb, hr, hml, hown, hts, hlocks, hK, hN⟩ := id X
  have hF := hI.2.2.2
  have f1 := bd_28_9 hF
  have f2 := bd_28_21 hF
  refine lv_iconst (v := iI 0) hx hb dX10_readItems_0 rfl ?_
  refine lv_istore_n (lv' := [(1, .int (iI 0)), (0, .ref (ad 28))]) hx hb dX10_readItems_1 rfl hl (by decide) rfl (fun ls hl => ?_)
  refine lv_aload_n hx hb dX10_readItems_2 rfl (lv_at hl 1 rfl) ?_
  refine lv_iconst (v := iI 0) hx hb dX10_readItems_3 rfl ?_
  refine g_put (C := RX10) (T := TX10) (N := 44) (ci := 9) (ty := .int) (z := 0) hx hb hts in_X10_readItems_X10 tyX10 tyX10_ok nmX10 hown hK hI 28 (by decide) (cel_28 cy ad) rfl 15 (by decide) (by decide +kernel) rfl (by decide +kernel) rfl rfl (Nat.le_of_ble_eq_true rfl) rfl (bw_28_15 (by omega)) dX10_readItems_4 (fun H locs hI => ?_)
  have hF_1 := hI.2.2.2
  refine w_L_X10_readItems_7 X    83 0 (up2 σ 28 15 0) (by omega) (by first | omega | (simp [up2_at] <;> omega)) (by first | omega | (simp [up2_at] <;> omega)) _ _ _ hI (lv_sub hl [1, 0] rfl) (fun H locs ls hpo_144 hI hl => ?_)
  have hF_143 := hI.2.2.2
  refine lv_iload_n hx hb dX10_readItems_145 rfl (lv_at hl 0 rfl) ?_
  refine lv_iconst (v := iI 1) hx hb dX10_readItems_146 rfl ?_
  refine g_iadd hx hb dX10_readItems_147 ?_
  have e9 : f_X10_readItems σ = (((L_X10_readItems_7 83 0 (up2 σ 28 15 0)).1) + 1, (L_X10_readItems_7 83 0 (up2 σ 28 15 0)).2) := by rw [f_X10_readItems]
  exact g_iret (z := ((L_X10_readItems_7 83 0 (up2 σ 28 15 0)).1) + 1) hx hb hr hK hN hlocks hI (by rw [e9]) (by rw [e9]) (by rw [e9] <;> first | (omega) | (dsimp only; omega)) dX10_readItems_148
def L_X10_wilds_5 (σ : Sg) (a1 : Int) : Nat → Int → Int → Int
  | 0, x3, x4 => (x3)
  | n + 1, x3, x4 => (if a1 ≤ x4 then x3 else (if (σ 37 x4.toNat) = 63 then L_X10_wilds_5 σ a1 n (x3 + 1) (x4 + 1) else (if (σ 37 x4.toNat) = 42 then L_X10_wilds_5 σ a1 n (x3 + 1) (x4 + 1) else (if (σ 37 x4.toNat) = 35 then L_X10_wilds_5 σ a1 n (x3 + 1) (x4 + 1) else L_X10_wilds_5 σ a1 n x3 (x4 + 1)))))
set_option maxHeartbeats 4000000 in
set_option maxRecDepth 100000 in
theorem w_L_X10_wilds_5 {p : Program} {l : Launch} {e : Env} {s : State} {m : MethodId} {args : Array Value} {below : List Frame} {meth : Method} {c₀ : Code} {D : va_G} {cy : Nat → ClassId} {ad : Nat → Nat} {Q : State → Prop} (X : MX p s m args meth c₀ cX10_wilds 5 RX10 (some .int) wsX10_wilds D cy) (σ : Sg) (a1 : Int) (ha1 : (0 : Int) ≤ a1 ∧ a1 ≤ 12) : ∀ (n : Nat) (x3 : Int) (x4 : Int) (hx3 : (0 : Int) ≤ x3 ∧ x3 ≤ 12) (hx4 : (0 : Int) ≤ x4 ∧ x4 ≤ 12) (hp0 : x3 ≤ x4) (hmu : 12 - x4 < (n : Int)) (H : Heap) (locs : List Loc) (ls : Array Slot) (hI : HI D cy ad s σ H locs) (hl : lv_has ls 5 [(1, .ref (ad 37)), (2, .int (iI a1)), (3, .int (iI x3)), (4, .int (iI x4))])  (hk : ∀ (H1 : Heap) (locs1 : List Loc) (ls1 : Array Slot), (0 ≤ (L_X10_wilds_5 σ a1 n x3 x4) ∧ (L_X10_wilds_5 σ a1 n x3 x4) ≤ 12) → HI D cy ad s σ H1 locs1 → lv_has ls1 5 [(3, .int (iI (L_X10_wilds_5 σ a1 n x3 x4)))] → W p l e { frames := 0, cells := 0, slots := 0, locals := 0 } s m args below meth c₀ H1 locs1 0 0 Q (F0 m 47 ls1 [])), W p l e { frames := 0, cells := 0, slots := 0, locals := 0 } s m args below meth c₀ H locs 0 0 Q (F0 m 5 ls []) := by
  obtain ⟨hx, hb, hr, hml, hown, hts, hlocks, hK, hN⟩ := id X
  intro n
  induction n with
  | zero =>
    intro x3 x4 hx3 hx4 hp0 hmu H locs ls hI hl hk
    exfalso
    have hF := hI.2.2.2
    omega
  | succ n ih =>
    intro x3 x4 hx3 hx4 hp0 hmu H locs ls hI hl hk
    have hF := hI.2.2.2
    refine lv_iload hx hb dX10_wilds_5 (lv_at hl 3 rfl) ?_
    refine lv_iload_n hx hb dX10_wilds_7 rfl (lv_at hl 1 rfl) ?_
    refine g_icmp_ge (tgt := 47) hx hb dX10_wilds_8 (by decide) (by omega) (by omega) (fun c_1 => ?_) (fun c_1 => ?_)
    · skip
      have e9 : L_X10_wilds_5 σ a1 (n + 1) x3 x4 = x3 := by rw [L_X10_wilds_5, if_pos c_1]
      rw [e9] at hk
      exact hk _ _ _ (by first | (omega) | (dsimp only; omega)) hI (lv_sub hl [2] rfl)
    · skip
      refine lv_aload_n hx hb dX10_wilds_11 rfl (lv_at hl 0 rfl) ?_
      refine lv_iload hx hb dX10_wilds_12 (lv_at hl 3 rfl) ?_
      refine g_iald (v := σ 37 x4.toNat) hx hb hK hI 37 (by decide) (cel_37 cy ad) (by omega) (by decide) rfl dX10_wilds_14 ?_
      have b_2 := bd_37 hF x4.toNat
      refine lv_bipush (v := iI 63) hx hb dX10_wilds_15 (iI_bip (by decide)) ?_
      refine g_icmp_eq (tgt := 38) hx hb dX10_wilds_17 (by decide) (by omega) (by omega) (fun c_3 => ?_) (fun c_3 => ?_)
      · skip
        refine lv_iinc (v := iI (x3 + 1)) (lv' := [(3, .int (iI (x3 + 1))), (1, .ref (ad 37)), (2, .int (iI a1)), (4, .int (iI x4))]) hx hb dX10_wilds_38 hl (k := 2) rfl (iI_add _ _) (by decide) rfl (fun ls hl => ?_)
        refine lv_iinc (v := iI (x4 + 1)) (lv' := [(4, .int (iI (x4 + 1))), (3, .int (iI (x3 + 1))), (1, .ref (ad 37)), (2, .int (iI a1))]) hx hb dX10_wilds_41 hl (k := 3) rfl (iI_add _ _) (by decide) rfl (fun ls hl => ?_)
        refine lv_goto (tgt := 5) hx hb dX10_wilds_44 (by decide) ?_
        have e9 : L_X10_wilds_5 σ a1 (n + 1) x3 x4 = L_X10_wilds_5 σ a1 n (x3 + 1) (x4 + 1) := by rw [L_X10_wilds_5, if_neg c_1, if_pos c_3]
        rw [e9] at hk
        exact ih (x3 + 1) (x4 + 1)  (by omega) (by omega) (by omega) (by omega) _ _ _ hI (lv_sub hl [2, 3, 1, 0] rfl) hk
      · skip
        refine lv_aload_n hx hb dX10_wilds_20 rfl (lv_at hl 0 rfl) ?_
        refine lv_iload hx hb dX10_wilds_21 (lv_at hl 3 rfl) ?_
        refine g_iald (v := σ 37 x4.toNat) hx hb hK hI 37 (by decide) (cel_37 cy ad) (by omega) (by decide) rfl dX10_wilds_23 ?_
        have b_4 := bd_37 hF x4.toNat
        refine lv_bipush (v := iI 42) hx hb dX10_wilds_24 (iI_bip (by decide)) ?_
        refine g_icmp_eq (tgt := 38) hx hb dX10_wilds_26 (by decide) (by omega) (by omega) (fun c_5 => ?_) (fun c_5 => ?_)
        · skip
          refine lv_iinc (v := iI (x3 + 1)) (lv' := [(3, .int (iI (x3 + 1))), (1, .ref (ad 37)), (2, .int (iI a1)), (4, .int (iI x4))]) hx hb dX10_wilds_38 hl (k := 2) rfl (iI_add _ _) (by decide) rfl (fun ls hl => ?_)
          refine lv_iinc (v := iI (x4 + 1)) (lv' := [(4, .int (iI (x4 + 1))), (3, .int (iI (x3 + 1))), (1, .ref (ad 37)), (2, .int (iI a1))]) hx hb dX10_wilds_41 hl (k := 3) rfl (iI_add _ _) (by decide) rfl (fun ls hl => ?_)
          refine lv_goto (tgt := 5) hx hb dX10_wilds_44 (by decide) ?_
          have e9 : L_X10_wilds_5 σ a1 (n + 1) x3 x4 = L_X10_wilds_5 σ a1 n (x3 + 1) (x4 + 1) := by rw [L_X10_wilds_5, if_neg c_1, if_neg c_3, if_pos c_5]
          rw [e9] at hk
          exact ih (x3 + 1) (x4 + 1)  (by omega) (by omega) (by omega) (by omega) _ _ _ hI (lv_sub hl [2, 3, 1, 0] rfl) hk
        · skip
          refine lv_aload_n hx hb dX10_wilds_29 rfl (lv_at hl 0 rfl) ?_
          refine lv_iload hx hb dX10_wilds_30 (lv_at hl 3 rfl) ?_
          refine g_iald (v := σ 37 x4.toNat) hx hb hK hI 37 (by decide) (cel_37 cy ad) (by omega) (by decide) rfl dX10_wilds_32 ?_
          have b_6 := bd_37 hF x4.toNat
          refine lv_bipush (v := iI 35) hx hb dX10_wilds_33 (iI_bip (by decide)) ?_
          refine g_icmp_ne (tgt := 41) hx hb dX10_wilds_35 (by decide) (by omega) (by omega) (fun c_7 => ?_) (fun c_7 => ?_)
          · skip
            refine lv_iinc (v := iI (x4 + 1)) (lv' := [(4, .int (iI (x4 + 1))), (1, .ref (ad 37)), (2, .int (iI a1)), (3, .int (iI x3))]) hx hb dX10_wilds_41 hl (k := 3) rfl (iI_add _ _) (by decide) rfl (fun ls hl => ?_)
            refine lv_goto (tgt := 5) hx hb dX10_wilds_44 (by decide) ?_
            have e9 : L_X10_wilds_5 σ a1 (n + 1) x3 x4 = L_X10_wilds_5 σ a1 n x3 (x4 + 1) := by rw [L_X10_wilds_5, if_neg c_1, if_neg c_3, if_neg c_5, if_neg c_7]
            rw [e9] at hk
            exact ih x3 (x4 + 1)  (by omega) (by omega) (by omega) (by omega) _ _ _ hI (lv_sub hl [1, 2, 3, 0] rfl) hk
          · skip
            refine lv_iinc (v := iI (x3 + 1)) (lv' := [(3, .int (iI (x3 + 1))), (1, .ref (ad 37)), (2, .int (iI a1)), (4, .int (iI x4))]) hx hb dX10_wilds_38 hl (k := 2) rfl (iI_add _ _) (by decide) rfl (fun ls hl => ?_)
            refine lv_iinc (v := iI (x4 + 1)) (lv' := [(4, .int (iI (x4 + 1))), (3, .int (iI (x3 + 1))), (1, .ref (ad 37)), (2, .int (iI a1))]) hx hb dX10_wilds_41 hl (k := 3) rfl (iI_add _ _) (by decide) rfl (fun ls hl => ?_)
            refine lv_goto (tgt := 5) hx hb dX10_wilds_44 (by decide) ?_
            have e9 : L_X10_wilds_5 σ a1 (n + 1) x3 x4 = L_X10_wilds_5 σ a1 n (x3 + 1) (x4 + 1) := by rw [L_X10_wilds_5, if_neg c_1, if_neg c_3, if_neg c_5, if_pos c_7]
            rw [e9] at hk
            exact ih (x3 + 1) (x4 + 1)  (by omega) (by omega) (by omega) (by omega) _ _ _ hI (lv_sub hl [2, 3, 1, 0] rfl) hk
def f_X10_wilds (σ : Sg) (a1 : Int) : Int := (L_X10_wilds_5 σ a1 13 0 0)
theorem hd_X10_wilds : yX10_wilds.cls = RX10 ∧ yX10_wilds.cls ≠ "java/lang/invoke/MethodHandle" ∧ yX10_wilds.cls ≠ "java/lang/invoke/VarHandle" ∧ (parseMethodDescriptor yX10_wilds.desc).map (fun d => d.parameters.length) = some 2 := by decide +kernel
set_option maxHeartbeats 4000000 in
set_option maxRecDepth 100000 in
theorem c_X10_wilds (l : Launch) (D : va_G) (cy : Nat → ClassId) (ad : Nat → Nat) (σ : Sg) (a1 : Int) (ha1 : (0 : Int) ≤ a1 ∧ a1 ≤ 12) : CM l D cy ad yX10_wilds wsX10_wilds { frames := 0, cells := 0, slots := 0, locals := 0 } [.ref (ad 28), .ref (ad 37), .int (iI a1)] σ (some (.int (iI (f_X10_wilds σ a1)))) σ (0 ≤ (f_X10_wilds σ a1) ∧ (f_X10_wilds σ a1) ≤ 12) := by
  refine CM.of (cc := cX10_wilds) (maxL := 5) (ret := (some .int)) (by decide) rfl (Nat.le_of_ble_eq_true rfl) ?_
  intro p e s m args below meth c₀ ls X hI hl
  have hl : lv_has ls 5 [(0, .ref (ad 28)), (1, .ref (ad 37)), (2, .int (iI a1))] := hl
  obtain ⟨hx, hb, hr, hml, hown, hts, hlocks, hK, hN⟩ := id X
  have hF := hI.2.2.2
  refine lv_iconst (v := iI 0) hx hb dX10_wilds_0 rfl ?_
  refine lv_istore_n (lv' := [(3, .int (iI 0)), (0, .ref (ad 28)), (1, .ref (ad 37)), (2, .int (iI a1))]) hx hb dX10_wilds_1 rfl hl (by decide) rfl (fun ls hl => ?_)
  refine lv_iconst (v := iI 0) hx hb dX10_wilds_2 rfl ?_
  refine lv_istore (lv' := [(4, .int (iI 0)), (3, .int (iI 0)), (0, .ref (ad 28)), (1, .ref (ad 37)), (2, .int (iI a1))]) hx hb dX10_wilds_3 hl (by decide) rfl (fun ls hl => ?_)
  refine w_L_X10_wilds_5 X σ a1 ha1  13 0 0  (by omega) (by omega) (by omega) (by omega) _ _ _ hI (lv_sub hl [3, 4, 1, 0] rfl) (fun H locs ls hpo_9 hI hl => ?_)
  refine lv_iload_n hx hb dX10_wilds_47 rfl (lv_at hl 0 rfl) ?_
  have e9 : f_X10_wilds σ a1 = (L_X10_wilds_5 σ a1 13 0 0) := by rw [f_X10_wilds]
  exact g_iret (z := (L_X10_wilds_5 σ a1 13 0 0)) hx hb hr hK hN hlocks hI e9.symm rfl (by rw [e9] <;> first | (omega) | (dsimp only; omega)) dX10_wilds_48
theorem in_X10_readPart_X10 : ∀ w ∈ u_ws RX10 TX10 44, w ∈ wsX10_readPart := by decide +kernel
def J_X10_readPart_230 (a0 : Int) (x4 : Int) (σ : Sg) : Int × Sg := (a0 + 2, (up2 σ 39 (((σ 28 16) - 1).toNat) (x4 - 48)))
set_option maxHeartbeats 4000000 in
set_option maxRecDepth 100000 in
theorem w_J_X10_readPart_230 {p : Program} {l : Launch} {e : Env} {s : State} {m : MethodId} {args : Array Value} {below : List Frame} {meth : Method} {c₀ : Code} {D : va_G} {cy : Nat → ClassId} {ad : Nat → Nat} (X : MX p s m args meth c₀ cX10_readPart 5 RX10 (some .int) wsX10_readPart D cy) (a0 : Int) (ha0 : (0 : Int) ≤ a0 ∧ a0 ≤ 100) (t0 : Int) (x4 : Int) (σ : Sg) (hx4 : (-128 : Int) ≤ x4 ∧ x4 ≤ 127) (hp0 : 1 ≤ σ 28 16) (hp1 : σ 28 9 = t0) (hp2 : a0 < t0) (H : Heap) (locs : List Loc) (ls : Array Slot) (hI : HI D cy ad s σ H locs) (hl : lv_has ls 5 [(0, .ref (ad 28)), (1, .int (iI a0)), (4, .int (iI x4))]) : W p l e { frames := 2, cells := 0, slots := 0, locals := 80 } s m args below meth c₀ H locs 0 0 (MQ below (CQ D cy ad (some (.int (iI ((J_X10_readPart_230 a0 x4 σ).1)))) ((J_X10_readPart_230 a0 x4 σ).2) ((1 ≤ ((J_X10_readPart_230 a0 x4 σ).2) 28 21 ∨ (a0 + 1 ≤ ((J_X10_readPart_230 a0 x4 σ).1) ∧ a0 < t0)) ∧ ((J_X10_readPart_230 a0 x4 σ).1) ≤ a0 + 2 ∧ a0 ≤ ((J_X10_readPart_230 a0 x4 σ).1) ∧ ((J_X10_readPart_230 a0 x4 σ).2) 28 9 = t0) (AA ad s.heap.size)) args s 0 0 (AA ad s.heap.size)) (F0 m 230 ls []) := by
  obtain ⟨hx, hb, hr, hml, hown, hts, hlocks, hK, hN⟩ := id X
  have hF := hI.2.2.2
  refine lv_aload_n hx hb dX10_readPart_230 rfl (lv_at hl 0 rfl) ?_
  refine g_get (C := RX10) (T := TX10) (N := 44) (ci := 9) (v := .ref (ad 39)) hx hb hts in_X10_readPart_X10 hown hK hI 28 (by decide) (cel_28 cy ad _) rfl 19 (by decide) (by decide +kernel) rfl dX10_readPart_231 ?_
  refine lv_aload_n hx hb dX10_readPart_234 rfl (lv_at hl 0 rfl) ?_
  refine g_get (C := RX10) (T := TX10) (N := 44) (ci := 9) (v := .int (iI (σ 28 16))) hx hb hts in_X10_readPart_X10 hown hK hI 28 (by decide) (cel_28 cy ad _) rfl 16 (by decide) (by decide +kernel) rfl dX10_readPart_235 ?_
  have b_28 := bd_28_16 hF
  refine lv_iconst (v := iI 1) hx hb dX10_readPart_238 rfl ?_
  refine g_isub hx hb dX10_readPart_239 ?_
  refine lv_iload hx hb dX10_readPart_240 (lv_at hl 2 rfl) ?_
  refine lv_bipush (v := iI 48) hx hb dX10_readPart_242 (iI_bip (by decide)) ?_
  refine g_isub hx hb dX10_readPart_244 ?_
  refine g_iast hx hb hK hI 39 (by decide) (cel_39 cy ad) (by omega) (by decide) (bw_39 (by omega)) dX10_readPart_245 (fun H locs hI => ?_)
  have hF_29 : WF (up2 σ 39 (((σ 28 16) - 1).toNat) (x4 - 48)) := hI.2.2.2
  refine lv_iload_n hx hb dX10_readPart_246 rfl (lv_at hl 1 rfl) ?_
  refine lv_iconst (v := iI 2) hx hb dX10_readPart_247 rfl ?_
  refine g_iadd hx hb dX10_readPart_248 ?_
  have e9 : J_X10_readPart_230 a0 x4 σ = (a0 + 2, (up2 σ 39 (((σ 28 16) - 1).toNat) (x4 - 48))) := by rw [J_X10_readPart_230]
  exact g_iret (z := a0 + 2) hx hb hr hK hN hlocks hI (by rw [e9]) (by rw [e9]) (by rw [e9] <;> first | (refine ⟨?_, ?_, ?_, ?_⟩ <;> (try simp [up2_at]) <;> omega) | (dsimp only; refine ⟨?_, ?_, ?_, ?_⟩ <;> (try simp [up2_at]) <;> omega)) dX10_readPart_249
def J_X10_readPart_155 (a0 : Int) (x2 : Int) (x4 : Int) (σ : Sg) : Int × Sg := (if (f_X10_isFigure x4) = 0 then J_X10_readPart_230 a0 x4 (f_X10_fails σ 1 (a0 + 1)) else (if x2 = 37 then (if (f_X10_within x4 49 52) = 0 then J_X10_readPart_230 a0 x4 (f_X10_fails σ 1 (a0 + 1)) else J_X10_readPart_230 a0 x4 σ) else (if (f_X10_within (x4 - 48) 1 (f_X10_wilds σ (σ 28 15))) = 0 then J_X10_readPart_230 a0 x4 (f_X10_fails σ 3 (a0 + 1)) else J_X10_readPart_230 a0 x4 σ)))
set_option maxHeartbeats 4000000 in
set_option maxRecDepth 100000 in
theorem w_J_X10_readPart_155 {p : Program} {l : Launch} {e : Env} {s : State} {m : MethodId} {args : Array Value} {below : List Frame} {meth : Method} {c₀ : Code} {D : va_G} {cy : Nat → ClassId} {ad : Nat → Nat} (X : MX p s m args meth c₀ cX10_readPart 5 RX10 (some .int) wsX10_readPart D cy) (a0 : Int) (ha0 : (0 : Int) ≤ a0 ∧ a0 ≤ 100) (t0 : Int) (x2 : Int) (x4 : Int) (σ : Sg) (hx2 : (-128 : Int) ≤ x2 ∧ x2 ≤ 127) (hx4 : (-128 : Int) ≤ x4 ∧ x4 ≤ 127) (hp0 : 1 ≤ σ 28 16) (hp1 : σ 28 9 = t0) (hp2 : a0 < t0) (H : Heap) (locs : List Loc) (ls : Array Slot) (hI : HI D cy ad s σ H locs) (hl : lv_has ls 5 [(0, .ref (ad 28)), (1, .int (iI a0)), (2, .int (iI x2)), (4, .int (iI x4))]) : W p l e { frames := 2, cells := 0, slots := 0, locals := 80 } s m args below meth c₀ H locs 0 0 (MQ below (CQ D cy ad (some (.int (iI ((J_X10_readPart_155 a0 x2 x4 σ).1)))) ((J_X10_readPart_155 a0 x2 x4 σ).2) ((1 ≤ ((J_X10_readPart_155 a0 x2 x4 σ).2) 28 21 ∨ (a0 + 1 ≤ ((J_X10_readPart_155 a0 x2 x4 σ).1) ∧ a0 < t0)) ∧ ((J_X10_readPart_155 a0 x2 x4 σ).1) ≤ a0 + 2 ∧ a0 ≤ ((J_X10_readPart_155 a0 x2 x4 σ).1) ∧ ((J_X10_readPart_155 a0 x2 x4 σ).2) 28 9 = t0) (AA ad s.heap.size)) args s 0 0 (AA ad s.heap.size)) (F0 m 155 ls []) := by
  obtain ⟨hx, hb, hr, hml, hown, hts, hlocks, hK, hN⟩ := id X
  have hF := hI.2.2.2
  refine lv_iload hx hb dX10_readPart_155 (lv_at hl 3 rfl) ?_
  refine g_S (As := [.int (iI x4)]) (rest := []) (c_X10_isFigure l D cy ad σ x4 (by omega)) hx hb hml hown hts hK hN hI hl.1 gX10_readPart_X10_isFigure rfl hd_X10_isFigure rfl rfl ⟨Nat.le_of_ble_eq_true rfl, Nat.le_of_ble_eq_true rfl⟩ ⟨Nat.zero_le _, Nat.zero_le _⟩ rfl rfl (Nat.le_of_ble_eq_true rfl) dX10_readPart_157 (fun H locs hG_24 hI => ?_)
  refine g_if_eq (tgt := 181) hx hb dX10_readPart_160 (by decide) (by omega) (fun c_25 => ?_) (fun c_25 => ?_)
  · skip
    refine lv_aload_n hx hb dX10_readPart_181 rfl (lv_at hl 0 rfl) ?_
    refine lv_iconst (v := iI 1) hx hb dX10_readPart_182 rfl ?_
    refine lv_iload_n hx hb dX10_readPart_183 rfl (lv_at hl 1 rfl) ?_
    refine lv_iconst (v := iI 1) hx hb dX10_readPart_184 rfl ?_
    refine g_iadd hx hb dX10_readPart_185 ?_
    refine g_V (As := [.int (iI 1), .int (iI (a0 + 1))]) (rest := []) 28 (c_X10_fails l D cy ad σ 1 (by omega) (a0 + 1) (by omega)) hx hb hml hown hts hK hN hI hl.1 gX10_readPart_X10_fails rfl hd_X10_fails rfl rfl ⟨Nat.le_of_ble_eq_true rfl, Nat.le_of_ble_eq_true rfl⟩ ⟨Nat.zero_le _, Nat.zero_le _⟩ (by decide) (cel_28 cy ad _) rfl rfl rfl rfl (Nat.le_of_ble_eq_true rfl) dX10_readPart_186 (fun H locs hG_26 hI => ?_)
    have hF_27 := hI.2.2.2
    refine lv_goto (tgt := 230) hx hb dX10_readPart_189 (by decide) ?_
    have e9 : J_X10_readPart_155 a0 x2 x4 σ = J_X10_readPart_230 a0 x4 (f_X10_fails σ 1 (a0 + 1)) := by rw [J_X10_readPart_155, if_pos c_25]
    rw [e9]
    exact w_J_X10_readPart_230 X  a0 ha0 t0   x4 (f_X10_fails σ 1 (a0 + 1)) (by omega) (by omega) (by omega) (by omega) _ _ _ hI (lv_sub hl [0, 1, 3] rfl)
  · skip
    refine lv_iload_n hx hb dX10_readPart_163 rfl (lv_at hl 2 rfl) ?_
    refine lv_bipush (v := iI 37) hx hb dX10_readPart_164 (iI_bip (by decide)) ?_
    refine g_icmp_ne (tgt := 192) hx hb dX10_readPart_166 (by decide) (by omega) (by omega) (fun c_30 => ?_) (fun c_30 => ?_)
    · skip
      refine lv_iload_n hx hb dX10_readPart_192 rfl (lv_at hl 2 rfl) ?_
      refine lv_bipush (v := iI 37) hx hb dX10_readPart_193 (iI_bip (by decide)) ?_
      refine g_icmp_eq (tgt := 230) hx hb dX10_readPart_195 (by decide) (by omega) (by omega) (fun c_31 => ?_) (fun c_31 => ?_)
      · exact absurd c_31 c_30
      · skip
        refine lv_iload hx hb dX10_readPart_198 (lv_at hl 3 rfl) ?_
        refine lv_bipush (v := iI 48) hx hb dX10_readPart_200 (iI_bip (by decide)) ?_
        refine g_isub hx hb dX10_readPart_202 ?_
        refine lv_iconst (v := iI 1) hx hb dX10_readPart_203 rfl ?_
        refine lv_aload_n hx hb dX10_readPart_204 rfl (lv_at hl 0 rfl) ?_
        refine lv_aload_n hx hb dX10_readPart_205 rfl (lv_at hl 0 rfl) ?_
        refine g_get (C := RX10) (T := TX10) (N := 44) (ci := 9) (v := .ref (ad 37)) hx hb hts in_X10_readPart_X10 hown hK hI 28 (by decide) (cel_28 cy ad _) rfl 17 (by decide) (by decide +kernel) rfl dX10_readPart_206 ?_
        refine lv_aload_n hx hb dX10_readPart_209 rfl (lv_at hl 0 rfl) ?_
        refine g_get (C := RX10) (T := TX10) (N := 44) (ci := 9) (v := .int (iI (σ 28 15))) hx hb hts in_X10_readPart_X10 hown hK hI 28 (by decide) (cel_28 cy ad _) rfl 15 (by decide) (by decide +kernel) rfl dX10_readPart_210 ?_
        have b_32 := bd_28_15 hF
        refine g_V (As := [.ref (ad 37), .int (iI (σ 28 15))]) (rest := [.int (iI 1), .int (iI (x4 - 48))]) 28 (c_X10_wilds l D cy ad σ (σ 28 15) (by omega)) hx hb hml hown hts hK hN hI hl.1 gX10_readPart_X10_wilds rfl hd_X10_wilds rfl rfl ⟨Nat.le_of_ble_eq_true rfl, Nat.le_of_ble_eq_true rfl⟩ ⟨Nat.zero_le _, Nat.zero_le _⟩ (by decide) (cel_28 cy ad _) rfl rfl rfl rfl (Nat.le_of_ble_eq_true rfl) dX10_readPart_213 (fun H locs hG_33 hI => ?_)
        refine g_S (As := [.int (iI (x4 - 48)), .int (iI 1), .int (iI (f_X10_wilds σ (σ 28 15)))]) (rest := []) (c_X10_within l D cy ad σ (x4 - 48) (by omega) 1 (by omega) (f_X10_wilds σ (σ 28 15)) (by omega)) hx hb hml hown hts hK hN hI hl.1 gX10_readPart_X10_within rfl hd_X10_within rfl rfl ⟨Nat.le_of_ble_eq_true rfl, Nat.le_of_ble_eq_true rfl⟩ ⟨Nat.zero_le _, Nat.zero_le _⟩ rfl rfl (Nat.le_of_ble_eq_true rfl) dX10_readPart_216 (fun H locs hG_34 hI => ?_)
        refine g_if_ne (tgt := 230) hx hb dX10_readPart_219 (by decide) (by omega) (fun c_35 => ?_) (fun c_35 => ?_)
        · skip
          have e9 : J_X10_readPart_155 a0 x2 x4 σ = J_X10_readPart_230 a0 x4 σ := by rw [J_X10_readPart_155, if_neg c_25, if_neg c_30, if_neg c_35]
          rw [e9]
          exact w_J_X10_readPart_230 X  a0 ha0 t0   x4 σ (by omega) (by omega) (by omega) (by omega) _ _ _ hI (lv_sub hl [0, 1, 3] rfl)
        · skip
          refine lv_aload_n hx hb dX10_readPart_222 rfl (lv_at hl 0 rfl) ?_
          refine lv_iconst (v := iI 3) hx hb dX10_readPart_223 rfl ?_
          refine lv_iload_n hx hb dX10_readPart_224 rfl (lv_at hl 1 rfl) ?_
          refine lv_iconst (v := iI 1) hx hb dX10_readPart_225 rfl ?_
          refine g_iadd hx hb dX10_readPart_226 ?_
          refine g_V (As := [.int (iI 3), .int (iI (a0 + 1))]) (rest := []) 28 (c_X10_fails l D cy ad σ 3 (by omega) (a0 + 1) (by omega)) hx hb hml hown hts hK hN hI hl.1 gX10_readPart_X10_fails rfl hd_X10_fails rfl rfl ⟨Nat.le_of_ble_eq_true rfl, Nat.le_of_ble_eq_true rfl⟩ ⟨Nat.zero_le _, Nat.zero_le _⟩ (by decide) (cel_28 cy ad _) rfl rfl rfl rfl (Nat.le_of_ble_eq_true rfl) dX10_readPart_227 (fun H locs hG_36 hI => ?_)
          have hF_37 := hI.2.2.2
          have e9 : J_X10_readPart_155 a0 x2 x4 σ = J_X10_readPart_230 a0 x4 (f_X10_fails σ 3 (a0 + 1)) := by rw [J_X10_readPart_155, if_neg c_25, if_neg c_30, if_pos c_35]
          rw [e9]
          exact w_J_X10_readPart_230 X  a0 ha0 t0   x4 (f_X10_fails σ 3 (a0 + 1)) (by omega) (by omega) (by omega) (by omega) _ _ _ hI (lv_sub hl [0, 1, 3] rfl)
    · skip
      refine lv_iload hx hb dX10_readPart_169 (lv_at hl 3 rfl) ?_
      refine lv_bipush (v := iI 49) hx hb dX10_readPart_171 (iI_bip (by decide)) ?_
      refine lv_bipush (v := iI 52) hx hb dX10_readPart_173 (iI_bip (by decide)) ?_
      refine g_S (As := [.int (iI x4), .int (iI 49), .int (iI 52)]) (rest := []) (c_X10_within l D cy ad σ x4 (by omega) 49 (by omega) 52 (by omega)) hx hb hml hown hts hK hN hI hl.1 gX10_readPart_X10_within rfl hd_X10_within rfl rfl ⟨Nat.le_of_ble_eq_true rfl, Nat.le_of_ble_eq_true rfl⟩ ⟨Nat.zero_le _, Nat.zero_le _⟩ rfl rfl (Nat.le_of_ble_eq_true rfl) dX10_readPart_175 (fun H locs hG_38 hI => ?_)
      refine g_if_ne (tgt := 192) hx hb dX10_readPart_178 (by decide) (by omega) (fun c_39 => ?_) (fun c_39 => ?_)
      · skip
        refine lv_iload_n hx hb dX10_readPart_192 rfl (lv_at hl 2 rfl) ?_
        refine lv_bipush (v := iI 37) hx hb dX10_readPart_193 (iI_bip (by decide)) ?_
        refine g_icmp_eq (tgt := 230) hx hb dX10_readPart_195 (by decide) (by omega) (by omega) (fun c_40 => ?_) (fun c_40 => ?_)
        · skip
          have e9 : J_X10_readPart_155 a0 x2 x4 σ = J_X10_readPart_230 a0 x4 σ := by rw [J_X10_readPart_155, if_neg c_25, if_pos c_30, if_neg c_39]
          rw [e9]
          exact w_J_X10_readPart_230 X  a0 ha0 t0   x4 σ (by omega) (by omega) (by omega) (by omega) _ _ _ hI (lv_sub hl [0, 1, 3] rfl)
        · exact absurd c_30 c_40
      · skip
        refine lv_aload_n hx hb dX10_readPart_181 rfl (lv_at hl 0 rfl) ?_
        refine lv_iconst (v := iI 1) hx hb dX10_readPart_182 rfl ?_
        refine lv_iload_n hx hb dX10_readPart_183 rfl (lv_at hl 1 rfl) ?_
        refine lv_iconst (v := iI 1) hx hb dX10_readPart_184 rfl ?_
        refine g_iadd hx hb dX10_readPart_185 ?_
        refine g_V (As := [.int (iI 1), .int (iI (a0 + 1))]) (rest := []) 28 (c_X10_fails l D cy ad σ 1 (by omega) (a0 + 1) (by omega)) hx hb hml hown hts hK hN hI hl.1 gX10_readPart_X10_fails rfl hd_X10_fails rfl rfl ⟨Nat.le_of_ble_eq_true rfl, Nat.le_of_ble_eq_true rfl⟩ ⟨Nat.zero_le _, Nat.zero_le _⟩ (by decide) (cel_28 cy ad _) rfl rfl rfl rfl (Nat.le_of_ble_eq_true rfl) dX10_readPart_186 (fun H locs hG_41 hI => ?_)
        have hF_42 := hI.2.2.2
        refine lv_goto (tgt := 230) hx hb dX10_readPart_189 (by decide) ?_
        have e9 : J_X10_readPart_155 a0 x2 x4 σ = J_X10_readPart_230 a0 x4 (f_X10_fails σ 1 (a0 + 1)) := by rw [J_X10_readPart_155, if_neg c_25, if_pos c_30, if_pos c_39]
        rw [e9]
        exact w_J_X10_readPart_230 X  a0 ha0 t0   x4 (f_X10_fails σ 1 (a0 + 1)) (by omega) (by omega) (by omega) (by omega) _ _ _ hI (lv_sub hl [0, 1, 3] rfl)
def J_X10_readPart_49 (σ : Sg) (a0 : Int) (x2 : Int) (x3 : Int) : Int × Sg := (if a0 = (σ 28 9) then (a0, (f_X10_fails σ 1 a0)) else (if (f_X10_isNameByte x2) = 0 then (if x3 = 0 then (a0, (f_X10_fails σ 1 a0)) else (if (σ 28 16) = 12 then (a0, (f_X10_fails σ 2 a0)) else (if (σ 28 9) ≤ (a0 + 1) then J_X10_readPart_155 a0 x2 0 (up2 (up2 (up2 σ 38 ((σ 28 16).toNat) x2) 39 ((σ 28 16).toNat) 0) 28 16 ((σ 28 16) + 1)) else J_X10_readPart_155 a0 x2 (σ 33 ((a0 + 1).toNat)) (up2 (up2 (up2 σ 38 ((σ 28 16).toNat) x2) 39 ((σ 28 16).toNat) 0) 28 16 ((σ 28 16) + 1))))) else (if (σ 28 16) = 12 then (a0, (f_X10_fails σ 2 a0)) else (if x3 = 0 then (a0 + 1, (up2 (up2 (up2 σ 38 ((σ 28 16).toNat) x2) 39 ((σ 28 16).toNat) 0) 28 16 ((σ 28 16) + 1))) else (if (σ 28 9) ≤ (a0 + 1) then J_X10_readPart_155 a0 x2 0 (up2 (up2 (up2 σ 38 ((σ 28 16).toNat) x2) 39 ((σ 28 16).toNat) 0) 28 16 ((σ 28 16) + 1)) else J_X10_readPart_155 a0 x2 (σ 33 ((a0 + 1).toNat)) (up2 (up2 (up2 σ 38 ((σ 28 16).toNat) x2) 39 ((σ 28 16).toNat) 0) 28 16 ((σ 28 16) + 1)))))))
set_option maxHeartbeats 4000000 in
set_option maxRecDepth 100000 in
theorem w_J_X10_readPart_49 {p : Program} {l : Launch} {e : Env} {s : State} {m : MethodId} {args : Array Value} {below : List Frame} {meth : Method} {c₀ : Code} {D : va_G} {cy : Nat → ClassId} {ad : Nat → Nat} (X : MX p s m args meth c₀ cX10_readPart 5 RX10 (some .int) wsX10_readPart D cy) (σ : Sg) (a0 : Int) (ha0 : (0 : Int) ≤ a0 ∧ a0 ≤ 100) (t0 : Int) (ht : σ 28 9 = t0) (x2 : Int) (x3 : Int) (hx2 : (-128 : Int) ≤ x2 ∧ x2 ≤ 127) (hx3 : (0 : Int) ≤ x3 ∧ x3 ≤ 1) (hp0 : (a0 < t0 ∨ (x2 = 0 ∧ x3 = 0))) (hp1 : t0 = σ 28 9) (H : Heap) (locs : List Loc) (ls : Array Slot) (hI : HI D cy ad s σ H locs) (hl : lv_has ls 5 [(0, .ref (ad 28)), (1, .int (iI a0)), (2, .int (iI x2)), (3, .int (iI x3))]) : W p l e { frames := 2, cells := 0, slots := 0, locals := 80 } s m args below meth c₀ H locs 0 0 (MQ below (CQ D cy ad (some (.int (iI ((J_X10_readPart_49 σ a0 x2 x3).1)))) ((J_X10_readPart_49 σ a0 x2 x3).2) ((1 ≤ ((J_X10_readPart_49 σ a0 x2 x3).2) 28 21 ∨ (a0 + 1 ≤ ((J_X10_readPart_49 σ a0 x2 x3).1) ∧ a0 < t0)) ∧ ((J_X10_readPart_49 σ a0 x2 x3).1) ≤ a0 + 2 ∧ a0 ≤ ((J_X10_readPart_49 σ a0 x2 x3).1) ∧ ((J_X10_readPart_49 σ a0 x2 x3).2) 28 9 = t0) (AA ad s.heap.size)) args s 0 0 (AA ad s.heap.size)) (F0 m 49 ls []) := by
  obtain ⟨hx, hb, hr, hml, hown, hts, hlocks, hK, hN⟩ := id X
  have hF := hI.2.2.2
  refine lv_iload_n hx hb dX10_readPart_49 rfl (lv_at hl 1 rfl) ?_
  refine lv_aload_n hx hb dX10_readPart_50 rfl (lv_at hl 0 rfl) ?_
  refine g_get (C := RX10) (T := TX10) (N := 44) (ci := 9) (v := .int (iI (σ 28 9))) hx hb hts in_X10_readPart_X10 hown hK hI 28 (by decide) (cel_28 cy ad _) rfl 9 (by decide) (by decide +kernel) rfl dX10_readPart_51 ?_
  have b_7 := bd_28_9 hF
  refine g_icmp_eq (tgt := 68) hx hb dX10_readPart_54 (by decide) (by omega) (by omega) (fun c_8 => ?_) (fun c_8 => ?_)
  · skip
    refine lv_aload_n hx hb dX10_readPart_68 rfl (lv_at hl 0 rfl) ?_
    refine lv_iconst (v := iI 1) hx hb dX10_readPart_69 rfl ?_
    refine lv_iload_n hx hb dX10_readPart_70 rfl (lv_at hl 1 rfl) ?_
    refine g_V (As := [.int (iI 1), .int (iI a0)]) (rest := []) 28 (c_X10_fails l D cy ad σ 1 (by omega) a0 (by omega)) hx hb hml hown hts hK hN hI hl.1 gX10_readPart_X10_fails rfl hd_X10_fails rfl rfl ⟨Nat.le_of_ble_eq_true rfl, Nat.le_of_ble_eq_true rfl⟩ ⟨Nat.zero_le _, Nat.zero_le _⟩ (by decide) (cel_28 cy ad _) rfl rfl rfl rfl (Nat.le_of_ble_eq_true rfl) dX10_readPart_71 (fun H locs hG_9 hI => ?_)
    have hF_10 := hI.2.2.2
    refine lv_iload_n hx hb dX10_readPart_74 rfl (lv_at hl 1 rfl) ?_
    have e9 : J_X10_readPart_49 σ a0 x2 x3 = (a0, (f_X10_fails σ 1 a0)) := by rw [J_X10_readPart_49, if_pos c_8]
    exact g_iret (z := a0) hx hb hr hK hN hlocks hI (by rw [e9]) (by rw [e9]) (by rw [e9] <;> first | (refine ⟨?_, ?_, ?_, ?_⟩ <;> (try simp [up2_at]) <;> omega) | (dsimp only; refine ⟨?_, ?_, ?_, ?_⟩ <;> (try simp [up2_at]) <;> omega)) dX10_readPart_75
  · skip
    refine lv_iload_n hx hb dX10_readPart_57 rfl (lv_at hl 2 rfl) ?_
    refine g_S (As := [.int (iI x2)]) (rest := []) (c_X10_isNameByte l D cy ad σ x2 (by omega)) hx hb hml hown hts hK hN hI hl.1 gX10_readPart_X10_isNameByte rfl hd_X10_isNameByte rfl rfl ⟨Nat.le_of_ble_eq_true rfl, Nat.le_of_ble_eq_true rfl⟩ ⟨Nat.zero_le _, Nat.zero_le _⟩ rfl rfl (Nat.le_of_ble_eq_true rfl) dX10_readPart_58 (fun H locs hG_11 hI => ?_)
    have q5 : x2 = 0 → f_X10_isNameByte x2 = 0 := by intro h; rw [h]; decide
    refine g_if_ne (tgt := 76) hx hb dX10_readPart_61 (by decide) (by omega) (fun c_12 => ?_) (fun c_12 => ?_)
    · skip
      refine lv_aload_n hx hb dX10_readPart_76 rfl (lv_at hl 0 rfl) ?_
      refine g_get (C := RX10) (T := TX10) (N := 44) (ci := 9) (v := .int (iI (σ 28 16))) hx hb hts in_X10_readPart_X10 hown hK hI 28 (by decide) (cel_28 cy ad _) rfl 16 (by decide) (by decide +kernel) rfl dX10_readPart_77 ?_
      have b_13 := bd_28_16 hF
      refine lv_bipush (v := iI 12) hx hb dX10_readPart_80 (iI_bip (by decide)) ?_
      refine g_icmp_ne (tgt := 93) hx hb dX10_readPart_82 (by decide) (by omega) (by omega) (fun c_14 => ?_) (fun c_14 => ?_)
      · skip
        refine lv_aload_n hx hb dX10_readPart_93 rfl (lv_at hl 0 rfl) ?_
        refine g_get (C := RX10) (T := TX10) (N := 44) (ci := 9) (v := .ref (ad 38)) hx hb hts in_X10_readPart_X10 hown hK hI 28 (by decide) (cel_28 cy ad _) rfl 18 (by decide) (by decide +kernel) rfl dX10_readPart_94 ?_
        refine lv_aload_n hx hb dX10_readPart_97 rfl (lv_at hl 0 rfl) ?_
        refine g_get (C := RX10) (T := TX10) (N := 44) (ci := 9) (v := .int (iI (σ 28 16))) hx hb hts in_X10_readPart_X10 hown hK hI 28 (by decide) (cel_28 cy ad _) rfl 16 (by decide) (by decide +kernel) rfl dX10_readPart_98 ?_
        have b_15 := bd_28_16 hF
        refine lv_iload_n hx hb dX10_readPart_101 rfl (lv_at hl 2 rfl) ?_
        refine g_iast hx hb hK hI 38 (by decide) (cel_38 cy ad) (by omega) (by decide) (bw_38 (by omega)) dX10_readPart_102 (fun H locs hI => ?_)
        have hF_16 : WF (up2 σ 38 ((σ 28 16).toNat) x2) := hI.2.2.2
        refine lv_aload_n hx hb dX10_readPart_103 rfl (lv_at hl 0 rfl) ?_
        refine g_get (C := RX10) (T := TX10) (N := 44) (ci := 9) (v := .ref (ad 39)) hx hb hts in_X10_readPart_X10 hown hK hI 28 (by decide) (cel_28 cy ad _) rfl 19 (by decide) (by decide +kernel) rfl dX10_readPart_104 ?_
        refine lv_aload_n hx hb dX10_readPart_107 rfl (lv_at hl 0 rfl) ?_
        refine g_get (C := RX10) (T := TX10) (N := 44) (ci := 9) (v := .int (iI (σ 28 16))) hx hb hts in_X10_readPart_X10 hown hK hI 28 (by decide) (cel_28 cy ad _) rfl 16 (by decide) (by decide +kernel) (by show some (Value.int (iI ((up2 σ 38 ((σ 28 16).toNat) x2) 28 16))) = _; rw [up2_cell _ _ _ (by decide)]) dX10_readPart_108 ?_
        have b_17 := bd_28_16 hF
        refine lv_iconst (v := iI 0) hx hb dX10_readPart_111 rfl ?_
        refine g_iast hx hb hK hI 39 (by decide) (cel_39 cy ad) (by omega) (by decide) (bw_39 (by omega)) dX10_readPart_112 (fun H locs hI => ?_)
        have hF_18 : WF (up2 (up2 σ 38 ((σ 28 16).toNat) x2) 39 ((σ 28 16).toNat) 0) := hI.2.2.2
        refine lv_aload_n hx hb dX10_readPart_113 rfl (lv_at hl 0 rfl) ?_
        refine lv_dup hx hb dX10_readPart_114 rfl ?_
        refine g_get (C := RX10) (T := TX10) (N := 44) (ci := 9) (v := .int (iI (σ 28 16))) hx hb hts in_X10_readPart_X10 hown hK hI 28 (by decide) (cel_28 cy ad _) rfl 16 (by decide) (by decide +kernel) (by show some (Value.int (iI ((up2 (up2 σ 38 ((σ 28 16).toNat) x2) 39 ((σ 28 16).toNat) 0) 28 16))) = _; rw [up2_cell _ _ _ (by decide), up2_cell _ _ _ (by decide)]) dX10_readPart_115 ?_
        have b_19 := bd_28_16 hF
        refine lv_iconst (v := iI 1) hx hb dX10_readPart_118 rfl ?_
        refine g_iadd hx hb dX10_readPart_119 ?_
        refine g_put (C := RX10) (T := TX10) (N := 44) (ci := 9) (ty := .int) (z := (σ 28 16) + 1) hx hb hts in_X10_readPart_X10 tyX10 tyX10_ok nmX10 hown hK hI 28 (by decide) (cel_28 cy ad) rfl 16 (by decide) (by decide +kernel) rfl (by decide +kernel) rfl rfl (Nat.le_of_ble_eq_true rfl) rfl (bw_28_16 (by omega)) dX10_readPart_120 (fun H locs hI => ?_)
        have hF_20 := hI.2.2.2
        refine lv_iload_n hx hb dX10_readPart_123 rfl (lv_at hl 3 rfl) ?_
        refine g_if_ne (tgt := 131) hx hb dX10_readPart_124 (by decide) (by omega) (fun c_21 => ?_) (fun c_21 => ?_)
        · skip
          refine lv_iload_n hx hb dX10_readPart_131 rfl (lv_at hl 1 rfl) ?_
          refine lv_iconst (v := iI 1) hx hb dX10_readPart_132 rfl ?_
          refine g_iadd hx hb dX10_readPart_133 ?_
          refine lv_aload_n hx hb dX10_readPart_134 rfl (lv_at hl 0 rfl) ?_
          refine g_get (C := RX10) (T := TX10) (N := 44) (ci := 9) (v := .int (iI (σ 28 9))) hx hb hts in_X10_readPart_X10 hown hK hI 28 (by decide) (cel_28 cy ad _) rfl 9 (by decide) (by decide +kernel) (by show some (Value.int (iI ((up2 (up2 (up2 σ 38 ((σ 28 16).toNat) x2) 39 ((σ 28 16).toNat) 0) 28 16 ((σ 28 16) + 1)) 28 9))) = _; rw [up2_slot _ _ (by decide), up2_cell _ _ _ (by decide), up2_cell _ _ _ (by decide)]) dX10_readPart_135 ?_
          have b_22 := bd_28_9 hF
          refine g_icmp_ge (tgt := 152) hx hb dX10_readPart_138 (by decide) (by omega) (by omega) (fun c_23 => ?_) (fun c_23 => ?_)
          · skip
            refine lv_iconst (v := iI 0) hx hb dX10_readPart_152 rfl ?_
            refine lv_istore (lv' := [(4, .int (iI 0)), (0, .ref (ad 28)), (1, .int (iI a0)), (2, .int (iI x2)), (3, .int (iI x3))]) hx hb dX10_readPart_153 hl (by decide) rfl (fun ls hl => ?_)
            have e9 : J_X10_readPart_49 σ a0 x2 x3 = J_X10_readPart_155 a0 x2 0 (up2 (up2 (up2 σ 38 ((σ 28 16).toNat) x2) 39 ((σ 28 16).toNat) 0) 28 16 ((σ 28 16) + 1)) := by rw [J_X10_readPart_49, if_neg c_8, if_neg c_12, if_neg c_14, if_neg c_21, if_pos c_23]
            rw [e9]
            exact w_J_X10_readPart_155 X  a0 ha0 t0   x2 0 (up2 (up2 (up2 σ 38 ((σ 28 16).toNat) x2) 39 ((σ 28 16).toNat) 0) 28 16 ((σ 28 16) + 1)) (by omega) (by omega) (by first | omega | (simp [up2_at] <;> omega)) (by first | omega | (simp [up2_at] <;> omega)) (by omega) _ _ _ hI (lv_sub hl [1, 2, 3, 0] rfl)
          · skip
            refine lv_aload_n hx hb dX10_readPart_141 rfl (lv_at hl 0 rfl) ?_
            refine g_get (C := RX10) (T := TX10) (N := 44) (ci := 9) (v := .ref (ad 33)) hx hb hts in_X10_readPart_X10 hown hK hI 28 (by decide) (cel_28 cy ad _) rfl 8 (by decide) (by decide +kernel) rfl dX10_readPart_142 ?_
            refine lv_iload_n hx hb dX10_readPart_145 rfl (lv_at hl 1 rfl) ?_
            refine lv_iconst (v := iI 1) hx hb dX10_readPart_146 rfl ?_
            refine g_iadd hx hb dX10_readPart_147 ?_
            refine g_bald (v := σ 33 ((a0 + 1).toNat)) hx hb hK hI 33 (by decide) (cel_33 cy ad) (by omega) (by decide) (by rw [up2_cell _ _ _ (by decide), up2_cell _ _ _ (by decide), up2_cell _ _ _ (by decide)]) dX10_readPart_148 ?_
            have b_43 := bd_33 hF ((a0 + 1).toNat)
            refine lv_goto (tgt := 153) hx hb dX10_readPart_149 (by decide) ?_
            refine lv_istore (lv' := [(4, .int (iI (σ 33 ((a0 + 1).toNat)))), (0, .ref (ad 28)), (1, .int (iI a0)), (2, .int (iI x2)), (3, .int (iI x3))]) hx hb dX10_readPart_153 hl (by decide) rfl (fun ls hl => ?_)
            have e9 : J_X10_readPart_49 σ a0 x2 x3 = J_X10_readPart_155 a0 x2 (σ 33 ((a0 + 1).toNat)) (up2 (up2 (up2 σ 38 ((σ 28 16).toNat) x2) 39 ((σ 28 16).toNat) 0) 28 16 ((σ 28 16) + 1)) := by rw [J_X10_readPart_49, if_neg c_8, if_neg c_12, if_neg c_14, if_neg c_21, if_neg c_23]
            rw [e9]
            exact w_J_X10_readPart_155 X  a0 ha0 t0   x2 (σ 33 ((a0 + 1).toNat)) (up2 (up2 (up2 σ 38 ((σ 28 16).toNat) x2) 39 ((σ 28 16).toNat) 0) 28 16 ((σ 28 16) + 1)) (by omega) (by omega) (by first | omega | (simp [up2_at] <;> omega)) (by first | omega | (simp [up2_at] <;> omega)) (by omega) _ _ _ hI (lv_sub hl [1, 2, 3, 0] rfl)
        · skip
          refine lv_iload_n hx hb dX10_readPart_127 rfl (lv_at hl 1 rfl) ?_
          refine lv_iconst (v := iI 1) hx hb dX10_readPart_128 rfl ?_
          refine g_iadd hx hb dX10_readPart_129 ?_
          have e9 : J_X10_readPart_49 σ a0 x2 x3 = (a0 + 1, (up2 (up2 (up2 σ 38 ((σ 28 16).toNat) x2) 39 ((σ 28 16).toNat) 0) 28 16 ((σ 28 16) + 1))) := by rw [J_X10_readPart_49, if_neg c_8, if_neg c_12, if_neg c_14, if_pos c_21]
          exact g_iret (z := a0 + 1) hx hb hr hK hN hlocks hI (by rw [e9]) (by rw [e9]) (by rw [e9] <;> first | (refine ⟨?_, ?_, ?_, ?_⟩ <;> (try simp [up2_at]) <;> omega) | (dsimp only; refine ⟨?_, ?_, ?_, ?_⟩ <;> (try simp [up2_at]) <;> omega)) dX10_readPart_130
      · skip
        refine lv_aload_n hx hb dX10_readPart_85 rfl (lv_at hl 0 rfl) ?_
        refine lv_iconst (v := iI 2) hx hb dX10_readPart_86 rfl ?_
        refine lv_iload_n hx hb dX10_readPart_87 rfl (lv_at hl 1 rfl) ?_
        refine g_V (As := [.int (iI 2), .int (iI a0)]) (rest := []) 28 (c_X10_fails l D cy ad σ 2 (by omega) a0 (by omega)) hx hb hml hown hts hK hN hI hl.1 gX10_readPart_X10_fails rfl hd_X10_fails rfl rfl ⟨Nat.le_of_ble_eq_true rfl, Nat.le_of_ble_eq_true rfl⟩ ⟨Nat.zero_le _, Nat.zero_le _⟩ (by decide) (cel_28 cy ad _) rfl rfl rfl rfl (Nat.le_of_ble_eq_true rfl) dX10_readPart_88 (fun H locs hG_44 hI => ?_)
        have hF_45 := hI.2.2.2
        refine lv_iload_n hx hb dX10_readPart_91 rfl (lv_at hl 1 rfl) ?_
        have e9 : J_X10_readPart_49 σ a0 x2 x3 = (a0, (f_X10_fails σ 2 a0)) := by rw [J_X10_readPart_49, if_neg c_8, if_neg c_12, if_pos c_14]
        exact g_iret (z := a0) hx hb hr hK hN hlocks hI (by rw [e9]) (by rw [e9]) (by rw [e9] <;> first | (refine ⟨?_, ?_, ?_, ?_⟩ <;> (try simp [up2_at]) <;> omega) | (dsimp only; refine ⟨?_, ?_, ?_, ?_⟩ <;> (try simp [up2_at]) <;> omega)) dX10_readPart_92
    · skip
      refine lv_iload_n hx hb dX10_readPart_64 rfl (lv_at hl 3 rfl) ?_
      refine g_if_ne (tgt := 76) hx hb dX10_readPart_65 (by decide) (by omega) (fun c_46 => ?_) (fun c_46 => ?_)
      · skip
        refine lv_aload_n hx hb dX10_readPart_76 rfl (lv_at hl 0 rfl) ?_
        refine g_get (C := RX10) (T := TX10) (N := 44) (ci := 9) (v := .int (iI (σ 28 16))) hx hb hts in_X10_readPart_X10 hown hK hI 28 (by decide) (cel_28 cy ad _) rfl 16 (by decide) (by decide +kernel) rfl dX10_readPart_77 ?_
        have b_47 := bd_28_16 hF
        refine lv_bipush (v := iI 12) hx hb dX10_readPart_80 (iI_bip (by decide)) ?_
        refine g_icmp_ne (tgt := 93) hx hb dX10_readPart_82 (by decide) (by omega) (by omega) (fun c_48 => ?_) (fun c_48 => ?_)
        · skip
          refine lv_aload_n hx hb dX10_readPart_93 rfl (lv_at hl 0 rfl) ?_
          refine g_get (C := RX10) (T := TX10) (N := 44) (ci := 9) (v := .ref (ad 38)) hx hb hts in_X10_readPart_X10 hown hK hI 28 (by decide) (cel_28 cy ad _) rfl 18 (by decide) (by decide +kernel) rfl dX10_readPart_94 ?_
          refine lv_aload_n hx hb dX10_readPart_97 rfl (lv_at hl 0 rfl) ?_
          refine g_get (C := RX10) (T := TX10) (N := 44) (ci := 9) (v := .int (iI (σ 28 16))) hx hb hts in_X10_readPart_X10 hown hK hI 28 (by decide) (cel_28 cy ad _) rfl 16 (by decide) (by decide +kernel) rfl dX10_readPart_98 ?_
          have b_49 := bd_28_16 hF
          refine lv_iload_n hx hb dX10_readPart_101 rfl (lv_at hl 2 rfl) ?_
          refine g_iast hx hb hK hI 38 (by decide) (cel_38 cy ad) (by omega) (by decide) (bw_38 (by omega)) dX10_readPart_102 (fun H locs hI => ?_)
          have hF_50 : WF (up2 σ 38 ((σ 28 16).toNat) x2) := hI.2.2.2
          refine lv_aload_n hx hb dX10_readPart_103 rfl (lv_at hl 0 rfl) ?_
          refine g_get (C := RX10) (T := TX10) (N := 44) (ci := 9) (v := .ref (ad 39)) hx hb hts in_X10_readPart_X10 hown hK hI 28 (by decide) (cel_28 cy ad _) rfl 19 (by decide) (by decide +kernel) rfl dX10_readPart_104 ?_
          refine lv_aload_n hx hb dX10_readPart_107 rfl (lv_at hl 0 rfl) ?_
          refine g_get (C := RX10) (T := TX10) (N := 44) (ci := 9) (v := .int (iI (σ 28 16))) hx hb hts in_X10_readPart_X10 hown hK hI 28 (by decide) (cel_28 cy ad _) rfl 16 (by decide) (by decide +kernel) (by show some (Value.int (iI ((up2 σ 38 ((σ 28 16).toNat) x2) 28 16))) = _; rw [up2_cell _ _ _ (by decide)]) dX10_readPart_108 ?_
          have b_51 := bd_28_16 hF
          refine lv_iconst (v := iI 0) hx hb dX10_readPart_111 rfl ?_
          refine g_iast hx hb hK hI 39 (by decide) (cel_39 cy ad) (by omega) (by decide) (bw_39 (by omega)) dX10_readPart_112 (fun H locs hI => ?_)
          have hF_52 : WF (up2 (up2 σ 38 ((σ 28 16).toNat) x2) 39 ((σ 28 16).toNat) 0) := hI.2.2.2
          refine lv_aload_n hx hb dX10_readPart_113 rfl (lv_at hl 0 rfl) ?_
          refine lv_dup hx hb dX10_readPart_114 rfl ?_
          refine g_get (C := RX10) (T := TX10) (N := 44) (ci := 9) (v := .int (iI (σ 28 16))) hx hb hts in_X10_readPart_X10 hown hK hI 28 (by decide) (cel_28 cy ad _) rfl 16 (by decide) (by decide +kernel) (by show some (Value.int (iI ((up2 (up2 σ 38 ((σ 28 16).toNat) x2) 39 ((σ 28 16).toNat) 0) 28 16))) = _; rw [up2_cell _ _ _ (by decide), up2_cell _ _ _ (by decide)]) dX10_readPart_115 ?_
          have b_53 := bd_28_16 hF
          refine lv_iconst (v := iI 1) hx hb dX10_readPart_118 rfl ?_
          refine g_iadd hx hb dX10_readPart_119 ?_
          refine g_put (C := RX10) (T := TX10) (N := 44) (ci := 9) (ty := .int) (z := (σ 28 16) + 1) hx hb hts in_X10_readPart_X10 tyX10 tyX10_ok nmX10 hown hK hI 28 (by decide) (cel_28 cy ad) rfl 16 (by decide) (by decide +kernel) rfl (by decide +kernel) rfl rfl (Nat.le_of_ble_eq_true rfl) rfl (bw_28_16 (by omega)) dX10_readPart_120 (fun H locs hI => ?_)
          have hF_54 := hI.2.2.2
          refine lv_iload_n hx hb dX10_readPart_123 rfl (lv_at hl 3 rfl) ?_
          refine g_if_ne (tgt := 131) hx hb dX10_readPart_124 (by decide) (by omega) (fun c_55 => ?_) (fun c_55 => ?_)
          · skip
            refine lv_iload_n hx hb dX10_readPart_131 rfl (lv_at hl 1 rfl) ?_
            refine lv_iconst (v := iI 1) hx hb dX10_readPart_132 rfl ?_
            refine g_iadd hx hb dX10_readPart_133 ?_
            refine lv_aload_n hx hb dX10_readPart_134 rfl (lv_at hl 0 rfl) ?_
            refine g_get (C := RX10) (T := TX10) (N := 44) (ci := 9) (v := .int (iI (σ 28 9))) hx hb hts in_X10_readPart_X10 hown hK hI 28 (by decide) (cel_28 cy ad _) rfl 9 (by decide) (by decide +kernel) (by show some (Value.int (iI ((up2 (up2 (up2 σ 38 ((σ 28 16).toNat) x2) 39 ((σ 28 16).toNat) 0) 28 16 ((σ 28 16) + 1)) 28 9))) = _; rw [up2_slot _ _ (by decide), up2_cell _ _ _ (by decide), up2_cell _ _ _ (by decide)]) dX10_readPart_135 ?_
            have b_56 := bd_28_9 hF
            refine g_icmp_ge (tgt := 152) hx hb dX10_readPart_138 (by decide) (by omega) (by omega) (fun c_57 => ?_) (fun c_57 => ?_)
            · skip
              refine lv_iconst (v := iI 0) hx hb dX10_readPart_152 rfl ?_
              refine lv_istore (lv' := [(4, .int (iI 0)), (0, .ref (ad 28)), (1, .int (iI a0)), (2, .int (iI x2)), (3, .int (iI x3))]) hx hb dX10_readPart_153 hl (by decide) rfl (fun ls hl => ?_)
              have e9 : J_X10_readPart_49 σ a0 x2 x3 = J_X10_readPart_155 a0 x2 0 (up2 (up2 (up2 σ 38 ((σ 28 16).toNat) x2) 39 ((σ 28 16).toNat) 0) 28 16 ((σ 28 16) + 1)) := by rw [J_X10_readPart_49, if_neg c_8, if_pos c_12, if_neg c_46, if_neg c_48, if_pos c_57]
              rw [e9]
              exact w_J_X10_readPart_155 X  a0 ha0 t0   x2 0 (up2 (up2 (up2 σ 38 ((σ 28 16).toNat) x2) 39 ((σ 28 16).toNat) 0) 28 16 ((σ 28 16) + 1)) (by omega) (by omega) (by first | omega | (simp [up2_at] <;> omega)) (by first | omega | (simp [up2_at] <;> omega)) (by omega) _ _ _ hI (lv_sub hl [1, 2, 3, 0] rfl)
            · skip
              refine lv_aload_n hx hb dX10_readPart_141 rfl (lv_at hl 0 rfl) ?_
              refine g_get (C := RX10) (T := TX10) (N := 44) (ci := 9) (v := .ref (ad 33)) hx hb hts in_X10_readPart_X10 hown hK hI 28 (by decide) (cel_28 cy ad _) rfl 8 (by decide) (by decide +kernel) rfl dX10_readPart_142 ?_
              refine lv_iload_n hx hb dX10_readPart_145 rfl (lv_at hl 1 rfl) ?_
              refine lv_iconst (v := iI 1) hx hb dX10_readPart_146 rfl ?_
              refine g_iadd hx hb dX10_readPart_147 ?_
              refine g_bald (v := σ 33 ((a0 + 1).toNat)) hx hb hK hI 33 (by decide) (cel_33 cy ad) (by omega) (by decide) (by rw [up2_cell _ _ _ (by decide), up2_cell _ _ _ (by decide), up2_cell _ _ _ (by decide)]) dX10_readPart_148 ?_
              have b_58 := bd_33 hF ((a0 + 1).toNat)
              refine lv_goto (tgt := 153) hx hb dX10_readPart_149 (by decide) ?_
              refine lv_istore (lv' := [(4, .int (iI (σ 33 ((a0 + 1).toNat)))), (0, .ref (ad 28)), (1, .int (iI a0)), (2, .int (iI x2)), (3, .int (iI x3))]) hx hb dX10_readPart_153 hl (by decide) rfl (fun ls hl => ?_)
              have e9 : J_X10_readPart_49 σ a0 x2 x3 = J_X10_readPart_155 a0 x2 (σ 33 ((a0 + 1).toNat)) (up2 (up2 (up2 σ 38 ((σ 28 16).toNat) x2) 39 ((σ 28 16).toNat) 0) 28 16 ((σ 28 16) + 1)) := by rw [J_X10_readPart_49, if_neg c_8, if_pos c_12, if_neg c_46, if_neg c_48, if_neg c_57]
              rw [e9]
              exact w_J_X10_readPart_155 X  a0 ha0 t0   x2 (σ 33 ((a0 + 1).toNat)) (up2 (up2 (up2 σ 38 ((σ 28 16).toNat) x2) 39 ((σ 28 16).toNat) 0) 28 16 ((σ 28 16) + 1)) (by omega) (by omega) (by first | omega | (simp [up2_at] <;> omega)) (by first | omega | (simp [up2_at] <;> omega)) (by omega) _ _ _ hI (lv_sub hl [1, 2, 3, 0] rfl)
          · exact absurd c_55 c_46
        · skip
          refine lv_aload_n hx hb dX10_readPart_85 rfl (lv_at hl 0 rfl) ?_
          refine lv_iconst (v := iI 2) hx hb dX10_readPart_86 rfl ?_
          refine lv_iload_n hx hb dX10_readPart_87 rfl (lv_at hl 1 rfl) ?_
          refine g_V (As := [.int (iI 2), .int (iI a0)]) (rest := []) 28 (c_X10_fails l D cy ad σ 2 (by omega) a0 (by omega)) hx hb hml hown hts hK hN hI hl.1 gX10_readPart_X10_fails rfl hd_X10_fails rfl rfl ⟨Nat.le_of_ble_eq_true rfl, Nat.le_of_ble_eq_true rfl⟩ ⟨Nat.zero_le _, Nat.zero_le _⟩ (by decide) (cel_28 cy ad _) rfl rfl rfl rfl (Nat.le_of_ble_eq_true rfl) dX10_readPart_88 (fun H locs hG_59 hI => ?_)
          have hF_60 := hI.2.2.2
          refine lv_iload_n hx hb dX10_readPart_91 rfl (lv_at hl 1 rfl) ?_
          have e9 : J_X10_readPart_49 σ a0 x2 x3 = (a0, (f_X10_fails σ 2 a0)) := by rw [J_X10_readPart_49, if_neg c_8, if_pos c_12, if_neg c_46, if_pos c_48]
          exact g_iret (z := a0) hx hb hr hK hN hlocks hI (by rw [e9]) (by rw [e9]) (by rw [e9] <;> first | (refine ⟨?_, ?_, ?_, ?_⟩ <;> (try simp [up2_at]) <;> omega) | (dsimp only; refine ⟨?_, ?_, ?_, ?_⟩ <;> (try simp [up2_at]) <;> omega)) dX10_readPart_92
      · skip
        refine lv_aload_n hx hb dX10_readPart_68 rfl (lv_at hl 0 rfl) ?_
        refine lv_iconst (v := iI 1) hx hb dX10_readPart_69 rfl ?_
        refine lv_iload_n hx hb dX10_readPart_70 rfl (lv_at hl 1 rfl) ?_
        refine g_V (As := [.int (iI 1), .int (iI a0)]) (rest := []) 28 (c_X10_fails l D cy ad σ 1 (by omega) a0 (by omega)) hx hb hml hown hts hK hN hI hl.1 gX10_readPart_X10_fails rfl hd_X10_fails rfl rfl ⟨Nat.le_of_ble_eq_true rfl, Nat.le_of_ble_eq_true rfl⟩ ⟨Nat.zero_le _, Nat.zero_le _⟩ (by decide) (cel_28 cy ad _) rfl rfl rfl rfl (Nat.le_of_ble_eq_true rfl) dX10_readPart_71 (fun H locs hG_61 hI => ?_)
        have hF_62 := hI.2.2.2
        refine lv_iload_n hx hb dX10_readPart_74 rfl (lv_at hl 1 rfl) ?_
        have e9 : J_X10_readPart_49 σ a0 x2 x3 = (a0, (f_X10_fails σ 1 a0)) := by rw [J_X10_readPart_49, if_neg c_8, if_pos c_12, if_pos c_46]
        exact g_iret (z := a0) hx hb hr hK hN hlocks hI (by rw [e9]) (by rw [e9]) (by rw [e9] <;> first | (refine ⟨?_, ?_, ?_, ?_⟩ <;> (try simp [up2_at]) <;> omega) | (dsimp only; refine ⟨?_, ?_, ?_, ?_⟩ <;> (try simp [up2_at]) <;> omega)) dX10_readPart_75
def f_X10_readPart (σ : Sg) (a0 : Int) : Int × Sg := (if (σ 28 9) ≤ a0 then J_X10_readPart_49 σ a0 0 0 else (if (σ 33 a0.toNat) = 36 then J_X10_readPart_49 σ a0 (σ 33 a0.toNat) 1 else (if (σ 33 a0.toNat) = 94 then J_X10_readPart_49 σ a0 (σ 33 a0.toNat) 1 else (if (σ 33 a0.toNat) = 33 then J_X10_readPart_49 σ a0 (σ 33 a0.toNat) 1 else (if (σ 33 a0.toNat) = 37 then J_X10_readPart_49 σ a0 (σ 33 a0.toNat) 1 else J_X10_readPart_49 σ a0 (σ 33 a0.toNat) 0)))))
theorem hd_X10_readPart : yX10_readPart.cls = RX10 ∧ yX10_readPart.cls ≠ "java/lang/invoke/MethodHandle" ∧ yX10_readPart.cls ≠ "java/lang/invoke/VarHandle" ∧ (parseMethodDescriptor yX10_readPart.desc).map (fun d => d.parameters.length) = some 1 := by decide +kernel
set_option maxHeartbeats 4000000 in
set_option maxRecDepth 100000 in
theorem c_X10_readPart (l : Launch) (D : va_G) (cy : Nat → ClassId) (ad : Nat → Nat) (σ : Sg) (a0 : Int) (ha0 : (0 : Int) ≤ a0 ∧ a0 ≤ 100) (t0 : Int) (ht : σ 28 9 = t0) : CM l D cy ad yX10_readPart wsX10_readPart { frames := 2, cells := 0, slots := 0, locals := 80 } [.ref (ad 28), .int (iI a0)] σ (some (.int (iI ((f_X10_readPart σ a0).1)))) ((f_X10_readPart σ a0).2) ((1 ≤ ((f_X10_readPart σ a0).2) 28 21 ∨ (a0 + 1 ≤ ((f_X10_readPart σ a0).1) ∧ a0 < t0)) ∧ ((f_X10_readPart σ a0).1) ≤ a0 + 2 ∧ a0 ≤ ((f_X10_readPart σ a0).1) ∧ ((f_X10_readPart σ a0).2) 28 9 = t0) := by
  refine CM.of (cc := cX10_readPart) (maxL := 5) (ret := (some .int)) (by decide) rfl (Nat.le_of_ble_eq_true rfl) ?_
  intro p e s m args below meth c₀ ls X hI hl
  have hl : lv_has ls 5 [(0, .ref (ad 28)), (1, .int (iI a0))] := hl
  obtain ⟨hx, hb, hr, hml, hown, hts, hlocks, hK, hN⟩ := id X
  have hF := hI.2.2.2
  refine lv_iload_n hx hb dX10_readPart_0 rfl (lv_at hl 1 rfl) ?_
  refine lv_aload_n hx hb dX10_readPart_1 rfl (lv_at hl 0 rfl) ?_
  refine g_get (C := RX10) (T := TX10) (N := 44) (ci := 9) (v := .int (iI (σ 28 9))) hx hb hts in_X10_readPart_X10 hown hK hI 28 (by decide) (cel_28 cy ad _) rfl 9 (by decide) (by decide +kernel) rfl dX10_readPart_2 ?_
  have b_1 := bd_28_9 hF
  refine g_icmp_ge (tgt := 17) hx hb dX10_readPart_5 (by decide) (by omega) (by omega) (fun c_2 => ?_) (fun c_2 => ?_)
  · skip
    refine lv_iconst (v := iI 0) hx hb dX10_readPart_17 rfl ?_
    refine lv_istore_n (lv' := [(2, .int (iI 0)), (0, .ref (ad 28)), (1, .int (iI a0))]) hx hb dX10_readPart_18 rfl hl (by decide) rfl (fun ls hl => ?_)
    refine lv_iload_n hx hb dX10_readPart_19 rfl (lv_at hl 0 rfl) ?_
    refine lv_bipush (v := iI 36) hx hb dX10_readPart_20 (iI_bip (by decide)) ?_
    refine g_icmp_eq (tgt := 43) hx hb dX10_readPart_22 (by decide) (by omega) (by omega) (fun c_3 => ?_) (fun c_3 => ?_)
    · exact absurd c_3 (by decide)
    · skip
      refine lv_iload_n hx hb dX10_readPart_25 rfl (lv_at hl 0 rfl) ?_
      refine lv_bipush (v := iI 94) hx hb dX10_readPart_26 (iI_bip (by decide)) ?_
      refine g_icmp_eq (tgt := 43) hx hb dX10_readPart_28 (by decide) (by omega) (by omega) (fun c_4 => ?_) (fun c_4 => ?_)
      · exact absurd c_4 (by decide)
      · skip
        refine lv_iload_n hx hb dX10_readPart_31 rfl (lv_at hl 0 rfl) ?_
        refine lv_bipush (v := iI 33) hx hb dX10_readPart_32 (iI_bip (by decide)) ?_
        refine g_icmp_eq (tgt := 43) hx hb dX10_readPart_34 (by decide) (by omega) (by omega) (fun c_5 => ?_) (fun c_5 => ?_)
        · exact absurd c_5 (by decide)
        · skip
          refine lv_iload_n hx hb dX10_readPart_37 rfl (lv_at hl 0 rfl) ?_
          refine lv_bipush (v := iI 37) hx hb dX10_readPart_38 (iI_bip (by decide)) ?_
          refine g_icmp_ne (tgt := 47) hx hb dX10_readPart_40 (by decide) (by omega) (by omega) (fun c_6 => ?_) (fun c_6 => ?_)
          · skip
            refine lv_iconst (v := iI 0) hx hb dX10_readPart_47 rfl ?_
            refine lv_istore_n (lv' := [(3, .int (iI 0)), (2, .int (iI 0)), (0, .ref (ad 28)), (1, .int (iI a0))]) hx hb dX10_readPart_48 rfl hl (by decide) rfl (fun ls hl => ?_)
            have e9 : f_X10_readPart σ a0 = J_X10_readPart_49 σ a0 0 0 := by rw [f_X10_readPart, if_pos c_2]
            rw [e9]
            exact w_J_X10_readPart_49 X σ a0 ha0 t0 ht   0 0  (by omega) (by omega) (by omega) (by omega) _ _ _ hI (lv_sub hl [2, 3, 1, 0] rfl)
          · exact absurd c_6 (by decide)
  · skip
    refine lv_aload_n hx hb dX10_readPart_8 rfl (lv_at hl 0 rfl) ?_
    refine g_get (C := RX10) (T := TX10) (N := 44) (ci := 9) (v := .ref (ad 33)) hx hb hts in_X10_readPart_X10 hown hK hI 28 (by decide) (cel_28 cy ad _) rfl 8 (by decide) (by decide +kernel) rfl dX10_readPart_9 ?_
    refine lv_iload_n hx hb dX10_readPart_12 rfl (lv_at hl 1 rfl) ?_
    refine g_bald (v := σ 33 a0.toNat) hx hb hK hI 33 (by decide) (cel_33 cy ad) (by omega) (by decide) rfl dX10_readPart_13 ?_
    have b_63 := bd_33 hF a0.toNat
    refine lv_goto (tgt := 18) hx hb dX10_readPart_14 (by decide) ?_
    refine lv_istore_n (lv' := [(2, .int (iI (σ 33 a0.toNat))), (0, .ref (ad 28)), (1, .int (iI a0))]) hx hb dX10_readPart_18 rfl hl (by decide) rfl (fun ls hl => ?_)
    refine lv_iload_n hx hb dX10_readPart_19 rfl (lv_at hl 0 rfl) ?_
    refine lv_bipush (v := iI 36) hx hb dX10_readPart_20 (iI_bip (by decide)) ?_
    refine g_icmp_eq (tgt := 43) hx hb dX10_readPart_22 (by decide) (by omega) (by omega) (fun c_64 => ?_) (fun c_64 => ?_)
    · skip
      refine lv_iconst (v := iI 1) hx hb dX10_readPart_43 rfl ?_
      refine lv_goto (tgt := 48) hx hb dX10_readPart_44 (by decide) ?_
      refine lv_istore_n (lv' := [(3, .int (iI 1)), (2, .int (iI (σ 33 a0.toNat))), (0, .ref (ad 28)), (1, .int (iI a0))]) hx hb dX10_readPart_48 rfl hl (by decide) rfl (fun ls hl => ?_)
      have e9 : f_X10_readPart σ a0 = J_X10_readPart_49 σ a0 (σ 33 a0.toNat) 1 := by rw [f_X10_readPart, if_neg c_2, if_pos c_64]
      rw [e9]
      exact w_J_X10_readPart_49 X σ a0 ha0 t0 ht   (σ 33 a0.toNat) 1  (by omega) (by omega) (by omega) (by omega) _ _ _ hI (lv_sub hl [2, 3, 1, 0] rfl)
    · skip
      refine lv_iload_n hx hb dX10_readPart_25 rfl (lv_at hl 0 rfl) ?_
      refine lv_bipush (v := iI 94) hx hb dX10_readPart_26 (iI_bip (by decide)) ?_
      refine g_icmp_eq (tgt := 43) hx hb dX10_readPart_28 (by decide) (by omega) (by omega) (fun c_65 => ?_) (fun c_65 => ?_)
      · skip
        refine lv_iconst (v := iI 1) hx hb dX10_readPart_43 rfl ?_
        refine lv_goto (tgt := 48) hx hb dX10_readPart_44 (by decide) ?_
        refine lv_istore_n (lv' := [(3, .int (iI 1)), (2, .int (iI (σ 33 a0.toNat))), (0, .ref (ad 28)), (1, .int (iI a0))]) hx hb dX10_readPart_48 rfl hl (by decide) rfl (fun ls hl => ?_)
        have e9 : f_X10_readPart σ a0 = J_X10_readPart_49 σ a0 (σ 33 a0.toNat) 1 := by rw [f_X10_readPart, if_neg c_2, if_neg c_64, if_pos c_65]
        rw [e9]
        exact w_J_X10_readPart_49 X σ a0 ha0 t0 ht   (σ 33 a0.toNat) 1  (by omega) (by omega) (by omega) (by omega) _ _ _ hI (lv_sub hl [2, 3, 1, 0] rfl)
      · skip
        refine lv_iload_n hx hb dX10_readPart_31 rfl (lv_at hl 0 rfl) ?_
        refine lv_bipush (v := iI 33) hx hb dX10_readPart_32 (iI_bip (by decide)) ?_
        refine g_icmp_eq (tgt := 43) hx hb dX10_readPart_34 (by decide) (by omega) (by omega) (fun c_66 => ?_) (fun c_66 => ?_)
        · skip
          refine lv_iconst (v := iI 1) hx hb dX10_readPart_43 rfl ?_
          refine lv_goto (tgt := 48) hx hb dX10_readPart_44 (by decide) ?_
          refine lv_istore_n (lv' := [(3, .int (iI 1)), (2, .int (iI (σ 33 a0.toNat))), (0, .ref (ad 28)), (1, .int (iI a0))]) hx hb dX10_readPart_48 rfl hl (by decide) rfl (fun ls hl => ?_)
          have e9 : f_X10_readPart σ a0 = J_X10_readPart_49 σ a0 (σ 33 a0.toNat) 1 := by rw [f_X10_readPart, if_neg c_2, if_neg c_64, if_neg c_65, if_pos c_66]
          rw [e9]
          exact w_J_X10_readPart_49 X σ a0 ha0 t0 ht   (σ 33 a0.toNat) 1  (by omega) (by omega) (by omega) (by omega) _ _ _ hI (lv_sub hl [2, 3, 1, 0] rfl)
        · skip
          refine lv_iload_n hx hb dX10_readPart_37 rfl (lv_at hl 0 rfl) ?_
          refine lv_bipush (v := iI 37) hx hb dX10_readPart_38 (iI_bip (by decide)) ?_
          refine g_icmp_ne (tgt := 47) hx hb dX10_readPart_40 (by decide) (by omega) (by omega) (fun c_67 => ?_) (fun c_67 => ?_)
          · skip
            refine lv_iconst (v := iI 0) hx hb dX10_readPart_47 rfl ?_
            refine lv_istore_n (lv' := [(3, .int (iI 0)), (2, .int (iI (σ 33 a0.toNat))), (0, .ref (ad 28)), (1, .int (iI a0))]) hx hb dX10_readPart_48 rfl hl (by decide) rfl (fun ls hl => ?_)
            have e9 : f_X10_readPart σ a0 = J_X10_readPart_49 σ a0 (σ 33 a0.toNat) 0 := by rw [f_X10_readPart, if_neg c_2, if_neg c_64, if_neg c_65, if_neg c_66, if_neg c_67]
            rw [e9]
            exact w_J_X10_readPart_49 X σ a0 ha0 t0 ht   (σ 33 a0.toNat) 0  (by omega) (by omega) (by omega) (by omega) _ _ _ hI (lv_sub hl [2, 3, 1, 0] rfl)
          · skip
            refine lv_iconst (v := iI 1) hx hb dX10_readPart_43 rfl ?_
            refine lv_goto (tgt := 48) hx hb dX10_readPart_44 (by decide) ?_
            refine lv_istore_n (lv' := [(3, .int (iI 1)), (2, .int (iI (σ 33 a0.toNat))), (0, .ref (ad 28)), (1, .int (iI a0))]) hx hb dX10_readPart_48 rfl hl (by decide) rfl (fun ls hl => ?_)
            have e9 : f_X10_readPart σ a0 = J_X10_readPart_49 σ a0 (σ 33 a0.toNat) 1 := by rw [f_X10_readPart, if_neg c_2, if_neg c_64, if_neg c_65, if_neg c_66, if_pos c_67]
            rw [e9]
            exact w_J_X10_readPart_49 X σ a0 ha0 t0 ht   (σ 33 a0.toNat) 1  (by omega) (by omega) (by omega) (by omega) _ _ _ hI (lv_sub hl [2, 3, 1, 0] rfl)
theorem in_X10_rule_X10 : ∀ w ∈ u_ws RX10 TX10 44, w ∈ wsX10_rule := by decide +kernel
def L_X10_rule_20 : Nat → Int → Sg → Sg
  | 0, x1, σ => (σ)
  | n + 1, x1, σ => (if (σ 28 21) = 0 then (if x1 < (σ 28 9) then L_X10_rule_20 n ((f_X10_readPart σ x1).1) (f_X10_readPart σ x1).2 else (if (σ 28 16) = 0 then L_X10_rule_20 n ((f_X10_readPart σ x1).1) (f_X10_readPart σ x1).2 else σ)) else σ)
set_option maxHeartbeats 4000000 in
set_option maxRecDepth 100000 in
theorem w_L_X10_rule_20 {p : Program} {l : Launch} {e : Env} {s : State} {m : MethodId} {args : Array Value} {below : List Frame} {meth : Method} {c₀ : Code} {D : va_G} {cy : Nat → ClassId} {ad : Nat → Nat} {Q : State → Prop} (X : MX p s m args meth c₀ cX10_rule 3 RX10 (some .int) wsX10_rule D cy) : ∀ (n : Nat) (x1 : Int) (σ : Sg) (hx1 : (0 : Int) ≤ x1 ∧ x1 ≤ 100) (hp0 : (x1 ≤ 83 ∨ 1 ≤ σ 28 21)) (hmu : 102 - x1 - min (σ 28 21) 1 < (n : Int)) (H : Heap) (locs : List Loc) (ls : Array Slot) (hI : HI D cy ad s σ H locs) (hl : lv_has ls 3 [(0, .ref (ad 28)), (1, .int (iI x1))])  (hk : ∀ (H1 : Heap) (locs1 : List Loc) (ls1 : Array Slot), True → HI D cy ad s (L_X10_rule_20 n x1 σ) H1 locs1 → lv_has ls1 3 [(0, .ref (ad 28))] → W p l e { frames := 3, cells := 0, slots := 0, locals := 120 } s m args below meth c₀ H1 locs1 0 0 Q (F0 m 51 ls1 [])), W p l e { frames := 3, cells := 0, slots := 0, locals := 120 } s m args below meth c₀ H locs 0 0 Q (F0 m 20 ls []) := by
  obtain ⟨hx, hb, hr, hml, hown, hts, hlocks, hK, hN⟩ := id X
  intro n
  induction n with
  | zero =>
    intro x1 σ hx1 hp0 hmu H locs ls hI hl hk
    exfalso
    have hF := hI.2.2.2
    omega
  | succ n ih =>
    intro x1 σ hx1 hp0 hmu H locs ls hI hl hk
    have hF := hI.2.2.2
    refine lv_aload_n hx hb dX10_rule_20 rfl (lv_at hl 0 rfl) ?_
    refine g_get (C := RX10) (T := TX10) (N := 44) (ci := 9) (v := .int (iI (σ 28 21))) hx hb hts in_X10_rule_X10 hown hK hI 28 (by decide) (cel_28 cy ad _) rfl 21 (by decide) (by decide +kernel) rfl dX10_rule_21 ?_
    have b_6 := bd_28_21 hF
    refine g_if_ne (tgt := 51) hx hb dX10_rule_24 (by decide) (by omega) (fun c_7 => ?_) (fun c_7 => ?_)
    · skip
      have e9 : L_X10_rule_20 (n + 1) x1 σ = σ := by rw [L_X10_rule_20, if_neg c_7]
      rw [e9] at hk
      exact hk _ _ _ trivial hI (lv_sub hl [0] rfl)
    · skip
      refine lv_iload_n hx hb dX10_rule_27 rfl (lv_at hl 1 rfl) ?_
      refine lv_aload_n hx hb dX10_rule_28 rfl (lv_at hl 0 rfl) ?_
      refine g_get (C := RX10) (T := TX10) (N := 44) (ci := 9) (v := .int (iI (σ 28 9))) hx hb hts in_X10_rule_X10 hown hK hI 28 (by decide) (cel_28 cy ad _) rfl 9 (by decide) (by decide +kernel) rfl dX10_rule_29 ?_
      have b_8 := bd_28_9 hF
      refine g_icmp_lt (tgt := 42) hx hb dX10_rule_32 (by decide) (by omega) (by omega) (fun c_9 => ?_) (fun c_9 => ?_)
      · skip
        refine lv_aload_n hx hb dX10_rule_42 rfl (lv_at hl 0 rfl) ?_
        refine lv_iload_n hx hb dX10_rule_43 rfl (lv_at hl 1 rfl) ?_
        refine g_V (As := [.int (iI x1)]) (rest := []) 28 (c_X10_readPart l D cy ad σ x1 (by omega) (σ 28 9) rfl) hx hb hml hown hts hK hN hI hl.1 gX10_rule_X10_readPart rfl hd_X10_readPart rfl rfl ⟨Nat.le_of_ble_eq_true rfl, Nat.le_of_ble_eq_true rfl⟩ ⟨Nat.zero_le _, Nat.zero_le _⟩ (by decide) (cel_28 cy ad _) rfl rfl rfl rfl (Nat.le_of_ble_eq_true rfl) dX10_rule_44 (fun H locs hG_10 hI => ?_)
        have hF_11 := hI.2.2.2
        have q3 := bd_28_21 hI.2.2.2
        refine lv_istore_n (lv' := [(1, .int (iI ((f_X10_readPart σ x1).1))), (0, .ref (ad 28))]) hx hb dX10_rule_47 rfl hl (by decide) rfl (fun ls hl => ?_)
        refine lv_goto (tgt := 20) hx hb dX10_rule_48 (by decide) ?_
        have e9 : L_X10_rule_20 (n + 1) x1 σ = L_X10_rule_20 n ((f_X10_readPart σ x1).1) (f_X10_readPart σ x1).2 := by rw [L_X10_rule_20, if_pos c_7, if_pos c_9]
        rw [e9] at hk
        exact ih ((f_X10_readPart σ x1).1) (f_X10_readPart σ x1).2 (by omega) (by omega) (by omega) _ _ _ hI (lv_sub hl [1, 0] rfl) hk
      · skip
        refine lv_aload_n hx hb dX10_rule_35 rfl (lv_at hl 0 rfl) ?_
        refine g_get (C := RX10) (T := TX10) (N := 44) (ci := 9) (v := .int (iI (σ 28 16))) hx hb hts in_X10_rule_X10 hown hK hI 28 (by decide) (cel_28 cy ad _) rfl 16 (by decide) (by decide +kernel) rfl dX10_rule_36 ?_
        have b_12 := bd_28_16 hF
        refine g_if_ne (tgt := 51) hx hb dX10_rule_39 (by decide) (by omega) (fun c_13 => ?_) (fun c_13 => ?_)
        · skip
          have e9 : L_X10_rule_20 (n + 1) x1 σ = σ := by rw [L_X10_rule_20, if_pos c_7, if_neg c_9, if_neg c_13]
          rw [e9] at hk
          exact hk _ _ _ trivial hI (lv_sub hl [0] rfl)
        · skip
          refine lv_aload_n hx hb dX10_rule_42 rfl (lv_at hl 0 rfl) ?_
          refine lv_iload_n hx hb dX10_rule_43 rfl (lv_at hl 1 rfl) ?_
          refine g_V (As := [.int (iI x1)]) (rest := []) 28 (c_X10_readPart l D cy ad σ x1 (by omega) (σ 28 9) rfl) hx hb hml hown hts hK hN hI hl.1 gX10_rule_X10_readPart rfl hd_X10_readPart rfl rfl ⟨Nat.le_of_ble_eq_true rfl, Nat.le_of_ble_eq_true rfl⟩ ⟨Nat.zero_le _, Nat.zero_le _⟩ (by decide) (cel_28 cy ad _) rfl rfl rfl rfl (Nat.le_of_ble_eq_true rfl) dX10_rule_44 (fun H locs hG_14 hI => ?_)
          have hF_15 := hI.2.2.2
          have q3 := bd_28_21 hI.2.2.2
          refine lv_istore_n (lv' := [(1, .int (iI ((f_X10_readPart σ x1).1))), (0, .ref (ad 28))]) hx hb dX10_rule_47 rfl hl (by decide) rfl (fun ls hl => ?_)
          refine lv_goto (tgt := 20) hx hb dX10_rule_48 (by decide) ?_
          have e9 : L_X10_rule_20 (n + 1) x1 σ = L_X10_rule_20 n ((f_X10_readPart σ x1).1) (f_X10_readPart σ x1).2 := by rw [L_X10_rule_20, if_pos c_7, if_neg c_9, if_pos c_13]
          rw [e9] at hk
          exact ih ((f_X10_readPart σ x1).1) (f_X10_readPart σ x1).2 (by omega) (by omega) (by omega) _ _ _ hI (lv_sub hl [1, 0] rfl) hk
def L_X10_rule_107 : Nat → Int → Sg → Sg
  | 0, x2, σ => (σ)
  | n + 1, x2, σ => (if 12 ≤ x2 then σ else L_X10_rule_107 n (x2 + 1) (up2 (up2 (up2 σ 34 x2.toNat (σ 37 x2.toNat)) 35 x2.toNat (σ 38 x2.toNat)) 36 x2.toNat (σ 39 x2.toNat)))
set_option maxHeartbeats 4000000 in
set_option maxRecDepth 100000 in
theorem w_L_X10_rule_107 {p : Program} {l : Launch} {e : Env} {s : State} {m : MethodId} {args : Array Value} {below : List Frame} {meth : Method} {c₀ : Code} {D : va_G} {cy : Nat → ClassId} {ad : Nat → Nat} {Q : State → Prop} (X : MX p s m args meth c₀ cX10_rule 3 RX10 (some .int) wsX10_rule D cy) : ∀ (n : Nat) (x2 : Int) (σ : Sg) (hx2 : (0 : Int) ≤ x2 ∧ x2 ≤ 12) (hmu : 12 - x2 < (n : Int)) (H : Heap) (locs : List Loc) (ls : Array Slot) (hI : HI D cy ad s σ H locs) (hl : lv_has ls 3 [(0, .ref (ad 28)), (2, .int (iI x2))])  (hk : ∀ (H1 : Heap) (locs1 : List Loc) (ls1 : Array Slot), True → HI D cy ad s (L_X10_rule_107 n x2 σ) H1 locs1 → lv_has ls1 3 [(0, .ref (ad 28))] → W p l e { frames := 3, cells := 0, slots := 0, locals := 120 } s m args below meth c₀ H1 locs1 0 0 Q (F0 m 155 ls1 [])), W p l e { frames := 3, cells := 0, slots := 0, locals := 120 } s m args below meth c₀ H locs 0 0 Q (F0 m 107 ls []) := by
  obtain ⟨hx, hb, hr, hml, hown, hts, hlocks, hK, hN⟩ := id X
  intro n
  induction n with
  | zero =>
    intro x2 σ hx2 hmu H locs ls hI hl hk
    exfalso
    have hF := hI.2.2.2
    omega
  | succ n ih =>
    intro x2 σ hx2 hmu H locs ls hI hl hk
    have hF := hI.2.2.2
    refine lv_iload_n hx hb dX10_rule_107 rfl (lv_at hl 1 rfl) ?_
    refine lv_bipush (v := iI 12) hx hb dX10_rule_108 (iI_bip (by decide)) ?_
    refine g_icmp_ge (tgt := 155) hx hb dX10_rule_110 (by decide) (by omega) (by omega) (fun c_33 => ?_) (fun c_33 => ?_)
    · skip
      have e9 : L_X10_rule_107 (n + 1) x2 σ = σ := by rw [L_X10_rule_107, if_pos c_33]
      rw [e9] at hk
      exact hk _ _ _ trivial hI (lv_sub hl [0] rfl)
    · skip
      refine lv_aload_n hx hb dX10_rule_113 rfl (lv_at hl 0 rfl) ?_
      refine g_get (C := RX10) (T := TX10) (N := 44) (ci := 9) (v := .ref (ad 34)) hx hb hts in_X10_rule_X10 hown hK hI 28 (by decide) (cel_28 cy ad _) rfl 12 (by decide) (by decide +kernel) rfl dX10_rule_114 ?_
      refine lv_iload_n hx hb dX10_rule_117 rfl (lv_at hl 1 rfl) ?_
      refine lv_aload_n hx hb dX10_rule_118 rfl (lv_at hl 0 rfl) ?_
      refine g_get (C := RX10) (T := TX10) (N := 44) (ci := 9) (v := .ref (ad 37)) hx hb hts in_X10_rule_X10 hown hK hI 28 (by decide) (cel_28 cy ad _) rfl 17 (by decide) (by decide +kernel) rfl dX10_rule_119 ?_
      refine lv_iload_n hx hb dX10_rule_122 rfl (lv_at hl 1 rfl) ?_
      refine g_iald (v := σ 37 x2.toNat) hx hb hK hI 37 (by decide) (cel_37 cy ad) (by omega) (by decide) rfl dX10_rule_123 ?_
      have b_34 := bd_37 hF x2.toNat
      refine g_iast hx hb hK hI 34 (by decide) (cel_34 cy ad) (by omega) (by decide) (bw_34 (by omega)) dX10_rule_124 (fun H locs hI => ?_)
      have hF_35 : WF (up2 σ 34 x2.toNat (σ 37 x2.toNat)) := hI.2.2.2
      refine lv_aload_n hx hb dX10_rule_125 rfl (lv_at hl 0 rfl) ?_
      refine g_get (C := RX10) (T := TX10) (N := 44) (ci := 9) (v := .ref (ad 35)) hx hb hts in_X10_rule_X10 hown hK hI 28 (by decide) (cel_28 cy ad _) rfl 13 (by decide) (by decide +kernel) rfl dX10_rule_126 ?_
      refine lv_iload_n hx hb dX10_rule_129 rfl (lv_at hl 1 rfl) ?_
      refine lv_aload_n hx hb dX10_rule_130 rfl (lv_at hl 0 rfl) ?_
      refine g_get (C := RX10) (T := TX10) (N := 44) (ci := 9) (v := .ref (ad 38)) hx hb hts in_X10_rule_X10 hown hK hI 28 (by decide) (cel_28 cy ad _) rfl 18 (by decide) (by decide +kernel) rfl dX10_rule_131 ?_
      refine lv_iload_n hx hb dX10_rule_134 rfl (lv_at hl 1 rfl) ?_
      refine g_iald (v := σ 38 x2.toNat) hx hb hK hI 38 (by decide) (cel_38 cy ad) (by omega) (by decide) (by rw [up2_cell _ _ _ (by decide)]) dX10_rule_135 ?_
      have b_36 := bd_38 hF x2.toNat
      refine g_iast hx hb hK hI 35 (by decide) (cel_35 cy ad) (by omega) (by decide) (bw_35 (by omega)) dX10_rule_136 (fun H locs hI => ?_)
      have hF_37 : WF (up2 (up2 σ 34 x2.toNat (σ 37 x2.toNat)) 35 x2.toNat (σ 38 x2.toNat)) := hI.2.2.2
      refine lv_aload_n hx hb dX10_rule_137 rfl (lv_at hl 0 rfl) ?_
      refine g_get (C := RX10) (T := TX10) (N := 44) (ci := 9) (v := .ref (ad 36)) hx hb hts in_X10_rule_X10 hown hK hI 28 (by decide) (cel_28 cy ad _) rfl 14 (by decide) (by decide +kernel) rfl dX10_rule_138 ?_
      refine lv_iload_n hx hb dX10_rule_141 rfl (lv_at hl 1 rfl) ?_
      refine lv_aload_n hx hb dX10_rule_142 rfl (lv_at hl 0 rfl) ?_
      refine g_get (C := RX10) (T := TX10) (N := 44) (ci := 9) (v := .ref (ad 39)) hx hb hts in_X10_rule_X10 hown hK hI 28 (by decide) (cel_28 cy ad _) rfl 19 (by decide) (by decide +kernel) rfl dX10_rule_143 ?_
      refine lv_iload_n hx hb dX10_rule_146 rfl (lv_at hl 1 rfl) ?_
      refine g_iald (v := σ 39 x2.toNat) hx hb hK hI 39 (by decide) (cel_39 cy ad) (by omega) (by decide) (by rw [up2_cell _ _ _ (by decide), up2_cell _ _ _ (by decide)]) dX10_rule_147 ?_
      have b_38 := bd_39 hF x2.toNat
      refine g_iast hx hb hK hI 36 (by decide) (cel_36 cy ad) (by omega) (by decide) (bw_36 (by omega)) dX10_rule_148 (fun H locs hI => ?_)
      have hF_39 : WF (up2 (up2 (up2 σ 34 x2.toNat (σ 37 x2.toNat)) 35 x2.toNat (σ 38 x2.toNat)) 36 x2.toNat (σ 39 x2.toNat)) := hI.2.2.2
      refine lv_iinc (v := iI (x2 + 1)) (lv' := [(2, .int (iI (x2 + 1))), (0, .ref (ad 28))]) hx hb dX10_rule_149 hl (k := 1) rfl (iI_add _ _) (by decide) rfl (fun ls hl => ?_)
      refine lv_goto (tgt := 107) hx hb dX10_rule_152 (by decide) ?_
      have e9 : L_X10_rule_107 (n + 1) x2 σ = L_X10_rule_107 n (x2 + 1) (up2 (up2 (up2 σ 34 x2.toNat (σ 37 x2.toNat)) 35 x2.toNat (σ 38 x2.toNat)) 36 x2.toNat (σ 39 x2.toNat)) := by rw [L_X10_rule_107, if_neg c_33]
      rw [e9] at hk
      exact ih (x2 + 1) (up2 (up2 (up2 σ 34 x2.toNat (σ 37 x2.toNat)) 35 x2.toNat (σ 38 x2.toNat)) 36 x2.toNat (σ 39 x2.toNat)) (by omega) (by omega) _ _ _ hI (lv_sub hl [1, 0] rfl) hk
def f_X10_rule (σ : Sg) : Int × Sg := (if ((L_X10_rule_20 103 ((f_X10_readItems (up2 (up2 (up2 σ 28 0 0) 28 21 0) 28 16 0)).1) (f_X10_readItems (up2 (up2 (up2 σ 28 0 0) 28 21 0) 28 16 0)).2) 28 21) = 0 then ((L_X10_rule_107 13 0 (up2 (up2 (up2 (up2 (L_X10_rule_20 103 ((f_X10_readItems (up2 (up2 (up2 σ 28 0 0) 28 21 0) 28 16 0)).1) (f_X10_readItems (up2 (up2 (up2 σ 28 0 0) 28 21 0) 28 16 0)).2) 28 9 0) 28 20 (-1)) 28 10 ((L_X10_rule_20 103 ((f_X10_readItems (up2 (up2 (up2 σ 28 0 0) 28 21 0) 28 16 0)).1) (f_X10_readItems (up2 (up2 (up2 σ 28 0 0) 28 21 0) 28 16 0)).2) 28 15)) 28 11 ((L_X10_rule_20 103 ((f_X10_readItems (up2 (up2 (up2 σ 28 0 0) 28 21 0) 28 16 0)).1) (f_X10_readItems (up2 (up2 (up2 σ 28 0 0) 28 21 0) 28 16 0)).2) 28 16))) 28 10, (L_X10_rule_107 13 0 (up2 (up2 (up2 (up2 (L_X10_rule_20 103 ((f_X10_readItems (up2 (up2 (up2 σ 28 0 0) 28 21 0) 28 16 0)).1) (f_X10_readItems (up2 (up2 (up2 σ 28 0 0) 28 21 0) 28 16 0)).2) 28 9 0) 28 20 (-1)) 28 10 ((L_X10_rule_20 103 ((f_X10_readItems (up2 (up2 (up2 σ 28 0 0) 28 21 0) 28 16 0)).1) (f_X10_readItems (up2 (up2 (up2 σ 28 0 0) 28 21 0) 28 16 0)).2) 28 15)) 28 11 ((L_X10_rule_20 103 ((f_X10_readItems (up2 (up2 (up2 σ 28 0 0) 28 21 0) 28 16 0)).1) (f_X10_readItems (up2 (up2 (up2 σ 28 0 0) 28 21 0) 28 16 0)).2) 28 16)))) else ((-1) - ((L_X10_rule_20 103 ((f_X10_readItems (up2 (up2 (up2 σ 28 0 0) 28 21 0) 28 16 0)).1) (f_X10_readItems (up2 (up2 (up2 σ 28 0 0) 28 21 0) 28 16 0)).2) 28 21), (up2 (up2 (L_X10_rule_20 103 ((f_X10_readItems (up2 (up2 (up2 σ 28 0 0) 28 21 0) 28 16 0)).1) (f_X10_readItems (up2 (up2 (up2 σ 28 0 0) 28 21 0) 28 16 0)).2) 28 9 0) 28 20 ((L_X10_rule_20 103 ((f_X10_readItems (up2 (up2 (up2 σ 28 0 0) 28 21 0) 28 16 0)).1) (f_X10_readItems (up2 (up2 (up2 σ 28 0 0) 28 21 0) 28 16 0)).2) 28 22))))
theorem hd_X10_rule : yX10_rule.cls = RX10 ∧ yX10_rule.cls ≠ "java/lang/invoke/MethodHandle" ∧ yX10_rule.cls ≠ "java/lang/invoke/VarHandle" ∧ (parseMethodDescriptor yX10_rule.desc).map (fun d => d.parameters.length) = some 0 := by decide +kernel
set_option maxHeartbeats 4000000 in
set_option maxRecDepth 100000 in
theorem c_X10_rule (l : Launch) (D : va_G) (cy : Nat → ClassId) (ad : Nat → Nat) (σ : Sg) : CM l D cy ad yX10_rule wsX10_rule { frames := 3, cells := 0, slots := 0, locals := 120 } [.ref (ad 28)] σ (some (.int (iI ((f_X10_rule σ).1)))) ((f_X10_rule σ).2) (True) := by
  refine CM.of (cc := cX10_rule) (maxL := 3) (ret := (some .int)) (by decide) rfl (Nat.le_of_ble_eq_true rfl) ?_
  intro p e s m args below meth c₀ ls X hI hl
  have hl : lv_has ls 3 [(0, .ref (ad 28))] := hl
  obtain ⟨hx, hb, hr, hml, hown, hts, hlocks, hK, hN⟩ := id X
  have hF := hI.2.2.2
  refine lv_aload_n hx hb dX10_rule_0 rfl (lv_at hl 0 rfl) ?_
  refine lv_iconst (v := iI 0) hx hb dX10_rule_1 rfl ?_
  refine g_put (C := RX10) (T := TX10) (N := 44) (ci := 9) (ty := .int) (z := 0) hx hb hts in_X10_rule_X10 tyX10 tyX10_ok nmX10 hown hK hI 28 (by decide) (cel_28 cy ad) rfl 0 (by decide) (by decide +kernel) rfl (by decide +kernel) rfl rfl (Nat.le_of_ble_eq_true rfl) rfl (bw_28_0 (by omega)) dX10_rule_2 (fun H locs hI => ?_)
  have hF_1 := hI.2.2.2
  refine lv_aload_n hx hb dX10_rule_5 rfl (lv_at hl 0 rfl) ?_
  refine lv_iconst (v := iI 0) hx hb dX10_rule_6 rfl ?_
  refine g_put (C := RX10) (T := TX10) (N := 44) (ci := 9) (ty := .int) (z := 0) hx hb hts in_X10_rule_X10 tyX10 tyX10_ok nmX10 hown hK hI 28 (by decide) (cel_28 cy ad) rfl 21 (by decide) (by decide +kernel) rfl (by decide +kernel) rfl rfl (Nat.le_of_ble_eq_true rfl) rfl (bw_28_21 (by omega)) dX10_rule_7 (fun H locs hI => ?_)
  have hF_2 := hI.2.2.2
  refine lv_aload_n hx hb dX10_rule_10 rfl (lv_at hl 0 rfl) ?_
  refine lv_iconst (v := iI 0) hx hb dX10_rule_11 rfl ?_
  refine g_put (C := RX10) (T := TX10) (N := 44) (ci := 9) (ty := .int) (z := 0) hx hb hts in_X10_rule_X10 tyX10 tyX10_ok nmX10 hown hK hI 28 (by decide) (cel_28 cy ad) rfl 16 (by decide) (by decide +kernel) rfl (by decide +kernel) rfl rfl (Nat.le_of_ble_eq_true rfl) rfl (bw_28_16 (by omega)) dX10_rule_12 (fun H locs hI => ?_)
  have hF_3 := hI.2.2.2
  refine lv_aload_n hx hb dX10_rule_15 rfl (lv_at hl 0 rfl) ?_
  refine g_V (As := []) (rest := []) 28 (c_X10_readItems l D cy ad (up2 (up2 (up2 σ 28 0 0) 28 21 0) 28 16 0) ) hx hb hml hown hts hK hN hI hl.1 gX10_rule_X10_readItems rfl hd_X10_readItems rfl rfl ⟨Nat.le_of_ble_eq_true rfl, Nat.le_of_ble_eq_true rfl⟩ ⟨Nat.zero_le _, Nat.zero_le _⟩ (by decide) (cel_28 cy ad _) rfl rfl rfl rfl (Nat.le_of_ble_eq_true rfl) dX10_rule_16 (fun H locs hG_4 hI => ?_)
  have hF_5 := hI.2.2.2
  have q3 := bd_28_21 hI.2.2.2
  refine lv_istore_n (lv' := [(1, .int (iI ((f_X10_readItems (up2 (up2 (up2 σ 28 0 0) 28 21 0) 28 16 0)).1))), (0, .ref (ad 28))]) hx hb dX10_rule_19 rfl hl (by decide) rfl (fun ls hl => ?_)
  refine w_L_X10_rule_20 X    103 ((f_X10_readItems (up2 (up2 (up2 σ 28 0 0) 28 21 0) 28 16 0)).1) (f_X10_readItems (up2 (up2 (up2 σ 28 0 0) 28 21 0) 28 16 0)).2 (by omega) (by omega) (by omega) _ _ _ hI (lv_sub hl [1, 0] rfl) (fun H locs ls hpo_17 hI hl => ?_)
  have hF_16 := hI.2.2.2
  refine lv_aload_n hx hb dX10_rule_51 rfl (lv_at hl 0 rfl) ?_
  refine lv_iconst (v := iI 0) hx hb dX10_rule_52 rfl ?_
  refine g_put (C := RX10) (T := TX10) (N := 44) (ci := 9) (ty := .int) (z := 0) hx hb hts in_X10_rule_X10 tyX10 tyX10_ok nmX10 hown hK hI 28 (by decide) (cel_28 cy ad) rfl 9 (by decide) (by decide +kernel) rfl (by decide +kernel) rfl rfl (Nat.le_of_ble_eq_true rfl) rfl (bw_28_9 (by omega)) dX10_rule_53 (fun H locs hI => ?_)
  have hF_18 := hI.2.2.2
  refine lv_aload_n hx hb dX10_rule_56 rfl (lv_at hl 0 rfl) ?_
  refine lv_aload_n hx hb dX10_rule_57 rfl (lv_at hl 0 rfl) ?_
  refine g_get (C := RX10) (T := TX10) (N := 44) (ci := 9) (v := .int (iI ((L_X10_rule_20 103 ((f_X10_readItems (up2 (up2 (up2 σ 28 0 0) 28 21 0) 28 16 0)).1) (f_X10_readItems (up2 (up2 (up2 σ 28 0 0) 28 21 0) 28 16 0)).2) 28 21))) hx hb hts in_X10_rule_X10 hown hK hI 28 (by decide) (cel_28 cy ad _) rfl 21 (by decide) (by decide +kernel) (by show some (Value.int (iI ((up2 (L_X10_rule_20 103 ((f_X10_readItems (up2 (up2 (up2 σ 28 0 0) 28 21 0) 28 16 0)).1) (f_X10_readItems (up2 (up2 (up2 σ 28 0 0) 28 21 0) 28 16 0)).2) 28 9 0) 28 21))) = _; rw [up2_slot _ _ (by decide)]) dX10_rule_58 ?_
  have b_19 := bd_28_21 hF_16
  refine g_if_ne (tgt := 68) hx hb dX10_rule_61 (by decide) (by omega) (fun c_20 => ?_) (fun c_20 => ?_)
  · skip
    refine lv_aload_n hx hb dX10_rule_68 rfl (lv_at hl 0 rfl) ?_
    refine g_get (C := RX10) (T := TX10) (N := 44) (ci := 9) (v := .int (iI ((L_X10_rule_20 103 ((f_X10_readItems (up2 (up2 (up2 σ 28 0 0) 28 21 0) 28 16 0)).1) (f_X10_readItems (up2 (up2 (up2 σ 28 0 0) 28 21 0) 28 16 0)).2) 28 22))) hx hb hts in_X10_rule_X10 hown hK hI 28 (by decide) (cel_28 cy ad _) rfl 22 (by decide) (by decide +kernel) (by show some (Value.int (iI ((up2 (L_X10_rule_20 103 ((f_X10_readItems (up2 (up2 (up2 σ 28 0 0) 28 21 0) 28 16 0)).1) (f_X10_readItems (up2 (up2 (up2 σ 28 0 0) 28 21 0) 28 16 0)).2) 28 9 0) 28 22))) = _; rw [up2_slot _ _ (by decide)]) dX10_rule_69 ?_
    have b_21 := bd_28_22 hF_16
    refine g_put (C := RX10) (T := TX10) (N := 44) (ci := 9) (ty := .int) (z := (L_X10_rule_20 103 ((f_X10_readItems (up2 (up2 (up2 σ 28 0 0) 28 21 0) 28 16 0)).1) (f_X10_readItems (up2 (up2 (up2 σ 28 0 0) 28 21 0) 28 16 0)).2) 28 22) hx hb hts in_X10_rule_X10 tyX10 tyX10_ok nmX10 hown hK hI 28 (by decide) (cel_28 cy ad) rfl 20 (by decide) (by decide +kernel) rfl (by decide +kernel) rfl rfl (Nat.le_of_ble_eq_true rfl) rfl (bw_28_20 (by omega)) dX10_rule_72 (fun H locs hI => ?_)
    have hF_22 := hI.2.2.2
    refine lv_aload_n hx hb dX10_rule_75 rfl (lv_at hl 0 rfl) ?_
    refine g_get (C := RX10) (T := TX10) (N := 44) (ci := 9) (v := .int (iI ((L_X10_rule_20 103 ((f_X10_readItems (up2 (up2 (up2 σ 28 0 0) 28 21 0) 28 16 0)).1) (f_X10_readItems (up2 (up2 (up2 σ 28 0 0) 28 21 0) 28 16 0)).2) 28 21))) hx hb hts in_X10_rule_X10 hown hK hI 28 (by decide) (cel_28 cy ad _) rfl 21 (by decide) (by decide +kernel) (by show some (Value.int (iI ((up2 (up2 (L_X10_rule_20 103 ((f_X10_readItems (up2 (up2 (up2 σ 28 0 0) 28 21 0) 28 16 0)).1) (f_X10_readItems (up2 (up2 (up2 σ 28 0 0) 28 21 0) 28 16 0)).2) 28 9 0) 28 20 ((L_X10_rule_20 103 ((f_X10_readItems (up2 (up2 (up2 σ 28 0 0) 28 21 0) 28 16 0)).1) (f_X10_readItems (up2 (up2 (up2 σ 28 0 0) 28 21 0) 28 16 0)).2) 28 22)) 28 21))) = _; rw [up2_slot _ _ (by decide), up2_slot _ _ (by decide)]) dX10_rule_76 ?_
    have b_23 := bd_28_21 hF_16
    refine g_if_eq (tgt := 89) hx hb dX10_rule_79 (by decide) (by omega) (fun c_24 => ?_) (fun c_24 => ?_)
    · exact absurd c_24 c_20
    · skip
      refine lv_iconst (v := iI (-1)) hx hb dX10_rule_82 rfl ?_
      refine lv_aload_n hx hb dX10_rule_83 rfl (lv_at hl 0 rfl) ?_
      refine g_get (C := RX10) (T := TX10) (N := 44) (ci := 9) (v := .int (iI ((L_X10_rule_20 103 ((f_X10_readItems (up2 (up2 (up2 σ 28 0 0) 28 21 0) 28 16 0)).1) (f_X10_readItems (up2 (up2 (up2 σ 28 0 0) 28 21 0) 28 16 0)).2) 28 21))) hx hb hts in_X10_rule_X10 hown hK hI 28 (by decide) (cel_28 cy ad _) rfl 21 (by decide) (by decide +kernel) (by show some (Value.int (iI ((up2 (up2 (L_X10_rule_20 103 ((f_X10_readItems (up2 (up2 (up2 σ 28 0 0) 28 21 0) 28 16 0)).1) (f_X10_readItems (up2 (up2 (up2 σ 28 0 0) 28 21 0) 28 16 0)).2) 28 9 0) 28 20 ((L_X10_rule_20 103 ((f_X10_readItems (up2 (up2 (up2 σ 28 0 0) 28 21 0) 28 16 0)).1) (f_X10_readItems (up2 (up2 (up2 σ 28 0 0) 28 21 0) 28 16 0)).2) 28 22)) 28 21))) = _; rw [up2_slot _ _ (by decide), up2_slot _ _ (by decide)]) dX10_rule_84 ?_
      have b_25 := bd_28_21 hF_16
      refine g_isub hx hb dX10_rule_87 ?_
      have e9 : f_X10_rule σ = ((-1) - ((L_X10_rule_20 103 ((f_X10_readItems (up2 (up2 (up2 σ 28 0 0) 28 21 0) 28 16 0)).1) (f_X10_readItems (up2 (up2 (up2 σ 28 0 0) 28 21 0) 28 16 0)).2) 28 21), (up2 (up2 (L_X10_rule_20 103 ((f_X10_readItems (up2 (up2 (up2 σ 28 0 0) 28 21 0) 28 16 0)).1) (f_X10_readItems (up2 (up2 (up2 σ 28 0 0) 28 21 0) 28 16 0)).2) 28 9 0) 28 20 ((L_X10_rule_20 103 ((f_X10_readItems (up2 (up2 (up2 σ 28 0 0) 28 21 0) 28 16 0)).1) (f_X10_readItems (up2 (up2 (up2 σ 28 0 0) 28 21 0) 28 16 0)).2) 28 22))) := by rw [f_X10_rule, if_neg c_20]
      exact g_iret (z := (-1) - ((L_X10_rule_20 103 ((f_X10_readItems (up2 (up2 (up2 σ 28 0 0) 28 21 0) 28 16 0)).1) (f_X10_readItems (up2 (up2 (up2 σ 28 0 0) 28 21 0) 28 16 0)).2) 28 21)) hx hb hr hK hN hlocks hI (by rw [e9]) (by rw [e9]) trivial dX10_rule_88
  · skip
    refine lv_iconst (v := iI (-1)) hx hb dX10_rule_64 rfl ?_
    refine lv_goto (tgt := 72) hx hb dX10_rule_65 (by decide) ?_
    refine g_put (C := RX10) (T := TX10) (N := 44) (ci := 9) (ty := .int) (z := (-1)) hx hb hts in_X10_rule_X10 tyX10 tyX10_ok nmX10 hown hK hI 28 (by decide) (cel_28 cy ad) rfl 20 (by decide) (by decide +kernel) rfl (by decide +kernel) rfl rfl (Nat.le_of_ble_eq_true rfl) rfl (bw_28_20 (by omega)) dX10_rule_72 (fun H locs hI => ?_)
    have hF_26 := hI.2.2.2
    refine lv_aload_n hx hb dX10_rule_75 rfl (lv_at hl 0 rfl) ?_
    refine g_get (C := RX10) (T := TX10) (N := 44) (ci := 9) (v := .int (iI ((L_X10_rule_20 103 ((f_X10_readItems (up2 (up2 (up2 σ 28 0 0) 28 21 0) 28 16 0)).1) (f_X10_readItems (up2 (up2 (up2 σ 28 0 0) 28 21 0) 28 16 0)).2) 28 21))) hx hb hts in_X10_rule_X10 hown hK hI 28 (by decide) (cel_28 cy ad _) rfl 21 (by decide) (by decide +kernel) (by show some (Value.int (iI ((up2 (up2 (L_X10_rule_20 103 ((f_X10_readItems (up2 (up2 (up2 σ 28 0 0) 28 21 0) 28 16 0)).1) (f_X10_readItems (up2 (up2 (up2 σ 28 0 0) 28 21 0) 28 16 0)).2) 28 9 0) 28 20 (-1)) 28 21))) = _; rw [up2_slot _ _ (by decide), up2_slot _ _ (by decide)]) dX10_rule_76 ?_
    have b_27 := bd_28_21 hF_16
    refine g_if_eq (tgt := 89) hx hb dX10_rule_79 (by decide) (by omega) (fun c_28 => ?_) (fun c_28 => ?_)
    · skip
      refine lv_aload_n hx hb dX10_rule_89 rfl (lv_at hl 0 rfl) ?_
      refine lv_aload_n hx hb dX10_rule_90 rfl (lv_at hl 0 rfl) ?_
      refine g_get (C := RX10) (T := TX10) (N := 44) (ci := 9) (v := .int (iI ((L_X10_rule_20 103 ((f_X10_readItems (up2 (up2 (up2 σ 28 0 0) 28 21 0) 28 16 0)).1) (f_X10_readItems (up2 (up2 (up2 σ 28 0 0) 28 21 0) 28 16 0)).2) 28 15))) hx hb hts in_X10_rule_X10 hown hK hI 28 (by decide) (cel_28 cy ad _) rfl 15 (by decide) (by decide +kernel) (by show some (Value.int (iI ((up2 (up2 (L_X10_rule_20 103 ((f_X10_readItems (up2 (up2 (up2 σ 28 0 0) 28 21 0) 28 16 0)).1) (f_X10_readItems (up2 (up2 (up2 σ 28 0 0) 28 21 0) 28 16 0)).2) 28 9 0) 28 20 (-1)) 28 15))) = _; rw [up2_slot _ _ (by decide), up2_slot _ _ (by decide)]) dX10_rule_91 ?_
      have b_29 := bd_28_15 hF_16
      refine g_put (C := RX10) (T := TX10) (N := 44) (ci := 9) (ty := .int) (z := (L_X10_rule_20 103 ((f_X10_readItems (up2 (up2 (up2 σ 28 0 0) 28 21 0) 28 16 0)).1) (f_X10_readItems (up2 (up2 (up2 σ 28 0 0) 28 21 0) 28 16 0)).2) 28 15) hx hb hts in_X10_rule_X10 tyX10 tyX10_ok nmX10 hown hK hI 28 (by decide) (cel_28 cy ad) rfl 10 (by decide) (by decide +kernel) rfl (by decide +kernel) rfl rfl (Nat.le_of_ble_eq_true rfl) rfl (bw_28_10 (by omega)) dX10_rule_94 (fun H locs hI => ?_)
      have hF_30 := hI.2.2.2
      refine lv_aload_n hx hb dX10_rule_97 rfl (lv_at hl 0 rfl) ?_
      refine lv_aload_n hx hb dX10_rule_98 rfl (lv_at hl 0 rfl) ?_
      refine g_get (C := RX10) (T := TX10) (N := 44) (ci := 9) (v := .int (iI ((L_X10_rule_20 103 ((f_X10_readItems (up2 (up2 (up2 σ 28 0 0) 28 21 0) 28 16 0)).1) (f_X10_readItems (up2 (up2 (up2 σ 28 0 0) 28 21 0) 28 16 0)).2) 28 16))) hx hb hts in_X10_rule_X10 hown hK hI 28 (by decide) (cel_28 cy ad _) rfl 16 (by decide) (by decide +kernel) (by show some (Value.int (iI ((up2 (up2 (up2 (L_X10_rule_20 103 ((f_X10_readItems (up2 (up2 (up2 σ 28 0 0) 28 21 0) 28 16 0)).1) (f_X10_readItems (up2 (up2 (up2 σ 28 0 0) 28 21 0) 28 16 0)).2) 28 9 0) 28 20 (-1)) 28 10 ((L_X10_rule_20 103 ((f_X10_readItems (up2 (up2 (up2 σ 28 0 0) 28 21 0) 28 16 0)).1) (f_X10_readItems (up2 (up2 (up2 σ 28 0 0) 28 21 0) 28 16 0)).2) 28 15)) 28 16))) = _; rw [up2_slot _ _ (by decide), up2_slot _ _ (by decide), up2_slot _ _ (by decide)]) dX10_rule_99 ?_
      have b_31 := bd_28_16 hF_16
      refine g_put (C := RX10) (T := TX10) (N := 44) (ci := 9) (ty := .int) (z := (L_X10_rule_20 103 ((f_X10_readItems (up2 (up2 (up2 σ 28 0 0) 28 21 0) 28 16 0)).1) (f_X10_readItems (up2 (up2 (up2 σ 28 0 0) 28 21 0) 28 16 0)).2) 28 16) hx hb hts in_X10_rule_X10 tyX10 tyX10_ok nmX10 hown hK hI 28 (by decide) (cel_28 cy ad) rfl 11 (by decide) (by decide +kernel) rfl (by decide +kernel) rfl rfl (Nat.le_of_ble_eq_true rfl) rfl (bw_28_11 (by omega)) dX10_rule_102 (fun H locs hI => ?_)
      have hF_32 := hI.2.2.2
      refine lv_iconst (v := iI 0) hx hb dX10_rule_105 rfl ?_
      refine lv_istore_n (lv' := [(2, .int (iI 0)), (0, .ref (ad 28))]) hx hb dX10_rule_106 rfl hl (by decide) rfl (fun ls hl => ?_)
      refine w_L_X10_rule_107 X    13 0 (up2 (up2 (up2 (up2 (L_X10_rule_20 103 ((f_X10_readItems (up2 (up2 (up2 σ 28 0 0) 28 21 0) 28 16 0)).1) (f_X10_readItems (up2 (up2 (up2 σ 28 0 0) 28 21 0) 28 16 0)).2) 28 9 0) 28 20 (-1)) 28 10 ((L_X10_rule_20 103 ((f_X10_readItems (up2 (up2 (up2 σ 28 0 0) 28 21 0) 28 16 0)).1) (f_X10_readItems (up2 (up2 (up2 σ 28 0 0) 28 21 0) 28 16 0)).2) 28 15)) 28 11 ((L_X10_rule_20 103 ((f_X10_readItems (up2 (up2 (up2 σ 28 0 0) 28 21 0) 28 16 0)).1) (f_X10_readItems (up2 (up2 (up2 σ 28 0 0) 28 21 0) 28 16 0)).2) 28 16)) (by omega) (by omega) _ _ _ hI (lv_sub hl [1, 0] rfl) (fun H locs ls hpo_41 hI hl => ?_)
      have hF_40 := hI.2.2.2
      refine lv_aload_n hx hb dX10_rule_155 rfl (lv_at hl 0 rfl) ?_
      refine g_get (C := RX10) (T := TX10) (N := 44) (ci := 9) (v := .int (iI ((L_X10_rule_107 13 0 (up2 (up2 (up2 (up2 (L_X10_rule_20 103 ((f_X10_readItems (up2 (up2 (up2 σ 28 0 0) 28 21 0) 28 16 0)).1) (f_X10_readItems (up2 (up2 (up2 σ 28 0 0) 28 21 0) 28 16 0)).2) 28 9 0) 28 20 (-1)) 28 10 ((L_X10_rule_20 103 ((f_X10_readItems (up2 (up2 (up2 σ 28 0 0) 28 21 0) 28 16 0)).1) (f_X10_readItems (up2 (up2 (up2 σ 28 0 0) 28 21 0) 28 16 0)).2) 28 15)) 28 11 ((L_X10_rule_20 103 ((f_X10_readItems (up2 (up2 (up2 σ 28 0 0) 28 21 0) 28 16 0)).1) (f_X10_readItems (up2 (up2 (up2 σ 28 0 0) 28 21 0) 28 16 0)).2) 28 16))) 28 10))) hx hb hts in_X10_rule_X10 hown hK hI 28 (by decide) (cel_28 cy ad _) rfl 10 (by decide) (by decide +kernel) rfl dX10_rule_156 ?_
      have b_42 := bd_28_10 hF_40
      have e9 : f_X10_rule σ = ((L_X10_rule_107 13 0 (up2 (up2 (up2 (up2 (L_X10_rule_20 103 ((f_X10_readItems (up2 (up2 (up2 σ 28 0 0) 28 21 0) 28 16 0)).1) (f_X10_readItems (up2 (up2 (up2 σ 28 0 0) 28 21 0) 28 16 0)).2) 28 9 0) 28 20 (-1)) 28 10 ((L_X10_rule_20 103 ((f_X10_readItems (up2 (up2 (up2 σ 28 0 0) 28 21 0) 28 16 0)).1) (f_X10_readItems (up2 (up2 (up2 σ 28 0 0) 28 21 0) 28 16 0)).2) 28 15)) 28 11 ((L_X10_rule_20 103 ((f_X10_readItems (up2 (up2 (up2 σ 28 0 0) 28 21 0) 28 16 0)).1) (f_X10_readItems (up2 (up2 (up2 σ 28 0 0) 28 21 0) 28 16 0)).2) 28 16))) 28 10, (L_X10_rule_107 13 0 (up2 (up2 (up2 (up2 (L_X10_rule_20 103 ((f_X10_readItems (up2 (up2 (up2 σ 28 0 0) 28 21 0) 28 16 0)).1) (f_X10_readItems (up2 (up2 (up2 σ 28 0 0) 28 21 0) 28 16 0)).2) 28 9 0) 28 20 (-1)) 28 10 ((L_X10_rule_20 103 ((f_X10_readItems (up2 (up2 (up2 σ 28 0 0) 28 21 0) 28 16 0)).1) (f_X10_readItems (up2 (up2 (up2 σ 28 0 0) 28 21 0) 28 16 0)).2) 28 15)) 28 11 ((L_X10_rule_20 103 ((f_X10_readItems (up2 (up2 (up2 σ 28 0 0) 28 21 0) 28 16 0)).1) (f_X10_readItems (up2 (up2 (up2 σ 28 0 0) 28 21 0) 28 16 0)).2) 28 16)))) := by rw [f_X10_rule, if_pos c_20]
      exact g_iret (z := (L_X10_rule_107 13 0 (up2 (up2 (up2 (up2 (L_X10_rule_20 103 ((f_X10_readItems (up2 (up2 (up2 σ 28 0 0) 28 21 0) 28 16 0)).1) (f_X10_readItems (up2 (up2 (up2 σ 28 0 0) 28 21 0) 28 16 0)).2) 28 9 0) 28 20 (-1)) 28 10 ((L_X10_rule_20 103 ((f_X10_readItems (up2 (up2 (up2 σ 28 0 0) 28 21 0) 28 16 0)).1) (f_X10_readItems (up2 (up2 (up2 σ 28 0 0) 28 21 0) 28 16 0)).2) 28 15)) 28 11 ((L_X10_rule_20 103 ((f_X10_readItems (up2 (up2 (up2 σ 28 0 0) 28 21 0) 28 16 0)).1) (f_X10_readItems (up2 (up2 (up2 σ 28 0 0) 28 21 0) 28 16 0)).2) 28 16))) 28 10) hx hb hr hK hN hlocks hI (by rw [e9]) (by rw [e9]) trivial dX10_rule_159
    · exact absurd c_20 c_28
theorem in_X10_place_X10 : ∀ w ∈ u_ws RX10 TX10 44, w ∈ wsX10_place := by decide +kernel
def f_X10_place (σ : Sg) : Int × Sg := (σ 28 20, (up2 σ 28 0 0))
theorem hd_X10_place : yX10_place.cls = RX10 ∧ yX10_place.cls ≠ "java/lang/invoke/MethodHandle" ∧ yX10_place.cls ≠ "java/lang/invoke/VarHandle" ∧ (parseMethodDescriptor yX10_place.desc).map (fun d => d.parameters.length) = some 0 := by decide +kernel
set_option maxHeartbeats 4000000 in
set_option maxRecDepth 100000 in
theorem c_X10_place (l : Launch) (D : va_G) (cy : Nat → ClassId) (ad : Nat → Nat) (σ : Sg) : CM l D cy ad yX10_place wsX10_place { frames := 0, cells := 0, slots := 0, locals := 0 } [.ref (ad 28)] σ (some (.int (iI ((f_X10_place σ).1)))) ((f_X10_place σ).2) (True) := by
  refine CM.of (cc := cX10_place) (maxL := 1) (ret := (some .int)) (by decide) rfl (Nat.le_of_ble_eq_true rfl) ?_
  intro p e s m args below meth c₀ ls X hI hl
  have hl : lv_has ls 1 [(0, .ref (ad 28))] := hl
  obtain ⟨hx, hb, hr, hml, hown, hts, hlocks, hK, hN⟩ := id X
  have hF := hI.2.2.2
  refine lv_aload_n hx hb dX10_place_0 rfl (lv_at hl 0 rfl) ?_
  refine lv_iconst (v := iI 0) hx hb dX10_place_1 rfl ?_
  refine g_put (C := RX10) (T := TX10) (N := 44) (ci := 9) (ty := .int) (z := 0) hx hb hts in_X10_place_X10 tyX10 tyX10_ok nmX10 hown hK hI 28 (by decide) (cel_28 cy ad) rfl 0 (by decide) (by decide +kernel) rfl (by decide +kernel) rfl rfl (Nat.le_of_ble_eq_true rfl) rfl (bw_28_0 (by omega)) dX10_place_2 (fun H locs hI => ?_)
  have hF_1 := hI.2.2.2
  refine lv_aload_n hx hb dX10_place_5 rfl (lv_at hl 0 rfl) ?_
  refine g_get (C := RX10) (T := TX10) (N := 44) (ci := 9) (v := .int (iI (σ 28 20))) hx hb hts in_X10_place_X10 hown hK hI 28 (by decide) (cel_28 cy ad _) rfl 20 (by decide) (by decide +kernel) (by show some (Value.int (iI ((up2 σ 28 0 0) 28 20))) = _; rw [up2_slot _ _ (by decide)]) dX10_place_6 ?_
  have b_2 := bd_28_20 hF
  have e9 : f_X10_place σ = (σ 28 20, (up2 σ 28 0 0)) := by rw [f_X10_place]
  exact g_iret (z := σ 28 20) hx hb hr hK hN hlocks hI (by rw [e9]) (by rw [e9]) trivial dX10_place_9
