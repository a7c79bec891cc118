theorem in_X9_planned_X2 : ∀ w ∈ u_ws RX2 TX2 3, w ∈ wsX9_planned := by decide +kernel
theorem in_X9_planned_X4 : ∀ w ∈ u_ws RX4 TX4 12, w ∈ wsX9_planned := by decide +kernel
theorem in_X9_planned_X9 : ∀ w ∈ u_ws RX9 TX9 11, w ∈ wsX9_planned := by decide +kernel
def f_X9_planned (σ : Sg) (a0 : Int) (a1 : Int) : Int := (if (f_X3_hasPlanned σ a0) = 0 then (-1) else (if a1 = 0 then σ (f_X3_get σ a0) 3 else (if a1 = 1 then σ (f_X3_get σ a0) 7 else (if a1 = 2 then σ (f_X3_get σ a0) 8 else (if a1 = 3 then σ (201 + 6 * (f_X3_get σ a0 - 439)) 1 else (if a1 = 4 then σ (f_X3_get σ a0) 5 else (if a1 = 5 then (if (σ (f_X3_get σ a0) 6) = 0 then 0 else 1) else (if a1 = 6 then σ (f_X3_get σ a0) 4 else (-1)))))))))
theorem hd_X9_planned : yX9_planned.cls = RX9 ∧ yX9_planned.cls ≠ "java/lang/invoke/MethodHandle" ∧ yX9_planned.cls ≠ "java/lang/invoke/VarHandle" ∧ (parseMethodDescriptor yX9_planned.desc).map (fun d => d.parameters.length) = some 2 := by decide +kernel
set_option maxHeartbeats 4000000 in
set_option maxRecDepth 100000 in
theorem c_X9_planned (l : Launch) (D : va_G) (cy : Nat → ClassId) (ad : Nat → Nat) (σ : Sg) (a0 : Int) (ha0 : (-2147483648 ≤ a0 ∧ a0 < 2147483648)) (a1 : Int) (ha1 : (-2147483648 ≤ a1 ∧ a1 < 2147483648)) : CM l D cy ad yX9_planned wsX9_planned { frames := 1, cells := 0, slots := 0, locals := 40 } [.ref (ad 0), .int (iI a0), .int (iI a1)] σ (some (.int (iI (f_X9_planned σ a0 a1)))) σ (True) := by
  refine CM.of (cc := cX9_planned) (maxL := 4) (ret := (some .int)) (by decide) rfl (Nat.le_of_ble_eq_true rfl) ?_
  intro p e s m args below meth c₀ ls X hI hl
  have hl : lv_has ls 4 [(0, .ref (ad 0)), (1, .int (iI a0)), (2, .int (iI a1))] := hl
  obtain ⟨hx, hb, hr, hml, hown, hts, hlocks, hK, hN⟩ := id X
  have hF := hI.2.2.2
  refine lv_aload_n hx hb dX9_planned_0 rfl (lv_at hl 0 rfl) ?_
  refine g_get (C := RX9) (T := TX9) (N := 11) (ci := 8) (v := .ref (ad 13)) hx hb hts in_X9_planned_X9 hown hK hI 0 (by decide) (cel_0 cy ad _) rfl 5 (by decide) (by decide +kernel) rfl dX9_planned_1 ?_
  refine lv_iload_n hx hb dX9_planned_4 rfl (lv_at hl 1 rfl) ?_
  refine g_V (As := [.int (iI a0)]) (rest := []) 13 (c_X3_hasPlanned l D cy ad σ a0 (by omega)) hx hb hml hown hts hK hN hI hl.1 gX9_planned_X3_hasPlanned rfl hd_X3_hasPlanned rfl rfl ⟨Nat.le_of_ble_eq_true rfl, Nat.le_of_ble_eq_true rfl⟩ ⟨Nat.zero_le _, Nat.zero_le _⟩ (by decide) (cel_13 cy ad _) rfl rfl rfl rfl (Nat.le_of_ble_eq_true rfl) dX9_planned_5 (fun H locs hG_1 hI => ?_)
  refine g_if_ne (tgt := 13) hx hb dX9_planned_8 (by decide) (by omega) (fun c_2 => ?_) (fun c_2 => ?_)
  · skip
    refine lv_aload_n hx hb dX9_planned_13 rfl (lv_at hl 0 rfl) ?_
    refine g_get (C := RX9) (T := TX9) (N := 11) (ci := 8) (v := .ref (ad 13)) hx hb hts in_X9_planned_X9 hown hK hI 0 (by decide) (cel_0 cy ad _) rfl 5 (by decide) (by decide +kernel) rfl dX9_planned_14 ?_
    refine lv_iload_n hx hb dX9_planned_17 rfl (lv_at hl 1 rfl) ?_
    refine g_V (As := [.int (iI a0)]) (rest := []) 13 (c_X3_get l D cy ad σ a0 (by omega)) hx hb hml hown hts hK hN hI hl.1 gX9_planned_X3_get rfl hd_X3_get rfl rfl ⟨Nat.le_of_ble_eq_true rfl, Nat.le_of_ble_eq_true rfl⟩ ⟨Nat.zero_le _, Nat.zero_le _⟩ (by decide) (cel_13 cy ad _) rfl rfl rfl rfl (Nat.le_of_ble_eq_true rfl) dX9_planned_18 (fun H locs hG_3 hI => ?_)
    refine lv_astore_n (lv' := [(3, .ref (ad (f_X3_get σ a0))), (0, .ref (ad 0)), (1, .int (iI a0)), (2, .int (iI a1))]) hx hb dX9_planned_21 rfl hl (by decide) rfl (fun ls hl => ?_)
    refine lv_iload_n hx hb dX9_planned_22 rfl (lv_at hl 3 rfl) ?_
    by_cases c_4 : a1 = 0
    · refine g_tsw (tgt := 64) (off := 41) hx hb dX9_planned_23 (by omega) (by omega) (by rw [c_4]; rfl) (by decide) ?_
      refine lv_aload_n hx hb dX9_planned_64 rfl (lv_at hl 0 rfl) ?_
      refine g_getN (C := RX4) (T := TX4) (N := 12) (ci := 4) (v := .int (iI (σ (f_X3_get σ a0) 3))) hx hb hts in_X9_planned_X4 hown hK hN hI (f_X3_get σ a0) (by have q := hG_3; omega) (cel_Pd cy ad hG_3 _) rfl 3 (by decide) (by decide +kernel) rfl dX9_planned_65 ?_
      have b_5 := bd_Pd_3 hF hG_3
      have e9 : f_X9_planned σ a0 a1 = σ (f_X3_get σ a0) 3 := by rw [f_X9_planned, if_neg c_2, if_pos c_4]
      exact g_iret (z := σ (f_X3_get σ a0) 3) hx hb hr hK hN hlocks hI e9.symm rfl trivial dX9_planned_68
    · skip
      by_cases c_6 : a1 = 1
      · refine g_tsw (tgt := 69) (off := 46) hx hb dX9_planned_23 (by omega) (by omega) (by rw [c_6]; rfl) (by decide) ?_
        refine lv_aload_n hx hb dX9_planned_69 rfl (lv_at hl 0 rfl) ?_
        refine g_getN (C := RX4) (T := TX4) (N := 12) (ci := 4) (v := .int (iI (σ (f_X3_get σ a0) 7))) hx hb hts in_X9_planned_X4 hown hK hN hI (f_X3_get σ a0) (by have q := hG_3; omega) (cel_Pd cy ad hG_3 _) rfl 7 (by decide) (by decide +kernel) rfl dX9_planned_70 ?_
        have b_7 := bd_Pd_7 hF hG_3
        have e9 : f_X9_planned σ a0 a1 = σ (f_X3_get σ a0) 7 := by rw [f_X9_planned, if_neg c_2, if_neg c_4, if_pos c_6]
        exact g_iret (z := σ (f_X3_get σ a0) 7) hx hb hr hK hN hlocks hI e9.symm rfl trivial dX9_planned_73
      · skip
        by_cases c_8 : a1 = 2
        · refine g_tsw (tgt := 74) (off := 51) hx hb dX9_planned_23 (by omega) (by omega) (by rw [c_8]; rfl) (by decide) ?_
          refine lv_aload_n hx hb dX9_planned_74 rfl (lv_at hl 0 rfl) ?_
          refine g_getN (C := RX4) (T := TX4) (N := 12) (ci := 4) (v := .int (iI (σ (f_X3_get σ a0) 8))) hx hb hts in_X9_planned_X4 hown hK hN hI (f_X3_get σ a0) (by have q := hG_3; omega) (cel_Pd cy ad hG_3 _) rfl 8 (by decide) (by decide +kernel) rfl dX9_planned_75 ?_
          have b_9 := bd_Pd_8 hF hG_3
          have e9 : f_X9_planned σ a0 a1 = σ (f_X3_get σ a0) 8 := by rw [f_X9_planned, if_neg c_2, if_neg c_4, if_neg c_6, if_pos c_8]
          exact g_iret (z := σ (f_X3_get σ a0) 8) hx hb hr hK hN hlocks hI e9.symm rfl trivial dX9_planned_78
        · skip
          by_cases c_10 : a1 = 3
          · refine g_tsw (tgt := 79) (off := 56) hx hb dX9_planned_23 (by omega) (by omega) (by rw [c_10]; rfl) (by decide) ?_
            refine lv_aload_n hx hb dX9_planned_79 rfl (lv_at hl 0 rfl) ?_
            refine g_getN (C := RX4) (T := TX4) (N := 12) (ci := 4) (v := .ref (ad (201 + 6 * (f_X3_get σ a0 - 439)))) hx hb hts in_X9_planned_X4 hown hK hN hI (f_X3_get σ a0) (by have q := hG_3; omega) (cel_Pd cy ad hG_3 _) rfl 1 (by decide) (by decide +kernel) rfl dX9_planned_80 ?_
            refine g_getN (C := RX2) (T := TX2) (N := 3) (ci := 2) (v := .int (iI (σ (201 + 6 * (f_X3_get σ a0 - 439)) 1))) hx hb hts in_X9_planned_X2 hown hK hN hI (201 + 6 * (f_X3_get σ a0 - 439)) (by have q := (by have q := hG_3; omega : isPl (201 + 6 * (f_X3_get σ a0 - 439))); omega) (cel_Pl cy ad (by have q := hG_3; omega : isPl (201 + 6 * (f_X3_get σ a0 - 439))) _) rfl 1 (by decide) (by decide +kernel) rfl dX9_planned_83 ?_
            have b_11 := bd_Pl_1 hF (by have q := hG_3; omega : isPl (201 + 6 * (f_X3_get σ a0 - 439)))
            have e9 : f_X9_planned σ a0 a1 = σ (201 + 6 * (f_X3_get σ a0 - 439)) 1 := by rw [f_X9_planned, if_neg c_2, if_neg c_4, if_neg c_6, if_neg c_8, if_pos c_10]
            exact g_iret (z := σ (201 + 6 * (f_X3_get σ a0 - 439)) 1) hx hb hr hK hN hlocks hI e9.symm rfl trivial dX9_planned_86
          · skip
            by_cases c_12 : a1 = 4
            · refine g_tsw (tgt := 87) (off := 64) hx hb dX9_planned_23 (by omega) (by omega) (by rw [c_12]; rfl) (by decide) ?_
              refine lv_aload_n hx hb dX9_planned_87 rfl (lv_at hl 0 rfl) ?_
              refine g_getN (C := RX4) (T := TX4) (N := 12) (ci := 4) (v := .int (iI (σ (f_X3_get σ a0) 5))) hx hb hts in_X9_planned_X4 hown hK hN hI (f_X3_get σ a0) (by have q := hG_3; omega) (cel_Pd cy ad hG_3 _) rfl 5 (by decide) (by decide +kernel) rfl dX9_planned_88 ?_
              have b_13 := bd_Pd_5 hF hG_3
              have e9 : f_X9_planned σ a0 a1 = σ (f_X3_get σ a0) 5 := by rw [f_X9_planned, if_neg c_2, if_neg c_4, if_neg c_6, if_neg c_8, if_neg c_10, if_pos c_12]
              exact g_iret (z := σ (f_X3_get σ a0) 5) hx hb hr hK hN hlocks hI e9.symm rfl trivial dX9_planned_91
            · skip
              by_cases c_14 : a1 = 5
              · refine g_tsw (tgt := 92) (off := 69) hx hb dX9_planned_23 (by omega) (by omega) (by rw [c_14]; rfl) (by decide) ?_
                refine lv_aload_n hx hb dX9_planned_92 rfl (lv_at hl 0 rfl) ?_
                refine g_getN (C := RX4) (T := TX4) (N := 12) (ci := 4) (v := .int (iI (σ (f_X3_get σ a0) 6))) hx hb hts in_X9_planned_X4 hown hK hN hI (f_X3_get σ a0) (by have q := hG_3; omega) (cel_Pd cy ad hG_3 _) rfl 6 (by decide) (by decide +kernel) rfl dX9_planned_93 ?_
                have b_15 := bd_Pd_6 hF hG_3
                refine g_if_eq (tgt := 103) hx hb dX9_planned_96 (by decide) (by omega) (fun c_16 => ?_) (fun c_16 => ?_)
                · skip
                  refine lv_iconst (v := iI 0) hx hb dX9_planned_103 rfl ?_
                  have e9 : f_X9_planned σ a0 a1 = 0 := by rw [f_X9_planned, if_neg c_2, if_neg c_4, if_neg c_6, if_neg c_8, if_neg c_10, if_neg c_12, if_pos c_14, if_pos c_16]
                  exact g_iret (z := 0) hx hb hr hK hN hlocks hI e9.symm rfl trivial dX9_planned_104
                · skip
                  refine lv_iconst (v := iI 1) hx hb dX9_planned_99 rfl ?_
                  refine lv_goto (tgt := 104) hx hb dX9_planned_100 (by decide) ?_
                  have e9 : f_X9_planned σ a0 a1 = 1 := by rw [f_X9_planned, if_neg c_2, if_neg c_4, if_neg c_6, if_neg c_8, if_neg c_10, if_neg c_12, if_pos c_14, if_neg c_16]
                  exact g_iret (z := 1) hx hb hr hK hN hlocks hI e9.symm rfl trivial dX9_planned_104
              · skip
                by_cases c_17 : a1 = 6
                · refine g_tsw (tgt := 105) (off := 82) hx hb dX9_planned_23 (by omega) (by omega) (by rw [c_17]; rfl) (by decide) ?_
                  refine lv_aload_n hx hb dX9_planned_105 rfl (lv_at hl 0 rfl) ?_
                  refine g_getN (C := RX4) (T := TX4) (N := 12) (ci := 4) (v := .int (iI (σ (f_X3_get σ a0) 4))) hx hb hts in_X9_planned_X4 hown hK hN hI (f_X3_get σ a0) (by have q := hG_3; omega) (cel_Pd cy ad hG_3 _) rfl 4 (by decide) (by decide +kernel) rfl dX9_planned_106 ?_
                  have b_18 := bd_Pd_4 hF hG_3
                  have e9 : f_X9_planned σ a0 a1 = σ (f_X3_get σ a0) 4 := by rw [f_X9_planned, if_neg c_2, if_neg c_4, if_neg c_6, if_neg c_8, if_neg c_10, if_neg c_12, if_neg c_14, if_pos c_17]
                  exact g_iret (z := σ (f_X3_get σ a0) 4) hx hb hr hK hN hlocks hI e9.symm rfl trivial dX9_planned_109
                · skip
                  refine g_tswD (tgt := 110) hx hb dX9_planned_23 (by omega) (by omega) (by decide) ?_
                  refine lv_iconst (v := iI (-1)) hx hb dX9_planned_110 rfl ?_
                  have e9 : f_X9_planned σ a0 a1 = (-1) := by rw [f_X9_planned, if_neg c_2, if_neg c_4, if_neg c_6, if_neg c_8, if_neg c_10, if_neg c_12, if_neg c_14, if_neg c_17]
                  exact g_iret (z := (-1)) hx hb hr hK hN hlocks hI e9.symm rfl trivial dX9_planned_111
  · skip
    refine lv_iconst (v := iI (-1)) hx hb dX9_planned_11 rfl ?_
    have e9 : f_X9_planned σ a0 a1 = (-1) := by rw [f_X9_planned, if_pos c_2]
    exact g_iret (z := (-1)) hx hb hr hK hN hlocks hI e9.symm rfl trivial dX9_planned_12
theorem in_X9_newName_X4 : ∀ w ∈ u_ws RX4 TX4 12, w ∈ wsX9_newName := by decide +kernel
theorem in_X9_newName_X9 : ∀ w ∈ u_ws RX9 TX9 11, w ∈ wsX9_newName := by decide +kernel
def f_X9_newName (σ : Sg) (a0 : Int) (a1 : Int) : Int := (if (f_X3_hasPlanned σ a0) = 0 then (-1) else f_X2_byteAt σ (201 + 6 * (f_X3_get σ a0 - 439)) a1)
theorem hd_X9_newName : yX9_newName.cls = RX9 ∧ yX9_newName.cls ≠ "java/lang/invoke/MethodHandle" ∧ yX9_newName.cls ≠ "java/lang/invoke/VarHandle" ∧ (parseMethodDescriptor yX9_newName.desc).map (fun d => d.parameters.length) = some 2 := by decide +kernel
set_option maxHeartbeats 4000000 in
set_option maxRecDepth 100000 in
theorem c_X9_newName (l : Launch) (D : va_G) (cy : Nat → ClassId) (ad : Nat → Nat) (σ : Sg) (a0 : Int) (ha0 : (-2147483648 ≤ a0 ∧ a0 < 2147483648)) (a1 : Int) (ha1 : (-2147483648 ≤ a1 ∧ a1 < 2147483648)) : CM l D cy ad yX9_newName wsX9_newName { frames := 1, cells := 0, slots := 0, locals := 40 } [.ref (ad 0), .int (iI a0), .int (iI a1)] σ (some (.int (iI (f_X9_newName σ a0 a1)))) σ (True) := by
  refine CM.of (cc := cX9_newName) (maxL := 3) (ret := (some .int)) (by decide) rfl (Nat.le_of_ble_eq_true rfl) ?_
  intro p e s m args below meth c₀ ls X hI hl
  have hl : lv_has ls 3 [(0, .ref (ad 0)), (1, .int (iI a0)), (2, .int (iI a1))] := hl
  obtain ⟨hx, hb, hr, hml, hown, hts, hlocks, hK, hN⟩ := id X
  have hF := hI.2.2.2
  refine lv_aload_n hx hb dX9_newName_0 rfl (lv_at hl 0 rfl) ?_
  refine g_get (C := RX9) (T := TX9) (N := 11) (ci := 8) (v := .ref (ad 13)) hx hb hts in_X9_newName_X9 hown hK hI 0 (by decide) (cel_0 cy ad _) rfl 5 (by decide) (by decide +kernel) rfl dX9_newName_1 ?_
  refine lv_iload_n hx hb dX9_newName_4 rfl (lv_at hl 1 rfl) ?_
  refine g_V (As := [.int (iI a0)]) (rest := []) 13 (c_X3_hasPlanned l D cy ad σ a0 (by omega)) hx hb hml hown hts hK hN hI hl.1 gX9_newName_X3_hasPlanned rfl hd_X3_hasPlanned rfl rfl ⟨Nat.le_of_ble_eq_true rfl, Nat.le_of_ble_eq_true rfl⟩ ⟨Nat.zero_le _, Nat.zero_le _⟩ (by decide) (cel_13 cy ad _) rfl rfl rfl rfl (Nat.le_of_ble_eq_true rfl) dX9_newName_5 (fun H locs hG_1 hI => ?_)
  refine g_if_eq (tgt := 29) hx hb dX9_newName_8 (by decide) (by omega) (fun c_2 => ?_) (fun c_2 => ?_)
  · skip
    refine lv_iconst (v := iI (-1)) hx hb dX9_newName_29 rfl ?_
    have e9 : f_X9_newName σ a0 a1 = (-1) := by rw [f_X9_newName, if_pos c_2]
    exact g_iret (z := (-1)) hx hb hr hK hN hlocks hI e9.symm rfl trivial dX9_newName_30
  · skip
    refine lv_aload_n hx hb dX9_newName_11 rfl (lv_at hl 0 rfl) ?_
    refine g_get (C := RX9) (T := TX9) (N := 11) (ci := 8) (v := .ref (ad 13)) hx hb hts in_X9_newName_X9 hown hK hI 0 (by decide) (cel_0 cy ad _) rfl 5 (by decide) (by decide +kernel) rfl dX9_newName_12 ?_
    refine lv_iload_n hx hb dX9_newName_15 rfl (lv_at hl 1 rfl) ?_
    refine g_V (As := [.int (iI a0)]) (rest := []) 13 (c_X3_get l D cy ad σ a0 (by omega)) hx hb hml hown hts hK hN hI hl.1 gX9_newName_X3_get rfl hd_X3_get rfl rfl ⟨Nat.le_of_ble_eq_true rfl, Nat.le_of_ble_eq_true rfl⟩ ⟨Nat.zero_le _, Nat.zero_le _⟩ (by decide) (cel_13 cy ad _) rfl rfl rfl rfl (Nat.le_of_ble_eq_true rfl) dX9_newName_16 (fun H locs hG_3 hI => ?_)
    refine g_getN (C := RX4) (T := TX4) (N := 12) (ci := 4) (v := .ref (ad (201 + 6 * (f_X3_get σ a0 - 439)))) hx hb hts in_X9_newName_X4 hown hK hN hI (f_X3_get σ a0) (by have q := hG_3; omega) (cel_Pd cy ad hG_3 _) rfl 1 (by decide) (by decide +kernel) rfl dX9_newName_19 ?_
    refine lv_iload_n hx hb dX9_newName_22 rfl (lv_at hl 2 rfl) ?_
    refine g_V (As := [.int (iI a1)]) (rest := []) (201 + 6 * (f_X3_get σ a0 - 439)) (c_X2_byteAt l D cy ad σ (201 + 6 * (f_X3_get σ a0 - 439)) (by have q := hG_3; omega : isPl (201 + 6 * (f_X3_get σ a0 - 439))) a1 (by omega)) hx hb hml hown hts hK hN hI hl.1 gX9_newName_X2_byteAt rfl hd_X2_byteAt rfl rfl ⟨Nat.le_of_ble_eq_true rfl, Nat.le_of_ble_eq_true rfl⟩ ⟨Nat.zero_le _, Nat.zero_le _⟩ (by have q := (by have q := hG_3; omega : isPl (201 + 6 * (f_X3_get σ a0 - 439))); omega) (cel_Pl cy ad (by have q := hG_3; omega : isPl (201 + 6 * (f_X3_get σ a0 - 439))) _) rfl rfl rfl rfl (Nat.le_of_ble_eq_true rfl) dX9_newName_23 (fun H locs hG_4 hI => ?_)
    refine lv_goto (tgt := 30) hx hb dX9_newName_26 (by decide) ?_
    have e9 : f_X9_newName σ a0 a1 = f_X2_byteAt σ (201 + 6 * (f_X3_get σ a0 - 439)) a1 := by rw [f_X9_newName, if_neg c_2]
    exact g_iret (z := f_X2_byteAt σ (201 + 6 * (f_X3_get σ a0 - 439)) a1) hx hb hr hK hN hlocks hI e9.symm rfl trivial dX9_newName_30
theorem in_X9_steps_X9 : ∀ w ∈ u_ws RX9 TX9 11, w ∈ wsX9_steps := by decide +kernel
def f_X9_steps (σ : Sg) : Int := (if (f_X3_isMade σ) = 0 then (-1) else (if (f_X3_troubles σ) ≤ 0 then f_X3_stepCount σ else (-2)))
theorem hd_X9_steps : yX9_steps.cls = RX9 ∧ yX9_steps.cls ≠ "java/lang/invoke/MethodHandle" ∧ yX9_steps.cls ≠ "java/lang/invoke/VarHandle" ∧ (parseMethodDescriptor yX9_steps.desc).map (fun d => d.parameters.length) = some 0 := by decide +kernel
set_option maxHeartbeats 4000000 in
set_option maxRecDepth 100000 in
theorem c_X9_steps (l : Launch) (D : va_G) (cy : Nat → ClassId) (ad : Nat → Nat) (σ : Sg) : CM l D cy ad yX9_steps wsX9_steps { frames := 1, cells := 0, slots := 0, locals := 40 } [.ref (ad 0)] σ (some (.int (iI (f_X9_steps σ)))) σ (True) := by
  refine CM.of (cc := cX9_steps) (maxL := 1) (ret := (some .int)) (by decide) rfl (Nat.le_of_ble_eq_true rfl) ?_
  intro p e s m args below meth c₀ ls X hI hl
  have hl : lv_has ls 1 [(0, .ref (ad 0))] := hl
  obtain ⟨hx, hb, hr, hml, hown, hts, hlocks, hK, hN⟩ := id X
  have hF := hI.2.2.2
  refine lv_aload_n hx hb dX9_steps_0 rfl (lv_at hl 0 rfl) ?_
  refine g_get (C := RX9) (T := TX9) (N := 11) (ci := 8) (v := .ref (ad 13)) hx hb hts in_X9_steps_X9 hown hK hI 0 (by decide) (cel_0 cy ad _) rfl 5 (by decide) (by decide +kernel) rfl dX9_steps_1 ?_
  refine g_V (As := []) (rest := []) 13 (c_X3_isMade l D cy ad σ ) hx hb hml hown hts hK hN hI hl.1 gX9_steps_X3_isMade rfl hd_X3_isMade rfl rfl ⟨Nat.le_of_ble_eq_true rfl, Nat.le_of_ble_eq_true rfl⟩ ⟨Nat.zero_le _, Nat.zero_le _⟩ (by decide) (cel_13 cy ad _) rfl rfl rfl rfl (Nat.le_of_ble_eq_true rfl) dX9_steps_4 (fun H locs hG_1 hI => ?_)
  refine g_if_ne (tgt := 12) hx hb dX9_steps_7 (by decide) (by omega) (fun c_2 => ?_) (fun c_2 => ?_)
  · skip
    refine lv_aload_n hx hb dX9_steps_12 rfl (lv_at hl 0 rfl) ?_
    refine g_get (C := RX9) (T := TX9) (N := 11) (ci := 8) (v := .ref (ad 13)) hx hb hts in_X9_steps_X9 hown hK hI 0 (by decide) (cel_0 cy ad _) rfl 5 (by decide) (by decide +kernel) rfl dX9_steps_13 ?_
    refine g_V (As := []) (rest := []) 13 (c_X3_troubles l D cy ad σ ) hx hb hml hown hts hK hN hI hl.1 gX9_steps_X3_troubles rfl hd_X3_troubles rfl rfl ⟨Nat.le_of_ble_eq_true rfl, Nat.le_of_ble_eq_true rfl⟩ ⟨Nat.zero_le _, Nat.zero_le _⟩ (by decide) (cel_13 cy ad _) rfl rfl rfl rfl (Nat.le_of_ble_eq_true rfl) dX9_steps_16 (fun H locs hG_3 hI => ?_)
    refine g_if_le (tgt := 27) hx hb dX9_steps_19 (by decide) (by omega) (fun c_4 => ?_) (fun c_4 => ?_)
    · skip
      refine lv_aload_n hx hb dX9_steps_27 rfl (lv_at hl 0 rfl) ?_
      refine g_get (C := RX9) (T := TX9) (N := 11) (ci := 8) (v := .ref (ad 13)) hx hb hts in_X9_steps_X9 hown hK hI 0 (by decide) (cel_0 cy ad _) rfl 5 (by decide) (by decide +kernel) rfl dX9_steps_28 ?_
      refine g_V (As := []) (rest := []) 13 (c_X3_stepCount l D cy ad σ ) hx hb hml hown hts hK hN hI hl.1 gX9_steps_X3_stepCount rfl hd_X3_stepCount rfl rfl ⟨Nat.le_of_ble_eq_true rfl, Nat.le_of_ble_eq_true rfl⟩ ⟨Nat.zero_le _, Nat.zero_le _⟩ (by decide) (cel_13 cy ad _) rfl rfl rfl rfl (Nat.le_of_ble_eq_true rfl) dX9_steps_31 (fun H locs hG_5 hI => ?_)
      have e9 : f_X9_steps σ = f_X3_stepCount σ := by rw [f_X9_steps, if_neg c_2, if_pos c_4]
      exact g_iret (z := f_X3_stepCount σ) hx hb hr hK hN hlocks hI e9.symm rfl trivial dX9_steps_34
    · skip
      refine lv_bipush (v := iI (-2)) hx hb dX9_steps_22 (iI_bip (by decide)) ?_
      refine lv_goto (tgt := 34) hx hb dX9_steps_24 (by decide) ?_
      have e9 : f_X9_steps σ = (-2) := by rw [f_X9_steps, if_neg c_2, if_neg c_4]
      exact g_iret (z := (-2)) hx hb hr hK hN hlocks hI e9.symm rfl trivial dX9_steps_34
  · skip
    refine lv_iconst (v := iI (-1)) hx hb dX9_steps_10 rfl ?_
    have e9 : f_X9_steps σ = (-1) := by rw [f_X9_steps, if_pos c_2]
    exact g_iret (z := (-1)) hx hb hr hK hN hlocks hI e9.symm rfl trivial dX9_steps_11
theorem in_X9_step_X9 : ∀ w ∈ u_ws RX9 TX9 11, w ∈ wsX9_step := by decide +kernel
def f_X9_step (σ : Sg) (a0 : Int) (a1 : Int) : Int := (if (f_X3_hasStep σ a0) = 0 then (-1) else (if a1 = 0 then f_X3_fileOfStep σ a0 else (if a1 = 1 then (if (f_X3_goesToSpare σ a0) = 0 then 0 else 1) else (if a1 = 2 then (if (f_X3_comesFromSpare σ a0) = 0 then 0 else 1) else (-1)))))
theorem hd_X9_step : yX9_step.cls = RX9 ∧ yX9_step.cls ≠ "java/lang/invoke/MethodHandle" ∧ yX9_step.cls ≠ "java/lang/invoke/VarHandle" ∧ (parseMethodDescriptor yX9_step.desc).map (fun d => d.parameters.length) = some 2 := by decide +kernel
set_option maxHeartbeats 4000000 in
set_option maxRecDepth 100000 in
theorem c_X9_step (l : Launch) (D : va_G) (cy : Nat → ClassId) (ad : Nat → Nat) (σ : Sg) (a0 : Int) (ha0 : (-2147483648 ≤ a0 ∧ a0 < 2147483648)) (a1 : Int) (ha1 : (-2147483648 ≤ a1 ∧ a1 < 2147483648)) : CM l D cy ad yX9_step wsX9_step { frames := 1, cells := 0, slots := 0, locals := 40 } [.ref (ad 0), .int (iI a0), .int (iI a1)] σ (some (.int (iI (f_X9_step σ a0 a1)))) σ (True) := by
  refine CM.of (cc := cX9_step) (maxL := 3) (ret := (some .int)) (by decide) rfl (Nat.le_of_ble_eq_true rfl) ?_
  intro p e s m args below meth c₀ ls X hI hl
  have hl : lv_has ls 3 [(0, .ref (ad 0)), (1, .int (iI a0)), (2, .int (iI a1))] := hl
  obtain ⟨hx, hb, hr, hml, hown, hts, hlocks, hK, hN⟩ := id X
  have hF := hI.2.2.2
  refine lv_aload_n hx hb dX9_step_0 rfl (lv_at hl 0 rfl) ?_
  refine g_get (C := RX9) (T := TX9) (N := 11) (ci := 8) (v := .ref (ad 13)) hx hb hts in_X9_step_X9 hown hK hI 0 (by decide) (cel_0 cy ad _) rfl 5 (by decide) (by decide +kernel) rfl dX9_step_1 ?_
  refine lv_iload_n hx hb dX9_step_4 rfl (lv_at hl 1 rfl) ?_
  refine g_V (As := [.int (iI a0)]) (rest := []) 13 (c_X3_hasStep l D cy ad σ a0 (by omega)) hx hb hml hown hts hK hN hI hl.1 gX9_step_X3_hasStep rfl hd_X3_hasStep rfl rfl ⟨Nat.le_of_ble_eq_true rfl, Nat.le_of_ble_eq_true rfl⟩ ⟨Nat.zero_le _, Nat.zero_le _⟩ (by decide) (cel_13 cy ad _) rfl rfl rfl rfl (Nat.le_of_ble_eq_true rfl) dX9_step_5 (fun H locs hG_1 hI => ?_)
  refine g_if_ne (tgt := 13) hx hb dX9_step_8 (by decide) (by omega) (fun c_2 => ?_) (fun c_2 => ?_)
  · skip
    refine lv_iload_n hx hb dX9_step_13 rfl (lv_at hl 2 rfl) ?_
    by_cases c_3 : a1 = 0
    · refine g_tsw (tgt := 40) (off := 26) hx hb dX9_step_14 (by omega) (by omega) (by rw [c_3]; rfl) (by decide) ?_
      refine lv_aload_n hx hb dX9_step_40 rfl (lv_at hl 0 rfl) ?_
      refine g_get (C := RX9) (T := TX9) (N := 11) (ci := 8) (v := .ref (ad 13)) hx hb hts in_X9_step_X9 hown hK hI 0 (by decide) (cel_0 cy ad _) rfl 5 (by decide) (by decide +kernel) rfl dX9_step_41 ?_
      refine lv_iload_n hx hb dX9_step_44 rfl (lv_at hl 1 rfl) ?_
      refine g_V (As := [.int (iI a0)]) (rest := []) 13 (c_X3_fileOfStep l D cy ad σ a0 (by omega)) hx hb hml hown hts hK hN hI hl.1 gX9_step_X3_fileOfStep rfl hd_X3_fileOfStep rfl rfl ⟨Nat.le_of_ble_eq_true rfl, Nat.le_of_ble_eq_true rfl⟩ ⟨Nat.zero_le _, Nat.zero_le _⟩ (by decide) (cel_13 cy ad _) rfl rfl rfl rfl (Nat.le_of_ble_eq_true rfl) dX9_step_45 (fun H locs hG_4 hI => ?_)
      have e9 : f_X9_step σ a0 a1 = f_X3_fileOfStep σ a0 := by rw [f_X9_step, if_neg c_2, if_pos c_3]
      exact g_iret (z := f_X3_fileOfStep σ a0) hx hb hr hK hN hlocks hI e9.symm rfl trivial dX9_step_48
    · skip
      by_cases c_5 : a1 = 1
      · refine g_tsw (tgt := 49) (off := 35) hx hb dX9_step_14 (by omega) (by omega) (by rw [c_5]; rfl) (by decide) ?_
        refine lv_aload_n hx hb dX9_step_49 rfl (lv_at hl 0 rfl) ?_
        refine g_get (C := RX9) (T := TX9) (N := 11) (ci := 8) (v := .ref (ad 13)) hx hb hts in_X9_step_X9 hown hK hI 0 (by decide) (cel_0 cy ad _) rfl 5 (by decide) (by decide +kernel) rfl dX9_step_50 ?_
        refine lv_iload_n hx hb dX9_step_53 rfl (lv_at hl 1 rfl) ?_
        refine g_V (As := [.int (iI a0)]) (rest := []) 13 (c_X3_goesToSpare l D cy ad σ a0 (by omega)) hx hb hml hown hts hK hN hI hl.1 gX9_step_X3_goesToSpare rfl hd_X3_goesToSpare rfl rfl ⟨Nat.le_of_ble_eq_true rfl, Nat.le_of_ble_eq_true rfl⟩ ⟨Nat.zero_le _, Nat.zero_le _⟩ (by decide) (cel_13 cy ad _) rfl rfl rfl rfl (Nat.le_of_ble_eq_true rfl) dX9_step_54 (fun H locs hG_6 hI => ?_)
        refine g_if_eq (tgt := 64) hx hb dX9_step_57 (by decide) (by omega) (fun c_7 => ?_) (fun c_7 => ?_)
        · skip
          refine lv_iconst (v := iI 0) hx hb dX9_step_64 rfl ?_
          have e9 : f_X9_step σ a0 a1 = 0 := by rw [f_X9_step, if_neg c_2, if_neg c_3, if_pos c_5, if_pos c_7]
          exact g_iret (z := 0) hx hb hr hK hN hlocks hI e9.symm rfl trivial dX9_step_65
        · skip
          refine lv_iconst (v := iI 1) hx hb dX9_step_60 rfl ?_
          refine lv_goto (tgt := 65) hx hb dX9_step_61 (by decide) ?_
          have e9 : f_X9_step σ a0 a1 = 1 := by rw [f_X9_step, if_neg c_2, if_neg c_3, if_pos c_5, if_neg c_7]
          exact g_iret (z := 1) hx hb hr hK hN hlocks hI e9.symm rfl trivial dX9_step_65
      · skip
        by_cases c_8 : a1 = 2
        · refine g_tsw (tgt := 66) (off := 52) hx hb dX9_step_14 (by omega) (by omega) (by rw [c_8]; rfl) (by decide) ?_
          refine lv_aload_n hx hb dX9_step_66 rfl (lv_at hl 0 rfl) ?_
          refine g_get (C := RX9) (T := TX9) (N := 11) (ci := 8) (v := .ref (ad 13)) hx hb hts in_X9_step_X9 hown hK hI 0 (by decide) (cel_0 cy ad _) rfl 5 (by decide) (by decide +kernel) rfl dX9_step_67 ?_
          refine lv_iload_n hx hb dX9_step_70 rfl (lv_at hl 1 rfl) ?_
          refine g_V (As := [.int (iI a0)]) (rest := []) 13 (c_X3_comesFromSpare l D cy ad σ a0 (by omega)) hx hb hml hown hts hK hN hI hl.1 gX9_step_X3_comesFromSpare rfl hd_X3_comesFromSpare rfl rfl ⟨Nat.le_of_ble_eq_true rfl, Nat.le_of_ble_eq_true rfl⟩ ⟨Nat.zero_le _, Nat.zero_le _⟩ (by decide) (cel_13 cy ad _) rfl rfl rfl rfl (Nat.le_of_ble_eq_true rfl) dX9_step_71 (fun H locs hG_9 hI => ?_)
          refine g_if_eq (tgt := 81) hx hb dX9_step_74 (by decide) (by omega) (fun c_10 => ?_) (fun c_10 => ?_)
          · skip
            refine lv_iconst (v := iI 0) hx hb dX9_step_81 rfl ?_
            have e9 : f_X9_step σ a0 a1 = 0 := by rw [f_X9_step, if_neg c_2, if_neg c_3, if_neg c_5, if_pos c_8, if_pos c_10]
            exact g_iret (z := 0) hx hb hr hK hN hlocks hI e9.symm rfl trivial dX9_step_82
          · skip
            refine lv_iconst (v := iI 1) hx hb dX9_step_77 rfl ?_
            refine lv_goto (tgt := 82) hx hb dX9_step_78 (by decide) ?_
            have e9 : f_X9_step σ a0 a1 = 1 := by rw [f_X9_step, if_neg c_2, if_neg c_3, if_neg c_5, if_pos c_8, if_neg c_10]
            exact g_iret (z := 1) hx hb hr hK hN hlocks hI e9.symm rfl trivial dX9_step_82
        · skip
          refine g_tswD (tgt := 83) hx hb dX9_step_14 (by omega) (by omega) (by decide) ?_
          refine lv_iconst (v := iI (-1)) hx hb dX9_step_83 rfl ?_
          have e9 : f_X9_step σ a0 a1 = (-1) := by rw [f_X9_step, if_neg c_2, if_neg c_3, if_neg c_5, if_neg c_8]
          exact g_iret (z := (-1)) hx hb hr hK hN hlocks hI e9.symm rfl trivial dX9_step_84
  · skip
    refine lv_iconst (v := iI (-1)) hx hb dX9_step_11 rfl ?_
    have e9 : f_X9_step σ a0 a1 = (-1) := by rw [f_X9_step, if_pos c_2]
    exact g_iret (z := (-1)) hx hb hr hK hN hlocks hI e9.symm rfl trivial dX9_step_12
theorem in_X9_go_X9 : ∀ w ∈ u_ws RX9 TX9 11, w ∈ wsX9_go := by decide +kernel
def L_X9_go_43 (a0 : Int) : Nat → Int → Int → Sg → Int × Sg
  | 0, x2, x3, σ => (0, σ)
  | n + 1, x2, x3, σ => (if x2 ≤ x3 then (x2, σ) else (if ((f_X9_tryMove σ (f_X3_fileOfStep σ (f_X3_done σ)) (f_X3_startOfStep σ (f_X3_done σ)) (f_X3_goalOfStep σ (f_X3_done σ))).1) = 0 then L_X9_go_43 a0 n x2 (x3 + 1) (f_X3_setDone (up2 (f_X9_tryMove σ (f_X3_fileOfStep σ (f_X3_done σ)) (f_X3_startOfStep σ (f_X3_done σ)) (f_X3_goalOfStep σ (f_X3_done σ))).2 0 10 ((f_X9_tryMove σ (f_X3_fileOfStep σ (f_X3_done σ)) (f_X3_startOfStep σ (f_X3_done σ)) (f_X3_goalOfStep σ (f_X3_done σ))).1)) ((f_X3_done σ) + 1)) else (x3, (up2 (f_X9_tryMove σ (f_X3_fileOfStep σ (f_X3_done σ)) (f_X3_startOfStep σ (f_X3_done σ)) (f_X3_goalOfStep σ (f_X3_done σ))).2 0 10 ((f_X9_tryMove σ (f_X3_fileOfStep σ (f_X3_done σ)) (f_X3_startOfStep σ (f_X3_done σ)) (f_X3_goalOfStep σ (f_X3_done σ))).1)))))
set_option maxHeartbeats 4000000 in
set_option maxRecDepth 100000 in
theorem w_L_X9_go_43 {p : Program} {l : Launch} {e : Env} {s : State} {m : MethodId} {args : Array Value} {below : List Frame} {meth : Method} {c₀ : Code} {D : va_G} {cy : Nat → ClassId} {ad : Nat → Nat} (X : MX p s m args meth c₀ cX9_go 5 RX9 (some .int) wsX9_go D cy) (a0 : Int) (ha0 : (-2147483648 ≤ a0 ∧ a0 < 2147483648)) : ∀ (n : Nat) (x2 : Int) (x3 : Int) (σ : Sg) (hx2 : (-80 : Int) ≤ x2 ∧ x2 ≤ 80) (hx3 : (0 : Int) ≤ x3 ∧ x3 ≤ 80) (hp0 : σ 13 8 + (x2 - x3) ≤ 80) (hmu : 80 - x3 < (n : Int)) (H : Heap) (locs : List Loc) (ls : Array Slot) (hI : HI D cy ad s σ H locs) (hl : lv_has ls 5 [(0, .ref (ad 0)), (2, .int (iI x2)), (3, .int (iI x3))]), W p l e { frames := 6, cells := 0, slots := 0, locals := 240 } s m args below meth c₀ H locs 0 0 (MQ below (CQ D cy ad (some (.int (iI ((L_X9_go_43 a0 n x2 x3 σ).1)))) ((L_X9_go_43 a0 n x2 x3 σ).2) (True) (AA ad s.heap.size)) args s 0 0 (AA ad s.heap.size)) (F0 m 43 ls []) := by
  obtain ⟨hx, hb, hr, hml, hown, hts, hlocks, hK, hN⟩ := id X
  intro n
  induction n with
  | zero =>
    intro x2 x3 σ hx2 hx3 hp0 hmu H locs ls hI hl
    exfalso
    have hF := hI.2.2.2
    omega
  | succ n ih =>
    intro x2 x3 σ hx2 hx3 hp0 hmu H locs ls hI hl
    have hF := hI.2.2.2
    refine lv_iload_n hx hb dX9_go_43 rfl (lv_at hl 2 rfl) ?_
    refine lv_iload_n hx hb dX9_go_44 rfl (lv_at hl 1 rfl) ?_
    refine g_icmp_ge (tgt := 118) hx hb dX9_go_45 (by decide) (by omega) (by omega) (fun c_7 => ?_) (fun c_7 => ?_)
    · skip
      refine lv_iload_n hx hb dX9_go_118 rfl (lv_at hl 1 rfl) ?_
      have e9 : L_X9_go_43 a0 (n + 1) x2 x3 σ = (x2, σ) := by rw [L_X9_go_43, if_pos c_7]
      exact g_iret (z := x2) hx hb hr hK hN hlocks hI (by rw [e9]) (by rw [e9]) trivial dX9_go_119
    · skip
      refine lv_aload_n hx hb dX9_go_48 rfl (lv_at hl 0 rfl) ?_
      refine g_get (C := RX9) (T := TX9) (N := 11) (ci := 8) (v := .ref (ad 13)) hx hb hts in_X9_go_X9 hown hK hI 0 (by decide) (cel_0 cy ad _) rfl 5 (by decide) (by decide +kernel) rfl dX9_go_49 ?_
      refine g_V (As := []) (rest := []) 13 (c_X3_done l D cy ad σ ) hx hb hml hown hts hK hN hI hl.1 gX9_go_X3_done rfl hd_X3_done rfl rfl ⟨Nat.le_of_ble_eq_true rfl, Nat.le_of_ble_eq_true rfl⟩ ⟨Nat.zero_le _, Nat.zero_le _⟩ (by decide) (cel_13 cy ad _) rfl rfl rfl rfl (Nat.le_of_ble_eq_true rfl) dX9_go_52 (fun H locs hG_8 hI => ?_)
      refine lv_istore (lv' := [(4, .int (iI (f_X3_done σ))), (0, .ref (ad 0)), (2, .int (iI x2)), (3, .int (iI x3))]) hx hb dX9_go_55 hl (by decide) rfl (fun ls hl => ?_)
      refine lv_aload_n hx hb dX9_go_57 rfl (lv_at hl 1 rfl) ?_
      refine lv_aload_n hx hb dX9_go_58 rfl (lv_at hl 1 rfl) ?_
      refine lv_aload_n hx hb dX9_go_59 rfl (lv_at hl 1 rfl) ?_
      refine g_get (C := RX9) (T := TX9) (N := 11) (ci := 8) (v := .ref (ad 13)) hx hb hts in_X9_go_X9 hown hK hI 0 (by decide) (cel_0 cy ad _) rfl 5 (by decide) (by decide +kernel) rfl dX9_go_60 ?_
      refine lv_iload hx hb dX9_go_63 (lv_at hl 0 rfl) ?_
      refine g_V (As := [.int (iI (f_X3_done σ))]) (rest := [.ref (ad 0), .ref (ad 0)]) 13 (c_X3_fileOfStep l D cy ad σ (f_X3_done σ) (by omega)) hx hb hml hown hts hK hN hI hl.1 gX9_go_X3_fileOfStep rfl hd_X3_fileOfStep rfl rfl ⟨Nat.le_of_ble_eq_true rfl, Nat.le_of_ble_eq_true rfl⟩ ⟨Nat.zero_le _, Nat.zero_le _⟩ (by decide) (cel_13 cy ad _) rfl rfl rfl rfl (Nat.le_of_ble_eq_true rfl) dX9_go_65 (fun H locs hG_9 hI => ?_)
      refine lv_aload_n hx hb dX9_go_68 rfl (lv_at hl 1 rfl) ?_
      refine g_get (C := RX9) (T := TX9) (N := 11) (ci := 8) (v := .ref (ad 13)) hx hb hts in_X9_go_X9 hown hK hI 0 (by decide) (cel_0 cy ad _) rfl 5 (by decide) (by decide +kernel) rfl dX9_go_69 ?_
      refine lv_iload hx hb dX9_go_72 (lv_at hl 0 rfl) ?_
      refine g_V (As := [.int (iI (f_X3_done σ))]) (rest := [.int (iI (f_X3_fileOfStep σ (f_X3_done σ))), .ref (ad 0), .ref (ad 0)]) 13 (c_X3_startOfStep l D cy ad σ (f_X3_done σ) (by omega)) hx hb hml hown hts hK hN hI hl.1 gX9_go_X3_startOfStep rfl hd_X3_startOfStep rfl rfl ⟨Nat.le_of_ble_eq_true rfl, Nat.le_of_ble_eq_true rfl⟩ ⟨Nat.zero_le _, Nat.zero_le _⟩ (by decide) (cel_13 cy ad _) rfl rfl rfl rfl (Nat.le_of_ble_eq_true rfl) dX9_go_74 (fun H locs hG_10 hI => ?_)
      refine lv_aload_n hx hb dX9_go_77 rfl (lv_at hl 1 rfl) ?_
      refine g_get (C := RX9) (T := TX9) (N := 11) (ci := 8) (v := .ref (ad 13)) hx hb hts in_X9_go_X9 hown hK hI 0 (by decide) (cel_0 cy ad _) rfl 5 (by decide) (by decide +kernel) rfl dX9_go_78 ?_
      refine lv_iload hx hb dX9_go_81 (lv_at hl 0 rfl) ?_
      refine g_V (As := [.int (iI (f_X3_done σ))]) (rest := [.ref (ad (f_X3_startOfStep σ (f_X3_done σ))), .int (iI (f_X3_fileOfStep σ (f_X3_done σ))), .ref (ad 0), .ref (ad 0)]) 13 (c_X3_goalOfStep l D cy ad σ (f_X3_done σ) (by omega)) hx hb hml hown hts hK hN hI hl.1 gX9_go_X3_goalOfStep rfl hd_X3_goalOfStep rfl rfl ⟨Nat.le_of_ble_eq_true rfl, Nat.le_of_ble_eq_true rfl⟩ ⟨Nat.zero_le _, Nat.zero_le _⟩ (by decide) (cel_13 cy ad _) rfl rfl rfl rfl (Nat.le_of_ble_eq_true rfl) dX9_go_83 (fun H locs hG_11 hI => ?_)
      refine g_V (As := [.int (iI (f_X3_fileOfStep σ (f_X3_done σ))), .ref (ad (f_X3_startOfStep σ (f_X3_done σ))), .ref (ad (f_X3_goalOfStep σ (f_X3_done σ)))]) (rest := [.ref (ad 0)]) 0 (c_X9_tryMove l D cy ad σ (f_X3_fileOfStep σ (f_X3_done σ)) (by omega) (f_X3_startOfStep σ (f_X3_done σ)) hG_10 (f_X3_goalOfStep σ (f_X3_done σ)) hG_11) hx hb hml hown hts hK hN hI hl.1 gX9_go_X9_tryMove rfl hd_X9_tryMove rfl rfl ⟨Nat.le_of_ble_eq_true rfl, Nat.le_of_ble_eq_true rfl⟩ ⟨Nat.zero_le _, Nat.zero_le _⟩ (by decide) (cel_0 cy ad _) rfl rfl rfl rfl (Nat.le_of_ble_eq_true rfl) dX9_go_86 (fun H locs hG_12 hI => ?_)
      have hF_13 := hI.2.2.2
      have q9 : (f_X9_tryMove σ (f_X3_fileOfStep σ (f_X3_done σ)) (f_X3_startOfStep σ (f_X3_done σ)) (f_X3_goalOfStep σ (f_X3_done σ))).2 13 = σ 13 := tryMove_fr _ _ _ _ (by decide)
      have q8 := congrFun q9 8
      have q7 := congrFun q9 7
      refine g_put (C := RX9) (T := TX9) (N := 11) (ci := 8) (ty := .int) (z := (f_X9_tryMove σ (f_X3_fileOfStep σ (f_X3_done σ)) (f_X3_startOfStep σ (f_X3_done σ)) (f_X3_goalOfStep σ (f_X3_done σ))).1) hx hb hts in_X9_go_X9 tyX9 tyX9_ok nmX9 hown hK hI 0 (by decide) (cel_0 cy ad) rfl 10 (by decide) (by decide +kernel) rfl (by decide +kernel) rfl rfl (Nat.le_of_ble_eq_true rfl) rfl (bw_0_10 (by omega)) dX9_go_89 (fun H locs hI => ?_)
      have hF_14 := hI.2.2.2
      refine lv_aload_n hx hb dX9_go_92 rfl (lv_at hl 1 rfl) ?_
      refine g_get (C := RX9) (T := TX9) (N := 11) (ci := 8) (v := .int (iI ((f_X9_tryMove σ (f_X3_fileOfStep σ (f_X3_done σ)) (f_X3_startOfStep σ (f_X3_done σ)) (f_X3_goalOfStep σ (f_X3_done σ))).1))) hx hb hts in_X9_go_X9 hown hK hI 0 (by decide) (cel_0 cy ad _) rfl 10 (by decide) (by decide +kernel) (by show some (Value.int (iI ((up2 (f_X9_tryMove σ (f_X3_fileOfStep σ (f_X3_done σ)) (f_X3_startOfStep σ (f_X3_done σ)) (f_X3_goalOfStep σ (f_X3_done σ))).2 0 10 ((f_X9_tryMove σ (f_X3_fileOfStep σ (f_X3_done σ)) (f_X3_startOfStep σ (f_X3_done σ)) (f_X3_goalOfStep σ (f_X3_done σ))).1)) 0 10))) = _; rw [up2_same]) dX9_go_93 ?_
      refine g_if_eq (tgt := 101) hx hb dX9_go_96 (by decide) (by omega) (fun c_15 => ?_) (fun c_15 => ?_)
      · skip
        refine lv_aload_n hx hb dX9_go_101 rfl (lv_at hl 1 rfl) ?_
        refine g_get (C := RX9) (T := TX9) (N := 11) (ci := 8) (v := .ref (ad 13)) hx hb hts in_X9_go_X9 hown hK hI 0 (by decide) (cel_0 cy ad _) rfl 5 (by decide) (by decide +kernel) rfl dX9_go_102 ?_
        refine lv_iload hx hb dX9_go_105 (lv_at hl 0 rfl) ?_
        refine lv_iconst (v := iI 1) hx hb dX9_go_107 rfl ?_
        refine g_iadd hx hb dX9_go_108 ?_
        refine g_V (As := [.int (iI ((f_X3_done σ) + 1))]) (rest := []) 13 (c_X3_setDone l D cy ad (up2 (f_X9_tryMove σ (f_X3_fileOfStep σ (f_X3_done σ)) (f_X3_startOfStep σ (f_X3_done σ)) (f_X3_goalOfStep σ (f_X3_done σ))).2 0 10 ((f_X9_tryMove σ (f_X3_fileOfStep σ (f_X3_done σ)) (f_X3_startOfStep σ (f_X3_done σ)) (f_X3_goalOfStep σ (f_X3_done σ))).1)) ((f_X3_done σ) + 1) (by omega)) hx hb hml hown hts hK hN hI hl.1 gX9_go_X3_setDone rfl hd_X3_setDone rfl rfl ⟨Nat.le_of_ble_eq_true rfl, Nat.le_of_ble_eq_true rfl⟩ ⟨Nat.zero_le _, Nat.zero_le _⟩ (by decide) (cel_13 cy ad _) rfl rfl rfl rfl (Nat.le_of_ble_eq_true rfl) dX9_go_109 (fun H locs hG_16 hI => ?_)
        have hF_17 := hI.2.2.2
        refine lv_iinc (v := iI (x3 + 1)) (lv' := [(3, .int (iI (x3 + 1))), (4, .int (iI (f_X3_done σ))), (0, .ref (ad 0)), (2, .int (iI x2))]) hx hb dX9_go_112 hl (k := 3) rfl (iI_add _ _) (by decide) rfl (fun ls hl => ?_)
        refine lv_goto (tgt := 43) hx hb dX9_go_115 (by decide) ?_
        have e9 : L_X9_go_43 a0 (n + 1) x2 x3 σ = L_X9_go_43 a0 n x2 (x3 + 1) (f_X3_setDone (up2 (f_X9_tryMove σ (f_X3_fileOfStep σ (f_X3_done σ)) (f_X3_startOfStep σ (f_X3_done σ)) (f_X3_goalOfStep σ (f_X3_done σ))).2 0 10 ((f_X9_tryMove σ (f_X3_fileOfStep σ (f_X3_done σ)) (f_X3_startOfStep σ (f_X3_done σ)) (f_X3_goalOfStep σ (f_X3_done σ))).1)) ((f_X3_done σ) + 1)) := by rw [L_X9_go_43, if_neg c_7, if_pos c_15]
        rw [e9]
        exact ih x2 (x3 + 1) (f_X3_setDone (up2 (f_X9_tryMove σ (f_X3_fileOfStep σ (f_X3_done σ)) (f_X3_startOfStep σ (f_X3_done σ)) (f_X3_goalOfStep σ (f_X3_done σ))).2 0 10 ((f_X9_tryMove σ (f_X3_fileOfStep σ (f_X3_done σ)) (f_X3_startOfStep σ (f_X3_done σ)) (f_X3_goalOfStep σ (f_X3_done σ))).1)) ((f_X3_done σ) + 1)) (by omega) (by omega) (by first | omega | (simp [f_X3_setDone, up2_at] <;> omega)) (by omega) _ _ _ hI (lv_sub hl [2, 3, 0] rfl)
      · skip
        refine lv_iload_n hx hb dX9_go_99 rfl (lv_at hl 3 rfl) ?_
        have e9 : L_X9_go_43 a0 (n + 1) x2 x3 σ = (x3, (up2 (f_X9_tryMove σ (f_X3_fileOfStep σ (f_X3_done σ)) (f_X3_startOfStep σ (f_X3_done σ)) (f_X3_goalOfStep σ (f_X3_done σ))).2 0 10 ((f_X9_tryMove σ (f_X3_fileOfStep σ (f_X3_done σ)) (f_X3_startOfStep σ (f_X3_done σ)) (f_X3_goalOfStep σ (f_X3_done σ))).1))) := by rw [L_X9_go_43, if_neg c_7, if_neg c_15]
        exact g_iret (z := x3) hx hb hr hK hN hlocks hI (by rw [e9]) (by rw [e9]) trivial dX9_go_100
def f_X9_go (σ : Sg) (a0 : Int) : Int × Sg := (if a0 < 0 then ((-1), σ) else (if (f_X3_canRun σ) = 0 then ((-1), σ) else L_X9_go_43 a0 81 (min a0 ((f_X3_stepCount (up2 σ 0 10 0)) - (f_X3_done (up2 σ 0 10 0)))) 0 (up2 σ 0 10 0)))
theorem hd_X9_go : yX9_go.cls = RX9 ∧ yX9_go.cls ≠ "java/lang/invoke/MethodHandle" ∧ yX9_go.cls ≠ "java/lang/invoke/VarHandle" ∧ (parseMethodDescriptor yX9_go.desc).map (fun d => d.parameters.length) = some 1 := by decide +kernel
set_option maxHeartbeats 4000000 in
set_option maxRecDepth 100000 in
theorem c_X9_go (l : Launch) (D : va_G) (cy : Nat → ClassId) (ad : Nat → Nat) (σ : Sg) (a0 : Int) (ha0 : (-2147483648 ≤ a0 ∧ a0 < 2147483648)) : CM l D cy ad yX9_go wsX9_go { frames := 6, cells := 0, slots := 0, locals := 240 } [.ref (ad 0), .int (iI a0)] σ (some (.int (iI ((f_X9_go σ a0).1)))) ((f_X9_go σ a0).2) (True) := by
  refine CM.of (cc := cX9_go) (maxL := 5) (ret := (some .int)) (by decide) rfl (Nat.le_of_ble_eq_true rfl) ?_
  intro p e s m args below meth c₀ ls X hI hl
  have hl : lv_has ls 5 [(0, .ref (ad 0)), (1, .int (iI a0))] := hl
  obtain ⟨hx, hb, hr, hml, hown, hts, hlocks, hK, hN⟩ := id X
  have hF := hI.2.2.2
  refine lv_iload_n hx hb dX9_go_0 rfl (lv_at hl 1 rfl) ?_
  refine g_if_lt (tgt := 14) hx hb dX9_go_1 (by decide) (by omega) (fun c_1 => ?_) (fun c_1 => ?_)
  · skip
    refine lv_iconst (v := iI (-1)) hx hb dX9_go_14 rfl ?_
    have e9 : f_X9_go σ a0 = ((-1), σ) := by rw [f_X9_go, if_pos c_1]
    exact g_iret (z := (-1)) hx hb hr hK hN hlocks hI (by rw [e9]) (by rw [e9]) trivial dX9_go_15
  · skip
    refine lv_aload_n hx hb dX9_go_4 rfl (lv_at hl 0 rfl) ?_
    refine g_get (C := RX9) (T := TX9) (N := 11) (ci := 8) (v := .ref (ad 13)) hx hb hts in_X9_go_X9 hown hK hI 0 (by decide) (cel_0 cy ad _) rfl 5 (by decide) (by decide +kernel) rfl dX9_go_5 ?_
    refine g_V (As := []) (rest := []) 13 (c_X3_canRun l D cy ad σ ) hx hb hml hown hts hK hN hI hl.1 gX9_go_X3_canRun rfl hd_X3_canRun rfl rfl ⟨Nat.le_of_ble_eq_true rfl, Nat.le_of_ble_eq_true rfl⟩ ⟨Nat.zero_le _, Nat.zero_le _⟩ (by decide) (cel_13 cy ad _) rfl rfl rfl rfl (Nat.le_of_ble_eq_true rfl) dX9_go_8 (fun H locs hG_2 hI => ?_)
    refine g_if_ne (tgt := 16) hx hb dX9_go_11 (by decide) (by omega) (fun c_3 => ?_) (fun c_3 => ?_)
    · skip
      refine lv_aload_n hx hb dX9_go_16 rfl (lv_at hl 0 rfl) ?_
      refine lv_iconst (v := iI 0) hx hb dX9_go_17 rfl ?_
      refine g_put (C := RX9) (T := TX9) (N := 11) (ci := 8) (ty := .int) (z := 0) hx hb hts in_X9_go_X9 tyX9 tyX9_ok nmX9 hown hK hI 0 (by decide) (cel_0 cy ad) rfl 10 (by decide) (by decide +kernel) rfl (by decide +kernel) rfl rfl (Nat.le_of_ble_eq_true rfl) rfl (bw_0_10 (by omega)) dX9_go_18 (fun H locs hI => ?_)
      have hF_4 := hI.2.2.2
      refine lv_iload_n hx hb dX9_go_21 rfl (lv_at hl 1 rfl) ?_
      refine lv_aload_n hx hb dX9_go_22 rfl (lv_at hl 0 rfl) ?_
      refine g_get (C := RX9) (T := TX9) (N := 11) (ci := 8) (v := .ref (ad 13)) hx hb hts in_X9_go_X9 hown hK hI 0 (by decide) (cel_0 cy ad _) rfl 5 (by decide) (by decide +kernel) rfl dX9_go_23 ?_
      refine g_V (As := []) (rest := [.int (iI a0)]) 13 (c_X3_stepCount l D cy ad (up2 σ 0 10 0) ) hx hb hml hown hts hK hN hI hl.1 gX9_go_X3_stepCount rfl hd_X3_stepCount rfl rfl ⟨Nat.le_of_ble_eq_true rfl, Nat.le_of_ble_eq_true rfl⟩ ⟨Nat.zero_le _, Nat.zero_le _⟩ (by decide) (cel_13 cy ad _) rfl rfl rfl rfl (Nat.le_of_ble_eq_true rfl) dX9_go_26 (fun H locs hG_5 hI => ?_)
      refine lv_aload_n hx hb dX9_go_29 rfl (lv_at hl 0 rfl) ?_
      refine g_get (C := RX9) (T := TX9) (N := 11) (ci := 8) (v := .ref (ad 13)) hx hb hts in_X9_go_X9 hown hK hI 0 (by decide) (cel_0 cy ad _) rfl 5 (by decide) (by decide +kernel) rfl dX9_go_30 ?_
      refine g_V (As := []) (rest := [.int (iI (f_X3_stepCount (up2 σ 0 10 0))), .int (iI a0)]) 13 (c_X3_done l D cy ad (up2 σ 0 10 0) ) hx hb hml hown hts hK hN hI hl.1 gX9_go_X3_done rfl hd_X3_done rfl rfl ⟨Nat.le_of_ble_eq_true rfl, Nat.le_of_ble_eq_true rfl⟩ ⟨Nat.zero_le _, Nat.zero_le _⟩ (by decide) (cel_13 cy ad _) rfl rfl rfl rfl (Nat.le_of_ble_eq_true rfl) dX9_go_33 (fun H locs hG_6 hI => ?_)
      refine g_isub hx hb dX9_go_36 ?_
      refine g_mmin hx hb (hml.trans hl.1.symm) hts hown (by decide +kernel) (by decide +kernel) (by decide +kernel) (by decide +kernel) (Nat.le_of_ble_eq_true rfl) (Nat.le_of_ble_eq_true rfl) (Nat.zero_le _) (Nat.zero_le _) (by omega) (by omega) dX9_go_37 ?_
      refine lv_istore_n (lv' := [(2, .int (iI (min a0 ((f_X3_stepCount (up2 σ 0 10 0)) - (f_X3_done (up2 σ 0 10 0)))))), (0, .ref (ad 0)), (1, .int (iI a0))]) hx hb dX9_go_40 rfl hl (by decide) rfl (fun ls hl => ?_)
      refine lv_iconst (v := iI 0) hx hb dX9_go_41 rfl ?_
      refine lv_istore_n (lv' := [(3, .int (iI 0)), (2, .int (iI (min a0 ((f_X3_stepCount (up2 σ 0 10 0)) - (f_X3_done (up2 σ 0 10 0)))))), (0, .ref (ad 0)), (1, .int (iI a0))]) hx hb dX9_go_42 rfl hl (by decide) rfl (fun ls hl => ?_)
      have e9 : f_X9_go σ a0 = L_X9_go_43 a0 81 (min a0 ((f_X3_stepCount (up2 σ 0 10 0)) - (f_X3_done (up2 σ 0 10 0)))) 0 (up2 σ 0 10 0) := by rw [f_X9_go, if_neg c_1, if_neg c_3]
      rw [e9]
      exact w_L_X9_go_43 X  a0 ha0  81 (min a0 ((f_X3_stepCount (up2 σ 0 10 0)) - (f_X3_done (up2 σ 0 10 0)))) 0 (up2 σ 0 10 0) (by omega) (by omega) (by first | omega | (simp [f_X3_setDone, up2_at] <;> omega)) (by omega) _ _ _ hI (lv_sub hl [2, 1, 0] rfl)
    · skip
      refine lv_iconst (v := iI (-1)) hx hb dX9_go_14 rfl ?_
      have e9 : f_X9_go σ a0 = ((-1), σ) := by rw [f_X9_go, if_neg c_1, if_pos c_3]
      exact g_iret (z := (-1)) hx hb hr hK hN hlocks hI (by rw [e9]) (by rw [e9]) trivial dX9_go_15
theorem in_X9_back_X9 : ∀ w ∈ u_ws RX9 TX9 11, w ∈ wsX9_back := by decide +kernel
def L_X9_back_35 (a0 : Int) : Nat → Int → Int → Sg → Int × Sg
  | 0, x2, x3, σ => (0, σ)
  | n + 1, x2, x3, σ => (if x2 ≤ x3 then (x2, σ) else (if ((f_X9_tryMove σ (f_X3_fileOfStep σ ((f_X3_done σ) - 1)) (f_X3_goalOfStep σ ((f_X3_done σ) - 1)) (f_X3_startOfStep σ ((f_X3_done σ) - 1))).1) = 0 then L_X9_back_35 a0 n x2 (x3 + 1) (f_X3_setDone (up2 (f_X9_tryMove σ (f_X3_fileOfStep σ ((f_X3_done σ) - 1)) (f_X3_goalOfStep σ ((f_X3_done σ) - 1)) (f_X3_startOfStep σ ((f_X3_done σ) - 1))).2 0 10 ((f_X9_tryMove σ (f_X3_fileOfStep σ ((f_X3_done σ) - 1)) (f_X3_goalOfStep σ ((f_X3_done σ) - 1)) (f_X3_startOfStep σ ((f_X3_done σ) - 1))).1)) ((f_X3_done σ) - 1)) else (x3, (up2 (f_X9_tryMove σ (f_X3_fileOfStep σ ((f_X3_done σ) - 1)) (f_X3_goalOfStep σ ((f_X3_done σ) - 1)) (f_X3_startOfStep σ ((f_X3_done σ) - 1))).2 0 10 ((f_X9_tryMove σ (f_X3_fileOfStep σ ((f_X3_done σ) - 1)) (f_X3_goalOfStep σ ((f_X3_done σ) - 1)) (f_X3_startOfStep σ ((f_X3_done σ) - 1))).1)))))
set_option maxHeartbeats 4000000 in
set_option maxRecDepth 100000 in
theorem w_L_X9_back_35 {p : Program} {l : Launch} {e : Env} {s : State} {m : MethodId} {args : Array Value} {below : List Frame} {meth : Method} {c₀ : Code} {D : va_G} {cy : Nat → ClassId} {ad : Nat → Nat} (X : MX p s m args meth c₀ cX9_back 5 RX9 (some .int) wsX9_back D cy) (a0 : Int) (ha0 : (-2147483648 ≤ a0 ∧ a0 < 2147483648)) : ∀ (n : Nat) (x2 : Int) (x3 : Int) (σ : Sg) (hx2 : (-80 : Int) ≤ x2 ∧ x2 ≤ 80) (hx3 : (0 : Int) ≤ x3 ∧ x3 ≤ 80) (hp0 : x2 - x3 ≤ σ 13 8) (hmu : 80 - x3 < (n : Int)) (H : Heap) (locs : List Loc) (ls : Array Slot) (hI : HI D cy ad s σ H locs) (hl : lv_has ls 5 [(0, .ref (ad 0)), (2, .int (iI x2)), (3, .int (iI x3))]), W p l e { frames := 6, cells := 0, slots := 0, locals := 240 } s m args below meth c₀ H locs 0 0 (MQ below (CQ D cy ad (some (.int (iI ((L_X9_back_35 a0 n x2 x3 σ).1)))) ((L_X9_back_35 a0 n x2 x3 σ).2) (True) (AA ad s.heap.size)) args s 0 0 (AA ad s.heap.size)) (F0 m 35 ls []) := by
  obtain ⟨hx, hb, hr, hml, hown, hts, hlocks, hK, hN⟩ := id X
  intro n
  induction n with
  | zero =>
    intro x2 x3 σ hx2 hx3 hp0 hmu H locs ls hI hl
    exfalso
    have hF := hI.2.2.2
    omega
  | succ n ih =>
    intro x2 x3 σ hx2 hx3 hp0 hmu H locs ls hI hl
    have hF := hI.2.2.2
    refine lv_iload_n hx hb dX9_back_35 rfl (lv_at hl 2 rfl) ?_
    refine lv_iload_n hx hb dX9_back_36 rfl (lv_at hl 1 rfl) ?_
    refine g_icmp_ge (tgt := 110) hx hb dX9_back_37 (by decide) (by omega) (by omega) (fun c_6 => ?_) (fun c_6 => ?_)
    · skip
      refine lv_iload_n hx hb dX9_back_110 rfl (lv_at hl 1 rfl) ?_
      have e9 : L_X9_back_35 a0 (n + 1) x2 x3 σ = (x2, σ) := by rw [L_X9_back_35, if_pos c_6]
      exact g_iret (z := x2) hx hb hr hK hN hlocks hI (by rw [e9]) (by rw [e9]) trivial dX9_back_111
    · skip
      refine lv_aload_n hx hb dX9_back_40 rfl (lv_at hl 0 rfl) ?_
      refine g_get (C := RX9) (T := TX9) (N := 11) (ci := 8) (v := .ref (ad 13)) hx hb hts in_X9_back_X9 hown hK hI 0 (by decide) (cel_0 cy ad _) rfl 5 (by decide) (by decide +kernel) rfl dX9_back_41 ?_
      refine g_V (As := []) (rest := []) 13 (c_X3_done l D cy ad σ ) hx hb hml hown hts hK hN hI hl.1 gX9_back_X3_done rfl hd_X3_done rfl rfl ⟨Nat.le_of_ble_eq_true rfl, Nat.le_of_ble_eq_true rfl⟩ ⟨Nat.zero_le _, Nat.zero_le _⟩ (by decide) (cel_13 cy ad _) rfl rfl rfl rfl (Nat.le_of_ble_eq_true rfl) dX9_back_44 (fun H locs hG_7 hI => ?_)
      refine lv_iconst (v := iI 1) hx hb dX9_back_47 rfl ?_
      refine g_isub hx hb dX9_back_48 ?_
      refine lv_istore (lv' := [(4, .int (iI ((f_X3_done σ) - 1))), (0, .ref (ad 0)), (2, .int (iI x2)), (3, .int (iI x3))]) hx hb dX9_back_49 hl (by decide) rfl (fun ls hl => ?_)
      refine lv_aload_n hx hb dX9_back_51 rfl (lv_at hl 1 rfl) ?_
      refine lv_aload_n hx hb dX9_back_52 rfl (lv_at hl 1 rfl) ?_
      refine lv_aload_n hx hb dX9_back_53 rfl (lv_at hl 1 rfl) ?_
      refine g_get (C := RX9) (T := TX9) (N := 11) (ci := 8) (v := .ref (ad 13)) hx hb hts in_X9_back_X9 hown hK hI 0 (by decide) (cel_0 cy ad _) rfl 5 (by decide) (by decide +kernel) rfl dX9_back_54 ?_
      refine lv_iload hx hb dX9_back_57 (lv_at hl 0 rfl) ?_
      refine g_V (As := [.int (iI ((f_X3_done σ) - 1))]) (rest := [.ref (ad 0), .ref (ad 0)]) 13 (c_X3_fileOfStep l D cy ad σ ((f_X3_done σ) - 1) (by omega)) hx hb hml hown hts hK hN hI hl.1 gX9_back_X3_fileOfStep rfl hd_X3_fileOfStep rfl rfl ⟨Nat.le_of_ble_eq_true rfl, Nat.le_of_ble_eq_true rfl⟩ ⟨Nat.zero_le _, Nat.zero_le _⟩ (by decide) (cel_13 cy ad _) rfl rfl rfl rfl (Nat.le_of_ble_eq_true rfl) dX9_back_59 (fun H locs hG_8 hI => ?_)
      refine lv_aload_n hx hb dX9_back_62 rfl (lv_at hl 1 rfl) ?_
      refine g_get (C := RX9) (T := TX9) (N := 11) (ci := 8) (v := .ref (ad 13)) hx hb hts in_X9_back_X9 hown hK hI 0 (by decide) (cel_0 cy ad _) rfl 5 (by decide) (by decide +kernel) rfl dX9_back_63 ?_
      refine lv_iload hx hb dX9_back_66 (lv_at hl 0 rfl) ?_
      refine g_V (As := [.int (iI ((f_X3_done σ) - 1))]) (rest := [.int (iI (f_X3_fileOfStep σ ((f_X3_done σ) - 1))), .ref (ad 0), .ref (ad 0)]) 13 (c_X3_goalOfStep l D cy ad σ ((f_X3_done σ) - 1) (by omega)) hx hb hml hown hts hK hN hI hl.1 gX9_back_X3_goalOfStep rfl hd_X3_goalOfStep rfl rfl ⟨Nat.le_of_ble_eq_true rfl, Nat.le_of_ble_eq_true rfl⟩ ⟨Nat.zero_le _, Nat.zero_le _⟩ (by decide) (cel_13 cy ad _) rfl rfl rfl rfl (Nat.le_of_ble_eq_true rfl) dX9_back_68 (fun H locs hG_9 hI => ?_)
      refine lv_aload_n hx hb dX9_back_71 rfl (lv_at hl 1 rfl) ?_
      refine g_get (C := RX9) (T := TX9) (N := 11) (ci := 8) (v := .ref (ad 13)) hx hb hts in_X9_back_X9 hown hK hI 0 (by decide) (cel_0 cy ad _) rfl 5 (by decide) (by decide +kernel) rfl dX9_back_72 ?_
      refine lv_iload hx hb dX9_back_75 (lv_at hl 0 rfl) ?_
      refine g_V (As := [.int (iI ((f_X3_done σ) - 1))]) (rest := [.ref (ad (f_X3_goalOfStep σ ((f_X3_done σ) - 1))), .int (iI (f_X3_fileOfStep σ ((f_X3_done σ) - 1))), .ref (ad 0), .ref (ad 0)]) 13 (c_X3_startOfStep l D cy ad σ ((f_X3_done σ) - 1) (by omega)) hx hb hml hown hts hK hN hI hl.1 gX9_back_X3_startOfStep rfl hd_X3_startOfStep rfl rfl ⟨Nat.le_of_ble_eq_true rfl, Nat.le_of_ble_eq_true rfl⟩ ⟨Nat.zero_le _, Nat.zero_le _⟩ (by decide) (cel_13 cy ad _) rfl rfl rfl rfl (Nat.le_of_ble_eq_true rfl) dX9_back_77 (fun H locs hG_10 hI => ?_)
      refine g_V (As := [.int (iI (f_X3_fileOfStep σ ((f_X3_done σ) - 1))), .ref (ad (f_X3_goalOfStep σ ((f_X3_done σ) - 1))), .ref (ad (f_X3_startOfStep σ ((f_X3_done σ) - 1)))]) (rest := [.ref (ad 0)]) 0 (c_X9_tryMove l D cy ad σ (f_X3_fileOfStep σ ((f_X3_done σ) - 1)) (by omega) (f_X3_goalOfStep σ ((f_X3_done σ) - 1)) hG_9 (f_X3_startOfStep σ ((f_X3_done σ) - 1)) hG_10) hx hb hml hown hts hK hN hI hl.1 gX9_back_X9_tryMove rfl hd_X9_tryMove rfl rfl ⟨Nat.le_of_ble_eq_true rfl, Nat.le_of_ble_eq_true rfl⟩ ⟨Nat.zero_le _, Nat.zero_le _⟩ (by decide) (cel_0 cy ad _) rfl rfl rfl rfl (Nat.le_of_ble_eq_true rfl) dX9_back_80 (fun H locs hG_11 hI => ?_)
      have hF_12 := hI.2.2.2
      have q9 : (f_X9_tryMove σ (f_X3_fileOfStep σ ((f_X3_done σ) - 1)) (f_X3_goalOfStep σ ((f_X3_done σ) - 1)) (f_X3_startOfStep σ ((f_X3_done σ) - 1))).2 13 = σ 13 := tryMove_fr _ _ _ _ (by decide)
      have q8 := congrFun q9 8
      have q7 := congrFun q9 7
      refine g_put (C := RX9) (T := TX9) (N := 11) (ci := 8) (ty := .int) (z := (f_X9_tryMove σ (f_X3_fileOfStep σ ((f_X3_done σ) - 1)) (f_X3_goalOfStep σ ((f_X3_done σ) - 1)) (f_X3_startOfStep σ ((f_X3_done σ) - 1))).1) hx hb hts in_X9_back_X9 tyX9 tyX9_ok nmX9 hown hK hI 0 (by decide) (cel_0 cy ad) rfl 10 (by decide) (by decide +kernel) rfl (by decide +kernel) rfl rfl (Nat.le_of_ble_eq_true rfl) rfl (bw_0_10 (by omega)) dX9_back_83 (fun H locs hI => ?_)
      have hF_13 := hI.2.2.2
      refine lv_aload_n hx hb dX9_back_86 rfl (lv_at hl 1 rfl) ?_
      refine g_get (C := RX9) (T := TX9) (N := 11) (ci := 8) (v := .int (iI ((f_X9_tryMove σ (f_X3_fileOfStep σ ((f_X3_done σ) - 1)) (f_X3_goalOfStep σ ((f_X3_done σ) - 1)) (f_X3_startOfStep σ ((f_X3_done σ) - 1))).1))) hx hb hts in_X9_back_X9 hown hK hI 0 (by decide) (cel_0 cy ad _) rfl 10 (by decide) (by decide +kernel) (by show some (Value.int (iI ((up2 (f_X9_tryMove σ (f_X3_fileOfStep σ ((f_X3_done σ) - 1)) (f_X3_goalOfStep σ ((f_X3_done σ) - 1)) (f_X3_startOfStep σ ((f_X3_done σ) - 1))).2 0 10 ((f_X9_tryMove σ (f_X3_fileOfStep σ ((f_X3_done σ) - 1)) (f_X3_goalOfStep σ ((f_X3_done σ) - 1)) (f_X3_startOfStep σ ((f_X3_done σ) - 1))).1)) 0 10))) = _; rw [up2_same]) dX9_back_87 ?_
      refine g_if_eq (tgt := 95) hx hb dX9_back_90 (by decide) (by omega) (fun c_14 => ?_) (fun c_14 => ?_)
      · skip
        refine lv_aload_n hx hb dX9_back_95 rfl (lv_at hl 1 rfl) ?_
        refine g_get (C := RX9) (T := TX9) (N := 11) (ci := 8) (v := .ref (ad 13)) hx hb hts in_X9_back_X9 hown hK hI 0 (by decide) (cel_0 cy ad _) rfl 5 (by decide) (by decide +kernel) rfl dX9_back_96 ?_
        refine lv_iload hx hb dX9_back_99 (lv_at hl 0 rfl) ?_
        refine g_V (As := [.int (iI ((f_X3_done σ) - 1))]) (rest := []) 13 (c_X3_setDone l D cy ad (up2 (f_X9_tryMove σ (f_X3_fileOfStep σ ((f_X3_done σ) - 1)) (f_X3_goalOfStep σ ((f_X3_done σ) - 1)) (f_X3_startOfStep σ ((f_X3_done σ) - 1))).2 0 10 ((f_X9_tryMove σ (f_X3_fileOfStep σ ((f_X3_done σ) - 1)) (f_X3_goalOfStep σ ((f_X3_done σ) - 1)) (f_X3_startOfStep σ ((f_X3_done σ) - 1))).1)) ((f_X3_done σ) - 1) (by omega)) hx hb hml hown hts hK hN hI hl.1 gX9_back_X3_setDone rfl hd_X3_setDone rfl rfl ⟨Nat.le_of_ble_eq_true rfl, Nat.le_of_ble_eq_true rfl⟩ ⟨Nat.zero_le _, Nat.zero_le _⟩ (by decide) (cel_13 cy ad _) rfl rfl rfl rfl (Nat.le_of_ble_eq_true rfl) dX9_back_101 (fun H locs hG_15 hI => ?_)
        have hF_16 := hI.2.2.2
        refine lv_iinc (v := iI (x3 + 1)) (lv' := [(3, .int (iI (x3 + 1))), (4, .int (iI ((f_X3_done σ) - 1))), (0, .ref (ad 0)), (2, .int (iI x2))]) hx hb dX9_back_104 hl (k := 3) rfl (iI_add _ _) (by decide) rfl (fun ls hl => ?_)
        refine lv_goto (tgt := 35) hx hb dX9_back_107 (by decide) ?_
        have e9 : L_X9_back_35 a0 (n + 1) x2 x3 σ = L_X9_back_35 a0 n x2 (x3 + 1) (f_X3_setDone (up2 (f_X9_tryMove σ (f_X3_fileOfStep σ ((f_X3_done σ) - 1)) (f_X3_goalOfStep σ ((f_X3_done σ) - 1)) (f_X3_startOfStep σ ((f_X3_done σ) - 1))).2 0 10 ((f_X9_tryMove σ (f_X3_fileOfStep σ ((f_X3_done σ) - 1)) (f_X3_goalOfStep σ ((f_X3_done σ) - 1)) (f_X3_startOfStep σ ((f_X3_done σ) - 1))).1)) ((f_X3_done σ) - 1)) := by rw [L_X9_back_35, if_neg c_6, if_pos c_14]
        rw [e9]
        exact ih x2 (x3 + 1) (f_X3_setDone (up2 (f_X9_tryMove σ (f_X3_fileOfStep σ ((f_X3_done σ) - 1)) (f_X3_goalOfStep σ ((f_X3_done σ) - 1)) (f_X3_startOfStep σ ((f_X3_done σ) - 1))).2 0 10 ((f_X9_tryMove σ (f_X3_fileOfStep σ ((f_X3_done σ) - 1)) (f_X3_goalOfStep σ ((f_X3_done σ) - 1)) (f_X3_startOfStep σ ((f_X3_done σ) - 1))).1)) ((f_X3_done σ) - 1)) (by omega) (by omega) (by first | omega | (simp [f_X3_setDone, up2_at] <;> omega)) (by omega) _ _ _ hI (lv_sub hl [2, 3, 0] rfl)
      · skip
        refine lv_iload_n hx hb dX9_back_93 rfl (lv_at hl 3 rfl) ?_
        have e9 : L_X9_back_35 a0 (n + 1) x2 x3 σ = (x3, (up2 (f_X9_tryMove σ (f_X3_fileOfStep σ ((f_X3_done σ) - 1)) (f_X3_goalOfStep σ ((f_X3_done σ) - 1)) (f_X3_startOfStep σ ((f_X3_done σ) - 1))).2 0 10 ((f_X9_tryMove σ (f_X3_fileOfStep σ ((f_X3_done σ) - 1)) (f_X3_goalOfStep σ ((f_X3_done σ) - 1)) (f_X3_startOfStep σ ((f_X3_done σ) - 1))).1))) := by rw [L_X9_back_35, if_neg c_6, if_neg c_14]
        exact g_iret (z := x3) hx hb hr hK hN hlocks hI (by rw [e9]) (by rw [e9]) trivial dX9_back_94
def f_X9_back (σ : Sg) (a0 : Int) : Int × Sg := (if a0 < 0 then ((-1), σ) else (if (f_X3_canRun σ) = 0 then ((-1), σ) else L_X9_back_35 a0 81 (min a0 (f_X3_done (up2 σ 0 10 0))) 0 (up2 σ 0 10 0)))
theorem hd_X9_back : yX9_back.cls = RX9 ∧ yX9_back.cls ≠ "java/lang/invoke/MethodHandle" ∧ yX9_back.cls ≠ "java/lang/invoke/VarHandle" ∧ (parseMethodDescriptor yX9_back.desc).map (fun d => d.parameters.length) = some 1 := by decide +kernel
set_option maxHeartbeats 4000000 in
set_option maxRecDepth 100000 in
theorem c_X9_back (l : Launch) (D : va_G) (cy : Nat → ClassId) (ad : Nat → Nat) (σ : Sg) (a0 : Int) (ha0 : (-2147483648 ≤ a0 ∧ a0 < 2147483648)) : CM l D cy ad yX9_back wsX9_back { frames := 6, cells := 0, slots := 0, locals := 240 } [.ref (ad 0), .int (iI a0)] σ (some (.int (iI ((f_X9_back σ a0).1)))) ((f_X9_back σ a0).2) (True) := by
  refine CM.of (cc := cX9_back) (maxL := 5) (ret := (some .int)) (by decide) rfl (Nat.le_of_ble_eq_true rfl) ?_
  intro p e s m args below meth c₀ ls X hI hl
  have hl : lv_has ls 5 [(0, .ref (ad 0)), (1, .int (iI a0))] := hl
  obtain ⟨hx, hb, hr, hml, hown, hts, hlocks, hK, hN⟩ := id X
  have hF := hI.2.2.2
  refine lv_iload_n hx hb dX9_back_0 rfl (lv_at hl 1 rfl) ?_
  refine g_if_lt (tgt := 14) hx hb dX9_back_1 (by decide) (by omega) (fun c_1 => ?_) (fun c_1 => ?_)
  · skip
    refine lv_iconst (v := iI (-1)) hx hb dX9_back_14 rfl ?_
    have e9 : f_X9_back σ a0 = ((-1), σ) := by rw [f_X9_back, if_pos c_1]
    exact g_iret (z := (-1)) hx hb hr hK hN hlocks hI (by rw [e9]) (by rw [e9]) trivial dX9_back_15
  · skip
    refine lv_aload_n hx hb dX9_back_4 rfl (lv_at hl 0 rfl) ?_
    refine g_get (C := RX9) (T := TX9) (N := 11) (ci := 8) (v := .ref (ad 13)) hx hb hts in_X9_back_X9 hown hK hI 0 (by decide) (cel_0 cy ad _) rfl 5 (by decide) (by decide +kernel) rfl dX9_back_5 ?_
    refine g_V (As := []) (rest := []) 13 (c_X3_canRun l D cy ad σ ) hx hb hml hown hts hK hN hI hl.1 gX9_back_X3_canRun rfl hd_X3_canRun rfl rfl ⟨Nat.le_of_ble_eq_true rfl, Nat.le_of_ble_eq_true rfl⟩ ⟨Nat.zero_le _, Nat.zero_le _⟩ (by decide) (cel_13 cy ad _) rfl rfl rfl rfl (Nat.le_of_ble_eq_true rfl) dX9_back_8 (fun H locs hG_2 hI => ?_)
    refine g_if_ne (tgt := 16) hx hb dX9_back_11 (by decide) (by omega) (fun c_3 => ?_) (fun c_3 => ?_)
    · skip
      refine lv_aload_n hx hb dX9_back_16 rfl (lv_at hl 0 rfl) ?_
      refine lv_iconst (v := iI 0) hx hb dX9_back_17 rfl ?_
      refine g_put (C := RX9) (T := TX9) (N := 11) (ci := 8) (ty := .int) (z := 0) hx hb hts in_X9_back_X9 tyX9 tyX9_ok nmX9 hown hK hI 0 (by decide) (cel_0 cy ad) rfl 10 (by decide) (by decide +kernel) rfl (by decide +kernel) rfl rfl (Nat.le_of_ble_eq_true rfl) rfl (bw_0_10 (by omega)) dX9_back_18 (fun H locs hI => ?_)
      have hF_4 := hI.2.2.2
      refine lv_iload_n hx hb dX9_back_21 rfl (lv_at hl 1 rfl) ?_
      refine lv_aload_n hx hb dX9_back_22 rfl (lv_at hl 0 rfl) ?_
      refine g_get (C := RX9) (T := TX9) (N := 11) (ci := 8) (v := .ref (ad 13)) hx hb hts in_X9_back_X9 hown hK hI 0 (by decide) (cel_0 cy ad _) rfl 5 (by decide) (by decide +kernel) rfl dX9_back_23 ?_
      refine g_V (As := []) (rest := [.int (iI a0)]) 13 (c_X3_done l D cy ad (up2 σ 0 10 0) ) hx hb hml hown hts hK hN hI hl.1 gX9_back_X3_done rfl hd_X3_done rfl rfl ⟨Nat.le_of_ble_eq_true rfl, Nat.le_of_ble_eq_true rfl⟩ ⟨Nat.zero_le _, Nat.zero_le _⟩ (by decide) (cel_13 cy ad _) rfl rfl rfl rfl (Nat.le_of_ble_eq_true rfl) dX9_back_26 (fun H locs hG_5 hI => ?_)
      refine g_mmin hx hb (hml.trans hl.1.symm) hts hown (by decide +kernel) (by decide +kernel) (by decide +kernel) (by decide +kernel) (Nat.le_of_ble_eq_true rfl) (Nat.le_of_ble_eq_true rfl) (Nat.zero_le _) (Nat.zero_le _) (by omega) (by omega) dX9_back_29 ?_
      refine lv_istore_n (lv' := [(2, .int (iI (min a0 (f_X3_done (up2 σ 0 10 0))))), (0, .ref (ad 0)), (1, .int (iI a0))]) hx hb dX9_back_32 rfl hl (by decide) rfl (fun ls hl => ?_)
      refine lv_iconst (v := iI 0) hx hb dX9_back_33 rfl ?_
      refine lv_istore_n (lv' := [(3, .int (iI 0)), (2, .int (iI (min a0 (f_X3_done (up2 σ 0 10 0))))), (0, .ref (ad 0)), (1, .int (iI a0))]) hx hb dX9_back_34 rfl hl (by decide) rfl (fun ls hl => ?_)
      have e9 : f_X9_back σ a0 = L_X9_back_35 a0 81 (min a0 (f_X3_done (up2 σ 0 10 0))) 0 (up2 σ 0 10 0) := by rw [f_X9_back, if_neg c_1, if_neg c_3]
      rw [e9]
      exact w_L_X9_back_35 X  a0 ha0  81 (min a0 (f_X3_done (up2 σ 0 10 0))) 0 (up2 σ 0 10 0) (by omega) (by omega) (by first | omega | (simp [f_X3_setDone, up2_at] <;> omega)) (by omega) _ _ _ hI (lv_sub hl [2, 1, 0] rfl)
    · skip
      refine lv_iconst (v := iI (-1)) hx hb dX9_back_14 rfl ?_
      have e9 : f_X9_back σ a0 = ((-1), σ) := by rw [f_X9_back, if_neg c_1, if_pos c_3]
      exact g_iret (z := (-1)) hx hb hr hK hN hlocks hI (by rw [e9]) (by rw [e9]) trivial dX9_back_15
theorem in_X9_stuck_X9 : ∀ w ∈ u_ws RX9 TX9 11, w ∈ wsX9_stuck := by decide +kernel
def f_X9_stuck (σ : Sg) : Int := σ 0 10
theorem hd_X9_stuck : yX9_stuck.cls = RX9 ∧ yX9_stuck.cls ≠ "java/lang/invoke/MethodHandle" ∧ yX9_stuck.cls ≠ "java/lang/invoke/VarHandle" ∧ (parseMethodDescriptor yX9_stuck.desc).map (fun d => d.parameters.length) = some 0 := by decide +kernel
set_option maxHeartbeats 4000000 in
set_option maxRecDepth 100000 in
theorem c_X9_stuck (l : Launch) (D : va_G) (cy : Nat → ClassId) (ad : Nat → Nat) (σ : Sg) : CM l D cy ad yX9_stuck wsX9_stuck { frames := 0, cells := 0, slots := 0, locals := 0 } [.ref (ad 0)] σ (some (.int (iI (f_X9_stuck σ)))) σ (True) := by
  refine CM.of (cc := cX9_stuck) (maxL := 1) (ret := (some .int)) (by decide) rfl (Nat.le_of_ble_eq_true rfl) ?_
  intro p e s m args below meth c₀ ls X hI hl
  have hl : lv_has ls 1 [(0, .ref (ad 0))] := hl
  obtain ⟨hx, hb, hr, hml, hown, hts, hlocks, hK, hN⟩ := id X
  have hF := hI.2.2.2
  refine lv_aload_n hx hb dX9_stuck_0 rfl (lv_at hl 0 rfl) ?_
  refine g_get (C := RX9) (T := TX9) (N := 11) (ci := 8) (v := .int (iI (σ 0 10))) hx hb hts in_X9_stuck_X9 hown hK hI 0 (by decide) (cel_0 cy ad _) rfl 10 (by decide) (by decide +kernel) rfl dX9_stuck_1 ?_
  have b_1 := bd_0_10 hF
  have e9 : f_X9_stuck σ = σ 0 10 := by rw [f_X9_stuck]
  exact g_iret (z := σ 0 10) hx hb hr hK hN hlocks hI e9.symm rfl trivial dX9_stuck_4
theorem in_X9_link_X9 : ∀ w ∈ u_ws RX9 TX9 11, w ∈ wsX9_link := by decide +kernel
def f_X9_link (σ : Sg) (a0 : Int) : Int × Sg := (if ((f_X9_takePlace σ a0).1) = 0 then ((-1), (f_X9_takePlace σ a0).2) else (if (f_X1_isFull (f_X9_takePlace σ a0).2) = 0 then ((f_X1_add (f_X9_takePlace σ a0).2 57).1, (f_X1_add (f_X9_takePlace σ a0).2 57).2) else ((-1), (f_X9_takePlace σ a0).2)))
theorem hd_X9_link : yX9_link.cls = RX9 ∧ yX9_link.cls ≠ "java/lang/invoke/MethodHandle" ∧ yX9_link.cls ≠ "java/lang/invoke/VarHandle" ∧ (parseMethodDescriptor yX9_link.desc).map (fun d => d.parameters.length) = some 1 := by decide +kernel
set_option maxHeartbeats 4000000 in
set_option maxRecDepth 100000 in
theorem c_X9_link (l : Launch) (D : va_G) (cy : Nat → ClassId) (ad : Nat → Nat) (σ : Sg) (a0 : Int) (ha0 : (-2147483648 ≤ a0 ∧ a0 < 2147483648)) : CM l D cy ad yX9_link wsX9_link { frames := 4, cells := 0, slots := 0, locals := 160 } [.ref (ad 0), .int (iI a0)] σ (some (.int (iI ((f_X9_link σ a0).1)))) ((f_X9_link σ a0).2) (True) := by
  refine CM.of (cc := cX9_link) (maxL := 2) (ret := (some .int)) (by decide) rfl (Nat.le_of_ble_eq_true rfl) ?_
  intro p e s m args below meth c₀ ls X hI hl
  have hl : lv_has ls 2 [(0, .ref (ad 0)), (1, .int (iI a0))] := hl
  obtain ⟨hx, hb, hr, hml, hown, hts, hlocks, hK, hN⟩ := id X
  have hF := hI.2.2.2
  refine lv_aload_n hx hb dX9_link_0 rfl (lv_at hl 0 rfl) ?_
  refine lv_iload_n hx hb dX9_link_1 rfl (lv_at hl 1 rfl) ?_
  refine g_V (As := [.int (iI a0)]) (rest := []) 0 (c_X9_takePlace l D cy ad σ a0 (by omega)) hx hb hml hown hts hK hN hI hl.1 gX9_link_X9_takePlace rfl hd_X9_takePlace rfl rfl ⟨Nat.le_of_ble_eq_true rfl, Nat.le_of_ble_eq_true rfl⟩ ⟨Nat.zero_le _, Nat.zero_le _⟩ (by decide) (cel_0 cy ad _) rfl rfl rfl rfl (Nat.le_of_ble_eq_true rfl) dX9_link_2 (fun H locs hG_1 hI => ?_)
  have hF_2 := hI.2.2.2
  refine g_if_eq (tgt := 32) hx hb dX9_link_5 (by decide) (by omega) (fun c_3 => ?_) (fun c_3 => ?_)
  · skip
    refine lv_iconst (v := iI (-1)) hx hb dX9_link_32 rfl ?_
    have e9 : f_X9_link σ a0 = ((-1), (f_X9_takePlace σ a0).2) := by rw [f_X9_link, if_pos c_3]
    exact g_iret (z := (-1)) hx hb hr hK hN hlocks hI (by rw [e9]) (by rw [e9]) trivial dX9_link_33
  · skip
    refine lv_aload_n hx hb dX9_link_8 rfl (lv_at hl 0 rfl) ?_
    refine g_get (C := RX9) (T := TX9) (N := 11) (ci := 8) (v := .ref (ad 7)) hx hb hts in_X9_link_X9 hown hK hI 0 (by decide) (cel_0 cy ad _) rfl 3 (by decide) (by decide +kernel) rfl dX9_link_9 ?_
    refine g_V (As := []) (rest := []) 7 (c_X1_isFull l D cy ad (f_X9_takePlace σ a0).2 ) hx hb hml hown hts hK hN hI hl.1 gX9_link_X1_isFull rfl hd_X1_isFull rfl rfl ⟨Nat.le_of_ble_eq_true rfl, Nat.le_of_ble_eq_true rfl⟩ ⟨Nat.zero_le _, Nat.zero_le _⟩ (by decide) (cel_7 cy ad _) rfl rfl rfl rfl (Nat.le_of_ble_eq_true rfl) dX9_link_12 (fun H locs hG_4 hI => ?_)
    refine g_if_ne (tgt := 32) hx hb dX9_link_15 (by decide) (by omega) (fun c_5 => ?_) (fun c_5 => ?_)
    · skip
      refine lv_iconst (v := iI (-1)) hx hb dX9_link_32 rfl ?_
      have e9 : f_X9_link σ a0 = ((-1), (f_X9_takePlace σ a0).2) := by rw [f_X9_link, if_neg c_3, if_neg c_5]
      exact g_iret (z := (-1)) hx hb hr hK hN hlocks hI (by rw [e9]) (by rw [e9]) trivial dX9_link_33
    · skip
      refine lv_aload_n hx hb dX9_link_18 rfl (lv_at hl 0 rfl) ?_
      refine g_get (C := RX9) (T := TX9) (N := 11) (ci := 8) (v := .ref (ad 7)) hx hb hts in_X9_link_X9 hown hK hI 0 (by decide) (cel_0 cy ad _) rfl 3 (by decide) (by decide +kernel) rfl dX9_link_19 ?_
      refine lv_aload_n hx hb dX9_link_22 rfl (lv_at hl 0 rfl) ?_
      refine g_get (C := RX9) (T := TX9) (N := 11) (ci := 8) (v := .ref (ad 57)) hx hb hts in_X9_link_X9 hown hK hI 0 (by decide) (cel_0 cy ad _) rfl 1 (by decide) (by decide +kernel) rfl dX9_link_23 ?_
      refine g_V (As := [.ref (ad 57)]) (rest := []) 7 (c_X1_add l D cy ad (f_X9_takePlace σ a0).2 57 (by omega : isPl 57) (by omega)) hx hb hml hown hts hK hN hI hl.1 gX9_link_X1_add rfl hd_X1_add rfl rfl ⟨Nat.le_of_ble_eq_true rfl, Nat.le_of_ble_eq_true rfl⟩ ⟨Nat.zero_le _, Nat.zero_le _⟩ (by decide) (cel_7 cy ad _) rfl rfl rfl rfl (Nat.le_of_ble_eq_true rfl) dX9_link_26 (fun H locs hG_6 hI => ?_)
      have hF_7 := hI.2.2.2
      refine lv_goto (tgt := 33) hx hb dX9_link_29 (by decide) ?_
      have e9 : f_X9_link σ a0 = ((f_X1_add (f_X9_takePlace σ a0).2 57).1, (f_X1_add (f_X9_takePlace σ a0).2 57).2) := by rw [f_X9_link, if_neg c_3, if_pos c_5]
      exact g_iret (z := (f_X1_add (f_X9_takePlace σ a0).2 57).1) hx hb hr hK hN hlocks hI (by rw [e9]) (by rw [e9]) trivial dX9_link_33
theorem in_X9_linkOf_X2 : ∀ w ∈ u_ws RX2 TX2 3, w ∈ wsX9_linkOf := by decide +kernel
theorem in_X9_linkOf_X9 : ∀ w ∈ u_ws RX9 TX9 11, w ∈ wsX9_linkOf := by decide +kernel
def f_X9_linkOf (σ : Sg) (a0 : Int) (a1 : Int) : Int := (if (f_X1_has σ a0) = 0 then (-1) else (if a1 = 0 then σ (f_X1_get σ a0) 1 else (if a1 = 1 then f_X7_findJust σ (f_X1_get σ a0) else (if a1 = 2 then σ (f_X1_get σ a0) 2 else (if a1 < 10 then (-1) else f_X2_byteAt σ (f_X1_get σ a0) (a1 - 10))))))
theorem hd_X9_linkOf : yX9_linkOf.cls = RX9 ∧ yX9_linkOf.cls ≠ "java/lang/invoke/MethodHandle" ∧ yX9_linkOf.cls ≠ "java/lang/invoke/VarHandle" ∧ (parseMethodDescriptor yX9_linkOf.desc).map (fun d => d.parameters.length) = some 2 := by decide +kernel
set_option maxHeartbeats 4000000 in
set_option maxRecDepth 100000 in
theorem c_X9_linkOf (l : Launch) (D : va_G) (cy : Nat → ClassId) (ad : Nat → Nat) (σ : Sg) (a0 : Int) (ha0 : (-2147483648 ≤ a0 ∧ a0 < 2147483648)) (a1 : Int) (ha1 : (-2147483648 ≤ a1 ∧ a1 < 2147483648)) : CM l D cy ad yX9_linkOf wsX9_linkOf { frames := 4, cells := 0, slots := 0, locals := 160 } [.ref (ad 0), .int (iI a0), .int (iI a1)] σ (some (.int (iI (f_X9_linkOf σ a0 a1)))) σ (True) := by
  refine CM.of (cc := cX9_linkOf) (maxL := 4) (ret := (some .int)) (by decide) rfl (Nat.le_of_ble_eq_true rfl) ?_
  intro p e s m args below meth c₀ ls X hI hl
  have hl : lv_has ls 4 [(0, .ref (ad 0)), (1, .int (iI a0)), (2, .int (iI a1))] := hl
  obtain ⟨hx, hb, hr, hml, hown, hts, hlocks, hK, hN⟩ := id X
  have hF := hI.2.2.2
  refine lv_aload_n hx hb dX9_linkOf_0 rfl (lv_at hl 0 rfl) ?_
  refine g_get (C := RX9) (T := TX9) (N := 11) (ci := 8) (v := .ref (ad 7)) hx hb hts in_X9_linkOf_X9 hown hK hI 0 (by decide) (cel_0 cy ad _) rfl 3 (by decide) (by decide +kernel) rfl dX9_linkOf_1 ?_
  refine lv_iload_n hx hb dX9_linkOf_4 rfl (lv_at hl 1 rfl) ?_
  refine g_V (As := [.int (iI a0)]) (rest := []) 7 (c_X1_has l D cy ad σ a0 (by omega)) hx hb hml hown hts hK hN hI hl.1 gX9_linkOf_X1_has rfl hd_X1_has rfl rfl ⟨Nat.le_of_ble_eq_true rfl, Nat.le_of_ble_eq_true rfl⟩ ⟨Nat.zero_le _, Nat.zero_le _⟩ (by decide) (cel_7 cy ad _) rfl rfl rfl rfl (Nat.le_of_ble_eq_true rfl) dX9_linkOf_5 (fun H locs hG_1 hI => ?_)
  refine g_if_ne (tgt := 13) hx hb dX9_linkOf_8 (by decide) (by omega) (fun c_2 => ?_) (fun c_2 => ?_)
  · skip
    refine lv_aload_n hx hb dX9_linkOf_13 rfl (lv_at hl 0 rfl) ?_
    refine g_get (C := RX9) (T := TX9) (N := 11) (ci := 8) (v := .ref (ad 7)) hx hb hts in_X9_linkOf_X9 hown hK hI 0 (by decide) (cel_0 cy ad _) rfl 3 (by decide) (by decide +kernel) rfl dX9_linkOf_14 ?_
    refine lv_iload_n hx hb dX9_linkOf_17 rfl (lv_at hl 1 rfl) ?_
    refine g_V (As := [.int (iI a0)]) (rest := []) 7 (c_X1_get l D cy ad σ a0 (by omega)) hx hb hml hown hts hK hN hI hl.1 gX9_linkOf_X1_get rfl hd_X1_get rfl rfl ⟨Nat.le_of_ble_eq_true rfl, Nat.le_of_ble_eq_true rfl⟩ ⟨Nat.zero_le _, Nat.zero_le _⟩ (by decide) (cel_7 cy ad _) rfl rfl rfl rfl (Nat.le_of_ble_eq_true rfl) dX9_linkOf_18 (fun H locs hG_3 hI => ?_)
    refine lv_astore_n (lv' := [(3, .ref (ad (f_X1_get σ a0))), (0, .ref (ad 0)), (1, .int (iI a0)), (2, .int (iI a1))]) hx hb dX9_linkOf_21 rfl hl (by decide) rfl (fun ls hl => ?_)
    refine lv_iload_n hx hb dX9_linkOf_22 rfl (lv_at hl 3 rfl) ?_
    by_cases c_4 : a1 = 0
    · refine g_tsw (tgt := 48) (off := 25) hx hb dX9_linkOf_23 (by omega) (by omega) (by rw [c_4]; rfl) (by decide) ?_
      refine lv_aload_n hx hb dX9_linkOf_48 rfl (lv_at hl 0 rfl) ?_
      refine g_getN (C := RX2) (T := TX2) (N := 3) (ci := 2) (v := .int (iI (σ (f_X1_get σ a0) 1))) hx hb hts in_X9_linkOf_X2 hown hK hN hI (f_X1_get σ a0) (by have q := hG_3; omega) (cel_Pl cy ad hG_3 _) rfl 1 (by decide) (by decide +kernel) rfl dX9_linkOf_49 ?_
      have b_5 := bd_Pl_1 hF hG_3
      have e9 : f_X9_linkOf σ a0 a1 = σ (f_X1_get σ a0) 1 := by rw [f_X9_linkOf, if_neg c_2, if_pos c_4]
      exact g_iret (z := σ (f_X1_get σ a0) 1) hx hb hr hK hN hlocks hI e9.symm rfl trivial dX9_linkOf_52
    · skip
      by_cases c_6 : a1 = 1
      · refine g_tsw (tgt := 53) (off := 30) hx hb dX9_linkOf_23 (by omega) (by omega) (by rw [c_6]; rfl) (by decide) ?_
        refine lv_aload_n hx hb dX9_linkOf_53 rfl (lv_at hl 1 rfl) ?_
        refine g_get (C := RX9) (T := TX9) (N := 11) (ci := 8) (v := .ref (ad 3)) hx hb hts in_X9_linkOf_X9 hown hK hI 0 (by decide) (cel_0 cy ad _) rfl 2 (by decide) (by decide +kernel) rfl dX9_linkOf_54 ?_
        refine lv_aload_n hx hb dX9_linkOf_57 rfl (lv_at hl 0 rfl) ?_
        refine g_V (As := [.ref (ad (f_X1_get σ a0))]) (rest := []) 3 (c_X7_findJust l D cy ad σ (f_X1_get σ a0) hG_3) hx hb hml hown hts hK hN hI hl.1 gX9_linkOf_X7_findJust rfl hd_X7_findJust rfl rfl ⟨Nat.le_of_ble_eq_true rfl, Nat.le_of_ble_eq_true rfl⟩ ⟨Nat.zero_le _, Nat.zero_le _⟩ (by decide) (cel_3 cy ad _) rfl rfl rfl rfl (Nat.le_of_ble_eq_true rfl) dX9_linkOf_58 (fun H locs hG_7 hI => ?_)
        have e9 : f_X9_linkOf σ a0 a1 = f_X7_findJust σ (f_X1_get σ a0) := by rw [f_X9_linkOf, if_neg c_2, if_neg c_4, if_pos c_6]
        exact g_iret (z := f_X7_findJust σ (f_X1_get σ a0)) hx hb hr hK hN hlocks hI e9.symm rfl trivial dX9_linkOf_61
      · skip
        by_cases c_8 : a1 = 2
        · refine g_tsw (tgt := 62) (off := 39) hx hb dX9_linkOf_23 (by omega) (by omega) (by rw [c_8]; rfl) (by decide) ?_
          refine lv_aload_n hx hb dX9_linkOf_62 rfl (lv_at hl 0 rfl) ?_
          refine g_getN (C := RX2) (T := TX2) (N := 3) (ci := 2) (v := .int (iI (σ (f_X1_get σ a0) 2))) hx hb hts in_X9_linkOf_X2 hown hK hN hI (f_X1_get σ a0) (by have q := hG_3; omega) (cel_Pl cy ad hG_3 _) rfl 2 (by decide) (by decide +kernel) rfl dX9_linkOf_63 ?_
          have b_9 := bd_Pl_2 hF hG_3
          have e9 : f_X9_linkOf σ a0 a1 = σ (f_X1_get σ a0) 2 := by rw [f_X9_linkOf, if_neg c_2, if_neg c_4, if_neg c_6, if_pos c_8]
          exact g_iret (z := σ (f_X1_get σ a0) 2) hx hb hr hK hN hlocks hI e9.symm rfl trivial dX9_linkOf_66
        · skip
          refine g_tswD (tgt := 67) hx hb dX9_linkOf_23 (by omega) (by omega) (by decide) ?_
          refine lv_iload_n hx hb dX9_linkOf_67 rfl (lv_at hl 3 rfl) ?_
          refine lv_bipush (v := iI 10) hx hb dX9_linkOf_68 (iI_bip (by decide)) ?_
          refine g_icmp_lt (tgt := 84) hx hb dX9_linkOf_70 (by decide) (by omega) (by omega) (fun c_10 => ?_) (fun c_10 => ?_)
          · skip
            refine lv_iconst (v := iI (-1)) hx hb dX9_linkOf_84 rfl ?_
            have e9 : f_X9_linkOf σ a0 a1 = (-1) := by rw [f_X9_linkOf, if_neg c_2, if_neg c_4, if_neg c_6, if_neg c_8, if_pos c_10]
            exact g_iret (z := (-1)) hx hb hr hK hN hlocks hI e9.symm rfl trivial dX9_linkOf_85
          · skip
            refine lv_aload_n hx hb dX9_linkOf_73 rfl (lv_at hl 0 rfl) ?_
            refine lv_iload_n hx hb dX9_linkOf_74 rfl (lv_at hl 3 rfl) ?_
            refine lv_bipush (v := iI 10) hx hb dX9_linkOf_75 (iI_bip (by decide)) ?_
            refine g_isub hx hb dX9_linkOf_77 ?_
            refine g_V (As := [.int (iI (a1 - 10))]) (rest := []) (f_X1_get σ a0) (c_X2_byteAt l D cy ad σ (f_X1_get σ a0) hG_3 (a1 - 10) (by omega)) hx hb hml hown hts hK hN hI hl.1 gX9_linkOf_X2_byteAt rfl hd_X2_byteAt rfl rfl ⟨Nat.le_of_ble_eq_true rfl, Nat.le_of_ble_eq_true rfl⟩ ⟨Nat.zero_le _, Nat.zero_le _⟩ (by have q := hG_3; omega) (cel_Pl cy ad hG_3 _) rfl rfl rfl rfl (Nat.le_of_ble_eq_true rfl) dX9_linkOf_78 (fun H locs hG_11 hI => ?_)
            refine lv_goto (tgt := 85) hx hb dX9_linkOf_81 (by decide) ?_
            have e9 : f_X9_linkOf σ a0 a1 = f_X2_byteAt σ (f_X1_get σ a0) (a1 - 10) := by rw [f_X9_linkOf, if_neg c_2, if_neg c_4, if_neg c_6, if_neg c_8, if_neg c_10]
            exact g_iret (z := f_X2_byteAt σ (f_X1_get σ a0) (a1 - 10)) hx hb hr hK hN hlocks hI e9.symm rfl trivial dX9_linkOf_85
  · skip
    refine lv_iconst (v := iI (-1)) hx hb dX9_linkOf_11 rfl ?_
    have e9 : f_X9_linkOf σ a0 a1 = (-1) := by rw [f_X9_linkOf, if_pos c_2]
    exact g_iret (z := (-1)) hx hb hr hK hN hlocks hI e9.symm rfl trivial dX9_linkOf_12
theorem in_X9_count_X9 : ∀ w ∈ u_ws RX9 TX9 11, w ∈ wsX9_count := by decide +kernel
def f_X9_count (σ : Sg) (a0 : Int) : Int := (if a0 = 0 then f_X7_howManyCame σ else (if a0 = 1 then f_X7_howManyAre σ else (if a0 = 2 then (if (f_X7_isFolding σ) = 0 then 0 else 1) else (if a0 = 3 then f_X8_length σ else (if a0 = 4 then f_X3_size σ else (if a0 = 5 then f_X3_troubles σ else (if a0 = 6 then f_X3_done σ else (if a0 = 7 then f_X1_size σ else (if a0 = 8 then (if (f_X3_isUnderWay σ) = 0 then 0 else 1) else (if a0 = 9 then f_X7_howManySpare σ else (-1)))))))))))
theorem hd_X9_count : yX9_count.cls = RX9 ∧ yX9_count.cls ≠ "java/lang/invoke/MethodHandle" ∧ yX9_count.cls ≠ "java/lang/invoke/VarHandle" ∧ (parseMethodDescriptor yX9_count.desc).map (fun d => d.parameters.length) = some 1 := by decide +kernel
set_option maxHeartbeats 4000000 in
set_option maxRecDepth 100000 in
theorem c_X9_count (l : Launch) (D : va_G) (cy : Nat → ClassId) (ad : Nat → Nat) (σ : Sg) (a0 : Int) (ha0 : (-2147483648 ≤ a0 ∧ a0 < 2147483648)) : CM l D cy ad yX9_count wsX9_count { frames := 3, cells := 0, slots := 0, locals := 120 } [.ref (ad 0), .int (iI a0)] σ (some (.int (iI (f_X9_count σ a0)))) σ (True) := by
  refine CM.of (cc := cX9_count) (maxL := 2) (ret := (some .int)) (by decide) rfl (Nat.le_of_ble_eq_true rfl) ?_
  intro p e s m args below meth c₀ ls X hI hl
  have hl : lv_has ls 2 [(0, .ref (ad 0)), (1, .int (iI a0))] := hl
  obtain ⟨hx, hb, hr, hml, hown, hts, hlocks, hK, hN⟩ := id X
  have hF := hI.2.2.2
  refine lv_iload_n hx hb dX9_count_0 rfl (lv_at hl 1 rfl) ?_
  by_cases c_1 : a0 = 0
  · refine g_tsw (tgt := 56) (off := 55) hx hb dX9_count_1 (by omega) (by omega) (by rw [c_1]; rfl) (by decide) ?_
    refine lv_aload_n hx hb dX9_count_56 rfl (lv_at hl 0 rfl) ?_
    refine g_get (C := RX9) (T := TX9) (N := 11) (ci := 8) (v := .ref (ad 3)) hx hb hts in_X9_count_X9 hown hK hI 0 (by decide) (cel_0 cy ad _) rfl 2 (by decide) (by decide +kernel) rfl dX9_count_57 ?_
    refine g_V (As := []) (rest := []) 3 (c_X7_howManyCame l D cy ad σ ) hx hb hml hown hts hK hN hI hl.1 gX9_count_X7_howManyCame rfl hd_X7_howManyCame rfl rfl ⟨Nat.le_of_ble_eq_true rfl, Nat.le_of_ble_eq_true rfl⟩ ⟨Nat.zero_le _, Nat.zero_le _⟩ (by decide) (cel_3 cy ad _) rfl rfl rfl rfl (Nat.le_of_ble_eq_true rfl) dX9_count_60 (fun H locs hG_2 hI => ?_)
    have e9 : f_X9_count σ a0 = f_X7_howManyCame σ := by rw [f_X9_count, if_pos c_1]
    exact g_iret (z := f_X7_howManyCame σ) hx hb hr hK hN hlocks hI e9.symm rfl trivial dX9_count_63
  · skip
    by_cases c_3 : a0 = 1
    · refine g_tsw (tgt := 64) (off := 63) hx hb dX9_count_1 (by omega) (by omega) (by rw [c_3]; rfl) (by decide) ?_
      refine lv_aload_n hx hb dX9_count_64 rfl (lv_at hl 0 rfl) ?_
      refine g_get (C := RX9) (T := TX9) (N := 11) (ci := 8) (v := .ref (ad 3)) hx hb hts in_X9_count_X9 hown hK hI 0 (by decide) (cel_0 cy ad _) rfl 2 (by decide) (by decide +kernel) rfl dX9_count_65 ?_
      refine g_V (As := []) (rest := []) 3 (c_X7_howManyAre l D cy ad σ ) hx hb hml hown hts hK hN hI hl.1 gX9_count_X7_howManyAre rfl hd_X7_howManyAre rfl rfl ⟨Nat.le_of_ble_eq_true rfl, Nat.le_of_ble_eq_true rfl⟩ ⟨Nat.zero_le _, Nat.zero_le _⟩ (by decide) (cel_3 cy ad _) rfl rfl rfl rfl (Nat.le_of_ble_eq_true rfl) dX9_count_68 (fun H locs hG_4 hI => ?_)
      have e9 : f_X9_count σ a0 = f_X7_howManyAre σ := by rw [f_X9_count, if_neg c_1, if_pos c_3]
      exact g_iret (z := f_X7_howManyAre σ) hx hb hr hK hN hlocks hI e9.symm rfl trivial dX9_count_71
    · skip
      by_cases c_5 : a0 = 2
      · refine g_tsw (tgt := 72) (off := 71) hx hb dX9_count_1 (by omega) (by omega) (by rw [c_5]; rfl) (by decide) ?_
        refine lv_aload_n hx hb dX9_count_72 rfl (lv_at hl 0 rfl) ?_
        refine g_get (C := RX9) (T := TX9) (N := 11) (ci := 8) (v := .ref (ad 3)) hx hb hts in_X9_count_X9 hown hK hI 0 (by decide) (cel_0 cy ad _) rfl 2 (by decide) (by decide +kernel) rfl dX9_count_73 ?_
        refine g_V (As := []) (rest := []) 3 (c_X7_isFolding l D cy ad σ ) hx hb hml hown hts hK hN hI hl.1 gX9_count_X7_isFolding rfl hd_X7_isFolding rfl rfl ⟨Nat.le_of_ble_eq_true rfl, Nat.le_of_ble_eq_true rfl⟩ ⟨Nat.zero_le _, Nat.zero_le _⟩ (by decide) (cel_3 cy ad _) rfl rfl rfl rfl (Nat.le_of_ble_eq_true rfl) dX9_count_76 (fun H locs hG_6 hI => ?_)
        refine g_if_eq (tgt := 86) hx hb dX9_count_79 (by decide) (by omega) (fun c_7 => ?_) (fun c_7 => ?_)
        · skip
          refine lv_iconst (v := iI 0) hx hb dX9_count_86 rfl ?_
          have e9 : f_X9_count σ a0 = 0 := by rw [f_X9_count, if_neg c_1, if_neg c_3, if_pos c_5, if_pos c_7]
          exact g_iret (z := 0) hx hb hr hK hN hlocks hI e9.symm rfl trivial dX9_count_87
        · skip
          refine lv_iconst (v := iI 1) hx hb dX9_count_82 rfl ?_
          refine lv_goto (tgt := 87) hx hb dX9_count_83 (by decide) ?_
          have e9 : f_X9_count σ a0 = 1 := by rw [f_X9_count, if_neg c_1, if_neg c_3, if_pos c_5, if_neg c_7]
          exact g_iret (z := 1) hx hb hr hK hN hlocks hI e9.symm rfl trivial dX9_count_87
      · skip
        by_cases c_8 : a0 = 3
        · refine g_tsw (tgt := 88) (off := 87) hx hb dX9_count_1 (by omega) (by omega) (by rw [c_8]; rfl) (by decide) ?_
          refine lv_aload_n hx hb dX9_count_88 rfl (lv_at hl 0 rfl) ?_
          refine g_get (C := RX9) (T := TX9) (N := 11) (ci := 8) (v := .ref (ad 1)) hx hb hts in_X9_count_X9 hown hK hI 0 (by decide) (cel_0 cy ad _) rfl 0 (by decide) (by decide +kernel) rfl dX9_count_89 ?_
          refine g_V (As := []) (rest := []) 1 (c_X8_length l D cy ad σ ) hx hb hml hown hts hK hN hI hl.1 gX9_count_X8_length rfl hd_X8_length rfl rfl ⟨Nat.le_of_ble_eq_true rfl, Nat.le_of_ble_eq_true rfl⟩ ⟨Nat.zero_le _, Nat.zero_le _⟩ (by decide) (cel_1 cy ad _) rfl rfl rfl rfl (Nat.le_of_ble_eq_true rfl) dX9_count_92 (fun H locs hG_9 hI => ?_)
          have e9 : f_X9_count σ a0 = f_X8_length σ := by rw [f_X9_count, if_neg c_1, if_neg c_3, if_neg c_5, if_pos c_8]
          exact g_iret (z := f_X8_length σ) hx hb hr hK hN hlocks hI e9.symm rfl trivial dX9_count_95
        · skip
          by_cases c_10 : a0 = 4
          · refine g_tsw (tgt := 96) (off := 95) hx hb dX9_count_1 (by omega) (by omega) (by rw [c_10]; rfl) (by decide) ?_
            refine lv_aload_n hx hb dX9_count_96 rfl (lv_at hl 0 rfl) ?_
            refine g_get (C := RX9) (T := TX9) (N := 11) (ci := 8) (v := .ref (ad 13)) hx hb hts in_X9_count_X9 hown hK hI 0 (by decide) (cel_0 cy ad _) rfl 5 (by decide) (by decide +kernel) rfl dX9_count_97 ?_
            refine g_V (As := []) (rest := []) 13 (c_X3_size l D cy ad σ ) hx hb hml hown hts hK hN hI hl.1 gX9_count_X3_size rfl hd_X3_size rfl rfl ⟨Nat.le_of_ble_eq_true rfl, Nat.le_of_ble_eq_true rfl⟩ ⟨Nat.zero_le _, Nat.zero_le _⟩ (by decide) (cel_13 cy ad _) rfl rfl rfl rfl (Nat.le_of_ble_eq_true rfl) dX9_count_100 (fun H locs hG_11 hI => ?_)
            have e9 : f_X9_count σ a0 = f_X3_size σ := by rw [f_X9_count, if_neg c_1, if_neg c_3, if_neg c_5, if_neg c_8, if_pos c_10]
            exact g_iret (z := f_X3_size σ) hx hb hr hK hN hlocks hI e9.symm rfl trivial dX9_count_103
          · skip
            by_cases c_12 : a0 = 5
            · refine g_tsw (tgt := 104) (off := 103) hx hb dX9_count_1 (by omega) (by omega) (by rw [c_12]; rfl) (by decide) ?_
              refine lv_aload_n hx hb dX9_count_104 rfl (lv_at hl 0 rfl) ?_
              refine g_get (C := RX9) (T := TX9) (N := 11) (ci := 8) (v := .ref (ad 13)) hx hb hts in_X9_count_X9 hown hK hI 0 (by decide) (cel_0 cy ad _) rfl 5 (by decide) (by decide +kernel) rfl dX9_count_105 ?_
              refine g_V (As := []) (rest := []) 13 (c_X3_troubles l D cy ad σ ) hx hb hml hown hts hK hN hI hl.1 gX9_count_X3_troubles rfl hd_X3_troubles rfl rfl ⟨Nat.le_of_ble_eq_true rfl, Nat.le_of_ble_eq_true rfl⟩ ⟨Nat.zero_le _, Nat.zero_le _⟩ (by decide) (cel_13 cy ad _) rfl rfl rfl rfl (Nat.le_of_ble_eq_true rfl) dX9_count_108 (fun H locs hG_13 hI => ?_)
              have e9 : f_X9_count σ a0 = f_X3_troubles σ := by rw [f_X9_count, if_neg c_1, if_neg c_3, if_neg c_5, if_neg c_8, if_neg c_10, if_pos c_12]
              exact g_iret (z := f_X3_troubles σ) hx hb hr hK hN hlocks hI e9.symm rfl trivial dX9_count_111
            · skip
              by_cases c_14 : a0 = 6
              · refine g_tsw (tgt := 112) (off := 111) hx hb dX9_count_1 (by omega) (by omega) (by rw [c_14]; rfl) (by decide) ?_
                refine lv_aload_n hx hb dX9_count_112 rfl (lv_at hl 0 rfl) ?_
                refine g_get (C := RX9) (T := TX9) (N := 11) (ci := 8) (v := .ref (ad 13)) hx hb hts in_X9_count_X9 hown hK hI 0 (by decide) (cel_0 cy ad _) rfl 5 (by decide) (by decide +kernel) rfl dX9_count_113 ?_
                refine g_V (As := []) (rest := []) 13 (c_X3_done l D cy ad σ ) hx hb hml hown hts hK hN hI hl.1 gX9_count_X3_done rfl hd_X3_done rfl rfl ⟨Nat.le_of_ble_eq_true rfl, Nat.le_of_ble_eq_true rfl⟩ ⟨Nat.zero_le _, Nat.zero_le _⟩ (by decide) (cel_13 cy ad _) rfl rfl rfl rfl (Nat.le_of_ble_eq_true rfl) dX9_count_116 (fun H locs hG_15 hI => ?_)
                have e9 : f_X9_count σ a0 = f_X3_done σ := by rw [f_X9_count, if_neg c_1, if_neg c_3, if_neg c_5, if_neg c_8, if_neg c_10, if_neg c_12, if_pos c_14]
                exact g_iret (z := f_X3_done σ) hx hb hr hK hN hlocks hI e9.symm rfl trivial dX9_count_119
              · skip
                by_cases c_16 : a0 = 7
                · refine g_tsw (tgt := 120) (off := 119) hx hb dX9_count_1 (by omega) (by omega) (by rw [c_16]; rfl) (by decide) ?_
                  refine lv_aload_n hx hb dX9_count_120 rfl (lv_at hl 0 rfl) ?_
                  refine g_get (C := RX9) (T := TX9) (N := 11) (ci := 8) (v := .ref (ad 7)) hx hb hts in_X9_count_X9 hown hK hI 0 (by decide) (cel_0 cy ad _) rfl 3 (by decide) (by decide +kernel) rfl dX9_count_121 ?_
                  refine g_V (As := []) (rest := []) 7 (c_X1_size l D cy ad σ ) hx hb hml hown hts hK hN hI hl.1 gX9_count_X1_size rfl hd_X1_size rfl rfl ⟨Nat.le_of_ble_eq_true rfl, Nat.le_of_ble_eq_true rfl⟩ ⟨Nat.zero_le _, Nat.zero_le _⟩ (by decide) (cel_7 cy ad _) rfl rfl rfl rfl (Nat.le_of_ble_eq_true rfl) dX9_count_124 (fun H locs hG_17 hI => ?_)
                  have e9 : f_X9_count σ a0 = f_X1_size σ := by rw [f_X9_count, if_neg c_1, if_neg c_3, if_neg c_5, if_neg c_8, if_neg c_10, if_neg c_12, if_neg c_14, if_pos c_16]
                  exact g_iret (z := f_X1_size σ) hx hb hr hK hN hlocks hI e9.symm rfl trivial dX9_count_127
                · skip
                  by_cases c_18 : a0 = 8
                  · refine g_tsw (tgt := 128) (off := 127) hx hb dX9_count_1 (by omega) (by omega) (by rw [c_18]; rfl) (by decide) ?_
                    refine lv_aload_n hx hb dX9_count_128 rfl (lv_at hl 0 rfl) ?_
                    refine g_get (C := RX9) (T := TX9) (N := 11) (ci := 8) (v := .ref (ad 13)) hx hb hts in_X9_count_X9 hown hK hI 0 (by decide) (cel_0 cy ad _) rfl 5 (by decide) (by decide +kernel) rfl dX9_count_129 ?_
                    refine g_V (As := []) (rest := []) 13 (c_X3_isUnderWay l D cy ad σ ) hx hb hml hown hts hK hN hI hl.1 gX9_count_X3_isUnderWay rfl hd_X3_isUnderWay rfl rfl ⟨Nat.le_of_ble_eq_true rfl, Nat.le_of_ble_eq_true rfl⟩ ⟨Nat.zero_le _, Nat.zero_le _⟩ (by decide) (cel_13 cy ad _) rfl rfl rfl rfl (Nat.le_of_ble_eq_true rfl) dX9_count_132 (fun H locs hG_19 hI => ?_)
                    refine g_if_eq (tgt := 142) hx hb dX9_count_135 (by decide) (by omega) (fun c_20 => ?_) (fun c_20 => ?_)
                    · skip
                      refine lv_iconst (v := iI 0) hx hb dX9_count_142 rfl ?_
                      have e9 : f_X9_count σ a0 = 0 := by rw [f_X9_count, if_neg c_1, if_neg c_3, if_neg c_5, if_neg c_8, if_neg c_10, if_neg c_12, if_neg c_14, if_neg c_16, if_pos c_18, if_pos c_20]
                      exact g_iret (z := 0) hx hb hr hK hN hlocks hI e9.symm rfl trivial dX9_count_143
                    · skip
                      refine lv_iconst (v := iI 1) hx hb dX9_count_138 rfl ?_
                      refine lv_goto (tgt := 143) hx hb dX9_count_139 (by decide) ?_
                      have e9 : f_X9_count σ a0 = 1 := by rw [f_X9_count, if_neg c_1, if_neg c_3, if_neg c_5, if_neg c_8, if_neg c_10, if_neg c_12, if_neg c_14, if_neg c_16, if_pos c_18, if_neg c_20]
                      exact g_iret (z := 1) hx hb hr hK hN hlocks hI e9.symm rfl trivial dX9_count_143
                  · skip
                    by_cases c_21 : a0 = 9
                    · refine g_tsw (tgt := 144) (off := 143) hx hb dX9_count_1 (by omega) (by omega) (by rw [c_21]; rfl) (by decide) ?_
                      refine lv_aload_n hx hb dX9_count_144 rfl (lv_at hl 0 rfl) ?_
                      refine g_get (C := RX9) (T := TX9) (N := 11) (ci := 8) (v := .ref (ad 3)) hx hb hts in_X9_count_X9 hown hK hI 0 (by decide) (cel_0 cy ad _) rfl 2 (by decide) (by decide +kernel) rfl dX9_count_145 ?_
                      refine g_V (As := []) (rest := []) 3 (c_X7_howManySpare l D cy ad σ ) hx hb hml hown hts hK hN hI hl.1 gX9_count_X7_howManySpare rfl hd_X7_howManySpare rfl rfl ⟨Nat.le_of_ble_eq_true rfl, Nat.le_of_ble_eq_true rfl⟩ ⟨Nat.zero_le _, Nat.zero_le _⟩ (by decide) (cel_3 cy ad _) rfl rfl rfl rfl (Nat.le_of_ble_eq_true rfl) dX9_count_148 (fun H locs hG_22 hI => ?_)
                      have e9 : f_X9_count σ a0 = f_X7_howManySpare σ := by rw [f_X9_count, if_neg c_1, if_neg c_3, if_neg c_5, if_neg c_8, if_neg c_10, if_neg c_12, if_neg c_14, if_neg c_16, if_neg c_18, if_pos c_21]
                      exact g_iret (z := f_X7_howManySpare σ) hx hb hr hK hN hlocks hI e9.symm rfl trivial dX9_count_151
                    · skip
                      refine g_tswD (tgt := 152) hx hb dX9_count_1 (by omega) (by omega) (by decide) ?_
                      refine lv_iconst (v := iI (-1)) hx hb dX9_count_152 rfl ?_
                      have e9 : f_X9_count σ a0 = (-1) := by rw [f_X9_count, if_neg c_1, if_neg c_3, if_neg c_5, if_neg c_8, if_neg c_10, if_neg c_12, if_neg c_14, if_neg c_16, if_neg c_18, if_neg c_21]
                      exact g_iret (z := (-1)) hx hb hr hK hN hlocks hI e9.symm rfl trivial dX9_count_153
