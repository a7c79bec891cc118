theorem in_X10_isFit_X10 : ∀ w ∈ u_ws RX10 TX10 44, w ∈ wsX10_isFit := by decide +kernel
def L_X10_isFit_2 (a0 : Int) : Nat → Int → Sg → Sg
  | 0, x2, σ => (σ)
  | n + 1, x2, σ => (if 169 ≤ x2 then σ else L_X10_isFit_2 a0 n (x2 + 1) (up2 σ 41 x2.toNat 0))
set_option maxHeartbeats 4000000 in
set_option maxRecDepth 100000 in
theorem w_L_X10_isFit_2 {p : Program} {l : Launch} {e : Env} {s : State} {m : MethodId} {args : Array Value} {below : List Frame} {meth : Method} {c₀ : Code} {D : va_G} {cy : Nat → ClassId} {ad : Nat → Nat} {Q : State → Prop} (X : MX p s m args meth c₀ cX10_isFit 3 RX10 (some .boolean) wsX10_isFit D cy) (a0 : Int) (ha0 : (0 : Int) ≤ a0 ∧ a0 ≤ 159) : ∀ (n : Nat) (x2 : Int) (σ : Sg) (hx2 : (0 : Int) ≤ x2 ∧ x2 ≤ 169) (hmu : 169 - x2 < (n : Int)) (H : Heap) (locs : List Loc) (ls : Array Slot) (hI : HI D cy ad s σ H locs) (hl : lv_has ls 3 [(0, .ref (ad 28)), (1, .int (iI a0)), (2, .int (iI x2))])  (hk : ∀ (H1 : Heap) (locs1 : List Loc) (ls1 : Array Slot), True → HI D cy ad s (L_X10_isFit_2 a0 n x2 σ) H1 locs1 → lv_has ls1 3 [(0, .ref (ad 28)), (1, .int (iI a0))] → W p l e { frames := 26, cells := 0, slots := 0, locals := 1040 } s m args below meth c₀ H1 locs1 0 0 Q (F0 m 22 ls1 [])), W p l e { frames := 26, cells := 0, slots := 0, locals := 1040 } s m args below meth c₀ H locs 0 0 Q (F0 m 2 ls []) := by
  obtain ⟨hx, hb, hr, hml, hown, hts, hlocks, hK, hN⟩ := id X
  intro n
  induction n with
  | zero =>
    intro x2 σ hx2 hmu H locs ls hI hl hk
    exfalso
    have hF := hI.2.2.2
    omega
  | succ n ih =>
    intro x2 σ hx2 hmu H locs ls hI hl hk
    have hF := hI.2.2.2
    refine lv_iload_n hx hb dX10_isFit_2 rfl (lv_at hl 2 rfl) ?_
    refine lv_sipush (v := iI 169) hx hb dX10_isFit_3 (iI_sip (by decide)) ?_
    refine g_icmp_ge (tgt := 22) hx hb dX10_isFit_6 (by decide) (by omega) (by omega) (fun c_1 => ?_) (fun c_1 => ?_)
    · skip
      have e9 : L_X10_isFit_2 a0 (n + 1) x2 σ = σ := by rw [L_X10_isFit_2, if_pos c_1]
      rw [e9] at hk
      exact hk _ _ _ trivial hI (lv_sub hl [0, 1] rfl)
    · skip
      refine lv_aload_n hx hb dX10_isFit_9 rfl (lv_at hl 0 rfl) ?_
      refine g_get (C := RX10) (T := TX10) (N := 44) (ci := 9) (v := .ref (ad 41)) hx hb hts in_X10_isFit_X10 hown hK hI 28 (by decide) (cel_28 cy ad _) rfl 24 (by decide) (by decide +kernel) rfl dX10_isFit_10 ?_
      refine lv_iload_n hx hb dX10_isFit_13 rfl (lv_at hl 2 rfl) ?_
      refine lv_iconst (v := iI 0) hx hb dX10_isFit_14 rfl ?_
      refine g_zast hx hb hK hI 41 (by decide) (cel_41 cy ad) (by omega) (by decide) (by omega) (bw_41 (by omega)) dX10_isFit_15 (fun H locs hI => ?_)
      have hF_2 : WF (up2 σ 41 x2.toNat 0) := hI.2.2.2
      refine lv_iinc (v := iI (x2 + 1)) (lv' := [(2, .int (iI (x2 + 1))), (0, .ref (ad 28)), (1, .int (iI a0))]) hx hb dX10_isFit_16 hl (k := 2) rfl (iI_add _ _) (by decide) rfl (fun ls hl => ?_)
      refine lv_goto (tgt := 2) hx hb dX10_isFit_19 (by decide) ?_
      have e9 : L_X10_isFit_2 a0 (n + 1) x2 σ = L_X10_isFit_2 a0 n (x2 + 1) (up2 σ 41 x2.toNat 0) := by rw [L_X10_isFit_2, if_neg c_1]
      rw [e9] at hk
      exact ih (x2 + 1) (up2 σ 41 x2.toNat 0) (by omega) (by omega) _ _ _ hI (lv_sub hl [1, 2, 0] rfl) hk
def f_X10_isFit (σ : Sg) (a0 : Int) : Int × Sg := ((f_X10_goesT (L_X10_isFit_2 a0 170 0 σ) a0 0 0).1, (f_X10_goesT (L_X10_isFit_2 a0 170 0 σ) a0 0 0).2)
theorem hd_X10_isFit : yX10_isFit.cls = RX10 ∧ yX10_isFit.cls ≠ "java/lang/invoke/MethodHandle" ∧ yX10_isFit.cls ≠ "java/lang/invoke/VarHandle" ∧ (parseMethodDescriptor yX10_isFit.desc).map (fun d => d.parameters.length) = some 1 := by decide +kernel
set_option maxHeartbeats 4000000 in
set_option maxRecDepth 100000 in
theorem c_X10_isFit (l : Launch) (D : va_G) (cy : Nat → ClassId) (ad : Nat → Nat) (σ : Sg) (a0 : Int) (ha0 : (0 : Int) ≤ a0 ∧ a0 ≤ 159) : CM l D cy ad yX10_isFit wsX10_isFit { frames := 26, cells := 0, slots := 0, locals := 1040 } [.ref (ad 28), .int (iI a0)] σ (some (.int (iI ((f_X10_isFit σ a0).1)))) ((f_X10_isFit σ a0).2) ((0 ≤ (f_X10_isFit σ a0).1 ∧ (f_X10_isFit σ a0).1 ≤ 1)) := by
  refine CM.of (cc := cX10_isFit) (maxL := 3) (ret := (some .boolean)) (by decide) rfl (Nat.le_of_ble_eq_true rfl) ?_
  intro p e s m args below meth c₀ ls X hI hl
  have hl : lv_has ls 3 [(0, .ref (ad 28)), (1, .int (iI a0))] := hl
  obtain ⟨hx, hb, hr, hml, hown, hts, hlocks, hK, hN⟩ := id X
  have hF := hI.2.2.2
  refine lv_iconst (v := iI 0) hx hb dX10_isFit_0 rfl ?_
  refine lv_istore_n (lv' := [(2, .int (iI 0)), (0, .ref (ad 28)), (1, .int (iI a0))]) hx hb dX10_isFit_1 rfl hl (by decide) rfl (fun ls hl => ?_)
  refine w_L_X10_isFit_2 X  a0 ha0  170 0 σ (by omega) (by omega) _ _ _ hI (lv_sub hl [1, 2, 0] rfl) (fun H locs ls hpo_4 hI hl => ?_)
  have hF_3 := hI.2.2.2
  refine lv_aload_n hx hb dX10_isFit_22 rfl (lv_at hl 0 rfl) ?_
  refine lv_iload_n hx hb dX10_isFit_23 rfl (lv_at hl 1 rfl) ?_
  refine lv_iconst (v := iI 0) hx hb dX10_isFit_24 rfl ?_
  refine lv_iconst (v := iI 0) hx hb dX10_isFit_25 rfl ?_
  refine g_V (As := [.int (iI a0), .int (iI 0), .int (iI 0)]) (rest := []) 28 (c_X10_goesT l D cy ad (L_X10_isFit_2 a0 170 0 σ) a0 (by omega) 0 (by omega) 0 (by omega) ((L_X10_isFit_2 a0 170 0 σ) 28 10) ((L_X10_isFit_2 a0 170 0 σ) 30 a0.toNat) rfl rfl (by have q := bd_28_10 hI.2.2.2; omega) (by have q := bd_30 hI.2.2.2 a0.toNat; omega) (by have q := bd_28_10 hI.2.2.2; omega)) hx hb hml hown hts hK hN hI hl.1 gX10_isFit_X10_goes rfl hd_X10_goesH rfl rfl ⟨Nat.le_of_ble_eq_true rfl, Nat.le_of_ble_eq_true rfl⟩ ⟨Nat.zero_le _, Nat.zero_le _⟩ (by decide) (cel_28 cy ad _) rfl rfl rfl rfl (Nat.le_of_ble_eq_true rfl) dX10_isFit_26 (fun H locs hG_5 hI => ?_)
  have hF_6 := hI.2.2.2
  have e9 : f_X10_isFit σ a0 = ((f_X10_goesT (L_X10_isFit_2 a0 170 0 σ) a0 0 0).1, (f_X10_goesT (L_X10_isFit_2 a0 170 0 σ) a0 0 0).2) := by rw [f_X10_isFit]
  exact g_zret (z := (f_X10_goesT (L_X10_isFit_2 a0 170 0 σ) a0 0 0).1) hx hb hr hK hN hlocks hI (by rw [e9]) (by rw [e9]) (by rw [e9] <;> first | (omega) | (dsimp only; omega)) (by omega) dX10_isFit_29
theorem in_X10_fits_X10 : ∀ w ∈ u_ws RX10 TX10 44, w ∈ wsX10_fits := by decide +kernel
def f_X10_fits (σ : Sg) (a0 : Int) (a1 : Int) : Int × Sg := (if (f_X10_isFile (up2 σ 28 0 0) a0) = 0 then ((-1), (up2 σ 28 0 0)) else (if (σ 28 10) = 0 then ((-1), (up2 σ 28 0 0)) else (if a1 = 0 then (if ((f_X10_isFit (up2 σ 28 0 0) a0).1) = 0 then (0, (f_X10_isFit (up2 σ 28 0 0) a0).2) else (1, (f_X10_isFit (up2 σ 28 0 0) a0).2)) else (if ((f_X10_isFit (up2 σ 28 0 0) a0).1) = 0 then ((-1), (f_X10_isFit (up2 σ 28 0 0) a0).2) else (if a1 < 10 then (if a1 < 30 then ((-1), (f_X10_isFit (up2 σ 28 0 0) a0).2) else (if (30 + ((f_X10_isFit (up2 σ 28 0 0) a0).2 28 10)) ≤ a1 then ((-1), (f_X10_isFit (up2 σ 28 0 0) a0).2) else (f_X10_firstOf (f_X10_isFit (up2 σ 28 0 0) a0).2 (a1 - 30), (f_X10_isFit (up2 σ 28 0 0) a0).2))) else (if (10 + ((f_X10_isFit (up2 σ 28 0 0) a0).2 28 10)) ≤ a1 then (if a1 < 30 then ((-1), (f_X10_isFit (up2 σ 28 0 0) a0).2) else (if (30 + ((f_X10_isFit (up2 σ 28 0 0) a0).2 28 10)) ≤ a1 then ((-1), (f_X10_isFit (up2 σ 28 0 0) a0).2) else (f_X10_firstOf (f_X10_isFit (up2 σ 28 0 0) a0).2 (a1 - 30), (f_X10_isFit (up2 σ 28 0 0) a0).2))) else ((f_X10_isFit (up2 σ 28 0 0) a0).2 40 ((a1 - 10).toNat), (f_X10_isFit (up2 σ 28 0 0) a0).2)))))))
theorem hd_X10_fits : yX10_fits.cls = RX10 ∧ yX10_fits.cls ≠ "java/lang/invoke/MethodHandle" ∧ yX10_fits.cls ≠ "java/lang/invoke/VarHandle" ∧ (parseMethodDescriptor yX10_fits.desc).map (fun d => d.parameters.length) = some 2 := by decide +kernel
set_option maxHeartbeats 4000000 in
set_option maxRecDepth 100000 in
theorem c_X10_fits (l : Launch) (D : va_G) (cy : Nat → ClassId) (ad : Nat → Nat) (σ : Sg) (a0 : Int) (ha0 : (-2147483648 ≤ a0 ∧ a0 < 2147483648)) (a1 : Int) (ha1 : (-2147483648 ≤ a1 ∧ a1 < 2147483648)) : CM l D cy ad yX10_fits wsX10_fits { frames := 27, cells := 0, slots := 0, locals := 1080 } [.ref (ad 28), .int (iI a0), .int (iI a1)] σ (some (.int (iI ((f_X10_fits σ a0 a1).1)))) ((f_X10_fits σ a0 a1).2) (True) := by
  refine CM.of (cc := cX10_fits) (maxL := 4) (ret := (some .int)) (by decide) rfl (Nat.le_of_ble_eq_true rfl) ?_
  intro p e s m args below meth c₀ ls X hI hl
  have hl : lv_has ls 4 [(0, .ref (ad 28)), (1, .int (iI a0)), (2, .int (iI a1))] := hl
  obtain ⟨hx, hb, hr, hml, hown, hts, hlocks, hK, hN⟩ := id X
  have hF := hI.2.2.2
  refine lv_aload_n hx hb dX10_fits_0 rfl (lv_at hl 0 rfl) ?_
  refine lv_iconst (v := iI 0) hx hb dX10_fits_1 rfl ?_
  refine g_put (C := RX10) (T := TX10) (N := 44) (ci := 9) (ty := .int) (z := 0) hx hb hts in_X10_fits_X10 tyX10 tyX10_ok nmX10 hown hK hI 28 (by decide) (cel_28 cy ad) rfl 0 (by decide) (by decide +kernel) rfl (by decide +kernel) rfl rfl (Nat.le_of_ble_eq_true rfl) rfl (bw_28_0 (by omega)) dX10_fits_2 (fun H locs hI => ?_)
  have hF_1 := hI.2.2.2
  refine lv_aload_n hx hb dX10_fits_5 rfl (lv_at hl 0 rfl) ?_
  refine lv_iload_n hx hb dX10_fits_6 rfl (lv_at hl 1 rfl) ?_
  refine g_V (As := [.int (iI a0)]) (rest := []) 28 (c_X10_isFile l D cy ad (up2 σ 28 0 0) a0 (by omega)) hx hb hml hown hts hK hN hI hl.1 gX10_fits_X10_isFile rfl hd_X10_isFile rfl rfl ⟨Nat.le_of_ble_eq_true rfl, Nat.le_of_ble_eq_true rfl⟩ ⟨Nat.zero_le _, Nat.zero_le _⟩ (by decide) (cel_28 cy ad _) rfl rfl rfl rfl (Nat.le_of_ble_eq_true rfl) dX10_fits_7 (fun H locs hG_2 hI => ?_)
  refine g_if_eq (tgt := 20) hx hb dX10_fits_10 (by decide) (by omega) (fun c_3 => ?_) (fun c_3 => ?_)
  · skip
    refine lv_iconst (v := iI (-1)) hx hb dX10_fits_20 rfl ?_
    have e9 : f_X10_fits σ a0 a1 = ((-1), (up2 σ 28 0 0)) := by rw [f_X10_fits, if_pos c_3]
    exact g_iret (z := (-1)) hx hb hr hK hN hlocks hI (by rw [e9]) (by rw [e9]) trivial dX10_fits_21
  · skip
    refine lv_aload_n hx hb dX10_fits_13 rfl (lv_at hl 0 rfl) ?_
    refine g_get (C := RX10) (T := TX10) (N := 44) (ci := 9) (v := .int (iI (σ 28 10))) hx hb hts in_X10_fits_X10 hown hK hI 28 (by decide) (cel_28 cy ad _) rfl 10 (by decide) (by decide +kernel) (by show some (Value.int (iI ((up2 σ 28 0 0) 28 10))) = _; rw [up2_slot _ _ (by decide)]) dX10_fits_14 ?_
    have b_4 := bd_28_10 hF
    refine g_if_ne (tgt := 22) hx hb dX10_fits_17 (by decide) (by omega) (fun c_5 => ?_) (fun c_5 => ?_)
    · skip
      refine lv_aload_n hx hb dX10_fits_22 rfl (lv_at hl 0 rfl) ?_
      refine lv_iload_n hx hb dX10_fits_23 rfl (lv_at hl 1 rfl) ?_
      refine g_V (As := [.int (iI a0)]) (rest := []) 28 (c_X10_isFit l D cy ad (up2 σ 28 0 0) a0 (by omega)) hx hb hml hown hts hK hN hI hl.1 gX10_fits_X10_isFit rfl hd_X10_isFit rfl rfl ⟨Nat.le_of_ble_eq_true rfl, Nat.le_of_ble_eq_true rfl⟩ ⟨Nat.zero_le _, Nat.zero_le _⟩ (by decide) (cel_28 cy ad _) rfl rfl rfl rfl (Nat.le_of_ble_eq_true rfl) dX10_fits_24 (fun H locs hG_6 hI => ?_)
      have hF_7 := hI.2.2.2
      refine lv_istore_n (lv' := [(3, .int (iI ((f_X10_isFit (up2 σ 28 0 0) a0).1))), (0, .ref (ad 28)), (1, .int (iI a0)), (2, .int (iI a1))]) hx hb dX10_fits_27 rfl hl (by decide) rfl (fun ls hl => ?_)
      refine lv_iload_n hx hb dX10_fits_28 rfl (lv_at hl 3 rfl) ?_
      refine g_if_ne (tgt := 42) hx hb dX10_fits_29 (by decide) (by omega) (fun c_8 => ?_) (fun c_8 => ?_)
      · skip
        refine lv_iload_n hx hb dX10_fits_42 rfl (lv_at hl 0 rfl) ?_
        refine g_if_ne (tgt := 48) hx hb dX10_fits_43 (by decide) (by omega) (fun c_9 => ?_) (fun c_9 => ?_)
        · skip
          refine lv_iload_n hx hb dX10_fits_48 rfl (lv_at hl 3 rfl) ?_
          refine lv_bipush (v := iI 10) hx hb dX10_fits_49 (iI_bip (by decide)) ?_
          refine g_icmp_lt (tgt := 75) hx hb dX10_fits_51 (by decide) (by omega) (by omega) (fun c_10 => ?_) (fun c_10 => ?_)
          · skip
            refine lv_iload_n hx hb dX10_fits_75 rfl (lv_at hl 3 rfl) ?_
            refine lv_bipush (v := iI 30) hx hb dX10_fits_76 (iI_bip (by decide)) ?_
            refine g_icmp_lt (tgt := 103) hx hb dX10_fits_78 (by decide) (by omega) (by omega) (fun c_11 => ?_) (fun c_11 => ?_)
            · skip
              refine lv_iconst (v := iI (-1)) hx hb dX10_fits_103 rfl ?_
              have e9 : f_X10_fits σ a0 a1 = ((-1), (f_X10_isFit (up2 σ 28 0 0) a0).2) := by rw [f_X10_fits, if_neg c_3, if_neg c_5, if_neg c_8, if_neg c_9, if_pos c_10, if_pos c_11]
              exact g_iret (z := (-1)) hx hb hr hK hN hlocks hI (by rw [e9]) (by rw [e9]) trivial dX10_fits_104
            · skip
              refine lv_iload_n hx hb dX10_fits_81 rfl (lv_at hl 3 rfl) ?_
              refine lv_bipush (v := iI 30) hx hb dX10_fits_82 (iI_bip (by decide)) ?_
              refine lv_aload_n hx hb dX10_fits_84 rfl (lv_at hl 1 rfl) ?_
              refine g_get (C := RX10) (T := TX10) (N := 44) (ci := 9) (v := .int (iI ((f_X10_isFit (up2 σ 28 0 0) a0).2 28 10))) hx hb hts in_X10_fits_X10 hown hK hI 28 (by decide) (cel_28 cy ad _) rfl 10 (by decide) (by decide +kernel) rfl dX10_fits_85 ?_
              have b_12 := bd_28_10 hF_7
              refine g_iadd hx hb dX10_fits_88 ?_
              refine g_icmp_ge (tgt := 103) hx hb dX10_fits_89 (by decide) (by omega) (by omega) (fun c_13 => ?_) (fun c_13 => ?_)
              · skip
                refine lv_iconst (v := iI (-1)) hx hb dX10_fits_103 rfl ?_
                have e9 : f_X10_fits σ a0 a1 = ((-1), (f_X10_isFit (up2 σ 28 0 0) a0).2) := by rw [f_X10_fits, if_neg c_3, if_neg c_5, if_neg c_8, if_neg c_9, if_pos c_10, if_neg c_11, if_pos c_13]
                exact g_iret (z := (-1)) hx hb hr hK hN hlocks hI (by rw [e9]) (by rw [e9]) trivial dX10_fits_104
              · skip
                refine lv_aload_n hx hb dX10_fits_92 rfl (lv_at hl 1 rfl) ?_
                refine lv_iload_n hx hb dX10_fits_93 rfl (lv_at hl 3 rfl) ?_
                refine lv_bipush (v := iI 30) hx hb dX10_fits_94 (iI_bip (by decide)) ?_
                refine g_isub hx hb dX10_fits_96 ?_
                refine g_V (As := [.int (iI (a1 - 30))]) (rest := []) 28 (c_X10_firstOf l D cy ad (f_X10_isFit (up2 σ 28 0 0) a0).2 (a1 - 30) (by omega)) hx hb hml hown hts hK hN hI hl.1 gX10_fits_X10_firstOf rfl hd_X10_firstOf rfl rfl ⟨Nat.le_of_ble_eq_true rfl, Nat.le_of_ble_eq_true rfl⟩ ⟨Nat.zero_le _, Nat.zero_le _⟩ (by decide) (cel_28 cy ad _) rfl rfl rfl rfl (Nat.le_of_ble_eq_true rfl) dX10_fits_97 (fun H locs hG_14 hI => ?_)
                refine lv_goto (tgt := 104) hx hb dX10_fits_100 (by decide) ?_
                have e9 : f_X10_fits σ a0 a1 = (f_X10_firstOf (f_X10_isFit (up2 σ 28 0 0) a0).2 (a1 - 30), (f_X10_isFit (up2 σ 28 0 0) a0).2) := by rw [f_X10_fits, if_neg c_3, if_neg c_5, if_neg c_8, if_neg c_9, if_pos c_10, if_neg c_11, if_neg c_13]
                exact g_iret (z := f_X10_firstOf (f_X10_isFit (up2 σ 28 0 0) a0).2 (a1 - 30)) hx hb hr hK hN hlocks hI (by rw [e9]) (by rw [e9]) trivial dX10_fits_104
          · skip
            refine lv_iload_n hx hb dX10_fits_54 rfl (lv_at hl 3 rfl) ?_
            refine lv_bipush (v := iI 10) hx hb dX10_fits_55 (iI_bip (by decide)) ?_
            refine lv_aload_n hx hb dX10_fits_57 rfl (lv_at hl 1 rfl) ?_
            refine g_get (C := RX10) (T := TX10) (N := 44) (ci := 9) (v := .int (iI ((f_X10_isFit (up2 σ 28 0 0) a0).2 28 10))) hx hb hts in_X10_fits_X10 hown hK hI 28 (by decide) (cel_28 cy ad _) rfl 10 (by decide) (by decide +kernel) rfl dX10_fits_58 ?_
            have b_15 := bd_28_10 hF_7
            refine g_iadd hx hb dX10_fits_61 ?_
            refine g_icmp_ge (tgt := 75) hx hb dX10_fits_62 (by decide) (by omega) (by omega) (fun c_16 => ?_) (fun c_16 => ?_)
            · skip
              refine lv_iload_n hx hb dX10_fits_75 rfl (lv_at hl 3 rfl) ?_
              refine lv_bipush (v := iI 30) hx hb dX10_fits_76 (iI_bip (by decide)) ?_
              refine g_icmp_lt (tgt := 103) hx hb dX10_fits_78 (by decide) (by omega) (by omega) (fun c_17 => ?_) (fun c_17 => ?_)
              · skip
                refine lv_iconst (v := iI (-1)) hx hb dX10_fits_103 rfl ?_
                have e9 : f_X10_fits σ a0 a1 = ((-1), (f_X10_isFit (up2 σ 28 0 0) a0).2) := by rw [f_X10_fits, if_neg c_3, if_neg c_5, if_neg c_8, if_neg c_9, if_neg c_10, if_pos c_16, if_pos c_17]
                exact g_iret (z := (-1)) hx hb hr hK hN hlocks hI (by rw [e9]) (by rw [e9]) trivial dX10_fits_104
              · skip
                refine lv_iload_n hx hb dX10_fits_81 rfl (lv_at hl 3 rfl) ?_
                refine lv_bipush (v := iI 30) hx hb dX10_fits_82 (iI_bip (by decide)) ?_
                refine lv_aload_n hx hb dX10_fits_84 rfl (lv_at hl 1 rfl) ?_
                refine g_get (C := RX10) (T := TX10) (N := 44) (ci := 9) (v := .int (iI ((f_X10_isFit (up2 σ 28 0 0) a0).2 28 10))) hx hb hts in_X10_fits_X10 hown hK hI 28 (by decide) (cel_28 cy ad _) rfl 10 (by decide) (by decide +kernel) rfl dX10_fits_85 ?_
                have b_18 := bd_28_10 hF_7
                refine g_iadd hx hb dX10_fits_88 ?_
                refine g_icmp_ge (tgt := 103) hx hb dX10_fits_89 (by decide) (by omega) (by omega) (fun c_19 => ?_) (fun c_19 => ?_)
                · skip
                  refine lv_iconst (v := iI (-1)) hx hb dX10_fits_103 rfl ?_
                  have e9 : f_X10_fits σ a0 a1 = ((-1), (f_X10_isFit (up2 σ 28 0 0) a0).2) := by rw [f_X10_fits, if_neg c_3, if_neg c_5, if_neg c_8, if_neg c_9, if_neg c_10, if_pos c_16, if_neg c_17, if_pos c_19]
                  exact g_iret (z := (-1)) hx hb hr hK hN hlocks hI (by rw [e9]) (by rw [e9]) trivial dX10_fits_104
                · skip
                  refine lv_aload_n hx hb dX10_fits_92 rfl (lv_at hl 1 rfl) ?_
                  refine lv_iload_n hx hb dX10_fits_93 rfl (lv_at hl 3 rfl) ?_
                  refine lv_bipush (v := iI 30) hx hb dX10_fits_94 (iI_bip (by decide)) ?_
                  refine g_isub hx hb dX10_fits_96 ?_
                  refine g_V (As := [.int (iI (a1 - 30))]) (rest := []) 28 (c_X10_firstOf l D cy ad (f_X10_isFit (up2 σ 28 0 0) a0).2 (a1 - 30) (by omega)) hx hb hml hown hts hK hN hI hl.1 gX10_fits_X10_firstOf rfl hd_X10_firstOf rfl rfl ⟨Nat.le_of_ble_eq_true rfl, Nat.le_of_ble_eq_true rfl⟩ ⟨Nat.zero_le _, Nat.zero_le _⟩ (by decide) (cel_28 cy ad _) rfl rfl rfl rfl (Nat.le_of_ble_eq_true rfl) dX10_fits_97 (fun H locs hG_20 hI => ?_)
                  refine lv_goto (tgt := 104) hx hb dX10_fits_100 (by decide) ?_
                  have e9 : f_X10_fits σ a0 a1 = (f_X10_firstOf (f_X10_isFit (up2 σ 28 0 0) a0).2 (a1 - 30), (f_X10_isFit (up2 σ 28 0 0) a0).2) := by rw [f_X10_fits, if_neg c_3, if_neg c_5, if_neg c_8, if_neg c_9, if_neg c_10, if_pos c_16, if_neg c_17, if_neg c_19]
                  exact g_iret (z := f_X10_firstOf (f_X10_isFit (up2 σ 28 0 0) a0).2 (a1 - 30)) hx hb hr hK hN hlocks hI (by rw [e9]) (by rw [e9]) trivial dX10_fits_104
            · skip
              refine lv_aload_n hx hb dX10_fits_65 rfl (lv_at hl 1 rfl) ?_
              refine g_get (C := RX10) (T := TX10) (N := 44) (ci := 9) (v := .ref (ad 40)) hx hb hts in_X10_fits_X10 hown hK hI 28 (by decide) (cel_28 cy ad _) rfl 23 (by decide) (by decide +kernel) rfl dX10_fits_66 ?_
              refine lv_iload_n hx hb dX10_fits_69 rfl (lv_at hl 3 rfl) ?_
              refine lv_bipush (v := iI 10) hx hb dX10_fits_70 (iI_bip (by decide)) ?_
              refine g_isub hx hb dX10_fits_72 ?_
              refine g_iald (v := (f_X10_isFit (up2 σ 28 0 0) a0).2 40 ((a1 - 10).toNat)) hx hb hK hI 40 (by decide) (cel_40 cy ad) (by omega) (by decide) rfl dX10_fits_73 ?_
              have b_21 := bd_40 hF_7 ((a1 - 10).toNat)
              have e9 : f_X10_fits σ a0 a1 = ((f_X10_isFit (up2 σ 28 0 0) a0).2 40 ((a1 - 10).toNat), (f_X10_isFit (up2 σ 28 0 0) a0).2) := by rw [f_X10_fits, if_neg c_3, if_neg c_5, if_neg c_8, if_neg c_9, if_neg c_10, if_neg c_16]
              exact g_iret (z := (f_X10_isFit (up2 σ 28 0 0) a0).2 40 ((a1 - 10).toNat)) hx hb hr hK hN hlocks hI (by rw [e9]) (by rw [e9]) trivial dX10_fits_74
        · skip
          refine lv_iconst (v := iI (-1)) hx hb dX10_fits_46 rfl ?_
          have e9 : f_X10_fits σ a0 a1 = ((-1), (f_X10_isFit (up2 σ 28 0 0) a0).2) := by rw [f_X10_fits, if_neg c_3, if_neg c_5, if_neg c_8, if_pos c_9]
          exact g_iret (z := (-1)) hx hb hr hK hN hlocks hI (by rw [e9]) (by rw [e9]) trivial dX10_fits_47
      · skip
        refine lv_iload_n hx hb dX10_fits_32 rfl (lv_at hl 0 rfl) ?_
        refine g_if_eq (tgt := 40) hx hb dX10_fits_33 (by decide) (by omega) (fun c_22 => ?_) (fun c_22 => ?_)
        · skip
          refine lv_iconst (v := iI 0) hx hb dX10_fits_40 rfl ?_
          have e9 : f_X10_fits σ a0 a1 = (0, (f_X10_isFit (up2 σ 28 0 0) a0).2) := by rw [f_X10_fits, if_neg c_3, if_neg c_5, if_pos c_8, if_pos c_22]
          exact g_iret (z := 0) hx hb hr hK hN hlocks hI (by rw [e9]) (by rw [e9]) trivial dX10_fits_41
        · skip
          refine lv_iconst (v := iI 1) hx hb dX10_fits_36 rfl ?_
          refine lv_goto (tgt := 41) hx hb dX10_fits_37 (by decide) ?_
          have e9 : f_X10_fits σ a0 a1 = (1, (f_X10_isFit (up2 σ 28 0 0) a0).2) := by rw [f_X10_fits, if_neg c_3, if_neg c_5, if_pos c_8, if_neg c_22]
          exact g_iret (z := 1) hx hb hr hK hN hlocks hI (by rw [e9]) (by rw [e9]) trivial dX10_fits_41
    · skip
      refine lv_iconst (v := iI (-1)) hx hb dX10_fits_20 rfl ?_
      have e9 : f_X10_fits σ a0 a1 = ((-1), (up2 σ 28 0 0)) := by rw [f_X10_fits, if_neg c_3, if_pos c_5]
      exact g_iret (z := (-1)) hx hb hr hK hN hlocks hI (by rw [e9]) (by rw [e9]) trivial dX10_fits_21
theorem in_X10_addsCounter_X10 : ∀ w ∈ u_ws RX10 TX10 44, w ∈ wsX10_addsCounter := by decide +kernel
def L_X10_addsCounter_5 (σ : Sg) (a0 : Int) (a1 : Int) : Nat → Int → Int → Int × Int
  | 0, x3, x4 => (x3, x4)
  | n + 1, x3, x4 => (if ((σ 43 a0.toNat) / x4) < 10 then (x3, x4) else L_X10_addsCounter_5 σ a0 a1 n (x3 + 1) (x4 * 10))
set_option maxHeartbeats 4000000 in
set_option maxRecDepth 100000 in
theorem w_L_X10_addsCounter_5 {p : Program} {l : Launch} {e : Env} {s : State} {m : MethodId} {args : Array Value} {below : List Frame} {meth : Method} {c₀ : Code} {D : va_G} {cy : Nat → ClassId} {ad : Nat → Nat} {Q : State → Prop} (X : MX p s m args meth c₀ cX10_addsCounter 6 RX10 none wsX10_addsCounter D cy) (σ : Sg) (a0 : Int) (ha0 : (0 : Int) ≤ a0 ∧ a0 ≤ 39) (a1 : Int) (ha1 : (-200 : Int) ≤ a1 ∧ a1 ≤ 200) (h1 : σ 44 a0.toNat ≤ 50000) : ∀ (n : Nat) (x3 : Int) (x4 : Int) (hx3 : (1 : Int) ≤ x3 ∧ x3 ≤ 4) (hx4 : (1 : Int) ≤ x4 ∧ x4 ≤ 1000) (hp0 : (x3 = 1 ∧ x4 = 1) ∨ (x3 = 2 ∧ x4 = 10) ∨ (x3 = 3 ∧ x4 = 100) ∨ (x3 = 4 ∧ x4 = 1000)) (hmu : 4 - x3 < (n : Int)) (H : Heap) (locs : List Loc) (ls : Array Slot) (hI : HI D cy ad s σ H locs) (hl : lv_has ls 6 [(0, .ref (ad 28)), (1, .int (iI a0)), (2, .int (iI a1)), (3, .int (iI x3)), (4, .int (iI x4))])  (hk : ∀ (H1 : Heap) (locs1 : List Loc) (ls1 : Array Slot), ((1 ≤ (L_X10_addsCounter_5 σ a0 a1 n x3 x4).1 ∧ (L_X10_addsCounter_5 σ a0 a1 n x3 x4).1 ≤ 4) ∧ ((L_X10_addsCounter_5 σ a0 a1 n x3 x4).2 = 1 ∨ (L_X10_addsCounter_5 σ a0 a1 n x3 x4).2 = 10 ∨ (L_X10_addsCounter_5 σ a0 a1 n x3 x4).2 = 100 ∨ (L_X10_addsCounter_5 σ a0 a1 n x3 x4).2 = 1000)) → HI D cy ad s σ H1 locs1 → lv_has ls1 6 [(0, .ref (ad 28)), (1, .int (iI a0)), (2, .int (iI a1)), (3, .int (iI ((L_X10_addsCounter_5 σ a0 a1 n x3 x4).1))), (4, .int (iI ((L_X10_addsCounter_5 σ a0 a1 n x3 x4).2)))] → W p l e { frames := 1, cells := 0, slots := 0, locals := 40 } s m args below meth c₀ H1 locs1 0 0 Q (F0 m 32 ls1 [])), W p l e { frames := 1, cells := 0, slots := 0, locals := 40 } s m args below meth c₀ H locs 0 0 Q (F0 m 5 ls []) := by
  obtain ⟨hx, hb, hr, hml, hown, hts, hlocks, hK, hN⟩ := id X
  intro n
  induction n with
  | zero =>
    intro x3 x4 hx3 hx4 hp0 hmu H locs ls hI hl hk
    exfalso
    have hF := hI.2.2.2
    omega
  | succ n ih =>
    intro x3 x4 hx3 hx4 hp0 hmu H locs ls hI hl hk
    have hF := hI.2.2.2
    refine lv_aload_n hx hb dX10_addsCounter_5 rfl (lv_at hl 0 rfl) ?_
    refine g_get (C := RX10) (T := TX10) (N := 44) (ci := 9) (v := .ref (ad 43)) hx hb hts in_X10_addsCounter_X10 hown hK hI 28 (by decide) (cel_28 cy ad _) rfl 28 (by decide) (by decide +kernel) rfl dX10_addsCounter_6 ?_
    refine lv_iload_n hx hb dX10_addsCounter_9 rfl (lv_at hl 1 rfl) ?_
    refine g_iald (v := σ 43 a0.toNat) hx hb hK hI 43 (by decide) (cel_43 cy ad) (by omega) (by decide) rfl dX10_addsCounter_10 ?_
    have b_1 := bd_43 hF a0.toNat
    refine lv_iload hx hb dX10_addsCounter_11 (lv_at hl 4 rfl) ?_
    refine g_idiv hx hb (by omega) (by omega) dX10_addsCounter_13 ?_
    have b_2 := ediv_rng (a := σ 43 a0.toNat) (b := x4) (by omega) (by omega)
    have q5 : x4 = 1000 → ((σ 43 a0.toNat) / x4) < 10 := by intro h; rw [h]; omega
    refine lv_bipush (v := iI 10) hx hb dX10_addsCounter_14 (iI_bip (by decide)) ?_
    refine g_icmp_lt (tgt := 32) hx hb dX10_addsCounter_16 (by decide) (by omega) (by omega) (fun c_3 => ?_) (fun c_3 => ?_)
    · skip
      have e9 : L_X10_addsCounter_5 σ a0 a1 (n + 1) x3 x4 = (x3, x4) := by rw [L_X10_addsCounter_5, if_pos c_3]
      rw [e9] at hk
      exact hk _ _ _ (by first | (omega) | (dsimp only; omega)) hI (lv_sub hl [0, 1, 2, 3, 4] rfl)
    · skip
      refine lv_iload hx hb dX10_addsCounter_19 (lv_at hl 4 rfl) ?_
      refine lv_bipush (v := iI 10) hx hb dX10_addsCounter_21 (iI_bip (by decide)) ?_
      refine g_imul hx hb dX10_addsCounter_23 ?_
      refine lv_istore (lv' := [(4, .int (iI (x4 * 10))), (0, .ref (ad 28)), (1, .int (iI a0)), (2, .int (iI a1)), (3, .int (iI x3))]) hx hb dX10_addsCounter_24 hl (by decide) rfl (fun ls hl => ?_)
      refine lv_iinc (v := iI (x3 + 1)) (lv' := [(3, .int (iI (x3 + 1))), (4, .int (iI (x4 * 10))), (0, .ref (ad 28)), (1, .int (iI a0)), (2, .int (iI a1))]) hx hb dX10_addsCounter_26 hl (k := 4) rfl (iI_add _ _) (by decide) rfl (fun ls hl => ?_)
      refine lv_goto (tgt := 5) hx hb dX10_addsCounter_29 (by decide) ?_
      have e9 : L_X10_addsCounter_5 σ a0 a1 (n + 1) x3 x4 = L_X10_addsCounter_5 σ a0 a1 n (x3 + 1) (x4 * 10) := by rw [L_X10_addsCounter_5, if_neg c_3]
      rw [e9] at hk
      exact ih (x3 + 1) (x4 * 10)  (by omega) (by omega) (by omega) (by omega) _ _ _ hI (lv_sub hl [2, 3, 4, 0, 1] rfl) hk
def L_X10_addsCounter_35 (a0 : Int) (a1 : Int) : Nat → Int → Int → Sg → Sg
  | 0, x4, x5, σ => (σ)
  | n + 1, x4, x5, σ => (if a1 ≤ x5 then σ else L_X10_addsCounter_35 a0 a1 n x4 (x5 + 1) (f_X10_adds σ a0 48))
set_option maxHeartbeats 4000000 in
set_option maxRecDepth 100000 in
theorem w_L_X10_addsCounter_35 {p : Program} {l : Launch} {e : Env} {s : State} {m : MethodId} {args : Array Value} {below : List Frame} {meth : Method} {c₀ : Code} {D : va_G} {cy : Nat → ClassId} {ad : Nat → Nat} {Q : State → Prop} (X : MX p s m args meth c₀ cX10_addsCounter 6 RX10 none wsX10_addsCounter D cy) (a0 : Int) (ha0 : (0 : Int) ≤ a0 ∧ a0 ≤ 39) (a1 : Int) (ha1 : (-200 : Int) ≤ a1 ∧ a1 ≤ 200) (g0 : Int) : ∀ (n : Nat) (x4 : Int) (x5 : Int) (σ : Sg) (hx4 : (1 : Int) ≤ x4 ∧ x4 ≤ 1000) (hx5 : (1 : Int) ≤ x5 ∧ x5 ≤ 200) (hp0 : σ 44 a0.toNat ≤ g0 + x5) (hp1 : g0 ≤ 50000) (hmu : 200 - x5 < (n : Int)) (H : Heap) (locs : List Loc) (ls : Array Slot) (hI : HI D cy ad s σ H locs) (hl : lv_has ls 6 [(0, .ref (ad 28)), (1, .int (iI a0)), (2, .int (iI a1)), (4, .int (iI x4)), (5, .int (iI x5))])  (hk : ∀ (H1 : Heap) (locs1 : List Loc) (ls1 : Array Slot), ((L_X10_addsCounter_35 a0 a1 n x4 x5 σ) 44 a0.toNat ≤ g0 + 200) → HI D cy ad s (L_X10_addsCounter_35 a0 a1 n x4 x5 σ) H1 locs1 → lv_has ls1 6 [(0, .ref (ad 28)), (1, .int (iI a0)), (4, .int (iI x4))] → W p l e { frames := 1, cells := 0, slots := 0, locals := 40 } s m args below meth c₀ H1 locs1 0 0 Q (F0 m 54 ls1 [])), W p l e { frames := 1, cells := 0, slots := 0, locals := 40 } s m args below meth c₀ H locs 0 0 Q (F0 m 35 ls []) := by
  obtain ⟨hx, hb, hr, hml, hown, hts, hlocks, hK, hN⟩ := id X
  intro n
  induction n with
  | zero =>
    intro x4 x5 σ hx4 hx5 hp0 hp1 hmu H locs ls hI hl hk
    exfalso
    have hF := hI.2.2.2
    omega
  | succ n ih =>
    intro x4 x5 σ hx4 hx5 hp0 hp1 hmu H locs ls hI hl hk
    have hF := hI.2.2.2
    refine lv_iload hx hb dX10_addsCounter_35 (lv_at hl 4 rfl) ?_
    refine lv_iload_n hx hb dX10_addsCounter_37 rfl (lv_at hl 2 rfl) ?_
    refine g_icmp_ge (tgt := 54) hx hb dX10_addsCounter_38 (by decide) (by omega) (by omega) (fun c_6 => ?_) (fun c_6 => ?_)
    · skip
      have e9 : L_X10_addsCounter_35 a0 a1 (n + 1) x4 x5 σ = σ := by rw [L_X10_addsCounter_35, if_pos c_6]
      rw [e9] at hk
      exact hk _ _ _ (by first | (omega) | (dsimp only; omega)) hI (lv_sub hl [0, 1, 3] rfl)
    · skip
      refine lv_aload_n hx hb dX10_addsCounter_41 rfl (lv_at hl 0 rfl) ?_
      refine lv_iload_n hx hb dX10_addsCounter_42 rfl (lv_at hl 1 rfl) ?_
      refine lv_bipush (v := iI 48) hx hb dX10_addsCounter_43 (iI_bip (by decide)) ?_
      refine g_V (As := [.int (iI a0), .int (iI 48)]) (rest := []) 28 (c_X10_adds l D cy ad σ a0 (by omega) 48 (by omega) (by omega)) hx hb hml hown hts hK hN hI hl.1 gX10_addsCounter_X10_adds rfl hd_X10_adds rfl rfl ⟨Nat.le_of_ble_eq_true rfl, Nat.le_of_ble_eq_true rfl⟩ ⟨Nat.zero_le _, Nat.zero_le _⟩ (by decide) (cel_28 cy ad _) rfl rfl rfl rfl (Nat.le_of_ble_eq_true rfl) dX10_addsCounter_45 (fun H locs hG_7 hI => ?_)
      have hF_8 := hI.2.2.2
      refine lv_iinc (v := iI (x5 + 1)) (lv' := [(5, .int (iI (x5 + 1))), (0, .ref (ad 28)), (1, .int (iI a0)), (2, .int (iI a1)), (4, .int (iI x4))]) hx hb dX10_addsCounter_48 hl (k := 4) rfl (iI_add _ _) (by decide) rfl (fun ls hl => ?_)
      refine lv_goto (tgt := 35) hx hb dX10_addsCounter_51 (by decide) ?_
      have e9 : L_X10_addsCounter_35 a0 a1 (n + 1) x4 x5 σ = L_X10_addsCounter_35 a0 a1 n x4 (x5 + 1) (f_X10_adds σ a0 48) := by rw [L_X10_addsCounter_35, if_neg c_6]
      rw [e9] at hk
      exact ih x4 (x5 + 1) (f_X10_adds σ a0 48) (by omega) (by omega) (by omega) (by omega) (by omega) _ _ _ hI (lv_sub hl [1, 2, 3, 4, 0] rfl) hk
def L_X10_addsCounter_54 (a0 : Int) (a1 : Int) : Nat → Int → Sg → Sg
  | 0, x4, σ => (σ)
  | n + 1, x4, σ => (if x4 ≤ 0 then σ else L_X10_addsCounter_54 a0 a1 n (x4 / 10) (f_X10_adds σ a0 (48 + (((σ 43 a0.toNat) / x4) % 10))))
set_option maxHeartbeats 4000000 in
set_option maxRecDepth 100000 in
theorem w_L_X10_addsCounter_54 {p : Program} {l : Launch} {e : Env} {s : State} {m : MethodId} {args : Array Value} {below : List Frame} {meth : Method} {c₀ : Code} {D : va_G} {cy : Nat → ClassId} {ad : Nat → Nat} {Q : State → Prop} (X : MX p s m args meth c₀ cX10_addsCounter 6 RX10 none wsX10_addsCounter D cy) (a0 : Int) (ha0 : (0 : Int) ≤ a0 ∧ a0 ≤ 39) (a1 : Int) (ha1 : (-200 : Int) ≤ a1 ∧ a1 ≤ 200) (g0 : Int) : ∀ (n : Nat) (x4 : Int) (σ : Sg) (hx4 : (0 : Int) ≤ x4 ∧ x4 ≤ 1000) (hp0 : (x4 = 1000 ∧ σ 44 a0.toNat ≤ g0 + 200) ∨ (x4 = 100 ∧ σ 44 a0.toNat ≤ g0 + 201) ∨ (x4 = 10 ∧ σ 44 a0.toNat ≤ g0 + 202) ∨ (x4 = 1 ∧ σ 44 a0.toNat ≤ g0 + 203) ∨ (x4 = 0 ∧ σ 44 a0.toNat ≤ g0 + 204)) (hp1 : g0 ≤ 50000) (hmu : x4 < (n : Int)) (H : Heap) (locs : List Loc) (ls : Array Slot) (hI : HI D cy ad s σ H locs) (hl : lv_has ls 6 [(0, .ref (ad 28)), (1, .int (iI a0)), (4, .int (iI x4))])  (hk : ∀ (H1 : Heap) (locs1 : List Loc) (ls1 : Array Slot), ((L_X10_addsCounter_54 a0 a1 n x4 σ) 44 a0.toNat ≤ g0 + 204) → HI D cy ad s (L_X10_addsCounter_54 a0 a1 n x4 σ) H1 locs1 → lv_has ls1 6 [] → W p l e { frames := 1, cells := 0, slots := 0, locals := 40 } s m args below meth c₀ H1 locs1 0 0 Q (F0 m 89 ls1 [])), W p l e { frames := 1, cells := 0, slots := 0, locals := 40 } s m args below meth c₀ H locs 0 0 Q (F0 m 54 ls []) := by
  obtain ⟨hx, hb, hr, hml, hown, hts, hlocks, hK, hN⟩ := id X
  intro n
  induction n with
  | zero =>
    intro x4 σ hx4 hp0 hp1 hmu H locs ls hI hl hk
    exfalso
    have hF := hI.2.2.2
    omega
  | succ n ih =>
    intro x4 σ hx4 hp0 hp1 hmu H locs ls hI hl hk
    have hF := hI.2.2.2
    refine lv_iload hx hb dX10_addsCounter_54 (lv_at hl 2 rfl) ?_
    refine g_if_le (tgt := 89) hx hb dX10_addsCounter_56 (by decide) (by omega) (fun c_11 => ?_) (fun c_11 => ?_)
    · skip
      have e9 : L_X10_addsCounter_54 a0 a1 (n + 1) x4 σ = σ := by rw [L_X10_addsCounter_54, if_pos c_11]
      rw [e9] at hk
      exact hk _ _ _ (by first | (omega) | (dsimp only; omega)) hI (lv_sub hl [] rfl)
    · skip
      refine lv_aload_n hx hb dX10_addsCounter_59 rfl (lv_at hl 0 rfl) ?_
      refine lv_iload_n hx hb dX10_addsCounter_60 rfl (lv_at hl 1 rfl) ?_
      refine lv_bipush (v := iI 48) hx hb dX10_addsCounter_61 (iI_bip (by decide)) ?_
      refine lv_aload_n hx hb dX10_addsCounter_63 rfl (lv_at hl 0 rfl) ?_
      refine g_get (C := RX10) (T := TX10) (N := 44) (ci := 9) (v := .ref (ad 43)) hx hb hts in_X10_addsCounter_X10 hown hK hI 28 (by decide) (cel_28 cy ad _) rfl 28 (by decide) (by decide +kernel) rfl dX10_addsCounter_64 ?_
      refine lv_iload_n hx hb dX10_addsCounter_67 rfl (lv_at hl 1 rfl) ?_
      refine g_iald (v := σ 43 a0.toNat) hx hb hK hI 43 (by decide) (cel_43 cy ad) (by omega) (by decide) rfl dX10_addsCounter_68 ?_
      have b_12 := bd_43 hF a0.toNat
      refine lv_iload hx hb dX10_addsCounter_69 (lv_at hl 2 rfl) ?_
      refine g_idiv hx hb (by omega) (by omega) dX10_addsCounter_71 ?_
      have b_13 := ediv_rng (a := σ 43 a0.toNat) (b := x4) (by omega) (by omega)
      refine lv_bipush (v := iI 10) hx hb dX10_addsCounter_72 (iI_bip (by decide)) ?_
      refine g_irem hx hb (by omega) (by omega) dX10_addsCounter_74 ?_
      refine g_iadd hx hb dX10_addsCounter_75 ?_
      refine g_V (As := [.int (iI a0), .int (iI (48 + (((σ 43 a0.toNat) / x4) % 10)))]) (rest := []) 28 (c_X10_adds l D cy ad σ a0 (by omega) (48 + (((σ 43 a0.toNat) / x4) % 10)) (by omega) (by omega)) hx hb hml hown hts hK hN hI hl.1 gX10_addsCounter_X10_adds rfl hd_X10_adds rfl rfl ⟨Nat.le_of_ble_eq_true rfl, Nat.le_of_ble_eq_true rfl⟩ ⟨Nat.zero_le _, Nat.zero_le _⟩ (by decide) (cel_28 cy ad _) rfl rfl rfl rfl (Nat.le_of_ble_eq_true rfl) dX10_addsCounter_76 (fun H locs hG_14 hI => ?_)
      have hF_15 := hI.2.2.2
      refine lv_iload hx hb dX10_addsCounter_79 (lv_at hl 2 rfl) ?_
      refine lv_bipush (v := iI 10) hx hb dX10_addsCounter_81 (iI_bip (by decide)) ?_
      refine g_idiv hx hb (by omega) (by omega) dX10_addsCounter_83 ?_
      have b_16 := ediv_rng (a := x4) (b := 10) (by omega) (by omega)
      refine lv_istore (lv' := [(4, .int (iI (x4 / 10))), (0, .ref (ad 28)), (1, .int (iI a0))]) hx hb dX10_addsCounter_84 hl (by decide) rfl (fun ls hl => ?_)
      refine lv_goto (tgt := 54) hx hb dX10_addsCounter_86 (by decide) ?_
      have e9 : L_X10_addsCounter_54 a0 a1 (n + 1) x4 σ = L_X10_addsCounter_54 a0 a1 n (x4 / 10) (f_X10_adds σ a0 (48 + (((σ 43 a0.toNat) / x4) % 10))) := by rw [L_X10_addsCounter_54, if_neg c_11]
      rw [e9] at hk
      exact ih (x4 / 10) (f_X10_adds σ a0 (48 + (((σ 43 a0.toNat) / x4) % 10))) (by omega) (by omega) (by omega) (by omega) _ _ _ hI (lv_sub hl [1, 2, 0] rfl) hk
def f_X10_addsCounter (σ : Sg) (a0 : Int) (a1 : Int) : Sg := (L_X10_addsCounter_54 a0 a1 1001 ((L_X10_addsCounter_5 σ a0 a1 5 1 1).2) (L_X10_addsCounter_35 a0 a1 201 ((L_X10_addsCounter_5 σ a0 a1 5 1 1).2) ((L_X10_addsCounter_5 σ a0 a1 5 1 1).1) σ))
theorem hd_X10_addsCounter : yX10_addsCounter.cls = RX10 ∧ yX10_addsCounter.cls ≠ "java/lang/invoke/MethodHandle" ∧ yX10_addsCounter.cls ≠ "java/lang/invoke/VarHandle" ∧ (parseMethodDescriptor yX10_addsCounter.desc).map (fun d => d.parameters.length) = some 2 := by decide +kernel
set_option maxHeartbeats 4000000 in
set_option maxRecDepth 100000 in
theorem c_X10_addsCounter (l : Launch) (D : va_G) (cy : Nat → ClassId) (ad : Nat → Nat) (σ : Sg) (a0 : Int) (ha0 : (0 : Int) ≤ a0 ∧ a0 ≤ 39) (a1 : Int) (ha1 : (-200 : Int) ≤ a1 ∧ a1 ≤ 200) (h1 : σ 44 a0.toNat ≤ 50000) : CM l D cy ad yX10_addsCounter wsX10_addsCounter { frames := 1, cells := 0, slots := 0, locals := 40 } [.ref (ad 28), .int (iI a0), .int (iI a1)] σ none (f_X10_addsCounter σ a0 a1) ((f_X10_addsCounter σ a0 a1) 44 a0.toNat ≤ σ 44 a0.toNat + 300) := by
  refine CM.of (cc := cX10_addsCounter) (maxL := 6) (ret := none) (by decide) rfl (Nat.le_of_ble_eq_true rfl) ?_
  intro p e s m args below meth c₀ ls X hI hl
  have hl : lv_has ls 6 [(0, .ref (ad 28)), (1, .int (iI a0)), (2, .int (iI a1))] := hl
  obtain ⟨hx, hb, hr, hml, hown, hts, hlocks, hK, hN⟩ := id X
  have hF := hI.2.2.2
  refine lv_iconst (v := iI 1) hx hb dX10_addsCounter_0 rfl ?_
  refine lv_istore_n (lv' := [(3, .int (iI 1)), (0, .ref (ad 28)), (1, .int (iI a0)), (2, .int (iI a1))]) hx hb dX10_addsCounter_1 rfl hl (by decide) rfl (fun ls hl => ?_)
  refine lv_iconst (v := iI 1) hx hb dX10_addsCounter_2 rfl ?_
  refine lv_istore (lv' := [(4, .int (iI 1)), (3, .int (iI 1)), (0, .ref (ad 28)), (1, .int (iI a0)), (2, .int (iI a1))]) hx hb dX10_addsCounter_3 hl (by decide) rfl (fun ls hl => ?_)
  refine w_L_X10_addsCounter_5 X σ a0 ha0 a1 ha1 h1  5 1 1  (by omega) (by omega) (by omega) (by omega) _ _ _ hI (lv_sub hl [2, 3, 4, 1, 0] rfl) (fun H locs ls hpo_5 hI hl => ?_)
  refine lv_iload_n hx hb dX10_addsCounter_32 rfl (lv_at hl 3 rfl) ?_
  refine lv_istore (lv' := [(5, .int (iI ((L_X10_addsCounter_5 σ a0 a1 5 1 1).1))), (0, .ref (ad 28)), (1, .int (iI a0)), (2, .int (iI a1)), (3, .int (iI ((L_X10_addsCounter_5 σ a0 a1 5 1 1).1))), (4, .int (iI ((L_X10_addsCounter_5 σ a0 a1 5 1 1).2)))]) hx hb dX10_addsCounter_33 hl (by decide) rfl (fun ls hl => ?_)
  refine w_L_X10_addsCounter_35 X  a0 ha0 a1 ha1  (σ 44 a0.toNat) 201 ((L_X10_addsCounter_5 σ a0 a1 5 1 1).2) ((L_X10_addsCounter_5 σ a0 a1 5 1 1).1) σ (by omega) (by omega) (by omega) (by omega) (by omega) _ _ _ hI (lv_sub hl [1, 2, 3, 5, 0] rfl) (fun H locs ls hpo_10 hI hl => ?_)
  have hF_9 := hI.2.2.2
  refine w_L_X10_addsCounter_54 X  a0 ha0 a1 ha1  (σ 44 a0.toNat) 1001 ((L_X10_addsCounter_5 σ a0 a1 5 1 1).2) (L_X10_addsCounter_35 a0 a1 201 ((L_X10_addsCounter_5 σ a0 a1 5 1 1).2) ((L_X10_addsCounter_5 σ a0 a1 5 1 1).1) σ) (by omega) (by omega) (by omega) (by omega) _ _ _ hI (lv_sub hl [0, 1, 2] rfl) (fun H locs ls hpo_18 hI hl => ?_)
  have hF_17 := hI.2.2.2
  have e9 : f_X10_addsCounter σ a0 a1 = (L_X10_addsCounter_54 a0 a1 1001 ((L_X10_addsCounter_5 σ a0 a1 5 1 1).2) (L_X10_addsCounter_35 a0 a1 201 ((L_X10_addsCounter_5 σ a0 a1 5 1 1).2) ((L_X10_addsCounter_5 σ a0 a1 5 1 1).1) σ)) := by rw [f_X10_addsCounter]
  exact g_vret hx hb hr hK hN hlocks hI (by rw [e9]) (by rw [e9] <;> first | (omega) | (dsimp only; omega)) dX10_addsCounter_89
