def f_X9_isFolder (a0 : Int) : Int := (if a0 < 0 then 0 else (if 6 ≤ a0 then 0 else 1))
theorem hd_X9_isFolder : yX9_isFolder.cls ≠ "java/lang/invoke/MethodHandle" ∧ yX9_isFolder.cls ≠ "java/lang/invoke/VarHandle" ∧ (parseMethodDescriptor yX9_isFolder.desc).map (fun d => d.parameters.length) = some 1 := by decide +kernel
set_option maxHeartbeats 4000000 in
set_option maxRecDepth 100000 in
theorem c_X9_isFolder (l : Launch) (D : va_G) (cy : Nat → ClassId) (ad : Nat → Nat) (σ : Sg) (a0 : Int) (ha0 : (-2147483648 ≤ a0 ∧ a0 < 2147483648)) : CM l D cy ad yX9_isFolder wsX9_isFolder { frames := 0, cells := 0, slots := 0, locals := 0 } [.int (iI a0)] σ (some (.int (iI (f_X9_isFolder a0)))) σ ((0 ≤ f_X9_isFolder a0 ∧ f_X9_isFolder a0 ≤ 1) ∧ ((f_X9_isFolder a0) = 0 ∨ (0 ≤ a0 ∧ a0 ≤ 5))) := by
  refine CM.of (cc := cX9_isFolder) (maxL := 1) (ret := (some .boolean)) (by decide) rfl (Nat.le_of_ble_eq_true rfl) ?_
  intro p e s m args below meth c₀ ls X hI hl
  have hl : lv_has ls 1 [(0, .int (iI a0))] := hl
  obtain ⟨hx, hb, hr, hml, hown, hts, hlocks, hK, hN⟩ := id X
  have hF := hI.2.2.2
  refine lv_iload_n hx hb dX9_isFolder_0 rfl (lv_at hl 0 rfl) ?_
  refine g_if_lt (tgt := 14) hx hb dX9_isFolder_1 (by decide) (by omega) (fun c_1 => ?_) (fun c_1 => ?_)
  · skip
    refine lv_iconst (v := iI 0) hx hb dX9_isFolder_14 rfl ?_
    have e9 : f_X9_isFolder a0 = 0 := by rw [f_X9_isFolder, if_pos c_1]
    exact g_zret (z := 0) hx hb hr hK hN hlocks hI e9.symm rfl (by rw [e9] <;> first | (omega) | (dsimp only; omega)) (by omega) dX9_isFolder_15
  · skip
    refine lv_iload_n hx hb dX9_isFolder_4 rfl (lv_at hl 0 rfl) ?_
    refine lv_bipush (v := iI 6) hx hb dX9_isFolder_5 (iI_bip (by decide)) ?_
    refine g_icmp_ge (tgt := 14) hx hb dX9_isFolder_7 (by decide) (by omega) (by omega) (fun c_2 => ?_) (fun c_2 => ?_)
    · skip
      refine lv_iconst (v := iI 0) hx hb dX9_isFolder_14 rfl ?_
      have e9 : f_X9_isFolder a0 = 0 := by rw [f_X9_isFolder, if_neg c_1, if_pos c_2]
      exact g_zret (z := 0) hx hb hr hK hN hlocks hI e9.symm rfl (by rw [e9] <;> first | (omega) | (dsimp only; omega)) (by omega) dX9_isFolder_15
    · skip
      refine lv_iconst (v := iI 1) hx hb dX9_isFolder_10 rfl ?_
      refine lv_goto (tgt := 15) hx hb dX9_isFolder_11 (by decide) ?_
      have e9 : f_X9_isFolder a0 = 1 := by rw [f_X9_isFolder, if_neg c_1, if_neg c_2]
      exact g_zret (z := 1) hx hb hr hK hN hlocks hI e9.symm rfl (by rw [e9] <;> first | (omega) | (dsimp only; omega)) (by omega) dX9_isFolder_15
theorem in_X9_takePlace_X9 : ∀ w ∈ u_ws RX9 TX9 11, w ∈ wsX9_takePlace := by decide +kernel
def L_X9_takePlace_37 (a0 : Int) : Nat → Int → Int → Sg → Sg
  | 0, x2, x3, σ => (σ)
  | n + 1, x2, x3, σ => (if (f_X8_length σ) ≤ x3 then σ else L_X9_takePlace_37 a0 n x2 (x3 + 1) (f_X2_add σ 57 (f_X8_byteAt σ x3)))
set_option maxHeartbeats 4000000 in
set_option maxRecDepth 100000 in
theorem w_L_X9_takePlace_37 {p : Program} {l : Launch} {e : Env} {s : State} {m : MethodId} {args : Array Value} {below : List Frame} {meth : Method} {c₀ : Code} {D : va_G} {cy : Nat → ClassId} {ad : Nat → Nat} {Q : State → Prop} (X : MX p s m args meth c₀ cX9_takePlace 4 RX9 (some .boolean) wsX9_takePlace D cy) (a0 : Int) (ha0 : (-2147483648 ≤ a0 ∧ a0 < 2147483648)) : ∀ (n : Nat) (x2 : Int) (x3 : Int) (σ : Sg) (hx2 : (0 : Int) ≤ x2 ∧ x2 ≤ 1) (hx3 : (0 : Int) ≤ x3 ∧ x3 ≤ 80) (hmu : 80 - x3 < (n : Int)) (H : Heap) (locs : List Loc) (ls : Array Slot) (hI : HI D cy ad s σ H locs) (hl : lv_has ls 4 [(0, .ref (ad 0)), (2, .int (iI x2)), (3, .int (iI x3))])  (hk : ∀ (H1 : Heap) (locs1 : List Loc) (ls1 : Array Slot), True → HI D cy ad s (L_X9_takePlace_37 a0 n x2 x3 σ) H1 locs1 → lv_has ls1 4 [(0, .ref (ad 0)), (2, .int (iI x2))] → W p l e { frames := 3, cells := 0, slots := 0, locals := 120 } s m args below meth c₀ H1 locs1 0 0 Q (F0 m 69 ls1 [])), W p l e { frames := 3, cells := 0, slots := 0, locals := 120 } s m args below meth c₀ H locs 0 0 Q (F0 m 37 ls []) := by
  obtain ⟨hx, hb, hr, hml, hown, hts, hlocks, hK, hN⟩ := id X
  intro n
  induction n with
  | zero =>
    intro x2 x3 σ hx2 hx3 hmu H locs ls hI hl hk
    exfalso
    have hF := hI.2.2.2
    omega
  | succ n ih =>
    intro x2 x3 σ hx2 hx3 hmu H locs ls hI hl hk
    have hF := hI.2.2.2
    refine lv_iload_n hx hb dX9_takePlace_37 rfl (lv_at hl 2 rfl) ?_
    refine lv_aload_n hx hb dX9_takePlace_38 rfl (lv_at hl 0 rfl) ?_
    refine g_get (C := RX9) (T := TX9) (N := 11) (ci := 8) (v := .ref (ad 1)) hx hb hts in_X9_takePlace_X9 hown hK hI 0 (by decide) (cel_0 cy ad _) rfl 0 (by decide) (by decide +kernel) rfl dX9_takePlace_39 ?_
    refine g_V (As := []) (rest := [.int (iI x3)]) 1 (c_X8_length l D cy ad σ ) hx hb hml hown hts hK hN hI hl.1 gX9_takePlace_X8_length rfl hd_X8_length rfl rfl ⟨Nat.le_of_ble_eq_true rfl, Nat.le_of_ble_eq_true rfl⟩ ⟨Nat.zero_le _, Nat.zero_le _⟩ (by decide) (cel_1 cy ad _) rfl rfl rfl rfl (Nat.le_of_ble_eq_true rfl) dX9_takePlace_42 (fun H locs hG_14 hI => ?_)
    refine g_icmp_ge (tgt := 69) hx hb dX9_takePlace_45 (by decide) (by omega) (by omega) (fun c_15 => ?_) (fun c_15 => ?_)
    · skip
      have e9 : L_X9_takePlace_37 a0 (n + 1) x2 x3 σ = σ := by rw [L_X9_takePlace_37, if_pos c_15]
      rw [e9] at hk
      exact hk _ _ _ trivial hI (lv_sub hl [0, 1] rfl)
    · skip
      refine lv_aload_n hx hb dX9_takePlace_48 rfl (lv_at hl 0 rfl) ?_
      refine g_get (C := RX9) (T := TX9) (N := 11) (ci := 8) (v := .ref (ad 57)) hx hb hts in_X9_takePlace_X9 hown hK hI 0 (by decide) (cel_0 cy ad _) rfl 1 (by decide) (by decide +kernel) rfl dX9_takePlace_49 ?_
      refine lv_aload_n hx hb dX9_takePlace_52 rfl (lv_at hl 0 rfl) ?_
      refine g_get (C := RX9) (T := TX9) (N := 11) (ci := 8) (v := .ref (ad 1)) hx hb hts in_X9_takePlace_X9 hown hK hI 0 (by decide) (cel_0 cy ad _) rfl 0 (by decide) (by decide +kernel) rfl dX9_takePlace_53 ?_
      refine lv_iload_n hx hb dX9_takePlace_56 rfl (lv_at hl 2 rfl) ?_
      refine g_V (As := [.int (iI x3)]) (rest := [.ref (ad 57)]) 1 (c_X8_byteAt l D cy ad σ x3 (by omega)) hx hb hml hown hts hK hN hI hl.1 gX9_takePlace_X8_byteAt rfl hd_X8_byteAt rfl rfl ⟨Nat.le_of_ble_eq_true rfl, Nat.le_of_ble_eq_true rfl⟩ ⟨Nat.zero_le _, Nat.zero_le _⟩ (by decide) (cel_1 cy ad _) rfl rfl rfl rfl (Nat.le_of_ble_eq_true rfl) dX9_takePlace_57 (fun H locs hG_16 hI => ?_)
      refine g_V (As := [.int (iI (f_X8_byteAt σ x3))]) (rest := []) 57 (c_X2_add l D cy ad σ 57 (by omega : isPl 57) (f_X8_byteAt σ x3) (by omega)) hx hb hml hown hts hK hN hI hl.1 gX9_takePlace_X2_add rfl hd_X2_add rfl rfl ⟨Nat.le_of_ble_eq_true rfl, Nat.le_of_ble_eq_true rfl⟩ ⟨Nat.zero_le _, Nat.zero_le _⟩ (by have q := (by omega : isPl 57); omega) (cel_Pl cy ad (by omega : isPl 57) _) rfl rfl rfl rfl (Nat.le_of_ble_eq_true rfl) dX9_takePlace_60 (fun H locs hG_17 hI => ?_)
      have hF_18 := hI.2.2.2
      refine lv_iinc (v := iI (x3 + 1)) (lv' := [(3, .int (iI (x3 + 1))), (0, .ref (ad 0)), (2, .int (iI x2))]) hx hb dX9_takePlace_63 hl (k := 2) rfl (iI_add _ _) (by decide) rfl (fun ls hl => ?_)
      refine lv_goto (tgt := 37) hx hb dX9_takePlace_66 (by decide) ?_
      have e9 : L_X9_takePlace_37 a0 (n + 1) x2 x3 σ = L_X9_takePlace_37 a0 n x2 (x3 + 1) (f_X2_add σ 57 (f_X8_byteAt σ x3)) := by rw [L_X9_takePlace_37, if_neg c_15]
      rw [e9] at hk
      exact ih x2 (x3 + 1) (f_X2_add σ 57 (f_X8_byteAt σ x3)) (by omega) (by omega) (by omega) _ _ _ hI (lv_sub hl [1, 2, 0] rfl) hk
def f_X9_takePlace (σ : Sg) (a0 : Int) : Int × Sg := (if (f_X9_isFolder a0) = 0 then (0, (f_X8_clear σ)) else (if (f_X8_isName σ) = 0 then (0, (f_X8_clear σ)) else (1, (f_X8_clear (L_X9_takePlace_37 a0 81 1 0 (f_X2_begin σ 57 a0))))))
theorem hd_X9_takePlace : yX9_takePlace.cls = RX9 ∧ yX9_takePlace.cls ≠ "java/lang/invoke/MethodHandle" ∧ yX9_takePlace.cls ≠ "java/lang/invoke/VarHandle" ∧ (parseMethodDescriptor yX9_takePlace.desc).map (fun d => d.parameters.length) = some 1 := by decide +kernel
set_option maxHeartbeats 4000000 in
set_option maxRecDepth 100000 in
theorem c_X9_takePlace (l : Launch) (D : va_G) (cy : Nat → ClassId) (ad : Nat → Nat) (σ : Sg) (a0 : Int) (ha0 : (-2147483648 ≤ a0 ∧ a0 < 2147483648)) : CM l D cy ad yX9_takePlace wsX9_takePlace { frames := 3, cells := 0, slots := 0, locals := 120 } [.ref (ad 0), .int (iI a0)] σ (some (.int (iI ((f_X9_takePlace σ a0).1)))) ((f_X9_takePlace σ a0).2) ((0 ≤ (f_X9_takePlace σ a0).1 ∧ (f_X9_takePlace σ a0).1 ≤ 1)) := by
  refine CM.of (cc := cX9_takePlace) (maxL := 4) (ret := (some .boolean)) (by decide) rfl (Nat.le_of_ble_eq_true rfl) ?_
  intro p e s m args below meth c₀ ls X hI hl
  have hl : lv_has ls 4 [(0, .ref (ad 0)), (1, .int (iI a0))] := hl
  obtain ⟨hx, hb, hr, hml, hown, hts, hlocks, hK, hN⟩ := id X
  have hF := hI.2.2.2
  refine lv_iload_n hx hb dX9_takePlace_0 rfl (lv_at hl 1 rfl) ?_
  refine g_S (As := [.int (iI a0)]) (rest := []) (c_X9_isFolder l D cy ad σ a0 (by omega)) hx hb hml hown hts hK hN hI hl.1 gX9_takePlace_X9_isFolder rfl hd_X9_isFolder rfl rfl ⟨Nat.le_of_ble_eq_true rfl, Nat.le_of_ble_eq_true rfl⟩ ⟨Nat.zero_le _, Nat.zero_le _⟩ rfl rfl (Nat.le_of_ble_eq_true rfl) dX9_takePlace_1 (fun H locs hG_1 hI => ?_)
  refine g_if_eq (tgt := 21) hx hb dX9_takePlace_4 (by decide) (by omega) (fun c_2 => ?_) (fun c_2 => ?_)
  · skip
    refine lv_iconst (v := iI 0) hx hb dX9_takePlace_21 rfl ?_
    refine lv_istore_n (lv' := [(2, .int (iI 0)), (0, .ref (ad 0)), (1, .int (iI a0))]) hx hb dX9_takePlace_22 rfl hl (by decide) rfl (fun ls hl => ?_)
    refine lv_iload_n hx hb dX9_takePlace_23 rfl (lv_at hl 0 rfl) ?_
    refine g_if_eq (tgt := 69) hx hb dX9_takePlace_24 (by decide) (by omega) (fun c_3 => ?_) (fun c_3 => ?_)
    · skip
      refine lv_aload_n hx hb dX9_takePlace_69 rfl (lv_at hl 1 rfl) ?_
      refine g_get (C := RX9) (T := TX9) (N := 11) (ci := 8) (v := .ref (ad 1)) hx hb hts in_X9_takePlace_X9 hown hK hI 0 (by decide) (cel_0 cy ad _) rfl 0 (by decide) (by decide +kernel) rfl dX9_takePlace_70 ?_
      refine g_V (As := []) (rest := []) 1 (c_X8_clear l D cy ad σ ) hx hb hml hown hts hK hN hI hl.1 gX9_takePlace_X8_clear rfl hd_X8_clear rfl rfl ⟨Nat.le_of_ble_eq_true rfl, Nat.le_of_ble_eq_true rfl⟩ ⟨Nat.zero_le _, Nat.zero_le _⟩ (by decide) (cel_1 cy ad _) rfl rfl rfl rfl (Nat.le_of_ble_eq_true rfl) dX9_takePlace_73 (fun H locs hG_4 hI => ?_)
      have hF_5 := hI.2.2.2
      refine lv_iload_n hx hb dX9_takePlace_76 rfl (lv_at hl 0 rfl) ?_
      have e9 : f_X9_takePlace σ a0 = (0, (f_X8_clear σ)) := by rw [f_X9_takePlace, if_pos c_2]
      exact g_zret (z := 0) hx hb hr hK hN hlocks hI (by rw [e9]) (by rw [e9]) (by rw [e9] <;> first | (omega) | (dsimp only; omega)) (by omega) dX9_takePlace_77
    · exact absurd (by decide) c_3
  · skip
    refine lv_aload_n hx hb dX9_takePlace_7 rfl (lv_at hl 0 rfl) ?_
    refine g_get (C := RX9) (T := TX9) (N := 11) (ci := 8) (v := .ref (ad 1)) hx hb hts in_X9_takePlace_X9 hown hK hI 0 (by decide) (cel_0 cy ad _) rfl 0 (by decide) (by decide +kernel) rfl dX9_takePlace_8 ?_
    refine g_V (As := []) (rest := []) 1 (c_X8_isName l D cy ad σ ) hx hb hml hown hts hK hN hI hl.1 gX9_takePlace_X8_isName rfl hd_X8_isName rfl rfl ⟨Nat.le_of_ble_eq_true rfl, Nat.le_of_ble_eq_true rfl⟩ ⟨Nat.zero_le _, Nat.zero_le _⟩ (by decide) (cel_1 cy ad _) rfl rfl rfl rfl (Nat.le_of_ble_eq_true rfl) dX9_takePlace_11 (fun H locs hG_6 hI => ?_)
    refine g_if_eq (tgt := 21) hx hb dX9_takePlace_14 (by decide) (by omega) (fun c_7 => ?_) (fun c_7 => ?_)
    · skip
      refine lv_iconst (v := iI 0) hx hb dX9_takePlace_21 rfl ?_
      refine lv_istore_n (lv' := [(2, .int (iI 0)), (0, .ref (ad 0)), (1, .int (iI a0))]) hx hb dX9_takePlace_22 rfl hl (by decide) rfl (fun ls hl => ?_)
      refine lv_iload_n hx hb dX9_takePlace_23 rfl (lv_at hl 0 rfl) ?_
      refine g_if_eq (tgt := 69) hx hb dX9_takePlace_24 (by decide) (by omega) (fun c_8 => ?_) (fun c_8 => ?_)
      · skip
        refine lv_aload_n hx hb dX9_takePlace_69 rfl (lv_at hl 1 rfl) ?_
        refine g_get (C := RX9) (T := TX9) (N := 11) (ci := 8) (v := .ref (ad 1)) hx hb hts in_X9_takePlace_X9 hown hK hI 0 (by decide) (cel_0 cy ad _) rfl 0 (by decide) (by decide +kernel) rfl dX9_takePlace_70 ?_
        refine g_V (As := []) (rest := []) 1 (c_X8_clear l D cy ad σ ) hx hb hml hown hts hK hN hI hl.1 gX9_takePlace_X8_clear rfl hd_X8_clear rfl rfl ⟨Nat.le_of_ble_eq_true rfl, Nat.le_of_ble_eq_true rfl⟩ ⟨Nat.zero_le _, Nat.zero_le _⟩ (by decide) (cel_1 cy ad _) rfl rfl rfl rfl (Nat.le_of_ble_eq_true rfl) dX9_takePlace_73 (fun H locs hG_9 hI => ?_)
        have hF_10 := hI.2.2.2
        refine lv_iload_n hx hb dX9_takePlace_76 rfl (lv_at hl 0 rfl) ?_
        have e9 : f_X9_takePlace σ a0 = (0, (f_X8_clear σ)) := by rw [f_X9_takePlace, if_neg c_2, if_pos c_7]
        exact g_zret (z := 0) hx hb hr hK hN hlocks hI (by rw [e9]) (by rw [e9]) (by rw [e9] <;> first | (omega) | (dsimp only; omega)) (by omega) dX9_takePlace_77
      · exact absurd (by decide) c_8
    · skip
      refine lv_iconst (v := iI 1) hx hb dX9_takePlace_17 rfl ?_
      refine lv_goto (tgt := 22) hx hb dX9_takePlace_18 (by decide) ?_
      refine lv_istore_n (lv' := [(2, .int (iI 1)), (0, .ref (ad 0)), (1, .int (iI a0))]) hx hb dX9_takePlace_22 rfl hl (by decide) rfl (fun ls hl => ?_)
      refine lv_iload_n hx hb dX9_takePlace_23 rfl (lv_at hl 0 rfl) ?_
      refine g_if_eq (tgt := 69) hx hb dX9_takePlace_24 (by decide) (by omega) (fun c_11 => ?_) (fun c_11 => ?_)
      · exact absurd c_11 (by decide)
      · skip
        refine lv_aload_n hx hb dX9_takePlace_27 rfl (lv_at hl 1 rfl) ?_
        refine g_get (C := RX9) (T := TX9) (N := 11) (ci := 8) (v := .ref (ad 57)) hx hb hts in_X9_takePlace_X9 hown hK hI 0 (by decide) (cel_0 cy ad _) rfl 1 (by decide) (by decide +kernel) rfl dX9_takePlace_28 ?_
        refine lv_iload_n hx hb dX9_takePlace_31 rfl (lv_at hl 2 rfl) ?_
        refine g_V (As := [.int (iI a0)]) (rest := []) 57 (c_X2_begin l D cy ad σ 57 (by omega : isPl 57) a0 (by omega)) hx hb hml hown hts hK hN hI hl.1 gX9_takePlace_X2_begin rfl hd_X2_begin rfl rfl ⟨Nat.le_of_ble_eq_true rfl, Nat.le_of_ble_eq_true rfl⟩ ⟨Nat.zero_le _, Nat.zero_le _⟩ (by have q := (by omega : isPl 57); omega) (cel_Pl cy ad (by omega : isPl 57) _) rfl rfl rfl rfl (Nat.le_of_ble_eq_true rfl) dX9_takePlace_32 (fun H locs hG_12 hI => ?_)
        have hF_13 := hI.2.2.2
        refine lv_iconst (v := iI 0) hx hb dX9_takePlace_35 rfl ?_
        refine lv_istore_n (lv' := [(3, .int (iI 0)), (2, .int (iI 1)), (0, .ref (ad 0)), (1, .int (iI a0))]) hx hb dX9_takePlace_36 rfl hl (by decide) rfl (fun ls hl => ?_)
        refine w_L_X9_takePlace_37 X  a0 ha0  81 1 0 (f_X2_begin σ 57 a0) (by omega) (by omega) (by omega) _ _ _ hI (lv_sub hl [2, 1, 0] rfl) (fun H locs ls hpo_20 hI hl => ?_)
        have hF_19 := hI.2.2.2
        refine lv_aload_n hx hb dX9_takePlace_69 rfl (lv_at hl 0 rfl) ?_
        refine g_get (C := RX9) (T := TX9) (N := 11) (ci := 8) (v := .ref (ad 1)) hx hb hts in_X9_takePlace_X9 hown hK hI 0 (by decide) (cel_0 cy ad _) rfl 0 (by decide) (by decide +kernel) rfl dX9_takePlace_70 ?_
        refine g_V (As := []) (rest := []) 1 (c_X8_clear l D cy ad (L_X9_takePlace_37 a0 81 1 0 (f_X2_begin σ 57 a0)) ) hx hb hml hown hts hK hN hI hl.1 gX9_takePlace_X8_clear rfl hd_X8_clear rfl rfl ⟨Nat.le_of_ble_eq_true rfl, Nat.le_of_ble_eq_true rfl⟩ ⟨Nat.zero_le _, Nat.zero_le _⟩ (by decide) (cel_1 cy ad _) rfl rfl rfl rfl (Nat.le_of_ble_eq_true rfl) dX9_takePlace_73 (fun H locs hG_21 hI => ?_)
        have hF_22 := hI.2.2.2
        refine lv_iload_n hx hb dX9_takePlace_76 rfl (lv_at hl 1 rfl) ?_
        have e9 : f_X9_takePlace σ a0 = (1, (f_X8_clear (L_X9_takePlace_37 a0 81 1 0 (f_X2_begin σ 57 a0)))) := by rw [f_X9_takePlace, if_neg c_2, if_neg c_7]
        exact g_zret (z := 1) hx hb hr hK hN hlocks hI (by rw [e9]) (by rw [e9]) (by rw [e9] <;> first | (omega) | (dsimp only; omega)) (by omega) dX9_takePlace_77
theorem in_X9_move_X9 : ∀ w ∈ u_ws RX9 TX9 11, w ∈ wsX9_move := by decide +kernel
def f_X9_move (σ : Sg) (a0 : Int) (q1 : Nat) : Sg := (f_X2_become (f_X1_follow σ (f_X7_placeOf σ a0) q1) (f_X7_placeOf σ a0) q1)
theorem hd_X9_move : yX9_move.cls = RX9 ∧ yX9_move.cls ≠ "java/lang/invoke/MethodHandle" ∧ yX9_move.cls ≠ "java/lang/invoke/VarHandle" ∧ (parseMethodDescriptor yX9_move.desc).map (fun d => d.parameters.length) = some 2 := by decide +kernel
set_option maxHeartbeats 4000000 in
set_option maxRecDepth 100000 in
theorem c_X9_move (l : Launch) (D : va_G) (cy : Nat → ClassId) (ad : Nat → Nat) (σ : Sg) (a0 : Int) (ha0 : (0 : Int) ≤ a0 ∧ a0 ≤ 39) (q1 : Nat) (hq1 : isPl q1) : CM l D cy ad yX9_move wsX9_move { frames := 4, cells := 0, slots := 0, locals := 160 } [.ref (ad 0), .int (iI a0), .ref (ad q1)] σ none (f_X9_move σ a0 q1) (True) := by
  refine CM.of (cc := cX9_move) (maxL := 4) (ret := none) (by decide) rfl (Nat.le_of_ble_eq_true rfl) ?_
  intro p e s m args below meth c₀ ls X hI hl
  have hl : lv_has ls 4 [(0, .ref (ad 0)), (1, .int (iI a0)), (2, .ref (ad q1))] := hl
  obtain ⟨hx, hb, hr, hml, hown, hts, hlocks, hK, hN⟩ := id X
  have hF := hI.2.2.2
  refine lv_aload_n hx hb dX9_move_0 rfl (lv_at hl 0 rfl) ?_
  refine g_get (C := RX9) (T := TX9) (N := 11) (ci := 8) (v := .ref (ad 3)) hx hb hts in_X9_move_X9 hown hK hI 0 (by decide) (cel_0 cy ad _) rfl 2 (by decide) (by decide +kernel) rfl dX9_move_1 ?_
  refine lv_iload_n hx hb dX9_move_4 rfl (lv_at hl 1 rfl) ?_
  refine g_V (As := [.int (iI a0)]) (rest := []) 3 (c_X7_placeOf l D cy ad σ a0 (by omega)) hx hb hml hown hts hK hN hI hl.1 gX9_move_X7_placeOf rfl hd_X7_placeOf rfl rfl ⟨Nat.le_of_ble_eq_true rfl, Nat.le_of_ble_eq_true rfl⟩ ⟨Nat.zero_le _, Nat.zero_le _⟩ (by decide) (cel_3 cy ad _) rfl rfl rfl rfl (Nat.le_of_ble_eq_true rfl) dX9_move_5 (fun H locs hG_1 hI => ?_)
  refine lv_astore_n (lv' := [(3, .ref (ad (f_X7_placeOf σ a0))), (0, .ref (ad 0)), (1, .int (iI a0)), (2, .ref (ad q1))]) hx hb dX9_move_8 rfl hl (by decide) rfl (fun ls hl => ?_)
  refine lv_aload_n hx hb dX9_move_9 rfl (lv_at hl 1 rfl) ?_
  refine g_get (C := RX9) (T := TX9) (N := 11) (ci := 8) (v := .ref (ad 7)) hx hb hts in_X9_move_X9 hown hK hI 0 (by decide) (cel_0 cy ad _) rfl 3 (by decide) (by decide +kernel) rfl dX9_move_10 ?_
  refine lv_aload_n hx hb dX9_move_13 rfl (lv_at hl 0 rfl) ?_
  refine lv_aload_n hx hb dX9_move_14 rfl (lv_at hl 3 rfl) ?_
  refine g_V (As := [.ref (ad (f_X7_placeOf σ a0)), .ref (ad q1)]) (rest := []) 7 (c_X1_follow l D cy ad σ (f_X7_placeOf σ a0) hG_1 q1 hq1) hx hb hml hown hts hK hN hI hl.1 gX9_move_X1_follow rfl hd_X1_follow rfl rfl ⟨Nat.le_of_ble_eq_true rfl, Nat.le_of_ble_eq_true rfl⟩ ⟨Nat.zero_le _, Nat.zero_le _⟩ (by decide) (cel_7 cy ad _) rfl rfl rfl rfl (Nat.le_of_ble_eq_true rfl) dX9_move_15 (fun H locs hG_2 hI => ?_)
  have hF_3 := hI.2.2.2
  refine lv_aload_n hx hb dX9_move_18 rfl (lv_at hl 0 rfl) ?_
  refine lv_aload_n hx hb dX9_move_19 rfl (lv_at hl 3 rfl) ?_
  refine g_V (As := [.ref (ad q1)]) (rest := []) (f_X7_placeOf σ a0) (c_X2_become l D cy ad (f_X1_follow σ (f_X7_placeOf σ a0) q1) (f_X7_placeOf σ a0) hG_1 q1 hq1) hx hb hml hown hts hK hN hI hl.1 gX9_move_X2_become rfl hd_X2_become rfl rfl ⟨Nat.le_of_ble_eq_true rfl, Nat.le_of_ble_eq_true rfl⟩ ⟨Nat.zero_le _, Nat.zero_le _⟩ (by have q := hG_1; omega) (cel_Pl cy ad hG_1 _) rfl rfl rfl rfl (Nat.le_of_ble_eq_true rfl) dX9_move_20 (fun H locs hG_4 hI => ?_)
  have hF_5 := hI.2.2.2
  have e9 : f_X9_move σ a0 q1 = (f_X2_become (f_X1_follow σ (f_X7_placeOf σ a0) q1) (f_X7_placeOf σ a0) q1) := by rw [f_X9_move]
  exact g_vret hx hb hr hK hN hlocks hI (by rw [e9]) trivial dX9_move_23
theorem in_X9_tryMove_X9 : ∀ w ∈ u_ws RX9 TX9 11, w ∈ wsX9_tryMove := by decide +kernel
def f_X9_tryMove (σ : Sg) (a0 : Int) (q1 : Nat) (q2 : Nat) : Int × Sg := (if (f_X7_has σ a0) = 0 then (1, σ) else (if (f_X2_isJust σ (f_X7_placeOf σ a0) q1) = 0 then (2, σ) else (if (f_X7_findAlike σ q2 a0) = (-1) then (0, (f_X9_move σ a0 q2)) else (3, σ))))
theorem hd_X9_tryMove : yX9_tryMove.cls = RX9 ∧ yX9_tryMove.cls ≠ "java/lang/invoke/MethodHandle" ∧ yX9_tryMove.cls ≠ "java/lang/invoke/VarHandle" ∧ (parseMethodDescriptor yX9_tryMove.desc).map (fun d => d.parameters.length) = some 3 := by decide +kernel
set_option maxHeartbeats 4000000 in
set_option maxRecDepth 100000 in
theorem c_X9_tryMove (l : Launch) (D : va_G) (cy : Nat → ClassId) (ad : Nat → Nat) (σ : Sg) (a0 : Int) (ha0 : (-2147483648 ≤ a0 ∧ a0 < 2147483648)) (q1 : Nat) (hq1 : isPl q1) (q2 : Nat) (hq2 : isPl q2) : CM l D cy ad yX9_tryMove wsX9_tryMove { frames := 5, cells := 0, slots := 0, locals := 200 } [.ref (ad 0), .int (iI a0), .ref (ad q1), .ref (ad q2)] σ (some (.int (iI ((f_X9_tryMove σ a0 q1 q2).1)))) ((f_X9_tryMove σ a0 q1 q2).2) (0 ≤ ((f_X9_tryMove σ a0 q1 q2).1) ∧ ((f_X9_tryMove σ a0 q1 q2).1) ≤ 3) := by
  refine CM.of (cc := cX9_tryMove) (maxL := 4) (ret := (some .int)) (by decide) rfl (Nat.le_of_ble_eq_true rfl) ?_
  intro p e s m args below meth c₀ ls X hI hl
  have hl : lv_has ls 4 [(0, .ref (ad 0)), (1, .int (iI a0)), (2, .ref (ad q1)), (3, .ref (ad q2))] := hl
  obtain ⟨hx, hb, hr, hml, hown, hts, hlocks, hK, hN⟩ := id X
  have hF := hI.2.2.2
  refine lv_aload_n hx hb dX9_tryMove_0 rfl (lv_at hl 0 rfl) ?_
  refine g_get (C := RX9) (T := TX9) (N := 11) (ci := 8) (v := .ref (ad 3)) hx hb hts in_X9_tryMove_X9 hown hK hI 0 (by decide) (cel_0 cy ad _) rfl 2 (by decide) (by decide +kernel) rfl dX9_tryMove_1 ?_
  refine lv_iload_n hx hb dX9_tryMove_4 rfl (lv_at hl 1 rfl) ?_
  refine g_V (As := [.int (iI a0)]) (rest := []) 3 (c_X7_has l D cy ad σ a0 (by omega)) hx hb hml hown hts hK hN hI hl.1 gX9_tryMove_X7_has rfl hd_X7_has rfl rfl ⟨Nat.le_of_ble_eq_true rfl, Nat.le_of_ble_eq_true rfl⟩ ⟨Nat.zero_le _, Nat.zero_le _⟩ (by decide) (cel_3 cy ad _) rfl rfl rfl rfl (Nat.le_of_ble_eq_true rfl) dX9_tryMove_5 (fun H locs hG_1 hI => ?_)
  refine g_if_ne (tgt := 13) hx hb dX9_tryMove_8 (by decide) (by omega) (fun c_2 => ?_) (fun c_2 => ?_)
  · skip
    refine lv_aload_n hx hb dX9_tryMove_13 rfl (lv_at hl 0 rfl) ?_
    refine g_get (C := RX9) (T := TX9) (N := 11) (ci := 8) (v := .ref (ad 3)) hx hb hts in_X9_tryMove_X9 hown hK hI 0 (by decide) (cel_0 cy ad _) rfl 2 (by decide) (by decide +kernel) rfl dX9_tryMove_14 ?_
    refine lv_iload_n hx hb dX9_tryMove_17 rfl (lv_at hl 1 rfl) ?_
    refine g_V (As := [.int (iI a0)]) (rest := []) 3 (c_X7_placeOf l D cy ad σ a0 (by omega)) hx hb hml hown hts hK hN hI hl.1 gX9_tryMove_X7_placeOf rfl hd_X7_placeOf rfl rfl ⟨Nat.le_of_ble_eq_true rfl, Nat.le_of_ble_eq_true rfl⟩ ⟨Nat.zero_le _, Nat.zero_le _⟩ (by decide) (cel_3 cy ad _) rfl rfl rfl rfl (Nat.le_of_ble_eq_true rfl) dX9_tryMove_18 (fun H locs hG_3 hI => ?_)
    refine lv_aload_n hx hb dX9_tryMove_21 rfl (lv_at hl 2 rfl) ?_
    refine g_V (As := [.ref (ad q1)]) (rest := []) (f_X7_placeOf σ a0) (c_X2_isJust l D cy ad σ (f_X7_placeOf σ a0) hG_3 q1 hq1) hx hb hml hown hts hK hN hI hl.1 gX9_tryMove_X2_isJust rfl hd_X2_isJust rfl rfl ⟨Nat.le_of_ble_eq_true rfl, Nat.le_of_ble_eq_true rfl⟩ ⟨Nat.zero_le _, Nat.zero_le _⟩ (by have q := hG_3; omega) (cel_Pl cy ad hG_3 _) rfl rfl rfl rfl (Nat.le_of_ble_eq_true rfl) dX9_tryMove_22 (fun H locs hG_4 hI => ?_)
    refine g_if_ne (tgt := 30) hx hb dX9_tryMove_25 (by decide) (by omega) (fun c_5 => ?_) (fun c_5 => ?_)
    · skip
      refine lv_aload_n hx hb dX9_tryMove_30 rfl (lv_at hl 0 rfl) ?_
      refine g_get (C := RX9) (T := TX9) (N := 11) (ci := 8) (v := .ref (ad 3)) hx hb hts in_X9_tryMove_X9 hown hK hI 0 (by decide) (cel_0 cy ad _) rfl 2 (by decide) (by decide +kernel) rfl dX9_tryMove_31 ?_
      refine lv_aload_n hx hb dX9_tryMove_34 rfl (lv_at hl 3 rfl) ?_
      refine lv_iload_n hx hb dX9_tryMove_35 rfl (lv_at hl 1 rfl) ?_
      refine g_V (As := [.ref (ad q2), .int (iI a0)]) (rest := []) 3 (c_X7_findAlike l D cy ad σ q2 hq2 a0 (by omega)) hx hb hml hown hts hK hN hI hl.1 gX9_tryMove_X7_findAlike rfl hd_X7_findAlike rfl rfl ⟨Nat.le_of_ble_eq_true rfl, Nat.le_of_ble_eq_true rfl⟩ ⟨Nat.zero_le _, Nat.zero_le _⟩ (by decide) (cel_3 cy ad _) rfl rfl rfl rfl (Nat.le_of_ble_eq_true rfl) dX9_tryMove_36 (fun H locs hG_6 hI => ?_)
      refine lv_iconst (v := iI (-1)) hx hb dX9_tryMove_39 rfl ?_
      refine g_icmp_eq (tgt := 45) hx hb dX9_tryMove_40 (by decide) (by omega) (by omega) (fun c_7 => ?_) (fun c_7 => ?_)
      · skip
        refine lv_aload_n hx hb dX9_tryMove_45 rfl (lv_at hl 0 rfl) ?_
        refine lv_iload_n hx hb dX9_tryMove_46 rfl (lv_at hl 1 rfl) ?_
        refine lv_aload_n hx hb dX9_tryMove_47 rfl (lv_at hl 3 rfl) ?_
        refine g_V (As := [.int (iI a0), .ref (ad q2)]) (rest := []) 0 (c_X9_move l D cy ad σ a0 (by omega) q2 hq2) hx hb hml hown hts hK hN hI hl.1 gX9_tryMove_X9_move rfl hd_X9_move rfl rfl ⟨Nat.le_of_ble_eq_true rfl, Nat.le_of_ble_eq_true rfl⟩ ⟨Nat.zero_le _, Nat.zero_le _⟩ (by decide) (cel_0 cy ad _) rfl rfl rfl rfl (Nat.le_of_ble_eq_true rfl) dX9_tryMove_48 (fun H locs hG_8 hI => ?_)
        have hF_9 := hI.2.2.2
        refine lv_iconst (v := iI 0) hx hb dX9_tryMove_51 rfl ?_
        have e9 : f_X9_tryMove σ a0 q1 q2 = (0, (f_X9_move σ a0 q2)) := by rw [f_X9_tryMove, if_neg c_2, if_neg c_5, if_pos c_7]
        exact g_iret (z := 0) hx hb hr hK hN hlocks hI (by rw [e9]) (by rw [e9]) (by rw [e9] <;> first | (omega) | (dsimp only; omega)) dX9_tryMove_52
      · skip
        refine lv_iconst (v := iI 3) hx hb dX9_tryMove_43 rfl ?_
        have e9 : f_X9_tryMove σ a0 q1 q2 = (3, σ) := by rw [f_X9_tryMove, if_neg c_2, if_neg c_5, if_neg c_7]
        exact g_iret (z := 3) hx hb hr hK hN hlocks hI (by rw [e9]) (by rw [e9]) (by rw [e9] <;> first | (omega) | (dsimp only; omega)) dX9_tryMove_44
    · skip
      refine lv_iconst (v := iI 2) hx hb dX9_tryMove_28 rfl ?_
      have e9 : f_X9_tryMove σ a0 q1 q2 = (2, σ) := by rw [f_X9_tryMove, if_neg c_2, if_pos c_5]
      exact g_iret (z := 2) hx hb hr hK hN hlocks hI (by rw [e9]) (by rw [e9]) (by rw [e9] <;> first | (omega) | (dsimp only; omega)) dX9_tryMove_29
  · skip
    refine lv_iconst (v := iI 1) hx hb dX9_tryMove_11 rfl ?_
    have e9 : f_X9_tryMove σ a0 q1 q2 = (1, σ) := by rw [f_X9_tryMove, if_pos c_2]
    exact g_iret (z := 1) hx hb hr hK hN hlocks hI (by rw [e9]) (by rw [e9]) (by rw [e9] <;> first | (omega) | (dsimp only; omega)) dX9_tryMove_12
