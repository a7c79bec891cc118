theorem in_X10_firstOf_X10 : ∀ w ∈ u_ws RX10 TX10 44, w ∈ wsX10_firstOf := by decide +kernel
def L_X10_firstOf_4 (σ : Sg) (a0 : Int) : Nat → Int → Int → Int
  | 0, x2, x3 => (x2)
  | n + 1, x2, x3 => (if a0 ≤ x3 then x2 else L_X10_firstOf_4 σ a0 n (x2 + (σ 40 x3.toNat)) (x3 + 1))
set_option maxHeartbeats 4000000 in
set_option maxRecDepth 100000 in
theorem w_L_X10_firstOf_4 {p : Program} {l : Launch} {e : Env} {s : State} {m : MethodId} {args : Array Value} {below : List Frame} {meth : Method} {c₀ : Code} {D : va_G} {cy : Nat → ClassId} {ad : Nat → Nat} {Q : State → Prop} (X : MX p s m args meth c₀ cX10_firstOf 4 RX10 (some .int) wsX10_firstOf D cy) (σ : Sg) (a0 : Int) (ha0 : (-1 : Int) ≤ a0 ∧ a0 ≤ 12) : ∀ (n : Nat) (x2 : Int) (x3 : Int) (hx2 : (0 : Int) ≤ x2 ∧ x2 ≤ 144) (hx3 : (0 : Int) ≤ x3 ∧ x3 ≤ 12) (hp0 : x2 ≤ 12 * x3) (hmu : 12 - x3 < (n : Int)) (H : Heap) (locs : List Loc) (ls : Array Slot) (hI : HI D cy ad s σ H locs) (hl : lv_has ls 4 [(0, .ref (ad 28)), (1, .int (iI a0)), (2, .int (iI x2)), (3, .int (iI x3))])  (hk : ∀ (H1 : Heap) (locs1 : List Loc) (ls1 : Array Slot), (0 ≤ (L_X10_firstOf_4 σ a0 n x2 x3) ∧ (L_X10_firstOf_4 σ a0 n x2 x3) ≤ 144) → HI D cy ad s σ H1 locs1 → lv_has ls1 4 [(2, .int (iI (L_X10_firstOf_4 σ a0 n x2 x3)))] → W p l e { frames := 0, cells := 0, slots := 0, locals := 0 } s m args below meth c₀ H1 locs1 0 0 Q (F0 m 24 ls1 [])), W p l e { frames := 0, cells := 0, slots := 0, locals := 0 } s m args below meth c₀ H locs 0 0 Q (F0 m 4 ls []) := by
  obtain ⟨hx, hb, hr, hml, hown, hts, hlocks, hK, hN⟩ := id X
  intro n
  induction n with
  | zero =>
    intro x2 x3 hx2 hx3 hp0 hmu H locs ls hI hl hk
    exfalso
    have hF := hI.2.2.2
    omega
  | succ n ih =>
    intro x2 x3 hx2 hx3 hp0 hmu H locs ls hI hl hk
    have hF := hI.2.2.2
    refine lv_iload_n hx hb dX10_firstOf_4 rfl (lv_at hl 3 rfl) ?_
    refine lv_iload_n hx hb dX10_firstOf_5 rfl (lv_at hl 1 rfl) ?_
    refine g_icmp_ge (tgt := 24) hx hb dX10_firstOf_6 (by decide) (by omega) (by omega) (fun c_1 => ?_) (fun c_1 => ?_)
    · skip
      have e9 : L_X10_firstOf_4 σ a0 (n + 1) x2 x3 = x2 := by rw [L_X10_firstOf_4, if_pos c_1]
      rw [e9] at hk
      exact hk _ _ _ (by first | (omega) | (dsimp only; omega)) hI (lv_sub hl [2] rfl)
    · skip
      refine lv_iload_n hx hb dX10_firstOf_9 rfl (lv_at hl 2 rfl) ?_
      refine lv_aload_n hx hb dX10_firstOf_10 rfl (lv_at hl 0 rfl) ?_
      refine g_get (C := RX10) (T := TX10) (N := 44) (ci := 9) (v := .ref (ad 40)) hx hb hts in_X10_firstOf_X10 hown hK hI 28 (by decide) (cel_28 cy ad _) rfl 23 (by decide) (by decide +kernel) rfl dX10_firstOf_11 ?_
      refine lv_iload_n hx hb dX10_firstOf_14 rfl (lv_at hl 3 rfl) ?_
      refine g_iald (v := σ 40 x3.toNat) hx hb hK hI 40 (by decide) (cel_40 cy ad) (by omega) (by decide) rfl dX10_firstOf_15 ?_
      have b_2 := bd_40 hF x3.toNat
      refine g_iadd hx hb dX10_firstOf_16 ?_
      refine lv_istore_n (lv' := [(2, .int (iI (x2 + (σ 40 x3.toNat)))), (0, .ref (ad 28)), (1, .int (iI a0)), (3, .int (iI x3))]) hx hb dX10_firstOf_17 rfl hl (by decide) rfl (fun ls hl => ?_)
      refine lv_iinc (v := iI (x3 + 1)) (lv' := [(3, .int (iI (x3 + 1))), (2, .int (iI (x2 + (σ 40 x3.toNat)))), (0, .ref (ad 28)), (1, .int (iI a0))]) hx hb dX10_firstOf_18 hl (k := 3) rfl (iI_add _ _) (by decide) rfl (fun ls hl => ?_)
      refine lv_goto (tgt := 4) hx hb dX10_firstOf_21 (by decide) ?_
      have e9 : L_X10_firstOf_4 σ a0 (n + 1) x2 x3 = L_X10_firstOf_4 σ a0 n (x2 + (σ 40 x3.toNat)) (x3 + 1) := by rw [L_X10_firstOf_4, if_neg c_1]
      rw [e9] at hk
      exact ih (x2 + (σ 40 x3.toNat)) (x3 + 1)  (by omega) (by omega) (by omega) (by omega) _ _ _ hI (lv_sub hl [2, 3, 1, 0] rfl) hk
def f_X10_firstOf (σ : Sg) (a0 : Int) : Int := (L_X10_firstOf_4 σ a0 13 0 0)
theorem hd_X10_firstOf : yX10_firstOf.cls = RX10 ∧ yX10_firstOf.cls ≠ "java/lang/invoke/MethodHandle" ∧ yX10_firstOf.cls ≠ "java/lang/invoke/VarHandle" ∧ (parseMethodDescriptor yX10_firstOf.desc).map (fun d => d.parameters.length) = some 1 := by decide +kernel
set_option maxHeartbeats 4000000 in
set_option maxRecDepth 100000 in
theorem c_X10_firstOf (l : Launch) (D : va_G) (cy : Nat → ClassId) (ad : Nat → Nat) (σ : Sg) (a0 : Int) (ha0 : (-1 : Int) ≤ a0 ∧ a0 ≤ 12) : CM l D cy ad yX10_firstOf wsX10_firstOf { frames := 0, cells := 0, slots := 0, locals := 0 } [.ref (ad 28), .int (iI a0)] σ (some (.int (iI (f_X10_firstOf σ a0)))) σ (0 ≤ (f_X10_firstOf σ a0) ∧ (f_X10_firstOf σ a0) ≤ 144) := by
  refine CM.of (cc := cX10_firstOf) (maxL := 4) (ret := (some .int)) (by decide) rfl (Nat.le_of_ble_eq_true rfl) ?_
  intro p e s m args below meth c₀ ls X hI hl
  have hl : lv_has ls 4 [(0, .ref (ad 28)), (1, .int (iI a0))] := hl
  obtain ⟨hx, hb, hr, hml, hown, hts, hlocks, hK, hN⟩ := id X
  have hF := hI.2.2.2
  refine lv_iconst (v := iI 0) hx hb dX10_firstOf_0 rfl ?_
  refine lv_istore_n (lv' := [(2, .int (iI 0)), (0, .ref (ad 28)), (1, .int (iI a0))]) hx hb dX10_firstOf_1 rfl hl (by decide) rfl (fun ls hl => ?_)
  refine lv_iconst (v := iI 0) hx hb dX10_firstOf_2 rfl ?_
  refine lv_istore_n (lv' := [(3, .int (iI 0)), (2, .int (iI 0)), (0, .ref (ad 28)), (1, .int (iI a0))]) hx hb dX10_firstOf_3 rfl hl (by decide) rfl (fun ls hl => ?_)
  refine w_L_X10_firstOf_4 X σ a0 ha0  13 0 0  (by omega) (by omega) (by omega) (by omega) _ _ _ hI (lv_sub hl [2, 3, 1, 0] rfl) (fun H locs ls hpo_4 hI hl => ?_)
  refine lv_iload_n hx hb dX10_firstOf_24 rfl (lv_at hl 0 rfl) ?_
  have e9 : f_X10_firstOf σ a0 = (L_X10_firstOf_4 σ a0 13 0 0) := by rw [f_X10_firstOf]
  exact g_iret (z := (L_X10_firstOf_4 σ a0 13 0 0)) hx hb hr hK hN hlocks hI e9.symm rfl (by rw [e9] <;> first | (omega) | (dsimp only; omega)) dX10_firstOf_25
theorem in_X10_isEarlier_X10 : ∀ w ∈ u_ws RX10 TX10 44, w ∈ wsX10_isEarlier := by decide +kernel
def L_X10_isEarlier_2 (σ : Sg) (a0 : Int) (a1 : Int) : Nat → Int → Int
  | 0, x3 => 0
  | n + 1, x3 => (if (σ 30 a0.toNat) ≤ x3 then (if (σ 30 a1.toNat) ≤ (σ 30 a0.toNat) then 0 else 1) else (if (σ 30 a1.toNat) ≤ x3 then (if (σ 30 a1.toNat) ≤ (σ 30 a0.toNat) then 0 else 1) else (if (σ 29 (((12 * a0) + x3).toNat)) = (σ 29 (((12 * a1) + x3).toNat)) then L_X10_isEarlier_2 σ a0 a1 n (x3 + 1) else (if (σ 29 (((12 * a1) + x3).toNat)) ≤ (σ 29 (((12 * a0) + x3).toNat)) then 0 else 1))))
set_option maxHeartbeats 4000000 in
set_option maxRecDepth 100000 in
theorem w_L_X10_isEarlier_2 {p : Program} {l : Launch} {e : Env} {s : State} {m : MethodId} {args : Array Value} {below : List Frame} {meth : Method} {c₀ : Code} {D : va_G} {cy : Nat → ClassId} {ad : Nat → Nat} (X : MX p s m args meth c₀ cX10_isEarlier 6 RX10 (some .boolean) wsX10_isEarlier D cy) (σ : Sg) (a0 : Int) (ha0 : (0 : Int) ≤ a0 ∧ a0 ≤ 159) (a1 : Int) (ha1 : (0 : Int) ≤ a1 ∧ a1 ≤ 159) : ∀ (n : Nat) (x3 : Int) (hx3 : (0 : Int) ≤ x3 ∧ x3 ≤ 12) (hmu : 12 - x3 < (n : Int)) (H : Heap) (locs : List Loc) (ls : Array Slot) (hI : HI D cy ad s σ H locs) (hl : lv_has ls 6 [(0, .ref (ad 28)), (1, .int (iI a0)), (2, .int (iI a1)), (3, .int (iI x3))]), W p l e { frames := 0, cells := 0, slots := 0, locals := 0 } s m args below meth c₀ H locs 0 0 (MQ below (CQ D cy ad (some (.int (iI (L_X10_isEarlier_2 σ a0 a1 n x3)))) σ ((0 ≤ L_X10_isEarlier_2 σ a0 a1 n x3 ∧ L_X10_isEarlier_2 σ a0 a1 n x3 ≤ 1)) (AA ad s.heap.size)) args s 0 0 (AA ad s.heap.size)) (F0 m 2 ls []) := by
  obtain ⟨hx, hb, hr, hml, hown, hts, hlocks, hK, hN⟩ := id X
  intro n
  induction n with
  | zero =>
    intro x3 hx3 hmu H locs ls hI hl
    exfalso
    have hF := hI.2.2.2
    omega
  | succ n ih =>
    intro x3 hx3 hmu H locs ls hI hl
    have hF := hI.2.2.2
    refine lv_iload_n hx hb dX10_isEarlier_2 rfl (lv_at hl 3 rfl) ?_
    refine lv_aload_n hx hb dX10_isEarlier_3 rfl (lv_at hl 0 rfl) ?_
    refine g_get (C := RX10) (T := TX10) (N := 44) (ci := 9) (v := .ref (ad 30)) hx hb hts in_X10_isEarlier_X10 hown hK hI 28 (by decide) (cel_28 cy ad _) rfl 2 (by decide) (by decide +kernel) rfl dX10_isEarlier_4 ?_
    refine lv_iload_n hx hb dX10_isEarlier_7 rfl (lv_at hl 1 rfl) ?_
    refine g_iald (v := σ 30 a0.toNat) hx hb hK hI 30 (by decide) (cel_30 cy ad) (by omega) (by decide) rfl dX10_isEarlier_8 ?_
    have b_1 := bd_30 hF a0.toNat
    refine g_icmp_ge (tgt := 74) hx hb dX10_isEarlier_9 (by decide) (by omega) (by omega) (fun c_2 => ?_) (fun c_2 => ?_)
    · skip
      refine lv_aload_n hx hb dX10_isEarlier_74 rfl (lv_at hl 0 rfl) ?_
      refine g_get (C := RX10) (T := TX10) (N := 44) (ci := 9) (v := .ref (ad 30)) hx hb hts in_X10_isEarlier_X10 hown hK hI 28 (by decide) (cel_28 cy ad _) rfl 2 (by decide) (by decide +kernel) rfl dX10_isEarlier_75 ?_
      refine lv_iload_n hx hb dX10_isEarlier_78 rfl (lv_at hl 1 rfl) ?_
      refine g_iald (v := σ 30 a0.toNat) hx hb hK hI 30 (by decide) (cel_30 cy ad) (by omega) (by decide) rfl dX10_isEarlier_79 ?_
      have b_3 := bd_30 hF a0.toNat
      refine lv_aload_n hx hb dX10_isEarlier_80 rfl (lv_at hl 0 rfl) ?_
      refine g_get (C := RX10) (T := TX10) (N := 44) (ci := 9) (v := .ref (ad 30)) hx hb hts in_X10_isEarlier_X10 hown hK hI 28 (by decide) (cel_28 cy ad _) rfl 2 (by decide) (by decide +kernel) rfl dX10_isEarlier_81 ?_
      refine lv_iload_n hx hb dX10_isEarlier_84 rfl (lv_at hl 2 rfl) ?_
      refine g_iald (v := σ 30 a1.toNat) hx hb hK hI 30 (by decide) (cel_30 cy ad) (by omega) (by decide) rfl dX10_isEarlier_85 ?_
      have b_4 := bd_30 hF a1.toNat
      refine g_icmp_ge (tgt := 93) hx hb dX10_isEarlier_86 (by decide) (by omega) (by omega) (fun c_5 => ?_) (fun c_5 => ?_)
      · skip
        refine lv_iconst (v := iI 0) hx hb dX10_isEarlier_93 rfl ?_
        have e9 : L_X10_isEarlier_2 σ a0 a1 (n + 1) x3 = 0 := by rw [L_X10_isEarlier_2, if_pos c_2, if_pos c_5]
        exact g_zret (z := 0) hx hb hr hK hN hlocks hI e9.symm rfl (by rw [e9] <;> first | (omega) | (dsimp only; omega)) (by omega) dX10_isEarlier_94
      · skip
        refine lv_iconst (v := iI 1) hx hb dX10_isEarlier_89 rfl ?_
        refine lv_goto (tgt := 94) hx hb dX10_isEarlier_90 (by decide) ?_
        have e9 : L_X10_isEarlier_2 σ a0 a1 (n + 1) x3 = 1 := by rw [L_X10_isEarlier_2, if_pos c_2, if_neg c_5]
        exact g_zret (z := 1) hx hb hr hK hN hlocks hI e9.symm rfl (by rw [e9] <;> first | (omega) | (dsimp only; omega)) (by omega) dX10_isEarlier_94
    · skip
      refine lv_iload_n hx hb dX10_isEarlier_12 rfl (lv_at hl 3 rfl) ?_
      refine lv_aload_n hx hb dX10_isEarlier_13 rfl (lv_at hl 0 rfl) ?_
      refine g_get (C := RX10) (T := TX10) (N := 44) (ci := 9) (v := .ref (ad 30)) hx hb hts in_X10_isEarlier_X10 hown hK hI 28 (by decide) (cel_28 cy ad _) rfl 2 (by decide) (by decide +kernel) rfl dX10_isEarlier_14 ?_
      refine lv_iload_n hx hb dX10_isEarlier_17 rfl (lv_at hl 2 rfl) ?_
      refine g_iald (v := σ 30 a1.toNat) hx hb hK hI 30 (by decide) (cel_30 cy ad) (by omega) (by decide) rfl dX10_isEarlier_18 ?_
      have b_6 := bd_30 hF a1.toNat
      refine g_icmp_ge (tgt := 74) hx hb dX10_isEarlier_19 (by decide) (by omega) (by omega) (fun c_7 => ?_) (fun c_7 => ?_)
      · skip
        refine lv_aload_n hx hb dX10_isEarlier_74 rfl (lv_at hl 0 rfl) ?_
        refine g_get (C := RX10) (T := TX10) (N := 44) (ci := 9) (v := .ref (ad 30)) hx hb hts in_X10_isEarlier_X10 hown hK hI 28 (by decide) (cel_28 cy ad _) rfl 2 (by decide) (by decide +kernel) rfl dX10_isEarlier_75 ?_
        refine lv_iload_n hx hb dX10_isEarlier_78 rfl (lv_at hl 1 rfl) ?_
        refine g_iald (v := σ 30 a0.toNat) hx hb hK hI 30 (by decide) (cel_30 cy ad) (by omega) (by decide) rfl dX10_isEarlier_79 ?_
        have b_8 := bd_30 hF a0.toNat
        refine lv_aload_n hx hb dX10_isEarlier_80 rfl (lv_at hl 0 rfl) ?_
        refine g_get (C := RX10) (T := TX10) (N := 44) (ci := 9) (v := .ref (ad 30)) hx hb hts in_X10_isEarlier_X10 hown hK hI 28 (by decide) (cel_28 cy ad _) rfl 2 (by decide) (by decide +kernel) rfl dX10_isEarlier_81 ?_
        refine lv_iload_n hx hb dX10_isEarlier_84 rfl (lv_at hl 2 rfl) ?_
        refine g_iald (v := σ 30 a1.toNat) hx hb hK hI 30 (by decide) (cel_30 cy ad) (by omega) (by decide) rfl dX10_isEarlier_85 ?_
        have b_9 := bd_30 hF a1.toNat
        refine g_icmp_ge (tgt := 93) hx hb dX10_isEarlier_86 (by decide) (by omega) (by omega) (fun c_10 => ?_) (fun c_10 => ?_)
        · skip
          refine lv_iconst (v := iI 0) hx hb dX10_isEarlier_93 rfl ?_
          have e9 : L_X10_isEarlier_2 σ a0 a1 (n + 1) x3 = 0 := by rw [L_X10_isEarlier_2, if_neg c_2, if_pos c_7, if_pos c_10]
          exact g_zret (z := 0) hx hb hr hK hN hlocks hI e9.symm rfl (by rw [e9] <;> first | (omega) | (dsimp only; omega)) (by omega) dX10_isEarlier_94
        · skip
          refine lv_iconst (v := iI 1) hx hb dX10_isEarlier_89 rfl ?_
          refine lv_goto (tgt := 94) hx hb dX10_isEarlier_90 (by decide) ?_
          have e9 : L_X10_isEarlier_2 σ a0 a1 (n + 1) x3 = 1 := by rw [L_X10_isEarlier_2, if_neg c_2, if_pos c_7, if_neg c_10]
          exact g_zret (z := 1) hx hb hr hK hN hlocks hI e9.symm rfl (by rw [e9] <;> first | (omega) | (dsimp only; omega)) (by omega) dX10_isEarlier_94
      · skip
        refine lv_aload_n hx hb dX10_isEarlier_22 rfl (lv_at hl 0 rfl) ?_
        refine g_get (C := RX10) (T := TX10) (N := 44) (ci := 9) (v := .ref (ad 29)) hx hb hts in_X10_isEarlier_X10 hown hK hI 28 (by decide) (cel_28 cy ad _) rfl 1 (by decide) (by decide +kernel) rfl dX10_isEarlier_23 ?_
        refine lv_bipush (v := iI 12) hx hb dX10_isEarlier_26 (iI_bip (by decide)) ?_
        refine lv_iload_n hx hb dX10_isEarlier_28 rfl (lv_at hl 1 rfl) ?_
        refine g_imul hx hb dX10_isEarlier_29 ?_
        refine lv_iload_n hx hb dX10_isEarlier_30 rfl (lv_at hl 3 rfl) ?_
        refine g_iadd hx hb dX10_isEarlier_31 ?_
        refine g_bald (v := σ 29 (((12 * a0) + x3).toNat)) hx hb hK hI 29 (by decide) (cel_29 cy ad) (by omega) (by decide) rfl dX10_isEarlier_32 ?_
        have b_11 := bd_29 hF (((12 * a0) + x3).toNat)
        refine lv_istore (lv' := [(4, .int (iI (σ 29 (((12 * a0) + x3).toNat)))), (0, .ref (ad 28)), (1, .int (iI a0)), (2, .int (iI a1)), (3, .int (iI x3))]) hx hb dX10_isEarlier_33 hl (by decide) rfl (fun ls hl => ?_)
        refine lv_aload_n hx hb dX10_isEarlier_35 rfl (lv_at hl 1 rfl) ?_
        refine g_get (C := RX10) (T := TX10) (N := 44) (ci := 9) (v := .ref (ad 29)) hx hb hts in_X10_isEarlier_X10 hown hK hI 28 (by decide) (cel_28 cy ad _) rfl 1 (by decide) (by decide +kernel) rfl dX10_isEarlier_36 ?_
        refine lv_bipush (v := iI 12) hx hb dX10_isEarlier_39 (iI_bip (by decide)) ?_
        refine lv_iload_n hx hb dX10_isEarlier_41 rfl (lv_at hl 3 rfl) ?_
        refine g_imul hx hb dX10_isEarlier_42 ?_
        refine lv_iload_n hx hb dX10_isEarlier_43 rfl (lv_at hl 4 rfl) ?_
        refine g_iadd hx hb dX10_isEarlier_44 ?_
        refine g_bald (v := σ 29 (((12 * a1) + x3).toNat)) hx hb hK hI 29 (by decide) (cel_29 cy ad) (by omega) (by decide) rfl dX10_isEarlier_45 ?_
        have b_12 := bd_29 hF (((12 * a1) + x3).toNat)
        refine lv_istore (lv' := [(5, .int (iI (σ 29 (((12 * a1) + x3).toNat)))), (4, .int (iI (σ 29 (((12 * a0) + x3).toNat)))), (0, .ref (ad 28)), (1, .int (iI a0)), (2, .int (iI a1)), (3, .int (iI x3))]) hx hb dX10_isEarlier_46 hl (by decide) rfl (fun ls hl => ?_)
        refine lv_iload hx hb dX10_isEarlier_48 (lv_at hl 1 rfl) ?_
        refine lv_iload hx hb dX10_isEarlier_50 (lv_at hl 0 rfl) ?_
        refine g_icmp_eq (tgt := 68) hx hb dX10_isEarlier_52 (by decide) (by omega) (by omega) (fun c_13 => ?_) (fun c_13 => ?_)
        · skip
          refine lv_iinc (v := iI (x3 + 1)) (lv' := [(3, .int (iI (x3 + 1))), (5, .int (iI (σ 29 (((12 * a1) + x3).toNat)))), (4, .int (iI (σ 29 (((12 * a0) + x3).toNat)))), (0, .ref (ad 28)), (1, .int (iI a0)), (2, .int (iI a1))]) hx hb dX10_isEarlier_68 hl (k := 5) rfl (iI_add _ _) (by decide) rfl (fun ls hl => ?_)
          refine lv_goto (tgt := 2) hx hb dX10_isEarlier_71 (by decide) ?_
          have e9 : L_X10_isEarlier_2 σ a0 a1 (n + 1) x3 = L_X10_isEarlier_2 σ a0 a1 n (x3 + 1) := by rw [L_X10_isEarlier_2, if_neg c_2, if_neg c_7, if_pos c_13]
          rw [e9]
          exact ih (x3 + 1)  (by omega) (by omega) _ _ _ hI (lv_sub hl [3, 4, 5, 0] rfl)
        · skip
          refine lv_iload hx hb dX10_isEarlier_55 (lv_at hl 1 rfl) ?_
          refine lv_iload hx hb dX10_isEarlier_57 (lv_at hl 0 rfl) ?_
          refine g_icmp_ge (tgt := 66) hx hb dX10_isEarlier_59 (by decide) (by omega) (by omega) (fun c_14 => ?_) (fun c_14 => ?_)
          · skip
            refine lv_iconst (v := iI 0) hx hb dX10_isEarlier_66 rfl ?_
            have e9 : L_X10_isEarlier_2 σ a0 a1 (n + 1) x3 = 0 := by rw [L_X10_isEarlier_2, if_neg c_2, if_neg c_7, if_neg c_13, if_pos c_14]
            exact g_zret (z := 0) hx hb hr hK hN hlocks hI e9.symm rfl (by rw [e9] <;> first | (omega) | (dsimp only; omega)) (by omega) dX10_isEarlier_67
          · skip
            refine lv_iconst (v := iI 1) hx hb dX10_isEarlier_62 rfl ?_
            refine lv_goto (tgt := 67) hx hb dX10_isEarlier_63 (by decide) ?_
            have e9 : L_X10_isEarlier_2 σ a0 a1 (n + 1) x3 = 1 := by rw [L_X10_isEarlier_2, if_neg c_2, if_neg c_7, if_neg c_13, if_neg c_14]
            exact g_zret (z := 1) hx hb hr hK hN hlocks hI e9.symm rfl (by rw [e9] <;> first | (omega) | (dsimp only; omega)) (by omega) dX10_isEarlier_67
def f_X10_isEarlier (σ : Sg) (a0 : Int) (a1 : Int) : Int := L_X10_isEarlier_2 σ a0 a1 13 0
theorem hd_X10_isEarlier : yX10_isEarlier.cls = RX10 ∧ yX10_isEarlier.cls ≠ "java/lang/invoke/MethodHandle" ∧ yX10_isEarlier.cls ≠ "java/lang/invoke/VarHandle" ∧ (parseMethodDescriptor yX10_isEarlier.desc).map (fun d => d.parameters.length) = some 2 := by decide +kernel
set_option maxHeartbeats 4000000 in
set_option maxRecDepth 100000 in
theorem c_X10_isEarlier (l : Launch) (D : va_G) (cy : Nat → ClassId) (ad : Nat → Nat) (σ : Sg) (a0 : Int) (ha0 : (0 : Int) ≤ a0 ∧ a0 ≤ 159) (a1 : Int) (ha1 : (0 : Int) ≤ a1 ∧ a1 ≤ 159) : CM l D cy ad yX10_isEarlier wsX10_isEarlier { frames := 0, cells := 0, slots := 0, locals := 0 } [.ref (ad 28), .int (iI a0), .int (iI a1)] σ (some (.int (iI (f_X10_isEarlier σ a0 a1)))) σ ((0 ≤ f_X10_isEarlier σ a0 a1 ∧ f_X10_isEarlier σ a0 a1 ≤ 1)) := by
  refine CM.of (cc := cX10_isEarlier) (maxL := 6) (ret := (some .boolean)) (by decide) rfl (Nat.le_of_ble_eq_true rfl) ?_
  intro p e s m args below meth c₀ ls X hI hl
  have hl : lv_has ls 6 [(0, .ref (ad 28)), (1, .int (iI a0)), (2, .int (iI a1))] := hl
  obtain ⟨hx, hb, hr, hml, hown, hts, hlocks, hK, hN⟩ := id X
  have hF := hI.2.2.2
  refine lv_iconst (v := iI 0) hx hb dX10_isEarlier_0 rfl ?_
  refine lv_istore_n (lv' := [(3, .int (iI 0)), (0, .ref (ad 28)), (1, .int (iI a0)), (2, .int (iI a1))]) hx hb dX10_isEarlier_1 rfl hl (by decide) rfl (fun ls hl => ?_)
  have e9 : f_X10_isEarlier σ a0 a1 = L_X10_isEarlier_2 σ a0 a1 13 0 := by rw [f_X10_isEarlier]
  rw [e9]
  exact w_L_X10_isEarlier_2 X σ a0 ha0 a1 ha1  13 0  (by omega) (by omega) _ _ _ hI (lv_sub hl [1, 2, 3, 0] rfl)
theorem in_X10_adds_X10 : ∀ w ∈ u_ws RX10 TX10 44, w ∈ wsX10_adds := by decide +kernel
def f_X10_adds (σ : Sg) (a0 : Int) (a1 : Int) : Sg := (if 12 ≤ (σ 44 a0.toNat) then (up2 σ 44 a0.toNat ((σ 44 a0.toNat) + 1)) else (up2 (up2 σ 29 (((12 * (80 + a0)) + (σ 44 a0.toNat)).toNat) (a1.bmod 256)) 44 a0.toNat ((σ 44 a0.toNat) + 1)))
theorem hd_X10_adds : yX10_adds.cls = RX10 ∧ yX10_adds.cls ≠ "java/lang/invoke/MethodHandle" ∧ yX10_adds.cls ≠ "java/lang/invoke/VarHandle" ∧ (parseMethodDescriptor yX10_adds.desc).map (fun d => d.parameters.length) = some 2 := by decide +kernel
set_option maxHeartbeats 4000000 in
set_option maxRecDepth 100000 in
theorem c_X10_adds (l : Launch) (D : va_G) (cy : Nat → ClassId) (ad : Nat → Nat) (σ : Sg) (a0 : Int) (ha0 : (0 : Int) ≤ a0 ∧ a0 ≤ 39) (a1 : Int) (ha1 : (-2147483648 ≤ a1 ∧ a1 < 2147483648)) (h1 : σ 44 a0.toNat < 100000) : CM l D cy ad yX10_adds wsX10_adds { frames := 0, cells := 0, slots := 0, locals := 0 } [.ref (ad 28), .int (iI a0), .int (iI a1)] σ none (f_X10_adds σ a0 a1) ((f_X10_adds σ a0 a1) 44 a0.toNat = σ 44 a0.toNat + 1) := by
  refine CM.of (cc := cX10_adds) (maxL := 3) (ret := none) (by decide) rfl (Nat.le_of_ble_eq_true rfl) ?_
  intro p e s m args below meth c₀ ls X hI hl
  have hl : lv_has ls 3 [(0, .ref (ad 28)), (1, .int (iI a0)), (2, .int (iI a1))] := hl
  obtain ⟨hx, hb, hr, hml, hown, hts, hlocks, hK, hN⟩ := id X
  have hF := hI.2.2.2
  refine lv_aload_n hx hb dX10_adds_0 rfl (lv_at hl 0 rfl) ?_
  refine g_get (C := RX10) (T := TX10) (N := 44) (ci := 9) (v := .ref (ad 44)) hx hb hts in_X10_adds_X10 hown hK hI 28 (by decide) (cel_28 cy ad _) rfl 29 (by decide) (by decide +kernel) rfl dX10_adds_1 ?_
  refine lv_iload_n hx hb dX10_adds_4 rfl (lv_at hl 1 rfl) ?_
  refine g_iald (v := σ 44 a0.toNat) hx hb hK hI 44 (by decide) (cel_44 cy ad) (by omega) (by decide) rfl dX10_adds_5 ?_
  have b_1 := bd_44 hF a0.toNat
  refine lv_bipush (v := iI 12) hx hb dX10_adds_6 (iI_bip (by decide)) ?_
  refine g_icmp_ge (tgt := 32) hx hb dX10_adds_8 (by decide) (by omega) (by omega) (fun c_2 => ?_) (fun c_2 => ?_)
  · skip
    refine lv_aload_n hx hb dX10_adds_32 rfl (lv_at hl 0 rfl) ?_
    refine g_get (C := RX10) (T := TX10) (N := 44) (ci := 9) (v := .ref (ad 44)) hx hb hts in_X10_adds_X10 hown hK hI 28 (by decide) (cel_28 cy ad _) rfl 29 (by decide) (by decide +kernel) rfl dX10_adds_33 ?_
    refine lv_iload_n hx hb dX10_adds_36 rfl (lv_at hl 1 rfl) ?_
    refine lv_dup2_11 hx hb dX10_adds_37 rfl rfl ?_
    refine g_iald (v := σ 44 a0.toNat) hx hb hK hI 44 (by decide) (cel_44 cy ad) (by omega) (by decide) rfl dX10_adds_38 ?_
    have b_3 := bd_44 hF a0.toNat
    refine lv_iconst (v := iI 1) hx hb dX10_adds_39 rfl ?_
    refine g_iadd hx hb dX10_adds_40 ?_
    refine g_iast hx hb hK hI 44 (by decide) (cel_44 cy ad) (by omega) (by decide) (bw_44 (by omega)) dX10_adds_41 (fun H locs hI => ?_)
    have hF_4 : WF (up2 σ 44 a0.toNat ((σ 44 a0.toNat) + 1)) := hI.2.2.2
    have e9 : f_X10_adds σ a0 a1 = (up2 σ 44 a0.toNat ((σ 44 a0.toNat) + 1)) := by rw [f_X10_adds, if_pos c_2]
    exact g_vret hx hb hr hK hN hlocks hI (by rw [e9]) (by rw [e9] <;> first | (simp [up2_at] <;> omega) | (dsimp only; simp [up2_at] <;> omega)) dX10_adds_42
  · skip
    refine lv_aload_n hx hb dX10_adds_11 rfl (lv_at hl 0 rfl) ?_
    refine g_get (C := RX10) (T := TX10) (N := 44) (ci := 9) (v := .ref (ad 29)) hx hb hts in_X10_adds_X10 hown hK hI 28 (by decide) (cel_28 cy ad _) rfl 1 (by decide) (by decide +kernel) rfl dX10_adds_12 ?_
    refine lv_bipush (v := iI 12) hx hb dX10_adds_15 (iI_bip (by decide)) ?_
    refine lv_bipush (v := iI 80) hx hb dX10_adds_17 (iI_bip (by decide)) ?_
    refine lv_iload_n hx hb dX10_adds_19 rfl (lv_at hl 1 rfl) ?_
    refine g_iadd hx hb dX10_adds_20 ?_
    refine g_imul hx hb dX10_adds_21 ?_
    refine lv_aload_n hx hb dX10_adds_22 rfl (lv_at hl 0 rfl) ?_
    refine g_get (C := RX10) (T := TX10) (N := 44) (ci := 9) (v := .ref (ad 44)) hx hb hts in_X10_adds_X10 hown hK hI 28 (by decide) (cel_28 cy ad _) rfl 29 (by decide) (by decide +kernel) rfl dX10_adds_23 ?_
    refine lv_iload_n hx hb dX10_adds_26 rfl (lv_at hl 1 rfl) ?_
    refine g_iald (v := σ 44 a0.toNat) hx hb hK hI 44 (by decide) (cel_44 cy ad) (by omega) (by decide) rfl dX10_adds_27 ?_
    have b_5 := bd_44 hF a0.toNat
    refine g_iadd hx hb dX10_adds_28 ?_
    refine lv_iload_n hx hb dX10_adds_29 rfl (lv_at hl 2 rfl) ?_
    refine g_i2b hx hb dX10_adds_30 ?_
    have b_6 := b8_rng a1
    refine g_bast hx hb hK hI 29 (by decide) (cel_29 cy ad) (by omega) (by decide) (by omega) (bw_29 (by omega)) dX10_adds_31 (fun H locs hI => ?_)
    have hF_7 : WF (up2 σ 29 (((12 * (80 + a0)) + (σ 44 a0.toNat)).toNat) (a1.bmod 256)) := hI.2.2.2
    refine lv_aload_n hx hb dX10_adds_32 rfl (lv_at hl 0 rfl) ?_
    refine g_get (C := RX10) (T := TX10) (N := 44) (ci := 9) (v := .ref (ad 44)) hx hb hts in_X10_adds_X10 hown hK hI 28 (by decide) (cel_28 cy ad _) rfl 29 (by decide) (by decide +kernel) rfl dX10_adds_33 ?_
    refine lv_iload_n hx hb dX10_adds_36 rfl (lv_at hl 1 rfl) ?_
    refine lv_dup2_11 hx hb dX10_adds_37 rfl rfl ?_
    refine g_iald (v := σ 44 a0.toNat) hx hb hK hI 44 (by decide) (cel_44 cy ad) (by omega) (by decide) (by rw [up2_cell _ _ _ (by decide)]) dX10_adds_38 ?_
    have b_8 := bd_44 hF a0.toNat
    refine lv_iconst (v := iI 1) hx hb dX10_adds_39 rfl ?_
    refine g_iadd hx hb dX10_adds_40 ?_
    refine g_iast hx hb hK hI 44 (by decide) (cel_44 cy ad) (by omega) (by decide) (bw_44 (by omega)) dX10_adds_41 (fun H locs hI => ?_)
    have hF_9 : WF (up2 (up2 σ 29 (((12 * (80 + a0)) + (σ 44 a0.toNat)).toNat) (a1.bmod 256)) 44 a0.toNat ((σ 44 a0.toNat) + 1)) := hI.2.2.2
    have e9 : f_X10_adds σ a0 a1 = (up2 (up2 σ 29 (((12 * (80 + a0)) + (σ 44 a0.toNat)).toNat) (a1.bmod 256)) 44 a0.toNat ((σ 44 a0.toNat) + 1)) := by rw [f_X10_adds, if_neg c_2]
    exact g_vret hx hb hr hK hN hlocks hI (by rw [e9]) (by rw [e9] <;> first | (simp [up2_at] <;> omega) | (dsimp only; simp [up2_at] <;> omega)) dX10_adds_42
theorem in_X10_wild_X10 : ∀ w ∈ u_ws RX10 TX10 44, w ∈ wsX10_wild := by decide +kernel
def L_X10_wild_4 (σ : Sg) (a0 : Int) : Nat → Int → Int → Int
  | 0, x2, x3 => 0
  | n + 1, x2, x3 => (if (σ 28 10) ≤ x3 then (-1) else (if (σ 34 x3.toNat) = 63 then (if (x2 + (-1)) = 0 then x3 else L_X10_wild_4 σ a0 n (x2 + (-1)) (x3 + 1)) else (if (σ 34 x3.toNat) = 42 then (if (x2 + (-1)) = 0 then x3 else L_X10_wild_4 σ a0 n (x2 + (-1)) (x3 + 1)) else (if (σ 34 x3.toNat) = 35 then (if (x2 + (-1)) = 0 then x3 else L_X10_wild_4 σ a0 n (x2 + (-1)) (x3 + 1)) else (if x2 = 0 then x3 else L_X10_wild_4 σ a0 n x2 (x3 + 1))))))
set_option maxHeartbeats 4000000 in
set_option maxRecDepth 100000 in
theorem w_L_X10_wild_4 {p : Program} {l : Launch} {e : Env} {s : State} {m : MethodId} {args : Array Value} {below : List Frame} {meth : Method} {c₀ : Code} {D : va_G} {cy : Nat → ClassId} {ad : Nat → Nat} (X : MX p s m args meth c₀ cX10_wild 4 RX10 (some .int) wsX10_wild D cy) (σ : Sg) (a0 : Int) (ha0 : (-200 : Int) ≤ a0 ∧ a0 ≤ 200) : ∀ (n : Nat) (x2 : Int) (x3 : Int) (hx2 : (-212 : Int) ≤ x2 ∧ x2 ≤ 200) (hx3 : (0 : Int) ≤ x3 ∧ x3 ≤ 12) (hp0 : a0 - x3 ≤ x2) (hp1 : x2 ≤ a0) (hmu : 12 - x3 < (n : Int)) (H : Heap) (locs : List Loc) (ls : Array Slot) (hI : HI D cy ad s σ H locs) (hl : lv_has ls 4 [(0, .ref (ad 28)), (2, .int (iI x2)), (3, .int (iI x3))]), W p l e { frames := 0, cells := 0, slots := 0, locals := 0 } s m args below meth c₀ H locs 0 0 (MQ below (CQ D cy ad (some (.int (iI (L_X10_wild_4 σ a0 n x2 x3)))) σ (-1 ≤ (L_X10_wild_4 σ a0 n x2 x3) ∧ (L_X10_wild_4 σ a0 n x2 x3) ≤ 11) (AA ad s.heap.size)) args s 0 0 (AA ad s.heap.size)) (F0 m 4 ls []) := by
  obtain ⟨hx, hb, hr, hml, hown, hts, hlocks, hK, hN⟩ := id X
  intro n
  induction n with
  | zero =>
    intro x2 x3 hx2 hx3 hp0 hp1 hmu H locs ls hI hl
    exfalso
    have hF := hI.2.2.2
    omega
  | succ n ih =>
    intro x2 x3 hx2 hx3 hp0 hp1 hmu H locs ls hI hl
    have hF := hI.2.2.2
    refine lv_iload_n hx hb dX10_wild_4 rfl (lv_at hl 2 rfl) ?_
    refine lv_aload_n hx hb dX10_wild_5 rfl (lv_at hl 0 rfl) ?_
    refine g_get (C := RX10) (T := TX10) (N := 44) (ci := 9) (v := .int (iI (σ 28 10))) hx hb hts in_X10_wild_X10 hown hK hI 28 (by decide) (cel_28 cy ad _) rfl 10 (by decide) (by decide +kernel) rfl dX10_wild_6 ?_
    have b_1 := bd_28_10 hF
    refine g_icmp_ge (tgt := 60) hx hb dX10_wild_9 (by decide) (by omega) (by omega) (fun c_2 => ?_) (fun c_2 => ?_)
    · skip
      refine lv_iconst (v := iI (-1)) hx hb dX10_wild_60 rfl ?_
      have e9 : L_X10_wild_4 σ a0 (n + 1) x2 x3 = (-1) := by rw [L_X10_wild_4, if_pos c_2]
      exact g_iret (z := (-1)) hx hb hr hK hN hlocks hI e9.symm rfl (by rw [e9] <;> first | (omega) | (dsimp only; omega)) dX10_wild_61
    · skip
      refine lv_aload_n hx hb dX10_wild_12 rfl (lv_at hl 0 rfl) ?_
      refine g_get (C := RX10) (T := TX10) (N := 44) (ci := 9) (v := .ref (ad 34)) hx hb hts in_X10_wild_X10 hown hK hI 28 (by decide) (cel_28 cy ad _) rfl 12 (by decide) (by decide +kernel) rfl dX10_wild_13 ?_
      refine lv_iload_n hx hb dX10_wild_16 rfl (lv_at hl 2 rfl) ?_
      refine g_iald (v := σ 34 x3.toNat) hx hb hK hI 34 (by decide) (cel_34 cy ad) (by omega) (by decide) rfl dX10_wild_17 ?_
      have b_3 := bd_34 hF x3.toNat
      refine lv_bipush (v := iI 63) hx hb dX10_wild_18 (iI_bip (by decide)) ?_
      refine g_icmp_eq (tgt := 45) hx hb dX10_wild_20 (by decide) (by omega) (by omega) (fun c_4 => ?_) (fun c_4 => ?_)
      · skip
        refine lv_iinc (v := iI (x2 + (-1))) (lv' := [(2, .int (iI (x2 + (-1)))), (0, .ref (ad 28)), (3, .int (iI x3))]) hx hb dX10_wild_45 hl (k := 1) rfl (iI_add _ _) (by decide) rfl (fun ls hl => ?_)
        refine lv_iload_n hx hb dX10_wild_48 rfl (lv_at hl 0 rfl) ?_
        refine g_if_ne (tgt := 54) hx hb dX10_wild_49 (by decide) (by omega) (fun c_5 => ?_) (fun c_5 => ?_)
        · skip
          refine lv_iinc (v := iI (x3 + 1)) (lv' := [(3, .int (iI (x3 + 1))), (2, .int (iI (x2 + (-1)))), (0, .ref (ad 28))]) hx hb dX10_wild_54 hl (k := 2) rfl (iI_add _ _) (by decide) rfl (fun ls hl => ?_)
          refine lv_goto (tgt := 4) hx hb dX10_wild_57 (by decide) ?_
          have e9 : L_X10_wild_4 σ a0 (n + 1) x2 x3 = L_X10_wild_4 σ a0 n (x2 + (-1)) (x3 + 1) := by rw [L_X10_wild_4, if_neg c_2, if_pos c_4, if_neg c_5]
          rw [e9]
          exact ih (x2 + (-1)) (x3 + 1)  (by omega) (by omega) (by omega) (by omega) (by omega) _ _ _ hI (lv_sub hl [2, 1, 0] rfl)
        · skip
          refine lv_iload_n hx hb dX10_wild_52 rfl (lv_at hl 2 rfl) ?_
          have e9 : L_X10_wild_4 σ a0 (n + 1) x2 x3 = x3 := by rw [L_X10_wild_4, if_neg c_2, if_pos c_4, if_pos c_5]
          exact g_iret (z := x3) hx hb hr hK hN hlocks hI e9.symm rfl (by rw [e9] <;> first | (omega) | (dsimp only; omega)) dX10_wild_53
      · skip
        refine lv_aload_n hx hb dX10_wild_23 rfl (lv_at hl 0 rfl) ?_
        refine g_get (C := RX10) (T := TX10) (N := 44) (ci := 9) (v := .ref (ad 34)) hx hb hts in_X10_wild_X10 hown hK hI 28 (by decide) (cel_28 cy ad _) rfl 12 (by decide) (by decide +kernel) rfl dX10_wild_24 ?_
        refine lv_iload_n hx hb dX10_wild_27 rfl (lv_at hl 2 rfl) ?_
        refine g_iald (v := σ 34 x3.toNat) hx hb hK hI 34 (by decide) (cel_34 cy ad) (by omega) (by decide) rfl dX10_wild_28 ?_
        have b_6 := bd_34 hF x3.toNat
        refine lv_bipush (v := iI 42) hx hb dX10_wild_29 (iI_bip (by decide)) ?_
        refine g_icmp_eq (tgt := 45) hx hb dX10_wild_31 (by decide) (by omega) (by omega) (fun c_7 => ?_) (fun c_7 => ?_)
        · skip
          refine lv_iinc (v := iI (x2 + (-1))) (lv' := [(2, .int (iI (x2 + (-1)))), (0, .ref (ad 28)), (3, .int (iI x3))]) hx hb dX10_wild_45 hl (k := 1) rfl (iI_add _ _) (by decide) rfl (fun ls hl => ?_)
          refine lv_iload_n hx hb dX10_wild_48 rfl (lv_at hl 0 rfl) ?_
          refine g_if_ne (tgt := 54) hx hb dX10_wild_49 (by decide) (by omega) (fun c_8 => ?_) (fun c_8 => ?_)
          · skip
            refine lv_iinc (v := iI (x3 + 1)) (lv' := [(3, .int (iI (x3 + 1))), (2, .int (iI (x2 + (-1)))), (0, .ref (ad 28))]) hx hb dX10_wild_54 hl (k := 2) rfl (iI_add _ _) (by decide) rfl (fun ls hl => ?_)
            refine lv_goto (tgt := 4) hx hb dX10_wild_57 (by decide) ?_
            have e9 : L_X10_wild_4 σ a0 (n + 1) x2 x3 = L_X10_wild_4 σ a0 n (x2 + (-1)) (x3 + 1) := by rw [L_X10_wild_4, if_neg c_2, if_neg c_4, if_pos c_7, if_neg c_8]
            rw [e9]
            exact ih (x2 + (-1)) (x3 + 1)  (by omega) (by omega) (by omega) (by omega) (by omega) _ _ _ hI (lv_sub hl [2, 1, 0] rfl)
          · skip
            refine lv_iload_n hx hb dX10_wild_52 rfl (lv_at hl 2 rfl) ?_
            have e9 : L_X10_wild_4 σ a0 (n + 1) x2 x3 = x3 := by rw [L_X10_wild_4, if_neg c_2, if_neg c_4, if_pos c_7, if_pos c_8]
            exact g_iret (z := x3) hx hb hr hK hN hlocks hI e9.symm rfl (by rw [e9] <;> first | (omega) | (dsimp only; omega)) dX10_wild_53
        · skip
          refine lv_aload_n hx hb dX10_wild_34 rfl (lv_at hl 0 rfl) ?_
          refine g_get (C := RX10) (T := TX10) (N := 44) (ci := 9) (v := .ref (ad 34)) hx hb hts in_X10_wild_X10 hown hK hI 28 (by decide) (cel_28 cy ad _) rfl 12 (by decide) (by decide +kernel) rfl dX10_wild_35 ?_
          refine lv_iload_n hx hb dX10_wild_38 rfl (lv_at hl 2 rfl) ?_
          refine g_iald (v := σ 34 x3.toNat) hx hb hK hI 34 (by decide) (cel_34 cy ad) (by omega) (by decide) rfl dX10_wild_39 ?_
          have b_9 := bd_34 hF x3.toNat
          refine lv_bipush (v := iI 35) hx hb dX10_wild_40 (iI_bip (by decide)) ?_
          refine g_icmp_ne (tgt := 48) hx hb dX10_wild_42 (by decide) (by omega) (by omega) (fun c_10 => ?_) (fun c_10 => ?_)
          · skip
            refine lv_iload_n hx hb dX10_wild_48 rfl (lv_at hl 1 rfl) ?_
            refine g_if_ne (tgt := 54) hx hb dX10_wild_49 (by decide) (by omega) (fun c_11 => ?_) (fun c_11 => ?_)
            · skip
              refine lv_iinc (v := iI (x3 + 1)) (lv' := [(3, .int (iI (x3 + 1))), (0, .ref (ad 28)), (2, .int (iI x2))]) hx hb dX10_wild_54 hl (k := 2) rfl (iI_add _ _) (by decide) rfl (fun ls hl => ?_)
              refine lv_goto (tgt := 4) hx hb dX10_wild_57 (by decide) ?_
              have e9 : L_X10_wild_4 σ a0 (n + 1) x2 x3 = L_X10_wild_4 σ a0 n x2 (x3 + 1) := by rw [L_X10_wild_4, if_neg c_2, if_neg c_4, if_neg c_7, if_neg c_10, if_neg c_11]
              rw [e9]
              exact ih x2 (x3 + 1)  (by omega) (by omega) (by omega) (by omega) (by omega) _ _ _ hI (lv_sub hl [1, 2, 0] rfl)
            · skip
              refine lv_iload_n hx hb dX10_wild_52 rfl (lv_at hl 2 rfl) ?_
              have e9 : L_X10_wild_4 σ a0 (n + 1) x2 x3 = x3 := by rw [L_X10_wild_4, if_neg c_2, if_neg c_4, if_neg c_7, if_neg c_10, if_pos c_11]
              exact g_iret (z := x3) hx hb hr hK hN hlocks hI e9.symm rfl (by rw [e9] <;> first | (omega) | (dsimp only; omega)) dX10_wild_53
          · skip
            refine lv_iinc (v := iI (x2 + (-1))) (lv' := [(2, .int (iI (x2 + (-1)))), (0, .ref (ad 28)), (3, .int (iI x3))]) hx hb dX10_wild_45 hl (k := 1) rfl (iI_add _ _) (by decide) rfl (fun ls hl => ?_)
            refine lv_iload_n hx hb dX10_wild_48 rfl (lv_at hl 0 rfl) ?_
            refine g_if_ne (tgt := 54) hx hb dX10_wild_49 (by decide) (by omega) (fun c_12 => ?_) (fun c_12 => ?_)
            · skip
              refine lv_iinc (v := iI (x3 + 1)) (lv' := [(3, .int (iI (x3 + 1))), (2, .int (iI (x2 + (-1)))), (0, .ref (ad 28))]) hx hb dX10_wild_54 hl (k := 2) rfl (iI_add _ _) (by decide) rfl (fun ls hl => ?_)
              refine lv_goto (tgt := 4) hx hb dX10_wild_57 (by decide) ?_
              have e9 : L_X10_wild_4 σ a0 (n + 1) x2 x3 = L_X10_wild_4 σ a0 n (x2 + (-1)) (x3 + 1) := by rw [L_X10_wild_4, if_neg c_2, if_neg c_4, if_neg c_7, if_pos c_10, if_neg c_12]
              rw [e9]
              exact ih (x2 + (-1)) (x3 + 1)  (by omega) (by omega) (by omega) (by omega) (by omega) _ _ _ hI (lv_sub hl [2, 1, 0] rfl)
            · skip
              refine lv_iload_n hx hb dX10_wild_52 rfl (lv_at hl 2 rfl) ?_
              have e9 : L_X10_wild_4 σ a0 (n + 1) x2 x3 = x3 := by rw [L_X10_wild_4, if_neg c_2, if_neg c_4, if_neg c_7, if_pos c_10, if_pos c_12]
              exact g_iret (z := x3) hx hb hr hK hN hlocks hI e9.symm rfl (by rw [e9] <;> first | (omega) | (dsimp only; omega)) dX10_wild_53
def f_X10_wild (σ : Sg) (a0 : Int) : Int := L_X10_wild_4 σ a0 13 a0 0
theorem hd_X10_wild : yX10_wild.cls = RX10 ∧ yX10_wild.cls ≠ "java/lang/invoke/MethodHandle" ∧ yX10_wild.cls ≠ "java/lang/invoke/VarHandle" ∧ (parseMethodDescriptor yX10_wild.desc).map (fun d => d.parameters.length) = some 1 := by decide +kernel
set_option maxHeartbeats 4000000 in
set_option maxRecDepth 100000 in
theorem c_X10_wild (l : Launch) (D : va_G) (cy : Nat → ClassId) (ad : Nat → Nat) (σ : Sg) (a0 : Int) (ha0 : (-200 : Int) ≤ a0 ∧ a0 ≤ 200) : CM l D cy ad yX10_wild wsX10_wild { frames := 0, cells := 0, slots := 0, locals := 0 } [.ref (ad 28), .int (iI a0)] σ (some (.int (iI (f_X10_wild σ a0)))) σ (-1 ≤ (f_X10_wild σ a0) ∧ (f_X10_wild σ a0) ≤ 11) := by
  refine CM.of (cc := cX10_wild) (maxL := 4) (ret := (some .int)) (by decide) rfl (Nat.le_of_ble_eq_true rfl) ?_
  intro p e s m args below meth c₀ ls X hI hl
  have hl : lv_has ls 4 [(0, .ref (ad 28)), (1, .int (iI a0))] := hl
  obtain ⟨hx, hb, hr, hml, hown, hts, hlocks, hK, hN⟩ := id X
  have hF := hI.2.2.2
  refine lv_iload_n hx hb dX10_wild_0 rfl (lv_at hl 1 rfl) ?_
  refine lv_istore_n (lv' := [(2, .int (iI a0)), (0, .ref (ad 28)), (1, .int (iI a0))]) hx hb dX10_wild_1 rfl hl (by decide) rfl (fun ls hl => ?_)
  refine lv_iconst (v := iI 0) hx hb dX10_wild_2 rfl ?_
  refine lv_istore_n (lv' := [(3, .int (iI 0)), (2, .int (iI a0)), (0, .ref (ad 28)), (1, .int (iI a0))]) hx hb dX10_wild_3 rfl hl (by decide) rfl (fun ls hl => ?_)
  have e9 : f_X10_wild σ a0 = L_X10_wild_4 σ a0 13 a0 0 := by rw [f_X10_wild]
  rw [e9]
  exact w_L_X10_wild_4 X σ a0 ha0  13 a0 0  (by omega) (by omega) (by omega) (by omega) (by omega) _ _ _ hI (lv_sub hl [2, 1, 0] rfl)
theorem in_X10_isBad_X10 : ∀ w ∈ u_ws RX10 TX10 44, w ∈ wsX10_isBad := by decide +kernel
def f_X10_isBad (σ : Sg) (a0 : Int) : Int := (if (σ 44 a0.toNat) < 1 then 1 else (if (σ 44 a0.toNat) ≤ 12 then 0 else 1))
theorem hd_X10_isBad : yX10_isBad.cls = RX10 ∧ yX10_isBad.cls ≠ "java/lang/invoke/MethodHandle" ∧ yX10_isBad.cls ≠ "java/lang/invoke/VarHandle" ∧ (parseMethodDescriptor yX10_isBad.desc).map (fun d => d.parameters.length) = some 1 := by decide +kernel
set_option maxHeartbeats 4000000 in
set_option maxRecDepth 100000 in
theorem c_X10_isBad (l : Launch) (D : va_G) (cy : Nat → ClassId) (ad : Nat → Nat) (σ : Sg) (a0 : Int) (ha0 : (0 : Int) ≤ a0 ∧ a0 ≤ 39) : CM l D cy ad yX10_isBad wsX10_isBad { frames := 0, cells := 0, slots := 0, locals := 0 } [.ref (ad 28), .int (iI a0)] σ (some (.int (iI (f_X10_isBad σ a0)))) σ ((0 ≤ f_X10_isBad σ a0 ∧ f_X10_isBad σ a0 ≤ 1)) := by
  refine CM.of (cc := cX10_isBad) (maxL := 2) (ret := (some .boolean)) (by decide) rfl (Nat.le_of_ble_eq_true rfl) ?_
  intro p e s m args below meth c₀ ls X hI hl
  have hl : lv_has ls 2 [(0, .ref (ad 28)), (1, .int (iI a0))] := hl
  obtain ⟨hx, hb, hr, hml, hown, hts, hlocks, hK, hN⟩ := id X
  have hF := hI.2.2.2
  refine lv_aload_n hx hb dX10_isBad_0 rfl (lv_at hl 0 rfl) ?_
  refine g_get (C := RX10) (T := TX10) (N := 44) (ci := 9) (v := .ref (ad 44)) hx hb hts in_X10_isBad_X10 hown hK hI 28 (by decide) (cel_28 cy ad _) rfl 29 (by decide) (by decide +kernel) rfl dX10_isBad_1 ?_
  refine lv_iload_n hx hb dX10_isBad_4 rfl (lv_at hl 1 rfl) ?_
  refine g_iald (v := σ 44 a0.toNat) hx hb hK hI 44 (by decide) (cel_44 cy ad) (by omega) (by decide) rfl dX10_isBad_5 ?_
  have b_1 := bd_44 hF a0.toNat
  refine lv_iconst (v := iI 1) hx hb dX10_isBad_6 rfl ?_
  refine g_icmp_lt (tgt := 21) hx hb dX10_isBad_7 (by decide) (by omega) (by omega) (fun c_2 => ?_) (fun c_2 => ?_)
  · skip
    refine lv_iconst (v := iI 1) hx hb dX10_isBad_21 rfl ?_
    refine lv_goto (tgt := 26) hx hb dX10_isBad_22 (by decide) ?_
    have e9 : f_X10_isBad σ a0 = 1 := by rw [f_X10_isBad, if_pos c_2]
    exact g_zret (z := 1) hx hb hr hK hN hlocks hI e9.symm rfl (by rw [e9] <;> first | (omega) | (dsimp only; omega)) (by omega) dX10_isBad_26
  · skip
    refine lv_aload_n hx hb dX10_isBad_10 rfl (lv_at hl 0 rfl) ?_
    refine g_get (C := RX10) (T := TX10) (N := 44) (ci := 9) (v := .ref (ad 44)) hx hb hts in_X10_isBad_X10 hown hK hI 28 (by decide) (cel_28 cy ad _) rfl 29 (by decide) (by decide +kernel) rfl dX10_isBad_11 ?_
    refine lv_iload_n hx hb dX10_isBad_14 rfl (lv_at hl 1 rfl) ?_
    refine g_iald (v := σ 44 a0.toNat) hx hb hK hI 44 (by decide) (cel_44 cy ad) (by omega) (by decide) rfl dX10_isBad_15 ?_
    have b_3 := bd_44 hF a0.toNat
    refine lv_bipush (v := iI 12) hx hb dX10_isBad_16 (iI_bip (by decide)) ?_
    refine g_icmp_le (tgt := 25) hx hb dX10_isBad_18 (by decide) (by omega) (by omega) (fun c_4 => ?_) (fun c_4 => ?_)
    · skip
      refine lv_iconst (v := iI 0) hx hb dX10_isBad_25 rfl ?_
      have e9 : f_X10_isBad σ a0 = 0 := by rw [f_X10_isBad, if_neg c_2, if_pos c_4]
      exact g_zret (z := 0) hx hb hr hK hN hlocks hI e9.symm rfl (by rw [e9] <;> first | (omega) | (dsimp only; omega)) (by omega) dX10_isBad_26
    · skip
      refine lv_iconst (v := iI 1) hx hb dX10_isBad_21 rfl ?_
      refine lv_goto (tgt := 26) hx hb dX10_isBad_22 (by decide) ?_
      have e9 : f_X10_isBad σ a0 = 1 := by rw [f_X10_isBad, if_neg c_2, if_neg c_4]
      exact g_zret (z := 1) hx hb hr hK hN hlocks hI e9.symm rfl (by rw [e9] <;> first | (omega) | (dsimp only; omega)) (by omega) dX10_isBad_26
theorem in_X10_placeOf_X10 : ∀ w ∈ u_ws RX10 TX10 44, w ∈ wsX10_placeOf := by decide +kernel
def L_X10_placeOf_2 (σ : Sg) (a0 : Int) : Nat → Int → Int
  | 0, x2 => 0
  | n + 1, x2 => (if (σ 28 26) ≤ x2 then (-1) else (if (σ 42 x2.toNat) = a0 then x2 else L_X10_placeOf_2 σ a0 n (x2 + 1)))
set_option maxHeartbeats 4000000 in
set_option maxRecDepth 100000 in
theorem w_L_X10_placeOf_2 {p : Program} {l : Launch} {e : Env} {s : State} {m : MethodId} {args : Array Value} {below : List Frame} {meth : Method} {c₀ : Code} {D : va_G} {cy : Nat → ClassId} {ad : Nat → Nat} (X : MX p s m args meth c₀ cX10_placeOf 3 RX10 (some .int) wsX10_placeOf D cy) (σ : Sg) (a0 : Int) (ha0 : (-2147483648 ≤ a0 ∧ a0 < 2147483648)) : ∀ (n : Nat) (x2 : Int) (hx2 : (0 : Int) ≤ x2 ∧ x2 ≤ 40) (hmu : 40 - x2 < (n : Int)) (H : Heap) (locs : List Loc) (ls : Array Slot) (hI : HI D cy ad s σ H locs) (hl : lv_has ls 3 [(0, .ref (ad 28)), (1, .int (iI a0)), (2, .int (iI x2))]), W p l e { frames := 0, cells := 0, slots := 0, locals := 0 } s m args below meth c₀ H locs 0 0 (MQ below (CQ D cy ad (some (.int (iI (L_X10_placeOf_2 σ a0 n x2)))) σ (-1 ≤ (L_X10_placeOf_2 σ a0 n x2) ∧ (L_X10_placeOf_2 σ a0 n x2) ≤ 39) (AA ad s.heap.size)) args s 0 0 (AA ad s.heap.size)) (F0 m 2 ls []) := by
  obtain ⟨hx, hb, hr, hml, hown, hts, hlocks, hK, hN⟩ := id X
  intro n
  induction n with
  | zero =>
    intro x2 hx2 hmu H locs ls hI hl
    exfalso
    have hF := hI.2.2.2
    omega
  | succ n ih =>
    intro x2 hx2 hmu H locs ls hI hl
    have hF := hI.2.2.2
    refine lv_iload_n hx hb dX10_placeOf_2 rfl (lv_at hl 2 rfl) ?_
    refine lv_aload_n hx hb dX10_placeOf_3 rfl (lv_at hl 0 rfl) ?_
    refine g_get (C := RX10) (T := TX10) (N := 44) (ci := 9) (v := .int (iI (σ 28 26))) hx hb hts in_X10_placeOf_X10 hown hK hI 28 (by decide) (cel_28 cy ad _) rfl 26 (by decide) (by decide +kernel) rfl dX10_placeOf_4 ?_
    have b_1 := bd_28_26 hF
    refine g_icmp_ge (tgt := 28) hx hb dX10_placeOf_7 (by decide) (by omega) (by omega) (fun c_2 => ?_) (fun c_2 => ?_)
    · skip
      refine lv_iconst (v := iI (-1)) hx hb dX10_placeOf_28 rfl ?_
      have e9 : L_X10_placeOf_2 σ a0 (n + 1) x2 = (-1) := by rw [L_X10_placeOf_2, if_pos c_2]
      exact g_iret (z := (-1)) hx hb hr hK hN hlocks hI e9.symm rfl (by rw [e9] <;> first | (omega) | (dsimp only; omega)) dX10_placeOf_29
    · skip
      refine lv_aload_n hx hb dX10_placeOf_10 rfl (lv_at hl 0 rfl) ?_
      refine g_get (C := RX10) (T := TX10) (N := 44) (ci := 9) (v := .ref (ad 42)) hx hb hts in_X10_placeOf_X10 hown hK hI 28 (by decide) (cel_28 cy ad _) rfl 27 (by decide) (by decide +kernel) rfl dX10_placeOf_11 ?_
      refine lv_iload_n hx hb dX10_placeOf_14 rfl (lv_at hl 2 rfl) ?_
      refine g_iald (v := σ 42 x2.toNat) hx hb hK hI 42 (by decide) (cel_42 cy ad) (by omega) (by decide) rfl dX10_placeOf_15 ?_
      have b_3 := bd_42 hF x2.toNat
      refine lv_iload_n hx hb dX10_placeOf_16 rfl (lv_at hl 1 rfl) ?_
      refine g_icmp_ne (tgt := 22) hx hb dX10_placeOf_17 (by decide) (by omega) (by omega) (fun c_4 => ?_) (fun c_4 => ?_)
      · skip
        refine lv_iinc (v := iI (x2 + 1)) (lv' := [(2, .int (iI (x2 + 1))), (0, .ref (ad 28)), (1, .int (iI a0))]) hx hb dX10_placeOf_22 hl (k := 2) rfl (iI_add _ _) (by decide) rfl (fun ls hl => ?_)
        refine lv_goto (tgt := 2) hx hb dX10_placeOf_25 (by decide) ?_
        have e9 : L_X10_placeOf_2 σ a0 (n + 1) x2 = L_X10_placeOf_2 σ a0 n (x2 + 1) := by rw [L_X10_placeOf_2, if_neg c_2, if_neg c_4]
        rw [e9]
        exact ih (x2 + 1)  (by omega) (by omega) _ _ _ hI (lv_sub hl [1, 2, 0] rfl)
      · skip
        refine lv_iload_n hx hb dX10_placeOf_20 rfl (lv_at hl 2 rfl) ?_
        have e9 : L_X10_placeOf_2 σ a0 (n + 1) x2 = x2 := by rw [L_X10_placeOf_2, if_neg c_2, if_pos c_4]
        exact g_iret (z := x2) hx hb hr hK hN hlocks hI e9.symm rfl (by rw [e9] <;> first | (omega) | (dsimp only; omega)) dX10_placeOf_21
def f_X10_placeOf (σ : Sg) (a0 : Int) : Int := L_X10_placeOf_2 σ a0 41 0
theorem hd_X10_placeOf : yX10_placeOf.cls = RX10 ∧ yX10_placeOf.cls ≠ "java/lang/invoke/MethodHandle" ∧ yX10_placeOf.cls ≠ "java/lang/invoke/VarHandle" ∧ (parseMethodDescriptor yX10_placeOf.desc).map (fun d => d.parameters.length) = some 1 := by decide +kernel
set_option maxHeartbeats 4000000 in
set_option maxRecDepth 100000 in
theorem c_X10_placeOf (l : Launch) (D : va_G) (cy : Nat → ClassId) (ad : Nat → Nat) (σ : Sg) (a0 : Int) (ha0 : (-2147483648 ≤ a0 ∧ a0 < 2147483648)) : CM l D cy ad yX10_placeOf wsX10_placeOf { frames := 0, cells := 0, slots := 0, locals := 0 } [.ref (ad 28), .int (iI a0)] σ (some (.int (iI (f_X10_placeOf σ a0)))) σ (-1 ≤ (f_X10_placeOf σ a0) ∧ (f_X10_placeOf σ a0) ≤ 39) := by
  refine CM.of (cc := cX10_placeOf) (maxL := 3) (ret := (some .int)) (by decide) rfl (Nat.le_of_ble_eq_true rfl) ?_
  intro p e s m args below meth c₀ ls X hI hl
  have hl : lv_has ls 3 [(0, .ref (ad 28)), (1, .int (iI a0))] := hl
  obtain ⟨hx, hb, hr, hml, hown, hts, hlocks, hK, hN⟩ := id X
  have hF := hI.2.2.2
  refine lv_iconst (v := iI 0) hx hb dX10_placeOf_0 rfl ?_
  refine lv_istore_n (lv' := [(2, .int (iI 0)), (0, .ref (ad 28)), (1, .int (iI a0))]) hx hb dX10_placeOf_1 rfl hl (by decide) rfl (fun ls hl => ?_)
  have e9 : f_X10_placeOf σ a0 = L_X10_placeOf_2 σ a0 41 0 := by rw [f_X10_placeOf]
  rw [e9]
  exact w_L_X10_placeOf_2 X σ a0 ha0  41 0  (by omega) (by omega) _ _ _ hI (lv_sub hl [1, 2, 0] rfl)
theorem in_X10_findTrouble_X10 : ∀ w ∈ u_ws RX10 TX10 44, w ∈ wsX10_findTrouble := by decide +kernel
def L_X10_findTrouble_32 (σ : Sg) (a0 : Int) : Nat → Int → Sg
  | 0, x2 => σ
  | n + 1, x2 => (if (σ 28 26) ≤ x2 then (if (σ 47 a0.toNat) = 0 then (if (f_X10_alikeTo σ (80 + a0) (σ 42 a0.toNat)) = (-1) then σ else (if (f_X10_placeOf σ (f_X10_alikeTo σ (80 + a0) (σ 42 a0.toNat))) = (-1) then (up2 (up2 σ 45 a0.toNat 3) 46 a0.toNat (f_X10_alikeTo σ (80 + a0) (σ 42 a0.toNat))) else (if (f_X10_isBad σ (f_X10_placeOf σ (f_X10_alikeTo σ (80 + a0) (σ 42 a0.toNat)))) = 0 then (if (σ 47 ((f_X10_placeOf σ (f_X10_alikeTo σ (80 + a0) (σ 42 a0.toNat))).toNat)) = 0 then σ else (up2 (up2 σ 45 a0.toNat 3) 46 a0.toNat (f_X10_alikeTo σ (80 + a0) (σ 42 a0.toNat)))) else (up2 (up2 σ 45 a0.toNat 3) 46 a0.toNat (f_X10_alikeTo σ (80 + a0) (σ 42 a0.toNat)))))) else σ) else (if x2 = a0 then L_X10_findTrouble_32 σ a0 n (x2 + 1) else (if (f_X10_isBad σ x2) = 0 then (if (f_X10_isAlike σ (80 + x2) (80 + a0)) = 0 then L_X10_findTrouble_32 σ a0 n (x2 + 1) else (up2 (up2 σ 45 a0.toNat 2) 46 a0.toNat (σ 42 x2.toNat))) else L_X10_findTrouble_32 σ a0 n (x2 + 1))))
set_option maxHeartbeats 4000000 in
set_option maxRecDepth 100000 in
theorem w_L_X10_findTrouble_32 {p : Program} {l : Launch} {e : Env} {s : State} {m : MethodId} {args : Array Value} {below : List Frame} {meth : Method} {c₀ : Code} {D : va_G} {cy : Nat → ClassId} {ad : Nat → Nat} (X : MX p s m args meth c₀ cX10_findTrouble 4 RX10 none wsX10_findTrouble D cy) (σ : Sg) (a0 : Int) (ha0 : (0 : Int) ≤ a0 ∧ a0 ≤ 39) : ∀ (n : Nat) (x2 : Int) (hx2 : (0 : Int) ≤ x2 ∧ x2 ≤ 40) (hmu : 40 - x2 < (n : Int)) (H : Heap) (locs : List Loc) (ls : Array Slot) (hI : HI D cy ad s σ H locs) (hl : lv_has ls 4 [(0, .ref (ad 28)), (1, .int (iI a0)), (2, .int (iI x2))]), W p l e { frames := 3, cells := 0, slots := 0, locals := 120 } s m args below meth c₀ H locs 0 0 (MQ below (CQ D cy ad none (L_X10_findTrouble_32 σ a0 n x2) (True) (AA ad s.heap.size)) args s 0 0 (AA ad s.heap.size)) (F0 m 32 ls []) := by
  obtain ⟨hx, hb, hr, hml, hown, hts, hlocks, hK, hN⟩ := id X
  intro n
  induction n with
  | zero =>
    intro x2 hx2 hmu H locs ls hI hl
    exfalso
    have hF := hI.2.2.2
    omega
  | succ n ih =>
    intro x2 hx2 hmu H locs ls hI hl
    have hF := hI.2.2.2
    refine lv_iload_n hx hb dX10_findTrouble_32 rfl (lv_at hl 2 rfl) ?_
    refine lv_aload_n hx hb dX10_findTrouble_33 rfl (lv_at hl 0 rfl) ?_
    refine g_get (C := RX10) (T := TX10) (N := 44) (ci := 9) (v := .int (iI (σ 28 26))) hx hb hts in_X10_findTrouble_X10 hown hK hI 28 (by decide) (cel_28 cy ad _) rfl 26 (by decide) (by decide +kernel) rfl dX10_findTrouble_34 ?_
    have b_5 := bd_28_26 hF
    refine g_icmp_ge (tgt := 97) hx hb dX10_findTrouble_37 (by decide) (by omega) (by omega) (fun c_6 => ?_) (fun c_6 => ?_)
    · skip
      refine lv_aload_n hx hb dX10_findTrouble_97 rfl (lv_at hl 0 rfl) ?_
      refine lv_bipush (v := iI 80) hx hb dX10_findTrouble_98 (iI_bip (by decide)) ?_
      refine lv_iload_n hx hb dX10_findTrouble_100 rfl (lv_at hl 1 rfl) ?_
      refine g_iadd hx hb dX10_findTrouble_101 ?_
      refine lv_aload_n hx hb dX10_findTrouble_102 rfl (lv_at hl 0 rfl) ?_
      refine g_get (C := RX10) (T := TX10) (N := 44) (ci := 9) (v := .ref (ad 42)) hx hb hts in_X10_findTrouble_X10 hown hK hI 28 (by decide) (cel_28 cy ad _) rfl 27 (by decide) (by decide +kernel) rfl dX10_findTrouble_103 ?_
      refine lv_iload_n hx hb dX10_findTrouble_106 rfl (lv_at hl 1 rfl) ?_
      refine g_iald (v := σ 42 a0.toNat) hx hb hK hI 42 (by decide) (cel_42 cy ad) (by omega) (by decide) rfl dX10_findTrouble_107 ?_
      have b_7 := bd_42 hF a0.toNat
      refine g_V (As := [.int (iI (80 + a0)), .int (iI (σ 42 a0.toNat))]) (rest := []) 28 (c_X10_alikeTo l D cy ad σ (80 + a0) (by omega) (σ 42 a0.toNat) (by omega)) hx hb hml hown hts hK hN hI hl.1 gX10_findTrouble_X10_alikeTo rfl hd_X10_alikeTo rfl rfl ⟨Nat.le_of_ble_eq_true rfl, Nat.le_of_ble_eq_true rfl⟩ ⟨Nat.zero_le _, Nat.zero_le _⟩ (by decide) (cel_28 cy ad _) rfl rfl rfl rfl (Nat.le_of_ble_eq_true rfl) dX10_findTrouble_108 (fun H locs hG_8 hI => ?_)
      refine lv_istore_n (lv' := [(2, .int (iI (f_X10_alikeTo σ (80 + a0) (σ 42 a0.toNat)))), (0, .ref (ad 28)), (1, .int (iI a0))]) hx hb dX10_findTrouble_111 rfl hl (by decide) rfl (fun ls hl => ?_)
      refine lv_aload_n hx hb dX10_findTrouble_112 rfl (lv_at hl 1 rfl) ?_
      refine g_get (C := RX10) (T := TX10) (N := 44) (ci := 9) (v := .ref (ad 47)) hx hb hts in_X10_findTrouble_X10 hown hK hI 28 (by decide) (cel_28 cy ad _) rfl 32 (by decide) (by decide +kernel) rfl dX10_findTrouble_113 ?_
      refine lv_iload_n hx hb dX10_findTrouble_116 rfl (lv_at hl 2 rfl) ?_
      refine g_zald (v := σ 47 a0.toNat) hx hb hK hI 47 (by decide) (cel_47 cy ad) (by omega) (by decide) rfl dX10_findTrouble_117 ?_
      have b_9 := bd_47 hF a0.toNat
      refine g_if_ne (tgt := 126) hx hb dX10_findTrouble_118 (by decide) (by omega) (fun c_10 => ?_) (fun c_10 => ?_)
      · skip
        have e9 : L_X10_findTrouble_32 σ a0 (n + 1) x2 = σ := by rw [L_X10_findTrouble_32, if_pos c_6, if_neg c_10]
        exact g_vret hx hb hr hK hN hlocks hI (by rw [e9]) trivial dX10_findTrouble_126
      · skip
        refine lv_iload_n hx hb dX10_findTrouble_121 rfl (lv_at hl 0 rfl) ?_
        refine lv_iconst (v := iI (-1)) hx hb dX10_findTrouble_122 rfl ?_
        refine g_icmp_ne (tgt := 127) hx hb dX10_findTrouble_123 (by decide) (by omega) (by omega) (fun c_11 => ?_) (fun c_11 => ?_)
        · skip
          refine lv_aload_n hx hb dX10_findTrouble_127 rfl (lv_at hl 1 rfl) ?_
          refine lv_iload_n hx hb dX10_findTrouble_128 rfl (lv_at hl 0 rfl) ?_
          refine g_V (As := [.int (iI (f_X10_alikeTo σ (80 + a0) (σ 42 a0.toNat)))]) (rest := []) 28 (c_X10_placeOf l D cy ad σ (f_X10_alikeTo σ (80 + a0) (σ 42 a0.toNat)) (by omega)) hx hb hml hown hts hK hN hI hl.1 gX10_findTrouble_X10_placeOf rfl hd_X10_placeOf rfl rfl ⟨Nat.le_of_ble_eq_true rfl, Nat.le_of_ble_eq_true rfl⟩ ⟨Nat.zero_le _, Nat.zero_le _⟩ (by decide) (cel_28 cy ad _) rfl rfl rfl rfl (Nat.le_of_ble_eq_true rfl) dX10_findTrouble_129 (fun H locs hG_12 hI => ?_)
          refine lv_istore_n (lv' := [(3, .int (iI (f_X10_placeOf σ (f_X10_alikeTo σ (80 + a0) (σ 42 a0.toNat))))), (2, .int (iI (f_X10_alikeTo σ (80 + a0) (σ 42 a0.toNat)))), (0, .ref (ad 28)), (1, .int (iI a0))]) hx hb dX10_findTrouble_132 rfl hl (by decide) rfl (fun ls hl => ?_)
          refine lv_iload_n hx hb dX10_findTrouble_133 rfl (lv_at hl 0 rfl) ?_
          refine lv_iconst (v := iI (-1)) hx hb dX10_findTrouble_134 rfl ?_
          refine g_icmp_eq (tgt := 156) hx hb dX10_findTrouble_135 (by decide) (by omega) (by omega) (fun c_13 => ?_) (fun c_13 => ?_)
          · skip
            refine lv_aload_n hx hb dX10_findTrouble_156 rfl (lv_at hl 2 rfl) ?_
            refine g_get (C := RX10) (T := TX10) (N := 44) (ci := 9) (v := .ref (ad 45)) hx hb hts in_X10_findTrouble_X10 hown hK hI 28 (by decide) (cel_28 cy ad _) rfl 30 (by decide) (by decide +kernel) rfl dX10_findTrouble_157 ?_
            refine lv_iload_n hx hb dX10_findTrouble_160 rfl (lv_at hl 3 rfl) ?_
            refine lv_iconst (v := iI 3) hx hb dX10_findTrouble_161 rfl ?_
            refine g_iast hx hb hK hI 45 (by decide) (cel_45 cy ad) (by omega) (by decide) (bw_45 (by omega)) dX10_findTrouble_162 (fun H locs hI => ?_)
            have hF_14 : WF (up2 σ 45 a0.toNat 3) := hI.2.2.2
            refine lv_aload_n hx hb dX10_findTrouble_163 rfl (lv_at hl 2 rfl) ?_
            refine g_get (C := RX10) (T := TX10) (N := 44) (ci := 9) (v := .ref (ad 46)) hx hb hts in_X10_findTrouble_X10 hown hK hI 28 (by decide) (cel_28 cy ad _) rfl 31 (by decide) (by decide +kernel) rfl dX10_findTrouble_164 ?_
            refine lv_iload_n hx hb dX10_findTrouble_167 rfl (lv_at hl 3 rfl) ?_
            refine lv_iload_n hx hb dX10_findTrouble_168 rfl (lv_at hl 1 rfl) ?_
            refine g_iast hx hb hK hI 46 (by decide) (cel_46 cy ad) (by omega) (by decide) (bw_46 (by omega)) dX10_findTrouble_169 (fun H locs hI => ?_)
            have hF_15 : WF (up2 (up2 σ 45 a0.toNat 3) 46 a0.toNat (f_X10_alikeTo σ (80 + a0) (σ 42 a0.toNat))) := hI.2.2.2
            have e9 : L_X10_findTrouble_32 σ a0 (n + 1) x2 = (up2 (up2 σ 45 a0.toNat 3) 46 a0.toNat (f_X10_alikeTo σ (80 + a0) (σ 42 a0.toNat))) := by rw [L_X10_findTrouble_32, if_pos c_6, if_pos c_10, if_neg c_11, if_pos c_13]
            exact g_vret hx hb hr hK hN hlocks hI (by rw [e9]) trivial dX10_findTrouble_170
          · skip
            refine lv_aload_n hx hb dX10_findTrouble_138 rfl (lv_at hl 2 rfl) ?_
            refine lv_iload_n hx hb dX10_findTrouble_139 rfl (lv_at hl 0 rfl) ?_
            refine g_V (As := [.int (iI (f_X10_placeOf σ (f_X10_alikeTo σ (80 + a0) (σ 42 a0.toNat))))]) (rest := []) 28 (c_X10_isBad l D cy ad σ (f_X10_placeOf σ (f_X10_alikeTo σ (80 + a0) (σ 42 a0.toNat))) (by omega)) hx hb hml hown hts hK hN hI hl.1 gX10_findTrouble_X10_isBad rfl hd_X10_isBad rfl rfl ⟨Nat.le_of_ble_eq_true rfl, Nat.le_of_ble_eq_true rfl⟩ ⟨Nat.zero_le _, Nat.zero_le _⟩ (by decide) (cel_28 cy ad _) rfl rfl rfl rfl (Nat.le_of_ble_eq_true rfl) dX10_findTrouble_140 (fun H locs hG_16 hI => ?_)
            refine g_if_ne (tgt := 156) hx hb dX10_findTrouble_143 (by decide) (by omega) (fun c_17 => ?_) (fun c_17 => ?_)
            · skip
              refine lv_aload_n hx hb dX10_findTrouble_156 rfl (lv_at hl 2 rfl) ?_
              refine g_get (C := RX10) (T := TX10) (N := 44) (ci := 9) (v := .ref (ad 45)) hx hb hts in_X10_findTrouble_X10 hown hK hI 28 (by decide) (cel_28 cy ad _) rfl 30 (by decide) (by decide +kernel) rfl dX10_findTrouble_157 ?_
              refine lv_iload_n hx hb dX10_findTrouble_160 rfl (lv_at hl 3 rfl) ?_
              refine lv_iconst (v := iI 3) hx hb dX10_findTrouble_161 rfl ?_
              refine g_iast hx hb hK hI 45 (by decide) (cel_45 cy ad) (by omega) (by decide) (bw_45 (by omega)) dX10_findTrouble_162 (fun H locs hI => ?_)
              have hF_18 : WF (up2 σ 45 a0.toNat 3) := hI.2.2.2
              refine lv_aload_n hx hb dX10_findTrouble_163 rfl (lv_at hl 2 rfl) ?_
              refine g_get (C := RX10) (T := TX10) (N := 44) (ci := 9) (v := .ref (ad 46)) hx hb hts in_X10_findTrouble_X10 hown hK hI 28 (by decide) (cel_28 cy ad _) rfl 31 (by decide) (by decide +kernel) rfl dX10_findTrouble_164 ?_
              refine lv_iload_n hx hb dX10_findTrouble_167 rfl (lv_at hl 3 rfl) ?_
              refine lv_iload_n hx hb dX10_findTrouble_168 rfl (lv_at hl 1 rfl) ?_
              refine g_iast hx hb hK hI 46 (by decide) (cel_46 cy ad) (by omega) (by decide) (bw_46 (by omega)) dX10_findTrouble_169 (fun H locs hI => ?_)
              have hF_19 : WF (up2 (up2 σ 45 a0.toNat 3) 46 a0.toNat (f_X10_alikeTo σ (80 + a0) (σ 42 a0.toNat))) := hI.2.2.2
              have e9 : L_X10_findTrouble_32 σ a0 (n + 1) x2 = (up2 (up2 σ 45 a0.toNat 3) 46 a0.toNat (f_X10_alikeTo σ (80 + a0) (σ 42 a0.toNat))) := by rw [L_X10_findTrouble_32, if_pos c_6, if_pos c_10, if_neg c_11, if_neg c_13, if_neg c_17]
              exact g_vret hx hb hr hK hN hlocks hI (by rw [e9]) trivial dX10_findTrouble_170
            · skip
              refine lv_aload_n hx hb dX10_findTrouble_146 rfl (lv_at hl 2 rfl) ?_
              refine g_get (C := RX10) (T := TX10) (N := 44) (ci := 9) (v := .ref (ad 47)) hx hb hts in_X10_findTrouble_X10 hown hK hI 28 (by decide) (cel_28 cy ad _) rfl 32 (by decide) (by decide +kernel) rfl dX10_findTrouble_147 ?_
              refine lv_iload_n hx hb dX10_findTrouble_150 rfl (lv_at hl 0 rfl) ?_
              refine g_zald (v := σ 47 ((f_X10_placeOf σ (f_X10_alikeTo σ (80 + a0) (σ 42 a0.toNat))).toNat)) hx hb hK hI 47 (by decide) (cel_47 cy ad) (by omega) (by decide) rfl dX10_findTrouble_151 ?_
              have b_20 := bd_47 hF ((f_X10_placeOf σ (f_X10_alikeTo σ (80 + a0) (σ 42 a0.toNat))).toNat)
              refine g_if_ne (tgt := 156) hx hb dX10_findTrouble_152 (by decide) (by omega) (fun c_21 => ?_) (fun c_21 => ?_)
              · skip
                refine lv_aload_n hx hb dX10_findTrouble_156 rfl (lv_at hl 2 rfl) ?_
                refine g_get (C := RX10) (T := TX10) (N := 44) (ci := 9) (v := .ref (ad 45)) hx hb hts in_X10_findTrouble_X10 hown hK hI 28 (by decide) (cel_28 cy ad _) rfl 30 (by decide) (by decide +kernel) rfl dX10_findTrouble_157 ?_
                refine lv_iload_n hx hb dX10_findTrouble_160 rfl (lv_at hl 3 rfl) ?_
                refine lv_iconst (v := iI 3) hx hb dX10_findTrouble_161 rfl ?_
                refine g_iast hx hb hK hI 45 (by decide) (cel_45 cy ad) (by omega) (by decide) (bw_45 (by omega)) dX10_findTrouble_162 (fun H locs hI => ?_)
                have hF_22 : WF (up2 σ 45 a0.toNat 3) := hI.2.2.2
                refine lv_aload_n hx hb dX10_findTrouble_163 rfl (lv_at hl 2 rfl) ?_
                refine g_get (C := RX10) (T := TX10) (N := 44) (ci := 9) (v := .ref (ad 46)) hx hb hts in_X10_findTrouble_X10 hown hK hI 28 (by decide) (cel_28 cy ad _) rfl 31 (by decide) (by decide +kernel) rfl dX10_findTrouble_164 ?_
                refine lv_iload_n hx hb dX10_findTrouble_167 rfl (lv_at hl 3 rfl) ?_
                refine lv_iload_n hx hb dX10_findTrouble_168 rfl (lv_at hl 1 rfl) ?_
                refine g_iast hx hb hK hI 46 (by decide) (cel_46 cy ad) (by omega) (by decide) (bw_46 (by omega)) dX10_findTrouble_169 (fun H locs hI => ?_)
                have hF_23 : WF (up2 (up2 σ 45 a0.toNat 3) 46 a0.toNat (f_X10_alikeTo σ (80 + a0) (σ 42 a0.toNat))) := hI.2.2.2
                have e9 : L_X10_findTrouble_32 σ a0 (n + 1) x2 = (up2 (up2 σ 45 a0.toNat 3) 46 a0.toNat (f_X10_alikeTo σ (80 + a0) (σ 42 a0.toNat))) := by rw [L_X10_findTrouble_32, if_pos c_6, if_pos c_10, if_neg c_11, if_neg c_13, if_pos c_17, if_neg c_21]
                exact g_vret hx hb hr hK hN hlocks hI (by rw [e9]) trivial dX10_findTrouble_170
              · skip
                have e9 : L_X10_findTrouble_32 σ a0 (n + 1) x2 = σ := by rw [L_X10_findTrouble_32, if_pos c_6, if_pos c_10, if_neg c_11, if_neg c_13, if_pos c_17, if_pos c_21]
                exact g_vret hx hb hr hK hN hlocks hI (by rw [e9]) trivial dX10_findTrouble_155
        · skip
          have e9 : L_X10_findTrouble_32 σ a0 (n + 1) x2 = σ := by rw [L_X10_findTrouble_32, if_pos c_6, if_pos c_10, if_pos c_11]
          exact g_vret hx hb hr hK hN hlocks hI (by rw [e9]) trivial dX10_findTrouble_126
    · skip
      refine lv_iload_n hx hb dX10_findTrouble_40 rfl (lv_at hl 2 rfl) ?_
      refine lv_iload_n hx hb dX10_findTrouble_41 rfl (lv_at hl 1 rfl) ?_
      refine g_icmp_eq (tgt := 91) hx hb dX10_findTrouble_42 (by decide) (by omega) (by omega) (fun c_24 => ?_) (fun c_24 => ?_)
      · skip
        refine lv_iinc (v := iI (x2 + 1)) (lv' := [(2, .int (iI (x2 + 1))), (0, .ref (ad 28)), (1, .int (iI a0))]) hx hb dX10_findTrouble_91 hl (k := 2) rfl (iI_add _ _) (by decide) rfl (fun ls hl => ?_)
        refine lv_goto (tgt := 32) hx hb dX10_findTrouble_94 (by decide) ?_
        have e9 : L_X10_findTrouble_32 σ a0 (n + 1) x2 = L_X10_findTrouble_32 σ a0 n (x2 + 1) := by rw [L_X10_findTrouble_32, if_neg c_6, if_pos c_24]
        rw [e9]
        exact ih (x2 + 1)  (by omega) (by omega) _ _ _ hI (lv_sub hl [1, 2, 0] rfl)
      · skip
        refine lv_aload_n hx hb dX10_findTrouble_45 rfl (lv_at hl 0 rfl) ?_
        refine lv_iload_n hx hb dX10_findTrouble_46 rfl (lv_at hl 2 rfl) ?_
        refine g_V (As := [.int (iI x2)]) (rest := []) 28 (c_X10_isBad l D cy ad σ x2 (by omega)) hx hb hml hown hts hK hN hI hl.1 gX10_findTrouble_X10_isBad rfl hd_X10_isBad rfl rfl ⟨Nat.le_of_ble_eq_true rfl, Nat.le_of_ble_eq_true rfl⟩ ⟨Nat.zero_le _, Nat.zero_le _⟩ (by decide) (cel_28 cy ad _) rfl rfl rfl rfl (Nat.le_of_ble_eq_true rfl) dX10_findTrouble_47 (fun H locs hG_25 hI => ?_)
        refine g_if_ne (tgt := 91) hx hb dX10_findTrouble_50 (by decide) (by omega) (fun c_26 => ?_) (fun c_26 => ?_)
        · skip
          refine lv_iinc (v := iI (x2 + 1)) (lv' := [(2, .int (iI (x2 + 1))), (0, .ref (ad 28)), (1, .int (iI a0))]) hx hb dX10_findTrouble_91 hl (k := 2) rfl (iI_add _ _) (by decide) rfl (fun ls hl => ?_)
          refine lv_goto (tgt := 32) hx hb dX10_findTrouble_94 (by decide) ?_
          have e9 : L_X10_findTrouble_32 σ a0 (n + 1) x2 = L_X10_findTrouble_32 σ a0 n (x2 + 1) := by rw [L_X10_findTrouble_32, if_neg c_6, if_neg c_24, if_neg c_26]
          rw [e9]
          exact ih (x2 + 1)  (by omega) (by omega) _ _ _ hI (lv_sub hl [1, 2, 0] rfl)
        · skip
          refine lv_aload_n hx hb dX10_findTrouble_53 rfl (lv_at hl 0 rfl) ?_
          refine lv_bipush (v := iI 80) hx hb dX10_findTrouble_54 (iI_bip (by decide)) ?_
          refine lv_iload_n hx hb dX10_findTrouble_56 rfl (lv_at hl 2 rfl) ?_
          refine g_iadd hx hb dX10_findTrouble_57 ?_
          refine lv_bipush (v := iI 80) hx hb dX10_findTrouble_58 (iI_bip (by decide)) ?_
          refine lv_iload_n hx hb dX10_findTrouble_60 rfl (lv_at hl 1 rfl) ?_
          refine g_iadd hx hb dX10_findTrouble_61 ?_
          refine g_V (As := [.int (iI (80 + x2)), .int (iI (80 + a0))]) (rest := []) 28 (c_X10_isAlike l D cy ad σ (80 + x2) (by omega) (80 + a0) (by omega)) hx hb hml hown hts hK hN hI hl.1 gX10_findTrouble_X10_isAlike rfl hd_X10_isAlike rfl rfl ⟨Nat.le_of_ble_eq_true rfl, Nat.le_of_ble_eq_true rfl⟩ ⟨Nat.zero_le _, Nat.zero_le _⟩ (by decide) (cel_28 cy ad _) rfl rfl rfl rfl (Nat.le_of_ble_eq_true rfl) dX10_findTrouble_62 (fun H locs hG_27 hI => ?_)
          refine g_if_ne (tgt := 71) hx hb dX10_findTrouble_65 (by decide) (by omega) (fun c_28 => ?_) (fun c_28 => ?_)
          · skip
            refine lv_aload_n hx hb dX10_findTrouble_71 rfl (lv_at hl 0 rfl) ?_
            refine g_get (C := RX10) (T := TX10) (N := 44) (ci := 9) (v := .ref (ad 45)) hx hb hts in_X10_findTrouble_X10 hown hK hI 28 (by decide) (cel_28 cy ad _) rfl 30 (by decide) (by decide +kernel) rfl dX10_findTrouble_72 ?_
            refine lv_iload_n hx hb dX10_findTrouble_75 rfl (lv_at hl 1 rfl) ?_
            refine lv_iconst (v := iI 2) hx hb dX10_findTrouble_76 rfl ?_
            refine g_iast hx hb hK hI 45 (by decide) (cel_45 cy ad) (by omega) (by decide) (bw_45 (by omega)) dX10_findTrouble_77 (fun H locs hI => ?_)
            have hF_29 : WF (up2 σ 45 a0.toNat 2) := hI.2.2.2
            refine lv_aload_n hx hb dX10_findTrouble_78 rfl (lv_at hl 0 rfl) ?_
            refine g_get (C := RX10) (T := TX10) (N := 44) (ci := 9) (v := .ref (ad 46)) hx hb hts in_X10_findTrouble_X10 hown hK hI 28 (by decide) (cel_28 cy ad _) rfl 31 (by decide) (by decide +kernel) rfl dX10_findTrouble_79 ?_
            refine lv_iload_n hx hb dX10_findTrouble_82 rfl (lv_at hl 1 rfl) ?_
            refine lv_aload_n hx hb dX10_findTrouble_83 rfl (lv_at hl 0 rfl) ?_
            refine g_get (C := RX10) (T := TX10) (N := 44) (ci := 9) (v := .ref (ad 42)) hx hb hts in_X10_findTrouble_X10 hown hK hI 28 (by decide) (cel_28 cy ad _) rfl 27 (by decide) (by decide +kernel) rfl dX10_findTrouble_84 ?_
            refine lv_iload_n hx hb dX10_findTrouble_87 rfl (lv_at hl 2 rfl) ?_
            refine g_iald (v := σ 42 x2.toNat) hx hb hK hI 42 (by decide) (cel_42 cy ad) (by omega) (by decide) (by rw [up2_cell _ _ _ (by decide)]) dX10_findTrouble_88 ?_
            have b_30 := bd_42 hF x2.toNat
            refine g_iast hx hb hK hI 46 (by decide) (cel_46 cy ad) (by omega) (by decide) (bw_46 (by omega)) dX10_findTrouble_89 (fun H locs hI => ?_)
            have hF_31 : WF (up2 (up2 σ 45 a0.toNat 2) 46 a0.toNat (σ 42 x2.toNat)) := hI.2.2.2
            have e9 : L_X10_findTrouble_32 σ a0 (n + 1) x2 = (up2 (up2 σ 45 a0.toNat 2) 46 a0.toNat (σ 42 x2.toNat)) := by rw [L_X10_findTrouble_32, if_neg c_6, if_neg c_24, if_pos c_26, if_neg c_28]
            exact g_vret hx hb hr hK hN hlocks hI (by rw [e9]) trivial dX10_findTrouble_90
          · skip
            refine lv_goto (tgt := 91) hx hb dX10_findTrouble_68 (by decide) ?_
            refine lv_iinc (v := iI (x2 + 1)) (lv' := [(2, .int (iI (x2 + 1))), (0, .ref (ad 28)), (1, .int (iI a0))]) hx hb dX10_findTrouble_91 hl (k := 2) rfl (iI_add _ _) (by decide) rfl (fun ls hl => ?_)
            refine lv_goto (tgt := 32) hx hb dX10_findTrouble_94 (by decide) ?_
            have e9 : L_X10_findTrouble_32 σ a0 (n + 1) x2 = L_X10_findTrouble_32 σ a0 n (x2 + 1) := by rw [L_X10_findTrouble_32, if_neg c_6, if_neg c_24, if_pos c_26, if_pos c_28]
            rw [e9]
            exact ih (x2 + 1)  (by omega) (by omega) _ _ _ hI (lv_sub hl [1, 2, 0] rfl)
def f_X10_findTrouble (σ : Sg) (a0 : Int) : Sg := (if (f_X10_isBad (up2 (up2 σ 45 a0.toNat 0) 46 a0.toNat (-1)) a0) = 0 then L_X10_findTrouble_32 (up2 (up2 σ 45 a0.toNat 0) 46 a0.toNat (-1)) a0 41 0 else (up2 (up2 (up2 σ 45 a0.toNat 0) 46 a0.toNat (-1)) 45 a0.toNat 1))
theorem hd_X10_findTrouble : yX10_findTrouble.cls = RX10 ∧ yX10_findTrouble.cls ≠ "java/lang/invoke/MethodHandle" ∧ yX10_findTrouble.cls ≠ "java/lang/invoke/VarHandle" ∧ (parseMethodDescriptor yX10_findTrouble.desc).map (fun d => d.parameters.length) = some 1 := by decide +kernel
set_option maxHeartbeats 4000000 in
set_option maxRecDepth 100000 in
theorem c_X10_findTrouble (l : Launch) (D : va_G) (cy : Nat → ClassId) (ad : Nat → Nat) (σ : Sg) (a0 : Int) (ha0 : (0 : Int) ≤ a0 ∧ a0 ≤ 39) : CM l D cy ad yX10_findTrouble wsX10_findTrouble { frames := 3, cells := 0, slots := 0, locals := 120 } [.ref (ad 28), .int (iI a0)] σ none (f_X10_findTrouble σ a0) (True) := by
  refine CM.of (cc := cX10_findTrouble) (maxL := 4) (ret := none) (by decide) rfl (Nat.le_of_ble_eq_true rfl) ?_
  intro p e s m args below meth c₀ ls X hI hl
  have hl : lv_has ls 4 [(0, .ref (ad 28)), (1, .int (iI a0))] := hl
  obtain ⟨hx, hb, hr, hml, hown, hts, hlocks, hK, hN⟩ := id X
  have hF := hI.2.2.2
  refine lv_aload_n hx hb dX10_findTrouble_0 rfl (lv_at hl 0 rfl) ?_
  refine g_get (C := RX10) (T := TX10) (N := 44) (ci := 9) (v := .ref (ad 45)) hx hb hts in_X10_findTrouble_X10 hown hK hI 28 (by decide) (cel_28 cy ad _) rfl 30 (by decide) (by decide +kernel) rfl dX10_findTrouble_1 ?_
  refine lv_iload_n hx hb dX10_findTrouble_4 rfl (lv_at hl 1 rfl) ?_
  refine lv_iconst (v := iI 0) hx hb dX10_findTrouble_5 rfl ?_
  refine g_iast hx hb hK hI 45 (by decide) (cel_45 cy ad) (by omega) (by decide) (bw_45 (by omega)) dX10_findTrouble_6 (fun H locs hI => ?_)
  have hF_1 : WF (up2 σ 45 a0.toNat 0) := hI.2.2.2
  refine lv_aload_n hx hb dX10_findTrouble_7 rfl (lv_at hl 0 rfl) ?_
  refine g_get (C := RX10) (T := TX10) (N := 44) (ci := 9) (v := .ref (ad 46)) hx hb hts in_X10_findTrouble_X10 hown hK hI 28 (by decide) (cel_28 cy ad _) rfl 31 (by decide) (by decide +kernel) rfl dX10_findTrouble_8 ?_
  refine lv_iload_n hx hb dX10_findTrouble_11 rfl (lv_at hl 1 rfl) ?_
  refine lv_iconst (v := iI (-1)) hx hb dX10_findTrouble_12 rfl ?_
  refine g_iast hx hb hK hI 46 (by decide) (cel_46 cy ad) (by omega) (by decide) (bw_46 (by omega)) dX10_findTrouble_13 (fun H locs hI => ?_)
  have hF_2 : WF (up2 (up2 σ 45 a0.toNat 0) 46 a0.toNat (-1)) := hI.2.2.2
  refine lv_aload_n hx hb dX10_findTrouble_14 rfl (lv_at hl 0 rfl) ?_
  refine lv_iload_n hx hb dX10_findTrouble_15 rfl (lv_at hl 1 rfl) ?_
  refine g_V (As := [.int (iI a0)]) (rest := []) 28 (c_X10_isBad l D cy ad (up2 (up2 σ 45 a0.toNat 0) 46 a0.toNat (-1)) a0 (by omega)) hx hb hml hown hts hK hN hI hl.1 gX10_findTrouble_X10_isBad rfl hd_X10_isBad rfl rfl ⟨Nat.le_of_ble_eq_true rfl, Nat.le_of_ble_eq_true rfl⟩ ⟨Nat.zero_le _, Nat.zero_le _⟩ (by decide) (cel_28 cy ad _) rfl rfl rfl rfl (Nat.le_of_ble_eq_true rfl) dX10_findTrouble_16 (fun H locs hG_3 hI => ?_)
  refine g_if_eq (tgt := 30) hx hb dX10_findTrouble_19 (by decide) (by omega) (fun c_4 => ?_) (fun c_4 => ?_)
  · skip
    refine lv_iconst (v := iI 0) hx hb dX10_findTrouble_30 rfl ?_
    refine lv_istore_n (lv' := [(2, .int (iI 0)), (0, .ref (ad 28)), (1, .int (iI a0))]) hx hb dX10_findTrouble_31 rfl hl (by decide) rfl (fun ls hl => ?_)
    have e9 : f_X10_findTrouble σ a0 = L_X10_findTrouble_32 (up2 (up2 σ 45 a0.toNat 0) 46 a0.toNat (-1)) a0 41 0 := by rw [f_X10_findTrouble, if_pos c_4]
    rw [e9]
    exact w_L_X10_findTrouble_32 X (up2 (up2 σ 45 a0.toNat 0) 46 a0.toNat (-1)) a0 ha0  41 0  (by omega) (by omega) _ _ _ hI (lv_sub hl [1, 2, 0] rfl)
  · skip
    refine lv_aload_n hx hb dX10_findTrouble_22 rfl (lv_at hl 0 rfl) ?_
    refine g_get (C := RX10) (T := TX10) (N := 44) (ci := 9) (v := .ref (ad 45)) hx hb hts in_X10_findTrouble_X10 hown hK hI 28 (by decide) (cel_28 cy ad _) rfl 30 (by decide) (by decide +kernel) rfl dX10_findTrouble_23 ?_
    refine lv_iload_n hx hb dX10_findTrouble_26 rfl (lv_at hl 1 rfl) ?_
    refine lv_iconst (v := iI 1) hx hb dX10_findTrouble_27 rfl ?_
    refine g_iast hx hb hK hI 45 (by decide) (cel_45 cy ad) (by omega) (by decide) (bw_45 (by omega)) dX10_findTrouble_28 (fun H locs hI => ?_)
    have hF_32 : WF (up2 (up2 (up2 σ 45 a0.toNat 0) 46 a0.toNat (-1)) 45 a0.toNat 1) := hI.2.2.2
    have e9 : f_X10_findTrouble σ a0 = (up2 (up2 (up2 σ 45 a0.toNat 0) 46 a0.toNat (-1)) 45 a0.toNat 1) := by rw [f_X10_findTrouble, if_neg c_4]
    exact g_vret hx hb hr hK hN hlocks hI (by rw [e9]) trivial dX10_findTrouble_29
theorem in_X10_planned_X10 : ∀ w ∈ u_ws RX10 TX10 44, w ∈ wsX10_planned := by decide +kernel
def f_X10_planned (σ : Sg) (a0 : Int) (a1 : Int) : Int × Sg := (if (σ 28 25) = 0 then ((-1), (up2 σ 28 0 0)) else (if a0 < 0 then ((-1), (up2 σ 28 0 0)) else (if a0 < (σ 28 26) then (if a1 = 0 then (σ 42 a0.toNat, (up2 σ 28 0 0)) else (if a1 = 1 then (σ 45 a0.toNat, (up2 σ 28 0 0)) else (if a1 = 2 then (σ 46 a0.toNat, (up2 σ 28 0 0)) else (if a1 = 3 then (σ 31 ((80 + a0).toNat), (up2 σ 28 0 0)) else (if a1 = 4 then (σ 44 a0.toNat, (up2 σ 28 0 0)) else (if a1 = 5 then (if (σ 47 a0.toNat) = 0 then (0, (up2 σ 28 0 0)) else (1, (up2 σ 28 0 0))) else (if a1 = 6 then (σ 43 a0.toNat, (up2 σ 28 0 0)) else ((-1), (up2 σ 28 0 0))))))))) else ((-1), (up2 σ 28 0 0)))))
theorem hd_X10_planned : yX10_planned.cls = RX10 ∧ yX10_planned.cls ≠ "java/lang/invoke/MethodHandle" ∧ yX10_planned.cls ≠ "java/lang/invoke/VarHandle" ∧ (parseMethodDescriptor yX10_planned.desc).map (fun d => d.parameters.length) = some 2 := by decide +kernel
set_option maxHeartbeats 4000000 in
set_option maxRecDepth 100000 in
theorem c_X10_planned (l : Launch) (D : va_G) (cy : Nat → ClassId) (ad : Nat → Nat) (σ : Sg) (a0 : Int) (ha0 : (-2147483648 ≤ a0 ∧ a0 < 2147483648)) (a1 : Int) (ha1 : (-2147483648 ≤ a1 ∧ a1 < 2147483648)) : CM l D cy ad yX10_planned wsX10_planned { frames := 0, cells := 0, slots := 0, locals := 0 } [.ref (ad 28), .int (iI a0), .int (iI a1)] σ (some (.int (iI ((f_X10_planned σ a0 a1).1)))) ((f_X10_planned σ a0 a1).2) (True) := by
  refine CM.of (cc := cX10_planned) (maxL := 3) (ret := (some .int)) (by decide) rfl (Nat.le_of_ble_eq_true rfl) ?_
  intro p e s m args below meth c₀ ls X hI hl
  have hl : lv_has ls 3 [(0, .ref (ad 28)), (1, .int (iI a0)), (2, .int (iI a1))] := hl
  obtain ⟨hx, hb, hr, hml, hown, hts, hlocks, hK, hN⟩ := id X
  have hF := hI.2.2.2
  refine lv_aload_n hx hb dX10_planned_0 rfl (lv_at hl 0 rfl) ?_
  refine lv_iconst (v := iI 0) hx hb dX10_planned_1 rfl ?_
  refine g_put (C := RX10) (T := TX10) (N := 44) (ci := 9) (ty := .int) (z := 0) hx hb hts in_X10_planned_X10 tyX10 tyX10_ok nmX10 hown hK hI 28 (by decide) (cel_28 cy ad) rfl 0 (by decide) (by decide +kernel) rfl (by decide +kernel) rfl rfl (Nat.le_of_ble_eq_true rfl) rfl (bw_28_0 (by omega)) dX10_planned_2 (fun H locs hI => ?_)
  have hF_1 := hI.2.2.2
  refine lv_aload_n hx hb dX10_planned_5 rfl (lv_at hl 0 rfl) ?_
  refine g_get (C := RX10) (T := TX10) (N := 44) (ci := 9) (v := .int (iI (σ 28 25))) hx hb hts in_X10_planned_X10 hown hK hI 28 (by decide) (cel_28 cy ad _) rfl 25 (by decide) (by decide +kernel) (by show some (Value.int (iI ((up2 σ 28 0 0) 28 25))) = _; rw [up2_slot _ _ (by decide)]) dX10_planned_6 ?_
  have b_2 := bd_28_25 hF
  refine g_if_eq (tgt := 24) hx hb dX10_planned_9 (by decide) (by omega) (fun c_3 => ?_) (fun c_3 => ?_)
  · skip
    refine lv_iconst (v := iI (-1)) hx hb dX10_planned_24 rfl ?_
    have e9 : f_X10_planned σ a0 a1 = ((-1), (up2 σ 28 0 0)) := by rw [f_X10_planned, if_pos c_3]
    exact g_iret (z := (-1)) hx hb hr hK hN hlocks hI (by rw [e9]) (by rw [e9]) trivial dX10_planned_25
  · skip
    refine lv_iload_n hx hb dX10_planned_12 rfl (lv_at hl 1 rfl) ?_
    refine g_if_lt (tgt := 24) hx hb dX10_planned_13 (by decide) (by omega) (fun c_4 => ?_) (fun c_4 => ?_)
    · skip
      refine lv_iconst (v := iI (-1)) hx hb dX10_planned_24 rfl ?_
      have e9 : f_X10_planned σ a0 a1 = ((-1), (up2 σ 28 0 0)) := by rw [f_X10_planned, if_neg c_3, if_pos c_4]
      exact g_iret (z := (-1)) hx hb hr hK hN hlocks hI (by rw [e9]) (by rw [e9]) trivial dX10_planned_25
    · skip
      refine lv_iload_n hx hb dX10_planned_16 rfl (lv_at hl 1 rfl) ?_
      refine lv_aload_n hx hb dX10_planned_17 rfl (lv_at hl 0 rfl) ?_
      refine g_get (C := RX10) (T := TX10) (N := 44) (ci := 9) (v := .int (iI (σ 28 26))) hx hb hts in_X10_planned_X10 hown hK hI 28 (by decide) (cel_28 cy ad _) rfl 26 (by decide) (by decide +kernel) (by show some (Value.int (iI ((up2 σ 28 0 0) 28 26))) = _; rw [up2_slot _ _ (by decide)]) dX10_planned_18 ?_
      have b_5 := bd_28_26 hF
      refine g_icmp_lt (tgt := 26) hx hb dX10_planned_21 (by decide) (by omega) (by omega) (fun c_6 => ?_) (fun c_6 => ?_)
      · skip
        refine lv_iload_n hx hb dX10_planned_26 rfl (lv_at hl 2 rfl) ?_
        by_cases c_7 : a1 = 0
        · refine g_tsw (tgt := 68) (off := 41) hx hb dX10_planned_27 (by omega) (by omega) (by rw [c_7]; rfl) (by decide) ?_
          refine lv_aload_n hx hb dX10_planned_68 rfl (lv_at hl 0 rfl) ?_
          refine g_get (C := RX10) (T := TX10) (N := 44) (ci := 9) (v := .ref (ad 42)) hx hb hts in_X10_planned_X10 hown hK hI 28 (by decide) (cel_28 cy ad _) rfl 27 (by decide) (by decide +kernel) rfl dX10_planned_69 ?_
          refine lv_iload_n hx hb dX10_planned_72 rfl (lv_at hl 1 rfl) ?_
          refine g_iald (v := σ 42 a0.toNat) hx hb hK hI 42 (by decide) (cel_42 cy ad) (by omega) (by decide) (by rw [up2_cell _ _ _ (by decide)]) dX10_planned_73 ?_
          have b_8 := bd_42 hF a0.toNat
          have e9 : f_X10_planned σ a0 a1 = (σ 42 a0.toNat, (up2 σ 28 0 0)) := by rw [f_X10_planned, if_neg c_3, if_neg c_4, if_pos c_6, if_pos c_7]
          exact g_iret (z := σ 42 a0.toNat) hx hb hr hK hN hlocks hI (by rw [e9]) (by rw [e9]) trivial dX10_planned_74
        · skip
          by_cases c_9 : a1 = 1
          · refine g_tsw (tgt := 75) (off := 48) hx hb dX10_planned_27 (by omega) (by omega) (by rw [c_9]; rfl) (by decide) ?_
            refine lv_aload_n hx hb dX10_planned_75 rfl (lv_at hl 0 rfl) ?_
            refine g_get (C := RX10) (T := TX10) (N := 44) (ci := 9) (v := .ref (ad 45)) hx hb hts in_X10_planned_X10 hown hK hI 28 (by decide) (cel_28 cy ad _) rfl 30 (by decide) (by decide +kernel) rfl dX10_planned_76 ?_
            refine lv_iload_n hx hb dX10_planned_79 rfl (lv_at hl 1 rfl) ?_
            refine g_iald (v := σ 45 a0.toNat) hx hb hK hI 45 (by decide) (cel_45 cy ad) (by omega) (by decide) (by rw [up2_cell _ _ _ (by decide)]) dX10_planned_80 ?_
            have b_10 := bd_45 hF a0.toNat
            have e9 : f_X10_planned σ a0 a1 = (σ 45 a0.toNat, (up2 σ 28 0 0)) := by rw [f_X10_planned, if_neg c_3, if_neg c_4, if_pos c_6, if_neg c_7, if_pos c_9]
            exact g_iret (z := σ 45 a0.toNat) hx hb hr hK hN hlocks hI (by rw [e9]) (by rw [e9]) trivial dX10_planned_81
          · skip
            by_cases c_11 : a1 = 2
            · refine g_tsw (tgt := 82) (off := 55) hx hb dX10_planned_27 (by omega) (by omega) (by rw [c_11]; rfl) (by decide) ?_
              refine lv_aload_n hx hb dX10_planned_82 rfl (lv_at hl 0 rfl) ?_
              refine g_get (C := RX10) (T := TX10) (N := 44) (ci := 9) (v := .ref (ad 46)) hx hb hts in_X10_planned_X10 hown hK hI 28 (by decide) (cel_28 cy ad _) rfl 31 (by decide) (by decide +kernel) rfl dX10_planned_83 ?_
              refine lv_iload_n hx hb dX10_planned_86 rfl (lv_at hl 1 rfl) ?_
              refine g_iald (v := σ 46 a0.toNat) hx hb hK hI 46 (by decide) (cel_46 cy ad) (by omega) (by decide) (by rw [up2_cell _ _ _ (by decide)]) dX10_planned_87 ?_
              have b_12 := bd_46 hF a0.toNat
              have e9 : f_X10_planned σ a0 a1 = (σ 46 a0.toNat, (up2 σ 28 0 0)) := by rw [f_X10_planned, if_neg c_3, if_neg c_4, if_pos c_6, if_neg c_7, if_neg c_9, if_pos c_11]
              exact g_iret (z := σ 46 a0.toNat) hx hb hr hK hN hlocks hI (by rw [e9]) (by rw [e9]) trivial dX10_planned_88
            · skip
              by_cases c_13 : a1 = 3
              · refine g_tsw (tgt := 89) (off := 62) hx hb dX10_planned_27 (by omega) (by omega) (by rw [c_13]; rfl) (by decide) ?_
                refine lv_aload_n hx hb dX10_planned_89 rfl (lv_at hl 0 rfl) ?_
                refine g_get (C := RX10) (T := TX10) (N := 44) (ci := 9) (v := .ref (ad 31)) hx hb hts in_X10_planned_X10 hown hK hI 28 (by decide) (cel_28 cy ad _) rfl 3 (by decide) (by decide +kernel) rfl dX10_planned_90 ?_
                refine lv_bipush (v := iI 80) hx hb dX10_planned_93 (iI_bip (by decide)) ?_
                refine lv_iload_n hx hb dX10_planned_95 rfl (lv_at hl 1 rfl) ?_
                refine g_iadd hx hb dX10_planned_96 ?_
                refine g_iald (v := σ 31 ((80 + a0).toNat)) hx hb hK hI 31 (by decide) (cel_31 cy ad) (by omega) (by decide) (by rw [up2_cell _ _ _ (by decide)]) dX10_planned_97 ?_
                have b_14 := bd_31 hF ((80 + a0).toNat)
                have e9 : f_X10_planned σ a0 a1 = (σ 31 ((80 + a0).toNat), (up2 σ 28 0 0)) := by rw [f_X10_planned, if_neg c_3, if_neg c_4, if_pos c_6, if_neg c_7, if_neg c_9, if_neg c_11, if_pos c_13]
                exact g_iret (z := σ 31 ((80 + a0).toNat)) hx hb hr hK hN hlocks hI (by rw [e9]) (by rw [e9]) trivial dX10_planned_98
              · skip
                by_cases c_15 : a1 = 4
                · refine g_tsw (tgt := 99) (off := 72) hx hb dX10_planned_27 (by omega) (by omega) (by rw [c_15]; rfl) (by decide) ?_
                  refine lv_aload_n hx hb dX10_planned_99 rfl (lv_at hl 0 rfl) ?_
                  refine g_get (C := RX10) (T := TX10) (N := 44) (ci := 9) (v := .ref (ad 44)) hx hb hts in_X10_planned_X10 hown hK hI 28 (by decide) (cel_28 cy ad _) rfl 29 (by decide) (by decide +kernel) rfl dX10_planned_100 ?_
                  refine lv_iload_n hx hb dX10_planned_103 rfl (lv_at hl 1 rfl) ?_
                  refine g_iald (v := σ 44 a0.toNat) hx hb hK hI 44 (by decide) (cel_44 cy ad) (by omega) (by decide) (by rw [up2_cell _ _ _ (by decide)]) dX10_planned_104 ?_
                  have b_16 := bd_44 hF a0.toNat
                  have e9 : f_X10_planned σ a0 a1 = (σ 44 a0.toNat, (up2 σ 28 0 0)) := by rw [f_X10_planned, if_neg c_3, if_neg c_4, if_pos c_6, if_neg c_7, if_neg c_9, if_neg c_11, if_neg c_13, if_pos c_15]
                  exact g_iret (z := σ 44 a0.toNat) hx hb hr hK hN hlocks hI (by rw [e9]) (by rw [e9]) trivial dX10_planned_105
                · skip
                  by_cases c_17 : a1 = 5
                  · refine g_tsw (tgt := 106) (off := 79) hx hb dX10_planned_27 (by omega) (by omega) (by rw [c_17]; rfl) (by decide) ?_
                    refine lv_aload_n hx hb dX10_planned_106 rfl (lv_at hl 0 rfl) ?_
                    refine g_get (C := RX10) (T := TX10) (N := 44) (ci := 9) (v := .ref (ad 47)) hx hb hts in_X10_planned_X10 hown hK hI 28 (by decide) (cel_28 cy ad _) rfl 32 (by decide) (by decide +kernel) rfl dX10_planned_107 ?_
                    refine lv_iload_n hx hb dX10_planned_110 rfl (lv_at hl 1 rfl) ?_
                    refine g_zald (v := σ 47 a0.toNat) hx hb hK hI 47 (by decide) (cel_47 cy ad) (by omega) (by decide) (by rw [up2_cell _ _ _ (by decide)]) dX10_planned_111 ?_
                    have b_18 := bd_47 hF a0.toNat
                    refine g_if_eq (tgt := 119) hx hb dX10_planned_112 (by decide) (by omega) (fun c_19 => ?_) (fun c_19 => ?_)
                    · skip
                      refine lv_iconst (v := iI 0) hx hb dX10_planned_119 rfl ?_
                      have e9 : f_X10_planned σ a0 a1 = (0, (up2 σ 28 0 0)) := by rw [f_X10_planned, if_neg c_3, if_neg c_4, if_pos c_6, if_neg c_7, if_neg c_9, if_neg c_11, if_neg c_13, if_neg c_15, if_pos c_17, if_pos c_19]
                      exact g_iret (z := 0) hx hb hr hK hN hlocks hI (by rw [e9]) (by rw [e9]) trivial dX10_planned_120
                    · skip
                      refine lv_iconst (v := iI 1) hx hb dX10_planned_115 rfl ?_
                      refine lv_goto (tgt := 120) hx hb dX10_planned_116 (by decide) ?_
                      have e9 : f_X10_planned σ a0 a1 = (1, (up2 σ 28 0 0)) := by rw [f_X10_planned, if_neg c_3, if_neg c_4, if_pos c_6, if_neg c_7, if_neg c_9, if_neg c_11, if_neg c_13, if_neg c_15, if_pos c_17, if_neg c_19]
                      exact g_iret (z := 1) hx hb hr hK hN hlocks hI (by rw [e9]) (by rw [e9]) trivial dX10_planned_120
                  · skip
                    by_cases c_20 : a1 = 6
                    · refine g_tsw (tgt := 121) (off := 94) hx hb dX10_planned_27 (by omega) (by omega) (by rw [c_20]; rfl) (by decide) ?_
                      refine lv_aload_n hx hb dX10_planned_121 rfl (lv_at hl 0 rfl) ?_
                      refine g_get (C := RX10) (T := TX10) (N := 44) (ci := 9) (v := .ref (ad 43)) hx hb hts in_X10_planned_X10 hown hK hI 28 (by decide) (cel_28 cy ad _) rfl 28 (by decide) (by decide +kernel) rfl dX10_planned_122 ?_
                      refine lv_iload_n hx hb dX10_planned_125 rfl (lv_at hl 1 rfl) ?_
                      refine g_iald (v := σ 43 a0.toNat) hx hb hK hI 43 (by decide) (cel_43 cy ad) (by omega) (by decide) (by rw [up2_cell _ _ _ (by decide)]) dX10_planned_126 ?_
                      have b_21 := bd_43 hF a0.toNat
                      have e9 : f_X10_planned σ a0 a1 = (σ 43 a0.toNat, (up2 σ 28 0 0)) := by rw [f_X10_planned, if_neg c_3, if_neg c_4, if_pos c_6, if_neg c_7, if_neg c_9, if_neg c_11, if_neg c_13, if_neg c_15, if_neg c_17, if_pos c_20]
                      exact g_iret (z := σ 43 a0.toNat) hx hb hr hK hN hlocks hI (by rw [e9]) (by rw [e9]) trivial dX10_planned_127
                    · skip
                      refine g_tswD (tgt := 128) hx hb dX10_planned_27 (by omega) (by omega) (by decide) ?_
                      refine lv_iconst (v := iI (-1)) hx hb dX10_planned_128 rfl ?_
                      have e9 : f_X10_planned σ a0 a1 = ((-1), (up2 σ 28 0 0)) := by rw [f_X10_planned, if_neg c_3, if_neg c_4, if_pos c_6, if_neg c_7, if_neg c_9, if_neg c_11, if_neg c_13, if_neg c_15, if_neg c_17, if_neg c_20]
                      exact g_iret (z := (-1)) hx hb hr hK hN hlocks hI (by rw [e9]) (by rw [e9]) trivial dX10_planned_129
      · skip
        refine lv_iconst (v := iI (-1)) hx hb dX10_planned_24 rfl ?_
        have e9 : f_X10_planned σ a0 a1 = ((-1), (up2 σ 28 0 0)) := by rw [f_X10_planned, if_neg c_3, if_neg c_4, if_neg c_6]
        exact g_iret (z := (-1)) hx hb hr hK hN hlocks hI (by rw [e9]) (by rw [e9]) trivial dX10_planned_25
theorem in_X10_newName_X10 : ∀ w ∈ u_ws RX10 TX10 44, w ∈ wsX10_newName := by decide +kernel
def f_X10_newName (σ : Sg) (a0 : Int) (a1 : Int) : Int × Sg := (if (σ 28 25) = 0 then ((-1), (up2 σ 28 0 0)) else (if a0 < 0 then ((-1), (up2 σ 28 0 0)) else (if (σ 28 26) ≤ a0 then ((-1), (up2 σ 28 0 0)) else (if a1 < 0 then ((-1), (up2 σ 28 0 0)) else (if a1 < (σ 30 ((80 + a0).toNat)) then (σ 29 (((12 * (80 + a0)) + a1).toNat), (up2 σ 28 0 0)) else ((-1), (up2 σ 28 0 0)))))))
theorem hd_X10_newName : yX10_newName.cls = RX10 ∧ yX10_newName.cls ≠ "java/lang/invoke/MethodHandle" ∧ yX10_newName.cls ≠ "java/lang/invoke/VarHandle" ∧ (parseMethodDescriptor yX10_newName.desc).map (fun d => d.parameters.length) = some 2 := by decide +kernel
set_option maxHeartbeats 4000000 in
set_option maxRecDepth 100000 in
theorem c_X10_newName (l : Launch) (D : va_G) (cy : Nat → ClassId) (ad : Nat → Nat) (σ : Sg) (a0 : Int) (ha0 : (-2147483648 ≤ a0 ∧ a0 < 2147483648)) (a1 : Int) (ha1 : (-2147483648 ≤ a1 ∧ a1 < 2147483648)) : CM l D cy ad yX10_newName wsX10_newName { frames := 0, cells := 0, slots := 0, locals := 0 } [.ref (ad 28), .int (iI a0), .int (iI a1)] σ (some (.int (iI ((f_X10_newName σ a0 a1).1)))) ((f_X10_newName σ a0 a1).2) (True) := by
  refine CM.of (cc := cX10_newName) (maxL := 3) (ret := (some .int)) (by decide) rfl (Nat.le_of_ble_eq_true rfl) ?_
  intro p e s m args below meth c₀ ls X hI hl
  have hl : lv_has ls 3 [(0, .ref (ad 28)), (1, .int (iI a0)), (2, .int (iI a1))] := hl
  obtain ⟨hx, hb, hr, hml, hown, hts, hlocks, hK, hN⟩ := id X
  have hF := hI.2.2.2
  refine lv_aload_n hx hb dX10_newName_0 rfl (lv_at hl 0 rfl) ?_
  refine lv_iconst (v := iI 0) hx hb dX10_newName_1 rfl ?_
  refine g_put (C := RX10) (T := TX10) (N := 44) (ci := 9) (ty := .int) (z := 0) hx hb hts in_X10_newName_X10 tyX10 tyX10_ok nmX10 hown hK hI 28 (by decide) (cel_28 cy ad) rfl 0 (by decide) (by decide +kernel) rfl (by decide +kernel) rfl rfl (Nat.le_of_ble_eq_true rfl) rfl (bw_28_0 (by omega)) dX10_newName_2 (fun H locs hI => ?_)
  have hF_1 := hI.2.2.2
  refine lv_aload_n hx hb dX10_newName_5 rfl (lv_at hl 0 rfl) ?_
  refine g_get (C := RX10) (T := TX10) (N := 44) (ci := 9) (v := .int (iI (σ 28 25))) hx hb hts in_X10_newName_X10 hown hK hI 28 (by decide) (cel_28 cy ad _) rfl 25 (by decide) (by decide +kernel) (by show some (Value.int (iI ((up2 σ 28 0 0) 28 25))) = _; rw [up2_slot _ _ (by decide)]) dX10_newName_6 ?_
  have b_2 := bd_28_25 hF
  refine g_if_eq (tgt := 41) hx hb dX10_newName_9 (by decide) (by omega) (fun c_3 => ?_) (fun c_3 => ?_)
  · skip
    refine lv_iconst (v := iI (-1)) hx hb dX10_newName_41 rfl ?_
    have e9 : f_X10_newName σ a0 a1 = ((-1), (up2 σ 28 0 0)) := by rw [f_X10_newName, if_pos c_3]
    exact g_iret (z := (-1)) hx hb hr hK hN hlocks hI (by rw [e9]) (by rw [e9]) trivial dX10_newName_42
  · skip
    refine lv_iload_n hx hb dX10_newName_12 rfl (lv_at hl 1 rfl) ?_
    refine g_if_lt (tgt := 41) hx hb dX10_newName_13 (by decide) (by omega) (fun c_4 => ?_) (fun c_4 => ?_)
    · skip
      refine lv_iconst (v := iI (-1)) hx hb dX10_newName_41 rfl ?_
      have e9 : f_X10_newName σ a0 a1 = ((-1), (up2 σ 28 0 0)) := by rw [f_X10_newName, if_neg c_3, if_pos c_4]
      exact g_iret (z := (-1)) hx hb hr hK hN hlocks hI (by rw [e9]) (by rw [e9]) trivial dX10_newName_42
    · skip
      refine lv_iload_n hx hb dX10_newName_16 rfl (lv_at hl 1 rfl) ?_
      refine lv_aload_n hx hb dX10_newName_17 rfl (lv_at hl 0 rfl) ?_
      refine g_get (C := RX10) (T := TX10) (N := 44) (ci := 9) (v := .int (iI (σ 28 26))) hx hb hts in_X10_newName_X10 hown hK hI 28 (by decide) (cel_28 cy ad _) rfl 26 (by decide) (by decide +kernel) (by show some (Value.int (iI ((up2 σ 28 0 0) 28 26))) = _; rw [up2_slot _ _ (by decide)]) dX10_newName_18 ?_
      have b_5 := bd_28_26 hF
      refine g_icmp_ge (tgt := 41) hx hb dX10_newName_21 (by decide) (by omega) (by omega) (fun c_6 => ?_) (fun c_6 => ?_)
      · skip
        refine lv_iconst (v := iI (-1)) hx hb dX10_newName_41 rfl ?_
        have e9 : f_X10_newName σ a0 a1 = ((-1), (up2 σ 28 0 0)) := by rw [f_X10_newName, if_neg c_3, if_neg c_4, if_pos c_6]
        exact g_iret (z := (-1)) hx hb hr hK hN hlocks hI (by rw [e9]) (by rw [e9]) trivial dX10_newName_42
      · skip
        refine lv_iload_n hx hb dX10_newName_24 rfl (lv_at hl 2 rfl) ?_
        refine g_if_lt (tgt := 41) hx hb dX10_newName_25 (by decide) (by omega) (fun c_7 => ?_) (fun c_7 => ?_)
        · skip
          refine lv_iconst (v := iI (-1)) hx hb dX10_newName_41 rfl ?_
          have e9 : f_X10_newName σ a0 a1 = ((-1), (up2 σ 28 0 0)) := by rw [f_X10_newName, if_neg c_3, if_neg c_4, if_neg c_6, if_pos c_7]
          exact g_iret (z := (-1)) hx hb hr hK hN hlocks hI (by rw [e9]) (by rw [e9]) trivial dX10_newName_42
        · skip
          refine lv_iload_n hx hb dX10_newName_28 rfl (lv_at hl 2 rfl) ?_
          refine lv_aload_n hx hb dX10_newName_29 rfl (lv_at hl 0 rfl) ?_
          refine g_get (C := RX10) (T := TX10) (N := 44) (ci := 9) (v := .ref (ad 30)) hx hb hts in_X10_newName_X10 hown hK hI 28 (by decide) (cel_28 cy ad _) rfl 2 (by decide) (by decide +kernel) rfl dX10_newName_30 ?_
          refine lv_bipush (v := iI 80) hx hb dX10_newName_33 (iI_bip (by decide)) ?_
          refine lv_iload_n hx hb dX10_newName_35 rfl (lv_at hl 1 rfl) ?_
          refine g_iadd hx hb dX10_newName_36 ?_
          refine g_iald (v := σ 30 ((80 + a0).toNat)) hx hb hK hI 30 (by decide) (cel_30 cy ad) (by omega) (by decide) (by rw [up2_cell _ _ _ (by decide)]) dX10_newName_37 ?_
          have b_8 := bd_30 hF ((80 + a0).toNat)
          refine g_icmp_lt (tgt := 43) hx hb dX10_newName_38 (by decide) (by omega) (by omega) (fun c_9 => ?_) (fun c_9 => ?_)
          · skip
            refine lv_aload_n hx hb dX10_newName_43 rfl (lv_at hl 0 rfl) ?_
            refine g_get (C := RX10) (T := TX10) (N := 44) (ci := 9) (v := .ref (ad 29)) hx hb hts in_X10_newName_X10 hown hK hI 28 (by decide) (cel_28 cy ad _) rfl 1 (by decide) (by decide +kernel) rfl dX10_newName_44 ?_
            refine lv_bipush (v := iI 12) hx hb dX10_newName_47 (iI_bip (by decide)) ?_
            refine lv_bipush (v := iI 80) hx hb dX10_newName_49 (iI_bip (by decide)) ?_
            refine lv_iload_n hx hb dX10_newName_51 rfl (lv_at hl 1 rfl) ?_
            refine g_iadd hx hb dX10_newName_52 ?_
            refine g_imul hx hb dX10_newName_53 ?_
            refine lv_iload_n hx hb dX10_newName_54 rfl (lv_at hl 2 rfl) ?_
            refine g_iadd hx hb dX10_newName_55 ?_
            refine g_bald (v := σ 29 (((12 * (80 + a0)) + a1).toNat)) hx hb hK hI 29 (by decide) (cel_29 cy ad) (by omega) (by decide) (by rw [up2_cell _ _ _ (by decide)]) dX10_newName_56 ?_
            have b_10 := bd_29 hF (((12 * (80 + a0)) + a1).toNat)
            have e9 : f_X10_newName σ a0 a1 = (σ 29 (((12 * (80 + a0)) + a1).toNat), (up2 σ 28 0 0)) := by rw [f_X10_newName, if_neg c_3, if_neg c_4, if_neg c_6, if_neg c_7, if_pos c_9]
            exact g_iret (z := σ 29 (((12 * (80 + a0)) + a1).toNat)) hx hb hr hK hN hlocks hI (by rw [e9]) (by rw [e9]) trivial dX10_newName_57
          · skip
            refine lv_iconst (v := iI (-1)) hx hb dX10_newName_41 rfl ?_
            have e9 : f_X10_newName σ a0 a1 = ((-1), (up2 σ 28 0 0)) := by rw [f_X10_newName, if_neg c_3, if_neg c_4, if_neg c_6, if_neg c_7, if_neg c_9]
            exact g_iret (z := (-1)) hx hb hr hK hN hlocks hI (by rw [e9]) (by rw [e9]) trivial dX10_newName_42
theorem in_X10_troubles_X10 : ∀ w ∈ u_ws RX10 TX10 44, w ∈ wsX10_troubles := by decide +kernel
def L_X10_troubles_4 (σ : Sg) : Nat → Int → Int → Int
  | 0, x1, x2 => (x1)
  | n + 1, x1, x2 => (if (σ 28 26) ≤ x2 then x1 else (if (σ 28 25) = 0 then x1 else (if (σ 45 x2.toNat) = 0 then L_X10_troubles_4 σ n x1 (x2 + 1) else L_X10_troubles_4 σ n (x1 + 1) (x2 + 1))))
set_option maxHeartbeats 4000000 in
set_option maxRecDepth 100000 in
theorem w_L_X10_troubles_4 {p : Program} {l : Launch} {e : Env} {s : State} {m : MethodId} {args : Array Value} {below : List Frame} {meth : Method} {c₀ : Code} {D : va_G} {cy : Nat → ClassId} {ad : Nat → Nat} {Q : State → Prop} (X : MX p s m args meth c₀ cX10_troubles 3 RX10 (some .int) wsX10_troubles D cy) (σ : Sg) : ∀ (n : Nat) (x1 : Int) (x2 : Int) (hx1 : (0 : Int) ≤ x1 ∧ x1 ≤ 40) (hx2 : (0 : Int) ≤ x2 ∧ x2 ≤ 40) (hp0 : x1 ≤ x2) (hmu : 40 - x2 < (n : Int)) (H : Heap) (locs : List Loc) (ls : Array Slot) (hI : HI D cy ad s σ H locs) (hl : lv_has ls 3 [(0, .ref (ad 28)), (1, .int (iI x1)), (2, .int (iI x2))])  (hk : ∀ (H1 : Heap) (locs1 : List Loc) (ls1 : Array Slot), (0 ≤ (L_X10_troubles_4 σ n x1 x2) ∧ (L_X10_troubles_4 σ n x1 x2) ≤ 40) → HI D cy ad s σ H1 locs1 → lv_has ls1 3 [(1, .int (iI (L_X10_troubles_4 σ n x1 x2)))] → W p l e { frames := 0, cells := 0, slots := 0, locals := 0 } s m args below meth c₀ H1 locs1 0 0 Q (F0 m 37 ls1 [])), W p l e { frames := 0, cells := 0, slots := 0, locals := 0 } s m args below meth c₀ H locs 0 0 Q (F0 m 4 ls []) := by
  obtain ⟨hx, hb, hr, hml, hown, hts, hlocks, hK, hN⟩ := id X
  intro n
  induction n with
  | zero =>
    intro x1 x2 hx1 hx2 hp0 hmu H locs ls hI hl hk
    exfalso
    have hF := hI.2.2.2
    omega
  | succ n ih =>
    intro x1 x2 hx1 hx2 hp0 hmu H locs ls hI hl hk
    have hF := hI.2.2.2
    refine lv_iload_n hx hb dX10_troubles_4 rfl (lv_at hl 2 rfl) ?_
    refine lv_aload_n hx hb dX10_troubles_5 rfl (lv_at hl 0 rfl) ?_
    refine g_get (C := RX10) (T := TX10) (N := 44) (ci := 9) (v := .int (iI (σ 28 26))) hx hb hts in_X10_troubles_X10 hown hK hI 28 (by decide) (cel_28 cy ad _) rfl 26 (by decide) (by decide +kernel) rfl dX10_troubles_6 ?_
    have b_1 := bd_28_26 hF
    refine g_icmp_ge (tgt := 37) hx hb dX10_troubles_9 (by decide) (by omega) (by omega) (fun c_2 => ?_) (fun c_2 => ?_)
    · skip
      have e9 : L_X10_troubles_4 σ (n + 1) x1 x2 = x1 := by rw [L_X10_troubles_4, if_pos c_2]
      rw [e9] at hk
      exact hk _ _ _ (by first | (omega) | (dsimp only; omega)) hI (lv_sub hl [1] rfl)
    · skip
      refine lv_aload_n hx hb dX10_troubles_12 rfl (lv_at hl 0 rfl) ?_
      refine g_get (C := RX10) (T := TX10) (N := 44) (ci := 9) (v := .int (iI (σ 28 25))) hx hb hts in_X10_troubles_X10 hown hK hI 28 (by decide) (cel_28 cy ad _) rfl 25 (by decide) (by decide +kernel) rfl dX10_troubles_13 ?_
      have b_3 := bd_28_25 hF
      refine g_if_eq (tgt := 37) hx hb dX10_troubles_16 (by decide) (by omega) (fun c_4 => ?_) (fun c_4 => ?_)
      · skip
        have e9 : L_X10_troubles_4 σ (n + 1) x1 x2 = x1 := by rw [L_X10_troubles_4, if_neg c_2, if_pos c_4]
        rw [e9] at hk
        exact hk _ _ _ (by first | (omega) | (dsimp only; omega)) hI (lv_sub hl [1] rfl)
      · skip
        refine lv_aload_n hx hb dX10_troubles_19 rfl (lv_at hl 0 rfl) ?_
        refine g_get (C := RX10) (T := TX10) (N := 44) (ci := 9) (v := .ref (ad 45)) hx hb hts in_X10_troubles_X10 hown hK hI 28 (by decide) (cel_28 cy ad _) rfl 30 (by decide) (by decide +kernel) rfl dX10_troubles_20 ?_
        refine lv_iload_n hx hb dX10_troubles_23 rfl (lv_at hl 2 rfl) ?_
        refine g_iald (v := σ 45 x2.toNat) hx hb hK hI 45 (by decide) (cel_45 cy ad) (by omega) (by decide) rfl dX10_troubles_24 ?_
        have b_5 := bd_45 hF x2.toNat
        refine g_if_eq (tgt := 31) hx hb dX10_troubles_25 (by decide) (by omega) (fun c_6 => ?_) (fun c_6 => ?_)
        · skip
          refine lv_iinc (v := iI (x2 + 1)) (lv' := [(2, .int (iI (x2 + 1))), (0, .ref (ad 28)), (1, .int (iI x1))]) hx hb dX10_troubles_31 hl (k := 2) rfl (iI_add _ _) (by decide) rfl (fun ls hl => ?_)
          refine lv_goto (tgt := 4) hx hb dX10_troubles_34 (by decide) ?_
          have e9 : L_X10_troubles_4 σ (n + 1) x1 x2 = L_X10_troubles_4 σ n x1 (x2 + 1) := by rw [L_X10_troubles_4, if_neg c_2, if_neg c_4, if_pos c_6]
          rw [e9] at hk
          exact ih x1 (x2 + 1)  (by omega) (by omega) (by omega) (by omega) _ _ _ hI (lv_sub hl [1, 2, 0] rfl) hk
        · skip
          refine lv_iinc (v := iI (x1 + 1)) (lv' := [(1, .int (iI (x1 + 1))), (0, .ref (ad 28)), (2, .int (iI x2))]) hx hb dX10_troubles_28 hl (k := 1) rfl (iI_add _ _) (by decide) rfl (fun ls hl => ?_)
          refine lv_iinc (v := iI (x2 + 1)) (lv' := [(2, .int (iI (x2 + 1))), (1, .int (iI (x1 + 1))), (0, .ref (ad 28))]) hx hb dX10_troubles_31 hl (k := 2) rfl (iI_add _ _) (by decide) rfl (fun ls hl => ?_)
          refine lv_goto (tgt := 4) hx hb dX10_troubles_34 (by decide) ?_
          have e9 : L_X10_troubles_4 σ (n + 1) x1 x2 = L_X10_troubles_4 σ n (x1 + 1) (x2 + 1) := by rw [L_X10_troubles_4, if_neg c_2, if_neg c_4, if_neg c_6]
          rw [e9] at hk
          exact ih (x1 + 1) (x2 + 1)  (by omega) (by omega) (by omega) (by omega) _ _ _ hI (lv_sub hl [2, 1, 0] rfl) hk
def f_X10_troubles (σ : Sg) : Int := (L_X10_troubles_4 σ 41 0 0)
theorem hd_X10_troubles : yX10_troubles.cls = RX10 ∧ yX10_troubles.cls ≠ "java/lang/invoke/MethodHandle" ∧ yX10_troubles.cls ≠ "java/lang/invoke/VarHandle" ∧ (parseMethodDescriptor yX10_troubles.desc).map (fun d => d.parameters.length) = some 0 := by decide +kernel
set_option maxHeartbeats 4000000 in
set_option maxRecDepth 100000 in
theorem c_X10_troubles (l : Launch) (D : va_G) (cy : Nat → ClassId) (ad : Nat → Nat) (σ : Sg) : CM l D cy ad yX10_troubles wsX10_troubles { frames := 0, cells := 0, slots := 0, locals := 0 } [.ref (ad 28)] σ (some (.int (iI (f_X10_troubles σ)))) σ (0 ≤ (f_X10_troubles σ) ∧ (f_X10_troubles σ) ≤ 40) := by
  refine CM.of (cc := cX10_troubles) (maxL := 3) (ret := (some .int)) (by decide) rfl (Nat.le_of_ble_eq_true rfl) ?_
  intro p e s m args below meth c₀ ls X hI hl
  have hl : lv_has ls 3 [(0, .ref (ad 28))] := hl
  obtain ⟨hx, hb, hr, hml, hown, hts, hlocks, hK, hN⟩ := id X
  have hF := hI.2.2.2
  refine lv_iconst (v := iI 0) hx hb dX10_troubles_0 rfl ?_
  refine lv_istore_n (lv' := [(1, .int (iI 0)), (0, .ref (ad 28))]) hx hb dX10_troubles_1 rfl hl (by decide) rfl (fun ls hl => ?_)
  refine lv_iconst (v := iI 0) hx hb dX10_troubles_2 rfl ?_
  refine lv_istore_n (lv' := [(2, .int (iI 0)), (1, .int (iI 0)), (0, .ref (ad 28))]) hx hb dX10_troubles_3 rfl hl (by decide) rfl (fun ls hl => ?_)
  refine w_L_X10_troubles_4 X σ   41 0 0  (by omega) (by omega) (by omega) (by omega) _ _ _ hI (lv_sub hl [2, 1, 0] rfl) (fun H locs ls hpo_8 hI hl => ?_)
  refine lv_iload_n hx hb dX10_troubles_37 rfl (lv_at hl 0 rfl) ?_
  have e9 : f_X10_troubles σ = (L_X10_troubles_4 σ 41 0 0) := by rw [f_X10_troubles]
  exact g_iret (z := (L_X10_troubles_4 σ 41 0 0)) hx hb hr hK hN hlocks hI e9.symm rfl (by rw [e9] <;> first | (omega) | (dsimp only; omega)) dX10_troubles_38
theorem in_X10_isUnderWay_X10 : ∀ w ∈ u_ws RX10 TX10 44, w ∈ wsX10_isUnderWay := by decide +kernel
def f_X10_isUnderWay (σ : Sg) : Int := (if (σ 28 25) = 0 then 0 else (if (σ 28 34) ≤ 0 then 0 else (if (σ 28 33) ≤ (σ 28 34) then 0 else 1)))
theorem hd_X10_isUnderWay : yX10_isUnderWay.cls = RX10 ∧ yX10_isUnderWay.cls ≠ "java/lang/invoke/MethodHandle" ∧ yX10_isUnderWay.cls ≠ "java/lang/invoke/VarHandle" ∧ (parseMethodDescriptor yX10_isUnderWay.desc).map (fun d => d.parameters.length) = some 0 := by decide +kernel
set_option maxHeartbeats 4000000 in
set_option maxRecDepth 100000 in
theorem c_X10_isUnderWay (l : Launch) (D : va_G) (cy : Nat → ClassId) (ad : Nat → Nat) (σ : Sg) : CM l D cy ad yX10_isUnderWay wsX10_isUnderWay { frames := 0, cells := 0, slots := 0, locals := 0 } [.ref (ad 28)] σ (some (.int (iI (f_X10_isUnderWay σ)))) σ ((0 ≤ f_X10_isUnderWay σ ∧ f_X10_isUnderWay σ ≤ 1)) := by
  refine CM.of (cc := cX10_isUnderWay) (maxL := 1) (ret := (some .boolean)) (by decide) rfl (Nat.le_of_ble_eq_true rfl) ?_
  intro p e s m args below meth c₀ ls X hI hl
  have hl : lv_has ls 1 [(0, .ref (ad 28))] := hl
  obtain ⟨hx, hb, hr, hml, hown, hts, hlocks, hK, hN⟩ := id X
  have hF := hI.2.2.2
  refine lv_aload_n hx hb dX10_isUnderWay_0 rfl (lv_at hl 0 rfl) ?_
  refine g_get (C := RX10) (T := TX10) (N := 44) (ci := 9) (v := .int (iI (σ 28 25))) hx hb hts in_X10_isUnderWay_X10 hown hK hI 28 (by decide) (cel_28 cy ad _) rfl 25 (by decide) (by decide +kernel) rfl dX10_isUnderWay_1 ?_
  have b_1 := bd_28_25 hF
  refine g_if_eq (tgt := 29) hx hb dX10_isUnderWay_4 (by decide) (by omega) (fun c_2 => ?_) (fun c_2 => ?_)
  · skip
    refine lv_iconst (v := iI 0) hx hb dX10_isUnderWay_29 rfl ?_
    have e9 : f_X10_isUnderWay σ = 0 := by rw [f_X10_isUnderWay, if_pos c_2]
    exact g_zret (z := 0) hx hb hr hK hN hlocks hI e9.symm rfl (by rw [e9] <;> first | (omega) | (dsimp only; omega)) (by omega) dX10_isUnderWay_30
  · skip
    refine lv_aload_n hx hb dX10_isUnderWay_7 rfl (lv_at hl 0 rfl) ?_
    refine g_get (C := RX10) (T := TX10) (N := 44) (ci := 9) (v := .int (iI (σ 28 34))) hx hb hts in_X10_isUnderWay_X10 hown hK hI 28 (by decide) (cel_28 cy ad _) rfl 34 (by decide) (by decide +kernel) rfl dX10_isUnderWay_8 ?_
    have b_3 := bd_28_34 hF
    refine g_if_le (tgt := 29) hx hb dX10_isUnderWay_11 (by decide) (by omega) (fun c_4 => ?_) (fun c_4 => ?_)
    · skip
      refine lv_iconst (v := iI 0) hx hb dX10_isUnderWay_29 rfl ?_
      have e9 : f_X10_isUnderWay σ = 0 := by rw [f_X10_isUnderWay, if_neg c_2, if_pos c_4]
      exact g_zret (z := 0) hx hb hr hK hN hlocks hI e9.symm rfl (by rw [e9] <;> first | (omega) | (dsimp only; omega)) (by omega) dX10_isUnderWay_30
    · skip
      refine lv_aload_n hx hb dX10_isUnderWay_14 rfl (lv_at hl 0 rfl) ?_
      refine g_get (C := RX10) (T := TX10) (N := 44) (ci := 9) (v := .int (iI (σ 28 34))) hx hb hts in_X10_isUnderWay_X10 hown hK hI 28 (by decide) (cel_28 cy ad _) rfl 34 (by decide) (by decide +kernel) rfl dX10_isUnderWay_15 ?_
      have b_5 := bd_28_34 hF
      refine lv_aload_n hx hb dX10_isUnderWay_18 rfl (lv_at hl 0 rfl) ?_
      refine g_get (C := RX10) (T := TX10) (N := 44) (ci := 9) (v := .int (iI (σ 28 33))) hx hb hts in_X10_isUnderWay_X10 hown hK hI 28 (by decide) (cel_28 cy ad _) rfl 33 (by decide) (by decide +kernel) rfl dX10_isUnderWay_19 ?_
      have b_6 := bd_28_33 hF
      refine g_icmp_ge (tgt := 29) hx hb dX10_isUnderWay_22 (by decide) (by omega) (by omega) (fun c_7 => ?_) (fun c_7 => ?_)
      · skip
        refine lv_iconst (v := iI 0) hx hb dX10_isUnderWay_29 rfl ?_
        have e9 : f_X10_isUnderWay σ = 0 := by rw [f_X10_isUnderWay, if_neg c_2, if_neg c_4, if_pos c_7]
        exact g_zret (z := 0) hx hb hr hK hN hlocks hI e9.symm rfl (by rw [e9] <;> first | (omega) | (dsimp only; omega)) (by omega) dX10_isUnderWay_30
      · skip
        refine lv_iconst (v := iI 1) hx hb dX10_isUnderWay_25 rfl ?_
        refine lv_goto (tgt := 30) hx hb dX10_isUnderWay_26 (by decide) ?_
        have e9 : f_X10_isUnderWay σ = 1 := by rw [f_X10_isUnderWay, if_neg c_2, if_neg c_4, if_neg c_7]
        exact g_zret (z := 1) hx hb hr hK hN hlocks hI e9.symm rfl (by rw [e9] <;> first | (omega) | (dsimp only; omega)) (by omega) dX10_isUnderWay_30
theorem in_X10_keeps_X10 : ∀ w ∈ u_ws RX10 TX10 44, w ∈ wsX10_keeps := by decide +kernel
def L_X10_keeps_36 (a0 : Int) (a1 : Int) (a2 : Int) : Nat → Int → Int → Sg → Sg
  | 0, x4, x5, σ => (σ)
  | n + 1, x4, x5, σ => (if (σ 30 a2.toNat) ≤ x5 then σ else L_X10_keeps_36 a0 a1 a2 n x4 (x5 + 1) (up2 σ 51 (((12 * x4) + x5).toNat) (σ 29 (((12 * a2) + x5).toNat))))
set_option maxHeartbeats 4000000 in
set_option maxRecDepth 100000 in
theorem w_L_X10_keeps_36 {p : Program} {l : Launch} {e : Env} {s : State} {m : MethodId} {args : Array Value} {below : List Frame} {meth : Method} {c₀ : Code} {D : va_G} {cy : Nat → ClassId} {ad : Nat → Nat} {Q : State → Prop} (X : MX p s m args meth c₀ cX10_keeps 6 RX10 none wsX10_keeps D cy) (a0 : Int) (ha0 : (0 : Int) ≤ a0 ∧ a0 ≤ 79) (a1 : Int) (ha1 : (0 : Int) ≤ a1 ∧ a1 ≤ 1) (a2 : Int) (ha2 : (0 : Int) ≤ a2 ∧ a2 ≤ 159) : ∀ (n : Nat) (x4 : Int) (x5 : Int) (σ : Sg) (hx4 : (0 : Int) ≤ x4 ∧ x4 ≤ 159) (hx5 : (0 : Int) ≤ x5 ∧ x5 ≤ 12) (hmu : 12 - x5 < (n : Int)) (H : Heap) (locs : List Loc) (ls : Array Slot) (hI : HI D cy ad s σ H locs) (hl : lv_has ls 6 [(0, .ref (ad 28)), (3, .int (iI a2)), (4, .int (iI x4)), (5, .int (iI x5))])  (hk : ∀ (H1 : Heap) (locs1 : List Loc) (ls1 : Array Slot), True → HI D cy ad s (L_X10_keeps_36 a0 a1 a2 n x4 x5 σ) H1 locs1 → lv_has ls1 6 [] → W p l e { frames := 0, cells := 0, slots := 0, locals := 0 } s m args below meth c₀ H1 locs1 0 0 Q (F0 m 78 ls1 [])), W p l e { frames := 0, cells := 0, slots := 0, locals := 0 } s m args below meth c₀ H locs 0 0 Q (F0 m 36 ls []) := by
  obtain ⟨hx, hb, hr, hml, hown, hts, hlocks, hK, hN⟩ := id X
  intro n
  induction n with
  | zero =>
    intro x4 x5 σ hx4 hx5 hmu H locs ls hI hl hk
    exfalso
    have hF := hI.2.2.2
    omega
  | succ n ih =>
    intro x4 x5 σ hx4 hx5 hmu H locs ls hI hl hk
    have hF := hI.2.2.2
    refine lv_iload hx hb dX10_keeps_36 (lv_at hl 3 rfl) ?_
    refine lv_aload_n hx hb dX10_keeps_38 rfl (lv_at hl 0 rfl) ?_
    refine g_get (C := RX10) (T := TX10) (N := 44) (ci := 9) (v := .ref (ad 30)) hx hb hts in_X10_keeps_X10 hown hK hI 28 (by decide) (cel_28 cy ad _) rfl 2 (by decide) (by decide +kernel) rfl dX10_keeps_39 ?_
    refine lv_iload_n hx hb dX10_keeps_42 rfl (lv_at hl 1 rfl) ?_
    refine g_iald (v := σ 30 a2.toNat) hx hb hK hI 30 (by decide) (cel_30 cy ad) (by omega) (by decide) rfl dX10_keeps_43 ?_
    have b_5 := bd_30 hF a2.toNat
    refine g_icmp_ge (tgt := 78) hx hb dX10_keeps_44 (by decide) (by omega) (by omega) (fun c_6 => ?_) (fun c_6 => ?_)
    · skip
      have e9 : L_X10_keeps_36 a0 a1 a2 (n + 1) x4 x5 σ = σ := by rw [L_X10_keeps_36, if_pos c_6]
      rw [e9] at hk
      exact hk _ _ _ trivial hI (lv_sub hl [] rfl)
    · skip
      refine lv_aload_n hx hb dX10_keeps_47 rfl (lv_at hl 0 rfl) ?_
      refine g_get (C := RX10) (T := TX10) (N := 44) (ci := 9) (v := .ref (ad 51)) hx hb hts in_X10_keeps_X10 hown hK hI 28 (by decide) (cel_28 cy ad _) rfl 39 (by decide) (by decide +kernel) rfl dX10_keeps_48 ?_
      refine lv_bipush (v := iI 12) hx hb dX10_keeps_51 (iI_bip (by decide)) ?_
      refine lv_iload hx hb dX10_keeps_53 (lv_at hl 2 rfl) ?_
      refine g_imul hx hb dX10_keeps_55 ?_
      refine lv_iload hx hb dX10_keeps_56 (lv_at hl 3 rfl) ?_
      refine g_iadd hx hb dX10_keeps_58 ?_
      refine lv_aload_n hx hb dX10_keeps_59 rfl (lv_at hl 0 rfl) ?_
      refine g_get (C := RX10) (T := TX10) (N := 44) (ci := 9) (v := .ref (ad 29)) hx hb hts in_X10_keeps_X10 hown hK hI 28 (by decide) (cel_28 cy ad _) rfl 1 (by decide) (by decide +kernel) rfl dX10_keeps_60 ?_
      refine lv_bipush (v := iI 12) hx hb dX10_keeps_63 (iI_bip (by decide)) ?_
      refine lv_iload_n hx hb dX10_keeps_65 rfl (lv_at hl 1 rfl) ?_
      refine g_imul hx hb dX10_keeps_66 ?_
      refine lv_iload hx hb dX10_keeps_67 (lv_at hl 3 rfl) ?_
      refine g_iadd hx hb dX10_keeps_69 ?_
      refine g_bald (v := σ 29 (((12 * a2) + x5).toNat)) hx hb hK hI 29 (by decide) (cel_29 cy ad) (by omega) (by decide) rfl dX10_keeps_70 ?_
      have b_7 := bd_29 hF (((12 * a2) + x5).toNat)
      refine g_bast hx hb hK hI 51 (by decide) (cel_51 cy ad) (by omega) (by decide) (by omega) (bw_51 (by omega)) dX10_keeps_71 (fun H locs hI => ?_)
      have hF_8 : WF (up2 σ 51 (((12 * x4) + x5).toNat) (σ 29 (((12 * a2) + x5).toNat))) := hI.2.2.2
      refine lv_iinc (v := iI (x5 + 1)) (lv' := [(5, .int (iI (x5 + 1))), (0, .ref (ad 28)), (3, .int (iI a2)), (4, .int (iI x4))]) hx hb dX10_keeps_72 hl (k := 3) rfl (iI_add _ _) (by decide) rfl (fun ls hl => ?_)
      refine lv_goto (tgt := 36) hx hb dX10_keeps_75 (by decide) ?_
      have e9 : L_X10_keeps_36 a0 a1 a2 (n + 1) x4 x5 σ = L_X10_keeps_36 a0 a1 a2 n x4 (x5 + 1) (up2 σ 51 (((12 * x4) + x5).toNat) (σ 29 (((12 * a2) + x5).toNat))) := by rw [L_X10_keeps_36, if_neg c_6]
      rw [e9] at hk
      exact ih x4 (x5 + 1) (up2 σ 51 (((12 * x4) + x5).toNat) (σ 29 (((12 * a2) + x5).toNat))) (by omega) (by omega) (by omega) _ _ _ hI (lv_sub hl [1, 2, 3, 0] rfl) hk
def f_X10_keeps (σ : Sg) (a0 : Int) (a1 : Int) (a2 : Int) : Sg := (L_X10_keeps_36 a0 a1 a2 13 ((2 * a0) + a1) 0 (up2 (up2 σ 53 (((2 * a0) + a1).toNat) (σ 31 a2.toNat)) 52 (((2 * a0) + a1).toNat) (σ 30 a2.toNat)))
theorem hd_X10_keeps : yX10_keeps.cls = RX10 ∧ yX10_keeps.cls ≠ "java/lang/invoke/MethodHandle" ∧ yX10_keeps.cls ≠ "java/lang/invoke/VarHandle" ∧ (parseMethodDescriptor yX10_keeps.desc).map (fun d => d.parameters.length) = some 3 := by decide +kernel
set_option maxHeartbeats 4000000 in
set_option maxRecDepth 100000 in
theorem c_X10_keeps (l : Launch) (D : va_G) (cy : Nat → ClassId) (ad : Nat → Nat) (σ : Sg) (a0 : Int) (ha0 : (0 : Int) ≤ a0 ∧ a0 ≤ 79) (a1 : Int) (ha1 : (0 : Int) ≤ a1 ∧ a1 ≤ 1) (a2 : Int) (ha2 : (0 : Int) ≤ a2 ∧ a2 ≤ 159) : CM l D cy ad yX10_keeps wsX10_keeps { frames := 0, cells := 0, slots := 0, locals := 0 } [.ref (ad 28), .int (iI a0), .int (iI a1), .int (iI a2)] σ none (f_X10_keeps σ a0 a1 a2) (True) := by
  refine CM.of (cc := cX10_keeps) (maxL := 6) (ret := none) (by decide) rfl (Nat.le_of_ble_eq_true rfl) ?_
  intro p e s m args below meth c₀ ls X hI hl
  have hl : lv_has ls 6 [(0, .ref (ad 28)), (1, .int (iI a0)), (2, .int (iI a1)), (3, .int (iI a2))] := hl
  obtain ⟨hx, hb, hr, hml, hown, hts, hlocks, hK, hN⟩ := id X
  have hF := hI.2.2.2
  refine lv_iconst (v := iI 2) hx hb dX10_keeps_0 rfl ?_
  refine lv_iload_n hx hb dX10_keeps_1 rfl (lv_at hl 1 rfl) ?_
  refine g_imul hx hb dX10_keeps_2 ?_
  refine lv_iload_n hx hb dX10_keeps_3 rfl (lv_at hl 2 rfl) ?_
  refine g_iadd hx hb dX10_keeps_4 ?_
  refine lv_istore (lv' := [(4, .int (iI ((2 * a0) + a1))), (0, .ref (ad 28)), (1, .int (iI a0)), (2, .int (iI a1)), (3, .int (iI a2))]) hx hb dX10_keeps_5 hl (by decide) rfl (fun ls hl => ?_)
  refine lv_aload_n hx hb dX10_keeps_7 rfl (lv_at hl 1 rfl) ?_
  refine g_get (C := RX10) (T := TX10) (N := 44) (ci := 9) (v := .ref (ad 53)) hx hb hts in_X10_keeps_X10 hown hK hI 28 (by decide) (cel_28 cy ad _) rfl 41 (by decide) (by decide +kernel) rfl dX10_keeps_8 ?_
  refine lv_iload hx hb dX10_keeps_11 (lv_at hl 0 rfl) ?_
  refine lv_aload_n hx hb dX10_keeps_13 rfl (lv_at hl 1 rfl) ?_
  refine g_get (C := RX10) (T := TX10) (N := 44) (ci := 9) (v := .ref (ad 31)) hx hb hts in_X10_keeps_X10 hown hK hI 28 (by decide) (cel_28 cy ad _) rfl 3 (by decide) (by decide +kernel) rfl dX10_keeps_14 ?_
  refine lv_iload_n hx hb dX10_keeps_17 rfl (lv_at hl 4 rfl) ?_
  refine g_iald (v := σ 31 a2.toNat) hx hb hK hI 31 (by decide) (cel_31 cy ad) (by omega) (by decide) rfl dX10_keeps_18 ?_
  have b_1 := bd_31 hF a2.toNat
  refine g_iast hx hb hK hI 53 (by decide) (cel_53 cy ad) (by omega) (by decide) (bw_53 (by omega)) dX10_keeps_19 (fun H locs hI => ?_)
  have hF_2 : WF (up2 σ 53 (((2 * a0) + a1).toNat) (σ 31 a2.toNat)) := hI.2.2.2
  refine lv_aload_n hx hb dX10_keeps_20 rfl (lv_at hl 1 rfl) ?_
  refine g_get (C := RX10) (T := TX10) (N := 44) (ci := 9) (v := .ref (ad 52)) hx hb hts in_X10_keeps_X10 hown hK hI 28 (by decide) (cel_28 cy ad _) rfl 40 (by decide) (by decide +kernel) rfl dX10_keeps_21 ?_
  refine lv_iload hx hb dX10_keeps_24 (lv_at hl 0 rfl) ?_
  refine lv_aload_n hx hb dX10_keeps_26 rfl (lv_at hl 1 rfl) ?_
  refine g_get (C := RX10) (T := TX10) (N := 44) (ci := 9) (v := .ref (ad 30)) hx hb hts in_X10_keeps_X10 hown hK hI 28 (by decide) (cel_28 cy ad _) rfl 2 (by decide) (by decide +kernel) rfl dX10_keeps_27 ?_
  refine lv_iload_n hx hb dX10_keeps_30 rfl (lv_at hl 4 rfl) ?_
  refine g_iald (v := σ 30 a2.toNat) hx hb hK hI 30 (by decide) (cel_30 cy ad) (by omega) (by decide) (by rw [up2_cell _ _ _ (by decide)]) dX10_keeps_31 ?_
  have b_3 := bd_30 hF a2.toNat
  refine g_iast hx hb hK hI 52 (by decide) (cel_52 cy ad) (by omega) (by decide) (bw_52 (by omega)) dX10_keeps_32 (fun H locs hI => ?_)
  have hF_4 : WF (up2 (up2 σ 53 (((2 * a0) + a1).toNat) (σ 31 a2.toNat)) 52 (((2 * a0) + a1).toNat) (σ 30 a2.toNat)) := hI.2.2.2
  refine lv_iconst (v := iI 0) hx hb dX10_keeps_33 rfl ?_
  refine lv_istore (lv' := [(5, .int (iI 0)), (4, .int (iI ((2 * a0) + a1))), (0, .ref (ad 28)), (1, .int (iI a0)), (2, .int (iI a1)), (3, .int (iI a2))]) hx hb dX10_keeps_34 hl (by decide) rfl (fun ls hl => ?_)
  refine w_L_X10_keeps_36 X  a0 ha0 a1 ha1 a2 ha2  13 ((2 * a0) + a1) 0 (up2 (up2 σ 53 (((2 * a0) + a1).toNat) (σ 31 a2.toNat)) 52 (((2 * a0) + a1).toNat) (σ 30 a2.toNat)) (by omega) (by omega) (by omega) _ _ _ hI (lv_sub hl [2, 5, 1, 0] rfl) (fun H locs ls hpo_10 hI hl => ?_)
  have hF_9 := hI.2.2.2
  have e9 : f_X10_keeps σ a0 a1 a2 = (L_X10_keeps_36 a0 a1 a2 13 ((2 * a0) + a1) 0 (up2 (up2 σ 53 (((2 * a0) + a1).toNat) (σ 31 a2.toNat)) 52 (((2 * a0) + a1).toNat) (σ 30 a2.toNat))) := by rw [f_X10_keeps]
  exact g_vret hx hb hr hK hN hlocks hI (by rw [e9]) trivial dX10_keeps_78
theorem in_X10_lays_X10 : ∀ w ∈ u_ws RX10 TX10 44, w ∈ wsX10_lays := by decide +kernel
def L_X10_lays_35 (a0 : Int) (a1 : Int) : Nat → Int → Int → Sg → Sg
  | 0, x3, x4, σ => (σ)
  | n + 1, x3, x4, σ => (if (σ 52 x3.toNat) ≤ x4 then σ else L_X10_lays_35 a0 a1 n x3 (x4 + 1) (up2 σ 29 ((840 + x4).toNat) (σ 51 (((12 * x3) + x4).toNat))))
set_option maxHeartbeats 4000000 in
set_option maxRecDepth 100000 in
theorem w_L_X10_lays_35 {p : Program} {l : Launch} {e : Env} {s : State} {m : MethodId} {args : Array Value} {below : List Frame} {meth : Method} {c₀ : Code} {D : va_G} {cy : Nat → ClassId} {ad : Nat → Nat} {Q : State → Prop} (X : MX p s m args meth c₀ cX10_lays 5 RX10 none wsX10_lays D cy) (a0 : Int) (ha0 : (0 : Int) ≤ a0 ∧ a0 ≤ 79) (a1 : Int) (ha1 : (0 : Int) ≤ a1 ∧ a1 ≤ 1) : ∀ (n : Nat) (x3 : Int) (x4 : Int) (σ : Sg) (hx3 : (0 : Int) ≤ x3 ∧ x3 ≤ 159) (hx4 : (0 : Int) ≤ x4 ∧ x4 ≤ 12) (hmu : 12 - x4 < (n : Int)) (H : Heap) (locs : List Loc) (ls : Array Slot) (hI : HI D cy ad s σ H locs) (hl : lv_has ls 5 [(0, .ref (ad 28)), (3, .int (iI x3)), (4, .int (iI x4))])  (hk : ∀ (H1 : Heap) (locs1 : List Loc) (ls1 : Array Slot), True → HI D cy ad s (L_X10_lays_35 a0 a1 n x3 x4 σ) H1 locs1 → lv_has ls1 5 [] → W p l e { frames := 0, cells := 0, slots := 0, locals := 0 } s m args below meth c₀ H1 locs1 0 0 Q (F0 m 75 ls1 [])), W p l e { frames := 0, cells := 0, slots := 0, locals := 0 } s m args below meth c₀ H locs 0 0 Q (F0 m 35 ls []) := by
  obtain ⟨hx, hb, hr, hml, hown, hts, hlocks, hK, hN⟩ := id X
  intro n
  induction n with
  | zero =>
    intro x3 x4 σ hx3 hx4 hmu H locs ls hI hl hk
    exfalso
    have hF := hI.2.2.2
    omega
  | succ n ih =>
    intro x3 x4 σ hx3 hx4 hmu H locs ls hI hl hk
    have hF := hI.2.2.2
    refine lv_iload hx hb dX10_lays_35 (lv_at hl 2 rfl) ?_
    refine lv_aload_n hx hb dX10_lays_37 rfl (lv_at hl 0 rfl) ?_
    refine g_get (C := RX10) (T := TX10) (N := 44) (ci := 9) (v := .ref (ad 52)) hx hb hts in_X10_lays_X10 hown hK hI 28 (by decide) (cel_28 cy ad _) rfl 40 (by decide) (by decide +kernel) rfl dX10_lays_38 ?_
    refine lv_iload_n hx hb dX10_lays_41 rfl (lv_at hl 1 rfl) ?_
    refine g_iald (v := σ 52 x3.toNat) hx hb hK hI 52 (by decide) (cel_52 cy ad) (by omega) (by decide) rfl dX10_lays_42 ?_
    have b_5 := bd_52 hF x3.toNat
    refine g_icmp_ge (tgt := 75) hx hb dX10_lays_43 (by decide) (by omega) (by omega) (fun c_6 => ?_) (fun c_6 => ?_)
    · skip
      have e9 : L_X10_lays_35 a0 a1 (n + 1) x3 x4 σ = σ := by rw [L_X10_lays_35, if_pos c_6]
      rw [e9] at hk
      exact hk _ _ _ trivial hI (lv_sub hl [] rfl)
    · skip
      refine lv_aload_n hx hb dX10_lays_46 rfl (lv_at hl 0 rfl) ?_
      refine g_get (C := RX10) (T := TX10) (N := 44) (ci := 9) (v := .ref (ad 29)) hx hb hts in_X10_lays_X10 hown hK hI 28 (by decide) (cel_28 cy ad _) rfl 1 (by decide) (by decide +kernel) rfl dX10_lays_47 ?_
      refine lv_sipush (v := iI 840) hx hb dX10_lays_50 (iI_sip (by decide)) ?_
      refine lv_iload hx hb dX10_lays_53 (lv_at hl 2 rfl) ?_
      refine g_iadd hx hb dX10_lays_55 ?_
      refine lv_aload_n hx hb dX10_lays_56 rfl (lv_at hl 0 rfl) ?_
      refine g_get (C := RX10) (T := TX10) (N := 44) (ci := 9) (v := .ref (ad 51)) hx hb hts in_X10_lays_X10 hown hK hI 28 (by decide) (cel_28 cy ad _) rfl 39 (by decide) (by decide +kernel) rfl dX10_lays_57 ?_
      refine lv_bipush (v := iI 12) hx hb dX10_lays_60 (iI_bip (by decide)) ?_
      refine lv_iload_n hx hb dX10_lays_62 rfl (lv_at hl 1 rfl) ?_
      refine g_imul hx hb dX10_lays_63 ?_
      refine lv_iload hx hb dX10_lays_64 (lv_at hl 2 rfl) ?_
      refine g_iadd hx hb dX10_lays_66 ?_
      refine g_bald (v := σ 51 (((12 * x3) + x4).toNat)) hx hb hK hI 51 (by decide) (cel_51 cy ad) (by omega) (by decide) rfl dX10_lays_67 ?_
      have b_7 := bd_51 hF (((12 * x3) + x4).toNat)
      refine g_bast hx hb hK hI 29 (by decide) (cel_29 cy ad) (by omega) (by decide) (by omega) (bw_29 (by omega)) dX10_lays_68 (fun H locs hI => ?_)
      have hF_8 : WF (up2 σ 29 ((840 + x4).toNat) (σ 51 (((12 * x3) + x4).toNat))) := hI.2.2.2
      refine lv_iinc (v := iI (x4 + 1)) (lv' := [(4, .int (iI (x4 + 1))), (0, .ref (ad 28)), (3, .int (iI x3))]) hx hb dX10_lays_69 hl (k := 2) rfl (iI_add _ _) (by decide) rfl (fun ls hl => ?_)
      refine lv_goto (tgt := 35) hx hb dX10_lays_72 (by decide) ?_
      have e9 : L_X10_lays_35 a0 a1 (n + 1) x3 x4 σ = L_X10_lays_35 a0 a1 n x3 (x4 + 1) (up2 σ 29 ((840 + x4).toNat) (σ 51 (((12 * x3) + x4).toNat))) := by rw [L_X10_lays_35, if_neg c_6]
      rw [e9] at hk
      exact ih x3 (x4 + 1) (up2 σ 29 ((840 + x4).toNat) (σ 51 (((12 * x3) + x4).toNat))) (by omega) (by omega) (by omega) _ _ _ hI (lv_sub hl [1, 2, 0] rfl) hk
def f_X10_lays (σ : Sg) (a0 : Int) (a1 : Int) : Sg := (L_X10_lays_35 a0 a1 13 ((2 * a0) + a1) 0 (up2 (up2 σ 31 70 (σ 53 (((2 * a0) + a1).toNat))) 30 70 (σ 52 (((2 * a0) + a1).toNat))))
theorem hd_X10_lays : yX10_lays.cls = RX10 ∧ yX10_lays.cls ≠ "java/lang/invoke/MethodHandle" ∧ yX10_lays.cls ≠ "java/lang/invoke/VarHandle" ∧ (parseMethodDescriptor yX10_lays.desc).map (fun d => d.parameters.length) = some 2 := by decide +kernel
set_option maxHeartbeats 4000000 in
set_option maxRecDepth 100000 in
theorem c_X10_lays (l : Launch) (D : va_G) (cy : Nat → ClassId) (ad : Nat → Nat) (σ : Sg) (a0 : Int) (ha0 : (0 : Int) ≤ a0 ∧ a0 ≤ 79) (a1 : Int) (ha1 : (0 : Int) ≤ a1 ∧ a1 ≤ 1) : CM l D cy ad yX10_lays wsX10_lays { frames := 0, cells := 0, slots := 0, locals := 0 } [.ref (ad 28), .int (iI a0), .int (iI a1)] σ none (f_X10_lays σ a0 a1) (True) := by
  refine CM.of (cc := cX10_lays) (maxL := 5) (ret := none) (by decide) rfl (Nat.le_of_ble_eq_true rfl) ?_
  intro p e s m args below meth c₀ ls X hI hl
  have hl : lv_has ls 5 [(0, .ref (ad 28)), (1, .int (iI a0)), (2, .int (iI a1))] := hl
  obtain ⟨hx, hb, hr, hml, hown, hts, hlocks, hK, hN⟩ := id X
  have hF := hI.2.2.2
  refine lv_iconst (v := iI 2) hx hb dX10_lays_0 rfl ?_
  refine lv_iload_n hx hb dX10_lays_1 rfl (lv_at hl 1 rfl) ?_
  refine g_imul hx hb dX10_lays_2 ?_
  refine lv_iload_n hx hb dX10_lays_3 rfl (lv_at hl 2 rfl) ?_
  refine g_iadd hx hb dX10_lays_4 ?_
  refine lv_istore_n (lv' := [(3, .int (iI ((2 * a0) + a1))), (0, .ref (ad 28)), (1, .int (iI a0)), (2, .int (iI a1))]) hx hb dX10_lays_5 rfl hl (by decide) rfl (fun ls hl => ?_)
  refine lv_aload_n hx hb dX10_lays_6 rfl (lv_at hl 1 rfl) ?_
  refine g_get (C := RX10) (T := TX10) (N := 44) (ci := 9) (v := .ref (ad 31)) hx hb hts in_X10_lays_X10 hown hK hI 28 (by decide) (cel_28 cy ad _) rfl 3 (by decide) (by decide +kernel) rfl dX10_lays_7 ?_
  refine lv_bipush (v := iI 70) hx hb dX10_lays_10 (iI_bip (by decide)) ?_
  refine lv_aload_n hx hb dX10_lays_12 rfl (lv_at hl 1 rfl) ?_
  refine g_get (C := RX10) (T := TX10) (N := 44) (ci := 9) (v := .ref (ad 53)) hx hb hts in_X10_lays_X10 hown hK hI 28 (by decide) (cel_28 cy ad _) rfl 41 (by decide) (by decide +kernel) rfl dX10_lays_13 ?_
  refine lv_iload_n hx hb dX10_lays_16 rfl (lv_at hl 0 rfl) ?_
  refine g_iald (v := σ 53 (((2 * a0) + a1).toNat)) hx hb hK hI 53 (by decide) (cel_53 cy ad) (by omega) (by decide) rfl dX10_lays_17 ?_
  have b_1 := bd_53 hF (((2 * a0) + a1).toNat)
  refine g_iast hx hb hK hI 31 (by decide) (cel_31 cy ad) (by omega) (by decide) (bw_31 (by omega)) dX10_lays_18 (fun H locs hI => ?_)
  have hF_2 : WF (up2 σ 31 70 (σ 53 (((2 * a0) + a1).toNat))) := hI.2.2.2
  refine lv_aload_n hx hb dX10_lays_19 rfl (lv_at hl 1 rfl) ?_
  refine g_get (C := RX10) (T := TX10) (N := 44) (ci := 9) (v := .ref (ad 30)) hx hb hts in_X10_lays_X10 hown hK hI 28 (by decide) (cel_28 cy ad _) rfl 2 (by decide) (by decide +kernel) rfl dX10_lays_20 ?_
  refine lv_bipush (v := iI 70) hx hb dX10_lays_23 (iI_bip (by decide)) ?_
  refine lv_aload_n hx hb dX10_lays_25 rfl (lv_at hl 1 rfl) ?_
  refine g_get (C := RX10) (T := TX10) (N := 44) (ci := 9) (v := .ref (ad 52)) hx hb hts in_X10_lays_X10 hown hK hI 28 (by decide) (cel_28 cy ad _) rfl 40 (by decide) (by decide +kernel) rfl dX10_lays_26 ?_
  refine lv_iload_n hx hb dX10_lays_29 rfl (lv_at hl 0 rfl) ?_
  refine g_iald (v := σ 52 (((2 * a0) + a1).toNat)) hx hb hK hI 52 (by decide) (cel_52 cy ad) (by omega) (by decide) (by rw [up2_cell _ _ _ (by decide)]) dX10_lays_30 ?_
  have b_3 := bd_52 hF (((2 * a0) + a1).toNat)
  refine g_iast hx hb hK hI 30 (by decide) (cel_30 cy ad) (by omega) (by decide) (bw_30 (by omega)) dX10_lays_31 (fun H locs hI => ?_)
  have hF_4 : WF (up2 (up2 σ 31 70 (σ 53 (((2 * a0) + a1).toNat))) 30 70 (σ 52 (((2 * a0) + a1).toNat))) := hI.2.2.2
  refine lv_iconst (v := iI 0) hx hb dX10_lays_32 rfl ?_
  refine lv_istore (lv' := [(4, .int (iI 0)), (3, .int (iI ((2 * a0) + a1))), (0, .ref (ad 28)), (1, .int (iI a0)), (2, .int (iI a1))]) hx hb dX10_lays_33 hl (by decide) rfl (fun ls hl => ?_)
  refine w_L_X10_lays_35 X  a0 ha0 a1 ha1  13 ((2 * a0) + a1) 0 (up2 (up2 σ 31 70 (σ 53 (((2 * a0) + a1).toNat))) 30 70 (σ 52 (((2 * a0) + a1).toNat))) (by omega) (by omega) (by omega) _ _ _ hI (lv_sub hl [2, 1, 0] rfl) (fun H locs ls hpo_10 hI hl => ?_)
  have hF_9 := hI.2.2.2
  have e9 : f_X10_lays σ a0 a1 = (L_X10_lays_35 a0 a1 13 ((2 * a0) + a1) 0 (up2 (up2 σ 31 70 (σ 53 (((2 * a0) + a1).toNat))) 30 70 (σ 52 (((2 * a0) + a1).toNat)))) := by rw [f_X10_lays]
  exact g_vret hx hb hr hK hN hlocks hI (by rw [e9]) trivial dX10_lays_75
theorem in_X10_isClear_X10 : ∀ w ∈ u_ws RX10 TX10 44, w ∈ wsX10_isClear := by decide +kernel
def L_X10_isClear_2 (σ : Sg) (a0 : Int) (a1 : Int) : Nat → Int → Int
  | 0, x3 => 0
  | n + 1, x3 => (if (σ 28 5) ≤ x3 then 1 else (if x3 = a0 then L_X10_isClear_2 σ a0 a1 n (x3 + 1) else (if (σ 32 x3.toNat) = 0 then L_X10_isClear_2 σ a0 a1 n (x3 + 1) else (if (f_X10_isAlike σ (120 + x3) a1) = 0 then L_X10_isClear_2 σ a0 a1 n (x3 + 1) else 0))))
set_option maxHeartbeats 4000000 in
set_option maxRecDepth 100000 in
theorem w_L_X10_isClear_2 {p : Program} {l : Launch} {e : Env} {s : State} {m : MethodId} {args : Array Value} {below : List Frame} {meth : Method} {c₀ : Code} {D : va_G} {cy : Nat → ClassId} {ad : Nat → Nat} (X : MX p s m args meth c₀ cX10_isClear 4 RX10 (some .boolean) wsX10_isClear D cy) (σ : Sg) (a0 : Int) (ha0 : (0 : Int) ≤ a0 ∧ a0 ≤ 39) (a1 : Int) (ha1 : (0 : Int) ≤ a1 ∧ a1 ≤ 159) : ∀ (n : Nat) (x3 : Int) (hx3 : (0 : Int) ≤ x3 ∧ x3 ≤ 40) (hmu : 40 - x3 < (n : Int)) (H : Heap) (locs : List Loc) (ls : Array Slot) (hI : HI D cy ad s σ H locs) (hl : lv_has ls 4 [(0, .ref (ad 28)), (1, .int (iI a0)), (2, .int (iI a1)), (3, .int (iI x3))]), W p l e { frames := 2, cells := 0, slots := 0, locals := 80 } s m args below meth c₀ H locs 0 0 (MQ below (CQ D cy ad (some (.int (iI (L_X10_isClear_2 σ a0 a1 n x3)))) σ ((0 ≤ L_X10_isClear_2 σ a0 a1 n x3 ∧ L_X10_isClear_2 σ a0 a1 n x3 ≤ 1)) (AA ad s.heap.size)) args s 0 0 (AA ad s.heap.size)) (F0 m 2 ls []) := by
  obtain ⟨hx, hb, hr, hml, hown, hts, hlocks, hK, hN⟩ := id X
  intro n
  induction n with
  | zero =>
    intro x3 hx3 hmu H locs ls hI hl
    exfalso
    have hF := hI.2.2.2
    omega
  | succ n ih =>
    intro x3 hx3 hmu H locs ls hI hl
    have hF := hI.2.2.2
    refine lv_iload_n hx hb dX10_isClear_2 rfl (lv_at hl 3 rfl) ?_
    refine lv_aload_n hx hb dX10_isClear_3 rfl (lv_at hl 0 rfl) ?_
    refine g_get (C := RX10) (T := TX10) (N := 44) (ci := 9) (v := .int (iI (σ 28 5))) hx hb hts in_X10_isClear_X10 hown hK hI 28 (by decide) (cel_28 cy ad _) rfl 5 (by decide) (by decide +kernel) rfl dX10_isClear_4 ?_
    have b_1 := bd_28_5 hF
    refine g_icmp_ge (tgt := 44) hx hb dX10_isClear_7 (by decide) (by omega) (by omega) (fun c_2 => ?_) (fun c_2 => ?_)
    · skip
      refine lv_iconst (v := iI 1) hx hb dX10_isClear_44 rfl ?_
      have e9 : L_X10_isClear_2 σ a0 a1 (n + 1) x3 = 1 := by rw [L_X10_isClear_2, if_pos c_2]
      exact g_zret (z := 1) hx hb hr hK hN hlocks hI e9.symm rfl (by rw [e9] <;> first | (omega) | (dsimp only; omega)) (by omega) dX10_isClear_45
    · skip
      refine lv_iload_n hx hb dX10_isClear_10 rfl (lv_at hl 3 rfl) ?_
      refine lv_iload_n hx hb dX10_isClear_11 rfl (lv_at hl 1 rfl) ?_
      refine g_icmp_eq (tgt := 38) hx hb dX10_isClear_12 (by decide) (by omega) (by omega) (fun c_3 => ?_) (fun c_3 => ?_)
      · skip
        refine lv_iinc (v := iI (x3 + 1)) (lv' := [(3, .int (iI (x3 + 1))), (0, .ref (ad 28)), (1, .int (iI a0)), (2, .int (iI a1))]) hx hb dX10_isClear_38 hl (k := 3) rfl (iI_add _ _) (by decide) rfl (fun ls hl => ?_)
        refine lv_goto (tgt := 2) hx hb dX10_isClear_41 (by decide) ?_
        have e9 : L_X10_isClear_2 σ a0 a1 (n + 1) x3 = L_X10_isClear_2 σ a0 a1 n (x3 + 1) := by rw [L_X10_isClear_2, if_neg c_2, if_pos c_3]
        rw [e9]
        exact ih (x3 + 1)  (by omega) (by omega) _ _ _ hI (lv_sub hl [1, 2, 3, 0] rfl)
      · skip
        refine lv_aload_n hx hb dX10_isClear_15 rfl (lv_at hl 0 rfl) ?_
        refine g_get (C := RX10) (T := TX10) (N := 44) (ci := 9) (v := .ref (ad 32)) hx hb hts in_X10_isClear_X10 hown hK hI 28 (by decide) (cel_28 cy ad _) rfl 6 (by decide) (by decide +kernel) rfl dX10_isClear_16 ?_
        refine lv_iload_n hx hb dX10_isClear_19 rfl (lv_at hl 3 rfl) ?_
        refine g_zald (v := σ 32 x3.toNat) hx hb hK hI 32 (by decide) (cel_32 cy ad) (by omega) (by decide) rfl dX10_isClear_20 ?_
        have b_4 := bd_32 hF x3.toNat
        refine g_if_eq (tgt := 38) hx hb dX10_isClear_21 (by decide) (by omega) (fun c_5 => ?_) (fun c_5 => ?_)
        · skip
          refine lv_iinc (v := iI (x3 + 1)) (lv' := [(3, .int (iI (x3 + 1))), (0, .ref (ad 28)), (1, .int (iI a0)), (2, .int (iI a1))]) hx hb dX10_isClear_38 hl (k := 3) rfl (iI_add _ _) (by decide) rfl (fun ls hl => ?_)
          refine lv_goto (tgt := 2) hx hb dX10_isClear_41 (by decide) ?_
          have e9 : L_X10_isClear_2 σ a0 a1 (n + 1) x3 = L_X10_isClear_2 σ a0 a1 n (x3 + 1) := by rw [L_X10_isClear_2, if_neg c_2, if_neg c_3, if_pos c_5]
          rw [e9]
          exact ih (x3 + 1)  (by omega) (by omega) _ _ _ hI (lv_sub hl [1, 2, 3, 0] rfl)
        · skip
          refine lv_aload_n hx hb dX10_isClear_24 rfl (lv_at hl 0 rfl) ?_
          refine lv_bipush (v := iI 120) hx hb dX10_isClear_25 (iI_bip (by decide)) ?_
          refine lv_iload_n hx hb dX10_isClear_27 rfl (lv_at hl 3 rfl) ?_
          refine g_iadd hx hb dX10_isClear_28 ?_
          refine lv_iload_n hx hb dX10_isClear_29 rfl (lv_at hl 2 rfl) ?_
          refine g_V (As := [.int (iI (120 + x3)), .int (iI a1)]) (rest := []) 28 (c_X10_isAlike l D cy ad σ (120 + x3) (by omega) a1 (by omega)) hx hb hml hown hts hK hN hI hl.1 gX10_isClear_X10_isAlike rfl hd_X10_isAlike rfl rfl ⟨Nat.le_of_ble_eq_true rfl, Nat.le_of_ble_eq_true rfl⟩ ⟨Nat.zero_le _, Nat.zero_le _⟩ (by decide) (cel_28 cy ad _) rfl rfl rfl rfl (Nat.le_of_ble_eq_true rfl) dX10_isClear_30 (fun H locs hG_6 hI => ?_)
          refine g_if_eq (tgt := 38) hx hb dX10_isClear_33 (by decide) (by omega) (fun c_7 => ?_) (fun c_7 => ?_)
          · skip
            refine lv_iinc (v := iI (x3 + 1)) (lv' := [(3, .int (iI (x3 + 1))), (0, .ref (ad 28)), (1, .int (iI a0)), (2, .int (iI a1))]) hx hb dX10_isClear_38 hl (k := 3) rfl (iI_add _ _) (by decide) rfl (fun ls hl => ?_)
            refine lv_goto (tgt := 2) hx hb dX10_isClear_41 (by decide) ?_
            have e9 : L_X10_isClear_2 σ a0 a1 (n + 1) x3 = L_X10_isClear_2 σ a0 a1 n (x3 + 1) := by rw [L_X10_isClear_2, if_neg c_2, if_neg c_3, if_neg c_5, if_pos c_7]
            rw [e9]
            exact ih (x3 + 1)  (by omega) (by omega) _ _ _ hI (lv_sub hl [1, 2, 3, 0] rfl)
          · skip
            refine lv_iconst (v := iI 0) hx hb dX10_isClear_36 rfl ?_
            have e9 : L_X10_isClear_2 σ a0 a1 (n + 1) x3 = 0 := by rw [L_X10_isClear_2, if_neg c_2, if_neg c_3, if_neg c_5, if_neg c_7]
            exact g_zret (z := 0) hx hb hr hK hN hlocks hI e9.symm rfl (by rw [e9] <;> first | (omega) | (dsimp only; omega)) (by omega) dX10_isClear_37
def f_X10_isClear (σ : Sg) (a0 : Int) (a1 : Int) : Int := L_X10_isClear_2 σ a0 a1 41 0
theorem hd_X10_isClear : yX10_isClear.cls = RX10 ∧ yX10_isClear.cls ≠ "java/lang/invoke/MethodHandle" ∧ yX10_isClear.cls ≠ "java/lang/invoke/VarHandle" ∧ (parseMethodDescriptor yX10_isClear.desc).map (fun d => d.parameters.length) = some 2 := by decide +kernel
set_option maxHeartbeats 4000000 in
set_option maxRecDepth 100000 in
theorem c_X10_isClear (l : Launch) (D : va_G) (cy : Nat → ClassId) (ad : Nat → Nat) (σ : Sg) (a0 : Int) (ha0 : (0 : Int) ≤ a0 ∧ a0 ≤ 39) (a1 : Int) (ha1 : (0 : Int) ≤ a1 ∧ a1 ≤ 159) : CM l D cy ad yX10_isClear wsX10_isClear { frames := 2, cells := 0, slots := 0, locals := 80 } [.ref (ad 28), .int (iI a0), .int (iI a1)] σ (some (.int (iI (f_X10_isClear σ a0 a1)))) σ ((0 ≤ f_X10_isClear σ a0 a1 ∧ f_X10_isClear σ a0 a1 ≤ 1)) := by
  refine CM.of (cc := cX10_isClear) (maxL := 4) (ret := (some .boolean)) (by decide) rfl (Nat.le_of_ble_eq_true rfl) ?_
  intro p e s m args below meth c₀ ls X hI hl
  have hl : lv_has ls 4 [(0, .ref (ad 28)), (1, .int (iI a0)), (2, .int (iI a1))] := hl
  obtain ⟨hx, hb, hr, hml, hown, hts, hlocks, hK, hN⟩ := id X
  have hF := hI.2.2.2
  refine lv_iconst (v := iI 0) hx hb dX10_isClear_0 rfl ?_
  refine lv_istore_n (lv' := [(3, .int (iI 0)), (0, .ref (ad 28)), (1, .int (iI a0)), (2, .int (iI a1))]) hx hb dX10_isClear_1 rfl hl (by decide) rfl (fun ls hl => ?_)
  have e9 : f_X10_isClear σ a0 a1 = L_X10_isClear_2 σ a0 a1 41 0 := by rw [f_X10_isClear]
  rw [e9]
  exact w_L_X10_isClear_2 X σ a0 ha0 a1 ha1  41 0  (by omega) (by omega) _ _ _ hI (lv_sub hl [1, 2, 3, 0] rfl)
theorem in_X10_spare_X10 : ∀ w ∈ u_ws RX10 TX10 44, w ∈ wsX10_spare := by decide +kernel
def f_X10_spare (σ : Sg) (a0 : Int) : Sg := (if a0 < 10 then (up2 (up2 (up2 (up2 σ 31 70 (σ 31 ((120 + a0).toNat))) 29 840 126) 29 841 ((48 + (a0 % 10)).bmod 256)) 30 70 2) else (up2 (up2 (up2 (up2 (up2 σ 31 70 (σ 31 ((120 + a0).toNat))) 29 840 126) 29 841 ((48 + (a0 / 10)).bmod 256)) 29 842 ((48 + (a0 % 10)).bmod 256)) 30 70 3))
theorem hd_X10_spare : yX10_spare.cls = RX10 ∧ yX10_spare.cls ≠ "java/lang/invoke/MethodHandle" ∧ yX10_spare.cls ≠ "java/lang/invoke/VarHandle" ∧ (parseMethodDescriptor yX10_spare.desc).map (fun d => d.parameters.length) = some 1 := by decide +kernel
set_option maxHeartbeats 4000000 in
set_option maxRecDepth 100000 in
theorem c_X10_spare (l : Launch) (D : va_G) (cy : Nat → ClassId) (ad : Nat → Nat) (σ : Sg) (a0 : Int) (ha0 : (0 : Int) ≤ a0 ∧ a0 ≤ 39) : CM l D cy ad yX10_spare wsX10_spare { frames := 0, cells := 0, slots := 0, locals := 0 } [.ref (ad 28), .int (iI a0)] σ none (f_X10_spare σ a0) (True) := by
  refine CM.of (cc := cX10_spare) (maxL := 3) (ret := none) (by decide) rfl (Nat.le_of_ble_eq_true rfl) ?_
  intro p e s m args below meth c₀ ls X hI hl
  have hl : lv_has ls 3 [(0, .ref (ad 28)), (1, .int (iI a0))] := hl
  obtain ⟨hx, hb, hr, hml, hown, hts, hlocks, hK, hN⟩ := id X
  have hF := hI.2.2.2
  refine lv_aload_n hx hb dX10_spare_0 rfl (lv_at hl 0 rfl) ?_
  refine g_get (C := RX10) (T := TX10) (N := 44) (ci := 9) (v := .ref (ad 31)) hx hb hts in_X10_spare_X10 hown hK hI 28 (by decide) (cel_28 cy ad _) rfl 3 (by decide) (by decide +kernel) rfl dX10_spare_1 ?_
  refine lv_bipush (v := iI 70) hx hb dX10_spare_4 (iI_bip (by decide)) ?_
  refine lv_aload_n hx hb dX10_spare_6 rfl (lv_at hl 0 rfl) ?_
  refine g_get (C := RX10) (T := TX10) (N := 44) (ci := 9) (v := .ref (ad 31)) hx hb hts in_X10_spare_X10 hown hK hI 28 (by decide) (cel_28 cy ad _) rfl 3 (by decide) (by decide +kernel) rfl dX10_spare_7 ?_
  refine lv_bipush (v := iI 120) hx hb dX10_spare_10 (iI_bip (by decide)) ?_
  refine lv_iload_n hx hb dX10_spare_12 rfl (lv_at hl 1 rfl) ?_
  refine g_iadd hx hb dX10_spare_13 ?_
  refine g_iald (v := σ 31 ((120 + a0).toNat)) hx hb hK hI 31 (by decide) (cel_31 cy ad) (by omega) (by decide) rfl dX10_spare_14 ?_
  have b_1 := bd_31 hF ((120 + a0).toNat)
  refine g_iast hx hb hK hI 31 (by decide) (cel_31 cy ad) (by omega) (by decide) (bw_31 (by omega)) dX10_spare_15 (fun H locs hI => ?_)
  have hF_2 : WF (up2 σ 31 70 (σ 31 ((120 + a0).toNat))) := hI.2.2.2
  refine lv_aload_n hx hb dX10_spare_16 rfl (lv_at hl 0 rfl) ?_
  refine g_get (C := RX10) (T := TX10) (N := 44) (ci := 9) (v := .ref (ad 29)) hx hb hts in_X10_spare_X10 hown hK hI 28 (by decide) (cel_28 cy ad _) rfl 1 (by decide) (by decide +kernel) rfl dX10_spare_17 ?_
  refine lv_sipush (v := iI 840) hx hb dX10_spare_20 (iI_sip (by decide)) ?_
  refine lv_bipush (v := iI 126) hx hb dX10_spare_23 (iI_bip (by decide)) ?_
  refine g_bast hx hb hK hI 29 (by decide) (cel_29 cy ad) (by omega) (by decide) (by omega) (bw_29 (by omega)) dX10_spare_25 (fun H locs hI => ?_)
  have hF_3 : WF (up2 (up2 σ 31 70 (σ 31 ((120 + a0).toNat))) 29 840 126) := hI.2.2.2
  refine lv_iconst (v := iI 1) hx hb dX10_spare_26 rfl ?_
  refine lv_istore_n (lv' := [(2, .int (iI 1)), (0, .ref (ad 28)), (1, .int (iI a0))]) hx hb dX10_spare_27 rfl hl (by decide) rfl (fun ls hl => ?_)
  refine lv_iload_n hx hb dX10_spare_28 rfl (lv_at hl 2 rfl) ?_
  refine lv_bipush (v := iI 10) hx hb dX10_spare_29 (iI_bip (by decide)) ?_
  refine g_icmp_lt (tgt := 55) hx hb dX10_spare_31 (by decide) (by omega) (by omega) (fun c_4 => ?_) (fun c_4 => ?_)
  · skip
    refine lv_aload_n hx hb dX10_spare_55 rfl (lv_at hl 1 rfl) ?_
    refine g_get (C := RX10) (T := TX10) (N := 44) (ci := 9) (v := .ref (ad 29)) hx hb hts in_X10_spare_X10 hown hK hI 28 (by decide) (cel_28 cy ad _) rfl 1 (by decide) (by decide +kernel) rfl dX10_spare_56 ?_
    refine lv_sipush (v := iI 840) hx hb dX10_spare_59 (iI_sip (by decide)) ?_
    refine lv_iload_n hx hb dX10_spare_62 rfl (lv_at hl 0 rfl) ?_
    refine g_iadd hx hb dX10_spare_63 ?_
    refine lv_bipush (v := iI 48) hx hb dX10_spare_64 (iI_bip (by decide)) ?_
    refine lv_iload_n hx hb dX10_spare_66 rfl (lv_at hl 2 rfl) ?_
    refine lv_bipush (v := iI 10) hx hb dX10_spare_67 (iI_bip (by decide)) ?_
    refine g_irem hx hb (by omega) (by omega) dX10_spare_69 ?_
    refine g_iadd hx hb dX10_spare_70 ?_
    refine g_i2b hx hb dX10_spare_71 ?_
    have b_5 := b8_rng (48 + (a0 % 10))
    refine g_bast hx hb hK hI 29 (by decide) (cel_29 cy ad) (by omega) (by decide) (by omega) (bw_29 (by omega)) dX10_spare_72 (fun H locs hI => ?_)
    have hF_6 : WF (up2 (up2 (up2 σ 31 70 (σ 31 ((120 + a0).toNat))) 29 840 126) 29 841 ((48 + (a0 % 10)).bmod 256)) := hI.2.2.2
    refine lv_aload_n hx hb dX10_spare_73 rfl (lv_at hl 1 rfl) ?_
    refine g_get (C := RX10) (T := TX10) (N := 44) (ci := 9) (v := .ref (ad 30)) hx hb hts in_X10_spare_X10 hown hK hI 28 (by decide) (cel_28 cy ad _) rfl 2 (by decide) (by decide +kernel) rfl dX10_spare_74 ?_
    refine lv_bipush (v := iI 70) hx hb dX10_spare_77 (iI_bip (by decide)) ?_
    refine lv_iload_n hx hb dX10_spare_79 rfl (lv_at hl 0 rfl) ?_
    refine lv_iconst (v := iI 1) hx hb dX10_spare_80 rfl ?_
    refine g_iadd hx hb dX10_spare_81 ?_
    refine g_iast hx hb hK hI 30 (by decide) (cel_30 cy ad) (by omega) (by decide) (bw_30 (by omega)) dX10_spare_82 (fun H locs hI => ?_)
    have hF_7 : WF (up2 (up2 (up2 (up2 σ 31 70 (σ 31 ((120 + a0).toNat))) 29 840 126) 29 841 ((48 + (a0 % 10)).bmod 256)) 30 70 2) := hI.2.2.2
    have e9 : f_X10_spare σ a0 = (up2 (up2 (up2 (up2 σ 31 70 (σ 31 ((120 + a0).toNat))) 29 840 126) 29 841 ((48 + (a0 % 10)).bmod 256)) 30 70 2) := by rw [f_X10_spare, if_pos c_4]
    exact g_vret hx hb hr hK hN hlocks hI e9.symm trivial dX10_spare_83
  · skip
    refine lv_aload_n hx hb dX10_spare_34 rfl (lv_at hl 1 rfl) ?_
    refine g_get (C := RX10) (T := TX10) (N := 44) (ci := 9) (v := .ref (ad 29)) hx hb hts in_X10_spare_X10 hown hK hI 28 (by decide) (cel_28 cy ad _) rfl 1 (by decide) (by decide +kernel) rfl dX10_spare_35 ?_
    refine lv_sipush (v := iI 840) hx hb dX10_spare_38 (iI_sip (by decide)) ?_
    refine lv_iload_n hx hb dX10_spare_41 rfl (lv_at hl 0 rfl) ?_
    refine g_iadd hx hb dX10_spare_42 ?_
    refine lv_bipush (v := iI 48) hx hb dX10_spare_43 (iI_bip (by decide)) ?_
    refine lv_iload_n hx hb dX10_spare_45 rfl (lv_at hl 2 rfl) ?_
    refine lv_bipush (v := iI 10) hx hb dX10_spare_46 (iI_bip (by decide)) ?_
    refine g_idiv hx hb (by omega) (by omega) dX10_spare_48 ?_
    have b_8 := ediv_rng (a := a0) (b := 10) (by omega) (by omega)
    refine g_iadd hx hb dX10_spare_49 ?_
    refine g_i2b hx hb dX10_spare_50 ?_
    have b_9 := b8_rng (48 + (a0 / 10))
    refine g_bast hx hb hK hI 29 (by decide) (cel_29 cy ad) (by omega) (by decide) (by omega) (bw_29 (by omega)) dX10_spare_51 (fun H locs hI => ?_)
    have hF_10 : WF (up2 (up2 (up2 σ 31 70 (σ 31 ((120 + a0).toNat))) 29 840 126) 29 841 ((48 + (a0 / 10)).bmod 256)) := hI.2.2.2
    refine lv_iinc (v := iI (2)) (lv' := [(2, .int (iI 2)), (0, .ref (ad 28)), (1, .int (iI a0))]) hx hb dX10_spare_52 hl (k := 0) rfl (iI_add _ _) (by decide) rfl (fun ls hl => ?_)
    refine lv_aload_n hx hb dX10_spare_55 rfl (lv_at hl 1 rfl) ?_
    refine g_get (C := RX10) (T := TX10) (N := 44) (ci := 9) (v := .ref (ad 29)) hx hb hts in_X10_spare_X10 hown hK hI 28 (by decide) (cel_28 cy ad _) rfl 1 (by decide) (by decide +kernel) rfl dX10_spare_56 ?_
    refine lv_sipush (v := iI 840) hx hb dX10_spare_59 (iI_sip (by decide)) ?_
    refine lv_iload_n hx hb dX10_spare_62 rfl (lv_at hl 0 rfl) ?_
    refine g_iadd hx hb dX10_spare_63 ?_
    refine lv_bipush (v := iI 48) hx hb dX10_spare_64 (iI_bip (by decide)) ?_
    refine lv_iload_n hx hb dX10_spare_66 rfl (lv_at hl 2 rfl) ?_
    refine lv_bipush (v := iI 10) hx hb dX10_spare_67 (iI_bip (by decide)) ?_
    refine g_irem hx hb (by omega) (by omega) dX10_spare_69 ?_
    refine g_iadd hx hb dX10_spare_70 ?_
    refine g_i2b hx hb dX10_spare_71 ?_
    have b_11 := b8_rng (48 + (a0 % 10))
    refine g_bast hx hb hK hI 29 (by decide) (cel_29 cy ad) (by omega) (by decide) (by omega) (bw_29 (by omega)) dX10_spare_72 (fun H locs hI => ?_)
    have hF_12 : WF (up2 (up2 (up2 (up2 σ 31 70 (σ 31 ((120 + a0).toNat))) 29 840 126) 29 841 ((48 + (a0 / 10)).bmod 256)) 29 842 ((48 + (a0 % 10)).bmod 256)) := hI.2.2.2
    refine lv_aload_n hx hb dX10_spare_73 rfl (lv_at hl 1 rfl) ?_
    refine g_get (C := RX10) (T := TX10) (N := 44) (ci := 9) (v := .ref (ad 30)) hx hb hts in_X10_spare_X10 hown hK hI 28 (by decide) (cel_28 cy ad _) rfl 2 (by decide) (by decide +kernel) rfl dX10_spare_74 ?_
    refine lv_bipush (v := iI 70) hx hb dX10_spare_77 (iI_bip (by decide)) ?_
    refine lv_iload_n hx hb dX10_spare_79 rfl (lv_at hl 0 rfl) ?_
    refine lv_iconst (v := iI 1) hx hb dX10_spare_80 rfl ?_
    refine g_iadd hx hb dX10_spare_81 ?_
    refine g_iast hx hb hK hI 30 (by decide) (cel_30 cy ad) (by omega) (by decide) (bw_30 (by omega)) dX10_spare_82 (fun H locs hI => ?_)
    have hF_13 : WF (up2 (up2 (up2 (up2 (up2 σ 31 70 (σ 31 ((120 + a0).toNat))) 29 840 126) 29 841 ((48 + (a0 / 10)).bmod 256)) 29 842 ((48 + (a0 % 10)).bmod 256)) 30 70 3) := hI.2.2.2
    have e9 : f_X10_spare σ a0 = (up2 (up2 (up2 (up2 (up2 σ 31 70 (σ 31 ((120 + a0).toNat))) 29 840 126) 29 841 ((48 + (a0 / 10)).bmod 256)) 29 842 ((48 + (a0 % 10)).bmod 256)) 30 70 3) := by rw [f_X10_spare, if_neg c_4]
    exact g_vret hx hb hr hK hN hlocks hI e9.symm trivial dX10_spare_83
theorem in_X10_steps_X10 : ∀ w ∈ u_ws RX10 TX10 44, w ∈ wsX10_steps := by decide +kernel
def f_X10_steps (σ : Sg) : Int × Sg := (if (σ 28 25) = 0 then ((-1), (up2 σ 28 0 0)) else (if (f_X10_troubles (up2 σ 28 0 0)) ≤ 0 then (σ 28 33, (up2 σ 28 0 0)) else ((-2), (up2 σ 28 0 0))))
theorem hd_X10_steps : yX10_steps.cls = RX10 ∧ yX10_steps.cls ≠ "java/lang/invoke/MethodHandle" ∧ yX10_steps.cls ≠ "java/lang/invoke/VarHandle" ∧ (parseMethodDescriptor yX10_steps.desc).map (fun d => d.parameters.length) = some 0 := by decide +kernel
set_option maxHeartbeats 4000000 in
set_option maxRecDepth 100000 in
theorem c_X10_steps (l : Launch) (D : va_G) (cy : Nat → ClassId) (ad : Nat → Nat) (σ : Sg) : CM l D cy ad yX10_steps wsX10_steps { frames := 1, cells := 0, slots := 0, locals := 40 } [.ref (ad 28)] σ (some (.int (iI ((f_X10_steps σ).1)))) ((f_X10_steps σ).2) (True) := by
  refine CM.of (cc := cX10_steps) (maxL := 1) (ret := (some .int)) (by decide) rfl (Nat.le_of_ble_eq_true rfl) ?_
  intro p e s m args below meth c₀ ls X hI hl
  have hl : lv_has ls 1 [(0, .ref (ad 28))] := hl
  obtain ⟨hx, hb, hr, hml, hown, hts, hlocks, hK, hN⟩ := id X
  have hF := hI.2.2.2
  refine lv_aload_n hx hb dX10_steps_0 rfl (lv_at hl 0 rfl) ?_
  refine lv_iconst (v := iI 0) hx hb dX10_steps_1 rfl ?_
  refine g_put (C := RX10) (T := TX10) (N := 44) (ci := 9) (ty := .int) (z := 0) hx hb hts in_X10_steps_X10 tyX10 tyX10_ok nmX10 hown hK hI 28 (by decide) (cel_28 cy ad) rfl 0 (by decide) (by decide +kernel) rfl (by decide +kernel) rfl rfl (Nat.le_of_ble_eq_true rfl) rfl (bw_28_0 (by omega)) dX10_steps_2 (fun H locs hI => ?_)
  have hF_1 := hI.2.2.2
  refine lv_aload_n hx hb dX10_steps_5 rfl (lv_at hl 0 rfl) ?_
  refine g_get (C := RX10) (T := TX10) (N := 44) (ci := 9) (v := .int (iI (σ 28 25))) hx hb hts in_X10_steps_X10 hown hK hI 28 (by decide) (cel_28 cy ad _) rfl 25 (by decide) (by decide +kernel) (by show some (Value.int (iI ((up2 σ 28 0 0) 28 25))) = _; rw [up2_slot _ _ (by decide)]) dX10_steps_6 ?_
  have b_2 := bd_28_25 hF
  refine g_if_ne (tgt := 16) hx hb dX10_steps_9 (by decide) (by omega) (fun c_3 => ?_) (fun c_3 => ?_)
  · skip
    refine lv_aload_n hx hb dX10_steps_16 rfl (lv_at hl 0 rfl) ?_
    refine g_V (As := []) (rest := []) 28 (c_X10_troubles l D cy ad (up2 σ 28 0 0) ) hx hb hml hown hts hK hN hI hl.1 gX10_steps_X10_troubles rfl hd_X10_troubles rfl rfl ⟨Nat.le_of_ble_eq_true rfl, Nat.le_of_ble_eq_true rfl⟩ ⟨Nat.zero_le _, Nat.zero_le _⟩ (by decide) (cel_28 cy ad _) rfl rfl rfl rfl (Nat.le_of_ble_eq_true rfl) dX10_steps_17 (fun H locs hG_4 hI => ?_)
    refine g_if_le (tgt := 28) hx hb dX10_steps_20 (by decide) (by omega) (fun c_5 => ?_) (fun c_5 => ?_)
    · skip
      refine lv_aload_n hx hb dX10_steps_28 rfl (lv_at hl 0 rfl) ?_
      refine g_get (C := RX10) (T := TX10) (N := 44) (ci := 9) (v := .int (iI (σ 28 33))) hx hb hts in_X10_steps_X10 hown hK hI 28 (by decide) (cel_28 cy ad _) rfl 33 (by decide) (by decide +kernel) (by show some (Value.int (iI ((up2 σ 28 0 0) 28 33))) = _; rw [up2_slot _ _ (by decide)]) dX10_steps_29 ?_
      have b_6 := bd_28_33 hF
      have e9 : f_X10_steps σ = (σ 28 33, (up2 σ 28 0 0)) := by rw [f_X10_steps, if_neg c_3, if_pos c_5]
      exact g_iret (z := σ 28 33) hx hb hr hK hN hlocks hI (by rw [e9]) (by rw [e9]) trivial dX10_steps_32
    · skip
      refine lv_bipush (v := iI (-2)) hx hb dX10_steps_23 (iI_bip (by decide)) ?_
      refine lv_goto (tgt := 32) hx hb dX10_steps_25 (by decide) ?_
      have e9 : f_X10_steps σ = ((-2), (up2 σ 28 0 0)) := by rw [f_X10_steps, if_neg c_3, if_neg c_5]
      exact g_iret (z := (-2)) hx hb hr hK hN hlocks hI (by rw [e9]) (by rw [e9]) trivial dX10_steps_32
  · skip
    refine lv_iconst (v := iI (-1)) hx hb dX10_steps_12 rfl ?_
    refine lv_goto (tgt := 32) hx hb dX10_steps_13 (by decide) ?_
    have e9 : f_X10_steps σ = ((-1), (up2 σ 28 0 0)) := by rw [f_X10_steps, if_pos c_3]
    exact g_iret (z := (-1)) hx hb hr hK hN hlocks hI (by rw [e9]) (by rw [e9]) trivial dX10_steps_32
theorem in_X10_step_X10 : ∀ w ∈ u_ws RX10 TX10 44, w ∈ wsX10_step := by decide +kernel
def f_X10_step (σ : Sg) (a0 : Int) (a1 : Int) : Int × Sg := (if (σ 28 25) = 0 then ((-1), (up2 σ 28 0 0)) else (if a0 < 0 then ((-1), (up2 σ 28 0 0)) else (if a0 < (σ 28 33) then (if a1 = 0 then (σ 48 a0.toNat, (up2 σ 28 0 0)) else (if a1 = 1 then (if (σ 49 a0.toNat) = 0 then (0, (up2 σ 28 0 0)) else (1, (up2 σ 28 0 0))) else (if a1 = 2 then (if (σ 50 a0.toNat) = 0 then (0, (up2 σ 28 0 0)) else (1, (up2 σ 28 0 0))) else ((-1), (up2 σ 28 0 0))))) else ((-1), (up2 σ 28 0 0)))))
theorem hd_X10_step : yX10_step.cls = RX10 ∧ yX10_step.cls ≠ "java/lang/invoke/MethodHandle" ∧ yX10_step.cls ≠ "java/lang/invoke/VarHandle" ∧ (parseMethodDescriptor yX10_step.desc).map (fun d => d.parameters.length) = some 2 := by decide +kernel
set_option maxHeartbeats 4000000 in
set_option maxRecDepth 100000 in
theorem c_X10_step (l : Launch) (D : va_G) (cy : Nat → ClassId) (ad : Nat → Nat) (σ : Sg) (a0 : Int) (ha0 : (-2147483648 ≤ a0 ∧ a0 < 2147483648)) (a1 : Int) (ha1 : (-2147483648 ≤ a1 ∧ a1 < 2147483648)) : CM l D cy ad yX10_step wsX10_step { frames := 0, cells := 0, slots := 0, locals := 0 } [.ref (ad 28), .int (iI a0), .int (iI a1)] σ (some (.int (iI ((f_X10_step σ a0 a1).1)))) ((f_X10_step σ a0 a1).2) (True) := by
  refine CM.of (cc := cX10_step) (maxL := 3) (ret := (some .int)) (by decide) rfl (Nat.le_of_ble_eq_true rfl) ?_
  intro p e s m args below meth c₀ ls X hI hl
  have hl : lv_has ls 3 [(0, .ref (ad 28)), (1, .int (iI a0)), (2, .int (iI a1))] := hl
  obtain ⟨hx, hb, hr, hml, hown, hts, hlocks, hK, hN⟩ := id X
  have hF := hI.2.2.2
  refine lv_aload_n hx hb dX10_step_0 rfl (lv_at hl 0 rfl) ?_
  refine lv_iconst (v := iI 0) hx hb dX10_step_1 rfl ?_
  refine g_put (C := RX10) (T := TX10) (N := 44) (ci := 9) (ty := .int) (z := 0) hx hb hts in_X10_step_X10 tyX10 tyX10_ok nmX10 hown hK hI 28 (by decide) (cel_28 cy ad) rfl 0 (by decide) (by decide +kernel) rfl (by decide +kernel) rfl rfl (Nat.le_of_ble_eq_true rfl) rfl (bw_28_0 (by omega)) dX10_step_2 (fun H locs hI => ?_)
  have hF_1 := hI.2.2.2
  refine lv_aload_n hx hb dX10_step_5 rfl (lv_at hl 0 rfl) ?_
  refine g_get (C := RX10) (T := TX10) (N := 44) (ci := 9) (v := .int (iI (σ 28 25))) hx hb hts in_X10_step_X10 hown hK hI 28 (by decide) (cel_28 cy ad _) rfl 25 (by decide) (by decide +kernel) (by show some (Value.int (iI ((up2 σ 28 0 0) 28 25))) = _; rw [up2_slot _ _ (by decide)]) dX10_step_6 ?_
  have b_2 := bd_28_25 hF
  refine g_if_eq (tgt := 24) hx hb dX10_step_9 (by decide) (by omega) (fun c_3 => ?_) (fun c_3 => ?_)
  · skip
    refine lv_iconst (v := iI (-1)) hx hb dX10_step_24 rfl ?_
    have e9 : f_X10_step σ a0 a1 = ((-1), (up2 σ 28 0 0)) := by rw [f_X10_step, if_pos c_3]
    exact g_iret (z := (-1)) hx hb hr hK hN hlocks hI (by rw [e9]) (by rw [e9]) trivial dX10_step_25
  · skip
    refine lv_iload_n hx hb dX10_step_12 rfl (lv_at hl 1 rfl) ?_
    refine g_if_lt (tgt := 24) hx hb dX10_step_13 (by decide) (by omega) (fun c_4 => ?_) (fun c_4 => ?_)
    · skip
      refine lv_iconst (v := iI (-1)) hx hb dX10_step_24 rfl ?_
      have e9 : f_X10_step σ a0 a1 = ((-1), (up2 σ 28 0 0)) := by rw [f_X10_step, if_neg c_3, if_pos c_4]
      exact g_iret (z := (-1)) hx hb hr hK hN hlocks hI (by rw [e9]) (by rw [e9]) trivial dX10_step_25
    · skip
      refine lv_iload_n hx hb dX10_step_16 rfl (lv_at hl 1 rfl) ?_
      refine lv_aload_n hx hb dX10_step_17 rfl (lv_at hl 0 rfl) ?_
      refine g_get (C := RX10) (T := TX10) (N := 44) (ci := 9) (v := .int (iI (σ 28 33))) hx hb hts in_X10_step_X10 hown hK hI 28 (by decide) (cel_28 cy ad _) rfl 33 (by decide) (by decide +kernel) (by show some (Value.int (iI ((up2 σ 28 0 0) 28 33))) = _; rw [up2_slot _ _ (by decide)]) dX10_step_18 ?_
      have b_5 := bd_28_33 hF
      refine g_icmp_lt (tgt := 26) hx hb dX10_step_21 (by decide) (by omega) (by omega) (fun c_6 => ?_) (fun c_6 => ?_)
      · skip
        refine lv_iload_n hx hb dX10_step_26 rfl (lv_at hl 2 rfl) ?_
        refine g_if_ne (tgt := 39) hx hb dX10_step_27 (by decide) (by omega) (fun c_7 => ?_) (fun c_7 => ?_)
        · skip
          refine lv_iload_n hx hb dX10_step_39 rfl (lv_at hl 2 rfl) ?_
          refine lv_iconst (v := iI 1) hx hb dX10_step_40 rfl ?_
          refine g_icmp_ne (tgt := 61) hx hb dX10_step_41 (by decide) (by omega) (by omega) (fun c_8 => ?_) (fun c_8 => ?_)
          · skip
            refine lv_iload_n hx hb dX10_step_61 rfl (lv_at hl 2 rfl) ?_
            refine lv_iconst (v := iI 2) hx hb dX10_step_62 rfl ?_
            refine g_icmp_ne (tgt := 83) hx hb dX10_step_63 (by decide) (by omega) (by omega) (fun c_9 => ?_) (fun c_9 => ?_)
            · skip
              refine lv_iconst (v := iI (-1)) hx hb dX10_step_83 rfl ?_
              have e9 : f_X10_step σ a0 a1 = ((-1), (up2 σ 28 0 0)) := by rw [f_X10_step, if_neg c_3, if_neg c_4, if_pos c_6, if_neg c_7, if_neg c_8, if_neg c_9]
              exact g_iret (z := (-1)) hx hb hr hK hN hlocks hI (by rw [e9]) (by rw [e9]) trivial dX10_step_84
            · skip
              refine lv_aload_n hx hb dX10_step_66 rfl (lv_at hl 0 rfl) ?_
              refine g_get (C := RX10) (T := TX10) (N := 44) (ci := 9) (v := .ref (ad 50)) hx hb hts in_X10_step_X10 hown hK hI 28 (by decide) (cel_28 cy ad _) rfl 38 (by decide) (by decide +kernel) rfl dX10_step_67 ?_
              refine lv_iload_n hx hb dX10_step_70 rfl (lv_at hl 1 rfl) ?_
              refine g_zald (v := σ 50 a0.toNat) hx hb hK hI 50 (by decide) (cel_50 cy ad) (by omega) (by decide) (by rw [up2_cell _ _ _ (by decide)]) dX10_step_71 ?_
              have b_10 := bd_50 hF a0.toNat
              refine g_if_eq (tgt := 79) hx hb dX10_step_72 (by decide) (by omega) (fun c_11 => ?_) (fun c_11 => ?_)
              · skip
                refine lv_iconst (v := iI 0) hx hb dX10_step_79 rfl ?_
                refine lv_goto (tgt := 84) hx hb dX10_step_80 (by decide) ?_
                have e9 : f_X10_step σ a0 a1 = (0, (up2 σ 28 0 0)) := by rw [f_X10_step, if_neg c_3, if_neg c_4, if_pos c_6, if_neg c_7, if_neg c_8, if_pos c_9, if_pos c_11]
                exact g_iret (z := 0) hx hb hr hK hN hlocks hI (by rw [e9]) (by rw [e9]) trivial dX10_step_84
              · skip
                refine lv_iconst (v := iI 1) hx hb dX10_step_75 rfl ?_
                refine lv_goto (tgt := 84) hx hb dX10_step_76 (by decide) ?_
                have e9 : f_X10_step σ a0 a1 = (1, (up2 σ 28 0 0)) := by rw [f_X10_step, if_neg c_3, if_neg c_4, if_pos c_6, if_neg c_7, if_neg c_8, if_pos c_9, if_neg c_11]
                exact g_iret (z := 1) hx hb hr hK hN hlocks hI (by rw [e9]) (by rw [e9]) trivial dX10_step_84
          · skip
            refine lv_aload_n hx hb dX10_step_44 rfl (lv_at hl 0 rfl) ?_
            refine g_get (C := RX10) (T := TX10) (N := 44) (ci := 9) (v := .ref (ad 49)) hx hb hts in_X10_step_X10 hown hK hI 28 (by decide) (cel_28 cy ad _) rfl 37 (by decide) (by decide +kernel) rfl dX10_step_45 ?_
            refine lv_iload_n hx hb dX10_step_48 rfl (lv_at hl 1 rfl) ?_
            refine g_zald (v := σ 49 a0.toNat) hx hb hK hI 49 (by decide) (cel_49 cy ad) (by omega) (by decide) (by rw [up2_cell _ _ _ (by decide)]) dX10_step_49 ?_
            have b_12 := bd_49 hF a0.toNat
            refine g_if_eq (tgt := 57) hx hb dX10_step_50 (by decide) (by omega) (fun c_13 => ?_) (fun c_13 => ?_)
            · skip
              refine lv_iconst (v := iI 0) hx hb dX10_step_57 rfl ?_
              refine lv_goto (tgt := 84) hx hb dX10_step_58 (by decide) ?_
              have e9 : f_X10_step σ a0 a1 = (0, (up2 σ 28 0 0)) := by rw [f_X10_step, if_neg c_3, if_neg c_4, if_pos c_6, if_neg c_7, if_pos c_8, if_pos c_13]
              exact g_iret (z := 0) hx hb hr hK hN hlocks hI (by rw [e9]) (by rw [e9]) trivial dX10_step_84
            · skip
              refine lv_iconst (v := iI 1) hx hb dX10_step_53 rfl ?_
              refine lv_goto (tgt := 84) hx hb dX10_step_54 (by decide) ?_
              have e9 : f_X10_step σ a0 a1 = (1, (up2 σ 28 0 0)) := by rw [f_X10_step, if_neg c_3, if_neg c_4, if_pos c_6, if_neg c_7, if_pos c_8, if_neg c_13]
              exact g_iret (z := 1) hx hb hr hK hN hlocks hI (by rw [e9]) (by rw [e9]) trivial dX10_step_84
        · skip
          refine lv_aload_n hx hb dX10_step_30 rfl (lv_at hl 0 rfl) ?_
          refine g_get (C := RX10) (T := TX10) (N := 44) (ci := 9) (v := .ref (ad 48)) hx hb hts in_X10_step_X10 hown hK hI 28 (by decide) (cel_28 cy ad _) rfl 36 (by decide) (by decide +kernel) rfl dX10_step_31 ?_
          refine lv_iload_n hx hb dX10_step_34 rfl (lv_at hl 1 rfl) ?_
          refine g_iald (v := σ 48 a0.toNat) hx hb hK hI 48 (by decide) (cel_48 cy ad) (by omega) (by decide) (by rw [up2_cell _ _ _ (by decide)]) dX10_step_35 ?_
          have b_14 := bd_48 hF a0.toNat
          refine lv_goto (tgt := 84) hx hb dX10_step_36 (by decide) ?_
          have e9 : f_X10_step σ a0 a1 = (σ 48 a0.toNat, (up2 σ 28 0 0)) := by rw [f_X10_step, if_neg c_3, if_neg c_4, if_pos c_6, if_pos c_7]
          exact g_iret (z := σ 48 a0.toNat) hx hb hr hK hN hlocks hI (by rw [e9]) (by rw [e9]) trivial dX10_step_84
      · skip
        refine lv_iconst (v := iI (-1)) hx hb dX10_step_24 rfl ?_
        have e9 : f_X10_step σ a0 a1 = ((-1), (up2 σ 28 0 0)) := by rw [f_X10_step, if_neg c_3, if_neg c_4, if_neg c_6]
        exact g_iret (z := (-1)) hx hb hr hK hN hlocks hI (by rw [e9]) (by rw [e9]) trivial dX10_step_25
theorem in_X10_can_X10 : ∀ w ∈ u_ws RX10 TX10 44, w ∈ wsX10_can := by decide +kernel
def f_X10_can (σ : Sg) (a0 : Int) : Int := (if a0 < 0 then 0 else (if (σ 28 25) = 0 then 0 else (if (f_X10_troubles σ) = 0 then 1 else 0)))
theorem hd_X10_can : yX10_can.cls = RX10 ∧ yX10_can.cls ≠ "java/lang/invoke/MethodHandle" ∧ yX10_can.cls ≠ "java/lang/invoke/VarHandle" ∧ (parseMethodDescriptor yX10_can.desc).map (fun d => d.parameters.length) = some 1 := by decide +kernel
set_option maxHeartbeats 4000000 in
set_option maxRecDepth 100000 in
theorem c_X10_can (l : Launch) (D : va_G) (cy : Nat → ClassId) (ad : Nat → Nat) (σ : Sg) (a0 : Int) (ha0 : (-2147483648 ≤ a0 ∧ a0 < 2147483648)) : CM l D cy ad yX10_can wsX10_can { frames := 1, cells := 0, slots := 0, locals := 40 } [.ref (ad 28), .int (iI a0)] σ (some (.int (iI (f_X10_can σ a0)))) σ ((0 ≤ f_X10_can σ a0 ∧ f_X10_can σ a0 ≤ 1)) := by
  refine CM.of (cc := cX10_can) (maxL := 2) (ret := (some .boolean)) (by decide) rfl (Nat.le_of_ble_eq_true rfl) ?_
  intro p e s m args below meth c₀ ls X hI hl
  have hl : lv_has ls 2 [(0, .ref (ad 28)), (1, .int (iI a0))] := hl
  obtain ⟨hx, hb, hr, hml, hown, hts, hlocks, hK, hN⟩ := id X
  have hF := hI.2.2.2
  refine lv_iload_n hx hb dX10_can_0 rfl (lv_at hl 1 rfl) ?_
  refine g_if_lt (tgt := 22) hx hb dX10_can_1 (by decide) (by omega) (fun c_1 => ?_) (fun c_1 => ?_)
  · skip
    refine lv_iconst (v := iI 0) hx hb dX10_can_22 rfl ?_
    have e9 : f_X10_can σ a0 = 0 := by rw [f_X10_can, if_pos c_1]
    exact g_zret (z := 0) hx hb hr hK hN hlocks hI e9.symm rfl (by rw [e9] <;> first | (omega) | (dsimp only; omega)) (by omega) dX10_can_23
  · skip
    refine lv_aload_n hx hb dX10_can_4 rfl (lv_at hl 0 rfl) ?_
    refine g_get (C := RX10) (T := TX10) (N := 44) (ci := 9) (v := .int (iI (σ 28 25))) hx hb hts in_X10_can_X10 hown hK hI 28 (by decide) (cel_28 cy ad _) rfl 25 (by decide) (by decide +kernel) rfl dX10_can_5 ?_
    have b_2 := bd_28_25 hF
    refine g_if_eq (tgt := 22) hx hb dX10_can_8 (by decide) (by omega) (fun c_3 => ?_) (fun c_3 => ?_)
    · skip
      refine lv_iconst (v := iI 0) hx hb dX10_can_22 rfl ?_
      have e9 : f_X10_can σ a0 = 0 := by rw [f_X10_can, if_neg c_1, if_pos c_3]
      exact g_zret (z := 0) hx hb hr hK hN hlocks hI e9.symm rfl (by rw [e9] <;> first | (omega) | (dsimp only; omega)) (by omega) dX10_can_23
    · skip
      refine lv_aload_n hx hb dX10_can_11 rfl (lv_at hl 0 rfl) ?_
      refine g_V (As := []) (rest := []) 28 (c_X10_troubles l D cy ad σ ) hx hb hml hown hts hK hN hI hl.1 gX10_can_X10_troubles rfl hd_X10_troubles rfl rfl ⟨Nat.le_of_ble_eq_true rfl, Nat.le_of_ble_eq_true rfl⟩ ⟨Nat.zero_le _, Nat.zero_le _⟩ (by decide) (cel_28 cy ad _) rfl rfl rfl rfl (Nat.le_of_ble_eq_true rfl) dX10_can_12 (fun H locs hG_4 hI => ?_)
      refine g_if_ne (tgt := 22) hx hb dX10_can_15 (by decide) (by omega) (fun c_5 => ?_) (fun c_5 => ?_)
      · skip
        refine lv_iconst (v := iI 0) hx hb dX10_can_22 rfl ?_
        have e9 : f_X10_can σ a0 = 0 := by rw [f_X10_can, if_neg c_1, if_neg c_3, if_neg c_5]
        exact g_zret (z := 0) hx hb hr hK hN hlocks hI e9.symm rfl (by rw [e9] <;> first | (omega) | (dsimp only; omega)) (by omega) dX10_can_23
      · skip
        refine lv_iconst (v := iI 1) hx hb dX10_can_18 rfl ?_
        refine lv_goto (tgt := 23) hx hb dX10_can_19 (by decide) ?_
        have e9 : f_X10_can σ a0 = 1 := by rw [f_X10_can, if_neg c_1, if_neg c_3, if_pos c_5]
        exact g_zret (z := 1) hx hb hr hK hN hlocks hI e9.symm rfl (by rw [e9] <;> first | (omega) | (dsimp only; omega)) (by omega) dX10_can_23
theorem in_X10_stuck_X10 : ∀ w ∈ u_ws RX10 TX10 44, w ∈ wsX10_stuck := by decide +kernel
def f_X10_stuck (σ : Sg) : Int × Sg := (σ 28 35, (up2 σ 28 0 0))
theorem hd_X10_stuck : yX10_stuck.cls = RX10 ∧ yX10_stuck.cls ≠ "java/lang/invoke/MethodHandle" ∧ yX10_stuck.cls ≠ "java/lang/invoke/VarHandle" ∧ (parseMethodDescriptor yX10_stuck.desc).map (fun d => d.parameters.length) = some 0 := by decide +kernel
set_option maxHeartbeats 4000000 in
set_option maxRecDepth 100000 in
theorem c_X10_stuck (l : Launch) (D : va_G) (cy : Nat → ClassId) (ad : Nat → Nat) (σ : Sg) : CM l D cy ad yX10_stuck wsX10_stuck { frames := 0, cells := 0, slots := 0, locals := 0 } [.ref (ad 28)] σ (some (.int (iI ((f_X10_stuck σ).1)))) ((f_X10_stuck σ).2) (True) := by
  refine CM.of (cc := cX10_stuck) (maxL := 1) (ret := (some .int)) (by decide) rfl (Nat.le_of_ble_eq_true rfl) ?_
  intro p e s m args below meth c₀ ls X hI hl
  have hl : lv_has ls 1 [(0, .ref (ad 28))] := hl
  obtain ⟨hx, hb, hr, hml, hown, hts, hlocks, hK, hN⟩ := id X
  have hF := hI.2.2.2
  refine lv_aload_n hx hb dX10_stuck_0 rfl (lv_at hl 0 rfl) ?_
  refine lv_iconst (v := iI 0) hx hb dX10_stuck_1 rfl ?_
  refine g_put (C := RX10) (T := TX10) (N := 44) (ci := 9) (ty := .int) (z := 0) hx hb hts in_X10_stuck_X10 tyX10 tyX10_ok nmX10 hown hK hI 28 (by decide) (cel_28 cy ad) rfl 0 (by decide) (by decide +kernel) rfl (by decide +kernel) rfl rfl (Nat.le_of_ble_eq_true rfl) rfl (bw_28_0 (by omega)) dX10_stuck_2 (fun H locs hI => ?_)
  have hF_1 := hI.2.2.2
  refine lv_aload_n hx hb dX10_stuck_5 rfl (lv_at hl 0 rfl) ?_
  refine g_get (C := RX10) (T := TX10) (N := 44) (ci := 9) (v := .int (iI (σ 28 35))) hx hb hts in_X10_stuck_X10 hown hK hI 28 (by decide) (cel_28 cy ad _) rfl 35 (by decide) (by decide +kernel) (by show some (Value.int (iI ((up2 σ 28 0 0) 28 35))) = _; rw [up2_slot _ _ (by decide)]) dX10_stuck_6 ?_
  have b_2 := bd_28_35 hF
  have e9 : f_X10_stuck σ = (σ 28 35, (up2 σ 28 0 0)) := by rw [f_X10_stuck]
  exact g_iret (z := σ 28 35) hx hb hr hK hN hlocks hI (by rw [e9]) (by rw [e9]) trivial dX10_stuck_9
theorem in_X10_link_X10 : ∀ w ∈ u_ws RX10 TX10 44, w ∈ wsX10_link := by decide +kernel
def f_X10_link (σ : Sg) (a0 : Int) : Int × Sg := (if ((f_X10_takes (up2 σ 28 0 0) a0).1) = 0 then ((-1), (f_X10_takes (up2 σ 28 0 0) a0).2) else (if ((f_X10_takes (up2 σ 28 0 0) a0).2 28 7) = 30 then ((-1), (f_X10_takes (up2 σ 28 0 0) a0).2) else ((((f_X10_copies (f_X10_takes (up2 σ 28 0 0) a0).2 70 (40 + ((f_X10_takes (up2 σ 28 0 0) a0).2 28 7))) 28 7) + 1) - 1, (up2 (f_X10_copies (f_X10_takes (up2 σ 28 0 0) a0).2 70 (40 + ((f_X10_takes (up2 σ 28 0 0) a0).2 28 7))) 28 7 (((f_X10_copies (f_X10_takes (up2 σ 28 0 0) a0).2 70 (40 + ((f_X10_takes (up2 σ 28 0 0) a0).2 28 7))) 28 7) + 1)))))
theorem hd_X10_link : yX10_link.cls = RX10 ∧ yX10_link.cls ≠ "java/lang/invoke/MethodHandle" ∧ yX10_link.cls ≠ "java/lang/invoke/VarHandle" ∧ (parseMethodDescriptor yX10_link.desc).map (fun d => d.parameters.length) = some 1 := by decide +kernel
set_option maxHeartbeats 4000000 in
set_option maxRecDepth 100000 in
theorem c_X10_link (l : Launch) (D : va_G) (cy : Nat → ClassId) (ad : Nat → Nat) (σ : Sg) (a0 : Int) (ha0 : (-2147483648 ≤ a0 ∧ a0 < 2147483648)) : CM l D cy ad yX10_link wsX10_link { frames := 3, cells := 0, slots := 0, locals := 120 } [.ref (ad 28), .int (iI a0)] σ (some (.int (iI ((f_X10_link σ a0).1)))) ((f_X10_link σ a0).2) (True) := by
  refine CM.of (cc := cX10_link) (maxL := 2) (ret := (some .int)) (by decide) rfl (Nat.le_of_ble_eq_true rfl) ?_
  intro p e s m args below meth c₀ ls X hI hl
  have hl : lv_has ls 2 [(0, .ref (ad 28)), (1, .int (iI a0))] := hl
  obtain ⟨hx, hb, hr, hml, hown, hts, hlocks, hK, hN⟩ := id X
  have hF := hI.2.2.2
  refine lv_aload_n hx hb dX10_link_0 rfl (lv_at hl 0 rfl) ?_
  refine lv_iconst (v := iI 0) hx hb dX10_link_1 rfl ?_
  refine g_put (C := RX10) (T := TX10) (N := 44) (ci := 9) (ty := .int) (z := 0) hx hb hts in_X10_link_X10 tyX10 tyX10_ok nmX10 hown hK hI 28 (by decide) (cel_28 cy ad) rfl 0 (by decide) (by decide +kernel) rfl (by decide +kernel) rfl rfl (Nat.le_of_ble_eq_true rfl) rfl (bw_28_0 (by omega)) dX10_link_2 (fun H locs hI => ?_)
  have hF_1 := hI.2.2.2
  refine lv_aload_n hx hb dX10_link_5 rfl (lv_at hl 0 rfl) ?_
  refine lv_iload_n hx hb dX10_link_6 rfl (lv_at hl 1 rfl) ?_
  refine g_V (As := [.int (iI a0)]) (rest := []) 28 (c_X10_takes l D cy ad (up2 σ 28 0 0) a0 (by omega)) hx hb hml hown hts hK hN hI hl.1 gX10_link_X10_takes rfl hd_X10_takes rfl rfl ⟨Nat.le_of_ble_eq_true rfl, Nat.le_of_ble_eq_true rfl⟩ ⟨Nat.zero_le _, Nat.zero_le _⟩ (by decide) (cel_28 cy ad _) rfl rfl rfl rfl (Nat.le_of_ble_eq_true rfl) dX10_link_7 (fun H locs hG_2 hI => ?_)
  have hF_3 := hI.2.2.2
  have q8 : (f_X10_takes (up2 σ 28 0 0) a0).2 28 5 = (up2 σ 28 0 0) 28 5 := takes_fr _ _ (by decide) (by decide) (by decide) (by decide)
  have q7 : (f_X10_takes (up2 σ 28 0 0) a0).2 28 7 = (up2 σ 28 0 0) 28 7 := takes_fr _ _ (by decide) (by decide) (by decide) (by decide)
  refine g_if_eq (tgt := 22) hx hb dX10_link_10 (by decide) (by omega) (fun c_4 => ?_) (fun c_4 => ?_)
  · skip
    refine lv_iconst (v := iI (-1)) hx hb dX10_link_22 rfl ?_
    have e9 : f_X10_link σ a0 = ((-1), (f_X10_takes (up2 σ 28 0 0) a0).2) := by rw [f_X10_link, if_pos c_4]
    exact g_iret (z := (-1)) hx hb hr hK hN hlocks hI (by rw [e9]) (by rw [e9]) trivial dX10_link_23
  · skip
    refine lv_aload_n hx hb dX10_link_13 rfl (lv_at hl 0 rfl) ?_
    refine g_get (C := RX10) (T := TX10) (N := 44) (ci := 9) (v := .int (iI ((f_X10_takes (up2 σ 28 0 0) a0).2 28 7))) hx hb hts in_X10_link_X10 hown hK hI 28 (by decide) (cel_28 cy ad _) rfl 7 (by decide) (by decide +kernel) rfl dX10_link_14 ?_
    have b_5 := bd_28_7 hF_3
    refine lv_bipush (v := iI 30) hx hb dX10_link_17 (iI_bip (by decide)) ?_
    refine g_icmp_ne (tgt := 24) hx hb dX10_link_19 (by decide) (by omega) (by omega) (fun c_6 => ?_) (fun c_6 => ?_)
    · skip
      refine lv_aload_n hx hb dX10_link_24 rfl (lv_at hl 0 rfl) ?_
      refine lv_bipush (v := iI 70) hx hb dX10_link_25 (iI_bip (by decide)) ?_
      refine lv_bipush (v := iI 40) hx hb dX10_link_27 (iI_bip (by decide)) ?_
      refine lv_aload_n hx hb dX10_link_29 rfl (lv_at hl 0 rfl) ?_
      refine g_get (C := RX10) (T := TX10) (N := 44) (ci := 9) (v := .int (iI ((f_X10_takes (up2 σ 28 0 0) a0).2 28 7))) hx hb hts in_X10_link_X10 hown hK hI 28 (by decide) (cel_28 cy ad _) rfl 7 (by decide) (by decide +kernel) rfl dX10_link_30 ?_
      have b_7 := bd_28_7 hF_3
      refine g_iadd hx hb dX10_link_33 ?_
      refine g_V (As := [.int (iI 70), .int (iI (40 + ((f_X10_takes (up2 σ 28 0 0) a0).2 28 7)))]) (rest := []) 28 (c_X10_copies l D cy ad (f_X10_takes (up2 σ 28 0 0) a0).2 70 (by omega) (40 + ((f_X10_takes (up2 σ 28 0 0) a0).2 28 7)) (by omega)) hx hb hml hown hts hK hN hI hl.1 gX10_link_X10_copies rfl hd_X10_copies rfl rfl ⟨Nat.le_of_ble_eq_true rfl, Nat.le_of_ble_eq_true rfl⟩ ⟨Nat.zero_le _, Nat.zero_le _⟩ (by decide) (cel_28 cy ad _) rfl rfl rfl rfl (Nat.le_of_ble_eq_true rfl) dX10_link_34 (fun H locs hG_8 hI => ?_)
      have hF_9 := hI.2.2.2
      have q6 : (f_X10_copies (f_X10_takes (up2 σ 28 0 0) a0).2 70 (40 + ((f_X10_takes (up2 σ 28 0 0) a0).2 28 7))) 28 = (f_X10_takes (up2 σ 28 0 0) a0).2 28 := copies_fr _ _ _ (by decide) (by decide) (by decide)
      have q5 := congrFun q6 5
      have q4 := congrFun q6 7
      refine lv_aload_n hx hb dX10_link_37 rfl (lv_at hl 0 rfl) ?_
      refine lv_dup hx hb dX10_link_38 rfl ?_
      refine g_get (C := RX10) (T := TX10) (N := 44) (ci := 9) (v := .int (iI ((f_X10_copies (f_X10_takes (up2 σ 28 0 0) a0).2 70 (40 + ((f_X10_takes (up2 σ 28 0 0) a0).2 28 7))) 28 7))) hx hb hts in_X10_link_X10 hown hK hI 28 (by decide) (cel_28 cy ad _) rfl 7 (by decide) (by decide +kernel) rfl dX10_link_39 ?_
      have b_10 := bd_28_7 hF_9
      refine lv_iconst (v := iI 1) hx hb dX10_link_42 rfl ?_
      refine g_iadd hx hb dX10_link_43 ?_
      refine g_put (C := RX10) (T := TX10) (N := 44) (ci := 9) (ty := .int) (z := ((f_X10_copies (f_X10_takes (up2 σ 28 0 0) a0).2 70 (40 + ((f_X10_takes (up2 σ 28 0 0) a0).2 28 7))) 28 7) + 1) hx hb hts in_X10_link_X10 tyX10 tyX10_ok nmX10 hown hK hI 28 (by decide) (cel_28 cy ad) rfl 7 (by decide) (by decide +kernel) rfl (by decide +kernel) rfl rfl (Nat.le_of_ble_eq_true rfl) rfl (bw_28_7 (by omega)) dX10_link_44 (fun H locs hI => ?_)
      have hF_11 := hI.2.2.2
      refine lv_aload_n hx hb dX10_link_47 rfl (lv_at hl 0 rfl) ?_
      refine g_get (C := RX10) (T := TX10) (N := 44) (ci := 9) (v := .int (iI (((f_X10_copies (f_X10_takes (up2 σ 28 0 0) a0).2 70 (40 + ((f_X10_takes (up2 σ 28 0 0) a0).2 28 7))) 28 7) + 1))) hx hb hts in_X10_link_X10 hown hK hI 28 (by decide) (cel_28 cy ad _) rfl 7 (by decide) (by decide +kernel) (by show some (Value.int (iI ((up2 (f_X10_copies (f_X10_takes (up2 σ 28 0 0) a0).2 70 (40 + ((f_X10_takes (up2 σ 28 0 0) a0).2 28 7))) 28 7 (((f_X10_copies (f_X10_takes (up2 σ 28 0 0) a0).2 70 (40 + ((f_X10_takes (up2 σ 28 0 0) a0).2 28 7))) 28 7) + 1)) 28 7))) = _; rw [up2_same]) dX10_link_48 ?_
      refine lv_iconst (v := iI 1) hx hb dX10_link_51 rfl ?_
      refine g_isub hx hb dX10_link_52 ?_
      have e9 : f_X10_link σ a0 = ((((f_X10_copies (f_X10_takes (up2 σ 28 0 0) a0).2 70 (40 + ((f_X10_takes (up2 σ 28 0 0) a0).2 28 7))) 28 7) + 1) - 1, (up2 (f_X10_copies (f_X10_takes (up2 σ 28 0 0) a0).2 70 (40 + ((f_X10_takes (up2 σ 28 0 0) a0).2 28 7))) 28 7 (((f_X10_copies (f_X10_takes (up2 σ 28 0 0) a0).2 70 (40 + ((f_X10_takes (up2 σ 28 0 0) a0).2 28 7))) 28 7) + 1))) := by rw [f_X10_link, if_neg c_4, if_neg c_6]
      exact g_iret (z := (((f_X10_copies (f_X10_takes (up2 σ 28 0 0) a0).2 70 (40 + ((f_X10_takes (up2 σ 28 0 0) a0).2 28 7))) 28 7) + 1) - 1) hx hb hr hK hN hlocks hI (by rw [e9]) (by rw [e9]) trivial dX10_link_53
    · skip
      refine lv_iconst (v := iI (-1)) hx hb dX10_link_22 rfl ?_
      have e9 : f_X10_link σ a0 = ((-1), (f_X10_takes (up2 σ 28 0 0) a0).2) := by rw [f_X10_link, if_neg c_4, if_pos c_6]
      exact g_iret (z := (-1)) hx hb hr hK hN hlocks hI (by rw [e9]) (by rw [e9]) trivial dX10_link_23
theorem in_X10_lookAt_X10 : ∀ w ∈ u_ws RX10 TX10 44, w ∈ wsX10_lookAt := by decide +kernel
def f_X10_lookAt (σ : Sg) (a0 : Int) (a1 : Int) : Int := (if a1 < 10 then (-1) else (if (10 + (σ 30 a0.toNat)) ≤ a1 then (-1) else σ 29 ((((12 * a0) + a1) - 10).toNat)))
theorem hd_X10_lookAt : yX10_lookAt.cls = RX10 ∧ yX10_lookAt.cls ≠ "java/lang/invoke/MethodHandle" ∧ yX10_lookAt.cls ≠ "java/lang/invoke/VarHandle" ∧ (parseMethodDescriptor yX10_lookAt.desc).map (fun d => d.parameters.length) = some 2 := by decide +kernel
set_option maxHeartbeats 4000000 in
set_option maxRecDepth 100000 in
theorem c_X10_lookAt (l : Launch) (D : va_G) (cy : Nat → ClassId) (ad : Nat → Nat) (σ : Sg) (a0 : Int) (ha0 : (0 : Int) ≤ a0 ∧ a0 ≤ 159) (a1 : Int) (ha1 : (-2147483648 ≤ a1 ∧ a1 < 2147483648)) : CM l D cy ad yX10_lookAt wsX10_lookAt { frames := 0, cells := 0, slots := 0, locals := 0 } [.ref (ad 28), .int (iI a0), .int (iI a1)] σ (some (.int (iI (f_X10_lookAt σ a0 a1)))) σ (True) := by
  refine CM.of (cc := cX10_lookAt) (maxL := 3) (ret := (some .int)) (by decide) rfl (Nat.le_of_ble_eq_true rfl) ?_
  intro p e s m args below meth c₀ ls X hI hl
  have hl : lv_has ls 3 [(0, .ref (ad 28)), (1, .int (iI a0)), (2, .int (iI a1))] := hl
  obtain ⟨hx, hb, hr, hml, hown, hts, hlocks, hK, hN⟩ := id X
  have hF := hI.2.2.2
  refine lv_iload_n hx hb dX10_lookAt_0 rfl (lv_at hl 2 rfl) ?_
  refine lv_bipush (v := iI 10) hx hb dX10_lookAt_1 (iI_bip (by decide)) ?_
  refine g_icmp_lt (tgt := 36) hx hb dX10_lookAt_3 (by decide) (by omega) (by omega) (fun c_1 => ?_) (fun c_1 => ?_)
  · skip
    refine lv_iconst (v := iI (-1)) hx hb dX10_lookAt_36 rfl ?_
    have e9 : f_X10_lookAt σ a0 a1 = (-1) := by rw [f_X10_lookAt, if_pos c_1]
    exact g_iret (z := (-1)) hx hb hr hK hN hlocks hI e9.symm rfl trivial dX10_lookAt_37
  · skip
    refine lv_iload_n hx hb dX10_lookAt_6 rfl (lv_at hl 2 rfl) ?_
    refine lv_bipush (v := iI 10) hx hb dX10_lookAt_7 (iI_bip (by decide)) ?_
    refine lv_aload_n hx hb dX10_lookAt_9 rfl (lv_at hl 0 rfl) ?_
    refine g_get (C := RX10) (T := TX10) (N := 44) (ci := 9) (v := .ref (ad 30)) hx hb hts in_X10_lookAt_X10 hown hK hI 28 (by decide) (cel_28 cy ad _) rfl 2 (by decide) (by decide +kernel) rfl dX10_lookAt_10 ?_
    refine lv_iload_n hx hb dX10_lookAt_13 rfl (lv_at hl 1 rfl) ?_
    refine g_iald (v := σ 30 a0.toNat) hx hb hK hI 30 (by decide) (cel_30 cy ad) (by omega) (by decide) rfl dX10_lookAt_14 ?_
    have b_2 := bd_30 hF a0.toNat
    refine g_iadd hx hb dX10_lookAt_15 ?_
    refine g_icmp_ge (tgt := 36) hx hb dX10_lookAt_16 (by decide) (by omega) (by omega) (fun c_3 => ?_) (fun c_3 => ?_)
    · skip
      refine lv_iconst (v := iI (-1)) hx hb dX10_lookAt_36 rfl ?_
      have e9 : f_X10_lookAt σ a0 a1 = (-1) := by rw [f_X10_lookAt, if_neg c_1, if_pos c_3]
      exact g_iret (z := (-1)) hx hb hr hK hN hlocks hI e9.symm rfl trivial dX10_lookAt_37
    · skip
      refine lv_aload_n hx hb dX10_lookAt_19 rfl (lv_at hl 0 rfl) ?_
      refine g_get (C := RX10) (T := TX10) (N := 44) (ci := 9) (v := .ref (ad 29)) hx hb hts in_X10_lookAt_X10 hown hK hI 28 (by decide) (cel_28 cy ad _) rfl 1 (by decide) (by decide +kernel) rfl dX10_lookAt_20 ?_
      refine lv_bipush (v := iI 12) hx hb dX10_lookAt_23 (iI_bip (by decide)) ?_
      refine lv_iload_n hx hb dX10_lookAt_25 rfl (lv_at hl 1 rfl) ?_
      refine g_imul hx hb dX10_lookAt_26 ?_
      refine lv_iload_n hx hb dX10_lookAt_27 rfl (lv_at hl 2 rfl) ?_
      refine g_iadd hx hb dX10_lookAt_28 ?_
      refine lv_bipush (v := iI 10) hx hb dX10_lookAt_29 (iI_bip (by decide)) ?_
      refine g_isub hx hb dX10_lookAt_31 ?_
      refine g_bald (v := σ 29 ((((12 * a0) + a1) - 10).toNat)) hx hb hK hI 29 (by decide) (cel_29 cy ad) (by omega) (by decide) rfl dX10_lookAt_32 ?_
      have b_4 := bd_29 hF ((((12 * a0) + a1) - 10).toNat)
      refine lv_goto (tgt := 37) hx hb dX10_lookAt_33 (by decide) ?_
      have e9 : f_X10_lookAt σ a0 a1 = σ 29 ((((12 * a0) + a1) - 10).toNat) := by rw [f_X10_lookAt, if_neg c_1, if_neg c_3]
      exact g_iret (z := σ 29 ((((12 * a0) + a1) - 10).toNat)) hx hb hr hK hN hlocks hI e9.symm rfl trivial dX10_lookAt_37
theorem in_X10_linkOf_X10 : ∀ w ∈ u_ws RX10 TX10 44, w ∈ wsX10_linkOf := by decide +kernel
def L_X10_linkOf_62 (σ : Sg) (a0 : Int) (a1 : Int) : Nat → Int → Int → Int × Sg
  | 0, x3, x4 => (0, σ)
  | n + 1, x3, x4 => (if (σ 28 5) ≤ x4 then ((-1), σ) else (if (σ 32 x4.toNat) = 0 then L_X10_linkOf_62 σ a0 a1 n x3 (x4 + 1) else (if (f_X10_isJust σ x4 x3) = 0 then L_X10_linkOf_62 σ a0 a1 n x3 (x4 + 1) else (x4, σ))))
set_option maxHeartbeats 4000000 in
set_option maxRecDepth 100000 in
theorem w_L_X10_linkOf_62 {p : Program} {l : Launch} {e : Env} {s : State} {m : MethodId} {args : Array Value} {below : List Frame} {meth : Method} {c₀ : Code} {D : va_G} {cy : Nat → ClassId} {ad : Nat → Nat} (X : MX p s m args meth c₀ cX10_linkOf 5 RX10 (some .int) wsX10_linkOf D cy) (σ : Sg) (a0 : Int) (ha0 : (-2147483648 ≤ a0 ∧ a0 < 2147483648)) (a1 : Int) (ha1 : (-2147483648 ≤ a1 ∧ a1 < 2147483648)) : ∀ (n : Nat) (x3 : Int) (x4 : Int) (hx3 : (40 : Int) ≤ x3 ∧ x3 ≤ 69) (hx4 : (0 : Int) ≤ x4 ∧ x4 ≤ 40) (hmu : 40 - x4 < (n : Int)) (H : Heap) (locs : List Loc) (ls : Array Slot) (hI : HI D cy ad s σ H locs) (hl : lv_has ls 5 [(0, .ref (ad 28)), (3, .int (iI x3)), (4, .int (iI x4))]), W p l e { frames := 1, cells := 0, slots := 0, locals := 40 } s m args below meth c₀ H locs 0 0 (MQ below (CQ D cy ad (some (.int (iI ((L_X10_linkOf_62 σ a0 a1 n x3 x4).1)))) ((L_X10_linkOf_62 σ a0 a1 n x3 x4).2) (True) (AA ad s.heap.size)) args s 0 0 (AA ad s.heap.size)) (F0 m 62 ls []) := by
  obtain ⟨hx, hb, hr, hml, hown, hts, hlocks, hK, hN⟩ := id X
  intro n
  induction n with
  | zero =>
    intro x3 x4 hx3 hx4 hmu H locs ls hI hl
    exfalso
    have hF := hI.2.2.2
    omega
  | succ n ih =>
    intro x3 x4 hx3 hx4 hmu H locs ls hI hl
    have hF := hI.2.2.2
    refine lv_iload hx hb dX10_linkOf_62 (lv_at hl 2 rfl) ?_
    refine lv_aload_n hx hb dX10_linkOf_64 rfl (lv_at hl 0 rfl) ?_
    refine g_get (C := RX10) (T := TX10) (N := 44) (ci := 9) (v := .int (iI (σ 28 5))) hx hb hts in_X10_linkOf_X10 hown hK hI 28 (by decide) (cel_28 cy ad _) rfl 5 (by decide) (by decide +kernel) rfl dX10_linkOf_65 ?_
    have b_8 := bd_28_5 hF
    refine g_icmp_ge (tgt := 100) hx hb dX10_linkOf_68 (by decide) (by omega) (by omega) (fun c_9 => ?_) (fun c_9 => ?_)
    · skip
      refine lv_iconst (v := iI (-1)) hx hb dX10_linkOf_100 rfl ?_
      have e9 : L_X10_linkOf_62 σ a0 a1 (n + 1) x3 x4 = ((-1), σ) := by rw [L_X10_linkOf_62, if_pos c_9]
      exact g_iret (z := (-1)) hx hb hr hK hN hlocks hI (by rw [e9]) (by rw [e9]) trivial dX10_linkOf_101
    · skip
      refine lv_aload_n hx hb dX10_linkOf_71 rfl (lv_at hl 0 rfl) ?_
      refine g_get (C := RX10) (T := TX10) (N := 44) (ci := 9) (v := .ref (ad 32)) hx hb hts in_X10_linkOf_X10 hown hK hI 28 (by decide) (cel_28 cy ad _) rfl 6 (by decide) (by decide +kernel) rfl dX10_linkOf_72 ?_
      refine lv_iload hx hb dX10_linkOf_75 (lv_at hl 2 rfl) ?_
      refine g_zald (v := σ 32 x4.toNat) hx hb hK hI 32 (by decide) (cel_32 cy ad) (by omega) (by decide) rfl dX10_linkOf_77 ?_
      have b_10 := bd_32 hF x4.toNat
      refine g_if_eq (tgt := 94) hx hb dX10_linkOf_78 (by decide) (by omega) (fun c_11 => ?_) (fun c_11 => ?_)
      · skip
        refine lv_iinc (v := iI (x4 + 1)) (lv' := [(4, .int (iI (x4 + 1))), (0, .ref (ad 28)), (3, .int (iI x3))]) hx hb dX10_linkOf_94 hl (k := 2) rfl (iI_add _ _) (by decide) rfl (fun ls hl => ?_)
        refine lv_goto (tgt := 62) hx hb dX10_linkOf_97 (by decide) ?_
        have e9 : L_X10_linkOf_62 σ a0 a1 (n + 1) x3 x4 = L_X10_linkOf_62 σ a0 a1 n x3 (x4 + 1) := by rw [L_X10_linkOf_62, if_neg c_9, if_pos c_11]
        rw [e9]
        exact ih x3 (x4 + 1)  (by omega) (by omega) (by omega) _ _ _ hI (lv_sub hl [1, 2, 0] rfl)
      · skip
        refine lv_aload_n hx hb dX10_linkOf_81 rfl (lv_at hl 0 rfl) ?_
        refine lv_iload hx hb dX10_linkOf_82 (lv_at hl 2 rfl) ?_
        refine lv_iload_n hx hb dX10_linkOf_84 rfl (lv_at hl 1 rfl) ?_
        refine g_V (As := [.int (iI x4), .int (iI x3)]) (rest := []) 28 (c_X10_isJust l D cy ad σ x4 (by omega) x3 (by omega)) hx hb hml hown hts hK hN hI hl.1 gX10_linkOf_X10_isJust rfl hd_X10_isJust rfl rfl ⟨Nat.le_of_ble_eq_true rfl, Nat.le_of_ble_eq_true rfl⟩ ⟨Nat.zero_le _, Nat.zero_le _⟩ (by decide) (cel_28 cy ad _) rfl rfl rfl rfl (Nat.le_of_ble_eq_true rfl) dX10_linkOf_85 (fun H locs hG_12 hI => ?_)
        refine g_if_eq (tgt := 94) hx hb dX10_linkOf_88 (by decide) (by omega) (fun c_13 => ?_) (fun c_13 => ?_)
        · skip
          refine lv_iinc (v := iI (x4 + 1)) (lv' := [(4, .int (iI (x4 + 1))), (0, .ref (ad 28)), (3, .int (iI x3))]) hx hb dX10_linkOf_94 hl (k := 2) rfl (iI_add _ _) (by decide) rfl (fun ls hl => ?_)
          refine lv_goto (tgt := 62) hx hb dX10_linkOf_97 (by decide) ?_
          have e9 : L_X10_linkOf_62 σ a0 a1 (n + 1) x3 x4 = L_X10_linkOf_62 σ a0 a1 n x3 (x4 + 1) := by rw [L_X10_linkOf_62, if_neg c_9, if_neg c_11, if_pos c_13]
          rw [e9]
          exact ih x3 (x4 + 1)  (by omega) (by omega) (by omega) _ _ _ hI (lv_sub hl [1, 2, 0] rfl)
        · skip
          refine lv_iload hx hb dX10_linkOf_91 (lv_at hl 2 rfl) ?_
          have e9 : L_X10_linkOf_62 σ a0 a1 (n + 1) x3 x4 = (x4, σ) := by rw [L_X10_linkOf_62, if_neg c_9, if_neg c_11, if_neg c_13]
          exact g_iret (z := x4) hx hb hr hK hN hlocks hI (by rw [e9]) (by rw [e9]) trivial dX10_linkOf_93
def f_X10_linkOf (σ : Sg) (a0 : Int) (a1 : Int) : Int × Sg := (if a0 < 0 then ((-1), (up2 σ 28 0 0)) else (if a0 < (σ 28 7) then (if a1 = 0 then (σ 31 ((40 + a0).toNat), (up2 σ 28 0 0)) else (if a1 = 2 then (σ 30 ((40 + a0).toNat), (up2 σ 28 0 0)) else (if a1 = 1 then L_X10_linkOf_62 (up2 σ 28 0 0) a0 a1 41 (40 + a0) 0 else (f_X10_lookAt (up2 σ 28 0 0) (40 + a0) a1, (up2 σ 28 0 0))))) else ((-1), (up2 σ 28 0 0))))
theorem hd_X10_linkOf : yX10_linkOf.cls = RX10 ∧ yX10_linkOf.cls ≠ "java/lang/invoke/MethodHandle" ∧ yX10_linkOf.cls ≠ "java/lang/invoke/VarHandle" ∧ (parseMethodDescriptor yX10_linkOf.desc).map (fun d => d.parameters.length) = some 2 := by decide +kernel
set_option maxHeartbeats 4000000 in
set_option maxRecDepth 100000 in
theorem c_X10_linkOf (l : Launch) (D : va_G) (cy : Nat → ClassId) (ad : Nat → Nat) (σ : Sg) (a0 : Int) (ha0 : (-2147483648 ≤ a0 ∧ a0 < 2147483648)) (a1 : Int) (ha1 : (-2147483648 ≤ a1 ∧ a1 < 2147483648)) : CM l D cy ad yX10_linkOf wsX10_linkOf { frames := 1, cells := 0, slots := 0, locals := 40 } [.ref (ad 28), .int (iI a0), .int (iI a1)] σ (some (.int (iI ((f_X10_linkOf σ a0 a1).1)))) ((f_X10_linkOf σ a0 a1).2) (True) := by
  refine CM.of (cc := cX10_linkOf) (maxL := 5) (ret := (some .int)) (by decide) rfl (Nat.le_of_ble_eq_true rfl) ?_
  intro p e s m args below meth c₀ ls X hI hl
  have hl : lv_has ls 5 [(0, .ref (ad 28)), (1, .int (iI a0)), (2, .int (iI a1))] := hl
  obtain ⟨hx, hb, hr, hml, hown, hts, hlocks, hK, hN⟩ := id X
  have hF := hI.2.2.2
  refine lv_aload_n hx hb dX10_linkOf_0 rfl (lv_at hl 0 rfl) ?_
  refine lv_iconst (v := iI 0) hx hb dX10_linkOf_1 rfl ?_
  refine g_put (C := RX10) (T := TX10) (N := 44) (ci := 9) (ty := .int) (z := 0) hx hb hts in_X10_linkOf_X10 tyX10 tyX10_ok nmX10 hown hK hI 28 (by decide) (cel_28 cy ad) rfl 0 (by decide) (by decide +kernel) rfl (by decide +kernel) rfl rfl (Nat.le_of_ble_eq_true rfl) rfl (bw_28_0 (by omega)) dX10_linkOf_2 (fun H locs hI => ?_)
  have hF_1 := hI.2.2.2
  refine lv_iload_n hx hb dX10_linkOf_5 rfl (lv_at hl 1 rfl) ?_
  refine g_if_lt (tgt := 17) hx hb dX10_linkOf_6 (by decide) (by omega) (fun c_2 => ?_) (fun c_2 => ?_)
  · skip
    refine lv_iconst (v := iI (-1)) hx hb dX10_linkOf_17 rfl ?_
    have e9 : f_X10_linkOf σ a0 a1 = ((-1), (up2 σ 28 0 0)) := by rw [f_X10_linkOf, if_pos c_2]
    exact g_iret (z := (-1)) hx hb hr hK hN hlocks hI (by rw [e9]) (by rw [e9]) trivial dX10_linkOf_18
  · skip
    refine lv_iload_n hx hb dX10_linkOf_9 rfl (lv_at hl 1 rfl) ?_
    refine lv_aload_n hx hb dX10_linkOf_10 rfl (lv_at hl 0 rfl) ?_
    refine g_get (C := RX10) (T := TX10) (N := 44) (ci := 9) (v := .int (iI (σ 28 7))) hx hb hts in_X10_linkOf_X10 hown hK hI 28 (by decide) (cel_28 cy ad _) rfl 7 (by decide) (by decide +kernel) (by show some (Value.int (iI ((up2 σ 28 0 0) 28 7))) = _; rw [up2_slot _ _ (by decide)]) dX10_linkOf_11 ?_
    have b_3 := bd_28_7 hF
    refine g_icmp_lt (tgt := 19) hx hb dX10_linkOf_14 (by decide) (by omega) (by omega) (fun c_4 => ?_) (fun c_4 => ?_)
    · skip
      refine lv_bipush (v := iI 40) hx hb dX10_linkOf_19 (iI_bip (by decide)) ?_
      refine lv_iload_n hx hb dX10_linkOf_21 rfl (lv_at hl 1 rfl) ?_
      refine g_iadd hx hb dX10_linkOf_22 ?_
      refine lv_istore_n (lv' := [(3, .int (iI (40 + a0))), (0, .ref (ad 28)), (1, .int (iI a0)), (2, .int (iI a1))]) hx hb dX10_linkOf_23 rfl hl (by decide) rfl (fun ls hl => ?_)
      refine lv_iload_n hx hb dX10_linkOf_24 rfl (lv_at hl 3 rfl) ?_
      refine g_if_ne (tgt := 35) hx hb dX10_linkOf_25 (by decide) (by omega) (fun c_5 => ?_) (fun c_5 => ?_)
      · skip
        refine lv_iload_n hx hb dX10_linkOf_35 rfl (lv_at hl 3 rfl) ?_
        refine lv_iconst (v := iI 2) hx hb dX10_linkOf_36 rfl ?_
        refine g_icmp_ne (tgt := 47) hx hb dX10_linkOf_37 (by decide) (by omega) (by omega) (fun c_6 => ?_) (fun c_6 => ?_)
        · skip
          refine lv_iload_n hx hb dX10_linkOf_47 rfl (lv_at hl 3 rfl) ?_
          refine lv_iconst (v := iI 1) hx hb dX10_linkOf_48 rfl ?_
          refine g_icmp_eq (tgt := 59) hx hb dX10_linkOf_49 (by decide) (by omega) (by omega) (fun c_7 => ?_) (fun c_7 => ?_)
          · skip
            refine lv_iconst (v := iI 0) hx hb dX10_linkOf_59 rfl ?_
            refine lv_istore (lv' := [(4, .int (iI 0)), (3, .int (iI (40 + a0))), (0, .ref (ad 28)), (1, .int (iI a0)), (2, .int (iI a1))]) hx hb dX10_linkOf_60 hl (by decide) rfl (fun ls hl => ?_)
            have e9 : f_X10_linkOf σ a0 a1 = L_X10_linkOf_62 (up2 σ 28 0 0) a0 a1 41 (40 + a0) 0 := by rw [f_X10_linkOf, if_neg c_2, if_pos c_4, if_neg c_5, if_neg c_6, if_pos c_7]
            rw [e9]
            exact w_L_X10_linkOf_62 X (up2 σ 28 0 0) a0 ha0 a1 ha1  41 (40 + a0) 0  (by omega) (by omega) (by omega) _ _ _ hI (lv_sub hl [2, 1, 0] rfl)
          · skip
            refine lv_aload_n hx hb dX10_linkOf_52 rfl (lv_at hl 1 rfl) ?_
            refine lv_iload_n hx hb dX10_linkOf_53 rfl (lv_at hl 0 rfl) ?_
            refine lv_iload_n hx hb dX10_linkOf_54 rfl (lv_at hl 3 rfl) ?_
            refine g_V (As := [.int (iI (40 + a0)), .int (iI a1)]) (rest := []) 28 (c_X10_lookAt l D cy ad (up2 σ 28 0 0) (40 + a0) (by omega) a1 (by omega)) hx hb hml hown hts hK hN hI hl.1 gX10_linkOf_X10_lookAt rfl hd_X10_lookAt rfl rfl ⟨Nat.le_of_ble_eq_true rfl, Nat.le_of_ble_eq_true rfl⟩ ⟨Nat.zero_le _, Nat.zero_le _⟩ (by decide) (cel_28 cy ad _) rfl rfl rfl rfl (Nat.le_of_ble_eq_true rfl) dX10_linkOf_55 (fun H locs hG_14 hI => ?_)
            have e9 : f_X10_linkOf σ a0 a1 = (f_X10_lookAt (up2 σ 28 0 0) (40 + a0) a1, (up2 σ 28 0 0)) := by rw [f_X10_linkOf, if_neg c_2, if_pos c_4, if_neg c_5, if_neg c_6, if_neg c_7]
            exact g_iret (z := f_X10_lookAt (up2 σ 28 0 0) (40 + a0) a1) hx hb hr hK hN hlocks hI (by rw [e9]) (by rw [e9]) trivial dX10_linkOf_58
        · skip
          refine lv_aload_n hx hb dX10_linkOf_40 rfl (lv_at hl 1 rfl) ?_
          refine g_get (C := RX10) (T := TX10) (N := 44) (ci := 9) (v := .ref (ad 30)) hx hb hts in_X10_linkOf_X10 hown hK hI 28 (by decide) (cel_28 cy ad _) rfl 2 (by decide) (by decide +kernel) rfl dX10_linkOf_41 ?_
          refine lv_iload_n hx hb dX10_linkOf_44 rfl (lv_at hl 0 rfl) ?_
          refine g_iald (v := σ 30 ((40 + a0).toNat)) hx hb hK hI 30 (by decide) (cel_30 cy ad) (by omega) (by decide) (by rw [up2_cell _ _ _ (by decide)]) dX10_linkOf_45 ?_
          have b_15 := bd_30 hF ((40 + a0).toNat)
          have e9 : f_X10_linkOf σ a0 a1 = (σ 30 ((40 + a0).toNat), (up2 σ 28 0 0)) := by rw [f_X10_linkOf, if_neg c_2, if_pos c_4, if_neg c_5, if_pos c_6]
          exact g_iret (z := σ 30 ((40 + a0).toNat)) hx hb hr hK hN hlocks hI (by rw [e9]) (by rw [e9]) trivial dX10_linkOf_46
      · skip
        refine lv_aload_n hx hb dX10_linkOf_28 rfl (lv_at hl 1 rfl) ?_
        refine g_get (C := RX10) (T := TX10) (N := 44) (ci := 9) (v := .ref (ad 31)) hx hb hts in_X10_linkOf_X10 hown hK hI 28 (by decide) (cel_28 cy ad _) rfl 3 (by decide) (by decide +kernel) rfl dX10_linkOf_29 ?_
        refine lv_iload_n hx hb dX10_linkOf_32 rfl (lv_at hl 0 rfl) ?_
        refine g_iald (v := σ 31 ((40 + a0).toNat)) hx hb hK hI 31 (by decide) (cel_31 cy ad) (by omega) (by decide) (by rw [up2_cell _ _ _ (by decide)]) dX10_linkOf_33 ?_
        have b_16 := bd_31 hF ((40 + a0).toNat)
        have e9 : f_X10_linkOf σ a0 a1 = (σ 31 ((40 + a0).toNat), (up2 σ 28 0 0)) := by rw [f_X10_linkOf, if_neg c_2, if_pos c_4, if_pos c_5]
        exact g_iret (z := σ 31 ((40 + a0).toNat)) hx hb hr hK hN hlocks hI (by rw [e9]) (by rw [e9]) trivial dX10_linkOf_34
    · skip
      refine lv_iconst (v := iI (-1)) hx hb dX10_linkOf_17 rfl ?_
      have e9 : f_X10_linkOf σ a0 a1 = ((-1), (up2 σ 28 0 0)) := by rw [f_X10_linkOf, if_neg c_2, if_neg c_4]
      exact g_iret (z := (-1)) hx hb hr hK hN hlocks hI (by rw [e9]) (by rw [e9]) trivial dX10_linkOf_18
theorem in_X10_of_X10 : ∀ w ∈ u_ws RX10 TX10 44, w ∈ wsX10_of := by decide +kernel
def f_X10_of (σ : Sg) (a0 : Int) (a1 : Int) : Int × Sg := (if (f_X10_isFile (up2 σ 28 0 0) a0) = 0 then (0, (up2 (up2 σ 28 0 0) 28 0 1)) else (if (f_X10_within a1 0 2) = 0 then (if a1 < 10 then (0, (up2 (up2 σ 28 0 0) 28 0 1)) else (if (10 + (σ 30 a0.toNat)) ≤ a1 then (0, (up2 (up2 σ 28 0 0) 28 0 1)) else (if a1 = 0 then (σ 31 a0.toNat, (up2 σ 28 0 0)) else (if a1 = 1 then (σ 30 a0.toNat, (up2 σ 28 0 0)) else (if a1 = 2 then (if (σ 29 ((12 * a0).toNat)) = 126 then (1, (up2 σ 28 0 0)) else (0, (up2 σ 28 0 0))) else (f_X10_lookAt (up2 σ 28 0 0) a0 a1, (up2 σ 28 0 0))))))) else (if a1 = 0 then (σ 31 a0.toNat, (up2 σ 28 0 0)) else (if a1 = 1 then (σ 30 a0.toNat, (up2 σ 28 0 0)) else (if a1 = 2 then (if (σ 29 ((12 * a0).toNat)) = 126 then (1, (up2 σ 28 0 0)) else (0, (up2 σ 28 0 0))) else (f_X10_lookAt (up2 σ 28 0 0) a0 a1, (up2 σ 28 0 0)))))))
theorem hd_X10_of : yX10_of.cls = RX10 ∧ yX10_of.cls ≠ "java/lang/invoke/MethodHandle" ∧ yX10_of.cls ≠ "java/lang/invoke/VarHandle" ∧ (parseMethodDescriptor yX10_of.desc).map (fun d => d.parameters.length) = some 2 := by decide +kernel
set_option maxHeartbeats 4000000 in
set_option maxRecDepth 100000 in
theorem c_X10_of (l : Launch) (D : va_G) (cy : Nat → ClassId) (ad : Nat → Nat) (σ : Sg) (a0 : Int) (ha0 : (-2147483648 ≤ a0 ∧ a0 < 2147483648)) (a1 : Int) (ha1 : (-2147483648 ≤ a1 ∧ a1 < 2147483648)) : CM l D cy ad yX10_of wsX10_of { frames := 1, cells := 0, slots := 0, locals := 40 } [.ref (ad 28), .int (iI a0), .int (iI a1)] σ (some (.int (iI ((f_X10_of σ a0 a1).1)))) ((f_X10_of σ a0 a1).2) (True) := by
  refine CM.of (cc := cX10_of) (maxL := 4) (ret := (some .int)) (by decide) rfl (Nat.le_of_ble_eq_true rfl) ?_
  intro p e s m args below meth c₀ ls X hI hl
  have hl : lv_has ls 4 [(0, .ref (ad 28)), (1, .int (iI a0)), (2, .int (iI a1))] := hl
  obtain ⟨hx, hb, hr, hml, hown, hts, hlocks, hK, hN⟩ := id X
  have hF := hI.2.2.2
  refine lv_aload_n hx hb dX10_of_0 rfl (lv_at hl 0 rfl) ?_
  refine lv_iconst (v := iI 0) hx hb dX10_of_1 rfl ?_
  refine g_put (C := RX10) (T := TX10) (N := 44) (ci := 9) (ty := .int) (z := 0) hx hb hts in_X10_of_X10 tyX10 tyX10_ok nmX10 hown hK hI 28 (by decide) (cel_28 cy ad) rfl 0 (by decide) (by decide +kernel) rfl (by decide +kernel) rfl rfl (Nat.le_of_ble_eq_true rfl) rfl (bw_28_0 (by omega)) dX10_of_2 (fun H locs hI => ?_)
  have hF_1 := hI.2.2.2
  refine lv_aload_n hx hb dX10_of_5 rfl (lv_at hl 0 rfl) ?_
  refine lv_iload_n hx hb dX10_of_6 rfl (lv_at hl 1 rfl) ?_
  refine g_V (As := [.int (iI a0)]) (rest := []) 28 (c_X10_isFile l D cy ad (up2 σ 28 0 0) a0 (by omega)) hx hb hml hown hts hK hN hI hl.1 gX10_of_X10_isFile rfl hd_X10_isFile rfl rfl ⟨Nat.le_of_ble_eq_true rfl, Nat.le_of_ble_eq_true rfl⟩ ⟨Nat.zero_le _, Nat.zero_le _⟩ (by decide) (cel_28 cy ad _) rfl rfl rfl rfl (Nat.le_of_ble_eq_true rfl) dX10_of_7 (fun H locs hG_2 hI => ?_)
  refine g_if_eq (tgt := 45) hx hb dX10_of_10 (by decide) (by omega) (fun c_3 => ?_) (fun c_3 => ?_)
  · skip
    refine lv_iconst (v := iI 0) hx hb dX10_of_45 rfl ?_
    refine lv_istore_n (lv' := [(3, .int (iI 0)), (0, .ref (ad 28)), (1, .int (iI a0)), (2, .int (iI a1))]) hx hb dX10_of_46 rfl hl (by decide) rfl (fun ls hl => ?_)
    refine lv_iload_n hx hb dX10_of_47 rfl (lv_at hl 0 rfl) ?_
    refine g_if_ne (tgt := 58) hx hb dX10_of_48 (by decide) (by omega) (fun c_4 => ?_) (fun c_4 => ?_)
    · exact absurd (by decide) c_4
    · skip
      refine lv_aload_n hx hb dX10_of_51 rfl (lv_at hl 1 rfl) ?_
      refine lv_iconst (v := iI 1) hx hb dX10_of_52 rfl ?_
      refine g_put (C := RX10) (T := TX10) (N := 44) (ci := 9) (ty := .int) (z := 1) hx hb hts in_X10_of_X10 tyX10 tyX10_ok nmX10 hown hK hI 28 (by decide) (cel_28 cy ad) rfl 0 (by decide) (by decide +kernel) rfl (by decide +kernel) rfl rfl (Nat.le_of_ble_eq_true rfl) rfl (bw_28_0 (by omega)) dX10_of_53 (fun H locs hI => ?_)
      have hF_5 := hI.2.2.2
      refine lv_iconst (v := iI 0) hx hb dX10_of_56 rfl ?_
      have e9 : f_X10_of σ a0 a1 = (0, (up2 (up2 σ 28 0 0) 28 0 1)) := by rw [f_X10_of, if_pos c_3]
      exact g_iret (z := 0) hx hb hr hK hN hlocks hI (by rw [e9]) (by rw [e9]) trivial dX10_of_57
  · skip
    refine lv_iload_n hx hb dX10_of_13 rfl (lv_at hl 2 rfl) ?_
    refine lv_iconst (v := iI 0) hx hb dX10_of_14 rfl ?_
    refine lv_iconst (v := iI 2) hx hb dX10_of_15 rfl ?_
    refine g_S (As := [.int (iI a1), .int (iI 0), .int (iI 2)]) (rest := []) (c_X10_within l D cy ad (up2 σ 28 0 0) a1 (by omega) 0 (by omega) 2 (by omega)) hx hb hml hown hts hK hN hI hl.1 gX10_of_X10_within rfl hd_X10_within rfl rfl ⟨Nat.le_of_ble_eq_true rfl, Nat.le_of_ble_eq_true rfl⟩ ⟨Nat.zero_le _, Nat.zero_le _⟩ rfl rfl (Nat.le_of_ble_eq_true rfl) dX10_of_16 (fun H locs hG_6 hI => ?_)
    refine g_if_ne (tgt := 41) hx hb dX10_of_19 (by decide) (by omega) (fun c_7 => ?_) (fun c_7 => ?_)
    · skip
      refine lv_iconst (v := iI 1) hx hb dX10_of_41 rfl ?_
      refine lv_goto (tgt := 46) hx hb dX10_of_42 (by decide) ?_
      refine lv_istore_n (lv' := [(3, .int (iI 1)), (0, .ref (ad 28)), (1, .int (iI a0)), (2, .int (iI a1))]) hx hb dX10_of_46 rfl hl (by decide) rfl (fun ls hl => ?_)
      refine lv_iload_n hx hb dX10_of_47 rfl (lv_at hl 0 rfl) ?_
      refine g_if_ne (tgt := 58) hx hb dX10_of_48 (by decide) (by omega) (fun c_8 => ?_) (fun c_8 => ?_)
      · skip
        refine lv_iload_n hx hb dX10_of_58 rfl (lv_at hl 3 rfl) ?_
        refine g_if_ne (tgt := 71) hx hb dX10_of_59 (by decide) (by omega) (fun c_9 => ?_) (fun c_9 => ?_)
        · skip
          refine lv_iload_n hx hb dX10_of_71 rfl (lv_at hl 3 rfl) ?_
          refine lv_iconst (v := iI 1) hx hb dX10_of_72 rfl ?_
          refine g_icmp_ne (tgt := 85) hx hb dX10_of_73 (by decide) (by omega) (by omega) (fun c_10 => ?_) (fun c_10 => ?_)
          · skip
            refine lv_iload_n hx hb dX10_of_85 rfl (lv_at hl 3 rfl) ?_
            refine lv_iconst (v := iI 2) hx hb dX10_of_86 rfl ?_
            refine g_icmp_ne (tgt := 112) hx hb dX10_of_87 (by decide) (by omega) (by omega) (fun c_11 => ?_) (fun c_11 => ?_)
            · skip
              refine lv_aload_n hx hb dX10_of_112 rfl (lv_at hl 1 rfl) ?_
              refine lv_iload_n hx hb dX10_of_113 rfl (lv_at hl 2 rfl) ?_
              refine lv_iload_n hx hb dX10_of_114 rfl (lv_at hl 3 rfl) ?_
              refine g_V (As := [.int (iI a0), .int (iI a1)]) (rest := []) 28 (c_X10_lookAt l D cy ad (up2 σ 28 0 0) a0 (by omega) a1 (by omega)) hx hb hml hown hts hK hN hI hl.1 gX10_of_X10_lookAt rfl hd_X10_lookAt rfl rfl ⟨Nat.le_of_ble_eq_true rfl, Nat.le_of_ble_eq_true rfl⟩ ⟨Nat.zero_le _, Nat.zero_le _⟩ (by decide) (cel_28 cy ad _) rfl rfl rfl rfl (Nat.le_of_ble_eq_true rfl) dX10_of_115 (fun H locs hG_12 hI => ?_)
              have e9 : f_X10_of σ a0 a1 = (f_X10_lookAt (up2 σ 28 0 0) a0 a1, (up2 σ 28 0 0)) := by rw [f_X10_of, if_neg c_3, if_neg c_7, if_neg c_9, if_neg c_10, if_neg c_11]
              exact g_iret (z := f_X10_lookAt (up2 σ 28 0 0) a0 a1) hx hb hr hK hN hlocks hI (by rw [e9]) (by rw [e9]) trivial dX10_of_118
            · skip
              refine lv_aload_n hx hb dX10_of_90 rfl (lv_at hl 1 rfl) ?_
              refine g_get (C := RX10) (T := TX10) (N := 44) (ci := 9) (v := .ref (ad 29)) hx hb hts in_X10_of_X10 hown hK hI 28 (by decide) (cel_28 cy ad _) rfl 1 (by decide) (by decide +kernel) rfl dX10_of_91 ?_
              refine lv_bipush (v := iI 12) hx hb dX10_of_94 (iI_bip (by decide)) ?_
              refine lv_iload_n hx hb dX10_of_96 rfl (lv_at hl 2 rfl) ?_
              refine g_imul hx hb dX10_of_97 ?_
              refine g_bald (v := σ 29 ((12 * a0).toNat)) hx hb hK hI 29 (by decide) (cel_29 cy ad) (by omega) (by decide) (by rw [up2_cell _ _ _ (by decide)]) dX10_of_98 ?_
              have b_13 := bd_29 hF ((12 * a0).toNat)
              refine lv_bipush (v := iI 126) hx hb dX10_of_99 (iI_bip (by decide)) ?_
              refine g_icmp_ne (tgt := 108) hx hb dX10_of_101 (by decide) (by omega) (by omega) (fun c_14 => ?_) (fun c_14 => ?_)
              · skip
                refine lv_iconst (v := iI 0) hx hb dX10_of_108 rfl ?_
                refine lv_goto (tgt := 118) hx hb dX10_of_109 (by decide) ?_
                have e9 : f_X10_of σ a0 a1 = (0, (up2 σ 28 0 0)) := by rw [f_X10_of, if_neg c_3, if_neg c_7, if_neg c_9, if_neg c_10, if_pos c_11, if_neg c_14]
                exact g_iret (z := 0) hx hb hr hK hN hlocks hI (by rw [e9]) (by rw [e9]) trivial dX10_of_118
              · skip
                refine lv_iconst (v := iI 1) hx hb dX10_of_104 rfl ?_
                refine lv_goto (tgt := 118) hx hb dX10_of_105 (by decide) ?_
                have e9 : f_X10_of σ a0 a1 = (1, (up2 σ 28 0 0)) := by rw [f_X10_of, if_neg c_3, if_neg c_7, if_neg c_9, if_neg c_10, if_pos c_11, if_pos c_14]
                exact g_iret (z := 1) hx hb hr hK hN hlocks hI (by rw [e9]) (by rw [e9]) trivial dX10_of_118
          · skip
            refine lv_aload_n hx hb dX10_of_76 rfl (lv_at hl 1 rfl) ?_
            refine g_get (C := RX10) (T := TX10) (N := 44) (ci := 9) (v := .ref (ad 30)) hx hb hts in_X10_of_X10 hown hK hI 28 (by decide) (cel_28 cy ad _) rfl 2 (by decide) (by decide +kernel) rfl dX10_of_77 ?_
            refine lv_iload_n hx hb dX10_of_80 rfl (lv_at hl 2 rfl) ?_
            refine g_iald (v := σ 30 a0.toNat) hx hb hK hI 30 (by decide) (cel_30 cy ad) (by omega) (by decide) (by rw [up2_cell _ _ _ (by decide)]) dX10_of_81 ?_
            have b_15 := bd_30 hF a0.toNat
            refine lv_goto (tgt := 118) hx hb dX10_of_82 (by decide) ?_
            have e9 : f_X10_of σ a0 a1 = (σ 30 a0.toNat, (up2 σ 28 0 0)) := by rw [f_X10_of, if_neg c_3, if_neg c_7, if_neg c_9, if_pos c_10]
            exact g_iret (z := σ 30 a0.toNat) hx hb hr hK hN hlocks hI (by rw [e9]) (by rw [e9]) trivial dX10_of_118
        · skip
          refine lv_aload_n hx hb dX10_of_62 rfl (lv_at hl 1 rfl) ?_
          refine g_get (C := RX10) (T := TX10) (N := 44) (ci := 9) (v := .ref (ad 31)) hx hb hts in_X10_of_X10 hown hK hI 28 (by decide) (cel_28 cy ad _) rfl 3 (by decide) (by decide +kernel) rfl dX10_of_63 ?_
          refine lv_iload_n hx hb dX10_of_66 rfl (lv_at hl 2 rfl) ?_
          refine g_iald (v := σ 31 a0.toNat) hx hb hK hI 31 (by decide) (cel_31 cy ad) (by omega) (by decide) (by rw [up2_cell _ _ _ (by decide)]) dX10_of_67 ?_
          have b_16 := bd_31 hF a0.toNat
          refine lv_goto (tgt := 118) hx hb dX10_of_68 (by decide) ?_
          have e9 : f_X10_of σ a0 a1 = (σ 31 a0.toNat, (up2 σ 28 0 0)) := by rw [f_X10_of, if_neg c_3, if_neg c_7, if_pos c_9]
          exact g_iret (z := σ 31 a0.toNat) hx hb hr hK hN hlocks hI (by rw [e9]) (by rw [e9]) trivial dX10_of_118
      · exact absurd c_8 (by decide)
    · skip
      refine lv_iload_n hx hb dX10_of_22 rfl (lv_at hl 2 rfl) ?_
      refine lv_bipush (v := iI 10) hx hb dX10_of_23 (iI_bip (by decide)) ?_
      refine g_icmp_lt (tgt := 45) hx hb dX10_of_25 (by decide) (by omega) (by omega) (fun c_17 => ?_) (fun c_17 => ?_)
      · skip
        refine lv_iconst (v := iI 0) hx hb dX10_of_45 rfl ?_
        refine lv_istore_n (lv' := [(3, .int (iI 0)), (0, .ref (ad 28)), (1, .int (iI a0)), (2, .int (iI a1))]) hx hb dX10_of_46 rfl hl (by decide) rfl (fun ls hl => ?_)
        refine lv_iload_n hx hb dX10_of_47 rfl (lv_at hl 0 rfl) ?_
        refine g_if_ne (tgt := 58) hx hb dX10_of_48 (by decide) (by omega) (fun c_18 => ?_) (fun c_18 => ?_)
        · exact absurd (by decide) c_18
        · skip
          refine lv_aload_n hx hb dX10_of_51 rfl (lv_at hl 1 rfl) ?_
          refine lv_iconst (v := iI 1) hx hb dX10_of_52 rfl ?_
          refine g_put (C := RX10) (T := TX10) (N := 44) (ci := 9) (ty := .int) (z := 1) hx hb hts in_X10_of_X10 tyX10 tyX10_ok nmX10 hown hK hI 28 (by decide) (cel_28 cy ad) rfl 0 (by decide) (by decide +kernel) rfl (by decide +kernel) rfl rfl (Nat.le_of_ble_eq_true rfl) rfl (bw_28_0 (by omega)) dX10_of_53 (fun H locs hI => ?_)
          have hF_19 := hI.2.2.2
          refine lv_iconst (v := iI 0) hx hb dX10_of_56 rfl ?_
          have e9 : f_X10_of σ a0 a1 = (0, (up2 (up2 σ 28 0 0) 28 0 1)) := by rw [f_X10_of, if_neg c_3, if_pos c_7, if_pos c_17]
          exact g_iret (z := 0) hx hb hr hK hN hlocks hI (by rw [e9]) (by rw [e9]) trivial dX10_of_57
      · skip
        refine lv_iload_n hx hb dX10_of_28 rfl (lv_at hl 2 rfl) ?_
        refine lv_bipush (v := iI 10) hx hb dX10_of_29 (iI_bip (by decide)) ?_
        refine lv_aload_n hx hb dX10_of_31 rfl (lv_at hl 0 rfl) ?_
        refine g_get (C := RX10) (T := TX10) (N := 44) (ci := 9) (v := .ref (ad 30)) hx hb hts in_X10_of_X10 hown hK hI 28 (by decide) (cel_28 cy ad _) rfl 2 (by decide) (by decide +kernel) rfl dX10_of_32 ?_
        refine lv_iload_n hx hb dX10_of_35 rfl (lv_at hl 1 rfl) ?_
        refine g_iald (v := σ 30 a0.toNat) hx hb hK hI 30 (by decide) (cel_30 cy ad) (by omega) (by decide) (by rw [up2_cell _ _ _ (by decide)]) dX10_of_36 ?_
        have b_20 := bd_30 hF a0.toNat
        refine g_iadd hx hb dX10_of_37 ?_
        refine g_icmp_ge (tgt := 45) hx hb dX10_of_38 (by decide) (by omega) (by omega) (fun c_21 => ?_) (fun c_21 => ?_)
        · skip
          refine lv_iconst (v := iI 0) hx hb dX10_of_45 rfl ?_
          refine lv_istore_n (lv' := [(3, .int (iI 0)), (0, .ref (ad 28)), (1, .int (iI a0)), (2, .int (iI a1))]) hx hb dX10_of_46 rfl hl (by decide) rfl (fun ls hl => ?_)
          refine lv_iload_n hx hb dX10_of_47 rfl (lv_at hl 0 rfl) ?_
          refine g_if_ne (tgt := 58) hx hb dX10_of_48 (by decide) (by omega) (fun c_22 => ?_) (fun c_22 => ?_)
          · exact absurd (by decide) c_22
          · skip
            refine lv_aload_n hx hb dX10_of_51 rfl (lv_at hl 1 rfl) ?_
            refine lv_iconst (v := iI 1) hx hb dX10_of_52 rfl ?_
            refine g_put (C := RX10) (T := TX10) (N := 44) (ci := 9) (ty := .int) (z := 1) hx hb hts in_X10_of_X10 tyX10 tyX10_ok nmX10 hown hK hI 28 (by decide) (cel_28 cy ad) rfl 0 (by decide) (by decide +kernel) rfl (by decide +kernel) rfl rfl (Nat.le_of_ble_eq_true rfl) rfl (bw_28_0 (by omega)) dX10_of_53 (fun H locs hI => ?_)
            have hF_23 := hI.2.2.2
            refine lv_iconst (v := iI 0) hx hb dX10_of_56 rfl ?_
            have e9 : f_X10_of σ a0 a1 = (0, (up2 (up2 σ 28 0 0) 28 0 1)) := by rw [f_X10_of, if_neg c_3, if_pos c_7, if_neg c_17, if_pos c_21]
            exact g_iret (z := 0) hx hb hr hK hN hlocks hI (by rw [e9]) (by rw [e9]) trivial dX10_of_57
        · skip
          refine lv_iconst (v := iI 1) hx hb dX10_of_41 rfl ?_
          refine lv_goto (tgt := 46) hx hb dX10_of_42 (by decide) ?_
          refine lv_istore_n (lv' := [(3, .int (iI 1)), (0, .ref (ad 28)), (1, .int (iI a0)), (2, .int (iI a1))]) hx hb dX10_of_46 rfl hl (by decide) rfl (fun ls hl => ?_)
          refine lv_iload_n hx hb dX10_of_47 rfl (lv_at hl 0 rfl) ?_
          refine g_if_ne (tgt := 58) hx hb dX10_of_48 (by decide) (by omega) (fun c_24 => ?_) (fun c_24 => ?_)
          · skip
            refine lv_iload_n hx hb dX10_of_58 rfl (lv_at hl 3 rfl) ?_
            refine g_if_ne (tgt := 71) hx hb dX10_of_59 (by decide) (by omega) (fun c_25 => ?_) (fun c_25 => ?_)
            · skip
              refine lv_iload_n hx hb dX10_of_71 rfl (lv_at hl 3 rfl) ?_
              refine lv_iconst (v := iI 1) hx hb dX10_of_72 rfl ?_
              refine g_icmp_ne (tgt := 85) hx hb dX10_of_73 (by decide) (by omega) (by omega) (fun c_26 => ?_) (fun c_26 => ?_)
              · skip
                refine lv_iload_n hx hb dX10_of_85 rfl (lv_at hl 3 rfl) ?_
                refine lv_iconst (v := iI 2) hx hb dX10_of_86 rfl ?_
                refine g_icmp_ne (tgt := 112) hx hb dX10_of_87 (by decide) (by omega) (by omega) (fun c_27 => ?_) (fun c_27 => ?_)
                · skip
                  refine lv_aload_n hx hb dX10_of_112 rfl (lv_at hl 1 rfl) ?_
                  refine lv_iload_n hx hb dX10_of_113 rfl (lv_at hl 2 rfl) ?_
                  refine lv_iload_n hx hb dX10_of_114 rfl (lv_at hl 3 rfl) ?_
                  refine g_V (As := [.int (iI a0), .int (iI a1)]) (rest := []) 28 (c_X10_lookAt l D cy ad (up2 σ 28 0 0) a0 (by omega) a1 (by omega)) hx hb hml hown hts hK hN hI hl.1 gX10_of_X10_lookAt rfl hd_X10_lookAt rfl rfl ⟨Nat.le_of_ble_eq_true rfl, Nat.le_of_ble_eq_true rfl⟩ ⟨Nat.zero_le _, Nat.zero_le _⟩ (by decide) (cel_28 cy ad _) rfl rfl rfl rfl (Nat.le_of_ble_eq_true rfl) dX10_of_115 (fun H locs hG_28 hI => ?_)
                  have e9 : f_X10_of σ a0 a1 = (f_X10_lookAt (up2 σ 28 0 0) a0 a1, (up2 σ 28 0 0)) := by rw [f_X10_of, if_neg c_3, if_pos c_7, if_neg c_17, if_neg c_21, if_neg c_25, if_neg c_26, if_neg c_27]
                  exact g_iret (z := f_X10_lookAt (up2 σ 28 0 0) a0 a1) hx hb hr hK hN hlocks hI (by rw [e9]) (by rw [e9]) trivial dX10_of_118
                · skip
                  refine lv_aload_n hx hb dX10_of_90 rfl (lv_at hl 1 rfl) ?_
                  refine g_get (C := RX10) (T := TX10) (N := 44) (ci := 9) (v := .ref (ad 29)) hx hb hts in_X10_of_X10 hown hK hI 28 (by decide) (cel_28 cy ad _) rfl 1 (by decide) (by decide +kernel) rfl dX10_of_91 ?_
                  refine lv_bipush (v := iI 12) hx hb dX10_of_94 (iI_bip (by decide)) ?_
                  refine lv_iload_n hx hb dX10_of_96 rfl (lv_at hl 2 rfl) ?_
                  refine g_imul hx hb dX10_of_97 ?_
                  refine g_bald (v := σ 29 ((12 * a0).toNat)) hx hb hK hI 29 (by decide) (cel_29 cy ad) (by omega) (by decide) (by rw [up2_cell _ _ _ (by decide)]) dX10_of_98 ?_
                  have b_29 := bd_29 hF ((12 * a0).toNat)
                  refine lv_bipush (v := iI 126) hx hb dX10_of_99 (iI_bip (by decide)) ?_
                  refine g_icmp_ne (tgt := 108) hx hb dX10_of_101 (by decide) (by omega) (by omega) (fun c_30 => ?_) (fun c_30 => ?_)
                  · skip
                    refine lv_iconst (v := iI 0) hx hb dX10_of_108 rfl ?_
                    refine lv_goto (tgt := 118) hx hb dX10_of_109 (by decide) ?_
                    have e9 : f_X10_of σ a0 a1 = (0, (up2 σ 28 0 0)) := by rw [f_X10_of, if_neg c_3, if_pos c_7, if_neg c_17, if_neg c_21, if_neg c_25, if_neg c_26, if_pos c_27, if_neg c_30]
                    exact g_iret (z := 0) hx hb hr hK hN hlocks hI (by rw [e9]) (by rw [e9]) trivial dX10_of_118
                  · skip
                    refine lv_iconst (v := iI 1) hx hb dX10_of_104 rfl ?_
                    refine lv_goto (tgt := 118) hx hb dX10_of_105 (by decide) ?_
                    have e9 : f_X10_of σ a0 a1 = (1, (up2 σ 28 0 0)) := by rw [f_X10_of, if_neg c_3, if_pos c_7, if_neg c_17, if_neg c_21, if_neg c_25, if_neg c_26, if_pos c_27, if_pos c_30]
                    exact g_iret (z := 1) hx hb hr hK hN hlocks hI (by rw [e9]) (by rw [e9]) trivial dX10_of_118
              · skip
                refine lv_aload_n hx hb dX10_of_76 rfl (lv_at hl 1 rfl) ?_
                refine g_get (C := RX10) (T := TX10) (N := 44) (ci := 9) (v := .ref (ad 30)) hx hb hts in_X10_of_X10 hown hK hI 28 (by decide) (cel_28 cy ad _) rfl 2 (by decide) (by decide +kernel) rfl dX10_of_77 ?_
                refine lv_iload_n hx hb dX10_of_80 rfl (lv_at hl 2 rfl) ?_
                refine g_iald (v := σ 30 a0.toNat) hx hb hK hI 30 (by decide) (cel_30 cy ad) (by omega) (by decide) (by rw [up2_cell _ _ _ (by decide)]) dX10_of_81 ?_
                have b_31 := bd_30 hF a0.toNat
                refine lv_goto (tgt := 118) hx hb dX10_of_82 (by decide) ?_
                have e9 : f_X10_of σ a0 a1 = (σ 30 a0.toNat, (up2 σ 28 0 0)) := by rw [f_X10_of, if_neg c_3, if_pos c_7, if_neg c_17, if_neg c_21, if_neg c_25, if_pos c_26]
                exact g_iret (z := σ 30 a0.toNat) hx hb hr hK hN hlocks hI (by rw [e9]) (by rw [e9]) trivial dX10_of_118
            · skip
              refine lv_aload_n hx hb dX10_of_62 rfl (lv_at hl 1 rfl) ?_
              refine g_get (C := RX10) (T := TX10) (N := 44) (ci := 9) (v := .ref (ad 31)) hx hb hts in_X10_of_X10 hown hK hI 28 (by decide) (cel_28 cy ad _) rfl 3 (by decide) (by decide +kernel) rfl dX10_of_63 ?_
              refine lv_iload_n hx hb dX10_of_66 rfl (lv_at hl 2 rfl) ?_
              refine g_iald (v := σ 31 a0.toNat) hx hb hK hI 31 (by decide) (cel_31 cy ad) (by omega) (by decide) (by rw [up2_cell _ _ _ (by decide)]) dX10_of_67 ?_
              have b_32 := bd_31 hF a0.toNat
              refine lv_goto (tgt := 118) hx hb dX10_of_68 (by decide) ?_
              have e9 : f_X10_of σ a0 a1 = (σ 31 a0.toNat, (up2 σ 28 0 0)) := by rw [f_X10_of, if_neg c_3, if_pos c_7, if_neg c_17, if_neg c_21, if_pos c_25]
              exact g_iret (z := σ 31 a0.toNat) hx hb hr hK hN hlocks hI (by rw [e9]) (by rw [e9]) trivial dX10_of_118
          · exact absurd c_24 (by decide)
theorem in_X10_spared_X10 : ∀ w ∈ u_ws RX10 TX10 44, w ∈ wsX10_spared := by decide +kernel
def L_X10_spared_4 (σ : Sg) : Nat → Int → Int → Int
  | 0, x1, x2 => (x1)
  | n + 1, x1, x2 => (if (σ 28 5) ≤ x2 then x1 else (if (σ 32 x2.toNat) = 0 then L_X10_spared_4 σ n x1 (x2 + 1) else (if (σ 29 ((12 * x2).toNat)) = 126 then L_X10_spared_4 σ n (x1 + 1) (x2 + 1) else L_X10_spared_4 σ n x1 (x2 + 1))))
set_option maxHeartbeats 4000000 in
set_option maxRecDepth 100000 in
theorem w_L_X10_spared_4 {p : Program} {l : Launch} {e : Env} {s : State} {m : MethodId} {args : Array Value} {below : List Frame} {meth : Method} {c₀ : Code} {D : va_G} {cy : Nat → ClassId} {ad : Nat → Nat} {Q : State → Prop} (X : MX p s m args meth c₀ cX10_spared 3 RX10 (some .int) wsX10_spared D cy) (σ : Sg) : ∀ (n : Nat) (x1 : Int) (x2 : Int) (hx1 : (0 : Int) ≤ x1 ∧ x1 ≤ 40) (hx2 : (0 : Int) ≤ x2 ∧ x2 ≤ 40) (hp0 : x1 ≤ x2) (hmu : 40 - x2 < (n : Int)) (H : Heap) (locs : List Loc) (ls : Array Slot) (hI : HI D cy ad s σ H locs) (hl : lv_has ls 3 [(0, .ref (ad 28)), (1, .int (iI x1)), (2, .int (iI x2))])  (hk : ∀ (H1 : Heap) (locs1 : List Loc) (ls1 : Array Slot), (0 ≤ (L_X10_spared_4 σ n x1 x2) ∧ (L_X10_spared_4 σ n x1 x2) ≤ 40) → HI D cy ad s σ H1 locs1 → lv_has ls1 3 [(1, .int (iI (L_X10_spared_4 σ n x1 x2)))] → W p l e { frames := 0, cells := 0, slots := 0, locals := 0 } s m args below meth c₀ H1 locs1 0 0 Q (F0 m 44 ls1 [])), W p l e { frames := 0, cells := 0, slots := 0, locals := 0 } s m args below meth c₀ H locs 0 0 Q (F0 m 4 ls []) := by
  obtain ⟨hx, hb, hr, hml, hown, hts, hlocks, hK, hN⟩ := id X
  intro n
  induction n with
  | zero =>
    intro x1 x2 hx1 hx2 hp0 hmu H locs ls hI hl hk
    exfalso
    have hF := hI.2.2.2
    omega
  | succ n ih =>
    intro x1 x2 hx1 hx2 hp0 hmu H locs ls hI hl hk
    have hF := hI.2.2.2
    refine lv_iload_n hx hb dX10_spared_4 rfl (lv_at hl 2 rfl) ?_
    refine lv_aload_n hx hb dX10_spared_5 rfl (lv_at hl 0 rfl) ?_
    refine g_get (C := RX10) (T := TX10) (N := 44) (ci := 9) (v := .int (iI (σ 28 5))) hx hb hts in_X10_spared_X10 hown hK hI 28 (by decide) (cel_28 cy ad _) rfl 5 (by decide) (by decide +kernel) rfl dX10_spared_6 ?_
    have b_1 := bd_28_5 hF
    refine g_icmp_ge (tgt := 44) hx hb dX10_spared_9 (by decide) (by omega) (by omega) (fun c_2 => ?_) (fun c_2 => ?_)
    · skip
      have e9 : L_X10_spared_4 σ (n + 1) x1 x2 = x1 := by rw [L_X10_spared_4, if_pos c_2]
      rw [e9] at hk
      exact hk _ _ _ (by first | (omega) | (dsimp only; omega)) hI (lv_sub hl [1] rfl)
    · skip
      refine lv_aload_n hx hb dX10_spared_12 rfl (lv_at hl 0 rfl) ?_
      refine g_get (C := RX10) (T := TX10) (N := 44) (ci := 9) (v := .ref (ad 32)) hx hb hts in_X10_spared_X10 hown hK hI 28 (by decide) (cel_28 cy ad _) rfl 6 (by decide) (by decide +kernel) rfl dX10_spared_13 ?_
      refine lv_iload_n hx hb dX10_spared_16 rfl (lv_at hl 2 rfl) ?_
      refine g_zald (v := σ 32 x2.toNat) hx hb hK hI 32 (by decide) (cel_32 cy ad) (by omega) (by decide) rfl dX10_spared_17 ?_
      have b_3 := bd_32 hF x2.toNat
      refine g_if_eq (tgt := 38) hx hb dX10_spared_18 (by decide) (by omega) (fun c_4 => ?_) (fun c_4 => ?_)
      · skip
        refine lv_iinc (v := iI (x2 + 1)) (lv' := [(2, .int (iI (x2 + 1))), (0, .ref (ad 28)), (1, .int (iI x1))]) hx hb dX10_spared_38 hl (k := 2) rfl (iI_add _ _) (by decide) rfl (fun ls hl => ?_)
        refine lv_goto (tgt := 4) hx hb dX10_spared_41 (by decide) ?_
        have e9 : L_X10_spared_4 σ (n + 1) x1 x2 = L_X10_spared_4 σ n x1 (x2 + 1) := by rw [L_X10_spared_4, if_neg c_2, if_pos c_4]
        rw [e9] at hk
        exact ih x1 (x2 + 1)  (by omega) (by omega) (by omega) (by omega) _ _ _ hI (lv_sub hl [1, 2, 0] rfl) hk
      · skip
        refine lv_aload_n hx hb dX10_spared_21 rfl (lv_at hl 0 rfl) ?_
        refine g_get (C := RX10) (T := TX10) (N := 44) (ci := 9) (v := .ref (ad 29)) hx hb hts in_X10_spared_X10 hown hK hI 28 (by decide) (cel_28 cy ad _) rfl 1 (by decide) (by decide +kernel) rfl dX10_spared_22 ?_
        refine lv_bipush (v := iI 12) hx hb dX10_spared_25 (iI_bip (by decide)) ?_
        refine lv_iload_n hx hb dX10_spared_27 rfl (lv_at hl 2 rfl) ?_
        refine g_imul hx hb dX10_spared_28 ?_
        refine g_bald (v := σ 29 ((12 * x2).toNat)) hx hb hK hI 29 (by decide) (cel_29 cy ad) (by omega) (by decide) rfl dX10_spared_29 ?_
        have b_5 := bd_29 hF ((12 * x2).toNat)
        refine lv_bipush (v := iI 126) hx hb dX10_spared_30 (iI_bip (by decide)) ?_
        refine g_icmp_ne (tgt := 38) hx hb dX10_spared_32 (by decide) (by omega) (by omega) (fun c_6 => ?_) (fun c_6 => ?_)
        · skip
          refine lv_iinc (v := iI (x2 + 1)) (lv' := [(2, .int (iI (x2 + 1))), (0, .ref (ad 28)), (1, .int (iI x1))]) hx hb dX10_spared_38 hl (k := 2) rfl (iI_add _ _) (by decide) rfl (fun ls hl => ?_)
          refine lv_goto (tgt := 4) hx hb dX10_spared_41 (by decide) ?_
          have e9 : L_X10_spared_4 σ (n + 1) x1 x2 = L_X10_spared_4 σ n x1 (x2 + 1) := by rw [L_X10_spared_4, if_neg c_2, if_neg c_4, if_neg c_6]
          rw [e9] at hk
          exact ih x1 (x2 + 1)  (by omega) (by omega) (by omega) (by omega) _ _ _ hI (lv_sub hl [1, 2, 0] rfl) hk
        · skip
          refine lv_iinc (v := iI (x1 + 1)) (lv' := [(1, .int (iI (x1 + 1))), (0, .ref (ad 28)), (2, .int (iI x2))]) hx hb dX10_spared_35 hl (k := 1) rfl (iI_add _ _) (by decide) rfl (fun ls hl => ?_)
          refine lv_iinc (v := iI (x2 + 1)) (lv' := [(2, .int (iI (x2 + 1))), (1, .int (iI (x1 + 1))), (0, .ref (ad 28))]) hx hb dX10_spared_38 hl (k := 2) rfl (iI_add _ _) (by decide) rfl (fun ls hl => ?_)
          refine lv_goto (tgt := 4) hx hb dX10_spared_41 (by decide) ?_
          have e9 : L_X10_spared_4 σ (n + 1) x1 x2 = L_X10_spared_4 σ n (x1 + 1) (x2 + 1) := by rw [L_X10_spared_4, if_neg c_2, if_neg c_4, if_pos c_6]
          rw [e9] at hk
          exact ih (x1 + 1) (x2 + 1)  (by omega) (by omega) (by omega) (by omega) _ _ _ hI (lv_sub hl [2, 1, 0] rfl) hk
def f_X10_spared (σ : Sg) : Int := (L_X10_spared_4 σ 41 0 0)
theorem hd_X10_spared : yX10_spared.cls = RX10 ∧ yX10_spared.cls ≠ "java/lang/invoke/MethodHandle" ∧ yX10_spared.cls ≠ "java/lang/invoke/VarHandle" ∧ (parseMethodDescriptor yX10_spared.desc).map (fun d => d.parameters.length) = some 0 := by decide +kernel
set_option maxHeartbeats 4000000 in
set_option maxRecDepth 100000 in
theorem c_X10_spared (l : Launch) (D : va_G) (cy : Nat → ClassId) (ad : Nat → Nat) (σ : Sg) : CM l D cy ad yX10_spared wsX10_spared { frames := 0, cells := 0, slots := 0, locals := 0 } [.ref (ad 28)] σ (some (.int (iI (f_X10_spared σ)))) σ (0 ≤ (f_X10_spared σ) ∧ (f_X10_spared σ) ≤ 40) := by
  refine CM.of (cc := cX10_spared) (maxL := 3) (ret := (some .int)) (by decide) rfl (Nat.le_of_ble_eq_true rfl) ?_
  intro p e s m args below meth c₀ ls X hI hl
  have hl : lv_has ls 3 [(0, .ref (ad 28))] := hl
  obtain ⟨hx, hb, hr, hml, hown, hts, hlocks, hK, hN⟩ := id X
  have hF := hI.2.2.2
  refine lv_iconst (v := iI 0) hx hb dX10_spared_0 rfl ?_
  refine lv_istore_n (lv' := [(1, .int (iI 0)), (0, .ref (ad 28))]) hx hb dX10_spared_1 rfl hl (by decide) rfl (fun ls hl => ?_)
  refine lv_iconst (v := iI 0) hx hb dX10_spared_2 rfl ?_
  refine lv_istore_n (lv' := [(2, .int (iI 0)), (1, .int (iI 0)), (0, .ref (ad 28))]) hx hb dX10_spared_3 rfl hl (by decide) rfl (fun ls hl => ?_)
  refine w_L_X10_spared_4 X σ   41 0 0  (by omega) (by omega) (by omega) (by omega) _ _ _ hI (lv_sub hl [2, 1, 0] rfl) (fun H locs ls hpo_8 hI hl => ?_)
  refine lv_iload_n hx hb dX10_spared_44 rfl (lv_at hl 0 rfl) ?_
  have e9 : f_X10_spared σ = (L_X10_spared_4 σ 41 0 0) := by rw [f_X10_spared]
  exact g_iret (z := (L_X10_spared_4 σ 41 0 0)) hx hb hr hK hN hlocks hI e9.symm rfl (by rw [e9] <;> first | (omega) | (dsimp only; omega)) dX10_spared_45
theorem in_X10_count_X10 : ∀ w ∈ u_ws RX10 TX10 44, w ∈ wsX10_count := by decide +kernel
def f_X10_count (σ : Sg) (a0 : Int) : Int × Sg := (if a0 = 0 then (σ 28 5, (up2 σ 28 0 0)) else (if a0 = 1 then (f_X10_there (up2 σ 28 0 0), (up2 σ 28 0 0)) else (if a0 = 2 then (if (σ 28 4) = 0 then (0, (up2 σ 28 0 0)) else (1, (up2 σ 28 0 0))) else (if a0 = 3 then (σ 28 9, (up2 σ 28 0 0)) else (if a0 = 4 then (if (σ 28 25) = 0 then (0, (up2 σ 28 0 0)) else (σ 28 26, (up2 σ 28 0 0))) else (if a0 = 5 then (f_X10_troubles (up2 σ 28 0 0), (up2 σ 28 0 0)) else (if a0 = 6 then (if (σ 28 25) = 0 then (0, (up2 σ 28 0 0)) else (σ 28 34, (up2 σ 28 0 0))) else (if a0 = 7 then (σ 28 7, (up2 σ 28 0 0)) else (if a0 = 8 then (if (f_X10_isUnderWay (up2 σ 28 0 0)) = 0 then (0, (up2 σ 28 0 0)) else (1, (up2 σ 28 0 0))) else (if a0 = 9 then (f_X10_spared (up2 σ 28 0 0), (up2 σ 28 0 0)) else ((-1), (up2 σ 28 0 0))))))))))))
theorem hd_X10_count : yX10_count.cls = RX10 ∧ yX10_count.cls ≠ "java/lang/invoke/MethodHandle" ∧ yX10_count.cls ≠ "java/lang/invoke/VarHandle" ∧ (parseMethodDescriptor yX10_count.desc).map (fun d => d.parameters.length) = some 1 := by decide +kernel
set_option maxHeartbeats 4000000 in
set_option maxRecDepth 100000 in
theorem c_X10_count (l : Launch) (D : va_G) (cy : Nat → ClassId) (ad : Nat → Nat) (σ : Sg) (a0 : Int) (ha0 : (-2147483648 ≤ a0 ∧ a0 < 2147483648)) : CM l D cy ad yX10_count wsX10_count { frames := 1, cells := 0, slots := 0, locals := 40 } [.ref (ad 28), .int (iI a0)] σ (some (.int (iI ((f_X10_count σ a0).1)))) ((f_X10_count σ a0).2) (True) := by
  refine CM.of (cc := cX10_count) (maxL := 2) (ret := (some .int)) (by decide) rfl (Nat.le_of_ble_eq_true rfl) ?_
  intro p e s m args below meth c₀ ls X hI hl
  have hl : lv_has ls 2 [(0, .ref (ad 28)), (1, .int (iI a0))] := hl
  obtain ⟨hx, hb, hr, hml, hown, hts, hlocks, hK, hN⟩ := id X
  have hF := hI.2.2.2
  refine lv_aload_n hx hb dX10_count_0 rfl (lv_at hl 0 rfl) ?_
  refine lv_iconst (v := iI 0) hx hb dX10_count_1 rfl ?_
  refine g_put (C := RX10) (T := TX10) (N := 44) (ci := 9) (ty := .int) (z := 0) hx hb hts in_X10_count_X10 tyX10 tyX10_ok nmX10 hown hK hI 28 (by decide) (cel_28 cy ad) rfl 0 (by decide) (by decide +kernel) rfl (by decide +kernel) rfl rfl (Nat.le_of_ble_eq_true rfl) rfl (bw_28_0 (by omega)) dX10_count_2 (fun H locs hI => ?_)
  have hF_1 := hI.2.2.2
  refine lv_iload_n hx hb dX10_count_5 rfl (lv_at hl 1 rfl) ?_
  by_cases c_2 : a0 = 0
  · refine g_tsw (tgt := 60) (off := 54) hx hb dX10_count_6 (by omega) (by omega) (by rw [c_2]; rfl) (by decide) ?_
    refine lv_aload_n hx hb dX10_count_60 rfl (lv_at hl 0 rfl) ?_
    refine g_get (C := RX10) (T := TX10) (N := 44) (ci := 9) (v := .int (iI (σ 28 5))) hx hb hts in_X10_count_X10 hown hK hI 28 (by decide) (cel_28 cy ad _) rfl 5 (by decide) (by decide +kernel) (by show some (Value.int (iI ((up2 σ 28 0 0) 28 5))) = _; rw [up2_slot _ _ (by decide)]) dX10_count_61 ?_
    have b_3 := bd_28_5 hF
    have e9 : f_X10_count σ a0 = (σ 28 5, (up2 σ 28 0 0)) := by rw [f_X10_count, if_pos c_2]
    exact g_iret (z := σ 28 5) hx hb hr hK hN hlocks hI (by rw [e9]) (by rw [e9]) trivial dX10_count_64
  · skip
    by_cases c_4 : a0 = 1
    · refine g_tsw (tgt := 65) (off := 59) hx hb dX10_count_6 (by omega) (by omega) (by rw [c_4]; rfl) (by decide) ?_
      refine lv_aload_n hx hb dX10_count_65 rfl (lv_at hl 0 rfl) ?_
      refine g_V (As := []) (rest := []) 28 (c_X10_there l D cy ad (up2 σ 28 0 0) ) hx hb hml hown hts hK hN hI hl.1 gX10_count_X10_there rfl hd_X10_there rfl rfl ⟨Nat.le_of_ble_eq_true rfl, Nat.le_of_ble_eq_true rfl⟩ ⟨Nat.zero_le _, Nat.zero_le _⟩ (by decide) (cel_28 cy ad _) rfl rfl rfl rfl (Nat.le_of_ble_eq_true rfl) dX10_count_66 (fun H locs hG_5 hI => ?_)
      have e9 : f_X10_count σ a0 = (f_X10_there (up2 σ 28 0 0), (up2 σ 28 0 0)) := by rw [f_X10_count, if_neg c_2, if_pos c_4]
      exact g_iret (z := f_X10_there (up2 σ 28 0 0)) hx hb hr hK hN hlocks hI (by rw [e9]) (by rw [e9]) trivial dX10_count_69
    · skip
      by_cases c_6 : a0 = 2
      · refine g_tsw (tgt := 70) (off := 64) hx hb dX10_count_6 (by omega) (by omega) (by rw [c_6]; rfl) (by decide) ?_
        refine lv_aload_n hx hb dX10_count_70 rfl (lv_at hl 0 rfl) ?_
        refine g_get (C := RX10) (T := TX10) (N := 44) (ci := 9) (v := .int (iI (σ 28 4))) hx hb hts in_X10_count_X10 hown hK hI 28 (by decide) (cel_28 cy ad _) rfl 4 (by decide) (by decide +kernel) (by show some (Value.int (iI ((up2 σ 28 0 0) 28 4))) = _; rw [up2_slot _ _ (by decide)]) dX10_count_71 ?_
        have b_7 := bd_28_4 hF
        refine g_if_eq (tgt := 81) hx hb dX10_count_74 (by decide) (by omega) (fun c_8 => ?_) (fun c_8 => ?_)
        · skip
          refine lv_iconst (v := iI 0) hx hb dX10_count_81 rfl ?_
          have e9 : f_X10_count σ a0 = (0, (up2 σ 28 0 0)) := by rw [f_X10_count, if_neg c_2, if_neg c_4, if_pos c_6, if_pos c_8]
          exact g_iret (z := 0) hx hb hr hK hN hlocks hI (by rw [e9]) (by rw [e9]) trivial dX10_count_82
        · skip
          refine lv_iconst (v := iI 1) hx hb dX10_count_77 rfl ?_
          refine lv_goto (tgt := 82) hx hb dX10_count_78 (by decide) ?_
          have e9 : f_X10_count σ a0 = (1, (up2 σ 28 0 0)) := by rw [f_X10_count, if_neg c_2, if_neg c_4, if_pos c_6, if_neg c_8]
          exact g_iret (z := 1) hx hb hr hK hN hlocks hI (by rw [e9]) (by rw [e9]) trivial dX10_count_82
      · skip
        by_cases c_9 : a0 = 3
        · refine g_tsw (tgt := 83) (off := 77) hx hb dX10_count_6 (by omega) (by omega) (by rw [c_9]; rfl) (by decide) ?_
          refine lv_aload_n hx hb dX10_count_83 rfl (lv_at hl 0 rfl) ?_
          refine g_get (C := RX10) (T := TX10) (N := 44) (ci := 9) (v := .int (iI (σ 28 9))) hx hb hts in_X10_count_X10 hown hK hI 28 (by decide) (cel_28 cy ad _) rfl 9 (by decide) (by decide +kernel) (by show some (Value.int (iI ((up2 σ 28 0 0) 28 9))) = _; rw [up2_slot _ _ (by decide)]) dX10_count_84 ?_
          have b_10 := bd_28_9 hF
          have e9 : f_X10_count σ a0 = (σ 28 9, (up2 σ 28 0 0)) := by rw [f_X10_count, if_neg c_2, if_neg c_4, if_neg c_6, if_pos c_9]
          exact g_iret (z := σ 28 9) hx hb hr hK hN hlocks hI (by rw [e9]) (by rw [e9]) trivial dX10_count_87
        · skip
          by_cases c_11 : a0 = 4
          · refine g_tsw (tgt := 88) (off := 82) hx hb dX10_count_6 (by omega) (by omega) (by rw [c_11]; rfl) (by decide) ?_
            refine lv_aload_n hx hb dX10_count_88 rfl (lv_at hl 0 rfl) ?_
            refine g_get (C := RX10) (T := TX10) (N := 44) (ci := 9) (v := .int (iI (σ 28 25))) hx hb hts in_X10_count_X10 hown hK hI 28 (by decide) (cel_28 cy ad _) rfl 25 (by decide) (by decide +kernel) (by show some (Value.int (iI ((up2 σ 28 0 0) 28 25))) = _; rw [up2_slot _ _ (by decide)]) dX10_count_89 ?_
            have b_12 := bd_28_25 hF
            refine g_if_eq (tgt := 102) hx hb dX10_count_92 (by decide) (by omega) (fun c_13 => ?_) (fun c_13 => ?_)
            · skip
              refine lv_iconst (v := iI 0) hx hb dX10_count_102 rfl ?_
              have e9 : f_X10_count σ a0 = (0, (up2 σ 28 0 0)) := by rw [f_X10_count, if_neg c_2, if_neg c_4, if_neg c_6, if_neg c_9, if_pos c_11, if_pos c_13]
              exact g_iret (z := 0) hx hb hr hK hN hlocks hI (by rw [e9]) (by rw [e9]) trivial dX10_count_103
            · skip
              refine lv_aload_n hx hb dX10_count_95 rfl (lv_at hl 0 rfl) ?_
              refine g_get (C := RX10) (T := TX10) (N := 44) (ci := 9) (v := .int (iI (σ 28 26))) hx hb hts in_X10_count_X10 hown hK hI 28 (by decide) (cel_28 cy ad _) rfl 26 (by decide) (by decide +kernel) (by show some (Value.int (iI ((up2 σ 28 0 0) 28 26))) = _; rw [up2_slot _ _ (by decide)]) dX10_count_96 ?_
              have b_14 := bd_28_26 hF
              refine lv_goto (tgt := 103) hx hb dX10_count_99 (by decide) ?_
              have e9 : f_X10_count σ a0 = (σ 28 26, (up2 σ 28 0 0)) := by rw [f_X10_count, if_neg c_2, if_neg c_4, if_neg c_6, if_neg c_9, if_pos c_11, if_neg c_13]
              exact g_iret (z := σ 28 26) hx hb hr hK hN hlocks hI (by rw [e9]) (by rw [e9]) trivial dX10_count_103
          · skip
            by_cases c_15 : a0 = 5
            · refine g_tsw (tgt := 104) (off := 98) hx hb dX10_count_6 (by omega) (by omega) (by rw [c_15]; rfl) (by decide) ?_
              refine lv_aload_n hx hb dX10_count_104 rfl (lv_at hl 0 rfl) ?_
              refine g_V (As := []) (rest := []) 28 (c_X10_troubles l D cy ad (up2 σ 28 0 0) ) hx hb hml hown hts hK hN hI hl.1 gX10_count_X10_troubles rfl hd_X10_troubles rfl rfl ⟨Nat.le_of_ble_eq_true rfl, Nat.le_of_ble_eq_true rfl⟩ ⟨Nat.zero_le _, Nat.zero_le _⟩ (by decide) (cel_28 cy ad _) rfl rfl rfl rfl (Nat.le_of_ble_eq_true rfl) dX10_count_105 (fun H locs hG_16 hI => ?_)
              have e9 : f_X10_count σ a0 = (f_X10_troubles (up2 σ 28 0 0), (up2 σ 28 0 0)) := by rw [f_X10_count, if_neg c_2, if_neg c_4, if_neg c_6, if_neg c_9, if_neg c_11, if_pos c_15]
              exact g_iret (z := f_X10_troubles (up2 σ 28 0 0)) hx hb hr hK hN hlocks hI (by rw [e9]) (by rw [e9]) trivial dX10_count_108
            · skip
              by_cases c_17 : a0 = 6
              · refine g_tsw (tgt := 109) (off := 103) hx hb dX10_count_6 (by omega) (by omega) (by rw [c_17]; rfl) (by decide) ?_
                refine lv_aload_n hx hb dX10_count_109 rfl (lv_at hl 0 rfl) ?_
                refine g_get (C := RX10) (T := TX10) (N := 44) (ci := 9) (v := .int (iI (σ 28 25))) hx hb hts in_X10_count_X10 hown hK hI 28 (by decide) (cel_28 cy ad _) rfl 25 (by decide) (by decide +kernel) (by show some (Value.int (iI ((up2 σ 28 0 0) 28 25))) = _; rw [up2_slot _ _ (by decide)]) dX10_count_110 ?_
                have b_18 := bd_28_25 hF
                refine g_if_eq (tgt := 123) hx hb dX10_count_113 (by decide) (by omega) (fun c_19 => ?_) (fun c_19 => ?_)
                · skip
                  refine lv_iconst (v := iI 0) hx hb dX10_count_123 rfl ?_
                  have e9 : f_X10_count σ a0 = (0, (up2 σ 28 0 0)) := by rw [f_X10_count, if_neg c_2, if_neg c_4, if_neg c_6, if_neg c_9, if_neg c_11, if_neg c_15, if_pos c_17, if_pos c_19]
                  exact g_iret (z := 0) hx hb hr hK hN hlocks hI (by rw [e9]) (by rw [e9]) trivial dX10_count_124
                · skip
                  refine lv_aload_n hx hb dX10_count_116 rfl (lv_at hl 0 rfl) ?_
                  refine g_get (C := RX10) (T := TX10) (N := 44) (ci := 9) (v := .int (iI (σ 28 34))) hx hb hts in_X10_count_X10 hown hK hI 28 (by decide) (cel_28 cy ad _) rfl 34 (by decide) (by decide +kernel) (by show some (Value.int (iI ((up2 σ 28 0 0) 28 34))) = _; rw [up2_slot _ _ (by decide)]) dX10_count_117 ?_
                  have b_20 := bd_28_34 hF
                  refine lv_goto (tgt := 124) hx hb dX10_count_120 (by decide) ?_
                  have e9 : f_X10_count σ a0 = (σ 28 34, (up2 σ 28 0 0)) := by rw [f_X10_count, if_neg c_2, if_neg c_4, if_neg c_6, if_neg c_9, if_neg c_11, if_neg c_15, if_pos c_17, if_neg c_19]
                  exact g_iret (z := σ 28 34) hx hb hr hK hN hlocks hI (by rw [e9]) (by rw [e9]) trivial dX10_count_124
              · skip
                by_cases c_21 : a0 = 7
                · refine g_tsw (tgt := 125) (off := 119) hx hb dX10_count_6 (by omega) (by omega) (by rw [c_21]; rfl) (by decide) ?_
                  refine lv_aload_n hx hb dX10_count_125 rfl (lv_at hl 0 rfl) ?_
                  refine g_get (C := RX10) (T := TX10) (N := 44) (ci := 9) (v := .int (iI (σ 28 7))) hx hb hts in_X10_count_X10 hown hK hI 28 (by decide) (cel_28 cy ad _) rfl 7 (by decide) (by decide +kernel) (by show some (Value.int (iI ((up2 σ 28 0 0) 28 7))) = _; rw [up2_slot _ _ (by decide)]) dX10_count_126 ?_
                  have b_22 := bd_28_7 hF
                  have e9 : f_X10_count σ a0 = (σ 28 7, (up2 σ 28 0 0)) := by rw [f_X10_count, if_neg c_2, if_neg c_4, if_neg c_6, if_neg c_9, if_neg c_11, if_neg c_15, if_neg c_17, if_pos c_21]
                  exact g_iret (z := σ 28 7) hx hb hr hK hN hlocks hI (by rw [e9]) (by rw [e9]) trivial dX10_count_129
                · skip
                  by_cases c_23 : a0 = 8
                  · refine g_tsw (tgt := 130) (off := 124) hx hb dX10_count_6 (by omega) (by omega) (by rw [c_23]; rfl) (by decide) ?_
                    refine lv_aload_n hx hb dX10_count_130 rfl (lv_at hl 0 rfl) ?_
                    refine g_V (As := []) (rest := []) 28 (c_X10_isUnderWay l D cy ad (up2 σ 28 0 0) ) hx hb hml hown hts hK hN hI hl.1 gX10_count_X10_isUnderWay rfl hd_X10_isUnderWay rfl rfl ⟨Nat.le_of_ble_eq_true rfl, Nat.le_of_ble_eq_true rfl⟩ ⟨Nat.zero_le _, Nat.zero_le _⟩ (by decide) (cel_28 cy ad _) rfl rfl rfl rfl (Nat.le_of_ble_eq_true rfl) dX10_count_131 (fun H locs hG_24 hI => ?_)
                    refine g_if_eq (tgt := 141) hx hb dX10_count_134 (by decide) (by omega) (fun c_25 => ?_) (fun c_25 => ?_)
                    · skip
                      refine lv_iconst (v := iI 0) hx hb dX10_count_141 rfl ?_
                      have e9 : f_X10_count σ a0 = (0, (up2 σ 28 0 0)) := by rw [f_X10_count, if_neg c_2, if_neg c_4, if_neg c_6, if_neg c_9, if_neg c_11, if_neg c_15, if_neg c_17, if_neg c_21, if_pos c_23, if_pos c_25]
                      exact g_iret (z := 0) hx hb hr hK hN hlocks hI (by rw [e9]) (by rw [e9]) trivial dX10_count_142
                    · skip
                      refine lv_iconst (v := iI 1) hx hb dX10_count_137 rfl ?_
                      refine lv_goto (tgt := 142) hx hb dX10_count_138 (by decide) ?_
                      have e9 : f_X10_count σ a0 = (1, (up2 σ 28 0 0)) := by rw [f_X10_count, if_neg c_2, if_neg c_4, if_neg c_6, if_neg c_9, if_neg c_11, if_neg c_15, if_neg c_17, if_neg c_21, if_pos c_23, if_neg c_25]
                      exact g_iret (z := 1) hx hb hr hK hN hlocks hI (by rw [e9]) (by rw [e9]) trivial dX10_count_142
                  · skip
                    by_cases c_26 : a0 = 9
                    · refine g_tsw (tgt := 143) (off := 137) hx hb dX10_count_6 (by omega) (by omega) (by rw [c_26]; rfl) (by decide) ?_
                      refine lv_aload_n hx hb dX10_count_143 rfl (lv_at hl 0 rfl) ?_
                      refine g_V (As := []) (rest := []) 28 (c_X10_spared l D cy ad (up2 σ 28 0 0) ) hx hb hml hown hts hK hN hI hl.1 gX10_count_X10_spared rfl hd_X10_spared rfl rfl ⟨Nat.le_of_ble_eq_true rfl, Nat.le_of_ble_eq_true rfl⟩ ⟨Nat.zero_le _, Nat.zero_le _⟩ (by decide) (cel_28 cy ad _) rfl rfl rfl rfl (Nat.le_of_ble_eq_true rfl) dX10_count_144 (fun H locs hG_27 hI => ?_)
                      have e9 : f_X10_count σ a0 = (f_X10_spared (up2 σ 28 0 0), (up2 σ 28 0 0)) := by rw [f_X10_count, if_neg c_2, if_neg c_4, if_neg c_6, if_neg c_9, if_neg c_11, if_neg c_15, if_neg c_17, if_neg c_21, if_neg c_23, if_pos c_26]
                      exact g_iret (z := f_X10_spared (up2 σ 28 0 0)) hx hb hr hK hN hlocks hI (by rw [e9]) (by rw [e9]) trivial dX10_count_147
                    · skip
                      refine g_tswD (tgt := 148) hx hb dX10_count_6 (by omega) (by omega) (by decide) ?_
                      refine lv_iconst (v := iI (-1)) hx hb dX10_count_148 rfl ?_
                      have e9 : f_X10_count σ a0 = ((-1), (up2 σ 28 0 0)) := by rw [f_X10_count, if_neg c_2, if_neg c_4, if_neg c_6, if_neg c_9, if_neg c_11, if_neg c_15, if_neg c_17, if_neg c_21, if_neg c_23, if_neg c_26]
                      exact g_iret (z := (-1)) hx hb hr hK hN hlocks hI (by rw [e9]) (by rw [e9]) trivial dX10_count_149
