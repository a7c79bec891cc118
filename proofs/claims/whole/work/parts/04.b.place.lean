theorem in_X2_byteAt_X2 : ∀ w ∈ u_ws RX2 TX2 3, w ∈ wsX2_byteAt := by decide +kernel
def f_X2_byteAt (σ : Sg) (c : Nat) (a0 : Int) : Int := (if a0 < 0 then (-1) else (if (σ c 2) ≤ a0 then (-1) else (if 12 ≤ a0 then (-1) else σ (c + 1) a0.toNat)))
theorem hd_X2_byteAt : yX2_byteAt.cls = RX2 ∧ yX2_byteAt.cls ≠ "java/lang/invoke/MethodHandle" ∧ yX2_byteAt.cls ≠ "java/lang/invoke/VarHandle" ∧ (parseMethodDescriptor yX2_byteAt.desc).map (fun d => d.parameters.length) = some 1 := by decide +kernel
set_option maxHeartbeats 4000000 in
set_option maxRecDepth 100000 in
theorem c_X2_byteAt (l : Launch) (D : va_G) (cy : Nat → ClassId) (ad : Nat → Nat) (σ : Sg) (c : Nat) (hc : isPl c) (a0 : Int) (ha0 : (-2147483648 ≤ a0 ∧ a0 < 2147483648)) : CM l D cy ad yX2_byteAt wsX2_byteAt { frames := 0, cells := 0, slots := 0, locals := 0 } [.ref (ad c), .int (iI a0)] σ (some (.int (iI (f_X2_byteAt σ c a0)))) σ (-1 ≤ (f_X2_byteAt σ c a0) ∧ (f_X2_byteAt σ c a0) ≤ 255) := by
  refine CM.of (cc := cX2_byteAt) (maxL := 2) (ret := (some .int)) (by decide) rfl (Nat.le_of_ble_eq_true rfl) ?_
  intro p e s m args below meth c₀ ls X hI hl
  have hl : lv_has ls 2 [(0, .ref (ad c)), (1, .int (iI a0))] := hl
  obtain ⟨hx, hb, hr, hml, hown, hts, hlocks, hK, hN⟩ := id X
  have hF := hI.2.2.2
  refine lv_iload_n hx hb dX2_byteAt_0 rfl (lv_at hl 1 rfl) ?_
  refine g_if_lt (tgt := 30) hx hb dX2_byteAt_1 (by decide) (by omega) (fun c_1 => ?_) (fun c_1 => ?_)
  · skip
    refine lv_iconst (v := iI (-1)) hx hb dX2_byteAt_30 rfl ?_
    have e9 : f_X2_byteAt σ c a0 = (-1) := by rw [f_X2_byteAt, if_pos c_1]
    exact g_iret (z := (-1)) hx hb hr hK hN hlocks hI e9.symm rfl (by rw [e9] <;> first | (omega) | (dsimp only; omega)) dX2_byteAt_31
  · skip
    refine lv_iload_n hx hb dX2_byteAt_4 rfl (lv_at hl 1 rfl) ?_
    refine lv_aload_n hx hb dX2_byteAt_5 rfl (lv_at hl 0 rfl) ?_
    refine g_get (C := RX2) (T := TX2) (N := 3) (ci := 2) (v := .int (iI (σ c 2))) hx hb hts in_X2_byteAt_X2 hown hK hI c (by have q := hc; omega) (cel_Pl cy ad hc _) rfl 2 (by decide) (by decide +kernel) rfl dX2_byteAt_6 ?_
    have b_2 := bd_Pl_2 hF hc
    refine g_icmp_ge (tgt := 30) hx hb dX2_byteAt_9 (by decide) (by omega) (by omega) (fun c_3 => ?_) (fun c_3 => ?_)
    · skip
      refine lv_iconst (v := iI (-1)) hx hb dX2_byteAt_30 rfl ?_
      have e9 : f_X2_byteAt σ c a0 = (-1) := by rw [f_X2_byteAt, if_neg c_1, if_pos c_3]
      exact g_iret (z := (-1)) hx hb hr hK hN hlocks hI e9.symm rfl (by rw [e9] <;> first | (omega) | (dsimp only; omega)) dX2_byteAt_31
    · skip
      refine lv_iload_n hx hb dX2_byteAt_12 rfl (lv_at hl 1 rfl) ?_
      refine lv_aload_n hx hb dX2_byteAt_13 rfl (lv_at hl 0 rfl) ?_
      refine g_get (C := RX2) (T := TX2) (N := 3) (ci := 2) (v := .ref (ad (c + 1))) hx hb hts in_X2_byteAt_X2 hown hK hI c (by have q := hc; omega) (cel_Pl cy ad hc _) rfl 0 (by decide) (by decide +kernel) rfl dX2_byteAt_14 ?_
      refine g_alen (z := 12) hx hb hK hI (c + 1) 0 (by have q := (by have q := hc; omega : isNm (c + 1)); omega) (cel_Nm cy ad (by have q := hc; omega : isNm (c + 1)) _) rfl rfl dX2_byteAt_17 ?_
      refine g_icmp_ge (tgt := 30) hx hb dX2_byteAt_18 (by decide) (by omega) (by omega) (fun c_4 => ?_) (fun c_4 => ?_)
      · skip
        refine lv_iconst (v := iI (-1)) hx hb dX2_byteAt_30 rfl ?_
        have e9 : f_X2_byteAt σ c a0 = (-1) := by rw [f_X2_byteAt, if_neg c_1, if_neg c_3, if_pos c_4]
        exact g_iret (z := (-1)) hx hb hr hK hN hlocks hI e9.symm rfl (by rw [e9] <;> first | (omega) | (dsimp only; omega)) dX2_byteAt_31
      · skip
        refine lv_aload_n hx hb dX2_byteAt_21 rfl (lv_at hl 0 rfl) ?_
        refine g_get (C := RX2) (T := TX2) (N := 3) (ci := 2) (v := .ref (ad (c + 1))) hx hb hts in_X2_byteAt_X2 hown hK hI c (by have q := hc; omega) (cel_Pl cy ad hc _) rfl 0 (by decide) (by decide +kernel) rfl dX2_byteAt_22 ?_
        refine lv_iload_n hx hb dX2_byteAt_25 rfl (lv_at hl 1 rfl) ?_
        refine g_iald (v := σ (c + 1) a0.toNat) hx hb hK hI (c + 1) (by have q := (by have q := hc; omega : isNm (c + 1)); omega) (cel_Nm cy ad (by have q := hc; omega : isNm (c + 1))) (by omega) (by decide) rfl dX2_byteAt_26 ?_
        have b_5 := bd_Nm hF (by have q := hc; omega : isNm (c + 1)) a0.toNat
        refine lv_goto (tgt := 31) hx hb dX2_byteAt_27 (by decide) ?_
        have e9 : f_X2_byteAt σ c a0 = σ (c + 1) a0.toNat := by rw [f_X2_byteAt, if_neg c_1, if_neg c_3, if_neg c_4]
        exact g_iret (z := σ (c + 1) a0.toNat) hx hb hr hK hN hlocks hI e9.symm rfl (by rw [e9] <;> first | (omega) | (dsimp only; omega)) dX2_byteAt_31
theorem in_X2_begin_X2 : ∀ w ∈ u_ws RX2 TX2 3, w ∈ wsX2_begin := by decide +kernel
def f_X2_begin (σ : Sg) (c : Nat) (a0 : Int) : Sg := (up2 (up2 σ c 1 a0) c 2 0)
theorem hd_X2_begin : yX2_begin.cls = RX2 ∧ yX2_begin.cls ≠ "java/lang/invoke/MethodHandle" ∧ yX2_begin.cls ≠ "java/lang/invoke/VarHandle" ∧ (parseMethodDescriptor yX2_begin.desc).map (fun d => d.parameters.length) = some 1 := by decide +kernel
set_option maxHeartbeats 4000000 in
set_option maxRecDepth 100000 in
theorem c_X2_begin (l : Launch) (D : va_G) (cy : Nat → ClassId) (ad : Nat → Nat) (σ : Sg) (c : Nat) (hc : isPl c) (a0 : Int) (ha0 : (0 : Int) ≤ a0 ∧ a0 ≤ 5) : CM l D cy ad yX2_begin wsX2_begin { frames := 0, cells := 0, slots := 0, locals := 0 } [.ref (ad c), .int (iI a0)] σ none (f_X2_begin σ c a0) (True) := by
  refine CM.of (cc := cX2_begin) (maxL := 2) (ret := none) (by decide) rfl (Nat.le_of_ble_eq_true rfl) ?_
  intro p e s m args below meth c₀ ls X hI hl
  have hl : lv_has ls 2 [(0, .ref (ad c)), (1, .int (iI a0))] := hl
  obtain ⟨hx, hb, hr, hml, hown, hts, hlocks, hK, hN⟩ := id X
  have hF := hI.2.2.2
  refine lv_aload_n hx hb dX2_begin_0 rfl (lv_at hl 0 rfl) ?_
  refine lv_iload_n hx hb dX2_begin_1 rfl (lv_at hl 1 rfl) ?_
  refine g_put (C := RX2) (T := TX2) (N := 3) (ci := 2) (ty := .int) (z := a0) hx hb hts in_X2_begin_X2 tyX2 tyX2_ok nmX2 hown hK hI c (by have q := hc; omega) (cel_Pl cy ad hc) rfl 1 (by decide) (by decide +kernel) rfl (by decide +kernel) rfl rfl (Nat.le_of_ble_eq_true rfl) (by unfold fs_Pl; rw [up2_row]; rfl) (bw_Pl_1 hc (by omega)) dX2_begin_2 (fun H locs hI => ?_)
  have hF_1 := hI.2.2.2
  refine lv_aload_n hx hb dX2_begin_5 rfl (lv_at hl 0 rfl) ?_
  refine lv_iconst (v := iI 0) hx hb dX2_begin_6 rfl ?_
  refine g_put (C := RX2) (T := TX2) (N := 3) (ci := 2) (ty := .int) (z := 0) hx hb hts in_X2_begin_X2 tyX2 tyX2_ok nmX2 hown hK hI c (by have q := hc; omega) (cel_Pl cy ad hc) rfl 2 (by decide) (by decide +kernel) rfl (by decide +kernel) rfl rfl (Nat.le_of_ble_eq_true rfl) (by unfold fs_Pl; rw [up2_row]; rfl) (bw_Pl_2 hc (by omega)) dX2_begin_7 (fun H locs hI => ?_)
  have hF_2 := hI.2.2.2
  have e9 : f_X2_begin σ c a0 = (up2 (up2 σ c 1 a0) c 2 0) := by rw [f_X2_begin]
  exact g_vret hx hb hr hK hN hlocks hI (by rw [e9]) trivial dX2_begin_10
theorem in_X2_add_X2 : ∀ w ∈ u_ws RX2 TX2 3, w ∈ wsX2_add := by decide +kernel
def f_X2_add (σ : Sg) (c : Nat) (a0 : Int) : Sg := (if 12 ≤ (σ c 2) then σ else (up2 (up2 σ (c + 1) ((σ c 2).toNat) a0) c 2 ((σ c 2) + 1)))
theorem hd_X2_add : yX2_add.cls = RX2 ∧ yX2_add.cls ≠ "java/lang/invoke/MethodHandle" ∧ yX2_add.cls ≠ "java/lang/invoke/VarHandle" ∧ (parseMethodDescriptor yX2_add.desc).map (fun d => d.parameters.length) = some 1 := by decide +kernel
set_option maxHeartbeats 4000000 in
set_option maxRecDepth 100000 in
theorem c_X2_add (l : Launch) (D : va_G) (cy : Nat → ClassId) (ad : Nat → Nat) (σ : Sg) (c : Nat) (hc : isPl c) (a0 : Int) (ha0 : (-1 : Int) ≤ a0 ∧ a0 ≤ 255) : CM l D cy ad yX2_add wsX2_add { frames := 0, cells := 0, slots := 0, locals := 0 } [.ref (ad c), .int (iI a0)] σ none (f_X2_add σ c a0) (True) := by
  refine CM.of (cc := cX2_add) (maxL := 2) (ret := none) (by decide) rfl (Nat.le_of_ble_eq_true rfl) ?_
  intro p e s m args below meth c₀ ls X hI hl
  have hl : lv_has ls 2 [(0, .ref (ad c)), (1, .int (iI a0))] := hl
  obtain ⟨hx, hb, hr, hml, hown, hts, hlocks, hK, hN⟩ := id X
  have hF := hI.2.2.2
  refine lv_aload_n hx hb dX2_add_0 rfl (lv_at hl 0 rfl) ?_
  refine g_get (C := RX2) (T := TX2) (N := 3) (ci := 2) (v := .int (iI (σ c 2))) hx hb hts in_X2_add_X2 hown hK hI c (by have q := hc; omega) (cel_Pl cy ad hc _) rfl 2 (by decide) (by decide +kernel) rfl dX2_add_1 ?_
  have b_1 := bd_Pl_2 hF hc
  refine lv_aload_n hx hb dX2_add_4 rfl (lv_at hl 0 rfl) ?_
  refine g_get (C := RX2) (T := TX2) (N := 3) (ci := 2) (v := .ref (ad (c + 1))) hx hb hts in_X2_add_X2 hown hK hI c (by have q := hc; omega) (cel_Pl cy ad hc _) rfl 0 (by decide) (by decide +kernel) rfl dX2_add_5 ?_
  refine g_alen (z := 12) hx hb hK hI (c + 1) 0 (by have q := (by have q := hc; omega : isNm (c + 1)); omega) (cel_Nm cy ad (by have q := hc; omega : isNm (c + 1)) _) rfl rfl dX2_add_8 ?_
  refine g_icmp_ge (tgt := 32) hx hb dX2_add_9 (by decide) (by omega) (by omega) (fun c_2 => ?_) (fun c_2 => ?_)
  · skip
    have e9 : f_X2_add σ c a0 = σ := by rw [f_X2_add, if_pos c_2]
    exact g_vret hx hb hr hK hN hlocks hI (by rw [e9]) trivial dX2_add_32
  · skip
    refine lv_aload_n hx hb dX2_add_12 rfl (lv_at hl 0 rfl) ?_
    refine g_get (C := RX2) (T := TX2) (N := 3) (ci := 2) (v := .ref (ad (c + 1))) hx hb hts in_X2_add_X2 hown hK hI c (by have q := hc; omega) (cel_Pl cy ad hc _) rfl 0 (by decide) (by decide +kernel) rfl dX2_add_13 ?_
    refine lv_aload_n hx hb dX2_add_16 rfl (lv_at hl 0 rfl) ?_
    refine g_get (C := RX2) (T := TX2) (N := 3) (ci := 2) (v := .int (iI (σ c 2))) hx hb hts in_X2_add_X2 hown hK hI c (by have q := hc; omega) (cel_Pl cy ad hc _) rfl 2 (by decide) (by decide +kernel) rfl dX2_add_17 ?_
    have b_3 := bd_Pl_2 hF hc
    refine lv_iload_n hx hb dX2_add_20 rfl (lv_at hl 1 rfl) ?_
    refine g_iast hx hb hK hI (c + 1) (by have q := (by have q := hc; omega : isNm (c + 1)); omega) (cel_Nm cy ad (by have q := hc; omega : isNm (c + 1))) (by omega) (by decide) (bw_Nm (by have q := hc; omega : isNm (c + 1)) (by omega)) dX2_add_21 (fun H locs hI => ?_)
    have hF_4 : WF (up2 σ (c + 1) ((σ c 2).toNat) a0) := hI.2.2.2
    refine lv_aload_n hx hb dX2_add_22 rfl (lv_at hl 0 rfl) ?_
    refine lv_dup hx hb dX2_add_23 rfl ?_
    refine g_get (C := RX2) (T := TX2) (N := 3) (ci := 2) (v := .int (iI (σ c 2))) hx hb hts in_X2_add_X2 hown hK hI c (by have q := hc; omega) (cel_Pl cy ad hc _) rfl 2 (by decide) (by decide +kernel) (by show some (Value.int (iI ((up2 σ (c + 1) ((σ c 2).toNat) a0) c 2))) = _; rw [up2_cell _ _ _ (by have q0 := hc; have q1 := (by have q := hc; omega : isNm (c + 1));  omega)]) dX2_add_24 ?_
    have b_5 := bd_Pl_2 hF hc
    refine lv_iconst (v := iI 1) hx hb dX2_add_27 rfl ?_
    refine g_iadd hx hb dX2_add_28 ?_
    refine g_put (C := RX2) (T := TX2) (N := 3) (ci := 2) (ty := .int) (z := (σ c 2) + 1) hx hb hts in_X2_add_X2 tyX2 tyX2_ok nmX2 hown hK hI c (by have q := hc; omega) (cel_Pl cy ad hc) rfl 2 (by decide) (by decide +kernel) rfl (by decide +kernel) rfl rfl (Nat.le_of_ble_eq_true rfl) (by unfold fs_Pl; rw [up2_row]; rfl) (bw_Pl_2 hc (by omega)) dX2_add_29 (fun H locs hI => ?_)
    have hF_6 := hI.2.2.2
    have e9 : f_X2_add σ c a0 = (up2 (up2 σ (c + 1) ((σ c 2).toNat) a0) c 2 ((σ c 2) + 1)) := by rw [f_X2_add, if_neg c_2]
    exact g_vret hx hb hr hK hN hlocks hI (by rw [e9]) trivial dX2_add_32
theorem in_X2_become_X2 : ∀ w ∈ u_ws RX2 TX2 3, w ∈ wsX2_become := by decide +kernel
def L_X2_become_10 (c : Nat) (q0 : Nat) : Nat → Int → Sg → Sg
  | 0, x2, σ => (σ)
  | n + 1, x2, σ => (if (σ q0 2) ≤ x2 then σ else L_X2_become_10 c q0 n (x2 + 1) (f_X2_add σ c (f_X2_byteAt σ q0 x2)))
set_option maxHeartbeats 4000000 in
set_option maxRecDepth 100000 in
theorem w_L_X2_become_10 {p : Program} {l : Launch} {e : Env} {s : State} {m : MethodId} {args : Array Value} {below : List Frame} {meth : Method} {c₀ : Code} {D : va_G} {cy : Nat → ClassId} {ad : Nat → Nat} {Q : State → Prop} (X : MX p s m args meth c₀ cX2_become 3 RX2 none wsX2_become D cy) (c : Nat) (hc : isPl c) (q0 : Nat) (hq0 : isPl q0) : ∀ (n : Nat) (x2 : Int) (σ : Sg) (hx2 : (0 : Int) ≤ x2 ∧ x2 ≤ 12) (hmu : 12 - x2 < (n : Int)) (H : Heap) (locs : List Loc) (ls : Array Slot) (hI : HI D cy ad s σ H locs) (hl : lv_has ls 3 [(0, .ref (ad c)), (1, .ref (ad q0)), (2, .int (iI x2))])  (hk : ∀ (H1 : Heap) (locs1 : List Loc) (ls1 : Array Slot), True → HI D cy ad s (L_X2_become_10 c q0 n x2 σ) H1 locs1 → lv_has ls1 3 [] → W p l e { frames := 1, cells := 0, slots := 0, locals := 40 } s m args below meth c₀ H1 locs1 0 0 Q (F0 m 33 ls1 [])), W p l e { frames := 1, cells := 0, slots := 0, locals := 40 } s m args below meth c₀ H locs 0 0 Q (F0 m 10 ls []) := by
  obtain ⟨hx, hb, hr, hml, hown, hts, hlocks, hK, hN⟩ := id X
  intro n
  induction n with
  | zero =>
    intro x2 σ hx2 hmu H locs ls hI hl hk
    exfalso
    have hF := hI.2.2.2
    omega
  | succ n ih =>
    intro x2 σ hx2 hmu H locs ls hI hl hk
    have hF := hI.2.2.2
    refine lv_iload_n hx hb dX2_become_10 rfl (lv_at hl 2 rfl) ?_
    refine lv_aload_n hx hb dX2_become_11 rfl (lv_at hl 1 rfl) ?_
    refine g_get (C := RX2) (T := TX2) (N := 3) (ci := 2) (v := .int (iI (σ q0 2))) hx hb hts in_X2_become_X2 hown hK hI q0 (by have q := hq0; omega) (cel_Pl cy ad hq0 _) rfl 2 (by decide) (by decide +kernel) rfl dX2_become_12 ?_
    have b_4 := bd_Pl_2 hF hq0
    refine g_icmp_ge (tgt := 33) hx hb dX2_become_15 (by decide) (by omega) (by omega) (fun c_5 => ?_) (fun c_5 => ?_)
    · skip
      have e9 : L_X2_become_10 c q0 (n + 1) x2 σ = σ := by rw [L_X2_become_10, if_pos c_5]
      rw [e9] at hk
      exact hk _ _ _ trivial hI (lv_sub hl [] rfl)
    · skip
      refine lv_aload_n hx hb dX2_become_18 rfl (lv_at hl 0 rfl) ?_
      refine lv_aload_n hx hb dX2_become_19 rfl (lv_at hl 1 rfl) ?_
      refine lv_iload_n hx hb dX2_become_20 rfl (lv_at hl 2 rfl) ?_
      refine g_V (As := [.int (iI x2)]) (rest := [.ref (ad c)]) q0 (c_X2_byteAt l D cy ad σ q0 hq0 x2 (by omega)) hx hb hml hown hts hK hN hI hl.1 gX2_become_X2_byteAt rfl hd_X2_byteAt rfl rfl ⟨Nat.le_of_ble_eq_true rfl, Nat.le_of_ble_eq_true rfl⟩ ⟨Nat.zero_le _, Nat.zero_le _⟩ (by have q := hq0; omega) (cel_Pl cy ad hq0 _) rfl rfl rfl rfl (Nat.le_of_ble_eq_true rfl) dX2_become_21 (fun H locs hG_6 hI => ?_)
      refine g_V (As := [.int (iI (f_X2_byteAt σ q0 x2))]) (rest := []) c (c_X2_add l D cy ad σ c hc (f_X2_byteAt σ q0 x2) (by omega)) hx hb hml hown hts hK hN hI hl.1 gX2_become_X2_add rfl hd_X2_add rfl rfl ⟨Nat.le_of_ble_eq_true rfl, Nat.le_of_ble_eq_true rfl⟩ ⟨Nat.zero_le _, Nat.zero_le _⟩ (by have q := hc; omega) (cel_Pl cy ad hc _) rfl rfl rfl rfl (Nat.le_of_ble_eq_true rfl) dX2_become_24 (fun H locs hG_7 hI => ?_)
      have hF_8 := hI.2.2.2
      refine lv_iinc (v := iI (x2 + 1)) (lv' := [(2, .int (iI (x2 + 1))), (0, .ref (ad c)), (1, .ref (ad q0))]) hx hb dX2_become_27 hl (k := 2) rfl (iI_add _ _) (by decide) rfl (fun ls hl => ?_)
      refine lv_goto (tgt := 10) hx hb dX2_become_30 (by decide) ?_
      have e9 : L_X2_become_10 c q0 (n + 1) x2 σ = L_X2_become_10 c q0 n (x2 + 1) (f_X2_add σ c (f_X2_byteAt σ q0 x2)) := by rw [L_X2_become_10, if_neg c_5]
      rw [e9] at hk
      exact ih (x2 + 1) (f_X2_add σ c (f_X2_byteAt σ q0 x2)) (by omega) (by omega) _ _ _ hI (lv_sub hl [1, 2, 0] rfl) hk
def f_X2_become (σ : Sg) (c : Nat) (q0 : Nat) : Sg := (L_X2_become_10 c q0 13 0 (f_X2_begin σ c (σ q0 1)))
theorem hd_X2_become : yX2_become.cls = RX2 ∧ yX2_become.cls ≠ "java/lang/invoke/MethodHandle" ∧ yX2_become.cls ≠ "java/lang/invoke/VarHandle" ∧ (parseMethodDescriptor yX2_become.desc).map (fun d => d.parameters.length) = some 1 := by decide +kernel
set_option maxHeartbeats 4000000 in
set_option maxRecDepth 100000 in
theorem c_X2_become (l : Launch) (D : va_G) (cy : Nat → ClassId) (ad : Nat → Nat) (σ : Sg) (c : Nat) (hc : isPl c) (q0 : Nat) (hq0 : isPl q0) : CM l D cy ad yX2_become wsX2_become { frames := 1, cells := 0, slots := 0, locals := 40 } [.ref (ad c), .ref (ad q0)] σ none (f_X2_become σ c q0) (True) := by
  refine CM.of (cc := cX2_become) (maxL := 3) (ret := none) (by decide) rfl (Nat.le_of_ble_eq_true rfl) ?_
  intro p e s m args below meth c₀ ls X hI hl
  have hl : lv_has ls 3 [(0, .ref (ad c)), (1, .ref (ad q0))] := hl
  obtain ⟨hx, hb, hr, hml, hown, hts, hlocks, hK, hN⟩ := id X
  have hF := hI.2.2.2
  refine lv_aload_n hx hb dX2_become_0 rfl (lv_at hl 0 rfl) ?_
  refine lv_aload_n hx hb dX2_become_1 rfl (lv_at hl 1 rfl) ?_
  refine g_get (C := RX2) (T := TX2) (N := 3) (ci := 2) (v := .int (iI (σ q0 1))) hx hb hts in_X2_become_X2 hown hK hI q0 (by have q := hq0; omega) (cel_Pl cy ad hq0 _) rfl 1 (by decide) (by decide +kernel) rfl dX2_become_2 ?_
  have b_1 := bd_Pl_1 hF hq0
  refine g_V (As := [.int (iI (σ q0 1))]) (rest := []) c (c_X2_begin l D cy ad σ c hc (σ q0 1) (by omega)) hx hb hml hown hts hK hN hI hl.1 gX2_become_X2_begin rfl hd_X2_begin rfl rfl ⟨Nat.le_of_ble_eq_true rfl, Nat.le_of_ble_eq_true rfl⟩ ⟨Nat.zero_le _, Nat.zero_le _⟩ (by have q := hc; omega) (cel_Pl cy ad hc _) rfl rfl rfl rfl (Nat.le_of_ble_eq_true rfl) dX2_become_5 (fun H locs hG_2 hI => ?_)
  have hF_3 := hI.2.2.2
  refine lv_iconst (v := iI 0) hx hb dX2_become_8 rfl ?_
  refine lv_istore_n (lv' := [(2, .int (iI 0)), (0, .ref (ad c)), (1, .ref (ad q0))]) hx hb dX2_become_9 rfl hl (by decide) rfl (fun ls hl => ?_)
  refine w_L_X2_become_10 X  c hc q0 hq0  13 0 (f_X2_begin σ c (σ q0 1)) (by omega) (by omega) _ _ _ hI (lv_sub hl [1, 2, 0] rfl) (fun H locs ls hpo_10 hI hl => ?_)
  have hF_9 := hI.2.2.2
  have e9 : f_X2_become σ c q0 = (L_X2_become_10 c q0 13 0 (f_X2_begin σ c (σ q0 1))) := by rw [f_X2_become]
  exact g_vret hx hb hr hK hN hlocks hI (by rw [e9]) trivial dX2_become_33
def f_X2_becomeSpare (σ : Sg) (c : Nat) (a0 : Int) (a1 : Int) : Sg := (if a1 < 10 then (f_X2_add (f_X2_add (f_X2_begin σ c a0) c 126) c (48 + (a1 % 10))) else (f_X2_add (f_X2_add (f_X2_add (f_X2_begin σ c a0) c 126) c (48 + (a1 / 10))) c (48 + (a1 % 10))))
theorem hd_X2_becomeSpare : yX2_becomeSpare.cls = RX2 ∧ yX2_becomeSpare.cls ≠ "java/lang/invoke/MethodHandle" ∧ yX2_becomeSpare.cls ≠ "java/lang/invoke/VarHandle" ∧ (parseMethodDescriptor yX2_becomeSpare.desc).map (fun d => d.parameters.length) = some 2 := by decide +kernel
set_option maxHeartbeats 4000000 in
set_option maxRecDepth 100000 in
theorem c_X2_becomeSpare (l : Launch) (D : va_G) (cy : Nat → ClassId) (ad : Nat → Nat) (σ : Sg) (c : Nat) (hc : isPl c) (a0 : Int) (ha0 : (0 : Int) ≤ a0 ∧ a0 ≤ 5) (a1 : Int) (ha1 : (0 : Int) ≤ a1 ∧ a1 ≤ 39) : CM l D cy ad yX2_becomeSpare wsX2_becomeSpare { frames := 1, cells := 0, slots := 0, locals := 40 } [.ref (ad c), .int (iI a0), .int (iI a1)] σ none (f_X2_becomeSpare σ c a0 a1) (True) := by
  refine CM.of (cc := cX2_becomeSpare) (maxL := 3) (ret := none) (by decide) rfl (Nat.le_of_ble_eq_true rfl) ?_
  intro p e s m args below meth c₀ ls X hI hl
  have hl : lv_has ls 3 [(0, .ref (ad c)), (1, .int (iI a0)), (2, .int (iI a1))] := hl
  obtain ⟨hx, hb, hr, hml, hown, hts, hlocks, hK, hN⟩ := id X
  have hF := hI.2.2.2
  refine lv_aload_n hx hb dX2_becomeSpare_0 rfl (lv_at hl 0 rfl) ?_
  refine lv_iload_n hx hb dX2_becomeSpare_1 rfl (lv_at hl 1 rfl) ?_
  refine g_V (As := [.int (iI a0)]) (rest := []) c (c_X2_begin l D cy ad σ c hc a0 (by omega)) hx hb hml hown hts hK hN hI hl.1 gX2_becomeSpare_X2_begin rfl hd_X2_begin rfl rfl ⟨Nat.le_of_ble_eq_true rfl, Nat.le_of_ble_eq_true rfl⟩ ⟨Nat.zero_le _, Nat.zero_le _⟩ (by have q := hc; omega) (cel_Pl cy ad hc _) rfl rfl rfl rfl (Nat.le_of_ble_eq_true rfl) dX2_becomeSpare_2 (fun H locs hG_1 hI => ?_)
  have hF_2 := hI.2.2.2
  refine lv_aload_n hx hb dX2_becomeSpare_5 rfl (lv_at hl 0 rfl) ?_
  refine lv_bipush (v := iI 126) hx hb dX2_becomeSpare_6 (iI_bip (by decide)) ?_
  refine g_V (As := [.int (iI 126)]) (rest := []) c (c_X2_add l D cy ad (f_X2_begin σ c a0) c hc 126 (by omega)) hx hb hml hown hts hK hN hI hl.1 gX2_becomeSpare_X2_add rfl hd_X2_add rfl rfl ⟨Nat.le_of_ble_eq_true rfl, Nat.le_of_ble_eq_true rfl⟩ ⟨Nat.zero_le _, Nat.zero_le _⟩ (by have q := hc; omega) (cel_Pl cy ad hc _) rfl rfl rfl rfl (Nat.le_of_ble_eq_true rfl) dX2_becomeSpare_8 (fun H locs hG_3 hI => ?_)
  have hF_4 := hI.2.2.2
  refine lv_iload_n hx hb dX2_becomeSpare_11 rfl (lv_at hl 2 rfl) ?_
  refine lv_bipush (v := iI 10) hx hb dX2_becomeSpare_12 (iI_bip (by decide)) ?_
  refine g_icmp_lt (tgt := 28) hx hb dX2_becomeSpare_14 (by decide) (by omega) (by omega) (fun c_5 => ?_) (fun c_5 => ?_)
  · skip
    refine lv_aload_n hx hb dX2_becomeSpare_28 rfl (lv_at hl 0 rfl) ?_
    refine lv_bipush (v := iI 48) hx hb dX2_becomeSpare_29 (iI_bip (by decide)) ?_
    refine lv_iload_n hx hb dX2_becomeSpare_31 rfl (lv_at hl 2 rfl) ?_
    refine lv_bipush (v := iI 10) hx hb dX2_becomeSpare_32 (iI_bip (by decide)) ?_
    refine g_irem hx hb (by omega) (by omega) dX2_becomeSpare_34 ?_
    refine g_iadd hx hb dX2_becomeSpare_35 ?_
    refine g_V (As := [.int (iI (48 + (a1 % 10)))]) (rest := []) c (c_X2_add l D cy ad (f_X2_add (f_X2_begin σ c a0) c 126) c hc (48 + (a1 % 10)) (by omega)) hx hb hml hown hts hK hN hI hl.1 gX2_becomeSpare_X2_add rfl hd_X2_add rfl rfl ⟨Nat.le_of_ble_eq_true rfl, Nat.le_of_ble_eq_true rfl⟩ ⟨Nat.zero_le _, Nat.zero_le _⟩ (by have q := hc; omega) (cel_Pl cy ad hc _) rfl rfl rfl rfl (Nat.le_of_ble_eq_true rfl) dX2_becomeSpare_36 (fun H locs hG_6 hI => ?_)
    have hF_7 := hI.2.2.2
    have e9 : f_X2_becomeSpare σ c a0 a1 = (f_X2_add (f_X2_add (f_X2_begin σ c a0) c 126) c (48 + (a1 % 10))) := by rw [f_X2_becomeSpare, if_pos c_5]
    exact g_vret hx hb hr hK hN hlocks hI (by rw [e9]) trivial dX2_becomeSpare_39
  · skip
    refine lv_aload_n hx hb dX2_becomeSpare_17 rfl (lv_at hl 0 rfl) ?_
    refine lv_bipush (v := iI 48) hx hb dX2_becomeSpare_18 (iI_bip (by decide)) ?_
    refine lv_iload_n hx hb dX2_becomeSpare_20 rfl (lv_at hl 2 rfl) ?_
    refine lv_bipush (v := iI 10) hx hb dX2_becomeSpare_21 (iI_bip (by decide)) ?_
    refine g_idiv hx hb (by omega) (by omega) dX2_becomeSpare_23 ?_
    have b_8 := ediv_rng (a := a1) (b := 10) (by omega) (by omega)
    refine g_iadd hx hb dX2_becomeSpare_24 ?_
    refine g_V (As := [.int (iI (48 + (a1 / 10)))]) (rest := []) c (c_X2_add l D cy ad (f_X2_add (f_X2_begin σ c a0) c 126) c hc (48 + (a1 / 10)) (by omega)) hx hb hml hown hts hK hN hI hl.1 gX2_becomeSpare_X2_add rfl hd_X2_add rfl rfl ⟨Nat.le_of_ble_eq_true rfl, Nat.le_of_ble_eq_true rfl⟩ ⟨Nat.zero_le _, Nat.zero_le _⟩ (by have q := hc; omega) (cel_Pl cy ad hc _) rfl rfl rfl rfl (Nat.le_of_ble_eq_true rfl) dX2_becomeSpare_25 (fun H locs hG_9 hI => ?_)
    have hF_10 := hI.2.2.2
    refine lv_aload_n hx hb dX2_becomeSpare_28 rfl (lv_at hl 0 rfl) ?_
    refine lv_bipush (v := iI 48) hx hb dX2_becomeSpare_29 (iI_bip (by decide)) ?_
    refine lv_iload_n hx hb dX2_becomeSpare_31 rfl (lv_at hl 2 rfl) ?_
    refine lv_bipush (v := iI 10) hx hb dX2_becomeSpare_32 (iI_bip (by decide)) ?_
    refine g_irem hx hb (by omega) (by omega) dX2_becomeSpare_34 ?_
    refine g_iadd hx hb dX2_becomeSpare_35 ?_
    refine g_V (As := [.int (iI (48 + (a1 % 10)))]) (rest := []) c (c_X2_add l D cy ad (f_X2_add (f_X2_add (f_X2_begin σ c a0) c 126) c (48 + (a1 / 10))) c hc (48 + (a1 % 10)) (by omega)) hx hb hml hown hts hK hN hI hl.1 gX2_becomeSpare_X2_add rfl hd_X2_add rfl rfl ⟨Nat.le_of_ble_eq_true rfl, Nat.le_of_ble_eq_true rfl⟩ ⟨Nat.zero_le _, Nat.zero_le _⟩ (by have q := hc; omega) (cel_Pl cy ad hc _) rfl rfl rfl rfl (Nat.le_of_ble_eq_true rfl) dX2_becomeSpare_36 (fun H locs hG_11 hI => ?_)
    have hF_12 := hI.2.2.2
    have e9 : f_X2_becomeSpare σ c a0 a1 = (f_X2_add (f_X2_add (f_X2_add (f_X2_begin σ c a0) c 126) c (48 + (a1 / 10))) c (48 + (a1 % 10))) := by rw [f_X2_becomeSpare, if_neg c_5]
    exact g_vret hx hb hr hK hN hlocks hI (by rw [e9]) trivial dX2_becomeSpare_39
def f_X2_isSpare (σ : Sg) (c : Nat) : Int := (if (f_X2_byteAt σ c 0) = 126 then 1 else 0)
theorem hd_X2_isSpare : yX2_isSpare.cls = RX2 ∧ yX2_isSpare.cls ≠ "java/lang/invoke/MethodHandle" ∧ yX2_isSpare.cls ≠ "java/lang/invoke/VarHandle" ∧ (parseMethodDescriptor yX2_isSpare.desc).map (fun d => d.parameters.length) = some 0 := by decide +kernel
set_option maxHeartbeats 4000000 in
set_option maxRecDepth 100000 in
theorem c_X2_isSpare (l : Launch) (D : va_G) (cy : Nat → ClassId) (ad : Nat → Nat) (σ : Sg) (c : Nat) (hc : isPl c) : CM l D cy ad yX2_isSpare wsX2_isSpare { frames := 1, cells := 0, slots := 0, locals := 40 } [.ref (ad c)] σ (some (.int (iI (f_X2_isSpare σ c)))) σ ((0 ≤ f_X2_isSpare σ c ∧ f_X2_isSpare σ c ≤ 1)) := by
  refine CM.of (cc := cX2_isSpare) (maxL := 1) (ret := (some .boolean)) (by decide) rfl (Nat.le_of_ble_eq_true rfl) ?_
  intro p e s m args below meth c₀ ls X hI hl
  have hl : lv_has ls 1 [(0, .ref (ad c))] := hl
  obtain ⟨hx, hb, hr, hml, hown, hts, hlocks, hK, hN⟩ := id X
  have hF := hI.2.2.2
  refine lv_aload_n hx hb dX2_isSpare_0 rfl (lv_at hl 0 rfl) ?_
  refine lv_iconst (v := iI 0) hx hb dX2_isSpare_1 rfl ?_
  refine g_V (As := [.int (iI 0)]) (rest := []) c (c_X2_byteAt l D cy ad σ c hc 0 (by omega)) hx hb hml hown hts hK hN hI hl.1 gX2_isSpare_X2_byteAt rfl hd_X2_byteAt rfl rfl ⟨Nat.le_of_ble_eq_true rfl, Nat.le_of_ble_eq_true rfl⟩ ⟨Nat.zero_le _, Nat.zero_le _⟩ (by have q := hc; omega) (cel_Pl cy ad hc _) rfl rfl rfl rfl (Nat.le_of_ble_eq_true rfl) dX2_isSpare_2 (fun H locs hG_1 hI => ?_)
  refine lv_bipush (v := iI 126) hx hb dX2_isSpare_5 (iI_bip (by decide)) ?_
  refine g_icmp_ne (tgt := 14) hx hb dX2_isSpare_7 (by decide) (by omega) (by omega) (fun c_2 => ?_) (fun c_2 => ?_)
  · skip
    refine lv_iconst (v := iI 0) hx hb dX2_isSpare_14 rfl ?_
    have e9 : f_X2_isSpare σ c = 0 := by rw [f_X2_isSpare, if_neg c_2]
    exact g_zret (z := 0) hx hb hr hK hN hlocks hI e9.symm rfl (by rw [e9] <;> first | (omega) | (dsimp only; omega)) (by omega) dX2_isSpare_15
  · skip
    refine lv_iconst (v := iI 1) hx hb dX2_isSpare_10 rfl ?_
    refine lv_goto (tgt := 15) hx hb dX2_isSpare_11 (by decide) ?_
    have e9 : f_X2_isSpare σ c = 1 := by rw [f_X2_isSpare, if_pos c_2]
    exact g_zret (z := 1) hx hb hr hK hN hlocks hI e9.symm rfl (by rw [e9] <;> first | (omega) | (dsimp only; omega)) (by omega) dX2_isSpare_15
theorem in_X2_isAlike_X2 : ∀ w ∈ u_ws RX2 TX2 3, w ∈ wsX2_isAlike := by decide +kernel
def L_X2_isAlike_26 (σ : Sg) (c : Nat) (q0 : Nat) (a1 : Int) : Nat → Int → Int
  | 0, x3 => 0
  | n + 1, x3 => (if (σ c 2) ≤ x3 then 1 else (if (f_X2_byteAt σ c x3) = (f_X2_byteAt σ q0 x3) then L_X2_isAlike_26 σ c q0 a1 n (x3 + 1) else (if a1 = 0 then 0 else (if (f_X6_small (f_X2_byteAt σ c x3)) = (f_X6_small (f_X2_byteAt σ q0 x3)) then L_X2_isAlike_26 σ c q0 a1 n (x3 + 1) else 0))))
set_option maxHeartbeats 4000000 in
set_option maxRecDepth 100000 in
theorem w_L_X2_isAlike_26 {p : Program} {l : Launch} {e : Env} {s : State} {m : MethodId} {args : Array Value} {below : List Frame} {meth : Method} {c₀ : Code} {D : va_G} {cy : Nat → ClassId} {ad : Nat → Nat} (X : MX p s m args meth c₀ cX2_isAlike 6 RX2 (some .boolean) wsX2_isAlike D cy) (σ : Sg) (c : Nat) (hc : isPl c) (q0 : Nat) (hq0 : isPl q0) (a1 : Int) (ha1 : (0 : Int) ≤ a1 ∧ a1 ≤ 1) : ∀ (n : Nat) (x3 : Int) (hx3 : (0 : Int) ≤ x3 ∧ x3 ≤ 12) (hmu : 12 - x3 < (n : Int)) (H : Heap) (locs : List Loc) (ls : Array Slot) (hI : HI D cy ad s σ H locs) (hl : lv_has ls 6 [(0, .ref (ad c)), (1, .ref (ad q0)), (2, .int (iI a1)), (3, .int (iI x3))]), W p l e { frames := 1, cells := 0, slots := 0, locals := 40 } s m args below meth c₀ H locs 0 0 (MQ below (CQ D cy ad (some (.int (iI (L_X2_isAlike_26 σ c q0 a1 n x3)))) σ ((0 ≤ L_X2_isAlike_26 σ c q0 a1 n x3 ∧ L_X2_isAlike_26 σ c q0 a1 n x3 ≤ 1)) (AA ad s.heap.size)) args s 0 0 (AA ad s.heap.size)) (F0 m 26 ls []) := by
  obtain ⟨hx, hb, hr, hml, hown, hts, hlocks, hK, hN⟩ := id X
  intro n
  induction n with
  | zero =>
    intro x3 hx3 hmu H locs ls hI hl
    exfalso
    have hF := hI.2.2.2
    omega
  | succ n ih =>
    intro x3 hx3 hmu H locs ls hI hl
    have hF := hI.2.2.2
    refine lv_iload_n hx hb dX2_isAlike_26 rfl (lv_at hl 3 rfl) ?_
    refine lv_aload_n hx hb dX2_isAlike_27 rfl (lv_at hl 0 rfl) ?_
    refine g_get (C := RX2) (T := TX2) (N := 3) (ci := 2) (v := .int (iI (σ c 2))) hx hb hts in_X2_isAlike_X2 hown hK hI c (by have q := hc; omega) (cel_Pl cy ad hc _) rfl 2 (by decide) (by decide +kernel) rfl dX2_isAlike_28 ?_
    have b_7 := bd_Pl_2 hF hc
    refine g_icmp_ge (tgt := 80) hx hb dX2_isAlike_31 (by decide) (by omega) (by omega) (fun c_8 => ?_) (fun c_8 => ?_)
    · skip
      refine lv_iconst (v := iI 1) hx hb dX2_isAlike_80 rfl ?_
      have e9 : L_X2_isAlike_26 σ c q0 a1 (n + 1) x3 = 1 := by rw [L_X2_isAlike_26, if_pos c_8]
      exact g_zret (z := 1) hx hb hr hK hN hlocks hI e9.symm rfl (by rw [e9] <;> first | (omega) | (dsimp only; omega)) (by omega) dX2_isAlike_81
    · skip
      refine lv_aload_n hx hb dX2_isAlike_34 rfl (lv_at hl 0 rfl) ?_
      refine lv_iload_n hx hb dX2_isAlike_35 rfl (lv_at hl 3 rfl) ?_
      refine g_V (As := [.int (iI x3)]) (rest := []) c (c_X2_byteAt l D cy ad σ c hc x3 (by omega)) hx hb hml hown hts hK hN hI hl.1 gX2_isAlike_X2_byteAt rfl hd_X2_byteAt rfl rfl ⟨Nat.le_of_ble_eq_true rfl, Nat.le_of_ble_eq_true rfl⟩ ⟨Nat.zero_le _, Nat.zero_le _⟩ (by have q := hc; omega) (cel_Pl cy ad hc _) rfl rfl rfl rfl (Nat.le_of_ble_eq_true rfl) dX2_isAlike_36 (fun H locs hG_9 hI => ?_)
      refine lv_istore (lv' := [(4, .int (iI (f_X2_byteAt σ c x3))), (0, .ref (ad c)), (1, .ref (ad q0)), (2, .int (iI a1)), (3, .int (iI x3))]) hx hb dX2_isAlike_39 hl (by decide) rfl (fun ls hl => ?_)
      refine lv_aload_n hx hb dX2_isAlike_41 rfl (lv_at hl 2 rfl) ?_
      refine lv_iload_n hx hb dX2_isAlike_42 rfl (lv_at hl 4 rfl) ?_
      refine g_V (As := [.int (iI x3)]) (rest := []) q0 (c_X2_byteAt l D cy ad σ q0 hq0 x3 (by omega)) hx hb hml hown hts hK hN hI hl.1 gX2_isAlike_X2_byteAt rfl hd_X2_byteAt rfl rfl ⟨Nat.le_of_ble_eq_true rfl, Nat.le_of_ble_eq_true rfl⟩ ⟨Nat.zero_le _, Nat.zero_le _⟩ (by have q := hq0; omega) (cel_Pl cy ad hq0 _) rfl rfl rfl rfl (Nat.le_of_ble_eq_true rfl) dX2_isAlike_43 (fun H locs hG_10 hI => ?_)
      refine lv_istore (lv' := [(5, .int (iI (f_X2_byteAt σ q0 x3))), (4, .int (iI (f_X2_byteAt σ c x3))), (0, .ref (ad c)), (1, .ref (ad q0)), (2, .int (iI a1)), (3, .int (iI x3))]) hx hb dX2_isAlike_46 hl (by decide) rfl (fun ls hl => ?_)
      refine lv_iload hx hb dX2_isAlike_48 (lv_at hl 1 rfl) ?_
      refine lv_iload hx hb dX2_isAlike_50 (lv_at hl 0 rfl) ?_
      refine g_icmp_eq (tgt := 74) hx hb dX2_isAlike_52 (by decide) (by omega) (by omega) (fun c_11 => ?_) (fun c_11 => ?_)
      · skip
        refine lv_iinc (v := iI (x3 + 1)) (lv' := [(3, .int (iI (x3 + 1))), (5, .int (iI (f_X2_byteAt σ q0 x3))), (4, .int (iI (f_X2_byteAt σ c x3))), (0, .ref (ad c)), (1, .ref (ad q0)), (2, .int (iI a1))]) hx hb dX2_isAlike_74 hl (k := 5) rfl (iI_add _ _) (by decide) rfl (fun ls hl => ?_)
        refine lv_goto (tgt := 26) hx hb dX2_isAlike_77 (by decide) ?_
        have e9 : L_X2_isAlike_26 σ c q0 a1 (n + 1) x3 = L_X2_isAlike_26 σ c q0 a1 n (x3 + 1) := by rw [L_X2_isAlike_26, if_neg c_8, if_pos c_11]
        rw [e9]
        exact ih (x3 + 1)  (by omega) (by omega) _ _ _ hI (lv_sub hl [3, 4, 5, 0] rfl)
      · skip
        refine lv_iload_n hx hb dX2_isAlike_55 rfl (lv_at hl 4 rfl) ?_
        refine g_if_eq (tgt := 72) hx hb dX2_isAlike_56 (by decide) (by omega) (fun c_12 => ?_) (fun c_12 => ?_)
        · skip
          refine lv_iconst (v := iI 0) hx hb dX2_isAlike_72 rfl ?_
          have e9 : L_X2_isAlike_26 σ c q0 a1 (n + 1) x3 = 0 := by rw [L_X2_isAlike_26, if_neg c_8, if_neg c_11, if_pos c_12]
          exact g_zret (z := 0) hx hb hr hK hN hlocks hI e9.symm rfl (by rw [e9] <;> first | (omega) | (dsimp only; omega)) (by omega) dX2_isAlike_73
        · skip
          refine lv_iload hx hb dX2_isAlike_59 (lv_at hl 1 rfl) ?_
          refine g_S (As := [.int (iI (f_X2_byteAt σ c x3))]) (rest := []) (c_X6_small l D cy ad σ (f_X2_byteAt σ c x3) (by omega)) hx hb hml hown hts hK hN hI hl.1 gX2_isAlike_X6_small rfl hd_X6_small rfl rfl ⟨Nat.le_of_ble_eq_true rfl, Nat.le_of_ble_eq_true rfl⟩ ⟨Nat.zero_le _, Nat.zero_le _⟩ rfl rfl (Nat.le_of_ble_eq_true rfl) dX2_isAlike_61 (fun H locs hG_13 hI => ?_)
          refine lv_iload hx hb dX2_isAlike_64 (lv_at hl 0 rfl) ?_
          refine g_S (As := [.int (iI (f_X2_byteAt σ q0 x3))]) (rest := [.int (iI (f_X6_small (f_X2_byteAt σ c x3)))]) (c_X6_small l D cy ad σ (f_X2_byteAt σ q0 x3) (by omega)) hx hb hml hown hts hK hN hI hl.1 gX2_isAlike_X6_small rfl hd_X6_small rfl rfl ⟨Nat.le_of_ble_eq_true rfl, Nat.le_of_ble_eq_true rfl⟩ ⟨Nat.zero_le _, Nat.zero_le _⟩ rfl rfl (Nat.le_of_ble_eq_true rfl) dX2_isAlike_66 (fun H locs hG_14 hI => ?_)
          refine g_icmp_eq (tgt := 74) hx hb dX2_isAlike_69 (by decide) (by omega) (by omega) (fun c_15 => ?_) (fun c_15 => ?_)
          · skip
            refine lv_iinc (v := iI (x3 + 1)) (lv' := [(3, .int (iI (x3 + 1))), (5, .int (iI (f_X2_byteAt σ q0 x3))), (4, .int (iI (f_X2_byteAt σ c x3))), (0, .ref (ad c)), (1, .ref (ad q0)), (2, .int (iI a1))]) hx hb dX2_isAlike_74 hl (k := 5) rfl (iI_add _ _) (by decide) rfl (fun ls hl => ?_)
            refine lv_goto (tgt := 26) hx hb dX2_isAlike_77 (by decide) ?_
            have e9 : L_X2_isAlike_26 σ c q0 a1 (n + 1) x3 = L_X2_isAlike_26 σ c q0 a1 n (x3 + 1) := by rw [L_X2_isAlike_26, if_neg c_8, if_neg c_11, if_neg c_12, if_pos c_15]
            rw [e9]
            exact ih (x3 + 1)  (by omega) (by omega) _ _ _ hI (lv_sub hl [3, 4, 5, 0] rfl)
          · skip
            refine lv_iconst (v := iI 0) hx hb dX2_isAlike_72 rfl ?_
            have e9 : L_X2_isAlike_26 σ c q0 a1 (n + 1) x3 = 0 := by rw [L_X2_isAlike_26, if_neg c_8, if_neg c_11, if_neg c_12, if_neg c_15]
            exact g_zret (z := 0) hx hb hr hK hN hlocks hI e9.symm rfl (by rw [e9] <;> first | (omega) | (dsimp only; omega)) (by omega) dX2_isAlike_73
def f_X2_isAlike (σ : Sg) (c : Nat) (q0 : Nat) (a1 : Int) : Int := (if (σ c 1) = (σ q0 1) then (if (σ c 2) = (σ q0 2) then L_X2_isAlike_26 σ c q0 a1 13 0 else 0) else 0)
theorem hd_X2_isAlike : yX2_isAlike.cls = RX2 ∧ yX2_isAlike.cls ≠ "java/lang/invoke/MethodHandle" ∧ yX2_isAlike.cls ≠ "java/lang/invoke/VarHandle" ∧ (parseMethodDescriptor yX2_isAlike.desc).map (fun d => d.parameters.length) = some 2 := by decide +kernel
set_option maxHeartbeats 4000000 in
set_option maxRecDepth 100000 in
theorem c_X2_isAlike (l : Launch) (D : va_G) (cy : Nat → ClassId) (ad : Nat → Nat) (σ : Sg) (c : Nat) (hc : isPl c) (q0 : Nat) (hq0 : isPl q0) (a1 : Int) (ha1 : (0 : Int) ≤ a1 ∧ a1 ≤ 1) : CM l D cy ad yX2_isAlike wsX2_isAlike { frames := 1, cells := 0, slots := 0, locals := 40 } [.ref (ad c), .ref (ad q0), .int (iI a1)] σ (some (.int (iI (f_X2_isAlike σ c q0 a1)))) σ ((0 ≤ f_X2_isAlike σ c q0 a1 ∧ f_X2_isAlike σ c q0 a1 ≤ 1)) := by
  refine CM.of (cc := cX2_isAlike) (maxL := 6) (ret := (some .boolean)) (by decide) rfl (Nat.le_of_ble_eq_true rfl) ?_
  intro p e s m args below meth c₀ ls X hI hl
  have hl : lv_has ls 6 [(0, .ref (ad c)), (1, .ref (ad q0)), (2, .int (iI a1))] := hl
  obtain ⟨hx, hb, hr, hml, hown, hts, hlocks, hK, hN⟩ := id X
  have hF := hI.2.2.2
  refine lv_aload_n hx hb dX2_isAlike_0 rfl (lv_at hl 0 rfl) ?_
  refine g_get (C := RX2) (T := TX2) (N := 3) (ci := 2) (v := .int (iI (σ c 1))) hx hb hts in_X2_isAlike_X2 hown hK hI c (by have q := hc; omega) (cel_Pl cy ad hc _) rfl 1 (by decide) (by decide +kernel) rfl dX2_isAlike_1 ?_
  have b_1 := bd_Pl_1 hF hc
  refine lv_aload_n hx hb dX2_isAlike_4 rfl (lv_at hl 1 rfl) ?_
  refine g_get (C := RX2) (T := TX2) (N := 3) (ci := 2) (v := .int (iI (σ q0 1))) hx hb hts in_X2_isAlike_X2 hown hK hI q0 (by have q := hq0; omega) (cel_Pl cy ad hq0 _) rfl 1 (by decide) (by decide +kernel) rfl dX2_isAlike_5 ?_
  have b_2 := bd_Pl_1 hF hq0
  refine g_icmp_ne (tgt := 22) hx hb dX2_isAlike_8 (by decide) (by omega) (by omega) (fun c_3 => ?_) (fun c_3 => ?_)
  · skip
    refine lv_iconst (v := iI 0) hx hb dX2_isAlike_22 rfl ?_
    have e9 : f_X2_isAlike σ c q0 a1 = 0 := by rw [f_X2_isAlike, if_neg c_3]
    exact g_zret (z := 0) hx hb hr hK hN hlocks hI e9.symm rfl (by rw [e9] <;> first | (omega) | (dsimp only; omega)) (by omega) dX2_isAlike_23
  · skip
    refine lv_aload_n hx hb dX2_isAlike_11 rfl (lv_at hl 0 rfl) ?_
    refine g_get (C := RX2) (T := TX2) (N := 3) (ci := 2) (v := .int (iI (σ c 2))) hx hb hts in_X2_isAlike_X2 hown hK hI c (by have q := hc; omega) (cel_Pl cy ad hc _) rfl 2 (by decide) (by decide +kernel) rfl dX2_isAlike_12 ?_
    have b_4 := bd_Pl_2 hF hc
    refine lv_aload_n hx hb dX2_isAlike_15 rfl (lv_at hl 1 rfl) ?_
    refine g_get (C := RX2) (T := TX2) (N := 3) (ci := 2) (v := .int (iI (σ q0 2))) hx hb hts in_X2_isAlike_X2 hown hK hI q0 (by have q := hq0; omega) (cel_Pl cy ad hq0 _) rfl 2 (by decide) (by decide +kernel) rfl dX2_isAlike_16 ?_
    have b_5 := bd_Pl_2 hF hq0
    refine g_icmp_eq (tgt := 24) hx hb dX2_isAlike_19 (by decide) (by omega) (by omega) (fun c_6 => ?_) (fun c_6 => ?_)
    · skip
      refine lv_iconst (v := iI 0) hx hb dX2_isAlike_24 rfl ?_
      refine lv_istore_n (lv' := [(3, .int (iI 0)), (0, .ref (ad c)), (1, .ref (ad q0)), (2, .int (iI a1))]) hx hb dX2_isAlike_25 rfl hl (by decide) rfl (fun ls hl => ?_)
      have e9 : f_X2_isAlike σ c q0 a1 = L_X2_isAlike_26 σ c q0 a1 13 0 := by rw [f_X2_isAlike, if_pos c_3, if_pos c_6]
      rw [e9]
      exact w_L_X2_isAlike_26 X σ c hc q0 hq0 a1 ha1  13 0  (by omega) (by omega) _ _ _ hI (lv_sub hl [1, 2, 3, 0] rfl)
    · skip
      refine lv_iconst (v := iI 0) hx hb dX2_isAlike_22 rfl ?_
      have e9 : f_X2_isAlike σ c q0 a1 = 0 := by rw [f_X2_isAlike, if_pos c_3, if_neg c_6]
      exact g_zret (z := 0) hx hb hr hK hN hlocks hI e9.symm rfl (by rw [e9] <;> first | (omega) | (dsimp only; omega)) (by omega) dX2_isAlike_23
def f_X2_isJust (σ : Sg) (c : Nat) (q0 : Nat) : Int := f_X2_isAlike σ c q0 0
theorem hd_X2_isJust : yX2_isJust.cls = RX2 ∧ yX2_isJust.cls ≠ "java/lang/invoke/MethodHandle" ∧ yX2_isJust.cls ≠ "java/lang/invoke/VarHandle" ∧ (parseMethodDescriptor yX2_isJust.desc).map (fun d => d.parameters.length) = some 1 := by decide +kernel
set_option maxHeartbeats 4000000 in
set_option maxRecDepth 100000 in
theorem c_X2_isJust (l : Launch) (D : va_G) (cy : Nat → ClassId) (ad : Nat → Nat) (σ : Sg) (c : Nat) (hc : isPl c) (q0 : Nat) (hq0 : isPl q0) : CM l D cy ad yX2_isJust wsX2_isJust { frames := 2, cells := 0, slots := 0, locals := 80 } [.ref (ad c), .ref (ad q0)] σ (some (.int (iI (f_X2_isJust σ c q0)))) σ ((0 ≤ f_X2_isJust σ c q0 ∧ f_X2_isJust σ c q0 ≤ 1)) := by
  refine CM.of (cc := cX2_isJust) (maxL := 2) (ret := (some .boolean)) (by decide) rfl (Nat.le_of_ble_eq_true rfl) ?_
  intro p e s m args below meth c₀ ls X hI hl
  have hl : lv_has ls 2 [(0, .ref (ad c)), (1, .ref (ad q0))] := hl
  obtain ⟨hx, hb, hr, hml, hown, hts, hlocks, hK, hN⟩ := id X
  have hF := hI.2.2.2
  refine lv_aload_n hx hb dX2_isJust_0 rfl (lv_at hl 0 rfl) ?_
  refine lv_aload_n hx hb dX2_isJust_1 rfl (lv_at hl 1 rfl) ?_
  refine lv_iconst (v := iI 0) hx hb dX2_isJust_2 rfl ?_
  refine g_V (As := [.ref (ad q0), .int (iI 0)]) (rest := []) c (c_X2_isAlike l D cy ad σ c hc q0 hq0 0 (by omega)) hx hb hml hown hts hK hN hI hl.1 gX2_isJust_X2_isAlike rfl hd_X2_isAlike rfl rfl ⟨Nat.le_of_ble_eq_true rfl, Nat.le_of_ble_eq_true rfl⟩ ⟨Nat.zero_le _, Nat.zero_le _⟩ (by have q := hc; omega) (cel_Pl cy ad hc _) rfl rfl rfl rfl (Nat.le_of_ble_eq_true rfl) dX2_isJust_3 (fun H locs hG_1 hI => ?_)
  have e9 : f_X2_isJust σ c q0 = f_X2_isAlike σ c q0 0 := by rw [f_X2_isJust]
  exact g_zret (z := f_X2_isAlike σ c q0 0) hx hb hr hK hN hlocks hI e9.symm rfl (by rw [e9] <;> first | (omega) | (dsimp only; omega)) (by omega) dX2_isJust_6
theorem in_X2_isNamedBefore_X2 : ∀ w ∈ u_ws RX2 TX2 3, w ∈ wsX2_isNamedBefore := by decide +kernel
def L_X2_isNamedBefore_14 (σ : Sg) (c : Nat) (q0 : Nat) : Nat → Int → Int → Int
  | 0, x2, x3 => 0
  | n + 1, x2, x3 => (if x2 ≤ x3 then (if (σ q0 2) ≤ (σ c 2) then 0 else 1) else (if (f_X2_byteAt σ c x3) = (f_X2_byteAt σ q0 x3) then L_X2_isNamedBefore_14 σ c q0 n x2 (x3 + 1) else (if (f_X2_byteAt σ q0 x3) ≤ (f_X2_byteAt σ c x3) then 0 else 1)))
set_option maxHeartbeats 4000000 in
set_option maxRecDepth 100000 in
theorem w_L_X2_isNamedBefore_14 {p : Program} {l : Launch} {e : Env} {s : State} {m : MethodId} {args : Array Value} {below : List Frame} {meth : Method} {c₀ : Code} {D : va_G} {cy : Nat → ClassId} {ad : Nat → Nat} (X : MX p s m args meth c₀ cX2_isNamedBefore 4 RX2 (some .boolean) wsX2_isNamedBefore D cy) (σ : Sg) (c : Nat) (hc : isPl c) (q0 : Nat) (hq0 : isPl q0) : ∀ (n : Nat) (x2 : Int) (x3 : Int) (hx2 : (0 : Int) ≤ x2 ∧ x2 ≤ 12) (hx3 : (0 : Int) ≤ x3 ∧ x3 ≤ 12) (hmu : 12 - x3 < (n : Int)) (H : Heap) (locs : List Loc) (ls : Array Slot) (hI : HI D cy ad s σ H locs) (hl : lv_has ls 4 [(0, .ref (ad c)), (1, .ref (ad q0)), (2, .int (iI x2)), (3, .int (iI x3))]), W p l e { frames := 1, cells := 0, slots := 0, locals := 40 } s m args below meth c₀ H locs 0 0 (MQ below (CQ D cy ad (some (.int (iI (L_X2_isNamedBefore_14 σ c q0 n x2 x3)))) σ ((0 ≤ L_X2_isNamedBefore_14 σ c q0 n x2 x3 ∧ L_X2_isNamedBefore_14 σ c q0 n x2 x3 ≤ 1)) (AA ad s.heap.size)) args s 0 0 (AA ad s.heap.size)) (F0 m 14 ls []) := by
  obtain ⟨hx, hb, hr, hml, hown, hts, hlocks, hK, hN⟩ := id X
  intro n
  induction n with
  | zero =>
    intro x2 x3 hx2 hx3 hmu H locs ls hI hl
    exfalso
    have hF := hI.2.2.2
    omega
  | succ n ih =>
    intro x2 x3 hx2 hx3 hmu H locs ls hI hl
    have hF := hI.2.2.2
    refine lv_iload_n hx hb dX2_isNamedBefore_14 rfl (lv_at hl 3 rfl) ?_
    refine lv_iload_n hx hb dX2_isNamedBefore_15 rfl (lv_at hl 2 rfl) ?_
    refine g_icmp_ge (tgt := 57) hx hb dX2_isNamedBefore_16 (by decide) (by omega) (by omega) (fun c_3 => ?_) (fun c_3 => ?_)
    · skip
      refine lv_aload_n hx hb dX2_isNamedBefore_57 rfl (lv_at hl 0 rfl) ?_
      refine g_get (C := RX2) (T := TX2) (N := 3) (ci := 2) (v := .int (iI (σ c 2))) hx hb hts in_X2_isNamedBefore_X2 hown hK hI c (by have q := hc; omega) (cel_Pl cy ad hc _) rfl 2 (by decide) (by decide +kernel) rfl dX2_isNamedBefore_58 ?_
      have b_4 := bd_Pl_2 hF hc
      refine lv_aload_n hx hb dX2_isNamedBefore_61 rfl (lv_at hl 1 rfl) ?_
      refine g_get (C := RX2) (T := TX2) (N := 3) (ci := 2) (v := .int (iI (σ q0 2))) hx hb hts in_X2_isNamedBefore_X2 hown hK hI q0 (by have q := hq0; omega) (cel_Pl cy ad hq0 _) rfl 2 (by decide) (by decide +kernel) rfl dX2_isNamedBefore_62 ?_
      have b_5 := bd_Pl_2 hF hq0
      refine g_icmp_ge (tgt := 72) hx hb dX2_isNamedBefore_65 (by decide) (by omega) (by omega) (fun c_6 => ?_) (fun c_6 => ?_)
      · skip
        refine lv_iconst (v := iI 0) hx hb dX2_isNamedBefore_72 rfl ?_
        have e9 : L_X2_isNamedBefore_14 σ c q0 (n + 1) x2 x3 = 0 := by rw [L_X2_isNamedBefore_14, if_pos c_3, if_pos c_6]
        exact g_zret (z := 0) hx hb hr hK hN hlocks hI e9.symm rfl (by rw [e9] <;> first | (omega) | (dsimp only; omega)) (by omega) dX2_isNamedBefore_73
      · skip
        refine lv_iconst (v := iI 1) hx hb dX2_isNamedBefore_68 rfl ?_
        refine lv_goto (tgt := 73) hx hb dX2_isNamedBefore_69 (by decide) ?_
        have e9 : L_X2_isNamedBefore_14 σ c q0 (n + 1) x2 x3 = 1 := by rw [L_X2_isNamedBefore_14, if_pos c_3, if_neg c_6]
        exact g_zret (z := 1) hx hb hr hK hN hlocks hI e9.symm rfl (by rw [e9] <;> first | (omega) | (dsimp only; omega)) (by omega) dX2_isNamedBefore_73
    · skip
      refine lv_aload_n hx hb dX2_isNamedBefore_19 rfl (lv_at hl 0 rfl) ?_
      refine lv_iload_n hx hb dX2_isNamedBefore_20 rfl (lv_at hl 3 rfl) ?_
      refine g_V (As := [.int (iI x3)]) (rest := []) c (c_X2_byteAt l D cy ad σ c hc x3 (by omega)) hx hb hml hown hts hK hN hI hl.1 gX2_isNamedBefore_X2_byteAt rfl hd_X2_byteAt rfl rfl ⟨Nat.le_of_ble_eq_true rfl, Nat.le_of_ble_eq_true rfl⟩ ⟨Nat.zero_le _, Nat.zero_le _⟩ (by have q := hc; omega) (cel_Pl cy ad hc _) rfl rfl rfl rfl (Nat.le_of_ble_eq_true rfl) dX2_isNamedBefore_21 (fun H locs hG_7 hI => ?_)
      refine lv_aload_n hx hb dX2_isNamedBefore_24 rfl (lv_at hl 1 rfl) ?_
      refine lv_iload_n hx hb dX2_isNamedBefore_25 rfl (lv_at hl 3 rfl) ?_
      refine g_V (As := [.int (iI x3)]) (rest := [.int (iI (f_X2_byteAt σ c x3))]) q0 (c_X2_byteAt l D cy ad σ q0 hq0 x3 (by omega)) hx hb hml hown hts hK hN hI hl.1 gX2_isNamedBefore_X2_byteAt rfl hd_X2_byteAt rfl rfl ⟨Nat.le_of_ble_eq_true rfl, Nat.le_of_ble_eq_true rfl⟩ ⟨Nat.zero_le _, Nat.zero_le _⟩ (by have q := hq0; omega) (cel_Pl cy ad hq0 _) rfl rfl rfl rfl (Nat.le_of_ble_eq_true rfl) dX2_isNamedBefore_26 (fun H locs hG_8 hI => ?_)
      refine g_icmp_eq (tgt := 51) hx hb dX2_isNamedBefore_29 (by decide) (by omega) (by omega) (fun c_9 => ?_) (fun c_9 => ?_)
      · skip
        refine lv_iinc (v := iI (x3 + 1)) (lv' := [(3, .int (iI (x3 + 1))), (0, .ref (ad c)), (1, .ref (ad q0)), (2, .int (iI x2))]) hx hb dX2_isNamedBefore_51 hl (k := 3) rfl (iI_add _ _) (by decide) rfl (fun ls hl => ?_)
        refine lv_goto (tgt := 14) hx hb dX2_isNamedBefore_54 (by decide) ?_
        have e9 : L_X2_isNamedBefore_14 σ c q0 (n + 1) x2 x3 = L_X2_isNamedBefore_14 σ c q0 n x2 (x3 + 1) := by rw [L_X2_isNamedBefore_14, if_neg c_3, if_pos c_9]
        rw [e9]
        exact ih x2 (x3 + 1)  (by omega) (by omega) (by omega) _ _ _ hI (lv_sub hl [1, 2, 3, 0] rfl)
      · skip
        refine lv_aload_n hx hb dX2_isNamedBefore_32 rfl (lv_at hl 0 rfl) ?_
        refine lv_iload_n hx hb dX2_isNamedBefore_33 rfl (lv_at hl 3 rfl) ?_
        refine g_V (As := [.int (iI x3)]) (rest := []) c (c_X2_byteAt l D cy ad σ c hc x3 (by omega)) hx hb hml hown hts hK hN hI hl.1 gX2_isNamedBefore_X2_byteAt rfl hd_X2_byteAt rfl rfl ⟨Nat.le_of_ble_eq_true rfl, Nat.le_of_ble_eq_true rfl⟩ ⟨Nat.zero_le _, Nat.zero_le _⟩ (by have q := hc; omega) (cel_Pl cy ad hc _) rfl rfl rfl rfl (Nat.le_of_ble_eq_true rfl) dX2_isNamedBefore_34 (fun H locs hG_10 hI => ?_)
        refine lv_aload_n hx hb dX2_isNamedBefore_37 rfl (lv_at hl 1 rfl) ?_
        refine lv_iload_n hx hb dX2_isNamedBefore_38 rfl (lv_at hl 3 rfl) ?_
        refine g_V (As := [.int (iI x3)]) (rest := [.int (iI (f_X2_byteAt σ c x3))]) q0 (c_X2_byteAt l D cy ad σ q0 hq0 x3 (by omega)) hx hb hml hown hts hK hN hI hl.1 gX2_isNamedBefore_X2_byteAt rfl hd_X2_byteAt rfl rfl ⟨Nat.le_of_ble_eq_true rfl, Nat.le_of_ble_eq_true rfl⟩ ⟨Nat.zero_le _, Nat.zero_le _⟩ (by have q := hq0; omega) (cel_Pl cy ad hq0 _) rfl rfl rfl rfl (Nat.le_of_ble_eq_true rfl) dX2_isNamedBefore_39 (fun H locs hG_11 hI => ?_)
        refine g_icmp_ge (tgt := 49) hx hb dX2_isNamedBefore_42 (by decide) (by omega) (by omega) (fun c_12 => ?_) (fun c_12 => ?_)
        · skip
          refine lv_iconst (v := iI 0) hx hb dX2_isNamedBefore_49 rfl ?_
          have e9 : L_X2_isNamedBefore_14 σ c q0 (n + 1) x2 x3 = 0 := by rw [L_X2_isNamedBefore_14, if_neg c_3, if_neg c_9, if_pos c_12]
          exact g_zret (z := 0) hx hb hr hK hN hlocks hI e9.symm rfl (by rw [e9] <;> first | (omega) | (dsimp only; omega)) (by omega) dX2_isNamedBefore_50
        · skip
          refine lv_iconst (v := iI 1) hx hb dX2_isNamedBefore_45 rfl ?_
          refine lv_goto (tgt := 50) hx hb dX2_isNamedBefore_46 (by decide) ?_
          have e9 : L_X2_isNamedBefore_14 σ c q0 (n + 1) x2 x3 = 1 := by rw [L_X2_isNamedBefore_14, if_neg c_3, if_neg c_9, if_neg c_12]
          exact g_zret (z := 1) hx hb hr hK hN hlocks hI e9.symm rfl (by rw [e9] <;> first | (omega) | (dsimp only; omega)) (by omega) dX2_isNamedBefore_50
def f_X2_isNamedBefore (σ : Sg) (c : Nat) (q0 : Nat) : Int := L_X2_isNamedBefore_14 σ c q0 13 (min (σ c 2) (σ q0 2)) 0
theorem hd_X2_isNamedBefore : yX2_isNamedBefore.cls = RX2 ∧ yX2_isNamedBefore.cls ≠ "java/lang/invoke/MethodHandle" ∧ yX2_isNamedBefore.cls ≠ "java/lang/invoke/VarHandle" ∧ (parseMethodDescriptor yX2_isNamedBefore.desc).map (fun d => d.parameters.length) = some 1 := by decide +kernel
set_option maxHeartbeats 4000000 in
set_option maxRecDepth 100000 in
theorem c_X2_isNamedBefore (l : Launch) (D : va_G) (cy : Nat → ClassId) (ad : Nat → Nat) (σ : Sg) (c : Nat) (hc : isPl c) (q0 : Nat) (hq0 : isPl q0) : CM l D cy ad yX2_isNamedBefore wsX2_isNamedBefore { frames := 1, cells := 0, slots := 0, locals := 40 } [.ref (ad c), .ref (ad q0)] σ (some (.int (iI (f_X2_isNamedBefore σ c q0)))) σ ((0 ≤ f_X2_isNamedBefore σ c q0 ∧ f_X2_isNamedBefore σ c q0 ≤ 1)) := by
  refine CM.of (cc := cX2_isNamedBefore) (maxL := 4) (ret := (some .boolean)) (by decide) rfl (Nat.le_of_ble_eq_true rfl) ?_
  intro p e s m args below meth c₀ ls X hI hl
  have hl : lv_has ls 4 [(0, .ref (ad c)), (1, .ref (ad q0))] := hl
  obtain ⟨hx, hb, hr, hml, hown, hts, hlocks, hK, hN⟩ := id X
  have hF := hI.2.2.2
  refine lv_aload_n hx hb dX2_isNamedBefore_0 rfl (lv_at hl 0 rfl) ?_
  refine g_get (C := RX2) (T := TX2) (N := 3) (ci := 2) (v := .int (iI (σ c 2))) hx hb hts in_X2_isNamedBefore_X2 hown hK hI c (by have q := hc; omega) (cel_Pl cy ad hc _) rfl 2 (by decide) (by decide +kernel) rfl dX2_isNamedBefore_1 ?_
  have b_1 := bd_Pl_2 hF hc
  refine lv_aload_n hx hb dX2_isNamedBefore_4 rfl (lv_at hl 1 rfl) ?_
  refine g_get (C := RX2) (T := TX2) (N := 3) (ci := 2) (v := .int (iI (σ q0 2))) hx hb hts in_X2_isNamedBefore_X2 hown hK hI q0 (by have q := hq0; omega) (cel_Pl cy ad hq0 _) rfl 2 (by decide) (by decide +kernel) rfl dX2_isNamedBefore_5 ?_
  have b_2 := bd_Pl_2 hF hq0
  refine g_mmin hx hb (hml.trans hl.1.symm) hts hown (by decide +kernel) (by decide +kernel) (by decide +kernel) (by decide +kernel) (Nat.le_of_ble_eq_true rfl) (Nat.le_of_ble_eq_true rfl) (Nat.zero_le _) (Nat.zero_le _) (by omega) (by omega) dX2_isNamedBefore_8 ?_
  refine lv_istore_n (lv' := [(2, .int (iI (min (σ c 2) (σ q0 2)))), (0, .ref (ad c)), (1, .ref (ad q0))]) hx hb dX2_isNamedBefore_11 rfl hl (by decide) rfl (fun ls hl => ?_)
  refine lv_iconst (v := iI 0) hx hb dX2_isNamedBefore_12 rfl ?_
  refine lv_istore_n (lv' := [(3, .int (iI 0)), (2, .int (iI (min (σ c 2) (σ q0 2)))), (0, .ref (ad c)), (1, .ref (ad q0))]) hx hb dX2_isNamedBefore_13 rfl hl (by decide) rfl (fun ls hl => ?_)
  have e9 : f_X2_isNamedBefore σ c q0 = L_X2_isNamedBefore_14 σ c q0 13 (min (σ c 2) (σ q0 2)) 0 := by rw [f_X2_isNamedBefore]
  rw [e9]
  exact w_L_X2_isNamedBefore_14 X σ c hc q0 hq0  13 (min (σ c 2) (σ q0 2)) 0  (by omega) (by omega) (by omega) _ _ _ hI (lv_sub hl [2, 3, 1, 0] rfl)
