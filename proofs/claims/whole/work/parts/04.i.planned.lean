theorem in_X4_begin_X2 : ∀ w ∈ u_ws RX2 TX2 3, w ∈ wsX4_begin := by decide +kernel
theorem in_X4_begin_X4 : ∀ w ∈ u_ws RX4 TX4 12, w ∈ wsX4_begin := by decide +kernel
def f_X4_begin (σ : Sg) (c : Nat) (a0 : Int) (q1 : Nat) (a2 : Int) : Sg := (up2 (up2 (up2 (up2 (up2 (f_X2_becomeSpare (f_X2_become (up2 (up2 σ c 3 a0) c 4 a2) (199 + 6 * (c - 439)) q1) (203 + 6 * (c - 439)) ((f_X2_become (up2 (up2 σ c 3 a0) c 4 a2) (199 + 6 * (c - 439)) q1) q1 1) a0) c 7 0) c 8 (-1)) c 9 (-1)) c 10 0) c 11 0)
theorem hd_X4_begin : yX4_begin.cls = RX4 ∧ yX4_begin.cls ≠ "java/lang/invoke/MethodHandle" ∧ yX4_begin.cls ≠ "java/lang/invoke/VarHandle" ∧ (parseMethodDescriptor yX4_begin.desc).map (fun d => d.parameters.length) = some 3 := by decide +kernel
set_option maxHeartbeats 4000000 in
set_option maxRecDepth 100000 in
theorem c_X4_begin (l : Launch) (D : va_G) (cy : Nat → ClassId) (ad : Nat → Nat) (σ : Sg) (c : Nat) (hc : isPd c) (a0 : Int) (ha0 : (0 : Int) ≤ a0 ∧ a0 ≤ 39) (q1 : Nat) (hq1 : isPl q1) (a2 : Int) (ha2 : (0 : Int) ≤ a2 ∧ a2 ≤ 5000) : CM l D cy ad yX4_begin wsX4_begin { frames := 2, cells := 0, slots := 0, locals := 80 } [.ref (ad c), .int (iI a0), .ref (ad q1), .int (iI a2)] σ none (f_X4_begin σ c a0 q1 a2) (True) := by
  refine CM.of (cc := cX4_begin) (maxL := 4) (ret := none) (by decide) rfl (Nat.le_of_ble_eq_true rfl) ?_
  intro p e s m args below meth c₀ ls X hI hl
  have hl : lv_has ls 4 [(0, .ref (ad c)), (1, .int (iI a0)), (2, .ref (ad q1)), (3, .int (iI a2))] := hl
  obtain ⟨hx, hb, hr, hml, hown, hts, hlocks, hK, hN⟩ := id X
  have hF := hI.2.2.2
  refine lv_aload_n hx hb dX4_begin_0 rfl (lv_at hl 0 rfl) ?_
  refine lv_iload_n hx hb dX4_begin_1 rfl (lv_at hl 1 rfl) ?_
  refine g_put (C := RX4) (T := TX4) (N := 12) (ci := 4) (ty := .int) (z := a0) hx hb hts in_X4_begin_X4 tyX4 tyX4_ok nmX4 hown hK hI c (by have q := hc; omega) (cel_Pd cy ad hc) rfl 3 (by decide) (by decide +kernel) rfl (by decide +kernel) rfl rfl (Nat.le_of_ble_eq_true rfl) (by unfold fs_Pd; rw [up2_row]; rfl) (bw_Pd_3 hc (by omega)) dX4_begin_2 (fun H locs hI => ?_)
  have hF_1 := hI.2.2.2
  refine lv_aload_n hx hb dX4_begin_5 rfl (lv_at hl 0 rfl) ?_
  refine lv_iload_n hx hb dX4_begin_6 rfl (lv_at hl 3 rfl) ?_
  refine g_put (C := RX4) (T := TX4) (N := 12) (ci := 4) (ty := .int) (z := a2) hx hb hts in_X4_begin_X4 tyX4 tyX4_ok nmX4 hown hK hI c (by have q := hc; omega) (cel_Pd cy ad hc) rfl 4 (by decide) (by decide +kernel) rfl (by decide +kernel) rfl rfl (Nat.le_of_ble_eq_true rfl) (by unfold fs_Pd; rw [up2_row]; rfl) (bw_Pd_4 hc (by omega)) dX4_begin_7 (fun H locs hI => ?_)
  have hF_2 := hI.2.2.2
  refine lv_aload_n hx hb dX4_begin_10 rfl (lv_at hl 0 rfl) ?_
  refine g_get (C := RX4) (T := TX4) (N := 12) (ci := 4) (v := .ref (ad (199 + 6 * (c - 439)))) hx hb hts in_X4_begin_X4 hown hK hI c (by have q := hc; omega) (cel_Pd cy ad hc _) rfl 0 (by decide) (by decide +kernel) rfl dX4_begin_11 ?_
  refine lv_aload_n hx hb dX4_begin_14 rfl (lv_at hl 2 rfl) ?_
  refine g_V (As := [.ref (ad q1)]) (rest := []) (199 + 6 * (c - 439)) (c_X2_become l D cy ad (up2 (up2 σ c 3 a0) c 4 a2) (199 + 6 * (c - 439)) (by have q := hc; omega : isPl (199 + 6 * (c - 439))) q1 hq1) hx hb hml hown hts hK hN hI hl.1 gX4_begin_X2_become rfl hd_X2_become rfl rfl ⟨Nat.le_of_ble_eq_true rfl, Nat.le_of_ble_eq_true rfl⟩ ⟨Nat.zero_le _, Nat.zero_le _⟩ (by have q := (by have q := hc; omega : isPl (199 + 6 * (c - 439))); omega) (cel_Pl cy ad (by have q := hc; omega : isPl (199 + 6 * (c - 439))) _) rfl rfl rfl rfl (Nat.le_of_ble_eq_true rfl) dX4_begin_15 (fun H locs hG_3 hI => ?_)
  have hF_4 := hI.2.2.2
  refine lv_aload_n hx hb dX4_begin_18 rfl (lv_at hl 0 rfl) ?_
  refine g_get (C := RX4) (T := TX4) (N := 12) (ci := 4) (v := .ref (ad (203 + 6 * (c - 439)))) hx hb hts in_X4_begin_X4 hown hK hI c (by have q := hc; omega) (cel_Pd cy ad hc _) rfl 2 (by decide) (by decide +kernel) rfl dX4_begin_19 ?_
  refine lv_aload_n hx hb dX4_begin_22 rfl (lv_at hl 2 rfl) ?_
  refine g_getN (C := RX2) (T := TX2) (N := 3) (ci := 2) (v := .int (iI ((f_X2_become (up2 (up2 σ c 3 a0) c 4 a2) (199 + 6 * (c - 439)) q1) q1 1))) hx hb hts in_X4_begin_X2 hown hK hN hI q1 (by have q := hq1; omega) (cel_Pl cy ad hq1 _) rfl 1 (by decide) (by decide +kernel) rfl dX4_begin_23 ?_
  have b_5 := bd_Pl_1 hF_4 hq1
  refine lv_iload_n hx hb dX4_begin_26 rfl (lv_at hl 1 rfl) ?_
  refine g_V (As := [.int (iI ((f_X2_become (up2 (up2 σ c 3 a0) c 4 a2) (199 + 6 * (c - 439)) q1) q1 1)), .int (iI a0)]) (rest := []) (203 + 6 * (c - 439)) (c_X2_becomeSpare l D cy ad (f_X2_become (up2 (up2 σ c 3 a0) c 4 a2) (199 + 6 * (c - 439)) q1) (203 + 6 * (c - 439)) (by have q := hc; omega : isPl (203 + 6 * (c - 439))) ((f_X2_become (up2 (up2 σ c 3 a0) c 4 a2) (199 + 6 * (c - 439)) q1) q1 1) (by omega) a0 (by omega)) hx hb hml hown hts hK hN hI hl.1 gX4_begin_X2_becomeSpare rfl hd_X2_becomeSpare rfl rfl ⟨Nat.le_of_ble_eq_true rfl, Nat.le_of_ble_eq_true rfl⟩ ⟨Nat.zero_le _, Nat.zero_le _⟩ (by have q := (by have q := hc; omega : isPl (203 + 6 * (c - 439))); omega) (cel_Pl cy ad (by have q := hc; omega : isPl (203 + 6 * (c - 439))) _) rfl rfl rfl rfl (Nat.le_of_ble_eq_true rfl) dX4_begin_27 (fun H locs hG_6 hI => ?_)
  have hF_7 := hI.2.2.2
  refine lv_aload_n hx hb dX4_begin_30 rfl (lv_at hl 0 rfl) ?_
  refine lv_iconst (v := iI 0) hx hb dX4_begin_31 rfl ?_
  refine g_put (C := RX4) (T := TX4) (N := 12) (ci := 4) (ty := .int) (z := 0) hx hb hts in_X4_begin_X4 tyX4 tyX4_ok nmX4 hown hK hI c (by have q := hc; omega) (cel_Pd cy ad hc) rfl 7 (by decide) (by decide +kernel) rfl (by decide +kernel) rfl rfl (Nat.le_of_ble_eq_true rfl) (by unfold fs_Pd; rw [up2_row]; rfl) (bw_Pd_7 hc (by omega)) dX4_begin_32 (fun H locs hI => ?_)
  have hF_8 := hI.2.2.2
  refine lv_aload_n hx hb dX4_begin_35 rfl (lv_at hl 0 rfl) ?_
  refine lv_iconst (v := iI (-1)) hx hb dX4_begin_36 rfl ?_
  refine g_put (C := RX4) (T := TX4) (N := 12) (ci := 4) (ty := .int) (z := (-1)) hx hb hts in_X4_begin_X4 tyX4 tyX4_ok nmX4 hown hK hI c (by have q := hc; omega) (cel_Pd cy ad hc) rfl 8 (by decide) (by decide +kernel) rfl (by decide +kernel) rfl rfl (Nat.le_of_ble_eq_true rfl) (by unfold fs_Pd; rw [up2_row]; rfl) (bw_Pd_8 hc (by omega)) dX4_begin_37 (fun H locs hI => ?_)
  have hF_9 := hI.2.2.2
  refine lv_aload_n hx hb dX4_begin_40 rfl (lv_at hl 0 rfl) ?_
  refine lv_iconst (v := iI (-1)) hx hb dX4_begin_41 rfl ?_
  refine g_put (C := RX4) (T := TX4) (N := 12) (ci := 4) (ty := .int) (z := (-1)) hx hb hts in_X4_begin_X4 tyX4 tyX4_ok nmX4 hown hK hI c (by have q := hc; omega) (cel_Pd cy ad hc) rfl 9 (by decide) (by decide +kernel) rfl (by decide +kernel) rfl rfl (Nat.le_of_ble_eq_true rfl) (by unfold fs_Pd; rw [up2_row]; rfl) (bw_Pd_9 hc (by omega)) dX4_begin_42 (fun H locs hI => ?_)
  have hF_10 := hI.2.2.2
  refine lv_aload_n hx hb dX4_begin_45 rfl (lv_at hl 0 rfl) ?_
  refine lv_iconst (v := iI 0) hx hb dX4_begin_46 rfl ?_
  refine g_put (C := RX4) (T := TX4) (N := 12) (ci := 4) (ty := .boolean) (z := 0) hx hb hts in_X4_begin_X4 tyX4 tyX4_ok nmX4 hown hK hI c (by have q := hc; omega) (cel_Pd cy ad hc) rfl 10 (by decide) (by decide +kernel) rfl (by decide +kernel) (iI_nz (by omega)) (iI_fz (by omega)) (Nat.le_of_ble_eq_true rfl) (by unfold fs_Pd; rw [up2_row]; rfl) (bw_Pd_10 hc (by omega)) dX4_begin_47 (fun H locs hI => ?_)
  have hF_11 := hI.2.2.2
  refine lv_aload_n hx hb dX4_begin_50 rfl (lv_at hl 0 rfl) ?_
  refine lv_iconst (v := iI 0) hx hb dX4_begin_51 rfl ?_
  refine g_put (C := RX4) (T := TX4) (N := 12) (ci := 4) (ty := .boolean) (z := 0) hx hb hts in_X4_begin_X4 tyX4 tyX4_ok nmX4 hown hK hI c (by have q := hc; omega) (cel_Pd cy ad hc) rfl 11 (by decide) (by decide +kernel) rfl (by decide +kernel) (iI_nz (by omega)) (iI_fz (by omega)) (Nat.le_of_ble_eq_true rfl) (by unfold fs_Pd; rw [up2_row]; rfl) (bw_Pd_11 hc (by omega)) dX4_begin_52 (fun H locs hI => ?_)
  have hF_12 := hI.2.2.2
  have e9 : f_X4_begin σ c a0 q1 a2 = (up2 (up2 (up2 (up2 (up2 (f_X2_becomeSpare (f_X2_become (up2 (up2 σ c 3 a0) c 4 a2) (199 + 6 * (c - 439)) q1) (203 + 6 * (c - 439)) ((f_X2_become (up2 (up2 σ c 3 a0) c 4 a2) (199 + 6 * (c - 439)) q1) q1 1) a0) c 7 0) c 8 (-1)) c 9 (-1)) c 10 0) c 11 0) := by rw [f_X4_begin]
  exact g_vret hx hb hr hK hN hlocks hI (by rw [e9]) trivial dX4_begin_55
theorem in_X4_addByte_X4 : ∀ w ∈ u_ws RX4 TX4 12, w ∈ wsX4_addByte := by decide +kernel
def f_X4_addByte (σ : Sg) (c : Nat) (a0 : Int) : Sg := (up2 (f_X2_add σ (201 + 6 * (c - 439)) a0) c 5 (((f_X2_add σ (201 + 6 * (c - 439)) a0) c 5) + 1))
theorem hd_X4_addByte : yX4_addByte.cls = RX4 ∧ yX4_addByte.cls ≠ "java/lang/invoke/MethodHandle" ∧ yX4_addByte.cls ≠ "java/lang/invoke/VarHandle" ∧ (parseMethodDescriptor yX4_addByte.desc).map (fun d => d.parameters.length) = some 1 := by decide +kernel
set_option maxHeartbeats 4000000 in
set_option maxRecDepth 100000 in
theorem c_X4_addByte (l : Launch) (D : va_G) (cy : Nat → ClassId) (ad : Nat → Nat) (σ : Sg) (c : Nat) (hc : isPd c) (a0 : Int) (ha0 : (-1 : Int) ≤ a0 ∧ a0 ≤ 255) (h1 : σ c 5 < 1000) : CM l D cy ad yX4_addByte wsX4_addByte { frames := 1, cells := 0, slots := 0, locals := 40 } [.ref (ad c), .int (iI a0)] σ none (f_X4_addByte σ c a0) ((f_X4_addByte σ c a0) c 5 = σ c 5 + 1) := by
  refine CM.of (cc := cX4_addByte) (maxL := 2) (ret := none) (by decide) rfl (Nat.le_of_ble_eq_true rfl) ?_
  intro p e s m args below meth c₀ ls X hI hl
  have hl : lv_has ls 2 [(0, .ref (ad c)), (1, .int (iI a0))] := hl
  obtain ⟨hx, hb, hr, hml, hown, hts, hlocks, hK, hN⟩ := id X
  have hF := hI.2.2.2
  refine lv_aload_n hx hb dX4_addByte_0 rfl (lv_at hl 0 rfl) ?_
  refine g_get (C := RX4) (T := TX4) (N := 12) (ci := 4) (v := .ref (ad (201 + 6 * (c - 439)))) hx hb hts in_X4_addByte_X4 hown hK hI c (by have q := hc; omega) (cel_Pd cy ad hc _) rfl 1 (by decide) (by decide +kernel) rfl dX4_addByte_1 ?_
  refine lv_iload_n hx hb dX4_addByte_4 rfl (lv_at hl 1 rfl) ?_
  refine g_V (As := [.int (iI a0)]) (rest := []) (201 + 6 * (c - 439)) (c_X2_add l D cy ad σ (201 + 6 * (c - 439)) (by have q := hc; omega : isPl (201 + 6 * (c - 439))) a0 (by omega)) hx hb hml hown hts hK hN hI hl.1 gX4_addByte_X2_add rfl hd_X2_add rfl rfl ⟨Nat.le_of_ble_eq_true rfl, Nat.le_of_ble_eq_true rfl⟩ ⟨Nat.zero_le _, Nat.zero_le _⟩ (by have q := (by have q := hc; omega : isPl (201 + 6 * (c - 439))); omega) (cel_Pl cy ad (by have q := hc; omega : isPl (201 + 6 * (c - 439))) _) rfl rfl rfl rfl (Nat.le_of_ble_eq_true rfl) dX4_addByte_5 (fun H locs hG_1 hI => ?_)
  have hF_2 := hI.2.2.2
  have q9 := congrFun (add_fr σ (201 + 6 * (c - 439)) a0 (x := c) (by omega) (by omega)) 5
  refine lv_aload_n hx hb dX4_addByte_8 rfl (lv_at hl 0 rfl) ?_
  refine lv_dup hx hb dX4_addByte_9 rfl ?_
  refine g_get (C := RX4) (T := TX4) (N := 12) (ci := 4) (v := .int (iI ((f_X2_add σ (201 + 6 * (c - 439)) a0) c 5))) hx hb hts in_X4_addByte_X4 hown hK hI c (by have q := hc; omega) (cel_Pd cy ad hc _) rfl 5 (by decide) (by decide +kernel) rfl dX4_addByte_10 ?_
  have b_3 := bd_Pd_5 hF_2 hc
  refine lv_iconst (v := iI 1) hx hb dX4_addByte_13 rfl ?_
  refine g_iadd hx hb dX4_addByte_14 ?_
  refine g_put (C := RX4) (T := TX4) (N := 12) (ci := 4) (ty := .int) (z := ((f_X2_add σ (201 + 6 * (c - 439)) a0) c 5) + 1) hx hb hts in_X4_addByte_X4 tyX4 tyX4_ok nmX4 hown hK hI c (by have q := hc; omega) (cel_Pd cy ad hc) rfl 5 (by decide) (by decide +kernel) rfl (by decide +kernel) rfl rfl (Nat.le_of_ble_eq_true rfl) (by unfold fs_Pd; rw [up2_row]; rfl) (bw_Pd_5 hc (by omega)) dX4_addByte_15 (fun H locs hI => ?_)
  have hF_4 := hI.2.2.2
  have e9 : f_X4_addByte σ c a0 = (up2 (f_X2_add σ (201 + 6 * (c - 439)) a0) c 5 (((f_X2_add σ (201 + 6 * (c - 439)) a0) c 5) + 1)) := by rw [f_X4_addByte]
  exact g_vret hx hb hr hK hN hlocks hI (by rw [e9]) (by rw [e9] <;> first | (simp only [up2_same]; omega) | (dsimp only; simp only [up2_same]; omega)) dX4_addByte_18
theorem in_X4_addTaken_X4 : ∀ w ∈ u_ws RX4 TX4 12, w ∈ wsX4_addTaken := by decide +kernel
def L_X4_addTaken_3 (c : Nat) (a0 : Int) (a1 : Int) (a2 : Int) : Nat → Int → Sg → Sg
  | 0, x4, σ => (σ)
  | n + 1, x4, σ => (if a2 ≤ x4 then σ else (if a0 = 94 then L_X4_addTaken_3 c a0 a1 a2 n (x4 + 1) (f_X4_addByte σ c (f_X6_capital (f_X2_byteAt σ (199 + 6 * (c - 439)) (a1 + x4)))) else (if a0 = 33 then L_X4_addTaken_3 c a0 a1 a2 n (x4 + 1) (f_X4_addByte σ c (f_X6_small (f_X2_byteAt σ (199 + 6 * (c - 439)) (a1 + x4)))) else L_X4_addTaken_3 c a0 a1 a2 n (x4 + 1) (f_X4_addByte σ c (f_X2_byteAt σ (199 + 6 * (c - 439)) (a1 + x4))))))
set_option maxHeartbeats 4000000 in
set_option maxRecDepth 100000 in
theorem w_L_X4_addTaken_3 {p : Program} {l : Launch} {e : Env} {s : State} {m : MethodId} {args : Array Value} {below : List Frame} {meth : Method} {c₀ : Code} {D : va_G} {cy : Nat → ClassId} {ad : Nat → Nat} {Q : State → Prop} (X : MX p s m args meth c₀ cX4_addTaken 6 RX4 none wsX4_addTaken D cy) (c : Nat) (hc : isPd c) (a0 : Int) (ha0 : (-1 : Int) ≤ a0 ∧ a0 ≤ 255) (a1 : Int) (ha1 : (-1 : Int) ≤ a1 ∧ a1 ≤ 200) (a2 : Int) (ha2 : (-1 : Int) ≤ a2 ∧ a2 ≤ 12) (g0 : Int) : ∀ (n : Nat) (x4 : Int) (σ : Sg) (hx4 : (0 : Int) ≤ x4 ∧ x4 ≤ 12) (hp0 : σ c 5 ≤ g0 + x4) (hp1 : g0 ≤ 500) (hmu : 12 - x4 < (n : Int)) (H : Heap) (locs : List Loc) (ls : Array Slot) (hI : HI D cy ad s σ H locs) (hl : lv_has ls 6 [(0, .ref (ad c)), (1, .int (iI a0)), (2, .int (iI a1)), (3, .int (iI a2)), (4, .int (iI x4))])  (hk : ∀ (H1 : Heap) (locs1 : List Loc) (ls1 : Array Slot), ((L_X4_addTaken_3 c a0 a1 a2 n x4 σ) c 5 ≤ g0 + 12) → HI D cy ad s (L_X4_addTaken_3 c a0 a1 a2 n x4 σ) H1 locs1 → lv_has ls1 6 [] → W p l e { frames := 2, cells := 0, slots := 0, locals := 80 } s m args below meth c₀ H1 locs1 0 0 Q (F0 m 63 ls1 [])), W p l e { frames := 2, cells := 0, slots := 0, locals := 80 } s m args below meth c₀ H locs 0 0 Q (F0 m 3 ls []) := by
  obtain ⟨hx, hb, hr, hml, hown, hts, hlocks, hK, hN⟩ := id X
  intro n
  induction n with
  | zero =>
    intro x4 σ hx4 hp0 hp1 hmu H locs ls hI hl hk
    exfalso
    have hF := hI.2.2.2
    omega
  | succ n ih =>
    intro x4 σ hx4 hp0 hp1 hmu H locs ls hI hl hk
    have hF := hI.2.2.2
    refine lv_iload hx hb dX4_addTaken_3 (lv_at hl 4 rfl) ?_
    refine lv_iload_n hx hb dX4_addTaken_5 rfl (lv_at hl 3 rfl) ?_
    refine g_icmp_ge (tgt := 63) hx hb dX4_addTaken_6 (by decide) (by omega) (by omega) (fun c_1 => ?_) (fun c_1 => ?_)
    · skip
      have e9 : L_X4_addTaken_3 c a0 a1 a2 (n + 1) x4 σ = σ := by rw [L_X4_addTaken_3, if_pos c_1]
      rw [e9] at hk
      exact hk _ _ _ (by first | (omega) | (dsimp only; omega)) hI (lv_sub hl [] rfl)
    · skip
      refine lv_aload_n hx hb dX4_addTaken_9 rfl (lv_at hl 0 rfl) ?_
      refine g_get (C := RX4) (T := TX4) (N := 12) (ci := 4) (v := .ref (ad (199 + 6 * (c - 439)))) hx hb hts in_X4_addTaken_X4 hown hK hI c (by have q := hc; omega) (cel_Pd cy ad hc _) rfl 0 (by decide) (by decide +kernel) rfl dX4_addTaken_10 ?_
      refine lv_iload_n hx hb dX4_addTaken_13 rfl (lv_at hl 2 rfl) ?_
      refine lv_iload hx hb dX4_addTaken_14 (lv_at hl 4 rfl) ?_
      refine g_iadd hx hb dX4_addTaken_16 ?_
      refine g_V (As := [.int (iI (a1 + x4))]) (rest := []) (199 + 6 * (c - 439)) (c_X2_byteAt l D cy ad σ (199 + 6 * (c - 439)) (by have q := hc; omega : isPl (199 + 6 * (c - 439))) (a1 + x4) (by omega)) hx hb hml hown hts hK hN hI hl.1 gX4_addTaken_X2_byteAt rfl hd_X2_byteAt rfl rfl ⟨Nat.le_of_ble_eq_true rfl, Nat.le_of_ble_eq_true rfl⟩ ⟨Nat.zero_le _, Nat.zero_le _⟩ (by have q := (by have q := hc; omega : isPl (199 + 6 * (c - 439))); omega) (cel_Pl cy ad (by have q := hc; omega : isPl (199 + 6 * (c - 439))) _) rfl rfl rfl rfl (Nat.le_of_ble_eq_true rfl) dX4_addTaken_17 (fun H locs hG_2 hI => ?_)
      refine lv_istore (lv' := [(5, .int (iI (f_X2_byteAt σ (199 + 6 * (c - 439)) (a1 + x4)))), (0, .ref (ad c)), (1, .int (iI a0)), (2, .int (iI a1)), (3, .int (iI a2)), (4, .int (iI x4))]) hx hb dX4_addTaken_20 hl (by decide) rfl (fun ls hl => ?_)
      refine lv_iload_n hx hb dX4_addTaken_22 rfl (lv_at hl 2 rfl) ?_
      refine lv_bipush (v := iI 94) hx hb dX4_addTaken_23 (iI_bip (by decide)) ?_
      refine g_icmp_ne (tgt := 38) hx hb dX4_addTaken_25 (by decide) (by omega) (by omega) (fun c_3 => ?_) (fun c_3 => ?_)
      · skip
        refine lv_iload_n hx hb dX4_addTaken_38 rfl (lv_at hl 2 rfl) ?_
        refine lv_bipush (v := iI 33) hx hb dX4_addTaken_39 (iI_bip (by decide)) ?_
        refine g_icmp_ne (tgt := 51) hx hb dX4_addTaken_41 (by decide) (by omega) (by omega) (fun c_4 => ?_) (fun c_4 => ?_)
        · skip
          refine lv_aload_n hx hb dX4_addTaken_51 rfl (lv_at hl 1 rfl) ?_
          refine lv_iload hx hb dX4_addTaken_52 (lv_at hl 0 rfl) ?_
          refine g_V (As := [.int (iI (f_X2_byteAt σ (199 + 6 * (c - 439)) (a1 + x4)))]) (rest := []) c (c_X4_addByte l D cy ad σ c hc (f_X2_byteAt σ (199 + 6 * (c - 439)) (a1 + x4)) (by omega) (by omega)) hx hb hml hown hts hK hN hI hl.1 gX4_addTaken_X4_addByte rfl hd_X4_addByte rfl rfl ⟨Nat.le_of_ble_eq_true rfl, Nat.le_of_ble_eq_true rfl⟩ ⟨Nat.zero_le _, Nat.zero_le _⟩ (by have q := hc; omega) (cel_Pd cy ad hc _) rfl rfl rfl rfl (Nat.le_of_ble_eq_true rfl) dX4_addTaken_54 (fun H locs hG_5 hI => ?_)
          have hF_6 := hI.2.2.2
          refine lv_iinc (v := iI (x4 + 1)) (lv' := [(4, .int (iI (x4 + 1))), (5, .int (iI (f_X2_byteAt σ (199 + 6 * (c - 439)) (a1 + x4)))), (0, .ref (ad c)), (1, .int (iI a0)), (2, .int (iI a1)), (3, .int (iI a2))]) hx hb dX4_addTaken_57 hl (k := 5) rfl (iI_add _ _) (by decide) rfl (fun ls hl => ?_)
          refine lv_goto (tgt := 3) hx hb dX4_addTaken_60 (by decide) ?_
          have e9 : L_X4_addTaken_3 c a0 a1 a2 (n + 1) x4 σ = L_X4_addTaken_3 c a0 a1 a2 n (x4 + 1) (f_X4_addByte σ c (f_X2_byteAt σ (199 + 6 * (c - 439)) (a1 + x4))) := by rw [L_X4_addTaken_3, if_neg c_1, if_neg c_3, if_neg c_4]
          rw [e9] at hk
          exact ih (x4 + 1) (f_X4_addByte σ c (f_X2_byteAt σ (199 + 6 * (c - 439)) (a1 + x4))) (by omega) (by omega) (by omega) (by omega) _ _ _ hI (lv_sub hl [2, 3, 4, 5, 0] rfl) hk
        · skip
          refine lv_iload hx hb dX4_addTaken_44 (lv_at hl 0 rfl) ?_
          refine g_S (As := [.int (iI (f_X2_byteAt σ (199 + 6 * (c - 439)) (a1 + x4)))]) (rest := []) (c_X6_small l D cy ad σ (f_X2_byteAt σ (199 + 6 * (c - 439)) (a1 + x4)) (by omega)) hx hb hml hown hts hK hN hI hl.1 gX4_addTaken_X6_small rfl hd_X6_small rfl rfl ⟨Nat.le_of_ble_eq_true rfl, Nat.le_of_ble_eq_true rfl⟩ ⟨Nat.zero_le _, Nat.zero_le _⟩ rfl rfl (Nat.le_of_ble_eq_true rfl) dX4_addTaken_46 (fun H locs hG_7 hI => ?_)
          refine lv_istore (lv' := [(5, .int (iI (f_X6_small (f_X2_byteAt σ (199 + 6 * (c - 439)) (a1 + x4))))), (0, .ref (ad c)), (1, .int (iI a0)), (2, .int (iI a1)), (3, .int (iI a2)), (4, .int (iI x4))]) hx hb dX4_addTaken_49 hl (by decide) rfl (fun ls hl => ?_)
          refine lv_aload_n hx hb dX4_addTaken_51 rfl (lv_at hl 1 rfl) ?_
          refine lv_iload hx hb dX4_addTaken_52 (lv_at hl 0 rfl) ?_
          refine g_V (As := [.int (iI (f_X6_small (f_X2_byteAt σ (199 + 6 * (c - 439)) (a1 + x4))))]) (rest := []) c (c_X4_addByte l D cy ad σ c hc (f_X6_small (f_X2_byteAt σ (199 + 6 * (c - 439)) (a1 + x4))) (by omega) (by omega)) hx hb hml hown hts hK hN hI hl.1 gX4_addTaken_X4_addByte rfl hd_X4_addByte rfl rfl ⟨Nat.le_of_ble_eq_true rfl, Nat.le_of_ble_eq_true rfl⟩ ⟨Nat.zero_le _, Nat.zero_le _⟩ (by have q := hc; omega) (cel_Pd cy ad hc _) rfl rfl rfl rfl (Nat.le_of_ble_eq_true rfl) dX4_addTaken_54 (fun H locs hG_8 hI => ?_)
          have hF_9 := hI.2.2.2
          refine lv_iinc (v := iI (x4 + 1)) (lv' := [(4, .int (iI (x4 + 1))), (5, .int (iI (f_X6_small (f_X2_byteAt σ (199 + 6 * (c - 439)) (a1 + x4))))), (0, .ref (ad c)), (1, .int (iI a0)), (2, .int (iI a1)), (3, .int (iI a2))]) hx hb dX4_addTaken_57 hl (k := 5) rfl (iI_add _ _) (by decide) rfl (fun ls hl => ?_)
          refine lv_goto (tgt := 3) hx hb dX4_addTaken_60 (by decide) ?_
          have e9 : L_X4_addTaken_3 c a0 a1 a2 (n + 1) x4 σ = L_X4_addTaken_3 c a0 a1 a2 n (x4 + 1) (f_X4_addByte σ c (f_X6_small (f_X2_byteAt σ (199 + 6 * (c - 439)) (a1 + x4)))) := by rw [L_X4_addTaken_3, if_neg c_1, if_neg c_3, if_pos c_4]
          rw [e9] at hk
          exact ih (x4 + 1) (f_X4_addByte σ c (f_X6_small (f_X2_byteAt σ (199 + 6 * (c - 439)) (a1 + x4)))) (by omega) (by omega) (by omega) (by omega) _ _ _ hI (lv_sub hl [2, 3, 4, 5, 0] rfl) hk
      · skip
        refine lv_iload hx hb dX4_addTaken_28 (lv_at hl 0 rfl) ?_
        refine g_S (As := [.int (iI (f_X2_byteAt σ (199 + 6 * (c - 439)) (a1 + x4)))]) (rest := []) (c_X6_capital l D cy ad σ (f_X2_byteAt σ (199 + 6 * (c - 439)) (a1 + x4)) (by omega)) hx hb hml hown hts hK hN hI hl.1 gX4_addTaken_X6_capital rfl hd_X6_capital rfl rfl ⟨Nat.le_of_ble_eq_true rfl, Nat.le_of_ble_eq_true rfl⟩ ⟨Nat.zero_le _, Nat.zero_le _⟩ rfl rfl (Nat.le_of_ble_eq_true rfl) dX4_addTaken_30 (fun H locs hG_10 hI => ?_)
        refine lv_istore (lv' := [(5, .int (iI (f_X6_capital (f_X2_byteAt σ (199 + 6 * (c - 439)) (a1 + x4))))), (0, .ref (ad c)), (1, .int (iI a0)), (2, .int (iI a1)), (3, .int (iI a2)), (4, .int (iI x4))]) hx hb dX4_addTaken_33 hl (by decide) rfl (fun ls hl => ?_)
        refine lv_goto (tgt := 51) hx hb dX4_addTaken_35 (by decide) ?_
        refine lv_aload_n hx hb dX4_addTaken_51 rfl (lv_at hl 1 rfl) ?_
        refine lv_iload hx hb dX4_addTaken_52 (lv_at hl 0 rfl) ?_
        refine g_V (As := [.int (iI (f_X6_capital (f_X2_byteAt σ (199 + 6 * (c - 439)) (a1 + x4))))]) (rest := []) c (c_X4_addByte l D cy ad σ c hc (f_X6_capital (f_X2_byteAt σ (199 + 6 * (c - 439)) (a1 + x4))) (by omega) (by omega)) hx hb hml hown hts hK hN hI hl.1 gX4_addTaken_X4_addByte rfl hd_X4_addByte rfl rfl ⟨Nat.le_of_ble_eq_true rfl, Nat.le_of_ble_eq_true rfl⟩ ⟨Nat.zero_le _, Nat.zero_le _⟩ (by have q := hc; omega) (cel_Pd cy ad hc _) rfl rfl rfl rfl (Nat.le_of_ble_eq_true rfl) dX4_addTaken_54 (fun H locs hG_11 hI => ?_)
        have hF_12 := hI.2.2.2
        refine lv_iinc (v := iI (x4 + 1)) (lv' := [(4, .int (iI (x4 + 1))), (5, .int (iI (f_X6_capital (f_X2_byteAt σ (199 + 6 * (c - 439)) (a1 + x4))))), (0, .ref (ad c)), (1, .int (iI a0)), (2, .int (iI a1)), (3, .int (iI a2))]) hx hb dX4_addTaken_57 hl (k := 5) rfl (iI_add _ _) (by decide) rfl (fun ls hl => ?_)
        refine lv_goto (tgt := 3) hx hb dX4_addTaken_60 (by decide) ?_
        have e9 : L_X4_addTaken_3 c a0 a1 a2 (n + 1) x4 σ = L_X4_addTaken_3 c a0 a1 a2 n (x4 + 1) (f_X4_addByte σ c (f_X6_capital (f_X2_byteAt σ (199 + 6 * (c - 439)) (a1 + x4)))) := by rw [L_X4_addTaken_3, if_neg c_1, if_pos c_3]
        rw [e9] at hk
        exact ih (x4 + 1) (f_X4_addByte σ c (f_X6_capital (f_X2_byteAt σ (199 + 6 * (c - 439)) (a1 + x4)))) (by omega) (by omega) (by omega) (by omega) _ _ _ hI (lv_sub hl [2, 3, 4, 5, 0] rfl) hk
def f_X4_addTaken (σ : Sg) (c : Nat) (a0 : Int) (a1 : Int) (a2 : Int) : Sg := (L_X4_addTaken_3 c a0 a1 a2 13 0 σ)
theorem hd_X4_addTaken : yX4_addTaken.cls = RX4 ∧ yX4_addTaken.cls ≠ "java/lang/invoke/MethodHandle" ∧ yX4_addTaken.cls ≠ "java/lang/invoke/VarHandle" ∧ (parseMethodDescriptor yX4_addTaken.desc).map (fun d => d.parameters.length) = some 3 := by decide +kernel
set_option maxHeartbeats 4000000 in
set_option maxRecDepth 100000 in
theorem c_X4_addTaken (l : Launch) (D : va_G) (cy : Nat → ClassId) (ad : Nat → Nat) (σ : Sg) (c : Nat) (hc : isPd c) (a0 : Int) (ha0 : (-1 : Int) ≤ a0 ∧ a0 ≤ 255) (a1 : Int) (ha1 : (-1 : Int) ≤ a1 ∧ a1 ≤ 200) (a2 : Int) (ha2 : (-1 : Int) ≤ a2 ∧ a2 ≤ 12) (h1 : σ c 5 ≤ 500) : CM l D cy ad yX4_addTaken wsX4_addTaken { frames := 2, cells := 0, slots := 0, locals := 80 } [.ref (ad c), .int (iI a0), .int (iI a1), .int (iI a2)] σ none (f_X4_addTaken σ c a0 a1 a2) ((f_X4_addTaken σ c a0 a1 a2) c 5 ≤ σ c 5 + 12) := by
  refine CM.of (cc := cX4_addTaken) (maxL := 6) (ret := none) (by decide) rfl (Nat.le_of_ble_eq_true rfl) ?_
  intro p e s m args below meth c₀ ls X hI hl
  have hl : lv_has ls 6 [(0, .ref (ad c)), (1, .int (iI a0)), (2, .int (iI a1)), (3, .int (iI a2))] := hl
  obtain ⟨hx, hb, hr, hml, hown, hts, hlocks, hK, hN⟩ := id X
  have hF := hI.2.2.2
  refine lv_iconst (v := iI 0) hx hb dX4_addTaken_0 rfl ?_
  refine lv_istore (lv' := [(4, .int (iI 0)), (0, .ref (ad c)), (1, .int (iI a0)), (2, .int (iI a1)), (3, .int (iI a2))]) hx hb dX4_addTaken_1 hl (by decide) rfl (fun ls hl => ?_)
  refine w_L_X4_addTaken_3 X  c hc a0 ha0 a1 ha1 a2 ha2  (σ c 5) 13 0 σ (by omega) (by omega) (by omega) (by omega) _ _ _ hI (lv_sub hl [1, 2, 3, 4, 0] rfl) (fun H locs ls hpo_14 hI hl => ?_)
  have hF_13 := hI.2.2.2
  have e9 : f_X4_addTaken σ c a0 a1 a2 = (L_X4_addTaken_3 c a0 a1 a2 13 0 σ) := by rw [f_X4_addTaken]
  exact g_vret hx hb hr hK hN hlocks hI (by rw [e9]) (by rw [e9] <;> first | (omega) | (dsimp only; omega)) dX4_addTaken_63
theorem in_X4_addCounter_X4 : ∀ w ∈ u_ws RX4 TX4 12, w ∈ wsX4_addCounter := by decide +kernel
def L_X4_addCounter_6 (c : Nat) (a0 : Int) : Nat → Int → Int → Sg → Sg
  | 0, x2, x3, σ => (σ)
  | n + 1, x2, x3, σ => (if x3 < 1 then σ else (if x2 ≤ a0 then L_X4_addCounter_6 c a0 n (x2 + (-1)) (x3 / 10) (f_X4_addByte σ c (48 + (((σ c 4) / x3) % 10))) else (if (σ c 4) < x3 then L_X4_addCounter_6 c a0 n (x2 + (-1)) (x3 / 10) σ else L_X4_addCounter_6 c a0 n (x2 + (-1)) (x3 / 10) (f_X4_addByte σ c (48 + (((σ c 4) / x3) % 10))))))
set_option maxHeartbeats 4000000 in
set_option maxRecDepth 100000 in
theorem w_L_X4_addCounter_6 {p : Program} {l : Launch} {e : Env} {s : State} {m : MethodId} {args : Array Value} {below : List Frame} {meth : Method} {c₀ : Code} {D : va_G} {cy : Nat → ClassId} {ad : Nat → Nat} {Q : State → Prop} (X : MX p s m args meth c₀ cX4_addCounter 4 RX4 none wsX4_addCounter D cy) (c : Nat) (hc : isPd c) (a0 : Int) (ha0 : (-49 : Int) ≤ a0 ∧ a0 ≤ 300) (g0 : Int) : ∀ (n : Nat) (x2 : Int) (x3 : Int) (σ : Sg) (hx2 : (0 : Int) ≤ x2 ∧ x2 ≤ 4) (hx3 : (0 : Int) ≤ x3 ∧ x3 ≤ 1000) (hp0 : (x2 = 4 ∧ x3 = 1000) ∨ (x2 = 3 ∧ x3 = 100) ∨ (x2 = 2 ∧ x3 = 10) ∨ (x2 = 1 ∧ x3 = 1) ∨ (x2 = 0 ∧ x3 = 0)) (hp1 : σ c 5 + x2 ≤ g0 + 4) (hp2 : g0 ≤ 500) (hmu : x3 < (n : Int)) (H : Heap) (locs : List Loc) (ls : Array Slot) (hI : HI D cy ad s σ H locs) (hl : lv_has ls 4 [(0, .ref (ad c)), (1, .int (iI a0)), (2, .int (iI x2)), (3, .int (iI x3))])  (hk : ∀ (H1 : Heap) (locs1 : List Loc) (ls1 : Array Slot), ((L_X4_addCounter_6 c a0 n x2 x3 σ) c 5 ≤ g0 + 4) → HI D cy ad s (L_X4_addCounter_6 c a0 n x2 x3 σ) H1 locs1 → lv_has ls1 4 [] → W p l e { frames := 2, cells := 0, slots := 0, locals := 80 } s m args below meth c₀ H1 locs1 0 0 Q (F0 m 51 ls1 [])), W p l e { frames := 2, cells := 0, slots := 0, locals := 80 } s m args below meth c₀ H locs 0 0 Q (F0 m 6 ls []) := by
  obtain ⟨hx, hb, hr, hml, hown, hts, hlocks, hK, hN⟩ := id X
  intro n
  induction n with
  | zero =>
    intro x2 x3 σ hx2 hx3 hp0 hp1 hp2 hmu H locs ls hI hl hk
    exfalso
    have hF := hI.2.2.2
    omega
  | succ n ih =>
    intro x2 x3 σ hx2 hx3 hp0 hp1 hp2 hmu H locs ls hI hl hk
    have hF := hI.2.2.2
    refine lv_iload_n hx hb dX4_addCounter_6 rfl (lv_at hl 3 rfl) ?_
    refine lv_iconst (v := iI 1) hx hb dX4_addCounter_7 rfl ?_
    refine g_icmp_lt (tgt := 51) hx hb dX4_addCounter_8 (by decide) (by omega) (by omega) (fun c_1 => ?_) (fun c_1 => ?_)
    · skip
      have e9 : L_X4_addCounter_6 c a0 (n + 1) x2 x3 σ = σ := by rw [L_X4_addCounter_6, if_pos c_1]
      rw [e9] at hk
      exact hk _ _ _ (by first | (omega) | (dsimp only; omega)) hI (lv_sub hl [] rfl)
    · skip
      refine lv_iload_n hx hb dX4_addCounter_11 rfl (lv_at hl 2 rfl) ?_
      refine lv_iload_n hx hb dX4_addCounter_12 rfl (lv_at hl 1 rfl) ?_
      refine g_icmp_le (tgt := 24) hx hb dX4_addCounter_13 (by decide) (by omega) (by omega) (fun c_2 => ?_) (fun c_2 => ?_)
      · skip
        refine lv_aload_n hx hb dX4_addCounter_24 rfl (lv_at hl 0 rfl) ?_
        refine lv_bipush (v := iI 48) hx hb dX4_addCounter_25 (iI_bip (by decide)) ?_
        refine lv_aload_n hx hb dX4_addCounter_27 rfl (lv_at hl 0 rfl) ?_
        refine g_get (C := RX4) (T := TX4) (N := 12) (ci := 4) (v := .int (iI (σ c 4))) hx hb hts in_X4_addCounter_X4 hown hK hI c (by have q := hc; omega) (cel_Pd cy ad hc _) rfl 4 (by decide) (by decide +kernel) rfl dX4_addCounter_28 ?_
        have b_3 := bd_Pd_4 hF hc
        refine lv_iload_n hx hb dX4_addCounter_31 rfl (lv_at hl 3 rfl) ?_
        refine g_idiv hx hb (by omega) (by omega) dX4_addCounter_32 ?_
        have b_4 := ediv_rng (a := σ c 4) (b := x3) (by omega) (by omega)
        refine lv_bipush (v := iI 10) hx hb dX4_addCounter_33 (iI_bip (by decide)) ?_
        refine g_irem hx hb (by omega) (by omega) dX4_addCounter_35 ?_
        refine g_iadd hx hb dX4_addCounter_36 ?_
        refine g_V (As := [.int (iI (48 + (((σ c 4) / x3) % 10)))]) (rest := []) c (c_X4_addByte l D cy ad σ c hc (48 + (((σ c 4) / x3) % 10)) (by omega) (by omega)) hx hb hml hown hts hK hN hI hl.1 gX4_addCounter_X4_addByte rfl hd_X4_addByte rfl rfl ⟨Nat.le_of_ble_eq_true rfl, Nat.le_of_ble_eq_true rfl⟩ ⟨Nat.zero_le _, Nat.zero_le _⟩ (by have q := hc; omega) (cel_Pd cy ad hc _) rfl rfl rfl rfl (Nat.le_of_ble_eq_true rfl) dX4_addCounter_37 (fun H locs hG_5 hI => ?_)
        have hF_6 := hI.2.2.2
        refine lv_iinc (v := iI (x2 + (-1))) (lv' := [(2, .int (iI (x2 + (-1)))), (0, .ref (ad c)), (1, .int (iI a0)), (3, .int (iI x3))]) hx hb dX4_addCounter_40 hl (k := 2) rfl (iI_add _ _) (by decide) rfl (fun ls hl => ?_)
        refine lv_iload_n hx hb dX4_addCounter_43 rfl (lv_at hl 3 rfl) ?_
        refine lv_bipush (v := iI 10) hx hb dX4_addCounter_44 (iI_bip (by decide)) ?_
        refine g_idiv hx hb (by omega) (by omega) dX4_addCounter_46 ?_
        have b_7 := ediv_rng (a := x3) (b := 10) (by omega) (by omega)
        refine lv_istore_n (lv' := [(3, .int (iI (x3 / 10))), (2, .int (iI (x2 + (-1)))), (0, .ref (ad c)), (1, .int (iI a0))]) hx hb dX4_addCounter_47 rfl hl (by decide) rfl (fun ls hl => ?_)
        refine lv_goto (tgt := 6) hx hb dX4_addCounter_48 (by decide) ?_
        have e9 : L_X4_addCounter_6 c a0 (n + 1) x2 x3 σ = L_X4_addCounter_6 c a0 n (x2 + (-1)) (x3 / 10) (f_X4_addByte σ c (48 + (((σ c 4) / x3) % 10))) := by rw [L_X4_addCounter_6, if_neg c_1, if_pos c_2]
        rw [e9] at hk
        exact ih (x2 + (-1)) (x3 / 10) (f_X4_addByte σ c (48 + (((σ c 4) / x3) % 10))) (by omega) (by omega) (by omega) (by omega) (by omega) (by omega) _ _ _ hI (lv_sub hl [2, 3, 1, 0] rfl) hk
      · skip
        refine lv_aload_n hx hb dX4_addCounter_16 rfl (lv_at hl 0 rfl) ?_
        refine g_get (C := RX4) (T := TX4) (N := 12) (ci := 4) (v := .int (iI (σ c 4))) hx hb hts in_X4_addCounter_X4 hown hK hI c (by have q := hc; omega) (cel_Pd cy ad hc _) rfl 4 (by decide) (by decide +kernel) rfl dX4_addCounter_17 ?_
        have b_8 := bd_Pd_4 hF hc
        refine lv_iload_n hx hb dX4_addCounter_20 rfl (lv_at hl 3 rfl) ?_
        refine g_icmp_lt (tgt := 40) hx hb dX4_addCounter_21 (by decide) (by omega) (by omega) (fun c_9 => ?_) (fun c_9 => ?_)
        · skip
          refine lv_iinc (v := iI (x2 + (-1))) (lv' := [(2, .int (iI (x2 + (-1)))), (0, .ref (ad c)), (1, .int (iI a0)), (3, .int (iI x3))]) hx hb dX4_addCounter_40 hl (k := 2) rfl (iI_add _ _) (by decide) rfl (fun ls hl => ?_)
          refine lv_iload_n hx hb dX4_addCounter_43 rfl (lv_at hl 3 rfl) ?_
          refine lv_bipush (v := iI 10) hx hb dX4_addCounter_44 (iI_bip (by decide)) ?_
          refine g_idiv hx hb (by omega) (by omega) dX4_addCounter_46 ?_
          have b_10 := ediv_rng (a := x3) (b := 10) (by omega) (by omega)
          refine lv_istore_n (lv' := [(3, .int (iI (x3 / 10))), (2, .int (iI (x2 + (-1)))), (0, .ref (ad c)), (1, .int (iI a0))]) hx hb dX4_addCounter_47 rfl hl (by decide) rfl (fun ls hl => ?_)
          refine lv_goto (tgt := 6) hx hb dX4_addCounter_48 (by decide) ?_
          have e9 : L_X4_addCounter_6 c a0 (n + 1) x2 x3 σ = L_X4_addCounter_6 c a0 n (x2 + (-1)) (x3 / 10) σ := by rw [L_X4_addCounter_6, if_neg c_1, if_neg c_2, if_pos c_9]
          rw [e9] at hk
          exact ih (x2 + (-1)) (x3 / 10) σ (by omega) (by omega) (by omega) (by omega) (by omega) (by omega) _ _ _ hI (lv_sub hl [2, 3, 1, 0] rfl) hk
        · skip
          refine lv_aload_n hx hb dX4_addCounter_24 rfl (lv_at hl 0 rfl) ?_
          refine lv_bipush (v := iI 48) hx hb dX4_addCounter_25 (iI_bip (by decide)) ?_
          refine lv_aload_n hx hb dX4_addCounter_27 rfl (lv_at hl 0 rfl) ?_
          refine g_get (C := RX4) (T := TX4) (N := 12) (ci := 4) (v := .int (iI (σ c 4))) hx hb hts in_X4_addCounter_X4 hown hK hI c (by have q := hc; omega) (cel_Pd cy ad hc _) rfl 4 (by decide) (by decide +kernel) rfl dX4_addCounter_28 ?_
          have b_11 := bd_Pd_4 hF hc
          refine lv_iload_n hx hb dX4_addCounter_31 rfl (lv_at hl 3 rfl) ?_
          refine g_idiv hx hb (by omega) (by omega) dX4_addCounter_32 ?_
          have b_12 := ediv_rng (a := σ c 4) (b := x3) (by omega) (by omega)
          refine lv_bipush (v := iI 10) hx hb dX4_addCounter_33 (iI_bip (by decide)) ?_
          refine g_irem hx hb (by omega) (by omega) dX4_addCounter_35 ?_
          refine g_iadd hx hb dX4_addCounter_36 ?_
          refine g_V (As := [.int (iI (48 + (((σ c 4) / x3) % 10)))]) (rest := []) c (c_X4_addByte l D cy ad σ c hc (48 + (((σ c 4) / x3) % 10)) (by omega) (by omega)) hx hb hml hown hts hK hN hI hl.1 gX4_addCounter_X4_addByte rfl hd_X4_addByte rfl rfl ⟨Nat.le_of_ble_eq_true rfl, Nat.le_of_ble_eq_true rfl⟩ ⟨Nat.zero_le _, Nat.zero_le _⟩ (by have q := hc; omega) (cel_Pd cy ad hc _) rfl rfl rfl rfl (Nat.le_of_ble_eq_true rfl) dX4_addCounter_37 (fun H locs hG_13 hI => ?_)
          have hF_14 := hI.2.2.2
          refine lv_iinc (v := iI (x2 + (-1))) (lv' := [(2, .int (iI (x2 + (-1)))), (0, .ref (ad c)), (1, .int (iI a0)), (3, .int (iI x3))]) hx hb dX4_addCounter_40 hl (k := 2) rfl (iI_add _ _) (by decide) rfl (fun ls hl => ?_)
          refine lv_iload_n hx hb dX4_addCounter_43 rfl (lv_at hl 3 rfl) ?_
          refine lv_bipush (v := iI 10) hx hb dX4_addCounter_44 (iI_bip (by decide)) ?_
          refine g_idiv hx hb (by omega) (by omega) dX4_addCounter_46 ?_
          have b_15 := ediv_rng (a := x3) (b := 10) (by omega) (by omega)
          refine lv_istore_n (lv' := [(3, .int (iI (x3 / 10))), (2, .int (iI (x2 + (-1)))), (0, .ref (ad c)), (1, .int (iI a0))]) hx hb dX4_addCounter_47 rfl hl (by decide) rfl (fun ls hl => ?_)
          refine lv_goto (tgt := 6) hx hb dX4_addCounter_48 (by decide) ?_
          have e9 : L_X4_addCounter_6 c a0 (n + 1) x2 x3 σ = L_X4_addCounter_6 c a0 n (x2 + (-1)) (x3 / 10) (f_X4_addByte σ c (48 + (((σ c 4) / x3) % 10))) := by rw [L_X4_addCounter_6, if_neg c_1, if_neg c_2, if_neg c_9]
          rw [e9] at hk
          exact ih (x2 + (-1)) (x3 / 10) (f_X4_addByte σ c (48 + (((σ c 4) / x3) % 10))) (by omega) (by omega) (by omega) (by omega) (by omega) (by omega) _ _ _ hI (lv_sub hl [2, 3, 1, 0] rfl) hk
def f_X4_addCounter (σ : Sg) (c : Nat) (a0 : Int) : Sg := (L_X4_addCounter_6 c a0 1001 4 1000 σ)
theorem hd_X4_addCounter : yX4_addCounter.cls = RX4 ∧ yX4_addCounter.cls ≠ "java/lang/invoke/MethodHandle" ∧ yX4_addCounter.cls ≠ "java/lang/invoke/VarHandle" ∧ (parseMethodDescriptor yX4_addCounter.desc).map (fun d => d.parameters.length) = some 1 := by decide +kernel
set_option maxHeartbeats 4000000 in
set_option maxRecDepth 100000 in
theorem c_X4_addCounter (l : Launch) (D : va_G) (cy : Nat → ClassId) (ad : Nat → Nat) (σ : Sg) (c : Nat) (hc : isPd c) (a0 : Int) (ha0 : (-49 : Int) ≤ a0 ∧ a0 ≤ 300) (h1 : σ c 5 ≤ 500) : CM l D cy ad yX4_addCounter wsX4_addCounter { frames := 2, cells := 0, slots := 0, locals := 80 } [.ref (ad c), .int (iI a0)] σ none (f_X4_addCounter σ c a0) ((f_X4_addCounter σ c a0) c 5 ≤ σ c 5 + 4) := by
  refine CM.of (cc := cX4_addCounter) (maxL := 4) (ret := none) (by decide) rfl (Nat.le_of_ble_eq_true rfl) ?_
  intro p e s m args below meth c₀ ls X hI hl
  have hl : lv_has ls 4 [(0, .ref (ad c)), (1, .int (iI a0))] := hl
  obtain ⟨hx, hb, hr, hml, hown, hts, hlocks, hK, hN⟩ := id X
  have hF := hI.2.2.2
  refine lv_iconst (v := iI 4) hx hb dX4_addCounter_0 rfl ?_
  refine lv_istore_n (lv' := [(2, .int (iI 4)), (0, .ref (ad c)), (1, .int (iI a0))]) hx hb dX4_addCounter_1 rfl hl (by decide) rfl (fun ls hl => ?_)
  refine lv_sipush (v := iI 1000) hx hb dX4_addCounter_2 (iI_sip (by decide)) ?_
  refine lv_istore_n (lv' := [(3, .int (iI 1000)), (2, .int (iI 4)), (0, .ref (ad c)), (1, .int (iI a0))]) hx hb dX4_addCounter_5 rfl hl (by decide) rfl (fun ls hl => ?_)
  refine w_L_X4_addCounter_6 X  c hc a0 ha0  (σ c 5) 1001 4 1000 σ (by omega) (by omega) (by omega) (by omega) (by omega) (by omega) _ _ _ hI (lv_sub hl [2, 3, 1, 0] rfl) (fun H locs ls hpo_17 hI hl => ?_)
  have hF_16 := hI.2.2.2
  have e9 : f_X4_addCounter σ c a0 = (L_X4_addCounter_6 c a0 1001 4 1000 σ) := by rw [f_X4_addCounter]
  exact g_vret hx hb hr hK hN hlocks hI (by rw [e9]) (by rw [e9] <;> first | (omega) | (dsimp only; omega)) dX4_addCounter_51
theorem in_X4_nameBy_X2 : ∀ w ∈ u_ws RX2 TX2 3, w ∈ wsX4_nameBy := by decide +kernel
theorem in_X4_nameBy_X4 : ∀ w ∈ u_ws RX4 TX4 12, w ∈ wsX4_nameBy := by decide +kernel
def L_X4_nameBy_16 (c : Nat) (q0 : Nat) (a2 : Int) : Nat → Int → Sg → Sg
  | 0, x4, σ => (σ)
  | n + 1, x4, σ => (if (f_X5_partCount σ q0) ≤ x4 then σ else (if (f_X5_partSign σ q0 x4) = 37 then L_X4_nameBy_16 c q0 a2 n (x4 + 1) (f_X4_addCounter σ c (f_X5_partFigure σ q0 x4)) else (if (f_X6_isTaken (f_X5_partSign σ q0 x4)) = 0 then L_X4_nameBy_16 c q0 a2 n (x4 + 1) (f_X4_addByte σ c (f_X5_partSign σ q0 x4)) else L_X4_nameBy_16 c q0 a2 n (x4 + 1) (f_X4_addTaken σ c (f_X5_partSign σ q0 x4) (f_X0_startOf σ (f_X5_wildItem σ q0 (f_X5_partFigure σ q0 x4))) (f_X0_tookBy σ (f_X5_wildItem σ q0 (f_X5_partFigure σ q0 x4)))))))
set_option maxHeartbeats 4000000 in
set_option maxRecDepth 100000 in
theorem w_L_X4_nameBy_16 {p : Program} {l : Launch} {e : Env} {s : State} {m : MethodId} {args : Array Value} {below : List Frame} {meth : Method} {c₀ : Code} {D : va_G} {cy : Nat → ClassId} {ad : Nat → Nat} {Q : State → Prop} (X : MX p s m args meth c₀ cX4_nameBy 8 RX4 none wsX4_nameBy D cy) (c : Nat) (hc : isPd c) (q0 : Nat) (hq0 : isRu q0) (a2 : Int) (ha2 : (0 : Int) ≤ a2 ∧ a2 ≤ 5) : ∀ (n : Nat) (x4 : Int) (σ : Sg) (hx4 : (0 : Int) ≤ x4 ∧ x4 ≤ 12) (hp0 : σ c 5 ≤ 12 * x4) (hmu : 12 - x4 < (n : Int)) (H : Heap) (locs : List Loc) (ls : Array Slot) (hI : HI D cy ad s σ H locs) (hl : lv_has ls 8 [(0, .ref (ad c)), (1, .ref (ad q0)), (2, .ref (ad 9)), (4, .int (iI x4))])  (hk : ∀ (H1 : Heap) (locs1 : List Loc) (ls1 : Array Slot), True → HI D cy ad s (L_X4_nameBy_16 c q0 a2 n x4 σ) H1 locs1 → lv_has ls1 8 [(0, .ref (ad c))] → W p l e { frames := 3, cells := 0, slots := 0, locals := 120 } s m args below meth c₀ H1 locs1 0 0 Q (F0 m 106 ls1 [])), W p l e { frames := 3, cells := 0, slots := 0, locals := 120 } s m args below meth c₀ H locs 0 0 Q (F0 m 16 ls []) := by
  obtain ⟨hx, hb, hr, hml, hown, hts, hlocks, hK, hN⟩ := id X
  intro n
  induction n with
  | zero =>
    intro x4 σ hx4 hp0 hmu H locs ls hI hl hk
    exfalso
    have hF := hI.2.2.2
    omega
  | succ n ih =>
    intro x4 σ hx4 hp0 hmu H locs ls hI hl hk
    have hF := hI.2.2.2
    refine lv_iload hx hb dX4_nameBy_16 (lv_at hl 3 rfl) ?_
    refine lv_aload_n hx hb dX4_nameBy_18 rfl (lv_at hl 1 rfl) ?_
    refine g_V (As := []) (rest := [.int (iI x4)]) q0 (c_X5_partCount l D cy ad σ q0 hq0) hx hb hml hown hts hK hN hI hl.1 gX4_nameBy_X5_partCount rfl hd_X5_partCount rfl rfl ⟨Nat.le_of_ble_eq_true rfl, Nat.le_of_ble_eq_true rfl⟩ ⟨Nat.zero_le _, Nat.zero_le _⟩ (by rcases hq0 with q | q <;> rw [q] <;> decide) (cel_Ru cy ad hq0 _) rfl rfl rfl rfl (Nat.le_of_ble_eq_true rfl) dX4_nameBy_19 (fun H locs hG_4 hI => ?_)
    refine g_icmp_ge (tgt := 106) hx hb dX4_nameBy_22 (by decide) (by omega) (by omega) (fun c_5 => ?_) (fun c_5 => ?_)
    · skip
      have e9 : L_X4_nameBy_16 c q0 a2 (n + 1) x4 σ = σ := by rw [L_X4_nameBy_16, if_pos c_5]
      rw [e9] at hk
      exact hk _ _ _ trivial hI (lv_sub hl [0] rfl)
    · skip
      refine lv_aload_n hx hb dX4_nameBy_25 rfl (lv_at hl 1 rfl) ?_
      refine lv_iload hx hb dX4_nameBy_26 (lv_at hl 3 rfl) ?_
      refine g_V (As := [.int (iI x4)]) (rest := []) q0 (c_X5_partSign l D cy ad σ q0 hq0 x4 (by omega)) hx hb hml hown hts hK hN hI hl.1 gX4_nameBy_X5_partSign rfl hd_X5_partSign rfl rfl ⟨Nat.le_of_ble_eq_true rfl, Nat.le_of_ble_eq_true rfl⟩ ⟨Nat.zero_le _, Nat.zero_le _⟩ (by rcases hq0 with q | q <;> rw [q] <;> decide) (cel_Ru cy ad hq0 _) rfl rfl rfl rfl (Nat.le_of_ble_eq_true rfl) dX4_nameBy_28 (fun H locs hG_6 hI => ?_)
      refine lv_istore (lv' := [(5, .int (iI (f_X5_partSign σ q0 x4))), (0, .ref (ad c)), (1, .ref (ad q0)), (2, .ref (ad 9)), (4, .int (iI x4))]) hx hb dX4_nameBy_31 hl (by decide) rfl (fun ls hl => ?_)
      refine lv_aload_n hx hb dX4_nameBy_33 rfl (lv_at hl 2 rfl) ?_
      refine lv_iload hx hb dX4_nameBy_34 (lv_at hl 4 rfl) ?_
      refine g_V (As := [.int (iI x4)]) (rest := []) q0 (c_X5_partFigure l D cy ad σ q0 hq0 x4 (by omega)) hx hb hml hown hts hK hN hI hl.1 gX4_nameBy_X5_partFigure rfl hd_X5_partFigure rfl rfl ⟨Nat.le_of_ble_eq_true rfl, Nat.le_of_ble_eq_true rfl⟩ ⟨Nat.zero_le _, Nat.zero_le _⟩ (by rcases hq0 with q | q <;> rw [q] <;> decide) (cel_Ru cy ad hq0 _) rfl rfl rfl rfl (Nat.le_of_ble_eq_true rfl) dX4_nameBy_36 (fun H locs hG_7 hI => ?_)
      refine lv_istore (lv' := [(6, .int (iI (f_X5_partFigure σ q0 x4))), (5, .int (iI (f_X5_partSign σ q0 x4))), (0, .ref (ad c)), (1, .ref (ad q0)), (2, .ref (ad 9)), (4, .int (iI x4))]) hx hb dX4_nameBy_39 hl (by decide) rfl (fun ls hl => ?_)
      refine lv_iload hx hb dX4_nameBy_41 (lv_at hl 1 rfl) ?_
      refine lv_bipush (v := iI 37) hx hb dX4_nameBy_43 (iI_bip (by decide)) ?_
      refine g_icmp_ne (tgt := 57) hx hb dX4_nameBy_45 (by decide) (by omega) (by omega) (fun c_8 => ?_) (fun c_8 => ?_)
      · skip
        refine lv_iload hx hb dX4_nameBy_57 (lv_at hl 1 rfl) ?_
        refine g_S (As := [.int (iI (f_X5_partSign σ q0 x4))]) (rest := []) (c_X6_isTaken l D cy ad σ (f_X5_partSign σ q0 x4) (by omega)) hx hb hml hown hts hK hN hI hl.1 gX4_nameBy_X6_isTaken rfl hd_X6_isTaken rfl rfl ⟨Nat.le_of_ble_eq_true rfl, Nat.le_of_ble_eq_true rfl⟩ ⟨Nat.zero_le _, Nat.zero_le _⟩ rfl rfl (Nat.le_of_ble_eq_true rfl) dX4_nameBy_59 (fun H locs hG_9 hI => ?_)
        refine g_if_eq (tgt := 94) hx hb dX4_nameBy_62 (by decide) (by omega) (fun c_10 => ?_) (fun c_10 => ?_)
        · skip
          refine lv_aload_n hx hb dX4_nameBy_94 rfl (lv_at hl 2 rfl) ?_
          refine lv_iload hx hb dX4_nameBy_95 (lv_at hl 1 rfl) ?_
          refine g_V (As := [.int (iI (f_X5_partSign σ q0 x4))]) (rest := []) c (c_X4_addByte l D cy ad σ c hc (f_X5_partSign σ q0 x4) (by omega) (by omega)) hx hb hml hown hts hK hN hI hl.1 gX4_nameBy_X4_addByte rfl hd_X4_addByte rfl rfl ⟨Nat.le_of_ble_eq_true rfl, Nat.le_of_ble_eq_true rfl⟩ ⟨Nat.zero_le _, Nat.zero_le _⟩ (by have q := hc; omega) (cel_Pd cy ad hc _) rfl rfl rfl rfl (Nat.le_of_ble_eq_true rfl) dX4_nameBy_97 (fun H locs hG_11 hI => ?_)
          have hF_12 := hI.2.2.2
          refine lv_iinc (v := iI (x4 + 1)) (lv' := [(4, .int (iI (x4 + 1))), (6, .int (iI (f_X5_partFigure σ q0 x4))), (5, .int (iI (f_X5_partSign σ q0 x4))), (0, .ref (ad c)), (1, .ref (ad q0)), (2, .ref (ad 9))]) hx hb dX4_nameBy_100 hl (k := 5) rfl (iI_add _ _) (by decide) rfl (fun ls hl => ?_)
          refine lv_goto (tgt := 16) hx hb dX4_nameBy_103 (by decide) ?_
          have e9 : L_X4_nameBy_16 c q0 a2 (n + 1) x4 σ = L_X4_nameBy_16 c q0 a2 n (x4 + 1) (f_X4_addByte σ c (f_X5_partSign σ q0 x4)) := by rw [L_X4_nameBy_16, if_neg c_5, if_neg c_8, if_pos c_10]
          rw [e9] at hk
          exact ih (x4 + 1) (f_X4_addByte σ c (f_X5_partSign σ q0 x4)) (by omega) (by first | omega | (rw [up2_same]; omega)) (by omega) _ _ _ hI (lv_sub hl [3, 4, 5, 0] rfl) hk
        · skip
          refine lv_aload_n hx hb dX4_nameBy_65 rfl (lv_at hl 3 rfl) ?_
          refine lv_iload hx hb dX4_nameBy_66 (lv_at hl 0 rfl) ?_
          refine g_V (As := [.int (iI (f_X5_partFigure σ q0 x4))]) (rest := []) q0 (c_X5_wildItem l D cy ad σ q0 hq0 (f_X5_partFigure σ q0 x4) (by omega)) hx hb hml hown hts hK hN hI hl.1 gX4_nameBy_X5_wildItem rfl hd_X5_wildItem rfl rfl ⟨Nat.le_of_ble_eq_true rfl, Nat.le_of_ble_eq_true rfl⟩ ⟨Nat.zero_le _, Nat.zero_le _⟩ (by rcases hq0 with q | q <;> rw [q] <;> decide) (cel_Ru cy ad hq0 _) rfl rfl rfl rfl (Nat.le_of_ble_eq_true rfl) dX4_nameBy_68 (fun H locs hG_13 hI => ?_)
          refine lv_istore (lv' := [(7, .int (iI (f_X5_wildItem σ q0 (f_X5_partFigure σ q0 x4)))), (6, .int (iI (f_X5_partFigure σ q0 x4))), (5, .int (iI (f_X5_partSign σ q0 x4))), (0, .ref (ad c)), (1, .ref (ad q0)), (2, .ref (ad 9)), (4, .int (iI x4))]) hx hb dX4_nameBy_71 hl (by decide) rfl (fun ls hl => ?_)
          refine lv_aload_n hx hb dX4_nameBy_73 rfl (lv_at hl 3 rfl) ?_
          refine lv_iload hx hb dX4_nameBy_74 (lv_at hl 2 rfl) ?_
          refine lv_aload_n hx hb dX4_nameBy_76 rfl (lv_at hl 5 rfl) ?_
          refine lv_iload hx hb dX4_nameBy_77 (lv_at hl 0 rfl) ?_
          refine g_V (As := [.int (iI (f_X5_wildItem σ q0 (f_X5_partFigure σ q0 x4)))]) (rest := [.int (iI (f_X5_partSign σ q0 x4)), .ref (ad c)]) 9 (c_X0_startOf l D cy ad σ (f_X5_wildItem σ q0 (f_X5_partFigure σ q0 x4)) (by omega)) hx hb hml hown hts hK hN hI hl.1 gX4_nameBy_X0_startOf rfl hd_X0_startOf rfl rfl ⟨Nat.le_of_ble_eq_true rfl, Nat.le_of_ble_eq_true rfl⟩ ⟨Nat.zero_le _, Nat.zero_le _⟩ (by decide) (cel_9 cy ad _) rfl rfl rfl rfl (Nat.le_of_ble_eq_true rfl) dX4_nameBy_79 (fun H locs hG_14 hI => ?_)
          refine lv_aload_n hx hb dX4_nameBy_82 rfl (lv_at hl 5 rfl) ?_
          refine lv_iload hx hb dX4_nameBy_83 (lv_at hl 0 rfl) ?_
          refine g_V (As := [.int (iI (f_X5_wildItem σ q0 (f_X5_partFigure σ q0 x4)))]) (rest := [.int (iI (f_X0_startOf σ (f_X5_wildItem σ q0 (f_X5_partFigure σ q0 x4)))), .int (iI (f_X5_partSign σ q0 x4)), .ref (ad c)]) 9 (c_X0_tookBy l D cy ad σ (f_X5_wildItem σ q0 (f_X5_partFigure σ q0 x4)) (by omega)) hx hb hml hown hts hK hN hI hl.1 gX4_nameBy_X0_tookBy rfl hd_X0_tookBy rfl rfl ⟨Nat.le_of_ble_eq_true rfl, Nat.le_of_ble_eq_true rfl⟩ ⟨Nat.zero_le _, Nat.zero_le _⟩ (by decide) (cel_9 cy ad _) rfl rfl rfl rfl (Nat.le_of_ble_eq_true rfl) dX4_nameBy_85 (fun H locs hG_15 hI => ?_)
          refine g_V (As := [.int (iI (f_X5_partSign σ q0 x4)), .int (iI (f_X0_startOf σ (f_X5_wildItem σ q0 (f_X5_partFigure σ q0 x4)))), .int (iI (f_X0_tookBy σ (f_X5_wildItem σ q0 (f_X5_partFigure σ q0 x4))))]) (rest := []) c (c_X4_addTaken l D cy ad σ c hc (f_X5_partSign σ q0 x4) (by omega) (f_X0_startOf σ (f_X5_wildItem σ q0 (f_X5_partFigure σ q0 x4))) (by omega) (f_X0_tookBy σ (f_X5_wildItem σ q0 (f_X5_partFigure σ q0 x4))) (by omega) (by omega)) hx hb hml hown hts hK hN hI hl.1 gX4_nameBy_X4_addTaken rfl hd_X4_addTaken rfl rfl ⟨Nat.le_of_ble_eq_true rfl, Nat.le_of_ble_eq_true rfl⟩ ⟨Nat.zero_le _, Nat.zero_le _⟩ (by have q := hc; omega) (cel_Pd cy ad hc _) rfl rfl rfl rfl (Nat.le_of_ble_eq_true rfl) dX4_nameBy_88 (fun H locs hG_16 hI => ?_)
          have hF_17 := hI.2.2.2
          refine lv_goto (tgt := 100) hx hb dX4_nameBy_91 (by decide) ?_
          refine lv_iinc (v := iI (x4 + 1)) (lv' := [(4, .int (iI (x4 + 1))), (7, .int (iI (f_X5_wildItem σ q0 (f_X5_partFigure σ q0 x4)))), (6, .int (iI (f_X5_partFigure σ q0 x4))), (5, .int (iI (f_X5_partSign σ q0 x4))), (0, .ref (ad c)), (1, .ref (ad q0)), (2, .ref (ad 9))]) hx hb dX4_nameBy_100 hl (k := 6) rfl (iI_add _ _) (by decide) rfl (fun ls hl => ?_)
          refine lv_goto (tgt := 16) hx hb dX4_nameBy_103 (by decide) ?_
          have e9 : L_X4_nameBy_16 c q0 a2 (n + 1) x4 σ = L_X4_nameBy_16 c q0 a2 n (x4 + 1) (f_X4_addTaken σ c (f_X5_partSign σ q0 x4) (f_X0_startOf σ (f_X5_wildItem σ q0 (f_X5_partFigure σ q0 x4))) (f_X0_tookBy σ (f_X5_wildItem σ q0 (f_X5_partFigure σ q0 x4)))) := by rw [L_X4_nameBy_16, if_neg c_5, if_neg c_8, if_neg c_10]
          rw [e9] at hk
          exact ih (x4 + 1) (f_X4_addTaken σ c (f_X5_partSign σ q0 x4) (f_X0_startOf σ (f_X5_wildItem σ q0 (f_X5_partFigure σ q0 x4))) (f_X0_tookBy σ (f_X5_wildItem σ q0 (f_X5_partFigure σ q0 x4)))) (by omega) (by first | omega | (rw [up2_same]; omega)) (by omega) _ _ _ hI (lv_sub hl [4, 5, 6, 0] rfl) hk
      · skip
        refine lv_aload_n hx hb dX4_nameBy_48 rfl (lv_at hl 2 rfl) ?_
        refine lv_iload hx hb dX4_nameBy_49 (lv_at hl 0 rfl) ?_
        refine g_V (As := [.int (iI (f_X5_partFigure σ q0 x4))]) (rest := []) c (c_X4_addCounter l D cy ad σ c hc (f_X5_partFigure σ q0 x4) (by omega) (by omega)) hx hb hml hown hts hK hN hI hl.1 gX4_nameBy_X4_addCounter rfl hd_X4_addCounter rfl rfl ⟨Nat.le_of_ble_eq_true rfl, Nat.le_of_ble_eq_true rfl⟩ ⟨Nat.zero_le _, Nat.zero_le _⟩ (by have q := hc; omega) (cel_Pd cy ad hc _) rfl rfl rfl rfl (Nat.le_of_ble_eq_true rfl) dX4_nameBy_51 (fun H locs hG_18 hI => ?_)
        have hF_19 := hI.2.2.2
        refine lv_goto (tgt := 100) hx hb dX4_nameBy_54 (by decide) ?_
        refine lv_iinc (v := iI (x4 + 1)) (lv' := [(4, .int (iI (x4 + 1))), (6, .int (iI (f_X5_partFigure σ q0 x4))), (5, .int (iI (f_X5_partSign σ q0 x4))), (0, .ref (ad c)), (1, .ref (ad q0)), (2, .ref (ad 9))]) hx hb dX4_nameBy_100 hl (k := 5) rfl (iI_add _ _) (by decide) rfl (fun ls hl => ?_)
        refine lv_goto (tgt := 16) hx hb dX4_nameBy_103 (by decide) ?_
        have e9 : L_X4_nameBy_16 c q0 a2 (n + 1) x4 σ = L_X4_nameBy_16 c q0 a2 n (x4 + 1) (f_X4_addCounter σ c (f_X5_partFigure σ q0 x4)) := by rw [L_X4_nameBy_16, if_neg c_5, if_pos c_8]
        rw [e9] at hk
        exact ih (x4 + 1) (f_X4_addCounter σ c (f_X5_partFigure σ q0 x4)) (by omega) (by first | omega | (rw [up2_same]; omega)) (by omega) _ _ _ hI (lv_sub hl [3, 4, 5, 0] rfl) hk
def f_X4_nameBy (σ : Sg) (c : Nat) (q0 : Nat) (a2 : Int) : Sg := (if ((L_X4_nameBy_16 c q0 a2 13 0 (up2 (f_X2_begin σ (201 + 6 * (c - 439)) a2) c 5 0)) c 5) = ((L_X4_nameBy_16 c q0 a2 13 0 (up2 (f_X2_begin σ (201 + 6 * (c - 439)) a2) c 5 0)) (201 + 6 * (c - 439)) 2) then (if (f_X2_isJust (L_X4_nameBy_16 c q0 a2 13 0 (up2 (f_X2_begin σ (201 + 6 * (c - 439)) a2) c 5 0)) (201 + 6 * (c - 439)) (199 + 6 * (c - 439))) = 0 then (up2 (L_X4_nameBy_16 c q0 a2 13 0 (up2 (f_X2_begin σ (201 + 6 * (c - 439)) a2) c 5 0)) c 6 0) else (up2 (L_X4_nameBy_16 c q0 a2 13 0 (up2 (f_X2_begin σ (201 + 6 * (c - 439)) a2) c 5 0)) c 6 1)) else (up2 (L_X4_nameBy_16 c q0 a2 13 0 (up2 (f_X2_begin σ (201 + 6 * (c - 439)) a2) c 5 0)) c 6 0))
theorem hd_X4_nameBy : yX4_nameBy.cls = RX4 ∧ yX4_nameBy.cls ≠ "java/lang/invoke/MethodHandle" ∧ yX4_nameBy.cls ≠ "java/lang/invoke/VarHandle" ∧ (parseMethodDescriptor yX4_nameBy.desc).map (fun d => d.parameters.length) = some 3 := by decide +kernel
set_option maxHeartbeats 4000000 in
set_option maxRecDepth 100000 in
theorem c_X4_nameBy (l : Launch) (D : va_G) (cy : Nat → ClassId) (ad : Nat → Nat) (σ : Sg) (c : Nat) (hc : isPd c) (q0 : Nat) (hq0 : isRu q0) (a2 : Int) (ha2 : (0 : Int) ≤ a2 ∧ a2 ≤ 5) : CM l D cy ad yX4_nameBy wsX4_nameBy { frames := 3, cells := 0, slots := 0, locals := 120 } [.ref (ad c), .ref (ad q0), .ref (ad 9), .int (iI a2)] σ none (f_X4_nameBy σ c q0 a2) (True) := by
  refine CM.of (cc := cX4_nameBy) (maxL := 8) (ret := none) (by decide) rfl (Nat.le_of_ble_eq_true rfl) ?_
  intro p e s m args below meth c₀ ls X hI hl
  have hl : lv_has ls 8 [(0, .ref (ad c)), (1, .ref (ad q0)), (2, .ref (ad 9)), (3, .int (iI a2))] := hl
  obtain ⟨hx, hb, hr, hml, hown, hts, hlocks, hK, hN⟩ := id X
  have hF := hI.2.2.2
  refine lv_aload_n hx hb dX4_nameBy_0 rfl (lv_at hl 0 rfl) ?_
  refine g_get (C := RX4) (T := TX4) (N := 12) (ci := 4) (v := .ref (ad (201 + 6 * (c - 439)))) hx hb hts in_X4_nameBy_X4 hown hK hI c (by have q := hc; omega) (cel_Pd cy ad hc _) rfl 1 (by decide) (by decide +kernel) rfl dX4_nameBy_1 ?_
  refine lv_iload_n hx hb dX4_nameBy_4 rfl (lv_at hl 3 rfl) ?_
  refine g_V (As := [.int (iI a2)]) (rest := []) (201 + 6 * (c - 439)) (c_X2_begin l D cy ad σ (201 + 6 * (c - 439)) (by have q := hc; omega : isPl (201 + 6 * (c - 439))) a2 (by omega)) hx hb hml hown hts hK hN hI hl.1 gX4_nameBy_X2_begin rfl hd_X2_begin rfl rfl ⟨Nat.le_of_ble_eq_true rfl, Nat.le_of_ble_eq_true rfl⟩ ⟨Nat.zero_le _, Nat.zero_le _⟩ (by have q := (by have q := hc; omega : isPl (201 + 6 * (c - 439))); omega) (cel_Pl cy ad (by have q := hc; omega : isPl (201 + 6 * (c - 439))) _) rfl rfl rfl rfl (Nat.le_of_ble_eq_true rfl) dX4_nameBy_5 (fun H locs hG_1 hI => ?_)
  have hF_2 := hI.2.2.2
  refine lv_aload_n hx hb dX4_nameBy_8 rfl (lv_at hl 0 rfl) ?_
  refine lv_iconst (v := iI 0) hx hb dX4_nameBy_9 rfl ?_
  refine g_put (C := RX4) (T := TX4) (N := 12) (ci := 4) (ty := .int) (z := 0) hx hb hts in_X4_nameBy_X4 tyX4 tyX4_ok nmX4 hown hK hI c (by have q := hc; omega) (cel_Pd cy ad hc) rfl 5 (by decide) (by decide +kernel) rfl (by decide +kernel) rfl rfl (Nat.le_of_ble_eq_true rfl) (by unfold fs_Pd; rw [up2_row]; rfl) (bw_Pd_5 hc (by omega)) dX4_nameBy_10 (fun H locs hI => ?_)
  have hF_3 := hI.2.2.2
  refine lv_iconst (v := iI 0) hx hb dX4_nameBy_13 rfl ?_
  refine lv_istore (lv' := [(4, .int (iI 0)), (0, .ref (ad c)), (1, .ref (ad q0)), (2, .ref (ad 9)), (3, .int (iI a2))]) hx hb dX4_nameBy_14 hl (by decide) rfl (fun ls hl => ?_)
  refine w_L_X4_nameBy_16 X  c hc q0 hq0 a2 ha2  13 0 (up2 (f_X2_begin σ (201 + 6 * (c - 439)) a2) c 5 0) (by omega) (by first | omega | (rw [up2_same]; omega)) (by omega) _ _ _ hI (lv_sub hl [1, 2, 3, 0] rfl) (fun H locs ls hpo_21 hI hl => ?_)
  have hF_20 := hI.2.2.2
  refine lv_aload_n hx hb dX4_nameBy_106 rfl (lv_at hl 0 rfl) ?_
  refine lv_aload_n hx hb dX4_nameBy_107 rfl (lv_at hl 0 rfl) ?_
  refine g_get (C := RX4) (T := TX4) (N := 12) (ci := 4) (v := .int (iI ((L_X4_nameBy_16 c q0 a2 13 0 (up2 (f_X2_begin σ (201 + 6 * (c - 439)) a2) c 5 0)) c 5))) hx hb hts in_X4_nameBy_X4 hown hK hI c (by have q := hc; omega) (cel_Pd cy ad hc _) rfl 5 (by decide) (by decide +kernel) rfl dX4_nameBy_108 ?_
  have b_22 := bd_Pd_5 hF_20 hc
  refine lv_aload_n hx hb dX4_nameBy_111 rfl (lv_at hl 0 rfl) ?_
  refine g_get (C := RX4) (T := TX4) (N := 12) (ci := 4) (v := .ref (ad (201 + 6 * (c - 439)))) hx hb hts in_X4_nameBy_X4 hown hK hI c (by have q := hc; omega) (cel_Pd cy ad hc _) rfl 1 (by decide) (by decide +kernel) rfl dX4_nameBy_112 ?_
  refine g_getN (C := RX2) (T := TX2) (N := 3) (ci := 2) (v := .int (iI ((L_X4_nameBy_16 c q0 a2 13 0 (up2 (f_X2_begin σ (201 + 6 * (c - 439)) a2) c 5 0)) (201 + 6 * (c - 439)) 2))) hx hb hts in_X4_nameBy_X2 hown hK hN hI (201 + 6 * (c - 439)) (by have q := (by have q := hc; omega : isPl (201 + 6 * (c - 439))); omega) (cel_Pl cy ad (by have q := hc; omega : isPl (201 + 6 * (c - 439))) _) rfl 2 (by decide) (by decide +kernel) rfl dX4_nameBy_115 ?_
  have b_23 := bd_Pl_2 hF_20 (by have q := hc; omega : isPl (201 + 6 * (c - 439)))
  refine g_icmp_ne (tgt := 139) hx hb dX4_nameBy_118 (by decide) (by omega) (by omega) (fun c_24 => ?_) (fun c_24 => ?_)
  · skip
    refine lv_iconst (v := iI 0) hx hb dX4_nameBy_139 rfl ?_
    refine g_put (C := RX4) (T := TX4) (N := 12) (ci := 4) (ty := .boolean) (z := 0) hx hb hts in_X4_nameBy_X4 tyX4 tyX4_ok nmX4 hown hK hI c (by have q := hc; omega) (cel_Pd cy ad hc) rfl 6 (by decide) (by decide +kernel) rfl (by decide +kernel) (iI_nz (by omega)) (iI_fz (by omega)) (Nat.le_of_ble_eq_true rfl) (by unfold fs_Pd; rw [up2_row]; rfl) (bw_Pd_6 hc (by omega)) dX4_nameBy_140 (fun H locs hI => ?_)
    have hF_25 := hI.2.2.2
    have e9 : f_X4_nameBy σ c q0 a2 = (up2 (L_X4_nameBy_16 c q0 a2 13 0 (up2 (f_X2_begin σ (201 + 6 * (c - 439)) a2) c 5 0)) c 6 0) := by rw [f_X4_nameBy, if_neg c_24]
    exact g_vret hx hb hr hK hN hlocks hI (by rw [e9]) trivial dX4_nameBy_143
  · skip
    refine lv_aload_n hx hb dX4_nameBy_121 rfl (lv_at hl 0 rfl) ?_
    refine g_get (C := RX4) (T := TX4) (N := 12) (ci := 4) (v := .ref (ad (201 + 6 * (c - 439)))) hx hb hts in_X4_nameBy_X4 hown hK hI c (by have q := hc; omega) (cel_Pd cy ad hc _) rfl 1 (by decide) (by decide +kernel) rfl dX4_nameBy_122 ?_
    refine lv_aload_n hx hb dX4_nameBy_125 rfl (lv_at hl 0 rfl) ?_
    refine g_get (C := RX4) (T := TX4) (N := 12) (ci := 4) (v := .ref (ad (199 + 6 * (c - 439)))) hx hb hts in_X4_nameBy_X4 hown hK hI c (by have q := hc; omega) (cel_Pd cy ad hc _) rfl 0 (by decide) (by decide +kernel) rfl dX4_nameBy_126 ?_
    refine g_V (As := [.ref (ad (199 + 6 * (c - 439)))]) (rest := [.ref (ad c)]) (201 + 6 * (c - 439)) (c_X2_isJust l D cy ad (L_X4_nameBy_16 c q0 a2 13 0 (up2 (f_X2_begin σ (201 + 6 * (c - 439)) a2) c 5 0)) (201 + 6 * (c - 439)) (by have q := hc; omega : isPl (201 + 6 * (c - 439))) (199 + 6 * (c - 439)) (by have q := hc; omega : isPl (199 + 6 * (c - 439)))) hx hb hml hown hts hK hN hI hl.1 gX4_nameBy_X2_isJust rfl hd_X2_isJust rfl rfl ⟨Nat.le_of_ble_eq_true rfl, Nat.le_of_ble_eq_true rfl⟩ ⟨Nat.zero_le _, Nat.zero_le _⟩ (by have q := (by have q := hc; omega : isPl (201 + 6 * (c - 439))); omega) (cel_Pl cy ad (by have q := hc; omega : isPl (201 + 6 * (c - 439))) _) rfl rfl rfl rfl (Nat.le_of_ble_eq_true rfl) dX4_nameBy_129 (fun H locs hG_26 hI => ?_)
    refine g_if_eq (tgt := 139) hx hb dX4_nameBy_132 (by decide) (by omega) (fun c_27 => ?_) (fun c_27 => ?_)
    · skip
      refine lv_iconst (v := iI 0) hx hb dX4_nameBy_139 rfl ?_
      refine g_put (C := RX4) (T := TX4) (N := 12) (ci := 4) (ty := .boolean) (z := 0) hx hb hts in_X4_nameBy_X4 tyX4 tyX4_ok nmX4 hown hK hI c (by have q := hc; omega) (cel_Pd cy ad hc) rfl 6 (by decide) (by decide +kernel) rfl (by decide +kernel) (iI_nz (by omega)) (iI_fz (by omega)) (Nat.le_of_ble_eq_true rfl) (by unfold fs_Pd; rw [up2_row]; rfl) (bw_Pd_6 hc (by omega)) dX4_nameBy_140 (fun H locs hI => ?_)
      have hF_28 := hI.2.2.2
      have e9 : f_X4_nameBy σ c q0 a2 = (up2 (L_X4_nameBy_16 c q0 a2 13 0 (up2 (f_X2_begin σ (201 + 6 * (c - 439)) a2) c 5 0)) c 6 0) := by rw [f_X4_nameBy, if_pos c_24, if_pos c_27]
      exact g_vret hx hb hr hK hN hlocks hI (by rw [e9]) trivial dX4_nameBy_143
    · skip
      refine lv_iconst (v := iI 1) hx hb dX4_nameBy_135 rfl ?_
      refine lv_goto (tgt := 140) hx hb dX4_nameBy_136 (by decide) ?_
      refine g_put (C := RX4) (T := TX4) (N := 12) (ci := 4) (ty := .boolean) (z := 1) hx hb hts in_X4_nameBy_X4 tyX4 tyX4_ok nmX4 hown hK hI c (by have q := hc; omega) (cel_Pd cy ad hc) rfl 6 (by decide) (by decide +kernel) rfl (by decide +kernel) (iI_nz (by omega)) (iI_fz (by omega)) (Nat.le_of_ble_eq_true rfl) (by unfold fs_Pd; rw [up2_row]; rfl) (bw_Pd_6 hc (by omega)) dX4_nameBy_140 (fun H locs hI => ?_)
      have hF_29 := hI.2.2.2
      have e9 : f_X4_nameBy σ c q0 a2 = (up2 (L_X4_nameBy_16 c q0 a2 13 0 (up2 (f_X2_begin σ (201 + 6 * (c - 439)) a2) c 5 0)) c 6 1) := by rw [f_X4_nameBy, if_pos c_24, if_neg c_27]
      exact g_vret hx hb hr hK hN hlocks hI (by rw [e9]) trivial dX4_nameBy_143
theorem in_X4_findOwnTrouble_X4 : ∀ w ∈ u_ws RX4 TX4 12, w ∈ wsX4_findOwnTrouble := by decide +kernel
def f_X4_findOwnTrouble (σ : Sg) (c : Nat) : Sg := (if (σ c 5) < 1 then (up2 σ c 7 1) else (if (σ c 5) ≤ 12 then σ else (up2 σ c 7 1)))
theorem hd_X4_findOwnTrouble : yX4_findOwnTrouble.cls = RX4 ∧ yX4_findOwnTrouble.cls ≠ "java/lang/invoke/MethodHandle" ∧ yX4_findOwnTrouble.cls ≠ "java/lang/invoke/VarHandle" ∧ (parseMethodDescriptor yX4_findOwnTrouble.desc).map (fun d => d.parameters.length) = some 0 := by decide +kernel
set_option maxHeartbeats 4000000 in
set_option maxRecDepth 100000 in
theorem c_X4_findOwnTrouble (l : Launch) (D : va_G) (cy : Nat → ClassId) (ad : Nat → Nat) (σ : Sg) (c : Nat) (hc : isPd c) : CM l D cy ad yX4_findOwnTrouble wsX4_findOwnTrouble { frames := 0, cells := 0, slots := 0, locals := 0 } [.ref (ad c)] σ none (f_X4_findOwnTrouble σ c) (True) := by
  refine CM.of (cc := cX4_findOwnTrouble) (maxL := 1) (ret := none) (by decide) rfl (Nat.le_of_ble_eq_true rfl) ?_
  intro p e s m args below meth c₀ ls X hI hl
  have hl : lv_has ls 1 [(0, .ref (ad c))] := hl
  obtain ⟨hx, hb, hr, hml, hown, hts, hlocks, hK, hN⟩ := id X
  have hF := hI.2.2.2
  refine lv_aload_n hx hb dX4_findOwnTrouble_0 rfl (lv_at hl 0 rfl) ?_
  refine g_get (C := RX4) (T := TX4) (N := 12) (ci := 4) (v := .int (iI (σ c 5))) hx hb hts in_X4_findOwnTrouble_X4 hown hK hI c (by have q := hc; omega) (cel_Pd cy ad hc _) rfl 5 (by decide) (by decide +kernel) rfl dX4_findOwnTrouble_1 ?_
  have b_1 := bd_Pd_5 hF hc
  refine lv_iconst (v := iI 1) hx hb dX4_findOwnTrouble_4 rfl ?_
  refine g_icmp_lt (tgt := 17) hx hb dX4_findOwnTrouble_5 (by decide) (by omega) (by omega) (fun c_2 => ?_) (fun c_2 => ?_)
  · skip
    refine lv_aload_n hx hb dX4_findOwnTrouble_17 rfl (lv_at hl 0 rfl) ?_
    refine lv_iconst (v := iI 1) hx hb dX4_findOwnTrouble_18 rfl ?_
    refine g_put (C := RX4) (T := TX4) (N := 12) (ci := 4) (ty := .int) (z := 1) hx hb hts in_X4_findOwnTrouble_X4 tyX4 tyX4_ok nmX4 hown hK hI c (by have q := hc; omega) (cel_Pd cy ad hc) rfl 7 (by decide) (by decide +kernel) rfl (by decide +kernel) rfl rfl (Nat.le_of_ble_eq_true rfl) (by unfold fs_Pd; rw [up2_row]; rfl) (bw_Pd_7 hc (by omega)) dX4_findOwnTrouble_19 (fun H locs hI => ?_)
    have hF_3 := hI.2.2.2
    have e9 : f_X4_findOwnTrouble σ c = (up2 σ c 7 1) := by rw [f_X4_findOwnTrouble, if_pos c_2]
    exact g_vret hx hb hr hK hN hlocks hI (by rw [e9]) trivial dX4_findOwnTrouble_22
  · skip
    refine lv_aload_n hx hb dX4_findOwnTrouble_8 rfl (lv_at hl 0 rfl) ?_
    refine g_get (C := RX4) (T := TX4) (N := 12) (ci := 4) (v := .int (iI (σ c 5))) hx hb hts in_X4_findOwnTrouble_X4 hown hK hI c (by have q := hc; omega) (cel_Pd cy ad hc _) rfl 5 (by decide) (by decide +kernel) rfl dX4_findOwnTrouble_9 ?_
    have b_4 := bd_Pd_5 hF hc
    refine lv_bipush (v := iI 12) hx hb dX4_findOwnTrouble_12 (iI_bip (by decide)) ?_
    refine g_icmp_le (tgt := 22) hx hb dX4_findOwnTrouble_14 (by decide) (by omega) (by omega) (fun c_5 => ?_) (fun c_5 => ?_)
    · skip
      have e9 : f_X4_findOwnTrouble σ c = σ := by rw [f_X4_findOwnTrouble, if_neg c_2, if_pos c_5]
      exact g_vret hx hb hr hK hN hlocks hI (by rw [e9]) trivial dX4_findOwnTrouble_22
    · skip
      refine lv_aload_n hx hb dX4_findOwnTrouble_17 rfl (lv_at hl 0 rfl) ?_
      refine lv_iconst (v := iI 1) hx hb dX4_findOwnTrouble_18 rfl ?_
      refine g_put (C := RX4) (T := TX4) (N := 12) (ci := 4) (ty := .int) (z := 1) hx hb hts in_X4_findOwnTrouble_X4 tyX4 tyX4_ok nmX4 hown hK hI c (by have q := hc; omega) (cel_Pd cy ad hc) rfl 7 (by decide) (by decide +kernel) rfl (by decide +kernel) rfl rfl (Nat.le_of_ble_eq_true rfl) (by unfold fs_Pd; rw [up2_row]; rfl) (bw_Pd_7 hc (by omega)) dX4_findOwnTrouble_19 (fun H locs hI => ?_)
      have hF_6 := hI.2.2.2
      have e9 : f_X4_findOwnTrouble σ c = (up2 σ c 7 1) := by rw [f_X4_findOwnTrouble, if_neg c_2, if_neg c_5]
      exact g_vret hx hb hr hK hN hlocks hI (by rw [e9]) trivial dX4_findOwnTrouble_22
theorem in_X4_hasName_X4 : ∀ w ∈ u_ws RX4 TX4 12, w ∈ wsX4_hasName := by decide +kernel
def f_X4_hasName (σ : Sg) (c : Nat) : Int := (if (σ c 7) = 1 then 0 else 1)
theorem hd_X4_hasName : yX4_hasName.cls = RX4 ∧ yX4_hasName.cls ≠ "java/lang/invoke/MethodHandle" ∧ yX4_hasName.cls ≠ "java/lang/invoke/VarHandle" ∧ (parseMethodDescriptor yX4_hasName.desc).map (fun d => d.parameters.length) = some 0 := by decide +kernel
set_option maxHeartbeats 4000000 in
set_option maxRecDepth 100000 in
theorem c_X4_hasName (l : Launch) (D : va_G) (cy : Nat → ClassId) (ad : Nat → Nat) (σ : Sg) (c : Nat) (hc : isPd c) : CM l D cy ad yX4_hasName wsX4_hasName { frames := 0, cells := 0, slots := 0, locals := 0 } [.ref (ad c)] σ (some (.int (iI (f_X4_hasName σ c)))) σ ((0 ≤ f_X4_hasName σ c ∧ f_X4_hasName σ c ≤ 1)) := by
  refine CM.of (cc := cX4_hasName) (maxL := 1) (ret := (some .boolean)) (by decide) rfl (Nat.le_of_ble_eq_true rfl) ?_
  intro p e s m args below meth c₀ ls X hI hl
  have hl : lv_has ls 1 [(0, .ref (ad c))] := hl
  obtain ⟨hx, hb, hr, hml, hown, hts, hlocks, hK, hN⟩ := id X
  have hF := hI.2.2.2
  refine lv_aload_n hx hb dX4_hasName_0 rfl (lv_at hl 0 rfl) ?_
  refine g_get (C := RX4) (T := TX4) (N := 12) (ci := 4) (v := .int (iI (σ c 7))) hx hb hts in_X4_hasName_X4 hown hK hI c (by have q := hc; omega) (cel_Pd cy ad hc _) rfl 7 (by decide) (by decide +kernel) rfl dX4_hasName_1 ?_
  have b_1 := bd_Pd_7 hF hc
  refine lv_iconst (v := iI 1) hx hb dX4_hasName_4 rfl ?_
  refine g_icmp_eq (tgt := 12) hx hb dX4_hasName_5 (by decide) (by omega) (by omega) (fun c_2 => ?_) (fun c_2 => ?_)
  · skip
    refine lv_iconst (v := iI 0) hx hb dX4_hasName_12 rfl ?_
    have e9 : f_X4_hasName σ c = 0 := by rw [f_X4_hasName, if_pos c_2]
    exact g_zret (z := 0) hx hb hr hK hN hlocks hI e9.symm rfl (by rw [e9] <;> first | (omega) | (dsimp only; omega)) (by omega) dX4_hasName_13
  · skip
    refine lv_iconst (v := iI 1) hx hb dX4_hasName_8 rfl ?_
    refine lv_goto (tgt := 13) hx hb dX4_hasName_9 (by decide) ?_
    have e9 : f_X4_hasName σ c = 1 := by rw [f_X4_hasName, if_neg c_2]
    exact g_zret (z := 1) hx hb hr hK hN hlocks hI e9.symm rfl (by rw [e9] <;> first | (omega) | (dsimp only; omega)) (by omega) dX4_hasName_13
theorem in_X4_setTrouble_X4 : ∀ w ∈ u_ws RX4 TX4 12, w ∈ wsX4_setTrouble := by decide +kernel
def f_X4_setTrouble (σ : Sg) (c : Nat) (a0 : Int) (a1 : Int) : Sg := (up2 (up2 σ c 7 a0) c 8 a1)
theorem hd_X4_setTrouble : yX4_setTrouble.cls = RX4 ∧ yX4_setTrouble.cls ≠ "java/lang/invoke/MethodHandle" ∧ yX4_setTrouble.cls ≠ "java/lang/invoke/VarHandle" ∧ (parseMethodDescriptor yX4_setTrouble.desc).map (fun d => d.parameters.length) = some 2 := by decide +kernel
set_option maxHeartbeats 4000000 in
set_option maxRecDepth 100000 in
theorem c_X4_setTrouble (l : Launch) (D : va_G) (cy : Nat → ClassId) (ad : Nat → Nat) (σ : Sg) (c : Nat) (hc : isPd c) (a0 : Int) (ha0 : (0 : Int) ≤ a0 ∧ a0 ≤ 3) (a1 : Int) (ha1 : (-1 : Int) ≤ a1 ∧ a1 ≤ 39) : CM l D cy ad yX4_setTrouble wsX4_setTrouble { frames := 0, cells := 0, slots := 0, locals := 0 } [.ref (ad c), .int (iI a0), .int (iI a1)] σ none (f_X4_setTrouble σ c a0 a1) (True) := by
  refine CM.of (cc := cX4_setTrouble) (maxL := 3) (ret := none) (by decide) rfl (Nat.le_of_ble_eq_true rfl) ?_
  intro p e s m args below meth c₀ ls X hI hl
  have hl : lv_has ls 3 [(0, .ref (ad c)), (1, .int (iI a0)), (2, .int (iI a1))] := hl
  obtain ⟨hx, hb, hr, hml, hown, hts, hlocks, hK, hN⟩ := id X
  have hF := hI.2.2.2
  refine lv_aload_n hx hb dX4_setTrouble_0 rfl (lv_at hl 0 rfl) ?_
  refine lv_iload_n hx hb dX4_setTrouble_1 rfl (lv_at hl 1 rfl) ?_
  refine g_put (C := RX4) (T := TX4) (N := 12) (ci := 4) (ty := .int) (z := a0) hx hb hts in_X4_setTrouble_X4 tyX4 tyX4_ok nmX4 hown hK hI c (by have q := hc; omega) (cel_Pd cy ad hc) rfl 7 (by decide) (by decide +kernel) rfl (by decide +kernel) rfl rfl (Nat.le_of_ble_eq_true rfl) (by unfold fs_Pd; rw [up2_row]; rfl) (bw_Pd_7 hc (by omega)) dX4_setTrouble_2 (fun H locs hI => ?_)
  have hF_1 := hI.2.2.2
  refine lv_aload_n hx hb dX4_setTrouble_5 rfl (lv_at hl 0 rfl) ?_
  refine lv_iload_n hx hb dX4_setTrouble_6 rfl (lv_at hl 2 rfl) ?_
  refine g_put (C := RX4) (T := TX4) (N := 12) (ci := 4) (ty := .int) (z := a1) hx hb hts in_X4_setTrouble_X4 tyX4 tyX4_ok nmX4 hown hK hI c (by have q := hc; omega) (cel_Pd cy ad hc) rfl 8 (by decide) (by decide +kernel) rfl (by decide +kernel) rfl rfl (Nat.le_of_ble_eq_true rfl) (by unfold fs_Pd; rw [up2_row]; rfl) (bw_Pd_8 hc (by omega)) dX4_setTrouble_7 (fun H locs hI => ?_)
  have hF_2 := hI.2.2.2
  have e9 : f_X4_setTrouble σ c a0 a1 = (up2 (up2 σ c 7 a0) c 8 a1) := by rw [f_X4_setTrouble]
  exact g_vret hx hb hr hK hN hlocks hI (by rw [e9]) trivial dX4_setTrouble_10
theorem in_X4_isLeft_X4 : ∀ w ∈ u_ws RX4 TX4 12, w ∈ wsX4_isLeft := by decide +kernel
def f_X4_isLeft (σ : Sg) (c : Nat) : Int := (if (σ c 6) = 0 then (if (σ c 11) = 0 then 1 else 0) else 0)
theorem hd_X4_isLeft : yX4_isLeft.cls = RX4 ∧ yX4_isLeft.cls ≠ "java/lang/invoke/MethodHandle" ∧ yX4_isLeft.cls ≠ "java/lang/invoke/VarHandle" ∧ (parseMethodDescriptor yX4_isLeft.desc).map (fun d => d.parameters.length) = some 0 := by decide +kernel
set_option maxHeartbeats 4000000 in
set_option maxRecDepth 100000 in
theorem c_X4_isLeft (l : Launch) (D : va_G) (cy : Nat → ClassId) (ad : Nat → Nat) (σ : Sg) (c : Nat) (hc : isPd c) : CM l D cy ad yX4_isLeft wsX4_isLeft { frames := 0, cells := 0, slots := 0, locals := 0 } [.ref (ad c)] σ (some (.int (iI (f_X4_isLeft σ c)))) σ ((0 ≤ f_X4_isLeft σ c ∧ f_X4_isLeft σ c ≤ 1)) := by
  refine CM.of (cc := cX4_isLeft) (maxL := 1) (ret := (some .boolean)) (by decide) rfl (Nat.le_of_ble_eq_true rfl) ?_
  intro p e s m args below meth c₀ ls X hI hl
  have hl : lv_has ls 1 [(0, .ref (ad c))] := hl
  obtain ⟨hx, hb, hr, hml, hown, hts, hlocks, hK, hN⟩ := id X
  have hF := hI.2.2.2
  refine lv_aload_n hx hb dX4_isLeft_0 rfl (lv_at hl 0 rfl) ?_
  refine g_get (C := RX4) (T := TX4) (N := 12) (ci := 4) (v := .int (iI (σ c 6))) hx hb hts in_X4_isLeft_X4 hown hK hI c (by have q := hc; omega) (cel_Pd cy ad hc _) rfl 6 (by decide) (by decide +kernel) rfl dX4_isLeft_1 ?_
  have b_1 := bd_Pd_6 hF hc
  refine g_if_ne (tgt := 18) hx hb dX4_isLeft_4 (by decide) (by omega) (fun c_2 => ?_) (fun c_2 => ?_)
  · skip
    refine lv_iconst (v := iI 0) hx hb dX4_isLeft_18 rfl ?_
    have e9 : f_X4_isLeft σ c = 0 := by rw [f_X4_isLeft, if_neg c_2]
    exact g_zret (z := 0) hx hb hr hK hN hlocks hI e9.symm rfl (by rw [e9] <;> first | (omega) | (dsimp only; omega)) (by omega) dX4_isLeft_19
  · skip
    refine lv_aload_n hx hb dX4_isLeft_7 rfl (lv_at hl 0 rfl) ?_
    refine g_get (C := RX4) (T := TX4) (N := 12) (ci := 4) (v := .int (iI (σ c 11))) hx hb hts in_X4_isLeft_X4 hown hK hI c (by have q := hc; omega) (cel_Pd cy ad hc _) rfl 11 (by decide) (by decide +kernel) rfl dX4_isLeft_8 ?_
    have b_3 := bd_Pd_11 hF hc
    refine g_if_ne (tgt := 18) hx hb dX4_isLeft_11 (by decide) (by omega) (fun c_4 => ?_) (fun c_4 => ?_)
    · skip
      refine lv_iconst (v := iI 0) hx hb dX4_isLeft_18 rfl ?_
      have e9 : f_X4_isLeft σ c = 0 := by rw [f_X4_isLeft, if_pos c_2, if_neg c_4]
      exact g_zret (z := 0) hx hb hr hK hN hlocks hI e9.symm rfl (by rw [e9] <;> first | (omega) | (dsimp only; omega)) (by omega) dX4_isLeft_19
    · skip
      refine lv_iconst (v := iI 1) hx hb dX4_isLeft_14 rfl ?_
      refine lv_goto (tgt := 19) hx hb dX4_isLeft_15 (by decide) ?_
      have e9 : f_X4_isLeft σ c = 1 := by rw [f_X4_isLeft, if_pos c_2, if_pos c_4]
      exact g_zret (z := 1) hx hb hr hK hN hlocks hI e9.symm rfl (by rw [e9] <;> first | (omega) | (dsimp only; omega)) (by omega) dX4_isLeft_19
theorem in_X4_hasLeftOldPlace_X4 : ∀ w ∈ u_ws RX4 TX4 12, w ∈ wsX4_hasLeftOldPlace := by decide +kernel
def f_X4_hasLeftOldPlace (σ : Sg) (c : Nat) : Int := (if (σ c 10) = 0 then (if (σ c 11) = 0 then 0 else 1) else 1)
theorem hd_X4_hasLeftOldPlace : yX4_hasLeftOldPlace.cls = RX4 ∧ yX4_hasLeftOldPlace.cls ≠ "java/lang/invoke/MethodHandle" ∧ yX4_hasLeftOldPlace.cls ≠ "java/lang/invoke/VarHandle" ∧ (parseMethodDescriptor yX4_hasLeftOldPlace.desc).map (fun d => d.parameters.length) = some 0 := by decide +kernel
set_option maxHeartbeats 4000000 in
set_option maxRecDepth 100000 in
theorem c_X4_hasLeftOldPlace (l : Launch) (D : va_G) (cy : Nat → ClassId) (ad : Nat → Nat) (σ : Sg) (c : Nat) (hc : isPd c) : CM l D cy ad yX4_hasLeftOldPlace wsX4_hasLeftOldPlace { frames := 0, cells := 0, slots := 0, locals := 0 } [.ref (ad c)] σ (some (.int (iI (f_X4_hasLeftOldPlace σ c)))) σ ((0 ≤ f_X4_hasLeftOldPlace σ c ∧ f_X4_hasLeftOldPlace σ c ≤ 1)) := by
  refine CM.of (cc := cX4_hasLeftOldPlace) (maxL := 1) (ret := (some .boolean)) (by decide) rfl (Nat.le_of_ble_eq_true rfl) ?_
  intro p e s m args below meth c₀ ls X hI hl
  have hl : lv_has ls 1 [(0, .ref (ad c))] := hl
  obtain ⟨hx, hb, hr, hml, hown, hts, hlocks, hK, hN⟩ := id X
  have hF := hI.2.2.2
  refine lv_aload_n hx hb dX4_hasLeftOldPlace_0 rfl (lv_at hl 0 rfl) ?_
  refine g_get (C := RX4) (T := TX4) (N := 12) (ci := 4) (v := .int (iI (σ c 10))) hx hb hts in_X4_hasLeftOldPlace_X4 hown hK hI c (by have q := hc; omega) (cel_Pd cy ad hc _) rfl 10 (by decide) (by decide +kernel) rfl dX4_hasLeftOldPlace_1 ?_
  have b_1 := bd_Pd_10 hF hc
  refine g_if_ne (tgt := 14) hx hb dX4_hasLeftOldPlace_4 (by decide) (by omega) (fun c_2 => ?_) (fun c_2 => ?_)
  · skip
    refine lv_iconst (v := iI 1) hx hb dX4_hasLeftOldPlace_14 rfl ?_
    refine lv_goto (tgt := 19) hx hb dX4_hasLeftOldPlace_15 (by decide) ?_
    have e9 : f_X4_hasLeftOldPlace σ c = 1 := by rw [f_X4_hasLeftOldPlace, if_neg c_2]
    exact g_zret (z := 1) hx hb hr hK hN hlocks hI e9.symm rfl (by rw [e9] <;> first | (omega) | (dsimp only; omega)) (by omega) dX4_hasLeftOldPlace_19
  · skip
    refine lv_aload_n hx hb dX4_hasLeftOldPlace_7 rfl (lv_at hl 0 rfl) ?_
    refine g_get (C := RX4) (T := TX4) (N := 12) (ci := 4) (v := .int (iI (σ c 11))) hx hb hts in_X4_hasLeftOldPlace_X4 hown hK hI c (by have q := hc; omega) (cel_Pd cy ad hc _) rfl 11 (by decide) (by decide +kernel) rfl dX4_hasLeftOldPlace_8 ?_
    have b_3 := bd_Pd_11 hF hc
    refine g_if_eq (tgt := 18) hx hb dX4_hasLeftOldPlace_11 (by decide) (by omega) (fun c_4 => ?_) (fun c_4 => ?_)
    · skip
      refine lv_iconst (v := iI 0) hx hb dX4_hasLeftOldPlace_18 rfl ?_
      have e9 : f_X4_hasLeftOldPlace σ c = 0 := by rw [f_X4_hasLeftOldPlace, if_pos c_2, if_pos c_4]
      exact g_zret (z := 0) hx hb hr hK hN hlocks hI e9.symm rfl (by rw [e9] <;> first | (omega) | (dsimp only; omega)) (by omega) dX4_hasLeftOldPlace_19
    · skip
      refine lv_iconst (v := iI 1) hx hb dX4_hasLeftOldPlace_14 rfl ?_
      refine lv_goto (tgt := 19) hx hb dX4_hasLeftOldPlace_15 (by decide) ?_
      have e9 : f_X4_hasLeftOldPlace σ c = 1 := by rw [f_X4_hasLeftOldPlace, if_pos c_2, if_neg c_4]
      exact g_zret (z := 1) hx hb hr hK hN hlocks hI e9.symm rfl (by rw [e9] <;> first | (omega) | (dsimp only; omega)) (by omega) dX4_hasLeftOldPlace_19
