theorem in_X1_size_X1 : ∀ w ∈ u_ws RX1 TX1 2, w ∈ wsX1_size := by decide +kernel
def f_X1_size (σ : Sg) : Int := σ 7 1
theorem hd_X1_size : yX1_size.cls = RX1 ∧ yX1_size.cls ≠ "java/lang/invoke/MethodHandle" ∧ yX1_size.cls ≠ "java/lang/invoke/VarHandle" ∧ (parseMethodDescriptor yX1_size.desc).map (fun d => d.parameters.length) = some 0 := by decide +kernel
set_option maxHeartbeats 4000000 in
set_option maxRecDepth 100000 in
theorem c_X1_size (l : Launch) (D : va_G) (cy : Nat → ClassId) (ad : Nat → Nat) (σ : Sg) : CM l D cy ad yX1_size wsX1_size { frames := 0, cells := 0, slots := 0, locals := 0 } [.ref (ad 7)] σ (some (.int (iI (f_X1_size σ)))) σ (0 ≤ (f_X1_size σ) ∧ (f_X1_size σ) ≤ 30) := by
  refine CM.of (cc := cX1_size) (maxL := 1) (ret := (some .int)) (by decide) rfl (Nat.le_of_ble_eq_true rfl) ?_
  intro p e s m args below meth c₀ ls X hI hl
  have hl : lv_has ls 1 [(0, .ref (ad 7))] := hl
  obtain ⟨hx, hb, hr, hml, hown, hts, hlocks, hK, hN⟩ := id X
  have hF := hI.2.2.2
  refine lv_aload_n hx hb dX1_size_0 rfl (lv_at hl 0 rfl) ?_
  refine g_get (C := RX1) (T := TX1) (N := 2) (ci := 1) (v := .int (iI (σ 7 1))) hx hb hts in_X1_size_X1 hown hK hI 7 (by decide) (cel_7 cy ad _) rfl 1 (by decide) (by decide +kernel) rfl dX1_size_1 ?_
  have b_1 := bd_7_1 hF
  have e9 : f_X1_size σ = σ 7 1 := by rw [f_X1_size]
  exact g_iret (z := σ 7 1) hx hb hr hK hN hlocks hI e9.symm rfl (by rw [e9] <;> first | (omega) | (dsimp only; omega)) dX1_size_4
theorem in_X1_isFull_X1 : ∀ w ∈ u_ws RX1 TX1 2, w ∈ wsX1_isFull := by decide +kernel
def f_X1_isFull (σ : Sg) : Int := (if (σ 7 1) < 30 then 0 else 1)
theorem hd_X1_isFull : yX1_isFull.cls = RX1 ∧ yX1_isFull.cls ≠ "java/lang/invoke/MethodHandle" ∧ yX1_isFull.cls ≠ "java/lang/invoke/VarHandle" ∧ (parseMethodDescriptor yX1_isFull.desc).map (fun d => d.parameters.length) = some 0 := by decide +kernel
set_option maxHeartbeats 4000000 in
set_option maxRecDepth 100000 in
theorem c_X1_isFull (l : Launch) (D : va_G) (cy : Nat → ClassId) (ad : Nat → Nat) (σ : Sg) : CM l D cy ad yX1_isFull wsX1_isFull { frames := 0, cells := 0, slots := 0, locals := 0 } [.ref (ad 7)] σ (some (.int (iI (f_X1_isFull σ)))) σ ((0 ≤ f_X1_isFull σ ∧ f_X1_isFull σ ≤ 1) ∧ ((f_X1_isFull σ) = 1 ∨ σ 7 1 < 30)) := by
  refine CM.of (cc := cX1_isFull) (maxL := 1) (ret := (some .boolean)) (by decide) rfl (Nat.le_of_ble_eq_true rfl) ?_
  intro p e s m args below meth c₀ ls X hI hl
  have hl : lv_has ls 1 [(0, .ref (ad 7))] := hl
  obtain ⟨hx, hb, hr, hml, hown, hts, hlocks, hK, hN⟩ := id X
  have hF := hI.2.2.2
  refine lv_aload_n hx hb dX1_isFull_0 rfl (lv_at hl 0 rfl) ?_
  refine g_get (C := RX1) (T := TX1) (N := 2) (ci := 1) (v := .int (iI (σ 7 1))) hx hb hts in_X1_isFull_X1 hown hK hI 7 (by decide) (cel_7 cy ad _) rfl 1 (by decide) (by decide +kernel) rfl dX1_isFull_1 ?_
  have b_1 := bd_7_1 hF
  refine lv_bipush (v := iI 30) hx hb dX1_isFull_4 (iI_bip (by decide)) ?_
  refine g_icmp_lt (tgt := 13) hx hb dX1_isFull_6 (by decide) (by omega) (by omega) (fun c_2 => ?_) (fun c_2 => ?_)
  · skip
    refine lv_iconst (v := iI 0) hx hb dX1_isFull_13 rfl ?_
    have e9 : f_X1_isFull σ = 0 := by rw [f_X1_isFull, if_pos c_2]
    exact g_zret (z := 0) hx hb hr hK hN hlocks hI e9.symm rfl (by rw [e9] <;> first | (omega) | (dsimp only; omega)) (by omega) dX1_isFull_14
  · skip
    refine lv_iconst (v := iI 1) hx hb dX1_isFull_9 rfl ?_
    refine lv_goto (tgt := 14) hx hb dX1_isFull_10 (by decide) ?_
    have e9 : f_X1_isFull σ = 1 := by rw [f_X1_isFull, if_neg c_2]
    exact g_zret (z := 1) hx hb hr hK hN hlocks hI e9.symm rfl (by rw [e9] <;> first | (omega) | (dsimp only; omega)) (by omega) dX1_isFull_14
theorem in_X1_has_X1 : ∀ w ∈ u_ws RX1 TX1 2, w ∈ wsX1_has := by decide +kernel
def f_X1_has (σ : Sg) (a0 : Int) : Int := (if a0 < 0 then 0 else (if (σ 7 1) ≤ a0 then 0 else 1))
theorem hd_X1_has : yX1_has.cls = RX1 ∧ yX1_has.cls ≠ "java/lang/invoke/MethodHandle" ∧ yX1_has.cls ≠ "java/lang/invoke/VarHandle" ∧ (parseMethodDescriptor yX1_has.desc).map (fun d => d.parameters.length) = some 1 := by decide +kernel
set_option maxHeartbeats 4000000 in
set_option maxRecDepth 100000 in
theorem c_X1_has (l : Launch) (D : va_G) (cy : Nat → ClassId) (ad : Nat → Nat) (σ : Sg) (a0 : Int) (ha0 : (-2147483648 ≤ a0 ∧ a0 < 2147483648)) : CM l D cy ad yX1_has wsX1_has { frames := 0, cells := 0, slots := 0, locals := 0 } [.ref (ad 7), .int (iI a0)] σ (some (.int (iI (f_X1_has σ a0)))) σ ((0 ≤ f_X1_has σ a0 ∧ f_X1_has σ a0 ≤ 1) ∧ ((f_X1_has σ a0) = 0 ∨ (0 ≤ a0 ∧ a0 ≤ 29))) := by
  refine CM.of (cc := cX1_has) (maxL := 2) (ret := (some .boolean)) (by decide) rfl (Nat.le_of_ble_eq_true rfl) ?_
  intro p e s m args below meth c₀ ls X hI hl
  have hl : lv_has ls 2 [(0, .ref (ad 7)), (1, .int (iI a0))] := hl
  obtain ⟨hx, hb, hr, hml, hown, hts, hlocks, hK, hN⟩ := id X
  have hF := hI.2.2.2
  refine lv_iload_n hx hb dX1_has_0 rfl (lv_at hl 1 rfl) ?_
  refine g_if_lt (tgt := 16) hx hb dX1_has_1 (by decide) (by omega) (fun c_1 => ?_) (fun c_1 => ?_)
  · skip
    refine lv_iconst (v := iI 0) hx hb dX1_has_16 rfl ?_
    have e9 : f_X1_has σ a0 = 0 := by rw [f_X1_has, if_pos c_1]
    exact g_zret (z := 0) hx hb hr hK hN hlocks hI e9.symm rfl (by rw [e9] <;> first | (omega) | (dsimp only; omega)) (by omega) dX1_has_17
  · skip
    refine lv_iload_n hx hb dX1_has_4 rfl (lv_at hl 1 rfl) ?_
    refine lv_aload_n hx hb dX1_has_5 rfl (lv_at hl 0 rfl) ?_
    refine g_get (C := RX1) (T := TX1) (N := 2) (ci := 1) (v := .int (iI (σ 7 1))) hx hb hts in_X1_has_X1 hown hK hI 7 (by decide) (cel_7 cy ad _) rfl 1 (by decide) (by decide +kernel) rfl dX1_has_6 ?_
    have b_2 := bd_7_1 hF
    refine g_icmp_ge (tgt := 16) hx hb dX1_has_9 (by decide) (by omega) (by omega) (fun c_3 => ?_) (fun c_3 => ?_)
    · skip
      refine lv_iconst (v := iI 0) hx hb dX1_has_16 rfl ?_
      have e9 : f_X1_has σ a0 = 0 := by rw [f_X1_has, if_neg c_1, if_pos c_3]
      exact g_zret (z := 0) hx hb hr hK hN hlocks hI e9.symm rfl (by rw [e9] <;> first | (omega) | (dsimp only; omega)) (by omega) dX1_has_17
    · skip
      refine lv_iconst (v := iI 1) hx hb dX1_has_12 rfl ?_
      refine lv_goto (tgt := 17) hx hb dX1_has_13 (by decide) ?_
      have e9 : f_X1_has σ a0 = 1 := by rw [f_X1_has, if_neg c_1, if_neg c_3]
      exact g_zret (z := 1) hx hb hr hK hN hlocks hI e9.symm rfl (by rw [e9] <;> first | (omega) | (dsimp only; omega)) (by omega) dX1_has_17
theorem in_X1_get_X1 : ∀ w ∈ u_ws RX1 TX1 2, w ∈ wsX1_get := by decide +kernel
def f_X1_get (σ : Sg) (a0 : Int) : Nat := 139 + 2 * a0.toNat
theorem hd_X1_get : yX1_get.cls = RX1 ∧ yX1_get.cls ≠ "java/lang/invoke/MethodHandle" ∧ yX1_get.cls ≠ "java/lang/invoke/VarHandle" ∧ (parseMethodDescriptor yX1_get.desc).map (fun d => d.parameters.length) = some 1 := by decide +kernel
set_option maxHeartbeats 4000000 in
set_option maxRecDepth 100000 in
theorem c_X1_get (l : Launch) (D : va_G) (cy : Nat → ClassId) (ad : Nat → Nat) (σ : Sg) (a0 : Int) (ha0 : (0 : Int) ≤ a0 ∧ a0 ≤ 29) : CM l D cy ad yX1_get wsX1_get { frames := 0, cells := 0, slots := 0, locals := 0 } [.ref (ad 7), .int (iI a0)] σ (some (.ref (ad (f_X1_get σ a0)))) σ (isPl (f_X1_get σ a0)) := by
  refine CM.of (cc := cX1_get) (maxL := 2) (ret := (some (.object "NameTurner$Place"))) (by decide) rfl (Nat.le_of_ble_eq_true rfl) ?_
  intro p e s m args below meth c₀ ls X hI hl
  have hl : lv_has ls 2 [(0, .ref (ad 7)), (1, .int (iI a0))] := hl
  obtain ⟨hx, hb, hr, hml, hown, hts, hlocks, hK, hN⟩ := id X
  have hF := hI.2.2.2
  refine lv_aload_n hx hb dX1_get_0 rfl (lv_at hl 0 rfl) ?_
  refine g_get (C := RX1) (T := TX1) (N := 2) (ci := 1) (v := .ref (ad 8)) hx hb hts in_X1_get_X1 hown hK hI 7 (by decide) (cel_7 cy ad _) rfl 0 (by decide) (by decide +kernel) rfl dX1_get_1 ?_
  refine lv_iload_n hx hb dX1_get_4 rfl (lv_at hl 1 rfl) ?_
  refine g_aaldP (f := fun i => 139 + 2 * i) hx hb hK hI 8 (by decide) (cel_8 cy ad) (by omega) (by decide) dX1_get_5 ?_
  have hr_1 : isPl (139 + 2 * a0.toNat) := by omega
  have e9 : f_X1_get σ a0 = 139 + 2 * a0.toNat := by rw [f_X1_get]
  exact g_aret (a := 139 + 2 * a0.toNat) hx hb hr hK hN hlocks hI e9.symm rfl (by rw [e9] <;> first | (omega) | (dsimp only; omega)) dX1_get_6
theorem in_X1_add_X1 : ∀ w ∈ u_ws RX1 TX1 2, w ∈ wsX1_add := by decide +kernel
def f_X1_add (σ : Sg) (q0 : Nat) : Int × Sg := (σ 7 1, (up2 (f_X2_become σ (139 + 2 * ((σ 7 1).toNat)) q0) 7 1 (((f_X2_become σ (139 + 2 * ((σ 7 1).toNat)) q0) 7 1) + 1)))
theorem hd_X1_add : yX1_add.cls = RX1 ∧ yX1_add.cls ≠ "java/lang/invoke/MethodHandle" ∧ yX1_add.cls ≠ "java/lang/invoke/VarHandle" ∧ (parseMethodDescriptor yX1_add.desc).map (fun d => d.parameters.length) = some 1 := by decide +kernel
set_option maxHeartbeats 4000000 in
set_option maxRecDepth 100000 in
theorem c_X1_add (l : Launch) (D : va_G) (cy : Nat → ClassId) (ad : Nat → Nat) (σ : Sg) (q0 : Nat) (hq0 : isPl q0) (h1 : σ 7 1 < 30) : CM l D cy ad yX1_add wsX1_add { frames := 2, cells := 0, slots := 0, locals := 80 } [.ref (ad 7), .ref (ad q0)] σ (some (.int (iI ((f_X1_add σ q0).1)))) ((f_X1_add σ q0).2) (True) := by
  refine CM.of (cc := cX1_add) (maxL := 3) (ret := (some .int)) (by decide) rfl (Nat.le_of_ble_eq_true rfl) ?_
  intro p e s m args below meth c₀ ls X hI hl
  have hl : lv_has ls 3 [(0, .ref (ad 7)), (1, .ref (ad q0))] := hl
  obtain ⟨hx, hb, hr, hml, hown, hts, hlocks, hK, hN⟩ := id X
  have hF := hI.2.2.2
  refine lv_aload_n hx hb dX1_add_0 rfl (lv_at hl 0 rfl) ?_
  refine g_get (C := RX1) (T := TX1) (N := 2) (ci := 1) (v := .int (iI (σ 7 1))) hx hb hts in_X1_add_X1 hown hK hI 7 (by decide) (cel_7 cy ad _) rfl 1 (by decide) (by decide +kernel) rfl dX1_add_1 ?_
  have b_1 := bd_7_1 hF
  refine lv_istore_n (lv' := [(2, .int (iI (σ 7 1))), (0, .ref (ad 7)), (1, .ref (ad q0))]) hx hb dX1_add_4 rfl hl (by decide) rfl (fun ls hl => ?_)
  refine lv_aload_n hx hb dX1_add_5 rfl (lv_at hl 1 rfl) ?_
  refine g_get (C := RX1) (T := TX1) (N := 2) (ci := 1) (v := .ref (ad 8)) hx hb hts in_X1_add_X1 hown hK hI 7 (by decide) (cel_7 cy ad _) rfl 0 (by decide) (by decide +kernel) rfl dX1_add_6 ?_
  refine lv_iload_n hx hb dX1_add_9 rfl (lv_at hl 0 rfl) ?_
  refine g_aaldP (f := fun i => 139 + 2 * i) hx hb hK hI 8 (by decide) (cel_8 cy ad) (by omega) (by decide) dX1_add_10 ?_
  have hr_2 : isPl (139 + 2 * ((σ 7 1).toNat)) := by omega
  refine lv_aload_n hx hb dX1_add_11 rfl (lv_at hl 2 rfl) ?_
  refine g_V (As := [.ref (ad q0)]) (rest := []) (139 + 2 * ((σ 7 1).toNat)) (c_X2_become l D cy ad σ (139 + 2 * ((σ 7 1).toNat)) hr_2 q0 hq0) hx hb hml hown hts hK hN hI hl.1 gX1_add_X2_become rfl hd_X2_become rfl rfl ⟨Nat.le_of_ble_eq_true rfl, Nat.le_of_ble_eq_true rfl⟩ ⟨Nat.zero_le _, Nat.zero_le _⟩ (by have q := hr_2; omega) (cel_Pl cy ad hr_2 _) rfl rfl rfl rfl (Nat.le_of_ble_eq_true rfl) dX1_add_12 (fun H locs hG_3 hI => ?_)
  have hF_4 := hI.2.2.2
  have q9 := congrFun (become_fr σ (139 + 2 * (σ 7 1).toNat) q0 (x := 7) (by omega) (by omega)) 1
  refine lv_aload_n hx hb dX1_add_15 rfl (lv_at hl 1 rfl) ?_
  refine lv_dup hx hb dX1_add_16 rfl ?_
  refine g_get (C := RX1) (T := TX1) (N := 2) (ci := 1) (v := .int (iI ((f_X2_become σ (139 + 2 * ((σ 7 1).toNat)) q0) 7 1))) hx hb hts in_X1_add_X1 hown hK hI 7 (by decide) (cel_7 cy ad _) rfl 1 (by decide) (by decide +kernel) rfl dX1_add_17 ?_
  have b_5 := bd_7_1 hF_4
  refine lv_iconst (v := iI 1) hx hb dX1_add_20 rfl ?_
  refine g_iadd hx hb dX1_add_21 ?_
  refine g_put (C := RX1) (T := TX1) (N := 2) (ci := 1) (ty := .int) (z := ((f_X2_become σ (139 + 2 * ((σ 7 1).toNat)) q0) 7 1) + 1) hx hb hts in_X1_add_X1 tyX1 tyX1_ok nmX1 hown hK hI 7 (by decide) (cel_7 cy ad) rfl 1 (by decide) (by decide +kernel) rfl (by decide +kernel) rfl rfl (Nat.le_of_ble_eq_true rfl) rfl (bw_7_1 (by omega)) dX1_add_22 (fun H locs hI => ?_)
  have hF_6 := hI.2.2.2
  refine lv_iload_n hx hb dX1_add_25 rfl (lv_at hl 0 rfl) ?_
  have e9 : f_X1_add σ q0 = (σ 7 1, (up2 (f_X2_become σ (139 + 2 * ((σ 7 1).toNat)) q0) 7 1 (((f_X2_become σ (139 + 2 * ((σ 7 1).toNat)) q0) 7 1) + 1))) := by rw [f_X1_add]
  exact g_iret (z := σ 7 1) hx hb hr hK hN hlocks hI (by rw [e9]) (by rw [e9]) trivial dX1_add_26
theorem in_X1_follow_X1 : ∀ w ∈ u_ws RX1 TX1 2, w ∈ wsX1_follow := by decide +kernel
def L_X1_follow_2 (q0 : Nat) (q1 : Nat) : Nat → Int → Sg → Sg
  | 0, x3, σ => (σ)
  | n + 1, x3, σ => (if (σ 7 1) ≤ x3 then σ else (if (f_X2_isJust σ (139 + 2 * x3.toNat) q0) = 0 then L_X1_follow_2 q0 q1 n (x3 + 1) σ else L_X1_follow_2 q0 q1 n (x3 + 1) (f_X2_become σ (139 + 2 * x3.toNat) q1)))
set_option maxHeartbeats 4000000 in
set_option maxRecDepth 100000 in
theorem w_L_X1_follow_2 {p : Program} {l : Launch} {e : Env} {s : State} {m : MethodId} {args : Array Value} {below : List Frame} {meth : Method} {c₀ : Code} {D : va_G} {cy : Nat → ClassId} {ad : Nat → Nat} {Q : State → Prop} (X : MX p s m args meth c₀ cX1_follow 4 RX1 none wsX1_follow D cy) (q0 : Nat) (hq0 : isPl q0) (q1 : Nat) (hq1 : isPl q1) : ∀ (n : Nat) (x3 : Int) (σ : Sg) (hx3 : (0 : Int) ≤ x3 ∧ x3 ≤ 30) (hmu : 30 - x3 < (n : Int)) (H : Heap) (locs : List Loc) (ls : Array Slot) (hI : HI D cy ad s σ H locs) (hl : lv_has ls 4 [(0, .ref (ad 7)), (1, .ref (ad q0)), (2, .ref (ad q1)), (3, .int (iI x3))])  (hk : ∀ (H1 : Heap) (locs1 : List Loc) (ls1 : Array Slot), True → HI D cy ad s (L_X1_follow_2 q0 q1 n x3 σ) H1 locs1 → lv_has ls1 4 [] → W p l e { frames := 3, cells := 0, slots := 0, locals := 120 } s m args below meth c₀ H1 locs1 0 0 Q (F0 m 39 ls1 [])), W p l e { frames := 3, cells := 0, slots := 0, locals := 120 } s m args below meth c₀ H locs 0 0 Q (F0 m 2 ls []) := by
  obtain ⟨hx, hb, hr, hml, hown, hts, hlocks, hK, hN⟩ := id X
  intro n
  induction n with
  | zero =>
    intro x3 σ hx3 hmu H locs ls hI hl hk
    exfalso
    have hF := hI.2.2.2
    omega
  | succ n ih =>
    intro x3 σ hx3 hmu H locs ls hI hl hk
    have hF := hI.2.2.2
    refine lv_iload_n hx hb dX1_follow_2 rfl (lv_at hl 3 rfl) ?_
    refine lv_aload_n hx hb dX1_follow_3 rfl (lv_at hl 0 rfl) ?_
    refine g_get (C := RX1) (T := TX1) (N := 2) (ci := 1) (v := .int (iI (σ 7 1))) hx hb hts in_X1_follow_X1 hown hK hI 7 (by decide) (cel_7 cy ad _) rfl 1 (by decide) (by decide +kernel) rfl dX1_follow_4 ?_
    have b_1 := bd_7_1 hF
    refine g_icmp_ge (tgt := 39) hx hb dX1_follow_7 (by decide) (by omega) (by omega) (fun c_2 => ?_) (fun c_2 => ?_)
    · skip
      have e9 : L_X1_follow_2 q0 q1 (n + 1) x3 σ = σ := by rw [L_X1_follow_2, if_pos c_2]
      rw [e9] at hk
      exact hk _ _ _ trivial hI (lv_sub hl [] rfl)
    · skip
      refine lv_aload_n hx hb dX1_follow_10 rfl (lv_at hl 0 rfl) ?_
      refine g_get (C := RX1) (T := TX1) (N := 2) (ci := 1) (v := .ref (ad 8)) hx hb hts in_X1_follow_X1 hown hK hI 7 (by decide) (cel_7 cy ad _) rfl 0 (by decide) (by decide +kernel) rfl dX1_follow_11 ?_
      refine lv_iload_n hx hb dX1_follow_14 rfl (lv_at hl 3 rfl) ?_
      refine g_aaldP (f := fun i => 139 + 2 * i) hx hb hK hI 8 (by decide) (cel_8 cy ad) (by omega) (by decide) dX1_follow_15 ?_
      have hr_3 : isPl (139 + 2 * x3.toNat) := by omega
      refine lv_aload_n hx hb dX1_follow_16 rfl (lv_at hl 1 rfl) ?_
      refine g_V (As := [.ref (ad q0)]) (rest := []) (139 + 2 * x3.toNat) (c_X2_isJust l D cy ad σ (139 + 2 * x3.toNat) hr_3 q0 hq0) hx hb hml hown hts hK hN hI hl.1 gX1_follow_X2_isJust rfl hd_X2_isJust rfl rfl ⟨Nat.le_of_ble_eq_true rfl, Nat.le_of_ble_eq_true rfl⟩ ⟨Nat.zero_le _, Nat.zero_le _⟩ (by have q := hr_3; omega) (cel_Pl cy ad hr_3 _) rfl rfl rfl rfl (Nat.le_of_ble_eq_true rfl) dX1_follow_17 (fun H locs hG_4 hI => ?_)
      refine g_if_eq (tgt := 33) hx hb dX1_follow_20 (by decide) (by omega) (fun c_5 => ?_) (fun c_5 => ?_)
      · skip
        refine lv_iinc (v := iI (x3 + 1)) (lv' := [(3, .int (iI (x3 + 1))), (0, .ref (ad 7)), (1, .ref (ad q0)), (2, .ref (ad q1))]) hx hb dX1_follow_33 hl (k := 3) rfl (iI_add _ _) (by decide) rfl (fun ls hl => ?_)
        refine lv_goto (tgt := 2) hx hb dX1_follow_36 (by decide) ?_
        have e9 : L_X1_follow_2 q0 q1 (n + 1) x3 σ = L_X1_follow_2 q0 q1 n (x3 + 1) σ := by rw [L_X1_follow_2, if_neg c_2, if_pos c_5]
        rw [e9] at hk
        exact ih (x3 + 1) σ (by omega) (by omega) _ _ _ hI (lv_sub hl [1, 2, 3, 0] rfl) hk
      · skip
        refine lv_aload_n hx hb dX1_follow_23 rfl (lv_at hl 0 rfl) ?_
        refine g_get (C := RX1) (T := TX1) (N := 2) (ci := 1) (v := .ref (ad 8)) hx hb hts in_X1_follow_X1 hown hK hI 7 (by decide) (cel_7 cy ad _) rfl 0 (by decide) (by decide +kernel) rfl dX1_follow_24 ?_
        refine lv_iload_n hx hb dX1_follow_27 rfl (lv_at hl 3 rfl) ?_
        refine g_aaldP (f := fun i => 139 + 2 * i) hx hb hK hI 8 (by decide) (cel_8 cy ad) (by omega) (by decide) dX1_follow_28 ?_
        have hr_6 : isPl (139 + 2 * x3.toNat) := by omega
        refine lv_aload_n hx hb dX1_follow_29 rfl (lv_at hl 2 rfl) ?_
        refine g_V (As := [.ref (ad q1)]) (rest := []) (139 + 2 * x3.toNat) (c_X2_become l D cy ad σ (139 + 2 * x3.toNat) hr_6 q1 hq1) hx hb hml hown hts hK hN hI hl.1 gX1_follow_X2_become rfl hd_X2_become rfl rfl ⟨Nat.le_of_ble_eq_true rfl, Nat.le_of_ble_eq_true rfl⟩ ⟨Nat.zero_le _, Nat.zero_le _⟩ (by have q := hr_6; omega) (cel_Pl cy ad hr_6 _) rfl rfl rfl rfl (Nat.le_of_ble_eq_true rfl) dX1_follow_30 (fun H locs hG_7 hI => ?_)
        have hF_8 := hI.2.2.2
        refine lv_iinc (v := iI (x3 + 1)) (lv' := [(3, .int (iI (x3 + 1))), (0, .ref (ad 7)), (1, .ref (ad q0)), (2, .ref (ad q1))]) hx hb dX1_follow_33 hl (k := 3) rfl (iI_add _ _) (by decide) rfl (fun ls hl => ?_)
        refine lv_goto (tgt := 2) hx hb dX1_follow_36 (by decide) ?_
        have e9 : L_X1_follow_2 q0 q1 (n + 1) x3 σ = L_X1_follow_2 q0 q1 n (x3 + 1) (f_X2_become σ (139 + 2 * x3.toNat) q1) := by rw [L_X1_follow_2, if_neg c_2, if_neg c_5]
        rw [e9] at hk
        exact ih (x3 + 1) (f_X2_become σ (139 + 2 * x3.toNat) q1) (by omega) (by omega) _ _ _ hI (lv_sub hl [1, 2, 3, 0] rfl) hk
def f_X1_follow (σ : Sg) (q0 : Nat) (q1 : Nat) : Sg := (L_X1_follow_2 q0 q1 31 0 σ)
theorem hd_X1_follow : yX1_follow.cls = RX1 ∧ yX1_follow.cls ≠ "java/lang/invoke/MethodHandle" ∧ yX1_follow.cls ≠ "java/lang/invoke/VarHandle" ∧ (parseMethodDescriptor yX1_follow.desc).map (fun d => d.parameters.length) = some 2 := by decide +kernel
set_option maxHeartbeats 4000000 in
set_option maxRecDepth 100000 in
theorem c_X1_follow (l : Launch) (D : va_G) (cy : Nat → ClassId) (ad : Nat → Nat) (σ : Sg) (q0 : Nat) (hq0 : isPl q0) (q1 : Nat) (hq1 : isPl q1) : CM l D cy ad yX1_follow wsX1_follow { frames := 3, cells := 0, slots := 0, locals := 120 } [.ref (ad 7), .ref (ad q0), .ref (ad q1)] σ none (f_X1_follow σ q0 q1) (True) := by
  refine CM.of (cc := cX1_follow) (maxL := 4) (ret := none) (by decide) rfl (Nat.le_of_ble_eq_true rfl) ?_
  intro p e s m args below meth c₀ ls X hI hl
  have hl : lv_has ls 4 [(0, .ref (ad 7)), (1, .ref (ad q0)), (2, .ref (ad q1))] := hl
  obtain ⟨hx, hb, hr, hml, hown, hts, hlocks, hK, hN⟩ := id X
  have hF := hI.2.2.2
  refine lv_iconst (v := iI 0) hx hb dX1_follow_0 rfl ?_
  refine lv_istore_n (lv' := [(3, .int (iI 0)), (0, .ref (ad 7)), (1, .ref (ad q0)), (2, .ref (ad q1))]) hx hb dX1_follow_1 rfl hl (by decide) rfl (fun ls hl => ?_)
  refine w_L_X1_follow_2 X  q0 hq0 q1 hq1  31 0 σ (by omega) (by omega) _ _ _ hI (lv_sub hl [1, 2, 3, 0] rfl) (fun H locs ls hpo_10 hI hl => ?_)
  have hF_9 := hI.2.2.2
  have e9 : f_X1_follow σ q0 q1 = (L_X1_follow_2 q0 q1 31 0 σ) := by rw [f_X1_follow]
  exact g_vret hx hb hr hK hN hlocks hI (by rw [e9]) trivial dX1_follow_39
