theorem in_X3_findTroubles_X3 : ∀ w ∈ u_ws RX3 TX3 9, w ∈ wsX3_findTroubles := by decide +kernel
theorem in_X3_findTroubles_X4 : ∀ w ∈ u_ws RX4 TX4 12, w ∈ wsX3_findTroubles := by decide +kernel
def L_X3_findTroubles_2 : Nat → Int → Sg → Sg
  | 0, x2, σ => (σ)
  | n + 1, x2, σ => (if (σ 13 5) ≤ x2 then σ else L_X3_findTroubles_2 n (x2 + 1) (f_X4_findOwnTrouble σ (439 + x2.toNat)))
set_option maxHeartbeats 4000000 in
set_option maxRecDepth 100000 in
theorem w_L_X3_findTroubles_2 {p : Program} {l : Launch} {e : Env} {s : State} {m : MethodId} {args : Array Value} {below : List Frame} {meth : Method} {c₀ : Code} {D : va_G} {cy : Nat → ClassId} {ad : Nat → Nat} {Q : State → Prop} (X : MX p s m args meth c₀ cX3_findTroubles 3 RX3 none wsX3_findTroubles D cy) (g0 : Int) : ∀ (n : Nat) (x2 : Int) (σ : Sg) (hx2 : (0 : Int) ≤ x2 ∧ x2 ≤ 40) (hp0 : σ 13 6 = g0) (hmu : 40 - x2 < (n : Int)) (H : Heap) (locs : List Loc) (ls : Array Slot) (hI : HI D cy ad s σ H locs) (hl : lv_has ls 3 [(0, .ref (ad 13)), (1, .ref (ad 3)), (2, .int (iI x2))])  (hk : ∀ (H1 : Heap) (locs1 : List Loc) (ls1 : Array Slot), ((L_X3_findTroubles_2 n x2 σ) 13 6 = g0) → HI D cy ad s (L_X3_findTroubles_2 n x2 σ) H1 locs1 → lv_has ls1 3 [(0, .ref (ad 13)), (1, .ref (ad 3))] → W p l e { frames := 4, cells := 0, slots := 0, locals := 160 } s m args below meth c₀ H1 locs1 0 0 Q (F0 m 25 ls1 [])), W p l e { frames := 4, cells := 0, slots := 0, locals := 160 } s m args below meth c₀ H locs 0 0 Q (F0 m 2 ls []) := by
  obtain ⟨hx, hb, hr, hml, hown, hts, hlocks, hK, hN⟩ := id X
  intro n
  induction n with
  | zero =>
    intro x2 σ hx2 hp0 hmu H locs ls hI hl hk
    exfalso
    have hF := hI.2.2.2
    omega
  | succ n ih =>
    intro x2 σ hx2 hp0 hmu H locs ls hI hl hk
    have hF := hI.2.2.2
    refine lv_iload_n hx hb dX3_findTroubles_2 rfl (lv_at hl 2 rfl) ?_
    refine lv_aload_n hx hb dX3_findTroubles_3 rfl (lv_at hl 0 rfl) ?_
    refine g_get (C := RX3) (T := TX3) (N := 9) (ci := 3) (v := .int (iI (σ 13 5))) hx hb hts in_X3_findTroubles_X3 hown hK hI 13 (by decide) (cel_13 cy ad _) rfl 5 (by decide) (by decide +kernel) rfl dX3_findTroubles_4 ?_
    have b_1 := bd_13_5 hF
    refine g_icmp_ge (tgt := 25) hx hb dX3_findTroubles_7 (by decide) (by omega) (by omega) (fun c_2 => ?_) (fun c_2 => ?_)
    · skip
      have e9 : L_X3_findTroubles_2 (n + 1) x2 σ = σ := by rw [L_X3_findTroubles_2, if_pos c_2]
      rw [e9] at hk
      exact hk _ _ _ (by first | (omega) | (dsimp only; omega)) hI (lv_sub hl [0, 1] rfl)
    · skip
      refine lv_aload_n hx hb dX3_findTroubles_10 rfl (lv_at hl 0 rfl) ?_
      refine g_get (C := RX3) (T := TX3) (N := 9) (ci := 3) (v := .ref (ad 14)) hx hb hts in_X3_findTroubles_X3 hown hK hI 13 (by decide) (cel_13 cy ad _) rfl 0 (by decide) (by decide +kernel) rfl dX3_findTroubles_11 ?_
      refine lv_iload_n hx hb dX3_findTroubles_14 rfl (lv_at hl 2 rfl) ?_
      refine g_aaldQ (f := fun i => 439 + i) hx hb hK hI 14 (by decide) (cel_14 cy ad) (by omega) (by decide) dX3_findTroubles_15 ?_
      have hr_3 : isPd (439 + x2.toNat) := by omega
      refine g_V (As := []) (rest := []) (439 + x2.toNat) (c_X4_findOwnTrouble l D cy ad σ (439 + x2.toNat) hr_3) hx hb hml hown hts hK hN hI hl.1 gX3_findTroubles_X4_findOwnTrouble rfl hd_X4_findOwnTrouble rfl rfl ⟨Nat.le_of_ble_eq_true rfl, Nat.le_of_ble_eq_true rfl⟩ ⟨Nat.zero_le _, Nat.zero_le _⟩ (by have q := hr_3; omega) (cel_Pd cy ad hr_3 _) rfl rfl rfl rfl (Nat.le_of_ble_eq_true rfl) dX3_findTroubles_16 (fun H locs hG_4 hI => ?_)
      have hF_5 := hI.2.2.2
      have q9 := congrFun (own_fr σ (439 + x2.toNat) (x := 13) (by omega)) 6
      refine lv_iinc (v := iI (x2 + 1)) (lv' := [(2, .int (iI (x2 + 1))), (0, .ref (ad 13)), (1, .ref (ad 3))]) hx hb dX3_findTroubles_19 hl (k := 2) rfl (iI_add _ _) (by decide) rfl (fun ls hl => ?_)
      refine lv_goto (tgt := 2) hx hb dX3_findTroubles_22 (by decide) ?_
      have e9 : L_X3_findTroubles_2 (n + 1) x2 σ = L_X3_findTroubles_2 n (x2 + 1) (f_X4_findOwnTrouble σ (439 + x2.toNat)) := by rw [L_X3_findTroubles_2, if_neg c_2]
      rw [e9] at hk
      exact ih (x2 + 1) (f_X4_findOwnTrouble σ (439 + x2.toNat)) (by omega) (by omega) (by omega) _ _ _ hI (lv_sub hl [1, 2, 0] rfl) hk
def L_X3_findTroubles_27 : Nat → Int → Sg → Sg
  | 0, x2, σ => (σ)
  | n + 1, x2, σ => (if (σ 13 5) ≤ x2 then σ else (if (f_X4_hasName σ (439 + x2.toNat)) = 0 then (if (σ (439 + x2.toNat) 7) = 0 then L_X3_findTroubles_27 n (x2 + 1) σ else L_X3_findTroubles_27 n (x2 + 1) (up2 σ 13 6 ((σ 13 6) + 1))) else (if ((f_X3_findTroubleWithOthers σ x2) (439 + x2.toNat) 7) = 0 then L_X3_findTroubles_27 n (x2 + 1) (f_X3_findTroubleWithOthers σ x2) else L_X3_findTroubles_27 n (x2 + 1) (up2 (f_X3_findTroubleWithOthers σ x2) 13 6 (((f_X3_findTroubleWithOthers σ x2) 13 6) + 1)))))
set_option maxHeartbeats 4000000 in
set_option maxRecDepth 100000 in
theorem w_L_X3_findTroubles_27 {p : Program} {l : Launch} {e : Env} {s : State} {m : MethodId} {args : Array Value} {below : List Frame} {meth : Method} {c₀ : Code} {D : va_G} {cy : Nat → ClassId} {ad : Nat → Nat} {Q : State → Prop} (X : MX p s m args meth c₀ cX3_findTroubles 3 RX3 none wsX3_findTroubles D cy) : ∀ (n : Nat) (x2 : Int) (σ : Sg) (hx2 : (0 : Int) ≤ x2 ∧ x2 ≤ 40) (hp0 : σ 13 6 ≤ x2) (hmu : 40 - x2 < (n : Int)) (H : Heap) (locs : List Loc) (ls : Array Slot) (hI : HI D cy ad s σ H locs) (hl : lv_has ls 3 [(0, .ref (ad 13)), (1, .ref (ad 3)), (2, .int (iI x2))])  (hk : ∀ (H1 : Heap) (locs1 : List Loc) (ls1 : Array Slot), True → HI D cy ad s (L_X3_findTroubles_27 n x2 σ) H1 locs1 → lv_has ls1 3 [] → W p l e { frames := 4, cells := 0, slots := 0, locals := 160 } s m args below meth c₀ H1 locs1 0 0 Q (F0 m 81 ls1 [])), W p l e { frames := 4, cells := 0, slots := 0, locals := 160 } s m args below meth c₀ H locs 0 0 Q (F0 m 27 ls []) := by
  obtain ⟨hx, hb, hr, hml, hown, hts, hlocks, hK, hN⟩ := id X
  intro n
  induction n with
  | zero =>
    intro x2 σ hx2 hp0 hmu H locs ls hI hl hk
    exfalso
    have hF := hI.2.2.2
    omega
  | succ n ih =>
    intro x2 σ hx2 hp0 hmu H locs ls hI hl hk
    have hF := hI.2.2.2
    refine lv_iload_n hx hb dX3_findTroubles_27 rfl (lv_at hl 2 rfl) ?_
    refine lv_aload_n hx hb dX3_findTroubles_28 rfl (lv_at hl 0 rfl) ?_
    refine g_get (C := RX3) (T := TX3) (N := 9) (ci := 3) (v := .int (iI (σ 13 5))) hx hb hts in_X3_findTroubles_X3 hown hK hI 13 (by decide) (cel_13 cy ad _) rfl 5 (by decide) (by decide +kernel) rfl dX3_findTroubles_29 ?_
    have b_8 := bd_13_5 hF
    refine g_icmp_ge (tgt := 81) hx hb dX3_findTroubles_32 (by decide) (by omega) (by omega) (fun c_9 => ?_) (fun c_9 => ?_)
    · skip
      have e9 : L_X3_findTroubles_27 (n + 1) x2 σ = σ := by rw [L_X3_findTroubles_27, if_pos c_9]
      rw [e9] at hk
      exact hk _ _ _ trivial hI (lv_sub hl [] rfl)
    · skip
      refine lv_aload_n hx hb dX3_findTroubles_35 rfl (lv_at hl 0 rfl) ?_
      refine g_get (C := RX3) (T := TX3) (N := 9) (ci := 3) (v := .ref (ad 14)) hx hb hts in_X3_findTroubles_X3 hown hK hI 13 (by decide) (cel_13 cy ad _) rfl 0 (by decide) (by decide +kernel) rfl dX3_findTroubles_36 ?_
      refine lv_iload_n hx hb dX3_findTroubles_39 rfl (lv_at hl 2 rfl) ?_
      refine g_aaldQ (f := fun i => 439 + i) hx hb hK hI 14 (by decide) (cel_14 cy ad) (by omega) (by decide) dX3_findTroubles_40 ?_
      have hr_10 : isPd (439 + x2.toNat) := by omega
      refine g_V (As := []) (rest := []) (439 + x2.toNat) (c_X4_hasName l D cy ad σ (439 + x2.toNat) hr_10) hx hb hml hown hts hK hN hI hl.1 gX3_findTroubles_X4_hasName rfl hd_X4_hasName rfl rfl ⟨Nat.le_of_ble_eq_true rfl, Nat.le_of_ble_eq_true rfl⟩ ⟨Nat.zero_le _, Nat.zero_le _⟩ (by have q := hr_10; omega) (cel_Pd cy ad hr_10 _) rfl rfl rfl rfl (Nat.le_of_ble_eq_true rfl) dX3_findTroubles_41 (fun H locs hG_11 hI => ?_)
      refine g_if_eq (tgt := 53) hx hb dX3_findTroubles_44 (by decide) (by omega) (fun c_12 => ?_) (fun c_12 => ?_)
      · skip
        refine lv_aload_n hx hb dX3_findTroubles_53 rfl (lv_at hl 0 rfl) ?_
        refine g_get (C := RX3) (T := TX3) (N := 9) (ci := 3) (v := .ref (ad 14)) hx hb hts in_X3_findTroubles_X3 hown hK hI 13 (by decide) (cel_13 cy ad _) rfl 0 (by decide) (by decide +kernel) rfl dX3_findTroubles_54 ?_
        refine lv_iload_n hx hb dX3_findTroubles_57 rfl (lv_at hl 2 rfl) ?_
        refine g_aaldQ (f := fun i => 439 + i) hx hb hK hI 14 (by decide) (cel_14 cy ad) (by omega) (by decide) dX3_findTroubles_58 ?_
        have hr_13 : isPd (439 + x2.toNat) := by omega
        refine g_getN (C := RX4) (T := TX4) (N := 12) (ci := 4) (v := .int (iI (σ (439 + x2.toNat) 7))) hx hb hts in_X3_findTroubles_X4 hown hK hN hI (439 + x2.toNat) (by have q := hr_13; omega) (cel_Pd cy ad hr_13 _) rfl 7 (by decide) (by decide +kernel) rfl dX3_findTroubles_59 ?_
        have b_14 := bd_Pd_7 hF hr_13
        refine g_if_eq (tgt := 75) hx hb dX3_findTroubles_62 (by decide) (by omega) (fun c_15 => ?_) (fun c_15 => ?_)
        · skip
          refine lv_iinc (v := iI (x2 + 1)) (lv' := [(2, .int (iI (x2 + 1))), (0, .ref (ad 13)), (1, .ref (ad 3))]) hx hb dX3_findTroubles_75 hl (k := 2) rfl (iI_add _ _) (by decide) rfl (fun ls hl => ?_)
          refine lv_goto (tgt := 27) hx hb dX3_findTroubles_78 (by decide) ?_
          have e9 : L_X3_findTroubles_27 (n + 1) x2 σ = L_X3_findTroubles_27 n (x2 + 1) σ := by rw [L_X3_findTroubles_27, if_neg c_9, if_pos c_12, if_pos c_15]
          rw [e9] at hk
          exact ih (x2 + 1) σ (by omega) (by first | omega | (rw [up2_same]; omega)) (by omega) _ _ _ hI (lv_sub hl [1, 2, 0] rfl) hk
        · skip
          refine lv_aload_n hx hb dX3_findTroubles_65 rfl (lv_at hl 0 rfl) ?_
          refine lv_dup hx hb dX3_findTroubles_66 rfl ?_
          refine g_get (C := RX3) (T := TX3) (N := 9) (ci := 3) (v := .int (iI (σ 13 6))) hx hb hts in_X3_findTroubles_X3 hown hK hI 13 (by decide) (cel_13 cy ad _) rfl 6 (by decide) (by decide +kernel) rfl dX3_findTroubles_67 ?_
          have b_16 := bd_13_6 hF
          refine lv_iconst (v := iI 1) hx hb dX3_findTroubles_70 rfl ?_
          refine g_iadd hx hb dX3_findTroubles_71 ?_
          refine g_put (C := RX3) (T := TX3) (N := 9) (ci := 3) (ty := .int) (z := (σ 13 6) + 1) hx hb hts in_X3_findTroubles_X3 tyX3 tyX3_ok nmX3 hown hK hI 13 (by decide) (cel_13 cy ad) rfl 6 (by decide) (by decide +kernel) rfl (by decide +kernel) rfl rfl (Nat.le_of_ble_eq_true rfl) rfl (bw_13_6 (by omega)) dX3_findTroubles_72 (fun H locs hI => ?_)
          have hF_17 := hI.2.2.2
          refine lv_iinc (v := iI (x2 + 1)) (lv' := [(2, .int (iI (x2 + 1))), (0, .ref (ad 13)), (1, .ref (ad 3))]) hx hb dX3_findTroubles_75 hl (k := 2) rfl (iI_add _ _) (by decide) rfl (fun ls hl => ?_)
          refine lv_goto (tgt := 27) hx hb dX3_findTroubles_78 (by decide) ?_
          have e9 : L_X3_findTroubles_27 (n + 1) x2 σ = L_X3_findTroubles_27 n (x2 + 1) (up2 σ 13 6 ((σ 13 6) + 1)) := by rw [L_X3_findTroubles_27, if_neg c_9, if_pos c_12, if_neg c_15]
          rw [e9] at hk
          exact ih (x2 + 1) (up2 σ 13 6 ((σ 13 6) + 1)) (by omega) (by first | omega | (rw [up2_same]; omega)) (by omega) _ _ _ hI (lv_sub hl [1, 2, 0] rfl) hk
      · skip
        refine lv_aload_n hx hb dX3_findTroubles_47 rfl (lv_at hl 0 rfl) ?_
        refine lv_iload_n hx hb dX3_findTroubles_48 rfl (lv_at hl 2 rfl) ?_
        refine lv_aload_n hx hb dX3_findTroubles_49 rfl (lv_at hl 1 rfl) ?_
        refine g_V (As := [.int (iI x2), .ref (ad 3)]) (rest := []) 13 (c_X3_findTroubleWithOthers l D cy ad σ x2 (by omega)) hx hb hml hown hts hK hN hI hl.1 gX3_findTroubles_X3_findTroubleWithOthers rfl hd_X3_findTroubleWithOthers rfl rfl ⟨Nat.le_of_ble_eq_true rfl, Nat.le_of_ble_eq_true rfl⟩ ⟨Nat.zero_le _, Nat.zero_le _⟩ (by decide) (cel_13 cy ad _) rfl rfl rfl rfl (Nat.le_of_ble_eq_true rfl) dX3_findTroubles_50 (fun H locs hG_18 hI => ?_)
        have hF_19 := hI.2.2.2
        have q9 := congrFun (others_fr σ x2 (x := 13) (by omega)) 6
        refine lv_aload_n hx hb dX3_findTroubles_53 rfl (lv_at hl 0 rfl) ?_
        refine g_get (C := RX3) (T := TX3) (N := 9) (ci := 3) (v := .ref (ad 14)) hx hb hts in_X3_findTroubles_X3 hown hK hI 13 (by decide) (cel_13 cy ad _) rfl 0 (by decide) (by decide +kernel) rfl dX3_findTroubles_54 ?_
        refine lv_iload_n hx hb dX3_findTroubles_57 rfl (lv_at hl 2 rfl) ?_
        refine g_aaldQ (f := fun i => 439 + i) hx hb hK hI 14 (by decide) (cel_14 cy ad) (by omega) (by decide) dX3_findTroubles_58 ?_
        have hr_20 : isPd (439 + x2.toNat) := by omega
        refine g_getN (C := RX4) (T := TX4) (N := 12) (ci := 4) (v := .int (iI ((f_X3_findTroubleWithOthers σ x2) (439 + x2.toNat) 7))) hx hb hts in_X3_findTroubles_X4 hown hK hN hI (439 + x2.toNat) (by have q := hr_20; omega) (cel_Pd cy ad hr_20 _) rfl 7 (by decide) (by decide +kernel) rfl dX3_findTroubles_59 ?_
        have b_21 := bd_Pd_7 hF_19 hr_20
        refine g_if_eq (tgt := 75) hx hb dX3_findTroubles_62 (by decide) (by omega) (fun c_22 => ?_) (fun c_22 => ?_)
        · skip
          refine lv_iinc (v := iI (x2 + 1)) (lv' := [(2, .int (iI (x2 + 1))), (0, .ref (ad 13)), (1, .ref (ad 3))]) hx hb dX3_findTroubles_75 hl (k := 2) rfl (iI_add _ _) (by decide) rfl (fun ls hl => ?_)
          refine lv_goto (tgt := 27) hx hb dX3_findTroubles_78 (by decide) ?_
          have e9 : L_X3_findTroubles_27 (n + 1) x2 σ = L_X3_findTroubles_27 n (x2 + 1) (f_X3_findTroubleWithOthers σ x2) := by rw [L_X3_findTroubles_27, if_neg c_9, if_neg c_12, if_pos c_22]
          rw [e9] at hk
          exact ih (x2 + 1) (f_X3_findTroubleWithOthers σ x2) (by omega) (by first | omega | (rw [up2_same]; omega)) (by omega) _ _ _ hI (lv_sub hl [1, 2, 0] rfl) hk
        · skip
          refine lv_aload_n hx hb dX3_findTroubles_65 rfl (lv_at hl 0 rfl) ?_
          refine lv_dup hx hb dX3_findTroubles_66 rfl ?_
          refine g_get (C := RX3) (T := TX3) (N := 9) (ci := 3) (v := .int (iI ((f_X3_findTroubleWithOthers σ x2) 13 6))) hx hb hts in_X3_findTroubles_X3 hown hK hI 13 (by decide) (cel_13 cy ad _) rfl 6 (by decide) (by decide +kernel) rfl dX3_findTroubles_67 ?_
          have b_23 := bd_13_6 hF_19
          refine lv_iconst (v := iI 1) hx hb dX3_findTroubles_70 rfl ?_
          refine g_iadd hx hb dX3_findTroubles_71 ?_
          refine g_put (C := RX3) (T := TX3) (N := 9) (ci := 3) (ty := .int) (z := ((f_X3_findTroubleWithOthers σ x2) 13 6) + 1) hx hb hts in_X3_findTroubles_X3 tyX3 tyX3_ok nmX3 hown hK hI 13 (by decide) (cel_13 cy ad) rfl 6 (by decide) (by decide +kernel) rfl (by decide +kernel) rfl rfl (Nat.le_of_ble_eq_true rfl) rfl (bw_13_6 (by omega)) dX3_findTroubles_72 (fun H locs hI => ?_)
          have hF_24 := hI.2.2.2
          refine lv_iinc (v := iI (x2 + 1)) (lv' := [(2, .int (iI (x2 + 1))), (0, .ref (ad 13)), (1, .ref (ad 3))]) hx hb dX3_findTroubles_75 hl (k := 2) rfl (iI_add _ _) (by decide) rfl (fun ls hl => ?_)
          refine lv_goto (tgt := 27) hx hb dX3_findTroubles_78 (by decide) ?_
          have e9 : L_X3_findTroubles_27 (n + 1) x2 σ = L_X3_findTroubles_27 n (x2 + 1) (up2 (f_X3_findTroubleWithOthers σ x2) 13 6 (((f_X3_findTroubleWithOthers σ x2) 13 6) + 1)) := by rw [L_X3_findTroubles_27, if_neg c_9, if_neg c_12, if_neg c_22]
          rw [e9] at hk
          exact ih (x2 + 1) (up2 (f_X3_findTroubleWithOthers σ x2) 13 6 (((f_X3_findTroubleWithOthers σ x2) 13 6) + 1)) (by omega) (by first | omega | (rw [up2_same]; omega)) (by omega) _ _ _ hI (lv_sub hl [1, 2, 0] rfl) hk
def f_X3_findTroubles (σ : Sg) : Sg := (L_X3_findTroubles_27 41 0 (L_X3_findTroubles_2 41 0 σ))
theorem hd_X3_findTroubles : yX3_findTroubles.cls = RX3 ∧ yX3_findTroubles.cls ≠ "java/lang/invoke/MethodHandle" ∧ yX3_findTroubles.cls ≠ "java/lang/invoke/VarHandle" ∧ (parseMethodDescriptor yX3_findTroubles.desc).map (fun d => d.parameters.length) = some 1 := by decide +kernel
set_option maxHeartbeats 4000000 in
set_option maxRecDepth 100000 in
theorem c_X3_findTroubles (l : Launch) (D : va_G) (cy : Nat → ClassId) (ad : Nat → Nat) (σ : Sg) (h1 : σ 13 6 ≤ 0) : CM l D cy ad yX3_findTroubles wsX3_findTroubles { frames := 4, cells := 0, slots := 0, locals := 160 } [.ref (ad 13), .ref (ad 3)] σ none (f_X3_findTroubles σ) (True) := by
  refine CM.of (cc := cX3_findTroubles) (maxL := 3) (ret := none) (by decide) rfl (Nat.le_of_ble_eq_true rfl) ?_
  intro p e s m args below meth c₀ ls X hI hl
  have hl : lv_has ls 3 [(0, .ref (ad 13)), (1, .ref (ad 3))] := hl
  obtain ⟨hx, hb, hr, hml, hown, hts, hlocks, hK, hN⟩ := id X
  have hF := hI.2.2.2
  refine lv_iconst (v := iI 0) hx hb dX3_findTroubles_0 rfl ?_
  refine lv_istore_n (lv' := [(2, .int (iI 0)), (0, .ref (ad 13)), (1, .ref (ad 3))]) hx hb dX3_findTroubles_1 rfl hl (by decide) rfl (fun ls hl => ?_)
  refine w_L_X3_findTroubles_2 X    (σ 13 6) 41 0 σ (by omega) (by omega) (by omega) _ _ _ hI (lv_sub hl [1, 2, 0] rfl) (fun H locs ls hpo_7 hI hl => ?_)
  have hF_6 := hI.2.2.2
  refine lv_iconst (v := iI 0) hx hb dX3_findTroubles_25 rfl ?_
  refine lv_istore_n (lv' := [(2, .int (iI 0)), (0, .ref (ad 13)), (1, .ref (ad 3))]) hx hb dX3_findTroubles_26 rfl hl (by decide) rfl (fun ls hl => ?_)
  refine w_L_X3_findTroubles_27 X    41 0 (L_X3_findTroubles_2 41 0 σ) (by omega) (by first | omega | (rw [up2_same]; omega)) (by omega) _ _ _ hI (lv_sub hl [1, 2, 0] rfl) (fun H locs ls hpo_26 hI hl => ?_)
  have hF_25 := hI.2.2.2
  have e9 : f_X3_findTroubles σ = (L_X3_findTroubles_27 41 0 (L_X3_findTroubles_2 41 0 σ)) := by rw [f_X3_findTroubles]
  exact g_vret hx hb hr hK hN hlocks hI (by rw [e9]) trivial dX3_findTroubles_81
theorem in_X3_addStep_X3 : ∀ w ∈ u_ws RX3 TX3 9, w ∈ wsX3_addStep := by decide +kernel
theorem in_X3_addStep_X4 : ∀ w ∈ u_ws RX4 TX4 12, w ∈ wsX3_addStep := by decide +kernel
def f_X3_addStep (σ : Sg) (a0 : Int) (a1 : Int) : Sg := (up2 (up2 (up2 (up2 σ 15 ((σ 13 7).toNat) a0) 16 ((σ 13 7).toNat) a1) 17 ((σ 13 7).toNat) (σ (439 + a0.toNat) 10)) 13 7 ((σ 13 7) + 1))
theorem hd_X3_addStep : yX3_addStep.cls = RX3 ∧ yX3_addStep.cls ≠ "java/lang/invoke/MethodHandle" ∧ yX3_addStep.cls ≠ "java/lang/invoke/VarHandle" ∧ (parseMethodDescriptor yX3_addStep.desc).map (fun d => d.parameters.length) = some 2 := by decide +kernel
set_option maxHeartbeats 4000000 in
set_option maxRecDepth 100000 in
theorem c_X3_addStep (l : Launch) (D : va_G) (cy : Nat → ClassId) (ad : Nat → Nat) (σ : Sg) (a0 : Int) (ha0 : (0 : Int) ≤ a0 ∧ a0 ≤ 39) (a1 : Int) (ha1 : (0 : Int) ≤ a1 ∧ a1 ≤ 1) (h1 : σ 13 7 < 80) : CM l D cy ad yX3_addStep wsX3_addStep { frames := 0, cells := 0, slots := 0, locals := 0 } [.ref (ad 13), .int (iI a0), .int (iI a1)] σ none (f_X3_addStep σ a0 a1) ((f_X3_addStep σ a0 a1) 13 7 = σ 13 7 + 1) := by
  refine CM.of (cc := cX3_addStep) (maxL := 3) (ret := none) (by decide) rfl (Nat.le_of_ble_eq_true rfl) ?_
  intro p e s m args below meth c₀ ls X hI hl
  have hl : lv_has ls 3 [(0, .ref (ad 13)), (1, .int (iI a0)), (2, .int (iI a1))] := hl
  obtain ⟨hx, hb, hr, hml, hown, hts, hlocks, hK, hN⟩ := id X
  have hF := hI.2.2.2
  refine lv_aload_n hx hb dX3_addStep_0 rfl (lv_at hl 0 rfl) ?_
  refine g_get (C := RX3) (T := TX3) (N := 9) (ci := 3) (v := .ref (ad 15)) hx hb hts in_X3_addStep_X3 hown hK hI 13 (by decide) (cel_13 cy ad _) rfl 1 (by decide) (by decide +kernel) rfl dX3_addStep_1 ?_
  refine lv_aload_n hx hb dX3_addStep_4 rfl (lv_at hl 0 rfl) ?_
  refine g_get (C := RX3) (T := TX3) (N := 9) (ci := 3) (v := .int (iI (σ 13 7))) hx hb hts in_X3_addStep_X3 hown hK hI 13 (by decide) (cel_13 cy ad _) rfl 7 (by decide) (by decide +kernel) rfl dX3_addStep_5 ?_
  have b_1 := bd_13_7 hF
  refine lv_iload_n hx hb dX3_addStep_8 rfl (lv_at hl 1 rfl) ?_
  refine g_iast hx hb hK hI 15 (by decide) (cel_15 cy ad) (by omega) (by decide) (bw_15 (by omega)) dX3_addStep_9 (fun H locs hI => ?_)
  have hF_2 : WF (up2 σ 15 ((σ 13 7).toNat) a0) := hI.2.2.2
  refine lv_aload_n hx hb dX3_addStep_10 rfl (lv_at hl 0 rfl) ?_
  refine g_get (C := RX3) (T := TX3) (N := 9) (ci := 3) (v := .ref (ad 16)) hx hb hts in_X3_addStep_X3 hown hK hI 13 (by decide) (cel_13 cy ad _) rfl 2 (by decide) (by decide +kernel) rfl dX3_addStep_11 ?_
  refine lv_aload_n hx hb dX3_addStep_14 rfl (lv_at hl 0 rfl) ?_
  refine g_get (C := RX3) (T := TX3) (N := 9) (ci := 3) (v := .int (iI (σ 13 7))) hx hb hts in_X3_addStep_X3 hown hK hI 13 (by decide) (cel_13 cy ad _) rfl 7 (by decide) (by decide +kernel) (by show some (Value.int (iI ((up2 σ 15 ((σ 13 7).toNat) a0) 13 7))) = _; rw [up2_cell _ _ _ (by decide)]) dX3_addStep_15 ?_
  have b_3 := bd_13_7 hF
  refine lv_iload_n hx hb dX3_addStep_18 rfl (lv_at hl 2 rfl) ?_
  refine g_zast hx hb hK hI 16 (by decide) (cel_16 cy ad) (by omega) (by decide) (by omega) (bw_16 (by omega)) dX3_addStep_19 (fun H locs hI => ?_)
  have hF_4 : WF (up2 (up2 σ 15 ((σ 13 7).toNat) a0) 16 ((σ 13 7).toNat) a1) := hI.2.2.2
  refine lv_aload_n hx hb dX3_addStep_20 rfl (lv_at hl 0 rfl) ?_
  refine g_get (C := RX3) (T := TX3) (N := 9) (ci := 3) (v := .ref (ad 17)) hx hb hts in_X3_addStep_X3 hown hK hI 13 (by decide) (cel_13 cy ad _) rfl 3 (by decide) (by decide +kernel) rfl dX3_addStep_21 ?_
  refine lv_aload_n hx hb dX3_addStep_24 rfl (lv_at hl 0 rfl) ?_
  refine g_get (C := RX3) (T := TX3) (N := 9) (ci := 3) (v := .int (iI (σ 13 7))) hx hb hts in_X3_addStep_X3 hown hK hI 13 (by decide) (cel_13 cy ad _) rfl 7 (by decide) (by decide +kernel) (by show some (Value.int (iI ((up2 (up2 σ 15 ((σ 13 7).toNat) a0) 16 ((σ 13 7).toNat) a1) 13 7))) = _; rw [up2_cell _ _ _ (by decide), up2_cell _ _ _ (by decide)]) dX3_addStep_25 ?_
  have b_5 := bd_13_7 hF
  refine lv_aload_n hx hb dX3_addStep_28 rfl (lv_at hl 0 rfl) ?_
  refine g_get (C := RX3) (T := TX3) (N := 9) (ci := 3) (v := .ref (ad 14)) hx hb hts in_X3_addStep_X3 hown hK hI 13 (by decide) (cel_13 cy ad _) rfl 0 (by decide) (by decide +kernel) rfl dX3_addStep_29 ?_
  refine lv_iload_n hx hb dX3_addStep_32 rfl (lv_at hl 1 rfl) ?_
  refine g_aaldQ (f := fun i => 439 + i) hx hb hK hI 14 (by decide) (cel_14 cy ad) (by omega) (by decide) dX3_addStep_33 ?_
  have hr_6 : isPd (439 + a0.toNat) := by omega
  refine g_getN (C := RX4) (T := TX4) (N := 12) (ci := 4) (v := .int (iI (σ (439 + a0.toNat) 10))) hx hb hts in_X3_addStep_X4 hown hK hN hI (439 + a0.toNat) (by have q := hr_6; omega) (cel_Pd cy ad hr_6 _) rfl 10 (by decide) (by decide +kernel) (by show some (Value.int (iI ((up2 (up2 σ 15 ((σ 13 7).toNat) a0) 16 ((σ 13 7).toNat) a1) (439 + a0.toNat) 10))) = _; rw [up2_cell _ _ _ (by have q0 := hr_6;  omega), up2_cell _ _ _ (by have q0 := hr_6;  omega)]) dX3_addStep_34 ?_
  have b_7 := bd_Pd_10 hF hr_6
  refine g_zast hx hb hK hI 17 (by decide) (cel_17 cy ad) (by omega) (by decide) (by omega) (bw_17 (by omega)) dX3_addStep_37 (fun H locs hI => ?_)
  have hF_8 : WF (up2 (up2 (up2 σ 15 ((σ 13 7).toNat) a0) 16 ((σ 13 7).toNat) a1) 17 ((σ 13 7).toNat) (σ (439 + a0.toNat) 10)) := hI.2.2.2
  refine lv_aload_n hx hb dX3_addStep_38 rfl (lv_at hl 0 rfl) ?_
  refine lv_dup hx hb dX3_addStep_39 rfl ?_
  refine g_get (C := RX3) (T := TX3) (N := 9) (ci := 3) (v := .int (iI (σ 13 7))) hx hb hts in_X3_addStep_X3 hown hK hI 13 (by decide) (cel_13 cy ad _) rfl 7 (by decide) (by decide +kernel) (by show some (Value.int (iI ((up2 (up2 (up2 σ 15 ((σ 13 7).toNat) a0) 16 ((σ 13 7).toNat) a1) 17 ((σ 13 7).toNat) (σ (439 + a0.toNat) 10)) 13 7))) = _; rw [up2_cell _ _ _ (by decide), up2_cell _ _ _ (by decide), up2_cell _ _ _ (by decide)]) dX3_addStep_40 ?_
  have b_9 := bd_13_7 hF
  refine lv_iconst (v := iI 1) hx hb dX3_addStep_43 rfl ?_
  refine g_iadd hx hb dX3_addStep_44 ?_
  refine g_put (C := RX3) (T := TX3) (N := 9) (ci := 3) (ty := .int) (z := (σ 13 7) + 1) hx hb hts in_X3_addStep_X3 tyX3 tyX3_ok nmX3 hown hK hI 13 (by decide) (cel_13 cy ad) rfl 7 (by decide) (by decide +kernel) rfl (by decide +kernel) rfl rfl (Nat.le_of_ble_eq_true rfl) rfl (bw_13_7 (by omega)) dX3_addStep_45 (fun H locs hI => ?_)
  have hF_10 := hI.2.2.2
  have e9 : f_X3_addStep σ a0 a1 = (up2 (up2 (up2 (up2 σ 15 ((σ 13 7).toNat) a0) 16 ((σ 13 7).toNat) a1) 17 ((σ 13 7).toNat) (σ (439 + a0.toNat) 10)) 13 7 ((σ 13 7) + 1)) := by rw [f_X3_addStep]
  exact g_vret hx hb hr hK hN hlocks hI (by rw [e9]) (by rw [e9] <;> first | (simp [up2_at] <;> omega) | (dsimp only; simp [up2_at] <;> omega)) dX3_addStep_48
theorem in_X3_canGo_X3 : ∀ w ∈ u_ws RX3 TX3 9, w ∈ wsX3_canGo := by decide +kernel
theorem in_X3_canGo_X4 : ∀ w ∈ u_ws RX4 TX4 12, w ∈ wsX3_canGo := by decide +kernel
def f_X3_canGo (σ : Sg) (a0 : Int) : Int := (if (f_X4_isLeft σ (439 + a0.toNat)) = 0 then 0 else (if (f_X3_hasPlanned σ (σ (439 + a0.toNat) 9)) = 0 then 1 else (if (f_X4_hasLeftOldPlace σ (439 + ((σ (439 + a0.toNat) 9).toNat))) = 0 then 0 else 1)))
theorem hd_X3_canGo : yX3_canGo.cls = RX3 ∧ yX3_canGo.cls ≠ "java/lang/invoke/MethodHandle" ∧ yX3_canGo.cls ≠ "java/lang/invoke/VarHandle" ∧ (parseMethodDescriptor yX3_canGo.desc).map (fun d => d.parameters.length) = some 1 := by decide +kernel
set_option maxHeartbeats 4000000 in
set_option maxRecDepth 100000 in
theorem c_X3_canGo (l : Launch) (D : va_G) (cy : Nat → ClassId) (ad : Nat → Nat) (σ : Sg) (a0 : Int) (ha0 : (0 : Int) ≤ a0 ∧ a0 ≤ 39) : CM l D cy ad yX3_canGo wsX3_canGo { frames := 1, cells := 0, slots := 0, locals := 40 } [.ref (ad 13), .int (iI a0)] σ (some (.int (iI (f_X3_canGo σ a0)))) σ ((0 ≤ f_X3_canGo σ a0 ∧ f_X3_canGo σ a0 ≤ 1)) := by
  refine CM.of (cc := cX3_canGo) (maxL := 3) (ret := (some .boolean)) (by decide) rfl (Nat.le_of_ble_eq_true rfl) ?_
  intro p e s m args below meth c₀ ls X hI hl
  have hl : lv_has ls 3 [(0, .ref (ad 13)), (1, .int (iI a0))] := hl
  obtain ⟨hx, hb, hr, hml, hown, hts, hlocks, hK, hN⟩ := id X
  have hF := hI.2.2.2
  refine lv_aload_n hx hb dX3_canGo_0 rfl (lv_at hl 0 rfl) ?_
  refine g_get (C := RX3) (T := TX3) (N := 9) (ci := 3) (v := .ref (ad 14)) hx hb hts in_X3_canGo_X3 hown hK hI 13 (by decide) (cel_13 cy ad _) rfl 0 (by decide) (by decide +kernel) rfl dX3_canGo_1 ?_
  refine lv_iload_n hx hb dX3_canGo_4 rfl (lv_at hl 1 rfl) ?_
  refine g_aaldQ (f := fun i => 439 + i) hx hb hK hI 14 (by decide) (cel_14 cy ad) (by omega) (by decide) dX3_canGo_5 ?_
  have hr_1 : isPd (439 + a0.toNat) := by omega
  refine g_getN (C := RX4) (T := TX4) (N := 12) (ci := 4) (v := .int (iI (σ (439 + a0.toNat) 9))) hx hb hts in_X3_canGo_X4 hown hK hN hI (439 + a0.toNat) (by have q := hr_1; omega) (cel_Pd cy ad hr_1 _) rfl 9 (by decide) (by decide +kernel) rfl dX3_canGo_6 ?_
  have b_2 := bd_Pd_9 hF hr_1
  refine lv_istore_n (lv' := [(2, .int (iI (σ (439 + a0.toNat) 9))), (0, .ref (ad 13)), (1, .int (iI a0))]) hx hb dX3_canGo_9 rfl hl (by decide) rfl (fun ls hl => ?_)
  refine lv_aload_n hx hb dX3_canGo_10 rfl (lv_at hl 1 rfl) ?_
  refine g_get (C := RX3) (T := TX3) (N := 9) (ci := 3) (v := .ref (ad 14)) hx hb hts in_X3_canGo_X3 hown hK hI 13 (by decide) (cel_13 cy ad _) rfl 0 (by decide) (by decide +kernel) rfl dX3_canGo_11 ?_
  refine lv_iload_n hx hb dX3_canGo_14 rfl (lv_at hl 2 rfl) ?_
  refine g_aaldQ (f := fun i => 439 + i) hx hb hK hI 14 (by decide) (cel_14 cy ad) (by omega) (by decide) dX3_canGo_15 ?_
  have hr_3 : isPd (439 + a0.toNat) := by omega
  refine g_V (As := []) (rest := []) (439 + a0.toNat) (c_X4_isLeft l D cy ad σ (439 + a0.toNat) hr_3) hx hb hml hown hts hK hN hI hl.1 gX3_canGo_X4_isLeft rfl hd_X4_isLeft rfl rfl ⟨Nat.le_of_ble_eq_true rfl, Nat.le_of_ble_eq_true rfl⟩ ⟨Nat.zero_le _, Nat.zero_le _⟩ (by have q := hr_3; omega) (cel_Pd cy ad hr_3 _) rfl rfl rfl rfl (Nat.le_of_ble_eq_true rfl) dX3_canGo_16 (fun H locs hG_4 hI => ?_)
  refine g_if_eq (tgt := 46) hx hb dX3_canGo_19 (by decide) (by omega) (fun c_5 => ?_) (fun c_5 => ?_)
  · skip
    refine lv_iconst (v := iI 0) hx hb dX3_canGo_46 rfl ?_
    have e9 : f_X3_canGo σ a0 = 0 := by rw [f_X3_canGo, if_pos c_5]
    exact g_zret (z := 0) hx hb hr hK hN hlocks hI e9.symm rfl (by rw [e9] <;> first | (omega) | (dsimp only; omega)) (by omega) dX3_canGo_47
  · skip
    refine lv_aload_n hx hb dX3_canGo_22 rfl (lv_at hl 1 rfl) ?_
    refine lv_iload_n hx hb dX3_canGo_23 rfl (lv_at hl 0 rfl) ?_
    refine g_V (As := [.int (iI (σ (439 + a0.toNat) 9))]) (rest := []) 13 (c_X3_hasPlanned l D cy ad σ (σ (439 + a0.toNat) 9) (by omega)) hx hb hml hown hts hK hN hI hl.1 gX3_canGo_X3_hasPlanned rfl hd_X3_hasPlanned rfl rfl ⟨Nat.le_of_ble_eq_true rfl, Nat.le_of_ble_eq_true rfl⟩ ⟨Nat.zero_le _, Nat.zero_le _⟩ (by decide) (cel_13 cy ad _) rfl rfl rfl rfl (Nat.le_of_ble_eq_true rfl) dX3_canGo_24 (fun H locs hG_6 hI => ?_)
    refine g_if_eq (tgt := 42) hx hb dX3_canGo_27 (by decide) (by omega) (fun c_7 => ?_) (fun c_7 => ?_)
    · skip
      refine lv_iconst (v := iI 1) hx hb dX3_canGo_42 rfl ?_
      refine lv_goto (tgt := 47) hx hb dX3_canGo_43 (by decide) ?_
      have e9 : f_X3_canGo σ a0 = 1 := by rw [f_X3_canGo, if_neg c_5, if_pos c_7]
      exact g_zret (z := 1) hx hb hr hK hN hlocks hI e9.symm rfl (by rw [e9] <;> first | (omega) | (dsimp only; omega)) (by omega) dX3_canGo_47
    · skip
      refine lv_aload_n hx hb dX3_canGo_30 rfl (lv_at hl 1 rfl) ?_
      refine g_get (C := RX3) (T := TX3) (N := 9) (ci := 3) (v := .ref (ad 14)) hx hb hts in_X3_canGo_X3 hown hK hI 13 (by decide) (cel_13 cy ad _) rfl 0 (by decide) (by decide +kernel) rfl dX3_canGo_31 ?_
      refine lv_iload_n hx hb dX3_canGo_34 rfl (lv_at hl 0 rfl) ?_
      refine g_aaldQ (f := fun i => 439 + i) hx hb hK hI 14 (by decide) (cel_14 cy ad) (by omega) (by decide) dX3_canGo_35 ?_
      have hr_8 : isPd (439 + ((σ (439 + a0.toNat) 9).toNat)) := by omega
      refine g_V (As := []) (rest := []) (439 + ((σ (439 + a0.toNat) 9).toNat)) (c_X4_hasLeftOldPlace l D cy ad σ (439 + ((σ (439 + a0.toNat) 9).toNat)) hr_8) hx hb hml hown hts hK hN hI hl.1 gX3_canGo_X4_hasLeftOldPlace rfl hd_X4_hasLeftOldPlace rfl rfl ⟨Nat.le_of_ble_eq_true rfl, Nat.le_of_ble_eq_true rfl⟩ ⟨Nat.zero_le _, Nat.zero_le _⟩ (by have q := hr_8; omega) (cel_Pd cy ad hr_8 _) rfl rfl rfl rfl (Nat.le_of_ble_eq_true rfl) dX3_canGo_36 (fun H locs hG_9 hI => ?_)
      refine g_if_eq (tgt := 46) hx hb dX3_canGo_39 (by decide) (by omega) (fun c_10 => ?_) (fun c_10 => ?_)
      · skip
        refine lv_iconst (v := iI 0) hx hb dX3_canGo_46 rfl ?_
        have e9 : f_X3_canGo σ a0 = 0 := by rw [f_X3_canGo, if_neg c_5, if_neg c_7, if_pos c_10]
        exact g_zret (z := 0) hx hb hr hK hN hlocks hI e9.symm rfl (by rw [e9] <;> first | (omega) | (dsimp only; omega)) (by omega) dX3_canGo_47
      · skip
        refine lv_iconst (v := iI 1) hx hb dX3_canGo_42 rfl ?_
        refine lv_goto (tgt := 47) hx hb dX3_canGo_43 (by decide) ?_
        have e9 : f_X3_canGo σ a0 = 1 := by rw [f_X3_canGo, if_neg c_5, if_neg c_7, if_neg c_10]
        exact g_zret (z := 1) hx hb hr hK hN hlocks hI e9.symm rfl (by rw [e9] <;> first | (omega) | (dsimp only; omega)) (by omega) dX3_canGo_47
theorem in_X3_leastThatCanGo_X3 : ∀ w ∈ u_ws RX3 TX3 9, w ∈ wsX3_leastThatCanGo := by decide +kernel
theorem in_X3_leastThatCanGo_X4 : ∀ w ∈ u_ws RX4 TX4 12, w ∈ wsX3_leastThatCanGo := by decide +kernel
def L_X3_leastThatCanGo_4 (σ : Sg) : Nat → Int → Int → Int
  | 0, x1, x2 => (x1)
  | n + 1, x1, x2 => (if (σ 13 5) ≤ x2 then x1 else (if (f_X3_canGo σ x2) = 0 then L_X3_leastThatCanGo_4 σ n x1 (x2 + 1) else (if x1 = (-1) then L_X3_leastThatCanGo_4 σ n x2 (x2 + 1) else (if (σ (439 + x1.toNat) 3) ≤ (σ (439 + x2.toNat) 3) then L_X3_leastThatCanGo_4 σ n x1 (x2 + 1) else L_X3_leastThatCanGo_4 σ n x2 (x2 + 1)))))
set_option maxHeartbeats 4000000 in
set_option maxRecDepth 100000 in
theorem w_L_X3_leastThatCanGo_4 {p : Program} {l : Launch} {e : Env} {s : State} {m : MethodId} {args : Array Value} {below : List Frame} {meth : Method} {c₀ : Code} {D : va_G} {cy : Nat → ClassId} {ad : Nat → Nat} {Q : State → Prop} (X : MX p s m args meth c₀ cX3_leastThatCanGo 3 RX3 (some .int) wsX3_leastThatCanGo D cy) (σ : Sg) : ∀ (n : Nat) (x1 : Int) (x2 : Int) (hx1 : (-1 : Int) ≤ x1 ∧ x1 ≤ 39) (hx2 : (0 : Int) ≤ x2 ∧ x2 ≤ 40) (hmu : 40 - x2 < (n : Int)) (H : Heap) (locs : List Loc) (ls : Array Slot) (hI : HI D cy ad s σ H locs) (hl : lv_has ls 3 [(0, .ref (ad 13)), (1, .int (iI x1)), (2, .int (iI x2))])  (hk : ∀ (H1 : Heap) (locs1 : List Loc) (ls1 : Array Slot), (-1 ≤ (L_X3_leastThatCanGo_4 σ n x1 x2) ∧ (L_X3_leastThatCanGo_4 σ n x1 x2) ≤ 39) → HI D cy ad s σ H1 locs1 → lv_has ls1 3 [(1, .int (iI (L_X3_leastThatCanGo_4 σ n x1 x2)))] → W p l e { frames := 2, cells := 0, slots := 0, locals := 80 } s m args below meth c₀ H1 locs1 0 0 Q (F0 m 54 ls1 [])), W p l e { frames := 2, cells := 0, slots := 0, locals := 80 } s m args below meth c₀ H locs 0 0 Q (F0 m 4 ls []) := by
  obtain ⟨hx, hb, hr, hml, hown, hts, hlocks, hK, hN⟩ := id X
  intro n
  induction n with
  | zero =>
    intro x1 x2 hx1 hx2 hmu H locs ls hI hl hk
    exfalso
    have hF := hI.2.2.2
    omega
  | succ n ih =>
    intro x1 x2 hx1 hx2 hmu H locs ls hI hl hk
    have hF := hI.2.2.2
    refine lv_iload_n hx hb dX3_leastThatCanGo_4 rfl (lv_at hl 2 rfl) ?_
    refine lv_aload_n hx hb dX3_leastThatCanGo_5 rfl (lv_at hl 0 rfl) ?_
    refine g_get (C := RX3) (T := TX3) (N := 9) (ci := 3) (v := .int (iI (σ 13 5))) hx hb hts in_X3_leastThatCanGo_X3 hown hK hI 13 (by decide) (cel_13 cy ad _) rfl 5 (by decide) (by decide +kernel) rfl dX3_leastThatCanGo_6 ?_
    have b_1 := bd_13_5 hF
    refine g_icmp_ge (tgt := 54) hx hb dX3_leastThatCanGo_9 (by decide) (by omega) (by omega) (fun c_2 => ?_) (fun c_2 => ?_)
    · skip
      have e9 : L_X3_leastThatCanGo_4 σ (n + 1) x1 x2 = x1 := by rw [L_X3_leastThatCanGo_4, if_pos c_2]
      rw [e9] at hk
      exact hk _ _ _ (by first | (omega) | (dsimp only; omega)) hI (lv_sub hl [1] rfl)
    · skip
      refine lv_aload_n hx hb dX3_leastThatCanGo_12 rfl (lv_at hl 0 rfl) ?_
      refine lv_iload_n hx hb dX3_leastThatCanGo_13 rfl (lv_at hl 2 rfl) ?_
      refine g_V (As := [.int (iI x2)]) (rest := []) 13 (c_X3_canGo l D cy ad σ x2 (by omega)) hx hb hml hown hts hK hN hI hl.1 gX3_leastThatCanGo_X3_canGo rfl hd_X3_canGo rfl rfl ⟨Nat.le_of_ble_eq_true rfl, Nat.le_of_ble_eq_true rfl⟩ ⟨Nat.zero_le _, Nat.zero_le _⟩ (by decide) (cel_13 cy ad _) rfl rfl rfl rfl (Nat.le_of_ble_eq_true rfl) dX3_leastThatCanGo_14 (fun H locs hG_3 hI => ?_)
      refine g_if_eq (tgt := 48) hx hb dX3_leastThatCanGo_17 (by decide) (by omega) (fun c_4 => ?_) (fun c_4 => ?_)
      · skip
        refine lv_iinc (v := iI (x2 + 1)) (lv' := [(2, .int (iI (x2 + 1))), (0, .ref (ad 13)), (1, .int (iI x1))]) hx hb dX3_leastThatCanGo_48 hl (k := 2) rfl (iI_add _ _) (by decide) rfl (fun ls hl => ?_)
        refine lv_goto (tgt := 4) hx hb dX3_leastThatCanGo_51 (by decide) ?_
        have e9 : L_X3_leastThatCanGo_4 σ (n + 1) x1 x2 = L_X3_leastThatCanGo_4 σ n x1 (x2 + 1) := by rw [L_X3_leastThatCanGo_4, if_neg c_2, if_pos c_4]
        rw [e9] at hk
        exact ih x1 (x2 + 1)  (by omega) (by omega) (by omega) _ _ _ hI (lv_sub hl [1, 2, 0] rfl) hk
      · skip
        refine lv_iload_n hx hb dX3_leastThatCanGo_20 rfl (lv_at hl 1 rfl) ?_
        refine lv_iconst (v := iI (-1)) hx hb dX3_leastThatCanGo_21 rfl ?_
        refine g_icmp_eq (tgt := 46) hx hb dX3_leastThatCanGo_22 (by decide) (by omega) (by omega) (fun c_5 => ?_) (fun c_5 => ?_)
        · skip
          refine lv_iload_n hx hb dX3_leastThatCanGo_46 rfl (lv_at hl 2 rfl) ?_
          refine lv_istore_n (lv' := [(1, .int (iI x2)), (0, .ref (ad 13)), (2, .int (iI x2))]) hx hb dX3_leastThatCanGo_47 rfl hl (by decide) rfl (fun ls hl => ?_)
          refine lv_iinc (v := iI (x2 + 1)) (lv' := [(2, .int (iI (x2 + 1))), (1, .int (iI x2)), (0, .ref (ad 13))]) hx hb dX3_leastThatCanGo_48 hl (k := 2) rfl (iI_add _ _) (by decide) rfl (fun ls hl => ?_)
          refine lv_goto (tgt := 4) hx hb dX3_leastThatCanGo_51 (by decide) ?_
          have e9 : L_X3_leastThatCanGo_4 σ (n + 1) x1 x2 = L_X3_leastThatCanGo_4 σ n x2 (x2 + 1) := by rw [L_X3_leastThatCanGo_4, if_neg c_2, if_neg c_4, if_pos c_5]
          rw [e9] at hk
          exact ih x2 (x2 + 1)  (by omega) (by omega) (by omega) _ _ _ hI (lv_sub hl [2, 1, 0] rfl) hk
        · skip
          refine lv_aload_n hx hb dX3_leastThatCanGo_25 rfl (lv_at hl 0 rfl) ?_
          refine g_get (C := RX3) (T := TX3) (N := 9) (ci := 3) (v := .ref (ad 14)) hx hb hts in_X3_leastThatCanGo_X3 hown hK hI 13 (by decide) (cel_13 cy ad _) rfl 0 (by decide) (by decide +kernel) rfl dX3_leastThatCanGo_26 ?_
          refine lv_iload_n hx hb dX3_leastThatCanGo_29 rfl (lv_at hl 2 rfl) ?_
          refine g_aaldQ (f := fun i => 439 + i) hx hb hK hI 14 (by decide) (cel_14 cy ad) (by omega) (by decide) dX3_leastThatCanGo_30 ?_
          have hr_6 : isPd (439 + x2.toNat) := by omega
          refine g_getN (C := RX4) (T := TX4) (N := 12) (ci := 4) (v := .int (iI (σ (439 + x2.toNat) 3))) hx hb hts in_X3_leastThatCanGo_X4 hown hK hN hI (439 + x2.toNat) (by have q := hr_6; omega) (cel_Pd cy ad hr_6 _) rfl 3 (by decide) (by decide +kernel) rfl dX3_leastThatCanGo_31 ?_
          have b_7 := bd_Pd_3 hF hr_6
          refine lv_aload_n hx hb dX3_leastThatCanGo_34 rfl (lv_at hl 0 rfl) ?_
          refine g_get (C := RX3) (T := TX3) (N := 9) (ci := 3) (v := .ref (ad 14)) hx hb hts in_X3_leastThatCanGo_X3 hown hK hI 13 (by decide) (cel_13 cy ad _) rfl 0 (by decide) (by decide +kernel) rfl dX3_leastThatCanGo_35 ?_
          refine lv_iload_n hx hb dX3_leastThatCanGo_38 rfl (lv_at hl 1 rfl) ?_
          refine g_aaldQ (f := fun i => 439 + i) hx hb hK hI 14 (by decide) (cel_14 cy ad) (by omega) (by decide) dX3_leastThatCanGo_39 ?_
          have hr_8 : isPd (439 + x1.toNat) := by omega
          refine g_getN (C := RX4) (T := TX4) (N := 12) (ci := 4) (v := .int (iI (σ (439 + x1.toNat) 3))) hx hb hts in_X3_leastThatCanGo_X4 hown hK hN hI (439 + x1.toNat) (by have q := hr_8; omega) (cel_Pd cy ad hr_8 _) rfl 3 (by decide) (by decide +kernel) rfl dX3_leastThatCanGo_40 ?_
          have b_9 := bd_Pd_3 hF hr_8
          refine g_icmp_ge (tgt := 48) hx hb dX3_leastThatCanGo_43 (by decide) (by omega) (by omega) (fun c_10 => ?_) (fun c_10 => ?_)
          · skip
            refine lv_iinc (v := iI (x2 + 1)) (lv' := [(2, .int (iI (x2 + 1))), (0, .ref (ad 13)), (1, .int (iI x1))]) hx hb dX3_leastThatCanGo_48 hl (k := 2) rfl (iI_add _ _) (by decide) rfl (fun ls hl => ?_)
            refine lv_goto (tgt := 4) hx hb dX3_leastThatCanGo_51 (by decide) ?_
            have e9 : L_X3_leastThatCanGo_4 σ (n + 1) x1 x2 = L_X3_leastThatCanGo_4 σ n x1 (x2 + 1) := by rw [L_X3_leastThatCanGo_4, if_neg c_2, if_neg c_4, if_neg c_5, if_pos c_10]
            rw [e9] at hk
            exact ih x1 (x2 + 1)  (by omega) (by omega) (by omega) _ _ _ hI (lv_sub hl [1, 2, 0] rfl) hk
          · skip
            refine lv_iload_n hx hb dX3_leastThatCanGo_46 rfl (lv_at hl 2 rfl) ?_
            refine lv_istore_n (lv' := [(1, .int (iI x2)), (0, .ref (ad 13)), (2, .int (iI x2))]) hx hb dX3_leastThatCanGo_47 rfl hl (by decide) rfl (fun ls hl => ?_)
            refine lv_iinc (v := iI (x2 + 1)) (lv' := [(2, .int (iI (x2 + 1))), (1, .int (iI x2)), (0, .ref (ad 13))]) hx hb dX3_leastThatCanGo_48 hl (k := 2) rfl (iI_add _ _) (by decide) rfl (fun ls hl => ?_)
            refine lv_goto (tgt := 4) hx hb dX3_leastThatCanGo_51 (by decide) ?_
            have e9 : L_X3_leastThatCanGo_4 σ (n + 1) x1 x2 = L_X3_leastThatCanGo_4 σ n x2 (x2 + 1) := by rw [L_X3_leastThatCanGo_4, if_neg c_2, if_neg c_4, if_neg c_5, if_neg c_10]
            rw [e9] at hk
            exact ih x2 (x2 + 1)  (by omega) (by omega) (by omega) _ _ _ hI (lv_sub hl [2, 1, 0] rfl) hk
def f_X3_leastThatCanGo (σ : Sg) : Int := (L_X3_leastThatCanGo_4 σ 41 (-1) 0)
theorem hd_X3_leastThatCanGo : yX3_leastThatCanGo.cls = RX3 ∧ yX3_leastThatCanGo.cls ≠ "java/lang/invoke/MethodHandle" ∧ yX3_leastThatCanGo.cls ≠ "java/lang/invoke/VarHandle" ∧ (parseMethodDescriptor yX3_leastThatCanGo.desc).map (fun d => d.parameters.length) = some 0 := by decide +kernel
set_option maxHeartbeats 4000000 in
set_option maxRecDepth 100000 in
theorem c_X3_leastThatCanGo (l : Launch) (D : va_G) (cy : Nat → ClassId) (ad : Nat → Nat) (σ : Sg) : CM l D cy ad yX3_leastThatCanGo wsX3_leastThatCanGo { frames := 2, cells := 0, slots := 0, locals := 80 } [.ref (ad 13)] σ (some (.int (iI (f_X3_leastThatCanGo σ)))) σ (-1 ≤ (f_X3_leastThatCanGo σ) ∧ (f_X3_leastThatCanGo σ) ≤ 39) := by
  refine CM.of (cc := cX3_leastThatCanGo) (maxL := 3) (ret := (some .int)) (by decide) rfl (Nat.le_of_ble_eq_true rfl) ?_
  intro p e s m args below meth c₀ ls X hI hl
  have hl : lv_has ls 3 [(0, .ref (ad 13))] := hl
  obtain ⟨hx, hb, hr, hml, hown, hts, hlocks, hK, hN⟩ := id X
  have hF := hI.2.2.2
  refine lv_iconst (v := iI (-1)) hx hb dX3_leastThatCanGo_0 rfl ?_
  refine lv_istore_n (lv' := [(1, .int (iI (-1))), (0, .ref (ad 13))]) hx hb dX3_leastThatCanGo_1 rfl hl (by decide) rfl (fun ls hl => ?_)
  refine lv_iconst (v := iI 0) hx hb dX3_leastThatCanGo_2 rfl ?_
  refine lv_istore_n (lv' := [(2, .int (iI 0)), (1, .int (iI (-1))), (0, .ref (ad 13))]) hx hb dX3_leastThatCanGo_3 rfl hl (by decide) rfl (fun ls hl => ?_)
  refine w_L_X3_leastThatCanGo_4 X σ   41 (-1) 0  (by omega) (by omega) (by omega) _ _ _ hI (lv_sub hl [2, 1, 0] rfl) (fun H locs ls hpo_12 hI hl => ?_)
  refine lv_iload_n hx hb dX3_leastThatCanGo_54 rfl (lv_at hl 0 rfl) ?_
  have e9 : f_X3_leastThatCanGo σ = (L_X3_leastThatCanGo_4 σ 41 (-1) 0) := by rw [f_X3_leastThatCanGo]
  exact g_iret (z := (L_X3_leastThatCanGo_4 σ 41 (-1) 0)) hx hb hr hK hN hlocks hI e9.symm rfl (by rw [e9] <;> first | (omega) | (dsimp only; omega)) dX3_leastThatCanGo_55
theorem in_X3_leastToSpare_X3 : ∀ w ∈ u_ws RX3 TX3 9, w ∈ wsX3_leastToSpare := by decide +kernel
theorem in_X3_leastToSpare_X4 : ∀ w ∈ u_ws RX4 TX4 12, w ∈ wsX3_leastToSpare := by decide +kernel
def L_X3_leastToSpare_4 (σ : Sg) : Nat → Int → Int → Int
  | 0, x1, x2 => (x1)
  | n + 1, x1, x2 => (if (σ 13 5) ≤ x2 then x1 else (if (f_X4_isLeft σ (439 + x2.toNat)) = 0 then L_X3_leastToSpare_4 σ n x1 (x2 + 1) else (if (σ (439 + x2.toNat) 10) = 0 then (if x1 = (-1) then L_X3_leastToSpare_4 σ n x2 (x2 + 1) else (if (σ (439 + x1.toNat) 3) ≤ (σ (439 + x2.toNat) 3) then L_X3_leastToSpare_4 σ n x1 (x2 + 1) else L_X3_leastToSpare_4 σ n x2 (x2 + 1))) else L_X3_leastToSpare_4 σ n x1 (x2 + 1))))
set_option maxHeartbeats 4000000 in
set_option maxRecDepth 100000 in
theorem w_L_X3_leastToSpare_4 {p : Program} {l : Launch} {e : Env} {s : State} {m : MethodId} {args : Array Value} {below : List Frame} {meth : Method} {c₀ : Code} {D : va_G} {cy : Nat → ClassId} {ad : Nat → Nat} {Q : State → Prop} (X : MX p s m args meth c₀ cX3_leastToSpare 4 RX3 (some .int) wsX3_leastToSpare D cy) (σ : Sg) : ∀ (n : Nat) (x1 : Int) (x2 : Int) (hx1 : (-1 : Int) ≤ x1 ∧ x1 ≤ 39) (hx2 : (0 : Int) ≤ x2 ∧ x2 ≤ 40) (hmu : 40 - x2 < (n : Int)) (H : Heap) (locs : List Loc) (ls : Array Slot) (hI : HI D cy ad s σ H locs) (hl : lv_has ls 4 [(0, .ref (ad 13)), (1, .int (iI x1)), (2, .int (iI x2))])  (hk : ∀ (H1 : Heap) (locs1 : List Loc) (ls1 : Array Slot), (-1 ≤ (L_X3_leastToSpare_4 σ n x1 x2) ∧ (L_X3_leastToSpare_4 σ n x1 x2) ≤ 39) → HI D cy ad s σ H1 locs1 → lv_has ls1 4 [(1, .int (iI (L_X3_leastToSpare_4 σ n x1 x2)))] → W p l e { frames := 1, cells := 0, slots := 0, locals := 40 } s m args below meth c₀ H1 locs1 0 0 Q (F0 m 80 ls1 [])), W p l e { frames := 1, cells := 0, slots := 0, locals := 40 } s m args below meth c₀ H locs 0 0 Q (F0 m 4 ls []) := by
  obtain ⟨hx, hb, hr, hml, hown, hts, hlocks, hK, hN⟩ := id X
  intro n
  induction n with
  | zero =>
    intro x1 x2 hx1 hx2 hmu H locs ls hI hl hk
    exfalso
    have hF := hI.2.2.2
    omega
  | succ n ih =>
    intro x1 x2 hx1 hx2 hmu H locs ls hI hl hk
    have hF := hI.2.2.2
    refine lv_iload_n hx hb dX3_leastToSpare_4 rfl (lv_at hl 2 rfl) ?_
    refine lv_aload_n hx hb dX3_leastToSpare_5 rfl (lv_at hl 0 rfl) ?_
    refine g_get (C := RX3) (T := TX3) (N := 9) (ci := 3) (v := .int (iI (σ 13 5))) hx hb hts in_X3_leastToSpare_X3 hown hK hI 13 (by decide) (cel_13 cy ad _) rfl 5 (by decide) (by decide +kernel) rfl dX3_leastToSpare_6 ?_
    have b_1 := bd_13_5 hF
    refine g_icmp_ge (tgt := 80) hx hb dX3_leastToSpare_9 (by decide) (by omega) (by omega) (fun c_2 => ?_) (fun c_2 => ?_)
    · skip
      have e9 : L_X3_leastToSpare_4 σ (n + 1) x1 x2 = x1 := by rw [L_X3_leastToSpare_4, if_pos c_2]
      rw [e9] at hk
      exact hk _ _ _ (by first | (omega) | (dsimp only; omega)) hI (lv_sub hl [1] rfl)
    · skip
      refine lv_aload_n hx hb dX3_leastToSpare_12 rfl (lv_at hl 0 rfl) ?_
      refine g_get (C := RX3) (T := TX3) (N := 9) (ci := 3) (v := .ref (ad 14)) hx hb hts in_X3_leastToSpare_X3 hown hK hI 13 (by decide) (cel_13 cy ad _) rfl 0 (by decide) (by decide +kernel) rfl dX3_leastToSpare_13 ?_
      refine lv_iload_n hx hb dX3_leastToSpare_16 rfl (lv_at hl 2 rfl) ?_
      refine g_aaldQ (f := fun i => 439 + i) hx hb hK hI 14 (by decide) (cel_14 cy ad) (by omega) (by decide) dX3_leastToSpare_17 ?_
      have hr_3 : isPd (439 + x2.toNat) := by omega
      refine g_V (As := []) (rest := []) (439 + x2.toNat) (c_X4_isLeft l D cy ad σ (439 + x2.toNat) hr_3) hx hb hml hown hts hK hN hI hl.1 gX3_leastToSpare_X4_isLeft rfl hd_X4_isLeft rfl rfl ⟨Nat.le_of_ble_eq_true rfl, Nat.le_of_ble_eq_true rfl⟩ ⟨Nat.zero_le _, Nat.zero_le _⟩ (by have q := hr_3; omega) (cel_Pd cy ad hr_3 _) rfl rfl rfl rfl (Nat.le_of_ble_eq_true rfl) dX3_leastToSpare_18 (fun H locs hG_4 hI => ?_)
      refine g_if_eq (tgt := 40) hx hb dX3_leastToSpare_21 (by decide) (by omega) (fun c_5 => ?_) (fun c_5 => ?_)
      · skip
        refine lv_iconst (v := iI 0) hx hb dX3_leastToSpare_40 rfl ?_
        refine lv_istore_n (lv' := [(3, .int (iI 0)), (0, .ref (ad 13)), (1, .int (iI x1)), (2, .int (iI x2))]) hx hb dX3_leastToSpare_41 rfl hl (by decide) rfl (fun ls hl => ?_)
        refine lv_iload_n hx hb dX3_leastToSpare_42 rfl (lv_at hl 0 rfl) ?_
        refine g_if_eq (tgt := 74) hx hb dX3_leastToSpare_43 (by decide) (by omega) (fun c_6 => ?_) (fun c_6 => ?_)
        · skip
          refine lv_iinc (v := iI (x2 + 1)) (lv' := [(2, .int (iI (x2 + 1))), (3, .int (iI 0)), (0, .ref (ad 13)), (1, .int (iI x1))]) hx hb dX3_leastToSpare_74 hl (k := 3) rfl (iI_add _ _) (by decide) rfl (fun ls hl => ?_)
          refine lv_goto (tgt := 4) hx hb dX3_leastToSpare_77 (by decide) ?_
          have e9 : L_X3_leastToSpare_4 σ (n + 1) x1 x2 = L_X3_leastToSpare_4 σ n x1 (x2 + 1) := by rw [L_X3_leastToSpare_4, if_neg c_2, if_pos c_5]
          rw [e9] at hk
          exact ih x1 (x2 + 1)  (by omega) (by omega) (by omega) _ _ _ hI (lv_sub hl [2, 3, 0] rfl) hk
        · exact absurd (by decide) c_6
      · skip
        refine lv_aload_n hx hb dX3_leastToSpare_24 rfl (lv_at hl 0 rfl) ?_
        refine g_get (C := RX3) (T := TX3) (N := 9) (ci := 3) (v := .ref (ad 14)) hx hb hts in_X3_leastToSpare_X3 hown hK hI 13 (by decide) (cel_13 cy ad _) rfl 0 (by decide) (by decide +kernel) rfl dX3_leastToSpare_25 ?_
        refine lv_iload_n hx hb dX3_leastToSpare_28 rfl (lv_at hl 2 rfl) ?_
        refine g_aaldQ (f := fun i => 439 + i) hx hb hK hI 14 (by decide) (cel_14 cy ad) (by omega) (by decide) dX3_leastToSpare_29 ?_
        have hr_7 : isPd (439 + x2.toNat) := by omega
        refine g_getN (C := RX4) (T := TX4) (N := 12) (ci := 4) (v := .int (iI (σ (439 + x2.toNat) 10))) hx hb hts in_X3_leastToSpare_X4 hown hK hN hI (439 + x2.toNat) (by have q := hr_7; omega) (cel_Pd cy ad hr_7 _) rfl 10 (by decide) (by decide +kernel) rfl dX3_leastToSpare_30 ?_
        have b_8 := bd_Pd_10 hF hr_7
        refine g_if_ne (tgt := 40) hx hb dX3_leastToSpare_33 (by decide) (by omega) (fun c_9 => ?_) (fun c_9 => ?_)
        · skip
          refine lv_iconst (v := iI 0) hx hb dX3_leastToSpare_40 rfl ?_
          refine lv_istore_n (lv' := [(3, .int (iI 0)), (0, .ref (ad 13)), (1, .int (iI x1)), (2, .int (iI x2))]) hx hb dX3_leastToSpare_41 rfl hl (by decide) rfl (fun ls hl => ?_)
          refine lv_iload_n hx hb dX3_leastToSpare_42 rfl (lv_at hl 0 rfl) ?_
          refine g_if_eq (tgt := 74) hx hb dX3_leastToSpare_43 (by decide) (by omega) (fun c_10 => ?_) (fun c_10 => ?_)
          · skip
            refine lv_iinc (v := iI (x2 + 1)) (lv' := [(2, .int (iI (x2 + 1))), (3, .int (iI 0)), (0, .ref (ad 13)), (1, .int (iI x1))]) hx hb dX3_leastToSpare_74 hl (k := 3) rfl (iI_add _ _) (by decide) rfl (fun ls hl => ?_)
            refine lv_goto (tgt := 4) hx hb dX3_leastToSpare_77 (by decide) ?_
            have e9 : L_X3_leastToSpare_4 σ (n + 1) x1 x2 = L_X3_leastToSpare_4 σ n x1 (x2 + 1) := by rw [L_X3_leastToSpare_4, if_neg c_2, if_neg c_5, if_neg c_9]
            rw [e9] at hk
            exact ih x1 (x2 + 1)  (by omega) (by omega) (by omega) _ _ _ hI (lv_sub hl [2, 3, 0] rfl) hk
          · exact absurd (by decide) c_10
        · skip
          refine lv_iconst (v := iI 1) hx hb dX3_leastToSpare_36 rfl ?_
          refine lv_goto (tgt := 41) hx hb dX3_leastToSpare_37 (by decide) ?_
          refine lv_istore_n (lv' := [(3, .int (iI 1)), (0, .ref (ad 13)), (1, .int (iI x1)), (2, .int (iI x2))]) hx hb dX3_leastToSpare_41 rfl hl (by decide) rfl (fun ls hl => ?_)
          refine lv_iload_n hx hb dX3_leastToSpare_42 rfl (lv_at hl 0 rfl) ?_
          refine g_if_eq (tgt := 74) hx hb dX3_leastToSpare_43 (by decide) (by omega) (fun c_11 => ?_) (fun c_11 => ?_)
          · exact absurd c_11 (by decide)
          · skip
            refine lv_iload_n hx hb dX3_leastToSpare_46 rfl (lv_at hl 2 rfl) ?_
            refine lv_iconst (v := iI (-1)) hx hb dX3_leastToSpare_47 rfl ?_
            refine g_icmp_eq (tgt := 72) hx hb dX3_leastToSpare_48 (by decide) (by omega) (by omega) (fun c_12 => ?_) (fun c_12 => ?_)
            · skip
              refine lv_iload_n hx hb dX3_leastToSpare_72 rfl (lv_at hl 3 rfl) ?_
              refine lv_istore_n (lv' := [(1, .int (iI x2)), (3, .int (iI 1)), (0, .ref (ad 13)), (2, .int (iI x2))]) hx hb dX3_leastToSpare_73 rfl hl (by decide) rfl (fun ls hl => ?_)
              refine lv_iinc (v := iI (x2 + 1)) (lv' := [(2, .int (iI (x2 + 1))), (1, .int (iI x2)), (3, .int (iI 1)), (0, .ref (ad 13))]) hx hb dX3_leastToSpare_74 hl (k := 3) rfl (iI_add _ _) (by decide) rfl (fun ls hl => ?_)
              refine lv_goto (tgt := 4) hx hb dX3_leastToSpare_77 (by decide) ?_
              have e9 : L_X3_leastToSpare_4 σ (n + 1) x1 x2 = L_X3_leastToSpare_4 σ n x2 (x2 + 1) := by rw [L_X3_leastToSpare_4, if_neg c_2, if_neg c_5, if_pos c_9, if_pos c_12]
              rw [e9] at hk
              exact ih x2 (x2 + 1)  (by omega) (by omega) (by omega) _ _ _ hI (lv_sub hl [3, 1, 0] rfl) hk
            · skip
              refine lv_aload_n hx hb dX3_leastToSpare_51 rfl (lv_at hl 1 rfl) ?_
              refine g_get (C := RX3) (T := TX3) (N := 9) (ci := 3) (v := .ref (ad 14)) hx hb hts in_X3_leastToSpare_X3 hown hK hI 13 (by decide) (cel_13 cy ad _) rfl 0 (by decide) (by decide +kernel) rfl dX3_leastToSpare_52 ?_
              refine lv_iload_n hx hb dX3_leastToSpare_55 rfl (lv_at hl 3 rfl) ?_
              refine g_aaldQ (f := fun i => 439 + i) hx hb hK hI 14 (by decide) (cel_14 cy ad) (by omega) (by decide) dX3_leastToSpare_56 ?_
              have hr_13 : isPd (439 + x2.toNat) := by omega
              refine g_getN (C := RX4) (T := TX4) (N := 12) (ci := 4) (v := .int (iI (σ (439 + x2.toNat) 3))) hx hb hts in_X3_leastToSpare_X4 hown hK hN hI (439 + x2.toNat) (by have q := hr_13; omega) (cel_Pd cy ad hr_13 _) rfl 3 (by decide) (by decide +kernel) rfl dX3_leastToSpare_57 ?_
              have b_14 := bd_Pd_3 hF hr_13
              refine lv_aload_n hx hb dX3_leastToSpare_60 rfl (lv_at hl 1 rfl) ?_
              refine g_get (C := RX3) (T := TX3) (N := 9) (ci := 3) (v := .ref (ad 14)) hx hb hts in_X3_leastToSpare_X3 hown hK hI 13 (by decide) (cel_13 cy ad _) rfl 0 (by decide) (by decide +kernel) rfl dX3_leastToSpare_61 ?_
              refine lv_iload_n hx hb dX3_leastToSpare_64 rfl (lv_at hl 2 rfl) ?_
              refine g_aaldQ (f := fun i => 439 + i) hx hb hK hI 14 (by decide) (cel_14 cy ad) (by omega) (by decide) dX3_leastToSpare_65 ?_
              have hr_15 : isPd (439 + x1.toNat) := by omega
              refine g_getN (C := RX4) (T := TX4) (N := 12) (ci := 4) (v := .int (iI (σ (439 + x1.toNat) 3))) hx hb hts in_X3_leastToSpare_X4 hown hK hN hI (439 + x1.toNat) (by have q := hr_15; omega) (cel_Pd cy ad hr_15 _) rfl 3 (by decide) (by decide +kernel) rfl dX3_leastToSpare_66 ?_
              have b_16 := bd_Pd_3 hF hr_15
              refine g_icmp_ge (tgt := 74) hx hb dX3_leastToSpare_69 (by decide) (by omega) (by omega) (fun c_17 => ?_) (fun c_17 => ?_)
              · skip
                refine lv_iinc (v := iI (x2 + 1)) (lv' := [(2, .int (iI (x2 + 1))), (3, .int (iI 1)), (0, .ref (ad 13)), (1, .int (iI x1))]) hx hb dX3_leastToSpare_74 hl (k := 3) rfl (iI_add _ _) (by decide) rfl (fun ls hl => ?_)
                refine lv_goto (tgt := 4) hx hb dX3_leastToSpare_77 (by decide) ?_
                have e9 : L_X3_leastToSpare_4 σ (n + 1) x1 x2 = L_X3_leastToSpare_4 σ n x1 (x2 + 1) := by rw [L_X3_leastToSpare_4, if_neg c_2, if_neg c_5, if_pos c_9, if_neg c_12, if_pos c_17]
                rw [e9] at hk
                exact ih x1 (x2 + 1)  (by omega) (by omega) (by omega) _ _ _ hI (lv_sub hl [2, 3, 0] rfl) hk
              · skip
                refine lv_iload_n hx hb dX3_leastToSpare_72 rfl (lv_at hl 3 rfl) ?_
                refine lv_istore_n (lv' := [(1, .int (iI x2)), (3, .int (iI 1)), (0, .ref (ad 13)), (2, .int (iI x2))]) hx hb dX3_leastToSpare_73 rfl hl (by decide) rfl (fun ls hl => ?_)
                refine lv_iinc (v := iI (x2 + 1)) (lv' := [(2, .int (iI (x2 + 1))), (1, .int (iI x2)), (3, .int (iI 1)), (0, .ref (ad 13))]) hx hb dX3_leastToSpare_74 hl (k := 3) rfl (iI_add _ _) (by decide) rfl (fun ls hl => ?_)
                refine lv_goto (tgt := 4) hx hb dX3_leastToSpare_77 (by decide) ?_
                have e9 : L_X3_leastToSpare_4 σ (n + 1) x1 x2 = L_X3_leastToSpare_4 σ n x2 (x2 + 1) := by rw [L_X3_leastToSpare_4, if_neg c_2, if_neg c_5, if_pos c_9, if_neg c_12, if_neg c_17]
                rw [e9] at hk
                exact ih x2 (x2 + 1)  (by omega) (by omega) (by omega) _ _ _ hI (lv_sub hl [3, 1, 0] rfl) hk
def f_X3_leastToSpare (σ : Sg) : Int := (L_X3_leastToSpare_4 σ 41 (-1) 0)
theorem hd_X3_leastToSpare : yX3_leastToSpare.cls = RX3 ∧ yX3_leastToSpare.cls ≠ "java/lang/invoke/MethodHandle" ∧ yX3_leastToSpare.cls ≠ "java/lang/invoke/VarHandle" ∧ (parseMethodDescriptor yX3_leastToSpare.desc).map (fun d => d.parameters.length) = some 0 := by decide +kernel
set_option maxHeartbeats 4000000 in
set_option maxRecDepth 100000 in
theorem c_X3_leastToSpare (l : Launch) (D : va_G) (cy : Nat → ClassId) (ad : Nat → Nat) (σ : Sg) : CM l D cy ad yX3_leastToSpare wsX3_leastToSpare { frames := 1, cells := 0, slots := 0, locals := 40 } [.ref (ad 13)] σ (some (.int (iI (f_X3_leastToSpare σ)))) σ (-1 ≤ (f_X3_leastToSpare σ) ∧ (f_X3_leastToSpare σ) ≤ 39) := by
  refine CM.of (cc := cX3_leastToSpare) (maxL := 4) (ret := (some .int)) (by decide) rfl (Nat.le_of_ble_eq_true rfl) ?_
  intro p e s m args below meth c₀ ls X hI hl
  have hl : lv_has ls 4 [(0, .ref (ad 13))] := hl
  obtain ⟨hx, hb, hr, hml, hown, hts, hlocks, hK, hN⟩ := id X
  have hF := hI.2.2.2
  refine lv_iconst (v := iI (-1)) hx hb dX3_leastToSpare_0 rfl ?_
  refine lv_istore_n (lv' := [(1, .int (iI (-1))), (0, .ref (ad 13))]) hx hb dX3_leastToSpare_1 rfl hl (by decide) rfl (fun ls hl => ?_)
  refine lv_iconst (v := iI 0) hx hb dX3_leastToSpare_2 rfl ?_
  refine lv_istore_n (lv' := [(2, .int (iI 0)), (1, .int (iI (-1))), (0, .ref (ad 13))]) hx hb dX3_leastToSpare_3 rfl hl (by decide) rfl (fun ls hl => ?_)
  refine w_L_X3_leastToSpare_4 X σ   41 (-1) 0  (by omega) (by omega) (by omega) _ _ _ hI (lv_sub hl [2, 1, 0] rfl) (fun H locs ls hpo_19 hI hl => ?_)
  refine lv_iload_n hx hb dX3_leastToSpare_80 rfl (lv_at hl 0 rfl) ?_
  have e9 : f_X3_leastToSpare σ = (L_X3_leastToSpare_4 σ 41 (-1) 0) := by rw [f_X3_leastToSpare]
  exact g_iret (z := (L_X3_leastToSpare_4 σ 41 (-1) 0)) hx hb hr hK hN hlocks hI e9.symm rfl (by rw [e9] <;> first | (omega) | (dsimp only; omega)) dX3_leastToSpare_81
theorem in_X3_findSteps_X3 : ∀ w ∈ u_ws RX3 TX3 9, w ∈ wsX3_findSteps := by decide +kernel
theorem in_X3_findSteps_X4 : ∀ w ∈ u_ws RX4 TX4 12, w ∈ wsX3_findSteps := by decide +kernel
def L_X3_findSteps_10 : Nat → Int → Sg → Sg
  | 0, x1, σ => σ
  | n + 1, x1, σ => (if 80 ≤ x1 then σ else (if (f_X3_leastThatCanGo σ) = (-1) then (if (f_X3_leastToSpare σ) = (-1) then σ else L_X3_findSteps_10 n (x1 + 1) (up2 (f_X3_addStep σ (f_X3_leastToSpare σ) 1) (439 + ((f_X3_leastToSpare σ).toNat)) 10 1)) else L_X3_findSteps_10 n (x1 + 1) (up2 (f_X3_addStep σ (f_X3_leastThatCanGo σ) 0) (439 + ((f_X3_leastThatCanGo σ).toNat)) 11 1)))
set_option maxHeartbeats 4000000 in
set_option maxRecDepth 100000 in
theorem w_L_X3_findSteps_10 {p : Program} {l : Launch} {e : Env} {s : State} {m : MethodId} {args : Array Value} {below : List Frame} {meth : Method} {c₀ : Code} {D : va_G} {cy : Nat → ClassId} {ad : Nat → Nat} (X : MX p s m args meth c₀ cX3_findSteps 3 RX3 none wsX3_findSteps D cy) : ∀ (n : Nat) (x1 : Int) (σ : Sg) (hx1 : (0 : Int) ≤ x1 ∧ x1 ≤ 80) (hp0 : σ 13 7 ≤ x1) (hmu : 80 - x1 < (n : Int)) (H : Heap) (locs : List Loc) (ls : Array Slot) (hI : HI D cy ad s σ H locs) (hl : lv_has ls 3 [(0, .ref (ad 13)), (1, .int (iI x1))]), W p l e { frames := 3, cells := 0, slots := 0, locals := 120 } s m args below meth c₀ H locs 0 0 (MQ below (CQ D cy ad none (L_X3_findSteps_10 n x1 σ) (True) (AA ad s.heap.size)) args s 0 0 (AA ad s.heap.size)) (F0 m 10 ls []) := by
  obtain ⟨hx, hb, hr, hml, hown, hts, hlocks, hK, hN⟩ := id X
  intro n
  induction n with
  | zero =>
    intro x1 σ hx1 hp0 hmu H locs ls hI hl
    exfalso
    have hF := hI.2.2.2
    omega
  | succ n ih =>
    intro x1 σ hx1 hp0 hmu H locs ls hI hl
    have hF := hI.2.2.2
    refine lv_iload_n hx hb dX3_findSteps_10 rfl (lv_at hl 1 rfl) ?_
    refine lv_bipush (v := iI 80) hx hb dX3_findSteps_11 (iI_bip (by decide)) ?_
    refine g_icmp_ge (tgt := 78) hx hb dX3_findSteps_13 (by decide) (by omega) (by omega) (fun c_3 => ?_) (fun c_3 => ?_)
    · skip
      have e9 : L_X3_findSteps_10 (n + 1) x1 σ = σ := by rw [L_X3_findSteps_10, if_pos c_3]
      exact g_vret hx hb hr hK hN hlocks hI (by rw [e9]) trivial dX3_findSteps_78
    · skip
      refine lv_aload_n hx hb dX3_findSteps_16 rfl (lv_at hl 0 rfl) ?_
      refine g_V (As := []) (rest := []) 13 (c_X3_leastThatCanGo l D cy ad σ ) hx hb hml hown hts hK hN hI hl.1 gX3_findSteps_X3_leastThatCanGo rfl hd_X3_leastThatCanGo rfl rfl ⟨Nat.le_of_ble_eq_true rfl, Nat.le_of_ble_eq_true rfl⟩ ⟨Nat.zero_le _, Nat.zero_le _⟩ (by decide) (cel_13 cy ad _) rfl rfl rfl rfl (Nat.le_of_ble_eq_true rfl) dX3_findSteps_17 (fun H locs hG_4 hI => ?_)
      refine lv_istore_n (lv' := [(2, .int (iI (f_X3_leastThatCanGo σ))), (0, .ref (ad 13)), (1, .int (iI x1))]) hx hb dX3_findSteps_20 rfl hl (by decide) rfl (fun ls hl => ?_)
      refine lv_iload_n hx hb dX3_findSteps_21 rfl (lv_at hl 0 rfl) ?_
      refine lv_iconst (v := iI (-1)) hx hb dX3_findSteps_22 rfl ?_
      refine g_icmp_eq (tgt := 45) hx hb dX3_findSteps_23 (by decide) (by omega) (by omega) (fun c_5 => ?_) (fun c_5 => ?_)
      · skip
        refine lv_aload_n hx hb dX3_findSteps_45 rfl (lv_at hl 1 rfl) ?_
        refine g_V (As := []) (rest := []) 13 (c_X3_leastToSpare l D cy ad σ ) hx hb hml hown hts hK hN hI hl.1 gX3_findSteps_X3_leastToSpare rfl hd_X3_leastToSpare rfl rfl ⟨Nat.le_of_ble_eq_true rfl, Nat.le_of_ble_eq_true rfl⟩ ⟨Nat.zero_le _, Nat.zero_le _⟩ (by decide) (cel_13 cy ad _) rfl rfl rfl rfl (Nat.le_of_ble_eq_true rfl) dX3_findSteps_46 (fun H locs hG_6 hI => ?_)
        refine lv_istore_n (lv' := [(2, .int (iI (f_X3_leastToSpare σ))), (0, .ref (ad 13)), (1, .int (iI x1))]) hx hb dX3_findSteps_49 rfl hl (by decide) rfl (fun ls hl => ?_)
        refine lv_iload_n hx hb dX3_findSteps_50 rfl (lv_at hl 0 rfl) ?_
        refine lv_iconst (v := iI (-1)) hx hb dX3_findSteps_51 rfl ?_
        refine g_icmp_ne (tgt := 56) hx hb dX3_findSteps_52 (by decide) (by omega) (by omega) (fun c_7 => ?_) (fun c_7 => ?_)
        · skip
          refine lv_aload_n hx hb dX3_findSteps_56 rfl (lv_at hl 1 rfl) ?_
          refine lv_iload_n hx hb dX3_findSteps_57 rfl (lv_at hl 0 rfl) ?_
          refine lv_iconst (v := iI 1) hx hb dX3_findSteps_58 rfl ?_
          refine g_V (As := [.int (iI (f_X3_leastToSpare σ)), .int (iI 1)]) (rest := []) 13 (c_X3_addStep l D cy ad σ (f_X3_leastToSpare σ) (by omega) 1 (by omega) (by omega)) hx hb hml hown hts hK hN hI hl.1 gX3_findSteps_X3_addStep rfl hd_X3_addStep rfl rfl ⟨Nat.le_of_ble_eq_true rfl, Nat.le_of_ble_eq_true rfl⟩ ⟨Nat.zero_le _, Nat.zero_le _⟩ (by decide) (cel_13 cy ad _) rfl rfl rfl rfl (Nat.le_of_ble_eq_true rfl) dX3_findSteps_59 (fun H locs hG_8 hI => ?_)
          have hF_9 := hI.2.2.2
          refine lv_aload_n hx hb dX3_findSteps_62 rfl (lv_at hl 1 rfl) ?_
          refine g_get (C := RX3) (T := TX3) (N := 9) (ci := 3) (v := .ref (ad 14)) hx hb hts in_X3_findSteps_X3 hown hK hI 13 (by decide) (cel_13 cy ad _) rfl 0 (by decide) (by decide +kernel) rfl dX3_findSteps_63 ?_
          refine lv_iload_n hx hb dX3_findSteps_66 rfl (lv_at hl 0 rfl) ?_
          refine g_aaldQ (f := fun i => 439 + i) hx hb hK hI 14 (by decide) (cel_14 cy ad) (by omega) (by decide) dX3_findSteps_67 ?_
          have hr_10 : isPd (439 + ((f_X3_leastToSpare σ).toNat)) := by omega
          refine lv_iconst (v := iI 1) hx hb dX3_findSteps_68 rfl ?_
          refine g_putN (C := RX4) (T := TX4) (N := 12) (ci := 4) (ty := .boolean) (z := 1) hx hb hts in_X3_findSteps_X4 tyX4 tyX4_ok nmX4 hown hK hN hI (439 + ((f_X3_leastToSpare σ).toNat)) (by have q := hr_10; omega) (cel_Pd cy ad hr_10) rfl 10 (by decide) (by decide +kernel) rfl (by decide +kernel) (iI_nz (by omega)) (iI_fz (by omega)) (Nat.le_of_ble_eq_true rfl) (by unfold fs_Pd; rw [up2_row]; rfl) (bw_Pd_10 hr_10 (by omega)) dX3_findSteps_69 (fun H locs hI => ?_)
          have hF_11 := hI.2.2.2
          refine lv_iinc (v := iI (x1 + 1)) (lv' := [(1, .int (iI (x1 + 1))), (2, .int (iI (f_X3_leastToSpare σ))), (0, .ref (ad 13))]) hx hb dX3_findSteps_72 hl (k := 2) rfl (iI_add _ _) (by decide) rfl (fun ls hl => ?_)
          refine lv_goto (tgt := 10) hx hb dX3_findSteps_75 (by decide) ?_
          have e9 : L_X3_findSteps_10 (n + 1) x1 σ = L_X3_findSteps_10 n (x1 + 1) (up2 (f_X3_addStep σ (f_X3_leastToSpare σ) 1) (439 + ((f_X3_leastToSpare σ).toNat)) 10 1) := by rw [L_X3_findSteps_10, if_neg c_3, if_pos c_5, if_neg c_7]
          rw [e9]
          exact ih (x1 + 1) (up2 (f_X3_addStep σ (f_X3_leastToSpare σ) 1) (439 + ((f_X3_leastToSpare σ).toNat)) 10 1) (by omega) (by first | omega | (rw [up2_cell _ _ _ (by omega)]; omega)) (by omega) _ _ _ hI (lv_sub hl [2, 0] rfl)
        · skip
          have e9 : L_X3_findSteps_10 (n + 1) x1 σ = σ := by rw [L_X3_findSteps_10, if_neg c_3, if_pos c_5, if_pos c_7]
          exact g_vret hx hb hr hK hN hlocks hI (by rw [e9]) trivial dX3_findSteps_55
      · skip
        refine lv_aload_n hx hb dX3_findSteps_26 rfl (lv_at hl 1 rfl) ?_
        refine lv_iload_n hx hb dX3_findSteps_27 rfl (lv_at hl 0 rfl) ?_
        refine lv_iconst (v := iI 0) hx hb dX3_findSteps_28 rfl ?_
        refine g_V (As := [.int (iI (f_X3_leastThatCanGo σ)), .int (iI 0)]) (rest := []) 13 (c_X3_addStep l D cy ad σ (f_X3_leastThatCanGo σ) (by omega) 0 (by omega) (by omega)) hx hb hml hown hts hK hN hI hl.1 gX3_findSteps_X3_addStep rfl hd_X3_addStep rfl rfl ⟨Nat.le_of_ble_eq_true rfl, Nat.le_of_ble_eq_true rfl⟩ ⟨Nat.zero_le _, Nat.zero_le _⟩ (by decide) (cel_13 cy ad _) rfl rfl rfl rfl (Nat.le_of_ble_eq_true rfl) dX3_findSteps_29 (fun H locs hG_12 hI => ?_)
        have hF_13 := hI.2.2.2
        refine lv_aload_n hx hb dX3_findSteps_32 rfl (lv_at hl 1 rfl) ?_
        refine g_get (C := RX3) (T := TX3) (N := 9) (ci := 3) (v := .ref (ad 14)) hx hb hts in_X3_findSteps_X3 hown hK hI 13 (by decide) (cel_13 cy ad _) rfl 0 (by decide) (by decide +kernel) rfl dX3_findSteps_33 ?_
        refine lv_iload_n hx hb dX3_findSteps_36 rfl (lv_at hl 0 rfl) ?_
        refine g_aaldQ (f := fun i => 439 + i) hx hb hK hI 14 (by decide) (cel_14 cy ad) (by omega) (by decide) dX3_findSteps_37 ?_
        have hr_14 : isPd (439 + ((f_X3_leastThatCanGo σ).toNat)) := by omega
        refine lv_iconst (v := iI 1) hx hb dX3_findSteps_38 rfl ?_
        refine g_putN (C := RX4) (T := TX4) (N := 12) (ci := 4) (ty := .boolean) (z := 1) hx hb hts in_X3_findSteps_X4 tyX4 tyX4_ok nmX4 hown hK hN hI (439 + ((f_X3_leastThatCanGo σ).toNat)) (by have q := hr_14; omega) (cel_Pd cy ad hr_14) rfl 11 (by decide) (by decide +kernel) rfl (by decide +kernel) (iI_nz (by omega)) (iI_fz (by omega)) (Nat.le_of_ble_eq_true rfl) (by unfold fs_Pd; rw [up2_row]; rfl) (bw_Pd_11 hr_14 (by omega)) dX3_findSteps_39 (fun H locs hI => ?_)
        have hF_15 := hI.2.2.2
        refine lv_goto (tgt := 72) hx hb dX3_findSteps_42 (by decide) ?_
        refine lv_iinc (v := iI (x1 + 1)) (lv' := [(1, .int (iI (x1 + 1))), (2, .int (iI (f_X3_leastThatCanGo σ))), (0, .ref (ad 13))]) hx hb dX3_findSteps_72 hl (k := 2) rfl (iI_add _ _) (by decide) rfl (fun ls hl => ?_)
        refine lv_goto (tgt := 10) hx hb dX3_findSteps_75 (by decide) ?_
        have e9 : L_X3_findSteps_10 (n + 1) x1 σ = L_X3_findSteps_10 n (x1 + 1) (up2 (f_X3_addStep σ (f_X3_leastThatCanGo σ) 0) (439 + ((f_X3_leastThatCanGo σ).toNat)) 11 1) := by rw [L_X3_findSteps_10, if_neg c_3, if_neg c_5]
        rw [e9]
        exact ih (x1 + 1) (up2 (f_X3_addStep σ (f_X3_leastThatCanGo σ) 0) (439 + ((f_X3_leastThatCanGo σ).toNat)) 11 1) (by omega) (by first | omega | (rw [up2_cell _ _ _ (by omega)]; omega)) (by omega) _ _ _ hI (lv_sub hl [2, 0] rfl)
def f_X3_findSteps (σ : Sg) : Sg := (if (σ 13 6) ≤ 0 then L_X3_findSteps_10 81 0 σ else σ)
theorem hd_X3_findSteps : yX3_findSteps.cls = RX3 ∧ yX3_findSteps.cls ≠ "java/lang/invoke/MethodHandle" ∧ yX3_findSteps.cls ≠ "java/lang/invoke/VarHandle" ∧ (parseMethodDescriptor yX3_findSteps.desc).map (fun d => d.parameters.length) = some 0 := by decide +kernel
set_option maxHeartbeats 4000000 in
set_option maxRecDepth 100000 in
theorem c_X3_findSteps (l : Launch) (D : va_G) (cy : Nat → ClassId) (ad : Nat → Nat) (σ : Sg) (h1 : σ 13 7 ≤ 0) : CM l D cy ad yX3_findSteps wsX3_findSteps { frames := 3, cells := 0, slots := 0, locals := 120 } [.ref (ad 13)] σ none (f_X3_findSteps σ) (True) := by
  refine CM.of (cc := cX3_findSteps) (maxL := 3) (ret := none) (by decide) rfl (Nat.le_of_ble_eq_true rfl) ?_
  intro p e s m args below meth c₀ ls X hI hl
  have hl : lv_has ls 3 [(0, .ref (ad 13))] := hl
  obtain ⟨hx, hb, hr, hml, hown, hts, hlocks, hK, hN⟩ := id X
  have hF := hI.2.2.2
  refine lv_aload_n hx hb dX3_findSteps_0 rfl (lv_at hl 0 rfl) ?_
  refine g_get (C := RX3) (T := TX3) (N := 9) (ci := 3) (v := .int (iI (σ 13 6))) hx hb hts in_X3_findSteps_X3 hown hK hI 13 (by decide) (cel_13 cy ad _) rfl 6 (by decide) (by decide +kernel) rfl dX3_findSteps_1 ?_
  have b_1 := bd_13_6 hF
  refine g_if_le (tgt := 8) hx hb dX3_findSteps_4 (by decide) (by omega) (fun c_2 => ?_) (fun c_2 => ?_)
  · skip
    refine lv_iconst (v := iI 0) hx hb dX3_findSteps_8 rfl ?_
    refine lv_istore_n (lv' := [(1, .int (iI 0)), (0, .ref (ad 13))]) hx hb dX3_findSteps_9 rfl hl (by decide) rfl (fun ls hl => ?_)
    have e9 : f_X3_findSteps σ = L_X3_findSteps_10 81 0 σ := by rw [f_X3_findSteps, if_pos c_2]
    rw [e9]
    exact w_L_X3_findSteps_10 X    81 0 σ (by omega) (by first | omega | (rw [up2_cell _ _ _ (by omega)]; omega)) (by omega) _ _ _ hI (lv_sub hl [1, 0] rfl)
  · skip
    have e9 : f_X3_findSteps σ = σ := by rw [f_X3_findSteps, if_neg c_2]
    exact g_vret hx hb hr hK hN hlocks hI (by rw [e9]) trivial dX3_findSteps_7
theorem in_X3_hasStep_X3 : ∀ w ∈ u_ws RX3 TX3 9, w ∈ wsX3_hasStep := by decide +kernel
def f_X3_hasStep (σ : Sg) (a0 : Int) : Int := (if a0 < 0 then 0 else (if (σ 13 7) ≤ a0 then 0 else 1))
theorem hd_X3_hasStep : yX3_hasStep.cls = RX3 ∧ yX3_hasStep.cls ≠ "java/lang/invoke/MethodHandle" ∧ yX3_hasStep.cls ≠ "java/lang/invoke/VarHandle" ∧ (parseMethodDescriptor yX3_hasStep.desc).map (fun d => d.parameters.length) = some 1 := by decide +kernel
set_option maxHeartbeats 4000000 in
set_option maxRecDepth 100000 in
theorem c_X3_hasStep (l : Launch) (D : va_G) (cy : Nat → ClassId) (ad : Nat → Nat) (σ : Sg) (a0 : Int) (ha0 : (-2147483648 ≤ a0 ∧ a0 < 2147483648)) : CM l D cy ad yX3_hasStep wsX3_hasStep { frames := 0, cells := 0, slots := 0, locals := 0 } [.ref (ad 13), .int (iI a0)] σ (some (.int (iI (f_X3_hasStep σ a0)))) σ ((0 ≤ f_X3_hasStep σ a0 ∧ f_X3_hasStep σ a0 ≤ 1) ∧ ((f_X3_hasStep σ a0) = 0 ∨ (0 ≤ a0 ∧ a0 ≤ 79))) := by
  refine CM.of (cc := cX3_hasStep) (maxL := 2) (ret := (some .boolean)) (by decide) rfl (Nat.le_of_ble_eq_true rfl) ?_
  intro p e s m args below meth c₀ ls X hI hl
  have hl : lv_has ls 2 [(0, .ref (ad 13)), (1, .int (iI a0))] := hl
  obtain ⟨hx, hb, hr, hml, hown, hts, hlocks, hK, hN⟩ := id X
  have hF := hI.2.2.2
  refine lv_iload_n hx hb dX3_hasStep_0 rfl (lv_at hl 1 rfl) ?_
  refine g_if_lt (tgt := 16) hx hb dX3_hasStep_1 (by decide) (by omega) (fun c_1 => ?_) (fun c_1 => ?_)
  · skip
    refine lv_iconst (v := iI 0) hx hb dX3_hasStep_16 rfl ?_
    have e9 : f_X3_hasStep σ a0 = 0 := by rw [f_X3_hasStep, if_pos c_1]
    exact g_zret (z := 0) hx hb hr hK hN hlocks hI e9.symm rfl (by rw [e9] <;> first | (omega) | (dsimp only; omega)) (by omega) dX3_hasStep_17
  · skip
    refine lv_iload_n hx hb dX3_hasStep_4 rfl (lv_at hl 1 rfl) ?_
    refine lv_aload_n hx hb dX3_hasStep_5 rfl (lv_at hl 0 rfl) ?_
    refine g_get (C := RX3) (T := TX3) (N := 9) (ci := 3) (v := .int (iI (σ 13 7))) hx hb hts in_X3_hasStep_X3 hown hK hI 13 (by decide) (cel_13 cy ad _) rfl 7 (by decide) (by decide +kernel) rfl dX3_hasStep_6 ?_
    have b_2 := bd_13_7 hF
    refine g_icmp_ge (tgt := 16) hx hb dX3_hasStep_9 (by decide) (by omega) (by omega) (fun c_3 => ?_) (fun c_3 => ?_)
    · skip
      refine lv_iconst (v := iI 0) hx hb dX3_hasStep_16 rfl ?_
      have e9 : f_X3_hasStep σ a0 = 0 := by rw [f_X3_hasStep, if_neg c_1, if_pos c_3]
      exact g_zret (z := 0) hx hb hr hK hN hlocks hI e9.symm rfl (by rw [e9] <;> first | (omega) | (dsimp only; omega)) (by omega) dX3_hasStep_17
    · skip
      refine lv_iconst (v := iI 1) hx hb dX3_hasStep_12 rfl ?_
      refine lv_goto (tgt := 17) hx hb dX3_hasStep_13 (by decide) ?_
      have e9 : f_X3_hasStep σ a0 = 1 := by rw [f_X3_hasStep, if_neg c_1, if_neg c_3]
      exact g_zret (z := 1) hx hb hr hK hN hlocks hI e9.symm rfl (by rw [e9] <;> first | (omega) | (dsimp only; omega)) (by omega) dX3_hasStep_17
theorem in_X3_fileOfStep_X3 : ∀ w ∈ u_ws RX3 TX3 9, w ∈ wsX3_fileOfStep := by decide +kernel
theorem in_X3_fileOfStep_X4 : ∀ w ∈ u_ws RX4 TX4 12, w ∈ wsX3_fileOfStep := by decide +kernel
def f_X3_fileOfStep (σ : Sg) (a0 : Int) : Int := σ (439 + ((σ 15 a0.toNat).toNat)) 3
theorem hd_X3_fileOfStep : yX3_fileOfStep.cls = RX3 ∧ yX3_fileOfStep.cls ≠ "java/lang/invoke/MethodHandle" ∧ yX3_fileOfStep.cls ≠ "java/lang/invoke/VarHandle" ∧ (parseMethodDescriptor yX3_fileOfStep.desc).map (fun d => d.parameters.length) = some 1 := by decide +kernel
set_option maxHeartbeats 4000000 in
set_option maxRecDepth 100000 in
theorem c_X3_fileOfStep (l : Launch) (D : va_G) (cy : Nat → ClassId) (ad : Nat → Nat) (σ : Sg) (a0 : Int) (ha0 : (0 : Int) ≤ a0 ∧ a0 ≤ 79) : CM l D cy ad yX3_fileOfStep wsX3_fileOfStep { frames := 0, cells := 0, slots := 0, locals := 0 } [.ref (ad 13), .int (iI a0)] σ (some (.int (iI (f_X3_fileOfStep σ a0)))) σ (-1 ≤ (f_X3_fileOfStep σ a0) ∧ (f_X3_fileOfStep σ a0) ≤ 39) := by
  refine CM.of (cc := cX3_fileOfStep) (maxL := 2) (ret := (some .int)) (by decide) rfl (Nat.le_of_ble_eq_true rfl) ?_
  intro p e s m args below meth c₀ ls X hI hl
  have hl : lv_has ls 2 [(0, .ref (ad 13)), (1, .int (iI a0))] := hl
  obtain ⟨hx, hb, hr, hml, hown, hts, hlocks, hK, hN⟩ := id X
  have hF := hI.2.2.2
  refine lv_aload_n hx hb dX3_fileOfStep_0 rfl (lv_at hl 0 rfl) ?_
  refine g_get (C := RX3) (T := TX3) (N := 9) (ci := 3) (v := .ref (ad 14)) hx hb hts in_X3_fileOfStep_X3 hown hK hI 13 (by decide) (cel_13 cy ad _) rfl 0 (by decide) (by decide +kernel) rfl dX3_fileOfStep_1 ?_
  refine lv_aload_n hx hb dX3_fileOfStep_4 rfl (lv_at hl 0 rfl) ?_
  refine g_get (C := RX3) (T := TX3) (N := 9) (ci := 3) (v := .ref (ad 15)) hx hb hts in_X3_fileOfStep_X3 hown hK hI 13 (by decide) (cel_13 cy ad _) rfl 1 (by decide) (by decide +kernel) rfl dX3_fileOfStep_5 ?_
  refine lv_iload_n hx hb dX3_fileOfStep_8 rfl (lv_at hl 1 rfl) ?_
  refine g_iald (v := σ 15 a0.toNat) hx hb hK hI 15 (by decide) (cel_15 cy ad) (by omega) (by decide) rfl dX3_fileOfStep_9 ?_
  have b_1 := bd_15 hF a0.toNat
  refine g_aaldQ (f := fun i => 439 + i) hx hb hK hI 14 (by decide) (cel_14 cy ad) (by omega) (by decide) dX3_fileOfStep_10 ?_
  have hr_2 : isPd (439 + ((σ 15 a0.toNat).toNat)) := by omega
  refine g_getN (C := RX4) (T := TX4) (N := 12) (ci := 4) (v := .int (iI (σ (439 + ((σ 15 a0.toNat).toNat)) 3))) hx hb hts in_X3_fileOfStep_X4 hown hK hN hI (439 + ((σ 15 a0.toNat).toNat)) (by have q := hr_2; omega) (cel_Pd cy ad hr_2 _) rfl 3 (by decide) (by decide +kernel) rfl dX3_fileOfStep_11 ?_
  have b_3 := bd_Pd_3 hF hr_2
  have e9 : f_X3_fileOfStep σ a0 = σ (439 + ((σ 15 a0.toNat).toNat)) 3 := by rw [f_X3_fileOfStep]
  exact g_iret (z := σ (439 + ((σ 15 a0.toNat).toNat)) 3) hx hb hr hK hN hlocks hI e9.symm rfl (by rw [e9] <;> first | (omega) | (dsimp only; omega)) dX3_fileOfStep_14
theorem in_X3_goesToSpare_X3 : ∀ w ∈ u_ws RX3 TX3 9, w ∈ wsX3_goesToSpare := by decide +kernel
def f_X3_goesToSpare (σ : Sg) (a0 : Int) : Int := σ 16 a0.toNat
theorem hd_X3_goesToSpare : yX3_goesToSpare.cls = RX3 ∧ yX3_goesToSpare.cls ≠ "java/lang/invoke/MethodHandle" ∧ yX3_goesToSpare.cls ≠ "java/lang/invoke/VarHandle" ∧ (parseMethodDescriptor yX3_goesToSpare.desc).map (fun d => d.parameters.length) = some 1 := by decide +kernel
set_option maxHeartbeats 4000000 in
set_option maxRecDepth 100000 in
theorem c_X3_goesToSpare (l : Launch) (D : va_G) (cy : Nat → ClassId) (ad : Nat → Nat) (σ : Sg) (a0 : Int) (ha0 : (0 : Int) ≤ a0 ∧ a0 ≤ 79) : CM l D cy ad yX3_goesToSpare wsX3_goesToSpare { frames := 0, cells := 0, slots := 0, locals := 0 } [.ref (ad 13), .int (iI a0)] σ (some (.int (iI (f_X3_goesToSpare σ a0)))) σ ((0 ≤ f_X3_goesToSpare σ a0 ∧ f_X3_goesToSpare σ a0 ≤ 1)) := by
  refine CM.of (cc := cX3_goesToSpare) (maxL := 2) (ret := (some .boolean)) (by decide) rfl (Nat.le_of_ble_eq_true rfl) ?_
  intro p e s m args below meth c₀ ls X hI hl
  have hl : lv_has ls 2 [(0, .ref (ad 13)), (1, .int (iI a0))] := hl
  obtain ⟨hx, hb, hr, hml, hown, hts, hlocks, hK, hN⟩ := id X
  have hF := hI.2.2.2
  refine lv_aload_n hx hb dX3_goesToSpare_0 rfl (lv_at hl 0 rfl) ?_
  refine g_get (C := RX3) (T := TX3) (N := 9) (ci := 3) (v := .ref (ad 16)) hx hb hts in_X3_goesToSpare_X3 hown hK hI 13 (by decide) (cel_13 cy ad _) rfl 2 (by decide) (by decide +kernel) rfl dX3_goesToSpare_1 ?_
  refine lv_iload_n hx hb dX3_goesToSpare_4 rfl (lv_at hl 1 rfl) ?_
  refine g_zald (v := σ 16 a0.toNat) hx hb hK hI 16 (by decide) (cel_16 cy ad) (by omega) (by decide) rfl dX3_goesToSpare_5 ?_
  have b_1 := bd_16 hF a0.toNat
  have e9 : f_X3_goesToSpare σ a0 = σ 16 a0.toNat := by rw [f_X3_goesToSpare]
  exact g_zret (z := σ 16 a0.toNat) hx hb hr hK hN hlocks hI e9.symm rfl (by rw [e9] <;> first | (omega) | (dsimp only; omega)) (by omega) dX3_goesToSpare_6
theorem in_X3_comesFromSpare_X3 : ∀ w ∈ u_ws RX3 TX3 9, w ∈ wsX3_comesFromSpare := by decide +kernel
def f_X3_comesFromSpare (σ : Sg) (a0 : Int) : Int := σ 17 a0.toNat
theorem hd_X3_comesFromSpare : yX3_comesFromSpare.cls = RX3 ∧ yX3_comesFromSpare.cls ≠ "java/lang/invoke/MethodHandle" ∧ yX3_comesFromSpare.cls ≠ "java/lang/invoke/VarHandle" ∧ (parseMethodDescriptor yX3_comesFromSpare.desc).map (fun d => d.parameters.length) = some 1 := by decide +kernel
set_option maxHeartbeats 4000000 in
set_option maxRecDepth 100000 in
theorem c_X3_comesFromSpare (l : Launch) (D : va_G) (cy : Nat → ClassId) (ad : Nat → Nat) (σ : Sg) (a0 : Int) (ha0 : (0 : Int) ≤ a0 ∧ a0 ≤ 79) : CM l D cy ad yX3_comesFromSpare wsX3_comesFromSpare { frames := 0, cells := 0, slots := 0, locals := 0 } [.ref (ad 13), .int (iI a0)] σ (some (.int (iI (f_X3_comesFromSpare σ a0)))) σ ((0 ≤ f_X3_comesFromSpare σ a0 ∧ f_X3_comesFromSpare σ a0 ≤ 1)) := by
  refine CM.of (cc := cX3_comesFromSpare) (maxL := 2) (ret := (some .boolean)) (by decide) rfl (Nat.le_of_ble_eq_true rfl) ?_
  intro p e s m args below meth c₀ ls X hI hl
  have hl : lv_has ls 2 [(0, .ref (ad 13)), (1, .int (iI a0))] := hl
  obtain ⟨hx, hb, hr, hml, hown, hts, hlocks, hK, hN⟩ := id X
  have hF := hI.2.2.2
  refine lv_aload_n hx hb dX3_comesFromSpare_0 rfl (lv_at hl 0 rfl) ?_
  refine g_get (C := RX3) (T := TX3) (N := 9) (ci := 3) (v := .ref (ad 17)) hx hb hts in_X3_comesFromSpare_X3 hown hK hI 13 (by decide) (cel_13 cy ad _) rfl 3 (by decide) (by decide +kernel) rfl dX3_comesFromSpare_1 ?_
  refine lv_iload_n hx hb dX3_comesFromSpare_4 rfl (lv_at hl 1 rfl) ?_
  refine g_zald (v := σ 17 a0.toNat) hx hb hK hI 17 (by decide) (cel_17 cy ad) (by omega) (by decide) rfl dX3_comesFromSpare_5 ?_
  have b_1 := bd_17 hF a0.toNat
  have e9 : f_X3_comesFromSpare σ a0 = σ 17 a0.toNat := by rw [f_X3_comesFromSpare]
  exact g_zret (z := σ 17 a0.toNat) hx hb hr hK hN hlocks hI e9.symm rfl (by rw [e9] <;> first | (omega) | (dsimp only; omega)) (by omega) dX3_comesFromSpare_6
theorem in_X3_startOfStep_X3 : ∀ w ∈ u_ws RX3 TX3 9, w ∈ wsX3_startOfStep := by decide +kernel
theorem in_X3_startOfStep_X4 : ∀ w ∈ u_ws RX4 TX4 12, w ∈ wsX3_startOfStep := by decide +kernel
def f_X3_startOfStep (σ : Sg) (a0 : Int) : Nat := (if (σ 17 a0.toNat) = 0 then 199 + 6 * (439 + ((σ 15 a0.toNat).toNat) - 439) else 203 + 6 * (439 + ((σ 15 a0.toNat).toNat) - 439))
theorem hd_X3_startOfStep : yX3_startOfStep.cls = RX3 ∧ yX3_startOfStep.cls ≠ "java/lang/invoke/MethodHandle" ∧ yX3_startOfStep.cls ≠ "java/lang/invoke/VarHandle" ∧ (parseMethodDescriptor yX3_startOfStep.desc).map (fun d => d.parameters.length) = some 1 := by decide +kernel
set_option maxHeartbeats 4000000 in
set_option maxRecDepth 100000 in
theorem c_X3_startOfStep (l : Launch) (D : va_G) (cy : Nat → ClassId) (ad : Nat → Nat) (σ : Sg) (a0 : Int) (ha0 : (0 : Int) ≤ a0 ∧ a0 ≤ 79) : CM l D cy ad yX3_startOfStep wsX3_startOfStep { frames := 0, cells := 0, slots := 0, locals := 0 } [.ref (ad 13), .int (iI a0)] σ (some (.ref (ad (f_X3_startOfStep σ a0)))) σ (isPl (f_X3_startOfStep σ a0)) := by
  refine CM.of (cc := cX3_startOfStep) (maxL := 3) (ret := (some (.object "NameTurner$Place"))) (by decide) rfl (Nat.le_of_ble_eq_true rfl) ?_
  intro p e s m args below meth c₀ ls X hI hl
  have hl : lv_has ls 3 [(0, .ref (ad 13)), (1, .int (iI a0))] := hl
  obtain ⟨hx, hb, hr, hml, hown, hts, hlocks, hK, hN⟩ := id X
  have hF := hI.2.2.2
  refine lv_aload_n hx hb dX3_startOfStep_0 rfl (lv_at hl 0 rfl) ?_
  refine g_get (C := RX3) (T := TX3) (N := 9) (ci := 3) (v := .ref (ad 14)) hx hb hts in_X3_startOfStep_X3 hown hK hI 13 (by decide) (cel_13 cy ad _) rfl 0 (by decide) (by decide +kernel) rfl dX3_startOfStep_1 ?_
  refine lv_aload_n hx hb dX3_startOfStep_4 rfl (lv_at hl 0 rfl) ?_
  refine g_get (C := RX3) (T := TX3) (N := 9) (ci := 3) (v := .ref (ad 15)) hx hb hts in_X3_startOfStep_X3 hown hK hI 13 (by decide) (cel_13 cy ad _) rfl 1 (by decide) (by decide +kernel) rfl dX3_startOfStep_5 ?_
  refine lv_iload_n hx hb dX3_startOfStep_8 rfl (lv_at hl 1 rfl) ?_
  refine g_iald (v := σ 15 a0.toNat) hx hb hK hI 15 (by decide) (cel_15 cy ad) (by omega) (by decide) rfl dX3_startOfStep_9 ?_
  have b_1 := bd_15 hF a0.toNat
  refine g_aaldQ (f := fun i => 439 + i) hx hb hK hI 14 (by decide) (cel_14 cy ad) (by omega) (by decide) dX3_startOfStep_10 ?_
  have hr_2 : isPd (439 + ((σ 15 a0.toNat).toNat)) := by omega
  refine lv_astore_n (lv' := [(2, .ref (ad (439 + ((σ 15 a0.toNat).toNat)))), (0, .ref (ad 13)), (1, .int (iI a0))]) hx hb dX3_startOfStep_11 rfl hl (by decide) rfl (fun ls hl => ?_)
  refine lv_aload_n hx hb dX3_startOfStep_12 rfl (lv_at hl 1 rfl) ?_
  refine g_get (C := RX3) (T := TX3) (N := 9) (ci := 3) (v := .ref (ad 17)) hx hb hts in_X3_startOfStep_X3 hown hK hI 13 (by decide) (cel_13 cy ad _) rfl 3 (by decide) (by decide +kernel) rfl dX3_startOfStep_13 ?_
  refine lv_iload_n hx hb dX3_startOfStep_16 rfl (lv_at hl 2 rfl) ?_
  refine g_zald (v := σ 17 a0.toNat) hx hb hK hI 17 (by decide) (cel_17 cy ad) (by omega) (by decide) rfl dX3_startOfStep_17 ?_
  have b_3 := bd_17 hF a0.toNat
  refine g_if_eq (tgt := 28) hx hb dX3_startOfStep_18 (by decide) (by omega) (fun c_4 => ?_) (fun c_4 => ?_)
  · skip
    refine lv_aload_n hx hb dX3_startOfStep_28 rfl (lv_at hl 0 rfl) ?_
    refine g_getN (C := RX4) (T := TX4) (N := 12) (ci := 4) (v := .ref (ad (199 + 6 * (439 + ((σ 15 a0.toNat).toNat) - 439)))) hx hb hts in_X3_startOfStep_X4 hown hK hN hI (439 + ((σ 15 a0.toNat).toNat)) (by have q := hr_2; omega) (cel_Pd cy ad hr_2 _) rfl 0 (by decide) (by decide +kernel) rfl dX3_startOfStep_29 ?_
    have e9 : f_X3_startOfStep σ a0 = 199 + 6 * (439 + ((σ 15 a0.toNat).toNat) - 439) := by rw [f_X3_startOfStep, if_pos c_4]
    exact g_aret (a := 199 + 6 * (439 + ((σ 15 a0.toNat).toNat) - 439)) hx hb hr hK hN hlocks hI e9.symm rfl (by rw [e9] <;> first | (omega) | (dsimp only; omega)) dX3_startOfStep_32
  · skip
    refine lv_aload_n hx hb dX3_startOfStep_21 rfl (lv_at hl 0 rfl) ?_
    refine g_getN (C := RX4) (T := TX4) (N := 12) (ci := 4) (v := .ref (ad (203 + 6 * (439 + ((σ 15 a0.toNat).toNat) - 439)))) hx hb hts in_X3_startOfStep_X4 hown hK hN hI (439 + ((σ 15 a0.toNat).toNat)) (by have q := hr_2; omega) (cel_Pd cy ad hr_2 _) rfl 2 (by decide) (by decide +kernel) rfl dX3_startOfStep_22 ?_
    refine lv_goto (tgt := 32) hx hb dX3_startOfStep_25 (by decide) ?_
    have e9 : f_X3_startOfStep σ a0 = 203 + 6 * (439 + ((σ 15 a0.toNat).toNat) - 439) := by rw [f_X3_startOfStep, if_neg c_4]
    exact g_aret (a := 203 + 6 * (439 + ((σ 15 a0.toNat).toNat) - 439)) hx hb hr hK hN hlocks hI e9.symm rfl (by rw [e9] <;> first | (omega) | (dsimp only; omega)) dX3_startOfStep_32
theorem in_X3_goalOfStep_X3 : ∀ w ∈ u_ws RX3 TX3 9, w ∈ wsX3_goalOfStep := by decide +kernel
theorem in_X3_goalOfStep_X4 : ∀ w ∈ u_ws RX4 TX4 12, w ∈ wsX3_goalOfStep := by decide +kernel
def f_X3_goalOfStep (σ : Sg) (a0 : Int) : Nat := (if (σ 16 a0.toNat) = 0 then 201 + 6 * (439 + ((σ 15 a0.toNat).toNat) - 439) else 203 + 6 * (439 + ((σ 15 a0.toNat).toNat) - 439))
theorem hd_X3_goalOfStep : yX3_goalOfStep.cls = RX3 ∧ yX3_goalOfStep.cls ≠ "java/lang/invoke/MethodHandle" ∧ yX3_goalOfStep.cls ≠ "java/lang/invoke/VarHandle" ∧ (parseMethodDescriptor yX3_goalOfStep.desc).map (fun d => d.parameters.length) = some 1 := by decide +kernel
set_option maxHeartbeats 4000000 in
set_option maxRecDepth 100000 in
theorem c_X3_goalOfStep (l : Launch) (D : va_G) (cy : Nat → ClassId) (ad : Nat → Nat) (σ : Sg) (a0 : Int) (ha0 : (0 : Int) ≤ a0 ∧ a0 ≤ 79) : CM l D cy ad yX3_goalOfStep wsX3_goalOfStep { frames := 0, cells := 0, slots := 0, locals := 0 } [.ref (ad 13), .int (iI a0)] σ (some (.ref (ad (f_X3_goalOfStep σ a0)))) σ (isPl (f_X3_goalOfStep σ a0)) := by
  refine CM.of (cc := cX3_goalOfStep) (maxL := 3) (ret := (some (.object "NameTurner$Place"))) (by decide) rfl (Nat.le_of_ble_eq_true rfl) ?_
  intro p e s m args below meth c₀ ls X hI hl
  have hl : lv_has ls 3 [(0, .ref (ad 13)), (1, .int (iI a0))] := hl
  obtain ⟨hx, hb, hr, hml, hown, hts, hlocks, hK, hN⟩ := id X
  have hF := hI.2.2.2
  refine lv_aload_n hx hb dX3_goalOfStep_0 rfl (lv_at hl 0 rfl) ?_
  refine g_get (C := RX3) (T := TX3) (N := 9) (ci := 3) (v := .ref (ad 14)) hx hb hts in_X3_goalOfStep_X3 hown hK hI 13 (by decide) (cel_13 cy ad _) rfl 0 (by decide) (by decide +kernel) rfl dX3_goalOfStep_1 ?_
  refine lv_aload_n hx hb dX3_goalOfStep_4 rfl (lv_at hl 0 rfl) ?_
  refine g_get (C := RX3) (T := TX3) (N := 9) (ci := 3) (v := .ref (ad 15)) hx hb hts in_X3_goalOfStep_X3 hown hK hI 13 (by decide) (cel_13 cy ad _) rfl 1 (by decide) (by decide +kernel) rfl dX3_goalOfStep_5 ?_
  refine lv_iload_n hx hb dX3_goalOfStep_8 rfl (lv_at hl 1 rfl) ?_
  refine g_iald (v := σ 15 a0.toNat) hx hb hK hI 15 (by decide) (cel_15 cy ad) (by omega) (by decide) rfl dX3_goalOfStep_9 ?_
  have b_1 := bd_15 hF a0.toNat
  refine g_aaldQ (f := fun i => 439 + i) hx hb hK hI 14 (by decide) (cel_14 cy ad) (by omega) (by decide) dX3_goalOfStep_10 ?_
  have hr_2 : isPd (439 + ((σ 15 a0.toNat).toNat)) := by omega
  refine lv_astore_n (lv' := [(2, .ref (ad (439 + ((σ 15 a0.toNat).toNat)))), (0, .ref (ad 13)), (1, .int (iI a0))]) hx hb dX3_goalOfStep_11 rfl hl (by decide) rfl (fun ls hl => ?_)
  refine lv_aload_n hx hb dX3_goalOfStep_12 rfl (lv_at hl 1 rfl) ?_
  refine g_get (C := RX3) (T := TX3) (N := 9) (ci := 3) (v := .ref (ad 16)) hx hb hts in_X3_goalOfStep_X3 hown hK hI 13 (by decide) (cel_13 cy ad _) rfl 2 (by decide) (by decide +kernel) rfl dX3_goalOfStep_13 ?_
  refine lv_iload_n hx hb dX3_goalOfStep_16 rfl (lv_at hl 2 rfl) ?_
  refine g_zald (v := σ 16 a0.toNat) hx hb hK hI 16 (by decide) (cel_16 cy ad) (by omega) (by decide) rfl dX3_goalOfStep_17 ?_
  have b_3 := bd_16 hF a0.toNat
  refine g_if_eq (tgt := 28) hx hb dX3_goalOfStep_18 (by decide) (by omega) (fun c_4 => ?_) (fun c_4 => ?_)
  · skip
    refine lv_aload_n hx hb dX3_goalOfStep_28 rfl (lv_at hl 0 rfl) ?_
    refine g_getN (C := RX4) (T := TX4) (N := 12) (ci := 4) (v := .ref (ad (201 + 6 * (439 + ((σ 15 a0.toNat).toNat) - 439)))) hx hb hts in_X3_goalOfStep_X4 hown hK hN hI (439 + ((σ 15 a0.toNat).toNat)) (by have q := hr_2; omega) (cel_Pd cy ad hr_2 _) rfl 1 (by decide) (by decide +kernel) rfl dX3_goalOfStep_29 ?_
    have e9 : f_X3_goalOfStep σ a0 = 201 + 6 * (439 + ((σ 15 a0.toNat).toNat) - 439) := by rw [f_X3_goalOfStep, if_pos c_4]
    exact g_aret (a := 201 + 6 * (439 + ((σ 15 a0.toNat).toNat) - 439)) hx hb hr hK hN hlocks hI e9.symm rfl (by rw [e9] <;> first | (omega) | (dsimp only; omega)) dX3_goalOfStep_32
  · skip
    refine lv_aload_n hx hb dX3_goalOfStep_21 rfl (lv_at hl 0 rfl) ?_
    refine g_getN (C := RX4) (T := TX4) (N := 12) (ci := 4) (v := .ref (ad (203 + 6 * (439 + ((σ 15 a0.toNat).toNat) - 439)))) hx hb hts in_X3_goalOfStep_X4 hown hK hN hI (439 + ((σ 15 a0.toNat).toNat)) (by have q := hr_2; omega) (cel_Pd cy ad hr_2 _) rfl 2 (by decide) (by decide +kernel) rfl dX3_goalOfStep_22 ?_
    refine lv_goto (tgt := 32) hx hb dX3_goalOfStep_25 (by decide) ?_
    have e9 : f_X3_goalOfStep σ a0 = 203 + 6 * (439 + ((σ 15 a0.toNat).toNat) - 439) := by rw [f_X3_goalOfStep, if_neg c_4]
    exact g_aret (a := 203 + 6 * (439 + ((σ 15 a0.toNat).toNat) - 439)) hx hb hr hK hN hlocks hI e9.symm rfl (by rw [e9] <;> first | (omega) | (dsimp only; omega)) dX3_goalOfStep_32
