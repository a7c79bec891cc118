theorem in_X9_plan_X9 : ∀ w ∈ u_ws RX9 TX9 11, w ∈ wsX9_plan := by decide +kernel
def L_X9_plan_84 (a0 : Int) (a1 : Int) (a2 : Int) (a3 : Int) (a4 : Int) : Nat → Int → Int → Sg → Sg
  | 0, x6, x7, σ => (σ)
  | n + 1, x6, x7, σ => (if x6 ≤ x7 then σ else (if (f_X3_isFull σ) = 0 then (if (f_X7_has σ (f_X7_listed σ x7)) = 0 then L_X9_plan_84 a0 a1 a2 a3 a4 n x6 (x7 + 1) σ else (if ((f_X0_match σ (rc (σ 0 6)) (f_X7_placeOf σ (f_X7_listed σ x7))).1) = 0 then L_X9_plan_84 a0 a1 a2 a3 a4 n x6 (x7 + 1) (f_X0_match σ (rc (σ 0 6)) (f_X7_placeOf σ (f_X7_listed σ x7))).2 else L_X9_plan_84 a0 a1 a2 a3 a4 n x6 (x7 + 1) (f_X4_nameBy (f_X3_add (f_X0_match σ (rc (σ 0 6)) (f_X7_placeOf σ (f_X7_listed σ x7))).2 (f_X7_listed σ x7) (f_X7_placeOf (f_X0_match σ (rc (σ 0 6)) (f_X7_placeOf σ (f_X7_listed σ x7))).2 (f_X7_listed σ x7)) (a2 + ((f_X3_size (f_X0_match σ (rc (σ 0 6)) (f_X7_placeOf σ (f_X7_listed σ x7))).2) * a3))).2 ((f_X3_add (f_X0_match σ (rc (σ 0 6)) (f_X7_placeOf σ (f_X7_listed σ x7))).2 (f_X7_listed σ x7) (f_X7_placeOf (f_X0_match σ (rc (σ 0 6)) (f_X7_placeOf σ (f_X7_listed σ x7))).2 (f_X7_listed σ x7)) (a2 + ((f_X3_size (f_X0_match σ (rc (σ 0 6)) (f_X7_placeOf σ (f_X7_listed σ x7))).2) * a3))).1) (rc ((f_X3_add (f_X0_match σ (rc (σ 0 6)) (f_X7_placeOf σ (f_X7_listed σ x7))).2 (f_X7_listed σ x7) (f_X7_placeOf (f_X0_match σ (rc (σ 0 6)) (f_X7_placeOf σ (f_X7_listed σ x7))).2 (f_X7_listed σ x7)) (a2 + ((f_X3_size (f_X0_match σ (rc (σ 0 6)) (f_X7_placeOf σ (f_X7_listed σ x7))).2) * a3))).2 0 6)) a1))) else σ))
set_option maxHeartbeats 4000000 in
set_option maxRecDepth 100000 in
theorem w_L_X9_plan_84 {p : Program} {l : Launch} {e : Env} {s : State} {m : MethodId} {args : Array Value} {below : List Frame} {meth : Method} {c₀ : Code} {D : va_G} {cy : Nat → ClassId} {ad : Nat → Nat} {Q : State → Prop} (X : MX p s m args meth c₀ cX9_plan 10 RX9 (some .int) wsX9_plan D cy) (a0 : Int) (ha0 : (-2147483648 ≤ a0 ∧ a0 < 2147483648)) (a1 : Int) (ha1 : (-2147483648 ≤ a1 ∧ a1 < 2147483648)) (a2 : Int) (ha2 : (-2147483648 ≤ a2 ∧ a2 < 2147483648)) (a3 : Int) (ha3 : (-2147483648 ≤ a3 ∧ a3 < 2147483648)) (a4 : Int) (ha4 : (0 : Int) ≤ a4 ∧ a4 ≤ 1) : ∀ (n : Nat) (x6 : Int) (x7 : Int) (σ : Sg) (hx6 : (0 : Int) ≤ x6 ∧ x6 ≤ 40) (hx7 : (0 : Int) ≤ x7 ∧ x7 ≤ 40) (hp0 : 0 ≤ a1 ∧ a1 ≤ 5) (hp1 : 0 ≤ a2 ∧ a2 ≤ 999) (hp2 : 1 ≤ a3 ∧ a3 ≤ 99) (hp3 : σ 13 5 ≤ x7) (hp4 : σ 13 6 ≤ 0) (hp5 : σ 13 7 ≤ 0) (hmu : 40 - x7 < (n : Int)) (H : Heap) (locs : List Loc) (ls : Array Slot) (hI : HI D cy ad s σ H locs) (hl : lv_has ls 10 [(0, .ref (ad 0)), (2, .int (iI a1)), (3, .int (iI a2)), (4, .int (iI a3)), (6, .int (iI x6)), (7, .int (iI x7))])  (hk : ∀ (H1 : Heap) (locs1 : List Loc) (ls1 : Array Slot), ((L_X9_plan_84 a0 a1 a2 a3 a4 n x6 x7 σ) 13 6 ≤ 0 ∧ (L_X9_plan_84 a0 a1 a2 a3 a4 n x6 x7 σ) 13 7 ≤ 0) → HI D cy ad s (L_X9_plan_84 a0 a1 a2 a3 a4 n x6 x7 σ) H1 locs1 → lv_has ls1 10 [(0, .ref (ad 0))] → W p l e { frames := 5, cells := 0, slots := 0, locals := 200 } s m args below meth c₀ H1 locs1 0 0 Q (F0 m 199 ls1 [])), W p l e { frames := 5, cells := 0, slots := 0, locals := 200 } s m args below meth c₀ H locs 0 0 Q (F0 m 84 ls []) := by
  obtain ⟨hx, hb, hr, hml, hown, hts, hlocks, hK, hN⟩ := id X
  intro n
  induction n with
  | zero =>
    intro x6 x7 σ hx6 hx7 hp0 hp1 hp2 hp3 hp4 hp5 hmu H locs ls hI hl hk
    exfalso
    have hF := hI.2.2.2
    omega
  | succ n ih =>
    intro x6 x7 σ hx6 hx7 hp0 hp1 hp2 hp3 hp4 hp5 hmu H locs ls hI hl hk
    have hF := hI.2.2.2
    refine lv_iload hx hb dX9_plan_84 (lv_at hl 5 rfl) ?_
    refine lv_iload hx hb dX9_plan_86 (lv_at hl 4 rfl) ?_
    refine g_icmp_ge (tgt := 199) hx hb dX9_plan_88 (by decide) (by omega) (by omega) (fun c_17 => ?_) (fun c_17 => ?_)
    · skip
      have e9 : L_X9_plan_84 a0 a1 a2 a3 a4 (n + 1) x6 x7 σ = σ := by rw [L_X9_plan_84, if_pos c_17]
      rw [e9] at hk
      exact hk _ _ _ (by first | (omega) | (dsimp only; omega)) hI (lv_sub hl [0] rfl)
    · skip
      refine lv_aload_n hx hb dX9_plan_91 rfl (lv_at hl 0 rfl) ?_
      refine g_get (C := RX9) (T := TX9) (N := 11) (ci := 8) (v := .ref (ad 13)) hx hb hts in_X9_plan_X9 hown hK hI 0 (by decide) (cel_0 cy ad _) rfl 5 (by decide) (by decide +kernel) rfl dX9_plan_92 ?_
      refine g_V (As := []) (rest := []) 13 (c_X3_isFull l D cy ad σ ) hx hb hml hown hts hK hN hI hl.1 gX9_plan_X3_isFull rfl hd_X3_isFull rfl rfl ⟨Nat.le_of_ble_eq_true rfl, Nat.le_of_ble_eq_true rfl⟩ ⟨Nat.zero_le _, Nat.zero_le _⟩ (by decide) (cel_13 cy ad _) rfl rfl rfl rfl (Nat.le_of_ble_eq_true rfl) dX9_plan_95 (fun H locs hG_18 hI => ?_)
      refine g_if_ne (tgt := 199) hx hb dX9_plan_98 (by decide) (by omega) (fun c_19 => ?_) (fun c_19 => ?_)
      · skip
        have e9 : L_X9_plan_84 a0 a1 a2 a3 a4 (n + 1) x6 x7 σ = σ := by rw [L_X9_plan_84, if_neg c_17, if_neg c_19]
        rw [e9] at hk
        exact hk _ _ _ (by first | (omega) | (dsimp only; omega)) hI (lv_sub hl [0] rfl)
      · skip
        refine lv_aload_n hx hb dX9_plan_101 rfl (lv_at hl 0 rfl) ?_
        refine g_get (C := RX9) (T := TX9) (N := 11) (ci := 8) (v := .ref (ad 3)) hx hb hts in_X9_plan_X9 hown hK hI 0 (by decide) (cel_0 cy ad _) rfl 2 (by decide) (by decide +kernel) rfl dX9_plan_102 ?_
        refine lv_iload hx hb dX9_plan_105 (lv_at hl 5 rfl) ?_
        refine g_V (As := [.int (iI x7)]) (rest := []) 3 (c_X7_listed l D cy ad σ x7 (by omega)) hx hb hml hown hts hK hN hI hl.1 gX9_plan_X7_listed rfl hd_X7_listed rfl rfl ⟨Nat.le_of_ble_eq_true rfl, Nat.le_of_ble_eq_true rfl⟩ ⟨Nat.zero_le _, Nat.zero_le _⟩ (by decide) (cel_3 cy ad _) rfl rfl rfl rfl (Nat.le_of_ble_eq_true rfl) dX9_plan_107 (fun H locs hG_20 hI => ?_)
        refine lv_istore (lv' := [(8, .int (iI (f_X7_listed σ x7))), (0, .ref (ad 0)), (2, .int (iI a1)), (3, .int (iI a2)), (4, .int (iI a3)), (6, .int (iI x6)), (7, .int (iI x7))]) hx hb dX9_plan_110 hl (by decide) rfl (fun ls hl => ?_)
        refine lv_aload_n hx hb dX9_plan_112 rfl (lv_at hl 1 rfl) ?_
        refine g_get (C := RX9) (T := TX9) (N := 11) (ci := 8) (v := .ref (ad 3)) hx hb hts in_X9_plan_X9 hown hK hI 0 (by decide) (cel_0 cy ad _) rfl 2 (by decide) (by decide +kernel) rfl dX9_plan_113 ?_
        refine lv_iload hx hb dX9_plan_116 (lv_at hl 0 rfl) ?_
        refine g_V (As := [.int (iI (f_X7_listed σ x7))]) (rest := []) 3 (c_X7_has l D cy ad σ (f_X7_listed σ x7) (by omega)) hx hb hml hown hts hK hN hI hl.1 gX9_plan_X7_has rfl hd_X7_has rfl rfl ⟨Nat.le_of_ble_eq_true rfl, Nat.le_of_ble_eq_true rfl⟩ ⟨Nat.zero_le _, Nat.zero_le _⟩ (by decide) (cel_3 cy ad _) rfl rfl rfl rfl (Nat.le_of_ble_eq_true rfl) dX9_plan_118 (fun H locs hG_21 hI => ?_)
        refine g_if_eq (tgt := 193) hx hb dX9_plan_121 (by decide) (by omega) (fun c_22 => ?_) (fun c_22 => ?_)
        · skip
          refine lv_iinc (v := iI (x7 + 1)) (lv' := [(7, .int (iI (x7 + 1))), (8, .int (iI (f_X7_listed σ x7))), (0, .ref (ad 0)), (2, .int (iI a1)), (3, .int (iI a2)), (4, .int (iI a3)), (6, .int (iI x6))]) hx hb dX9_plan_193 hl (k := 6) rfl (iI_add _ _) (by decide) rfl (fun ls hl => ?_)
          refine lv_goto (tgt := 84) hx hb dX9_plan_196 (by decide) ?_
          have e9 : L_X9_plan_84 a0 a1 a2 a3 a4 (n + 1) x6 x7 σ = L_X9_plan_84 a0 a1 a2 a3 a4 n x6 (x7 + 1) σ := by rw [L_X9_plan_84, if_neg c_17, if_pos c_19, if_pos c_22]
          rw [e9] at hk
          exact ih x6 (x7 + 1) σ (by omega) (by omega) (by omega) (by omega) (by omega) (by omega) (by omega) (by omega) (by omega) _ _ _ hI (lv_sub hl [2, 3, 4, 5, 6, 0] rfl) hk
        · skip
          refine lv_aload_n hx hb dX9_plan_124 rfl (lv_at hl 1 rfl) ?_
          refine g_get (C := RX9) (T := TX9) (N := 11) (ci := 8) (v := .ref (ad 9)) hx hb hts in_X9_plan_X9 hown hK hI 0 (by decide) (cel_0 cy ad _) rfl 4 (by decide) (by decide +kernel) rfl dX9_plan_125 ?_
          refine lv_aload_n hx hb dX9_plan_128 rfl (lv_at hl 1 rfl) ?_
          refine g_get (C := RX9) (T := TX9) (N := 11) (ci := 8) (v := .ref (ad (rc (σ 0 6)))) hx hb hts in_X9_plan_X9 hown hK hI 0 (by decide) (cel_0 cy ad _) rfl 6 (by decide) (by decide +kernel) rfl dX9_plan_129 ?_
          refine lv_aload_n hx hb dX9_plan_132 rfl (lv_at hl 1 rfl) ?_
          refine g_get (C := RX9) (T := TX9) (N := 11) (ci := 8) (v := .ref (ad 3)) hx hb hts in_X9_plan_X9 hown hK hI 0 (by decide) (cel_0 cy ad _) rfl 2 (by decide) (by decide +kernel) rfl dX9_plan_133 ?_
          refine lv_iload hx hb dX9_plan_136 (lv_at hl 0 rfl) ?_
          refine g_V (As := [.int (iI (f_X7_listed σ x7))]) (rest := [.ref (ad (rc (σ 0 6))), .ref (ad 9)]) 3 (c_X7_placeOf l D cy ad σ (f_X7_listed σ x7) (by omega)) hx hb hml hown hts hK hN hI hl.1 gX9_plan_X7_placeOf rfl hd_X7_placeOf rfl rfl ⟨Nat.le_of_ble_eq_true rfl, Nat.le_of_ble_eq_true rfl⟩ ⟨Nat.zero_le _, Nat.zero_le _⟩ (by decide) (cel_3 cy ad _) rfl rfl rfl rfl (Nat.le_of_ble_eq_true rfl) dX9_plan_138 (fun H locs hG_23 hI => ?_)
          refine g_V (As := [.ref (ad (rc (σ 0 6))), .ref (ad (f_X7_placeOf σ (f_X7_listed σ x7)))]) (rest := []) 9 (c_X0_match l D cy ad σ (rc (σ 0 6)) (rc_ru _) (f_X7_placeOf σ (f_X7_listed σ x7)) hG_23) hx hb hml hown hts hK hN hI hl.1 gX9_plan_X0_match rfl hd_X0_match rfl rfl ⟨Nat.le_of_ble_eq_true rfl, Nat.le_of_ble_eq_true rfl⟩ ⟨Nat.zero_le _, Nat.zero_le _⟩ (by decide) (cel_9 cy ad _) rfl rfl rfl rfl (Nat.le_of_ble_eq_true rfl) dX9_plan_141 (fun H locs hG_24 hI => ?_)
          have hF_25 := hI.2.2.2
          have q9 : (f_X0_match σ (rc (σ 0 6)) (f_X7_placeOf σ (f_X7_listed σ x7))).2 13 = σ 13 := match_fr _ _ _ (by decide) (by decide) (by decide)
          have q8 := congrFun q9 5
          have q7 := congrFun q9 6
          have q6 := congrFun q9 7
          refine g_if_eq (tgt := 193) hx hb dX9_plan_144 (by decide) (by omega) (fun c_26 => ?_) (fun c_26 => ?_)
          · skip
            refine lv_iinc (v := iI (x7 + 1)) (lv' := [(7, .int (iI (x7 + 1))), (8, .int (iI (f_X7_listed σ x7))), (0, .ref (ad 0)), (2, .int (iI a1)), (3, .int (iI a2)), (4, .int (iI a3)), (6, .int (iI x6))]) hx hb dX9_plan_193 hl (k := 6) rfl (iI_add _ _) (by decide) rfl (fun ls hl => ?_)
            refine lv_goto (tgt := 84) hx hb dX9_plan_196 (by decide) ?_
            have e9 : L_X9_plan_84 a0 a1 a2 a3 a4 (n + 1) x6 x7 σ = L_X9_plan_84 a0 a1 a2 a3 a4 n x6 (x7 + 1) (f_X0_match σ (rc (σ 0 6)) (f_X7_placeOf σ (f_X7_listed σ x7))).2 := by rw [L_X9_plan_84, if_neg c_17, if_pos c_19, if_neg c_22, if_pos c_26]
            rw [e9] at hk
            exact ih x6 (x7 + 1) (f_X0_match σ (rc (σ 0 6)) (f_X7_placeOf σ (f_X7_listed σ x7))).2 (by omega) (by omega) (by omega) (by omega) (by omega) (by omega) (by omega) (by omega) (by omega) _ _ _ hI (lv_sub hl [2, 3, 4, 5, 6, 0] rfl) hk
          · skip
            refine lv_aload_n hx hb dX9_plan_147 rfl (lv_at hl 1 rfl) ?_
            refine g_get (C := RX9) (T := TX9) (N := 11) (ci := 8) (v := .ref (ad 13)) hx hb hts in_X9_plan_X9 hown hK hI 0 (by decide) (cel_0 cy ad _) rfl 5 (by decide) (by decide +kernel) rfl dX9_plan_148 ?_
            refine lv_iload hx hb dX9_plan_151 (lv_at hl 0 rfl) ?_
            refine lv_aload_n hx hb dX9_plan_153 rfl (lv_at hl 1 rfl) ?_
            refine g_get (C := RX9) (T := TX9) (N := 11) (ci := 8) (v := .ref (ad 3)) hx hb hts in_X9_plan_X9 hown hK hI 0 (by decide) (cel_0 cy ad _) rfl 2 (by decide) (by decide +kernel) rfl dX9_plan_154 ?_
            refine lv_iload hx hb dX9_plan_157 (lv_at hl 0 rfl) ?_
            refine g_V (As := [.int (iI (f_X7_listed σ x7))]) (rest := [.int (iI (f_X7_listed σ x7)), .ref (ad 13)]) 3 (c_X7_placeOf l D cy ad (f_X0_match σ (rc (σ 0 6)) (f_X7_placeOf σ (f_X7_listed σ x7))).2 (f_X7_listed σ x7) (by omega)) hx hb hml hown hts hK hN hI hl.1 gX9_plan_X7_placeOf rfl hd_X7_placeOf rfl rfl ⟨Nat.le_of_ble_eq_true rfl, Nat.le_of_ble_eq_true rfl⟩ ⟨Nat.zero_le _, Nat.zero_le _⟩ (by decide) (cel_3 cy ad _) rfl rfl rfl rfl (Nat.le_of_ble_eq_true rfl) dX9_plan_159 (fun H locs hG_27 hI => ?_)
            refine lv_iload_n hx hb dX9_plan_162 rfl (lv_at hl 3 rfl) ?_
            refine lv_aload_n hx hb dX9_plan_163 rfl (lv_at hl 1 rfl) ?_
            refine g_get (C := RX9) (T := TX9) (N := 11) (ci := 8) (v := .ref (ad 13)) hx hb hts in_X9_plan_X9 hown hK hI 0 (by decide) (cel_0 cy ad _) rfl 5 (by decide) (by decide +kernel) rfl dX9_plan_164 ?_
            refine g_V (As := []) (rest := [.int (iI a2), .ref (ad (f_X7_placeOf (f_X0_match σ (rc (σ 0 6)) (f_X7_placeOf σ (f_X7_listed σ x7))).2 (f_X7_listed σ x7))), .int (iI (f_X7_listed σ x7)), .ref (ad 13)]) 13 (c_X3_size l D cy ad (f_X0_match σ (rc (σ 0 6)) (f_X7_placeOf σ (f_X7_listed σ x7))).2 ) hx hb hml hown hts hK hN hI hl.1 gX9_plan_X3_size rfl hd_X3_size rfl rfl ⟨Nat.le_of_ble_eq_true rfl, Nat.le_of_ble_eq_true rfl⟩ ⟨Nat.zero_le _, Nat.zero_le _⟩ (by decide) (cel_13 cy ad _) rfl rfl rfl rfl (Nat.le_of_ble_eq_true rfl) dX9_plan_167 (fun H locs hG_28 hI => ?_)
            refine lv_iload hx hb dX9_plan_170 (lv_at hl 4 rfl) ?_
            have q5 := mul_rng (a := (f_X3_size (f_X0_match σ (rc (σ 0 6)) (f_X7_placeOf σ (f_X7_listed σ x7))).2)) (b := a3) (x := 39) (y := 99) (by omega) (by omega)
            refine g_imul hx hb dX9_plan_172 ?_
            refine g_iadd hx hb dX9_plan_173 ?_
            refine g_V (As := [.int (iI (f_X7_listed σ x7)), .ref (ad (f_X7_placeOf (f_X0_match σ (rc (σ 0 6)) (f_X7_placeOf σ (f_X7_listed σ x7))).2 (f_X7_listed σ x7))), .int (iI (a2 + ((f_X3_size (f_X0_match σ (rc (σ 0 6)) (f_X7_placeOf σ (f_X7_listed σ x7))).2) * a3)))]) (rest := []) 13 (c_X3_add l D cy ad (f_X0_match σ (rc (σ 0 6)) (f_X7_placeOf σ (f_X7_listed σ x7))).2 (f_X7_listed σ x7) (by omega) (f_X7_placeOf (f_X0_match σ (rc (σ 0 6)) (f_X7_placeOf σ (f_X7_listed σ x7))).2 (f_X7_listed σ x7)) hG_27 (a2 + ((f_X3_size (f_X0_match σ (rc (σ 0 6)) (f_X7_placeOf σ (f_X7_listed σ x7))).2) * a3)) (by omega) (by omega)) hx hb hml hown hts hK hN hI hl.1 gX9_plan_X3_add rfl hd_X3_add rfl rfl ⟨Nat.le_of_ble_eq_true rfl, Nat.le_of_ble_eq_true rfl⟩ ⟨Nat.zero_le _, Nat.zero_le _⟩ (by decide) (cel_13 cy ad _) rfl rfl rfl rfl (Nat.le_of_ble_eq_true rfl) dX9_plan_174 (fun H locs hG_29 hI => ?_)
            have hF_30 := hI.2.2.2
            refine lv_astore (lv' := [(9, .ref (ad ((f_X3_add (f_X0_match σ (rc (σ 0 6)) (f_X7_placeOf σ (f_X7_listed σ x7))).2 (f_X7_listed σ x7) (f_X7_placeOf (f_X0_match σ (rc (σ 0 6)) (f_X7_placeOf σ (f_X7_listed σ x7))).2 (f_X7_listed σ x7)) (a2 + ((f_X3_size (f_X0_match σ (rc (σ 0 6)) (f_X7_placeOf σ (f_X7_listed σ x7))).2) * a3))).1))), (8, .int (iI (f_X7_listed σ x7))), (0, .ref (ad 0)), (2, .int (iI a1)), (3, .int (iI a2)), (4, .int (iI a3)), (6, .int (iI x6)), (7, .int (iI x7))]) hx hb dX9_plan_177 hl (by decide) rfl (fun ls hl => ?_)
            refine lv_aload hx hb dX9_plan_179 (lv_at hl 0 rfl) ?_
            refine lv_aload_n hx hb dX9_plan_181 rfl (lv_at hl 2 rfl) ?_
            refine g_get (C := RX9) (T := TX9) (N := 11) (ci := 8) (v := .ref (ad (rc ((f_X3_add (f_X0_match σ (rc (σ 0 6)) (f_X7_placeOf σ (f_X7_listed σ x7))).2 (f_X7_listed σ x7) (f_X7_placeOf (f_X0_match σ (rc (σ 0 6)) (f_X7_placeOf σ (f_X7_listed σ x7))).2 (f_X7_listed σ x7)) (a2 + ((f_X3_size (f_X0_match σ (rc (σ 0 6)) (f_X7_placeOf σ (f_X7_listed σ x7))).2) * a3))).2 0 6)))) hx hb hts in_X9_plan_X9 hown hK hI 0 (by decide) (cel_0 cy ad _) rfl 6 (by decide) (by decide +kernel) rfl dX9_plan_182 ?_
            refine lv_aload_n hx hb dX9_plan_185 rfl (lv_at hl 2 rfl) ?_
            refine g_get (C := RX9) (T := TX9) (N := 11) (ci := 8) (v := .ref (ad 9)) hx hb hts in_X9_plan_X9 hown hK hI 0 (by decide) (cel_0 cy ad _) rfl 4 (by decide) (by decide +kernel) rfl dX9_plan_186 ?_
            refine lv_iload_n hx hb dX9_plan_189 rfl (lv_at hl 3 rfl) ?_
            refine g_V (As := [.ref (ad (rc ((f_X3_add (f_X0_match σ (rc (σ 0 6)) (f_X7_placeOf σ (f_X7_listed σ x7))).2 (f_X7_listed σ x7) (f_X7_placeOf (f_X0_match σ (rc (σ 0 6)) (f_X7_placeOf σ (f_X7_listed σ x7))).2 (f_X7_listed σ x7)) (a2 + ((f_X3_size (f_X0_match σ (rc (σ 0 6)) (f_X7_placeOf σ (f_X7_listed σ x7))).2) * a3))).2 0 6))), .ref (ad 9), .int (iI a1)]) (rest := []) ((f_X3_add (f_X0_match σ (rc (σ 0 6)) (f_X7_placeOf σ (f_X7_listed σ x7))).2 (f_X7_listed σ x7) (f_X7_placeOf (f_X0_match σ (rc (σ 0 6)) (f_X7_placeOf σ (f_X7_listed σ x7))).2 (f_X7_listed σ x7)) (a2 + ((f_X3_size (f_X0_match σ (rc (σ 0 6)) (f_X7_placeOf σ (f_X7_listed σ x7))).2) * a3))).1) (c_X4_nameBy l D cy ad (f_X3_add (f_X0_match σ (rc (σ 0 6)) (f_X7_placeOf σ (f_X7_listed σ x7))).2 (f_X7_listed σ x7) (f_X7_placeOf (f_X0_match σ (rc (σ 0 6)) (f_X7_placeOf σ (f_X7_listed σ x7))).2 (f_X7_listed σ x7)) (a2 + ((f_X3_size (f_X0_match σ (rc (σ 0 6)) (f_X7_placeOf σ (f_X7_listed σ x7))).2) * a3))).2 ((f_X3_add (f_X0_match σ (rc (σ 0 6)) (f_X7_placeOf σ (f_X7_listed σ x7))).2 (f_X7_listed σ x7) (f_X7_placeOf (f_X0_match σ (rc (σ 0 6)) (f_X7_placeOf σ (f_X7_listed σ x7))).2 (f_X7_listed σ x7)) (a2 + ((f_X3_size (f_X0_match σ (rc (σ 0 6)) (f_X7_placeOf σ (f_X7_listed σ x7))).2) * a3))).1) hG_29.1 (rc ((f_X3_add (f_X0_match σ (rc (σ 0 6)) (f_X7_placeOf σ (f_X7_listed σ x7))).2 (f_X7_listed σ x7) (f_X7_placeOf (f_X0_match σ (rc (σ 0 6)) (f_X7_placeOf σ (f_X7_listed σ x7))).2 (f_X7_listed σ x7)) (a2 + ((f_X3_size (f_X0_match σ (rc (σ 0 6)) (f_X7_placeOf σ (f_X7_listed σ x7))).2) * a3))).2 0 6)) (rc_ru _) a1 (by omega)) hx hb hml hown hts hK hN hI hl.1 gX9_plan_X4_nameBy rfl hd_X4_nameBy rfl rfl ⟨Nat.le_of_ble_eq_true rfl, Nat.le_of_ble_eq_true rfl⟩ ⟨Nat.zero_le _, Nat.zero_le _⟩ (by have q := hG_29.1; omega) (cel_Pd cy ad hG_29.1 _) rfl rfl rfl rfl (Nat.le_of_ble_eq_true rfl) dX9_plan_190 (fun H locs hG_31 hI => ?_)
            have hF_32 := hI.2.2.2
            have q4 : (f_X4_nameBy (f_X3_add (f_X0_match σ (rc (σ 0 6)) (f_X7_placeOf σ (f_X7_listed σ x7))).2 (f_X7_listed σ x7) (f_X7_placeOf (f_X0_match σ (rc (σ 0 6)) (f_X7_placeOf σ (f_X7_listed σ x7))).2 (f_X7_listed σ x7)) (a2 + ((f_X3_size (f_X0_match σ (rc (σ 0 6)) (f_X7_placeOf σ (f_X7_listed σ x7))).2) * a3))).2 ((f_X3_add (f_X0_match σ (rc (σ 0 6)) (f_X7_placeOf σ (f_X7_listed σ x7))).2 (f_X7_listed σ x7) (f_X7_placeOf (f_X0_match σ (rc (σ 0 6)) (f_X7_placeOf σ (f_X7_listed σ x7))).2 (f_X7_listed σ x7)) (a2 + ((f_X3_size (f_X0_match σ (rc (σ 0 6)) (f_X7_placeOf σ (f_X7_listed σ x7))).2) * a3))).1) (rc ((f_X3_add (f_X0_match σ (rc (σ 0 6)) (f_X7_placeOf σ (f_X7_listed σ x7))).2 (f_X7_listed σ x7) (f_X7_placeOf (f_X0_match σ (rc (σ 0 6)) (f_X7_placeOf σ (f_X7_listed σ x7))).2 (f_X7_listed σ x7)) (a2 + ((f_X3_size (f_X0_match σ (rc (σ 0 6)) (f_X7_placeOf σ (f_X7_listed σ x7))).2) * a3))).2 0 6)) a1) 13 = (f_X3_add (f_X0_match σ (rc (σ 0 6)) (f_X7_placeOf σ (f_X7_listed σ x7))).2 (f_X7_listed σ x7) (f_X7_placeOf (f_X0_match σ (rc (σ 0 6)) (f_X7_placeOf σ (f_X7_listed σ x7))).2 (f_X7_listed σ x7)) (a2 + ((f_X3_size (f_X0_match σ (rc (σ 0 6)) (f_X7_placeOf σ (f_X7_listed σ x7))).2) * a3))).2 13 := nameBy_fr _ _ _ _ (by omega) (by omega) (by omega)
            have q3 := congrFun q4 5
            have q2 := congrFun q4 6
            have q1 := congrFun q4 7
            refine lv_iinc (v := iI (x7 + 1)) (lv' := [(7, .int (iI (x7 + 1))), (9, .ref (ad ((f_X3_add (f_X0_match σ (rc (σ 0 6)) (f_X7_placeOf σ (f_X7_listed σ x7))).2 (f_X7_listed σ x7) (f_X7_placeOf (f_X0_match σ (rc (σ 0 6)) (f_X7_placeOf σ (f_X7_listed σ x7))).2 (f_X7_listed σ x7)) (a2 + ((f_X3_size (f_X0_match σ (rc (σ 0 6)) (f_X7_placeOf σ (f_X7_listed σ x7))).2) * a3))).1))), (8, .int (iI (f_X7_listed σ x7))), (0, .ref (ad 0)), (2, .int (iI a1)), (3, .int (iI a2)), (4, .int (iI a3)), (6, .int (iI x6))]) hx hb dX9_plan_193 hl (k := 7) rfl (iI_add _ _) (by decide) rfl (fun ls hl => ?_)
            refine lv_goto (tgt := 84) hx hb dX9_plan_196 (by decide) ?_
            have e9 : L_X9_plan_84 a0 a1 a2 a3 a4 (n + 1) x6 x7 σ = L_X9_plan_84 a0 a1 a2 a3 a4 n x6 (x7 + 1) (f_X4_nameBy (f_X3_add (f_X0_match σ (rc (σ 0 6)) (f_X7_placeOf σ (f_X7_listed σ x7))).2 (f_X7_listed σ x7) (f_X7_placeOf (f_X0_match σ (rc (σ 0 6)) (f_X7_placeOf σ (f_X7_listed σ x7))).2 (f_X7_listed σ x7)) (a2 + ((f_X3_size (f_X0_match σ (rc (σ 0 6)) (f_X7_placeOf σ (f_X7_listed σ x7))).2) * a3))).2 ((f_X3_add (f_X0_match σ (rc (σ 0 6)) (f_X7_placeOf σ (f_X7_listed σ x7))).2 (f_X7_listed σ x7) (f_X7_placeOf (f_X0_match σ (rc (σ 0 6)) (f_X7_placeOf σ (f_X7_listed σ x7))).2 (f_X7_listed σ x7)) (a2 + ((f_X3_size (f_X0_match σ (rc (σ 0 6)) (f_X7_placeOf σ (f_X7_listed σ x7))).2) * a3))).1) (rc ((f_X3_add (f_X0_match σ (rc (σ 0 6)) (f_X7_placeOf σ (f_X7_listed σ x7))).2 (f_X7_listed σ x7) (f_X7_placeOf (f_X0_match σ (rc (σ 0 6)) (f_X7_placeOf σ (f_X7_listed σ x7))).2 (f_X7_listed σ x7)) (a2 + ((f_X3_size (f_X0_match σ (rc (σ 0 6)) (f_X7_placeOf σ (f_X7_listed σ x7))).2) * a3))).2 0 6)) a1) := by rw [L_X9_plan_84, if_neg c_17, if_pos c_19, if_neg c_22, if_neg c_26]
            rw [e9] at hk
            exact ih x6 (x7 + 1) (f_X4_nameBy (f_X3_add (f_X0_match σ (rc (σ 0 6)) (f_X7_placeOf σ (f_X7_listed σ x7))).2 (f_X7_listed σ x7) (f_X7_placeOf (f_X0_match σ (rc (σ 0 6)) (f_X7_placeOf σ (f_X7_listed σ x7))).2 (f_X7_listed σ x7)) (a2 + ((f_X3_size (f_X0_match σ (rc (σ 0 6)) (f_X7_placeOf σ (f_X7_listed σ x7))).2) * a3))).2 ((f_X3_add (f_X0_match σ (rc (σ 0 6)) (f_X7_placeOf σ (f_X7_listed σ x7))).2 (f_X7_listed σ x7) (f_X7_placeOf (f_X0_match σ (rc (σ 0 6)) (f_X7_placeOf σ (f_X7_listed σ x7))).2 (f_X7_listed σ x7)) (a2 + ((f_X3_size (f_X0_match σ (rc (σ 0 6)) (f_X7_placeOf σ (f_X7_listed σ x7))).2) * a3))).1) (rc ((f_X3_add (f_X0_match σ (rc (σ 0 6)) (f_X7_placeOf σ (f_X7_listed σ x7))).2 (f_X7_listed σ x7) (f_X7_placeOf (f_X0_match σ (rc (σ 0 6)) (f_X7_placeOf σ (f_X7_listed σ x7))).2 (f_X7_listed σ x7)) (a2 + ((f_X3_size (f_X0_match σ (rc (σ 0 6)) (f_X7_placeOf σ (f_X7_listed σ x7))).2) * a3))).2 0 6)) a1) (by omega) (by omega) (by omega) (by omega) (by omega) (by omega) (by omega) (by omega) (by omega) _ _ _ hI (lv_sub hl [3, 4, 5, 6, 7, 0] rfl) hk
def f_X9_plan (σ : Sg) (a0 : Int) (a1 : Int) (a2 : Int) (a3 : Int) (a4 : Int) : Int × Sg := (if (σ 0 8) = 0 then ((-1), σ) else (if (f_X9_isFolder a0) = 0 then ((-1), σ) else (if (f_X9_isFolder a1) = 0 then ((-1), σ) else (if a2 < 0 then ((-1), σ) else (if 999 < a2 then ((-1), σ) else (if a3 < 1 then ((-1), σ) else (if a3 ≤ 99 then (if (f_X3_isUnderWay σ) = 0 then (f_X3_size (f_X3_findSteps (f_X3_findTroubles (L_X9_plan_84 a0 a1 a2 a3 a4 41 ((f_X7_list (f_X3_begin σ) a0 a4).1) 0 (f_X7_list (f_X3_begin σ) a0 a4).2))), (f_X3_findSteps (f_X3_findTroubles (L_X9_plan_84 a0 a1 a2 a3 a4 41 ((f_X7_list (f_X3_begin σ) a0 a4).1) 0 (f_X7_list (f_X3_begin σ) a0 a4).2)))) else ((-2), σ)) else ((-1), σ))))))))
theorem hd_X9_plan : yX9_plan.cls = RX9 ∧ yX9_plan.cls ≠ "java/lang/invoke/MethodHandle" ∧ yX9_plan.cls ≠ "java/lang/invoke/VarHandle" ∧ (parseMethodDescriptor yX9_plan.desc).map (fun d => d.parameters.length) = some 5 := by decide +kernel
set_option maxHeartbeats 4000000 in
set_option maxRecDepth 100000 in
theorem c_X9_plan (l : Launch) (D : va_G) (cy : Nat → ClassId) (ad : Nat → Nat) (σ : Sg) (a0 : Int) (ha0 : (-2147483648 ≤ a0 ∧ a0 < 2147483648)) (a1 : Int) (ha1 : (-2147483648 ≤ a1 ∧ a1 < 2147483648)) (a2 : Int) (ha2 : (-2147483648 ≤ a2 ∧ a2 < 2147483648)) (a3 : Int) (ha3 : (-2147483648 ≤ a3 ∧ a3 < 2147483648)) (a4 : Int) (ha4 : (0 : Int) ≤ a4 ∧ a4 ≤ 1) : CM l D cy ad yX9_plan wsX9_plan { frames := 5, cells := 0, slots := 0, locals := 200 } [.ref (ad 0), .int (iI a0), .int (iI a1), .int (iI a2), .int (iI a3), .int (iI a4)] σ (some (.int (iI ((f_X9_plan σ a0 a1 a2 a3 a4).1)))) ((f_X9_plan σ a0 a1 a2 a3 a4).2) (True) := by
  refine CM.of (cc := cX9_plan) (maxL := 10) (ret := (some .int)) (by decide) rfl (Nat.le_of_ble_eq_true rfl) ?_
  intro p e s m args below meth c₀ ls X hI hl
  have hl : lv_has ls 10 [(0, .ref (ad 0)), (1, .int (iI a0)), (2, .int (iI a1)), (3, .int (iI a2)), (4, .int (iI a3)), (5, .int (iI a4))] := hl
  obtain ⟨hx, hb, hr, hml, hown, hts, hlocks, hK, hN⟩ := id X
  have hF := hI.2.2.2
  refine lv_aload_n hx hb dX9_plan_0 rfl (lv_at hl 0 rfl) ?_
  refine g_get (C := RX9) (T := TX9) (N := 11) (ci := 8) (v := .int (iI (σ 0 8))) hx hb hts in_X9_plan_X9 hown hK hI 0 (by decide) (cel_0 cy ad _) rfl 8 (by decide) (by decide +kernel) rfl dX9_plan_1 ?_
  have b_1 := bd_0_8 hF
  refine g_if_eq (tgt := 21) hx hb dX9_plan_4 (by decide) (by omega) (fun c_2 => ?_) (fun c_2 => ?_)
  · skip
    refine lv_iconst (v := iI (-1)) hx hb dX9_plan_21 rfl ?_
    have e9 : f_X9_plan σ a0 a1 a2 a3 a4 = ((-1), σ) := by rw [f_X9_plan, if_pos c_2]
    exact g_iret (z := (-1)) hx hb hr hK hN hlocks hI (by rw [e9]) (by rw [e9]) trivial dX9_plan_22
  · skip
    refine lv_iload_n hx hb dX9_plan_7 rfl (lv_at hl 1 rfl) ?_
    refine g_S (As := [.int (iI a0)]) (rest := []) (c_X9_isFolder l D cy ad σ a0 (by omega)) hx hb hml hown hts hK hN hI hl.1 gX9_plan_X9_isFolder rfl hd_X9_isFolder rfl rfl ⟨Nat.le_of_ble_eq_true rfl, Nat.le_of_ble_eq_true rfl⟩ ⟨Nat.zero_le _, Nat.zero_le _⟩ rfl rfl (Nat.le_of_ble_eq_true rfl) dX9_plan_8 (fun H locs hG_3 hI => ?_)
    refine g_if_eq (tgt := 21) hx hb dX9_plan_11 (by decide) (by omega) (fun c_4 => ?_) (fun c_4 => ?_)
    · skip
      refine lv_iconst (v := iI (-1)) hx hb dX9_plan_21 rfl ?_
      have e9 : f_X9_plan σ a0 a1 a2 a3 a4 = ((-1), σ) := by rw [f_X9_plan, if_neg c_2, if_pos c_4]
      exact g_iret (z := (-1)) hx hb hr hK hN hlocks hI (by rw [e9]) (by rw [e9]) trivial dX9_plan_22
    · skip
      refine lv_iload_n hx hb dX9_plan_14 rfl (lv_at hl 2 rfl) ?_
      refine g_S (As := [.int (iI a1)]) (rest := []) (c_X9_isFolder l D cy ad σ a1 (by omega)) hx hb hml hown hts hK hN hI hl.1 gX9_plan_X9_isFolder rfl hd_X9_isFolder rfl rfl ⟨Nat.le_of_ble_eq_true rfl, Nat.le_of_ble_eq_true rfl⟩ ⟨Nat.zero_le _, Nat.zero_le _⟩ rfl rfl (Nat.le_of_ble_eq_true rfl) dX9_plan_15 (fun H locs hG_5 hI => ?_)
      refine g_if_ne (tgt := 23) hx hb dX9_plan_18 (by decide) (by omega) (fun c_6 => ?_) (fun c_6 => ?_)
      · skip
        refine lv_iload_n hx hb dX9_plan_23 rfl (lv_at hl 3 rfl) ?_
        refine g_if_lt (tgt := 47) hx hb dX9_plan_24 (by decide) (by omega) (fun c_7 => ?_) (fun c_7 => ?_)
        · skip
          refine lv_iconst (v := iI (-1)) hx hb dX9_plan_47 rfl ?_
          have e9 : f_X9_plan σ a0 a1 a2 a3 a4 = ((-1), σ) := by rw [f_X9_plan, if_neg c_2, if_neg c_4, if_neg c_6, if_pos c_7]
          exact g_iret (z := (-1)) hx hb hr hK hN hlocks hI (by rw [e9]) (by rw [e9]) trivial dX9_plan_48
        · skip
          refine lv_iload_n hx hb dX9_plan_27 rfl (lv_at hl 3 rfl) ?_
          refine lv_sipush (v := iI 999) hx hb dX9_plan_28 (iI_sip (by decide)) ?_
          refine g_icmp_gt (tgt := 47) hx hb dX9_plan_31 (by decide) (by omega) (by omega) (fun c_8 => ?_) (fun c_8 => ?_)
          · skip
            refine lv_iconst (v := iI (-1)) hx hb dX9_plan_47 rfl ?_
            have e9 : f_X9_plan σ a0 a1 a2 a3 a4 = ((-1), σ) := by rw [f_X9_plan, if_neg c_2, if_neg c_4, if_neg c_6, if_neg c_7, if_pos c_8]
            exact g_iret (z := (-1)) hx hb hr hK hN hlocks hI (by rw [e9]) (by rw [e9]) trivial dX9_plan_48
          · skip
            refine lv_iload hx hb dX9_plan_34 (lv_at hl 4 rfl) ?_
            refine lv_iconst (v := iI 1) hx hb dX9_plan_36 rfl ?_
            refine g_icmp_lt (tgt := 47) hx hb dX9_plan_37 (by decide) (by omega) (by omega) (fun c_9 => ?_) (fun c_9 => ?_)
            · skip
              refine lv_iconst (v := iI (-1)) hx hb dX9_plan_47 rfl ?_
              have e9 : f_X9_plan σ a0 a1 a2 a3 a4 = ((-1), σ) := by rw [f_X9_plan, if_neg c_2, if_neg c_4, if_neg c_6, if_neg c_7, if_neg c_8, if_pos c_9]
              exact g_iret (z := (-1)) hx hb hr hK hN hlocks hI (by rw [e9]) (by rw [e9]) trivial dX9_plan_48
            · skip
              refine lv_iload hx hb dX9_plan_40 (lv_at hl 4 rfl) ?_
              refine lv_bipush (v := iI 99) hx hb dX9_plan_42 (iI_bip (by decide)) ?_
              refine g_icmp_le (tgt := 49) hx hb dX9_plan_44 (by decide) (by omega) (by omega) (fun c_10 => ?_) (fun c_10 => ?_)
              · skip
                refine lv_aload_n hx hb dX9_plan_49 rfl (lv_at hl 0 rfl) ?_
                refine g_get (C := RX9) (T := TX9) (N := 11) (ci := 8) (v := .ref (ad 13)) hx hb hts in_X9_plan_X9 hown hK hI 0 (by decide) (cel_0 cy ad _) rfl 5 (by decide) (by decide +kernel) rfl dX9_plan_50 ?_
                refine g_V (As := []) (rest := []) 13 (c_X3_isUnderWay l D cy ad σ ) hx hb hml hown hts hK hN hI hl.1 gX9_plan_X3_isUnderWay rfl hd_X3_isUnderWay rfl rfl ⟨Nat.le_of_ble_eq_true rfl, Nat.le_of_ble_eq_true rfl⟩ ⟨Nat.zero_le _, Nat.zero_le _⟩ (by decide) (cel_13 cy ad _) rfl rfl rfl rfl (Nat.le_of_ble_eq_true rfl) dX9_plan_53 (fun H locs hG_11 hI => ?_)
                refine g_if_eq (tgt := 62) hx hb dX9_plan_56 (by decide) (by omega) (fun c_12 => ?_) (fun c_12 => ?_)
                · skip
                  refine lv_aload_n hx hb dX9_plan_62 rfl (lv_at hl 0 rfl) ?_
                  refine g_get (C := RX9) (T := TX9) (N := 11) (ci := 8) (v := .ref (ad 13)) hx hb hts in_X9_plan_X9 hown hK hI 0 (by decide) (cel_0 cy ad _) rfl 5 (by decide) (by decide +kernel) rfl dX9_plan_63 ?_
                  refine g_V (As := []) (rest := []) 13 (c_X3_begin l D cy ad σ ) hx hb hml hown hts hK hN hI hl.1 gX9_plan_X3_begin rfl hd_X3_begin rfl rfl ⟨Nat.le_of_ble_eq_true rfl, Nat.le_of_ble_eq_true rfl⟩ ⟨Nat.zero_le _, Nat.zero_le _⟩ (by decide) (cel_13 cy ad _) rfl rfl rfl rfl (Nat.le_of_ble_eq_true rfl) dX9_plan_66 (fun H locs hG_13 hI => ?_)
                  have hF_14 := hI.2.2.2
                  refine lv_aload_n hx hb dX9_plan_69 rfl (lv_at hl 0 rfl) ?_
                  refine g_get (C := RX9) (T := TX9) (N := 11) (ci := 8) (v := .ref (ad 3)) hx hb hts in_X9_plan_X9 hown hK hI 0 (by decide) (cel_0 cy ad _) rfl 2 (by decide) (by decide +kernel) rfl dX9_plan_70 ?_
                  refine lv_iload_n hx hb dX9_plan_73 rfl (lv_at hl 1 rfl) ?_
                  refine lv_iload hx hb dX9_plan_74 (lv_at hl 5 rfl) ?_
                  refine g_V (As := [.int (iI a0), .int (iI a4)]) (rest := []) 3 (c_X7_list l D cy ad (f_X3_begin σ) a0 (by omega) a4 (by omega)) hx hb hml hown hts hK hN hI hl.1 gX9_plan_X7_list rfl hd_X7_list rfl rfl ⟨Nat.le_of_ble_eq_true rfl, Nat.le_of_ble_eq_true rfl⟩ ⟨Nat.zero_le _, Nat.zero_le _⟩ (by decide) (cel_3 cy ad _) rfl rfl rfl rfl (Nat.le_of_ble_eq_true rfl) dX9_plan_76 (fun H locs hG_15 hI => ?_)
                  have hF_16 := hI.2.2.2
                  have q8 : (f_X7_list (f_X3_begin σ) a0 a4).2 13 5 = 0 := by rw [list_fr _ _ _ (by decide)]; simp [f_X3_begin, up2_at]
                  have q7 : (f_X7_list (f_X3_begin σ) a0 a4).2 13 6 = 0 := by rw [list_fr _ _ _ (by decide)]; simp [f_X3_begin, up2_at]
                  have q6 : (f_X7_list (f_X3_begin σ) a0 a4).2 13 7 = 0 := by rw [list_fr _ _ _ (by decide)]; simp [f_X3_begin, up2_at]
                  refine lv_istore (lv' := [(6, .int (iI ((f_X7_list (f_X3_begin σ) a0 a4).1))), (0, .ref (ad 0)), (1, .int (iI a0)), (2, .int (iI a1)), (3, .int (iI a2)), (4, .int (iI a3)), (5, .int (iI a4))]) hx hb dX9_plan_79 hl (by decide) rfl (fun ls hl => ?_)
                  refine lv_iconst (v := iI 0) hx hb dX9_plan_81 rfl ?_
                  refine lv_istore (lv' := [(7, .int (iI 0)), (6, .int (iI ((f_X7_list (f_X3_begin σ) a0 a4).1))), (0, .ref (ad 0)), (1, .int (iI a0)), (2, .int (iI a1)), (3, .int (iI a2)), (4, .int (iI a3)), (5, .int (iI a4))]) hx hb dX9_plan_82 hl (by decide) rfl (fun ls hl => ?_)
                  refine w_L_X9_plan_84 X  a0 ha0 a1 ha1 a2 ha2 a3 ha3 a4 ha4  41 ((f_X7_list (f_X3_begin σ) a0 a4).1) 0 (f_X7_list (f_X3_begin σ) a0 a4).2 (by omega) (by omega) (by omega) (by omega) (by omega) (by omega) (by omega) (by omega) (by omega) _ _ _ hI (lv_sub hl [2, 4, 5, 6, 1, 0] rfl) (fun H locs ls hpo_34 hI hl => ?_)
                  have hF_33 := hI.2.2.2
                  refine lv_aload_n hx hb dX9_plan_199 rfl (lv_at hl 0 rfl) ?_
                  refine g_get (C := RX9) (T := TX9) (N := 11) (ci := 8) (v := .ref (ad 13)) hx hb hts in_X9_plan_X9 hown hK hI 0 (by decide) (cel_0 cy ad _) rfl 5 (by decide) (by decide +kernel) rfl dX9_plan_200 ?_
                  refine lv_aload_n hx hb dX9_plan_203 rfl (lv_at hl 0 rfl) ?_
                  refine g_get (C := RX9) (T := TX9) (N := 11) (ci := 8) (v := .ref (ad 3)) hx hb hts in_X9_plan_X9 hown hK hI 0 (by decide) (cel_0 cy ad _) rfl 2 (by decide) (by decide +kernel) rfl dX9_plan_204 ?_
                  refine g_V (As := [.ref (ad 3)]) (rest := []) 13 (c_X3_findTroubles l D cy ad (L_X9_plan_84 a0 a1 a2 a3 a4 41 ((f_X7_list (f_X3_begin σ) a0 a4).1) 0 (f_X7_list (f_X3_begin σ) a0 a4).2) (by omega)) hx hb hml hown hts hK hN hI hl.1 gX9_plan_X3_findTroubles rfl hd_X3_findTroubles rfl rfl ⟨Nat.le_of_ble_eq_true rfl, Nat.le_of_ble_eq_true rfl⟩ ⟨Nat.zero_le _, Nat.zero_le _⟩ (by decide) (cel_13 cy ad _) rfl rfl rfl rfl (Nat.le_of_ble_eq_true rfl) dX9_plan_207 (fun H locs hG_35 hI => ?_)
                  have hF_36 := hI.2.2.2
                  have q9 : (f_X3_findTroubles (L_X9_plan_84 a0 a1 a2 a3 a4 41 ((f_X7_list (f_X3_begin σ) a0 a4).1) 0 (f_X7_list (f_X3_begin σ) a0 a4).2)) 13 7 = (L_X9_plan_84 a0 a1 a2 a3 a4 41 ((f_X7_list (f_X3_begin σ) a0 a4).1) 0 (f_X7_list (f_X3_begin σ) a0 a4).2) 13 7 := findTroubles_13 _ (by decide)
                  refine lv_aload_n hx hb dX9_plan_210 rfl (lv_at hl 0 rfl) ?_
                  refine g_get (C := RX9) (T := TX9) (N := 11) (ci := 8) (v := .ref (ad 13)) hx hb hts in_X9_plan_X9 hown hK hI 0 (by decide) (cel_0 cy ad _) rfl 5 (by decide) (by decide +kernel) rfl dX9_plan_211 ?_
                  refine g_V (As := []) (rest := []) 13 (c_X3_findSteps l D cy ad (f_X3_findTroubles (L_X9_plan_84 a0 a1 a2 a3 a4 41 ((f_X7_list (f_X3_begin σ) a0 a4).1) 0 (f_X7_list (f_X3_begin σ) a0 a4).2)) (by omega)) hx hb hml hown hts hK hN hI hl.1 gX9_plan_X3_findSteps rfl hd_X3_findSteps rfl rfl ⟨Nat.le_of_ble_eq_true rfl, Nat.le_of_ble_eq_true rfl⟩ ⟨Nat.zero_le _, Nat.zero_le _⟩ (by decide) (cel_13 cy ad _) rfl rfl rfl rfl (Nat.le_of_ble_eq_true rfl) dX9_plan_214 (fun H locs hG_37 hI => ?_)
                  have hF_38 := hI.2.2.2
                  refine lv_aload_n hx hb dX9_plan_217 rfl (lv_at hl 0 rfl) ?_
                  refine g_get (C := RX9) (T := TX9) (N := 11) (ci := 8) (v := .ref (ad 13)) hx hb hts in_X9_plan_X9 hown hK hI 0 (by decide) (cel_0 cy ad _) rfl 5 (by decide) (by decide +kernel) rfl dX9_plan_218 ?_
                  refine g_V (As := []) (rest := []) 13 (c_X3_size l D cy ad (f_X3_findSteps (f_X3_findTroubles (L_X9_plan_84 a0 a1 a2 a3 a4 41 ((f_X7_list (f_X3_begin σ) a0 a4).1) 0 (f_X7_list (f_X3_begin σ) a0 a4).2))) ) hx hb hml hown hts hK hN hI hl.1 gX9_plan_X3_size rfl hd_X3_size rfl rfl ⟨Nat.le_of_ble_eq_true rfl, Nat.le_of_ble_eq_true rfl⟩ ⟨Nat.zero_le _, Nat.zero_le _⟩ (by decide) (cel_13 cy ad _) rfl rfl rfl rfl (Nat.le_of_ble_eq_true rfl) dX9_plan_221 (fun H locs hG_39 hI => ?_)
                  have e9 : f_X9_plan σ a0 a1 a2 a3 a4 = (f_X3_size (f_X3_findSteps (f_X3_findTroubles (L_X9_plan_84 a0 a1 a2 a3 a4 41 ((f_X7_list (f_X3_begin σ) a0 a4).1) 0 (f_X7_list (f_X3_begin σ) a0 a4).2))), (f_X3_findSteps (f_X3_findTroubles (L_X9_plan_84 a0 a1 a2 a3 a4 41 ((f_X7_list (f_X3_begin σ) a0 a4).1) 0 (f_X7_list (f_X3_begin σ) a0 a4).2)))) := by rw [f_X9_plan, if_neg c_2, if_neg c_4, if_neg c_6, if_neg c_7, if_neg c_8, if_neg c_9, if_pos c_10, if_pos c_12]
                  exact g_iret (z := f_X3_size (f_X3_findSteps (f_X3_findTroubles (L_X9_plan_84 a0 a1 a2 a3 a4 41 ((f_X7_list (f_X3_begin σ) a0 a4).1) 0 (f_X7_list (f_X3_begin σ) a0 a4).2)))) hx hb hr hK hN hlocks hI (by rw [e9]) (by rw [e9]) trivial dX9_plan_224
                · skip
                  refine lv_bipush (v := iI (-2)) hx hb dX9_plan_59 (iI_bip (by decide)) ?_
                  have e9 : f_X9_plan σ a0 a1 a2 a3 a4 = ((-2), σ) := by rw [f_X9_plan, if_neg c_2, if_neg c_4, if_neg c_6, if_neg c_7, if_neg c_8, if_neg c_9, if_pos c_10, if_neg c_12]
                  exact g_iret (z := (-2)) hx hb hr hK hN hlocks hI (by rw [e9]) (by rw [e9]) trivial dX9_plan_61
              · skip
                refine lv_iconst (v := iI (-1)) hx hb dX9_plan_47 rfl ?_
                have e9 : f_X9_plan σ a0 a1 a2 a3 a4 = ((-1), σ) := by rw [f_X9_plan, if_neg c_2, if_neg c_4, if_neg c_6, if_neg c_7, if_neg c_8, if_neg c_9, if_neg c_10]
                exact g_iret (z := (-1)) hx hb hr hK hN hlocks hI (by rw [e9]) (by rw [e9]) trivial dX9_plan_48
      · skip
        refine lv_iconst (v := iI (-1)) hx hb dX9_plan_21 rfl ?_
        have e9 : f_X9_plan σ a0 a1 a2 a3 a4 = ((-1), σ) := by rw [f_X9_plan, if_neg c_2, if_neg c_4, if_pos c_6]
        exact g_iret (z := (-1)) hx hb hr hK hN hlocks hI (by rw [e9]) (by rw [e9]) trivial dX9_plan_22
