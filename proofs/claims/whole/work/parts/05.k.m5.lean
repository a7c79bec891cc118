theorem in_X10_makes_X10 : ∀ w ∈ u_ws RX10 TX10 44, w ∈ wsX10_makes := by decide +kernel
def L_X10_makes_124 (a0 : Int) : Nat → Int → Int → Int → Int → Int → Int → Sg → Sg
  | 0, x2, x3, x4, x5, x6, x7, σ => (σ)
  | n + 1, x2, x3, x4, x5, x6, x7, σ => (if (x6 + (σ 40 x5.toNat)) ≤ x7 then σ else (if (σ 35 x4.toNat) = 36 then L_X10_makes_124 a0 n x2 x3 x4 x5 x6 (x7 + 1) (f_X10_adds σ a0 (σ 29 (((12 * x2) + x7).toNat))) else (if (σ 35 x4.toNat) = 94 then L_X10_makes_124 a0 n x2 x3 x4 x5 x6 (x7 + 1) (f_X10_adds σ a0 (f_X10_high (σ 29 (((12 * x2) + x7).toNat)))) else L_X10_makes_124 a0 n x2 x3 x4 x5 x6 (x7 + 1) (f_X10_adds σ a0 (f_X10_low (σ 29 (((12 * x2) + x7).toNat)))))))
set_option maxHeartbeats 4000000 in
set_option maxRecDepth 100000 in
theorem w_L_X10_makes_124 {p : Program} {l : Launch} {e : Env} {s : State} {m : MethodId} {args : Array Value} {below : List Frame} {meth : Method} {c₀ : Code} {D : va_G} {cy : Nat → ClassId} {ad : Nat → Nat} {Q : State → Prop} (X : MX p s m args meth c₀ cX10_makes 9 RX10 none wsX10_makes D cy) (a0 : Int) (ha0 : (0 : Int) ≤ a0 ∧ a0 ≤ 39) (g0 : Int) : ∀ (n : Nat) (x2 : Int) (x3 : Int) (x4 : Int) (x5 : Int) (x6 : Int) (x7 : Int) (σ : Sg) (hx2 : (0 : Int) ≤ x2 ∧ x2 ≤ 39) (hx3 : (0 : Int) ≤ x3 ∧ x3 ≤ 1) (hx4 : (0 : Int) ≤ x4 ∧ x4 ≤ 11) (hx5 : (0 : Int) ≤ x5 ∧ x5 ≤ 11) (hx6 : (0 : Int) ≤ x6 ∧ x6 ≤ 144) (hx7 : (0 : Int) ≤ x7 ∧ x7 ≤ 157) (hp0 : RuleOK σ) (hp1 : σ 44 a0.toNat ≤ g0 + (x7 - x6)) (hp2 : g0 ≤ 5000) (hp3 : x6 ≤ x7) (hmu : 157 - x7 < (n : Int)) (H : Heap) (locs : List Loc) (ls : Array Slot) (hI : HI D cy ad s σ H locs) (hl : lv_has ls 9 [(0, .ref (ad 28)), (1, .int (iI a0)), (2, .int (iI x2)), (3, .int (iI x3)), (4, .int (iI x4)), (5, .int (iI x5)), (6, .int (iI x6)), (7, .int (iI x7))])  (hk : ∀ (H1 : Heap) (locs1 : List Loc) (ls1 : Array Slot), (RuleOK (L_X10_makes_124 a0 n x2 x3 x4 x5 x6 x7 σ) ∧ (L_X10_makes_124 a0 n x2 x3 x4 x5 x6 x7 σ) 44 a0.toNat ≤ g0 + 157) → HI D cy ad s (L_X10_makes_124 a0 n x2 x3 x4 x5 x6 x7 σ) H1 locs1 → lv_has ls1 9 [(0, .ref (ad 28)), (1, .int (iI a0)), (2, .int (iI x2)), (3, .int (iI x3)), (4, .int (iI x4))] → W p l e { frames := 27, cells := 0, slots := 0, locals := 1080 } s m args below meth c₀ H1 locs1 0 0 Q (F0 m 206 ls1 [])), W p l e { frames := 27, cells := 0, slots := 0, locals := 1080 } s m args below meth c₀ H locs 0 0 Q (F0 m 124 ls []) := by
  obtain ⟨hx, hb, hr, hml, hown, hts, hlocks, hK, hN⟩ := id X
  intro n
  induction n with
  | zero =>
    intro x2 x3 x4 x5 x6 x7 σ hx2 hx3 hx4 hx5 hx6 hx7 hp0 hp1 hp2 hp3 hmu H locs ls hI hl hk
    exfalso
    have hF := hI.2.2.2
    omega
  | succ n ih =>
    intro x2 x3 x4 x5 x6 x7 σ hx2 hx3 hx4 hx5 hx6 hx7 hp0 hp1 hp2 hp3 hmu H locs ls hI hl hk
    have hF := hI.2.2.2
    refine lv_iload hx hb dX10_makes_124 (lv_at hl 7 rfl) ?_
    refine lv_iload hx hb dX10_makes_126 (lv_at hl 6 rfl) ?_
    refine lv_aload_n hx hb dX10_makes_128 rfl (lv_at hl 0 rfl) ?_
    refine g_get (C := RX10) (T := TX10) (N := 44) (ci := 9) (v := .ref (ad 40)) hx hb hts in_X10_makes_X10 hown hK hI 28 (by decide) (cel_28 cy ad _) rfl 23 (by decide) (by decide +kernel) rfl dX10_makes_129 ?_
    refine lv_iload hx hb dX10_makes_132 (lv_at hl 5 rfl) ?_
    refine g_iald (v := σ 40 x5.toNat) hx hb hK hI 40 (by decide) (cel_40 cy ad) (by omega) (by decide) rfl dX10_makes_134 ?_
    have b_15 := bd_40 hF x5.toNat
    refine g_iadd hx hb dX10_makes_135 ?_
    refine g_icmp_ge (tgt := 206) hx hb dX10_makes_136 (by decide) (by omega) (by omega) (fun c_16 => ?_) (fun c_16 => ?_)
    · skip
      have e9 : L_X10_makes_124 a0 (n + 1) x2 x3 x4 x5 x6 x7 σ = σ := by rw [L_X10_makes_124, if_pos c_16]
      rw [e9] at hk
      exact hk _ _ _ (by first | (exact ⟨hp0, by omega⟩) | (dsimp only; exact ⟨hp0, by omega⟩)) hI (lv_sub hl [0, 1, 2, 3, 4] rfl)
    · skip
      refine lv_aload_n hx hb dX10_makes_139 rfl (lv_at hl 0 rfl) ?_
      refine g_get (C := RX10) (T := TX10) (N := 44) (ci := 9) (v := .ref (ad 29)) hx hb hts in_X10_makes_X10 hown hK hI 28 (by decide) (cel_28 cy ad _) rfl 1 (by decide) (by decide +kernel) rfl dX10_makes_140 ?_
      refine lv_bipush (v := iI 12) hx hb dX10_makes_143 (iI_bip (by decide)) ?_
      refine lv_iload_n hx hb dX10_makes_145 rfl (lv_at hl 2 rfl) ?_
      refine g_imul hx hb dX10_makes_146 ?_
      refine lv_iload hx hb dX10_makes_147 (lv_at hl 7 rfl) ?_
      refine g_iadd hx hb dX10_makes_149 ?_
      refine g_bald (v := σ 29 (((12 * x2) + x7).toNat)) hx hb hK hI 29 (by decide) (cel_29 cy ad) (by omega) (by decide) rfl dX10_makes_150 ?_
      have b_17 := bd_29 hF (((12 * x2) + x7).toNat)
      refine lv_istore (lv' := [(8, .int (iI (σ 29 (((12 * x2) + x7).toNat)))), (0, .ref (ad 28)), (1, .int (iI a0)), (2, .int (iI x2)), (3, .int (iI x3)), (4, .int (iI x4)), (5, .int (iI x5)), (6, .int (iI x6)), (7, .int (iI x7))]) hx hb dX10_makes_151 hl (by decide) rfl (fun ls hl => ?_)
      refine lv_aload_n hx hb dX10_makes_153 rfl (lv_at hl 1 rfl) ?_
      refine lv_iload_n hx hb dX10_makes_154 rfl (lv_at hl 2 rfl) ?_
      refine lv_aload_n hx hb dX10_makes_155 rfl (lv_at hl 1 rfl) ?_
      refine g_get (C := RX10) (T := TX10) (N := 44) (ci := 9) (v := .ref (ad 35)) hx hb hts in_X10_makes_X10 hown hK hI 28 (by decide) (cel_28 cy ad _) rfl 13 (by decide) (by decide +kernel) rfl dX10_makes_156 ?_
      refine lv_iload hx hb dX10_makes_159 (lv_at hl 5 rfl) ?_
      refine g_iald (v := σ 35 x4.toNat) hx hb hK hI 35 (by decide) (cel_35 cy ad) (by omega) (by decide) rfl dX10_makes_161 ?_
      have b_18 := bd_35 hF x4.toNat
      refine lv_bipush (v := iI 36) hx hb dX10_makes_162 (iI_bip (by decide)) ?_
      refine g_icmp_ne (tgt := 172) hx hb dX10_makes_164 (by decide) (by omega) (by omega) (fun c_19 => ?_) (fun c_19 => ?_)
      · skip
        refine lv_aload_n hx hb dX10_makes_172 rfl (lv_at hl 1 rfl) ?_
        refine g_get (C := RX10) (T := TX10) (N := 44) (ci := 9) (v := .ref (ad 35)) hx hb hts in_X10_makes_X10 hown hK hI 28 (by decide) (cel_28 cy ad _) rfl 13 (by decide) (by decide +kernel) rfl dX10_makes_173 ?_
        refine lv_iload hx hb dX10_makes_176 (lv_at hl 5 rfl) ?_
        refine g_iald (v := σ 35 x4.toNat) hx hb hK hI 35 (by decide) (cel_35 cy ad) (by omega) (by decide) rfl dX10_makes_178 ?_
        have b_20 := bd_35 hF x4.toNat
        refine lv_bipush (v := iI 94) hx hb dX10_makes_179 (iI_bip (by decide)) ?_
        refine g_icmp_ne (tgt := 192) hx hb dX10_makes_181 (by decide) (by omega) (by omega) (fun c_21 => ?_) (fun c_21 => ?_)
        · skip
          refine lv_iload hx hb dX10_makes_192 (lv_at hl 0 rfl) ?_
          refine g_S (As := [.int (iI (σ 29 (((12 * x2) + x7).toNat)))]) (rest := [.int (iI a0), .ref (ad 28)]) (c_X10_low l D cy ad σ (σ 29 (((12 * x2) + x7).toNat)) (by omega)) hx hb hml hown hts hK hN hI hl.1 gX10_makes_X10_low rfl hd_X10_low rfl rfl ⟨Nat.le_of_ble_eq_true rfl, Nat.le_of_ble_eq_true rfl⟩ ⟨Nat.zero_le _, Nat.zero_le _⟩ rfl rfl (Nat.le_of_ble_eq_true rfl) dX10_makes_194 (fun H locs hG_22 hI => ?_)
          refine g_V (As := [.int (iI a0), .int (iI (f_X10_low (σ 29 (((12 * x2) + x7).toNat))))]) (rest := []) 28 (c_X10_adds l D cy ad σ a0 (by omega) (f_X10_low (σ 29 (((12 * x2) + x7).toNat))) (by omega) (by omega)) hx hb hml hown hts hK hN hI hl.1 gX10_makes_X10_adds rfl hd_X10_adds rfl rfl ⟨Nat.le_of_ble_eq_true rfl, Nat.le_of_ble_eq_true rfl⟩ ⟨Nat.zero_le _, Nat.zero_le _⟩ (by decide) (cel_28 cy ad _) rfl rfl rfl rfl (Nat.le_of_ble_eq_true rfl) dX10_makes_197 (fun H locs hG_23 hI => ?_)
          have hF_24 := hI.2.2.2
          refine lv_iinc (v := iI (x7 + 1)) (lv' := [(7, .int (iI (x7 + 1))), (8, .int (iI (σ 29 (((12 * x2) + x7).toNat)))), (0, .ref (ad 28)), (1, .int (iI a0)), (2, .int (iI x2)), (3, .int (iI x3)), (4, .int (iI x4)), (5, .int (iI x5)), (6, .int (iI x6))]) hx hb dX10_makes_200 hl (k := 8) rfl (iI_add _ _) (by decide) rfl (fun ls hl => ?_)
          refine lv_goto (tgt := 124) hx hb dX10_makes_203 (by decide) ?_
          have e9 : L_X10_makes_124 a0 (n + 1) x2 x3 x4 x5 x6 x7 σ = L_X10_makes_124 a0 n x2 x3 x4 x5 x6 (x7 + 1) (f_X10_adds σ a0 (f_X10_low (σ 29 (((12 * x2) + x7).toNat)))) := by rw [L_X10_makes_124, if_neg c_16, if_neg c_19, if_neg c_21]
          rw [e9] at hk
          exact ih x2 x3 x4 x5 x6 (x7 + 1) (f_X10_adds σ a0 (f_X10_low (σ 29 (((12 * x2) + x7).toNat)))) (by omega) (by omega) (by omega) (by omega) (by omega) (by omega) (by first | exact hp0 | exact hp0.fr (fun x hx => adds_fr _ _ _ (by omega) (by omega))) (by omega) (by omega) (by omega) (by omega) _ _ _ hI (lv_sub hl [2, 3, 4, 5, 6, 7, 8, 0] rfl) hk
        · skip
          refine lv_iload hx hb dX10_makes_184 (lv_at hl 0 rfl) ?_
          refine g_S (As := [.int (iI (σ 29 (((12 * x2) + x7).toNat)))]) (rest := [.int (iI a0), .ref (ad 28)]) (c_X10_high l D cy ad σ (σ 29 (((12 * x2) + x7).toNat)) (by omega)) hx hb hml hown hts hK hN hI hl.1 gX10_makes_X10_high rfl hd_X10_high rfl rfl ⟨Nat.le_of_ble_eq_true rfl, Nat.le_of_ble_eq_true rfl⟩ ⟨Nat.zero_le _, Nat.zero_le _⟩ rfl rfl (Nat.le_of_ble_eq_true rfl) dX10_makes_186 (fun H locs hG_25 hI => ?_)
          refine lv_goto (tgt := 197) hx hb dX10_makes_189 (by decide) ?_
          refine g_V (As := [.int (iI a0), .int (iI (f_X10_high (σ 29 (((12 * x2) + x7).toNat))))]) (rest := []) 28 (c_X10_adds l D cy ad σ a0 (by omega) (f_X10_high (σ 29 (((12 * x2) + x7).toNat))) (by omega) (by omega)) hx hb hml hown hts hK hN hI hl.1 gX10_makes_X10_adds rfl hd_X10_adds rfl rfl ⟨Nat.le_of_ble_eq_true rfl, Nat.le_of_ble_eq_true rfl⟩ ⟨Nat.zero_le _, Nat.zero_le _⟩ (by decide) (cel_28 cy ad _) rfl rfl rfl rfl (Nat.le_of_ble_eq_true rfl) dX10_makes_197 (fun H locs hG_26 hI => ?_)
          have hF_27 := hI.2.2.2
          refine lv_iinc (v := iI (x7 + 1)) (lv' := [(7, .int (iI (x7 + 1))), (8, .int (iI (σ 29 (((12 * x2) + x7).toNat)))), (0, .ref (ad 28)), (1, .int (iI a0)), (2, .int (iI x2)), (3, .int (iI x3)), (4, .int (iI x4)), (5, .int (iI x5)), (6, .int (iI x6))]) hx hb dX10_makes_200 hl (k := 8) rfl (iI_add _ _) (by decide) rfl (fun ls hl => ?_)
          refine lv_goto (tgt := 124) hx hb dX10_makes_203 (by decide) ?_
          have e9 : L_X10_makes_124 a0 (n + 1) x2 x3 x4 x5 x6 x7 σ = L_X10_makes_124 a0 n x2 x3 x4 x5 x6 (x7 + 1) (f_X10_adds σ a0 (f_X10_high (σ 29 (((12 * x2) + x7).toNat)))) := by rw [L_X10_makes_124, if_neg c_16, if_neg c_19, if_pos c_21]
          rw [e9] at hk
          exact ih x2 x3 x4 x5 x6 (x7 + 1) (f_X10_adds σ a0 (f_X10_high (σ 29 (((12 * x2) + x7).toNat)))) (by omega) (by omega) (by omega) (by omega) (by omega) (by omega) (by first | exact hp0 | exact hp0.fr (fun x hx => adds_fr _ _ _ (by omega) (by omega))) (by omega) (by omega) (by omega) (by omega) _ _ _ hI (lv_sub hl [2, 3, 4, 5, 6, 7, 8, 0] rfl) hk
      · skip
        refine lv_iload hx hb dX10_makes_167 (lv_at hl 0 rfl) ?_
        refine lv_goto (tgt := 197) hx hb dX10_makes_169 (by decide) ?_
        refine g_V (As := [.int (iI a0), .int (iI (σ 29 (((12 * x2) + x7).toNat)))]) (rest := []) 28 (c_X10_adds l D cy ad σ a0 (by omega) (σ 29 (((12 * x2) + x7).toNat)) (by omega) (by omega)) hx hb hml hown hts hK hN hI hl.1 gX10_makes_X10_adds rfl hd_X10_adds rfl rfl ⟨Nat.le_of_ble_eq_true rfl, Nat.le_of_ble_eq_true rfl⟩ ⟨Nat.zero_le _, Nat.zero_le _⟩ (by decide) (cel_28 cy ad _) rfl rfl rfl rfl (Nat.le_of_ble_eq_true rfl) dX10_makes_197 (fun H locs hG_28 hI => ?_)
        have hF_29 := hI.2.2.2
        refine lv_iinc (v := iI (x7 + 1)) (lv' := [(7, .int (iI (x7 + 1))), (8, .int (iI (σ 29 (((12 * x2) + x7).toNat)))), (0, .ref (ad 28)), (1, .int (iI a0)), (2, .int (iI x2)), (3, .int (iI x3)), (4, .int (iI x4)), (5, .int (iI x5)), (6, .int (iI x6))]) hx hb dX10_makes_200 hl (k := 8) rfl (iI_add _ _) (by decide) rfl (fun ls hl => ?_)
        refine lv_goto (tgt := 124) hx hb dX10_makes_203 (by decide) ?_
        have e9 : L_X10_makes_124 a0 (n + 1) x2 x3 x4 x5 x6 x7 σ = L_X10_makes_124 a0 n x2 x3 x4 x5 x6 (x7 + 1) (f_X10_adds σ a0 (σ 29 (((12 * x2) + x7).toNat))) := by rw [L_X10_makes_124, if_neg c_16, if_pos c_19]
        rw [e9] at hk
        exact ih x2 x3 x4 x5 x6 (x7 + 1) (f_X10_adds σ a0 (σ 29 (((12 * x2) + x7).toNat))) (by omega) (by omega) (by omega) (by omega) (by omega) (by omega) (by first | exact hp0 | exact hp0.fr (fun x hx => adds_fr _ _ _ (by omega) (by omega))) (by omega) (by omega) (by omega) (by omega) _ _ _ hI (lv_sub hl [2, 3, 4, 5, 6, 7, 8, 0] rfl) hk
def L_X10_makes_23 (a0 : Int) : Nat → Int → Int → Int → Sg → Sg
  | 0, x2, x3, x4, σ => (σ)
  | n + 1, x2, x3, x4, σ => (if (σ 28 11) ≤ x4 then σ else (if x3 = 0 then σ else (if (σ 35 x4.toNat) = 37 then L_X10_makes_23 a0 n x2 x3 (x4 + 1) (f_X10_addsCounter σ a0 (σ 36 x4.toNat)) else (if (σ 35 x4.toNat) = 36 then L_X10_makes_23 a0 n x2 x3 (x4 + 1) (L_X10_makes_124 a0 158 x2 x3 x4 (f_X10_wild σ (σ 36 x4.toNat)) (f_X10_firstOf σ (f_X10_wild σ (σ 36 x4.toNat))) (f_X10_firstOf σ (f_X10_wild σ (σ 36 x4.toNat))) σ) else (if (σ 35 x4.toNat) = 94 then L_X10_makes_23 a0 n x2 x3 (x4 + 1) (L_X10_makes_124 a0 158 x2 x3 x4 (f_X10_wild σ (σ 36 x4.toNat)) (f_X10_firstOf σ (f_X10_wild σ (σ 36 x4.toNat))) (f_X10_firstOf σ (f_X10_wild σ (σ 36 x4.toNat))) σ) else (if (σ 35 x4.toNat) = 33 then L_X10_makes_23 a0 n x2 x3 (x4 + 1) (L_X10_makes_124 a0 158 x2 x3 x4 (f_X10_wild σ (σ 36 x4.toNat)) (f_X10_firstOf σ (f_X10_wild σ (σ 36 x4.toNat))) (f_X10_firstOf σ (f_X10_wild σ (σ 36 x4.toNat))) σ) else L_X10_makes_23 a0 n x2 x3 (x4 + 1) (f_X10_adds σ a0 (σ 35 x4.toNat))))))))
set_option maxHeartbeats 4000000 in
set_option maxRecDepth 100000 in
theorem w_L_X10_makes_23 {p : Program} {l : Launch} {e : Env} {s : State} {m : MethodId} {args : Array Value} {below : List Frame} {meth : Method} {c₀ : Code} {D : va_G} {cy : Nat → ClassId} {ad : Nat → Nat} {Q : State → Prop} (X : MX p s m args meth c₀ cX10_makes 9 RX10 none wsX10_makes D cy) (a0 : Int) (ha0 : (0 : Int) ≤ a0 ∧ a0 ≤ 39) : ∀ (n : Nat) (x2 : Int) (x3 : Int) (x4 : Int) (σ : Sg) (hx2 : (0 : Int) ≤ x2 ∧ x2 ≤ 39) (hx3 : (0 : Int) ≤ x3 ∧ x3 ≤ 1) (hx4 : (0 : Int) ≤ x4 ∧ x4 ≤ 12) (hp0 : RuleOK σ) (hp1 : σ 44 a0.toNat ≤ 300 * x4) (hmu : 12 - x4 < (n : Int)) (H : Heap) (locs : List Loc) (ls : Array Slot) (hI : HI D cy ad s σ H locs) (hl : lv_has ls 9 [(0, .ref (ad 28)), (1, .int (iI a0)), (2, .int (iI x2)), (3, .int (iI x3)), (4, .int (iI x4))])  (hk : ∀ (H1 : Heap) (locs1 : List Loc) (ls1 : Array Slot), True → HI D cy ad s (L_X10_makes_23 a0 n x2 x3 x4 σ) H1 locs1 → lv_has ls1 9 [(0, .ref (ad 28)), (1, .int (iI a0))] → W p l e { frames := 27, cells := 0, slots := 0, locals := 1080 } s m args below meth c₀ H1 locs1 0 0 Q (F0 m 227 ls1 [])), W p l e { frames := 27, cells := 0, slots := 0, locals := 1080 } s m args below meth c₀ H locs 0 0 Q (F0 m 23 ls []) := by
  obtain ⟨hx, hb, hr, hml, hown, hts, hlocks, hK, hN⟩ := id X
  intro n
  induction n with
  | zero =>
    intro x2 x3 x4 σ hx2 hx3 hx4 hp0 hp1 hmu H locs ls hI hl hk
    exfalso
    have hF := hI.2.2.2
    omega
  | succ n ih =>
    intro x2 x3 x4 σ hx2 hx3 hx4 hp0 hp1 hmu H locs ls hI hl hk
    have hF := hI.2.2.2
    refine lv_iload hx hb dX10_makes_23 (lv_at hl 4 rfl) ?_
    refine lv_aload_n hx hb dX10_makes_25 rfl (lv_at hl 0 rfl) ?_
    refine g_get (C := RX10) (T := TX10) (N := 44) (ci := 9) (v := .int (iI (σ 28 11))) hx hb hts in_X10_makes_X10 hown hK hI 28 (by decide) (cel_28 cy ad _) rfl 11 (by decide) (by decide +kernel) rfl dX10_makes_26 ?_
    have b_5 := bd_28_11 hF
    refine g_icmp_ge (tgt := 227) hx hb dX10_makes_29 (by decide) (by omega) (by omega) (fun c_6 => ?_) (fun c_6 => ?_)
    · skip
      have e9 : L_X10_makes_23 a0 (n + 1) x2 x3 x4 σ = σ := by rw [L_X10_makes_23, if_pos c_6]
      rw [e9] at hk
      exact hk _ _ _ trivial hI (lv_sub hl [0, 1] rfl)
    · skip
      refine lv_iload_n hx hb dX10_makes_32 rfl (lv_at hl 3 rfl) ?_
      refine g_if_eq (tgt := 227) hx hb dX10_makes_33 (by decide) (by omega) (fun c_7 => ?_) (fun c_7 => ?_)
      · skip
        have e9 : L_X10_makes_23 a0 (n + 1) x2 x3 x4 σ = σ := by rw [L_X10_makes_23, if_neg c_6, if_pos c_7]
        rw [e9] at hk
        exact hk _ _ _ trivial hI (lv_sub hl [0, 1] rfl)
      · skip
        refine lv_aload_n hx hb dX10_makes_36 rfl (lv_at hl 0 rfl) ?_
        refine g_get (C := RX10) (T := TX10) (N := 44) (ci := 9) (v := .ref (ad 35)) hx hb hts in_X10_makes_X10 hown hK hI 28 (by decide) (cel_28 cy ad _) rfl 13 (by decide) (by decide +kernel) rfl dX10_makes_37 ?_
        refine lv_iload hx hb dX10_makes_40 (lv_at hl 4 rfl) ?_
        refine g_iald (v := σ 35 x4.toNat) hx hb hK hI 35 (by decide) (cel_35 cy ad) (by omega) (by decide) rfl dX10_makes_42 ?_
        have b_8 := bd_35 hF x4.toNat
        refine lv_bipush (v := iI 37) hx hb dX10_makes_43 (iI_bip (by decide)) ?_
        refine g_icmp_ne (tgt := 63) hx hb dX10_makes_45 (by decide) (by omega) (by omega) (fun c_9 => ?_) (fun c_9 => ?_)
        · skip
          refine lv_aload_n hx hb dX10_makes_63 rfl (lv_at hl 0 rfl) ?_
          refine g_get (C := RX10) (T := TX10) (N := 44) (ci := 9) (v := .ref (ad 35)) hx hb hts in_X10_makes_X10 hown hK hI 28 (by decide) (cel_28 cy ad _) rfl 13 (by decide) (by decide +kernel) rfl dX10_makes_64 ?_
          refine lv_iload hx hb dX10_makes_67 (lv_at hl 4 rfl) ?_
          refine g_iald (v := σ 35 x4.toNat) hx hb hK hI 35 (by decide) (cel_35 cy ad) (by omega) (by decide) rfl dX10_makes_69 ?_
          have b_10 := bd_35 hF x4.toNat
          refine lv_bipush (v := iI 36) hx hb dX10_makes_70 (iI_bip (by decide)) ?_
          refine g_icmp_eq (tgt := 99) hx hb dX10_makes_72 (by decide) (by omega) (by omega) (fun c_11 => ?_) (fun c_11 => ?_)
          · skip
            refine lv_aload_n hx hb dX10_makes_99 rfl (lv_at hl 0 rfl) ?_
            refine lv_aload_n hx hb dX10_makes_100 rfl (lv_at hl 0 rfl) ?_
            refine g_get (C := RX10) (T := TX10) (N := 44) (ci := 9) (v := .ref (ad 36)) hx hb hts in_X10_makes_X10 hown hK hI 28 (by decide) (cel_28 cy ad _) rfl 14 (by decide) (by decide +kernel) rfl dX10_makes_101 ?_
            refine lv_iload hx hb dX10_makes_104 (lv_at hl 4 rfl) ?_
            refine g_iald (v := σ 36 x4.toNat) hx hb hK hI 36 (by decide) (cel_36 cy ad) (by omega) (by decide) rfl dX10_makes_106 ?_
            have b_12 := bd_36 hF x4.toNat
            refine g_V (As := [.int (iI (σ 36 x4.toNat))]) (rest := []) 28 (c_X10_wild l D cy ad σ (σ 36 x4.toNat) (by omega)) hx hb hml hown hts hK hN hI hl.1 gX10_makes_X10_wild rfl hd_X10_wild rfl rfl ⟨Nat.le_of_ble_eq_true rfl, Nat.le_of_ble_eq_true rfl⟩ ⟨Nat.zero_le _, Nat.zero_le _⟩ (by decide) (cel_28 cy ad _) rfl rfl rfl rfl (Nat.le_of_ble_eq_true rfl) dX10_makes_107 (fun H locs hG_13 hI => ?_)
            have q5 := hp0 x4.toNat (by omega) (by omega)
            refine lv_istore (lv' := [(5, .int (iI (f_X10_wild σ (σ 36 x4.toNat)))), (0, .ref (ad 28)), (1, .int (iI a0)), (2, .int (iI x2)), (3, .int (iI x3)), (4, .int (iI x4))]) hx hb dX10_makes_110 hl (by decide) rfl (fun ls hl => ?_)
            refine lv_aload_n hx hb dX10_makes_112 rfl (lv_at hl 1 rfl) ?_
            refine lv_iload hx hb dX10_makes_113 (lv_at hl 0 rfl) ?_
            refine g_V (As := [.int (iI (f_X10_wild σ (σ 36 x4.toNat)))]) (rest := []) 28 (c_X10_firstOf l D cy ad σ (f_X10_wild σ (σ 36 x4.toNat)) (by omega)) hx hb hml hown hts hK hN hI hl.1 gX10_makes_X10_firstOf rfl hd_X10_firstOf rfl rfl ⟨Nat.le_of_ble_eq_true rfl, Nat.le_of_ble_eq_true rfl⟩ ⟨Nat.zero_le _, Nat.zero_le _⟩ (by decide) (cel_28 cy ad _) rfl rfl rfl rfl (Nat.le_of_ble_eq_true rfl) dX10_makes_115 (fun H locs hG_14 hI => ?_)
            refine lv_istore (lv' := [(6, .int (iI (f_X10_firstOf σ (f_X10_wild σ (σ 36 x4.toNat))))), (5, .int (iI (f_X10_wild σ (σ 36 x4.toNat)))), (0, .ref (ad 28)), (1, .int (iI a0)), (2, .int (iI x2)), (3, .int (iI x3)), (4, .int (iI x4))]) hx hb dX10_makes_118 hl (by decide) rfl (fun ls hl => ?_)
            refine lv_iload hx hb dX10_makes_120 (lv_at hl 0 rfl) ?_
            refine lv_istore (lv' := [(7, .int (iI (f_X10_firstOf σ (f_X10_wild σ (σ 36 x4.toNat))))), (6, .int (iI (f_X10_firstOf σ (f_X10_wild σ (σ 36 x4.toNat))))), (5, .int (iI (f_X10_wild σ (σ 36 x4.toNat)))), (0, .ref (ad 28)), (1, .int (iI a0)), (2, .int (iI x2)), (3, .int (iI x3)), (4, .int (iI x4))]) hx hb dX10_makes_122 hl (by decide) rfl (fun ls hl => ?_)
            refine w_L_X10_makes_124 X  a0 ha0  (σ 44 a0.toNat) 158 x2 x3 x4 (f_X10_wild σ (σ 36 x4.toNat)) (f_X10_firstOf σ (f_X10_wild σ (σ 36 x4.toNat))) (f_X10_firstOf σ (f_X10_wild σ (σ 36 x4.toNat))) σ (by omega) (by omega) (by omega) (by omega) (by omega) (by omega) (by first | exact hp0 | exact hp0.fr (fun x hx => adds_fr _ _ _ (by omega) (by omega))) (by omega) (by omega) (by omega) (by omega) _ _ _ hI (lv_sub hl [3, 4, 5, 6, 7, 2, 1, 0] rfl) (fun H locs ls hpo_31 hI hl => ?_)
            have hF_30 := hI.2.2.2
            have hpoR := hpo_31.1
            have hpo2 := hpo_31.2
            refine lv_goto (tgt := 221) hx hb dX10_makes_206 (by decide) ?_
            refine lv_iinc (v := iI (x4 + 1)) (lv' := [(4, .int (iI (x4 + 1))), (0, .ref (ad 28)), (1, .int (iI a0)), (2, .int (iI x2)), (3, .int (iI x3))]) hx hb dX10_makes_221 hl (k := 4) rfl (iI_add _ _) (by decide) rfl (fun ls hl => ?_)
            refine lv_goto (tgt := 23) hx hb dX10_makes_224 (by decide) ?_
            have e9 : L_X10_makes_23 a0 (n + 1) x2 x3 x4 σ = L_X10_makes_23 a0 n x2 x3 (x4 + 1) (L_X10_makes_124 a0 158 x2 x3 x4 (f_X10_wild σ (σ 36 x4.toNat)) (f_X10_firstOf σ (f_X10_wild σ (σ 36 x4.toNat))) (f_X10_firstOf σ (f_X10_wild σ (σ 36 x4.toNat))) σ) := by rw [L_X10_makes_23, if_neg c_6, if_neg c_7, if_neg c_9, if_pos c_11]
            rw [e9] at hk
            exact ih x2 x3 (x4 + 1) (L_X10_makes_124 a0 158 x2 x3 x4 (f_X10_wild σ (σ 36 x4.toNat)) (f_X10_firstOf σ (f_X10_wild σ (σ 36 x4.toNat))) (f_X10_firstOf σ (f_X10_wild σ (σ 36 x4.toNat))) σ) (by omega) (by omega) (by omega) (by first | exact hp0.fr (fun x hx => addsCounter_fr _ _ _ (by omega) (by omega)) | exact hp0.fr (fun x hx => adds_fr _ _ _ (by omega) (by omega)) | exact hpoR | exact hR1) (by first | omega | (rw [up2_same]; omega)) (by omega) _ _ _ hI (lv_sub hl [1, 2, 3, 4, 0] rfl) hk
          · skip
            refine lv_aload_n hx hb dX10_makes_75 rfl (lv_at hl 0 rfl) ?_
            refine g_get (C := RX10) (T := TX10) (N := 44) (ci := 9) (v := .ref (ad 35)) hx hb hts in_X10_makes_X10 hown hK hI 28 (by decide) (cel_28 cy ad _) rfl 13 (by decide) (by decide +kernel) rfl dX10_makes_76 ?_
            refine lv_iload hx hb dX10_makes_79 (lv_at hl 4 rfl) ?_
            refine g_iald (v := σ 35 x4.toNat) hx hb hK hI 35 (by decide) (cel_35 cy ad) (by omega) (by decide) rfl dX10_makes_81 ?_
            have b_32 := bd_35 hF x4.toNat
            refine lv_bipush (v := iI 94) hx hb dX10_makes_82 (iI_bip (by decide)) ?_
            refine g_icmp_eq (tgt := 99) hx hb dX10_makes_84 (by decide) (by omega) (by omega) (fun c_33 => ?_) (fun c_33 => ?_)
            · skip
              refine lv_aload_n hx hb dX10_makes_99 rfl (lv_at hl 0 rfl) ?_
              refine lv_aload_n hx hb dX10_makes_100 rfl (lv_at hl 0 rfl) ?_
              refine g_get (C := RX10) (T := TX10) (N := 44) (ci := 9) (v := .ref (ad 36)) hx hb hts in_X10_makes_X10 hown hK hI 28 (by decide) (cel_28 cy ad _) rfl 14 (by decide) (by decide +kernel) rfl dX10_makes_101 ?_
              refine lv_iload hx hb dX10_makes_104 (lv_at hl 4 rfl) ?_
              refine g_iald (v := σ 36 x4.toNat) hx hb hK hI 36 (by decide) (cel_36 cy ad) (by omega) (by decide) rfl dX10_makes_106 ?_
              have b_34 := bd_36 hF x4.toNat
              refine g_V (As := [.int (iI (σ 36 x4.toNat))]) (rest := []) 28 (c_X10_wild l D cy ad σ (σ 36 x4.toNat) (by omega)) hx hb hml hown hts hK hN hI hl.1 gX10_makes_X10_wild rfl hd_X10_wild rfl rfl ⟨Nat.le_of_ble_eq_true rfl, Nat.le_of_ble_eq_true rfl⟩ ⟨Nat.zero_le _, Nat.zero_le _⟩ (by decide) (cel_28 cy ad _) rfl rfl rfl rfl (Nat.le_of_ble_eq_true rfl) dX10_makes_107 (fun H locs hG_35 hI => ?_)
              have q5 := hp0 x4.toNat (by omega) (by omega)
              refine lv_istore (lv' := [(5, .int (iI (f_X10_wild σ (σ 36 x4.toNat)))), (0, .ref (ad 28)), (1, .int (iI a0)), (2, .int (iI x2)), (3, .int (iI x3)), (4, .int (iI x4))]) hx hb dX10_makes_110 hl (by decide) rfl (fun ls hl => ?_)
              refine lv_aload_n hx hb dX10_makes_112 rfl (lv_at hl 1 rfl) ?_
              refine lv_iload hx hb dX10_makes_113 (lv_at hl 0 rfl) ?_
              refine g_V (As := [.int (iI (f_X10_wild σ (σ 36 x4.toNat)))]) (rest := []) 28 (c_X10_firstOf l D cy ad σ (f_X10_wild σ (σ 36 x4.toNat)) (by omega)) hx hb hml hown hts hK hN hI hl.1 gX10_makes_X10_firstOf rfl hd_X10_firstOf rfl rfl ⟨Nat.le_of_ble_eq_true rfl, Nat.le_of_ble_eq_true rfl⟩ ⟨Nat.zero_le _, Nat.zero_le _⟩ (by decide) (cel_28 cy ad _) rfl rfl rfl rfl (Nat.le_of_ble_eq_true rfl) dX10_makes_115 (fun H locs hG_36 hI => ?_)
              refine lv_istore (lv' := [(6, .int (iI (f_X10_firstOf σ (f_X10_wild σ (σ 36 x4.toNat))))), (5, .int (iI (f_X10_wild σ (σ 36 x4.toNat)))), (0, .ref (ad 28)), (1, .int (iI a0)), (2, .int (iI x2)), (3, .int (iI x3)), (4, .int (iI x4))]) hx hb dX10_makes_118 hl (by decide) rfl (fun ls hl => ?_)
              refine lv_iload hx hb dX10_makes_120 (lv_at hl 0 rfl) ?_
              refine lv_istore (lv' := [(7, .int (iI (f_X10_firstOf σ (f_X10_wild σ (σ 36 x4.toNat))))), (6, .int (iI (f_X10_firstOf σ (f_X10_wild σ (σ 36 x4.toNat))))), (5, .int (iI (f_X10_wild σ (σ 36 x4.toNat)))), (0, .ref (ad 28)), (1, .int (iI a0)), (2, .int (iI x2)), (3, .int (iI x3)), (4, .int (iI x4))]) hx hb dX10_makes_122 hl (by decide) rfl (fun ls hl => ?_)
              refine w_L_X10_makes_124 X  a0 ha0  (σ 44 a0.toNat) 158 x2 x3 x4 (f_X10_wild σ (σ 36 x4.toNat)) (f_X10_firstOf σ (f_X10_wild σ (σ 36 x4.toNat))) (f_X10_firstOf σ (f_X10_wild σ (σ 36 x4.toNat))) σ (by omega) (by omega) (by omega) (by omega) (by omega) (by omega) (by first | exact hp0 | exact hp0.fr (fun x hx => adds_fr _ _ _ (by omega) (by omega))) (by omega) (by omega) (by omega) (by omega) _ _ _ hI (lv_sub hl [3, 4, 5, 6, 7, 2, 1, 0] rfl) (fun H locs ls hpo_38 hI hl => ?_)
              have hF_37 := hI.2.2.2
              have hpoR := hpo_38.1
              have hpo2 := hpo_38.2
              refine lv_goto (tgt := 221) hx hb dX10_makes_206 (by decide) ?_
              refine lv_iinc (v := iI (x4 + 1)) (lv' := [(4, .int (iI (x4 + 1))), (0, .ref (ad 28)), (1, .int (iI a0)), (2, .int (iI x2)), (3, .int (iI x3))]) hx hb dX10_makes_221 hl (k := 4) rfl (iI_add _ _) (by decide) rfl (fun ls hl => ?_)
              refine lv_goto (tgt := 23) hx hb dX10_makes_224 (by decide) ?_
              have e9 : L_X10_makes_23 a0 (n + 1) x2 x3 x4 σ = L_X10_makes_23 a0 n x2 x3 (x4 + 1) (L_X10_makes_124 a0 158 x2 x3 x4 (f_X10_wild σ (σ 36 x4.toNat)) (f_X10_firstOf σ (f_X10_wild σ (σ 36 x4.toNat))) (f_X10_firstOf σ (f_X10_wild σ (σ 36 x4.toNat))) σ) := by rw [L_X10_makes_23, if_neg c_6, if_neg c_7, if_neg c_9, if_neg c_11, if_pos c_33]
              rw [e9] at hk
              exact ih x2 x3 (x4 + 1) (L_X10_makes_124 a0 158 x2 x3 x4 (f_X10_wild σ (σ 36 x4.toNat)) (f_X10_firstOf σ (f_X10_wild σ (σ 36 x4.toNat))) (f_X10_firstOf σ (f_X10_wild σ (σ 36 x4.toNat))) σ) (by omega) (by omega) (by omega) (by first | exact hp0.fr (fun x hx => addsCounter_fr _ _ _ (by omega) (by omega)) | exact hp0.fr (fun x hx => adds_fr _ _ _ (by omega) (by omega)) | exact hpoR | exact hR1) (by first | omega | (rw [up2_same]; omega)) (by omega) _ _ _ hI (lv_sub hl [1, 2, 3, 4, 0] rfl) hk
            · skip
              refine lv_aload_n hx hb dX10_makes_87 rfl (lv_at hl 0 rfl) ?_
              refine g_get (C := RX10) (T := TX10) (N := 44) (ci := 9) (v := .ref (ad 35)) hx hb hts in_X10_makes_X10 hown hK hI 28 (by decide) (cel_28 cy ad _) rfl 13 (by decide) (by decide +kernel) rfl dX10_makes_88 ?_
              refine lv_iload hx hb dX10_makes_91 (lv_at hl 4 rfl) ?_
              refine g_iald (v := σ 35 x4.toNat) hx hb hK hI 35 (by decide) (cel_35 cy ad) (by omega) (by decide) rfl dX10_makes_93 ?_
              have b_39 := bd_35 hF x4.toNat
              refine lv_bipush (v := iI 33) hx hb dX10_makes_94 (iI_bip (by decide)) ?_
              refine g_icmp_ne (tgt := 209) hx hb dX10_makes_96 (by decide) (by omega) (by omega) (fun c_40 => ?_) (fun c_40 => ?_)
              · skip
                refine lv_aload_n hx hb dX10_makes_209 rfl (lv_at hl 0 rfl) ?_
                refine lv_iload_n hx hb dX10_makes_210 rfl (lv_at hl 1 rfl) ?_
                refine lv_aload_n hx hb dX10_makes_211 rfl (lv_at hl 0 rfl) ?_
                refine g_get (C := RX10) (T := TX10) (N := 44) (ci := 9) (v := .ref (ad 35)) hx hb hts in_X10_makes_X10 hown hK hI 28 (by decide) (cel_28 cy ad _) rfl 13 (by decide) (by decide +kernel) rfl dX10_makes_212 ?_
                refine lv_iload hx hb dX10_makes_215 (lv_at hl 4 rfl) ?_
                refine g_iald (v := σ 35 x4.toNat) hx hb hK hI 35 (by decide) (cel_35 cy ad) (by omega) (by decide) rfl dX10_makes_217 ?_
                have b_41 := bd_35 hF x4.toNat
                refine g_V (As := [.int (iI a0), .int (iI (σ 35 x4.toNat))]) (rest := []) 28 (c_X10_adds l D cy ad σ a0 (by omega) (σ 35 x4.toNat) (by omega) (by omega)) hx hb hml hown hts hK hN hI hl.1 gX10_makes_X10_adds rfl hd_X10_adds rfl rfl ⟨Nat.le_of_ble_eq_true rfl, Nat.le_of_ble_eq_true rfl⟩ ⟨Nat.zero_le _, Nat.zero_le _⟩ (by decide) (cel_28 cy ad _) rfl rfl rfl rfl (Nat.le_of_ble_eq_true rfl) dX10_makes_218 (fun H locs hG_42 hI => ?_)
                have hF_43 := hI.2.2.2
                refine lv_iinc (v := iI (x4 + 1)) (lv' := [(4, .int (iI (x4 + 1))), (0, .ref (ad 28)), (1, .int (iI a0)), (2, .int (iI x2)), (3, .int (iI x3))]) hx hb dX10_makes_221 hl (k := 4) rfl (iI_add _ _) (by decide) rfl (fun ls hl => ?_)
                refine lv_goto (tgt := 23) hx hb dX10_makes_224 (by decide) ?_
                have e9 : L_X10_makes_23 a0 (n + 1) x2 x3 x4 σ = L_X10_makes_23 a0 n x2 x3 (x4 + 1) (f_X10_adds σ a0 (σ 35 x4.toNat)) := by rw [L_X10_makes_23, if_neg c_6, if_neg c_7, if_neg c_9, if_neg c_11, if_neg c_33, if_neg c_40]
                rw [e9] at hk
                exact ih x2 x3 (x4 + 1) (f_X10_adds σ a0 (σ 35 x4.toNat)) (by omega) (by omega) (by omega) (by first | exact hp0.fr (fun x hx => addsCounter_fr _ _ _ (by omega) (by omega)) | exact hp0.fr (fun x hx => adds_fr _ _ _ (by omega) (by omega)) | exact hpoR | exact hR1) (by first | omega | (rw [up2_same]; omega)) (by omega) _ _ _ hI (lv_sub hl [1, 2, 3, 4, 0] rfl) hk
              · skip
                refine lv_aload_n hx hb dX10_makes_99 rfl (lv_at hl 0 rfl) ?_
                refine lv_aload_n hx hb dX10_makes_100 rfl (lv_at hl 0 rfl) ?_
                refine g_get (C := RX10) (T := TX10) (N := 44) (ci := 9) (v := .ref (ad 36)) hx hb hts in_X10_makes_X10 hown hK hI 28 (by decide) (cel_28 cy ad _) rfl 14 (by decide) (by decide +kernel) rfl dX10_makes_101 ?_
                refine lv_iload hx hb dX10_makes_104 (lv_at hl 4 rfl) ?_
                refine g_iald (v := σ 36 x4.toNat) hx hb hK hI 36 (by decide) (cel_36 cy ad) (by omega) (by decide) rfl dX10_makes_106 ?_
                have b_44 := bd_36 hF x4.toNat
                refine g_V (As := [.int (iI (σ 36 x4.toNat))]) (rest := []) 28 (c_X10_wild l D cy ad σ (σ 36 x4.toNat) (by omega)) hx hb hml hown hts hK hN hI hl.1 gX10_makes_X10_wild rfl hd_X10_wild rfl rfl ⟨Nat.le_of_ble_eq_true rfl, Nat.le_of_ble_eq_true rfl⟩ ⟨Nat.zero_le _, Nat.zero_le _⟩ (by decide) (cel_28 cy ad _) rfl rfl rfl rfl (Nat.le_of_ble_eq_true rfl) dX10_makes_107 (fun H locs hG_45 hI => ?_)
                have q5 := hp0 x4.toNat (by omega) (by omega)
                refine lv_istore (lv' := [(5, .int (iI (f_X10_wild σ (σ 36 x4.toNat)))), (0, .ref (ad 28)), (1, .int (iI a0)), (2, .int (iI x2)), (3, .int (iI x3)), (4, .int (iI x4))]) hx hb dX10_makes_110 hl (by decide) rfl (fun ls hl => ?_)
                refine lv_aload_n hx hb dX10_makes_112 rfl (lv_at hl 1 rfl) ?_
                refine lv_iload hx hb dX10_makes_113 (lv_at hl 0 rfl) ?_
                refine g_V (As := [.int (iI (f_X10_wild σ (σ 36 x4.toNat)))]) (rest := []) 28 (c_X10_firstOf l D cy ad σ (f_X10_wild σ (σ 36 x4.toNat)) (by omega)) hx hb hml hown hts hK hN hI hl.1 gX10_makes_X10_firstOf rfl hd_X10_firstOf rfl rfl ⟨Nat.le_of_ble_eq_true rfl, Nat.le_of_ble_eq_true rfl⟩ ⟨Nat.zero_le _, Nat.zero_le _⟩ (by decide) (cel_28 cy ad _) rfl rfl rfl rfl (Nat.le_of_ble_eq_true rfl) dX10_makes_115 (fun H locs hG_46 hI => ?_)
                refine lv_istore (lv' := [(6, .int (iI (f_X10_firstOf σ (f_X10_wild σ (σ 36 x4.toNat))))), (5, .int (iI (f_X10_wild σ (σ 36 x4.toNat)))), (0, .ref (ad 28)), (1, .int (iI a0)), (2, .int (iI x2)), (3, .int (iI x3)), (4, .int (iI x4))]) hx hb dX10_makes_118 hl (by decide) rfl (fun ls hl => ?_)
                refine lv_iload hx hb dX10_makes_120 (lv_at hl 0 rfl) ?_
                refine lv_istore (lv' := [(7, .int (iI (f_X10_firstOf σ (f_X10_wild σ (σ 36 x4.toNat))))), (6, .int (iI (f_X10_firstOf σ (f_X10_wild σ (σ 36 x4.toNat))))), (5, .int (iI (f_X10_wild σ (σ 36 x4.toNat)))), (0, .ref (ad 28)), (1, .int (iI a0)), (2, .int (iI x2)), (3, .int (iI x3)), (4, .int (iI x4))]) hx hb dX10_makes_122 hl (by decide) rfl (fun ls hl => ?_)
                refine w_L_X10_makes_124 X  a0 ha0  (σ 44 a0.toNat) 158 x2 x3 x4 (f_X10_wild σ (σ 36 x4.toNat)) (f_X10_firstOf σ (f_X10_wild σ (σ 36 x4.toNat))) (f_X10_firstOf σ (f_X10_wild σ (σ 36 x4.toNat))) σ (by omega) (by omega) (by omega) (by omega) (by omega) (by omega) (by first | exact hp0 | exact hp0.fr (fun x hx => adds_fr _ _ _ (by omega) (by omega))) (by omega) (by omega) (by omega) (by omega) _ _ _ hI (lv_sub hl [3, 4, 5, 6, 7, 2, 1, 0] rfl) (fun H locs ls hpo_48 hI hl => ?_)
                have hF_47 := hI.2.2.2
                have hpoR := hpo_48.1
                have hpo2 := hpo_48.2
                refine lv_goto (tgt := 221) hx hb dX10_makes_206 (by decide) ?_
                refine lv_iinc (v := iI (x4 + 1)) (lv' := [(4, .int (iI (x4 + 1))), (0, .ref (ad 28)), (1, .int (iI a0)), (2, .int (iI x2)), (3, .int (iI x3))]) hx hb dX10_makes_221 hl (k := 4) rfl (iI_add _ _) (by decide) rfl (fun ls hl => ?_)
                refine lv_goto (tgt := 23) hx hb dX10_makes_224 (by decide) ?_
                have e9 : L_X10_makes_23 a0 (n + 1) x2 x3 x4 σ = L_X10_makes_23 a0 n x2 x3 (x4 + 1) (L_X10_makes_124 a0 158 x2 x3 x4 (f_X10_wild σ (σ 36 x4.toNat)) (f_X10_firstOf σ (f_X10_wild σ (σ 36 x4.toNat))) (f_X10_firstOf σ (f_X10_wild σ (σ 36 x4.toNat))) σ) := by rw [L_X10_makes_23, if_neg c_6, if_neg c_7, if_neg c_9, if_neg c_11, if_neg c_33, if_pos c_40]
                rw [e9] at hk
                exact ih x2 x3 (x4 + 1) (L_X10_makes_124 a0 158 x2 x3 x4 (f_X10_wild σ (σ 36 x4.toNat)) (f_X10_firstOf σ (f_X10_wild σ (σ 36 x4.toNat))) (f_X10_firstOf σ (f_X10_wild σ (σ 36 x4.toNat))) σ) (by omega) (by omega) (by omega) (by first | exact hp0.fr (fun x hx => addsCounter_fr _ _ _ (by omega) (by omega)) | exact hp0.fr (fun x hx => adds_fr _ _ _ (by omega) (by omega)) | exact hpoR | exact hR1) (by first | omega | (rw [up2_same]; omega)) (by omega) _ _ _ hI (lv_sub hl [1, 2, 3, 4, 0] rfl) hk
        · skip
          refine lv_aload_n hx hb dX10_makes_48 rfl (lv_at hl 0 rfl) ?_
          refine lv_iload_n hx hb dX10_makes_49 rfl (lv_at hl 1 rfl) ?_
          refine lv_aload_n hx hb dX10_makes_50 rfl (lv_at hl 0 rfl) ?_
          refine g_get (C := RX10) (T := TX10) (N := 44) (ci := 9) (v := .ref (ad 36)) hx hb hts in_X10_makes_X10 hown hK hI 28 (by decide) (cel_28 cy ad _) rfl 14 (by decide) (by decide +kernel) rfl dX10_makes_51 ?_
          refine lv_iload hx hb dX10_makes_54 (lv_at hl 4 rfl) ?_
          refine g_iald (v := σ 36 x4.toNat) hx hb hK hI 36 (by decide) (cel_36 cy ad) (by omega) (by decide) rfl dX10_makes_56 ?_
          have b_49 := bd_36 hF x4.toNat
          refine g_V (As := [.int (iI a0), .int (iI (σ 36 x4.toNat))]) (rest := []) 28 (c_X10_addsCounter l D cy ad σ a0 (by omega) (σ 36 x4.toNat) (by omega) (by omega)) hx hb hml hown hts hK hN hI hl.1 gX10_makes_X10_addsCounter rfl hd_X10_addsCounter rfl rfl ⟨Nat.le_of_ble_eq_true rfl, Nat.le_of_ble_eq_true rfl⟩ ⟨Nat.zero_le _, Nat.zero_le _⟩ (by decide) (cel_28 cy ad _) rfl rfl rfl rfl (Nat.le_of_ble_eq_true rfl) dX10_makes_57 (fun H locs hG_50 hI => ?_)
          have hF_51 := hI.2.2.2
          refine lv_goto (tgt := 221) hx hb dX10_makes_60 (by decide) ?_
          refine lv_iinc (v := iI (x4 + 1)) (lv' := [(4, .int (iI (x4 + 1))), (0, .ref (ad 28)), (1, .int (iI a0)), (2, .int (iI x2)), (3, .int (iI x3))]) hx hb dX10_makes_221 hl (k := 4) rfl (iI_add _ _) (by decide) rfl (fun ls hl => ?_)
          refine lv_goto (tgt := 23) hx hb dX10_makes_224 (by decide) ?_
          have e9 : L_X10_makes_23 a0 (n + 1) x2 x3 x4 σ = L_X10_makes_23 a0 n x2 x3 (x4 + 1) (f_X10_addsCounter σ a0 (σ 36 x4.toNat)) := by rw [L_X10_makes_23, if_neg c_6, if_neg c_7, if_pos c_9]
          rw [e9] at hk
          exact ih x2 x3 (x4 + 1) (f_X10_addsCounter σ a0 (σ 36 x4.toNat)) (by omega) (by omega) (by omega) (by first | exact hp0.fr (fun x hx => addsCounter_fr _ _ _ (by omega) (by omega)) | exact hp0.fr (fun x hx => adds_fr _ _ _ (by omega) (by omega)) | exact hpoR | exact hR1) (by first | omega | (rw [up2_same]; omega)) (by omega) _ _ _ hI (lv_sub hl [1, 2, 3, 4, 0] rfl) hk
def f_X10_makes (σ : Sg) (a0 : Int) : Sg := (up2 (L_X10_makes_23 a0 13 (σ 42 a0.toNat) ((f_X10_isFit σ (σ 42 a0.toNat)).1) 0 (up2 (f_X10_isFit σ (σ 42 a0.toNat)).2 44 a0.toNat 0)) 30 ((80 + a0).toNat) (min 12 ((L_X10_makes_23 a0 13 (σ 42 a0.toNat) ((f_X10_isFit σ (σ 42 a0.toNat)).1) 0 (up2 (f_X10_isFit σ (σ 42 a0.toNat)).2 44 a0.toNat 0)) 44 a0.toNat)))
theorem hd_X10_makes : yX10_makes.cls = RX10 ∧ yX10_makes.cls ≠ "java/lang/invoke/MethodHandle" ∧ yX10_makes.cls ≠ "java/lang/invoke/VarHandle" ∧ (parseMethodDescriptor yX10_makes.desc).map (fun d => d.parameters.length) = some 1 := by decide +kernel
set_option maxHeartbeats 4000000 in
set_option maxRecDepth 100000 in
theorem c_X10_makes (l : Launch) (D : va_G) (cy : Nat → ClassId) (ad : Nat → Nat) (σ : Sg) (a0 : Int) (ha0 : (0 : Int) ≤ a0 ∧ a0 ≤ 39) (hR : RuleOK σ) : CM l D cy ad yX10_makes wsX10_makes { frames := 27, cells := 0, slots := 0, locals := 1080 } [.ref (ad 28), .int (iI a0)] σ none (f_X10_makes σ a0) (True) := by
  refine CM.of (cc := cX10_makes) (maxL := 9) (ret := none) (by decide) rfl (Nat.le_of_ble_eq_true rfl) ?_
  intro p e s m args below meth c₀ ls X hI hl
  have hl : lv_has ls 9 [(0, .ref (ad 28)), (1, .int (iI a0))] := hl
  obtain ⟨hx, hb, hr, hml, hown, hts, hlocks, hK, hN⟩ := id X
  have hF := hI.2.2.2
  refine lv_aload_n hx hb dX10_makes_0 rfl (lv_at hl 0 rfl) ?_
  refine g_get (C := RX10) (T := TX10) (N := 44) (ci := 9) (v := .ref (ad 42)) hx hb hts in_X10_makes_X10 hown hK hI 28 (by decide) (cel_28 cy ad _) rfl 27 (by decide) (by decide +kernel) rfl dX10_makes_1 ?_
  refine lv_iload_n hx hb dX10_makes_4 rfl (lv_at hl 1 rfl) ?_
  refine g_iald (v := σ 42 a0.toNat) hx hb hK hI 42 (by decide) (cel_42 cy ad) (by omega) (by decide) rfl dX10_makes_5 ?_
  have b_1 := bd_42 hF a0.toNat
  refine lv_istore_n (lv' := [(2, .int (iI (σ 42 a0.toNat))), (0, .ref (ad 28)), (1, .int (iI a0))]) hx hb dX10_makes_6 rfl hl (by decide) rfl (fun ls hl => ?_)
  refine lv_aload_n hx hb dX10_makes_7 rfl (lv_at hl 1 rfl) ?_
  refine lv_iload_n hx hb dX10_makes_8 rfl (lv_at hl 0 rfl) ?_
  refine g_V (As := [.int (iI (σ 42 a0.toNat))]) (rest := []) 28 (c_X10_isFit l D cy ad σ (σ 42 a0.toNat) (by omega)) hx hb hml hown hts hK hN hI hl.1 gX10_makes_X10_isFit rfl hd_X10_isFit rfl rfl ⟨Nat.le_of_ble_eq_true rfl, Nat.le_of_ble_eq_true rfl⟩ ⟨Nat.zero_le _, Nat.zero_le _⟩ (by decide) (cel_28 cy ad _) rfl rfl rfl rfl (Nat.le_of_ble_eq_true rfl) dX10_makes_9 (fun H locs hG_2 hI => ?_)
  have hF_3 := hI.2.2.2
  refine lv_istore_n (lv' := [(3, .int (iI ((f_X10_isFit σ (σ 42 a0.toNat)).1))), (2, .int (iI (σ 42 a0.toNat))), (0, .ref (ad 28)), (1, .int (iI a0))]) hx hb dX10_makes_12 rfl hl (by decide) rfl (fun ls hl => ?_)
  refine lv_aload_n hx hb dX10_makes_13 rfl (lv_at hl 2 rfl) ?_
  refine g_get (C := RX10) (T := TX10) (N := 44) (ci := 9) (v := .ref (ad 44)) hx hb hts in_X10_makes_X10 hown hK hI 28 (by decide) (cel_28 cy ad _) rfl 29 (by decide) (by decide +kernel) rfl dX10_makes_14 ?_
  refine lv_iload_n hx hb dX10_makes_17 rfl (lv_at hl 3 rfl) ?_
  refine lv_iconst (v := iI 0) hx hb dX10_makes_18 rfl ?_
  refine g_iast hx hb hK hI 44 (by decide) (cel_44 cy ad) (by omega) (by decide) (bw_44 (by omega)) dX10_makes_19 (fun H locs hI => ?_)
  have hF_4 : WF (up2 (f_X10_isFit σ (σ 42 a0.toNat)).2 44 a0.toNat 0) := hI.2.2.2
  have hR1 : RuleOK (up2 (f_X10_isFit σ (σ 42 a0.toNat)).2 44 a0.toNat 0) := hR.fr (fun x hx => by rw [up2_cell _ _ _ (by omega), isFit_fr _ _ (by omega) (by omega)])
  refine lv_iconst (v := iI 0) hx hb dX10_makes_20 rfl ?_
  refine lv_istore (lv' := [(4, .int (iI 0)), (3, .int (iI ((f_X10_isFit σ (σ 42 a0.toNat)).1))), (2, .int (iI (σ 42 a0.toNat))), (0, .ref (ad 28)), (1, .int (iI a0))]) hx hb dX10_makes_21 hl (by decide) rfl (fun ls hl => ?_)
  refine w_L_X10_makes_23 X  a0 ha0  13 (σ 42 a0.toNat) ((f_X10_isFit σ (σ 42 a0.toNat)).1) 0 (up2 (f_X10_isFit σ (σ 42 a0.toNat)).2 44 a0.toNat 0) (by omega) (by omega) (by omega) (by first | exact hp0.fr (fun x hx => addsCounter_fr _ _ _ (by omega) (by omega)) | exact hp0.fr (fun x hx => adds_fr _ _ _ (by omega) (by omega)) | exact hpoR | exact hR1) (by first | omega | (rw [up2_same]; omega)) (by omega) _ _ _ hI (lv_sub hl [3, 4, 2, 1, 0] rfl) (fun H locs ls hpo_53 hI hl => ?_)
  have hF_52 := hI.2.2.2
  refine lv_aload_n hx hb dX10_makes_227 rfl (lv_at hl 0 rfl) ?_
  refine g_get (C := RX10) (T := TX10) (N := 44) (ci := 9) (v := .ref (ad 30)) hx hb hts in_X10_makes_X10 hown hK hI 28 (by decide) (cel_28 cy ad _) rfl 2 (by decide) (by decide +kernel) rfl dX10_makes_228 ?_
  refine lv_bipush (v := iI 80) hx hb dX10_makes_231 (iI_bip (by decide)) ?_
  refine lv_iload_n hx hb dX10_makes_233 rfl (lv_at hl 1 rfl) ?_
  refine g_iadd hx hb dX10_makes_234 ?_
  refine lv_bipush (v := iI 12) hx hb dX10_makes_235 (iI_bip (by decide)) ?_
  refine lv_aload_n hx hb dX10_makes_237 rfl (lv_at hl 0 rfl) ?_
  refine g_get (C := RX10) (T := TX10) (N := 44) (ci := 9) (v := .ref (ad 44)) hx hb hts in_X10_makes_X10 hown hK hI 28 (by decide) (cel_28 cy ad _) rfl 29 (by decide) (by decide +kernel) rfl dX10_makes_238 ?_
  refine lv_iload_n hx hb dX10_makes_241 rfl (lv_at hl 1 rfl) ?_
  refine g_iald (v := (L_X10_makes_23 a0 13 (σ 42 a0.toNat) ((f_X10_isFit σ (σ 42 a0.toNat)).1) 0 (up2 (f_X10_isFit σ (σ 42 a0.toNat)).2 44 a0.toNat 0)) 44 a0.toNat) hx hb hK hI 44 (by decide) (cel_44 cy ad) (by omega) (by decide) rfl dX10_makes_242 ?_
  have b_54 := bd_44 hF_52 a0.toNat
  refine g_mmin hx hb (hml.trans hl.1.symm) hts hown (by decide +kernel) (by decide +kernel) (by decide +kernel) (by decide +kernel) (Nat.le_of_ble_eq_true rfl) (Nat.le_of_ble_eq_true rfl) (Nat.zero_le _) (Nat.zero_le _) (by omega) (by omega) dX10_makes_243 ?_
  refine g_iast hx hb hK hI 30 (by decide) (cel_30 cy ad) (by omega) (by decide) (bw_30 (by omega)) dX10_makes_246 (fun H locs hI => ?_)
  have hF_55 : WF (up2 (L_X10_makes_23 a0 13 (σ 42 a0.toNat) ((f_X10_isFit σ (σ 42 a0.toNat)).1) 0 (up2 (f_X10_isFit σ (σ 42 a0.toNat)).2 44 a0.toNat 0)) 30 ((80 + a0).toNat) (min 12 ((L_X10_makes_23 a0 13 (σ 42 a0.toNat) ((f_X10_isFit σ (σ 42 a0.toNat)).1) 0 (up2 (f_X10_isFit σ (σ 42 a0.toNat)).2 44 a0.toNat 0)) 44 a0.toNat))) := hI.2.2.2
  have e9 : f_X10_makes σ a0 = (up2 (L_X10_makes_23 a0 13 (σ 42 a0.toNat) ((f_X10_isFit σ (σ 42 a0.toNat)).1) 0 (up2 (f_X10_isFit σ (σ 42 a0.toNat)).2 44 a0.toNat 0)) 30 ((80 + a0).toNat) (min 12 ((L_X10_makes_23 a0 13 (σ 42 a0.toNat) ((f_X10_isFit σ (σ 42 a0.toNat)).1) 0 (up2 (f_X10_isFit σ (σ 42 a0.toNat)).2 44 a0.toNat 0)) 44 a0.toNat))) := by rw [f_X10_makes]
  exact g_vret hx hb hr hK hN hlocks hI (by rw [e9]) trivial dX10_makes_247
theorem in_X10_next_X10 : ∀ w ∈ u_ws RX10 TX10 44, w ∈ wsX10_next := by decide +kernel
def L_X10_next_4 (σ : Sg) (a0 : Int) : Nat → Int → Int → Int
  | 0, x2, x3 => (x2)
  | n + 1, x2, x3 => (if (σ 28 26) ≤ x3 then x2 else (if (σ 47 x3.toNat) = 0 then (if (σ 55 x3.toNat) = 0 then (if a0 = 0 then (if (f_X10_isClear σ (σ 42 x3.toNat) (80 + x3)) = 0 then L_X10_next_4 σ a0 n x2 (x3 + 1) else (if x2 = (-1) then L_X10_next_4 σ a0 n x3 (x3 + 1) else (if (σ 42 x2.toNat) ≤ (σ 42 x3.toNat) then L_X10_next_4 σ a0 n x2 (x3 + 1) else L_X10_next_4 σ a0 n x3 (x3 + 1)))) else (if (σ 54 ((σ 42 x3.toNat).toNat)) = 0 then (if x2 = (-1) then L_X10_next_4 σ a0 n x3 (x3 + 1) else (if (σ 42 x2.toNat) ≤ (σ 42 x3.toNat) then L_X10_next_4 σ a0 n x2 (x3 + 1) else L_X10_next_4 σ a0 n x3 (x3 + 1))) else L_X10_next_4 σ a0 n x2 (x3 + 1))) else L_X10_next_4 σ a0 n x2 (x3 + 1)) else L_X10_next_4 σ a0 n x2 (x3 + 1)))
set_option maxHeartbeats 4000000 in
set_option maxRecDepth 100000 in
theorem w_L_X10_next_4 {p : Program} {l : Launch} {e : Env} {s : State} {m : MethodId} {args : Array Value} {below : List Frame} {meth : Method} {c₀ : Code} {D : va_G} {cy : Nat → ClassId} {ad : Nat → Nat} {Q : State → Prop} (X : MX p s m args meth c₀ cX10_next 5 RX10 (some .int) wsX10_next D cy) (σ : Sg) (a0 : Int) (ha0 : (0 : Int) ≤ a0 ∧ a0 ≤ 1) : ∀ (n : Nat) (x2 : Int) (x3 : Int) (hx2 : (-1 : Int) ≤ x2 ∧ x2 ≤ 39) (hx3 : (0 : Int) ≤ x3 ∧ x3 ≤ 40) (hp0 : (x2 = -1 ∨ (a0 = 0 ∧ σ 55 x2.toNat = 0) ∨ (a0 = 1 ∧ σ 54 (σ 42 x2.toNat).toNat = 0))) (hmu : 40 - x3 < (n : Int)) (H : Heap) (locs : List Loc) (ls : Array Slot) (hI : HI D cy ad s σ H locs) (hl : lv_has ls 5 [(0, .ref (ad 28)), (1, .int (iI a0)), (2, .int (iI x2)), (3, .int (iI x3))])  (hk : ∀ (H1 : Heap) (locs1 : List Loc) (ls1 : Array Slot), ((-1 ≤ (L_X10_next_4 σ a0 n x2 x3) ∧ (L_X10_next_4 σ a0 n x2 x3) ≤ 39) ∧ ((L_X10_next_4 σ a0 n x2 x3) = -1 ∨ (a0 = 0 ∧ σ 55 ((L_X10_next_4 σ a0 n x2 x3)).toNat = 0) ∨ (a0 = 1 ∧ σ 54 (σ 42 ((L_X10_next_4 σ a0 n x2 x3)).toNat).toNat = 0))) → HI D cy ad s σ H1 locs1 → lv_has ls1 5 [(2, .int (iI (L_X10_next_4 σ a0 n x2 x3)))] → W p l e { frames := 3, cells := 0, slots := 0, locals := 120 } s m args below meth c₀ H1 locs1 0 0 Q (F0 m 108 ls1 [])), W p l e { frames := 3, cells := 0, slots := 0, locals := 120 } s m args below meth c₀ H locs 0 0 Q (F0 m 4 ls []) := by
  obtain ⟨hx, hb, hr, hml, hown, hts, hlocks, hK, hN⟩ := id X
  intro n
  induction n with
  | zero =>
    intro x2 x3 hx2 hx3 hp0 hmu H locs ls hI hl hk
    exfalso
    have hF := hI.2.2.2
    omega
  | succ n ih =>
    intro x2 x3 hx2 hx3 hp0 hmu H locs ls hI hl hk
    have hF := hI.2.2.2
    refine lv_iload_n hx hb dX10_next_4 rfl (lv_at hl 3 rfl) ?_
    refine lv_aload_n hx hb dX10_next_5 rfl (lv_at hl 0 rfl) ?_
    refine g_get (C := RX10) (T := TX10) (N := 44) (ci := 9) (v := .int (iI (σ 28 26))) hx hb hts in_X10_next_X10 hown hK hI 28 (by decide) (cel_28 cy ad _) rfl 26 (by decide) (by decide +kernel) rfl dX10_next_6 ?_
    have b_1 := bd_28_26 hF
    refine g_icmp_ge (tgt := 108) hx hb dX10_next_9 (by decide) (by omega) (by omega) (fun c_2 => ?_) (fun c_2 => ?_)
    · skip
      have e9 : L_X10_next_4 σ a0 (n + 1) x2 x3 = x2 := by rw [L_X10_next_4, if_pos c_2]
      rw [e9] at hk
      exact hk _ _ _ (by first | (omega) | (dsimp only; omega)) hI (lv_sub hl [2] rfl)
    · skip
      refine lv_aload_n hx hb dX10_next_12 rfl (lv_at hl 0 rfl) ?_
      refine g_get (C := RX10) (T := TX10) (N := 44) (ci := 9) (v := .ref (ad 47)) hx hb hts in_X10_next_X10 hown hK hI 28 (by decide) (cel_28 cy ad _) rfl 32 (by decide) (by decide +kernel) rfl dX10_next_13 ?_
      refine lv_iload_n hx hb dX10_next_16 rfl (lv_at hl 3 rfl) ?_
      refine g_zald (v := σ 47 x3.toNat) hx hb hK hI 47 (by decide) (cel_47 cy ad) (by omega) (by decide) rfl dX10_next_17 ?_
      have b_3 := bd_47 hF x3.toNat
      refine g_if_ne (tgt := 102) hx hb dX10_next_18 (by decide) (by omega) (fun c_4 => ?_) (fun c_4 => ?_)
      · skip
        refine lv_iinc (v := iI (x3 + 1)) (lv' := [(3, .int (iI (x3 + 1))), (0, .ref (ad 28)), (1, .int (iI a0)), (2, .int (iI x2))]) hx hb dX10_next_102 hl (k := 3) rfl (iI_add _ _) (by decide) rfl (fun ls hl => ?_)
        refine lv_goto (tgt := 4) hx hb dX10_next_105 (by decide) ?_
        have e9 : L_X10_next_4 σ a0 (n + 1) x2 x3 = L_X10_next_4 σ a0 n x2 (x3 + 1) := by rw [L_X10_next_4, if_neg c_2, if_neg c_4]
        rw [e9] at hk
        exact ih x2 (x3 + 1)  (by omega) (by omega) (by omega) (by omega) _ _ _ hI (lv_sub hl [1, 2, 3, 0] rfl) hk
      · skip
        refine lv_aload_n hx hb dX10_next_21 rfl (lv_at hl 0 rfl) ?_
        refine g_get (C := RX10) (T := TX10) (N := 44) (ci := 9) (v := .ref (ad 55)) hx hb hts in_X10_next_X10 hown hK hI 28 (by decide) (cel_28 cy ad _) rfl 43 (by decide) (by decide +kernel) rfl dX10_next_22 ?_
        refine lv_iload_n hx hb dX10_next_25 rfl (lv_at hl 3 rfl) ?_
        refine g_zald (v := σ 55 x3.toNat) hx hb hK hI 55 (by decide) (cel_55 cy ad) (by omega) (by decide) rfl dX10_next_26 ?_
        have b_5 := bd_55 hF x3.toNat
        refine g_if_eq (tgt := 33) hx hb dX10_next_27 (by decide) (by omega) (fun c_6 => ?_) (fun c_6 => ?_)
        · skip
          refine lv_iload_n hx hb dX10_next_33 rfl (lv_at hl 1 rfl) ?_
          refine g_if_eq (tgt := 59) hx hb dX10_next_34 (by decide) (by omega) (fun c_7 => ?_) (fun c_7 => ?_)
          · skip
            refine lv_aload_n hx hb dX10_next_59 rfl (lv_at hl 0 rfl) ?_
            refine lv_aload_n hx hb dX10_next_60 rfl (lv_at hl 0 rfl) ?_
            refine g_get (C := RX10) (T := TX10) (N := 44) (ci := 9) (v := .ref (ad 42)) hx hb hts in_X10_next_X10 hown hK hI 28 (by decide) (cel_28 cy ad _) rfl 27 (by decide) (by decide +kernel) rfl dX10_next_61 ?_
            refine lv_iload_n hx hb dX10_next_64 rfl (lv_at hl 3 rfl) ?_
            refine g_iald (v := σ 42 x3.toNat) hx hb hK hI 42 (by decide) (cel_42 cy ad) (by omega) (by decide) rfl dX10_next_65 ?_
            have b_8 := bd_42 hF x3.toNat
            refine lv_bipush (v := iI 80) hx hb dX10_next_66 (iI_bip (by decide)) ?_
            refine lv_iload_n hx hb dX10_next_68 rfl (lv_at hl 3 rfl) ?_
            refine g_iadd hx hb dX10_next_69 ?_
            refine g_V (As := [.int (iI (σ 42 x3.toNat)), .int (iI (80 + x3))]) (rest := []) 28 (c_X10_isClear l D cy ad σ (σ 42 x3.toNat) (by omega) (80 + x3) (by omega)) hx hb hml hown hts hK hN hI hl.1 gX10_next_X10_isClear rfl hd_X10_isClear rfl rfl ⟨Nat.le_of_ble_eq_true rfl, Nat.le_of_ble_eq_true rfl⟩ ⟨Nat.zero_le _, Nat.zero_le _⟩ (by decide) (cel_28 cy ad _) rfl rfl rfl rfl (Nat.le_of_ble_eq_true rfl) dX10_next_70 (fun H locs hG_9 hI => ?_)
            refine lv_istore (lv' := [(4, .int (iI (f_X10_isClear σ (σ 42 x3.toNat) (80 + x3)))), (0, .ref (ad 28)), (1, .int (iI a0)), (2, .int (iI x2)), (3, .int (iI x3))]) hx hb dX10_next_73 hl (by decide) rfl (fun ls hl => ?_)
            refine lv_iload hx hb dX10_next_75 (lv_at hl 0 rfl) ?_
            refine g_if_eq (tgt := 102) hx hb dX10_next_77 (by decide) (by omega) (fun c_10 => ?_) (fun c_10 => ?_)
            · skip
              refine lv_iinc (v := iI (x3 + 1)) (lv' := [(3, .int (iI (x3 + 1))), (4, .int (iI (f_X10_isClear σ (σ 42 x3.toNat) (80 + x3)))), (0, .ref (ad 28)), (1, .int (iI a0)), (2, .int (iI x2))]) hx hb dX10_next_102 hl (k := 4) rfl (iI_add _ _) (by decide) rfl (fun ls hl => ?_)
              refine lv_goto (tgt := 4) hx hb dX10_next_105 (by decide) ?_
              have e9 : L_X10_next_4 σ a0 (n + 1) x2 x3 = L_X10_next_4 σ a0 n x2 (x3 + 1) := by rw [L_X10_next_4, if_neg c_2, if_pos c_4, if_pos c_6, if_pos c_7, if_pos c_10]
              rw [e9] at hk
              exact ih x2 (x3 + 1)  (by omega) (by omega) (by omega) (by omega) _ _ _ hI (lv_sub hl [2, 3, 4, 0] rfl) hk
            · skip
              refine lv_iload_n hx hb dX10_next_80 rfl (lv_at hl 3 rfl) ?_
              refine lv_iconst (v := iI (-1)) hx hb dX10_next_81 rfl ?_
              refine g_icmp_eq (tgt := 100) hx hb dX10_next_82 (by decide) (by omega) (by omega) (fun c_11 => ?_) (fun c_11 => ?_)
              · skip
                refine lv_iload_n hx hb dX10_next_100 rfl (lv_at hl 4 rfl) ?_
                refine lv_istore_n (lv' := [(2, .int (iI x3)), (4, .int (iI (f_X10_isClear σ (σ 42 x3.toNat) (80 + x3)))), (0, .ref (ad 28)), (1, .int (iI a0)), (3, .int (iI x3))]) hx hb dX10_next_101 rfl hl (by decide) rfl (fun ls hl => ?_)
                refine lv_iinc (v := iI (x3 + 1)) (lv' := [(3, .int (iI (x3 + 1))), (2, .int (iI x3)), (4, .int (iI (f_X10_isClear σ (σ 42 x3.toNat) (80 + x3)))), (0, .ref (ad 28)), (1, .int (iI a0))]) hx hb dX10_next_102 hl (k := 4) rfl (iI_add _ _) (by decide) rfl (fun ls hl => ?_)
                refine lv_goto (tgt := 4) hx hb dX10_next_105 (by decide) ?_
                have e9 : L_X10_next_4 σ a0 (n + 1) x2 x3 = L_X10_next_4 σ a0 n x3 (x3 + 1) := by rw [L_X10_next_4, if_neg c_2, if_pos c_4, if_pos c_6, if_pos c_7, if_neg c_10, if_pos c_11]
                rw [e9] at hk
                exact ih x3 (x3 + 1)  (by omega) (by omega) (by omega) (by omega) _ _ _ hI (lv_sub hl [3, 4, 1, 0] rfl) hk
              · skip
                refine lv_aload_n hx hb dX10_next_85 rfl (lv_at hl 1 rfl) ?_
                refine g_get (C := RX10) (T := TX10) (N := 44) (ci := 9) (v := .ref (ad 42)) hx hb hts in_X10_next_X10 hown hK hI 28 (by decide) (cel_28 cy ad _) rfl 27 (by decide) (by decide +kernel) rfl dX10_next_86 ?_
                refine lv_iload_n hx hb dX10_next_89 rfl (lv_at hl 4 rfl) ?_
                refine g_iald (v := σ 42 x3.toNat) hx hb hK hI 42 (by decide) (cel_42 cy ad) (by omega) (by decide) rfl dX10_next_90 ?_
                have b_12 := bd_42 hF x3.toNat
                refine lv_aload_n hx hb dX10_next_91 rfl (lv_at hl 1 rfl) ?_
                refine g_get (C := RX10) (T := TX10) (N := 44) (ci := 9) (v := .ref (ad 42)) hx hb hts in_X10_next_X10 hown hK hI 28 (by decide) (cel_28 cy ad _) rfl 27 (by decide) (by decide +kernel) rfl dX10_next_92 ?_
                refine lv_iload_n hx hb dX10_next_95 rfl (lv_at hl 3 rfl) ?_
                refine g_iald (v := σ 42 x2.toNat) hx hb hK hI 42 (by decide) (cel_42 cy ad) (by omega) (by decide) rfl dX10_next_96 ?_
                have b_13 := bd_42 hF x2.toNat
                refine g_icmp_ge (tgt := 102) hx hb dX10_next_97 (by decide) (by omega) (by omega) (fun c_14 => ?_) (fun c_14 => ?_)
                · skip
                  refine lv_iinc (v := iI (x3 + 1)) (lv' := [(3, .int (iI (x3 + 1))), (4, .int (iI (f_X10_isClear σ (σ 42 x3.toNat) (80 + x3)))), (0, .ref (ad 28)), (1, .int (iI a0)), (2, .int (iI x2))]) hx hb dX10_next_102 hl (k := 4) rfl (iI_add _ _) (by decide) rfl (fun ls hl => ?_)
                  refine lv_goto (tgt := 4) hx hb dX10_next_105 (by decide) ?_
                  have e9 : L_X10_next_4 σ a0 (n + 1) x2 x3 = L_X10_next_4 σ a0 n x2 (x3 + 1) := by rw [L_X10_next_4, if_neg c_2, if_pos c_4, if_pos c_6, if_pos c_7, if_neg c_10, if_neg c_11, if_pos c_14]
                  rw [e9] at hk
                  exact ih x2 (x3 + 1)  (by omega) (by omega) (by omega) (by omega) _ _ _ hI (lv_sub hl [2, 3, 4, 0] rfl) hk
                · skip
                  refine lv_iload_n hx hb dX10_next_100 rfl (lv_at hl 4 rfl) ?_
                  refine lv_istore_n (lv' := [(2, .int (iI x3)), (4, .int (iI (f_X10_isClear σ (σ 42 x3.toNat) (80 + x3)))), (0, .ref (ad 28)), (1, .int (iI a0)), (3, .int (iI x3))]) hx hb dX10_next_101 rfl hl (by decide) rfl (fun ls hl => ?_)
                  refine lv_iinc (v := iI (x3 + 1)) (lv' := [(3, .int (iI (x3 + 1))), (2, .int (iI x3)), (4, .int (iI (f_X10_isClear σ (σ 42 x3.toNat) (80 + x3)))), (0, .ref (ad 28)), (1, .int (iI a0))]) hx hb dX10_next_102 hl (k := 4) rfl (iI_add _ _) (by decide) rfl (fun ls hl => ?_)
                  refine lv_goto (tgt := 4) hx hb dX10_next_105 (by decide) ?_
                  have e9 : L_X10_next_4 σ a0 (n + 1) x2 x3 = L_X10_next_4 σ a0 n x3 (x3 + 1) := by rw [L_X10_next_4, if_neg c_2, if_pos c_4, if_pos c_6, if_pos c_7, if_neg c_10, if_neg c_11, if_neg c_14]
                  rw [e9] at hk
                  exact ih x3 (x3 + 1)  (by omega) (by omega) (by omega) (by omega) _ _ _ hI (lv_sub hl [3, 4, 1, 0] rfl) hk
          · skip
            refine lv_aload_n hx hb dX10_next_37 rfl (lv_at hl 0 rfl) ?_
            refine g_get (C := RX10) (T := TX10) (N := 44) (ci := 9) (v := .ref (ad 54)) hx hb hts in_X10_next_X10 hown hK hI 28 (by decide) (cel_28 cy ad _) rfl 42 (by decide) (by decide +kernel) rfl dX10_next_38 ?_
            refine lv_aload_n hx hb dX10_next_41 rfl (lv_at hl 0 rfl) ?_
            refine g_get (C := RX10) (T := TX10) (N := 44) (ci := 9) (v := .ref (ad 42)) hx hb hts in_X10_next_X10 hown hK hI 28 (by decide) (cel_28 cy ad _) rfl 27 (by decide) (by decide +kernel) rfl dX10_next_42 ?_
            refine lv_iload_n hx hb dX10_next_45 rfl (lv_at hl 3 rfl) ?_
            refine g_iald (v := σ 42 x3.toNat) hx hb hK hI 42 (by decide) (cel_42 cy ad) (by omega) (by decide) rfl dX10_next_46 ?_
            have b_15 := bd_42 hF x3.toNat
            refine g_zald (v := σ 54 ((σ 42 x3.toNat).toNat)) hx hb hK hI 54 (by decide) (cel_54 cy ad) (by omega) (by decide) rfl dX10_next_47 ?_
            have b_16 := bd_54 hF ((σ 42 x3.toNat).toNat)
            refine g_if_ne (tgt := 55) hx hb dX10_next_48 (by decide) (by omega) (fun c_17 => ?_) (fun c_17 => ?_)
            · skip
              refine lv_iconst (v := iI 0) hx hb dX10_next_55 rfl ?_
              refine lv_goto (tgt := 73) hx hb dX10_next_56 (by decide) ?_
              refine lv_istore (lv' := [(4, .int (iI 0)), (0, .ref (ad 28)), (1, .int (iI a0)), (2, .int (iI x2)), (3, .int (iI x3))]) hx hb dX10_next_73 hl (by decide) rfl (fun ls hl => ?_)
              refine lv_iload hx hb dX10_next_75 (lv_at hl 0 rfl) ?_
              refine g_if_eq (tgt := 102) hx hb dX10_next_77 (by decide) (by omega) (fun c_18 => ?_) (fun c_18 => ?_)
              · skip
                refine lv_iinc (v := iI (x3 + 1)) (lv' := [(3, .int (iI (x3 + 1))), (4, .int (iI 0)), (0, .ref (ad 28)), (1, .int (iI a0)), (2, .int (iI x2))]) hx hb dX10_next_102 hl (k := 4) rfl (iI_add _ _) (by decide) rfl (fun ls hl => ?_)
                refine lv_goto (tgt := 4) hx hb dX10_next_105 (by decide) ?_
                have e9 : L_X10_next_4 σ a0 (n + 1) x2 x3 = L_X10_next_4 σ a0 n x2 (x3 + 1) := by rw [L_X10_next_4, if_neg c_2, if_pos c_4, if_pos c_6, if_neg c_7, if_neg c_17]
                rw [e9] at hk
                exact ih x2 (x3 + 1)  (by omega) (by omega) (by omega) (by omega) _ _ _ hI (lv_sub hl [2, 3, 4, 0] rfl) hk
              · exact absurd (by decide) c_18
            · skip
              refine lv_iconst (v := iI 1) hx hb dX10_next_51 rfl ?_
              refine lv_goto (tgt := 73) hx hb dX10_next_52 (by decide) ?_
              refine lv_istore (lv' := [(4, .int (iI 1)), (0, .ref (ad 28)), (1, .int (iI a0)), (2, .int (iI x2)), (3, .int (iI x3))]) hx hb dX10_next_73 hl (by decide) rfl (fun ls hl => ?_)
              refine lv_iload hx hb dX10_next_75 (lv_at hl 0 rfl) ?_
              refine g_if_eq (tgt := 102) hx hb dX10_next_77 (by decide) (by omega) (fun c_19 => ?_) (fun c_19 => ?_)
              · exact absurd c_19 (by decide)
              · skip
                refine lv_iload_n hx hb dX10_next_80 rfl (lv_at hl 3 rfl) ?_
                refine lv_iconst (v := iI (-1)) hx hb dX10_next_81 rfl ?_
                refine g_icmp_eq (tgt := 100) hx hb dX10_next_82 (by decide) (by omega) (by omega) (fun c_20 => ?_) (fun c_20 => ?_)
                · skip
                  refine lv_iload_n hx hb dX10_next_100 rfl (lv_at hl 4 rfl) ?_
                  refine lv_istore_n (lv' := [(2, .int (iI x3)), (4, .int (iI 1)), (0, .ref (ad 28)), (1, .int (iI a0)), (3, .int (iI x3))]) hx hb dX10_next_101 rfl hl (by decide) rfl (fun ls hl => ?_)
                  refine lv_iinc (v := iI (x3 + 1)) (lv' := [(3, .int (iI (x3 + 1))), (2, .int (iI x3)), (4, .int (iI 1)), (0, .ref (ad 28)), (1, .int (iI a0))]) hx hb dX10_next_102 hl (k := 4) rfl (iI_add _ _) (by decide) rfl (fun ls hl => ?_)
                  refine lv_goto (tgt := 4) hx hb dX10_next_105 (by decide) ?_
                  have e9 : L_X10_next_4 σ a0 (n + 1) x2 x3 = L_X10_next_4 σ a0 n x3 (x3 + 1) := by rw [L_X10_next_4, if_neg c_2, if_pos c_4, if_pos c_6, if_neg c_7, if_pos c_17, if_pos c_20]
                  rw [e9] at hk
                  exact ih x3 (x3 + 1)  (by omega) (by omega) (by omega) (by omega) _ _ _ hI (lv_sub hl [3, 4, 1, 0] rfl) hk
                · skip
                  refine lv_aload_n hx hb dX10_next_85 rfl (lv_at hl 1 rfl) ?_
                  refine g_get (C := RX10) (T := TX10) (N := 44) (ci := 9) (v := .ref (ad 42)) hx hb hts in_X10_next_X10 hown hK hI 28 (by decide) (cel_28 cy ad _) rfl 27 (by decide) (by decide +kernel) rfl dX10_next_86 ?_
                  refine lv_iload_n hx hb dX10_next_89 rfl (lv_at hl 4 rfl) ?_
                  refine g_iald (v := σ 42 x3.toNat) hx hb hK hI 42 (by decide) (cel_42 cy ad) (by omega) (by decide) rfl dX10_next_90 ?_
                  have b_21 := bd_42 hF x3.toNat
                  refine lv_aload_n hx hb dX10_next_91 rfl (lv_at hl 1 rfl) ?_
                  refine g_get (C := RX10) (T := TX10) (N := 44) (ci := 9) (v := .ref (ad 42)) hx hb hts in_X10_next_X10 hown hK hI 28 (by decide) (cel_28 cy ad _) rfl 27 (by decide) (by decide +kernel) rfl dX10_next_92 ?_
                  refine lv_iload_n hx hb dX10_next_95 rfl (lv_at hl 3 rfl) ?_
                  refine g_iald (v := σ 42 x2.toNat) hx hb hK hI 42 (by decide) (cel_42 cy ad) (by omega) (by decide) rfl dX10_next_96 ?_
                  have b_22 := bd_42 hF x2.toNat
                  refine g_icmp_ge (tgt := 102) hx hb dX10_next_97 (by decide) (by omega) (by omega) (fun c_23 => ?_) (fun c_23 => ?_)
                  · skip
                    refine lv_iinc (v := iI (x3 + 1)) (lv' := [(3, .int (iI (x3 + 1))), (4, .int (iI 1)), (0, .ref (ad 28)), (1, .int (iI a0)), (2, .int (iI x2))]) hx hb dX10_next_102 hl (k := 4) rfl (iI_add _ _) (by decide) rfl (fun ls hl => ?_)
                    refine lv_goto (tgt := 4) hx hb dX10_next_105 (by decide) ?_
                    have e9 : L_X10_next_4 σ a0 (n + 1) x2 x3 = L_X10_next_4 σ a0 n x2 (x3 + 1) := by rw [L_X10_next_4, if_neg c_2, if_pos c_4, if_pos c_6, if_neg c_7, if_pos c_17, if_neg c_20, if_pos c_23]
                    rw [e9] at hk
                    exact ih x2 (x3 + 1)  (by omega) (by omega) (by omega) (by omega) _ _ _ hI (lv_sub hl [2, 3, 4, 0] rfl) hk
                  · skip
                    refine lv_iload_n hx hb dX10_next_100 rfl (lv_at hl 4 rfl) ?_
                    refine lv_istore_n (lv' := [(2, .int (iI x3)), (4, .int (iI 1)), (0, .ref (ad 28)), (1, .int (iI a0)), (3, .int (iI x3))]) hx hb dX10_next_101 rfl hl (by decide) rfl (fun ls hl => ?_)
                    refine lv_iinc (v := iI (x3 + 1)) (lv' := [(3, .int (iI (x3 + 1))), (2, .int (iI x3)), (4, .int (iI 1)), (0, .ref (ad 28)), (1, .int (iI a0))]) hx hb dX10_next_102 hl (k := 4) rfl (iI_add _ _) (by decide) rfl (fun ls hl => ?_)
                    refine lv_goto (tgt := 4) hx hb dX10_next_105 (by decide) ?_
                    have e9 : L_X10_next_4 σ a0 (n + 1) x2 x3 = L_X10_next_4 σ a0 n x3 (x3 + 1) := by rw [L_X10_next_4, if_neg c_2, if_pos c_4, if_pos c_6, if_neg c_7, if_pos c_17, if_neg c_20, if_neg c_23]
                    rw [e9] at hk
                    exact ih x3 (x3 + 1)  (by omega) (by omega) (by omega) (by omega) _ _ _ hI (lv_sub hl [3, 4, 1, 0] rfl) hk
        · skip
          refine lv_goto (tgt := 102) hx hb dX10_next_30 (by decide) ?_
          refine lv_iinc (v := iI (x3 + 1)) (lv' := [(3, .int (iI (x3 + 1))), (0, .ref (ad 28)), (1, .int (iI a0)), (2, .int (iI x2))]) hx hb dX10_next_102 hl (k := 3) rfl (iI_add _ _) (by decide) rfl (fun ls hl => ?_)
          refine lv_goto (tgt := 4) hx hb dX10_next_105 (by decide) ?_
          have e9 : L_X10_next_4 σ a0 (n + 1) x2 x3 = L_X10_next_4 σ a0 n x2 (x3 + 1) := by rw [L_X10_next_4, if_neg c_2, if_pos c_4, if_neg c_6]
          rw [e9] at hk
          exact ih x2 (x3 + 1)  (by omega) (by omega) (by omega) (by omega) _ _ _ hI (lv_sub hl [1, 2, 3, 0] rfl) hk
def f_X10_next (σ : Sg) (a0 : Int) : Int := (L_X10_next_4 σ a0 41 (-1) 0)
theorem hd_X10_next : yX10_next.cls = RX10 ∧ yX10_next.cls ≠ "java/lang/invoke/MethodHandle" ∧ yX10_next.cls ≠ "java/lang/invoke/VarHandle" ∧ (parseMethodDescriptor yX10_next.desc).map (fun d => d.parameters.length) = some 1 := by decide +kernel
set_option maxHeartbeats 4000000 in
set_option maxRecDepth 100000 in
theorem c_X10_next (l : Launch) (D : va_G) (cy : Nat → ClassId) (ad : Nat → Nat) (σ : Sg) (a0 : Int) (ha0 : (0 : Int) ≤ a0 ∧ a0 ≤ 1) : CM l D cy ad yX10_next wsX10_next { frames := 3, cells := 0, slots := 0, locals := 120 } [.ref (ad 28), .int (iI a0)] σ (some (.int (iI (f_X10_next σ a0)))) σ ((-1 ≤ (f_X10_next σ a0) ∧ (f_X10_next σ a0) ≤ 39) ∧ ((f_X10_next σ a0) = -1 ∨ (a0 = 0 ∧ σ 55 ((f_X10_next σ a0)).toNat = 0) ∨ (a0 = 1 ∧ σ 54 (σ 42 ((f_X10_next σ a0)).toNat).toNat = 0))) := by
  refine CM.of (cc := cX10_next) (maxL := 5) (ret := (some .int)) (by decide) rfl (Nat.le_of_ble_eq_true rfl) ?_
  intro p e s m args below meth c₀ ls X hI hl
  have hl : lv_has ls 5 [(0, .ref (ad 28)), (1, .int (iI a0))] := hl
  obtain ⟨hx, hb, hr, hml, hown, hts, hlocks, hK, hN⟩ := id X
  have hF := hI.2.2.2
  refine lv_iconst (v := iI (-1)) hx hb dX10_next_0 rfl ?_
  refine lv_istore_n (lv' := [(2, .int (iI (-1))), (0, .ref (ad 28)), (1, .int (iI a0))]) hx hb dX10_next_1 rfl hl (by decide) rfl (fun ls hl => ?_)
  refine lv_iconst (v := iI 0) hx hb dX10_next_2 rfl ?_
  refine lv_istore_n (lv' := [(3, .int (iI 0)), (2, .int (iI (-1))), (0, .ref (ad 28)), (1, .int (iI a0))]) hx hb dX10_next_3 rfl hl (by decide) rfl (fun ls hl => ?_)
  refine w_L_X10_next_4 X σ a0 ha0  41 (-1) 0  (by omega) (by omega) (by omega) (by omega) _ _ _ hI (lv_sub hl [2, 3, 1, 0] rfl) (fun H locs ls hpo_25 hI hl => ?_)
  refine lv_iload_n hx hb dX10_next_108 rfl (lv_at hl 0 rfl) ?_
  have e9 : f_X10_next σ a0 = (L_X10_next_4 σ a0 41 (-1) 0) := by rw [f_X10_next]
  exact g_iret (z := (L_X10_next_4 σ a0 41 (-1) 0)) hx hb hr hK hN hlocks hI e9.symm rfl (by rw [e9] <;> first | (omega) | (dsimp only; omega)) dX10_next_109
theorem in_X10_writes_X10 : ∀ w ∈ u_ws RX10 TX10 44, w ∈ wsX10_writes := by decide +kernel
def f_X10_writes (σ : Sg) (a0 : Int) (a1 : Int) : Sg := (if a1 = 0 then (if (σ 54 ((σ 42 a0.toNat).toNat)) = 0 then (up2 (up2 (f_X10_copies (f_X10_keeps (f_X10_keeps (up2 (up2 (up2 σ 48 ((σ 28 33).toNat) (σ 42 a0.toNat)) 49 ((σ 28 33).toNat) a1) 50 ((σ 28 33).toNat) 0) (σ 28 33) 0 (120 + (σ 42 a0.toNat))) ((f_X10_keeps (up2 (up2 (up2 σ 48 ((σ 28 33).toNat) (σ 42 a0.toNat)) 49 ((σ 28 33).toNat) a1) 50 ((σ 28 33).toNat) 0) (σ 28 33) 0 (120 + (σ 42 a0.toNat))) 28 33) 1 (80 + a0)) (80 + a0) (120 + (σ 42 a0.toNat))) 55 a0.toNat 1) 28 33 (((f_X10_copies (f_X10_keeps (f_X10_keeps (up2 (up2 (up2 σ 48 ((σ 28 33).toNat) (σ 42 a0.toNat)) 49 ((σ 28 33).toNat) a1) 50 ((σ 28 33).toNat) 0) (σ 28 33) 0 (120 + (σ 42 a0.toNat))) ((f_X10_keeps (up2 (up2 (up2 σ 48 ((σ 28 33).toNat) (σ 42 a0.toNat)) 49 ((σ 28 33).toNat) a1) 50 ((σ 28 33).toNat) 0) (σ 28 33) 0 (120 + (σ 42 a0.toNat))) 28 33) 1 (80 + a0)) (80 + a0) (120 + (σ 42 a0.toNat))) 28 33) + 1)) else (up2 (up2 (f_X10_copies (f_X10_keeps (f_X10_keeps (up2 (up2 (up2 σ 48 ((σ 28 33).toNat) (σ 42 a0.toNat)) 49 ((σ 28 33).toNat) a1) 50 ((σ 28 33).toNat) 1) (σ 28 33) 0 (120 + (σ 42 a0.toNat))) ((f_X10_keeps (up2 (up2 (up2 σ 48 ((σ 28 33).toNat) (σ 42 a0.toNat)) 49 ((σ 28 33).toNat) a1) 50 ((σ 28 33).toNat) 1) (σ 28 33) 0 (120 + (σ 42 a0.toNat))) 28 33) 1 (80 + a0)) (80 + a0) (120 + (σ 42 a0.toNat))) 55 a0.toNat 1) 28 33 (((f_X10_copies (f_X10_keeps (f_X10_keeps (up2 (up2 (up2 σ 48 ((σ 28 33).toNat) (σ 42 a0.toNat)) 49 ((σ 28 33).toNat) a1) 50 ((σ 28 33).toNat) 1) (σ 28 33) 0 (120 + (σ 42 a0.toNat))) ((f_X10_keeps (up2 (up2 (up2 σ 48 ((σ 28 33).toNat) (σ 42 a0.toNat)) 49 ((σ 28 33).toNat) a1) 50 ((σ 28 33).toNat) 1) (σ 28 33) 0 (120 + (σ 42 a0.toNat))) 28 33) 1 (80 + a0)) (80 + a0) (120 + (σ 42 a0.toNat))) 28 33) + 1))) else (up2 (up2 (f_X10_copies (f_X10_keeps (f_X10_spare (f_X10_keeps (up2 (up2 (up2 σ 48 ((σ 28 33).toNat) (σ 42 a0.toNat)) 49 ((σ 28 33).toNat) a1) 50 ((σ 28 33).toNat) 0) (σ 28 33) 0 (120 + (σ 42 a0.toNat))) (σ 42 a0.toNat)) ((f_X10_spare (f_X10_keeps (up2 (up2 (up2 σ 48 ((σ 28 33).toNat) (σ 42 a0.toNat)) 49 ((σ 28 33).toNat) a1) 50 ((σ 28 33).toNat) 0) (σ 28 33) 0 (120 + (σ 42 a0.toNat))) (σ 42 a0.toNat)) 28 33) 1 70) 70 (120 + (σ 42 a0.toNat))) 54 ((σ 42 a0.toNat).toNat) 1) 28 33 (((f_X10_copies (f_X10_keeps (f_X10_spare (f_X10_keeps (up2 (up2 (up2 σ 48 ((σ 28 33).toNat) (σ 42 a0.toNat)) 49 ((σ 28 33).toNat) a1) 50 ((σ 28 33).toNat) 0) (σ 28 33) 0 (120 + (σ 42 a0.toNat))) (σ 42 a0.toNat)) ((f_X10_spare (f_X10_keeps (up2 (up2 (up2 σ 48 ((σ 28 33).toNat) (σ 42 a0.toNat)) 49 ((σ 28 33).toNat) a1) 50 ((σ 28 33).toNat) 0) (σ 28 33) 0 (120 + (σ 42 a0.toNat))) (σ 42 a0.toNat)) 28 33) 1 70) 70 (120 + (σ 42 a0.toNat))) 28 33) + 1)))
theorem hd_X10_writes : yX10_writes.cls = RX10 ∧ yX10_writes.cls ≠ "java/lang/invoke/MethodHandle" ∧ yX10_writes.cls ≠ "java/lang/invoke/VarHandle" ∧ (parseMethodDescriptor yX10_writes.desc).map (fun d => d.parameters.length) = some 2 := by decide +kernel
set_option maxHeartbeats 4000000 in
set_option maxRecDepth 100000 in
theorem c_X10_writes (l : Launch) (D : va_G) (cy : Nat → ClassId) (ad : Nat → Nat) (σ : Sg) (a0 : Int) (ha0 : (0 : Int) ≤ a0 ∧ a0 ≤ 39) (a1 : Int) (ha1 : (0 : Int) ≤ a1 ∧ a1 ≤ 1) (h1 : σ 28 33 < 80) : CM l D cy ad yX10_writes wsX10_writes { frames := 1, cells := 0, slots := 0, locals := 40 } [.ref (ad 28), .int (iI a0), .int (iI a1)] σ none (f_X10_writes σ a0 a1) (True) := by
  refine CM.of (cc := cX10_writes) (maxL := 5) (ret := none) (by decide) rfl (Nat.le_of_ble_eq_true rfl) ?_
  intro p e s m args below meth c₀ ls X hI hl
  have hl : lv_has ls 5 [(0, .ref (ad 28)), (1, .int (iI a0)), (2, .int (iI a1))] := hl
  obtain ⟨hx, hb, hr, hml, hown, hts, hlocks, hK, hN⟩ := id X
  have hF := hI.2.2.2
  refine lv_aload_n hx hb dX10_writes_0 rfl (lv_at hl 0 rfl) ?_
  refine g_get (C := RX10) (T := TX10) (N := 44) (ci := 9) (v := .ref (ad 42)) hx hb hts in_X10_writes_X10 hown hK hI 28 (by decide) (cel_28 cy ad _) rfl 27 (by decide) (by decide +kernel) rfl dX10_writes_1 ?_
  refine lv_iload_n hx hb dX10_writes_4 rfl (lv_at hl 1 rfl) ?_
  refine g_iald (v := σ 42 a0.toNat) hx hb hK hI 42 (by decide) (cel_42 cy ad) (by omega) (by decide) rfl dX10_writes_5 ?_
  have b_1 := bd_42 hF a0.toNat
  refine lv_istore_n (lv' := [(3, .int (iI (σ 42 a0.toNat))), (0, .ref (ad 28)), (1, .int (iI a0)), (2, .int (iI a1))]) hx hb dX10_writes_6 rfl hl (by decide) rfl (fun ls hl => ?_)
  refine lv_aload_n hx hb dX10_writes_7 rfl (lv_at hl 1 rfl) ?_
  refine g_get (C := RX10) (T := TX10) (N := 44) (ci := 9) (v := .ref (ad 48)) hx hb hts in_X10_writes_X10 hown hK hI 28 (by decide) (cel_28 cy ad _) rfl 36 (by decide) (by decide +kernel) rfl dX10_writes_8 ?_
  refine lv_aload_n hx hb dX10_writes_11 rfl (lv_at hl 1 rfl) ?_
  refine g_get (C := RX10) (T := TX10) (N := 44) (ci := 9) (v := .int (iI (σ 28 33))) hx hb hts in_X10_writes_X10 hown hK hI 28 (by decide) (cel_28 cy ad _) rfl 33 (by decide) (by decide +kernel) rfl dX10_writes_12 ?_
  have b_2 := bd_28_33 hF
  refine lv_iload_n hx hb dX10_writes_15 rfl (lv_at hl 0 rfl) ?_
  refine g_iast hx hb hK hI 48 (by decide) (cel_48 cy ad) (by omega) (by decide) (bw_48 (by omega)) dX10_writes_16 (fun H locs hI => ?_)
  have hF_3 : WF (up2 σ 48 ((σ 28 33).toNat) (σ 42 a0.toNat)) := hI.2.2.2
  refine lv_aload_n hx hb dX10_writes_17 rfl (lv_at hl 1 rfl) ?_
  refine g_get (C := RX10) (T := TX10) (N := 44) (ci := 9) (v := .ref (ad 49)) hx hb hts in_X10_writes_X10 hown hK hI 28 (by decide) (cel_28 cy ad _) rfl 37 (by decide) (by decide +kernel) rfl dX10_writes_18 ?_
  refine lv_aload_n hx hb dX10_writes_21 rfl (lv_at hl 1 rfl) ?_
  refine g_get (C := RX10) (T := TX10) (N := 44) (ci := 9) (v := .int (iI (σ 28 33))) hx hb hts in_X10_writes_X10 hown hK hI 28 (by decide) (cel_28 cy ad _) rfl 33 (by decide) (by decide +kernel) (by show some (Value.int (iI ((up2 σ 48 ((σ 28 33).toNat) (σ 42 a0.toNat)) 28 33))) = _; rw [up2_cell _ _ _ (by decide)]) dX10_writes_22 ?_
  have b_4 := bd_28_33 hF
  refine lv_iload_n hx hb dX10_writes_25 rfl (lv_at hl 3 rfl) ?_
  refine g_zast hx hb hK hI 49 (by decide) (cel_49 cy ad) (by omega) (by decide) (by omega) (bw_49 (by omega)) dX10_writes_26 (fun H locs hI => ?_)
  have hF_5 : WF (up2 (up2 σ 48 ((σ 28 33).toNat) (σ 42 a0.toNat)) 49 ((σ 28 33).toNat) a1) := hI.2.2.2
  refine lv_aload_n hx hb dX10_writes_27 rfl (lv_at hl 1 rfl) ?_
  refine g_get (C := RX10) (T := TX10) (N := 44) (ci := 9) (v := .ref (ad 50)) hx hb hts in_X10_writes_X10 hown hK hI 28 (by decide) (cel_28 cy ad _) rfl 38 (by decide) (by decide +kernel) rfl dX10_writes_28 ?_
  refine lv_aload_n hx hb dX10_writes_31 rfl (lv_at hl 1 rfl) ?_
  refine g_get (C := RX10) (T := TX10) (N := 44) (ci := 9) (v := .int (iI (σ 28 33))) hx hb hts in_X10_writes_X10 hown hK hI 28 (by decide) (cel_28 cy ad _) rfl 33 (by decide) (by decide +kernel) (by show some (Value.int (iI ((up2 (up2 σ 48 ((σ 28 33).toNat) (σ 42 a0.toNat)) 49 ((σ 28 33).toNat) a1) 28 33))) = _; rw [up2_cell _ _ _ (by decide), up2_cell _ _ _ (by decide)]) dX10_writes_32 ?_
  have b_6 := bd_28_33 hF
  refine lv_iload_n hx hb dX10_writes_35 rfl (lv_at hl 3 rfl) ?_
  refine g_if_ne (tgt := 52) hx hb dX10_writes_36 (by decide) (by omega) (fun c_7 => ?_) (fun c_7 => ?_)
  · skip
    refine lv_iconst (v := iI 0) hx hb dX10_writes_52 rfl ?_
    refine g_zast hx hb hK hI 50 (by decide) (cel_50 cy ad) (by omega) (by decide) (by omega) (bw_50 (by omega)) dX10_writes_53 (fun H locs hI => ?_)
    have hF_8 : WF (up2 (up2 (up2 σ 48 ((σ 28 33).toNat) (σ 42 a0.toNat)) 49 ((σ 28 33).toNat) a1) 50 ((σ 28 33).toNat) 0) := hI.2.2.2
    refine lv_aload_n hx hb dX10_writes_54 rfl (lv_at hl 1 rfl) ?_
    refine lv_aload_n hx hb dX10_writes_55 rfl (lv_at hl 1 rfl) ?_
    refine g_get (C := RX10) (T := TX10) (N := 44) (ci := 9) (v := .int (iI (σ 28 33))) hx hb hts in_X10_writes_X10 hown hK hI 28 (by decide) (cel_28 cy ad _) rfl 33 (by decide) (by decide +kernel) (by show some (Value.int (iI ((up2 (up2 (up2 σ 48 ((σ 28 33).toNat) (σ 42 a0.toNat)) 49 ((σ 28 33).toNat) a1) 50 ((σ 28 33).toNat) 0) 28 33))) = _; rw [up2_cell _ _ _ (by decide), up2_cell _ _ _ (by decide), up2_cell _ _ _ (by decide)]) dX10_writes_56 ?_
    have b_9 := bd_28_33 hF
    refine lv_iconst (v := iI 0) hx hb dX10_writes_59 rfl ?_
    refine lv_bipush (v := iI 120) hx hb dX10_writes_60 (iI_bip (by decide)) ?_
    refine lv_iload_n hx hb dX10_writes_62 rfl (lv_at hl 0 rfl) ?_
    refine g_iadd hx hb dX10_writes_63 ?_
    refine g_V (As := [.int (iI (σ 28 33)), .int (iI 0), .int (iI (120 + (σ 42 a0.toNat)))]) (rest := []) 28 (c_X10_keeps l D cy ad (up2 (up2 (up2 σ 48 ((σ 28 33).toNat) (σ 42 a0.toNat)) 49 ((σ 28 33).toNat) a1) 50 ((σ 28 33).toNat) 0) (σ 28 33) (by omega) 0 (by omega) (120 + (σ 42 a0.toNat)) (by omega)) hx hb hml hown hts hK hN hI hl.1 gX10_writes_X10_keeps rfl hd_X10_keeps rfl rfl ⟨Nat.le_of_ble_eq_true rfl, Nat.le_of_ble_eq_true rfl⟩ ⟨Nat.zero_le _, Nat.zero_le _⟩ (by decide) (cel_28 cy ad _) rfl rfl rfl rfl (Nat.le_of_ble_eq_true rfl) dX10_writes_64 (fun H locs hG_10 hI => ?_)
    have hF_11 := hI.2.2.2
    have q9 : (f_X10_keeps (up2 (up2 (up2 σ 48 ((σ 28 33).toNat) (σ 42 a0.toNat)) 49 ((σ 28 33).toNat) a1) 50 ((σ 28 33).toNat) 0) (σ 28 33) 0 (120 + (σ 42 a0.toNat))) 28 33 = (up2 (up2 (up2 σ 48 ((σ 28 33).toNat) (σ 42 a0.toNat)) 49 ((σ 28 33).toNat) a1) 50 ((σ 28 33).toNat) 0) 28 33 := congrFun (keeps_fr _ _ _ _ (by decide) (by decide) (by decide)) 33
    have q5 : (up2 (up2 (up2 σ 48 ((σ 28 33).toNat) (σ 42 a0.toNat)) 49 ((σ 28 33).toNat) a1) 50 ((σ 28 33).toNat) 0) 28 33 = σ 28 33 := rfl
    refine lv_iload_n hx hb dX10_writes_67 rfl (lv_at hl 3 rfl) ?_
    refine g_if_eq (tgt := 76) hx hb dX10_writes_68 (by decide) (by omega) (fun c_12 => ?_) (fun c_12 => ?_)
    · exact absurd c_12 c_7
    · skip
      refine lv_aload_n hx hb dX10_writes_71 rfl (lv_at hl 1 rfl) ?_
      refine lv_iload_n hx hb dX10_writes_72 rfl (lv_at hl 0 rfl) ?_
      refine g_V (As := [.int (iI (σ 42 a0.toNat))]) (rest := []) 28 (c_X10_spare l D cy ad (f_X10_keeps (up2 (up2 (up2 σ 48 ((σ 28 33).toNat) (σ 42 a0.toNat)) 49 ((σ 28 33).toNat) a1) 50 ((σ 28 33).toNat) 0) (σ 28 33) 0 (120 + (σ 42 a0.toNat))) (σ 42 a0.toNat) (by omega)) hx hb hml hown hts hK hN hI hl.1 gX10_writes_X10_spare rfl hd_X10_spare rfl rfl ⟨Nat.le_of_ble_eq_true rfl, Nat.le_of_ble_eq_true rfl⟩ ⟨Nat.zero_le _, Nat.zero_le _⟩ (by decide) (cel_28 cy ad _) rfl rfl rfl rfl (Nat.le_of_ble_eq_true rfl) dX10_writes_73 (fun H locs hG_13 hI => ?_)
      have hF_14 := hI.2.2.2
      have q8 : (f_X10_spare (f_X10_keeps (up2 (up2 (up2 σ 48 ((σ 28 33).toNat) (σ 42 a0.toNat)) 49 ((σ 28 33).toNat) a1) 50 ((σ 28 33).toNat) 0) (σ 28 33) 0 (120 + (σ 42 a0.toNat))) (σ 42 a0.toNat)) 28 33 = (f_X10_keeps (up2 (up2 (up2 σ 48 ((σ 28 33).toNat) (σ 42 a0.toNat)) 49 ((σ 28 33).toNat) a1) 50 ((σ 28 33).toNat) 0) (σ 28 33) 0 (120 + (σ 42 a0.toNat))) 28 33 := congrFun (spare_fr _ _ (by decide) (by decide) (by decide)) 33
      refine lv_iload_n hx hb dX10_writes_76 rfl (lv_at hl 3 rfl) ?_
      refine g_if_eq (tgt := 85) hx hb dX10_writes_77 (by decide) (by omega) (fun c_15 => ?_) (fun c_15 => ?_)
      · exact absurd c_15 c_7
      · skip
        refine lv_bipush (v := iI 70) hx hb dX10_writes_80 (iI_bip (by decide)) ?_
        refine lv_goto (tgt := 89) hx hb dX10_writes_82 (by decide) ?_
        refine lv_istore (lv' := [(4, .int (iI 70)), (3, .int (iI (σ 42 a0.toNat))), (0, .ref (ad 28)), (1, .int (iI a0)), (2, .int (iI a1))]) hx hb dX10_writes_89 hl (by decide) rfl (fun ls hl => ?_)
        refine lv_aload_n hx hb dX10_writes_91 rfl (lv_at hl 2 rfl) ?_
        refine lv_aload_n hx hb dX10_writes_92 rfl (lv_at hl 2 rfl) ?_
        refine g_get (C := RX10) (T := TX10) (N := 44) (ci := 9) (v := .int (iI ((f_X10_spare (f_X10_keeps (up2 (up2 (up2 σ 48 ((σ 28 33).toNat) (σ 42 a0.toNat)) 49 ((σ 28 33).toNat) a1) 50 ((σ 28 33).toNat) 0) (σ 28 33) 0 (120 + (σ 42 a0.toNat))) (σ 42 a0.toNat)) 28 33))) hx hb hts in_X10_writes_X10 hown hK hI 28 (by decide) (cel_28 cy ad _) rfl 33 (by decide) (by decide +kernel) rfl dX10_writes_93 ?_
        have b_16 := bd_28_33 hF_14
        refine lv_iconst (v := iI 1) hx hb dX10_writes_96 rfl ?_
        refine lv_iload hx hb dX10_writes_97 (lv_at hl 0 rfl) ?_
        refine g_V (As := [.int (iI ((f_X10_spare (f_X10_keeps (up2 (up2 (up2 σ 48 ((σ 28 33).toNat) (σ 42 a0.toNat)) 49 ((σ 28 33).toNat) a1) 50 ((σ 28 33).toNat) 0) (σ 28 33) 0 (120 + (σ 42 a0.toNat))) (σ 42 a0.toNat)) 28 33)), .int (iI 1), .int (iI 70)]) (rest := []) 28 (c_X10_keeps l D cy ad (f_X10_spare (f_X10_keeps (up2 (up2 (up2 σ 48 ((σ 28 33).toNat) (σ 42 a0.toNat)) 49 ((σ 28 33).toNat) a1) 50 ((σ 28 33).toNat) 0) (σ 28 33) 0 (120 + (σ 42 a0.toNat))) (σ 42 a0.toNat)) ((f_X10_spare (f_X10_keeps (up2 (up2 (up2 σ 48 ((σ 28 33).toNat) (σ 42 a0.toNat)) 49 ((σ 28 33).toNat) a1) 50 ((σ 28 33).toNat) 0) (σ 28 33) 0 (120 + (σ 42 a0.toNat))) (σ 42 a0.toNat)) 28 33) (by omega) 1 (by omega) 70 (by omega)) hx hb hml hown hts hK hN hI hl.1 gX10_writes_X10_keeps rfl hd_X10_keeps rfl rfl ⟨Nat.le_of_ble_eq_true rfl, Nat.le_of_ble_eq_true rfl⟩ ⟨Nat.zero_le _, Nat.zero_le _⟩ (by decide) (cel_28 cy ad _) rfl rfl rfl rfl (Nat.le_of_ble_eq_true rfl) dX10_writes_99 (fun H locs hG_17 hI => ?_)
        have hF_18 := hI.2.2.2
        have q7 : (f_X10_keeps (f_X10_spare (f_X10_keeps (up2 (up2 (up2 σ 48 ((σ 28 33).toNat) (σ 42 a0.toNat)) 49 ((σ 28 33).toNat) a1) 50 ((σ 28 33).toNat) 0) (σ 28 33) 0 (120 + (σ 42 a0.toNat))) (σ 42 a0.toNat)) ((f_X10_spare (f_X10_keeps (up2 (up2 (up2 σ 48 ((σ 28 33).toNat) (σ 42 a0.toNat)) 49 ((σ 28 33).toNat) a1) 50 ((σ 28 33).toNat) 0) (σ 28 33) 0 (120 + (σ 42 a0.toNat))) (σ 42 a0.toNat)) 28 33) 1 70) 28 33 = (f_X10_spare (f_X10_keeps (up2 (up2 (up2 σ 48 ((σ 28 33).toNat) (σ 42 a0.toNat)) 49 ((σ 28 33).toNat) a1) 50 ((σ 28 33).toNat) 0) (σ 28 33) 0 (120 + (σ 42 a0.toNat))) (σ 42 a0.toNat)) 28 33 := congrFun (keeps_fr _ _ _ _ (by decide) (by decide) (by decide)) 33
        refine lv_aload_n hx hb dX10_writes_102 rfl (lv_at hl 2 rfl) ?_
        refine lv_iload hx hb dX10_writes_103 (lv_at hl 0 rfl) ?_
        refine lv_bipush (v := iI 120) hx hb dX10_writes_105 (iI_bip (by decide)) ?_
        refine lv_iload_n hx hb dX10_writes_107 rfl (lv_at hl 1 rfl) ?_
        refine g_iadd hx hb dX10_writes_108 ?_
        refine g_V (As := [.int (iI 70), .int (iI (120 + (σ 42 a0.toNat)))]) (rest := []) 28 (c_X10_copies l D cy ad (f_X10_keeps (f_X10_spare (f_X10_keeps (up2 (up2 (up2 σ 48 ((σ 28 33).toNat) (σ 42 a0.toNat)) 49 ((σ 28 33).toNat) a1) 50 ((σ 28 33).toNat) 0) (σ 28 33) 0 (120 + (σ 42 a0.toNat))) (σ 42 a0.toNat)) ((f_X10_spare (f_X10_keeps (up2 (up2 (up2 σ 48 ((σ 28 33).toNat) (σ 42 a0.toNat)) 49 ((σ 28 33).toNat) a1) 50 ((σ 28 33).toNat) 0) (σ 28 33) 0 (120 + (σ 42 a0.toNat))) (σ 42 a0.toNat)) 28 33) 1 70) 70 (by omega) (120 + (σ 42 a0.toNat)) (by omega)) hx hb hml hown hts hK hN hI hl.1 gX10_writes_X10_copies rfl hd_X10_copies rfl rfl ⟨Nat.le_of_ble_eq_true rfl, Nat.le_of_ble_eq_true rfl⟩ ⟨Nat.zero_le _, Nat.zero_le _⟩ (by decide) (cel_28 cy ad _) rfl rfl rfl rfl (Nat.le_of_ble_eq_true rfl) dX10_writes_109 (fun H locs hG_19 hI => ?_)
        have hF_20 := hI.2.2.2
        have q6 : (f_X10_copies (f_X10_keeps (f_X10_spare (f_X10_keeps (up2 (up2 (up2 σ 48 ((σ 28 33).toNat) (σ 42 a0.toNat)) 49 ((σ 28 33).toNat) a1) 50 ((σ 28 33).toNat) 0) (σ 28 33) 0 (120 + (σ 42 a0.toNat))) (σ 42 a0.toNat)) ((f_X10_spare (f_X10_keeps (up2 (up2 (up2 σ 48 ((σ 28 33).toNat) (σ 42 a0.toNat)) 49 ((σ 28 33).toNat) a1) 50 ((σ 28 33).toNat) 0) (σ 28 33) 0 (120 + (σ 42 a0.toNat))) (σ 42 a0.toNat)) 28 33) 1 70) 70 (120 + (σ 42 a0.toNat))) 28 33 = (f_X10_keeps (f_X10_spare (f_X10_keeps (up2 (up2 (up2 σ 48 ((σ 28 33).toNat) (σ 42 a0.toNat)) 49 ((σ 28 33).toNat) a1) 50 ((σ 28 33).toNat) 0) (σ 28 33) 0 (120 + (σ 42 a0.toNat))) (σ 42 a0.toNat)) ((f_X10_spare (f_X10_keeps (up2 (up2 (up2 σ 48 ((σ 28 33).toNat) (σ 42 a0.toNat)) 49 ((σ 28 33).toNat) a1) 50 ((σ 28 33).toNat) 0) (σ 28 33) 0 (120 + (σ 42 a0.toNat))) (σ 42 a0.toNat)) 28 33) 1 70) 28 33 := congrFun (copies_fr _ _ _ (by decide) (by decide) (by decide)) 33
        refine lv_iload_n hx hb dX10_writes_112 rfl (lv_at hl 4 rfl) ?_
        refine g_if_eq (tgt := 126) hx hb dX10_writes_113 (by decide) (by omega) (fun c_21 => ?_) (fun c_21 => ?_)
        · exact absurd c_21 c_7
        · skip
          refine lv_aload_n hx hb dX10_writes_116 rfl (lv_at hl 2 rfl) ?_
          refine g_get (C := RX10) (T := TX10) (N := 44) (ci := 9) (v := .ref (ad 54)) hx hb hts in_X10_writes_X10 hown hK hI 28 (by decide) (cel_28 cy ad _) rfl 42 (by decide) (by decide +kernel) rfl dX10_writes_117 ?_
          refine lv_iload_n hx hb dX10_writes_120 rfl (lv_at hl 1 rfl) ?_
          refine lv_iconst (v := iI 1) hx hb dX10_writes_121 rfl ?_
          refine g_zast hx hb hK hI 54 (by decide) (cel_54 cy ad) (by omega) (by decide) (by omega) (bw_54 (by omega)) dX10_writes_122 (fun H locs hI => ?_)
          have hF_22 : WF (up2 (f_X10_copies (f_X10_keeps (f_X10_spare (f_X10_keeps (up2 (up2 (up2 σ 48 ((σ 28 33).toNat) (σ 42 a0.toNat)) 49 ((σ 28 33).toNat) a1) 50 ((σ 28 33).toNat) 0) (σ 28 33) 0 (120 + (σ 42 a0.toNat))) (σ 42 a0.toNat)) ((f_X10_spare (f_X10_keeps (up2 (up2 (up2 σ 48 ((σ 28 33).toNat) (σ 42 a0.toNat)) 49 ((σ 28 33).toNat) a1) 50 ((σ 28 33).toNat) 0) (σ 28 33) 0 (120 + (σ 42 a0.toNat))) (σ 42 a0.toNat)) 28 33) 1 70) 70 (120 + (σ 42 a0.toNat))) 54 ((σ 42 a0.toNat).toNat) 1) := hI.2.2.2
          refine lv_goto (tgt := 133) hx hb dX10_writes_123 (by decide) ?_
          refine lv_aload_n hx hb dX10_writes_133 rfl (lv_at hl 2 rfl) ?_
          refine lv_dup hx hb dX10_writes_134 rfl ?_
          refine g_get (C := RX10) (T := TX10) (N := 44) (ci := 9) (v := .int (iI ((f_X10_copies (f_X10_keeps (f_X10_spare (f_X10_keeps (up2 (up2 (up2 σ 48 ((σ 28 33).toNat) (σ 42 a0.toNat)) 49 ((σ 28 33).toNat) a1) 50 ((σ 28 33).toNat) 0) (σ 28 33) 0 (120 + (σ 42 a0.toNat))) (σ 42 a0.toNat)) ((f_X10_spare (f_X10_keeps (up2 (up2 (up2 σ 48 ((σ 28 33).toNat) (σ 42 a0.toNat)) 49 ((σ 28 33).toNat) a1) 50 ((σ 28 33).toNat) 0) (σ 28 33) 0 (120 + (σ 42 a0.toNat))) (σ 42 a0.toNat)) 28 33) 1 70) 70 (120 + (σ 42 a0.toNat))) 28 33))) hx hb hts in_X10_writes_X10 hown hK hI 28 (by decide) (cel_28 cy ad _) rfl 33 (by decide) (by decide +kernel) (by show some (Value.int (iI ((up2 (f_X10_copies (f_X10_keeps (f_X10_spare (f_X10_keeps (up2 (up2 (up2 σ 48 ((σ 28 33).toNat) (σ 42 a0.toNat)) 49 ((σ 28 33).toNat) a1) 50 ((σ 28 33).toNat) 0) (σ 28 33) 0 (120 + (σ 42 a0.toNat))) (σ 42 a0.toNat)) ((f_X10_spare (f_X10_keeps (up2 (up2 (up2 σ 48 ((σ 28 33).toNat) (σ 42 a0.toNat)) 49 ((σ 28 33).toNat) a1) 50 ((σ 28 33).toNat) 0) (σ 28 33) 0 (120 + (σ 42 a0.toNat))) (σ 42 a0.toNat)) 28 33) 1 70) 70 (120 + (σ 42 a0.toNat))) 54 ((σ 42 a0.toNat).toNat) 1) 28 33))) = _; rw [up2_cell _ _ _ (by decide)]) dX10_writes_135 ?_
          have b_23 := bd_28_33 hF_20
          refine lv_iconst (v := iI 1) hx hb dX10_writes_138 rfl ?_
          refine g_iadd hx hb dX10_writes_139 ?_
          refine g_put (C := RX10) (T := TX10) (N := 44) (ci := 9) (ty := .int) (z := ((f_X10_copies (f_X10_keeps (f_X10_spare (f_X10_keeps (up2 (up2 (up2 σ 48 ((σ 28 33).toNat) (σ 42 a0.toNat)) 49 ((σ 28 33).toNat) a1) 50 ((σ 28 33).toNat) 0) (σ 28 33) 0 (120 + (σ 42 a0.toNat))) (σ 42 a0.toNat)) ((f_X10_spare (f_X10_keeps (up2 (up2 (up2 σ 48 ((σ 28 33).toNat) (σ 42 a0.toNat)) 49 ((σ 28 33).toNat) a1) 50 ((σ 28 33).toNat) 0) (σ 28 33) 0 (120 + (σ 42 a0.toNat))) (σ 42 a0.toNat)) 28 33) 1 70) 70 (120 + (σ 42 a0.toNat))) 28 33) + 1) hx hb hts in_X10_writes_X10 tyX10 tyX10_ok nmX10 hown hK hI 28 (by decide) (cel_28 cy ad) rfl 33 (by decide) (by decide +kernel) rfl (by decide +kernel) rfl rfl (Nat.le_of_ble_eq_true rfl) rfl (bw_28_33 (by omega)) dX10_writes_140 (fun H locs hI => ?_)
          have hF_24 := hI.2.2.2
          have e9 : f_X10_writes σ a0 a1 = (up2 (up2 (f_X10_copies (f_X10_keeps (f_X10_spare (f_X10_keeps (up2 (up2 (up2 σ 48 ((σ 28 33).toNat) (σ 42 a0.toNat)) 49 ((σ 28 33).toNat) a1) 50 ((σ 28 33).toNat) 0) (σ 28 33) 0 (120 + (σ 42 a0.toNat))) (σ 42 a0.toNat)) ((f_X10_spare (f_X10_keeps (up2 (up2 (up2 σ 48 ((σ 28 33).toNat) (σ 42 a0.toNat)) 49 ((σ 28 33).toNat) a1) 50 ((σ 28 33).toNat) 0) (σ 28 33) 0 (120 + (σ 42 a0.toNat))) (σ 42 a0.toNat)) 28 33) 1 70) 70 (120 + (σ 42 a0.toNat))) 54 ((σ 42 a0.toNat).toNat) 1) 28 33 (((f_X10_copies (f_X10_keeps (f_X10_spare (f_X10_keeps (up2 (up2 (up2 σ 48 ((σ 28 33).toNat) (σ 42 a0.toNat)) 49 ((σ 28 33).toNat) a1) 50 ((σ 28 33).toNat) 0) (σ 28 33) 0 (120 + (σ 42 a0.toNat))) (σ 42 a0.toNat)) ((f_X10_spare (f_X10_keeps (up2 (up2 (up2 σ 48 ((σ 28 33).toNat) (σ 42 a0.toNat)) 49 ((σ 28 33).toNat) a1) 50 ((σ 28 33).toNat) 0) (σ 28 33) 0 (120 + (σ 42 a0.toNat))) (σ 42 a0.toNat)) 28 33) 1 70) 70 (120 + (σ 42 a0.toNat))) 28 33) + 1)) := by rw [f_X10_writes, if_neg c_7]
          exact g_vret hx hb hr hK hN hlocks hI (by rw [e9]) trivial dX10_writes_143
  · skip
    refine lv_aload_n hx hb dX10_writes_39 rfl (lv_at hl 1 rfl) ?_
    refine g_get (C := RX10) (T := TX10) (N := 44) (ci := 9) (v := .ref (ad 54)) hx hb hts in_X10_writes_X10 hown hK hI 28 (by decide) (cel_28 cy ad _) rfl 42 (by decide) (by decide +kernel) rfl dX10_writes_40 ?_
    refine lv_iload_n hx hb dX10_writes_43 rfl (lv_at hl 0 rfl) ?_
    refine g_zald (v := σ 54 ((σ 42 a0.toNat).toNat)) hx hb hK hI 54 (by decide) (cel_54 cy ad) (by omega) (by decide) (by rw [up2_cell _ _ _ (by decide), up2_cell _ _ _ (by decide)]) dX10_writes_44 ?_
    have b_25 := bd_54 hF ((σ 42 a0.toNat).toNat)
    refine g_if_eq (tgt := 52) hx hb dX10_writes_45 (by decide) (by omega) (fun c_26 => ?_) (fun c_26 => ?_)
    · skip
      refine lv_iconst (v := iI 0) hx hb dX10_writes_52 rfl ?_
      refine g_zast hx hb hK hI 50 (by decide) (cel_50 cy ad) (by omega) (by decide) (by omega) (bw_50 (by omega)) dX10_writes_53 (fun H locs hI => ?_)
      have hF_27 : WF (up2 (up2 (up2 σ 48 ((σ 28 33).toNat) (σ 42 a0.toNat)) 49 ((σ 28 33).toNat) a1) 50 ((σ 28 33).toNat) 0) := hI.2.2.2
      refine lv_aload_n hx hb dX10_writes_54 rfl (lv_at hl 1 rfl) ?_
      refine lv_aload_n hx hb dX10_writes_55 rfl (lv_at hl 1 rfl) ?_
      refine g_get (C := RX10) (T := TX10) (N := 44) (ci := 9) (v := .int (iI (σ 28 33))) hx hb hts in_X10_writes_X10 hown hK hI 28 (by decide) (cel_28 cy ad _) rfl 33 (by decide) (by decide +kernel) (by show some (Value.int (iI ((up2 (up2 (up2 σ 48 ((σ 28 33).toNat) (σ 42 a0.toNat)) 49 ((σ 28 33).toNat) a1) 50 ((σ 28 33).toNat) 0) 28 33))) = _; rw [up2_cell _ _ _ (by decide), up2_cell _ _ _ (by decide), up2_cell _ _ _ (by decide)]) dX10_writes_56 ?_
      have b_28 := bd_28_33 hF
      refine lv_iconst (v := iI 0) hx hb dX10_writes_59 rfl ?_
      refine lv_bipush (v := iI 120) hx hb dX10_writes_60 (iI_bip (by decide)) ?_
      refine lv_iload_n hx hb dX10_writes_62 rfl (lv_at hl 0 rfl) ?_
      refine g_iadd hx hb dX10_writes_63 ?_
      refine g_V (As := [.int (iI (σ 28 33)), .int (iI 0), .int (iI (120 + (σ 42 a0.toNat)))]) (rest := []) 28 (c_X10_keeps l D cy ad (up2 (up2 (up2 σ 48 ((σ 28 33).toNat) (σ 42 a0.toNat)) 49 ((σ 28 33).toNat) a1) 50 ((σ 28 33).toNat) 0) (σ 28 33) (by omega) 0 (by omega) (120 + (σ 42 a0.toNat)) (by omega)) hx hb hml hown hts hK hN hI hl.1 gX10_writes_X10_keeps rfl hd_X10_keeps rfl rfl ⟨Nat.le_of_ble_eq_true rfl, Nat.le_of_ble_eq_true rfl⟩ ⟨Nat.zero_le _, Nat.zero_le _⟩ (by decide) (cel_28 cy ad _) rfl rfl rfl rfl (Nat.le_of_ble_eq_true rfl) dX10_writes_64 (fun H locs hG_29 hI => ?_)
      have hF_30 := hI.2.2.2
      have q9 : (f_X10_keeps (up2 (up2 (up2 σ 48 ((σ 28 33).toNat) (σ 42 a0.toNat)) 49 ((σ 28 33).toNat) a1) 50 ((σ 28 33).toNat) 0) (σ 28 33) 0 (120 + (σ 42 a0.toNat))) 28 33 = (up2 (up2 (up2 σ 48 ((σ 28 33).toNat) (σ 42 a0.toNat)) 49 ((σ 28 33).toNat) a1) 50 ((σ 28 33).toNat) 0) 28 33 := congrFun (keeps_fr _ _ _ _ (by decide) (by decide) (by decide)) 33
      have q5 : (up2 (up2 (up2 σ 48 ((σ 28 33).toNat) (σ 42 a0.toNat)) 49 ((σ 28 33).toNat) a1) 50 ((σ 28 33).toNat) 0) 28 33 = σ 28 33 := rfl
      refine lv_iload_n hx hb dX10_writes_67 rfl (lv_at hl 3 rfl) ?_
      refine g_if_eq (tgt := 76) hx hb dX10_writes_68 (by decide) (by omega) (fun c_31 => ?_) (fun c_31 => ?_)
      · skip
        refine lv_iload_n hx hb dX10_writes_76 rfl (lv_at hl 3 rfl) ?_
        refine g_if_eq (tgt := 85) hx hb dX10_writes_77 (by decide) (by omega) (fun c_32 => ?_) (fun c_32 => ?_)
        · skip
          refine lv_bipush (v := iI 80) hx hb dX10_writes_85 (iI_bip (by decide)) ?_
          refine lv_iload_n hx hb dX10_writes_87 rfl (lv_at hl 2 rfl) ?_
          refine g_iadd hx hb dX10_writes_88 ?_
          refine lv_istore (lv' := [(4, .int (iI (80 + a0))), (3, .int (iI (σ 42 a0.toNat))), (0, .ref (ad 28)), (1, .int (iI a0)), (2, .int (iI a1))]) hx hb dX10_writes_89 hl (by decide) rfl (fun ls hl => ?_)
          refine lv_aload_n hx hb dX10_writes_91 rfl (lv_at hl 2 rfl) ?_
          refine lv_aload_n hx hb dX10_writes_92 rfl (lv_at hl 2 rfl) ?_
          refine g_get (C := RX10) (T := TX10) (N := 44) (ci := 9) (v := .int (iI ((f_X10_keeps (up2 (up2 (up2 σ 48 ((σ 28 33).toNat) (σ 42 a0.toNat)) 49 ((σ 28 33).toNat) a1) 50 ((σ 28 33).toNat) 0) (σ 28 33) 0 (120 + (σ 42 a0.toNat))) 28 33))) hx hb hts in_X10_writes_X10 hown hK hI 28 (by decide) (cel_28 cy ad _) rfl 33 (by decide) (by decide +kernel) rfl dX10_writes_93 ?_
          have b_33 := bd_28_33 hF_30
          refine lv_iconst (v := iI 1) hx hb dX10_writes_96 rfl ?_
          refine lv_iload hx hb dX10_writes_97 (lv_at hl 0 rfl) ?_
          refine g_V (As := [.int (iI ((f_X10_keeps (up2 (up2 (up2 σ 48 ((σ 28 33).toNat) (σ 42 a0.toNat)) 49 ((σ 28 33).toNat) a1) 50 ((σ 28 33).toNat) 0) (σ 28 33) 0 (120 + (σ 42 a0.toNat))) 28 33)), .int (iI 1), .int (iI (80 + a0))]) (rest := []) 28 (c_X10_keeps l D cy ad (f_X10_keeps (up2 (up2 (up2 σ 48 ((σ 28 33).toNat) (σ 42 a0.toNat)) 49 ((σ 28 33).toNat) a1) 50 ((σ 28 33).toNat) 0) (σ 28 33) 0 (120 + (σ 42 a0.toNat))) ((f_X10_keeps (up2 (up2 (up2 σ 48 ((σ 28 33).toNat) (σ 42 a0.toNat)) 49 ((σ 28 33).toNat) a1) 50 ((σ 28 33).toNat) 0) (σ 28 33) 0 (120 + (σ 42 a0.toNat))) 28 33) (by omega) 1 (by omega) (80 + a0) (by omega)) hx hb hml hown hts hK hN hI hl.1 gX10_writes_X10_keeps rfl hd_X10_keeps rfl rfl ⟨Nat.le_of_ble_eq_true rfl, Nat.le_of_ble_eq_true rfl⟩ ⟨Nat.zero_le _, Nat.zero_le _⟩ (by decide) (cel_28 cy ad _) rfl rfl rfl rfl (Nat.le_of_ble_eq_true rfl) dX10_writes_99 (fun H locs hG_34 hI => ?_)
          have hF_35 := hI.2.2.2
          have q7 : (f_X10_keeps (f_X10_keeps (up2 (up2 (up2 σ 48 ((σ 28 33).toNat) (σ 42 a0.toNat)) 49 ((σ 28 33).toNat) a1) 50 ((σ 28 33).toNat) 0) (σ 28 33) 0 (120 + (σ 42 a0.toNat))) ((f_X10_keeps (up2 (up2 (up2 σ 48 ((σ 28 33).toNat) (σ 42 a0.toNat)) 49 ((σ 28 33).toNat) a1) 50 ((σ 28 33).toNat) 0) (σ 28 33) 0 (120 + (σ 42 a0.toNat))) 28 33) 1 (80 + a0)) 28 33 = (f_X10_keeps (up2 (up2 (up2 σ 48 ((σ 28 33).toNat) (σ 42 a0.toNat)) 49 ((σ 28 33).toNat) a1) 50 ((σ 28 33).toNat) 0) (σ 28 33) 0 (120 + (σ 42 a0.toNat))) 28 33 := congrFun (keeps_fr _ _ _ _ (by decide) (by decide) (by decide)) 33
          refine lv_aload_n hx hb dX10_writes_102 rfl (lv_at hl 2 rfl) ?_
          refine lv_iload hx hb dX10_writes_103 (lv_at hl 0 rfl) ?_
          refine lv_bipush (v := iI 120) hx hb dX10_writes_105 (iI_bip (by decide)) ?_
          refine lv_iload_n hx hb dX10_writes_107 rfl (lv_at hl 1 rfl) ?_
          refine g_iadd hx hb dX10_writes_108 ?_
          refine g_V (As := [.int (iI (80 + a0)), .int (iI (120 + (σ 42 a0.toNat)))]) (rest := []) 28 (c_X10_copies l D cy ad (f_X10_keeps (f_X10_keeps (up2 (up2 (up2 σ 48 ((σ 28 33).toNat) (σ 42 a0.toNat)) 49 ((σ 28 33).toNat) a1) 50 ((σ 28 33).toNat) 0) (σ 28 33) 0 (120 + (σ 42 a0.toNat))) ((f_X10_keeps (up2 (up2 (up2 σ 48 ((σ 28 33).toNat) (σ 42 a0.toNat)) 49 ((σ 28 33).toNat) a1) 50 ((σ 28 33).toNat) 0) (σ 28 33) 0 (120 + (σ 42 a0.toNat))) 28 33) 1 (80 + a0)) (80 + a0) (by omega) (120 + (σ 42 a0.toNat)) (by omega)) hx hb hml hown hts hK hN hI hl.1 gX10_writes_X10_copies rfl hd_X10_copies rfl rfl ⟨Nat.le_of_ble_eq_true rfl, Nat.le_of_ble_eq_true rfl⟩ ⟨Nat.zero_le _, Nat.zero_le _⟩ (by decide) (cel_28 cy ad _) rfl rfl rfl rfl (Nat.le_of_ble_eq_true rfl) dX10_writes_109 (fun H locs hG_36 hI => ?_)
          have hF_37 := hI.2.2.2
          have q6 : (f_X10_copies (f_X10_keeps (f_X10_keeps (up2 (up2 (up2 σ 48 ((σ 28 33).toNat) (σ 42 a0.toNat)) 49 ((σ 28 33).toNat) a1) 50 ((σ 28 33).toNat) 0) (σ 28 33) 0 (120 + (σ 42 a0.toNat))) ((f_X10_keeps (up2 (up2 (up2 σ 48 ((σ 28 33).toNat) (σ 42 a0.toNat)) 49 ((σ 28 33).toNat) a1) 50 ((σ 28 33).toNat) 0) (σ 28 33) 0 (120 + (σ 42 a0.toNat))) 28 33) 1 (80 + a0)) (80 + a0) (120 + (σ 42 a0.toNat))) 28 33 = (f_X10_keeps (f_X10_keeps (up2 (up2 (up2 σ 48 ((σ 28 33).toNat) (σ 42 a0.toNat)) 49 ((σ 28 33).toNat) a1) 50 ((σ 28 33).toNat) 0) (σ 28 33) 0 (120 + (σ 42 a0.toNat))) ((f_X10_keeps (up2 (up2 (up2 σ 48 ((σ 28 33).toNat) (σ 42 a0.toNat)) 49 ((σ 28 33).toNat) a1) 50 ((σ 28 33).toNat) 0) (σ 28 33) 0 (120 + (σ 42 a0.toNat))) 28 33) 1 (80 + a0)) 28 33 := congrFun (copies_fr _ _ _ (by decide) (by decide) (by decide)) 33
          refine lv_iload_n hx hb dX10_writes_112 rfl (lv_at hl 4 rfl) ?_
          refine g_if_eq (tgt := 126) hx hb dX10_writes_113 (by decide) (by omega) (fun c_38 => ?_) (fun c_38 => ?_)
          · skip
            refine lv_aload_n hx hb dX10_writes_126 rfl (lv_at hl 2 rfl) ?_
            refine g_get (C := RX10) (T := TX10) (N := 44) (ci := 9) (v := .ref (ad 55)) hx hb hts in_X10_writes_X10 hown hK hI 28 (by decide) (cel_28 cy ad _) rfl 43 (by decide) (by decide +kernel) rfl dX10_writes_127 ?_
            refine lv_iload_n hx hb dX10_writes_130 rfl (lv_at hl 3 rfl) ?_
            refine lv_iconst (v := iI 1) hx hb dX10_writes_131 rfl ?_
            refine g_zast hx hb hK hI 55 (by decide) (cel_55 cy ad) (by omega) (by decide) (by omega) (bw_55 (by omega)) dX10_writes_132 (fun H locs hI => ?_)
            have hF_39 : WF (up2 (f_X10_copies (f_X10_keeps (f_X10_keeps (up2 (up2 (up2 σ 48 ((σ 28 33).toNat) (σ 42 a0.toNat)) 49 ((σ 28 33).toNat) a1) 50 ((σ 28 33).toNat) 0) (σ 28 33) 0 (120 + (σ 42 a0.toNat))) ((f_X10_keeps (up2 (up2 (up2 σ 48 ((σ 28 33).toNat) (σ 42 a0.toNat)) 49 ((σ 28 33).toNat) a1) 50 ((σ 28 33).toNat) 0) (σ 28 33) 0 (120 + (σ 42 a0.toNat))) 28 33) 1 (80 + a0)) (80 + a0) (120 + (σ 42 a0.toNat))) 55 a0.toNat 1) := hI.2.2.2
            refine lv_aload_n hx hb dX10_writes_133 rfl (lv_at hl 2 rfl) ?_
            refine lv_dup hx hb dX10_writes_134 rfl ?_
            refine g_get (C := RX10) (T := TX10) (N := 44) (ci := 9) (v := .int (iI ((f_X10_copies (f_X10_keeps (f_X10_keeps (up2 (up2 (up2 σ 48 ((σ 28 33).toNat) (σ 42 a0.toNat)) 49 ((σ 28 33).toNat) a1) 50 ((σ 28 33).toNat) 0) (σ 28 33) 0 (120 + (σ 42 a0.toNat))) ((f_X10_keeps (up2 (up2 (up2 σ 48 ((σ 28 33).toNat) (σ 42 a0.toNat)) 49 ((σ 28 33).toNat) a1) 50 ((σ 28 33).toNat) 0) (σ 28 33) 0 (120 + (σ 42 a0.toNat))) 28 33) 1 (80 + a0)) (80 + a0) (120 + (σ 42 a0.toNat))) 28 33))) hx hb hts in_X10_writes_X10 hown hK hI 28 (by decide) (cel_28 cy ad _) rfl 33 (by decide) (by decide +kernel) (by show some (Value.int (iI ((up2 (f_X10_copies (f_X10_keeps (f_X10_keeps (up2 (up2 (up2 σ 48 ((σ 28 33).toNat) (σ 42 a0.toNat)) 49 ((σ 28 33).toNat) a1) 50 ((σ 28 33).toNat) 0) (σ 28 33) 0 (120 + (σ 42 a0.toNat))) ((f_X10_keeps (up2 (up2 (up2 σ 48 ((σ 28 33).toNat) (σ 42 a0.toNat)) 49 ((σ 28 33).toNat) a1) 50 ((σ 28 33).toNat) 0) (σ 28 33) 0 (120 + (σ 42 a0.toNat))) 28 33) 1 (80 + a0)) (80 + a0) (120 + (σ 42 a0.toNat))) 55 a0.toNat 1) 28 33))) = _; rw [up2_cell _ _ _ (by decide)]) dX10_writes_135 ?_
            have b_40 := bd_28_33 hF_37
            refine lv_iconst (v := iI 1) hx hb dX10_writes_138 rfl ?_
            refine g_iadd hx hb dX10_writes_139 ?_
            refine g_put (C := RX10) (T := TX10) (N := 44) (ci := 9) (ty := .int) (z := ((f_X10_copies (f_X10_keeps (f_X10_keeps (up2 (up2 (up2 σ 48 ((σ 28 33).toNat) (σ 42 a0.toNat)) 49 ((σ 28 33).toNat) a1) 50 ((σ 28 33).toNat) 0) (σ 28 33) 0 (120 + (σ 42 a0.toNat))) ((f_X10_keeps (up2 (up2 (up2 σ 48 ((σ 28 33).toNat) (σ 42 a0.toNat)) 49 ((σ 28 33).toNat) a1) 50 ((σ 28 33).toNat) 0) (σ 28 33) 0 (120 + (σ 42 a0.toNat))) 28 33) 1 (80 + a0)) (80 + a0) (120 + (σ 42 a0.toNat))) 28 33) + 1) hx hb hts in_X10_writes_X10 tyX10 tyX10_ok nmX10 hown hK hI 28 (by decide) (cel_28 cy ad) rfl 33 (by decide) (by decide +kernel) rfl (by decide +kernel) rfl rfl (Nat.le_of_ble_eq_true rfl) rfl (bw_28_33 (by omega)) dX10_writes_140 (fun H locs hI => ?_)
            have hF_41 := hI.2.2.2
            have e9 : f_X10_writes σ a0 a1 = (up2 (up2 (f_X10_copies (f_X10_keeps (f_X10_keeps (up2 (up2 (up2 σ 48 ((σ 28 33).toNat) (σ 42 a0.toNat)) 49 ((σ 28 33).toNat) a1) 50 ((σ 28 33).toNat) 0) (σ 28 33) 0 (120 + (σ 42 a0.toNat))) ((f_X10_keeps (up2 (up2 (up2 σ 48 ((σ 28 33).toNat) (σ 42 a0.toNat)) 49 ((σ 28 33).toNat) a1) 50 ((σ 28 33).toNat) 0) (σ 28 33) 0 (120 + (σ 42 a0.toNat))) 28 33) 1 (80 + a0)) (80 + a0) (120 + (σ 42 a0.toNat))) 55 a0.toNat 1) 28 33 (((f_X10_copies (f_X10_keeps (f_X10_keeps (up2 (up2 (up2 σ 48 ((σ 28 33).toNat) (σ 42 a0.toNat)) 49 ((σ 28 33).toNat) a1) 50 ((σ 28 33).toNat) 0) (σ 28 33) 0 (120 + (σ 42 a0.toNat))) ((f_X10_keeps (up2 (up2 (up2 σ 48 ((σ 28 33).toNat) (σ 42 a0.toNat)) 49 ((σ 28 33).toNat) a1) 50 ((σ 28 33).toNat) 0) (σ 28 33) 0 (120 + (σ 42 a0.toNat))) 28 33) 1 (80 + a0)) (80 + a0) (120 + (σ 42 a0.toNat))) 28 33) + 1)) := by rw [f_X10_writes, if_pos c_7, if_pos c_26]
            exact g_vret hx hb hr hK hN hlocks hI (by rw [e9]) trivial dX10_writes_143
          · exact absurd c_7 c_38
        · exact absurd c_7 c_32
      · exact absurd c_7 c_31
    · skip
      refine lv_iconst (v := iI 1) hx hb dX10_writes_48 rfl ?_
      refine lv_goto (tgt := 53) hx hb dX10_writes_49 (by decide) ?_
      refine g_zast hx hb hK hI 50 (by decide) (cel_50 cy ad) (by omega) (by decide) (by omega) (bw_50 (by omega)) dX10_writes_53 (fun H locs hI => ?_)
      have hF_42 : WF (up2 (up2 (up2 σ 48 ((σ 28 33).toNat) (σ 42 a0.toNat)) 49 ((σ 28 33).toNat) a1) 50 ((σ 28 33).toNat) 1) := hI.2.2.2
      refine lv_aload_n hx hb dX10_writes_54 rfl (lv_at hl 1 rfl) ?_
      refine lv_aload_n hx hb dX10_writes_55 rfl (lv_at hl 1 rfl) ?_
      refine g_get (C := RX10) (T := TX10) (N := 44) (ci := 9) (v := .int (iI (σ 28 33))) hx hb hts in_X10_writes_X10 hown hK hI 28 (by decide) (cel_28 cy ad _) rfl 33 (by decide) (by decide +kernel) (by show some (Value.int (iI ((up2 (up2 (up2 σ 48 ((σ 28 33).toNat) (σ 42 a0.toNat)) 49 ((σ 28 33).toNat) a1) 50 ((σ 28 33).toNat) 1) 28 33))) = _; rw [up2_cell _ _ _ (by decide), up2_cell _ _ _ (by decide), up2_cell _ _ _ (by decide)]) dX10_writes_56 ?_
      have b_43 := bd_28_33 hF
      refine lv_iconst (v := iI 0) hx hb dX10_writes_59 rfl ?_
      refine lv_bipush (v := iI 120) hx hb dX10_writes_60 (iI_bip (by decide)) ?_
      refine lv_iload_n hx hb dX10_writes_62 rfl (lv_at hl 0 rfl) ?_
      refine g_iadd hx hb dX10_writes_63 ?_
      refine g_V (As := [.int (iI (σ 28 33)), .int (iI 0), .int (iI (120 + (σ 42 a0.toNat)))]) (rest := []) 28 (c_X10_keeps l D cy ad (up2 (up2 (up2 σ 48 ((σ 28 33).toNat) (σ 42 a0.toNat)) 49 ((σ 28 33).toNat) a1) 50 ((σ 28 33).toNat) 1) (σ 28 33) (by omega) 0 (by omega) (120 + (σ 42 a0.toNat)) (by omega)) hx hb hml hown hts hK hN hI hl.1 gX10_writes_X10_keeps rfl hd_X10_keeps rfl rfl ⟨Nat.le_of_ble_eq_true rfl, Nat.le_of_ble_eq_true rfl⟩ ⟨Nat.zero_le _, Nat.zero_le _⟩ (by decide) (cel_28 cy ad _) rfl rfl rfl rfl (Nat.le_of_ble_eq_true rfl) dX10_writes_64 (fun H locs hG_44 hI => ?_)
      have hF_45 := hI.2.2.2
      have q9 : (f_X10_keeps (up2 (up2 (up2 σ 48 ((σ 28 33).toNat) (σ 42 a0.toNat)) 49 ((σ 28 33).toNat) a1) 50 ((σ 28 33).toNat) 1) (σ 28 33) 0 (120 + (σ 42 a0.toNat))) 28 33 = (up2 (up2 (up2 σ 48 ((σ 28 33).toNat) (σ 42 a0.toNat)) 49 ((σ 28 33).toNat) a1) 50 ((σ 28 33).toNat) 1) 28 33 := congrFun (keeps_fr _ _ _ _ (by decide) (by decide) (by decide)) 33
      have q5 : (up2 (up2 (up2 σ 48 ((σ 28 33).toNat) (σ 42 a0.toNat)) 49 ((σ 28 33).toNat) a1) 50 ((σ 28 33).toNat) 1) 28 33 = σ 28 33 := rfl
      refine lv_iload_n hx hb dX10_writes_67 rfl (lv_at hl 3 rfl) ?_
      refine g_if_eq (tgt := 76) hx hb dX10_writes_68 (by decide) (by omega) (fun c_46 => ?_) (fun c_46 => ?_)
      · skip
        refine lv_iload_n hx hb dX10_writes_76 rfl (lv_at hl 3 rfl) ?_
        refine g_if_eq (tgt := 85) hx hb dX10_writes_77 (by decide) (by omega) (fun c_47 => ?_) (fun c_47 => ?_)
        · skip
          refine lv_bipush (v := iI 80) hx hb dX10_writes_85 (iI_bip (by decide)) ?_
          refine lv_iload_n hx hb dX10_writes_87 rfl (lv_at hl 2 rfl) ?_
          refine g_iadd hx hb dX10_writes_88 ?_
          refine lv_istore (lv' := [(4, .int (iI (80 + a0))), (3, .int (iI (σ 42 a0.toNat))), (0, .ref (ad 28)), (1, .int (iI a0)), (2, .int (iI a1))]) hx hb dX10_writes_89 hl (by decide) rfl (fun ls hl => ?_)
          refine lv_aload_n hx hb dX10_writes_91 rfl (lv_at hl 2 rfl) ?_
          refine lv_aload_n hx hb dX10_writes_92 rfl (lv_at hl 2 rfl) ?_
          refine g_get (C := RX10) (T := TX10) (N := 44) (ci := 9) (v := .int (iI ((f_X10_keeps (up2 (up2 (up2 σ 48 ((σ 28 33).toNat) (σ 42 a0.toNat)) 49 ((σ 28 33).toNat) a1) 50 ((σ 28 33).toNat) 1) (σ 28 33) 0 (120 + (σ 42 a0.toNat))) 28 33))) hx hb hts in_X10_writes_X10 hown hK hI 28 (by decide) (cel_28 cy ad _) rfl 33 (by decide) (by decide +kernel) rfl dX10_writes_93 ?_
          have b_48 := bd_28_33 hF_45
          refine lv_iconst (v := iI 1) hx hb dX10_writes_96 rfl ?_
          refine lv_iload hx hb dX10_writes_97 (lv_at hl 0 rfl) ?_
          refine g_V (As := [.int (iI ((f_X10_keeps (up2 (up2 (up2 σ 48 ((σ 28 33).toNat) (σ 42 a0.toNat)) 49 ((σ 28 33).toNat) a1) 50 ((σ 28 33).toNat) 1) (σ 28 33) 0 (120 + (σ 42 a0.toNat))) 28 33)), .int (iI 1), .int (iI (80 + a0))]) (rest := []) 28 (c_X10_keeps l D cy ad (f_X10_keeps (up2 (up2 (up2 σ 48 ((σ 28 33).toNat) (σ 42 a0.toNat)) 49 ((σ 28 33).toNat) a1) 50 ((σ 28 33).toNat) 1) (σ 28 33) 0 (120 + (σ 42 a0.toNat))) ((f_X10_keeps (up2 (up2 (up2 σ 48 ((σ 28 33).toNat) (σ 42 a0.toNat)) 49 ((σ 28 33).toNat) a1) 50 ((σ 28 33).toNat) 1) (σ 28 33) 0 (120 + (σ 42 a0.toNat))) 28 33) (by omega) 1 (by omega) (80 + a0) (by omega)) hx hb hml hown hts hK hN hI hl.1 gX10_writes_X10_keeps rfl hd_X10_keeps rfl rfl ⟨Nat.le_of_ble_eq_true rfl, Nat.le_of_ble_eq_true rfl⟩ ⟨Nat.zero_le _, Nat.zero_le _⟩ (by decide) (cel_28 cy ad _) rfl rfl rfl rfl (Nat.le_of_ble_eq_true rfl) dX10_writes_99 (fun H locs hG_49 hI => ?_)
          have hF_50 := hI.2.2.2
          have q7 : (f_X10_keeps (f_X10_keeps (up2 (up2 (up2 σ 48 ((σ 28 33).toNat) (σ 42 a0.toNat)) 49 ((σ 28 33).toNat) a1) 50 ((σ 28 33).toNat) 1) (σ 28 33) 0 (120 + (σ 42 a0.toNat))) ((f_X10_keeps (up2 (up2 (up2 σ 48 ((σ 28 33).toNat) (σ 42 a0.toNat)) 49 ((σ 28 33).toNat) a1) 50 ((σ 28 33).toNat) 1) (σ 28 33) 0 (120 + (σ 42 a0.toNat))) 28 33) 1 (80 + a0)) 28 33 = (f_X10_keeps (up2 (up2 (up2 σ 48 ((σ 28 33).toNat) (σ 42 a0.toNat)) 49 ((σ 28 33).toNat) a1) 50 ((σ 28 33).toNat) 1) (σ 28 33) 0 (120 + (σ 42 a0.toNat))) 28 33 := congrFun (keeps_fr _ _ _ _ (by decide) (by decide) (by decide)) 33
          refine lv_aload_n hx hb dX10_writes_102 rfl (lv_at hl 2 rfl) ?_
          refine lv_iload hx hb dX10_writes_103 (lv_at hl 0 rfl) ?_
          refine lv_bipush (v := iI 120) hx hb dX10_writes_105 (iI_bip (by decide)) ?_
          refine lv_iload_n hx hb dX10_writes_107 rfl (lv_at hl 1 rfl) ?_
          refine g_iadd hx hb dX10_writes_108 ?_
          refine g_V (As := [.int (iI (80 + a0)), .int (iI (120 + (σ 42 a0.toNat)))]) (rest := []) 28 (c_X10_copies l D cy ad (f_X10_keeps (f_X10_keeps (up2 (up2 (up2 σ 48 ((σ 28 33).toNat) (σ 42 a0.toNat)) 49 ((σ 28 33).toNat) a1) 50 ((σ 28 33).toNat) 1) (σ 28 33) 0 (120 + (σ 42 a0.toNat))) ((f_X10_keeps (up2 (up2 (up2 σ 48 ((σ 28 33).toNat) (σ 42 a0.toNat)) 49 ((σ 28 33).toNat) a1) 50 ((σ 28 33).toNat) 1) (σ 28 33) 0 (120 + (σ 42 a0.toNat))) 28 33) 1 (80 + a0)) (80 + a0) (by omega) (120 + (σ 42 a0.toNat)) (by omega)) hx hb hml hown hts hK hN hI hl.1 gX10_writes_X10_copies rfl hd_X10_copies rfl rfl ⟨Nat.le_of_ble_eq_true rfl, Nat.le_of_ble_eq_true rfl⟩ ⟨Nat.zero_le _, Nat.zero_le _⟩ (by decide) (cel_28 cy ad _) rfl rfl rfl rfl (Nat.le_of_ble_eq_true rfl) dX10_writes_109 (fun H locs hG_51 hI => ?_)
          have hF_52 := hI.2.2.2
          have q6 : (f_X10_copies (f_X10_keeps (f_X10_keeps (up2 (up2 (up2 σ 48 ((σ 28 33).toNat) (σ 42 a0.toNat)) 49 ((σ 28 33).toNat) a1) 50 ((σ 28 33).toNat) 1) (σ 28 33) 0 (120 + (σ 42 a0.toNat))) ((f_X10_keeps (up2 (up2 (up2 σ 48 ((σ 28 33).toNat) (σ 42 a0.toNat)) 49 ((σ 28 33).toNat) a1) 50 ((σ 28 33).toNat) 1) (σ 28 33) 0 (120 + (σ 42 a0.toNat))) 28 33) 1 (80 + a0)) (80 + a0) (120 + (σ 42 a0.toNat))) 28 33 = (f_X10_keeps (f_X10_keeps (up2 (up2 (up2 σ 48 ((σ 28 33).toNat) (σ 42 a0.toNat)) 49 ((σ 28 33).toNat) a1) 50 ((σ 28 33).toNat) 1) (σ 28 33) 0 (120 + (σ 42 a0.toNat))) ((f_X10_keeps (up2 (up2 (up2 σ 48 ((σ 28 33).toNat) (σ 42 a0.toNat)) 49 ((σ 28 33).toNat) a1) 50 ((σ 28 33).toNat) 1) (σ 28 33) 0 (120 + (σ 42 a0.toNat))) 28 33) 1 (80 + a0)) 28 33 := congrFun (copies_fr _ _ _ (by decide) (by decide) (by decide)) 33
          refine lv_iload_n hx hb dX10_writes_112 rfl (lv_at hl 4 rfl) ?_
          refine g_if_eq (tgt := 126) hx hb dX10_writes_113 (by decide) (by omega) (fun c_53 => ?_) (fun c_53 => ?_)
          · skip
            refine lv_aload_n hx hb dX10_writes_126 rfl (lv_at hl 2 rfl) ?_
            refine g_get (C := RX10) (T := TX10) (N := 44) (ci := 9) (v := .ref (ad 55)) hx hb hts in_X10_writes_X10 hown hK hI 28 (by decide) (cel_28 cy ad _) rfl 43 (by decide) (by decide +kernel) rfl dX10_writes_127 ?_
            refine lv_iload_n hx hb dX10_writes_130 rfl (lv_at hl 3 rfl) ?_
            refine lv_iconst (v := iI 1) hx hb dX10_writes_131 rfl ?_
            refine g_zast hx hb hK hI 55 (by decide) (cel_55 cy ad) (by omega) (by decide) (by omega) (bw_55 (by omega)) dX10_writes_132 (fun H locs hI => ?_)
            have hF_54 : WF (up2 (f_X10_copies (f_X10_keeps (f_X10_keeps (up2 (up2 (up2 σ 48 ((σ 28 33).toNat) (σ 42 a0.toNat)) 49 ((σ 28 33).toNat) a1) 50 ((σ 28 33).toNat) 1) (σ 28 33) 0 (120 + (σ 42 a0.toNat))) ((f_X10_keeps (up2 (up2 (up2 σ 48 ((σ 28 33).toNat) (σ 42 a0.toNat)) 49 ((σ 28 33).toNat) a1) 50 ((σ 28 33).toNat) 1) (σ 28 33) 0 (120 + (σ 42 a0.toNat))) 28 33) 1 (80 + a0)) (80 + a0) (120 + (σ 42 a0.toNat))) 55 a0.toNat 1) := hI.2.2.2
            refine lv_aload_n hx hb dX10_writes_133 rfl (lv_at hl 2 rfl) ?_
            refine lv_dup hx hb dX10_writes_134 rfl ?_
            refine g_get (C := RX10) (T := TX10) (N := 44) (ci := 9) (v := .int (iI ((f_X10_copies (f_X10_keeps (f_X10_keeps (up2 (up2 (up2 σ 48 ((σ 28 33).toNat) (σ 42 a0.toNat)) 49 ((σ 28 33).toNat) a1) 50 ((σ 28 33).toNat) 1) (σ 28 33) 0 (120 + (σ 42 a0.toNat))) ((f_X10_keeps (up2 (up2 (up2 σ 48 ((σ 28 33).toNat) (σ 42 a0.toNat)) 49 ((σ 28 33).toNat) a1) 50 ((σ 28 33).toNat) 1) (σ 28 33) 0 (120 + (σ 42 a0.toNat))) 28 33) 1 (80 + a0)) (80 + a0) (120 + (σ 42 a0.toNat))) 28 33))) hx hb hts in_X10_writes_X10 hown hK hI 28 (by decide) (cel_28 cy ad _) rfl 33 (by decide) (by decide +kernel) (by show some (Value.int (iI ((up2 (f_X10_copies (f_X10_keeps (f_X10_keeps (up2 (up2 (up2 σ 48 ((σ 28 33).toNat) (σ 42 a0.toNat)) 49 ((σ 28 33).toNat) a1) 50 ((σ 28 33).toNat) 1) (σ 28 33) 0 (120 + (σ 42 a0.toNat))) ((f_X10_keeps (up2 (up2 (up2 σ 48 ((σ 28 33).toNat) (σ 42 a0.toNat)) 49 ((σ 28 33).toNat) a1) 50 ((σ 28 33).toNat) 1) (σ 28 33) 0 (120 + (σ 42 a0.toNat))) 28 33) 1 (80 + a0)) (80 + a0) (120 + (σ 42 a0.toNat))) 55 a0.toNat 1) 28 33))) = _; rw [up2_cell _ _ _ (by decide)]) dX10_writes_135 ?_
            have b_55 := bd_28_33 hF_52
            refine lv_iconst (v := iI 1) hx hb dX10_writes_138 rfl ?_
            refine g_iadd hx hb dX10_writes_139 ?_
            refine g_put (C := RX10) (T := TX10) (N := 44) (ci := 9) (ty := .int) (z := ((f_X10_copies (f_X10_keeps (f_X10_keeps (up2 (up2 (up2 σ 48 ((σ 28 33).toNat) (σ 42 a0.toNat)) 49 ((σ 28 33).toNat) a1) 50 ((σ 28 33).toNat) 1) (σ 28 33) 0 (120 + (σ 42 a0.toNat))) ((f_X10_keeps (up2 (up2 (up2 σ 48 ((σ 28 33).toNat) (σ 42 a0.toNat)) 49 ((σ 28 33).toNat) a1) 50 ((σ 28 33).toNat) 1) (σ 28 33) 0 (120 + (σ 42 a0.toNat))) 28 33) 1 (80 + a0)) (80 + a0) (120 + (σ 42 a0.toNat))) 28 33) + 1) hx hb hts in_X10_writes_X10 tyX10 tyX10_ok nmX10 hown hK hI 28 (by decide) (cel_28 cy ad) rfl 33 (by decide) (by decide +kernel) rfl (by decide +kernel) rfl rfl (Nat.le_of_ble_eq_true rfl) rfl (bw_28_33 (by omega)) dX10_writes_140 (fun H locs hI => ?_)
            have hF_56 := hI.2.2.2
            have e9 : f_X10_writes σ a0 a1 = (up2 (up2 (f_X10_copies (f_X10_keeps (f_X10_keeps (up2 (up2 (up2 σ 48 ((σ 28 33).toNat) (σ 42 a0.toNat)) 49 ((σ 28 33).toNat) a1) 50 ((σ 28 33).toNat) 1) (σ 28 33) 0 (120 + (σ 42 a0.toNat))) ((f_X10_keeps (up2 (up2 (up2 σ 48 ((σ 28 33).toNat) (σ 42 a0.toNat)) 49 ((σ 28 33).toNat) a1) 50 ((σ 28 33).toNat) 1) (σ 28 33) 0 (120 + (σ 42 a0.toNat))) 28 33) 1 (80 + a0)) (80 + a0) (120 + (σ 42 a0.toNat))) 55 a0.toNat 1) 28 33 (((f_X10_copies (f_X10_keeps (f_X10_keeps (up2 (up2 (up2 σ 48 ((σ 28 33).toNat) (σ 42 a0.toNat)) 49 ((σ 28 33).toNat) a1) 50 ((σ 28 33).toNat) 1) (σ 28 33) 0 (120 + (σ 42 a0.toNat))) ((f_X10_keeps (up2 (up2 (up2 σ 48 ((σ 28 33).toNat) (σ 42 a0.toNat)) 49 ((σ 28 33).toNat) a1) 50 ((σ 28 33).toNat) 1) (σ 28 33) 0 (120 + (σ 42 a0.toNat))) 28 33) 1 (80 + a0)) (80 + a0) (120 + (σ 42 a0.toNat))) 28 33) + 1)) := by rw [f_X10_writes, if_pos c_7, if_neg c_26]
            exact g_vret hx hb hr hK hN hlocks hI (by rw [e9]) trivial dX10_writes_143
          · exact absurd c_7 c_53
        · exact absurd c_7 c_47
      · exact absurd c_7 c_46
theorem in_X10_does_X10 : ∀ w ∈ u_ws RX10 TX10 44, w ∈ wsX10_does := by decide +kernel
def f_X10_does (σ : Sg) (a0 : Int) (a1 : Int) : Int × Sg := (if (σ 32 ((σ 48 a0.toNat).toNat)) = 0 then (1, σ) else (if (f_X10_isJust (f_X10_lays σ a0 a1) (σ 48 a0.toNat) 70) = 0 then (2, (f_X10_lays σ a0 a1)) else (if (f_X10_alikeTo (f_X10_lays (f_X10_lays σ a0 a1) a0 (1 - a1)) 70 (σ 48 a0.toNat)) = (-1) then (0, (f_X10_goesTo (f_X10_lays (f_X10_lays σ a0 a1) a0 (1 - a1)) (σ 48 a0.toNat) 70)) else (3, (f_X10_lays (f_X10_lays σ a0 a1) a0 (1 - a1))))))
theorem hd_X10_does : yX10_does.cls = RX10 ∧ yX10_does.cls ≠ "java/lang/invoke/MethodHandle" ∧ yX10_does.cls ≠ "java/lang/invoke/VarHandle" ∧ (parseMethodDescriptor yX10_does.desc).map (fun d => d.parameters.length) = some 2 := by decide +kernel
set_option maxHeartbeats 4000000 in
set_option maxRecDepth 100000 in
theorem c_X10_does (l : Launch) (D : va_G) (cy : Nat → ClassId) (ad : Nat → Nat) (σ : Sg) (a0 : Int) (ha0 : (0 : Int) ≤ a0 ∧ a0 ≤ 79) (a1 : Int) (ha1 : (0 : Int) ≤ a1 ∧ a1 ≤ 1) : CM l D cy ad yX10_does wsX10_does { frames := 3, cells := 0, slots := 0, locals := 120 } [.ref (ad 28), .int (iI a0), .int (iI a1)] σ (some (.int (iI ((f_X10_does σ a0 a1).1)))) ((f_X10_does σ a0 a1).2) (0 ≤ ((f_X10_does σ a0 a1).1) ∧ ((f_X10_does σ a0 a1).1) ≤ 3) := by
  refine CM.of (cc := cX10_does) (maxL := 4) (ret := (some .int)) (by decide) rfl (Nat.le_of_ble_eq_true rfl) ?_
  intro p e s m args below meth c₀ ls X hI hl
  have hl : lv_has ls 4 [(0, .ref (ad 28)), (1, .int (iI a0)), (2, .int (iI a1))] := hl
  obtain ⟨hx, hb, hr, hml, hown, hts, hlocks, hK, hN⟩ := id X
  have hF := hI.2.2.2
  refine lv_aload_n hx hb dX10_does_0 rfl (lv_at hl 0 rfl) ?_
  refine g_get (C := RX10) (T := TX10) (N := 44) (ci := 9) (v := .ref (ad 48)) hx hb hts in_X10_does_X10 hown hK hI 28 (by decide) (cel_28 cy ad _) rfl 36 (by decide) (by decide +kernel) rfl dX10_does_1 ?_
  refine lv_iload_n hx hb dX10_does_4 rfl (lv_at hl 1 rfl) ?_
  refine g_iald (v := σ 48 a0.toNat) hx hb hK hI 48 (by decide) (cel_48 cy ad) (by omega) (by decide) rfl dX10_does_5 ?_
  have b_1 := bd_48 hF a0.toNat
  refine lv_istore_n (lv' := [(3, .int (iI (σ 48 a0.toNat))), (0, .ref (ad 28)), (1, .int (iI a0)), (2, .int (iI a1))]) hx hb dX10_does_6 rfl hl (by decide) rfl (fun ls hl => ?_)
  refine lv_aload_n hx hb dX10_does_7 rfl (lv_at hl 1 rfl) ?_
  refine g_get (C := RX10) (T := TX10) (N := 44) (ci := 9) (v := .ref (ad 32)) hx hb hts in_X10_does_X10 hown hK hI 28 (by decide) (cel_28 cy ad _) rfl 6 (by decide) (by decide +kernel) rfl dX10_does_8 ?_
  refine lv_iload_n hx hb dX10_does_11 rfl (lv_at hl 0 rfl) ?_
  refine g_zald (v := σ 32 ((σ 48 a0.toNat).toNat)) hx hb hK hI 32 (by decide) (cel_32 cy ad) (by omega) (by decide) rfl dX10_does_12 ?_
  have b_2 := bd_32 hF ((σ 48 a0.toNat).toNat)
  refine g_if_ne (tgt := 18) hx hb dX10_does_13 (by decide) (by omega) (fun c_3 => ?_) (fun c_3 => ?_)
  · skip
    refine lv_aload_n hx hb dX10_does_18 rfl (lv_at hl 1 rfl) ?_
    refine lv_iload_n hx hb dX10_does_19 rfl (lv_at hl 2 rfl) ?_
    refine lv_iload_n hx hb dX10_does_20 rfl (lv_at hl 3 rfl) ?_
    refine g_V (As := [.int (iI a0), .int (iI a1)]) (rest := []) 28 (c_X10_lays l D cy ad σ a0 (by omega) a1 (by omega)) hx hb hml hown hts hK hN hI hl.1 gX10_does_X10_lays rfl hd_X10_lays rfl rfl ⟨Nat.le_of_ble_eq_true rfl, Nat.le_of_ble_eq_true rfl⟩ ⟨Nat.zero_le _, Nat.zero_le _⟩ (by decide) (cel_28 cy ad _) rfl rfl rfl rfl (Nat.le_of_ble_eq_true rfl) dX10_does_21 (fun H locs hG_4 hI => ?_)
    have hF_5 := hI.2.2.2
    refine lv_aload_n hx hb dX10_does_24 rfl (lv_at hl 1 rfl) ?_
    refine lv_iload_n hx hb dX10_does_25 rfl (lv_at hl 0 rfl) ?_
    refine lv_bipush (v := iI 70) hx hb dX10_does_26 (iI_bip (by decide)) ?_
    refine g_V (As := [.int (iI (σ 48 a0.toNat)), .int (iI 70)]) (rest := []) 28 (c_X10_isJust l D cy ad (f_X10_lays σ a0 a1) (σ 48 a0.toNat) (by omega) 70 (by omega)) hx hb hml hown hts hK hN hI hl.1 gX10_does_X10_isJust rfl hd_X10_isJust rfl rfl ⟨Nat.le_of_ble_eq_true rfl, Nat.le_of_ble_eq_true rfl⟩ ⟨Nat.zero_le _, Nat.zero_le _⟩ (by decide) (cel_28 cy ad _) rfl rfl rfl rfl (Nat.le_of_ble_eq_true rfl) dX10_does_28 (fun H locs hG_6 hI => ?_)
    refine g_if_ne (tgt := 36) hx hb dX10_does_31 (by decide) (by omega) (fun c_7 => ?_) (fun c_7 => ?_)
    · skip
      refine lv_aload_n hx hb dX10_does_36 rfl (lv_at hl 1 rfl) ?_
      refine lv_iload_n hx hb dX10_does_37 rfl (lv_at hl 2 rfl) ?_
      refine lv_iconst (v := iI 1) hx hb dX10_does_38 rfl ?_
      refine lv_iload_n hx hb dX10_does_39 rfl (lv_at hl 3 rfl) ?_
      refine g_isub hx hb dX10_does_40 ?_
      refine g_V (As := [.int (iI a0), .int (iI (1 - a1))]) (rest := []) 28 (c_X10_lays l D cy ad (f_X10_lays σ a0 a1) a0 (by omega) (1 - a1) (by omega)) hx hb hml hown hts hK hN hI hl.1 gX10_does_X10_lays rfl hd_X10_lays rfl rfl ⟨Nat.le_of_ble_eq_true rfl, Nat.le_of_ble_eq_true rfl⟩ ⟨Nat.zero_le _, Nat.zero_le _⟩ (by decide) (cel_28 cy ad _) rfl rfl rfl rfl (Nat.le_of_ble_eq_true rfl) dX10_does_41 (fun H locs hG_8 hI => ?_)
      have hF_9 := hI.2.2.2
      refine lv_aload_n hx hb dX10_does_44 rfl (lv_at hl 1 rfl) ?_
      refine lv_bipush (v := iI 70) hx hb dX10_does_45 (iI_bip (by decide)) ?_
      refine lv_iload_n hx hb dX10_does_47 rfl (lv_at hl 0 rfl) ?_
      refine g_V (As := [.int (iI 70), .int (iI (σ 48 a0.toNat))]) (rest := []) 28 (c_X10_alikeTo l D cy ad (f_X10_lays (f_X10_lays σ a0 a1) a0 (1 - a1)) 70 (by omega) (σ 48 a0.toNat) (by omega)) hx hb hml hown hts hK hN hI hl.1 gX10_does_X10_alikeTo rfl hd_X10_alikeTo rfl rfl ⟨Nat.le_of_ble_eq_true rfl, Nat.le_of_ble_eq_true rfl⟩ ⟨Nat.zero_le _, Nat.zero_le _⟩ (by decide) (cel_28 cy ad _) rfl rfl rfl rfl (Nat.le_of_ble_eq_true rfl) dX10_does_48 (fun H locs hG_10 hI => ?_)
      refine lv_iconst (v := iI (-1)) hx hb dX10_does_51 rfl ?_
      refine g_icmp_eq (tgt := 57) hx hb dX10_does_52 (by decide) (by omega) (by omega) (fun c_11 => ?_) (fun c_11 => ?_)
      · skip
        refine lv_aload_n hx hb dX10_does_57 rfl (lv_at hl 1 rfl) ?_
        refine lv_iload_n hx hb dX10_does_58 rfl (lv_at hl 0 rfl) ?_
        refine lv_bipush (v := iI 70) hx hb dX10_does_59 (iI_bip (by decide)) ?_
        refine g_V (As := [.int (iI (σ 48 a0.toNat)), .int (iI 70)]) (rest := []) 28 (c_X10_goesTo l D cy ad (f_X10_lays (f_X10_lays σ a0 a1) a0 (1 - a1)) (σ 48 a0.toNat) (by omega) 70 (by omega)) hx hb hml hown hts hK hN hI hl.1 gX10_does_X10_goesTo rfl hd_X10_goesTo rfl rfl ⟨Nat.le_of_ble_eq_true rfl, Nat.le_of_ble_eq_true rfl⟩ ⟨Nat.zero_le _, Nat.zero_le _⟩ (by decide) (cel_28 cy ad _) rfl rfl rfl rfl (Nat.le_of_ble_eq_true rfl) dX10_does_61 (fun H locs hG_12 hI => ?_)
        have hF_13 := hI.2.2.2
        refine lv_iconst (v := iI 0) hx hb dX10_does_64 rfl ?_
        have e9 : f_X10_does σ a0 a1 = (0, (f_X10_goesTo (f_X10_lays (f_X10_lays σ a0 a1) a0 (1 - a1)) (σ 48 a0.toNat) 70)) := by rw [f_X10_does, if_neg c_3, if_neg c_7, if_pos c_11]
        exact g_iret (z := 0) hx hb hr hK hN hlocks hI (by rw [e9]) (by rw [e9]) (by rw [e9] <;> first | (omega) | (dsimp only; omega)) dX10_does_65
      · skip
        refine lv_iconst (v := iI 3) hx hb dX10_does_55 rfl ?_
        have e9 : f_X10_does σ a0 a1 = (3, (f_X10_lays (f_X10_lays σ a0 a1) a0 (1 - a1))) := by rw [f_X10_does, if_neg c_3, if_neg c_7, if_neg c_11]
        exact g_iret (z := 3) hx hb hr hK hN hlocks hI (by rw [e9]) (by rw [e9]) (by rw [e9] <;> first | (omega) | (dsimp only; omega)) dX10_does_56
    · skip
      refine lv_iconst (v := iI 2) hx hb dX10_does_34 rfl ?_
      have e9 : f_X10_does σ a0 a1 = (2, (f_X10_lays σ a0 a1)) := by rw [f_X10_does, if_neg c_3, if_pos c_7]
      exact g_iret (z := 2) hx hb hr hK hN hlocks hI (by rw [e9]) (by rw [e9]) (by rw [e9] <;> first | (omega) | (dsimp only; omega)) dX10_does_35
  · skip
    refine lv_iconst (v := iI 1) hx hb dX10_does_16 rfl ?_
    have e9 : f_X10_does σ a0 a1 = (1, σ) := by rw [f_X10_does, if_pos c_3]
    exact g_iret (z := 1) hx hb hr hK hN hlocks hI (by rw [e9]) (by rw [e9]) (by rw [e9] <;> first | (omega) | (dsimp only; omega)) dX10_does_17
