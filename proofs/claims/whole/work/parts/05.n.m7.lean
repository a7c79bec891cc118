theorem in_X10_plan_X10 : ∀ w ∈ u_ws RX10 TX10 44, w ∈ wsX10_plan := by decide +kernel
def L_X10_plan_130 (a0 : Int) (a1 : Int) (a2 : Int) (a3 : Int) (a4 : Int) : Nat → Int → Int → Sg → Int × Sg
  | 0, x6, x7, σ => (x7, σ)
  | n + 1, x6, x7, σ => (if a4 = 0 then (x7, σ) else (if x7 ≤ 0 then (x7, σ) else (if (f_X10_isEarlier σ x6 (σ 42 ((x7 - 1).toNat))) = 0 then (x7, σ) else L_X10_plan_130 a0 a1 a2 a3 a4 n x6 (x7 + (-1)) (up2 σ 42 x7.toNat (σ 42 ((x7 - 1).toNat))))))
set_option maxHeartbeats 4000000 in
set_option maxRecDepth 100000 in
theorem w_L_X10_plan_130 {p : Program} {l : Launch} {e : Env} {s : State} {m : MethodId} {args : Array Value} {below : List Frame} {meth : Method} {c₀ : Code} {D : va_G} {cy : Nat → ClassId} {ad : Nat → Nat} {Q : State → Prop} (X : MX p s m args meth c₀ cX10_plan 8 RX10 (some .int) wsX10_plan D cy) (a0 : Int) (ha0 : (-2147483648 ≤ a0 ∧ a0 < 2147483648)) (a1 : Int) (ha1 : (-2147483648 ≤ a1 ∧ a1 < 2147483648)) (a2 : Int) (ha2 : (-2147483648 ≤ a2 ∧ a2 < 2147483648)) (a3 : Int) (ha3 : (-2147483648 ≤ a3 ∧ a3 < 2147483648)) (a4 : Int) (ha4 : (0 : Int) ≤ a4 ∧ a4 ≤ 1) (g0 : Int) : ∀ (n : Nat) (x6 : Int) (x7 : Int) (σ : Sg) (hx6 : (0 : Int) ≤ x6 ∧ x6 ≤ 39) (hx7 : (0 : Int) ≤ x7 ∧ x7 ≤ 39) (hp0 : σ 28 26 = g0) (hp1 : RuleOK σ) (hmu : x7 < (n : Int)) (H : Heap) (locs : List Loc) (ls : Array Slot) (hI : HI D cy ad s σ H locs) (hl : lv_has ls 8 [(0, .ref (ad 28)), (1, .int (iI a0)), (2, .int (iI a1)), (3, .int (iI a2)), (4, .int (iI a3)), (5, .int (iI a4)), (6, .int (iI x6)), (7, .int (iI x7))])  (hk : ∀ (H1 : Heap) (locs1 : List Loc) (ls1 : Array Slot), ((L_X10_plan_130 a0 a1 a2 a3 a4 n x6 x7 σ).2 28 26 = g0 ∧ RuleOK (L_X10_plan_130 a0 a1 a2 a3 a4 n x6 x7 σ).2 ∧ 0 ≤ (L_X10_plan_130 a0 a1 a2 a3 a4 n x6 x7 σ).1 ∧ (L_X10_plan_130 a0 a1 a2 a3 a4 n x6 x7 σ).1 ≤ 39) → HI D cy ad s (L_X10_plan_130 a0 a1 a2 a3 a4 n x6 x7 σ).2 H1 locs1 → lv_has ls1 8 [(0, .ref (ad 28)), (1, .int (iI a0)), (2, .int (iI a1)), (3, .int (iI a2)), (4, .int (iI a3)), (5, .int (iI a4)), (6, .int (iI x6)), (7, .int (iI ((L_X10_plan_130 a0 a1 a2 a3 a4 n x6 x7 σ).1)))] → W p l e { frames := 28, cells := 0, slots := 0, locals := 1120 } s m args below meth c₀ H1 locs1 0 0 Q (F0 m 180 ls1 [])), W p l e { frames := 28, cells := 0, slots := 0, locals := 1120 } s m args below meth c₀ H locs 0 0 Q (F0 m 130 ls []) := by
  obtain ⟨hx, hb, hr, hml, hown, hts, hlocks, hK, hN⟩ := id X
  intro n
  induction n with
  | zero =>
    intro x6 x7 σ hx6 hx7 hp0 hp1 hmu H locs ls hI hl hk
    exfalso
    have hF := hI.2.2.2
    omega
  | succ n ih =>
    intro x6 x7 σ hx6 hx7 hp0 hp1 hmu H locs ls hI hl hk
    have hF := hI.2.2.2
    refine lv_iload hx hb dX10_plan_130 (lv_at hl 5 rfl) ?_
    refine g_if_eq (tgt := 180) hx hb dX10_plan_132 (by decide) (by omega) (fun c_27 => ?_) (fun c_27 => ?_)
    · skip
      have e9 : L_X10_plan_130 a0 a1 a2 a3 a4 (n + 1) x6 x7 σ = (x7, σ) := by rw [L_X10_plan_130, if_pos c_27]
      rw [e9] at hk
      exact hk _ _ _ (by first | (exact ⟨by omega, hp1, by omega, by omega⟩) | (dsimp only; exact ⟨by omega, hp1, by omega, by omega⟩)) hI (lv_sub hl [0, 1, 2, 3, 4, 5, 6, 7] rfl)
    · skip
      refine lv_iload hx hb dX10_plan_135 (lv_at hl 7 rfl) ?_
      refine g_if_le (tgt := 180) hx hb dX10_plan_137 (by decide) (by omega) (fun c_28 => ?_) (fun c_28 => ?_)
      · skip
        have e9 : L_X10_plan_130 a0 a1 a2 a3 a4 (n + 1) x6 x7 σ = (x7, σ) := by rw [L_X10_plan_130, if_neg c_27, if_pos c_28]
        rw [e9] at hk
        exact hk _ _ _ (by first | (exact ⟨by omega, hp1, by omega, by omega⟩) | (dsimp only; exact ⟨by omega, hp1, by omega, by omega⟩)) hI (lv_sub hl [0, 1, 2, 3, 4, 5, 6, 7] rfl)
      · skip
        refine lv_aload_n hx hb dX10_plan_140 rfl (lv_at hl 0 rfl) ?_
        refine lv_iload hx hb dX10_plan_141 (lv_at hl 6 rfl) ?_
        refine lv_aload_n hx hb dX10_plan_143 rfl (lv_at hl 0 rfl) ?_
        refine g_get (C := RX10) (T := TX10) (N := 44) (ci := 9) (v := .ref (ad 42)) hx hb hts in_X10_plan_X10 hown hK hI 28 (by decide) (cel_28 cy ad _) rfl 27 (by decide) (by decide +kernel) rfl dX10_plan_144 ?_
        refine lv_iload hx hb dX10_plan_147 (lv_at hl 7 rfl) ?_
        refine lv_iconst (v := iI 1) hx hb dX10_plan_149 rfl ?_
        refine g_isub hx hb dX10_plan_150 ?_
        refine g_iald (v := σ 42 ((x7 - 1).toNat)) hx hb hK hI 42 (by decide) (cel_42 cy ad) (by omega) (by decide) rfl dX10_plan_151 ?_
        have b_29 := bd_42 hF ((x7 - 1).toNat)
        refine g_V (As := [.int (iI x6), .int (iI (σ 42 ((x7 - 1).toNat)))]) (rest := []) 28 (c_X10_isEarlier l D cy ad σ x6 (by omega) (σ 42 ((x7 - 1).toNat)) (by omega)) hx hb hml hown hts hK hN hI hl.1 gX10_plan_X10_isEarlier rfl hd_X10_isEarlier rfl rfl ⟨Nat.le_of_ble_eq_true rfl, Nat.le_of_ble_eq_true rfl⟩ ⟨Nat.zero_le _, Nat.zero_le _⟩ (by decide) (cel_28 cy ad _) rfl rfl rfl rfl (Nat.le_of_ble_eq_true rfl) dX10_plan_152 (fun H locs hG_30 hI => ?_)
        refine g_if_eq (tgt := 180) hx hb dX10_plan_155 (by decide) (by omega) (fun c_31 => ?_) (fun c_31 => ?_)
        · skip
          have e9 : L_X10_plan_130 a0 a1 a2 a3 a4 (n + 1) x6 x7 σ = (x7, σ) := by rw [L_X10_plan_130, if_neg c_27, if_neg c_28, if_pos c_31]
          rw [e9] at hk
          exact hk _ _ _ (by first | (exact ⟨by omega, hp1, by omega, by omega⟩) | (dsimp only; exact ⟨by omega, hp1, by omega, by omega⟩)) hI (lv_sub hl [0, 1, 2, 3, 4, 5, 6, 7] rfl)
        · skip
          refine lv_aload_n hx hb dX10_plan_158 rfl (lv_at hl 0 rfl) ?_
          refine g_get (C := RX10) (T := TX10) (N := 44) (ci := 9) (v := .ref (ad 42)) hx hb hts in_X10_plan_X10 hown hK hI 28 (by decide) (cel_28 cy ad _) rfl 27 (by decide) (by decide +kernel) rfl dX10_plan_159 ?_
          refine lv_iload hx hb dX10_plan_162 (lv_at hl 7 rfl) ?_
          refine lv_aload_n hx hb dX10_plan_164 rfl (lv_at hl 0 rfl) ?_
          refine g_get (C := RX10) (T := TX10) (N := 44) (ci := 9) (v := .ref (ad 42)) hx hb hts in_X10_plan_X10 hown hK hI 28 (by decide) (cel_28 cy ad _) rfl 27 (by decide) (by decide +kernel) rfl dX10_plan_165 ?_
          refine lv_iload hx hb dX10_plan_168 (lv_at hl 7 rfl) ?_
          refine lv_iconst (v := iI 1) hx hb dX10_plan_170 rfl ?_
          refine g_isub hx hb dX10_plan_171 ?_
          refine g_iald (v := σ 42 ((x7 - 1).toNat)) hx hb hK hI 42 (by decide) (cel_42 cy ad) (by omega) (by decide) rfl dX10_plan_172 ?_
          have b_32 := bd_42 hF ((x7 - 1).toNat)
          refine g_iast hx hb hK hI 42 (by decide) (cel_42 cy ad) (by omega) (by decide) (bw_42 (by omega)) dX10_plan_173 (fun H locs hI => ?_)
          have hF_33 : WF (up2 σ 42 x7.toNat (σ 42 ((x7 - 1).toNat))) := hI.2.2.2
          refine lv_iinc (v := iI (x7 + (-1))) (lv' := [(7, .int (iI (x7 + (-1)))), (0, .ref (ad 28)), (1, .int (iI a0)), (2, .int (iI a1)), (3, .int (iI a2)), (4, .int (iI a3)), (5, .int (iI a4)), (6, .int (iI x6))]) hx hb dX10_plan_174 hl (k := 7) rfl (iI_add _ _) (by decide) rfl (fun ls hl => ?_)
          refine lv_goto (tgt := 130) hx hb dX10_plan_177 (by decide) ?_
          have e9 : L_X10_plan_130 a0 a1 a2 a3 a4 (n + 1) x6 x7 σ = L_X10_plan_130 a0 a1 a2 a3 a4 n x6 (x7 + (-1)) (up2 σ 42 x7.toNat (σ 42 ((x7 - 1).toNat))) := by rw [L_X10_plan_130, if_neg c_27, if_neg c_28, if_neg c_31]
          rw [e9] at hk
          exact ih x6 (x7 + (-1)) (up2 σ 42 x7.toNat (σ 42 ((x7 - 1).toNat))) (by omega) (by omega) (by first | omega | (simp [up2_at] <;> omega)) (by first | exact hR2 | exact hp1.of rfl rfl rfl rfl rfl) (by omega) _ _ _ hI (lv_sub hl [1, 2, 3, 4, 5, 6, 7, 0] rfl) hk
def L_X10_plan_82 (a0 : Int) (a1 : Int) (a2 : Int) (a3 : Int) (a4 : Int) : Nat → Int → Sg → Sg
  | 0, x6, σ => (σ)
  | n + 1, x6, σ => (if (σ 28 5) ≤ x6 then σ else (if (σ 32 x6.toNat) = 0 then L_X10_plan_82 a0 a1 a2 a3 a4 n (x6 + 1) σ else (if (σ 31 x6.toNat) = a0 then (if ((f_X10_isFit σ x6).1) = 0 then L_X10_plan_82 a0 a1 a2 a3 a4 n (x6 + 1) (f_X10_isFit σ x6).2 else L_X10_plan_82 a0 a1 a2 a3 a4 n (x6 + 1) (up2 (up2 (L_X10_plan_130 a0 a1 a2 a3 a4 41 x6 ((f_X10_isFit σ x6).2 28 26) (f_X10_isFit σ x6).2).2 42 (((L_X10_plan_130 a0 a1 a2 a3 a4 41 x6 ((f_X10_isFit σ x6).2 28 26) (f_X10_isFit σ x6).2).1).toNat) x6) 28 26 (((L_X10_plan_130 a0 a1 a2 a3 a4 41 x6 ((f_X10_isFit σ x6).2 28 26) (f_X10_isFit σ x6).2).2 28 26) + 1))) else L_X10_plan_82 a0 a1 a2 a3 a4 n (x6 + 1) σ)))
set_option maxHeartbeats 4000000 in
set_option maxRecDepth 100000 in
theorem w_L_X10_plan_82 {p : Program} {l : Launch} {e : Env} {s : State} {m : MethodId} {args : Array Value} {below : List Frame} {meth : Method} {c₀ : Code} {D : va_G} {cy : Nat → ClassId} {ad : Nat → Nat} {Q : State → Prop} (X : MX p s m args meth c₀ cX10_plan 8 RX10 (some .int) wsX10_plan D cy) (a0 : Int) (ha0 : (-2147483648 ≤ a0 ∧ a0 < 2147483648)) (a1 : Int) (ha1 : (-2147483648 ≤ a1 ∧ a1 < 2147483648)) (a2 : Int) (ha2 : (-2147483648 ≤ a2 ∧ a2 < 2147483648)) (a3 : Int) (ha3 : (-2147483648 ≤ a3 ∧ a3 < 2147483648)) (a4 : Int) (ha4 : (0 : Int) ≤ a4 ∧ a4 ≤ 1) : ∀ (n : Nat) (x6 : Int) (σ : Sg) (hx6 : (0 : Int) ≤ x6 ∧ x6 ≤ 40) (hp0 : σ 28 26 ≤ x6) (hp1 : RuleOK σ) (hmu : 40 - x6 < (n : Int)) (H : Heap) (locs : List Loc) (ls : Array Slot) (hI : HI D cy ad s σ H locs) (hl : lv_has ls 8 [(0, .ref (ad 28)), (1, .int (iI a0)), (2, .int (iI a1)), (3, .int (iI a2)), (4, .int (iI a3)), (5, .int (iI a4)), (6, .int (iI x6))])  (hk : ∀ (H1 : Heap) (locs1 : List Loc) (ls1 : Array Slot), (RuleOK (L_X10_plan_82 a0 a1 a2 a3 a4 n x6 σ)) → HI D cy ad s (L_X10_plan_82 a0 a1 a2 a3 a4 n x6 σ) H1 locs1 → lv_has ls1 8 [(0, .ref (ad 28)), (2, .int (iI a1)), (3, .int (iI a2)), (4, .int (iI a3))] → W p l e { frames := 28, cells := 0, slots := 0, locals := 1120 } s m args below meth c₀ H1 locs1 0 0 Q (F0 m 205 ls1 [])), W p l e { frames := 28, cells := 0, slots := 0, locals := 1120 } s m args below meth c₀ H locs 0 0 Q (F0 m 82 ls []) := by
  obtain ⟨hx, hb, hr, hml, hown, hts, hlocks, hK, hN⟩ := id X
  intro n
  induction n with
  | zero =>
    intro x6 σ hx6 hp0 hp1 hmu H locs ls hI hl hk
    exfalso
    have hF := hI.2.2.2
    omega
  | succ n ih =>
    intro x6 σ hx6 hp0 hp1 hmu H locs ls hI hl hk
    have hF := hI.2.2.2
    refine lv_iload hx hb dX10_plan_82 (lv_at hl 6 rfl) ?_
    refine lv_aload_n hx hb dX10_plan_84 rfl (lv_at hl 0 rfl) ?_
    refine g_get (C := RX10) (T := TX10) (N := 44) (ci := 9) (v := .int (iI (σ 28 5))) hx hb hts in_X10_plan_X10 hown hK hI 28 (by decide) (cel_28 cy ad _) rfl 5 (by decide) (by decide +kernel) rfl dX10_plan_85 ?_
    have b_17 := bd_28_5 hF
    refine g_icmp_ge (tgt := 205) hx hb dX10_plan_88 (by decide) (by omega) (by omega) (fun c_18 => ?_) (fun c_18 => ?_)
    · skip
      have e9 : L_X10_plan_82 a0 a1 a2 a3 a4 (n + 1) x6 σ = σ := by rw [L_X10_plan_82, if_pos c_18]
      rw [e9] at hk
      exact hk _ _ _ (by first | (exact hp1) | (dsimp only; exact hp1)) hI (lv_sub hl [0, 2, 3, 4] rfl)
    · skip
      refine lv_aload_n hx hb dX10_plan_91 rfl (lv_at hl 0 rfl) ?_
      refine g_get (C := RX10) (T := TX10) (N := 44) (ci := 9) (v := .ref (ad 32)) hx hb hts in_X10_plan_X10 hown hK hI 28 (by decide) (cel_28 cy ad _) rfl 6 (by decide) (by decide +kernel) rfl dX10_plan_92 ?_
      refine lv_iload hx hb dX10_plan_95 (lv_at hl 6 rfl) ?_
      refine g_zald (v := σ 32 x6.toNat) hx hb hK hI 32 (by decide) (cel_32 cy ad) (by omega) (by decide) rfl dX10_plan_97 ?_
      have b_19 := bd_32 hF x6.toNat
      refine g_if_eq (tgt := 199) hx hb dX10_plan_98 (by decide) (by omega) (fun c_20 => ?_) (fun c_20 => ?_)
      · skip
        refine lv_iinc (v := iI (x6 + 1)) (lv' := [(6, .int (iI (x6 + 1))), (0, .ref (ad 28)), (1, .int (iI a0)), (2, .int (iI a1)), (3, .int (iI a2)), (4, .int (iI a3)), (5, .int (iI a4))]) hx hb dX10_plan_199 hl (k := 6) rfl (iI_add _ _) (by decide) rfl (fun ls hl => ?_)
        refine lv_goto (tgt := 82) hx hb dX10_plan_202 (by decide) ?_
        have e9 : L_X10_plan_82 a0 a1 a2 a3 a4 (n + 1) x6 σ = L_X10_plan_82 a0 a1 a2 a3 a4 n (x6 + 1) σ := by rw [L_X10_plan_82, if_neg c_18, if_pos c_20]
        rw [e9] at hk
        exact ih (x6 + 1) σ (by omega) (by first | omega | (simp [up2_at] <;> omega)) (by first | exact hp1 | exact hR1 | exact hR2 | exact hq1.of rfl rfl rfl rfl rfl) (by omega) _ _ _ hI (lv_sub hl [1, 2, 3, 4, 5, 6, 0] rfl) hk
      · skip
        refine lv_aload_n hx hb dX10_plan_101 rfl (lv_at hl 0 rfl) ?_
        refine g_get (C := RX10) (T := TX10) (N := 44) (ci := 9) (v := .ref (ad 31)) hx hb hts in_X10_plan_X10 hown hK hI 28 (by decide) (cel_28 cy ad _) rfl 3 (by decide) (by decide +kernel) rfl dX10_plan_102 ?_
        refine lv_iload hx hb dX10_plan_105 (lv_at hl 6 rfl) ?_
        refine g_iald (v := σ 31 x6.toNat) hx hb hK hI 31 (by decide) (cel_31 cy ad) (by omega) (by decide) rfl dX10_plan_107 ?_
        have b_21 := bd_31 hF x6.toNat
        refine lv_iload_n hx hb dX10_plan_108 rfl (lv_at hl 1 rfl) ?_
        refine g_icmp_ne (tgt := 199) hx hb dX10_plan_109 (by decide) (by omega) (by omega) (fun c_22 => ?_) (fun c_22 => ?_)
        · skip
          refine lv_iinc (v := iI (x6 + 1)) (lv' := [(6, .int (iI (x6 + 1))), (0, .ref (ad 28)), (1, .int (iI a0)), (2, .int (iI a1)), (3, .int (iI a2)), (4, .int (iI a3)), (5, .int (iI a4))]) hx hb dX10_plan_199 hl (k := 6) rfl (iI_add _ _) (by decide) rfl (fun ls hl => ?_)
          refine lv_goto (tgt := 82) hx hb dX10_plan_202 (by decide) ?_
          have e9 : L_X10_plan_82 a0 a1 a2 a3 a4 (n + 1) x6 σ = L_X10_plan_82 a0 a1 a2 a3 a4 n (x6 + 1) σ := by rw [L_X10_plan_82, if_neg c_18, if_neg c_20, if_neg c_22]
          rw [e9] at hk
          exact ih (x6 + 1) σ (by omega) (by first | omega | (simp [up2_at] <;> omega)) (by first | exact hp1 | exact hR1 | exact hR2 | exact hq1.of rfl rfl rfl rfl rfl) (by omega) _ _ _ hI (lv_sub hl [1, 2, 3, 4, 5, 6, 0] rfl) hk
        · skip
          refine lv_aload_n hx hb dX10_plan_112 rfl (lv_at hl 0 rfl) ?_
          refine lv_iload hx hb dX10_plan_113 (lv_at hl 6 rfl) ?_
          refine g_V (As := [.int (iI x6)]) (rest := []) 28 (c_X10_isFit l D cy ad σ x6 (by omega)) hx hb hml hown hts hK hN hI hl.1 gX10_plan_X10_isFit rfl hd_X10_isFit rfl rfl ⟨Nat.le_of_ble_eq_true rfl, Nat.le_of_ble_eq_true rfl⟩ ⟨Nat.zero_le _, Nat.zero_le _⟩ (by decide) (cel_28 cy ad _) rfl rfl rfl rfl (Nat.le_of_ble_eq_true rfl) dX10_plan_115 (fun H locs hG_23 hI => ?_)
          have hF_24 := hI.2.2.2
          have q9 : (f_X10_isFit σ x6).2 28 = σ 28 := isFit_fr _ _ (by decide) (by decide)
          have q8 := congrFun q9 26
          have hR2 : RuleOK (f_X10_isFit σ x6).2 := hp1.fr (fun x hx => isFit_fr _ _ (by omega) (by omega))
          refine g_if_ne (tgt := 124) hx hb dX10_plan_118 (by decide) (by omega) (fun c_25 => ?_) (fun c_25 => ?_)
          · skip
            refine lv_aload_n hx hb dX10_plan_124 rfl (lv_at hl 0 rfl) ?_
            refine g_get (C := RX10) (T := TX10) (N := 44) (ci := 9) (v := .int (iI ((f_X10_isFit σ x6).2 28 26))) hx hb hts in_X10_plan_X10 hown hK hI 28 (by decide) (cel_28 cy ad _) rfl 26 (by decide) (by decide +kernel) rfl dX10_plan_125 ?_
            have b_26 := bd_28_26 hF_24
            refine lv_istore (lv' := [(7, .int (iI ((f_X10_isFit σ x6).2 28 26))), (0, .ref (ad 28)), (1, .int (iI a0)), (2, .int (iI a1)), (3, .int (iI a2)), (4, .int (iI a3)), (5, .int (iI a4)), (6, .int (iI x6))]) hx hb dX10_plan_128 hl (by decide) rfl (fun ls hl => ?_)
            refine w_L_X10_plan_130 X  a0 ha0 a1 ha1 a2 ha2 a3 ha3 a4 ha4  ((f_X10_isFit σ x6).2 28 26) 41 x6 ((f_X10_isFit σ x6).2 28 26) (f_X10_isFit σ x6).2 (by omega) (by omega) (by first | omega | (simp [up2_at] <;> omega)) (by first | exact hR2 | exact hp1.of rfl rfl rfl rfl rfl) (by omega) _ _ _ hI (lv_sub hl [1, 2, 3, 4, 5, 6, 7, 0] rfl) (fun H locs ls hpo_35 hI hl => ?_)
            have hF_34 := hI.2.2.2
            have hq0 := hpo_35.1
            have hq1 := hpo_35.2.1
            refine lv_aload_n hx hb dX10_plan_180 rfl (lv_at hl 0 rfl) ?_
            refine g_get (C := RX10) (T := TX10) (N := 44) (ci := 9) (v := .ref (ad 42)) hx hb hts in_X10_plan_X10 hown hK hI 28 (by decide) (cel_28 cy ad _) rfl 27 (by decide) (by decide +kernel) rfl dX10_plan_181 ?_
            refine lv_iload hx hb dX10_plan_184 (lv_at hl 7 rfl) ?_
            refine lv_iload hx hb dX10_plan_186 (lv_at hl 6 rfl) ?_
            refine g_iast hx hb hK hI 42 (by decide) (cel_42 cy ad) (by omega) (by decide) (bw_42 (by omega)) dX10_plan_188 (fun H locs hI => ?_)
            have hF_36 : WF (up2 (L_X10_plan_130 a0 a1 a2 a3 a4 41 x6 ((f_X10_isFit σ x6).2 28 26) (f_X10_isFit σ x6).2).2 42 (((L_X10_plan_130 a0 a1 a2 a3 a4 41 x6 ((f_X10_isFit σ x6).2 28 26) (f_X10_isFit σ x6).2).1).toNat) x6) := hI.2.2.2
            refine lv_aload_n hx hb dX10_plan_189 rfl (lv_at hl 0 rfl) ?_
            refine lv_dup hx hb dX10_plan_190 rfl ?_
            refine g_get (C := RX10) (T := TX10) (N := 44) (ci := 9) (v := .int (iI ((L_X10_plan_130 a0 a1 a2 a3 a4 41 x6 ((f_X10_isFit σ x6).2 28 26) (f_X10_isFit σ x6).2).2 28 26))) hx hb hts in_X10_plan_X10 hown hK hI 28 (by decide) (cel_28 cy ad _) rfl 26 (by decide) (by decide +kernel) (by show some (Value.int (iI ((up2 (L_X10_plan_130 a0 a1 a2 a3 a4 41 x6 ((f_X10_isFit σ x6).2 28 26) (f_X10_isFit σ x6).2).2 42 (((L_X10_plan_130 a0 a1 a2 a3 a4 41 x6 ((f_X10_isFit σ x6).2 28 26) (f_X10_isFit σ x6).2).1).toNat) x6) 28 26))) = _; rw [up2_cell _ _ _ (by decide)]) dX10_plan_191 ?_
            have b_37 := bd_28_26 hF_34
            refine lv_iconst (v := iI 1) hx hb dX10_plan_194 rfl ?_
            refine g_iadd hx hb dX10_plan_195 ?_
            refine g_put (C := RX10) (T := TX10) (N := 44) (ci := 9) (ty := .int) (z := ((L_X10_plan_130 a0 a1 a2 a3 a4 41 x6 ((f_X10_isFit σ x6).2 28 26) (f_X10_isFit σ x6).2).2 28 26) + 1) hx hb hts in_X10_plan_X10 tyX10 tyX10_ok nmX10 hown hK hI 28 (by decide) (cel_28 cy ad) rfl 26 (by decide) (by decide +kernel) rfl (by decide +kernel) rfl rfl (Nat.le_of_ble_eq_true rfl) rfl (bw_28_26 (by omega)) dX10_plan_196 (fun H locs hI => ?_)
            have hF_38 := hI.2.2.2
            refine lv_iinc (v := iI (x6 + 1)) (lv' := [(6, .int (iI (x6 + 1))), (0, .ref (ad 28)), (1, .int (iI a0)), (2, .int (iI a1)), (3, .int (iI a2)), (4, .int (iI a3)), (5, .int (iI a4)), (7, .int (iI ((L_X10_plan_130 a0 a1 a2 a3 a4 41 x6 ((f_X10_isFit σ x6).2 28 26) (f_X10_isFit σ x6).2).1)))]) hx hb dX10_plan_199 hl (k := 6) rfl (iI_add _ _) (by decide) rfl (fun ls hl => ?_)
            refine lv_goto (tgt := 82) hx hb dX10_plan_202 (by decide) ?_
            have e9 : L_X10_plan_82 a0 a1 a2 a3 a4 (n + 1) x6 σ = L_X10_plan_82 a0 a1 a2 a3 a4 n (x6 + 1) (up2 (up2 (L_X10_plan_130 a0 a1 a2 a3 a4 41 x6 ((f_X10_isFit σ x6).2 28 26) (f_X10_isFit σ x6).2).2 42 (((L_X10_plan_130 a0 a1 a2 a3 a4 41 x6 ((f_X10_isFit σ x6).2 28 26) (f_X10_isFit σ x6).2).1).toNat) x6) 28 26 (((L_X10_plan_130 a0 a1 a2 a3 a4 41 x6 ((f_X10_isFit σ x6).2 28 26) (f_X10_isFit σ x6).2).2 28 26) + 1)) := by rw [L_X10_plan_82, if_neg c_18, if_neg c_20, if_pos c_22, if_neg c_25]
            rw [e9] at hk
            exact ih (x6 + 1) (up2 (up2 (L_X10_plan_130 a0 a1 a2 a3 a4 41 x6 ((f_X10_isFit σ x6).2 28 26) (f_X10_isFit σ x6).2).2 42 (((L_X10_plan_130 a0 a1 a2 a3 a4 41 x6 ((f_X10_isFit σ x6).2 28 26) (f_X10_isFit σ x6).2).1).toNat) x6) 28 26 (((L_X10_plan_130 a0 a1 a2 a3 a4 41 x6 ((f_X10_isFit σ x6).2 28 26) (f_X10_isFit σ x6).2).2 28 26) + 1)) (by omega) (by first | omega | (simp [up2_at] <;> omega)) (by first | exact hp1 | exact hR1 | exact hR2 | exact hq1.of rfl rfl rfl rfl rfl) (by omega) _ _ _ hI (lv_sub hl [1, 2, 3, 4, 5, 6, 0] rfl) hk
          · skip
            refine lv_goto (tgt := 199) hx hb dX10_plan_121 (by decide) ?_
            refine lv_iinc (v := iI (x6 + 1)) (lv' := [(6, .int (iI (x6 + 1))), (0, .ref (ad 28)), (1, .int (iI a0)), (2, .int (iI a1)), (3, .int (iI a2)), (4, .int (iI a3)), (5, .int (iI a4))]) hx hb dX10_plan_199 hl (k := 6) rfl (iI_add _ _) (by decide) rfl (fun ls hl => ?_)
            refine lv_goto (tgt := 82) hx hb dX10_plan_202 (by decide) ?_
            have e9 : L_X10_plan_82 a0 a1 a2 a3 a4 (n + 1) x6 σ = L_X10_plan_82 a0 a1 a2 a3 a4 n (x6 + 1) (f_X10_isFit σ x6).2 := by rw [L_X10_plan_82, if_neg c_18, if_neg c_20, if_pos c_22, if_pos c_25]
            rw [e9] at hk
            exact ih (x6 + 1) (f_X10_isFit σ x6).2 (by omega) (by first | omega | (simp [up2_at] <;> omega)) (by first | exact hp1 | exact hR1 | exact hR2 | exact hq1.of rfl rfl rfl rfl rfl) (by omega) _ _ _ hI (lv_sub hl [1, 2, 3, 4, 5, 6, 0] rfl) hk
def L_X10_plan_208 (a0 : Int) (a1 : Int) (a2 : Int) (a3 : Int) (a4 : Int) : Nat → Int → Sg → Sg
  | 0, x6, σ => (σ)
  | n + 1, x6, σ => (if (σ 28 26) ≤ x6 then σ else (if (f_X10_isBad (f_X10_makes (up2 (up2 σ 43 x6.toNat (a2 + (x6 * a3))) 31 ((80 + x6).toNat) a1) x6) x6) = 0 then (if (f_X10_isJust (f_X10_makes (up2 (up2 σ 43 x6.toNat (a2 + (x6 * a3))) 31 ((80 + x6).toNat) a1) x6) (80 + x6) ((f_X10_makes (up2 (up2 σ 43 x6.toNat (a2 + (x6 * a3))) 31 ((80 + x6).toNat) a1) x6) 42 x6.toNat)) = 0 then L_X10_plan_208 a0 a1 a2 a3 a4 n (x6 + 1) (up2 (f_X10_makes (up2 (up2 σ 43 x6.toNat (a2 + (x6 * a3))) 31 ((80 + x6).toNat) a1) x6) 47 x6.toNat 0) else L_X10_plan_208 a0 a1 a2 a3 a4 n (x6 + 1) (up2 (f_X10_makes (up2 (up2 σ 43 x6.toNat (a2 + (x6 * a3))) 31 ((80 + x6).toNat) a1) x6) 47 x6.toNat 1)) else L_X10_plan_208 a0 a1 a2 a3 a4 n (x6 + 1) (up2 (f_X10_makes (up2 (up2 σ 43 x6.toNat (a2 + (x6 * a3))) 31 ((80 + x6).toNat) a1) x6) 47 x6.toNat 0)))
set_option maxHeartbeats 4000000 in
set_option maxRecDepth 100000 in
theorem w_L_X10_plan_208 {p : Program} {l : Launch} {e : Env} {s : State} {m : MethodId} {args : Array Value} {below : List Frame} {meth : Method} {c₀ : Code} {D : va_G} {cy : Nat → ClassId} {ad : Nat → Nat} {Q : State → Prop} (X : MX p s m args meth c₀ cX10_plan 8 RX10 (some .int) wsX10_plan D cy) (a0 : Int) (ha0 : (-2147483648 ≤ a0 ∧ a0 < 2147483648)) (a1 : Int) (ha1 : (-2147483648 ≤ a1 ∧ a1 < 2147483648)) (a2 : Int) (ha2 : (-2147483648 ≤ a2 ∧ a2 < 2147483648)) (a3 : Int) (ha3 : (-2147483648 ≤ a3 ∧ a3 < 2147483648)) (a4 : Int) (ha4 : (0 : Int) ≤ a4 ∧ a4 ≤ 1) : ∀ (n : Nat) (x6 : Int) (σ : Sg) (hx6 : (0 : Int) ≤ x6 ∧ x6 ≤ 40) (hp0 : 0 ≤ a2 ∧ a2 ≤ 999) (hp1 : 1 ≤ a3 ∧ a3 ≤ 99) (hp2 : RuleOK σ) (hmu : 40 - x6 < (n : Int)) (H : Heap) (locs : List Loc) (ls : Array Slot) (hI : HI D cy ad s σ H locs) (hl : lv_has ls 8 [(0, .ref (ad 28)), (2, .int (iI a1)), (3, .int (iI a2)), (4, .int (iI a3)), (6, .int (iI x6))])  (hk : ∀ (H1 : Heap) (locs1 : List Loc) (ls1 : Array Slot), True → HI D cy ad s (L_X10_plan_208 a0 a1 a2 a3 a4 n x6 σ) H1 locs1 → lv_has ls1 8 [(0, .ref (ad 28))] → W p l e { frames := 28, cells := 0, slots := 0, locals := 1120 } s m args below meth c₀ H1 locs1 0 0 Q (F0 m 294 ls1 [])), W p l e { frames := 28, cells := 0, slots := 0, locals := 1120 } s m args below meth c₀ H locs 0 0 Q (F0 m 208 ls []) := by
  obtain ⟨hx, hb, hr, hml, hown, hts, hlocks, hK, hN⟩ := id X
  intro n
  induction n with
  | zero =>
    intro x6 σ hx6 hp0 hp1 hp2 hmu H locs ls hI hl hk
    exfalso
    have hF := hI.2.2.2
    omega
  | succ n ih =>
    intro x6 σ hx6 hp0 hp1 hp2 hmu H locs ls hI hl hk
    have hF := hI.2.2.2
    refine lv_iload hx hb dX10_plan_208 (lv_at hl 4 rfl) ?_
    refine lv_aload_n hx hb dX10_plan_210 rfl (lv_at hl 0 rfl) ?_
    refine g_get (C := RX10) (T := TX10) (N := 44) (ci := 9) (v := .int (iI (σ 28 26))) hx hb hts in_X10_plan_X10 hown hK hI 28 (by decide) (cel_28 cy ad _) rfl 26 (by decide) (by decide +kernel) rfl dX10_plan_211 ?_
    have b_41 := bd_28_26 hF
    refine g_icmp_ge (tgt := 294) hx hb dX10_plan_214 (by decide) (by omega) (by omega) (fun c_42 => ?_) (fun c_42 => ?_)
    · skip
      have e9 : L_X10_plan_208 a0 a1 a2 a3 a4 (n + 1) x6 σ = σ := by rw [L_X10_plan_208, if_pos c_42]
      rw [e9] at hk
      exact hk _ _ _ trivial hI (lv_sub hl [0] rfl)
    · skip
      refine lv_aload_n hx hb dX10_plan_217 rfl (lv_at hl 0 rfl) ?_
      refine g_get (C := RX10) (T := TX10) (N := 44) (ci := 9) (v := .ref (ad 43)) hx hb hts in_X10_plan_X10 hown hK hI 28 (by decide) (cel_28 cy ad _) rfl 28 (by decide) (by decide +kernel) rfl dX10_plan_218 ?_
      refine lv_iload hx hb dX10_plan_221 (lv_at hl 4 rfl) ?_
      refine lv_iload_n hx hb dX10_plan_223 rfl (lv_at hl 2 rfl) ?_
      refine lv_iload hx hb dX10_plan_224 (lv_at hl 4 rfl) ?_
      refine lv_iload hx hb dX10_plan_226 (lv_at hl 3 rfl) ?_
      have q5 := mul_rng (a := x6) (b := a3) (x := 39) (y := 99) (by omega) (by omega)
      refine g_imul hx hb dX10_plan_228 ?_
      refine g_iadd hx hb dX10_plan_229 ?_
      refine g_iast hx hb hK hI 43 (by decide) (cel_43 cy ad) (by omega) (by decide) (bw_43 (by omega)) dX10_plan_230 (fun H locs hI => ?_)
      have hF_43 : WF (up2 σ 43 x6.toNat (a2 + (x6 * a3))) := hI.2.2.2
      refine lv_aload_n hx hb dX10_plan_231 rfl (lv_at hl 0 rfl) ?_
      refine g_get (C := RX10) (T := TX10) (N := 44) (ci := 9) (v := .ref (ad 31)) hx hb hts in_X10_plan_X10 hown hK hI 28 (by decide) (cel_28 cy ad _) rfl 3 (by decide) (by decide +kernel) rfl dX10_plan_232 ?_
      refine lv_bipush (v := iI 80) hx hb dX10_plan_235 (iI_bip (by decide)) ?_
      refine lv_iload hx hb dX10_plan_237 (lv_at hl 4 rfl) ?_
      refine g_iadd hx hb dX10_plan_239 ?_
      refine lv_iload_n hx hb dX10_plan_240 rfl (lv_at hl 1 rfl) ?_
      refine g_iast hx hb hK hI 31 (by decide) (cel_31 cy ad) (by omega) (by decide) (bw_31 (by omega)) dX10_plan_241 (fun H locs hI => ?_)
      have hF_44 : WF (up2 (up2 σ 43 x6.toNat (a2 + (x6 * a3))) 31 ((80 + x6).toNat) a1) := hI.2.2.2
      refine lv_aload_n hx hb dX10_plan_242 rfl (lv_at hl 0 rfl) ?_
      refine lv_iload hx hb dX10_plan_243 (lv_at hl 4 rfl) ?_
      refine g_V (As := [.int (iI x6)]) (rest := []) 28 (c_X10_makes l D cy ad (up2 (up2 σ 43 x6.toNat (a2 + (x6 * a3))) 31 ((80 + x6).toNat) a1) x6 (by omega) (hp2.of rfl rfl rfl rfl rfl)) hx hb hml hown hts hK hN hI hl.1 gX10_plan_X10_makes rfl hd_X10_makes rfl rfl ⟨Nat.le_of_ble_eq_true rfl, Nat.le_of_ble_eq_true rfl⟩ ⟨Nat.zero_le _, Nat.zero_le _⟩ (by decide) (cel_28 cy ad _) rfl rfl rfl rfl (Nat.le_of_ble_eq_true rfl) dX10_plan_245 (fun H locs hG_45 hI => ?_)
      have hF_46 := hI.2.2.2
      have hR3 : RuleOK (f_X10_makes (up2 (up2 σ 43 x6.toNat (a2 + (x6 * a3))) 31 ((80 + x6).toNat) a1) x6) := (hp2.of rfl rfl rfl rfl rfl : RuleOK (up2 (up2 σ 43 x6.toNat (a2 + (x6 * a3))) 31 ((80 + x6).toNat) a1)).fr (fun x hx => makes_fr _ _ (by omega) (by omega) (by omega) (by omega) (by omega))
      refine lv_aload_n hx hb dX10_plan_248 rfl (lv_at hl 0 rfl) ?_
      refine g_get (C := RX10) (T := TX10) (N := 44) (ci := 9) (v := .ref (ad 47)) hx hb hts in_X10_plan_X10 hown hK hI 28 (by decide) (cel_28 cy ad _) rfl 32 (by decide) (by decide +kernel) rfl dX10_plan_249 ?_
      refine lv_iload hx hb dX10_plan_252 (lv_at hl 4 rfl) ?_
      refine lv_aload_n hx hb dX10_plan_254 rfl (lv_at hl 0 rfl) ?_
      refine lv_iload hx hb dX10_plan_255 (lv_at hl 4 rfl) ?_
      refine g_V (As := [.int (iI x6)]) (rest := [.int (iI x6), .ref (ad 47)]) 28 (c_X10_isBad l D cy ad (f_X10_makes (up2 (up2 σ 43 x6.toNat (a2 + (x6 * a3))) 31 ((80 + x6).toNat) a1) x6) x6 (by omega)) hx hb hml hown hts hK hN hI hl.1 gX10_plan_X10_isBad rfl hd_X10_isBad rfl rfl ⟨Nat.le_of_ble_eq_true rfl, Nat.le_of_ble_eq_true rfl⟩ ⟨Nat.zero_le _, Nat.zero_le _⟩ (by decide) (cel_28 cy ad _) rfl rfl rfl rfl (Nat.le_of_ble_eq_true rfl) dX10_plan_257 (fun H locs hG_47 hI => ?_)
      refine g_if_ne (tgt := 286) hx hb dX10_plan_260 (by decide) (by omega) (fun c_48 => ?_) (fun c_48 => ?_)
      · skip
        refine lv_iconst (v := iI 0) hx hb dX10_plan_286 rfl ?_
        refine g_zast hx hb hK hI 47 (by decide) (cel_47 cy ad) (by omega) (by decide) (by omega) (bw_47 (by omega)) dX10_plan_287 (fun H locs hI => ?_)
        have hF_49 : WF (up2 (f_X10_makes (up2 (up2 σ 43 x6.toNat (a2 + (x6 * a3))) 31 ((80 + x6).toNat) a1) x6) 47 x6.toNat 0) := hI.2.2.2
        refine lv_iinc (v := iI (x6 + 1)) (lv' := [(6, .int (iI (x6 + 1))), (0, .ref (ad 28)), (2, .int (iI a1)), (3, .int (iI a2)), (4, .int (iI a3))]) hx hb dX10_plan_288 hl (k := 4) rfl (iI_add _ _) (by decide) rfl (fun ls hl => ?_)
        refine lv_goto (tgt := 208) hx hb dX10_plan_291 (by decide) ?_
        have e9 : L_X10_plan_208 a0 a1 a2 a3 a4 (n + 1) x6 σ = L_X10_plan_208 a0 a1 a2 a3 a4 n (x6 + 1) (up2 (f_X10_makes (up2 (up2 σ 43 x6.toNat (a2 + (x6 * a3))) 31 ((80 + x6).toNat) a1) x6) 47 x6.toNat 0) := by rw [L_X10_plan_208, if_neg c_42, if_neg c_48]
        rw [e9] at hk
        exact ih (x6 + 1) (up2 (f_X10_makes (up2 (up2 σ 43 x6.toNat (a2 + (x6 * a3))) 31 ((80 + x6).toNat) a1) x6) 47 x6.toNat 0) (by omega) (by omega) (by omega) (by first | exact hR4 | exact hR3.of rfl rfl rfl rfl rfl) (by omega) _ _ _ hI (lv_sub hl [1, 2, 3, 4, 0] rfl) hk
      · skip
        refine lv_aload_n hx hb dX10_plan_263 rfl (lv_at hl 0 rfl) ?_
        refine lv_bipush (v := iI 80) hx hb dX10_plan_264 (iI_bip (by decide)) ?_
        refine lv_iload hx hb dX10_plan_266 (lv_at hl 4 rfl) ?_
        refine g_iadd hx hb dX10_plan_268 ?_
        refine lv_aload_n hx hb dX10_plan_269 rfl (lv_at hl 0 rfl) ?_
        refine g_get (C := RX10) (T := TX10) (N := 44) (ci := 9) (v := .ref (ad 42)) hx hb hts in_X10_plan_X10 hown hK hI 28 (by decide) (cel_28 cy ad _) rfl 27 (by decide) (by decide +kernel) rfl dX10_plan_270 ?_
        refine lv_iload hx hb dX10_plan_273 (lv_at hl 4 rfl) ?_
        refine g_iald (v := (f_X10_makes (up2 (up2 σ 43 x6.toNat (a2 + (x6 * a3))) 31 ((80 + x6).toNat) a1) x6) 42 x6.toNat) hx hb hK hI 42 (by decide) (cel_42 cy ad) (by omega) (by decide) rfl dX10_plan_275 ?_
        have b_50 := bd_42 hF_46 x6.toNat
        refine g_V (As := [.int (iI (80 + x6)), .int (iI ((f_X10_makes (up2 (up2 σ 43 x6.toNat (a2 + (x6 * a3))) 31 ((80 + x6).toNat) a1) x6) 42 x6.toNat))]) (rest := [.int (iI x6), .ref (ad 47)]) 28 (c_X10_isJust l D cy ad (f_X10_makes (up2 (up2 σ 43 x6.toNat (a2 + (x6 * a3))) 31 ((80 + x6).toNat) a1) x6) (80 + x6) (by omega) ((f_X10_makes (up2 (up2 σ 43 x6.toNat (a2 + (x6 * a3))) 31 ((80 + x6).toNat) a1) x6) 42 x6.toNat) (by omega)) hx hb hml hown hts hK hN hI hl.1 gX10_plan_X10_isJust rfl hd_X10_isJust rfl rfl ⟨Nat.le_of_ble_eq_true rfl, Nat.le_of_ble_eq_true rfl⟩ ⟨Nat.zero_le _, Nat.zero_le _⟩ (by decide) (cel_28 cy ad _) rfl rfl rfl rfl (Nat.le_of_ble_eq_true rfl) dX10_plan_276 (fun H locs hG_51 hI => ?_)
        refine g_if_eq (tgt := 286) hx hb dX10_plan_279 (by decide) (by omega) (fun c_52 => ?_) (fun c_52 => ?_)
        · skip
          refine lv_iconst (v := iI 0) hx hb dX10_plan_286 rfl ?_
          refine g_zast hx hb hK hI 47 (by decide) (cel_47 cy ad) (by omega) (by decide) (by omega) (bw_47 (by omega)) dX10_plan_287 (fun H locs hI => ?_)
          have hF_53 : WF (up2 (f_X10_makes (up2 (up2 σ 43 x6.toNat (a2 + (x6 * a3))) 31 ((80 + x6).toNat) a1) x6) 47 x6.toNat 0) := hI.2.2.2
          refine lv_iinc (v := iI (x6 + 1)) (lv' := [(6, .int (iI (x6 + 1))), (0, .ref (ad 28)), (2, .int (iI a1)), (3, .int (iI a2)), (4, .int (iI a3))]) hx hb dX10_plan_288 hl (k := 4) rfl (iI_add _ _) (by decide) rfl (fun ls hl => ?_)
          refine lv_goto (tgt := 208) hx hb dX10_plan_291 (by decide) ?_
          have e9 : L_X10_plan_208 a0 a1 a2 a3 a4 (n + 1) x6 σ = L_X10_plan_208 a0 a1 a2 a3 a4 n (x6 + 1) (up2 (f_X10_makes (up2 (up2 σ 43 x6.toNat (a2 + (x6 * a3))) 31 ((80 + x6).toNat) a1) x6) 47 x6.toNat 0) := by rw [L_X10_plan_208, if_neg c_42, if_pos c_48, if_pos c_52]
          rw [e9] at hk
          exact ih (x6 + 1) (up2 (f_X10_makes (up2 (up2 σ 43 x6.toNat (a2 + (x6 * a3))) 31 ((80 + x6).toNat) a1) x6) 47 x6.toNat 0) (by omega) (by omega) (by omega) (by first | exact hR4 | exact hR3.of rfl rfl rfl rfl rfl) (by omega) _ _ _ hI (lv_sub hl [1, 2, 3, 4, 0] rfl) hk
        · skip
          refine lv_iconst (v := iI 1) hx hb dX10_plan_282 rfl ?_
          refine lv_goto (tgt := 287) hx hb dX10_plan_283 (by decide) ?_
          refine g_zast hx hb hK hI 47 (by decide) (cel_47 cy ad) (by omega) (by decide) (by omega) (bw_47 (by omega)) dX10_plan_287 (fun H locs hI => ?_)
          have hF_54 : WF (up2 (f_X10_makes (up2 (up2 σ 43 x6.toNat (a2 + (x6 * a3))) 31 ((80 + x6).toNat) a1) x6) 47 x6.toNat 1) := hI.2.2.2
          refine lv_iinc (v := iI (x6 + 1)) (lv' := [(6, .int (iI (x6 + 1))), (0, .ref (ad 28)), (2, .int (iI a1)), (3, .int (iI a2)), (4, .int (iI a3))]) hx hb dX10_plan_288 hl (k := 4) rfl (iI_add _ _) (by decide) rfl (fun ls hl => ?_)
          refine lv_goto (tgt := 208) hx hb dX10_plan_291 (by decide) ?_
          have e9 : L_X10_plan_208 a0 a1 a2 a3 a4 (n + 1) x6 σ = L_X10_plan_208 a0 a1 a2 a3 a4 n (x6 + 1) (up2 (f_X10_makes (up2 (up2 σ 43 x6.toNat (a2 + (x6 * a3))) 31 ((80 + x6).toNat) a1) x6) 47 x6.toNat 1) := by rw [L_X10_plan_208, if_neg c_42, if_pos c_48, if_neg c_52]
          rw [e9] at hk
          exact ih (x6 + 1) (up2 (f_X10_makes (up2 (up2 σ 43 x6.toNat (a2 + (x6 * a3))) 31 ((80 + x6).toNat) a1) x6) 47 x6.toNat 1) (by omega) (by omega) (by omega) (by first | exact hR4 | exact hR3.of rfl rfl rfl rfl rfl) (by omega) _ _ _ hI (lv_sub hl [1, 2, 3, 4, 0] rfl) hk
def L_X10_plan_297 (a0 : Int) (a1 : Int) (a2 : Int) (a3 : Int) (a4 : Int) : Nat → Int → Sg → Sg
  | 0, x6, σ => (σ)
  | n + 1, x6, σ => (if (σ 28 26) ≤ x6 then σ else L_X10_plan_297 a0 a1 a2 a3 a4 n (x6 + 1) (f_X10_findTrouble σ x6))
set_option maxHeartbeats 4000000 in
set_option maxRecDepth 100000 in
theorem w_L_X10_plan_297 {p : Program} {l : Launch} {e : Env} {s : State} {m : MethodId} {args : Array Value} {below : List Frame} {meth : Method} {c₀ : Code} {D : va_G} {cy : Nat → ClassId} {ad : Nat → Nat} {Q : State → Prop} (X : MX p s m args meth c₀ cX10_plan 8 RX10 (some .int) wsX10_plan D cy) (a0 : Int) (ha0 : (-2147483648 ≤ a0 ∧ a0 < 2147483648)) (a1 : Int) (ha1 : (-2147483648 ≤ a1 ∧ a1 < 2147483648)) (a2 : Int) (ha2 : (-2147483648 ≤ a2 ∧ a2 < 2147483648)) (a3 : Int) (ha3 : (-2147483648 ≤ a3 ∧ a3 < 2147483648)) (a4 : Int) (ha4 : (0 : Int) ≤ a4 ∧ a4 ≤ 1) : ∀ (n : Nat) (x6 : Int) (σ : Sg) (hx6 : (0 : Int) ≤ x6 ∧ x6 ≤ 40) (hmu : 40 - x6 < (n : Int)) (H : Heap) (locs : List Loc) (ls : Array Slot) (hI : HI D cy ad s σ H locs) (hl : lv_has ls 8 [(0, .ref (ad 28)), (6, .int (iI x6))])  (hk : ∀ (H1 : Heap) (locs1 : List Loc) (ls1 : Array Slot), True → HI D cy ad s (L_X10_plan_297 a0 a1 a2 a3 a4 n x6 σ) H1 locs1 → lv_has ls1 8 [(0, .ref (ad 28))] → W p l e { frames := 28, cells := 0, slots := 0, locals := 1120 } s m args below meth c₀ H1 locs1 0 0 Q (F0 m 318 ls1 [])), W p l e { frames := 28, cells := 0, slots := 0, locals := 1120 } s m args below meth c₀ H locs 0 0 Q (F0 m 297 ls []) := by
  obtain ⟨hx, hb, hr, hml, hown, hts, hlocks, hK, hN⟩ := id X
  intro n
  induction n with
  | zero =>
    intro x6 σ hx6 hmu H locs ls hI hl hk
    exfalso
    have hF := hI.2.2.2
    omega
  | succ n ih =>
    intro x6 σ hx6 hmu H locs ls hI hl hk
    have hF := hI.2.2.2
    refine lv_iload hx hb dX10_plan_297 (lv_at hl 1 rfl) ?_
    refine lv_aload_n hx hb dX10_plan_299 rfl (lv_at hl 0 rfl) ?_
    refine g_get (C := RX10) (T := TX10) (N := 44) (ci := 9) (v := .int (iI (σ 28 26))) hx hb hts in_X10_plan_X10 hown hK hI 28 (by decide) (cel_28 cy ad _) rfl 26 (by decide) (by decide +kernel) rfl dX10_plan_300 ?_
    have b_57 := bd_28_26 hF
    refine g_icmp_ge (tgt := 318) hx hb dX10_plan_303 (by decide) (by omega) (by omega) (fun c_58 => ?_) (fun c_58 => ?_)
    · skip
      have e9 : L_X10_plan_297 a0 a1 a2 a3 a4 (n + 1) x6 σ = σ := by rw [L_X10_plan_297, if_pos c_58]
      rw [e9] at hk
      exact hk _ _ _ trivial hI (lv_sub hl [0] rfl)
    · skip
      refine lv_aload_n hx hb dX10_plan_306 rfl (lv_at hl 0 rfl) ?_
      refine lv_iload hx hb dX10_plan_307 (lv_at hl 1 rfl) ?_
      refine g_V (As := [.int (iI x6)]) (rest := []) 28 (c_X10_findTrouble l D cy ad σ x6 (by omega)) hx hb hml hown hts hK hN hI hl.1 gX10_plan_X10_findTrouble rfl hd_X10_findTrouble rfl rfl ⟨Nat.le_of_ble_eq_true rfl, Nat.le_of_ble_eq_true rfl⟩ ⟨Nat.zero_le _, Nat.zero_le _⟩ (by decide) (cel_28 cy ad _) rfl rfl rfl rfl (Nat.le_of_ble_eq_true rfl) dX10_plan_309 (fun H locs hG_59 hI => ?_)
      have hF_60 := hI.2.2.2
      refine lv_iinc (v := iI (x6 + 1)) (lv' := [(6, .int (iI (x6 + 1))), (0, .ref (ad 28))]) hx hb dX10_plan_312 hl (k := 1) rfl (iI_add _ _) (by decide) rfl (fun ls hl => ?_)
      refine lv_goto (tgt := 297) hx hb dX10_plan_315 (by decide) ?_
      have e9 : L_X10_plan_297 a0 a1 a2 a3 a4 (n + 1) x6 σ = L_X10_plan_297 a0 a1 a2 a3 a4 n (x6 + 1) (f_X10_findTrouble σ x6) := by rw [L_X10_plan_297, if_neg c_58]
      rw [e9] at hk
      exact ih (x6 + 1) (f_X10_findTrouble σ x6) (by omega) (by omega) _ _ _ hI (lv_sub hl [1, 0] rfl) hk
def f_X10_plan (σ : Sg) (a0 : Int) (a1 : Int) (a2 : Int) (a3 : Int) (a4 : Int) : Int × Sg := (if (f_X10_within a0 0 5) = 0 then ((-1), (up2 σ 28 0 0)) else (if (f_X10_within a1 0 5) = 0 then ((-1), (up2 σ 28 0 0)) else (if (f_X10_within a2 0 999) = 0 then ((-1), (up2 σ 28 0 0)) else (if (f_X10_within a3 1 99) = 0 then ((-1), (up2 σ 28 0 0)) else (if (σ 28 10) = 0 then ((-1), (up2 σ 28 0 0)) else (if (f_X10_isUnderWay (up2 σ 28 0 0)) = 0 then ((f_X10_findSteps (L_X10_plan_297 a0 a1 a2 a3 a4 41 0 (L_X10_plan_208 a0 a1 a2 a3 a4 41 0 (L_X10_plan_82 a0 a1 a2 a3 a4 41 0 (up2 (up2 (up2 (up2 σ 28 0 0) 28 25 1) 28 26 0) 28 34 0))))) 28 26, (f_X10_findSteps (L_X10_plan_297 a0 a1 a2 a3 a4 41 0 (L_X10_plan_208 a0 a1 a2 a3 a4 41 0 (L_X10_plan_82 a0 a1 a2 a3 a4 41 0 (up2 (up2 (up2 (up2 σ 28 0 0) 28 25 1) 28 26 0) 28 34 0)))))) else ((-2), (up2 σ 28 0 0))))))))
theorem hd_X10_plan : yX10_plan.cls = RX10 ∧ yX10_plan.cls ≠ "java/lang/invoke/MethodHandle" ∧ yX10_plan.cls ≠ "java/lang/invoke/VarHandle" ∧ (parseMethodDescriptor yX10_plan.desc).map (fun d => d.parameters.length) = some 5 := by decide +kernel
set_option maxHeartbeats 4000000 in
set_option maxRecDepth 100000 in
theorem c_X10_plan (l : Launch) (D : va_G) (cy : Nat → ClassId) (ad : Nat → Nat) (σ : Sg) (a0 : Int) (ha0 : (-2147483648 ≤ a0 ∧ a0 < 2147483648)) (a1 : Int) (ha1 : (-2147483648 ≤ a1 ∧ a1 < 2147483648)) (a2 : Int) (ha2 : (-2147483648 ≤ a2 ∧ a2 < 2147483648)) (a3 : Int) (ha3 : (-2147483648 ≤ a3 ∧ a3 < 2147483648)) (a4 : Int) (ha4 : (0 : Int) ≤ a4 ∧ a4 ≤ 1) (hR : RuleOK σ) : CM l D cy ad yX10_plan wsX10_plan { frames := 28, cells := 0, slots := 0, locals := 1120 } [.ref (ad 28), .int (iI a0), .int (iI a1), .int (iI a2), .int (iI a3), .int (iI a4)] σ (some (.int (iI ((f_X10_plan σ a0 a1 a2 a3 a4).1)))) ((f_X10_plan σ a0 a1 a2 a3 a4).2) (True) := by
  refine CM.of (cc := cX10_plan) (maxL := 8) (ret := (some .int)) (by decide) rfl (Nat.le_of_ble_eq_true rfl) ?_
  intro p e s m args below meth c₀ ls X hI hl
  have hl : lv_has ls 8 [(0, .ref (ad 28)), (1, .int (iI a0)), (2, .int (iI a1)), (3, .int (iI a2)), (4, .int (iI a3)), (5, .int (iI a4))] := hl
  obtain ⟨hx, hb, hr, hml, hown, hts, hlocks, hK, hN⟩ := id X
  have hF := hI.2.2.2
  refine lv_aload_n hx hb dX10_plan_0 rfl (lv_at hl 0 rfl) ?_
  refine lv_iconst (v := iI 0) hx hb dX10_plan_1 rfl ?_
  refine g_put (C := RX10) (T := TX10) (N := 44) (ci := 9) (ty := .int) (z := 0) hx hb hts in_X10_plan_X10 tyX10 tyX10_ok nmX10 hown hK hI 28 (by decide) (cel_28 cy ad) rfl 0 (by decide) (by decide +kernel) rfl (by decide +kernel) rfl rfl (Nat.le_of_ble_eq_true rfl) rfl (bw_28_0 (by omega)) dX10_plan_2 (fun H locs hI => ?_)
  have hF_1 := hI.2.2.2
  refine lv_iload_n hx hb dX10_plan_5 rfl (lv_at hl 1 rfl) ?_
  refine lv_iconst (v := iI 0) hx hb dX10_plan_6 rfl ?_
  refine lv_iconst (v := iI 5) hx hb dX10_plan_7 rfl ?_
  refine g_S (As := [.int (iI a0), .int (iI 0), .int (iI 5)]) (rest := []) (c_X10_within l D cy ad (up2 σ 28 0 0) a0 (by omega) 0 (by omega) 5 (by omega)) hx hb hml hown hts hK hN hI hl.1 gX10_plan_X10_within rfl hd_X10_within rfl rfl ⟨Nat.le_of_ble_eq_true rfl, Nat.le_of_ble_eq_true rfl⟩ ⟨Nat.zero_le _, Nat.zero_le _⟩ rfl rfl (Nat.le_of_ble_eq_true rfl) dX10_plan_8 (fun H locs hG_2 hI => ?_)
  refine g_if_eq (tgt := 52) hx hb dX10_plan_11 (by decide) (by omega) (fun c_3 => ?_) (fun c_3 => ?_)
  · skip
    refine lv_iconst (v := iI (-1)) hx hb dX10_plan_52 rfl ?_
    have e9 : f_X10_plan σ a0 a1 a2 a3 a4 = ((-1), (up2 σ 28 0 0)) := by rw [f_X10_plan, if_pos c_3]
    exact g_iret (z := (-1)) hx hb hr hK hN hlocks hI (by rw [e9]) (by rw [e9]) trivial dX10_plan_53
  · skip
    refine lv_iload_n hx hb dX10_plan_14 rfl (lv_at hl 2 rfl) ?_
    refine lv_iconst (v := iI 0) hx hb dX10_plan_15 rfl ?_
    refine lv_iconst (v := iI 5) hx hb dX10_plan_16 rfl ?_
    refine g_S (As := [.int (iI a1), .int (iI 0), .int (iI 5)]) (rest := []) (c_X10_within l D cy ad (up2 σ 28 0 0) a1 (by omega) 0 (by omega) 5 (by omega)) hx hb hml hown hts hK hN hI hl.1 gX10_plan_X10_within rfl hd_X10_within rfl rfl ⟨Nat.le_of_ble_eq_true rfl, Nat.le_of_ble_eq_true rfl⟩ ⟨Nat.zero_le _, Nat.zero_le _⟩ rfl rfl (Nat.le_of_ble_eq_true rfl) dX10_plan_17 (fun H locs hG_4 hI => ?_)
    refine g_if_eq (tgt := 52) hx hb dX10_plan_20 (by decide) (by omega) (fun c_5 => ?_) (fun c_5 => ?_)
    · skip
      refine lv_iconst (v := iI (-1)) hx hb dX10_plan_52 rfl ?_
      have e9 : f_X10_plan σ a0 a1 a2 a3 a4 = ((-1), (up2 σ 28 0 0)) := by rw [f_X10_plan, if_neg c_3, if_pos c_5]
      exact g_iret (z := (-1)) hx hb hr hK hN hlocks hI (by rw [e9]) (by rw [e9]) trivial dX10_plan_53
    · skip
      refine lv_iload_n hx hb dX10_plan_23 rfl (lv_at hl 3 rfl) ?_
      refine lv_iconst (v := iI 0) hx hb dX10_plan_24 rfl ?_
      refine lv_sipush (v := iI 999) hx hb dX10_plan_25 (iI_sip (by decide)) ?_
      refine g_S (As := [.int (iI a2), .int (iI 0), .int (iI 999)]) (rest := []) (c_X10_within l D cy ad (up2 σ 28 0 0) a2 (by omega) 0 (by omega) 999 (by omega)) hx hb hml hown hts hK hN hI hl.1 gX10_plan_X10_within rfl hd_X10_within rfl rfl ⟨Nat.le_of_ble_eq_true rfl, Nat.le_of_ble_eq_true rfl⟩ ⟨Nat.zero_le _, Nat.zero_le _⟩ rfl rfl (Nat.le_of_ble_eq_true rfl) dX10_plan_28 (fun H locs hG_6 hI => ?_)
      refine g_if_eq (tgt := 52) hx hb dX10_plan_31 (by decide) (by omega) (fun c_7 => ?_) (fun c_7 => ?_)
      · skip
        refine lv_iconst (v := iI (-1)) hx hb dX10_plan_52 rfl ?_
        have e9 : f_X10_plan σ a0 a1 a2 a3 a4 = ((-1), (up2 σ 28 0 0)) := by rw [f_X10_plan, if_neg c_3, if_neg c_5, if_pos c_7]
        exact g_iret (z := (-1)) hx hb hr hK hN hlocks hI (by rw [e9]) (by rw [e9]) trivial dX10_plan_53
      · skip
        refine lv_iload hx hb dX10_plan_34 (lv_at hl 4 rfl) ?_
        refine lv_iconst (v := iI 1) hx hb dX10_plan_36 rfl ?_
        refine lv_bipush (v := iI 99) hx hb dX10_plan_37 (iI_bip (by decide)) ?_
        refine g_S (As := [.int (iI a3), .int (iI 1), .int (iI 99)]) (rest := []) (c_X10_within l D cy ad (up2 σ 28 0 0) a3 (by omega) 1 (by omega) 99 (by omega)) hx hb hml hown hts hK hN hI hl.1 gX10_plan_X10_within rfl hd_X10_within rfl rfl ⟨Nat.le_of_ble_eq_true rfl, Nat.le_of_ble_eq_true rfl⟩ ⟨Nat.zero_le _, Nat.zero_le _⟩ rfl rfl (Nat.le_of_ble_eq_true rfl) dX10_plan_39 (fun H locs hG_8 hI => ?_)
        refine g_if_eq (tgt := 52) hx hb dX10_plan_42 (by decide) (by omega) (fun c_9 => ?_) (fun c_9 => ?_)
        · skip
          refine lv_iconst (v := iI (-1)) hx hb dX10_plan_52 rfl ?_
          have e9 : f_X10_plan σ a0 a1 a2 a3 a4 = ((-1), (up2 σ 28 0 0)) := by rw [f_X10_plan, if_neg c_3, if_neg c_5, if_neg c_7, if_pos c_9]
          exact g_iret (z := (-1)) hx hb hr hK hN hlocks hI (by rw [e9]) (by rw [e9]) trivial dX10_plan_53
        · skip
          refine lv_aload_n hx hb dX10_plan_45 rfl (lv_at hl 0 rfl) ?_
          refine g_get (C := RX10) (T := TX10) (N := 44) (ci := 9) (v := .int (iI (σ 28 10))) hx hb hts in_X10_plan_X10 hown hK hI 28 (by decide) (cel_28 cy ad _) rfl 10 (by decide) (by decide +kernel) (by show some (Value.int (iI ((up2 σ 28 0 0) 28 10))) = _; rw [up2_slot _ _ (by decide)]) dX10_plan_46 ?_
          have b_10 := bd_28_10 hF
          refine g_if_ne (tgt := 54) hx hb dX10_plan_49 (by decide) (by omega) (fun c_11 => ?_) (fun c_11 => ?_)
          · skip
            refine lv_aload_n hx hb dX10_plan_54 rfl (lv_at hl 0 rfl) ?_
            refine g_V (As := []) (rest := []) 28 (c_X10_isUnderWay l D cy ad (up2 σ 28 0 0) ) hx hb hml hown hts hK hN hI hl.1 gX10_plan_X10_isUnderWay rfl hd_X10_isUnderWay rfl rfl ⟨Nat.le_of_ble_eq_true rfl, Nat.le_of_ble_eq_true rfl⟩ ⟨Nat.zero_le _, Nat.zero_le _⟩ (by decide) (cel_28 cy ad _) rfl rfl rfl rfl (Nat.le_of_ble_eq_true rfl) dX10_plan_55 (fun H locs hG_12 hI => ?_)
            refine g_if_eq (tgt := 64) hx hb dX10_plan_58 (by decide) (by omega) (fun c_13 => ?_) (fun c_13 => ?_)
            · skip
              refine lv_aload_n hx hb dX10_plan_64 rfl (lv_at hl 0 rfl) ?_
              refine lv_iconst (v := iI 1) hx hb dX10_plan_65 rfl ?_
              refine g_put (C := RX10) (T := TX10) (N := 44) (ci := 9) (ty := .boolean) (z := 1) hx hb hts in_X10_plan_X10 tyX10 tyX10_ok nmX10 hown hK hI 28 (by decide) (cel_28 cy ad) rfl 25 (by decide) (by decide +kernel) rfl (by decide +kernel) (iI_nz (by omega)) (iI_fz (by omega)) (Nat.le_of_ble_eq_true rfl) rfl (bw_28_25 (by omega)) dX10_plan_66 (fun H locs hI => ?_)
              have hF_14 := hI.2.2.2
              refine lv_aload_n hx hb dX10_plan_69 rfl (lv_at hl 0 rfl) ?_
              refine lv_iconst (v := iI 0) hx hb dX10_plan_70 rfl ?_
              refine g_put (C := RX10) (T := TX10) (N := 44) (ci := 9) (ty := .int) (z := 0) hx hb hts in_X10_plan_X10 tyX10 tyX10_ok nmX10 hown hK hI 28 (by decide) (cel_28 cy ad) rfl 26 (by decide) (by decide +kernel) rfl (by decide +kernel) rfl rfl (Nat.le_of_ble_eq_true rfl) rfl (bw_28_26 (by omega)) dX10_plan_71 (fun H locs hI => ?_)
              have hF_15 := hI.2.2.2
              refine lv_aload_n hx hb dX10_plan_74 rfl (lv_at hl 0 rfl) ?_
              refine lv_iconst (v := iI 0) hx hb dX10_plan_75 rfl ?_
              refine g_put (C := RX10) (T := TX10) (N := 44) (ci := 9) (ty := .int) (z := 0) hx hb hts in_X10_plan_X10 tyX10 tyX10_ok nmX10 hown hK hI 28 (by decide) (cel_28 cy ad) rfl 34 (by decide) (by decide +kernel) rfl (by decide +kernel) rfl rfl (Nat.le_of_ble_eq_true rfl) rfl (bw_28_34 (by omega)) dX10_plan_76 (fun H locs hI => ?_)
              have hF_16 := hI.2.2.2
              have hR1 : RuleOK (up2 (up2 (up2 (up2 σ 28 0 0) 28 25 1) 28 26 0) 28 34 0) := hR.of rfl rfl rfl rfl rfl
              refine lv_iconst (v := iI 0) hx hb dX10_plan_79 rfl ?_
              refine lv_istore (lv' := [(6, .int (iI 0)), (0, .ref (ad 28)), (1, .int (iI a0)), (2, .int (iI a1)), (3, .int (iI a2)), (4, .int (iI a3)), (5, .int (iI a4))]) hx hb dX10_plan_80 hl (by decide) rfl (fun ls hl => ?_)
              refine w_L_X10_plan_82 X  a0 ha0 a1 ha1 a2 ha2 a3 ha3 a4 ha4  41 0 (up2 (up2 (up2 (up2 σ 28 0 0) 28 25 1) 28 26 0) 28 34 0) (by omega) (by first | omega | (simp [up2_at] <;> omega)) (by first | exact hp1 | exact hR1 | exact hR2 | exact hq1.of rfl rfl rfl rfl rfl) (by omega) _ _ _ hI (lv_sub hl [1, 2, 3, 4, 5, 6, 0] rfl) (fun H locs ls hpo_40 hI hl => ?_)
              have hF_39 := hI.2.2.2
              have hR4 := hpo_40
              refine lv_iconst (v := iI 0) hx hb dX10_plan_205 rfl ?_
              refine lv_istore (lv' := [(6, .int (iI 0)), (0, .ref (ad 28)), (2, .int (iI a1)), (3, .int (iI a2)), (4, .int (iI a3))]) hx hb dX10_plan_206 hl (by decide) rfl (fun ls hl => ?_)
              refine w_L_X10_plan_208 X  a0 ha0 a1 ha1 a2 ha2 a3 ha3 a4 ha4  41 0 (L_X10_plan_82 a0 a1 a2 a3 a4 41 0 (up2 (up2 (up2 (up2 σ 28 0 0) 28 25 1) 28 26 0) 28 34 0)) (by omega) (by omega) (by omega) (by first | exact hR4 | exact hR3.of rfl rfl rfl rfl rfl) (by omega) _ _ _ hI (lv_sub hl [1, 2, 3, 4, 0] rfl) (fun H locs ls hpo_56 hI hl => ?_)
              have hF_55 := hI.2.2.2
              refine lv_iconst (v := iI 0) hx hb dX10_plan_294 rfl ?_
              refine lv_istore (lv' := [(6, .int (iI 0)), (0, .ref (ad 28))]) hx hb dX10_plan_295 hl (by decide) rfl (fun ls hl => ?_)
              refine w_L_X10_plan_297 X  a0 ha0 a1 ha1 a2 ha2 a3 ha3 a4 ha4  41 0 (L_X10_plan_208 a0 a1 a2 a3 a4 41 0 (L_X10_plan_82 a0 a1 a2 a3 a4 41 0 (up2 (up2 (up2 (up2 σ 28 0 0) 28 25 1) 28 26 0) 28 34 0))) (by omega) (by omega) _ _ _ hI (lv_sub hl [1, 0] rfl) (fun H locs ls hpo_62 hI hl => ?_)
              have hF_61 := hI.2.2.2
              refine lv_aload_n hx hb dX10_plan_318 rfl (lv_at hl 0 rfl) ?_
              refine g_V (As := []) (rest := []) 28 (c_X10_findSteps l D cy ad (L_X10_plan_297 a0 a1 a2 a3 a4 41 0 (L_X10_plan_208 a0 a1 a2 a3 a4 41 0 (L_X10_plan_82 a0 a1 a2 a3 a4 41 0 (up2 (up2 (up2 (up2 σ 28 0 0) 28 25 1) 28 26 0) 28 34 0)))) ) hx hb hml hown hts hK hN hI hl.1 gX10_plan_X10_findSteps rfl hd_X10_findSteps rfl rfl ⟨Nat.le_of_ble_eq_true rfl, Nat.le_of_ble_eq_true rfl⟩ ⟨Nat.zero_le _, Nat.zero_le _⟩ (by decide) (cel_28 cy ad _) rfl rfl rfl rfl (Nat.le_of_ble_eq_true rfl) dX10_plan_319 (fun H locs hG_63 hI => ?_)
              have hF_64 := hI.2.2.2
              refine lv_aload_n hx hb dX10_plan_322 rfl (lv_at hl 0 rfl) ?_
              refine g_get (C := RX10) (T := TX10) (N := 44) (ci := 9) (v := .int (iI ((f_X10_findSteps (L_X10_plan_297 a0 a1 a2 a3 a4 41 0 (L_X10_plan_208 a0 a1 a2 a3 a4 41 0 (L_X10_plan_82 a0 a1 a2 a3 a4 41 0 (up2 (up2 (up2 (up2 σ 28 0 0) 28 25 1) 28 26 0) 28 34 0))))) 28 26))) hx hb hts in_X10_plan_X10 hown hK hI 28 (by decide) (cel_28 cy ad _) rfl 26 (by decide) (by decide +kernel) rfl dX10_plan_323 ?_
              have b_65 := bd_28_26 hF_64
              have e9 : f_X10_plan σ a0 a1 a2 a3 a4 = ((f_X10_findSteps (L_X10_plan_297 a0 a1 a2 a3 a4 41 0 (L_X10_plan_208 a0 a1 a2 a3 a4 41 0 (L_X10_plan_82 a0 a1 a2 a3 a4 41 0 (up2 (up2 (up2 (up2 σ 28 0 0) 28 25 1) 28 26 0) 28 34 0))))) 28 26, (f_X10_findSteps (L_X10_plan_297 a0 a1 a2 a3 a4 41 0 (L_X10_plan_208 a0 a1 a2 a3 a4 41 0 (L_X10_plan_82 a0 a1 a2 a3 a4 41 0 (up2 (up2 (up2 (up2 σ 28 0 0) 28 25 1) 28 26 0) 28 34 0)))))) := by rw [f_X10_plan, if_neg c_3, if_neg c_5, if_neg c_7, if_neg c_9, if_neg c_11, if_pos c_13]
              exact g_iret (z := (f_X10_findSteps (L_X10_plan_297 a0 a1 a2 a3 a4 41 0 (L_X10_plan_208 a0 a1 a2 a3 a4 41 0 (L_X10_plan_82 a0 a1 a2 a3 a4 41 0 (up2 (up2 (up2 (up2 σ 28 0 0) 28 25 1) 28 26 0) 28 34 0))))) 28 26) hx hb hr hK hN hlocks hI (by rw [e9]) (by rw [e9]) trivial dX10_plan_326
            · skip
              refine lv_bipush (v := iI (-2)) hx hb dX10_plan_61 (iI_bip (by decide)) ?_
              have e9 : f_X10_plan σ a0 a1 a2 a3 a4 = ((-2), (up2 σ 28 0 0)) := by rw [f_X10_plan, if_neg c_3, if_neg c_5, if_neg c_7, if_neg c_9, if_neg c_11, if_neg c_13]
              exact g_iret (z := (-2)) hx hb hr hK hN hlocks hI (by rw [e9]) (by rw [e9]) trivial dX10_plan_63
          · skip
            refine lv_iconst (v := iI (-1)) hx hb dX10_plan_52 rfl ?_
            have e9 : f_X10_plan σ a0 a1 a2 a3 a4 = ((-1), (up2 σ 28 0 0)) := by rw [f_X10_plan, if_neg c_3, if_neg c_5, if_neg c_7, if_neg c_9, if_pos c_11]
            exact g_iret (z := (-1)) hx hb hr hK hN hlocks hI (by rw [e9]) (by rw [e9]) trivial dX10_plan_53
