theorem in_X10_findSteps_X10 : ∀ w ∈ u_ws RX10 TX10 44, w ∈ wsX10_findSteps := by decide +kernel
def L_X10_findSteps_7 : Nat → Int → Sg → Sg
  | 0, x1, σ => (σ)
  | n + 1, x1, σ => (if 40 ≤ x1 then σ else L_X10_findSteps_7 n (x1 + 1) (up2 (up2 σ 54 x1.toNat 0) 55 x1.toNat 0))
set_option maxHeartbeats 4000000 in
set_option maxRecDepth 100000 in
theorem w_L_X10_findSteps_7 {p : Program} {l : Launch} {e : Env} {s : State} {m : MethodId} {args : Array Value} {below : List Frame} {meth : Method} {c₀ : Code} {D : va_G} {cy : Nat → ClassId} {ad : Nat → Nat} {Q : State → Prop} (X : MX p s m args meth c₀ cX10_findSteps 4 RX10 none wsX10_findSteps D cy) : ∀ (n : Nat) (x1 : Int) (σ : Sg) (hx1 : (0 : Int) ≤ x1 ∧ x1 ≤ 40) (hp0 : σ 28 33 = 0) (hp1 : ∀ i : Nat, (i : Int) < x1 → σ 54 i = 0 ∧ σ 55 i = 0) (hmu : 40 - x1 < (n : Int)) (H : Heap) (locs : List Loc) (ls : Array Slot) (hI : HI D cy ad s σ H locs) (hl : lv_has ls 4 [(0, .ref (ad 28)), (1, .int (iI x1))])  (hk : ∀ (H1 : Heap) (locs1 : List Loc) (ls1 : Array Slot), ((L_X10_findSteps_7 n x1 σ) 28 33 = 0 ∧ ∀ i : Nat, i < 40 → (L_X10_findSteps_7 n x1 σ) 54 i = 0 ∧ (L_X10_findSteps_7 n x1 σ) 55 i = 0) → HI D cy ad s (L_X10_findSteps_7 n x1 σ) H1 locs1 → lv_has ls1 4 [(0, .ref (ad 28))] → W p l e { frames := 4, cells := 0, slots := 0, locals := 160 } s m args below meth c₀ H1 locs1 0 0 Q (F0 m 33 ls1 [])), W p l e { frames := 4, cells := 0, slots := 0, locals := 160 } s m args below meth c₀ H locs 0 0 Q (F0 m 7 ls []) := by
  obtain ⟨hx, hb, hr, hml, hown, hts, hlocks, hK, hN⟩ := id X
  intro n
  induction n with
  | zero =>
    intro x1 σ hx1 hp0 hp1 hmu H locs ls hI hl hk
    exfalso
    have hF := hI.2.2.2
    omega
  | succ n ih =>
    intro x1 σ hx1 hp0 hp1 hmu H locs ls hI hl hk
    have hF := hI.2.2.2
    refine lv_iload_n hx hb dX10_findSteps_7 rfl (lv_at hl 1 rfl) ?_
    refine lv_bipush (v := iI 40) hx hb dX10_findSteps_8 (iI_bip (by decide)) ?_
    refine g_icmp_ge (tgt := 33) hx hb dX10_findSteps_10 (by decide) (by omega) (by omega) (fun c_2 => ?_) (fun c_2 => ?_)
    · skip
      have e9 : L_X10_findSteps_7 (n + 1) x1 σ = σ := by rw [L_X10_findSteps_7, if_pos c_2]
      rw [e9] at hk
      exact hk _ _ _ (by first | (exact ⟨by omega, fun i hi => hp1 i (by omega)⟩) | (dsimp only; exact ⟨by omega, fun i hi => hp1 i (by omega)⟩)) hI (lv_sub hl [0] rfl)
    · skip
      refine lv_aload_n hx hb dX10_findSteps_13 rfl (lv_at hl 0 rfl) ?_
      refine g_get (C := RX10) (T := TX10) (N := 44) (ci := 9) (v := .ref (ad 54)) hx hb hts in_X10_findSteps_X10 hown hK hI 28 (by decide) (cel_28 cy ad _) rfl 42 (by decide) (by decide +kernel) rfl dX10_findSteps_14 ?_
      refine lv_iload_n hx hb dX10_findSteps_17 rfl (lv_at hl 1 rfl) ?_
      refine lv_iconst (v := iI 0) hx hb dX10_findSteps_18 rfl ?_
      refine g_zast hx hb hK hI 54 (by decide) (cel_54 cy ad) (by omega) (by decide) (by omega) (bw_54 (by omega)) dX10_findSteps_19 (fun H locs hI => ?_)
      have hF_3 : WF (up2 σ 54 x1.toNat 0) := hI.2.2.2
      refine lv_aload_n hx hb dX10_findSteps_20 rfl (lv_at hl 0 rfl) ?_
      refine g_get (C := RX10) (T := TX10) (N := 44) (ci := 9) (v := .ref (ad 55)) hx hb hts in_X10_findSteps_X10 hown hK hI 28 (by decide) (cel_28 cy ad _) rfl 43 (by decide) (by decide +kernel) rfl dX10_findSteps_21 ?_
      refine lv_iload_n hx hb dX10_findSteps_24 rfl (lv_at hl 1 rfl) ?_
      refine lv_iconst (v := iI 0) hx hb dX10_findSteps_25 rfl ?_
      refine g_zast hx hb hK hI 55 (by decide) (cel_55 cy ad) (by omega) (by decide) (by omega) (bw_55 (by omega)) dX10_findSteps_26 (fun H locs hI => ?_)
      have hF_4 : WF (up2 (up2 σ 54 x1.toNat 0) 55 x1.toNat 0) := hI.2.2.2
      refine lv_iinc (v := iI (x1 + 1)) (lv' := [(1, .int (iI (x1 + 1))), (0, .ref (ad 28))]) hx hb dX10_findSteps_27 hl (k := 1) rfl (iI_add _ _) (by decide) rfl (fun ls hl => ?_)
      refine lv_goto (tgt := 7) hx hb dX10_findSteps_30 (by decide) ?_
      have e9 : L_X10_findSteps_7 (n + 1) x1 σ = L_X10_findSteps_7 n (x1 + 1) (up2 (up2 σ 54 x1.toNat 0) 55 x1.toNat 0) := by rw [L_X10_findSteps_7, if_neg c_2]
      rw [e9] at hk
      exact ih (x1 + 1) (up2 (up2 σ 54 x1.toNat 0) 55 x1.toNat 0) (by omega) (by first | omega | (simp [up2_at] <;> omega)) (by first | exact zero_step hp1 (by omega) | (intro i hi; exfalso; omega)) (by omega) _ _ _ hI (lv_sub hl [1, 0] rfl) hk
def L_X10_findSteps_43 : Nat → Int → Sg → Sg
  | 0, x1, σ => (σ)
  | n + 1, x1, σ => (if (σ 28 5) ≤ x1 then σ else L_X10_findSteps_43 n (x1 + 1) (f_X10_copies σ x1 (120 + x1)))
set_option maxHeartbeats 4000000 in
set_option maxRecDepth 100000 in
theorem w_L_X10_findSteps_43 {p : Program} {l : Launch} {e : Env} {s : State} {m : MethodId} {args : Array Value} {below : List Frame} {meth : Method} {c₀ : Code} {D : va_G} {cy : Nat → ClassId} {ad : Nat → Nat} {Q : State → Prop} (X : MX p s m args meth c₀ cX10_findSteps 4 RX10 none wsX10_findSteps D cy) : ∀ (n : Nat) (x1 : Int) (σ : Sg) (hx1 : (0 : Int) ≤ x1 ∧ x1 ≤ 40) (hp0 : σ 28 33 = 0) (hp1 : ∀ i : Nat, i < 40 → σ 54 i = 0 ∧ σ 55 i = 0) (hmu : 40 - x1 < (n : Int)) (H : Heap) (locs : List Loc) (ls : Array Slot) (hI : HI D cy ad s σ H locs) (hl : lv_has ls 4 [(0, .ref (ad 28)), (1, .int (iI x1))])  (hk : ∀ (H1 : Heap) (locs1 : List Loc) (ls1 : Array Slot), ((L_X10_findSteps_43 n x1 σ) 28 33 = 0 ∧ ∀ i : Nat, i < 40 → (L_X10_findSteps_43 n x1 σ) 54 i = 0 ∧ (L_X10_findSteps_43 n x1 σ) 55 i = 0) → HI D cy ad s (L_X10_findSteps_43 n x1 σ) H1 locs1 → lv_has ls1 4 [(0, .ref (ad 28))] → W p l e { frames := 4, cells := 0, slots := 0, locals := 160 } s m args below meth c₀ H1 locs1 0 0 Q (F0 m 66 ls1 [])), W p l e { frames := 4, cells := 0, slots := 0, locals := 160 } s m args below meth c₀ H locs 0 0 Q (F0 m 43 ls []) := by
  obtain ⟨hx, hb, hr, hml, hown, hts, hlocks, hK, hN⟩ := id X
  intro n
  induction n with
  | zero =>
    intro x1 σ hx1 hp0 hp1 hmu H locs ls hI hl hk
    exfalso
    have hF := hI.2.2.2
    omega
  | succ n ih =>
    intro x1 σ hx1 hp0 hp1 hmu H locs ls hI hl hk
    have hF := hI.2.2.2
    refine lv_iload_n hx hb dX10_findSteps_43 rfl (lv_at hl 1 rfl) ?_
    refine lv_aload_n hx hb dX10_findSteps_44 rfl (lv_at hl 0 rfl) ?_
    refine g_get (C := RX10) (T := TX10) (N := 44) (ci := 9) (v := .int (iI (σ 28 5))) hx hb hts in_X10_findSteps_X10 hown hK hI 28 (by decide) (cel_28 cy ad _) rfl 5 (by decide) (by decide +kernel) rfl dX10_findSteps_45 ?_
    have b_9 := bd_28_5 hF
    refine g_icmp_ge (tgt := 66) hx hb dX10_findSteps_48 (by decide) (by omega) (by omega) (fun c_10 => ?_) (fun c_10 => ?_)
    · skip
      have e9 : L_X10_findSteps_43 (n + 1) x1 σ = σ := by rw [L_X10_findSteps_43, if_pos c_10]
      rw [e9] at hk
      exact hk _ _ _ (by first | (exact ⟨hp0, hp1⟩) | (dsimp only; exact ⟨hp0, hp1⟩)) hI (lv_sub hl [0] rfl)
    · skip
      refine lv_aload_n hx hb dX10_findSteps_51 rfl (lv_at hl 0 rfl) ?_
      refine lv_iload_n hx hb dX10_findSteps_52 rfl (lv_at hl 1 rfl) ?_
      refine lv_bipush (v := iI 120) hx hb dX10_findSteps_53 (iI_bip (by decide)) ?_
      refine lv_iload_n hx hb dX10_findSteps_55 rfl (lv_at hl 1 rfl) ?_
      refine g_iadd hx hb dX10_findSteps_56 ?_
      refine g_V (As := [.int (iI x1), .int (iI (120 + x1))]) (rest := []) 28 (c_X10_copies l D cy ad σ x1 (by omega) (120 + x1) (by omega)) hx hb hml hown hts hK hN hI hl.1 gX10_findSteps_X10_copies rfl hd_X10_copies rfl rfl ⟨Nat.le_of_ble_eq_true rfl, Nat.le_of_ble_eq_true rfl⟩ ⟨Nat.zero_le _, Nat.zero_le _⟩ (by decide) (cel_28 cy ad _) rfl rfl rfl rfl (Nat.le_of_ble_eq_true rfl) dX10_findSteps_57 (fun H locs hG_11 hI => ?_)
      have hF_12 := hI.2.2.2
      have q9 : ∀ x, x = 28 ∨ x = 54 ∨ x = 55 → (f_X10_copies σ x1 (120 + x1)) x = σ x := fun x hx => copies_fr _ _ _ (by omega) (by omega) (by omega)
      refine lv_iinc (v := iI (x1 + 1)) (lv' := [(1, .int (iI (x1 + 1))), (0, .ref (ad 28))]) hx hb dX10_findSteps_60 hl (k := 1) rfl (iI_add _ _) (by decide) rfl (fun ls hl => ?_)
      refine lv_goto (tgt := 43) hx hb dX10_findSteps_63 (by decide) ?_
      have e9 : L_X10_findSteps_43 (n + 1) x1 σ = L_X10_findSteps_43 n (x1 + 1) (f_X10_copies σ x1 (120 + x1)) := by rw [L_X10_findSteps_43, if_neg c_10]
      rw [e9] at hk
      exact ih (x1 + 1) (f_X10_copies σ x1 (120 + x1)) (by omega) (by first | exact hz0 | (rw [q9 28 (by omega)]; exact hp0)) (by first | exact hz1 | (intro i hi; rw [q9 54 (by omega), q9 55 (by omega)]; exact hp1 i hi)) (by omega) _ _ _ hI (lv_sub hl [1, 0] rfl) hk
def L_X10_findSteps_68 : Nat → Int → Sg → Sg
  | 0, x1, σ => (σ)
  | n + 1, x1, σ => (if x1 = 0 then σ else (if (f_X10_next σ 0) = (-1) then (if (f_X10_next σ 1) = (-1) then L_X10_findSteps_68 n 0 σ else L_X10_findSteps_68 n 1 (f_X10_writes σ (f_X10_next σ 1) 1)) else L_X10_findSteps_68 n 1 (f_X10_writes σ (f_X10_next σ 0) 0)))
set_option maxHeartbeats 4000000 in
set_option maxRecDepth 100000 in
theorem w_L_X10_findSteps_68 {p : Program} {l : Launch} {e : Env} {s : State} {m : MethodId} {args : Array Value} {below : List Frame} {meth : Method} {c₀ : Code} {D : va_G} {cy : Nat → ClassId} {ad : Nat → Nat} {Q : State → Prop} (X : MX p s m args meth c₀ cX10_findSteps 4 RX10 none wsX10_findSteps D cy) : ∀ (n : Nat) (x1 : Int) (σ : Sg) (hx1 : (0 : Int) ≤ x1 ∧ x1 ≤ 1) (hp0 : σ 28 33 = sm (σ 54) 40 + sm (σ 55) 40) (hmu : 80 - σ 28 33 + x1 < (n : Int)) (H : Heap) (locs : List Loc) (ls : Array Slot) (hI : HI D cy ad s σ H locs) (hl : lv_has ls 4 [(0, .ref (ad 28)), (1, .int (iI x1))])  (hk : ∀ (H1 : Heap) (locs1 : List Loc) (ls1 : Array Slot), True → HI D cy ad s (L_X10_findSteps_68 n x1 σ) H1 locs1 → lv_has ls1 4 [] → W p l e { frames := 4, cells := 0, slots := 0, locals := 160 } s m args below meth c₀ H1 locs1 0 0 Q (F0 m 123 ls1 [])), W p l e { frames := 4, cells := 0, slots := 0, locals := 160 } s m args below meth c₀ H locs 0 0 Q (F0 m 68 ls []) := by
  obtain ⟨hx, hb, hr, hml, hown, hts, hlocks, hK, hN⟩ := id X
  intro n
  induction n with
  | zero =>
    intro x1 σ hx1 hp0 hmu H locs ls hI hl hk
    exfalso
    have hF := hI.2.2.2
    have q := bd_28_33 hF
    omega
  | succ n ih =>
    intro x1 σ hx1 hp0 hmu H locs ls hI hl hk
    have hF := hI.2.2.2
    refine lv_iload_n hx hb dX10_findSteps_68 rfl (lv_at hl 1 rfl) ?_
    refine g_if_eq (tgt := 123) hx hb dX10_findSteps_69 (by decide) (by omega) (fun c_15 => ?_) (fun c_15 => ?_)
    · skip
      have e9 : L_X10_findSteps_68 (n + 1) x1 σ = σ := by rw [L_X10_findSteps_68, if_pos c_15]
      rw [e9] at hk
      exact hk _ _ _ trivial hI (lv_sub hl [] rfl)
    · skip
      refine lv_aload_n hx hb dX10_findSteps_72 rfl (lv_at hl 0 rfl) ?_
      refine lv_iconst (v := iI 0) hx hb dX10_findSteps_73 rfl ?_
      refine g_V (As := [.int (iI 0)]) (rest := []) 28 (c_X10_next l D cy ad σ 0 (by omega)) hx hb hml hown hts hK hN hI hl.1 gX10_findSteps_X10_next rfl hd_X10_next rfl rfl ⟨Nat.le_of_ble_eq_true rfl, Nat.le_of_ble_eq_true rfl⟩ ⟨Nat.zero_le _, Nat.zero_le _⟩ (by decide) (cel_28 cy ad _) rfl rfl rfl rfl (Nat.le_of_ble_eq_true rfl) dX10_findSteps_74 (fun H locs hG_16 hI => ?_)
      refine lv_istore_n (lv' := [(2, .int (iI (f_X10_next σ 0))), (0, .ref (ad 28)), (1, .int (iI x1))]) hx hb dX10_findSteps_77 rfl hl (by decide) rfl (fun ls hl => ?_)
      refine lv_iload_n hx hb dX10_findSteps_78 rfl (lv_at hl 0 rfl) ?_
      refine lv_iconst (v := iI (-1)) hx hb dX10_findSteps_79 rfl ?_
      refine g_icmp_ne (tgt := 87) hx hb dX10_findSteps_80 (by decide) (by omega) (by omega) (fun c_17 => ?_) (fun c_17 => ?_)
      · skip
        refine lv_iconst (v := iI 0) hx hb dX10_findSteps_87 rfl ?_
        refine lv_istore_n (lv' := [(3, .int (iI 0)), (2, .int (iI (f_X10_next σ 0))), (0, .ref (ad 28)), (1, .int (iI x1))]) hx hb dX10_findSteps_88 rfl hl (by decide) rfl (fun ls hl => ?_)
        refine lv_iload_n hx hb dX10_findSteps_89 rfl (lv_at hl 0 rfl) ?_
        refine g_if_eq (tgt := 99) hx hb dX10_findSteps_90 (by decide) (by omega) (fun c_18 => ?_) (fun c_18 => ?_)
        · skip
          refine lv_iload_n hx hb dX10_findSteps_99 rfl (lv_at hl 1 rfl) ?_
          refine lv_iconst (v := iI (-1)) hx hb dX10_findSteps_100 rfl ?_
          refine g_icmp_eq (tgt := 108) hx hb dX10_findSteps_101 (by decide) (by omega) (by omega) (fun c_19 => ?_) (fun c_19 => ?_)
          · exact absurd c_19 c_17
          · skip
            refine lv_iconst (v := iI 1) hx hb dX10_findSteps_104 rfl ?_
            refine lv_goto (tgt := 109) hx hb dX10_findSteps_105 (by decide) ?_
            refine lv_istore_n (lv' := [(1, .int (iI 1)), (3, .int (iI 0)), (2, .int (iI (f_X10_next σ 0))), (0, .ref (ad 28))]) hx hb dX10_findSteps_109 rfl hl (by decide) rfl (fun ls hl => ?_)
            refine lv_iload_n hx hb dX10_findSteps_110 rfl (lv_at hl 0 rfl) ?_
            refine g_if_eq (tgt := 120) hx hb dX10_findSteps_111 (by decide) (by omega) (fun c_20 => ?_) (fun c_20 => ?_)
            · exact absurd c_20 (by decide)
            · skip
              refine lv_aload_n hx hb dX10_findSteps_114 rfl (lv_at hl 3 rfl) ?_
              refine lv_iload_n hx hb dX10_findSteps_115 rfl (lv_at hl 2 rfl) ?_
              refine lv_iload_n hx hb dX10_findSteps_116 rfl (lv_at hl 1 rfl) ?_
              have q5 : σ 28 33 < 80 := by first | exact cnt_lt hF hp0 (i := ((f_X10_next σ 0)).toNat) (by omega) (Or.inl (by omega)) | exact cnt_lt hF hp0 (i := (σ 42 ((f_X10_next σ 0)).toNat).toNat) (by have q := bd_42 hF ((f_X10_next σ 0)).toNat; omega) (Or.inr (by omega))
              refine g_V (As := [.int (iI (f_X10_next σ 0)), .int (iI 0)]) (rest := []) 28 (c_X10_writes l D cy ad σ (f_X10_next σ 0) (by omega) 0 (by omega) (by omega)) hx hb hml hown hts hK hN hI hl.1 gX10_findSteps_X10_writes rfl hd_X10_writes rfl rfl ⟨Nat.le_of_ble_eq_true rfl, Nat.le_of_ble_eq_true rfl⟩ ⟨Nat.zero_le _, Nat.zero_le _⟩ (by decide) (cel_28 cy ad _) rfl rfl rfl rfl (Nat.le_of_ble_eq_true rfl) dX10_findSteps_117 (fun H locs hG_21 hI => ?_)
              have hF_22 := hI.2.2.2
              have q6 : (f_X10_writes σ (f_X10_next σ 0) 0) 28 33 = σ 28 33 + 1 := by first | exact (writes_0 _ _).1 | exact (writes_1 _ _).1
              refine lv_goto (tgt := 68) hx hb dX10_findSteps_120 (by decide) ?_
              have e9 : L_X10_findSteps_68 (n + 1) x1 σ = L_X10_findSteps_68 n 1 (f_X10_writes σ (f_X10_next σ 0) 0) := by rw [L_X10_findSteps_68, if_neg c_15, if_neg c_17]
              rw [e9] at hk
              exact ih 1 (f_X10_writes σ (f_X10_next σ 0) 0) (by omega) (by first | exact hp0 | (rw [sm_zero (fun i hi => (hy1 i hi).1), sm_zero (fun i hi => (hy1 i hi).2), hy0]; rfl) | exact wr_cnt0 hp0 (by omega) (by omega) | exact wr_cnt1 hp0 (by have q := bd_42 hF (f_X10_next σ 1).toNat; omega) (by omega)) (by omega) _ _ _ hI (lv_sub hl [3, 0] rfl) hk
        · exact absurd (by decide) c_18
      · skip
        refine lv_iconst (v := iI 1) hx hb dX10_findSteps_83 rfl ?_
        refine lv_goto (tgt := 88) hx hb dX10_findSteps_84 (by decide) ?_
        refine lv_istore_n (lv' := [(3, .int (iI 1)), (2, .int (iI (f_X10_next σ 0))), (0, .ref (ad 28)), (1, .int (iI x1))]) hx hb dX10_findSteps_88 rfl hl (by decide) rfl (fun ls hl => ?_)
        refine lv_iload_n hx hb dX10_findSteps_89 rfl (lv_at hl 0 rfl) ?_
        refine g_if_eq (tgt := 99) hx hb dX10_findSteps_90 (by decide) (by omega) (fun c_23 => ?_) (fun c_23 => ?_)
        · exact absurd c_23 (by decide)
        · skip
          refine lv_aload_n hx hb dX10_findSteps_93 rfl (lv_at hl 2 rfl) ?_
          refine lv_iconst (v := iI 1) hx hb dX10_findSteps_94 rfl ?_
          refine g_V (As := [.int (iI 1)]) (rest := []) 28 (c_X10_next l D cy ad σ 1 (by omega)) hx hb hml hown hts hK hN hI hl.1 gX10_findSteps_X10_next rfl hd_X10_next rfl rfl ⟨Nat.le_of_ble_eq_true rfl, Nat.le_of_ble_eq_true rfl⟩ ⟨Nat.zero_le _, Nat.zero_le _⟩ (by decide) (cel_28 cy ad _) rfl rfl rfl rfl (Nat.le_of_ble_eq_true rfl) dX10_findSteps_95 (fun H locs hG_24 hI => ?_)
          refine lv_istore_n (lv' := [(2, .int (iI (f_X10_next σ 1))), (3, .int (iI 1)), (0, .ref (ad 28)), (1, .int (iI x1))]) hx hb dX10_findSteps_98 rfl hl (by decide) rfl (fun ls hl => ?_)
          refine lv_iload_n hx hb dX10_findSteps_99 rfl (lv_at hl 0 rfl) ?_
          refine lv_iconst (v := iI (-1)) hx hb dX10_findSteps_100 rfl ?_
          refine g_icmp_eq (tgt := 108) hx hb dX10_findSteps_101 (by decide) (by omega) (by omega) (fun c_25 => ?_) (fun c_25 => ?_)
          · skip
            refine lv_iconst (v := iI 0) hx hb dX10_findSteps_108 rfl ?_
            refine lv_istore_n (lv' := [(1, .int (iI 0)), (2, .int (iI (f_X10_next σ 1))), (3, .int (iI 1)), (0, .ref (ad 28))]) hx hb dX10_findSteps_109 rfl hl (by decide) rfl (fun ls hl => ?_)
            refine lv_iload_n hx hb dX10_findSteps_110 rfl (lv_at hl 0 rfl) ?_
            refine g_if_eq (tgt := 120) hx hb dX10_findSteps_111 (by decide) (by omega) (fun c_26 => ?_) (fun c_26 => ?_)
            · skip
              refine lv_goto (tgt := 68) hx hb dX10_findSteps_120 (by decide) ?_
              have e9 : L_X10_findSteps_68 (n + 1) x1 σ = L_X10_findSteps_68 n 0 σ := by rw [L_X10_findSteps_68, if_neg c_15, if_pos c_17, if_pos c_25]
              rw [e9] at hk
              exact ih 0 σ (by omega) (by first | exact hp0 | (rw [sm_zero (fun i hi => (hy1 i hi).1), sm_zero (fun i hi => (hy1 i hi).2), hy0]; rfl) | exact wr_cnt0 hp0 (by omega) (by omega) | exact wr_cnt1 hp0 (by have q := bd_42 hF (f_X10_next σ 1).toNat; omega) (by omega)) (by omega) _ _ _ hI (lv_sub hl [3, 0] rfl) hk
            · exact absurd (by decide) c_26
          · skip
            refine lv_iconst (v := iI 1) hx hb dX10_findSteps_104 rfl ?_
            refine lv_goto (tgt := 109) hx hb dX10_findSteps_105 (by decide) ?_
            refine lv_istore_n (lv' := [(1, .int (iI 1)), (2, .int (iI (f_X10_next σ 1))), (3, .int (iI 1)), (0, .ref (ad 28))]) hx hb dX10_findSteps_109 rfl hl (by decide) rfl (fun ls hl => ?_)
            refine lv_iload_n hx hb dX10_findSteps_110 rfl (lv_at hl 0 rfl) ?_
            refine g_if_eq (tgt := 120) hx hb dX10_findSteps_111 (by decide) (by omega) (fun c_27 => ?_) (fun c_27 => ?_)
            · exact absurd c_27 (by decide)
            · skip
              refine lv_aload_n hx hb dX10_findSteps_114 rfl (lv_at hl 3 rfl) ?_
              refine lv_iload_n hx hb dX10_findSteps_115 rfl (lv_at hl 1 rfl) ?_
              refine lv_iload_n hx hb dX10_findSteps_116 rfl (lv_at hl 2 rfl) ?_
              have q5 : σ 28 33 < 80 := by first | exact cnt_lt hF hp0 (i := ((f_X10_next σ 1)).toNat) (by omega) (Or.inl (by omega)) | exact cnt_lt hF hp0 (i := (σ 42 ((f_X10_next σ 1)).toNat).toNat) (by have q := bd_42 hF ((f_X10_next σ 1)).toNat; omega) (Or.inr (by omega))
              refine g_V (As := [.int (iI (f_X10_next σ 1)), .int (iI 1)]) (rest := []) 28 (c_X10_writes l D cy ad σ (f_X10_next σ 1) (by omega) 1 (by omega) (by omega)) hx hb hml hown hts hK hN hI hl.1 gX10_findSteps_X10_writes rfl hd_X10_writes rfl rfl ⟨Nat.le_of_ble_eq_true rfl, Nat.le_of_ble_eq_true rfl⟩ ⟨Nat.zero_le _, Nat.zero_le _⟩ (by decide) (cel_28 cy ad _) rfl rfl rfl rfl (Nat.le_of_ble_eq_true rfl) dX10_findSteps_117 (fun H locs hG_28 hI => ?_)
              have hF_29 := hI.2.2.2
              have q6 : (f_X10_writes σ (f_X10_next σ 1) 1) 28 33 = σ 28 33 + 1 := by first | exact (writes_0 _ _).1 | exact (writes_1 _ _).1
              refine lv_goto (tgt := 68) hx hb dX10_findSteps_120 (by decide) ?_
              have e9 : L_X10_findSteps_68 (n + 1) x1 σ = L_X10_findSteps_68 n 1 (f_X10_writes σ (f_X10_next σ 1) 1) := by rw [L_X10_findSteps_68, if_neg c_15, if_pos c_17, if_neg c_25]
              rw [e9] at hk
              exact ih 1 (f_X10_writes σ (f_X10_next σ 1) 1) (by omega) (by first | exact hp0 | (rw [sm_zero (fun i hi => (hy1 i hi).1), sm_zero (fun i hi => (hy1 i hi).2), hy0]; rfl) | exact wr_cnt0 hp0 (by omega) (by omega) | exact wr_cnt1 hp0 (by have q := bd_42 hF (f_X10_next σ 1).toNat; omega) (by omega)) (by omega) _ _ _ hI (lv_sub hl [3, 0] rfl) hk
def f_X10_findSteps (σ : Sg) : Sg := (if (f_X10_troubles (L_X10_findSteps_7 41 0 (up2 σ 28 33 0))) ≤ 0 then (L_X10_findSteps_68 82 1 (L_X10_findSteps_43 41 0 (L_X10_findSteps_7 41 0 (up2 σ 28 33 0)))) else (L_X10_findSteps_7 41 0 (up2 σ 28 33 0)))
theorem hd_X10_findSteps : yX10_findSteps.cls = RX10 ∧ yX10_findSteps.cls ≠ "java/lang/invoke/MethodHandle" ∧ yX10_findSteps.cls ≠ "java/lang/invoke/VarHandle" ∧ (parseMethodDescriptor yX10_findSteps.desc).map (fun d => d.parameters.length) = some 0 := by decide +kernel
set_option maxHeartbeats 4000000 in
set_option maxRecDepth 100000 in
theorem c_X10_findSteps (l : Launch) (D : va_G) (cy : Nat → ClassId) (ad : Nat → Nat) (σ : Sg) : CM l D cy ad yX10_findSteps wsX10_findSteps { frames := 4, cells := 0, slots := 0, locals := 160 } [.ref (ad 28)] σ none (f_X10_findSteps σ) (True) := by
  refine CM.of (cc := cX10_findSteps) (maxL := 4) (ret := none) (by decide) rfl (Nat.le_of_ble_eq_true rfl) ?_
  intro p e s m args below meth c₀ ls X hI hl
  have hl : lv_has ls 4 [(0, .ref (ad 28))] := hl
  obtain ⟨hx, hb, hr, hml, hown, hts, hlocks, hK, hN⟩ := id X
  have hF := hI.2.2.2
  refine lv_aload_n hx hb dX10_findSteps_0 rfl (lv_at hl 0 rfl) ?_
  refine lv_iconst (v := iI 0) hx hb dX10_findSteps_1 rfl ?_
  refine g_put (C := RX10) (T := TX10) (N := 44) (ci := 9) (ty := .int) (z := 0) hx hb hts in_X10_findSteps_X10 tyX10 tyX10_ok nmX10 hown hK hI 28 (by decide) (cel_28 cy ad) rfl 33 (by decide) (by decide +kernel) rfl (by decide +kernel) rfl rfl (Nat.le_of_ble_eq_true rfl) rfl (bw_28_33 (by omega)) dX10_findSteps_2 (fun H locs hI => ?_)
  have hF_1 := hI.2.2.2
  refine lv_iconst (v := iI 0) hx hb dX10_findSteps_5 rfl ?_
  refine lv_istore_n (lv' := [(1, .int (iI 0)), (0, .ref (ad 28))]) hx hb dX10_findSteps_6 rfl hl (by decide) rfl (fun ls hl => ?_)
  refine w_L_X10_findSteps_7 X    41 0 (up2 σ 28 33 0) (by omega) (by first | omega | (simp [up2_at] <;> omega)) (by first | exact zero_step hp1 (by omega) | (intro i hi; exfalso; omega)) (by omega) _ _ _ hI (lv_sub hl [1, 0] rfl) (fun H locs ls hpo_6 hI hl => ?_)
  have hF_5 := hI.2.2.2
  have hz0 := hpo_6.1
  have hz1 := hpo_6.2
  refine lv_aload_n hx hb dX10_findSteps_33 rfl (lv_at hl 0 rfl) ?_
  refine g_V (As := []) (rest := []) 28 (c_X10_troubles l D cy ad (L_X10_findSteps_7 41 0 (up2 σ 28 33 0)) ) hx hb hml hown hts hK hN hI hl.1 gX10_findSteps_X10_troubles rfl hd_X10_troubles rfl rfl ⟨Nat.le_of_ble_eq_true rfl, Nat.le_of_ble_eq_true rfl⟩ ⟨Nat.zero_le _, Nat.zero_le _⟩ (by decide) (cel_28 cy ad _) rfl rfl rfl rfl (Nat.le_of_ble_eq_true rfl) dX10_findSteps_34 (fun H locs hG_7 hI => ?_)
  refine g_if_le (tgt := 41) hx hb dX10_findSteps_37 (by decide) (by omega) (fun c_8 => ?_) (fun c_8 => ?_)
  · skip
    refine lv_iconst (v := iI 0) hx hb dX10_findSteps_41 rfl ?_
    refine lv_istore_n (lv' := [(1, .int (iI 0)), (0, .ref (ad 28))]) hx hb dX10_findSteps_42 rfl hl (by decide) rfl (fun ls hl => ?_)
    refine w_L_X10_findSteps_43 X    41 0 (L_X10_findSteps_7 41 0 (up2 σ 28 33 0)) (by omega) (by first | exact hz0 | (rw [q9 28 (by omega)]; exact hp0)) (by first | exact hz1 | (intro i hi; rw [q9 54 (by omega), q9 55 (by omega)]; exact hp1 i hi)) (by omega) _ _ _ hI (lv_sub hl [1, 0] rfl) (fun H locs ls hpo_14 hI hl => ?_)
    have hF_13 := hI.2.2.2
    have hy0 := hpo_14.1
    have hy1 := hpo_14.2
    refine lv_iconst (v := iI 1) hx hb dX10_findSteps_66 rfl ?_
    refine lv_istore_n (lv' := [(1, .int (iI 1)), (0, .ref (ad 28))]) hx hb dX10_findSteps_67 rfl hl (by decide) rfl (fun ls hl => ?_)
    refine w_L_X10_findSteps_68 X    82 1 (L_X10_findSteps_43 41 0 (L_X10_findSteps_7 41 0 (up2 σ 28 33 0))) (by omega) (by first | exact hp0 | (rw [sm_zero (fun i hi => (hy1 i hi).1), sm_zero (fun i hi => (hy1 i hi).2), hy0]; rfl) | exact wr_cnt0 hp0 (by omega) (by omega) | exact wr_cnt1 hp0 (by have q := bd_42 hF (f_X10_next σ 1).toNat; omega) (by omega)) (by omega) _ _ _ hI (lv_sub hl [1, 0] rfl) (fun H locs ls hpo_31 hI hl => ?_)
    have hF_30 := hI.2.2.2
    have e9 : f_X10_findSteps σ = (L_X10_findSteps_68 82 1 (L_X10_findSteps_43 41 0 (L_X10_findSteps_7 41 0 (up2 σ 28 33 0)))) := by rw [f_X10_findSteps, if_pos c_8]
    exact g_vret hx hb hr hK hN hlocks hI (by rw [e9]) trivial dX10_findSteps_123
  · skip
    have e9 : f_X10_findSteps σ = (L_X10_findSteps_7 41 0 (up2 σ 28 33 0)) := by rw [f_X10_findSteps, if_neg c_8]
    exact g_vret hx hb hr hK hN hlocks hI (by rw [e9]) trivial dX10_findSteps_40
theorem in_X10_go_X10 : ∀ w ∈ u_ws RX10 TX10 44, w ∈ wsX10_go := by decide +kernel
def L_X10_go_22 (a0 : Int) : Nat → Int → Sg → Int × Sg
  | 0, x2, σ => (x2, σ)
  | n + 1, x2, σ => (if a0 ≤ x2 then (x2, σ) else (if (σ 28 33) ≤ (σ 28 34) then (x2, σ) else (if (σ 28 35) = 0 then (if ((f_X10_does σ (σ 28 34) 0).1) = 0 then L_X10_go_22 a0 n (x2 + 1) (up2 (up2 (f_X10_does σ (σ 28 34) 0).2 28 35 ((f_X10_does σ (σ 28 34) 0).1)) 28 34 (((f_X10_does σ (σ 28 34) 0).2 28 34) + 1)) else L_X10_go_22 a0 n x2 (up2 (f_X10_does σ (σ 28 34) 0).2 28 35 ((f_X10_does σ (σ 28 34) 0).1))) else (x2, σ))))
set_option maxHeartbeats 4000000 in
set_option maxRecDepth 100000 in
theorem w_L_X10_go_22 {p : Program} {l : Launch} {e : Env} {s : State} {m : MethodId} {args : Array Value} {below : List Frame} {meth : Method} {c₀ : Code} {D : va_G} {cy : Nat → ClassId} {ad : Nat → Nat} {Q : State → Prop} (X : MX p s m args meth c₀ cX10_go 3 RX10 (some .int) wsX10_go D cy) (a0 : Int) (ha0 : (-2147483648 ≤ a0 ∧ a0 < 2147483648)) : ∀ (n : Nat) (x2 : Int) (σ : Sg) (hx2 : (0 : Int) ≤ x2 ∧ x2 ≤ 80) (hp0 : x2 ≤ σ 28 34) (hmu : 81 - σ 28 34 - min (σ 28 35) 1 < (n : Int)) (H : Heap) (locs : List Loc) (ls : Array Slot) (hI : HI D cy ad s σ H locs) (hl : lv_has ls 3 [(0, .ref (ad 28)), (1, .int (iI a0)), (2, .int (iI x2))])  (hk : ∀ (H1 : Heap) (locs1 : List Loc) (ls1 : Array Slot), (0 ≤ (L_X10_go_22 a0 n x2 σ).1 ∧ (L_X10_go_22 a0 n x2 σ).1 ≤ 80) → HI D cy ad s (L_X10_go_22 a0 n x2 σ).2 H1 locs1 → lv_has ls1 3 [(2, .int (iI ((L_X10_go_22 a0 n x2 σ).1)))] → W p l e { frames := 4, cells := 0, slots := 0, locals := 160 } s m args below meth c₀ H1 locs1 0 0 Q (F0 m 84 ls1 [])), W p l e { frames := 4, cells := 0, slots := 0, locals := 160 } s m args below meth c₀ H locs 0 0 Q (F0 m 22 ls []) := by
  obtain ⟨hx, hb, hr, hml, hown, hts, hlocks, hK, hN⟩ := id X
  intro n
  induction n with
  | zero =>
    intro x2 σ hx2 hp0 hmu H locs ls hI hl hk
    exfalso
    have hF := hI.2.2.2
    have q := bd_28_34 hF
    have q2 := bd_28_35 hF
    omega
  | succ n ih =>
    intro x2 σ hx2 hp0 hmu H locs ls hI hl hk
    have hF := hI.2.2.2
    have f1 := bd_28_34 hF
    have f2 := bd_28_35 hF
    refine lv_iload_n hx hb dX10_go_22 rfl (lv_at hl 2 rfl) ?_
    refine lv_iload_n hx hb dX10_go_23 rfl (lv_at hl 1 rfl) ?_
    refine g_icmp_ge (tgt := 84) hx hb dX10_go_24 (by decide) (by omega) (by omega) (fun c_5 => ?_) (fun c_5 => ?_)
    · skip
      have e9 : L_X10_go_22 a0 (n + 1) x2 σ = (x2, σ) := by rw [L_X10_go_22, if_pos c_5]
      rw [e9] at hk
      exact hk _ _ _ (by first | (omega) | (dsimp only; omega)) hI (lv_sub hl [2] rfl)
    · skip
      refine lv_aload_n hx hb dX10_go_27 rfl (lv_at hl 0 rfl) ?_
      refine g_get (C := RX10) (T := TX10) (N := 44) (ci := 9) (v := .int (iI (σ 28 34))) hx hb hts in_X10_go_X10 hown hK hI 28 (by decide) (cel_28 cy ad _) rfl 34 (by decide) (by decide +kernel) rfl dX10_go_28 ?_
      have b_6 := bd_28_34 hF
      refine lv_aload_n hx hb dX10_go_31 rfl (lv_at hl 0 rfl) ?_
      refine g_get (C := RX10) (T := TX10) (N := 44) (ci := 9) (v := .int (iI (σ 28 33))) hx hb hts in_X10_go_X10 hown hK hI 28 (by decide) (cel_28 cy ad _) rfl 33 (by decide) (by decide +kernel) rfl dX10_go_32 ?_
      have b_7 := bd_28_33 hF
      refine g_icmp_ge (tgt := 84) hx hb dX10_go_35 (by decide) (by omega) (by omega) (fun c_8 => ?_) (fun c_8 => ?_)
      · skip
        have e9 : L_X10_go_22 a0 (n + 1) x2 σ = (x2, σ) := by rw [L_X10_go_22, if_neg c_5, if_pos c_8]
        rw [e9] at hk
        exact hk _ _ _ (by first | (omega) | (dsimp only; omega)) hI (lv_sub hl [2] rfl)
      · skip
        refine lv_aload_n hx hb dX10_go_38 rfl (lv_at hl 0 rfl) ?_
        refine g_get (C := RX10) (T := TX10) (N := 44) (ci := 9) (v := .int (iI (σ 28 35))) hx hb hts in_X10_go_X10 hown hK hI 28 (by decide) (cel_28 cy ad _) rfl 35 (by decide) (by decide +kernel) rfl dX10_go_39 ?_
        have b_9 := bd_28_35 hF
        refine g_if_ne (tgt := 84) hx hb dX10_go_42 (by decide) (by omega) (fun c_10 => ?_) (fun c_10 => ?_)
        · skip
          have e9 : L_X10_go_22 a0 (n + 1) x2 σ = (x2, σ) := by rw [L_X10_go_22, if_neg c_5, if_neg c_8, if_neg c_10]
          rw [e9] at hk
          exact hk _ _ _ (by first | (omega) | (dsimp only; omega)) hI (lv_sub hl [2] rfl)
        · skip
          refine lv_aload_n hx hb dX10_go_45 rfl (lv_at hl 0 rfl) ?_
          refine lv_aload_n hx hb dX10_go_46 rfl (lv_at hl 0 rfl) ?_
          refine lv_aload_n hx hb dX10_go_47 rfl (lv_at hl 0 rfl) ?_
          refine g_get (C := RX10) (T := TX10) (N := 44) (ci := 9) (v := .int (iI (σ 28 34))) hx hb hts in_X10_go_X10 hown hK hI 28 (by decide) (cel_28 cy ad _) rfl 34 (by decide) (by decide +kernel) rfl dX10_go_48 ?_
          have b_11 := bd_28_34 hF
          refine lv_iconst (v := iI 0) hx hb dX10_go_51 rfl ?_
          refine g_V (As := [.int (iI (σ 28 34)), .int (iI 0)]) (rest := [.ref (ad 28)]) 28 (c_X10_does l D cy ad σ (σ 28 34) (by omega) 0 (by omega)) hx hb hml hown hts hK hN hI hl.1 gX10_go_X10_does rfl hd_X10_does rfl rfl ⟨Nat.le_of_ble_eq_true rfl, Nat.le_of_ble_eq_true rfl⟩ ⟨Nat.zero_le _, Nat.zero_le _⟩ (by decide) (cel_28 cy ad _) rfl rfl rfl rfl (Nat.le_of_ble_eq_true rfl) dX10_go_52 (fun H locs hG_12 hI => ?_)
          have hF_13 := hI.2.2.2
          have q9 : (f_X10_does σ (σ 28 34) 0).2 28 = σ 28 := does_fr _ _ _ (by decide) (by decide) (by decide)
          have q8 := congrFun q9 34
          have q7 := congrFun q9 33
          have q6 := bd_28_35 hF
          refine g_put (C := RX10) (T := TX10) (N := 44) (ci := 9) (ty := .int) (z := (f_X10_does σ (σ 28 34) 0).1) hx hb hts in_X10_go_X10 tyX10 tyX10_ok nmX10 hown hK hI 28 (by decide) (cel_28 cy ad) rfl 35 (by decide) (by decide +kernel) rfl (by decide +kernel) rfl rfl (Nat.le_of_ble_eq_true rfl) rfl (bw_28_35 (by omega)) dX10_go_55 (fun H locs hI => ?_)
          have hF_14 := hI.2.2.2
          refine lv_aload_n hx hb dX10_go_58 rfl (lv_at hl 0 rfl) ?_
          refine g_get (C := RX10) (T := TX10) (N := 44) (ci := 9) (v := .int (iI ((f_X10_does σ (σ 28 34) 0).1))) hx hb hts in_X10_go_X10 hown hK hI 28 (by decide) (cel_28 cy ad _) rfl 35 (by decide) (by decide +kernel) (by show some (Value.int (iI ((up2 (f_X10_does σ (σ 28 34) 0).2 28 35 ((f_X10_does σ (σ 28 34) 0).1)) 28 35))) = _; rw [up2_same]) dX10_go_59 ?_
          refine g_if_eq (tgt := 68) hx hb dX10_go_62 (by decide) (by omega) (fun c_15 => ?_) (fun c_15 => ?_)
          · skip
            refine lv_aload_n hx hb dX10_go_68 rfl (lv_at hl 0 rfl) ?_
            refine lv_dup hx hb dX10_go_69 rfl ?_
            refine g_get (C := RX10) (T := TX10) (N := 44) (ci := 9) (v := .int (iI ((f_X10_does σ (σ 28 34) 0).2 28 34))) hx hb hts in_X10_go_X10 hown hK hI 28 (by decide) (cel_28 cy ad _) rfl 34 (by decide) (by decide +kernel) (by show some (Value.int (iI ((up2 (f_X10_does σ (σ 28 34) 0).2 28 35 ((f_X10_does σ (σ 28 34) 0).1)) 28 34))) = _; rw [up2_slot _ _ (by decide)]) dX10_go_70 ?_
            have b_16 := bd_28_34 hF_13
            refine lv_iconst (v := iI 1) hx hb dX10_go_73 rfl ?_
            refine g_iadd hx hb dX10_go_74 ?_
            refine g_put (C := RX10) (T := TX10) (N := 44) (ci := 9) (ty := .int) (z := ((f_X10_does σ (σ 28 34) 0).2 28 34) + 1) hx hb hts in_X10_go_X10 tyX10 tyX10_ok nmX10 hown hK hI 28 (by decide) (cel_28 cy ad) rfl 34 (by decide) (by decide +kernel) rfl (by decide +kernel) rfl rfl (Nat.le_of_ble_eq_true rfl) rfl (bw_28_34 (by omega)) dX10_go_75 (fun H locs hI => ?_)
            have hF_17 := hI.2.2.2
            refine lv_iinc (v := iI (x2 + 1)) (lv' := [(2, .int (iI (x2 + 1))), (0, .ref (ad 28)), (1, .int (iI a0))]) hx hb dX10_go_78 hl (k := 2) rfl (iI_add _ _) (by decide) rfl (fun ls hl => ?_)
            refine lv_goto (tgt := 22) hx hb dX10_go_81 (by decide) ?_
            have e9 : L_X10_go_22 a0 (n + 1) x2 σ = L_X10_go_22 a0 n (x2 + 1) (up2 (up2 (f_X10_does σ (σ 28 34) 0).2 28 35 ((f_X10_does σ (σ 28 34) 0).1)) 28 34 (((f_X10_does σ (σ 28 34) 0).2 28 34) + 1)) := by rw [L_X10_go_22, if_neg c_5, if_neg c_8, if_pos c_10, if_pos c_15]
            rw [e9] at hk
            exact ih (x2 + 1) (up2 (up2 (f_X10_does σ (σ 28 34) 0).2 28 35 ((f_X10_does σ (σ 28 34) 0).1)) 28 34 (((f_X10_does σ (σ 28 34) 0).2 28 34) + 1)) (by omega) (by first | omega | (simp [up2_at] <;> omega)) (by first | omega | (simp [up2_at] <;> omega)) _ _ _ hI (lv_sub hl [1, 2, 0] rfl) hk
          · skip
            refine lv_goto (tgt := 22) hx hb dX10_go_65 (by decide) ?_
            have e9 : L_X10_go_22 a0 (n + 1) x2 σ = L_X10_go_22 a0 n x2 (up2 (f_X10_does σ (σ 28 34) 0).2 28 35 ((f_X10_does σ (σ 28 34) 0).1)) := by rw [L_X10_go_22, if_neg c_5, if_neg c_8, if_pos c_10, if_neg c_15]
            rw [e9] at hk
            exact ih x2 (up2 (f_X10_does σ (σ 28 34) 0).2 28 35 ((f_X10_does σ (σ 28 34) 0).1)) (by omega) (by first | omega | (simp [up2_at] <;> omega)) (by first | omega | (simp [up2_at] <;> omega)) _ _ _ hI (lv_sub hl [0, 1, 2] rfl) hk
def f_X10_go (σ : Sg) (a0 : Int) : Int × Sg := (if (f_X10_can (up2 σ 28 0 0) a0) = 0 then ((-1), (up2 σ 28 0 0)) else ((L_X10_go_22 a0 83 0 (up2 (up2 σ 28 0 0) 28 35 0)).1, (L_X10_go_22 a0 83 0 (up2 (up2 σ 28 0 0) 28 35 0)).2))
theorem hd_X10_go : yX10_go.cls = RX10 ∧ yX10_go.cls ≠ "java/lang/invoke/MethodHandle" ∧ yX10_go.cls ≠ "java/lang/invoke/VarHandle" ∧ (parseMethodDescriptor yX10_go.desc).map (fun d => d.parameters.length) = some 1 := by decide +kernel
set_option maxHeartbeats 4000000 in
set_option maxRecDepth 100000 in
theorem c_X10_go (l : Launch) (D : va_G) (cy : Nat → ClassId) (ad : Nat → Nat) (σ : Sg) (a0 : Int) (ha0 : (-2147483648 ≤ a0 ∧ a0 < 2147483648)) : CM l D cy ad yX10_go wsX10_go { frames := 4, cells := 0, slots := 0, locals := 160 } [.ref (ad 28), .int (iI a0)] σ (some (.int (iI ((f_X10_go σ a0).1)))) ((f_X10_go σ a0).2) (True) := by
  refine CM.of (cc := cX10_go) (maxL := 3) (ret := (some .int)) (by decide) rfl (Nat.le_of_ble_eq_true rfl) ?_
  intro p e s m args below meth c₀ ls X hI hl
  have hl : lv_has ls 3 [(0, .ref (ad 28)), (1, .int (iI a0))] := hl
  obtain ⟨hx, hb, hr, hml, hown, hts, hlocks, hK, hN⟩ := id X
  have hF := hI.2.2.2
  have f1 := bd_28_34 hF
  have f2 := bd_28_35 hF
  refine lv_aload_n hx hb dX10_go_0 rfl (lv_at hl 0 rfl) ?_
  refine lv_iconst (v := iI 0) hx hb dX10_go_1 rfl ?_
  refine g_put (C := RX10) (T := TX10) (N := 44) (ci := 9) (ty := .int) (z := 0) hx hb hts in_X10_go_X10 tyX10 tyX10_ok nmX10 hown hK hI 28 (by decide) (cel_28 cy ad) rfl 0 (by decide) (by decide +kernel) rfl (by decide +kernel) rfl rfl (Nat.le_of_ble_eq_true rfl) rfl (bw_28_0 (by omega)) dX10_go_2 (fun H locs hI => ?_)
  have hF_1 := hI.2.2.2
  refine lv_aload_n hx hb dX10_go_5 rfl (lv_at hl 0 rfl) ?_
  refine lv_iload_n hx hb dX10_go_6 rfl (lv_at hl 1 rfl) ?_
  refine g_V (As := [.int (iI a0)]) (rest := []) 28 (c_X10_can l D cy ad (up2 σ 28 0 0) a0 (by omega)) hx hb hml hown hts hK hN hI hl.1 gX10_go_X10_can rfl hd_X10_can rfl rfl ⟨Nat.le_of_ble_eq_true rfl, Nat.le_of_ble_eq_true rfl⟩ ⟨Nat.zero_le _, Nat.zero_le _⟩ (by decide) (cel_28 cy ad _) rfl rfl rfl rfl (Nat.le_of_ble_eq_true rfl) dX10_go_7 (fun H locs hG_2 hI => ?_)
  refine g_if_ne (tgt := 15) hx hb dX10_go_10 (by decide) (by omega) (fun c_3 => ?_) (fun c_3 => ?_)
  · skip
    refine lv_aload_n hx hb dX10_go_15 rfl (lv_at hl 0 rfl) ?_
    refine lv_iconst (v := iI 0) hx hb dX10_go_16 rfl ?_
    refine g_put (C := RX10) (T := TX10) (N := 44) (ci := 9) (ty := .int) (z := 0) hx hb hts in_X10_go_X10 tyX10 tyX10_ok nmX10 hown hK hI 28 (by decide) (cel_28 cy ad) rfl 35 (by decide) (by decide +kernel) rfl (by decide +kernel) rfl rfl (Nat.le_of_ble_eq_true rfl) rfl (bw_28_35 (by omega)) dX10_go_17 (fun H locs hI => ?_)
    have hF_4 := hI.2.2.2
    refine lv_iconst (v := iI 0) hx hb dX10_go_20 rfl ?_
    refine lv_istore_n (lv' := [(2, .int (iI 0)), (0, .ref (ad 28)), (1, .int (iI a0))]) hx hb dX10_go_21 rfl hl (by decide) rfl (fun ls hl => ?_)
    refine w_L_X10_go_22 X  a0 ha0  83 0 (up2 (up2 σ 28 0 0) 28 35 0) (by omega) (by first | omega | (simp [up2_at] <;> omega)) (by first | omega | (simp [up2_at] <;> omega)) _ _ _ hI (lv_sub hl [1, 2, 0] rfl) (fun H locs ls hpo_19 hI hl => ?_)
    have hF_18 := hI.2.2.2
    refine lv_iload_n hx hb dX10_go_84 rfl (lv_at hl 0 rfl) ?_
    have e9 : f_X10_go σ a0 = ((L_X10_go_22 a0 83 0 (up2 (up2 σ 28 0 0) 28 35 0)).1, (L_X10_go_22 a0 83 0 (up2 (up2 σ 28 0 0) 28 35 0)).2) := by rw [f_X10_go, if_neg c_3]
    exact g_iret (z := (L_X10_go_22 a0 83 0 (up2 (up2 σ 28 0 0) 28 35 0)).1) hx hb hr hK hN hlocks hI (by rw [e9]) (by rw [e9]) trivial dX10_go_85
  · skip
    refine lv_iconst (v := iI (-1)) hx hb dX10_go_13 rfl ?_
    have e9 : f_X10_go σ a0 = ((-1), (up2 σ 28 0 0)) := by rw [f_X10_go, if_pos c_3]
    exact g_iret (z := (-1)) hx hb hr hK hN hlocks hI (by rw [e9]) (by rw [e9]) trivial dX10_go_14
theorem in_X10_back_X10 : ∀ w ∈ u_ws RX10 TX10 44, w ∈ wsX10_back := by decide +kernel
def L_X10_back_22 (a0 : Int) : Nat → Int → Sg → Int × Sg
  | 0, x2, σ => (x2, σ)
  | n + 1, x2, σ => (if a0 ≤ x2 then (x2, σ) else (if (σ 28 34) ≤ 0 then (x2, σ) else (if (σ 28 35) = 0 then (if ((f_X10_does σ ((σ 28 34) - 1) 1).1) = 0 then L_X10_back_22 a0 n (x2 + 1) (up2 (up2 (f_X10_does σ ((σ 28 34) - 1) 1).2 28 35 ((f_X10_does σ ((σ 28 34) - 1) 1).1)) 28 34 (((f_X10_does σ ((σ 28 34) - 1) 1).2 28 34) - 1)) else L_X10_back_22 a0 n x2 (up2 (f_X10_does σ ((σ 28 34) - 1) 1).2 28 35 ((f_X10_does σ ((σ 28 34) - 1) 1).1))) else (x2, σ))))
set_option maxHeartbeats 4000000 in
set_option maxRecDepth 100000 in
theorem w_L_X10_back_22 {p : Program} {l : Launch} {e : Env} {s : State} {m : MethodId} {args : Array Value} {below : List Frame} {meth : Method} {c₀ : Code} {D : va_G} {cy : Nat → ClassId} {ad : Nat → Nat} {Q : State → Prop} (X : MX p s m args meth c₀ cX10_back 3 RX10 (some .int) wsX10_back D cy) (a0 : Int) (ha0 : (-2147483648 ≤ a0 ∧ a0 < 2147483648)) : ∀ (n : Nat) (x2 : Int) (σ : Sg) (hx2 : (0 : Int) ≤ x2 ∧ x2 ≤ 80) (hp0 : x2 + σ 28 34 ≤ 80) (hmu : σ 28 34 + 1 - min (σ 28 35) 1 < (n : Int)) (H : Heap) (locs : List Loc) (ls : Array Slot) (hI : HI D cy ad s σ H locs) (hl : lv_has ls 3 [(0, .ref (ad 28)), (1, .int (iI a0)), (2, .int (iI x2))])  (hk : ∀ (H1 : Heap) (locs1 : List Loc) (ls1 : Array Slot), (0 ≤ (L_X10_back_22 a0 n x2 σ).1 ∧ (L_X10_back_22 a0 n x2 σ).1 ≤ 80) → HI D cy ad s (L_X10_back_22 a0 n x2 σ).2 H1 locs1 → lv_has ls1 3 [(2, .int (iI ((L_X10_back_22 a0 n x2 σ).1)))] → W p l e { frames := 4, cells := 0, slots := 0, locals := 160 } s m args below meth c₀ H1 locs1 0 0 Q (F0 m 82 ls1 [])), W p l e { frames := 4, cells := 0, slots := 0, locals := 160 } s m args below meth c₀ H locs 0 0 Q (F0 m 22 ls []) := by
  obtain ⟨hx, hb, hr, hml, hown, hts, hlocks, hK, hN⟩ := id X
  intro n
  induction n with
  | zero =>
    intro x2 σ hx2 hp0 hmu H locs ls hI hl hk
    exfalso
    have hF := hI.2.2.2
    have q := bd_28_34 hF
    have q2 := bd_28_35 hF
    omega
  | succ n ih =>
    intro x2 σ hx2 hp0 hmu H locs ls hI hl hk
    have hF := hI.2.2.2
    have f1 := bd_28_34 hF
    have f2 := bd_28_35 hF
    refine lv_iload_n hx hb dX10_back_22 rfl (lv_at hl 2 rfl) ?_
    refine lv_iload_n hx hb dX10_back_23 rfl (lv_at hl 1 rfl) ?_
    refine g_icmp_ge (tgt := 82) hx hb dX10_back_24 (by decide) (by omega) (by omega) (fun c_5 => ?_) (fun c_5 => ?_)
    · skip
      have e9 : L_X10_back_22 a0 (n + 1) x2 σ = (x2, σ) := by rw [L_X10_back_22, if_pos c_5]
      rw [e9] at hk
      exact hk _ _ _ (by first | (omega) | (dsimp only; omega)) hI (lv_sub hl [2] rfl)
    · skip
      refine lv_aload_n hx hb dX10_back_27 rfl (lv_at hl 0 rfl) ?_
      refine g_get (C := RX10) (T := TX10) (N := 44) (ci := 9) (v := .int (iI (σ 28 34))) hx hb hts in_X10_back_X10 hown hK hI 28 (by decide) (cel_28 cy ad _) rfl 34 (by decide) (by decide +kernel) rfl dX10_back_28 ?_
      have b_6 := bd_28_34 hF
      refine g_if_le (tgt := 82) hx hb dX10_back_31 (by decide) (by omega) (fun c_7 => ?_) (fun c_7 => ?_)
      · skip
        have e9 : L_X10_back_22 a0 (n + 1) x2 σ = (x2, σ) := by rw [L_X10_back_22, if_neg c_5, if_pos c_7]
        rw [e9] at hk
        exact hk _ _ _ (by first | (omega) | (dsimp only; omega)) hI (lv_sub hl [2] rfl)
      · skip
        refine lv_aload_n hx hb dX10_back_34 rfl (lv_at hl 0 rfl) ?_
        refine g_get (C := RX10) (T := TX10) (N := 44) (ci := 9) (v := .int (iI (σ 28 35))) hx hb hts in_X10_back_X10 hown hK hI 28 (by decide) (cel_28 cy ad _) rfl 35 (by decide) (by decide +kernel) rfl dX10_back_35 ?_
        have b_8 := bd_28_35 hF
        refine g_if_ne (tgt := 82) hx hb dX10_back_38 (by decide) (by omega) (fun c_9 => ?_) (fun c_9 => ?_)
        · skip
          have e9 : L_X10_back_22 a0 (n + 1) x2 σ = (x2, σ) := by rw [L_X10_back_22, if_neg c_5, if_neg c_7, if_neg c_9]
          rw [e9] at hk
          exact hk _ _ _ (by first | (omega) | (dsimp only; omega)) hI (lv_sub hl [2] rfl)
        · skip
          refine lv_aload_n hx hb dX10_back_41 rfl (lv_at hl 0 rfl) ?_
          refine lv_aload_n hx hb dX10_back_42 rfl (lv_at hl 0 rfl) ?_
          refine lv_aload_n hx hb dX10_back_43 rfl (lv_at hl 0 rfl) ?_
          refine g_get (C := RX10) (T := TX10) (N := 44) (ci := 9) (v := .int (iI (σ 28 34))) hx hb hts in_X10_back_X10 hown hK hI 28 (by decide) (cel_28 cy ad _) rfl 34 (by decide) (by decide +kernel) rfl dX10_back_44 ?_
          have b_10 := bd_28_34 hF
          refine lv_iconst (v := iI 1) hx hb dX10_back_47 rfl ?_
          refine g_isub hx hb dX10_back_48 ?_
          refine lv_iconst (v := iI 1) hx hb dX10_back_49 rfl ?_
          refine g_V (As := [.int (iI ((σ 28 34) - 1)), .int (iI 1)]) (rest := [.ref (ad 28)]) 28 (c_X10_does l D cy ad σ ((σ 28 34) - 1) (by omega) 1 (by omega)) hx hb hml hown hts hK hN hI hl.1 gX10_back_X10_does rfl hd_X10_does rfl rfl ⟨Nat.le_of_ble_eq_true rfl, Nat.le_of_ble_eq_true rfl⟩ ⟨Nat.zero_le _, Nat.zero_le _⟩ (by decide) (cel_28 cy ad _) rfl rfl rfl rfl (Nat.le_of_ble_eq_true rfl) dX10_back_50 (fun H locs hG_11 hI => ?_)
          have hF_12 := hI.2.2.2
          have q9 : (f_X10_does σ ((σ 28 34) - 1) 1).2 28 = σ 28 := does_fr _ _ _ (by decide) (by decide) (by decide)
          have q8 := congrFun q9 34
          have q7 := congrFun q9 33
          have q6 := bd_28_35 hF
          refine g_put (C := RX10) (T := TX10) (N := 44) (ci := 9) (ty := .int) (z := (f_X10_does σ ((σ 28 34) - 1) 1).1) hx hb hts in_X10_back_X10 tyX10 tyX10_ok nmX10 hown hK hI 28 (by decide) (cel_28 cy ad) rfl 35 (by decide) (by decide +kernel) rfl (by decide +kernel) rfl rfl (Nat.le_of_ble_eq_true rfl) rfl (bw_28_35 (by omega)) dX10_back_53 (fun H locs hI => ?_)
          have hF_13 := hI.2.2.2
          refine lv_aload_n hx hb dX10_back_56 rfl (lv_at hl 0 rfl) ?_
          refine g_get (C := RX10) (T := TX10) (N := 44) (ci := 9) (v := .int (iI ((f_X10_does σ ((σ 28 34) - 1) 1).1))) hx hb hts in_X10_back_X10 hown hK hI 28 (by decide) (cel_28 cy ad _) rfl 35 (by decide) (by decide +kernel) (by show some (Value.int (iI ((up2 (f_X10_does σ ((σ 28 34) - 1) 1).2 28 35 ((f_X10_does σ ((σ 28 34) - 1) 1).1)) 28 35))) = _; rw [up2_same]) dX10_back_57 ?_
          refine g_if_eq (tgt := 66) hx hb dX10_back_60 (by decide) (by omega) (fun c_14 => ?_) (fun c_14 => ?_)
          · skip
            refine lv_aload_n hx hb dX10_back_66 rfl (lv_at hl 0 rfl) ?_
            refine lv_dup hx hb dX10_back_67 rfl ?_
            refine g_get (C := RX10) (T := TX10) (N := 44) (ci := 9) (v := .int (iI ((f_X10_does σ ((σ 28 34) - 1) 1).2 28 34))) hx hb hts in_X10_back_X10 hown hK hI 28 (by decide) (cel_28 cy ad _) rfl 34 (by decide) (by decide +kernel) (by show some (Value.int (iI ((up2 (f_X10_does σ ((σ 28 34) - 1) 1).2 28 35 ((f_X10_does σ ((σ 28 34) - 1) 1).1)) 28 34))) = _; rw [up2_slot _ _ (by decide)]) dX10_back_68 ?_
            have b_15 := bd_28_34 hF_12
            refine lv_iconst (v := iI 1) hx hb dX10_back_71 rfl ?_
            refine g_isub hx hb dX10_back_72 ?_
            refine g_put (C := RX10) (T := TX10) (N := 44) (ci := 9) (ty := .int) (z := ((f_X10_does σ ((σ 28 34) - 1) 1).2 28 34) - 1) hx hb hts in_X10_back_X10 tyX10 tyX10_ok nmX10 hown hK hI 28 (by decide) (cel_28 cy ad) rfl 34 (by decide) (by decide +kernel) rfl (by decide +kernel) rfl rfl (Nat.le_of_ble_eq_true rfl) rfl (bw_28_34 (by omega)) dX10_back_73 (fun H locs hI => ?_)
            have hF_16 := hI.2.2.2
            refine lv_iinc (v := iI (x2 + 1)) (lv' := [(2, .int (iI (x2 + 1))), (0, .ref (ad 28)), (1, .int (iI a0))]) hx hb dX10_back_76 hl (k := 2) rfl (iI_add _ _) (by decide) rfl (fun ls hl => ?_)
            refine lv_goto (tgt := 22) hx hb dX10_back_79 (by decide) ?_
            have e9 : L_X10_back_22 a0 (n + 1) x2 σ = L_X10_back_22 a0 n (x2 + 1) (up2 (up2 (f_X10_does σ ((σ 28 34) - 1) 1).2 28 35 ((f_X10_does σ ((σ 28 34) - 1) 1).1)) 28 34 (((f_X10_does σ ((σ 28 34) - 1) 1).2 28 34) - 1)) := by rw [L_X10_back_22, if_neg c_5, if_neg c_7, if_pos c_9, if_pos c_14]
            rw [e9] at hk
            exact ih (x2 + 1) (up2 (up2 (f_X10_does σ ((σ 28 34) - 1) 1).2 28 35 ((f_X10_does σ ((σ 28 34) - 1) 1).1)) 28 34 (((f_X10_does σ ((σ 28 34) - 1) 1).2 28 34) - 1)) (by omega) (by first | omega | (simp [up2_at] <;> omega)) (by first | omega | (simp [up2_at] <;> omega)) _ _ _ hI (lv_sub hl [1, 2, 0] rfl) hk
          · skip
            refine lv_goto (tgt := 22) hx hb dX10_back_63 (by decide) ?_
            have e9 : L_X10_back_22 a0 (n + 1) x2 σ = L_X10_back_22 a0 n x2 (up2 (f_X10_does σ ((σ 28 34) - 1) 1).2 28 35 ((f_X10_does σ ((σ 28 34) - 1) 1).1)) := by rw [L_X10_back_22, if_neg c_5, if_neg c_7, if_pos c_9, if_neg c_14]
            rw [e9] at hk
            exact ih x2 (up2 (f_X10_does σ ((σ 28 34) - 1) 1).2 28 35 ((f_X10_does σ ((σ 28 34) - 1) 1).1)) (by omega) (by first | omega | (simp [up2_at] <;> omega)) (by first | omega | (simp [up2_at] <;> omega)) _ _ _ hI (lv_sub hl [0, 1, 2] rfl) hk
def f_X10_back (σ : Sg) (a0 : Int) : Int × Sg := (if (f_X10_can (up2 σ 28 0 0) a0) = 0 then ((-1), (up2 σ 28 0 0)) else ((L_X10_back_22 a0 83 0 (up2 (up2 σ 28 0 0) 28 35 0)).1, (L_X10_back_22 a0 83 0 (up2 (up2 σ 28 0 0) 28 35 0)).2))
theorem hd_X10_back : yX10_back.cls = RX10 ∧ yX10_back.cls ≠ "java/lang/invoke/MethodHandle" ∧ yX10_back.cls ≠ "java/lang/invoke/VarHandle" ∧ (parseMethodDescriptor yX10_back.desc).map (fun d => d.parameters.length) = some 1 := by decide +kernel
set_option maxHeartbeats 4000000 in
set_option maxRecDepth 100000 in
theorem c_X10_back (l : Launch) (D : va_G) (cy : Nat → ClassId) (ad : Nat → Nat) (σ : Sg) (a0 : Int) (ha0 : (-2147483648 ≤ a0 ∧ a0 < 2147483648)) : CM l D cy ad yX10_back wsX10_back { frames := 4, cells := 0, slots := 0, locals := 160 } [.ref (ad 28), .int (iI a0)] σ (some (.int (iI ((f_X10_back σ a0).1)))) ((f_X10_back σ a0).2) (True) := by
  refine CM.of (cc := cX10_back) (maxL := 3) (ret := (some .int)) (by decide) rfl (Nat.le_of_ble_eq_true rfl) ?_
  intro p e s m args below meth c₀ ls X hI hl
  have hl : lv_has ls 3 [(0, .ref (ad 28)), (1, .int (iI a0))] := hl
  obtain ⟨hx, hb, hr, hml, hown, hts, hlocks, hK, hN⟩ := id X
  have hF := hI.2.2.2
  have f1 := bd_28_34 hF
  have f2 := bd_28_35 hF
  refine lv_aload_n hx hb dX10_back_0 rfl (lv_at hl 0 rfl) ?_
  refine lv_iconst (v := iI 0) hx hb dX10_back_1 rfl ?_
  refine g_put (C := RX10) (T := TX10) (N := 44) (ci := 9) (ty := .int) (z := 0) hx hb hts in_X10_back_X10 tyX10 tyX10_ok nmX10 hown hK hI 28 (by decide) (cel_28 cy ad) rfl 0 (by decide) (by decide +kernel) rfl (by decide +kernel) rfl rfl (Nat.le_of_ble_eq_true rfl) rfl (bw_28_0 (by omega)) dX10_back_2 (fun H locs hI => ?_)
  have hF_1 := hI.2.2.2
  refine lv_aload_n hx hb dX10_back_5 rfl (lv_at hl 0 rfl) ?_
  refine lv_iload_n hx hb dX10_back_6 rfl (lv_at hl 1 rfl) ?_
  refine g_V (As := [.int (iI a0)]) (rest := []) 28 (c_X10_can l D cy ad (up2 σ 28 0 0) a0 (by omega)) hx hb hml hown hts hK hN hI hl.1 gX10_back_X10_can rfl hd_X10_can rfl rfl ⟨Nat.le_of_ble_eq_true rfl, Nat.le_of_ble_eq_true rfl⟩ ⟨Nat.zero_le _, Nat.zero_le _⟩ (by decide) (cel_28 cy ad _) rfl rfl rfl rfl (Nat.le_of_ble_eq_true rfl) dX10_back_7 (fun H locs hG_2 hI => ?_)
  refine g_if_ne (tgt := 15) hx hb dX10_back_10 (by decide) (by omega) (fun c_3 => ?_) (fun c_3 => ?_)
  · skip
    refine lv_aload_n hx hb dX10_back_15 rfl (lv_at hl 0 rfl) ?_
    refine lv_iconst (v := iI 0) hx hb dX10_back_16 rfl ?_
    refine g_put (C := RX10) (T := TX10) (N := 44) (ci := 9) (ty := .int) (z := 0) hx hb hts in_X10_back_X10 tyX10 tyX10_ok nmX10 hown hK hI 28 (by decide) (cel_28 cy ad) rfl 35 (by decide) (by decide +kernel) rfl (by decide +kernel) rfl rfl (Nat.le_of_ble_eq_true rfl) rfl (bw_28_35 (by omega)) dX10_back_17 (fun H locs hI => ?_)
    have hF_4 := hI.2.2.2
    refine lv_iconst (v := iI 0) hx hb dX10_back_20 rfl ?_
    refine lv_istore_n (lv' := [(2, .int (iI 0)), (0, .ref (ad 28)), (1, .int (iI a0))]) hx hb dX10_back_21 rfl hl (by decide) rfl (fun ls hl => ?_)
    refine w_L_X10_back_22 X  a0 ha0  83 0 (up2 (up2 σ 28 0 0) 28 35 0) (by omega) (by first | omega | (simp [up2_at] <;> omega)) (by first | omega | (simp [up2_at] <;> omega)) _ _ _ hI (lv_sub hl [1, 2, 0] rfl) (fun H locs ls hpo_18 hI hl => ?_)
    have hF_17 := hI.2.2.2
    refine lv_iload_n hx hb dX10_back_82 rfl (lv_at hl 0 rfl) ?_
    have e9 : f_X10_back σ a0 = ((L_X10_back_22 a0 83 0 (up2 (up2 σ 28 0 0) 28 35 0)).1, (L_X10_back_22 a0 83 0 (up2 (up2 σ 28 0 0) 28 35 0)).2) := by rw [f_X10_back, if_neg c_3]
    exact g_iret (z := (L_X10_back_22 a0 83 0 (up2 (up2 σ 28 0 0) 28 35 0)).1) hx hb hr hK hN hlocks hI (by rw [e9]) (by rw [e9]) trivial dX10_back_83
  · skip
    refine lv_iconst (v := iI (-1)) hx hb dX10_back_13 rfl ?_
    have e9 : f_X10_back σ a0 = ((-1), (up2 σ 28 0 0)) := by rw [f_X10_back, if_pos c_3]
    exact g_iret (z := (-1)) hx hb hr hK hN hlocks hI (by rw [e9]) (by rw [e9]) trivial dX10_back_14
