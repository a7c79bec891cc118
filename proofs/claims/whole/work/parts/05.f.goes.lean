theorem in_X10_takes__X10 : ∀ w ∈ u_ws RX10 TX10 44, w ∈ wsX10_takes_ := by decide +kernel
def f_X10_takes_ (σ : Sg) (gf : Sg → Int → Int → Int → Int × Sg) (a0 : Int) (a1 : Int) (a2 : Int) (a3 : Int) : Int × Sg := (if ((gf (up2 σ 40 a1.toNat a3) a0 (a1 + 1) (a2 + a3)).1) = 0 then (0, (gf (up2 σ 40 a1.toNat a3) a0 (a1 + 1) (a2 + a3)).2) else (1, (up2 (gf (up2 σ 40 a1.toNat a3) a0 (a1 + 1) (a2 + a3)).2 40 a1.toNat a3)))
theorem hd_X10_takes_ : yX10_takes_.cls = RX10 ∧ yX10_takes_.cls ≠ "java/lang/invoke/MethodHandle" ∧ yX10_takes_.cls ≠ "java/lang/invoke/VarHandle" ∧ (parseMethodDescriptor yX10_takes_.desc).map (fun d => d.parameters.length) = some 4 := by decide +kernel
set_option maxHeartbeats 4000000 in
set_option maxRecDepth 100000 in
theorem c_X10_takes_ (l : Launch) (D : va_G) (cy : Nat → ClassId) (ad : Nat → Nat) (σ : Sg) (gf : Sg → Int → Int → Int → Int × Sg) (rm : Room) (rmC : Room) (hfr : rmC.frames + 1 ≤ rm.frames) (hlo : 8 + (8 + 11) + rmC.locals ≤ rm.locals) (hc0 : rmC.cells = 0) (hs0 : rmC.slots = 0) (dd : Int) (hg : GOp l D cy ad gf rmC dd) (a0 : Int) (ha0 : (0 : Int) ≤ a0 ∧ a0 ≤ 159) (a1 : Int) (ha1 : (0 : Int) ≤ a1 ∧ a1 ≤ 12) (a2 : Int) (ha2 : (0 : Int) ≤ a2 ∧ a2 ≤ 12) (a3 : Int) (ha3 : (0 : Int) ≤ a3 ∧ a3 ≤ 12) (it0 : Int) (sz0 : Int) (hit : σ 28 10 = it0) (hsz : σ 30 a0.toNat = sz0) (hk : a1 < it0) (hf : a2 + a3 ≤ sz0) (hd : it0 - a1 ≤ dd + 1) : CM l D cy ad yX10_takes_ wsX10_takes_ rm [.ref (ad 28), .int (iI a0), .int (iI a1), .int (iI a2), .int (iI a3)] σ (some (.int (iI ((f_X10_takes_ σ gf a0 a1 a2 a3).1)))) ((f_X10_takes_ σ gf a0 a1 a2 a3).2) ((0 ≤ (f_X10_takes_ σ gf a0 a1 a2 a3).1 ∧ (f_X10_takes_ σ gf a0 a1 a2 a3).1 ≤ 1) ∧ ((f_X10_takes_ σ gf a0 a1 a2 a3).2) 28 10 = it0 ∧ ((f_X10_takes_ σ gf a0 a1 a2 a3).2) 30 a0.toNat = sz0) := by
  refine CM.of (cc := cX10_takes_) (maxL := 5) (ret := (some .boolean)) (by decide) rfl (Nat.le_of_ble_eq_true rfl) ?_
  intro p e s m args below meth c₀ ls X hI hl
  have hl : lv_has ls 5 [(0, .ref (ad 28)), (1, .int (iI a0)), (2, .int (iI a1)), (3, .int (iI a2)), (4, .int (iI a3))] := hl
  obtain ⟨hx, hb, hr, hml, hown, hts, hlocks, hK, hN⟩ := id X
  have hF := hI.2.2.2
  have f1 := bd_28_10 hF
  have f2 := bd_30 hF a0.toNat
  refine lv_aload_n hx hb dX10_takes__0 rfl (lv_at hl 0 rfl) ?_
  refine g_get (C := RX10) (T := TX10) (N := 44) (ci := 9) (v := .ref (ad 40)) hx hb hts in_X10_takes__X10 hown hK hI 28 (by decide) (cel_28 cy ad _) rfl 23 (by decide) (by decide +kernel) rfl dX10_takes__1 ?_
  refine lv_iload_n hx hb dX10_takes__4 rfl (lv_at hl 2 rfl) ?_
  refine lv_iload hx hb dX10_takes__5 (lv_at hl 4 rfl) ?_
  refine g_iast hx hb hK hI 40 (by decide) (cel_40 cy ad) (by omega) (by decide) (bw_40 (by omega)) dX10_takes__7 (fun H locs hI => ?_)
  have hF_1 : WF (up2 σ 40 a1.toNat a3) := hI.2.2.2
  refine lv_aload_n hx hb dX10_takes__8 rfl (lv_at hl 0 rfl) ?_
  refine lv_iload_n hx hb dX10_takes__9 rfl (lv_at hl 1 rfl) ?_
  refine lv_iload_n hx hb dX10_takes__10 rfl (lv_at hl 2 rfl) ?_
  refine lv_iconst (v := iI 1) hx hb dX10_takes__11 rfl ?_
  refine g_iadd hx hb dX10_takes__12 ?_
  refine lv_iload_n hx hb dX10_takes__13 rfl (lv_at hl 3 rfl) ?_
  refine lv_iload hx hb dX10_takes__14 (lv_at hl 4 rfl) ?_
  refine g_iadd hx hb dX10_takes__16 ?_
  refine g_V (As := [.int (iI a0), .int (iI (a1 + 1)), .int (iI (a2 + a3))]) (rest := []) 28 (hg (up2 σ 40 a1.toNat a3) a0 (by omega) (a1 + 1) (by omega) (a2 + a3) (by omega) it0 sz0 (by first | omega | (simp [up2_at] <;> omega)) (by first | omega | (simp [up2_at] <;> omega)) (by omega) (by omega) (by omega)) hx hb hml hown hts hK hN hI hl.1 gX10_takes__X10_goes rfl hd_X10_goesH hc0 hs0 ⟨hfr, hlo⟩ ⟨Nat.zero_le _, Nat.zero_le _⟩ (by decide) (cel_28 cy ad _) rfl rfl rfl rfl (Nat.le_of_ble_eq_true rfl) dX10_takes__17 (fun H locs hG_2 hI => ?_)
  have hF_3 := hI.2.2.2
  refine g_if_ne (tgt := 25) hx hb dX10_takes__20 (by decide) (by omega) (fun c_4 => ?_) (fun c_4 => ?_)
  · skip
    refine lv_aload_n hx hb dX10_takes__25 rfl (lv_at hl 0 rfl) ?_
    refine g_get (C := RX10) (T := TX10) (N := 44) (ci := 9) (v := .ref (ad 40)) hx hb hts in_X10_takes__X10 hown hK hI 28 (by decide) (cel_28 cy ad _) rfl 23 (by decide) (by decide +kernel) rfl dX10_takes__26 ?_
    refine lv_iload_n hx hb dX10_takes__29 rfl (lv_at hl 2 rfl) ?_
    refine lv_iload hx hb dX10_takes__30 (lv_at hl 4 rfl) ?_
    refine g_iast hx hb hK hI 40 (by decide) (cel_40 cy ad) (by omega) (by decide) (bw_40 (by omega)) dX10_takes__32 (fun H locs hI => ?_)
    have hF_5 : WF (up2 (gf (up2 σ 40 a1.toNat a3) a0 (a1 + 1) (a2 + a3)).2 40 a1.toNat a3) := hI.2.2.2
    refine lv_iconst (v := iI 1) hx hb dX10_takes__33 rfl ?_
    have e9 : f_X10_takes_ σ gf a0 a1 a2 a3 = (1, (up2 (gf (up2 σ 40 a1.toNat a3) a0 (a1 + 1) (a2 + a3)).2 40 a1.toNat a3)) := by rw [f_X10_takes_, if_neg c_4]
    exact g_zret (z := 1) hx hb hr hK hN hlocks hI (by rw [e9]) (by rw [e9]) (by rw [e9] <;> first | (refine ⟨?_, ?_, ?_⟩ <;> (try simp [up2_at]) <;> omega) | (dsimp only; refine ⟨?_, ?_, ?_⟩ <;> (try simp [up2_at]) <;> omega)) (by omega) dX10_takes__34
  · skip
    refine lv_iconst (v := iI 0) hx hb dX10_takes__23 rfl ?_
    have e9 : f_X10_takes_ σ gf a0 a1 a2 a3 = (0, (gf (up2 σ 40 a1.toNat a3) a0 (a1 + 1) (a2 + a3)).2) := by rw [f_X10_takes_, if_pos c_4]
    exact g_zret (z := 0) hx hb hr hK hN hlocks hI (by rw [e9]) (by rw [e9]) (by rw [e9] <;> first | (refine ⟨?_, ?_, ?_⟩ <;> (try simp [up2_at]) <;> omega) | (dsimp only; refine ⟨?_, ?_, ?_⟩ <;> (try simp [up2_at]) <;> omega)) (by omega) dX10_takes__24
theorem in_X10_goes_X10 : ∀ w ∈ u_ws RX10 TX10 44, w ∈ wsX10_goes := by decide +kernel
def L_X10_goes_108 (σ : Sg) (tf : Sg → Int → Int → Int → Int → Int × Sg) (a0 : Int) (a1 : Int) (a2 : Int) : Nat → Int → Int → Int
  | 0, x4, x6 => (x6)
  | n + 1, x4, x6 => (if x4 ≤ x6 then x6 else (if (f_X10_isFigure (σ 29 ((((12 * a0) + a2) + x6).toNat))) = 0 then x6 else L_X10_goes_108 σ tf a0 a1 a2 n x4 (x6 + 1)))
set_option maxHeartbeats 4000000 in
set_option maxRecDepth 100000 in
theorem w_L_X10_goes_108 {p : Program} {l : Launch} {e : Env} {s : State} {m : MethodId} {args : Array Value} {below : List Frame} {meth : Method} {c₀ : Code} {D : va_G} {cy : Nat → ClassId} {ad : Nat → Nat} {Q : State → Prop} (X : MX p s m args meth c₀ cX10_goes 8 RX10 (some .boolean) wsX10_goes D cy) (σ : Sg) (tf : Sg → Int → Int → Int → Int → Int × Sg) (rm : Room) (rmC : Room) (hfr : rmC.frames + 1 ≤ rm.frames) (hlo : 8 + (5 + 11) + rmC.locals ≤ rm.locals) (hc0 : rmC.cells = 0) (hs0 : rmC.slots = 0) (dd : Int) (ht : TKp l D cy ad tf rmC dd) (a0 : Int) (ha0 : (0 : Int) ≤ a0 ∧ a0 ≤ 159) (a1 : Int) (ha1 : (0 : Int) ≤ a1 ∧ a1 ≤ 12) (a2 : Int) (ha2 : (0 : Int) ≤ a2 ∧ a2 ≤ 12) (it0 : Int) (sz0 : Int) (hit : σ 28 10 = it0) (hsz : σ 30 a0.toNat = sz0) (hk : a1 ≤ it0) (hf : a2 ≤ sz0) (hd : it0 - a1 ≤ dd) : ∀ (n : Nat) (x4 : Int) (x6 : Int) (hx4 : (0 : Int) ≤ x4 ∧ x4 ≤ 12) (hx6 : (0 : Int) ≤ x6 ∧ x6 ≤ 12) (hp0 : x6 ≤ x4) (hp1 : x4 + a2 ≤ 12) (hmu : 12 - x6 < (n : Int)) (H : Heap) (locs : List Loc) (ls : Array Slot) (hI : HI D cy ad s σ H locs) (hl : lv_has ls 8 [(0, .ref (ad 28)), (1, .int (iI a0)), (2, .int (iI a1)), (3, .int (iI a2)), (4, .int (iI x4)), (6, .int (iI x6))])  (hk : ∀ (H1 : Heap) (locs1 : List Loc) (ls1 : Array Slot), (0 ≤ (L_X10_goes_108 σ tf a0 a1 a2 n x4 x6) ∧ (L_X10_goes_108 σ tf a0 a1 a2 n x4 x6) ≤ x4) → HI D cy ad s σ H1 locs1 → lv_has ls1 8 [(0, .ref (ad 28)), (1, .int (iI a0)), (2, .int (iI a1)), (3, .int (iI a2)), (6, .int (iI (L_X10_goes_108 σ tf a0 a1 a2 n x4 x6)))] → W p l e rm s m args below meth c₀ H1 locs1 0 0 Q (F0 m 141 ls1 [])), W p l e rm s m args below meth c₀ H locs 0 0 Q (F0 m 108 ls []) := by
  obtain ⟨hx, hb, hr, hml, hown, hts, hlocks, hK, hN⟩ := id X
  intro n
  induction n with
  | zero =>
    intro x4 x6 hx4 hx6 hp0 hp1 hmu H locs ls hI hl hk
    exfalso
    have hF := hI.2.2.2
    omega
  | succ n ih =>
    intro x4 x6 hx4 hx6 hp0 hp1 hmu H locs ls hI hl hk
    have hF := hI.2.2.2
    refine lv_iload hx hb dX10_goes_108 (lv_at hl 5 rfl) ?_
    refine lv_iload hx hb dX10_goes_110 (lv_at hl 4 rfl) ?_
    refine g_icmp_ge (tgt := 141) hx hb dX10_goes_112 (by decide) (by omega) (by omega) (fun c_23 => ?_) (fun c_23 => ?_)
    · skip
      have e9 : L_X10_goes_108 σ tf a0 a1 a2 (n + 1) x4 x6 = x6 := by rw [L_X10_goes_108, if_pos c_23]
      rw [e9] at hk
      exact hk _ _ _ (by first | (omega) | (dsimp only; omega)) hI (lv_sub hl [0, 1, 2, 3, 5] rfl)
    · skip
      refine lv_aload_n hx hb dX10_goes_115 rfl (lv_at hl 0 rfl) ?_
      refine g_get (C := RX10) (T := TX10) (N := 44) (ci := 9) (v := .ref (ad 29)) hx hb hts in_X10_goes_X10 hown hK hI 28 (by decide) (cel_28 cy ad _) rfl 1 (by decide) (by decide +kernel) rfl dX10_goes_116 ?_
      refine lv_bipush (v := iI 12) hx hb dX10_goes_119 (iI_bip (by decide)) ?_
      refine lv_iload_n hx hb dX10_goes_121 rfl (lv_at hl 1 rfl) ?_
      refine g_imul hx hb dX10_goes_122 ?_
      refine lv_iload_n hx hb dX10_goes_123 rfl (lv_at hl 3 rfl) ?_
      refine g_iadd hx hb dX10_goes_124 ?_
      refine lv_iload hx hb dX10_goes_125 (lv_at hl 5 rfl) ?_
      refine g_iadd hx hb dX10_goes_127 ?_
      refine g_bald (v := σ 29 ((((12 * a0) + a2) + x6).toNat)) hx hb hK hI 29 (by decide) (cel_29 cy ad) (by omega) (by decide) rfl dX10_goes_128 ?_
      have b_24 := bd_29 hF ((((12 * a0) + a2) + x6).toNat)
      refine g_S (As := [.int (iI (σ 29 ((((12 * a0) + a2) + x6).toNat)))]) (rest := []) (c_X10_isFigure l D cy ad σ (σ 29 ((((12 * a0) + a2) + x6).toNat)) (by omega)) hx hb hml hown hts hK hN hI hl.1 gX10_goes_X10_isFigure rfl hd_X10_isFigure rfl rfl ⟨by show 0 + 1 ≤ rm.frames; omega, by show 8 + (1 + 11) + 0 ≤ rm.locals; omega⟩ ⟨Nat.zero_le _, Nat.zero_le _⟩ rfl rfl (Nat.le_of_ble_eq_true rfl) dX10_goes_129 (fun H locs hG_25 hI => ?_)
      refine g_if_eq (tgt := 141) hx hb dX10_goes_132 (by decide) (by omega) (fun c_26 => ?_) (fun c_26 => ?_)
      · skip
        have e9 : L_X10_goes_108 σ tf a0 a1 a2 (n + 1) x4 x6 = x6 := by rw [L_X10_goes_108, if_neg c_23, if_pos c_26]
        rw [e9] at hk
        exact hk _ _ _ (by first | (omega) | (dsimp only; omega)) hI (lv_sub hl [0, 1, 2, 3, 5] rfl)
      · skip
        refine lv_iinc (v := iI (x6 + 1)) (lv' := [(6, .int (iI (x6 + 1))), (0, .ref (ad 28)), (1, .int (iI a0)), (2, .int (iI a1)), (3, .int (iI a2)), (4, .int (iI x4))]) hx hb dX10_goes_135 hl (k := 5) rfl (iI_add _ _) (by decide) rfl (fun ls hl => ?_)
        refine lv_goto (tgt := 108) hx hb dX10_goes_138 (by decide) ?_
        have e9 : L_X10_goes_108 σ tf a0 a1 a2 (n + 1) x4 x6 = L_X10_goes_108 σ tf a0 a1 a2 n x4 (x6 + 1) := by rw [L_X10_goes_108, if_neg c_23, if_neg c_26]
        rw [e9] at hk
        exact ih x4 (x6 + 1)  (by omega) (by omega) (by omega) (by omega) (by omega) _ _ _ hI (lv_sub hl [1, 2, 3, 4, 5, 0] rfl) hk
def L_X10_goes_145 (tf : Sg → Int → Int → Int → Int → Int × Sg) (a0 : Int) (a1 : Int) (a2 : Int) : Nat → Int → Sg → Int × Sg
  | 0, x7, σ => (0, σ)
  | n + 1, x7, σ => (if x7 < 1 then (0, (up2 σ 41 (((13 * a1) + a2).toNat) 1)) else (if ((tf σ a0 a1 a2 x7).1) = 0 then L_X10_goes_145 tf a0 a1 a2 n (x7 + (-1)) (tf σ a0 a1 a2 x7).2 else (1, (tf σ a0 a1 a2 x7).2)))
set_option maxHeartbeats 4000000 in
set_option maxRecDepth 100000 in
theorem w_L_X10_goes_145 {p : Program} {l : Launch} {e : Env} {s : State} {m : MethodId} {args : Array Value} {below : List Frame} {meth : Method} {c₀ : Code} {D : va_G} {cy : Nat → ClassId} {ad : Nat → Nat} (X : MX p s m args meth c₀ cX10_goes 8 RX10 (some .boolean) wsX10_goes D cy) (tf : Sg → Int → Int → Int → Int → Int × Sg) (rm : Room) (rmC : Room) (hfr : rmC.frames + 1 ≤ rm.frames) (hlo : 8 + (5 + 11) + rmC.locals ≤ rm.locals) (hc0 : rmC.cells = 0) (hs0 : rmC.slots = 0) (dd : Int) (ht : TKp l D cy ad tf rmC dd) (a0 : Int) (ha0 : (0 : Int) ≤ a0 ∧ a0 ≤ 159) (a1 : Int) (ha1 : (0 : Int) ≤ a1 ∧ a1 ≤ 12) (a2 : Int) (ha2 : (0 : Int) ≤ a2 ∧ a2 ≤ 12) (it0 : Int) (sz0 : Int) (hk : a1 ≤ it0) (hf : a2 ≤ sz0) (hd : it0 - a1 ≤ dd) : ∀ (n : Nat) (x7 : Int) (σ : Sg) (hx7 : (0 : Int) ≤ x7 ∧ x7 ≤ 12) (hp0 : σ 28 10 = it0) (hp1 : σ 30 a0.toNat = sz0) (hp2 : a1 < it0) (hp3 : x7 + a2 ≤ sz0 ∨ x7 = 0) (hmu : x7 < (n : Int)) (H : Heap) (locs : List Loc) (ls : Array Slot) (hI : HI D cy ad s σ H locs) (hl : lv_has ls 8 [(0, .ref (ad 28)), (1, .int (iI a0)), (2, .int (iI a1)), (3, .int (iI a2)), (7, .int (iI x7))]), W p l e rm s m args below meth c₀ H locs 0 0 (MQ below (CQ D cy ad (some (.int (iI ((L_X10_goes_145 tf a0 a1 a2 n x7 σ).1)))) ((L_X10_goes_145 tf a0 a1 a2 n x7 σ).2) ((0 ≤ (L_X10_goes_145 tf a0 a1 a2 n x7 σ).1 ∧ (L_X10_goes_145 tf a0 a1 a2 n x7 σ).1 ≤ 1) ∧ ((L_X10_goes_145 tf a0 a1 a2 n x7 σ).2) 28 10 = it0 ∧ ((L_X10_goes_145 tf a0 a1 a2 n x7 σ).2) 30 a0.toNat = sz0) (AA ad s.heap.size)) args s 0 0 (AA ad s.heap.size)) (F0 m 145 ls []) := by
  obtain ⟨hx, hb, hr, hml, hown, hts, hlocks, hK, hN⟩ := id X
  intro n
  induction n with
  | zero =>
    intro x7 σ hx7 hp0 hp1 hp2 hp3 hmu H locs ls hI hl
    exfalso
    have hF := hI.2.2.2
    omega
  | succ n ih =>
    intro x7 σ hx7 hp0 hp1 hp2 hp3 hmu H locs ls hI hl
    have hF := hI.2.2.2
    have f1 := bd_28_10 hF
    have f2 := bd_30 hF a0.toNat
    refine lv_iload hx hb dX10_goes_145 (lv_at hl 4 rfl) ?_
    refine lv_iconst (v := iI 1) hx hb dX10_goes_147 rfl ?_
    refine g_icmp_lt (tgt := 171) hx hb dX10_goes_148 (by decide) (by omega) (by omega) (fun c_29 => ?_) (fun c_29 => ?_)
    · skip
      refine lv_goto (tgt := 215) hx hb dX10_goes_171 (by decide) ?_
      refine lv_aload_n hx hb dX10_goes_215 rfl (lv_at hl 0 rfl) ?_
      refine g_get (C := RX10) (T := TX10) (N := 44) (ci := 9) (v := .ref (ad 41)) hx hb hts in_X10_goes_X10 hown hK hI 28 (by decide) (cel_28 cy ad _) rfl 24 (by decide) (by decide +kernel) rfl dX10_goes_216 ?_
      refine lv_bipush (v := iI 13) hx hb dX10_goes_219 (iI_bip (by decide)) ?_
      refine lv_iload_n hx hb dX10_goes_221 rfl (lv_at hl 2 rfl) ?_
      refine g_imul hx hb dX10_goes_222 ?_
      refine lv_iload_n hx hb dX10_goes_223 rfl (lv_at hl 3 rfl) ?_
      refine g_iadd hx hb dX10_goes_224 ?_
      refine lv_iconst (v := iI 1) hx hb dX10_goes_225 rfl ?_
      refine g_zast hx hb hK hI 41 (by decide) (cel_41 cy ad) (by omega) (by decide) (by omega) (bw_41 (by omega)) dX10_goes_226 (fun H locs hI => ?_)
      have hF_30 : WF (up2 σ 41 (((13 * a1) + a2).toNat) 1) := hI.2.2.2
      refine lv_iconst (v := iI 0) hx hb dX10_goes_227 rfl ?_
      have e9 : L_X10_goes_145 tf a0 a1 a2 (n + 1) x7 σ = (0, (up2 σ 41 (((13 * a1) + a2).toNat) 1)) := by rw [L_X10_goes_145, if_pos c_29]
      exact g_zret (z := 0) hx hb hr hK hN hlocks hI (by rw [e9]) (by rw [e9]) (by rw [e9] <;> first | (refine ⟨?_, ?_, ?_⟩ <;> (try simp [up2_at]) <;> omega) | (dsimp only; refine ⟨?_, ?_, ?_⟩ <;> (try simp [up2_at]) <;> omega)) (by omega) dX10_goes_228
    · skip
      refine lv_aload_n hx hb dX10_goes_151 rfl (lv_at hl 0 rfl) ?_
      refine lv_iload_n hx hb dX10_goes_152 rfl (lv_at hl 1 rfl) ?_
      refine lv_iload_n hx hb dX10_goes_153 rfl (lv_at hl 2 rfl) ?_
      refine lv_iload_n hx hb dX10_goes_154 rfl (lv_at hl 3 rfl) ?_
      refine lv_iload hx hb dX10_goes_155 (lv_at hl 4 rfl) ?_
      refine g_V (As := [.int (iI a0), .int (iI a1), .int (iI a2), .int (iI x7)]) (rest := []) 28 (ht σ a0 (by omega) a1 (by omega) a2 (by omega) x7 (by omega) it0 sz0 (by omega) (by omega) (by omega) (by omega) (by omega)) hx hb hml hown hts hK hN hI hl.1 gX10_goes_X10_takes_ rfl hd_X10_takes_ hc0 hs0 ⟨hfr, hlo⟩ ⟨Nat.zero_le _, Nat.zero_le _⟩ (by decide) (cel_28 cy ad _) rfl rfl rfl rfl (Nat.le_of_ble_eq_true rfl) dX10_goes_157 (fun H locs hG_31 hI => ?_)
      have hF_32 := hI.2.2.2
      refine g_if_eq (tgt := 165) hx hb dX10_goes_160 (by decide) (by omega) (fun c_33 => ?_) (fun c_33 => ?_)
      · skip
        refine lv_iinc (v := iI (x7 + (-1))) (lv' := [(7, .int (iI (x7 + (-1)))), (0, .ref (ad 28)), (1, .int (iI a0)), (2, .int (iI a1)), (3, .int (iI a2))]) hx hb dX10_goes_165 hl (k := 4) rfl (iI_add _ _) (by decide) rfl (fun ls hl => ?_)
        refine lv_goto (tgt := 145) hx hb dX10_goes_168 (by decide) ?_
        have e9 : L_X10_goes_145 tf a0 a1 a2 (n + 1) x7 σ = L_X10_goes_145 tf a0 a1 a2 n (x7 + (-1)) (tf σ a0 a1 a2 x7).2 := by rw [L_X10_goes_145, if_neg c_29, if_pos c_33]
        rw [e9]
        exact ih (x7 + (-1)) (tf σ a0 a1 a2 x7).2 (by omega) (by omega) (by omega) (by omega) (by omega) (by omega) _ _ _ hI (lv_sub hl [1, 2, 3, 4, 0] rfl)
      · skip
        refine lv_iconst (v := iI 1) hx hb dX10_goes_163 rfl ?_
        have e9 : L_X10_goes_145 tf a0 a1 a2 (n + 1) x7 σ = (1, (tf σ a0 a1 a2 x7).2) := by rw [L_X10_goes_145, if_neg c_29, if_neg c_33]
        exact g_zret (z := 1) hx hb hr hK hN hlocks hI (by rw [e9]) (by rw [e9]) (by rw [e9] <;> first | (refine ⟨?_, ?_, ?_⟩ <;> (try simp [up2_at]) <;> omega) | (dsimp only; refine ⟨?_, ?_, ?_⟩ <;> (try simp [up2_at]) <;> omega)) (by omega) dX10_goes_164
def L_X10_goes_68 (tf : Sg → Int → Int → Int → Int → Int × Sg) (a0 : Int) (a1 : Int) (a2 : Int) : Nat → Int → Int → Sg → Int × Sg
  | 0, x4, x6, σ => (0, σ)
  | n + 1, x4, x6, σ => (if x4 < x6 then (0, (up2 σ 41 (((13 * a1) + a2).toNat) 1)) else (if ((tf σ a0 a1 a2 x6).1) = 0 then L_X10_goes_68 tf a0 a1 a2 n x4 (x6 + 1) (tf σ a0 a1 a2 x6).2 else (1, (tf σ a0 a1 a2 x6).2)))
set_option maxHeartbeats 4000000 in
set_option maxRecDepth 100000 in
theorem w_L_X10_goes_68 {p : Program} {l : Launch} {e : Env} {s : State} {m : MethodId} {args : Array Value} {below : List Frame} {meth : Method} {c₀ : Code} {D : va_G} {cy : Nat → ClassId} {ad : Nat → Nat} (X : MX p s m args meth c₀ cX10_goes 8 RX10 (some .boolean) wsX10_goes D cy) (tf : Sg → Int → Int → Int → Int → Int × Sg) (rm : Room) (rmC : Room) (hfr : rmC.frames + 1 ≤ rm.frames) (hlo : 8 + (5 + 11) + rmC.locals ≤ rm.locals) (hc0 : rmC.cells = 0) (hs0 : rmC.slots = 0) (dd : Int) (ht : TKp l D cy ad tf rmC dd) (a0 : Int) (ha0 : (0 : Int) ≤ a0 ∧ a0 ≤ 159) (a1 : Int) (ha1 : (0 : Int) ≤ a1 ∧ a1 ≤ 12) (a2 : Int) (ha2 : (0 : Int) ≤ a2 ∧ a2 ≤ 12) (it0 : Int) (sz0 : Int) (hk : a1 ≤ it0) (hf : a2 ≤ sz0) (hd : it0 - a1 ≤ dd) : ∀ (n : Nat) (x4 : Int) (x6 : Int) (σ : Sg) (hx4 : (0 : Int) ≤ x4 ∧ x4 ≤ 12) (hx6 : (0 : Int) ≤ x6 ∧ x6 ≤ 13) (hp0 : σ 28 10 = it0) (hp1 : σ 30 a0.toNat = sz0) (hp2 : a1 < it0) (hp3 : x4 = sz0 - a2) (hmu : 13 - x6 < (n : Int)) (H : Heap) (locs : List Loc) (ls : Array Slot) (hI : HI D cy ad s σ H locs) (hl : lv_has ls 8 [(0, .ref (ad 28)), (1, .int (iI a0)), (2, .int (iI a1)), (3, .int (iI a2)), (4, .int (iI x4)), (6, .int (iI x6))]), W p l e rm s m args below meth c₀ H locs 0 0 (MQ below (CQ D cy ad (some (.int (iI ((L_X10_goes_68 tf a0 a1 a2 n x4 x6 σ).1)))) ((L_X10_goes_68 tf a0 a1 a2 n x4 x6 σ).2) ((0 ≤ (L_X10_goes_68 tf a0 a1 a2 n x4 x6 σ).1 ∧ (L_X10_goes_68 tf a0 a1 a2 n x4 x6 σ).1 ≤ 1) ∧ ((L_X10_goes_68 tf a0 a1 a2 n x4 x6 σ).2) 28 10 = it0 ∧ ((L_X10_goes_68 tf a0 a1 a2 n x4 x6 σ).2) 30 a0.toNat = sz0) (AA ad s.heap.size)) args s 0 0 (AA ad s.heap.size)) (F0 m 68 ls []) := by
  obtain ⟨hx, hb, hr, hml, hown, hts, hlocks, hK, hN⟩ := id X
  intro n
  induction n with
  | zero =>
    intro x4 x6 σ hx4 hx6 hp0 hp1 hp2 hp3 hmu H locs ls hI hl
    exfalso
    have hF := hI.2.2.2
    omega
  | succ n ih =>
    intro x4 x6 σ hx4 hx6 hp0 hp1 hp2 hp3 hmu H locs ls hI hl
    have hF := hI.2.2.2
    have f1 := bd_28_10 hF
    have f2 := bd_30 hF a0.toNat
    refine lv_iload hx hb dX10_goes_68 (lv_at hl 5 rfl) ?_
    refine lv_iload hx hb dX10_goes_70 (lv_at hl 4 rfl) ?_
    refine g_icmp_gt (tgt := 95) hx hb dX10_goes_72 (by decide) (by omega) (by omega) (fun c_34 => ?_) (fun c_34 => ?_)
    · skip
      refine lv_goto (tgt := 215) hx hb dX10_goes_95 (by decide) ?_
      refine lv_aload_n hx hb dX10_goes_215 rfl (lv_at hl 0 rfl) ?_
      refine g_get (C := RX10) (T := TX10) (N := 44) (ci := 9) (v := .ref (ad 41)) hx hb hts in_X10_goes_X10 hown hK hI 28 (by decide) (cel_28 cy ad _) rfl 24 (by decide) (by decide +kernel) rfl dX10_goes_216 ?_
      refine lv_bipush (v := iI 13) hx hb dX10_goes_219 (iI_bip (by decide)) ?_
      refine lv_iload_n hx hb dX10_goes_221 rfl (lv_at hl 2 rfl) ?_
      refine g_imul hx hb dX10_goes_222 ?_
      refine lv_iload_n hx hb dX10_goes_223 rfl (lv_at hl 3 rfl) ?_
      refine g_iadd hx hb dX10_goes_224 ?_
      refine lv_iconst (v := iI 1) hx hb dX10_goes_225 rfl ?_
      refine g_zast hx hb hK hI 41 (by decide) (cel_41 cy ad) (by omega) (by decide) (by omega) (bw_41 (by omega)) dX10_goes_226 (fun H locs hI => ?_)
      have hF_35 : WF (up2 σ 41 (((13 * a1) + a2).toNat) 1) := hI.2.2.2
      refine lv_iconst (v := iI 0) hx hb dX10_goes_227 rfl ?_
      have e9 : L_X10_goes_68 tf a0 a1 a2 (n + 1) x4 x6 σ = (0, (up2 σ 41 (((13 * a1) + a2).toNat) 1)) := by rw [L_X10_goes_68, if_pos c_34]
      exact g_zret (z := 0) hx hb hr hK hN hlocks hI (by rw [e9]) (by rw [e9]) (by rw [e9] <;> first | (refine ⟨?_, ?_, ?_⟩ <;> (try simp [up2_at]) <;> omega) | (dsimp only; refine ⟨?_, ?_, ?_⟩ <;> (try simp [up2_at]) <;> omega)) (by omega) dX10_goes_228
    · skip
      refine lv_aload_n hx hb dX10_goes_75 rfl (lv_at hl 0 rfl) ?_
      refine lv_iload_n hx hb dX10_goes_76 rfl (lv_at hl 1 rfl) ?_
      refine lv_iload_n hx hb dX10_goes_77 rfl (lv_at hl 2 rfl) ?_
      refine lv_iload_n hx hb dX10_goes_78 rfl (lv_at hl 3 rfl) ?_
      refine lv_iload hx hb dX10_goes_79 (lv_at hl 5 rfl) ?_
      refine g_V (As := [.int (iI a0), .int (iI a1), .int (iI a2), .int (iI x6)]) (rest := []) 28 (ht σ a0 (by omega) a1 (by omega) a2 (by omega) x6 (by omega) it0 sz0 (by omega) (by omega) (by omega) (by omega) (by omega)) hx hb hml hown hts hK hN hI hl.1 gX10_goes_X10_takes_ rfl hd_X10_takes_ hc0 hs0 ⟨hfr, hlo⟩ ⟨Nat.zero_le _, Nat.zero_le _⟩ (by decide) (cel_28 cy ad _) rfl rfl rfl rfl (Nat.le_of_ble_eq_true rfl) dX10_goes_81 (fun H locs hG_36 hI => ?_)
      have hF_37 := hI.2.2.2
      refine g_if_eq (tgt := 89) hx hb dX10_goes_84 (by decide) (by omega) (fun c_38 => ?_) (fun c_38 => ?_)
      · skip
        refine lv_iinc (v := iI (x6 + 1)) (lv' := [(6, .int (iI (x6 + 1))), (0, .ref (ad 28)), (1, .int (iI a0)), (2, .int (iI a1)), (3, .int (iI a2)), (4, .int (iI x4))]) hx hb dX10_goes_89 hl (k := 5) rfl (iI_add _ _) (by decide) rfl (fun ls hl => ?_)
        refine lv_goto (tgt := 68) hx hb dX10_goes_92 (by decide) ?_
        have e9 : L_X10_goes_68 tf a0 a1 a2 (n + 1) x4 x6 σ = L_X10_goes_68 tf a0 a1 a2 n x4 (x6 + 1) (tf σ a0 a1 a2 x6).2 := by rw [L_X10_goes_68, if_neg c_34, if_pos c_38]
        rw [e9]
        exact ih x4 (x6 + 1) (tf σ a0 a1 a2 x6).2 (by omega) (by omega) (by omega) (by omega) (by omega) (by omega) (by omega) _ _ _ hI (lv_sub hl [1, 2, 3, 4, 5, 0] rfl)
      · skip
        refine lv_iconst (v := iI 1) hx hb dX10_goes_87 rfl ?_
        have e9 : L_X10_goes_68 tf a0 a1 a2 (n + 1) x4 x6 σ = (1, (tf σ a0 a1 a2 x6).2) := by rw [L_X10_goes_68, if_neg c_34, if_neg c_38]
        exact g_zret (z := 1) hx hb hr hK hN hlocks hI (by rw [e9]) (by rw [e9]) (by rw [e9] <;> first | (refine ⟨?_, ?_, ?_⟩ <;> (try simp [up2_at]) <;> omega) | (dsimp only; refine ⟨?_, ?_, ?_⟩ <;> (try simp [up2_at]) <;> omega)) (by omega) dX10_goes_88
def f_X10_goes (σ : Sg) (tf : Sg → Int → Int → Int → Int → Int × Sg) (a0 : Int) (a1 : Int) (a2 : Int) : Int × Sg := (if a1 = (σ 28 10) then (if a2 = (σ 30 a0.toNat) then (1, σ) else (0, σ)) else (if (σ 41 (((13 * a1) + a2).toNat)) = 0 then (if (σ 34 a1.toNat) = 42 then L_X10_goes_68 tf a0 a1 a2 14 ((σ 30 a0.toNat) - a2) 0 σ else (if (σ 34 a1.toNat) = 35 then L_X10_goes_145 tf a0 a1 a2 13 (L_X10_goes_108 σ tf a0 a1 a2 13 ((σ 30 a0.toNat) - a2) 0) σ else (if ((σ 30 a0.toNat) - a2) ≤ 0 then (0, (up2 σ 41 (((13 * a1) + a2).toNat) 1)) else (if (σ 34 a1.toNat) = 63 then (if ((tf σ a0 a1 a2 1).1) = 0 then (0, (up2 (tf σ a0 a1 a2 1).2 41 (((13 * a1) + a2).toNat) 1)) else (1, (tf σ a0 a1 a2 1).2)) else (if (σ 29 (((12 * a0) + a2).toNat)) = (σ 34 a1.toNat) then (if ((tf σ a0 a1 a2 1).1) = 0 then (0, (up2 (tf σ a0 a1 a2 1).2 41 (((13 * a1) + a2).toNat) 1)) else (1, (tf σ a0 a1 a2 1).2)) else (0, (up2 σ 41 (((13 * a1) + a2).toNat) 1))))))) else (0, σ)))
theorem hd_X10_goes : yX10_goes.cls = RX10 ∧ yX10_goes.cls ≠ "java/lang/invoke/MethodHandle" ∧ yX10_goes.cls ≠ "java/lang/invoke/VarHandle" ∧ (parseMethodDescriptor yX10_goes.desc).map (fun d => d.parameters.length) = some 3 := by decide +kernel
set_option maxHeartbeats 4000000 in
set_option maxRecDepth 100000 in
theorem c_X10_goes (l : Launch) (D : va_G) (cy : Nat → ClassId) (ad : Nat → Nat) (σ : Sg) (tf : Sg → Int → Int → Int → Int → Int × Sg) (rm : Room) (rmC : Room) (hfr : rmC.frames + 1 ≤ rm.frames) (hlo : 8 + (5 + 11) + rmC.locals ≤ rm.locals) (hc0 : rmC.cells = 0) (hs0 : rmC.slots = 0) (dd : Int) (ht : TKp l D cy ad tf rmC dd) (a0 : Int) (ha0 : (0 : Int) ≤ a0 ∧ a0 ≤ 159) (a1 : Int) (ha1 : (0 : Int) ≤ a1 ∧ a1 ≤ 12) (a2 : Int) (ha2 : (0 : Int) ≤ a2 ∧ a2 ≤ 12) (it0 : Int) (sz0 : Int) (hit : σ 28 10 = it0) (hsz : σ 30 a0.toNat = sz0) (hk : a1 ≤ it0) (hf : a2 ≤ sz0) (hd : it0 - a1 ≤ dd) : CM l D cy ad yX10_goes wsX10_goes rm [.ref (ad 28), .int (iI a0), .int (iI a1), .int (iI a2)] σ (some (.int (iI ((f_X10_goes σ tf a0 a1 a2).1)))) ((f_X10_goes σ tf a0 a1 a2).2) ((0 ≤ (f_X10_goes σ tf a0 a1 a2).1 ∧ (f_X10_goes σ tf a0 a1 a2).1 ≤ 1) ∧ ((f_X10_goes σ tf a0 a1 a2).2) 28 10 = it0 ∧ ((f_X10_goes σ tf a0 a1 a2).2) 30 a0.toNat = sz0) := by
  refine CM.of (cc := cX10_goes) (maxL := 8) (ret := (some .boolean)) (by decide) rfl (Nat.le_of_ble_eq_true rfl) ?_
  intro p e s m args below meth c₀ ls X hI hl
  have hl : lv_has ls 8 [(0, .ref (ad 28)), (1, .int (iI a0)), (2, .int (iI a1)), (3, .int (iI a2))] := hl
  obtain ⟨hx, hb, hr, hml, hown, hts, hlocks, hK, hN⟩ := id X
  have hF := hI.2.2.2
  have f1 := bd_28_10 hF
  have f2 := bd_30 hF a0.toNat
  refine lv_iload_n hx hb dX10_goes_0 rfl (lv_at hl 2 rfl) ?_
  refine lv_aload_n hx hb dX10_goes_1 rfl (lv_at hl 0 rfl) ?_
  refine g_get (C := RX10) (T := TX10) (N := 44) (ci := 9) (v := .int (iI (σ 28 10))) hx hb hts in_X10_goes_X10 hown hK hI 28 (by decide) (cel_28 cy ad _) rfl 10 (by decide) (by decide +kernel) rfl dX10_goes_2 ?_
  have b_1 := bd_28_10 hF
  refine g_icmp_ne (tgt := 24) hx hb dX10_goes_5 (by decide) (by omega) (by omega) (fun c_2 => ?_) (fun c_2 => ?_)
  · skip
    refine lv_aload_n hx hb dX10_goes_24 rfl (lv_at hl 0 rfl) ?_
    refine g_get (C := RX10) (T := TX10) (N := 44) (ci := 9) (v := .ref (ad 41)) hx hb hts in_X10_goes_X10 hown hK hI 28 (by decide) (cel_28 cy ad _) rfl 24 (by decide) (by decide +kernel) rfl dX10_goes_25 ?_
    refine lv_bipush (v := iI 13) hx hb dX10_goes_28 (iI_bip (by decide)) ?_
    refine lv_iload_n hx hb dX10_goes_30 rfl (lv_at hl 2 rfl) ?_
    refine g_imul hx hb dX10_goes_31 ?_
    refine lv_iload_n hx hb dX10_goes_32 rfl (lv_at hl 3 rfl) ?_
    refine g_iadd hx hb dX10_goes_33 ?_
    refine g_zald (v := σ 41 (((13 * a1) + a2).toNat)) hx hb hK hI 41 (by decide) (cel_41 cy ad) (by omega) (by decide) rfl dX10_goes_34 ?_
    have b_3 := bd_41 hF (((13 * a1) + a2).toNat)
    refine g_if_eq (tgt := 40) hx hb dX10_goes_35 (by decide) (by omega) (fun c_4 => ?_) (fun c_4 => ?_)
    · skip
      refine lv_aload_n hx hb dX10_goes_40 rfl (lv_at hl 0 rfl) ?_
      refine g_get (C := RX10) (T := TX10) (N := 44) (ci := 9) (v := .ref (ad 30)) hx hb hts in_X10_goes_X10 hown hK hI 28 (by decide) (cel_28 cy ad _) rfl 2 (by decide) (by decide +kernel) rfl dX10_goes_41 ?_
      refine lv_iload_n hx hb dX10_goes_44 rfl (lv_at hl 1 rfl) ?_
      refine g_iald (v := σ 30 a0.toNat) hx hb hK hI 30 (by decide) (cel_30 cy ad) (by omega) (by decide) rfl dX10_goes_45 ?_
      have b_5 := bd_30 hF a0.toNat
      refine lv_iload_n hx hb dX10_goes_46 rfl (lv_at hl 3 rfl) ?_
      refine g_isub hx hb dX10_goes_47 ?_
      refine lv_istore (lv' := [(4, .int (iI ((σ 30 a0.toNat) - a2))), (0, .ref (ad 28)), (1, .int (iI a0)), (2, .int (iI a1)), (3, .int (iI a2))]) hx hb dX10_goes_48 hl (by decide) rfl (fun ls hl => ?_)
      refine lv_aload_n hx hb dX10_goes_50 rfl (lv_at hl 1 rfl) ?_
      refine g_get (C := RX10) (T := TX10) (N := 44) (ci := 9) (v := .ref (ad 34)) hx hb hts in_X10_goes_X10 hown hK hI 28 (by decide) (cel_28 cy ad _) rfl 12 (by decide) (by decide +kernel) rfl dX10_goes_51 ?_
      refine lv_iload_n hx hb dX10_goes_54 rfl (lv_at hl 3 rfl) ?_
      refine g_iald (v := σ 34 a1.toNat) hx hb hK hI 34 (by decide) (cel_34 cy ad) (by omega) (by decide) rfl dX10_goes_55 ?_
      have b_6 := bd_34 hF a1.toNat
      refine lv_istore (lv' := [(5, .int (iI (σ 34 a1.toNat))), (4, .int (iI ((σ 30 a0.toNat) - a2))), (0, .ref (ad 28)), (1, .int (iI a0)), (2, .int (iI a1)), (3, .int (iI a2))]) hx hb dX10_goes_56 hl (by decide) rfl (fun ls hl => ?_)
      refine lv_iload hx hb dX10_goes_58 (lv_at hl 0 rfl) ?_
      refine lv_bipush (v := iI 42) hx hb dX10_goes_60 (iI_bip (by decide)) ?_
      refine g_icmp_ne (tgt := 98) hx hb dX10_goes_62 (by decide) (by omega) (by omega) (fun c_7 => ?_) (fun c_7 => ?_)
      · skip
        refine lv_iload hx hb dX10_goes_98 (lv_at hl 0 rfl) ?_
        refine lv_bipush (v := iI 35) hx hb dX10_goes_100 (iI_bip (by decide)) ?_
        refine g_icmp_ne (tgt := 174) hx hb dX10_goes_102 (by decide) (by omega) (by omega) (fun c_8 => ?_) (fun c_8 => ?_)
        · skip
          refine lv_iload hx hb dX10_goes_174 (lv_at hl 1 rfl) ?_
          refine g_if_le (tgt := 215) hx hb dX10_goes_176 (by decide) (by omega) (fun c_9 => ?_) (fun c_9 => ?_)
          · skip
            refine lv_aload_n hx hb dX10_goes_215 rfl (lv_at hl 2 rfl) ?_
            refine g_get (C := RX10) (T := TX10) (N := 44) (ci := 9) (v := .ref (ad 41)) hx hb hts in_X10_goes_X10 hown hK hI 28 (by decide) (cel_28 cy ad _) rfl 24 (by decide) (by decide +kernel) rfl dX10_goes_216 ?_
            refine lv_bipush (v := iI 13) hx hb dX10_goes_219 (iI_bip (by decide)) ?_
            refine lv_iload_n hx hb dX10_goes_221 rfl (lv_at hl 4 rfl) ?_
            refine g_imul hx hb dX10_goes_222 ?_
            refine lv_iload_n hx hb dX10_goes_223 rfl (lv_at hl 5 rfl) ?_
            refine g_iadd hx hb dX10_goes_224 ?_
            refine lv_iconst (v := iI 1) hx hb dX10_goes_225 rfl ?_
            refine g_zast hx hb hK hI 41 (by decide) (cel_41 cy ad) (by omega) (by decide) (by omega) (bw_41 (by omega)) dX10_goes_226 (fun H locs hI => ?_)
            have hF_10 : WF (up2 σ 41 (((13 * a1) + a2).toNat) 1) := hI.2.2.2
            refine lv_iconst (v := iI 0) hx hb dX10_goes_227 rfl ?_
            have e9 : f_X10_goes σ tf a0 a1 a2 = (0, (up2 σ 41 (((13 * a1) + a2).toNat) 1)) := by rw [f_X10_goes, if_neg c_2, if_pos c_4, if_neg c_7, if_neg c_8, if_pos c_9]
            exact g_zret (z := 0) hx hb hr hK hN hlocks hI (by rw [e9]) (by rw [e9]) (by rw [e9] <;> first | (refine ⟨?_, ?_, ?_⟩ <;> (try simp [up2_at]) <;> omega) | (dsimp only; refine ⟨?_, ?_, ?_⟩ <;> (try simp [up2_at]) <;> omega)) (by omega) dX10_goes_228
          · skip
            refine lv_iload hx hb dX10_goes_179 (lv_at hl 0 rfl) ?_
            refine lv_bipush (v := iI 63) hx hb dX10_goes_181 (iI_bip (by decide)) ?_
            refine g_icmp_eq (tgt := 202) hx hb dX10_goes_183 (by decide) (by omega) (by omega) (fun c_11 => ?_) (fun c_11 => ?_)
            · skip
              refine lv_aload_n hx hb dX10_goes_202 rfl (lv_at hl 2 rfl) ?_
              refine lv_iload_n hx hb dX10_goes_203 rfl (lv_at hl 3 rfl) ?_
              refine lv_iload_n hx hb dX10_goes_204 rfl (lv_at hl 4 rfl) ?_
              refine lv_iload_n hx hb dX10_goes_205 rfl (lv_at hl 5 rfl) ?_
              refine lv_iconst (v := iI 1) hx hb dX10_goes_206 rfl ?_
              refine g_V (As := [.int (iI a0), .int (iI a1), .int (iI a2), .int (iI 1)]) (rest := []) 28 (ht σ a0 (by omega) a1 (by omega) a2 (by omega) 1 (by omega) it0 sz0 (by omega) (by omega) (by omega) (by omega) (by omega)) hx hb hml hown hts hK hN hI hl.1 gX10_goes_X10_takes_ rfl hd_X10_takes_ hc0 hs0 ⟨hfr, hlo⟩ ⟨Nat.zero_le _, Nat.zero_le _⟩ (by decide) (cel_28 cy ad _) rfl rfl rfl rfl (Nat.le_of_ble_eq_true rfl) dX10_goes_207 (fun H locs hG_12 hI => ?_)
              have hF_13 := hI.2.2.2
              refine g_if_eq (tgt := 215) hx hb dX10_goes_210 (by decide) (by omega) (fun c_14 => ?_) (fun c_14 => ?_)
              · skip
                refine lv_aload_n hx hb dX10_goes_215 rfl (lv_at hl 2 rfl) ?_
                refine g_get (C := RX10) (T := TX10) (N := 44) (ci := 9) (v := .ref (ad 41)) hx hb hts in_X10_goes_X10 hown hK hI 28 (by decide) (cel_28 cy ad _) rfl 24 (by decide) (by decide +kernel) rfl dX10_goes_216 ?_
                refine lv_bipush (v := iI 13) hx hb dX10_goes_219 (iI_bip (by decide)) ?_
                refine lv_iload_n hx hb dX10_goes_221 rfl (lv_at hl 4 rfl) ?_
                refine g_imul hx hb dX10_goes_222 ?_
                refine lv_iload_n hx hb dX10_goes_223 rfl (lv_at hl 5 rfl) ?_
                refine g_iadd hx hb dX10_goes_224 ?_
                refine lv_iconst (v := iI 1) hx hb dX10_goes_225 rfl ?_
                refine g_zast hx hb hK hI 41 (by decide) (cel_41 cy ad) (by omega) (by decide) (by omega) (bw_41 (by omega)) dX10_goes_226 (fun H locs hI => ?_)
                have hF_15 : WF (up2 (tf σ a0 a1 a2 1).2 41 (((13 * a1) + a2).toNat) 1) := hI.2.2.2
                refine lv_iconst (v := iI 0) hx hb dX10_goes_227 rfl ?_
                have e9 : f_X10_goes σ tf a0 a1 a2 = (0, (up2 (tf σ a0 a1 a2 1).2 41 (((13 * a1) + a2).toNat) 1)) := by rw [f_X10_goes, if_neg c_2, if_pos c_4, if_neg c_7, if_neg c_8, if_neg c_9, if_pos c_11, if_pos c_14]
                exact g_zret (z := 0) hx hb hr hK hN hlocks hI (by rw [e9]) (by rw [e9]) (by rw [e9] <;> first | (refine ⟨?_, ?_, ?_⟩ <;> (try simp [up2_at]) <;> omega) | (dsimp only; refine ⟨?_, ?_, ?_⟩ <;> (try simp [up2_at]) <;> omega)) (by omega) dX10_goes_228
              · skip
                refine lv_iconst (v := iI 1) hx hb dX10_goes_213 rfl ?_
                have e9 : f_X10_goes σ tf a0 a1 a2 = (1, (tf σ a0 a1 a2 1).2) := by rw [f_X10_goes, if_neg c_2, if_pos c_4, if_neg c_7, if_neg c_8, if_neg c_9, if_pos c_11, if_neg c_14]
                exact g_zret (z := 1) hx hb hr hK hN hlocks hI (by rw [e9]) (by rw [e9]) (by rw [e9] <;> first | (refine ⟨?_, ?_, ?_⟩ <;> (try simp [up2_at]) <;> omega) | (dsimp only; refine ⟨?_, ?_, ?_⟩ <;> (try simp [up2_at]) <;> omega)) (by omega) dX10_goes_214
            · skip
              refine lv_aload_n hx hb dX10_goes_186 rfl (lv_at hl 2 rfl) ?_
              refine g_get (C := RX10) (T := TX10) (N := 44) (ci := 9) (v := .ref (ad 29)) hx hb hts in_X10_goes_X10 hown hK hI 28 (by decide) (cel_28 cy ad _) rfl 1 (by decide) (by decide +kernel) rfl dX10_goes_187 ?_
              refine lv_bipush (v := iI 12) hx hb dX10_goes_190 (iI_bip (by decide)) ?_
              refine lv_iload_n hx hb dX10_goes_192 rfl (lv_at hl 3 rfl) ?_
              refine g_imul hx hb dX10_goes_193 ?_
              refine lv_iload_n hx hb dX10_goes_194 rfl (lv_at hl 5 rfl) ?_
              refine g_iadd hx hb dX10_goes_195 ?_
              refine g_bald (v := σ 29 (((12 * a0) + a2).toNat)) hx hb hK hI 29 (by decide) (cel_29 cy ad) (by omega) (by decide) rfl dX10_goes_196 ?_
              have b_16 := bd_29 hF (((12 * a0) + a2).toNat)
              refine lv_iload hx hb dX10_goes_197 (lv_at hl 0 rfl) ?_
              refine g_icmp_ne (tgt := 215) hx hb dX10_goes_199 (by decide) (by omega) (by omega) (fun c_17 => ?_) (fun c_17 => ?_)
              · skip
                refine lv_aload_n hx hb dX10_goes_215 rfl (lv_at hl 2 rfl) ?_
                refine g_get (C := RX10) (T := TX10) (N := 44) (ci := 9) (v := .ref (ad 41)) hx hb hts in_X10_goes_X10 hown hK hI 28 (by decide) (cel_28 cy ad _) rfl 24 (by decide) (by decide +kernel) rfl dX10_goes_216 ?_
                refine lv_bipush (v := iI 13) hx hb dX10_goes_219 (iI_bip (by decide)) ?_
                refine lv_iload_n hx hb dX10_goes_221 rfl (lv_at hl 4 rfl) ?_
                refine g_imul hx hb dX10_goes_222 ?_
                refine lv_iload_n hx hb dX10_goes_223 rfl (lv_at hl 5 rfl) ?_
                refine g_iadd hx hb dX10_goes_224 ?_
                refine lv_iconst (v := iI 1) hx hb dX10_goes_225 rfl ?_
                refine g_zast hx hb hK hI 41 (by decide) (cel_41 cy ad) (by omega) (by decide) (by omega) (bw_41 (by omega)) dX10_goes_226 (fun H locs hI => ?_)
                have hF_18 : WF (up2 σ 41 (((13 * a1) + a2).toNat) 1) := hI.2.2.2
                refine lv_iconst (v := iI 0) hx hb dX10_goes_227 rfl ?_
                have e9 : f_X10_goes σ tf a0 a1 a2 = (0, (up2 σ 41 (((13 * a1) + a2).toNat) 1)) := by rw [f_X10_goes, if_neg c_2, if_pos c_4, if_neg c_7, if_neg c_8, if_neg c_9, if_neg c_11, if_neg c_17]
                exact g_zret (z := 0) hx hb hr hK hN hlocks hI (by rw [e9]) (by rw [e9]) (by rw [e9] <;> first | (refine ⟨?_, ?_, ?_⟩ <;> (try simp [up2_at]) <;> omega) | (dsimp only; refine ⟨?_, ?_, ?_⟩ <;> (try simp [up2_at]) <;> omega)) (by omega) dX10_goes_228
              · skip
                refine lv_aload_n hx hb dX10_goes_202 rfl (lv_at hl 2 rfl) ?_
                refine lv_iload_n hx hb dX10_goes_203 rfl (lv_at hl 3 rfl) ?_
                refine lv_iload_n hx hb dX10_goes_204 rfl (lv_at hl 4 rfl) ?_
                refine lv_iload_n hx hb dX10_goes_205 rfl (lv_at hl 5 rfl) ?_
                refine lv_iconst (v := iI 1) hx hb dX10_goes_206 rfl ?_
                refine g_V (As := [.int (iI a0), .int (iI a1), .int (iI a2), .int (iI 1)]) (rest := []) 28 (ht σ a0 (by omega) a1 (by omega) a2 (by omega) 1 (by omega) it0 sz0 (by omega) (by omega) (by omega) (by omega) (by omega)) hx hb hml hown hts hK hN hI hl.1 gX10_goes_X10_takes_ rfl hd_X10_takes_ hc0 hs0 ⟨hfr, hlo⟩ ⟨Nat.zero_le _, Nat.zero_le _⟩ (by decide) (cel_28 cy ad _) rfl rfl rfl rfl (Nat.le_of_ble_eq_true rfl) dX10_goes_207 (fun H locs hG_19 hI => ?_)
                have hF_20 := hI.2.2.2
                refine g_if_eq (tgt := 215) hx hb dX10_goes_210 (by decide) (by omega) (fun c_21 => ?_) (fun c_21 => ?_)
                · skip
                  refine lv_aload_n hx hb dX10_goes_215 rfl (lv_at hl 2 rfl) ?_
                  refine g_get (C := RX10) (T := TX10) (N := 44) (ci := 9) (v := .ref (ad 41)) hx hb hts in_X10_goes_X10 hown hK hI 28 (by decide) (cel_28 cy ad _) rfl 24 (by decide) (by decide +kernel) rfl dX10_goes_216 ?_
                  refine lv_bipush (v := iI 13) hx hb dX10_goes_219 (iI_bip (by decide)) ?_
                  refine lv_iload_n hx hb dX10_goes_221 rfl (lv_at hl 4 rfl) ?_
                  refine g_imul hx hb dX10_goes_222 ?_
                  refine lv_iload_n hx hb dX10_goes_223 rfl (lv_at hl 5 rfl) ?_
                  refine g_iadd hx hb dX10_goes_224 ?_
                  refine lv_iconst (v := iI 1) hx hb dX10_goes_225 rfl ?_
                  refine g_zast hx hb hK hI 41 (by decide) (cel_41 cy ad) (by omega) (by decide) (by omega) (bw_41 (by omega)) dX10_goes_226 (fun H locs hI => ?_)
                  have hF_22 : WF (up2 (tf σ a0 a1 a2 1).2 41 (((13 * a1) + a2).toNat) 1) := hI.2.2.2
                  refine lv_iconst (v := iI 0) hx hb dX10_goes_227 rfl ?_
                  have e9 : f_X10_goes σ tf a0 a1 a2 = (0, (up2 (tf σ a0 a1 a2 1).2 41 (((13 * a1) + a2).toNat) 1)) := by rw [f_X10_goes, if_neg c_2, if_pos c_4, if_neg c_7, if_neg c_8, if_neg c_9, if_neg c_11, if_pos c_17, if_pos c_21]
                  exact g_zret (z := 0) hx hb hr hK hN hlocks hI (by rw [e9]) (by rw [e9]) (by rw [e9] <;> first | (refine ⟨?_, ?_, ?_⟩ <;> (try simp [up2_at]) <;> omega) | (dsimp only; refine ⟨?_, ?_, ?_⟩ <;> (try simp [up2_at]) <;> omega)) (by omega) dX10_goes_228
                · skip
                  refine lv_iconst (v := iI 1) hx hb dX10_goes_213 rfl ?_
                  have e9 : f_X10_goes σ tf a0 a1 a2 = (1, (tf σ a0 a1 a2 1).2) := by rw [f_X10_goes, if_neg c_2, if_pos c_4, if_neg c_7, if_neg c_8, if_neg c_9, if_neg c_11, if_pos c_17, if_neg c_21]
                  exact g_zret (z := 1) hx hb hr hK hN hlocks hI (by rw [e9]) (by rw [e9]) (by rw [e9] <;> first | (refine ⟨?_, ?_, ?_⟩ <;> (try simp [up2_at]) <;> omega) | (dsimp only; refine ⟨?_, ?_, ?_⟩ <;> (try simp [up2_at]) <;> omega)) (by omega) dX10_goes_214
        · skip
          refine lv_iconst (v := iI 0) hx hb dX10_goes_105 rfl ?_
          refine lv_istore (lv' := [(6, .int (iI 0)), (5, .int (iI (σ 34 a1.toNat))), (4, .int (iI ((σ 30 a0.toNat) - a2))), (0, .ref (ad 28)), (1, .int (iI a0)), (2, .int (iI a1)), (3, .int (iI a2))]) hx hb dX10_goes_106 hl (by decide) rfl (fun ls hl => ?_)
          refine w_L_X10_goes_108 X σ tf rm rmC hfr hlo hc0 hs0 dd ht a0 ha0 a1 ha1 a2 ha2 it0 sz0 hit hsz hk hf hd  13 ((σ 30 a0.toNat) - a2) 0  (by omega) (by omega) (by omega) (by omega) (by omega) _ _ _ hI (lv_sub hl [3, 4, 5, 6, 2, 0] rfl) (fun H locs ls hpo_28 hI hl => ?_)
          refine lv_iload hx hb dX10_goes_141 (lv_at hl 4 rfl) ?_
          refine lv_istore (lv' := [(7, .int (iI (L_X10_goes_108 σ tf a0 a1 a2 13 ((σ 30 a0.toNat) - a2) 0))), (0, .ref (ad 28)), (1, .int (iI a0)), (2, .int (iI a1)), (3, .int (iI a2)), (6, .int (iI (L_X10_goes_108 σ tf a0 a1 a2 13 ((σ 30 a0.toNat) - a2) 0)))]) hx hb dX10_goes_143 hl (by decide) rfl (fun ls hl => ?_)
          have e9 : f_X10_goes σ tf a0 a1 a2 = L_X10_goes_145 tf a0 a1 a2 13 (L_X10_goes_108 σ tf a0 a1 a2 13 ((σ 30 a0.toNat) - a2) 0) σ := by rw [f_X10_goes, if_neg c_2, if_pos c_4, if_neg c_7, if_pos c_8]
          rw [e9]
          exact w_L_X10_goes_145 X  tf rm rmC hfr hlo hc0 hs0 dd ht a0 ha0 a1 ha1 a2 ha2 it0 sz0 hk hf hd  13 (L_X10_goes_108 σ tf a0 a1 a2 13 ((σ 30 a0.toNat) - a2) 0) σ (by omega) (by omega) (by omega) (by omega) (by omega) (by omega) _ _ _ hI (lv_sub hl [1, 2, 3, 4, 0] rfl)
      · skip
        refine lv_iconst (v := iI 0) hx hb dX10_goes_65 rfl ?_
        refine lv_istore (lv' := [(6, .int (iI 0)), (5, .int (iI (σ 34 a1.toNat))), (4, .int (iI ((σ 30 a0.toNat) - a2))), (0, .ref (ad 28)), (1, .int (iI a0)), (2, .int (iI a1)), (3, .int (iI a2))]) hx hb dX10_goes_66 hl (by decide) rfl (fun ls hl => ?_)
        have e9 : f_X10_goes σ tf a0 a1 a2 = L_X10_goes_68 tf a0 a1 a2 14 ((σ 30 a0.toNat) - a2) 0 σ := by rw [f_X10_goes, if_neg c_2, if_pos c_4, if_pos c_7]
        rw [e9]
        exact w_L_X10_goes_68 X  tf rm rmC hfr hlo hc0 hs0 dd ht a0 ha0 a1 ha1 a2 ha2 it0 sz0 hk hf hd  14 ((σ 30 a0.toNat) - a2) 0 σ (by omega) (by omega) (by omega) (by omega) (by omega) (by omega) (by omega) _ _ _ hI (lv_sub hl [3, 4, 5, 6, 2, 0] rfl)
    · skip
      refine lv_iconst (v := iI 0) hx hb dX10_goes_38 rfl ?_
      have e9 : f_X10_goes σ tf a0 a1 a2 = (0, σ) := by rw [f_X10_goes, if_neg c_2, if_neg c_4]
      exact g_zret (z := 0) hx hb hr hK hN hlocks hI (by rw [e9]) (by rw [e9]) (by rw [e9] <;> first | (refine ⟨?_, ?_, ?_⟩ <;> (try simp [up2_at]) <;> omega) | (dsimp only; refine ⟨?_, ?_, ?_⟩ <;> (try simp [up2_at]) <;> omega)) (by omega) dX10_goes_39
  · skip
    refine lv_iload_n hx hb dX10_goes_8 rfl (lv_at hl 3 rfl) ?_
    refine lv_aload_n hx hb dX10_goes_9 rfl (lv_at hl 0 rfl) ?_
    refine g_get (C := RX10) (T := TX10) (N := 44) (ci := 9) (v := .ref (ad 30)) hx hb hts in_X10_goes_X10 hown hK hI 28 (by decide) (cel_28 cy ad _) rfl 2 (by decide) (by decide +kernel) rfl dX10_goes_10 ?_
    refine lv_iload_n hx hb dX10_goes_13 rfl (lv_at hl 1 rfl) ?_
    refine g_iald (v := σ 30 a0.toNat) hx hb hK hI 30 (by decide) (cel_30 cy ad) (by omega) (by decide) rfl dX10_goes_14 ?_
    have b_39 := bd_30 hF a0.toNat
    refine g_icmp_ne (tgt := 22) hx hb dX10_goes_15 (by decide) (by omega) (by omega) (fun c_40 => ?_) (fun c_40 => ?_)
    · skip
      refine lv_iconst (v := iI 0) hx hb dX10_goes_22 rfl ?_
      have e9 : f_X10_goes σ tf a0 a1 a2 = (0, σ) := by rw [f_X10_goes, if_pos c_2, if_neg c_40]
      exact g_zret (z := 0) hx hb hr hK hN hlocks hI (by rw [e9]) (by rw [e9]) (by rw [e9] <;> first | (refine ⟨?_, ?_, ?_⟩ <;> (try simp [up2_at]) <;> omega) | (dsimp only; refine ⟨?_, ?_, ?_⟩ <;> (try simp [up2_at]) <;> omega)) (by omega) dX10_goes_23
    · skip
      refine lv_iconst (v := iI 1) hx hb dX10_goes_18 rfl ?_
      refine lv_goto (tgt := 23) hx hb dX10_goes_19 (by decide) ?_
      have e9 : f_X10_goes σ tf a0 a1 a2 = (1, σ) := by rw [f_X10_goes, if_pos c_2, if_pos c_40]
      exact g_zret (z := 1) hx hb hr hK hN hlocks hI (by rw [e9]) (by rw [e9]) (by rw [e9] <;> first | (refine ⟨?_, ?_, ?_⟩ <;> (try simp [up2_at]) <;> omega) | (dsimp only; refine ⟨?_, ?_, ?_⟩ <;> (try simp [up2_at]) <;> omega)) (by omega) dX10_goes_23
