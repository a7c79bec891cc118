/-! 'of' of the class: it answers, or it throws. -/
def otG : List Cond := ((otA RX9 275).filter vx_no).filter goodWord
def wsO : List Cond := .code yX9_of cX9_of 4 (some .int) :: ((wsX9_of_r1 ++ wsX9_of_r2) ++ wsX90 ++ wsX20 ++ wsX70 ++ otG)
theorem go_has : GoodIn wsO (wsV RX9 109 RX7 yX7_has wsX7_has) := goodIn_app (goodIn_of _ (by decide +kernel)) (goodIn_r _ [8, 9, 10, 42, 43, 44, 45, 46, 47] (by decide +kernel) (by decide +kernel))
theorem go_placeOf : GoodIn wsO (wsV RX9 132 RX7 yX7_placeOf wsX7_placeOf) := goodIn_app (goodIn_of _ (by decide +kernel)) (goodIn_r _ [14, 15, 42, 43, 44, 45, 46, 47] (by decide +kernel) (by decide +kernel))
theorem go_isSpare : GoodIn wsO (wsV RX9 278 RX2 yX2_isSpare wsX2_isSpare) := goodIn_app (goodIn_of _ (by decide +kernel)) (goodIn_r _ [20, 21, 22, 23, 19, 24, 25, 26, 39, 40, 41] (by decide +kernel) (by decide +kernel))
theorem go_byteAt : GoodIn wsO (wsV RX9 213 RX2 yX2_byteAt wsX2_byteAt) := goodIn_app (goodIn_of _ (by decide +kernel)) (goodIn_r _ [24, 25, 26, 39, 40, 41] (by decide +kernel) (by decide +kernel))
def bdW : List Cond := [.declares (Bundle.initS "java/lang/RuntimeException"), .declares (Bundle.initS "java/lang/Exception"), .declares (Bundle.initS Bundle.tN), .castable nse nse]
theorem at_bad : ∀ w ∈ ((otA RX9 275).filter vx_no).filter (fun w => !goodWord w), w ∈ bdW := by decide +kernel
theorem at_ot : ∀ w ∈ Cond.classLink RX9 271 nse :: Cond.initialized nse :: (otA RX9 275).filter vx_no, vx_ot w = true := by decide +kernel
/-- what a throw needs of the state -/
def TZ (A : Nat → Prop) (sa sb : Nat) (U : State) (H : Heap) : Prop := vx_Zq Bundle.tN "UNASSIGNED_STACK" Bundle.steD A U H ∧ vx_Zq Bundle.tN "SUPPRESSED_SENTINEL" Bundle.listD A U H ∧ vk_R RX9 273 "no such file" sa U ∧ vk_R RX9 281 "no such what" sb U ∧ ∀ w ∈ bdW, va_Nw w U
theorem bdW_warm {s U : State} (hW : s.WarmedH U.vm) (h : ∀ w ∈ bdW, va_Nw w s) : ∀ w ∈ bdW, va_Nw w U := by
  intro w hw
  have := h w hw
  simp only [bdW, List.mem_cons, List.not_mem_nil, or_false] at hw
  rcases hw with rfl | rfl | rfl | rfl
  · exact va_Nw.warmD hW this
  · exact va_Nw.warmD hW this
  · exact va_Nw.warmD hW this
  · exact va_Nw.warmC hW this
theorem TZ.warm {A : Nat → Prop} {sa sb : Nat} {s U : State} {H : Heap} (hW : s.WarmedH U.vm) (h : TZ A sa sb s H) : TZ A sa sb U H := ⟨h.1.moved hW.alike, h.2.1.moved hW.alike, vk_R.warm hW h.2.2.1, vk_R.warm hW h.2.2.2.1, bdW_warm hW h.2.2.2.2⟩
theorem TZ.same {A : Nat → Prop} {sa sb : Nat} {u U : State} {H : Heap} (hv : u.vm = U.vm) (h : TZ A sa sb u H) : TZ A sa sb U H := ⟨h.1.moved (by rw [hv]; exact Vm.Alike.refl _), h.2.1.moved (by rw [hv]; exact Vm.Alike.refl _), vk_R.same hv.symm h.2.2.1, vk_R.same hv.symm h.2.2.2.1, fun w hw => va_Nw.same (by revert w; decide) hv (h.2.2.2.2 w hw)⟩
theorem TZ.kept {A : Nat → Prop} {sa sb : Nat} {U : State} {H H1 : Heap} (h : TZ A sa sb U H) (hq : ∀ a : Nat, a < H.size → ¬ A a → H1[a]? = H[a]?) : TZ A sa sb U H1 := ⟨h.1.kept hq, h.2.1.kept hq, h.2.2⟩
theorem TZ.narrow {A B : Nat → Prop} {sa sb : Nat} {U : State} {H : Heap} (h : TZ A sa sb U H) (hAB : ∀ q, B q → A q) : TZ B sa sb U H := ⟨h.1.narrow hAB, h.2.1.narrow hAB, h.2.2⟩
def ofK (σ : Sg) (a b : Int) : Int := if f_X7_has σ a = 0 then 1 else if b = 0 then 0 else if b = 1 then 0 else if b = 2 then 0 else if b < 10 then 1 else if σ (59 + 2 * a.toNat) 2 ≤ b - 10 then 1 else 0
def ofV (σ : Sg) (a b : Int) : Int := if b = 0 then σ (59 + 2 * a.toNat) 1 else if b = 1 then σ (59 + 2 * a.toNat) 2 else if b = 2 then (if f_X2_isSpare σ (59 + 2 * a.toNat) = 0 then 0 else 1) else f_X2_byteAt σ (59 + 2 * a.toNat) (b - 10)
def OX (D : va_G) (cy : Nat → ClassId) (ad : Nat → Nat) (σ : Sg) (G : Prop) (A : Nat → Prop) : String → State → State → Prop := fun E st t => E = nse ∧ G ∧ va_P D vwCl (WR cy ad σ) t.heap ∧ va_F A st t
theorem in_X9_of_X9 : ∀ w ∈ u_ws RX9 TX9 11, w ∈ wsO := by decide +kernel
theorem in_X9_of_X2 : ∀ w ∈ u_ws RX2 TX2 3, w ∈ wsO := by decide +kernel
theorem in_X9_of_at : ∀ w ∈ otG, w ∈ wsO := fun w hw => List.mem_cons_of_mem _ (List.mem_append_right _ hw)
section OFR
variable {p : Program} {l : Launch} {e : Env} {s : State} {m : MethodId} {args : Array Value} {below : List Frame} {meth : Method} {c : Code} {H : Heap} {locs : List Loc} {cy : Nat → ClassId} {ad : Nat → Nat} {D : va_G} {σ : Sg} {ls : Array Slot} {sa sb : Nat}
theorem of_throw (hnt : l.stackTraces = false) {Qc : Array Value → State → Outcome → State → Prop} {G : Prop} (hG : G) {pc is : Nat} {tx : String} {sx : Nat} (hx : p.tables.exec = Jvm.exec) (hb : c.code = cX9_of) (hml : c.maxLocals = 4) (hown : s.vm.findClass RX9 = some m.cls) (hts : ∀ w ∈ wsO, w.before args s = true) (hlocks : meth.locks = false) (htab : ∀ x ∈ c.exceptionTable.toList, False) (hI : HI D cy ad s σ H locs) (hl : ls.size = 4) (hZ : TZ (AA ad s.heap.size) sa sb s s.heap) (hstr : vk_R RX9 is tx sx s)
    (d0 : decode cX9_of pc = .ok (.new 271, 3)) (d3 : decode cX9_of (pc + 3) = .ok (.dup, 1)) (d4 : decode cX9_of (pc + 4) = .ok (.ldc_w is, 3)) (d7 : decode cX9_of (pc + 7) = .ok (.invokespecial 275, 3)) (d10 : decode cX9_of (pc + 10) = .ok (.athrow, 1)) :
    W p l e { frames := 6, cells := 1, slots := 6, locals := 100 } s m args below meth c H locs 0 0 (vx_MQ below Qc (OX D cy ad σ G (AA ad s.heap.size)) args s 1 6 (AA ad s.heap.size)) (F0 m pc ls []) := by
  refine kt_throw (own := RX9) (ic := 275) (A := AA ad s.heap.size) hx hb hnt hown (hts _ (by decide +kernel)) (hts _ (by decide +kernel)) hstr (vx_hat (fun w hw => hts w (in_X9_of_at w hw)) at_bad (fun w hw => va_Nw.use (by revert w; decide) (hZ.2.2.2.2 w hw))) at_ot hZ.1 hZ.2.1 hI.2.2.1 (by rw [hml]; exact hl) d0 d3 d4 d7 d10 (fun x hx => (htab x hx).elim) (by decide) (by decide) (by decide) (by decide) hlocks (fun t _ hz ho => ⟨rfl, hG, hI.1.kept (fun k q hk => ho q.1 ((hI.1 k q hk).lt)), ?_⟩) hI.2.2.1.2.2 (by decide) (by decide)
  refine ⟨Nat.le_trans hI.2.2.1.1 hz, fun q h1 h2 => ?_⟩
  rw [ho q (Nat.lt_of_lt_of_le h1 hI.2.2.1.1)]
  exact hI.2.2.1.2.1 q h1 h2
end OFR
set_option maxHeartbeats 4000000 in
set_option maxRecDepth 100000 in
theorem c_X9_of (l : Launch) (hnt : l.stackTraces = false) (D : va_G) (cy : Nat → ClassId) (ad : Nat → Nat) (σ : Sg) (a0 : Int) (ha0 : (-2147483648 ≤ a0 ∧ a0 < 2147483648)) (a1 : Int) (ha1 : (-2147483648 ≤ a1 ∧ a1 < 2147483648)) (sa sb sz : Nat) :
    vx_Met l yX9_of wsO { frames := 6, cells := 1, slots := 6, locals := 100 } (va_Pc [.ref (ad 0), .int (iI a0), .int (iI a1)] (fun U => U.heap.size = sz ∧ PW D cy ad σ U ∧ TZ (AA ad sz) sa sb U U.heap)) (CQ D cy ad (some (.int (iI (ofV σ a0 a1)))) σ (ofK σ a0 a1 = 0) (AA ad sz)) (OX D cy ad σ (ofK σ a0 a1 = 1) (AA ad sz)) 1 6 (AA ad sz) := by
  refine vx_ofW (cc := cX9_of) (maxL := 4) (ret := some .int) (by decide) rfl ?_
  intro p e s m args below meth c₀ s₁ B0 hml htab hv
  obtain ⟨rfl, hsz, ⟨hP, hK, hD, hN, hF⟩, hZ⟩ := hv
  have hts := atoms_spec (ws := wsO) B0.pre
  have hown : s.vm.findClass RX9 = some m.cls := findClass_of_methodNamed B0.named
  subst hsz
  have hx := B0.exec
  have hb := B0.bytes
  have hr := B0.returns
  have hlocks := B0.notSynchronized
  have hl := lv_entry [.ref (ad 0), .int (iI a0), .int (iI a1)] (n := 4) (Nat.le_of_ble_eq_true rfl)
  rw [lg_entry_eq]
  generalize (lg_sl [.ref (ad 0), .int (iI a0), .int (iI a1)] ++ List.replicate (4 - (lg_sl [.ref (ad 0), .int (iI a0), .int (iI a1)]).length) Slot.unset).toArray = ls at hl ⊢
  have hl : lv_has ls 4 [(0, .ref (ad 0)), (1, .int (iI a0)), (2, .int (iI a1))] := hl
  have hI : HI D cy ad s σ s.heap [] := ⟨hP, WR_D hD, va_S.rf, hF⟩
  refine lv_aload_n hx hb dX9_of_0 rfl (lv_at hl 0 rfl) ?_
  refine g_get (C := RX9) (T := TX9) (N := 11) (ci := 8) (v := .ref (ad 3)) hx hb hts in_X9_of_X9 hown hK hI 0 (by decide) (cel_0 cy ad _) rfl 2 (by decide) (by decide +kernel) rfl dX9_of_1 ?_
  refine lv_iload_n hx hb dX9_of_4 rfl (lv_at hl 1 rfl) ?_
  refine g_V (As := [.int (iI a0)]) (rest := []) 3 (c_X7_has l D cy ad σ a0 (by omega)) hx hb hml hown hts hK hN hI hl.1 go_has rfl hd_X7_has rfl rfl ⟨Nat.le_of_ble_eq_true rfl, Nat.le_of_ble_eq_true rfl⟩ ⟨Nat.zero_le _, Nat.zero_le _⟩ (by decide) (cel_3 cy ad _) rfl rfl rfl rfl (Nat.le_of_ble_eq_true rfl) dX9_of_5 (fun H locs hG_1 hI => ?_)
  refine g_if_ne (tgt := 22) hx hb dX9_of_8 (by decide) (by omega) (fun c_2 => ?_) (fun c_2 => ?_)
  · refine lv_aload_n hx hb dX9_of_22 rfl (lv_at hl 0 rfl) ?_
    refine g_get (C := RX9) (T := TX9) (N := 11) (ci := 8) (v := .ref (ad 3)) hx hb hts in_X9_of_X9 hown hK hI 0 (by decide) (cel_0 cy ad _) rfl 2 (by decide) (by decide +kernel) rfl dX9_of_23 ?_
    refine lv_iload_n hx hb dX9_of_26 rfl (lv_at hl 1 rfl) ?_
    refine g_V (As := [.int (iI a0)]) (rest := []) 3 (c_X7_placeOf l D cy ad σ a0 (by omega)) hx hb hml hown hts hK hN hI hl.1 go_placeOf rfl hd_X7_placeOf rfl rfl ⟨Nat.le_of_ble_eq_true rfl, Nat.le_of_ble_eq_true rfl⟩ ⟨Nat.zero_le _, Nat.zero_le _⟩ (by decide) (cel_3 cy ad _) rfl rfl rfl rfl (Nat.le_of_ble_eq_true rfl) dX9_of_27 (fun H locs hG_3 hI => ?_)
    have epl := placeOf_eq σ a0
    rw [epl] at hG_3 ⊢
    generalize hq : 59 + 2 * a0.toNat = q at hG_3 ⊢
    refine lv_astore_n (lv' := [(3, .ref (ad q)), (0, .ref (ad 0)), (1, .int (iI a0)), (2, .int (iI a1))]) hx hb dX9_of_30 rfl hl (by decide) rfl (fun ls hl => ?_)
    refine lv_iload_n hx hb dX9_of_31 rfl (lv_at hl 3 rfl) ?_
    by_cases c_4 : a1 = 0
    · refine g_tsw (tgt := 60) (off := 28) hx hb dX9_of_32 (by omega) (by omega) (by rw [c_4]; rfl) (by decide) ?_
      refine lv_aload_n hx hb dX9_of_60 rfl (lv_at hl 0 rfl) ?_
      refine g_getN (C := RX2) (T := TX2) (N := 3) (ci := 2) (v := .int (iI (σ q 1))) hx hb hts in_X9_of_X2 hown hK hN hI q (by have q := hG_3; omega) (cel_Pl cy ad hG_3 _) rfl 1 (by decide) (by decide +kernel) rfl dX9_of_61 ?_
      refine vx_ret (W.widen (k := 1) (n := 6) (by decide) (by decide) ?_)
      exact g_iret (z := σ q 1) hx hb hr hK hN hlocks hI (by rw [ofV, if_pos c_4, hq]) rfl (by rw [ofK, if_neg c_2, if_pos c_4]) dX9_of_64
    · by_cases c_6 : a1 = 1
      · refine g_tsw (tgt := 65) (off := 33) hx hb dX9_of_32 (by omega) (by omega) (by rw [c_6]; rfl) (by decide) ?_
        refine lv_aload_n hx hb dX9_of_65 rfl (lv_at hl 0 rfl) ?_
        refine g_getN (C := RX2) (T := TX2) (N := 3) (ci := 2) (v := .int (iI (σ q 2))) hx hb hts in_X9_of_X2 hown hK hN hI q (by have q := hG_3; omega) (cel_Pl cy ad hG_3 _) rfl 2 (by decide) (by decide +kernel) rfl dX9_of_66 ?_
        refine vx_ret (W.widen (k := 1) (n := 6) (by decide) (by decide) ?_)
        exact g_iret (z := σ q 2) hx hb hr hK hN hlocks hI (by rw [ofV, if_neg c_4, if_pos c_6, hq]) rfl (by rw [ofK, if_neg c_2, if_neg c_4, if_pos c_6]) dX9_of_69
      · by_cases c_8 : a1 = 2
        · refine g_tsw (tgt := 70) (off := 38) hx hb dX9_of_32 (by omega) (by omega) (by rw [c_8]; rfl) (by decide) ?_
          refine lv_aload_n hx hb dX9_of_70 rfl (lv_at hl 0 rfl) ?_
          refine g_V (As := []) (rest := []) q (c_X2_isSpare l D cy ad σ q hG_3) hx hb hml hown hts hK hN hI hl.1 go_isSpare rfl hd_X2_isSpare rfl rfl ⟨Nat.le_of_ble_eq_true rfl, Nat.le_of_ble_eq_true rfl⟩ ⟨Nat.zero_le _, Nat.zero_le _⟩ (by have q := hG_3; omega) (cel_Pl cy ad hG_3 _) rfl rfl rfl rfl (Nat.le_of_ble_eq_true rfl) dX9_of_71 (fun H locs hG_5 hI => ?_)
          refine g_if_eq (tgt := 81) hx hb dX9_of_74 (by decide) (by omega) (fun c_9 => ?_) (fun c_9 => ?_)
          · refine lv_iconst (v := iI 0) hx hb dX9_of_81 rfl ?_
            refine vx_ret (W.widen (k := 1) (n := 6) (by decide) (by decide) ?_)
            exact g_iret (z := 0) hx hb hr hK hN hlocks hI (by rw [ofV, if_neg c_4, if_neg c_6, if_pos c_8, hq, if_pos c_9]) rfl (by rw [ofK, if_neg c_2, if_neg c_4, if_neg c_6, if_pos c_8]) dX9_of_82
          · refine lv_iconst (v := iI 1) hx hb dX9_of_77 rfl ?_
            refine lv_goto (tgt := 82) hx hb dX9_of_78 (by decide) ?_
            refine vx_ret (W.widen (k := 1) (n := 6) (by decide) (by decide) ?_)
            exact g_iret (z := 1) hx hb hr hK hN hlocks hI (by rw [ofV, if_neg c_4, if_neg c_6, if_pos c_8, hq, if_neg c_9]) rfl (by rw [ofK, if_neg c_2, if_neg c_4, if_neg c_6, if_pos c_8]) dX9_of_82
        · refine g_tswD (tgt := 83) hx hb dX9_of_32 (by omega) (by omega) (by decide) ?_
          refine lv_iload_n hx hb dX9_of_83 rfl (lv_at hl 3 rfl) ?_
          refine lv_bipush (v := iI 10) hx hb dX9_of_84 (iI_bip (by decide)) ?_
          have bl := bd_Pl_2 hF hG_3
          refine g_icmp_lt (tgt := 100) hx hb dX9_of_86 (by decide) (by omega) (by omega) (fun c_10 => ?_) (fun c_10 => ?_)
          · exact of_throw hnt (by rw [ofK, if_neg c_2, if_neg c_4, if_neg c_6, if_neg c_8, if_pos c_10]) hx hb hml hown hts hlocks htab hI hl.1 hZ hZ.2.2.2.1 dX9_of_100 dX9_of_103 dX9_of_104 dX9_of_107 dX9_of_110
          · refine lv_iload_n hx hb dX9_of_89 rfl (lv_at hl 3 rfl) ?_
            refine lv_bipush (v := iI 10) hx hb dX9_of_90 (iI_bip (by decide)) ?_
            refine g_isub hx hb dX9_of_92 ?_
            refine lv_aload_n hx hb dX9_of_93 rfl (lv_at hl 0 rfl) ?_
            refine g_getN (C := RX2) (T := TX2) (N := 3) (ci := 2) (v := .int (iI (σ q 2))) hx hb hts in_X9_of_X2 hown hK hN hI q (by have q := hG_3; omega) (cel_Pl cy ad hG_3 _) rfl 2 (by decide) (by decide +kernel) rfl dX9_of_94 ?_
            refine g_icmp_lt (tgt := 111) hx hb dX9_of_97 (by decide) (by omega) (by omega) (fun c_11 => ?_) (fun c_11 => ?_)
            · refine lv_aload_n hx hb dX9_of_111 rfl (lv_at hl 0 rfl) ?_
              refine lv_iload_n hx hb dX9_of_112 rfl (lv_at hl 3 rfl) ?_
              refine lv_bipush (v := iI 10) hx hb dX9_of_113 (iI_bip (by decide)) ?_
              refine g_isub hx hb dX9_of_115 ?_
              refine g_V (As := [.int (iI (a1 - 10))]) (rest := []) q (c_X2_byteAt l D cy ad σ q hG_3 (a1 - 10) (by omega)) hx hb hml hown hts hK hN hI hl.1 go_byteAt rfl hd_X2_byteAt rfl rfl ⟨Nat.le_of_ble_eq_true rfl, Nat.le_of_ble_eq_true rfl⟩ ⟨Nat.zero_le _, Nat.zero_le _⟩ (by have q := hG_3; omega) (cel_Pl cy ad hG_3 _) rfl rfl rfl rfl (Nat.le_of_ble_eq_true rfl) dX9_of_116 (fun H locs hG_11 hI => ?_)
              refine vx_ret (W.widen (k := 1) (n := 6) (by decide) (by decide) ?_)
              exact g_iret (z := f_X2_byteAt σ q (a1 - 10)) hx hb hr hK hN hlocks hI (by rw [ofV, if_neg c_4, if_neg c_6, if_neg c_8, hq]) rfl (by rw [ofK, if_neg c_2, if_neg c_4, if_neg c_6, if_neg c_8, if_neg c_10, hq, if_neg (by omega)]) dX9_of_119
            · exact of_throw hnt (by rw [ofK, if_neg c_2, if_neg c_4, if_neg c_6, if_neg c_8, if_neg c_10, hq, if_pos (by omega)]) hx hb hml hown hts hlocks htab hI hl.1 hZ hZ.2.2.2.1 dX9_of_100 dX9_of_103 dX9_of_104 dX9_of_107 dX9_of_110
  · exact of_throw hnt (by rw [ofK, if_pos c_2]) hx hb hml hown hts hlocks htab hI hl.1 hZ hZ.2.2.1 dX9_of_11 dX9_of_14 dX9_of_15 dX9_of_18 dX9_of_21
