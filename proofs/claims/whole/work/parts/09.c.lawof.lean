/-! The law's own 'of': it catches. -/
theorem iI_l {v : Int} (h : -2147483648 ≤ v ∧ v < 2147483648) : (iI v).toInt64 = Int64.ofInt v := by
  apply Int64.toInt_inj.mp
  rw [Int32.toInt_toInt64, iI_toInt h, Int64.toInt_ofInt, show Int64.size = 18446744073709551616 from rfl, Int.bmod_eq_of_le (by omega) (by omega)]
section LO
variable {p : Program} {l : Launch} {e : Env} {R : Room} {s : State} {m : MethodId} {args : Array Value} {below : List Frame} {meth : Method} {c : Code} {H : Heap} {locs : List Loc} {cells slots : Nat} {Q : State → Prop}
variable {cc : ByteArray} {pc : Nat} {ls : Array Slot} {rest : List Value} {D : va_G} {cy : Nat → ClassId} {ad : Nat → Nat} {σ σ' : Sg}
theorem g_last (hx : p.tables.exec = Jvm.exec) (hb : c.code = cc) (hK : va_K D vwCl (tyl cy) s) (hI : HI D cy ad s σ H locs) {x : Int} (hdg : decode cc pc = .ok (.lastore, 1))
    (kk : ∀ (H1 : Heap) (locs1 : List Loc), HI D cy ad s (up2 σ 56 0 x) H1 locs1 → W p l e R s m args below meth c H1 locs1 cells slots Q (F0 m (pc + 1) ls rest)) : W p l e R s m args below meth c H locs cells slots Q (F0 m pc ls (.long (Int64.ofInt x) :: .int (iI 0) :: .ref (ad 56) :: rest)) :=
  va_last hx hb hK hI.1 hI.2.1 hI.2.2.1 56 5 (cA := cy 5) (n := 1) (f := fun j => Int64.ofInt (σ 56 j)) (by rw [← cel_56 cy ad (σ 56)]; exact WR_get (by decide)) rfl (iI_in (by decide) (by decide) (by decide)) hdg (fun H1 locs1 hP hD hS => kk H1 locs1 (HI_set (i := 0) (z := x) hI.2.2.2 trivial (by decide) (by
    rw [cel_56 cy ad]
    have : (fun j => Int64.ofInt (up2 σ 56 0 x 56 j)) = vp_updL (fun j => Int64.ofInt (σ 56 j)) (iI 0).toNatClampNeg (Int64.ofInt x) := by
      funext j
      rw [up2_row, show (iI 0).toNatClampNeg = 0 by decide]
      unfold vp_updL
      by_cases q : j = 0 <;> simp [q]
    rw [this]) hP hD hS))
theorem g_lald (hx : p.tables.exec = Jvm.exec) (hb : c.code = cc) (hK : va_K D vwCl (tyl cy) s) (hI : HI D cy ad s σ H locs) (hdg : decode cc pc = .ok (.laload, 1))
    (kk : W p l e R s m args below meth c H locs cells slots Q (F0 m (pc + 1) ls (.long (Int64.ofInt (σ 56 0)) :: rest))) : W p l e R s m args below meth c H locs cells slots Q (F0 m pc ls (.int (iI 0) :: .ref (ad 56) :: rest)) :=
  va_lald hx hb hK hI.1 56 5 (cA := cy 5) (n := 1) (f := fun j => Int64.ofInt (σ 56 j)) (by rw [← cel_56 cy ad (σ 56)]; exact WR_get (by decide)) rfl (iI_in (by decide) (by decide) (by decide)) hdg (by rw [show (iI 0).toNatClampNeg = 0 by decide]; exact kk)
/-- a call that may throw -/
theorem o_call {v : Option Value} {G G' : Prop} {a : Array Value} {st0 : List Value} {mc ms : Nat} (hr : vx_Run p l e R s m args below meth c H locs cells slots mc ms (F0 m pc ls st0) rest (CQ D cy ad v σ' G (AA ad H.size) a) (OX D cy ad σ G' (AA ad H.size)) (AA ad H.size)) (hI : HI D cy ad s σ H locs)
    (kk : ∀ (H1 : Heap) (locs1 : List Loc), G → HI D cy ad s σ' H1 locs1 → W p l e R s m args below meth c H1 locs1 (cells + mc) (slots + ms) Q (F0 m (pc + 3) ls (v.toList ++ rest)))
    (kx : ∀ (H1 : Heap) (locs1 : List Loc) (q : Addr) (ce : Cell), G' → HI D cy ad s σ H1 locs1 → H1[q]? = some ce → ce.vm = .none → s.vm.findClass nse = some ce.cls → vx_W p l e R s m args below meth c H1 locs1 (cells + mc) (slots + ms) Q (F0 m pc ls rest) q) : W p l e R s m args below meth c H locs cells slots Q (F0 m pc ls st0) := by
  intro T hT X
  have hS := hI.2.2.1
  have keep : ∀ {st₀ t T' : State} {L : List Loc}, st₀.heap = H → T'.heap = t.heap → va_F (AA ad H.size) st₀ t → (∀ q ∈ L, AA ad H.size q.base) → va_S (AA ad s.heap.size) s.heap T'.heap (locs ++ L) := fun {st₀ t T' L} h0 e1 hF hL => by
    obtain ⟨hz, hk⟩ := hF
    rw [h0] at hz hk
    exact ⟨Nat.le_trans hS.1 (by rw [e1]; exact hz), fun q h1 h2 => by
      rw [e1, hk q (Nat.lt_of_lt_of_le h1 hS.1) (fun z => h2 (AA_mono hS.1 z))]
      exact hS.2.1 q h1 h2, fun q hq => by
      rcases List.mem_append.mp hq with h | h
      · exact hS.2.2 q h
      · exact AA_mono hS.1 (hL q h)⟩
  rcases hr T hT X with ⟨v', st₀, t, T', L, h0, X', hL, e1, e2, ⟨hv, ⟨hpw, hg⟩, hF⟩, st⟩ | ⟨q, st₀, t, T', L, E, ce, h0, X', hL, e1, e2, ⟨hE, hg, hp, hF⟩, hce, hcv, hcl, st⟩
  · cases hv
    obtain ⟨t2, a1, b1⟩ := kk T'.heap (locs ++ L) hg ⟨by rw [e1]; exact hpw.1, WR_D hpw.2.2.1, keep h0 e1 hF hL, hpw.2.2.2.2⟩ T' rfl X'
    exact ⟨t2, st t2 a1, b1⟩
  · subst hE
    obtain ⟨t2, a1, b1⟩ := kx T'.heap (locs ++ L) q ce hg ⟨by rw [e1]; exact hp, WR_D hI.2.1, keep h0 e1 hF hL, hI.2.2.2⟩ (by rw [e1]; exact hce) hcv hcl T' rfl X'
    exact ⟨t2, st.trans a1, b1⟩
theorem oz_blind {as : List Value} {sz sa sb : Nat} : FrameBlind (va_Pc as (fun U => U.heap.size = sz ∧ PW D cy ad σ U ∧ TZ (AA ad sz) sa sb U U.heap)) := fun a U g mk q => by
  obtain ⟨q0, q1, ⟨qP, qK, qD, qN, qF⟩, qZ⟩ := q
  exact ⟨q0, q1, ⟨qP, va_K.moved (u := U) (U := U.calling g mk a) (Vm.Alike.refl U.vm) qK, qD, NW.same (u := U) (U := U.calling g mk a) rfl qN, qF⟩, TZ.same (u := U) (U := U.calling g mk a) rfl qZ⟩
theorem oz_pre {sa sb : Nat} (hI : HI D cy ad s σ H locs) (hK : va_K D vwCl (tyl cy) s) (hN : NW s) (hZ : TZ (AA ad s.heap.size) sa sb s s.heap) {as : List Value} : ∀ U : State, U.heap = H → s.WarmedH U.vm → va_Pc as (fun U => U.heap.size = H.size ∧ PW D cy ad σ U ∧ TZ (AA ad H.size) sa sb U U.heap) as.toArray U := fun U hU hW =>
  ⟨rfl, by rw [hU], ⟨by rw [hU]; exact hI.1, va_K.moved hW.alike hK, ⟨hI.2.1.1, fun _ _ _ => trivial⟩, NW.warm hW hN, hI.2.2.2⟩, by
    rw [hU]
    exact ((hZ.kept hI.2.2.1.2.1).narrow (fun q hq => AA_mono hI.2.2.1.1 hq)).warm hW⟩
end LO
def wsLO : List Cond := .codeWith yL_of cL_of 5 (some .int) [(0, 10, 13, 13)] :: ((wsL_of_r1 ++ wsL_of_r2) ++ wsX90 ++ wsX20 ++ wsX70 ++ otG)
theorem go_of0 : GoodIn wsLO wsO := goodIn_ca (goodIn_r _ [6, 7, 8, 9, 10, 11, 12, 13, 14, 15, 16, 17, 18, 19, 20, 21, 22, 23, 24, 25, 26, 27, 28, 29, 30, 31, 32, 33, 34, 35, 36, 37, 38, 39, 40, 41, 42, 43, 44, 45, 46, 47, 48, 49, 50, 51, 52, 53] (by decide +kernel) (by decide +kernel)) (goodIn_sub (fun _ h => List.mem_cons_of_mem _ (List.mem_append_right _ h)) (by decide +kernel))
theorem go_of : GoodIn wsLO (wsV RL 7 RX9 yX9_of wsO) := goodIn_app (goodIn_of _ (by decide +kernel)) go_of0
def ofS (σ : Sg) (a b : Int) : Sg := if ofK σ a b = 0 then up2 σ 56 0 (ofV σ a b) else σ
theorem ofV_rng {σ : Sg} (hF : WF σ) {a b : Int} (h : ofK σ a b = 0) : -2147483648 ≤ ofV σ a b ∧ ofV σ a b < 2147483648 := by
  have hh : ¬ f_X7_has σ a = 0 := fun z => by rw [ofK, if_pos z] at h; omega
  have ha : 0 ≤ a ∧ a < 40 := by
    unfold f_X7_has at hh
    repeat' split at hh
    all_goals first | exact absurd rfl hh | omega
  have hc : isPl (59 + 2 * a.toNat) := by omega
  have b1 := bd_Pl_1 hF hc
  have b2 := bd_Pl_2 hF hc
  have b3 := byteAt_rng hF hc (b - 10)
  unfold ofV
  split
  · omega
  · split
    · omega
    · split
      · split <;> omega
      · omega
set_option maxHeartbeats 4000000 in
set_option maxRecDepth 100000 in
theorem c_L_of (l : Launch) (hnt : l.stackTraces = false) (D : va_G) (cy : Nat → ClassId) (ad : Nat → Nat) (σ : Sg) (a0 : Int) (ha0 : (-2147483648 ≤ a0 ∧ a0 < 2147483648)) (a1 : Int) (ha1 : (-2147483648 ≤ a1 ∧ a1 < 2147483648)) (sa sb sz : Nat) :
    vx_Met l yL_of wsLO { frames := 7, cells := 1, slots := 6, locals := 130 } (va_Pc [.ref (ad 0), .int (iI a0), .int (iI a1), .ref (ad 56)] (fun U => U.heap.size = sz ∧ PW D cy ad σ U ∧ TZ (AA ad sz) sa sb U U.heap)) (CQ D cy ad (some (.int (iI (ofK σ a0 a1)))) (ofS σ a0 a1) (ofK σ a0 a1 = 0 ∨ ofK σ a0 a1 = 1) (AA ad sz)) (fun _ _ _ => False) 1 6 (AA ad sz) := by
  refine vx_ofWH (cc := cL_of) (maxL := 5) (ret := some .int) (hh := [(0, 10, 13, 13)]) (by decide) rfl ?_
  intro p e s m args below meth c₀ s₁ B0 hml hv
  obtain ⟨rfl, hsz, ⟨hP, hK, hD, hN, hF⟩, hZ⟩ := hv
  have hts := atoms_spec (ws := wsLO) B0.pre
  have hown : s.vm.findClass RL = some m.cls := findClass_of_methodNamed B0.named
  have htab : c₀.exceptionTable.toList = tableOf [(0, 10, 13, 13)] := vx_table (x := yL_of) B0 (hts _ List.mem_cons_self)
  subst hsz
  have hx := B0.exec
  have hb := B0.bytes
  have hr := B0.returns
  have hlocks := B0.notSynchronized
  have hl := lv_entry [.ref (ad 0), .int (iI a0), .int (iI a1), .ref (ad 56)] (n := 5) (Nat.le_of_ble_eq_true rfl)
  rw [lg_entry_eq]
  generalize (lg_sl [.ref (ad 0), .int (iI a0), .int (iI a1), .ref (ad 56)] ++ List.replicate (5 - (lg_sl [.ref (ad 0), .int (iI a0), .int (iI a1), .ref (ad 56)]).length) Slot.unset).toArray = ls at hl ⊢
  have hl : lv_has ls 5 [(0, .ref (ad 0)), (1, .int (iI a0)), (2, .int (iI a1)), (3, .ref (ad 56))] := hl
  have hI : HI D cy ad s σ s.heap [] := ⟨hP, WR_D hD, va_S.rf, hF⟩
  refine lv_aload_n hx hb dL_of_0 rfl (lv_at hl 3 rfl) ?_
  refine lv_iconst (v := iI 0) hx hb dL_of_1 rfl ?_
  refine lv_aload_n hx hb dL_of_2 rfl (lv_at hl 0 rfl) ?_
  refine lv_iload_n hx hb dL_of_3 rfl (lv_at hl 1 rfl) ?_
  refine lv_iload_n hx hb dL_of_4 rfl (lv_at hl 2 rfl) ?_
  refine o_call (vx_runV (b := ad 0) (C := RX9) (As := [.int (iI a0), .int (iI a1)]) (rest := [.int (iI 0), .ref (ad 56)]) ⟨hx, hb, hml, hown, hts⟩ (c_X9_of l hnt D cy ad σ a0 ha0 a1 ha1 sa sb s.heap.size) (cwV 2 hts go_of rfl rfl rfl ⟨rfl, by decide +kernel, by decide +kernel, by decide +kernel⟩ ⟨by decide, by decide⟩) ⟨oz_blind, va_recv hK hI.1 (ci := 8) (q := (RX9, TX9, 11)) rfl (by rw [← cel_0 cy ad (σ 0)]; exact WR_get (by decide)), oz_pre hI hK hN hZ⟩ rfl rfl hl.1 rfl (lv_room (Nat.le_of_ble_eq_true rfl)) dL_of_5 ⟨by decide, by decide⟩) hI (fun H locs hG hI => ?_) (fun H locs q ce hG hI hcell hv hcl => ?_)
  · refine lv_i2l (v := Int64.ofInt (ofV σ a0 a1)) hx hb dL_of_8 (iI_l (ofV_rng hF hG)) ?_
    refine g_last hx hb hK hI dL_of_9 (fun H locs hI => ?_)
    refine lv_goto (tgt := 17) hx hb dL_of_10 (by decide) ?_
    refine lv_iconst (v := iI 0) hx hb dL_of_17 rfl ?_
    refine vx_ret ?_
    exact g_iret (z := 0) hx hb hr hK hN hlocks hI hG.symm (by rw [ofS, if_pos hG]) (Or.inl hG) dL_of_18
  · refine kc_catch (own := RL) (name := nse) (E := nse) hown ⟨0, 10, 13, 13⟩ htab (by decide) (by decide) (hts _ (by decide +kernel)) (va_Nw.use rfl (hZ.2.2.2.2 (.castable nse nse) (by decide))) hcell hv hcl ?_
    refine lv_astore hx hb dL_of_13 hl (by decide) rfl (fun ls hl => ?_)
    refine lv_iconst (v := iI 1) hx hb dL_of_15 rfl ?_
    refine vx_ret ?_
    exact g_iret (z := 1) hx hb hr hK hN hlocks hI hG.symm (by rw [ofS, if_neg (by rw [hG]; decide)]) (Or.inr hG) dL_of_16
