/-! The law's case of 'of'. -/
theorem o_callN {p : Program} {l : Launch} {e : Env} {R : Room} {s : State} {m : MethodId} {args : Array Value} {below : List Frame} {meth : Method} {c : Code} {H : Heap} {locs : List Loc} {cells slots : Nat} {Q : State → Prop} {pc : Nat} {ls : Array Slot} {rest : List Value} {D : va_G} {cy : Nat → ClassId} {ad : Nat → Nat} {σ σ' : Sg}
    {v : Option Value} {G : Prop} {a : Array Value} {st0 : List Value} {mc ms : Nat} (hr : vx_Run p l e R s m args below meth c H locs cells slots mc ms (F0 m pc ls st0) rest (CQ D cy ad v σ' G (AA ad H.size) a) (fun _ _ _ => False) (AA ad H.size)) (hI : HI D cy ad s σ H locs)
    (kk : ∀ (H1 : Heap) (locs1 : List Loc), G → HI D cy ad s σ' H1 locs1 → W p l e R s m args below meth c H1 locs1 (cells + mc) (slots + ms) Q (F0 m (pc + 3) ls (v.toList ++ rest))) : W p l e R s m args below meth c H locs cells slots Q (F0 m pc ls st0) := by
  intro T hT X
  have hS := hI.2.2.1
  rcases hr T hT X with ⟨v', st₀, t, T', L, h0, X', hL, e1, e2, ⟨hv, ⟨hpw, hg⟩, hz, hk⟩, st⟩ | ⟨q, st₀, t, T', L, E, ce, h0, X', hL, e1, e2, hE, -⟩
  · cases hv
    rw [h0] at hz hk
    have hS1 : va_S (AA ad s.heap.size) s.heap T'.heap (locs ++ L) := ⟨Nat.le_trans hS.1 (by rw [e1]; exact hz), fun q h1 h2 => by
        rw [e1, hk q (Nat.lt_of_lt_of_le h1 hS.1) (fun z => h2 (AA_mono hS.1 z))]
        exact hS.2.1 q h1 h2, fun q hq => by
        rcases List.mem_append.mp hq with h | h
        · exact hS.2.2 q h
        · exact AA_mono hS.1 (hL q h)⟩
    obtain ⟨t2, a1, b1⟩ := kk T'.heap (locs ++ L) hg ⟨by rw [e1]; exact hpw.1, WR_D hpw.2.2.1, hS1, hpw.2.2.2.2⟩ T' rfl X'
    exact ⟨t2, st t2 a1, b1⟩
  · exact hE.elim
theorem ofK_1 {σ : Sg} {a b : Int} (h : ofK σ a b = 1) : f_X7_has σ a = 0 ∨ (¬ (b = 0 ∨ b = 1 ∨ b = 2) ∧ (b < 10 ∨ σ (59 + 2 * a.toNat) 2 ≤ b - 10)) := by
  unfold ofK at h
  repeat' split at h
  all_goals omega
theorem ofK_0 {σ : Sg} {a b : Int} (h : ofK σ a b = 0) : ¬ (f_X7_has σ a = 0 ∨ (¬ (b = 0 ∨ b = 1 ∨ b = 2) ∧ (b < 10 ∨ σ (59 + 2 * a.toNat) 2 ≤ b - 10))) := by
  unfold ofK at h
  repeat' split at h
  all_goals omega
/-- how the two sides stand behind 'of' -/
theorem of_end {σ : Sg} (hLI : LI σ) (hF : WF σ) (a b : Int) (hG : ofK σ a b = 0 ∨ ofK σ a b = 1) : f_X10_thrown (f_X10_of (ofS σ a b) a b).2 = ofK σ a b ∧ LI (f_X10_of (ofS σ a b) a b).2 ∧ (ofK σ a b = 0 → (f_X10_of (ofS σ a b) a b).1 = ofV σ a b ∧ (f_X10_of (ofS σ a b) a b).2 56 0 = ofV σ a b) := by
  rcases hG with h | h
  · have e : ofS σ a b = up2 σ 56 0 (ofV σ a b) := by rw [ofS, if_pos h]
    rw [e]
    have sm : Sim σ (up2 σ 56 0 (ofV σ a b)) := hLI.1.cg hF (fun _ _ => rfl) (fun x u v => up2_cell _ _ _ (by omega))
    have so := (s_of sm hLI.2 hF a b).2 (ofK_0 h)
    have hF1 : WF (up2 σ 56 0 (ofV σ a b)) := WF_up hF trivial
    rw [so]
    refine ⟨?_, LI.read (hLI.o56 hF _) hF1 rfl, fun _ => ⟨?_, ?_⟩⟩
    · show (up2 (up2 σ 56 0 (ofV σ a b)) 28 0 0) 28 0 = ofK σ a b
      rw [h]
      exact up2_same _ _ _ _
    · rfl
    · show (up2 (up2 σ 56 0 (ofV σ a b)) 28 0 0) 56 0 = ofV σ a b
      rw [up2_cell _ _ _ (by decide)]
      exact up2_same _ _ _ _
  · have e : ofS σ a b = σ := by rw [ofS, if_neg (by omega)]
    rw [e]
    have so := (s_of hLI.1 hLI.2 hF a b).1 (ofK_1 h)
    rw [so]
    refine ⟨?_, LI.end ((hLI.1.thr hF 0).thr hF 1) hLI.2 hF (fun x hx => by show (up2 (up2 σ 28 0 0) 28 0 1) x = σ x; rw [up2_cell _ _ _ (by omega), up2_cell _ _ _ (by omega)]), fun z => by omega⟩
    show (up2 (up2 σ 28 0 0) 28 0 1) 28 0 = ofK σ a b
    rw [h]
    exact up2_same _ _ _ _
set_option maxHeartbeats 4000000 in
set_option maxRecDepth 100000 in
theorem law_20 {p : Program} {l : Launch} {e : Env} {s : State} {m : MethodId} {args : Array Value} {below : List Frame} {meth : Method} {c : Code} {D : va_G} {cy : Nat → ClassId} {b L : Nat} {xs : Nat → Int32} {sa sb : Nat} (X : LX p l s m args meth c D cy b L xs sa sb) {σ : Sg} {H : Heap} {locs : List Loc} {ls : Array Slot} {cells slots : Nat} {Q : State → Prop} {k : Nat} (hI : HI D cy (adB s.heap.size) s σ H locs) (hLI : LI σ) (hl : lv_has ls 7 (LV s b k)) (hk : 6 * k + 6 ≤ L) (hL : L ≤ 3072) (hcs : cells + 1 ≤ 601024 ∧ slots + 6 ≤ 7293034)
    (kk : ∀ (σ' : Sg) (H' : Heap) (locs' : List Loc) (ls' : Array Slot), HI D cy (adB s.heap.size) s σ' H' locs' → LI σ' → lv_has ls' 7 (LV s b k) → W p l e room_1 s m args below meth c H' locs' (cells + 1) (slots + 6) Q (F0 m 889 ls' [])) : W p l e room_1 s m args below meth c H locs cells slots Q (F0 m 796 ls []) := by
  obtain ⟨hx, hb, hml, hown, hts, hK, hN, hX, hbl, hZ, hnt⟩ := X
  have hF := hI.2.2.2
  refine lv_aload_n hx hb dL_law_796 rfl (lv_at hl 3 rfl) ?_
  refine g_scr 1 hx hb hX hbl hI hl hk hL (by decide) dL_law_797 dL_law_798 dL_law_800 dL_law_801 dL_law_802 ?_
  refine g_scr 2 hx hb hX hbl hI hl hk hL (by decide) dL_law_803 dL_law_804 dL_law_806 dL_law_807 dL_law_808 ?_
  refine lv_aload_n hx hb dL_law_809 rfl (lv_at hl 1 rfl) ?_
  generalize ha0 : sv xs (6 * k + 1) = a0
  generalize ha1 : sv xs (6 * k + 2) = a1
  have r0 : -2147483648 ≤ a0 ∧ a0 < 2147483648 := by rw [← ha0]; exact sv_rng _ _
  have r1 : -2147483648 ≤ a1 ∧ a1 < 2147483648 := by rw [← ha1]; exact sv_rng _ _
  refine o_callN (vx_runSX (hh := [(0, 10, 13, 13)]) (As := [.ref (adB s.heap.size 0), .int (iI a0), .int (iI a1), .ref (adB s.heap.size 56)]) (rest := []) ⟨hx, hb, hml, hown, hts⟩ (c_L_of l hnt D cy (adB s.heap.size) σ a0 r0 a1 r1 sa sb H.size) (vx_cwSW 4 hts gL_law_L_of rfl rfl rfl ⟨by decide +kernel, by decide +kernel, by decide +kernel⟩ ⟨by decide, by decide⟩) ⟨oz_blind, oz_pre hI hK hN hZ⟩ rfl rfl hl.1 rfl (lv_room (Nat.le_of_ble_eq_true rfl)) dL_law_810 ⟨hcs.1, hcs.2⟩) hI (fun H locs hG hI => ?_)
  have oe := of_end hLI hF a0 a1 hG
  refine lv_istore (lv' := (5, .int (iI (ofK σ a0 a1))) :: LV s b k) hx hb dL_law_813 hl (by decide) rfl (fun ls hl => ?_)
  have hl0 : lv_has ls 7 (LV s b k) := lv_sub hl [1, 2, 3, 4, 5] rfl
  refine lv_aload_n hx hb dL_law_815 rfl (lv_at hl 3 rfl) ?_
  refine g_scr 1 hx hb hX hbl hI hl0 hk hL (by decide) dL_law_816 dL_law_817 dL_law_819 dL_law_820 dL_law_821 ?_
  refine g_scr 2 hx hb hX hbl hI hl0 hk hL (by decide) dL_law_822 dL_law_823 dL_law_825 dL_law_826 dL_law_827 ?_
  rw [ha0, ha1]
  refine g_V (As := [.int (iI a0), .int (iI a1)]) (rest := []) 28 (c_X10_of l D cy (adB s.heap.size) (ofS σ a0 a1) a0 r0 a1 r1) hx hb hml hown hts hK hN hI hl.1 gL_law_X10_of rfl hd_X10_of rfl rfl ⟨by decide, by decide⟩ ⟨by show _ ≤ 601024; omega, by show _ ≤ 7293034; omega⟩ (by decide) (cel_28 cy _ _) rfl rfl rfl rfl (Nat.le_of_ble_eq_true rfl) dL_law_828 (fun H locs hG_2 hI => ?_)
  refine lv_istore (lv' := (6, .int (iI (f_X10_of (ofS σ a0 a1) a0 a1).1)) :: (5, .int (iI (ofK σ a0 a1))) :: LV s b k) hx hb dL_law_831 hl (by decide) rfl (fun ls hl => ?_)
  have hl0 : lv_has ls 7 (LV s b k) := lv_sub hl [2, 3, 4, 5, 6] rfl
  refine lv_aload_n hx hb dL_law_833 rfl (lv_at hl 4 rfl) ?_
  refine g_V (As := []) (rest := []) 28 (c_X10_thrown l D cy (adB s.heap.size) (f_X10_of (ofS σ a0 a1) a0 a1).2) hx hb hml hown hts hK hN hI hl.1 gL_law_X10_thrown rfl hd_X10_thrown rfl rfl ⟨by decide, by decide⟩ ⟨by show _ ≤ 601024; omega, by show _ ≤ 7293034; omega⟩ (by decide) (cel_28 cy _ _) rfl rfl rfl rfl (Nat.le_of_ble_eq_true rfl) dL_law_834 (fun H locs hG_3 hI => ?_)
  refine lv_iload hx hb dL_law_837 (lv_at hl 1 rfl) ?_
  refine lv_icmp_eq (tgt := 844) hx hb dL_law_839 (by decide) (fun _ => ?_) (fun z => absurd (congrArg iI oe.1) z)
  refine lv_iload hx hb dL_law_844 (lv_at hl 1 rfl) ?_
  refine g_if_ne (tgt := 861) hx hb dL_law_846 (by decide) (by omega) (fun c_1 => ?_) (fun c_1 => ?_)
  · refine lv_goto (tgt := 889) hx hb dL_law_861 (by decide) ?_
    exact kk _ _ _ _ hI oe.2.1 hl0
  · obtain ⟨o1, o2⟩ := oe.2.2 c_1
    refine lv_aload_n hx hb dL_law_849 rfl (lv_at hl 3 rfl) ?_
    refine lv_iconst (v := iI 0) hx hb dL_law_850 rfl ?_
    refine g_lald hx hb hK hI dL_law_851 ?_
    refine lv_iload hx hb dL_law_852 (lv_at hl 0 rfl) ?_
    rw [o1, o2]
    refine lv_i2l (v := Int64.ofInt (ofV σ a0 a1)) hx hb dL_law_854 (iI_l (ofV_rng hF c_1)) ?_
    refine W.lcmp hx hb dL_law_855 ?_
    have e0 : lg_cmp (Int64.ofInt (ofV σ a0 a1)) (Int64.ofInt (ofV σ a0 a1)) = 0 := by
      unfold lg_cmp
      rw [if_neg (by simp), if_pos rfl]
    rw [e0]
    refine lv_if_eq (tgt := 861) hx hb dL_law_856 (by decide) (fun _ => ?_) (fun z => absurd rfl z)
    refine lv_goto (tgt := 889) hx hb dL_law_861 (by decide) ?_
    exact kk _ _ _ _ hI oe.2.1 hl0
