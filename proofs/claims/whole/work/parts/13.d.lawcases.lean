set_option maxHeartbeats 4000000 in
set_option maxRecDepth 100000 in
theorem law_14 {p : Program} {l : Launch} {e : Env} {s : State} {m : MethodId} {args : Array Value} {below : List Frame} {meth : Method} {c : Code} {D : va_G} {cy : Nat → ClassId} {b L : Nat} {xs : Nat → Int32} {sa sb : Nat} (X : LX p l s m args meth c D cy b L xs sa sb) {σ : Sg} {H : Heap} {locs : List Loc} {ls : Array Slot} {cells slots : Nat} {Q : State → Prop} {k : Nat} (hI : HI D cy (adB s.heap.size) s σ H locs) (hLI : LI σ) (hl : lv_has ls 7 (LV s b k)) (hk : 6 * k + 6 ≤ L) (hL : L ≤ 3072) (hcs : cells + 1 ≤ 601024 ∧ slots + 6 ≤ 7293034)
    (kk : ∀ (σ' : Sg) (H' : Heap) (locs' : List Loc) (ls' : Array Slot), HI D cy (adB s.heap.size) s σ' H' locs' → LI σ' → lv_has ls' 7 (LV s b k) → W p l e room_1 s m args below meth c H' locs' (cells + 1) (slots + 6) Q (F0 m 889 ls' [])) : W p l e room_1 s m args below meth c H locs cells slots Q (F0 m 634 ls []) := by
  obtain ⟨hx, hb, hml, hown, hts, hK, hN, hX, hbl, hZ, hnt⟩ := X
  have hF := hI.2.2.2
  refine lv_aload_n hx hb dL_law_634 rfl (lv_at hl 3 rfl) ?_
  refine g_scr 1 hx hb hX hbl hI hl hk hL (by decide) dL_law_635 dL_law_636 dL_law_638 dL_law_639 dL_law_640 ?_
  refine g_scr 2 hx hb hX hbl hI hl hk hL (by decide) dL_law_641 dL_law_642 dL_law_644 dL_law_645 dL_law_646 ?_
  refine g_V (As := [.int (iI (sv xs (6 * k + 1))), .int (iI (sv xs (6 * k + 2)))]) (rest := []) 0 (c_X9_step l D cy (adB s.heap.size) (σ) (sv xs (6 * k + 1)) (sv_rng _ _) (sv xs (6 * k + 2)) (sv_rng _ _)) hx hb hml hown hts hK hN hI hl.1 gL_law_X9_step rfl hd_X9_step rfl rfl ⟨by decide, by decide⟩ ⟨by show _ ≤ 601024; omega, by show _ ≤ 7293034; omega⟩ (by decide) (cel_0 cy _ _) rfl rfl rfl rfl (Nat.le_of_ble_eq_true rfl) dL_law_647 (fun H locs hG_1 hI => ?_)
  have hF1 := hI.2.2.2
  refine lv_aload_n hx hb dL_law_650 rfl (lv_at hl 2 rfl) ?_
  refine g_scr 1 hx hb hX hbl hI hl hk hL (by decide) dL_law_651 dL_law_652 dL_law_654 dL_law_655 dL_law_656 ?_
  refine g_scr 2 hx hb hX hbl hI hl hk hL (by decide) dL_law_657 dL_law_658 dL_law_660 dL_law_661 dL_law_662 ?_
  refine g_V (As := [.int (iI (sv xs (6 * k + 1))), .int (iI (sv xs (6 * k + 2)))]) (rest := [.int (iI (f_X9_step (σ) (sv xs (6 * k + 1)) (sv xs (6 * k + 2))))]) 28 (c_X10_step l D cy (adB s.heap.size) (σ) (sv xs (6 * k + 1)) (sv_rng _ _) (sv xs (6 * k + 2)) (sv_rng _ _)) hx hb hml hown hts hK hN hI hl.1 gL_law_X10_step rfl hd_X10_step rfl rfl ⟨by decide, by decide⟩ ⟨by show _ ≤ 601024; omega, by show _ ≤ 7293034; omega⟩ (by decide) (cel_28 cy _ _) rfl rfl rfl rfl (Nat.le_of_ble_eq_true rfl) dL_law_663 (fun H locs hG_2 hI => ?_)
  have hF2 := hI.2.2.2
  have sim := s_step hLI.1.2.2.2.2 (sv xs (6 * k + 1)) (sv xs (6 * k + 2))
  refine lv_icmp_eq (tgt := 889) hx hb dL_law_666 (by decide) (fun _ => ?_) (fun z => absurd (congrArg iI sim.1) z)
  refine W.widen (k := cells + 1) (n := slots + 6) (by omega) (by omega) ?_
  exact kk _ _ _ _ hI (LI.read hLI hF sim.2) hl
set_option maxHeartbeats 4000000 in
set_option maxRecDepth 100000 in
theorem law_15 {p : Program} {l : Launch} {e : Env} {s : State} {m : MethodId} {args : Array Value} {below : List Frame} {meth : Method} {c : Code} {D : va_G} {cy : Nat → ClassId} {b L : Nat} {xs : Nat → Int32} {sa sb : Nat} (X : LX p l s m args meth c D cy b L xs sa sb) {σ : Sg} {H : Heap} {locs : List Loc} {ls : Array Slot} {cells slots : Nat} {Q : State → Prop} {k : Nat} (hI : HI D cy (adB s.heap.size) s σ H locs) (hLI : LI σ) (hl : lv_has ls 7 (LV s b k)) (hk : 6 * k + 6 ≤ L) (hL : L ≤ 3072) (hcs : cells + 1 ≤ 601024 ∧ slots + 6 ≤ 7293034)
    (kk : ∀ (σ' : Sg) (H' : Heap) (locs' : List Loc) (ls' : Array Slot), HI D cy (adB s.heap.size) s σ' H' locs' → LI σ' → lv_has ls' 7 (LV s b k) → W p l e room_1 s m args below meth c H' locs' (cells + 1) (slots + 6) Q (F0 m 889 ls' [])) : W p l e room_1 s m args below meth c H locs cells slots Q (F0 m 671 ls []) := by
  obtain ⟨hx, hb, hml, hown, hts, hK, hN, hX, hbl, hZ, hnt⟩ := X
  have hF := hI.2.2.2
  refine lv_aload_n hx hb dL_law_671 rfl (lv_at hl 3 rfl) ?_
  refine g_scr 1 hx hb hX hbl hI hl hk hL (by decide) dL_law_672 dL_law_673 dL_law_675 dL_law_676 dL_law_677 ?_
  refine g_V (As := [.int (iI (sv xs (6 * k + 1)))]) (rest := []) 0 (c_X9_go l D cy (adB s.heap.size) (σ) (sv xs (6 * k + 1)) (sv_rng _ _)) hx hb hml hown hts hK hN hI hl.1 gL_law_X9_go rfl hd_X9_go rfl rfl ⟨by decide, by decide⟩ ⟨by show _ ≤ 601024; omega, by show _ ≤ 7293034; omega⟩ (by decide) (cel_0 cy _ _) rfl rfl rfl rfl (Nat.le_of_ble_eq_true rfl) dL_law_678 (fun H locs hG_1 hI => ?_)
  have hF1 := hI.2.2.2
  refine lv_aload_n hx hb dL_law_681 rfl (lv_at hl 2 rfl) ?_
  refine g_scr 1 hx hb hX hbl hI hl hk hL (by decide) dL_law_682 dL_law_683 dL_law_685 dL_law_686 dL_law_687 ?_
  refine g_V (As := [.int (iI (sv xs (6 * k + 1)))]) (rest := [.int (iI ((f_X9_go (σ) (sv xs (6 * k + 1))).1))]) 28 (c_X10_go l D cy (adB s.heap.size) ((f_X9_go (σ) (sv xs (6 * k + 1))).2) (sv xs (6 * k + 1)) (sv_rng _ _)) hx hb hml hown hts hK hN hI hl.1 gL_law_X10_go rfl hd_X10_go rfl rfl ⟨by decide, by decide⟩ ⟨by show _ ≤ 601024; omega, by show _ ≤ 7293034; omega⟩ (by decide) (cel_28 cy _ _) rfl rfl rfl rfl (Nat.le_of_ble_eq_true rfl) dL_law_688 (fun H locs hG_2 hI => ?_)
  have hF2 := hI.2.2.2
  have sim := s_go (hLI.mid hF (fun x hx => fx_f_X9_go σ (sv xs (6 * k + 1)) hx)) hLI.2 hF (sv xs (6 * k + 1))
  refine lv_icmp_eq (tgt := 889) hx hb dL_law_691 (by decide) (fun _ => ?_) (fun z => absurd (congrArg iI sim.1) z)
  refine W.widen (k := cells + 1) (n := slots + 6) (by omega) (by omega) ?_
  exact kk _ _ _ _ hI (LI.end sim.2.1 sim.2.2 hF1 (fun x hx => mx_f_X10_go _ (sv xs (6 * k + 1)) hx)) hl
set_option maxHeartbeats 4000000 in
set_option maxRecDepth 100000 in
theorem law_16 {p : Program} {l : Launch} {e : Env} {s : State} {m : MethodId} {args : Array Value} {below : List Frame} {meth : Method} {c : Code} {D : va_G} {cy : Nat → ClassId} {b L : Nat} {xs : Nat → Int32} {sa sb : Nat} (X : LX p l s m args meth c D cy b L xs sa sb) {σ : Sg} {H : Heap} {locs : List Loc} {ls : Array Slot} {cells slots : Nat} {Q : State → Prop} {k : Nat} (hI : HI D cy (adB s.heap.size) s σ H locs) (hLI : LI σ) (hl : lv_has ls 7 (LV s b k)) (hk : 6 * k + 6 ≤ L) (hL : L ≤ 3072) (hcs : cells + 1 ≤ 601024 ∧ slots + 6 ≤ 7293034)
    (kk : ∀ (σ' : Sg) (H' : Heap) (locs' : List Loc) (ls' : Array Slot), HI D cy (adB s.heap.size) s σ' H' locs' → LI σ' → lv_has ls' 7 (LV s b k) → W p l e room_1 s m args below meth c H' locs' (cells + 1) (slots + 6) Q (F0 m 889 ls' [])) : W p l e room_1 s m args below meth c H locs cells slots Q (F0 m 696 ls []) := by
  obtain ⟨hx, hb, hml, hown, hts, hK, hN, hX, hbl, hZ, hnt⟩ := X
  have hF := hI.2.2.2
  refine lv_aload_n hx hb dL_law_696 rfl (lv_at hl 3 rfl) ?_
  refine g_scr 1 hx hb hX hbl hI hl hk hL (by decide) dL_law_697 dL_law_698 dL_law_700 dL_law_701 dL_law_702 ?_
  refine g_V (As := [.int (iI (sv xs (6 * k + 1)))]) (rest := []) 0 (c_X9_back l D cy (adB s.heap.size) (σ) (sv xs (6 * k + 1)) (sv_rng _ _)) hx hb hml hown hts hK hN hI hl.1 gL_law_X9_back rfl hd_X9_back rfl rfl ⟨by decide, by decide⟩ ⟨by show _ ≤ 601024; omega, by show _ ≤ 7293034; omega⟩ (by decide) (cel_0 cy _ _) rfl rfl rfl rfl (Nat.le_of_ble_eq_true rfl) dL_law_703 (fun H locs hG_1 hI => ?_)
  have hF1 := hI.2.2.2
  refine lv_aload_n hx hb dL_law_706 rfl (lv_at hl 2 rfl) ?_
  refine g_scr 1 hx hb hX hbl hI hl hk hL (by decide) dL_law_707 dL_law_708 dL_law_710 dL_law_711 dL_law_712 ?_
  refine g_V (As := [.int (iI (sv xs (6 * k + 1)))]) (rest := [.int (iI ((f_X9_back (σ) (sv xs (6 * k + 1))).1))]) 28 (c_X10_back l D cy (adB s.heap.size) ((f_X9_back (σ) (sv xs (6 * k + 1))).2) (sv xs (6 * k + 1)) (sv_rng _ _)) hx hb hml hown hts hK hN hI hl.1 gL_law_X10_back rfl hd_X10_back rfl rfl ⟨by decide, by decide⟩ ⟨by show _ ≤ 601024; omega, by show _ ≤ 7293034; omega⟩ (by decide) (cel_28 cy _ _) rfl rfl rfl rfl (Nat.le_of_ble_eq_true rfl) dL_law_713 (fun H locs hG_2 hI => ?_)
  have hF2 := hI.2.2.2
  have sim := s_back (hLI.mid hF (fun x hx => fx_f_X9_back σ (sv xs (6 * k + 1)) hx)) hLI.2 hF (sv xs (6 * k + 1))
  refine lv_icmp_eq (tgt := 889) hx hb dL_law_716 (by decide) (fun _ => ?_) (fun z => absurd (congrArg iI sim.1) z)
  refine W.widen (k := cells + 1) (n := slots + 6) (by omega) (by omega) ?_
  exact kk _ _ _ _ hI (LI.end sim.2.1 sim.2.2 hF1 (fun x hx => mx_f_X10_back _ (sv xs (6 * k + 1)) hx)) hl
set_option maxHeartbeats 4000000 in
set_option maxRecDepth 100000 in
theorem law_17 {p : Program} {l : Launch} {e : Env} {s : State} {m : MethodId} {args : Array Value} {below : List Frame} {meth : Method} {c : Code} {D : va_G} {cy : Nat → ClassId} {b L : Nat} {xs : Nat → Int32} {sa sb : Nat} (X : LX p l s m args meth c D cy b L xs sa sb) {σ : Sg} {H : Heap} {locs : List Loc} {ls : Array Slot} {cells slots : Nat} {Q : State → Prop} {k : Nat} (hI : HI D cy (adB s.heap.size) s σ H locs) (hLI : LI σ) (hl : lv_has ls 7 (LV s b k)) (hk : 6 * k + 6 ≤ L) (hL : L ≤ 3072) (hcs : cells + 1 ≤ 601024 ∧ slots + 6 ≤ 7293034)
    (kk : ∀ (σ' : Sg) (H' : Heap) (locs' : List Loc) (ls' : Array Slot), HI D cy (adB s.heap.size) s σ' H' locs' → LI σ' → lv_has ls' 7 (LV s b k) → W p l e room_1 s m args below meth c H' locs' (cells + 1) (slots + 6) Q (F0 m 889 ls' [])) : W p l e room_1 s m args below meth c H locs cells slots Q (F0 m 721 ls []) := by
  obtain ⟨hx, hb, hml, hown, hts, hK, hN, hX, hbl, hZ, hnt⟩ := X
  have hF := hI.2.2.2
  refine lv_aload_n hx hb dL_law_721 rfl (lv_at hl 3 rfl) ?_
  refine g_V (As := []) (rest := []) 0 (c_X9_stuck l D cy (adB s.heap.size) (σ) ) hx hb hml hown hts hK hN hI hl.1 gL_law_X9_stuck rfl hd_X9_stuck rfl rfl ⟨by decide, by decide⟩ ⟨by show _ ≤ 601024; omega, by show _ ≤ 7293034; omega⟩ (by decide) (cel_0 cy _ _) rfl rfl rfl rfl (Nat.le_of_ble_eq_true rfl) dL_law_722 (fun H locs hG_1 hI => ?_)
  have hF1 := hI.2.2.2
  refine lv_aload_n hx hb dL_law_725 rfl (lv_at hl 2 rfl) ?_
  refine g_V (As := []) (rest := [.int (iI (f_X9_stuck (σ)))]) 28 (c_X10_stuck l D cy (adB s.heap.size) (σ) ) hx hb hml hown hts hK hN hI hl.1 gL_law_X10_stuck rfl hd_X10_stuck rfl rfl ⟨by decide, by decide⟩ ⟨by show _ ≤ 601024; omega, by show _ ≤ 7293034; omega⟩ (by decide) (cel_28 cy _ _) rfl rfl rfl rfl (Nat.le_of_ble_eq_true rfl) dL_law_726 (fun H locs hG_2 hI => ?_)
  have hF2 := hI.2.2.2
  have sim := s_stuck hLI.1 
  refine lv_icmp_eq (tgt := 889) hx hb dL_law_729 (by decide) (fun _ => ?_) (fun z => absurd (congrArg iI sim.1) z)
  refine W.widen (k := cells + 1) (n := slots + 6) (by omega) (by omega) ?_
  exact kk _ _ _ _ hI (LI.read hLI hF sim.2) hl
set_option maxHeartbeats 4000000 in
set_option maxRecDepth 100000 in
theorem law_18 {p : Program} {l : Launch} {e : Env} {s : State} {m : MethodId} {args : Array Value} {below : List Frame} {meth : Method} {c : Code} {D : va_G} {cy : Nat → ClassId} {b L : Nat} {xs : Nat → Int32} {sa sb : Nat} (X : LX p l s m args meth c D cy b L xs sa sb) {σ : Sg} {H : Heap} {locs : List Loc} {ls : Array Slot} {cells slots : Nat} {Q : State → Prop} {k : Nat} (hI : HI D cy (adB s.heap.size) s σ H locs) (hLI : LI σ) (hl : lv_has ls 7 (LV s b k)) (hk : 6 * k + 6 ≤ L) (hL : L ≤ 3072) (hcs : cells + 1 ≤ 601024 ∧ slots + 6 ≤ 7293034)
    (kk : ∀ (σ' : Sg) (H' : Heap) (locs' : List Loc) (ls' : Array Slot), HI D cy (adB s.heap.size) s σ' H' locs' → LI σ' → lv_has ls' 7 (LV s b k) → W p l e room_1 s m args below meth c H' locs' (cells + 1) (slots + 6) Q (F0 m 889 ls' [])) : W p l e room_1 s m args below meth c H locs cells slots Q (F0 m 734 ls []) := by
  obtain ⟨hx, hb, hml, hown, hts, hK, hN, hX, hbl, hZ, hnt⟩ := X
  have hF := hI.2.2.2
  refine lv_aload_n hx hb dL_law_734 rfl (lv_at hl 3 rfl) ?_
  refine g_scr 1 hx hb hX hbl hI hl hk hL (by decide) dL_law_735 dL_law_736 dL_law_738 dL_law_739 dL_law_740 ?_
  refine g_V (As := [.int (iI (sv xs (6 * k + 1)))]) (rest := []) 0 (c_X9_link l D cy (adB s.heap.size) (σ) (sv xs (6 * k + 1)) (sv_rng _ _)) hx hb hml hown hts hK hN hI hl.1 gL_law_X9_link rfl hd_X9_link rfl rfl ⟨by decide, by decide⟩ ⟨by show _ ≤ 601024; omega, by show _ ≤ 7293034; omega⟩ (by decide) (cel_0 cy _ _) rfl rfl rfl rfl (Nat.le_of_ble_eq_true rfl) dL_law_741 (fun H locs hG_1 hI => ?_)
  have hF1 := hI.2.2.2
  refine lv_aload_n hx hb dL_law_744 rfl (lv_at hl 2 rfl) ?_
  refine g_scr 1 hx hb hX hbl hI hl hk hL (by decide) dL_law_745 dL_law_746 dL_law_748 dL_law_749 dL_law_750 ?_
  refine g_V (As := [.int (iI (sv xs (6 * k + 1)))]) (rest := [.int (iI ((f_X9_link (σ) (sv xs (6 * k + 1))).1))]) 28 (c_X10_link l D cy (adB s.heap.size) ((f_X9_link (σ) (sv xs (6 * k + 1))).2) (sv xs (6 * k + 1)) (sv_rng _ _)) hx hb hml hown hts hK hN hI hl.1 gL_law_X10_link rfl hd_X10_link rfl rfl ⟨by decide, by decide⟩ ⟨by show _ ≤ 601024; omega, by show _ ≤ 7293034; omega⟩ (by decide) (cel_28 cy _ _) rfl rfl rfl rfl (Nat.le_of_ble_eq_true rfl) dL_law_751 (fun H locs hG_2 hI => ?_)
  have hF2 := hI.2.2.2
  have sim := s_link (hLI.mid hF (fun x hx => fx_f_X9_link σ (sv xs (6 * k + 1)) hx)) hLI.2 hF (sv xs (6 * k + 1))
  refine lv_icmp_eq (tgt := 889) hx hb dL_law_754 (by decide) (fun _ => ?_) (fun z => absurd (congrArg iI sim.1) z)
  refine W.widen (k := cells + 1) (n := slots + 6) (by omega) (by omega) ?_
  exact kk _ _ _ _ hI (LI.end sim.2.1 sim.2.2 hF1 (fun x hx => mx_f_X10_link _ (sv xs (6 * k + 1)) hx)) hl
set_option maxHeartbeats 4000000 in
set_option maxRecDepth 100000 in
theorem law_19 {p : Program} {l : Launch} {e : Env} {s : State} {m : MethodId} {args : Array Value} {below : List Frame} {meth : Method} {c : Code} {D : va_G} {cy : Nat → ClassId} {b L : Nat} {xs : Nat → Int32} {sa sb : Nat} (X : LX p l s m args meth c D cy b L xs sa sb) {σ : Sg} {H : Heap} {locs : List Loc} {ls : Array Slot} {cells slots : Nat} {Q : State → Prop} {k : Nat} (hI : HI D cy (adB s.heap.size) s σ H locs) (hLI : LI σ) (hl : lv_has ls 7 (LV s b k)) (hk : 6 * k + 6 ≤ L) (hL : L ≤ 3072) (hcs : cells + 1 ≤ 601024 ∧ slots + 6 ≤ 7293034)
    (kk : ∀ (σ' : Sg) (H' : Heap) (locs' : List Loc) (ls' : Array Slot), HI D cy (adB s.heap.size) s σ' H' locs' → LI σ' → lv_has ls' 7 (LV s b k) → W p l e room_1 s m args below meth c H' locs' (cells + 1) (slots + 6) Q (F0 m 889 ls' [])) : W p l e room_1 s m args below meth c H locs cells slots Q (F0 m 759 ls []) := by
  obtain ⟨hx, hb, hml, hown, hts, hK, hN, hX, hbl, hZ, hnt⟩ := X
  have hF := hI.2.2.2
  refine lv_aload_n hx hb dL_law_759 rfl (lv_at hl 3 rfl) ?_
  refine g_scr 1 hx hb hX hbl hI hl hk hL (by decide) dL_law_760 dL_law_761 dL_law_763 dL_law_764 dL_law_765 ?_
  refine g_scr 2 hx hb hX hbl hI hl hk hL (by decide) dL_law_766 dL_law_767 dL_law_769 dL_law_770 dL_law_771 ?_
  refine g_V (As := [.int (iI (sv xs (6 * k + 1))), .int (iI (sv xs (6 * k + 2)))]) (rest := []) 0 (c_X9_linkOf l D cy (adB s.heap.size) (σ) (sv xs (6 * k + 1)) (sv_rng _ _) (sv xs (6 * k + 2)) (sv_rng _ _)) hx hb hml hown hts hK hN hI hl.1 gL_law_X9_linkOf rfl hd_X9_linkOf rfl rfl ⟨by decide, by decide⟩ ⟨by show _ ≤ 601024; omega, by show _ ≤ 7293034; omega⟩ (by decide) (cel_0 cy _ _) rfl rfl rfl rfl (Nat.le_of_ble_eq_true rfl) dL_law_772 (fun H locs hG_1 hI => ?_)
  have hF1 := hI.2.2.2
  refine lv_aload_n hx hb dL_law_775 rfl (lv_at hl 2 rfl) ?_
  refine g_scr 1 hx hb hX hbl hI hl hk hL (by decide) dL_law_776 dL_law_777 dL_law_779 dL_law_780 dL_law_781 ?_
  refine g_scr 2 hx hb hX hbl hI hl hk hL (by decide) dL_law_782 dL_law_783 dL_law_785 dL_law_786 dL_law_787 ?_
  refine g_V (As := [.int (iI (sv xs (6 * k + 1))), .int (iI (sv xs (6 * k + 2)))]) (rest := [.int (iI (f_X9_linkOf (σ) (sv xs (6 * k + 1)) (sv xs (6 * k + 2))))]) 28 (c_X10_linkOf l D cy (adB s.heap.size) (σ) (sv xs (6 * k + 1)) (sv_rng _ _) (sv xs (6 * k + 2)) (sv_rng _ _)) hx hb hml hown hts hK hN hI hl.1 gL_law_X10_linkOf rfl hd_X10_linkOf rfl rfl ⟨by decide, by decide⟩ ⟨by show _ ≤ 601024; omega, by show _ ≤ 7293034; omega⟩ (by decide) (cel_28 cy _ _) rfl rfl rfl rfl (Nat.le_of_ble_eq_true rfl) dL_law_788 (fun H locs hG_2 hI => ?_)
  have hF2 := hI.2.2.2
  have sim := s_linkOf hLI.1 hF (sv xs (6 * k + 1)) (sv xs (6 * k + 2))
  refine lv_icmp_eq (tgt := 889) hx hb dL_law_791 (by decide) (fun _ => ?_) (fun z => absurd (congrArg iI sim.1) z)
  refine W.widen (k := cells + 1) (n := slots + 6) (by omega) (by omega) ?_
  exact kk _ _ _ _ hI (LI.read hLI hF sim.2) hl
set_option maxHeartbeats 4000000 in
set_option maxRecDepth 100000 in
theorem law_21 {p : Program} {l : Launch} {e : Env} {s : State} {m : MethodId} {args : Array Value} {below : List Frame} {meth : Method} {c : Code} {D : va_G} {cy : Nat → ClassId} {b L : Nat} {xs : Nat → Int32} {sa sb : Nat} (X : LX p l s m args meth c D cy b L xs sa sb) {σ : Sg} {H : Heap} {locs : List Loc} {ls : Array Slot} {cells slots : Nat} {Q : State → Prop} {k : Nat} (hI : HI D cy (adB s.heap.size) s σ H locs) (hLI : LI σ) (hl : lv_has ls 7 (LV s b k)) (hk : 6 * k + 6 ≤ L) (hL : L ≤ 3072) (hcs : cells + 1 ≤ 601024 ∧ slots + 6 ≤ 7293034)
    (kk : ∀ (σ' : Sg) (H' : Heap) (locs' : List Loc) (ls' : Array Slot), HI D cy (adB s.heap.size) s σ' H' locs' → LI σ' → lv_has ls' 7 (LV s b k) → W p l e room_1 s m args below meth c H' locs' (cells + 1) (slots + 6) Q (F0 m 889 ls' [])) : W p l e room_1 s m args below meth c H locs cells slots Q (F0 m 864 ls []) := by
  obtain ⟨hx, hb, hml, hown, hts, hK, hN, hX, hbl, hZ, hnt⟩ := X
  have hF := hI.2.2.2
  refine lv_aload_n hx hb dL_law_864 rfl (lv_at hl 3 rfl) ?_
  refine g_scr 1 hx hb hX hbl hI hl hk hL (by decide) dL_law_865 dL_law_866 dL_law_868 dL_law_869 dL_law_870 ?_
  refine g_V (As := [.int (iI (sv xs (6 * k + 1)))]) (rest := []) 0 (c_X9_count l D cy (adB s.heap.size) (σ) (sv xs (6 * k + 1)) (sv_rng _ _)) hx hb hml hown hts hK hN hI hl.1 gL_law_X9_count rfl hd_X9_count rfl rfl ⟨by decide, by decide⟩ ⟨by show _ ≤ 601024; omega, by show _ ≤ 7293034; omega⟩ (by decide) (cel_0 cy _ _) rfl rfl rfl rfl (Nat.le_of_ble_eq_true rfl) dL_law_871 (fun H locs hG_1 hI => ?_)
  have hF1 := hI.2.2.2
  refine lv_aload_n hx hb dL_law_874 rfl (lv_at hl 2 rfl) ?_
  refine g_scr 1 hx hb hX hbl hI hl hk hL (by decide) dL_law_875 dL_law_876 dL_law_878 dL_law_879 dL_law_880 ?_
  refine g_V (As := [.int (iI (sv xs (6 * k + 1)))]) (rest := [.int (iI (f_X9_count (σ) (sv xs (6 * k + 1))))]) 28 (c_X10_count l D cy (adB s.heap.size) (σ) (sv xs (6 * k + 1)) (sv_rng _ _)) hx hb hml hown hts hK hN hI hl.1 gL_law_X10_count rfl hd_X10_count rfl rfl ⟨by decide, by decide⟩ ⟨by show _ ≤ 601024; omega, by show _ ≤ 7293034; omega⟩ (by decide) (cel_28 cy _ _) rfl rfl rfl rfl (Nat.le_of_ble_eq_true rfl) dL_law_881 (fun H locs hG_2 hI => ?_)
  have hF2 := hI.2.2.2
  have sim := s_count hLI.1 hLI.2 hF hF (sv xs (6 * k + 1))
  refine lv_icmp_eq (tgt := 889) hx hb dL_law_884 (by decide) (fun _ => ?_) (fun z => absurd (congrArg iI sim.1) z)
  refine W.widen (k := cells + 1) (n := slots + 6) (by omega) (by omega) ?_
  exact kk _ _ _ _ hI (LI.read hLI hF sim.2) hl
