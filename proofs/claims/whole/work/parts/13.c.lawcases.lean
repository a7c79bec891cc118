set_option maxHeartbeats 4000000 in
set_option maxRecDepth 100000 in
theorem law_7 {p : Program} {l : Launch} {e : Env} {s : State} {m : MethodId} {args : Array Value} {below : List Frame} {meth : Method} {c : Code} {D : va_G} {cy : Nat → ClassId} {b L : Nat} {xs : Nat → Int32} {sa sb : Nat} (X : LX p l s m args meth c D cy b L xs sa sb) {σ : Sg} {H : Heap} {locs : List Loc} {ls : Array Slot} {cells slots : Nat} {Q : State → Prop} {k : Nat} (hI : HI D cy (adB s.heap.size) s σ H locs) (hLI : LI σ) (hl : lv_has ls 7 (LV s b k)) (hk : 6 * k + 6 ≤ L) (hL : L ≤ 3072) (hcs : cells + 1 ≤ 601024 ∧ slots + 6 ≤ 7293034)
    (kk : ∀ (σ' : Sg) (H' : Heap) (locs' : List Loc) (ls' : Array Slot), HI D cy (adB s.heap.size) s σ' H' locs' → LI σ' → lv_has ls' 7 (LV s b k) → W p l e room_1 s m args below meth c H' locs' (cells + 1) (slots + 6) Q (F0 m 889 ls' [])) : W p l e room_1 s m args below meth c H locs cells slots Q (F0 m 395 ls []) := by
  obtain ⟨hx, hb, hml, hown, hts, hK, hN, hX, hbl, hZ, hnt⟩ := X
  have hF := hI.2.2.2
  refine lv_aload_n hx hb dL_law_395 rfl (lv_at hl 3 rfl) ?_
  refine g_V (As := []) (rest := []) 0 (c_X9_rule l D cy (adB s.heap.size) (σ) ) hx hb hml hown hts hK hN hI hl.1 gL_law_X9_rule rfl hd_X9_rule rfl rfl ⟨by decide, by decide⟩ ⟨by show _ ≤ 601024; omega, by show _ ≤ 7293034; omega⟩ (by decide) (cel_0 cy _ _) rfl rfl rfl rfl (Nat.le_of_ble_eq_true rfl) dL_law_396 (fun H locs hG_1 hI => ?_)
  have hF1 := hI.2.2.2
  refine lv_aload_n hx hb dL_law_399 rfl (lv_at hl 2 rfl) ?_
  refine g_V (As := []) (rest := [.int (iI ((f_X9_rule (σ)).1))]) 28 (c_X10_rule l D cy (adB s.heap.size) ((f_X9_rule (σ)).2) ) hx hb hml hown hts hK hN hI hl.1 gL_law_X10_rule rfl hd_X10_rule rfl rfl ⟨by decide, by decide⟩ ⟨by show _ ≤ 601024; omega, by show _ ≤ 7293034; omega⟩ (by decide) (cel_28 cy _ _) rfl rfl rfl rfl (Nat.le_of_ble_eq_true rfl) dL_law_400 (fun H locs hG_2 hI => ?_)
  have hF2 := hI.2.2.2
  have sim := s_rule (hLI.mid hF (fun x hx => fx_f_X9_rule σ  hx)) hLI.2 hF 
  refine lv_icmp_eq (tgt := 889) hx hb dL_law_403 (by decide) (fun _ => ?_) (fun z => absurd (congrArg iI sim.1) z)
  refine W.widen (k := cells + 1) (n := slots + 6) (by omega) (by omega) ?_
  exact kk _ _ _ _ hI (LI.end sim.2.1 sim.2.2 hF1 (fun x hx => mx_f_X10_rule _  hx)) hl
set_option maxHeartbeats 4000000 in
set_option maxRecDepth 100000 in
theorem law_8 {p : Program} {l : Launch} {e : Env} {s : State} {m : MethodId} {args : Array Value} {below : List Frame} {meth : Method} {c : Code} {D : va_G} {cy : Nat → ClassId} {b L : Nat} {xs : Nat → Int32} {sa sb : Nat} (X : LX p l s m args meth c D cy b L xs sa sb) {σ : Sg} {H : Heap} {locs : List Loc} {ls : Array Slot} {cells slots : Nat} {Q : State → Prop} {k : Nat} (hI : HI D cy (adB s.heap.size) s σ H locs) (hLI : LI σ) (hl : lv_has ls 7 (LV s b k)) (hk : 6 * k + 6 ≤ L) (hL : L ≤ 3072) (hcs : cells + 1 ≤ 601024 ∧ slots + 6 ≤ 7293034)
    (kk : ∀ (σ' : Sg) (H' : Heap) (locs' : List Loc) (ls' : Array Slot), HI D cy (adB s.heap.size) s σ' H' locs' → LI σ' → lv_has ls' 7 (LV s b k) → W p l e room_1 s m args below meth c H' locs' (cells + 1) (slots + 6) Q (F0 m 889 ls' [])) : W p l e room_1 s m args below meth c H locs cells slots Q (F0 m 408 ls []) := by
  obtain ⟨hx, hb, hml, hown, hts, hK, hN, hX, hbl, hZ, hnt⟩ := X
  have hF := hI.2.2.2
  refine lv_aload_n hx hb dL_law_408 rfl (lv_at hl 3 rfl) ?_
  refine g_V (As := []) (rest := []) 0 (c_X9_place l D cy (adB s.heap.size) (σ) ) hx hb hml hown hts hK hN hI hl.1 gL_law_X9_place rfl hd_X9_place rfl rfl ⟨by decide, by decide⟩ ⟨by show _ ≤ 601024; omega, by show _ ≤ 7293034; omega⟩ (by decide) (cel_0 cy _ _) rfl rfl rfl rfl (Nat.le_of_ble_eq_true rfl) dL_law_409 (fun H locs hG_1 hI => ?_)
  have hF1 := hI.2.2.2
  refine lv_aload_n hx hb dL_law_412 rfl (lv_at hl 2 rfl) ?_
  refine g_V (As := []) (rest := [.int (iI (f_X9_place (σ)))]) 28 (c_X10_place l D cy (adB s.heap.size) (σ) ) hx hb hml hown hts hK hN hI hl.1 gL_law_X10_place rfl hd_X10_place rfl rfl ⟨by decide, by decide⟩ ⟨by show _ ≤ 601024; omega, by show _ ≤ 7293034; omega⟩ (by decide) (cel_28 cy _ _) rfl rfl rfl rfl (Nat.le_of_ble_eq_true rfl) dL_law_413 (fun H locs hG_2 hI => ?_)
  have hF2 := hI.2.2.2
  have sim := s_place hLI.1 
  refine lv_icmp_eq (tgt := 889) hx hb dL_law_416 (by decide) (fun _ => ?_) (fun z => absurd (congrArg iI sim.1) z)
  refine W.widen (k := cells + 1) (n := slots + 6) (by omega) (by omega) ?_
  exact kk _ _ _ _ hI (LI.read hLI hF sim.2) hl
set_option maxHeartbeats 4000000 in
set_option maxRecDepth 100000 in
theorem law_9 {p : Program} {l : Launch} {e : Env} {s : State} {m : MethodId} {args : Array Value} {below : List Frame} {meth : Method} {c : Code} {D : va_G} {cy : Nat → ClassId} {b L : Nat} {xs : Nat → Int32} {sa sb : Nat} (X : LX p l s m args meth c D cy b L xs sa sb) {σ : Sg} {H : Heap} {locs : List Loc} {ls : Array Slot} {cells slots : Nat} {Q : State → Prop} {k : Nat} (hI : HI D cy (adB s.heap.size) s σ H locs) (hLI : LI σ) (hl : lv_has ls 7 (LV s b k)) (hk : 6 * k + 6 ≤ L) (hL : L ≤ 3072) (hcs : cells + 1 ≤ 601024 ∧ slots + 6 ≤ 7293034)
    (kk : ∀ (σ' : Sg) (H' : Heap) (locs' : List Loc) (ls' : Array Slot), HI D cy (adB s.heap.size) s σ' H' locs' → LI σ' → lv_has ls' 7 (LV s b k) → W p l e room_1 s m args below meth c H' locs' (cells + 1) (slots + 6) Q (F0 m 889 ls' [])) : W p l e room_1 s m args below meth c H locs cells slots Q (F0 m 421 ls []) := by
  obtain ⟨hx, hb, hml, hown, hts, hK, hN, hX, hbl, hZ, hnt⟩ := X
  have hF := hI.2.2.2
  refine lv_aload_n hx hb dL_law_421 rfl (lv_at hl 3 rfl) ?_
  refine g_scr 1 hx hb hX hbl hI hl hk hL (by decide) dL_law_422 dL_law_423 dL_law_425 dL_law_426 dL_law_427 ?_
  refine g_scr 2 hx hb hX hbl hI hl hk hL (by decide) dL_law_428 dL_law_429 dL_law_431 dL_law_432 dL_law_433 ?_
  refine g_V (As := [.int (iI (sv xs (6 * k + 1))), .int (iI (sv xs (6 * k + 2)))]) (rest := []) 0 (c_X9_fits l D cy (adB s.heap.size) (σ) (sv xs (6 * k + 1)) (sv_rng _ _) (sv xs (6 * k + 2)) (sv_rng _ _)) hx hb hml hown hts hK hN hI hl.1 gL_law_X9_fits rfl hd_X9_fits rfl rfl ⟨by decide, by decide⟩ ⟨by show _ ≤ 601024; omega, by show _ ≤ 7293034; omega⟩ (by decide) (cel_0 cy _ _) rfl rfl rfl rfl (Nat.le_of_ble_eq_true rfl) dL_law_434 (fun H locs hG_1 hI => ?_)
  have hF1 := hI.2.2.2
  refine lv_aload_n hx hb dL_law_437 rfl (lv_at hl 2 rfl) ?_
  refine g_scr 1 hx hb hX hbl hI hl hk hL (by decide) dL_law_438 dL_law_439 dL_law_441 dL_law_442 dL_law_443 ?_
  refine g_scr 2 hx hb hX hbl hI hl hk hL (by decide) dL_law_444 dL_law_445 dL_law_447 dL_law_448 dL_law_449 ?_
  refine g_V (As := [.int (iI (sv xs (6 * k + 1))), .int (iI (sv xs (6 * k + 2)))]) (rest := [.int (iI ((f_X9_fits (σ) (sv xs (6 * k + 1)) (sv xs (6 * k + 2))).1))]) 28 (c_X10_fits l D cy (adB s.heap.size) ((f_X9_fits (σ) (sv xs (6 * k + 1)) (sv xs (6 * k + 2))).2) (sv xs (6 * k + 1)) (sv_rng _ _) (sv xs (6 * k + 2)) (sv_rng _ _)) hx hb hml hown hts hK hN hI hl.1 gL_law_X10_fits rfl hd_X10_fits rfl rfl ⟨by decide, by decide⟩ ⟨by show _ ≤ 601024; omega, by show _ ≤ 7293034; omega⟩ (by decide) (cel_28 cy _ _) rfl rfl rfl rfl (Nat.le_of_ble_eq_true rfl) dL_law_450 (fun H locs hG_2 hI => ?_)
  have hF2 := hI.2.2.2
  have sim := s_fits (hLI.mid hF (fun x hx => fx_f_X9_fits σ (sv xs (6 * k + 1)) (sv xs (6 * k + 2)) hx)) hLI.2 hF (sv xs (6 * k + 1)) (sv xs (6 * k + 2))
  refine lv_icmp_eq (tgt := 889) hx hb dL_law_453 (by decide) (fun _ => ?_) (fun z => absurd (congrArg iI sim.1) z)
  refine W.widen (k := cells + 1) (n := slots + 6) (by omega) (by omega) ?_
  exact kk _ _ _ _ hI (LI.end sim.2.1 sim.2.2 hF1 (fun x hx => mx_f_X10_fits _ (sv xs (6 * k + 1)) (sv xs (6 * k + 2)) hx)) hl
set_option maxHeartbeats 4000000 in
set_option maxRecDepth 100000 in
theorem law_10 {p : Program} {l : Launch} {e : Env} {s : State} {m : MethodId} {args : Array Value} {below : List Frame} {meth : Method} {c : Code} {D : va_G} {cy : Nat → ClassId} {b L : Nat} {xs : Nat → Int32} {sa sb : Nat} (X : LX p l s m args meth c D cy b L xs sa sb) {σ : Sg} {H : Heap} {locs : List Loc} {ls : Array Slot} {cells slots : Nat} {Q : State → Prop} {k : Nat} (hI : HI D cy (adB s.heap.size) s σ H locs) (hLI : LI σ) (hl : lv_has ls 7 (LV s b k)) (hk : 6 * k + 6 ≤ L) (hL : L ≤ 3072) (hcs : cells + 1 ≤ 601024 ∧ slots + 6 ≤ 7293034)
    (kk : ∀ (σ' : Sg) (H' : Heap) (locs' : List Loc) (ls' : Array Slot), HI D cy (adB s.heap.size) s σ' H' locs' → LI σ' → lv_has ls' 7 (LV s b k) → W p l e room_1 s m args below meth c H' locs' (cells + 1) (slots + 6) Q (F0 m 889 ls' [])) : W p l e room_1 s m args below meth c H locs cells slots Q (F0 m 458 ls []) := by
  obtain ⟨hx, hb, hml, hown, hts, hK, hN, hX, hbl, hZ, hnt⟩ := X
  have hF := hI.2.2.2
  refine lv_aload_n hx hb dL_law_458 rfl (lv_at hl 3 rfl) ?_
  refine g_scr 1 hx hb hX hbl hI hl hk hL (by decide) dL_law_459 dL_law_460 dL_law_462 dL_law_463 dL_law_464 ?_
  refine g_scr 2 hx hb hX hbl hI hl hk hL (by decide) dL_law_465 dL_law_466 dL_law_468 dL_law_469 dL_law_470 ?_
  refine g_scr 3 hx hb hX hbl hI hl hk hL (by decide) dL_law_471 dL_law_472 dL_law_474 dL_law_475 dL_law_476 ?_
  refine g_scr 4 hx hb hX hbl hI hl hk hL (by decide) dL_law_477 dL_law_478 dL_law_480 dL_law_481 dL_law_482 ?_
  refine g_scr 5 hx hb hX hbl hI hl hk hL (by decide) dL_law_483 dL_law_484 dL_law_486 dL_law_487 dL_law_488 ?_
  refine b_conv hx hb (sv_rng _ _) dL_law_489 dL_law_492 dL_law_493 dL_law_496 ?_
  refine g_V (As := [.int (iI (sv xs (6 * k + 1))), .int (iI (sv xs (6 * k + 2))), .int (iI (sv xs (6 * k + 3))), .int (iI (sv xs (6 * k + 4))), .int (iI (bI (sv xs (6 * k + 5))))]) (rest := []) 0 (c_X9_plan l D cy (adB s.heap.size) (σ) (sv xs (6 * k + 1)) (sv_rng _ _) (sv xs (6 * k + 2)) (sv_rng _ _) (sv xs (6 * k + 3)) (sv_rng _ _) (sv xs (6 * k + 4)) (sv_rng _ _) (bI (sv xs (6 * k + 5))) (bI_rng _)) hx hb hml hown hts hK hN hI hl.1 gL_law_X9_plan rfl hd_X9_plan rfl rfl ⟨by decide, by decide⟩ ⟨by show _ ≤ 601024; omega, by show _ ≤ 7293034; omega⟩ (by decide) (cel_0 cy _ _) rfl rfl rfl rfl (Nat.le_of_ble_eq_true rfl) dL_law_497 (fun H locs hG_1 hI => ?_)
  have hF1 := hI.2.2.2
  refine lv_aload_n hx hb dL_law_500 rfl (lv_at hl 2 rfl) ?_
  refine g_scr 1 hx hb hX hbl hI hl hk hL (by decide) dL_law_501 dL_law_502 dL_law_504 dL_law_505 dL_law_506 ?_
  refine g_scr 2 hx hb hX hbl hI hl hk hL (by decide) dL_law_507 dL_law_508 dL_law_510 dL_law_511 dL_law_512 ?_
  refine g_scr 3 hx hb hX hbl hI hl hk hL (by decide) dL_law_513 dL_law_514 dL_law_516 dL_law_517 dL_law_518 ?_
  refine g_scr 4 hx hb hX hbl hI hl hk hL (by decide) dL_law_519 dL_law_520 dL_law_522 dL_law_523 dL_law_524 ?_
  refine g_scr 5 hx hb hX hbl hI hl hk hL (by decide) dL_law_525 dL_law_526 dL_law_528 dL_law_529 dL_law_530 ?_
  refine b_conv hx hb (sv_rng _ _) dL_law_531 dL_law_534 dL_law_535 dL_law_538 ?_
  refine g_V (As := [.int (iI (sv xs (6 * k + 1))), .int (iI (sv xs (6 * k + 2))), .int (iI (sv xs (6 * k + 3))), .int (iI (sv xs (6 * k + 4))), .int (iI (bI (sv xs (6 * k + 5))))]) (rest := [.int (iI ((f_X9_plan (σ) (sv xs (6 * k + 1)) (sv xs (6 * k + 2)) (sv xs (6 * k + 3)) (sv xs (6 * k + 4)) (bI (sv xs (6 * k + 5)))).1))]) 28 (c_X10_plan l D cy (adB s.heap.size) ((f_X9_plan (σ) (sv xs (6 * k + 1)) (sv xs (6 * k + 2)) (sv xs (6 * k + 3)) (sv xs (6 * k + 4)) (bI (sv xs (6 * k + 5)))).2) (sv xs (6 * k + 1)) (sv_rng _ _) (sv xs (6 * k + 2)) (sv_rng _ _) (sv xs (6 * k + 3)) (sv_rng _ _) (sv xs (6 * k + 4)) (sv_rng _ _) (bI (sv xs (6 * k + 5))) (bI_rng _) (ruleOK_of (hLI.mid hF (fun x hx => fx_f_X9_plan σ (sv xs (6 * k + 1)) (sv xs (6 * k + 2)) (sv xs (6 * k + 3)) (sv xs (6 * k + 4)) (bI (sv xs (6 * k + 5))) hx)))) hx hb hml hown hts hK hN hI hl.1 gL_law_X10_plan rfl hd_X10_plan rfl rfl ⟨by decide, by decide⟩ ⟨by show _ ≤ 601024; omega, by show _ ≤ 7293034; omega⟩ (by decide) (cel_28 cy _ _) rfl rfl rfl rfl (Nat.le_of_ble_eq_true rfl) dL_law_539 (fun H locs hG_2 hI => ?_)
  have hF2 := hI.2.2.2
  have sim := s_plan (hLI.mid hF (fun x hx => fx_f_X9_plan σ (sv xs (6 * k + 1)) (sv xs (6 * k + 2)) (sv xs (6 * k + 3)) (sv xs (6 * k + 4)) (bI (sv xs (6 * k + 5))) hx)) hLI.2 hF hF1 (sv xs (6 * k + 1)) (sv xs (6 * k + 2)) (sv xs (6 * k + 3)) (sv xs (6 * k + 4)) (bI (sv xs (6 * k + 5)))
  refine lv_icmp_eq (tgt := 889) hx hb dL_law_542 (by decide) (fun _ => ?_) (fun z => absurd (congrArg iI sim.1) z)
  refine W.widen (k := cells + 1) (n := slots + 6) (by omega) (by omega) ?_
  exact kk _ _ _ _ hI (LI.end sim.2.1 sim.2.2 hF1 (fun x hx => mx_f_X10_plan _ (sv xs (6 * k + 1)) (sv xs (6 * k + 2)) (sv xs (6 * k + 3)) (sv xs (6 * k + 4)) (bI (sv xs (6 * k + 5))) hx)) hl
set_option maxHeartbeats 4000000 in
set_option maxRecDepth 100000 in
theorem law_11 {p : Program} {l : Launch} {e : Env} {s : State} {m : MethodId} {args : Array Value} {below : List Frame} {meth : Method} {c : Code} {D : va_G} {cy : Nat → ClassId} {b L : Nat} {xs : Nat → Int32} {sa sb : Nat} (X : LX p l s m args meth c D cy b L xs sa sb) {σ : Sg} {H : Heap} {locs : List Loc} {ls : Array Slot} {cells slots : Nat} {Q : State → Prop} {k : Nat} (hI : HI D cy (adB s.heap.size) s σ H locs) (hLI : LI σ) (hl : lv_has ls 7 (LV s b k)) (hk : 6 * k + 6 ≤ L) (hL : L ≤ 3072) (hcs : cells + 1 ≤ 601024 ∧ slots + 6 ≤ 7293034)
    (kk : ∀ (σ' : Sg) (H' : Heap) (locs' : List Loc) (ls' : Array Slot), HI D cy (adB s.heap.size) s σ' H' locs' → LI σ' → lv_has ls' 7 (LV s b k) → W p l e room_1 s m args below meth c H' locs' (cells + 1) (slots + 6) Q (F0 m 889 ls' [])) : W p l e room_1 s m args below meth c H locs cells slots Q (F0 m 547 ls []) := by
  obtain ⟨hx, hb, hml, hown, hts, hK, hN, hX, hbl, hZ, hnt⟩ := X
  have hF := hI.2.2.2
  refine lv_aload_n hx hb dL_law_547 rfl (lv_at hl 3 rfl) ?_
  refine g_scr 1 hx hb hX hbl hI hl hk hL (by decide) dL_law_548 dL_law_549 dL_law_551 dL_law_552 dL_law_553 ?_
  refine g_scr 2 hx hb hX hbl hI hl hk hL (by decide) dL_law_554 dL_law_555 dL_law_557 dL_law_558 dL_law_559 ?_
  refine g_V (As := [.int (iI (sv xs (6 * k + 1))), .int (iI (sv xs (6 * k + 2)))]) (rest := []) 0 (c_X9_planned l D cy (adB s.heap.size) (σ) (sv xs (6 * k + 1)) (sv_rng _ _) (sv xs (6 * k + 2)) (sv_rng _ _)) hx hb hml hown hts hK hN hI hl.1 gL_law_X9_planned rfl hd_X9_planned rfl rfl ⟨by decide, by decide⟩ ⟨by show _ ≤ 601024; omega, by show _ ≤ 7293034; omega⟩ (by decide) (cel_0 cy _ _) rfl rfl rfl rfl (Nat.le_of_ble_eq_true rfl) dL_law_560 (fun H locs hG_1 hI => ?_)
  have hF1 := hI.2.2.2
  refine lv_aload_n hx hb dL_law_563 rfl (lv_at hl 2 rfl) ?_
  refine g_scr 1 hx hb hX hbl hI hl hk hL (by decide) dL_law_564 dL_law_565 dL_law_567 dL_law_568 dL_law_569 ?_
  refine g_scr 2 hx hb hX hbl hI hl hk hL (by decide) dL_law_570 dL_law_571 dL_law_573 dL_law_574 dL_law_575 ?_
  refine g_V (As := [.int (iI (sv xs (6 * k + 1))), .int (iI (sv xs (6 * k + 2)))]) (rest := [.int (iI (f_X9_planned (σ) (sv xs (6 * k + 1)) (sv xs (6 * k + 2))))]) 28 (c_X10_planned l D cy (adB s.heap.size) (σ) (sv xs (6 * k + 1)) (sv_rng _ _) (sv xs (6 * k + 2)) (sv_rng _ _)) hx hb hml hown hts hK hN hI hl.1 gL_law_X10_planned rfl hd_X10_planned rfl rfl ⟨by decide, by decide⟩ ⟨by show _ ≤ 601024; omega, by show _ ≤ 7293034; omega⟩ (by decide) (cel_28 cy _ _) rfl rfl rfl rfl (Nat.le_of_ble_eq_true rfl) dL_law_576 (fun H locs hG_2 hI => ?_)
  have hF2 := hI.2.2.2
  have sim := s_planned hLI.1.2.2.2.2 (sv xs (6 * k + 1)) (sv xs (6 * k + 2))
  refine lv_icmp_eq (tgt := 889) hx hb dL_law_579 (by decide) (fun _ => ?_) (fun z => absurd (congrArg iI sim.1) z)
  refine W.widen (k := cells + 1) (n := slots + 6) (by omega) (by omega) ?_
  exact kk _ _ _ _ hI (LI.read hLI hF sim.2) hl
set_option maxHeartbeats 4000000 in
set_option maxRecDepth 100000 in
theorem law_12 {p : Program} {l : Launch} {e : Env} {s : State} {m : MethodId} {args : Array Value} {below : List Frame} {meth : Method} {c : Code} {D : va_G} {cy : Nat → ClassId} {b L : Nat} {xs : Nat → Int32} {sa sb : Nat} (X : LX p l s m args meth c D cy b L xs sa sb) {σ : Sg} {H : Heap} {locs : List Loc} {ls : Array Slot} {cells slots : Nat} {Q : State → Prop} {k : Nat} (hI : HI D cy (adB s.heap.size) s σ H locs) (hLI : LI σ) (hl : lv_has ls 7 (LV s b k)) (hk : 6 * k + 6 ≤ L) (hL : L ≤ 3072) (hcs : cells + 1 ≤ 601024 ∧ slots + 6 ≤ 7293034)
    (kk : ∀ (σ' : Sg) (H' : Heap) (locs' : List Loc) (ls' : Array Slot), HI D cy (adB s.heap.size) s σ' H' locs' → LI σ' → lv_has ls' 7 (LV s b k) → W p l e room_1 s m args below meth c H' locs' (cells + 1) (slots + 6) Q (F0 m 889 ls' [])) : W p l e room_1 s m args below meth c H locs cells slots Q (F0 m 584 ls []) := by
  obtain ⟨hx, hb, hml, hown, hts, hK, hN, hX, hbl, hZ, hnt⟩ := X
  have hF := hI.2.2.2
  refine lv_aload_n hx hb dL_law_584 rfl (lv_at hl 3 rfl) ?_
  refine g_scr 1 hx hb hX hbl hI hl hk hL (by decide) dL_law_585 dL_law_586 dL_law_588 dL_law_589 dL_law_590 ?_
  refine g_scr 2 hx hb hX hbl hI hl hk hL (by decide) dL_law_591 dL_law_592 dL_law_594 dL_law_595 dL_law_596 ?_
  refine g_V (As := [.int (iI (sv xs (6 * k + 1))), .int (iI (sv xs (6 * k + 2)))]) (rest := []) 0 (c_X9_newName l D cy (adB s.heap.size) (σ) (sv xs (6 * k + 1)) (sv_rng _ _) (sv xs (6 * k + 2)) (sv_rng _ _)) hx hb hml hown hts hK hN hI hl.1 gL_law_X9_newName rfl hd_X9_newName rfl rfl ⟨by decide, by decide⟩ ⟨by show _ ≤ 601024; omega, by show _ ≤ 7293034; omega⟩ (by decide) (cel_0 cy _ _) rfl rfl rfl rfl (Nat.le_of_ble_eq_true rfl) dL_law_597 (fun H locs hG_1 hI => ?_)
  have hF1 := hI.2.2.2
  refine lv_aload_n hx hb dL_law_600 rfl (lv_at hl 2 rfl) ?_
  refine g_scr 1 hx hb hX hbl hI hl hk hL (by decide) dL_law_601 dL_law_602 dL_law_604 dL_law_605 dL_law_606 ?_
  refine g_scr 2 hx hb hX hbl hI hl hk hL (by decide) dL_law_607 dL_law_608 dL_law_610 dL_law_611 dL_law_612 ?_
  refine g_V (As := [.int (iI (sv xs (6 * k + 1))), .int (iI (sv xs (6 * k + 2)))]) (rest := [.int (iI (f_X9_newName (σ) (sv xs (6 * k + 1)) (sv xs (6 * k + 2))))]) 28 (c_X10_newName l D cy (adB s.heap.size) (σ) (sv xs (6 * k + 1)) (sv_rng _ _) (sv xs (6 * k + 2)) (sv_rng _ _)) hx hb hml hown hts hK hN hI hl.1 gL_law_X10_newName rfl hd_X10_newName rfl rfl ⟨by decide, by decide⟩ ⟨by show _ ≤ 601024; omega, by show _ ≤ 7293034; omega⟩ (by decide) (cel_28 cy _ _) rfl rfl rfl rfl (Nat.le_of_ble_eq_true rfl) dL_law_613 (fun H locs hG_2 hI => ?_)
  have hF2 := hI.2.2.2
  have sim := s_newName hLI.1.2.2.2.2 hF (sv xs (6 * k + 1)) (sv xs (6 * k + 2))
  refine lv_icmp_eq (tgt := 889) hx hb dL_law_616 (by decide) (fun _ => ?_) (fun z => absurd (congrArg iI sim.1) z)
  refine W.widen (k := cells + 1) (n := slots + 6) (by omega) (by omega) ?_
  exact kk _ _ _ _ hI (LI.read hLI hF sim.2) hl
set_option maxHeartbeats 4000000 in
set_option maxRecDepth 100000 in
theorem law_13 {p : Program} {l : Launch} {e : Env} {s : State} {m : MethodId} {args : Array Value} {below : List Frame} {meth : Method} {c : Code} {D : va_G} {cy : Nat → ClassId} {b L : Nat} {xs : Nat → Int32} {sa sb : Nat} (X : LX p l s m args meth c D cy b L xs sa sb) {σ : Sg} {H : Heap} {locs : List Loc} {ls : Array Slot} {cells slots : Nat} {Q : State → Prop} {k : Nat} (hI : HI D cy (adB s.heap.size) s σ H locs) (hLI : LI σ) (hl : lv_has ls 7 (LV s b k)) (hk : 6 * k + 6 ≤ L) (hL : L ≤ 3072) (hcs : cells + 1 ≤ 601024 ∧ slots + 6 ≤ 7293034)
    (kk : ∀ (σ' : Sg) (H' : Heap) (locs' : List Loc) (ls' : Array Slot), HI D cy (adB s.heap.size) s σ' H' locs' → LI σ' → lv_has ls' 7 (LV s b k) → W p l e room_1 s m args below meth c H' locs' (cells + 1) (slots + 6) Q (F0 m 889 ls' [])) : W p l e room_1 s m args below meth c H locs cells slots Q (F0 m 621 ls []) := by
  obtain ⟨hx, hb, hml, hown, hts, hK, hN, hX, hbl, hZ, hnt⟩ := X
  have hF := hI.2.2.2
  refine lv_aload_n hx hb dL_law_621 rfl (lv_at hl 3 rfl) ?_
  refine g_V (As := []) (rest := []) 0 (c_X9_steps l D cy (adB s.heap.size) (σ) ) hx hb hml hown hts hK hN hI hl.1 gL_law_X9_steps rfl hd_X9_steps rfl rfl ⟨by decide, by decide⟩ ⟨by show _ ≤ 601024; omega, by show _ ≤ 7293034; omega⟩ (by decide) (cel_0 cy _ _) rfl rfl rfl rfl (Nat.le_of_ble_eq_true rfl) dL_law_622 (fun H locs hG_1 hI => ?_)
  have hF1 := hI.2.2.2
  refine lv_aload_n hx hb dL_law_625 rfl (lv_at hl 2 rfl) ?_
  refine g_V (As := []) (rest := [.int (iI (f_X9_steps (σ)))]) 28 (c_X10_steps l D cy (adB s.heap.size) (σ) ) hx hb hml hown hts hK hN hI hl.1 gL_law_X10_steps rfl hd_X10_steps rfl rfl ⟨by decide, by decide⟩ ⟨by show _ ≤ 601024; omega, by show _ ≤ 7293034; omega⟩ (by decide) (cel_28 cy _ _) rfl rfl rfl rfl (Nat.le_of_ble_eq_true rfl) dL_law_626 (fun H locs hG_2 hI => ?_)
  have hF2 := hI.2.2.2
  have sim := s_steps hLI.1.2.2.2.2 
  refine lv_icmp_eq (tgt := 889) hx hb dL_law_629 (by decide) (fun _ => ?_) (fun z => absurd (congrArg iI sim.1) z)
  refine W.widen (k := cells + 1) (n := slots + 6) (by omega) (by omega) ?_
  exact kk _ _ _ _ hI (LI.read hLI hF sim.2) hl
