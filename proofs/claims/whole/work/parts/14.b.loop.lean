set_option maxHeartbeats 4000000 in
set_option maxRecDepth 100000 in
theorem law_loop {p : Program} {l : Launch} {e : Env} {s : State} {m : MethodId} {below : List Frame} {meth : Method} {c : Code} {D : va_G} {cy : Nat → ClassId} {b L : Nat} {xs : Nat → Int32} {sa sb : Nat} (X : LX p l s m #[Value.ref b] meth c D cy b L xs sa sb) (hr : meth.sig.returnType = ret) (hlocks : meth.locks = false) (hL : L ≤ 3072) :
    ∀ (n k : Nat) (σ : Sg) (H : Heap) (locs : List Loc) (ls : Array Slot), L - 6 * k < n → 6 * k ≤ L → HI D cy (adB s.heap.size) s σ H locs → LI σ → lv_has ls 7 (LV s b k) → W p l e room_1 s m #[Value.ref b] below meth c H locs (479 + k) (9651 + 6 * k) (lw_Z below #[Value.ref b] s) (F0 m 23 ls []) := by
  intro n
  induction n with
  | zero => intro k σ H locs ls h1; omega
  | succ n ih =>
    intro k σ H locs ls h1 h2 hI hLI hl
    obtain ⟨hx, hb, hml, hown, hts, hK, hN, hX, hbl, hZ, hnt⟩ := id X
    refine lv_iload hx hb dL_law_23 (lv_at hl 0 rfl) ?_
    refine lv_aload_n hx hb dL_law_25 rfl (lv_at hl 4 rfl) ?_
    refine va_slen hx hb hX hbl (nAB hbl) hI.2.2.1 dL_law_26 ?_
    rw [show Int32.ofNat L = iI (L : Int) from (Int32.ofInt_eq_ofNat).symm]
    refine lv_bipush (v := iI 6) hx hb dL_law_27 (by decide +kernel) ?_
    refine g_isub hx hb dL_law_29 ?_
    refine g_icmp_gt (tgt := 895) hx hb dL_law_30 (by decide) (by omega) (by omega) (fun c1 => ?_) (fun c1 => ?_)
    · refine lv_iconst (v := 1) hx hb dL_law_895 (by decide) ?_
      refine va_forget (fun q hq => ?_) ?_
      · rcases hI.2.2.1.2.2 q hq with ⟨c', -, h⟩ | h
        · rw [h]; exact Nat.le_add_right _ _
        · exact h
      refine W.widen (k := 601024) (n := 7293034) (by omega) (by omega) ?_
      exact lw_ret hx hb hr hlocks dL_law_896
    have hk6 : 6 * k + 6 ≤ L := by omega
    refine lv_aload_n hx hb dL_law_33 rfl (lv_at hl 4 rfl) ?_
    refine lv_iload hx hb dL_law_34 (lv_at hl 0 rfl) ?_
    refine va_sld hx hb hX hbl (nAB hbl) hI.2.2.1 (iI_in (by omega) (by omega) (by omega)) dL_law_36 ?_
    rw [iI_clamp (by omega) (by omega), show (6 * (k : Int)).toNat = 6 * k by omega, ← sv_i xs (6 * k)]
    refine lv_bipush (v := iI 31) hx hb dL_law_37 (by decide +kernel) ?_
    refine g_iand hx hb dL_law_39 ?_
    have kk : ∀ (σ' : Sg) (H' : Heap) (locs' : List Loc) (ls' : Array Slot), HI D cy (adB s.heap.size) s σ' H' locs' → LI σ' → lv_has ls' 7 (LV s b k) → W p l e room_1 s m #[Value.ref b] below meth c H' locs' (479 + k + 1) (9651 + 6 * k + 6) (lw_Z below #[Value.ref b] s) (F0 m 889 ls' []) := by
      intro σ' H' locs' ls' hI' hLI' hl'
      refine lv_iinc (v := iI (6 * ((k + 1 : Nat) : Int))) (lv' := LV s b (k + 1)) hx hb dL_law_889 hl' (k := 0) rfl (by
        rw [show Int32.ofInt 6 = iI 6 from rfl, iI_add, show 6 * (k : Int) + 6 = 6 * ((k + 1 : Nat) : Int) by omega]) (by decide) rfl (fun ls2 hl2 => ?_)
      refine lv_goto (tgt := 23) hx hb dL_law_892 (by decide) ?_
      refine W.widen (k := 479 + (k + 1)) (n := 9651 + 6 * (k + 1)) (by omega) (by omega) ?_
      exact ih (k + 1) σ' H' locs' ls2 (by omega) (by omega) hI' hLI' hl2
    have v := andI_31 (sv xs (6 * k))
    generalize andI (sv xs (6 * k)) 31 = w at v ⊢
    rcases (show w = 0 ∨ w = 1 ∨ w = 2 ∨ w = 3 ∨ w = 4 ∨ w = 5 ∨ w = 6 ∨ w = 7 ∨ w = 8 ∨ w = 9 ∨ w = 10 ∨ w = 11 ∨ w = 12 ∨ w = 13 ∨ w = 14 ∨ w = 15 ∨ w = 16 ∨ w = 17 ∨ w = 18 ∨ w = 19 ∨ w = 20 ∨ w = 21 ∨ 22 ≤ w by omega) with rfl | rfl | rfl | rfl | rfl | rfl | rfl | rfl | rfl | rfl | rfl | rfl | rfl | rfl | rfl | rfl | rfl | rfl | rfl | rfl | rfl | rfl | h22
    · refine g_tsw (tgt := 144) (off := 104) hx hb dL_law_40 (by omega) (by omega) rfl (by decide) ?_
      exact law_0 X hI hLI hl hk6 hL ⟨by omega, by omega⟩ kk
    · refine g_tsw (tgt := 185) (off := 145) hx hb dL_law_40 (by omega) (by omega) rfl (by decide) ?_
      exact law_1 X hI hLI hl hk6 hL ⟨by omega, by omega⟩ kk
    · refine g_tsw (tgt := 258) (off := 218) hx hb dL_law_40 (by omega) (by omega) rfl (by decide) ?_
      exact law_2 X hI hLI hl hk6 hL ⟨by omega, by omega⟩ kk
    · refine g_tsw (tgt := 283) (off := 243) hx hb dL_law_40 (by omega) (by omega) rfl (by decide) ?_
      exact law_3 X hI hLI hl hk6 hL ⟨by omega, by omega⟩ kk
    · refine g_tsw (tgt := 308) (off := 268) hx hb dL_law_40 (by omega) (by omega) rfl (by decide) ?_
      exact law_4 X hI hLI hl hk6 hL ⟨by omega, by omega⟩ kk
    · refine g_tsw (tgt := 333) (off := 293) hx hb dL_law_40 (by omega) (by omega) rfl (by decide) ?_
      exact law_5 X hI hLI hl hk6 hL ⟨by omega, by omega⟩ kk
    · refine g_tsw (tgt := 370) (off := 330) hx hb dL_law_40 (by omega) (by omega) rfl (by decide) ?_
      exact law_6 X hI hLI hl hk6 hL ⟨by omega, by omega⟩ kk
    · refine g_tsw (tgt := 395) (off := 355) hx hb dL_law_40 (by omega) (by omega) rfl (by decide) ?_
      exact law_7 X hI hLI hl hk6 hL ⟨by omega, by omega⟩ kk
    · refine g_tsw (tgt := 408) (off := 368) hx hb dL_law_40 (by omega) (by omega) rfl (by decide) ?_
      exact law_8 X hI hLI hl hk6 hL ⟨by omega, by omega⟩ kk
    · refine g_tsw (tgt := 421) (off := 381) hx hb dL_law_40 (by omega) (by omega) rfl (by decide) ?_
      exact law_9 X hI hLI hl hk6 hL ⟨by omega, by omega⟩ kk
    · refine g_tsw (tgt := 458) (off := 418) hx hb dL_law_40 (by omega) (by omega) rfl (by decide) ?_
      exact law_10 X hI hLI hl hk6 hL ⟨by omega, by omega⟩ kk
    · refine g_tsw (tgt := 547) (off := 507) hx hb dL_law_40 (by omega) (by omega) rfl (by decide) ?_
      exact law_11 X hI hLI hl hk6 hL ⟨by omega, by omega⟩ kk
    · refine g_tsw (tgt := 584) (off := 544) hx hb dL_law_40 (by omega) (by omega) rfl (by decide) ?_
      exact law_12 X hI hLI hl hk6 hL ⟨by omega, by omega⟩ kk
    · refine g_tsw (tgt := 621) (off := 581) hx hb dL_law_40 (by omega) (by omega) rfl (by decide) ?_
      exact law_13 X hI hLI hl hk6 hL ⟨by omega, by omega⟩ kk
    · refine g_tsw (tgt := 634) (off := 594) hx hb dL_law_40 (by omega) (by omega) rfl (by decide) ?_
      exact law_14 X hI hLI hl hk6 hL ⟨by omega, by omega⟩ kk
    · refine g_tsw (tgt := 671) (off := 631) hx hb dL_law_40 (by omega) (by omega) rfl (by decide) ?_
      exact law_15 X hI hLI hl hk6 hL ⟨by omega, by omega⟩ kk
    · refine g_tsw (tgt := 696) (off := 656) hx hb dL_law_40 (by omega) (by omega) rfl (by decide) ?_
      exact law_16 X hI hLI hl hk6 hL ⟨by omega, by omega⟩ kk
    · refine g_tsw (tgt := 721) (off := 681) hx hb dL_law_40 (by omega) (by omega) rfl (by decide) ?_
      exact law_17 X hI hLI hl hk6 hL ⟨by omega, by omega⟩ kk
    · refine g_tsw (tgt := 734) (off := 694) hx hb dL_law_40 (by omega) (by omega) rfl (by decide) ?_
      exact law_18 X hI hLI hl hk6 hL ⟨by omega, by omega⟩ kk
    · refine g_tsw (tgt := 759) (off := 719) hx hb dL_law_40 (by omega) (by omega) rfl (by decide) ?_
      exact law_19 X hI hLI hl hk6 hL ⟨by omega, by omega⟩ kk
    · refine g_tsw (tgt := 796) (off := 756) hx hb dL_law_40 (by omega) (by omega) rfl (by decide) ?_
      exact law_20 X hI hLI hl hk6 hL ⟨by omega, by omega⟩ kk
    · refine g_tsw (tgt := 864) (off := 824) hx hb dL_law_40 (by omega) (by omega) rfl (by decide) ?_
      exact law_21 X hI hLI hl hk6 hL ⟨by omega, by omega⟩ kk
    · refine g_tswD (tgt := 889) hx hb dL_law_40 (by omega) (by omega) (by decide) ?_
      refine W.widen (k := 479 + k + 1) (n := 9651 + 6 * k + 6) (by omega) (by omega) ?_
      exact kk σ H locs ls hI hLI hl
