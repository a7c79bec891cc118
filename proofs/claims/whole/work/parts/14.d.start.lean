theorem esP8_eq (cy : Nat → ClassId) (B : Nat) (o : va_E) : ([] ++ [o] : List va_E).set 0 (.inr (8, k_fs_X9 B 1)) ++ k_nw_X9 cy B 1 = esP8 cy B := by
  show [.inr (8, k_fs_X9 B 1)] ++ k_nw_X9 cy B 1 = esP8 cy B
  unfold k_nw_X9 esP8 esP7 esP6 esP5 esP4 esP3 esP2 esP1 esP0 esS0 esS1 esS2 esS3 esS4 esS5 esS6 esS7 esS8
  simp only [List.nil_append, List.append_assoc, List.cons_append]
theorem va_S.up {B : Nat} {H0 H : Heap} {locs : List Loc} (h : va_S (AB B) H0 H locs) : va_S (AA (adB B) B) H0 H locs := ⟨h.1, fun q a b => h.2.1 q a (fun z => b (Or.inr z)), fun q hq => Or.inr (h.2.2 q hq)⟩
set_option maxHeartbeats 4000000 in
set_option maxRecDepth 100000 in
theorem start_walk {p : Program} {e : Env} {s : State} {m : MethodId} {below : List Frame} {meth : Method} {c : Code} (l : Launch) {D : va_G} {cy : Nat → ClassId} {b L : Nat} {xs : Nat → Int32} {sa sb : Nat} (X : LX p l s m #[Value.ref b] meth c D cy b L xs sa sb) (hts0 : ∀ w ∈ lw_tbl, w.before #[Value.ref b] s = true) (hNK : NK s) (hr : meth.sig.returnType = ret) (hlocks : meth.locks = false) (hL : L ≤ 3072) {ls : Array Slot} (hl : lv_has ls 7 [(0, .ref b)]) :
    W p l e room_1 s m #[Value.ref b] below meth c s.heap [] 0 0 (lw_Z below #[Value.ref b] s) (F0 m 0 ls []) := by
  obtain ⟨hx, hb, hml, hown, hts, hK, hN, hX, hbl, hZ, hnt⟩ := id X
  have hI : KI D s.heap.size s [] s.heap [] := ⟨rfl, fun k q h => by simp [wl] at h, va_S.rf, Nat.le_refl _⟩
  refine k_new (es := []) (C := RX9) (T := TX9) (N := 11) (ci := 8) (fs := [.null, .null, .null, .null, .null, .null, .null, .null, .int (iI 0), .int (iI 0), .int (iI 0)]) hx hb hts0 in_law_X9 tyX9 tyX9_ok hown (hts0 _ st_new.1) (hts0 _ st_inst.2.2.2.2.2.2.2.2.1) (hts0 _ st_new.2.2.1) hK hI rfl k_df_X9 (by decide) (by decide) dL_law_0 (fun H hI => ?_)
  refine lv_dup hx hb dL_law_3 rfl ?_
  refine k_II (k_X9 l D cy s.heap.size) (k := 0) rfl hx hb hml hown hts hK hNK hI hl.1 gL_law_X9_init rfl st_i9.1 st_i9.2.1 st_i9.2.2 k_hd_X9 rfl ⟨by decide, by decide⟩ ⟨by decide, by decide⟩ (Nat.le_of_ble_eq_true rfl) dL_law_4 (fun H locs hI => ?_)
  have hI : KI D s.heap.size s (esP8 cy s.heap.size) H locs := by rw [← esP8_eq cy s.heap.size (.inr (8, [.null, .null, .null, .null, .null, .null, .null, .null, .int (iI 0), .int (iI 0), .int (iI 0)]))]; exact hI
  refine lv_astore_n (lv' := [(1, .ref (adB s.heap.size 0)), (0, .ref b)]) hx hb dL_law_7 rfl hl (by decide) rfl (fun ls hl => ?_)
  refine k_new (C := RX10) (T := TX10) (N := 44) (ci := 9) (fs := [.int (iI 0), .null, .null, .null, .int (iI 0), .int (iI 0), .null, .int (iI 0), .null, .int (iI 0), .int (iI 0), .int (iI 0), .null, .null, .null, .int (iI 0), .int (iI 0), .null, .null, .null, .int (iI 0), .int (iI 0), .int (iI 0), .null, .null, .int (iI 0), .int (iI 0), .null, .null, .null, .null, .null, .null, .int (iI 0), .int (iI 0), .int (iI 0), .null, .null, .null, .null, .null, .null, .null, .null]) hx hb hts0 in_law_X10 tyX10 tyX10_ok hown (hts0 _ st_new.2.1) (hts0 _ st_inst.2.2.2.2.2.2.2.2.2) (hts0 _ st_new.2.2.2) hK hI rfl k_df_X10 (by decide) (by decide) dL_law_8 (fun H hI => ?_)
  rw [esP8_len]
  have len1 : ∀ x : va_E, (esP8 cy s.heap.size ++ [x]).length = 451 := fun x => by rw [List.length_append, esP8_len]; rfl
  refine lv_dup hx hb dL_law_11 rfl ?_
  refine k_II (k_X10 l D cy s.heap.size) (k := 450) (ap_get (esP8_len cy s.heap.size) _ _) hx hb hml hown hts hK hNK hI hl.1 gL_law_X10_init rfl st_i10.1 st_i10.2.1 st_i10.2.2 k_hd_X10 rfl ⟨by decide, by decide⟩ ⟨by decide, by decide⟩ (Nat.le_of_ble_eq_true rfl) dL_law_12 (fun H locs hI => ?_)
  rw [len1, ap_fin (esP8_len cy s.heap.size)] at hI
  have hI : KI D s.heap.size s (esP9 cy s.heap.size) H locs := hI
  refine lv_astore_n (lv' := [(2, .ref (adB s.heap.size 28)), (1, .ref (adB s.heap.size 0)), (0, .ref b)]) hx hb dL_law_15 rfl hl (by decide) rfl (fun ls hl => ?_)
  refine lv_iconst (v := iI 1) hx hb dL_law_16 rfl ?_
  refine k_newa (atype := .long) (cA := cy 5) (N' := 1) (a0 := (1, .inr (.inl (fun _ => 0)))) hx hb (hts0 _ st_arr.2.2.2) (hK.2 5 _ rfl).2 hI rfl (by decide) (by decide) (by decide) (by decide) (by decide) dL_law_17 (fun H hI => ?_)
  rw [esP9_len]
  have hI : KI D s.heap.size s (esP10 cy s.heap.size) H locs := hI
  refine lv_astore_n (lv' := [(3, .ref (adB s.heap.size 56)), (2, .ref (adB s.heap.size 28)), (1, .ref (adB s.heap.size 0)), (0, .ref b)]) hx hb dL_law_19 rfl hl (by decide) rfl (fun ls hl => ?_)
  refine lv_iconst (v := iI (6 * ((0 : Nat) : Int))) hx hb dL_law_20 rfl ?_
  refine lv_istore (lv' := LV s b 0) hx hb dL_law_21 hl (by decide) rfl (fun ls hl => ?_)
  exact law_loop X hr hlocks hL (L + 1) 0 σ0 H locs ls (by omega) (by omega) ⟨WR_start hI.2.1, WR_startD cy s.heap.size (fun q h => Or.inr h), hI.2.2.1.up, σ0_w⟩ σ0_li hl
set_option maxHeartbeats 4000000 in
set_option maxRecDepth 100000 in
theorem whole_start {p : Program} {e : Env} {s : State} {m : MethodId} {below : List Frame} {meth : Method} {c : Code} (l : Launch) (hnt : l.stackTraces = false) {b L : Nat} {xs : Nat → Int32} (hL : L ≤ 3072) (C0 : lw_At p s m meth c b L xs) : W p l e room_1 s m #[Value.ref b] below meth c s.heap [] 0 0 (lw_Z below #[Value.ref b] s) (entryFrame m ([Value.ref b] : List Value).toArray 7) := by
  obtain ⟨hx, hb, hr, hml, hown, hts, hX, hbl, hlocks, hgv⟩ := C0
  obtain ⟨i0, i1, i2, i3, i4, i5, i7, i8, i9, i10⟩ := st_inst
  obtain ⟨c0, d0, K0⟩ := u_known (C := RX0) (T := TX0) (N := 3) hts in_law_X0 (hts _ i0)
  obtain ⟨c1, d1, K1⟩ := u_known (C := RX1) (T := TX1) (N := 2) hts in_law_X1 (hts _ i1)
  obtain ⟨c2, d2, K2⟩ := u_known (C := RX2) (T := TX2) (N := 3) hts in_law_X2 (hts _ i2)
  obtain ⟨c3, d3, K3⟩ := u_known (C := RX3) (T := TX3) (N := 9) hts in_law_X3 (hts _ i3)
  obtain ⟨c4, d4, K4⟩ := u_known (C := RX4) (T := TX4) (N := 12) hts in_law_X4 (hts _ i4)
  obtain ⟨c5, d5, K5⟩ := u_known (C := RX5) (T := TX5) (N := 8) hts in_law_X5 (hts _ i5)
  obtain ⟨c6, d6, K6⟩ := u_known (C := RX7) (T := TX7) (N := 6) hts in_law_X7 (hts _ i7)
  obtain ⟨c7, d7, K7⟩ := u_known (C := RX8) (T := TX8) (N := 2) hts in_law_X8 (hts _ i8)
  obtain ⟨c8, d8, K8⟩ := u_known (C := RX9) (T := TX9) (N := 11) hts in_law_X9 (hts _ i9)
  obtain ⟨c9, d9, K9⟩ := u_known (C := RX10) (T := TX10) (N := 44) hts in_law_X10 (hts _ i10)
  obtain ⟨cI, kI, compI, aI1, aI2, aI3⟩ := Cond.arrayClass_spec (hts _ st_arr.1)
  obtain ⟨cB, kB, compB, aB1, aB2, aB3⟩ := Cond.arrayClass_spec (hts _ st_arr.2.1)
  obtain ⟨cZ, kZ, compZ, aZ1, aZ2, aZ3⟩ := Cond.arrayClass_spec (hts _ st_arr.2.2.1)
  obtain ⟨cJ, kJ, compJ, aJ1, aJ2, aJ3⟩ := Cond.arrayClass_spec (hts _ st_arr.2.2.2)
  obtain ⟨compP, cP, kP, p1, p2, p3, p4, p5⟩ := Cond.arrayOver_spec (hts _ st_ao.1)
  obtain ⟨compQ, cQ, kQ, q1, q2, q3, q4, q5⟩ := Cond.arrayOver_spec (hts _ st_ao.2)
  obtain ⟨D, hD1, hD2⟩ : ∃ D : va_G, (D.1 0 = c0 ∧ D.1 1 = c1 ∧ D.1 2 = c2 ∧ D.1 3 = c3 ∧ D.1 4 = c4 ∧ D.1 5 = c5 ∧ D.1 6 = c6 ∧ D.1 7 = c7 ∧ D.1 8 = c8 ∧ D.1 9 = c9) ∧ (D.2 0 = d0 ∧ D.2 1 = d1 ∧ D.2 2 = d2 ∧ D.2 3 = d3 ∧ D.2 4 = d4 ∧ D.2 5 = d5 ∧ D.2 6 = d6 ∧ D.2 7 = d7 ∧ D.2 8 = d8 ∧ D.2 9 = d9) :=
    ⟨(fun j => match j with | 0 => c0 | 1 => c1 | 2 => c2 | 3 => c3 | 4 => c4 | 5 => c5 | 6 => c6 | 7 => c7 | 8 => c8 | _ => c9, fun j => match j with | 0 => d0 | 1 => d1 | 2 => d2 | 3 => d3 | 4 => d4 | 5 => d5 | 6 => d6 | 7 => d7 | 8 => d8 | _ => d9), ⟨rfl, rfl, rfl, rfl, rfl, rfl, rfl, rfl, rfl, rfl⟩, ⟨rfl, rfl, rfl, rfl, rfl, rfl, rfl, rfl, rfl, rfl⟩⟩
  obtain ⟨cy, hcy⟩ : ∃ cy : Nat → ClassId, cy 0 = cI ∧ cy 1 = cB ∧ cy 2 = cZ ∧ cy 3 = cP ∧ cy 4 = cQ ∧ cy 5 = cJ := ⟨fun j => match j with | 0 => cI | 1 => cB | 2 => cZ | 3 => cP | 4 => cQ | _ => cJ, rfl, rfl, rfl, rfl, rfl, rfl⟩
  obtain ⟨e0, e1, e2, e3, e4, e5, e6, e7, e8, e9⟩ := hD1
  obtain ⟨f0, f1, f2, f3, f4, f5, f6, f7, f8, f9⟩ := hD2
  obtain ⟨y0, y1, y2, y3, y4, y5⟩ := hcy
  have hK : va_K D vwCl (tyl cy) s := by
    refine ⟨fun j q h => ?_, fun j q h => ?_⟩
    · match j, h with
      | 0, h => cases h; rw [e0, f0]; exact K0
      | 1, h => cases h; rw [e1, f1]; exact K1
      | 2, h => cases h; rw [e2, f2]; exact K2
      | 3, h => cases h; rw [e3, f3]; exact K3
      | 4, h => cases h; rw [e4, f4]; exact K4
      | 5, h => cases h; rw [e5, f5]; exact K5
      | 6, h => cases h; rw [e6, f6]; exact K6
      | 7, h => cases h; rw [e7, f7]; exact K7
      | 8, h => cases h; rw [e8, f8]; exact K8
      | 9, h => cases h; rw [e9, f9]; exact K9
      | n + 10, h => cases h
    · match j, h with
      | 0, h => cases h; rw [y0]; exact ⟨arrT aI2 aI3, aI1⟩
      | 1, h => cases h; rw [y1]; exact ⟨arrT aB2 aB3, aB1⟩
      | 2, h => cases h; rw [y2]; exact ⟨arrT aZ2 aZ3, aZ1⟩
      | 3, h => cases h; rw [y3]; exact ⟨arrT p3 p4, kP, compP, p3, p4, p1, p5⟩
      | 4, h => cases h; rw [y4]; exact ⟨arrT q3 q4, kQ, compQ, q3, q4, q1, q5⟩
      | 5, h => cases h; rw [y5]; exact ⟨arrT aJ2 aJ3, aJ1⟩
      | n + 6, h => cases h
  have hN : NW s := fun q hq => va_Nw.of rfl (hts _ (st_nest q hq))
  have hNK : NK s := ⟨fun q hq => va_Nw.of rfl (hts _ (st_nestM q hq)), va_AO.of (hts _ st_ao.1), va_AO.of (hts _ st_ao.2)⟩
  obtain ⟨z1, z2, z3, z4, z5⟩ := st_tz
  have hs := flat_of_before _ hgv
  have hU : (Cond.isRef (.static Bundle.tN "UNASSIGNED_STACK" Bundle.steD)).before #[Value.ref b] s = true := hs _ (by decide +kernel)
  have hE : (Cond.isRef (.static Bundle.tN "SUPPRESSED_SENTINEL" Bundle.listD)).before #[Value.ref b] s = true := hs _ (by decide +kernel)
  obtain ⟨-, -, -, sa, -, -, -, -, -, g1⟩ := Cond.stringRef_spec K8.2.1 (hts _ z4)
  obtain ⟨-, -, -, sb, -, -, -, -, -, g2⟩ := Cond.stringRef_spec K8.2.1 (hts _ z5)
  have hZ : TZ (AA (adB s.heap.size) s.heap.size) sa sb s s.heap := ⟨vx_Zqof (hts _ z1) (hts _ z3) hU (fun a ha => nAB ha), vx_Zqof (hts _ z2) (hts _ z3) hE (fun a ha => nAB ha), vk_R.of (hts _ z4) g1, vk_R.of (hts _ z5) g2, fun w hw => va_Nw.of (by revert w; decide) (hts _ (st_bd w hw))⟩
  have hl := lv_entry [.ref b] (n := 7) (Nat.le_of_ble_eq_true rfl)
  rw [lg_entry_eq]
  generalize (lg_sl [.ref b] ++ List.replicate (7 - (lg_sl [.ref b]).length) Slot.unset).toArray = ls at hl ⊢
  exact start_walk l ⟨hx, hb, hml, hown, fun w hw => hts w (lwS_in w hw), hK, hN, hX, hbl, hZ, hnt⟩ hts hNK hr hlocks hL hl
