theorem fb_core (x : BitVec 32) (s : Nat) (hs : s = 0 ∨ s = 8 ∨ s = 16 ∨ s = 24) : (x.sshiftRight s).toInt.bmod 256 = ((x >>> s) &&& 255#32).toInt.bmod 256 := by
  have h1 : ((x >>> s) &&& 255#32).toNat = x.toNat / 2 ^ s % 256 := by
    rw [BitVec.toNat_and, BitVec.toNat_ushiftRight, Nat.shiftRight_eq_div_pow]
    exact Nat.and_two_pow_sub_one_eq_mod _ 8
  have h2 : ((x >>> s) &&& 255#32).toInt = ((x.toNat / 2 ^ s % 256 : Nat) : Int) := by
    rw [BitVec.toInt_eq_toNat_of_lt, h1]
    rw [h1]
    omega
  rw [h2, BitVec.toInt_sshiftRight, Int.shiftRight_eq_div_pow]
  have h3 := BitVec.toInt_eq_toNat_cond x
  have h4 := x.isLt
  rcases hs with rfl | rfl | rfl | rfl <;> (simp only [Nat.reducePow] at *; split at h3 <;> rw [h3, Int.bmod_def, Int.bmod_def] <;> split <;> split <;> omega)
theorem feed_byte (a s : Int) (hs : s = 0 ∨ s = 8 ∨ s = 16 ∨ s = 24) : (shrI a s).bmod 256 = (andI (ushrI a s) 255).bmod 256 := by
  unfold shrI andI ushrI
  rw [iI_of]
  generalize iI a = x
  rcases hs with rfl | rfl | rfl | rfl
  · exact fb_core x.toBitVec 0 (by decide)
  · exact fb_core x.toBitVec 8 (by decide)
  · exact fb_core x.toBitVec 16 (by decide)
  · exact fb_core x.toBitVec 24 (by decide)
/-- only the tapes move -/
theorem Sim.tp {τ τ' ρ ρ' : Sg} (h : Sim τ ρ) (hW : WF τ) (hT : SimT τ' ρ') (hc : ∀ x, x ≠ 1 → x ≠ 2 → τ' x = τ x) (gs : ∀ k, k ≠ 0 → k ≠ 9 → ρ' 28 k = ρ 28 k) (gc : ∀ x, x ≠ 28 → x ≠ 33 → ρ' x = ρ x) : Sim τ' ρ' := by
  have hr : ∀ r, RowS ρ ρ' r := fun r => RowS.of (gc 29 (by decide) (by decide)) (gc 30 (by decide) (by decide)) (gc 31 (by decide) (by decide)) r
  obtain ⟨t1, t2, t3, t4, t5⟩ := h
  exact ⟨hT, t2.mv hW (hc 3 (by decide) (by decide)) (hc 5 (by decide) (by decide)) (fun c u v => hc c (by omega) (by omega)) (gs 5 (by decide) (by decide)) (gs 4 (by decide) (by decide)) (gc 32 (by decide) (by decide)) (fun r _ => hr r),
    t3.mv hW (hc 7 (by decide) (by decide)) (fun c u v => hc c (by omega) (by omega)) (gs 7 (by decide) (by decide)) (fun r _ _ => hr r),
    t4.mv (by rw [hc 0 (by decide) (by decide)]) (by rw [hc 0 (by decide) (by decide)]) (by rw [hc 0 (by decide) (by decide)]) (by rw [hc 0 (by decide) (by decide)]) (fun c u v => hc c (by omega) (by omega)) (gs 10 (by decide) (by decide)) (gs 11 (by decide) (by decide)) (gs 20 (by decide) (by decide)) (gc 34 (by decide) (by decide)) (gc 35 (by decide) (by decide)) (gc 36 (by decide) (by decide)),
    t5.mv hW (hc 13 (by decide) (by decide)) (by rw [hc 0 (by decide) (by decide)]) (hc 15 (by decide) (by decide)) (hc 16 (by decide) (by decide)) (hc 17 (by decide) (by decide)) (fun c u => hc c (by omega) (by omega)) (gs 25 (by decide) (by decide)) (gs 26 (by decide) (by decide)) (gs 33 (by decide) (by decide)) (gs 34 (by decide) (by decide)) (gs 35 (by decide) (by decide)) (by rw [gs 5 (by decide) (by decide)]; omega) (fun x u v => gc x (by omega) (by omega)) (fun r _ _ => hr r)⟩
theorem Inv.tp {τ τ' : Sg} (h : Inv τ) (hW : WF τ) (hc : ∀ x, x ≠ 1 → x ≠ 2 → τ' x = τ x) : Inv τ' :=
  h.mv hW (by rw [hc 3 (by decide) (by decide)]) (by rw [hc 3 (by decide) (by decide)]) (hc 5 (by decide) (by decide)) (fun c h1 h2 => hc c (by omega) (by omega)) (by rw [hc 13 (by decide) (by decide)]) (by rw [hc 13 (by decide) (by decide)]) (hc 15 (by decide) (by decide)) (hc 16 (by decide) (by decide)) (hc 17 (by decide) (by decide)) (fun c h1 => hc c (by omega) (by omega))
def stp (τ : Sg) (v : Int) : Sg := up2 (up2 τ 2 ((τ 1 1).toNat) v) 1 1 ((τ 1 1) + 1)
def stpM (ρ : Sg) (w : Int) : Sg := up2 (up2 ρ 33 ((ρ 28 9).toNat) w) 28 9 ((ρ 28 9) + 1)
/-- both tapes with one another, and what else stays -/
def TP (τ0 ρ0 : Sg) (n : Int) (τ ρ : Sg) : Prop := SimT τ ρ ∧ τ 1 1 = n ∧ (∀ x, x ≠ 1 → x ≠ 2 → τ x = τ0 x) ∧ (∀ k, k ≠ 0 → k ≠ 9 → ρ 28 k = ρ0 28 k) ∧ (∀ x, x ≠ 28 → x ≠ 33 → ρ x = ρ0 x)
theorem TP.step {τ0 ρ0 τ ρ : Sg} {n : Int} (h : TP τ0 ρ0 n τ ρ) (h0 : 0 ≤ n) {v w : Int} (hv : w = v.bmod 256) : TP τ0 ρ0 (n + 1) (stp τ v) (stpM ρ w) := by
  obtain ⟨⟨a1, a2⟩, a3, a4, a5, a6⟩ := h
  have e2 : (stp τ v) 2 = fun i => if i = n.toNat then v else τ 2 i := by
    unfold stp
    rw [up2_cell _ _ _ (by decide), up2_row, a3]
  have e33 : (stpM ρ w) 33 = fun i => if i = n.toNat then w else ρ 33 i := by
    unfold stpM
    rw [up2_cell _ _ _ (by decide), up2_row, ← a1, a3]
  have e1 : (stp τ v) 1 1 = n + 1 := by
    unfold stp
    rw [up2_same, a3]
  have e9 : (stpM ρ w) 28 9 = n + 1 := by
    unfold stpM
    rw [up2_same, ← a1, a3]
  refine ⟨⟨by rw [e1, e9], fun i hi => ?_⟩, e1, fun x h1 h2 => ?_, fun k h1 h2 => ?_, fun x h1 h2 => ?_⟩
  · rw [e1] at hi
    rw [e2, e33]
    dsimp only
    by_cases q : i = n.toNat
    · rw [if_pos q, if_pos q]; exact hv
    · rw [if_neg q, if_neg q]; exact a2 i (by omega)
  · unfold stp
    rw [up2_cell _ _ _ h1, up2_cell _ _ _ h2]
    exact a4 x h1 h2
  · unfold stpM
    rw [up2_slot _ _ h2, up2_cell _ _ _ (by decide)]
    exact a5 k h1 h2
  · unfold stpM
    rw [up2_cell _ _ _ h1, up2_cell _ _ _ h2]
    exact a6 x h1 h2
def stp4 (τ : Sg) (a : Int) : Sg := stp (stp (stp (stp τ (andI (ushrI a 24) 255)) (andI (ushrI a 16) 255)) (andI (ushrI a 8) 255)) (andI (ushrI a 0) 255)
def stpM4 (ρ : Sg) (a : Int) : Sg := stpM (stpM (stpM (stpM ρ ((shrI a 24).bmod 256)) ((shrI a 16).bmod 256)) ((shrI a 8).bmod 256)) ((shrI a 0).bmod 256)
theorem TP.step4 {τ0 ρ0 τ ρ : Sg} {n : Int} (h : TP τ0 ρ0 n τ ρ) (h0 : 0 ≤ n) (a : Int) : TP τ0 ρ0 (n + 4) (stp4 τ a) (stpM4 ρ a) := by
  have h1 := h.step h0 (feed_byte a 24 (by omega))
  have h2 := h1.step (by omega) (feed_byte a 16 (by omega))
  have h3 := h2.step (by omega) (feed_byte a 8 (by omega))
  have h4 := h3.step (by omega) (feed_byte a 0 (by omega))
  rw [show n + 1 + 1 + 1 + 1 = n + 4 by omega] at h4
  exact h4
theorem addL {a : Int} (n : Nat) (x : Int) (τ : Sg) (hx : 0 ≤ x) (h : τ 1 1 < 80) : L_X8_addNumber_3 a (n + 1) x τ = L_X8_addNumber_3 a n (x + (-8)) (stp τ (andI (ushrI a x) 255)) := by
  rw [L_X8_addNumber_3, if_neg (by omega), if_neg (by omega)]
  rfl
theorem stp_1 (τ : Sg) (v : Int) : (stp τ v) 1 1 = τ 1 1 + 1 := by
  unfold stp
  rw [up2_same]
theorem addN_eq {τ : Sg} {a : Int} (h : τ 1 1 + 4 ≤ 80) : f_X8_addNumber τ a = stp4 τ a := by
  unfold f_X8_addNumber
  rw [addL 32 24 τ (by omega) (by omega), addL 31 (24 + -8) _ (by omega) (by rw [stp_1]; omega), addL 30 (24 + -8 + -8) _ (by omega) (by rw [stp_1, stp_1]; omega), addL 29 (24 + -8 + -8 + -8) _ (by omega) (by rw [stp_1, stp_1, stp_1]; omega), L_X8_addNumber_3, if_pos (by omega)]
  rfl
def fsel (a0 a1 a2 a3 a4 k : Int) : Int := if 4 ≤ k then (if 8 ≤ k then (if 12 ≤ k then (if 16 ≤ k then a4 else a3) else a2) else a1) else a0
theorem feedL {a0 a1 a2 a3 a4 : Int} (n : Nat) (k : Int) (ρ : Sg) (h : k < 20) : L_X10_feed_22 a0 a1 a2 a3 a4 (n + 1) k ρ = L_X10_feed_22 a0 a1 a2 a3 a4 n (k + 1) (stpM ρ ((shrI (fsel a0 a1 a2 a3 a4 k) (24 - (8 * (k % 4)))).bmod 256)) := by
  rw [L_X10_feed_22, if_neg (by omega)]
  unfold fsel stpM
  repeat' split
  all_goals rfl
theorem feedL4 {a0 a1 a2 a3 a4 : Int} (n : Nat) (k a : Int) (ρ : Sg) (h : k < 20) (hk : k = 0 ∨ k = 4 ∨ k = 8 ∨ k = 12 ∨ k = 16) (ha : a = fsel a0 a1 a2 a3 a4 k) : L_X10_feed_22 a0 a1 a2 a3 a4 (n + 4) k ρ = L_X10_feed_22 a0 a1 a2 a3 a4 n (k + 4) (stpM4 ρ a) := by
  have e1 : fsel a0 a1 a2 a3 a4 (k + 1) = a := by
    rw [ha]; unfold fsel
    repeat' split
    all_goals first | rfl | omega
  have e2 : fsel a0 a1 a2 a3 a4 (k + 1 + 1) = a := by
    rw [ha]; unfold fsel
    repeat' split
    all_goals first | rfl | omega
  have e3 : fsel a0 a1 a2 a3 a4 (k + 1 + 1 + 1) = a := by
    rw [ha]; unfold fsel
    repeat' split
    all_goals first | rfl | omega
  rw [show n + 4 = n + 1 + 1 + 1 + 1 by rfl, feedL _ _ _ (by omega), feedL _ _ _ (by omega), feedL _ _ _ (by omega), feedL _ _ _ (by omega), ← ha, e1, e2, e3]
  rw [show 24 - 8 * (k % 4) = 24 by omega, show 24 - 8 * ((k + 1) % 4) = 16 by omega, show 24 - 8 * ((k + 1 + 1) % 4) = 8 by omega, show 24 - 8 * ((k + 1 + 1 + 1) % 4) = 0 by omega, show k + 1 + 1 + 1 + 1 = k + 4 by omega]
  rfl
theorem feedM_eq (ρ : Sg) (a0 a1 a2 a3 a4 : Int) : L_X10_feed_22 a0 a1 a2 a3 a4 21 0 ρ = stpM4 (stpM4 (stpM4 (stpM4 (stpM4 ρ a0) a1) a2) a3) a4 := by
  rw [show (21 : Nat) = 17 + 4 by decide, feedL4 17 0 a0 _ (by omega) (by omega) (by unfold fsel; rw [if_neg (by decide)]), show (17 : Nat) = 13 + 4 by decide, feedL4 13 (0 + 4) a1 _ (by omega) (by omega) (by unfold fsel; rw [if_pos (by decide), if_neg (by decide)]),
    show (13 : Nat) = 9 + 4 by decide, feedL4 9 (0 + 4 + 4) a2 _ (by omega) (by omega) (by unfold fsel; rw [if_pos (by decide), if_pos (by decide), if_neg (by decide)]), show (9 : Nat) = 5 + 4 by decide, feedL4 5 (0 + 4 + 4 + 4) a3 _ (by omega) (by omega) (by unfold fsel; rw [if_pos (by decide), if_pos (by decide), if_pos (by decide), if_neg (by decide)]),
    show (5 : Nat) = 1 + 4 by decide, feedL4 1 (0 + 4 + 4 + 4 + 4) a4 _ (by omega) (by omega) (by unfold fsel; rw [if_pos (by decide), if_pos (by decide), if_pos (by decide), if_pos (by decide)]), show (1 : Nat) = 0 + 1 by decide, L_X10_feed_22, if_pos (by omega)]
theorem feedX_eq {τ : Sg} (hW : WF τ) (a0 a1 a2 a3 a4 : Int) : f_X9_feed τ a0 a1 a2 a3 a4 = if 80 < τ 1 1 + 20 then (-1, τ) else ((stp4 (stp4 (stp4 (stp4 (stp4 τ a0) a1) a2) a3) a4) 1 1, stp4 (stp4 (stp4 (stp4 (stp4 τ a0) a1) a2) a3) a4) := by
  have b1 := bd_1_1 hW
  unfold f_X9_feed f_X8_hasRoom
  by_cases h1 : 80 < τ 1 1 + 20
  · rw [if_pos h1, if_pos h1, if_pos (by decide)]
  · rw [if_neg h1, if_neg h1, if_neg (by decide)]
    have s4 : ∀ (σ : Sg) (a : Int), (stp4 σ a) 1 1 = σ 1 1 + 4 := fun σ a => by
      unfold stp4
      rw [stp_1, stp_1, stp_1, stp_1]
      omega
    rw [addN_eq (τ := τ) (by omega), addN_eq (τ := stp4 τ a0) (by rw [s4]; omega), addN_eq (τ := stp4 (stp4 τ a0) a1) (by rw [s4, s4]; omega), addN_eq (τ := stp4 (stp4 (stp4 τ a0) a1) a2) (by rw [s4, s4, s4]; omega), addN_eq (τ := stp4 (stp4 (stp4 (stp4 τ a0) a1) a2) a3) (by rw [s4, s4, s4, s4]; omega)]
    unfold f_X8_length
    rfl
theorem feedMM_eq (ρ : Sg) (a0 a1 a2 a3 a4 : Int) : f_X10_feed ρ a0 a1 a2 a3 a4 = if ρ 28 9 + 20 ≤ 80 then ((stpM4 (stpM4 (stpM4 (stpM4 (stpM4 (up2 ρ 28 0 0) a0) a1) a2) a3) a4) 28 9, stpM4 (stpM4 (stpM4 (stpM4 (stpM4 (up2 ρ 28 0 0) a0) a1) a2) a3) a4) else (-1, up2 ρ 28 0 0) := by
  unfold f_X10_feed
  rw [feedM_eq]
theorem s_feed {τ ρ : Sg} (h : Sim τ ρ) (hV : Inv τ) (hW : WF τ) (a0 a1 a2 a3 a4 : Int) : (f_X9_feed τ a0 a1 a2 a3 a4).1 = (f_X10_feed ρ a0 a1 a2 a3 a4).1 ∧ Sim (f_X9_feed τ a0 a1 a2 a3 a4).2 (f_X10_feed ρ a0 a1 a2 a3 a4).2 ∧ Inv (f_X9_feed τ a0 a1 a2 a3 a4).2 := by
  have ht := Sim.thr h hW 0
  have b1 := bd_1_1 hW
  have h9 := h.1.1
  have t0 : TP τ (up2 ρ 28 0 0) (τ 1 1) τ (up2 ρ 28 0 0) := ⟨ht.1, Eq.refl _, fun _ _ _ => Eq.refl _, fun _ _ _ => Eq.refl _, fun _ _ _ => Eq.refl _⟩
  have t1 := t0.step4 (by omega) a0
  have t2 := t1.step4 (by omega) a1
  have t3 := t2.step4 (by omega) a2
  have t4 := t3.step4 (by omega) a3
  have t5 := t4.step4 (by omega) a4
  rw [feedX_eq hW, feedMM_eq]
  generalize stp4 (stp4 (stp4 (stp4 (stp4 τ a0) a1) a2) a3) a4 = T at t5 ⊢
  generalize stpM4 (stpM4 (stpM4 (stpM4 (stpM4 (up2 ρ 28 0 0) a0) a1) a2) a3) a4 = P at t5 ⊢
  by_cases h1 : 80 < τ 1 1 + 20
  · rw [if_pos h1, if_neg (show ¬ ρ 28 9 + 20 ≤ 80 by omega)]
    exact ⟨rfl, ht, hV⟩
  · rw [if_neg h1, if_pos (show ρ 28 9 + 20 ≤ 80 by omega)]
    exact ⟨t5.1.1, ht.tp hW t5.1 t5.2.2.1 t5.2.2.2.1 t5.2.2.2.2, hV.tp hW t5.2.2.1⟩
theorem s_end {τ ρ : Sg} (h : Sim τ ρ) (hV : Inv τ) (hW : WF τ) (a : Int) : (f_X9_end τ a).1 = (f_X10_end ρ a).1 ∧ Sim (f_X9_end τ a).2 (f_X10_end ρ a).2 ∧ Inv (f_X9_end τ a).2 := by
  have ht := Sim.thr h hW 0
  have h9 := h.1.1
  unfold f_X9_end f_X10_end f_X8_cut
  by_cases h1 : a < 0
  · rw [if_pos h1, if_pos h1, if_pos rfl]
    exact ⟨rfl, ht, hV⟩
  · rw [if_neg h1, if_neg h1]
    by_cases h2 : a ≤ τ 1 1
    · rw [if_pos h2, if_pos (show a ≤ ρ 28 9 by omega), if_neg (show ¬ (1 : Int) = 0 by decide)]
      have hc : ∀ x, x ≠ 1 → x ≠ 2 → (up2 τ 1 1 a) x = τ x := fun x u v => up2_cell _ _ _ u
      dsimp only
      refine ⟨rfl, ht.tp hW ⟨by rw [up2_same, up2_same], fun i hi => ?_⟩ hc (fun k u v => up2_slot _ _ v) (fun x u v => up2_cell _ _ _ u), hV.tp hW hc⟩
      rw [up2_same] at hi
      rw [up2_cell _ _ _ (by decide), up2_cell _ _ _ (by decide)]
      exact ht.1.2 i (by omega)
    · rw [if_neg h2, if_neg (show ¬ a ≤ ρ 28 9 by omega), if_pos rfl]
      exact ⟨rfl, ht, hV⟩
theorem s_place {τ ρ : Sg} (h : Sim τ ρ) : f_X9_place τ = (f_X10_place ρ).1 ∧ (f_X10_place ρ).2 = up2 ρ 28 0 0 := ⟨h.2.2.2.1.2.1, rfl⟩
theorem s_stuck {τ ρ : Sg} (h : Sim τ ρ) : f_X9_stuck τ = (f_X10_stuck ρ).1 ∧ (f_X10_stuck ρ).2 = up2 ρ 28 0 0 := ⟨h.2.2.2.2.2.2.2.2.1, rfl⟩
theorem has_1 {τ : Sg} {a : Int} (h : ¬ f_X7_has τ a = 0) : 0 ≤ a ∧ a < τ 3 3 ∧ ¬ τ 5 a.toNat = 0 := by
  unfold f_X7_has at h
  repeat' split at h
  all_goals first | exact absurd rfl h | omega
/-- how many files there are, when there is one -/
theorem are_pos {τ ρ : Sg} (hS : SimS τ ρ) (hW : WF τ) {f : Nat} (hf : (f : Int) < τ 3 3) (he : ¬ τ 5 f = 0) : 1 ≤ τ 3 4 := by
  have b := bd_3_3 hW
  have bf := bd_5 hW f
  have k1 := sm_upd (τ 5) 0 (i := f) (n := (τ 3 3).toNat) (by omega)
  have k2 := sm_le (f := fun k => if k = f then 0 else τ 5 k) (n := (τ 3 3).toNat) (fun k hk => by
    show 0 ≤ (if k = f then 0 else τ 5 k) ∧ (if k = f then 0 else τ 5 k) ≤ 1
    split
    · omega
    · exact bd_5 hW k)
  have := hS.2.2.2.2
  omega
theorem are_le {τ ρ : Sg} (hS : SimS τ ρ) (hW : WF τ) : τ 3 4 ≤ τ 3 3 := by
  have b := bd_3_3 hW
  have k2 := sm_le (f := τ 5) (n := (τ 3 3).toNat) (fun k hk => bd_5 hW k)
  have := hS.2.2.2.2
  omega
theorem s_remove {τ ρ : Sg} (h : Sim τ ρ) (hV : Inv τ) (hW : WF τ) (a : Int) : (f_X9_remove τ a).1 = (f_X10_remove ρ a).1 ∧ Sim (f_X9_remove τ a).2 (f_X10_remove ρ a).2 ∧ Inv (f_X9_remove τ a).2 := by
  have ht := Sim.thr h hW 0
  have b3 := bd_3_3 hW
  have e1 := has_sim ht.2.1 hW a
  unfold f_X9_remove f_X10_remove
  rw [← e1]
  by_cases h1 : f_X7_has τ a = 0
  · rw [if_pos h1, if_pos h1]
    exact ⟨rfl, ht, hV⟩
  · rw [if_neg h1, if_neg h1]
    obtain ⟨r1, r2, r3⟩ := has_1 h1
    obtain ⟨t1, t2, t3, t4, t5⟩ := ht
    unfold f_X7_drop
    generalize (up2 ρ 28 0 0) = P at t1 t2 t3 t4 t5 ⊢
    dsimp only
    have hc : ∀ x, x ≠ 3 → x ≠ 5 → (up2 (up2 τ 5 a.toNat 0) 3 4 (τ 3 4 - 1)) x = τ x := fun x u v => by rw [up2_cell _ _ _ u, up2_cell _ _ _ v]
    have h3 : ∀ k, k ≠ 4 → (up2 (up2 τ 5 a.toNat 0) 3 4 (τ 3 4 - 1)) 3 k = τ 3 k := fun k hk => by rw [up2_slot _ _ hk, up2_cell _ _ _ (by decide)]
    have h5 : (up2 (up2 τ 5 a.toNat 0) 3 4 (τ 3 4 - 1)) 5 = fun i => if i = a.toNat then 0 else τ 5 i := by rw [up2_cell _ _ _ (by decide), up2_row]
    have gc : ∀ x, x ≠ 32 → (up2 P 32 a.toNat 0) x = P x := fun x u => up2_cell _ _ _ u
    have hr : ∀ r, RowS P (up2 P 32 a.toNat 0) r := fun r => RowS.of (gc 29 (by decide)) (gc 30 (by decide)) (gc 31 (by decide)) r
    refine ⟨rfl, ⟨t1.mv (hc 1 (by decide) (by decide)) (hc 2 (by decide) (by decide)) (by rw [gc 28 (by decide)]) (gc 33 (by decide)), ⟨?_, ?_, fun f hf => ?_, fun f hf => ?_, ?_⟩, t3.mv hW (hc 7 (by decide) (by decide)) (fun c u v => hc c (by omega) (by omega)) (by rw [gc 28 (by decide)]) (fun r _ _ => hr r),
      t4.mv (by rw [hc 0 (by decide) (by decide)]) (by rw [hc 0 (by decide) (by decide)]) (by rw [hc 0 (by decide) (by decide)]) (by rw [hc 0 (by decide) (by decide)]) (fun c u v => hc c (by omega) (by omega)) (by rw [gc 28 (by decide)]) (by rw [gc 28 (by decide)]) (by rw [gc 28 (by decide)]) (gc 34 (by decide)) (gc 35 (by decide)) (gc 36 (by decide)),
      t5.mv hW (hc 13 (by decide) (by decide)) (by rw [hc 0 (by decide) (by decide)]) (hc 15 (by decide) (by decide)) (hc 16 (by decide) (by decide)) (hc 17 (by decide) (by decide)) (fun c u => hc c (by omega) (by omega)) (by rw [gc 28 (by decide)]) (by rw [gc 28 (by decide)]) (by rw [gc 28 (by decide)]) (by rw [gc 28 (by decide)]) (by rw [gc 28 (by decide)]) (by rw [gc 28 (by decide)]; omega) (fun x u v => gc x (by omega)) (fun r _ _ => hr r)⟩, fun f hf he => ?_, fun f g hf hg hn he hk => ?_, fun i hi => ?_⟩
    · rw [h3 3 (by decide), gc 28 (by decide)]; exact t2.1
    · rw [h3 5 (by decide), gc 28 (by decide)]; exact t2.2.1
    · rw [h3 3 (by decide)] at hf
      rw [h5, up2_row]
      dsimp only
      split
      · rfl
      · exact t2.2.2.1 f hf
    · rw [h3 3 (by decide)] at hf
      exact (t2.2.2.2.1 f hf).mv (bd_Pl_2 hW (by omega)).2 ⟨hc _ (by omega) (by omega), hc _ (by omega) (by omega)⟩ (hr f)
    · have k1 := sm_upd (τ 5) 0 (i := a.toNat) (n := (τ 3 3).toNat) (by omega)
      have b5 := bd_5 hW a.toNat
      have q := t2.2.2.2.2
      rw [up2_same, h3 3 (by decide), h5]
      omega
    · rw [h3 3 (by decide)] at hf
      rw [h5] at he
      have he' : ¬ τ 5 f = 0 := by
        dsimp only at he
        split at he
        · exact absurd rfl he
        · exact he
      rcases hV.1 f hf he' with w | w
      · exact Or.inl (w.mv (hc _ (by omega) (by omega)) (hc _ (by omega) (by omega)))
      · exact Or.inr ⟨w.1.mv (hc _ (by omega) (by omega)) (hc _ (by omega) (by omega)), w.2.mv (by rw [hc 13 (by decide) (by decide)]) (by rw [hc 13 (by decide) (by decide)]) (hc 15 (by decide) (by decide)) (hc 16 (by decide) (by decide)) (hc 17 (by decide) (by decide)) (fun c u => hc c (by omega) (by omega))⟩
    · rw [h3 3 (by decide)] at hf hg
      rw [h5] at he hk
      have he' : ¬ τ 5 f = 0 := by
        dsimp only at he
        split at he
        · exact absurd rfl he
        · exact he
      have hk' : ¬ τ 5 g = 0 := by
        dsimp only at hk
        split at hk
        · exact absurd rfl hk
        · exact hk
      rw [h3 5 (by decide), AlX.mv (hc _ (by omega) (by omega)) (hc _ (by omega) (by omega)) (hc _ (by omega) (by omega)) (hc _ (by omega) (by omega))]
      exact hV.2.1 f g hf hg hn he' hk'
    · rw [hc 13 (by decide) (by decide)] at hi
      exact (hV.2.2 i hi).mv hW (by rw [hc 13 (by decide) (by decide)]) (hc 15 (by decide) (by decide)) (hc 16 (by decide) (by decide)) (hc 17 (by decide) (by decide)) (fun c u => hc c (by omega) (by omega))
