theorem Sim.sk {τ ρ : Sg} (h : Sim τ ρ) (hW : WF τ) (s : Int) (hm : ¬ τ 13 4 = 0) : Sim (up2 τ 0 10 s) (up2 ρ 28 35 s) := by
  have k := h.dn hW s (τ 13 8) hm h.2.2.2.2.2.2.2.2.2.2.2.2.2
  have e1 : up2 (up2 τ 0 10 s) 13 8 (τ 13 8) = up2 τ 0 10 s := by
    funext x j
    rw [up2_at]
    split
    · rename_i q
      rw [q.1, q.2, up2_cell _ _ _ (by decide)]
    · rfl
  have e2 : up2 (up2 ρ 28 35 s) 28 34 (τ 13 8) = up2 ρ 28 35 s := by
    funext x j
    rw [up2_at]
    split
    · rename_i q
      rw [q.1, q.2, up2_slot _ _ (by decide)]
      exact h.2.2.2.2.2.2.2.1
    · rfl
  rw [e1, e2] at k
  exact k
theorem Inv.sk {τ : Sg} (h : Inv τ) (hW : WF τ) (s : Int) : Inv (up2 τ 0 10 s) := by
  have hc : ∀ x, x ≠ 0 → (up2 τ 0 10 s) x = τ x := fun x a => up2_cell _ _ _ a
  exact h.mv hW (by rw [hc 3 (by decide)]) (by rw [hc 3 (by decide)]) (hc 5 (by decide)) (fun c h1 h2 => hc c (by omega)) (by rw [hc 13 (by decide)]) (by rw [hc 13 (by decide)]) (hc 15 (by decide)) (hc 16 (by decide)) (hc 17 (by decide)) (fun c h1 => hc c (by omega))
theorem go_loop (a most : Int) : ∀ (n m : Nat) (x : Int) (τ ρ : Sg), Sim τ ρ → Inv τ → WF τ → τ 0 10 = 0 → ¬ τ 13 4 = 0 → 0 ≤ x → x ≤ most → most = min a (τ 13 7 - τ 13 8 + x) → most - x < (n : Int) → most - x + 1 < (m : Int) →
    (L_X9_go_43 a n most x τ).1 = (L_X10_go_22 a m x ρ).1 ∧ Sim (L_X9_go_43 a n most x τ).2 (L_X10_go_22 a m x ρ).2 ∧ Inv (L_X9_go_43 a n most x τ).2
  | 0, m, x, τ, ρ, h, hV, hW, hs, hm, h0, h1, h2, f1, f2 => by omega
  | n + 1, 0, x, τ, ρ, h, hV, hW, hs, hm, h0, h1, h2, f1, f2 => by omega
  | n + 1, 1, x, τ, ρ, h, hV, hW, hs, hm, h0, h1, h2, f1, f2 => by omega
  | n + 1, m + 2, x, τ, ρ, h, hV, hW, hs, hm, h0, h1, h2, f1, f2 => by
    have q3 := h.2.2.2.2.2.2.1
    have q4 := h.2.2.2.2.2.2.2.1
    have q5 := h.2.2.2.2.2.2.2.2.1
    have b8 := bd_13_8 hW
    have b7 := bd_13_7 hW
    rw [L_X9_go_43, L_X10_go_22]
    by_cases c1 : most ≤ x
    · rw [if_pos c1]
      have ex : x = most := by omega
      subst ex
      by_cases c2 : a ≤ x
      · rw [if_pos c2]; exact ⟨rfl, h, hV⟩
      · rw [if_neg c2, if_pos (show ρ 28 33 ≤ ρ 28 34 by omega)]; exact ⟨rfl, h, hV⟩
    · rw [if_neg c1, if_neg (show ¬ a ≤ x by omega), if_neg (show ¬ ρ 28 33 ≤ ρ 28 34 by omega), if_pos (show ρ 28 35 = 0 by omega)]
      have ei : ((τ 13 8).toNat : Int) = τ 13 8 := by omega
      have hd := do_sim h hV hW (i := (τ 13 8).toNat) (by omega) (e := 0) (Or.inl rfl) (by omega) rfl rfl
      rw [ei, if_pos rfl, if_pos rfl] at hd
      rw [← q4]
      unfold f_X3_done
      generalize hR : f_X9_tryMove τ (f_X3_fileOfStep τ (τ 13 8)) (f_X3_startOfStep τ (τ 13 8)) (f_X3_goalOfStep τ (τ 13 8)) = R at hd ⊢
      generalize hS : f_X10_does ρ (τ 13 8) 0 = S at hd ⊢
      obtain ⟨d1, d2, d3, d4⟩ := hd
      rw [← d1]
      by_cases c3 : R.1 = 0
      · rw [if_pos c3, if_pos c3, c3]
        obtain ⟨w1, w2⟩ := d4 c3
        have r13 : R.2 13 = τ 13 := by rw [← hR]; exact tryMove_fr _ _ _ _ (by decide)
        have s28 : S.2 28 = ρ 28 := by rw [← hS]; exact does_fr _ _ _ (by decide) (by decide) (by decide)
        rw [s28, ← q4]
        rw [show τ 13 8 + 1 - 0 = τ 13 8 + 1 by omega] at w2
        have w3 := d2.dn w1 0 (τ 13 8 + 1) (by rw [r13]; exact hm) (by rw [r13]; omega)
        have w4 : WF (f_X3_setDone (up2 R.2 0 10 0) (τ 13 8 + 1)) := WF_up (WF_up w1 (bw_0_10 (by omega))) (bw_13_8 (by omega))
        have w5 : Sim (f_X3_setDone (up2 R.2 0 10 0) (τ 13 8 + 1)) (up2 (up2 S.2 28 35 0) 28 34 (τ 13 8 + 1)) := w3
        have e0 : (f_X3_setDone (up2 R.2 0 10 0) (τ 13 8 + 1)) 0 10 = 0 := by unfold f_X3_setDone; rw [up2_cell _ _ _ (by decide), up2_same]
        have e8 : (f_X3_setDone (up2 R.2 0 10 0) (τ 13 8 + 1)) 13 8 = τ 13 8 + 1 := by unfold f_X3_setDone; exact up2_same _ _ _ _
        have ek : ∀ k, k ≠ 8 → (f_X3_setDone (up2 R.2 0 10 0) (τ 13 8 + 1)) 13 k = τ 13 k := fun k hk => by unfold f_X3_setDone; rw [up2_slot _ _ hk, up2_cell _ _ _ (by decide), r13]
        exact go_loop a most n (m + 1) (x + 1) _ _ w5 w2 w4 e0 (by rw [ek 4 (by decide)]; exact hm) (by omega) (by omega) (by rw [e8, ek 7 (by decide)]; omega) (by omega) (by omega)
      · rw [if_neg c3, if_neg c3]
        have s28 : S.2 28 = ρ 28 := by rw [← hS]; exact does_fr _ _ _ (by decide) (by decide) (by decide)
        have r2 := d3 c3
        rw [r2] at d2 ⊢
        rw [L_X10_go_22, if_neg (show ¬ a ≤ x by omega), up2_slot _ _ (by decide), up2_slot _ _ (by decide), s28, if_neg (show ¬ ρ 28 33 ≤ ρ 28 34 by omega), up2_same, if_neg c3]
        exact ⟨rfl, d2.sk hW _ hm, hV.sk hW _⟩
theorem back_loop (a most : Int) : ∀ (n m : Nat) (x : Int) (τ ρ : Sg), Sim τ ρ → Inv τ → WF τ → τ 0 10 = 0 → ¬ τ 13 4 = 0 → 0 ≤ x → x ≤ most → most = min a (τ 13 8 + x) → most - x < (n : Int) → most - x + 1 < (m : Int) →
    (L_X9_back_35 a n most x τ).1 = (L_X10_back_22 a m x ρ).1 ∧ Sim (L_X9_back_35 a n most x τ).2 (L_X10_back_22 a m x ρ).2 ∧ Inv (L_X9_back_35 a n most x τ).2
  | 0, m, x, τ, ρ, h, hV, hW, hs, hm, h0, h1, h2, f1, f2 => by omega
  | n + 1, 0, x, τ, ρ, h, hV, hW, hs, hm, h0, h1, h2, f1, f2 => by omega
  | n + 1, 1, x, τ, ρ, h, hV, hW, hs, hm, h0, h1, h2, f1, f2 => by omega
  | n + 1, m + 2, x, τ, ρ, h, hV, hW, hs, hm, h0, h1, h2, f1, f2 => by
    have q3 := h.2.2.2.2.2.2.1
    have q4 := h.2.2.2.2.2.2.2.1
    have q5 := h.2.2.2.2.2.2.2.2.1
    have q10 := h.2.2.2.2.2.2.2.2.2.2.2.2.2
    have b8 := bd_13_8 hW
    have b7 := bd_13_7 hW
    rw [L_X9_back_35, L_X10_back_22]
    by_cases c1 : most ≤ x
    · rw [if_pos c1]
      have ex : x = most := by omega
      subst ex
      by_cases c2 : a ≤ x
      · rw [if_pos c2]; exact ⟨rfl, h, hV⟩
      · rw [if_neg c2, if_pos (show ρ 28 34 ≤ 0 by omega)]; exact ⟨rfl, h, hV⟩
    · rw [if_neg c1, if_neg (show ¬ a ≤ x by omega), if_neg (show ¬ ρ 28 34 ≤ 0 by omega), if_pos (show ρ 28 35 = 0 by omega)]
      have ei : ((τ 13 8 - 1).toNat : Int) = τ 13 8 - 1 := by omega
      have hd := do_sim h hV hW (i := (τ 13 8 - 1).toNat) (by omega) (e := 1) (Or.inr rfl) (by omega) rfl rfl
      rw [ei, if_neg (show ¬ (1 : Int) = 0 by decide), if_neg (show ¬ (1 : Int) = 0 by decide)] at hd
      rw [← q4]
      unfold f_X3_done
      generalize hR : f_X9_tryMove τ (f_X3_fileOfStep τ (τ 13 8 - 1)) (f_X3_goalOfStep τ (τ 13 8 - 1)) (f_X3_startOfStep τ (τ 13 8 - 1)) = R at hd ⊢
      generalize hS : f_X10_does ρ (τ 13 8 - 1) 1 = S at hd ⊢
      obtain ⟨d1, d2, d3, d4⟩ := hd
      rw [← d1]
      by_cases c3 : R.1 = 0
      · rw [if_pos c3, if_pos c3, c3]
        obtain ⟨w1, w2⟩ := d4 c3
        have r13 : R.2 13 = τ 13 := by rw [← hR]; exact tryMove_fr _ _ _ _ (by decide)
        have s28 : S.2 28 = ρ 28 := by rw [← hS]; exact does_fr _ _ _ (by decide) (by decide) (by decide)
        rw [s28, ← q4]
        rw [show τ 13 8 - 1 + 1 - 1 = τ 13 8 - 1 by omega] at w2
        have w3 := d2.dn w1 0 (τ 13 8 - 1) (by rw [r13]; exact hm) (by rw [r13]; omega)
        have w4 : WF (f_X3_setDone (up2 R.2 0 10 0) (τ 13 8 - 1)) := WF_up (WF_up w1 (bw_0_10 (by omega))) (bw_13_8 (by omega))
        have w5 : Sim (f_X3_setDone (up2 R.2 0 10 0) (τ 13 8 - 1)) (up2 (up2 S.2 28 35 0) 28 34 (τ 13 8 - 1)) := w3
        have e0 : (f_X3_setDone (up2 R.2 0 10 0) (τ 13 8 - 1)) 0 10 = 0 := by unfold f_X3_setDone; rw [up2_cell _ _ _ (by decide), up2_same]
        have e8 : (f_X3_setDone (up2 R.2 0 10 0) (τ 13 8 - 1)) 13 8 = τ 13 8 - 1 := by unfold f_X3_setDone; exact up2_same _ _ _ _
        have ek : ∀ k, k ≠ 8 → (f_X3_setDone (up2 R.2 0 10 0) (τ 13 8 - 1)) 13 k = τ 13 k := fun k hk => by unfold f_X3_setDone; rw [up2_slot _ _ hk, up2_cell _ _ _ (by decide), r13]
        exact back_loop a most n (m + 1) (x + 1) _ _ w5 w2 w4 e0 (by rw [ek 4 (by decide)]; exact hm) (by omega) (by omega) (by rw [e8]; omega) (by omega) (by omega)
      · rw [if_neg c3, if_neg c3]
        have s28 : S.2 28 = ρ 28 := by rw [← hS]; exact does_fr _ _ _ (by decide) (by decide) (by decide)
        have r2 := d3 c3
        rw [r2] at d2 ⊢
        rw [L_X10_back_22, if_neg (show ¬ a ≤ x by omega), up2_slot _ _ (by decide), s28, if_neg (show ¬ ρ 28 34 ≤ 0 by omega), up2_same, if_neg c3]
        exact ⟨rfl, d2.sk hW _ hm, hV.sk hW _⟩
theorem can_eq {τ ρ : Sg} (h : SimP τ ρ) (a : Int) (h0 : ¬ a < 0) : f_X10_can (up2 ρ 28 0 0) a = f_X3_canRun τ := by
  obtain ⟨p1, p2, p3, p4, p5, p6, p7, p8, p9, p10⟩ := h
  have e : f_X10_troubles (up2 ρ 28 0 0) = f_X10_troubles ρ := troubles_eq (up2_slot _ _ (by decide)) (up2_slot _ _ (by decide)) (up2_cell _ _ _ (by decide))
  unfold f_X10_can f_X3_canRun
  rw [if_neg h0, e, up2_slot _ _ (by decide), ← p1, ← p6]
theorem s_go {τ ρ : Sg} (h : Sim τ ρ) (hV : Inv τ) (hW : WF τ) (a : Int) : (f_X9_go τ a).1 = (f_X10_go ρ a).1 ∧ Sim (f_X9_go τ a).2 (f_X10_go ρ a).2 ∧ Inv (f_X9_go τ a).2 := by
  have ht := Sim.thr h hW 0
  have b8 := bd_13_8 hW
  have b7 := bd_13_7 hW
  have q10 := h.2.2.2.2.2.2.2.2.2.2.2.2.2
  unfold f_X9_go f_X10_go
  by_cases h1 : a < 0
  · have e : f_X10_can (up2 ρ 28 0 0) a = 0 := by unfold f_X10_can; rw [if_pos h1]
    rw [if_pos h1, if_pos e]
    exact ⟨rfl, ht, hV⟩
  · rw [if_neg h1, can_eq h.2.2.2.2 a h1]
    by_cases h2 : f_X3_canRun τ = 0
    · rw [if_pos h2, if_pos h2]
      exact ⟨rfl, ht, hV⟩
    · rw [if_neg h2, if_neg h2]
      have hm : ¬ τ 13 4 = 0 := fun z => h2 (by unfold f_X3_canRun; rw [if_pos z])
      unfold f_X3_stepCount f_X3_done
      have e13 : (up2 τ 0 10 0) 13 = τ 13 := up2_cell _ _ _ (by decide)
      rw [e13]
      exact go_loop a (min a (τ 13 7 - τ 13 8)) 81 83 0 (up2 τ 0 10 0) (up2 (up2 ρ 28 0 0) 28 35 0) (ht.sk hW 0 hm) (hV.sk hW 0) (WF_up hW (bw_0_10 (by omega))) (up2_same _ _ _ _) (by rw [e13]; exact hm) (by omega) (by omega) (by rw [e13]; omega) (by omega) (by omega)
theorem s_back {τ ρ : Sg} (h : Sim τ ρ) (hV : Inv τ) (hW : WF τ) (a : Int) : (f_X9_back τ a).1 = (f_X10_back ρ a).1 ∧ Sim (f_X9_back τ a).2 (f_X10_back ρ a).2 ∧ Inv (f_X9_back τ a).2 := by
  have ht := Sim.thr h hW 0
  have b8 := bd_13_8 hW
  have b7 := bd_13_7 hW
  have q10 := h.2.2.2.2.2.2.2.2.2.2.2.2.2
  unfold f_X9_back f_X10_back
  by_cases h1 : a < 0
  · have e : f_X10_can (up2 ρ 28 0 0) a = 0 := by unfold f_X10_can; rw [if_pos h1]
    rw [if_pos h1, if_pos e]
    exact ⟨rfl, ht, hV⟩
  · rw [if_neg h1, can_eq h.2.2.2.2 a h1]
    by_cases h2 : f_X3_canRun τ = 0
    · rw [if_pos h2, if_pos h2]
      exact ⟨rfl, ht, hV⟩
    · rw [if_neg h2, if_neg h2]
      have hm : ¬ τ 13 4 = 0 := fun z => h2 (by unfold f_X3_canRun; rw [if_pos z])
      unfold f_X3_done
      have e13 : (up2 τ 0 10 0) 13 = τ 13 := up2_cell _ _ _ (by decide)
      rw [e13]
      exact back_loop a (min a (τ 13 8)) 81 83 0 (up2 τ 0 10 0) (up2 (up2 ρ 28 0 0) 28 35 0) (ht.sk hW 0 hm) (hV.sk hW 0) (WF_up hW (bw_0_10 (by omega))) (up2_same _ _ _ _) (by rw [e13]; exact hm) (by omega) (by omega) (by rw [e13]; omega) (by omega) (by omega)
