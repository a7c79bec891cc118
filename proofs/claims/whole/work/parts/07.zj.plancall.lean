theorem isF_iff (a : Int) : f_X9_isFolder a = 0 ↔ ¬ (0 ≤ a ∧ a ≤ 5) := by
  unfold f_X9_isFolder
  by_cases c : a < 0
  · rw [if_pos c]; exact ⟨fun _ => by omega, fun _ => rfl⟩
  · rw [if_neg c]
    by_cases d : 6 ≤ a
    · rw [if_pos d]; exact ⟨fun _ => by omega, fun _ => rfl⟩
    · rw [if_neg d]; exact ⟨fun z => by omega, fun z => absurd ⟨by omega, by omega⟩ z⟩
theorem wi_iff (a b c : Int) : f_X10_within a b c = 0 ↔ ¬ (b ≤ a ∧ a ≤ c) := by
  unfold f_X10_within
  by_cases x : a < b
  · rw [if_pos x]; exact ⟨fun _ => by omega, fun _ => rfl⟩
  · rw [if_neg x]
    by_cases d : c < a
    · rw [if_pos d]; exact ⟨fun _ => by omega, fun _ => rfl⟩
    · rw [if_neg d]; exact ⟨fun z => by omega, fun z => absurd ⟨by omega, by omega⟩ z⟩
def okP (a0 a1 a2 a3 : Int) : Prop := (0 ≤ a0 ∧ a0 ≤ 5) ∧ (0 ≤ a1 ∧ a1 ≤ 5) ∧ (0 ≤ a2 ∧ a2 ≤ 999) ∧ (1 ≤ a3 ∧ a3 ≤ 99)
theorem planX_no {τ : Sg} {a0 a1 a2 a3 a4 : Int} (h : ¬ (¬ τ 0 8 = 0 ∧ okP a0 a1 a2 a3)) : f_X9_plan τ a0 a1 a2 a3 a4 = (-1, τ) := by
  unfold f_X9_plan
  unfold okP at h
  by_cases c1 : τ 0 8 = 0
  · rw [if_pos c1]
  · rw [if_neg c1]
    by_cases c2 : f_X9_isFolder a0 = 0
    · rw [if_pos c2]
    · rw [if_neg c2]
      by_cases c3 : f_X9_isFolder a1 = 0
      · rw [if_pos c3]
      · rw [if_neg c3]
        rw [isF_iff] at c2 c3
        by_cases c4 : a2 < 0
        · rw [if_pos c4]
        · rw [if_neg c4]
          by_cases c5 : 999 < a2
          · rw [if_pos c5]
          · rw [if_neg c5]
            by_cases c6 : a3 < 1
            · rw [if_pos c6]
            · rw [if_neg c6]
              by_cases c7 : a3 ≤ 99
              · exfalso
                exact h ⟨c1, by omega, by omega, by omega, by omega⟩
              · rw [if_neg c7]
theorem planM_no {ρ : Sg} {a0 a1 a2 a3 a4 : Int} (h : ¬ (¬ ρ 28 10 = 0 ∧ okP a0 a1 a2 a3)) : f_X10_plan ρ a0 a1 a2 a3 a4 = (-1, up2 ρ 28 0 0) := by
  unfold f_X10_plan
  unfold okP at h
  by_cases c2 : f_X10_within a0 0 5 = 0
  · rw [if_pos c2]
  · rw [if_neg c2]
    by_cases c3 : f_X10_within a1 0 5 = 0
    · rw [if_pos c3]
    · rw [if_neg c3]
      by_cases c4 : f_X10_within a2 0 999 = 0
      · rw [if_pos c4]
      · rw [if_neg c4]
        by_cases c5 : f_X10_within a3 1 99 = 0
        · rw [if_pos c5]
        · rw [if_neg c5]
          rw [wi_iff] at c2 c3 c4 c5
          by_cases c1 : ρ 28 10 = 0
          · rw [if_pos c1]
          · exfalso
            exact h ⟨c1, by omega, by omega, by omega, by omega⟩
theorem planX_uw {τ : Sg} {a0 a1 a2 a3 a4 : Int} (h8 : ¬ τ 0 8 = 0) (h : okP a0 a1 a2 a3) (hu : ¬ f_X3_isUnderWay τ = 0) : f_X9_plan τ a0 a1 a2 a3 a4 = (-2, τ) := by
  obtain ⟨h0, h1, h2, h3⟩ := h
  unfold f_X9_plan
  rw [if_neg h8, if_neg (fun z => (isF_iff a0).mp z h0), if_neg (fun z => (isF_iff a1).mp z h1), if_neg (show ¬ a2 < 0 by omega), if_neg (show ¬ 999 < a2 by omega), if_neg (show ¬ a3 < 1 by omega), if_pos h3.2, if_neg hu]
theorem planM_uw {ρ : Sg} {a0 a1 a2 a3 a4 : Int} (h8 : ¬ ρ 28 10 = 0) (h : okP a0 a1 a2 a3) (hu : ¬ f_X10_isUnderWay (up2 ρ 28 0 0) = 0) : f_X10_plan ρ a0 a1 a2 a3 a4 = (-2, up2 ρ 28 0 0) := by
  obtain ⟨h0, h1, h2, h3⟩ := h
  unfold f_X10_plan
  rw [if_neg (fun z => (wi_iff a0 0 5).mp z h0), if_neg (fun z => (wi_iff a1 0 5).mp z h1), if_neg (fun z => (wi_iff a2 0 999).mp z h2), if_neg (fun z => (wi_iff a3 1 99).mp z h3), if_neg h8, if_neg hu]
theorem planX_go {τ : Sg} {a0 a1 a2 a3 a4 : Int} (h8 : ¬ τ 0 8 = 0) (h : okP a0 a1 a2 a3) (hu : f_X3_isUnderWay τ = 0) : f_X9_plan τ a0 a1 a2 a3 a4 = (f_X3_size (f_X3_findSteps (f_X3_findTroubles (L_X9_plan_84 a0 a1 a2 a3 a4 41 ((f_X7_list (f_X3_begin τ) a0 a4).1) 0 (f_X7_list (f_X3_begin τ) a0 a4).2))), (f_X3_findSteps (f_X3_findTroubles (L_X9_plan_84 a0 a1 a2 a3 a4 41 ((f_X7_list (f_X3_begin τ) a0 a4).1) 0 (f_X7_list (f_X3_begin τ) a0 a4).2)))) := by
  obtain ⟨h0, h1, h2, h3⟩ := h
  unfold f_X9_plan
  rw [if_neg h8, if_neg (fun z => (isF_iff a0).mp z h0), if_neg (fun z => (isF_iff a1).mp z h1), if_neg (show ¬ a2 < 0 by omega), if_neg (show ¬ 999 < a2 by omega), if_neg (show ¬ a3 < 1 by omega), if_pos h3.2, if_pos hu]
def plM1 (ρ : Sg) : Sg := up2 (up2 (up2 (up2 ρ 28 0 0) 28 25 1) 28 26 0) 28 34 0
theorem planM_go {ρ : Sg} {a0 a1 a2 a3 a4 : Int} (h8 : ¬ ρ 28 10 = 0) (h : okP a0 a1 a2 a3) (hu : f_X10_isUnderWay (up2 ρ 28 0 0) = 0) : f_X10_plan ρ a0 a1 a2 a3 a4 = ((f_X10_findSteps (L_X10_plan_297 a0 a1 a2 a3 a4 41 0 (L_X10_plan_208 a0 a1 a2 a3 a4 41 0 (L_X10_plan_82 a0 a1 a2 a3 a4 41 0 (plM1 ρ))))) 28 26, (f_X10_findSteps (L_X10_plan_297 a0 a1 a2 a3 a4 41 0 (L_X10_plan_208 a0 a1 a2 a3 a4 41 0 (L_X10_plan_82 a0 a1 a2 a3 a4 41 0 (plM1 ρ)))))) := by
  obtain ⟨h0, h1, h2, h3⟩ := h
  unfold f_X10_plan plM1
  rw [if_neg (fun z => (wi_iff a0 0 5).mp z h0), if_neg (fun z => (wi_iff a1 0 5).mp z h1), if_neg (fun z => (wi_iff a2 0 999).mp z h2), if_neg (fun z => (wi_iff a3 1 99).mp z h3), if_neg h8, if_pos hu]
theorem s_plan {τ ρ : Sg} (h : Sim τ ρ) (hV : Inv τ) (hW : WF τ) (hM : WF ρ) (a0 a1 a2 a3 a4 : Int) : (f_X9_plan τ a0 a1 a2 a3 a4).1 = (f_X10_plan ρ a0 a1 a2 a3 a4).1 ∧ Sim (f_X9_plan τ a0 a1 a2 a3 a4).2 (f_X10_plan ρ a0 a1 a2 a3 a4).2 ∧ Inv (f_X9_plan τ a0 a1 a2 a3 a4).2 := by
  have ht := Sim.thr h hW 0
  have r8 : τ 0 8 = 0 ↔ ρ 28 10 = 0 := h.2.2.2.1.2.2.1
  obtain ⟨p1, p2, p3, p4, p5, p6, p7, p8, p9, p10⟩ := h.2.2.2.2
  have e4 : f_X10_isUnderWay (up2 ρ 28 0 0) = f_X3_isUnderWay τ := by
    unfold f_X10_isUnderWay f_X3_isUnderWay
    rw [up2_slot _ _ (by decide), up2_slot _ _ (by decide), up2_slot _ _ (by decide), ← p1, ← p3, ← p4]
    by_cases z : τ 13 4 = 0
    · rw [if_pos z, if_pos (by have := p9 z; omega)]
    · rw [if_neg z]
  by_cases ok : ¬ τ 0 8 = 0 ∧ okP a0 a1 a2 a3
  · obtain ⟨o8, o⟩ := ok
    have o10 : ¬ ρ 28 10 = 0 := fun z => o8 (r8.mpr z)
    by_cases u : f_X3_isUnderWay τ = 0
    · rw [planX_go o8 o u, planM_go o10 o (by rw [e4]; exact u)]
      have hN : ∀ f : Nat, (f : Int) < τ 3 3 → ¬ τ 5 f = 0 → NmOK τ (59 + 2 * f) := fun f hf he => by
        rcases hV.1 f hf he with z | ⟨-, i, j, z1, z2, z3, -⟩
        · exact z
        · exfalso
          unfold f_X3_isUnderWay at u
          rw [if_neg (by omega), if_neg (by omega)] at u
          omega
      have b3 := bd_3_3 hW
      have t1 : ∀ x, x ≠ 13 → (f_X3_begin τ) x = τ x := fun x hx => by unfold f_X3_begin; rw [up2_cell _ _ _ hx, up2_cell _ _ _ hx, up2_cell _ _ _ hx, up2_cell _ _ _ hx, up2_cell _ _ _ hx]
      have t8 : (f_X3_begin τ) 13 8 = 0 := by unfold f_X3_begin; exact up2_same _ _ _ _
      have t7 : (f_X3_begin τ) 13 7 = 0 := by unfold f_X3_begin; rw [up2_slot _ _ (by decide)]; exact up2_same _ _ _ _
      have t6 : (f_X3_begin τ) 13 6 = 0 := by unfold f_X3_begin; rw [up2_slot _ _ (by decide), up2_slot _ _ (by decide)]; exact up2_same _ _ _ _
      have t5 : (f_X3_begin τ) 13 5 = 0 := by unfold f_X3_begin; rw [up2_slot _ _ (by decide), up2_slot _ _ (by decide), up2_slot _ _ (by decide)]; exact up2_same _ _ _ _
      have t4 : (f_X3_begin τ) 13 4 = 1 := by unfold f_X3_begin; rw [up2_slot _ _ (by decide), up2_slot _ _ (by decide), up2_slot _ _ (by decide), up2_slot _ _ (by decide)]; exact up2_same _ _ _ _
      have hW1 : WF (f_X3_begin τ) := by unfold f_X3_begin; exact WF_up (WF_up (WF_up (WF_up (WF_up hW (bw_13_4 (by omega))) (bw_13_5 (by omega))) (bw_13_6 (by omega))) (bw_13_7 (by omega))) (bw_13_8 (by omega))
      have r1 : ∀ x, x ≠ 28 → (plM1 ρ) x = ρ x := fun x hx => by unfold plM1; rw [up2_cell _ _ _ hx, up2_cell _ _ _ hx, up2_cell _ _ _ hx, up2_cell _ _ _ hx]
      have r2 : ∀ j, j ≠ 0 → j ≠ 25 → j ≠ 26 → j ≠ 34 → (plM1 ρ) 28 j = ρ 28 j := fun j a b c d => by unfold plM1; rw [up2_slot _ _ d, up2_slot _ _ c, up2_slot _ _ b, up2_slot _ _ a]
      have r34 : (plM1 ρ) 28 34 = 0 := by unfold plM1; exact up2_same _ _ _ _
      have r26 : (plM1 ρ) 28 26 = 0 := by unfold plM1; rw [up2_slot _ _ (by decide)]; exact up2_same _ _ _ _
      have r25 : (plM1 ρ) 28 25 = 1 := by unfold plM1; rw [up2_slot _ _ (by decide), up2_slot _ _ (by decide)]; exact up2_same _ _ _ _
      have hM1 : WF (plM1 ρ) := by unfold plM1; exact WF_up (WF_up (WF_up (WF_up hM (bw_28_0 (by omega))) (bw_28_25 (by omega))) (bw_28_26 (by omega))) (bw_28_34 (by omega))
      generalize f_X3_begin τ = τ1 at t1 t4 t5 t6 t7 t8 hW1 ⊢
      generalize plM1 ρ = ρ1 at r1 r2 r25 r26 r34 hM1 ⊢
      have u3 : τ1 3 = τ 3 := t1 3 (by decide)
      have u5 : τ1 5 = τ 5 := t1 5 (by decide)
      have u0 : τ1 0 = τ 0 := t1 0 (by decide)
      have hS1 : SimS τ1 ρ1 := h.2.1.mv hW u3 u5 (fun c a b => t1 c (by omega)) (r2 5 (by decide) (by decide) (by decide) (by decide)) (r2 4 (by decide) (by decide) (by decide) (by decide)) (r1 32 (by decide)) (fun r _ => RowS.of (r1 29 (by decide)) (r1 30 (by decide)) (r1 31 (by decide)) r)
      have hR1 : SimR τ1 ρ1 := h.2.2.2.1.mv (by rw [u0]) (by rw [u0]) (by rw [u0]) (by rw [u0]) (fun c a b => t1 c (by omega)) (r2 10 (by decide) (by decide) (by decide) (by decide)) (r2 11 (by decide) (by decide) (by decide) (by decide)) (r2 20 (by decide) (by decide) (by decide) (by decide)) (r1 34 (by decide)) (r1 35 (by decide)) (r1 36 (by decide))
      have hN1 : ∀ f : Nat, (f : Int) < τ1 3 3 → ¬ τ1 5 f = 0 → NmOK τ1 (59 + 2 * f) := fun f hf he => by
        rw [u3] at hf
        rw [u5] at he
        exact (hN f hf he).mv (t1 _ (by omega)) (t1 _ (by omega))
      obtain ⟨m, en⟩ := plan_entries hS1 hW1 hM1 hN1 (hR1.2.2.2.1 (by rw [u0]; exact o8)) t5 r26 a0 a1 a2 a3 a4 o.2.2.1 o.2.2.2
      generalize L_X9_plan_84 a0 a1 a2 a3 a4 41 ((f_X7_list τ1 a0 a4).1) 0 (f_X7_list τ1 a0 a4).2 = T at en ⊢
      generalize L_X10_plan_208 a0 a1 a2 a3 a4 41 0 (L_X10_plan_82 a0 a1 a2 a3 a4 41 0 ρ1) = P at en ⊢
      obtain ⟨f1, f2, f3, f4⟩ := plan_steps (a0 := a0) (a4 := a4) h hV hW hM1 hN r1 r2 r25 r34 t1 t4 t6 t7 t8 hW1 hS1 en
      refine ⟨?_, f1, f2⟩
      dsimp only
      rw [f4]
      unfold f_X3_size
      exact f3
    · rw [planX_uw o8 o u, planM_uw o10 o (by rw [e4]; exact u)]
      exact ⟨rfl, ht, hV⟩
  · rw [planX_no ok, planM_no (fun z => ok ⟨fun y => z.1 (r8.mp y), z.2⟩)]
    exact ⟨rfl, ht, hV⟩
