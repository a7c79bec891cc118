/-! Calls that only ask. -/
theorem s_planned {τ ρ : Sg} (h : SimP τ ρ) (a b : Int) : f_X9_planned τ a b = (f_X10_planned ρ a b).1 ∧ (f_X10_planned ρ a b).2 = up2 ρ 28 0 0 := by
  obtain ⟨p1, p2, p3, p4, p5, p6, p7, p8, p9, p10⟩ := h
  unfold f_X9_planned f_X10_planned f_X3_hasPlanned f_X3_get
  by_cases h0 : ρ 28 25 = 0
  · have := (p9 (by omega)).1
    by_cases h1 : a < 0
    · simp [h0, h1]
    · simp [h0, h1, show τ 13 5 ≤ a by omega]
  · by_cases h1 : a < 0
    · simp [h0, h1]
    · by_cases h2 : τ 13 5 ≤ a
      · simp [h0, h1, h2, show ¬ a < ρ 28 26 by omega]
      · obtain ⟨q1, q2, q3, q4, q5, q6, q7, -⟩ := p7 a.toNat (by omega)
        have e1 : 439 + a.toNat - 439 = a.toNat := by omega
        have e2 : (80 + a).toNat = 80 + a.toNat := by omega
        rw [if_neg h0, if_neg h1, if_pos (show a < ρ 28 26 by omega), if_neg h1, if_neg h2, if_neg (show ¬ (1 : Int) = 0 by decide), e1, e2, q1, q2, q3, q4, q5, q6, q7]
        repeat' split
        all_goals first | exact ⟨rfl, rfl⟩ | omega
theorem s_newName {τ ρ : Sg} (h : SimP τ ρ) (hW : WF τ) (a b : Int) : f_X9_newName τ a b = (f_X10_newName ρ a b).1 ∧ (f_X10_newName ρ a b).2 = up2 ρ 28 0 0 := by
  have b5 := bd_13_5 hW
  obtain ⟨p1, p2, p3, p4, p5, p6, p7, p8, p9, p10⟩ := h
  unfold f_X9_newName f_X10_newName f_X3_hasPlanned f_X3_get
  by_cases h0 : ρ 28 25 = 0
  · have := (p9 (by omega)).1
    by_cases h1 : a < 0
    · simp [h0, h1]
    · simp [h0, h1, show τ 13 5 ≤ a by omega]
  · by_cases h1 : a < 0
    · simp [h0, h1]
    · by_cases h2 : τ 13 5 ≤ a
      · simp [h0, h1, h2, show ρ 28 26 ≤ a by omega]
      · obtain ⟨q1, q2, q3, q4, q5, q6, q7, q8, q9⟩ := p7 a.toNat (by omega)
        have e1 : 439 + a.toNat - 439 = a.toNat := by omega
        have e2 : (80 + a).toNat = 80 + a.toNat := by omega
        have bl := bd_Pl_2 hW (c := 201 + 6 * a.toNat) (by omega)
        rw [if_neg h0, if_neg h1, if_neg (show ¬ ρ 28 26 ≤ a by omega), if_neg h1, if_neg h2, if_neg (show ¬ (1 : Int) = 0 by decide), e1, e2, ← q8]
        unfold f_X2_byteAt
        by_cases h3 : b < 0
        · rw [if_pos h3, if_pos h3]; exact ⟨rfl, rfl⟩
        · rw [if_neg h3, if_neg h3]
          by_cases h4 : τ (201 + 6 * a.toNat) 2 ≤ b
          · rw [if_pos h4, if_neg (show ¬ b < τ (201 + 6 * a.toNat) 2 by omega)]; exact ⟨rfl, rfl⟩
          · rw [if_neg h4, if_neg (show ¬ 12 ≤ b by omega), if_pos (show b < τ (201 + 6 * a.toNat) 2 by omega), q9 b.toNat (by omega), show (12 * (80 + a) + b).toNat = 12 * (80 + a.toNat) + b.toNat by omega]
            exact ⟨rfl, rfl⟩
theorem s_steps {τ ρ : Sg} (h : SimP τ ρ) : f_X9_steps τ = (f_X10_steps ρ).1 ∧ (f_X10_steps ρ).2 = up2 ρ 28 0 0 := by
  obtain ⟨p1, p2, p3, p4, p5, p6, p7, p8, p9, p10⟩ := h
  unfold f_X9_steps f_X10_steps f_X3_isMade f_X3_troubles f_X3_stepCount
  have e : f_X10_troubles (up2 ρ 28 0 0) = f_X10_troubles ρ := troubles_eq (up2_slot _ _ (by decide)) (up2_slot _ _ (by decide)) (up2_cell _ _ _ (by decide))
  rw [e, ← p6, p1, p3]
  repeat' split
  all_goals exact ⟨rfl, rfl⟩
theorem s_step {τ ρ : Sg} (h : SimP τ ρ) (a b : Int) : f_X9_step τ a b = (f_X10_step ρ a b).1 ∧ (f_X10_step ρ a b).2 = up2 ρ 28 0 0 := by
  obtain ⟨p1, p2, p3, p4, p5, p6, p7, p8, p9, p10⟩ := h
  unfold f_X9_step f_X10_step f_X3_hasStep f_X3_fileOfStep f_X3_goesToSpare f_X3_comesFromSpare
  by_cases h0 : ρ 28 25 = 0
  · have := (p9 (by omega)).2.1
    by_cases h1 : a < 0
    · simp [h0, h1]
    · simp [h0, h1, show τ 13 7 ≤ a by omega]
  · by_cases h1 : a < 0
    · simp [h0, h1]
    · by_cases h2 : τ 13 7 ≤ a
      · simp [h0, h1, h2, show ¬ a < ρ 28 33 by omega]
      · obtain ⟨q1, q2, q3, -⟩ := p8 a.toNat (by omega)
        rw [if_neg h0, if_neg h1, if_pos (show a < ρ 28 33 by omega), if_neg h1, if_neg h2, if_neg (show ¬ (1 : Int) = 0 by decide), q1, q2, q3]
        repeat' split
        all_goals first | exact ⟨rfl, rfl⟩ | omega
theorem findJust_sim {τ ρ : Sg} (hS : SimS τ ρ) (hW : WF τ) {d q : Nat} (hd : PE τ ρ d q) (a b : Int) : ∀ (n : Nat) (x : Int), 0 ≤ x → L_X7_findJust_2 τ d n x = (L_X10_linkOf_62 ρ a b n (q : Int) x).1 ∧ (L_X10_linkOf_62 ρ a b n (q : Int) x).2 = ρ
  | 0, x, h0 => ⟨rfl, rfl⟩
  | n + 1, x, h0 => by
    have b1 := bd_3_3 hW
    have ih := findJust_sim hS hW hd a b n (x + 1) (by omega)
    rw [L_X7_findJust_2, L_X10_linkOf_62, hS.1]
    by_cases h1 : ρ 28 5 ≤ x
    · rw [if_pos h1, if_pos h1]; exact ⟨rfl, rfl⟩
    · rw [if_neg h1, if_neg h1]
      have hx : ((x.toNat : Nat) : Int) < τ 3 3 := by rw [hS.1]; omega
      have hp := bd_Pl_2 hW (c := 59 + 2 * x.toNat) (by omega)
      have e := PE_just (by omega) (hS.2.2.2.1 x.toNat hx) hd
      rw [hS.2.2.1 x.toNat hx, e, show ((x.toNat : Nat) : Int) = x by omega]
      by_cases h2 : ρ 32 x.toNat = 0
      · rw [if_pos h2, if_pos h2]; exact ih
      · rw [if_neg h2, if_neg h2]
        by_cases h3 : f_X10_isJust ρ x (q : Int) = 0
        · rw [if_pos h3, if_pos h3]; exact ih
        · rw [if_neg h3, if_neg h3]; exact ⟨rfl, rfl⟩
theorem look_sim {τ ρ : Sg} (hW : WF τ) {c r : Nat} (hc : isPl c) (h : PE τ ρ c r) (b : Int) : f_X10_lookAt ρ (r : Int) b = if b < 10 then -1 else f_X2_byteAt τ c (b - 10) := by
  have bl := bd_Pl_2 hW hc
  unfold f_X10_lookAt f_X2_byteAt
  by_cases h1 : b < 10
  · rw [if_pos h1, if_pos h1]
  · rw [if_neg h1, if_neg h1, if_neg (show ¬ b - 10 < 0 by omega), Int.toNat_natCast, ← h.2.1]
    by_cases h2 : τ c 2 ≤ b - 10
    · rw [if_pos h2, if_pos (by omega)]
    · rw [if_neg h2, if_neg (by omega), if_neg (show ¬ 12 ≤ b - 10 by omega), h.2.2 (b - 10).toNat (by omega), show (12 * (r : Int) + b - 10).toNat = 12 * r + (b - 10).toNat by omega]
theorem s_linkOf {τ ρ : Sg} (h : Sim τ ρ) (hW : WF τ) (a b : Int) : f_X9_linkOf τ a b = (f_X10_linkOf ρ a b).1 ∧ (f_X10_linkOf ρ a b).2 = up2 ρ 28 0 0 := by
  have ht := Sim.thr h hW 0
  have b7 := bd_7_1 hW
  obtain ⟨l1, l2⟩ := ht.2.2.1
  have l1' : τ 7 1 = ρ 28 7 := h.2.2.1.1
  unfold f_X9_linkOf f_X10_linkOf f_X1_has f_X1_get
  by_cases h1 : a < 0
  · simp [h1]
  · by_cases h2 : τ 7 1 ≤ a
    · simp [h1, h2, show ¬ a < ρ 28 7 by omega]
    · have pe := l2 a.toNat (by omega)
      have pe' := h.2.2.1.2 a.toNat (by omega)
      have e40 : ((40 + a.toNat : Nat) : Int) = 40 + a := by omega
      have f1 := findJust_sim ht.2.1 hW pe a b 41 0 (by omega)
      have f2 := look_sim hW (by omega) pe b
      rw [e40] at f1 f2
      rw [if_neg h1, if_pos (show a < ρ 28 7 by omega), if_neg h1, if_neg h2, if_neg (show ¬ (1 : Int) = 0 by decide), f2, pe'.1, pe'.2.1, show (40 + a).toNat = 40 + a.toNat by omega]
      by_cases c0 : b = 0
      · rw [if_pos c0, if_pos c0]; exact ⟨rfl, rfl⟩
      · rw [if_neg c0, if_neg c0]
        by_cases c1 : b = 1
        · rw [if_pos c1, if_neg (show ¬ b = 2 by omega), if_pos c1]
          exact f1
        · rw [if_neg c1]
          by_cases c2 : b = 2
          · rw [if_pos c2, if_pos c2]; exact ⟨rfl, rfl⟩
          · rw [if_neg c2, if_neg c2, if_neg c1]
            exact ⟨rfl, rfl⟩
theorem spared_sim {τ ρ : Sg} (hS : SimS τ ρ) (hV : Inv τ) (hW : WF τ) : ∀ (n : Nat) (k x : Int), 0 ≤ x → L_X7_howManySpare_4 τ n k x = L_X10_spared_4 ρ n k x
  | 0, k, x, h0 => rfl
  | n + 1, k, x, h0 => by
    have b1 := bd_3_3 hW
    have ih := fun k => spared_sim hS hV hW n k (x + 1) (by omega)
    rw [L_X7_howManySpare_4, L_X10_spared_4, hS.1]
    by_cases h1 : ρ 28 5 ≤ x
    · rw [if_pos h1, if_pos h1]
    · rw [if_neg h1, if_neg h1]
      have hx : ((x.toNat : Nat) : Int) < τ 3 3 := by rw [hS.1]; omega
      rw [ih, ih, hS.2.2.1 x.toNat hx]
      by_cases h2 : ρ 32 x.toNat = 0
      · rw [if_pos h2, if_pos h2]
      · rw [if_neg h2, if_neg h2]
        have hl : 1 ≤ τ (59 + 2 * x.toNat) 2 := by
          rcases hV.1 x.toNat hx (by rw [hS.2.2.1 x.toNat hx]; exact h2) with w | w
          · exact w.1
          · have := w.1.2
            omega
        have e : f_X2_isSpare τ (59 + 2 * x.toNat) = if ρ 29 (12 * x).toNat = 126 then 1 else 0 := by
          unfold f_X2_isSpare
          rw [byteAt_in (by omega) (by omega) (bd_Pl_2 hW (by omega)).2, (hS.2.2.2.1 x.toNat hx).2.2 (0 : Int).toNat (by show ((0 : Nat) : Int) < _; omega), show (12 * x).toNat = 12 * x.toNat + (0 : Int).toNat by show _ = 12 * x.toNat + 0; omega]
        rw [e]
        by_cases h3 : ρ 29 (12 * x).toNat = 126
        · rw [if_pos h3, if_pos h3, if_neg (by decide)]
        · rw [if_neg h3, if_neg h3, if_pos rfl]
theorem s_count {τ ρ : Sg} (h : Sim τ ρ) (hV : Inv τ) (hW : WF τ) (hM : WF ρ) (a : Int) : f_X9_count τ a = (f_X10_count ρ a).1 ∧ (f_X10_count ρ a).2 = up2 ρ 28 0 0 := by
  have ht := Sim.thr h hW 0
  have hM' : WF (up2 ρ 28 0 0) := WF_up hM (bw_28_0 (by omega))
  have e1 := there_eq ht.2.1 hM'
  have e2 : f_X7_howManySpare τ = f_X10_spared (up2 ρ 28 0 0) := spared_sim ht.2.1 hV hW 41 0 0 (by omega)
  obtain ⟨p1, p2, p3, p4, p5, p6, p7, p8, p9, p10⟩ := h.2.2.2.2
  have e3 : f_X10_troubles (up2 ρ 28 0 0) = f_X10_troubles ρ := troubles_eq (up2_slot _ _ (by decide)) (up2_slot _ _ (by decide)) (up2_cell _ _ _ (by decide))
  have e4 : f_X10_isUnderWay (up2 ρ 28 0 0) = f_X3_isUnderWay τ := by
    unfold f_X10_isUnderWay f_X3_isUnderWay
    rw [up2_slot _ _ (by decide), up2_slot _ _ (by decide), up2_slot _ _ (by decide), ← p1, ← p3, ← p4]
    by_cases z : τ 13 4 = 0
    · rw [if_pos z, if_pos (by have := p9 z; omega)]
    · rw [if_neg z]
  unfold f_X9_count f_X10_count
  rw [e1, e3, e4, ← p6, ← e2]
  unfold f_X7_howManyCame f_X7_howManyAre f_X7_isFolding f_X8_length f_X3_size f_X3_troubles f_X3_done f_X1_size
  rw [← h.1.1, ← h.2.1.1, ← h.2.1.2.1, ← h.2.2.1.1, ← p1, ← p2, ← p4]
  repeat' split
  all_goals first | exact ⟨rfl, rfl⟩ | exact ⟨by have := p9 (by assumption); dsimp only; omega, rfl⟩
/-- what the reference's 'of' says -/
theorem s_of {τ ρ : Sg} (h : Sim τ ρ) (hV : Inv τ) (hW : WF τ) (a b : Int) :
    ((f_X7_has τ a = 0 ∨ (¬ (b = 0 ∨ b = 1 ∨ b = 2) ∧ (b < 10 ∨ τ (59 + 2 * a.toNat) 2 ≤ b - 10))) → f_X10_of ρ a b = (0, up2 (up2 ρ 28 0 0) 28 0 1)) ∧
    (¬ (f_X7_has τ a = 0 ∨ (¬ (b = 0 ∨ b = 1 ∨ b = 2) ∧ (b < 10 ∨ τ (59 + 2 * a.toNat) 2 ≤ b - 10))) → f_X10_of ρ a b = ((if b = 0 then τ (59 + 2 * a.toNat) 1 else if b = 1 then τ (59 + 2 * a.toNat) 2 else if b = 2 then (if f_X2_isSpare τ (59 + 2 * a.toNat) = 0 then 0 else 1) else f_X2_byteAt τ (59 + 2 * a.toNat) (b - 10)), up2 ρ 28 0 0)) := by
  have ht := Sim.thr h hW 0
  have b3 := bd_3_3 hW
  have e1 := has_sim ht.2.1 hW a
  unfold f_X10_of
  rw [← e1]
  by_cases h1 : f_X7_has τ a = 0
  · rw [if_pos h1]
    exact ⟨fun _ => rfl, fun z => absurd (Or.inl h1) z⟩
  · rw [if_neg h1]
    have hr : 0 ≤ a ∧ a < τ 3 3 ∧ ¬ τ 5 a.toNat = 0 := by
      unfold f_X7_has at h1
      repeat' split at h1
      all_goals first | exact absurd rfl h1 | omega
    have pe := h.2.1.2.2.2.1 a.toNat (by omega)
    have pe2 := ht.2.1.2.2.2.1 a.toNat (by omega)
    have lk := look_sim hW (by omega) pe2 b
    rw [show ((a.toNat : Nat) : Int) = a by omega] at lk
    have bl := bd_Pl_2 hW (c := 59 + 2 * a.toNat) (by omega)
    have hl : 1 ≤ τ (59 + 2 * a.toNat) 2 := by
      rcases hV.1 a.toNat (by omega) hr.2.2 with w | w
      · exact w.1
      · have := w.1.2
        omega
    have e : f_X2_isSpare τ (59 + 2 * a.toNat) = if ρ 29 (12 * a).toNat = 126 then 1 else 0 := by
      unfold f_X2_isSpare
      rw [byteAt_in (by omega) (by omega) bl.2, pe.2.2 (0 : Int).toNat (by show ((0 : Nat) : Int) < _; omega), show (12 * a).toNat = 12 * a.toNat + (0 : Int).toNat by show _ = 12 * a.toNat + 0; omega]
    have hw : f_X10_within b 0 2 = 0 ↔ ¬ (b = 0 ∨ b = 1 ∨ b = 2) := by
      unfold f_X10_within
      repeat' split
      all_goals omega
    rw [lk, e, pe.1, pe.2.1]
    by_cases c0 : f_X10_within b 0 2 = 0
    · have c1 := hw.mp c0
      rw [if_pos c0]
      by_cases c2 : b < 10
      · rw [if_pos c2]
        exact ⟨fun _ => rfl, fun z => absurd (Or.inr ⟨c1, Or.inl c2⟩) z⟩
      · rw [if_neg c2]
        by_cases c3 : 10 + ρ 30 a.toNat ≤ b
        · rw [if_pos c3]
          exact ⟨fun _ => rfl, fun z => absurd (Or.inr ⟨c1, Or.inr (by omega)⟩) z⟩
        · rw [if_neg c3]
          refine ⟨fun z => ?_, fun _ => ?_⟩
          · rcases z with z | z
            · exact absurd z h1
            · omega
          · rw [if_neg (show ¬ b = 0 by omega), if_neg (show ¬ b = 1 by omega), if_neg (show ¬ b = 2 by omega), if_neg (show ¬ b = 0 by omega), if_neg (show ¬ b = 1 by omega), if_neg (show ¬ b = 2 by omega), if_neg c2]
    · rw [if_neg c0]
      have c1 : b = 0 ∨ b = 1 ∨ b = 2 := by
        rcases Classical.em (b = 0 ∨ b = 1 ∨ b = 2) with w | w
        · exact w
        · exact absurd (hw.mpr w) c0
      refine ⟨fun z => ?_, fun _ => ?_⟩
      · rcases z with z | z
        · exact absurd z h1
        · exact absurd c1 z.1
      · by_cases d0 : b = 0
        · rw [if_pos d0, if_pos d0]
        · rw [if_neg d0, if_neg d0]
          by_cases d1 : b = 1
          · rw [if_pos d1, if_pos d1]
          · have d2 : b = 2 := by omega
            rw [if_neg d1, if_neg d1, if_pos d2, if_pos d2]
            by_cases w : ρ 29 (12 * a).toNat = 126
            · rw [if_pos w, if_pos w, if_neg (by decide)]
            · rw [if_neg w, if_neg w, if_pos rfl]
