/-! go and back. -/
theorem L_lays_row (a0 a1 : Int) {s : Nat} : ∀ (n : Nat) (x : Int) (σ : Sg), 0 ≤ x → 12 - x < (n : Int) → σ 52 s ≤ 12 → x ≤ 12 →
    (∀ i : Nat, (i : Int) < x → (L_X10_lays_35 a0 a1 n (s : Int) x σ) 29 (840 + i) = σ 29 (840 + i)) ∧ (∀ i : Nat, x ≤ (i : Int) → (i : Int) < σ 52 s → (L_X10_lays_35 a0 a1 n (s : Int) x σ) 29 (840 + i) = σ 51 (12 * s + i)) ∧ ∀ j : Nat, (j < 840 ∨ 852 ≤ j) → (L_X10_lays_35 a0 a1 n (s : Int) x σ) 29 j = σ 29 j
  | 0, x, σ, h0, h1, h2, h3 => by omega
  | n + 1, x, σ, h0, h1, h2, h3 => by
    rw [L_X10_lays_35, Int.toNat_natCast]
    by_cases hl : σ 52 s ≤ x
    · rw [if_pos hl]
      exact ⟨fun _ _ => rfl, fun i a b => by omega, fun _ _ => rfl⟩
    · rw [if_neg hl, show (840 + x).toNat = 840 + x.toNat by omega, show (12 * (s : Int) + x).toNat = 12 * s + x.toNat by omega]
      obtain ⟨a1, a2, a3⟩ := L_lays_row a0 a1 (s := s) n (x + 1) (up2 σ 29 (840 + x.toNat) (σ 51 (12 * s + x.toNat))) (by omega) (by omega) (by rw [up2_cell _ _ _ (by decide)]; exact h2) (by omega)
      rw [up2_cell _ _ _ (show (52 : Nat) ≠ 29 by decide), up2_cell _ _ _ (show (51 : Nat) ≠ 29 by decide)] at a2
      have k : ∀ j, (up2 σ 29 (840 + x.toNat) (σ 51 (12 * s + x.toNat))) 29 j = if j = 840 + x.toNat then σ 51 (12 * s + x.toNat) else σ 29 j := fun j => by rw [up2_row]
      refine ⟨fun i hi => ?_, fun i hi hj => ?_, fun j hj => ?_⟩
      · rw [a1 i (by omega), k, if_neg (by omega)]
      · by_cases q : (i : Int) = x
        · rw [a1 i (by omega), k, if_pos (by omega)]
          congr 1
          omega
        · exact a2 i (by omega) hj
      · rw [a3 j hj, k, if_neg (by omega)]
/-- laying a step's end into the row HERE -/
theorem lays_sim {τ ρ : Sg} {c : Nat} {i e : Int} (hi : 0 ≤ i) (he : e = 0 ∨ e = 1) {s : Nat} (hs : (s : Int) = 2 * i + e) (h : PS τ ρ c s) (hl : lenOK τ c) :
    PE τ (f_X10_lays ρ i e) c 70 ∧ (∀ r : Nat, r ≠ 70 → RowS ρ (f_X10_lays ρ i e) r) ∧ ∀ x, x ≠ 29 → x ≠ 30 → x ≠ 31 → (f_X10_lays ρ i e) x = ρ x := by
  have fr : ∀ x, x ≠ 29 → x ≠ 30 → x ≠ 31 → (f_X10_lays ρ i e) x = ρ x := fun x a b c => lays_fr ρ i e a b c
  obtain ⟨p1, p2, p3⟩ := h
  obtain ⟨l1, l2⟩ := hl
  have et : (2 * i + e).toNat = s := by omega
  unfold f_X10_lays at fr ⊢
  rw [et] at fr ⊢
  rw [← hs] at fr ⊢
  have c52 : (up2 (up2 ρ 31 70 (ρ 53 s)) 30 70 (ρ 52 s)) 52 = ρ 52 := by rw [up2_cell _ _ _ (by decide), up2_cell _ _ _ (by decide)]
  have c51 : (up2 (up2 ρ 31 70 (ρ 53 s)) 30 70 (ρ 52 s)) 51 = ρ 51 := by rw [up2_cell _ _ _ (by decide), up2_cell _ _ _ (by decide)]
  have c29 : (up2 (up2 ρ 31 70 (ρ 53 s)) 30 70 (ρ 52 s)) 29 = ρ 29 := by rw [up2_cell _ _ _ (by decide), up2_cell _ _ _ (by decide)]
  obtain ⟨-, a2, a3⟩ := L_lays_row i e (s := s) 13 0 (up2 (up2 ρ 31 70 (ρ 53 s)) 30 70 (ρ 52 s)) (by omega) (by omega) (by rw [c52, ← p2]; exact l2) (by omega)
  rw [c52, c51] at a2
  rw [c29] at a3
  have k31 : (L_X10_lays_35 i e 13 (s : Int) 0 (up2 (up2 ρ 31 70 (ρ 53 s)) 30 70 (ρ 52 s))) 31 = (up2 ρ 31 70 (ρ 53 s)) 31 := by rw [L_lays_fr i e (by decide), up2_cell _ _ _ (by decide)]
  have k30 : (L_X10_lays_35 i e 13 (s : Int) 0 (up2 (up2 ρ 31 70 (ρ 53 s)) 30 70 (ρ 52 s))) 30 = (up2 (up2 ρ 31 70 (ρ 53 s)) 30 70 (ρ 52 s)) 30 := by rw [L_lays_fr i e (by decide)]
  refine ⟨⟨?_, ?_, fun j hj => ?_⟩, fun r hr => ⟨?_, ?_, fun j hj => ?_⟩, fr⟩
  · rw [k31, up2_same]; exact p1
  · rw [k30, up2_same]; exact p2
  · rw [show 12 * 70 + j = 840 + j by omega, a2 j (by omega) (by rw [← p2]; exact hj)]
    exact p3 j hj
  · rw [k31, up2_slot _ _ hr]
  · rw [k30, up2_slot _ _ hr, up2_cell _ _ _ (by decide)]
  · exact a3 _ (by omega)
theorem Sim.r70 {τ ρ ρ' : Sg} (h : Sim τ ρ) (hW : WF τ) (gc : ∀ x, x ≠ 29 → x ≠ 30 → x ≠ 31 → ρ' x = ρ x) (hr : ∀ r : Nat, (r < 70 ∨ (80 ≤ r ∧ r < 120)) → RowS ρ ρ' r) : Sim τ ρ' := by
  have g28 := gc 28 (by decide) (by decide) (by decide)
  exact ⟨h.1.mv rfl rfl (by rw [g28]) (gc 33 (by decide) (by decide) (by decide)), h.2.1.mv hW rfl rfl (fun _ _ _ => rfl) (by rw [g28]) (by rw [g28]) (gc 32 (by decide) (by decide) (by decide)) (fun r u => hr r (by omega)), h.2.2.1.mv hW rfl (fun _ _ _ => rfl) (by rw [g28]) (fun r u v => hr r (by omega)),
    h.2.2.2.1.mv rfl rfl rfl rfl (fun _ _ _ => rfl) (by rw [g28]) (by rw [g28]) (by rw [g28]) (gc 34 (by decide) (by decide) (by decide)) (gc 35 (by decide) (by decide) (by decide)) (gc 36 (by decide) (by decide) (by decide)),
    h.2.2.2.2.mv hW rfl rfl rfl rfl rfl (fun _ _ => rfl) (by rw [g28]) (by rw [g28]) (by rw [g28]) (by rw [g28]) (by rw [g28]) (by rw [g28]; omega) (fun x a b => gc x (by omega) (by omega) (by omega)) (fun r u v => hr r (by omega))⟩
/-- the marks 'stuck' and 'done' move together -/
theorem Sim.dn {τ ρ : Sg} (h : Sim τ ρ) (hW : WF τ) (s d : Int) (hm : ¬ τ 13 4 = 0) (hd : d ≤ τ 13 7) : Sim (up2 (up2 τ 0 10 s) 13 8 d) (up2 (up2 ρ 28 35 s) 28 34 d) := by
  have hc : ∀ x, x ≠ 0 → x ≠ 13 → (up2 (up2 τ 0 10 s) 13 8 d) x = τ x := fun x a b => by rw [up2_cell _ _ _ b, up2_cell _ _ _ a]
  have h0 : ∀ k, k ≠ 10 → (up2 (up2 τ 0 10 s) 13 8 d) 0 k = τ 0 k := fun k hk => by rw [up2_cell _ _ _ (by decide), up2_slot _ _ hk]
  have h13 : ∀ k, k ≠ 8 → (up2 (up2 τ 0 10 s) 13 8 d) 13 k = τ 13 k := fun k hk => by rw [up2_slot _ _ hk, up2_cell _ _ _ (by decide)]
  have gc : ∀ x, x ≠ 28 → (up2 (up2 ρ 28 35 s) 28 34 d) x = ρ x := fun x a => by rw [up2_cell _ _ _ a, up2_cell _ _ _ a]
  have gs : ∀ k, k ≠ 34 → k ≠ 35 → (up2 (up2 ρ 28 35 s) 28 34 d) 28 k = ρ 28 k := fun k a b => by rw [up2_slot _ _ a, up2_slot _ _ b]
  have hr : ∀ r, RowS ρ (up2 (up2 ρ 28 35 s) 28 34 d) r := fun r => RowS.of (gc 29 (by decide)) (gc 30 (by decide)) (gc 31 (by decide)) r
  have g10 : (up2 (up2 τ 0 10 s) 13 8 d) 0 10 = s := by rw [up2_cell _ _ _ (by decide), up2_same]
  have g35 : (up2 (up2 ρ 28 35 s) 28 34 d) 28 35 = s := by rw [up2_slot _ _ (by decide), up2_same]
  have g8 : (up2 (up2 τ 0 10 s) 13 8 d) 13 8 = d := up2_same _ _ _ _
  have g34 : (up2 (up2 ρ 28 35 s) 28 34 d) 28 34 = d := up2_same _ _ _ _
  generalize (up2 (up2 τ 0 10 s) 13 8 d) = τ' at hc h0 h13 g10 g8 ⊢
  generalize (up2 (up2 ρ 28 35 s) 28 34 d) = ρ' at gc gs hr g35 g34 ⊢
  obtain ⟨t1, t2, t3, t4, t5⟩ := h
  have b5 := bd_13_5 hW
  refine ⟨t1.mv (hc 1 (by decide) (by decide)) (hc 2 (by decide) (by decide)) (gs 9 (by decide) (by decide)) (gc 33 (by decide)), t2.mv hW (hc 3 (by decide) (by decide)) (hc 5 (by decide) (by decide)) (fun c u v => hc c (by omega) (by omega)) (gs 5 (by decide) (by decide)) (gs 4 (by decide) (by decide)) (gc 32 (by decide)) (fun r _ => hr r),
    t3.mv hW (hc 7 (by decide) (by decide)) (fun c u v => hc c (by omega) (by omega)) (gs 7 (by decide) (by decide)) (fun r _ _ => hr r),
    t4.mv (h0 6 (by decide)) (h0 7 (by decide)) (h0 8 (by decide)) (h0 9 (by decide)) (fun c u v => hc c (by omega) (by omega)) (gs 10 (by decide) (by decide)) (gs 11 (by decide) (by decide)) (gs 20 (by decide) (by decide)) (gc 34 (by decide)) (gc 35 (by decide)) (gc 36 (by decide)), ?_⟩
  obtain ⟨p1, p2, p3, p4, p5, p6, p7, p8, p9, p10⟩ := t5
  refine ⟨by rw [h13 4 (by decide), gs 25 (by decide) (by decide)]; exact p1, by rw [h13 5 (by decide), gs 26 (by decide) (by decide)]; exact p2, by rw [h13 7 (by decide), gs 33 (by decide) (by decide)]; exact p3, by rw [g8, g34], by rw [g10, g35], ?_, fun k hk => ?_, fun i hi => ?_, fun z => ?_, by rw [g8, h13 7 (by decide)]; exact hd⟩
  · rw [h13 6 (by decide), troubles_eq (gs 25 (by decide) (by decide)) (gs 26 (by decide) (by decide)) (gc 45 (by decide))]; exact p6
  · rw [h13 5 (by decide)] at hk
    obtain ⟨a1, a2, a3, a4, a5, a6, a7⟩ := p7 k hk
    unfold PdE
    rw [hc (439 + k) (by omega) (by omega), gc 42 (by omega), gc 43 (by omega), gc 44 (by omega), gc 47 (by omega), gc 45 (by omega), gc 46 (by omega)]
    exact ⟨a1, a2, a3, a4, a5, a6, a7.mv (bd_Pl_2 hW (by omega)).2 ⟨hc _ (by omega) (by omega), hc _ (by omega) (by omega)⟩ (hr _)⟩
  · rw [h13 7 (by decide)] at hi
    obtain ⟨a1, a2, a3, a4, a5, a6, a7⟩ := p8 i hi
    have h15 := hc 15 (by decide) (by decide)
    have h16 := hc 16 (by decide) (by decide)
    have h17 := hc 17 (by decide) (by decide)
    have es : f_X3_startOfStep τ' (i : Int) = f_X3_startOfStep τ (i : Int) := by rw [start_eq, start_eq, h17, h15]
    have eg : f_X3_goalOfStep τ' (i : Int) = f_X3_goalOfStep τ (i : Int) := by rw [goal_eq, goal_eq, h16, h15]
    have q1 := start_pl hW i
    have q2 := goal_pl hW i
    unfold StE
    rw [es, eg, h15, h16, h17, hc (439 + (τ 15 i).toNat) (by omega) (by omega), gc 48 (by omega), gc 49 (by omega), gc 50 (by omega), gs 5 (by decide) (by decide)]
    exact ⟨a1, a2, a3, a4, a5, a6.mv (hc _ (by omega) (by omega)) (hc _ (by omega) (by omega)) (gc 51 (by omega)) (gc 52 (by omega)) (gc 53 (by omega)), a7.mv (hc _ (by omega) (by omega)) (hc _ (by omega) (by omega)) (gc 51 (by omega)) (gc 52 (by omega)) (gc 53 (by omega))⟩
  · rw [h13 4 (by decide)] at z
    exact absurd z hm
/-- one step, forth (e = 0) or back (e = 1) -/
theorem do_sim {τ ρ : Sg} (h : Sim τ ρ) (hV : Inv τ) (hW : WF τ) {i : Nat} (hi : (i : Int) < τ 13 7) {e : Int} (he : e = 0 ∨ e = 1) (hd : τ 13 8 = (i : Int) + e) {qf qt : Nat}
    (hqf : qf = if e = 0 then f_X3_startOfStep τ (i : Int) else f_X3_goalOfStep τ (i : Int)) (hqt : qt = if e = 0 then f_X3_goalOfStep τ (i : Int) else f_X3_startOfStep τ (i : Int)) :
    (f_X9_tryMove τ (f_X3_fileOfStep τ (i : Int)) qf qt).1 = (f_X10_does ρ (i : Int) e).1 ∧ Sim (f_X9_tryMove τ (f_X3_fileOfStep τ (i : Int)) qf qt).2 (f_X10_does ρ (i : Int) e).2 ∧ (¬ (f_X9_tryMove τ (f_X3_fileOfStep τ (i : Int)) qf qt).1 = 0 → (f_X9_tryMove τ (f_X3_fileOfStep τ (i : Int)) qf qt).2 = τ) ∧
    ((f_X9_tryMove τ (f_X3_fileOfStep τ (i : Int)) qf qt).1 = 0 → WF (f_X9_tryMove τ (f_X3_fileOfStep τ (i : Int)) qf qt).2 ∧ Inv (f_X3_setDone (up2 (f_X9_tryMove τ (f_X3_fileOfStep τ (i : Int)) qf qt).2 0 10 0) ((i : Int) + 1 - e))) := by
  have b3 := bd_3_3 hW
  have b7 := bd_13_7 hW
  have p1 := start_pl hW i
  have p2 := goal_pl hW i
  obtain ⟨a1, a2, a3, a4, a5, a6, a7⟩ := h.2.2.2.2.2.2.2.2.2.2.2.1 i hi
  have hF : f_X3_fileOfStep τ (i : Int) = ρ 48 i := by
    unfold f_X3_fileOfStep
    rw [Int.toNat_natCast]
    exact a1
  have hfo : fo τ i = ρ 48 i := a1
  rw [hF]
  have hq1 : 199 ≤ qf ∧ qf < 439 ∧ qf % 2 = 1 := by rw [hqf]; split <;> assumption
  have hq2 : 199 ≤ qt ∧ qt < 439 ∧ qt % 2 = 1 := by rw [hqt]; split <;> assumption
  have l1 := bd_Pl_2 hW (c := qf) (by omega)
  have l2 := bd_Pl_2 hW (c := qt) (by omega)
  have s1 : PS τ ρ qf (2 * i + e.toNat) := by
    rw [hqf]
    rcases he with rfl | rfl
    · rw [if_pos rfl]; exact a6
    · rw [if_neg (by decide)]; exact a7
  have s2 : PS τ ρ qt (2 * i + (1 - e).toNat) := by
    rw [hqt]
    rcases he with rfl | rfl
    · rw [if_pos rfl]; exact a7
    · rw [if_neg (by decide)]; exact a6
  generalize hf : ρ 48 i = f at a4 a5 hfo ⊢
  have l28 := h.2.1.1
  have ex := h.2.1.2.2.1 f.toNat (by omega)
  have hh : f_X7_has τ f = if ρ 32 f.toNat = 0 then 0 else 1 := by
    unfold f_X7_has
    rw [if_neg (by omega), if_neg (by omega), if_neg (by omega), ex]
  unfold f_X9_tryMove f_X10_does
  rw [Int.toNat_natCast, hf, hh]
  by_cases c1 : ρ 32 f.toNat = 0
  · rw [if_pos c1, if_pos rfl, if_pos c1]
    exact ⟨rfl, h, fun _ => rfl, fun z => absurd z (by dsimp only; decide)⟩
  · rw [if_neg c1, if_neg (show ¬ (1 : Int) = 0 by decide), if_neg c1]
    obtain ⟨y1, y2, y3⟩ := lays_sim (i := (i : Int)) (by omega) he (by omega) s1 l1
    have h1 := h.r70 hW y3 (fun r hr => y2 r (by omega))
    have e51 : PS τ (f_X10_lays ρ (i : Int) e) qt (2 * i + (1 - e).toNat) := s2.mv rfl rfl (y3 51 (by decide) (by decide) (by decide)) (y3 52 (by decide) (by decide) (by decide)) (y3 53 (by decide) (by decide) (by decide))
    obtain ⟨z1, z2, z3⟩ := lays_sim (e := 1 - e) (i := (i : Int)) (by omega) (by omega) (by omega) e51 l2
    have h2 := h1.r70 hW z3 (fun r hr => z2 r (by omega))
    generalize f_X10_lays ρ (i : Int) e = P1 at y1 y2 y3 h1 e51 z1 z2 z3 h2 ⊢
    generalize f_X10_lays P1 (i : Int) (1 - e) = P2 at z1 z2 z3 h2 ⊢
    have ef : ((f.toNat : Nat) : Int) = f := by omega
    have hj := PE_just (bd_Pl_2 hW (c := 59 + 2 * f.toNat) (by omega)).2 (h1.2.1.2.2.2.1 f.toNat (by omega)) y1
    rw [ef, show ((70 : Nat) : Int) = 70 by decide] at hj
    rw [placeOf_eq, hj]
    by_cases c2 : f_X10_isJust P1 f 70 = 0
    · rw [if_pos c2, if_pos c2]
      exact ⟨rfl, h1, fun _ => rfl, fun z => absurd z (by dsimp only; decide)⟩
    · rw [if_neg c2, if_neg c2]
      have fa := findAlike_sim h2.2.1 hW z1 f
      rw [show ((70 : Nat) : Int) = 70 by decide] at fa
      rw [← fa]
      by_cases c3 : f_X7_findAlike τ qt f = -1
      · rw [if_pos c3, if_pos c3]
        obtain ⟨m1, m2, m3, m4, m5⟩ := move_sim h2.2.1 h2.2.2.1 hW ⟨a4, by omega⟩ (show 70 ≤ 70 by omega) (Or.inr hq2) z1
        refine ⟨rfl, move_Sim h2 hW ⟨a4, by omega⟩ (show 70 ≤ 70 by omega) (Or.inr hq2) z1, fun z => absurd rfl z, fun _ => ⟨WF_move hW (by omega) (by omega), ?_⟩⟩
        dsimp only
        unfold f_X3_setDone
        have k : ∀ y, y ≠ 0 → y ≠ 13 → (up2 (up2 (f_X9_move τ f qt) 0 10 0) 13 8 ((i : Int) + 1 - e)) y = (f_X9_move τ f qt) y := fun y u v => by rw [up2_cell _ _ _ v, up2_cell _ _ _ u]
        have k8 : (up2 (up2 (f_X9_move τ f qt) 0 10 0) 13 8 ((i : Int) + 1 - e)) 13 8 = (i : Int) + 1 - e := up2_same _ _ _ _
        have k13 : ∀ j, j ≠ 8 → (up2 (up2 (f_X9_move τ f qt) 0 10 0) 13 8 ((i : Int) + 1 - e)) 13 j = τ 13 j := fun j hj => by rw [up2_slot _ _ hj, up2_cell _ _ _ (by decide), m3 13 (by omega) (by omega) (by omega)]
        generalize (up2 (up2 (f_X9_move τ f qt) 0 10 0) 13 8 ((i : Int) + 1 - e)) = T' at k k8 k13 ⊢
        have kf : ∀ y, (y < 139 ∨ 199 ≤ y) → y ≠ 59 + 2 * f.toNat → y ≠ 59 + 2 * f.toNat + 1 → y ≠ 0 → y ≠ 13 → T' y = τ y := fun y u v w u0 u13 => by rw [k y u0 u13, m3 y u v w]
        have k15 := kf 15 (by omega) (by omega) (by omega) (by omega) (by omega)
        have k16 := kf 16 (by omega) (by omega) (by omega) (by omega) (by omega)
        have k17 := kf 17 (by omega) (by omega) (by omega) (by omega) (by omega)
        have kc : ∀ c, 199 ≤ c → T' c = τ c := fun c u => kf c (by omega) (by omega) (by omega) (by omega) (by omega)
        have kfo : ∀ j, fo T' j = fo τ j := fun j => fo_eq k15 kc j
        refine move_Inv hV hW ⟨a4, by omega⟩ (by rw [ex]; exact c1) kf k13 ?_ c3 (fun g hg z => ?_) ?_
        · unfold Cp
          rw [k _ (by omega) (by omega), k (59 + 2 * f.toNat + 1) (by omega) (by omega)]
          exact m5
        · obtain ⟨i', j', w1, w2, w3, w4, w5, w6, w7⟩ := z
          refine ⟨i', j', ?_, ?_, by rw [k13 7 (by decide)]; exact w3, by rw [kfo]; exact w4, by rw [kfo]; exact w5, by rw [k16]; exact w6, by rw [k17]; exact w7⟩
          · rw [k8]
            rcases he with rfl | rfl
            · omega
            · have : i' ≠ i := fun q => by rw [q, hfo] at w4; omega
              omega
          · rw [k8]
            rcases he with rfl | rfl
            · have : j' ≠ i := fun q => by rw [q, hfo] at w5; omega
              omega
            · omega
        · obtain ⟨o1, o2, o3, o4, o5, o6, o7⟩ := hV.2.2 i hi
          rcases he with rfl | rfl
          · rw [if_pos rfl] at hqt
            rw [hqt]
            by_cases w : τ 16 i = 0
            · exact Or.inl (o3 w)
            · refine Or.inr ⟨by have := o4 w; rw [hfo] at this; exact this, ?_⟩
              obtain ⟨j, j1, j2, j3, j4⟩ := o6 w
              exact ⟨i, j, by rw [k8]; omega, by rw [k8]; omega, by rw [k13 7 (by decide)]; exact j2, by rw [kfo, hfo]; omega, by rw [kfo, j3, hfo]; omega, by rw [k16]; exact w, by rw [k17]; exact j4⟩
          · rw [if_neg (show ¬ (1 : Int) = 0 by decide)] at hqt
            rw [hqt]
            by_cases w : τ 17 i = 0
            · exact Or.inl (o1 w)
            · refine Or.inr ⟨by have := o2 w; rw [hfo] at this; exact this, ?_⟩
              obtain ⟨j, j1, j3, j4⟩ := o7 w
              exact ⟨j, i, by rw [k8]; omega, by rw [k8]; omega, by rw [k13 7 (by decide)]; exact hi, by rw [kfo, j3, hfo]; omega, by rw [kfo, hfo]; omega, by rw [k16]; exact j4, by rw [k17]; exact w⟩
      · rw [if_neg c3, if_neg c3]
        exact ⟨rfl, h2, fun _ => rfl, fun z => absurd z (by dsimp only; decide)⟩
