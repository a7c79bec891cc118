/-! rule: the call. -/
theorem ItE.mv {τ τ' ρ ρ' : Sg} {R : Nat} (h : ItE τ ρ R) (h1 : SI τ τ' R) (h2 : SIM ρ ρ') : ItE τ' ρ' R := by
  unfold ItE
  rw [h1.1, h1.2.1, h1.2.2.1, h1.2.2.2, h2.1, h2.2]
  exact h
theorem ItE.wl {τ ρ : Sg} {R : Nat} (h : ItE τ ρ R) : f_X10_wilds ρ (ρ 28 15) = τ R 5 := by
  obtain ⟨i1, i2, i3, i4, i5⟩ := h
  unfold f_X10_wilds
  rw [wilds_eq ρ (ρ 28 15) (by omega) 13 0 0 (by omega) (by omega) (by omega) rfl, i4, i1]
  exact wc_congr (fun i hi => (i3 i (by omega)).1.symm)
def rst (τ : Sg) (R : Nat) : Sg := up2 (up2 (up2 (up2 τ R 4 0) R 5 0) R 6 0) R 7 (-1)
def rstM (ρ : Sg) : Sg := up2 (up2 (up2 (up2 ρ 28 0 0) 28 21 0) 28 16 0) 28 15 0
def rdM (ρ : Sg) : Sg := L_X10_rule_20 103 ((L_X10_readItems_7 83 0 (rstM ρ)).1 + 1) (L_X10_readItems_7 83 0 (rstM ρ)).2
theorem readX_eq (τ : Sg) (R : Nat) : f_X5_read τ R = if (L_X5_readItems_2 R 81 0 (rst τ R)).1 = 0 then L_X5_readParts_2 R ((L_X5_readItems_2 R 81 0 (rst τ R)).2 R 4 + 1) 101 ((L_X5_readItems_2 R 81 0 (rst τ R)).2 R 4 + 1) (L_X5_readItems_2 R 81 0 (rst τ R)).2 else L_X5_readItems_2 R 81 0 (rst τ R) := by
  unfold f_X5_read f_X5_readItems f_X5_readParts
  unfold rst
  split <;> rfl
theorem read_sim {τ ρ : Sg} {R : Nat} (hR : isRu R) (hT : TOK τ ρ) : FrX τ (f_X5_read τ R).2 R ∧ FrM (up2 ρ 28 0 0) (rdM ρ) ∧
    (((f_X5_read τ R).1 = 0 ∧ (rdM ρ) 28 21 = 0 ∧ ItE (f_X5_read τ R).2 (rdM ρ) R ∧ PtE (f_X5_read τ R).2 (rdM ρ) R ∧ 1 ≤ (f_X5_read τ R).2 R 4 ∧ (f_X5_read τ R).2 R 7 = -1) ∨ (1 ≤ (f_X5_read τ R).1 ∧ (rdM ρ) 28 21 = (f_X5_read τ R).1 ∧ (rdM ρ) 28 22 = (f_X5_read τ R).2 R 7)) := by
  have f0 : FrX τ (rst τ R) R := ((((FrX.rf τ R).up (by omega) _ _).up (by omega) _ _).up (by omega) _ _).up (by omega) _ _
  have g0 : FrM (up2 ρ 28 0 0) (rstM ρ) := (((FrM.rf _).up28 (by omega) _).up28 (by omega) _).up28 (by omega) _
  have k4 : (rst τ R) R 4 = 0 := by unfold rst; rw [up2_slot _ _ (by decide), up2_slot _ _ (by decide), up2_slot _ _ (by decide), up2_same]
  have k5 : (rst τ R) R 5 = 0 := by unfold rst; rw [up2_slot _ _ (by decide), up2_slot _ _ (by decide), up2_same]
  have k6 : (rst τ R) R 6 = 0 := by unfold rst; rw [up2_slot _ _ (by decide), up2_same]
  have k7 : (rst τ R) R 7 = -1 := by unfold rst; rw [up2_same]
  have m15 : (rstM ρ) 28 15 = 0 := by unfold rstM; rw [up2_same]
  have m16 : (rstM ρ) 28 16 = 0 := by unfold rstM; rw [up2_slot _ _ (by decide), up2_same]
  have m21 : (rstM ρ) 28 21 = 0 := by unfold rstM; rw [up2_slot _ _ (by decide), up2_slot _ _ (by decide), up2_same]
  have hT0 : TOK τ (up2 ρ 28 0 0) := hT.mv rfl rfl (up2_slot _ _ (by decide)) (up2_cell _ _ _ (by decide))
  have hT1 : TOK (rst τ R) (rstM ρ) := hT0.fr hR f0 g0
  have it0 : ItE (rst τ R) (rstM ρ) R := ⟨by rw [k4, m15], by rw [k4]; omega, fun i hi => by rw [k4] at hi; omega, by rw [k5, k4]; rfl, fun j hj => by rw [k5] at hj; omega⟩
  have ie := items_sim hR 81 83 0 (rst τ R) (rstM ρ) hT1 it0 k4 m21 hT1.2.1.1 (by omega) (by omega)
  rw [readX_eq]
  unfold rdM
  generalize L_X5_readItems_2 R 81 0 (rst τ R) = rX at ie ⊢
  generalize L_X10_readItems_7 83 0 (rstM ρ) = rM at ie ⊢
  obtain ⟨e1, e2, e3, e4, e5⟩ := ie
  rcases e5 with ⟨a1, a2, a3, a4, a5, a6, a7⟩ | ⟨a1, a2, a3⟩
  · rw [if_pos a1, a3]
    have pt : PtE rX.2 rM.2 R := ⟨by rw [e3, k6, e4, m16], by rw [e3, k6]; omega, fun p hp => by rw [e3, k6] at hp; omega⟩
    have e1' := e1 1 (by omega)
    have pe := parts_sim hR (rX.2 R 4 + 1) 101 103 (rX.2 R 4 + 1) rX.2 rM.2 (hT1.fr hR e1 e2) pt a4.wl a2 (by omega) (Or.inl (by rw [e1']; omega)) (by rw [e3, k6]; omega) (by rw [e3, k6]; omega)
    obtain ⟨j1, j2, j3, j4, j5⟩ := pe
    refine ⟨f0.tr (e1.tr j1), g0.tr (e2.tr j2), ?_⟩
    rcases j5 with ⟨b1, b2, b3, b4, b5⟩ | z
    · exact Or.inl ⟨b1, b2, a4.mv j3 j4, b3, by rw [j3.1]; exact a5, by rw [b5, a7, k7]⟩
    · exact Or.inr z
  · rw [if_neg (by omega), parts_stop (by omega)]
    exact ⟨f0.tr e1, g0.tr e2, Or.inr ⟨a1, a2, a3⟩⟩
theorem rl107 : ∀ (n : Nat) (x : Int) (ρ : Sg), 0 ≤ x → 12 - x < (n : Int) → x ≤ 12 → (∀ i : Nat, i < 12 → (L_X10_rule_107 n x ρ) 34 i = (if (i : Int) < x then ρ 34 i else ρ 37 i) ∧ (L_X10_rule_107 n x ρ) 35 i = (if (i : Int) < x then ρ 35 i else ρ 38 i) ∧ (L_X10_rule_107 n x ρ) 36 i = (if (i : Int) < x then ρ 36 i else ρ 39 i)) ∧ ∀ c, (c < 34 ∨ 36 < c) → (L_X10_rule_107 n x ρ) c = ρ c
  | 0, x, ρ, h0, h1, h2 => by omega
  | n + 1, x, ρ, h0, h1, h2 => by
    rw [L_X10_rule_107]
    by_cases c1 : 12 ≤ x
    · rw [if_pos c1]
      refine ⟨fun i hi => ?_, fun _ _ => rfl⟩
      rw [if_pos (by omega), if_pos (by omega), if_pos (by omega)]
      exact ⟨rfl, rfl, rfl⟩
    · rw [if_neg c1]
      obtain ⟨a1, a2⟩ := rl107 n (x + 1) (up2 (up2 (up2 ρ 34 x.toNat (ρ 37 x.toNat)) 35 x.toNat (ρ 38 x.toNat)) 36 x.toNat (ρ 39 x.toNat)) (by omega) (by omega) (by omega)
      have q : ∀ c, (c < 34 ∨ 36 < c) → (up2 (up2 (up2 ρ 34 x.toNat (ρ 37 x.toNat)) 35 x.toNat (ρ 38 x.toNat)) 36 x.toNat (ρ 39 x.toNat)) c = ρ c := fun c hc => by rw [up2_cell _ _ _ (by omega), up2_cell _ _ _ (by omega), up2_cell _ _ _ (by omega)]
      have q34 : (up2 (up2 (up2 ρ 34 x.toNat (ρ 37 x.toNat)) 35 x.toNat (ρ 38 x.toNat)) 36 x.toNat (ρ 39 x.toNat)) 34 = fun i => if i = x.toNat then ρ 37 x.toNat else ρ 34 i := by rw [up2_cell _ _ _ (by omega), up2_cell _ _ _ (by omega), up2_row]
      have q35 : ∀ i, (up2 (up2 (up2 ρ 34 x.toNat (ρ 37 x.toNat)) 35 x.toNat (ρ 38 x.toNat)) 36 x.toNat (ρ 39 x.toNat)) 35 i = if i = x.toNat then ρ 38 x.toNat else ρ 35 i := fun i => by
        rw [up2_cell _ _ _ (by omega), up2_row]
        dsimp only
        rw [up2_cell _ _ _ (by omega)]
      have q36 : ∀ i, (up2 (up2 (up2 ρ 34 x.toNat (ρ 37 x.toNat)) 35 x.toNat (ρ 38 x.toNat)) 36 x.toNat (ρ 39 x.toNat)) 36 i = if i = x.toNat then ρ 39 x.toNat else ρ 36 i := fun i => by
        rw [up2_row]
        dsimp only
        rw [up2_cell _ _ _ (by omega), up2_cell _ _ _ (by omega)]
      refine ⟨fun i hi => ?_, fun c hc => by rw [a2 c hc, q c hc]⟩
      obtain ⟨b1, b2, b3⟩ := a1 i hi
      rw [b1, b2, b3, q 37 (by omega), q 38 (by omega), q 39 (by omega), q34, q35, q36]
      dsimp only
      by_cases w : (i : Int) < x
      · rw [if_pos w, if_pos w, if_pos w, if_pos (show (i : Int) < x + 1 by omega), if_pos (show (i : Int) < x + 1 by omega), if_pos (show (i : Int) < x + 1 by omega), if_neg (by omega), if_neg (by omega), if_neg (by omega)]
        exact ⟨rfl, rfl, rfl⟩
      · rw [if_neg w, if_neg w, if_neg w]
        by_cases w2 : (i : Int) < x + 1
        · have e : i = x.toNat := by omega
          subst e
          rw [if_pos w2, if_pos w2, if_pos w2, if_pos rfl, if_pos rfl, if_pos rfl]
          exact ⟨rfl, rfl, rfl⟩
        · rw [if_neg w2, if_neg w2, if_neg w2]
          exact ⟨rfl, rfl, rfl⟩
/-- only what belongs to rules and the tape moves -/
theorem Sim.rl {τ τ' ρ ρ' : Sg} (h : Sim τ ρ) (hW : WF τ) (hT : SimT τ' ρ') (hR : SimR τ' ρ') (hc : ∀ x, x ≠ 0 → x ≠ 1 → (x < 18 ∨ 27 < x) → τ' x = τ x) (h10 : τ' 0 10 = τ 0 10) (gs : ∀ k, (k = 4 ∨ k = 5 ∨ k = 7 ∨ k = 25 ∨ k = 26 ∨ k = 33 ∨ k = 34 ∨ k = 35) → ρ' 28 k = ρ 28 k) (gc : ∀ x, x ≠ 28 → x ≠ 33 → (x < 34 ∨ 39 < x) → ρ' x = ρ x) : Sim τ' ρ' := by
  have hr : ∀ r, RowS ρ ρ' r := fun r => RowS.of (gc 29 (by decide) (by decide) (by decide)) (gc 30 (by decide) (by decide) (by decide)) (gc 31 (by decide) (by decide) (by decide)) r
  obtain ⟨t1, t2, t3, t4, t5⟩ := h
  exact ⟨hT, t2.mv hW (hc 3 (by decide) (by decide) (by decide)) (hc 5 (by decide) (by decide) (by decide)) (fun c u v => hc c (by omega) (by omega) (by omega)) (gs 5 (by decide)) (gs 4 (by decide)) (gc 32 (by decide) (by decide) (by decide)) (fun r _ => hr r),
    t3.mv hW (hc 7 (by decide) (by decide) (by decide)) (fun c u v => hc c (by omega) (by omega) (by omega)) (gs 7 (by decide)) (fun r _ _ => hr r), hR,
    t5.mv hW (hc 13 (by decide) (by decide) (by decide)) h10 (hc 15 (by decide) (by decide) (by decide)) (hc 16 (by decide) (by decide) (by decide)) (hc 17 (by decide) (by decide) (by decide)) (fun c u => hc c (by omega) (by omega) (by omega)) (gs 25 (by decide)) (gs 26 (by decide)) (gs 33 (by decide)) (gs 34 (by decide)) (gs 35 (by decide)) (by rw [gs 5 (by decide)]; omega) (fun x u v => gc x (by omega) (by omega) (by omega)) (fun r _ _ => hr r)⟩
theorem Inv.rl {τ τ' : Sg} (h : Inv τ) (hW : WF τ) (hc : ∀ x, x ≠ 0 → x ≠ 1 → (x < 18 ∨ 27 < x) → τ' x = τ x) : Inv τ' :=
  h.mv hW (by rw [hc 3 (by decide) (by decide) (by decide)]) (by rw [hc 3 (by decide) (by decide) (by decide)]) (hc 5 (by decide) (by decide) (by decide)) (fun c h1 h2 => hc c (by omega) (by omega) (by omega)) (by rw [hc 13 (by decide) (by decide) (by decide)]) (by rw [hc 13 (by decide) (by decide) (by decide)]) (hc 15 (by decide) (by decide) (by decide)) (hc 16 (by decide) (by decide) (by decide)) (hc 17 (by decide) (by decide) (by decide)) (fun c h1 => hc c (by omega) (by omega) (by omega))
theorem ruleM_eq (ρ : Sg) : f_X10_rule ρ = if (rdM ρ) 28 21 = 0 then ((L_X10_rule_107 13 0 (up2 (up2 (up2 (up2 (rdM ρ) 28 9 0) 28 20 (-1)) 28 10 ((rdM ρ) 28 15)) 28 11 ((rdM ρ) 28 16))) 28 10, L_X10_rule_107 13 0 (up2 (up2 (up2 (up2 (rdM ρ) 28 9 0) 28 20 (-1)) 28 10 ((rdM ρ) 28 15)) 28 11 ((rdM ρ) 28 16))) else (-1 - (rdM ρ) 28 21, up2 (up2 (rdM ρ) 28 9 0) 28 20 ((rdM ρ) 28 22)) := by
  unfold f_X10_rule f_X10_readItems
  unfold rdM rstM
  dsimp only
theorem rc_ne {a b : Int} (ha : 0 ≤ a ∧ a ≤ 1) (hb : 0 ≤ b ∧ b ≤ 1) (h : a ≠ b) : (rc a = 18 ∧ rc b = 23) ∨ (rc a = 23 ∧ rc b = 18) := by
  unfold rc
  by_cases q : a = 0
  · rw [if_pos q, if_neg (by omega)]; exact Or.inl ⟨rfl, rfl⟩
  · rw [if_neg q, if_pos (by omega)]; exact Or.inr ⟨rfl, rfl⟩
theorem s_rule {τ ρ : Sg} (h : Sim τ ρ) (hV : Inv τ) (hW : WF τ) : (f_X9_rule τ).1 = (f_X10_rule ρ).1 ∧ Sim (f_X9_rule τ).2 (f_X10_rule ρ).2 ∧ Inv (f_X9_rule τ).2 := by
  have b6 := bd_0_6 hW
  have b7 := bd_0_7 hW
  have hR := rc_ru (τ 0 7)
  have hne := rc_ne b6 b7 h.2.2.2.1.1
  have hT : TOK τ ρ := ⟨h.1, bd_1_1 hW, fun i => bd_2 hW i⟩
  obtain ⟨f1, f2, f3⟩ := read_sim hR hT
  rw [ruleM_eq]
  unfold f_X9_rule
  generalize hD : f_X5_read τ (rc (τ 0 7)) = D at f1 f3 ⊢
  generalize rdM ρ = Q at f2 f3 ⊢
  have c0 : (f_X8_clear D.2) 0 = τ 0 := by rw [clear_fr _ (by decide)]; exact f1 0 (by omega)
  rw [c0]
  generalize hRR : rc (τ 0 7) = R at hR hne hD f1 f3 ⊢
  have cR : (f_X8_clear D.2) R = D.2 R := clear_fr _ (by omega)
  unfold f_X5_placeOfFault
  rw [cR]
  have cx : ∀ x, x ≠ 1 → (x < R ∨ R + 4 < x) → (f_X8_clear D.2) x = τ x := fun x u v => by rw [clear_fr _ u]; exact f1 x v
  have cy : ∀ x, x ≠ 1 → (f_X8_clear D.2) x = D.2 x := fun x u => clear_fr _ u
  have c11 : (f_X8_clear D.2) 1 1 = 0 := by unfold f_X8_clear; exact up2_same _ _ _ _
  generalize f_X8_clear D.2 = C at c0 cR cx cy c11 ⊢
  have q28 : ∀ k, k ≠ 0 → k ≠ 15 → k ≠ 16 → k ≠ 21 → k ≠ 22 → Q 28 k = ρ 28 k := fun k h0 h1 h2 h3 h4 => by rw [f2.2 k h1 h2 h3 h4, up2_slot _ _ h0]
  have qc : ∀ x, x ≠ 28 → (x < 37 ∨ 39 < x) → Q x = ρ x := fun x h1 h2 => by rw [f2.1 x h1 h2, up2_cell _ _ _ h1]
  rcases f3 with ⟨a1, a2, a3, a4, a5, a7⟩ | ⟨a1, a2, a3⟩
  · rw [if_pos a1, if_pos a2, a7]
    -- the class
    have t0 : ∀ x, x ≠ 0 → (up2 (up2 (up2 (up2 C 0 9 (-1)) 0 6 (τ 0 7)) 0 7 (τ 0 6)) 0 8 1) x = C x := fun x u => by rw [up2_cell _ _ _ u, up2_cell _ _ _ u, up2_cell _ _ _ u, up2_cell _ _ _ u]
    have t6 : (up2 (up2 (up2 (up2 C 0 9 (-1)) 0 6 (τ 0 7)) 0 7 (τ 0 6)) 0 8 1) 0 6 = τ 0 7 := by rw [up2_slot _ _ (by decide), up2_slot _ _ (by decide), up2_same]
    have t7 : (up2 (up2 (up2 (up2 C 0 9 (-1)) 0 6 (τ 0 7)) 0 7 (τ 0 6)) 0 8 1) 0 7 = τ 0 6 := by rw [up2_slot _ _ (by decide), up2_same]
    have t8 : (up2 (up2 (up2 (up2 C 0 9 (-1)) 0 6 (τ 0 7)) 0 7 (τ 0 6)) 0 8 1) 0 8 = 1 := up2_same _ _ _ _
    have t9 : (up2 (up2 (up2 (up2 C 0 9 (-1)) 0 6 (τ 0 7)) 0 7 (τ 0 6)) 0 8 1) 0 9 = -1 := by rw [up2_slot _ _ (by decide), up2_slot _ _ (by decide), up2_slot _ _ (by decide), up2_same]
    have t10 : (up2 (up2 (up2 (up2 C 0 9 (-1)) 0 6 (τ 0 7)) 0 7 (τ 0 6)) 0 8 1) 0 10 = τ 0 10 := by rw [up2_slot _ _ (by decide), up2_slot _ _ (by decide), up2_slot _ _ (by decide), up2_slot _ _ (by decide), c0]
    generalize (up2 (up2 (up2 (up2 C 0 9 (-1)) 0 6 (τ 0 7)) 0 7 (τ 0 6)) 0 8 1) = T at t0 t6 t7 t8 t9 t10 ⊢
    -- the reference
    have p9 : (up2 (up2 (up2 (up2 Q 28 9 0) 28 20 (-1)) 28 10 (Q 28 15)) 28 11 (Q 28 16)) 28 9 = 0 := by rw [up2_slot _ _ (by decide), up2_slot _ _ (by decide), up2_slot _ _ (by decide), up2_same]
    have p20 : (up2 (up2 (up2 (up2 Q 28 9 0) 28 20 (-1)) 28 10 (Q 28 15)) 28 11 (Q 28 16)) 28 20 = -1 := by rw [up2_slot _ _ (by decide), up2_slot _ _ (by decide), up2_same]
    have p10 : (up2 (up2 (up2 (up2 Q 28 9 0) 28 20 (-1)) 28 10 (Q 28 15)) 28 11 (Q 28 16)) 28 10 = Q 28 15 := by rw [up2_slot _ _ (by decide), up2_same]
    have p11 : (up2 (up2 (up2 (up2 Q 28 9 0) 28 20 (-1)) 28 10 (Q 28 15)) 28 11 (Q 28 16)) 28 11 = Q 28 16 := up2_same _ _ _ _
    have pk : ∀ k, k ≠ 9 → k ≠ 20 → k ≠ 10 → k ≠ 11 → (up2 (up2 (up2 (up2 Q 28 9 0) 28 20 (-1)) 28 10 (Q 28 15)) 28 11 (Q 28 16)) 28 k = Q 28 k := fun k u1 u2 u3 u4 => by rw [up2_slot _ _ u4, up2_slot _ _ u3, up2_slot _ _ u2, up2_slot _ _ u1]
    have pc : ∀ x, x ≠ 28 → (up2 (up2 (up2 (up2 Q 28 9 0) 28 20 (-1)) 28 10 (Q 28 15)) 28 11 (Q 28 16)) x = Q x := fun x u => by rw [up2_cell _ _ _ u, up2_cell _ _ _ u, up2_cell _ _ _ u, up2_cell _ _ _ u]
    generalize (up2 (up2 (up2 (up2 Q 28 9 0) 28 20 (-1)) 28 10 (Q 28 15)) 28 11 (Q 28 16)) = P at p9 p20 p10 p11 pk pc ⊢
    obtain ⟨l1, l2⟩ := rl107 13 0 P (by omega) (by omega) (by omega)
    have l28 := l2 28 (by omega)
    have l34 : ∀ i : Nat, i < 12 → (L_X10_rule_107 13 0 P) 34 i = Q 37 i := fun i hi => by rw [(l1 i hi).1, if_neg (by omega), pc 37 (by decide)]
    have l35 : ∀ i : Nat, i < 12 → (L_X10_rule_107 13 0 P) 35 i = Q 38 i := fun i hi => by rw [(l1 i hi).2.1, if_neg (by omega), pc 38 (by decide)]
    have l36 : ∀ i : Nat, i < 12 → (L_X10_rule_107 13 0 P) 36 i = Q 39 i := fun i hi => by rw [(l1 i hi).2.2, if_neg (by omega), pc 39 (by decide)]
    generalize L_X10_rule_107 13 0 P = E at l1 l2 l28 l34 l35 l36 ⊢
    dsimp only
    unfold f_X5_itemCount
    have tR : ∀ k, k ≤ 4 → T (R + k) = D.2 (R + k) := fun k hk => by rw [t0 _ (by omega), cy _ (by omega)]
    have tR0 : T R = D.2 R := tR 0 (by omega)
    obtain ⟨i1, i2, i3, i4, i5⟩ := a3
    obtain ⟨j1, j2, j3⟩ := a4
    have e10 : E 28 10 = D.2 R 4 := by rw [l28, p10, i1]
    have e11 : E 28 11 = D.2 R 6 := by rw [l28, p11, j1]
    have hc : ∀ x, x ≠ 0 → x ≠ 1 → (x < 18 ∨ 27 < x) → T x = τ x := fun x u v w => by rw [t0 x u, cx x v (by omega)]
    refine ⟨by rw [tR0, e10], h.rl hW (SimT.e0 (by rw [t0 1 (by decide), c11]) (by rw [l28, p9])) ⟨?_, ?_, ?_, fun _ => ?_, fun z => ?_⟩ hc t10 (fun k hk => by rw [l28, pk k (by omega) (by omega) (by omega) (by omega), q28 k (by omega) (by omega) (by omega) (by omega) (by omega)]) (fun x u v w => by rw [l2 x (by omega), pc x u, qc x u (by omega)]), hV.rl hW hc⟩
    · rw [t6, t7]; exact fun z => h.2.2.2.1.1 z.symm
    · rw [t9, l28, p20]
    · rw [t8, e10]
      constructor
      · intro z; omega
      · intro z; omega
    · rw [t6, hRR]
      unfold RuleEq
      rw [tR0, tR 1 (by omega), tR 2 (by omega), tR 3 (by omega), tR 4 (by omega)]
      refine ⟨by rw [e10], by rw [e11], fun i hi => ?_, fun p hp => ?_, fun n hn1 hn2 => ?_⟩
      · rw [l34 i (by omega)]; exact i3 i hi
      · rw [l35 p (by omega), l36 p (by omega)]; exact j3 p hp
      · obtain ⟨q1, q2, q3⟩ := i5 (n - 1) (by omega)
        refine ⟨?_, q1⟩
        generalize hp : D.2 (R + 2) (n - 1) = pI at q1 q2 q3 ⊢
        have cg : ∀ m : Nat, m ≤ 12 → (m : Int) ≤ D.2 R 4 → wc (E 34) m = wc (D.2 (R + 1)) m := fun m hm hm2 => wc_congr (fun i hi => by rw [l34 i (by omega), (i3 i (by omega)).1])
        have w := wild_at E (n : Int) (p := pI.toNat) (by rw [e10]; omega) (by rw [e10]; omega) (by rw [l34 _ (by omega), ← (i3 _ (by omega)).1]; exact q2) (by rw [cg _ (by omega) (by omega), q3]; omega) 13 (n : Int) 0 (by omega) (by omega) (by omega) (by show (n : Int) = (n : Int) - 0; omega)
        unfold f_X10_wild
        rw [w]
        omega
    · rw [t8] at z; omega
  · rw [if_neg (by omega), if_neg (by omega)]
    dsimp only
    have t0 : ∀ x, x ≠ 0 → (up2 C 0 9 (D.2 R 7)) x = C x := fun x u => up2_cell _ _ _ u
    have tk : ∀ k, k ≠ 9 → (up2 C 0 9 (D.2 R 7)) 0 k = τ 0 k := fun k hk => by rw [up2_slot _ _ hk, c0]
    have t9 : (up2 C 0 9 (D.2 R 7)) 0 9 = D.2 R 7 := up2_same _ _ _ _
    generalize (up2 C 0 9 (D.2 R 7)) = T at t0 tk t9 ⊢
    have p9 : (up2 (up2 Q 28 9 0) 28 20 (Q 28 22)) 28 9 = 0 := by rw [up2_slot _ _ (by decide), up2_same]
    have p20 : (up2 (up2 Q 28 9 0) 28 20 (Q 28 22)) 28 20 = Q 28 22 := up2_same _ _ _ _
    have pk : ∀ k, k ≠ 9 → k ≠ 20 → (up2 (up2 Q 28 9 0) 28 20 (Q 28 22)) 28 k = Q 28 k := fun k u v => by rw [up2_slot _ _ v, up2_slot _ _ u]
    have pc : ∀ x, x ≠ 28 → (up2 (up2 Q 28 9 0) 28 20 (Q 28 22)) x = Q x := fun x u => by rw [up2_cell _ _ _ u, up2_cell _ _ _ u]
    generalize (up2 (up2 Q 28 9 0) 28 20 (Q 28 22)) = E at p9 p20 pk pc ⊢
    have hc : ∀ x, x ≠ 0 → x ≠ 1 → (x < R ∨ R + 4 < x) → T x = τ x := fun x u v w => by rw [t0 x u, cx x v w]
    refine ⟨by rw [a2], h.rl hW (SimT.e0 (by rw [t0 1 (by decide), c11]) p9) ⟨?_, ?_, ?_, fun z => ?_, fun z => ?_⟩ (fun x u v w => hc x u v (by omega)) (tk 10 (by decide)) (fun k hk => by rw [pk k (by omega) (by omega), q28 k (by omega) (by omega) (by omega) (by omega) (by omega)]) (fun x u v w => by rw [pc x u, qc x u (by omega)]), hV.rl hW (fun x u v w => hc x u v (by omega))⟩
    · rw [tk 6 (by decide), tk 7 (by decide)]; exact h.2.2.2.1.1
    · rw [t9, p20, a3]
    · rw [tk 8 (by decide), pk 10 (by decide) (by decide), q28 10 (by decide) (by decide) (by decide) (by decide) (by decide)]
      exact h.2.2.2.1.2.2.1
    · rw [tk 8 (by decide)] at z
      rw [tk 6 (by decide)]
      have hr6 := rc_ru (τ 0 6)
      exact (h.2.2.2.1.2.2.2.1 z).mv (hc _ (by omega) (by omega) (by omega)) (hc _ (by omega) (by omega) (by omega)) (hc _ (by omega) (by omega) (by omega)) (hc _ (by omega) (by omega) (by omega)) (hc _ (by omega) (by omega) (by omega)) (by rw [pk 10 (by decide) (by decide), q28 10 (by decide) (by decide) (by decide) (by decide) (by decide)]) (by rw [pk 11 (by decide) (by decide), q28 11 (by decide) (by decide) (by decide) (by decide) (by decide)]) (by rw [pc 34 (by decide), qc 34 (by decide) (by decide)]) (by rw [pc 35 (by decide), qc 35 (by decide) (by decide)]) (by rw [pc 36 (by decide), qc 36 (by decide) (by decide)])
    · rw [tk 8 (by decide)] at z
      rw [pk 11 (by decide) (by decide), q28 11 (by decide) (by decide) (by decide) (by decide) (by decide)]
      exact h.2.2.2.1.2.2.2.2 z
