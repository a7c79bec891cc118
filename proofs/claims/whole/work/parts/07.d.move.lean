def lenOK (τ : Sg) (c : Nat) : Prop := 0 ≤ τ c 2 ∧ τ c 2 ≤ 12
/-- links go along, on both sides -/
theorem follow_sim {q0 q1 f r : Nat} (hf : f < 40) (hr : 70 ≤ r) (hq0 : q0 + 1 < 139 ∨ 199 ≤ q0) (hq1 : q1 + 1 < 139 ∨ 199 ≤ q1) : ∀ (n : Nat) (x : Int) (τ ρ : Sg), 0 ≤ x → τ 7 1 = ρ 28 7 → τ 7 1 ≤ 30 →
    (∀ k : Nat, (k : Int) < τ 7 1 → PE τ ρ (139 + 2 * k) (40 + k) ∧ lenOK τ (139 + 2 * k)) → PE τ ρ q0 f → PE τ ρ q1 r → lenOK τ q0 → lenOK τ q1 →
    (∀ k : Nat, (k : Int) < τ 7 1 → PE (L_X1_follow_2 q0 q1 n x τ) (L_X10_goesTo_3 (f : Int) (r : Int) n (40 + x) ρ) (139 + 2 * k) (40 + k) ∧ lenOK (L_X1_follow_2 q0 q1 n x τ) (139 + 2 * k)) ∧
    (∀ y : Nat, (y < 139 ∨ 199 ≤ y) → (L_X1_follow_2 q0 q1 n x τ) y = τ y) ∧ ∀ k : Nat, (k < 40 ∨ 70 ≤ k) → RowS ρ (L_X10_goesTo_3 (f : Int) (r : Int) n (40 + x) ρ) k
  | 0, x, τ, ρ, h0, h7, h8, hL, e0, e1, l0, l1 => ⟨hL, fun _ _ => rfl, fun _ _ => RowS.rf _ _⟩
  | n + 1, x, τ, ρ, h0, h7, h8, hL, e0, e1, l0, l1 => by
    rw [L_X1_follow_2, L_X10_goesTo_3, ← h7]
    by_cases h1 : τ 7 1 ≤ x
    · rw [if_pos h1, if_pos (show 40 + τ 7 1 ≤ 40 + x by omega)]
      exact ⟨hL, fun _ _ => rfl, fun _ _ => RowS.rf _ _⟩
    · rw [if_neg h1, if_neg (show ¬ 40 + τ 7 1 ≤ 40 + x by omega)]
      have hx : ((x.toNat : Nat) : Int) < τ 7 1 := by omega
      obtain ⟨p1, p2⟩ := hL x.toNat hx
      have ej := PE_just p2.2 p1 e0
      rw [ej, show ((40 + x.toNat : Nat) : Int) = 40 + x by omega]
      by_cases h2 : f_X10_isJust ρ (40 + x) (f : Int) = 0
      · rw [if_pos h2, if_pos h2, show (40 : Int) + x + 1 = 40 + (x + 1) by omega]
        exact follow_sim hf hr hq0 hq1 n (x + 1) τ ρ (by omega) h7 h8 hL e0 e1 l0 l1
      · rw [if_neg h2, if_neg h2, show (40 : Int) + x + 1 = 40 + (x + 1) by omega]
        have s30 : ρ 30 ((r : Int)).toNat ≤ 12 := by rw [Int.toNat_natCast, ← e1.2.1]; exact l1.2
        have cS : ∀ k : Nat, k ≠ (40 + x).toNat → RowS ρ (f_X10_copies ρ (r : Int) (40 + x)) k := fun k hk => copies_S (by omega) (by omega) (by omega) s30 hk
        have bS : ∀ y : Nat, y ≠ 139 + 2 * x.toNat → y ≠ 139 + 2 * x.toNat + 1 → (f_X2_become τ (139 + 2 * x.toNat) q1) y = τ y := fun y a b => become_fr τ _ q1 a b
        have hcp := PE.cp (c := 139 + 2 * x.toNat) (t := 40 + x) e1 (by omega) (by omega) (by omega) l1.1 l1.2 (by omega) (by omega)
        have hbr := become_row (σ := τ) (c := 139 + 2 * x.toNat) (d := q1) (by omega) (by omega) (by omega) l1.1 l1.2
        have e7 : (f_X2_become τ (139 + 2 * x.toNat) q1) 7 = τ 7 := bS 7 (by omega) (by omega)
        have e28 : (f_X10_copies ρ (r : Int) (40 + x)) 28 = ρ 28 := copies_fr _ _ _ (by decide) (by decide) (by decide)
        obtain ⟨c1, c2, c3⟩ := follow_sim hf hr hq0 hq1 n (x + 1) (f_X2_become τ (139 + 2 * x.toNat) q1) (f_X10_copies ρ (r : Int) (40 + x)) (by omega) (by rw [e7, e28]; exact h7) (by rw [e7]; exact h8)
          (fun k hk => by
            rw [e7] at hk
            by_cases q : k = x.toNat
            · subst q
              rw [show (40 + x).toNat = 40 + x.toNat by omega] at hcp
              exact ⟨hcp, by unfold lenOK; rw [hbr.2.1]; exact l1⟩
            · obtain ⟨w1, w2⟩ := hL k hk
              refine ⟨w1.mv w2.2 ⟨bS _ (by omega) (by omega), bS _ (by omega) (by omega)⟩ (cS _ (by omega)), ?_⟩
              unfold lenOK
              rw [bS _ (by omega) (by omega)]
              exact w2)
          (e0.mv l0.2 ⟨bS _ (by omega) (by omega), bS _ (by omega) (by omega)⟩ (cS _ (by omega)))
          (e1.mv l1.2 ⟨bS _ (by omega) (by omega), bS _ (by omega) (by omega)⟩ (cS _ (by omega)))
          (by unfold lenOK; rw [bS _ (by omega) (by omega)]; exact l0) (by unfold lenOK; rw [bS _ (by omega) (by omega)]; exact l1)
        rw [e7] at c1
        exact ⟨c1, fun y hy => by rw [c2 y hy, bS y (by omega) (by omega)], fun k hk => (cS k (by omega)).tr (c3 k hk)⟩
def SimL (τ ρ : Sg) : Prop := τ 7 1 = ρ 28 7 ∧ ∀ k : Nat, (k : Int) < τ 7 1 → PE τ ρ (139 + 2 * k) (40 + k)
/-- a file goes to a place, with its links, on both sides -/
theorem move_sim {τ ρ : Sg} (hS : SimS τ ρ) (hL : SimL τ ρ) (hW : WF τ) {a : Int} (ha : 0 ≤ a ∧ a < τ 3 3) {q r : Nat} (hr : 70 ≤ r) (hq : q = 57 ∨ (199 ≤ q ∧ q < 439 ∧ q % 2 = 1)) (hq1 : PE τ ρ q r) :
    SimS (f_X9_move τ a q) (f_X10_goesTo ρ a (r : Int)) ∧ SimL (f_X9_move τ a q) (f_X10_goesTo ρ a (r : Int)) ∧ (∀ y : Nat, (y < 139 ∨ 199 ≤ y) → y ≠ 59 + 2 * a.toNat → y ≠ 59 + 2 * a.toNat + 1 → (f_X9_move τ a q) y = τ y) ∧ (∀ k : Nat, 70 ≤ k → RowS ρ (f_X10_goesTo ρ a (r : Int)) k) ∧
    (f_X9_move τ a q) (59 + 2 * a.toNat) 1 = τ q 1 ∧ (f_X9_move τ a q) (59 + 2 * a.toNat) 2 = τ q 2 ∧ ∀ i : Nat, (i : Int) < τ q 2 → (f_X9_move τ a q) (59 + 2 * a.toNat + 1) i = τ (q + 1) i := by
  have b3 := bd_3_3 hW
  have b7 := bd_7_1 hW
  have hlen : ∀ c, isPl c → lenOK τ c := fun c h => bd_Pl_2 hW h
  have hfa : ((a.toNat : Nat) : Int) = a := by omega
  have pa := hS.2.2.2.1 a.toNat (by omega)
  obtain ⟨c1, c2, c3⟩ := follow_sim (q0 := 59 + 2 * a.toNat) (q1 := q) (f := a.toNat) (r := r) (by omega) hr (by omega) (by omega) 31 0 τ ρ (by omega) hL.1 b7.2 (fun k hk => ⟨hL.2 k hk, hlen _ (by omega)⟩) pa hq1 (hlen _ (by omega)) (hlen _ (by omega))
  rw [hfa, show (40 : Int) + 0 = 40 by omega] at c1 c3
  unfold f_X9_move f_X10_goesTo f_X1_follow
  rw [placeOf_eq]
  generalize hT : L_X1_follow_2 (59 + 2 * a.toNat) q 31 0 τ = T at c1 c2 c3 ⊢
  generalize hP : L_X10_goesTo_3 a (r : Int) 31 40 ρ = P at c1 c2 c3 ⊢
  have hP28 : P 28 = ρ 28 := by rw [← hP]; exact L_goesTo_fr a (r : Int) (by decide) (by decide) (by decide) _ _ _
  have hP32 : P 32 = ρ 32 := by rw [← hP]; exact L_goesTo_fr a (r : Int) (by decide) (by decide) (by decide) _ _ _
  have lq : lenOK T q := by unfold lenOK; rw [c2 q (by omega)]; exact hlen q (by omega)
  have pq : PE T P q r := hq1.mv (hlen q (by omega)).2 ⟨c2 q (by omega), c2 (q + 1) (by omega)⟩ (c3 r (by omega))
  have s30 : P 30 ((r : Int)).toNat ≤ 12 := by rw [Int.toNat_natCast, ← pq.2.1]; exact lq.2
  have bS : ∀ y : Nat, y ≠ 59 + 2 * a.toNat → y ≠ 59 + 2 * a.toNat + 1 → (f_X2_become T (59 + 2 * a.toNat) q) y = T y := fun y u v => become_fr T _ q u v
  have cS : ∀ k : Nat, k ≠ a.toNat → RowS P (f_X10_copies P (r : Int) a) k := fun k hk => copies_S (by omega) (by omega) (by omega) s30 hk
  have hcp := PE.cp (c := 59 + 2 * a.toNat) (t := a) pq (by omega) (by omega) (by omega) lq.1 lq.2 (by omega) (by omega)
  have hbr := become_row (σ := T) (c := 59 + 2 * a.toNat) (d := q) (by omega) (by omega) (by omega) lq.1 lq.2
  have k28 : (f_X10_copies P (r : Int) a) 28 = ρ 28 := by rw [copies_fr _ _ _ (by decide) (by decide) (by decide), hP28]
  have k32 : (f_X10_copies P (r : Int) a) 32 = ρ 32 := by rw [copies_fr _ _ _ (by decide) (by decide) (by decide), hP32]
  have fr : ∀ y : Nat, (y < 139 ∨ 199 ≤ y) → y ≠ 59 + 2 * a.toNat → y ≠ 59 + 2 * a.toNat + 1 → (f_X2_become T (59 + 2 * a.toNat) q) y = τ y := fun y u v w => by rw [bS y v w, c2 y u]
  have e3 := fr 3 (by omega) (by omega) (by omega)
  have e5 := fr 5 (by omega) (by omega) (by omega)
  have e7 := fr 7 (by omega) (by omega) (by omega)
  refine ⟨⟨by rw [e3, k28]; exact hS.1, by rw [e3, k28]; exact hS.2.1, fun f hf => ?_, fun f hf => ?_, by rw [e3, e5]; exact hS.2.2.2.2⟩, ⟨by rw [e7, k28]; exact hL.1, fun k hk => ?_⟩, fr, fun k hk => (c3 k (by omega)).tr (cS k (by omega)), ?_, ?_, ?_⟩
  · rw [e3] at hf
    rw [e5, k32]
    exact hS.2.2.1 f hf
  · rw [e3] at hf
    by_cases w : f = a.toNat
    · subst w
      exact hcp
    · have p0 := hS.2.2.2.1 f hf
      exact (p0.mv (hlen _ (by omega)).2 ⟨c2 _ (by omega), c2 _ (by omega)⟩ (c3 f (by omega))).mv (by rw [c2 _ (by omega)]; exact (hlen _ (by omega)).2) ⟨bS _ (by omega) (by omega), bS _ (by omega) (by omega)⟩ (cS f w)
  · rw [e7] at hk
    obtain ⟨w1, w2⟩ := c1 k hk
    exact w1.mv w2.2 ⟨bS _ (by omega) (by omega), bS _ (by omega) (by omega)⟩ (cS _ (by omega))
  · rw [hbr.1, c2 q (by omega)]
  · rw [hbr.2.1, c2 q (by omega)]
  · intro i hi
    rw [hbr.2.2 i (by rw [c2 q (by omega)]; exact hi), c2 (q + 1) (by omega)]
