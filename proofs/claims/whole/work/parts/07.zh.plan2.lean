theorem SB.of {τ : Sg} (hW : WF τ) : SB τ := ⟨bd_3_3 hW, fun f hf => bd_Pl_2 hW (by omega)⟩
theorem SB.mv {τ τ' : Sg} (h : SB τ) (e3 : τ' 3 = τ 3) (hf : ∀ x, 59 ≤ x → x < 139 → τ' x = τ x) : SB τ' := ⟨by rw [e3]; exact h.1, fun f h4 => by unfold lenOK; rw [hf _ (by omega) (by omega)]; exact h.2 f h4⟩
theorem plan_TL {τ ρ T P : Sg} {m : Nat} {a1 a2 a3 : Int} (hS : SimS τ ρ) (hW : WF τ) (hU : ∀ f g : Nat, (f : Int) < τ 3 3 → (g : Int) < τ 3 3 → f ≠ g → ¬ τ 5 f = 0 → ¬ τ 5 g = 0 → ¬ AlX τ (59 + 2 * f) (59 + 2 * g) (τ 3 5)) (h6 : τ 13 6 = 0) (en : EN ρ a1 a2 a3 τ T P m) :
    TL (L_X3_findTroubles_2 41 0 T) P m 0 ∧ (∀ c, (c < 439 ∨ 439 + m ≤ c) → (L_X3_findTroubles_2 41 0 T) c = T c) ∧ (∀ k, k < m → ∀ j, j ≠ 7 → (L_X3_findTroubles_2 41 0 T) (439 + k) j = T (439 + k) j) := by
  obtain ⟨n1, n2, n3, n4, n5, n6, n7, n8, n9, n10⟩ := en
  obtain ⟨o1, o2⟩ := own_loop 41 0 T m n2 n1 (by omega) (by omega)
  generalize L_X3_findTroubles_2 41 0 T = T2 at o1 o2 ⊢
  have b3 := bd_3_3 hW
  have hB := SB.of hW
  have f3 : T2 3 = τ 3 := (o1 3 (by omega)).trans (n4 3 (by decide) (by decide) (by decide) (by decide) (by decide) (by decide))
  have f5 : T2 5 = τ 5 := (o1 5 (by omega)).trans (n4 5 (by decide) (by decide) (by decide) (by decide) (by decide) (by decide))
  have fp : ∀ x, 59 ≤ x → x < 139 → T2 x = τ x := fun x a b => (o1 x (by omega)).trans (n4 x (by omega) (by omega) (by omega) (by omega) (by omega) (by omega))
  have e13 : T2 13 = T 13 := o1 13 (by omega)
  have s2 : SimS T2 P := hS.tf2 hB f3 f5 fp (fun k hk => n7 k (by omega)) (n6 32 (by omega) (by omega) (by omega)) (fun r hr => n8 r (by omega))
  have hB2 := hB.mv f3 fp
  have ent : ∀ k, k < m → (T2 (439 + k) 3 = P 42 k ∧ (0 ≤ P 42 k ∧ P 42 k < T2 3 3) ∧ T2 (439 + k) 4 = P 43 k ∧ T2 (439 + k) 5 = P 44 k ∧ T2 (439 + k) 6 = P 47 k ∧ PE T2 P (201 + 6 * k) (80 + k) ∧ (0 ≤ T2 (201 + 6 * k) 2 ∧ T2 (201 + 6 * k) 2 ≤ 12)) ∧ (T2 (439 + k) 7 = 1 ↔ ¬ good T2 k) ∧ (good T2 k → T2 (439 + k) 7 = 0) ∧ T2 (439 + k) 8 = -1 ∧ T2 (439 + k) 9 = -1 ∧ (¬ T2 (439 + k) 6 = 0 → f_X7_findAlike T2 (201 + 6 * k) (T2 (439 + k) 3) = -1) := by
    intro k hk
    obtain ⟨f, g1, g2, g3, g4, ⟨x3, x4, ⟨y1, y2, y3⟩, x6, x7, x8, x9, x10, x11, x12, x13, x14, x15, x16⟩, ⟨z1, ⟨w1, w2⟩, z3, z4, z5, z6⟩, g7⟩ := n10 k hk
    obtain ⟨k1, k2⟩ := o2 k hk
    rw [if_neg (show ¬ (k : Int) < 0 by omega), x12] at k2
    have q0 : T2 (201 + 6 * k) = T (201 + 6 * k) := o1 _ (by omega)
    have q1 : T2 (201 + 6 * k + 1) = T (202 + 6 * k) := by rw [show 201 + 6 * k + 1 = 202 + 6 * k by omega]; exact o1 _ (by omega)
    have gd : good T2 k ↔ (1 ≤ T (439 + k) 5 ∧ T (439 + k) 5 ≤ 12) := by unfold good; rw [k1 5 (by decide)]
    have e6 : T (439 + k) 6 = P 47 k := eq01 x10 z5 (x11.trans z6.symm)
    refine ⟨⟨by rw [k1 3 (by decide), x3, g4], by rw [g4, f3]; omega, by rw [k1 4 (by decide), x4, z1], by rw [k1 5 (by decide), y1, w1], by rw [k1 6 (by decide)]; exact e6, ⟨by rw [q0, x6, z4], by rw [q0, y2, z3], fun i hi => ?_⟩, by rw [q0, y2]; omega⟩, ?_, ?_, by rw [k1 8 (by decide), x13], by rw [k1 9 (by decide), x14], ?_⟩
    · rw [q0, y2] at hi
      rw [q1, y3 i (by omega) (by omega), w2 i (by omega) (by omega)]
    · rw [gd, k2]
      by_cases c1 : T (439 + k) 5 < 1
      · rw [if_pos c1]; exact ⟨fun _ z => by omega, fun _ => rfl⟩
      · rw [if_neg c1]
        by_cases c2 : T (439 + k) 5 ≤ 12
        · rw [if_pos c2]; exact ⟨fun z => by omega, fun z => absurd ⟨by omega, c2⟩ z⟩
        · rw [if_neg c2]; exact ⟨fun _ z => by omega, fun _ => rfl⟩
    · rw [gd, k2]
      intro z
      rw [if_neg (by omega), if_pos z.2]
    · intro h60
      rw [k1 6 (by decide)] at h60
      have st := x11.mp (by omega)
      obtain ⟨⟨t1, t2⟩, t3, t4, t5⟩ := st
      unfold f_X7_findAlike
      rcases fa_spec hB2 (d := 201 + 6 * k) (T2 (439 + k) 3) 41 0 (by omega) (by omega) (by omega) with v | ⟨r, v1, v2, v3, v4, v5, v6⟩
      · exact v.1
      · exfalso
        have pf : PE T2 ρ (201 + 6 * k) f := ⟨by rw [q0, x6, t3], by rw [q0, y2, ← t4]; omega, fun i hi => by
          rw [q0, y2] at hi
          rw [q1, y3 i (by omega) (by omega)]
          exact t5 i (by omega)⟩
        have pg : PE T2 ρ (59 + 2 * f) f := (hS.2.2.2.1 f g2).mv (hB.2 f g1).2 ⟨fp _ (by omega) (by omega), fp _ (by omega) (by omega)⟩ (RowS.rf _ _)
        have al2 : AlX T2 (59 + 2 * r) (59 + 2 * f) (T2 3 5) := v6.tr (pf.two pg)
        rw [f3] at v3
        rw [AlX.mv (fp _ (by omega) (by omega)) (fp _ (by omega) (by omega)) (fp _ (by omega) (by omega)) (fp _ (by omega) (by omega)), f3] at al2
        rw [f5] at v5
        rw [k1 3 (by decide), x3] at v4
        exact hU r f v3 g2 (by omega) v5 g3 al2
  exact ⟨⟨s2, hB2, fun k hk => (ent k hk).1, by rw [e13]; exact n2, n3, fun j hj => (ent j hj).2.1, fun j hj => by omega, fun j _ hj => ⟨(ent j hj).2.2.1, (ent j hj).2.2.2.1, (ent j hj).2.2.2.2.1⟩, by rw [e13, n5 6 (by decide), h6]; rfl, fun j hj => (ent j hj).2.2.2.2.2⟩, o1, fun k hk => (o2 k hk).1⟩
theorem L7_loop : ∀ (n : Nat) (x : Int) (σ : Sg), 0 ≤ x → x ≤ 40 → 40 - x < (n : Int) → (∀ c, c ≠ 54 → c ≠ 55 → (L_X10_findSteps_7 n x σ) c = σ c) ∧ ∀ i : Nat, i < 40 → ((L_X10_findSteps_7 n x σ) 54 i = if (i : Int) < x then σ 54 i else 0) ∧ ((L_X10_findSteps_7 n x σ) 55 i = if (i : Int) < x then σ 55 i else 0)
  | 0, x, σ, h0, h1, h2 => by omega
  | n + 1, x, σ, h0, h1, h2 => by
    rw [L_X10_findSteps_7]
    by_cases c : 40 ≤ x
    · rw [if_pos c]
      exact ⟨fun _ _ _ => rfl, fun i hi => ⟨by rw [if_pos (by omega)], by rw [if_pos (by omega)]⟩⟩
    · rw [if_neg c]
      obtain ⟨i1, i2⟩ := L7_loop n (x + 1) (up2 (up2 σ 54 x.toNat 0) 55 x.toNat 0) (by omega) (by omega) (by omega)
      refine ⟨fun c a b => by rw [i1 c a b, up2_cell _ _ _ b, up2_cell _ _ _ a], fun i hi => ?_⟩
      obtain ⟨j1, j2⟩ := i2 i hi
      rw [j1, j2]
      by_cases e : i = x.toNat
      · subst e
        rw [if_pos (by omega), if_neg (by omega), if_pos (by omega), if_neg (by omega)]
        exact ⟨by rw [up2_cell _ _ _ (by decide)]; exact up2_same _ _ _ _, up2_same _ _ _ _⟩
      · by_cases q : (i : Int) < x
        · rw [if_pos (by omega), if_pos q, if_pos (by omega), if_pos q]
          exact ⟨by rw [up2_cell _ _ _ (by decide)]; exact up2_slot _ _ e, by rw [up2_slot _ _ e, up2_cell _ _ _ (by decide)]⟩
        · rw [if_neg (by omega), if_neg q, if_neg (by omega), if_neg q]
          exact ⟨rfl, rfl⟩
theorem L43_loop {n5 : Int} (h40 : n5 ≤ 40) : ∀ (n : Nat) (x : Nat) (σ : Sg), σ 28 5 = n5 → (∀ r, r < 40 → σ 30 r ≤ 12) → 40 - (x : Int) < (n : Int) → (x : Int) ≤ 40 → (∀ c, c ≠ 29 → c ≠ 30 → c ≠ 31 → (L_X10_findSteps_43 n (x : Int) σ) c = σ c) ∧ (∀ r, r < 120 + x → RowS σ (L_X10_findSteps_43 n (x : Int) σ) r) ∧ (∀ (τ : Sg) (c f : Nat), x ≤ f → (f : Int) < n5 → PE τ σ c f → lenOK τ c → PE τ (L_X10_findSteps_43 n (x : Int) σ) c (120 + f))
  | 0, x, σ, h5, hl, h1, h2 => by omega
  | n + 1, x, σ, h5, hl, h1, h2 => by
    rw [L_X10_findSteps_43, h5]
    by_cases c : n5 ≤ (x : Int)
    · rw [if_pos c]
      exact ⟨fun _ _ _ _ => rfl, fun r _ => RowS.rf _ _, fun τ c f a b _ _ => by omega⟩
    · rw [if_neg c]
      have fr : ∀ c, c ≠ 29 → c ≠ 30 → c ≠ 31 → (f_X10_copies σ (x : Int) (120 + (x : Int))) c = σ c := fun c u v w => copies_fr σ _ _ u v w
      have hx := hl x (by omega)
      have rw1 : ∀ r, r ≠ 120 + x → RowS σ (f_X10_copies σ (x : Int) (120 + (x : Int))) r := fun r hr => copies_S (by omega) (by omega) (by omega) (by rw [Int.toNat_natCast]; exact hx) (by omega)
      have hl2 : ∀ r, r < 40 → (f_X10_copies σ (x : Int) (120 + (x : Int))) 30 r ≤ 12 := fun r hr => by rw [(rw1 r (by omega)).2.1]; exact hl r hr
      have pc : ∀ (τ : Sg) (c : Nat), PE τ σ c x → lenOK τ c → PE τ (f_X10_copies σ (x : Int) (120 + (x : Int))) c (120 + x) := fun τ c p l => by
        have := p.co (t := 120 + x) l (by omega)
        rw [show ((120 + x : Nat) : Int) = 120 + (x : Int) by omega] at this
        exact this
      generalize f_X10_copies σ (x : Int) (120 + (x : Int)) = σ' at fr rw1 hl2 pc ⊢
      obtain ⟨i1, i2, i3⟩ := L43_loop h40 n (x + 1) σ' (by rw [fr 28 (by decide) (by decide) (by decide)]; exact h5) hl2 (by omega) (by omega)
      rw [show ((x + 1 : Nat) : Int) = (x : Int) + 1 by omega] at i1 i2 i3
      refine ⟨fun c u v w => (i1 c u v w).trans (fr c u v w), fun r hr => (rw1 r (by omega)).tr (i2 r (by omega)), fun τ d f a b p l => ?_⟩
      by_cases e : f = x
      · subst e
        exact (pc τ d p l).mv l.2 ⟨rfl, rfl⟩ (i2 _ (by omega))
      · exact i3 τ d f (by omega) b (p.mv l.2 ⟨rfl, rfl⟩ (rw1 f (by omega))) l
theorem sm_zz {f : Nat → Int} : ∀ {n : Nat}, (∀ i, i < n → f i = 0) → sm f n = 0
  | 0, _ => rfl
  | n + 1, h => by rw [sm_step, sm_zz (n := n) (fun i hi => h i (by omega)), h n (by omega)]; rfl
theorem sm_nz {f : Nat → Int} : ∀ {n : Nat}, (∀ i, i < n → 0 ≤ f i) → 0 ≤ sm f n ∧ (sm f n ≤ 0 → ∀ i, i < n → f i = 0)
  | 0, _ => ⟨by simp [sm], fun _ i hi => by omega⟩
  | n + 1, h => by
    obtain ⟨a, b⟩ := sm_nz (n := n) (fun i hi => h i (by omega))
    have := h n (by omega)
    rw [sm_step]
    refine ⟨by omega, fun z i hi => ?_⟩
    by_cases e : i = n
    · subst e; omega
    · exact b (by omega) i (by omega)
theorem sm_cg {f g : Nat → Int} : ∀ {n : Nat}, (∀ i, i < n → f i = g i) → sm f n = sm g n
  | 0, _ => rfl
  | n + 1, h => by rw [sm_step, sm_step, sm_cg (n := n) (fun i hi => h i (by omega)), h n (by omega)]
