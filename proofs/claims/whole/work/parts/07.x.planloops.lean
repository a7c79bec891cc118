/-! plan: both loops that make the entries. -/
theorem PB.rf (ρ : Sg) : PB ρ ρ := ⟨fun _ _ _ _ _ => rfl, fun _ _ => rfl⟩
theorem add0 (σ : Sg) (f : Int) (q : Nat) (ctr : Int) : (f_X3_add σ f q ctr).2 0 = σ 0 := by
  unfold f_X3_add
  dsimp only
  rw [up2_cell _ _ _ (by decide)]
  exact begin4_fr σ _ f q ctr (by omega) (by omega) (by omega) (by omega) (by omega)
theorem planX_loop {A ρ : Sg} {cnt R : Nat} (hRc : rc (A 0 6) = R) (hM : WF ρ) (a0 a1 a2 a3 a4 : Int) (hc : cnt ≤ 40) (h33 : A 3 3 ≤ 40) (hg : ∀ g ∈ rl (A 6) cnt, 0 ≤ g ∧ g < A 3 3 ∧ ¬ A 5 g.toNat = 0)
    (hRE : RuleEq A ρ R) (bN : 0 ≤ A R 4 ∧ A R 4 ≤ 12) (b6 : 0 ≤ A R 6 ∧ A R 6 ≤ 12)
    (hPE : ∀ f : Nat, (f : Int) < A 3 3 → ¬ A 5 f = 0 → PE A ρ (59 + 2 * f) f ∧ (1 ≤ A (59 + 2 * f) 2 ∧ A (59 + 2 * f) 2 ≤ 12) ∧ ∀ i : Nat, (i : Int) < A (59 + 2 * f) 2 → A (59 + 2 * f + 1) i ≠ -1) :
    ∀ (n i m : Nat) (σ : Sg), cnt - i < n → i ≤ cnt → m ≤ i → (∀ x, x < 199 → x ≠ 10 → x ≠ 11 → x ≠ 12 → x ≠ 13 → σ x = A x) → (∀ j, j ≠ 5 → σ 13 j = A 13 j) → σ 13 5 = (m : Int) → rl (fun k => σ (439 + k) 3) m = (rl (A 6) i).filter (Pw ρ) → (∀ k, k < m → ∃ f : Nat, f < 40 ∧ EX ρ a1 σ k f (a2 + (k : Int) * a3)) →
    (∀ x, x < 199 → x ≠ 10 → x ≠ 11 → x ≠ 12 → x ≠ 13 → (L_X9_plan_84 a0 a1 a2 a3 a4 n (cnt : Int) (i : Int) σ) x = A x) ∧ (∀ j, j ≠ 5 → (L_X9_plan_84 a0 a1 a2 a3 a4 n (cnt : Int) (i : Int) σ) 13 j = A 13 j) ∧ ∃ m' : Nat, m' ≤ cnt ∧ (L_X9_plan_84 a0 a1 a2 a3 a4 n (cnt : Int) (i : Int) σ) 13 5 = (m' : Int) ∧ rl (fun k => (L_X9_plan_84 a0 a1 a2 a3 a4 n (cnt : Int) (i : Int) σ) (439 + k) 3) m' = (rl (A 6) cnt).filter (Pw ρ) ∧ ∀ k, k < m' → ∃ f : Nat, f < 40 ∧ EX ρ a1 (L_X9_plan_84 a0 a1 a2 a3 a4 n (cnt : Int) (i : Int) σ) k f (a2 + (k : Int) * a3)
  | 0, i, m, σ, f1, hi, hm, hB, h13, h5, hl, hE => by omega
  | n + 1, i, m, σ, f1, hi, hm, hB, h13, h5, hl, hE => by
    rw [L_X9_plan_84]
    by_cases c : (cnt : Int) ≤ (i : Int)
    · rw [if_pos c]
      have : i = cnt := by omega
      subst this
      exact ⟨hB, h13, m, hm, h5, hl, hE⟩
    · have hfull : f_X3_isFull σ = 0 := by
        unfold f_X3_isFull
        rw [if_pos (by omega)]
      rw [if_neg c, if_pos hfull]
      have eL : f_X7_listed σ (i : Int) = A 6 i := by
        unfold f_X7_listed
        rw [if_neg (by omega), if_neg (by omega), Int.toNat_natCast, hB 6 (by decide) (by decide) (by decide) (by decide) (by decide)]
      rw [eL]
      have hgi := hg (A 6 i) (mem_rl (by omega))
      have rli : rl (A 6) (i + 1) = A 6 i :: rl (A 6) i := rfl
      generalize hG : A 6 i = g at hgi rli ⊢
      obtain ⟨g1, g2, g3⟩ := hgi
      have eg : ((g.toNat : Nat) : Int) = g := by omega
      obtain ⟨p1, p2, p3⟩ := hPE g.toNat (by omega) g3
      have hh : ¬ f_X7_has σ g = 0 := by
        unfold f_X7_has
        rw [hB 3 (by decide) (by decide) (by decide) (by decide) (by decide), hB 5 (by decide) (by decide) (by decide) (by decide) (by decide), if_neg (by omega), if_neg (by omega), if_neg (by omega), if_neg g3]
        decide
      rw [if_neg hh, hB 0 (by decide) (by decide) (by decide) (by decide) (by decide)]
      have hRu : isRu R := by rw [← hRc]; exact rc_ru (A 0 6)
      rw [hRc, placeOf_eq]
      have eR : ∀ j, j ≤ 4 → σ (R + j) = A (R + j) := fun j hj => hB _ (by omega) (by omega) (by omega) (by omega) (by omega)
      have eR0 : σ R = A R := eR 0 (by omega)
      have ePl : σ (59 + 2 * g.toNat) = A (59 + 2 * g.toNat) := hB _ (by omega) (by omega) (by omega) (by omega) (by omega)
      have ePl1 : σ (59 + 2 * g.toNat + 1) = A (59 + 2 * g.toNat + 1) := hB _ (by omega) (by omega) (by omega) (by omega) (by omega)
      have rE : RuleEq σ ρ R := hRE.mv eR0 (eR 1 (by omega)) (eR 2 (by omega)) (eR 3 (by omega)) (eR 4 (by omega)) rfl rfl rfl rfl rfl
      have pE : PE σ ρ (59 + 2 * g.toNat) g.toNat := p1.mv p2.2 ⟨ePl, ePl1⟩ (RowS.rf _ _)
      have fs := fit_sim hRu rE (by rw [eR0]; exact bN) (by rw [ePl]; omega) (c := 59 + 2 * g.toNat) (by omega) pE (by rw [ePl, ePl1]; exact p3)
      have pw := isFit_P (PB.rf ρ) hM g1
      rw [eg] at fs
      have xb := match_xb σ R (59 + 2 * g.toNat)
      generalize f_X0_match σ R (59 + 2 * g.toNat) = X at fs xb ⊢
      obtain ⟨fs1, fs2, fs3⟩ := fs
      have hB2 : ∀ x, x < 199 → x ≠ 10 → x ≠ 11 → x ≠ 12 → x ≠ 13 → X.2 x = A x := fun x u0 u1 u2 u3 u4 => by rw [xb x u1 u2 u3]; exact hB x u0 u1 u2 u3 u4
      have h132 : X.2 13 = σ 13 := xb 13 (by decide) (by decide) (by decide)
      have hE2 : ∀ k, k < m → ∃ f : Nat, f < 40 ∧ EX ρ a1 X.2 k f (a2 + (k : Int) * a3) := fun k hk => by
        obtain ⟨f, y1, y2⟩ := hE k hk
        exact ⟨f, y1, y2.mv (xb _ (by omega) (by omega) (by omega)) (fun x u v => xb x (by omega) (by omega) (by omega))⟩
      have hl2 : rl (fun k => X.2 (439 + k) 3) m = (rl (A 6) i).filter (Pw ρ) := by
        rw [← hl]
        exact rl_cg (fun k hk => by rw [xb _ (by omega) (by omega) (by omega)])
      by_cases c2 : X.1 = 0
      · rw [if_pos c2, show ((i : Int) + 1) = ((i + 1 : Nat) : Int) by omega]
        have pf : ¬ Pw ρ g = true := fun z => by have := pw.2.mpr z; omega
        exact planX_loop hRc hM a0 a1 a2 a3 a4 hc h33 hg hRE bN b6 hPE n (i + 1) m X.2 (by omega) (by omega) (by omega) hB2 (fun j hj => by rw [h132]; exact h13 j hj) (by rw [h132]; exact h5) (by rw [hl2, rli, List.filter_cons_of_neg pf]) hE2
      · rw [if_neg c2]
        have pt : Pw ρ g = true := pw.2.mp (by omega)
        unfold f_X3_size
        rw [add0, hB2 0 (by decide) (by decide) (by decide) (by decide) (by decide), h132, h5, placeOf_eq]
        have e2R : ∀ j, j ≤ 4 → X.2 (R + j) = A (R + j) := fun j hj => hB2 _ (by omega) (by omega) (by omega) (by omega) (by omega)
        have e2R0 : X.2 R = A R := e2R 0 (by omega)
        have e2P : X.2 (59 + 2 * g.toNat) = A (59 + 2 * g.toNat) := hB2 _ (by omega) (by omega) (by omega) (by omega) (by omega)
        have e2P1 : X.2 (59 + 2 * g.toNat + 1) = A (59 + 2 * g.toNat + 1) := hB2 _ (by omega) (by omega) (by omega) (by omega) (by omega)
        have fs4 := fs3 (by omega)
        obtain ⟨σ', q1, q2, q3, q4, q5⟩ := plan_add (σ := X.2) (ρ := ρ) (f := g.toNat) (m := m) hRu (by omega) (by omega) (hRE.mv e2R0 (e2R 1 (by omega)) (e2R 2 (by omega)) (e2R 3 (by omega)) (e2R 4 (by omega)) rfl rfl rfl rfl rfl) (by rw [e2R0]; exact bN) (by rw [e2R0]; exact b6) (by rw [e2P]; exact p2) (p1.mv p2.2 ⟨e2P, e2P1⟩ (RowS.rf _ _)) (fun j hj => by
            rw [e2R0] at hj
            have := fs4 j (by rw [eR0]; exact hj)
            rw [e2P, ← ePl]
            have et : tF ρ g.toNat = (f_X10_isFit ρ g).2 40 := by unfold tF; rw [eg]
            rw [et]
            exact this) (by rw [h132]; exact h5) (a2 + (m : Int) * a3) a1
        rw [eg] at q1
        rw [hRc, q1, show ((i : Int) + 1) = ((i + 1 : Nat) : Int) by omega]
        exact planX_loop hRc hM a0 a1 a2 a3 a4 hc h33 hg hRE bN b6 hPE n (i + 1) (m + 1) σ' (by omega) (by omega) (by omega) (fun x u0 u1 u2 u3 u4 => by rw [q5 x u4 (by omega) (by omega)]; exact hB2 x u0 u1 u2 u3 u4) (fun j hj => by rw [q4 j hj, h132]; exact h13 j hj) (by rw [q3]; omega) (by
          have e3 : σ' (439 + m) 3 = g := by rw [q2.1, eg]
          rw [rl, e3, rli, List.filter_cons_of_pos pt, ← hl2]
          congr 1
          exact rl_cg (fun k hk => by rw [q5 _ (by omega) (by omega) (by omega)])) (fun k hk => by
          by_cases w : k = m
          · subst w
            exact ⟨g.toNat, by omega, q2⟩
          · obtain ⟨f, y1, y2⟩ := hE2 k (by omega)
            exact ⟨f, y1, y2.mv (q5 _ (by omega) (by omega) (by omega)) (fun x u v => q5 x (by omega) (by omega) (by omega))⟩)
/-- an entry of the reference's plan -/
def EM (ρ : Sg) (to : Int) (σ : Sg) (k f : Nat) (ctr : Int) : Prop := σ 43 k = ctr ∧ NLM σ k (nL ρ f ctr) ∧ σ 30 (80 + k) = min 12 ((nL ρ f ctr).length : Int) ∧ σ 31 (80 + k) = to ∧ (σ 47 k = 0 ∨ σ 47 k = 1) ∧ (σ 47 k = 1 ↔ StP ρ to f (nL ρ f ctr))
/-- what the reference's naming of all leaves alone -/
def MB (B σ : Sg) : Prop := (∀ x, x ≠ 29 → x ≠ 30 → x ≠ 31 → x ≠ 40 → x ≠ 41 → x ≠ 43 → x ≠ 44 → x ≠ 47 → σ x = B x) ∧ (∀ j, j < 960 → σ 29 j = B 29 j) ∧ (∀ r, r < 80 → σ 30 r = B 30 r ∧ σ 31 r = B 31 r)
/-- the reference names one planned file -/
theorem makes_ok {ρ B σ : Sg} (hM : WF ρ) (hPB : PB ρ B) (hR : RM ρ) (hB : MB B σ) {k f : Nat} (hk : k < 40) (hf : f < 40) (h42 : B 42 k = (f : Int)) (hp : Pw ρ (f : Int) = true) (hb : ∀ i : Nat, (i : Int) < ρ 30 f → 0 ≤ nmR ρ f i ∧ nmR ρ f i ≤ 127) {ctr to : Int} (h0 : 0 ≤ ctr) (h4 : ctr < 10000) (h43 : σ 43 k = ctr) :
    NLM (f_X10_makes σ (k : Int)) k (nL ρ f ctr) ∧ (f_X10_makes σ (k : Int)) 30 (80 + k) = min 12 ((nL ρ f ctr).length : Int) ∧ (∀ j, j ≠ k → (f_X10_makes σ (k : Int)) 44 j = σ 44 j) ∧ (∀ j, (j < 12 * (80 + k) ∨ 12 * (80 + k) + 12 ≤ j) → (f_X10_makes σ (k : Int)) 29 j = σ 29 j) ∧ (∀ r, r ≠ 80 + k → (f_X10_makes σ (k : Int)) 30 r = σ 30 r) ∧ ∀ x, x ≠ 29 → x ≠ 30 → x ≠ 40 → x ≠ 41 → x ≠ 44 → (f_X10_makes σ (k : Int)) x = σ x := by
  have fr : ∀ x, x ≠ 29 → x ≠ 30 → x ≠ 40 → x ≠ 41 → x ≠ 44 → (f_X10_makes σ (k : Int)) x = σ x := fun x a b c d e => makes_fr σ _ a b c d e
  have e42 : σ 42 k = (f : Int) := by rw [hB.1 42 (by decide) (by decide) (by decide) (by decide) (by decide) (by decide) (by decide) (by decide)]; exact h42
  have e28 : ∀ j, j ≠ 26 → σ 28 j = ρ 28 j := fun j hj => by rw [hB.1 28 (by decide) (by decide) (by decide) (by decide) (by decide) (by decide) (by decide) (by decide)]; exact hPB.2 j hj
  have ec : ∀ x, (x = 34 ∨ x = 35 ∨ x = 36) → σ x = ρ x := fun x hx => by rw [hB.1 x (by omega) (by omega) (by omega) (by omega) (by omega) (by omega) (by omega) (by omega)]; exact hPB.1 x (by omega) (by omega) (by omega) (by omega)
  have e29 : ∀ j, j < 960 → σ 29 j = ρ 29 j := fun j hj => by rw [hB.2.1 j hj, hPB.1 29 (by decide) (by decide) (by decide) (by decide)]
  have e30 : ∀ r, r < 80 → σ 30 r = ρ 30 r := fun r hr => by rw [(hB.2.2 r hr).1, hPB.1 30 (by decide) (by decide) (by decide) (by decide)]
  have b10 := bd_28_10 hM
  have b11 := bd_28_11 hM
  have b30 := bd_30 hM f
  -- fitting, in this state and in the first
  have g := isFit_sim (ρ := σ) (r := f) (by rw [e30 f (by omega)]; exact b30) (by rw [e28 10 (by decide)]; exact b10)
  have g0 := isFit_sim (ρ := ρ) (r := f) b30 b10
  have bs := isFit_bs σ (f : Int)
  unfold f_X10_makes at fr ⊢
  rw [Int.toNat_natCast, e42] at fr ⊢
  obtain ⟨-, -, g3, g4, -, g6⟩ := g
  obtain ⟨-, -, -, g04, -, g06⟩ := g0
  rw [Nat.sub_zero] at g4 g6 g04 g06
  have wy : Wy (ρ 34) (nmR ρ f) (ρ 30 f) (ρ 28 10).toNat 0 0 := by
    have := hp
    unfold Pw at this
    have := (@decide_eq_true_iff _ (Classical.propDecidable _)).mp this
    rw [Int.toNat_natCast] at this
    exact this
  have c0 : Ch (ρ 34) (nmR ρ f) (ρ 30 f) (tF ρ f) (ρ 28 10).toNat 0 0 := g06 (g04.mpr wy)
  rw [ec 34 (by omega), e30 f (by omega), e28 10 (by decide)] at g4 g6
  -- names agree only where they are read: carry the ways over
  have wcg : ∀ (d q : Nat) (p : Int), 0 ≤ p → (Wy (ρ 34) (nmR σ f) (ρ 30 f) d q p ↔ Wy (ρ 34) (nmR ρ f) (ρ 30 f) d q p) := by
    have ok : ∀ (q : Nat) (p n : Int), 0 ≤ p → (Okn (ρ 34) (nmR σ f) (ρ 30 f) q p n ↔ Okn (ρ 34) (nmR ρ f) (ρ 30 f) q p n) := by
      intro q p n p0
      have nmE : ∀ i : Nat, (i : Int) < ρ 30 f → nmR σ f i = nmR ρ f i := fun i hi => e29 _ (by omega)
      unfold Okn
      constructor
      · rintro (z | z | z)
        · exact Or.inl z
        · exact Or.inr (Or.inl ⟨z.1, z.2.1, z.2.2.1, fun i a b => by rw [← nmE i (by omega)]; exact z.2.2.2 i a b⟩)
        · exact Or.inr (Or.inr ⟨z.1, z.2.1, z.2.2.1, z.2.2.2.1, by rw [← nmE p.toNat (by omega)]; exact z.2.2.2.2⟩)
      · rintro (z | z | z)
        · exact Or.inl z
        · exact Or.inr (Or.inl ⟨z.1, z.2.1, z.2.2.1, fun i a b => by rw [nmE i (by omega)]; exact z.2.2.2 i a b⟩)
        · exact Or.inr (Or.inr ⟨z.1, z.2.1, z.2.2.1, z.2.2.2.1, by rw [nmE p.toNat (by omega)]; exact z.2.2.2.2⟩)
    intro d
    induction d with
    | zero => intro q p _; exact Iff.rfl
    | succ d ih =>
      intro q p p0
      constructor
      · rintro ⟨n, a, b⟩
        exact ⟨n, (ok q p n p0).mp a, (ih _ _ (by have := a.rng; omega)).mp b⟩
      · rintro ⟨n, a, b⟩
        exact ⟨n, (ok q p n p0).mpr a, (ih _ _ (by have := a.rng; omega)).mpr b⟩
  have F1 : (f_X10_isFit σ (f : Int)).1 = 1 := g4.mpr ((wcg _ _ _ (by omega)).mpr wy)
  have c1 := g6 F1
  have chg : ∀ (d q : Nat) (p : Int) (t : Nat → Int), 0 ≤ p → Ch (ρ 34) (nmR σ f) (ρ 30 f) t d q p → Ch (ρ 34) (nmR ρ f) (ρ 30 f) t d q p := by
    have ok : ∀ (q : Nat) (p n : Int), 0 ≤ p → (Okn (ρ 34) (nmR σ f) (ρ 30 f) q p n ↔ Okn (ρ 34) (nmR ρ f) (ρ 30 f) q p n) := by
      intro q p n p0
      have nmE : ∀ i : Nat, (i : Int) < ρ 30 f → nmR σ f i = nmR ρ f i := fun i hi => e29 _ (by omega)
      unfold Okn
      constructor
      · rintro (z | z | z)
        · exact Or.inl z
        · exact Or.inr (Or.inl ⟨z.1, z.2.1, z.2.2.1, fun i a b => by rw [← nmE i (by omega)]; exact z.2.2.2 i a b⟩)
        · exact Or.inr (Or.inr ⟨z.1, z.2.1, z.2.2.1, z.2.2.2.1, by rw [← nmE p.toNat (by omega)]; exact z.2.2.2.2⟩)
      · rintro (z | z | z)
        · exact Or.inl z
        · exact Or.inr (Or.inl ⟨z.1, z.2.1, z.2.2.1, fun i a b => by rw [nmE i (by omega)]; exact z.2.2.2 i a b⟩)
        · exact Or.inr (Or.inr ⟨z.1, z.2.1, z.2.2.1, z.2.2.2.1, by rw [nmE p.toNat (by omega)]; exact z.2.2.2.2⟩)
    intro d
    induction d with
    | zero => intro q p t _ _; exact trivial
    | succ d ih =>
      intro q p t p0 h
      obtain ⟨⟨h1, h2, h3⟩, h5⟩ := h
      have r := h1.rng
      refine ⟨⟨(ok _ _ _ p0).mp h1, (wcg _ _ _ (by omega)).mp h2, fun n' o w => h3 n' ((ok _ _ _ p0).mpr o) ((wcg _ _ _ (by have := o.rng; omega)).mpr w)⟩, ih _ _ _ (by omega) h5⟩
  have c2 := chg _ _ _ _ (by omega) c1
  have teq : ∀ j : Nat, (j : Int) < ρ 28 10 → (f_X10_isFit σ (f : Int)).2 40 j = tF ρ f j := fun j hj => Ch.uq _ _ _ c2 c0 j (by omega) (by omega)
  have trng : ∀ j : Nat, (j : Int) < ρ 28 10 → 0 ≤ (f_X10_isFit σ (f : Int)).2 40 j ∧ 0 ≤ sm ((f_X10_isFit σ (f : Int)).2 40) j ∧ sm ((f_X10_isFit σ (f : Int)).2 40) j + (f_X10_isFit σ (f : Int)).2 40 j ≤ ρ 30 f := fun j hj => by
    have := Ch.rng _ _ _ c2 (by omega) j (by omega) (by omega)
    have s0 : sm ((f_X10_isFit σ (f : Int)).2 40) 0 = 0 := rfl
    rw [s0] at this
    omega
  generalize f_X10_isFit σ (f : Int) = F at F1 bs teq trng fr ⊢
  have u44 : ∀ x, x ≠ 44 → (up2 F.2 44 k 0) x = F.2 x := fun x hx => up2_cell _ _ _ hx
  have hRs : RM (up2 F.2 44 k 0) := by
    intro p hp'
    have q28 : ∀ j, j ≠ 26 → (up2 F.2 44 k 0) 28 j = ρ 28 j := fun j hj => by rw [u44 28 (by decide), bs 28 (by decide) (by decide)]; exact e28 j hj
    have qc : ∀ x, (x = 34 ∨ x = 35 ∨ x = 36) → (up2 F.2 44 k 0) x = ρ x := fun x hx => by rw [u44 x (by omega), bs x (by omega) (by omega)]; exact ec x hx
    rw [q28 11 (by decide)] at hp'
    rw [qc 35 (by omega), qc 36 (by omega), wild_congr (q28 10 (by decide)) (qc 34 (by omega)), q28 10 (by decide)]
    exact hR p hp'
  have q28 : ∀ j, j ≠ 26 → (up2 F.2 44 k 0) 28 j = ρ 28 j := fun j hj => by rw [u44 28 (by decide), bs 28 (by decide) (by decide)]; exact e28 j hj
  have qc : ∀ x, (x = 34 ∨ x = 35 ∨ x = 36) → (up2 F.2 44 k 0) x = ρ x := fun x hx => by rw [u44 x (by omega), bs x (by omega) (by omega)]; exact ec x hx
  have nm := nameM_loop (ρ := up2 F.2 44 k 0) (k := k) (f := f) hf (nm := nmR ρ f) (t := F.2 40) (lo := ρ 30 f) (ctr := ctr) h0 h4 hRs (by rw [q28 10 (by decide)]; exact b10.2) (is := F.1) (by omega) 13 0 (up2 F.2 44 k 0) ⟨fun j hj => by rw [q28 10 (by decide)] at hj; exact trng j hj, b30.2, fun i hi => ⟨by rw [u44 29 (by decide), bs 29 (by decide) (by decide)]; exact e29 _ (by omega), hb i hi⟩, by rw [u44 43 (by decide), bs 43 (by decide) (by decide)]; exact h43, rfl, rfl, rfl, rfl, u44 40 (by decide)⟩ (by rw [q28 11 (by decide)]; omega) (by rw [q28 11 (by decide)]; omega) ⟨by rw [up2_same]; rfl, fun i _ h => by simp [nlS] at h⟩
  rw [show ((0 : Nat) : Int) = 0 by decide, q28 11 (by decide), qc 35 (by omega), qc 36 (by omega)] at nm
  have wE : (fun p => f_X10_wild (up2 F.2 44 k 0) (ρ 36 p)) = fun p => f_X10_wild ρ (ρ 36 p) := by
    funext p
    exact wild_congr (q28 10 (by decide)) (qc 34 (by omega)) _
  rw [wE, nlS_cg hR teq _ (by omega)] at nm
  generalize L_X10_makes_23 (k : Int) 13 (f : Int) F.1 0 (up2 F.2 44 k 0) = S at nm fr ⊢
  obtain ⟨n1, n2⟩ := nm
  replace n1 : NLM S k (nL ρ f ctr) := n1
  rw [show (80 + (k : Int)).toNat = 80 + k by omega] at fr ⊢
  refine ⟨⟨by rw [up2_cell _ _ _ (by decide)]; exact n1.1, fun i a b => by rw [up2_cell _ _ _ (by decide)]; exact n1.2 i a b⟩, by rw [up2_same, n1.1], fun j hj => ?_, fun j hj => ?_, fun r hr => ?_, fr⟩
  · rw [up2_cell _ _ _ (by decide), n2.2.1 j hj, up2_slot _ _ hj, bs 44 (by decide) (by decide)]
  · rw [up2_cell _ _ _ (by decide), n2.2.2 j hj, u44 29 (by decide), bs 29 (by decide) (by decide)]
  · rw [up2_slot _ _ hr, n2.1 30 (by decide) (by decide), u44 30 (by decide), bs 30 (by decide) (by decide)]
