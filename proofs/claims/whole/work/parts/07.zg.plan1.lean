theorem t_rng {ρ : Sg} (hM : WF ρ) {f : Nat} (hp : Pw ρ (f : Int) = true) : ∀ j : Nat, (j : Int) < ρ 28 10 → 0 ≤ tF ρ f j ∧ 0 ≤ sm (tF ρ f) j ∧ sm (tF ρ f) j + tF ρ f j ≤ ρ 30 f := fun j hj => by
  have g0 := isFit_sim (ρ := ρ) (r := f) (bd_30 hM f) (bd_28_10 hM)
  obtain ⟨-, -, -, g04, -, g06⟩ := g0
  rw [Nat.sub_zero] at g04 g06
  have wy : Wy (ρ 34) (nmR ρ f) (ρ 30 f) (ρ 28 10).toNat 0 0 := by
    have := hp
    unfold Pw at this
    have := (@decide_eq_true_iff _ (Classical.propDecidable _)).mp this
    rw [Int.toNat_natCast] at this
    exact this
  have c0 : Ch (ρ 34) (nmR ρ f) (ρ 30 f) (tF ρ f) (ρ 28 10).toNat 0 0 := g06 (g04.mpr wy)
  have := Ch.rng _ 0 0 c0 (by omega) j (by omega) (by omega)
  have z : sm (tF ρ f) 0 = 0 := rfl
  rw [z] at this
  omega
/-- the files of a plan and their new names, on both sides -/
def EN (ρ : Sg) (a1 a2 a3 : Int) (τ T P : Sg) (m : Nat) : Prop := m ≤ 40 ∧ T 13 5 = (m : Int) ∧ P 28 26 = (m : Int) ∧ (∀ x, x < 199 → x ≠ 6 → x ≠ 10 → x ≠ 11 → x ≠ 12 → x ≠ 13 → T x = τ x) ∧ (∀ j, j ≠ 5 → T 13 j = τ 13 j) ∧
  (∀ x, (x < 28 ∨ 31 < x) → (x < 40 ∨ 44 < x) → x ≠ 47 → P x = ρ x) ∧ (∀ j, j ≠ 26 → P 28 j = ρ 28 j) ∧ (∀ r, r < 80 → RowS ρ P r) ∧ (∀ i j, i < m → j < m → P 42 i = P 42 j → i = j) ∧
  ∀ k, k < m → ∃ f : Nat, f < 40 ∧ (f : Int) < τ 3 3 ∧ ¬ τ 5 f = 0 ∧ P 42 k = (f : Int) ∧ EX ρ a1 T k f (a2 + (k : Int) * a3) ∧ EM ρ a1 P k f (a2 + (k : Int) * a3) ∧ ∀ b ∈ nL ρ f (a2 + (k : Int) * a3), nb b
theorem plan_entries {τ ρ : Sg} (hS : SimS τ ρ) (hW : WF τ) (hM : WF ρ) (hN : ∀ f : Nat, (f : Int) < τ 3 3 → ¬ τ 5 f = 0 → NmOK τ (59 + 2 * f)) (hRE : RuleEq τ ρ (rc (τ 0 6))) (h5 : τ 13 5 = 0) (h26 : ρ 28 26 = 0) (a0 a1 a2 a3 a4 : Int) (h2 : 0 ≤ a2 ∧ a2 ≤ 999) (h3 : 1 ≤ a3 ∧ a3 ≤ 99) :
    ∃ m, EN ρ a1 a2 a3 τ (L_X9_plan_84 a0 a1 a2 a3 a4 41 (f_X7_list τ a0 a4).1 0 (f_X7_list τ a0 a4).2) (L_X10_plan_208 a0 a1 a2 a3 a4 41 0 (L_X10_plan_82 a0 a1 a2 a3 a4 41 0 ρ)) m := by
  have b3 := bd_3_3 hW
  have hru := rc_ru (τ 0 6)
  have ll := list_loop hS hW hM a0 a1 a2 a3 a4 41 0 0 0 τ ρ (by omega) (by omega) (by omega) (fun _ _ => rfl) (PB.rf ρ) (by rw [h26]; rfl) rfl trivial List.nodup_nil (fun g hg => by cases hg) (by omega)
  rw [show ((0 : Nat) : Int) = 0 by decide] at ll
  unfold f_X7_list
  generalize L_X7_list_5 a0 a4 41 0 0 τ = LX at ll ⊢
  generalize hB : L_X10_plan_82 a0 a1 a2 a3 a4 41 0 ρ = B at ll ⊢
  clear hB
  obtain ⟨cnt, cM, l1, l2, l3, l4, l5, l6, l7, l8⟩ := ll
  obtain ⟨c, A⟩ := LX
  dsimp only at l1 l2 l5 l6 l7 ⊢
  subst l1
  have cell : ∀ x, x ≠ 6 → A x = τ x := l2
  have e3 : A 3 = τ 3 := cell 3 (by decide)
  have e5 : A 5 = τ 5 := cell 5 (by decide)
  have e0 : A 0 = τ 0 := cell 0 (by decide)
  have e13 : A 13 = τ 13 := cell 13 (by decide)
  have eR : ∀ j, j ≤ 4 → A (rc (τ 0 6) + j) = τ (rc (τ 0 6) + j) := fun j hj => cell _ (by omega)
  have eR0 : A (rc (τ 0 6)) = τ (rc (τ 0 6)) := eR 0 (by omega)
  have rE : RuleEq A ρ (rc (τ 0 6)) := hRE.mv eR0 (eR 1 (by omega)) (eR 2 (by omega)) (eR 3 (by omega)) (eR 4 (by omega)) rfl rfl rfl rfl rfl
  have hPE : ∀ f : Nat, (f : Int) < A 3 3 → ¬ A 5 f = 0 → PE A ρ (59 + 2 * f) f ∧ (1 ≤ A (59 + 2 * f) 2 ∧ A (59 + 2 * f) 2 ≤ 12) ∧ ∀ i : Nat, (i : Int) < A (59 + 2 * f) 2 → A (59 + 2 * f + 1) i ≠ -1 := fun f hf he => by
    rw [e3] at hf
    rw [e5] at he
    have b := bd_Pl_2 hW (c := 59 + 2 * f) (by omega)
    obtain ⟨n1, n2⟩ := hN f hf he
    have p0 := cell (59 + 2 * f) (by omega)
    have p1 := cell (59 + 2 * f + 1) (by omega)
    refine ⟨(hS.2.2.2.1 f hf).mv b.2 ⟨p0, p1⟩ (RowS.rf _ _), by rw [p0]; omega, fun i hi => ?_⟩
    rw [p0] at hi
    rw [p1]
    have := n2 i hi
    unfold nb at this
    omega
  have hg : ∀ g ∈ rl (A 6) cnt, 0 ≤ g ∧ g < A 3 3 ∧ ¬ A 5 g.toNat = 0 := fun g hg => by
    have := l7 g hg
    rw [e3, e5]
    exact ⟨this.1, this.2.1, this.2.2.1⟩
  have px := planX_loop (A := A) (ρ := ρ) (cnt := cnt) (R := rc (τ 0 6)) (by rw [e0]) hM a0 a1 a2 a3 a4 l8 (by rw [e3]; exact b3.2) hg rE (by rw [eR0]; exact bd_Ru_4 hW hru) (by rw [eR0]; exact bd_Ru_6 hW hru) hPE 41 0 0 A (by omega) (by omega) (by omega) (fun _ _ _ _ _ _ => rfl) (fun _ _ => rfl) (by rw [e13, h5]; rfl) rfl (fun k hk => by omega)
  rw [show ((0 : Nat) : Int) = 0 by decide] at px
  generalize L_X9_plan_84 a0 a1 a2 a3 a4 41 (cnt : Int) 0 A = T at px ⊢
  obtain ⟨x1, x2, m, x3, x4, x5, x6⟩ := px
  -- both have the same files
  have inj := rl_inj (l5.trans x5.symm)
  obtain ⟨em, ef⟩ := inj
  subst em
  have fl : ∀ j, j < cM → B 42 j ∈ rl (A 6) cnt ∧ Pw ρ (B 42 j) = true := fun j hj => by
    have : B 42 j ∈ rl (B 42) cM := mem_rl hj
    rw [l5] at this
    exact List.mem_filter.mp this
  have nd : (rl (B 42) cM).Nodup := by rw [l5]; exact l6.filter _
  have nR : ∀ f : Nat, (f : Int) < τ 3 3 → ¬ τ 5 f = 0 → ∀ i : Nat, (i : Int) < ρ 30 f → nb (nmR ρ f i) := fun f hf he i hi => by
    obtain ⟨q1, q2, q3⟩ := hS.2.2.2.1 f hf
    have := (hN f hf he).2 i (by rw [q2]; exact hi)
    rw [q3 i (by rw [q2]; exact hi)] at this
    exact this
  have hctr : ∀ j : Nat, j < 40 → 0 ≤ a2 + (j : Int) * a3 ∧ a2 + (j : Int) * a3 < 10000 := fun j hj => by
    have u : 0 ≤ (j : Int) * a3 := Int.mul_nonneg (by omega) (by omega)
    have v : (j : Int) * a3 ≤ 39 * a3 := Int.mul_le_mul_of_nonneg_right (by omega) (by omega)
    omega
  have hf : ∀ j : Nat, j < cM → 0 ≤ B 42 j ∧ B 42 j < 40 ∧ Pw ρ (B 42 j) = true ∧ ∀ i : Nat, (i : Int) < ρ 30 (B 42 j).toNat → 0 ≤ nmR ρ (B 42 j).toNat i ∧ nmR ρ (B 42 j).toNat i ≤ 127 := fun j hj => by
    obtain ⟨w1, w2⟩ := fl j hj
    obtain ⟨v1, v2, v3, v4⟩ := l7 _ w1
    refine ⟨v1, by omega, w2, fun i hi => ?_⟩
    have := nR (B 42 j).toNat (by omega) v3 i hi
    unfold nb at this
    omega
  have pm := planM_loop (ρ := ρ) (B := B) hM l3 hRE.rm (cM := cM) (by omega) l4 a0 a1 a2 a3 a4 hctr hf 41 0 B (by omega) (by omega) ⟨fun _ _ _ _ _ _ _ _ _ => rfl, fun _ _ => rfl, fun _ _ => ⟨rfl, rfl⟩⟩ (fun j hj => by omega)
  rw [show ((0 : Nat) : Int) = 0 by decide] at pm
  generalize L_X10_plan_208 a0 a1 a2 a3 a4 41 0 B = P at pm ⊢
  obtain ⟨⟨m1, m2, m3⟩, m4⟩ := pm
  have P42 : P 42 = B 42 := m1 42 (by decide) (by decide) (by decide) (by decide) (by decide) (by decide) (by decide) (by decide)
  have P28 : P 28 = B 28 := m1 28 (by decide) (by decide) (by decide) (by decide) (by decide) (by decide) (by decide) (by decide)
  refine ⟨cM, by omega, x4, by rw [P28]; exact l4, fun x u1 u2 u3 u4 u5 u6 => by rw [x1 x u1 u3 u4 u5 u6]; exact cell x u2, fun j hj => by rw [x2 j hj, e13], fun x u1 u2 u3 => by rw [m1 x (by omega) (by omega) (by omega) (by omega) (by omega) (by omega) (by omega) u3]; exact l3.1 x (by omega) (by omega) (by omega) (by omega), fun j hj => by rw [P28]; exact l3.2 j hj, fun r hr => ⟨by rw [(m3 r hr).2, l3.1 31 (by decide) (by decide) (by decide) (by decide)], by rw [(m3 r hr).1, l3.1 30 (by decide) (by decide) (by decide) (by decide)], fun i hi => by rw [m2 _ (by omega), l3.1 29 (by decide) (by decide) (by decide) (by decide)]⟩, ?_, ?_⟩
  · rw [P42]
    exact fun i j hi hj e => rl_nodup nd i j hi hj e
  · intro k hk
    obtain ⟨f, f1, f2⟩ := x6 k hk
    have e1 : B 42 k = (f : Int) := (ef k hk).trans f2.1
    obtain ⟨w1, w2⟩ := fl k hk
    obtain ⟨v1, v2, v3, v4⟩ := l7 _ w1
    have mk := m4 k hk
    rw [e1] at w2 v2 v3 mk
    rw [Int.toNat_natCast] at v3 mk
    refine ⟨f, f1, v2, v3, by rw [P42]; exact e1, f2, mk, ?_⟩
    unfold nL
    exact nlS_nb (lo := ρ 30 f) (hctr k (by omega)).1 hRE.rm (t_rng hM w2) (nR f v2 v3) _ (by have := bd_28_11 hM; omega)
