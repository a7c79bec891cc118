theorem rl_len (a : Nat → Int) : ∀ n : Nat, (rl a n).length = n
  | 0 => rfl
  | n + 1 => by simp only [rl, List.length_cons]; rw [rl_len a n]
theorem early_cg {ρ σ : Sg} (h29 : σ 29 = ρ 29) (h30 : σ 30 = ρ 30) (a b : Int) : f_X10_isEarlier σ a b = f_X10_isEarlier ρ a b := by
  have : ∀ (n : Nat) (x : Int), L_X10_isEarlier_2 σ a b n x = L_X10_isEarlier_2 ρ a b n x := by
    intro n
    induction n with
    | zero => intro x; rfl
    | succ n ih => intro x; rw [L_X10_isEarlier_2, L_X10_isEarlier_2, h29, h30, ih]
  exact this _ _
/-- whether the file f fits the rule -/
noncomputable def Pw (ρ : Sg) (f : Int) : Bool := @decide (Wy (ρ 34) (nmR ρ f.toNat) (ρ 30 f.toNat) (ρ 28 10).toNat 0 0) (Classical.propDecidable _)
def PB (ρ σ : Sg) : Prop := (∀ x, x ≠ 28 → x ≠ 40 → x ≠ 41 → x ≠ 42 → σ x = ρ x) ∧ ∀ k, k ≠ 26 → σ 28 k = ρ 28 k
theorem isFit_P {ρ σ : Sg} (hB : PB ρ σ) (hM : WF ρ) {f : Int} (h0 : 0 ≤ f) : ((f_X10_isFit σ f).1 = 0 ∨ (f_X10_isFit σ f).1 = 1) ∧ ((f_X10_isFit σ f).1 = 1 ↔ Pw ρ f = true) := by
  have b30 := bd_30 hM f.toNat
  have b10 := bd_28_10 hM
  have e30 := hB.1 30 (by decide) (by decide) (by decide) (by decide)
  have e29 := hB.1 29 (by decide) (by decide) (by decide) (by decide)
  have e34 := hB.1 34 (by decide) (by decide) (by decide) (by decide)
  have e10 := hB.2 10 (by decide)
  have g := isFit_sim (ρ := σ) (r := f.toNat) (by rw [e30]; exact b30) (by rw [e10]; exact b10)
  rw [show ((f.toNat : Nat) : Int) = f by omega] at g
  obtain ⟨-, -, g3, g4, -, -⟩ := g
  refine ⟨g3, g4.trans ?_⟩
  have en : nmR σ f.toNat = nmR ρ f.toNat := by funext i; show σ 29 _ = ρ 29 _; rw [e29]
  rw [e30, e34, e10, en, Nat.sub_zero]
  unfold Pw
  exact (@decide_eq_true_iff _ (Classical.propDecidable _)).symm
theorem list_loop {τ ρ : Sg} (hS : SimS τ ρ) (hW : WF τ) (hM : WF ρ) (a0 a1 a2 a3 a4 : Int) : ∀ (n : Nat) (x : Int) (cnt cM : Nat) (σX σM : Sg), 40 - x < (n : Int) → 0 ≤ x → x ≤ τ 3 3 → (∀ y, y ≠ 6 → σX y = τ y) → PB ρ σM → σM 28 26 = (cM : Int) → rl (σM 42) cM = (rl (σX 6) cnt).filter (Pw ρ) → Srt (ltB ρ a4) (rl (σX 6) cnt) → (rl (σX 6) cnt).Nodup → (∀ g ∈ rl (σX 6) cnt, 0 ≤ g ∧ g < x ∧ ¬ τ 5 g.toNat = 0 ∧ τ (59 + 2 * g.toNat) 1 = a0) → (cnt : Int) ≤ x →
    ∃ (cnt' cM' : Nat), (L_X7_list_5 a0 a4 n (cnt : Int) x σX).1 = (cnt' : Int) ∧ (∀ y, y ≠ 6 → (L_X7_list_5 a0 a4 n (cnt : Int) x σX).2 y = τ y) ∧ PB ρ (L_X10_plan_82 a0 a1 a2 a3 a4 n x σM) ∧ (L_X10_plan_82 a0 a1 a2 a3 a4 n x σM) 28 26 = (cM' : Int) ∧
      rl ((L_X10_plan_82 a0 a1 a2 a3 a4 n x σM) 42) cM' = (rl ((L_X7_list_5 a0 a4 n (cnt : Int) x σX).2 6) cnt').filter (Pw ρ) ∧ (rl ((L_X7_list_5 a0 a4 n (cnt : Int) x σX).2 6) cnt').Nodup ∧ (∀ g ∈ rl ((L_X7_list_5 a0 a4 n (cnt : Int) x σX).2 6) cnt', 0 ≤ g ∧ g < τ 3 3 ∧ ¬ τ 5 g.toNat = 0 ∧ τ (59 + 2 * g.toNat) 1 = a0) ∧ cnt' ≤ 40
  | 0, x, cnt, cM, σX, σM, f1, h0, h1, hX, hB, h26, hl, hs, hn, hg, hc => by have := bd_3_3 hW; omega
  | n + 1, x, cnt, cM, σX, σM, f1, h0, h1, hX, hB, h26, hl, hs, hn, hg, hc => by
    have b3 := bd_3_3 hW
    rw [L_X7_list_5, L_X10_plan_82, hX 3 (by decide), hX 5 (by decide), hB.2 5 (by decide), hB.1 32 (by decide) (by decide) (by decide) (by decide), hB.1 31 (by decide) (by decide) (by decide) (by decide), ← hS.1]
    by_cases c1 : τ 3 3 ≤ x
    · rw [if_pos c1, if_pos c1]
      exact ⟨cnt, cM, rfl, hX, hB, h26, hl, hn, fun g hg' => by have := hg g hg'; exact ⟨this.1, by omega, this.2.2⟩, by omega⟩
    · rw [if_neg c1, if_neg c1, hS.2.2.1 x.toNat (by omega), hX (59 + 2 * x.toNat) (by omega), (hS.2.2.2.1 x.toNat (by omega)).1]
      have mono : ∀ g ∈ rl (σX 6) cnt, 0 ≤ g ∧ g < x + 1 ∧ ¬ τ 5 g.toNat = 0 ∧ τ (59 + 2 * g.toNat) 1 = a0 := fun g hg' => by have := hg g hg'; exact ⟨this.1, by omega, this.2.2⟩
      by_cases c2 : ρ 32 x.toNat = 0
      · rw [if_pos c2, if_pos c2]
        exact list_loop hS hW hM a0 a1 a2 a3 a4 n (x + 1) cnt cM σX σM (by omega) (by omega) (by omega) hX hB h26 hl hs hn mono (by omega)
      · rw [if_neg c2, if_neg c2]
        by_cases c3 : ρ 31 x.toNat = a0
        · rw [if_pos c3, if_pos c3]
          -- the class inserts
          have hltX : ∀ σ : Sg, (∀ y, y ≠ 6 → σ y = τ y) → ∀ g, (a4 = 0 → ltB ρ a4 x g = false) ∧ (0 ≤ g ∧ g < τ 3 3 → ¬ a4 = 0 → (f_X7_isNamedBefore σ x g = 0 ↔ ltB ρ a4 x g = false)) := by
            intro σ hσ g
            refine ⟨fun z => f_ltB (Or.inl z), fun hg' z => ?_⟩
            have p1 := (hS.2.2.2.1 x.toNat (by omega)).mv (bd_Pl_2 hW (by omega)).2 ⟨hσ _ (by omega), hσ _ (by omega)⟩ (RowS.rf ρ _)
            have p2 := (hS.2.2.2.1 g.toNat (by omega)).mv (bd_Pl_2 hW (by omega)).2 ⟨hσ _ (by omega), hσ _ (by omega)⟩ (RowS.rf ρ _)
            have e := before_sim p1 p2 (by unfold lenOK; rw [hσ _ (by omega)]; exact bd_Pl_2 hW (by omega)) (by unfold lenOK; rw [hσ _ (by omega)]; exact bd_Pl_2 hW (by omega)) 13 0 (by omega)
            rw [show ((x.toNat : Nat) : Int) = x by omega, show ((g.toNat : Nat) : Int) = g by omega] at e
            have e2 : f_X7_isNamedBefore σ x g = f_X10_isEarlier ρ x g := e
            rw [e2]
            constructor
            · exact fun w => f_ltB (Or.inr w)
            · intro w
              rcases ltB_f w with w | w
              · exact absurd w z
              · exact w
          obtain ⟨i1, -⟩ := ins_X (ltB ρ a4) a0 a4 (cnt : Int) x τ hltX 41 cnt σX (by omega) hX (fun g hg' => by have := hg g hg'; omega)
          have iX : ∀ y, y ≠ 6 → (up2 (L_X7_list_44 a0 a4 41 (cnt : Int) x (cnt : Int) (cnt : Int) σX).2 6 (L_X7_list_44 a0 a4 41 (cnt : Int) x (cnt : Int) (cnt : Int) σX).1.toNat x) y = τ y := fun y hy => by rw [up2_cell _ _ _ hy, L_list44_fr a0 a4 hy]; exact hX y hy
          generalize (up2 (L_X7_list_44 a0 a4 41 (cnt : Int) x (cnt : Int) (cnt : Int) σX).2 6 (L_X7_list_44 a0 a4 41 (cnt : Int) x (cnt : Int) (cnt : Int) σX).1.toNat x) = σX' at i1 iX ⊢
          have nt : ∀ u ∈ rl (σX 6) cnt, ∀ v ∈ rl (σX 6) cnt, ltB ρ a4 x u = false → ltB ρ a4 u v = false → ltB ρ a4 x v = false := fun u _ v _ p q => ltB_nt hM a4 p q
          have srt' : Srt (ltB ρ a4) (rl (σX' 6) (cnt + 1)) := by rw [i1]; exact insL_srt (fun u v _ w => ltB_as hM a4 w) nt hs
          have nd' : (rl (σX' 6) (cnt + 1)).Nodup := by rw [i1]; exact insL_nodup hn (fun z => by have := hg x z; omega)
          have mem' : ∀ g ∈ rl (σX' 6) (cnt + 1), 0 ≤ g ∧ g < x + 1 ∧ ¬ τ 5 g.toNat = 0 ∧ τ (59 + 2 * g.toNat) 1 = a0 := fun g hg' => by
            rw [i1] at hg'
            rcases insL_mem.mp hg' with e | e
            · subst e
              exact ⟨by omega, by omega, by rw [hS.2.2.1 g.toNat (by omega)]; exact c2, by rw [(hS.2.2.2.1 g.toNat (by omega)).1]; exact c3⟩
            · exact mono g e
          have fil := insL_filter (lt := ltB ρ a4) (f := x) (Pw ρ) nt hs
          rw [← i1] at fil
          rw [show ((cnt : Int) + 1) = ((cnt + 1 : Nat) : Int) by omega]
          -- the reference tries the file
          obtain ⟨p1, p2⟩ := isFit_P hB hM h0
          have bsF := isFit_bs σM x
          generalize f_X10_isFit σM x = F at p1 p2 bsF ⊢
          have hBF : PB ρ F.2 := ⟨fun y u1 u2 u3 u4 => by rw [bsF y u2 u3]; exact hB.1 y u1 u2 u3 u4, fun k hk => by rw [bsF 28 (by decide) (by decide)]; exact hB.2 k hk⟩
          have F26 : F.2 28 26 = (cM : Int) := by rw [bsF 28 (by decide) (by decide)]; exact h26
          have F42 : F.2 42 = σM 42 := bsF 42 (by decide) (by decide)
          by_cases c4 : F.1 = 0
          · rw [if_pos c4]
            have pf : ¬ Pw ρ x = true := fun z => by have := p2.mpr z; omega
            rw [if_neg pf] at fil
            exact list_loop hS hW hM a0 a1 a2 a3 a4 n (x + 1) (cnt + 1) cM σX' F.2 (by omega) (by omega) (by omega) iX hBF F26 (by rw [F42, hl, fil]) srt' nd' mem' (by omega)
          · rw [if_neg c4]
            have pt : Pw ρ x = true := p2.mp (by omega)
            rw [if_pos pt] at fil
            have lenM : cM ≤ cnt := by
              have e := congrArg List.length hl
              rw [rl_len] at e
              have := List.length_filter_le (Pw ρ) (rl (σX 6) cnt)
              rw [rl_len] at this
              omega
            have hltM : ∀ σ : Sg, (∀ y, y ≠ 42 → σ y = F.2 y) → ∀ g, (a4 = 0 → ltB ρ a4 x g = false) ∧ (¬ a4 = 0 → (f_X10_isEarlier σ x g = 0 ↔ ltB ρ a4 x g = false)) := by
              intro σ hσ g
              refine ⟨fun z => f_ltB (Or.inl z), fun z => ?_⟩
              rw [early_cg (ρ := ρ) (by rw [hσ 29 (by decide)]; exact hBF.1 29 (by decide) (by decide) (by decide) (by decide)) (by rw [hσ 30 (by decide)]; exact hBF.1 30 (by decide) (by decide) (by decide) (by decide))]
              constructor
              · exact fun w => f_ltB (Or.inr w)
              · intro w
                rcases ltB_f w with w | w
                · exact absurd w z
                · exact w
            obtain ⟨j1, -, j3⟩ := ins_M (ltB ρ a4) a0 a1 a2 a3 a4 x F.2 hltM 41 cM F.2 (by omega) (fun _ _ => rfl)
            rw [F26]
            rw [F42, hl, ← fil] at j1
            have jB : ∀ y, y ≠ 28 → y ≠ 42 → (up2 (up2 (L_X10_plan_130 a0 a1 a2 a3 a4 41 x (cM : Int) F.2).2 42 (L_X10_plan_130 a0 a1 a2 a3 a4 41 x (cM : Int) F.2).1.toNat x) 28 26 ((L_X10_plan_130 a0 a1 a2 a3 a4 41 x (cM : Int) F.2).2 28 26 + 1)) y = F.2 y := fun y u v => by rw [up2_cell _ _ _ u, up2_cell _ _ _ v, j3 y v]
            have j28 : ∀ k, k ≠ 26 → (up2 (up2 (L_X10_plan_130 a0 a1 a2 a3 a4 41 x (cM : Int) F.2).2 42 (L_X10_plan_130 a0 a1 a2 a3 a4 41 x (cM : Int) F.2).1.toNat x) 28 26 ((L_X10_plan_130 a0 a1 a2 a3 a4 41 x (cM : Int) F.2).2 28 26 + 1)) 28 k = F.2 28 k := fun k hk => by rw [up2_slot _ _ hk, up2_cell _ _ _ (by decide), j3 28 (by decide)]
            have j26 : (up2 (up2 (L_X10_plan_130 a0 a1 a2 a3 a4 41 x (cM : Int) F.2).2 42 (L_X10_plan_130 a0 a1 a2 a3 a4 41 x (cM : Int) F.2).1.toNat x) 28 26 ((L_X10_plan_130 a0 a1 a2 a3 a4 41 x (cM : Int) F.2).2 28 26 + 1)) 28 26 = ((cM + 1 : Nat) : Int) := by rw [up2_same, j3 28 (by decide), F26]; omega
            have j42 : rl ((up2 (up2 (L_X10_plan_130 a0 a1 a2 a3 a4 41 x (cM : Int) F.2).2 42 (L_X10_plan_130 a0 a1 a2 a3 a4 41 x (cM : Int) F.2).1.toNat x) 28 26 ((L_X10_plan_130 a0 a1 a2 a3 a4 41 x (cM : Int) F.2).2 28 26 + 1)) 42) (cM + 1) = (rl (σX' 6) (cnt + 1)).filter (Pw ρ) := by rw [up2_cell _ _ _ (by decide)]; exact j1
            generalize (up2 (up2 (L_X10_plan_130 a0 a1 a2 a3 a4 41 x (cM : Int) F.2).2 42 (L_X10_plan_130 a0 a1 a2 a3 a4 41 x (cM : Int) F.2).1.toNat x) 28 26 ((L_X10_plan_130 a0 a1 a2 a3 a4 41 x (cM : Int) F.2).2 28 26 + 1)) = σM' at jB j28 j26 j42 ⊢
            exact list_loop hS hW hM a0 a1 a2 a3 a4 n (x + 1) (cnt + 1) (cM + 1) σX' σM' (by omega) (by omega) (by omega) iX ⟨fun y u1 u2 u3 u4 => by rw [jB y u1 u4]; exact hBF.1 y u1 u2 u3 u4, fun k hk => by rw [j28 k hk]; exact hBF.2 k hk⟩ j26 j42 srt' nd' mem' (by omega)
        · rw [if_neg c3, if_neg c3]
          exact list_loop hS hW hM a0 a1 a2 a3 a4 n (x + 1) cnt cM σX σM (by omega) (by omega) (by omega) hX hB h26 hl hs hn mono (by omega)
