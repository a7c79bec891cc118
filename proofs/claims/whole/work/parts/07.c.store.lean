theorem folder_within (a : Int) : f_X9_isFolder a = f_X10_within a 0 5 := by
  unfold f_X9_isFolder f_X10_within
  repeat' split
  all_goals omega
theorem isName_form {τ ρ : Sg} (hT : SimT τ ρ) (hW : WF τ) (a : Int) (hw : ¬ f_X10_within (ρ 28 9) 1 12 = 0) : L_X10_takes_30 ρ a 81 1 0 = f_X8_isName τ := by
  rw [takes30_1 hT hW a 81 0 (by omega) (by omega) (by omega)]
  unfold f_X8_isName
  unfold f_X10_within at hw
  rw [← hT.1] at hw
  by_cases h1 : τ 1 1 < 1
  · rw [if_pos h1] at hw
    exact absurd rfl hw
  · rw [if_neg h1] at hw
    by_cases h2 : 12 < τ 1 1
    · rw [if_pos h2] at hw
      exact absurd rfl hw
    · rw [if_neg h1, if_pos (by omega)]
theorem take_sim {τ ρ : Sg} (hT : SimT τ ρ) (hW : WF τ) (a : Int) :
    (f_X9_takePlace τ a).1 = (f_X10_takes ρ a).1 ∧ ((f_X9_takePlace τ a).1 = 0 ∨ (f_X9_takePlace τ a).1 = 1) ∧ (f_X9_takePlace τ a).2 1 1 = 0 ∧ (f_X10_takes ρ a).2 28 9 = 0 ∧ (∀ r : Nat, r ≠ 70 → RowS ρ (f_X10_takes ρ a).2 r) ∧
    ((f_X9_takePlace τ a).1 = 1 → PE (f_X9_takePlace τ a).2 (f_X10_takes ρ a).2 57 70 ∧ (0 ≤ a ∧ a ≤ 5) ∧ (f_X9_takePlace τ a).2 57 1 = a ∧ (1 ≤ (f_X9_takePlace τ a).2 57 2 ∧ (f_X9_takePlace τ a).2 57 2 ≤ 12) ∧ ∀ i : Nat, (i : Int) < (f_X9_takePlace τ a).2 57 2 → nb ((f_X9_takePlace τ a).2 58 i)) := by
  obtain ⟨r, hr, hf⟩ := takes_form ρ a
  have b1 := bd_1_1 hW
  have hrow : ∀ (b : Int), 0 ≤ b ∧ b ≤ 12 → ∀ k : Nat, k ≠ 70 → RowS ρ (up2 (L_X10_takes_95 a 13 r 0 (up2 (up2 ρ 31 70 a) 30 70 b)) 28 9 0) k := fun b hb k hk => by
    have q := (L_takes95_row a 13 r 0 (up2 (up2 ρ 31 70 a) 30 70 b) (by omega) (by omega) (by rw [up2_same]; omega) (by omega)).2.2
    refine ⟨?_, ?_, fun i hi => ?_⟩
    · rw [up2_cell _ _ _ (by decide), L_takes95_fr a (by decide), up2_cell _ _ _ (by decide), up2_slot _ _ hk]
    · rw [up2_cell _ _ _ (by decide), L_takes95_fr a (by decide), up2_slot _ _ hk, up2_cell _ _ _ (by decide)]
    · rw [up2_cell _ _ _ (by decide), q _ (by omega), up2_cell _ _ _ (by decide), up2_cell _ _ _ (by decide)]
  rw [hf]
  unfold f_X9_takePlace
  rw [folder_within]
  by_cases h1 : f_X10_within a 0 5 = 0
  · rw [if_pos h1, takes30_0] at hr
    subst hr
    rw [if_pos h1]
    dsimp only
    refine ⟨rfl, Or.inl rfl, up2_same _ _ _ _, up2_same _ _ _ _, fun k hk => ?_, fun z => by omega⟩
    rw [if_pos rfl]
    exact hrow 0 (by omega) k hk
  · rw [if_neg h1] at hr
    rw [if_neg h1]
    have ha : 0 ≤ a ∧ a ≤ 5 := by
      unfold f_X10_within at h1
      split at h1
      · exact absurd rfl h1
      · split at h1
        · exact absurd rfl h1
        · omega
    by_cases h3 : f_X10_within (ρ 28 9) 1 12 = 0
    · rw [if_pos h3, takes30_0] at hr
      subst hr
      have hn : f_X8_isName τ = 0 := by
        unfold f_X8_isName
        unfold f_X10_within at h3
        rw [← hT.1] at h3
        split at h3
        · rw [if_pos (by omega)]
        · split at h3
          · rw [if_neg (by omega), if_neg (by omega)]
          · exact absurd h3 (by decide)
      rw [if_pos hn]
      dsimp only
      refine ⟨rfl, Or.inl rfl, up2_same _ _ _ _, up2_same _ _ _ _, fun k hk => ?_, fun z => by omega⟩
      rw [if_pos rfl]
      exact hrow 0 (by omega) k hk
    · rw [if_neg h3, isName_form hT hW a h3] at hr
      have hl : 1 ≤ τ 1 1 ∧ τ 1 1 ≤ 12 := by
        unfold f_X10_within at h3
        rw [← hT.1] at h3
        split at h3
        · exact absurd rfl h3
        · split at h3
          · exact absurd rfl h3
          · omega
      have hnm : f_X8_isName τ = L_X8_isName_21 τ 81 0 := by
        unfold f_X8_isName
        rw [if_neg (by omega), if_pos (by omega)]
      have h21 := isName21 hW 81 0 (by omega) (by omega) (by omega)
      by_cases h4 : f_X8_isName τ = 0
      · rw [h4] at hr
        subst hr
        rw [if_pos h4]
        dsimp only
        refine ⟨rfl, Or.inl rfl, up2_same _ _ _ _, up2_same _ _ _ _, fun k hk => ?_, fun z => by omega⟩
        rw [if_pos rfl]
        exact hrow 0 (by omega) k hk
      · have h5 : f_X8_isName τ = 1 := by
          rw [hnm] at h4 ⊢
          rcases h21.1 with w | w
          · exact absurd w h4
          · exact w
        rw [if_neg h4]
        rw [h5] at hr
        subst hr
        dsimp only
        have e1 : (f_X2_begin τ 57 a) 1 1 = τ 1 1 := by rw [begin_fr _ _ _ (by decide)]
        have e2 : (f_X2_begin τ 57 a) 2 = τ 2 := by rw [begin_fr _ _ _ (by decide)]
        obtain ⟨a1, a2, -, a4⟩ := L_takePlace_row a 81 1 0 (f_X2_begin τ 57 a) (by omega) (by omega) (by rw [e1]; omega) (by unfold f_X2_begin; exact up2_same _ _ _ _) (by rw [e1]; omega)
        rw [e1] at a2 a4
        rw [e2] at a4
        have a0 : (f_X2_begin τ 57 a) 57 1 = a := by unfold f_X2_begin; rw [up2_slot _ _ (by decide), up2_same]
        rw [a0] at a1
        have c1 : f_X8_clear (L_X9_takePlace_37 a 81 1 0 (f_X2_begin τ 57 a)) 57 = L_X9_takePlace_37 a 81 1 0 (f_X2_begin τ 57 a) 57 := clear_fr _ (by decide)
        have c2 : f_X8_clear (L_X9_takePlace_37 a 81 1 0 (f_X2_begin τ 57 a)) 58 = L_X9_takePlace_37 a 81 1 0 (f_X2_begin τ 57 a) 58 := clear_fr _ (by decide)
        have hnb : ∀ i : Nat, (i : Int) < τ 1 1 → nb (τ 2 i) := fun i hi => h21.2 (by rw [← hnm]; exact h5) i (by omega) hi
        refine ⟨rfl, Or.inr rfl, up2_same _ _ _ _, up2_same _ _ _ _, fun k hk => ?_, fun _ => ⟨?_, ha, ?_, ?_, ?_⟩⟩
        · rw [if_neg (by decide), ← hT.1]
          exact hrow (τ 1 1) (by omega) k hk
        · rw [if_neg (by decide), ← hT.1]
          have q := L_takes95_row a 13 1 0 (up2 (up2 ρ 31 70 a) 30 70 (τ 1 1)) (by omega) (by omega) (by rw [up2_same]; omega) (by omega)
          refine ⟨?_, ?_, fun i hi => ?_⟩
          · rw [c1, a1, up2_cell _ _ _ (by decide), L_takes95_fr a (by decide), up2_cell _ _ _ (by decide), up2_same]
          · rw [c1, a2, up2_cell _ _ _ (by decide), L_takes95_fr a (by decide), up2_same]
          · rw [c1, a2] at hi
            show _ = _
            rw [c2, a4 i (by omega) hi, up2_cell _ _ _ (by decide), q.2.1 i (by omega) (by rw [up2_same]; exact hi), up2_cell _ _ _ (by decide), up2_cell _ _ _ (by decide), hT.2 i hi, bm_lo]
            have := hnb i hi
            unfold nb at this
            omega
        · rw [c1, a1]
        · rw [c1, a2]; exact hl
        · intro i hi
          rw [c1, a2] at hi
          rw [c2, a4 i (by omega) hi]
          exact hnb i hi
/-- the store -/
def SimS (τ ρ : Sg) : Prop := τ 3 3 = ρ 28 5 ∧ τ 3 5 = ρ 28 4 ∧ (∀ f : Nat, (f : Int) < τ 3 3 → τ 5 f = ρ 32 f) ∧ (∀ f : Nat, (f : Int) < τ 3 3 → PE τ ρ (59 + 2 * f) f) ∧ τ 3 4 = sm (τ 5) (τ 3 3).toNat
theorem findAlike2_sim {τ ρ : Sg} (hS : SimS τ ρ) (hW : WF τ) {d q : Nat} (hd : PE τ ρ d q) (b : Int) : ∀ (n : Nat) (x : Int), 0 ≤ x → L_X7_findAlike_2 τ d b n x = if n = 0 then 0 else L_X10_alikeTo_2 ρ (q : Int) b n x
  | 0, x, h0 => rfl
  | n + 1, x, h0 => by
    have b1 := bd_3_3 hW
    have ih := findAlike2_sim hS hW hd b n (x + 1) (by omega)
    have ih' : L_X7_findAlike_2 τ d b n (x + 1) = L_X10_alikeTo_2 ρ (q : Int) b n (x + 1) := by
      rw [ih]
      split
      · rename_i h; subst h; rfl
      · rfl
    rw [if_neg (by omega), L_X7_findAlike_2, L_X10_alikeTo_2, ih', hS.1]
    by_cases h1 : ρ 28 5 ≤ x
    · rw [if_pos h1, if_pos h1]
    · rw [if_neg h1, if_neg h1]
      have hx : ((x.toNat : Nat) : Int) < τ 3 3 := by rw [hS.1]; omega
      have hp := bd_Pl_2 hW (c := 59 + 2 * x.toNat) (by omega)
      have e := PE_alike (by omega) (hS.2.2.2.1 x.toNat hx) hd hS.2.1
      rw [hS.2.2.1 x.toNat hx, e, show ((x.toNat : Nat) : Int) = x by omega]
theorem findAlike_sim {τ ρ : Sg} (hS : SimS τ ρ) (hW : WF τ) {d q : Nat} (hd : PE τ ρ d q) (b : Int) : f_X7_findAlike τ d b = f_X10_alikeTo ρ (q : Int) b := by
  unfold f_X7_findAlike f_X10_alikeTo
  rw [findAlike2_sim hS hW hd b 41 0 (by omega), if_neg (by decide)]
theorem has_sim {τ ρ : Sg} (hS : SimS τ ρ) (hW : WF τ) (a : Int) : f_X7_has τ a = f_X10_isFile ρ a := by
  have b1 := bd_3_3 hW
  unfold f_X7_has f_X10_isFile
  rw [← hS.1]
  by_cases h1 : a < 0
  · rw [if_pos h1, if_pos h1]
  · rw [if_neg h1, if_neg h1]
    by_cases h2 : τ 3 3 ≤ a
    · rw [if_pos h2, if_pos h2]
    · rw [if_neg h2, if_neg h2, if_neg (by omega), hS.2.2.1 a.toNat (by omega)]
theorem there_sim {ρ : Sg} (hM : WF ρ) : ∀ (n : Nat) (k x : Int), 0 ≤ x → 40 - x < (n : Int) → x ≤ ρ 28 5 → k = sm (ρ 32) x.toNat → L_X10_there_4 ρ n k x = sm (ρ 32) (ρ 28 5).toNat
  | 0, k, x, h0, h1, h2, h3 => by have := bd_28_5 hM; omega
  | n + 1, k, x, h0, h1, h2, h3 => by
    have b5 := bd_28_5 hM
    have b := bd_32 hM x.toNat
    have e : sm (ρ 32) (x + 1).toNat = sm (ρ 32) x.toNat + ρ 32 x.toNat := by
      rw [show (x + 1).toNat = x.toNat + 1 by omega]
      rfl
    rw [L_X10_there_4]
    by_cases h4 : ρ 28 5 ≤ x
    · rw [if_pos h4, h3, show x = ρ 28 5 by omega]
    · rw [if_neg h4]
      by_cases h5 : ρ 32 x.toNat = 0
      · rw [if_pos h5]
        exact there_sim hM n k (x + 1) (by omega) (by omega) (by omega) (by rw [e, h5, h3]; omega)
      · rw [if_neg h5]
        exact there_sim hM n (k + 1) (x + 1) (by omega) (by omega) (by omega) (by rw [e, h3]; omega)
theorem sm_congr {f g : Nat → Int} : ∀ {n : Nat}, (∀ i, i < n → f i = g i) → sm f n = sm g n
  | 0, _ => rfl
  | n + 1, h => by
    simp only [sm]
    rw [sm_congr (n := n) (fun i hi => h i (by omega)), h n (by omega)]
theorem there_eq {τ ρ : Sg} (hS : SimS τ ρ) (hM : WF ρ) : f_X10_there ρ = τ 3 4 := by
  have b5 := bd_28_5 hM
  unfold f_X10_there
  rw [there_sim hM 41 0 0 (by omega) (by omega) (by omega) rfl, hS.2.2.2.2, hS.1]
  exact sm_congr (fun i hi => (hS.2.2.1 i (by rw [hS.1]; omega)).symm)
