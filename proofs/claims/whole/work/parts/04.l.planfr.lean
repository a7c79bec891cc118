theorem L_others_fr (σ : Sg) (a0 : Int) (r3 : Nat) {x : Nat} (h : x ≠ r3) : ∀ (n : Nat) (i : Int), L_X3_findTroubleWithOthers_10 σ a0 r3 n i x = σ x
  | 0, i => rfl
  | n + 1, i => by
    rw [L_X3_findTroubleWithOthers_10]
    split
    · split
      · rfl
      · split
        · rw [setTrouble_fr _ _ _ _ h]
        · split
          · rw [setTrouble_fr _ _ _ _ h]
          · split
            · rw [up2_cell _ _ _ h]
            · rw [setTrouble_fr _ _ _ _ h]
    · split
      · exact L_others_fr σ a0 r3 h n _
      · split
        · exact L_others_fr σ a0 r3 h n _
        · split
          · exact L_others_fr σ a0 r3 h n _
          · rw [setTrouble_fr _ _ _ _ h]
theorem others_fr (σ : Sg) (a0 : Int) {x : Nat} (h : x ≠ 439 + a0.toNat) : f_X3_findTroubleWithOthers σ a0 x = σ x := by
  unfold f_X3_findTroubleWithOthers
  exact L_others_fr σ a0 _ h _ _
