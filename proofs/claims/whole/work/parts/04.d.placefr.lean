/-! Which cells the writing methods of Place leave alone. -/
theorem add_fr (σ : Sg) (c : Nat) (b : Int) {x : Nat} (h1 : x ≠ c) (h2 : x ≠ c + 1) : f_X2_add σ c b x = σ x := by
  unfold f_X2_add
  split
  · rfl
  · rw [up2_cell _ _ _ h1, up2_cell _ _ _ h2]
theorem begin_fr (σ : Sg) (c : Nat) (b : Int) {x : Nat} (h1 : x ≠ c) : f_X2_begin σ c b x = σ x := by
  unfold f_X2_begin
  rw [up2_cell _ _ _ h1, up2_cell _ _ _ h1]
theorem L_become_fr (c q0 : Nat) {x : Nat} (h1 : x ≠ c) (h2 : x ≠ c + 1) : ∀ (n : Nat) (i : Int) (σ : Sg), L_X2_become_10 c q0 n i σ x = σ x
  | 0, i, σ => rfl
  | n + 1, i, σ => by
    rw [L_X2_become_10]
    split
    · rfl
    · rw [L_become_fr c q0 h1 h2 n, add_fr σ c _ h1 h2]
theorem become_fr (σ : Sg) (c q0 : Nat) {x : Nat} (h1 : x ≠ c) (h2 : x ≠ c + 1) : f_X2_become σ c q0 x = σ x := by
  unfold f_X2_become
  rw [L_become_fr c q0 h1 h2, begin_fr σ c _ h1]
theorem becomeSpare_fr (σ : Sg) (c : Nat) (a b : Int) {x : Nat} (h1 : x ≠ c) (h2 : x ≠ c + 1) : f_X2_becomeSpare σ c a b x = σ x := by
  unfold f_X2_becomeSpare
  split
  · rw [add_fr _ c _ h1 h2, add_fr _ c _ h1 h2, begin_fr σ c _ h1]
  · rw [add_fr _ c _ h1 h2, add_fr _ c _ h1 h2, add_fr _ c _ h1 h2, begin_fr σ c _ h1]
