theorem L_isFit_fr (a0 : Int) {x : Nat} (h : x ≠ 41) : ∀ (n : Nat) (i : Int) (σ : Sg), L_X10_isFit_2 a0 n i σ x = σ x
  | 0, i, σ => rfl
  | n + 1, i, σ => by
    rw [L_X10_isFit_2]
    split
    · rfl
    · rw [L_isFit_fr a0 h n, up2_cell _ _ _ h]
theorem isFit_fr (σ : Sg) (a0 : Int) {x : Nat} (h0 : x ≠ 40) (h1 : x ≠ 41) : (f_X10_isFit σ a0).2 x = σ x := by
  unfold f_X10_isFit f_X10_goesT
  dsimp only
  rw [gfd_fr h0 h1, L_isFit_fr a0 h1]
theorem L_ac35_fr (a0 a1 : Int) {x : Nat} (h0 : x ≠ 29) (h1 : x ≠ 44) : ∀ (n : Nat) (i j : Int) (σ : Sg), L_X10_addsCounter_35 a0 a1 n i j σ x = σ x
  | 0, i, j, σ => rfl
  | n + 1, i, j, σ => by
    rw [L_X10_addsCounter_35]
    split
    · rfl
    · rw [L_ac35_fr a0 a1 h0 h1 n, adds_fr _ _ _ h0 h1]
theorem L_ac54_fr (a0 a1 : Int) {x : Nat} (h0 : x ≠ 29) (h1 : x ≠ 44) : ∀ (n : Nat) (i : Int) (σ : Sg), L_X10_addsCounter_54 a0 a1 n i σ x = σ x
  | 0, i, σ => rfl
  | n + 1, i, σ => by
    rw [L_X10_addsCounter_54]
    split
    · rfl
    · rw [L_ac54_fr a0 a1 h0 h1 n, adds_fr _ _ _ h0 h1]
theorem addsCounter_fr (σ : Sg) (a0 a1 : Int) {x : Nat} (h0 : x ≠ 29) (h1 : x ≠ 44) : f_X10_addsCounter σ a0 a1 x = σ x := by
  unfold f_X10_addsCounter
  rw [L_ac54_fr a0 a1 h0 h1, L_ac35_fr a0 a1 h0 h1]
