theorem L_copies_fr (a0 a1 : Int) {x : Nat} (h : x ≠ 29) : ∀ (n : Nat) (i : Int) (σ : Sg), L_X10_copies_26 a0 a1 n i σ x = σ x
  | 0, i, σ => rfl
  | n + 1, i, σ => by
    rw [L_X10_copies_26]
    split
    · rfl
    · rw [L_copies_fr a0 a1 h n, up2_cell _ _ _ h]
theorem copies_fr (σ : Sg) (a0 a1 : Int) {x : Nat} (h1 : x ≠ 29) (h2 : x ≠ 30) (h3 : x ≠ 31) : f_X10_copies σ a0 a1 x = σ x := by
  unfold f_X10_copies
  rw [L_copies_fr a0 a1 h1, up2_cell _ _ _ h2, up2_cell _ _ _ h3]
theorem L_goesTo_fr (a0 a1 : Int) {x : Nat} (h1 : x ≠ 29) (h2 : x ≠ 30) (h3 : x ≠ 31) : ∀ (n : Nat) (i : Int) (σ : Sg), L_X10_goesTo_3 a0 a1 n i σ x = σ x
  | 0, i, σ => rfl
  | n + 1, i, σ => by
    rw [L_X10_goesTo_3]
    split
    · rfl
    · split
      · exact L_goesTo_fr a0 a1 h1 h2 h3 n _ _
      · rw [L_goesTo_fr a0 a1 h1 h2 h3 n, copies_fr _ _ _ h1 h2 h3]
theorem goesTo_fr (σ : Sg) (a0 a1 : Int) {x : Nat} (h1 : x ≠ 29) (h2 : x ≠ 30) (h3 : x ≠ 31) : f_X10_goesTo σ a0 a1 x = σ x := by
  unfold f_X10_goesTo
  rw [copies_fr _ _ _ h1 h2 h3, L_goesTo_fr a0 a1 h1 h2 h3]
theorem L_takes95_fr (a0 : Int) {x : Nat} (h : x ≠ 29) : ∀ (n : Nat) (i j : Int) (σ : Sg), L_X10_takes_95 a0 n i j σ x = σ x
  | 0, i, j, σ => rfl
  | n + 1, i, j, σ => by
    rw [L_X10_takes_95]
    split
    · rfl
    · rw [L_takes95_fr a0 h n, up2_cell _ _ _ h]
/-- the reference's own numbers but the length of the tape, and all other cells -/
theorem takes_fr (σ : Sg) (a0 : Int) {x k : Nat} (h1 : x ≠ 29) (h2 : x ≠ 30) (h3 : x ≠ 31) (h4 : ¬ (x = 28 ∧ k = 9)) : (f_X10_takes σ a0).2 x k = σ x k := by
  have key : ∀ (r b : Int) (i : Int), up2 (L_X10_takes_95 a0 13 r 0 (up2 (up2 σ 31 70 i) 30 70 b)) 28 9 0 x k = σ x k := by
    intro r b i
    rw [up2_at, if_neg h4, L_takes95_fr a0 h1, up2_cell _ _ _ h2, up2_cell _ _ _ h3]
  unfold f_X10_takes
  repeat' split
  all_goals exact key _ _ _
