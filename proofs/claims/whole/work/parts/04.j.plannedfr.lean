/-! Which cells the writing methods of Planned leave alone: c is the object, 201 + 6 * (c - 439) the place that it goes to. -/
theorem addByte_fr (σ : Sg) (c : Nat) (b : Int) {x : Nat} (h0 : x ≠ c) (h1 : x ≠ 201 + 6 * (c - 439)) (h2 : x ≠ 201 + 6 * (c - 439) + 1) : f_X4_addByte σ c b x = σ x := by
  unfold f_X4_addByte
  rw [up2_cell _ _ _ h0, add_fr _ _ _ h1 h2]
theorem L_addTaken_fr (c : Nat) (a0 a1 a2 : Int) {x : Nat} (h0 : x ≠ c) (h1 : x ≠ 201 + 6 * (c - 439)) (h2 : x ≠ 201 + 6 * (c - 439) + 1) : ∀ (n : Nat) (i : Int) (σ : Sg), L_X4_addTaken_3 c a0 a1 a2 n i σ x = σ x
  | 0, i, σ => rfl
  | n + 1, i, σ => by
    rw [L_X4_addTaken_3]
    split
    · rfl
    · split
      · rw [L_addTaken_fr c a0 a1 a2 h0 h1 h2 n, addByte_fr _ _ _ h0 h1 h2]
      · split
        · rw [L_addTaken_fr c a0 a1 a2 h0 h1 h2 n, addByte_fr _ _ _ h0 h1 h2]
        · rw [L_addTaken_fr c a0 a1 a2 h0 h1 h2 n, addByte_fr _ _ _ h0 h1 h2]
theorem addTaken_fr (σ : Sg) (c : Nat) (a0 a1 a2 : Int) {x : Nat} (h0 : x ≠ c) (h1 : x ≠ 201 + 6 * (c - 439)) (h2 : x ≠ 201 + 6 * (c - 439) + 1) : f_X4_addTaken σ c a0 a1 a2 x = σ x := by
  unfold f_X4_addTaken
  exact L_addTaken_fr c a0 a1 a2 h0 h1 h2 _ _ _
theorem L_addCounter_fr (c : Nat) (a0 : Int) {x : Nat} (h0 : x ≠ c) (h1 : x ≠ 201 + 6 * (c - 439)) (h2 : x ≠ 201 + 6 * (c - 439) + 1) : ∀ (n : Nat) (i j : Int) (σ : Sg), L_X4_addCounter_6 c a0 n i j σ x = σ x
  | 0, i, j, σ => rfl
  | n + 1, i, j, σ => by
    rw [L_X4_addCounter_6]
    split
    · rfl
    · split
      · rw [L_addCounter_fr c a0 h0 h1 h2 n, addByte_fr _ _ _ h0 h1 h2]
      · split
        · rw [L_addCounter_fr c a0 h0 h1 h2 n]
        · rw [L_addCounter_fr c a0 h0 h1 h2 n, addByte_fr _ _ _ h0 h1 h2]
theorem addCounter_fr (σ : Sg) (c : Nat) (a0 : Int) {x : Nat} (h0 : x ≠ c) (h1 : x ≠ 201 + 6 * (c - 439)) (h2 : x ≠ 201 + 6 * (c - 439) + 1) : f_X4_addCounter σ c a0 x = σ x := by
  unfold f_X4_addCounter
  exact L_addCounter_fr c a0 h0 h1 h2 _ _ _ _
theorem L_nameBy_fr (c q0 : Nat) (a2 : Int) {x : Nat} (h0 : x ≠ c) (h1 : x ≠ 201 + 6 * (c - 439)) (h2 : x ≠ 201 + 6 * (c - 439) + 1) : ∀ (n : Nat) (i : Int) (σ : Sg), L_X4_nameBy_16 c q0 a2 n i σ x = σ x
  | 0, i, σ => rfl
  | n + 1, i, σ => by
    rw [L_X4_nameBy_16]
    split
    · rfl
    · split
      · rw [L_nameBy_fr c q0 a2 h0 h1 h2 n, addCounter_fr _ _ _ h0 h1 h2]
      · split
        · rw [L_nameBy_fr c q0 a2 h0 h1 h2 n, addByte_fr _ _ _ h0 h1 h2]
        · rw [L_nameBy_fr c q0 a2 h0 h1 h2 n, addTaken_fr _ _ _ _ _ h0 h1 h2]
theorem nameBy_fr (σ : Sg) (c q0 : Nat) (a2 : Int) {x : Nat} (h0 : x ≠ c) (h1 : x ≠ 201 + 6 * (c - 439)) (h2 : x ≠ 201 + 6 * (c - 439) + 1) : f_X4_nameBy σ c q0 a2 x = σ x := by
  unfold f_X4_nameBy
  split
  · split
    · rw [up2_cell _ _ _ h0, L_nameBy_fr c q0 a2 h0 h1 h2, up2_cell _ _ _ h0, begin_fr _ _ _ h1]
    · rw [up2_cell _ _ _ h0, L_nameBy_fr c q0 a2 h0 h1 h2, up2_cell _ _ _ h0, begin_fr _ _ _ h1]
  · rw [up2_cell _ _ _ h0, L_nameBy_fr c q0 a2 h0 h1 h2, up2_cell _ _ _ h0, begin_fr _ _ _ h1]
theorem begin4_fr (σ : Sg) (c : Nat) (a0 : Int) (q1 : Nat) (a2 : Int) {x : Nat} (h0 : x ≠ c) (h1 : x ≠ 199 + 6 * (c - 439)) (h2 : x ≠ 199 + 6 * (c - 439) + 1) (h3 : x ≠ 203 + 6 * (c - 439)) (h4 : x ≠ 203 + 6 * (c - 439) + 1) : f_X4_begin σ c a0 q1 a2 x = σ x := by
  unfold f_X4_begin
  rw [up2_cell _ _ _ h0, up2_cell _ _ _ h0, up2_cell _ _ _ h0, up2_cell _ _ _ h0, up2_cell _ _ _ h0, becomeSpare_fr _ _ _ _ h3 h4, become_fr _ _ _ h1 h2, up2_cell _ _ _ h0, up2_cell _ _ _ h0]
theorem own_fr (σ : Sg) (c : Nat) {x : Nat} (h0 : x ≠ c) : f_X4_findOwnTrouble σ c x = σ x := by
  unfold f_X4_findOwnTrouble
  split
  · rw [up2_cell _ _ _ h0]
  · split
    · rfl
    · rw [up2_cell _ _ _ h0]
theorem setTrouble_fr (σ : Sg) (c : Nat) (a b : Int) {x : Nat} (h0 : x ≠ c) : f_X4_setTrouble σ c a b x = σ x := by
  unfold f_X4_setTrouble
  rw [up2_cell _ _ _ h0, up2_cell _ _ _ h0]
