theorem add3_fst (σ : Sg) (a0 : Int) (q1 : Nat) (a2 : Int) : (f_X3_add σ a0 q1 a2).1 = 439 + (σ 13 5).toNat := rfl
theorem fx_f_X2_begin (σ : Sg) (c : Nat) (a0 : Int) {x : Nat} (hx : 28 ≤ x ∧ x ≤ 56) (hc : 57 ≤ c) : (f_X2_begin σ c a0) x = σ x := by
  unfold f_X2_begin
  (repeat' split) <;> first | with_reducible rfl | simp (disch := (first | omega | exact rc_ru _)) only [up2_cell]
theorem fx_f_X2_add (σ : Sg) (c : Nat) (a0 : Int) {x : Nat} (hx : 28 ≤ x ∧ x ≤ 56) (hc : 57 ≤ c) : (f_X2_add σ c a0) x = σ x := by
  unfold f_X2_add
  (repeat' split) <;> first | with_reducible rfl | simp (disch := (first | omega | exact rc_ru _)) only [up2_cell]
theorem fx_L_X2_become_10 (c : Nat) (q0 : Nat) {x : Nat} (hx : 28 ≤ x ∧ x ≤ 56) (hc : 57 ≤ c) : ∀ (n : Nat) (x2 : Int) (σ : Sg), (L_X2_become_10 c q0 n x2 σ) x = σ x
  | 0, x2, σ => rfl
  | n + 1, x2, σ => by
    rw [L_X2_become_10]
    (repeat' split) <;> first | with_reducible rfl | simp (disch := (first | omega | exact rc_ru _)) only [up2_cell, fx_f_X2_add, fx_L_X2_become_10 c q0 hx hc n]
theorem fx_f_X2_become (σ : Sg) (c : Nat) (q0 : Nat) {x : Nat} (hx : 28 ≤ x ∧ x ≤ 56) (hc : 57 ≤ c) : (f_X2_become σ c q0) x = σ x := by
  unfold f_X2_become
  (repeat' split) <;> first | with_reducible rfl | simp (disch := (first | omega | exact rc_ru _)) only [up2_cell, fx_L_X2_become_10, fx_f_X2_begin]
theorem fx_f_X2_becomeSpare (σ : Sg) (c : Nat) (a0 : Int) (a1 : Int) {x : Nat} (hx : 28 ≤ x ∧ x ≤ 56) (hc : 57 ≤ c) : (f_X2_becomeSpare σ c a0 a1) x = σ x := by
  unfold f_X2_becomeSpare
  (repeat' split) <;> first | with_reducible rfl | simp (disch := (first | omega | exact rc_ru _)) only [up2_cell, fx_f_X2_add, fx_f_X2_begin]
theorem fx_L_X8_addNumber_3 (a0 : Int) {x : Nat} (hx : 28 ≤ x ∧ x ≤ 56) : ∀ (n : Nat) (x2 : Int) (σ : Sg), (L_X8_addNumber_3 a0 n x2 σ) x = σ x
  | 0, x2, σ => rfl
  | n + 1, x2, σ => by
    rw [L_X8_addNumber_3]
    (repeat' split) <;> first | with_reducible rfl | simp (disch := (first | omega | exact rc_ru _)) only [up2_cell, fx_L_X8_addNumber_3 a0 hx n]
theorem fx_f_X8_addNumber (σ : Sg) (a0 : Int) {x : Nat} (hx : 28 ≤ x ∧ x ≤ 56) : (f_X8_addNumber σ a0) x = σ x := by
  unfold f_X8_addNumber
  (repeat' split) <;> first | with_reducible rfl | simp (disch := (first | omega | exact rc_ru _)) only [up2_cell, fx_L_X8_addNumber_3]
theorem fx_f_X8_cut (σ : Sg) (a0 : Int) {x : Nat} (hx : 28 ≤ x ∧ x ≤ 56) : (f_X8_cut σ a0).2 x = σ x := by
  unfold f_X8_cut
  (repeat' split) <;> first | with_reducible rfl | simp (disch := (first | omega | exact rc_ru _)) only [up2_cell]
theorem fx_f_X8_clear (σ : Sg) {x : Nat} (hx : 28 ≤ x ∧ x ≤ 56) : (f_X8_clear σ) x = σ x := by
  unfold f_X8_clear
  (repeat' split) <;> first | with_reducible rfl | simp (disch := (first | omega | exact rc_ru _)) only [up2_cell]
theorem fx_f_X1_add (σ : Sg) (q0 : Nat) {x : Nat} (hx : 28 ≤ x ∧ x ≤ 56) : (f_X1_add σ q0).2 x = σ x := by
  unfold f_X1_add
  (repeat' split) <;> first | with_reducible rfl | simp (disch := (first | omega | exact rc_ru _)) only [up2_cell, fx_f_X2_become]
theorem fx_L_X1_follow_2 (q0 : Nat) (q1 : Nat) {x : Nat} (hx : 28 ≤ x ∧ x ≤ 56) : ∀ (n : Nat) (x3 : Int) (σ : Sg), (L_X1_follow_2 q0 q1 n x3 σ) x = σ x
  | 0, x3, σ => rfl
  | n + 1, x3, σ => by
    rw [L_X1_follow_2]
    (repeat' split) <;> first | with_reducible rfl | simp (disch := (first | omega | exact rc_ru _)) only [up2_cell, fx_f_X2_become, fx_L_X1_follow_2 q0 q1 hx n]
theorem fx_f_X1_follow (σ : Sg) (q0 : Nat) (q1 : Nat) {x : Nat} (hx : 28 ≤ x ∧ x ≤ 56) : (f_X1_follow σ q0 q1) x = σ x := by
  unfold f_X1_follow
  (repeat' split) <;> first | with_reducible rfl | simp (disch := (first | omega | exact rc_ru _)) only [up2_cell, fx_L_X1_follow_2]
theorem fx_f_X5_fault (σ : Sg) (c : Nat) (a0 : Int) (a1 : Int) {x : Nat} (hx : 28 ≤ x ∧ x ≤ 56) (hc : isRu c) : (f_X5_fault σ c a0 a1).2 x = σ x := by
  unfold f_X5_fault
  (repeat' split) <;> first | with_reducible rfl | simp (disch := (first | omega | exact rc_ru _)) only [up2_cell]
theorem fx_f_X5_addItem (σ : Sg) (c : Nat) (a0 : Int) {x : Nat} (hx : 28 ≤ x ∧ x ≤ 56) (hc : isRu c) : (f_X5_addItem σ c a0) x = σ x := by
  unfold f_X5_addItem
  (repeat' split) <;> first | with_reducible rfl | simp (disch := (first | omega | exact rc_ru _)) only [up2_cell]
theorem fx_L_X5_readItems_2 (c : Nat) {x : Nat} (hx : 28 ≤ x ∧ x ≤ 56) (hc : isRu c) : ∀ (n : Nat) (x2 : Int) (σ : Sg), (L_X5_readItems_2 c n x2 σ).2 x = σ x
  | 0, x2, σ => rfl
  | n + 1, x2, σ => by
    rw [L_X5_readItems_2]
    (repeat' split) <;> first | with_reducible rfl | simp (disch := (first | omega | exact rc_ru _)) only [up2_cell, fx_f_X5_fault, fx_f_X5_addItem, fx_L_X5_readItems_2 c hx hc n]
theorem fx_f_X5_readItems (σ : Sg) (c : Nat) {x : Nat} (hx : 28 ≤ x ∧ x ≤ 56) (hc : isRu c) : (f_X5_readItems σ c).2 x = σ x := by
  unfold f_X5_readItems
  (repeat' split) <;> first | with_reducible rfl | simp (disch := (first | omega | exact rc_ru _)) only [up2_cell, fx_L_X5_readItems_2]
theorem fx_f_X5_addPart (σ : Sg) (c : Nat) (a0 : Int) (a1 : Int) {x : Nat} (hx : 28 ≤ x ∧ x ≤ 56) (hc : isRu c) : (f_X5_addPart σ c a0 a1) x = σ x := by
  unfold f_X5_addPart
  (repeat' split) <;> first | with_reducible rfl | simp (disch := (first | omega | exact rc_ru _)) only [up2_cell]
theorem fx_L_X5_readParts_2 (c : Nat) (a1 : Int) {x : Nat} (hx : 28 ≤ x ∧ x ≤ 56) (hc : isRu c) : ∀ (n : Nat) (x3 : Int) (σ : Sg), (L_X5_readParts_2 c a1 n x3 σ).2 x = σ x
  | 0, x3, σ => rfl
  | n + 1, x3, σ => by
    rw [L_X5_readParts_2]
    (repeat' split) <;> first | with_reducible rfl | simp (disch := (first | omega | exact rc_ru _)) only [up2_cell, fx_f_X5_fault, fx_f_X5_addPart, fx_L_X5_readParts_2 c a1 hx hc n]
theorem fx_f_X5_readParts (σ : Sg) (c : Nat) (a1 : Int) {x : Nat} (hx : 28 ≤ x ∧ x ≤ 56) (hc : isRu c) : (f_X5_readParts σ c a1).2 x = σ x := by
  unfold f_X5_readParts
  (repeat' split) <;> first | with_reducible rfl | simp (disch := (first | omega | exact rc_ru _)) only [up2_cell, fx_L_X5_readParts_2]
theorem fx_f_X5_read (σ : Sg) (c : Nat) {x : Nat} (hx : 28 ≤ x ∧ x ≤ 56) (hc : isRu c) : (f_X5_read σ c).2 x = σ x := by
  unfold f_X5_read
  (repeat' split) <;> first | with_reducible rfl | simp (disch := (first | omega | exact rc_ru _)) only [up2_cell, fx_f_X5_readItems, fx_f_X5_readParts]
theorem fx_f_X7_setFolding (σ : Sg) (a0 : Int) {x : Nat} (hx : 28 ≤ x ∧ x ≤ 56) : (f_X7_setFolding σ a0) x = σ x := by
  unfold f_X7_setFolding
  (repeat' split) <;> first | with_reducible rfl | simp (disch := (first | omega | exact rc_ru _)) only [up2_cell]
theorem fx_f_X7_add (σ : Sg) (q0 : Nat) {x : Nat} (hx : 28 ≤ x ∧ x ≤ 56) : (f_X7_add σ q0).2 x = σ x := by
  unfold f_X7_add
  (repeat' split) <;> first | with_reducible rfl | simp (disch := (first | omega | exact rc_ru _)) only [up2_cell, fx_f_X2_become]
theorem fx_f_X7_drop (σ : Sg) (a0 : Int) {x : Nat} (hx : 28 ≤ x ∧ x ≤ 56) : (f_X7_drop σ a0) x = σ x := by
  unfold f_X7_drop
  (repeat' split) <;> first | with_reducible rfl | simp (disch := (first | omega | exact rc_ru _)) only [up2_cell]
theorem fx_L_X7_list_44 (a0 : Int) (a1 : Int) {x : Nat} (hx : 28 ≤ x ∧ x ≤ 56) : ∀ (n : Nat) (x3 : Int) (x4 : Int) (x5 : Int) (x6 : Int) (σ : Sg), (L_X7_list_44 a0 a1 n x3 x4 x5 x6 σ).2 x = σ x
  | 0, x3, x4, x5, x6, σ => rfl
  | n + 1, x3, x4, x5, x6, σ => by
    rw [L_X7_list_44]
    (repeat' split) <;> first | with_reducible rfl | simp (disch := (first | omega | exact rc_ru _)) only [up2_cell, fx_L_X7_list_44 a0 a1 hx n]
theorem fx_L_X7_list_5 (a0 : Int) (a1 : Int) {x : Nat} (hx : 28 ≤ x ∧ x ≤ 56) : ∀ (n : Nat) (x3 : Int) (x4 : Int) (σ : Sg), (L_X7_list_5 a0 a1 n x3 x4 σ).2 x = σ x
  | 0, x3, x4, σ => rfl
  | n + 1, x3, x4, σ => by
    rw [L_X7_list_5]
    (repeat' split) <;> first | with_reducible rfl | simp (disch := (first | omega | exact rc_ru _)) only [up2_cell, fx_L_X7_list_44, fx_L_X7_list_5 a0 a1 hx n]
theorem fx_f_X7_list (σ : Sg) (a0 : Int) (a1 : Int) {x : Nat} (hx : 28 ≤ x ∧ x ≤ 56) : (f_X7_list σ a0 a1).2 x = σ x := by
  unfold f_X7_list
  (repeat' split) <;> first | with_reducible rfl | simp (disch := (first | omega | exact rc_ru _)) only [up2_cell, fx_L_X7_list_5]
theorem fx_L_X0_findWays_8 (q0 : Nat) (q1 : Nat) {x : Nat} (hx : 28 ≤ x ∧ x ≤ 56) : ∀ (n : Nat) (x3 : Int) (x4 : Int) (σ : Sg), (L_X0_findWays_8 q0 q1 n x3 x4 σ) x = σ x
  | 0, x3, x4, σ => rfl
  | n + 1, x3, x4, σ => by
    rw [L_X0_findWays_8]
    (repeat' split) <;> first | with_reducible rfl | simp (disch := (first | omega | exact rc_ru _)) only [up2_cell, fx_L_X0_findWays_8 q0 q1 hx n]
theorem fx_L_X0_findWays_65 (q0 : Nat) (q1 : Nat) {x : Nat} (hx : 28 ≤ x ∧ x ≤ 56) : ∀ (n : Nat) (x4 : Int) (x5 : Int) (σ : Sg), (L_X0_findWays_65 q0 q1 n x4 x5 σ) x = σ x
  | 0, x4, x5, σ => rfl
  | n + 1, x4, x5, σ => by
    rw [L_X0_findWays_65]
    (repeat' split) <;> first | with_reducible rfl | simp (disch := (first | omega | exact rc_ru _)) only [up2_cell, fx_L_X0_findWays_65 q0 q1 hx n]
theorem fx_L_X0_findWays_54 (q0 : Nat) (q1 : Nat) {x : Nat} (hx : 28 ≤ x ∧ x ≤ 56) : ∀ (n : Nat) (x4 : Int) (σ : Sg), (L_X0_findWays_54 q0 q1 n x4 σ) x = σ x
  | 0, x4, σ => rfl
  | n + 1, x4, σ => by
    rw [L_X0_findWays_54]
    (repeat' split) <;> first | with_reducible rfl | simp (disch := (first | omega | exact rc_ru _)) only [up2_cell, fx_L_X0_findWays_65, fx_L_X0_findWays_54 q0 q1 hx n]
theorem fx_f_X0_findWays (σ : Sg) (q0 : Nat) (q1 : Nat) {x : Nat} (hx : 28 ≤ x ∧ x ≤ 56) : (f_X0_findWays σ q0 q1) x = σ x := by
  unfold f_X0_findWays
  (repeat' split) <;> first | with_reducible rfl | simp (disch := (first | omega | exact rc_ru _)) only [up2_cell, fx_L_X0_findWays_54, fx_L_X0_findWays_8]
theorem fx_L_X0_match_22 (q0 : Nat) (q1 : Nat) {x : Nat} (hx : 28 ≤ x ∧ x ≤ 56) : ∀ (n : Nat) (x3 : Int) (x4 : Int) (σ : Sg), (L_X0_match_22 q0 q1 n x3 x4 σ) x = σ x
  | 0, x3, x4, σ => rfl
  | n + 1, x3, x4, σ => by
    rw [L_X0_match_22]
    (repeat' split) <;> first | with_reducible rfl | simp (disch := (first | omega | exact rc_ru _)) only [up2_cell, fx_L_X0_match_22 q0 q1 hx n]
theorem fx_f_X0_match (σ : Sg) (q0 : Nat) (q1 : Nat) {x : Nat} (hx : 28 ≤ x ∧ x ≤ 56) : (f_X0_match σ q0 q1).2 x = σ x := by
  unfold f_X0_match
  (repeat' split) <;> first | with_reducible rfl | simp (disch := (first | omega | exact rc_ru _)) only [up2_cell, fx_f_X0_findWays, fx_L_X0_match_22]
theorem fx_f_X4_begin (σ : Sg) (c : Nat) (a0 : Int) (q1 : Nat) (a2 : Int) {x : Nat} (hx : 28 ≤ x ∧ x ≤ 56) (hc : 57 ≤ c) : (f_X4_begin σ c a0 q1 a2) x = σ x := by
  unfold f_X4_begin
  (repeat' split) <;> first | with_reducible rfl | simp (disch := (first | omega | exact rc_ru _)) only [up2_cell, fx_f_X2_becomeSpare, fx_f_X2_become]
theorem fx_f_X4_addByte (σ : Sg) (c : Nat) (a0 : Int) {x : Nat} (hx : 28 ≤ x ∧ x ≤ 56) (hc : 57 ≤ c) : (f_X4_addByte σ c a0) x = σ x := by
  unfold f_X4_addByte
  (repeat' split) <;> first | with_reducible rfl | simp (disch := (first | omega | exact rc_ru _)) only [up2_cell, fx_f_X2_add]
theorem fx_L_X4_addTaken_3 (c : Nat) (a0 : Int) (a1 : Int) (a2 : Int) {x : Nat} (hx : 28 ≤ x ∧ x ≤ 56) (hc : 57 ≤ c) : ∀ (n : Nat) (x4 : Int) (σ : Sg), (L_X4_addTaken_3 c a0 a1 a2 n x4 σ) x = σ x
  | 0, x4, σ => rfl
  | n + 1, x4, σ => by
    rw [L_X4_addTaken_3]
    (repeat' split) <;> first | with_reducible rfl | simp (disch := (first | omega | exact rc_ru _)) only [up2_cell, fx_f_X4_addByte, fx_L_X4_addTaken_3 c a0 a1 a2 hx hc n]
theorem fx_f_X4_addTaken (σ : Sg) (c : Nat) (a0 : Int) (a1 : Int) (a2 : Int) {x : Nat} (hx : 28 ≤ x ∧ x ≤ 56) (hc : 57 ≤ c) : (f_X4_addTaken σ c a0 a1 a2) x = σ x := by
  unfold f_X4_addTaken
  (repeat' split) <;> first | with_reducible rfl | simp (disch := (first | omega | exact rc_ru _)) only [up2_cell, fx_L_X4_addTaken_3]
theorem fx_L_X4_addCounter_6 (c : Nat) (a0 : Int) {x : Nat} (hx : 28 ≤ x ∧ x ≤ 56) (hc : 57 ≤ c) : ∀ (n : Nat) (x2 : Int) (x3 : Int) (σ : Sg), (L_X4_addCounter_6 c a0 n x2 x3 σ) x = σ x
  | 0, x2, x3, σ => rfl
  | n + 1, x2, x3, σ => by
    rw [L_X4_addCounter_6]
    (repeat' split) <;> first | with_reducible rfl | simp (disch := (first | omega | exact rc_ru _)) only [up2_cell, fx_f_X4_addByte, fx_L_X4_addCounter_6 c a0 hx hc n]
theorem fx_f_X4_addCounter (σ : Sg) (c : Nat) (a0 : Int) {x : Nat} (hx : 28 ≤ x ∧ x ≤ 56) (hc : 57 ≤ c) : (f_X4_addCounter σ c a0) x = σ x := by
  unfold f_X4_addCounter
  (repeat' split) <;> first | with_reducible rfl | simp (disch := (first | omega | exact rc_ru _)) only [up2_cell, fx_L_X4_addCounter_6]
theorem fx_L_X4_nameBy_16 (c : Nat) (q0 : Nat) (a2 : Int) {x : Nat} (hx : 28 ≤ x ∧ x ≤ 56) (hc : 57 ≤ c) : ∀ (n : Nat) (x4 : Int) (σ : Sg), (L_X4_nameBy_16 c q0 a2 n x4 σ) x = σ x
  | 0, x4, σ => rfl
  | n + 1, x4, σ => by
    rw [L_X4_nameBy_16]
    (repeat' split) <;> first | with_reducible rfl | simp (disch := (first | omega | exact rc_ru _)) only [up2_cell, fx_f_X4_addCounter, fx_f_X4_addByte, fx_f_X4_addTaken, fx_L_X4_nameBy_16 c q0 a2 hx hc n]
theorem fx_f_X4_nameBy (σ : Sg) (c : Nat) (q0 : Nat) (a2 : Int) {x : Nat} (hx : 28 ≤ x ∧ x ≤ 56) (hc : 57 ≤ c) : (f_X4_nameBy σ c q0 a2) x = σ x := by
  unfold f_X4_nameBy
  (repeat' split) <;> first | with_reducible rfl | simp (disch := (first | omega | exact rc_ru _)) only [up2_cell, fx_L_X4_nameBy_16, fx_f_X2_begin]
theorem fx_f_X4_findOwnTrouble (σ : Sg) (c : Nat) {x : Nat} (hx : 28 ≤ x ∧ x ≤ 56) (hc : 57 ≤ c) : (f_X4_findOwnTrouble σ c) x = σ x := by
  unfold f_X4_findOwnTrouble
  (repeat' split) <;> first | with_reducible rfl | simp (disch := (first | omega | exact rc_ru _)) only [up2_cell]
theorem fx_f_X4_setTrouble (σ : Sg) (c : Nat) (a0 : Int) (a1 : Int) {x : Nat} (hx : 28 ≤ x ∧ x ≤ 56) (hc : 57 ≤ c) : (f_X4_setTrouble σ c a0 a1) x = σ x := by
  unfold f_X4_setTrouble
  (repeat' split) <;> first | with_reducible rfl | simp (disch := (first | omega | exact rc_ru _)) only [up2_cell]
theorem fx_f_X3_setDone (σ : Sg) (a0 : Int) {x : Nat} (hx : 28 ≤ x ∧ x ≤ 56) : (f_X3_setDone σ a0) x = σ x := by
  unfold f_X3_setDone
  (repeat' split) <;> first | with_reducible rfl | simp (disch := (first | omega | exact rc_ru _)) only [up2_cell]
theorem fx_f_X3_begin (σ : Sg) {x : Nat} (hx : 28 ≤ x ∧ x ≤ 56) : (f_X3_begin σ) x = σ x := by
  unfold f_X3_begin
  (repeat' split) <;> first | with_reducible rfl | simp (disch := (first | omega | exact rc_ru _)) only [up2_cell]
theorem fx_f_X3_add (σ : Sg) (a0 : Int) (q1 : Nat) (a2 : Int) {x : Nat} (hx : 28 ≤ x ∧ x ≤ 56) : (f_X3_add σ a0 q1 a2).2 x = σ x := by
  unfold f_X3_add
  (repeat' split) <;> first | with_reducible rfl | simp (disch := (first | omega | exact rc_ru _)) only [up2_cell, fx_f_X4_begin]
theorem fx_L_X3_findTroubleWithOthers_10 (σ : Sg) (a0 : Int) (r3 : Nat) {x : Nat} (hx : 28 ≤ x ∧ x ≤ 56) (hr3 : 57 ≤ r3) : ∀ (n : Nat) (x4 : Int), (L_X3_findTroubleWithOthers_10 σ a0 r3 n x4) x = σ x
  | 0, x4 => rfl
  | n + 1, x4 => by
    rw [L_X3_findTroubleWithOthers_10]
    (repeat' split) <;> first | with_reducible rfl | simp (disch := (first | omega | exact rc_ru _)) only [up2_cell, fx_f_X4_setTrouble, fx_L_X3_findTroubleWithOthers_10 σ a0 r3 hx hr3 n]
theorem fx_f_X3_findTroubleWithOthers (σ : Sg) (a0 : Int) {x : Nat} (hx : 28 ≤ x ∧ x ≤ 56) : (f_X3_findTroubleWithOthers σ a0) x = σ x := by
  unfold f_X3_findTroubleWithOthers
  (repeat' split) <;> first | with_reducible rfl | simp (disch := (first | omega | exact rc_ru _)) only [up2_cell, fx_L_X3_findTroubleWithOthers_10]
theorem fx_L_X3_findTroubles_2 {x : Nat} (hx : 28 ≤ x ∧ x ≤ 56) : ∀ (n : Nat) (x2 : Int) (σ : Sg), (L_X3_findTroubles_2 n x2 σ) x = σ x
  | 0, x2, σ => rfl
  | n + 1, x2, σ => by
    rw [L_X3_findTroubles_2]
    (repeat' split) <;> first | with_reducible rfl | simp (disch := (first | omega | exact rc_ru _)) only [up2_cell, fx_f_X4_findOwnTrouble, fx_L_X3_findTroubles_2 hx n]
theorem fx_L_X3_findTroubles_27 {x : Nat} (hx : 28 ≤ x ∧ x ≤ 56) : ∀ (n : Nat) (x2 : Int) (σ : Sg), (L_X3_findTroubles_27 n x2 σ) x = σ x
  | 0, x2, σ => rfl
  | n + 1, x2, σ => by
    rw [L_X3_findTroubles_27]
    (repeat' split) <;> first | with_reducible rfl | simp (disch := (first | omega | exact rc_ru _)) only [up2_cell, fx_f_X3_findTroubleWithOthers, fx_L_X3_findTroubles_27 hx n]
theorem fx_f_X3_findTroubles (σ : Sg) {x : Nat} (hx : 28 ≤ x ∧ x ≤ 56) : (f_X3_findTroubles σ) x = σ x := by
  unfold f_X3_findTroubles
  (repeat' split) <;> first | with_reducible rfl | simp (disch := (first | omega | exact rc_ru _)) only [up2_cell, fx_L_X3_findTroubles_27, fx_L_X3_findTroubles_2]
theorem fx_f_X3_addStep (σ : Sg) (a0 : Int) (a1 : Int) {x : Nat} (hx : 28 ≤ x ∧ x ≤ 56) : (f_X3_addStep σ a0 a1) x = σ x := by
  unfold f_X3_addStep
  (repeat' split) <;> first | with_reducible rfl | simp (disch := (first | omega | exact rc_ru _)) only [up2_cell]
theorem fx_L_X3_findSteps_10 {x : Nat} (hx : 28 ≤ x ∧ x ≤ 56) : ∀ (n : Nat) (x1 : Int) (σ : Sg), (L_X3_findSteps_10 n x1 σ) x = σ x
  | 0, x1, σ => rfl
  | n + 1, x1, σ => by
    rw [L_X3_findSteps_10]
    (repeat' split) <;> first | with_reducible rfl | simp (disch := (first | omega | exact rc_ru _)) only [up2_cell, fx_f_X3_addStep, fx_L_X3_findSteps_10 hx n]
theorem fx_f_X3_findSteps (σ : Sg) {x : Nat} (hx : 28 ≤ x ∧ x ≤ 56) : (f_X3_findSteps σ) x = σ x := by
  unfold f_X3_findSteps
  (repeat' split) <;> first | with_reducible rfl | simp (disch := (first | omega | exact rc_ru _)) only [up2_cell, fx_L_X3_findSteps_10]
theorem fx_L_X9_takePlace_37 (a0 : Int) {x : Nat} (hx : 28 ≤ x ∧ x ≤ 56) : ∀ (n : Nat) (x2 : Int) (x3 : Int) (σ : Sg), (L_X9_takePlace_37 a0 n x2 x3 σ) x = σ x
  | 0, x2, x3, σ => rfl
  | n + 1, x2, x3, σ => by
    rw [L_X9_takePlace_37]
    (repeat' split) <;> first | with_reducible rfl | simp (disch := (first | omega | exact rc_ru _)) only [up2_cell, fx_f_X2_add, fx_L_X9_takePlace_37 a0 hx n]
theorem fx_f_X9_takePlace (σ : Sg) (a0 : Int) {x : Nat} (hx : 28 ≤ x ∧ x ≤ 56) : (f_X9_takePlace σ a0).2 x = σ x := by
  unfold f_X9_takePlace
  (repeat' split) <;> first | with_reducible rfl | simp (disch := (first | omega | exact rc_ru _)) only [up2_cell, fx_f_X8_clear, fx_L_X9_takePlace_37, fx_f_X2_begin]
theorem fx_f_X9_move (σ : Sg) (a0 : Int) (q1 : Nat) {x : Nat} (hx : 28 ≤ x ∧ x ≤ 56) : (f_X9_move σ a0 q1) x = σ x := by
  unfold f_X9_move
  (repeat' split) <;> first | with_reducible rfl | simp (disch := (first | omega | exact rc_ru _)) only [up2_cell, fx_f_X2_become, fx_f_X1_follow, placeOf_eq]
theorem fx_f_X9_tryMove (σ : Sg) (a0 : Int) (q1 : Nat) (q2 : Nat) {x : Nat} (hx : 28 ≤ x ∧ x ≤ 56) : (f_X9_tryMove σ a0 q1 q2).2 x = σ x := by
  unfold f_X9_tryMove
  (repeat' split) <;> first | with_reducible rfl | simp (disch := (first | omega | exact rc_ru _)) only [up2_cell, fx_f_X9_move, placeOf_eq]
theorem fx_f_X9_folds (σ : Sg) (a0 : Int) {x : Nat} (hx : 28 ≤ x ∧ x ≤ 56) : (f_X9_folds σ a0).2 x = σ x := by
  unfold f_X9_folds
  (repeat' split) <;> first | with_reducible rfl | simp (disch := (first | omega | exact rc_ru _)) only [up2_cell, fx_f_X7_setFolding]
theorem fx_f_X9_feed (σ : Sg) (a0 : Int) (a1 : Int) (a2 : Int) (a3 : Int) (a4 : Int) {x : Nat} (hx : 28 ≤ x ∧ x ≤ 56) : (f_X9_feed σ a0 a1 a2 a3 a4).2 x = σ x := by
  unfold f_X9_feed
  (repeat' split) <;> first | with_reducible rfl | simp (disch := (first | omega | exact rc_ru _)) only [up2_cell, fx_f_X8_addNumber]
theorem fx_f_X9_end (σ : Sg) (a0 : Int) {x : Nat} (hx : 28 ≤ x ∧ x ≤ 56) : (f_X9_end σ a0).2 x = σ x := by
  unfold f_X9_end
  (repeat' split) <;> first | with_reducible rfl | simp (disch := (first | omega | exact rc_ru _)) only [up2_cell, fx_f_X8_cut]
theorem fx_f_X9_file (σ : Sg) (a0 : Int) {x : Nat} (hx : 28 ≤ x ∧ x ≤ 56) : (f_X9_file σ a0).2 x = σ x := by
  unfold f_X9_file
  (repeat' split) <;> first | with_reducible rfl | simp (disch := (first | omega | exact rc_ru _)) only [up2_cell, fx_f_X9_takePlace, fx_f_X7_add]
theorem fx_f_X9_remove (σ : Sg) (a0 : Int) {x : Nat} (hx : 28 ≤ x ∧ x ≤ 56) : (f_X9_remove σ a0).2 x = σ x := by
  unfold f_X9_remove
  (repeat' split) <;> first | with_reducible rfl | simp (disch := (first | omega | exact rc_ru _)) only [up2_cell, fx_f_X7_drop]
theorem fx_f_X9_hand (σ : Sg) (a0 : Int) (a1 : Int) {x : Nat} (hx : 28 ≤ x ∧ x ≤ 56) : (f_X9_hand σ a0 a1).2 x = σ x := by
  unfold f_X9_hand
  (repeat' split) <;> first | with_reducible rfl | simp (disch := (first | omega | exact rc_ru _)) only [up2_cell, fx_f_X9_takePlace, fx_f_X9_move]
theorem fx_f_X9_at (σ : Sg) (a0 : Int) {x : Nat} (hx : 28 ≤ x ∧ x ≤ 56) : (f_X9_at σ a0).2 x = σ x := by
  unfold f_X9_at
  (repeat' split) <;> first | with_reducible rfl | simp (disch := (first | omega | exact rc_ru _)) only [up2_cell, fx_f_X9_takePlace]
theorem fx_f_X9_rule (σ : Sg) {x : Nat} (hx : 28 ≤ x ∧ x ≤ 56) : (f_X9_rule σ).2 x = σ x := by
  unfold f_X9_rule
  (repeat' split) <;> first | with_reducible rfl | simp (disch := (first | omega | exact rc_ru _)) only [up2_cell, fx_f_X5_read, fx_f_X8_clear]
theorem fx_f_X9_fits (σ : Sg) (a0 : Int) (a1 : Int) {x : Nat} (hx : 28 ≤ x ∧ x ≤ 56) : (f_X9_fits σ a0 a1).2 x = σ x := by
  unfold f_X9_fits
  (repeat' split) <;> first | with_reducible rfl | simp (disch := (first | omega | exact rc_ru _)) only [up2_cell, fx_f_X0_match, placeOf_eq]
theorem fx_L_X9_plan_84 (a0 : Int) (a1 : Int) (a2 : Int) (a3 : Int) (a4 : Int) {x : Nat} (hx : 28 ≤ x ∧ x ≤ 56) : ∀ (n : Nat) (x6 : Int) (x7 : Int) (σ : Sg), (L_X9_plan_84 a0 a1 a2 a3 a4 n x6 x7 σ) x = σ x
  | 0, x6, x7, σ => rfl
  | n + 1, x6, x7, σ => by
    rw [L_X9_plan_84]
    (repeat' split) <;> first | with_reducible rfl | simp (disch := (first | omega | exact rc_ru _)) only [up2_cell, fx_f_X0_match, fx_f_X4_nameBy, fx_f_X3_add, placeOf_eq, add3_fst, fx_L_X9_plan_84 a0 a1 a2 a3 a4 hx n]
theorem fx_f_X9_plan (σ : Sg) (a0 : Int) (a1 : Int) (a2 : Int) (a3 : Int) (a4 : Int) {x : Nat} (hx : 28 ≤ x ∧ x ≤ 56) : (f_X9_plan σ a0 a1 a2 a3 a4).2 x = σ x := by
  unfold f_X9_plan
  (repeat' split) <;> first | with_reducible rfl | simp (disch := (first | omega | exact rc_ru _)) only [up2_cell, fx_f_X3_findSteps, fx_f_X3_findTroubles, fx_L_X9_plan_84, fx_f_X7_list, fx_f_X3_begin]
theorem fx_L_X9_go_43 (a0 : Int) {x : Nat} (hx : 28 ≤ x ∧ x ≤ 56) : ∀ (n : Nat) (x2 : Int) (x3 : Int) (σ : Sg), (L_X9_go_43 a0 n x2 x3 σ).2 x = σ x
  | 0, x2, x3, σ => rfl
  | n + 1, x2, x3, σ => by
    rw [L_X9_go_43]
    (repeat' split) <;> first | with_reducible rfl | simp (disch := (first | omega | exact rc_ru _)) only [up2_cell, fx_f_X9_tryMove, fx_f_X3_setDone, fx_L_X9_go_43 a0 hx n]
theorem fx_f_X9_go (σ : Sg) (a0 : Int) {x : Nat} (hx : 28 ≤ x ∧ x ≤ 56) : (f_X9_go σ a0).2 x = σ x := by
  unfold f_X9_go
  (repeat' split) <;> first | with_reducible rfl | simp (disch := (first | omega | exact rc_ru _)) only [up2_cell, fx_L_X9_go_43]
theorem fx_L_X9_back_35 (a0 : Int) {x : Nat} (hx : 28 ≤ x ∧ x ≤ 56) : ∀ (n : Nat) (x2 : Int) (x3 : Int) (σ : Sg), (L_X9_back_35 a0 n x2 x3 σ).2 x = σ x
  | 0, x2, x3, σ => rfl
  | n + 1, x2, x3, σ => by
    rw [L_X9_back_35]
    (repeat' split) <;> first | with_reducible rfl | simp (disch := (first | omega | exact rc_ru _)) only [up2_cell, fx_f_X9_tryMove, fx_f_X3_setDone, fx_L_X9_back_35 a0 hx n]
theorem fx_f_X9_back (σ : Sg) (a0 : Int) {x : Nat} (hx : 28 ≤ x ∧ x ≤ 56) : (f_X9_back σ a0).2 x = σ x := by
  unfold f_X9_back
  (repeat' split) <;> first | with_reducible rfl | simp (disch := (first | omega | exact rc_ru _)) only [up2_cell, fx_L_X9_back_35]
theorem fx_f_X9_link (σ : Sg) (a0 : Int) {x : Nat} (hx : 28 ≤ x ∧ x ≤ 56) : (f_X9_link σ a0).2 x = σ x := by
  unfold f_X9_link
  (repeat' split) <;> first | with_reducible rfl | simp (disch := (first | omega | exact rc_ru _)) only [up2_cell, fx_f_X9_takePlace, fx_f_X1_add]
