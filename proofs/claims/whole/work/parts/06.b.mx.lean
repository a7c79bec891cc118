theorem mx_goesT (σ : Sg) (a0 a1 a2 : Int) {x : Nat} (hx : x < 28 ∨ 56 ≤ x) : (f_X10_goesT σ a0 a1 a2).2 x = σ x := by
  unfold f_X10_goesT
  exact gfd_fr (by omega) (by omega) 12 σ a0 a1 a2
theorem mx_L_X10_copies_26 (a0 : Int) (a1 : Int) {x : Nat} (hx : x < 28 ∨ 56 ≤ x) : ∀ (n : Nat) (x3 : Int) (σ : Sg), (L_X10_copies_26 a0 a1 n x3 σ) x = σ x
  | 0, x3, σ => rfl
  | n + 1, x3, σ => by
    rw [L_X10_copies_26]
    (repeat' split) <;> first | with_reducible rfl | simp (disch := (first | omega | exact rc_ru _)) only [up2_cell, mx_L_X10_copies_26 a0 a1 hx n]
theorem mx_f_X10_copies (σ : Sg) (a0 : Int) (a1 : Int) {x : Nat} (hx : x < 28 ∨ 56 ≤ x) : (f_X10_copies σ a0 a1) x = σ x := by
  unfold f_X10_copies
  (repeat' split) <;> first | with_reducible rfl | simp (disch := (first | omega | exact rc_ru _)) only [up2_cell, mx_L_X10_copies_26]
theorem mx_L_X10_goesTo_3 (a0 : Int) (a1 : Int) {x : Nat} (hx : x < 28 ∨ 56 ≤ x) : ∀ (n : Nat) (x3 : Int) (σ : Sg), (L_X10_goesTo_3 a0 a1 n x3 σ) x = σ x
  | 0, x3, σ => rfl
  | n + 1, x3, σ => by
    rw [L_X10_goesTo_3]
    (repeat' split) <;> first | with_reducible rfl | simp (disch := (first | omega | exact rc_ru _)) only [up2_cell, mx_f_X10_copies, mx_L_X10_goesTo_3 a0 a1 hx n]
theorem mx_f_X10_goesTo (σ : Sg) (a0 : Int) (a1 : Int) {x : Nat} (hx : x < 28 ∨ 56 ≤ x) : (f_X10_goesTo σ a0 a1) x = σ x := by
  unfold f_X10_goesTo
  (repeat' split) <;> first | with_reducible rfl | simp (disch := (first | omega | exact rc_ru _)) only [up2_cell, mx_f_X10_copies, mx_L_X10_goesTo_3]
theorem mx_f_X10_folds (σ : Sg) (a0 : Int) {x : Nat} (hx : x < 28 ∨ 56 ≤ x) : (f_X10_folds σ a0).2 x = σ x := by
  unfold f_X10_folds
  (repeat' split) <;> first | with_reducible rfl | simp (disch := (first | omega | exact rc_ru _)) only [up2_cell]
theorem mx_L_X10_feed_22 (a0 : Int) (a1 : Int) (a2 : Int) (a3 : Int) (a4 : Int) {x : Nat} (hx : x < 28 ∨ 56 ≤ x) : ∀ (n : Nat) (x6 : Int) (σ : Sg), (L_X10_feed_22 a0 a1 a2 a3 a4 n x6 σ) x = σ x
  | 0, x6, σ => rfl
  | n + 1, x6, σ => by
    rw [L_X10_feed_22]
    (repeat' split) <;> first | with_reducible rfl | simp (disch := (first | omega | exact rc_ru _)) only [up2_cell, mx_L_X10_feed_22 a0 a1 a2 a3 a4 hx n]
theorem mx_f_X10_feed (σ : Sg) (a0 : Int) (a1 : Int) (a2 : Int) (a3 : Int) (a4 : Int) {x : Nat} (hx : x < 28 ∨ 56 ≤ x) : (f_X10_feed σ a0 a1 a2 a3 a4).2 x = σ x := by
  unfold f_X10_feed
  (repeat' split) <;> first | with_reducible rfl | simp (disch := (first | omega | exact rc_ru _)) only [up2_cell, mx_L_X10_feed_22]
theorem mx_f_X10_end (σ : Sg) (a0 : Int) {x : Nat} (hx : x < 28 ∨ 56 ≤ x) : (f_X10_end σ a0).2 x = σ x := by
  unfold f_X10_end
  (repeat' split) <;> first | with_reducible rfl | simp (disch := (first | omega | exact rc_ru _)) only [up2_cell]
theorem mx_L_X10_takes_95 (a0 : Int) {x : Nat} (hx : x < 28 ∨ 56 ≤ x) : ∀ (n : Nat) (x2 : Int) (x3 : Int) (σ : Sg), (L_X10_takes_95 a0 n x2 x3 σ) x = σ x
  | 0, x2, x3, σ => rfl
  | n + 1, x2, x3, σ => by
    rw [L_X10_takes_95]
    (repeat' split) <;> first | with_reducible rfl | simp (disch := (first | omega | exact rc_ru _)) only [up2_cell, mx_L_X10_takes_95 a0 hx n]
theorem mx_f_X10_takes (σ : Sg) (a0 : Int) {x : Nat} (hx : x < 28 ∨ 56 ≤ x) : (f_X10_takes σ a0).2 x = σ x := by
  unfold f_X10_takes
  (repeat' split) <;> first | with_reducible rfl | simp (disch := (first | omega | exact rc_ru _)) only [up2_cell, mx_L_X10_takes_95]
theorem mx_f_X10_remove (σ : Sg) (a0 : Int) {x : Nat} (hx : x < 28 ∨ 56 ≤ x) : (f_X10_remove σ a0).2 x = σ x := by
  unfold f_X10_remove
  (repeat' split) <;> first | with_reducible rfl | simp (disch := (first | omega | exact rc_ru _)) only [up2_cell]
theorem mx_f_X10_hand (σ : Sg) (a0 : Int) (a1 : Int) {x : Nat} (hx : x < 28 ∨ 56 ≤ x) : (f_X10_hand σ a0 a1).2 x = σ x := by
  unfold f_X10_hand
  (repeat' split) <;> first | with_reducible rfl | simp (disch := (first | omega | exact rc_ru _)) only [up2_cell, mx_f_X10_takes, mx_f_X10_goesTo]
theorem mx_f_X10_at (σ : Sg) (a0 : Int) {x : Nat} (hx : x < 28 ∨ 56 ≤ x) : (f_X10_at σ a0).2 x = σ x := by
  unfold f_X10_at
  (repeat' split) <;> first | with_reducible rfl | simp (disch := (first | omega | exact rc_ru _)) only [up2_cell, mx_f_X10_takes]
theorem mx_f_X10_file (σ : Sg) (a0 : Int) {x : Nat} (hx : x < 28 ∨ 56 ≤ x) : (f_X10_file σ a0).2 x = σ x := by
  unfold f_X10_file
  (repeat' split) <;> first | with_reducible rfl | simp (disch := (first | omega | exact rc_ru _)) only [up2_cell, mx_f_X10_takes, mx_f_X10_copies]
theorem mx_f_X10_fails (σ : Sg) (a0 : Int) (a1 : Int) {x : Nat} (hx : x < 28 ∨ 56 ≤ x) : (f_X10_fails σ a0 a1) x = σ x := by
  unfold f_X10_fails
  (repeat' split) <;> first | with_reducible rfl | simp (disch := (first | omega | exact rc_ru _)) only [up2_cell]
theorem mx_L_X10_readItems_7 {x : Nat} (hx : x < 28 ∨ 56 ≤ x) : ∀ (n : Nat) (x1 : Int) (σ : Sg), (L_X10_readItems_7 n x1 σ).2 x = σ x
  | 0, x1, σ => rfl
  | n + 1, x1, σ => by
    rw [L_X10_readItems_7]
    (repeat' split) <;> first | with_reducible rfl | simp (disch := (first | omega | exact rc_ru _)) only [up2_cell, mx_f_X10_fails, mx_L_X10_readItems_7 hx n]
theorem mx_f_X10_readItems (σ : Sg) {x : Nat} (hx : x < 28 ∨ 56 ≤ x) : (f_X10_readItems σ).2 x = σ x := by
  unfold f_X10_readItems
  (repeat' split) <;> first | with_reducible rfl | simp (disch := (first | omega | exact rc_ru _)) only [up2_cell, mx_L_X10_readItems_7]
theorem mx_J_X10_readPart_230 (σ : Sg) (a0 : Int) (x4 : Int) {x : Nat} (hx : x < 28 ∨ 56 ≤ x) : (J_X10_readPart_230 a0 x4 σ).2 x = σ x := by
  unfold J_X10_readPart_230
  (repeat' split) <;> first | with_reducible rfl | simp (disch := (first | omega | exact rc_ru _)) only [up2_cell]
theorem mx_J_X10_readPart_155 (σ : Sg) (a0 : Int) (x2 : Int) (x4 : Int) {x : Nat} (hx : x < 28 ∨ 56 ≤ x) : (J_X10_readPart_155 a0 x2 x4 σ).2 x = σ x := by
  unfold J_X10_readPart_155
  (repeat' split) <;> first | with_reducible rfl | simp (disch := (first | omega | exact rc_ru _)) only [up2_cell, mx_J_X10_readPart_230, mx_f_X10_fails]
theorem mx_J_X10_readPart_49 (σ : Sg) (a0 : Int) (x2 : Int) (x3 : Int) {x : Nat} (hx : x < 28 ∨ 56 ≤ x) : (J_X10_readPart_49 σ a0 x2 x3).2 x = σ x := by
  unfold J_X10_readPart_49
  (repeat' split) <;> first | with_reducible rfl | simp (disch := (first | omega | exact rc_ru _)) only [up2_cell, mx_f_X10_fails, mx_J_X10_readPart_155]
theorem mx_f_X10_readPart (σ : Sg) (a0 : Int) {x : Nat} (hx : x < 28 ∨ 56 ≤ x) : (f_X10_readPart σ a0).2 x = σ x := by
  unfold f_X10_readPart
  (repeat' split) <;> first | with_reducible rfl | simp (disch := (first | omega | exact rc_ru _)) only [up2_cell, mx_J_X10_readPart_49]
theorem mx_L_X10_rule_20 {x : Nat} (hx : x < 28 ∨ 56 ≤ x) : ∀ (n : Nat) (x1 : Int) (σ : Sg), (L_X10_rule_20 n x1 σ) x = σ x
  | 0, x1, σ => rfl
  | n + 1, x1, σ => by
    rw [L_X10_rule_20]
    (repeat' split) <;> first | with_reducible rfl | simp (disch := (first | omega | exact rc_ru _)) only [up2_cell, mx_f_X10_readPart, mx_L_X10_rule_20 hx n]
theorem mx_L_X10_rule_107 {x : Nat} (hx : x < 28 ∨ 56 ≤ x) : ∀ (n : Nat) (x2 : Int) (σ : Sg), (L_X10_rule_107 n x2 σ) x = σ x
  | 0, x2, σ => rfl
  | n + 1, x2, σ => by
    rw [L_X10_rule_107]
    (repeat' split) <;> first | with_reducible rfl | simp (disch := (first | omega | exact rc_ru _)) only [up2_cell, mx_L_X10_rule_107 hx n]
theorem mx_f_X10_rule (σ : Sg) {x : Nat} (hx : x < 28 ∨ 56 ≤ x) : (f_X10_rule σ).2 x = σ x := by
  unfold f_X10_rule
  (repeat' split) <;> first | with_reducible rfl | simp (disch := (first | omega | exact rc_ru _)) only [up2_cell, mx_L_X10_rule_20, mx_f_X10_readItems, mx_L_X10_rule_107]
theorem mx_f_X10_place (σ : Sg) {x : Nat} (hx : x < 28 ∨ 56 ≤ x) : (f_X10_place σ).2 x = σ x := by
  unfold f_X10_place
  (repeat' split) <;> first | with_reducible rfl | simp (disch := (first | omega | exact rc_ru _)) only [up2_cell]
theorem mx_f_X10_adds (σ : Sg) (a0 : Int) (a1 : Int) {x : Nat} (hx : x < 28 ∨ 56 ≤ x) : (f_X10_adds σ a0 a1) x = σ x := by
  unfold f_X10_adds
  (repeat' split) <;> first | with_reducible rfl | simp (disch := (first | omega | exact rc_ru _)) only [up2_cell]
theorem mx_L_X10_findTrouble_32 (σ : Sg) (a0 : Int) {x : Nat} (hx : x < 28 ∨ 56 ≤ x) : ∀ (n : Nat) (x2 : Int), (L_X10_findTrouble_32 σ a0 n x2) x = σ x
  | 0, x2 => rfl
  | n + 1, x2 => by
    rw [L_X10_findTrouble_32]
    (repeat' split) <;> first | with_reducible rfl | simp (disch := (first | omega | exact rc_ru _)) only [up2_cell, mx_L_X10_findTrouble_32 σ a0 hx n]
theorem mx_f_X10_findTrouble (σ : Sg) (a0 : Int) {x : Nat} (hx : x < 28 ∨ 56 ≤ x) : (f_X10_findTrouble σ a0) x = σ x := by
  unfold f_X10_findTrouble
  (repeat' split) <;> first | with_reducible rfl | simp (disch := (first | omega | exact rc_ru _)) only [up2_cell, mx_L_X10_findTrouble_32]
theorem mx_f_X10_planned (σ : Sg) (a0 : Int) (a1 : Int) {x : Nat} (hx : x < 28 ∨ 56 ≤ x) : (f_X10_planned σ a0 a1).2 x = σ x := by
  unfold f_X10_planned
  (repeat' split) <;> first | with_reducible rfl | simp (disch := (first | omega | exact rc_ru _)) only [up2_cell]
theorem mx_f_X10_newName (σ : Sg) (a0 : Int) (a1 : Int) {x : Nat} (hx : x < 28 ∨ 56 ≤ x) : (f_X10_newName σ a0 a1).2 x = σ x := by
  unfold f_X10_newName
  (repeat' split) <;> first | with_reducible rfl | simp (disch := (first | omega | exact rc_ru _)) only [up2_cell]
theorem mx_L_X10_keeps_36 (a0 : Int) (a1 : Int) (a2 : Int) {x : Nat} (hx : x < 28 ∨ 56 ≤ x) : ∀ (n : Nat) (x4 : Int) (x5 : Int) (σ : Sg), (L_X10_keeps_36 a0 a1 a2 n x4 x5 σ) x = σ x
  | 0, x4, x5, σ => rfl
  | n + 1, x4, x5, σ => by
    rw [L_X10_keeps_36]
    (repeat' split) <;> first | with_reducible rfl | simp (disch := (first | omega | exact rc_ru _)) only [up2_cell, mx_L_X10_keeps_36 a0 a1 a2 hx n]
theorem mx_f_X10_keeps (σ : Sg) (a0 : Int) (a1 : Int) (a2 : Int) {x : Nat} (hx : x < 28 ∨ 56 ≤ x) : (f_X10_keeps σ a0 a1 a2) x = σ x := by
  unfold f_X10_keeps
  (repeat' split) <;> first | with_reducible rfl | simp (disch := (first | omega | exact rc_ru _)) only [up2_cell, mx_L_X10_keeps_36]
theorem mx_L_X10_lays_35 (a0 : Int) (a1 : Int) {x : Nat} (hx : x < 28 ∨ 56 ≤ x) : ∀ (n : Nat) (x3 : Int) (x4 : Int) (σ : Sg), (L_X10_lays_35 a0 a1 n x3 x4 σ) x = σ x
  | 0, x3, x4, σ => rfl
  | n + 1, x3, x4, σ => by
    rw [L_X10_lays_35]
    (repeat' split) <;> first | with_reducible rfl | simp (disch := (first | omega | exact rc_ru _)) only [up2_cell, mx_L_X10_lays_35 a0 a1 hx n]
theorem mx_f_X10_lays (σ : Sg) (a0 : Int) (a1 : Int) {x : Nat} (hx : x < 28 ∨ 56 ≤ x) : (f_X10_lays σ a0 a1) x = σ x := by
  unfold f_X10_lays
  (repeat' split) <;> first | with_reducible rfl | simp (disch := (first | omega | exact rc_ru _)) only [up2_cell, mx_L_X10_lays_35]
theorem mx_f_X10_spare (σ : Sg) (a0 : Int) {x : Nat} (hx : x < 28 ∨ 56 ≤ x) : (f_X10_spare σ a0) x = σ x := by
  unfold f_X10_spare
  (repeat' split) <;> first | with_reducible rfl | simp (disch := (first | omega | exact rc_ru _)) only [up2_cell]
theorem mx_f_X10_steps (σ : Sg) {x : Nat} (hx : x < 28 ∨ 56 ≤ x) : (f_X10_steps σ).2 x = σ x := by
  unfold f_X10_steps
  (repeat' split) <;> first | with_reducible rfl | simp (disch := (first | omega | exact rc_ru _)) only [up2_cell]
theorem mx_f_X10_step (σ : Sg) (a0 : Int) (a1 : Int) {x : Nat} (hx : x < 28 ∨ 56 ≤ x) : (f_X10_step σ a0 a1).2 x = σ x := by
  unfold f_X10_step
  (repeat' split) <;> first | with_reducible rfl | simp (disch := (first | omega | exact rc_ru _)) only [up2_cell]
theorem mx_f_X10_stuck (σ : Sg) {x : Nat} (hx : x < 28 ∨ 56 ≤ x) : (f_X10_stuck σ).2 x = σ x := by
  unfold f_X10_stuck
  (repeat' split) <;> first | with_reducible rfl | simp (disch := (first | omega | exact rc_ru _)) only [up2_cell]
theorem mx_f_X10_link (σ : Sg) (a0 : Int) {x : Nat} (hx : x < 28 ∨ 56 ≤ x) : (f_X10_link σ a0).2 x = σ x := by
  unfold f_X10_link
  (repeat' split) <;> first | with_reducible rfl | simp (disch := (first | omega | exact rc_ru _)) only [up2_cell, mx_f_X10_takes, mx_f_X10_copies]
theorem mx_L_X10_linkOf_62 (σ : Sg) (a0 : Int) (a1 : Int) {x : Nat} (hx : x < 28 ∨ 56 ≤ x) : ∀ (n : Nat) (x3 : Int) (x4 : Int), (L_X10_linkOf_62 σ a0 a1 n x3 x4).2 x = σ x
  | 0, x3, x4 => rfl
  | n + 1, x3, x4 => by
    rw [L_X10_linkOf_62]
    (repeat' split) <;> first | with_reducible rfl | simp (disch := (first | omega | exact rc_ru _)) only [up2_cell, mx_L_X10_linkOf_62 σ a0 a1 hx n]
theorem mx_f_X10_linkOf (σ : Sg) (a0 : Int) (a1 : Int) {x : Nat} (hx : x < 28 ∨ 56 ≤ x) : (f_X10_linkOf σ a0 a1).2 x = σ x := by
  unfold f_X10_linkOf
  (repeat' split) <;> first | with_reducible rfl | simp (disch := (first | omega | exact rc_ru _)) only [up2_cell, mx_L_X10_linkOf_62]
theorem mx_f_X10_of (σ : Sg) (a0 : Int) (a1 : Int) {x : Nat} (hx : x < 28 ∨ 56 ≤ x) : (f_X10_of σ a0 a1).2 x = σ x := by
  unfold f_X10_of
  (repeat' split) <;> first | with_reducible rfl | simp (disch := (first | omega | exact rc_ru _)) only [up2_cell]
theorem mx_f_X10_count (σ : Sg) (a0 : Int) {x : Nat} (hx : x < 28 ∨ 56 ≤ x) : (f_X10_count σ a0).2 x = σ x := by
  unfold f_X10_count
  (repeat' split) <;> first | with_reducible rfl | simp (disch := (first | omega | exact rc_ru _)) only [up2_cell]
theorem mx_L_X10_isFit_2 (a0 : Int) {x : Nat} (hx : x < 28 ∨ 56 ≤ x) : ∀ (n : Nat) (x2 : Int) (σ : Sg), (L_X10_isFit_2 a0 n x2 σ) x = σ x
  | 0, x2, σ => rfl
  | n + 1, x2, σ => by
    rw [L_X10_isFit_2]
    (repeat' split) <;> first | with_reducible rfl | simp (disch := (first | omega | exact rc_ru _)) only [up2_cell, mx_L_X10_isFit_2 a0 hx n]
theorem mx_f_X10_isFit (σ : Sg) (a0 : Int) {x : Nat} (hx : x < 28 ∨ 56 ≤ x) : (f_X10_isFit σ a0).2 x = σ x := by
  unfold f_X10_isFit
  (repeat' split) <;> first | with_reducible rfl | simp (disch := (first | omega | exact rc_ru _)) only [up2_cell, mx_L_X10_isFit_2, mx_goesT]
theorem mx_f_X10_fits (σ : Sg) (a0 : Int) (a1 : Int) {x : Nat} (hx : x < 28 ∨ 56 ≤ x) : (f_X10_fits σ a0 a1).2 x = σ x := by
  unfold f_X10_fits
  (repeat' split) <;> first | with_reducible rfl | simp (disch := (first | omega | exact rc_ru _)) only [up2_cell, mx_f_X10_isFit]
theorem mx_L_X10_addsCounter_35 (a0 : Int) (a1 : Int) {x : Nat} (hx : x < 28 ∨ 56 ≤ x) : ∀ (n : Nat) (x4 : Int) (x5 : Int) (σ : Sg), (L_X10_addsCounter_35 a0 a1 n x4 x5 σ) x = σ x
  | 0, x4, x5, σ => rfl
  | n + 1, x4, x5, σ => by
    rw [L_X10_addsCounter_35]
    (repeat' split) <;> first | with_reducible rfl | simp (disch := (first | omega | exact rc_ru _)) only [up2_cell, mx_f_X10_adds, mx_L_X10_addsCounter_35 a0 a1 hx n]
theorem mx_L_X10_addsCounter_54 (a0 : Int) (a1 : Int) {x : Nat} (hx : x < 28 ∨ 56 ≤ x) : ∀ (n : Nat) (x4 : Int) (σ : Sg), (L_X10_addsCounter_54 a0 a1 n x4 σ) x = σ x
  | 0, x4, σ => rfl
  | n + 1, x4, σ => by
    rw [L_X10_addsCounter_54]
    (repeat' split) <;> first | with_reducible rfl | simp (disch := (first | omega | exact rc_ru _)) only [up2_cell, mx_f_X10_adds, mx_L_X10_addsCounter_54 a0 a1 hx n]
theorem mx_f_X10_addsCounter (σ : Sg) (a0 : Int) (a1 : Int) {x : Nat} (hx : x < 28 ∨ 56 ≤ x) : (f_X10_addsCounter σ a0 a1) x = σ x := by
  unfold f_X10_addsCounter
  (repeat' split) <;> first | with_reducible rfl | simp (disch := (first | omega | exact rc_ru _)) only [up2_cell, mx_L_X10_addsCounter_54, mx_L_X10_addsCounter_35]
theorem mx_L_X10_makes_124 (a0 : Int) {x : Nat} (hx : x < 28 ∨ 56 ≤ x) : ∀ (n : Nat) (x2 : Int) (x3 : Int) (x4 : Int) (x5 : Int) (x6 : Int) (x7 : Int) (σ : Sg), (L_X10_makes_124 a0 n x2 x3 x4 x5 x6 x7 σ) x = σ x
  | 0, x2, x3, x4, x5, x6, x7, σ => rfl
  | n + 1, x2, x3, x4, x5, x6, x7, σ => by
    rw [L_X10_makes_124]
    (repeat' split) <;> first | with_reducible rfl | simp (disch := (first | omega | exact rc_ru _)) only [up2_cell, mx_f_X10_adds, mx_L_X10_makes_124 a0 hx n]
theorem mx_L_X10_makes_23 (a0 : Int) {x : Nat} (hx : x < 28 ∨ 56 ≤ x) : ∀ (n : Nat) (x2 : Int) (x3 : Int) (x4 : Int) (σ : Sg), (L_X10_makes_23 a0 n x2 x3 x4 σ) x = σ x
  | 0, x2, x3, x4, σ => rfl
  | n + 1, x2, x3, x4, σ => by
    rw [L_X10_makes_23]
    (repeat' split) <;> first | with_reducible rfl | simp (disch := (first | omega | exact rc_ru _)) only [up2_cell, mx_f_X10_addsCounter, mx_L_X10_makes_124, mx_f_X10_adds, mx_L_X10_makes_23 a0 hx n]
theorem mx_f_X10_makes (σ : Sg) (a0 : Int) {x : Nat} (hx : x < 28 ∨ 56 ≤ x) : (f_X10_makes σ a0) x = σ x := by
  unfold f_X10_makes
  (repeat' split) <;> first | with_reducible rfl | simp (disch := (first | omega | exact rc_ru _)) only [up2_cell, mx_L_X10_makes_23, mx_f_X10_isFit]
theorem mx_f_X10_writes (σ : Sg) (a0 : Int) (a1 : Int) {x : Nat} (hx : x < 28 ∨ 56 ≤ x) : (f_X10_writes σ a0 a1) x = σ x := by
  unfold f_X10_writes
  (repeat' split) <;> first | with_reducible rfl | simp (disch := (first | omega | exact rc_ru _)) only [up2_cell, mx_f_X10_copies, mx_f_X10_keeps, mx_f_X10_spare]
theorem mx_f_X10_does (σ : Sg) (a0 : Int) (a1 : Int) {x : Nat} (hx : x < 28 ∨ 56 ≤ x) : (f_X10_does σ a0 a1).2 x = σ x := by
  unfold f_X10_does
  (repeat' split) <;> first | with_reducible rfl | simp (disch := (first | omega | exact rc_ru _)) only [up2_cell, mx_f_X10_lays, mx_f_X10_goesTo]
theorem mx_L_X10_findSteps_7 {x : Nat} (hx : x < 28 ∨ 56 ≤ x) : ∀ (n : Nat) (x1 : Int) (σ : Sg), (L_X10_findSteps_7 n x1 σ) x = σ x
  | 0, x1, σ => rfl
  | n + 1, x1, σ => by
    rw [L_X10_findSteps_7]
    (repeat' split) <;> first | with_reducible rfl | simp (disch := (first | omega | exact rc_ru _)) only [up2_cell, mx_L_X10_findSteps_7 hx n]
theorem mx_L_X10_findSteps_43 {x : Nat} (hx : x < 28 ∨ 56 ≤ x) : ∀ (n : Nat) (x1 : Int) (σ : Sg), (L_X10_findSteps_43 n x1 σ) x = σ x
  | 0, x1, σ => rfl
  | n + 1, x1, σ => by
    rw [L_X10_findSteps_43]
    (repeat' split) <;> first | with_reducible rfl | simp (disch := (first | omega | exact rc_ru _)) only [up2_cell, mx_f_X10_copies, mx_L_X10_findSteps_43 hx n]
theorem mx_L_X10_findSteps_68 {x : Nat} (hx : x < 28 ∨ 56 ≤ x) : ∀ (n : Nat) (x1 : Int) (σ : Sg), (L_X10_findSteps_68 n x1 σ) x = σ x
  | 0, x1, σ => rfl
  | n + 1, x1, σ => by
    rw [L_X10_findSteps_68]
    (repeat' split) <;> first | with_reducible rfl | simp (disch := (first | omega | exact rc_ru _)) only [up2_cell, mx_f_X10_writes, mx_L_X10_findSteps_68 hx n]
theorem mx_f_X10_findSteps (σ : Sg) {x : Nat} (hx : x < 28 ∨ 56 ≤ x) : (f_X10_findSteps σ) x = σ x := by
  unfold f_X10_findSteps
  (repeat' split) <;> first | with_reducible rfl | simp (disch := (first | omega | exact rc_ru _)) only [up2_cell, mx_L_X10_findSteps_7, mx_L_X10_findSteps_68, mx_L_X10_findSteps_43]
theorem mx_L_X10_go_22 (a0 : Int) {x : Nat} (hx : x < 28 ∨ 56 ≤ x) : ∀ (n : Nat) (x2 : Int) (σ : Sg), (L_X10_go_22 a0 n x2 σ).2 x = σ x
  | 0, x2, σ => rfl
  | n + 1, x2, σ => by
    rw [L_X10_go_22]
    (repeat' split) <;> first | with_reducible rfl | simp (disch := (first | omega | exact rc_ru _)) only [up2_cell, mx_f_X10_does, mx_L_X10_go_22 a0 hx n]
theorem mx_f_X10_go (σ : Sg) (a0 : Int) {x : Nat} (hx : x < 28 ∨ 56 ≤ x) : (f_X10_go σ a0).2 x = σ x := by
  unfold f_X10_go
  (repeat' split) <;> first | with_reducible rfl | simp (disch := (first | omega | exact rc_ru _)) only [up2_cell, mx_L_X10_go_22]
theorem mx_L_X10_back_22 (a0 : Int) {x : Nat} (hx : x < 28 ∨ 56 ≤ x) : ∀ (n : Nat) (x2 : Int) (σ : Sg), (L_X10_back_22 a0 n x2 σ).2 x = σ x
  | 0, x2, σ => rfl
  | n + 1, x2, σ => by
    rw [L_X10_back_22]
    (repeat' split) <;> first | with_reducible rfl | simp (disch := (first | omega | exact rc_ru _)) only [up2_cell, mx_f_X10_does, mx_L_X10_back_22 a0 hx n]
theorem mx_f_X10_back (σ : Sg) (a0 : Int) {x : Nat} (hx : x < 28 ∨ 56 ≤ x) : (f_X10_back σ a0).2 x = σ x := by
  unfold f_X10_back
  (repeat' split) <;> first | with_reducible rfl | simp (disch := (first | omega | exact rc_ru _)) only [up2_cell, mx_L_X10_back_22]
theorem mx_L_X10_plan_130 (a0 : Int) (a1 : Int) (a2 : Int) (a3 : Int) (a4 : Int) {x : Nat} (hx : x < 28 ∨ 56 ≤ x) : ∀ (n : Nat) (x6 : Int) (x7 : Int) (σ : Sg), (L_X10_plan_130 a0 a1 a2 a3 a4 n x6 x7 σ).2 x = σ x
  | 0, x6, x7, σ => rfl
  | n + 1, x6, x7, σ => by
    rw [L_X10_plan_130]
    (repeat' split) <;> first | with_reducible rfl | simp (disch := (first | omega | exact rc_ru _)) only [up2_cell, mx_L_X10_plan_130 a0 a1 a2 a3 a4 hx n]
theorem mx_L_X10_plan_82 (a0 : Int) (a1 : Int) (a2 : Int) (a3 : Int) (a4 : Int) {x : Nat} (hx : x < 28 ∨ 56 ≤ x) : ∀ (n : Nat) (x6 : Int) (σ : Sg), (L_X10_plan_82 a0 a1 a2 a3 a4 n x6 σ) x = σ x
  | 0, x6, σ => rfl
  | n + 1, x6, σ => by
    rw [L_X10_plan_82]
    (repeat' split) <;> first | with_reducible rfl | simp (disch := (first | omega | exact rc_ru _)) only [up2_cell, mx_f_X10_isFit, mx_L_X10_plan_130, mx_L_X10_plan_82 a0 a1 a2 a3 a4 hx n]
theorem mx_L_X10_plan_208 (a0 : Int) (a1 : Int) (a2 : Int) (a3 : Int) (a4 : Int) {x : Nat} (hx : x < 28 ∨ 56 ≤ x) : ∀ (n : Nat) (x6 : Int) (σ : Sg), (L_X10_plan_208 a0 a1 a2 a3 a4 n x6 σ) x = σ x
  | 0, x6, σ => rfl
  | n + 1, x6, σ => by
    rw [L_X10_plan_208]
    (repeat' split) <;> first | with_reducible rfl | simp (disch := (first | omega | exact rc_ru _)) only [up2_cell, mx_f_X10_makes, mx_L_X10_plan_208 a0 a1 a2 a3 a4 hx n]
theorem mx_L_X10_plan_297 (a0 : Int) (a1 : Int) (a2 : Int) (a3 : Int) (a4 : Int) {x : Nat} (hx : x < 28 ∨ 56 ≤ x) : ∀ (n : Nat) (x6 : Int) (σ : Sg), (L_X10_plan_297 a0 a1 a2 a3 a4 n x6 σ) x = σ x
  | 0, x6, σ => rfl
  | n + 1, x6, σ => by
    rw [L_X10_plan_297]
    (repeat' split) <;> first | with_reducible rfl | simp (disch := (first | omega | exact rc_ru _)) only [up2_cell, mx_f_X10_findTrouble, mx_L_X10_plan_297 a0 a1 a2 a3 a4 hx n]
theorem mx_f_X10_plan (σ : Sg) (a0 : Int) (a1 : Int) (a2 : Int) (a3 : Int) (a4 : Int) {x : Nat} (hx : x < 28 ∨ 56 ≤ x) : (f_X10_plan σ a0 a1 a2 a3 a4).2 x = σ x := by
  unfold f_X10_plan
  (repeat' split) <;> first | with_reducible rfl | simp (disch := (first | omega | exact rc_ru _)) only [up2_cell, mx_f_X10_findSteps, mx_L_X10_plan_297, mx_L_X10_plan_208, mx_L_X10_plan_82]
