/-! Which cells the larger methods leave alone. -/
theorem clear_fr (σ : Sg) {x : Nat} (h : x ≠ 1) : f_X8_clear σ x = σ x := by
  unfold f_X8_clear
  rw [up2_cell _ _ _ h]
theorem L_takePlace_fr (a0 : Int) {x : Nat} (h1 : x ≠ 57) (h2 : x ≠ 58) : ∀ (n : Nat) (i j : Int) (σ : Sg), L_X9_takePlace_37 a0 n i j σ x = σ x
  | 0, i, j, σ => rfl
  | n + 1, i, j, σ => by
    rw [L_X9_takePlace_37]
    split
    · rfl
    · rw [L_takePlace_fr a0 h1 h2 n, add_fr _ _ _ h1 h2]
theorem takePlace_fr (σ : Sg) (a0 : Int) {x : Nat} (h0 : x ≠ 1) (h1 : x ≠ 57) (h2 : x ≠ 58) : (f_X9_takePlace σ a0).2 x = σ x := by
  unfold f_X9_takePlace
  split
  · exact clear_fr σ h0
  · split
    · exact clear_fr σ h0
    · show f_X8_clear _ x = σ x
      rw [clear_fr _ h0, L_takePlace_fr a0 h1 h2, begin_fr _ _ _ h1]
theorem L_follow_fr (q0 q1 : Nat) {x : Nat} (h : x < 139) : ∀ (n : Nat) (i : Int) (σ : Sg), L_X1_follow_2 q0 q1 n i σ x = σ x
  | 0, i, σ => rfl
  | n + 1, i, σ => by
    rw [L_X1_follow_2]
    split
    · rfl
    · split
      · exact L_follow_fr q0 q1 h n _ _
      · rw [L_follow_fr q0 q1 h n, become_fr _ _ _ (by omega) (by omega)]
theorem follow_fr (σ : Sg) (q0 q1 : Nat) {x : Nat} (h : x < 139) : f_X1_follow σ q0 q1 x = σ x := by
  unfold f_X1_follow
  exact L_follow_fr q0 q1 h _ _ _
theorem placeOf_eq (σ : Sg) (a0 : Int) : f_X7_placeOf σ a0 = 59 + 2 * a0.toNat := rfl
theorem move_fr (σ : Sg) (a0 : Int) (q1 : Nat) {x : Nat} (h : x < 57) : f_X9_move σ a0 q1 x = σ x := by
  unfold f_X9_move
  rw [become_fr _ _ _ (by rw [placeOf_eq]; omega) (by rw [placeOf_eq]; omega), follow_fr _ _ _ (by omega)]
theorem tryMove_fr (σ : Sg) (a0 : Int) (q1 q2 : Nat) {x : Nat} (h : x < 57) : (f_X9_tryMove σ a0 q1 q2).2 x = σ x := by
  unfold f_X9_tryMove
  split
  · rfl
  · split
    · rfl
    · split
      · exact move_fr σ a0 q2 h
      · rfl
theorem L_list44_fr (a0 a1 : Int) {x : Nat} (h : x ≠ 6) : ∀ (n : Nat) (i j k m : Int) (σ : Sg), (L_X7_list_44 a0 a1 n i j k m σ).2 x = σ x
  | 0, i, j, k, m, σ => rfl
  | n + 1, i, j, k, m, σ => by
    rw [L_X7_list_44]
    split
    · rfl
    · split
      · rfl
      · split
        · rfl
        · rw [L_list44_fr a0 a1 h n, up2_cell _ _ _ h]
theorem L_list5_fr (a0 a1 : Int) {x : Nat} (h : x ≠ 6) : ∀ (n : Nat) (i j : Int) (σ : Sg), (L_X7_list_5 a0 a1 n i j σ).2 x = σ x
  | 0, i, j, σ => rfl
  | n + 1, i, j, σ => by
    rw [L_X7_list_5]
    split
    · rfl
    · split
      · exact L_list5_fr a0 a1 h n _ _ _
      · split
        · rw [L_list5_fr a0 a1 h n, up2_cell _ _ _ h, L_list44_fr a0 a1 h]
        · exact L_list5_fr a0 a1 h n _ _ _
theorem list_fr (σ : Sg) (a0 a1 : Int) {x : Nat} (h : x ≠ 6) : (f_X7_list σ a0 a1).2 x = σ x := by
  unfold f_X7_list
  exact L_list5_fr a0 a1 h _ _ _ _
theorem L_fw8_fr (q0 q1 : Nat) {x : Nat} (h : x ≠ 10) : ∀ (n : Nat) (i j : Int) (σ : Sg), L_X0_findWays_8 q0 q1 n i j σ x = σ x
  | 0, i, j, σ => rfl
  | n + 1, i, j, σ => by
    rw [L_X0_findWays_8]
    split
    · rfl
    · split <;> rw [L_fw8_fr q0 q1 h n, up2_cell _ _ _ h]
theorem L_fw65_fr (q0 q1 : Nat) {x : Nat} (h : x ≠ 10) : ∀ (n : Nat) (i j : Int) (σ : Sg), L_X0_findWays_65 q0 q1 n i j σ x = σ x
  | 0, i, j, σ => rfl
  | n + 1, i, j, σ => by
    rw [L_X0_findWays_65]
    split
    · rfl
    · rw [L_fw65_fr q0 q1 h n, up2_cell _ _ _ h]
theorem L_fw54_fr (q0 q1 : Nat) {x : Nat} (h : x ≠ 10) : ∀ (n : Nat) (i : Int) (σ : Sg), L_X0_findWays_54 q0 q1 n i σ x = σ x
  | 0, i, σ => rfl
  | n + 1, i, σ => by
    rw [L_X0_findWays_54]
    split
    · rfl
    · rw [L_fw54_fr q0 q1 h n, L_fw65_fr q0 q1 h]
theorem findWays_fr (σ : Sg) (q0 q1 : Nat) {x : Nat} (h : x ≠ 10) : f_X0_findWays σ q0 q1 x = σ x := by
  unfold f_X0_findWays
  rw [L_fw54_fr q0 q1 h, L_fw8_fr q0 q1 h]
theorem L_match_fr (q0 q1 : Nat) {x : Nat} (h1 : x ≠ 11) (h2 : x ≠ 12) : ∀ (n : Nat) (i j : Int) (σ : Sg), L_X0_match_22 q0 q1 n i j σ x = σ x
  | 0, i, j, σ => rfl
  | n + 1, i, j, σ => by
    rw [L_X0_match_22]
    split
    · rfl
    · rw [L_match_fr q0 q1 h1 h2 n, up2_cell _ _ _ h1, up2_cell _ _ _ h2]
theorem match_fr (σ : Sg) (q0 q1 : Nat) {x : Nat} (h0 : x ≠ 10) (h1 : x ≠ 11) (h2 : x ≠ 12) : (f_X0_match σ q0 q1).2 x = σ x := by
  unfold f_X0_match
  split
  · exact findWays_fr σ q0 q1 h0
  · show L_X0_match_22 _ _ _ _ _ _ x = σ x
    rw [L_match_fr q0 q1 h1 h2, findWays_fr σ q0 q1 h0]
theorem L_ft2_7 : ∀ (n : Nat) (i : Int) (σ : Sg), L_X3_findTroubles_2 n i σ 13 = σ 13
  | 0, i, σ => rfl
  | n + 1, i, σ => by
    rw [L_X3_findTroubles_2]
    split
    · rfl
    · rw [L_ft2_7 n, own_fr _ _ (by omega)]
theorem L_ft27_7 {k : Nat} (hk : k ≠ 6) : ∀ (n : Nat) (i : Int) (σ : Sg), L_X3_findTroubles_27 n i σ 13 k = σ 13 k
  | 0, i, σ => rfl
  | n + 1, i, σ => by
    rw [L_X3_findTroubles_27]
    split
    · rfl
    · split
      · split
        · exact L_ft27_7 hk n _ _
        · rw [L_ft27_7 hk n, up2_slot _ _ hk]
      · split
        · rw [L_ft27_7 hk n, others_fr _ _ (by omega)]
        · rw [L_ft27_7 hk n, up2_slot _ _ hk, others_fr _ _ (by omega)]
theorem findTroubles_13 (σ : Sg) {k : Nat} (hk : k ≠ 6) : f_X3_findTroubles σ 13 k = σ 13 k := by
  unfold f_X3_findTroubles
  rw [L_ft27_7 hk, L_ft2_7]
