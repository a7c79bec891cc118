theorem L_mk124_fr (a0 : Int) {x : Nat} (h0 : x ≠ 29) (h1 : x ≠ 44) : ∀ (n : Nat) (i1 i2 i3 i4 i5 i6 : Int) (σ : Sg), L_X10_makes_124 a0 n i1 i2 i3 i4 i5 i6 σ x = σ x
  | 0, i1, i2, i3, i4, i5, i6, σ => rfl
  | n + 1, i1, i2, i3, i4, i5, i6, σ => by
    rw [L_X10_makes_124]
    split
    · rfl
    · split
      · rw [L_mk124_fr a0 h0 h1 n, adds_fr _ _ _ h0 h1]
      · split
        · rw [L_mk124_fr a0 h0 h1 n, adds_fr _ _ _ h0 h1]
        · rw [L_mk124_fr a0 h0 h1 n, adds_fr _ _ _ h0 h1]
theorem L_mk23_fr (a0 : Int) {x : Nat} (h0 : x ≠ 29) (h1 : x ≠ 44) : ∀ (n : Nat) (i1 i2 i3 : Int) (σ : Sg), L_X10_makes_23 a0 n i1 i2 i3 σ x = σ x
  | 0, i1, i2, i3, σ => rfl
  | n + 1, i1, i2, i3, σ => by
    rw [L_X10_makes_23]
    split
    · rfl
    · split
      · rfl
      · split
        · rw [L_mk23_fr a0 h0 h1 n, addsCounter_fr _ _ _ h0 h1]
        · split
          · rw [L_mk23_fr a0 h0 h1 n, L_mk124_fr a0 h0 h1]
          · split
            · rw [L_mk23_fr a0 h0 h1 n, L_mk124_fr a0 h0 h1]
            · split
              · rw [L_mk23_fr a0 h0 h1 n, L_mk124_fr a0 h0 h1]
              · rw [L_mk23_fr a0 h0 h1 n, adds_fr _ _ _ h0 h1]
theorem makes_fr (σ : Sg) (a0 : Int) {x : Nat} (h0 : x ≠ 29) (h1 : x ≠ 30) (h2 : x ≠ 40) (h3 : x ≠ 41) (h4 : x ≠ 44) : f_X10_makes σ a0 x = σ x := by
  unfold f_X10_makes
  rw [up2_cell _ _ _ h1, L_mk23_fr a0 h0 h4, up2_cell _ _ _ h4, isFit_fr _ _ h2 h3]
theorem does_fr (σ : Sg) (a0 a1 : Int) {x : Nat} (h1 : x ≠ 29) (h2 : x ≠ 30) (h3 : x ≠ 31) : (f_X10_does σ a0 a1).2 x = σ x := by
  unfold f_X10_does
  split
  · rfl
  · split
    · exact lays_fr _ _ _ h1 h2 h3
    · split
      · dsimp only
        rw [goesTo_fr _ _ _ h1 h2 h3, lays_fr _ _ _ h1 h2 h3, lays_fr _ _ _ h1 h2 h3]
      · dsimp only
        rw [lays_fr _ _ _ h1 h2 h3, lays_fr _ _ _ h1 h2 h3]
theorem wr_core (σ B : Sg) (c k : Nat) (hb : ∀ x, x = 28 ∨ x = 54 ∨ x = 55 → B x = σ x) (hc : c = 54 ∨ c = 55) :
    (up2 (up2 B c k 1) 28 33 (B 28 33 + 1)) 28 33 = σ 28 33 + 1 ∧ (∀ c', (c' = 54 ∨ c' = 55) → c' ≠ c → (up2 (up2 B c k 1) 28 33 (B 28 33 + 1)) c' = σ c') ∧ (up2 (up2 B c k 1) 28 33 (B 28 33 + 1)) c = fun i => if i = k then 1 else σ c i := by
  refine ⟨?_, ?_, ?_⟩
  · rw [up2_same, hb 28 (Or.inl rfl)]
  · intro c' h1 h2
    rw [up2_cell _ _ _ (by omega), up2_cell _ _ _ h2, hb c' (by omega)]
  · rw [up2_cell _ _ _ (by omega), up2_row, hb c (by omega)]
theorem writes_0 (σ : Sg) (k : Int) : (f_X10_writes σ k 0) 28 33 = σ 28 33 + 1 ∧ (∀ c', (c' = 54 ∨ c' = 55) → c' ≠ 55 → (f_X10_writes σ k 0) c' = σ c') ∧ (f_X10_writes σ k 0) 55 = fun i => if i = k.toNat then 1 else σ 55 i := by
  unfold f_X10_writes
  rw [if_pos rfl]
  split
  · exact wr_core σ _ 55 _ (fun x hx => by rw [copies_fr _ _ _ (by omega) (by omega) (by omega), keeps_fr _ _ _ _ (by omega) (by omega) (by omega), keeps_fr _ _ _ _ (by omega) (by omega) (by omega), up2_cell _ _ _ (by omega), up2_cell _ _ _ (by omega), up2_cell _ _ _ (by omega)]) (Or.inr rfl)
  · exact wr_core σ _ 55 _ (fun x hx => by rw [copies_fr _ _ _ (by omega) (by omega) (by omega), keeps_fr _ _ _ _ (by omega) (by omega) (by omega), keeps_fr _ _ _ _ (by omega) (by omega) (by omega), up2_cell _ _ _ (by omega), up2_cell _ _ _ (by omega), up2_cell _ _ _ (by omega)]) (Or.inr rfl)
theorem writes_1 (σ : Sg) (k : Int) : (f_X10_writes σ k 1) 28 33 = σ 28 33 + 1 ∧ (∀ c', (c' = 54 ∨ c' = 55) → c' ≠ 54 → (f_X10_writes σ k 1) c' = σ c') ∧ (f_X10_writes σ k 1) 54 = fun i => if i = (σ 42 k.toNat).toNat then 1 else σ 54 i := by
  unfold f_X10_writes
  rw [if_neg (by decide)]
  exact wr_core σ _ 54 _ (fun x hx => by rw [copies_fr _ _ _ (by omega) (by omega) (by omega), keeps_fr _ _ _ _ (by omega) (by omega) (by omega), spare_fr _ _ (by omega) (by omega) (by omega), keeps_fr _ _ _ _ (by omega) (by omega) (by omega), up2_cell _ _ _ (by omega), up2_cell _ _ _ (by omega), up2_cell _ _ _ (by omega)]) (Or.inl rfl)
theorem cnt_lt {σ : Sg} (hF : WF σ) (h : σ 28 33 = sm (σ 54) 40 + sm (σ 55) 40) {i : Nat} (hi : i < 40) (h0 : σ 55 i = 0 ∨ σ 54 i = 0) : σ 28 33 < 80 := by
  have b4 := sm_le (f := σ 54) (n := 40) (fun i _ => bd_54 hF i)
  have b5 := sm_le (f := σ 55) (n := 40) (fun i _ => bd_55 hF i)
  rcases h0 with h0 | h0
  · have := sm_lt (f := σ 55) (n := 40) (fun i _ => bd_55 hF i) hi h0
    omega
  · have := sm_lt (f := σ 54) (n := 40) (fun i _ => bd_54 hF i) hi h0
    omega
theorem wr_cnt0 {σ : Sg} {k : Int} (h : σ 28 33 = sm (σ 54) 40 + sm (σ 55) 40) (hk : k.toNat < 40) (h0 : σ 55 k.toNat = 0) : (f_X10_writes σ k 0) 28 33 = sm ((f_X10_writes σ k 0) 54) 40 + sm ((f_X10_writes σ k 0) 55) 40 := by
  obtain ⟨e1, e2, e3⟩ := writes_0 σ k
  have := sm_upd (σ 55) 1 hk
  rw [e1, e2 54 (Or.inl rfl) (by decide), e3]
  omega
theorem wr_cnt1 {σ : Sg} {k : Int} (h : σ 28 33 = sm (σ 54) 40 + sm (σ 55) 40) (hk : (σ 42 k.toNat).toNat < 40) (h0 : σ 54 (σ 42 k.toNat).toNat = 0) : (f_X10_writes σ k 1) 28 33 = sm ((f_X10_writes σ k 1) 54) 40 + sm ((f_X10_writes σ k 1) 55) 40 := by
  obtain ⟨e1, e2, e3⟩ := writes_1 σ k
  have := sm_upd (σ 54) 1 hk
  rw [e1, e2 55 (Or.inr rfl) (by decide), e3]
  omega
theorem zero_step {σ : Sg} {x : Int} (h : ∀ i : Nat, (i : Int) < x → σ 54 i = 0 ∧ σ 55 i = 0) (hx : 0 ≤ x) : ∀ i : Nat, (i : Int) < x + 1 → (up2 (up2 σ 54 x.toNat 0) 55 x.toNat 0) 54 i = 0 ∧ (up2 (up2 σ 54 x.toNat 0) 55 x.toNat 0) 55 i = 0 := by
  intro i hi
  rw [up2_at, up2_at, up2_at, up2_at]
  by_cases q : i = x.toNat
  · subst q
    simp
  · have := h i (by omega)
    simp [q, this.1, this.2]
