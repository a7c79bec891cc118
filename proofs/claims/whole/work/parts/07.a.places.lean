/-! Places of the class and rows of the reference. -/
theorem all_step {P : Nat → Prop} {x len : Int} (h0 : 0 ≤ x) (h : x < len) : (∀ i : Nat, x ≤ (i : Int) → (i : Int) < len → P i) ↔ (P x.toNat ∧ ∀ i : Nat, x + 1 ≤ (i : Int) → (i : Int) < len → P i) :=
  ⟨fun q => ⟨q _ (by omega) (by omega), fun i h1 h2 => q i (by omega) h2⟩, fun q i h1 h2 => by
    by_cases e : (i : Int) = x
    · have e2 : i = x.toNat := by omega
      subst e2
      exact q.1
    · exact q.2 i (by omega) h2⟩
theorem eq01 {a b : Int} (ha : a = 0 ∨ a = 1) (hb : b = 0 ∨ b = 1) (h : a = 1 ↔ b = 1) : a = b := by
  rcases ha with rfl | rfl <;> rcases hb with rfl | rfl
  · rfl
  · exact absurd (h.mpr rfl) (by decide)
  · exact absurd (h.mp rfl) (by decide)
  · rfl
theorem small_low (b : Int) : f_X6_small b = f_X10_low b := by
  unfold f_X6_small f_X10_low
  split
  · rfl
  · split
    · rfl
    · omega
theorem capital_high (b : Int) : f_X6_capital b = f_X10_high b := by
  unfold f_X6_capital f_X10_high
  split
  · rfl
  · split
    · rfl
    · omega
theorem figure_eq (b : Int) : f_X6_isFigure b = f_X10_isFigure b := rfl
theorem byteAt_in {σ : Sg} {c : Nat} {i : Int} (h0 : 0 ≤ i) (h1 : i < σ c 2) (h2 : σ c 2 ≤ 12) : f_X2_byteAt σ c i = σ (c + 1) i.toNat := by
  unfold f_X2_byteAt
  rw [if_neg (by omega), if_neg (by omega), if_neg (by omega)]
/-- two bytes are alike -/
def al (fold a b : Int) : Prop := a = b ∨ (fold ≠ 0 ∧ f_X10_low a = f_X10_low b)
theorem isAlike26 {σ : Sg} {c q : Nat} {a1 : Int} (h2 : σ c 2 ≤ 12) (he : σ c 2 = σ q 2) : ∀ (n : Nat) (x : Int), 0 ≤ x → 12 - x < (n : Int) → x ≤ 12 → (L_X2_isAlike_26 σ c q a1 n x = 0 ∨ L_X2_isAlike_26 σ c q a1 n x = 1) ∧ (L_X2_isAlike_26 σ c q a1 n x = 1 ↔ ∀ i : Nat, x ≤ (i : Int) → (i : Int) < σ c 2 → al a1 (σ (c + 1) i) (σ (q + 1) i))
  | 0, x, h0, h1, h3 => by omega
  | n + 1, x, h0, h1, h3 => by
    rw [L_X2_isAlike_26]
    by_cases hl : σ c 2 ≤ x
    · rw [if_pos hl]
      exact ⟨Or.inr rfl, fun _ i a b => by omega, fun _ => rfl⟩
    · rw [if_neg hl, byteAt_in h0 (by omega) h2, byteAt_in h0 (by omega) (by omega)]
      have ih := isAlike26 (a1 := a1) h2 he n (x + 1) (by omega) (by omega) (by omega)
      have hs := all_step (P := fun i => al a1 (σ (c + 1) i) (σ (q + 1) i)) h0 (show x < σ c 2 by omega)
      by_cases hb : σ (c + 1) x.toNat = σ (q + 1) x.toNat
      · rw [if_pos hb]
        exact ⟨ih.1, ih.2.trans (by rw [hs]; exact ⟨fun z => ⟨Or.inl hb, z⟩, fun z => z.2⟩)⟩
      · rw [if_neg hb]
        by_cases hf : a1 = 0
        · rw [if_pos hf]
          refine ⟨Or.inl rfl, fun z => by omega, fun z => ?_⟩
          rcases (hs.mp z).1 with w | w
          · exact absurd w hb
          · exact absurd hf w.1
        · rw [if_neg hf, small_low, small_low]
          by_cases hw : f_X10_low (σ (c + 1) x.toNat) = f_X10_low (σ (q + 1) x.toNat)
          · rw [if_pos hw]
            exact ⟨ih.1, ih.2.trans (by rw [hs]; exact ⟨fun z => ⟨Or.inr ⟨hf, hw⟩, z⟩, fun z => z.2⟩)⟩
          · rw [if_neg hw]
            refine ⟨Or.inl rfl, fun z => by omega, fun z => ?_⟩
            rcases (hs.mp z).1 with w | w
            · exact absurd w hb
            · exact absurd w.2 hw
/-- a class's place and another are alike -/
def AlX (σ : Sg) (c q : Nat) (fold : Int) : Prop := σ c 1 = σ q 1 ∧ σ c 2 = σ q 2 ∧ ∀ i : Nat, (i : Int) < σ c 2 → al fold (σ (c + 1) i) (σ (q + 1) i)
theorem isAlikeX {σ : Sg} {c q : Nat} {a1 : Int} (h2 : σ c 2 ≤ 12) : (f_X2_isAlike σ c q a1 = 0 ∨ f_X2_isAlike σ c q a1 = 1) ∧ (f_X2_isAlike σ c q a1 = 1 ↔ AlX σ c q a1) := by
  unfold f_X2_isAlike AlX
  by_cases h1 : σ c 1 = σ q 1
  · rw [if_pos h1]
    by_cases he : σ c 2 = σ q 2
    · rw [if_pos he]
      have := isAlike26 (a1 := a1) h2 he 13 0 (by omega) (by omega) (by omega)
      refine ⟨this.1, this.2.trans ⟨fun z => ⟨h1, he, fun i hi => z i (by omega) hi⟩, fun z i _ hi => z.2.2 i hi⟩⟩
    · rw [if_neg he]
      exact ⟨Or.inl rfl, fun z => by omega, fun z => absurd z.2.1 he⟩
  · rw [if_neg h1]
    exact ⟨Or.inl rfl, fun z => by omega, fun z => absurd z.1 h1⟩
theorem isJust34 {ρ : Sg} {a b : Int} (h2 : ρ 30 a.toNat ≤ 12) (ha : 0 ≤ a) (hb : 0 ≤ b) : ∀ (n : Nat) (x : Int), 0 ≤ x → 12 - x < (n : Int) → x ≤ 12 → (L_X10_isJust_34 ρ a b n x = 0 ∨ L_X10_isJust_34 ρ a b n x = 1) ∧ (L_X10_isJust_34 ρ a b n x = 1 ↔ ∀ i : Nat, x ≤ (i : Int) → (i : Int) < ρ 30 a.toNat → ρ 29 (12 * a.toNat + i) = ρ 29 (12 * b.toNat + i))
  | 0, x, h0, h1, h3 => by omega
  | n + 1, x, h0, h1, h3 => by
    rw [L_X10_isJust_34]
    by_cases hl : ρ 30 a.toNat ≤ x
    · rw [if_pos hl]
      exact ⟨Or.inr rfl, fun _ i a b => by omega, fun _ => rfl⟩
    · rw [if_neg hl, show (12 * a + x).toNat = 12 * a.toNat + x.toNat by omega, show (12 * b + x).toNat = 12 * b.toNat + x.toNat by omega]
      have ih := isJust34 h2 ha hb n (x + 1) (by omega) (by omega) (by omega)
      have hs := all_step (P := fun i => ρ 29 (12 * a.toNat + i) = ρ 29 (12 * b.toNat + i)) h0 (show x < ρ 30 a.toNat by omega)
      by_cases hb : ρ 29 (12 * a.toNat + x.toNat) = ρ 29 (12 * b.toNat + x.toNat)
      · rw [if_pos hb]
        exact ⟨ih.1, ih.2.trans (by rw [hs]; exact ⟨fun z => ⟨hb, z⟩, fun z => z.2⟩)⟩
      · rw [if_neg hb]
        exact ⟨Or.inl rfl, fun z => by omega, fun z => absurd (hs.mp z).1 hb⟩
theorem isAlike48 {ρ : Sg} {a b : Int} (h2 : ρ 30 a.toNat ≤ 12) (ha : 0 ≤ a) (hb : 0 ≤ b) : ∀ (n : Nat) (x : Int), 0 ≤ x → 12 - x < (n : Int) → x ≤ 12 → (L_X10_isAlike_48 ρ a b n x = 0 ∨ L_X10_isAlike_48 ρ a b n x = 1) ∧ (L_X10_isAlike_48 ρ a b n x = 1 ↔ ∀ i : Nat, x ≤ (i : Int) → (i : Int) < ρ 30 a.toNat → f_X10_low (ρ 29 (12 * a.toNat + i)) = f_X10_low (ρ 29 (12 * b.toNat + i)))
  | 0, x, h0, h1, h3 => by omega
  | n + 1, x, h0, h1, h3 => by
    rw [L_X10_isAlike_48]
    by_cases hl : ρ 30 a.toNat ≤ x
    · rw [if_pos hl]
      exact ⟨Or.inr rfl, fun _ i a b => by omega, fun _ => rfl⟩
    · rw [if_neg hl, show (12 * a + x).toNat = 12 * a.toNat + x.toNat by omega, show (12 * b + x).toNat = 12 * b.toNat + x.toNat by omega]
      have ih := isAlike48 h2 ha hb n (x + 1) (by omega) (by omega) (by omega)
      have hs := all_step (P := fun i => f_X10_low (ρ 29 (12 * a.toNat + i)) = f_X10_low (ρ 29 (12 * b.toNat + i))) h0 (show x < ρ 30 a.toNat by omega)
      by_cases hb : f_X10_low (ρ 29 (12 * a.toNat + x.toNat)) = f_X10_low (ρ 29 (12 * b.toNat + x.toNat))
      · rw [if_pos hb]
        exact ⟨ih.1, ih.2.trans (by rw [hs]; exact ⟨fun z => ⟨hb, z⟩, fun z => z.2⟩)⟩
      · rw [if_neg hb]
        exact ⟨Or.inl rfl, fun z => by omega, fun z => absurd (hs.mp z).1 hb⟩
theorem isJustM {ρ : Sg} {a b : Int} (h2 : ρ 30 a.toNat ≤ 12) (ha : 0 ≤ a) (hb : 0 ≤ b) : (f_X10_isJust ρ a b = 0 ∨ f_X10_isJust ρ a b = 1) ∧ (f_X10_isJust ρ a b = 1 ↔ (ρ 31 a.toNat = ρ 31 b.toNat ∧ ρ 30 a.toNat = ρ 30 b.toNat ∧ ∀ i : Nat, (i : Int) < ρ 30 a.toNat → ρ 29 (12 * a.toNat + i) = ρ 29 (12 * b.toNat + i))) := by
  unfold f_X10_isJust
  by_cases h1 : ρ 31 a.toNat = ρ 31 b.toNat
  · rw [if_pos h1]
    by_cases he : ρ 30 a.toNat = ρ 30 b.toNat
    · rw [if_pos he]
      have := isJust34 h2 ha hb 13 0 (by omega) (by omega) (by omega)
      refine ⟨this.1, this.2.trans ⟨fun z => ⟨h1, he, fun i hi => z i (by omega) hi⟩, fun z i _ hi => z.2.2 i hi⟩⟩
    · rw [if_neg he]
      exact ⟨Or.inl rfl, fun z => by omega, fun z => absurd z.2.1 he⟩
  · rw [if_neg h1]
    exact ⟨Or.inl rfl, fun z => by omega, fun z => absurd z.1 h1⟩
theorem isAlikeM {ρ : Sg} {a b : Int} (h2 : ρ 30 a.toNat ≤ 12) (ha : 0 ≤ a) (hb : 0 ≤ b) : (f_X10_isAlike ρ a b = 0 ∨ f_X10_isAlike ρ a b = 1) ∧ (f_X10_isAlike ρ a b = 1 ↔ (ρ 31 a.toNat = ρ 31 b.toNat ∧ ρ 30 a.toNat = ρ 30 b.toNat ∧ ∀ i : Nat, (i : Int) < ρ 30 a.toNat → al (ρ 28 4) (ρ 29 (12 * a.toNat + i)) (ρ 29 (12 * b.toNat + i)))) := by
  unfold f_X10_isAlike
  by_cases hf : ρ 28 4 = 0
  · rw [if_pos hf]
    have := isJustM (ρ := ρ) h2 ha hb
    refine ⟨this.1, this.2.trans ⟨fun z => ⟨z.1, z.2.1, fun i hi => Or.inl (z.2.2 i hi)⟩, fun z => ⟨z.1, z.2.1, fun i hi => ?_⟩⟩⟩
    rcases z.2.2 i hi with w | w
    · exact w
    · exact absurd hf w.1
  · rw [if_neg hf]
    by_cases h1 : ρ 31 a.toNat = ρ 31 b.toNat
    · rw [if_pos h1]
      by_cases he : ρ 30 a.toNat = ρ 30 b.toNat
      · rw [if_pos he]
        have := isAlike48 h2 ha hb 13 0 (by omega) (by omega) (by omega)
        refine ⟨this.1, this.2.trans ⟨fun z => ⟨h1, he, fun i hi => Or.inr ⟨hf, z i (by omega) hi⟩⟩, fun z i _ hi => ?_⟩⟩
        rcases z.2.2 i hi with w | w
        · rw [w]
        · exact w.2
      · rw [if_neg he]
        exact ⟨Or.inl rfl, fun z => by omega, fun z => absurd z.2.1 he⟩
    · rw [if_neg h1]
      exact ⟨Or.inl rfl, fun z => by omega, fun z => absurd z.1 h1⟩
/-- the class's place at c is the reference's row r -/
def PE (τ ρ : Sg) (c r : Nat) : Prop := τ c 1 = ρ 31 r ∧ τ c 2 = ρ 30 r ∧ ∀ i : Nat, (i : Int) < τ c 2 → τ (c + 1) i = ρ 29 (12 * r + i)
theorem PE_alike {τ ρ : Sg} {c d r q : Nat} (h2 : τ c 2 ≤ 12) (h1 : PE τ ρ c r) (h3 : PE τ ρ d q) (hf : τ 3 5 = ρ 28 4) : f_X2_isAlike τ c d (τ 3 5) = f_X10_isAlike ρ (r : Int) (q : Int) := by
  have hX := isAlikeX (σ := τ) (c := c) (q := d) (a1 := τ 3 5) h2
  have hM := isAlikeM (ρ := ρ) (a := (r : Int)) (b := (q : Int)) (by rw [Int.toNat_natCast, ← h1.2.1]; exact h2) (by omega) (by omega)
  refine eq01 hX.1 hM.1 (hX.2.trans (Iff.trans ?_ hM.2.symm))
  rw [Int.toNat_natCast, Int.toNat_natCast, ← h1.1, ← h1.2.1, ← h3.1, ← h3.2.1, ← hf]
  unfold AlX
  constructor
  · rintro ⟨a, b, k⟩
    exact ⟨a, b, fun i hi => by rw [← h1.2.2 i hi, ← h3.2.2 i (by omega)]; exact k i hi⟩
  · rintro ⟨a, b, k⟩
    exact ⟨a, b, fun i hi => by rw [h1.2.2 i hi, h3.2.2 i (by omega)]; exact k i hi⟩
theorem PE_just {τ ρ : Sg} {c d r q : Nat} (h2 : τ c 2 ≤ 12) (h1 : PE τ ρ c r) (h3 : PE τ ρ d q) : f_X2_isJust τ c d = f_X10_isJust ρ (r : Int) (q : Int) := by
  have hX := isAlikeX (σ := τ) (c := c) (q := d) (a1 := 0) h2
  have hM := isJustM (ρ := ρ) (a := (r : Int)) (b := (q : Int)) (by rw [Int.toNat_natCast, ← h1.2.1]; exact h2) (by omega) (by omega)
  unfold f_X2_isJust
  refine eq01 hX.1 hM.1 (hX.2.trans (Iff.trans ?_ hM.2.symm))
  rw [Int.toNat_natCast, Int.toNat_natCast, ← h1.1, ← h1.2.1, ← h3.1, ← h3.2.1]
  unfold AlX
  constructor
  · rintro ⟨a, b, k⟩
    refine ⟨a, b, fun i hi => ?_⟩
    rw [← h1.2.2 i hi, ← h3.2.2 i (by omega)]
    rcases k i hi with w | w
    · exact w
    · exact absurd rfl w.1
  · rintro ⟨a, b, k⟩
    exact ⟨a, b, fun i hi => Or.inl (by rw [h1.2.2 i hi, h3.2.2 i (by omega)]; exact k i hi)⟩
/-- what become does: c gets d's folder, length and bytes -/
theorem L_become_row {c d : Nat} (hcd : c ≠ d) (hcd1 : c + 1 ≠ d + 1) (h3 : c ≠ d + 1) (h4 : c + 1 ≠ d) : ∀ (n : Nat) (x : Int) (σ : Sg), 0 ≤ x → 12 - x < (n : Int) → σ d 2 ≤ 12 → σ c 2 = x → x ≤ σ d 2 →
    (L_X2_become_10 c d n x σ) c 1 = σ c 1 ∧ (L_X2_become_10 c d n x σ) c 2 = σ d 2 ∧ (∀ i : Nat, (i : Int) < x → (L_X2_become_10 c d n x σ) (c + 1) i = σ (c + 1) i) ∧ ∀ i : Nat, x ≤ (i : Int) → (i : Int) < σ d 2 → (L_X2_become_10 c d n x σ) (c + 1) i = σ (d + 1) i
  | 0, x, σ, h0, h1, h2, h5, h6 => by omega
  | n + 1, x, σ, h0, h1, h2, h5, h6 => by
    rw [L_X2_become_10]
    by_cases hl : σ d 2 ≤ x
    · rw [if_pos hl]
      exact ⟨rfl, by omega, fun _ _ => rfl, fun i a b => by omega⟩
    · rw [if_neg hl, byteAt_in h0 (by omega) h2]
      have e : f_X2_add σ c (σ (d + 1) x.toNat) = up2 (up2 σ (c + 1) x.toNat (σ (d + 1) x.toNat)) c 2 (x + 1) := by
        unfold f_X2_add
        rw [if_neg (by omega), h5]
      rw [e]
      have k2 : (up2 (up2 σ (c + 1) x.toNat (σ (d + 1) x.toNat)) c 2 (x + 1)) d = σ d := by rw [up2_cell _ _ _ (Ne.symm hcd), up2_cell _ _ _ (Ne.symm h4)]
      have k3 : (up2 (up2 σ (c + 1) x.toNat (σ (d + 1) x.toNat)) c 2 (x + 1)) (d + 1) = σ (d + 1) := by rw [up2_cell _ _ _ (Ne.symm h3), up2_cell _ _ _ (Ne.symm hcd1)]
      have k4 : ∀ i, (up2 (up2 σ (c + 1) x.toNat (σ (d + 1) x.toNat)) c 2 (x + 1)) (c + 1) i = if i = x.toNat then σ (d + 1) x.toNat else σ (c + 1) i := fun i => by rw [up2_cell _ _ _ (by omega), up2_row]
      have k5 : (up2 (up2 σ (c + 1) x.toNat (σ (d + 1) x.toNat)) c 2 (x + 1)) c 1 = σ c 1 := by rw [up2_slot _ _ (by decide), up2_cell _ _ _ (by omega)]
      obtain ⟨a1, a2, a3, a4⟩ := L_become_row hcd hcd1 h3 h4 n (x + 1) (up2 (up2 σ (c + 1) x.toNat (σ (d + 1) x.toNat)) c 2 (x + 1)) (by omega) (by omega) (by rw [k2]; exact h2) (up2_same _ _ _ _) (by rw [k2]; omega)
      rw [k2] at a2 a4
      rw [k3] at a4
      rw [k5] at a1
      refine ⟨a1, a2, fun i hi => ?_, fun i hi hj => ?_⟩
      · rw [a3 i (by omega), k4, if_neg (by omega)]
      · by_cases q : (i : Int) = x
        · rw [a3 i (by omega), k4, if_pos (by omega)]
          congr 1
          omega
        · exact a4 i (by omega) hj
theorem become_row {σ : Sg} {c d : Nat} (hcd : c ≠ d) (h3 : c ≠ d + 1) (h4 : c + 1 ≠ d) (h0 : 0 ≤ σ d 2) (h2 : σ d 2 ≤ 12) :
    (f_X2_become σ c d) c 1 = σ d 1 ∧ (f_X2_become σ c d) c 2 = σ d 2 ∧ ∀ i : Nat, (i : Int) < σ d 2 → (f_X2_become σ c d) (c + 1) i = σ (d + 1) i := by
  unfold f_X2_become f_X2_begin
  have k2 : (up2 (up2 σ c 1 (σ d 1)) c 2 0) d = σ d := by rw [up2_cell _ _ _ (Ne.symm hcd), up2_cell _ _ _ (Ne.symm hcd)]
  have k3 : (up2 (up2 σ c 1 (σ d 1)) c 2 0) (d + 1) = σ (d + 1) := by rw [up2_cell _ _ _ (Ne.symm h3), up2_cell _ _ _ (Ne.symm h3)]
  obtain ⟨a1, a2, a3, a4⟩ := L_become_row hcd (by omega) h3 h4 13 0 (up2 (up2 σ c 1 (σ d 1)) c 2 0) (by omega) (by omega) (by rw [k2]; exact h2) (up2_same _ _ _ _) (by rw [k2]; exact h0)
  rw [k2] at a2 a4
  rw [k3] at a4
  rw [up2_slot _ _ (by decide), up2_same] at a1
  exact ⟨a1, a2, fun i hi => a4 i (by omega) hi⟩
/-- what copies does: row t gets row f's folder, size and bytes; the other rows stay -/
theorem L_copies_row {f t : Int} (hf : 0 ≤ f) (ht : 0 ≤ t) (hft : f ≠ t) : ∀ (n : Nat) (x : Int) (σ : Sg), 0 ≤ x → 12 - x < (n : Int) → σ 30 f.toNat ≤ 12 → x ≤ 12 →
    (∀ i : Nat, (i : Int) < 12 → (i : Int) < x ∨ σ 30 f.toNat ≤ (i : Int) → (L_X10_copies_26 f t n x σ) 29 (12 * t.toNat + i) = σ 29 (12 * t.toNat + i)) ∧ (∀ i : Nat, x ≤ (i : Int) → (i : Int) < σ 30 f.toNat → (L_X10_copies_26 f t n x σ) 29 (12 * t.toNat + i) = σ 29 (12 * f.toNat + i)) ∧ ∀ r i : Nat, r ≠ t.toNat → i < 12 → (L_X10_copies_26 f t n x σ) 29 (12 * r + i) = σ 29 (12 * r + i)
  | 0, x, σ, h0, h1, h2, h3 => by omega
  | n + 1, x, σ, h0, h1, h2, h3 => by
    rw [L_X10_copies_26]
    by_cases hl : σ 30 f.toNat ≤ x
    · rw [if_pos hl]
      exact ⟨fun _ _ _ => rfl, fun i a b => by omega, fun _ _ _ _ => rfl⟩
    · rw [if_neg hl, show (12 * t + x).toNat = 12 * t.toNat + x.toNat by omega, show (12 * f + x).toNat = 12 * f.toNat + x.toNat by omega]
      obtain ⟨a1, a2, a3⟩ := L_copies_row hf ht hft n (x + 1) (up2 σ 29 (12 * t.toNat + x.toNat) (σ 29 (12 * f.toNat + x.toNat))) (by omega) (by omega) (by rw [up2_cell _ _ _ (by decide)]; exact h2) (by omega)
      rw [up2_cell _ _ _ (show (30 : Nat) ≠ 29 by decide)] at a1 a2
      have k : ∀ j, (up2 σ 29 (12 * t.toNat + x.toNat) (σ 29 (12 * f.toNat + x.toNat))) 29 j = if j = 12 * t.toNat + x.toNat then σ 29 (12 * f.toNat + x.toNat) else σ 29 j := fun j => by rw [up2_row]
      refine ⟨fun i h12 hi => ?_, fun i hi hj => ?_, fun r i hr hi => ?_⟩
      · rw [a1 i h12 (by omega), k, if_neg (by omega)]
      · by_cases q : (i : Int) = x
        · rw [a1 i (by omega) (by omega), k, if_pos (by omega)]
          congr 1
          omega
        · rw [a2 i (by omega) hj, k, if_neg (by omega)]
      · rw [a3 r i hr hi, k, if_neg (by omega)]
