/-! The search for a fit writes the rows 40 (took) and 41 (fails) alone. -/
theorem takes4_fr (gf : Sg → Int → Int → Int → Int × Sg) {x : Nat} (h0 : x ≠ 40) (hg : ∀ σ a b c, (gf σ a b c).2 x = σ x) (σ : Sg) (a0 a1 a2 a3 : Int) : (f_X10_takes_ σ gf a0 a1 a2 a3).2 x = σ x := by
  unfold f_X10_takes_
  split
  · show (gf _ _ _ _).2 x = σ x
    rw [hg, up2_cell _ _ _ h0]
  · show up2 (gf _ _ _ _).2 40 _ _ x = σ x
    rw [up2_cell _ _ _ h0, hg, up2_cell _ _ _ h0]
theorem L_goes145_fr (tf : Sg → Int → Int → Int → Int → Int × Sg) {x : Nat} (h1 : x ≠ 41) (ht : ∀ σ a b c d, (tf σ a b c d).2 x = σ x) (a0 a1 a2 : Int) : ∀ (n : Nat) (i : Int) (σ : Sg), (L_X10_goes_145 tf a0 a1 a2 n i σ).2 x = σ x
  | 0, i, σ => rfl
  | n + 1, i, σ => by
    rw [L_X10_goes_145]
    split
    · show up2 _ _ _ _ x = σ x
      rw [up2_cell _ _ _ h1]
    · split
      · rw [L_goes145_fr tf h1 ht a0 a1 a2 n, ht]
      · exact ht _ _ _ _ _
theorem L_goes68_fr (tf : Sg → Int → Int → Int → Int → Int × Sg) {x : Nat} (h1 : x ≠ 41) (ht : ∀ σ a b c d, (tf σ a b c d).2 x = σ x) (a0 a1 a2 : Int) : ∀ (n : Nat) (i j : Int) (σ : Sg), (L_X10_goes_68 tf a0 a1 a2 n i j σ).2 x = σ x
  | 0, i, j, σ => rfl
  | n + 1, i, j, σ => by
    rw [L_X10_goes_68]
    split
    · show up2 _ _ _ _ x = σ x
      rw [up2_cell _ _ _ h1]
    · split
      · rw [L_goes68_fr tf h1 ht a0 a1 a2 n, ht]
      · exact ht _ _ _ _ _
theorem goes_fr (tf : Sg → Int → Int → Int → Int → Int × Sg) {x : Nat} (h1 : x ≠ 41) (ht : ∀ σ a b c d, (tf σ a b c d).2 x = σ x) (σ : Sg) (a0 a1 a2 : Int) : (f_X10_goes σ tf a0 a1 a2).2 x = σ x := by
  have k1 : ∀ (σ' : Sg) (i : Nat) (r : Int), σ' x = σ x → ((r, up2 σ' 41 i 1) : Int × Sg).2 x = σ x := fun σ' i r h => by
    show up2 σ' 41 i 1 x = σ x
    rw [up2_cell _ _ _ h1, h]
  unfold f_X10_goes
  split
  · split <;> rfl
  · split
    · split
      · exact L_goes68_fr tf h1 ht _ _ _ _ _ _ _
      · split
        · exact L_goes145_fr tf h1 ht _ _ _ _ _ _
        · split
          · exact k1 _ _ _ rfl
          · split
            · split
              · exact k1 _ _ _ (ht _ _ _ _ _)
              · exact ht _ _ _ _ _
            · split
              · split
                · exact k1 _ _ _ (ht _ _ _ _ _)
                · exact ht _ _ _ _ _
              · exact k1 _ _ _ rfl
    · rfl
theorem gfd_fr {x : Nat} (h0 : x ≠ 40) (h1 : x ≠ 41) : ∀ (d : Nat) (σ : Sg) (a0 a1 a2 : Int), (gfd d σ a0 a1 a2).2 x = σ x
  | 0, σ, a0, a1, a2 => by
    rw [gfd]
    exact goes_fr _ h1 (fun _ _ _ _ _ => rfl) σ a0 a1 a2
  | d + 1, σ, a0, a1, a2 => by
    rw [gfd]
    exact goes_fr _ h1 (fun σ a b c e => takes4_fr (gfd d) h0 (fun σ a b c => gfd_fr h0 h1 d σ a b c) σ a b c e) σ a0 a1 a2
theorem adds_fr (σ : Sg) (a0 a1 : Int) {x : Nat} (h0 : x ≠ 29) (h1 : x ≠ 44) : f_X10_adds σ a0 a1 x = σ x := by
  unfold f_X10_adds
  split
  · rw [up2_cell _ _ _ h1]
  · rw [up2_cell _ _ _ h1, up2_cell _ _ _ h0]
theorem L_wild_congr {σ σ' : Sg} (h1 : σ' 28 10 = σ 28 10) (h2 : σ' 34 = σ 34) (a0 : Int) : ∀ (n : Nat) (i j : Int), L_X10_wild_4 σ' a0 n i j = L_X10_wild_4 σ a0 n i j
  | 0, i, j => rfl
  | n + 1, i, j => by
    rw [L_X10_wild_4, L_X10_wild_4, h1, h2, L_wild_congr h1 h2 a0 n, L_wild_congr h1 h2 a0 n]
theorem wild_congr {σ σ' : Sg} (h1 : σ' 28 10 = σ 28 10) (h2 : σ' 34 = σ 34) (a0 : Int) : f_X10_wild σ' a0 = f_X10_wild σ a0 := L_wild_congr h1 h2 a0 _ _ _
/-- each part of the rule that tells what an item took has such an item -/
def RuleOK (σ : Sg) : Prop := ∀ p : Nat, (p : Int) < σ 28 11 → (σ 35 p = 36 ∨ σ 35 p = 94 ∨ σ 35 p = 33) → 0 ≤ f_X10_wild σ (σ 36 p)
theorem RuleOK.of {σ σ' : Sg} (h : RuleOK σ) (h1 : σ' 28 10 = σ 28 10) (h2 : σ' 28 11 = σ 28 11) (h3 : σ' 34 = σ 34) (h4 : σ' 35 = σ 35) (h5 : σ' 36 = σ 36) : RuleOK σ' := by
  intro p hp hs
  rw [wild_congr h1 h3, h5]
  rw [h4] at hs
  rw [h2] at hp
  exact h p hp hs
theorem RuleOK.fr {σ σ' : Sg} (h : RuleOK σ) (hf : ∀ x, x = 28 ∨ x = 34 ∨ x = 35 ∨ x = 36 → σ' x = σ x) : RuleOK σ' :=
  h.of (by rw [hf 28 (by omega)]) (by rw [hf 28 (by omega)]) (hf 34 (by omega)) (hf 35 (by omega)) (hf 36 (by omega))
theorem L_keeps_fr (a0 a1 a2 : Int) {x : Nat} (h : x ≠ 51) : ∀ (n : Nat) (i j : Int) (σ : Sg), L_X10_keeps_36 a0 a1 a2 n i j σ x = σ x
  | 0, i, j, σ => rfl
  | n + 1, i, j, σ => by
    rw [L_X10_keeps_36]
    split
    · rfl
    · rw [L_keeps_fr a0 a1 a2 h n, up2_cell _ _ _ h]
theorem keeps_fr (σ : Sg) (a0 a1 a2 : Int) {x : Nat} (h1 : x ≠ 51) (h2 : x ≠ 52) (h3 : x ≠ 53) : f_X10_keeps σ a0 a1 a2 x = σ x := by
  unfold f_X10_keeps
  rw [L_keeps_fr a0 a1 a2 h1, up2_cell _ _ _ h2, up2_cell _ _ _ h3]
theorem L_lays_fr (a0 a1 : Int) {x : Nat} (h : x ≠ 29) : ∀ (n : Nat) (i j : Int) (σ : Sg), L_X10_lays_35 a0 a1 n i j σ x = σ x
  | 0, i, j, σ => rfl
  | n + 1, i, j, σ => by
    rw [L_X10_lays_35]
    split
    · rfl
    · rw [L_lays_fr a0 a1 h n, up2_cell _ _ _ h]
theorem lays_fr (σ : Sg) (a0 a1 : Int) {x : Nat} (h1 : x ≠ 29) (h2 : x ≠ 30) (h3 : x ≠ 31) : f_X10_lays σ a0 a1 x = σ x := by
  unfold f_X10_lays
  rw [L_lays_fr a0 a1 h1, up2_cell _ _ _ h2, up2_cell _ _ _ h3]
theorem spare_fr (σ : Sg) (a0 : Int) {x : Nat} (h1 : x ≠ 29) (h2 : x ≠ 30) (h3 : x ≠ 31) : f_X10_spare σ a0 x = σ x := by
  unfold f_X10_spare
  split
  · rw [up2_cell _ _ _ h2, up2_cell _ _ _ h1, up2_cell _ _ _ h1, up2_cell _ _ _ h3]
  · rw [up2_cell _ _ _ h2, up2_cell _ _ _ h1, up2_cell _ _ _ h1, up2_cell _ _ _ h1, up2_cell _ _ _ h3]
/-- the sum of the first n numbers of a row -/
def sm (f : Nat → Int) : Nat → Int
  | 0 => 0
  | n + 1 => sm f n + f n
theorem sm_le {f : Nat → Int} : ∀ {n : Nat}, (∀ i, i < n → 0 ≤ f i ∧ f i ≤ 1) → 0 ≤ sm f n ∧ sm f n ≤ (n : Int)
  | 0, _ => by simp [sm]
  | n + 1, h => by
    have h1 := sm_le (n := n) (fun i hi => h i (by omega))
    have h2 := h n (by omega)
    simp only [sm]
    omega
theorem sm_upd (f : Nat → Int) (v : Int) {i : Nat} : ∀ {n : Nat}, i < n → sm (fun k => if k = i then v else f k) n + f i = sm f n + v
  | 0, h => absurd h (Nat.not_lt_zero i)
  | n + 1, h => by
    simp only [sm]
    rcases Nat.lt_or_ge i n with q | q
    · have h1 := sm_upd f v q
      rw [if_neg (by omega)]
      omega
    · have e : n = i := by omega
      subst e
      have h1 : ∀ {m : Nat}, m ≤ n → sm (fun k => if k = n then v else f k) m = sm f m := by
        intro m
        induction m with
        | zero => intro _; rfl
        | succ m ih => intro hm; simp only [sm]; rw [ih (by omega), if_neg (by omega)]
      rw [h1 (Nat.le_refl n), if_pos rfl]
      omega
theorem sm_zero {f : Nat → Int} : ∀ {n : Nat}, (∀ i, i < n → f i = 0) → sm f n = 0
  | 0, _ => rfl
  | n + 1, h => by
    simp only [sm]
    rw [sm_zero (n := n) (fun i hi => h i (by omega)), h n (by omega)]
    rfl
theorem sm_lt {f : Nat → Int} {n i : Nat} (h : ∀ i, i < n → 0 ≤ f i ∧ f i ≤ 1) (hi : i < n) (h0 : f i = 0) : sm f n ≤ (n : Int) - 1 := by
  have h1 := sm_upd f 1 hi
  have h2 := sm_le (f := fun k => if k = i then 1 else f k) (n := n) (fun k hk => by
    show 0 ≤ (if k = i then 1 else f k) ∧ (if k = i then 1 else f k) ≤ 1
    split
    · omega
    · exact h k hk)
  omega
