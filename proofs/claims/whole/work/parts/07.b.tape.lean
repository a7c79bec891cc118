theorem copies_row {σ : Sg} {f t : Int} (hf : 0 ≤ f) (ht : 0 ≤ t) (hft : f ≠ t) (h2 : σ 30 f.toNat ≤ 12) :
    (f_X10_copies σ f t) 31 t.toNat = σ 31 f.toNat ∧ (f_X10_copies σ f t) 30 t.toNat = σ 30 f.toNat ∧ (∀ i : Nat, (i : Int) < σ 30 f.toNat → (f_X10_copies σ f t) 29 (12 * t.toNat + i) = σ 29 (12 * f.toNat + i)) ∧
    ∀ r : Nat, r ≠ t.toNat → (f_X10_copies σ f t) 31 r = σ 31 r ∧ (f_X10_copies σ f t) 30 r = σ 30 r ∧ ∀ i : Nat, i < 12 → (f_X10_copies σ f t) 29 (12 * r + i) = σ 29 (12 * r + i) := by
  unfold f_X10_copies
  have e30 : (up2 (up2 σ 31 t.toNat (σ 31 f.toNat)) 30 t.toNat (σ 30 f.toNat)) 30 f.toNat = σ 30 f.toNat := by rw [up2_slot _ _ (by omega), up2_cell _ _ _ (by decide)]
  have e29 : (up2 (up2 σ 31 t.toNat (σ 31 f.toNat)) 30 t.toNat (σ 30 f.toNat)) 29 = σ 29 := by rw [up2_cell _ _ _ (by decide), up2_cell _ _ _ (by decide)]
  obtain ⟨a1, a2, a3⟩ := L_copies_row hf ht hft 13 0 (up2 (up2 σ 31 t.toNat (σ 31 f.toNat)) 30 t.toNat (σ 30 f.toNat)) (by omega) (by omega) (by rw [e30]; exact h2) (by omega)
  rw [e30, e29] at a2
  rw [e29] at a3
  refine ⟨?_, ?_, fun i hi => a2 i (by omega) hi, fun r hr => ⟨?_, ?_, fun i hi => a3 r i hr hi⟩⟩
  · rw [L_copies_fr f t (by decide), up2_cell _ _ _ (by decide), up2_same]
  · rw [L_copies_fr f t (by decide), up2_same]
  · rw [L_copies_fr f t (by decide), up2_cell _ _ _ (by decide), up2_slot _ _ hr]
  · rw [L_copies_fr f t (by decide), up2_slot _ _ hr, up2_cell _ _ _ (by decide)]
/-- a row of the reference stays -/
def RowS (ρ ρ' : Sg) (r : Nat) : Prop := ρ' 31 r = ρ 31 r ∧ ρ' 30 r = ρ 30 r ∧ ∀ i : Nat, i < 12 → ρ' 29 (12 * r + i) = ρ 29 (12 * r + i)
def PlS (τ τ' : Sg) (c : Nat) : Prop := τ' c = τ c ∧ τ' (c + 1) = τ (c + 1)
theorem RowS.rf (ρ : Sg) (r : Nat) : RowS ρ ρ r := ⟨rfl, rfl, fun _ _ => rfl⟩
theorem RowS.tr {ρ ρ' ρ'' : Sg} {r : Nat} (h : RowS ρ ρ' r) (k : RowS ρ' ρ'' r) : RowS ρ ρ'' r := ⟨k.1.trans h.1, k.2.1.trans h.2.1, fun i hi => (k.2.2 i hi).trans (h.2.2 i hi)⟩
theorem RowS.of {ρ ρ' : Sg} (h29 : ρ' 29 = ρ 29) (h30 : ρ' 30 = ρ 30) (h31 : ρ' 31 = ρ 31) (r : Nat) : RowS ρ ρ' r := ⟨by rw [h31], by rw [h30], fun i _ => by rw [h29]⟩
theorem PE.mv {τ τ' ρ ρ' : Sg} {c r : Nat} (h : PE τ ρ c r) (h2 : τ c 2 ≤ 12) (hp : PlS τ τ' c) (hr : RowS ρ ρ' r) : PE τ' ρ' c r := by
  obtain ⟨a, b, k⟩ := h
  refine ⟨by rw [hp.1, hr.1, a], by rw [hp.1, hr.2.1, b], fun i hi => ?_⟩
  rw [hp.1] at hi
  rw [hp.2, hr.2.2 i (by omega), k i hi]
theorem PE.cp {τ ρ : Sg} {c d q : Nat} {t : Int} (h : PE τ ρ d q) (hcd : c ≠ d) (h3 : c ≠ d + 1) (h4 : c + 1 ≠ d) (h0 : 0 ≤ τ d 2) (h2 : τ d 2 ≤ 12) (ht : 0 ≤ t) (hqt : (q : Int) ≠ t) : PE (f_X2_become τ c d) (f_X10_copies ρ (q : Int) t) c t.toNat := by
  obtain ⟨a1, a2, a3⟩ := become_row (σ := τ) hcd h3 h4 h0 h2
  obtain ⟨b1, b2, b3, -⟩ := copies_row (σ := ρ) (f := (q : Int)) (t := t) (by omega) ht hqt (by rw [Int.toNat_natCast, ← h.2.1]; exact h2)
  rw [Int.toNat_natCast] at b1 b2 b3
  refine ⟨by rw [a1, b1, h.1], by rw [a2, b2, h.2.1], fun i hi => ?_⟩
  rw [a2] at hi
  rw [a3 i hi, b3 i (by rw [← h.2.1]; exact hi), h.2.2 i hi]
theorem become_S {τ : Sg} {c d x : Nat} (h1 : x ≠ c) (h2 : x ≠ c + 1) (h3 : x + 1 ≠ c) : PlS τ (f_X2_become τ c d) x := ⟨become_fr τ c d h1 h2, become_fr τ c d h3 (by omega)⟩
theorem copies_S {ρ : Sg} {f t : Int} (hf : 0 ≤ f) (ht : 0 ≤ t) (hft : f ≠ t) (h2 : ρ 30 f.toNat ≤ 12) {r : Nat} (hr : r ≠ t.toNat) : RowS ρ (f_X10_copies ρ f t) r := (copies_row hf ht hft h2).2.2.2 r hr
/-- bytes of names -/
def nb (b : Int) : Prop := (97 ≤ b ∧ b ≤ 122) ∨ (65 ≤ b ∧ b ≤ 90) ∨ (48 ≤ b ∧ b ≤ 57) ∨ b = 46 ∨ b = 45 ∨ b = 95
theorem nbX (b : Int) : (f_X6_isOfNames b = 0 ∨ f_X6_isOfNames b = 1) ∧ (f_X6_isOfNames b = 1 ↔ nb b) := by
  unfold f_X6_isOfNames f_X6_isSmall f_X6_isCapital f_X6_isFigure nb
  repeat' split
  all_goals omega
theorem nbM (b : Int) : (f_X10_isNameByte b = 0 ∨ f_X10_isNameByte b = 1) ∧ (f_X10_isNameByte b = 1 ↔ nb b) := by
  unfold f_X10_isNameByte f_X10_isFigure nb
  repeat' split
  all_goals omega
theorem bm_lo {b : Int} (h : 0 ≤ b ∧ b ≤ 127) : b.bmod 256 = b := Int.bmod_eq_of_le (by omega) (by omega)
theorem bm_hi {b : Int} (h : 128 ≤ b ∧ b ≤ 255) : b.bmod 256 = b - 256 := by
  unfold Int.bmod
  dsimp only
  split <;> omega
theorem nb_eq {b : Int} (h : 0 ≤ b ∧ b ≤ 255) : f_X6_isOfNames b = f_X10_isNameByte (b.bmod 256) := by
  refine eq01 (nbX b).1 (nbM _).1 ((nbX b).2.trans (Iff.trans ?_ (nbM _).2.symm))
  by_cases q : b ≤ 127
  · rw [bm_lo ⟨h.1, q⟩]
  · rw [bm_hi ⟨by omega, h.2⟩]
    unfold nb
    omega
/-- the tape: unsigned bytes in the class, signed ones in the reference -/
def SimT (τ ρ : Sg) : Prop := τ 1 1 = ρ 28 9 ∧ ∀ i : Nat, (i : Int) < τ 1 1 → ρ 33 i = (τ 2 i).bmod 256
theorem tbyte {τ : Sg} {i : Int} (h0 : 0 ≤ i) (h1 : i < τ 1 1) (h2 : τ 1 1 ≤ 80) : f_X8_byteAt τ i = τ 2 i.toNat := by
  unfold f_X8_byteAt
  rw [if_neg (by omega), if_neg (by omega), if_neg (by omega)]
theorem takes30_0 (ρ : Sg) (a : Int) : ∀ (n : Nat) (x : Int), L_X10_takes_30 ρ a n 0 x = 0
  | 0, x => rfl
  | n + 1, x => by
    rw [L_X10_takes_30]
    split
    · rfl
    · exact takes30_0 ρ a n (x + 1)
theorem takes30_1 {τ ρ : Sg} (hT : SimT τ ρ) (hW : WF τ) (a : Int) : ∀ (n : Nat) (x : Int), 0 ≤ x → 80 - x < (n : Int) → x ≤ 80 → L_X10_takes_30 ρ a n 1 x = L_X8_isName_21 τ n x
  | 0, x, h0, h1, h2 => by omega
  | n + 1, x, h0, h1, h2 => by
    have b1 := bd_1_1 hW
    rw [L_X10_takes_30, L_X8_isName_21, ← hT.1]
    by_cases q : τ 1 1 ≤ x
    · rw [if_pos q, if_pos q]
    · rw [if_neg q, if_neg q, if_neg (by decide), tbyte h0 (by omega) (by omega), nb_eq (bd_2 hW x.toNat), hT.2 x.toNat (by omega)]
      by_cases w : f_X10_isNameByte ((τ 2 x.toNat).bmod 256) = 0
      · rw [if_pos w, if_pos w, takes30_0]
      · rw [if_neg w, if_neg w]
        exact takes30_1 hT hW a n (x + 1) (by omega) (by omega) (by omega)
theorem isName21 {τ : Sg} (hW : WF τ) : ∀ (n : Nat) (x : Int), 0 ≤ x → 80 - x < (n : Int) → x ≤ 80 → (L_X8_isName_21 τ n x = 0 ∨ L_X8_isName_21 τ n x = 1) ∧ (L_X8_isName_21 τ n x = 1 → ∀ i : Nat, x ≤ (i : Int) → (i : Int) < τ 1 1 → nb (τ 2 i))
  | 0, x, h0, h1, h2 => by omega
  | n + 1, x, h0, h1, h2 => by
    have b1 := bd_1_1 hW
    rw [L_X8_isName_21]
    by_cases q : τ 1 1 ≤ x
    · rw [if_pos q]
      exact ⟨Or.inr rfl, fun _ i a b => by omega⟩
    · rw [if_neg q, tbyte h0 (by omega) (by omega)]
      by_cases w : f_X6_isOfNames (τ 2 x.toNat) = 0
      · rw [if_pos w]
        exact ⟨Or.inl rfl, fun z => by omega⟩
      · rw [if_neg w]
        have ih := isName21 hW n (x + 1) (by omega) (by omega) (by omega)
        refine ⟨ih.1, fun z => ?_⟩
        rw [all_step (P := fun i => nb (τ 2 i)) h0 (show x < τ 1 1 by omega)]
        refine ⟨(nbX _).2.mp ?_, ih.2 z⟩
        rcases (nbX (τ 2 x.toNat)).1 with k | k
        · exact absurd k w
        · exact k
theorem L_takePlace_row (a : Int) : ∀ (n : Nat) (y x : Int) (σ : Sg), 0 ≤ x → 80 - x < (n : Int) → σ 1 1 ≤ 12 → σ 57 2 = x → x ≤ σ 1 1 →
    (L_X9_takePlace_37 a n y x σ) 57 1 = σ 57 1 ∧ (L_X9_takePlace_37 a n y x σ) 57 2 = σ 1 1 ∧ (∀ i : Nat, (i : Int) < x → (L_X9_takePlace_37 a n y x σ) 58 i = σ 58 i) ∧ ∀ i : Nat, x ≤ (i : Int) → (i : Int) < σ 1 1 → (L_X9_takePlace_37 a n y x σ) 58 i = σ 2 i
  | 0, y, x, σ, h0, h1, h2, h5, h6 => by omega
  | n + 1, y, x, σ, h0, h1, h2, h5, h6 => by
    rw [L_X9_takePlace_37]
    by_cases hl : f_X8_length σ ≤ x
    · rw [if_pos hl]
      have hl' : σ 1 1 ≤ x := hl
      exact ⟨rfl, by omega, fun _ _ => rfl, fun i a b => by omega⟩
    · have hl' : ¬ σ 1 1 ≤ x := hl
      rw [if_neg hl, tbyte h0 (by omega) (by omega)]
      have e : f_X2_add σ 57 (σ 2 x.toNat) = up2 (up2 σ 58 x.toNat (σ 2 x.toNat)) 57 2 (x + 1) := by
        unfold f_X2_add
        rw [if_neg (by omega), h5]
      rw [e]
      have k1 : (up2 (up2 σ 58 x.toNat (σ 2 x.toNat)) 57 2 (x + 1)) 1 = σ 1 := by rw [up2_cell _ _ _ (by decide), up2_cell _ _ _ (by decide)]
      have k2 : (up2 (up2 σ 58 x.toNat (σ 2 x.toNat)) 57 2 (x + 1)) 2 = σ 2 := by rw [up2_cell _ _ _ (by decide), up2_cell _ _ _ (by decide)]
      have k4 : ∀ i, (up2 (up2 σ 58 x.toNat (σ 2 x.toNat)) 57 2 (x + 1)) 58 i = if i = x.toNat then σ 2 x.toNat else σ 58 i := fun i => by rw [up2_cell _ _ _ (by decide), up2_row]
      have k5 : (up2 (up2 σ 58 x.toNat (σ 2 x.toNat)) 57 2 (x + 1)) 57 1 = σ 57 1 := by rw [up2_slot _ _ (by decide), up2_cell _ _ _ (by decide)]
      obtain ⟨a1, a2, a3, a4⟩ := L_takePlace_row a n y (x + 1) (up2 (up2 σ 58 x.toNat (σ 2 x.toNat)) 57 2 (x + 1)) (by omega) (by omega) (by rw [k1]; exact h2) (up2_same _ _ _ _) (by rw [k1]; omega)
      rw [k1] at a2 a4
      rw [k2] at a4
      rw [k5] at a1
      refine ⟨a1, a2, fun i hi => ?_, fun i hi hj => ?_⟩
      · rw [a3 i (by omega), k4, if_neg (by omega)]
      · by_cases q : (i : Int) = x
        · rw [a3 i (by omega), k4, if_pos (by omega)]
          congr 1
          omega
        · exact a4 i (by omega) hj
theorem L_takes95_row (a : Int) : ∀ (n : Nat) (y x : Int) (σ : Sg), 0 ≤ x → 12 - x < (n : Int) → σ 30 70 ≤ 12 → x ≤ 12 →
    (∀ i : Nat, (i : Int) < x → (L_X10_takes_95 a n y x σ) 29 (840 + i) = σ 29 (840 + i)) ∧ (∀ i : Nat, x ≤ (i : Int) → (i : Int) < σ 30 70 → (L_X10_takes_95 a n y x σ) 29 (840 + i) = σ 33 i) ∧ ∀ j : Nat, (j < 840 ∨ 852 ≤ j) → (L_X10_takes_95 a n y x σ) 29 j = σ 29 j
  | 0, y, x, σ, h0, h1, h2, h3 => by omega
  | n + 1, y, x, σ, h0, h1, h2, h3 => by
    rw [L_X10_takes_95]
    by_cases hl : σ 30 70 ≤ x
    · rw [if_pos hl]
      exact ⟨fun _ _ => rfl, fun i a b => by omega, fun _ _ => rfl⟩
    · rw [if_neg hl, show (840 + x).toNat = 840 + x.toNat by omega]
      obtain ⟨a1, a2, a3⟩ := L_takes95_row a n y (x + 1) (up2 σ 29 (840 + x.toNat) (σ 33 x.toNat)) (by omega) (by omega) (by rw [up2_cell _ _ _ (by decide)]; exact h2) (by omega)
      rw [up2_cell _ _ _ (show (30 : Nat) ≠ 29 by decide), up2_cell _ _ _ (show (33 : Nat) ≠ 29 by decide)] at a2
      have k : ∀ j, (up2 σ 29 (840 + x.toNat) (σ 33 x.toNat)) 29 j = if j = 840 + x.toNat then σ 33 x.toNat else σ 29 j := fun j => by rw [up2_row]
      refine ⟨fun i hi => ?_, fun i hi hj => ?_, fun j hj => ?_⟩
      · rw [a1 i (by omega), k, if_neg (by omega)]
      · by_cases q : (i : Int) = x
        · rw [a1 i (by omega), k, if_pos (by omega)]
          congr 1
          omega
        · exact a2 i (by omega) hj
      · rw [a3 j hj, k, if_neg (by omega)]
theorem takes_form (ρ : Sg) (a : Int) : ∃ r : Int, r = L_X10_takes_30 ρ a 81 (if f_X10_within a 0 5 = 0 then 0 else if f_X10_within (ρ 28 9) 1 12 = 0 then 0 else 1) 0 ∧
    f_X10_takes ρ a = (r, up2 (L_X10_takes_95 a 13 r 0 (up2 (up2 ρ 31 70 a) 30 70 (if r = 0 then 0 else ρ 28 9))) 28 9 0) := by
  refine ⟨_, rfl, ?_⟩
  unfold f_X10_takes
  by_cases h1 : f_X10_within a 0 5 = 0
  · rw [if_pos h1, if_pos h1]
    by_cases h2 : L_X10_takes_30 ρ a 81 0 0 = 0
    · rw [if_pos h2, if_pos h2]
    · rw [if_neg h2, if_neg h2]
  · rw [if_neg h1, if_neg h1]
    by_cases h3 : f_X10_within (ρ 28 9) 1 12 = 0
    · rw [if_pos h3, if_pos h3]
      by_cases h2 : L_X10_takes_30 ρ a 81 0 0 = 0
      · rw [if_pos h2, if_pos h2]
      · rw [if_neg h2, if_neg h2]
    · rw [if_neg h3, if_neg h3]
      by_cases h2 : L_X10_takes_30 ρ a 81 1 0 = 0
      · rw [if_pos h2, if_pos h2]
      · rw [if_neg h2, if_neg h2]
