/-! Numbers of the machine as whole numbers: iI z is the Int32 of z. -/
abbrev Sg : Type := Nat → Nat → Int
def iI (z : Int) : Int32 := Int32.ofInt z
theorem iI_def (z : Int) : Int32.ofInt z = iI z := rfl
theorem iI_toInt {a : Int} (h : -2147483648 ≤ a ∧ a < 2147483648) : (iI a).toInt = a := by
  unfold iI
  rw [Int32.toInt_ofInt]
  show a.bmod (2 ^ 32) = a
  exact Int.bmod_eq_of_le (by omega) (by omega)
theorem iI_of (x : Int32) : iI x.toInt = x := Int32.ofInt_toInt x
theorem iI_rng (x : Int32) : -2147483648 ≤ x.toInt ∧ x.toInt < 2147483648 := by
  have h1 := Int32.le_toInt x
  have h2 := Int32.toInt_lt x
  omega
theorem iI_add (a b : Int) : iI a + iI b = iI (a + b) := (Int32.ofInt_add a b).symm
theorem iI_sub (a b : Int) : iI a - iI b = iI (a - b) := (Int32.ofInt_sub a b).symm
theorem iI_mul (a b : Int) : iI a * iI b = iI (a * b) := (Int32.ofInt_mul a b).symm
theorem iI_lt {a b : Int} (ha : -2147483648 ≤ a ∧ a < 2147483648) (hb : -2147483648 ≤ b ∧ b < 2147483648) : iI a < iI b ↔ a < b := by
  rw [Int32.lt_iff_toInt_lt, iI_toInt ha, iI_toInt hb]
theorem iI_le {a b : Int} (ha : -2147483648 ≤ a ∧ a < 2147483648) (hb : -2147483648 ≤ b ∧ b < 2147483648) : iI a ≤ iI b ↔ a ≤ b := by
  rw [Int32.le_iff_toInt_le, iI_toInt ha, iI_toInt hb]
theorem iI_eq {a b : Int} (ha : -2147483648 ≤ a ∧ a < 2147483648) (hb : -2147483648 ≤ b ∧ b < 2147483648) : iI a = iI b ↔ a = b := by
  rw [← Int32.toInt_inj, iI_toInt ha, iI_toInt hb]
theorem iI_0 : iI 0 = 0 := rfl
theorem iI_clamp {a : Int} (h0 : 0 ≤ a) (h1 : a < 2147483648) : (iI a).toNatClampNeg = a.toNat := by
  show (iI a).toInt.toNat = a.toNat
  rw [iI_toInt ⟨by omega, h1⟩]
theorem iI_in {a : Int} {n : Nat} (h0 : 0 ≤ a) (h1 : a < (n : Int)) (hn : n < 2147483648) : vp_in (iI a) n := by
  unfold vp_in
  rw [iI_clamp h0 (by omega), Int32.lt_iff_toInt_lt, iI_toInt (by omega), Int32.toInt_zero]
  omega
theorem iI_div {a b : Int} (ha : 0 ≤ a ∧ a < 2147483648) (hb : 0 < b ∧ b < 2147483648) : iI a / iI b = iI (a / b) := by
  have e1 := iI_toInt (a := a) (by omega)
  have e2 := iI_toInt (a := b) (by omega)
  apply Int32.toInt_inj.mp
  have h3 : 0 ≤ a / b := Int.ediv_nonneg ha.1 (by omega)
  have h4 : a / b ≤ a := Int.ediv_le_self b ha.1
  rw [lg_idiv_nonneg (by rw [e1]; omega) (by rw [e2]; omega), e1, e2, iI_toInt (by omega)]
theorem iI_rem {a b : Int} (ha : 0 ≤ a ∧ a < 2147483648) (hb : 0 < b ∧ b < 2147483648) : iI a - iI a / iI b * iI b = iI (a % b) := by
  rw [iI_div ha hb, iI_mul, iI_sub]
  congr 1
  have := Int.emod_def a b
  rw [this, Int.mul_comm]
theorem iI_ne0 {a : Int} (h : -2147483648 ≤ a ∧ a < 2147483648) (h0 : a ≠ 0) : ¬ iI a = 0 := by
  rw [← iI_0, iI_eq h (by omega)]
  exact h0
theorem iI_b {z : Int} (h : -128 ≤ z ∧ z < 128) : (iI z).toInt8.toInt32 = iI z := by
  apply Int32.toInt_inj.1
  rw [Int8.toInt_toInt32, Int32.toInt_toInt8, iI_toInt (by omega), Int.bmod_eq_of_le (by omega) (by omega)]
theorem iI_bip {n : Int} (h : -128 ≤ n ∧ n < 128) : (Int8.ofInt n).toInt32 = iI n := by
  apply Int32.toInt_inj.1
  rw [Int8.toInt_toInt32, Int8.toInt_ofInt, iI_toInt (by omega)]
  show n.bmod (2 ^ 8) = n
  exact Int.bmod_eq_of_le (by omega) (by omega)
theorem iI_sip {n : Int} (h : -32768 ≤ n ∧ n < 32768) : (Int16.ofInt n).toInt32 = iI n := by
  apply Int32.toInt_inj.1
  rw [Int16.toInt_toInt32, Int16.toInt_ofInt, iI_toInt (by omega)]
  show n.bmod (2 ^ 16) = n
  exact Int.bmod_eq_of_le (by omega) (by omega)
theorem iI_nb {z : Int} (h : -128 ≤ z ∧ z < 128) : vp_nar .byte (iI z) = iI z := by
  rw [vp_nar_byte, iI_b h]
theorem iI_nz {z : Int} (h : 0 ≤ z ∧ z ≤ 1) : narrow .boolean (.int (iI z)) = .int (iI z) := by
  rcases (show z = 0 ∨ z = 1 by omega) with rfl | rfl <;> rfl
theorem iI_vz {z : Int} (h : 0 ≤ z ∧ z ≤ 1) : vp_nar .boolean (iI z) = iI z := by
  unfold vp_nar
  rw [iI_nz h]
theorem iI_fz {z : Int} (h : 0 ≤ z ∧ z ≤ 1) : fits .boolean (.int (iI z)) = true := by
  rcases (show z = 0 ∨ z = 1 by omega) with rfl | rfl <;> rfl
theorem iI_min {a b : Int} (ha : -2147483648 ≤ a ∧ a < 2147483648) (hb : -2147483648 ≤ b ∧ b < 2147483648) : (if iI b < iI a then iI b else iI a) = iI (min a b) := by
  by_cases h : b < a
  · rw [if_pos ((iI_lt hb ha).mpr h), Int.min_eq_right (by omega)]
  · rw [if_neg (fun q => h ((iI_lt hb ha).mp q)), Int.min_eq_left (by omega)]
def up2 (σ : Sg) (c i : Nat) (v : Int) : Sg := fun c' => if c' = c then (fun i' => if i' = i then v else σ c i') else σ c'
theorem up2_same (σ : Sg) (c i : Nat) (v : Int) : up2 σ c i v c i = v := by simp [up2]
theorem up2_cell (σ : Sg) {c c' : Nat} (i : Nat) (v : Int) (h : c' ≠ c) : up2 σ c i v c' = σ c' := by simp [up2, h]
theorem up2_slot (σ : Sg) {c i i' : Nat} (v : Int) (h : i' ≠ i) : up2 σ c i v c i' = σ c i' := by simp [up2, h]
theorem up2_at (σ : Sg) (c i : Nat) (v : Int) (c' i' : Nat) : up2 σ c i v c' i' = if c' = c ∧ i' = i then v else σ c' i' := by
  unfold up2
  by_cases h1 : c' = c
  · subst h1
    by_cases h2 : i' = i <;> simp [h2]
  · simp [h1]
theorem up2_row (σ : Sg) (c i : Nat) (v : Int) : up2 σ c i v c = fun i' => if i' = i then v else σ c i' := by simp [up2]
