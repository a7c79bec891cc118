/-! The cells of the class (0 to 27, 57 and on), of the reference (28 to 55), of the law (56), each by its number; what a cell holds is read off its row of numbers. -/
/-- the cell of a Rule by the number that stands for it -/
def rc (r : Int) : Nat := if r = 0 then 18 else 23
abbrev isPl (c : Nat) : Prop := 57 ≤ c ∧ c < 439 ∧ c % 2 = 1
abbrev isNm (c : Nat) : Prop := 57 ≤ c ∧ c < 439 ∧ c % 2 = 0
abbrev isPd (c : Nat) : Prop := 439 ≤ c ∧ c < 479
def fs_0 (ad : Nat → Nat) (row : Nat → Int) : List Value := [.ref (ad (1)), .ref (ad (57)), .ref (ad (3)), .ref (ad (7)), .ref (ad (9)), .ref (ad (13)), .ref (ad (rc (row 6))), .ref (ad (rc (row 7))), .int (iI (row 8)), .int (iI (row 9)), .int (iI (row 10))]
def fs_1 (ad : Nat → Nat) (row : Nat → Int) : List Value := [.ref (ad (2)), .int (iI (row 1))]
def fs_3 (ad : Nat → Nat) (row : Nat → Int) : List Value := [.ref (ad (4)), .ref (ad (5)), .ref (ad (6)), .int (iI (row 3)), .int (iI (row 4)), .int (iI (row 5))]
def fs_7 (ad : Nat → Nat) (row : Nat → Int) : List Value := [.ref (ad (8)), .int (iI (row 1))]
def fs_9 (ad : Nat → Nat) (row : Nat → Int) : List Value := [.ref (ad (10)), .ref (ad (11)), .ref (ad (12))]
def fs_13 (ad : Nat → Nat) (row : Nat → Int) : List Value := [.ref (ad (14)), .ref (ad (15)), .ref (ad (16)), .ref (ad (17)), .int (iI (row 4)), .int (iI (row 5)), .int (iI (row 6)), .int (iI (row 7)), .int (iI (row 8))]
def fs_18 (ad : Nat → Nat) (row : Nat → Int) : List Value := [.ref (ad (19)), .ref (ad (20)), .ref (ad (21)), .ref (ad (22)), .int (iI (row 4)), .int (iI (row 5)), .int (iI (row 6)), .int (iI (row 7))]
def fs_23 (ad : Nat → Nat) (row : Nat → Int) : List Value := [.ref (ad (24)), .ref (ad (25)), .ref (ad (26)), .ref (ad (27)), .int (iI (row 4)), .int (iI (row 5)), .int (iI (row 6)), .int (iI (row 7))]
def fs_28 (ad : Nat → Nat) (row : Nat → Int) : List Value := [.int (iI (row 0)), .ref (ad (29)), .ref (ad (30)), .ref (ad (31)), .int (iI (row 4)), .int (iI (row 5)), .ref (ad (32)), .int (iI (row 7)), .ref (ad (33)), .int (iI (row 9)), .int (iI (row 10)), .int (iI (row 11)), .ref (ad (34)), .ref (ad (35)), .ref (ad (36)), .int (iI (row 15)), .int (iI (row 16)), .ref (ad (37)), .ref (ad (38)), .ref (ad (39)), .int (iI (row 20)), .int (iI (row 21)), .int (iI (row 22)), .ref (ad (40)), .ref (ad (41)), .int (iI (row 25)), .int (iI (row 26)), .ref (ad (42)), .ref (ad (43)), .ref (ad (44)), .ref (ad (45)), .ref (ad (46)), .ref (ad (47)), .int (iI (row 33)), .int (iI (row 34)), .int (iI (row 35)), .ref (ad (48)), .ref (ad (49)), .ref (ad (50)), .ref (ad (51)), .ref (ad (52)), .ref (ad (53)), .ref (ad (54)), .ref (ad (55))]
def fs_Pl (ad : Nat → Nat) (c : Nat) (row : Nat → Int) : List Value := [.ref (ad (c + 1)), .int (iI (row 1)), .int (iI (row 2))]
def fs_Pd (ad : Nat → Nat) (c : Nat) (row : Nat → Int) : List Value := [.ref (ad (199 + 6 * (c - 439))), .ref (ad (201 + 6 * (c - 439))), .ref (ad (203 + 6 * (c - 439))), .int (iI (row 3)), .int (iI (row 4)), .int (iI (row 5)), .int (iI (row 6)), .int (iI (row 7)), .int (iI (row 8)), .int (iI (row 9)), .int (iI (row 10)), .int (iI (row 11))]
def celv (cy : Nat → ClassId) (ad : Nat → Nat) (row : Nat → Int) (c : Nat) : va_E :=
  if 439 ≤ c then .inr (4, fs_Pd ad c row) else if 57 ≤ c then (if c % 2 = 1 then .inr (2, fs_Pl ad c row) else .inl (cy 0, 12, .inl (fun j => iI (row j)))) else match c with
  | 0 => .inr (8, fs_0 ad row)
  | 1 => .inr (7, fs_1 ad row)
  | 2 => .inl (cy 0, 80, .inl (fun j => iI (row j)))
  | 3 => .inr (6, fs_3 ad row)
  | 4 => .inl (cy 3, 40, .inr (.inr (.inr (.inr (fun i => some (ad (59 + 2 * i)))))))
  | 5 => .inl (cy 2, 40, .inl (fun j => iI (row j)))
  | 6 => .inl (cy 0, 40, .inl (fun j => iI (row j)))
  | 7 => .inr (1, fs_7 ad row)
  | 8 => .inl (cy 3, 30, .inr (.inr (.inr (.inr (fun i => some (ad (139 + 2 * i)))))))
  | 9 => .inr (0, fs_9 ad row)
  | 10 => .inl (cy 2, 169, .inl (fun j => iI (row j)))
  | 11 => .inl (cy 0, 12, .inl (fun j => iI (row j)))
  | 12 => .inl (cy 0, 12, .inl (fun j => iI (row j)))
  | 13 => .inr (3, fs_13 ad row)
  | 14 => .inl (cy 4, 40, .inr (.inr (.inr (.inr (fun i => some (ad (439 + i)))))))
  | 15 => .inl (cy 0, 80, .inl (fun j => iI (row j)))
  | 16 => .inl (cy 2, 80, .inl (fun j => iI (row j)))
  | 17 => .inl (cy 2, 80, .inl (fun j => iI (row j)))
  | 18 => .inr (5, fs_18 ad row)
  | 19 => .inl (cy 0, 12, .inl (fun j => iI (row j)))
  | 20 => .inl (cy 0, 12, .inl (fun j => iI (row j)))
  | 21 => .inl (cy 0, 12, .inl (fun j => iI (row j)))
  | 22 => .inl (cy 0, 12, .inl (fun j => iI (row j)))
  | 23 => .inr (5, fs_23 ad row)
  | 24 => .inl (cy 0, 12, .inl (fun j => iI (row j)))
  | 25 => .inl (cy 0, 12, .inl (fun j => iI (row j)))
  | 26 => .inl (cy 0, 12, .inl (fun j => iI (row j)))
  | 27 => .inl (cy 0, 12, .inl (fun j => iI (row j)))
  | 28 => .inr (9, fs_28 ad row)
  | 29 => .inl (cy 1, 1920, .inl (fun j => iI (row j)))
  | 30 => .inl (cy 0, 160, .inl (fun j => iI (row j)))
  | 31 => .inl (cy 0, 160, .inl (fun j => iI (row j)))
  | 32 => .inl (cy 2, 40, .inl (fun j => iI (row j)))
  | 33 => .inl (cy 1, 80, .inl (fun j => iI (row j)))
  | 34 => .inl (cy 0, 12, .inl (fun j => iI (row j)))
  | 35 => .inl (cy 0, 12, .inl (fun j => iI (row j)))
  | 36 => .inl (cy 0, 12, .inl (fun j => iI (row j)))
  | 37 => .inl (cy 0, 12, .inl (fun j => iI (row j)))
  | 38 => .inl (cy 0, 12, .inl (fun j => iI (row j)))
  | 39 => .inl (cy 0, 12, .inl (fun j => iI (row j)))
  | 40 => .inl (cy 0, 12, .inl (fun j => iI (row j)))
  | 41 => .inl (cy 2, 169, .inl (fun j => iI (row j)))
  | 42 => .inl (cy 0, 40, .inl (fun j => iI (row j)))
  | 43 => .inl (cy 0, 40, .inl (fun j => iI (row j)))
  | 44 => .inl (cy 0, 40, .inl (fun j => iI (row j)))
  | 45 => .inl (cy 0, 40, .inl (fun j => iI (row j)))
  | 46 => .inl (cy 0, 40, .inl (fun j => iI (row j)))
  | 47 => .inl (cy 2, 40, .inl (fun j => iI (row j)))
  | 48 => .inl (cy 0, 80, .inl (fun j => iI (row j)))
  | 49 => .inl (cy 2, 80, .inl (fun j => iI (row j)))
  | 50 => .inl (cy 2, 80, .inl (fun j => iI (row j)))
  | 51 => .inl (cy 1, 1920, .inl (fun j => iI (row j)))
  | 52 => .inl (cy 0, 160, .inl (fun j => iI (row j)))
  | 53 => .inl (cy 0, 160, .inl (fun j => iI (row j)))
  | 54 => .inl (cy 2, 40, .inl (fun j => iI (row j)))
  | 55 => .inl (cy 2, 40, .inl (fun j => iI (row j)))
  | _ => .inl (cy 5, 1, .inr (.inl (fun j => Int64.ofInt (row j))))
section CEL
variable (cy : Nat → ClassId) (ad : Nat → Nat)
theorem cel_0 : ∀ row, celv cy ad row 0 = .inr (8, fs_0 ad row) := fun _ => rfl
theorem cel_1 : ∀ row, celv cy ad row 1 = .inr (7, fs_1 ad row) := fun _ => rfl
theorem cel_2 : ∀ row, celv cy ad row 2 = .inl (cy 0, 80, .inl (fun j => iI (row j))) := fun _ => rfl
theorem cel_3 : ∀ row, celv cy ad row 3 = .inr (6, fs_3 ad row) := fun _ => rfl
theorem cel_4 : ∀ row, celv cy ad row 4 = .inl (cy 3, 40, .inr (.inr (.inr (.inr (fun i => some (ad (59 + 2 * i))))))) := fun _ => rfl
theorem cel_5 : ∀ row, celv cy ad row 5 = .inl (cy 2, 40, .inl (fun j => iI (row j))) := fun _ => rfl
theorem cel_6 : ∀ row, celv cy ad row 6 = .inl (cy 0, 40, .inl (fun j => iI (row j))) := fun _ => rfl
theorem cel_7 : ∀ row, celv cy ad row 7 = .inr (1, fs_7 ad row) := fun _ => rfl
theorem cel_8 : ∀ row, celv cy ad row 8 = .inl (cy 3, 30, .inr (.inr (.inr (.inr (fun i => some (ad (139 + 2 * i))))))) := fun _ => rfl
theorem cel_9 : ∀ row, celv cy ad row 9 = .inr (0, fs_9 ad row) := fun _ => rfl
theorem cel_10 : ∀ row, celv cy ad row 10 = .inl (cy 2, 169, .inl (fun j => iI (row j))) := fun _ => rfl
theorem cel_11 : ∀ row, celv cy ad row 11 = .inl (cy 0, 12, .inl (fun j => iI (row j))) := fun _ => rfl
theorem cel_12 : ∀ row, celv cy ad row 12 = .inl (cy 0, 12, .inl (fun j => iI (row j))) := fun _ => rfl
theorem cel_13 : ∀ row, celv cy ad row 13 = .inr (3, fs_13 ad row) := fun _ => rfl
theorem cel_14 : ∀ row, celv cy ad row 14 = .inl (cy 4, 40, .inr (.inr (.inr (.inr (fun i => some (ad (439 + i))))))) := fun _ => rfl
theorem cel_15 : ∀ row, celv cy ad row 15 = .inl (cy 0, 80, .inl (fun j => iI (row j))) := fun _ => rfl
theorem cel_16 : ∀ row, celv cy ad row 16 = .inl (cy 2, 80, .inl (fun j => iI (row j))) := fun _ => rfl
theorem cel_17 : ∀ row, celv cy ad row 17 = .inl (cy 2, 80, .inl (fun j => iI (row j))) := fun _ => rfl
theorem cel_18 : ∀ row, celv cy ad row 18 = .inr (5, fs_18 ad row) := fun _ => rfl
theorem cel_19 : ∀ row, celv cy ad row 19 = .inl (cy 0, 12, .inl (fun j => iI (row j))) := fun _ => rfl
theorem cel_20 : ∀ row, celv cy ad row 20 = .inl (cy 0, 12, .inl (fun j => iI (row j))) := fun _ => rfl
theorem cel_21 : ∀ row, celv cy ad row 21 = .inl (cy 0, 12, .inl (fun j => iI (row j))) := fun _ => rfl
theorem cel_22 : ∀ row, celv cy ad row 22 = .inl (cy 0, 12, .inl (fun j => iI (row j))) := fun _ => rfl
theorem cel_23 : ∀ row, celv cy ad row 23 = .inr (5, fs_23 ad row) := fun _ => rfl
theorem cel_24 : ∀ row, celv cy ad row 24 = .inl (cy 0, 12, .inl (fun j => iI (row j))) := fun _ => rfl
theorem cel_25 : ∀ row, celv cy ad row 25 = .inl (cy 0, 12, .inl (fun j => iI (row j))) := fun _ => rfl
theorem cel_26 : ∀ row, celv cy ad row 26 = .inl (cy 0, 12, .inl (fun j => iI (row j))) := fun _ => rfl
theorem cel_27 : ∀ row, celv cy ad row 27 = .inl (cy 0, 12, .inl (fun j => iI (row j))) := fun _ => rfl
theorem cel_28 : ∀ row, celv cy ad row 28 = .inr (9, fs_28 ad row) := fun _ => rfl
theorem cel_29 : ∀ row, celv cy ad row 29 = .inl (cy 1, 1920, .inl (fun j => iI (row j))) := fun _ => rfl
theorem cel_30 : ∀ row, celv cy ad row 30 = .inl (cy 0, 160, .inl (fun j => iI (row j))) := fun _ => rfl
theorem cel_31 : ∀ row, celv cy ad row 31 = .inl (cy 0, 160, .inl (fun j => iI (row j))) := fun _ => rfl
theorem cel_32 : ∀ row, celv cy ad row 32 = .inl (cy 2, 40, .inl (fun j => iI (row j))) := fun _ => rfl
theorem cel_33 : ∀ row, celv cy ad row 33 = .inl (cy 1, 80, .inl (fun j => iI (row j))) := fun _ => rfl
theorem cel_34 : ∀ row, celv cy ad row 34 = .inl (cy 0, 12, .inl (fun j => iI (row j))) := fun _ => rfl
theorem cel_35 : ∀ row, celv cy ad row 35 = .inl (cy 0, 12, .inl (fun j => iI (row j))) := fun _ => rfl
theorem cel_36 : ∀ row, celv cy ad row 36 = .inl (cy 0, 12, .inl (fun j => iI (row j))) := fun _ => rfl
theorem cel_37 : ∀ row, celv cy ad row 37 = .inl (cy 0, 12, .inl (fun j => iI (row j))) := fun _ => rfl
theorem cel_38 : ∀ row, celv cy ad row 38 = .inl (cy 0, 12, .inl (fun j => iI (row j))) := fun _ => rfl
theorem cel_39 : ∀ row, celv cy ad row 39 = .inl (cy 0, 12, .inl (fun j => iI (row j))) := fun _ => rfl
theorem cel_40 : ∀ row, celv cy ad row 40 = .inl (cy 0, 12, .inl (fun j => iI (row j))) := fun _ => rfl
theorem cel_41 : ∀ row, celv cy ad row 41 = .inl (cy 2, 169, .inl (fun j => iI (row j))) := fun _ => rfl
theorem cel_42 : ∀ row, celv cy ad row 42 = .inl (cy 0, 40, .inl (fun j => iI (row j))) := fun _ => rfl
theorem cel_43 : ∀ row, celv cy ad row 43 = .inl (cy 0, 40, .inl (fun j => iI (row j))) := fun _ => rfl
theorem cel_44 : ∀ row, celv cy ad row 44 = .inl (cy 0, 40, .inl (fun j => iI (row j))) := fun _ => rfl
theorem cel_45 : ∀ row, celv cy ad row 45 = .inl (cy 0, 40, .inl (fun j => iI (row j))) := fun _ => rfl
theorem cel_46 : ∀ row, celv cy ad row 46 = .inl (cy 0, 40, .inl (fun j => iI (row j))) := fun _ => rfl
theorem cel_47 : ∀ row, celv cy ad row 47 = .inl (cy 2, 40, .inl (fun j => iI (row j))) := fun _ => rfl
theorem cel_48 : ∀ row, celv cy ad row 48 = .inl (cy 0, 80, .inl (fun j => iI (row j))) := fun _ => rfl
theorem cel_49 : ∀ row, celv cy ad row 49 = .inl (cy 2, 80, .inl (fun j => iI (row j))) := fun _ => rfl
theorem cel_50 : ∀ row, celv cy ad row 50 = .inl (cy 2, 80, .inl (fun j => iI (row j))) := fun _ => rfl
theorem cel_51 : ∀ row, celv cy ad row 51 = .inl (cy 1, 1920, .inl (fun j => iI (row j))) := fun _ => rfl
theorem cel_52 : ∀ row, celv cy ad row 52 = .inl (cy 0, 160, .inl (fun j => iI (row j))) := fun _ => rfl
theorem cel_53 : ∀ row, celv cy ad row 53 = .inl (cy 0, 160, .inl (fun j => iI (row j))) := fun _ => rfl
theorem cel_54 : ∀ row, celv cy ad row 54 = .inl (cy 2, 40, .inl (fun j => iI (row j))) := fun _ => rfl
theorem cel_55 : ∀ row, celv cy ad row 55 = .inl (cy 2, 40, .inl (fun j => iI (row j))) := fun _ => rfl
theorem cel_56 : ∀ row, celv cy ad row 56 = .inl (cy 5, 1, .inr (.inl (fun j => Int64.ofInt (row j)))) := fun _ => rfl
theorem cel_Pl {c : Nat} (h : isPl c) : ∀ row, celv cy ad row c = .inr (2, fs_Pl ad c row) := fun row => by
  unfold celv
  rw [if_neg (by omega), if_pos h.1, if_pos h.2.2]
theorem cel_Nm {c : Nat} (h : isNm c) : ∀ row, celv cy ad row c = .inl (cy 0, 12, .inl (fun j => iI (row j))) := fun row => by
  unfold celv
  rw [if_neg (by omega), if_pos h.1, if_neg (by omega)]
theorem cel_Pd {c : Nat} (h : isPd c) : ∀ row, celv cy ad row c = .inr (4, fs_Pd ad c row) := fun row => by
  unfold celv
  rw [if_pos h.1]
theorem rc_lt (r : Int) : rc r < 479 := by unfold rc; split <;> omega
/-- the object of a Rule, and its rows, either of the two -/
def fs_Ru (ad : Nat → Nat) (c : Nat) (row : Nat → Int) : List Value := [.ref (ad (c + 1)), .ref (ad (c + 2)), .ref (ad (c + 3)), .ref (ad (c + 4)), .int (iI (row 4)), .int (iI (row 5)), .int (iI (row 6)), .int (iI (row 7))]
abbrev isRu (c : Nat) : Prop := c = 18 ∨ c = 23
theorem rc_ru (r : Int) : isRu (rc r) := by
  unfold rc
  split
  · exact Or.inl rfl
  · exact Or.inr rfl
theorem cel_Ru {c : Nat} (h : isRu c) : ∀ row, celv cy ad row c = .inr (5, fs_Ru ad c row) := fun row => by
  rcases h with rfl | rfl <;> rfl
theorem cel_Rr {c k : Nat} (h : isRu c) (hk : 1 ≤ k ∧ k ≤ 4) : ∀ row, celv cy ad row (c + k) = .inl (cy 0, 12, .inl (fun j => iI (row j))) := fun row => by
  rcases h with rfl | rfl <;> rcases (show k = 1 ∨ k = 2 ∨ k = 3 ∨ k = 4 by omega) with rfl | rfl | rfl | rfl <;> rfl
end CEL
/-- the bounds of each number of each cell -/
def bnd (c k : Nat) (v : Int) : Prop :=
  if 439 ≤ c then (match k with | 3 => (-1 : Int) ≤ v ∧ v ≤ 39 | 4 => (0 : Int) ≤ v ∧ v ≤ 5000 | 5 => (0 : Int) ≤ v ∧ v ≤ 1000 | 6 => (0 : Int) ≤ v ∧ v ≤ 1 | 7 => (0 : Int) ≤ v ∧ v ≤ 3 | 8 => (-1 : Int) ≤ v ∧ v ≤ 39 | 9 => (-1 : Int) ≤ v ∧ v ≤ 39 | 10 => (0 : Int) ≤ v ∧ v ≤ 1 | 11 => (0 : Int) ≤ v ∧ v ≤ 1 | _ => True) else if 57 ≤ c then (if c % 2 = 1 then (match k with | 1 => (0 : Int) ≤ v ∧ v ≤ 5 | 2 => (0 : Int) ≤ v ∧ v ≤ 12 | _ => True) else (-1 : Int) ≤ v ∧ v ≤ 255) else match c with
  | 0 => (match k with | 6 => (0 : Int) ≤ v ∧ v ≤ 1 | 7 => (0 : Int) ≤ v ∧ v ≤ 1 | 8 => (0 : Int) ≤ v ∧ v ≤ 1 | 9 => (-1 : Int) ≤ v ∧ v ≤ 200 | 10 => (0 : Int) ≤ v ∧ v ≤ 3 | _ => True)
  | 1 => (match k with | 1 => (0 : Int) ≤ v ∧ v ≤ 80 | _ => True)
  | 2 => (0 : Int) ≤ v ∧ v ≤ 255
  | 3 => (match k with | 3 => (0 : Int) ≤ v ∧ v ≤ 40 | 4 => (0 : Int) ≤ v ∧ v ≤ 40 | 5 => (0 : Int) ≤ v ∧ v ≤ 1 | _ => True)
  | 5 => (0 : Int) ≤ v ∧ v ≤ 1
  | 6 => (0 : Int) ≤ v ∧ v ≤ 39
  | 7 => (match k with | 1 => (0 : Int) ≤ v ∧ v ≤ 30 | _ => True)
  | 10 => (0 : Int) ≤ v ∧ v ≤ 1
  | 11 => (0 : Int) ≤ v ∧ v ≤ 12
  | 12 => (0 : Int) ≤ v ∧ v ≤ 200
  | 13 => (match k with | 4 => (0 : Int) ≤ v ∧ v ≤ 1 | 5 => (0 : Int) ≤ v ∧ v ≤ 40 | 6 => (0 : Int) ≤ v ∧ v ≤ 40 | 7 => (0 : Int) ≤ v ∧ v ≤ 80 | 8 => (0 : Int) ≤ v ∧ v ≤ 80 | _ => True)
  | 15 => (0 : Int) ≤ v ∧ v ≤ 39
  | 16 => (0 : Int) ≤ v ∧ v ≤ 1
  | 17 => (0 : Int) ≤ v ∧ v ≤ 1
  | 18 => (match k with | 4 => (0 : Int) ≤ v ∧ v ≤ 12 | 5 => (0 : Int) ≤ v ∧ v ≤ 12 | 6 => (0 : Int) ≤ v ∧ v ≤ 12 | 7 => (-1 : Int) ≤ v ∧ v ≤ 200 | _ => True)
  | 19 => (-1 : Int) ≤ v ∧ v ≤ 255
  | 20 => (0 : Int) ≤ v ∧ v ≤ 12
  | 21 => (-1 : Int) ≤ v ∧ v ≤ 255
  | 22 => (-49 : Int) ≤ v ∧ v ≤ 300
  | 23 => (match k with | 4 => (0 : Int) ≤ v ∧ v ≤ 12 | 5 => (0 : Int) ≤ v ∧ v ≤ 12 | 6 => (0 : Int) ≤ v ∧ v ≤ 12 | 7 => (-1 : Int) ≤ v ∧ v ≤ 200 | _ => True)
  | 24 => (-1 : Int) ≤ v ∧ v ≤ 255
  | 25 => (0 : Int) ≤ v ∧ v ≤ 12
  | 26 => (-1 : Int) ≤ v ∧ v ≤ 255
  | 27 => (-49 : Int) ≤ v ∧ v ≤ 300
  | 28 => (match k with | 0 => (0 : Int) ≤ v ∧ v ≤ 1 | 4 => (0 : Int) ≤ v ∧ v ≤ 1 | 5 => (0 : Int) ≤ v ∧ v ≤ 40 | 7 => (0 : Int) ≤ v ∧ v ≤ 30 | 9 => (0 : Int) ≤ v ∧ v ≤ 80 | 10 => (0 : Int) ≤ v ∧ v ≤ 12 | 11 => (0 : Int) ≤ v ∧ v ≤ 12 | 15 => (0 : Int) ≤ v ∧ v ≤ 12 | 16 => (0 : Int) ≤ v ∧ v ≤ 12 | 20 => (-1 : Int) ≤ v ∧ v ≤ 200 | 21 => (0 : Int) ≤ v ∧ v ≤ 3 | 22 => (0 : Int) ≤ v ∧ v ≤ 200 | 25 => (0 : Int) ≤ v ∧ v ≤ 1 | 26 => (0 : Int) ≤ v ∧ v ≤ 40 | 33 => (0 : Int) ≤ v ∧ v ≤ 80 | 34 => (0 : Int) ≤ v ∧ v ≤ 80 | 35 => (0 : Int) ≤ v ∧ v ≤ 3 | _ => True)
  | 29 => (-128 : Int) ≤ v ∧ v ≤ 127
  | 30 => (0 : Int) ≤ v ∧ v ≤ 12
  | 31 => (-2147483648 : Int) ≤ v ∧ v ≤ 2147483647
  | 32 => (0 : Int) ≤ v ∧ v ≤ 1
  | 33 => (-128 : Int) ≤ v ∧ v ≤ 127
  | 34 => (-128 : Int) ≤ v ∧ v ≤ 127
  | 35 => (-128 : Int) ≤ v ∧ v ≤ 127
  | 36 => (-200 : Int) ≤ v ∧ v ≤ 200
  | 37 => (-128 : Int) ≤ v ∧ v ≤ 127
  | 38 => (-128 : Int) ≤ v ∧ v ≤ 127
  | 39 => (-200 : Int) ≤ v ∧ v ≤ 200
  | 40 => (0 : Int) ≤ v ∧ v ≤ 12
  | 41 => (0 : Int) ≤ v ∧ v ≤ 1
  | 42 => (0 : Int) ≤ v ∧ v ≤ 39
  | 43 => (0 : Int) ≤ v ∧ v ≤ 5000
  | 44 => (0 : Int) ≤ v ∧ v ≤ 100000
  | 45 => (0 : Int) ≤ v ∧ v ≤ 3
  | 46 => (-1 : Int) ≤ v ∧ v ≤ 39
  | 47 => (0 : Int) ≤ v ∧ v ≤ 1
  | 48 => (0 : Int) ≤ v ∧ v ≤ 39
  | 49 => (0 : Int) ≤ v ∧ v ≤ 1
  | 50 => (0 : Int) ≤ v ∧ v ≤ 1
  | 51 => (-128 : Int) ≤ v ∧ v ≤ 127
  | 52 => (0 : Int) ≤ v ∧ v ≤ 12
  | 53 => (-2147483648 : Int) ≤ v ∧ v ≤ 2147483647
  | 54 => (0 : Int) ≤ v ∧ v ≤ 1
  | 55 => (0 : Int) ≤ v ∧ v ≤ 1
  | _ => True
def WF (σ : Sg) : Prop := ∀ c k, bnd c k (σ c k)
section BD
variable {σ : Sg}
theorem bd_0_6 (h : WF σ) : (0 : Int) ≤ σ 0 6 ∧ σ 0 6 ≤ 1 := h 0 6
theorem bw_0_6 {v : Int} (h : (0 : Int) ≤ v ∧ v ≤ 1) : bnd 0 6 v := h
theorem bd_0_7 (h : WF σ) : (0 : Int) ≤ σ 0 7 ∧ σ 0 7 ≤ 1 := h 0 7
theorem bw_0_7 {v : Int} (h : (0 : Int) ≤ v ∧ v ≤ 1) : bnd 0 7 v := h
theorem bd_0_8 (h : WF σ) : (0 : Int) ≤ σ 0 8 ∧ σ 0 8 ≤ 1 := h 0 8
theorem bw_0_8 {v : Int} (h : (0 : Int) ≤ v ∧ v ≤ 1) : bnd 0 8 v := h
theorem bd_0_9 (h : WF σ) : (-1 : Int) ≤ σ 0 9 ∧ σ 0 9 ≤ 200 := h 0 9
theorem bw_0_9 {v : Int} (h : (-1 : Int) ≤ v ∧ v ≤ 200) : bnd 0 9 v := h
theorem bd_0_10 (h : WF σ) : (0 : Int) ≤ σ 0 10 ∧ σ 0 10 ≤ 3 := h 0 10
theorem bw_0_10 {v : Int} (h : (0 : Int) ≤ v ∧ v ≤ 3) : bnd 0 10 v := h
theorem bd_1_1 (h : WF σ) : (0 : Int) ≤ σ 1 1 ∧ σ 1 1 ≤ 80 := h 1 1
theorem bw_1_1 {v : Int} (h : (0 : Int) ≤ v ∧ v ≤ 80) : bnd 1 1 v := h
theorem bd_2 (h : WF σ) (i : Nat) : (0 : Int) ≤ σ 2 i ∧ σ 2 i ≤ 255 := h 2 i
theorem bw_2 {v : Int} {i : Nat} (h : (0 : Int) ≤ v ∧ v ≤ 255) : bnd 2 i v := h
theorem bd_3_3 (h : WF σ) : (0 : Int) ≤ σ 3 3 ∧ σ 3 3 ≤ 40 := h 3 3
theorem bw_3_3 {v : Int} (h : (0 : Int) ≤ v ∧ v ≤ 40) : bnd 3 3 v := h
theorem bd_3_4 (h : WF σ) : (0 : Int) ≤ σ 3 4 ∧ σ 3 4 ≤ 40 := h 3 4
theorem bw_3_4 {v : Int} (h : (0 : Int) ≤ v ∧ v ≤ 40) : bnd 3 4 v := h
theorem bd_3_5 (h : WF σ) : (0 : Int) ≤ σ 3 5 ∧ σ 3 5 ≤ 1 := h 3 5
theorem bw_3_5 {v : Int} (h : (0 : Int) ≤ v ∧ v ≤ 1) : bnd 3 5 v := h
theorem bd_5 (h : WF σ) (i : Nat) : (0 : Int) ≤ σ 5 i ∧ σ 5 i ≤ 1 := h 5 i
theorem bw_5 {v : Int} {i : Nat} (h : (0 : Int) ≤ v ∧ v ≤ 1) : bnd 5 i v := h
theorem bd_6 (h : WF σ) (i : Nat) : (0 : Int) ≤ σ 6 i ∧ σ 6 i ≤ 39 := h 6 i
theorem bw_6 {v : Int} {i : Nat} (h : (0 : Int) ≤ v ∧ v ≤ 39) : bnd 6 i v := h
theorem bd_7_1 (h : WF σ) : (0 : Int) ≤ σ 7 1 ∧ σ 7 1 ≤ 30 := h 7 1
theorem bw_7_1 {v : Int} (h : (0 : Int) ≤ v ∧ v ≤ 30) : bnd 7 1 v := h
theorem bd_10 (h : WF σ) (i : Nat) : (0 : Int) ≤ σ 10 i ∧ σ 10 i ≤ 1 := h 10 i
theorem bw_10 {v : Int} {i : Nat} (h : (0 : Int) ≤ v ∧ v ≤ 1) : bnd 10 i v := h
theorem bd_11 (h : WF σ) (i : Nat) : (0 : Int) ≤ σ 11 i ∧ σ 11 i ≤ 12 := h 11 i
theorem bw_11 {v : Int} {i : Nat} (h : (0 : Int) ≤ v ∧ v ≤ 12) : bnd 11 i v := h
theorem bd_12 (h : WF σ) (i : Nat) : (0 : Int) ≤ σ 12 i ∧ σ 12 i ≤ 200 := h 12 i
theorem bw_12 {v : Int} {i : Nat} (h : (0 : Int) ≤ v ∧ v ≤ 200) : bnd 12 i v := h
theorem bd_13_4 (h : WF σ) : (0 : Int) ≤ σ 13 4 ∧ σ 13 4 ≤ 1 := h 13 4
theorem bw_13_4 {v : Int} (h : (0 : Int) ≤ v ∧ v ≤ 1) : bnd 13 4 v := h
theorem bd_13_5 (h : WF σ) : (0 : Int) ≤ σ 13 5 ∧ σ 13 5 ≤ 40 := h 13 5
theorem bw_13_5 {v : Int} (h : (0 : Int) ≤ v ∧ v ≤ 40) : bnd 13 5 v := h
theorem bd_13_6 (h : WF σ) : (0 : Int) ≤ σ 13 6 ∧ σ 13 6 ≤ 40 := h 13 6
theorem bw_13_6 {v : Int} (h : (0 : Int) ≤ v ∧ v ≤ 40) : bnd 13 6 v := h
theorem bd_13_7 (h : WF σ) : (0 : Int) ≤ σ 13 7 ∧ σ 13 7 ≤ 80 := h 13 7
theorem bw_13_7 {v : Int} (h : (0 : Int) ≤ v ∧ v ≤ 80) : bnd 13 7 v := h
theorem bd_13_8 (h : WF σ) : (0 : Int) ≤ σ 13 8 ∧ σ 13 8 ≤ 80 := h 13 8
theorem bw_13_8 {v : Int} (h : (0 : Int) ≤ v ∧ v ≤ 80) : bnd 13 8 v := h
theorem bd_15 (h : WF σ) (i : Nat) : (0 : Int) ≤ σ 15 i ∧ σ 15 i ≤ 39 := h 15 i
theorem bw_15 {v : Int} {i : Nat} (h : (0 : Int) ≤ v ∧ v ≤ 39) : bnd 15 i v := h
theorem bd_16 (h : WF σ) (i : Nat) : (0 : Int) ≤ σ 16 i ∧ σ 16 i ≤ 1 := h 16 i
theorem bw_16 {v : Int} {i : Nat} (h : (0 : Int) ≤ v ∧ v ≤ 1) : bnd 16 i v := h
theorem bd_17 (h : WF σ) (i : Nat) : (0 : Int) ≤ σ 17 i ∧ σ 17 i ≤ 1 := h 17 i
theorem bw_17 {v : Int} {i : Nat} (h : (0 : Int) ≤ v ∧ v ≤ 1) : bnd 17 i v := h
theorem bd_18_4 (h : WF σ) : (0 : Int) ≤ σ 18 4 ∧ σ 18 4 ≤ 12 := h 18 4
theorem bw_18_4 {v : Int} (h : (0 : Int) ≤ v ∧ v ≤ 12) : bnd 18 4 v := h
theorem bd_18_5 (h : WF σ) : (0 : Int) ≤ σ 18 5 ∧ σ 18 5 ≤ 12 := h 18 5
theorem bw_18_5 {v : Int} (h : (0 : Int) ≤ v ∧ v ≤ 12) : bnd 18 5 v := h
theorem bd_18_6 (h : WF σ) : (0 : Int) ≤ σ 18 6 ∧ σ 18 6 ≤ 12 := h 18 6
theorem bw_18_6 {v : Int} (h : (0 : Int) ≤ v ∧ v ≤ 12) : bnd 18 6 v := h
theorem bd_18_7 (h : WF σ) : (-1 : Int) ≤ σ 18 7 ∧ σ 18 7 ≤ 200 := h 18 7
theorem bw_18_7 {v : Int} (h : (-1 : Int) ≤ v ∧ v ≤ 200) : bnd 18 7 v := h
theorem bd_19 (h : WF σ) (i : Nat) : (-1 : Int) ≤ σ 19 i ∧ σ 19 i ≤ 255 := h 19 i
theorem bw_19 {v : Int} {i : Nat} (h : (-1 : Int) ≤ v ∧ v ≤ 255) : bnd 19 i v := h
theorem bd_20 (h : WF σ) (i : Nat) : (0 : Int) ≤ σ 20 i ∧ σ 20 i ≤ 12 := h 20 i
theorem bw_20 {v : Int} {i : Nat} (h : (0 : Int) ≤ v ∧ v ≤ 12) : bnd 20 i v := h
theorem bd_21 (h : WF σ) (i : Nat) : (-1 : Int) ≤ σ 21 i ∧ σ 21 i ≤ 255 := h 21 i
theorem bw_21 {v : Int} {i : Nat} (h : (-1 : Int) ≤ v ∧ v ≤ 255) : bnd 21 i v := h
theorem bd_22 (h : WF σ) (i : Nat) : (-49 : Int) ≤ σ 22 i ∧ σ 22 i ≤ 300 := h 22 i
theorem bw_22 {v : Int} {i : Nat} (h : (-49 : Int) ≤ v ∧ v ≤ 300) : bnd 22 i v := h
theorem bd_23_4 (h : WF σ) : (0 : Int) ≤ σ 23 4 ∧ σ 23 4 ≤ 12 := h 23 4
theorem bw_23_4 {v : Int} (h : (0 : Int) ≤ v ∧ v ≤ 12) : bnd 23 4 v := h
theorem bd_23_5 (h : WF σ) : (0 : Int) ≤ σ 23 5 ∧ σ 23 5 ≤ 12 := h 23 5
theorem bw_23_5 {v : Int} (h : (0 : Int) ≤ v ∧ v ≤ 12) : bnd 23 5 v := h
theorem bd_23_6 (h : WF σ) : (0 : Int) ≤ σ 23 6 ∧ σ 23 6 ≤ 12 := h 23 6
theorem bw_23_6 {v : Int} (h : (0 : Int) ≤ v ∧ v ≤ 12) : bnd 23 6 v := h
theorem bd_23_7 (h : WF σ) : (-1 : Int) ≤ σ 23 7 ∧ σ 23 7 ≤ 200 := h 23 7
theorem bw_23_7 {v : Int} (h : (-1 : Int) ≤ v ∧ v ≤ 200) : bnd 23 7 v := h
theorem bd_24 (h : WF σ) (i : Nat) : (-1 : Int) ≤ σ 24 i ∧ σ 24 i ≤ 255 := h 24 i
theorem bw_24 {v : Int} {i : Nat} (h : (-1 : Int) ≤ v ∧ v ≤ 255) : bnd 24 i v := h
theorem bd_25 (h : WF σ) (i : Nat) : (0 : Int) ≤ σ 25 i ∧ σ 25 i ≤ 12 := h 25 i
theorem bw_25 {v : Int} {i : Nat} (h : (0 : Int) ≤ v ∧ v ≤ 12) : bnd 25 i v := h
theorem bd_26 (h : WF σ) (i : Nat) : (-1 : Int) ≤ σ 26 i ∧ σ 26 i ≤ 255 := h 26 i
theorem bw_26 {v : Int} {i : Nat} (h : (-1 : Int) ≤ v ∧ v ≤ 255) : bnd 26 i v := h
theorem bd_27 (h : WF σ) (i : Nat) : (-49 : Int) ≤ σ 27 i ∧ σ 27 i ≤ 300 := h 27 i
theorem bw_27 {v : Int} {i : Nat} (h : (-49 : Int) ≤ v ∧ v ≤ 300) : bnd 27 i v := h
theorem bd_28_0 (h : WF σ) : (0 : Int) ≤ σ 28 0 ∧ σ 28 0 ≤ 1 := h 28 0
theorem bw_28_0 {v : Int} (h : (0 : Int) ≤ v ∧ v ≤ 1) : bnd 28 0 v := h
theorem bd_28_4 (h : WF σ) : (0 : Int) ≤ σ 28 4 ∧ σ 28 4 ≤ 1 := h 28 4
theorem bw_28_4 {v : Int} (h : (0 : Int) ≤ v ∧ v ≤ 1) : bnd 28 4 v := h
theorem bd_28_5 (h : WF σ) : (0 : Int) ≤ σ 28 5 ∧ σ 28 5 ≤ 40 := h 28 5
theorem bw_28_5 {v : Int} (h : (0 : Int) ≤ v ∧ v ≤ 40) : bnd 28 5 v := h
theorem bd_28_7 (h : WF σ) : (0 : Int) ≤ σ 28 7 ∧ σ 28 7 ≤ 30 := h 28 7
theorem bw_28_7 {v : Int} (h : (0 : Int) ≤ v ∧ v ≤ 30) : bnd 28 7 v := h
theorem bd_28_9 (h : WF σ) : (0 : Int) ≤ σ 28 9 ∧ σ 28 9 ≤ 80 := h 28 9
theorem bw_28_9 {v : Int} (h : (0 : Int) ≤ v ∧ v ≤ 80) : bnd 28 9 v := h
theorem bd_28_10 (h : WF σ) : (0 : Int) ≤ σ 28 10 ∧ σ 28 10 ≤ 12 := h 28 10
theorem bw_28_10 {v : Int} (h : (0 : Int) ≤ v ∧ v ≤ 12) : bnd 28 10 v := h
theorem bd_28_11 (h : WF σ) : (0 : Int) ≤ σ 28 11 ∧ σ 28 11 ≤ 12 := h 28 11
theorem bw_28_11 {v : Int} (h : (0 : Int) ≤ v ∧ v ≤ 12) : bnd 28 11 v := h
theorem bd_28_15 (h : WF σ) : (0 : Int) ≤ σ 28 15 ∧ σ 28 15 ≤ 12 := h 28 15
theorem bw_28_15 {v : Int} (h : (0 : Int) ≤ v ∧ v ≤ 12) : bnd 28 15 v := h
theorem bd_28_16 (h : WF σ) : (0 : Int) ≤ σ 28 16 ∧ σ 28 16 ≤ 12 := h 28 16
theorem bw_28_16 {v : Int} (h : (0 : Int) ≤ v ∧ v ≤ 12) : bnd 28 16 v := h
theorem bd_28_20 (h : WF σ) : (-1 : Int) ≤ σ 28 20 ∧ σ 28 20 ≤ 200 := h 28 20
theorem bw_28_20 {v : Int} (h : (-1 : Int) ≤ v ∧ v ≤ 200) : bnd 28 20 v := h
theorem bd_28_21 (h : WF σ) : (0 : Int) ≤ σ 28 21 ∧ σ 28 21 ≤ 3 := h 28 21
theorem bw_28_21 {v : Int} (h : (0 : Int) ≤ v ∧ v ≤ 3) : bnd 28 21 v := h
theorem bd_28_22 (h : WF σ) : (0 : Int) ≤ σ 28 22 ∧ σ 28 22 ≤ 200 := h 28 22
theorem bw_28_22 {v : Int} (h : (0 : Int) ≤ v ∧ v ≤ 200) : bnd 28 22 v := h
theorem bd_28_25 (h : WF σ) : (0 : Int) ≤ σ 28 25 ∧ σ 28 25 ≤ 1 := h 28 25
theorem bw_28_25 {v : Int} (h : (0 : Int) ≤ v ∧ v ≤ 1) : bnd 28 25 v := h
theorem bd_28_26 (h : WF σ) : (0 : Int) ≤ σ 28 26 ∧ σ 28 26 ≤ 40 := h 28 26
theorem bw_28_26 {v : Int} (h : (0 : Int) ≤ v ∧ v ≤ 40) : bnd 28 26 v := h
theorem bd_28_33 (h : WF σ) : (0 : Int) ≤ σ 28 33 ∧ σ 28 33 ≤ 80 := h 28 33
theorem bw_28_33 {v : Int} (h : (0 : Int) ≤ v ∧ v ≤ 80) : bnd 28 33 v := h
theorem bd_28_34 (h : WF σ) : (0 : Int) ≤ σ 28 34 ∧ σ 28 34 ≤ 80 := h 28 34
theorem bw_28_34 {v : Int} (h : (0 : Int) ≤ v ∧ v ≤ 80) : bnd 28 34 v := h
theorem bd_28_35 (h : WF σ) : (0 : Int) ≤ σ 28 35 ∧ σ 28 35 ≤ 3 := h 28 35
theorem bw_28_35 {v : Int} (h : (0 : Int) ≤ v ∧ v ≤ 3) : bnd 28 35 v := h
theorem bd_29 (h : WF σ) (i : Nat) : (-128 : Int) ≤ σ 29 i ∧ σ 29 i ≤ 127 := h 29 i
theorem bw_29 {v : Int} {i : Nat} (h : (-128 : Int) ≤ v ∧ v ≤ 127) : bnd 29 i v := h
theorem bd_30 (h : WF σ) (i : Nat) : (0 : Int) ≤ σ 30 i ∧ σ 30 i ≤ 12 := h 30 i
theorem bw_30 {v : Int} {i : Nat} (h : (0 : Int) ≤ v ∧ v ≤ 12) : bnd 30 i v := h
theorem bd_31 (h : WF σ) (i : Nat) : (-2147483648 : Int) ≤ σ 31 i ∧ σ 31 i ≤ 2147483647 := h 31 i
theorem bw_31 {v : Int} {i : Nat} (h : (-2147483648 : Int) ≤ v ∧ v ≤ 2147483647) : bnd 31 i v := h
theorem bd_32 (h : WF σ) (i : Nat) : (0 : Int) ≤ σ 32 i ∧ σ 32 i ≤ 1 := h 32 i
theorem bw_32 {v : Int} {i : Nat} (h : (0 : Int) ≤ v ∧ v ≤ 1) : bnd 32 i v := h
theorem bd_33 (h : WF σ) (i : Nat) : (-128 : Int) ≤ σ 33 i ∧ σ 33 i ≤ 127 := h 33 i
theorem bw_33 {v : Int} {i : Nat} (h : (-128 : Int) ≤ v ∧ v ≤ 127) : bnd 33 i v := h
theorem bd_34 (h : WF σ) (i : Nat) : (-128 : Int) ≤ σ 34 i ∧ σ 34 i ≤ 127 := h 34 i
theorem bw_34 {v : Int} {i : Nat} (h : (-128 : Int) ≤ v ∧ v ≤ 127) : bnd 34 i v := h
theorem bd_35 (h : WF σ) (i : Nat) : (-128 : Int) ≤ σ 35 i ∧ σ 35 i ≤ 127 := h 35 i
theorem bw_35 {v : Int} {i : Nat} (h : (-128 : Int) ≤ v ∧ v ≤ 127) : bnd 35 i v := h
theorem bd_36 (h : WF σ) (i : Nat) : (-200 : Int) ≤ σ 36 i ∧ σ 36 i ≤ 200 := h 36 i
theorem bw_36 {v : Int} {i : Nat} (h : (-200 : Int) ≤ v ∧ v ≤ 200) : bnd 36 i v := h
theorem bd_37 (h : WF σ) (i : Nat) : (-128 : Int) ≤ σ 37 i ∧ σ 37 i ≤ 127 := h 37 i
theorem bw_37 {v : Int} {i : Nat} (h : (-128 : Int) ≤ v ∧ v ≤ 127) : bnd 37 i v := h
theorem bd_38 (h : WF σ) (i : Nat) : (-128 : Int) ≤ σ 38 i ∧ σ 38 i ≤ 127 := h 38 i
theorem bw_38 {v : Int} {i : Nat} (h : (-128 : Int) ≤ v ∧ v ≤ 127) : bnd 38 i v := h
theorem bd_39 (h : WF σ) (i : Nat) : (-200 : Int) ≤ σ 39 i ∧ σ 39 i ≤ 200 := h 39 i
theorem bw_39 {v : Int} {i : Nat} (h : (-200 : Int) ≤ v ∧ v ≤ 200) : bnd 39 i v := h
theorem bd_40 (h : WF σ) (i : Nat) : (0 : Int) ≤ σ 40 i ∧ σ 40 i ≤ 12 := h 40 i
theorem bw_40 {v : Int} {i : Nat} (h : (0 : Int) ≤ v ∧ v ≤ 12) : bnd 40 i v := h
theorem bd_41 (h : WF σ) (i : Nat) : (0 : Int) ≤ σ 41 i ∧ σ 41 i ≤ 1 := h 41 i
theorem bw_41 {v : Int} {i : Nat} (h : (0 : Int) ≤ v ∧ v ≤ 1) : bnd 41 i v := h
theorem bd_42 (h : WF σ) (i : Nat) : (0 : Int) ≤ σ 42 i ∧ σ 42 i ≤ 39 := h 42 i
theorem bw_42 {v : Int} {i : Nat} (h : (0 : Int) ≤ v ∧ v ≤ 39) : bnd 42 i v := h
theorem bd_43 (h : WF σ) (i : Nat) : (0 : Int) ≤ σ 43 i ∧ σ 43 i ≤ 5000 := h 43 i
theorem bw_43 {v : Int} {i : Nat} (h : (0 : Int) ≤ v ∧ v ≤ 5000) : bnd 43 i v := h
theorem bd_44 (h : WF σ) (i : Nat) : (0 : Int) ≤ σ 44 i ∧ σ 44 i ≤ 100000 := h 44 i
theorem bw_44 {v : Int} {i : Nat} (h : (0 : Int) ≤ v ∧ v ≤ 100000) : bnd 44 i v := h
theorem bd_45 (h : WF σ) (i : Nat) : (0 : Int) ≤ σ 45 i ∧ σ 45 i ≤ 3 := h 45 i
theorem bw_45 {v : Int} {i : Nat} (h : (0 : Int) ≤ v ∧ v ≤ 3) : bnd 45 i v := h
theorem bd_46 (h : WF σ) (i : Nat) : (-1 : Int) ≤ σ 46 i ∧ σ 46 i ≤ 39 := h 46 i
theorem bw_46 {v : Int} {i : Nat} (h : (-1 : Int) ≤ v ∧ v ≤ 39) : bnd 46 i v := h
theorem bd_47 (h : WF σ) (i : Nat) : (0 : Int) ≤ σ 47 i ∧ σ 47 i ≤ 1 := h 47 i
theorem bw_47 {v : Int} {i : Nat} (h : (0 : Int) ≤ v ∧ v ≤ 1) : bnd 47 i v := h
theorem bd_48 (h : WF σ) (i : Nat) : (0 : Int) ≤ σ 48 i ∧ σ 48 i ≤ 39 := h 48 i
theorem bw_48 {v : Int} {i : Nat} (h : (0 : Int) ≤ v ∧ v ≤ 39) : bnd 48 i v := h
theorem bd_49 (h : WF σ) (i : Nat) : (0 : Int) ≤ σ 49 i ∧ σ 49 i ≤ 1 := h 49 i
theorem bw_49 {v : Int} {i : Nat} (h : (0 : Int) ≤ v ∧ v ≤ 1) : bnd 49 i v := h
theorem bd_50 (h : WF σ) (i : Nat) : (0 : Int) ≤ σ 50 i ∧ σ 50 i ≤ 1 := h 50 i
theorem bw_50 {v : Int} {i : Nat} (h : (0 : Int) ≤ v ∧ v ≤ 1) : bnd 50 i v := h
theorem bd_51 (h : WF σ) (i : Nat) : (-128 : Int) ≤ σ 51 i ∧ σ 51 i ≤ 127 := h 51 i
theorem bw_51 {v : Int} {i : Nat} (h : (-128 : Int) ≤ v ∧ v ≤ 127) : bnd 51 i v := h
theorem bd_52 (h : WF σ) (i : Nat) : (0 : Int) ≤ σ 52 i ∧ σ 52 i ≤ 12 := h 52 i
theorem bw_52 {v : Int} {i : Nat} (h : (0 : Int) ≤ v ∧ v ≤ 12) : bnd 52 i v := h
theorem bd_53 (h : WF σ) (i : Nat) : (-2147483648 : Int) ≤ σ 53 i ∧ σ 53 i ≤ 2147483647 := h 53 i
theorem bw_53 {v : Int} {i : Nat} (h : (-2147483648 : Int) ≤ v ∧ v ≤ 2147483647) : bnd 53 i v := h
theorem bd_54 (h : WF σ) (i : Nat) : (0 : Int) ≤ σ 54 i ∧ σ 54 i ≤ 1 := h 54 i
theorem bw_54 {v : Int} {i : Nat} (h : (0 : Int) ≤ v ∧ v ≤ 1) : bnd 54 i v := h
theorem bd_55 (h : WF σ) (i : Nat) : (0 : Int) ≤ σ 55 i ∧ σ 55 i ≤ 1 := h 55 i
theorem bw_55 {v : Int} {i : Nat} (h : (0 : Int) ≤ v ∧ v ≤ 1) : bnd 55 i v := h
theorem bw_Pl_1 {v : Int} {c : Nat} (h : isPl c) (hv : (0 : Int) ≤ v ∧ v ≤ 5) : bnd c 1 v := by
  unfold bnd
  rw [if_neg (by omega), if_pos h.1, if_pos h.2.2]
  exact hv
theorem bd_Pl_1 (hW : WF σ) {c : Nat} (h : isPl c) : (0 : Int) ≤ σ c 1 ∧ σ c 1 ≤ 5 := by
  have q := hW c 1
  unfold bnd at q
  rw [if_neg (by omega), if_pos h.1, if_pos h.2.2] at q
  exact q
theorem bw_Pl_2 {v : Int} {c : Nat} (h : isPl c) (hv : (0 : Int) ≤ v ∧ v ≤ 12) : bnd c 2 v := by
  unfold bnd
  rw [if_neg (by omega), if_pos h.1, if_pos h.2.2]
  exact hv
theorem bd_Pl_2 (hW : WF σ) {c : Nat} (h : isPl c) : (0 : Int) ≤ σ c 2 ∧ σ c 2 ≤ 12 := by
  have q := hW c 2
  unfold bnd at q
  rw [if_neg (by omega), if_pos h.1, if_pos h.2.2] at q
  exact q
theorem bw_Pd_3 {v : Int} {c : Nat} (h : isPd c) (hv : (-1 : Int) ≤ v ∧ v ≤ 39) : bnd c 3 v := by
  unfold bnd
  rw [if_pos h.1]
  exact hv
theorem bd_Pd_3 (hW : WF σ) {c : Nat} (h : isPd c) : (-1 : Int) ≤ σ c 3 ∧ σ c 3 ≤ 39 := by
  have q := hW c 3
  unfold bnd at q
  rw [if_pos h.1] at q
  exact q
theorem bw_Pd_4 {v : Int} {c : Nat} (h : isPd c) (hv : (0 : Int) ≤ v ∧ v ≤ 5000) : bnd c 4 v := by
  unfold bnd
  rw [if_pos h.1]
  exact hv
theorem bd_Pd_4 (hW : WF σ) {c : Nat} (h : isPd c) : (0 : Int) ≤ σ c 4 ∧ σ c 4 ≤ 5000 := by
  have q := hW c 4
  unfold bnd at q
  rw [if_pos h.1] at q
  exact q
theorem bw_Pd_5 {v : Int} {c : Nat} (h : isPd c) (hv : (0 : Int) ≤ v ∧ v ≤ 1000) : bnd c 5 v := by
  unfold bnd
  rw [if_pos h.1]
  exact hv
theorem bd_Pd_5 (hW : WF σ) {c : Nat} (h : isPd c) : (0 : Int) ≤ σ c 5 ∧ σ c 5 ≤ 1000 := by
  have q := hW c 5
  unfold bnd at q
  rw [if_pos h.1] at q
  exact q
theorem bw_Pd_6 {v : Int} {c : Nat} (h : isPd c) (hv : (0 : Int) ≤ v ∧ v ≤ 1) : bnd c 6 v := by
  unfold bnd
  rw [if_pos h.1]
  exact hv
theorem bd_Pd_6 (hW : WF σ) {c : Nat} (h : isPd c) : (0 : Int) ≤ σ c 6 ∧ σ c 6 ≤ 1 := by
  have q := hW c 6
  unfold bnd at q
  rw [if_pos h.1] at q
  exact q
theorem bw_Pd_7 {v : Int} {c : Nat} (h : isPd c) (hv : (0 : Int) ≤ v ∧ v ≤ 3) : bnd c 7 v := by
  unfold bnd
  rw [if_pos h.1]
  exact hv
theorem bd_Pd_7 (hW : WF σ) {c : Nat} (h : isPd c) : (0 : Int) ≤ σ c 7 ∧ σ c 7 ≤ 3 := by
  have q := hW c 7
  unfold bnd at q
  rw [if_pos h.1] at q
  exact q
theorem bw_Pd_8 {v : Int} {c : Nat} (h : isPd c) (hv : (-1 : Int) ≤ v ∧ v ≤ 39) : bnd c 8 v := by
  unfold bnd
  rw [if_pos h.1]
  exact hv
theorem bd_Pd_8 (hW : WF σ) {c : Nat} (h : isPd c) : (-1 : Int) ≤ σ c 8 ∧ σ c 8 ≤ 39 := by
  have q := hW c 8
  unfold bnd at q
  rw [if_pos h.1] at q
  exact q
theorem bw_Pd_9 {v : Int} {c : Nat} (h : isPd c) (hv : (-1 : Int) ≤ v ∧ v ≤ 39) : bnd c 9 v := by
  unfold bnd
  rw [if_pos h.1]
  exact hv
theorem bd_Pd_9 (hW : WF σ) {c : Nat} (h : isPd c) : (-1 : Int) ≤ σ c 9 ∧ σ c 9 ≤ 39 := by
  have q := hW c 9
  unfold bnd at q
  rw [if_pos h.1] at q
  exact q
theorem bw_Pd_10 {v : Int} {c : Nat} (h : isPd c) (hv : (0 : Int) ≤ v ∧ v ≤ 1) : bnd c 10 v := by
  unfold bnd
  rw [if_pos h.1]
  exact hv
theorem bd_Pd_10 (hW : WF σ) {c : Nat} (h : isPd c) : (0 : Int) ≤ σ c 10 ∧ σ c 10 ≤ 1 := by
  have q := hW c 10
  unfold bnd at q
  rw [if_pos h.1] at q
  exact q
theorem bw_Pd_11 {v : Int} {c : Nat} (h : isPd c) (hv : (0 : Int) ≤ v ∧ v ≤ 1) : bnd c 11 v := by
  unfold bnd
  rw [if_pos h.1]
  exact hv
theorem bd_Pd_11 (hW : WF σ) {c : Nat} (h : isPd c) : (0 : Int) ≤ σ c 11 ∧ σ c 11 ≤ 1 := by
  have q := hW c 11
  unfold bnd at q
  rw [if_pos h.1] at q
  exact q
theorem bw_Nm {v : Int} {c i : Nat} (h : isNm c) (hv : (-1 : Int) ≤ v ∧ v ≤ 255) : bnd c i v := by
  unfold bnd
  rw [if_neg (by omega), if_pos h.1, if_neg (by omega)]
  exact hv
theorem bd_Nm (hW : WF σ) {c : Nat} (h : isNm c) (i : Nat) : (-1 : Int) ≤ σ c i ∧ σ c i ≤ 255 := by
  have q := hW c i
  unfold bnd at q
  rw [if_neg (by omega), if_pos h.1, if_neg (by omega)] at q
  exact q
theorem bd_Ru_4 (hW : WF σ) {c : Nat} (h : isRu c) : (0 : Int) ≤ σ c 4 ∧ σ c 4 ≤ 12 := by
  rcases h with rfl | rfl
  · exact hW 18 4
  · exact hW 23 4
theorem bw_Ru_4 {v : Int} {c : Nat} (h : isRu c) (hv : (0 : Int) ≤ v ∧ v ≤ 12) : bnd c 4 v := by
  rcases h with rfl | rfl <;> exact hv
theorem bd_Ru_5 (hW : WF σ) {c : Nat} (h : isRu c) : (0 : Int) ≤ σ c 5 ∧ σ c 5 ≤ 12 := by
  rcases h with rfl | rfl
  · exact hW 18 5
  · exact hW 23 5
theorem bw_Ru_5 {v : Int} {c : Nat} (h : isRu c) (hv : (0 : Int) ≤ v ∧ v ≤ 12) : bnd c 5 v := by
  rcases h with rfl | rfl <;> exact hv
theorem bd_Ru_6 (hW : WF σ) {c : Nat} (h : isRu c) : (0 : Int) ≤ σ c 6 ∧ σ c 6 ≤ 12 := by
  rcases h with rfl | rfl
  · exact hW 18 6
  · exact hW 23 6
theorem bw_Ru_6 {v : Int} {c : Nat} (h : isRu c) (hv : (0 : Int) ≤ v ∧ v ≤ 12) : bnd c 6 v := by
  rcases h with rfl | rfl <;> exact hv
theorem bd_Ru_7 (hW : WF σ) {c : Nat} (h : isRu c) : (-1 : Int) ≤ σ c 7 ∧ σ c 7 ≤ 200 := by
  rcases h with rfl | rfl
  · exact hW 18 7
  · exact hW 23 7
theorem bw_Ru_7 {v : Int} {c : Nat} (h : isRu c) (hv : (-1 : Int) ≤ v ∧ v ≤ 200) : bnd c 7 v := by
  rcases h with rfl | rfl <;> exact hv
theorem bd_Rr_1 (hW : WF σ) {c : Nat} (h : isRu c) (i : Nat) : (-1 : Int) ≤ σ (c + 1) i ∧ σ (c + 1) i ≤ 255 := by
  rcases h with rfl | rfl
  · exact hW 19 i
  · exact hW 24 i
theorem bw_Rr_1 {v : Int} {c i : Nat} (h : isRu c) (hv : (-1 : Int) ≤ v ∧ v ≤ 255) : bnd (c + 1) i v := by
  rcases h with rfl | rfl <;> exact hv
theorem bd_Rr_2 (hW : WF σ) {c : Nat} (h : isRu c) (i : Nat) : (0 : Int) ≤ σ (c + 2) i ∧ σ (c + 2) i ≤ 12 := by
  rcases h with rfl | rfl
  · exact hW 20 i
  · exact hW 25 i
theorem bw_Rr_2 {v : Int} {c i : Nat} (h : isRu c) (hv : (0 : Int) ≤ v ∧ v ≤ 12) : bnd (c + 2) i v := by
  rcases h with rfl | rfl <;> exact hv
theorem bd_Rr_3 (hW : WF σ) {c : Nat} (h : isRu c) (i : Nat) : (-1 : Int) ≤ σ (c + 3) i ∧ σ (c + 3) i ≤ 255 := by
  rcases h with rfl | rfl
  · exact hW 21 i
  · exact hW 26 i
theorem bw_Rr_3 {v : Int} {c i : Nat} (h : isRu c) (hv : (-1 : Int) ≤ v ∧ v ≤ 255) : bnd (c + 3) i v := by
  rcases h with rfl | rfl <;> exact hv
theorem bd_Rr_4 (hW : WF σ) {c : Nat} (h : isRu c) (i : Nat) : (-49 : Int) ≤ σ (c + 4) i ∧ σ (c + 4) i ≤ 300 := by
  rcases h with rfl | rfl
  · exact hW 22 i
  · exact hW 27 i
theorem bw_Rr_4 {v : Int} {c i : Nat} (h : isRu c) (hv : (-49 : Int) ≤ v ∧ v ≤ 300) : bnd (c + 4) i v := by
  rcases h with rfl | rfl <;> exact hv
theorem WF_up (h : WF σ) {c i : Nat} {v : Int} (hv : bnd c i v) : WF (up2 σ c i v) := fun c' i' => by
  rw [up2_at]
  by_cases q : c' = c ∧ i' = i
  · rw [if_pos q, q.1, q.2]; exact hv
  · rw [if_neg q]; exact h c' i'
end BD
