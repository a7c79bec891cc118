/-! The relation of the class's cells (of τ) and the reference's (of ρ). -/
def wildB (b : Int) : Prop := b = 63 ∨ b = 42 ∨ b = 35
def takenB (b : Int) : Prop := b = 36 ∨ b = 94 ∨ b = 33
def RuleEq (τ ρ : Sg) (R : Nat) : Prop := τ R 4 = ρ 28 10 ∧ τ R 6 = ρ 28 11 ∧ (∀ i : Nat, (i : Int) < τ R 4 → τ (R + 1) i = ρ 34 i ∧ (nb (τ (R + 1) i) ∨ wildB (τ (R + 1) i))) ∧
  (∀ p : Nat, (p : Int) < τ R 6 → τ (R + 3) p = ρ 35 p ∧ (nb (τ (R + 3) p) ∨ (τ (R + 3) p = 37 ∧ τ (R + 4) p = ρ 36 p ∧ 1 ≤ τ (R + 4) p ∧ τ (R + 4) p ≤ 4) ∨ (takenB (τ (R + 3) p) ∧ τ (R + 4) p = ρ 36 p ∧ 1 ≤ τ (R + 4) p ∧ τ (R + 4) p ≤ τ R 5))) ∧
  (∀ n : Nat, 1 ≤ n → (n : Int) ≤ τ R 5 → τ (R + 2) (n - 1) = f_X10_wild ρ (n : Int) ∧ 0 ≤ τ (R + 2) (n - 1) ∧ τ (R + 2) (n - 1) < τ R 4)
def SimR (τ ρ : Sg) : Prop := τ 0 6 ≠ τ 0 7 ∧ τ 0 9 = ρ 28 20 ∧ (τ 0 8 = 0 ↔ ρ 28 10 = 0) ∧ (¬ τ 0 8 = 0 → RuleEq τ ρ (rc (τ 0 6))) ∧ (τ 0 8 = 0 → ρ 28 11 = 0)
/-- the class's place at c is a step's end s of the reference -/
def PS (τ ρ : Sg) (c s : Nat) : Prop := τ c 1 = ρ 53 s ∧ τ c 2 = ρ 52 s ∧ ∀ i : Nat, (i : Int) < τ c 2 → τ (c + 1) i = ρ 51 (12 * s + i)
def PdE (τ ρ : Sg) (k : Nat) : Prop := τ (439 + k) 3 = ρ 42 k ∧ τ (439 + k) 4 = ρ 43 k ∧ τ (439 + k) 5 = ρ 44 k ∧ τ (439 + k) 6 = ρ 47 k ∧ τ (439 + k) 7 = ρ 45 k ∧ τ (439 + k) 8 = ρ 46 k ∧ PE τ ρ (201 + 6 * k) (80 + k)
def StE (τ ρ : Sg) (i : Nat) : Prop := τ (439 + (τ 15 i).toNat) 3 = ρ 48 i ∧ τ 16 i = ρ 49 i ∧ τ 17 i = ρ 50 i ∧ 0 ≤ ρ 48 i ∧ ρ 48 i < ρ 28 5 ∧ PS τ ρ (f_X3_startOfStep τ (i : Int)) (2 * i) ∧ PS τ ρ (f_X3_goalOfStep τ (i : Int)) (2 * i + 1)
def SimP (τ ρ : Sg) : Prop := τ 13 4 = ρ 28 25 ∧ τ 13 5 = ρ 28 26 ∧ τ 13 7 = ρ 28 33 ∧ τ 13 8 = ρ 28 34 ∧ τ 0 10 = ρ 28 35 ∧ τ 13 6 = f_X10_troubles ρ ∧ (∀ k : Nat, (k : Int) < τ 13 5 → PdE τ ρ k) ∧ (∀ i : Nat, (i : Int) < τ 13 7 → StE τ ρ i) ∧ (τ 13 4 = 0 → τ 13 5 = 0 ∧ τ 13 7 = 0 ∧ τ 13 8 = 0) ∧ τ 13 8 ≤ τ 13 7
def Sim (τ ρ : Sg) : Prop := SimT τ ρ ∧ SimS τ ρ ∧ SimL τ ρ ∧ SimR τ ρ ∧ SimP τ ρ
theorem SimT.mv {τ τ' ρ ρ' : Sg} (h : SimT τ ρ) (h1 : τ' 1 = τ 1) (h2 : τ' 2 = τ 2) (h3 : ρ' 28 9 = ρ 28 9) (h4 : ρ' 33 = ρ 33) : SimT τ' ρ' := by
  unfold SimT
  rw [h1, h2, h3, h4]
  exact h
theorem SimT.e0 {τ' ρ' : Sg} (h1 : τ' 1 1 = 0) (h3 : ρ' 28 9 = 0) : SimT τ' ρ' := ⟨by rw [h1, h3], fun i hi => by rw [h1] at hi; omega⟩
theorem SimS.mv {τ τ' ρ ρ' : Sg} (h : SimS τ ρ) (hW : WF τ) (h3 : τ' 3 = τ 3) (h5 : τ' 5 = τ 5) (hp : ∀ c, 59 ≤ c → c < 139 → τ' c = τ c) (g5 : ρ' 28 5 = ρ 28 5) (g4 : ρ' 28 4 = ρ 28 4) (g32 : ρ' 32 = ρ 32) (hr : ∀ r, r < 40 → RowS ρ ρ' r) : SimS τ' ρ' := by
  have b := bd_3_3 hW
  refine ⟨by rw [h3, g5]; exact h.1, by rw [h3, g4]; exact h.2.1, fun f hf => ?_, fun f hf => ?_, by rw [h3, h5]; exact h.2.2.2.2⟩
  · rw [h3] at hf
    rw [h5, g32]
    exact h.2.2.1 f hf
  · rw [h3] at hf
    exact (h.2.2.2.1 f hf).mv (bd_Pl_2 hW (by omega)).2 ⟨hp _ (by omega) (by omega), hp _ (by omega) (by omega)⟩ (hr f (by omega))
theorem SimL.mv {τ τ' ρ ρ' : Sg} (h : SimL τ ρ) (hW : WF τ) (h7 : τ' 7 = τ 7) (hp : ∀ c, 139 ≤ c → c < 199 → τ' c = τ c) (g7 : ρ' 28 7 = ρ 28 7) (hr : ∀ r, 40 ≤ r → r < 70 → RowS ρ ρ' r) : SimL τ' ρ' := by
  have b := bd_7_1 hW
  refine ⟨by rw [h7, g7]; exact h.1, fun k hk => ?_⟩
  rw [h7] at hk
  exact (h.2 k hk).mv (bd_Pl_2 hW (by omega)).2 ⟨hp _ (by omega) (by omega), hp _ (by omega) (by omega)⟩ (hr _ (by omega) (by omega))
theorem RuleEq.mv {τ τ' ρ ρ' : Sg} {R : Nat} (h : RuleEq τ ρ R) (h0 : τ' R = τ R) (h1 : τ' (R + 1) = τ (R + 1)) (h2 : τ' (R + 2) = τ (R + 2)) (h3 : τ' (R + 3) = τ (R + 3)) (h4 : τ' (R + 4) = τ (R + 4)) (g10 : ρ' 28 10 = ρ 28 10) (g11 : ρ' 28 11 = ρ 28 11) (g34 : ρ' 34 = ρ 34) (g35 : ρ' 35 = ρ 35) (g36 : ρ' 36 = ρ 36) : RuleEq τ' ρ' R := by
  unfold RuleEq
  rw [h0, h1, h2, h3, h4, g10, g11, g34, g35, g36]
  refine ⟨h.1, h.2.1, h.2.2.1, h.2.2.2.1, fun n a b => ?_⟩
  rw [wild_congr g10 g34]
  exact h.2.2.2.2 n a b
theorem SimR.mv {τ τ' ρ ρ' : Sg} (h : SimR τ ρ) (h6 : τ' 0 6 = τ 0 6) (h7 : τ' 0 7 = τ 0 7) (h8 : τ' 0 8 = τ 0 8) (h9 : τ' 0 9 = τ 0 9) (hc : ∀ c, 18 ≤ c → c < 28 → τ' c = τ c) (g10 : ρ' 28 10 = ρ 28 10) (g11 : ρ' 28 11 = ρ 28 11) (g20 : ρ' 28 20 = ρ 28 20) (g34 : ρ' 34 = ρ 34) (g35 : ρ' 35 = ρ 35) (g36 : ρ' 36 = ρ 36) : SimR τ' ρ' := by
  unfold SimR
  rw [h6, h7, h8, h9, g10, g20]
  refine ⟨h.1, h.2.1, h.2.2.1, fun z => ?_, fun z => by rw [g11]; exact h.2.2.2.2 z⟩
  have hr := rc_ru (τ 0 6)
  exact (h.2.2.2.1 z).mv (hc _ (by omega) (by omega)) (hc _ (by omega) (by omega)) (hc _ (by omega) (by omega)) (hc _ (by omega) (by omega)) (hc _ (by omega) (by omega)) g10 g11 g34 g35 g36
theorem troubles_congr {ρ ρ' : Sg} (h1 : ρ' 28 25 = ρ 28 25) (h2 : ρ' 28 26 = ρ 28 26) (h3 : ρ' 45 = ρ 45) : ∀ (n : Nat) (i j : Int), L_X10_troubles_4 ρ' n i j = L_X10_troubles_4 ρ n i j
  | 0, i, j => rfl
  | n + 1, i, j => by
    rw [L_X10_troubles_4, L_X10_troubles_4, h1, h2, h3, troubles_congr h1 h2 h3 n, troubles_congr h1 h2 h3 n]
theorem troubles_eq {ρ ρ' : Sg} (h1 : ρ' 28 25 = ρ 28 25) (h2 : ρ' 28 26 = ρ 28 26) (h3 : ρ' 45 = ρ 45) : f_X10_troubles ρ' = f_X10_troubles ρ := troubles_congr h1 h2 h3 _ _ _
theorem PS.mv {τ τ' ρ ρ' : Sg} {c s : Nat} (h : PS τ ρ c s) (h0 : τ' c = τ c) (h1 : τ' (c + 1) = τ (c + 1)) (g1 : ρ' 51 = ρ 51) (g2 : ρ' 52 = ρ 52) (g3 : ρ' 53 = ρ 53) : PS τ' ρ' c s := by
  unfold PS
  rw [h0, h1, g1, g2, g3]
  exact h
theorem start_eq (τ : Sg) (i : Nat) : f_X3_startOfStep τ (i : Int) = if τ 17 i = 0 then 199 + 6 * (τ 15 i).toNat else 203 + 6 * (τ 15 i).toNat := by
  unfold f_X3_startOfStep
  rw [Int.toNat_natCast, show 439 + (τ 15 i).toNat - 439 = (τ 15 i).toNat by omega]
theorem goal_eq (τ : Sg) (i : Nat) : f_X3_goalOfStep τ (i : Int) = if τ 16 i = 0 then 201 + 6 * (τ 15 i).toNat else 203 + 6 * (τ 15 i).toNat := by
  unfold f_X3_goalOfStep
  rw [Int.toNat_natCast, show 439 + (τ 15 i).toNat - 439 = (τ 15 i).toNat by omega]
theorem start_pl {τ : Sg} (hW : WF τ) (i : Nat) : 199 ≤ f_X3_startOfStep τ (i : Int) ∧ f_X3_startOfStep τ (i : Int) < 439 ∧ f_X3_startOfStep τ (i : Int) % 2 = 1 := by
  have := bd_15 hW i
  rw [start_eq]
  split <;> omega
theorem goal_pl {τ : Sg} (hW : WF τ) (i : Nat) : 199 ≤ f_X3_goalOfStep τ (i : Int) ∧ f_X3_goalOfStep τ (i : Int) < 439 ∧ f_X3_goalOfStep τ (i : Int) % 2 = 1 := by
  have := bd_15 hW i
  rw [goal_eq]
  split <;> omega
theorem SimP.mv {τ τ' ρ ρ' : Sg} (h : SimP τ ρ) (hW : WF τ) (h13 : τ' 13 = τ 13) (h10 : τ' 0 10 = τ 0 10) (h15 : τ' 15 = τ 15) (h16 : τ' 16 = τ 16) (h17 : τ' 17 = τ 17) (hc : ∀ c, 199 ≤ c → τ' c = τ c)
    (g25 : ρ' 28 25 = ρ 28 25) (g26 : ρ' 28 26 = ρ 28 26) (g33 : ρ' 28 33 = ρ 28 33) (g34 : ρ' 28 34 = ρ 28 34) (g35 : ρ' 28 35 = ρ 28 35) (g5 : ρ 28 5 ≤ ρ' 28 5) (gc : ∀ x, 42 ≤ x → x ≤ 53 → ρ' x = ρ x) (hr : ∀ r, 80 ≤ r → r < 120 → RowS ρ ρ' r) : SimP τ' ρ' := by
  have b := bd_13_5 hW
  refine ⟨by rw [h13, g25]; exact h.1, by rw [h13, g26]; exact h.2.1, by rw [h13, g33]; exact h.2.2.1, by rw [h13, g34]; exact h.2.2.2.1, by rw [h10, g35]; exact h.2.2.2.2.1, by rw [h13, troubles_eq g25 g26 (gc 45 (by omega) (by omega))]; exact h.2.2.2.2.2.1, fun k hk => ?_, fun i hi => ?_, by rw [h13]; exact h.2.2.2.2.2.2.2.2.1, by rw [h13]; exact h.2.2.2.2.2.2.2.2.2⟩
  · rw [h13] at hk
    obtain ⟨a1, a2, a3, a4, a5, a6, a7⟩ := h.2.2.2.2.2.2.1 k hk
    unfold PdE
    rw [hc _ (by omega), gc 42 (by omega) (by omega), gc 43 (by omega) (by omega), gc 44 (by omega) (by omega), gc 47 (by omega) (by omega), gc 45 (by omega) (by omega), gc 46 (by omega) (by omega)]
    exact ⟨a1, a2, a3, a4, a5, a6, a7.mv (bd_Pl_2 hW (by omega)).2 ⟨hc _ (by omega), hc _ (by omega)⟩ (hr _ (by omega) (by omega))⟩
  · rw [h13] at hi
    obtain ⟨a1, a2, a3, a4, a5, a6, a7⟩ := h.2.2.2.2.2.2.2.1 i hi
    have es : f_X3_startOfStep τ' (i : Int) = f_X3_startOfStep τ (i : Int) := by rw [start_eq, start_eq, h17, h15]
    have eg : f_X3_goalOfStep τ' (i : Int) = f_X3_goalOfStep τ (i : Int) := by rw [goal_eq, goal_eq, h16, h15]
    have p1 := start_pl hW i
    have p2 := goal_pl hW i
    unfold StE
    rw [es, eg, h15, h16, h17, hc _ (by omega), gc 48 (by omega) (by omega), gc 49 (by omega) (by omega), gc 50 (by omega) (by omega)]
    exact ⟨a1, a2, a3, a4, by omega, a6.mv (hc _ (by omega)) (hc _ (by omega)) (gc 51 (by omega) (by omega)) (gc 52 (by omega) (by omega)) (gc 53 (by omega) (by omega)), a7.mv (hc _ (by omega)) (hc _ (by omega)) (gc 51 (by omega) (by omega)) (gc 52 (by omega) (by omega)) (gc 53 (by omega) (by omega))⟩
/-- the reference's mark of a throw, and the rows that are scratch, belong to no part -/
theorem Sim.thr {τ ρ : Sg} (h : Sim τ ρ) (hW : WF τ) (v : Int) : Sim τ (up2 ρ 28 0 v) := by
  have hc : ∀ x, x ≠ 28 → (up2 ρ 28 0 v) x = ρ x := fun x hx => up2_cell _ _ _ hx
  have hs : ∀ k, k ≠ 0 → (up2 ρ 28 0 v) 28 k = ρ 28 k := fun k hk => up2_slot _ _ hk
  have hr : ∀ r, RowS ρ (up2 ρ 28 0 v) r := fun r => RowS.of (hc 29 (by decide)) (hc 30 (by decide)) (hc 31 (by decide)) r
  exact ⟨h.1.mv rfl rfl (hs 9 (by decide)) (hc 33 (by decide)), h.2.1.mv hW rfl rfl (fun _ _ _ => rfl) (hs 5 (by decide)) (hs 4 (by decide)) (hc 32 (by decide)) (fun r _ => hr r), h.2.2.1.mv hW rfl (fun _ _ _ => rfl) (hs 7 (by decide)) (fun r _ _ => hr r),
    h.2.2.2.1.mv rfl rfl rfl rfl (fun _ _ _ => rfl) (hs 10 (by decide)) (hs 11 (by decide)) (hs 20 (by decide)) (hc 34 (by decide)) (hc 35 (by decide)) (hc 36 (by decide)),
    h.2.2.2.2.mv hW rfl rfl rfl rfl rfl (fun _ _ => rfl) (hs 25 (by decide)) (hs 26 (by decide)) (hs 33 (by decide)) (hs 34 (by decide)) (hs 35 (by decide)) (by rw [hs 5 (by decide)]; omega) (fun x a b => hc x (by omega)) (fun r _ _ => hr r)⟩
