/-! What the class's own cells keep. -/
def NmOK (τ : Sg) (c : Nat) : Prop := 1 ≤ τ c 2 ∧ ∀ i : Nat, (i : Int) < τ c 2 → nb (τ (c + 1) i)
def SpOK (τ : Sg) (c : Nat) (f : Int) : Prop := τ (c + 1) 0 = 126 ∧ ((f < 10 ∧ τ c 2 = 2 ∧ τ (c + 1) 1 = 48 + f) ∨ (10 ≤ f ∧ τ c 2 = 3 ∧ τ (c + 1) 1 = 48 + f / 10 ∧ τ (c + 1) 2 = 48 + f % 10))
def fo (τ : Sg) (i : Nat) : Int := τ (439 + (τ 15 i).toNat) 3
def StOK (τ : Sg) (i : Nat) : Prop := (τ 17 i = 0 → NmOK τ (f_X3_startOfStep τ (i : Int))) ∧ (¬ τ 17 i = 0 → SpOK τ (f_X3_startOfStep τ (i : Int)) (fo τ i)) ∧ (τ 16 i = 0 → NmOK τ (f_X3_goalOfStep τ (i : Int))) ∧ (¬ τ 16 i = 0 → SpOK τ (f_X3_goalOfStep τ (i : Int)) (fo τ i)) ∧ (τ 16 i = 0 ∨ τ 17 i = 0) ∧
  (¬ τ 16 i = 0 → ∃ j : Nat, i < j ∧ (j : Int) < τ 13 7 ∧ fo τ j = fo τ i ∧ ¬ τ 17 j = 0) ∧ (¬ τ 17 i = 0 → ∃ j : Nat, j < i ∧ fo τ j = fo τ i ∧ ¬ τ 16 j = 0)
def UW (τ : Sg) (f : Nat) : Prop := ∃ i j : Nat, (i : Int) < τ 13 8 ∧ τ 13 8 ≤ (j : Int) ∧ (j : Int) < τ 13 7 ∧ fo τ i = (f : Int) ∧ fo τ j = (f : Int) ∧ ¬ τ 16 i = 0 ∧ ¬ τ 17 j = 0
def Inv (τ : Sg) : Prop := (∀ f : Nat, (f : Int) < τ 3 3 → ¬ τ 5 f = 0 → NmOK τ (59 + 2 * f) ∨ (SpOK τ (59 + 2 * f) (f : Int) ∧ UW τ f)) ∧
  (∀ f g : Nat, (f : Int) < τ 3 3 → (g : Int) < τ 3 3 → f ≠ g → ¬ τ 5 f = 0 → ¬ τ 5 g = 0 → ¬ AlX τ (59 + 2 * f) (59 + 2 * g) (τ 3 5)) ∧ (∀ i : Nat, (i : Int) < τ 13 7 → StOK τ i)
theorem NmOK.mv {τ τ' : Sg} {c : Nat} (h : NmOK τ c) (h0 : τ' c = τ c) (h1 : τ' (c + 1) = τ (c + 1)) : NmOK τ' c := by
  unfold NmOK
  rw [h0, h1]
  exact h
theorem SpOK.mv {τ τ' : Sg} {c : Nat} {f : Int} (h : SpOK τ c f) (h0 : τ' c = τ c) (h1 : τ' (c + 1) = τ (c + 1)) : SpOK τ' c f := by
  unfold SpOK
  rw [h0, h1]
  exact h
theorem AlX.mv {τ τ' : Sg} {c d : Nat} {f : Int} (h0 : τ' c = τ c) (h1 : τ' (c + 1) = τ (c + 1)) (h2 : τ' d = τ d) (h3 : τ' (d + 1) = τ (d + 1)) : AlX τ' c d f ↔ AlX τ c d f := by
  unfold AlX
  rw [h0, h1, h2, h3]
theorem fo_eq {τ τ' : Sg} (h15 : τ' 15 = τ 15) (hc : ∀ c, 199 ≤ c → τ' c = τ c) (i : Nat) : fo τ' i = fo τ i := by
  unfold fo
  rw [h15, hc _ (by omega)]
theorem StOK.mv {τ τ' : Sg} (hW : WF τ) {i : Nat} (h : StOK τ i) (h7 : τ' 13 7 = τ 13 7) (h15 : τ' 15 = τ 15) (h16 : τ' 16 = τ 16) (h17 : τ' 17 = τ 17) (hc : ∀ c, 199 ≤ c → τ' c = τ c) : StOK τ' i := by
  obtain ⟨a1, a2, a3, a4, a5, a6, a7⟩ := h
  have es : f_X3_startOfStep τ' (i : Int) = f_X3_startOfStep τ (i : Int) := by rw [start_eq, start_eq, h17, h15]
  have eg : f_X3_goalOfStep τ' (i : Int) = f_X3_goalOfStep τ (i : Int) := by rw [goal_eq, goal_eq, h16, h15]
  have p1 := start_pl hW i
  have p2 := goal_pl hW i
  unfold StOK
  rw [es, eg, h16, h17, h7]
  simp only [fo_eq h15 hc]
  exact ⟨fun z => (a1 z).mv (hc _ (by omega)) (hc _ (by omega)), fun z => (a2 z).mv (hc _ (by omega)) (hc _ (by omega)), fun z => (a3 z).mv (hc _ (by omega)) (hc _ (by omega)), fun z => (a4 z).mv (hc _ (by omega)) (hc _ (by omega)), a5, a6, a7⟩
theorem UW.mv {τ τ' : Sg} {f : Nat} (h : UW τ f) (h7 : τ' 13 7 = τ 13 7) (h8 : τ' 13 8 = τ 13 8) (h15 : τ' 15 = τ 15) (h16 : τ' 16 = τ 16) (h17 : τ' 17 = τ 17) (hc : ∀ c, 199 ≤ c → τ' c = τ c) : UW τ' f := by
  unfold UW
  rw [h7, h8, h16, h17]
  simp only [fo_eq h15 hc]
  exact h
/-- the store's part of a state may move if these cells stay -/
theorem Inv.mv {τ τ' : Sg} (h : Inv τ) (hW : WF τ) (h3 : τ' 3 3 = τ 3 3) (h35 : τ' 3 5 = τ 3 5) (h5 : τ' 5 = τ 5) (hp : ∀ c, 59 ≤ c → c < 139 → τ' c = τ c) (h7 : τ' 13 7 = τ 13 7) (h8 : τ' 13 8 = τ 13 8) (h15 : τ' 15 = τ 15) (h16 : τ' 16 = τ 16) (h17 : τ' 17 = τ 17) (hc : ∀ c, 199 ≤ c → τ' c = τ c) : Inv τ' := by
  have b := bd_3_3 hW
  refine ⟨fun f hf he => ?_, fun f g hf hg hn he hk => ?_, fun i hi => ?_⟩
  · rw [h3] at hf
    rw [h5] at he
    rcases h.1 f hf he with w | w
    · exact Or.inl (w.mv (hp _ (by omega) (by omega)) (hp _ (by omega) (by omega)))
    · exact Or.inr ⟨w.1.mv (hp _ (by omega) (by omega)) (hp _ (by omega) (by omega)), w.2.mv h7 h8 h15 h16 h17 hc⟩
  · rw [h3] at hf hg
    rw [h5] at he hk
    rw [h35, AlX.mv (hp _ (by omega) (by omega)) (hp _ (by omega) (by omega)) (hp _ (by omega) (by omega)) (hp _ (by omega) (by omega))]
    exact h.2.1 f g hf hg hn he hk
  · rw [h7] at hi
    exact (h.2.2 i hi).mv hW h7 h15 h16 h17 hc
theorem take_Sim {τ ρ : Sg} (h : Sim τ ρ) (hW : WF τ) (a : Int) : Sim (f_X9_takePlace τ a).2 (f_X10_takes ρ a).2 := by
  obtain ⟨-, -, z1, z2, hr, -⟩ := take_sim h.1 hW a
  have fx : ∀ x, x ≠ 1 → x ≠ 57 → x ≠ 58 → (f_X9_takePlace τ a).2 x = τ x := fun x h1 h2 h3 => takePlace_fr τ a h1 h2 h3
  have fm : ∀ x k, x ≠ 29 → x ≠ 30 → x ≠ 31 → ¬ (x = 28 ∧ k = 9) → (f_X10_takes ρ a).2 x k = ρ x k := fun x k h1 h2 h3 h4 => takes_fr ρ a h1 h2 h3 h4
  have fc : ∀ x, x ≠ 28 → x ≠ 29 → x ≠ 30 → x ≠ 31 → (f_X10_takes ρ a).2 x = ρ x := fun x h0 h1 h2 h3 => funext fun k => fm x k h1 h2 h3 (by omega)
  exact ⟨SimT.e0 z1 z2, h.2.1.mv hW (fx 3 (by decide) (by decide) (by decide)) (fx 5 (by decide) (by decide) (by decide)) (fun c h1 h2 => fx c (by omega) (by omega) (by omega)) (fm 28 5 (by decide) (by decide) (by decide) (by decide)) (fm 28 4 (by decide) (by decide) (by decide) (by decide)) (fc 32 (by decide) (by decide) (by decide) (by decide)) (fun r h => hr r (by omega)),
    h.2.2.1.mv hW (fx 7 (by decide) (by decide) (by decide)) (fun c h1 h2 => fx c (by omega) (by omega) (by omega)) (fm 28 7 (by decide) (by decide) (by decide) (by decide)) (fun r h1 h2 => hr r (by omega)),
    h.2.2.2.1.mv (by rw [fx 0 (by decide) (by decide) (by decide)]) (by rw [fx 0 (by decide) (by decide) (by decide)]) (by rw [fx 0 (by decide) (by decide) (by decide)]) (by rw [fx 0 (by decide) (by decide) (by decide)]) (fun c h1 h2 => fx c (by omega) (by omega) (by omega)) (fm 28 10 (by decide) (by decide) (by decide) (by decide)) (fm 28 11 (by decide) (by decide) (by decide) (by decide)) (fm 28 20 (by decide) (by decide) (by decide) (by decide)) (fc 34 (by decide) (by decide) (by decide) (by decide)) (fc 35 (by decide) (by decide) (by decide) (by decide)) (fc 36 (by decide) (by decide) (by decide) (by decide)),
    h.2.2.2.2.mv hW (fx 13 (by decide) (by decide) (by decide)) (by rw [fx 0 (by decide) (by decide) (by decide)]) (fx 15 (by decide) (by decide) (by decide)) (fx 16 (by decide) (by decide) (by decide)) (fx 17 (by decide) (by decide) (by decide)) (fun c h1 => fx c (by omega) (by omega) (by omega)) (fm 28 25 (by decide) (by decide) (by decide) (by decide)) (fm 28 26 (by decide) (by decide) (by decide) (by decide)) (fm 28 33 (by decide) (by decide) (by decide) (by decide)) (fm 28 34 (by decide) (by decide) (by decide) (by decide)) (fm 28 35 (by decide) (by decide) (by decide) (by decide)) (by rw [fm 28 5 (by decide) (by decide) (by decide) (by decide)]; omega) (fun x h1 h2 => fc x (by omega) (by omega) (by omega) (by omega)) (fun r h1 h2 => hr r (by omega))⟩
theorem take_Inv {τ : Sg} (h : Inv τ) (hW : WF τ) (a : Int) : Inv (f_X9_takePlace τ a).2 := by
  have fx : ∀ x, x ≠ 1 → x ≠ 57 → x ≠ 58 → (f_X9_takePlace τ a).2 x = τ x := fun x h1 h2 h3 => takePlace_fr τ a h1 h2 h3
  exact h.mv hW (by rw [fx 3 (by decide) (by decide) (by decide)]) (by rw [fx 3 (by decide) (by decide) (by decide)]) (fx 5 (by decide) (by decide) (by decide)) (fun c h1 h2 => fx c (by omega) (by omega) (by omega)) (by rw [fx 13 (by decide) (by decide) (by decide)]) (by rw [fx 13 (by decide) (by decide) (by decide)]) (fx 15 (by decide) (by decide) (by decide)) (fx 16 (by decide) (by decide) (by decide)) (fx 17 (by decide) (by decide) (by decide)) (fun c h1 => fx c (by omega) (by omega) (by omega))
/-- after takePlace the cells are well-formed -/
theorem WF_clear {τ : Sg} (hW : WF τ) : WF (f_X8_clear τ) := WF_up hW (bw_1_1 (by omega))
theorem WF_begin {τ : Sg} (hW : WF τ) {c : Nat} (hc : isPl c) {a : Int} (ha : 0 ≤ a ∧ a ≤ 5) : WF (f_X2_begin τ c a) := WF_up (WF_up hW (bw_Pl_1 hc ha)) (bw_Pl_2 hc (by omega))
theorem WF_add {τ : Sg} (hW : WF τ) {c : Nat} (hc : isPl c) {b : Int} (hb : -1 ≤ b ∧ b ≤ 255) : WF (f_X2_add τ c b) := by
  unfold f_X2_add
  have := bd_Pl_2 hW hc
  split
  · exact hW
  · exact WF_up (WF_up hW (bw_Nm (by omega) hb)) (bw_Pl_2 hc (by omega))
