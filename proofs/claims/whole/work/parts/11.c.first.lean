/-! The beginning, and what goes from call to call. -/
theorem Sim.cg {τ τ' ρ ρ' : Sg} (h : Sim τ ρ) (hW : WF τ) (hc : ∀ x, (x < 28 ∨ 56 ≤ x) → τ' x = τ x) (gc : ∀ x, 28 ≤ x → x < 56 → ρ' x = ρ x) : Sim τ' ρ' := by
  have hr : ∀ r, RowS ρ ρ' r := fun r => RowS.of (gc 29 (by decide) (by decide)) (gc 30 (by decide) (by decide)) (gc 31 (by decide) (by decide)) r
  have g28 := gc 28 (by decide) (by decide)
  have h0 := hc 0 (by omega)
  exact ⟨h.1.mv (hc 1 (by omega)) (hc 2 (by omega)) (by rw [g28]) (gc 33 (by decide) (by decide)),
    h.2.1.mv hW (hc 3 (by omega)) (hc 5 (by omega)) (fun c a b => hc c (by omega)) (by rw [g28]) (by rw [g28]) (gc 32 (by decide) (by decide)) (fun r _ => hr r),
    h.2.2.1.mv hW (hc 7 (by omega)) (fun c a b => hc c (by omega)) (by rw [g28]) (fun r _ _ => hr r),
    h.2.2.2.1.mv (by rw [h0]) (by rw [h0]) (by rw [h0]) (by rw [h0]) (fun c a b => hc c (by omega)) (by rw [g28]) (by rw [g28]) (by rw [g28]) (gc 34 (by decide) (by decide)) (gc 35 (by decide) (by decide)) (gc 36 (by decide) (by decide)),
    h.2.2.2.2.mv hW (hc 13 (by omega)) (by rw [h0]) (hc 15 (by omega)) (hc 16 (by omega)) (hc 17 (by omega)) (fun c a => hc c (by omega)) (by rw [g28]) (by rw [g28]) (by rw [g28]) (by rw [g28]) (by rw [g28]) (by rw [g28]; omega) (fun x a b => gc x (by omega) (by omega)) (fun r _ _ => hr r)⟩
def LI (σ : Sg) : Prop := Sim σ σ ∧ Inv σ
/-- between the two calls -/
theorem LI.mid {σ σ1 : Sg} (h : LI σ) (hW : WF σ) (fx : ∀ x, 28 ≤ x ∧ x ≤ 56 → σ1 x = σ x) : Sim σ σ1 := h.1.cg hW (fun _ _ => rfl) (fun x a b => fx x (by omega))
/-- behind the two calls -/
theorem LI.end {τ ρ : Sg} (h : Sim τ ρ) (hV : Inv τ) (hW : WF τ) (mx : ∀ x, (x < 28 ∨ 56 ≤ x) → ρ x = τ x) : LI ρ :=
  ⟨h.cg hW mx (fun _ _ _ => rfl), hV.mv hW (by rw [mx 3 (by omega)]) (by rw [mx 3 (by omega)]) (mx 5 (by omega)) (fun c a b => mx c (by omega)) (by rw [mx 13 (by omega)]) (by rw [mx 13 (by omega)]) (mx 15 (by omega)) (mx 16 (by omega)) (mx 17 (by omega)) (fun c a => mx c (by omega))⟩
theorem LI.read {σ : Sg} (h : LI σ) (hW : WF σ) {ρ : Sg} (e : ρ = up2 σ 28 0 0) : LI ρ := by
  subst e
  exact LI.end (h.1.thr hW 0) h.2 hW (fun x hx => up2_cell _ _ _ (by omega))
theorem LI.o56 {σ : Sg} (h : LI σ) (hW : WF σ) (v : Int) : LI (up2 σ 56 0 v) := by
  have e : ∀ x, x ≠ 56 → (up2 σ 56 0 v) x = σ x := fun x hx => up2_cell _ _ _ hx
  have s1 : Sim (up2 σ 56 0 v) (up2 σ 56 0 v) := by
    have hr : ∀ r, RowS σ (up2 σ 56 0 v) r := fun r => RowS.of (e 29 (by decide)) (e 30 (by decide)) (e 31 (by decide)) r
    have g28 := e 28 (by decide)
    have h0 := e 0 (by decide)
    exact ⟨h.1.1.mv (e 1 (by decide)) (e 2 (by decide)) (by rw [g28]) (e 33 (by decide)),
      h.1.2.1.mv hW (e 3 (by decide)) (e 5 (by decide)) (fun c a b => e c (by omega)) (by rw [g28]) (by rw [g28]) (e 32 (by decide)) (fun r _ => hr r),
      h.1.2.2.1.mv hW (e 7 (by decide)) (fun c a b => e c (by omega)) (by rw [g28]) (fun r _ _ => hr r),
      h.1.2.2.2.1.mv (by rw [h0]) (by rw [h0]) (by rw [h0]) (by rw [h0]) (fun c a b => e c (by omega)) (by rw [g28]) (by rw [g28]) (by rw [g28]) (e 34 (by decide)) (e 35 (by decide)) (e 36 (by decide)),
      h.1.2.2.2.2.mv hW (e 13 (by decide)) (by rw [h0]) (e 15 (by decide)) (e 16 (by decide)) (e 17 (by decide)) (fun c a => e c (by omega)) (by rw [g28]) (by rw [g28]) (by rw [g28]) (by rw [g28]) (by rw [g28]) (by rw [g28]; omega) (fun x a b => e x (by omega)) (fun r _ _ => hr r)⟩
  exact ⟨s1, h.2.mv hW (by rw [e 3 (by decide)]) (by rw [e 3 (by decide)]) (e 5 (by decide)) (fun c a b => e c (by omega)) (by rw [e 13 (by decide)]) (by rw [e 13 (by decide)]) (e 15 (by decide)) (e 16 (by decide)) (e 17 (by decide)) (fun c a => e c (by omega))⟩
theorem ruleOK_of {τ ρ : Sg} (h : Sim τ ρ) : RuleOK ρ := fun p hp hs => by
  obtain ⟨-, -, -, r4, r5⟩ := h.2.2.2.1
  by_cases z : τ 0 8 = 0
  · rw [r5 z] at hp
    omega
  · rcases (r4 z).rm p hp with w | ⟨w, -⟩ | ⟨-, w, -⟩
    · unfold nb at w; omega
    · omega
    · exact w
theorem LI.le {σ : Sg} (h : LI σ) (hW : WF σ) : σ 3 4 ≤ σ 3 3 := are_le h.1.2.1 hW
theorem LI.ps {σ : Sg} (h : LI σ) (hW : WF σ) (a : Int) : f_X7_has σ a = 0 ∨ 1 ≤ σ 3 4 := by
  by_cases z : f_X7_has σ a = 0
  · exact Or.inl z
  · obtain ⟨r1, r2, r3⟩ := has_1 z
    exact Or.inr (are_pos h.1.2.1 hW (f := a.toNat) (by omega) r3)
theorem σ0_w : WF σ0 := by
  intro c k
  unfold bnd σ0
  repeat' split
  all_goals first | trivial | omega | (split <;> first | trivial | omega | (simp at *; done)) | simp at *
theorem σ0_li : LI σ0 := by
  have hR : RuleEq σ0 σ0 18 → True := fun _ => trivial
  refine ⟨⟨⟨rfl, fun i hi => ?_⟩, ⟨rfl, rfl, fun f hf => ?_, fun f hf => ?_, rfl⟩, ⟨rfl, fun k hk => ?_⟩, ⟨by decide, rfl, ⟨fun _ => rfl, fun _ => rfl⟩, fun z => absurd rfl z, fun _ => rfl⟩, ⟨rfl, rfl, rfl, rfl, rfl, ?_, fun k hk => ?_, fun i hi => ?_, fun _ => ⟨rfl, rfl, rfl⟩, Int.le_refl _⟩⟩, ⟨fun f hf => ?_, fun f g hf => ?_, fun i hi => ?_⟩⟩
  · exact absurd (show (i : Int) < 0 from hi) (by omega)
  · exact absurd (show (f : Int) < 0 from hf) (by omega)
  · exact absurd (show (f : Int) < 0 from hf) (by omega)
  · exact absurd (show (k : Int) < 0 from hk) (by omega)
  · show (0 : Int) = f_X10_troubles σ0
    unfold f_X10_troubles
    rfl
  · exact absurd (show (k : Int) < 0 from hk) (by omega)
  · exact absurd (show (i : Int) < 0 from hi) (by omega)
  · exact absurd (show (f : Int) < 0 from hf) (by omega)
  · exact absurd (show (f : Int) < 0 from hf) (by omega)
  · exact absurd (show (i : Int) < 0 from hi) (by omega)
