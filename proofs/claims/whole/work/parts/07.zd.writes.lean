/-! plan: one step is written down. -/
theorem L_keeps_row (a0 a1 : Int) {r s : Nat} : ∀ (n : Nat) (x : Int) (σ : Sg), 0 ≤ x → 12 - x < (n : Int) → σ 30 r ≤ 12 → x ≤ 12 →
    (∀ i : Nat, (i : Int) < x → (L_X10_keeps_36 a0 a1 (r : Int) n (s : Int) x σ) 51 (12 * s + i) = σ 51 (12 * s + i)) ∧ (∀ i : Nat, x ≤ (i : Int) → (i : Int) < σ 30 r → (L_X10_keeps_36 a0 a1 (r : Int) n (s : Int) x σ) 51 (12 * s + i) = σ 29 (12 * r + i)) ∧ ∀ j : Nat, (j < 12 * s ∨ 12 * s + 12 ≤ j) → (L_X10_keeps_36 a0 a1 (r : Int) n (s : Int) x σ) 51 j = σ 51 j
  | 0, x, σ, h0, h1, h2, h3 => by omega
  | n + 1, x, σ, h0, h1, h2, h3 => by
    rw [L_X10_keeps_36, Int.toNat_natCast]
    by_cases hl : σ 30 r ≤ x
    · rw [if_pos hl]
      exact ⟨fun _ _ => rfl, fun i a b => by omega, fun _ _ => rfl⟩
    · rw [if_neg hl, show (12 * (s : Int) + x).toNat = 12 * s + x.toNat by omega, show (12 * (r : Int) + x).toNat = 12 * r + x.toNat by omega]
      obtain ⟨b1, b2, b3⟩ := L_keeps_row a0 a1 (r := r) (s := s) n (x + 1) (up2 σ 51 (12 * s + x.toNat) (σ 29 (12 * r + x.toNat))) (by omega) (by omega) (by rw [up2_cell _ _ _ (by decide)]; exact h2) (by omega)
      rw [up2_cell _ _ _ (show (30 : Nat) ≠ 51 by decide), up2_cell _ _ _ (show (29 : Nat) ≠ 51 by decide)] at b2
      have k : ∀ j, (up2 σ 51 (12 * s + x.toNat) (σ 29 (12 * r + x.toNat))) 51 j = if j = 12 * s + x.toNat then σ 29 (12 * r + x.toNat) else σ 51 j := fun j => by rw [up2_row]
      refine ⟨fun i hi => ?_, fun i hi hj => ?_, fun j hj => ?_⟩
      · rw [b1 i (by omega), k, if_neg (by omega)]
      · by_cases q : (i : Int) = x
        · rw [b1 i (by omega), k, if_pos (by omega)]
          congr 1
          omega
        · exact b2 i (by omega) hj
      · rw [b3 j hj, k, if_neg (by omega)]
def RowT (σ σ' : Sg) (u : Nat) : Prop := σ' 53 u = σ 53 u ∧ σ' 52 u = σ 52 u ∧ ∀ i : Nat, i < 12 → σ' 51 (12 * u + i) = σ 51 (12 * u + i)
theorem RowT.tr {a b c : Sg} {u : Nat} (h : RowT a b u) (k : RowT b c u) : RowT a c u := ⟨k.1.trans h.1, k.2.1.trans h.2.1, fun i hi => (k.2.2 i hi).trans (h.2.2 i hi)⟩
theorem RowT.of {a b : Sg} (h1 : b 51 = a 51) (h2 : b 52 = a 52) (h3 : b 53 = a 53) (u : Nat) : RowT a b u := ⟨by rw [h3], by rw [h2], fun i _ => by rw [h1]⟩
theorem PS.mvT {τ τ' σ σ' : Sg} {c u : Nat} (h : PS τ σ c u) (l : τ c 2 ≤ 12) (h0 : τ' c = τ c) (h1 : τ' (c + 1) = τ (c + 1)) (k : RowT σ σ' u) : PS τ' σ' c u := by
  unfold PS
  rw [h0, h1, k.1, k.2.1]
  refine ⟨h.1, h.2.1, fun i hi => ?_⟩
  rw [k.2.2 i (by omega)]
  exact h.2.2 i hi
theorem keeps_ok {τ σ : Sg} {c r t : Nat} (h : PE τ σ c r) (l : lenOK τ c) {s e : Int} (hs : 0 ≤ s) (he : e = 0 ∨ e = 1) (ht : (t : Int) = 2 * s + e) : PS τ (f_X10_keeps σ s e (r : Int)) c t ∧ (∀ u, u ≠ t → RowT σ (f_X10_keeps σ s e (r : Int)) u) ∧ ∀ x, x ≠ 51 → x ≠ 52 → x ≠ 53 → (f_X10_keeps σ s e (r : Int)) x = σ x := by
  have fr : ∀ x, x ≠ 51 → x ≠ 52 → x ≠ 53 → (f_X10_keeps σ s e (r : Int)) x = σ x := fun x a b c => keeps_fr σ s e _ a b c
  obtain ⟨p1, p2, p3⟩ := h
  obtain ⟨l1, l2⟩ := l
  unfold f_X10_keeps at fr ⊢
  rw [show (2 * s + e).toNat = t by omega, Int.toNat_natCast, ← ht] at fr ⊢
  have c30 : (up2 (up2 σ 53 t (σ 31 r)) 52 t (σ 30 r)) 30 = σ 30 := by rw [up2_cell _ _ _ (by decide), up2_cell _ _ _ (by decide)]
  have c29 : (up2 (up2 σ 53 t (σ 31 r)) 52 t (σ 30 r)) 29 = σ 29 := by rw [up2_cell _ _ _ (by decide), up2_cell _ _ _ (by decide)]
  have c51 : (up2 (up2 σ 53 t (σ 31 r)) 52 t (σ 30 r)) 51 = σ 51 := by rw [up2_cell _ _ _ (by decide), up2_cell _ _ _ (by decide)]
  obtain ⟨-, a2, a3⟩ := L_keeps_row s e (r := r) (s := t) 13 0 (up2 (up2 σ 53 t (σ 31 r)) 52 t (σ 30 r)) (by omega) (by omega) (by rw [c30, ← p2]; exact l2) (by omega)
  rw [c30, c29] at a2
  rw [c51] at a3
  have k53 : (L_X10_keeps_36 s e (r : Int) 13 (t : Int) 0 (up2 (up2 σ 53 t (σ 31 r)) 52 t (σ 30 r))) 53 = (up2 σ 53 t (σ 31 r)) 53 := by rw [L_keeps_fr s e _ (by decide), up2_cell _ _ _ (by decide)]
  have k52 : (L_X10_keeps_36 s e (r : Int) 13 (t : Int) 0 (up2 (up2 σ 53 t (σ 31 r)) 52 t (σ 30 r))) 52 = (up2 (up2 σ 53 t (σ 31 r)) 52 t (σ 30 r)) 52 := by rw [L_keeps_fr s e _ (by decide)]
  refine ⟨⟨?_, ?_, fun i hi => ?_⟩, fun u hu => ⟨?_, ?_, fun i hi => ?_⟩, fr⟩
  · rw [k53, up2_same]; exact p1
  · rw [k52, up2_same]; exact p2
  · rw [a2 i (by omega) (by omega)]; exact p3 i hi
  · rw [k53, up2_slot _ _ hu]
  · rw [k52, up2_slot _ _ hu, up2_cell _ _ _ (by decide)]
  · exact a3 _ (by omega)
/-- copying a row makes the class's place that row too -/
theorem PE.co {τ σ : Sg} {c q t : Nat} (h : PE τ σ c q) (l : lenOK τ c) (hqt : q ≠ t) : PE τ (f_X10_copies σ (q : Int) (t : Int)) c t := by
  have k := copies_row (σ := σ) (f := (q : Int)) (t := (t : Int)) (by omega) (by omega) (by omega) (by rw [Int.toNat_natCast, ← h.2.1]; exact l.2)
  rw [Int.toNat_natCast, Int.toNat_natCast] at k
  refine ⟨by rw [k.1]; exact h.1, by rw [k.2.1]; exact h.2.1, fun i hi => ?_⟩
  rw [k.2.2.1 i (by rw [← h.2.1]; exact hi)]
  exact h.2.2 i hi
theorem spare_ok {τ σ : Sg} {c : Nat} {f : Int} (hf : 0 ≤ f ∧ f ≤ 39) (h : SpOK τ c f) (h1 : τ c 1 = σ 31 (120 + f.toNat)) : PE τ (f_X10_spare σ f) c 70 ∧ ∀ r : Nat, r ≠ 70 → RowS σ (f_X10_spare σ f) r := by
  obtain ⟨s1, s2⟩ := h
  unfold f_X10_spare
  rw [show (120 + f).toNat = 120 + f.toNat by omega]
  by_cases q : f < 10
  · rw [if_pos q, bm_lo (b := 48 + f % 10) (by omega)]
    have z : τ c 2 = 2 ∧ τ (c + 1) 1 = 48 + f := by omega
    refine ⟨⟨?_, ?_, fun i hi => ?_⟩, fun r hr => ⟨?_, ?_, fun i hi => ?_⟩⟩
    · rw [up2_cell _ _ _ (by decide), up2_cell _ _ _ (by decide), up2_cell _ _ _ (by decide), up2_same]; exact h1
    · rw [up2_same]; exact z.1
    · rw [up2_cell _ _ _ (by decide)]
      rcases (show i = 0 ∨ i = 1 by omega) with rfl | rfl
      · rw [up2_slot _ _ (by decide)]
        exact s1.trans (up2_same _ _ _ _).symm
      · have e : (up2 (up2 (up2 σ 31 70 (σ 31 (120 + f.toNat))) 29 840 126) 29 841 (48 + f % 10)) 29 841 = 48 + f % 10 := up2_same _ _ _ _
        rw [show 12 * 70 + 1 = 841 by decide, e]
        omega
    · rw [up2_cell _ _ _ (by decide), up2_cell _ _ _ (by decide), up2_cell _ _ _ (by decide), up2_slot _ _ hr]
    · rw [up2_slot _ _ hr, up2_cell _ _ _ (by decide), up2_cell _ _ _ (by decide), up2_cell _ _ _ (by decide)]
    · rw [up2_cell _ _ _ (by decide), up2_slot _ _ (by omega), up2_slot _ _ (by omega), up2_cell _ _ _ (by decide)]
  · rw [if_neg q, bm_lo (b := 48 + f / 10) (by omega), bm_lo (b := 48 + f % 10) (by omega)]
    have z : τ c 2 = 3 ∧ τ (c + 1) 1 = 48 + f / 10 ∧ τ (c + 1) 2 = 48 + f % 10 := by omega
    refine ⟨⟨?_, ?_, fun i hi => ?_⟩, fun r hr => ⟨?_, ?_, fun i hi => ?_⟩⟩
    · rw [up2_cell _ _ _ (by decide), up2_cell _ _ _ (by decide), up2_cell _ _ _ (by decide), up2_cell _ _ _ (by decide), up2_same]; exact h1
    · rw [up2_same]; exact z.1
    · rw [up2_cell _ _ _ (by decide)]
      rcases (show i = 0 ∨ i = 1 ∨ i = 2 by omega) with rfl | rfl | rfl
      · rw [up2_slot _ _ (by decide), up2_slot _ _ (by decide)]
        exact s1.trans (up2_same _ _ _ _).symm
      · rw [up2_slot _ _ (by decide)]
        exact z.2.1.trans (up2_same _ _ _ _).symm
      · exact z.2.2.trans (up2_same _ _ _ _).symm
    · rw [up2_cell _ _ _ (by decide), up2_cell _ _ _ (by decide), up2_cell _ _ _ (by decide), up2_cell _ _ _ (by decide), up2_slot _ _ hr]
    · rw [up2_slot _ _ hr, up2_cell _ _ _ (by decide), up2_cell _ _ _ (by decide), up2_cell _ _ _ (by decide), up2_cell _ _ _ (by decide)]
    · rw [up2_cell _ _ _ (by decide), up2_slot _ _ (by omega), up2_slot _ _ (by omega), up2_slot _ _ (by omega), up2_cell _ _ _ (by decide)]
/-- what writing one step does: the k-th planned file f goes from c0 to c1 -/
def WO (τ ρ : Sg) (s f : Nat) (c0 c1 : Nat) (a1 fl : Int) (ρ' : Sg) : Prop := PS τ ρ' c0 (2 * s) ∧ PS τ ρ' c1 (2 * s + 1) ∧ (∀ u, u ≠ 2 * s → u ≠ 2 * s + 1 → RowT ρ ρ' u) ∧ ρ' 48 = (fun i => if i = s then (f : Int) else ρ 48 i) ∧ ρ' 49 = (fun i => if i = s then a1 else ρ 49 i) ∧ ρ' 50 = (fun i => if i = s then fl else ρ 50 i) ∧ PE τ ρ' c1 (120 + f) ∧ (∀ r, r ≠ 120 + f → r ≠ 70 → RowS ρ ρ' r) ∧ (∀ x, (x < 29 ∨ 31 < x) → (x < 48 ∨ 53 < x) → ρ' x = ρ x)
theorem core_ok {τ ρ : Sg} {s f : Nat} (hs : s < s + 1) (hf : f < 40) (h33 : ρ 28 33 = (s : Int)) {c0 c1 : Nat} (l0 : lenOK τ c0) (l1 : lenOK τ c1) (p0 : PE τ ρ c0 (120 + f)) (a1 fl : Int) {to : Nat} (hto : to ≠ 120 + f) (P1' : Sg)
    (hP : ∀ x, x ≠ 29 → x ≠ 30 → x ≠ 31 → P1' x = (f_X10_keeps (up2 (up2 (up2 ρ 48 s (f : Int)) 49 s a1) 50 s fl) (s : Int) 0 (120 + (f : Int))) x) (hr : ∀ r, r ≠ 70 → RowS (f_X10_keeps (up2 (up2 (up2 ρ 48 s (f : Int)) 49 s a1) 50 s fl) (s : Int) 0 (120 + (f : Int))) P1' r) (p1 : PE τ P1' c1 to) :
    WO τ ρ s f c0 c1 a1 fl (f_X10_copies (f_X10_keeps P1' (s : Int) 1 (to : Int)) (to : Int) (120 + (f : Int))) ∧ P1' 28 33 = (s : Int) ∧ (f_X10_copies (f_X10_keeps P1' (s : Int) 1 (to : Int)) (to : Int) (120 + (f : Int))) 28 33 = (s : Int) := by
  have ux : ∀ x, (x < 48 ∨ 50 < x) → (up2 (up2 (up2 ρ 48 s (f : Int)) 49 s a1) 50 s fl) x = ρ x := fun x hx => by rw [up2_cell _ _ _ (by omega), up2_cell _ _ _ (by omega), up2_cell _ _ _ (by omega)]
  have u48 : (up2 (up2 (up2 ρ 48 s (f : Int)) 49 s a1) 50 s fl) 48 = fun i => if i = s then (f : Int) else ρ 48 i := by rw [up2_cell _ _ _ (by decide), up2_cell _ _ _ (by decide), up2_row]
  have u49 : (up2 (up2 (up2 ρ 48 s (f : Int)) 49 s a1) 50 s fl) 49 = fun i => if i = s then a1 else ρ 49 i := by
    rw [up2_cell _ _ _ (by decide), up2_row]
    funext i
    rw [up2_cell _ _ _ (by decide)]
  have u50 : (up2 (up2 (up2 ρ 48 s (f : Int)) 49 s a1) 50 s fl) 50 = fun i => if i = s then fl else ρ 50 i := by
    rw [up2_row]
    funext i
    rw [up2_cell _ _ _ (by decide), up2_cell _ _ _ (by decide)]
  generalize up2 (up2 (up2 ρ 48 s (f : Int)) 49 s a1) 50 s fl = P0 at ux u48 u49 u50 hP hr
  have q0 : PE τ P0 c0 (120 + f) := p0.mv l0.2 ⟨rfl, rfl⟩ (RowS.of (ux 29 (by decide)) (ux 30 (by decide)) (ux 31 (by decide)) _)
  obtain ⟨k1, k2, k3⟩ := keeps_ok q0 l0 (s := (s : Int)) (e := 0) (t := 2 * s) (by omega) (by omega) (by omega)
  rw [show ((120 + f : Nat) : Int) = 120 + (f : Int) by omega] at k1 k2 k3
  generalize f_X10_keeps P0 (s : Int) 0 (120 + (f : Int)) = P1 at k1 k2 k3 hP hr
  obtain ⟨j1, j2, j3⟩ := keeps_ok p1 l1 (s := (s : Int)) (e := 1) (t := 2 * s + 1) (by omega) (by omega) (by omega)
  have pc2 : PE τ (f_X10_keeps P1' (s : Int) 1 (to : Int)) c1 to := p1.mv l1.2 ⟨rfl, rfl⟩ (RowS.of (j3 29 (by decide) (by decide) (by decide)) (j3 30 (by decide) (by decide) (by decide)) (j3 31 (by decide) (by decide) (by decide)) _)
  have r2 : ∀ r, RowS P1' (f_X10_keeps P1' (s : Int) 1 (to : Int)) r := fun r => RowS.of (j3 29 (by decide) (by decide) (by decide)) (j3 30 (by decide) (by decide) (by decide)) (j3 31 (by decide) (by decide) (by decide)) r
  generalize f_X10_keeps P1' (s : Int) 1 (to : Int) = P2 at j1 j2 j3 pc2 r2 ⊢
  have cx : ∀ x, x ≠ 29 → x ≠ 30 → x ≠ 31 → (f_X10_copies P2 (to : Int) (120 + (f : Int))) x = P2 x := fun x a b c => copies_fr P2 _ _ a b c
  have co := pc2.co l1 hto
  rw [show ((120 + f : Nat) : Int) = 120 + (f : Int) by omega] at co
  have cS : ∀ r, r ≠ 120 + f → RowS P2 (f_X10_copies P2 (to : Int) (120 + (f : Int))) r := fun r hr' => copies_S (by omega) (by omega) (by omega) (by rw [Int.toNat_natCast, ← pc2.2.1]; exact l1.2) (by omega)
  generalize f_X10_copies P2 (to : Int) (120 + (f : Int)) = P3 at cx co cS ⊢
  have x28 : P1' 28 = ρ 28 := by rw [hP 28 (by decide) (by decide) (by decide), k3 28 (by decide) (by decide) (by decide), ux 28 (by decide)]
  have all : ∀ x, (x < 29 ∨ 31 < x) → (x < 51 ∨ 53 < x) → P3 x = P0 x := fun x h1 h2 => by rw [cx x (by omega) (by omega) (by omega), j3 x (by omega) (by omega) (by omega), hP x (by omega) (by omega) (by omega), k3 x (by omega) (by omega) (by omega)]
  have tB : ∀ u, RowT P1 P1' u := fun u => RowT.of (hP 51 (by decide) (by decide) (by decide)) (hP 52 (by decide) (by decide) (by decide)) (hP 53 (by decide) (by decide) (by decide)) u
  have tC : ∀ u, RowT P2 P3 u := fun u => RowT.of (cx 51 (by decide) (by decide) (by decide)) (cx 52 (by decide) (by decide) (by decide)) (cx 53 (by decide) (by decide) (by decide)) u
  have tA : ∀ u, RowT ρ P0 u := fun u => RowT.of (ux 51 (by decide)) (ux 52 (by decide)) (ux 53 (by decide)) u
  refine ⟨⟨k1.mvT l0.2 rfl rfl ((tB _).tr ((j2 _ (by omega)).tr (tC _))), j1.mvT l1.2 rfl rfl (tC _), fun u a b => (tA u).tr ((k2 u a).tr ((tB u).tr ((j2 u b).tr (tC u)))), by rw [all 48 (by decide) (by decide)]; exact u48, by rw [all 49 (by decide) (by decide)]; exact u49, by rw [all 50 (by decide) (by decide)]; exact u50, co, fun r a b => ?_, fun x a b => by rw [all x a (by omega), ux x (by omega)]⟩, by rw [x28]; exact h33, by rw [cx 28 (by decide) (by decide) (by decide), j3 28 (by decide) (by decide) (by decide), x28]; exact h33⟩
  have s0 : RowS ρ P1 r := RowS.of (by rw [k3 29 (by decide) (by decide) (by decide), ux 29 (by decide)]) (by rw [k3 30 (by decide) (by decide) (by decide), ux 30 (by decide)]) (by rw [k3 31 (by decide) (by decide) (by decide), ux 31 (by decide)]) r
  exact s0.tr ((hr r b).tr ((r2 r).tr (cS r a)))
