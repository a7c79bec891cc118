theorem planM_loop {ρ B : Sg} (hM : WF ρ) (hPB : PB ρ B) (hR : RM ρ) {cM : Nat} (hc : cM ≤ 40) (h26 : B 28 26 = (cM : Int)) (a0 a1 a2 a3 a4 : Int) (hctr : ∀ j : Nat, j < 40 → 0 ≤ a2 + (j : Int) * a3 ∧ a2 + (j : Int) * a3 < 10000)
    (hf : ∀ j : Nat, j < cM → 0 ≤ B 42 j ∧ B 42 j < 40 ∧ Pw ρ (B 42 j) = true ∧ ∀ i : Nat, (i : Int) < ρ 30 (B 42 j).toNat → 0 ≤ nmR ρ (B 42 j).toNat i ∧ nmR ρ (B 42 j).toNat i ≤ 127) :
    ∀ (n k : Nat) (σ : Sg), cM - k < n → k ≤ cM → MB B σ → (∀ j, j < k → EM ρ a1 σ j (B 42 j).toNat (a2 + (j : Int) * a3)) → MB B (L_X10_plan_208 a0 a1 a2 a3 a4 n (k : Int) σ) ∧ ∀ j, j < cM → EM ρ a1 (L_X10_plan_208 a0 a1 a2 a3 a4 n (k : Int) σ) j (B 42 j).toNat (a2 + (j : Int) * a3)
  | 0, k, σ, f1, hk, hB, hE => by omega
  | n + 1, k, σ, f1, hk, hB, hE => by
    have e26 : σ 28 26 = (cM : Int) := by rw [hB.1 28 (by decide) (by decide) (by decide) (by decide) (by decide) (by decide) (by decide) (by decide)]; exact h26
    rw [L_X10_plan_208, e26]
    by_cases c : (cM : Int) ≤ (k : Int)
    · rw [if_pos c]
      have : k = cM := by omega
      subst this
      exact ⟨hB, hE⟩
    · rw [if_neg c]
      obtain ⟨f0, f1', f2, f3⟩ := hf k (by omega)
      have ef : (((B 42 k).toNat : Nat) : Int) = B 42 k := by omega
      have hct := hctr k (by omega)
      generalize hcc : a2 + (k : Int) * a3 = ctr at hct ⊢
      generalize hff : (B 42 k).toNat = f at f3 ef
      have hf40 : f < 40 := by omega
      rw [show (80 + (k : Int)).toNat = 80 + k by omega, show ((k : Int)).toNat = k by omega]
      have s43 : (up2 (up2 σ 43 k ctr) 31 (80 + k) a1) 43 k = ctr := by rw [up2_cell _ _ _ (by decide), up2_same]
      have s31 : (up2 (up2 σ 43 k ctr) 31 (80 + k) a1) 31 (80 + k) = a1 := up2_same _ _ _ _
      have s31o : ∀ r, r ≠ 80 + k → (up2 (up2 σ 43 k ctr) 31 (80 + k) a1) 31 r = σ 31 r := fun r hr => by rw [up2_slot _ _ hr, up2_cell _ _ _ (by decide)]
      have s43o : ∀ r, r ≠ k → (up2 (up2 σ 43 k ctr) 31 (80 + k) a1) 43 r = σ 43 r := fun r hr => by rw [up2_cell _ _ _ (by decide), up2_slot _ _ hr]
      have sx : ∀ x, x ≠ 31 → x ≠ 43 → (up2 (up2 σ 43 k ctr) 31 (80 + k) a1) x = σ x := fun x u v => by rw [up2_cell _ _ _ u, up2_cell _ _ _ v]
      generalize up2 (up2 σ 43 k ctr) 31 (80 + k) a1 = σ1 at s43 s31 s31o s43o sx ⊢
      have hB1 : MB B σ1 := ⟨fun x u1 u2 u3 u4 u5 u6 u7 u8 => by rw [sx x u3 u6]; exact hB.1 x u1 u2 u3 u4 u5 u6 u7 u8, fun j hj => by rw [sx 29 (by decide) (by decide)]; exact hB.2.1 j hj, fun r hr => ⟨by rw [sx 30 (by decide) (by decide)]; exact (hB.2.2 r hr).1, by rw [s31o r (by omega)]; exact (hB.2.2 r hr).2⟩⟩
      obtain ⟨m1, m2, m3, m4, m5, m6⟩ := makes_ok (to := a1) hM hPB hR hB1 (k := k) (f := f) (by omega) hf40 ef.symm (by rw [ef]; exact f2) f3 hct.1 hct.2 s43
      generalize f_X10_makes σ1 (k : Int) = M at m1 m2 m3 m4 m5 m6 ⊢
      have M42 : M 42 k = (f : Int) := by rw [m6 42 (by decide) (by decide) (by decide) (by decide) (by decide), sx 42 (by decide) (by decide), hB.1 42 (by decide) (by decide) (by decide) (by decide) (by decide) (by decide) (by decide) (by decide)]; exact ef.symm
      have M31 : ∀ r, M 31 r = σ1 31 r := fun r => by rw [m6 31 (by decide) (by decide) (by decide) (by decide) (by decide)]
      have lenf : ρ 30 f ≤ 12 := (bd_30 hM f).2
      have Mf30 : M 30 f = ρ 30 f := by rw [m5 f (by omega), sx 30 (by decide) (by decide), (hB.2.2 f (by omega)).1, hPB.1 30 (by decide) (by decide) (by decide) (by decide)]
      have Mf31 : M 31 f = ρ 31 f := by rw [M31, s31o f (by omega), (hB.2.2 f (by omega)).2, hPB.1 31 (by decide) (by decide) (by decide) (by decide)]
      have Mf29 : ∀ i : Nat, i < 12 → M 29 (12 * f + i) = nmR ρ f i := fun i hi => by rw [m4 _ (by omega), sx 29 (by decide) (by decide), hB.2.1 _ (by omega), hPB.1 29 (by decide) (by decide) (by decide) (by decide)]
      have jm := isJustM (ρ := M) (a := 80 + (k : Int)) (b := (f : Int)) (by rw [show (80 + (k : Int)).toNat = 80 + k by omega, m2]; omega) (by omega) (by omega)
      rw [show (80 + (k : Int)).toNat = 80 + k by omega, Int.toNat_natCast, m2, Mf30, Mf31, M31, s31] at jm
      have bad : f_X10_isBad M (k : Int) = 0 ↔ (1 ≤ (nL ρ f ctr).length ∧ (nL ρ f ctr).length ≤ 12) := by
        unfold f_X10_isBad
        rw [Int.toNat_natCast, m1.1]
        repeat' split
        all_goals omega
      -- the mark 'stays'
      have fin : ∀ v : Int, (v = 0 ∨ v = 1) → (v = 1 ↔ StP ρ a1 f (nL ρ f ctr)) → MB B (L_X10_plan_208 a0 a1 a2 a3 a4 n ((k : Int) + 1) (up2 M 47 k v)) ∧ ∀ j, j < cM → EM ρ a1 (L_X10_plan_208 a0 a1 a2 a3 a4 n ((k : Int) + 1) (up2 M 47 k v)) j (B 42 j).toNat (a2 + (j : Int) * a3) := by
        intro v hv hs
        have vx : ∀ x, x ≠ 47 → (up2 M 47 k v) x = M x := fun x u => up2_cell _ _ _ u
        have hB2 : MB B (up2 M 47 k v) := ⟨fun x u1 u2 u3 u4 u5 u6 u7 u8 => by rw [vx x u8, m6 x u1 u2 u4 u5 u7]; exact hB1.1 x u1 u2 u3 u4 u5 u6 u7 u8, fun j hj => by rw [vx 29 (by decide), m4 j (by omega)]; exact hB1.2.1 j hj, fun r hr => ⟨by rw [vx 30 (by decide), m5 r (by omega)]; exact (hB1.2.2 r hr).1, by rw [vx 31 (by decide), M31]; exact (hB1.2.2 r hr).2⟩⟩
        have r := planM_loop hM hPB hR hc h26 a0 a1 a2 a3 a4 hctr hf n (k + 1) (up2 M 47 k v) (by omega) (by omega) hB2 (fun j hj => by
          by_cases w : j = k
          · subst w
            rw [hff, hcc]
            exact ⟨by rw [vx 43 (by decide), m6 43 (by decide) (by decide) (by decide) (by decide) (by decide)]; exact s43, ⟨by rw [vx 44 (by decide)]; exact m1.1, fun i a b => by rw [vx 29 (by decide)]; exact m1.2 i a b⟩, by rw [vx 30 (by decide)]; exact m2, by rw [vx 31 (by decide), M31]; exact s31, by rw [up2_same]; exact hv, by rw [up2_same]; exact hs⟩
          · obtain ⟨y1, y2, y3, y4, y5, y6⟩ := hE j (by omega)
            exact ⟨by rw [vx 43 (by decide), m6 43 (by decide) (by decide) (by decide) (by decide) (by decide), s43o j w]; exact y1, ⟨by rw [vx 44 (by decide), m3 j w, sx 44 (by decide) (by decide)]; exact y2.1, fun i a b => by rw [vx 29 (by decide), m4 _ (by omega), sx 29 (by decide) (by decide)]; exact y2.2 i a b⟩, by rw [vx 30 (by decide), m5 _ (by omega), sx 30 (by decide) (by decide)]; exact y3, by rw [vx 31 (by decide), M31, s31o _ (by omega)]; exact y4, by rw [up2_slot _ _ w, m6 47 (by decide) (by decide) (by decide) (by decide) (by decide), sx 47 (by decide) (by decide)]; exact y5, by rw [up2_slot _ _ w, m6 47 (by decide) (by decide) (by decide) (by decide) (by decide), sx 47 (by decide) (by decide)]; exact y6⟩)
        rw [show ((k + 1 : Nat) : Int) = (k : Int) + 1 by omega] at r
        exact r
      rw [M42]
      by_cases d1 : f_X10_isBad M (k : Int) = 0
      · rw [if_pos d1]
        have d1' := bad.mp d1
        have key : f_X10_isJust M (80 + (k : Int)) (f : Int) = 1 ↔ StP ρ a1 f (nL ρ f ctr) := by
          rw [jm.2]
          unfold StP
          constructor
          · rintro ⟨w1, w2, w3⟩
            refine ⟨d1', w1, by omega, fun i hi => ?_⟩
            have z := w3 i (by omega)
            rw [m1.2 i (by omega) (by omega), Mf29 i (by omega)] at z
            exact z
          · rintro ⟨w0, w1, w2, w3⟩
            refine ⟨w1, by omega, fun i hi => ?_⟩
            rw [m1.2 i (by omega) (by omega), Mf29 i (by omega)]
            exact w3 i (by omega)
        by_cases d2 : f_X10_isJust M (80 + (k : Int)) (f : Int) = 0
        · rw [if_pos d2]
          exact fin 0 (Or.inl rfl) ⟨fun z => by omega, fun z => by have := key.mpr z; omega⟩
        · rw [if_neg d2]
          exact fin 1 (Or.inr rfl) ⟨fun _ => key.mp (by rcases jm.1 with z | z; exact absurd z d2; exact z), fun _ => rfl⟩
      · rw [if_neg d1]
        exact fin 0 (Or.inl rfl) ⟨fun z => by omega, fun z => absurd (bad.mpr z.1) d1⟩
/-! troubles -/
/-- the entries of both plans -/
def E2 (τ ρ : Sg) (m : Nat) : Prop := ∀ k : Nat, k < m → τ (439 + k) 3 = ρ 42 k ∧ (0 ≤ ρ 42 k ∧ ρ 42 k < τ 3 3) ∧ τ (439 + k) 4 = ρ 43 k ∧ τ (439 + k) 5 = ρ 44 k ∧ τ (439 + k) 6 = ρ 47 k ∧ PE τ ρ (201 + 6 * k) (80 + k) ∧ (0 ≤ τ (201 + 6 * k) 2 ∧ τ (201 + 6 * k) 2 ≤ 12)
/-- is the k-th new name good? -/
def good (τ : Sg) (k : Nat) : Prop := 1 ≤ τ (439 + k) 5 ∧ τ (439 + k) 5 ≤ 12
theorem isBad_iff {τ ρ : Sg} {m : Nat} (h : E2 τ ρ m) {k : Nat} (hk : k < m) : f_X10_isBad ρ (k : Int) = 0 ↔ good τ k := by
  unfold f_X10_isBad good
  rw [Int.toNat_natCast, ← (h k hk).2.2.2.1]
  repeat' split
  all_goals omega
theorem own_loop : ∀ (n : Nat) (x : Int) (σ : Sg) (m : Nat), σ 13 5 = (m : Int) → m ≤ 40 → 0 ≤ x → 40 - x < (n : Int) → (∀ c, (c < 439 ∨ 439 + m ≤ c) → (L_X3_findTroubles_2 n x σ) c = σ c) ∧ (∀ k, k < m → (∀ j, j ≠ 7 → (L_X3_findTroubles_2 n x σ) (439 + k) j = σ (439 + k) j) ∧ (L_X3_findTroubles_2 n x σ) (439 + k) 7 = if (k : Int) < x then σ (439 + k) 7 else (if σ (439 + k) 5 < 1 then 1 else if σ (439 + k) 5 ≤ 12 then σ (439 + k) 7 else 1))
  | 0, x, σ, m, h5, hm, h0, f1 => by
    refine ⟨fun _ _ => rfl, fun k hk => ⟨fun _ _ => rfl, ?_⟩⟩
    rw [L_X3_findTroubles_2, if_pos (by omega)]
  | n + 1, x, σ, m, h5, hm, h0, f1 => by
    rw [L_X3_findTroubles_2, h5]
    by_cases c : (m : Int) ≤ x
    · rw [if_pos c]
      refine ⟨fun _ _ => rfl, fun k hk => ⟨fun _ _ => rfl, ?_⟩⟩
      rw [if_pos (by omega)]
    · rw [if_neg c]
      have o : ∀ y, y ≠ 439 + x.toNat → (f_X4_findOwnTrouble σ (439 + x.toNat)) y = σ y := fun y hy => own_fr σ _ hy
      have oj : ∀ j, j ≠ 7 → (f_X4_findOwnTrouble σ (439 + x.toNat)) (439 + x.toNat) j = σ (439 + x.toNat) j := fun j hj => by
        unfold f_X4_findOwnTrouble
        repeat' split
        all_goals first | rfl | exact up2_slot _ _ hj
      have o7 : (f_X4_findOwnTrouble σ (439 + x.toNat)) (439 + x.toNat) 7 = if σ (439 + x.toNat) 5 < 1 then 1 else if σ (439 + x.toNat) 5 ≤ 12 then σ (439 + x.toNat) 7 else 1 := by
        unfold f_X4_findOwnTrouble
        by_cases q1 : σ (439 + x.toNat) 5 < 1
        · rw [if_pos q1, if_pos q1, up2_same]
        · rw [if_neg q1, if_neg q1]
          by_cases q2 : σ (439 + x.toNat) 5 ≤ 12
          · rw [if_pos q2, if_pos q2]
          · rw [if_neg q2, if_neg q2, up2_same]
      generalize f_X4_findOwnTrouble σ (439 + x.toNat) = σ1 at o oj o7 ⊢
      obtain ⟨g1, g2⟩ := own_loop n (x + 1) σ1 m (by rw [o 13 (by omega)]; exact h5) hm (by omega) (by omega)
      refine ⟨fun y hy => by rw [g1 y hy, o y (by omega)], fun k hk => ?_⟩
      obtain ⟨g3, g4⟩ := g2 k hk
      by_cases w : k = x.toNat
      · subst w
        refine ⟨fun j hj => by rw [g3 j hj, oj j hj], ?_⟩
        rw [g4, if_pos (by omega), if_neg (by omega), o7]
      · refine ⟨fun j hj => by rw [g3 j hj, o _ (by omega)], ?_⟩
        rw [g4, o _ (by omega)]
        by_cases q : (k : Int) < x
        · rw [if_pos q, if_pos (by omega)]
        · rw [if_neg q, if_neg (by omega)]
