theorem writes0 {τ ρ : Sg} {m s k f : Nat} (h : SPI τ ρ m s) (hk : k < m) (hf : ρ 42 k = (f : Int)) (h11 : τ (439 + k) 11 = 0) : ∃ P3, f_X10_writes ρ (k : Int) 0 = up2 (up2 P3 55 k 1) 28 33 ((s : Int) + 1) ∧ WO τ ρ s f (cur τ k) (201 + 6 * k) 0 (τ (439 + k) 10) P3 := by
  obtain ⟨hB, hC, h7, h33, -⟩ := h
  have hB' := hB
  obtain ⟨hS, hSB, hE, h5, h26, hm, hF, hD, hX, hU, hP⟩ := hB'
  have ck := hC.1 k hk
  have hfk := (hE k hk).2.1
  have b3 := hSB.1
  have p0 := ck.1
  have e54 := ck.2.2.2.1
  rw [hf, Int.toNat_natCast] at p0 e54
  have ek := hE k hk
  have core : ∀ fl : Int, ∃ P3, WO τ ρ s f (cur τ k) (201 + 6 * k) 0 fl P3 ∧ (up2 (up2 (f_X10_copies (f_X10_keeps (f_X10_keeps (up2 (up2 (up2 ρ 48 s (f : Int)) 49 s 0) 50 s fl) (s : Int) 0 (120 + (f : Int))) ((f_X10_keeps (up2 (up2 (up2 ρ 48 s (f : Int)) 49 s 0) 50 s fl) (s : Int) 0 (120 + (f : Int))) 28 33) 1 (80 + (k : Int))) (80 + (k : Int)) (120 + (f : Int))) 55 k 1) 28 33 ((f_X10_copies (f_X10_keeps (f_X10_keeps (up2 (up2 (up2 ρ 48 s (f : Int)) 49 s 0) 50 s fl) (s : Int) 0 (120 + (f : Int))) ((f_X10_keeps (up2 (up2 (up2 ρ 48 s (f : Int)) 49 s 0) 50 s fl) (s : Int) 0 (120 + (f : Int))) 28 33) 1 (80 + (k : Int))) (80 + (k : Int)) (120 + (f : Int))) 28 33 + 1)) = up2 (up2 P3 55 k 1) 28 33 ((s : Int) + 1) := by
    intro fl
    have kf : ∀ x, x ≠ 51 → x ≠ 52 → x ≠ 53 → (f_X10_keeps (up2 (up2 (up2 ρ 48 s (f : Int)) 49 s 0) 50 s fl) (s : Int) 0 (120 + (f : Int))) x = (up2 (up2 (up2 ρ 48 s (f : Int)) 49 s 0) 50 s fl) x := fun x a b c => keeps_fr _ _ _ _ a b c
    have kr : ∀ x, (x < 48 ∨ 53 < x) → (f_X10_keeps (up2 (up2 (up2 ρ 48 s (f : Int)) 49 s 0) 50 s fl) (s : Int) 0 (120 + (f : Int))) x = ρ x := fun x hx => by rw [kf x (by omega) (by omega) (by omega), up2_cell _ _ _ (by omega), up2_cell _ _ _ (by omega), up2_cell _ _ _ (by omega)]
    have p1 : PE τ (f_X10_keeps (up2 (up2 (up2 ρ 48 s (f : Int)) 49 s 0) 50 s fl) (s : Int) 0 (120 + (f : Int))) (201 + 6 * k) (80 + k) := ek.2.2.2.2.2.1.mv ek.2.2.2.2.2.2.2 ⟨rfl, rfl⟩ (RowS.of (kr 29 (by decide)) (kr 30 (by decide)) (kr 31 (by decide)) _)
    obtain ⟨c1, c2, c3⟩ := core_ok (s := s) (f := f) (by
        have : True := trivial
        exact (show s < s + 1 by omega)) (by omega) h33 (curLen hB hk) ek.2.2.2.2.2.2 p0 0 fl (to := 80 + k) (by omega) _ (fun x _ _ _ => rfl) (fun r _ => RowS.rf _ _) p1
    rw [show ((80 + k : Nat) : Int) = 80 + (k : Int) by omega] at c1 c3
    rw [c2, c3]
    exact ⟨_, c1, rfl⟩
  unfold f_X10_writes
  rw [if_pos rfl, h33, Int.toNat_natCast, Int.toNat_natCast, hf, Int.toNat_natCast]
  by_cases q : ρ 54 f = 0
  · rw [if_pos q]
    obtain ⟨P3, c1, c2⟩ := core 0
    exact ⟨P3, c2, by rw [e54, q]; exact c1⟩
  · rw [if_neg q]
    obtain ⟨P3, c1, c2⟩ := core 1
    refine ⟨P3, c2, ?_⟩
    have : τ (439 + k) 10 = 1 := by rcases ck.2.1 with z | z; rw [e54] at z; exact absurd z q; exact z
    rw [this]
    exact c1
theorem writes1 {τ ρ : Sg} {m s k f : Nat} (h : SPI τ ρ m s) (hk : k < m) (hf : ρ 42 k = (f : Int)) (h11 : τ (439 + k) 11 = 0) (h10 : τ (439 + k) 10 = 0) : ∃ P3, f_X10_writes ρ (k : Int) 1 = up2 (up2 P3 54 f 1) 28 33 ((s : Int) + 1) ∧ WO τ ρ s f (cur τ k) (203 + 6 * k) 1 (τ (439 + k) 10) P3 := by
  obtain ⟨hB, hC, h7, h33, -⟩ := h
  have hB' := hB
  obtain ⟨hS, hSB, hE, h5, h26, hm, hF, hD, hX, hU, hP⟩ := hB'
  have ck := hC.1 k hk
  have hfk := (hE k hk).2.1
  have b3 := hSB.1
  have p0 := ck.1
  rw [hf, Int.toNat_natCast] at p0
  have ek := hE k hk
  obtain ⟨o1, o2, o3, o4, o5, o6, o7⟩ := hP k hk
  rw [hf] at o2
  rw [hf, Int.toNat_natCast] at o1 o3
  have ec : cur τ k = 199 + 6 * k := by
    unfold cur
    rw [if_neg (by omega), if_neg (by omega)]
  have kf : ∀ x, x ≠ 51 → x ≠ 52 → x ≠ 53 → (f_X10_keeps (up2 (up2 (up2 ρ 48 s (f : Int)) 49 s 1) 50 s 0) (s : Int) 0 (120 + (f : Int))) x = (up2 (up2 (up2 ρ 48 s (f : Int)) 49 s 1) 50 s 0) x := fun x a b c => keeps_fr _ _ _ _ a b c
  have kr : ∀ x, (x < 48 ∨ 53 < x) → (f_X10_keeps (up2 (up2 (up2 ρ 48 s (f : Int)) 49 s 1) 50 s 0) (s : Int) 0 (120 + (f : Int))) x = ρ x := fun x hx => by rw [kf x (by omega) (by omega) (by omega), up2_cell _ _ _ (by omega), up2_cell _ _ _ (by omega), up2_cell _ _ _ (by omega)]
  have fold : τ (203 + 6 * k) 1 = (f_X10_keeps (up2 (up2 (up2 ρ 48 s (f : Int)) 49 s 1) 50 s 0) (s : Int) 0 (120 + (f : Int))) 31 (120 + ((f : Int)).toNat) := by
    rw [kr 31 (by decide), Int.toNat_natCast, o3, ← o1.1]
    have := p0.1
    rw [ec] at this
    exact this
  obtain ⟨s1, s2⟩ := spare_ok (σ := f_X10_keeps (up2 (up2 (up2 ρ 48 s (f : Int)) 49 s 1) 50 s 0) (s : Int) 0 (120 + (f : Int))) (f := (f : Int)) (by omega) o2 fold
  have sf : ∀ x, x ≠ 29 → x ≠ 30 → x ≠ 31 → (f_X10_spare (f_X10_keeps (up2 (up2 (up2 ρ 48 s (f : Int)) 49 s 1) 50 s 0) (s : Int) 0 (120 + (f : Int))) (f : Int)) x = (f_X10_keeps (up2 (up2 (up2 ρ 48 s (f : Int)) 49 s 1) 50 s 0) (s : Int) 0 (120 + (f : Int))) x := fun x a b c => spare_fr _ _ a b c
  obtain ⟨c1, c2, c3⟩ := core_ok (s := s) (f := f) (by
      have : True := trivial
      exact (show s < s + 1 by omega)) (by omega) h33 (curLen hB hk) o7 p0 1 0 (to := 70) (by omega) _ sf s2 s1
  rw [show ((70 : Nat) : Int) = 70 by decide] at c1 c3
  unfold f_X10_writes
  rw [if_neg (show ¬ (1 : Int) = 0 by decide), h33, Int.toNat_natCast, Int.toNat_natCast, hf, Int.toNat_natCast, c2, c3]
  exact ⟨_, rfl, by rw [h10]; exact c1⟩
theorem least0_spec {τ : Sg} {m : Nat} (h5 : τ 13 5 = (m : Int)) : ∀ (n k : Nat) (b : Int), m - k < n → k ≤ m → (b = -1 ∨ (0 ≤ b ∧ b < (m : Int) ∧ ¬ f_X3_canGo τ b = 0)) → (L_X3_leastThatCanGo_4 τ n b (k : Int) = -1 ∧ b = -1 ∧ ∀ q : Nat, k ≤ q → q < m → f_X3_canGo τ (q : Int) = 0) ∨ (∃ r : Nat, L_X3_leastThatCanGo_4 τ n b (k : Int) = (r : Int) ∧ r < m ∧ ¬ f_X3_canGo τ (r : Int) = 0)
  | 0, k, b, f1, hk, hb => by omega
  | n + 1, k, b, f1, hk, hb => by
    rw [L_X3_leastThatCanGo_4, h5]
    by_cases c : (m : Int) ≤ (k : Int)
    · rw [if_pos c]
      rcases hb with z | z
      · exact Or.inl ⟨z, z, fun q a b => by omega⟩
      · exact Or.inr ⟨b.toNat, by omega, by omega, by rw [show ((b.toNat : Nat) : Int) = b by omega]; exact z.2.2⟩
    · rw [if_neg c, show ((k : Int) + 1) = ((k + 1 : Nat) : Int) by omega]
      by_cases c1 : f_X3_canGo τ (k : Int) = 0
      · rw [if_pos c1]
        rcases least0_spec h5 n (k + 1) b (by omega) (by omega) hb with ⟨i1, i2, i3⟩ | i
        · refine Or.inl ⟨i1, i2, fun q a d => ?_⟩
          by_cases e : q = k
          · subst e; exact c1
          · exact i3 q (by omega) d
        · exact Or.inr i
      · have ihk := least0_spec h5 n (k + 1) (k : Int) (by omega) (by omega) (Or.inr ⟨by omega, by omega, c1⟩)
        have fk : ∃ r : Nat, L_X3_leastThatCanGo_4 τ n (k : Int) ((k + 1 : Nat) : Int) = (r : Int) ∧ r < m ∧ ¬ f_X3_canGo τ (r : Int) = 0 := by
          rcases ihk with ⟨-, i2, -⟩ | i
          · omega
          · exact i
        rw [if_neg c1]
        by_cases c2 : b = -1
        · rw [if_pos c2]; exact Or.inr fk
        · rw [if_neg c2]
          have fb : ∃ r : Nat, L_X3_leastThatCanGo_4 τ n b ((k + 1 : Nat) : Int) = (r : Int) ∧ r < m ∧ ¬ f_X3_canGo τ (r : Int) = 0 := by
            rcases least0_spec h5 n (k + 1) b (by omega) (by omega) hb with ⟨-, i2, -⟩ | i
            · exact absurd i2 c2
            · exact i
          split
          · exact Or.inr fb
          · exact Or.inr fk
def cand1 (τ : Sg) (q : Nat) : Prop := ¬ f_X4_isLeft τ (439 + q) = 0 ∧ τ (439 + q) 10 = 0
theorem least1_spec {τ : Sg} {m : Nat} (h5 : τ 13 5 = (m : Int)) : ∀ (n k : Nat) (b : Int), m - k < n → k ≤ m → (b = -1 ∨ (0 ≤ b ∧ b < (m : Int) ∧ cand1 τ b.toNat)) → (L_X3_leastToSpare_4 τ n b (k : Int) = -1 ∧ b = -1 ∧ ∀ q : Nat, k ≤ q → q < m → ¬ cand1 τ q) ∨ (∃ r : Nat, L_X3_leastToSpare_4 τ n b (k : Int) = (r : Int) ∧ r < m ∧ cand1 τ r)
  | 0, k, b, f1, hk, hb => by omega
  | n + 1, k, b, f1, hk, hb => by
    rw [L_X3_leastToSpare_4, h5]
    by_cases c : (m : Int) ≤ (k : Int)
    · rw [if_pos c]
      rcases hb with z | z
      · exact Or.inl ⟨z, z, fun q a b => by omega⟩
      · exact Or.inr ⟨b.toNat, by omega, by omega, z.2.2⟩
    · rw [if_neg c, Int.toNat_natCast, show ((k : Int) + 1) = ((k + 1 : Nat) : Int) by omega]
      have skip : ¬ cand1 τ k → (L_X3_leastToSpare_4 τ n b ((k + 1 : Nat) : Int) = -1 ∧ b = -1 ∧ ∀ q : Nat, k ≤ q → q < m → ¬ cand1 τ q) ∨ (∃ r : Nat, L_X3_leastToSpare_4 τ n b ((k + 1 : Nat) : Int) = (r : Int) ∧ r < m ∧ cand1 τ r) := by
        intro nc
        rcases least1_spec h5 n (k + 1) b (by omega) (by omega) hb with ⟨i1, i2, i3⟩ | i
        · refine Or.inl ⟨i1, i2, fun q a d => ?_⟩
          by_cases e : q = k
          · subst e; exact nc
          · exact i3 q (by omega) d
        · exact Or.inr i
      by_cases c1 : f_X4_isLeft τ (439 + k) = 0
      · rw [if_pos c1]
        exact skip (fun z => z.1 c1)
      · rw [if_neg c1]
        by_cases c2 : τ (439 + k) 10 = 0
        · rw [if_pos c2]
          have ihk := least1_spec h5 n (k + 1) (k : Int) (by omega) (by omega) (Or.inr ⟨by omega, by omega, by rw [Int.toNat_natCast]; exact ⟨c1, c2⟩⟩)
          have fk : ∃ r : Nat, L_X3_leastToSpare_4 τ n (k : Int) ((k + 1 : Nat) : Int) = (r : Int) ∧ r < m ∧ cand1 τ r := by
            rcases ihk with ⟨-, i2, -⟩ | i
            · omega
            · exact i
          by_cases c3 : b = -1
          · rw [if_pos c3]; exact Or.inr fk
          · rw [if_neg c3]
            have fb : ∃ r : Nat, L_X3_leastToSpare_4 τ n b ((k + 1 : Nat) : Int) = (r : Int) ∧ r < m ∧ cand1 τ r := by
              rcases least1_spec h5 n (k + 1) b (by omega) (by omega) hb with ⟨-, i2, -⟩ | i
              · exact absurd i2 c3
              · exact i
            split
            · exact Or.inr fb
            · exact Or.inr fk
        · rw [if_neg c2]
          exact skip (fun z => c2 z.2)
theorem sm_le2 {f : Nat → Int} : ∀ {n : Nat}, (∀ i, i < n → 0 ≤ f i ∧ f i ≤ 2) → 0 ≤ sm f n ∧ sm f n ≤ 2 * (n : Int)
  | 0, _ => by simp [sm]
  | n + 1, h => by
    have := sm_le2 (n := n) (fun i hi => h i (by omega))
    have := h n (by omega)
    rw [sm_step]
    omega
theorem sm_lt2 {f : Nat → Int} {k : Nat} : ∀ {n : Nat}, (∀ i, i < n → 0 ≤ f i ∧ f i ≤ 2) → k < n → sm f n ≤ 2 * (n : Int) - 2 + f k
  | 0, _, h => by omega
  | n + 1, h, hk => by
    have a := sm_le2 (n := n) (fun i hi => h i (by omega))
    have b := h n (by omega)
    rw [sm_step]
    by_cases e : k = n
    · subst e; omega
    · have := sm_lt2 (k := k) (n := n) (fun i hi => h i (by omega)) (by omega)
      omega
theorem steps68_0 (σ : Sg) : ∀ n : Nat, L_X10_findSteps_68 n 0 σ = σ
  | 0 => rfl
  | n + 1 => by rw [L_X10_findSteps_68, if_pos rfl]
theorem steps_loop {m : Nat} : ∀ (n n' s : Nat) (τ ρ : Sg), SPI τ ρ m s → 80 < n + s → 81 < n' + s → ∃ s', SPI (L_X3_findSteps_10 n (s : Int) τ) (L_X10_findSteps_68 n' 1 ρ) m s' ∧ (∀ k, k < m → (L_X3_findSteps_10 n (s : Int) τ) (439 + k) 6 = 0 → (L_X3_findSteps_10 n (s : Int) τ) (439 + k) 11 = 1) ∧ SFr τ (L_X3_findSteps_10 n (s : Int) τ) ∧ SFM ρ (L_X10_findSteps_68 n' 1 ρ)
  | 0, n', s, τ, ρ, h, f1, f2 => by
    obtain ⟨hB, hC, h7, h33, hSE, hI2, hI3, hI4, hsm⟩ := h
    have hm := hB.2.2.2.2.2.1
    have := sm_le2 (f := fun k => τ (439 + k) 10 + τ (439 + k) 11) (n := m) (fun i hi => by have := hC.1 i hi; omega)
    omega
  | n + 1, 0, s, τ, ρ, h, f1, f2 => by
    obtain ⟨hB, hC, h7, h33, hSE, hI2, hI3, hI4, hsm⟩ := h
    have hm := hB.2.2.2.2.2.1
    have := sm_le2 (f := fun k => τ (439 + k) 10 + τ (439 + k) 11) (n := m) (fun i hi => by have := hC.1 i hi; omega)
    omega
  | n + 1, n' + 1, s, τ, ρ, h, f1, f2 => by
    have h' := h
    obtain ⟨hB, hC, h7, h33, hSE, hI2, hI3, hI4, hsm⟩ := h'
    have hB' := hB
    obtain ⟨hS, hSB, hE, h5, h26, hm, hF, hD, hX, hU, hP⟩ := hB'
    have le := sm_le2 (f := fun k => τ (439 + k) 10 + τ (439 + k) 11) (n := m) (fun i hi => by have := hC.1 i hi; omega)
    have n0 : f_X3_leastThatCanGo τ = f_X10_next ρ 0 := by
      have := next0_sim hB hC 41 0 (-1) (Or.inl rfl)
      rw [show ((0 : Nat) : Int) = 0 by decide] at this
      unfold f_X3_leastThatCanGo f_X10_next
      exact this
    have n1 : f_X3_leastToSpare τ = f_X10_next ρ 1 := by
      have := next1_sim hB hC 41 0 (-1) (Or.inl rfl)
      rw [show ((0 : Nat) : Int) = 0 by decide] at this
      unfold f_X3_leastToSpare f_X10_next
      exact this
    have sp0 := least0_spec h5 41 0 (-1) (by omega) (by omega) (Or.inl rfl)
    have sp1 := least1_spec h5 41 0 (-1) (by omega) (by omega) (Or.inl rfl)
    rw [show ((0 : Nat) : Int) = 0 by decide] at sp0 sp1
    have d0 : f_X3_leastThatCanGo τ = L_X3_leastThatCanGo_4 τ 41 (-1) 0 := by unfold f_X3_leastThatCanGo; rfl
    have d1 : f_X3_leastToSpare τ = L_X3_leastToSpare_4 τ 41 (-1) 0 := by unfold f_X3_leastToSpare; rfl
    rw [← d0] at sp0
    rw [← d1] at sp1
    rw [L_X3_findSteps_10, L_X10_findSteps_68, if_neg (show ¬ (1 : Int) = 0 by decide), ← n0, ← n1]
    -- what a file must be that may still go
    have left : ∀ r : Nat, ¬ f_X3_canGo τ (r : Int) = 0 → τ (439 + r) 6 = 0 ∧ τ (439 + r) 11 = 0 := fun r hr => by
      unfold f_X3_canGo f_X4_isLeft at hr
      rw [Int.toNat_natCast] at hr
      by_cases z6 : τ (439 + r) 6 = 0
      · by_cases z11 : τ (439 + r) 11 = 0
        · exact ⟨z6, z11⟩
        · rw [if_pos z6, if_neg z11, if_pos rfl] at hr
          exact absurd rfl hr
      · rw [if_neg z6, if_pos rfl] at hr
        exact absurd rfl hr
    have left1 : ∀ r : Nat, cand1 τ r → τ (439 + r) 6 = 0 ∧ τ (439 + r) 11 = 0 ∧ τ (439 + r) 10 = 0 := fun r hr => by
      have a := hr.1
      unfold f_X4_isLeft at a
      by_cases z6 : τ (439 + r) 6 = 0
      · by_cases z11 : τ (439 + r) 11 = 0
        · exact ⟨z6, z11, hr.2⟩
        · rw [if_pos z6, if_neg z11] at a
          exact absurd rfl a
      · rw [if_neg z6] at a
        exact absurd rfl a
    by_cases c80 : 80 ≤ (s : Int)
    · -- all have gone
      have all : ∀ k, k < m → τ (439 + k) 11 = 1 := fun k hk => by
        have := sm_lt2 (f := fun k => τ (439 + k) 10 + τ (439 + k) 11) (k := k) (n := m) (fun i hi => by have := hC.1 i hi; omega) hk
        have := hC.1 k hk
        omega
      have m0 : f_X3_leastThatCanGo τ = -1 := by
        rcases sp0 with z | ⟨r, z1, z2, z3⟩
        · exact z.1
        · have := all r z2
          have := left r z3
          omega
      have m1 : f_X3_leastToSpare τ = -1 := by
        rcases sp1 with z | ⟨r, z1, z2, z3⟩
        · exact z.1
        · have := all r z2
          have := left1 r z3
          omega
      rw [if_pos c80, if_pos m0, if_pos m1, steps68_0]
      exact ⟨s, h, fun k hk _ => all k hk, ⟨fun _ _ _ _ _ _ => rfl, fun _ _ => rfl, fun _ _ _ _ => rfl⟩, ⟨fun _ _ => rfl, fun _ _ _ => rfl, fun _ _ _ => RowS.rf _ _⟩⟩
    · rw [if_neg c80]
      have sfr : ∀ (k : Nat) (a1 : Int) (sl : Nat), (sl = 10 ∨ sl = 11) → SFr τ (up2 (f_X3_addStep τ (k : Int) a1) (439 + k) sl 1) := fun k a1 sl hsl => by
        have ax : ∀ x, x ≠ 13 → x ≠ 15 → x ≠ 16 → x ≠ 17 → (f_X3_addStep τ (k : Int) a1) x = τ x := fun x u1 u2 u3 u4 => by
          unfold f_X3_addStep
          rw [up2_cell _ _ _ u1, up2_cell _ _ _ u4, up2_cell _ _ _ u3, up2_cell _ _ _ u2]
        refine ⟨fun x u1 u2 u3 u4 u5 => by rw [up2_cell _ _ _ (by omega), ax x u2 u3 u4 u5], fun j hj => ?_, fun q sl' u v => ?_⟩
        · rw [up2_cell _ _ _ (by omega)]
          unfold f_X3_addStep
          rw [up2_slot _ _ hj, up2_cell _ _ _ (by decide), up2_cell _ _ _ (by decide), up2_cell _ _ _ (by decide)]
        · by_cases e : q = k
          · subst e
            rw [up2_slot _ _ (by omega), ax _ (by omega) (by omega) (by omega) (by omega)]
          · rw [up2_cell _ _ _ (by omega), ax _ (by omega) (by omega) (by omega) (by omega)]
      have sfm : ∀ (P3 ρ' : Sg) (f c0 c1 : Nat) (a1 fl : Int), f < 40 → WO τ ρ s f c0 c1 a1 fl P3 → (∀ j, j ≠ 33 → ρ' 28 j = P3 28 j) → (∀ x, x ≠ 28 → x ≠ 54 → x ≠ 55 → ρ' x = P3 x) → SFM ρ ρ' := fun P3 ρ' f c0 c1 a1 fl hf40 hw r28 rx => by
        obtain ⟨w1, w2, w3, w4, w5, w6, w7, w8, w9⟩ := hw
        exact ⟨fun j hj => by rw [r28 j hj, w9 28 (by decide) (by decide)], fun x a b => by rw [rx x (by omega) (by omega) (by omega), w9 x (by omega) (by omega)], fun r a b => (w8 r (by omega) b).tr (RowS.of (rx 29 (by decide) (by decide) (by decide)) (rx 30 (by decide) (by decide) (by decide)) (rx 31 (by decide) (by decide) (by decide)) r)⟩
      have b3 := hSB.1
      rcases sp0 with ⟨z1, -, z3⟩ | ⟨k, z1, z2, z3⟩
      · rw [if_pos z1, if_pos z1]
        rcases sp1 with ⟨y1, -, y3⟩ | ⟨k, y1, y2, y3⟩
        · rw [if_pos y1, if_pos y1, steps68_0]
          refine ⟨s, h, fun k hk h6 => ?_, ⟨fun _ _ _ _ _ _ => rfl, fun _ _ => rfl, fun _ _ _ _ => rfl⟩, ⟨fun _ _ => rfl, fun _ _ _ => rfl, fun _ _ _ => RowS.rf _ _⟩⟩
          -- nothing is left
          have lft : ∀ q, q < m → τ (439 + q) 6 = 0 → τ (439 + q) 11 = 0 → ¬ τ (439 + q) 10 = 0 := fun q hq q6 q11 q10 => y3 q (by omega) hq ⟨by unfold f_X4_isLeft; rw [if_pos q6, if_pos q11]; decide, q10⟩
          rcases (hC.1 k hk).2.2.1 with q11 | q11
          · exfalso
            have cg := z3 k (by omega) hk
            unfold f_X3_canGo f_X4_isLeft f_X3_hasPlanned f_X4_hasLeftOldPlace at cg
            rw [Int.toNat_natCast, if_pos h6, if_pos q11, if_neg (show ¬ (1 : Int) = 0 by decide), h5] at cg
            by_cases e1 : τ (439 + k) 9 < 0
            · rw [if_pos e1, if_pos rfl] at cg
              omega
            · rw [if_neg e1] at cg
              by_cases e2 : (m : Int) ≤ τ (439 + k) 9
              · rw [if_pos e2, if_pos rfl] at cg
                omega
              · rw [if_neg e2, if_neg (show ¬ (1 : Int) = 0 by decide)] at cg
                rcases (hF k hk).1.2 with ⟨-, w⟩ | ⟨o, w1, w2, w3, w4, w5, w6⟩
                · omega
                · rw [w2, Int.toNat_natCast] at cg
                  by_cases e3 : τ (439 + o) 10 = 0
                  · rw [if_pos e3] at cg
                    by_cases e4 : τ (439 + o) 11 = 0
                    · exact lft o w1 w6 e4 e3
                    · rw [if_neg e4, if_neg (show ¬ (1 : Int) = 0 by decide)] at cg
                      omega
                  · rw [if_neg e3, if_neg (show ¬ (1 : Int) = 0 by decide)] at cg
                    omega
          · exact q11
        · rw [y1, if_neg (show ¬ (k : Int) = -1 by omega), if_neg (show ¬ (k : Int) = -1 by omega), Int.toNat_natCast]
          obtain ⟨l6, l11, l10⟩ := left1 k y3
          have hfk := (hE k y2).2.1
          have ef : ρ 42 k = (((ρ 42 k).toNat : Nat) : Int) := by omega
          obtain ⟨P3, w1, w2⟩ := writes1 h y2 ef l11 l10
          rw [w1]
          have r28 : ∀ j, j ≠ 33 → (up2 (up2 P3 54 (ρ 42 k).toNat 1) 28 33 ((s : Int) + 1)) 28 j = P3 28 j := fun j hj => by rw [up2_slot _ _ hj, up2_cell _ _ _ (by decide)]
          have rx : ∀ x, x ≠ 28 → x ≠ 54 → x ≠ 55 → (up2 (up2 P3 54 (ρ 42 k).toNat 1) 28 33 ((s : Int) + 1)) x = P3 x := fun x a b _ => by rw [up2_cell _ _ _ a, up2_cell _ _ _ b]
          have st := step_ok (ρ' := up2 (up2 P3 54 (ρ 42 k).toNat 1) 28 33 ((s : Int) + 1)) h y2 ef l6 l11 (a1 := 1) (Or.inr ⟨rfl, l10⟩) (by rw [if_neg (by decide)]; exact w2) r28 (up2_same _ _ _ _) rx (by rw [if_neg (by decide), up2_cell _ _ _ (by decide), up2_row]) (by rw [if_neg (by decide), up2_cell _ _ _ (by decide), up2_cell _ _ _ (by decide)])
          rw [if_neg (show ¬ (1 : Int) = 0 by decide)] at st
          obtain ⟨s', g1, g2, g3, g4⟩ := steps_loop n n' (s + 1) _ _ st (by omega) (by omega)
          rw [show ((s + 1 : Nat) : Int) = (s : Int) + 1 by omega] at g1 g2 g3
          have q1 := sfr k 1 10 (Or.inl rfl)
          have q2 := sfm P3 _ _ _ _ 1 _ (by omega) w2 r28 rx
          exact ⟨s', g1, g2, ⟨fun x u1 u2 u3 u4 u5 => (g3.1 x u1 u2 u3 u4 u5).trans (q1.1 x u1 u2 u3 u4 u5), fun j hj => (g3.2.1 j hj).trans (q1.2.1 j hj), fun q sl u v => (g3.2.2 q sl u v).trans (q1.2.2 q sl u v)⟩, ⟨fun j hj => (g4.1 j hj).trans (q2.1 j hj), fun x a b => (g4.2.1 x a b).trans (q2.2.1 x a b), fun r a b => (q2.2.2 r a b).tr (g4.2.2 r a b)⟩⟩
      · rw [z1, if_neg (show ¬ (k : Int) = -1 by omega), if_neg (show ¬ (k : Int) = -1 by omega), Int.toNat_natCast]
        obtain ⟨l6, l11⟩ := left k z3
        have hfk := (hE k z2).2.1
        have ef : ρ 42 k = (((ρ 42 k).toNat : Nat) : Int) := by omega
        obtain ⟨P3, w1, w2⟩ := writes0 h z2 ef l11
        rw [w1]
        have r28 : ∀ j, j ≠ 33 → (up2 (up2 P3 55 k 1) 28 33 ((s : Int) + 1)) 28 j = P3 28 j := fun j hj => by rw [up2_slot _ _ hj, up2_cell _ _ _ (by decide)]
        have rx : ∀ x, x ≠ 28 → x ≠ 54 → x ≠ 55 → (up2 (up2 P3 55 k 1) 28 33 ((s : Int) + 1)) x = P3 x := fun x a _ b => by rw [up2_cell _ _ _ a, up2_cell _ _ _ b]
        have st := step_ok (ρ' := up2 (up2 P3 55 k 1) 28 33 ((s : Int) + 1)) h z2 ef l6 l11 (a1 := 0) (Or.inl rfl) (by rw [if_pos rfl]; exact w2) r28 (up2_same _ _ _ _) rx (by rw [if_pos rfl, up2_cell _ _ _ (by decide), up2_cell _ _ _ (by decide)]) (by rw [if_pos rfl, up2_cell _ _ _ (by decide), up2_row])
        rw [if_pos rfl] at st
        obtain ⟨s', g1, g2, g3, g4⟩ := steps_loop n n' (s + 1) _ _ st (by omega) (by omega)
        rw [show ((s + 1 : Nat) : Int) = (s : Int) + 1 by omega] at g1 g2 g3
        have q1 := sfr k 0 11 (Or.inr rfl)
        have q2 := sfm P3 _ _ _ _ 0 _ (by omega) w2 r28 rx
        exact ⟨s', g1, g2, ⟨fun x u1 u2 u3 u4 u5 => (g3.1 x u1 u2 u3 u4 u5).trans (q1.1 x u1 u2 u3 u4 u5), fun j hj => (g3.2.1 j hj).trans (q1.2.1 j hj), fun q sl u v => (g3.2.2 q sl u v).trans (q1.2.2 q sl u v)⟩, ⟨fun j hj => (g4.1 j hj).trans (q2.1 j hj), fun x a b => (g4.2.1 x a b).trans (q2.2.1 x a b), fun r a b => (q2.2.2 r a b).tr (g4.2.2 r a b)⟩⟩
