/-! plan: the steps. -/
theorem AlX.tr {τ : Sg} {c d e : Nat} {f : Int} (h : AlX τ c d f) (k : AlX τ d e f) : AlX τ c e f := by
  obtain ⟨a, b, h1⟩ := h
  obtain ⟨a', b', k1⟩ := k
  refine ⟨a.trans a', b.trans b', fun i hi => ?_⟩
  rcases h1 i hi with w | w
  · rcases k1 i (by omega) with z | z
    · exact Or.inl (w.trans z)
    · exact Or.inr ⟨z.1, by rw [w]; exact z.2⟩
  · rcases k1 i (by omega) with z | z
    · exact Or.inr ⟨w.1, by rw [← z]; exact w.2⟩
    · exact Or.inr ⟨w.1, w.2.trans z.2⟩
/-- two places of the class that are the same row of the reference -/
theorem PE.two {τ ρ : Sg} {c d r : Nat} {f : Int} (h : PE τ ρ c r) (k : PE τ ρ d r) : AlX τ c d f := by
  refine ⟨by rw [h.1, k.1], by rw [h.2.1, k.2.1], fun i hi => Or.inl ?_⟩
  rw [h.2.2 i hi, k.2.2 i (by rw [k.2.1, ← h.2.1]; exact hi)]
theorem sp_nm {τ : Sg} {c d : Nat} {f g : Int} (h : SpOK τ c f) (k : NmOK τ d) : ¬ AlX τ c d g := fun ⟨_, b, z⟩ => by
  have l : 1 ≤ τ c 2 := by rw [b]; exact k.1
  have n := k.2 0 (by have := k.1; omega)
  unfold nb at n
  rcases z 0 (by omega) with w | w
  · rw [h.1] at w; omega
  · have e := w.2
    rw [h.1] at e
    unfold f_X10_low at e
    rw [if_neg (by decide), if_pos (by decide)] at e
    repeat' split at e
    all_goals omega
theorem clear_spec {ρ : Sg} (h5 : ρ 28 5 ≤ 40) (a p : Int) : ∀ (n : Nat) (x : Int), 0 ≤ x → x ≤ 40 → 40 - x < (n : Int) → (L_X10_isClear_2 ρ a p n x = 1 ∧ ∀ o : Nat, x ≤ (o : Int) → (o : Int) < ρ 28 5 → (o : Int) ≠ a → ¬ ρ 32 o = 0 → f_X10_isAlike ρ (120 + (o : Int)) p = 0) ∨ (L_X10_isClear_2 ρ a p n x = 0 ∧ ∃ o : Nat, (o : Int) < ρ 28 5 ∧ (o : Int) ≠ a ∧ ¬ ρ 32 o = 0 ∧ ¬ f_X10_isAlike ρ (120 + (o : Int)) p = 0)
  | 0, x, h0, hx, f1 => by omega
  | n + 1, x, h0, hx, f1 => by
    rw [L_X10_isClear_2]
    by_cases c : ρ 28 5 ≤ x
    · rw [if_pos c]
      exact Or.inl ⟨rfl, fun o a b => by omega⟩
    · rw [if_neg c]
      have ih := clear_spec h5 a p n (x + 1) (by omega) (by omega) (by omega)
      have ex : ((x.toNat : Nat) : Int) = x := by omega
      have skip : (x = a ∨ ρ 32 x.toNat = 0 ∨ f_X10_isAlike ρ (120 + x) p = 0) → (L_X10_isClear_2 ρ a p n (x + 1) = 1 ∧ ∀ o : Nat, x ≤ (o : Int) → (o : Int) < ρ 28 5 → (o : Int) ≠ a → ¬ ρ 32 o = 0 → f_X10_isAlike ρ (120 + (o : Int)) p = 0) ∨ (L_X10_isClear_2 ρ a p n (x + 1) = 0 ∧ ∃ o : Nat, (o : Int) < ρ 28 5 ∧ (o : Int) ≠ a ∧ ¬ ρ 32 o = 0 ∧ ¬ f_X10_isAlike ρ (120 + (o : Int)) p = 0) := by
        intro hs
        rcases ih with ⟨i1, i2⟩ | i
        · refine Or.inl ⟨i1, fun o a1 b1 c1 d1 => ?_⟩
          by_cases w : (o : Int) = x
          · rcases hs with z | z | z
            · omega
            · rw [show x.toNat = o by omega] at z; exact absurd z d1
            · rw [w]; exact z
          · exact i2 o (by omega) b1 c1 d1
        · exact Or.inr i
      by_cases c2 : x = a
      · rw [if_pos c2]; exact skip (Or.inl c2)
      · rw [if_neg c2]
        by_cases c3 : ρ 32 x.toNat = 0
        · rw [if_pos c3]; exact skip (Or.inr (Or.inl c3))
        · rw [if_neg c3]
          by_cases c4 : f_X10_isAlike ρ (120 + x) p = 0
          · rw [if_pos c4]; exact skip (Or.inr (Or.inr c4))
          · rw [if_neg c4]
            exact Or.inr ⟨rfl, x.toNat, by omega, by omega, c3, by rw [ex]; exact c4⟩
/-- where the k-th planned file is just now -/
def cur (τ : Sg) (k : Nat) : Nat := if ¬ τ (439 + k) 11 = 0 then 201 + 6 * k else if ¬ τ (439 + k) 10 = 0 then 203 + 6 * k else 199 + 6 * k
theorem cur_rng (τ : Sg) {k : Nat} (hk : k < 40) : isPl (cur τ k) ∧ 199 ≤ cur τ k := by
  unfold cur
  repeat' split
  all_goals omega
/-- what does not move while the steps are found -/
def StB (τ ρ : Sg) (m : Nat) : Prop := SimS τ ρ ∧ SB τ ∧ E2 τ ρ m ∧ τ 13 5 = (m : Int) ∧ ρ 28 26 = (m : Int) ∧ m ≤ 40 ∧ (∀ k, k < m → FreeK τ m k ∧ good τ k) ∧ (∀ i j, i < m → j < m → ρ 42 i = ρ 42 j → i = j) ∧ (∀ k, k < m → ¬ ρ 32 (ρ 42 k).toNat = 0) ∧
  (∀ f g : Nat, (f : Int) < τ 3 3 → (g : Int) < τ 3 3 → f ≠ g → ¬ τ 5 f = 0 → ¬ τ 5 g = 0 → ¬ AlX τ (59 + 2 * f) (59 + 2 * g) (τ 3 5)) ∧ (∀ k, k < m → PE τ ρ (199 + 6 * k) (ρ 42 k).toNat ∧ SpOK τ (203 + 6 * k) (ρ 42 k) ∧ τ (203 + 6 * k) 1 = ρ 31 (ρ 42 k).toNat ∧ NmOK τ (201 + 6 * k) ∧ NmOK τ (199 + 6 * k) ∧ lenOK τ (199 + 6 * k) ∧ lenOK τ (203 + 6 * k))
/-- where the files are just now, on both sides -/
def CpE (τ ρ : Sg) (m : Nat) : Prop := (∀ k, k < m → PE τ ρ (cur τ k) (120 + (ρ 42 k).toNat) ∧ (τ (439 + k) 10 = 0 ∨ τ (439 + k) 10 = 1) ∧ (τ (439 + k) 11 = 0 ∨ τ (439 + k) 11 = 1) ∧ τ (439 + k) 10 = ρ 54 (ρ 42 k).toNat ∧ τ (439 + k) 11 = ρ 55 k ∧ (¬ τ (439 + k) 6 = 0 → τ (439 + k) 10 = 0 ∧ τ (439 + k) 11 = 0)) ∧
  (∀ o : Nat, (o : Int) < τ 3 3 → (∀ k, k < m → ρ 42 k ≠ (o : Int)) → PE τ ρ (59 + 2 * o) (120 + o))
theorem curLen {τ ρ : Sg} {m : Nat} (hB : StB τ ρ m) {k : Nat} (hk : k < m) : lenOK τ (cur τ k) := by
  obtain ⟨hS, hSB, hE, h5, h26, hm, hF, hD, hX, hU, hP⟩ := hB
  obtain ⟨p1, p2, p3, p4, p5, p6, p7⟩ := hP k hk
  unfold cur
  repeat' split
  · exact (hE k hk).2.2.2.2.2.2
  · exact p7
  · exact p6
/-- a planned file may go just if the one that it waits for has left -/
theorem clear_iff {τ ρ : Sg} {m k : Nat} (hB : StB τ ρ m) (hC : CpE τ ρ m) (hk : k < m) : f_X10_isClear ρ (ρ 42 k) (80 + (k : Int)) = 0 ↔ ∃ o : Nat, o < m ∧ τ (439 + k) 9 = (o : Int) ∧ τ (439 + o) 10 = 0 ∧ τ (439 + o) 11 = 0 := by
  have hB' := hB
  obtain ⟨hS, hSB, hE, h5, h26, hm, hF, hD, hX, hU, hP⟩ := hB'
  have b3 := hSB.1
  have e5 := hS.1
  have ek := hE k hk
  obtain ⟨⟨fr, fw⟩, gk⟩ := hF k hk
  have fas := fa_spec hSB (d := 201 + 6 * k) (τ (439 + k) 3) 41 0 (by omega) (by omega) (by omega)
  have fdef : f_X7_findAlike τ (201 + 6 * k) (τ (439 + k) 3) = L_X7_findAlike_2 τ (201 + 6 * k) (τ (439 + k) 3) 41 0 := by unfold f_X7_findAlike; rfl
  rw [← fdef, ek.1] at fas
  rw [ek.1] at fw
  -- which place of the class a copy is
  have alk : ∀ (c : Nat) (o : Nat), lenOK τ c → PE τ ρ c (120 + o) → (¬ f_X10_isAlike ρ (120 + (o : Int)) (80 + (k : Int)) = 0 ↔ AlX τ c (201 + 6 * k) (τ 3 5)) := fun c o l p => by
    have e := PE_alike l.2 p ek.2.2.2.2.2.1 hS.2.1
    rw [show ((120 + o : Nat) : Int) = 120 + (o : Int) by omega, show ((80 + k : Nat) : Int) = 80 + (k : Int) by omega] at e
    have x := isAlikeX (σ := τ) (c := c) (q := 201 + 6 * k) (a1 := τ 3 5) l.2
    rw [← e]
    exact ⟨fun z => x.2.mp (by rcases x.1 with w | w; exact absurd w z; exact w), fun z => by have := x.2.mpr z; omega⟩
  -- another file that lay there at first is the one that is waited for
  have wait : ∀ o : Nat, (o : Int) < τ 3 3 → (o : Int) ≠ ρ 42 k → ¬ τ 5 o = 0 → AlX τ (59 + 2 * o) (201 + 6 * k) (τ 3 5) → ∃ p : Nat, p < m ∧ τ (439 + k) 9 = (p : Int) ∧ ρ 42 p = (o : Int) := by
    intro o o1 o2 o3 o4
    rcases fw with ⟨w1, w2⟩ | ⟨p, w1, w2, w3, w4, w5, w6⟩
    · rcases fas with ⟨i1, i2⟩ | ⟨r, i1, i2, i3, i4, i5, i6⟩
      · exact absurd o4 (i2 o (by omega) o1 o2 o3)
      · omega
    · rcases fas with ⟨i1, i2⟩ | ⟨r, i1, i2, i3, i4, i5, i6⟩
      · exact absurd i1 w4
      · refine ⟨p, w1, w2, ?_⟩
        rw [i1, (hE p w1).1] at w3
        by_cases q : r = o
        · rw [w3, q]
        · exact absurd (o4.tr i6.sy) (hU o r o1 i3 (fun z => q z.symm) o3 i5)
  have csp := clear_spec (ρ := ρ) (by omega) (ρ 42 k) (80 + (k : Int)) 41 0 (by omega) (by omega) (by omega)
  have cdef : f_X10_isClear ρ (ρ 42 k) (80 + (k : Int)) = L_X10_isClear_2 ρ (ρ 42 k) (80 + (k : Int)) 41 0 := by unfold f_X10_isClear; rfl
  rw [← cdef] at csp
  constructor
  · intro hz
    rcases csp with ⟨i1, -⟩ | ⟨-, o, o1, o2, o3, o4⟩
    · omega
    · have ox : ¬ τ 5 o = 0 := by rw [hS.2.2.1 o (by omega)]; exact o3
      by_cases pl : ∃ j, j < m ∧ ρ 42 j = (o : Int)
      · obtain ⟨j, j1, j2⟩ := pl
        have jk : j ≠ k := fun z => o2 (by rw [← z, j2])
        obtain ⟨c1, c2, c3, -, -, -⟩ := hC.1 j j1
        have lc := curLen hB j1
        rw [show (ρ 42 j).toNat = o by omega] at c1
        have al := (alk (cur τ j) o lc c1).mp o4
        obtain ⟨p1, p2, p3, p4, p5, p6, p7⟩ := hP j j1
        unfold cur at al
        by_cases q1 : τ (439 + j) 11 = 0
        · rw [if_neg (by omega)] at al
          by_cases q2 : τ (439 + j) 10 = 0
          · rw [if_neg (by omega)] at al
            rw [show (ρ 42 j).toNat = o by omega] at p1
            have al2 : AlX τ (59 + 2 * o) (201 + 6 * k) (τ 3 5) := ((hS.2.2.2.1 o (by omega)).two p1).tr al
            obtain ⟨p, w1, w2, w3⟩ := wait o (by omega) o2 ox al2
            have ep : p = j := hD p j w1 j1 (by rw [w3, j2])
            subst ep
            exact ⟨p, j1, w2, q2, q1⟩
          · rw [if_pos (by omega)] at al
            exact absurd al (sp_nm p2 (hP k hk).2.2.2.1)
        · rw [if_pos (by omega)] at al
          exact absurd al (fr j j1 jk (hF j j1).2)
      · have pn : ∀ q, q < m → ρ 42 q ≠ (o : Int) := fun q hq z => pl ⟨q, hq, z⟩
        have al := (alk (59 + 2 * o) o (hSB.2 o (by omega)) (hC.2 o (by omega) pn)).mp o4
        obtain ⟨p, w1, w2, w3⟩ := wait o (by omega) o2 ox al
        exact absurd w3 (pn p w1)
  · rintro ⟨o, o1, o2, o3, o4⟩
    rcases fw with ⟨w1, w2⟩ | ⟨p, w1, w2, w3, w4, w5, w6⟩
    · omega
    · have ep : p = o := by omega
      subst ep
      rcases fas with ⟨i1, i2⟩ | ⟨r, i1, i2, i3, i4, i5, i6⟩
      · exact absurd i1 w4
      · rw [i1, (hE p w1).1] at w3
        rcases csp with ⟨-, c2⟩ | ⟨c1, -⟩
        · exfalso
          have cz := c2 r (by omega) (by omega) i4 (by rw [← hS.2.2.1 r (by omega)]; exact i5)
          obtain ⟨c1, -⟩ := hC.1 p w1
          have lc := curLen hB w1
          have ecur : cur τ p = 199 + 6 * p := by
            unfold cur
            rw [if_neg (by omega), if_neg (by omega)]
          rw [ecur] at c1 lc
          rw [show (ρ 42 p).toNat = r by omega] at c1
          have p1 := (hP p w1).1
          rw [show (ρ 42 p).toNat = r by omega] at p1
          have al : AlX τ (199 + 6 * p) (201 + 6 * k) (τ 3 5) := (p1.two (hS.2.2.2.1 r i3)).tr i6
          exact (alk (199 + 6 * p) r lc c1).mpr al cz
        · exact c1
theorem canGo_iff {τ ρ : Sg} {m k : Nat} (hB : StB τ ρ m) (hC : CpE τ ρ m) (hk : k < m) : f_X3_canGo τ (k : Int) = if τ (439 + k) 6 = 0 then (if τ (439 + k) 11 = 0 then (if f_X10_isClear ρ (ρ 42 k) (80 + (k : Int)) = 0 then 0 else 1) else 0) else 0 := by
  have ci := clear_iff hB hC hk
  obtain ⟨hS, hSB, hE, h5, h26, hm, hF, hD, hX, hU, hP⟩ := hB
  unfold f_X3_canGo f_X4_isLeft f_X3_hasPlanned f_X4_hasLeftOldPlace
  rw [Int.toNat_natCast, h5]
  by_cases c1 : τ (439 + k) 6 = 0
  · rw [if_pos c1, if_pos c1]
    by_cases c2 : τ (439 + k) 11 = 0
    · rw [if_pos c2, if_pos c2, if_neg (show ¬ (1 : Int) = 0 by decide)]
      by_cases c3 : f_X10_isClear ρ (ρ 42 k) (80 + (k : Int)) = 0
      · rw [if_pos c3]
        obtain ⟨o, o1, o2, o3, o4⟩ := ci.mp c3
        rw [o2, if_neg (show ¬ (o : Int) < 0 by omega), if_neg (show ¬ (m : Int) ≤ (o : Int) by omega), if_neg (show ¬ (1 : Int) = 0 by decide), Int.toNat_natCast, if_pos o3, if_pos o4, if_pos rfl]
      · rw [if_neg c3]
        by_cases d1 : τ (439 + k) 9 < 0
        · rw [if_pos d1, if_pos rfl]
        · rw [if_neg d1]
          by_cases d2 : (m : Int) ≤ τ (439 + k) 9
          · rw [if_pos d2, if_pos rfl]
          · rw [if_neg d2, if_neg (show ¬ (1 : Int) = 0 by decide)]
            have nz : ¬ (τ (439 + (τ (439 + k) 9).toNat) 10 = 0 ∧ τ (439 + (τ (439 + k) 9).toNat) 11 = 0) := fun z => c3 (ci.mpr ⟨(τ (439 + k) 9).toNat, by omega, by omega, z.1, z.2⟩)
            by_cases e1 : τ (439 + (τ (439 + k) 9).toNat) 10 = 0
            · rw [if_pos e1, if_neg (fun z => nz ⟨e1, z⟩), if_neg (show ¬ (1 : Int) = 0 by decide)]
            · rw [if_neg e1, if_neg (show ¬ (1 : Int) = 0 by decide)]
    · rw [if_neg c2, if_neg c2, if_pos rfl]
  · rw [if_neg c1, if_neg c1, if_pos rfl]
theorem next0_sim {τ ρ : Sg} {m : Nat} (hB : StB τ ρ m) (hC : CpE τ ρ m) : ∀ (n k : Nat) (b : Int), (b = -1 ∨ (0 ≤ b ∧ b < (m : Int))) → L_X3_leastThatCanGo_4 τ n b (k : Int) = L_X10_next_4 ρ 0 n b (k : Int)
  | 0, k, b, hb => rfl
  | n + 1, k, b, hb => by
    have hB' := hB
    obtain ⟨hS, hSB, hE, h5, h26, hm, hF, hD, hX, hU, hP⟩ := hB'
    rw [L_X3_leastThatCanGo_4, L_X10_next_4, h5, h26]
    by_cases c : (m : Int) ≤ (k : Int)
    · rw [if_pos c, if_pos c]
    · rw [if_neg c, if_neg c]
      have hk : k < m := by omega
      rw [canGo_iff hB hC hk, Int.toNat_natCast, (hE k hk).2.2.2.2.1, (hC.1 k hk).2.2.2.2.1, if_pos (show (0 : Int) = 0 from rfl), show ((k : Int) + 1) = ((k + 1 : Nat) : Int) by omega]
      have ih1 := next0_sim hB hC n (k + 1) b hb
      have ih2 := next0_sim hB hC n (k + 1) (k : Int) (Or.inr (by omega))
      by_cases c1 : ρ 47 k = 0
      · rw [if_pos c1, if_pos c1]
        by_cases c2 : ρ 55 k = 0
        · rw [if_pos c2, if_pos c2]
          by_cases c3 : f_X10_isClear ρ (ρ 42 k) (80 + (k : Int)) = 0
          · rw [if_pos c3, if_pos c3, if_pos rfl]
            exact ih1
          · rw [if_neg c3, if_neg c3, if_neg (show ¬ (1 : Int) = 0 by decide)]
            by_cases c4 : b = -1
            · rw [if_pos c4, if_pos c4]
              exact ih2
            · rw [if_neg c4, if_neg c4, (hE k hk).1, (hE b.toNat (by omega)).1, ih1, ih2]
        · rw [if_neg c2, if_neg c2, if_pos rfl]
          exact ih1
      · rw [if_neg c1, if_neg c1, if_pos rfl]
        exact ih1
theorem next1_sim {τ ρ : Sg} {m : Nat} (hB : StB τ ρ m) (hC : CpE τ ρ m) : ∀ (n k : Nat) (b : Int), (b = -1 ∨ (0 ≤ b ∧ b < (m : Int))) → L_X3_leastToSpare_4 τ n b (k : Int) = L_X10_next_4 ρ 1 n b (k : Int)
  | 0, k, b, hb => rfl
  | n + 1, k, b, hb => by
    have hB' := hB
    obtain ⟨hS, hSB, hE, h5, h26, hm, hF, hD, hX, hU, hP⟩ := hB'
    rw [L_X3_leastToSpare_4, L_X10_next_4, h5, h26]
    by_cases c : (m : Int) ≤ (k : Int)
    · rw [if_pos c, if_pos c]
    · rw [if_neg c, if_neg c]
      have hk : k < m := by omega
      unfold f_X4_isLeft
      rw [Int.toNat_natCast, (hE k hk).2.2.2.2.1, (hC.1 k hk).2.2.2.2.1, (hC.1 k hk).2.2.2.1, if_neg (show ¬ (1 : Int) = 0 by decide), show ((k : Int) + 1) = ((k + 1 : Nat) : Int) by omega]
      have ih1 := next1_sim hB hC n (k + 1) b hb
      have ih2 := next1_sim hB hC n (k + 1) (k : Int) (Or.inr (by omega))
      by_cases c1 : ρ 47 k = 0
      · rw [if_pos c1, if_pos c1]
        by_cases c2 : ρ 55 k = 0
        · rw [if_pos c2, if_pos c2, if_neg (show ¬ (1 : Int) = 0 by decide)]
          by_cases c3 : ρ 54 (ρ 42 k).toNat = 0
          · rw [if_pos c3, if_pos c3]
            by_cases c4 : b = -1
            · rw [if_pos c4, if_pos c4]
              exact ih2
            · rw [if_neg c4, if_neg c4, (hE k hk).1, (hE b.toNat (by omega)).1, ih1, ih2]
          · rw [if_neg c3, if_neg c3]
            exact ih1
        · rw [if_neg c2, if_neg c2, if_pos rfl]
          exact ih1
      · rw [if_neg c1, if_neg c1, if_pos rfl]
        exact ih1
