theorem fa_cg2 {τ τ' : Sg} (h : ∀ x, (x = 3 ∨ x = 5 ∨ (57 ≤ x ∧ x < 439)) → τ' x = τ x) (hB : SB τ) {d : Nat} (hd : 57 ≤ d ∧ d < 438) (b : Int) : f_X7_findAlike τ' d b = f_X7_findAlike τ d b := by
  have b3 := hB.1
  have lp : ∀ (n : Nat) (x : Int), 0 ≤ x → L_X7_findAlike_2 τ' d b n x = L_X7_findAlike_2 τ d b n x := by
    intro n
    induction n with
    | zero => intro x _; rfl
    | succ n ih =>
      intro x h0
      rw [L_X7_findAlike_2, L_X7_findAlike_2, h 3 (by omega), h 5 (by omega), ih (x + 1) (by omega)]
      by_cases c : τ 3 3 ≤ x
      · rw [if_pos c, if_pos c]
      · rw [isAlike_cg (h _ (by omega)) (h _ (by omega)) (h _ (by omega)) (h _ (by omega))]
  exact lp 41 0 (by omega)
theorem SimS.tf2 {τ τ' ρ ρ' : Sg} (h : SimS τ ρ) (hB : SB τ) (e3 : τ' 3 = τ 3) (e5 : τ' 5 = τ 5) (hf : ∀ x, 59 ≤ x → x < 139 → τ' x = τ x) (g28 : ∀ k, (k = 4 ∨ k = 5) → ρ' 28 k = ρ 28 k) (g32 : ρ' 32 = ρ 32) (hr : ∀ r, r < 40 → RowS ρ ρ' r) : SimS τ' ρ' := by
  have b3 := hB.1
  refine ⟨by rw [e3, g28 5 (by omega)]; exact h.1, by rw [e3, g28 4 (by omega)]; exact h.2.1, fun f hf' => ?_, fun f hf' => ?_, by rw [e3, e5]; exact h.2.2.2.2⟩
  · rw [e3] at hf'
    rw [e5, g32]; exact h.2.2.1 f hf'
  · rw [e3] at hf'
    exact (h.2.2.2.1 f hf').mv (hB.2 f (by omega)).2 ⟨hf _ (by omega) (by omega), hf _ (by omega) (by omega)⟩ (hr f (by omega))
/-- what writing steps leaves alone in the class -/
def SFr (τ τ' : Sg) : Prop := (∀ x, x < 439 → x ≠ 13 → x ≠ 15 → x ≠ 16 → x ≠ 17 → τ' x = τ x) ∧ (∀ s, s ≠ 7 → τ' 13 s = τ 13 s) ∧ ∀ q s : Nat, s ≠ 10 → s ≠ 11 → τ' (439 + q) s = τ (439 + q) s
def SFM (ρ ρ' : Sg) : Prop := (∀ k, k ≠ 33 → ρ' 28 k = ρ 28 k) ∧ (∀ x, (x < 28 ∨ 31 < x) → (x < 48 ∨ 55 < x) → ρ' x = ρ x) ∧ ∀ r, r < 120 → r ≠ 70 → RowS ρ ρ' r
theorem StB.mv {τ τ' ρ ρ' : Sg} {m : Nat} (h : StB τ ρ m) (f : SFr τ τ') (g : SFM ρ ρ') : StB τ' ρ' m := by
  obtain ⟨hS, hSB, hE, h5, h26, hm, hF, hD, hX, hU, hP⟩ := h
  have b3 := hSB.1
  have e3 : τ' 3 = τ 3 := f.1 3 (by decide) (by decide) (by decide) (by decide) (by decide)
  have e5 : τ' 5 = τ 5 := f.1 5 (by decide) (by decide) (by decide) (by decide) (by decide)
  have ep : ∀ x, 57 ≤ x → x < 439 → τ' x = τ x := fun x a b => f.1 x b (by omega) (by omega) (by omega) (by omega)
  have e42 : ρ' 42 = ρ 42 := g.2.1 42 (by decide) (by decide)
  have gdI : ∀ q, good τ' q ↔ good τ q := fun q => by unfold good; rw [f.2.2 q 5 (by decide) (by decide)]
  refine ⟨hS.tf2 hSB e3 e5 (fun x u v => ep x (by omega) (by omega)) (fun k hk => g.1 k (by omega)) (g.2.1 32 (by decide) (by decide)) (fun r hr => g.2.2 r (by omega) (by omega)), ⟨by rw [e3]; exact hSB.1, fun q hq => by unfold lenOK; rw [ep _ (by omega) (by omega)]; exact hSB.2 q hq⟩, fun k hk => ?_, by rw [f.2.1 5 (by decide)]; exact h5, by rw [g.1 26 (by decide)]; exact h26, hm, fun k hk => ⟨?_, ?_⟩, by rw [e42]; exact hD, ?_, ?_, fun k hk => ?_⟩
  · obtain ⟨y1, y2, y3, y4, y5, y6, y7⟩ := hE k hk
    refine ⟨by rw [f.2.2 k 3 (by decide) (by decide), e42]; exact y1, by rw [e42, e3]; exact y2, by rw [f.2.2 k 4 (by decide) (by decide), g.2.1 43 (by decide) (by decide)]; exact y3, by rw [f.2.2 k 5 (by decide) (by decide), g.2.1 44 (by decide) (by decide)]; exact y4, by rw [f.2.2 k 6 (by decide) (by decide), g.2.1 47 (by decide) (by decide)]; exact y5, y6.mv y7.2 ⟨ep _ (by omega) (by omega), ep _ (by omega) (by omega)⟩ (g.2.2 _ (by omega) (by omega)), by rw [ep _ (by omega) (by omega)]; exact y7⟩
  · obtain ⟨⟨z1, z2⟩, -⟩ := hF k hk
    have efa : f_X7_findAlike τ' (201 + 6 * k) (τ' (439 + k) 3) = f_X7_findAlike τ (201 + 6 * k) (τ (439 + k) 3) := by
      rw [f.2.2 k 3 (by decide) (by decide)]
      exact fa_cg2 (fun x hx => by
        rcases hx with w | w | w
        · rw [w]; exact e3
        · rw [w]; exact e5
        · exact ep x w.1 w.2) hSB (by omega) _
    refine ⟨fun x x1 x2 x3 => ?_, ?_⟩
    · rw [e3, AlX.mv (ep _ (by omega) (by omega)) (ep _ (by omega) (by omega)) (ep _ (by omega) (by omega)) (ep _ (by omega) (by omega))]
      exact z1 x x1 x2 ((gdI x).mp x3)
    · rw [efa, f.2.2 k 9 (by decide) (by decide)]
      rcases z2 with w | ⟨o, w1, w2, w3, w4, w5, w6⟩
      · exact Or.inl w
      · exact Or.inr ⟨o, w1, w2, by rw [f.2.2 o 3 (by decide) (by decide)]; exact w3, w4, (gdI o).mpr w5, by rw [f.2.2 o 6 (by decide) (by decide)]; exact w6⟩
  · exact (gdI k).mpr (hF k hk).2
  · rw [e42, g.2.1 32 (by decide) (by decide)]; exact hX
  · rw [e3, e5]
    intro a b a1 b1 ab ea eb
    rw [AlX.mv (ep _ (by omega) (by omega)) (ep _ (by omega) (by omega)) (ep _ (by omega) (by omega)) (ep _ (by omega) (by omega))]
    exact hU a b a1 b1 ab ea eb
  · obtain ⟨p1, p2, p3, p4, p5, p6, p7⟩ := hP k hk
    have hf := (hE k hk).2.1
    rw [e42]
    refine ⟨p1.mv p6.2 ⟨ep _ (by omega) (by omega), ep _ (by omega) (by omega)⟩ (g.2.2 _ (by omega) (by omega)), p2.mv (ep _ (by omega) (by omega)) (ep _ (by omega) (by omega)), by rw [ep _ (by omega) (by omega), (g.2.2 _ (by omega) (by omega)).1]; exact p3, p4.mv (ep _ (by omega) (by omega)) (ep _ (by omega) (by omega)), p5.mv (ep _ (by omega) (by omega)) (ep _ (by omega) (by omega)), ?_, ?_⟩
    · unfold lenOK; rw [ep _ (by omega) (by omega)]; exact p6
    · unfold lenOK; rw [ep _ (by omega) (by omega)]; exact p7
/-- one step that both have written -/
def SE (τ ρ : Sg) (m i : Nat) : Prop := ∃ k : Nat, k < m ∧ τ 15 i = (k : Int) ∧ ρ 48 i = ρ 42 k ∧ τ 16 i = ρ 49 i ∧ τ 17 i = ρ 50 i ∧ PS τ ρ (if τ 17 i = 0 then 199 + 6 * k else 203 + 6 * k) (2 * i) ∧ PS τ ρ (if τ 16 i = 0 then 201 + 6 * k else 203 + 6 * k) (2 * i + 1) ∧ (τ 16 i = 0 ∨ τ 17 i = 0) ∧ (¬ τ 16 i = 0 → τ (439 + k) 10 = 1) ∧ τ (439 + k) 6 = 0
def SPI (τ ρ : Sg) (m s : Nat) : Prop := StB τ ρ m ∧ CpE τ ρ m ∧ τ 13 7 = (s : Int) ∧ ρ 28 33 = (s : Int) ∧ (∀ i, i < s → SE τ ρ m i) ∧
  (∀ k, k < m → τ (439 + k) 10 = 1 → τ (439 + k) 11 = 1 → ∃ j, j < s ∧ τ 15 j = (k : Int) ∧ ¬ τ 17 j = 0 ∧ ∀ i, i < s → τ 15 i = (k : Int) → ¬ τ 16 i = 0 → i < j) ∧
  (∀ j, j < s → ¬ τ 17 j = 0 → ∃ i, i < j ∧ τ 15 i = τ 15 j ∧ ¬ τ 16 i = 0) ∧ (∀ k, k < m → τ (439 + k) 10 = 1 → ∃ i, i < s ∧ τ 15 i = (k : Int) ∧ ¬ τ 16 i = 0) ∧
  sm (fun k => τ (439 + k) 10 + τ (439 + k) 11) m = (s : Int)
theorem step_ok {τ ρ P3 ρ' : Sg} {m s k f : Nat} (h : SPI τ ρ m s) (hk : k < m) (hf : ρ 42 k = (f : Int)) (h6 : τ (439 + k) 6 = 0) (h11 : τ (439 + k) 11 = 0) {a1 : Int} (ha : a1 = 0 ∨ (a1 = 1 ∧ τ (439 + k) 10 = 0))
    (hw : WO τ ρ s f (cur τ k) (if a1 = 0 then 201 + 6 * k else 203 + 6 * k) a1 (τ (439 + k) 10) P3)
    (r28 : ∀ j, j ≠ 33 → ρ' 28 j = P3 28 j) (r33 : ρ' 28 33 = (s : Int) + 1) (rx : ∀ x, x ≠ 28 → x ≠ 54 → x ≠ 55 → ρ' x = P3 x) (r54 : ρ' 54 = if a1 = 0 then P3 54 else fun i => if i = f then 1 else P3 54 i) (r55 : ρ' 55 = if a1 = 0 then (fun i => if i = k then 1 else P3 55 i) else P3 55) :
    SPI (up2 (f_X3_addStep τ (k : Int) a1) (439 + k) (if a1 = 0 then 11 else 10) 1) ρ' m (s + 1) := by
  have h' := h
  obtain ⟨hB, hC, h7, h33, hSE, hI2, hI3, hI4, hsm⟩ := h'
  have hB' := hB
  obtain ⟨hS, hSB, hE, h5, h26, hm, hF, hD, hX, hU, hP⟩ := hB'
  obtain ⟨w1, w2, w3, w4, w5, w6, w7, w8, w9⟩ := hw
  have ck := hC.1 k hk
  have hfk := (hE k hk).2.1
  have b3 := hSB.1
  -- the class's new cells
  have t15 : (up2 (f_X3_addStep τ (k : Int) a1) (439 + k) (if a1 = 0 then 11 else 10) 1) 15 = fun i => if i = s then (k : Int) else τ 15 i := by
    unfold f_X3_addStep
    rw [h7, Int.toNat_natCast, up2_cell _ _ _ (by omega), up2_cell _ _ _ (by decide), up2_cell _ _ _ (by decide), up2_cell _ _ _ (by decide), up2_row]
  have t16 : (up2 (f_X3_addStep τ (k : Int) a1) (439 + k) (if a1 = 0 then 11 else 10) 1) 16 = fun i => if i = s then a1 else τ 16 i := by
    unfold f_X3_addStep
    rw [h7, Int.toNat_natCast, up2_cell _ _ _ (by omega), up2_cell _ _ _ (by decide), up2_cell _ _ _ (by decide), up2_row]
    funext i
    rw [up2_cell _ _ _ (by decide)]
  have t17 : (up2 (f_X3_addStep τ (k : Int) a1) (439 + k) (if a1 = 0 then 11 else 10) 1) 17 = fun i => if i = s then τ (439 + k) 10 else τ 17 i := by
    unfold f_X3_addStep
    rw [h7, Int.toNat_natCast, Int.toNat_natCast, up2_cell _ _ _ (by omega), up2_cell _ _ _ (by decide), up2_row]
    funext i
    rw [up2_cell _ _ _ (by decide), up2_cell _ _ _ (by decide)]
  have a13 : ∀ j, j ≠ 7 → (f_X3_addStep τ (k : Int) a1) 13 j = τ 13 j := fun j hj => by
    unfold f_X3_addStep
    rw [up2_slot _ _ hj, up2_cell _ _ _ (by decide), up2_cell _ _ _ (by decide), up2_cell _ _ _ (by decide)]
  have ax : ∀ x, x ≠ 13 → x ≠ 15 → x ≠ 16 → x ≠ 17 → (f_X3_addStep τ (k : Int) a1) x = τ x := fun x u1 u2 u3 u4 => by
    unfold f_X3_addStep
    rw [up2_cell _ _ _ u1, up2_cell _ _ _ u4, up2_cell _ _ _ u3, up2_cell _ _ _ u2]
  have t137 : (up2 (f_X3_addStep τ (k : Int) a1) (439 + k) (if a1 = 0 then 11 else 10) 1) 13 7 = (s : Int) + 1 := by
    unfold f_X3_addStep
    rw [up2_cell _ _ _ (by omega), up2_same, h7]
  have tq : ∀ q sl : Nat, (q ≠ k ∨ sl ≠ (if a1 = 0 then 11 else 10)) → (up2 (f_X3_addStep τ (k : Int) a1) (439 + k) (if a1 = 0 then 11 else 10) 1) (439 + q) sl = τ (439 + q) sl := fun q sl hq => by
    by_cases e : q = k
    · subst e
      rw [up2_slot _ _ (by omega), ax _ (by omega) (by omega) (by omega) (by omega)]
    · rw [up2_cell _ _ _ (by omega), ax _ (by omega) (by omega) (by omega) (by omega)]
  have tk : (up2 (f_X3_addStep τ (k : Int) a1) (439 + k) (if a1 = 0 then 11 else 10) 1) (439 + k) (if a1 = 0 then 11 else 10) = 1 := up2_same _ _ _ _
  have tf : SFr τ (up2 (f_X3_addStep τ (k : Int) a1) (439 + k) (if a1 = 0 then 11 else 10) 1) := ⟨fun x u1 u2 u3 u4 u5 => by rw [up2_cell _ _ _ (by omega), ax x u2 u3 u4 u5], fun j hj => by rw [up2_cell _ _ _ (by omega)]; exact a13 j hj, fun q sl u v => tq q sl (by split <;> omega)⟩
  generalize up2 (f_X3_addStep τ (k : Int) a1) (439 + k) (if a1 = 0 then 11 else 10) 1 = T at t15 t16 t17 t137 tq tk tf ⊢
  have ep : ∀ x, 57 ≤ x → x < 439 → T x = τ x := fun x a b => tf.1 x b (by omega) (by omega) (by omega) (by omega)
  -- the reference's
  have gM : SFM ρ ρ' := ⟨fun j hj => by rw [r28 j hj, w9 28 (by decide) (by decide)], fun x a b => by rw [rx x (by omega) (by omega) (by omega), w9 x (by omega) (by omega)], fun r a b => (w8 r (by omega) b).tr (RowS.of (rx 29 (by decide) (by decide) (by decide)) (rx 30 (by decide) (by decide) (by decide)) (rx 31 (by decide) (by decide) (by decide)) r)⟩
  have e42 : ρ' 42 = ρ 42 := gM.2.1 42 (by decide) (by decide)
  have rS : ∀ r, RowS P3 ρ' r := fun r => RowS.of (rx 29 (by decide) (by decide) (by decide)) (rx 30 (by decide) (by decide) (by decide)) (rx 31 (by decide) (by decide) (by decide)) r
  have rT : ∀ u, RowT P3 ρ' u := fun u => RowT.of (rx 51 (by decide) (by decide) (by decide)) (rx 52 (by decide) (by decide) (by decide)) (rx 53 (by decide) (by decide) (by decide)) u
  have c1len : lenOK τ (if a1 = 0 then 201 + 6 * k else 203 + 6 * k) := by
    split
    · exact (hE k hk).2.2.2.2.2.2
    · exact (hP k hk).2.2.2.2.2.2
  have c1r : 57 ≤ (if a1 = 0 then 201 + 6 * k else 203 + 6 * k) ∧ (if a1 = 0 then 201 + 6 * k else 203 + 6 * k) < 438 := by split <;> omega
  have curk : cur T k = if a1 = 0 then 201 + 6 * k else 203 + 6 * k := by
    unfold cur
    rcases ha with e | ⟨e, e2⟩
    · rw [if_pos e] at tk
      rw [tk, if_pos (by decide), if_pos e]
    · rw [if_neg (by omega)] at tk
      have : T (439 + k) 11 = 0 := by rw [tq k 11 (Or.inr (by rw [if_neg (by omega)]; decide))]; exact h11
      rw [this, if_neg (by decide), tk, if_pos (by decide), if_neg (by omega)]
  have curq : ∀ q, q ≠ k → cur T q = cur τ q := fun q hq => by
    unfold cur
    rw [tq q 11 (Or.inl hq), tq q 10 (Or.inl hq)]
  refine ⟨hB.mv tf gM, ⟨fun q hq => ?_, fun o ho hno => ?_⟩, by rw [t137]; omega, by rw [r33]; omega, fun i hi => ?_, fun q hq q10 q11 => ?_, fun j hj j17 => ?_, fun q hq q10 => ?_, ?_⟩
  · rw [e42]
    by_cases e : q = k
    · subst e
      rw [curk, hf, Int.toNat_natCast]
      refine ⟨w7.mv c1len.2 ⟨ep _ (by omega) (by omega), ep _ (by omega) (by omega)⟩ (rS _), ?_⟩
      rcases ha with e | ⟨e, e2⟩
      · rw [if_pos e] at tk
        have t10 : T (439 + q) 10 = τ (439 + q) 10 := tq q 10 (Or.inr (by rw [if_pos e]; decide))
        rw [t10, tk, tf.2.2 q 6 (by decide) (by decide), r54, if_pos e, w9 54 (by decide) (by decide), r55, if_pos e]
        refine ⟨ck.2.1, Or.inr rfl, ?_, ?_, fun z => absurd h6 z⟩
        · have := ck.2.2.2.1
          rw [hf, Int.toNat_natCast] at this
          exact this
        · rw [if_pos rfl]
      · rw [if_neg (by omega)] at tk
        have t11 : T (439 + q) 11 = 0 := by rw [tq q 11 (Or.inr (by rw [if_neg (by omega)]; decide))]; exact h11
        have z54 : ρ' 54 = fun i => if i = f then 1 else P3 54 i := by rw [r54, if_neg (show ¬ a1 = 0 by omega)]
        have z55 : ρ' 55 = ρ 55 := by rw [r55, if_neg (show ¬ a1 = 0 by omega), w9 55 (by decide) (by decide)]
        rw [tk, t11, tf.2.2 q 6 (by decide) (by decide), z54, z55]
        refine ⟨Or.inr rfl, Or.inl rfl, ?_, ?_, fun z => absurd h6 z⟩
        · show (1 : Int) = if f = f then 1 else P3 54 f
          rw [if_pos rfl]
        · have := ck.2.2.2.2.1
          rw [h11] at this
          exact this
    · obtain ⟨c1, c2, c3, c4, c5, c6⟩ := hC.1 q hq
      have hfq := (hE q hq).2.1
      have nf : (ρ 42 q).toNat ≠ f := fun z => e (hD q k hq hk (by omega))
      rw [curq q e, tq q 10 (Or.inl e), tq q 11 (Or.inl e), tf.2.2 q 6 (by decide) (by decide)]
      have cr := cur_rng τ (k := q) (by omega)
      refine ⟨c1.mv (curLen hB hq).2 ⟨ep _ (by omega) (by omega), ep _ (by omega) (by omega)⟩ ((w8 _ (by omega) (by omega)).tr (rS _)), c2, c3, ?_, ?_, c6⟩
      · rw [r54, c4]
        split
        · rw [w9 54 (by decide) (by decide)]
        · dsimp only
          rw [if_neg nf, w9 54 (by decide) (by decide)]
      · rw [r55, c5]
        split
        · dsimp only
          rw [if_neg e, w9 55 (by decide) (by decide)]
        · rw [w9 55 (by decide) (by decide)]
  · rw [tf.1 3 (by decide) (by decide) (by decide) (by decide) (by decide)] at ho
    rw [e42] at hno
    have nf : o ≠ f := fun z => hno k hk (by rw [hf, z])
    exact (hC.2 o ho hno).mv (hSB.2 o (by omega)).2 ⟨ep _ (by omega) (by omega), ep _ (by omega) (by omega)⟩ ((w8 _ (by omega) (by omega)).tr (rS _))
  · have m15 : ∀ i, T 15 i = if i = s then (k : Int) else τ 15 i := fun i => by rw [t15]
    have m16 : ∀ i, T 16 i = if i = s then a1 else τ 16 i := fun i => by rw [t16]
    have m17 : ∀ i, T 17 i = if i = s then τ (439 + k) 10 else τ 17 i := fun i => by rw [t17]
    have m48 : ∀ i, ρ' 48 i = if i = s then (f : Int) else ρ 48 i := fun i => by rw [rx 48 (by decide) (by decide) (by decide), w4]
    have m49 : ∀ i, ρ' 49 i = if i = s then a1 else ρ 49 i := fun i => by rw [rx 49 (by decide) (by decide) (by decide), w5]
    have m50 : ∀ i, ρ' 50 i = if i = s then τ (439 + k) 10 else ρ 50 i := fun i => by rw [rx 50 (by decide) (by decide) (by decide), w6]
    by_cases e : i = s
    · have q15 : T 15 i = (k : Int) := by rw [m15, if_pos e]
      have q16 : T 16 i = a1 := by rw [m16, if_pos e]
      have q17 : T 17 i = τ (439 + k) 10 := by rw [m17, if_pos e]
      have q48 : ρ' 48 i = (f : Int) := by rw [m48, if_pos e]
      have q49 : ρ' 49 i = a1 := by rw [m49, if_pos e]
      have q50 : ρ' 50 i = τ (439 + k) 10 := by rw [m50, if_pos e]
      unfold SE
      rw [q15, q16, q17, q48, q49, q50, e42]
      subst e
      refine ⟨k, hk, rfl, hf.symm, rfl, rfl, ?_, ?_, ?_, ?_, by rw [tf.2.2 k 6 (by decide) (by decide)]; exact h6⟩
      · have ec : cur τ k = if τ (439 + k) 10 = 0 then 199 + 6 * k else 203 + 6 * k := by
          unfold cur
          rw [h11, if_neg (by decide)]
          by_cases z : τ (439 + k) 10 = 0
          · rw [if_neg (by omega), if_pos z]
          · rw [if_pos z, if_neg z]
        rw [← ec]
        have cr := cur_rng τ (k := k) (by omega)
        exact w1.mvT (curLen hB hk).2 (ep _ (by omega) (by omega)) (ep _ (by omega) (by omega)) (rT _)
      · exact w2.mvT c1len.2 (ep _ (by omega) (by omega)) (ep _ (by omega) (by omega)) (rT _)
      · rcases ha with z | z
        · exact Or.inl z
        · exact Or.inr z.2
      · intro z
        rw [if_neg z] at tk
        exact tk
    · have q15 : T 15 i = τ 15 i := by rw [m15, if_neg e]
      have q16 : T 16 i = τ 16 i := by rw [m16, if_neg e]
      have q17 : T 17 i = τ 17 i := by rw [m17, if_neg e]
      have q48 : ρ' 48 i = ρ 48 i := by rw [m48, if_neg e]
      have q49 : ρ' 49 i = ρ 49 i := by rw [m49, if_neg e]
      have q50 : ρ' 50 i = ρ 50 i := by rw [m50, if_neg e]
      obtain ⟨q, y1, y2, y3, y4, y5, y6, y7, y8, y9, y10⟩ := hSE i (by omega)
      unfold SE
      rw [q15, q16, q17, q48, q49, q50, e42]
      have l1 : lenOK τ (if τ 17 i = 0 then 199 + 6 * q else 203 + 6 * q) := by
        split
        · exact (hP q y1).2.2.2.2.2.1
        · exact (hP q y1).2.2.2.2.2.2
      have l2 : lenOK τ (if τ 16 i = 0 then 201 + 6 * q else 203 + 6 * q) := by
        split
        · exact (hE q y1).2.2.2.2.2.2
        · exact (hP q y1).2.2.2.2.2.2
      have g1 : 57 ≤ (if τ 17 i = 0 then 199 + 6 * q else 203 + 6 * q) ∧ (if τ 17 i = 0 then 199 + 6 * q else 203 + 6 * q) < 438 := by split <;> omega
      have g2 : 57 ≤ (if τ 16 i = 0 then 201 + 6 * q else 203 + 6 * q) ∧ (if τ 16 i = 0 then 201 + 6 * q else 203 + 6 * q) < 438 := by split <;> omega
      refine ⟨q, y1, y2, y3, y4, y5, y6.mvT l1.2 (ep _ (by omega) (by omega)) (ep _ (by omega) (by omega)) ((w3 _ (by omega) (by omega)).tr (rT _)), y7.mvT l2.2 (ep _ (by omega) (by omega)) (ep _ (by omega) (by omega)) ((w3 _ (by omega) (by omega)).tr (rT _)), y8, fun z => ?_, by rw [tf.2.2 q 6 (by decide) (by decide)]; exact y10⟩
      have v := y9 z
      by_cases e2 : q = k
      · subst e2
        rcases ha with e3 | ⟨e3, e4⟩
        · rw [tq q 10 (Or.inr (by rw [if_pos e3]; decide))]; exact v
        · rw [if_neg (by omega)] at tk; exact tk
      · rw [tq q 10 (Or.inl e2)]; exact v
  · -- spared and there
    rw [t15, t16, t17]
    dsimp only
    by_cases e : q = k
    · subst e
      rcases ha with e3 | ⟨e3, e4⟩
      · have s10 : τ (439 + q) 10 = 1 := by rw [← tq q 10 (Or.inr (by rw [if_pos e3]; decide))]; exact q10
        refine ⟨s, by omega, by rw [if_pos rfl], by rw [if_pos rfl]; omega, fun i i1 i2 i3 => ?_⟩
        by_cases w : i = s
        · rw [if_pos w] at i3; exact absurd e3 i3
        · omega
      · have : T (439 + q) 11 = 0 := by rw [tq q 11 (Or.inr (by rw [if_neg (by omega)]; decide))]; exact h11
        omega
    · rw [tq q 10 (Or.inl e)] at q10
      rw [tq q 11 (Or.inl e)] at q11
      obtain ⟨j, y1, y2, y3, y4⟩ := hI2 q hq q10 q11
      refine ⟨j, by omega, by rw [if_neg (by omega)]; exact y2, by rw [if_neg (by omega)]; exact y3, fun i i1 i2 i3 => ?_⟩
      by_cases w : i = s
      · rw [if_pos w] at i2; omega
      · rw [if_neg w] at i2 i3
        exact y4 i (by omega) i2 i3
  · rw [t17] at j17
    rw [t15, t16]
    dsimp only at j17 ⊢
    by_cases w : j = s
    · rw [if_pos w] at j17
      obtain ⟨i, i1, i2, i3⟩ := hI4 k hk (by rcases ck.2.1 with z | z; exact absurd z j17; exact z)
      refine ⟨i, by omega, ?_, by rw [if_neg (by omega)]; exact i3⟩
      rw [if_pos w, if_neg (by omega)]; exact i2
    · rw [if_neg w] at j17
      obtain ⟨i, i1, i2, i3⟩ := hI3 j (by omega) j17
      refine ⟨i, i1, ?_, by rw [if_neg (by omega)]; exact i3⟩
      rw [if_neg w, if_neg (by omega)]; exact i2
  · rw [t15, t16]
    dsimp only
    by_cases e : q = k
    · subst e
      rcases ha with e3 | ⟨e3, e4⟩
      · have s10 : τ (439 + q) 10 = 1 := by rw [← tq q 10 (Or.inr (by rw [if_pos e3]; decide))]; exact q10
        obtain ⟨i, i1, i2, i3⟩ := hI4 q hq s10
        exact ⟨i, by omega, by rw [if_neg (by omega)]; exact i2, by rw [if_neg (by omega)]; exact i3⟩
      · exact ⟨s, by omega, by rw [if_pos rfl], by rw [if_pos rfl]; omega⟩
    · rw [tq q 10 (Or.inl e)] at q10
      obtain ⟨i, i1, i2, i3⟩ := hI4 q hq q10
      exact ⟨i, by omega, by rw [if_neg (by omega)]; exact i2, by rw [if_neg (by omega)]; exact i3⟩
  · have u := sm_upd (fun k => τ (439 + k) 10 + τ (439 + k) 11) (τ (439 + k) 10 + τ (439 + k) 11 + 1) (i := k) (n := m) hk
    have e : sm (fun q => T (439 + q) 10 + T (439 + q) 11) m = sm (fun q => if q = k then τ (439 + k) 10 + τ (439 + k) 11 + 1 else τ (439 + q) 10 + τ (439 + q) 11) m := by
      refine sm_congr (fun q hq => ?_)
      by_cases w : q = k
      · subst w
        rw [if_pos rfl]
        rcases ha with e3 | ⟨e3, e4⟩
        · rw [if_pos e3] at tk
          rw [tk, tq q 10 (Or.inr (by rw [if_pos e3]; decide)), h11]; omega
        · rw [if_neg (by omega)] at tk
          rw [tk, tq q 11 (Or.inr (by rw [if_neg (by omega)]; decide)), h11, e4]; omega
      · rw [if_neg w, tq q 10 (Or.inl w), tq q 11 (Or.inl w)]
    rw [e]
    omega
