/-! Fitting: how the class finds it. -/
theorem Wy.star {it nm : Nat → Int} {L : Int} {d k : Nat} {p : Int} (h : it k = 42) (hp : p ≤ L) : Wy it nm L (d + 1) k p ↔ Wy it nm L d (k + 1) p ∨ (p < L ∧ Wy it nm L (d + 1) k (p + 1)) := by
  constructor
  · rintro ⟨n, ho, hw⟩
    have hr := ho.rng
    by_cases q : n = 0
    · subst q
      rw [Int.add_zero] at hw
      exact Or.inl hw
    · refine Or.inr ⟨by omega, n - 1, Or.inl ⟨h, by omega, by omega⟩, ?_⟩
      rw [show p + 1 + (n - 1) = p + n by omega]
      exact hw
  · rintro (hw | ⟨hl, n, ho, hw⟩)
    · exact ⟨0, Or.inl ⟨h, by omega, by omega⟩, by rw [Int.add_zero]; exact hw⟩
    · have hr := ho.rng
      exact ⟨n + 1, Or.inl ⟨h, by omega, by omega⟩, by rw [show p + (n + 1) = p + 1 + n by omega]; exact hw⟩
theorem Wy.figs {it nm : Nat → Int} {L : Int} {d k : Nat} {p : Int} (h : it k = 35) (h0 : 0 ≤ p) : Wy it nm L (d + 1) k p ↔ p < L ∧ fig (nm p.toNat) ∧ (Wy it nm L d (k + 1) (p + 1) ∨ Wy it nm L (d + 1) k (p + 1)) := by
  constructor
  · rintro ⟨n, ho, hw⟩
    unfold Okn at ho
    rcases ho with z | z | z
    · omega
    · obtain ⟨-, z1, z2, z3⟩ := z
      refine ⟨by omega, z3 p.toNat (by omega) (by omega), ?_⟩
      by_cases q : n = 1
      · subst q; exact Or.inl hw
      · refine Or.inr ⟨n - 1, Or.inr (Or.inl ⟨h, by omega, by omega, fun i i0 i1 => z3 i (by omega) (by omega)⟩), ?_⟩
        rw [show p + 1 + (n - 1) = p + n by omega]
        exact hw
    · omega
  · rintro ⟨h1, h2, h3⟩
    rcases h3 with hw | ⟨n, ho, hw⟩
    · refine ⟨1, Or.inr (Or.inl ⟨h, by omega, by omega, fun i i0 i1 => ?_⟩), hw⟩
      rw [show i = p.toNat by omega]
      exact h2
    · unfold Okn at ho
      rcases ho with z | z | z
      · omega
      · obtain ⟨-, z1, z2, z3⟩ := z
        refine ⟨n + 1, Or.inr (Or.inl ⟨h, by omega, by omega, fun i i0 i1 => ?_⟩), by rw [show p + (n + 1) = p + 1 + n by omega]; exact hw⟩
        by_cases q : (i : Int) = p
        · rw [show i = p.toNat by omega]; exact h2
        · exact z3 i (by omega) (by omega)
      · omega
theorem Wy.one {it nm : Nat → Int} {L : Int} {d k : Nat} {p : Int} (h1 : ¬ it k = 42) (h2 : ¬ it k = 35) : Wy it nm L (d + 1) k p ↔ p < L ∧ (it k = 63 ∨ nm p.toNat = it k) ∧ Wy it nm L d (k + 1) (p + 1) := by
  constructor
  · rintro ⟨n, ho, hw⟩
    unfold Okn at ho
    rcases ho with z | z | z
    · omega
    · omega
    · obtain ⟨-, -, z1, z2, z3⟩ := z
      subst z1
      exact ⟨z2, z3, hw⟩
  · rintro ⟨a, b, c⟩
    exact ⟨1, Or.inr (Or.inr ⟨h1, h2, rfl, a, b⟩), c⟩
def XB (τ σ : Sg) : Prop := ∀ x, x ≠ 10 → x ≠ 11 → x ≠ 12 → σ x = τ x
def XR (τ : Sg) (R c : Nat) (it nm : Nat → Int) (L N : Int) : Prop := isRu R ∧ isPl c ∧ τ R 4 = N ∧ τ c 2 = L ∧ (0 ≤ N ∧ N ≤ 12) ∧ (0 ≤ L ∧ L ≤ 12) ∧ (∀ i : Nat, (i : Int) < N → τ (R + 1) i = it i ∧ it i ≠ -1) ∧ (∀ i : Nat, (i : Int) < L → τ (c + 1) i = nm i ∧ nm i ≠ -1)
theorem XR.mv {τ σ : Sg} {R c : Nat} {it nm : Nat → Int} {L N : Int} (h : XR τ R c it nm L N) (k : XB τ σ) : XR σ R c it nm L N := by
  obtain ⟨a1, a2, a3, a4, a5, a6, a7, a8⟩ := h
  refine ⟨a1, a2, ?_, ?_, a5, a6, ?_, ?_⟩
  · rw [k R (by omega) (by omega) (by omega)]; exact a3
  · rw [k c (by omega) (by omega) (by omega)]; exact a4
  · rw [k (R + 1) (by omega) (by omega) (by omega)]; exact a7
  · rw [k (c + 1) (by omega) (by omega) (by omega)]; exact a8
theorem XR.item {τ : Sg} {R c : Nat} {it nm : Nat → Int} {L N : Int} (h : XR τ R c it nm L N) {i : Nat} (hi : (i : Int) < N) : f_X5_item τ R (i : Int) = it i := by
  obtain ⟨a1, a2, a3, a4, a5, a6, a7, a8⟩ := h
  unfold f_X5_item
  rw [if_neg (by omega), if_neg (by omega), Int.toNat_natCast]
  exact (a7 i hi).1
theorem XR.byte {τ : Sg} {R c : Nat} {it nm : Nat → Int} {L N : Int} (h : XR τ R c it nm L N) {p : Int} (h0 : 0 ≤ p) (h1 : p < L) : f_X2_byteAt τ c p = nm p.toNat := by
  obtain ⟨a1, a2, a3, a4, a5, a6, a7, a8⟩ := h
  rw [byteAt_in h0 (by omega) (by omega)]
  exact (a8 _ (by omega)).1
theorem XR.none {τ : Sg} {R c : Nat} {it nm : Nat → Int} {L N : Int} (h : XR τ R c it nm L N) {p : Int} (h0 : 0 ≤ p) (h1 : L ≤ p) : f_X2_byteAt τ c p = -1 := by
  obtain ⟨a1, a2, a3, a4, a5, a6, a7, a8⟩ := h
  unfold f_X2_byteAt
  rw [if_neg (by omega), if_pos (by omega)]
def RowOK (it nm : Nat → Int) (L N : Int) (σ : Sg) (i : Nat) : Prop := ∀ p : Int, 0 ≤ p → p ≤ L → (σ 10 (13 * i + p.toNat) = 0 ∨ σ 10 (13 * i + p.toNat) = 1) ∧ (σ 10 (13 * i + p.toNat) = 1 ↔ Wy it nm L (N.toNat - i) i p)
theorem isWay_at {σ : Sg} {i : Nat} {p : Int} (hi : i ≤ 12) (h0 : 0 ≤ p) (h1 : p ≤ 12) : f_X0_isWay σ (i : Int) p = if σ 10 (13 * i + p.toNat) = 0 then 0 else 1 := by
  unfold f_X0_isWay
  rw [if_neg (by omega), if_neg (by omega), if_neg (by omega), if_neg (by omega), show ((i : Int) * 13 + p).toNat = 13 * i + p.toNat by omega]
theorem RowOK.way {it nm : Nat → Int} {L N : Int} {σ : Sg} {i : Nat} (h : RowOK it nm L N σ i) (hL : L ≤ 12) (hi : i ≤ 12) {p : Int} (h0 : 0 ≤ p) (h1 : p ≤ L) : f_X0_isWay σ (i : Int) p = 0 ↔ ¬ Wy it nm L (N.toNat - i) i p := by
  have k := h p h0 h1
  rw [isWay_at hi h0 (by omega), ← k.2]
  by_cases q : σ 10 (13 * i + p.toNat) = 0
  · rw [if_pos q]
    exact ⟨fun _ => by omega, fun _ => rfl⟩
  · rw [if_neg q]
    exact ⟨fun z => by omega, fun z => absurd (by omega) z⟩
theorem takesX {a b : Int} (h : ¬ a = 42) (hb : b ≠ -1) (ha : a ≠ -1) : (f_X0_takes a b = 0 ↔ ¬ ((a = 35 ∧ fig b) ∨ (¬ a = 35 ∧ (a = 63 ∨ b = a)))) := by
  unfold f_X0_takes
  by_cases q : a = 35
  · rw [if_pos q, figX]
    constructor
    · intro z w
      rcases w with w | w
      · exact z w.2
      · exact absurd q w.1
    · intro z w
      exact z (Or.inl ⟨q, w⟩)
  · rw [if_neg q]
    by_cases q2 : a = 63
    · rw [if_pos q2, if_neg hb]
      exact ⟨fun z => by omega, fun z => absurd (Or.inr ⟨q, Or.inl q2⟩) z⟩
    · rw [if_neg q2]
      by_cases q3 : a = b
      · rw [if_pos q3]
        exact ⟨fun z => by omega, fun z => absurd (Or.inr ⟨q, Or.inr q3.symm⟩) z⟩
      · rw [if_neg q3]
        refine ⟨fun _ w => ?_, fun _ => rfl⟩
        rcases w with w | w
        · exact absurd w.1 q
        · rcases w.2 with w | w
          · exact q2 w
          · exact q3 w.symm
theorem takes_none {a : Int} (ha : a ≠ -1) : f_X0_takes a (-1) = 0 := by
  unfold f_X0_takes
  by_cases q : a = 35
  · rw [if_pos q]; rfl
  · rw [if_neg q]
    by_cases q2 : a = 63
    · rw [if_pos q2]; rfl
    · rw [if_neg q2, if_neg ha]
theorem hasWay_eq {σ : Sg} {R c : Nat} {it nm : Nat → Int} {L N : Int} (h : XR σ R c it nm L N) {i : Nat} (hi : (i : Int) < N) {p : Int} (h0 : 0 ≤ p) (h1 : p ≤ L) (hr : RowOK it nm L N σ (i + 1)) (hn : p < L → (σ 10 (13 * i + (p + 1).toNat) = 0 ∨ σ 10 (13 * i + (p + 1).toNat) = 1) ∧ (σ 10 (13 * i + (p + 1).toNat) = 1 ↔ Wy it nm L (N.toNat - i) i (p + 1))) :
    (f_X0_hasWay σ (it i) (i : Int) c p = 0 ∨ f_X0_hasWay σ (it i) (i : Int) c p = 1) ∧ (f_X0_hasWay σ (it i) (i : Int) c p = 1 ↔ Wy it nm L (N.toNat - i) i p) := by
  have h' := h
  obtain ⟨a1, a2, a3, a4, a5, a6, a7, a8⟩ := h'
  have ed : N.toNat - i = (N.toNat - (i + 1)) + 1 := by omega
  have ei : ((i : Int) + 1) = ((i + 1 : Nat) : Int) := by omega
  have w1 := fun q q0 q1 => hr.way a6.2 (by omega) (p := q) q0 q1
  have w2 : p < L → (f_X0_isWay σ (i : Int) (p + 1) = 0 ↔ ¬ Wy it nm L (N.toNat - i) i (p + 1)) := fun hp => by
    have k := hn hp
    rw [isWay_at (by omega) (by omega) (by omega), ← k.2]
    by_cases q : σ 10 (13 * i + (p + 1).toNat) = 0
    · rw [if_pos q]
      exact ⟨fun _ => by omega, fun _ => rfl⟩
    · rw [if_neg q]
      exact ⟨fun z => by omega, fun z => absurd (by omega) z⟩
  have ia := (a7 i hi).2
  unfold f_X0_hasWay
  rw [ei, a4]
  by_cases c1 : it i = 42
  · rw [if_pos c1]
    have ws : Wy it nm L (N.toNat - i) i p ↔ Wy it nm L (N.toNat - (i + 1)) (i + 1) p ∨ (p < L ∧ Wy it nm L (N.toNat - i) i (p + 1)) := by
      rw [ed]
      exact Wy.star c1 h1
    rw [ws]
    by_cases d1 : f_X0_isWay σ ((i + 1 : Nat) : Int) p = 0
    · rw [if_pos d1]
      have n1 := (w1 p h0 h1).mp d1
      by_cases d2 : L ≤ p
      · rw [if_pos d2]
        exact ⟨Or.inl rfl, fun z => by omega, fun z => by rcases z with z | z; exact absurd z n1; omega⟩
      · rw [if_neg d2]
        by_cases d3 : f_X0_isWay σ (i : Int) (p + 1) = 0
        · rw [if_pos d3]
          have n2 := (w2 (by omega)).mp d3
          exact ⟨Or.inl rfl, fun z => by omega, fun z => by rcases z with z | z; exact absurd z n1; exact absurd z.2 n2⟩
        · rw [if_neg d3]
          have n2 : Wy it nm L (N.toNat - i) i (p + 1) := by
            rcases Classical.em (Wy it nm L (N.toNat - i) i (p + 1)) with z | z
            · exact z
            · exact absurd ((w2 (by omega)).mpr z) d3
          exact ⟨Or.inr rfl, fun _ => Or.inr ⟨by omega, n2⟩, fun _ => rfl⟩
    · rw [if_neg d1]
      have n1 : Wy it nm L (N.toNat - (i + 1)) (i + 1) p := by
        rcases Classical.em (Wy it nm L (N.toNat - (i + 1)) (i + 1) p) with z | z
        · exact z
        · exact absurd ((w1 p h0 h1).mpr z) d1
      exact ⟨Or.inr rfl, fun _ => Or.inl n1, fun _ => rfl⟩
  · rw [if_neg c1]
    by_cases c2 : L ≤ p
    · rw [h.none h0 c2, if_pos (takes_none ia)]
      refine ⟨Or.inl rfl, fun z => by omega, fun z => ?_⟩
      rw [ed] at z
      obtain ⟨n, o, -⟩ := z
      unfold Okn at o
      omega
    · have hp : p < L := by omega
      rw [h.byte h0 hp]
      have nn := (a8 p.toNat (by omega)).2
      have tk := takesX c1 nn ia
      by_cases c3 : it i = 35
      · have ws : Wy it nm L (N.toNat - i) i p ↔ p < L ∧ fig (nm p.toNat) ∧ (Wy it nm L (N.toNat - (i + 1)) (i + 1) (p + 1) ∨ Wy it nm L (N.toNat - i) i (p + 1)) := by
          rw [ed]
          exact Wy.figs c3 h0
        rw [ws]
        by_cases d1 : f_X0_takes (it i) (nm p.toNat) = 0
        · rw [if_pos d1]
          have n1 := tk.mp d1
          exact ⟨Or.inl rfl, fun z => by omega, fun z => absurd (Or.inl ⟨c3, z.2.1⟩) n1⟩
        · rw [if_neg d1]
          have n1 : fig (nm p.toNat) := by
            rcases Classical.em (fig (nm p.toNat)) with z | z
            · exact z
            · refine absurd (tk.mpr (fun w => ?_)) d1
              rcases w with w | w
              · exact z w.2
              · exact w.1 c3
          by_cases d2 : f_X0_isWay σ ((i + 1 : Nat) : Int) (p + 1) = 0
          · rw [if_pos d2, if_pos c3]
            have n2 := (w1 (p + 1) (by omega) (by omega)).mp d2
            by_cases d3 : f_X0_isWay σ (i : Int) (p + 1) = 0
            · rw [if_pos d3]
              have n3 := (w2 hp).mp d3
              exact ⟨Or.inl rfl, fun z => by omega, fun z => by rcases z.2.2 with z | z; exact absurd z n2; exact absurd z n3⟩
            · rw [if_neg d3]
              have n3 : Wy it nm L (N.toNat - i) i (p + 1) := by
                rcases Classical.em (Wy it nm L (N.toNat - i) i (p + 1)) with z | z
                · exact z
                · exact absurd ((w2 hp).mpr z) d3
              exact ⟨Or.inr rfl, fun _ => ⟨hp, n1, Or.inr n3⟩, fun _ => rfl⟩
          · rw [if_neg d2]
            have n2 : Wy it nm L (N.toNat - (i + 1)) (i + 1) (p + 1) := by
              rcases Classical.em (Wy it nm L (N.toNat - (i + 1)) (i + 1) (p + 1)) with z | z
              · exact z
              · exact absurd ((w1 (p + 1) (by omega) (by omega)).mpr z) d2
            exact ⟨Or.inr rfl, fun _ => ⟨hp, n1, Or.inl n2⟩, fun _ => rfl⟩
      · have ws : Wy it nm L (N.toNat - i) i p ↔ p < L ∧ (it i = 63 ∨ nm p.toNat = it i) ∧ Wy it nm L (N.toNat - (i + 1)) (i + 1) (p + 1) := by
          rw [ed]
          exact Wy.one c1 c3
        rw [ws]
        by_cases d1 : f_X0_takes (it i) (nm p.toNat) = 0
        · rw [if_pos d1]
          have n1 := tk.mp d1
          exact ⟨Or.inl rfl, fun z => by omega, fun z => absurd (Or.inr ⟨c3, z.2.1⟩) n1⟩
        · rw [if_neg d1]
          have n1 : it i = 63 ∨ nm p.toNat = it i := by
            rcases Classical.em (it i = 63 ∨ nm p.toNat = it i) with z | z
            · exact z
            · refine absurd (tk.mpr (fun w => ?_)) d1
              rcases w with w | w
              · exact c3 w.1
              · exact z w.2
          by_cases d2 : f_X0_isWay σ ((i + 1 : Nat) : Int) (p + 1) = 0
          · rw [if_pos d2, if_neg c3]
            have n2 := (w1 (p + 1) (by omega) (by omega)).mp d2
            exact ⟨Or.inl rfl, fun z => by omega, fun z => absurd z.2.2 n2⟩
          · rw [if_neg d2]
            have n2 : Wy it nm L (N.toNat - (i + 1)) (i + 1) (p + 1) := by
              rcases Classical.em (Wy it nm L (N.toNat - (i + 1)) (i + 1) (p + 1)) with z | z
              · exact z
              · exact absurd ((w1 (p + 1) (by omega) (by omega)).mpr z) d2
            exact ⟨Or.inr rfl, fun _ => ⟨hp, n1, n2⟩, fun _ => rfl⟩
theorem XB.rf (τ : Sg) : XB τ τ := fun _ _ _ _ => rfl
theorem XB.u10 {τ σ : Sg} (h : XB τ σ) (i : Nat) (v : Int) : XB τ (up2 σ 10 i v) := fun x a b c => by rw [up2_cell _ _ _ a]; exact h x a b c
theorem XB.u11 {τ σ : Sg} (h : XB τ σ) (i : Nat) (v : Int) : XB τ (up2 σ 11 i v) := fun x a b c => by rw [up2_cell _ _ _ b]; exact h x a b c
theorem XB.u12 {τ σ : Sg} (h : XB τ σ) (i : Nat) (v : Int) : XB τ (up2 σ 12 i v) := fun x a b c => by rw [up2_cell _ _ _ c]; exact h x a b c
theorem fw8_row {R c : Nat} {it nm : Nat → Int} {L N : Int} : ∀ (n : Nat) (x : Int) (σ : Sg), XR σ R c it nm L N → 0 ≤ x → x ≤ L + 1 → L + 1 - x < (n : Int) → (∀ p : Int, 0 ≤ p → p < x → σ 10 (13 * N.toNat + p.toNat) = if p = L then 1 else 0) → RowOK it nm L N (L_X0_findWays_8 R c n N x σ) N.toNat
  | 0, x, σ, h, h0, h1, h2, h3 => by omega
  | n + 1, x, σ, h, h0, h1, h2, h3 => by
    have h' := h
    obtain ⟨a1, a2, a3, a4, a5, a6, a7, a8⟩ := h'
    rw [L_X0_findWays_8, a4]
    by_cases q : L < x
    · rw [if_pos q]
      intro p p0 p1
      rw [h3 p p0 (by omega), Nat.sub_self]
      by_cases w : p = L
      · rw [if_pos w]
        exact ⟨Or.inr rfl, fun _ => w, fun _ => rfl⟩
      · rw [if_neg w]
        exact ⟨Or.inl rfl, fun z => by omega, fun z => absurd z w⟩
    · rw [if_neg q]
      have stepv : ∀ v : Int, (v = if x = L then 1 else 0) → RowOK it nm L N (L_X0_findWays_8 R c n N (x + 1) (up2 σ 10 ((N * 13 + x).toNat) v)) N.toNat := fun v hv => by
        refine fw8_row n (x + 1) _ (h.mv ((XB.rf σ).u10 _ _)) (by omega) (by omega) (by omega) (fun p p0 p1 => ?_)
        rw [up2_row]
        dsimp only
        by_cases w : p = x
        · subst w
          rw [if_pos (by omega)]
          exact hv
        · rw [if_neg (by omega)]
          exact h3 p p0 (by omega)
      by_cases w : x = L
      · rw [if_pos w]
        exact stepv 1 (by rw [if_pos w])
      · rw [if_neg w]
        exact stepv 0 (by rw [if_neg w])
theorem fw65_row {R c : Nat} {it nm : Nat → Int} {L N : Int} {i : Nat} (hi : (i : Int) < N) : ∀ (n : Nat) (x : Int) (σ : Sg), XR σ R c it nm L N → (∀ j : Nat, i < j → (j : Int) ≤ N → RowOK it nm L N σ j) → -1 ≤ x → x ≤ L → x + 1 < (n : Int) → (∀ p : Int, x < p → 0 ≤ p → p ≤ L → (σ 10 (13 * i + p.toNat) = 0 ∨ σ 10 (13 * i + p.toNat) = 1) ∧ (σ 10 (13 * i + p.toNat) = 1 ↔ Wy it nm L (N.toNat - i) i p)) → ∀ j : Nat, i ≤ j → (j : Int) ≤ N → RowOK it nm L N (L_X0_findWays_65 R c n (i : Int) x σ) j
  | 0, x, σ, h, hr, h0, h1, h2, h3 => by omega
  | n + 1, x, σ, h, hr, h0, h1, h2, h3 => by
    have h' := h
    obtain ⟨a1, a2, a3, a4, a5, a6, a7, a8⟩ := h'
    rw [L_X0_findWays_65]
    by_cases q : x < 0
    · rw [if_pos q]
      intro j hj hjN
      by_cases w : i = j
      · subst w
        exact fun p p0 p1 => h3 p (by omega) p0 p1
      · exact hr j (by omega) hjN
    · rw [if_neg q, h.item hi, show ((i : Int) * 13 + x).toNat = 13 * i + x.toNat by omega]
      have hw := hasWay_eq h hi (p := x) (by omega) h1 (hr (i + 1) (by omega) (by omega)) (fun hx => h3 (x + 1) (by omega) (by omega) (by omega))
      generalize f_X0_hasWay σ (it i) (i : Int) c x = v at hw ⊢
      refine fw65_row hi n (x + -1) _ (h.mv ((XB.rf σ).u10 _ _)) (fun j hj hjN p p0 p1 => ?_) (by omega) (by omega) (by omega) (fun p px p0 p1 => ?_)
      · rw [up2_row]
        dsimp only
        rw [if_neg (by omega)]
        exact hr j hj hjN p p0 p1
      · rw [up2_row]
        dsimp only
        by_cases w : p = x
        · subst w
          rw [if_pos rfl]
          exact hw
        · rw [if_neg (by omega)]
          exact h3 p (by omega) p0 p1
theorem fw54_row {R c : Nat} {it nm : Nat → Int} {L N : Int} : ∀ (n : Nat) (x : Int) (σ : Sg), XR σ R c it nm L N → -1 ≤ x → x < N → x + 1 < (n : Int) → (∀ j : Nat, x < (j : Int) → (j : Int) ≤ N → RowOK it nm L N σ j) → ∀ j : Nat, (j : Int) ≤ N → RowOK it nm L N (L_X0_findWays_54 R c n x σ) j
  | 0, x, σ, h, h0, h1, h2, h3 => by omega
  | n + 1, x, σ, h, h0, h1, h2, h3 => by
    have h' := h
    obtain ⟨a1, a2, a3, a4, a5, a6, a7, a8⟩ := h'
    rw [L_X0_findWays_54]
    by_cases q : x < 0
    · rw [if_pos q]
      exact fun j hj => h3 j (by omega) hj
    · rw [if_neg q, a4]
      have r := fw65_row (i := x.toNat) (by omega) 14 L σ h (fun j hj hjN => h3 j (by omega) hjN) (by omega) (by omega) (by omega) (fun p p1 p2 p3 => by omega)
      rw [show ((x.toNat : Nat) : Int) = x by omega] at r
      have xb : XB σ (L_X0_findWays_65 R c 14 x L σ) := fun y u v w => L_fw65_fr R c u _ _ _ _
      exact fw54_row n (x + -1) _ (h.mv xb) (by omega) (by omega) (by omega) (fun j hj hjN => r j (by omega) hjN)
theorem findWays_rows {τ : Sg} {R c : Nat} {it nm : Nat → Int} {L N : Int} (h : XR τ R c it nm L N) : ∀ j : Nat, (j : Int) ≤ N → RowOK it nm L N (f_X0_findWays τ R c) j := by
  have h' := h
  obtain ⟨a1, a2, a3, a4, a5, a6, a7, a8⟩ := h'
  unfold f_X0_findWays f_X5_itemCount
  rw [a3]
  have r8 := fw8_row (R := R) (c := c) 14 0 τ h (by omega) (by omega) (by omega) (fun p a b => by omega)
  have xb : XB τ (L_X0_findWays_8 R c 14 N 0 τ) := fun y u v w => L_fw8_fr R c u _ _ _ _
  exact fw54_row 14 (N - 1) _ (h.mv xb) (by omega) (by omega) (by omega) (fun j hj hjN => by rw [show j = N.toNat by omega]; exact r8)
theorem fewest_ok {σ : Sg} {R c : Nat} {it nm : Nat → Int} {L N : Int} (h : XR σ R c it nm L N) {i : Nat} (hi : (i : Int) < N) (hr : RowOK it nm L N σ (i + 1)) {p : Int} (h0 : 0 ≤ p) (h1 : p ≤ L) {y : Int} (hy : 0 ≤ y ∧ p + y ≤ L) (hw : Wy it nm L (N.toNat - (i + 1)) (i + 1) (p + y)) : ∀ (n : Nat) (x : Int), 0 ≤ x → x ≤ y → L - p - x < (n : Int) → (∀ m, 0 ≤ m → m < x → ¬ Wy it nm L (N.toNat - (i + 1)) (i + 1) (p + m)) →
    ∃ z, L_X0_fewest_3 σ c (i : Int) p n x = z ∧ 0 ≤ z ∧ z ≤ y ∧ Wy it nm L (N.toNat - (i + 1)) (i + 1) (p + z) ∧ ∀ m, 0 ≤ m → m < z → ¬ Wy it nm L (N.toNat - (i + 1)) (i + 1) (p + m)
  | 0, x, b0, b1, b2, b3 => by omega
  | n + 1, x, b0, b1, b2, b3 => by
    have h' := h
    obtain ⟨a1, a2, a3, a4, a5, a6, a7, a8⟩ := h'
    rw [L_X0_fewest_3, a4, if_neg (by omega), show ((i : Int) + 1) = ((i + 1 : Nat) : Int) by omega]
    have w := hr.way a6.2 (by omega) (p := p + x) (by omega) (by omega)
    by_cases q : f_X0_isWay σ ((i + 1 : Nat) : Int) (p + x) = 0
    · rw [if_pos q]
      have nq := w.mp q
      refine fewest_ok h hi hr h0 h1 hy hw n (x + 1) (by omega) ?_ (by omega) (fun m m0 m1 => ?_)
      · by_cases e : x = y
        · subst e; exact absurd hw nq
        · omega
      · by_cases e : m = x
        · subst e; exact nq
        · exact b3 m m0 (by omega)
    · rw [if_neg q]
      have yq : Wy it nm L (N.toNat - (i + 1)) (i + 1) (p + x) := by
        rcases Classical.em (Wy it nm L (N.toNat - (i + 1)) (i + 1) (p + x)) with z | z
        · exact z
        · exact absurd (w.mpr z) q
      exact ⟨x, rfl, b0, b1, yq, b3⟩
theorem most_ok {σ : Sg} {R c : Nat} {it nm : Nat → Int} {L N : Int} (h : XR σ R c it nm L N) {i : Nat} (hi : (i : Int) < N) (hr : RowOK it nm L N σ (i + 1)) (h35 : it i = 35) {p : Int} (h0 : 0 ≤ p) (h1 : p ≤ L) : ∀ (n : Nat) (b x : Int), 1 ≤ x → p + x ≤ L + 1 → L - p + 1 - x < (n : Int) → (∀ j : Nat, p ≤ (j : Int) → (j : Int) < p + x - 1 → fig (nm j)) →
    ((b = 0 ∧ ∀ m, 1 ≤ m → m < x → ¬ Wy it nm L (N.toNat - (i + 1)) (i + 1) (p + m)) ∨ (1 ≤ b ∧ b < x ∧ Wy it nm L (N.toNat - (i + 1)) (i + 1) (p + b) ∧ ∀ m, b < m → m < x → ¬ Wy it nm L (N.toNat - (i + 1)) (i + 1) (p + m))) →
    ∃ z, L_X0_mostFigures_6 σ c (i : Int) p n b x = z ∧ ((z = 0 ∧ ∀ m, Okn it nm L i p m → ¬ Wy it nm L (N.toNat - (i + 1)) (i + 1) (p + m)) ∨ (Okn it nm L i p z ∧ Wy it nm L (N.toNat - (i + 1)) (i + 1) (p + z) ∧ ∀ m, Okn it nm L i p m → Wy it nm L (N.toNat - (i + 1)) (i + 1) (p + m) → m ≤ z))
  | 0, b, x, b0, b1, b2, b3, b4 => by omega
  | n + 1, b, x, b0, b1, b2, b3, b4 => by
    have h' := h
    obtain ⟨a1, a2, a3, a4, a5, a6, a7, a8⟩ := h'
    -- the end: nothing more can be taken
    have fin : (p + x - 1 = L ∨ (p + x - 1 < L ∧ ¬ fig (nm (p + x - 1).toNat))) → ((b = 0 ∧ ∀ m, Okn it nm L i p m → ¬ Wy it nm L (N.toNat - (i + 1)) (i + 1) (p + m)) ∨ (Okn it nm L i p b ∧ Wy it nm L (N.toNat - (i + 1)) (i + 1) (p + b) ∧ ∀ m, Okn it nm L i p m → Wy it nm L (N.toNat - (i + 1)) (i + 1) (p + m) → m ≤ b)) := by
      intro hf
      have om : ∀ m, Okn it nm L i p m → 1 ≤ m ∧ m < x := fun m o => by
        unfold Okn at o
        rcases o with z | z | z
        · omega
        · obtain ⟨-, z1, z2, z3⟩ := z
          refine ⟨z1, ?_⟩
          rcases hf with w | w
          · omega
          · by_cases e : m < x
            · exact e
            · exact absurd (z3 (p + x - 1).toNat (by omega) (by omega)) w.2
        · omega
      rcases b4 with ⟨c1, c2⟩ | ⟨c1, c2, c3, c4⟩
      · exact Or.inl ⟨c1, fun m o => c2 m (om m o).1 (om m o).2⟩
      · refine Or.inr ⟨Or.inr (Or.inl ⟨h35, c1, by omega, fun j j0 j1 => b3 j j0 (by omega)⟩), c3, fun m o w => ?_⟩
        by_cases e : b < m
        · exact absurd w (c4 m e (om m o).2)
        · omega
    rw [L_X0_mostFigures_6]
    by_cases q0 : p + x - 1 = L
    · rw [h.none (p := p + x - 1) (by omega) (by omega), if_pos (show f_X6_isFigure (-1) = 0 by rfl)]
      exact ⟨b, rfl, fin (Or.inl q0)⟩
    · rw [h.byte (p := p + x - 1) (by omega) (by omega)]
      by_cases q1 : f_X6_isFigure (nm (p + x - 1).toNat) = 0
      · rw [if_pos q1]
        exact ⟨b, rfl, fin (Or.inr ⟨by omega, (figX _).mp q1⟩)⟩
      · have fg : fig (nm (p + x - 1).toNat) := by
          rcases Classical.em (fig (nm (p + x - 1).toNat)) with z | z
          · exact z
          · exact absurd ((figX _).mpr z) q1
        have b3' : ∀ j : Nat, p ≤ (j : Int) → (j : Int) < p + (x + 1) - 1 → fig (nm j) := fun j j0 j1 => by
          by_cases e : (j : Int) = p + x - 1
          · rw [show j = (p + x - 1).toNat by omega]; exact fg
          · exact b3 j j0 (by omega)
        rw [if_neg q1, a4, if_neg (by omega), show ((i : Int) + 1) = ((i + 1 : Nat) : Int) by omega]
        have w := hr.way a6.2 (by omega) (p := p + x) (by omega) (by omega)
        by_cases q2 : f_X0_isWay σ ((i + 1 : Nat) : Int) (p + x) = 0
        · rw [if_pos q2]
          have nq := w.mp q2
          refine most_ok h hi hr h35 h0 h1 n b (x + 1) (by omega) (by omega) (by omega) b3' ?_
          rcases b4 with ⟨c1, c2⟩ | ⟨c1, c2, c3, c4⟩
          · refine Or.inl ⟨c1, fun m m0 m1 => ?_⟩
            by_cases e : m = x
            · subst e; exact nq
            · exact c2 m m0 (by omega)
          · refine Or.inr ⟨c1, by omega, c3, fun m m0 m1 => ?_⟩
            by_cases e : m = x
            · subst e; exact nq
            · exact c4 m m0 (by omega)
        · rw [if_neg q2]
          have yq : Wy it nm L (N.toNat - (i + 1)) (i + 1) (p + x) := by
            rcases Classical.em (Wy it nm L (N.toNat - (i + 1)) (i + 1) (p + x)) with z | z
            · exact z
            · exact absurd (w.mpr z) q2
          exact most_ok h hi hr h35 h0 h1 n x (x + 1) (by omega) (by omega) (by omega) b3' (Or.inr ⟨b0, by omega, yq, fun m m0 m1 => by omega⟩)
theorem choice_ok {σ : Sg} {R c : Nat} {it nm : Nat → Int} {L N : Int} (h : XR σ R c it nm L N) {i : Nat} (hi : (i : Int) < N) (hr : RowOK it nm L N σ (i + 1)) {p : Int} (h0 : 0 ≤ p) (h1 : p ≤ L) (hw : Wy it nm L (N.toNat - i) i p) : Pf it nm L (N.toNat - (i + 1)) i p (f_X0_firstChoice σ R c (i : Int) p) := by
  have ed : N.toNat - i = (N.toNat - (i + 1)) + 1 := by omega
  have h' := h
  obtain ⟨a1, a2, a3, a4, a5, a6, a7, a8⟩ := h'
  rw [ed] at hw
  obtain ⟨y, oy, wy⟩ := hw
  have ry := oy.rng
  unfold f_X0_firstChoice
  rw [h.item hi]
  by_cases c1 : it i = 35
  · rw [if_pos c1]
    unfold f_X0_mostFigures
    obtain ⟨z, z1, z2⟩ := most_ok h hi hr c1 h0 h1 14 0 1 (by omega) (by omega) (by omega) (fun j j0 j1 => by omega) (Or.inl ⟨rfl, fun m m0 m1 => by omega⟩)
    rw [z1]
    rcases z2 with ⟨k1, k2⟩ | ⟨k1, k2, k3⟩
    · exact absurd wy (k2 y oy)
    · exact ⟨k1, k2, fun m o w => ⟨fun e => by omega, fun _ => k3 m o w⟩⟩
  · rw [if_neg c1]
    by_cases c2 : it i = 42
    · rw [if_pos c2]
      unfold f_X0_fewest
      obtain ⟨z, z1, z2, z3, z4, z5⟩ := fewest_ok h hi hr h0 h1 ry wy 14 0 (by omega) (by omega) (by omega) (fun m m0 m1 => by omega)
      rw [z1]
      refine ⟨Or.inl ⟨c2, z2, by omega⟩, z4, fun m o w => ⟨fun _ => ?_, fun e => absurd e c1⟩⟩
      by_cases e : m < z
      · exact absurd w (z5 m o.rng.1 e)
      · omega
    · rw [if_neg c2]
      have e1 : y = 1 := by
        unfold Okn at oy
        omega
      subst e1
      exact ⟨oy, wy, fun m o w => ⟨fun e => absurd e c2, fun e => absurd e c1⟩⟩
theorem match_loop {R c : Nat} {it nm : Nat → Int} {L N : Int} : ∀ (n : Nat) (p : Int) (i : Nat) (σ : Sg), XR σ R c it nm L N → (∀ j : Nat, (j : Int) ≤ N → RowOK it nm L N σ j) → (i : Int) ≤ N → 0 ≤ p → p ≤ L → Wy it nm L (N.toNat - i) i p → N - (i : Int) < (n : Int) → p = sm (σ 11) i → (∀ j, j < i → σ 12 j = sm (σ 11) j) →
    Ch it nm L ((L_X0_match_22 R c n p (i : Int) σ) 11) (N.toNat - i) i p ∧ (∀ j, j < i → (L_X0_match_22 R c n p (i : Int) σ) 11 j = σ 11 j) ∧ ∀ j : Nat, (j : Int) < N → (L_X0_match_22 R c n p (i : Int) σ) 12 j = sm ((L_X0_match_22 R c n p (i : Int) σ) 11) j
  | 0, p, i, σ, h, hr, hi, h0, h1, hw, hf, hp, hs => by omega
  | n + 1, p, i, σ, h, hr, hi, h0, h1, hw, hf, hp, hs => by
    have h' := h
    obtain ⟨a1, a2, a3, a4, a5, a6, a7, a8⟩ := h'
    rw [L_X0_match_22]
    unfold f_X5_itemCount
    rw [a3, Int.toNat_natCast]
    by_cases q : N ≤ (i : Int)
    · rw [if_pos q, show N.toNat - i = 0 by omega]
      exact ⟨trivial, fun _ _ => rfl, fun j hj => hs j (by omega)⟩
    · rw [if_neg q]
      have ed : N.toNat - i = (N.toNat - (i + 1)) + 1 := by omega
      have x1 : XR (up2 σ 12 i p) R c it nm L N := h.mv ((XB.rf σ).u12 _ _)
      have r1 : ∀ j : Nat, (j : Int) ≤ N → RowOK it nm L N (up2 σ 12 i p) j := fun j hj y y0 y1 => by
        rw [up2_cell _ _ _ (by decide)]; exact hr j hj y y0 y1
      have pf := choice_ok x1 (by omega) (r1 (i + 1) (by omega)) h0 h1 hw
      generalize f_X0_firstChoice (up2 σ 12 i p) R c (i : Int) p = v at pf ⊢
      have rv := pf.1.rng
      have e11 : (up2 (up2 σ 12 i p) 11 i v) 11 = fun j => if j = i then v else σ 11 j := by
        rw [up2_row]
        funext j
        rw [up2_cell _ _ _ (by decide)]
      have e12 : (up2 (up2 σ 12 i p) 11 i v) 12 = fun j => if j = i then p else σ 12 j := by rw [up2_cell _ _ _ (by decide), up2_row]
      have s1 : ∀ j, j ≤ i → sm ((up2 (up2 σ 12 i p) 11 i v) 11) j = sm (σ 11) j := fun j hj => sm_congr (fun y hy => by rw [e11]; dsimp only; rw [if_neg (by omega)])
      obtain ⟨g1, g2, g3⟩ := match_loop n (p + v) (i + 1) (up2 (up2 σ 12 i p) 11 i v) (x1.mv ((XB.rf _).u11 _ _)) (fun j hj y y0 y1 => by rw [up2_cell _ _ _ (by decide)]; exact r1 j hj y y0 y1) (by omega) (by omega) (by omega) pf.2.1 (by omega)
        (by
          simp only [sm]
          rw [s1 i (by omega), ← hp, e11]
          dsimp only
          rw [if_pos rfl]) (fun j hj => by
          rw [e12]
          dsimp only
          by_cases e : j = i
          · subst e
            rw [if_pos rfl, s1 j (by omega), hp]
          · rw [if_neg e, s1 j (by omega)]
            exact hs j (by omega))
      rw [show ((i + 1 : Nat) : Int) = (i : Int) + 1 by omega] at g1 g2 g3
      have gi := g2 i (by omega)
      rw [e11] at gi
      dsimp only at gi
      rw [if_pos rfl] at gi
      refine ⟨?_, fun j hj => ?_, g3⟩
      · rw [ed]
        show Pf _ _ _ _ _ _ _ ∧ Ch _ _ _ _ _ _ _
        rw [gi]
        exact ⟨pf, g1⟩
      · rw [g2 j (by omega), e11]
        dsimp only
        rw [if_neg (by omega)]
/-- the class's match -/
theorem match_ok {τ : Sg} {R c : Nat} {it nm : Nat → Int} {L N : Int} (h : XR τ R c it nm L N) : ((f_X0_match τ R c).1 = 0 ∨ (f_X0_match τ R c).1 = 1) ∧ ((f_X0_match τ R c).1 = 1 ↔ Wy it nm L N.toNat 0 0) ∧ ((f_X0_match τ R c).1 = 1 → Ch it nm L ((f_X0_match τ R c).2 11) N.toNat 0 0 ∧ ∀ j : Nat, (j : Int) < N → (f_X0_match τ R c).2 12 j = sm ((f_X0_match τ R c).2 11) j) := by
  have h' := h
  obtain ⟨a1, a2, a3, a4, a5, a6, a7, a8⟩ := h'
  have rows := findWays_rows h
  have xb : XB τ (f_X0_findWays τ R c) := fun y u v w => findWays_fr τ R c u
  have w := (rows 0 (by omega)).way a6.2 (by omega) (p := 0) (by omega) a6.1
  rw [show ((0 : Nat) : Int) = 0 by decide, Nat.sub_zero] at w
  unfold f_X0_match
  by_cases q : f_X0_isWay (f_X0_findWays τ R c) 0 0 = 0
  · rw [if_pos q]
    have nq := w.mp q
    exact ⟨Or.inl rfl, ⟨fun z => absurd z (by dsimp only; decide), fun z => absurd z nq⟩, fun z => absurd z (by dsimp only; decide)⟩
  · rw [if_neg q]
    have yq : Wy it nm L N.toNat 0 0 := by
      rcases Classical.em (Wy it nm L N.toNat 0 0) with z | z
      · exact z
      · exact absurd (w.mpr z) q
    have m := match_loop 13 0 0 (f_X0_findWays τ R c) (h.mv xb) rows (by omega) (by omega) a6.1 (by rw [Nat.sub_zero]; exact yq) (by omega) rfl (fun j hj => by omega)
    rw [show ((0 : Nat) : Int) = 0 by decide, Nat.sub_zero] at m
    exact ⟨Or.inr rfl, ⟨fun _ => yq, fun _ => rfl⟩, fun _ => ⟨m.1, m.2.2⟩⟩
