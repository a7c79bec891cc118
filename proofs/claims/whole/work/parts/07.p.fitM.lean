/-! Fitting: what it is, and how the reference finds it. -/
def fig (b : Int) : Prop := 48 ≤ b ∧ b ≤ 57
theorem figM (b : Int) : f_X10_isFigure b = 0 ↔ ¬ fig b := by
  unfold f_X10_isFigure fig
  repeat' split
  all_goals omega
theorem figX (b : Int) : f_X6_isFigure b = 0 ↔ ¬ fig b := figM b
def Okn (it nm : Nat → Int) (L : Int) (k : Nat) (p n : Int) : Prop :=
  (it k = 42 ∧ 0 ≤ n ∧ p + n ≤ L) ∨ (it k = 35 ∧ 1 ≤ n ∧ p + n ≤ L ∧ ∀ i : Nat, p ≤ (i : Int) → (i : Int) < p + n → fig (nm i)) ∨ (¬ it k = 42 ∧ ¬ it k = 35 ∧ n = 1 ∧ p < L ∧ (it k = 63 ∨ nm p.toNat = it k))
def Wy (it nm : Nat → Int) (L : Int) : Nat → Nat → Int → Prop
  | 0, _, p => p = L
  | d + 1, k, p => ∃ n : Int, Okn it nm L k p n ∧ Wy it nm L d (k + 1) (p + n)
def Pf (it nm : Nat → Int) (L : Int) (d k : Nat) (p n : Int) : Prop := Okn it nm L k p n ∧ Wy it nm L d (k + 1) (p + n) ∧ ∀ n', Okn it nm L k p n' → Wy it nm L d (k + 1) (p + n') → (it k = 42 → n ≤ n') ∧ (it k = 35 → n' ≤ n)
theorem Okn.rng {it nm : Nat → Int} {L : Int} {k : Nat} {p n : Int} (h : Okn it nm L k p n) : 0 ≤ n ∧ p + n ≤ L := by
  unfold Okn at h
  omega
theorem Pf.uq {it nm : Nat → Int} {L : Int} {d k : Nat} {p n m : Int} (h1 : Pf it nm L d k p n) (h2 : Pf it nm L d k p m) : n = m := by
  have a := h1.2.2 m h2.1 h2.2.1
  have b := h2.2.2 n h1.1 h1.2.1
  have c := h1.1
  have e := h2.1
  unfold Okn at c e
  by_cases q : it k = 42
  · have := a.1 q
    have := b.1 q
    omega
  · by_cases q2 : it k = 35
    · have := a.2 q2
      have := b.2 q2
      omega
    · omega
def Ch (it nm : Nat → Int) (L : Int) (t : Nat → Int) : Nat → Nat → Int → Prop
  | 0, _, _ => True
  | d + 1, k, p => Pf it nm L d k p (t k) ∧ Ch it nm L t d (k + 1) (p + t k)
theorem Ch.uq {it nm : Nat → Int} {L : Int} {t u : Nat → Int} : ∀ (d k : Nat) (p : Int), Ch it nm L t d k p → Ch it nm L u d k p → ∀ j, k ≤ j → j < k + d → t j = u j
  | 0, k, p, h1, h2, j, a, b => by omega
  | d + 1, k, p, h1, h2, j, a, b => by
    have e := h1.1.uq h2.1
    by_cases q : j = k
    · subst q; exact e
    · have h3 := h2.2
      rw [← e] at h3
      exact Ch.uq d (k + 1) (p + t k) h1.2 h3 j (by omega) (by omega)
theorem Ch.cg {it nm : Nat → Int} {L : Int} {t u : Nat → Int} : ∀ (d k : Nat) (p : Int), (∀ j, k ≤ j → u j = t j) → Ch it nm L t d k p → Ch it nm L u d k p
  | 0, k, p, h, h1 => trivial
  | d + 1, k, p, h, h1 => by
    have e := h k (by omega)
    refine ⟨by rw [e]; exact h1.1, ?_⟩
    rw [e]
    exact Ch.cg d (k + 1) _ (fun j hj => h j (by omega)) h1.2
def Bs (ρ σ : Sg) : Prop := ∀ x, x ≠ 40 → x ≠ 41 → σ x = ρ x
abbrev nmR (ρ : Sg) (r : Nat) : Nat → Int := fun i => ρ 29 (12 * r + i)
/-- the memo says nothing wrong -/
def MO (ρ σ : Sg) (r : Nat) : Prop := ∀ (k : Nat) (p : Int), (k : Int) < ρ 28 10 → 0 ≤ p → p ≤ ρ 30 r → ¬ σ 41 (13 * k + p.toNat) = 0 → ¬ Wy (ρ 34) (nmR ρ r) (ρ 30 r) ((ρ 28 10).toNat - k) k p
def GR (ρ : Sg) (r : Nat) (σ : Sg) (k : Nat) (p : Int) (g : Int × Sg) : Prop := Bs ρ g.2 ∧ MO ρ g.2 r ∧ (g.1 = 0 ∨ g.1 = 1) ∧ (g.1 = 1 ↔ Wy (ρ 34) (nmR ρ r) (ρ 30 r) ((ρ 28 10).toNat - k) k p) ∧ (∀ j, j < k → g.2 40 j = σ 40 j) ∧ (g.1 = 1 → Ch (ρ 34) (nmR ρ r) (ρ 30 r) (g.2 40) ((ρ 28 10).toNat - k) k p)
def TR (ρ : Sg) (r : Nat) (σ : Sg) (k : Nat) (p n : Int) (t : Int × Sg) : Prop := Bs ρ t.2 ∧ MO ρ t.2 r ∧ (t.1 = 0 ∨ t.1 = 1) ∧ (t.1 = 1 ↔ Wy (ρ 34) (nmR ρ r) (ρ 30 r) ((ρ 28 10).toNat - (k + 1)) (k + 1) (p + n)) ∧ (∀ j, j < k → t.2 40 j = σ 40 j) ∧ (t.1 = 1 → t.2 40 k = n ∧ Ch (ρ 34) (nmR ρ r) (ρ 30 r) (t.2 40) ((ρ 28 10).toNat - (k + 1)) (k + 1) (p + n))
theorem Bs.u40 {ρ σ : Sg} (h : Bs ρ σ) (i : Nat) (v : Int) : Bs ρ (up2 σ 40 i v) := fun x a b => by rw [up2_cell _ _ _ a]; exact h x a b
theorem Bs.u41 {ρ σ : Sg} (h : Bs ρ σ) (i : Nat) (v : Int) : Bs ρ (up2 σ 41 i v) := fun x a b => by rw [up2_cell _ _ _ b]; exact h x a b
theorem MO.u40 {ρ σ : Sg} {r : Nat} (h : MO ρ σ r) (i : Nat) (v : Int) : MO ρ (up2 σ 40 i v) r := fun k p a b c e => h k p a b c (by rw [up2_cell _ _ _ (by decide)] at e; exact e)
theorem MO.fail {ρ σ : Sg} {r : Nat} (h : MO ρ σ r) (hL : ρ 30 r ≤ 12) {k : Nat} {p : Int} (h0 : 0 ≤ p) (h1 : p ≤ ρ 30 r) (hw : ¬ Wy (ρ 34) (nmR ρ r) (ρ 30 r) ((ρ 28 10).toNat - k) k p) : MO ρ (up2 σ 41 ((13 * (k : Int) + p).toNat) 1) r := fun k' p' a b c e => by
  rw [up2_row] at e
  dsimp only at e
  by_cases q : 13 * k' + p'.toNat = (13 * (k : Int) + p).toNat
  · have e1 : k' = k := by omega
    have e2 : p' = p := by omega
    subst e1
    subst e2
    exact hw
  · rw [if_neg q] at e
    exact h k' p' a b c e
theorem takesR {ρ : Sg} {r k : Nat} {p : Int} {gf : Sg → Int → Int → Int → Int × Sg} (h0 : 0 ≤ p) (hG : ∀ σ q, Bs ρ σ → MO ρ σ r → 0 ≤ q → q ≤ ρ 30 r → GR ρ r σ (k + 1) q (gf σ (r : Int) ((k : Int) + 1) q)) {σ : Sg} {n : Int} (hB : Bs ρ σ) (hO : MO ρ σ r) (hn : 0 ≤ n) (hl : p + n ≤ ρ 30 r) :
    TR ρ r σ k p n (f_X10_takes_ σ gf (r : Int) (k : Int) p n) := by
  unfold f_X10_takes_
  rw [Int.toNat_natCast]
  have g := hG (up2 σ 40 k n) (p + n) (hB.u40 _ _) (hO.u40 _ _) (by omega) hl
  generalize gf (up2 σ 40 k n) (r : Int) ((k : Int) + 1) (p + n) = G at g ⊢
  obtain ⟨g1, g2, g3, g4, g5, g6⟩ := g
  have sj : ∀ j, j < k → G.2 40 j = σ 40 j := fun j hj => by rw [g5 j (by omega), up2_slot _ _ (by omega)]
  by_cases c : G.1 = 0
  · rw [if_pos c]
    refine ⟨g1, g2, Or.inl rfl, ?_, sj, fun z => absurd z (by dsimp only; decide)⟩
    rw [← g4, c]
  · have c1 : G.1 = 1 := by omega
    rw [if_neg c]
    refine ⟨g1.u40 _ _, g2.u40 _ _, Or.inr rfl, ⟨fun _ => g4.mp c1, fun _ => rfl⟩, fun j hj => by dsimp only; rw [up2_slot _ _ (by omega)]; exact sj j hj, fun _ => ⟨by dsimp only; exact up2_same _ _ _ _, ?_⟩⟩
    dsimp only
    exact Ch.cg _ _ _ (fun j hj => up2_slot (i := k) _ _ (by omega)) (g6 c1)
/-- one of the ways goes -/
theorem GR.ok {ρ : Sg} {r k : Nat} {p n : Int} {σ : Sg} {t : Int × Sg} (hk : (k : Int) < ρ 28 10) (h : TR ρ r σ k p n t) (h1 : t.1 = 1) {s : Int × Sg} (hs : s = (1, t.2)) (ho : Okn (ρ 34) (nmR ρ r) (ρ 30 r) k p n)
    (hp : ∀ n', Okn (ρ 34) (nmR ρ r) (ρ 30 r) k p n' → Wy (ρ 34) (nmR ρ r) (ρ 30 r) ((ρ 28 10).toNat - (k + 1)) (k + 1) (p + n') → (ρ 34 k = 42 → n ≤ n') ∧ (ρ 34 k = 35 → n' ≤ n)) : GR ρ r σ k p s := by
  obtain ⟨t1, t2, t3, t4, t5, t6⟩ := h
  subst hs
  have ed : (ρ 28 10).toNat - k = ((ρ 28 10).toNat - (k + 1)) + 1 := by omega
  have w := t4.mp h1
  obtain ⟨c1, c2⟩ := t6 h1
  refine ⟨t1, t2, Or.inr rfl, ⟨fun _ => ?_, fun _ => rfl⟩, t5, fun _ => ?_⟩
  · rw [ed]
    exact ⟨n, ho, w⟩
  · rw [ed]
    show Pf _ _ _ _ _ _ (t.2 40 k) ∧ Ch _ _ _ _ _ _ (p + t.2 40 k)
    rw [c1]
    exact ⟨⟨ho, w, hp⟩, c2⟩
theorem GR.no {ρ : Sg} {r k : Nat} {p : Int} {σ σ' : Sg} (hB : Bs ρ σ') (hO : MO ρ σ' r) (hL : ρ 30 r ≤ 12) (h0 : 0 ≤ p) (h1 : p ≤ ρ 30 r) (hj : ∀ j, j < k → σ' 40 j = σ 40 j) (hw : ¬ Wy (ρ 34) (nmR ρ r) (ρ 30 r) ((ρ 28 10).toNat - k) k p) : GR ρ r σ k p (0, up2 σ' 41 ((13 * (k : Int) + p).toNat) 1) :=
  ⟨hB.u41 _ _, hO.fail hL h0 h1 hw, Or.inl rfl, ⟨fun z => absurd z (by dsimp only; decide), fun z => absurd z hw⟩, fun j hj' => by dsimp only; rw [up2_cell _ _ _ (by decide)]; exact hj j hj', fun z => absurd z (by dsimp only; decide)⟩
theorem no_way {it nm : Nat → Int} {L : Int} {d k : Nat} {p : Int} (h : ∀ n, Okn it nm L k p n → ¬ Wy it nm L d (k + 1) (p + n)) : ¬ Wy it nm L (d + 1) k p := fun ⟨n, a, b⟩ => h n a b
theorem star_loop {ρ : Sg} {r k : Nat} {p : Int} {tf : Sg → Int → Int → Int → Int → Int × Sg} (hL : ρ 30 r ≤ 12) (hk : (k : Int) < ρ 28 10) (h0 : 0 ≤ p) (h1 : p ≤ ρ 30 r) (hT : ∀ σ n, Bs ρ σ → MO ρ σ r → 0 ≤ n → p + n ≤ ρ 30 r → TR ρ r σ k p n (tf σ (r : Int) (k : Int) p n)) (h42 : ρ 34 k = 42) (σ0 : Sg) : ∀ (m : Nat) (x : Int) (σ : Sg), Bs ρ σ → MO ρ σ r → (∀ j, j < k → σ 40 j = σ0 40 j) → 0 ≤ x → x ≤ ρ 30 r - p + 1 → ρ 30 r - p + 1 - x < (m : Int) → (∀ n, 0 ≤ n → n < x → ¬ Wy (ρ 34) (nmR ρ r) (ρ 30 r) ((ρ 28 10).toNat - (k + 1)) (k + 1) (p + n)) →
    GR ρ r σ0 k p (L_X10_goes_68 tf (r : Int) (k : Int) p m (ρ 30 r - p) x σ)
  | 0, x, σ, hB, hO, hj, a0, a1, a2, a3 => by omega
  | m + 1, x, σ, hB, hO, hj, a0, a1, a2, a3 => by
    have ed : (ρ 28 10).toNat - k = ((ρ 28 10).toNat - (k + 1)) + 1 := by omega
    rw [L_X10_goes_68]
    by_cases c : ρ 30 r - p < x
    · rw [if_pos c]
      refine GR.no hB hO hL h0 h1 hj ?_
      rw [ed]
      refine no_way (fun n hn => a3 n hn.rng.1 ?_)
      have := hn.rng.2
      omega
    · rw [if_neg c]
      have t := hT σ x hB hO a0 (by omega)
      generalize tf σ (r : Int) (k : Int) p x = t0 at t ⊢
      have t' := t
      obtain ⟨t1, t2, t3, t4, t5, t6⟩ := t'
      by_cases c2 : t0.1 = 0
      · rw [if_pos c2]
        refine star_loop hL hk h0 h1 hT h42 σ0 m (x + 1) t0.2 t1 t2 (fun j hj' => by rw [t5 j hj', hj j hj']) (by omega) (by omega) (by omega) (fun n n0 n1 w => ?_)
        by_cases q : n = x
        · subst q
          have := t4.mpr w
          omega
        · exact a3 n n0 (by omega) w
      · have c3 : t0.1 = 1 := by omega
        rw [if_neg c2]
        have tt : TR ρ r σ0 k p x t0 := ⟨t1, t2, t3, t4, fun j hj' => by rw [t5 j hj', hj j hj'], t6⟩
        refine GR.ok hk tt c3 rfl (Or.inl ⟨h42, a0, by omega⟩) (fun n' o' w' => ⟨fun _ => ?_, fun z => by omega⟩)
        by_cases q : n' < x
        · exact absurd w' (a3 n' o'.rng.1 q)
        · omega
theorem most_loop {ρ : Sg} {r k : Nat} {p : Int} {tf : Sg → Int → Int → Int → Int → Int × Sg} (hL : ρ 30 r ≤ 12) (hk : (k : Int) < ρ 28 10) (h0 : 0 ≤ p) (h1 : p ≤ ρ 30 r) (hT : ∀ σ n, Bs ρ σ → MO ρ σ r → 0 ≤ n → p + n ≤ ρ 30 r → TR ρ r σ k p n (tf σ (r : Int) (k : Int) p n)) (σ : Sg) (hB : Bs ρ σ) : ∀ (m : Nat) (x : Int), 0 ≤ x → x ≤ ρ 30 r - p → ρ 30 r - p - x < (m : Int) → (∀ i : Nat, p ≤ (i : Int) → (i : Int) < p + x → fig (nmR ρ r i)) →
    ∃ y : Int, L_X10_goes_108 σ tf (r : Int) (k : Int) p m (ρ 30 r - p) x = y ∧ x ≤ y ∧ y ≤ ρ 30 r - p ∧ (∀ i : Nat, p ≤ (i : Int) → (i : Int) < p + y → fig (nmR ρ r i)) ∧ (y = ρ 30 r - p ∨ ¬ fig (nmR ρ r (p + y).toNat))
  | 0, x, a0, a1, a2, a3 => by omega
  | m + 1, x, a0, a1, a2, a3 => by
    rw [L_X10_goes_108]
    by_cases c : ρ 30 r - p ≤ x
    · rw [if_pos c]
      exact ⟨x, rfl, by omega, a1, a3, Or.inl (by omega)⟩
    · rw [if_neg c, hB 29 (by decide) (by decide), show (12 * (r : Int) + p + x).toNat = 12 * r + (p + x).toNat by omega]
      by_cases c2 : f_X10_isFigure (ρ 29 (12 * r + (p + x).toNat)) = 0
      · rw [if_pos c2]
        exact ⟨x, rfl, by omega, a1, a3, Or.inr ((figM _).mp c2)⟩
      · rw [if_neg c2]
        have c3 : fig (nmR ρ r (p + x).toNat) := by
          rcases Classical.em (fig (nmR ρ r (p + x).toNat)) with z | z
          · exact z
          · exact absurd ((figM _).mpr z) c2
        obtain ⟨y, y1, y2, y3, y4, y5⟩ := most_loop hL hk h0 h1 hT σ hB m (x + 1) (by omega) (by omega) (by omega) (fun i i0 i1 => by
          by_cases q : (i : Int) = p + x
          · rw [show i = (p + x).toNat by omega]; exact c3
          · exact a3 i i0 (by omega))
        exact ⟨y, y1, by omega, y3, y4, y5⟩
theorem fig_loop {ρ : Sg} {r k : Nat} {p : Int} {tf : Sg → Int → Int → Int → Int → Int × Sg} (hL : ρ 30 r ≤ 12) (hk : (k : Int) < ρ 28 10) (h0 : 0 ≤ p) (h1 : p ≤ ρ 30 r) (hT : ∀ σ n, Bs ρ σ → MO ρ σ r → 0 ≤ n → p + n ≤ ρ 30 r → TR ρ r σ k p n (tf σ (r : Int) (k : Int) p n)) (h35 : ρ 34 k = 35) (σ0 : Sg) {y : Int} (y0 : 0 ≤ y ∧ y ≤ ρ 30 r - p) (yf : ∀ i : Nat, p ≤ (i : Int) → (i : Int) < p + y → fig (nmR ρ r i)) (yn : y = ρ 30 r - p ∨ ¬ fig (nmR ρ r (p + y).toNat)) : ∀ (m : Nat) (x : Int) (σ : Sg), Bs ρ σ → MO ρ σ r → (∀ j, j < k → σ 40 j = σ0 40 j) → 0 ≤ x → x ≤ y → x < (m : Int) → (∀ n, x < n → n ≤ y → ¬ Wy (ρ 34) (nmR ρ r) (ρ 30 r) ((ρ 28 10).toNat - (k + 1)) (k + 1) (p + n)) →
    GR ρ r σ0 k p (L_X10_goes_145 tf (r : Int) (k : Int) p m x σ)
  | 0, x, σ, hB, hO, hj, a0, a1, a2, a3 => by omega
  | m + 1, x, σ, hB, hO, hj, a0, a1, a2, a3 => by
    have ed : (ρ 28 10).toNat - k = ((ρ 28 10).toNat - (k + 1)) + 1 := by omega
    have hy : ∀ n, Okn (ρ 34) (nmR ρ r) (ρ 30 r) k p n → 1 ≤ n ∧ n ≤ y := fun n hn => by
      unfold Okn at hn
      rcases hn with z | z | z
      · omega
      · refine ⟨z.2.1, ?_⟩
        rcases yn with w | w
        · omega
        · by_cases q : n ≤ y
          · exact q
          · exact absurd (z.2.2.2 (p + y).toNat (by omega) (by omega)) w
      · omega
    rw [L_X10_goes_145]
    by_cases c : x < 1
    · rw [if_pos c]
      refine GR.no hB hO hL h0 h1 hj ?_
      rw [ed]
      refine no_way (fun n hn => ?_)
      have := hy n hn
      exact a3 n (by omega) (by omega)
    · rw [if_neg c]
      have t := hT σ x hB hO a0 (by omega)
      generalize tf σ (r : Int) (k : Int) p x = t0 at t ⊢
      have t' := t
      obtain ⟨t1, t2, t3, t4, t5, t6⟩ := t'
      by_cases c2 : t0.1 = 0
      · rw [if_pos c2]
        refine fig_loop hL hk h0 h1 hT h35 σ0 y0 yf yn m (x + -1) t0.2 t1 t2 (fun j hj' => by rw [t5 j hj', hj j hj']) (by omega) (by omega) (by omega) (fun n n0 n1 w => ?_)
        by_cases q : n = x
        · subst q
          have := t4.mpr w
          omega
        · exact a3 n (by omega) n1 w
      · have c3 : t0.1 = 1 := by omega
        rw [if_neg c2]
        have tt : TR ρ r σ0 k p x t0 := ⟨t1, t2, t3, t4, fun j hj' => by rw [t5 j hj', hj j hj'], t6⟩
        refine GR.ok hk tt c3 rfl (Or.inr (Or.inl ⟨h35, by omega, by omega, fun i i0 i1 => yf i i0 (by omega)⟩)) (fun n' o' w' => ⟨fun z => by omega, fun _ => ?_⟩)
        have := hy n' o'
        by_cases q : x < n'
        · exact absurd w' (a3 n' q (by omega))
        · omega
theorem goes_one {ρ : Sg} {r k : Nat} {p : Int} {tf : Sg → Int → Int → Int → Int → Int × Sg} (hL : ρ 30 r ≤ 12) (hk : (k : Int) < ρ 28 10) (h0 : 0 ≤ p) (h1 : p ≤ ρ 30 r) (hT : ∀ σ n, Bs ρ σ → MO ρ σ r → 0 ≤ n → p + n ≤ ρ 30 r → TR ρ r σ k p n (tf σ (r : Int) (k : Int) p n)) {σ : Sg} (hB : Bs ρ σ) (hO : MO ρ σ r) : GR ρ r σ k p (f_X10_goes σ tf (r : Int) (k : Int) p) := by
  have ed : (ρ 28 10).toNat - k = ((ρ 28 10).toNat - (k + 1)) + 1 := by omega
  unfold f_X10_goes
  rw [hB 28 (by decide) (by decide), hB 34 (by decide) (by decide), hB 30 (by decide) (by decide), hB 29 (by decide) (by decide), Int.toNat_natCast, Int.toNat_natCast, if_neg (by omega)]
  by_cases c0 : σ 41 (13 * (k : Int) + p).toNat = 0
  · rw [if_pos c0]
    by_cases c1 : ρ 34 k = 42
    · rw [if_pos c1]
      exact star_loop hL hk h0 h1 hT c1 σ 14 0 σ hB hO (fun _ _ => rfl) (by omega) (by omega) (by omega) (fun n a b => by omega)
    · rw [if_neg c1]
      by_cases c2 : ρ 34 k = 35
      · rw [if_pos c2]
        obtain ⟨y, y1, y2, y3, y4, y5⟩ := most_loop hL hk h0 h1 hT σ hB 13 0 (by omega) (by omega) (by omega) (fun i a b => by omega)
        rw [y1]
        exact fig_loop hL hk h0 h1 hT c2 σ ⟨y2, y3⟩ y4 y5 13 y σ hB hO (fun _ _ => rfl) (by omega) (by omega) (by omega) (fun n a b => by omega)
      · rw [if_neg c2]
        by_cases c3 : ρ 30 r - p ≤ 0
        · rw [if_pos c3]
          refine GR.no hB hO hL h0 h1 (fun _ _ => rfl) ?_
          rw [ed]
          refine no_way (fun n hn => ?_)
          unfold Okn at hn
          omega
        · rw [if_neg c3]
          have one : (ρ 34 k = 63 ∨ nmR ρ r p.toNat = ρ 34 k) → GR ρ r σ k p (if (tf σ (r : Int) (k : Int) p 1).1 = 0 then (0, up2 (tf σ (r : Int) (k : Int) p 1).2 41 (13 * (k : Int) + p).toNat 1) else (1, (tf σ (r : Int) (k : Int) p 1).2)) := by
            intro hh
            have t := hT σ 1 hB hO (by omega) (by omega)
            generalize tf σ (r : Int) (k : Int) p 1 = t0 at t ⊢
            have t' := t
            obtain ⟨t1, t2, t3, t4, t5, t6⟩ := t'
            by_cases d : t0.1 = 0
            · rw [if_pos d]
              refine GR.no t1 t2 hL h0 h1 t5 ?_
              rw [ed]
              refine no_way (fun n hn w => ?_)
              unfold Okn at hn
              have e1 : n = 1 := by omega
              subst e1
              have := t4.mpr w
              omega
            · rw [if_neg d]
              exact GR.ok hk t (by omega) rfl (Or.inr (Or.inr ⟨c1, c2, rfl, by omega, hh⟩)) (fun n' o' w' => ⟨fun z => absurd z c1, fun z => absurd z c2⟩)
          by_cases c4 : ρ 34 k = 63
          · rw [if_pos c4]
            exact one (Or.inl c4)
          · rw [if_neg c4, show (12 * (r : Int) + p).toNat = 12 * r + p.toNat by omega]
            by_cases c5 : ρ 29 (12 * r + p.toNat) = ρ 34 k
            · rw [if_pos c5]
              exact one (Or.inr c5)
            · rw [if_neg c5]
              refine GR.no hB hO hL h0 h1 (fun _ _ => rfl) ?_
              rw [ed]
              refine no_way (fun n hn => ?_)
              unfold Okn at hn
              rcases hn with z | z | z
              · exact absurd z.1 c1
              · exact absurd z.1 c2
              · rcases z.2.2.2.2 with w | w
                · exact absurd w c4
                · exact absurd w c5
  · rw [if_neg c0]
    have nw := hO k p hk h0 h1 (by rw [show 13 * k + p.toNat = (13 * (k : Int) + p).toNat by omega]; exact c0)
    exact ⟨hB, hO, Or.inl rfl, ⟨fun z => absurd z (by dsimp only; decide), fun z => absurd z nw⟩, fun _ _ => rfl, fun z => absurd z (by dsimp only; decide)⟩
theorem goes_end {ρ : Sg} {r k : Nat} {p : Int} {tf : Sg → Int → Int → Int → Int → Int × Sg} {σ : Sg} (hk : (k : Int) = ρ 28 10) (hB : Bs ρ σ) (hO : MO ρ σ r) : GR ρ r σ k p (f_X10_goes σ tf (r : Int) (k : Int) p) := by
  have ed : (ρ 28 10).toNat - k = 0 := by omega
  unfold f_X10_goes
  rw [hB 28 (by decide) (by decide), hB 30 (by decide) (by decide), Int.toNat_natCast, if_pos hk]
  unfold GR
  rw [ed]
  by_cases c : p = ρ 30 r
  · rw [if_pos c]
    exact ⟨hB, hO, Or.inr rfl, ⟨fun _ => c, fun _ => rfl⟩, fun _ _ => rfl, fun _ => trivial⟩
  · rw [if_neg c]
    exact ⟨hB, hO, Or.inl rfl, ⟨fun z => absurd z (by dsimp only; decide), fun z => absurd z c⟩, fun _ _ => rfl, fun _ => trivial⟩
theorem gfd_sim {ρ : Sg} {r : Nat} (hL : ρ 30 r ≤ 12) : ∀ (d k : Nat) (σ : Sg) (p : Int), (k : Int) ≤ ρ 28 10 → ρ 28 10 - (k : Int) ≤ (d : Int) → 0 ≤ p → p ≤ ρ 30 r → Bs ρ σ → MO ρ σ r → GR ρ r σ k p (gfd d σ (r : Int) (k : Int) p)
  | 0, k, σ, p, h1, h2, h3, h4, hB, hO => by
    rw [gfd]
    exact goes_end (by omega) hB hO
  | d + 1, k, σ, p, h1, h2, h3, h4, hB, hO => by
    rw [gfd]
    by_cases c : (k : Int) = ρ 28 10
    · exact goes_end c hB hO
    · refine goes_one hL (by omega) h3 h4 (fun σ' n b o n0 n1 => ?_) hB hO
      refine takesR h3 (fun σ'' q b' o' q0 q1 => ?_) b o n0 n1
      exact gfd_sim hL d (k + 1) σ'' q (by omega) (by omega) q0 q1 b' o'
theorem clr169 (a : Int) : ∀ (n : Nat) (x : Int) (σ : Sg), 0 ≤ x → 169 - x < (n : Int) → x ≤ 169 → ∀ i : Nat, (i : Int) < 169 → (L_X10_isFit_2 a n x σ) 41 i = if (i : Int) < x then σ 41 i else 0
  | 0, x, σ, h0, h1, h2 => by omega
  | n + 1, x, σ, h0, h1, h2 => by
    intro i hi
    rw [L_X10_isFit_2]
    by_cases c : 169 ≤ x
    · rw [if_pos c, if_pos (by omega)]
    · rw [if_neg c, clr169 a n (x + 1) _ (by omega) (by omega) (by omega) i hi, up2_row]
      dsimp only
      by_cases q : (i : Int) < x
      · rw [if_pos q, if_pos (by omega), if_neg (by omega)]
      · rw [if_neg q]
        by_cases q2 : (i : Int) < x + 1
        · rw [if_pos q2, if_pos (by omega)]
        · rw [if_neg q2]
/-- whether a row fits, and what each item takes: the reference -/
theorem isFit_sim {ρ : Sg} {r : Nat} (hL : 0 ≤ ρ 30 r ∧ ρ 30 r ≤ 12) (hN : 0 ≤ ρ 28 10 ∧ ρ 28 10 ≤ 12) : GR ρ r (L_X10_isFit_2 (r : Int) 170 0 ρ) 0 0 (f_X10_isFit ρ (r : Int)) := by
  unfold f_X10_isFit f_X10_goesT
  have hB : Bs ρ (L_X10_isFit_2 (r : Int) 170 0 ρ) := fun x a b => L_isFit_fr (r : Int) b _ _ _
  have hO : MO ρ (L_X10_isFit_2 (r : Int) 170 0 ρ) r := fun k p a b c e => by
    rw [clr169 (r : Int) 170 0 ρ (by omega) (by omega) (by omega) _ (by omega), if_neg (by omega)] at e
    exact absurd rfl e
  have g := gfd_sim hL.2 12 0 (L_X10_isFit_2 (r : Int) 170 0 ρ) 0 (by omega) (by omega) (by omega) hL.1 hB hO
  rw [show ((0 : Nat) : Int) = 0 by decide] at g
  generalize gfd 12 (L_X10_isFit_2 (r : Int) 170 0 ρ) (r : Int) 0 0 = G at g ⊢
  exact g
