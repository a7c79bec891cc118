/-! rule: reading. -/
def wc (f : Nat → Int) : Nat → Int
  | 0 => 0
  | n + 1 => wc f n + (if f n = 63 then 1 else if f n = 42 then 1 else if f n = 35 then 1 else 0)
theorem wc_congr {f g : Nat → Int} : ∀ {n : Nat}, (∀ i, i < n → f i = g i) → wc f n = wc g n
  | 0, _ => rfl
  | n + 1, h => by
    simp only [wc]
    rw [wc_congr (n := n) (fun i hi => h i (by omega)), h n (by omega)]
theorem wc_w {f : Nat → Int} {n : Nat} (h : wildB (f n)) : wc f (n + 1) = wc f n + 1 := by
  simp only [wc]
  congr 1
  unfold wildB at h
  repeat' split
  all_goals omega
theorem wc_n {f : Nat → Int} {n : Nat} (h : ¬ wildB (f n)) : wc f (n + 1) = wc f n := by
  simp only [wc]
  unfold wildB at h
  repeat' split
  all_goals omega
theorem wc_rng (f : Nat → Int) : ∀ n : Nat, 0 ≤ wc f n ∧ wc f n ≤ (n : Int)
  | 0 => by simp [wc]
  | n + 1 => by
    have := wc_rng f n
    by_cases q : wildB (f n)
    · rw [wc_w q]; omega
    · rw [wc_n q]; omega
theorem wc_mono (f : Nat → Int) {m : Nat} : ∀ {n : Nat}, m ≤ n → wc f m ≤ wc f n
  | 0, h => by
    have : m = 0 := by omega
    subst this; omega
  | n + 1, h => by
    by_cases e : m = n + 1
    · subst e; omega
    · have := wc_mono f (m := m) (n := n) (by omega)
      by_cases q : wildB (f n)
      · rw [wc_w q]; omega
      · rw [wc_n q]; omega
theorem wilds_eq (ρ : Sg) (a : Int) (ha : 0 ≤ a ∧ a ≤ 12) : ∀ (n : Nat) (k x : Int), 0 ≤ x → x ≤ a → 12 - x < (n : Int) → k = wc (ρ 37) x.toNat → L_X10_wilds_5 ρ a n k x = wc (ρ 37) a.toNat
  | 0, k, x, h0, h1, h2, h3 => by omega
  | n + 1, k, x, h0, h1, h2, h3 => by
    rw [L_X10_wilds_5]
    by_cases c1 : a ≤ x
    · rw [if_pos c1, h3, show x = a by omega]
    · rw [if_neg c1]
      have e : wc (ρ 37) (x + 1).toNat = wc (ρ 37) x.toNat + (if ρ 37 x.toNat = 63 then 1 else if ρ 37 x.toNat = 42 then 1 else if ρ 37 x.toNat = 35 then 1 else 0) := by
        rw [show (x + 1).toNat = x.toNat + 1 by omega]
        rfl
      have ih := fun k hk => wilds_eq ρ a ha n k (x + 1) (by omega) (by omega) (by omega) hk
      by_cases d1 : ρ 37 x.toNat = 63
      · rw [if_pos d1]; exact ih _ (by rw [e, if_pos d1, h3])
      · rw [if_neg d1]
        by_cases d2 : ρ 37 x.toNat = 42
        · rw [if_pos d2]; exact ih _ (by rw [e, if_neg d1, if_pos d2, h3])
        · rw [if_neg d2]
          by_cases d3 : ρ 37 x.toNat = 35
          · rw [if_pos d3]; exact ih _ (by rw [e, if_neg d1, if_neg d2, if_pos d3, h3])
          · rw [if_neg d3]; exact ih _ (by rw [e, if_neg d1, if_neg d2, if_neg d3, h3]; omega)
/-- the n-th wild item, where it is -/
theorem wild_at (ρ : Sg) (a : Int) {p : Nat} (hp : (p : Int) < ρ 28 10) (h12 : ρ 28 10 ≤ 12) (hw : wildB (ρ 34 p)) (hc : wc (ρ 34) p = a - 1) : ∀ (n : Nat) (left x : Int), 0 ≤ x → x ≤ (p : Int) → 12 - x < (n : Int) → left = a - wc (ρ 34) x.toNat → L_X10_wild_4 ρ a n left x = (p : Int)
  | 0, left, x, h0, h1, h2, h3 => by omega
  | n + 1, left, x, h0, h1, h2, h3 => by
    rw [L_X10_wild_4, if_neg (by omega)]
    have ih := fun l hl (hx : x ≠ (p : Int)) => wild_at ρ a hp h12 hw hc n l (x + 1) (by omega) (by omega) (by omega) hl
    have hm := wc_mono (ρ 34) (m := x.toNat) (n := p) (by omega)
    have e1 : (x + 1).toNat = x.toNat + 1 := by omega
    by_cases q : wildB (ρ 34 x.toNat)
    · have g : (if left + -1 = 0 then x else L_X10_wild_4 ρ a n (left + -1) (x + 1)) = (p : Int) := by
        by_cases c : x = (p : Int)
        · rw [if_pos (by rw [h3, c, Int.toNat_natCast]; omega)]; exact c
        · have hm2 := wc_mono (ρ 34) (m := x.toNat + 1) (n := p) (by omega)
          rw [wc_w q] at hm2
          rw [if_neg (by omega)]
          exact ih _ (by rw [e1, wc_w q]; omega) c
      unfold wildB at q
      by_cases d1 : ρ 34 x.toNat = 63
      · rw [if_pos d1]; exact g
      · rw [if_neg d1]
        by_cases d2 : ρ 34 x.toNat = 42
        · rw [if_pos d2]; exact g
        · rw [if_neg d2, if_pos (by omega)]; exact g
    · have c : x ≠ (p : Int) := fun c => q (by rw [c, Int.toNat_natCast]; exact hw)
      have q' := q
      unfold wildB at q'
      rw [if_neg (by omega), if_neg (by omega), if_neg (by omega), if_neg (by omega)]
      exact ih _ (by rw [e1, wc_n q]; omega) c
theorem wildX (b : Int) : f_X6_isWild b = 0 ↔ ¬ wildB b := by
  unfold f_X6_isWild wildB
  repeat' split
  all_goals omega
theorem takenX (b : Int) : f_X6_isTaken b = 0 ↔ ¬ takenB b := by
  unfold f_X6_isTaken takenB
  repeat' split
  all_goals omega
theorem nbX0 (b : Int) : f_X6_isOfNames b = 0 ↔ ¬ nb b := by
  have := nbX b
  constructor
  · intro h k
    have := this.2.mpr k
    omega
  · intro h
    rcases this.1 with w | w
    · exact w
    · exact absurd (this.2.mp w) h
/-- what a byte of the tape is on both sides -/
theorem byte_two {b : Int} (h : 0 ≤ b ∧ b ≤ 255) : (f_X10_isNameByte (b.bmod 256) = 0 ↔ ¬ nb b) ∧ (∀ k : Int, 1 ≤ k ∧ k ≤ 127 → (b.bmod 256 = k ↔ b = k)) ∧ (f_X10_isFigure (b.bmod 256) = f_X6_isFigure b) ∧ (nb b ∨ wildB b ∨ takenB b ∨ b = 37 ∨ f_X6_isFigure b ≠ 0 → b.bmod 256 = b) := by
  refine ⟨by rw [← nb_eq h]; exact nbX0 b, fun k hk => ?_, ?_, ?_⟩
  · by_cases q : b ≤ 127
    · rw [bm_lo ⟨h.1, q⟩]
    · rw [bm_hi ⟨by omega, h.2⟩]; omega
  · by_cases q : b ≤ 127
    · rw [bm_lo ⟨h.1, q⟩]; rfl
    · rw [bm_hi ⟨by omega, h.2⟩]
      unfold f_X10_isFigure f_X6_isFigure
      repeat' split
      all_goals omega
  · intro k
    refine bm_lo ⟨h.1, ?_⟩
    unfold nb wildB takenB f_X6_isFigure at k
    rcases k with k | k | k | k | k
    · omega
    · omega
    · omega
    · omega
    · split at k
      · exact absurd rfl k
      · split at k
        · exact absurd rfl k
        · omega
def TOK (τ ρ : Sg) : Prop := SimT τ ρ ∧ (0 ≤ τ 1 1 ∧ τ 1 1 ≤ 80) ∧ ∀ i, 0 ≤ τ 2 i ∧ τ 2 i ≤ 255
theorem TOK.mv {τ τ' ρ ρ' : Sg} (h : TOK τ ρ) (h1 : τ' 1 = τ 1) (h2 : τ' 2 = τ 2) (h3 : ρ' 28 9 = ρ 28 9) (h4 : ρ' 33 = ρ 33) : TOK τ' ρ' := by
  refine ⟨h.1.mv h1 h2 h3 h4, ?_, ?_⟩
  · rw [h1]; exact h.2.1
  · rw [h2]; exact h.2.2
def FrX (τ0 τ : Sg) (R : Nat) : Prop := ∀ x, (x < R ∨ R + 4 < x) → τ x = τ0 x
def FrM (ρ0 ρ : Sg) : Prop := (∀ x, x ≠ 28 → (x < 37 ∨ 39 < x) → ρ x = ρ0 x) ∧ ∀ k, k ≠ 15 → k ≠ 16 → k ≠ 21 → k ≠ 22 → ρ 28 k = ρ0 28 k
theorem FrX.tr {a b c : Sg} {R : Nat} (h : FrX a b R) (k : FrX b c R) : FrX a c R := fun x hx => (k x hx).trans (h x hx)
theorem FrM.tr {a b c : Sg} (h : FrM a b) (k : FrM b c) : FrM a c := ⟨fun x h1 h2 => (k.1 x h1 h2).trans (h.1 x h1 h2), fun x h1 h2 h3 h4 => (k.2 x h1 h2 h3 h4).trans (h.2 x h1 h2 h3 h4)⟩
theorem FrX.up {a b : Sg} {R : Nat} (h : FrX a b R) {c : Nat} (hc : R ≤ c ∧ c ≤ R + 4) (i : Nat) (v : Int) : FrX a (up2 b c i v) R := fun x hx => by rw [up2_cell _ _ _ (by omega)]; exact h x hx
theorem FrM.up {a b : Sg} (h : FrM a b) {c : Nat} (hc : 37 ≤ c ∧ c ≤ 39) (i : Nat) (v : Int) : FrM a (up2 b c i v) := ⟨fun x h1 h2 => by rw [up2_cell _ _ _ (by omega)]; exact h.1 x h1 h2, fun k h1 h2 h3 h4 => by rw [up2_cell _ _ _ (by omega)]; exact h.2 k h1 h2 h3 h4⟩
theorem FrM.up28 {a b : Sg} (h : FrM a b) {i : Nat} (hi : i = 15 ∨ i = 16 ∨ i = 21 ∨ i = 22) (v : Int) : FrM a (up2 b 28 i v) := ⟨fun x h1 h2 => by rw [up2_cell _ _ _ h1]; exact h.1 x h1 h2, fun k h1 h2 h3 h4 => by rw [up2_slot _ _ (by omega)]; exact h.2 k h1 h2 h3 h4⟩
theorem FrX.rf (a : Sg) (R : Nat) : FrX a a R := fun _ _ => rfl
theorem FrM.rf (a : Sg) : FrM a a := ⟨fun _ _ _ => rfl, fun _ _ _ _ _ => rfl⟩
theorem TOK.fr {τ τ' ρ ρ' : Sg} {R : Nat} (h : TOK τ ρ) (hR : isRu R) (k : FrX τ τ' R) (j : FrM ρ ρ') : TOK τ' ρ' := h.mv (k 1 (by omega)) (k 2 (by omega)) (j.2 9 (by decide) (by decide) (by decide) (by decide)) (j.1 33 (by decide) (by decide))
/-- the items that both have read -/
def ItE (τ ρ : Sg) (R : Nat) : Prop := τ R 4 = ρ 28 15 ∧ (0 ≤ τ R 4 ∧ τ R 4 ≤ 12) ∧ (∀ i : Nat, (i : Int) < τ R 4 → τ (R + 1) i = ρ 37 i ∧ (nb (τ (R + 1) i) ∨ wildB (τ (R + 1) i))) ∧ τ R 5 = wc (τ (R + 1)) (τ R 4).toNat ∧
  ∀ j : Nat, (j : Int) < τ R 5 → (0 ≤ τ (R + 2) j ∧ τ (R + 2) j < τ R 4) ∧ wildB (τ (R + 1) (τ (R + 2) j).toNat) ∧ wc (τ (R + 1)) (τ (R + 2) j).toNat = (j : Int)
theorem addItem_sim {τ ρ : Sg} {R : Nat} (hR : isRu R) (h : ItE τ ρ R) (h12 : τ R 4 < 12) {b : Int} (hb : nb b ∨ wildB b) :
    ItE (f_X5_addItem τ R b) (up2 (up2 ρ 37 ((ρ 28 15).toNat) b) 28 15 (ρ 28 15 + 1)) R ∧ FrX τ (f_X5_addItem τ R b) R ∧ (f_X5_addItem τ R b) R 4 = τ R 4 + 1 ∧ ∀ k, k ≠ 4 → k ≠ 5 → (f_X5_addItem τ R b) R k = τ R k := by
  obtain ⟨i1, i2, i3, i4, i5⟩ := h
  have wr := wc_rng (τ (R + 1)) (τ R 4).toNat
  have g37 : (up2 (up2 ρ 37 ((ρ 28 15).toNat) b) 28 15 (ρ 28 15 + 1)) 37 = fun i => if i = (τ R 4).toNat then b else ρ 37 i := by rw [up2_cell _ _ _ (by decide), up2_row, i1]
  have g15 : (up2 (up2 ρ 37 ((ρ 28 15).toNat) b) 28 15 (ρ 28 15 + 1)) 28 15 = τ R 4 + 1 := by rw [up2_same, i1]
  generalize (up2 (up2 ρ 37 ((ρ 28 15).toNat) b) 28 15 (ρ 28 15 + 1)) = P at g37 g15 ⊢
  unfold f_X5_addItem
  by_cases w : f_X6_isWild b = 0
  · have w' := (wildX b).mp w
    rw [if_pos w]
    have a1 : (up2 (up2 τ (R + 1) ((τ R 4).toNat) b) R 4 (τ R 4 + 1)) (R + 1) = fun i => if i = (τ R 4).toNat then b else τ (R + 1) i := by rw [up2_cell _ _ _ (by omega), up2_row]
    have a2 : (up2 (up2 τ (R + 1) ((τ R 4).toNat) b) R 4 (τ R 4 + 1)) (R + 2) = τ (R + 2) := by rw [up2_cell _ _ _ (by omega), up2_cell _ _ _ (by omega)]
    have ak : ∀ k, k ≠ 4 → (up2 (up2 τ (R + 1) ((τ R 4).toNat) b) R 4 (τ R 4 + 1)) R k = τ R k := fun k hk => by rw [up2_slot _ _ hk, up2_cell _ _ _ (by omega)]
    have a4 : (up2 (up2 τ (R + 1) ((τ R 4).toNat) b) R 4 (τ R 4 + 1)) R 4 = τ R 4 + 1 := up2_same _ _ _ _
    have fr : FrX τ (up2 (up2 τ (R + 1) ((τ R 4).toNat) b) R 4 (τ R 4 + 1)) R := ((FrX.rf τ R).up (by omega) _ _).up (by omega) _ _
    generalize (up2 (up2 τ (R + 1) ((τ R 4).toNat) b) R 4 (τ R 4 + 1)) = T at a1 a2 ak a4 fr ⊢
    refine ⟨⟨by rw [a4, g15], by rw [a4]; omega, fun i hi => ?_, ?_, fun j hj => ?_⟩, fr, a4, fun k hk _ => ak k hk⟩
    · rw [a4] at hi
      rw [a1, g37]
      dsimp only
      by_cases e : i = (τ R 4).toNat
      · rw [if_pos e, if_pos e]; exact ⟨rfl, hb⟩
      · rw [if_neg e, if_neg e]; exact i3 i (by omega)
    · rw [ak 5 (by decide), a4, i4, show (τ R 4 + 1).toNat = (τ R 4).toNat + 1 by omega, wc_n (by rw [a1]; dsimp only; rw [if_pos rfl]; exact w')]
      exact wc_congr (fun i hi => by rw [a1]; dsimp only; rw [if_neg (by omega)])
    · rw [ak 5 (by decide)] at hj
      obtain ⟨q1, q2, q3⟩ := i5 j hj
      rw [a2, a4, a1]
      dsimp only
      refine ⟨by omega, by rw [if_neg (by omega)]; exact q2, ?_⟩
      rw [← q3]
      exact wc_congr (fun i hi => by rw [if_neg (by omega)])
  · have w' : wildB b := by
      rcases Classical.em (wildB b) with z | z
      · exact z
      · exact absurd ((wildX b).mpr z) w
    rw [if_neg w]
    have a1 : (up2 (up2 (up2 (up2 τ (R + 2) ((τ R 5).toNat) (τ R 4)) R 5 (τ R 5 + 1)) (R + 1) ((τ R 4).toNat) b) R 4 (τ R 4 + 1)) (R + 1) = fun i => if i = (τ R 4).toNat then b else τ (R + 1) i := by
      rw [up2_cell _ _ _ (by omega), up2_row]
      funext i
      rw [up2_cell _ _ _ (by omega), up2_cell _ _ _ (by omega)]
    have a2 : (up2 (up2 (up2 (up2 τ (R + 2) ((τ R 5).toNat) (τ R 4)) R 5 (τ R 5 + 1)) (R + 1) ((τ R 4).toNat) b) R 4 (τ R 4 + 1)) (R + 2) = fun i => if i = (τ R 5).toNat then τ R 4 else τ (R + 2) i := by rw [up2_cell _ _ _ (by omega), up2_cell _ _ _ (by omega), up2_cell _ _ _ (by omega), up2_row]
    have ak : ∀ k, k ≠ 4 → k ≠ 5 → (up2 (up2 (up2 (up2 τ (R + 2) ((τ R 5).toNat) (τ R 4)) R 5 (τ R 5 + 1)) (R + 1) ((τ R 4).toNat) b) R 4 (τ R 4 + 1)) R k = τ R k := fun k hk hk5 => by rw [up2_slot _ _ hk, up2_cell _ _ _ (by omega), up2_slot _ _ hk5, up2_cell _ _ _ (by omega)]
    have a5 : (up2 (up2 (up2 (up2 τ (R + 2) ((τ R 5).toNat) (τ R 4)) R 5 (τ R 5 + 1)) (R + 1) ((τ R 4).toNat) b) R 4 (τ R 4 + 1)) R 5 = τ R 5 + 1 := by rw [up2_slot _ _ (by decide), up2_cell _ _ _ (by omega), up2_same]
    have a4 : (up2 (up2 (up2 (up2 τ (R + 2) ((τ R 5).toNat) (τ R 4)) R 5 (τ R 5 + 1)) (R + 1) ((τ R 4).toNat) b) R 4 (τ R 4 + 1)) R 4 = τ R 4 + 1 := up2_same _ _ _ _
    have fr : FrX τ (up2 (up2 (up2 (up2 τ (R + 2) ((τ R 5).toNat) (τ R 4)) R 5 (τ R 5 + 1)) (R + 1) ((τ R 4).toNat) b) R 4 (τ R 4 + 1)) R := ((((FrX.rf τ R).up (by omega) _ _).up (by omega) _ _).up (by omega) _ _).up (by omega) _ _
    generalize (up2 (up2 (up2 (up2 τ (R + 2) ((τ R 5).toNat) (τ R 4)) R 5 (τ R 5 + 1)) (R + 1) ((τ R 4).toNat) b) R 4 (τ R 4 + 1)) = T at a1 a2 ak a4 a5 fr ⊢
    have cg : ∀ n : Nat, n ≤ (τ R 4).toNat → wc (T (R + 1)) n = wc (τ (R + 1)) n := fun n hn => wc_congr (fun i hi => by rw [a1]; dsimp only; rw [if_neg (by omega)])
    refine ⟨⟨by rw [a4, g15], by rw [a4]; omega, fun i hi => ?_, ?_, fun j hj => ?_⟩, fr, a4, ak⟩
    · rw [a4] at hi
      rw [a1, g37]
      dsimp only
      by_cases e : i = (τ R 4).toNat
      · rw [if_pos e, if_pos e]; exact ⟨rfl, hb⟩
      · rw [if_neg e, if_neg e]; exact i3 i (by omega)
    · rw [a5, a4, i4, show (τ R 4 + 1).toNat = (τ R 4).toNat + 1 by omega, wc_w (by rw [a1]; dsimp only; rw [if_pos rfl]; exact w'), cg _ (by omega)]
    · rw [a5] at hj
      rw [a2]
      dsimp only
      by_cases e : j = (τ R 5).toNat
      · rw [if_pos e, cg _ (by omega), a1, a4]
        dsimp only
        refine ⟨by omega, by rw [if_pos rfl]; exact w', by omega⟩
      · rw [if_neg e]
        obtain ⟨q1, q2, q3⟩ := i5 j (by omega)
        rw [cg _ (by omega), a1, a4]
        dsimp only
        refine ⟨by omega, by rw [if_neg (by omega)]; exact q2, q3⟩
theorem items_stop {ρ : Sg} (h : ¬ ρ 28 21 = 0) (x : Int) : ∀ m : Nat, L_X10_readItems_7 m x ρ = (x, ρ)
  | 0 => rfl
  | m + 1 => by rw [L_X10_readItems_7, if_neg h]
theorem fails_eq {ρ : Sg} (h : ρ 28 21 = 0) (k x : Int) : f_X10_fails ρ k x = up2 (up2 ρ 28 21 k) 28 22 x := by
  unfold f_X10_fails
  rw [if_pos h]
/-- how reading the items ends on both sides -/
def IEnd (τ ρ : Sg) (R : Nat) (rX rM : Int × Sg) : Prop := FrX τ rX.2 R ∧ FrM ρ rM.2 ∧ rX.2 R 6 = τ R 6 ∧ rM.2 28 16 = ρ 28 16 ∧
  ((rX.1 = 0 ∧ rM.2 28 21 = 0 ∧ rM.1 = rX.2 R 4 ∧ ItE rX.2 rM.2 R ∧ 1 ≤ rX.2 R 4 ∧ rX.2 R 4 < τ 1 1 ∧ rX.2 R 7 = τ R 7) ∨ (1 ≤ rX.1 ∧ rM.2 28 21 = rX.1 ∧ rM.2 28 22 = rX.2 R 7))
theorem IEnd.bad {τ ρ : Sg} {R : Nat} (hR : isRu R) (h21 : ρ 28 21 = 0) {k : Int} (hk : 1 ≤ k) (x : Int) (m : Nat) : IEnd τ ρ R (k, up2 τ R 7 x) (L_X10_readItems_7 m x (f_X10_fails ρ k x)) := by
  rw [fails_eq h21, items_stop (by rw [up2_slot _ _ (by decide), up2_same]; omega)]
  refine ⟨(FrX.rf τ R).up (by omega) _ _, ((FrM.rf ρ).up28 (by omega) _).up28 (by omega) _, up2_slot _ _ (by decide), ?_, Or.inr ⟨hk, ?_, ?_⟩⟩
  · dsimp only
    rw [up2_slot _ _ (by decide), up2_slot _ _ (by decide)]
  · dsimp only
    rw [up2_slot _ _ (by decide), up2_same]
  · dsimp only
    rw [up2_same, up2_same]
theorem items_sim {R : Nat} (hR : isRu R) : ∀ (n m : Nat) (x : Int) (τ ρ : Sg), TOK τ ρ → ItE τ ρ R → τ R 4 = x → ρ 28 21 = 0 → x ≤ τ 1 1 → 12 - x < (n : Int) → 12 - x < (m : Int) → IEnd τ ρ R (L_X5_readItems_2 R n x τ) (L_X10_readItems_7 m x ρ)
  | 0, m, x, τ, ρ, hT, hI, hx, h21, hl, f1, f2 => by have := hI.2.1; omega
  | n + 1, 0, x, τ, ρ, hT, hI, hx, h21, hl, f1, f2 => by have := hI.2.1; omega
  | n + 1, m + 1, x, τ, ρ, hT, hI, hx, h21, hl, f1, f2 => by
    have b4 := hI.2.1
    have e15 := hI.1
    have e9 := hT.1.1
    have b1 := hT.2.1
    rw [L_X5_readItems_2, L_X10_readItems_7, if_pos h21]
    unfold f_X8_length
    by_cases c1 : τ 1 1 ≤ x
    · rw [if_pos c1, if_pos (show x = ρ 28 9 by omega), ite_self, show τ 1 1 = x by omega]
      exact IEnd.bad hR h21 (k := 1) (by omega) x m
    · rw [if_neg c1, if_neg (show ¬ x = ρ 28 9 by omega), tbyte (by omega) (by omega) b1.2, hT.1.2 x.toNat (by omega)]
      generalize hb : τ 2 x.toNat = b
      have bb : 0 ≤ b ∧ b ≤ 255 := by rw [← hb]; exact hT.2.2 _
      obtain ⟨t1, t2, t3, t4⟩ := byte_two bb
      have u62 := t2 62 (by omega)
      have u63 := t2 63 (by omega)
      have u42 := t2 42 (by omega)
      have u35 := t2 35 (by omega)
      have hlt : ¬ ρ 28 9 ≤ x := by omega
      by_cases c2 : b = 62
      · rw [if_pos c2, if_pos (u62.mpr c2)]
        by_cases c3 : τ R 4 ≤ 0
        · have n1 : ¬ nb b := by unfold nb; omega
          have n2 : ¬ wildB b := by unfold wildB; omega
          rw [if_pos c3, if_pos ((nbX0 b).mpr n1), if_pos ((wildX b).mpr n2), if_pos (show ρ 28 15 = 0 by omega), if_neg hlt, if_pos (t1.mpr n1), if_neg (by omega), if_neg (by omega), if_neg (by omega)]
          exact IEnd.bad hR h21 (k := 1) (by omega) x m
        · rw [if_neg c3, if_neg (show ¬ ρ 28 15 = 0 by omega)]
          exact ⟨FrX.rf _ _, FrM.rf _, rfl, rfl, Or.inl ⟨rfl, h21, hx.symm, hI, by dsimp only; omega, by dsimp only; omega, rfl⟩⟩
      · rw [if_neg c2, if_neg (fun z => c2 (u62.mp z)), if_neg hlt]
        have good : nb b ∨ wildB b → IEnd τ ρ R (if τ R 4 < 12 then L_X5_readItems_2 R n (x + 1) (f_X5_addItem τ R b) else ((f_X5_fault τ R 2 x).1, (f_X5_fault τ R 2 x).2)) (if ρ 28 15 = 12 then L_X10_readItems_7 m x (f_X10_fails ρ 2 x) else L_X10_readItems_7 m (x + 1) (up2 (up2 ρ 37 ((ρ 28 15).toNat) (b.bmod 256)) 28 15 (ρ 28 15 + 1))) := by
          intro hg
          by_cases c4 : τ R 4 < 12
          · rw [if_pos c4, if_neg (show ¬ ρ 28 15 = 12 by omega), t4 (by rcases hg with z | z; exact Or.inl z; exact Or.inr (Or.inl z))]
            obtain ⟨s1, s2, s3, s4⟩ := addItem_sim hR hI c4 hg
            have fm : FrM ρ (up2 (up2 ρ 37 ((ρ 28 15).toNat) b) 28 15 (ρ 28 15 + 1)) := ((FrM.rf ρ).up (by omega) _ _).up28 (by omega) _
            have g21 : (up2 (up2 ρ 37 ((ρ 28 15).toNat) b) 28 15 (ρ 28 15 + 1)) 28 21 = 0 := by rw [up2_slot _ _ (by decide), up2_cell _ _ _ (by decide)]; exact h21
            have g16 : (up2 (up2 ρ 37 ((ρ 28 15).toNat) b) 28 15 (ρ 28 15 + 1)) 28 16 = ρ 28 16 := by rw [up2_slot _ _ (by decide), up2_cell _ _ _ (by decide)]
            have e1 := s2 1 (by omega)
            have ih := items_sim hR n m (x + 1) _ _ (hT.fr hR s2 fm) s1 (by rw [s3]; omega) g21 (by rw [e1]; omega) (by omega) (by omega)
            obtain ⟨j1, j2, j3, j4, j5⟩ := ih
            refine ⟨s2.tr j1, fm.tr j2, by rw [j3]; exact s4 6 (by decide) (by decide), by rw [j4, g16], ?_⟩
            rw [e1] at j5
            rw [s4 7 (by decide) (by decide)] at j5
            exact j5
          · rw [if_neg c4, if_pos (show ρ 28 15 = 12 by omega)]
            exact IEnd.bad hR h21 (k := 2) (by omega) x m
        by_cases c5 : nb b
        · rw [if_neg (fun z => (nbX0 b).mp z c5), if_neg (fun z => t1.mp z c5)]
          exact good (Or.inl c5)
        · rw [if_pos ((nbX0 b).mpr c5), if_pos (t1.mpr c5)]
          by_cases c6 : wildB b
          · rw [if_neg (fun z => (wildX b).mp z c6)]
            have g := good (Or.inr c6)
            unfold wildB at c6
            by_cases d1 : b = 63
            · rw [if_pos (u63.mpr d1)]; exact g
            · rw [if_neg (fun z => d1 (u63.mp z))]
              by_cases d2 : b = 42
              · rw [if_pos (u42.mpr d2)]; exact g
              · rw [if_neg (fun z => d2 (u42.mp z)), if_pos (u35.mpr (by omega))]; exact g
          · rw [if_pos ((wildX b).mpr c6)]
            unfold wildB at c6
            rw [if_neg (fun z => c6 (Or.inl (u63.mp z))), if_neg (fun z => c6 (Or.inr (Or.inl (u42.mp z)))), if_neg (fun z => c6 (Or.inr (Or.inr (u35.mp z))))]
            exact IEnd.bad hR h21 (k := 1) (by omega) x m
