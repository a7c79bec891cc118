/-! plan: new names, the reference. -/
theorem conv_rng {s c : Int} (h : 0 ≤ c ∧ c ≤ 127) : 0 ≤ conv s c ∧ conv s c ≤ 127 := by
  unfold conv f_X10_high f_X10_low
  repeat' split
  all_goals omega
theorem conv_nb {s c : Int} (h : nb c) : nb (conv s c) := by
  unfold conv f_X10_high f_X10_low
  unfold nb at h ⊢
  repeat' split
  all_goals omega
def NLM (σ : Sg) (k : Nat) (l : List Int) : Prop := σ 44 k = (l.length : Int) ∧ ∀ i : Nat, i < 12 → i < l.length → σ 29 (12 * (80 + k) + i) = l.getD i 0
def MF (σ σ' : Sg) (k : Nat) : Prop := (∀ x, x ≠ 29 → x ≠ 44 → σ' x = σ x) ∧ (∀ j, j ≠ k → σ' 44 j = σ 44 j) ∧ ∀ j, (j < 12 * (80 + k) ∨ 12 * (80 + k) + 12 ≤ j) → σ' 29 j = σ 29 j
theorem MF.rf (σ : Sg) (k : Nat) : MF σ σ k := ⟨fun _ _ _ => rfl, fun _ _ => rfl, fun _ _ => rfl⟩
theorem MF.tr {a b c : Sg} {k : Nat} (h : MF a b k) (j : MF b c k) : MF a c k := ⟨fun x u v => (j.1 x u v).trans (h.1 x u v), fun i hi => (j.2.1 i hi).trans (h.2.1 i hi), fun i hi => (j.2.2 i hi).trans (h.2.2 i hi)⟩
theorem NLM.add {σ : Sg} {k : Nat} {l : List Int} (h : NLM σ k l) {b : Int} (hb : 0 ≤ b ∧ b ≤ 127) : NLM (f_X10_adds σ (k : Int) b) k (l ++ [b]) ∧ MF σ (f_X10_adds σ (k : Int) b) k := by
  obtain ⟨h1, h2⟩ := h
  have ll : ((l ++ [b]).length : Int) = (l.length : Int) + 1 := by rw [List.length_append]; rfl
  unfold f_X10_adds
  rw [Int.toNat_natCast, h1, bm_lo hb]
  by_cases c : 12 ≤ l.length
  · rw [if_pos (show (12 : Int) ≤ (l.length : Int) by omega)]
    refine ⟨⟨by rw [up2_same, ll], fun i hi hl => ?_⟩, fun x u v => up2_cell _ _ _ v, fun j hj => up2_slot _ _ hj, fun j hj => by rw [up2_cell _ _ _ (by decide)]⟩
    rw [up2_cell _ _ _ (by decide), gd_lt (by omega)]
    exact h2 i hi (by omega)
  · rw [if_neg (show ¬ (12 : Int) ≤ (l.length : Int) by omega), show (12 * (80 + (k : Int)) + (l.length : Int)).toNat = 12 * (80 + k) + l.length by omega]
    refine ⟨⟨by rw [up2_same, ll], fun i hi hl => ?_⟩, fun x u v => by rw [up2_cell _ _ _ v, up2_cell _ _ _ u], fun j hj => by rw [up2_slot _ _ hj, up2_cell _ _ _ (by decide)], fun j hj => by rw [up2_cell _ _ _ (by decide), up2_slot _ _ (by omega)]⟩
    rw [up2_cell _ _ _ (by decide), up2_row]
    dsimp only
    by_cases e : i = l.length
    · rw [if_pos (by omega), e, gd_eq]
    · have hl' : i < l.length := by
        rw [List.length_append] at hl
        simp at hl
        omega
      rw [if_neg (by omega), gd_lt hl']
      exact h2 i hi hl'
theorem takenM_loop {k f : Nat} (hf : f < 40) {nm : Nat → Int} {s : Int} (hs : s = 36 ∨ s = 94 ∨ s = 33) {st tk lo : Int} (h0 : 0 ≤ st) (h1 : st + tk ≤ lo) (h2 : lo ≤ 12) (hb : ∀ i : Nat, (i : Int) < lo → 0 ≤ nm i ∧ nm i ≤ 127) (x3 : Int) {p w : Nat} (l : List Int) : ∀ (n : Nat) (x : Int) (σ : Sg), 0 ≤ x → x ≤ tk → tk - x < (n : Int) → σ 40 w = tk → σ 35 p = s → (∀ i : Nat, (i : Int) < lo → σ 29 (12 * f + i) = nm i) → NLM σ k (l ++ tkl nm s st.toNat x.toNat) →
    NLM (L_X10_makes_124 (k : Int) n (f : Int) x3 (p : Int) (w : Int) st (st + x) σ) k (l ++ tkl nm s st.toNat tk.toNat) ∧ MF σ (L_X10_makes_124 (k : Int) n (f : Int) x3 (p : Int) (w : Int) st (st + x) σ) k
  | 0, x, σ, a0, a1, a2, a3, a4, a5, a6 => by omega
  | n + 1, x, σ, a0, a1, a2, a3, a4, a5, a6 => by
    rw [L_X10_makes_124, Int.toNat_natCast, Int.toNat_natCast, a3, a4]
    by_cases c : tk ≤ x
    · rw [if_pos (by omega)]
      rw [show x = tk by omega] at a6
      exact ⟨a6, MF.rf _ _⟩
    · rw [if_neg (by omega), show (12 * (f : Int) + (st + x)).toNat = 12 * f + (st + x).toNat by omega, a5 (st + x).toNat (by omega)]
      have hbb := hb (st + x).toNat (by omega)
      have go : ∀ v, v = conv s (nm (st + x).toNat) → NLM (L_X10_makes_124 (k : Int) n (f : Int) x3 (p : Int) (w : Int) st (st + x + 1) (f_X10_adds σ (k : Int) v)) k (l ++ tkl nm s st.toNat tk.toNat) ∧ MF σ (L_X10_makes_124 (k : Int) n (f : Int) x3 (p : Int) (w : Int) st (st + x + 1) (f_X10_adds σ (k : Int) v)) k := by
        intro v hv
        obtain ⟨b1, b2⟩ := a6.add (b := v) (by rw [hv]; exact conv_rng hbb)
        have e : l ++ tkl nm s st.toNat x.toNat ++ [v] = l ++ tkl nm s st.toNat (x + 1).toNat := by
          rw [show (x + 1).toNat = x.toNat + 1 by omega, tkl, hv, show (st + x).toNat = st.toNat + x.toNat by omega, List.append_assoc]
        rw [e] at b1
        have g := takenM_loop hf hs h0 h1 h2 hb x3 (p := p) (w := w) l n (x + 1) (f_X10_adds σ (k : Int) v) (by omega) (by omega) (by omega) (by rw [b2.1 40 (by decide) (by decide)]; exact a3) (by rw [b2.1 35 (by decide) (by decide)]; exact a4) (fun i hi => by rw [b2.2.2 _ (by omega)]; exact a5 i hi) b1
        rw [show st + (x + 1) = st + x + 1 by omega] at g
        exact ⟨g.1, b2.tr g.2⟩
      by_cases c1 : s = 36
      · rw [if_pos c1]
        exact go _ (by unfold conv; rw [if_pos c1])
      · rw [if_neg c1]
        by_cases c2 : s = 94
        · rw [if_pos c2]
          exact go _ (by unfold conv; rw [if_neg c1, if_pos c2])
        · rw [if_neg c2]
          exact go _ (by unfold conv; rw [if_neg c1, if_neg c2])
def digl (ctr : Int) : Nat → List Int
  | 0 => [48 + ctr / 1 % 10]
  | 1 => [48 + ctr / 10 % 10, 48 + ctr / 1 % 10]
  | 2 => [48 + ctr / 100 % 10, 48 + ctr / 10 % 10, 48 + ctr / 1 % 10]
  | _ + 3 => [48 + ctr / 1000 % 10, 48 + ctr / 100 % 10, 48 + ctr / 10 % 10, 48 + ctr / 1 % 10]
theorem dg_eq {ctr w : Int} (h0 : 0 ≤ ctr) (hw : 1 ≤ w ∧ w ≤ 4) (d : Nat) (hd : (d = 0 ∧ ctr < 10) ∨ (d = 1 ∧ 10 ≤ ctr ∧ ctr < 100) ∨ (d = 2 ∧ 100 ≤ ctr ∧ ctr < 1000) ∨ (d = 3 ∧ 1000 ≤ ctr)) : List.replicate (w - ((d : Int) + 1)).toNat 48 ++ digl ctr d = dg ctr w := by
  have hw' : w = 1 ∨ w = 2 ∨ w = 3 ∨ w = 4 := by omega
  unfold dg dgt
  rcases hd with ⟨rfl, h⟩ | ⟨rfl, h⟩ | ⟨rfl, h⟩ | ⟨rfl, h⟩ <;> rcases hw' with rfl | rfl | rfl | rfl <;> (repeat' split) <;> first | omega | (simp [digl, List.replicate]; try omega)
theorem pad_loop {k : Nat} {w : Int} (hw : w ≤ 4) (x4 : Int) (l : List Int) : ∀ (n : Nat) (x : Int) (σ : Sg), 1 ≤ x → 4 - x < (n : Int) → NLM σ k l → NLM (L_X10_addsCounter_35 (k : Int) w n x4 x σ) k (l ++ List.replicate (w - x).toNat 48) ∧ MF σ (L_X10_addsCounter_35 (k : Int) w n x4 x σ) k
  | 0, x, σ, a0, a1, h => by
    rw [L_X10_addsCounter_35, show (w - x).toNat = 0 by omega, List.replicate_zero, List.append_nil]
    exact ⟨h, MF.rf _ _⟩
  | n + 1, x, σ, a0, a1, h => by
    rw [L_X10_addsCounter_35]
    by_cases c : w ≤ x
    · rw [if_pos c, show (w - x).toNat = 0 by omega, List.replicate_zero, List.append_nil]
      exact ⟨h, MF.rf _ _⟩
    · rw [if_neg c]
      obtain ⟨b1, b2⟩ := h.add (b := 48) (by omega)
      obtain ⟨g1, g2⟩ := pad_loop hw x4 (l ++ [48]) n (x + 1) (f_X10_adds σ (k : Int) 48) (by omega) (by omega) b1
      rw [show (w - x).toNat = (w - (x + 1)).toNat + 1 by omega, List.replicate_succ]
      rw [List.append_assoc] at g1
      exact ⟨g1, b2.tr g2⟩
theorem dig1 {k : Nat} {ctr w : Int} (h0 : 0 ≤ ctr) {l : List Int} (n : Nat) (u : Int) (hu : 1 ≤ u) (σ : Sg) (hc : σ 43 k = ctr) (h : NLM σ k l) : ∃ σ' : Sg, L_X10_addsCounter_54 (k : Int) w (n + 1) u σ = L_X10_addsCounter_54 (k : Int) w n (u / 10) σ' ∧ NLM σ' k (l ++ [48 + ctr / u % 10]) ∧ MF σ σ' k ∧ σ' 43 k = ctr := by
  rw [L_X10_addsCounter_54, if_neg (by omega), Int.toNat_natCast, hc]
  obtain ⟨b1, b2⟩ := h.add (b := 48 + ctr / u % 10) (by omega)
  exact ⟨_, rfl, b1, b2, by rw [b2.1 43 (by decide) (by decide)]; exact hc⟩
theorem dig_all {k : Nat} {ctr w : Int} (h0 : 0 ≤ ctr) {l : List Int} (d : Nat) (hd : d ≤ 3) (σ : Sg) (hc : σ 43 k = ctr) (h : NLM σ k l) {u : Int} (hu : (d = 0 ∧ u = 1) ∨ (d = 1 ∧ u = 10) ∨ (d = 2 ∧ u = 100) ∨ (d = 3 ∧ u = 1000)) : NLM (L_X10_addsCounter_54 (k : Int) w 1001 u σ) k (l ++ digl ctr d) ∧ MF σ (L_X10_addsCounter_54 (k : Int) w 1001 u σ) k := by
  have z : ∀ (n : Nat) (σ : Sg), L_X10_addsCounter_54 (k : Int) w (n + 1) 0 σ = σ := fun n σ => by rw [L_X10_addsCounter_54, if_pos (by omega)]
  rcases hu with ⟨rfl, rfl⟩ | ⟨rfl, rfl⟩ | ⟨rfl, rfl⟩ | ⟨rfl, rfl⟩
  · obtain ⟨s1, e1, n1, f1, c1⟩ := dig1 (w := w) h0 1000 1 (by omega) σ hc h
    rw [show (1001 : Nat) = 1000 + 1 by decide, e1, show (1 : Int) / 10 = 0 by decide, show (1000 : Nat) = 999 + 1 by decide, z]
    exact ⟨n1, f1⟩
  · obtain ⟨s1, e1, n1, f1, c1⟩ := dig1 (w := w) h0 1000 10 (by omega) σ hc h
    obtain ⟨s2, e2, n2, f2, c2⟩ := dig1 (w := w) h0 999 1 (by omega) s1 c1 n1
    rw [show (1001 : Nat) = 1000 + 1 by decide, e1, show (10 : Int) / 10 = 1 by decide, show (1000 : Nat) = 999 + 1 by decide, e2, show (1 : Int) / 10 = 0 by decide, show (999 : Nat) = 998 + 1 by decide, z]
    rw [List.append_assoc] at n2
    exact ⟨n2, f1.tr f2⟩
  · obtain ⟨s1, e1, n1, f1, c1⟩ := dig1 (w := w) h0 1000 100 (by omega) σ hc h
    obtain ⟨s2, e2, n2, f2, c2⟩ := dig1 (w := w) h0 999 10 (by omega) s1 c1 n1
    obtain ⟨s3, e3, n3, f3, c3⟩ := dig1 (w := w) h0 998 1 (by omega) s2 c2 n2
    rw [show (1001 : Nat) = 1000 + 1 by decide, e1, show (100 : Int) / 10 = 10 by decide, show (1000 : Nat) = 999 + 1 by decide, e2, show (10 : Int) / 10 = 1 by decide, show (999 : Nat) = 998 + 1 by decide, e3, show (1 : Int) / 10 = 0 by decide, show (998 : Nat) = 997 + 1 by decide, z]
    rw [List.append_assoc, List.append_assoc] at n3
    exact ⟨n3, f1.tr (f2.tr f3)⟩
  · obtain ⟨s1, e1, n1, f1, c1⟩ := dig1 (w := w) h0 1000 1000 (by omega) σ hc h
    obtain ⟨s2, e2, n2, f2, c2⟩ := dig1 (w := w) h0 999 100 (by omega) s1 c1 n1
    obtain ⟨s3, e3, n3, f3, c3⟩ := dig1 (w := w) h0 998 10 (by omega) s2 c2 n2
    obtain ⟨s4, e4, n4, f4, c4⟩ := dig1 (w := w) h0 997 1 (by omega) s3 c3 n3
    rw [show (1001 : Nat) = 1000 + 1 by decide, e1, show (1000 : Int) / 10 = 100 by decide, show (1000 : Nat) = 999 + 1 by decide, e2, show (100 : Int) / 10 = 10 by decide, show (999 : Nat) = 998 + 1 by decide, e3, show (10 : Int) / 10 = 1 by decide, show (998 : Nat) = 997 + 1 by decide, e4, show (1 : Int) / 10 = 0 by decide, show (997 : Nat) = 996 + 1 by decide, z]
    rw [List.append_assoc, List.append_assoc, List.append_assoc] at n4
    exact ⟨n4, f1.tr (f2.tr (f3.tr f4))⟩
theorem ctrM {k : Nat} {ctr w : Int} (h0 : 0 ≤ ctr) (h4 : ctr < 10000) (hw : 1 ≤ w ∧ w ≤ 4) {l : List Int} {σ : Sg} (hc : σ 43 k = ctr) (h : NLM σ k l) : NLM (f_X10_addsCounter σ (k : Int) w) k (l ++ dg ctr w) ∧ MF σ (f_X10_addsCounter σ (k : Int) w) k := by
  have main : ∀ (d : Nat) (u : Int), L_X10_addsCounter_5 σ (k : Int) w 5 1 1 = ((d : Int) + 1, u) → d ≤ 3 → ((d = 0 ∧ u = 1) ∨ (d = 1 ∧ u = 10) ∨ (d = 2 ∧ u = 100) ∨ (d = 3 ∧ u = 1000)) → ((d = 0 ∧ ctr < 10) ∨ (d = 1 ∧ 10 ≤ ctr ∧ ctr < 100) ∨ (d = 2 ∧ 100 ≤ ctr ∧ ctr < 1000) ∨ (d = 3 ∧ 1000 ≤ ctr)) → NLM (f_X10_addsCounter σ (k : Int) w) k (l ++ dg ctr w) ∧ MF σ (f_X10_addsCounter σ (k : Int) w) k := by
    intro d u hL hd hu hcd
    unfold f_X10_addsCounter
    rw [hL]
    dsimp only
    obtain ⟨p1, p2⟩ := pad_loop (k := k) hw.2 u l 201 ((d : Int) + 1) σ (by omega) (by omega) h
    obtain ⟨q1, q2⟩ := dig_all (w := w) h0 d hd _ (by rw [p2.1 43 (by decide) (by decide)]; exact hc) p1 hu
    rw [List.append_assoc, dg_eq h0 hw d hcd] at q1
    exact ⟨q1, p2.tr q2⟩
  have st : ∀ (n : Nat) (x3 x4 : Int), L_X10_addsCounter_5 σ (k : Int) w (n + 1) x3 x4 = if ctr / x4 < 10 then (x3, x4) else L_X10_addsCounter_5 σ (k : Int) w n (x3 + 1) (x4 * 10) := fun n x3 x4 => by rw [L_X10_addsCounter_5, Int.toNat_natCast, hc]
  by_cases c1 : ctr < 10
  · exact main 0 1 (by rw [st, if_pos (by omega)]; rfl) (by omega) (by omega) (by omega)
  · by_cases c2 : ctr < 100
    · exact main 1 10 (by rw [st, if_neg (by omega), st, if_pos (by omega)]; rfl) (by omega) (by omega) (by omega)
    · by_cases c3 : ctr < 1000
      · exact main 2 100 (by rw [st, if_neg (by omega), st, if_neg (by omega), st, if_pos (by omega)]; rfl) (by omega) (by omega) (by omega)
      · exact main 3 1000 (by rw [st, if_neg (by omega), st, if_neg (by omega), st, if_neg (by omega), st, if_pos (by omega)]; rfl) (by omega) (by omega) (by omega)
/-- what is right of the rule that the reference holds -/
def RM (ρ : Sg) : Prop := ∀ p : Nat, (p : Int) < ρ 28 11 → nb (ρ 35 p) ∨ (ρ 35 p = 37 ∧ 1 ≤ ρ 36 p ∧ ρ 36 p ≤ 4) ∨ (takenB (ρ 35 p) ∧ 0 ≤ f_X10_wild ρ (ρ 36 p) ∧ f_X10_wild ρ (ρ 36 p) < ρ 28 10)
theorem RuleEq.rm {τ ρ : Sg} {R : Nat} (h : RuleEq τ ρ R) : RM ρ := fun p hp => by
  obtain ⟨h1, h2, h3, h4, h5⟩ := h
  rw [← h2] at hp
  obtain ⟨e1, e2⟩ := h4 p hp
  rw [e1] at e2
  rcases e2 with z | z | z
  · exact Or.inl z
  · exact Or.inr (Or.inl ⟨z.1, by rw [← z.2.1]; exact z.2.2⟩)
  · obtain ⟨z1, z2, z3, z4⟩ := z
    obtain ⟨w1, w2⟩ := h5 (τ (R + 4) p).toNat (by omega) (by omega)
    rw [show (((τ (R + 4) p).toNat : Nat) : Int) = τ (R + 4) p by omega, z2] at w1
    rw [z2] at w2
    rw [w1, h1] at w2
    exact Or.inr (Or.inr ⟨z1, w2⟩)
def NM (σ ρ : Sg) (k f : Nat) (nm t : Nat → Int) (lo ctr : Int) : Prop := (∀ j : Nat, (j : Int) < ρ 28 10 → 0 ≤ t j ∧ 0 ≤ sm t j ∧ sm t j + t j ≤ lo) ∧ lo ≤ 12 ∧ (∀ i : Nat, (i : Int) < lo → σ 29 (12 * f + i) = nm i ∧ 0 ≤ nm i ∧ nm i ≤ 127) ∧ σ 43 k = ctr ∧ σ 28 = ρ 28 ∧ σ 34 = ρ 34 ∧ σ 35 = ρ 35 ∧ σ 36 = ρ 36 ∧ σ 40 = t
theorem nameM_loop {ρ : Sg} {k f : Nat} (hf : f < 40) {nm t : Nat → Int} {lo ctr : Int} (h0 : 0 ≤ ctr) (h4 : ctr < 10000) (hR : RM ρ) (h10 : ρ 28 10 ≤ 12) {is : Int} (his : ¬ is = 0) : ∀ (n p : Nat) (σ : Sg), NM σ ρ k f nm t lo ctr → (p : Int) ≤ ρ 28 11 → ρ 28 11 - (p : Int) < (n : Int) → NLM σ k (nlS (ρ 35) (ρ 36) (fun p => f_X10_wild ρ (ρ 36 p)) nm t ctr p) →
    NLM (L_X10_makes_23 (k : Int) n (f : Int) is (p : Int) σ) k (nlS (ρ 35) (ρ 36) (fun p => f_X10_wild ρ (ρ 36 p)) nm t ctr (ρ 28 11).toNat) ∧ MF σ (L_X10_makes_23 (k : Int) n (f : Int) is (p : Int) σ) k
  | 0, p, σ, hN, a0, a1, hl => by omega
  | n + 1, p, σ, hN, a0, a1, hl => by
    have hN' := hN
    obtain ⟨n1, n2, n3, n4, n5, n6, n7, n8, n9⟩ := hN'
    rw [L_X10_makes_23, Int.toNat_natCast, n5, n7, n8]
    by_cases c : ρ 28 11 ≤ (p : Int)
    · rw [if_pos c]
      rw [show p = (ρ 28 11).toNat by omega] at hl
      exact ⟨hl, MF.rf _ _⟩
    · rw [if_neg c, if_neg his]
      have kind := hR p (by omega)
      have next : ∀ σ', NLM σ' k (nlS (ρ 35) (ρ 36) (fun p => f_X10_wild ρ (ρ 36 p)) nm t ctr (p + 1)) → MF σ σ' k → NLM (L_X10_makes_23 (k : Int) n (f : Int) is ((p : Int) + 1) σ') k (nlS (ρ 35) (ρ 36) (fun p => f_X10_wild ρ (ρ 36 p)) nm t ctr (ρ 28 11).toNat) ∧ MF σ (L_X10_makes_23 (k : Int) n (f : Int) is ((p : Int) + 1) σ') k := by
        intro σ' g1 g2
        have hN2 : NM σ' ρ k f nm t lo ctr := ⟨n1, n2, fun i hi => by rw [g2.2.2 _ (by omega)]; exact n3 i hi, by rw [g2.1 43 (by decide) (by decide)]; exact n4, by rw [g2.1 28 (by decide) (by decide)]; exact n5, by rw [g2.1 34 (by decide) (by decide)]; exact n6, by rw [g2.1 35 (by decide) (by decide)]; exact n7, by rw [g2.1 36 (by decide) (by decide)]; exact n8, by rw [g2.1 40 (by decide) (by decide)]; exact n9⟩
        have r := nameM_loop hf h0 h4 hR h10 his n (p + 1) σ' hN2 (by omega) (by omega) g1
        rw [show ((p + 1 : Nat) : Int) = (p : Int) + 1 by omega] at r
        exact ⟨r.1, g2.tr r.2⟩
      by_cases c1 : ρ 35 p = 37
      · rw [if_pos c1]
        have fw : 1 ≤ ρ 36 p ∧ ρ 36 p ≤ 4 := by
          rcases kind with z | z | z
          · unfold nb at z; omega
          · exact z.2
          · unfold takenB at z; omega
        obtain ⟨g1, g2⟩ := ctrM h0 h4 fw n4 hl
        refine next _ ?_ g2
        have : nlS (ρ 35) (ρ 36) (fun p => f_X10_wild ρ (ρ 36 p)) nm t ctr (p + 1) = nlS (ρ 35) (ρ 36) (fun p => f_X10_wild ρ (ρ 36 p)) nm t ctr p ++ dg ctr (ρ 36 p) := by
          rw [nlS, plS, if_pos c1]
        rw [this]
        exact g1
      · rw [if_neg c1]
        have ew : f_X10_wild σ (ρ 36 p) = f_X10_wild ρ (ρ 36 p) := wild_congr (by rw [n5]) n6 _
        rw [ew]
        by_cases c2 : takenB (ρ 35 p)
        · have z : 0 ≤ f_X10_wild ρ (ρ 36 p) ∧ f_X10_wild ρ (ρ 36 p) < ρ 28 10 := by
            rcases kind with z | z | z
            · unfold takenB at c2; unfold nb at z; omega
            · exact absurd z.1 c1
            · exact z.2
          obtain ⟨q1, q2, q3⟩ := n1 (f_X10_wild ρ (ρ 36 p)).toNat (by omega)
          have fo : f_X10_firstOf σ (f_X10_wild ρ (ρ 36 p)) = sm t (f_X10_wild ρ (ρ 36 p)).toNat := by
            rw [firstOf_eq σ (by omega), n9]
          rw [fo]
          have g := takenM_loop (k := k) (nm := nm) hf c2 (st := sm t (f_X10_wild ρ (ρ 36 p)).toNat) (tk := t (f_X10_wild ρ (ρ 36 p)).toNat) (lo := lo) q2 q3 n2 (fun i hi => (n3 i hi).2) is (p := p) (w := (f_X10_wild ρ (ρ 36 p)).toNat) (nlS (ρ 35) (ρ 36) (fun p => f_X10_wild ρ (ρ 36 p)) nm t ctr p) 158 0 σ (by omega) q1 (by omega) (by rw [n9]) (by rw [n7]) (fun i hi => (n3 i hi).1) (by rw [show (0 : Int).toNat = 0 by decide, tkl, List.append_nil]; exact hl)
          rw [Int.add_zero, show (((f_X10_wild ρ (ρ 36 p)).toNat : Nat) : Int) = f_X10_wild ρ (ρ 36 p) by omega] at g
          have done := next _ (by
            have : nlS (ρ 35) (ρ 36) (fun p => f_X10_wild ρ (ρ 36 p)) nm t ctr (p + 1) = nlS (ρ 35) (ρ 36) (fun p => f_X10_wild ρ (ρ 36 p)) nm t ctr p ++ tkl nm (ρ 35 p) (sm t (f_X10_wild ρ (ρ 36 p)).toNat).toNat (t (f_X10_wild ρ (ρ 36 p)).toNat).toNat := by
              rw [nlS, plS, if_neg c1, if_pos ((taken_iff _).mp c2)]
            rw [this]
            exact g.1) g.2
          unfold takenB at c2
          by_cases d1 : ρ 35 p = 36
          · rw [if_pos d1]; exact done
          · rw [if_neg d1]
            by_cases d2 : ρ 35 p = 94
            · rw [if_pos d2]; exact done
            · rw [if_neg d2, if_pos (by omega)]; exact done
        · have c2' := c2
          unfold takenB at c2'
          rw [if_neg (fun z => c2' (Or.inl z)), if_neg (fun z => c2' (Or.inr (Or.inl z))), if_neg (fun z => c2' (Or.inr (Or.inr z)))]
          have hb : 0 ≤ ρ 35 p ∧ ρ 35 p ≤ 127 := by
            rcases kind with z | z | z
            · unfold nb at z; omega
            · omega
            · exact absurd z.1 c2
          obtain ⟨b1, b2⟩ := hl.add hb
          refine next _ ?_ b2
          have : nlS (ρ 35) (ρ 36) (fun p => f_X10_wild ρ (ρ 36 p)) nm t ctr (p + 1) = nlS (ρ 35) (ρ 36) (fun p => f_X10_wild ρ (ρ 36 p)) nm t ctr p ++ [ρ 35 p] := by
            rw [nlS, plS, if_neg c1, if_neg (fun z => c2 ((taken_iff _).mpr z))]
          rw [this]
          exact b1
theorem tkl_nb {nm : Nat → Int} {s : Int} {st : Nat} : ∀ (n : Nat), (∀ i, i < n → nb (nm (st + i))) → ∀ b ∈ tkl nm s st n, nb b
  | 0, _, b, h => by simp [tkl] at h
  | n + 1, hn, b, h => by
    simp only [tkl, List.mem_append, List.mem_singleton] at h
    rcases h with h | h
    · exact tkl_nb n (fun i hi => hn i (by omega)) b h
    · rw [h]; exact conv_nb (hn n (by omega))
theorem dgt_nb {ctr w g u : Int} (h0 : 0 ≤ ctr) : ∀ b ∈ dgt ctr w g u, nb b := by
  intro b h
  unfold dgt at h
  split at h
  · simp at h
    rw [h]
    unfold nb
    omega
  · simp at h
theorem nlS_nb {ρ : Sg} {nm t : Nat → Int} {lo ctr : Int} (h0 : 0 ≤ ctr) (hR : RM ρ) (ht : ∀ j : Nat, (j : Int) < ρ 28 10 → 0 ≤ t j ∧ 0 ≤ sm t j ∧ sm t j + t j ≤ lo) (hn : ∀ i : Nat, (i : Int) < lo → nb (nm i)) : ∀ (p : Nat), (p : Int) ≤ ρ 28 11 → ∀ b ∈ nlS (ρ 35) (ρ 36) (fun p => f_X10_wild ρ (ρ 36 p)) nm t ctr p, nb b
  | 0, _, b, h => by simp [nlS] at h
  | p + 1, hp, b, h => by
    simp only [nlS, List.mem_append] at h
    rcases h with h | h
    · exact nlS_nb h0 hR ht hn p (by omega) b h
    · unfold plS at h
      split at h
      · unfold dg at h
        simp only [List.mem_append] at h
        rcases h with ((h | h) | h) | h <;> exact dgt_nb h0 b h
      · rename_i c1
        split at h
        · rename_i c2
          have z : 0 ≤ f_X10_wild ρ (ρ 36 p) ∧ f_X10_wild ρ (ρ 36 p) < ρ 28 10 := by
            rcases hR p (by omega) with z | z | z
            · unfold nb at z; omega
            · exact absurd z.1 c1
            · exact z.2
          obtain ⟨q1, q2, q3⟩ := ht (f_X10_wild ρ (ρ 36 p)).toNat (by omega)
          dsimp only at h
          exact tkl_nb _ (fun i hi => hn _ (by omega)) b h
        · rename_i c2
          simp at h
          rw [h]
          rcases hR p (by omega) with z | z | z
          · exact z
          · exact absurd z.1 c1
          · exact absurd ((taken_iff _).mp z.1) c2
