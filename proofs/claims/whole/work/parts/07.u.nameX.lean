/-! plan: new names, the class. -/
def conv (s c : Int) : Int := if s = 36 then c else if s = 94 then f_X10_high c else f_X10_low c
def tkl (nm : Nat → Int) (s : Int) (st : Nat) : Nat → List Int
  | 0 => []
  | n + 1 => tkl nm s st n ++ [conv s (nm (st + n))]
def dgt (ctr w g u : Int) : List Int := if g ≤ w ∨ u ≤ ctr then [48 + ctr / u % 10] else []
def dg (ctr w : Int) : List Int := dgt ctr w 4 1000 ++ dgt ctr w 3 100 ++ dgt ctr w 2 10 ++ dgt ctr w 1 1
def plS (sg fg wl nm t : Nat → Int) (ctr : Int) (p : Nat) : List Int := if sg p = 37 then dg ctr (fg p) else if sg p = 36 ∨ sg p = 94 ∨ sg p = 33 then tkl nm (sg p) (sm t (wl p).toNat).toNat (t (wl p).toNat).toNat else [sg p]
def nlS (sg fg wl nm t : Nat → Int) (ctr : Int) : Nat → List Int
  | 0 => []
  | n + 1 => nlS sg fg wl nm t ctr n ++ plS sg fg wl nm t ctr n
theorem gd_lt {l : List Int} {b : Int} {i : Nat} (h : i < l.length) : (l ++ [b]).getD i 0 = l.getD i 0 := by
  simp [List.getD, List.getElem?_append_left h]
theorem gd_eq {l : List Int} {b : Int} : (l ++ [b]).getD l.length 0 = b := by
  simp [List.getD]
def NLX (σ : Sg) (k : Nat) (l : List Int) : Prop := σ (439 + k) 5 = (l.length : Int) ∧ σ (201 + 6 * k) 2 = min 12 (l.length : Int) ∧ ∀ i : Nat, i < 12 → i < l.length → σ (202 + 6 * k) i = l.getD i 0
theorem NLX.add {σ : Sg} {k : Nat} (hk : k < 40) {l : List Int} (h : NLX σ k l) (b : Int) : NLX (f_X4_addByte σ (439 + k) b) k (l ++ [b]) ∧ (∀ j, j ≠ 5 → (f_X4_addByte σ (439 + k) b) (439 + k) j = σ (439 + k) j) ∧ (f_X4_addByte σ (439 + k) b) (201 + 6 * k) 1 = σ (201 + 6 * k) 1 ∧ ∀ x, x ≠ 439 + k → x ≠ 201 + 6 * k → x ≠ 202 + 6 * k → (f_X4_addByte σ (439 + k) b) x = σ x := by
  obtain ⟨h1, h2, h3⟩ := h
  unfold f_X4_addByte f_X2_add
  rw [show 439 + k - 439 = k by omega, h2]
  have ll : ((l ++ [b]).length : Int) = (l.length : Int) + 1 := by rw [List.length_append]; rfl
  by_cases c : 12 ≤ l.length
  · rw [if_pos (show (12 : Int) ≤ min 12 (l.length : Int) by omega)]
    refine ⟨⟨by rw [up2_same, h1, ll], by rw [up2_cell _ _ _ (by omega), h2, ll]; omega, fun i hi hl => ?_⟩, fun j hj => up2_slot _ _ hj, by rw [up2_cell _ _ _ (by omega)], fun x u v w => up2_cell _ _ _ u⟩
    rw [up2_cell _ _ _ (by omega), gd_lt (by omega)]
    exact h3 i hi (by omega)
  · rw [if_neg (show ¬ (12 : Int) ≤ min 12 (l.length : Int) by omega), show (min 12 (l.length : Int)).toNat = l.length by omega, show 201 + 6 * k + 1 = 202 + 6 * k by omega]
    have q5 : (up2 (up2 σ (202 + 6 * k) l.length b) (201 + 6 * k) 2 (min 12 (l.length : Int) + 1)) (439 + k) = σ (439 + k) := by rw [up2_cell _ _ _ (by omega), up2_cell _ _ _ (by omega)]
    rw [q5]
    refine ⟨⟨by rw [up2_same, h1, ll], by rw [up2_cell _ _ _ (by omega), up2_same, ll]; omega, fun i hi hl => ?_⟩, fun j hj => by rw [up2_slot _ _ hj, q5], by rw [up2_cell _ _ _ (by omega), up2_slot _ _ (by decide), up2_cell _ _ _ (by omega)], fun x u v w => by rw [up2_cell _ _ _ u, up2_cell _ _ _ v, up2_cell _ _ _ w]⟩
    rw [up2_cell _ _ _ (by omega), up2_cell _ _ _ (by omega), up2_row]
    dsimp only
    by_cases e : i = l.length
    · rw [if_pos e, e, gd_eq]
    · have hl' : i < l.length := by
        rw [List.length_append] at hl
        simp at hl
        omega
      rw [if_neg e, gd_lt hl']
      exact h3 i hi hl'
/-- what naming leaves alone -/
def NF (σ σ' : Sg) (k : Nat) : Prop := (∀ j, j ≠ 5 → σ' (439 + k) j = σ (439 + k) j) ∧ σ' (201 + 6 * k) 1 = σ (201 + 6 * k) 1 ∧ ∀ x, x ≠ 439 + k → x ≠ 201 + 6 * k → x ≠ 202 + 6 * k → σ' x = σ x
theorem NF.rf (σ : Sg) (k : Nat) : NF σ σ k := ⟨fun _ _ => rfl, rfl, fun _ _ _ _ => rfl⟩
theorem NF.tr {a b c : Sg} {k : Nat} (h : NF a b k) (j : NF b c k) : NF a c k := ⟨fun i hi => (j.1 i hi).trans (h.1 i hi), j.2.1.trans h.2.1, fun x u v w => (j.2.2 x u v w).trans (h.2.2 x u v w)⟩
theorem takenX_loop {k : Nat} (hk : k < 40) {nm : Nat → Int} {s : Int} (hs : s = 36 ∨ s = 94 ∨ s = 33) {st tk lo : Int} (h0 : 0 ≤ st) (h1 : st + tk ≤ lo) (h2 : lo ≤ 12) (l : List Int) : ∀ (n : Nat) (x : Int) (σ : Sg), 0 ≤ x → x ≤ tk → tk - x < (n : Int) → σ (199 + 6 * k) 2 = lo → (∀ i : Nat, (i : Int) < lo → σ (200 + 6 * k) i = nm i) → NLX σ k (l ++ tkl nm s st.toNat x.toNat) →
    NLX (L_X4_addTaken_3 (439 + k) s st tk n x σ) k (l ++ tkl nm s st.toNat tk.toNat) ∧ NF σ (L_X4_addTaken_3 (439 + k) s st tk n x σ) k
  | 0, x, σ, a0, a1, a2, a3, a4, a5 => by omega
  | n + 1, x, σ, a0, a1, a2, a3, a4, a5 => by
    rw [L_X4_addTaken_3]
    by_cases c : tk ≤ x
    · rw [if_pos c]
      rw [show x = tk by omega] at a5
      exact ⟨a5, NF.rf _ _⟩
    · rw [if_neg c, show 199 + 6 * (439 + k - 439) = 199 + 6 * k by omega, byteAt_in (by omega) (by omega) (by omega), show 199 + 6 * k + 1 = 200 + 6 * k by omega, a4 (st + x).toNat (by omega)]
      have go : ∀ v, v = conv s (nm (st + x).toNat) → NLX (L_X4_addTaken_3 (439 + k) s st tk n (x + 1) (f_X4_addByte σ (439 + k) v)) k (l ++ tkl nm s st.toNat tk.toNat) ∧ NF σ (L_X4_addTaken_3 (439 + k) s st tk n (x + 1) (f_X4_addByte σ (439 + k) v)) k := by
        intro v hv
        obtain ⟨b1, b2, b3, b4⟩ := a5.add hk v
        have e : l ++ tkl nm s st.toNat x.toNat ++ [v] = l ++ tkl nm s st.toNat (x + 1).toNat := by
          rw [show (x + 1).toNat = x.toNat + 1 by omega, tkl, hv, show (st + x).toNat = st.toNat + x.toNat by omega, List.append_assoc]
        rw [e] at b1
        obtain ⟨g1, g2⟩ := takenX_loop hk hs h0 h1 h2 l n (x + 1) (f_X4_addByte σ (439 + k) v) (by omega) (by omega) (by omega) (by rw [b4 _ (by omega) (by omega) (by omega)]; exact a3) (by rw [b4 _ (by omega) (by omega) (by omega)]; exact a4) b1
        exact ⟨g1, NF.tr ⟨b2, b3, b4⟩ g2⟩
      by_cases c1 : s = 94
      · rw [if_pos c1]
        exact go _ (by unfold conv; rw [if_neg (by omega), if_pos c1, capital_high])
      · rw [if_neg c1]
        by_cases c2 : s = 33
        · rw [if_pos c2]
          exact go _ (by unfold conv; rw [if_neg (by omega), if_neg c1, small_low])
        · rw [if_neg c2]
          exact go _ (by unfold conv; rw [if_pos (by omega)])
theorem addCtr1 {k : Nat} (hk : k < 40) {ctr w : Int} {l : List Int} (n : Nat) (g u : Int) (hu : 1 ≤ u) (σ : Sg) (hc : σ (439 + k) 4 = ctr) (h : NLX σ k l) : ∃ σ' : Sg, L_X4_addCounter_6 (439 + k) w (n + 1) g u σ = L_X4_addCounter_6 (439 + k) w n (g + -1) (u / 10) σ' ∧ NLX σ' k (l ++ dgt ctr w g u) ∧ NF σ σ' k := by
  rw [L_X4_addCounter_6, if_neg (by omega), hc]
  unfold dgt
  obtain ⟨b1, b2, b3, b4⟩ := h.add hk (48 + ctr / u % 10)
  by_cases c1 : g ≤ w
  · rw [if_pos c1, if_pos (Or.inl c1)]
    exact ⟨_, rfl, b1, b2, b3, b4⟩
  · rw [if_neg c1]
    by_cases c2 : ctr < u
    · rw [if_pos c2, if_neg (by omega), List.append_nil]
      exact ⟨σ, rfl, h, NF.rf _ _⟩
    · rw [if_neg c2, if_pos (Or.inr (by omega))]
      exact ⟨_, rfl, b1, b2, b3, b4⟩
theorem addCtr {k : Nat} (hk : k < 40) {ctr w : Int} {l : List Int} {σ : Sg} (hc : σ (439 + k) 4 = ctr) (h : NLX σ k l) : NLX (f_X4_addCounter σ (439 + k) w) k (l ++ dg ctr w) ∧ NF σ (f_X4_addCounter σ (439 + k) w) k := by
  unfold f_X4_addCounter
  obtain ⟨s1, e1, n1, f1⟩ := addCtr1 (w := w) (ctr := ctr) hk 1000 4 1000 (by omega) σ hc h
  obtain ⟨s2, e2, n2, f2⟩ := addCtr1 (w := w) (ctr := ctr) hk 999 (4 + -1) (1000 / 10) (by omega) s1 (by rw [f1.1 4 (by decide)]; exact hc) n1
  obtain ⟨s3, e3, n3, f3⟩ := addCtr1 (w := w) (ctr := ctr) hk 998 (4 + -1 + -1) (1000 / 10 / 10) (by omega) s2 (by rw [f2.1 4 (by decide), f1.1 4 (by decide)]; exact hc) n2
  obtain ⟨s4, e4, n4, f4⟩ := addCtr1 (w := w) (ctr := ctr) hk 997 (4 + -1 + -1 + -1) (1000 / 10 / 10 / 10) (by omega) s3 (by rw [f3.1 4 (by decide), f2.1 4 (by decide), f1.1 4 (by decide)]; exact hc) n3
  rw [show (1001 : Nat) = 1000 + 1 by decide, e1, show (1000 : Nat) = 999 + 1 by decide, e2, show (999 : Nat) = 998 + 1 by decide, e3, show (998 : Nat) = 997 + 1 by decide, e4, show (997 : Nat) = 996 + 1 by decide, L_X4_addCounter_6, if_pos (by omega)]
  refine ⟨?_, f1.tr (f2.tr (f3.tr f4))⟩
  unfold dg
  rw [show l ++ (dgt ctr w 4 1000 ++ dgt ctr w 3 100 ++ dgt ctr w 2 10 ++ dgt ctr w 1 1) = l ++ dgt ctr w 4 1000 ++ dgt ctr w 3 100 ++ dgt ctr w 2 10 ++ dgt ctr w 1 1 by simp [List.append_assoc]]
  rw [show (4 : Int) + -1 + -1 + -1 = 1 by decide, show (4 : Int) + -1 + -1 = 2 by decide, show (4 : Int) + -1 = 3 by decide, show (1000 : Int) / 10 / 10 / 10 = 1 by decide, show (1000 : Int) / 10 / 10 = 10 by decide, show (1000 : Int) / 10 = 100 by decide] at n4
  exact n4
/-- what the class must know to name the k-th planned file -/
def NX (σ ρ : Sg) (R k : Nat) (nm t : Nat → Int) (lo ctr : Int) : Prop := RuleEq σ ρ R ∧ (∀ j : Nat, (j : Int) < σ R 4 → σ 11 j = t j ∧ σ 12 j = sm t j ∧ 0 ≤ t j ∧ 0 ≤ sm t j ∧ sm t j + t j ≤ lo) ∧ σ (199 + 6 * k) 2 = lo ∧ lo ≤ 12 ∧ (∀ i : Nat, (i : Int) < lo → σ (200 + 6 * k) i = nm i) ∧ σ (439 + k) 4 = ctr ∧ σ R 4 ≤ 12
theorem NX.mv {σ σ' ρ : Sg} {R k : Nat} {nm t : Nat → Int} {lo ctr : Int} (hR : isRu R) (hk : k < 40) (h : NX σ ρ R k nm t lo ctr) (f : NF σ σ' k) : NX σ' ρ R k nm t lo ctr := by
  obtain ⟨h1, h2, h3, h4, h5, h6, h7⟩ := h
  have eR := f.2.2 R (by omega) (by omega) (by omega)
  refine ⟨h1.mv eR (f.2.2 _ (by omega) (by omega) (by omega)) (f.2.2 _ (by omega) (by omega) (by omega)) (f.2.2 _ (by omega) (by omega) (by omega)) (f.2.2 _ (by omega) (by omega) (by omega)) rfl rfl rfl rfl rfl, ?_, ?_, h4, ?_, ?_, ?_⟩
  · rw [eR, f.2.2 11 (by omega) (by omega) (by omega), f.2.2 12 (by omega) (by omega) (by omega)]; exact h2
  · rw [f.2.2 _ (by omega) (by omega) (by omega)]; exact h3
  · rw [f.2.2 _ (by omega) (by omega) (by omega)]; exact h5
  · rw [f.1 4 (by decide)]; exact h6
  · rw [eR]; exact h7
theorem taken_iff (b : Int) : takenB b ↔ (b = 36 ∨ b = 94 ∨ b = 33) := Iff.rfl
theorem nameX_loop {ρ : Sg} {R k : Nat} (hR : isRu R) (hk : k < 40) {nm t : Nat → Int} {lo ctr : Int} (a2 : Int) : ∀ (n p : Nat) (σ : Sg), NX σ ρ R k nm t lo ctr → (p : Int) ≤ σ R 6 → σ R 6 - (p : Int) < (n : Int) → NLX σ k (nlS (ρ 35) (ρ 36) (fun p => f_X10_wild ρ (ρ 36 p)) nm t ctr p) →
    NLX (L_X4_nameBy_16 (439 + k) R a2 n (p : Int) σ) k (nlS (ρ 35) (ρ 36) (fun p => f_X10_wild ρ (ρ 36 p)) nm t ctr (σ R 6).toNat) ∧ NF σ (L_X4_nameBy_16 (439 + k) R a2 n (p : Int) σ) k
  | 0, p, σ, hN, a0, a1, hl => by omega
  | n + 1, p, σ, hN, a0, a1, hl => by
    have hN' := hN
    obtain ⟨h1, h2, h3, h4, h5, h6, h7⟩ := hN'
    rw [L_X4_nameBy_16]
    unfold f_X5_partCount
    by_cases c : σ R 6 ≤ (p : Int)
    · rw [if_pos c]
      rw [show p = (σ R 6).toNat by omega] at hl
      exact ⟨hl, NF.rf _ _⟩
    · rw [if_neg c]
      obtain ⟨e1, e2⟩ := h1.2.2.2.1 p (by omega)
      have es : f_X5_partSign σ R (p : Int) = ρ 35 p := by
        unfold f_X5_partSign
        rw [if_neg (by omega), if_neg (by omega), Int.toNat_natCast]
        exact e1
      have ef : f_X5_partFigure σ R (p : Int) = σ (R + 4) p := by
        unfold f_X5_partFigure
        rw [if_neg (by omega), if_neg (by omega), Int.toNat_natCast]
      rw [es, ef]
      rw [e1] at e2
      have next : ∀ σ', NLX σ' k (nlS (ρ 35) (ρ 36) (fun p => f_X10_wild ρ (ρ 36 p)) nm t ctr (p + 1)) → NF σ σ' k → NLX (L_X4_nameBy_16 (439 + k) R a2 n ((p : Int) + 1) σ') k (nlS (ρ 35) (ρ 36) (fun p => f_X10_wild ρ (ρ 36 p)) nm t ctr (σ R 6).toNat) ∧ NF σ (L_X4_nameBy_16 (439 + k) R a2 n ((p : Int) + 1) σ') k := by
        intro σ' g1 g2
        have eR := g2.2.2 R (by omega) (by omega) (by omega)
        obtain ⟨r1, r2⟩ := nameX_loop hR hk a2 n (p + 1) σ' (hN.mv hR hk g2) (by rw [eR]; omega) (by rw [eR]; omega) g1
        rw [eR] at r1
        rw [show ((p + 1 : Nat) : Int) = (p : Int) + 1 by omega] at r1 r2
        exact ⟨r1, g2.tr r2⟩
      by_cases c1 : ρ 35 p = 37
      · rw [if_pos c1]
        have fe : σ (R + 4) p = ρ 36 p := by
          rcases e2 with z | z | z
          · unfold nb at z; omega
          · exact z.2.1
          · unfold takenB at z; omega
        obtain ⟨g1, g2⟩ := addCtr (w := ρ 36 p) hk h6 hl
        rw [fe]
        refine next _ ?_ g2
        have : nlS (ρ 35) (ρ 36) (fun p => f_X10_wild ρ (ρ 36 p)) nm t ctr (p + 1) = nlS (ρ 35) (ρ 36) (fun p => f_X10_wild ρ (ρ 36 p)) nm t ctr p ++ dg ctr (ρ 36 p) := by
          rw [nlS, plS, if_pos c1]
        rw [this]
        exact g1
      · rw [if_neg c1]
        by_cases c2 : takenB (ρ 35 p)
        · rw [if_neg (fun z => (takenX _).mp z c2)]
          have z : σ (R + 4) p = ρ 36 p ∧ 1 ≤ σ (R + 4) p ∧ σ (R + 4) p ≤ σ R 5 := by
            rcases e2 with z | z | z
            · unfold takenB at c2; unfold nb at z; omega
            · exact absurd z.1 c1
            · exact z.2
          obtain ⟨z1, z2, z3⟩ := z
          obtain ⟨w1, w2⟩ := h1.2.2.2.2 (σ (R + 4) p).toNat (by omega) (by omega)
          rw [show (((σ (R + 4) p).toNat : Nat) : Int) = σ (R + 4) p by omega] at w1
          have ew : f_X5_wildItem σ R (σ (R + 4) p) = f_X10_wild ρ (ρ 36 p) := by
            unfold f_X5_wildItem
            rw [if_neg (by omega), if_neg (by omega), show (σ (R + 4) p - 1).toNat = (σ (R + 4) p).toNat - 1 by omega, w1, z1]
          rw [ew]
          rw [w1, z1] at w2
          obtain ⟨q1, q2, q3, q4, q5⟩ := h2 (f_X10_wild ρ (ρ 36 p)).toNat (by omega)
          unfold f_X0_startOf f_X0_tookBy
          rw [if_neg (by omega), if_neg (by omega), if_neg (by omega), if_neg (by omega), q1, q2]
          unfold f_X4_addTaken
          have g := takenX_loop (nm := nm) hk c2 (st := sm t (f_X10_wild ρ (ρ 36 p)).toNat) (tk := t (f_X10_wild ρ (ρ 36 p)).toNat) (lo := lo) q4 q5 h4 (nlS (ρ 35) (ρ 36) (fun p => f_X10_wild ρ (ρ 36 p)) nm t ctr p) 13 0 σ (by omega) q3 (by omega) h3 h5 (by rw [show (0 : Int).toNat = 0 by decide, tkl, List.append_nil]; exact hl)
          refine next _ ?_ g.2
          have : nlS (ρ 35) (ρ 36) (fun p => f_X10_wild ρ (ρ 36 p)) nm t ctr (p + 1) = nlS (ρ 35) (ρ 36) (fun p => f_X10_wild ρ (ρ 36 p)) nm t ctr p ++ tkl nm (ρ 35 p) (sm t (f_X10_wild ρ (ρ 36 p)).toNat).toNat (t (f_X10_wild ρ (ρ 36 p)).toNat).toNat := by
            rw [nlS, plS, if_neg c1, if_pos ((taken_iff _).mp c2)]
          rw [this]
          exact g.1
        · rw [if_pos ((takenX _).mpr c2)]
          obtain ⟨b1, b2, b3, b4⟩ := hl.add hk (ρ 35 p)
          refine next _ ?_ ⟨b2, b3, b4⟩
          have : nlS (ρ 35) (ρ 36) (fun p => f_X10_wild ρ (ρ 36 p)) nm t ctr (p + 1) = nlS (ρ 35) (ρ 36) (fun p => f_X10_wild ρ (ρ 36 p)) nm t ctr p ++ [ρ 35 p] := by
            rw [nlS, plS, if_neg c1, if_neg (fun z => c2 ((taken_iff _).mpr z))]
          rw [this]
          exact b1
/-- the class's nameBy -/
theorem nameX {ρ σ : Sg} {R k : Nat} (hR : isRu R) (hk : k < 40) {nm t : Nat → Int} {lo ctr : Int} (a2 : Int) (hN : NX σ ρ R k nm t lo ctr) (h6 : 0 ≤ σ R 6 ∧ σ R 6 ≤ 12) :
    NLX (f_X4_nameBy σ (439 + k) R a2) k (nlS (ρ 35) (ρ 36) (fun p => f_X10_wild ρ (ρ 36 p)) nm t ctr (σ R 6).toNat) ∧ (f_X4_nameBy σ (439 + k) R a2) (201 + 6 * k) 1 = a2 ∧ (∀ j, j ≠ 5 → j ≠ 6 → (f_X4_nameBy σ (439 + k) R a2) (439 + k) j = σ (439 + k) j) ∧ (∀ x, x ≠ 439 + k → x ≠ 201 + 6 * k → x ≠ 202 + 6 * k → (f_X4_nameBy σ (439 + k) R a2) x = σ x) ∧
    (f_X4_nameBy σ (439 + k) R a2) (439 + k) 6 = (if (f_X4_nameBy σ (439 + k) R a2) (439 + k) 5 = (f_X4_nameBy σ (439 + k) R a2) (201 + 6 * k) 2 then (if f_X2_isJust (f_X4_nameBy σ (439 + k) R a2) (201 + 6 * k) (199 + 6 * k) = 0 then 0 else 1) else 0) := by
  have q0 : ∀ x, x ≠ 439 + k → x ≠ 201 + 6 * k → (up2 (f_X2_begin σ (201 + 6 * k) a2) (439 + k) 5 0) x = σ x := fun x u v => by rw [up2_cell _ _ _ u, begin_fr _ _ _ v]
  have qc : ∀ j, j ≠ 5 → (up2 (f_X2_begin σ (201 + 6 * k) a2) (439 + k) 5 0) (439 + k) j = σ (439 + k) j := fun j hj => by rw [up2_slot _ _ hj, begin_fr _ _ _ (by omega)]
  have qF : (up2 (f_X2_begin σ (201 + 6 * k) a2) (439 + k) 5 0) (201 + 6 * k) 1 = a2 := by rw [up2_cell _ _ _ (by omega)]; unfold f_X2_begin; rw [up2_slot _ _ (by decide), up2_same]
  have qF2 : (up2 (f_X2_begin σ (201 + 6 * k) a2) (439 + k) 5 0) (201 + 6 * k) 2 = 0 := by rw [up2_cell _ _ _ (by omega)]; unfold f_X2_begin; rw [up2_same]
  have qL : NLX (up2 (f_X2_begin σ (201 + 6 * k) a2) (439 + k) 5 0) k [] := ⟨by rw [up2_same]; rfl, by rw [qF2]; rfl, fun i _ h => by simp at h⟩
  unfold f_X4_nameBy
  rw [show 439 + k - 439 = k by omega]
  generalize up2 (f_X2_begin σ (201 + 6 * k) a2) (439 + k) 5 0 = σ1 at q0 qc qF qF2 qL ⊢
  have eR := q0 R (by omega) (by omega)
  have hN1 : NX σ1 ρ R k nm t lo ctr := by
    obtain ⟨h1, h2, h3, h4, h5, h6', h7⟩ := hN
    refine ⟨h1.mv eR (q0 _ (by omega) (by omega)) (q0 _ (by omega) (by omega)) (q0 _ (by omega) (by omega)) (q0 _ (by omega) (by omega)) rfl rfl rfl rfl rfl, ?_, ?_, h4, ?_, ?_, ?_⟩
    · rw [eR, q0 11 (by omega) (by omega), q0 12 (by omega) (by omega)]; exact h2
    · rw [q0 _ (by omega) (by omega)]; exact h3
    · rw [q0 _ (by omega) (by omega)]; exact h5
    · rw [qc 4 (by decide)]; exact h6'
    · rw [eR]; exact h7
  have lp := nameX_loop hR hk a2 13 0 σ1 hN1 (by rw [eR]; omega) (by rw [eR]; omega) qL
  rw [show ((0 : Nat) : Int) = 0 by decide, eR] at lp
  generalize L_X4_nameBy_16 (439 + k) R a2 13 0 σ1 = S at lp ⊢
  obtain ⟨n1, n2⟩ := lp
  -- the last mark
  have fin : ∀ v : Int, NLX (up2 S (439 + k) 6 v) k (nlS (ρ 35) (ρ 36) (fun p => f_X10_wild ρ (ρ 36 p)) nm t ctr (σ R 6).toNat) ∧ (up2 S (439 + k) 6 v) (201 + 6 * k) 1 = a2 ∧ (∀ j, j ≠ 5 → j ≠ 6 → (up2 S (439 + k) 6 v) (439 + k) j = σ (439 + k) j) ∧ (∀ x, x ≠ 439 + k → x ≠ 201 + 6 * k → x ≠ 202 + 6 * k → (up2 S (439 + k) 6 v) x = σ x) := by
    intro v
    refine ⟨⟨by rw [up2_slot _ _ (by decide)]; exact n1.1, by rw [up2_cell _ _ _ (by omega)]; exact n1.2.1, fun i h h' => by rw [up2_cell _ _ _ (by omega)]; exact n1.2.2 i h h'⟩, by rw [up2_cell _ _ _ (by omega), n2.2.1, qF], fun j u v' => by rw [up2_slot _ _ v', n2.1 j u, qc j u], fun x u v' w => by rw [up2_cell _ _ _ u, n2.2.2 x u v' w, q0 x u v']⟩
  have js : ∀ v : Int, f_X2_isJust (up2 S (439 + k) 6 v) (201 + 6 * k) (199 + 6 * k) = f_X2_isJust S (201 + 6 * k) (199 + 6 * k) := by
    intro v
    have l12 : S (201 + 6 * k) 2 ≤ 12 := by rw [n1.2.1]; omega
    have e1 := isAlikeX (σ := up2 S (439 + k) 6 v) (c := 201 + 6 * k) (q := 199 + 6 * k) (a1 := 0) (by rw [up2_cell _ _ _ (by omega)]; exact l12)
    have e2 := isAlikeX (σ := S) (c := 201 + 6 * k) (q := 199 + 6 * k) (a1 := 0) l12
    refine eq01 e1.1 e2.1 (e1.2.trans (Iff.trans ?_ e2.2.symm))
    exact AlX.mv (up2_cell _ _ _ (by omega)) (up2_cell _ _ _ (by omega)) (up2_cell _ _ _ (by omega)) (up2_cell _ _ _ (by omega))
  have e5 : ∀ v : Int, (up2 S (439 + k) 6 v) (439 + k) 5 = S (439 + k) 5 := fun v => up2_slot _ _ (by decide)
  have e2 : ∀ v : Int, (up2 S (439 + k) 6 v) (201 + 6 * k) 2 = S (201 + 6 * k) 2 := fun v => by rw [up2_cell _ _ _ (by omega)]
  by_cases c1 : S (439 + k) 5 = S (201 + 6 * k) 2
  · rw [if_pos c1]
    by_cases c2 : f_X2_isJust S (201 + 6 * k) (199 + 6 * k) = 0
    · rw [if_pos c2]
      obtain ⟨y1, y2, y3, y4⟩ := fin 0
      exact ⟨y1, y2, y3, y4, by rw [up2_same, e5, e2, if_pos c1, js, if_pos c2]⟩
    · rw [if_neg c2]
      obtain ⟨y1, y2, y3, y4⟩ := fin 1
      exact ⟨y1, y2, y3, y4, by rw [up2_same, e5, e2, if_pos c1, js, if_neg c2]⟩
  · rw [if_neg c1]
    obtain ⟨y1, y2, y3, y4⟩ := fin 0
    exact ⟨y1, y2, y3, y4, by rw [up2_same, e5, e2, if_neg c1]⟩
