/-! plan: the planned files. -/
theorem nlS_cg {ρ : Sg} (hR : RM ρ) {nm t u : Nat → Int} {ctr : Int} (h : ∀ j : Nat, (j : Int) < ρ 28 10 → t j = u j) : ∀ (p : Nat), (p : Int) ≤ ρ 28 11 → nlS (ρ 35) (ρ 36) (fun p => f_X10_wild ρ (ρ 36 p)) nm t ctr p = nlS (ρ 35) (ρ 36) (fun p => f_X10_wild ρ (ρ 36 p)) nm u ctr p
  | 0, _ => rfl
  | p + 1, hp => by
    simp only [nlS]
    rw [nlS_cg hR h p (by omega)]
    congr 1
    unfold plS
    split
    · rfl
    · rename_i c1
      split
      · rename_i c2
        have z : 0 ≤ f_X10_wild ρ (ρ 36 p) ∧ f_X10_wild ρ (ρ 36 p) < ρ 28 10 := by
          rcases hR p (by omega) with z | z | z
          · unfold nb at z; omega
          · exact absurd z.1 c1
          · exact z.2
        dsimp only
        rw [h _ (by omega), sm_congr (fun i hi => h i (by omega))]
      · rfl
/-- a place that has got a spare name -/
theorem becomeSpare_ok (σ : Sg) (c : Nat) (a f : Int) (hf : 0 ≤ f ∧ f ≤ 39) : SpOK (f_X2_becomeSpare σ c a f) c f ∧ (f_X2_becomeSpare σ c a f) c 1 = a := by
  have st : ∀ (s : Sg) (n b : Int), s c 2 = n → n < 12 → f_X2_add s c b = up2 (up2 s (c + 1) n.toNat b) c 2 (n + 1) := fun s n b h1 h2 => by
    unfold f_X2_add
    rw [h1, if_neg (by omega)]
  have b0 : (f_X2_begin σ c a) c 2 = 0 := by unfold f_X2_begin; exact up2_same _ _ _ _
  have b1 : (f_X2_begin σ c a) c 1 = a := by unfold f_X2_begin; rw [up2_slot _ _ (by decide), up2_same]
  unfold f_X2_becomeSpare
  generalize f_X2_begin σ c a = s0 at b0 b1 ⊢
  rw [st s0 0 126 b0 (by omega)]
  have c2 : (up2 (up2 s0 (c + 1) (0 : Int).toNat 126) c 2 (0 + 1)) c 2 = 1 := by rw [up2_same]; omega
  have c1 : (up2 (up2 s0 (c + 1) (0 : Int).toNat 126) c 2 (0 + 1)) c 1 = a := by rw [up2_slot _ _ (by decide), up2_cell _ _ _ (by omega)]; exact b1
  have c0 : (up2 (up2 s0 (c + 1) (0 : Int).toNat 126) c 2 (0 + 1)) (c + 1) 0 = 126 := by
    rw [up2_cell _ _ _ (by omega)]
    exact up2_same _ _ _ _
  generalize (up2 (up2 s0 (c + 1) (0 : Int).toNat 126) c 2 (0 + 1)) = s1 at c0 c1 c2 ⊢
  by_cases q : f < 10
  · rw [if_pos q, st s1 1 _ c2 (by omega)]
    refine ⟨⟨?_, Or.inl ⟨q, ?_, ?_⟩⟩, ?_⟩
    · rw [up2_cell _ _ _ (by omega), up2_slot _ _ (by decide)]; exact c0
    · rw [up2_same]; omega
    · rw [up2_cell _ _ _ (by omega), show (1 : Nat) = (1 : Int).toNat by decide, up2_same]; omega
    · rw [up2_slot _ _ (by decide), up2_cell _ _ _ (by omega)]; exact c1
  · rw [if_neg q, st s1 1 (48 + f / 10) c2 (by omega)]
    have d2 : (up2 (up2 s1 (c + 1) (1 : Int).toNat (48 + f / 10)) c 2 (1 + 1)) c 2 = 2 := by rw [up2_same]; omega
    have d1 : (up2 (up2 s1 (c + 1) (1 : Int).toNat (48 + f / 10)) c 2 (1 + 1)) c 1 = a := by rw [up2_slot _ _ (by decide), up2_cell _ _ _ (by omega)]; exact c1
    have d0 : (up2 (up2 s1 (c + 1) (1 : Int).toNat (48 + f / 10)) c 2 (1 + 1)) (c + 1) 0 = 126 := by rw [up2_cell _ _ _ (by omega), up2_slot _ _ (by decide)]; exact c0
    have d3 : (up2 (up2 s1 (c + 1) (1 : Int).toNat (48 + f / 10)) c 2 (1 + 1)) (c + 1) 1 = 48 + f / 10 := by
      rw [up2_cell _ _ _ (by omega)]
      exact up2_same _ _ _ _
    generalize (up2 (up2 s1 (c + 1) (1 : Int).toNat (48 + f / 10)) c 2 (1 + 1)) = s2 at d0 d1 d2 d3 ⊢
    rw [st s2 2 _ d2 (by omega)]
    refine ⟨⟨?_, Or.inr ⟨by omega, ?_, ?_, ?_⟩⟩, ?_⟩
    · rw [up2_cell _ _ _ (by omega), up2_slot _ _ (by decide)]; exact d0
    · rw [up2_same]; omega
    · rw [up2_cell _ _ _ (by omega), up2_slot _ _ (by decide)]; exact d3
    · rw [up2_cell _ _ _ (by omega)]
      exact up2_same _ _ _ _
    · rw [up2_slot _ _ (by decide), up2_cell _ _ _ (by omega)]; exact d1
/-- a planned file's beginning -/
theorem begin4_ok {σ : Sg} {k q : Nat} (hk : k < 40) (hq : 59 ≤ q ∧ q < 139 ∧ q % 2 = 1) (hl : lenOK σ q) {f ctr : Int} (hf : 0 ≤ f ∧ f ≤ 39) :
    Cp σ (f_X4_begin σ (439 + k) f q ctr) (199 + 6 * k) q ∧ SpOK (f_X4_begin σ (439 + k) f q ctr) (203 + 6 * k) f ∧ (f_X4_begin σ (439 + k) f q ctr) (203 + 6 * k) 1 = σ q 1 ∧
    (f_X4_begin σ (439 + k) f q ctr) (439 + k) 3 = f ∧ (f_X4_begin σ (439 + k) f q ctr) (439 + k) 4 = ctr ∧ (f_X4_begin σ (439 + k) f q ctr) (439 + k) 7 = 0 ∧ (f_X4_begin σ (439 + k) f q ctr) (439 + k) 8 = -1 ∧ (f_X4_begin σ (439 + k) f q ctr) (439 + k) 9 = -1 ∧ (f_X4_begin σ (439 + k) f q ctr) (439 + k) 10 = 0 ∧ (f_X4_begin σ (439 + k) f q ctr) (439 + k) 11 = 0 ∧
    ∀ x, x ≠ 439 + k → x ≠ 199 + 6 * k → x ≠ 200 + 6 * k → x ≠ 203 + 6 * k → x ≠ 204 + 6 * k → (f_X4_begin σ (439 + k) f q ctr) x = σ x := by
  unfold f_X4_begin
  rw [show 439 + k - 439 = k by omega]
  have u3 : (up2 (up2 σ (439 + k) 3 f) (439 + k) 4 ctr) (439 + k) 3 = f := by rw [up2_slot _ _ (by decide), up2_same]
  have u4 : (up2 (up2 σ (439 + k) 3 f) (439 + k) 4 ctr) (439 + k) 4 = ctr := up2_same _ _ _ _
  have ux : ∀ x, x ≠ 439 + k → (up2 (up2 σ (439 + k) 3 f) (439 + k) 4 ctr) x = σ x := fun x u => by rw [up2_cell _ _ _ u, up2_cell _ _ _ u]
  generalize (up2 (up2 σ (439 + k) 3 f) (439 + k) 4 ctr) = s0 at u3 u4 ux ⊢
  have br := become_row (σ := s0) (c := 199 + 6 * k) (d := q) (by omega) (by omega) (by omega) (by rw [ux q (by omega)]; exact hl.1) (by rw [ux q (by omega)]; exact hl.2)
  have bf : ∀ x, x ≠ 199 + 6 * k → x ≠ 199 + 6 * k + 1 → (f_X2_become s0 (199 + 6 * k) q) x = s0 x := fun x u v => become_fr s0 _ q u v
  rw [ux q (by omega), ux (q + 1) (by omega)] at br
  generalize f_X2_become s0 (199 + 6 * k) q = s1 at br bf ⊢
  rw [bf q (by omega) (by omega), ux q (by omega)]
  have sp := becomeSpare_ok s1 (203 + 6 * k) (σ q 1) f hf
  have sf : ∀ x, x ≠ 203 + 6 * k → x ≠ 203 + 6 * k + 1 → (f_X2_becomeSpare s1 (203 + 6 * k) (σ q 1) f) x = s1 x := fun x u v => becomeSpare_fr s1 _ _ _ u v
  generalize f_X2_becomeSpare s1 (203 + 6 * k) (σ q 1) f = s2 at sp sf ⊢
  have vx : ∀ x, x ≠ 439 + k → (up2 (up2 (up2 (up2 (up2 s2 (439 + k) 7 0) (439 + k) 8 (-1)) (439 + k) 9 (-1)) (439 + k) 10 0) (439 + k) 11 0) x = s2 x := fun x u => by rw [up2_cell _ _ _ u, up2_cell _ _ _ u, up2_cell _ _ _ u, up2_cell _ _ _ u, up2_cell _ _ _ u]
  have vk : ∀ j, j ≠ 7 → j ≠ 8 → j ≠ 9 → j ≠ 10 → j ≠ 11 → (up2 (up2 (up2 (up2 (up2 s2 (439 + k) 7 0) (439 + k) 8 (-1)) (439 + k) 9 (-1)) (439 + k) 10 0) (439 + k) 11 0) (439 + k) j = s0 (439 + k) j := fun j h7 h8 h9 h10 h11 => by rw [up2_slot _ _ h11, up2_slot _ _ h10, up2_slot _ _ h9, up2_slot _ _ h8, up2_slot _ _ h7, sf _ (by omega) (by omega), bf _ (by omega) (by omega)]
  refine ⟨?_, ?_, ?_, by rw [vk 3 (by decide) (by decide) (by decide) (by decide) (by decide)]; exact u3, by rw [vk 4 (by decide) (by decide) (by decide) (by decide) (by decide)]; exact u4, ?_, ?_, ?_, ?_, up2_same _ _ _ _, fun x h1 h2 h3 h4 h5 => by rw [vx x h1, sf x h4 (by omega), bf x h2 (by omega), ux x h1]⟩
  · unfold Cp
    rw [vx _ (by omega), vx (199 + 6 * k + 1) (by omega), sf _ (by omega) (by omega), sf (199 + 6 * k + 1) (by omega) (by omega)]
    exact br
  · exact sp.1.mv (vx _ (by omega)) (vx _ (by omega))
  · rw [vx _ (by omega)]; exact sp.2
  · rw [up2_slot _ _ (by decide), up2_slot _ _ (by decide), up2_slot _ _ (by decide), up2_slot _ _ (by decide), up2_same]
  · rw [up2_slot _ _ (by decide), up2_slot _ _ (by decide), up2_slot _ _ (by decide), up2_same]
  · rw [up2_slot _ _ (by decide), up2_slot _ _ (by decide), up2_same]
  · rw [up2_slot _ _ (by decide), up2_same]
/-- what each item takes of the file f -/
def tF (ρ : Sg) (f : Nat) : Nat → Int := (f_X10_isFit ρ (f : Int)).2 40
/-- the new name of the file f with this counter -/
def nL (ρ : Sg) (f : Nat) (ctr : Int) : List Int := nlS (ρ 35) (ρ 36) (fun p => f_X10_wild ρ (ρ 36 p)) (nmR ρ f) (tF ρ f) ctr (ρ 28 11).toNat
/-- the file f stays: its new place is its own -/
def StP (ρ : Sg) (to : Int) (f : Nat) (l : List Int) : Prop := (1 ≤ l.length ∧ l.length ≤ 12) ∧ to = ρ 31 f ∧ (l.length : Int) = ρ 30 f ∧ ∀ i : Nat, (i : Int) < ρ 30 f → l.getD i 0 = nmR ρ f i
/-- an entry of the class's plan -/
def EX (ρ : Sg) (to : Int) (σ : Sg) (k f : Nat) (ctr : Int) : Prop := σ (439 + k) 3 = (f : Int) ∧ σ (439 + k) 4 = ctr ∧ NLX σ k (nL ρ f ctr) ∧ σ (201 + 6 * k) 1 = to ∧ PE σ ρ (199 + 6 * k) f ∧ SpOK σ (203 + 6 * k) (f : Int) ∧ σ (203 + 6 * k) 1 = ρ 31 f ∧ (σ (439 + k) 6 = 0 ∨ σ (439 + k) 6 = 1) ∧ (σ (439 + k) 6 = 1 ↔ StP ρ to f (nL ρ f ctr)) ∧ σ (439 + k) 7 = 0 ∧ σ (439 + k) 8 = -1 ∧ σ (439 + k) 9 = -1 ∧ σ (439 + k) 10 = 0 ∧ σ (439 + k) 11 = 0
theorem EX.mv {ρ : Sg} {to : Int} {σ σ' : Sg} {k f : Nat} {ctr : Int} (h : EX ρ to σ k f ctr) (h0 : σ' (439 + k) = σ (439 + k)) (hp : ∀ x, 199 + 6 * k ≤ x → x ≤ 204 + 6 * k → σ' x = σ x) : EX ρ to σ' k f ctr := by
  obtain ⟨e1, e2, e3, e4, e5, e6, e7, e8, e9, e10, e11, e12, e13, e14⟩ := h
  unfold EX NLX PE
  rw [h0, hp (201 + 6 * k) (by omega) (by omega), hp (202 + 6 * k) (by omega) (by omega), hp (199 + 6 * k) (by omega) (by omega), hp (199 + 6 * k + 1) (by omega) (by omega), hp (203 + 6 * k) (by omega) (by omega)]
  exact ⟨e1, e2, e3, e4, e5, e6.mv (hp _ (by omega) (by omega)) (hp _ (by omega) (by omega)), e7, e8, e9, e10, e11, e12, e13, e14⟩
/-- the class puts one more file into its plan -/
theorem plan_add {σ ρ : Sg} {R f m : Nat} (hR : isRu R) (hm : m < 40) (hf : f < 40) (hRE : RuleEq σ ρ R) (bN : 0 ≤ σ R 4 ∧ σ R 4 ≤ 12) (b6 : 0 ≤ σ R 6 ∧ σ R 6 ≤ 12) (bL : 1 ≤ σ (59 + 2 * f) 2 ∧ σ (59 + 2 * f) 2 ≤ 12) (hp : PE σ ρ (59 + 2 * f) f)
    (ht : ∀ j : Nat, (j : Int) < σ R 4 → σ 11 j = tF ρ f j ∧ σ 12 j = sm (tF ρ f) j ∧ 0 ≤ tF ρ f j ∧ 0 ≤ sm (tF ρ f) j ∧ sm (tF ρ f) j + tF ρ f j ≤ σ (59 + 2 * f) 2) (h5 : σ 13 5 = (m : Int)) (ctr to : Int) :
    ∃ σ', f_X4_nameBy (f_X3_add σ (f : Int) (59 + 2 * f) ctr).2 (f_X3_add σ (f : Int) (59 + 2 * f) ctr).1 R to = σ' ∧ EX ρ to σ' m f ctr ∧ σ' 13 5 = (m : Int) + 1 ∧ (∀ j, j ≠ 5 → σ' 13 j = σ 13 j) ∧ ∀ x, x ≠ 13 → x ≠ 439 + m → (x < 199 + 6 * m ∨ 204 + 6 * m < x) → σ' x = σ x := by
  refine ⟨_, rfl, ?_⟩
  unfold f_X3_add
  rw [h5, Int.toNat_natCast]
  dsimp only
  obtain ⟨b1, b2, b3, b4, b5, b7, b8, b9, b10, b11, bx⟩ := begin4_ok (σ := σ) (k := m) (q := 59 + 2 * f) hm (by omega) ⟨by omega, bL.2⟩ (f := (f : Int)) (ctr := ctr) (by omega)
  generalize f_X4_begin σ (439 + m) (f : Int) (59 + 2 * f) ctr = s1 at b1 b2 b3 b4 b5 b7 b8 b9 b10 b11 bx ⊢
  rw [bx 13 (by omega) (by omega) (by omega) (by omega) (by omega), h5]
  have c0 : ∀ x, x ≠ 13 → (up2 s1 13 5 ((m : Int) + 1)) x = s1 x := fun x u => up2_cell _ _ _ u
  have c13 : ∀ j, j ≠ 5 → (up2 s1 13 5 ((m : Int) + 1)) 13 j = σ 13 j := fun j hj => by rw [up2_slot _ _ hj, bx 13 (by omega) (by omega) (by omega) (by omega) (by omega)]
  have c5 : (up2 s1 13 5 ((m : Int) + 1)) 13 5 = (m : Int) + 1 := up2_same _ _ _ _
  generalize up2 s1 13 5 ((m : Int) + 1) = s2 at c0 c13 c5 ⊢
  have dx : ∀ x, x ≠ 13 → x ≠ 439 + m → x ≠ 199 + 6 * m → x ≠ 200 + 6 * m → x ≠ 203 + 6 * m → x ≠ 204 + 6 * m → s2 x = σ x := fun x u u1 u2 u3 u4 u5 => by rw [c0 x u, bx x u1 u2 u3 u4 u5]
  have dR := dx R (by omega) (by omega) (by omega) (by omega) (by omega) (by omega)
  have nx : NX s2 ρ R m (nmR ρ f) (tF ρ f) (σ (59 + 2 * f) 2) ctr := by
    refine ⟨hRE.mv dR (dx _ (by omega) (by omega) (by omega) (by omega) (by omega) (by omega)) (dx _ (by omega) (by omega) (by omega) (by omega) (by omega) (by omega)) (dx _ (by omega) (by omega) (by omega) (by omega) (by omega) (by omega)) (dx _ (by omega) (by omega) (by omega) (by omega) (by omega) (by omega)) rfl rfl rfl rfl rfl, ?_, ?_, bL.2, ?_, ?_, ?_⟩
    · rw [dR, dx 11 (by omega) (by omega) (by omega) (by omega) (by omega) (by omega), dx 12 (by omega) (by omega) (by omega) (by omega) (by omega) (by omega)]; exact ht
    · rw [c0 _ (by omega)]; exact b1.2.1
    · intro i hi
      rw [c0 _ (by omega), show 200 + 6 * m = 199 + 6 * m + 1 by omega, b1.2.2 i hi]
      exact hp.2.2 i hi
    · rw [c0 _ (by omega)]; exact b5
    · rw [dR]; exact bN.2
  obtain ⟨n1, n2, n3, n4, n5⟩ := nameX hR hm to nx (by rw [dR]; exact b6)
  rw [dR, hRE.2.1] at n1
  generalize f_X4_nameBy s2 (439 + m) R to = E at n1 n2 n3 n4 n5 ⊢
  replace n1 : NLX E m (nL ρ f ctr) := n1
  have eo : ∀ x, x ≠ 439 + m → x ≠ 201 + 6 * m → x ≠ 202 + 6 * m → E x = s2 x := n4
  have eO : E (199 + 6 * m) = s1 (199 + 6 * m) := by rw [eo _ (by omega) (by omega) (by omega), c0 _ (by omega)]
  have eO1 : E (199 + 6 * m + 1) = s1 (199 + 6 * m + 1) := by rw [eo _ (by omega) (by omega) (by omega), c0 _ (by omega)]
  have pO : PE E ρ (199 + 6 * m) f := by
    unfold PE
    rw [eO, eO1]
    refine ⟨by rw [b1.1, hp.1], by rw [b1.2.1, hp.2.1], fun i hi => ?_⟩
    rw [b1.2.1] at hi
    rw [b1.2.2 i hi]
    exact hp.2.2 i hi
  have ek : ∀ j, j ≠ 5 → j ≠ 6 → E (439 + m) j = s1 (439 + m) j := fun j u v => by rw [n3 j u v, c0 _ (by omega)]
  refine ⟨⟨by rw [ek 3 (by decide) (by decide)]; exact b4, by rw [ek 4 (by decide) (by decide)]; exact b5, n1, n2, pO, b2.mv (by rw [eo _ (by omega) (by omega) (by omega), c0 _ (by omega)]) (by rw [eo _ (by omega) (by omega) (by omega), c0 _ (by omega)]), by rw [eo _ (by omega) (by omega) (by omega), c0 _ (by omega), b3, hp.1], ?_, ?_, by rw [ek 7 (by decide) (by decide)]; exact b7, by rw [ek 8 (by decide) (by decide)]; exact b8, by rw [ek 9 (by decide) (by decide)]; exact b9, by rw [ek 10 (by decide) (by decide)]; exact b10, by rw [ek 11 (by decide) (by decide)]; exact b11⟩, ?_, fun j hj => ?_, fun x u u1 u2 => ?_⟩
  · rw [n5]
    split
    · split
      · exact Or.inl rfl
      · exact Or.inr rfl
    · exact Or.inl rfl
  · -- stays
    obtain ⟨l1, l2, l3⟩ := n1
    have l12 : E (201 + 6 * m) 2 ≤ 12 := by rw [l2]; omega
    have al := isAlikeX (σ := E) (c := 201 + 6 * m) (q := 199 + 6 * m) (a1 := 0) l12
    have lenO : E (199 + 6 * m) 2 = ρ 30 f := pO.2.1
    have lo : 1 ≤ ρ 30 f := by rw [← hp.2.1]; exact bL.1
    have key : (E (439 + m) 5 = E (201 + 6 * m) 2 ∧ AlX E (201 + 6 * m) (199 + 6 * m) 0) ↔ StP ρ to f (nL ρ f ctr) := by
      unfold AlX StP
      rw [l1, l2, n2, pO.1, lenO]
      constructor
      · rintro ⟨w1, w2, w3, w4⟩
        refine ⟨by omega, w2, by omega, fun i hi => ?_⟩
        rcases w4 i (by omega) with z | z
        · rw [show 201 + 6 * m + 1 = 202 + 6 * m by omega, l3 i (by omega) (by omega), pO.2.2 i (by omega)] at z
          exact z
        · exact absurd rfl z.1
      · rintro ⟨w1, w2, w3, w4⟩
        refine ⟨by omega, w2, by omega, fun i hi => Or.inl ?_⟩
        rw [show 201 + 6 * m + 1 = 202 + 6 * m by omega, l3 i (by omega) (by omega), pO.2.2 i (by omega)]
        exact w4 i (by omega)
    rw [← key, n5]
    unfold f_X2_isJust
    by_cases q1 : E (439 + m) 5 = E (201 + 6 * m) 2
    · rw [if_pos q1]
      by_cases q2 : f_X2_isAlike E (201 + 6 * m) (199 + 6 * m) 0 = 0
      · rw [if_pos q2]
        refine ⟨fun z => by omega, fun z => ?_⟩
        have := al.2.mpr z.2
        omega
      · rw [if_neg q2]
        exact ⟨fun _ => ⟨q1, al.2.mp (by rcases al.1 with z | z; exact absurd z q2; exact z)⟩, fun _ => rfl⟩
    · rw [if_neg q1]
      exact ⟨fun z => by omega, fun z => absurd z.1 q1⟩
  · rw [eo 13 (by omega) (by omega) (by omega)]; exact c5
  · rw [eo 13 (by omega) (by omega) (by omega)]; exact c13 j hj
  · rw [eo x u1 (by omega) (by omega), dx x u u1 (by omega) (by omega) (by omega) (by omega)]
