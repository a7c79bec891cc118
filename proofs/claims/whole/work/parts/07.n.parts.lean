/-! rule: its parts. -/
def PtE (τ ρ : Sg) (R : Nat) : Prop := τ R 6 = ρ 28 16 ∧ (0 ≤ τ R 6 ∧ τ R 6 ≤ 12) ∧ ∀ p : Nat, (p : Int) < τ R 6 → τ (R + 3) p = ρ 38 p ∧ (nb (τ (R + 3) p) ∨ (τ (R + 3) p = 37 ∧ τ (R + 4) p = ρ 39 p ∧ 1 ≤ τ (R + 4) p ∧ τ (R + 4) p ≤ 4) ∨ (takenB (τ (R + 3) p) ∧ τ (R + 4) p = ρ 39 p ∧ 1 ≤ τ (R + 4) p ∧ τ (R + 4) p ≤ τ R 5))
def SI (τ τ' : Sg) (R : Nat) : Prop := τ' R 4 = τ R 4 ∧ τ' R 5 = τ R 5 ∧ τ' (R + 1) = τ (R + 1) ∧ τ' (R + 2) = τ (R + 2)
def SIM (ρ ρ' : Sg) : Prop := ρ' 37 = ρ 37 ∧ ρ' 28 15 = ρ 28 15
theorem addPart_sim {τ ρ ρ' : Sg} {R : Nat} (hR : isRu R) (h : PtE τ ρ R) (h12 : τ R 6 < 12) {b g g' : Int} (hb : nb b ∨ (b = 37 ∧ g = g' ∧ 1 ≤ g ∧ g ≤ 4) ∨ (takenB b ∧ g = g' ∧ 1 ≤ g ∧ g ≤ τ R 5))
    (g38 : ρ' 38 = fun i => if i = (τ R 6).toNat then b else ρ 38 i) (g39 : ∀ i, ρ' 39 i = if i = (τ R 6).toNat then g' else ρ 39 i) (g16 : ρ' 28 16 = τ R 6 + 1) :
    PtE (f_X5_addPart τ R b g) ρ' R ∧ FrX τ (f_X5_addPart τ R b g) R ∧ SI τ (f_X5_addPart τ R b g) R ∧ (f_X5_addPart τ R b g) R 6 = τ R 6 + 1 ∧ (f_X5_addPart τ R b g) R 7 = τ R 7 := by
  obtain ⟨i1, i2, i3⟩ := h
  unfold f_X5_addPart
  have a3 : (up2 (up2 (up2 τ (R + 3) ((τ R 6).toNat) b) (R + 4) ((τ R 6).toNat) g) R 6 (τ R 6 + 1)) (R + 3) = fun i => if i = (τ R 6).toNat then b else τ (R + 3) i := by rw [up2_cell _ _ _ (by omega), up2_cell _ _ _ (by omega), up2_row]
  have a4 : (up2 (up2 (up2 τ (R + 3) ((τ R 6).toNat) b) (R + 4) ((τ R 6).toNat) g) R 6 (τ R 6 + 1)) (R + 4) = fun i => if i = (τ R 6).toNat then g else τ (R + 4) i := by
    rw [up2_cell _ _ _ (by omega), up2_row]
    funext i
    rw [up2_cell _ _ _ (by omega)]
  have ak : ∀ k, k ≠ 6 → (up2 (up2 (up2 τ (R + 3) ((τ R 6).toNat) b) (R + 4) ((τ R 6).toNat) g) R 6 (τ R 6 + 1)) R k = τ R k := fun k hk => by rw [up2_slot _ _ hk, up2_cell _ _ _ (by omega), up2_cell _ _ _ (by omega)]
  have a6 : (up2 (up2 (up2 τ (R + 3) ((τ R 6).toNat) b) (R + 4) ((τ R 6).toNat) g) R 6 (τ R 6 + 1)) R 6 = τ R 6 + 1 := up2_same _ _ _ _
  have ac : ∀ x, x ≠ R → x ≠ R + 3 → x ≠ R + 4 → (up2 (up2 (up2 τ (R + 3) ((τ R 6).toNat) b) (R + 4) ((τ R 6).toNat) g) R 6 (τ R 6 + 1)) x = τ x := fun x u v w => by rw [up2_cell _ _ _ u, up2_cell _ _ _ w, up2_cell _ _ _ v]
  generalize (up2 (up2 (up2 τ (R + 3) ((τ R 6).toNat) b) (R + 4) ((τ R 6).toNat) g) R 6 (τ R 6 + 1)) = T at a3 a4 ak a6 ac ⊢
  refine ⟨⟨by rw [a6, g16], by rw [a6]; omega, fun p hp => ?_⟩, fun x hx => ac x (by omega) (by omega) (by omega), ⟨ak 4 (by decide), ak 5 (by decide), ac _ (by omega) (by omega) (by omega), ac _ (by omega) (by omega) (by omega)⟩, a6, ak 7 (by decide)⟩
  rw [a6] at hp
  rw [a3, a4, g38, g39, ak 5 (by decide)]
  dsimp only
  by_cases e : p = (τ R 6).toNat
  · rw [if_pos e, if_pos e, if_pos e, if_pos e]
    exact ⟨rfl, hb⟩
  · rw [if_neg e, if_neg e, if_neg e, if_neg e]
    exact i3 p (by omega)
theorem parts_stop {ρ : Sg} (h : ¬ ρ 28 21 = 0) (x : Int) : ∀ m : Nat, L_X10_rule_20 m x ρ = ρ
  | 0 => rfl
  | m + 1 => by rw [L_X10_rule_20, if_neg h]
def PEnd (τ ρ : Sg) (R : Nat) (rX : Int × Sg) (rM : Sg) : Prop := FrX τ rX.2 R ∧ FrM ρ rM ∧ SI τ rX.2 R ∧ SIM ρ rM ∧
  ((rX.1 = 0 ∧ rM 28 21 = 0 ∧ PtE rX.2 rM R ∧ 1 ≤ rX.2 R 6 ∧ rX.2 R 7 = τ R 7) ∨ (1 ≤ rX.1 ∧ rM 28 21 = rX.1 ∧ rM 28 22 = rX.2 R 7))
theorem PEnd.bad {τ ρ ρ' : Sg} {R : Nat} (hR : isRu R) {k : Int} (hk : 1 ≤ k) (y z : Int) (m : Nat) (h1 : FrM ρ ρ') (h2 : SIM ρ ρ') (h3 : ρ' 28 21 = k) (h4 : ρ' 28 22 = y) : PEnd τ ρ R (k, up2 τ R 7 y) (L_X10_rule_20 m z ρ') := by
  rw [parts_stop (by omega)]
  exact ⟨(FrX.rf τ R).up (by omega) _ _, h1, ⟨up2_slot _ _ (by decide), up2_slot _ _ (by decide), up2_cell _ _ _ (by omega), up2_cell _ _ _ (by omega)⟩, h2, Or.inr ⟨hk, h3, by dsimp only; rw [up2_same, h4]⟩⟩
theorem SIM.rf (ρ : Sg) : SIM ρ ρ := ⟨rfl, rfl⟩
theorem PEnd.bad0 {τ ρ : Sg} {R : Nat} (hR : isRu R) (h21 : ρ 28 21 = 0) {k : Int} (hk : 1 ≤ k) (y z : Int) (m : Nat) : PEnd τ ρ R (k, up2 τ R 7 y) (L_X10_rule_20 m z (f_X10_fails ρ k y)) := by
  rw [fails_eq h21]
  refine PEnd.bad hR hk y z m (((FrM.rf ρ).up28 (by omega) _).up28 (by omega) _) ⟨?_, ?_⟩ ?_ (up2_same _ _ _ _)
  · rw [up2_cell _ _ _ (by decide), up2_cell _ _ _ (by decide)]
  · rw [up2_slot _ _ (by decide), up2_slot _ _ (by decide)]
  · rw [up2_slot _ _ (by decide), up2_same]
theorem wilds_congr {ρ ρ' : Sg} (h : ρ' 37 = ρ 37) (a : Int) : f_X10_wilds ρ' a = f_X10_wilds ρ a := by
  have : ∀ (n : Nat) (k x : Int), L_X10_wilds_5 ρ' a n k x = L_X10_wilds_5 ρ a n k x := by
    intro n
    induction n with
    | zero => intro k x; rfl
    | succ n ih => intro k x; rw [L_X10_wilds_5, L_X10_wilds_5, h, ih, ih]
  exact this _ _ _
/-- the reference's state when a part is put down -/
def pst (ρ : Sg) (c : Int) : Sg := up2 (up2 (up2 ρ 38 ((ρ 28 16).toNat) c) 39 ((ρ 28 16).toNat) 0) 28 16 ((ρ 28 16) + 1)
theorem pst_fr (ρ : Sg) (c : Int) : FrM ρ (pst ρ c) := (((FrM.rf ρ).up (by omega) _ _).up (by omega) _ _).up28 (by omega) _
theorem pst_si (ρ : Sg) (c : Int) : SIM ρ (pst ρ c) := by
  unfold pst
  exact ⟨by rw [up2_cell _ _ _ (by decide), up2_cell _ _ _ (by decide), up2_cell _ _ _ (by decide)], by rw [up2_slot _ _ (by decide), up2_cell _ _ _ (by decide), up2_cell _ _ _ (by decide)]⟩
theorem pst_21 (ρ : Sg) (c : Int) : (pst ρ c) 28 21 = ρ 28 21 := by
  unfold pst
  rw [up2_slot _ _ (by decide), up2_cell _ _ _ (by decide), up2_cell _ _ _ (by decide)]
theorem pst_16 (ρ : Sg) (c : Int) : (pst ρ c) 28 16 = ρ 28 16 + 1 := up2_same _ _ _ _
theorem pst_38 (ρ : Sg) (c : Int) : (pst ρ c) 38 = fun i => if i = (ρ 28 16).toNat then c else ρ 38 i := by
  unfold pst
  rw [up2_cell _ _ _ (by decide), up2_cell _ _ _ (by decide), up2_row]
theorem pst_39 (ρ : Sg) (c : Int) (i : Nat) : (pst ρ c) 39 i = if i = (ρ 28 16).toNat then 0 else ρ 39 i := by
  unfold pst
  rw [up2_cell _ _ _ (by decide), up2_row]
  dsimp only
  rw [up2_cell _ _ _ (by decide)]
theorem parts_sim {R : Nat} (hR : isRu R) (a1 : Int) : ∀ (n m : Nat) (x : Int) (τ ρ : Sg), TOK τ ρ → PtE τ ρ R → f_X10_wilds ρ (ρ 28 15) = τ R 5 → ρ 28 21 = 0 → 0 ≤ x → (x ≤ τ 1 1 ∨ 1 ≤ τ R 6) → 12 - τ R 6 < (n : Int) → 12 - τ R 6 < (m : Int) → PEnd τ ρ R (L_X5_readParts_2 R a1 n x τ) (L_X10_rule_20 m x ρ)
  | 0, m, x, τ, ρ, hT, hP, hw, h21, h0, hl, f1, f2 => by have := hP.2.1; omega
  | n + 1, 0, x, τ, ρ, hT, hP, hw, h21, h0, hl, f1, f2 => by have := hP.2.1; omega
  | n + 1, m + 1, x, τ, ρ, hT, hP, hw, h21, h0, hl, f1, f2 => by
    have b6 := hP.2.1
    have e16 := hP.1
    have e9 := hT.1.1
    have b1 := hT.2.1
    rw [L_X5_readParts_2, L_X10_rule_20, if_pos h21]
    unfold f_X8_length
    by_cases c1 : τ 1 1 ≤ x
    · rw [if_pos c1, if_neg (show ¬ x < ρ 28 9 by omega)]
      by_cases c2 : τ R 6 ≤ 0
      · rw [if_pos c2, if_pos (show ρ 28 16 = 0 by omega)]
        have e : f_X10_readPart ρ x = (x, f_X10_fails ρ 1 x) := by
          unfold f_X10_readPart J_X10_readPart_49
          rw [if_pos (show ρ 28 9 ≤ x by omega), if_pos (show x = ρ 28 9 by omega)]
        rw [e, show τ 1 1 = x by omega]
        exact PEnd.bad0 hR h21 (k := 1) (by omega) x x m
      · rw [if_neg c2, if_neg (show ¬ ρ 28 16 = 0 by omega)]
        exact ⟨FrX.rf _ _, FrM.rf _, ⟨rfl, rfl, rfl, rfl⟩, SIM.rf _, Or.inl ⟨rfl, h21, hP, by dsimp only; omega, rfl⟩⟩
    · rw [if_neg c1, if_pos (show x < ρ 28 9 by omega), tbyte (by omega) (by omega) b1.2]
      have hc := hT.1.2 x.toNat (by omega)
      generalize hb : τ 2 x.toNat = b at hc ⊢
      have bb : 0 ≤ b ∧ b ≤ 255 := by rw [← hb]; exact hT.2.2 _
      obtain ⟨t1, t2, t3, t4⟩ := byte_two bb
      have u36 := t2 36 (by omega)
      have u94 := t2 94 (by omega)
      have u33 := t2 33 (by omega)
      have u37 := t2 37 (by omega)
      by_cases ct : takenB b ∨ b = 37
      · have cb : b.bmod 256 = b := t4 (by rcases ct with z | z; exact Or.inr (Or.inr (Or.inl z)); exact Or.inr (Or.inr (Or.inr (Or.inl z))))
        rw [cb] at hc
        have nn : ¬ nb b := by unfold takenB at ct; unfold nb; omega
        generalize hn2 : (if ρ 28 9 ≤ x + 1 then (0 : Int) else ρ 33 ((x + 1).toNat)) = c2
        have eJ : f_X10_readPart ρ x = if ρ 28 16 = 12 then (x, f_X10_fails ρ 2 x) else J_X10_readPart_155 x b c2 (pst ρ b) := by
          have q0 : f_X10_readPart ρ x = J_X10_readPart_49 ρ x b 1 := by
            unfold f_X10_readPart
            rw [if_neg (show ¬ ρ 28 9 ≤ x by omega), hc]
            unfold takenB at ct
            by_cases d1 : b = 36
            · rw [if_pos d1]
            · rw [if_neg d1]
              by_cases d2 : b = 94
              · rw [if_pos d2]
              · rw [if_neg d2]
                by_cases d3 : b = 33
                · rw [if_pos d3]
                · rw [if_neg d3, if_pos (by omega)]
          rw [q0]
          unfold J_X10_readPart_49
          have nz : f_X10_isNameByte b = 0 := by rw [← cb]; exact t1.mpr nn
          rw [if_neg (show ¬ x = ρ 28 9 by omega), if_pos nz, if_neg (show ¬ (1 : Int) = 0 by decide)]
          by_cases d : ρ 28 16 = 12
          · rw [if_pos d, if_pos d]
          · rw [if_neg d, if_neg d, ← hn2]
            by_cases d2 : ρ 28 9 ≤ x + 1
            · rw [if_pos d2, if_pos d2]; rfl
            · rw [if_neg d2, if_neg d2]; rfl
        have eX : (if b = 37 then (if τ R 6 < 12 then (if f_X5_faultOfFigure τ R b (f_X8_byteAt τ (x + 1)) = 0 then L_X5_readParts_2 R a1 n (x + 1 + 1) (f_X5_addPart τ R b (f_X8_byteAt τ (x + 1) - 48)) else ((f_X5_fault τ R (f_X5_faultOfFigure τ R b (f_X8_byteAt τ (x + 1))) (x + 1)).1, (f_X5_fault τ R (f_X5_faultOfFigure τ R b (f_X8_byteAt τ (x + 1))) (x + 1)).2)) else ((f_X5_fault τ R 2 x).1, (f_X5_fault τ R 2 x).2)) else (if f_X6_isTaken b = 0 then (if f_X6_isOfNames b = 0 then ((f_X5_fault τ R 1 x).1, (f_X5_fault τ R 1 x).2) else (if τ R 6 < 12 then L_X5_readParts_2 R a1 n (x + 1) (f_X5_addPart τ R b (b - 48)) else ((f_X5_fault τ R 2 x).1, (f_X5_fault τ R 2 x).2))) else (if τ R 6 < 12 then (if f_X5_faultOfFigure τ R b (f_X8_byteAt τ (x + 1)) = 0 then L_X5_readParts_2 R a1 n (x + 1 + 1) (f_X5_addPart τ R b (f_X8_byteAt τ (x + 1) - 48)) else ((f_X5_fault τ R (f_X5_faultOfFigure τ R b (f_X8_byteAt τ (x + 1))) (x + 1)).1, (f_X5_fault τ R (f_X5_faultOfFigure τ R b (f_X8_byteAt τ (x + 1))) (x + 1)).2)) else ((f_X5_fault τ R 2 x).1, (f_X5_fault τ R 2 x).2))))
            = (if τ R 6 < 12 then (if f_X5_faultOfFigure τ R b (f_X8_byteAt τ (x + 1)) = 0 then L_X5_readParts_2 R a1 n (x + 1 + 1) (f_X5_addPart τ R b (f_X8_byteAt τ (x + 1) - 48)) else (f_X5_faultOfFigure τ R b (f_X8_byteAt τ (x + 1)), up2 τ R 7 (x + 1))) else (2, up2 τ R 7 x)) := by
          by_cases d1 : b = 37
          · rw [if_pos d1]; rfl
          · have d2 : takenB b := by rcases ct with z | z; exact z; exact absurd z d1
            rw [if_neg d1, if_neg (fun z => (takenX b).mp z d2)]; rfl
        rw [eX, eJ]
        by_cases c12 : τ R 6 < 12
        · rw [if_pos c12, if_neg (show ¬ ρ 28 16 = 12 by omega)]
          -- the figure
          have hfig : f_X10_isFigure c2 = f_X6_isFigure (f_X8_byteAt τ (x + 1)) ∧ (¬ f_X6_isFigure (f_X8_byteAt τ (x + 1)) = 0 → c2 = f_X8_byteAt τ (x + 1)) := by
            rw [← hn2]
            by_cases d : ρ 28 9 ≤ x + 1
            · have : f_X8_byteAt τ (x + 1) = -1 := by
                unfold f_X8_byteAt
                rw [if_neg (by omega), if_pos (by omega)]
              rw [if_pos d, this]
              exact ⟨rfl, fun z => absurd rfl z⟩
            · rw [if_neg d, tbyte (by omega) (by omega) b1.2, hT.1.2 (x + 1).toNat (by omega)]
              obtain ⟨s1, s2, s3, s4⟩ := byte_two (hT.2.2 (x + 1).toNat)
              exact ⟨s3, fun z => s4 (Or.inr (Or.inr (Or.inr (Or.inr z))))⟩
          generalize f_X8_byteAt τ (x + 1) = b2 at hfig ⊢
          have eW : f_X10_wilds (pst ρ b) ((pst ρ b) 28 15) = τ R 5 := by
            rw [(pst_si ρ b).2, wilds_congr (pst_si ρ b).1]; exact hw
          have bad : ∀ k : Int, 1 ≤ k → PEnd τ ρ R (k, up2 τ R 7 (x + 1)) (L_X10_rule_20 m (J_X10_readPart_230 x c2 (f_X10_fails (pst ρ b) k (x + 1))).1 (J_X10_readPart_230 x c2 (f_X10_fails (pst ρ b) k (x + 1))).2) := by
            intro k hk
            rw [fails_eq (by rw [pst_21]; exact h21)]
            unfold J_X10_readPart_230
            refine PEnd.bad hR hk (x + 1) _ m ((((pst_fr ρ b).up28 (by omega) _).up28 (by omega) _).up (by omega) _ _) ⟨?_, ?_⟩ ?_ ?_
            · dsimp only
              rw [up2_cell _ _ _ (by decide), up2_cell _ _ _ (by decide), up2_cell _ _ _ (by decide)]
              exact (pst_si ρ b).1
            · dsimp only
              rw [up2_cell _ _ _ (by decide), up2_slot _ _ (by decide), up2_slot _ _ (by decide)]
              exact (pst_si ρ b).2
            · dsimp only
              rw [up2_cell _ _ _ (by decide), up2_slot _ _ (by decide), up2_same]
            · dsimp only
              rw [up2_cell _ _ _ (by decide), up2_same]
          have good : c2 = b2 → ((b = 37 ∧ 1 ≤ b2 - 48 ∧ b2 - 48 ≤ 4) ∨ (takenB b ∧ 1 ≤ b2 - 48 ∧ b2 - 48 ≤ τ R 5)) → PEnd τ ρ R (L_X5_readParts_2 R a1 n (x + 1 + 1) (f_X5_addPart τ R b (b2 - 48))) (L_X10_rule_20 m (J_X10_readPart_230 x c2 (pst ρ b)).1 (J_X10_readPart_230 x c2 (pst ρ b)).2) := by
            intro hcb hk
            unfold J_X10_readPart_230
            dsimp only
            rw [pst_16, show x + 2 = x + 1 + 1 by omega]
            have np : (ρ 28 16 + 1 - 1).toNat = (τ R 6).toNat := by omega
            rw [np]
            have fm : FrM ρ (up2 (pst ρ b) 39 ((τ R 6).toNat) (c2 - 48)) := (pst_fr ρ b).up (by omega) _ _
            have sm : SIM ρ (up2 (pst ρ b) 39 ((τ R 6).toNat) (c2 - 48)) := ⟨by rw [up2_cell _ _ _ (by decide)]; exact (pst_si ρ b).1, by rw [up2_cell _ _ _ (by decide)]; exact (pst_si ρ b).2⟩
            obtain ⟨s1, s2, s3, s4, s5⟩ := addPart_sim (ρ' := up2 (pst ρ b) 39 ((τ R 6).toNat) (c2 - 48)) hR hP c12 (b := b) (g := b2 - 48) (g' := c2 - 48) (by
                rcases hk with z | z
                · exact Or.inr (Or.inl ⟨z.1, by rw [hcb], z.2.1, z.2.2⟩)
                · exact Or.inr (Or.inr ⟨z.1, by rw [hcb], z.2.1, z.2.2⟩)) (by rw [up2_cell _ _ _ (by decide), pst_38, e16]) (fun i => by
                  rw [up2_row]
                  dsimp only
                  by_cases w : i = (τ R 6).toNat
                  · rw [if_pos w, if_pos w]
                  · rw [if_neg w, if_neg w, pst_39, if_neg (by omega)]) (by rw [up2_cell _ _ _ (by decide), pst_16]; omega)
            have ih := parts_sim hR a1 n m (x + 1 + 1) _ _ (hT.fr hR s2 fm) s1 (by rw [sm.2, wilds_congr sm.1, s3.2.1]; exact hw) (by rw [up2_cell _ _ _ (by decide), pst_21]; exact h21) (by omega) (Or.inr (by omega)) (by omega) (by omega)
            obtain ⟨j1, j2, j3, j4, j5⟩ := ih
            refine ⟨s2.tr j1, fm.tr j2, ⟨by rw [j3.1, s3.1], by rw [j3.2.1, s3.2.1], by rw [j3.2.2.1, s3.2.2.1], by rw [j3.2.2.2, s3.2.2.2]⟩, ⟨by rw [j4.1, sm.1], by rw [j4.2, sm.2]⟩, ?_⟩
            rw [s5] at j5
            exact j5
          unfold f_X5_faultOfFigure J_X10_readPart_155
          rw [hfig.1, eW]
          by_cases d1 : f_X6_isFigure b2 = 0
          · rw [if_pos d1, if_pos d1, if_neg (show ¬ (1 : Int) = 0 by decide)]
            exact bad 1 (by omega)
          · rw [if_neg d1, if_neg d1]
            have hcb := hfig.2 d1
            rw [hcb]
            rw [hcb] at bad good
            unfold f_X10_within
            by_cases d2 : b = 37
            · rw [if_pos d2, if_pos d2]
              by_cases d3 : b2 - 48 < 1
              · rw [if_pos d3, if_pos (show b2 < 49 by omega), if_neg (show ¬ (1 : Int) = 0 by decide), if_pos rfl]
                exact bad 1 (by omega)
              · rw [if_neg d3, if_neg (show ¬ b2 < 49 by omega)]
                by_cases d4 : 4 < b2 - 48
                · rw [if_pos d4, if_pos (show 52 < b2 by omega), if_neg (show ¬ (1 : Int) = 0 by decide), if_pos rfl]
                  exact bad 1 (by omega)
                · rw [if_neg d4, if_neg (show ¬ 52 < b2 by omega), if_pos rfl, if_neg (show ¬ (1 : Int) = 0 by decide)]
                  exact good rfl (Or.inl ⟨d2, by omega, by omega⟩)
            · have d2' : takenB b := by rcases ct with z | z; exact z; exact absurd z d2
              rw [if_neg d2, if_neg d2]
              by_cases d3 : b2 - 48 < 1
              · rw [if_pos d3, if_pos d3, if_neg (show ¬ (3 : Int) = 0 by decide), if_pos rfl]
                exact bad 3 (by omega)
              · rw [if_neg d3, if_neg d3]
                by_cases d4 : τ R 5 < b2 - 48
                · rw [if_pos d4, if_pos d4, if_neg (show ¬ (3 : Int) = 0 by decide), if_pos rfl]
                  exact bad 3 (by omega)
                · rw [if_neg d4, if_neg d4, if_pos rfl, if_neg (show ¬ (1 : Int) = 0 by decide)]
                  exact good rfl (Or.inr ⟨d2', by omega, by omega⟩)
        · rw [if_neg c12, if_pos (show ρ 28 16 = 12 by omega)]
          exact PEnd.bad0 hR h21 (k := 2) (by omega) x x m
      · have ct1 : ¬ takenB b := fun z => ct (Or.inl z)
        have ct2 : ¬ b = 37 := fun z => ct (Or.inr z)
        have q0 : f_X10_readPart ρ x = J_X10_readPart_49 ρ x (b.bmod 256) 0 := by
          unfold f_X10_readPart
          unfold takenB at ct1
          rw [if_neg (show ¬ ρ 28 9 ≤ x by omega), hc, if_neg (fun z => ct1 (Or.inl (u36.mp z))), if_neg (fun z => ct1 (Or.inr (Or.inl (u94.mp z)))), if_neg (fun z => ct1 (Or.inr (Or.inr (u33.mp z)))), if_neg (fun z => ct2 (u37.mp z))]
        rw [q0, if_neg ct2, if_pos ((takenX b).mpr ct1)]
        unfold J_X10_readPart_49
        rw [if_neg (show ¬ x = ρ 28 9 by omega)]
        by_cases cn : nb b
        · have cb : b.bmod 256 = b := t4 (Or.inl cn)
          rw [if_neg (fun z => (nbX0 b).mp z cn), if_neg (fun z => t1.mp z cn), cb]
          by_cases c12 : τ R 6 < 12
          · rw [if_pos c12, if_neg (show ¬ ρ 28 16 = 12 by omega), if_pos rfl]
            obtain ⟨s1, s2, s3, s4, s5⟩ := addPart_sim (ρ' := pst ρ b) hR hP c12 (b := b) (g := b - 48) (g' := 0) (Or.inl cn) (by rw [pst_38, e16]) (fun i => by rw [pst_39, e16]) (by rw [pst_16]; omega)
            have fm := pst_fr ρ b
            have sm := pst_si ρ b
            have ih := parts_sim hR a1 n m (x + 1) _ _ (hT.fr hR s2 fm) s1 (by rw [sm.2, wilds_congr sm.1, s3.2.1]; exact hw) (by rw [pst_21]; exact h21) (by omega) (Or.inr (by omega)) (by omega) (by omega)
            obtain ⟨j1, j2, j3, j4, j5⟩ := ih
            refine ⟨s2.tr j1, fm.tr j2, ⟨by rw [j3.1, s3.1], by rw [j3.2.1, s3.2.1], by rw [j3.2.2.1, s3.2.2.1], by rw [j3.2.2.2, s3.2.2.2]⟩, ⟨by rw [← sm.1]; exact j4.1, by rw [← sm.2]; exact j4.2⟩, ?_⟩
            rw [s5] at j5
            exact j5
          · rw [if_neg c12, if_pos (show ρ 28 16 = 12 by omega)]
            exact PEnd.bad0 hR h21 (k := 2) (by omega) x x m
        · rw [if_pos ((nbX0 b).mpr cn), if_pos (t1.mpr cn), if_pos rfl]
          exact PEnd.bad0 hR h21 (k := 1) (by omega) x x m
