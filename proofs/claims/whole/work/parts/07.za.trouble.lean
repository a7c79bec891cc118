/-! plan: troubles. -/
/-- what of the store a plan looks at -/
def SB (τ : Sg) : Prop := (0 ≤ τ 3 3 ∧ τ 3 3 ≤ 40) ∧ ∀ f : Nat, f < 40 → lenOK τ (59 + 2 * f)
theorem fa_sim {τ ρ : Sg} (hS : SimS τ ρ) (hB : SB τ) {d q : Nat} (hd : PE τ ρ d q) (b : Int) : f_X7_findAlike τ d b = f_X10_alikeTo ρ (q : Int) b := by
  have lp : ∀ (n : Nat) (x : Int), 0 ≤ x → L_X7_findAlike_2 τ d b n x = L_X10_alikeTo_2 ρ (q : Int) b n x := by
    intro n
    induction n with
    | zero => intro x _; rfl
    | succ n ih =>
      intro x h0
      rw [L_X7_findAlike_2, L_X10_alikeTo_2, ih (x + 1) (by omega), hS.1]
      by_cases h1 : ρ 28 5 ≤ x
      · rw [if_pos h1, if_pos h1]
      · rw [if_neg h1, if_neg h1]
        have hx : ((x.toNat : Nat) : Int) < τ 3 3 := by rw [hS.1]; omega
        have hp := hB.2 x.toNat (by have := hB.1; omega)
        have e := PE_alike hp.2 (hS.2.2.2.1 x.toNat hx) hd hS.2.1
        rw [hS.2.2.1 x.toNat hx, e, show ((x.toNat : Nat) : Int) = x by omega]
  exact lp 41 0 (by omega)
theorem fa_spec {τ : Sg} (hB : SB τ) {d : Nat} (b : Int) : ∀ (n : Nat) (x : Int), 0 ≤ x → x ≤ 40 → 40 - x < (n : Int) →
    (L_X7_findAlike_2 τ d b n x = -1 ∧ ∀ f : Nat, x ≤ (f : Int) → (f : Int) < τ 3 3 → (f : Int) ≠ b → ¬ τ 5 f = 0 → ¬ AlX τ (59 + 2 * f) d (τ 3 5)) ∨ (∃ r : Nat, L_X7_findAlike_2 τ d b n x = (r : Int) ∧ x ≤ (r : Int) ∧ (r : Int) < τ 3 3 ∧ (r : Int) ≠ b ∧ ¬ τ 5 r = 0 ∧ AlX τ (59 + 2 * r) d (τ 3 5))
  | 0, x, h0, hx, h1 => by omega
  | n + 1, x, h0, hx, h1 => by
    have b3 := hB.1
    rw [L_X7_findAlike_2]
    by_cases c1 : τ 3 3 ≤ x
    · rw [if_pos c1]
      exact Or.inl ⟨rfl, fun f a c => by omega⟩
    · rw [if_neg c1]
      have ih := fa_spec hB (d := d) b n (x + 1) (by omega) (by omega) (by omega)
      have skip : (x = b ∨ τ 5 x.toNat = 0 ∨ ¬ AlX τ (59 + 2 * x.toNat) d (τ 3 5)) → (L_X7_findAlike_2 τ d b n (x + 1) = -1 ∧ ∀ f : Nat, x ≤ (f : Int) → (f : Int) < τ 3 3 → (f : Int) ≠ b → ¬ τ 5 f = 0 → ¬ AlX τ (59 + 2 * f) d (τ 3 5)) ∨ (∃ r : Nat, L_X7_findAlike_2 τ d b n (x + 1) = (r : Int) ∧ x ≤ (r : Int) ∧ (r : Int) < τ 3 3 ∧ (r : Int) ≠ b ∧ ¬ τ 5 r = 0 ∧ AlX τ (59 + 2 * r) d (τ 3 5)) := by
        intro hs
        rcases ih with ⟨i1, i2⟩ | ⟨r, i1, i2, i3⟩
        · refine Or.inl ⟨i1, fun f a c e g => ?_⟩
          by_cases w : (f : Int) = x
          · have ef : f = x.toNat := by omega
            subst ef
            rcases hs with z | z | z
            · omega
            · exact absurd z g
            · exact z
          · exact i2 f (by omega) c e g
        · exact Or.inr ⟨r, i1, by omega, i3⟩
      by_cases c2 : x = b
      · rw [if_pos c2]; exact skip (Or.inl c2)
      · rw [if_neg c2]
        by_cases c3 : τ 5 x.toNat = 0
        · rw [if_pos c3]; exact skip (Or.inr (Or.inl c3))
        · rw [if_neg c3]
          have al := isAlikeX (σ := τ) (c := 59 + 2 * x.toNat) (q := d) (a1 := τ 3 5) (hB.2 x.toNat (by omega)).2
          by_cases c4 : f_X2_isAlike τ (59 + 2 * x.toNat) d (τ 3 5) = 0
          · rw [if_pos c4]
            exact skip (Or.inr (Or.inr (fun z => by have := al.2.mpr z; omega)))
          · rw [if_neg c4]
            refine Or.inr ⟨x.toNat, by omega, by omega, by omega, by omega, c3, al.2.mp ?_⟩
            rcases al.1 with z | z
            · exact absurd z c4
            · exact z
theorem find_sim {τ ρ : Sg} {m : Nat} (h : E2 τ ρ m) (h5 : τ 13 5 = (m : Int)) (h26 : ρ 28 26 = (m : Int)) (g : Int) : ∀ (n : Nat) (x : Int), 0 ≤ x → L_X3_find_2 τ g n x = L_X10_placeOf_2 ρ g n x
  | 0, x, h0 => rfl
  | n + 1, x, h0 => by
    rw [L_X3_find_2, L_X10_placeOf_2, find_sim h h5 h26 g n (x + 1) (by omega), h5, h26]
    by_cases c : (m : Int) ≤ x
    · rw [if_pos c, if_pos c]
    · rw [if_neg c, if_neg c, (h x.toNat (by omega)).1]
theorem find_spec {τ : Sg} {m : Nat} (hm : m ≤ 40) (h5 : τ 13 5 = (m : Int)) (g : Int) : ∀ (n : Nat) (x : Int), 0 ≤ x → x ≤ 40 → 40 - x < (n : Int) → (L_X3_find_2 τ g n x = -1 ∧ ∀ j : Nat, x ≤ (j : Int) → j < m → τ (439 + j) 3 ≠ g) ∨ (∃ r : Nat, L_X3_find_2 τ g n x = (r : Int) ∧ r < m ∧ τ (439 + r) 3 = g)
  | 0, x, h0, hx, h1 => by omega
  | n + 1, x, h0, hx, h1 => by
    rw [L_X3_find_2, h5]
    by_cases c : (m : Int) ≤ x
    · rw [if_pos c]
      exact Or.inl ⟨rfl, fun j a b => by omega⟩
    · rw [if_neg c]
      by_cases c2 : τ (439 + x.toNat) 3 = g
      · rw [if_pos c2]
        exact Or.inr ⟨x.toNat, by omega, by omega, c2⟩
      · rw [if_neg c2]
        rcases find_spec hm h5 g n (x + 1) (by omega) (by omega) (by omega) with ⟨i1, i2⟩ | i
        · refine Or.inl ⟨i1, fun j a b => ?_⟩
          by_cases w : (j : Int) = x
          · rw [show j = x.toNat by omega]; exact c2
          · exact i2 j (by omega) b
        · exact Or.inr i
/-- the k-th planned file has no trouble, and waits for at most one other -/
def FreeK (τ : Sg) (m k : Nat) : Prop := (∀ x : Nat, x < m → x ≠ k → good τ x → ¬ AlX τ (201 + 6 * x) (201 + 6 * k) (τ 3 5)) ∧
  ((f_X7_findAlike τ (201 + 6 * k) (τ (439 + k) 3) = -1 ∧ τ (439 + k) 9 = -1) ∨ (∃ o : Nat, o < m ∧ τ (439 + k) 9 = (o : Int) ∧ τ (439 + o) 3 = f_X7_findAlike τ (201 + 6 * k) (τ (439 + k) 3) ∧ ¬ f_X7_findAlike τ (201 + 6 * k) (τ (439 + k) 3) = -1 ∧ good τ o ∧ τ (439 + o) 6 = 0))
/-- how finding the trouble of the k-th ends -/
def TK (τ ρ : Sg) (m k : Nat) (τ' ρ' : Sg) : Prop := τ' (439 + k) 7 = ρ' 45 k ∧ τ' (439 + k) 8 = ρ' 46 k ∧ (ρ' 45 k = 0 ∨ ρ' 45 k = 2 ∨ ρ' 45 k = 3) ∧ (∀ j, j ≠ 7 → j ≠ 8 → j ≠ 9 → τ' (439 + k) j = τ (439 + k) j) ∧ (∀ x, x ≠ 439 + k → τ' x = τ x) ∧ (∀ j, j ≠ k → ρ' 45 j = ρ 45 j ∧ ρ' 46 j = ρ 46 j) ∧ (∀ x, x ≠ 45 → x ≠ 46 → ρ' x = ρ x) ∧ (ρ' 45 k = 0 → FreeK τ' m k)
theorem trouble_loop {τ ρ : Sg} {m k : Nat} (hm : m ≤ 40) (hk : k < m) (hS : SimS τ ρ) (hB : SB τ) (hE : E2 τ ρ m) (h5 : τ 13 5 = (m : Int)) (h26 : ρ 28 26 = (m : Int)) (hn : ∀ j : Nat, j < m → (τ (439 + j) 7 = 1 ↔ ¬ good τ j)) (h7 : τ (439 + k) 7 = 0) (h8 : τ (439 + k) 8 = -1) (h9 : τ (439 + k) 9 = -1) (g45 : ρ 45 k = 0) (g46 : ρ 46 k = -1)
    (hst : ¬ τ (439 + k) 6 = 0 → f_X7_findAlike τ (201 + 6 * k) (τ (439 + k) 3) = -1) : ∀ (n : Nat) (x : Int), 0 ≤ x → x ≤ 40 → 40 - x < (n : Int) → (∀ j : Nat, (j : Int) < x → j < m → j ≠ k → good τ j → ¬ AlX τ (201 + 6 * j) (201 + 6 * k) (τ 3 5)) → TK τ ρ m k (L_X3_findTroubleWithOthers_10 τ (k : Int) (439 + k) n x) (L_X10_findTrouble_32 ρ (k : Int) n x)
  | 0, x, h0, hx40, f1, hr => by omega
  | n + 1, x, h0, hx40, f1, hr => by
    have ek := hE k hk
    have fAl : f_X7_findAlike τ (201 + 6 * k) (τ (439 + k) 3) = f_X10_alikeTo ρ (80 + (k : Int)) (ρ 42 k) := by
      have := fa_sim hS hB ek.2.2.2.2.2.1 (τ (439 + k) 3)
      rw [this, ek.1, show ((80 + k : Nat) : Int) = 80 + (k : Int) by omega]
    have set2 : ∀ (t w : Int), (t = 2 ∨ t = 3) → TK τ ρ m k (f_X4_setTrouble τ (439 + k) t w) (up2 (up2 ρ 45 k t) 46 k w) := by
      intro t w ht
      unfold f_X4_setTrouble
      have q45 : (up2 (up2 ρ 45 k t) 46 k w) 45 k = t := by rw [up2_cell _ _ _ (by decide), up2_same]
      refine ⟨by rw [q45, up2_slot _ _ (by decide), up2_same], by rw [up2_same, up2_same], by rw [q45]; omega, fun j u v _ => by rw [up2_slot _ _ v, up2_slot _ _ u], fun x u => by rw [up2_cell _ _ _ u, up2_cell _ _ _ u], fun j hj => ⟨by rw [up2_cell _ _ _ (by decide), up2_slot _ _ hj], by rw [up2_slot _ _ hj, up2_cell _ _ _ (by decide)]⟩, fun x u v => by rw [up2_cell _ _ _ v, up2_cell _ _ _ u], fun z => by rw [q45] at z; omega⟩
    have same : TK τ ρ m k τ ρ ∨ True := Or.inr trivial
    rw [L_X3_findTroubleWithOthers_10, L_X10_findTrouble_32, h5, h26, show 439 + k - 439 = k by omega, Int.toNat_natCast]
    by_cases c1 : (m : Int) ≤ x
    · rw [if_pos c1, if_pos c1, ← fAl]
      have nor : ∀ j : Nat, j < m → j ≠ k → good τ j → ¬ AlX τ (201 + 6 * j) (201 + 6 * k) (τ 3 5) := fun j a b d => hr j (by omega) a b d
      have free : f_X7_findAlike τ (201 + 6 * k) (τ (439 + k) 3) = -1 → TK τ ρ m k τ ρ := fun hf => ⟨by rw [h7, g45], by rw [h8, g46], Or.inl g45, fun _ _ _ _ => rfl, fun _ _ => rfl, fun _ _ => ⟨rfl, rfl⟩, fun _ _ _ => rfl, fun _ => ⟨nor, Or.inl ⟨hf, h9⟩⟩⟩
      by_cases c2 : ρ 47 k = 0
      · rw [if_pos c2]
        by_cases c3 : f_X7_findAlike τ (201 + 6 * k) (τ (439 + k) 3) = -1
        · rw [if_pos c3, if_pos c3]
          exact free c3
        · rw [if_neg c3, if_neg c3]
          have fe : f_X3_find τ (f_X7_findAlike τ (201 + 6 * k) (τ (439 + k) 3)) = f_X10_placeOf ρ (f_X7_findAlike τ (201 + 6 * k) (τ (439 + k) 3)) := find_sim hE h5 h26 _ 41 0 (by omega)
          rw [← fe]
          have fsp := find_spec hm h5 (f_X7_findAlike τ (201 + 6 * k) (τ (439 + k) 3)) 41 0 (by omega) (by omega) (by omega)
          have fdef : f_X3_find τ (f_X7_findAlike τ (201 + 6 * k) (τ (439 + k) 3)) = L_X3_find_2 τ (f_X7_findAlike τ (201 + 6 * k) (τ (439 + k) 3)) 41 0 := by unfold f_X3_find; rfl
          rw [← fdef] at fsp
          rcases fsp with ⟨i1, i2⟩ | ⟨o, i1, i2, i3⟩
          · rw [if_pos i1, if_pos i1]
            exact set2 3 _ (Or.inr rfl)
          · rw [i1, if_neg (show ¬ (o : Int) = -1 by omega), if_neg (show ¬ (o : Int) = -1 by omega), Int.toNat_natCast]
            have bi := isBad_iff hE i2
            have eo := hE o i2
            unfold f_X4_hasName
            by_cases c4 : τ (439 + o) 7 = 1
            · have ng := (hn o i2).mp c4
              rw [if_pos c4, if_pos rfl, if_neg (fun z => ng (bi.mp z))]
              exact set2 3 _ (Or.inr rfl)
            · have gd : good τ o := by
                rcases Classical.em (good τ o) with z | z
                · exact z
                · exact absurd ((hn o i2).mpr z) c4
              rw [if_neg c4, if_neg (show ¬ (1 : Int) = 0 by decide), if_pos (bi.mpr gd), eo.2.2.2.2.1]
              by_cases c5 : ρ 47 o = 0
              · rw [if_pos c5, if_pos c5]
                have u9 : (up2 τ (439 + k) 9 (o : Int)) (439 + k) 9 = (o : Int) := up2_same _ _ _ _
                have uj : ∀ j, j ≠ 9 → (up2 τ (439 + k) 9 (o : Int)) (439 + k) j = τ (439 + k) j := fun j hj => up2_slot _ _ hj
                have ux : ∀ y, y ≠ 439 + k → (up2 τ (439 + k) 9 (o : Int)) y = τ y := fun y hy => up2_cell _ _ _ hy
                generalize up2 τ (439 + k) 9 (o : Int) = T at u9 uj ux
                have uo : ∀ q : Nat, ∀ j, j ≠ 9 → T (439 + q) j = τ (439 + q) j := fun q j hj => by
                  by_cases w : q = k
                  · subst w; exact uj j hj
                  · rw [ux _ (by omega)]
                have gT : ∀ q : Nat, good T q ↔ good τ q := fun q => by unfold good; rw [uo q 5 (by decide)]
                have alT : ∀ c d : Nat, c < 438 → d < 438 → (AlX T c d (T 3 5) ↔ AlX τ c d (τ 3 5)) := fun c d hc hd => by
                  rw [ux 3 (by omega)]
                  exact AlX.mv (ux _ (by omega)) (ux _ (by omega)) (ux _ (by omega)) (ux _ (by omega))
                have faT : f_X7_findAlike T (201 + 6 * k) (T (439 + k) 3) = f_X7_findAlike τ (201 + 6 * k) (τ (439 + k) 3) := by
                  have hS' : SimS T ρ := ⟨by rw [ux 3 (by omega)]; exact hS.1, by rw [ux 3 (by omega)]; exact hS.2.1, fun f hf => by rw [ux 3 (by omega)] at hf; rw [ux 5 (by omega)]; exact hS.2.2.1 f hf, fun f hf => by
                    rw [ux 3 (by omega)] at hf
                    have := hB.1
                    exact (hS.2.2.2.1 f hf).mv (hB.2 f (by omega)).2 ⟨ux _ (by omega), ux _ (by omega)⟩ (RowS.rf _ _), by rw [ux 3 (by omega), ux 5 (by omega)]; exact hS.2.2.2.2⟩
                  have hB' : SB T := ⟨by rw [ux 3 (by omega)]; exact hB.1, fun f hf => by unfold lenOK; rw [ux _ (by omega)]; exact hB.2 f hf⟩
                  have pk : PE T ρ (201 + 6 * k) (80 + k) := ek.2.2.2.2.2.1.mv ek.2.2.2.2.2.2.2 ⟨ux _ (by omega), ux _ (by omega)⟩ (RowS.rf _ _)
                  rw [fa_sim hS' hB' pk, uj 3 (by decide), fa_sim hS hB ek.2.2.2.2.2.1]
                refine ⟨by rw [uj 7 (by decide), h7, g45], by rw [uj 8 (by decide), h8, g46], Or.inl g45, fun j _ _ hj => uj j hj, ux, fun _ _ => ⟨rfl, rfl⟩, fun _ _ _ => rfl, fun _ => ⟨fun y y1 y2 y3 => by rw [alT _ _ (by omega) (by omega)]; exact nor y y1 y2 ((gT y).mp y3), Or.inr ⟨o, i2, u9, ?_, ?_, (gT o).mpr gd, by rw [uo o 6 (by decide), eo.2.2.2.2.1]; exact c5⟩⟩⟩
                · rw [faT, uo o 3 (by decide)]; exact i3
                · rw [faT]; exact c3
              · rw [if_neg c5, if_neg c5]
                exact set2 3 _ (Or.inr rfl)
      · rw [if_neg c2]
        have hf := hst (by rw [ek.2.2.2.2.1]; exact c2)
        rw [if_pos hf]
        exact free hf
    · rw [if_neg c1, if_neg c1]
      have next : ((x.toNat = k) ∨ ¬ good τ x.toNat ∨ ¬ AlX τ (201 + 6 * x.toNat) (201 + 6 * k) (τ 3 5)) → TK τ ρ m k (L_X3_findTroubleWithOthers_10 τ (k : Int) (439 + k) n (x + 1)) (L_X10_findTrouble_32 ρ (k : Int) n (x + 1)) := by
        intro hq
        refine trouble_loop hm hk hS hB hE h5 h26 hn h7 h8 h9 g45 g46 hst n (x + 1) (by omega) (by omega) (by omega) (fun j j1 j2 j3 j4 => ?_)
        by_cases w : (j : Int) = x
        · have ej : j = x.toNat := by omega
          subst ej
          rcases hq with z | z | z
          · exact absurd z j3
          · exact absurd j4 z
          · exact z
        · exact hr j (by omega) j2 j3 j4
      by_cases c2 : x = (k : Int)
      · rw [if_pos c2, if_pos c2]
        exact next (Or.inl (by omega))
      · rw [if_neg c2, if_neg c2]
        have hx : x.toNat < m := by omega
        have bi := isBad_iff hE hx
        rw [show ((x.toNat : Nat) : Int) = x by omega] at bi
        have ex := hE x.toNat hx
        unfold f_X4_hasName
        by_cases c3 : τ (439 + x.toNat) 7 = 1
        · have ng := (hn _ hx).mp c3
          rw [if_pos c3, if_pos rfl, if_neg (fun z => ng (bi.mp z))]
          exact next (Or.inr (Or.inl ng))
        · have gd : good τ x.toNat := by
            rcases Classical.em (good τ x.toNat) with z | z
            · exact z
            · exact absurd ((hn _ hx).mpr z) c3
          rw [if_neg c3, if_neg (show ¬ (1 : Int) = 0 by decide), if_pos (bi.mpr gd), show 439 + x.toNat - 439 = x.toNat by omega]
          have al := PE_alike ex.2.2.2.2.2.2.2 ex.2.2.2.2.2.1 ek.2.2.2.2.2.1 hS.2.1
          rw [show ((80 + x.toNat : Nat) : Int) = 80 + x by omega, show ((80 + k : Nat) : Int) = 80 + (k : Int) by omega] at al
          unfold f_X7_isFolding
          rw [al]
          have ax := isAlikeX (σ := τ) (c := 201 + 6 * x.toNat) (q := 201 + 6 * k) (a1 := τ 3 5) ex.2.2.2.2.2.2.2
          by_cases c4 : f_X10_isAlike ρ (80 + x) (80 + (k : Int)) = 0
          · rw [if_pos c4, if_pos c4]
            exact next (Or.inr (Or.inr (fun z => by have := ax.2.mpr z; omega)))
          · rw [if_neg c4, if_neg c4, ex.1]
            exact set2 2 _ (Or.inl rfl)
