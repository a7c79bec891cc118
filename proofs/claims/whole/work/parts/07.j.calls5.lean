/-! file, hand, link. -/
/-- the place at c is now what the place at q was -/
def Cp (τ τ' : Sg) (c q : Nat) : Prop := τ' c 1 = τ q 1 ∧ τ' c 2 = τ q 2 ∧ ∀ i : Nat, (i : Int) < τ q 2 → τ' (c + 1) i = τ (q + 1) i
theorem Cp.al {τ τ' : Sg} {c q d : Nat} {f : Int} (h : Cp τ τ' c q) (h0 : τ' d = τ d) (h1 : τ' (d + 1) = τ (d + 1)) (k : AlX τ' d c f) : AlX τ d q f := by
  obtain ⟨k1, k2, k3⟩ := k
  obtain ⟨a1, a2, a3⟩ := h
  rw [h0] at k1 k2 k3
  rw [h1] at k3
  refine ⟨by rw [k1, a1], by rw [k2, a2], fun i hi => ?_⟩
  have := k3 i hi
  rw [a3 i (by omega)] at this
  exact this
theorem Cp.nm {τ τ' : Sg} {c q : Nat} (h : Cp τ τ' c q) (k : NmOK τ q) : NmOK τ' c := by
  refine ⟨by rw [h.2.1]; exact k.1, fun i hi => ?_⟩
  rw [h.2.1] at hi
  rw [h.2.2 i hi]
  exact k.2 i hi
theorem Cp.sp {τ τ' : Sg} {c q : Nat} {f : Int} (h : Cp τ τ' c q) (k : SpOK τ q f) : SpOK τ' c f := by
  obtain ⟨k1, k2⟩ := k
  refine ⟨by rw [h.2.2 0 (by omega)]; exact k1, ?_⟩
  rcases k2 with ⟨w1, w2, w3⟩ | ⟨w1, w2, w3, w4⟩
  · exact Or.inl ⟨w1, by rw [h.2.1]; exact w2, by rw [h.2.2 1 (by omega)]; exact w3⟩
  · exact Or.inr ⟨w1, by rw [h.2.1]; exact w2, by rw [h.2.2 1 (by omega)]; exact w3, by rw [h.2.2 2 (by omega)]; exact w4⟩
/-- the class's cells when one file has gone to another place -/
theorem move_Inv {τ τ' : Sg} (h : Inv τ) (hW : WF τ) {a : Int} (ha : 0 ≤ a ∧ a < τ 3 3) (hex : ¬ τ 5 a.toNat = 0) {q : Nat}
    (fr : ∀ y, (y < 139 ∨ 199 ≤ y) → y ≠ 59 + 2 * a.toNat → y ≠ 59 + 2 * a.toNat + 1 → y ≠ 0 → y ≠ 13 → τ' y = τ y) (f13 : ∀ k, k ≠ 8 → τ' 13 k = τ 13 k) (hcp : Cp τ τ' (59 + 2 * a.toNat) q)
    (hn : f_X7_findAlike τ q a = -1) (hu : ∀ f : Nat, (f : Int) ≠ a → UW τ f → UW τ' f) (hp : NmOK τ q ∨ (SpOK τ q a ∧ UW τ' a.toNat)) : Inv τ' := by
  have b := bd_3_3 hW
  have e3 := fr 3 (by omega) (by omega) (by omega) (by omega) (by omega)
  have e5 := fr 5 (by omega) (by omega) (by omega) (by omega) (by omega)
  have no := findAlike_none hW (d := q) a 41 0 (by omega) (by omega) hn
  have hc : ∀ c, 199 ≤ c → τ' c = τ c := fun c hc => fr c (by omega) (by omega) (by omega) (by omega) (by omega)
  refine ⟨fun f hf he => ?_, fun f g hf hg hfg he hk => ?_, fun i hi => ?_⟩
  · rw [e3] at hf
    rw [e5] at he
    by_cases w : f = a.toNat
    · subst w
      rcases hp with z | z
      · exact Or.inl (hcp.nm z)
      · refine Or.inr ⟨?_, z.2⟩
        rw [show ((a.toNat : Nat) : Int) = a by omega]
        exact hcp.sp z.1
    · have p0 := fr (59 + 2 * f) (by omega) (by omega) (by omega) (by omega) (by omega)
      have p1 := fr (59 + 2 * f + 1) (by omega) (by omega) (by omega) (by omega) (by omega)
      rcases h.1 f hf he with z | z
      · exact Or.inl (z.mv p0 p1)
      · exact Or.inr ⟨z.1.mv p0 p1, hu f (by omega) z.2⟩
  · rw [e3] at hf hg
    rw [e5] at he hk
    rw [e3]
    by_cases w : f = a.toNat
    · subst w
      intro z
      have p0 := fr (59 + 2 * g) (by omega) (by omega) (by omega) (by omega) (by omega)
      have p1 := fr (59 + 2 * g + 1) (by omega) (by omega) (by omega) (by omega) (by omega)
      exact no g (by omega) hg (by omega) hk (hcp.al p0 p1 z.sy)
    · have p0 := fr (59 + 2 * f) (by omega) (by omega) (by omega) (by omega) (by omega)
      have p1 := fr (59 + 2 * f + 1) (by omega) (by omega) (by omega) (by omega) (by omega)
      by_cases w2 : g = a.toNat
      · subst w2
        intro z
        exact no f (by omega) hf (by omega) he (hcp.al p0 p1 z)
      · have p2 := fr (59 + 2 * g) (by omega) (by omega) (by omega) (by omega) (by omega)
        have p3 := fr (59 + 2 * g + 1) (by omega) (by omega) (by omega) (by omega) (by omega)
        rw [AlX.mv p0 p1 p2 p3]
        exact h.2.1 f g hf hg hfg he hk
  · rw [f13 7 (by decide)] at hi
    exact (h.2.2 i hi).mv hW (f13 7 (by decide)) (fr 15 (by omega) (by omega) (by omega) (by omega) (by omega)) (fr 16 (by omega) (by omega) (by omega) (by omega) (by omega)) (fr 17 (by omega) (by omega) (by omega) (by omega) (by omega)) hc
/-- the parts of the relation that a file's going leaves -/
theorem move_Sim {τ ρ : Sg} (h : Sim τ ρ) (hW : WF τ) {a : Int} (ha : 0 ≤ a ∧ a < τ 3 3) {q r : Nat} (hr : 70 ≤ r) (hq : q = 57 ∨ (199 ≤ q ∧ q < 439 ∧ q % 2 = 1)) (hq1 : PE τ ρ q r) : Sim (f_X9_move τ a q) (f_X10_goesTo ρ a (r : Int)) := by
  have b := bd_3_3 hW
  obtain ⟨s1, s2, s3, s4, -⟩ := move_sim h.2.1 h.2.2.1 hW ha hr hq hq1
  have gc : ∀ x, x ≠ 29 → x ≠ 30 → x ≠ 31 → (f_X10_goesTo ρ a (r : Int)) x = ρ x := fun x u v w => goesTo_fr ρ a _ u v w
  have g28 := gc 28 (by decide) (by decide) (by decide)
  have e0 := s3 0 (by omega) (by omega) (by omega)
  obtain ⟨t1, t2, t3, t4, t5⟩ := h
  exact ⟨t1.mv (s3 1 (by omega) (by omega) (by omega)) (s3 2 (by omega) (by omega) (by omega)) (by rw [g28]) (gc 33 (by decide) (by decide) (by decide)), s1, s2,
    t4.mv (by rw [e0]) (by rw [e0]) (by rw [e0]) (by rw [e0]) (fun c u v => s3 c (by omega) (by omega) (by omega)) (by rw [g28]) (by rw [g28]) (by rw [g28]) (gc 34 (by decide) (by decide) (by decide)) (gc 35 (by decide) (by decide) (by decide)) (gc 36 (by decide) (by decide) (by decide)),
    t5.mv hW (s3 13 (by omega) (by omega) (by omega)) (by rw [e0]) (s3 15 (by omega) (by omega) (by omega)) (s3 16 (by omega) (by omega) (by omega)) (s3 17 (by omega) (by omega) (by omega)) (fun c u => s3 c (by omega) (by omega) (by omega)) (by rw [g28]) (by rw [g28]) (by rw [g28]) (by rw [g28]) (by rw [g28]) (by rw [g28]; omega) (fun x u v => gc x (by omega) (by omega) (by omega)) (fun k u v => s4 k (by omega))⟩
theorem s_hand {τ ρ : Sg} (h : Sim τ ρ) (hV : Inv τ) (hW : WF τ) (a b : Int) : (f_X9_hand τ a b).1 = (f_X10_hand ρ a b).1 ∧ Sim (f_X9_hand τ a b).2 (f_X10_hand ρ a b).2 ∧ Inv (f_X9_hand τ a b).2 := by
  have ht := Sim.thr h hW 0
  have hs := take_Sim ht hW b
  obtain ⟨e1, e01, -, -, -, e6⟩ := take_sim ht.1 hW b
  have hi := take_Inv hV hW b
  have hw := WF_take hW b
  unfold f_X9_hand f_X10_hand
  rw [← e1]
  generalize hT : (f_X9_takePlace τ b).2 = T at hs e6 hi hw ⊢
  generalize hP : (f_X10_takes (up2 ρ 28 0 0) b).2 = P at hs e6 ⊢
  by_cases h1 : (f_X9_takePlace τ b).1 = 0
  · rw [if_pos h1, if_pos h1]
    exact ⟨rfl, hs, hi⟩
  · have e2 : (f_X9_takePlace τ b).1 = 1 := by
      rcases e01 with w | w
      · exact absurd w h1
      · exact w
    obtain ⟨pe, k1, k2, k3, k4⟩ := e6 e2
    rw [if_neg h1, if_neg h1, ← has_sim hs.2.1 hw a]
    by_cases h2 : f_X7_has T a = 0
    · rw [if_pos h2, if_pos h2]
      exact ⟨rfl, hs, hi⟩
    · rw [if_neg h2, if_neg h2]
      obtain ⟨r1, r2, r3⟩ := has_1 h2
      have fa := findAlike_sim hs.2.1 hw pe a
      rw [show ((70 : Nat) : Int) = 70 by decide] at fa
      rw [← fa]
      by_cases h3 : f_X7_findAlike T 57 a = -1
      · rw [if_pos h3, if_pos h3]
        obtain ⟨s1, s2, s3, s4, s5⟩ := move_sim hs.2.1 hs.2.2.1 hw ⟨r1, r2⟩ (show 70 ≤ 70 by omega) (Or.inl rfl) pe
        have b3 := bd_3_3 hw
        refine ⟨rfl, move_Sim hs hw ⟨r1, r2⟩ (show 70 ≤ 70 by omega) (Or.inl rfl) pe, move_Inv hi hw ⟨r1, r2⟩ r3 (fun y u v w _ _ => s3 y u v w) (fun k _ => by dsimp only; rw [s3 13 (by omega) (by omega) (by omega)]) s5 h3 (fun f _ z => ?_) (Or.inl ⟨k3.1, k4⟩)⟩
        have e13 := s3 13 (by omega) (by omega) (by omega)
        exact z.mv (by dsimp only; rw [e13]) (by dsimp only; rw [e13]) (s3 15 (by omega) (by omega) (by omega)) (s3 16 (by omega) (by omega) (by omega)) (s3 17 (by omega) (by omega) (by omega)) (fun c u => s3 c (by omega) (by omega) (by omega))
      · rw [if_neg h3, if_neg h3]
        exact ⟨rfl, hs, hi⟩
theorem s_link {τ ρ : Sg} (h : Sim τ ρ) (hV : Inv τ) (hW : WF τ) (a : Int) : (f_X9_link τ a).1 = (f_X10_link ρ a).1 ∧ Sim (f_X9_link τ a).2 (f_X10_link ρ a).2 ∧ Inv (f_X9_link τ a).2 := by
  have ht := Sim.thr h hW 0
  have hs := take_Sim ht hW a
  obtain ⟨e1, e01, -, -, -, e6⟩ := take_sim ht.1 hW a
  have hi := take_Inv hV hW a
  have hw := WF_take hW a
  unfold f_X9_link f_X10_link
  rw [← e1]
  generalize hT : (f_X9_takePlace τ a).2 = T at hs e6 hi hw ⊢
  generalize hP : (f_X10_takes (up2 ρ 28 0 0) a).2 = P at hs e6 ⊢
  by_cases h1 : (f_X9_takePlace τ a).1 = 0
  · rw [if_pos h1, if_pos h1]
    exact ⟨rfl, hs, hi⟩
  · have e2 : (f_X9_takePlace τ a).1 = 1 := by
      rcases e01 with w | w
      · exact absurd w h1
      · exact w
    obtain ⟨pe, k1, k2, k3, k4⟩ := e6 e2
    rw [if_neg h1, if_neg h1]
    have b7 := bd_7_1 hw
    have l1 := hs.2.2.1.1
    unfold f_X1_isFull
    by_cases h2 : T 7 1 < 30
    · rw [if_pos h2, if_pos rfl, if_neg (show ¬ P 28 7 = 30 by omega)]
      unfold f_X1_add
      have bl := bd_Pl_2 hw (c := 57) (by omega)
      generalize hn : (T 7 1).toNat = n
      have bS : ∀ y : Nat, y ≠ 139 + 2 * n → y ≠ 139 + 2 * n + 1 → (f_X2_become T (139 + 2 * n) 57) y = T y := fun y u v => become_fr T _ 57 u v
      have s30 : P 30 ((70 : Int)).toNat ≤ 12 := by
        show P 30 70 ≤ 12
        rw [← pe.2.1]; exact bl.2
      have cS : ∀ k : Nat, k ≠ (40 + P 28 7).toNat → RowS P (f_X10_copies P 70 (40 + P 28 7)) k := fun k hk => copies_S (by omega) (by omega) (by omega) s30 hk
      have cf : ∀ x, x ≠ 29 → x ≠ 30 → x ≠ 31 → (f_X10_copies P 70 (40 + P 28 7)) x = P x := fun x u v w => copies_fr P _ _ u v w
      have hcp := PE.cp (c := 139 + 2 * n) (t := 40 + P 28 7) pe (by omega) (by omega) (by omega) bl.1 bl.2 (by omega) (by omega)
      rw [show ((70 : Nat) : Int) = 70 by decide, show (40 + P 28 7).toNat = 40 + n by omega] at hcp
      rw [bS 7 (by omega) (by omega), cf 28 (by decide) (by decide) (by decide)]
      dsimp only
      have hc : ∀ y : Nat, y ≠ 7 → y ≠ 139 + 2 * n → y ≠ 139 + 2 * n + 1 → (up2 (f_X2_become T (139 + 2 * n) 57) 7 1 (T 7 1 + 1)) y = T y := fun y u v w => by rw [up2_cell _ _ _ u, bS y v w]
      have gs : ∀ k, k ≠ 7 → (up2 (f_X10_copies P 70 (40 + P 28 7)) 28 7 (P 28 7 + 1)) 28 k = P 28 k := fun k hk => by rw [up2_slot _ _ hk, cf 28 (by decide) (by decide) (by decide)]
      have gc : ∀ x, x ≠ 28 → x ≠ 29 → x ≠ 30 → x ≠ 31 → (up2 (f_X10_copies P 70 (40 + P 28 7)) 28 7 (P 28 7 + 1)) x = P x := fun x u0 u v w => by rw [up2_cell _ _ _ u0, cf x u v w]
      have gr : ∀ r, RowS (f_X10_copies P 70 (40 + P 28 7)) (up2 (f_X10_copies P 70 (40 + P 28 7)) 28 7 (P 28 7 + 1)) r := fun r => RowS.of (up2_cell _ _ _ (by decide)) (up2_cell _ _ _ (by decide)) (up2_cell _ _ _ (by decide)) r
      have hr : ∀ r, r ≠ 40 + n → RowS P (up2 (f_X10_copies P 70 (40 + P 28 7)) 28 7 (P 28 7 + 1)) r := fun r hr => (cS r (by omega)).tr (gr r)
      obtain ⟨t1, t2, t3, t4, t5⟩ := hs
      refine ⟨by omega, ⟨t1.mv (hc 1 (by omega) (by omega) (by omega)) (hc 2 (by omega) (by omega) (by omega)) (gs 9 (by decide)) (gc 33 (by decide) (by decide) (by decide) (by decide)),
        t2.mv hw (hc 3 (by omega) (by omega) (by omega)) (hc 5 (by omega) (by omega) (by omega)) (fun c u v => hc c (by omega) (by omega) (by omega)) (gs 5 (by decide)) (gs 4 (by decide)) (gc 32 (by decide) (by decide) (by decide) (by decide)) (fun r hr' => hr r (by omega)), ⟨?_, fun k hk => ?_⟩,
        t4.mv (by rw [hc 0 (by omega) (by omega) (by omega)]) (by rw [hc 0 (by omega) (by omega) (by omega)]) (by rw [hc 0 (by omega) (by omega) (by omega)]) (by rw [hc 0 (by omega) (by omega) (by omega)]) (fun c u v => hc c (by omega) (by omega) (by omega)) (gs 10 (by decide)) (gs 11 (by decide)) (gs 20 (by decide)) (gc 34 (by decide) (by decide) (by decide) (by decide)) (gc 35 (by decide) (by decide) (by decide) (by decide)) (gc 36 (by decide) (by decide) (by decide) (by decide)),
        t5.mv hw (hc 13 (by omega) (by omega) (by omega)) (by rw [hc 0 (by omega) (by omega) (by omega)]) (hc 15 (by omega) (by omega) (by omega)) (hc 16 (by omega) (by omega) (by omega)) (hc 17 (by omega) (by omega) (by omega)) (fun c u => hc c (by omega) (by omega) (by omega)) (gs 25 (by decide)) (gs 26 (by decide)) (gs 33 (by decide)) (gs 34 (by decide)) (gs 35 (by decide)) (by rw [gs 5 (by decide)]; omega) (fun x u v => gc x (by omega) (by omega) (by omega) (by omega)) (fun r u v => hr r (by omega))⟩,
        hi.mv hw (by rw [hc 3 (by omega) (by omega) (by omega)]) (by rw [hc 3 (by omega) (by omega) (by omega)]) (hc 5 (by omega) (by omega) (by omega)) (fun c u v => hc c (by omega) (by omega) (by omega)) (by rw [hc 13 (by omega) (by omega) (by omega)]) (by rw [hc 13 (by omega) (by omega) (by omega)]) (hc 15 (by omega) (by omega) (by omega)) (hc 16 (by omega) (by omega) (by omega)) (hc 17 (by omega) (by omega) (by omega)) (fun c u => hc c (by omega) (by omega) (by omega))⟩
      · rw [up2_same, up2_same]; omega
      · rw [up2_same] at hk
        by_cases w : k = n
        · subst w
          have bb := become_row (σ := T) (c := 139 + 2 * k) (d := 57) (by omega) (by omega) (by omega) bl.1 bl.2
          exact hcp.mv (by rw [bb.2.1]; exact bl.2) ⟨up2_cell _ _ _ (by omega), up2_cell _ _ _ (by omega)⟩ (gr _)
        · exact (t3.2 k (by omega)).mv (bd_Pl_2 hw (by omega)).2 ⟨hc _ (by omega) (by omega) (by omega), hc _ (by omega) (by omega) (by omega)⟩ (hr _ (by omega))
    · rw [if_neg h2, if_neg (show ¬ (1 : Int) = 0 by decide), if_pos (show P 28 7 = 30 by omega)]
      exact ⟨rfl, hs, hi⟩
theorem s_file {τ ρ : Sg} (h : Sim τ ρ) (hV : Inv τ) (hW : WF τ) (a : Int) : (f_X9_file τ a).1 = (f_X10_file ρ a).1 ∧ Sim (f_X9_file τ a).2 (f_X10_file ρ a).2 ∧ Inv (f_X9_file τ a).2 := by
  have ht := Sim.thr h hW 0
  have hs := take_Sim ht hW a
  obtain ⟨e1, e01, -, -, -, e6⟩ := take_sim ht.1 hW a
  have hi := take_Inv hV hW a
  have hw := WF_take hW a
  unfold f_X9_file f_X10_file
  rw [← e1]
  generalize hT : (f_X9_takePlace τ a).2 = T at hs e6 hi hw ⊢
  generalize hP : (f_X10_takes (up2 ρ 28 0 0) a).2 = P at hs e6 ⊢
  by_cases h1 : (f_X9_takePlace τ a).1 = 0
  · rw [if_pos h1, if_pos h1]
    exact ⟨rfl, hs, hi⟩
  · have e2 : (f_X9_takePlace τ a).1 = 1 := by
      rcases e01 with w | w
      · exact absurd w h1
      · exact w
    obtain ⟨pe, k1, k2, k3, k4⟩ := e6 e2
    rw [if_neg h1, if_neg h1]
    have b3 := bd_3_3 hw
    have l1 := hs.2.1.1
    unfold f_X7_isFull
    by_cases h2 : T 3 3 < 40
    · rw [if_pos h2, if_pos rfl, if_neg (show ¬ P 28 5 = 40 by omega)]
      have fa := findAlike_sim hs.2.1 hw pe (-1)
      rw [show ((70 : Nat) : Int) = 70 by decide] at fa
      rw [← fa]
      by_cases h3 : f_X7_findAlike T 57 (-1) = -1
      · rw [if_pos h3, if_pos h3]
        have no := findAlike_none hw (d := 57) (-1) 41 0 (by omega) (by omega) h3
        unfold f_X7_add
        have bl := bd_Pl_2 hw (c := 57) (by omega)
        generalize hn : (T 3 3).toNat = n
        have bS : ∀ y : Nat, y ≠ 59 + 2 * n → y ≠ 59 + 2 * n + 1 → (f_X2_become T (59 + 2 * n) 57) y = T y := fun y u v => become_fr T _ 57 u v
        have bb : Cp T (f_X2_become T (59 + 2 * n) 57) (59 + 2 * n) 57 := become_row (σ := T) (c := 59 + 2 * n) (d := 57) (by omega) (by omega) (by omega) bl.1 bl.2
        have s30 : P 30 ((70 : Int)).toNat ≤ 12 := by
          show P 30 70 ≤ 12
          rw [← pe.2.1]; exact bl.2
        have cS : ∀ k : Nat, k ≠ (P 28 5).toNat → RowS P (f_X10_copies P 70 (P 28 5)) k := fun k hk => copies_S (by omega) (by omega) (by omega) s30 hk
        have cf : ∀ x, x ≠ 29 → x ≠ 30 → x ≠ 31 → (f_X10_copies P 70 (P 28 5)) x = P x := fun x u v w => copies_fr P _ _ u v w
        have hcp := PE.cp (c := 59 + 2 * n) (t := P 28 5) pe (by omega) (by omega) (by omega) bl.1 bl.2 (by omega) (by omega)
        rw [show ((70 : Nat) : Int) = 70 by decide, show (P 28 5).toNat = n by omega] at hcp
        rw [bS 3 (by omega) (by omega), cf 28 (by decide) (by decide) (by decide), show (P 28 5).toNat = n by omega]
        dsimp only
        have hc : ∀ y : Nat, y ≠ 3 → y ≠ 5 → y ≠ 59 + 2 * n → y ≠ 59 + 2 * n + 1 → (up2 (up2 (up2 (f_X2_become T (59 + 2 * n) 57) 5 n 1) 3 3 (T 3 3 + 1)) 3 4 (T 3 4 + 1)) y = T y := fun y u u' v w => by rw [up2_cell _ _ _ u, up2_cell _ _ _ u, up2_cell _ _ _ u', bS y v w]
        have hpn : ∀ y : Nat, y ≠ 3 → y ≠ 5 → (up2 (up2 (up2 (f_X2_become T (59 + 2 * n) 57) 5 n 1) 3 3 (T 3 3 + 1)) 3 4 (T 3 4 + 1)) y = (f_X2_become T (59 + 2 * n) 57) y := fun y u u' => by rw [up2_cell _ _ _ u, up2_cell _ _ _ u, up2_cell _ _ _ u']
        have h33 : (up2 (up2 (up2 (f_X2_become T (59 + 2 * n) 57) 5 n 1) 3 3 (T 3 3 + 1)) 3 4 (T 3 4 + 1)) 3 3 = T 3 3 + 1 := by rw [up2_slot _ _ (by decide), up2_same]
        have h35 : (up2 (up2 (up2 (f_X2_become T (59 + 2 * n) 57) 5 n 1) 3 3 (T 3 3 + 1)) 3 4 (T 3 4 + 1)) 3 5 = T 3 5 := by rw [up2_slot _ _ (by decide), up2_slot _ _ (by decide), up2_cell _ _ _ (by decide), bS 3 (by omega) (by omega)]
        have h5 : (up2 (up2 (up2 (f_X2_become T (59 + 2 * n) 57) 5 n 1) 3 3 (T 3 3 + 1)) 3 4 (T 3 4 + 1)) 5 = fun i => if i = n then 1 else T 5 i := by rw [up2_cell _ _ _ (by decide), up2_cell _ _ _ (by decide), up2_row, bS 5 (by omega) (by omega)]
        have h34 : (up2 (up2 (up2 (f_X2_become T (59 + 2 * n) 57) 5 n 1) 3 3 (T 3 3 + 1)) 3 4 (T 3 4 + 1)) 3 4 = T 3 4 + 1 := up2_same _ _ _ _
        generalize (up2 (up2 (up2 (f_X2_become T (59 + 2 * n) 57) 5 n 1) 3 3 (T 3 3 + 1)) 3 4 (T 3 4 + 1)) = T' at hc hpn h33 h35 h5 h34 ⊢
        have gs : ∀ k, k ≠ 5 → (up2 (up2 (f_X10_copies P 70 (P 28 5)) 32 n 1) 28 5 (P 28 5 + 1)) 28 k = P 28 k := fun k hk => by rw [up2_slot _ _ hk, up2_cell _ _ _ (by decide), cf 28 (by decide) (by decide) (by decide)]
        have gs5 : (up2 (up2 (f_X10_copies P 70 (P 28 5)) 32 n 1) 28 5 (P 28 5 + 1)) 28 5 = P 28 5 + 1 := up2_same _ _ _ _
        have gc : ∀ x, x ≠ 28 → x ≠ 29 → x ≠ 30 → x ≠ 31 → x ≠ 32 → (up2 (up2 (f_X10_copies P 70 (P 28 5)) 32 n 1) 28 5 (P 28 5 + 1)) x = P x := fun x u0 u v w u5 => by rw [up2_cell _ _ _ u0, up2_cell _ _ _ u5, cf x u v w]
        have g32 : (up2 (up2 (f_X10_copies P 70 (P 28 5)) 32 n 1) 28 5 (P 28 5 + 1)) 32 = fun i => if i = n then 1 else P 32 i := by rw [up2_cell _ _ _ (by decide), up2_row, cf 32 (by decide) (by decide) (by decide)]
        have gr : ∀ r, RowS (f_X10_copies P 70 (P 28 5)) (up2 (up2 (f_X10_copies P 70 (P 28 5)) 32 n 1) 28 5 (P 28 5 + 1)) r := fun r => RowS.of (by rw [up2_cell _ _ _ (by decide), up2_cell _ _ _ (by decide)]) (by rw [up2_cell _ _ _ (by decide), up2_cell _ _ _ (by decide)]) (by rw [up2_cell _ _ _ (by decide), up2_cell _ _ _ (by decide)]) r
        have hr : ∀ r, r ≠ n → RowS P (up2 (up2 (f_X10_copies P 70 (P 28 5)) 32 n 1) 28 5 (P 28 5 + 1)) r := fun r hr => (cS r (by omega)).tr (gr r)
        generalize (up2 (up2 (f_X10_copies P 70 (P 28 5)) 32 n 1) 28 5 (P 28 5 + 1)) = P' at gs gs5 gc g32 gr hr ⊢
        have bC : Cp T T' (59 + 2 * n) 57 := by
          unfold Cp
          rw [hpn _ (by omega) (by omega), hpn (59 + 2 * n + 1) (by omega) (by omega)]
          exact bb
        obtain ⟨t1, t2, t3, t4, t5⟩ := hs
        refine ⟨by omega, ⟨t1.mv (hc 1 (by omega) (by omega) (by omega) (by omega)) (hc 2 (by omega) (by omega) (by omega) (by omega)) (gs 9 (by decide)) (gc 33 (by decide) (by decide) (by decide) (by decide) (by decide)),
          ⟨by omega, by rw [h35, gs 4 (by decide)]; exact t2.2.1, fun f hf => ?_, fun f hf => ?_, ?_⟩,
          t3.mv hw (hc 7 (by omega) (by omega) (by omega) (by omega)) (fun c u v => hc c (by omega) (by omega) (by omega) (by omega)) (gs 7 (by decide)) (fun r u v => hr r (by omega)),
          t4.mv (by rw [hc 0 (by omega) (by omega) (by omega) (by omega)]) (by rw [hc 0 (by omega) (by omega) (by omega) (by omega)]) (by rw [hc 0 (by omega) (by omega) (by omega) (by omega)]) (by rw [hc 0 (by omega) (by omega) (by omega) (by omega)]) (fun c u v => hc c (by omega) (by omega) (by omega) (by omega)) (gs 10 (by decide)) (gs 11 (by decide)) (gs 20 (by decide)) (gc 34 (by decide) (by decide) (by decide) (by decide) (by decide)) (gc 35 (by decide) (by decide) (by decide) (by decide) (by decide)) (gc 36 (by decide) (by decide) (by decide) (by decide) (by decide)),
          t5.mv hw (hc 13 (by omega) (by omega) (by omega) (by omega)) (by rw [hc 0 (by omega) (by omega) (by omega) (by omega)]) (hc 15 (by omega) (by omega) (by omega) (by omega)) (hc 16 (by omega) (by omega) (by omega) (by omega)) (hc 17 (by omega) (by omega) (by omega) (by omega)) (fun c u => hc c (by omega) (by omega) (by omega) (by omega)) (gs 25 (by decide)) (gs 26 (by decide)) (gs 33 (by decide)) (gs 34 (by decide)) (gs 35 (by decide)) (by rw [gs5]; omega) (fun x u v => gc x (by omega) (by omega) (by omega) (by omega) (by omega)) (fun r u v => hr r (by omega))⟩,
          fun f hf he => ?_, fun f g hf hg hfg he hk => ?_, fun i hi' => ?_⟩
        · rw [h33] at hf
          rw [h5, g32]
          dsimp only
          split
          · rfl
          · exact t2.2.2.1 f (by omega)
        · rw [h33] at hf
          by_cases w : f = n
          · subst w
            exact hcp.mv (by rw [bb.2.1]; exact bl.2) ⟨hpn _ (by omega) (by omega), hpn _ (by omega) (by omega)⟩ (gr _)
          · exact (t2.2.2.2.1 f (by omega)).mv (bd_Pl_2 hw (by omega)).2 ⟨hc _ (by omega) (by omega) (by omega) (by omega), hc _ (by omega) (by omega) (by omega) (by omega)⟩ (hr _ (by omega))
        · rw [h34, h33, h5, show (T 3 3 + 1).toNat = n + 1 by omega]
          simp only [sm]
          rw [if_pos trivial, t2.2.2.2.2, hn]
          congr 1
          exact sm_congr (fun i hi => by rw [if_neg (by omega)])
        · rw [h33] at hf
          by_cases w : f = n
          · subst w
            exact Or.inl (bC.nm ⟨k3.1, k4⟩)
          · have he' : ¬ T 5 f = 0 := by
              rw [h5] at he
              dsimp only at he
              rw [if_neg w] at he
              exact he
            rcases hi.1 f (by omega) he' with z | z
            · exact Or.inl (z.mv (hc _ (by omega) (by omega) (by omega) (by omega)) (hc _ (by omega) (by omega) (by omega) (by omega)))
            · exact Or.inr ⟨z.1.mv (hc _ (by omega) (by omega) (by omega) (by omega)) (hc _ (by omega) (by omega) (by omega) (by omega)), z.2.mv (by rw [hc 13 (by omega) (by omega) (by omega) (by omega)]) (by rw [hc 13 (by omega) (by omega) (by omega) (by omega)]) (hc 15 (by omega) (by omega) (by omega) (by omega)) (hc 16 (by omega) (by omega) (by omega) (by omega)) (hc 17 (by omega) (by omega) (by omega) (by omega)) (fun c u => hc c (by omega) (by omega) (by omega) (by omega))⟩
        · rw [h33] at hf hg
          rw [h35]
          rw [h5] at he hk
          dsimp only at he hk
          by_cases w : f = n
          · subst w
            intro z
            rw [if_neg (Ne.symm hfg)] at hk
            exact no g (by omega) (by omega) (by omega) hk (bC.al (hc _ (by omega) (by omega) (by omega) (by omega)) (hc _ (by omega) (by omega) (by omega) (by omega)) z.sy)
          · rw [if_neg w] at he
            by_cases w2 : g = n
            · subst w2
              intro z
              exact no f (by omega) (by omega) (by omega) he (bC.al (hc _ (by omega) (by omega) (by omega) (by omega)) (hc _ (by omega) (by omega) (by omega) (by omega)) z)
            · rw [if_neg w2] at hk
              rw [AlX.mv (hc _ (by omega) (by omega) (by omega) (by omega)) (hc _ (by omega) (by omega) (by omega) (by omega)) (hc _ (by omega) (by omega) (by omega) (by omega)) (hc _ (by omega) (by omega) (by omega) (by omega))]
              exact hi.2.1 f g (by omega) (by omega) hfg he hk
        · rw [hc 13 (by omega) (by omega) (by omega) (by omega)] at hi'
          exact (hi.2.2 i hi').mv hw (by rw [hc 13 (by omega) (by omega) (by omega) (by omega)]) (hc 15 (by omega) (by omega) (by omega) (by omega)) (hc 16 (by omega) (by omega) (by omega) (by omega)) (hc 17 (by omega) (by omega) (by omega) (by omega)) (fun c u => hc c (by omega) (by omega) (by omega) (by omega))
      · rw [if_neg h3, if_neg h3]
        exact ⟨rfl, hs, hi⟩
    · rw [if_neg h2, if_neg (show ¬ (1 : Int) = 0 by decide), if_pos (show P 28 5 = 40 by omega)]
      exact ⟨rfl, hs, hi⟩
