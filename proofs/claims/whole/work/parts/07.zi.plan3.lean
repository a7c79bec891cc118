/-- what a plan leaves as it was -/
def PFr (τ ρ T P : Sg) : Prop := (∀ x, x < 199 → x ≠ 6 → (x < 10 ∨ 17 < x) → T x = τ x) ∧ (∀ x, 32 ≤ x → x < 40 → P x = ρ x) ∧ (∀ j, j ≠ 0 → j ≠ 25 → j ≠ 26 → j ≠ 33 → j ≠ 34 → P 28 j = ρ 28 j) ∧ (∀ r, r < 70 → RowS ρ P r)
theorem plan_fin {τ ρ T P : Sg} (h : Sim τ ρ) (hV : Inv τ) (hW : WF τ) (hN : ∀ f : Nat, (f : Int) < τ 3 3 → ¬ τ 5 f = 0 → NmOK τ (59 + 2 * f)) (hf : PFr τ ρ T P) (hP : SimP T P) (hO : ∀ i : Nat, (i : Int) < T 13 7 → StOK T i) : Sim T P ∧ Inv T := by
  obtain ⟨g1, g2, g3, g4⟩ := hf
  have b3 := bd_3_3 hW
  have e3 : T 3 = τ 3 := g1 3 (by decide) (by decide) (by decide)
  have e5 : T 5 = τ 5 := g1 5 (by decide) (by decide) (by decide)
  have e0 : T 0 = τ 0 := g1 0 (by decide) (by decide) (by decide)
  refine ⟨⟨h.1.mv (g1 1 (by decide) (by decide) (by decide)) (g1 2 (by decide) (by decide) (by decide)) (g3 9 (by decide) (by decide) (by decide) (by decide) (by decide)) (g2 33 (by decide) (by decide)),
    h.2.1.mv hW e3 e5 (fun c a b => g1 c (by omega) (by omega) (by omega)) (g3 5 (by decide) (by decide) (by decide) (by decide) (by decide)) (g3 4 (by decide) (by decide) (by decide) (by decide) (by decide)) (g2 32 (by decide) (by decide)) (fun r hr => g4 r (by omega)),
    h.2.2.1.mv hW (g1 7 (by decide) (by decide) (by decide)) (fun c a b => g1 c (by omega) (by omega) (by omega)) (g3 7 (by decide) (by decide) (by decide) (by decide) (by decide)) (fun r a b => g4 r b),
    h.2.2.2.1.mv (by rw [e0]) (by rw [e0]) (by rw [e0]) (by rw [e0]) (fun c a b => g1 c (by omega) (by omega) (by omega)) (g3 10 (by decide) (by decide) (by decide) (by decide) (by decide)) (g3 11 (by decide) (by decide) (by decide) (by decide) (by decide)) (g3 20 (by decide) (by decide) (by decide) (by decide) (by decide)) (g2 34 (by decide) (by decide)) (g2 35 (by decide) (by decide)) (g2 36 (by decide) (by decide)), hP⟩, ⟨fun f hf he => ?_, fun f g hf hg hne he hk => ?_, hO⟩⟩
  · rw [e3] at hf
    rw [e5] at he
    exact Or.inl ((hN f hf he).mv (g1 _ (by omega) (by omega) (by omega)) (g1 _ (by omega) (by omega) (by omega)))
  · rw [e3] at hf hg ⊢
    rw [e5] at he hk
    rw [AlX.mv (g1 _ (by omega) (by omega) (by omega)) (g1 _ (by omega) (by omega) (by omega)) (g1 _ (by omega) (by omega) (by omega)) (g1 _ (by omega) (by omega) (by omega))]
    exact hV.2.1 f g hf hg hne he hk
/-- a plan whose steps are being found, from the entries on -/
theorem plan_steps {τ ρ0 ρ T P : Sg} {m : Nat} {a0 a1 a2 a3 a4 : Int} (h : Sim τ ρ0) (hV : Inv τ) (hW : WF τ) (hM : WF ρ) (hN : ∀ f : Nat, (f : Int) < τ 3 3 → ¬ τ 5 f = 0 → NmOK τ (59 + 2 * f))
    (r1 : ∀ x, x ≠ 28 → ρ x = ρ0 x) (r2 : ∀ j, j ≠ 0 → j ≠ 25 → j ≠ 26 → j ≠ 34 → ρ 28 j = ρ0 28 j) (r25 : ρ 28 25 = 1) (r34 : ρ 28 34 = 0)
    {τ1 : Sg} (t1 : ∀ x, x ≠ 13 → τ1 x = τ x) (t4 : τ1 13 4 = 1) (t6 : τ1 13 6 = 0) (t7 : τ1 13 7 = 0) (t8 : τ1 13 8 = 0) (hW1 : WF τ1) (hS1 : SimS τ1 ρ) (en : EN ρ a1 a2 a3 τ1 T P m) :
    Sim (f_X3_findSteps (f_X3_findTroubles T)) (f_X10_findSteps (L_X10_plan_297 a0 a1 a2 a3 a4 41 0 P)) ∧ Inv (f_X3_findSteps (f_X3_findTroubles T)) ∧ (f_X3_findSteps (f_X3_findTroubles T)) 13 5 = (m : Int) ∧ (f_X10_findSteps (L_X10_plan_297 a0 a1 a2 a3 a4 41 0 P)) 28 26 = (m : Int) := by
  have b3 := bd_3_3 hW
  have u3 : τ1 3 = τ 3 := t1 3 (by decide)
  have u5 : τ1 5 = τ 5 := t1 5 (by decide)
  have hU1 : ∀ f g : Nat, (f : Int) < τ1 3 3 → (g : Int) < τ1 3 3 → f ≠ g → ¬ τ1 5 f = 0 → ¬ τ1 5 g = 0 → ¬ AlX τ1 (59 + 2 * f) (59 + 2 * g) (τ1 3 5) := fun f g hf hg hne he hk => by
    rw [u3] at hf hg ⊢
    rw [u5] at he hk
    rw [AlX.mv (t1 _ (by omega)) (t1 _ (by omega)) (t1 _ (by omega)) (t1 _ (by omega))]
    exact hV.2.1 f g hf hg hne he hk
  obtain ⟨tl0, o1, o2⟩ := plan_TL hS1 hW1 hU1 t6 en
  obtain ⟨n1, n2, n3, n4, n5, n6, n7, n8, n9, n10⟩ := en
  have tr := troubles_loop n1 a0 a1 a2 a3 a4 41 0 (L_X3_findTroubles_2 41 0 T) P (by omega) (by omega) tl0
  rw [show ((0 : Nat) : Int) = 0 by decide] at tr
  unfold f_X3_findTroubles
  generalize L_X3_findTroubles_2 41 0 T = T2 at o1 o2 tr ⊢
  clear tl0
  generalize L_X3_findTroubles_27 41 0 T2 = T3 at tr ⊢
  generalize L_X10_plan_297 a0 a1 a2 a3 a4 41 0 P = P3 at tr ⊢
  obtain ⟨⟨s3, sb3, e23, h35, h326, hg3, hd3, -, h36, hfa3⟩, tf, p3⟩ := tr
  -- frames up to here
  have T3c : ∀ x, x < 439 → x ≠ 13 → T3 x = T x := fun x a b => (tf.1 x a b).trans (o1 x (by omega))
  have T313 : ∀ j, j ≠ 6 → T3 13 j = T 13 j := fun j hj => by rw [tf.2.1 j hj, o1 13 (by omega)]
  have T3e : ∀ k, k < m → ∀ j, j ≠ 7 → j ≠ 8 → j ≠ 9 → T3 (439 + k) j = T (439 + k) j := fun k hk j a b c => by rw [tf.2.2 k j a b c, o2 k hk j a]
  have T134 : T3 13 4 = 1 := by rw [T313 4 (by decide), n5 4 (by decide), t4]
  have T137 : T3 13 7 = 0 := by rw [T313 7 (by decide), n5 7 (by decide), t7]
  have T138 : T3 13 8 = 0 := by rw [T313 8 (by decide), n5 8 (by decide), t8]
  have P328 : P3 28 = P 28 := p3 28 (by decide) (by decide)
  have T0 : T3 0 = τ 0 := by rw [T3c 0 (by decide) (by decide), n4 0 (by decide) (by decide) (by decide) (by decide) (by decide) (by decide), t1 0 (by decide)]
  -- the rows of the reference that say what has been found
  have l7 := L7_loop 41 0 (up2 P3 28 33 0) (by omega) (by omega) (by omega)
  unfold f_X10_findSteps
  generalize L_X10_findSteps_7 41 0 (up2 P3 28 33 0) = P4 at l7 ⊢
  obtain ⟨l71, l72⟩ := l7
  have P4c : ∀ x, x ≠ 28 → x ≠ 54 → x ≠ 55 → P4 x = P3 x := fun x a b c => by rw [l71 x b c, up2_cell _ _ _ a]
  have P4s : ∀ j, j ≠ 33 → P4 28 j = P3 28 j := fun j hj => by rw [l71 28 (by decide) (by decide), up2_slot _ _ hj]
  have P433 : P4 28 33 = 0 := by rw [l71 28 (by decide) (by decide)]; exact up2_same _ _ _ _
  have P425 : P4 28 25 = 1 := by rw [P4s 25 (by decide), P328, n7 25 (by decide), r25]
  have P426 : P4 28 26 = (m : Int) := by rw [P4s 26 (by decide), h326]
  have P434 : P4 28 34 = 0 := by rw [P4s 34 (by decide), P328, n7 34 (by decide), r34]
  have P435 : P4 28 35 = ρ0 28 35 := by rw [P4s 35 (by decide), P328, n7 35 (by decide), r2 35 (by decide) (by decide) (by decide) (by decide)]
  have trM : f_X10_troubles P4 = sm (cnd P3) m := by
    rw [troublesM_eq n1 (by rw [P425]; decide) P426]
    exact sm_cg (fun i _ => by unfold cnd; rw [P4c 45 (by decide) (by decide) (by decide)])
  have p35 : ρ0 28 35 = τ 0 10 := h.2.2.2.2.2.2.2.2.1.symm
  have rowP : ∀ r, r < 70 → RowS ρ0 P4 r := fun r hr => by
    refine RowS.tr (RowS.of (r1 29 (by decide)) (r1 30 (by decide)) (r1 31 (by decide)) r) (RowS.tr (n8 r (by omega)) (RowS.of ?_ ?_ ?_ r))
    · rw [P4c 29 (by decide) (by decide) (by decide), p3 29 (by decide) (by decide)]
    · rw [P4c 30 (by decide) (by decide) (by decide), p3 30 (by decide) (by decide)]
    · rw [P4c 31 (by decide) (by decide) (by decide), p3 31 (by decide) (by decide)]
  have celP : ∀ x, 32 ≤ x → x < 40 → P4 x = ρ0 x := fun x a b => by rw [P4c x (by omega) (by omega) (by omega), p3 x (by omega) (by omega), n6 x (by omega) (by omega) (by omega), r1 x (by omega)]
  have sltP : ∀ j, j ≠ 0 → j ≠ 25 → j ≠ 26 → j ≠ 33 → j ≠ 34 → P4 28 j = ρ0 28 j := fun j a b c d e => by rw [P4s j d, P328, n7 j c, r2 j a b c e]
  have celT : ∀ x, x < 199 → x ≠ 6 → (x < 10 ∨ 17 < x) → T3 x = τ x := fun x a b c => by rw [T3c x (by omega) (by omega), n4 x a b (by omega) (by omega) (by omega) (by omega), t1 x (by omega)]
  have pdE : ∀ k, k < m → PdE T3 P4 k := fun k hk => by
    obtain ⟨q1, q2, q3, q4, q5, q6, q7⟩ := e23 k hk
    obtain ⟨d1, d2, d3, d4⟩ := hd3 k hk
    refine ⟨?_, ?_, ?_, ?_, ?_, ?_, q6.mv q7.2 ⟨rfl, rfl⟩ (RowS.of (P4c 29 (by decide) (by decide) (by decide)) (P4c 30 (by decide) (by decide) (by decide)) (P4c 31 (by decide) (by decide) (by decide)) _)⟩
    · rw [P4c 42 (by decide) (by decide) (by decide)]; exact q1
    · rw [P4c 43 (by decide) (by decide) (by decide)]; exact q3
    · rw [P4c 44 (by decide) (by decide) (by decide)]; exact q4
    · rw [P4c 47 (by decide) (by decide) (by decide)]; exact q5
    · rw [P4c 45 (by decide) (by decide) (by decide)]; exact d1
    · rw [P4c 46 (by decide) (by decide) (by decide)]; exact d2
  have cn : ∀ i, i < m → 0 ≤ cnd P3 i := fun i _ => by unfold cnd; split <;> omega
  unfold f_X3_findSteps
  rw [trM, h36]
  by_cases c : sm (cnd P3) m ≤ 0
  · rw [if_pos c, if_pos c]
    have all0 : ∀ i, i < m → P3 45 i = 0 := fun i hi => by
      have := (sm_nz cn).2 c i hi
      unfold cnd at this
      by_cases e : P3 45 i = 0
      · exact e
      · rw [if_neg e] at this; omega
    have gd : ∀ k, k < m → FreeK T3 m k ∧ good T3 k := fun k hk => by
      obtain ⟨d1, d2, d3, d4⟩ := hd3 k hk
      refine ⟨d4 (all0 k hk), ?_⟩
      refine Classical.byContradiction (fun z => ?_)
      have := (hg3 k hk).mpr z
      rw [d1, all0 k hk] at this
      omega
    have b5 : P4 28 5 = τ 3 3 := by rw [sltP 5 (by decide) (by decide) (by decide) (by decide) (by decide)]; exact h.2.1.1.symm
    have P430 : ∀ r, r < 40 → P4 30 r ≤ 12 := fun r hr => by
      rw [(rowP r (by omega)).2.1, ← r1 30 (by decide)]
      exact (bd_30 hM r).2
    have l43 := L43_loop b3.2 41 0 P4 b5 P430 (by omega) (by omega)
    rw [show ((0 : Nat) : Int) = 0 by decide] at l43
    generalize L_X10_findSteps_43 41 0 P4 = P5 at l43 ⊢
    obtain ⟨v1, v2, v3⟩ := l43
    have P5c : ∀ x, x ≠ 28 → x ≠ 29 → x ≠ 30 → x ≠ 31 → x ≠ 54 → x ≠ 55 → P5 x = P3 x := fun x a b c d e f => by rw [v1 x b c d, P4c x a e f]
    have P528 : P5 28 = P4 28 := v1 28 (by decide) (by decide) (by decide)
    have row35 : ∀ r, r < 120 → RowS P3 P5 r := fun r hr => RowS.tr (RowS.of (P4c 29 (by decide) (by decide) (by decide)) (P4c 30 (by decide) (by decide) (by decide)) (P4c 31 (by decide) (by decide) (by decide)) r) (v2 r (by omega))
    have rowρ4 : ∀ r, r < 80 → RowS ρ P4 r := fun r hr => RowS.tr (n8 r hr) (RowS.of (by rw [P4c 29 (by decide) (by decide) (by decide), p3 29 (by decide) (by decide)]) (by rw [P4c 30 (by decide) (by decide) (by decide), p3 30 (by decide) (by decide)]) (by rw [P4c 31 (by decide) (by decide) (by decide), p3 31 (by decide) (by decide)]) r)
    have s4 : SimS T3 P4 := s3.tf2 sb3 rfl rfl (fun _ _ _ => rfl) (fun k hk => P4s k (by omega)) (P4c 32 (by decide) (by decide) (by decide)) (fun r _ => RowS.of (P4c 29 (by decide) (by decide) (by decide)) (P4c 30 (by decide) (by decide) (by decide)) (P4c 31 (by decide) (by decide) (by decide)) r)
    have s5 : SimS T3 P5 := s4.tf2 sb3 rfl rfl (fun _ _ _ => rfl) (fun k _ => by rw [P528]) (v1 32 (by decide) (by decide) (by decide)) (fun r hr => v2 r (by omega))
    have T33 : T3 3 = τ1 3 := by rw [T3c 3 (by decide) (by decide), n4 3 (by decide) (by decide) (by decide) (by decide) (by decide) (by decide)]
    have T35 : T3 5 = τ1 5 := by rw [T3c 5 (by decide) (by decide), n4 5 (by decide) (by decide) (by decide) (by decide) (by decide) (by decide)]
    have Tpl : ∀ x, 59 ≤ x → x < 139 → T3 x = τ1 x := fun x a b => by rw [T3c x (by omega) (by omega), n4 x (by omega) (by omega) (by omega) (by omega) (by omega) (by omega)]
    have e42 : P5 42 = P 42 := by rw [P5c 42 (by decide) (by decide) (by decide) (by decide) (by decide) (by decide), p3 42 (by decide) (by decide)]
    have e32 : P5 32 = ρ 32 := by rw [P5c 32 (by decide) (by decide) (by decide) (by decide) (by decide) (by decide), p3 32 (by decide) (by decide), n6 32 (by decide) (by decide) (by decide)]
    have e2 : E2 T3 P5 m := fun k hk => by
      obtain ⟨q1, q2, q3, q4, q5, q6, q7⟩ := e23 k hk
      rw [P5c 42 (by decide) (by decide) (by decide) (by decide) (by decide) (by decide), P5c 43 (by decide) (by decide) (by decide) (by decide) (by decide) (by decide), P5c 44 (by decide) (by decide) (by decide) (by decide) (by decide) (by decide), P5c 47 (by decide) (by decide) (by decide) (by decide) (by decide) (by decide)]
      exact ⟨q1, q2, q3, q4, q5, q6.mv q7.2 ⟨rfl, rfl⟩ (row35 _ (by omega)), q7⟩
    have ent : ∀ k, k < m → ∃ f : Nat, f < 40 ∧ (f : Int) < τ 3 3 ∧ P5 42 k = (f : Int) ∧ ¬ ρ 32 f = 0 ∧ PE T3 P4 (199 + 6 * k) f ∧ SpOK T3 (203 + 6 * k) (f : Int) ∧ T3 (203 + 6 * k) 1 = P5 31 f ∧ NmOK T3 (201 + 6 * k) ∧ NmOK T3 (199 + 6 * k) ∧ lenOK T3 (199 + 6 * k) ∧ lenOK T3 (203 + 6 * k) ∧ T3 (439 + k) 10 = 0 ∧ T3 (439 + k) 11 = 0 := by
      intro k hk
      obtain ⟨f, g1, g2, g3, g4, ⟨x3, x4, ⟨y1, y2, y3⟩, x6, x7, x8, x9, x10, x11, x12, x13, x14, x15, x16⟩, -, g7⟩ := n10 k hk
      have q0 : T3 (201 + 6 * k) = T (201 + 6 * k) := T3c _ (by omega) (by omega)
      have q1 : T3 (201 + 6 * k + 1) = T (202 + 6 * k) := by rw [show 201 + 6 * k + 1 = 202 + 6 * k by omega]; exact T3c _ (by omega) (by omega)
      have w0 : T3 (199 + 6 * k) = T (199 + 6 * k) := T3c _ (by omega) (by omega)
      have w1 : T3 (199 + 6 * k + 1) = T (199 + 6 * k + 1) := T3c _ (by omega) (by omega)
      have z0 : T3 (203 + 6 * k) = T (203 + 6 * k) := T3c _ (by omega) (by omega)
      have z1 : T3 (203 + 6 * k + 1) = T (203 + 6 * k + 1) := T3c _ (by omega) (by omega)
      have b30 := bd_30 hM f
      have lw : lenOK T3 (199 + 6 * k) := by unfold lenOK; rw [w0, x7.2.1]; exact b30
      have spk : SpOK T3 (203 + 6 * k) (f : Int) := x8.mv z0 z1
      rw [u3] at g2
      have g2' : (f : Int) < τ1 3 3 := by rw [u3]; exact g2
      have pg := hS1.2.2.2.1 f g2'
      rw [u5] at g3
      have nmf := hN f g2 g3
      have nm1 : NmOK τ1 (59 + 2 * f) := nmf.mv (t1 _ (by omega)) (t1 _ (by omega))
      have gk := (gd k hk).2
      unfold good at gk
      rw [T3e k hk 5 (by decide) (by decide) (by decide), y1] at gk
      refine ⟨f, g1, g2, by rw [e42]; exact g4, by rw [← hS1.2.2.1 f g2', u5]; exact g3, x7.mv (by rw [x7.2.1]; exact b30.2) ⟨w0, w1⟩ (rowρ4 f (by omega)), spk, by rw [z0, x9, (v2 f (by omega)).1, (rowρ4 f (by omega)).1], ⟨by rw [q0, y2]; omega, fun i hi => ?_⟩, ⟨?_, fun i hi => ?_⟩, lw, ?_, by rw [T3e k hk 10 (by decide) (by decide) (by decide)]; exact x15, by rw [T3e k hk 11 (by decide) (by decide) (by decide)]; exact x16⟩
      · rw [q0, y2] at hi
        rw [q1, y3 i (by omega) (by omega)]
        have il : i < (nL ρ f (a2 + (k : Int) * a3)).length := by omega
        have eg : (nL ρ f (a2 + (k : Int) * a3)).getD i 0 = (nL ρ f (a2 + (k : Int) * a3))[i] := by simp [List.getD, il]
        rw [eg]
        exact g7 _ (List.getElem_mem il)
      · rw [w0, x7.2.1, ← pg.2.1]; exact nm1.1
      · rw [w0, x7.2.1] at hi
        rw [w1, x7.2.2 i (by rw [x7.2.1]; exact hi), ← pg.2.2 i (by rw [pg.2.1]; exact hi)]
        exact nm1.2 i (by rw [pg.2.1]; exact hi)
      · have := spk.2
        unfold lenOK
        omega
    have stb : StB T3 P5 m := by
      refine ⟨s5, sb3, e2, h35, by rw [P528]; exact P426, n1, gd, fun i j hi hj e => n9 i j hi hj (by rw [← e42]; exact e), fun k hk => ?_, fun f g hf hg hne he hk => ?_, fun k hk => ?_⟩
      · obtain ⟨f, f1, f2, f3, f4, -⟩ := ent k hk
        rw [f3, Int.toNat_natCast, e32]; exact f4
      · rw [T33] at hf hg ⊢
        rw [T35] at he hk
        have bb := bd_3_3 hW1
        rw [AlX.mv (Tpl _ (by omega) (by omega)) (Tpl _ (by omega) (by omega)) (Tpl _ (by omega) (by omega)) (Tpl _ (by omega) (by omega))]
        exact hU1 f g hf hg hne he hk
      · obtain ⟨f, f1, f2, f3, f4, f5, f6, f7, f8, f9, f10, f11, -⟩ := ent k hk
        rw [f3, Int.toNat_natCast]
        exact ⟨f5.mv f10.2 ⟨rfl, rfl⟩ (v2 f (by omega)), f6, f7, f8, f9, f10, f11⟩
    have cpe : CpE T3 P5 m := by
      refine ⟨fun k hk => ?_, fun o ho _ => ?_⟩
      · obtain ⟨f, f1, f2, f3, f4, f5, f6, f7, f8, f9, f10, f11, f12, f13⟩ := ent k hk
        rw [f3, Int.toNat_natCast]
        have ec : cur T3 k = 199 + 6 * k := by unfold cur; rw [if_neg (by omega), if_neg (by omega)]
        rw [ec]
        have y54 := (l72 f f1).1
        have y55 := (l72 k (by omega)).2
        rw [if_neg (by omega)] at y54 y55
        exact ⟨v3 T3 _ f (by omega) f2 f5 f10, Or.inl f12, Or.inl f13, by rw [f12, v1 54 (by decide) (by decide) (by decide), y54], by rw [f13, v1 55 (by decide) (by decide) (by decide), y55], fun _ => ⟨f12, f13⟩⟩
      · have bb := sb3.1
        have e33 : T3 3 3 = τ 3 3 := by rw [T33, u3]
        exact v3 T3 _ o (by omega) (by omega) (s4.2.2.2.1 o ho) (sb3.2 o (by omega))
    have spi : SPI T3 P5 m 0 := by
      refine ⟨stb, cpe, by rw [T137]; rfl, by rw [P528, P433]; rfl, fun i hi => by omega, fun k hk z => ?_, fun j hj => by omega, fun k hk z => ?_, ?_⟩
      · obtain ⟨f, -, -, -, -, -, -, -, -, -, -, -, f12, -⟩ := ent k hk
        omega
      · obtain ⟨f, -, -, -, -, -, -, -, -, -, -, -, f12, -⟩ := ent k hk
        omega
      · rw [sm_zz (fun i hi => by
          obtain ⟨f, -, -, -, -, -, -, -, -, -, -, -, f12, f13⟩ := ent i hi
          rw [f12, f13]; rfl)]
        rfl
    have sl := steps_loop 81 82 0 T3 P5 spi (by omega) (by omega)
    rw [show ((0 : Nat) : Int) = 0 by decide] at sl
    generalize L_X3_findSteps_10 81 0 T3 = T6 at sl ⊢
    generalize L_X10_findSteps_68 82 1 P5 = P6 at sl ⊢
    clear spi cpe stb
    obtain ⟨s, ⟨⟨ss, sb, e26, w5, w26, -, -, -, -, -, wE⟩, wC, w7, w33, wS, wI2, wI3, -, -⟩, dn, sf, sm6⟩ := sl
    have T613 : ∀ j, j ≠ 7 → T6 13 j = T3 13 j := sf.2.1
    have P628 : ∀ j, j ≠ 33 → P6 28 j = P4 28 j := fun j hj => by rw [sm6.1 j hj, P528]
    have P645 : P6 45 = P3 45 := by rw [sm6.2.1 45 (by omega) (by omega), P5c 45 (by decide) (by decide) (by decide) (by decide) (by decide) (by decide)]
    have P646 : P6 46 = P3 46 := by rw [sm6.2.1 46 (by omega) (by omega), P5c 46 (by decide) (by decide) (by decide) (by decide) (by decide) (by decide)]
    have trF : T6 13 6 = f_X10_troubles P6 := by
      rw [troublesM_eq n1 (by rw [P628 25 (by decide), P425]; decide) w26, T613 6 (by decide), h36]
      exact sm_cg (fun i _ => by unfold cnd; rw [P645])
    have se : ∀ i, i < s → ∃ k, k < m ∧ (T6 15 i).toNat = k ∧ T6 15 i = (k : Int) ∧ P6 48 i = P6 42 k ∧ T6 16 i = P6 49 i ∧ T6 17 i = P6 50 i ∧ PS T6 P6 (f_X3_startOfStep T6 (i : Int)) (2 * i) ∧ PS T6 P6 (f_X3_goalOfStep T6 (i : Int)) (2 * i + 1) ∧ (T6 16 i = 0 ∨ T6 17 i = 0) ∧ (¬ T6 16 i = 0 → T6 (439 + k) 10 = 1) ∧ T6 (439 + k) 6 = 0 := fun i hi => by
      obtain ⟨k, k1, k2, k3, k4, k5, k6, k7, k8, k9, k10⟩ := wS i hi
      have ek : (T6 15 i).toNat = k := by omega
      refine ⟨k, k1, ek, k2, k3, k4, k5, ?_, ?_, k8, k9, k10⟩
      · rw [start_eq, ek]; exact k6
      · rw [goal_eq, ek]; exact k7
    have fin := plan_fin (T := T6) (P := P6) h hV hW hN ⟨fun x a b c => by rw [sf.1 x (by omega) (by omega) (by omega) (by omega) (by omega)]; exact celT x a b c, fun x a b => by rw [sm6.2.1 x (by omega) (by omega), v1 x (by omega) (by omega) (by omega)]; exact celP x a b, fun j a b c d e => by rw [P628 j d]; exact sltP j a b c d e, fun r hr => (rowP r hr).tr ((v2 r (by omega)).tr (sm6.2.2 r (by omega) (by omega)))⟩
      ⟨by rw [T613 4 (by decide), T134, P628 25 (by decide), P425], by rw [w5, w26], by rw [w7, w33], by rw [T613 8 (by decide), T138, P628 34 (by decide), P434], by rw [sf.1 0 (by decide) (by decide) (by decide) (by decide) (by decide), T0, P628 35 (by decide), P435, p35], trF, fun k hk => ?_, fun i hi => ?_, fun z => by rw [T613 4 (by decide), T134] at z; omega, by rw [T613 8 (by decide), T138, w7]; omega⟩ (fun i hi => ?_)
    · exact ⟨fin.1, fin.2, w5, w26⟩
    · have hk' : k < m := by omega
      obtain ⟨q1, q2, q3, q4, q5, q6, q7⟩ := e26 k hk'
      obtain ⟨d1, d2, -⟩ := hd3 k hk'
      refine ⟨q1, q3, q4, q5, by rw [P645, sf.2.2 k 7 (by decide) (by decide)]; exact d1, by rw [P646, sf.2.2 k 8 (by decide) (by decide)]; exact d2, q6⟩
    · obtain ⟨k, k1, k2, k2', k3, k4, k5, k6, k7, k8, k9, k10⟩ := se i (by omega)
      obtain ⟨q1, q2, -⟩ := e26 k k1
      exact ⟨by rw [k2, q1, k3], k4, k5, by rw [k3]; exact q2.1, by rw [k3, ← ss.1]; exact q2.2, k6, k7⟩
    · obtain ⟨k, k1, k2, k2', k3, k4, k5, k6, k7, k8, k9, k10⟩ := se i (by omega)
      obtain ⟨q1, q2, -⟩ := e26 k k1
      obtain ⟨y1, y2, y3, y4, y5, y6, y7⟩ := wE k k1
      have fok : ∀ j, T6 15 j = (k : Int) → fo T6 j = P6 42 k := fun j hj => by unfold fo; rw [hj, Int.toNat_natCast]; exact q1
      unfold StOK
      rw [start_eq, goal_eq, k2]
      refine ⟨fun z => ?_, fun z => ?_, fun z => ?_, fun z => ?_, k8, fun z => ?_, fun z => ?_⟩
      · rw [if_pos z]; exact y5
      · rw [if_neg z, fok i k2']; exact y2
      · rw [if_pos z]; exact y4
      · rw [if_neg z, fok i k2']; exact y2
      · obtain ⟨j, j1, j2, j3, j4⟩ := wI2 k k1 (k9 z) (dn k k1 k10)
        exact ⟨j, j4 i (by omega) k2' z, by omega, by rw [fok i k2', fok j j2], j3⟩
      · obtain ⟨j, j1, j2, j3⟩ := wI3 i (by omega) z
        exact ⟨j, j1, by rw [fok i k2', fok j (j2.trans k2')], j3⟩
  · rw [if_neg c, if_neg c]
    have fin := plan_fin (T := T3) (P := P4) h hV hW hN ⟨celT, celP, sltP, rowP⟩ ⟨by rw [T134, P425], by rw [h35, P426], by rw [T137, P433], by rw [T138, P434], by rw [T0, P435, p35], by rw [trM, h36], fun k hk => pdE k (by omega), fun i hi => by omega, fun z => by omega, by omega⟩ (fun i hi => by omega)
    exact ⟨fin.1, fin.2, h35, P426⟩
