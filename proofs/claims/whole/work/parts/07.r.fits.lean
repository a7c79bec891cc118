/-! fits. -/
theorem sm_step (f : Nat → Int) (n : Nat) : sm f (n + 1) = sm f n + f n := rfl
theorem Ch.rng {it nm : Nat → Int} {L : Int} {t : Nat → Int} : ∀ (d k : Nat) (p : Int), Ch it nm L t d k p → 0 ≤ p → ∀ j, k ≤ j → j < k + d → 0 ≤ t j ∧ 0 ≤ p + (sm t j - sm t k) ∧ p + (sm t j - sm t k) + t j ≤ L
  | 0, k, p, h, h0, j, a, b => by omega
  | d + 1, k, p, h, h0, j, a, b => by
    have r := h.1.1.rng
    by_cases q : j = k
    · subst q; omega
    · have := Ch.rng d (k + 1) (p + t k) h.2 (by omega) j (by omega) (by omega)
      rw [sm_step] at this
      omega
theorem file_bytes {τ : Sg} (hV : Inv τ) {f : Nat} (hf : (f : Int) < τ 3 3) (h40 : f < 40) (he : ¬ τ 5 f = 0) : 1 ≤ τ (59 + 2 * f) 2 ∧ ∀ i : Nat, (i : Int) < τ (59 + 2 * f) 2 → 0 ≤ τ (59 + 2 * f + 1) i ∧ τ (59 + 2 * f + 1) i ≤ 127 := by
  rcases hV.1 f hf he with w | w
  · refine ⟨w.1, fun i hi => ?_⟩
    have := w.2 i hi
    unfold nb at this
    omega
  · obtain ⟨⟨k1, k2⟩, -⟩ := w
    refine ⟨by omega, fun i hi => ?_⟩
    rcases k2 with ⟨u1, u2, u3⟩ | ⟨u1, u2, u3, u4⟩
    · rcases (show i = 0 ∨ i = 1 by omega) with rfl | rfl
      · omega
      · omega
    · rcases (show i = 0 ∨ i = 1 ∨ i = 2 by omega) with rfl | rfl | rfl
      · omega
      · omega
      · omega
theorem nbw_ne {b : Int} (h : nb b ∨ wildB b) : b ≠ -1 := by
  unfold nb wildB at h
  omega
/-- whether a place fits and what is taken: class and reference -/
theorem fit_sim {τ ρ : Sg} {R c r : Nat} (hRu : isRu R) (hR : RuleEq τ ρ R) (bN : 0 ≤ τ R 4 ∧ τ R 4 ≤ 12) (bL : 0 ≤ τ c 2 ∧ τ c 2 ≤ 12) (hc : isPl c) (hp : PE τ ρ c r) (hb : ∀ i : Nat, (i : Int) < τ c 2 → τ (c + 1) i ≠ -1) :
    (f_X0_match τ R c).1 = (f_X10_isFit ρ (r : Int)).1 ∧ ((f_X0_match τ R c).1 = 0 ∨ (f_X0_match τ R c).1 = 1) ∧ ((f_X0_match τ R c).1 = 1 → ∀ j : Nat, (j : Int) < τ R 4 → (f_X0_match τ R c).2 11 j = (f_X10_isFit ρ (r : Int)).2 40 j ∧ (f_X0_match τ R c).2 12 j = sm ((f_X10_isFit ρ (r : Int)).2 40) j ∧
      0 ≤ (f_X10_isFit ρ (r : Int)).2 40 j ∧ 0 ≤ sm ((f_X10_isFit ρ (r : Int)).2 40) j ∧ sm ((f_X10_isFit ρ (r : Int)).2 40) j + (f_X10_isFit ρ (r : Int)).2 40 j ≤ τ c 2) := by
  have xr : XR τ R c (ρ 34) (nmR ρ r) (ρ 30 r) (ρ 28 10) := ⟨hRu, hc, hR.1, hp.2.1, by rw [← hR.1]; exact bN, by rw [← hp.2.1]; exact bL, fun i hi => by
      rw [← hR.1] at hi
      obtain ⟨e1, e2⟩ := hR.2.2.1 i hi
      exact ⟨e1, by rw [← e1]; exact nbw_ne e2⟩, fun i hi => by
      rw [← hp.2.1] at hi
      have e := hp.2.2 i hi
      exact ⟨e, by show ρ 29 (12 * r + i) ≠ -1; rw [← e]; exact hb i hi⟩⟩
  have mX := match_ok xr
  have mM := isFit_sim (ρ := ρ) (r := r) (by rw [← hp.2.1]; exact bL) (by rw [← hR.1]; exact bN)
  obtain ⟨-, -, g3, g4, -, g6⟩ := mM
  rw [Nat.sub_zero] at g4 g6
  generalize f_X0_match τ R c = X at mX ⊢
  generalize f_X10_isFit ρ (r : Int) = M at g3 g4 g6 ⊢
  obtain ⟨m1, m2, m3⟩ := mX
  have e : X.1 = M.1 := eq01 m1 g3 (m2.trans g4.symm)
  refine ⟨e, m1, fun z j hj => ?_⟩
  obtain ⟨c1, c2⟩ := m3 z
  have c3 := g6 (by rw [← e]; exact z)
  rw [hR.1] at hj
  have uq := Ch.uq _ _ _ c1 c3
  have rg := Ch.rng _ _ _ c3 (by omega) j (by omega) (by omega)
  have s0 : sm (M.2 40) 0 = 0 := rfl
  rw [s0] at rg
  refine ⟨uq j (by omega) (by omega), ?_, rg.1, by omega, by rw [hp.2.1]; omega⟩
  rw [c2 j hj]
  exact sm_congr (fun y hy => uq y (by omega) (by omega))
theorem Sim.ft {τ τ' ρ ρ' : Sg} (h : Sim τ ρ) (hW : WF τ) (hc : XB τ τ') (gc : Bs ρ ρ') : Sim τ' ρ' := by
  have g28 := gc 28 (by decide) (by decide)
  have h0 := hc 0 (by decide) (by decide) (by decide)
  have hr : ∀ r, RowS ρ ρ' r := fun r => RowS.of (gc 29 (by decide) (by decide)) (gc 30 (by decide) (by decide)) (gc 31 (by decide) (by decide)) r
  obtain ⟨t1, t2, t3, t4, t5⟩ := h
  exact ⟨t1.mv (hc 1 (by decide) (by decide) (by decide)) (hc 2 (by decide) (by decide) (by decide)) (by rw [g28]) (gc 33 (by decide) (by decide)), t2.mv hW (hc 3 (by decide) (by decide) (by decide)) (hc 5 (by decide) (by decide) (by decide)) (fun c u v => hc c (by omega) (by omega) (by omega)) (by rw [g28]) (by rw [g28]) (gc 32 (by decide) (by decide)) (fun r _ => hr r),
    t3.mv hW (hc 7 (by decide) (by decide) (by decide)) (fun c u v => hc c (by omega) (by omega) (by omega)) (by rw [g28]) (fun r _ _ => hr r),
    t4.mv (by rw [h0]) (by rw [h0]) (by rw [h0]) (by rw [h0]) (fun c u v => hc c (by omega) (by omega) (by omega)) (by rw [g28]) (by rw [g28]) (by rw [g28]) (gc 34 (by decide) (by decide)) (gc 35 (by decide) (by decide)) (gc 36 (by decide) (by decide)),
    t5.mv hW (hc 13 (by decide) (by decide) (by decide)) (by rw [h0]) (hc 15 (by decide) (by decide) (by decide)) (hc 16 (by decide) (by decide) (by decide)) (hc 17 (by decide) (by decide) (by decide)) (fun c u => hc c (by omega) (by omega) (by omega)) (by rw [g28]) (by rw [g28]) (by rw [g28]) (by rw [g28]) (by rw [g28]) (by rw [g28]; omega) (fun x u v => gc x (by omega) (by omega)) (fun r _ _ => hr r)⟩
theorem Inv.ft {τ τ' : Sg} (h : Inv τ) (hW : WF τ) (hc : XB τ τ') : Inv τ' :=
  h.mv hW (by rw [hc 3 (by decide) (by decide) (by decide)]) (by rw [hc 3 (by decide) (by decide) (by decide)]) (hc 5 (by decide) (by decide) (by decide)) (fun c h1 h2 => hc c (by omega) (by omega) (by omega)) (by rw [hc 13 (by decide) (by decide) (by decide)]) (by rw [hc 13 (by decide) (by decide) (by decide)]) (hc 15 (by decide) (by decide) (by decide)) (hc 16 (by decide) (by decide) (by decide)) (hc 17 (by decide) (by decide) (by decide)) (fun c h1 => hc c (by omega) (by omega) (by omega))
theorem firstOf_loop (ρ : Sg) (a : Int) (ha : 0 ≤ a ∧ a ≤ 12) : ∀ (n : Nat) (k x : Int), 0 ≤ x → x ≤ a → 12 - x < (n : Int) → k = sm (ρ 40) x.toNat → L_X10_firstOf_4 ρ a n k x = sm (ρ 40) a.toNat
  | 0, k, x, h0, h1, h2, h3 => by omega
  | n + 1, k, x, h0, h1, h2, h3 => by
    rw [L_X10_firstOf_4]
    by_cases q : a ≤ x
    · rw [if_pos q, h3, show x = a by omega]
    · rw [if_neg q]
      exact firstOf_loop ρ a ha n _ (x + 1) (by omega) (by omega) (by omega) (by rw [h3, show (x + 1).toNat = x.toNat + 1 by omega, sm_step])
theorem firstOf_eq (ρ : Sg) {a : Int} (ha : 0 ≤ a ∧ a ≤ 12) : f_X10_firstOf ρ a = sm (ρ 40) a.toNat := by
  unfold f_X10_firstOf
  exact firstOf_loop ρ a ha 13 0 0 (by omega) (by omega) (by omega) rfl
theorem match_xb (τ : Sg) (R c : Nat) : XB τ (f_X0_match τ R c).2 := fun _ a b d => match_fr τ R c a b d
theorem isFit_bs (ρ : Sg) (a : Int) : Bs ρ (f_X10_isFit ρ a).2 := fun _ a' b => isFit_fr ρ a a' b
theorem s_fits {τ ρ : Sg} (h : Sim τ ρ) (hV : Inv τ) (hW : WF τ) (a b : Int) : (f_X9_fits τ a b).1 = (f_X10_fits ρ a b).1 ∧ Sim (f_X9_fits τ a b).2 (f_X10_fits ρ a b).2 ∧ Inv (f_X9_fits τ a b).2 := by
  have ht := Sim.thr h hW 0
  have b3 := bd_3_3 hW
  have e1 := has_sim ht.2.1 hW a
  have r8 : τ 0 8 = 0 ↔ ρ 28 10 = 0 := h.2.2.2.1.2.2.1
  unfold f_X9_fits f_X10_fits
  rw [← e1]
  by_cases h8 : τ 0 8 = 0
  · rw [if_pos h8, if_pos (r8.mp h8)]
    split <;> exact ⟨rfl, ht, hV⟩
  · rw [if_neg h8, if_neg (fun z => h8 (r8.mpr z))]
    by_cases hh : f_X7_has τ a = 0
    · rw [if_pos hh, if_pos hh]
      exact ⟨rfl, ht, hV⟩
    · rw [if_neg hh, if_neg hh]
      obtain ⟨r1, r2, r3⟩ := has_1 hh
      have ea : ((a.toNat : Nat) : Int) = a := by omega
      have fb := (file_bytes hV (f := a.toNat) (by omega) (by omega) r3).2
      have hru := rc_ru (τ 0 6)
      have fs := fit_sim hru (ht.2.2.2.1.2.2.2.1 h8) (bd_Ru_4 hW hru) (bd_Pl_2 hW (by omega)) (c := 59 + 2 * a.toNat) (by omega) (ht.2.1.2.2.2.1 a.toNat (by omega)) (fun i hi => by have := fb i hi; omega)
      rw [ea] at fs
      rw [placeOf_eq]
      have xb := match_xb τ (rc (τ 0 6)) (59 + 2 * a.toNat)
      have bs := isFit_bs (up2 ρ 28 0 0) a
      generalize f_X0_match τ (rc (τ 0 6)) (59 + 2 * a.toNat) = X at fs xb ⊢
      generalize f_X10_isFit (up2 ρ 28 0 0) a = M at fs bs ⊢
      obtain ⟨f1, f2, f3⟩ := fs
      have hs := ht.ft hW xb bs
      have hi := hV.ft hW xb
      have x0 := xb 0 (by decide) (by decide) (by decide)
      have xR := xb (rc (τ 0 6)) (by omega) (by omega) (by omega)
      have bN := bd_Ru_4 hW hru
      have eN : τ (rc (τ 0 6)) 4 = ρ 28 10 := (h.2.2.2.1.2.2.2.1 h8).1
      have m10 : M.2 28 10 = ρ 28 10 := by rw [bs 28 (by decide) (by decide), up2_slot _ _ (by decide)]
      unfold f_X5_itemCount
      rw [x0, xR, eN, m10, ← f1]
      rw [eN] at f3 bN
      by_cases c0 : b = 0
      · rw [if_pos c0, if_pos c0]
        by_cases c1 : X.1 = 0
        · rw [if_pos c1, if_pos c1]; exact ⟨rfl, hs, hi⟩
        · rw [if_neg c1, if_neg c1]; exact ⟨rfl, hs, hi⟩
      · rw [if_neg c0, if_neg c0]
        by_cases c1 : X.1 = 0
        · rw [if_pos c1, if_pos c1]; exact ⟨rfl, hs, hi⟩
        · rw [if_neg c1, if_neg c1]
          have f4 := f3 (by omega)
          have low : (if b < 30 then ((-1 : Int), X.2) else if 30 + ρ 28 10 ≤ b then (-1, X.2) else (f_X0_startOf X.2 (b - 30), X.2)).1 = (if b < 30 then ((-1 : Int), M.2) else if 30 + ρ 28 10 ≤ b then (-1, M.2) else (f_X10_firstOf M.2 (b - 30), M.2)).1 ∧ Sim (if b < 30 then ((-1 : Int), X.2) else if 30 + ρ 28 10 ≤ b then (-1, X.2) else (f_X0_startOf X.2 (b - 30), X.2)).2 (if b < 30 then ((-1 : Int), M.2) else if 30 + ρ 28 10 ≤ b then (-1, M.2) else (f_X10_firstOf M.2 (b - 30), M.2)).2 ∧ Inv (if b < 30 then ((-1 : Int), X.2) else if 30 + ρ 28 10 ≤ b then (-1, X.2) else (f_X0_startOf X.2 (b - 30), X.2)).2 := by
            by_cases d1 : b < 30
            · rw [if_pos d1, if_pos d1]; exact ⟨rfl, hs, hi⟩
            · rw [if_neg d1, if_neg d1]
              by_cases d2 : 30 + ρ 28 10 ≤ b
              · rw [if_pos d2, if_pos d2]; exact ⟨rfl, hs, hi⟩
              · rw [if_neg d2, if_neg d2]
                refine ⟨?_, hs, hi⟩
                dsimp only
                unfold f_X0_startOf
                rw [if_neg (by omega), if_neg (by omega), firstOf_eq M.2 (by omega)]
                exact (f4 (b - 30).toNat (by omega)).2.1
          by_cases d1 : b < 10
          · rw [if_pos d1, if_pos d1]; exact low
          · rw [if_neg d1, if_neg d1]
            by_cases d2 : 10 + ρ 28 10 ≤ b
            · rw [if_pos d2, if_pos d2]; exact low
            · rw [if_neg d2, if_neg d2]
              refine ⟨?_, hs, hi⟩
              dsimp only
              unfold f_X0_tookBy
              rw [if_neg (by omega), if_neg (by omega)]
              exact (f4 (b - 10).toNat (by omega)).1
