theorem byteAt_rng {τ : Sg} (hW : WF τ) {c : Nat} (hc : isPl c) (i : Int) : -1 ≤ f_X2_byteAt τ c i ∧ f_X2_byteAt τ c i ≤ 255 := by
  unfold f_X2_byteAt
  have := bd_Nm hW (c := c + 1) (by omega) i.toNat
  repeat' split
  all_goals omega
theorem tbyte_rng {τ : Sg} (hW : WF τ) (i : Int) : -1 ≤ f_X8_byteAt τ i ∧ f_X8_byteAt τ i ≤ 255 := by
  unfold f_X8_byteAt
  have := bd_2 hW i.toNat
  repeat' split
  all_goals omega
theorem WF_Ltake (a : Int) : ∀ (n : Nat) (y x : Int) (τ : Sg), WF τ → WF (L_X9_takePlace_37 a n y x τ)
  | 0, y, x, τ, h => h
  | n + 1, y, x, τ, h => by
    rw [L_X9_takePlace_37]
    split
    · exact h
    · exact WF_Ltake a n _ _ _ (WF_add h (by omega) (tbyte_rng h _))
theorem WF_take {τ : Sg} (hW : WF τ) (a : Int) : WF (f_X9_takePlace τ a).2 := by
  unfold f_X9_takePlace
  split
  · exact WF_clear hW
  · rename_i h1
    split
    · exact WF_clear hW
    · have ha : 0 ≤ a ∧ a ≤ 5 := by
        unfold f_X9_isFolder at h1
        split at h1
        · exact absurd rfl h1
        · split at h1
          · exact absurd rfl h1
          · omega
      exact WF_clear (WF_Ltake a _ _ _ _ (WF_begin hW (by omega) ha))
theorem WF_Lbecome {c q : Nat} (hc : isPl c) (hq : isPl q) : ∀ (n : Nat) (x : Int) (τ : Sg), WF τ → WF (L_X2_become_10 c q n x τ)
  | 0, x, τ, h => h
  | n + 1, x, τ, h => by
    rw [L_X2_become_10]
    split
    · exact h
    · exact WF_Lbecome hc hq n _ _ (WF_add h hc (byteAt_rng h hq _))
theorem WF_become {τ : Sg} (hW : WF τ) {c q : Nat} (hc : isPl c) (hq : isPl q) : WF (f_X2_become τ c q) := by
  unfold f_X2_become
  exact WF_Lbecome hc hq _ _ _ (WF_begin hW hc (bd_Pl_1 hW hq))
theorem WF_Lfollow {q0 q1 : Nat} (hq : isPl q1) : ∀ (n : Nat) (x : Int) (τ : Sg), WF τ → WF (L_X1_follow_2 q0 q1 n x τ)
  | 0, x, τ, h => h
  | n + 1, x, τ, h => by
    have := bd_7_1 h
    rw [L_X1_follow_2]
    split
    · exact h
    · split
      · exact WF_Lfollow hq n _ _ h
      · exact WF_Lfollow hq n _ _ (WF_become h (by omega) hq)
theorem WF_move {τ : Sg} (hW : WF τ) {a : Int} (ha : 0 ≤ a ∧ a ≤ 39) {q : Nat} (hq : isPl q) : WF (f_X9_move τ a q) := by
  unfold f_X9_move f_X1_follow
  rw [placeOf_eq]
  exact WF_become (WF_Lfollow hq _ _ _ hW) (by omega) hq
/-- folds -/
theorem s_folds {τ ρ : Sg} (h : Sim τ ρ) (hV : Inv τ) (hW : WF τ) (hM : WF ρ) (a : Int) : (f_X9_folds τ a).1 = (f_X10_folds ρ a).1 ∧ Sim (f_X9_folds τ a).2 (f_X10_folds ρ a).2 ∧ Inv (f_X9_folds τ a).2 := by
  have ht := Sim.thr h hW 0
  have e := there_eq ht.2.1 (WF_up hM (bw_28_0 (by omega)))
  unfold f_X9_folds f_X10_folds
  rw [e]
  have e1 : f_X7_howManyAre τ = τ 3 4 := rfl
  rw [e1]
  by_cases h1 : τ 3 4 ≤ 0
  · rw [if_pos h1, if_pos h1]
    refine ⟨rfl, ?_, ?_⟩
    · dsimp only
      unfold f_X7_setFolding
      have hc : ∀ x, x ≠ 3 → (up2 τ 3 5 a) x = τ x := fun x hx => up2_cell _ _ _ hx
      have gs : ∀ k, k ≠ 4 → (up2 (up2 ρ 28 0 0) 28 4 a) 28 k = (up2 ρ 28 0 0) 28 k := fun k hk => up2_slot _ _ hk
      have gc : ∀ x, x ≠ 28 → (up2 (up2 ρ 28 0 0) 28 4 a) x = (up2 ρ 28 0 0) x := fun x hx => up2_cell _ _ _ hx
      have hr : ∀ r, RowS (up2 ρ 28 0 0) (up2 (up2 ρ 28 0 0) 28 4 a) r := fun r => RowS.of (gc 29 (by decide)) (gc 30 (by decide)) (gc 31 (by decide)) r
      obtain ⟨t1, t2, t3, t4, t5⟩ := ht
      have b := bd_3_3 hW
      refine ⟨t1.mv (hc 1 (by decide)) (hc 2 (by decide)) (gs 9 (by decide)) (gc 33 (by decide)), ⟨?_, ?_, fun f hf => ?_, fun f hf => ?_, ?_⟩, t3.mv hW (hc 7 (by decide)) (fun c u v => hc c (by omega)) (gs 7 (by decide)) (fun r _ _ => hr r),
        t4.mv (by rw [hc 0 (by decide)]) (by rw [hc 0 (by decide)]) (by rw [hc 0 (by decide)]) (by rw [hc 0 (by decide)]) (fun c u v => hc c (by omega)) (gs 10 (by decide)) (gs 11 (by decide)) (gs 20 (by decide)) (gc 34 (by decide)) (gc 35 (by decide)) (gc 36 (by decide)),
        t5.mv hW (hc 13 (by decide)) (by rw [hc 0 (by decide)]) (hc 15 (by decide)) (hc 16 (by decide)) (hc 17 (by decide)) (fun c u => hc c (by omega)) (gs 25 (by decide)) (gs 26 (by decide)) (gs 33 (by decide)) (gs 34 (by decide)) (gs 35 (by decide)) (by rw [gs 5 (by decide)]; omega) (fun x u v => gc x (by omega)) (fun r _ _ => hr r)⟩
      · rw [up2_slot _ _ (by decide), gs 5 (by decide)]; exact t2.1
      · rw [up2_same, up2_same]
      · rw [up2_slot _ _ (by decide)] at hf
        rw [hc 5 (by decide), gc 32 (by decide)]
        exact t2.2.2.1 f hf
      · rw [up2_slot _ _ (by decide)] at hf
        exact (t2.2.2.2.1 f hf).mv (bd_Pl_2 hW (by omega)).2 ⟨hc _ (by omega), hc _ (by omega)⟩ (hr f)
      · rw [up2_slot _ _ (by decide), up2_slot _ _ (by decide), hc 5 (by decide)]
        exact t2.2.2.2.2
    · dsimp only
      unfold f_X7_setFolding
      have hc : ∀ x, x ≠ 3 → (up2 τ 3 5 a) x = τ x := fun x hx => up2_cell _ _ _ hx
      have hz : ∀ f : Nat, (f : Int) < τ 3 3 → τ 5 f = 0 := by
        intro f hf
        have b := bd_3_3 hW
        have q := h.2.1.2.2.2.2
        by_cases w : τ 5 f = 0
        · exact w
        · have bf := bd_5 hW f
          have k1 := sm_upd (τ 5) 0 (i := f) (n := (τ 3 3).toNat) (by omega)
          have k2 := sm_le (f := fun k => if k = f then 0 else τ 5 k) (n := (τ 3 3).toNat) (fun k hk => by
            show 0 ≤ (if k = f then 0 else τ 5 k) ∧ (if k = f then 0 else τ 5 k) ≤ 1
            split
            · omega
            · exact bd_5 hW k)
          omega
      refine ⟨fun f hf he => ?_, fun f g hf hg hn he hk => ?_, fun i hi => ?_⟩
      · rw [up2_slot _ _ (by decide)] at hf
        rw [hc 5 (by decide)] at he
        exact absurd (hz f hf) he
      · rw [up2_slot _ _ (by decide)] at hf
        rw [hc 5 (by decide)] at he
        exact absurd (hz f hf) he
      · rw [hc 13 (by decide)] at hi
        exact (hV.2.2 i hi).mv hW (by rw [hc 13 (by decide)]) (hc 15 (by decide)) (hc 16 (by decide)) (hc 17 (by decide)) (fun c u => hc c (by omega))
  · rw [if_neg h1, if_neg h1]
    exact ⟨rfl, ht, hV⟩
/-- at -/
theorem s_at {τ ρ : Sg} (h : Sim τ ρ) (hV : Inv τ) (hW : WF τ) (a : Int) : (f_X9_at τ a).1 = (f_X10_at ρ a).1 ∧ Sim (f_X9_at τ a).2 (f_X10_at ρ a).2 ∧ Inv (f_X9_at τ a).2 := by
  have ht := Sim.thr h hW 0
  have hs := take_Sim ht hW a
  obtain ⟨e1, -, -, -, -, e6⟩ := take_sim ht.1 hW a
  have hi := take_Inv hV hW a
  have hw := WF_take hW a
  unfold f_X9_at f_X10_at
  rw [← e1]
  by_cases h1 : (f_X9_takePlace τ a).1 = 0
  · rw [if_pos h1, if_pos h1]
    exact ⟨rfl, hs, hi⟩
  · rw [if_neg h1, if_neg h1]
    have e2 : (f_X9_takePlace τ a).1 = 1 := by
      rcases (take_sim ht.1 hW a).2.1 with w | w
      · exact absurd w h1
      · exact w
    exact ⟨findAlike_sim hs.2.1 hw (q := 70) (e6 e2).1 (-1), hs, hi⟩
/-- what findAlike says when it finds none -/
theorem findAlike_none {τ : Sg} (hW : WF τ) {d : Nat} (b : Int) : ∀ (n : Nat) (x : Int), 0 ≤ x → 40 - x < (n : Int) → L_X7_findAlike_2 τ d b n x = -1 → ∀ f : Nat, x ≤ (f : Int) → (f : Int) < τ 3 3 → (f : Int) ≠ b → ¬ τ 5 f = 0 → ¬ AlX τ (59 + 2 * f) d (τ 3 5)
  | 0, x, h0, h1, hr => by
    intro f h2 h3
    have := bd_3_3 hW
    omega
  | n + 1, x, h0, h1, hr => by
    have b3 := bd_3_3 hW
    intro f h2 h3 h4 h5
    rw [L_X7_findAlike_2] at hr
    by_cases c1 : τ 3 3 ≤ x
    · omega
    · rw [if_neg c1] at hr
      have nxt : L_X7_findAlike_2 τ d b n (x + 1) = -1 → x ≠ (f : Int) → ¬ AlX τ (59 + 2 * f) d (τ 3 5) := fun q w => findAlike_none hW b n (x + 1) (by omega) (by omega) q f (by omega) h3 h4 h5
      by_cases c2 : x = b
      · rw [if_pos c2] at hr
        exact nxt hr (by omega)
      · rw [if_neg c2] at hr
        by_cases c3 : τ 5 x.toNat = 0
        · rw [if_pos c3] at hr
          refine nxt hr (fun w => h5 ?_)
          rw [show f = x.toNat by omega]
          exact c3
        · rw [if_neg c3] at hr
          by_cases c4 : f_X2_isAlike τ (59 + 2 * x.toNat) d (τ 3 5) = 0
          · rw [if_pos c4] at hr
            by_cases w : x = (f : Int)
            · have ef : f = x.toNat := by omega
              rw [ef]
              intro k
              have k2 := (isAlikeX (σ := τ) (c := 59 + 2 * x.toNat) (q := d) (a1 := τ 3 5) (bd_Pl_2 hW (by omega)).2).2.mpr k
              omega
            · exact nxt hr w
          · rw [if_neg c4] at hr
            omega
theorem AlX.sy {τ : Sg} {c d : Nat} {f : Int} (h : AlX τ c d f) : AlX τ d c f := by
  obtain ⟨a, b, k⟩ := h
  refine ⟨a.symm, b.symm, fun i hi => ?_⟩
  rcases k i (by omega) with w | w
  · exact Or.inl w.symm
  · exact Or.inr ⟨w.1, w.2.symm⟩
