/-! plan: which files, in which order. -/
def rl (a : Nat → Int) : Nat → List Int
  | 0 => []
  | n + 1 => a n :: rl a n
theorem rl_cg {a b : Nat → Int} : ∀ {n : Nat}, (∀ i, i < n → a i = b i) → rl a n = rl b n
  | 0, _ => rfl
  | n + 1, h => by
    simp only [rl]
    rw [h n (by omega), rl_cg (n := n) (fun i hi => h i (by omega))]
theorem rl_inj {a b : Nat → Int} : ∀ {n m : Nat}, rl a n = rl b m → n = m ∧ ∀ i, i < n → a i = b i
  | 0, 0, _ => ⟨rfl, fun i hi => by omega⟩
  | 0, m + 1, h => by simp [rl] at h
  | n + 1, 0, h => by simp [rl] at h
  | n + 1, m + 1, h => by
    simp only [rl, List.cons.injEq] at h
    obtain ⟨e, k⟩ := rl_inj h.2
    subst e
    refine ⟨rfl, fun i hi => ?_⟩
    by_cases q : i = n
    · subst q; exact h.1
    · exact k i (by omega)
theorem rl_mem {a : Nat → Int} {x : Int} : ∀ {n : Nat}, x ∈ rl a n → ∃ i, i < n ∧ a i = x
  | 0, h => by simp [rl] at h
  | n + 1, h => by
    simp only [rl, List.mem_cons] at h
    rcases h with h | h
    · exact ⟨n, by omega, h.symm⟩
    · obtain ⟨i, a1, a2⟩ := rl_mem h
      exact ⟨i, by omega, a2⟩
theorem mem_rl {a : Nat → Int} : ∀ {n i : Nat}, i < n → a i ∈ rl a n
  | 0, i, h => by omega
  | n + 1, i, h => by
    simp only [rl, List.mem_cons]
    by_cases q : i = n
    · subst q; exact Or.inl rfl
    · exact Or.inr (mem_rl (by omega))
theorem rl_nodup {a : Nat → Int} : ∀ {n : Nat}, (rl a n).Nodup → ∀ i j, i < n → j < n → a i = a j → i = j
  | 0, h, i, j, hi, hj, e => by omega
  | n + 1, h, i, j, hi, hj, e => by
    simp only [rl, List.nodup_cons] at h
    by_cases q1 : i = n
    · by_cases q2 : j = n
      · omega
      · subst q1
        exact absurd (by rw [e]; exact mem_rl (by omega)) h.1
    · by_cases q2 : j = n
      · subst q2
        exact absurd (by rw [← e]; exact mem_rl (by omega)) h.1
      · exact rl_nodup h.2 i j (by omega) (by omega) e
def insL (lt : Int → Int → Bool) (f : Int) : List Int → List Int
  | [] => [f]
  | b :: t => if lt f b = true then b :: insL lt f t else f :: b :: t
theorem insL_mem {lt : Int → Int → Bool} {f x : Int} : ∀ {l : List Int}, x ∈ insL lt f l ↔ x = f ∨ x ∈ l
  | [] => by simp [insL]
  | b :: t => by
    simp only [insL]
    split
    · rw [List.mem_cons, insL_mem (l := t), List.mem_cons]
      constructor
      · rintro (h | h | h)
        · exact Or.inr (Or.inl h)
        · exact Or.inl h
        · exact Or.inr (Or.inr h)
      · rintro (h | h | h)
        · exact Or.inr (Or.inl h)
        · exact Or.inl h
        · exact Or.inr (Or.inr h)
    · rw [List.mem_cons]
theorem insL_nodup {lt : Int → Int → Bool} {f : Int} : ∀ {l : List Int}, l.Nodup → f ∉ l → (insL lt f l).Nodup
  | [], _, _ => by simp [insL]
  | b :: t, h, hf => by
    simp only [insL]
    rw [List.nodup_cons] at h
    rw [List.mem_cons] at hf
    split
    · rw [List.nodup_cons, insL_mem]
      refine ⟨fun z => ?_, insL_nodup h.2 (fun z => hf (Or.inr z))⟩
      rcases z with z | z
      · exact hf (Or.inl z.symm)
      · exact h.1 z
    · rw [List.nodup_cons, List.nodup_cons, List.mem_cons]
      exact ⟨hf, h⟩
/-- the list, last first, is in order -/
def Srt (lt : Int → Int → Bool) : List Int → Prop
  | [] => True
  | b :: t => (∀ x ∈ t, lt b x = false) ∧ Srt lt t
theorem insL_srt {lt : Int → Int → Bool} {f : Int} (as : ∀ x y, x = f ∨ y = f → lt x y = true → lt y x = false) : ∀ {l : List Int}, (∀ x ∈ l, ∀ y ∈ l, lt f x = false → lt x y = false → lt f y = false) → Srt lt l → Srt lt (insL lt f l)
  | [], _, _ => ⟨fun x hx => by simp at hx, trivial⟩
  | b :: t, nt, h => by
    simp only [insL]
    have nt' : ∀ x ∈ t, ∀ y ∈ t, lt f x = false → lt x y = false → lt f y = false := fun x hx y hy => nt x (List.mem_cons_of_mem _ hx) y (List.mem_cons_of_mem _ hy)
    split
    · rename_i q
      refine ⟨fun x hx => ?_, insL_srt as nt' h.2⟩
      rcases insL_mem.mp hx with e | e
      · rw [e]; exact as f b (Or.inl rfl) q
      · exact h.1 x e
    · rename_i q
      have q' : lt f b = false := by
        cases hq : lt f b with
        | false => rfl
        | true => exact absurd hq q
      refine ⟨fun x hx => ?_, h⟩
      rcases List.mem_cons.mp hx with e | e
      · rw [e]; exact q'
      · exact nt b (List.mem_cons_self ..) x (List.mem_cons_of_mem _ e) q' (h.1 x e)
theorem insL_filter {lt : Int → Int → Bool} {f : Int} (P : Int → Bool) : ∀ {l : List Int}, (∀ x ∈ l, ∀ y ∈ l, lt f x = false → lt x y = false → lt f y = false) → Srt lt l → (insL lt f l).filter P = if P f = true then insL lt f (l.filter P) else l.filter P
  | [], _, _ => by
    simp only [insL]
    by_cases q : P f = true
    · rw [if_pos q]; simp [List.filter, q, insL]
    · rw [if_neg q]; simp [List.filter, q]
  | b :: t, nt, h => by
    have nt' : ∀ x ∈ t, ∀ y ∈ t, lt f x = false → lt x y = false → lt f y = false := fun x hx y hy => nt x (List.mem_cons_of_mem _ hx) y (List.mem_cons_of_mem _ hy)
    have ih := insL_filter P nt' h.2
    simp only [insL]
    by_cases c : lt f b = true
    · rw [if_pos c]
      by_cases pb : P b = true
      · rw [List.filter_cons_of_pos pb, List.filter_cons_of_pos pb, ih]
        by_cases q : P f = true
        · rw [if_pos q, if_pos q]; simp [insL, c]
        · rw [if_neg q, if_neg q]
      · rw [List.filter_cons_of_neg pb, List.filter_cons_of_neg pb, ih]
    · rw [if_neg c]
      have c' : lt f b = false := by
        cases hq : lt f b with
        | false => rfl
        | true => exact absurd hq c
      by_cases q : P f = true
      · rw [List.filter_cons_of_pos q, if_pos q]
        have hd : ∀ x ∈ (b :: t).filter P, lt f x = false := fun x hx => by
          have hx' := (List.mem_filter.mp hx).1
          rcases List.mem_cons.mp hx' with e | e
          · rw [e]; exact c'
          · exact nt b (List.mem_cons_self ..) x (List.mem_cons_of_mem _ e) c' (h.1 x e)
        generalize (b :: t).filter P = l' at hd
        cases l' with
        | nil => rfl
        | cons y s =>
          simp only [insL]
          rw [if_neg (by rw [hd y (List.mem_cons_self ..)]; decide)]
      · rw [List.filter_cons_of_neg q, if_neg q]
/-- the order of names -/
theorem early_01 (ρ : Sg) (a b : Int) : ∀ (n : Nat) (x : Int), L_X10_isEarlier_2 ρ a b n x = 0 ∨ L_X10_isEarlier_2 ρ a b n x = 1
  | 0, x => Or.inl rfl
  | n + 1, x => by
    have ih := early_01 ρ a b n (x + 1)
    rw [L_X10_isEarlier_2]
    repeat' split
    all_goals first | exact ih | omega
theorem early_asym {ρ : Sg} {a b : Int} (ha : ρ 30 a.toNat ≤ 12) (hb : ρ 30 b.toNat ≤ 12) : ∀ (n : Nat) (x : Int), 0 ≤ x → x ≤ ρ 30 a.toNat → x ≤ ρ 30 b.toNat → L_X10_isEarlier_2 ρ a b n x = 1 → L_X10_isEarlier_2 ρ b a n x = 0
  | 0, x, h0, h1, h2, h => rfl
  | n + 1, x, h0, h1, h2, h => by
    have ih := early_asym ha hb n (x + 1) (by omega)
    rw [L_X10_isEarlier_2] at h ⊢
    by_cases c1 : ρ 30 a.toNat ≤ x
    · rw [if_pos c1] at h
      split at h
      · omega
      · by_cases c2 : ρ 30 b.toNat ≤ x
        · omega
        · rw [if_neg c2, if_pos c1, if_pos (by omega)]
    · rw [if_neg c1] at h
      by_cases c2 : ρ 30 b.toNat ≤ x
      · rw [if_pos c2] at h
        split at h
        · omega
        · omega
      · rw [if_neg c2] at h
        rw [if_neg c2, if_neg c1]
        by_cases c3 : ρ 29 (12 * a + x).toNat = ρ 29 (12 * b + x).toNat
        · rw [if_pos c3] at h
          rw [if_pos c3.symm]
          exact ih (by omega) (by omega) h
        · rw [if_neg c3] at h
          rw [if_neg (fun z => c3 z.symm)]
          split at h
          · omega
          · rw [if_pos (by omega)]
theorem early_neg {ρ : Sg} {a b c : Int} (ha : ρ 30 a.toNat ≤ 12) (hb : ρ 30 b.toNat ≤ 12) (hc : ρ 30 c.toNat ≤ 12) : ∀ (n : Nat) (x : Int), 0 ≤ x → x ≤ ρ 30 a.toNat → x ≤ ρ 30 b.toNat → x ≤ ρ 30 c.toNat → L_X10_isEarlier_2 ρ a b n x = 0 → L_X10_isEarlier_2 ρ b c n x = 0 → L_X10_isEarlier_2 ρ a c n x = 0
  | 0, x, h0, h1, h2, h3, h, k => rfl
  | n + 1, x, h0, h1, h2, h3, h, k => by
    have ih := early_neg ha hb hc n (x + 1) (by omega)
    rw [L_X10_isEarlier_2] at h k ⊢
    by_cases ca : ρ 30 a.toNat ≤ x
    · rw [if_pos ca] at h ⊢
      by_cases cb : ρ 30 b.toNat ≤ x
      · rw [if_pos cb] at k
        split at k
        · rw [if_pos (by omega)]
        · omega
      · split at h
        · omega
        · omega
    · rw [if_neg ca] at h ⊢
      by_cases cc : ρ 30 c.toNat ≤ x
      · rw [if_pos cc, if_pos (by omega)]
      · rw [if_neg cc]
        by_cases cb : ρ 30 b.toNat ≤ x
        · rw [if_pos cb] at k
          split at k
          · omega
          · omega
        · rw [if_neg cb] at h
          rw [if_neg cb, if_neg cc] at k
          by_cases e1 : ρ 29 (12 * a + x).toNat = ρ 29 (12 * b + x).toNat
          · rw [if_pos e1] at h
            by_cases e2 : ρ 29 (12 * b + x).toNat = ρ 29 (12 * c + x).toNat
            · rw [if_pos e2] at k
              rw [if_pos (by omega)]
              exact ih (by omega) (by omega) (by omega) h k
            · rw [if_neg e2] at k
              rw [if_neg (by omega)]
              split at k
              · rw [if_pos (by omega)]
              · omega
          · rw [if_neg e1] at h
            split at h
            · by_cases e2 : ρ 29 (12 * b + x).toNat = ρ 29 (12 * c + x).toNat
              · rw [if_neg (by omega), if_pos (by omega)]
              · rw [if_neg e2] at k
                split at k
                · rw [if_neg (by omega), if_pos (by omega)]
                · omega
            · omega
theorem before_sim {τ ρ : Sg} {c q a b : Nat} (h1 : PE τ ρ c a) (h2 : PE τ ρ q b) (l1 : lenOK τ c) (l2 : lenOK τ q) : ∀ (n : Nat) (x : Int), 0 ≤ x → L_X2_isNamedBefore_14 τ c q n (min (τ c 2) (τ q 2)) x = L_X10_isEarlier_2 ρ (a : Int) (b : Int) n x
  | 0, x, h0 => rfl
  | n + 1, x, h0 => by
    obtain ⟨l3, l4⟩ := l1
    obtain ⟨l5, l6⟩ := l2
    rw [L_X2_isNamedBefore_14, L_X10_isEarlier_2, before_sim h1 h2 ⟨l3, l4⟩ ⟨l5, l6⟩ n (x + 1) (by omega), Int.toNat_natCast, Int.toNat_natCast, ← h1.2.1, ← h2.2.1]
    by_cases c1 : τ c 2 ≤ x
    · rw [if_pos (show min (τ c 2) (τ q 2) ≤ x by omega), if_pos c1]
    · rw [if_neg c1]
      by_cases c2 : τ q 2 ≤ x
      · rw [if_pos (show min (τ c 2) (τ q 2) ≤ x by omega), if_pos c2]
      · rw [if_neg (show ¬ min (τ c 2) (τ q 2) ≤ x by omega), if_neg c2, byteAt_in h0 (by omega) l4, byteAt_in h0 (by omega) l6, h1.2.2 x.toNat (by omega), h2.2.2 x.toNat (by omega), show (12 * (a : Int) + x).toNat = 12 * a + x.toNat by omega, show (12 * (b : Int) + x).toNat = 12 * b + x.toNat by omega]
def ltB (ρ : Sg) (by' : Int) (f g : Int) : Bool := decide (¬ by' = 0 ∧ ¬ f_X10_isEarlier ρ f g = 0)
theorem ltB_t {ρ : Sg} {b f g : Int} (h : ltB ρ b f g = true) : ¬ b = 0 ∧ ¬ f_X10_isEarlier ρ f g = 0 := by
  unfold ltB at h
  exact of_decide_eq_true h
theorem ltB_f {ρ : Sg} {b f g : Int} (h : ltB ρ b f g = false) : b = 0 ∨ f_X10_isEarlier ρ f g = 0 := by
  unfold ltB at h
  have := of_decide_eq_false h
  by_cases q : b = 0
  · exact Or.inl q
  · refine Or.inr ?_
    by_cases q2 : f_X10_isEarlier ρ f g = 0
    · exact q2
    · exact absurd ⟨q, q2⟩ this
theorem f_ltB {ρ : Sg} {b f g : Int} (h : b = 0 ∨ f_X10_isEarlier ρ f g = 0) : ltB ρ b f g = false := by
  unfold ltB
  refine decide_eq_false (fun z => ?_)
  rcases h with h | h
  · exact z.1 h
  · exact z.2 h
theorem ltB_as {ρ : Sg} (hM : WF ρ) (b : Int) {f g : Int} (h : ltB ρ b f g = true) : ltB ρ b g f = false := by
  have k := ltB_t h
  refine f_ltB (Or.inr ?_)
  have e := early_01 ρ f g 13 0
  have b1 := bd_30 hM f.toNat
  have b2 := bd_30 hM g.toNat
  exact early_asym b1.2 b2.2 13 0 (by omega) b1.1 b2.1 (by unfold f_X10_isEarlier at k; omega)
theorem ltB_nt {ρ : Sg} (hM : WF ρ) (b : Int) {f g e : Int} (h : ltB ρ b f g = false) (k : ltB ρ b g e = false) : ltB ρ b f e = false := by
  have b1 := bd_30 hM f.toNat
  have b2 := bd_30 hM g.toNat
  have b3 := bd_30 hM e.toNat
  rcases ltB_f h with h | h
  · exact f_ltB (Or.inl h)
  · rcases ltB_f k with k | k
    · exact f_ltB (Or.inl k)
    · exact f_ltB (Or.inr (early_neg b1.2 b2.2 b3.2 13 0 (by omega) b1.1 b2.1 b3.1 h k))
/-- insertion from behind, the class's loop -/
theorem ins_X (lt : Int → Int → Bool) (a0 a1 x3 f : Int) (τ : Sg) (hlt : ∀ σ : Sg, (∀ x, x ≠ 6 → σ x = τ x) → ∀ g, (a1 = 0 → lt f g = false) ∧ (0 ≤ g ∧ g < τ 3 3 → ¬ a1 = 0 → (f_X7_isNamedBefore σ f g = 0 ↔ lt f g = false))) : ∀ (n k : Nat) (σ : Sg), k < n → (∀ x, x ≠ 6 → σ x = τ x) → (∀ g ∈ rl (σ 6) k, 0 ≤ g ∧ g < τ 3 3) →
    rl ((up2 (L_X7_list_44 a0 a1 n x3 f (k : Int) (k : Int) σ).2 6 (L_X7_list_44 a0 a1 n x3 f (k : Int) (k : Int) σ).1.toNat f) 6) (k + 1) = insL lt f (rl (σ 6) k) ∧ ∀ i, k < i → (up2 (L_X7_list_44 a0 a1 n x3 f (k : Int) (k : Int) σ).2 6 (L_X7_list_44 a0 a1 n x3 f (k : Int) (k : Int) σ).1.toNat f) 6 i = σ 6 i
  | 0, k, σ, hk, hb, hm => by omega
  | n + 1, k, σ, hk, hb, hm => by
    have stop : ∀ (hs : insL lt f (rl (σ 6) k) = f :: rl (σ 6) k), rl ((up2 σ 6 ((k : Int)).toNat f) 6) (k + 1) = insL lt f (rl (σ 6) k) ∧ ∀ i, k < i → (up2 σ 6 ((k : Int)).toNat f) 6 i = σ 6 i := by
      intro hs
      rw [hs, Int.toNat_natCast]
      refine ⟨?_, fun i hi => up2_slot _ _ (by omega)⟩
      simp only [rl]
      rw [up2_same]
      congr 1
      exact rl_cg (fun i hi => up2_slot _ _ (by omega))
    rw [L_X7_list_44]
    by_cases c1 : a1 = 0
    · rw [if_pos c1]
      refine stop ?_
      cases k with
      | zero => rfl
      | succ k =>
        simp only [rl, insL]
        rw [if_neg (by rw [(hlt σ hb _).1 c1]; decide)]
    · rw [if_neg c1]
      by_cases c2 : (k : Int) ≤ 0
      · rw [if_pos c2]
        refine stop ?_
        have : k = 0 := by omega
        subst this
        rfl
      · rw [if_neg c2]
        cases k with
        | zero => omega
        | succ k =>
          have e1 : (((k + 1 : Nat) : Int) - 1).toNat = k := by omega
          rw [e1]
          have hg := hm (σ 6 k) (mem_rl (by omega))
          have hl := (hlt σ hb (σ 6 k)).2 hg c1
          by_cases c3 : f_X7_isNamedBefore σ f (σ 6 k) = 0
          · rw [if_pos c3]
            refine stop ?_
            simp only [rl, insL]
            rw [if_neg (by rw [hl.mp c3]; decide)]
          · rw [if_neg c3]
            have lt1 : lt f (σ 6 k) = true := by
              cases hq : lt f (σ 6 k) with
              | false => exact absurd (hl.mpr hq) c3
              | true => rfl
            rw [show ((k + 1 : Nat) : Int) - 1 = (k : Int) by omega, show ((k + 1 : Nat) : Int) + -1 = (k : Int) by omega, show (((k + 1 : Nat) : Int)).toNat = k + 1 by omega]
            have r1 : rl ((up2 σ 6 (k + 1) (σ 6 k)) 6) k = rl (σ 6) k := rl_cg (fun i hi => up2_slot _ _ (by omega))
            obtain ⟨g1, g2⟩ := ins_X lt a0 a1 x3 f τ hlt n k (up2 σ 6 (k + 1) (σ 6 k)) (by omega) (fun x hx => by rw [up2_cell _ _ _ hx]; exact hb x hx) (fun g hg => hm g (by rw [r1] at hg; simp only [rl, List.mem_cons]; exact Or.inr hg))
            refine ⟨?_, fun i hi => by rw [g2 i (by omega), up2_slot _ _ (by omega)]⟩
            rw [rl, g1, g2 (k + 1) (by omega), up2_same, r1]
            simp only [rl, insL]
            rw [if_pos lt1]
theorem ins_M (lt : Int → Int → Bool) (a0 a1 a2 a3 a4 f : Int) (ρ : Sg) (hlt : ∀ σ : Sg, (∀ x, x ≠ 42 → σ x = ρ x) → ∀ g, (a4 = 0 → lt f g = false) ∧ (¬ a4 = 0 → (f_X10_isEarlier σ f g = 0 ↔ lt f g = false))) : ∀ (n k : Nat) (σ : Sg), k < n → (∀ x, x ≠ 42 → σ x = ρ x) →
    rl ((up2 (L_X10_plan_130 a0 a1 a2 a3 a4 n f (k : Int) σ).2 42 (L_X10_plan_130 a0 a1 a2 a3 a4 n f (k : Int) σ).1.toNat f) 42) (k + 1) = insL lt f (rl (σ 42) k) ∧ (∀ i, k < i → (up2 (L_X10_plan_130 a0 a1 a2 a3 a4 n f (k : Int) σ).2 42 (L_X10_plan_130 a0 a1 a2 a3 a4 n f (k : Int) σ).1.toNat f) 42 i = σ 42 i) ∧ ∀ x, x ≠ 42 → (L_X10_plan_130 a0 a1 a2 a3 a4 n f (k : Int) σ).2 x = ρ x
  | 0, k, σ, hk, hb => by omega
  | n + 1, k, σ, hk, hb => by
    have stop : ∀ (hs : insL lt f (rl (σ 42) k) = f :: rl (σ 42) k), rl ((up2 σ 42 ((k : Int)).toNat f) 42) (k + 1) = insL lt f (rl (σ 42) k) ∧ (∀ i, k < i → (up2 σ 42 ((k : Int)).toNat f) 42 i = σ 42 i) ∧ ∀ x, x ≠ 42 → σ x = ρ x := by
      intro hs
      rw [hs, Int.toNat_natCast]
      refine ⟨?_, fun i hi => up2_slot _ _ (by omega), hb⟩
      simp only [rl]
      rw [up2_same]
      congr 1
      exact rl_cg (fun i hi => up2_slot _ _ (by omega))
    rw [L_X10_plan_130]
    by_cases c1 : a4 = 0
    · rw [if_pos c1]
      refine stop ?_
      cases k with
      | zero => rfl
      | succ k =>
        simp only [rl, insL]
        rw [if_neg (by rw [(hlt σ hb _).1 c1]; decide)]
    · rw [if_neg c1]
      by_cases c2 : (k : Int) ≤ 0
      · rw [if_pos c2]
        refine stop ?_
        have : k = 0 := by omega
        subst this
        rfl
      · rw [if_neg c2]
        cases k with
        | zero => omega
        | succ k =>
          have e1 : (((k + 1 : Nat) : Int) - 1).toNat = k := by omega
          rw [e1]
          have hl := (hlt σ hb (σ 42 k)).2 c1
          by_cases c3 : f_X10_isEarlier σ f (σ 42 k) = 0
          · rw [if_pos c3]
            refine stop ?_
            simp only [rl, insL]
            rw [if_neg (by rw [hl.mp c3]; decide)]
          · rw [if_neg c3]
            have lt1 : lt f (σ 42 k) = true := by
              cases hq : lt f (σ 42 k) with
              | false => exact absurd (hl.mpr hq) c3
              | true => rfl
            rw [show ((k + 1 : Nat) : Int) + -1 = (k : Int) by omega, show (((k + 1 : Nat) : Int)).toNat = k + 1 by omega]
            have r1 : rl ((up2 σ 42 (k + 1) (σ 42 k)) 42) k = rl (σ 42) k := rl_cg (fun i hi => up2_slot _ _ (by omega))
            obtain ⟨g1, g2, g3⟩ := ins_M lt a0 a1 a2 a3 a4 f ρ hlt n k (up2 σ 42 (k + 1) (σ 42 k)) (by omega) (fun x hx => by rw [up2_cell _ _ _ hx]; exact hb x hx)
            refine ⟨?_, fun i hi => by rw [g2 i (by omega), up2_slot _ _ (by omega)], g3⟩
            rw [rl, g1, g2 (k + 1) (by omega), up2_same, r1]
            simp only [rl, insL]
            rw [if_pos lt1]
