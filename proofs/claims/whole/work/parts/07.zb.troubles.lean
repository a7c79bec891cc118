theorem isAlike_cg {τ τ' : Sg} {c q : Nat} (h0 : τ' c = τ c) (h1 : τ' (c + 1) = τ (c + 1)) (h2 : τ' q = τ q) (h3 : τ' (q + 1) = τ (q + 1)) (a : Int) : f_X2_isAlike τ' c q a = f_X2_isAlike τ c q a := by
  have lp : ∀ (n : Nat) (x : Int), L_X2_isAlike_26 τ' c q a n x = L_X2_isAlike_26 τ c q a n x := by
    intro n
    induction n with
    | zero => intro x; rfl
    | succ n ih =>
      intro x
      have e1 : f_X2_byteAt τ' c x = f_X2_byteAt τ c x := by unfold f_X2_byteAt; rw [h0, h1]
      have e2 : f_X2_byteAt τ' q x = f_X2_byteAt τ q x := by unfold f_X2_byteAt; rw [h2, h3]
      rw [L_X2_isAlike_26, L_X2_isAlike_26, e1, e2, ih, h0]
  unfold f_X2_isAlike
  rw [h0, h2, lp]
theorem fa_cg {τ τ' : Sg} (h : ∀ x, x < 439 → x ≠ 13 → τ' x = τ x) (hB : SB τ) {d : Nat} (hd : 57 ≤ d ∧ d < 438) (b : Int) : f_X7_findAlike τ' d b = f_X7_findAlike τ d b := by
  have b3 := hB.1
  have lp : ∀ (n : Nat) (x : Int), 0 ≤ x → L_X7_findAlike_2 τ' d b n x = L_X7_findAlike_2 τ d b n x := by
    intro n
    induction n with
    | zero => intro x _; rfl
    | succ n ih =>
      intro x h0
      rw [L_X7_findAlike_2, L_X7_findAlike_2, h 3 (by omega) (by omega), h 5 (by omega) (by omega), ih (x + 1) (by omega)]
      by_cases c : τ 3 3 ≤ x
      · rw [if_pos c, if_pos c]
      · rw [isAlike_cg (h _ (by omega) (by omega)) (h _ (by omega) (by omega)) (h _ (by omega) (by omega)) (h _ (by omega) (by omega))]
  exact lp 41 0 (by omega)
/-- what finding troubles leaves alone -/
def TFr (τ τ' : Sg) : Prop := (∀ x, x < 439 → x ≠ 13 → τ' x = τ x) ∧ (∀ s, s ≠ 6 → τ' 13 s = τ 13 s) ∧ ∀ q s : Nat, s ≠ 7 → s ≠ 8 → s ≠ 9 → τ' (439 + q) s = τ (439 + q) s
theorem TFr.rf (τ : Sg) : TFr τ τ := ⟨fun _ _ _ => rfl, fun _ _ => rfl, fun _ _ _ _ _ => rfl⟩
theorem TFr.tr {a b c : Sg} (h : TFr a b) (k : TFr b c) : TFr a c := ⟨fun x u v => (k.1 x u v).trans (h.1 x u v), fun s u => (k.2.1 s u).trans (h.2.1 s u), fun q s u v w => (k.2.2 q s u v w).trans (h.2.2 q s u v w)⟩
theorem TFr.gd {a b : Sg} (h : TFr a b) (q : Nat) : good b q ↔ good a q := by
  unfold good
  rw [h.2.2 q 5 (by decide) (by decide) (by decide)]
theorem TFr.al {a b : Sg} (h : TFr a b) {c d : Nat} (hc : 57 ≤ c ∧ c < 438) (hd : 57 ≤ d ∧ d < 438) : AlX b c d (b 3 5) ↔ AlX a c d (a 3 5) := by
  rw [h.1 3 (by omega) (by omega)]
  exact AlX.mv (h.1 _ (by omega) (by omega)) (h.1 _ (by omega) (by omega)) (h.1 _ (by omega) (by omega)) (h.1 _ (by omega) (by omega))
theorem FreeK.mv {a b : Sg} {m k : Nat} (hm : m ≤ 40) (hk : k < m) (h : FreeK a m k) (hf : TFr a b) (hB : SB a) (h9 : b (439 + k) 9 = a (439 + k) 9) : FreeK b m k := by
  have e3 := hf.2.2 k 3 (by decide) (by decide) (by decide)
  have efa : f_X7_findAlike b (201 + 6 * k) (b (439 + k) 3) = f_X7_findAlike a (201 + 6 * k) (a (439 + k) 3) := by rw [e3]; exact fa_cg hf.1 hB (by omega) _
  refine ⟨fun x h1 h2 h3 => ?_, ?_⟩
  · rw [hf.al (by omega) (by omega)]
    exact h.1 x h1 h2 ((hf.gd x).mp h3)
  · rw [efa, h9]
    rcases h.2 with z | ⟨o, z1, z2, z3, z4, z5, z6⟩
    · exact Or.inl z
    · exact Or.inr ⟨o, z1, z2, by rw [hf.2.2 o 3 (by decide) (by decide) (by decide)]; exact z3, z4, (hf.gd o).mpr z5, by rw [hf.2.2 o 6 (by decide) (by decide) (by decide)]; exact z6⟩
theorem E2.mv {τ τ' ρ ρ' : Sg} {m : Nat} (hm : m ≤ 40) (h : E2 τ ρ m) (hf : TFr τ τ') (hr : ∀ x, x ≠ 45 → x ≠ 46 → ρ' x = ρ x) : E2 τ' ρ' m := fun k hk => by
  obtain ⟨e1, e2, e3, e4, e5, e6, e7⟩ := h k hk
  refine ⟨by rw [hf.2.2 k 3 (by decide) (by decide) (by decide), hr 42 (by decide) (by decide)]; exact e1, by rw [hr 42 (by decide) (by decide), hf.1 3 (by decide) (by decide)]; exact e2, by rw [hf.2.2 k 4 (by decide) (by decide) (by decide), hr 43 (by decide) (by decide)]; exact e3, by rw [hf.2.2 k 5 (by decide) (by decide) (by decide), hr 44 (by decide) (by decide)]; exact e4, by rw [hf.2.2 k 6 (by decide) (by decide) (by decide), hr 47 (by decide) (by decide)]; exact e5, e6.mv e7.2 ⟨hf.1 _ (by omega) (by omega), hf.1 _ (by omega) (by omega)⟩ (RowS.of (hr 29 (by decide) (by decide)) (hr 30 (by decide) (by decide)) (hr 31 (by decide) (by decide)) _), by rw [hf.1 _ (by omega) (by omega)]; exact e7⟩
theorem SimS.tf {τ τ' ρ ρ' : Sg} (h : SimS τ ρ) (hB : SB τ) (hf : ∀ x, x < 139 → x ≠ 13 → τ' x = τ x) (g28 : ∀ k, (k = 4 ∨ k = 5) → ρ' 28 k = ρ 28 k) (g32 : ρ' 32 = ρ 32) (hr : ∀ r, r < 40 → RowS ρ ρ' r) : SimS τ' ρ' := by
  have b3 := hB.1
  have e3 := hf 3 (by decide) (by decide)
  refine ⟨by rw [e3, g28 5 (by omega)]; exact h.1, by rw [e3, g28 4 (by omega)]; exact h.2.1, fun f hf' => ?_, fun f hf' => ?_, by rw [e3, hf 5 (by decide) (by decide)]; exact h.2.2.2.2⟩
  · rw [e3] at hf'
    rw [hf 5 (by decide) (by decide), g32]; exact h.2.2.1 f hf'
  · rw [e3] at hf'
    exact (h.2.2.2.1 f hf').mv (hB.2 f (by omega)).2 ⟨hf _ (by omega) (by omega), hf _ (by omega) (by omega)⟩ (hr f (by omega))
def cnd (ρ : Sg) : Nat → Int := fun j => if ρ 45 j = 0 then 0 else 1
/-- between: the troubles of the first k are found -/
def TL (τ ρ : Sg) (m k : Nat) : Prop := SimS τ ρ ∧ SB τ ∧ E2 τ ρ m ∧ τ 13 5 = (m : Int) ∧ ρ 28 26 = (m : Int) ∧ (∀ j : Nat, j < m → (τ (439 + j) 7 = 1 ↔ ¬ good τ j)) ∧ (∀ j : Nat, j < k → τ (439 + j) 7 = ρ 45 j ∧ τ (439 + j) 8 = ρ 46 j ∧ (0 ≤ ρ 45 j ∧ ρ 45 j ≤ 3) ∧ (ρ 45 j = 0 → FreeK τ m j)) ∧
  (∀ j : Nat, k ≤ j → j < m → (good τ j → τ (439 + j) 7 = 0) ∧ τ (439 + j) 8 = -1 ∧ τ (439 + j) 9 = -1) ∧ τ 13 6 = sm (cnd ρ) k ∧ (∀ j : Nat, j < m → ¬ τ (439 + j) 6 = 0 → f_X7_findAlike τ (201 + 6 * j) (τ (439 + j) 3) = -1)
theorem troubles_loop {m : Nat} (hm : m ≤ 40) (a0 a1 a2 a3 a4 : Int) : ∀ (n k : Nat) (τ ρ : Sg), m - k < n → k ≤ m → TL τ ρ m k → TL (L_X3_findTroubles_27 n (k : Int) τ) (L_X10_plan_297 a0 a1 a2 a3 a4 n (k : Int) ρ) m m ∧ TFr τ (L_X3_findTroubles_27 n (k : Int) τ) ∧ ∀ x, x ≠ 45 → x ≠ 46 → (L_X10_plan_297 a0 a1 a2 a3 a4 n (k : Int) ρ) x = ρ x
  | 0, k, τ, ρ, f1, hk, h => by omega
  | n + 1, k, τ, ρ, f1, hk, h => by
    have h' := h
    obtain ⟨hS, hB, hE, h5, h26, hn, hdone, hleft, hcnt, hst⟩ := h'
    rw [L_X3_findTroubles_27, L_X10_plan_297, h5, h26]
    by_cases c : (m : Int) ≤ (k : Int)
    · rw [if_pos c, if_pos c]
      have : k = m := by omega
      subst this
      exact ⟨h, TFr.rf _, fun _ _ _ => rfl⟩
    · rw [if_neg c, if_neg c, Int.toNat_natCast]
      have hkm : k < m := by omega
      obtain ⟨l1, l2, l3⟩ := hleft k (by omega) hkm
      -- what the reference first puts down
      have r45 : (up2 (up2 ρ 45 k 0) 46 k (-1)) 45 k = 0 := by rw [up2_cell _ _ _ (by decide), up2_same]
      have r46 : (up2 (up2 ρ 45 k 0) 46 k (-1)) 46 k = -1 := up2_same _ _ _ _
      have ro : ∀ j, j ≠ k → (up2 (up2 ρ 45 k 0) 46 k (-1)) 45 j = ρ 45 j ∧ (up2 (up2 ρ 45 k 0) 46 k (-1)) 46 j = ρ 46 j := fun j hj => ⟨by rw [up2_cell _ _ _ (by decide), up2_slot _ _ hj], by rw [up2_slot _ _ hj, up2_cell _ _ _ (by decide)]⟩
      have rx : ∀ x, x ≠ 45 → x ≠ 46 → (up2 (up2 ρ 45 k 0) 46 k (-1)) x = ρ x := fun x u v => by rw [up2_cell _ _ _ v, up2_cell _ _ _ u]
      unfold f_X10_findTrouble
      rw [Int.toNat_natCast]
      generalize up2 (up2 ρ 45 k 0) 46 k (-1) = P at r45 r46 ro rx ⊢
      have hS1 : SimS τ P := hS.tf hB (fun _ _ _ => rfl) (fun j _ => by rw [rx 28 (by decide) (by decide)]) (rx 32 (by decide) (by decide)) (fun r _ => RowS.of (rx 29 (by decide) (by decide)) (rx 30 (by decide) (by decide)) (rx 31 (by decide) (by decide)) r)
      have hE1 : E2 τ P m := hE.mv hm (TFr.rf τ) rx
      have bi := isBad_iff hE1 hkm
      -- on to the next
      have next : ∀ (T Q : Sg), TFr τ T → (∀ x, x ≠ 439 + k → x ≠ 13 → T x = τ x) → T (439 + k) 7 = Q 45 k → T (439 + k) 8 = Q 46 k → (0 ≤ Q 45 k ∧ Q 45 k ≤ 3) → (Q 45 k = 0 → FreeK T m k) → (T (439 + k) 7 = 1 ↔ ¬ good τ k) → (∀ j, j ≠ k → Q 45 j = ρ 45 j ∧ Q 46 j = ρ 46 j) → (∀ x, x ≠ 45 → x ≠ 46 → Q x = ρ x) → T 13 6 = τ 13 6 + (if Q 45 k = 0 then 0 else 1) →
          TL (L_X3_findTroubles_27 n ((k : Int) + 1) T) (L_X10_plan_297 a0 a1 a2 a3 a4 n ((k : Int) + 1) Q) m m ∧ TFr τ (L_X3_findTroubles_27 n ((k : Int) + 1) T) ∧ ∀ x, x ≠ 45 → x ≠ 46 → (L_X10_plan_297 a0 a1 a2 a3 a4 n ((k : Int) + 1) Q) x = ρ x := by
        intro T Q tf to t7 t8 trg tfree tn qo qx tc
        have tl : TL T Q m (k + 1) := by
          refine ⟨hS.tf hB (fun x u v => tf.1 x (by omega) v) (fun j _ => by rw [qx 28 (by decide) (by decide)]) (qx 32 (by decide) (by decide)) (fun r _ => RowS.of (qx 29 (by decide) (by decide)) (qx 30 (by decide) (by decide)) (qx 31 (by decide) (by decide)) r), ⟨by rw [tf.1 3 (by decide) (by decide)]; exact hB.1, fun f hf => by unfold lenOK; rw [tf.1 _ (by omega) (by omega)]; exact hB.2 f hf⟩, hE.mv hm tf qx, by rw [tf.2.1 5 (by decide)]; exact h5, by rw [qx 28 (by decide) (by decide)]; exact h26, fun j hj => ?_, fun j hj => ?_, fun j hj1 hj2 => ?_, ?_, fun j hj h6 => ?_⟩
          · rw [tf.gd j]
            by_cases w : j = k
            · subst w; exact tn
            · rw [to _ (by omega) (by omega)]; exact hn j hj
          · by_cases w : j = k
            · subst w; exact ⟨t7, t8, trg, tfree⟩
            · obtain ⟨d1, d2, d3, d4⟩ := hdone j (by omega)
              rw [to _ (by omega) (by omega), (qo j w).1, (qo j w).2]
              exact ⟨d1, d2, d3, fun z => (d4 z).mv hm (by omega) tf hB (by rw [to _ (by omega) (by omega)])⟩
          · rw [to _ (by omega) (by omega), tf.gd j]
            exact hleft j (by omega) hj2
          · rw [tc, sm_step, hcnt]
            congr 1
            exact sm_congr (fun i hi => by unfold cnd; rw [(qo i (by omega)).1])
          · rw [tf.2.2 j 6 (by decide) (by decide) (by decide)] at h6
            rw [tf.2.2 j 3 (by decide) (by decide) (by decide), fa_cg tf.1 hB (by omega)]
            exact hst j hj h6
        obtain ⟨g1, g2, g3⟩ := troubles_loop hm a0 a1 a2 a3 a4 n (k + 1) T Q (by omega) (by omega) tl
        rw [show ((k + 1 : Nat) : Int) = (k : Int) + 1 by omega] at g1 g2 g3
        exact ⟨g1, tf.tr g2, fun x u v => by rw [g3 x u v, qx x u v]⟩
      have t13 : ∀ (T : Sg) (v : Int), TFr τ T → TFr τ (up2 T 13 6 v) := fun T v tf => ⟨fun x u w => by rw [up2_cell _ _ _ w]; exact tf.1 x u w, fun s hs => by rw [up2_slot _ _ hs]; exact tf.2.1 s hs, fun q s u v w => by rw [up2_cell _ _ _ (by omega)]; exact tf.2.2 q s u v w⟩
      unfold f_X4_hasName
      by_cases c1 : τ (439 + k) 7 = 1
      · have ng := (hn k hkm).mp c1
        rw [if_pos c1, if_pos rfl, c1, if_neg (show ¬ (1 : Int) = 0 by decide), if_neg (fun z => ng (bi.mp z))]
        refine next (up2 τ 13 6 (τ 13 6 + 1)) (up2 P 45 k 1) (t13 τ _ (TFr.rf τ)) (fun x u v => up2_cell _ _ _ v) ?_ ?_ ?_ ?_ ?_ ?_ ?_ ?_
        · rw [up2_cell _ _ _ (by omega), up2_same]; exact c1
        · rw [up2_cell _ _ _ (by omega), up2_cell _ _ _ (by decide), r46]; exact l2
        · rw [up2_same]; omega
        · rw [up2_same]; intro z; omega
        · rw [up2_cell _ _ _ (by omega)]; exact hn k hkm
        · intro j hj
          exact ⟨by rw [up2_slot _ _ hj]; exact (ro j hj).1, by rw [up2_cell _ _ _ (by decide)]; exact (ro j hj).2⟩
        · intro x u v
          rw [up2_cell _ _ _ u]; exact rx x u v
        · rw [up2_same, up2_same, if_neg (by decide)]
      · have gd : good τ k := by
          rcases Classical.em (good τ k) with z | z
          · exact z
          · exact absurd ((hn k hkm).mpr z) c1
        rw [if_neg c1, if_neg (show ¬ (1 : Int) = 0 by decide), if_pos (bi.mpr gd)]
        have tk := trouble_loop hm hkm hS1 hB hE1 h5 (by rw [rx 28 (by decide) (by decide)]; exact h26) hn (l1 gd) l2 l3 r45 r46 (hst k hkm) 41 0 (by omega) (by omega) (by omega) (fun j a => by omega)
        have edef : f_X3_findTroubleWithOthers τ (k : Int) = L_X3_findTroubleWithOthers_10 τ (k : Int) (439 + k) 41 0 := by
          unfold f_X3_findTroubleWithOthers
          rw [Int.toNat_natCast]
        rw [edef]
        generalize L_X3_findTroubleWithOthers_10 τ (k : Int) (439 + k) 41 0 = T at tk ⊢
        generalize L_X10_findTrouble_32 P (k : Int) 41 0 = Q at tk ⊢
        obtain ⟨k1, k2, k3, k4, k5, k6, k7, k8⟩ := tk
        have tf : TFr τ T := ⟨fun x u v => k5 x (by omega), fun s _ => by rw [k5 13 (by omega)], fun q s u v w => by
          by_cases e : q = k
          · subst e; exact k4 s u v w
          · rw [k5 _ (by omega)]⟩
        have qo : ∀ j, j ≠ k → Q 45 j = ρ 45 j ∧ Q 46 j = ρ 46 j := fun j hj => ⟨by rw [(k6 j hj).1]; exact (ro j hj).1, by rw [(k6 j hj).2]; exact (ro j hj).2⟩
        have qx : ∀ x, x ≠ 45 → x ≠ 46 → Q x = ρ x := fun x u v => by rw [k7 x u v]; exact rx x u v
        have tn : T (439 + k) 7 = 1 ↔ ¬ good τ k := ⟨fun z => by rw [k1] at z; omega, fun z => absurd gd z⟩
        by_cases c2 : T (439 + k) 7 = 0
        · rw [if_pos c2]
          refine next T Q tf (fun x u _ => k5 x u) k1 k2 (by omega) k8 tn qo qx ?_
          rw [← k1, if_pos c2, k5 13 (by omega)]; omega
        · rw [if_neg c2]
          refine next (up2 T 13 6 (T 13 6 + 1)) Q (t13 T _ tf) (fun x u v => by rw [up2_cell _ _ _ v]; exact k5 x u) (by rw [up2_cell _ _ _ (by omega)]; exact k1) (by rw [up2_cell _ _ _ (by omega)]; exact k2) (by omega) (fun z => by rw [← k1] at z; exact absurd z c2) (by rw [up2_cell _ _ _ (by omega)]; exact tn) qo qx ?_
          rw [up2_same, ← k1, if_neg c2, k5 13 (by omega)]
theorem troublesM {ρ : Sg} {m : Nat} (hm : m ≤ 40) (h25 : ¬ ρ 28 25 = 0) (h26 : ρ 28 26 = (m : Int)) : ∀ (n k : Nat) (c : Int), m - k < n → k ≤ m → c = sm (cnd ρ) k → L_X10_troubles_4 ρ n c (k : Int) = sm (cnd ρ) m
  | 0, k, c, f1, hk, hc => by omega
  | n + 1, k, c, f1, hk, hc => by
    rw [L_X10_troubles_4, h26, Int.toNat_natCast]
    by_cases q : (m : Int) ≤ (k : Int)
    · rw [if_pos q, hc, show k = m by omega]
    · rw [if_neg q, if_neg h25, show ((k : Int) + 1) = ((k + 1 : Nat) : Int) by omega]
      have e : sm (cnd ρ) (k + 1) = sm (cnd ρ) k + (if ρ 45 k = 0 then 0 else 1) := rfl
      by_cases w : ρ 45 k = 0
      · rw [if_pos w]
        exact troublesM hm h25 h26 n (k + 1) c (by omega) (by omega) (by rw [e, if_pos w, hc]; omega)
      · rw [if_neg w]
        exact troublesM hm h25 h26 n (k + 1) (c + 1) (by omega) (by omega) (by rw [e, if_neg w, hc])
theorem troublesM_eq {ρ : Sg} {m : Nat} (hm : m ≤ 40) (h25 : ¬ ρ 28 25 = 0) (h26 : ρ 28 26 = (m : Int)) : f_X10_troubles ρ = sm (cnd ρ) m := by
  have := troublesM hm h25 h26 41 0 0 (by omega) (by omega) rfl
  rw [show ((0 : Nat) : Int) = 0 by decide] at this
  unfold f_X10_troubles
  exact this
