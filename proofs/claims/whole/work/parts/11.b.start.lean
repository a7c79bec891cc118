theorem σ0_z {c : Nat} (h : 57 ≤ c ∧ c < 439) (k : Nat) : σ0 c k = 0 := by
  unfold σ0
  rw [if_neg (by omega)]
  split <;> first | omega | rfl
theorem σ0_zf {c : Nat} (h : 57 ≤ c ∧ c < 439) : σ0 c = fun _ => 0 := funext (σ0_z h)
theorem ce_lo (cy : Nat → ClassId) (B : Nat) : ∀ c, c < 59 → CE cy B c
  | 0, _ => ce_0 cy B
  | 1, _ => ce_1 cy B
  | 2, _ => ce_2 cy B
  | 3, _ => ce_3 cy B
  | 4, _ => ce_4 cy B
  | 5, _ => ce_5 cy B
  | 6, _ => ce_6 cy B
  | 7, _ => ce_7 cy B
  | 8, _ => ce_8 cy B
  | 9, _ => ce_9 cy B
  | 10, _ => ce_10 cy B
  | 11, _ => ce_11 cy B
  | 12, _ => ce_12 cy B
  | 13, _ => ce_13 cy B
  | 14, _ => ce_14 cy B
  | 15, _ => ce_15 cy B
  | 16, _ => ce_16 cy B
  | 17, _ => ce_17 cy B
  | 18, _ => ce_18 cy B
  | 19, _ => ce_19 cy B
  | 20, _ => ce_20 cy B
  | 21, _ => ce_21 cy B
  | 22, _ => ce_22 cy B
  | 23, _ => ce_23 cy B
  | 24, _ => ce_24 cy B
  | 25, _ => ce_25 cy B
  | 26, _ => ce_26 cy B
  | 27, _ => ce_27 cy B
  | 28, _ => ce_28 cy B
  | 29, _ => ce_29 cy B
  | 30, _ => ce_30 cy B
  | 31, _ => ce_31 cy B
  | 32, _ => ce_32 cy B
  | 33, _ => ce_33 cy B
  | 34, _ => ce_34 cy B
  | 35, _ => ce_35 cy B
  | 36, _ => ce_36 cy B
  | 37, _ => ce_37 cy B
  | 38, _ => ce_38 cy B
  | 39, _ => ce_39 cy B
  | 40, _ => ce_40 cy B
  | 41, _ => ce_41 cy B
  | 42, _ => ce_42 cy B
  | 43, _ => ce_43 cy B
  | 44, _ => ce_44 cy B
  | 45, _ => ce_45 cy B
  | 46, _ => ce_46 cy B
  | 47, _ => ce_47 cy B
  | 48, _ => ce_48 cy B
  | 49, _ => ce_49 cy B
  | 50, _ => ce_50 cy B
  | 51, _ => ce_51 cy B
  | 52, _ => ce_52 cy B
  | 53, _ => ce_53 cy B
  | 54, _ => ce_54 cy B
  | 55, _ => ce_55 cy B
  | 56, _ => ce_56 cy B
  | 57, _ => ce_57 cy B
  | 58, _ => ce_58 cy B
  | n + 59, h => by omega
theorem pl_el {cy : Nat → ClassId} {B c N : Nat} (hc : isPl c) (hp : pos (c + 1) = N) : (.inr (2, k_fs_X2 B N) : va_E) = celv cy (adB B) (σ0 c) c := by
  rw [cel_Pl cy (adB B) hc, σ0_zf ⟨hc.1, hc.2.1⟩]
  unfold k_fs_X2 fs_Pl adB
  rw [hp]
  rfl
theorem nm_el {cy : Nat → ClassId} {B c : Nat} (hc : isNm c) : (.inl (cy 0, 12, .inl (fun _ => iI 0)) : va_E) = celv cy (adB B) (σ0 c) c := by
  rw [cel_Nm cy (adB B) hc, σ0_zf ⟨hc.1, hc.2.1⟩]
theorem ce_pl {cy : Nat → ClassId} {B N b n o i c : Nat} (hi : i < n) (hb : ∀ j, (esP10 cy B)[o + j]? = (blkX2 cy B N b n)[j]? ∨ 2 * n ≤ j) (hc : isPl c) (hp : pos c = o + 2 * i) (hN : pos (c + 1) = N + (b + 2 * i + 1)) : CE cy B c := by
  refine ce_eq (x := .inr (2, k_fs_X2 B (N + (b + 2 * i + 1)))) ?_ (pl_el hc hN)
  rw [hp]
  rcases hb (2 * i) with h | h
  · rw [h]; exact (blkX2_get cy B N b n i hi).1
  · omega
theorem ce_nm {cy : Nat → ClassId} {B N b n o i c : Nat} (hi : i < n) (hb : ∀ j, (esP10 cy B)[o + j]? = (blkX2 cy B N b n)[j]? ∨ 2 * n ≤ j) (hc : isNm c) (hp : pos c = o + (2 * i + 1)) : CE cy B c := by
  refine ce_eq (x := .inl (cy 0, 12, .inl (fun _ => iI 0))) ?_ (nm_el hc)
  rw [hp]
  rcases hb (2 * i + 1) with h | h
  · rw [h]; exact (blkX2_get cy B N b n i hi).2
  · omega
theorem es_st (cy : Nat → ClassId) (B : Nat) : ∀ j, (esP10 cy B)[9 + j]? = (blkX2 cy B 6 3 40)[j]? ∨ 2 * 40 ≤ j := fun j => by
  by_cases h : j < 80
  · left
    rw [show 9 + j = 5 + (j + 4) by omega, es_3 cy B (j + 4) (by omega)]
    simp only [esS3, k_nw_X7, List.cons_append, List.nil_append, List.getElem?_cons_succ]
  · right; omega
theorem es_lk (cy : Nat → ClassId) (B : Nat) : ∀ j, (esP10 cy B)[91 + j]? = (blkX2 cy B 90 1 30)[j]? ∨ 2 * 30 ≤ j := fun j => by
  by_cases h : j < 60
  · left
    rw [show 91 + j = 89 + (j + 2) by omega, es_4 cy B (j + 2) (by omega)]
    simp only [esS4, k_nw_X1, List.cons_append, List.nil_append, List.getElem?_cons_succ]
  · right; omega
theorem es_pn (cy : Nat → ClassId) (B : Nat) {k r : Nat} (hk : k < 40) (hr : r < 7) : (esP10 cy B)[160 + 7 * k + r]? = (.inr (4, k_fs_X4 B (156 + (4 + 7 * k + 1))) :: k_nw_X4 cy B (156 + (4 + 7 * k + 1)))[r]? := by
  rw [show 160 + 7 * k + r = 155 + (7 * k + r + 5) by omega, es_6 cy B (7 * k + r + 5) (by omega), ← blkX4_get cy B 156 4 40 k r hk hr]
  simp only [esS6, k_nw_X3, List.cons_append, List.nil_append, List.getElem?_cons_succ]
theorem ce_all (cy : Nat → ClassId) (B : Nat) : ∀ c, c < 479 → CE cy B c := by
  intro c hc
  by_cases h1 : c < 59
  · exact ce_lo cy B c h1
  by_cases h2 : c < 139
  · have hp : pos c = 9 + (c - 59) := by unfold pos; rw [if_neg (by omega), if_neg (by omega), if_neg (by omega), if_pos (by omega)]
    by_cases o : c % 2 = 1
    · have hp2 : pos (c + 1) = 9 + (c + 1 - 59) := by unfold pos; rw [if_neg (by omega), if_neg (by omega), if_neg (by omega), if_pos (by omega)]
      exact ce_pl (i := (c - 59) / 2) (by omega) (es_st cy B) (by omega) (by omega) (by omega)
    · exact ce_nm (i := (c - 59) / 2) (by omega) (es_st cy B) (by omega) (by omega)
  by_cases h3 : c < 199
  · have hp : pos c = 91 + (c - 139) := by unfold pos; rw [if_neg (by omega), if_neg (by omega), if_pos (by omega)]
    by_cases o : c % 2 = 1
    · have hp2 : pos (c + 1) = 91 + (c + 1 - 139) := by unfold pos; rw [if_neg (by omega), if_neg (by omega), if_pos (by omega)]
      exact ce_pl (i := (c - 139) / 2) (by omega) (es_lk cy B) (by omega) (by omega) (by omega)
    · exact ce_nm (i := (c - 139) / 2) (by omega) (es_lk cy B) (by omega) (by omega)
  by_cases h4 : c < 439
  · obtain ⟨k, hk⟩ : ∃ k, k = (c - 199) / 6 := ⟨_, rfl⟩
    obtain ⟨r, hr⟩ : ∃ r, r = (c - 199) % 6 := ⟨_, rfl⟩
    have hp : pos c = 160 + 7 * k + (r + 1) := by unfold pos; rw [if_neg (by omega), if_pos (by omega)]; omega
    have g := es_pn cy B (k := k) (r := r + 1) (by omega) (by omega)
    by_cases o : c % 2 = 1
    · have hp2 : pos (c + 1) = 160 + 7 * k + (r + 2) := by unfold pos; rw [if_neg (by omega), if_pos (by omega)]; omega
      refine ce_eq (x := .inr (2, k_fs_X2 B (160 + 7 * k + (r + 2)))) ?_ (pl_el (by omega) hp2)
      rw [hp, g]
      rcases (show r = 0 ∨ r = 2 ∨ r = 4 by omega) with rfl | rfl | rfl
      · show some _ = some _
        rw [show 160 + 7 * k + (0 + 2) = 156 + (4 + 7 * k + 1) + 1 by omega]
      · show some _ = some _
        rw [show 160 + 7 * k + (2 + 2) = 156 + (4 + 7 * k + 1) + 3 by omega]
      · show some _ = some _
        rw [show 160 + 7 * k + (4 + 2) = 156 + (4 + 7 * k + 1) + 5 by omega]
    · refine ce_eq (x := .inl (cy 0, 12, .inl (fun _ => iI 0))) ?_ (nm_el (by omega))
      rw [hp, g]
      rcases (show r = 1 ∨ r = 3 ∨ r = 5 by omega) with rfl | rfl | rfl <;> rfl
  · obtain ⟨k, rfl⟩ : ∃ k, c = 439 + k := ⟨c - 439, by omega⟩
    have hp : pos (439 + k) = 160 + 7 * k + 0 := by unfold pos; rw [if_pos (by omega)]; omega
    have pq : ∀ r, r < 6 → pos (199 + 6 * k + r) = 161 + 7 * k + r := fun r hr => by unfold pos; rw [if_neg (by omega), if_pos (by omega)]; omega
    refine ce_eq (x := .inr (4, k_fs_X4 B (156 + (4 + 7 * k + 1)))) (by rw [hp, es_pn cy B (by omega) (by omega)]; rfl) ?_
    rw [cel_Pd cy (adB B) (by omega)]
    have q0 := pq 0 (by omega)
    have q2 := pq 2 (by omega)
    have q4 := pq 4 (by omega)
    have e0 : σ0 (439 + k) = σ0 439 := by funext j; unfold σ0; rw [if_pos (by omega), if_pos (by omega)]
    unfold k_fs_X4 fs_Pd adB
    rw [e0, show 439 + k - 439 = k by omega, show 201 + 6 * k = 199 + 6 * k + 2 by omega, show 203 + 6 * k = 199 + 6 * k + 4 by omega, q2, q4, show 199 + 6 * k = 199 + 6 * k + 0 by omega, q0]
    rw [show 156 + (4 + 7 * k + 1) + 0 = 161 + 7 * k + 0 by omega, show 156 + (4 + 7 * k + 1) + 2 = 161 + 7 * k + 2 by omega, show 156 + (4 + 7 * k + 1) + 4 = 161 + 7 * k + 4 by omega]
    rfl
/-- the world of all cells, from the list of all cells -/
theorem WR_start {D : va_G} {cy : Nat → ClassId} {B : Nat} {H : Heap} (h : va_P D vwCl (wl B (esP10 cy B)) H) : va_P D vwCl (WR cy (adB B) σ0) H := fun k q hk => by
  obtain ⟨h1, rfl⟩ := WR_inv hk
  obtain ⟨x, hx, hv⟩ := ce_all cy B k h1
  exact hv D H (h _ _ (wl_at hx))
theorem WR_startD (cy : Nat → ClassId) (B : Nat) {A : Nat → Prop} (hA : ∀ q, B ≤ q → A q) : va_D A (WR cy (adB B) σ0) := ⟨fun i j p q hi hj hpq => by
    obtain ⟨h1, rfl⟩ := WR_inv hi
    obtain ⟨h2, rfl⟩ := WR_inv hj
    have : B + pos i = B + pos j := hpq
    rw [← sop_pos i h1, ← sop_pos j h2, show pos i = pos j by omega], fun k q hk => by
    obtain ⟨h1, rfl⟩ := WR_inv hk
    exact hA _ (Nat.le_add_right _ _)⟩
