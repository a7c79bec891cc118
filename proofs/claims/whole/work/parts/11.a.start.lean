/-! All cells, as they came: the world at its beginning. -/
def pos (c : Nat) : Nat := if 439 ≤ c then 160 + 7 * (c - 439) else if 199 ≤ c then 161 + 7 * ((c - 199) / 6) + (c - 199) % 6 else if 139 ≤ c then 91 + (c - 139) else if 59 ≤ c then 9 + (c - 59) else if 57 ≤ c then 3 + (c - 57) else if 28 ≤ c then 450 + (c - 28) else if c < 3 then c else if c < 7 then c + 2 else if c < 9 then c + 82 else if c < 18 then c + 142 else c + 422
def sop (j : Nat) : Nat := if j < 3 then j else if j < 5 then 57 + (j - 3) else if j < 9 then j - 2 else if j < 89 then 59 + (j - 9) else if j < 91 then j - 82 else if j < 151 then 139 + (j - 91) else if j < 160 then j - 142 else if j < 440 then (if (j - 160) % 7 = 0 then 439 + (j - 160) / 7 else 199 + 6 * ((j - 160) / 7) + ((j - 160) % 7 - 1)) else if j < 450 then j - 422 else 28 + (j - 450)
theorem sop_pos : ∀ c, c < 479 → sop (pos c) = c := by decide +kernel
def σ0 : Sg := fun c k => if 439 ≤ c then (match k with | 3 => -1 | 8 => -1 | 9 => -1 | _ => 0) else match c with
  | 0 => (match k with | 7 => 1 | 9 => -1 | _ => 0)
  | 18 => (match k with | 7 => -1 | _ => 0)
  | 23 => (match k with | 7 => -1 | _ => 0)
  | 28 => (match k with | 20 => -1 | _ => 0)
  | _ => 0
def adB (B : Nat) : Nat → Nat := fun c => B + pos c
theorem sg_r {α : Type} {A L : List α} {n j : Nat} (h : A.length = n) : (A ++ L)[n + j]? = L[j]? := by subst h; rw [List.getElem?_append_right (by omega), Nat.add_sub_cancel_left]
theorem sg_l {α : Type} {A L : List α} {n i : Nat} (h : A.length = n) (hi : i < n) : (A ++ L)[i]? = A[i]? := List.getElem?_append_left (by omega)
def esS0 (cy : Nat → ClassId) (B : Nat) : List va_E := [.inr (8, k_fs_X9 B 1)]
theorem esS0_len (cy : Nat → ClassId) (B : Nat) : (esS0 cy B).length = 1 := rfl
def esS1 (cy : Nat → ClassId) (B : Nat) : List va_E := .inr (7, k_fs_X8 B 2) :: k_nw_X8 cy B 2
theorem esS1_len (cy : Nat → ClassId) (B : Nat) : (esS1 cy B).length = 2 := by rw [esS1, List.length_cons, k_ln_X8]
def esS2 (cy : Nat → ClassId) (B : Nat) : List va_E := .inr (2, k_fs_X2 B 4) :: k_nw_X2 cy B 4
theorem esS2_len (cy : Nat → ClassId) (B : Nat) : (esS2 cy B).length = 2 := by rw [esS2, List.length_cons, k_ln_X2]
def esS3 (cy : Nat → ClassId) (B : Nat) : List va_E := .inr (6, k_fs_X7 B 6) :: k_nw_X7 cy B 6
theorem esS3_len (cy : Nat → ClassId) (B : Nat) : (esS3 cy B).length = 84 := by rw [esS3, List.length_cons, k_ln_X7]
def esS4 (cy : Nat → ClassId) (B : Nat) : List va_E := .inr (1, k_fs_X1 B 90) :: k_nw_X1 cy B 90
theorem esS4_len (cy : Nat → ClassId) (B : Nat) : (esS4 cy B).length = 62 := by rw [esS4, List.length_cons, k_ln_X1]
def esS5 (cy : Nat → ClassId) (B : Nat) : List va_E := .inr (0, k_fs_X0 B 152) :: k_nw_X0 cy B 152
theorem esS5_len (cy : Nat → ClassId) (B : Nat) : (esS5 cy B).length = 4 := by rw [esS5, List.length_cons, k_ln_X0]
def esS6 (cy : Nat → ClassId) (B : Nat) : List va_E := .inr (3, k_fs_X3 B 156) :: k_nw_X3 cy B 156
theorem esS6_len (cy : Nat → ClassId) (B : Nat) : (esS6 cy B).length = 285 := by rw [esS6, List.length_cons, k_ln_X3]
def esS7 (cy : Nat → ClassId) (B : Nat) : List va_E := .inr (5, k_fs_X5 B 441) :: k_nw_X5 cy B 441
theorem esS7_len (cy : Nat → ClassId) (B : Nat) : (esS7 cy B).length = 5 := by rw [esS7, List.length_cons, k_ln_X5]
def esS8 (cy : Nat → ClassId) (B : Nat) : List va_E := .inr (5, k_fs_X5 B 446) :: k_nw_X5 cy B 446
theorem esS8_len (cy : Nat → ClassId) (B : Nat) : (esS8 cy B).length = 5 := by rw [esS8, List.length_cons, k_ln_X5]
def esS9 (cy : Nat → ClassId) (B : Nat) : List va_E := .inr (9, k_fs_X10 B 451) :: k_nw_X10 cy B 451
theorem esS9_len (cy : Nat → ClassId) (B : Nat) : (esS9 cy B).length = 28 := by rw [esS9, List.length_cons, k_ln_X10]
def esS10 (cy : Nat → ClassId) (B : Nat) : List va_E := [.inl (cy 5, 1, .inr (.inl (fun _ => 0)))]
theorem esS10_len (cy : Nat → ClassId) (B : Nat) : (esS10 cy B).length = 1 := rfl
def esP0 (cy : Nat → ClassId) (B : Nat) : List va_E := esS0 cy B
theorem esP0_len (cy : Nat → ClassId) (B : Nat) : (esP0 cy B).length = 1 := rfl
def esP1 (cy : Nat → ClassId) (B : Nat) : List va_E := esP0 cy B ++ esS1 cy B
theorem esP1_len (cy : Nat → ClassId) (B : Nat) : (esP1 cy B).length = 3 := by rw [esP1, List.length_append, esP0_len, esS1_len]
def esP2 (cy : Nat → ClassId) (B : Nat) : List va_E := esP1 cy B ++ esS2 cy B
theorem esP2_len (cy : Nat → ClassId) (B : Nat) : (esP2 cy B).length = 5 := by rw [esP2, List.length_append, esP1_len, esS2_len]
def esP3 (cy : Nat → ClassId) (B : Nat) : List va_E := esP2 cy B ++ esS3 cy B
theorem esP3_len (cy : Nat → ClassId) (B : Nat) : (esP3 cy B).length = 89 := by rw [esP3, List.length_append, esP2_len, esS3_len]
def esP4 (cy : Nat → ClassId) (B : Nat) : List va_E := esP3 cy B ++ esS4 cy B
theorem esP4_len (cy : Nat → ClassId) (B : Nat) : (esP4 cy B).length = 151 := by rw [esP4, List.length_append, esP3_len, esS4_len]
def esP5 (cy : Nat → ClassId) (B : Nat) : List va_E := esP4 cy B ++ esS5 cy B
theorem esP5_len (cy : Nat → ClassId) (B : Nat) : (esP5 cy B).length = 155 := by rw [esP5, List.length_append, esP4_len, esS5_len]
def esP6 (cy : Nat → ClassId) (B : Nat) : List va_E := esP5 cy B ++ esS6 cy B
theorem esP6_len (cy : Nat → ClassId) (B : Nat) : (esP6 cy B).length = 440 := by rw [esP6, List.length_append, esP5_len, esS6_len]
def esP7 (cy : Nat → ClassId) (B : Nat) : List va_E := esP6 cy B ++ esS7 cy B
theorem esP7_len (cy : Nat → ClassId) (B : Nat) : (esP7 cy B).length = 445 := by rw [esP7, List.length_append, esP6_len, esS7_len]
def esP8 (cy : Nat → ClassId) (B : Nat) : List va_E := esP7 cy B ++ esS8 cy B
theorem esP8_len (cy : Nat → ClassId) (B : Nat) : (esP8 cy B).length = 450 := by rw [esP8, List.length_append, esP7_len, esS8_len]
def esP9 (cy : Nat → ClassId) (B : Nat) : List va_E := esP8 cy B ++ esS9 cy B
theorem esP9_len (cy : Nat → ClassId) (B : Nat) : (esP9 cy B).length = 478 := by rw [esP9, List.length_append, esP8_len, esS9_len]
def esP10 (cy : Nat → ClassId) (B : Nat) : List va_E := esP9 cy B ++ esS10 cy B
theorem esP10_len (cy : Nat → ClassId) (B : Nat) : (esP10 cy B).length = 479 := by rw [esP10, List.length_append, esP9_len, esS10_len]
theorem es_0 (cy : Nat → ClassId) (B j : Nat) (hj : j < 1) : (esP10 cy B)[0 + j]? = (esS0 cy B)[j]? := by rw [esP10, sg_l (esP9_len cy B) (by omega)]; rw [esP9, sg_l (esP8_len cy B) (by omega)]; rw [esP8, sg_l (esP7_len cy B) (by omega)]; rw [esP7, sg_l (esP6_len cy B) (by omega)]; rw [esP6, sg_l (esP5_len cy B) (by omega)]; rw [esP5, sg_l (esP4_len cy B) (by omega)]; rw [esP4, sg_l (esP3_len cy B) (by omega)]; rw [esP3, sg_l (esP2_len cy B) (by omega)]; rw [esP2, sg_l (esP1_len cy B) (by omega)]; rw [esP1, sg_l (esP0_len cy B) (by omega)]; rw [esP0, Nat.zero_add]
theorem es_1 (cy : Nat → ClassId) (B j : Nat) (hj : j < 2) : (esP10 cy B)[1 + j]? = (esS1 cy B)[j]? := by rw [esP10, sg_l (esP9_len cy B) (by omega)]; rw [esP9, sg_l (esP8_len cy B) (by omega)]; rw [esP8, sg_l (esP7_len cy B) (by omega)]; rw [esP7, sg_l (esP6_len cy B) (by omega)]; rw [esP6, sg_l (esP5_len cy B) (by omega)]; rw [esP5, sg_l (esP4_len cy B) (by omega)]; rw [esP4, sg_l (esP3_len cy B) (by omega)]; rw [esP3, sg_l (esP2_len cy B) (by omega)]; rw [esP2, sg_l (esP1_len cy B) (by omega)]; rw [esP1]; exact sg_r (esP0_len cy B)
theorem es_2 (cy : Nat → ClassId) (B j : Nat) (hj : j < 2) : (esP10 cy B)[3 + j]? = (esS2 cy B)[j]? := by rw [esP10, sg_l (esP9_len cy B) (by omega)]; rw [esP9, sg_l (esP8_len cy B) (by omega)]; rw [esP8, sg_l (esP7_len cy B) (by omega)]; rw [esP7, sg_l (esP6_len cy B) (by omega)]; rw [esP6, sg_l (esP5_len cy B) (by omega)]; rw [esP5, sg_l (esP4_len cy B) (by omega)]; rw [esP4, sg_l (esP3_len cy B) (by omega)]; rw [esP3, sg_l (esP2_len cy B) (by omega)]; rw [esP2]; exact sg_r (esP1_len cy B)
theorem es_3 (cy : Nat → ClassId) (B j : Nat) (hj : j < 84) : (esP10 cy B)[5 + j]? = (esS3 cy B)[j]? := by rw [esP10, sg_l (esP9_len cy B) (by omega)]; rw [esP9, sg_l (esP8_len cy B) (by omega)]; rw [esP8, sg_l (esP7_len cy B) (by omega)]; rw [esP7, sg_l (esP6_len cy B) (by omega)]; rw [esP6, sg_l (esP5_len cy B) (by omega)]; rw [esP5, sg_l (esP4_len cy B) (by omega)]; rw [esP4, sg_l (esP3_len cy B) (by omega)]; rw [esP3]; exact sg_r (esP2_len cy B)
theorem es_4 (cy : Nat → ClassId) (B j : Nat) (hj : j < 62) : (esP10 cy B)[89 + j]? = (esS4 cy B)[j]? := by rw [esP10, sg_l (esP9_len cy B) (by omega)]; rw [esP9, sg_l (esP8_len cy B) (by omega)]; rw [esP8, sg_l (esP7_len cy B) (by omega)]; rw [esP7, sg_l (esP6_len cy B) (by omega)]; rw [esP6, sg_l (esP5_len cy B) (by omega)]; rw [esP5, sg_l (esP4_len cy B) (by omega)]; rw [esP4]; exact sg_r (esP3_len cy B)
theorem es_5 (cy : Nat → ClassId) (B j : Nat) (hj : j < 4) : (esP10 cy B)[151 + j]? = (esS5 cy B)[j]? := by rw [esP10, sg_l (esP9_len cy B) (by omega)]; rw [esP9, sg_l (esP8_len cy B) (by omega)]; rw [esP8, sg_l (esP7_len cy B) (by omega)]; rw [esP7, sg_l (esP6_len cy B) (by omega)]; rw [esP6, sg_l (esP5_len cy B) (by omega)]; rw [esP5]; exact sg_r (esP4_len cy B)
theorem es_6 (cy : Nat → ClassId) (B j : Nat) (hj : j < 285) : (esP10 cy B)[155 + j]? = (esS6 cy B)[j]? := by rw [esP10, sg_l (esP9_len cy B) (by omega)]; rw [esP9, sg_l (esP8_len cy B) (by omega)]; rw [esP8, sg_l (esP7_len cy B) (by omega)]; rw [esP7, sg_l (esP6_len cy B) (by omega)]; rw [esP6]; exact sg_r (esP5_len cy B)
theorem es_7 (cy : Nat → ClassId) (B j : Nat) (hj : j < 5) : (esP10 cy B)[440 + j]? = (esS7 cy B)[j]? := by rw [esP10, sg_l (esP9_len cy B) (by omega)]; rw [esP9, sg_l (esP8_len cy B) (by omega)]; rw [esP8, sg_l (esP7_len cy B) (by omega)]; rw [esP7]; exact sg_r (esP6_len cy B)
theorem es_8 (cy : Nat → ClassId) (B j : Nat) (hj : j < 5) : (esP10 cy B)[445 + j]? = (esS8 cy B)[j]? := by rw [esP10, sg_l (esP9_len cy B) (by omega)]; rw [esP9, sg_l (esP8_len cy B) (by omega)]; rw [esP8]; exact sg_r (esP7_len cy B)
theorem es_9 (cy : Nat → ClassId) (B j : Nat) (hj : j < 28) : (esP10 cy B)[450 + j]? = (esS9 cy B)[j]? := by rw [esP10, sg_l (esP9_len cy B) (by omega)]; rw [esP9]; exact sg_r (esP8_len cy B)
theorem es_10 (cy : Nat → ClassId) (B j : Nat) (hj : j < 1) : (esP10 cy B)[478 + j]? = (esS10 cy B)[j]? := by rw [esP10]; exact sg_r (esP9_len cy B)
theorem blkX2_get (cy : Nat → ClassId) (B N b : Nat) : ∀ (n i : Nat), i < n → (blkX2 cy B N b n)[2 * i]? = some (.inr (2, k_fs_X2 B (N + (b + 2 * i + 1)))) ∧ (blkX2 cy B N b n)[2 * i + 1]? = some (.inl (cy 0, 12, .inl (fun _ => iI 0)))
  | 0, i, h => by omega
  | n + 1, i, h => by
    rw [blkX2]
    have hl := blkX2_len cy B N b n
    by_cases e : i = n
    · subst e
      exact ⟨by have := sg_r (L := (.inr (2, k_fs_X2 B (N + (b + 2 * i + 1))) :: k_nw_X2 cy B (N + (b + 2 * i + 1)))) (j := 0) hl; exact this, by have := sg_r (L := (.inr (2, k_fs_X2 B (N + (b + 2 * i + 1))) :: k_nw_X2 cy B (N + (b + 2 * i + 1)))) (j := 1) hl; exact this⟩
    · rw [sg_l hl (by omega), sg_l hl (by omega)]
      exact blkX2_get cy B N b n i (by omega)
theorem blkX4_get (cy : Nat → ClassId) (B N b : Nat) : ∀ (n i j : Nat), i < n → j < 7 → (blkX4 cy B N b n)[7 * i + j]? = (.inr (4, k_fs_X4 B (N + (b + 7 * i + 1))) :: k_nw_X4 cy B (N + (b + 7 * i + 1)))[j]?
  | 0, i, j, h, hj => by omega
  | n + 1, i, j, h, hj => by
    rw [blkX4]
    have hl := blkX4_len cy B N b n
    by_cases e : i = n
    · subst e
      exact sg_r hl
    · rw [sg_l hl (by omega)]
      exact blkX4_get cy B N b n i j (by omega) hj
/-- a cell of the list is the numbered cell -/
def CE (cy : Nat → ClassId) (B c : Nat) : Prop := ∃ x, (esP10 cy B)[pos c]? = some x ∧ ∀ (D : va_G) (H : Heap), va_at D vwCl (adB B c, x) H → va_at D vwCl (adB B c, celv cy (adB B) (σ0 c) c) H
theorem CE.of {cy : Nat → ClassId} {B c i j : Nat} {x : va_E} {S : List va_E} (h : ∀ j', (esP10 cy B)[i + j']? = S[j']? ∨ True) : True := trivial
theorem ce_eq {cy : Nat → ClassId} {B c : Nat} {x : va_E} (h : (esP10 cy B)[pos c]? = some x) (he : x = celv cy (adB B) (σ0 c) c) : CE cy B c := ⟨x, h, fun _ _ z => by rw [← he]; exact z⟩
theorem ce_rf {cy : Nat → ClassId} {B c n : Nat} {t : ClassId} {f g : Nat → Option Nat} (h : (esP10 cy B)[pos c]? = some (.inl (t, n, .inr (.inr (.inr (.inr f)))))) (he : celv cy (adB B) (σ0 c) c = .inl (t, n, .inr (.inr (.inr (.inr g))))) (hg : ∀ i, i < n → f i = g i) : CE cy B c := ⟨_, h, fun D H z => by
    rw [he]
    have z' : H[adB B c]? = some (vp_cell t (n, .inr (.inr (.inr (.inr f))))) := z
    show H[adB B c]? = some (vp_cell t (n, .inr (.inr (.inr (.inr g)))))
    rw [z', vp_cell_q, vp_cell_q]
    unfold arrV
    have : (Array.ofFn (n := n) fun j => va_rf (f j.val)) = Array.ofFn (n := n) fun j => va_rf (g j.val) := by
      congr 1
      funext j
      rw [hg j.val j.isLt]
    rw [this]⟩
theorem ce_0 (cy : Nat → ClassId) (B : Nat) : CE cy B 0 := ce_eq (c := 0) (es_0 cy B 0 (by decide)) rfl
theorem ce_1 (cy : Nat → ClassId) (B : Nat) : CE cy B 1 := ce_eq (c := 1) (es_1 cy B 0 (by decide)) rfl
theorem ce_2 (cy : Nat → ClassId) (B : Nat) : CE cy B 2 := ce_eq (c := 2) (es_1 cy B 1 (by decide)) rfl
theorem ce_3 (cy : Nat → ClassId) (B : Nat) : CE cy B 3 := ce_eq (c := 3) (es_3 cy B 0 (by decide)) rfl
theorem ce_4 (cy : Nat → ClassId) (B : Nat) : CE cy B 4 := ce_rf (c := 4) (es_3 cy B 1 (by decide)) rfl (fun i hi => by
  unfold rfI adB pos
  rw [if_pos hi]
  congr 1
  repeat' split
  all_goals omega)
theorem ce_5 (cy : Nat → ClassId) (B : Nat) : CE cy B 5 := ce_eq (c := 5) (es_3 cy B 2 (by decide)) rfl
theorem ce_6 (cy : Nat → ClassId) (B : Nat) : CE cy B 6 := ce_eq (c := 6) (es_3 cy B 3 (by decide)) rfl
theorem ce_7 (cy : Nat → ClassId) (B : Nat) : CE cy B 7 := ce_eq (c := 7) (es_4 cy B 0 (by decide)) rfl
theorem ce_8 (cy : Nat → ClassId) (B : Nat) : CE cy B 8 := ce_rf (c := 8) (es_4 cy B 1 (by decide)) rfl (fun i hi => by
  unfold rfI adB pos
  rw [if_pos hi]
  congr 1
  repeat' split
  all_goals omega)
theorem ce_9 (cy : Nat → ClassId) (B : Nat) : CE cy B 9 := ce_eq (c := 9) (es_5 cy B 0 (by decide)) rfl
theorem ce_10 (cy : Nat → ClassId) (B : Nat) : CE cy B 10 := ce_eq (c := 10) (es_5 cy B 1 (by decide)) rfl
theorem ce_11 (cy : Nat → ClassId) (B : Nat) : CE cy B 11 := ce_eq (c := 11) (es_5 cy B 2 (by decide)) rfl
theorem ce_12 (cy : Nat → ClassId) (B : Nat) : CE cy B 12 := ce_eq (c := 12) (es_5 cy B 3 (by decide)) rfl
theorem ce_13 (cy : Nat → ClassId) (B : Nat) : CE cy B 13 := ce_eq (c := 13) (es_6 cy B 0 (by decide)) rfl
theorem ce_14 (cy : Nat → ClassId) (B : Nat) : CE cy B 14 := ce_rf (c := 14) (es_6 cy B 1 (by decide)) rfl (fun i hi => by
  unfold rfI adB pos
  rw [if_pos hi]
  congr 1
  repeat' split
  all_goals omega)
theorem ce_15 (cy : Nat → ClassId) (B : Nat) : CE cy B 15 := ce_eq (c := 15) (es_6 cy B 2 (by decide)) rfl
theorem ce_16 (cy : Nat → ClassId) (B : Nat) : CE cy B 16 := ce_eq (c := 16) (es_6 cy B 3 (by decide)) rfl
theorem ce_17 (cy : Nat → ClassId) (B : Nat) : CE cy B 17 := ce_eq (c := 17) (es_6 cy B 4 (by decide)) rfl
theorem ce_18 (cy : Nat → ClassId) (B : Nat) : CE cy B 18 := ce_eq (c := 18) (es_7 cy B 0 (by decide)) rfl
theorem ce_19 (cy : Nat → ClassId) (B : Nat) : CE cy B 19 := ce_eq (c := 19) (es_7 cy B 1 (by decide)) rfl
theorem ce_20 (cy : Nat → ClassId) (B : Nat) : CE cy B 20 := ce_eq (c := 20) (es_7 cy B 2 (by decide)) rfl
theorem ce_21 (cy : Nat → ClassId) (B : Nat) : CE cy B 21 := ce_eq (c := 21) (es_7 cy B 3 (by decide)) rfl
theorem ce_22 (cy : Nat → ClassId) (B : Nat) : CE cy B 22 := ce_eq (c := 22) (es_7 cy B 4 (by decide)) rfl
theorem ce_23 (cy : Nat → ClassId) (B : Nat) : CE cy B 23 := ce_eq (c := 23) (es_8 cy B 0 (by decide)) rfl
theorem ce_24 (cy : Nat → ClassId) (B : Nat) : CE cy B 24 := ce_eq (c := 24) (es_8 cy B 1 (by decide)) rfl
theorem ce_25 (cy : Nat → ClassId) (B : Nat) : CE cy B 25 := ce_eq (c := 25) (es_8 cy B 2 (by decide)) rfl
theorem ce_26 (cy : Nat → ClassId) (B : Nat) : CE cy B 26 := ce_eq (c := 26) (es_8 cy B 3 (by decide)) rfl
theorem ce_27 (cy : Nat → ClassId) (B : Nat) : CE cy B 27 := ce_eq (c := 27) (es_8 cy B 4 (by decide)) rfl
theorem ce_28 (cy : Nat → ClassId) (B : Nat) : CE cy B 28 := ce_eq (c := 28) (es_9 cy B 0 (by decide)) rfl
theorem ce_29 (cy : Nat → ClassId) (B : Nat) : CE cy B 29 := ce_eq (c := 29) (es_9 cy B 1 (by decide)) rfl
theorem ce_30 (cy : Nat → ClassId) (B : Nat) : CE cy B 30 := ce_eq (c := 30) (es_9 cy B 2 (by decide)) rfl
theorem ce_31 (cy : Nat → ClassId) (B : Nat) : CE cy B 31 := ce_eq (c := 31) (es_9 cy B 3 (by decide)) rfl
theorem ce_32 (cy : Nat → ClassId) (B : Nat) : CE cy B 32 := ce_eq (c := 32) (es_9 cy B 4 (by decide)) rfl
theorem ce_33 (cy : Nat → ClassId) (B : Nat) : CE cy B 33 := ce_eq (c := 33) (es_9 cy B 5 (by decide)) rfl
theorem ce_34 (cy : Nat → ClassId) (B : Nat) : CE cy B 34 := ce_eq (c := 34) (es_9 cy B 6 (by decide)) rfl
theorem ce_35 (cy : Nat → ClassId) (B : Nat) : CE cy B 35 := ce_eq (c := 35) (es_9 cy B 7 (by decide)) rfl
theorem ce_36 (cy : Nat → ClassId) (B : Nat) : CE cy B 36 := ce_eq (c := 36) (es_9 cy B 8 (by decide)) rfl
theorem ce_37 (cy : Nat → ClassId) (B : Nat) : CE cy B 37 := ce_eq (c := 37) (es_9 cy B 9 (by decide)) rfl
theorem ce_38 (cy : Nat → ClassId) (B : Nat) : CE cy B 38 := ce_eq (c := 38) (es_9 cy B 10 (by decide)) rfl
theorem ce_39 (cy : Nat → ClassId) (B : Nat) : CE cy B 39 := ce_eq (c := 39) (es_9 cy B 11 (by decide)) rfl
theorem ce_40 (cy : Nat → ClassId) (B : Nat) : CE cy B 40 := ce_eq (c := 40) (es_9 cy B 12 (by decide)) rfl
theorem ce_41 (cy : Nat → ClassId) (B : Nat) : CE cy B 41 := ce_eq (c := 41) (es_9 cy B 13 (by decide)) rfl
theorem ce_42 (cy : Nat → ClassId) (B : Nat) : CE cy B 42 := ce_eq (c := 42) (es_9 cy B 14 (by decide)) rfl
theorem ce_43 (cy : Nat → ClassId) (B : Nat) : CE cy B 43 := ce_eq (c := 43) (es_9 cy B 15 (by decide)) rfl
theorem ce_44 (cy : Nat → ClassId) (B : Nat) : CE cy B 44 := ce_eq (c := 44) (es_9 cy B 16 (by decide)) rfl
theorem ce_45 (cy : Nat → ClassId) (B : Nat) : CE cy B 45 := ce_eq (c := 45) (es_9 cy B 17 (by decide)) rfl
theorem ce_46 (cy : Nat → ClassId) (B : Nat) : CE cy B 46 := ce_eq (c := 46) (es_9 cy B 18 (by decide)) rfl
theorem ce_47 (cy : Nat → ClassId) (B : Nat) : CE cy B 47 := ce_eq (c := 47) (es_9 cy B 19 (by decide)) rfl
theorem ce_48 (cy : Nat → ClassId) (B : Nat) : CE cy B 48 := ce_eq (c := 48) (es_9 cy B 20 (by decide)) rfl
theorem ce_49 (cy : Nat → ClassId) (B : Nat) : CE cy B 49 := ce_eq (c := 49) (es_9 cy B 21 (by decide)) rfl
theorem ce_50 (cy : Nat → ClassId) (B : Nat) : CE cy B 50 := ce_eq (c := 50) (es_9 cy B 22 (by decide)) rfl
theorem ce_51 (cy : Nat → ClassId) (B : Nat) : CE cy B 51 := ce_eq (c := 51) (es_9 cy B 23 (by decide)) rfl
theorem ce_52 (cy : Nat → ClassId) (B : Nat) : CE cy B 52 := ce_eq (c := 52) (es_9 cy B 24 (by decide)) rfl
theorem ce_53 (cy : Nat → ClassId) (B : Nat) : CE cy B 53 := ce_eq (c := 53) (es_9 cy B 25 (by decide)) rfl
theorem ce_54 (cy : Nat → ClassId) (B : Nat) : CE cy B 54 := ce_eq (c := 54) (es_9 cy B 26 (by decide)) rfl
theorem ce_55 (cy : Nat → ClassId) (B : Nat) : CE cy B 55 := ce_eq (c := 55) (es_9 cy B 27 (by decide)) rfl
theorem ce_56 (cy : Nat → ClassId) (B : Nat) : CE cy B 56 := ce_eq (c := 56) (es_10 cy B 0 (by decide)) rfl
theorem ce_57 (cy : Nat → ClassId) (B : Nat) : CE cy B 57 := ce_eq (c := 57) (es_2 cy B 0 (by decide)) rfl
theorem ce_58 (cy : Nat → ClassId) (B : Nat) : CE cy B 58 := ce_eq (c := 58) (es_2 cy B 1 (by decide)) rfl
