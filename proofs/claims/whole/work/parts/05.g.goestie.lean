def gfd : Nat → Sg → Int → Int → Int → Int × Sg
  | 0, σ, a0, a1, a2 => f_X10_goes σ (fun σ _ _ _ _ => (0, σ)) a0 a1 a2
  | d + 1, σ, a0, a1, a2 => f_X10_goes σ (fun σ b0 b1 b2 b3 => f_X10_takes_ σ (gfd d) b0 b1 b2 b3) a0 a1 a2
theorem gfd_ok (l : Launch) (D : va_G) (cy : Nat → ClassId) (ad : Nat → Nat) : ∀ d : Nat, GOp l D cy ad (gfd d) (rmN (2 * d + 1)) (d : Int)
  | 0 => fun σ a0 h0 a1 h1 a2 h2 it0 sz0 hit hsz hk hf hd => c_X10_goes l D cy ad σ (fun σ _ _ _ _ => (0, σ)) (rmN 1) (rmN 0) (by show 0 + 1 ≤ 1; omega) (by show 8 + (5 + 11) + 40 * 0 ≤ 40 * 1; omega) rfl rfl 0 (fun σ a0 h0 a1 h1 a2 h2 a3 h3 it0 sz0 hit hsz hk hf hd => absurd hd (by omega)) a0 h0 a1 h1 a2 h2 it0 sz0 hit hsz hk hf hd
  | d + 1 => fun σ a0 h0 a1 h1 a2 h2 it0 sz0 hit hsz hk hf hd => c_X10_goes l D cy ad σ (fun σ b0 b1 b2 b3 => f_X10_takes_ σ (gfd d) b0 b1 b2 b3) (rmN (2 * (d + 1) + 1)) (rmN (2 * d + 2)) (by show 2 * d + 2 + 1 ≤ 2 * (d + 1) + 1; omega) (by show 8 + (5 + 11) + 40 * (2 * d + 2) ≤ 40 * (2 * (d + 1) + 1); omega) rfl rfl ((d : Int) + 1)
      (fun σ a0 h0 a1 h1 a2 h2 a3 h3 it0 sz0 hit hsz hk hf hd => c_X10_takes_ l D cy ad σ (gfd d) (rmN (2 * d + 2)) (rmN (2 * d + 1)) (by show 2 * d + 1 + 1 ≤ 2 * d + 2; omega) (by show 8 + (8 + 11) + 40 * (2 * d + 1) ≤ 40 * (2 * d + 2); omega) rfl rfl (d : Int) (gfd_ok l D cy ad d) a0 h0 a1 h1 a2 h2 a3 h3 it0 sz0 hit hsz hk hf hd)
      a0 h0 a1 h1 a2 h2 it0 sz0 hit hsz hk hf (by omega)
def f_X10_goesT (σ : Sg) (a0 : Int) (a1 : Int) (a2 : Int) : Int × Sg := gfd 12 σ a0 a1 a2
theorem c_X10_goesT (l : Launch) (D : va_G) (cy : Nat → ClassId) (ad : Nat → Nat) (σ : Sg) (a0 : Int) (h0 : (0 : Int) ≤ a0 ∧ a0 ≤ 159) (a1 : Int) (h1 : (0 : Int) ≤ a1 ∧ a1 ≤ 12) (a2 : Int) (h2 : (0 : Int) ≤ a2 ∧ a2 ≤ 12) (it0 sz0 : Int) (hit : σ 28 10 = it0) (hsz : σ 30 a0.toNat = sz0) (hk : a1 ≤ it0) (hf : a2 ≤ sz0) (hd : it0 - a1 ≤ 12) :
    CM l D cy ad yX10_goes wsX10_goes { frames := 25, cells := 0, slots := 0, locals := 1000 } [.ref (ad 28), .int (iI a0), .int (iI a1), .int (iI a2)] σ (some (.int (iI ((f_X10_goesT σ a0 a1 a2).1)))) ((f_X10_goesT σ a0 a1 a2).2) ((0 ≤ (f_X10_goesT σ a0 a1 a2).1 ∧ (f_X10_goesT σ a0 a1 a2).1 ≤ 1) ∧ ((f_X10_goesT σ a0 a1 a2).2) 28 10 = it0 ∧ ((f_X10_goesT σ a0 a1 a2).2) 30 a0.toNat = sz0) :=
  gfd_ok l D cy ad 12 σ a0 h0 a1 h1 a2 h2 it0 sz0 hit hsz hk hf hd
