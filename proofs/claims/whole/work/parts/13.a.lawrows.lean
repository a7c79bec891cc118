/-! The law's loop: rows. -/
abbrev LV (s : State) (b k : Nat) : List (Nat × Value) := [(4, .int (iI (6 * (k : Int)))), (3, .ref (adB s.heap.size 56)), (2, .ref (adB s.heap.size 28)), (1, .ref (adB s.heap.size 0)), (0, .ref b)]
def sv (xs : Nat → Int32) (j : Nat) : Int := (xs j).toInt
theorem sv_rng (xs : Nat → Int32) (j : Nat) : -2147483648 ≤ sv xs j ∧ sv xs j < 2147483648 := iI_rng _
theorem sv_i (xs : Nat → Int32) (j : Nat) : iI (sv xs j) = xs j := by unfold sv; exact (iI_of _)
def bI (a : Int) : Int := if a = 0 then 0 else 1
theorem bI_rng (a : Int) : (0 : Int) ≤ bI a ∧ bI a ≤ 1 := by unfold bI; split <;> omega
theorem nAB {s : State} {b : Nat} (hb : b < s.heap.size) : ¬ AA (adB s.heap.size) s.heap.size b := by
  rintro (⟨c, -, h⟩ | h)
  · unfold adB at h; omega
  · omega
def LX (p : Program) (l : Launch) (s : State) (m : MethodId) (args : Array Value) (meth : Method) (c : Code) (D : va_G) (cy : Nat → ClassId) (b L : Nat) (xs : Nat → Int32) (sa sb : Nat) : Prop :=
  p.tables.exec = Jvm.exec ∧ c.code = cL_law ∧ c.maxLocals = 7 ∧ s.vm.findClass RL = some m.cls ∧ (∀ w ∈ lwS, w.before args s = true) ∧ va_K D vwCl (tyl cy) s ∧ NW s ∧ va_X b L xs s s.heap ∧ b < s.heap.size ∧ TZ (AA (adB s.heap.size) s.heap.size) sa sb s s.heap ∧ l.stackTraces = false
section LR
variable {p : Program} {l : Launch} {e : Env} {R : Room} {s : State} {m : MethodId} {args : Array Value} {below : List Frame} {meth : Method} {c : Code} {H : Heap} {locs : List Loc} {cells slots : Nat} {Q : State → Prop}
variable {cc : ByteArray} {pc : Nat} {ls : Array Slot} {rest : List Value} {D : va_G} {cy : Nat → ClassId} {σ : Sg} {b L : Nat} {xs : Nat → Int32}
theorem g_scr {k : Nat} (j : Nat) (hx : p.tables.exec = Jvm.exec) (hb : c.code = cc) (hX : va_X b L xs s s.heap) (hbl : b < s.heap.size) (hI : HI D cy (adB s.heap.size) s σ H locs) (hl : lv_has ls 7 (LV s b k)) (hk : 6 * k + 6 ≤ L) (hL : L ≤ 3072) (hj : j < 6)
    (d0 : decode cc pc = .ok (.aload_n 0, 1)) (d1 : decode cc (pc + 1) = .ok (.iload 4, 2)) (d2 : decode cc (pc + 3) = .ok (.iconst (j : Int), 1)) (d3 : decode cc (pc + 4) = .ok (.iadd, 1)) (d4 : decode cc (pc + 5) = .ok (.iaload, 1))
    (kk : W p l e R s m args below meth c H locs cells slots Q (F0 m (pc + 6) ls (.int (iI (sv xs (6 * k + j))) :: rest))) : W p l e R s m args below meth c H locs cells slots Q (F0 m pc ls rest) := by
  refine lv_aload_n hx hb d0 rfl (lv_at hl 4 rfl) ?_
  refine lv_iload hx hb d1 (lv_at hl 0 rfl) ?_
  refine lv_iconst (v := iI (j : Int)) hx hb d2 rfl ?_
  refine g_iadd hx hb d3 ?_
  refine va_sld hx hb hX hbl (nAB hbl) hI.2.2.1 (iI_in (by omega) (by omega) (by omega)) d4 ?_
  rw [iI_clamp (by omega) (by omega), show (6 * (k : Int) + (j : Int)).toNat = 6 * k + j by omega, ← sv_i xs (6 * k + j)]
  exact kk
theorem b_conv (hx : p.tables.exec = Jvm.exec) (hb : c.code = cc) {a : Int} (ha : -2147483648 ≤ a ∧ a < 2147483648) (d0 : decode cc pc = .ok (.ifCond .eq 7, 3)) (d1 : decode cc (pc + 3) = .ok (.iconst 1, 1)) (d2 : decode cc (pc + 4) = .ok (.goto 4, 3)) (d3 : decode cc (pc + 7) = .ok (.iconst 0, 1))
    (kk : W p l e R s m args below meth c H locs cells slots Q (F0 m (pc + 8) ls (.int (iI (bI a)) :: rest))) : W p l e R s m args below meth c H locs cells slots Q (F0 m pc ls (.int (iI a) :: rest)) := by
  refine g_if_eq (tgt := pc + 7) hx hb d0 (by omega) ha (fun z => ?_) (fun z => ?_)
  · refine lv_iconst (v := iI 0) hx hb d3 rfl ?_
    rw [bI, if_pos z] at kk
    exact kk
  · refine lv_iconst (v := iI 1) hx hb d1 rfl ?_
    refine lv_goto (tgt := pc + 8) hx hb d2 (by omega) ?_
    rw [bI, if_neg z] at kk
    exact kk
end LR
