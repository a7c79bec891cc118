set_option maxHeartbeats 4000000 in
set_option maxRecDepth 100000 in
theorem law_0 {p : Program} {l : Launch} {e : Env} {s : State} {m : MethodId} {args : Array Value} {below : List Frame} {meth : Method} {c : Code} {D : va_G} {cy : Nat → ClassId} {b L : Nat} {xs : Nat → Int32} {sa sb : Nat} (X : LX p l s m args meth c D cy b L xs sa sb) {σ : Sg} {H : Heap} {locs : List Loc} {ls : Array Slot} {cells slots : Nat} {Q : State → Prop} {k : Nat} (hI : HI D cy (adB s.heap.size) s σ H locs) (hLI : LI σ) (hl : lv_has ls 7 (LV s b k)) (hk : 6 * k + 6 ≤ L) (hL : L ≤ 3072) (hcs : cells + 1 ≤ 601024 ∧ slots + 6 ≤ 7293034)
    (kk : ∀ (σ' : Sg) (H' : Heap) (locs' : List Loc) (ls' : Array Slot), HI D cy (adB s.heap.size) s σ' H' locs' → LI σ' → lv_has ls' 7 (LV s b k) → W p l e room_1 s m args below meth c H' locs' (cells + 1) (slots + 6) Q (F0 m 889 ls' [])) : W p l e room_1 s m args below meth c H locs cells slots Q (F0 m 144 ls []) := by
  obtain ⟨hx, hb, hml, hown, hts, hK, hN, hX, hbl, hZ, hnt⟩ := X
  have hF := hI.2.2.2
  refine lv_aload_n hx hb dL_law_144 rfl (lv_at hl 3 rfl) ?_
  refine g_scr 1 hx hb hX hbl hI hl hk hL (by decide) dL_law_145 dL_law_146 dL_law_148 dL_law_149 dL_law_150 ?_
  refine b_conv hx hb (sv_rng _ _) dL_law_151 dL_law_154 dL_law_155 dL_law_158 ?_
  refine g_V (As := [.int (iI (bI (sv xs (6 * k + 1))))]) (rest := []) 0 (c_X9_folds l D cy (adB s.heap.size) (σ) (bI (sv xs (6 * k + 1))) (bI_rng _)) hx hb hml hown hts hK hN hI hl.1 gL_law_X9_folds rfl hd_X9_folds rfl rfl ⟨by decide, by decide⟩ ⟨by show _ ≤ 601024; omega, by show _ ≤ 7293034; omega⟩ (by decide) (cel_0 cy _ _) rfl rfl rfl rfl (Nat.le_of_ble_eq_true rfl) dL_law_159 (fun H locs hG_1 hI => ?_)
  have hF1 := hI.2.2.2
  refine lv_aload_n hx hb dL_law_162 rfl (lv_at hl 2 rfl) ?_
  refine g_scr 1 hx hb hX hbl hI hl hk hL (by decide) dL_law_163 dL_law_164 dL_law_166 dL_law_167 dL_law_168 ?_
  refine b_conv hx hb (sv_rng _ _) dL_law_169 dL_law_172 dL_law_173 dL_law_176 ?_
  refine g_V (As := [.int (iI (bI (sv xs (6 * k + 1))))]) (rest := [.int (iI ((f_X9_folds (σ) (bI (sv xs (6 * k + 1)))).1))]) 28 (c_X10_folds l D cy (adB s.heap.size) ((f_X9_folds (σ) (bI (sv xs (6 * k + 1)))).2) (bI (sv xs (6 * k + 1))) (bI_rng _)) hx hb hml hown hts hK hN hI hl.1 gL_law_X10_folds rfl hd_X10_folds rfl rfl ⟨by decide, by decide⟩ ⟨by show _ ≤ 601024; omega, by show _ ≤ 7293034; omega⟩ (by decide) (cel_28 cy _ _) rfl rfl rfl rfl (Nat.le_of_ble_eq_true rfl) dL_law_177 (fun H locs hG_2 hI => ?_)
  have hF2 := hI.2.2.2
  have sim := s_folds (hLI.mid hF (fun x hx => fx_f_X9_folds σ (bI (sv xs (6 * k + 1))) hx)) hLI.2 hF hF1 (bI (sv xs (6 * k + 1)))
  refine lv_icmp_eq (tgt := 889) hx hb dL_law_180 (by decide) (fun _ => ?_) (fun z => absurd (congrArg iI sim.1) z)
  refine W.widen (k := cells + 1) (n := slots + 6) (by omega) (by omega) ?_
  exact kk _ _ _ _ hI (LI.end sim.2.1 sim.2.2 hF1 (fun x hx => mx_f_X10_folds _ (bI (sv xs (6 * k + 1))) hx)) hl
set_option maxHeartbeats 4000000 in
set_option maxRecDepth 100000 in
theorem law_1 {p : Program} {l : Launch} {e : Env} {s : State} {m : MethodId} {args : Array Value} {below : List Frame} {meth : Method} {c : Code} {D : va_G} {cy : Nat → ClassId} {b L : Nat} {xs : Nat → Int32} {sa sb : Nat} (X : LX p l s m args meth c D cy b L xs sa sb) {σ : Sg} {H : Heap} {locs : List Loc} {ls : Array Slot} {cells slots : Nat} {Q : State → Prop} {k : Nat} (hI : HI D cy (adB s.heap.size) s σ H locs) (hLI : LI σ) (hl : lv_has ls 7 (LV s b k)) (hk : 6 * k + 6 ≤ L) (hL : L ≤ 3072) (hcs : cells + 1 ≤ 601024 ∧ slots + 6 ≤ 7293034)
    (kk : ∀ (σ' : Sg) (H' : Heap) (locs' : List Loc) (ls' : Array Slot), HI D cy (adB s.heap.size) s σ' H' locs' → LI σ' → lv_has ls' 7 (LV s b k) → W p l e room_1 s m args below meth c H' locs' (cells + 1) (slots + 6) Q (F0 m 889 ls' [])) : W p l e room_1 s m args below meth c H locs cells slots Q (F0 m 185 ls []) := by
  obtain ⟨hx, hb, hml, hown, hts, hK, hN, hX, hbl, hZ, hnt⟩ := X
  have hF := hI.2.2.2
  refine lv_aload_n hx hb dL_law_185 rfl (lv_at hl 3 rfl) ?_
  refine g_scr 1 hx hb hX hbl hI hl hk hL (by decide) dL_law_186 dL_law_187 dL_law_189 dL_law_190 dL_law_191 ?_
  refine g_scr 2 hx hb hX hbl hI hl hk hL (by decide) dL_law_192 dL_law_193 dL_law_195 dL_law_196 dL_law_197 ?_
  refine g_scr 3 hx hb hX hbl hI hl hk hL (by decide) dL_law_198 dL_law_199 dL_law_201 dL_law_202 dL_law_203 ?_
  refine g_scr 4 hx hb hX hbl hI hl hk hL (by decide) dL_law_204 dL_law_205 dL_law_207 dL_law_208 dL_law_209 ?_
  refine g_scr 5 hx hb hX hbl hI hl hk hL (by decide) dL_law_210 dL_law_211 dL_law_213 dL_law_214 dL_law_215 ?_
  refine g_V (As := [.int (iI (sv xs (6 * k + 1))), .int (iI (sv xs (6 * k + 2))), .int (iI (sv xs (6 * k + 3))), .int (iI (sv xs (6 * k + 4))), .int (iI (sv xs (6 * k + 5)))]) (rest := []) 0 (c_X9_feed l D cy (adB s.heap.size) (σ) (sv xs (6 * k + 1)) (sv_rng _ _) (sv xs (6 * k + 2)) (sv_rng _ _) (sv xs (6 * k + 3)) (sv_rng _ _) (sv xs (6 * k + 4)) (sv_rng _ _) (sv xs (6 * k + 5)) (sv_rng _ _)) hx hb hml hown hts hK hN hI hl.1 gL_law_X9_feed rfl hd_X9_feed rfl rfl ⟨by decide, by decide⟩ ⟨by show _ ≤ 601024; omega, by show _ ≤ 7293034; omega⟩ (by decide) (cel_0 cy _ _) rfl rfl rfl rfl (Nat.le_of_ble_eq_true rfl) dL_law_216 (fun H locs hG_1 hI => ?_)
  have hF1 := hI.2.2.2
  refine lv_aload_n hx hb dL_law_219 rfl (lv_at hl 2 rfl) ?_
  refine g_scr 1 hx hb hX hbl hI hl hk hL (by decide) dL_law_220 dL_law_221 dL_law_223 dL_law_224 dL_law_225 ?_
  refine g_scr 2 hx hb hX hbl hI hl hk hL (by decide) dL_law_226 dL_law_227 dL_law_229 dL_law_230 dL_law_231 ?_
  refine g_scr 3 hx hb hX hbl hI hl hk hL (by decide) dL_law_232 dL_law_233 dL_law_235 dL_law_236 dL_law_237 ?_
  refine g_scr 4 hx hb hX hbl hI hl hk hL (by decide) dL_law_238 dL_law_239 dL_law_241 dL_law_242 dL_law_243 ?_
  refine g_scr 5 hx hb hX hbl hI hl hk hL (by decide) dL_law_244 dL_law_245 dL_law_247 dL_law_248 dL_law_249 ?_
  refine g_V (As := [.int (iI (sv xs (6 * k + 1))), .int (iI (sv xs (6 * k + 2))), .int (iI (sv xs (6 * k + 3))), .int (iI (sv xs (6 * k + 4))), .int (iI (sv xs (6 * k + 5)))]) (rest := [.int (iI ((f_X9_feed (σ) (sv xs (6 * k + 1)) (sv xs (6 * k + 2)) (sv xs (6 * k + 3)) (sv xs (6 * k + 4)) (sv xs (6 * k + 5))).1))]) 28 (c_X10_feed l D cy (adB s.heap.size) ((f_X9_feed (σ) (sv xs (6 * k + 1)) (sv xs (6 * k + 2)) (sv xs (6 * k + 3)) (sv xs (6 * k + 4)) (sv xs (6 * k + 5))).2) (sv xs (6 * k + 1)) (sv_rng _ _) (sv xs (6 * k + 2)) (sv_rng _ _) (sv xs (6 * k + 3)) (sv_rng _ _) (sv xs (6 * k + 4)) (sv_rng _ _) (sv xs (6 * k + 5)) (sv_rng _ _)) hx hb hml hown hts hK hN hI hl.1 gL_law_X10_feed rfl hd_X10_feed rfl rfl ⟨by decide, by decide⟩ ⟨by show _ ≤ 601024; omega, by show _ ≤ 7293034; omega⟩ (by decide) (cel_28 cy _ _) rfl rfl rfl rfl (Nat.le_of_ble_eq_true rfl) dL_law_250 (fun H locs hG_2 hI => ?_)
  have hF2 := hI.2.2.2
  have sim := s_feed (hLI.mid hF (fun x hx => fx_f_X9_feed σ (sv xs (6 * k + 1)) (sv xs (6 * k + 2)) (sv xs (6 * k + 3)) (sv xs (6 * k + 4)) (sv xs (6 * k + 5)) hx)) hLI.2 hF (sv xs (6 * k + 1)) (sv xs (6 * k + 2)) (sv xs (6 * k + 3)) (sv xs (6 * k + 4)) (sv xs (6 * k + 5))
  refine lv_icmp_eq (tgt := 889) hx hb dL_law_253 (by decide) (fun _ => ?_) (fun z => absurd (congrArg iI sim.1) z)
  refine W.widen (k := cells + 1) (n := slots + 6) (by omega) (by omega) ?_
  exact kk _ _ _ _ hI (LI.end sim.2.1 sim.2.2 hF1 (fun x hx => mx_f_X10_feed _ (sv xs (6 * k + 1)) (sv xs (6 * k + 2)) (sv xs (6 * k + 3)) (sv xs (6 * k + 4)) (sv xs (6 * k + 5)) hx)) hl
set_option maxHeartbeats 4000000 in
set_option maxRecDepth 100000 in
theorem law_2 {p : Program} {l : Launch} {e : Env} {s : State} {m : MethodId} {args : Array Value} {below : List Frame} {meth : Method} {c : Code} {D : va_G} {cy : Nat → ClassId} {b L : Nat} {xs : Nat → Int32} {sa sb : Nat} (X : LX p l s m args meth c D cy b L xs sa sb) {σ : Sg} {H : Heap} {locs : List Loc} {ls : Array Slot} {cells slots : Nat} {Q : State → Prop} {k : Nat} (hI : HI D cy (adB s.heap.size) s σ H locs) (hLI : LI σ) (hl : lv_has ls 7 (LV s b k)) (hk : 6 * k + 6 ≤ L) (hL : L ≤ 3072) (hcs : cells + 1 ≤ 601024 ∧ slots + 6 ≤ 7293034)
    (kk : ∀ (σ' : Sg) (H' : Heap) (locs' : List Loc) (ls' : Array Slot), HI D cy (adB s.heap.size) s σ' H' locs' → LI σ' → lv_has ls' 7 (LV s b k) → W p l e room_1 s m args below meth c H' locs' (cells + 1) (slots + 6) Q (F0 m 889 ls' [])) : W p l e room_1 s m args below meth c H locs cells slots Q (F0 m 258 ls []) := by
  obtain ⟨hx, hb, hml, hown, hts, hK, hN, hX, hbl, hZ, hnt⟩ := X
  have hF := hI.2.2.2
  refine lv_aload_n hx hb dL_law_258 rfl (lv_at hl 3 rfl) ?_
  refine g_scr 1 hx hb hX hbl hI hl hk hL (by decide) dL_law_259 dL_law_260 dL_law_262 dL_law_263 dL_law_264 ?_
  refine g_V (As := [.int (iI (sv xs (6 * k + 1)))]) (rest := []) 0 (c_X9_end l D cy (adB s.heap.size) (σ) (sv xs (6 * k + 1)) (sv_rng _ _)) hx hb hml hown hts hK hN hI hl.1 gL_law_X9_end rfl hd_X9_end rfl rfl ⟨by decide, by decide⟩ ⟨by show _ ≤ 601024; omega, by show _ ≤ 7293034; omega⟩ (by decide) (cel_0 cy _ _) rfl rfl rfl rfl (Nat.le_of_ble_eq_true rfl) dL_law_265 (fun H locs hG_1 hI => ?_)
  have hF1 := hI.2.2.2
  refine lv_aload_n hx hb dL_law_268 rfl (lv_at hl 2 rfl) ?_
  refine g_scr 1 hx hb hX hbl hI hl hk hL (by decide) dL_law_269 dL_law_270 dL_law_272 dL_law_273 dL_law_274 ?_
  refine g_V (As := [.int (iI (sv xs (6 * k + 1)))]) (rest := [.int (iI ((f_X9_end (σ) (sv xs (6 * k + 1))).1))]) 28 (c_X10_end l D cy (adB s.heap.size) ((f_X9_end (σ) (sv xs (6 * k + 1))).2) (sv xs (6 * k + 1)) (sv_rng _ _)) hx hb hml hown hts hK hN hI hl.1 gL_law_X10_end rfl hd_X10_end rfl rfl ⟨by decide, by decide⟩ ⟨by show _ ≤ 601024; omega, by show _ ≤ 7293034; omega⟩ (by decide) (cel_28 cy _ _) rfl rfl rfl rfl (Nat.le_of_ble_eq_true rfl) dL_law_275 (fun H locs hG_2 hI => ?_)
  have hF2 := hI.2.2.2
  have sim := s_end (hLI.mid hF (fun x hx => fx_f_X9_end σ (sv xs (6 * k + 1)) hx)) hLI.2 hF (sv xs (6 * k + 1))
  refine lv_icmp_eq (tgt := 889) hx hb dL_law_278 (by decide) (fun _ => ?_) (fun z => absurd (congrArg iI sim.1) z)
  refine W.widen (k := cells + 1) (n := slots + 6) (by omega) (by omega) ?_
  exact kk _ _ _ _ hI (LI.end sim.2.1 sim.2.2 hF1 (fun x hx => mx_f_X10_end _ (sv xs (6 * k + 1)) hx)) hl
set_option maxHeartbeats 4000000 in
set_option maxRecDepth 100000 in
theorem law_3 {p : Program} {l : Launch} {e : Env} {s : State} {m : MethodId} {args : Array Value} {below : List Frame} {meth : Method} {c : Code} {D : va_G} {cy : Nat → ClassId} {b L : Nat} {xs : Nat → Int32} {sa sb : Nat} (X : LX p l s m args meth c D cy b L xs sa sb) {σ : Sg} {H : Heap} {locs : List Loc} {ls : Array Slot} {cells slots : Nat} {Q : State → Prop} {k : Nat} (hI : HI D cy (adB s.heap.size) s σ H locs) (hLI : LI σ) (hl : lv_has ls 7 (LV s b k)) (hk : 6 * k + 6 ≤ L) (hL : L ≤ 3072) (hcs : cells + 1 ≤ 601024 ∧ slots + 6 ≤ 7293034)
    (kk : ∀ (σ' : Sg) (H' : Heap) (locs' : List Loc) (ls' : Array Slot), HI D cy (adB s.heap.size) s σ' H' locs' → LI σ' → lv_has ls' 7 (LV s b k) → W p l e room_1 s m args below meth c H' locs' (cells + 1) (slots + 6) Q (F0 m 889 ls' [])) : W p l e room_1 s m args below meth c H locs cells slots Q (F0 m 283 ls []) := by
  obtain ⟨hx, hb, hml, hown, hts, hK, hN, hX, hbl, hZ, hnt⟩ := X
  have hF := hI.2.2.2
  refine lv_aload_n hx hb dL_law_283 rfl (lv_at hl 3 rfl) ?_
  refine g_scr 1 hx hb hX hbl hI hl hk hL (by decide) dL_law_284 dL_law_285 dL_law_287 dL_law_288 dL_law_289 ?_
  refine g_V (As := [.int (iI (sv xs (6 * k + 1)))]) (rest := []) 0 (c_X9_file l D cy (adB s.heap.size) (σ) (sv xs (6 * k + 1)) (sv_rng _ _) (hLI.le hF)) hx hb hml hown hts hK hN hI hl.1 gL_law_X9_file rfl hd_X9_file rfl rfl ⟨by decide, by decide⟩ ⟨by show _ ≤ 601024; omega, by show _ ≤ 7293034; omega⟩ (by decide) (cel_0 cy _ _) rfl rfl rfl rfl (Nat.le_of_ble_eq_true rfl) dL_law_290 (fun H locs hG_1 hI => ?_)
  have hF1 := hI.2.2.2
  refine lv_aload_n hx hb dL_law_293 rfl (lv_at hl 2 rfl) ?_
  refine g_scr 1 hx hb hX hbl hI hl hk hL (by decide) dL_law_294 dL_law_295 dL_law_297 dL_law_298 dL_law_299 ?_
  refine g_V (As := [.int (iI (sv xs (6 * k + 1)))]) (rest := [.int (iI ((f_X9_file (σ) (sv xs (6 * k + 1))).1))]) 28 (c_X10_file l D cy (adB s.heap.size) ((f_X9_file (σ) (sv xs (6 * k + 1))).2) (sv xs (6 * k + 1)) (sv_rng _ _)) hx hb hml hown hts hK hN hI hl.1 gL_law_X10_file rfl hd_X10_file rfl rfl ⟨by decide, by decide⟩ ⟨by show _ ≤ 601024; omega, by show _ ≤ 7293034; omega⟩ (by decide) (cel_28 cy _ _) rfl rfl rfl rfl (Nat.le_of_ble_eq_true rfl) dL_law_300 (fun H locs hG_2 hI => ?_)
  have hF2 := hI.2.2.2
  have sim := s_file (hLI.mid hF (fun x hx => fx_f_X9_file σ (sv xs (6 * k + 1)) hx)) hLI.2 hF (sv xs (6 * k + 1))
  refine lv_icmp_eq (tgt := 889) hx hb dL_law_303 (by decide) (fun _ => ?_) (fun z => absurd (congrArg iI sim.1) z)
  refine W.widen (k := cells + 1) (n := slots + 6) (by omega) (by omega) ?_
  exact kk _ _ _ _ hI (LI.end sim.2.1 sim.2.2 hF1 (fun x hx => mx_f_X10_file _ (sv xs (6 * k + 1)) hx)) hl
set_option maxHeartbeats 4000000 in
set_option maxRecDepth 100000 in
theorem law_4 {p : Program} {l : Launch} {e : Env} {s : State} {m : MethodId} {args : Array Value} {below : List Frame} {meth : Method} {c : Code} {D : va_G} {cy : Nat → ClassId} {b L : Nat} {xs : Nat → Int32} {sa sb : Nat} (X : LX p l s m args meth c D cy b L xs sa sb) {σ : Sg} {H : Heap} {locs : List Loc} {ls : Array Slot} {cells slots : Nat} {Q : State → Prop} {k : Nat} (hI : HI D cy (adB s.heap.size) s σ H locs) (hLI : LI σ) (hl : lv_has ls 7 (LV s b k)) (hk : 6 * k + 6 ≤ L) (hL : L ≤ 3072) (hcs : cells + 1 ≤ 601024 ∧ slots + 6 ≤ 7293034)
    (kk : ∀ (σ' : Sg) (H' : Heap) (locs' : List Loc) (ls' : Array Slot), HI D cy (adB s.heap.size) s σ' H' locs' → LI σ' → lv_has ls' 7 (LV s b k) → W p l e room_1 s m args below meth c H' locs' (cells + 1) (slots + 6) Q (F0 m 889 ls' [])) : W p l e room_1 s m args below meth c H locs cells slots Q (F0 m 308 ls []) := by
  obtain ⟨hx, hb, hml, hown, hts, hK, hN, hX, hbl, hZ, hnt⟩ := X
  have hF := hI.2.2.2
  refine lv_aload_n hx hb dL_law_308 rfl (lv_at hl 3 rfl) ?_
  refine g_scr 1 hx hb hX hbl hI hl hk hL (by decide) dL_law_309 dL_law_310 dL_law_312 dL_law_313 dL_law_314 ?_
  refine g_V (As := [.int (iI (sv xs (6 * k + 1)))]) (rest := []) 0 (c_X9_remove l D cy (adB s.heap.size) (σ) (sv xs (6 * k + 1)) (sv_rng _ _) (hLI.ps hF _)) hx hb hml hown hts hK hN hI hl.1 gL_law_X9_remove rfl hd_X9_remove rfl rfl ⟨by decide, by decide⟩ ⟨by show _ ≤ 601024; omega, by show _ ≤ 7293034; omega⟩ (by decide) (cel_0 cy _ _) rfl rfl rfl rfl (Nat.le_of_ble_eq_true rfl) dL_law_315 (fun H locs hG_1 hI => ?_)
  have hF1 := hI.2.2.2
  refine lv_aload_n hx hb dL_law_318 rfl (lv_at hl 2 rfl) ?_
  refine g_scr 1 hx hb hX hbl hI hl hk hL (by decide) dL_law_319 dL_law_320 dL_law_322 dL_law_323 dL_law_324 ?_
  refine g_V (As := [.int (iI (sv xs (6 * k + 1)))]) (rest := [.int (iI ((f_X9_remove (σ) (sv xs (6 * k + 1))).1))]) 28 (c_X10_remove l D cy (adB s.heap.size) ((f_X9_remove (σ) (sv xs (6 * k + 1))).2) (sv xs (6 * k + 1)) (sv_rng _ _)) hx hb hml hown hts hK hN hI hl.1 gL_law_X10_remove rfl hd_X10_remove rfl rfl ⟨by decide, by decide⟩ ⟨by show _ ≤ 601024; omega, by show _ ≤ 7293034; omega⟩ (by decide) (cel_28 cy _ _) rfl rfl rfl rfl (Nat.le_of_ble_eq_true rfl) dL_law_325 (fun H locs hG_2 hI => ?_)
  have hF2 := hI.2.2.2
  have sim := s_remove (hLI.mid hF (fun x hx => fx_f_X9_remove σ (sv xs (6 * k + 1)) hx)) hLI.2 hF (sv xs (6 * k + 1))
  refine lv_icmp_eq (tgt := 889) hx hb dL_law_328 (by decide) (fun _ => ?_) (fun z => absurd (congrArg iI sim.1) z)
  refine W.widen (k := cells + 1) (n := slots + 6) (by omega) (by omega) ?_
  exact kk _ _ _ _ hI (LI.end sim.2.1 sim.2.2 hF1 (fun x hx => mx_f_X10_remove _ (sv xs (6 * k + 1)) hx)) hl
set_option maxHeartbeats 4000000 in
set_option maxRecDepth 100000 in
theorem law_5 {p : Program} {l : Launch} {e : Env} {s : State} {m : MethodId} {args : Array Value} {below : List Frame} {meth : Method} {c : Code} {D : va_G} {cy : Nat → ClassId} {b L : Nat} {xs : Nat → Int32} {sa sb : Nat} (X : LX p l s m args meth c D cy b L xs sa sb) {σ : Sg} {H : Heap} {locs : List Loc} {ls : Array Slot} {cells slots : Nat} {Q : State → Prop} {k : Nat} (hI : HI D cy (adB s.heap.size) s σ H locs) (hLI : LI σ) (hl : lv_has ls 7 (LV s b k)) (hk : 6 * k + 6 ≤ L) (hL : L ≤ 3072) (hcs : cells + 1 ≤ 601024 ∧ slots + 6 ≤ 7293034)
    (kk : ∀ (σ' : Sg) (H' : Heap) (locs' : List Loc) (ls' : Array Slot), HI D cy (adB s.heap.size) s σ' H' locs' → LI σ' → lv_has ls' 7 (LV s b k) → W p l e room_1 s m args below meth c H' locs' (cells + 1) (slots + 6) Q (F0 m 889 ls' [])) : W p l e room_1 s m args below meth c H locs cells slots Q (F0 m 333 ls []) := by
  obtain ⟨hx, hb, hml, hown, hts, hK, hN, hX, hbl, hZ, hnt⟩ := X
  have hF := hI.2.2.2
  refine lv_aload_n hx hb dL_law_333 rfl (lv_at hl 3 rfl) ?_
  refine g_scr 1 hx hb hX hbl hI hl hk hL (by decide) dL_law_334 dL_law_335 dL_law_337 dL_law_338 dL_law_339 ?_
  refine g_scr 2 hx hb hX hbl hI hl hk hL (by decide) dL_law_340 dL_law_341 dL_law_343 dL_law_344 dL_law_345 ?_
  refine g_V (As := [.int (iI (sv xs (6 * k + 1))), .int (iI (sv xs (6 * k + 2)))]) (rest := []) 0 (c_X9_hand l D cy (adB s.heap.size) (σ) (sv xs (6 * k + 1)) (sv_rng _ _) (sv xs (6 * k + 2)) (sv_rng _ _)) hx hb hml hown hts hK hN hI hl.1 gL_law_X9_hand rfl hd_X9_hand rfl rfl ⟨by decide, by decide⟩ ⟨by show _ ≤ 601024; omega, by show _ ≤ 7293034; omega⟩ (by decide) (cel_0 cy _ _) rfl rfl rfl rfl (Nat.le_of_ble_eq_true rfl) dL_law_346 (fun H locs hG_1 hI => ?_)
  have hF1 := hI.2.2.2
  refine lv_aload_n hx hb dL_law_349 rfl (lv_at hl 2 rfl) ?_
  refine g_scr 1 hx hb hX hbl hI hl hk hL (by decide) dL_law_350 dL_law_351 dL_law_353 dL_law_354 dL_law_355 ?_
  refine g_scr 2 hx hb hX hbl hI hl hk hL (by decide) dL_law_356 dL_law_357 dL_law_359 dL_law_360 dL_law_361 ?_
  refine g_V (As := [.int (iI (sv xs (6 * k + 1))), .int (iI (sv xs (6 * k + 2)))]) (rest := [.int (iI ((f_X9_hand (σ) (sv xs (6 * k + 1)) (sv xs (6 * k + 2))).1))]) 28 (c_X10_hand l D cy (adB s.heap.size) ((f_X9_hand (σ) (sv xs (6 * k + 1)) (sv xs (6 * k + 2))).2) (sv xs (6 * k + 1)) (sv_rng _ _) (sv xs (6 * k + 2)) (sv_rng _ _)) hx hb hml hown hts hK hN hI hl.1 gL_law_X10_hand rfl hd_X10_hand rfl rfl ⟨by decide, by decide⟩ ⟨by show _ ≤ 601024; omega, by show _ ≤ 7293034; omega⟩ (by decide) (cel_28 cy _ _) rfl rfl rfl rfl (Nat.le_of_ble_eq_true rfl) dL_law_362 (fun H locs hG_2 hI => ?_)
  have hF2 := hI.2.2.2
  have sim := s_hand (hLI.mid hF (fun x hx => fx_f_X9_hand σ (sv xs (6 * k + 1)) (sv xs (6 * k + 2)) hx)) hLI.2 hF (sv xs (6 * k + 1)) (sv xs (6 * k + 2))
  refine lv_icmp_eq (tgt := 889) hx hb dL_law_365 (by decide) (fun _ => ?_) (fun z => absurd (congrArg iI sim.1) z)
  refine W.widen (k := cells + 1) (n := slots + 6) (by omega) (by omega) ?_
  exact kk _ _ _ _ hI (LI.end sim.2.1 sim.2.2 hF1 (fun x hx => mx_f_X10_hand _ (sv xs (6 * k + 1)) (sv xs (6 * k + 2)) hx)) hl
set_option maxHeartbeats 4000000 in
set_option maxRecDepth 100000 in
theorem law_6 {p : Program} {l : Launch} {e : Env} {s : State} {m : MethodId} {args : Array Value} {below : List Frame} {meth : Method} {c : Code} {D : va_G} {cy : Nat → ClassId} {b L : Nat} {xs : Nat → Int32} {sa sb : Nat} (X : LX p l s m args meth c D cy b L xs sa sb) {σ : Sg} {H : Heap} {locs : List Loc} {ls : Array Slot} {cells slots : Nat} {Q : State → Prop} {k : Nat} (hI : HI D cy (adB s.heap.size) s σ H locs) (hLI : LI σ) (hl : lv_has ls 7 (LV s b k)) (hk : 6 * k + 6 ≤ L) (hL : L ≤ 3072) (hcs : cells + 1 ≤ 601024 ∧ slots + 6 ≤ 7293034)
    (kk : ∀ (σ' : Sg) (H' : Heap) (locs' : List Loc) (ls' : Array Slot), HI D cy (adB s.heap.size) s σ' H' locs' → LI σ' → lv_has ls' 7 (LV s b k) → W p l e room_1 s m args below meth c H' locs' (cells + 1) (slots + 6) Q (F0 m 889 ls' [])) : W p l e room_1 s m args below meth c H locs cells slots Q (F0 m 370 ls []) := by
  obtain ⟨hx, hb, hml, hown, hts, hK, hN, hX, hbl, hZ, hnt⟩ := X
  have hF := hI.2.2.2
  refine lv_aload_n hx hb dL_law_370 rfl (lv_at hl 3 rfl) ?_
  refine g_scr 1 hx hb hX hbl hI hl hk hL (by decide) dL_law_371 dL_law_372 dL_law_374 dL_law_375 dL_law_376 ?_
  refine g_V (As := [.int (iI (sv xs (6 * k + 1)))]) (rest := []) 0 (c_X9_at l D cy (adB s.heap.size) (σ) (sv xs (6 * k + 1)) (sv_rng _ _)) hx hb hml hown hts hK hN hI hl.1 gL_law_X9_at rfl hd_X9_at rfl rfl ⟨by decide, by decide⟩ ⟨by show _ ≤ 601024; omega, by show _ ≤ 7293034; omega⟩ (by decide) (cel_0 cy _ _) rfl rfl rfl rfl (Nat.le_of_ble_eq_true rfl) dL_law_377 (fun H locs hG_1 hI => ?_)
  have hF1 := hI.2.2.2
  refine lv_aload_n hx hb dL_law_380 rfl (lv_at hl 2 rfl) ?_
  refine g_scr 1 hx hb hX hbl hI hl hk hL (by decide) dL_law_381 dL_law_382 dL_law_384 dL_law_385 dL_law_386 ?_
  refine g_V (As := [.int (iI (sv xs (6 * k + 1)))]) (rest := [.int (iI ((f_X9_at (σ) (sv xs (6 * k + 1))).1))]) 28 (c_X10_at l D cy (adB s.heap.size) ((f_X9_at (σ) (sv xs (6 * k + 1))).2) (sv xs (6 * k + 1)) (sv_rng _ _)) hx hb hml hown hts hK hN hI hl.1 gL_law_X10_at rfl hd_X10_at rfl rfl ⟨by decide, by decide⟩ ⟨by show _ ≤ 601024; omega, by show _ ≤ 7293034; omega⟩ (by decide) (cel_28 cy _ _) rfl rfl rfl rfl (Nat.le_of_ble_eq_true rfl) dL_law_387 (fun H locs hG_2 hI => ?_)
  have hF2 := hI.2.2.2
  have sim := s_at (hLI.mid hF (fun x hx => fx_f_X9_at σ (sv xs (6 * k + 1)) hx)) hLI.2 hF (sv xs (6 * k + 1))
  refine lv_icmp_eq (tgt := 889) hx hb dL_law_390 (by decide) (fun _ => ?_) (fun z => absurd (congrArg iI sim.1) z)
  refine W.widen (k := cells + 1) (n := slots + 6) (by omega) (by omega) ?_
  exact kk _ _ _ _ hI (LI.end sim.2.1 sim.2.2 hF1 (fun x hx => mx_f_X10_at _ (sv xs (6 * k + 1)) hx)) hl
