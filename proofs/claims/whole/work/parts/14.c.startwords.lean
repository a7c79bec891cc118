set_option maxRecDepth 100000 in
theorem st_nest : ∀ q ∈ nestL, Cond.fieldLinkNest q.1 q.2.1 q.2.2.1 q.2.2.2.1 q.2.2.2.2 "NameTurner" ∈ lw_tbl := by decide +kernel
set_option maxRecDepth 100000 in
theorem st_nestM : ∀ q ∈ nestM, Cond.methodLinkNest q.1 q.2.1 q.2.2 "NameTurner" ∈ lw_tbl := by decide +kernel
set_option maxRecDepth 100000 in
theorem st_ao : Cond.arrayOver (.object RX2) ∈ lw_tbl ∧ Cond.arrayOver (.object RX4) ∈ lw_tbl := by decide +kernel
set_option maxRecDepth 100000 in
theorem st_arr : Cond.arrayClass .int ∈ lw_tbl ∧ Cond.arrayClass .byte ∈ lw_tbl ∧ Cond.arrayClass .boolean ∈ lw_tbl ∧ Cond.arrayClass .long ∈ lw_tbl := by decide +kernel
set_option maxRecDepth 100000 in
theorem st_inst : Cond.instantiable RX0 3 ∈ lw_tbl ∧ Cond.instantiable RX1 2 ∈ lw_tbl ∧ Cond.instantiable RX2 3 ∈ lw_tbl ∧ Cond.instantiable RX3 9 ∈ lw_tbl ∧ Cond.instantiable RX4 12 ∈ lw_tbl ∧ Cond.instantiable RX5 8 ∈ lw_tbl ∧ Cond.instantiable RX7 6 ∈ lw_tbl ∧ Cond.instantiable RX8 2 ∈ lw_tbl ∧ Cond.instantiable RX9 11 ∈ lw_tbl ∧ Cond.instantiable RX10 44 ∈ lw_tbl := by decide +kernel
set_option maxRecDepth 100000 in
theorem st_bd : ∀ w ∈ bdW, w ∈ lw_tbl := by decide +kernel
set_option maxRecDepth 100000 in
theorem st_tz : Cond.laysStatic Bundle.tN "UNASSIGNED_STACK" Bundle.steD ∈ lw_tbl ∧ Cond.laysStatic Bundle.tN "SUPPRESSED_SENTINEL" Bundle.listD ∈ lw_tbl ∧ Cond.initialized Bundle.tN ∈ lw_tbl ∧ Cond.stringRef RX9 273 "no such file" ∈ lw_tbl ∧ Cond.stringRef RX9 281 "no such what" ∈ lw_tbl := by decide +kernel
set_option maxRecDepth 100000 in
theorem st_new : Cond.classLink RL 8 RX9 ∈ lw_tbl ∧ Cond.classLink RL 16 RX10 ∈ lw_tbl ∧ Cond.initialized RX9 ∈ lw_tbl ∧ Cond.initialized RX10 ∈ lw_tbl := by decide +kernel
set_option maxRecDepth 100000 in
theorem st_i9 : Cond.methodLink RL 15 yX9_init ∈ lwS ∧ Cond.initialized yX9_init.cls ∈ lwS ∧ Cond.instanceMethod yX9_init ∈ lwS := by decide +kernel
set_option maxRecDepth 100000 in
theorem st_i10 : Cond.methodLink RL 18 yX10_init ∈ lwS ∧ Cond.initialized yX10_init.cls ∈ lwS ∧ Cond.instanceMethod yX10_init ∈ lwS := by decide +kernel
theorem arrT {s : State} {cA : ClassId} {kA : Class} {comp : ClassId} {ty : FieldType} (h1 : s.vm.classes[cA]? = some kA) (h2 : kA.kind = .array comp ty) : ArrOfT s cA ty := fun n z => ⟨fun k h => (by cases h), kA, h1, comp, h2⟩
