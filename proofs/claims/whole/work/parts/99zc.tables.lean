/-! .. the tables' words, the lists of constants -/
set_option maxRecDepth 100000 in
set_option maxHeartbeats 4000000 in
theorem tb_ct : ∀ z ∈ vct, Cond.castable z.1 z.2 ∈ tables_1 := by decide +kernel
set_option maxRecDepth 100000 in
set_option maxHeartbeats 4000000 in
theorem tb_dc : ∀ z ∈ vdc, Cond.declares z ∈ tables_1 := by decide +kernel
set_option maxRecDepth 100000 in
set_option maxHeartbeats 4000000 in
theorem tb_ao : ∀ z ∈ vao, Cond.arrayOver (.object z) ∈ tables_1 := by decide +kernel
set_option maxRecDepth 100000 in
set_option maxHeartbeats 4000000 in
theorem tb_sr : ∀ z ∈ vsr, Cond.stringRef z.1 z.2.1 z.2.2.1 ∈ tables_1 := by decide +kernel
set_option maxRecDepth 100000 in
set_option maxHeartbeats 4000000 in
theorem tb_zs : ∀ z ∈ vzs.map (fun z => (z.1, z.2.1, z.2.2.1)), Cond.laysStatic z.1 z.2.1 z.2.2 ∈ tables_1 ∧ Cond.initialized z.1 ∈ tables_1 := by decide +kernel
set_option maxRecDepth 100000 in
set_option maxHeartbeats 4000000 in
theorem tb_tl : Cond.arrayClass .int ∈ tables_1 ∧ Cond.arrayClass .byte ∈ tables_1 ∧ Cond.arrayClass .long ∈ tables_1 ∧ Cond.arrayClass .boolean ∈ tables_1 := by decide +kernel
set_option maxRecDepth 100000 in
set_option maxHeartbeats 4000000 in
theorem tb_ls : Cond.laysStatic "java/lang/Throwable" "UNASSIGNED_STACK" "[Ljava/lang/StackTraceElement;" ∈ tables_1 ∧ Cond.laysStatic "java/lang/Throwable" "SUPPRESSED_SENTINEL" "Ljava/util/List;" ∈ tables_1 ∧ Cond.laysStatic "jdk/internal/util/Preconditions" "SIOOBE_FORMATTER" "Ljava/util/function/BiFunction;" ∈ tables_1 ∧ Cond.initialized "jdk/internal/util/Preconditions" ∈ tables_1 ∧ Cond.instantiable "NumberFunctions$Word" 6 ∈ tables_1 := by decide +kernel
set_option maxRecDepth 100000 in
set_option maxHeartbeats 4000000 in
theorem tb_th : Cond.initialized "java/lang/Throwable" ∈ tables_1 := by decide +kernel
set_option maxRecDepth 100000 in
set_option maxHeartbeats 4000000 in
theorem tb_s2 : ∀ z ∈ vsr, (39 ≤ z.2.2.2 ∧ z.2.2.2 < 87 ∧ Term.string z.1 z.2.1 = z_tm z.2.2.2) ∨ ∃ q ∈ z_ms, z.1 = "NumberFunctionsModel" ∧ z.2.1 = q.1 ∧ z.2.2.2 = 39 + q.2.1 := by decide +kernel
set_option maxRecDepth 100000 in
set_option maxHeartbeats 4000000 in
theorem z_vzs : vzs = (List.range 39).map (fun k => ("NumberFunctions$Word", z_nm.getD k "", "LNumberFunctions$Word;", (.ref k : Value))) ++ [("NumberFunctions$Word", "ALL", "[LNumberFunctions$Word;", .ref 87), ("NumberFunctions$1", "$SwitchMap$NumberFunctions$Word", "[I", .ref 88), ("java/lang/String", "COMPACT_STRINGS", "Z", .int 1)] := by rfl
set_option maxRecDepth 100000 in
set_option maxHeartbeats 4000000 in
theorem z_vta : vta = [(87, .object "NumberFunctions$Word", 39, fun k => .ref k), (88, .int, 39, v_sw)] ++ (List.range 39).map (fun k => (90 + k, FieldType.byte, (v_tx.getD k []).length, fun j => Value.int (v_txb k j))) := by rfl
set_option maxRecDepth 100000 in
set_option maxHeartbeats 4000000 in
theorem z_cw : v_cst.take 39 = (List.range 39).map (fun k => (.inr (13, [.ref (39 + k), .int (z_tk.getD k 0), .int (z_gr.getD k 0), .int (Int32.ofNat k)]) : va_E)) := by rfl
set_option maxRecDepth 100000 in
set_option maxHeartbeats 4000000 in
theorem z_cx : (v_cst.drop 39).take 39 = (List.range 39).map (fun k => (.inr (14, [.ref (90 + k), .int 0]) : va_E)) := by rfl
set_option maxRecDepth 100000 in
set_option maxHeartbeats 4000000 in
theorem z_cz : (v_cst.drop 78).all (fun c => !ax_nf c) = true := by rfl
set_option maxRecDepth 100000 in
set_option maxHeartbeats 4000000 in
theorem z_cl : v_cst.length = 132 := by rfl
set_option maxRecDepth 100000 in
set_option maxHeartbeats 4000000 in
theorem z_swv : ∀ j, j < 39 → v_sw j = .int (z_sv j) := by decide +kernel
