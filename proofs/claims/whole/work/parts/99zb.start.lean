/-! THE START: the law's first state holds the constants -/
def flA : Cond → List Cond → List Cond
  | .and a b, acc => flA a (flA b acc)
  | c, acc => c :: acc
theorem flA_ok {args : Array Value} {s : State} (c : Cond) : ∀ acc : List Cond, c.before args s = true → (∀ w ∈ acc, w.before args s = true) → ∀ w ∈ flA c acc, w.before args s = true := by
  induction c with
  | and a b iha ihb =>
    intro acc h ha
    rw [Cond.before_and, Bool.and_eq_true] at h
    exact iha _ h.1 (ihb _ h.2 ha)
  | _ =>
    intro acc h ha w hw
    rcases List.mem_cons.mp hw with rfl | hw
    · exact h
    · exact ha w hw
/-- what the claim gives of the start, one by one -/
def pm : List Cond := flA (.and given_1 narrow_1) []
def z_nm : List String := ["OPEN", "CLOSE", "NUMERAL", "TRUE", "FALSE", "ABS", "NEG", "CEILING", "FLOOR", "ROUND", "TRUNCATE", "CVI", "CVR", "SQRT", "ADD", "SUB", "MUL", "DIV", "IDIV", "MOD", "BITSHIFT", "EQ", "NE", "GT", "GE", "LT", "LE", "AND", "OR", "XOR", "NOT", "POP", "EXCH", "DUP", "COPY", "INDEX", "ROLL", "IF", "IFELSE"]
def z_ti : List Nat := [171, 177, 180, 183, 186, 189, 192, 195, 198, 201, 204, 207, 210, 213, 216, 219, 222, 225, 228, 231, 234, 237, 240, 243, 246, 249, 252, 255, 258, 261, 264, 267, 270, 273, 276, 279, 282, 285, 288]
def z_mi : List Nat := [70, 85, 92, 102, 104, 106, 116, 120, 139]
def z_ie : List Nat := [55, 75, 70, 80, 172, 177, 182, 187, 192, 197, 202, 207, 212, 85, 217, 222, 227, 132, 142, 232, 137, 147, 152, 237, 242, 247, 252, 257, 262, 267, 157, 272, 277, 282, 287, 167, 162, 60, 65, 928, 956, 952, 962, 1051, 1061, 1069, 1077, 1089, 1099, 1109, 1122, 1130, 971, 1138, 1146, 1154, 980, 1001, 1162, 988, 1010, 1017, 1170, 1177, 1184, 1191, 1198, 1206, 1213, 1024, 1221, 1229, 1238, 1246, 1041, 1032, 934, 941, 331, 374, 407, 430, 472, 498, 545, 596, 625]
def z_tk : List Int32 := [0, 0, 0, 0, 0, 1, 1, 1, 1, 1, 1, 1, 1, 1, 2, 2, 2, 2, 2, 2, 2, 2, 2, 2, 2, 2, 2, 2, 2, 2, 1, 1, 2, 1, 1, 1, 2, 1, 1]
def z_gr : List Int32 := [0, 0, 1, 1, 1, 2, 2, 2, 2, 2, 2, 2, 2, 2, 3, 3, 3, 3, 4, 4, 4, 5, 5, 5, 5, 5, 5, 6, 6, 6, 6, 7, 7, 7, 8, 8, 8, 9, 9]
def z_ms : List (Nat × Nat × Nat) := [(369, 0, 933), (186, 37, 940), (192, 38, 951), (371, 1, 961), (273, 3, 970), (247, 13, 979), (255, 17, 987), (285, 20, 1000), (257, 18, 1009), (261, 21, 1016), (263, 22, 1023), (283, 30, 1031), (297, 36, 1040), (295, 35, 1050), (275, 4, 1060), (231, 5, 1068), (233, 6, 1076), (235, 7, 1088), (237, 8, 1098), (239, 9, 1108), (241, 10, 1121), (243, 11, 1129), (245, 12, 1137), (249, 14, 1145), (251, 15, 1153), (253, 16, 1161), (259, 19, 1169), (265, 23, 1176), (267, 24, 1183), (269, 25, 1190), (271, 26, 1197), (277, 27, 1205), (279, 28, 1212), (281, 29, 1220), (287, 31, 1228), (289, 32, 1237), (291, 33, 1245), (293, 34, 1254)]
def z_tw (k : Nat) : Term := .static "NumberFunctions$Word" (z_nm.getD k "") "LNumberFunctions$Word;"
def z_tx (k : Nat) : Term := .string "NumberFunctions$Word" (z_ti.getD k 0)
def z_tb (k : Nat) : Term := .field (z_tx k) "java/lang/String" "value" "[B"
def z_al : Term := .static "NumberFunctions$Word" "ALL" "[LNumberFunctions$Word;"
def z_sw : Term := .static "NumberFunctions$1" "$SwitchMap$NumberFunctions$Word" "[I"
def z_sf : Term := .static "jdk/internal/util/Preconditions" "SIOOBE_FORMATTER" "Ljava/util/function/BiFunction;"
/-- where the constant cell k lies -/
def z_tm (k : Nat) : Term := if k < 39 then z_tw k else if k < 78 then z_tx (k - 39) else if k < 87 then .string "NumberFunctions" (z_mi.getD (k - 78) 0) else if k = 87 then z_al else if k = 88 then z_sw else if k = 89 then .arg 0 else if k < 129 then z_tb (k - 90) else if k = 129 then z_sf else .arg 0
set_option maxRecDepth 100000 in
set_option maxHeartbeats 4000000 in
theorem px_e : ∀ k, k < 87 → pm[z_ie.getD k 0]? = some (.exactly (z_tm k) (if k < 39 then "NumberFunctions$Word" else "java/lang/String")) := by decide +kernel
set_option maxRecDepth 100000 in
set_option maxHeartbeats 4000000 in
theorem px_o : ∀ k, k < 39 → pm[z_ie.getD k 0 + 1]? = some (.eq (.field (z_tw k) "java/lang/Enum" "ordinal" "I") (.int (Int32.ofNat k))) := by decide +kernel
set_option maxRecDepth 100000 in
set_option maxHeartbeats 4000000 in
theorem px_t : ∀ k, k < 39 → pm[z_ie.getD k 0 + 2]? = some (.eq (.field (z_tw k) "NumberFunctions$Word" "text" "Ljava/lang/String;") (z_tx k)) := by decide +kernel
set_option maxRecDepth 100000 in
set_option maxHeartbeats 4000000 in
theorem px_k : ∀ k, k < 39 → pm[z_ie.getD k 0 + 3]? = some (.eq (.field (z_tw k) "NumberFunctions$Word" "takes" "I") (.int (z_tk.getD k 0))) := by decide +kernel
set_option maxRecDepth 100000 in
set_option maxHeartbeats 4000000 in
theorem px_g : ∀ k, k < 39 → pm[z_ie.getD k 0 + 4]? = some (.eq (.field (z_tw k) "NumberFunctions$Word" "group" "I") (.int (z_gr.getD k 0))) := by decide +kernel
set_option maxRecDepth 100000 in
set_option maxHeartbeats 4000000 in
theorem px_c : ∀ k, k < 39 → pm[z_ie.getD (39 + k) 0 + 1]? = some (.eq (.field (z_tx k) "java/lang/String" "coder" "B") (.int 0)) := by decide +kernel
set_option maxRecDepth 100000 in
set_option maxHeartbeats 4000000 in
theorem px_b : ∀ k, k < 39 → pm[z_ie.getD (39 + k) 0 + 2]? = some (.arrayOf (z_tb k) .byte) := by decide +kernel
set_option maxRecDepth 100000 in
set_option maxHeartbeats 4000000 in
theorem px_l : ∀ k, k < 39 → pm[z_ie.getD (39 + k) 0 + 3]? = some (.eq (.length (z_tb k)) (.int (Int32.ofNat (v_tx.getD k []).length))) := by decide +kernel
set_option maxRecDepth 100000 in
set_option maxHeartbeats 4000000 in
theorem px_x : ∀ k, k < 39 → ∀ j, j < (v_tx.getD k []).length → pm[z_ie.getD (39 + k) 0 + 4 + j]? = some (.eq (.elem (z_tb k) (.int (Int32.ofNat j))) (.int (v_txb k j))) := by decide +kernel
set_option maxRecDepth 100000 in
set_option maxHeartbeats 4000000 in
theorem px_m : ∀ q ∈ z_ms, q.2.1 < 39 ∧ pm[q.2.2]? = some (.eq (.string "NumberFunctionsModel" q.1) (z_tx q.2.1)) := by decide +kernel
set_option maxRecDepth 100000 in
set_option maxHeartbeats 4000000 in
theorem px_al : pm[8]? = some (.arrayOf z_al (.object "NumberFunctions$Word")) ∧ pm[9]? = some (.eq (.length z_al) (.int (Int32.ofNat 39))) := by decide +kernel
set_option maxRecDepth 100000 in
set_option maxHeartbeats 4000000 in
theorem px_aj : ∀ j, j < 39 → pm[11 + j]? = some (.eq (.elem z_al (.int (Int32.ofNat j))) (z_tw j)) := by decide +kernel
set_option maxRecDepth 100000 in
set_option maxHeartbeats 4000000 in
theorem px_sw : pm[91]? = some (.arrayOf z_sw .int) ∧ pm[92]? = some (.eq (.length z_sw) (.int (Int32.ofNat 39))) := by decide +kernel
def z_sv (j : Nat) : Int32 := match v_sw j with | .int x => x | _ => 0
set_option maxRecDepth 100000 in
set_option maxHeartbeats 4000000 in
theorem px_sj : ∀ j, j < 39 → pm[93 + j]? = some (.eq (.elem z_sw (.int (Int32.ofNat j))) (.int (z_sv j))) := by decide +kernel
set_option maxRecDepth 100000 in
set_option maxHeartbeats 4000000 in
theorem px_u : pm[4]? = some (.isRef (.static "java/lang/Throwable" "UNASSIGNED_STACK" "[Ljava/lang/StackTraceElement;")) ∧ pm[5]? = some (.isRef (.static "java/lang/Throwable" "SUPPRESSED_SENTINEL" "Ljava/util/List;")) := by decide +kernel
set_option maxRecDepth 100000 in
set_option maxHeartbeats 4000000 in
theorem px_9 : pm[50]? = some (.eq (.static "java/lang/String" "COMPACT_STRINGS" "Z") (.int 1)) ∧ pm[51]? = some (.isRef z_sf) ∧ pm[298]? = some (.not (.castable "java/lang/IllegalStateException" "java/lang/IllegalArgumentException")) := by decide +kernel
