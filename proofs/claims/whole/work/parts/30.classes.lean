def Cl_N : u_T := fun k => match k with
  | 0 => ("NumberFunctions", "row", "[B", true)
  | 1 => ("NumberFunctions", "rowLength", "I", false)
  | 2 => ("NumberFunctions", "telling", "LNumberFunctions$Telling;", true)
  | 3 => ("NumberFunctions", "functions", "[LNumberFunctions$Function;", true)
  | 4 => ("NumberFunctions", "functionCount", "I", false)
  | 5 => ("NumberFunctions", "inputNumbers", "[I", true)
  | 6 => ("NumberFunctions", "outputNumbers", "[I", true)
  | 7 => ("NumberFunctions", "given", "[I", true)
  | 8 => ("NumberFunctions", "lastFault", "LNumberFunctions$Fault;", true)
  | 9 => ("NumberFunctions", "reader", "LNumberFunctions$Reader;", true)
  | _ => ("NumberFunctions", "machine", "LNumberFunctions$Machine;", true)
def Ty_N : Nat → FieldType := fun k => match k with
  | 0 => (.array .byte)
  | 1 => .int
  | 2 => (.object "NumberFunctions$Telling")
  | 3 => (.array (.object "NumberFunctions$Function"))
  | 4 => .int
  | 5 => (.array .int)
  | 6 => (.array .int)
  | 7 => (.array .int)
  | 8 => (.object "NumberFunctions$Fault")
  | 9 => (.object "NumberFunctions$Reader")
  | _ => (.object "NumberFunctions$Machine")
def Cl_T : u_T := fun k => match k with
  | 0 => ("NumberFunctions$Telling", "numbers", "[I", true)
  | _ => ("NumberFunctions$Telling", "count", "I", false)
def Ty_T : Nat → FieldType := fun k => match k with
  | 0 => (.array .int)
  | _ => .int
def Cl_U : u_T := fun k => match k with
  | 0 => ("NumberFunctions$Fault", "what", "I", false)
  | _ => ("NumberFunctions$Fault", "place", "I", false)
def Ty_U : Nat → FieldType := fun k => match k with
  | 0 => .int
  | _ => .int
def Cl_R : u_T := fun k => match k with
  | 0 => ("NumberFunctions$Reader", "words", "[LNumberFunctions$Word;", true)
  | 1 => ("NumberFunctions$Reader", "numbers", "[I", true)
  | 2 => ("NumberFunctions$Reader", "onward", "[I", true)
  | 3 => ("NumberFunctions$Reader", "otherwise", "[I", true)
  | 4 => ("NumberFunctions$Reader", "count", "I", false)
  | 5 => ("NumberFunctions$Reader", "opened", "[I", true)
  | 6 => ("NumberFunctions$Reader", "waiting", "[I", true)
  | 7 => ("NumberFunctions$Reader", "first", "[I", true)
  | 8 => ("NumberFunctions$Reader", "second", "[I", true)
  | 9 => ("NumberFunctions$Reader", "depth", "I", false)
  | 10 => ("NumberFunctions$Reader", "bytes", "[B", false)
  | 11 => ("NumberFunctions$Reader", "length", "I", false)
  | _ => ("NumberFunctions$Reader", "numeral", "I", false)
def Ty_R : Nat → FieldType := fun k => match k with
  | 0 => (.array (.object "NumberFunctions$Word"))
  | 1 => (.array .int)
  | 2 => (.array .int)
  | 3 => (.array .int)
  | 4 => .int
  | 5 => (.array .int)
  | 6 => (.array .int)
  | 7 => (.array .int)
  | 8 => (.array .int)
  | 9 => .int
  | 10 => (.array .byte)
  | 11 => .int
  | _ => .int
def Cl_K : u_T := fun k => match k with
  | 0 => ("NumberFunctions$Machine", "values", "[I", true)
  | 1 => ("NumberFunctions$Machine", "truths", "[Z", true)
  | 2 => ("NumberFunctions$Machine", "size", "I", false)
  | _ => ("NumberFunctions$Machine", "chosen", "Z", false)
def Ty_K : Nat → FieldType := fun k => match k with
  | 0 => (.array .int)
  | 1 => (.array .boolean)
  | 2 => .int
  | _ => .boolean
def Cl_S : u_T := fun k => match k with
  | 0 => ("NumberFunctions$Samples", "bytes", "[B", true)
  | 1 => ("NumberFunctions$Samples", "bits", "I", true)
  | 2 => ("NumberFunctions$Samples", "wholes", "[I", true)
  | 3 => ("NumberFunctions$Samples", "rests", "[I", true)
  | 4 => ("NumberFunctions$Samples", "corners", "[J", true)
  | 5 => ("NumberFunctions$Function", "inputs", "I", true)
  | 6 => ("NumberFunctions$Function", "outputs", "I", true)
  | _ => ("NumberFunctions$Function", "terms", "[I", true)
def Ty_S : Nat → FieldType := fun k => match k with
  | 0 => (.array .byte)
  | 1 => .int
  | 2 => (.array .int)
  | 3 => (.array .int)
  | 4 => (.array .long)
  | 5 => .int
  | 6 => .int
  | _ => (.array .int)
def Cl_P : u_T := fun k => match k with
  | 0 => ("NumberFunctions$Function", "inputs", "I", true)
  | 1 => ("NumberFunctions$Function", "outputs", "I", true)
  | _ => ("NumberFunctions$Function", "terms", "[I", true)
def Ty_P : Nat → FieldType := fun k => match k with
  | 0 => .int
  | 1 => .int
  | _ => (.array .int)
def Cl_Z : u_T := fun k => match k with
  | 0 => ("NumberFunctions$Stitched", "parts", "[LNumberFunctions$Function;", true)
  | 1 => ("NumberFunctions$Function", "inputs", "I", true)
  | 2 => ("NumberFunctions$Function", "outputs", "I", true)
  | _ => ("NumberFunctions$Function", "terms", "[I", true)
def Ty_Z : Nat → FieldType := fun k => match k with
  | 0 => (.array (.object "NumberFunctions$Function"))
  | 1 => .int
  | 2 => .int
  | _ => (.array .int)
def Cl_G : u_T := fun k => match k with
  | 0 => ("NumberFunctions$Program", "count", "I", true)
  | 1 => ("NumberFunctions$Program", "words", "[LNumberFunctions$Word;", true)
  | 2 => ("NumberFunctions$Program", "numbers", "[I", true)
  | 3 => ("NumberFunctions$Program", "onward", "[I", true)
  | 4 => ("NumberFunctions$Program", "otherwise", "[I", true)
  | 5 => ("NumberFunctions$Program", "machine", "LNumberFunctions$Machine;", true)
  | 6 => ("NumberFunctions$Function", "inputs", "I", true)
  | 7 => ("NumberFunctions$Function", "outputs", "I", true)
  | _ => ("NumberFunctions$Function", "terms", "[I", true)
def Ty_G : Nat → FieldType := fun k => match k with
  | 0 => .int
  | 1 => (.array (.object "NumberFunctions$Word"))
  | 2 => (.array .int)
  | 3 => (.array .int)
  | 4 => (.array .int)
  | 5 => (.object "NumberFunctions$Machine")
  | 6 => .int
  | 7 => .int
  | _ => (.array .int)
def Cl_M : u_T := fun k => match k with
  | 0 => ("NumberFunctionsModel", "refusal", "I", false)
  | 1 => ("NumberFunctionsModel", "size", "I", false)
  | 2 => ("NumberFunctionsModel", "row", "[B", true)
  | 3 => ("NumberFunctionsModel", "told", "I", false)
  | 4 => ("NumberFunctionsModel", "telling", "[I", true)
  | 5 => ("NumberFunctionsModel", "inputs", "[I", true)
  | 6 => ("NumberFunctionsModel", "outputs", "[I", true)
  | 7 => ("NumberFunctionsModel", "faultKind", "I", false)
  | 8 => ("NumberFunctionsModel", "faultPlace", "I", false)
  | 9 => ("NumberFunctionsModel", "functions", "I", false)
  | 10 => ("NumberFunctionsModel", "kinds", "[I", true)
  | 11 => ("NumberFunctionsModel", "takes", "[I", true)
  | 12 => ("NumberFunctionsModel", "gives", "[I", true)
  | 13 => ("NumberFunctionsModel", "numbers", "[I", true)
  | 14 => ("NumberFunctionsModel", "sizes", "[I", true)
  | 15 => ("NumberFunctionsModel", "bytes", "[B", true)
  | 16 => ("NumberFunctionsModel", "corners", "[J", true)
  | 17 => ("NumberFunctionsModel", "wholes", "[I", true)
  | 18 => ("NumberFunctionsModel", "rests", "[J", true)
  | 19 => ("NumberFunctionsModel", "given", "[J", true)
  | 20 => ("NumberFunctionsModel", "words", "I", false)
  | 21 => ("NumberFunctionsModel", "begins", "[I", true)
  | 22 => ("NumberFunctionsModel", "ends", "[I", true)
  | 23 => ("NumberFunctionsModel", "wrong", "I", false)
  | 24 => ("NumberFunctionsModel", "wrongAt", "I", false)
  | 25 => ("NumberFunctionsModel", "depth", "I", false)
  | 26 => ("NumberFunctionsModel", "stack", "[J", true)
  | 27 => ("NumberFunctionsModel", "isTruth", "[Z", true)
  | 28 => ("NumberFunctionsModel", "returns", "[I", true)
  | 29 => ("NumberFunctionsModel", "open", "I", false)
  | 30 => ("NumberFunctionsModel", "place", "I", false)
  | _ => ("NumberFunctionsModel", "stitchedTo", "I", false)
def Ty_M : Nat → FieldType := fun k => match k with
  | 0 => .int
  | 1 => .int
  | 2 => (.array .byte)
  | 3 => .int
  | 4 => (.array .int)
  | 5 => (.array .int)
  | 6 => (.array .int)
  | 7 => .int
  | 8 => .int
  | 9 => .int
  | 10 => (.array .int)
  | 11 => (.array .int)
  | 12 => (.array .int)
  | 13 => (.array .int)
  | 14 => (.array .int)
  | 15 => (.array .byte)
  | 16 => (.array .long)
  | 17 => (.array .int)
  | 18 => (.array .long)
  | 19 => (.array .long)
  | 20 => .int
  | 21 => (.array .int)
  | 22 => (.array .int)
  | 23 => .int
  | 24 => .int
  | 25 => .int
  | 26 => (.array .long)
  | 27 => (.array .boolean)
  | 28 => (.array .int)
  | 29 => .int
  | 30 => .int
  | _ => .int
def Cl_EA : u_T := fun k => match k with
  | 0 => ("java/lang/Throwable", "cause", "Ljava/lang/Throwable;", false)
  | 1 => ("java/lang/Throwable", "stackTrace", "[Ljava/lang/StackTraceElement;", false)
  | 2 => ("java/lang/Throwable", "suppressedExceptions", "Ljava/util/List;", false)
  | 3 => ("java/lang/Throwable", "detailMessage", "Ljava/lang/String;", false)
  | 4 => ("java/lang/Throwable", "backtrace", "Ljava/lang/Object;", false)
  | _ => ("java/lang/Throwable", "depth", "I", false)
def Ty_EA : Nat → FieldType := fun k => match k with
  | 0 => (.object "java/lang/Throwable")
  | 1 => (.array (.object "java/lang/StackTraceElement"))
  | 2 => (.object "java/util/List")
  | 3 => (.object "java/lang/String")
  | 4 => (.object "java/lang/Object")
  | _ => .int
def Cl_ES : u_T := fun k => match k with
  | 0 => ("java/lang/Throwable", "cause", "Ljava/lang/Throwable;", false)
  | 1 => ("java/lang/Throwable", "stackTrace", "[Ljava/lang/StackTraceElement;", false)
  | 2 => ("java/lang/Throwable", "suppressedExceptions", "Ljava/util/List;", false)
  | 3 => ("java/lang/Throwable", "detailMessage", "Ljava/lang/String;", false)
  | 4 => ("java/lang/Throwable", "backtrace", "Ljava/lang/Object;", false)
  | _ => ("java/lang/Throwable", "depth", "I", false)
def Ty_ES : Nat → FieldType := fun k => match k with
  | 0 => (.object "java/lang/Throwable")
  | 1 => (.array (.object "java/lang/StackTraceElement"))
  | 2 => (.object "java/util/List")
  | 3 => (.object "java/lang/String")
  | 4 => (.object "java/lang/Object")
  | _ => .int
def Cl_EI : u_T := fun k => match k with
  | 0 => ("java/lang/Throwable", "cause", "Ljava/lang/Throwable;", false)
  | 1 => ("java/lang/Throwable", "stackTrace", "[Ljava/lang/StackTraceElement;", false)
  | 2 => ("java/lang/Throwable", "suppressedExceptions", "Ljava/util/List;", false)
  | 3 => ("java/lang/Throwable", "detailMessage", "Ljava/lang/String;", false)
  | 4 => ("java/lang/Throwable", "backtrace", "Ljava/lang/Object;", false)
  | _ => ("java/lang/Throwable", "depth", "I", false)
def Ty_EI : Nat → FieldType := fun k => match k with
  | 0 => (.object "java/lang/Throwable")
  | 1 => (.array (.object "java/lang/StackTraceElement"))
  | 2 => (.object "java/util/List")
  | 3 => (.object "java/lang/String")
  | 4 => (.object "java/lang/Object")
  | _ => .int
def Cl_O : u_T := fun k => match k with
  | 0 => ("NumberFunctions$Word", "text", "Ljava/lang/String;", true)
  | 1 => ("NumberFunctions$Word", "takes", "I", true)
  | 2 => ("NumberFunctions$Word", "group", "I", true)
  | _ => ("java/lang/Enum", "ordinal", "I", true)
def Ty_O : Nat → FieldType := fun k => match k with
  | 0 => (.object "java/lang/String")
  | 1 => .int
  | 2 => .int
  | _ => .int
def Cl_Q : u_T := fun k => match k with
  | 0 => ("java/lang/String", "value", "[B", true)
  | _ => ("java/lang/String", "coder", "B", true)
def Ty_Q : Nat → FieldType := fun k => match k with
  | 0 => (.array .byte)
  | _ => .byte
def vcl : List vw_C := [("NumberFunctions", Cl_N, 11), ("NumberFunctions$Telling", Cl_T, 2), ("NumberFunctions$Fault", Cl_U, 2), ("NumberFunctions$Reader", Cl_R, 13), ("NumberFunctions$Machine", Cl_K, 4), ("NumberFunctions$Samples", Cl_S, 8), ("NumberFunctions$Powers", Cl_P, 3), ("NumberFunctions$Stitched", Cl_Z, 4), ("NumberFunctions$Program", Cl_G, 9), ("NumberFunctionsModel", Cl_M, 32), ("java/lang/IllegalArgumentException", Cl_EA, 0), ("java/lang/IllegalStateException", Cl_ES, 0), ("java/lang/IndexOutOfBoundsException", Cl_EI, 0), ("NumberFunctions$Word", Cl_O, 4), ("java/lang/String", Cl_Q, 2)]
def vtl : List FieldType := [.int, .byte, .long, .boolean, .object "NumberFunctions$Function", .object "NumberFunctions$Word"]
def vzs : List (String × String × String × Value) := [("NumberFunctions$Word", "OPEN", "LNumberFunctions$Word;", .ref 0), ("NumberFunctions$Word", "CLOSE", "LNumberFunctions$Word;", .ref 1), ("NumberFunctions$Word", "NUMERAL", "LNumberFunctions$Word;", .ref 2), ("NumberFunctions$Word", "TRUE", "LNumberFunctions$Word;", .ref 3), ("NumberFunctions$Word", "FALSE", "LNumberFunctions$Word;", .ref 4), ("NumberFunctions$Word", "ABS", "LNumberFunctions$Word;", .ref 5), ("NumberFunctions$Word", "NEG", "LNumberFunctions$Word;", .ref 6), ("NumberFunctions$Word", "CEILING", "LNumberFunctions$Word;", .ref 7), ("NumberFunctions$Word", "FLOOR", "LNumberFunctions$Word;", .ref 8), ("NumberFunctions$Word", "ROUND", "LNumberFunctions$Word;", .ref 9), ("NumberFunctions$Word", "TRUNCATE", "LNumberFunctions$Word;", .ref 10), ("NumberFunctions$Word", "CVI", "LNumberFunctions$Word;", .ref 11), ("NumberFunctions$Word", "CVR", "LNumberFunctions$Word;", .ref 12), ("NumberFunctions$Word", "SQRT", "LNumberFunctions$Word;", .ref 13), ("NumberFunctions$Word", "ADD", "LNumberFunctions$Word;", .ref 14), ("NumberFunctions$Word", "SUB", "LNumberFunctions$Word;", .ref 15), ("NumberFunctions$Word", "MUL", "LNumberFunctions$Word;", .ref 16), ("NumberFunctions$Word", "DIV", "LNumberFunctions$Word;", .ref 17), ("NumberFunctions$Word", "IDIV", "LNumberFunctions$Word;", .ref 18), ("NumberFunctions$Word", "MOD", "LNumberFunctions$Word;", .ref 19), ("NumberFunctions$Word", "BITSHIFT", "LNumberFunctions$Word;", .ref 20), ("NumberFunctions$Word", "EQ", "LNumberFunctions$Word;", .ref 21), ("NumberFunctions$Word", "NE", "LNumberFunctions$Word;", .ref 22), ("NumberFunctions$Word", "GT", "LNumberFunctions$Word;", .ref 23), ("NumberFunctions$Word", "GE", "LNumberFunctions$Word;", .ref 24), ("NumberFunctions$Word", "LT", "LNumberFunctions$Word;", .ref 25), ("NumberFunctions$Word", "LE", "LNumberFunctions$Word;", .ref 26), ("NumberFunctions$Word", "AND", "LNumberFunctions$Word;", .ref 27), ("NumberFunctions$Word", "OR", "LNumberFunctions$Word;", .ref 28), ("NumberFunctions$Word", "XOR", "LNumberFunctions$Word;", .ref 29), ("NumberFunctions$Word", "NOT", "LNumberFunctions$Word;", .ref 30), ("NumberFunctions$Word", "POP", "LNumberFunctions$Word;", .ref 31), ("NumberFunctions$Word", "EXCH", "LNumberFunctions$Word;", .ref 32), ("NumberFunctions$Word", "DUP", "LNumberFunctions$Word;", .ref 33), ("NumberFunctions$Word", "COPY", "LNumberFunctions$Word;", .ref 34), ("NumberFunctions$Word", "INDEX", "LNumberFunctions$Word;", .ref 35), ("NumberFunctions$Word", "ROLL", "LNumberFunctions$Word;", .ref 36), ("NumberFunctions$Word", "IF", "LNumberFunctions$Word;", .ref 37), ("NumberFunctions$Word", "IFELSE", "LNumberFunctions$Word;", .ref 38), ("NumberFunctions$Word", "ALL", "[LNumberFunctions$Word;", .ref 87), ("NumberFunctions$1", "$SwitchMap$NumberFunctions$Word", "[I", .ref 88), ("java/lang/String", "COMPACT_STRINGS", "Z", .int 1)]
def v_sw : Nat → Value := fun k => .int (match k with
  | 0 => 0
  | 1 => 0
  | 2 => 0
  | 3 => 0
  | 4 => 0
  | 5 => 1
  | 6 => 2
  | 7 => 3
  | 8 => 4
  | 9 => 5
  | 10 => 6
  | 11 => 7
  | 12 => 0
  | 13 => 8
  | 14 => 9
  | 15 => 10
  | 16 => 11
  | 17 => 0
  | 18 => 0
  | 19 => 0
  | 20 => 0
  | 21 => 12
  | 22 => 13
  | 23 => 14
  | 24 => 15
  | 25 => 16
  | 26 => 0
  | 27 => 17
  | 28 => 18
  | 29 => 0
  | 30 => 0
  | 31 => 19
  | 32 => 20
  | 33 => 0
  | 34 => 0
  | 35 => 0
  | 36 => 0
  | 37 => 0
  | 38 => 0
  | _ => 0)
/-- the texts of the words, as bytes -/
def v_tx : List (List Int32) := [[123], [125], [], [116, 114, 117, 101], [102, 97, 108, 115, 101], [97, 98, 115], [110, 101, 103], [99, 101, 105, 108, 105, 110, 103], [102, 108, 111, 111, 114], [114, 111, 117, 110, 100], [116, 114, 117, 110, 99, 97, 116, 101], [99, 118, 105], [99, 118, 114], [115, 113, 114, 116], [97, 100, 100], [115, 117, 98], [109, 117, 108], [100, 105, 118], [105, 100, 105, 118], [109, 111, 100], [98, 105, 116, 115, 104, 105, 102, 116], [101, 113], [110, 101], [103, 116], [103, 101], [108, 116], [108, 101], [97, 110, 100], [111, 114], [120, 111, 114], [110, 111, 116], [112, 111, 112], [101, 120, 99, 104], [100, 117, 112], [99, 111, 112, 121], [105, 110, 100, 101, 120], [114, 111, 108, 108], [105, 102], [105, 102, 101, 108, 115, 101]]
def v_txb (i j : Nat) : Int32 := (v_tx.getD i []).getD j 0
def vta : List (Nat × FieldType × Nat × (Nat → Value)) := [(87, .object "NumberFunctions$Word", 39, fun k => .ref k), (88, .int, 39, v_sw), (90, .byte, 1, fun j => .int (v_txb 0 j)), (91, .byte, 1, fun j => .int (v_txb 1 j)), (92, .byte, 0, fun j => .int (v_txb 2 j)), (93, .byte, 4, fun j => .int (v_txb 3 j)), (94, .byte, 5, fun j => .int (v_txb 4 j)), (95, .byte, 3, fun j => .int (v_txb 5 j)), (96, .byte, 3, fun j => .int (v_txb 6 j)), (97, .byte, 7, fun j => .int (v_txb 7 j)), (98, .byte, 5, fun j => .int (v_txb 8 j)), (99, .byte, 5, fun j => .int (v_txb 9 j)), (100, .byte, 8, fun j => .int (v_txb 10 j)), (101, .byte, 3, fun j => .int (v_txb 11 j)), (102, .byte, 3, fun j => .int (v_txb 12 j)), (103, .byte, 4, fun j => .int (v_txb 13 j)), (104, .byte, 3, fun j => .int (v_txb 14 j)), (105, .byte, 3, fun j => .int (v_txb 15 j)), (106, .byte, 3, fun j => .int (v_txb 16 j)), (107, .byte, 3, fun j => .int (v_txb 17 j)), (108, .byte, 4, fun j => .int (v_txb 18 j)), (109, .byte, 3, fun j => .int (v_txb 19 j)), (110, .byte, 8, fun j => .int (v_txb 20 j)), (111, .byte, 2, fun j => .int (v_txb 21 j)), (112, .byte, 2, fun j => .int (v_txb 22 j)), (113, .byte, 2, fun j => .int (v_txb 23 j)), (114, .byte, 2, fun j => .int (v_txb 24 j)), (115, .byte, 2, fun j => .int (v_txb 25 j)), (116, .byte, 2, fun j => .int (v_txb 26 j)), (117, .byte, 3, fun j => .int (v_txb 27 j)), (118, .byte, 2, fun j => .int (v_txb 28 j)), (119, .byte, 3, fun j => .int (v_txb 29 j)), (120, .byte, 3, fun j => .int (v_txb 30 j)), (121, .byte, 3, fun j => .int (v_txb 31 j)), (122, .byte, 4, fun j => .int (v_txb 32 j)), (123, .byte, 3, fun j => .int (v_txb 33 j)), (124, .byte, 4, fun j => .int (v_txb 34 j)), (125, .byte, 5, fun j => .int (v_txb 35 j)), (126, .byte, 4, fun j => .int (v_txb 36 j)), (127, .byte, 2, fun j => .int (v_txb 37 j)), (128, .byte, 6, fun j => .int (v_txb 38 j))]
/-- what this claim's proofs rest on: classes, array types, statics, the tables' words, static arrays -/
def v_ts : List Cond := lw_tbl.filter goodWord
def vct : List (String × String) := [("java/lang/IllegalArgumentException", "java/lang/IllegalArgumentException"), ("java/lang/IllegalStateException", "java/lang/IllegalStateException"), ("[I", "java/lang/Cloneable"), ("[B", "java/lang/Cloneable"), ("java/lang/IndexOutOfBoundsException", "java/lang/IndexOutOfBoundsException"), ("NumberFunctions$Powers", "NumberFunctions$Function"), ("NumberFunctions$Program", "NumberFunctions$Function"), ("NumberFunctions$Samples", "NumberFunctions$Function"), ("NumberFunctions$Stitched", "NumberFunctions$Function")]
def vdc : List MethodName := [⟨"java/lang/RuntimeException", "<init>", "()V"⟩, ⟨"java/lang/RuntimeException", "<init>", "(Ljava/lang/String;)V"⟩, ⟨"java/lang/Exception", "<init>", "()V"⟩, ⟨"java/lang/Exception", "<init>", "(Ljava/lang/String;)V"⟩, ⟨"java/lang/Throwable", "<init>", "()V"⟩, ⟨"java/lang/Throwable", "<init>", "(Ljava/lang/String;)V"⟩, ⟨"NumberFunctions$Function", "evaluate", "([I[ILNumberFunctions$Fault;)V"⟩, ⟨"NumberFunctions$Function", "withinPair", "(II)I"⟩, ⟨"java/lang/Enum", "ordinal", "()I"⟩]
def vao : List String := ["NumberFunctions$Function", "NumberFunctions$Word"]
def vsr : List (String × Nat × String × Nat) := [("NumberFunctions", 70, "the row cannot have fewer than no bytes", 78), ("NumberFunctions", 85, "not a number of -2^30 to 2^30", 79), ("NumberFunctions", 92, "the telling is full", 80), ("NumberFunctions", 102, "no such kind, or not of so many inputs", 81), ("NumberFunctions", 104, "not of so many outputs", 82), ("NumberFunctions", 106, "there are as many functions as there can be", 83), ("NumberFunctions", 116, "no such input, or not a number of -2^30 to 2^30", 84), ("NumberFunctions", 120, "there is no such function", 85), ("NumberFunctions", 139, "no such output", 86), ("NumberFunctionsModel", 186, "if", 76), ("NumberFunctionsModel", 192, "ifelse", 77), ("NumberFunctionsModel", 231, "abs", 44), ("NumberFunctionsModel", 233, "neg", 45), ("NumberFunctionsModel", 235, "ceiling", 46), ("NumberFunctionsModel", 237, "floor", 47), ("NumberFunctionsModel", 239, "round", 48), ("NumberFunctionsModel", 241, "truncate", 49), ("NumberFunctionsModel", 243, "cvi", 50), ("NumberFunctionsModel", 245, "cvr", 51), ("NumberFunctionsModel", 247, "sqrt", 52), ("NumberFunctionsModel", 249, "add", 53), ("NumberFunctionsModel", 251, "sub", 54), ("NumberFunctionsModel", 253, "mul", 55), ("NumberFunctionsModel", 255, "div", 56), ("NumberFunctionsModel", 257, "idiv", 57), ("NumberFunctionsModel", 259, "mod", 58), ("NumberFunctionsModel", 261, "eq", 60), ("NumberFunctionsModel", 263, "ne", 61), ("NumberFunctionsModel", 265, "gt", 62), ("NumberFunctionsModel", 267, "ge", 63), ("NumberFunctionsModel", 269, "lt", 64), ("NumberFunctionsModel", 271, "le", 65), ("NumberFunctionsModel", 273, "true", 42), ("NumberFunctionsModel", 275, "false", 43), ("NumberFunctionsModel", 277, "and", 66), ("NumberFunctionsModel", 279, "or", 67), ("NumberFunctionsModel", 281, "xor", 68), ("NumberFunctionsModel", 283, "not", 69), ("NumberFunctionsModel", 285, "bitshift", 59), ("NumberFunctionsModel", 287, "pop", 70), ("NumberFunctionsModel", 289, "exch", 71), ("NumberFunctionsModel", 291, "dup", 72), ("NumberFunctionsModel", 293, "copy", 73), ("NumberFunctionsModel", 295, "index", 74), ("NumberFunctionsModel", 297, "roll", 75), ("NumberFunctionsModel", 371, "}", 40), ("NumberFunctionsModel", 369, "{", 39), ("NumberFunctions$Word", 171, "{", 39), ("NumberFunctions$Word", 285, "if", 76), ("NumberFunctions$Word", 288, "ifelse", 77), ("NumberFunctions$Word", 180, "", 41), ("NumberFunctions$Word", 177, "}", 40), ("NumberFunctions$Word", 183, "true", 42), ("NumberFunctions$Word", 213, "sqrt", 52), ("NumberFunctions$Word", 225, "div", 56), ("NumberFunctions$Word", 234, "bitshift", 59), ("NumberFunctions$Word", 228, "idiv", 57), ("NumberFunctions$Word", 237, "eq", 60), ("NumberFunctions$Word", 240, "ne", 61), ("NumberFunctions$Word", 264, "not", 69), ("NumberFunctions$Word", 282, "roll", 75), ("NumberFunctions$Word", 279, "index", 74), ("NumberFunctions$Word", 186, "false", 43), ("NumberFunctions$Word", 189, "abs", 44), ("NumberFunctions$Word", 192, "neg", 45), ("NumberFunctions$Word", 195, "ceiling", 46), ("NumberFunctions$Word", 198, "floor", 47), ("NumberFunctions$Word", 201, "round", 48), ("NumberFunctions$Word", 204, "truncate", 49), ("NumberFunctions$Word", 207, "cvi", 50), ("NumberFunctions$Word", 210, "cvr", 51), ("NumberFunctions$Word", 216, "add", 53), ("NumberFunctions$Word", 219, "sub", 54), ("NumberFunctions$Word", 222, "mul", 55), ("NumberFunctions$Word", 231, "mod", 58), ("NumberFunctions$Word", 243, "gt", 62), ("NumberFunctions$Word", 246, "ge", 63), ("NumberFunctions$Word", 249, "lt", 64), ("NumberFunctions$Word", 252, "le", 65), ("NumberFunctions$Word", 255, "and", 66), ("NumberFunctions$Word", 258, "or", 67), ("NumberFunctions$Word", 261, "xor", 68), ("NumberFunctions$Word", 267, "pop", 70), ("NumberFunctions$Word", 270, "exch", 71), ("NumberFunctions$Word", 273, "dup", 72), ("NumberFunctions$Word", 276, "copy", 73)]
def VV : ax_V := (vcl, vtl, vzs, v_ts, vta, vct, vdc, vao, vsr)
theorem mt1 {w : Cond} (h : w ∈ tables_1_1) (hg : goodWord w = true := by rfl) : w ∈ VV.ts := List.mem_filter.mpr ⟨List.mem_append_right _ (show w ∈ tables_1 from List.mem_append_left _ h), hg⟩
theorem mt2 {w : Cond} (h : w ∈ tables_1_2) (hg : goodWord w = true := by rfl) : w ∈ VV.ts := List.mem_filter.mpr ⟨List.mem_append_right _ (show w ∈ tables_1 from List.mem_append_right _ (List.mem_append_left _ h)), hg⟩
theorem mt3 {w : Cond} (h : w ∈ tables_1_3) (hg : goodWord w = true := by rfl) : w ∈ VV.ts := List.mem_filter.mpr ⟨List.mem_append_right _ (show w ∈ tables_1 from List.mem_append_right _ (List.mem_append_right _ (List.mem_append_left _ h))), hg⟩
theorem mt4 {w : Cond} (h : w ∈ tables_1_4) (hg : goodWord w = true := by rfl) : w ∈ VV.ts := List.mem_filter.mpr ⟨List.mem_append_right _ (show w ∈ tables_1 from List.mem_append_right _ (List.mem_append_right _ (List.mem_append_right _ (List.mem_append_left _ h)))), hg⟩
theorem mt5 {w : Cond} (h : w ∈ tables_1_5) (hg : goodWord w = true := by rfl) : w ∈ VV.ts := List.mem_filter.mpr ⟨List.mem_append_right _ (show w ∈ tables_1 from List.mem_append_right _ (List.mem_append_right _ (List.mem_append_right _ (List.mem_append_right _ (List.mem_append_left _ h))))), hg⟩
theorem mt6 {w : Cond} (h : w ∈ tables_1_6) (hg : goodWord w = true := by rfl) : w ∈ VV.ts := List.mem_filter.mpr ⟨List.mem_append_right _ (show w ∈ tables_1 from List.mem_append_right _ (List.mem_append_right _ (List.mem_append_right _ (List.mem_append_right _ (List.mem_append_right _ (List.mem_append_left _ h)))))), hg⟩
theorem mt7 {w : Cond} (h : w ∈ tables_1_7) (hg : goodWord w = true := by rfl) : w ∈ VV.ts := List.mem_filter.mpr ⟨List.mem_append_right _ (show w ∈ tables_1 from List.mem_append_right _ (List.mem_append_right _ (List.mem_append_right _ (List.mem_append_right _ (List.mem_append_right _ (List.mem_append_right _ (h))))))), hg⟩
theorem v_good : GoodIn VV.ts VV.ts := fun w hw => ⟨hw, good_of_word (List.mem_filter.mp hw).2⟩
