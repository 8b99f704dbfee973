abbrev L_cut_c : ByteArray := method_3_code
def L_cut_y : MethodName := ⟨"NumberFunctionsLaw", "cut", "(LNumberFunctions;I[J)I"⟩
def L_cut_t : List (Nat × Instr × Nat) := [(0, .aload_n 2, 1), (1, .iconst 0, 1), (2, .aload_n 0, 1), (3, .iload_n 1, 1), (4, .invokevirtual 7, 3), (7, .i2l, 1), (8, .lastore, 1), (9, .goto 6, 3), (12, .astore_n 3, 1), (13, .iconst 1, 1), (14, .ireturn, 1), (15, .iconst 0, 1), (16, .ireturn, 1)]
set_option maxRecDepth 100000 in
theorem L_cut_d : ax_T L_cut_c L_cut_t := by unfold ax_T; decide +kernel
abbrev L_tell_c : ByteArray := method_4_code
def L_tell_y : MethodName := ⟨"NumberFunctionsLaw", "tell", "(LNumberFunctions;I[J)I"⟩
def L_tell_t : List (Nat × Instr × Nat) := [(0, .aload_n 2, 1), (1, .iconst 0, 1), (2, .aload_n 0, 1), (3, .iload_n 1, 1), (4, .invokevirtual 15, 3), (7, .i2l, 1), (8, .lastore, 1), (9, .goto 9, 3), (12, .astore_n 3, 1), (13, .iconst 1, 1), (14, .ireturn, 1), (15, .astore_n 3, 1), (16, .iconst 2, 1), (17, .ireturn, 1), (18, .iconst 0, 1), (19, .ireturn, 1)]
set_option maxRecDepth 100000 in
theorem L_tell_d : ax_T L_tell_c L_tell_t := by unfold ax_T; decide +kernel
abbrev L_make_c : ByteArray := method_5_code
def L_make_y : MethodName := ⟨"NumberFunctionsLaw", "make", "(LNumberFunctions;III[J)I"⟩
def L_make_t : List (Nat × Instr × Nat) := [(0, .aload 4, 2), (2, .iconst 0, 1), (3, .aload_n 0, 1), (4, .iload_n 1, 1), (5, .iload_n 2, 1), (6, .iload_n 3, 1), (7, .invokevirtual 20, 3), (10, .i2l, 1), (11, .lastore, 1), (12, .goto 11, 3), (15, .astore 5, 2), (17, .iconst 1, 1), (18, .ireturn, 1), (19, .astore 5, 2), (21, .iconst 2, 1), (22, .ireturn, 1), (23, .iconst 0, 1), (24, .ireturn, 1)]
set_option maxRecDepth 100000 in
theorem L_make_d : ax_T L_make_c L_make_t := by unfold ax_T; decide +kernel
abbrev L_input_c : ByteArray := method_6_code
def L_input_y : MethodName := ⟨"NumberFunctionsLaw", "input", "(LNumberFunctions;II[J)I"⟩
def L_input_t : List (Nat × Instr × Nat) := [(0, .aload_n 3, 1), (1, .iconst 0, 1), (2, .aload_n 0, 1), (3, .iload_n 1, 1), (4, .iload_n 2, 1), (5, .invokevirtual 24, 3), (8, .i2l, 1), (9, .lastore, 1), (10, .goto 7, 3), (13, .astore 4, 2), (15, .iconst 1, 1), (16, .ireturn, 1), (17, .iconst 0, 1), (18, .ireturn, 1)]
set_option maxRecDepth 100000 in
theorem L_input_d : ax_T L_input_c L_input_t := by unfold ax_T; decide +kernel
abbrev L_call_c : ByteArray := method_7_code
def L_call_y : MethodName := ⟨"NumberFunctionsLaw", "call", "(LNumberFunctions;I[J)I"⟩
def L_call_t : List (Nat × Instr × Nat) := [(0, .aload_n 2, 1), (1, .iconst 0, 1), (2, .aload_n 0, 1), (3, .iload_n 1, 1), (4, .invokevirtual 28, 3), (7, .i2l, 1), (8, .lastore, 1), (9, .goto 6, 3), (12, .astore_n 3, 1), (13, .iconst 1, 1), (14, .ireturn, 1), (15, .iconst 0, 1), (16, .ireturn, 1)]
set_option maxRecDepth 100000 in
theorem L_call_d : ax_T L_call_c L_call_t := by unfold ax_T; decide +kernel
abbrev L_output_c : ByteArray := method_8_code
def L_output_y : MethodName := ⟨"NumberFunctionsLaw", "output", "(LNumberFunctions;I[J)I"⟩
def L_output_t : List (Nat × Instr × Nat) := [(0, .aload_n 2, 1), (1, .iconst 0, 1), (2, .aload_n 0, 1), (3, .iload_n 1, 1), (4, .invokevirtual 33, 3), (7, .i2l, 1), (8, .lastore, 1), (9, .goto 6, 3), (12, .astore_n 3, 1), (13, .iconst 1, 1), (14, .ireturn, 1), (15, .iconst 0, 1), (16, .ireturn, 1)]
set_option maxRecDepth 100000 in
theorem L_output_d : ax_T L_output_c L_output_t := by unfold ax_T; decide +kernel
