abbrev N_init_c : ByteArray := prog_1_method_1_code
def N_init_y : MethodName := ⟨"NumberFunctions", "<init>", "()V"⟩
def N_init_t : List (Nat × Instr × Nat) := [(0, .aload_n 0, 1), (1, .invokespecial 1, 3), (4, .aload_n 0, 1), (5, .sipush 8192, 3), (8, .newarray .byte, 2), (10, .putfield 9, 3), (13, .aload_n 0, 1), (14, .iconst 0, 1), (15, .putfield 13, 3), (18, .aload_n 0, 1), (19, .new 17, 3), (22, .dup, 1), (23, .invokespecial 19, 3), (26, .putfield 20, 3), (29, .aload_n 0, 1), (30, .bipush 24, 2), (32, .anewarray 24, 3), (35, .putfield 26, 3), (38, .aload_n 0, 1), (39, .iconst 0, 1), (40, .putfield 30, 3), (43, .aload_n 0, 1), (44, .iconst 4, 1), (45, .newarray .int, 2), (47, .putfield 33, 3), (50, .aload_n 0, 1), (51, .iconst 4, 1), (52, .newarray .int, 2), (54, .putfield 37, 3), (57, .aload_n 0, 1), (58, .iconst 4, 1), (59, .newarray .int, 2), (61, .putfield 40, 3), (64, .aload_n 0, 1), (65, .new 43, 3), (68, .dup, 1), (69, .invokespecial 45, 3), (72, .putfield 46, 3), (75, .aload_n 0, 1), (76, .new 50, 3), (79, .dup, 1), (80, .invokespecial 52, 3), (83, .putfield 53, 3), (86, .aload_n 0, 1), (87, .new 57, 3), (90, .dup, 1), (91, .invokespecial 59, 3), (94, .putfield 60, 3), (97, .return_, 1)]
set_option maxRecDepth 100000 in
theorem N_init_d : ax_T N_init_c N_init_t := by unfold ax_T; decide +kernel
abbrev N_feed_c : ByteArray := prog_1_method_2_code
def N_feed_y : MethodName := ⟨"NumberFunctions", "feed", "(IIIII)I"⟩
def N_feed_t : List (Nat × Instr × Nat) := [(0, .aload_n 0, 1), (1, .getfield 13, 3), (4, .bipush 20, 2), (6, .iadd, 1), (7, .sipush 8192, 3), (10, .if_icmp .le 5, 3), (13, .iconst (-1), 1), (14, .ireturn, 1), (15, .aload_n 0, 1), (16, .iload_n 1, 1), (17, .invokevirtual 64, 3), (20, .aload_n 0, 1), (21, .iload_n 2, 1), (22, .invokevirtual 64, 3), (25, .aload_n 0, 1), (26, .iload_n 3, 1), (27, .invokevirtual 64, 3), (30, .aload_n 0, 1), (31, .iload 4, 2), (33, .invokevirtual 64, 3), (36, .aload_n 0, 1), (37, .iload 5, 2), (39, .invokevirtual 64, 3), (42, .aload_n 0, 1), (43, .getfield 13, 3), (46, .ireturn, 1)]
set_option maxRecDepth 100000 in
theorem N_feed_d : ax_T N_feed_c N_feed_t := by unfold ax_T; decide +kernel
abbrev N_appendBytes_c : ByteArray := prog_1_method_13_code
def N_appendBytes_y : MethodName := ⟨"NumberFunctions", "appendBytes", "(I)V"⟩
def N_appendBytes_t : List (Nat × Instr × Nat) := [(0, .bipush 24, 2), (2, .istore_n 2, 1), (3, .iload_n 2, 1), (4, .ifCond .lt 42, 3), (7, .aload_n 0, 1), (8, .getfield 13, 3), (11, .sipush 8192, 3), (14, .if_icmp .ge 32, 3), (17, .aload_n 0, 1), (18, .getfield 9, 3), (21, .aload_n 0, 1), (22, .getfield 13, 3), (25, .iload_n 1, 1), (26, .iload_n 2, 1), (27, .iushr, 1), (28, .i2b, 1), (29, .bastore, 1), (30, .aload_n 0, 1), (31, .dup, 1), (32, .getfield 13, 3), (35, .iconst 1, 1), (36, .iadd, 1), (37, .putfield 13, 3), (40, .iinc 2 (-8), 3), (43, .goto (-40), 3), (46, .return_, 1)]
set_option maxRecDepth 100000 in
theorem N_appendBytes_d : ax_T N_appendBytes_c N_appendBytes_t := by unfold ax_T; decide +kernel
abbrev N_drop_c : ByteArray := prog_1_method_5_code
def N_drop_y : MethodName := ⟨"NumberFunctions", "drop", "()I"⟩
def N_drop_t : List (Nat × Instr × Nat) := [(0, .aload_n 0, 1), (1, .getfield 20, 3), (4, .getfield 87, 3), (7, .istore_n 1, 1), (8, .aload_n 0, 1), (9, .getfield 20, 3), (12, .iconst 0, 1), (13, .putfield 87, 3), (16, .iload_n 1, 1), (17, .ireturn, 1)]
set_option maxRecDepth 100000 in
theorem N_drop_d : ax_T N_drop_c N_drop_t := by unfold ax_T; decide +kernel
abbrev N_clear_c : ByteArray := prog_1_method_7_code
def N_clear_y : MethodName := ⟨"NumberFunctions", "clear", "()I"⟩
def N_clear_t : List (Nat × Instr × Nat) := [(0, .aload_n 0, 1), (1, .getfield 30, 3), (4, .istore_n 1, 1), (5, .iconst 0, 1), (6, .istore_n 2, 1), (7, .iload_n 2, 1), (8, .bipush 24, 2), (10, .if_icmp .ge 16, 3), (13, .aload_n 0, 1), (14, .getfield 26, 3), (17, .iload_n 2, 1), (18, .aconst_null, 1), (19, .aastore, 1), (20, .iinc 2 1, 3), (23, .goto (-16), 3), (26, .aload_n 0, 1), (27, .iconst 0, 1), (28, .putfield 30, 3), (31, .iload_n 1, 1), (32, .ireturn, 1)]
set_option maxRecDepth 100000 in
theorem N_clear_d : ax_T N_clear_c N_clear_t := by unfold ax_T; decide +kernel
abbrev N_fault_c : ByteArray := prog_1_method_11_code
def N_fault_y : MethodName := ⟨"NumberFunctions", "fault", "(I)I"⟩
def N_fault_t : List (Nat × Instr × Nat) := [(0, .iload_n 1, 1), (1, .lookupswitch 43 #[(0, 27), (1, 35)], 27), (28, .aload_n 0, 1), (29, .getfield 46, 3), (32, .getfield 133, 3), (35, .ireturn, 1), (36, .aload_n 0, 1), (37, .getfield 46, 3), (40, .getfield 141, 3), (43, .ireturn, 1), (44, .iconst (-1), 1), (45, .ireturn, 1)]
set_option maxRecDepth 100000 in
theorem N_fault_d : ax_T N_fault_c N_fault_t := by unfold ax_T; decide +kernel
abbrev N_cut_c : ByteArray := prog_1_method_3_code
def N_cut_y : MethodName := ⟨"NumberFunctions", "cut", "(I)I"⟩
def N_cut_t : List (Nat × Instr × Nat) := [(0, .iload_n 1, 1), (1, .ifCond .ge 13, 3), (4, .new 68, 3), (7, .dup, 1), (8, .ldc 70, 2), (10, .invokespecial 72, 3), (13, .athrow, 1), (14, .aload_n 0, 1), (15, .getfield 13, 3), (18, .iload_n 1, 1), (19, .isub, 1), (20, .iconst 0, 1), (21, .invokestatic 75, 3), (24, .istore_n 2, 1), (25, .aload_n 0, 1), (26, .dup, 1), (27, .getfield 13, 3), (30, .iload_n 2, 1), (31, .isub, 1), (32, .putfield 13, 3), (35, .iload_n 2, 1), (36, .ireturn, 1)]
set_option maxRecDepth 100000 in
theorem N_cut_d : ax_T N_cut_c N_cut_t := by unfold ax_T; decide +kernel
abbrev N_tell_c : ByteArray := prog_1_method_4_code
def N_tell_y : MethodName := ⟨"NumberFunctions", "tell", "(I)I"⟩
def N_tell_t : List (Nat × Instr × Nat) := [(0, .iload_n 1, 1), (1, .invokestatic 81, 3), (4, .ifCond .ne 13, 3), (7, .new 68, 3), (10, .dup, 1), (11, .ldc 85, 2), (13, .invokespecial 72, 3), (16, .athrow, 1), (17, .aload_n 0, 1), (18, .getfield 20, 3), (21, .getfield 87, 3), (24, .bipush 96, 2), (26, .if_icmp .lt 13, 3), (29, .new 90, 3), (32, .dup, 1), (33, .ldc 92, 2), (35, .invokespecial 94, 3), (38, .athrow, 1), (39, .aload_n 0, 1), (40, .getfield 20, 3), (43, .getfield 95, 3), (46, .aload_n 0, 1), (47, .getfield 20, 3), (50, .getfield 87, 3), (53, .iload_n 1, 1), (54, .iastore, 1), (55, .aload_n 0, 1), (56, .getfield 20, 3), (59, .dup, 1), (60, .getfield 87, 3), (63, .iconst 1, 1), (64, .iadd, 1), (65, .putfield 87, 3), (68, .aload_n 0, 1), (69, .getfield 20, 3), (72, .getfield 87, 3), (75, .ireturn, 1)]
set_option maxRecDepth 100000 in
theorem N_tell_d : ax_T N_tell_c N_tell_t := by unfold ax_T; decide +kernel
abbrev N_isNumber_c : ByteArray := prog_1_method_12_code
def N_isNumber_y : MethodName := ⟨"NumberFunctions", "isNumber", "(I)Z"⟩
def N_isNumber_t : List (Nat × Instr × Nat) := [(0, .iload_n 0, 1), (1, .ldc 144, 2), (3, .if_icmp .lt 13, 3), (6, .iload_n 0, 1), (7, .ldc 145, 2), (9, .if_icmp .gt 7, 3), (12, .iconst 1, 1), (13, .goto 4, 3), (16, .iconst 0, 1), (17, .ireturn, 1)]
set_option maxRecDepth 100000 in
theorem N_isNumber_d : ax_T N_isNumber_c N_isNumber_t := by unfold ax_T; decide +kernel
abbrev N_make_c : ByteArray := prog_1_method_6_code
def N_make_y : MethodName := ⟨"NumberFunctions", "make", "(III)I"⟩
def N_make_t : List (Nat × Instr × Nat) := [(0, .iload_n 2, 1), (1, .iconst 1, 1), (2, .if_icmp .lt 11, 3), (5, .iload_n 2, 1), (6, .iload_n 1, 1), (7, .invokestatic 98, 3), (10, .if_icmp .le 13, 3), (13, .new 68, 3), (16, .dup, 1), (17, .ldc 102, 2), (19, .invokespecial 72, 3), (22, .athrow, 1), (23, .iload_n 3, 1), (24, .iconst 1, 1), (25, .if_icmp .lt 8, 3), (28, .iload_n 3, 1), (29, .iconst 4, 1), (30, .if_icmp .le 13, 3), (33, .new 68, 3), (36, .dup, 1), (37, .ldc 104, 2), (39, .invokespecial 72, 3), (42, .athrow, 1), (43, .aload_n 0, 1), (44, .getfield 30, 3), (47, .bipush 24, 2), (49, .if_icmp .lt 13, 3), (52, .new 90, 3), (55, .dup, 1), (56, .ldc 106, 2), (58, .invokespecial 94, 3), (61, .athrow, 1), (62, .aload_n 0, 1), (63, .getfield 46, 3), (66, .iconst (-1), 1), (67, .iconst (-1), 1), (68, .invokevirtual 108, 3), (71, .aload_n 0, 1), (72, .iload_n 1, 1), (73, .iload_n 2, 1), (74, .iload_n 3, 1), (75, .invokevirtual 112, 3), (78, .astore 4, 2), (80, .aload 4, 2), (82, .ifnonnull 5, 3), (85, .iconst (-1), 1), (86, .ireturn, 1), (87, .aload_n 0, 1), (88, .getfield 20, 3), (91, .iconst 0, 1), (92, .putfield 87, 3), (95, .aload_n 0, 1), (96, .getfield 26, 3), (99, .aload_n 0, 1), (100, .getfield 30, 3), (103, .aload 4, 2), (105, .aastore, 1), (106, .aload_n 0, 1), (107, .dup, 1), (108, .getfield 30, 3), (111, .iconst 1, 1), (112, .iadd, 1), (113, .putfield 30, 3), (116, .aload_n 0, 1), (117, .getfield 30, 3), (120, .iconst 1, 1), (121, .isub, 1), (122, .ireturn, 1)]
set_option maxRecDepth 100000 in
theorem N_make_d : ax_T N_make_c N_make_t := by unfold ax_T; decide +kernel
abbrev N_inputLimit_c : ByteArray := prog_1_method_14_code
def N_inputLimit_y : MethodName := ⟨"NumberFunctions", "inputLimit", "(I)I"⟩
def N_inputLimit_t : List (Nat × Instr × Nat) := [(0, .iload_n 0, 1), (1, .tableswitch 41 0 4 #[35, 41, 37, 37, 39], 35), (36, .iconst 3, 1), (37, .ireturn, 1), (38, .iconst 1, 1), (39, .ireturn, 1), (40, .iconst 4, 1), (41, .ireturn, 1), (42, .iconst 0, 1), (43, .ireturn, 1)]
set_option maxRecDepth 100000 in
theorem N_inputLimit_d : ax_T N_inputLimit_c N_inputLimit_t := by unfold ax_T; decide +kernel
abbrev N_built_c : ByteArray := prog_1_method_15_code
def N_built_y : MethodName := ⟨"NumberFunctions", "built", "(III)LNumberFunctions$Function;"⟩
def N_built_t : List (Nat × Instr × Nat) := [(0, .aload_n 0, 1), (1, .iload_n 1, 1), (2, .iload_n 2, 1), (3, .iload_n 3, 1), (4, .invokevirtual 146, 3), (7, .ifCond .ne 14, 3), (10, .aload_n 0, 1), (11, .getfield 46, 3), (14, .iconst 1, 1), (15, .iconst 0, 1), (16, .invokevirtual 108, 3), (19, .aconst_null, 1), (20, .areturn, 1), (21, .aload_n 0, 1), (22, .getfield 20, 3), (25, .getfield 95, 3), (28, .aload_n 0, 1), (29, .getfield 20, 3), (32, .getfield 87, 3), (35, .invokestatic 150, 3), (38, .astore 4, 2), (40, .iload_n 1, 1), (41, .tableswitch 66 0 3 #[31, 66, 40, 51], 31), (72, .aload_n 0, 1), (73, .iload_n 2, 1), (74, .iload_n 3, 1), (75, .aload 4, 2), (77, .invokevirtual 156, 3), (80, .areturn, 1), (81, .new 160, 3), (84, .dup, 1), (85, .iload_n 3, 1), (86, .aload 4, 2), (88, .invokespecial 162, 3), (91, .areturn, 1), (92, .new 165, 3), (95, .dup, 1), (96, .iload_n 3, 1), (97, .aload 4, 2), (99, .aload_n 0, 1), (100, .getfield 26, 3), (103, .invokespecial 167, 3), (106, .areturn, 1), (107, .aload_n 0, 1), (108, .getfield 53, 3), (111, .aload_n 0, 1), (112, .getfield 9, 3), (115, .aload_n 0, 1), (116, .getfield 13, 3), (119, .aload_n 0, 1), (120, .getfield 46, 3), (123, .invokevirtual 170, 3), (126, .aload_n 0, 1), (127, .getfield 46, 3), (130, .getfield 133, 3), (133, .iconst (-1), 1), (134, .if_icmp .eq 7, 3), (137, .aconst_null, 1), (138, .goto 22, 3), (141, .new 174, 3), (144, .dup, 1), (145, .iload_n 2, 1), (146, .iload_n 3, 1), (147, .aload 4, 2), (149, .aload_n 0, 1), (150, .getfield 53, 3), (153, .aload_n 0, 1), (154, .getfield 60, 3), (157, .invokespecial 176, 3), (160, .areturn, 1)]
set_option maxRecDepth 100000 in
theorem N_built_d : ax_T N_built_c N_built_t := by unfold ax_T; decide +kernel
abbrev N_isTold_c : ByteArray := prog_1_method_16_code
def N_isTold_y : MethodName := ⟨"NumberFunctions", "isTold", "(III)Z"⟩
def N_isTold_t : List (Nat × Instr × Nat) := [(0, .iload_n 1, 1), (1, .tableswitch 67 0 3 #[31, 67, 41, 50], 31), (32, .aload_n 0, 1), (33, .getfield 20, 3), (36, .iload_n 2, 1), (37, .iload_n 3, 1), (38, .invokevirtual 179, 3), (41, .ireturn, 1), (42, .aload_n 0, 1), (43, .getfield 20, 3), (46, .iload_n 3, 1), (47, .invokevirtual 183, 3), (50, .ireturn, 1), (51, .aload_n 0, 1), (52, .getfield 20, 3), (55, .iload_n 3, 1), (56, .aload_n 0, 1), (57, .getfield 26, 3), (60, .aload_n 0, 1), (61, .getfield 30, 3), (64, .invokevirtual 186, 3), (67, .ireturn, 1), (68, .aload_n 0, 1), (69, .getfield 20, 3), (72, .iload_n 2, 1), (73, .iload_n 3, 1), (74, .invokevirtual 190, 3), (77, .ireturn, 1)]
set_option maxRecDepth 100000 in
theorem N_isTold_d : ax_T N_isTold_c N_isTold_t := by unfold ax_T; decide +kernel
abbrev N_builtSamples_c : ByteArray := prog_1_method_17_code
def N_builtSamples_y : MethodName := ⟨"NumberFunctions", "builtSamples", "(II[I)LNumberFunctions$Function;"⟩
def N_builtSamples_t : List (Nat × Instr × Nat) := [(0, .iload_n 1, 1), (1, .iload_n 2, 1), (2, .aload_n 3, 1), (3, .invokestatic 193, 3), (6, .istore 4, 2), (8, .iload 4, 2), (10, .aload_n 0, 1), (11, .getfield 13, 3), (14, .if_icmp .le 15, 3), (17, .aload_n 0, 1), (18, .getfield 46, 3), (21, .iconst 2, 1), (22, .iload 4, 2), (24, .invokevirtual 108, 3), (27, .aconst_null, 1), (28, .areturn, 1), (29, .new 194, 3), (32, .dup, 1), (33, .iload_n 1, 1), (34, .iload_n 2, 1), (35, .aload_n 3, 1), (36, .aload_n 0, 1), (37, .getfield 9, 3), (40, .iload 4, 2), (42, .invokestatic 199, 3), (45, .invokespecial 202, 3), (48, .areturn, 1)]
set_option maxRecDepth 100000 in
theorem N_builtSamples_d : ax_T N_builtSamples_c N_builtSamples_t := by unfold ax_T; decide +kernel
abbrev N_input_c : ByteArray := prog_1_method_8_code
def N_input_y : MethodName := ⟨"NumberFunctions", "input", "(II)I"⟩
def N_input_t : List (Nat × Instr × Nat) := [(0, .iload_n 1, 1), (1, .ifCond .lt 15, 3), (4, .iload_n 1, 1), (5, .iconst 4, 1), (6, .if_icmp .ge 10, 3), (9, .iload_n 2, 1), (10, .invokestatic 81, 3), (13, .ifCond .ne 13, 3), (16, .new 68, 3), (19, .dup, 1), (20, .ldc 116, 2), (22, .invokespecial 72, 3), (25, .athrow, 1), (26, .aload_n 0, 1), (27, .getfield 33, 3), (30, .iload_n 1, 1), (31, .iaload, 1), (32, .istore_n 3, 1), (33, .aload_n 0, 1), (34, .getfield 33, 3), (37, .iload_n 1, 1), (38, .iload_n 2, 1), (39, .iastore, 1), (40, .iload_n 3, 1), (41, .ireturn, 1)]
set_option maxRecDepth 100000 in
theorem N_input_d : ax_T N_input_c N_input_t := by unfold ax_T; decide +kernel
abbrev N_call_c : ByteArray := prog_1_method_9_code
def N_call_y : MethodName := ⟨"NumberFunctions", "call", "(I)I"⟩
def N_call_t : List (Nat × Instr × Nat) := [(0, .iload_n 1, 1), (1, .ifCond .lt 20, 3), (4, .iload_n 1, 1), (5, .aload_n 0, 1), (6, .getfield 30, 3), (9, .if_icmp .ge 12, 3), (12, .aload_n 0, 1), (13, .getfield 26, 3), (16, .iload_n 1, 1), (17, .aaload, 1), (18, .ifnonnull 13, 3), (21, .new 118, 3), (24, .dup, 1), (25, .ldc 120, 2), (27, .invokespecial 122, 3), (30, .athrow, 1), (31, .aload_n 0, 1), (32, .getfield 33, 3), (35, .iconst 0, 1), (36, .aload_n 0, 1), (37, .getfield 40, 3), (40, .iconst 0, 1), (41, .iconst 4, 1), (42, .invokestatic 123, 3), (45, .aload_n 0, 1), (46, .getfield 46, 3), (49, .iconst (-1), 1), (50, .iconst (-1), 1), (51, .invokevirtual 108, 3), (54, .aload_n 0, 1), (55, .getfield 26, 3), (58, .iload_n 1, 1), (59, .aaload, 1), (60, .astore_n 2, 1), (61, .aload_n 2, 1), (62, .aload_n 0, 1), (63, .getfield 40, 3), (66, .aload_n 0, 1), (67, .getfield 37, 3), (70, .aload_n 0, 1), (71, .getfield 46, 3), (74, .invokevirtual 129, 3), (77, .aload_n 0, 1), (78, .getfield 46, 3), (81, .getfield 133, 3), (84, .iconst (-1), 1), (85, .if_icmp .eq 5, 3), (88, .iconst (-1), 1), (89, .ireturn, 1), (90, .aload_n 2, 1), (91, .getfield 136, 3), (94, .istore_n 3, 1), (95, .iload_n 3, 1), (96, .iconst 4, 1), (97, .if_icmp .ge 16, 3), (100, .aload_n 0, 1), (101, .getfield 37, 3), (104, .iload_n 3, 1), (105, .iconst 0, 1), (106, .iastore, 1), (107, .iinc 3 1, 3), (110, .goto (-15), 3), (113, .aload_n 2, 1), (114, .getfield 136, 3), (117, .ireturn, 1)]
set_option maxRecDepth 100000 in
theorem N_call_d : ax_T N_call_c N_call_t := by unfold ax_T; decide +kernel
abbrev N_output_c : ByteArray := prog_1_method_10_code
def N_output_y : MethodName := ⟨"NumberFunctions", "output", "(I)I"⟩
def N_output_t : List (Nat × Instr × Nat) := [(0, .iload_n 1, 1), (1, .ifCond .lt 8, 3), (4, .iload_n 1, 1), (5, .iconst 4, 1), (6, .if_icmp .lt 13, 3), (9, .new 68, 3), (12, .dup, 1), (13, .ldc 139, 2), (15, .invokespecial 72, 3), (18, .athrow, 1), (19, .aload_n 0, 1), (20, .getfield 37, 3), (23, .iload_n 1, 1), (24, .iaload, 1), (25, .ireturn, 1)]
set_option maxRecDepth 100000 in
theorem N_output_d : ax_T N_output_c N_output_t := by unfold ax_T; decide +kernel
abbrev T_init_c : ByteArray := prog_12_method_1_code
def T_init_y : MethodName := ⟨"NumberFunctions$Telling", "<init>", "()V"⟩
def T_init_t : List (Nat × Instr × Nat) := [(0, .aload_n 0, 1), (1, .invokespecial 3, 3), (4, .aload_n 0, 1), (5, .bipush 96, 2), (7, .newarray .int, 2), (9, .putfield 9, 3), (12, .aload_n 0, 1), (13, .iconst 0, 1), (14, .putfield 15, 3), (17, .return_, 1)]
set_option maxRecDepth 100000 in
theorem T_init_d : ax_T T_init_c T_init_t := by unfold ax_T; decide +kernel
abbrev T_saysSamples_c : ByteArray := prog_12_method_2_code
def T_saysSamples_y : MethodName := ⟨"NumberFunctions$Telling", "saysSamples", "(II)Z"⟩
def T_saysSamples_t : List (Nat × Instr × Nat) := [(0, .iconst 5, 1), (1, .iload_n 1, 1), (2, .imul, 1), (3, .istore_n 3, 1), (4, .aload_n 0, 1), (5, .getfield 15, 3), (8, .iload_n 3, 1), (9, .iconst 1, 1), (10, .iadd, 1), (11, .iconst 4, 1), (12, .iload_n 2, 1), (13, .imul, 1), (14, .iadd, 1), (15, .if_icmp .ne 15, 3), (18, .aload_n 0, 1), (19, .getfield 9, 3), (22, .iload_n 3, 1), (23, .iaload, 1), (24, .invokestatic 19, 3), (27, .ifCond .ne 5, 3), (30, .iconst 0, 1), (31, .ireturn, 1), (32, .iconst 0, 1), (33, .istore 4, 2), (35, .iload 4, 2), (37, .iload_n 1, 1), (38, .if_icmp .ge 40, 3), (41, .iconst 5, 1), (42, .iload 4, 2), (44, .imul, 1), (45, .istore 5, 2), (47, .aload_n 0, 1), (48, .iload 5, 2), (50, .invokevirtual 23, 3), (53, .ifCond .eq 17, 3), (56, .aload_n 0, 1), (57, .iload 5, 2), (59, .iconst 2, 1), (60, .iadd, 1), (61, .iconst 1, 1), (62, .bipush 64, 2), (64, .invokevirtual 26, 3), (67, .ifCond .ne 5, 3), (70, .iconst 0, 1), (71, .ireturn, 1), (72, .iinc 4 1, 3), (75, .goto (-40), 3), (78, .iconst 0, 1), (79, .istore 4, 2), (81, .iload 4, 2), (83, .iload_n 2, 1), (84, .if_icmp .ge 26, 3), (87, .aload_n 0, 1), (88, .iload_n 3, 1), (89, .iconst 1, 1), (90, .iadd, 1), (91, .iconst 4, 1), (92, .iload 4, 2), (94, .imul, 1), (95, .iadd, 1), (96, .invokevirtual 23, 3), (99, .ifCond .ne 5, 3), (102, .iconst 0, 1), (103, .ireturn, 1), (104, .iinc 4 1, 3), (107, .goto (-26), 3), (110, .iconst 1, 1), (111, .ireturn, 1)]
set_option maxRecDepth 100000 in
theorem T_saysSamples_d : ax_T T_saysSamples_c T_saysSamples_t := by unfold ax_T; decide +kernel
abbrev T_isSampleBits_c : ByteArray := prog_12_method_10_code
def T_isSampleBits_y : MethodName := ⟨"NumberFunctions$Telling", "isSampleBits", "(I)Z"⟩
def T_isSampleBits_t : List (Nat × Instr × Nat) := [(0, .iload_n 0, 1), (1, .tableswitch 81 1 16 #[79, 79, 81, 79, 81, 81, 81, 79, 81, 81, 81, 79, 81, 81, 81, 79], 79), (80, .iconst 1, 1), (81, .ireturn, 1), (82, .iconst 0, 1), (83, .ireturn, 1)]
set_option maxRecDepth 100000 in
theorem T_isSampleBits_d : ax_T T_isSampleBits_c T_isSampleBits_t := by unfold ax_T; decide +kernel
abbrev T_isPair_c : ByteArray := prog_12_method_7_code
def T_isPair_y : MethodName := ⟨"NumberFunctions$Telling", "isPair", "(I)Z"⟩
def T_isPair_t : List (Nat × Instr × Nat) := [(0, .aload_n 0, 1), (1, .getfield 9, 3), (4, .iload_n 1, 1), (5, .iaload, 1), (6, .aload_n 0, 1), (7, .getfield 9, 3), (10, .iload_n 1, 1), (11, .iconst 1, 1), (12, .iadd, 1), (13, .iaload, 1), (14, .if_icmp .gt 7, 3), (17, .iconst 1, 1), (18, .goto 4, 3), (21, .iconst 0, 1), (22, .ireturn, 1)]
set_option maxRecDepth 100000 in
theorem T_isPair_d : ax_T T_isPair_c T_isPair_t := by unfold ax_T; decide +kernel
abbrev T_isOneOf_c : ByteArray := prog_12_method_8_code
def T_isOneOf_y : MethodName := ⟨"NumberFunctions$Telling", "isOneOf", "(III)Z"⟩
def T_isOneOf_t : List (Nat × Instr × Nat) := [(0, .aload_n 0, 1), (1, .getfield 9, 3), (4, .iload_n 1, 1), (5, .iaload, 1), (6, .iload_n 2, 1), (7, .if_icmp .lt 17, 3), (10, .aload_n 0, 1), (11, .getfield 9, 3), (14, .iload_n 1, 1), (15, .iaload, 1), (16, .iload_n 3, 1), (17, .if_icmp .gt 7, 3), (20, .iconst 1, 1), (21, .goto 4, 3), (24, .iconst 0, 1), (25, .ireturn, 1)]
set_option maxRecDepth 100000 in
theorem T_isOneOf_d : ax_T T_isOneOf_c T_isOneOf_t := by unfold ax_T; decide +kernel
abbrev T_saysPowers_c : ByteArray := prog_12_method_3_code
def T_saysPowers_y : MethodName := ⟨"NumberFunctions$Telling", "saysPowers", "(I)Z"⟩
def T_saysPowers_t : List (Nat × Instr × Nat) := [(0, .aload_n 0, 1), (1, .getfield 15, 3), (4, .iconst 3, 1), (5, .iconst 2, 1), (6, .iload_n 1, 1), (7, .imul, 1), (8, .iadd, 1), (9, .if_icmp .ne 26, 3), (12, .aload_n 0, 1), (13, .iconst 0, 1), (14, .invokevirtual 23, 3), (17, .ifCond .eq 18, 3), (20, .aload_n 0, 1), (21, .iconst 2, 1), (22, .iconst 0, 1), (23, .bipush 16, 2), (25, .invokevirtual 26, 3), (28, .ifCond .eq 7, 3), (31, .iconst 1, 1), (32, .goto 4, 3), (35, .iconst 0, 1), (36, .ireturn, 1)]
set_option maxRecDepth 100000 in
theorem T_saysPowers_d : ax_T T_saysPowers_c T_saysPowers_t := by unfold ax_T; decide +kernel
abbrev T_saysStitched_c : ByteArray := prog_12_method_4_code
def T_saysStitched_y : MethodName := ⟨"NumberFunctions$Telling", "saysStitched", "(I[LNumberFunctions$Function;I)Z"⟩
def T_saysStitched_t : List (Nat × Instr × Nat) := [(0, .aload_n 0, 1), (1, .getfield 15, 3), (4, .iconst 3, 1), (5, .if_icmp .lt 22, 3), (8, .aload_n 0, 1), (9, .iconst 0, 1), (10, .invokevirtual 23, 3), (13, .ifCond .eq 14, 3), (16, .aload_n 0, 1), (17, .iconst 2, 1), (18, .iconst 1, 1), (19, .bipush 8, 2), (21, .invokevirtual 26, 3), (24, .ifCond .ne 5, 3), (27, .iconst 0, 1), (28, .ireturn, 1), (29, .aload_n 0, 1), (30, .getfield 9, 3), (33, .iconst 2, 1), (34, .iaload, 1), (35, .istore 4, 2), (37, .aload_n 0, 1), (38, .getfield 15, 3), (41, .iconst 3, 1), (42, .iload 4, 2), (44, .iadd, 1), (45, .iload 4, 2), (47, .iconst 1, 1), (48, .isub, 1), (49, .iadd, 1), (50, .iconst 2, 1), (51, .iload 4, 2), (53, .imul, 1), (54, .iadd, 1), (55, .if_icmp .eq 5, 3), (58, .iconst 0, 1), (59, .ireturn, 1), (60, .iconst 0, 1), (61, .istore 5, 2), (63, .iload 5, 2), (65, .iload 4, 2), (67, .if_icmp .ge 44, 3), (70, .aload_n 0, 1), (71, .getfield 9, 3), (74, .iconst 3, 1), (75, .iload 5, 2), (77, .iadd, 1), (78, .iaload, 1), (79, .istore 6, 2), (81, .iload 6, 2), (83, .ifCond .lt 20, 3), (86, .iload 6, 2), (88, .iload_n 3, 1), (89, .if_icmp .ge 14, 3), (92, .aload_n 2, 1), (93, .iload 6, 2), (95, .aaload, 1), (96, .iload_n 1, 1), (97, .invokestatic 30, 3), (100, .ifCond .ne 5, 3), (103, .iconst 0, 1), (104, .ireturn, 1), (105, .iinc 5 1, 3), (108, .goto (-45), 3), (111, .aload_n 0, 1), (112, .iconst 3, 1), (113, .iload 4, 2), (115, .iadd, 1), (116, .iload 4, 2), (118, .iconst 1, 1), (119, .isub, 1), (120, .invokevirtual 34, 3), (123, .ireturn, 1)]
set_option maxRecDepth 100000 in
theorem T_saysStitched_d : ax_T T_saysStitched_c T_saysStitched_t := by unfold ax_T; decide +kernel
abbrev T_isPart_c : ByteArray := prog_12_method_9_code
def T_isPart_y : MethodName := ⟨"NumberFunctions$Telling", "isPart", "(LNumberFunctions$Function;I)Z"⟩
def T_isPart_t : List (Nat × Instr × Nat) := [(0, .aload_n 0, 1), (1, .ifnull 23, 3), (4, .aload_n 0, 1), (5, .getfield 38, 3), (8, .iconst 1, 1), (9, .if_icmp .ne 15, 3), (12, .aload_n 0, 1), (13, .getfield 43, 3), (16, .iload_n 1, 1), (17, .if_icmp .ne 7, 3), (20, .iconst 1, 1), (21, .goto 4, 3), (24, .iconst 0, 1), (25, .ireturn, 1)]
set_option maxRecDepth 100000 in
theorem T_isPart_d : ax_T T_isPart_c T_isPart_t := by unfold ax_T; decide +kernel
abbrev T_areBounds_c : ByteArray := prog_12_method_6_code
def T_areBounds_y : MethodName := ⟨"NumberFunctions$Telling", "areBounds", "(II)Z"⟩
def T_areBounds_t : List (Nat × Instr × Nat) := [(0, .aload_n 0, 1), (1, .getfield 9, 3), (4, .iconst 0, 1), (5, .iaload, 1), (6, .istore_n 3, 1), (7, .iconst 0, 1), (8, .istore 4, 2), (10, .iload 4, 2), (12, .iload_n 2, 1), (13, .if_icmp .ge 42, 3), (16, .aload_n 0, 1), (17, .getfield 9, 3), (20, .iload_n 1, 1), (21, .iload 4, 2), (23, .iadd, 1), (24, .iaload, 1), (25, .istore 5, 2), (27, .iload 5, 2), (29, .iload_n 3, 1), (30, .if_icmp .le 14, 3), (33, .iload 5, 2), (35, .aload_n 0, 1), (36, .getfield 9, 3), (39, .iconst 1, 1), (40, .iaload, 1), (41, .if_icmp .lt 5, 3), (44, .iconst 0, 1), (45, .ireturn, 1), (46, .iload 5, 2), (48, .istore_n 3, 1), (49, .iinc 4 1, 3), (52, .goto (-42), 3), (55, .iconst 1, 1), (56, .ireturn, 1)]
set_option maxRecDepth 100000 in
theorem T_areBounds_d : ax_T T_areBounds_c T_areBounds_t := by unfold ax_T; decide +kernel
abbrev T_saysProgram_c : ByteArray := prog_12_method_5_code
def T_saysProgram_y : MethodName := ⟨"NumberFunctions$Telling", "saysProgram", "(II)Z"⟩
def T_saysProgram_t : List (Nat × Instr × Nat) := [(0, .iload_n 1, 1), (1, .iload_n 2, 1), (2, .iadd, 1), (3, .istore_n 3, 1), (4, .aload_n 0, 1), (5, .getfield 15, 3), (8, .iconst 2, 1), (9, .iload_n 3, 1), (10, .imul, 1), (11, .if_icmp .eq 5, 3), (14, .iconst 0, 1), (15, .ireturn, 1), (16, .iconst 0, 1), (17, .istore 4, 2), (19, .iload 4, 2), (21, .iload_n 3, 1), (22, .if_icmp .ge 22, 3), (25, .aload_n 0, 1), (26, .iconst 2, 1), (27, .iload 4, 2), (29, .imul, 1), (30, .invokevirtual 23, 3), (33, .ifCond .ne 5, 3), (36, .iconst 0, 1), (37, .ireturn, 1), (38, .iinc 4 1, 3), (41, .goto (-22), 3), (44, .iconst 1, 1), (45, .ireturn, 1)]
set_option maxRecDepth 100000 in
theorem T_saysProgram_d : ax_T T_saysProgram_c T_saysProgram_t := by unfold ax_T; decide +kernel
abbrev U_init_c : ByteArray := prog_3_method_1_code
def U_init_y : MethodName := ⟨"NumberFunctions$Fault", "<init>", "()V"⟩
def U_init_t : List (Nat × Instr × Nat) := [(0, .aload_n 0, 1), (1, .invokespecial 3, 3), (4, .aload_n 0, 1), (5, .iconst (-1), 1), (6, .putfield 9, 3), (9, .aload_n 0, 1), (10, .iconst (-1), 1), (11, .putfield 15, 3), (14, .return_, 1)]
set_option maxRecDepth 100000 in
theorem U_init_d : ax_T U_init_c U_init_t := by unfold ax_T; decide +kernel
abbrev U_set_c : ByteArray := prog_3_method_2_code
def U_set_y : MethodName := ⟨"NumberFunctions$Fault", "set", "(II)V"⟩
def U_set_t : List (Nat × Instr × Nat) := [(0, .aload_n 0, 1), (1, .iload_n 1, 1), (2, .putfield 9, 3), (5, .aload_n 0, 1), (6, .iload_n 2, 1), (7, .putfield 15, 3), (10, .return_, 1)]
set_option maxRecDepth 100000 in
theorem U_set_d : ax_T U_set_c U_set_t := by unfold ax_T; decide +kernel
abbrev B_within_c : ByteArray := prog_6_method_2_code
def B_within_y : MethodName := ⟨"NumberFunctions$Numbers", "within", "(JJJ)J"⟩
def B_within_t : List (Nat × Instr × Nat) := [(0, .lload_n 2, 1), (1, .lload 4, 2), (3, .lload_n 0, 1), (4, .invokestatic 9, 3), (7, .invokestatic 15, 3), (10, .lreturn, 1)]
set_option maxRecDepth 100000 in
theorem B_within_d : ax_T B_within_c B_within_t := by unfold ax_T; decide +kernel
abbrev B_times_c : ByteArray := prog_6_method_4_code
def B_times_y : MethodName := ⟨"NumberFunctions$Numbers", "times", "(II)I"⟩
def B_times_t : List (Nat × Instr × Nat) := [(0, .iload_n 0, 1), (1, .i2l, 1), (2, .iload_n 1, 1), (3, .i2l, 1), (4, .lmul, 1), (5, .bipush 16, 2), (7, .lshr, 1), (8, .invokestatic 24, 3), (11, .ireturn, 1)]
set_option maxRecDepth 100000 in
theorem B_times_d : ax_T B_times_c B_times_t := by unfold ax_T; decide +kernel
abbrev B_number_c : ByteArray := prog_6_method_3_code
def B_number_y : MethodName := ⟨"NumberFunctions$Numbers", "number", "(J)I"⟩
def B_number_t : List (Nat × Instr × Nat) := [(0, .lload_n 0, 1), (1, .ldc2_w 18, 3), (4, .lcmp, 1), (5, .ifCond .le 6, 3), (8, .ldc 20, 2), (10, .ireturn, 1), (11, .lload_n 0, 1), (12, .ldc2_w 21, 3), (15, .lcmp, 1), (16, .ifCond .ge 8, 3), (19, .ldc 23, 2), (21, .goto 5, 3), (24, .lload_n 0, 1), (25, .l2i, 1), (26, .ireturn, 1)]
set_option maxRecDepth 100000 in
theorem B_number_d : ax_T B_number_c B_number_t := by unfold ax_T; decide +kernel
abbrev B_floor_c : ByteArray := prog_6_method_7_code
def B_floor_y : MethodName := ⟨"NumberFunctions$Numbers", "floor", "(I)I"⟩
def B_floor_t : List (Nat × Instr × Nat) := [(0, .iload_n 0, 1), (1, .ldc 35, 2), (3, .iand, 1), (4, .ireturn, 1)]
set_option maxRecDepth 100000 in
theorem B_floor_d : ax_T B_floor_c B_floor_t := by unfold ax_T; decide +kernel
abbrev B_truncate_c : ByteArray := prog_6_method_8_code
def B_truncate_y : MethodName := ⟨"NumberFunctions$Numbers", "truncate", "(I)I"⟩
def B_truncate_t : List (Nat × Instr × Nat) := [(0, .iload_n 0, 1), (1, .ifCond .ge 12, 3), (4, .iload_n 0, 1), (5, .ineg, 1), (6, .invokestatic 36, 3), (9, .ineg, 1), (10, .goto 7, 3), (13, .iload_n 0, 1), (14, .invokestatic 36, 3), (17, .ireturn, 1)]
set_option maxRecDepth 100000 in
theorem B_truncate_d : ax_T B_truncate_c B_truncate_t := by unfold ax_T; decide +kernel
abbrev B_root_c : ByteArray := prog_6_method_9_code
def B_root_y : MethodName := ⟨"NumberFunctions$Numbers", "root", "(I)I"⟩
def B_root_t : List (Nat × Instr × Nat) := [(0, .lconst 0, 1), (1, .lstore_n 1, 1), (2, .bipush 23, 2), (4, .istore_n 3, 1), (5, .iload_n 3, 1), (6, .ifCond .lt 33, 3), (9, .lload_n 1, 1), (10, .lconst 1, 1), (11, .iload_n 3, 1), (12, .lshl, 1), (13, .ladd, 1), (14, .lstore 4, 2), (16, .lload 4, 2), (18, .lload 4, 2), (20, .lmul, 1), (21, .bipush 16, 2), (23, .lshr, 1), (24, .iload_n 0, 1), (25, .i2l, 1), (26, .lcmp, 1), (27, .ifCond .gt 6, 3), (30, .lload 4, 2), (32, .lstore_n 1, 1), (33, .iinc 3 (-1), 3), (36, .goto (-31), 3), (39, .lload_n 1, 1), (40, .l2i, 1), (41, .ireturn, 1)]
set_option maxRecDepth 100000 in
theorem B_root_d : ax_T B_root_c B_root_t := by unfold ax_T; decide +kernel
abbrev B_over_c : ByteArray := prog_6_method_5_code
def B_over_y : MethodName := ⟨"NumberFunctions$Numbers", "over", "(II)I"⟩
def B_over_t : List (Nat × Instr × Nat) := [(0, .iload_n 1, 1), (1, .ifCond .ne 7, 3), (4, .iconst 0, 1), (5, .goto 17, 3), (8, .iload_n 0, 1), (9, .i2l, 1), (10, .ldc2_w 30, 3), (13, .lmul, 1), (14, .iload_n 1, 1), (15, .i2l, 1), (16, .invokestatic 32, 3), (19, .invokestatic 24, 3), (22, .ireturn, 1)]
set_option maxRecDepth 100000 in
theorem B_over_d : ax_T B_over_c B_over_t := by unfold ax_T; decide +kernel
abbrev B_laid_c : ByteArray := prog_6_method_6_code
def B_laid_y : MethodName := ⟨"NumberFunctions$Numbers", "laid", "(JJJJJ)I"⟩
def B_laid_t : List (Nat × Instr × Nat) := [(0, .lload_n 2, 1), (1, .lload 4, 2), (3, .lcmp, 1), (4, .ifCond .ne 9, 3), (7, .lload 6, 2), (9, .invokestatic 24, 3), (12, .ireturn, 1), (13, .lload 6, 2), (15, .lload_n 0, 1), (16, .lload_n 2, 1), (17, .lsub, 1), (18, .lload 8, 2), (20, .lload 6, 2), (22, .lsub, 1), (23, .lmul, 1), (24, .lload 4, 2), (26, .lload_n 2, 1), (27, .lsub, 1), (28, .invokestatic 32, 3), (31, .ladd, 1), (32, .invokestatic 24, 3), (35, .ireturn, 1)]
set_option maxRecDepth 100000 in
theorem B_laid_d : ax_T B_laid_c B_laid_t := by unfold ax_T; decide +kernel
