abbrev JObject_init_c : ByteArray := object_method_1_code
def JObject_init_y : MethodName := ⟨"java/lang/Object", "<init>", "()V"⟩
def JObject_init_t : List (Nat × Instr × Nat) := [(0, .return_, 1)]
set_option maxRecDepth 100000 in
theorem JObject_init_d : ax_T JObject_init_c JObject_init_t := by unfold ax_T; decide +kernel
abbrev JThrowable_init1_c : ByteArray := prog_28_method_1_code
def JThrowable_init1_y : MethodName := ⟨"java/lang/Throwable", "<init>", "()V"⟩
def JThrowable_init1_t : List (Nat × Instr × Nat) := [(0, .aload_n 0, 1), (1, .invokespecial 1, 3), (4, .aload_n 0, 1), (5, .aload_n 0, 1), (6, .putfield 7, 3), (9, .aload_n 0, 1), (10, .getstatic 13, 3), (13, .putfield 17, 3), (16, .aload_n 0, 1), (17, .getstatic 20, 3), (20, .putfield 24, 3), (23, .aload_n 0, 1), (24, .invokevirtual 27, 3), (27, .pop, 1), (28, .return_, 1)]
set_option maxRecDepth 100000 in
theorem JThrowable_init1_d : ax_T JThrowable_init1_c JThrowable_init1_t := by unfold ax_T; decide +kernel
abbrev JThrowable_fillInStackTrace_c : ByteArray := prog_28_method_18_code
def JThrowable_fillInStackTrace_y : MethodName := ⟨"java/lang/Throwable", "fillInStackTrace", "()Ljava/lang/Throwable;"⟩
def JThrowable_fillInStackTrace_t : List (Nat × Instr × Nat) := [(0, .aload_n 0, 1), (1, .getfield 17, 3), (4, .ifnonnull 10, 3), (7, .aload_n 0, 1), (8, .getfield 198, 3), (11, .ifnull 16, 3), (14, .aload_n 0, 1), (15, .iconst 0, 1), (16, .invokevirtual 202, 3), (19, .pop, 1), (20, .aload_n 0, 1), (21, .getstatic 13, 3), (24, .putfield 17, 3), (27, .aload_n 0, 1), (28, .areturn, 1)]
set_option maxRecDepth 100000 in
theorem JThrowable_fillInStackTrace_d : ax_T JThrowable_fillInStackTrace_c JThrowable_fillInStackTrace_t := by unfold ax_T; decide +kernel
abbrev JThrowable_init2_c : ByteArray := prog_28_method_2_code
def JThrowable_init2_y : MethodName := ⟨"java/lang/Throwable", "<init>", "(Ljava/lang/String;)V"⟩
def JThrowable_init2_t : List (Nat × Instr × Nat) := [(0, .aload_n 0, 1), (1, .invokespecial 1, 3), (4, .aload_n 0, 1), (5, .aload_n 0, 1), (6, .putfield 7, 3), (9, .aload_n 0, 1), (10, .getstatic 13, 3), (13, .putfield 17, 3), (16, .aload_n 0, 1), (17, .getstatic 20, 3), (20, .putfield 24, 3), (23, .aload_n 0, 1), (24, .invokevirtual 27, 3), (27, .pop, 1), (28, .aload_n 0, 1), (29, .aload_n 1, 1), (30, .putfield 31, 3), (33, .return_, 1)]
set_option maxRecDepth 100000 in
theorem JThrowable_init2_d : ax_T JThrowable_init2_c JThrowable_init2_t := by unfold ax_T; decide +kernel
abbrev JIllegalArgumentException_init_c : ByteArray := prog_19_method_2_code
def JIllegalArgumentException_init_y : MethodName := ⟨"java/lang/IllegalArgumentException", "<init>", "(Ljava/lang/String;)V"⟩
def JIllegalArgumentException_init_t : List (Nat × Instr × Nat) := [(0, .aload_n 0, 1), (1, .aload_n 1, 1), (2, .invokespecial 7, 3), (5, .return_, 1)]
set_option maxRecDepth 100000 in
theorem JIllegalArgumentException_init_d : ax_T JIllegalArgumentException_init_c JIllegalArgumentException_init_t := by unfold ax_T; decide +kernel
abbrev JRuntimeException_init_c : ByteArray := prog_23_method_2_code
def JRuntimeException_init_y : MethodName := ⟨"java/lang/RuntimeException", "<init>", "(Ljava/lang/String;)V"⟩
def JRuntimeException_init_t : List (Nat × Instr × Nat) := [(0, .aload_n 0, 1), (1, .aload_n 1, 1), (2, .invokespecial 7, 3), (5, .return_, 1)]
set_option maxRecDepth 100000 in
theorem JRuntimeException_init_d : ax_T JRuntimeException_init_c JRuntimeException_init_t := by unfold ax_T; decide +kernel
abbrev JException_init_c : ByteArray := prog_18_method_2_code
def JException_init_y : MethodName := ⟨"java/lang/Exception", "<init>", "(Ljava/lang/String;)V"⟩
def JException_init_t : List (Nat × Instr × Nat) := [(0, .aload_n 0, 1), (1, .aload_n 1, 1), (2, .invokespecial 7, 3), (5, .return_, 1)]
set_option maxRecDepth 100000 in
theorem JException_init_d : ax_T JException_init_c JException_init_t := by unfold ax_T; decide +kernel
abbrev JMath_max1_c : ByteArray := prog_22_method_65_code
def JMath_max1_y : MethodName := ⟨"java/lang/Math", "max", "(II)I"⟩
def JMath_max1_t : List (Nat × Instr × Nat) := [(0, .iload_n 0, 1), (1, .iload_n 1, 1), (2, .if_icmp .lt 7, 3), (5, .iload_n 0, 1), (6, .goto 4, 3), (9, .iload_n 1, 1), (10, .ireturn, 1)]
set_option maxRecDepth 100000 in
theorem JMath_max1_d : ax_T JMath_max1_c JMath_max1_t := by unfold ax_T; decide +kernel
abbrev JMath_min1_c : ByteArray := prog_22_method_69_code
def JMath_min1_y : MethodName := ⟨"java/lang/Math", "min", "(II)I"⟩
def JMath_min1_t : List (Nat × Instr × Nat) := [(0, .iload_n 0, 1), (1, .iload_n 1, 1), (2, .if_icmp .gt 7, 3), (5, .iload_n 0, 1), (6, .goto 4, 3), (9, .iload_n 1, 1), (10, .ireturn, 1)]
set_option maxRecDepth 100000 in
theorem JMath_min1_d : ax_T JMath_min1_c JMath_min1_t := by unfold ax_T; decide +kernel
abbrev JMath_min2_c : ByteArray := prog_22_method_70_code
def JMath_min2_y : MethodName := ⟨"java/lang/Math", "min", "(JJ)J"⟩
def JMath_min2_t : List (Nat × Instr × Nat) := [(0, .lload_n 0, 1), (1, .lload_n 2, 1), (2, .lcmp, 1), (3, .ifCond .gt 7, 3), (6, .lload_n 0, 1), (7, .goto 4, 3), (10, .lload_n 2, 1), (11, .lreturn, 1)]
set_option maxRecDepth 100000 in
theorem JMath_min2_d : ax_T JMath_min2_c JMath_min2_t := by unfold ax_T; decide +kernel
abbrev JMath_max2_c : ByteArray := prog_22_method_66_code
def JMath_max2_y : MethodName := ⟨"java/lang/Math", "max", "(JJ)J"⟩
def JMath_max2_t : List (Nat × Instr × Nat) := [(0, .lload_n 0, 1), (1, .lload_n 2, 1), (2, .lcmp, 1), (3, .ifCond .lt 7, 3), (6, .lload_n 0, 1), (7, .goto 4, 3), (10, .lload_n 2, 1), (11, .lreturn, 1)]
set_option maxRecDepth 100000 in
theorem JMath_max2_d : ax_T JMath_max2_c JMath_max2_t := by unfold ax_T; decide +kernel
abbrev JMath_abs_c : ByteArray := prog_22_method_59_code
def JMath_abs_y : MethodName := ⟨"java/lang/Math", "abs", "(I)I"⟩
def JMath_abs_t : List (Nat × Instr × Nat) := [(0, .iload_n 0, 1), (1, .ifCond .ge 8, 3), (4, .iload_n 0, 1), (5, .ineg, 1), (6, .goto 4, 3), (9, .iload_n 0, 1), (10, .ireturn, 1)]
set_option maxRecDepth 100000 in
theorem JMath_abs_d : ax_T JMath_abs_c JMath_abs_t := by unfold ax_T; decide +kernel
abbrev JMath_floorDiv_c : ByteArray := prog_22_method_49_code
def JMath_floorDiv_y : MethodName := ⟨"java/lang/Math", "floorDiv", "(JJ)J"⟩
def JMath_floorDiv_t : List (Nat × Instr × Nat) := [(0, .lload_n 0, 1), (1, .lload_n 2, 1), (2, .ldiv, 1), (3, .lstore 4, 2), (5, .lload_n 0, 1), (6, .lload_n 2, 1), (7, .lxor, 1), (8, .lconst 0, 1), (9, .lcmp, 1), (10, .ifCond .ge 17, 3), (13, .lload 4, 2), (15, .lload_n 2, 1), (16, .lmul, 1), (17, .lload_n 0, 1), (18, .lcmp, 1), (19, .ifCond .eq 8, 3), (22, .lload 4, 2), (24, .lconst 1, 1), (25, .lsub, 1), (26, .lreturn, 1), (27, .lload 4, 2), (29, .lreturn, 1)]
set_option maxRecDepth 100000 in
theorem JMath_floorDiv_d : ax_T JMath_floorDiv_c JMath_floorDiv_t := by unfold ax_T; decide +kernel
abbrev JMath_floorMod1_c : ByteArray := prog_22_method_50_code
def JMath_floorMod1_y : MethodName := ⟨"java/lang/Math", "floorMod", "(II)I"⟩
def JMath_floorMod1_t : List (Nat × Instr × Nat) := [(0, .iload_n 0, 1), (1, .iload_n 1, 1), (2, .irem, 1), (3, .istore_n 2, 1), (4, .iload_n 0, 1), (5, .iload_n 1, 1), (6, .ixor, 1), (7, .ifCond .ge 11, 3), (10, .iload_n 2, 1), (11, .ifCond .eq 7, 3), (14, .iload_n 2, 1), (15, .iload_n 1, 1), (16, .iadd, 1), (17, .ireturn, 1), (18, .iload_n 2, 1), (19, .ireturn, 1)]
set_option maxRecDepth 100000 in
theorem JMath_floorMod1_d : ax_T JMath_floorMod1_c JMath_floorMod1_t := by unfold ax_T; decide +kernel
abbrev JMath_floorMod2_c : ByteArray := prog_22_method_52_code
def JMath_floorMod2_y : MethodName := ⟨"java/lang/Math", "floorMod", "(JJ)J"⟩
def JMath_floorMod2_t : List (Nat × Instr × Nat) := [(0, .lload_n 0, 1), (1, .lload_n 2, 1), (2, .lrem, 1), (3, .lstore 4, 2), (5, .lload_n 0, 1), (6, .lload_n 2, 1), (7, .lxor, 1), (8, .lconst 0, 1), (9, .lcmp, 1), (10, .ifCond .ge 15, 3), (13, .lload 4, 2), (15, .lconst 0, 1), (16, .lcmp, 1), (17, .ifCond .eq 8, 3), (20, .lload 4, 2), (22, .lload_n 2, 1), (23, .ladd, 1), (24, .lreturn, 1), (25, .lload 4, 2), (27, .lreturn, 1)]
set_option maxRecDepth 100000 in
theorem JMath_floorMod2_d : ax_T JMath_floorMod2_c JMath_floorMod2_t := by unfold ax_T; decide +kernel
abbrev JIllegalStateException_init_c : ByteArray := prog_20_method_2_code
def JIllegalStateException_init_y : MethodName := ⟨"java/lang/IllegalStateException", "<init>", "(Ljava/lang/String;)V"⟩
def JIllegalStateException_init_t : List (Nat × Instr × Nat) := [(0, .aload_n 0, 1), (1, .aload_n 1, 1), (2, .invokespecial 7, 3), (5, .return_, 1)]
set_option maxRecDepth 100000 in
theorem JIllegalStateException_init_d : ax_T JIllegalStateException_init_c JIllegalStateException_init_t := by unfold ax_T; decide +kernel
abbrev JArrays_copyOf1_c : ByteArray := prog_29_method_123_code
def JArrays_copyOf1_y : MethodName := ⟨"java/util/Arrays", "copyOf", "([II)[I"⟩
def JArrays_copyOf1_t : List (Nat × Instr × Nat) := [(0, .iload_n 1, 1), (1, .aload_n 0, 1), (2, .arraylength, 1), (3, .if_icmp .ne 11, 3), (6, .aload_n 0, 1), (7, .invokevirtual 316, 3), (10, .checkcast 317, 3), (13, .areturn, 1), (14, .iload_n 1, 1), (15, .newarray .int, 2), (17, .astore_n 2, 1), (18, .aload_n 0, 1), (19, .iconst 0, 1), (20, .aload_n 2, 1), (21, .iconst 0, 1), (22, .aload_n 0, 1), (23, .arraylength, 1), (24, .iload_n 1, 1), (25, .invokestatic 304, 3), (28, .invokestatic 150, 3), (31, .aload_n 2, 1), (32, .areturn, 1)]
set_option maxRecDepth 100000 in
theorem JArrays_copyOf1_d : ax_T JArrays_copyOf1_c JArrays_copyOf1_t := by unfold ax_T; decide +kernel
abbrev JArrays_copyOf2_c : ByteArray := prog_29_method_121_code
def JArrays_copyOf2_y : MethodName := ⟨"java/util/Arrays", "copyOf", "([BI)[B"⟩
def JArrays_copyOf2_t : List (Nat × Instr × Nat) := [(0, .iload_n 1, 1), (1, .aload_n 0, 1), (2, .arraylength, 1), (3, .if_icmp .ne 11, 3), (6, .aload_n 0, 1), (7, .invokevirtual 310, 3), (10, .checkcast 311, 3), (13, .areturn, 1), (14, .iload_n 1, 1), (15, .newarray .byte, 2), (17, .astore_n 2, 1), (18, .aload_n 0, 1), (19, .iconst 0, 1), (20, .aload_n 2, 1), (21, .iconst 0, 1), (22, .aload_n 0, 1), (23, .arraylength, 1), (24, .iload_n 1, 1), (25, .invokestatic 304, 3), (28, .invokestatic 150, 3), (31, .aload_n 2, 1), (32, .areturn, 1)]
set_option maxRecDepth 100000 in
theorem JArrays_copyOf2_d : ax_T JArrays_copyOf2_c JArrays_copyOf2_t := by unfold ax_T; decide +kernel
abbrev JString_length_c : ByteArray := prog_24_method_54_code
def JString_length_y : MethodName := ⟨"java/lang/String", "length", "()I"⟩
def JString_length_t : List (Nat × Instr × Nat) := [(0, .aload_n 0, 1), (1, .getfield 9, 3), (4, .arraylength, 1), (5, .aload_n 0, 1), (6, .invokevirtual 335, 3), (9, .ishr, 1), (10, .ireturn, 1)]
set_option maxRecDepth 100000 in
theorem JString_length_d : ax_T JString_length_c JString_length_t := by unfold ax_T; decide +kernel
abbrev JString_coder_c : ByteArray := prog_24_method_152_code
def JString_coder_y : MethodName := ⟨"java/lang/String", "coder", "()B"⟩
def JString_coder_t : List (Nat × Instr × Nat) := [(0, .getstatic 38, 3), (3, .ifCond .eq 10, 3), (6, .aload_n 0, 1), (7, .getfield 15, 3), (10, .goto 4, 3), (13, .iconst 1, 1), (14, .ireturn, 1)]
set_option maxRecDepth 100000 in
theorem JString_coder_d : ax_T JString_coder_c JString_coder_t := by unfold ax_T; decide +kernel
abbrev JString_charAt_c : ByteArray := prog_24_method_56_code
def JString_charAt_y : MethodName := ⟨"java/lang/String", "charAt", "(I)C"⟩
def JString_charAt_t : List (Nat × Instr × Nat) := [(0, .aload_n 0, 1), (1, .invokevirtual 492, 3), (4, .ifCond .eq 12, 3), (7, .aload_n 0, 1), (8, .getfield 9, 3), (11, .iload_n 1, 1), (12, .invokestatic 495, 3), (15, .ireturn, 1), (16, .aload_n 0, 1), (17, .getfield 9, 3), (20, .iload_n 1, 1), (21, .invokestatic 498, 3), (24, .ireturn, 1)]
set_option maxRecDepth 100000 in
theorem JString_charAt_d : ax_T JString_charAt_c JString_charAt_t := by unfold ax_T; decide +kernel
abbrev JString_isLatin1_c : ByteArray := prog_24_method_154_code
def JString_isLatin1_y : MethodName := ⟨"java/lang/String", "isLatin1", "()Z"⟩
def JString_isLatin1_t : List (Nat × Instr × Nat) := [(0, .getstatic 38, 3), (3, .ifCond .eq 14, 3), (6, .aload_n 0, 1), (7, .getfield 15, 3), (10, .ifCond .ne 7, 3), (13, .iconst 1, 1), (14, .goto 4, 3), (17, .iconst 0, 1), (18, .ireturn, 1)]
set_option maxRecDepth 100000 in
theorem JString_isLatin1_d : ax_T JString_isLatin1_c JString_isLatin1_t := by unfold ax_T; decide +kernel
abbrev JString_checkIndex_c : ByteArray := prog_24_method_155_code
def JString_checkIndex_y : MethodName := ⟨"java/lang/String", "checkIndex", "(II)V"⟩
def JString_checkIndex_t : List (Nat × Instr × Nat) := [(0, .iload_n 0, 1), (1, .iload_n 1, 1), (2, .getstatic 1053, 3), (5, .invokestatic 1059, 3), (8, .pop, 1), (9, .return_, 1)]
set_option maxRecDepth 100000 in
theorem JString_checkIndex_d : ax_T JString_checkIndex_c JString_checkIndex_t := by unfold ax_T; decide +kernel
abbrev JStringLatin1_charAt_c : ByteArray := prog_25_method_2_code
def JStringLatin1_charAt_y : MethodName := ⟨"java/lang/StringLatin1", "charAt", "([BI)C"⟩
def JStringLatin1_charAt_t : List (Nat × Instr × Nat) := [(0, .iload_n 1, 1), (1, .aload_n 0, 1), (2, .arraylength, 1), (3, .invokestatic 9, 3), (6, .aload_n 0, 1), (7, .iload_n 1, 1), (8, .baload, 1), (9, .sipush 255, 3), (12, .iand, 1), (13, .i2c, 1), (14, .ireturn, 1)]
set_option maxRecDepth 100000 in
theorem JStringLatin1_charAt_d : ax_T JStringLatin1_charAt_c JStringLatin1_charAt_t := by unfold ax_T; decide +kernel
abbrev JPreconditions_checkIndex_c : ByteArray := prog_30_method_11_code
def JPreconditions_checkIndex_y : MethodName := ⟨"jdk/internal/util/Preconditions", "checkIndex", "(IILjava/util/function/BiFunction;)I"⟩
def JPreconditions_checkIndex_t : List (Nat × Instr × Nat) := [(0, .iload_n 0, 1), (1, .ifCond .lt 8, 3), (4, .iload_n 0, 1), (5, .iload_n 1, 1), (6, .if_icmp .lt 10, 3), (9, .aload_n 2, 1), (10, .iload_n 0, 1), (11, .iload_n 1, 1), (12, .invokestatic 95, 3), (15, .athrow, 1), (16, .iload_n 0, 1), (17, .ireturn, 1)]
set_option maxRecDepth 100000 in
theorem JPreconditions_checkIndex_d : ax_T JPreconditions_checkIndex_c JPreconditions_checkIndex_t := by unfold ax_T; decide +kernel
abbrev JStringUTF16_charAt_c : ByteArray := prog_26_method_83_code
def JStringUTF16_charAt_y : MethodName := ⟨"java/lang/StringUTF16", "charAt", "([BI)C"⟩
def JStringUTF16_charAt_t : List (Nat × Instr × Nat) := [(0, .iload_n 1, 1), (1, .aload_n 0, 1), (2, .invokestatic 67, 3), (5, .aload_n 0, 1), (6, .iload_n 1, 1), (7, .invokestatic 71, 3), (10, .ireturn, 1)]
set_option maxRecDepth 100000 in
theorem JStringUTF16_charAt_d : ax_T JStringUTF16_charAt_c JStringUTF16_charAt_t := by unfold ax_T; decide +kernel
abbrev JStringUTF16_checkIndex_c : ByteArray := prog_26_method_91_code
def JStringUTF16_checkIndex_y : MethodName := ⟨"java/lang/StringUTF16", "checkIndex", "(I[B)V"⟩
def JStringUTF16_checkIndex_t : List (Nat × Instr × Nat) := [(0, .iload_n 0, 1), (1, .aload_n 1, 1), (2, .invokestatic 48, 3), (5, .invokestatic 414, 3), (8, .return_, 1)]
set_option maxRecDepth 100000 in
theorem JStringUTF16_checkIndex_d : ax_T JStringUTF16_checkIndex_c JStringUTF16_checkIndex_t := by unfold ax_T; decide +kernel
abbrev JStringUTF16_length_c : ByteArray := prog_26_method_6_code
def JStringUTF16_length_y : MethodName := ⟨"java/lang/StringUTF16", "length", "([B)I"⟩
def JStringUTF16_length_t : List (Nat × Instr × Nat) := [(0, .aload_n 0, 1), (1, .arraylength, 1), (2, .iconst 1, 1), (3, .ishr, 1), (4, .ireturn, 1)]
set_option maxRecDepth 100000 in
theorem JStringUTF16_length_d : ax_T JStringUTF16_length_c JStringUTF16_length_t := by unfold ax_T; decide +kernel
abbrev JStringUTF16_getChar_c : ByteArray := prog_26_method_5_code
def JStringUTF16_getChar_y : MethodName := ⟨"java/lang/StringUTF16", "getChar", "([BI)C"⟩
def JStringUTF16_getChar_t : List (Nat × Instr × Nat) := [(0, .getstatic 44, 3), (3, .ifCond .ne 25, 3), (6, .iload_n 1, 1), (7, .ifCond .lt 11, 3), (10, .iload_n 1, 1), (11, .aload_n 0, 1), (12, .invokestatic 48, 3), (15, .if_icmp .lt 13, 3), (18, .new 52, 3), (21, .dup, 1), (22, .ldc 54, 2), (24, .invokespecial 56, 3), (27, .athrow, 1), (28, .iload_n 1, 1), (29, .iconst 1, 1), (30, .ishl, 1), (31, .istore_n 1, 1), (32, .aload_n 0, 1), (33, .iload_n 1, 1), (34, .iinc 1 1, 3), (37, .baload, 1), (38, .sipush 255, 3), (41, .iand, 1), (42, .getstatic 59, 3), (45, .ishl, 1), (46, .aload_n 0, 1), (47, .iload_n 1, 1), (48, .baload, 1), (49, .sipush 255, 3), (52, .iand, 1), (53, .getstatic 63, 3), (56, .ishl, 1), (57, .ior, 1), (58, .i2c, 1), (59, .ireturn, 1)]
set_option maxRecDepth 100000 in
theorem JStringUTF16_getChar_d : ax_T JStringUTF16_getChar_c JStringUTF16_getChar_t := by unfold ax_T; decide +kernel
abbrev JIndexOutOfBoundsException_init_c : ByteArray := prog_21_method_2_code
def JIndexOutOfBoundsException_init_y : MethodName := ⟨"java/lang/IndexOutOfBoundsException", "<init>", "(Ljava/lang/String;)V"⟩
def JIndexOutOfBoundsException_init_t : List (Nat × Instr × Nat) := [(0, .aload_n 0, 1), (1, .aload_n 1, 1), (2, .invokespecial 7, 3), (5, .return_, 1)]
set_option maxRecDepth 100000 in
theorem JIndexOutOfBoundsException_init_d : ax_T JIndexOutOfBoundsException_init_c JIndexOutOfBoundsException_init_t := by unfold ax_T; decide +kernel
abbrev JEnum_ordinal_c : ByteArray := prog_17_method_2_code
def JEnum_ordinal_y : MethodName := ⟨"java/lang/Enum", "ordinal", "()I"⟩
def JEnum_ordinal_t : List (Nat × Instr × Nat) := [(0, .aload_n 0, 1), (1, .getfield 7, 3), (4, .ireturn, 1)]
set_option maxRecDepth 100000 in
theorem JEnum_ordinal_d : ax_T JEnum_ordinal_c JEnum_ordinal_t := by unfold ax_T; decide +kernel
